theorem zz_sar0 (a : Int32) : (a >>> ((0 : Int32) &&& 31)).toInt = a.toInt / ((2 ^ 0 : Nat) : Int) := by
  show (BitVec.sshiftRight' a.toBitVec (((0 : Int32) &&& 31).toBitVec.smod 32)).toInt = _
  rw [BitVec.toInt_sshiftRight', show (((0 : Int32) &&& 31).toBitVec.smod 32).toNat = 0 from by decide, Int.shiftRight_eq_div_pow]
  rfl
theorem zz_sar1 (a : Int32) : (a >>> ((1 : Int32) &&& 31)).toInt = a.toInt / ((2 ^ 1 : Nat) : Int) := by
  show (BitVec.sshiftRight' a.toBitVec (((1 : Int32) &&& 31).toBitVec.smod 32)).toInt = _
  rw [BitVec.toInt_sshiftRight', show (((1 : Int32) &&& 31).toBitVec.smod 32).toNat = 1 from by decide, Int.shiftRight_eq_div_pow]
  rfl
theorem zz_sar2 (a : Int32) : (a >>> ((2 : Int32) &&& 31)).toInt = a.toInt / ((2 ^ 2 : Nat) : Int) := by
  show (BitVec.sshiftRight' a.toBitVec (((2 : Int32) &&& 31).toBitVec.smod 32)).toInt = _
  rw [BitVec.toInt_sshiftRight', show (((2 : Int32) &&& 31).toBitVec.smod 32).toNat = 2 from by decide, Int.shiftRight_eq_div_pow]
  rfl
theorem zz_sar3 (a : Int32) : (a >>> ((3 : Int32) &&& 31)).toInt = a.toInt / ((2 ^ 3 : Nat) : Int) := by
  show (BitVec.sshiftRight' a.toBitVec (((3 : Int32) &&& 31).toBitVec.smod 32)).toInt = _
  rw [BitVec.toInt_sshiftRight', show (((3 : Int32) &&& 31).toBitVec.smod 32).toNat = 3 from by decide, Int.shiftRight_eq_div_pow]
  rfl
theorem zz_sar4 (a : Int32) : (a >>> ((4 : Int32) &&& 31)).toInt = a.toInt / ((2 ^ 4 : Nat) : Int) := by
  show (BitVec.sshiftRight' a.toBitVec (((4 : Int32) &&& 31).toBitVec.smod 32)).toInt = _
  rw [BitVec.toInt_sshiftRight', show (((4 : Int32) &&& 31).toBitVec.smod 32).toNat = 4 from by decide, Int.shiftRight_eq_div_pow]
  rfl
theorem zz_sar5 (a : Int32) : (a >>> ((5 : Int32) &&& 31)).toInt = a.toInt / ((2 ^ 5 : Nat) : Int) := by
  show (BitVec.sshiftRight' a.toBitVec (((5 : Int32) &&& 31).toBitVec.smod 32)).toInt = _
  rw [BitVec.toInt_sshiftRight', show (((5 : Int32) &&& 31).toBitVec.smod 32).toNat = 5 from by decide, Int.shiftRight_eq_div_pow]
  rfl
theorem zz_sar6 (a : Int32) : (a >>> ((6 : Int32) &&& 31)).toInt = a.toInt / ((2 ^ 6 : Nat) : Int) := by
  show (BitVec.sshiftRight' a.toBitVec (((6 : Int32) &&& 31).toBitVec.smod 32)).toInt = _
  rw [BitVec.toInt_sshiftRight', show (((6 : Int32) &&& 31).toBitVec.smod 32).toNat = 6 from by decide, Int.shiftRight_eq_div_pow]
  rfl
theorem zz_sar7 (a : Int32) : (a >>> ((7 : Int32) &&& 31)).toInt = a.toInt / ((2 ^ 7 : Nat) : Int) := by
  show (BitVec.sshiftRight' a.toBitVec (((7 : Int32) &&& 31).toBitVec.smod 32)).toInt = _
  rw [BitVec.toInt_sshiftRight', show (((7 : Int32) &&& 31).toBitVec.smod 32).toNat = 7 from by decide, Int.shiftRight_eq_div_pow]
  rfl
theorem zz_sar8 (a : Int32) : (a >>> ((8 : Int32) &&& 31)).toInt = a.toInt / ((2 ^ 8 : Nat) : Int) := by
  show (BitVec.sshiftRight' a.toBitVec (((8 : Int32) &&& 31).toBitVec.smod 32)).toInt = _
  rw [BitVec.toInt_sshiftRight', show (((8 : Int32) &&& 31).toBitVec.smod 32).toNat = 8 from by decide, Int.shiftRight_eq_div_pow]
  rfl
theorem zz_sar9 (a : Int32) : (a >>> ((9 : Int32) &&& 31)).toInt = a.toInt / ((2 ^ 9 : Nat) : Int) := by
  show (BitVec.sshiftRight' a.toBitVec (((9 : Int32) &&& 31).toBitVec.smod 32)).toInt = _
  rw [BitVec.toInt_sshiftRight', show (((9 : Int32) &&& 31).toBitVec.smod 32).toNat = 9 from by decide, Int.shiftRight_eq_div_pow]
  rfl
theorem zz_sar10 (a : Int32) : (a >>> ((10 : Int32) &&& 31)).toInt = a.toInt / ((2 ^ 10 : Nat) : Int) := by
  show (BitVec.sshiftRight' a.toBitVec (((10 : Int32) &&& 31).toBitVec.smod 32)).toInt = _
  rw [BitVec.toInt_sshiftRight', show (((10 : Int32) &&& 31).toBitVec.smod 32).toNat = 10 from by decide, Int.shiftRight_eq_div_pow]
  rfl
theorem zz_listOfC (K k : Nat) (p0 : Int32) (a0 : 1 ≤ p0.toInt) (a1 : p0.toInt ≤ 1024) : zz_ok (m_X4_listOf_L6 K (k + 11) p0 0 1 0) (fun z => z.1.toInt = (zz_lo p0.toNatClampNeg : Int)) := by
  have e0 := zz_tnI p0 (by omega)
  rw [m_X4_listOf_L6_s]
  refine zz_ok_ite (fun c => absurd c (by decide)) (fun _ => ?_)
  rw [show ((1 : Int32) + (1 : Int32)) = (2 : Int32) from by decide]
  refine zz_ok_ite (fun c => ?_) (fun c => ?_)
  · have c := Int32.lt_iff_toInt_lt.mp c
    rw [show (2 : Int32).toInt = 2 from rfl] at c
    refine zz_ok_some ?_
    show (((4 : Int32) * (0 : Int32)) + (((4 : Int32) * (p0 - (1 : Int32))) >>> ((0 : Int32) &&& 31))).toInt = _
    rw [show ((4 : Int32) * (0 : Int32)) = (0 : Int32) from by decide]
    obtain ⟨k1, f1⟩ := zz_sub p0 (1 : Int32)
    rw [show (1 : Int32).toInt = 1 from rfl] at f1
    have g1 := zz_rg (p0 - (1 : Int32))
    obtain ⟨k2, f2⟩ := zz_mul (4 : Int32) (p0 - (1 : Int32))
    rw [show (4 : Int32).toInt = 4 from rfl] at f2
    have g2 := zz_rg ((4 : Int32) * (p0 - (1 : Int32)))
    have f3 := zz_sar0 ((4 : Int32) * (p0 - (1 : Int32)))
    rw [show ((2 ^ 0 : Nat) : Int) = 1 from rfl] at f3
    obtain ⟨k4, f4⟩ := zz_add (0 : Int32) (((4 : Int32) * (p0 - (1 : Int32))) >>> ((0 : Int32) &&& 31))
    rw [show (0 : Int32).toInt = 0 from rfl] at f4
    have g4 := zz_rg ((0 : Int32) + (((4 : Int32) * (p0 - (1 : Int32))) >>> ((0 : Int32) &&& 31)))
    have g3 : zz_lo p0.toNatClampNeg = 0 + 4 * (p0.toNatClampNeg - 1) / 1 := by
      unfold zz_lo
      rw [if_pos (by omega)]
      omega
    omega
  have c := zz_nlt c
  rw [show (2 : Int32).toInt = 2 from rfl] at c
  rw [show ((0 : Int32) + 1) = (1 : Int32) from by decide]
  rw [m_X4_listOf_L6_s]
  refine zz_ok_ite (fun c => absurd c (by decide)) (fun _ => ?_)
  rw [show ((2 : Int32) + (2 : Int32)) = (4 : Int32) from by decide]
  refine zz_ok_ite (fun c => ?_) (fun c => ?_)
  · have c := Int32.lt_iff_toInt_lt.mp c
    rw [show (4 : Int32).toInt = 4 from rfl] at c
    refine zz_ok_some ?_
    show (((4 : Int32) * (1 : Int32)) + (((4 : Int32) * (p0 - (2 : Int32))) >>> ((1 : Int32) &&& 31))).toInt = _
    rw [show ((4 : Int32) * (1 : Int32)) = (4 : Int32) from by decide]
    obtain ⟨k1, f1⟩ := zz_sub p0 (2 : Int32)
    rw [show (2 : Int32).toInt = 2 from rfl] at f1
    have g1 := zz_rg (p0 - (2 : Int32))
    obtain ⟨k2, f2⟩ := zz_mul (4 : Int32) (p0 - (2 : Int32))
    rw [show (4 : Int32).toInt = 4 from rfl] at f2
    have g2 := zz_rg ((4 : Int32) * (p0 - (2 : Int32)))
    have f3 := zz_sar1 ((4 : Int32) * (p0 - (2 : Int32)))
    rw [show ((2 ^ 1 : Nat) : Int) = 2 from rfl] at f3
    obtain ⟨k4, f4⟩ := zz_add (4 : Int32) (((4 : Int32) * (p0 - (2 : Int32))) >>> ((1 : Int32) &&& 31))
    rw [show (4 : Int32).toInt = 4 from rfl] at f4
    have g4 := zz_rg ((4 : Int32) + (((4 : Int32) * (p0 - (2 : Int32))) >>> ((1 : Int32) &&& 31)))
    have g3 : zz_lo p0.toNatClampNeg = 4 + 4 * (p0.toNatClampNeg - 2) / 2 := by
      unfold zz_lo
      rw [if_neg (by omega)]
      rw [if_pos (by omega)]
    omega
  have c := zz_nlt c
  rw [show (4 : Int32).toInt = 4 from rfl] at c
  rw [show ((1 : Int32) + 1) = (2 : Int32) from by decide]
  rw [m_X4_listOf_L6_s]
  refine zz_ok_ite (fun c => absurd c (by decide)) (fun _ => ?_)
  rw [show ((4 : Int32) + (4 : Int32)) = (8 : Int32) from by decide]
  refine zz_ok_ite (fun c => ?_) (fun c => ?_)
  · have c := Int32.lt_iff_toInt_lt.mp c
    rw [show (8 : Int32).toInt = 8 from rfl] at c
    refine zz_ok_some ?_
    show (((4 : Int32) * (2 : Int32)) + (((4 : Int32) * (p0 - (4 : Int32))) >>> ((2 : Int32) &&& 31))).toInt = _
    rw [show ((4 : Int32) * (2 : Int32)) = (8 : Int32) from by decide]
    obtain ⟨k1, f1⟩ := zz_sub p0 (4 : Int32)
    rw [show (4 : Int32).toInt = 4 from rfl] at f1
    have g1 := zz_rg (p0 - (4 : Int32))
    obtain ⟨k2, f2⟩ := zz_mul (4 : Int32) (p0 - (4 : Int32))
    rw [show (4 : Int32).toInt = 4 from rfl] at f2
    have g2 := zz_rg ((4 : Int32) * (p0 - (4 : Int32)))
    have f3 := zz_sar2 ((4 : Int32) * (p0 - (4 : Int32)))
    rw [show ((2 ^ 2 : Nat) : Int) = 4 from rfl] at f3
    obtain ⟨k4, f4⟩ := zz_add (8 : Int32) (((4 : Int32) * (p0 - (4 : Int32))) >>> ((2 : Int32) &&& 31))
    rw [show (8 : Int32).toInt = 8 from rfl] at f4
    have g4 := zz_rg ((8 : Int32) + (((4 : Int32) * (p0 - (4 : Int32))) >>> ((2 : Int32) &&& 31)))
    have g3 : zz_lo p0.toNatClampNeg = 8 + 4 * (p0.toNatClampNeg - 4) / 4 := by
      unfold zz_lo
      rw [if_neg (by omega)]
      rw [if_neg (by omega)]
      rw [if_pos (by omega)]
    omega
  have c := zz_nlt c
  rw [show (8 : Int32).toInt = 8 from rfl] at c
  rw [show ((2 : Int32) + 1) = (3 : Int32) from by decide]
  rw [m_X4_listOf_L6_s]
  refine zz_ok_ite (fun c => absurd c (by decide)) (fun _ => ?_)
  rw [show ((8 : Int32) + (8 : Int32)) = (16 : Int32) from by decide]
  refine zz_ok_ite (fun c => ?_) (fun c => ?_)
  · have c := Int32.lt_iff_toInt_lt.mp c
    rw [show (16 : Int32).toInt = 16 from rfl] at c
    refine zz_ok_some ?_
    show (((4 : Int32) * (3 : Int32)) + (((4 : Int32) * (p0 - (8 : Int32))) >>> ((3 : Int32) &&& 31))).toInt = _
    rw [show ((4 : Int32) * (3 : Int32)) = (12 : Int32) from by decide]
    obtain ⟨k1, f1⟩ := zz_sub p0 (8 : Int32)
    rw [show (8 : Int32).toInt = 8 from rfl] at f1
    have g1 := zz_rg (p0 - (8 : Int32))
    obtain ⟨k2, f2⟩ := zz_mul (4 : Int32) (p0 - (8 : Int32))
    rw [show (4 : Int32).toInt = 4 from rfl] at f2
    have g2 := zz_rg ((4 : Int32) * (p0 - (8 : Int32)))
    have f3 := zz_sar3 ((4 : Int32) * (p0 - (8 : Int32)))
    rw [show ((2 ^ 3 : Nat) : Int) = 8 from rfl] at f3
    obtain ⟨k4, f4⟩ := zz_add (12 : Int32) (((4 : Int32) * (p0 - (8 : Int32))) >>> ((3 : Int32) &&& 31))
    rw [show (12 : Int32).toInt = 12 from rfl] at f4
    have g4 := zz_rg ((12 : Int32) + (((4 : Int32) * (p0 - (8 : Int32))) >>> ((3 : Int32) &&& 31)))
    have g3 : zz_lo p0.toNatClampNeg = 12 + 4 * (p0.toNatClampNeg - 8) / 8 := by
      unfold zz_lo
      rw [if_neg (by omega)]
      rw [if_neg (by omega)]
      rw [if_neg (by omega)]
      rw [if_pos (by omega)]
    omega
  have c := zz_nlt c
  rw [show (16 : Int32).toInt = 16 from rfl] at c
  rw [show ((3 : Int32) + 1) = (4 : Int32) from by decide]
  rw [m_X4_listOf_L6_s]
  refine zz_ok_ite (fun c => absurd c (by decide)) (fun _ => ?_)
  rw [show ((16 : Int32) + (16 : Int32)) = (32 : Int32) from by decide]
  refine zz_ok_ite (fun c => ?_) (fun c => ?_)
  · have c := Int32.lt_iff_toInt_lt.mp c
    rw [show (32 : Int32).toInt = 32 from rfl] at c
    refine zz_ok_some ?_
    show (((4 : Int32) * (4 : Int32)) + (((4 : Int32) * (p0 - (16 : Int32))) >>> ((4 : Int32) &&& 31))).toInt = _
    rw [show ((4 : Int32) * (4 : Int32)) = (16 : Int32) from by decide]
    obtain ⟨k1, f1⟩ := zz_sub p0 (16 : Int32)
    rw [show (16 : Int32).toInt = 16 from rfl] at f1
    have g1 := zz_rg (p0 - (16 : Int32))
    obtain ⟨k2, f2⟩ := zz_mul (4 : Int32) (p0 - (16 : Int32))
    rw [show (4 : Int32).toInt = 4 from rfl] at f2
    have g2 := zz_rg ((4 : Int32) * (p0 - (16 : Int32)))
    have f3 := zz_sar4 ((4 : Int32) * (p0 - (16 : Int32)))
    rw [show ((2 ^ 4 : Nat) : Int) = 16 from rfl] at f3
    obtain ⟨k4, f4⟩ := zz_add (16 : Int32) (((4 : Int32) * (p0 - (16 : Int32))) >>> ((4 : Int32) &&& 31))
    rw [show (16 : Int32).toInt = 16 from rfl] at f4
    have g4 := zz_rg ((16 : Int32) + (((4 : Int32) * (p0 - (16 : Int32))) >>> ((4 : Int32) &&& 31)))
    have g3 : zz_lo p0.toNatClampNeg = 16 + 4 * (p0.toNatClampNeg - 16) / 16 := by
      unfold zz_lo
      rw [if_neg (by omega)]
      rw [if_neg (by omega)]
      rw [if_neg (by omega)]
      rw [if_neg (by omega)]
      rw [if_pos (by omega)]
    omega
  have c := zz_nlt c
  rw [show (32 : Int32).toInt = 32 from rfl] at c
  rw [show ((4 : Int32) + 1) = (5 : Int32) from by decide]
  rw [m_X4_listOf_L6_s]
  refine zz_ok_ite (fun c => absurd c (by decide)) (fun _ => ?_)
  rw [show ((32 : Int32) + (32 : Int32)) = (64 : Int32) from by decide]
  refine zz_ok_ite (fun c => ?_) (fun c => ?_)
  · have c := Int32.lt_iff_toInt_lt.mp c
    rw [show (64 : Int32).toInt = 64 from rfl] at c
    refine zz_ok_some ?_
    show (((4 : Int32) * (5 : Int32)) + (((4 : Int32) * (p0 - (32 : Int32))) >>> ((5 : Int32) &&& 31))).toInt = _
    rw [show ((4 : Int32) * (5 : Int32)) = (20 : Int32) from by decide]
    obtain ⟨k1, f1⟩ := zz_sub p0 (32 : Int32)
    rw [show (32 : Int32).toInt = 32 from rfl] at f1
    have g1 := zz_rg (p0 - (32 : Int32))
    obtain ⟨k2, f2⟩ := zz_mul (4 : Int32) (p0 - (32 : Int32))
    rw [show (4 : Int32).toInt = 4 from rfl] at f2
    have g2 := zz_rg ((4 : Int32) * (p0 - (32 : Int32)))
    have f3 := zz_sar5 ((4 : Int32) * (p0 - (32 : Int32)))
    rw [show ((2 ^ 5 : Nat) : Int) = 32 from rfl] at f3
    obtain ⟨k4, f4⟩ := zz_add (20 : Int32) (((4 : Int32) * (p0 - (32 : Int32))) >>> ((5 : Int32) &&& 31))
    rw [show (20 : Int32).toInt = 20 from rfl] at f4
    have g4 := zz_rg ((20 : Int32) + (((4 : Int32) * (p0 - (32 : Int32))) >>> ((5 : Int32) &&& 31)))
    have g3 : zz_lo p0.toNatClampNeg = 20 + 4 * (p0.toNatClampNeg - 32) / 32 := by
      unfold zz_lo
      rw [if_neg (by omega)]
      rw [if_neg (by omega)]
      rw [if_neg (by omega)]
      rw [if_neg (by omega)]
      rw [if_neg (by omega)]
      rw [if_pos (by omega)]
    omega
  have c := zz_nlt c
  rw [show (64 : Int32).toInt = 64 from rfl] at c
  rw [show ((5 : Int32) + 1) = (6 : Int32) from by decide]
  rw [m_X4_listOf_L6_s]
  refine zz_ok_ite (fun c => absurd c (by decide)) (fun _ => ?_)
  rw [show ((64 : Int32) + (64 : Int32)) = (128 : Int32) from by decide]
  refine zz_ok_ite (fun c => ?_) (fun c => ?_)
  · have c := Int32.lt_iff_toInt_lt.mp c
    rw [show (128 : Int32).toInt = 128 from rfl] at c
    refine zz_ok_some ?_
    show (((4 : Int32) * (6 : Int32)) + (((4 : Int32) * (p0 - (64 : Int32))) >>> ((6 : Int32) &&& 31))).toInt = _
    rw [show ((4 : Int32) * (6 : Int32)) = (24 : Int32) from by decide]
    obtain ⟨k1, f1⟩ := zz_sub p0 (64 : Int32)
    rw [show (64 : Int32).toInt = 64 from rfl] at f1
    have g1 := zz_rg (p0 - (64 : Int32))
    obtain ⟨k2, f2⟩ := zz_mul (4 : Int32) (p0 - (64 : Int32))
    rw [show (4 : Int32).toInt = 4 from rfl] at f2
    have g2 := zz_rg ((4 : Int32) * (p0 - (64 : Int32)))
    have f3 := zz_sar6 ((4 : Int32) * (p0 - (64 : Int32)))
    rw [show ((2 ^ 6 : Nat) : Int) = 64 from rfl] at f3
    obtain ⟨k4, f4⟩ := zz_add (24 : Int32) (((4 : Int32) * (p0 - (64 : Int32))) >>> ((6 : Int32) &&& 31))
    rw [show (24 : Int32).toInt = 24 from rfl] at f4
    have g4 := zz_rg ((24 : Int32) + (((4 : Int32) * (p0 - (64 : Int32))) >>> ((6 : Int32) &&& 31)))
    have g3 : zz_lo p0.toNatClampNeg = 24 + 4 * (p0.toNatClampNeg - 64) / 64 := by
      unfold zz_lo
      rw [if_neg (by omega)]
      rw [if_neg (by omega)]
      rw [if_neg (by omega)]
      rw [if_neg (by omega)]
      rw [if_neg (by omega)]
      rw [if_neg (by omega)]
      rw [if_pos (by omega)]
    omega
  have c := zz_nlt c
  rw [show (128 : Int32).toInt = 128 from rfl] at c
  rw [show ((6 : Int32) + 1) = (7 : Int32) from by decide]
  rw [m_X4_listOf_L6_s]
  refine zz_ok_ite (fun c => absurd c (by decide)) (fun _ => ?_)
  rw [show ((128 : Int32) + (128 : Int32)) = (256 : Int32) from by decide]
  refine zz_ok_ite (fun c => ?_) (fun c => ?_)
  · have c := Int32.lt_iff_toInt_lt.mp c
    rw [show (256 : Int32).toInt = 256 from rfl] at c
    refine zz_ok_some ?_
    show (((4 : Int32) * (7 : Int32)) + (((4 : Int32) * (p0 - (128 : Int32))) >>> ((7 : Int32) &&& 31))).toInt = _
    rw [show ((4 : Int32) * (7 : Int32)) = (28 : Int32) from by decide]
    obtain ⟨k1, f1⟩ := zz_sub p0 (128 : Int32)
    rw [show (128 : Int32).toInt = 128 from rfl] at f1
    have g1 := zz_rg (p0 - (128 : Int32))
    obtain ⟨k2, f2⟩ := zz_mul (4 : Int32) (p0 - (128 : Int32))
    rw [show (4 : Int32).toInt = 4 from rfl] at f2
    have g2 := zz_rg ((4 : Int32) * (p0 - (128 : Int32)))
    have f3 := zz_sar7 ((4 : Int32) * (p0 - (128 : Int32)))
    rw [show ((2 ^ 7 : Nat) : Int) = 128 from rfl] at f3
    obtain ⟨k4, f4⟩ := zz_add (28 : Int32) (((4 : Int32) * (p0 - (128 : Int32))) >>> ((7 : Int32) &&& 31))
    rw [show (28 : Int32).toInt = 28 from rfl] at f4
    have g4 := zz_rg ((28 : Int32) + (((4 : Int32) * (p0 - (128 : Int32))) >>> ((7 : Int32) &&& 31)))
    have g3 : zz_lo p0.toNatClampNeg = 28 + 4 * (p0.toNatClampNeg - 128) / 128 := by
      unfold zz_lo
      rw [if_neg (by omega)]
      rw [if_neg (by omega)]
      rw [if_neg (by omega)]
      rw [if_neg (by omega)]
      rw [if_neg (by omega)]
      rw [if_neg (by omega)]
      rw [if_neg (by omega)]
      rw [if_pos (by omega)]
    omega
  have c := zz_nlt c
  rw [show (256 : Int32).toInt = 256 from rfl] at c
  rw [show ((7 : Int32) + 1) = (8 : Int32) from by decide]
  rw [m_X4_listOf_L6_s]
  refine zz_ok_ite (fun c => absurd c (by decide)) (fun _ => ?_)
  rw [show ((256 : Int32) + (256 : Int32)) = (512 : Int32) from by decide]
  refine zz_ok_ite (fun c => ?_) (fun c => ?_)
  · have c := Int32.lt_iff_toInt_lt.mp c
    rw [show (512 : Int32).toInt = 512 from rfl] at c
    refine zz_ok_some ?_
    show (((4 : Int32) * (8 : Int32)) + (((4 : Int32) * (p0 - (256 : Int32))) >>> ((8 : Int32) &&& 31))).toInt = _
    rw [show ((4 : Int32) * (8 : Int32)) = (32 : Int32) from by decide]
    obtain ⟨k1, f1⟩ := zz_sub p0 (256 : Int32)
    rw [show (256 : Int32).toInt = 256 from rfl] at f1
    have g1 := zz_rg (p0 - (256 : Int32))
    obtain ⟨k2, f2⟩ := zz_mul (4 : Int32) (p0 - (256 : Int32))
    rw [show (4 : Int32).toInt = 4 from rfl] at f2
    have g2 := zz_rg ((4 : Int32) * (p0 - (256 : Int32)))
    have f3 := zz_sar8 ((4 : Int32) * (p0 - (256 : Int32)))
    rw [show ((2 ^ 8 : Nat) : Int) = 256 from rfl] at f3
    obtain ⟨k4, f4⟩ := zz_add (32 : Int32) (((4 : Int32) * (p0 - (256 : Int32))) >>> ((8 : Int32) &&& 31))
    rw [show (32 : Int32).toInt = 32 from rfl] at f4
    have g4 := zz_rg ((32 : Int32) + (((4 : Int32) * (p0 - (256 : Int32))) >>> ((8 : Int32) &&& 31)))
    have g3 : zz_lo p0.toNatClampNeg = 32 + 4 * (p0.toNatClampNeg - 256) / 256 := by
      unfold zz_lo
      rw [if_neg (by omega)]
      rw [if_neg (by omega)]
      rw [if_neg (by omega)]
      rw [if_neg (by omega)]
      rw [if_neg (by omega)]
      rw [if_neg (by omega)]
      rw [if_neg (by omega)]
      rw [if_neg (by omega)]
      rw [if_pos (by omega)]
    omega
  have c := zz_nlt c
  rw [show (512 : Int32).toInt = 512 from rfl] at c
  rw [show ((8 : Int32) + 1) = (9 : Int32) from by decide]
  rw [m_X4_listOf_L6_s]
  refine zz_ok_ite (fun c => absurd c (by decide)) (fun _ => ?_)
  rw [show ((512 : Int32) + (512 : Int32)) = (1024 : Int32) from by decide]
  refine zz_ok_ite (fun c => ?_) (fun c => ?_)
  · have c := Int32.lt_iff_toInt_lt.mp c
    rw [show (1024 : Int32).toInt = 1024 from rfl] at c
    refine zz_ok_some ?_
    show (((4 : Int32) * (9 : Int32)) + (((4 : Int32) * (p0 - (512 : Int32))) >>> ((9 : Int32) &&& 31))).toInt = _
    rw [show ((4 : Int32) * (9 : Int32)) = (36 : Int32) from by decide]
    obtain ⟨k1, f1⟩ := zz_sub p0 (512 : Int32)
    rw [show (512 : Int32).toInt = 512 from rfl] at f1
    have g1 := zz_rg (p0 - (512 : Int32))
    obtain ⟨k2, f2⟩ := zz_mul (4 : Int32) (p0 - (512 : Int32))
    rw [show (4 : Int32).toInt = 4 from rfl] at f2
    have g2 := zz_rg ((4 : Int32) * (p0 - (512 : Int32)))
    have f3 := zz_sar9 ((4 : Int32) * (p0 - (512 : Int32)))
    rw [show ((2 ^ 9 : Nat) : Int) = 512 from rfl] at f3
    obtain ⟨k4, f4⟩ := zz_add (36 : Int32) (((4 : Int32) * (p0 - (512 : Int32))) >>> ((9 : Int32) &&& 31))
    rw [show (36 : Int32).toInt = 36 from rfl] at f4
    have g4 := zz_rg ((36 : Int32) + (((4 : Int32) * (p0 - (512 : Int32))) >>> ((9 : Int32) &&& 31)))
    have g3 : zz_lo p0.toNatClampNeg = 36 + 4 * (p0.toNatClampNeg - 512) / 512 := by
      unfold zz_lo
      rw [if_neg (by omega)]
      rw [if_neg (by omega)]
      rw [if_neg (by omega)]
      rw [if_neg (by omega)]
      rw [if_neg (by omega)]
      rw [if_neg (by omega)]
      rw [if_neg (by omega)]
      rw [if_neg (by omega)]
      rw [if_neg (by omega)]
      rw [if_pos (by omega)]
    omega
  have c := zz_nlt c
  rw [show (1024 : Int32).toInt = 1024 from rfl] at c
  rw [show ((9 : Int32) + 1) = (10 : Int32) from by decide]
  rw [m_X4_listOf_L6_s]
  refine zz_ok_ite (fun _ => ?_) (fun c => absurd (by decide) c)
  refine zz_ok_some ?_
  show (((4 : Int32) * (10 : Int32)) + (((4 : Int32) * (p0 - (1024 : Int32))) >>> ((10 : Int32) &&& 31))).toInt = _
  rw [show ((4 : Int32) * (10 : Int32)) = (40 : Int32) from by decide]
  obtain ⟨k1, f1⟩ := zz_sub p0 (1024 : Int32)
  rw [show (1024 : Int32).toInt = 1024 from rfl] at f1
  have g1 := zz_rg (p0 - (1024 : Int32))
  obtain ⟨k2, f2⟩ := zz_mul (4 : Int32) (p0 - (1024 : Int32))
  rw [show (4 : Int32).toInt = 4 from rfl] at f2
  have g2 := zz_rg ((4 : Int32) * (p0 - (1024 : Int32)))
  have f3 := zz_sar10 ((4 : Int32) * (p0 - (1024 : Int32)))
  rw [show ((2 ^ 10 : Nat) : Int) = 1024 from rfl] at f3
  obtain ⟨k4, f4⟩ := zz_add (40 : Int32) (((4 : Int32) * (p0 - (1024 : Int32))) >>> ((10 : Int32) &&& 31))
  rw [show (40 : Int32).toInt = 40 from rfl] at f4
  have g4 := zz_rg ((40 : Int32) + (((4 : Int32) * (p0 - (1024 : Int32))) >>> ((10 : Int32) &&& 31)))
  have g3 : zz_lo p0.toNatClampNeg = 40 + 4 * (p0.toNatClampNeg - 1024) / 1024 := by
      unfold zz_lo
      rw [if_neg (by omega)]
      rw [if_neg (by omega)]
      rw [if_neg (by omega)]
      rw [if_neg (by omega)]
      rw [if_neg (by omega)]
      rw [if_neg (by omega)]
      rw [if_neg (by omega)]
      rw [if_neg (by omega)]
      rw [if_neg (by omega)]
      rw [if_neg (by omega)]
      omega
  omega
theorem ff_X4_listOf (K : Nat) (hK : 1099511627776 ≤ K) (T : Nat) (hT : T ≤ 900) (p0 : Int32) (a0 : 1 ≤ p0.toInt) (a1 : p0.toInt ≤ 1024) : zz_ok (m_X4_listOf K p0) (fun z => z.1.toInt = (zz_lo p0.toNatClampNeg : Int)) := by
  unfold m_X4_listOf
  have h := zz_listOfC K (K - 11) p0 a0 a1
  rw [show K - 11 + 11 = K by omega] at h
  exact h
set_option maxHeartbeats 4000000 in
theorem ff_X10_clear (K : Nat) (hK : 1099511627776 ≤ K) (T : Nat) (hT : T ≤ 900) (n0 : Nat) (n1 : Nat) (s0 : Int32) (s1 : Int32) (s2 : Nat → Int32) (s3 : Nat → Int32) : zz_ok (m_X10_clear K n0 n1 s0 s1 s2 s3) (fun z => z.1.toInt = 0 ∧ z.2.1 = s1 ∧ z.2.2.1 = s2 ∧ z.2.2.2 = s3) := by
  have g1 := zz_rg s0
  have g2 := zz_rg s1
  unfold m_X10_clear
  have l3 : (0 : Int32).toInt = 0 := rfl
  refine zz_ok_some ?_
  show (0 : Int32).toInt = 0 ∧ s1 = s1 ∧ s2 = s2 ∧ s3 = s3
  exact ⟨(by omega), rfl, rfl, rfl⟩
set_option maxHeartbeats 4000000 in
theorem ff_X10_size (K : Nat) (hK : 1099511627776 ≤ K) (T : Nat) (hT : T ≤ 900) (n0 : Nat) (n1 : Nat) (s0 : Int32) (s1 : Int32) (s2 : Nat → Int32) (s3 : Nat → Int32) : zz_ok (m_X10_size K n0 n1 s0 s1 s2 s3) (fun z => z.1 = s0 ∧ z.2.1 = s0 ∧ z.2.2.1 = s1 ∧ z.2.2.2.1 = s2 ∧ z.2.2.2.2 = s3) := by
  have g1 := zz_rg s0
  have g2 := zz_rg s1
  unfold m_X10_size
  refine zz_ok_some ?_
  show s0 = s0 ∧ s0 = s0 ∧ s1 = s1 ∧ s2 = s2 ∧ s3 = s3
  exact ⟨rfl, rfl, rfl, rfl, rfl⟩
set_option maxHeartbeats 4000000 in
theorem ff_X10_looked (K : Nat) (hK : 1099511627776 ≤ K) (T : Nat) (hT : T ≤ 900) (n0 : Nat) (n1 : Nat) (s0 : Int32) (s1 : Int32) (s2 : Nat → Int32) (s3 : Nat → Int32) : zz_ok (m_X10_looked K n0 n1 s0 s1 s2 s3) (fun z => z.1 = s1 ∧ z.2.1 = s0 ∧ z.2.2.1 = s1 ∧ z.2.2.2.1 = s2 ∧ z.2.2.2.2 = s3) := by
  have g1 := zz_rg s0
  have g2 := zz_rg s1
  unfold m_X10_looked
  refine zz_ok_some ?_
  show s1 = s1 ∧ s0 = s0 ∧ s1 = s1 ∧ s2 = s2 ∧ s3 = s3
  exact ⟨rfl, rfl, rfl, rfl, rfl⟩
set_option maxHeartbeats 4000000 in
theorem ff_X10_add (K : Nat) (hK : 1099511627776 ≤ K) (T : Nat) (hT : T ≤ 900) (n0 : Nat) (n1 : Nat) (p1 : Int32) (p2 : Int32) (s0 : Int32) (s1 : Int32) (s2 : Nat → Int32) (s3 : Nat → Int32) (a0 : (n0 : Int) = (n1 : Int)) (a1 : (n0 : Int) < 1000000) (a2 : 0 ≤ s0.toInt) (a3 : s0.toInt ≤ (n0 : Int)) (a4 : s0.toInt < (n0 : Int)) : zz_ok (m_X10_add K n0 n1 p1 p2 s0 s1 s2 s3) (fun z => z.1.toInt = s0.toInt + 1 ∧ z.2.2.1 = upd s2 s0.toNatClampNeg p1 ∧ z.2.2.2 = upd s3 s0.toNatClampNeg p2 ∧ z.2.1 = s1) := by
  have g1 := zz_rg p1
  have g2 := zz_rg p2
  have g3 := zz_rg s0
  have g4 := zz_rg s1
  unfold m_X10_add
  have f6 := zz_nI n0 (by omega)
  have g7 := zz_rg (nI n0)
  refine zz_ok_ite (fun c5 => ?_) (fun c5 => ?_)
  · have c5 := Int32.le_iff_toInt_le.mp c5
    refine zz_ok_some ?_
    show s0.toInt = s0.toInt + 1 ∧ s2 = upd s2 s0.toNatClampNeg p1 ∧ s3 = upd s3 s0.toNatClampNeg p2 ∧ s1 = s1
    exact ⟨(by omega), (by first | rfl | (exfalso; omega)), (by first | rfl | (exfalso; omega)), (by first | rfl | (exfalso; omega))⟩
  · have c5 := zz_nle c5
    refine zz_ok_chk (zz_ix (by omega) (by omega)) ?_
    have g8 := zz_tnI s0 (by omega)
    refine zz_ok_chk (zz_ix (by omega) (by omega)) ?_
    have l9 : (1 : Int32).toInt = 1 := rfl
    obtain ⟨k10, f11⟩ := zz_add s0 (1 : Int32)
    have g12 := zz_rg (s0 + ((1 : Int32)))
    refine zz_ok_some ?_
    show (s0 + ((1 : Int32))).toInt = s0.toInt + 1 ∧ (upd s2 s0.toNatClampNeg p1) = upd s2 s0.toNatClampNeg p1 ∧ (upd s3 s0.toNatClampNeg p2) = upd s3 s0.toNatClampNeg p2 ∧ s1 = s1
    exact ⟨(by omega), (by first | rfl | (exfalso; omega)), (by first | rfl | (exfalso; omega)), (by first | rfl | (exfalso; omega))⟩
set_option maxHeartbeats 4000000 in
theorem ff_X10_placeOf (K : Nat) (hK : 1099511627776 ≤ K) (T : Nat) (hT : T ≤ 900) (n0 : Nat) (n1 : Nat) (p1 : Int32) (s0 : Int32) (s1 : Int32) (s2 : Nat → Int32) (s3 : Nat → Int32) (a0 : (n0 : Int) = (n1 : Int)) (a1 : (n0 : Int) < 1000000) (a2 : 0 ≤ s0.toInt) (a3 : s0.toInt ≤ (n0 : Int)) (a4 : 0 ≤ p1.toInt) (a5 : p1.toInt < s0.toInt) : zz_ok (m_X10_placeOf K n0 n1 p1 s0 s1 s2 s3) (fun z => z.1 = s2 p1.toNatClampNeg ∧ z.2.1 = s0 ∧ z.2.2.1 = s1 ∧ z.2.2.2.1 = s2 ∧ z.2.2.2.2 = s3) := by
  have g1 := zz_rg p1
  have g2 := zz_rg s0
  have g3 := zz_rg s1
  unfold m_X10_placeOf
  have l5 : (0 : Int32).toInt = 0 := rfl
  refine zz_ok_ite (fun c4 => ?_) (fun c4 => ?_)
  · have c4 := Int32.lt_iff_toInt_lt.mp c4
    refine zz_ok_some ?_
    show (-1 : Int32) = s2 p1.toNatClampNeg ∧ s0 = s0 ∧ s1 = s1 ∧ s2 = s2 ∧ s3 = s3
    exact ⟨(by first | rfl | (exfalso; omega)), (by first | rfl | (exfalso; omega)), (by first | rfl | (exfalso; omega)), (by first | rfl | (exfalso; omega)), (by first | rfl | (exfalso; omega))⟩
  · have c4 := zz_nlt c4
    refine zz_ok_ite (fun c6 => ?_) (fun c6 => ?_)
    · have c6 := Int32.lt_iff_toInt_lt.mp c6
      refine zz_ok_chk (zz_ix (by omega) (by omega)) ?_
      have g7 := zz_tnI p1 (by omega)
      refine zz_ok_some ?_
      show (s2 p1.toNatClampNeg) = s2 p1.toNatClampNeg ∧ s0 = s0 ∧ s1 = s1 ∧ s2 = s2 ∧ s3 = s3
      exact ⟨(by first | rfl | (exfalso; omega)), (by first | rfl | (exfalso; omega)), (by first | rfl | (exfalso; omega)), (by first | rfl | (exfalso; omega)), (by first | rfl | (exfalso; omega))⟩
    · have c6 := zz_nlt c6
      refine zz_ok_some ?_
      show (-1 : Int32) = s2 p1.toNatClampNeg ∧ s0 = s0 ∧ s1 = s1 ∧ s2 = s2 ∧ s3 = s3
      exact ⟨(by first | rfl | (exfalso; omega)), (by first | rfl | (exfalso; omega)), (by first | rfl | (exfalso; omega)), (by first | rfl | (exfalso; omega)), (by first | rfl | (exfalso; omega))⟩
set_option maxHeartbeats 4000000 in
theorem ff_X10_wordsOf (K : Nat) (hK : 1099511627776 ≤ K) (T : Nat) (hT : T ≤ 900) (n0 : Nat) (n1 : Nat) (p1 : Int32) (s0 : Int32) (s1 : Int32) (s2 : Nat → Int32) (s3 : Nat → Int32) (a0 : (n0 : Int) = (n1 : Int)) (a1 : (n0 : Int) < 1000000) (a2 : 0 ≤ s0.toInt) (a3 : s0.toInt ≤ (n0 : Int)) (a4 : 0 ≤ p1.toInt) (a5 : p1.toInt < s0.toInt) : zz_ok (m_X10_wordsOf K n0 n1 p1 s0 s1 s2 s3) (fun z => z.1 = s3 p1.toNatClampNeg ∧ z.2.1 = s0 ∧ z.2.2.1 = s1 ∧ z.2.2.2.1 = s2 ∧ z.2.2.2.2 = s3) := by
  have g1 := zz_rg p1
  have g2 := zz_rg s0
  have g3 := zz_rg s1
  unfold m_X10_wordsOf
  have l5 : (0 : Int32).toInt = 0 := rfl
  refine zz_ok_ite (fun c4 => ?_) (fun c4 => ?_)
  · have c4 := Int32.lt_iff_toInt_lt.mp c4
    refine zz_ok_some ?_
    show (0 : Int32) = s3 p1.toNatClampNeg ∧ s0 = s0 ∧ s1 = s1 ∧ s2 = s2 ∧ s3 = s3
    exact ⟨(by first | rfl | (exfalso; omega)), (by first | rfl | (exfalso; omega)), (by first | rfl | (exfalso; omega)), (by first | rfl | (exfalso; omega)), (by first | rfl | (exfalso; omega))⟩
  · have c4 := zz_nlt c4
    refine zz_ok_ite (fun c6 => ?_) (fun c6 => ?_)
    · have c6 := Int32.lt_iff_toInt_lt.mp c6
      refine zz_ok_chk (zz_ix (by omega) (by omega)) ?_
      have g7 := zz_tnI p1 (by omega)
      refine zz_ok_some ?_
      show (s3 p1.toNatClampNeg) = s3 p1.toNatClampNeg ∧ s0 = s0 ∧ s1 = s1 ∧ s2 = s2 ∧ s3 = s3
      exact ⟨(by first | rfl | (exfalso; omega)), (by first | rfl | (exfalso; omega)), (by first | rfl | (exfalso; omega)), (by first | rfl | (exfalso; omega)), (by first | rfl | (exfalso; omega))⟩
    · have c6 := zz_nlt c6
      refine zz_ok_some ?_
      show (0 : Int32) = s3 p1.toNatClampNeg ∧ s0 = s0 ∧ s1 = s1 ∧ s2 = s2 ∧ s3 = s3
      exact ⟨(by first | rfl | (exfalso; omega)), (by first | rfl | (exfalso; omega)), (by first | rfl | (exfalso; omega)), (by first | rfl | (exfalso; omega)), (by first | rfl | (exfalso; omega))⟩
set_option maxHeartbeats 4000000 in
theorem ff_X10_endOf (K : Nat) (hK : 1099511627776 ≤ K) (T : Nat) (hT : T ≤ 900) (n0 : Nat) (n1 : Nat) (p1 : Int32) (s0 : Int32) (s1 : Int32) (s2 : Nat → Int32) (s3 : Nat → Int32) (a0 : (n0 : Int) = (n1 : Int)) (a1 : (n0 : Int) < 1000000) (a2 : 0 ≤ s0.toInt) (a3 : s0.toInt ≤ (n0 : Int)) (a4 : 0 ≤ p1.toInt) (a5 : p1.toInt < s0.toInt) : zz_ok (m_X10_endOf K n0 n1 p1 s0 s1 s2 s3) (fun z => z.1 = (s2 p1.toNatClampNeg) + (s3 p1.toNatClampNeg) ∧ z.2.1 = s0 ∧ z.2.2.1 = s1 ∧ z.2.2.2.1 = s2 ∧ z.2.2.2.2 = s3) := by
  have g1 := zz_rg p1
  have g2 := zz_rg s0
  have g3 := zz_rg s1
  unfold m_X10_endOf
  have l5 : (0 : Int32).toInt = 0 := rfl
  refine zz_ok_ite (fun c4 => ?_) (fun c4 => ?_)
  · have c4 := Int32.lt_iff_toInt_lt.mp c4
    refine zz_ok_some ?_
    show (-1 : Int32) = (s2 p1.toNatClampNeg) + (s3 p1.toNatClampNeg) ∧ s0 = s0 ∧ s1 = s1 ∧ s2 = s2 ∧ s3 = s3
    exact ⟨(by first | rfl | (exfalso; omega)), (by first | rfl | (exfalso; omega)), (by first | rfl | (exfalso; omega)), (by first | rfl | (exfalso; omega)), (by first | rfl | (exfalso; omega))⟩
  · have c4 := zz_nlt c4
    refine zz_ok_ite (fun c6 => ?_) (fun c6 => ?_)
    · have c6 := Int32.lt_iff_toInt_lt.mp c6
      refine zz_ok_chk (zz_ix (by omega) (by omega)) ?_
      have g7 := zz_tnI p1 (by omega)
      refine zz_ok_chk (zz_ix (by omega) (by omega)) ?_
      refine zz_ok_some ?_
      show ((s2 p1.toNatClampNeg) + (s3 p1.toNatClampNeg)) = (s2 p1.toNatClampNeg) + (s3 p1.toNatClampNeg) ∧ s0 = s0 ∧ s1 = s1 ∧ s2 = s2 ∧ s3 = s3
      exact ⟨(by first | rfl | (exfalso; omega)), (by first | rfl | (exfalso; omega)), (by first | rfl | (exfalso; omega)), (by first | rfl | (exfalso; omega)), (by first | rfl | (exfalso; omega))⟩
    · have c6 := zz_nlt c6
      refine zz_ok_some ?_
      show (-1 : Int32) = (s2 p1.toNatClampNeg) + (s3 p1.toNatClampNeg) ∧ s0 = s0 ∧ s1 = s1 ∧ s2 = s2 ∧ s3 = s3
      exact ⟨(by first | rfl | (exfalso; omega)), (by first | rfl | (exfalso; omega)), (by first | rfl | (exfalso; omega)), (by first | rfl | (exfalso; omega)), (by first | rfl | (exfalso; omega))⟩
set_option maxHeartbeats 4000000 in
theorem ff_X10_remove (K : Nat) (hK : 1099511627776 ≤ K) (T : Nat) (hT : T ≤ 900) (n0 : Nat) (n1 : Nat) (p1 : Int32) (s0 : Int32) (s1 : Int32) (s2 : Nat → Int32) (s3 : Nat → Int32) (a0 : (n0 : Int) = (n1 : Int)) (a1 : (n0 : Int) < 1000000) (a2 : 0 ≤ s0.toInt) (a3 : s0.toInt ≤ (n0 : Int)) (a4 : 0 ≤ p1.toInt) (a5 : p1.toInt < s0.toInt) : zz_ok (m_X10_remove K n0 n1 p1 s0 s1 s2 s3) (fun z => z.1.toInt = s0.toInt - 1 ∧ zz_rmv (s2) (z.2.2.1) p1.toInt s0.toInt ∧ zz_rmv (s3) (z.2.2.2) p1.toInt s0.toInt ∧ z.2.1 = s1) := by
  have g1 := zz_rg p1
  have g2 := zz_rg s0
  have g3 := zz_rg s1
  unfold m_X10_remove
  have l5 : (0 : Int32).toInt = 0 := rfl
  refine zz_ok_ite (fun c4 => ?_) (fun c4 => ?_)
  · have c4 := Int32.lt_iff_toInt_lt.mp c4
    refine zz_ok_some ?_
    show s0.toInt = s0.toInt - 1 ∧ zz_rmv (s2) (s2) p1.toInt s0.toInt ∧ zz_rmv (s3) (s3) p1.toInt s0.toInt ∧ s1 = s1
    exact ⟨(by omega), (by first | exact zz_rmv_mk (by have := zz_tnI (p1 + ((1 : Int32))) (by omega); omega) (by have := zz_tnI p1 (by omega); omega) (by have := zz_tnI ((s0 - ((1 : Int32))) - p1) (by omega); omega) | (exfalso; omega)), (by first | exact zz_rmv_mk (by have := zz_tnI (p1 + ((1 : Int32))) (by omega); omega) (by have := zz_tnI p1 (by omega); omega) (by have := zz_tnI ((s0 - ((1 : Int32))) - p1) (by omega); omega) | (exfalso; omega)), (by first | rfl | (exfalso; omega))⟩
  · have c4 := zz_nlt c4
    refine zz_ok_ite (fun c6 => ?_) (fun c6 => ?_)
    · have c6 := Int32.lt_iff_toInt_lt.mp c6
      have l7 : (1 : Int32).toInt = 1 := rfl
      obtain ⟨k8, f9⟩ := zz_add p1 (1 : Int32)
      have g10 := zz_rg (p1 + ((1 : Int32)))
      obtain ⟨k11, f12⟩ := zz_sub s0 (1 : Int32)
      have g13 := zz_rg (s0 - ((1 : Int32)))
      obtain ⟨k14, f15⟩ := zz_sub (s0 - ((1 : Int32))) p1
      have g16 := zz_rg ((s0 - ((1 : Int32))) - p1)
      refine zz_ok_chk ⟨zz_nn (by omega), zz_nn (by omega), zz_nn (by omega), zz_cp (by omega) (by omega) (by omega), zz_cp (by omega) (by omega) (by omega)⟩ ?_
      refine zz_ok_chk ⟨zz_nn (by omega), zz_nn (by omega), zz_nn (by omega), zz_cp (by omega) (by omega) (by omega), zz_cp (by omega) (by omega) (by omega)⟩ ?_
      refine zz_ok_some ?_
      show (s0 - ((1 : Int32))).toInt = s0.toInt - 1 ∧ zz_rmv (s2) ((va_cpy s2 s2 (p1 + ((1 : Int32))).toNatClampNeg p1.toNatClampNeg ((s0 - ((1 : Int32))) - p1).toNatClampNeg)) p1.toInt s0.toInt ∧ zz_rmv (s3) ((va_cpy s3 s3 (p1 + ((1 : Int32))).toNatClampNeg p1.toNatClampNeg ((s0 - ((1 : Int32))) - p1).toNatClampNeg)) p1.toInt s0.toInt ∧ s1 = s1
      exact ⟨(by omega), (by first | exact zz_rmv_mk (by have := zz_tnI (p1 + ((1 : Int32))) (by omega); omega) (by have := zz_tnI p1 (by omega); omega) (by have := zz_tnI ((s0 - ((1 : Int32))) - p1) (by omega); omega) | (exfalso; omega)), (by first | exact zz_rmv_mk (by have := zz_tnI (p1 + ((1 : Int32))) (by omega); omega) (by have := zz_tnI p1 (by omega); omega) (by have := zz_tnI ((s0 - ((1 : Int32))) - p1) (by omega); omega) | (exfalso; omega)), (by first | rfl | (exfalso; omega))⟩
    · have c6 := zz_nlt c6
      refine zz_ok_some ?_
      show s0.toInt = s0.toInt - 1 ∧ zz_rmv (s2) (s2) p1.toInt s0.toInt ∧ zz_rmv (s3) (s3) p1.toInt s0.toInt ∧ s1 = s1
      exact ⟨(by omega), (by first | exact zz_rmv_mk (by have := zz_tnI (p1 + ((1 : Int32))) (by omega); omega) (by have := zz_tnI p1 (by omega); omega) (by have := zz_tnI ((s0 - ((1 : Int32))) - p1) (by omega); omega) | (exfalso; omega)), (by first | exact zz_rmv_mk (by have := zz_tnI (p1 + ((1 : Int32))) (by omega); omega) (by have := zz_tnI p1 (by omega); omega) (by have := zz_tnI ((s0 - ((1 : Int32))) - p1) (by omega); omega) | (exfalso; omega)), (by first | rfl | (exfalso; omega))⟩

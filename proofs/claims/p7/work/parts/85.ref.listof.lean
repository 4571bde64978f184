theorem zz_Jn_L2 {b : Prop} {w : Int} {o li lm g m : Nat → Int32} {p n F r : Int} {x v : Int32} (hT : zz_FLm li lm g m x v) (h : zz_Jn True b w o li lm p n F r) (hm : ∀ j, j < 44 → 0 ≤ (lm j).toInt ∧ (lm j).toInt ≤ 1000) (hF : F < p) (hx : x.toInt = F) (hv : v.toInt = p - F) (hw : w ≤ 1024) : zz_Jn False b w o g m p n F r := zz_Jn_L h hT hm hF hx hv hw
theorem zz_Jn_R2 {a : Prop} {w : Int} {o li lm g m : Nat → Int32} {p n F r : Int} {x v : Int32} (hT : zz_FLm li lm g m x v) (h : zz_Jn a True w o li lm p n F r) (hm : ∀ j, j < 44 → 0 ≤ (lm j).toInt ∧ (lm j).toInt ≤ 1000) (hr : 0 < r) (hx : x.toInt = p + n) (hv : v.toInt = r) (hw : w ≤ 1024) : zz_Jn a False w o g m p n F r := zz_Jn_R h hT hm hr hx hv hw
theorem zz_fd_le {w : Int} {o : Nat → Int32} {x n : Int32} (h : zz_fd w o x n) (hw : w ≤ 1024) : x.toInt ≤ 1024 := by
  rcases h with h | ⟨_, v, a2, _⟩
  · omega
  · have := a2.2.1
    omega
theorem zz_loB (x : Int32) (h : x.toInt ≤ 1024) : zz_lo x.toNatClampNeg < 44 := zz_lo_lt _ (by rw [zz_tn]; omega)
theorem zz_listOf (K k : Nat) (p0 : Int32) (a0 : 1 ≤ p0.toInt) (a1 : p0.toInt ≤ 1024) : zz_ok (m_X12_listOf_L2 K (k + 11) p0 0) (fun z => z.1.toInt = (zz_lo p0.toNatClampNeg : Int)) := by
  have e0 := zz_tnI p0 (by omega)
  rw [m_X12_listOf_L2_s]
  refine zz_ok_ite (fun c => ?_) (fun c => ?_)
  · have c := Int32.lt_iff_toInt_lt.mp c
    rw [show ((2 : Int32) <<< ((0 : Int32) &&& 31)).toInt = 2 from by decide] at c
    refine zz_ok_chk (by decide) ?_
    refine zz_ok_some ?_
    show (((4 : Int32) * (0 : Int32)) + (((4 : Int32) * (p0 - ((1 : Int32) <<< ((0 : Int32) &&& 31)))) / ((1 : Int32) <<< ((0 : Int32) &&& 31)))).toInt = _
    rw [show ((1 : Int32) <<< ((0 : Int32) &&& 31)) = (1 : Int32) from by decide, show ((4 : Int32) * (0 : Int32)) = (0 : Int32) from by decide]
    obtain ⟨k1, f1⟩ := zz_sub p0 (1 : Int32)
    rw [show (1 : Int32).toInt = 1 from rfl] at f1
    have g1 := zz_rg (p0 - (1 : Int32))
    obtain ⟨k2, f2⟩ := zz_mul (4 : Int32) (p0 - (1 : Int32))
    rw [show (4 : Int32).toInt = 4 from rfl] at f2
    have g2 := zz_rg ((4 : Int32) * (p0 - (1 : Int32)))
    have f3 := zz_divP ((4 : Int32) * (p0 - (1 : Int32))) (1 : Int32) 1 rfl (by decide) (by omega)
    obtain ⟨k4, f4⟩ := zz_add (0 : Int32) (((4 : Int32) * (p0 - (1 : Int32))) / (1 : Int32))
    rw [show (0 : Int32).toInt = 0 from rfl] at f4
    have g4 := zz_rg ((0 : Int32) + (((4 : Int32) * (p0 - (1 : Int32))) / (1 : Int32)))
    have g3 : zz_lo p0.toNatClampNeg = 0 + 4 * (p0.toNatClampNeg - 1) / 1 := by
      unfold zz_lo
      rw [if_pos (by omega)]
      omega
    omega
  have c := zz_nlt c
  rw [show ((2 : Int32) <<< ((0 : Int32) &&& 31)).toInt = 2 from by decide] at c
  rw [show ((0 : Int32) + 1) = (1 : Int32) from by decide]
  rw [m_X12_listOf_L2_s]
  refine zz_ok_ite (fun c => ?_) (fun c => ?_)
  · have c := Int32.lt_iff_toInt_lt.mp c
    rw [show ((2 : Int32) <<< ((1 : Int32) &&& 31)).toInt = 4 from by decide] at c
    refine zz_ok_chk (by decide) ?_
    refine zz_ok_some ?_
    show (((4 : Int32) * (1 : Int32)) + (((4 : Int32) * (p0 - ((1 : Int32) <<< ((1 : Int32) &&& 31)))) / ((1 : Int32) <<< ((1 : Int32) &&& 31)))).toInt = _
    rw [show ((1 : Int32) <<< ((1 : Int32) &&& 31)) = (2 : Int32) from by decide, show ((4 : Int32) * (1 : Int32)) = (4 : Int32) from by decide]
    obtain ⟨k1, f1⟩ := zz_sub p0 (2 : Int32)
    rw [show (2 : Int32).toInt = 2 from rfl] at f1
    have g1 := zz_rg (p0 - (2 : Int32))
    obtain ⟨k2, f2⟩ := zz_mul (4 : Int32) (p0 - (2 : Int32))
    rw [show (4 : Int32).toInt = 4 from rfl] at f2
    have g2 := zz_rg ((4 : Int32) * (p0 - (2 : Int32)))
    have f3 := zz_divP ((4 : Int32) * (p0 - (2 : Int32))) (2 : Int32) 2 rfl (by decide) (by omega)
    obtain ⟨k4, f4⟩ := zz_add (4 : Int32) (((4 : Int32) * (p0 - (2 : Int32))) / (2 : Int32))
    rw [show (4 : Int32).toInt = 4 from rfl] at f4
    have g4 := zz_rg ((4 : Int32) + (((4 : Int32) * (p0 - (2 : Int32))) / (2 : Int32)))
    have g3 : zz_lo p0.toNatClampNeg = 4 + 4 * (p0.toNatClampNeg - 2) / 2 := by
      unfold zz_lo
      rw [if_neg (by omega)]
      rw [if_pos (by omega)]
    omega
  have c := zz_nlt c
  rw [show ((2 : Int32) <<< ((1 : Int32) &&& 31)).toInt = 4 from by decide] at c
  rw [show ((1 : Int32) + 1) = (2 : Int32) from by decide]
  rw [m_X12_listOf_L2_s]
  refine zz_ok_ite (fun c => ?_) (fun c => ?_)
  · have c := Int32.lt_iff_toInt_lt.mp c
    rw [show ((2 : Int32) <<< ((2 : Int32) &&& 31)).toInt = 8 from by decide] at c
    refine zz_ok_chk (by decide) ?_
    refine zz_ok_some ?_
    show (((4 : Int32) * (2 : Int32)) + (((4 : Int32) * (p0 - ((1 : Int32) <<< ((2 : Int32) &&& 31)))) / ((1 : Int32) <<< ((2 : Int32) &&& 31)))).toInt = _
    rw [show ((1 : Int32) <<< ((2 : Int32) &&& 31)) = (4 : Int32) from by decide, show ((4 : Int32) * (2 : Int32)) = (8 : Int32) from by decide]
    obtain ⟨k1, f1⟩ := zz_sub p0 (4 : Int32)
    rw [show (4 : Int32).toInt = 4 from rfl] at f1
    have g1 := zz_rg (p0 - (4 : Int32))
    obtain ⟨k2, f2⟩ := zz_mul (4 : Int32) (p0 - (4 : Int32))
    rw [show (4 : Int32).toInt = 4 from rfl] at f2
    have g2 := zz_rg ((4 : Int32) * (p0 - (4 : Int32)))
    have f3 := zz_divP ((4 : Int32) * (p0 - (4 : Int32))) (4 : Int32) 4 rfl (by decide) (by omega)
    obtain ⟨k4, f4⟩ := zz_add (8 : Int32) (((4 : Int32) * (p0 - (4 : Int32))) / (4 : Int32))
    rw [show (8 : Int32).toInt = 8 from rfl] at f4
    have g4 := zz_rg ((8 : Int32) + (((4 : Int32) * (p0 - (4 : Int32))) / (4 : Int32)))
    have g3 : zz_lo p0.toNatClampNeg = 8 + 4 * (p0.toNatClampNeg - 4) / 4 := by
      unfold zz_lo
      rw [if_neg (by omega)]
      rw [if_neg (by omega)]
      rw [if_pos (by omega)]
    omega
  have c := zz_nlt c
  rw [show ((2 : Int32) <<< ((2 : Int32) &&& 31)).toInt = 8 from by decide] at c
  rw [show ((2 : Int32) + 1) = (3 : Int32) from by decide]
  rw [m_X12_listOf_L2_s]
  refine zz_ok_ite (fun c => ?_) (fun c => ?_)
  · have c := Int32.lt_iff_toInt_lt.mp c
    rw [show ((2 : Int32) <<< ((3 : Int32) &&& 31)).toInt = 16 from by decide] at c
    refine zz_ok_chk (by decide) ?_
    refine zz_ok_some ?_
    show (((4 : Int32) * (3 : Int32)) + (((4 : Int32) * (p0 - ((1 : Int32) <<< ((3 : Int32) &&& 31)))) / ((1 : Int32) <<< ((3 : Int32) &&& 31)))).toInt = _
    rw [show ((1 : Int32) <<< ((3 : Int32) &&& 31)) = (8 : Int32) from by decide, show ((4 : Int32) * (3 : Int32)) = (12 : Int32) from by decide]
    obtain ⟨k1, f1⟩ := zz_sub p0 (8 : Int32)
    rw [show (8 : Int32).toInt = 8 from rfl] at f1
    have g1 := zz_rg (p0 - (8 : Int32))
    obtain ⟨k2, f2⟩ := zz_mul (4 : Int32) (p0 - (8 : Int32))
    rw [show (4 : Int32).toInt = 4 from rfl] at f2
    have g2 := zz_rg ((4 : Int32) * (p0 - (8 : Int32)))
    have f3 := zz_divP ((4 : Int32) * (p0 - (8 : Int32))) (8 : Int32) 8 rfl (by decide) (by omega)
    obtain ⟨k4, f4⟩ := zz_add (12 : Int32) (((4 : Int32) * (p0 - (8 : Int32))) / (8 : Int32))
    rw [show (12 : Int32).toInt = 12 from rfl] at f4
    have g4 := zz_rg ((12 : Int32) + (((4 : Int32) * (p0 - (8 : Int32))) / (8 : Int32)))
    have g3 : zz_lo p0.toNatClampNeg = 12 + 4 * (p0.toNatClampNeg - 8) / 8 := by
      unfold zz_lo
      rw [if_neg (by omega)]
      rw [if_neg (by omega)]
      rw [if_neg (by omega)]
      rw [if_pos (by omega)]
    omega
  have c := zz_nlt c
  rw [show ((2 : Int32) <<< ((3 : Int32) &&& 31)).toInt = 16 from by decide] at c
  rw [show ((3 : Int32) + 1) = (4 : Int32) from by decide]
  rw [m_X12_listOf_L2_s]
  refine zz_ok_ite (fun c => ?_) (fun c => ?_)
  · have c := Int32.lt_iff_toInt_lt.mp c
    rw [show ((2 : Int32) <<< ((4 : Int32) &&& 31)).toInt = 32 from by decide] at c
    refine zz_ok_chk (by decide) ?_
    refine zz_ok_some ?_
    show (((4 : Int32) * (4 : Int32)) + (((4 : Int32) * (p0 - ((1 : Int32) <<< ((4 : Int32) &&& 31)))) / ((1 : Int32) <<< ((4 : Int32) &&& 31)))).toInt = _
    rw [show ((1 : Int32) <<< ((4 : Int32) &&& 31)) = (16 : Int32) from by decide, show ((4 : Int32) * (4 : Int32)) = (16 : Int32) from by decide]
    obtain ⟨k1, f1⟩ := zz_sub p0 (16 : Int32)
    rw [show (16 : Int32).toInt = 16 from rfl] at f1
    have g1 := zz_rg (p0 - (16 : Int32))
    obtain ⟨k2, f2⟩ := zz_mul (4 : Int32) (p0 - (16 : Int32))
    rw [show (4 : Int32).toInt = 4 from rfl] at f2
    have g2 := zz_rg ((4 : Int32) * (p0 - (16 : Int32)))
    have f3 := zz_divP ((4 : Int32) * (p0 - (16 : Int32))) (16 : Int32) 16 rfl (by decide) (by omega)
    obtain ⟨k4, f4⟩ := zz_add (16 : Int32) (((4 : Int32) * (p0 - (16 : Int32))) / (16 : Int32))
    rw [show (16 : Int32).toInt = 16 from rfl] at f4
    have g4 := zz_rg ((16 : Int32) + (((4 : Int32) * (p0 - (16 : Int32))) / (16 : Int32)))
    have g3 : zz_lo p0.toNatClampNeg = 16 + 4 * (p0.toNatClampNeg - 16) / 16 := by
      unfold zz_lo
      rw [if_neg (by omega)]
      rw [if_neg (by omega)]
      rw [if_neg (by omega)]
      rw [if_neg (by omega)]
      rw [if_pos (by omega)]
    omega
  have c := zz_nlt c
  rw [show ((2 : Int32) <<< ((4 : Int32) &&& 31)).toInt = 32 from by decide] at c
  rw [show ((4 : Int32) + 1) = (5 : Int32) from by decide]
  rw [m_X12_listOf_L2_s]
  refine zz_ok_ite (fun c => ?_) (fun c => ?_)
  · have c := Int32.lt_iff_toInt_lt.mp c
    rw [show ((2 : Int32) <<< ((5 : Int32) &&& 31)).toInt = 64 from by decide] at c
    refine zz_ok_chk (by decide) ?_
    refine zz_ok_some ?_
    show (((4 : Int32) * (5 : Int32)) + (((4 : Int32) * (p0 - ((1 : Int32) <<< ((5 : Int32) &&& 31)))) / ((1 : Int32) <<< ((5 : Int32) &&& 31)))).toInt = _
    rw [show ((1 : Int32) <<< ((5 : Int32) &&& 31)) = (32 : Int32) from by decide, show ((4 : Int32) * (5 : Int32)) = (20 : Int32) from by decide]
    obtain ⟨k1, f1⟩ := zz_sub p0 (32 : Int32)
    rw [show (32 : Int32).toInt = 32 from rfl] at f1
    have g1 := zz_rg (p0 - (32 : Int32))
    obtain ⟨k2, f2⟩ := zz_mul (4 : Int32) (p0 - (32 : Int32))
    rw [show (4 : Int32).toInt = 4 from rfl] at f2
    have g2 := zz_rg ((4 : Int32) * (p0 - (32 : Int32)))
    have f3 := zz_divP ((4 : Int32) * (p0 - (32 : Int32))) (32 : Int32) 32 rfl (by decide) (by omega)
    obtain ⟨k4, f4⟩ := zz_add (20 : Int32) (((4 : Int32) * (p0 - (32 : Int32))) / (32 : Int32))
    rw [show (20 : Int32).toInt = 20 from rfl] at f4
    have g4 := zz_rg ((20 : Int32) + (((4 : Int32) * (p0 - (32 : Int32))) / (32 : Int32)))
    have g3 : zz_lo p0.toNatClampNeg = 20 + 4 * (p0.toNatClampNeg - 32) / 32 := by
      unfold zz_lo
      rw [if_neg (by omega)]
      rw [if_neg (by omega)]
      rw [if_neg (by omega)]
      rw [if_neg (by omega)]
      rw [if_neg (by omega)]
      rw [if_pos (by omega)]
    omega
  have c := zz_nlt c
  rw [show ((2 : Int32) <<< ((5 : Int32) &&& 31)).toInt = 64 from by decide] at c
  rw [show ((5 : Int32) + 1) = (6 : Int32) from by decide]
  rw [m_X12_listOf_L2_s]
  refine zz_ok_ite (fun c => ?_) (fun c => ?_)
  · have c := Int32.lt_iff_toInt_lt.mp c
    rw [show ((2 : Int32) <<< ((6 : Int32) &&& 31)).toInt = 128 from by decide] at c
    refine zz_ok_chk (by decide) ?_
    refine zz_ok_some ?_
    show (((4 : Int32) * (6 : Int32)) + (((4 : Int32) * (p0 - ((1 : Int32) <<< ((6 : Int32) &&& 31)))) / ((1 : Int32) <<< ((6 : Int32) &&& 31)))).toInt = _
    rw [show ((1 : Int32) <<< ((6 : Int32) &&& 31)) = (64 : Int32) from by decide, show ((4 : Int32) * (6 : Int32)) = (24 : Int32) from by decide]
    obtain ⟨k1, f1⟩ := zz_sub p0 (64 : Int32)
    rw [show (64 : Int32).toInt = 64 from rfl] at f1
    have g1 := zz_rg (p0 - (64 : Int32))
    obtain ⟨k2, f2⟩ := zz_mul (4 : Int32) (p0 - (64 : Int32))
    rw [show (4 : Int32).toInt = 4 from rfl] at f2
    have g2 := zz_rg ((4 : Int32) * (p0 - (64 : Int32)))
    have f3 := zz_divP ((4 : Int32) * (p0 - (64 : Int32))) (64 : Int32) 64 rfl (by decide) (by omega)
    obtain ⟨k4, f4⟩ := zz_add (24 : Int32) (((4 : Int32) * (p0 - (64 : Int32))) / (64 : Int32))
    rw [show (24 : Int32).toInt = 24 from rfl] at f4
    have g4 := zz_rg ((24 : Int32) + (((4 : Int32) * (p0 - (64 : Int32))) / (64 : Int32)))
    have g3 : zz_lo p0.toNatClampNeg = 24 + 4 * (p0.toNatClampNeg - 64) / 64 := by
      unfold zz_lo
      rw [if_neg (by omega)]
      rw [if_neg (by omega)]
      rw [if_neg (by omega)]
      rw [if_neg (by omega)]
      rw [if_neg (by omega)]
      rw [if_neg (by omega)]
      rw [if_pos (by omega)]
    omega
  have c := zz_nlt c
  rw [show ((2 : Int32) <<< ((6 : Int32) &&& 31)).toInt = 128 from by decide] at c
  rw [show ((6 : Int32) + 1) = (7 : Int32) from by decide]
  rw [m_X12_listOf_L2_s]
  refine zz_ok_ite (fun c => ?_) (fun c => ?_)
  · have c := Int32.lt_iff_toInt_lt.mp c
    rw [show ((2 : Int32) <<< ((7 : Int32) &&& 31)).toInt = 256 from by decide] at c
    refine zz_ok_chk (by decide) ?_
    refine zz_ok_some ?_
    show (((4 : Int32) * (7 : Int32)) + (((4 : Int32) * (p0 - ((1 : Int32) <<< ((7 : Int32) &&& 31)))) / ((1 : Int32) <<< ((7 : Int32) &&& 31)))).toInt = _
    rw [show ((1 : Int32) <<< ((7 : Int32) &&& 31)) = (128 : Int32) from by decide, show ((4 : Int32) * (7 : Int32)) = (28 : Int32) from by decide]
    obtain ⟨k1, f1⟩ := zz_sub p0 (128 : Int32)
    rw [show (128 : Int32).toInt = 128 from rfl] at f1
    have g1 := zz_rg (p0 - (128 : Int32))
    obtain ⟨k2, f2⟩ := zz_mul (4 : Int32) (p0 - (128 : Int32))
    rw [show (4 : Int32).toInt = 4 from rfl] at f2
    have g2 := zz_rg ((4 : Int32) * (p0 - (128 : Int32)))
    have f3 := zz_divP ((4 : Int32) * (p0 - (128 : Int32))) (128 : Int32) 128 rfl (by decide) (by omega)
    obtain ⟨k4, f4⟩ := zz_add (28 : Int32) (((4 : Int32) * (p0 - (128 : Int32))) / (128 : Int32))
    rw [show (28 : Int32).toInt = 28 from rfl] at f4
    have g4 := zz_rg ((28 : Int32) + (((4 : Int32) * (p0 - (128 : Int32))) / (128 : Int32)))
    have g3 : zz_lo p0.toNatClampNeg = 28 + 4 * (p0.toNatClampNeg - 128) / 128 := by
      unfold zz_lo
      rw [if_neg (by omega)]
      rw [if_neg (by omega)]
      rw [if_neg (by omega)]
      rw [if_neg (by omega)]
      rw [if_neg (by omega)]
      rw [if_neg (by omega)]
      rw [if_neg (by omega)]
      rw [if_pos (by omega)]
    omega
  have c := zz_nlt c
  rw [show ((2 : Int32) <<< ((7 : Int32) &&& 31)).toInt = 256 from by decide] at c
  rw [show ((7 : Int32) + 1) = (8 : Int32) from by decide]
  rw [m_X12_listOf_L2_s]
  refine zz_ok_ite (fun c => ?_) (fun c => ?_)
  · have c := Int32.lt_iff_toInt_lt.mp c
    rw [show ((2 : Int32) <<< ((8 : Int32) &&& 31)).toInt = 512 from by decide] at c
    refine zz_ok_chk (by decide) ?_
    refine zz_ok_some ?_
    show (((4 : Int32) * (8 : Int32)) + (((4 : Int32) * (p0 - ((1 : Int32) <<< ((8 : Int32) &&& 31)))) / ((1 : Int32) <<< ((8 : Int32) &&& 31)))).toInt = _
    rw [show ((1 : Int32) <<< ((8 : Int32) &&& 31)) = (256 : Int32) from by decide, show ((4 : Int32) * (8 : Int32)) = (32 : Int32) from by decide]
    obtain ⟨k1, f1⟩ := zz_sub p0 (256 : Int32)
    rw [show (256 : Int32).toInt = 256 from rfl] at f1
    have g1 := zz_rg (p0 - (256 : Int32))
    obtain ⟨k2, f2⟩ := zz_mul (4 : Int32) (p0 - (256 : Int32))
    rw [show (4 : Int32).toInt = 4 from rfl] at f2
    have g2 := zz_rg ((4 : Int32) * (p0 - (256 : Int32)))
    have f3 := zz_divP ((4 : Int32) * (p0 - (256 : Int32))) (256 : Int32) 256 rfl (by decide) (by omega)
    obtain ⟨k4, f4⟩ := zz_add (32 : Int32) (((4 : Int32) * (p0 - (256 : Int32))) / (256 : Int32))
    rw [show (32 : Int32).toInt = 32 from rfl] at f4
    have g4 := zz_rg ((32 : Int32) + (((4 : Int32) * (p0 - (256 : Int32))) / (256 : Int32)))
    have g3 : zz_lo p0.toNatClampNeg = 32 + 4 * (p0.toNatClampNeg - 256) / 256 := by
      unfold zz_lo
      rw [if_neg (by omega)]
      rw [if_neg (by omega)]
      rw [if_neg (by omega)]
      rw [if_neg (by omega)]
      rw [if_neg (by omega)]
      rw [if_neg (by omega)]
      rw [if_neg (by omega)]
      rw [if_neg (by omega)]
      rw [if_pos (by omega)]
    omega
  have c := zz_nlt c
  rw [show ((2 : Int32) <<< ((8 : Int32) &&& 31)).toInt = 512 from by decide] at c
  rw [show ((8 : Int32) + 1) = (9 : Int32) from by decide]
  rw [m_X12_listOf_L2_s]
  refine zz_ok_ite (fun c => ?_) (fun c => ?_)
  · have c := Int32.lt_iff_toInt_lt.mp c
    rw [show ((2 : Int32) <<< ((9 : Int32) &&& 31)).toInt = 1024 from by decide] at c
    refine zz_ok_chk (by decide) ?_
    refine zz_ok_some ?_
    show (((4 : Int32) * (9 : Int32)) + (((4 : Int32) * (p0 - ((1 : Int32) <<< ((9 : Int32) &&& 31)))) / ((1 : Int32) <<< ((9 : Int32) &&& 31)))).toInt = _
    rw [show ((1 : Int32) <<< ((9 : Int32) &&& 31)) = (512 : Int32) from by decide, show ((4 : Int32) * (9 : Int32)) = (36 : Int32) from by decide]
    obtain ⟨k1, f1⟩ := zz_sub p0 (512 : Int32)
    rw [show (512 : Int32).toInt = 512 from rfl] at f1
    have g1 := zz_rg (p0 - (512 : Int32))
    obtain ⟨k2, f2⟩ := zz_mul (4 : Int32) (p0 - (512 : Int32))
    rw [show (4 : Int32).toInt = 4 from rfl] at f2
    have g2 := zz_rg ((4 : Int32) * (p0 - (512 : Int32)))
    have f3 := zz_divP ((4 : Int32) * (p0 - (512 : Int32))) (512 : Int32) 512 rfl (by decide) (by omega)
    obtain ⟨k4, f4⟩ := zz_add (36 : Int32) (((4 : Int32) * (p0 - (512 : Int32))) / (512 : Int32))
    rw [show (36 : Int32).toInt = 36 from rfl] at f4
    have g4 := zz_rg ((36 : Int32) + (((4 : Int32) * (p0 - (512 : Int32))) / (512 : Int32)))
    have g3 : zz_lo p0.toNatClampNeg = 36 + 4 * (p0.toNatClampNeg - 512) / 512 := by
      unfold zz_lo
      rw [if_neg (by omega)]
      rw [if_neg (by omega)]
      rw [if_neg (by omega)]
      rw [if_neg (by omega)]
      rw [if_neg (by omega)]
      rw [if_neg (by omega)]
      rw [if_neg (by omega)]
      rw [if_neg (by omega)]
      rw [if_neg (by omega)]
      rw [if_pos (by omega)]
    omega
  have c := zz_nlt c
  rw [show ((2 : Int32) <<< ((9 : Int32) &&& 31)).toInt = 1024 from by decide] at c
  rw [show ((9 : Int32) + 1) = (10 : Int32) from by decide]
  rw [m_X12_listOf_L2_s]
  refine zz_ok_ite (fun c => ?_) (fun c => ?_)
  · have c := Int32.lt_iff_toInt_lt.mp c
    rw [show ((2 : Int32) <<< ((10 : Int32) &&& 31)).toInt = 2048 from by decide] at c
    refine zz_ok_chk (by decide) ?_
    refine zz_ok_some ?_
    show (((4 : Int32) * (10 : Int32)) + (((4 : Int32) * (p0 - ((1 : Int32) <<< ((10 : Int32) &&& 31)))) / ((1 : Int32) <<< ((10 : Int32) &&& 31)))).toInt = _
    rw [show ((1 : Int32) <<< ((10 : Int32) &&& 31)) = (1024 : Int32) from by decide, show ((4 : Int32) * (10 : Int32)) = (40 : Int32) from by decide]
    obtain ⟨k1, f1⟩ := zz_sub p0 (1024 : Int32)
    rw [show (1024 : Int32).toInt = 1024 from rfl] at f1
    have g1 := zz_rg (p0 - (1024 : Int32))
    obtain ⟨k2, f2⟩ := zz_mul (4 : Int32) (p0 - (1024 : Int32))
    rw [show (4 : Int32).toInt = 4 from rfl] at f2
    have g2 := zz_rg ((4 : Int32) * (p0 - (1024 : Int32)))
    have f3 := zz_divP ((4 : Int32) * (p0 - (1024 : Int32))) (1024 : Int32) 1024 rfl (by decide) (by omega)
    obtain ⟨k4, f4⟩ := zz_add (40 : Int32) (((4 : Int32) * (p0 - (1024 : Int32))) / (1024 : Int32))
    rw [show (40 : Int32).toInt = 40 from rfl] at f4
    have g4 := zz_rg ((40 : Int32) + (((4 : Int32) * (p0 - (1024 : Int32))) / (1024 : Int32)))
    have g3 : zz_lo p0.toNatClampNeg = 40 + 4 * (p0.toNatClampNeg - 1024) / 1024 := by
      unfold zz_lo
      rw [if_neg (by omega)]
      rw [if_neg (by omega)]
      rw [if_neg (by omega)]
      rw [if_neg (by omega)]
      rw [if_neg (by omega)]
      rw [if_neg (by omega)]
      rw [if_neg (by omega)]
      rw [if_neg (by omega)]
      rw [if_neg (by omega)]
      rw [if_neg (by omega)]
      omega
    omega
  have c := zz_nlt c
  rw [show ((2 : Int32) <<< ((10 : Int32) &&& 31)).toInt = 2048 from by decide] at c
  omega
theorem s_X12_listOf (K : Nat) (hK : 1099511627776 ≤ K) (T : Nat) (hT : T ≤ 900) (p0 : Int32) (a0 : 1 ≤ p0.toInt) (a1 : p0.toInt ≤ 1024) : zz_ok (m_X12_listOf K p0) (fun z => z.1.toInt = (zz_lo p0.toNatClampNeg : Int)) := by
  unfold m_X12_listOf
  have h := zz_listOf K (K - 11) p0 a0 a1
  rw [show K - 11 + 11 = K by omega] at h
  exact h
theorem zz_F_Z {f w bl : Int} {o nu pl sp li lm : Nat → Int32} {r n : Int} (h : zz_F f w bl o nu pl sp li lm r n) (hr : r < 0) : zz_Z f w bl o nu pl sp li lm := h.1 hr
theorem zz_F_G {f w bl : Int} {o nu pl sp li lm : Nat → Int32} {r n : Int} (h : zz_F f w bl o nu pl sp li lm r n) (hr : 0 ≤ r) : zz_G f w bl o nu pl sp li lm r n := h.2 hr
theorem zz_p2_dbl {a b : Int} (h : zz_p2 a) (hb : b = 2 * a) (hl : a < 1024) : zz_p2 b := by
  unfold zz_p2 at h ⊢
  omega
theorem zz_dv (p s : Int32) (hp : 0 ≤ p.toInt) (hs : zz_p2 s.toInt) (hps : p.toInt + s.toInt ≤ 1024) : 0 ≤ (p / s).toInt ∧ (p / s).toInt ≤ 1024 ∧ ((p / s).toInt % 2 = 1 ∨ p.toInt + s.toInt < 1024 ∨ 1024 ≤ s.toInt) ∧ ((p / s).toInt % 2 = 0 ∨ s.toInt ≤ p.toInt) := by
  rcases hs with h | h | h | h | h | h | h | h | h | h | h
  · have f := zz_divP p s 1 h (by decide) hp
    omega
  · have f := zz_divP p s 2 h (by decide) hp
    omega
  · have f := zz_divP p s 4 h (by decide) hp
    omega
  · have f := zz_divP p s 8 h (by decide) hp
    omega
  · have f := zz_divP p s 16 h (by decide) hp
    omega
  · have f := zz_divP p s 32 h (by decide) hp
    omega
  · have f := zz_divP p s 64 h (by decide) hp
    omega
  · have f := zz_divP p s 128 h (by decide) hp
    omega
  · have f := zz_divP p s 256 h (by decide) hp
    omega
  · have f := zz_divP p s 512 h (by decide) hp
    omega
  · have f := zz_divP p s 1024 h (by decide) hp
    omega

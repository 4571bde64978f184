set_option maxHeartbeats 4000000 in
theorem s_X10_clear (K : Nat) (hK : 1099511627776 ≤ K) (n0 : Nat) (n1 : Nat) (s0 : Int32) (s1 : Int32) (s2 : Nat → Int32) (s3 : Nat → Int32) : zz_ok (m_X10_clear K n0 n1 s0 s1 s2 s3) (fun z => z.1.toInt = 0) := by
  have g1 := zz_rg s0
  have g2 := zz_rg s1
  unfold m_X10_clear
  have l3 : (0 : Int32).toInt = 0 := rfl
  refine zz_ok_some ?_
  show (0 : Int32).toInt = 0
  omega
set_option maxHeartbeats 4000000 in
theorem s_X10_size (K : Nat) (hK : 1099511627776 ≤ K) (n0 : Nat) (n1 : Nat) (s0 : Int32) (s1 : Int32) (s2 : Nat → Int32) (s3 : Nat → Int32) : zz_ok (m_X10_size K n0 n1 s0 s1 s2 s3) (fun z => z.1.toInt = s0.toInt ∧ z.2.1.toInt = s0.toInt) := by
  have g1 := zz_rg s0
  have g2 := zz_rg s1
  unfold m_X10_size
  refine zz_ok_some ?_
  show s0.toInt = s0.toInt ∧ s0.toInt = s0.toInt
  refine ⟨?_, ?_⟩ <;> omega
set_option maxHeartbeats 4000000 in
theorem s_X10_looked (K : Nat) (hK : 1099511627776 ≤ K) (n0 : Nat) (n1 : Nat) (s0 : Int32) (s1 : Int32) (s2 : Nat → Int32) (s3 : Nat → Int32) : zz_ok (m_X10_looked K n0 n1 s0 s1 s2 s3) (fun z => z.2.1.toInt = s0.toInt) := by
  have g1 := zz_rg s0
  have g2 := zz_rg s1
  unfold m_X10_looked
  refine zz_ok_some ?_
  show s0.toInt = s0.toInt
  omega
set_option maxHeartbeats 4000000 in
theorem s_X10_add (K : Nat) (hK : 1099511627776 ≤ K) (n0 : Nat) (n1 : Nat) (p1 : Int32) (p2 : Int32) (s0 : Int32) (s1 : Int32) (s2 : Nat → Int32) (s3 : Nat → Int32) (a0 : 0 ≤ s0.toInt) (a1 : s0.toInt ≤ (n0 : Int)) (a2 : n0 = n1) (a3 : n0 < 1000000) : zz_ok (m_X10_add K n0 n1 p1 p2 s0 s1 s2 s3) (fun z => 0 ≤ z.1.toInt ∧ z.1.toInt ≤ (n0 : Int)) := by
  have g1 := zz_rg p1
  have g2 := zz_rg p2
  have g3 := zz_rg s0
  have g4 := zz_rg s1
  unfold m_X10_add
  have f6 := zz_nI n0 (by omega)
  have g7 := zz_rg (nI n0)
  refine zz_ok_ite (fun c5 => ?_) (fun c5 => ?_)
  · have c5 := Int32.le_iff_toInt_le.mp c5
    refine zz_ok_some ?_
    show 0 ≤ s0.toInt ∧ s0.toInt ≤ (n0 : Int)
    refine ⟨?_, ?_⟩ <;> omega
  · have c5 := zz_nle c5
    refine zz_ok_chk (zz_ix (by omega) (by omega)) ?_
    refine zz_ok_chk (zz_ix (by omega) (by omega)) ?_
    have l8 : (1 : Int32).toInt = 1 := rfl
    obtain ⟨k9, f10⟩ := zz_add s0 (1 : Int32)
    have g11 := zz_rg (s0 + ((1 : Int32)))
    refine zz_ok_some ?_
    show 0 ≤ (s0 + ((1 : Int32))).toInt ∧ (s0 + ((1 : Int32))).toInt ≤ (n0 : Int)
    refine ⟨?_, ?_⟩ <;> omega
set_option maxHeartbeats 4000000 in
theorem s_X10_placeOf (K : Nat) (hK : 1099511627776 ≤ K) (n0 : Nat) (n1 : Nat) (p1 : Int32) (s0 : Int32) (s1 : Int32) (s2 : Nat → Int32) (s3 : Nat → Int32) (a0 : 0 ≤ s0.toInt) (a1 : s0.toInt ≤ (n0 : Int)) (a2 : n0 = n1) (a3 : n0 < 1000000) : zz_ok (m_X10_placeOf K n0 n1 p1 s0 s1 s2 s3) (fun z => z.2.1.toInt = s0.toInt) := by
  have g1 := zz_rg p1
  have g2 := zz_rg s0
  have g3 := zz_rg s1
  unfold m_X10_placeOf
  have l5 : (0 : Int32).toInt = 0 := rfl
  refine zz_ok_ite (fun c4 => ?_) (fun c4 => ?_)
  · have c4 := Int32.lt_iff_toInt_lt.mp c4
    refine zz_ok_some ?_
    show s0.toInt = s0.toInt
    omega
  · have c4 := zz_nlt c4
    refine zz_ok_ite (fun c6 => ?_) (fun c6 => ?_)
    · have c6 := Int32.lt_iff_toInt_lt.mp c6
      refine zz_ok_chk (zz_ix (by omega) (by omega)) ?_
      refine zz_ok_some ?_
      show s0.toInt = s0.toInt
      omega
    · have c6 := zz_nlt c6
      refine zz_ok_some ?_
      show s0.toInt = s0.toInt
      omega
set_option maxHeartbeats 4000000 in
theorem s_X10_wordsOf (K : Nat) (hK : 1099511627776 ≤ K) (n0 : Nat) (n1 : Nat) (p1 : Int32) (s0 : Int32) (s1 : Int32) (s2 : Nat → Int32) (s3 : Nat → Int32) (a0 : 0 ≤ s0.toInt) (a1 : s0.toInt ≤ (n0 : Int)) (a2 : n0 = n1) (a3 : n0 < 1000000) : zz_ok (m_X10_wordsOf K n0 n1 p1 s0 s1 s2 s3) (fun z => z.2.1.toInt = s0.toInt) := by
  have g1 := zz_rg p1
  have g2 := zz_rg s0
  have g3 := zz_rg s1
  unfold m_X10_wordsOf
  have l5 : (0 : Int32).toInt = 0 := rfl
  refine zz_ok_ite (fun c4 => ?_) (fun c4 => ?_)
  · have c4 := Int32.lt_iff_toInt_lt.mp c4
    refine zz_ok_some ?_
    show s0.toInt = s0.toInt
    omega
  · have c4 := zz_nlt c4
    refine zz_ok_ite (fun c6 => ?_) (fun c6 => ?_)
    · have c6 := Int32.lt_iff_toInt_lt.mp c6
      refine zz_ok_chk (zz_ix (by omega) (by omega)) ?_
      refine zz_ok_some ?_
      show s0.toInt = s0.toInt
      omega
    · have c6 := zz_nlt c6
      refine zz_ok_some ?_
      show s0.toInt = s0.toInt
      omega
set_option maxHeartbeats 4000000 in
theorem s_X10_endOf (K : Nat) (hK : 1099511627776 ≤ K) (n0 : Nat) (n1 : Nat) (p1 : Int32) (s0 : Int32) (s1 : Int32) (s2 : Nat → Int32) (s3 : Nat → Int32) (a0 : 0 ≤ s0.toInt) (a1 : s0.toInt ≤ (n0 : Int)) (a2 : n0 = n1) (a3 : n0 < 1000000) : zz_ok (m_X10_endOf K n0 n1 p1 s0 s1 s2 s3) (fun z => z.2.1.toInt = s0.toInt) := by
  have g1 := zz_rg p1
  have g2 := zz_rg s0
  have g3 := zz_rg s1
  unfold m_X10_endOf
  have l5 : (0 : Int32).toInt = 0 := rfl
  refine zz_ok_ite (fun c4 => ?_) (fun c4 => ?_)
  · have c4 := Int32.lt_iff_toInt_lt.mp c4
    refine zz_ok_some ?_
    show s0.toInt = s0.toInt
    omega
  · have c4 := zz_nlt c4
    refine zz_ok_ite (fun c6 => ?_) (fun c6 => ?_)
    · have c6 := Int32.lt_iff_toInt_lt.mp c6
      refine zz_ok_chk (zz_ix (by omega) (by omega)) ?_
      refine zz_ok_chk (zz_ix (by omega) (by omega)) ?_
      refine zz_ok_some ?_
      show s0.toInt = s0.toInt
      omega
    · have c6 := zz_nlt c6
      refine zz_ok_some ?_
      show s0.toInt = s0.toInt
      omega
set_option maxHeartbeats 4000000 in
theorem s_X10_remove (K : Nat) (hK : 1099511627776 ≤ K) (n0 : Nat) (n1 : Nat) (p1 : Int32) (s0 : Int32) (s1 : Int32) (s2 : Nat → Int32) (s3 : Nat → Int32) (a0 : 0 ≤ s0.toInt) (a1 : s0.toInt ≤ (n0 : Int)) (a2 : n0 = n1) (a3 : n0 < 1000000) : zz_ok (m_X10_remove K n0 n1 p1 s0 s1 s2 s3) (fun z => 0 ≤ z.1.toInt ∧ z.1.toInt ≤ s0.toInt) := by
  have g1 := zz_rg p1
  have g2 := zz_rg s0
  have g3 := zz_rg s1
  unfold m_X10_remove
  have l5 : (0 : Int32).toInt = 0 := rfl
  refine zz_ok_ite (fun c4 => ?_) (fun c4 => ?_)
  · have c4 := Int32.lt_iff_toInt_lt.mp c4
    refine zz_ok_some ?_
    show 0 ≤ s0.toInt ∧ s0.toInt ≤ s0.toInt
    refine ⟨?_, ?_⟩ <;> omega
  · have c4 := zz_nlt c4
    refine zz_ok_ite (fun c6 => ?_) (fun c6 => ?_)
    · have c6 := Int32.lt_iff_toInt_lt.mp c6
      have l7 : (1 : Int32).toInt = 1 := rfl
      obtain ⟨k8, f9⟩ := zz_add p1 (1 : Int32)
      have g10 := zz_rg (p1 + ((1 : Int32)))
      obtain ⟨k11, f12⟩ := zz_sub s0 (1 : Int32)
      have g13 := zz_rg (s0 - ((1 : Int32)))
      obtain ⟨k14, f15⟩ := zz_sub (s0 - ((1 : Int32))) p1
      have g16 := zz_rg ((s0 - ((1 : Int32))) - p1)
      refine zz_ok_chk ⟨zz_nn (by omega), zz_nn (by omega), zz_nn (by omega), zz_cp (by omega) (by omega) (by omega), zz_cp (by omega) (by omega) (by omega)⟩ ?_
      refine zz_ok_chk ⟨zz_nn (by omega), zz_nn (by omega), zz_nn (by omega), zz_cp (by omega) (by omega) (by omega), zz_cp (by omega) (by omega) (by omega)⟩ ?_
      refine zz_ok_some ?_
      show 0 ≤ (s0 - ((1 : Int32))).toInt ∧ (s0 - ((1 : Int32))).toInt ≤ s0.toInt
      refine ⟨?_, ?_⟩ <;> omega
    · have c6 := zz_nlt c6
      refine zz_ok_some ?_
      show 0 ≤ s0.toInt ∧ s0.toInt ≤ s0.toInt
      refine ⟨?_, ?_⟩ <;> omega
set_option maxHeartbeats 4000000 in
theorem s_X10_mostWords_L4 (K : Nat) (hK : 1099511627776 ≤ K) (n0 : Nat) (n1 : Nat) : ∀ (k : Nat) (x1 : Int32) (x2 : Int32) (s0 : Int32) (s1 : Int32) (s2 : Nat → Int32) (s3 : Nat → Int32), 0 ≤ s0.toInt → s0.toInt ≤ (n0 : Int) → n0 = n1 → n0 < 1000000 → 0 ≤ x2.toInt → x2.toInt ≤ s0.toInt → s0.toInt - x2.toInt < (k : Int) → zz_ok (m_X10_mostWords_L4 K n0 n1 k x1 x2 s0 s1 s2 s3) (fun z => z.2.1.toInt = s0.toInt) := by
  intro k
  induction k with
  | zero =>
    intro x1 x2 s0 s1 s2 s3 a0 a1 a2 a3 a4 a5 hz9
    exfalso
    have g_x1 := zz_rg x1
    have g_x2 := zz_rg x2
    have g_s0 := zz_rg s0
    have g_s1 := zz_rg s1
    omega
  | succ k ih =>
    intro x1 x2 s0 s1 s2 s3 a0 a1 a2 a3 a4 a5 hz9
    rw [m_X10_mostWords_L4_s]
    have g1 := zz_rg x1
    have g2 := zz_rg x2
    have g3 := zz_rg s0
    have g4 := zz_rg s1
    refine zz_ok_ite (fun c5 => ?_) (fun c5 => ?_)
    · have c5 := Int32.le_iff_toInt_le.mp c5
      refine zz_ok_some ?_
      show s0.toInt = s0.toInt
      omega
    · have c5 := zz_nle c5
      refine zz_ok_chk (zz_ix (by omega) (by omega)) ?_
      have g6 := zz_rg (s3 x2.toNatClampNeg)
      have f7 := zz_maxF x1 (s3 x2.toNatClampNeg)
      have g8 := zz_rg (zz_max x1 (s3 x2.toNatClampNeg))
      have l9 : (1 : Int32).toInt = 1 := rfl
      obtain ⟨k10, f11⟩ := zz_add x2 (1 : Int32)
      have g12 := zz_rg (x2 + 1)
      refine (ih (zz_max x1 (s3 x2.toNatClampNeg)) (x2 + 1) s0 s1 s2 s3 (by omega) (by omega) (by omega) (by omega) (by omega) (by omega) (by omega)).mono (fun z hz => ?_)
      have q13 : z.2.1.toInt = s0.toInt := hz
      show z.2.1.toInt = s0.toInt
      omega
set_option maxHeartbeats 4000000 in
theorem s_X10_mostWords (K : Nat) (hK : 1099511627776 ≤ K) (n0 : Nat) (n1 : Nat) (s0 : Int32) (s1 : Int32) (s2 : Nat → Int32) (s3 : Nat → Int32) (a0 : 0 ≤ s0.toInt) (a1 : s0.toInt ≤ (n0 : Int)) (a2 : n0 = n1) (a3 : n0 < 1000000) : zz_ok (m_X10_mostWords K n0 n1 s0 s1 s2 s3) (fun z => z.2.1.toInt = s0.toInt) := by
  have g1 := zz_rg s0
  have g2 := zz_rg s1
  unfold m_X10_mostWords
  have l3 : (0 : Int32).toInt = 0 := rfl
  refine (s_X10_mostWords_L4 K hK n0 n1 K ((0 : Int32)) ((0 : Int32)) s0 s1 s2 s3 (by omega) (by omega) (by omega) (by omega) (by omega) (by omega) (by omega)).mono (fun z hz => ?_)
  have q4 : z.2.1.toInt = s0.toInt := hz
  show z.2.1.toInt = s0.toInt
  omega
set_option maxHeartbeats 4000000 in
theorem s_X10_firstFit_L2 (K : Nat) (hK : 1099511627776 ≤ K) (n0 : Nat) (n1 : Nat) : ∀ (k : Nat) (x1 : Int32) (x2 : Int32) (s0 : Int32) (s1 : Int32) (s2 : Nat → Int32) (s3 : Nat → Int32), 0 ≤ s0.toInt → s0.toInt ≤ (n0 : Int) → n0 = n1 → n0 < 1000000 → 0 ≤ x2.toInt → x2.toInt ≤ s0.toInt → s0.toInt - x2.toInt < (k : Int) → zz_ok (m_X10_firstFit_L2 K n0 n1 k x1 x2 s0 s1 s2 s3) (fun z => z.2.1.toInt = s0.toInt) := by
  intro k
  induction k with
  | zero =>
    intro x1 x2 s0 s1 s2 s3 a0 a1 a2 a3 a4 a5 hz9
    exfalso
    have g_x1 := zz_rg x1
    have g_x2 := zz_rg x2
    have g_s0 := zz_rg s0
    have g_s1 := zz_rg s1
    omega
  | succ k ih =>
    intro x1 x2 s0 s1 s2 s3 a0 a1 a2 a3 a4 a5 hz9
    rw [m_X10_firstFit_L2_s]
    have g1 := zz_rg x1
    have g2 := zz_rg x2
    have g3 := zz_rg s0
    have g4 := zz_rg s1
    refine zz_ok_ite (fun c5 => ?_) (fun c5 => ?_)
    · have c5 := Int32.le_iff_toInt_le.mp c5
      refine zz_ok_some ?_
      show s0.toInt = s0.toInt
      omega
    · have c5 := zz_nle c5
      refine zz_ok_chk (zz_ix (by omega) (by omega)) ?_
      have g7 := zz_rg (s3 x2.toNatClampNeg)
      refine zz_ok_ite (fun c6 => ?_) (fun c6 => ?_)
      · have c6 := Int32.lt_iff_toInt_lt.mp c6
        have l8 : (1 : Int32).toInt = 1 := rfl
        obtain ⟨k9, f10⟩ := zz_add x2 (1 : Int32)
        have g11 := zz_rg (x2 + 1)
        obtain ⟨k12, f13⟩ := zz_add s1 (1 : Int32)
        have g14 := zz_rg (s1 + ((1 : Int32)))
        refine (ih x1 (x2 + 1) s0 (s1 + ((1 : Int32))) s2 s3 (by omega) (by omega) (by omega) (by omega) (by omega) (by omega) (by omega)).mono (fun z hz => ?_)
        have q15 : z.2.1.toInt = s0.toInt := hz
        show z.2.1.toInt = s0.toInt
        omega
      · have c6 := zz_nlt c6
        refine zz_ok_chk (zz_ix (by omega) (by omega)) ?_
        refine zz_ok_some ?_
        show s0.toInt = s0.toInt
        omega
set_option maxHeartbeats 4000000 in
theorem s_X10_firstFit (K : Nat) (hK : 1099511627776 ≤ K) (n0 : Nat) (n1 : Nat) (p1 : Int32) (s0 : Int32) (s1 : Int32) (s2 : Nat → Int32) (s3 : Nat → Int32) (a0 : 0 ≤ s0.toInt) (a1 : s0.toInt ≤ (n0 : Int)) (a2 : n0 = n1) (a3 : n0 < 1000000) : zz_ok (m_X10_firstFit K n0 n1 p1 s0 s1 s2 s3) (fun z => z.2.1.toInt = s0.toInt) := by
  have g1 := zz_rg p1
  have g2 := zz_rg s0
  have g3 := zz_rg s1
  unfold m_X10_firstFit
  have l4 : (0 : Int32).toInt = 0 := rfl
  refine (s_X10_firstFit_L2 K hK n0 n1 K p1 ((0 : Int32)) s0 s1 s2 s3 (by omega) (by omega) (by omega) (by omega) (by omega) (by omega) (by omega)).mono (fun z hz => ?_)
  have q5 : z.2.1.toInt = s0.toInt := hz
  show z.2.1.toInt = s0.toInt
  omega
set_option maxHeartbeats 4000000 in
theorem s_X10_nextFit_L72 (K : Nat) (hK : 1099511627776 ≤ K) (n0 : Nat) (n1 : Nat) : ∀ (k : Nat) (x1 : Int32) (x2 : Int32) (x3 : Int32) (s0 : Int32) (s1 : Int32) (s2 : Nat → Int32) (s3 : Nat → Int32), 0 ≤ s0.toInt → s0.toInt ≤ (n0 : Int) → n0 = n1 → n0 < 1000000 → 0 ≤ x3.toInt → x3.toInt ≤ s0.toInt → s0.toInt - x3.toInt < (k : Int) → zz_ok (m_X10_nextFit_L72 K n0 n1 k x1 x2 x3 s0 s1 s2 s3) (fun z => z.2.1.toInt = s0.toInt) := by
  intro k
  induction k with
  | zero =>
    intro x1 x2 x3 s0 s1 s2 s3 a0 a1 a2 a3 a4 a5 hz9
    exfalso
    have g_x1 := zz_rg x1
    have g_x2 := zz_rg x2
    have g_x3 := zz_rg x3
    have g_s0 := zz_rg s0
    have g_s1 := zz_rg s1
    omega
  | succ k ih =>
    intro x1 x2 x3 s0 s1 s2 s3 a0 a1 a2 a3 a4 a5 hz9
    rw [m_X10_nextFit_L72_s]
    have g1 := zz_rg x1
    have g2 := zz_rg x2
    have g3 := zz_rg x3
    have g4 := zz_rg s0
    have g5 := zz_rg s1
    refine zz_ok_ite (fun c6 => ?_) (fun c6 => ?_)
    · have c6 := Int32.le_iff_toInt_le.mp c6
      refine zz_ok_some ?_
      show s0.toInt = s0.toInt
      omega
    · have c6 := zz_nle c6
      refine zz_ok_chk (zz_ix (by omega) (by omega)) ?_
      have g8 := zz_rg (s2 x3.toNatClampNeg)
      refine zz_ok_ite (fun c7 => ?_) (fun c7 => ?_)
      · have c7 := Int32.le_iff_toInt_le.mp c7
        refine zz_ok_some ?_
        show s0.toInt = s0.toInt
        omega
      · have c7 := zz_nle c7
        refine zz_ok_chk (zz_ix (by omega) (by omega)) ?_
        have g10 := zz_rg (s3 x3.toNatClampNeg)
        refine zz_ok_ite (fun c9 => ?_) (fun c9 => ?_)
        · have c9 := Int32.lt_iff_toInt_lt.mp c9
          have l11 : (1 : Int32).toInt = 1 := rfl
          obtain ⟨k12, f13⟩ := zz_add x3 (1 : Int32)
          have g14 := zz_rg (x3 + 1)
          obtain ⟨k15, f16⟩ := zz_add s1 (1 : Int32)
          have g17 := zz_rg (s1 + ((1 : Int32)))
          refine (ih x1 x2 (x3 + 1) s0 (s1 + ((1 : Int32))) s2 s3 (by omega) (by omega) (by omega) (by omega) (by omega) (by omega) (by omega)).mono (fun z hz => ?_)
          have q18 : z.2.1.toInt = s0.toInt := hz
          show z.2.1.toInt = s0.toInt
          omega
        · have c9 := zz_nlt c9
          refine zz_ok_chk (zz_ix (by omega) (by omega)) ?_
          refine zz_ok_some ?_
          show s0.toInt = s0.toInt
          omega
set_option maxHeartbeats 4000000 in
theorem s_X10_nextFit_L2 (K : Nat) (hK : 1099511627776 ≤ K) (n0 : Nat) (n1 : Nat) : ∀ (k : Nat) (x1 : Int32) (x2 : Int32) (x3 : Int32) (s0 : Int32) (s1 : Int32) (s2 : Nat → Int32) (s3 : Nat → Int32), 0 ≤ s0.toInt → s0.toInt ≤ (n0 : Int) → n0 = n1 → n0 < 1000000 → 0 ≤ x3.toInt → x3.toInt ≤ s0.toInt → s0.toInt - x3.toInt < (k : Int) → zz_ok (m_X10_nextFit_L2 K n0 n1 k x1 x2 x3 s0 s1 s2 s3) (fun z => z.2.1.toInt = s0.toInt) := by
  intro k
  induction k with
  | zero =>
    intro x1 x2 x3 s0 s1 s2 s3 a0 a1 a2 a3 a4 a5 hz9
    exfalso
    have g_x1 := zz_rg x1
    have g_x2 := zz_rg x2
    have g_x3 := zz_rg x3
    have g_s0 := zz_rg s0
    have g_s1 := zz_rg s1
    omega
  | succ k ih =>
    intro x1 x2 x3 s0 s1 s2 s3 a0 a1 a2 a3 a4 a5 hz9
    rw [m_X10_nextFit_L2_s]
    have g1 := zz_rg x1
    have g2 := zz_rg x2
    have g3 := zz_rg x3
    have g4 := zz_rg s0
    have g5 := zz_rg s1
    refine zz_ok_ite (fun c6 => ?_) (fun c6 => ?_)
    · have c6 := Int32.le_iff_toInt_le.mp c6
      have l7 : (0 : Int32).toInt = 0 := rfl
      refine (s_X10_nextFit_L72 K hK n0 n1 K x1 x2 ((0 : Int32)) s0 s1 s2 s3 (by omega) (by omega) (by omega) (by omega) (by omega) (by omega) (by omega)).mono (fun z hz => ?_)
      have q8 : z.2.1.toInt = s0.toInt := hz
      show z.2.1.toInt = s0.toInt
      omega
    · have c6 := zz_nle c6
      refine zz_ok_chk (zz_ix (by omega) (by omega)) ?_
      refine zz_ok_chk (zz_ix (by omega) (by omega)) ?_
      refine zz_ok_chk (zz_ix (by omega) (by omega)) ?_
      have g10 := zz_rg (s2 x3.toNatClampNeg)
      have g11 := zz_rg (s3 x3.toNatClampNeg)
      obtain ⟨k12, f13⟩ := zz_add (s2 x3.toNatClampNeg) (s3 x3.toNatClampNeg)
      have g14 := zz_rg ((s2 x3.toNatClampNeg) + (s3 x3.toNatClampNeg))
      have f15 := zz_maxF (s2 x3.toNatClampNeg) x2
      have g16 := zz_rg (zz_max (s2 x3.toNatClampNeg) x2)
      obtain ⟨k17, f18⟩ := zz_sub ((s2 x3.toNatClampNeg) + (s3 x3.toNatClampNeg)) (zz_max (s2 x3.toNatClampNeg) x2)
      have g19 := zz_rg (((s2 x3.toNatClampNeg) + (s3 x3.toNatClampNeg)) - (zz_max (s2 x3.toNatClampNeg) x2))
      have l20 : (0 : Int32).toInt = 0 := rfl
      refine zz_ok_ite (fun c9 => ?_) (fun c9 => ?_)
      · have c9 := Int32.le_iff_toInt_le.mp c9
        have l21 : (1 : Int32).toInt = 1 := rfl
        obtain ⟨k22, f23⟩ := zz_add x3 (1 : Int32)
        have g24 := zz_rg (x3 + 1)
        refine (ih x1 x2 (x3 + 1) s0 s1 s2 s3 (by omega) (by omega) (by omega) (by omega) (by omega) (by omega) (by omega)).mono (fun z hz => ?_)
        have q25 : z.2.1.toInt = s0.toInt := hz
        show z.2.1.toInt = s0.toInt
        omega
      · have c9 := zz_nle c9
        refine zz_ok_ite (fun c26 => ?_) (fun c26 => ?_)
        · have c26 := Int32.lt_iff_toInt_lt.mp c26
          have l27 : (1 : Int32).toInt = 1 := rfl
          obtain ⟨k28, f29⟩ := zz_add x3 (1 : Int32)
          have g30 := zz_rg (x3 + 1)
          obtain ⟨k31, f32⟩ := zz_add s1 (1 : Int32)
          have g33 := zz_rg (s1 + ((1 : Int32)))
          refine (ih x1 x2 (x3 + 1) s0 (s1 + ((1 : Int32))) s2 s3 (by omega) (by omega) (by omega) (by omega) (by omega) (by omega) (by omega)).mono (fun z hz => ?_)
          have q34 : z.2.1.toInt = s0.toInt := hz
          show z.2.1.toInt = s0.toInt
          omega
        · have c26 := zz_nlt c26
          refine zz_ok_some ?_
          show s0.toInt = s0.toInt
          omega
set_option maxHeartbeats 4000000 in
theorem s_X10_nextFit (K : Nat) (hK : 1099511627776 ≤ K) (n0 : Nat) (n1 : Nat) (p1 : Int32) (p2 : Int32) (s0 : Int32) (s1 : Int32) (s2 : Nat → Int32) (s3 : Nat → Int32) (a0 : 0 ≤ s0.toInt) (a1 : s0.toInt ≤ (n0 : Int)) (a2 : n0 = n1) (a3 : n0 < 1000000) : zz_ok (m_X10_nextFit K n0 n1 p1 p2 s0 s1 s2 s3) (fun z => z.2.1.toInt = s0.toInt) := by
  have g1 := zz_rg p1
  have g2 := zz_rg p2
  have g3 := zz_rg s0
  have g4 := zz_rg s1
  unfold m_X10_nextFit
  have l5 : (0 : Int32).toInt = 0 := rfl
  refine (s_X10_nextFit_L2 K hK n0 n1 K p1 p2 ((0 : Int32)) s0 s1 s2 s3 (by omega) (by omega) (by omega) (by omega) (by omega) (by omega) (by omega)).mono (fun z hz => ?_)
  have q6 : z.2.1.toInt = s0.toInt := hz
  show z.2.1.toInt = s0.toInt
  omega
set_option maxHeartbeats 4000000 in
theorem s_X10_bestFit_L4 (K : Nat) (hK : 1099511627776 ≤ K) (n0 : Nat) (n1 : Nat) : ∀ (k : Nat) (x1 : Int32) (x2 : Int32) (x3 : Int32) (s0 : Int32) (s1 : Int32) (s2 : Nat → Int32) (s3 : Nat → Int32), 0 ≤ s0.toInt → s0.toInt ≤ (n0 : Int) → n0 = n1 → n0 < 1000000 → 0 ≤ x3.toInt → x3.toInt ≤ s0.toInt → -1 ≤ x2.toInt → x2.toInt < x3.toInt → s0.toInt - x3.toInt < (k : Int) → zz_ok (m_X10_bestFit_L4 K n0 n1 k x1 x2 x3 s0 s1 s2 s3) (fun z => z.2.1.toInt = s0.toInt) := by
  intro k
  induction k with
  | zero =>
    intro x1 x2 x3 s0 s1 s2 s3 a0 a1 a2 a3 a4 a5 a6 a7 hz9
    exfalso
    have g_x1 := zz_rg x1
    have g_x2 := zz_rg x2
    have g_x3 := zz_rg x3
    have g_s0 := zz_rg s0
    have g_s1 := zz_rg s1
    omega
  | succ k ih =>
    intro x1 x2 x3 s0 s1 s2 s3 a0 a1 a2 a3 a4 a5 a6 a7 hz9
    rw [m_X10_bestFit_L4_s]
    have g1 := zz_rg x1
    have g2 := zz_rg x2
    have g3 := zz_rg x3
    have g4 := zz_rg s0
    have g5 := zz_rg s1
    refine zz_ok_ite (fun c6 => ?_) (fun c6 => ?_)
    · have c6 := Int32.le_iff_toInt_le.mp c6
      refine zz_ok_bind (s_X10_placeOf K hK n0 n1 x2 s0 s0 s2 s3 (by omega) (by omega) (by omega) (by omega)) ?_
      intro z7 hz7
      obtain ⟨r_2, t_2_0, t_2_1, t_2_2, t_2_3⟩ := z7
      have q8 : t_2_0.toInt = s0.toInt := hz7
      have g9 := zz_rg r_2
      have g10 := zz_rg t_2_0
      have g11 := zz_rg t_2_1
      show zz_ok (some (r_2, t_2_0, t_2_1, t_2_2, t_2_3)) _
      refine zz_ok_some ?_
      show t_2_0.toInt = s0.toInt
      omega
    · have c6 := zz_nle c6
      refine zz_ok_chk (zz_ix (by omega) (by omega)) ?_
      have g13 := zz_rg (s3 x3.toNatClampNeg)
      refine zz_ok_ite (fun c12 => ?_) (fun c12 => ?_)
      · have c12 := Int32.lt_iff_toInt_lt.mp c12
        have l14 : (1 : Int32).toInt = 1 := rfl
        obtain ⟨k15, f16⟩ := zz_add x3 (1 : Int32)
        have g17 := zz_rg (x3 + 1)
        refine (ih x1 x2 (x3 + 1) s0 s1 s2 s3 (by omega) (by omega) (by omega) (by omega) (by omega) (by omega) (by omega) (by omega) (by omega)).mono (fun z hz => ?_)
        have q18 : z.2.1.toInt = s0.toInt := hz
        show z.2.1.toInt = s0.toInt
        omega
      · have c12 := zz_nlt c12
        have l20 : (-1 : Int32).toInt = -1 := rfl
        refine zz_ok_ite (fun c19 => ?_) (fun c19 => ?_)
        · have c19 := congrArg Int32.toInt c19
          have l21 : (1 : Int32).toInt = 1 := rfl
          obtain ⟨k22, f23⟩ := zz_add x3 (1 : Int32)
          have g24 := zz_rg (x3 + 1)
          refine (ih x1 x3 (x3 + 1) s0 s1 s2 s3 (by omega) (by omega) (by omega) (by omega) (by omega) (by omega) (by omega) (by omega) (by omega)).mono (fun z hz => ?_)
          have q25 : z.2.1.toInt = s0.toInt := hz
          show z.2.1.toInt = s0.toInt
          omega
        · have c19 := zz_neq c19
          refine zz_ok_chk (zz_ix (by omega) (by omega)) ?_
          refine zz_ok_chk (zz_ix (by omega) (by omega)) ?_
          have g27 := zz_rg (s3 x2.toNatClampNeg)
          refine zz_ok_ite (fun c26 => ?_) (fun c26 => ?_)
          · have c26 := Int32.le_iff_toInt_le.mp c26
            have l28 : (1 : Int32).toInt = 1 := rfl
            obtain ⟨k29, f30⟩ := zz_add x3 (1 : Int32)
            have g31 := zz_rg (x3 + 1)
            refine (ih x1 x2 (x3 + 1) s0 s1 s2 s3 (by omega) (by omega) (by omega) (by omega) (by omega) (by omega) (by omega) (by omega) (by omega)).mono (fun z hz => ?_)
            have q32 : z.2.1.toInt = s0.toInt := hz
            show z.2.1.toInt = s0.toInt
            omega
          · have c26 := zz_nle c26
            have l33 : (1 : Int32).toInt = 1 := rfl
            obtain ⟨k34, f35⟩ := zz_add x3 (1 : Int32)
            have g36 := zz_rg (x3 + 1)
            refine (ih x1 x3 (x3 + 1) s0 s1 s2 s3 (by omega) (by omega) (by omega) (by omega) (by omega) (by omega) (by omega) (by omega) (by omega)).mono (fun z hz => ?_)
            have q37 : z.2.1.toInt = s0.toInt := hz
            show z.2.1.toInt = s0.toInt
            omega
set_option maxHeartbeats 4000000 in
theorem s_X10_bestFit (K : Nat) (hK : 1099511627776 ≤ K) (n0 : Nat) (n1 : Nat) (p1 : Int32) (s0 : Int32) (s1 : Int32) (s2 : Nat → Int32) (s3 : Nat → Int32) (a0 : 0 ≤ s0.toInt) (a1 : s0.toInt ≤ (n0 : Int)) (a2 : n0 = n1) (a3 : n0 < 1000000) : zz_ok (m_X10_bestFit K n0 n1 p1 s0 s1 s2 s3) (fun z => z.2.1.toInt = s0.toInt) := by
  have g1 := zz_rg p1
  have g2 := zz_rg s0
  have g3 := zz_rg s1
  unfold m_X10_bestFit
  have l4 : (-1 : Int32).toInt = -1 := rfl
  have l5 : (0 : Int32).toInt = 0 := rfl
  refine (s_X10_bestFit_L4 K hK n0 n1 K p1 ((-1 : Int32)) ((0 : Int32)) s0 s1 s2 s3 (by omega) (by omega) (by omega) (by omega) (by omega) (by omega) (by omega) (by omega) (by omega)).mono (fun z hz => ?_)
  have q6 : z.2.1.toInt = s0.toInt := hz
  show z.2.1.toInt = s0.toInt
  omega
set_option maxHeartbeats 4000000 in
theorem s_X10_greatestFit_L4 (K : Nat) (hK : 1099511627776 ≤ K) (n0 : Nat) (n1 : Nat) : ∀ (k : Nat) (x1 : Int32) (x2 : Int32) (x3 : Int32) (s0 : Int32) (s1 : Int32) (s2 : Nat → Int32) (s3 : Nat → Int32), 0 ≤ s0.toInt → s0.toInt ≤ (n0 : Int) → n0 = n1 → n0 < 1000000 → 0 ≤ x3.toInt → x3.toInt ≤ s0.toInt → -1 ≤ x2.toInt → x2.toInt < x3.toInt → s0.toInt - x3.toInt < (k : Int) → zz_ok (m_X10_greatestFit_L4 K n0 n1 k x1 x2 x3 s0 s1 s2 s3) (fun z => z.2.1.toInt = s0.toInt) := by
  intro k
  induction k with
  | zero =>
    intro x1 x2 x3 s0 s1 s2 s3 a0 a1 a2 a3 a4 a5 a6 a7 hz9
    exfalso
    have g_x1 := zz_rg x1
    have g_x2 := zz_rg x2
    have g_x3 := zz_rg x3
    have g_s0 := zz_rg s0
    have g_s1 := zz_rg s1
    omega
  | succ k ih =>
    intro x1 x2 x3 s0 s1 s2 s3 a0 a1 a2 a3 a4 a5 a6 a7 hz9
    rw [m_X10_greatestFit_L4_s]
    have g1 := zz_rg x1
    have g2 := zz_rg x2
    have g3 := zz_rg x3
    have g4 := zz_rg s0
    have g5 := zz_rg s1
    refine zz_ok_ite (fun c6 => ?_) (fun c6 => ?_)
    · have c6 := Int32.le_iff_toInt_le.mp c6
      refine zz_ok_bind (s_X10_placeOf K hK n0 n1 x2 s0 s0 s2 s3 (by omega) (by omega) (by omega) (by omega)) ?_
      intro z7 hz7
      obtain ⟨r_2, t_2_0, t_2_1, t_2_2, t_2_3⟩ := z7
      have q8 : t_2_0.toInt = s0.toInt := hz7
      have g9 := zz_rg r_2
      have g10 := zz_rg t_2_0
      have g11 := zz_rg t_2_1
      show zz_ok (some (r_2, t_2_0, t_2_1, t_2_2, t_2_3)) _
      refine zz_ok_some ?_
      show t_2_0.toInt = s0.toInt
      omega
    · have c6 := zz_nle c6
      refine zz_ok_chk (zz_ix (by omega) (by omega)) ?_
      have g13 := zz_rg (s3 x3.toNatClampNeg)
      refine zz_ok_ite (fun c12 => ?_) (fun c12 => ?_)
      · have c12 := Int32.lt_iff_toInt_lt.mp c12
        have l14 : (1 : Int32).toInt = 1 := rfl
        obtain ⟨k15, f16⟩ := zz_add x3 (1 : Int32)
        have g17 := zz_rg (x3 + 1)
        refine (ih x1 x2 (x3 + 1) s0 s1 s2 s3 (by omega) (by omega) (by omega) (by omega) (by omega) (by omega) (by omega) (by omega) (by omega)).mono (fun z hz => ?_)
        have q18 : z.2.1.toInt = s0.toInt := hz
        show z.2.1.toInt = s0.toInt
        omega
      · have c12 := zz_nlt c12
        have l20 : (-1 : Int32).toInt = -1 := rfl
        refine zz_ok_ite (fun c19 => ?_) (fun c19 => ?_)
        · have c19 := congrArg Int32.toInt c19
          have l21 : (1 : Int32).toInt = 1 := rfl
          obtain ⟨k22, f23⟩ := zz_add x3 (1 : Int32)
          have g24 := zz_rg (x3 + 1)
          refine (ih x1 x3 (x3 + 1) s0 s1 s2 s3 (by omega) (by omega) (by omega) (by omega) (by omega) (by omega) (by omega) (by omega) (by omega)).mono (fun z hz => ?_)
          have q25 : z.2.1.toInt = s0.toInt := hz
          show z.2.1.toInt = s0.toInt
          omega
        · have c19 := zz_neq c19
          refine zz_ok_chk (zz_ix (by omega) (by omega)) ?_
          refine zz_ok_chk (zz_ix (by omega) (by omega)) ?_
          have g27 := zz_rg (s3 x2.toNatClampNeg)
          refine zz_ok_ite (fun c26 => ?_) (fun c26 => ?_)
          · have c26 := Int32.le_iff_toInt_le.mp c26
            have l28 : (1 : Int32).toInt = 1 := rfl
            obtain ⟨k29, f30⟩ := zz_add x3 (1 : Int32)
            have g31 := zz_rg (x3 + 1)
            refine (ih x1 x2 (x3 + 1) s0 s1 s2 s3 (by omega) (by omega) (by omega) (by omega) (by omega) (by omega) (by omega) (by omega) (by omega)).mono (fun z hz => ?_)
            have q32 : z.2.1.toInt = s0.toInt := hz
            show z.2.1.toInt = s0.toInt
            omega
          · have c26 := zz_nle c26
            have l33 : (1 : Int32).toInt = 1 := rfl
            obtain ⟨k34, f35⟩ := zz_add x3 (1 : Int32)
            have g36 := zz_rg (x3 + 1)
            refine (ih x1 x3 (x3 + 1) s0 s1 s2 s3 (by omega) (by omega) (by omega) (by omega) (by omega) (by omega) (by omega) (by omega) (by omega)).mono (fun z hz => ?_)
            have q37 : z.2.1.toInt = s0.toInt := hz
            show z.2.1.toInt = s0.toInt
            omega
set_option maxHeartbeats 4000000 in
theorem s_X10_greatestFit (K : Nat) (hK : 1099511627776 ≤ K) (n0 : Nat) (n1 : Nat) (p1 : Int32) (s0 : Int32) (s1 : Int32) (s2 : Nat → Int32) (s3 : Nat → Int32) (a0 : 0 ≤ s0.toInt) (a1 : s0.toInt ≤ (n0 : Int)) (a2 : n0 = n1) (a3 : n0 < 1000000) : zz_ok (m_X10_greatestFit K n0 n1 p1 s0 s1 s2 s3) (fun z => z.2.1.toInt = s0.toInt) := by
  have g1 := zz_rg p1
  have g2 := zz_rg s0
  have g3 := zz_rg s1
  unfold m_X10_greatestFit
  have l4 : (-1 : Int32).toInt = -1 := rfl
  have l5 : (0 : Int32).toInt = 0 := rfl
  refine (s_X10_greatestFit_L4 K hK n0 n1 K p1 ((-1 : Int32)) ((0 : Int32)) s0 s1 s2 s3 (by omega) (by omega) (by omega) (by omega) (by omega) (by omega) (by omega) (by omega) (by omega)).mono (fun z hz => ?_)
  have q6 : z.2.1.toInt = s0.toInt := hz
  show z.2.1.toInt = s0.toInt
  omega
set_option maxHeartbeats 4000000 in
theorem s_X10_find (K : Nat) (hK : 1099511627776 ≤ K) (n0 : Nat) (n1 : Nat) (p1 : Int32) (p2 : Int32) (p3 : Int32) (s0 : Int32) (s1 : Int32) (s2 : Nat → Int32) (s3 : Nat → Int32) (a0 : 0 ≤ s0.toInt) (a1 : s0.toInt ≤ (n0 : Int)) (a2 : n0 = n1) (a3 : n0 < 1000000) : zz_ok (m_X10_find K n0 n1 p1 p2 p3 s0 s1 s2 s3) (fun z => z.2.1.toInt = s0.toInt) := by
  have g1 := zz_rg p1
  have g2 := zz_rg p2
  have g3 := zz_rg p3
  have g4 := zz_rg s0
  have g5 := zz_rg s1
  unfold m_X10_find
  have l7 : (1 : Int32).toInt = 1 := rfl
  refine zz_ok_ite (fun c6 => ?_) (fun c6 => ?_)
  · have c6 := congrArg Int32.toInt c6
    have l8 : (0 : Int32).toInt = 0 := rfl
    refine zz_ok_bind (s_X10_nextFit K hK n0 n1 p2 p3 s0 ((0 : Int32)) s2 s3 (by omega) (by omega) (by omega) (by omega)) ?_
    intro z9 hz9
    obtain ⟨r_2, t_2_0, t_2_1, t_2_2, t_2_3⟩ := z9
    have q10 : t_2_0.toInt = s0.toInt := hz9
    have g11 := zz_rg r_2
    have g12 := zz_rg t_2_0
    have g13 := zz_rg t_2_1
    show zz_ok (some (r_2, t_2_0, t_2_1, t_2_2, t_2_3)) _
    refine zz_ok_some ?_
    show t_2_0.toInt = s0.toInt
    omega
  · have c6 := zz_neq c6
    have l15 : (2 : Int32).toInt = 2 := rfl
    refine zz_ok_ite (fun c14 => ?_) (fun c14 => ?_)
    · have c14 := congrArg Int32.toInt c14
      have l16 : (0 : Int32).toInt = 0 := rfl
      refine zz_ok_bind (s_X10_bestFit K hK n0 n1 p2 s0 ((0 : Int32)) s2 s3 (by omega) (by omega) (by omega) (by omega)) ?_
      intro z17 hz17
      obtain ⟨r_4, t_4_0, t_4_1, t_4_2, t_4_3⟩ := z17
      have q18 : t_4_0.toInt = s0.toInt := hz17
      have g19 := zz_rg r_4
      have g20 := zz_rg t_4_0
      have g21 := zz_rg t_4_1
      show zz_ok (some (r_4, t_4_0, t_4_1, t_4_2, t_4_3)) _
      refine zz_ok_some ?_
      show t_4_0.toInt = s0.toInt
      omega
    · have c14 := zz_neq c14
      have l23 : (3 : Int32).toInt = 3 := rfl
      refine zz_ok_ite (fun c22 => ?_) (fun c22 => ?_)
      · have c22 := congrArg Int32.toInt c22
        have l24 : (0 : Int32).toInt = 0 := rfl
        refine zz_ok_bind (s_X10_greatestFit K hK n0 n1 p2 s0 ((0 : Int32)) s2 s3 (by omega) (by omega) (by omega) (by omega)) ?_
        intro z25 hz25
        obtain ⟨r_6, t_6_0, t_6_1, t_6_2, t_6_3⟩ := z25
        have q26 : t_6_0.toInt = s0.toInt := hz25
        have g27 := zz_rg r_6
        have g28 := zz_rg t_6_0
        have g29 := zz_rg t_6_1
        show zz_ok (some (r_6, t_6_0, t_6_1, t_6_2, t_6_3)) _
        refine zz_ok_some ?_
        show t_6_0.toInt = s0.toInt
        omega
      · have c22 := zz_neq c22
        have l30 : (0 : Int32).toInt = 0 := rfl
        refine zz_ok_bind (s_X10_firstFit K hK n0 n1 p2 s0 ((0 : Int32)) s2 s3 (by omega) (by omega) (by omega) (by omega)) ?_
        intro z31 hz31
        obtain ⟨r_7, t_7_0, t_7_1, t_7_2, t_7_3⟩ := z31
        have q32 : t_7_0.toInt = s0.toInt := hz31
        have g33 := zz_rg r_7
        have g34 := zz_rg t_7_0
        have g35 := zz_rg t_7_1
        show zz_ok (some (r_7, t_7_0, t_7_1, t_7_2, t_7_3)) _
        refine zz_ok_some ?_
        show t_7_0.toInt = s0.toInt
        omega

set_option maxHeartbeats 4000000 in
theorem gg_X10_placeOf (K : Nat) (hK : 1099511627776 ≤ K) (T : Nat) (hT : T ≤ 900) (n0 : Nat) (n1 : Nat) (p1 : Int32) (s0 : Int32) (s1 : Int32) (s2 : Nat → Int32) (s3 : Nat → Int32) (a0 : (n0 : Int) = (n1 : Int)) (a1 : (n0 : Int) < 1000000) (a2 : 0 ≤ s0.toInt) (a3 : s0.toInt ≤ (n0 : Int)) (a4 : zz_vs 1024 (s2) (s3) s0.toInt) (a5 : -1 ≤ p1.toInt) (a6 : p1.toInt < s0.toInt) : zz_ok (m_X10_placeOf K n0 n1 p1 s0 s1 s2 s3) (fun z => zz_po (s2) p1.toInt z.1.toInt ∧ -1 ≤ z.1.toInt ∧ z.1.toInt ≤ 1024 ∧ z.2.1 = s0 ∧ z.2.2.1 = s1 ∧ z.2.2.2.1 = s2 ∧ z.2.2.2.2 = s3) := by
  have g1 := zz_rg p1
  have g2 := zz_rg s0
  have g3 := zz_rg s1
  have v9 := zz_vs_or (by assumption : zz_vs 1024 s2 s3 s0.toInt) p1
  unfold m_X10_placeOf
  have l5 : (0 : Int32).toInt = 0 := rfl
  refine zz_ok_ite (fun c4 => ?_) (fun c4 => ?_)
  · have c4 := Int32.lt_iff_toInt_lt.mp c4
    have l6 : (-1 : Int32).toInt = -1 := rfl
    refine zz_ok_some ?_
    show zz_po (s2) p1.toInt (-1 : Int32).toInt ∧ -1 ≤ (-1 : Int32).toInt ∧ (-1 : Int32).toInt ≤ 1024 ∧ s0 = s0 ∧ s1 = s1 ∧ s2 = s2 ∧ s3 = s3
    exact ⟨(by first | exact Or.inl ⟨by omega, by omega⟩ | exact Or.inr ⟨by omega, rfl⟩), (by omega), (by omega), rfl, rfl, rfl, rfl⟩
  · have c4 := zz_nlt c4
    refine zz_ok_ite (fun c7 => ?_) (fun c7 => ?_)
    · have c7 := Int32.lt_iff_toInt_lt.mp c7
      refine zz_ok_chk (zz_ix (by omega) (by omega)) ?_
      have g8 := zz_tnI p1 (by omega)
      have g9 := zz_rg (s2 p1.toNatClampNeg)
      refine zz_ok_some ?_
      show zz_po (s2) p1.toInt (s2 p1.toNatClampNeg).toInt ∧ -1 ≤ (s2 p1.toNatClampNeg).toInt ∧ (s2 p1.toNatClampNeg).toInt ≤ 1024 ∧ s0 = s0 ∧ s1 = s1 ∧ s2 = s2 ∧ s3 = s3
      exact ⟨(by first | exact Or.inl ⟨by omega, by omega⟩ | exact Or.inr ⟨by omega, rfl⟩), (by omega), (by omega), rfl, rfl, rfl, rfl⟩
    · have c7 := zz_nlt c7
      have l10 : (-1 : Int32).toInt = -1 := rfl
      refine zz_ok_some ?_
      show zz_po (s2) p1.toInt (-1 : Int32).toInt ∧ -1 ≤ (-1 : Int32).toInt ∧ (-1 : Int32).toInt ≤ 1024 ∧ s0 = s0 ∧ s1 = s1 ∧ s2 = s2 ∧ s3 = s3
      exact ⟨(by first | exact Or.inl ⟨by omega, by omega⟩ | exact Or.inr ⟨by omega, rfl⟩), (by omega), (by omega), rfl, rfl, rfl, rfl⟩
set_option maxHeartbeats 4000000 in
theorem gg_X10_firstFit_L2 (K : Nat) (hK : 1099511627776 ≤ K) (T : Nat) (hT : T ≤ 900) (n0 : Nat) (n1 : Nat) : ∀ (k : Nat) (x1 : Int32) (x2 : Int32) (s0 : Int32) (s1 : Int32) (s2 : Nat → Int32) (s3 : Nat → Int32), (n0 : Int) = (n1 : Int) → (n0 : Int) < 1000000 → 0 ≤ s0.toInt → s0.toInt ≤ (n0 : Int) → zz_vs 1024 (s2) (s3) s0.toInt → 1 ≤ x1.toInt → 0 ≤ x2.toInt → x2.toInt ≤ s0.toInt → zz_nf x1.toInt (s3) x2.toInt → s0.toInt - x2.toInt < (k : Int) → zz_ok (m_X10_firstFit_L2 K n0 n1 k x1 x2 s0 s1 s2 s3) (fun z => zz_q0 (s2) (s3) s0.toInt x1.toInt z.1.toInt ∧ -1 ≤ z.1.toInt ∧ z.1.toInt ≤ 1024 ∧ z.2.1 = s0 ∧ z.2.2.2.1 = s2 ∧ z.2.2.2.2 = s3) := by
  intro k
  induction k with
  | zero =>
    intro x1 x2 s0 s1 s2 s3 a0 a1 a2 a3 a4 a5 a6 a7 a8 hz9
    exfalso
    have g_x1 := zz_rg x1
    have g_x2 := zz_rg x2
    have g_s0 := zz_rg s0
    have g_s1 := zz_rg s1
    omega
  | succ k ih =>
    intro x1 x2 s0 s1 s2 s3 a0 a1 a2 a3 a4 a5 a6 a7 a8 hz9
    rw [m_X10_firstFit_L2_s]
    have g1 := zz_rg x1
    have g2 := zz_rg x2
    have g3 := zz_rg s0
    have g4 := zz_rg s1
    have v9 := zz_vs_or (by assumption : zz_vs 1024 s2 s3 s0.toInt) x2
    have tn9 := zz_tnI x2 (by omega)
    refine zz_ok_ite (fun c5 => ?_) (fun c5 => ?_)
    · have c5 := Int32.le_iff_toInt_le.mp c5
      have l6 : (-1 : Int32).toInt = -1 := rfl
      refine zz_ok_some ?_
      show zz_q0 (s2) (s3) s0.toInt x1.toInt (-1 : Int32).toInt ∧ -1 ≤ (-1 : Int32).toInt ∧ (-1 : Int32).toInt ≤ 1024 ∧ s0 = s0 ∧ s2 = s2 ∧ s3 = s3
      exact ⟨(by first | exact zz_q0_no (by assumption) (by omega) (by omega) (by omega) | exact zz_q0_yes (k := x2.toNatClampNeg) (by assumption) (by omega) (by omega) (by omega) (by omega) rfl), (by omega), (by omega), rfl, rfl, rfl⟩
    · have c5 := zz_nle c5
      refine zz_ok_chk (zz_ix (by omega) (by omega)) ?_
      have g7 := zz_tnI x2 (by omega)
      have g9 := zz_rg (s3 x2.toNatClampNeg)
      refine zz_ok_ite (fun c8 => ?_) (fun c8 => ?_)
      · have c8 := Int32.lt_iff_toInt_lt.mp c8
        have l10 : (1 : Int32).toInt = 1 := rfl
        obtain ⟨k11, f12⟩ := zz_add x2 (1 : Int32)
        have g13 := zz_rg (x2 + 1)
        obtain ⟨k14, f15⟩ := zz_add s1 (1 : Int32)
        have g16 := zz_rg (s1 + ((1 : Int32)))
        refine (ih x1 (x2 + 1) s0 (s1 + ((1 : Int32))) s2 s3 a0 a1 a2 a3 a4 a5 (by omega) (by omega) (by exact zz_nf_step (k := x2.toNatClampNeg) (by assumption) (by omega) (by omega) (by omega)) (by omega)).mono (fun z hz => ?_)
        obtain ⟨y17_0, y17_1, y17_2, y17_3, y17_4⟩ := z
        have q18 : zz_q0 (s2) (s3) s0.toInt x1.toInt y17_0.toInt := hz.1
        have q19 : -1 ≤ y17_0.toInt := hz.2.1
        have q20 : y17_0.toInt ≤ 1024 := hz.2.2.1
        have q21 : y17_1 = s0 := hz.2.2.2.1
        have q22 : y17_3 = s2 := hz.2.2.2.2.1
        have q23 : y17_4 = s3 := hz.2.2.2.2.2
        clear hz
        have e24 : s0 = y17_1 := q21.symm
        subst e24
        have e25 : s2 = y17_3 := q22.symm
        subst e25
        have e26 : s3 = y17_4 := q23.symm
        subst e26
        have g27 := zz_rg y17_0
        have g28 := zz_rg y17_2
        show zz_q0 (s2) (s3) s0.toInt x1.toInt y17_0.toInt ∧ -1 ≤ y17_0.toInt ∧ y17_0.toInt ≤ 1024 ∧ s0 = s0 ∧ s2 = s2 ∧ s3 = s3
        exact ⟨q18, q19, q20, rfl, rfl, rfl⟩
      · have c8 := zz_nlt c8
        refine zz_ok_chk (zz_ix (by omega) (by omega)) ?_
        have g29 := zz_rg (s2 x2.toNatClampNeg)
        refine zz_ok_some ?_
        show zz_q0 (s2) (s3) s0.toInt x1.toInt (s2 x2.toNatClampNeg).toInt ∧ -1 ≤ (s2 x2.toNatClampNeg).toInt ∧ (s2 x2.toNatClampNeg).toInt ≤ 1024 ∧ s0 = s0 ∧ s2 = s2 ∧ s3 = s3
        exact ⟨(by first | exact zz_q0_no (by assumption) (by omega) (by omega) (by omega) | exact zz_q0_yes (k := x2.toNatClampNeg) (by assumption) (by omega) (by omega) (by omega) (by omega) rfl), (by omega), (by omega), rfl, rfl, rfl⟩
set_option maxHeartbeats 4000000 in
theorem gg_X10_firstFit (K : Nat) (hK : 1099511627776 ≤ K) (T : Nat) (hT : T ≤ 900) (n0 : Nat) (n1 : Nat) (p1 : Int32) (s0 : Int32) (s1 : Int32) (s2 : Nat → Int32) (s3 : Nat → Int32) (a0 : (n0 : Int) = (n1 : Int)) (a1 : (n0 : Int) < 1000000) (a2 : 0 ≤ s0.toInt) (a3 : s0.toInt ≤ (n0 : Int)) (a4 : zz_vs 1024 (s2) (s3) s0.toInt) (a5 : 1 ≤ p1.toInt) : zz_ok (m_X10_firstFit K n0 n1 p1 s0 s1 s2 s3) (fun z => zz_q0 (s2) (s3) s0.toInt p1.toInt z.1.toInt ∧ -1 ≤ z.1.toInt ∧ z.1.toInt ≤ 1024 ∧ z.2.1 = s0 ∧ z.2.2.2.1 = s2 ∧ z.2.2.2.2 = s3) := by
  have g1 := zz_rg p1
  have g2 := zz_rg s0
  have g3 := zz_rg s1
  unfold m_X10_firstFit
  have l4 : (0 : Int32).toInt = 0 := rfl
  refine (gg_X10_firstFit_L2 K hK T hT n0 n1 K p1 ((0 : Int32)) s0 s1 s2 s3 a0 a1 a2 a3 a4 a5 (by omega) (by omega) (by exact zz_nf_0 (by omega)) (by omega)).mono (fun z hz => ?_)
  obtain ⟨y5_0, y5_1, y5_2, y5_3, y5_4⟩ := z
  have q6 : zz_q0 (s2) (s3) s0.toInt p1.toInt y5_0.toInt := hz.1
  have q7 : -1 ≤ y5_0.toInt := hz.2.1
  have q8 : y5_0.toInt ≤ 1024 := hz.2.2.1
  have q9 : y5_1 = s0 := hz.2.2.2.1
  have q10 : y5_3 = s2 := hz.2.2.2.2.1
  have q11 : y5_4 = s3 := hz.2.2.2.2.2
  clear hz
  have e12 : s0 = y5_1 := q9.symm
  subst e12
  have e13 : s2 = y5_3 := q10.symm
  subst e13
  have e14 : s3 = y5_4 := q11.symm
  subst e14
  have g15 := zz_rg y5_0
  have g16 := zz_rg y5_2
  show zz_q0 (s2) (s3) s0.toInt p1.toInt y5_0.toInt ∧ -1 ≤ y5_0.toInt ∧ y5_0.toInt ≤ 1024 ∧ s0 = s0 ∧ s2 = s2 ∧ s3 = s3
  exact ⟨q6, q7, q8, rfl, rfl, rfl⟩
set_option maxHeartbeats 4000000 in
theorem gg_X10_nextFit_L72 (K : Nat) (hK : 1099511627776 ≤ K) (T : Nat) (hT : T ≤ 900) (n0 : Nat) (n1 : Nat) : ∀ (k : Nat) (x1 : Int32) (x2 : Int32) (x3 : Int32) (s0 : Int32) (s1 : Int32) (s2 : Nat → Int32) (s3 : Nat → Int32), (n0 : Int) = (n1 : Int) → (n0 : Int) < 1000000 → 0 ≤ s0.toInt → s0.toInt ≤ (n0 : Int) → zz_vs 1024 (s2) (s3) s0.toInt → 1 ≤ x1.toInt → 0 ≤ x3.toInt → x3.toInt ≤ s0.toInt → zz_nf x1.toInt (s3) x3.toInt → s0.toInt - x3.toInt < (k : Int) → zz_ok (m_X10_nextFit_L72 K n0 n1 k x1 x2 x3 s0 s1 s2 s3) (fun z => zz_q2 (s2) (s3) s0.toInt x1.toInt x2.toInt z.1.toInt ∧ -1 ≤ z.1.toInt ∧ z.1.toInt ≤ 1024 ∧ z.2.1 = s0 ∧ z.2.2.2.1 = s2 ∧ z.2.2.2.2 = s3) := by
  intro k
  induction k with
  | zero =>
    intro x1 x2 x3 s0 s1 s2 s3 a0 a1 a2 a3 a4 a5 a6 a7 a8 hz9
    exfalso
    have g_x1 := zz_rg x1
    have g_x2 := zz_rg x2
    have g_x3 := zz_rg x3
    have g_s0 := zz_rg s0
    have g_s1 := zz_rg s1
    omega
  | succ k ih =>
    intro x1 x2 x3 s0 s1 s2 s3 a0 a1 a2 a3 a4 a5 a6 a7 a8 hz9
    rw [m_X10_nextFit_L72_s]
    have g1 := zz_rg x1
    have g2 := zz_rg x2
    have g3 := zz_rg x3
    have g4 := zz_rg s0
    have g5 := zz_rg s1
    have v9 := zz_vs_or (by assumption : zz_vs 1024 s2 s3 s0.toInt) x3
    have tn9 := zz_tnI x3 (by omega)
    refine zz_ok_ite (fun c6 => ?_) (fun c6 => ?_)
    · have c6 := Int32.le_iff_toInt_le.mp c6
      have l7 : (-1 : Int32).toInt = -1 := rfl
      refine zz_ok_some ?_
      show zz_q2 (s2) (s3) s0.toInt x1.toInt x2.toInt (-1 : Int32).toInt ∧ -1 ≤ (-1 : Int32).toInt ∧ (-1 : Int32).toInt ≤ 1024 ∧ s0 = s0 ∧ s2 = s2 ∧ s3 = s3
      exact ⟨(by first | exact zz_q2_no (by assumption) (by omega) (by omega) (by omega) | exact zz_q2_no2 (k := x3.toNatClampNeg) (by assumption) (by omega) (by omega) (by omega) (by omega) (by omega) | exact zz_q2_yes (k := x3.toNatClampNeg) (by assumption) (by omega) (by omega) (by omega) (by omega) (by omega) rfl), (by omega), (by omega), rfl, rfl, rfl⟩
    · have c6 := zz_nle c6
      refine zz_ok_chk (zz_ix (by omega) (by omega)) ?_
      have g8 := zz_tnI x3 (by omega)
      have g10 := zz_rg (s2 x3.toNatClampNeg)
      refine zz_ok_ite (fun c9 => ?_) (fun c9 => ?_)
      · have c9 := Int32.le_iff_toInt_le.mp c9
        have l11 : (-1 : Int32).toInt = -1 := rfl
        refine zz_ok_some ?_
        show zz_q2 (s2) (s3) s0.toInt x1.toInt x2.toInt (-1 : Int32).toInt ∧ -1 ≤ (-1 : Int32).toInt ∧ (-1 : Int32).toInt ≤ 1024 ∧ s0 = s0 ∧ s2 = s2 ∧ s3 = s3
        exact ⟨(by first | exact zz_q2_no (by assumption) (by omega) (by omega) (by omega) | exact zz_q2_no2 (k := x3.toNatClampNeg) (by assumption) (by omega) (by omega) (by omega) (by omega) (by omega) | exact zz_q2_yes (k := x3.toNatClampNeg) (by assumption) (by omega) (by omega) (by omega) (by omega) (by omega) rfl), (by omega), (by omega), rfl, rfl, rfl⟩
      · have c9 := zz_nle c9
        refine zz_ok_chk (zz_ix (by omega) (by omega)) ?_
        have g13 := zz_rg (s3 x3.toNatClampNeg)
        refine zz_ok_ite (fun c12 => ?_) (fun c12 => ?_)
        · have c12 := Int32.lt_iff_toInt_lt.mp c12
          have l14 : (1 : Int32).toInt = 1 := rfl
          obtain ⟨k15, f16⟩ := zz_add x3 (1 : Int32)
          have g17 := zz_rg (x3 + 1)
          obtain ⟨k18, f19⟩ := zz_add s1 (1 : Int32)
          have g20 := zz_rg (s1 + ((1 : Int32)))
          refine (ih x1 x2 (x3 + 1) s0 (s1 + ((1 : Int32))) s2 s3 a0 a1 a2 a3 a4 a5 (by omega) (by omega) (by exact zz_nf_step (k := x3.toNatClampNeg) (by assumption) (by omega) (by omega) (by omega)) (by omega)).mono (fun z hz => ?_)
          obtain ⟨y21_0, y21_1, y21_2, y21_3, y21_4⟩ := z
          have q22 : zz_q2 (s2) (s3) s0.toInt x1.toInt x2.toInt y21_0.toInt := hz.1
          have q23 : -1 ≤ y21_0.toInt := hz.2.1
          have q24 : y21_0.toInt ≤ 1024 := hz.2.2.1
          have q25 : y21_1 = s0 := hz.2.2.2.1
          have q26 : y21_3 = s2 := hz.2.2.2.2.1
          have q27 : y21_4 = s3 := hz.2.2.2.2.2
          clear hz
          have e28 : s0 = y21_1 := q25.symm
          subst e28
          have e29 : s2 = y21_3 := q26.symm
          subst e29
          have e30 : s3 = y21_4 := q27.symm
          subst e30
          have g31 := zz_rg y21_0
          have g32 := zz_rg y21_2
          show zz_q2 (s2) (s3) s0.toInt x1.toInt x2.toInt y21_0.toInt ∧ -1 ≤ y21_0.toInt ∧ y21_0.toInt ≤ 1024 ∧ s0 = s0 ∧ s2 = s2 ∧ s3 = s3
          exact ⟨q22, q23, q24, rfl, rfl, rfl⟩
        · have c12 := zz_nlt c12
          refine zz_ok_chk (zz_ix (by omega) (by omega)) ?_
          refine zz_ok_some ?_
          show zz_q2 (s2) (s3) s0.toInt x1.toInt x2.toInt (s2 x3.toNatClampNeg).toInt ∧ -1 ≤ (s2 x3.toNatClampNeg).toInt ∧ (s2 x3.toNatClampNeg).toInt ≤ 1024 ∧ s0 = s0 ∧ s2 = s2 ∧ s3 = s3
          exact ⟨(by first | exact zz_q2_no (by assumption) (by omega) (by omega) (by omega) | exact zz_q2_no2 (k := x3.toNatClampNeg) (by assumption) (by omega) (by omega) (by omega) (by omega) (by omega) | exact zz_q2_yes (k := x3.toNatClampNeg) (by assumption) (by omega) (by omega) (by omega) (by omega) (by omega) rfl), (by omega), (by omega), rfl, rfl, rfl⟩
set_option maxHeartbeats 4000000 in
theorem gg_X10_nextFit_L2 (K : Nat) (hK : 1099511627776 ≤ K) (T : Nat) (hT : T ≤ 900) (n0 : Nat) (n1 : Nat) : ∀ (k : Nat) (x1 : Int32) (x2 : Int32) (x3 : Int32) (s0 : Int32) (s1 : Int32) (s2 : Nat → Int32) (s3 : Nat → Int32), (n0 : Int) = (n1 : Int) → (n0 : Int) < 1000000 → 0 ≤ s0.toInt → s0.toInt ≤ (n0 : Int) → zz_vs 1024 (s2) (s3) s0.toInt → 1 ≤ x1.toInt → x1.toInt ≤ 1024 → 0 ≤ x2.toInt → x2.toInt ≤ 1024 → 0 ≤ x3.toInt → x3.toInt ≤ s0.toInt → zz_nx x1.toInt x2.toInt (s2) (s3) x3.toInt → s0.toInt - x3.toInt < (k : Int) → zz_ok (m_X10_nextFit_L2 K n0 n1 k x1 x2 x3 s0 s1 s2 s3) (fun z => zz_q1 (s2) (s3) s0.toInt x1.toInt x2.toInt z.1.toInt ∧ -1 ≤ z.1.toInt ∧ z.1.toInt ≤ 1024 ∧ z.2.1 = s0 ∧ z.2.2.2.1 = s2 ∧ z.2.2.2.2 = s3) := by
  intro k
  induction k with
  | zero =>
    intro x1 x2 x3 s0 s1 s2 s3 a0 a1 a2 a3 a4 a5 a6 a7 a8 a9 a10 a11 hz9
    exfalso
    have g_x1 := zz_rg x1
    have g_x2 := zz_rg x2
    have g_x3 := zz_rg x3
    have g_s0 := zz_rg s0
    have g_s1 := zz_rg s1
    omega
  | succ k ih =>
    intro x1 x2 x3 s0 s1 s2 s3 a0 a1 a2 a3 a4 a5 a6 a7 a8 a9 a10 a11 hz9
    rw [m_X10_nextFit_L2_s]
    have g1 := zz_rg x1
    have g2 := zz_rg x2
    have g3 := zz_rg x3
    have g4 := zz_rg s0
    have g5 := zz_rg s1
    have v9 := zz_vs_or (by assumption : zz_vs 1024 s2 s3 s0.toInt) x3
    have tn9 := zz_tnI x3 (by omega)
    refine zz_ok_ite (fun c6 => ?_) (fun c6 => ?_)
    · have c6 := Int32.le_iff_toInt_le.mp c6
      have l7 : (0 : Int32).toInt = 0 := rfl
      refine (gg_X10_nextFit_L72 K hK T hT n0 n1 K x1 x2 ((0 : Int32)) s0 s1 s2 s3 a0 a1 a2 a3 a4 a5 (by omega) (by omega) (by exact zz_nf_0 (by omega)) (by omega)).mono (fun z hz => ?_)
      obtain ⟨y8_0, y8_1, y8_2, y8_3, y8_4⟩ := z
      have q9 : zz_q2 (s2) (s3) s0.toInt x1.toInt x2.toInt y8_0.toInt := hz.1
      have q10 : -1 ≤ y8_0.toInt := hz.2.1
      have q11 : y8_0.toInt ≤ 1024 := hz.2.2.1
      have q12 : y8_1 = s0 := hz.2.2.2.1
      have q13 : y8_3 = s2 := hz.2.2.2.2.1
      have q14 : y8_4 = s3 := hz.2.2.2.2.2
      clear hz
      have e15 : s0 = y8_1 := q12.symm
      subst e15
      have e16 : s2 = y8_3 := q13.symm
      subst e16
      have e17 : s3 = y8_4 := q14.symm
      subst e17
      have g18 := zz_rg y8_0
      have g19 := zz_rg y8_2
      show zz_q1 (s2) (s3) s0.toInt x1.toInt x2.toInt y8_0.toInt ∧ -1 ≤ y8_0.toInt ∧ y8_0.toInt ≤ 1024 ∧ s0 = s0 ∧ s2 = s2 ∧ s3 = s3
      exact ⟨(by first | exact zz_q1_no (by assumption) (by assumption) (by omega) (by omega) (by omega) | exact zz_q1_yes (k := x3.toNatClampNeg) (by assumption) (by omega) (by omega) (by omega) (by omega) (by omega) (by omega) (by omega) (by omega)), q10, q11, rfl, rfl, rfl⟩
    · have c6 := zz_nle c6
      refine zz_ok_chk (zz_ix (by omega) (by omega)) ?_
      have g20 := zz_tnI x3 (by omega)
      refine zz_ok_chk (zz_ix (by omega) (by omega)) ?_
      refine zz_ok_chk (zz_ix (by omega) (by omega)) ?_
      have g22 := zz_rg (s2 x3.toNatClampNeg)
      have g23 := zz_rg (s3 x3.toNatClampNeg)
      obtain ⟨k24, f25⟩ := zz_add (s2 x3.toNatClampNeg) (s3 x3.toNatClampNeg)
      have g26 := zz_rg ((s2 x3.toNatClampNeg) + (s3 x3.toNatClampNeg))
      have f27 := zz_maxF (s2 x3.toNatClampNeg) x2
      have g28 := zz_rg (zz_max (s2 x3.toNatClampNeg) x2)
      obtain ⟨k29, f30⟩ := zz_sub ((s2 x3.toNatClampNeg) + (s3 x3.toNatClampNeg)) (zz_max (s2 x3.toNatClampNeg) x2)
      have g31 := zz_rg (((s2 x3.toNatClampNeg) + (s3 x3.toNatClampNeg)) - (zz_max (s2 x3.toNatClampNeg) x2))
      have l32 : (0 : Int32).toInt = 0 := rfl
      refine zz_ok_ite (fun c21 => ?_) (fun c21 => ?_)
      · have c21 := Int32.le_iff_toInt_le.mp c21
        have l33 : (1 : Int32).toInt = 1 := rfl
        obtain ⟨k34, f35⟩ := zz_add x3 (1 : Int32)
        have g36 := zz_rg (x3 + 1)
        refine (ih x1 x2 (x3 + 1) s0 s1 s2 s3 a0 a1 a2 a3 a4 a5 a6 a7 a8 (by omega) (by omega) (by exact zz_nx_step (k := x3.toNatClampNeg) (by assumption) (by omega) (by omega) (by omega)) (by omega)).mono (fun z hz => ?_)
        obtain ⟨y37_0, y37_1, y37_2, y37_3, y37_4⟩ := z
        have q38 : zz_q1 (s2) (s3) s0.toInt x1.toInt x2.toInt y37_0.toInt := hz.1
        have q39 : -1 ≤ y37_0.toInt := hz.2.1
        have q40 : y37_0.toInt ≤ 1024 := hz.2.2.1
        have q41 : y37_1 = s0 := hz.2.2.2.1
        have q42 : y37_3 = s2 := hz.2.2.2.2.1
        have q43 : y37_4 = s3 := hz.2.2.2.2.2
        clear hz
        have e44 : s0 = y37_1 := q41.symm
        subst e44
        have e45 : s2 = y37_3 := q42.symm
        subst e45
        have e46 : s3 = y37_4 := q43.symm
        subst e46
        have g47 := zz_rg y37_0
        have g48 := zz_rg y37_2
        show zz_q1 (s2) (s3) s0.toInt x1.toInt x2.toInt y37_0.toInt ∧ -1 ≤ y37_0.toInt ∧ y37_0.toInt ≤ 1024 ∧ s0 = s0 ∧ s2 = s2 ∧ s3 = s3
        exact ⟨q38, q39, q40, rfl, rfl, rfl⟩
      · have c21 := zz_nle c21
        refine zz_ok_ite (fun c49 => ?_) (fun c49 => ?_)
        · have c49 := Int32.lt_iff_toInt_lt.mp c49
          have l50 : (1 : Int32).toInt = 1 := rfl
          obtain ⟨k51, f52⟩ := zz_add x3 (1 : Int32)
          have g53 := zz_rg (x3 + 1)
          obtain ⟨k54, f55⟩ := zz_add s1 (1 : Int32)
          have g56 := zz_rg (s1 + ((1 : Int32)))
          refine (ih x1 x2 (x3 + 1) s0 (s1 + ((1 : Int32))) s2 s3 a0 a1 a2 a3 a4 a5 a6 a7 a8 (by omega) (by omega) (by exact zz_nx_step (k := x3.toNatClampNeg) (by assumption) (by omega) (by omega) (by omega)) (by omega)).mono (fun z hz => ?_)
          obtain ⟨y57_0, y57_1, y57_2, y57_3, y57_4⟩ := z
          have q58 : zz_q1 (s2) (s3) s0.toInt x1.toInt x2.toInt y57_0.toInt := hz.1
          have q59 : -1 ≤ y57_0.toInt := hz.2.1
          have q60 : y57_0.toInt ≤ 1024 := hz.2.2.1
          have q61 : y57_1 = s0 := hz.2.2.2.1
          have q62 : y57_3 = s2 := hz.2.2.2.2.1
          have q63 : y57_4 = s3 := hz.2.2.2.2.2
          clear hz
          have e64 : s0 = y57_1 := q61.symm
          subst e64
          have e65 : s2 = y57_3 := q62.symm
          subst e65
          have e66 : s3 = y57_4 := q63.symm
          subst e66
          have g67 := zz_rg y57_0
          have g68 := zz_rg y57_2
          show zz_q1 (s2) (s3) s0.toInt x1.toInt x2.toInt y57_0.toInt ∧ -1 ≤ y57_0.toInt ∧ y57_0.toInt ≤ 1024 ∧ s0 = s0 ∧ s2 = s2 ∧ s3 = s3
          exact ⟨q58, q59, q60, rfl, rfl, rfl⟩
        · have c49 := zz_nlt c49
          refine zz_ok_some ?_
          show zz_q1 (s2) (s3) s0.toInt x1.toInt x2.toInt (zz_max (s2 x3.toNatClampNeg) x2).toInt ∧ -1 ≤ (zz_max (s2 x3.toNatClampNeg) x2).toInt ∧ (zz_max (s2 x3.toNatClampNeg) x2).toInt ≤ 1024 ∧ s0 = s0 ∧ s2 = s2 ∧ s3 = s3
          exact ⟨(by first | exact zz_q1_no (by assumption) (by assumption) (by omega) (by omega) (by omega) | exact zz_q1_yes (k := x3.toNatClampNeg) (by assumption) (by omega) (by omega) (by omega) (by omega) (by omega) (by omega) (by omega) (by omega)), (by omega), (by omega), rfl, rfl, rfl⟩
set_option maxHeartbeats 4000000 in
theorem gg_X10_nextFit (K : Nat) (hK : 1099511627776 ≤ K) (T : Nat) (hT : T ≤ 900) (n0 : Nat) (n1 : Nat) (p1 : Int32) (p2 : Int32) (s0 : Int32) (s1 : Int32) (s2 : Nat → Int32) (s3 : Nat → Int32) (a0 : (n0 : Int) = (n1 : Int)) (a1 : (n0 : Int) < 1000000) (a2 : 0 ≤ s0.toInt) (a3 : s0.toInt ≤ (n0 : Int)) (a4 : zz_vs 1024 (s2) (s3) s0.toInt) (a5 : 1 ≤ p1.toInt) (a6 : p1.toInt ≤ 1024) (a7 : 0 ≤ p2.toInt) (a8 : p2.toInt ≤ 1024) : zz_ok (m_X10_nextFit K n0 n1 p1 p2 s0 s1 s2 s3) (fun z => zz_q1 (s2) (s3) s0.toInt p1.toInt p2.toInt z.1.toInt ∧ -1 ≤ z.1.toInt ∧ z.1.toInt ≤ 1024 ∧ z.2.1 = s0 ∧ z.2.2.2.1 = s2 ∧ z.2.2.2.2 = s3) := by
  have g1 := zz_rg p1
  have g2 := zz_rg p2
  have g3 := zz_rg s0
  have g4 := zz_rg s1
  unfold m_X10_nextFit
  have l5 : (0 : Int32).toInt = 0 := rfl
  refine (gg_X10_nextFit_L2 K hK T hT n0 n1 K p1 p2 ((0 : Int32)) s0 s1 s2 s3 a0 a1 a2 a3 a4 a5 a6 a7 a8 (by omega) (by omega) (by exact zz_nx_0 (by omega)) (by omega)).mono (fun z hz => ?_)
  obtain ⟨y6_0, y6_1, y6_2, y6_3, y6_4⟩ := z
  have q7 : zz_q1 (s2) (s3) s0.toInt p1.toInt p2.toInt y6_0.toInt := hz.1
  have q8 : -1 ≤ y6_0.toInt := hz.2.1
  have q9 : y6_0.toInt ≤ 1024 := hz.2.2.1
  have q10 : y6_1 = s0 := hz.2.2.2.1
  have q11 : y6_3 = s2 := hz.2.2.2.2.1
  have q12 : y6_4 = s3 := hz.2.2.2.2.2
  clear hz
  have e13 : s0 = y6_1 := q10.symm
  subst e13
  have e14 : s2 = y6_3 := q11.symm
  subst e14
  have e15 : s3 = y6_4 := q12.symm
  subst e15
  have g16 := zz_rg y6_0
  have g17 := zz_rg y6_2
  show zz_q1 (s2) (s3) s0.toInt p1.toInt p2.toInt y6_0.toInt ∧ -1 ≤ y6_0.toInt ∧ y6_0.toInt ≤ 1024 ∧ s0 = s0 ∧ s2 = s2 ∧ s3 = s3
  exact ⟨q7, q8, q9, rfl, rfl, rfl⟩
set_option maxHeartbeats 4000000 in
theorem gg_X10_bestFit_L4 (K : Nat) (hK : 1099511627776 ≤ K) (T : Nat) (hT : T ≤ 900) (n0 : Nat) (n1 : Nat) : ∀ (k : Nat) (x1 : Int32) (x2 : Int32) (x3 : Int32) (s0 : Int32) (s1 : Int32) (s2 : Nat → Int32) (s3 : Nat → Int32), (n0 : Int) = (n1 : Int) → (n0 : Int) < 1000000 → 0 ≤ s0.toInt → s0.toInt ≤ (n0 : Int) → zz_vs 1024 (s2) (s3) s0.toInt → 1 ≤ x1.toInt → -1 ≤ x2.toInt → x2.toInt < x3.toInt → 0 ≤ x3.toInt → x3.toInt ≤ s0.toInt → zz_bk9 True x1.toInt (s3) x2.toInt x3.toInt → s0.toInt - x3.toInt < (k : Int) → zz_ok (m_X10_bestFit_L4 K n0 n1 k x1 x2 x3 s0 s1 s2 s3) (fun z => zz_q3 True (s2) (s3) s0.toInt x1.toInt z.1.toInt ∧ -1 ≤ z.1.toInt ∧ z.1.toInt ≤ 1024 ∧ z.2.1 = s0 ∧ z.2.2.2.1 = s2 ∧ z.2.2.2.2 = s3) := by
  intro k
  induction k with
  | zero =>
    intro x1 x2 x3 s0 s1 s2 s3 a0 a1 a2 a3 a4 a5 a6 a7 a8 a9 a10 hz9
    exfalso
    have g_x1 := zz_rg x1
    have g_x2 := zz_rg x2
    have g_x3 := zz_rg x3
    have g_s0 := zz_rg s0
    have g_s1 := zz_rg s1
    omega
  | succ k ih =>
    intro x1 x2 x3 s0 s1 s2 s3 a0 a1 a2 a3 a4 a5 a6 a7 a8 a9 a10 hz9
    rw [m_X10_bestFit_L4_s]
    have g1 := zz_rg x1
    have g2 := zz_rg x2
    have g3 := zz_rg x3
    have g4 := zz_rg s0
    have g5 := zz_rg s1
    have v9 := zz_vs_or (by assumption : zz_vs 1024 s2 s3 s0.toInt) x3
    have v8 := zz_vs_or (by assumption : zz_vs 1024 s2 s3 s0.toInt) x2
    have tn9 := zz_tnI x3 (by omega)
    refine zz_ok_ite (fun c6 => ?_) (fun c6 => ?_)
    · have c6 := Int32.le_iff_toInt_le.mp c6
      refine zz_ok_bind (gg_X10_placeOf K hK T hT n0 n1 x2 s0 s0 s2 s3 a0 a1 a2 a3 a4 a6 (by omega)) ?_
      intro z7 hz7
      obtain ⟨r_2, t_2_0, t_2_1, t_2_2, t_2_3⟩ := z7
      have q8 : zz_po (s2) x2.toInt r_2.toInt := hz7.1
      have q9 : -1 ≤ r_2.toInt := hz7.2.1
      have q10 : r_2.toInt ≤ 1024 := hz7.2.2.1
      have q11 : t_2_0 = s0 := hz7.2.2.2.1
      have q12 : t_2_1 = s0 := hz7.2.2.2.2.1
      have q13 : t_2_2 = s2 := hz7.2.2.2.2.2.1
      have q14 : t_2_3 = s3 := hz7.2.2.2.2.2.2
      clear hz7
      have e15 : s0 = t_2_0 := q11.symm
      subst e15
      have e16 : s0 = t_2_1 := q12.symm
      subst e16
      have e17 : s2 = t_2_2 := q13.symm
      subst e17
      have e18 : s3 = t_2_3 := q14.symm
      subst e18
      have g19 := zz_rg r_2
      show zz_ok (some (r_2, s0, s0, s2, s3)) _
      refine zz_ok_some ?_
      show zz_q3 True (s2) (s3) s0.toInt x1.toInt r_2.toInt ∧ -1 ≤ r_2.toInt ∧ r_2.toInt ≤ 1024 ∧ s0 = s0 ∧ s2 = s2 ∧ s3 = s3
      exact ⟨(by exact zz_q3_end (by assumption) (by assumption) (by omega) (by omega) (by omega)), q9, q10, rfl, rfl, rfl⟩
    · have c6 := zz_nle c6
      refine zz_ok_chk (zz_ix (by omega) (by omega)) ?_
      have g20 := zz_tnI x3 (by omega)
      have g22 := zz_rg (s3 x3.toNatClampNeg)
      refine zz_ok_ite (fun c21 => ?_) (fun c21 => ?_)
      · have c21 := Int32.lt_iff_toInt_lt.mp c21
        have l23 : (1 : Int32).toInt = 1 := rfl
        obtain ⟨k24, f25⟩ := zz_add x3 (1 : Int32)
        have g26 := zz_rg (x3 + 1)
        refine (ih x1 x2 (x3 + 1) s0 s1 s2 s3 a0 a1 a2 a3 a4 a5 a6 (by omega) (by omega) (by omega) (by first | exact zz_bk9_stay (k := x3.toNatClampNeg) (by assumption) (by omega) (by omega) (by first | exact Or.inl (by omega) | exact Or.inr ⟨by omega, Or.inl ⟨trivial, by omega⟩⟩) | exact zz_bk9_best (k := x3.toNatClampNeg) (by assumption) (by omega) (by omega) (by omega) (by first | exact Or.inl (by omega) | exact Or.inr (Or.inl ⟨trivial, by omega⟩)) rfl) (by omega)).mono (fun z hz => ?_)
        obtain ⟨y27_0, y27_1, y27_2, y27_3, y27_4⟩ := z
        have q28 : zz_q3 True (s2) (s3) s0.toInt x1.toInt y27_0.toInt := hz.1
        have q29 : -1 ≤ y27_0.toInt := hz.2.1
        have q30 : y27_0.toInt ≤ 1024 := hz.2.2.1
        have q31 : y27_1 = s0 := hz.2.2.2.1
        have q32 : y27_3 = s2 := hz.2.2.2.2.1
        have q33 : y27_4 = s3 := hz.2.2.2.2.2
        clear hz
        have e34 : s0 = y27_1 := q31.symm
        subst e34
        have e35 : s2 = y27_3 := q32.symm
        subst e35
        have e36 : s3 = y27_4 := q33.symm
        subst e36
        have g37 := zz_rg y27_0
        have g38 := zz_rg y27_2
        show zz_q3 True (s2) (s3) s0.toInt x1.toInt y27_0.toInt ∧ -1 ≤ y27_0.toInt ∧ y27_0.toInt ≤ 1024 ∧ s0 = s0 ∧ s2 = s2 ∧ s3 = s3
        exact ⟨q28, q29, q30, rfl, rfl, rfl⟩
      · have c21 := zz_nlt c21
        have l40 : (-1 : Int32).toInt = -1 := rfl
        refine zz_ok_ite (fun c39 => ?_) (fun c39 => ?_)
        · have c39 := congrArg Int32.toInt c39
          have l41 : (1 : Int32).toInt = 1 := rfl
          obtain ⟨k42, f43⟩ := zz_add x3 (1 : Int32)
          have g44 := zz_rg (x3 + 1)
          refine (ih x1 x3 (x3 + 1) s0 s1 s2 s3 a0 a1 a2 a3 a4 a5 (by omega) (by omega) (by omega) (by omega) (by first | exact zz_bk9_stay (k := x3.toNatClampNeg) (by assumption) (by omega) (by omega) (by first | exact Or.inl (by omega) | exact Or.inr ⟨by omega, Or.inl ⟨trivial, by omega⟩⟩) | exact zz_bk9_best (k := x3.toNatClampNeg) (by assumption) (by omega) (by omega) (by omega) (by first | exact Or.inl (by omega) | exact Or.inr (Or.inl ⟨trivial, by omega⟩)) rfl) (by omega)).mono (fun z hz => ?_)
          obtain ⟨y45_0, y45_1, y45_2, y45_3, y45_4⟩ := z
          have q46 : zz_q3 True (s2) (s3) s0.toInt x1.toInt y45_0.toInt := hz.1
          have q47 : -1 ≤ y45_0.toInt := hz.2.1
          have q48 : y45_0.toInt ≤ 1024 := hz.2.2.1
          have q49 : y45_1 = s0 := hz.2.2.2.1
          have q50 : y45_3 = s2 := hz.2.2.2.2.1
          have q51 : y45_4 = s3 := hz.2.2.2.2.2
          clear hz
          have e52 : s0 = y45_1 := q49.symm
          subst e52
          have e53 : s2 = y45_3 := q50.symm
          subst e53
          have e54 : s3 = y45_4 := q51.symm
          subst e54
          have g55 := zz_rg y45_0
          have g56 := zz_rg y45_2
          show zz_q3 True (s2) (s3) s0.toInt x1.toInt y45_0.toInt ∧ -1 ≤ y45_0.toInt ∧ y45_0.toInt ≤ 1024 ∧ s0 = s0 ∧ s2 = s2 ∧ s3 = s3
          exact ⟨q46, q47, q48, rfl, rfl, rfl⟩
        · have c39 := zz_neq c39
          refine zz_ok_chk (zz_ix (by omega) (by omega)) ?_
          refine zz_ok_chk (zz_ix (by omega) (by omega)) ?_
          have g57 := zz_tnI x2 (by omega)
          have g59 := zz_rg (s3 x2.toNatClampNeg)
          refine zz_ok_ite (fun c58 => ?_) (fun c58 => ?_)
          · have c58 := Int32.le_iff_toInt_le.mp c58
            have l60 : (1 : Int32).toInt = 1 := rfl
            obtain ⟨k61, f62⟩ := zz_add x3 (1 : Int32)
            have g63 := zz_rg (x3 + 1)
            refine (ih x1 x2 (x3 + 1) s0 s1 s2 s3 a0 a1 a2 a3 a4 a5 a6 (by omega) (by omega) (by omega) (by first | exact zz_bk9_stay (k := x3.toNatClampNeg) (by assumption) (by omega) (by omega) (by first | exact Or.inl (by omega) | exact Or.inr ⟨by omega, Or.inl ⟨trivial, by omega⟩⟩) | exact zz_bk9_best (k := x3.toNatClampNeg) (by assumption) (by omega) (by omega) (by omega) (by first | exact Or.inl (by omega) | exact Or.inr (Or.inl ⟨trivial, by omega⟩)) rfl) (by omega)).mono (fun z hz => ?_)
            obtain ⟨y64_0, y64_1, y64_2, y64_3, y64_4⟩ := z
            have q65 : zz_q3 True (s2) (s3) s0.toInt x1.toInt y64_0.toInt := hz.1
            have q66 : -1 ≤ y64_0.toInt := hz.2.1
            have q67 : y64_0.toInt ≤ 1024 := hz.2.2.1
            have q68 : y64_1 = s0 := hz.2.2.2.1
            have q69 : y64_3 = s2 := hz.2.2.2.2.1
            have q70 : y64_4 = s3 := hz.2.2.2.2.2
            clear hz
            have e71 : s0 = y64_1 := q68.symm
            subst e71
            have e72 : s2 = y64_3 := q69.symm
            subst e72
            have e73 : s3 = y64_4 := q70.symm
            subst e73
            have g74 := zz_rg y64_0
            have g75 := zz_rg y64_2
            show zz_q3 True (s2) (s3) s0.toInt x1.toInt y64_0.toInt ∧ -1 ≤ y64_0.toInt ∧ y64_0.toInt ≤ 1024 ∧ s0 = s0 ∧ s2 = s2 ∧ s3 = s3
            exact ⟨q65, q66, q67, rfl, rfl, rfl⟩
          · have c58 := zz_nle c58
            have l76 : (1 : Int32).toInt = 1 := rfl
            obtain ⟨k77, f78⟩ := zz_add x3 (1 : Int32)
            have g79 := zz_rg (x3 + 1)
            refine (ih x1 x3 (x3 + 1) s0 s1 s2 s3 a0 a1 a2 a3 a4 a5 (by omega) (by omega) (by omega) (by omega) (by first | exact zz_bk9_stay (k := x3.toNatClampNeg) (by assumption) (by omega) (by omega) (by first | exact Or.inl (by omega) | exact Or.inr ⟨by omega, Or.inl ⟨trivial, by omega⟩⟩) | exact zz_bk9_best (k := x3.toNatClampNeg) (by assumption) (by omega) (by omega) (by omega) (by first | exact Or.inl (by omega) | exact Or.inr (Or.inl ⟨trivial, by omega⟩)) rfl) (by omega)).mono (fun z hz => ?_)
            obtain ⟨y80_0, y80_1, y80_2, y80_3, y80_4⟩ := z
            have q81 : zz_q3 True (s2) (s3) s0.toInt x1.toInt y80_0.toInt := hz.1
            have q82 : -1 ≤ y80_0.toInt := hz.2.1
            have q83 : y80_0.toInt ≤ 1024 := hz.2.2.1
            have q84 : y80_1 = s0 := hz.2.2.2.1
            have q85 : y80_3 = s2 := hz.2.2.2.2.1
            have q86 : y80_4 = s3 := hz.2.2.2.2.2
            clear hz
            have e87 : s0 = y80_1 := q84.symm
            subst e87
            have e88 : s2 = y80_3 := q85.symm
            subst e88
            have e89 : s3 = y80_4 := q86.symm
            subst e89
            have g90 := zz_rg y80_0
            have g91 := zz_rg y80_2
            show zz_q3 True (s2) (s3) s0.toInt x1.toInt y80_0.toInt ∧ -1 ≤ y80_0.toInt ∧ y80_0.toInt ≤ 1024 ∧ s0 = s0 ∧ s2 = s2 ∧ s3 = s3
            exact ⟨q81, q82, q83, rfl, rfl, rfl⟩
set_option maxHeartbeats 4000000 in
theorem gg_X10_bestFit (K : Nat) (hK : 1099511627776 ≤ K) (T : Nat) (hT : T ≤ 900) (n0 : Nat) (n1 : Nat) (p1 : Int32) (s0 : Int32) (s1 : Int32) (s2 : Nat → Int32) (s3 : Nat → Int32) (a0 : (n0 : Int) = (n1 : Int)) (a1 : (n0 : Int) < 1000000) (a2 : 0 ≤ s0.toInt) (a3 : s0.toInt ≤ (n0 : Int)) (a4 : zz_vs 1024 (s2) (s3) s0.toInt) (a5 : 1 ≤ p1.toInt) : zz_ok (m_X10_bestFit K n0 n1 p1 s0 s1 s2 s3) (fun z => zz_q3 True (s2) (s3) s0.toInt p1.toInt z.1.toInt ∧ -1 ≤ z.1.toInt ∧ z.1.toInt ≤ 1024 ∧ z.2.1 = s0 ∧ z.2.2.2.1 = s2 ∧ z.2.2.2.2 = s3) := by
  have g1 := zz_rg p1
  have g2 := zz_rg s0
  have g3 := zz_rg s1
  unfold m_X10_bestFit
  have l4 : (-1 : Int32).toInt = -1 := rfl
  have l5 : (0 : Int32).toInt = 0 := rfl
  refine (gg_X10_bestFit_L4 K hK T hT n0 n1 K p1 ((-1 : Int32)) ((0 : Int32)) s0 s1 s2 s3 a0 a1 a2 a3 a4 a5 (by omega) (by omega) (by omega) (by omega) (by exact zz_bk9_0 (by decide) (by omega)) (by omega)).mono (fun z hz => ?_)
  obtain ⟨y6_0, y6_1, y6_2, y6_3, y6_4⟩ := z
  have q7 : zz_q3 True (s2) (s3) s0.toInt p1.toInt y6_0.toInt := hz.1
  have q8 : -1 ≤ y6_0.toInt := hz.2.1
  have q9 : y6_0.toInt ≤ 1024 := hz.2.2.1
  have q10 : y6_1 = s0 := hz.2.2.2.1
  have q11 : y6_3 = s2 := hz.2.2.2.2.1
  have q12 : y6_4 = s3 := hz.2.2.2.2.2
  clear hz
  have e13 : s0 = y6_1 := q10.symm
  subst e13
  have e14 : s2 = y6_3 := q11.symm
  subst e14
  have e15 : s3 = y6_4 := q12.symm
  subst e15
  have g16 := zz_rg y6_0
  have g17 := zz_rg y6_2
  show zz_q3 True (s2) (s3) s0.toInt p1.toInt y6_0.toInt ∧ -1 ≤ y6_0.toInt ∧ y6_0.toInt ≤ 1024 ∧ s0 = s0 ∧ s2 = s2 ∧ s3 = s3
  exact ⟨q7, q8, q9, rfl, rfl, rfl⟩
set_option maxHeartbeats 4000000 in
theorem gg_X10_greatestFit_L4 (K : Nat) (hK : 1099511627776 ≤ K) (T : Nat) (hT : T ≤ 900) (n0 : Nat) (n1 : Nat) : ∀ (k : Nat) (x1 : Int32) (x2 : Int32) (x3 : Int32) (s0 : Int32) (s1 : Int32) (s2 : Nat → Int32) (s3 : Nat → Int32), (n0 : Int) = (n1 : Int) → (n0 : Int) < 1000000 → 0 ≤ s0.toInt → s0.toInt ≤ (n0 : Int) → zz_vs 1024 (s2) (s3) s0.toInt → 1 ≤ x1.toInt → -1 ≤ x2.toInt → x2.toInt < x3.toInt → 0 ≤ x3.toInt → x3.toInt ≤ s0.toInt → zz_bk9 False x1.toInt (s3) x2.toInt x3.toInt → s0.toInt - x3.toInt < (k : Int) → zz_ok (m_X10_greatestFit_L4 K n0 n1 k x1 x2 x3 s0 s1 s2 s3) (fun z => zz_q3 False (s2) (s3) s0.toInt x1.toInt z.1.toInt ∧ -1 ≤ z.1.toInt ∧ z.1.toInt ≤ 1024 ∧ z.2.1 = s0 ∧ z.2.2.2.1 = s2 ∧ z.2.2.2.2 = s3) := by
  intro k
  induction k with
  | zero =>
    intro x1 x2 x3 s0 s1 s2 s3 a0 a1 a2 a3 a4 a5 a6 a7 a8 a9 a10 hz9
    exfalso
    have g_x1 := zz_rg x1
    have g_x2 := zz_rg x2
    have g_x3 := zz_rg x3
    have g_s0 := zz_rg s0
    have g_s1 := zz_rg s1
    omega
  | succ k ih =>
    intro x1 x2 x3 s0 s1 s2 s3 a0 a1 a2 a3 a4 a5 a6 a7 a8 a9 a10 hz9
    rw [m_X10_greatestFit_L4_s]
    have g1 := zz_rg x1
    have g2 := zz_rg x2
    have g3 := zz_rg x3
    have g4 := zz_rg s0
    have g5 := zz_rg s1
    have v9 := zz_vs_or (by assumption : zz_vs 1024 s2 s3 s0.toInt) x3
    have v8 := zz_vs_or (by assumption : zz_vs 1024 s2 s3 s0.toInt) x2
    have tn9 := zz_tnI x3 (by omega)
    refine zz_ok_ite (fun c6 => ?_) (fun c6 => ?_)
    · have c6 := Int32.le_iff_toInt_le.mp c6
      refine zz_ok_bind (gg_X10_placeOf K hK T hT n0 n1 x2 s0 s0 s2 s3 a0 a1 a2 a3 a4 a6 (by omega)) ?_
      intro z7 hz7
      obtain ⟨r_2, t_2_0, t_2_1, t_2_2, t_2_3⟩ := z7
      have q8 : zz_po (s2) x2.toInt r_2.toInt := hz7.1
      have q9 : -1 ≤ r_2.toInt := hz7.2.1
      have q10 : r_2.toInt ≤ 1024 := hz7.2.2.1
      have q11 : t_2_0 = s0 := hz7.2.2.2.1
      have q12 : t_2_1 = s0 := hz7.2.2.2.2.1
      have q13 : t_2_2 = s2 := hz7.2.2.2.2.2.1
      have q14 : t_2_3 = s3 := hz7.2.2.2.2.2.2
      clear hz7
      have e15 : s0 = t_2_0 := q11.symm
      subst e15
      have e16 : s0 = t_2_1 := q12.symm
      subst e16
      have e17 : s2 = t_2_2 := q13.symm
      subst e17
      have e18 : s3 = t_2_3 := q14.symm
      subst e18
      have g19 := zz_rg r_2
      show zz_ok (some (r_2, s0, s0, s2, s3)) _
      refine zz_ok_some ?_
      show zz_q3 False (s2) (s3) s0.toInt x1.toInt r_2.toInt ∧ -1 ≤ r_2.toInt ∧ r_2.toInt ≤ 1024 ∧ s0 = s0 ∧ s2 = s2 ∧ s3 = s3
      exact ⟨(by exact zz_q3_end (by assumption) (by assumption) (by omega) (by omega) (by omega)), q9, q10, rfl, rfl, rfl⟩
    · have c6 := zz_nle c6
      refine zz_ok_chk (zz_ix (by omega) (by omega)) ?_
      have g20 := zz_tnI x3 (by omega)
      have g22 := zz_rg (s3 x3.toNatClampNeg)
      refine zz_ok_ite (fun c21 => ?_) (fun c21 => ?_)
      · have c21 := Int32.lt_iff_toInt_lt.mp c21
        have l23 : (1 : Int32).toInt = 1 := rfl
        obtain ⟨k24, f25⟩ := zz_add x3 (1 : Int32)
        have g26 := zz_rg (x3 + 1)
        refine (ih x1 x2 (x3 + 1) s0 s1 s2 s3 a0 a1 a2 a3 a4 a5 a6 (by omega) (by omega) (by omega) (by first | exact zz_bk9_stay (k := x3.toNatClampNeg) (by assumption) (by omega) (by omega) (by first | exact Or.inl (by omega) | exact Or.inr ⟨by omega, Or.inr ⟨not_false, by omega⟩⟩) | exact zz_bk9_best (k := x3.toNatClampNeg) (by assumption) (by omega) (by omega) (by omega) (by first | exact Or.inl (by omega) | exact Or.inr (Or.inr ⟨not_false, by omega⟩)) rfl) (by omega)).mono (fun z hz => ?_)
        obtain ⟨y27_0, y27_1, y27_2, y27_3, y27_4⟩ := z
        have q28 : zz_q3 False (s2) (s3) s0.toInt x1.toInt y27_0.toInt := hz.1
        have q29 : -1 ≤ y27_0.toInt := hz.2.1
        have q30 : y27_0.toInt ≤ 1024 := hz.2.2.1
        have q31 : y27_1 = s0 := hz.2.2.2.1
        have q32 : y27_3 = s2 := hz.2.2.2.2.1
        have q33 : y27_4 = s3 := hz.2.2.2.2.2
        clear hz
        have e34 : s0 = y27_1 := q31.symm
        subst e34
        have e35 : s2 = y27_3 := q32.symm
        subst e35
        have e36 : s3 = y27_4 := q33.symm
        subst e36
        have g37 := zz_rg y27_0
        have g38 := zz_rg y27_2
        show zz_q3 False (s2) (s3) s0.toInt x1.toInt y27_0.toInt ∧ -1 ≤ y27_0.toInt ∧ y27_0.toInt ≤ 1024 ∧ s0 = s0 ∧ s2 = s2 ∧ s3 = s3
        exact ⟨q28, q29, q30, rfl, rfl, rfl⟩
      · have c21 := zz_nlt c21
        have l40 : (-1 : Int32).toInt = -1 := rfl
        refine zz_ok_ite (fun c39 => ?_) (fun c39 => ?_)
        · have c39 := congrArg Int32.toInt c39
          have l41 : (1 : Int32).toInt = 1 := rfl
          obtain ⟨k42, f43⟩ := zz_add x3 (1 : Int32)
          have g44 := zz_rg (x3 + 1)
          refine (ih x1 x3 (x3 + 1) s0 s1 s2 s3 a0 a1 a2 a3 a4 a5 (by omega) (by omega) (by omega) (by omega) (by first | exact zz_bk9_stay (k := x3.toNatClampNeg) (by assumption) (by omega) (by omega) (by first | exact Or.inl (by omega) | exact Or.inr ⟨by omega, Or.inr ⟨not_false, by omega⟩⟩) | exact zz_bk9_best (k := x3.toNatClampNeg) (by assumption) (by omega) (by omega) (by omega) (by first | exact Or.inl (by omega) | exact Or.inr (Or.inr ⟨not_false, by omega⟩)) rfl) (by omega)).mono (fun z hz => ?_)
          obtain ⟨y45_0, y45_1, y45_2, y45_3, y45_4⟩ := z
          have q46 : zz_q3 False (s2) (s3) s0.toInt x1.toInt y45_0.toInt := hz.1
          have q47 : -1 ≤ y45_0.toInt := hz.2.1
          have q48 : y45_0.toInt ≤ 1024 := hz.2.2.1
          have q49 : y45_1 = s0 := hz.2.2.2.1
          have q50 : y45_3 = s2 := hz.2.2.2.2.1
          have q51 : y45_4 = s3 := hz.2.2.2.2.2
          clear hz
          have e52 : s0 = y45_1 := q49.symm
          subst e52
          have e53 : s2 = y45_3 := q50.symm
          subst e53
          have e54 : s3 = y45_4 := q51.symm
          subst e54
          have g55 := zz_rg y45_0
          have g56 := zz_rg y45_2
          show zz_q3 False (s2) (s3) s0.toInt x1.toInt y45_0.toInt ∧ -1 ≤ y45_0.toInt ∧ y45_0.toInt ≤ 1024 ∧ s0 = s0 ∧ s2 = s2 ∧ s3 = s3
          exact ⟨q46, q47, q48, rfl, rfl, rfl⟩
        · have c39 := zz_neq c39
          refine zz_ok_chk (zz_ix (by omega) (by omega)) ?_
          refine zz_ok_chk (zz_ix (by omega) (by omega)) ?_
          have g57 := zz_tnI x2 (by omega)
          have g59 := zz_rg (s3 x2.toNatClampNeg)
          refine zz_ok_ite (fun c58 => ?_) (fun c58 => ?_)
          · have c58 := Int32.le_iff_toInt_le.mp c58
            have l60 : (1 : Int32).toInt = 1 := rfl
            obtain ⟨k61, f62⟩ := zz_add x3 (1 : Int32)
            have g63 := zz_rg (x3 + 1)
            refine (ih x1 x2 (x3 + 1) s0 s1 s2 s3 a0 a1 a2 a3 a4 a5 a6 (by omega) (by omega) (by omega) (by first | exact zz_bk9_stay (k := x3.toNatClampNeg) (by assumption) (by omega) (by omega) (by first | exact Or.inl (by omega) | exact Or.inr ⟨by omega, Or.inr ⟨not_false, by omega⟩⟩) | exact zz_bk9_best (k := x3.toNatClampNeg) (by assumption) (by omega) (by omega) (by omega) (by first | exact Or.inl (by omega) | exact Or.inr (Or.inr ⟨not_false, by omega⟩)) rfl) (by omega)).mono (fun z hz => ?_)
            obtain ⟨y64_0, y64_1, y64_2, y64_3, y64_4⟩ := z
            have q65 : zz_q3 False (s2) (s3) s0.toInt x1.toInt y64_0.toInt := hz.1
            have q66 : -1 ≤ y64_0.toInt := hz.2.1
            have q67 : y64_0.toInt ≤ 1024 := hz.2.2.1
            have q68 : y64_1 = s0 := hz.2.2.2.1
            have q69 : y64_3 = s2 := hz.2.2.2.2.1
            have q70 : y64_4 = s3 := hz.2.2.2.2.2
            clear hz
            have e71 : s0 = y64_1 := q68.symm
            subst e71
            have e72 : s2 = y64_3 := q69.symm
            subst e72
            have e73 : s3 = y64_4 := q70.symm
            subst e73
            have g74 := zz_rg y64_0
            have g75 := zz_rg y64_2
            show zz_q3 False (s2) (s3) s0.toInt x1.toInt y64_0.toInt ∧ -1 ≤ y64_0.toInt ∧ y64_0.toInt ≤ 1024 ∧ s0 = s0 ∧ s2 = s2 ∧ s3 = s3
            exact ⟨q65, q66, q67, rfl, rfl, rfl⟩
          · have c58 := zz_nle c58
            have l76 : (1 : Int32).toInt = 1 := rfl
            obtain ⟨k77, f78⟩ := zz_add x3 (1 : Int32)
            have g79 := zz_rg (x3 + 1)
            refine (ih x1 x3 (x3 + 1) s0 s1 s2 s3 a0 a1 a2 a3 a4 a5 (by omega) (by omega) (by omega) (by omega) (by first | exact zz_bk9_stay (k := x3.toNatClampNeg) (by assumption) (by omega) (by omega) (by first | exact Or.inl (by omega) | exact Or.inr ⟨by omega, Or.inr ⟨not_false, by omega⟩⟩) | exact zz_bk9_best (k := x3.toNatClampNeg) (by assumption) (by omega) (by omega) (by omega) (by first | exact Or.inl (by omega) | exact Or.inr (Or.inr ⟨not_false, by omega⟩)) rfl) (by omega)).mono (fun z hz => ?_)
            obtain ⟨y80_0, y80_1, y80_2, y80_3, y80_4⟩ := z
            have q81 : zz_q3 False (s2) (s3) s0.toInt x1.toInt y80_0.toInt := hz.1
            have q82 : -1 ≤ y80_0.toInt := hz.2.1
            have q83 : y80_0.toInt ≤ 1024 := hz.2.2.1
            have q84 : y80_1 = s0 := hz.2.2.2.1
            have q85 : y80_3 = s2 := hz.2.2.2.2.1
            have q86 : y80_4 = s3 := hz.2.2.2.2.2
            clear hz
            have e87 : s0 = y80_1 := q84.symm
            subst e87
            have e88 : s2 = y80_3 := q85.symm
            subst e88
            have e89 : s3 = y80_4 := q86.symm
            subst e89
            have g90 := zz_rg y80_0
            have g91 := zz_rg y80_2
            show zz_q3 False (s2) (s3) s0.toInt x1.toInt y80_0.toInt ∧ -1 ≤ y80_0.toInt ∧ y80_0.toInt ≤ 1024 ∧ s0 = s0 ∧ s2 = s2 ∧ s3 = s3
            exact ⟨q81, q82, q83, rfl, rfl, rfl⟩
set_option maxHeartbeats 4000000 in
theorem gg_X10_greatestFit (K : Nat) (hK : 1099511627776 ≤ K) (T : Nat) (hT : T ≤ 900) (n0 : Nat) (n1 : Nat) (p1 : Int32) (s0 : Int32) (s1 : Int32) (s2 : Nat → Int32) (s3 : Nat → Int32) (a0 : (n0 : Int) = (n1 : Int)) (a1 : (n0 : Int) < 1000000) (a2 : 0 ≤ s0.toInt) (a3 : s0.toInt ≤ (n0 : Int)) (a4 : zz_vs 1024 (s2) (s3) s0.toInt) (a5 : 1 ≤ p1.toInt) : zz_ok (m_X10_greatestFit K n0 n1 p1 s0 s1 s2 s3) (fun z => zz_q3 False (s2) (s3) s0.toInt p1.toInt z.1.toInt ∧ -1 ≤ z.1.toInt ∧ z.1.toInt ≤ 1024 ∧ z.2.1 = s0 ∧ z.2.2.2.1 = s2 ∧ z.2.2.2.2 = s3) := by
  have g1 := zz_rg p1
  have g2 := zz_rg s0
  have g3 := zz_rg s1
  unfold m_X10_greatestFit
  have l4 : (-1 : Int32).toInt = -1 := rfl
  have l5 : (0 : Int32).toInt = 0 := rfl
  refine (gg_X10_greatestFit_L4 K hK T hT n0 n1 K p1 ((-1 : Int32)) ((0 : Int32)) s0 s1 s2 s3 a0 a1 a2 a3 a4 a5 (by omega) (by omega) (by omega) (by omega) (by exact zz_bk9_0 (by decide) (by omega)) (by omega)).mono (fun z hz => ?_)
  obtain ⟨y6_0, y6_1, y6_2, y6_3, y6_4⟩ := z
  have q7 : zz_q3 False (s2) (s3) s0.toInt p1.toInt y6_0.toInt := hz.1
  have q8 : -1 ≤ y6_0.toInt := hz.2.1
  have q9 : y6_0.toInt ≤ 1024 := hz.2.2.1
  have q10 : y6_1 = s0 := hz.2.2.2.1
  have q11 : y6_3 = s2 := hz.2.2.2.2.1
  have q12 : y6_4 = s3 := hz.2.2.2.2.2
  clear hz
  have e13 : s0 = y6_1 := q10.symm
  subst e13
  have e14 : s2 = y6_3 := q11.symm
  subst e14
  have e15 : s3 = y6_4 := q12.symm
  subst e15
  have g16 := zz_rg y6_0
  have g17 := zz_rg y6_2
  show zz_q3 False (s2) (s3) s0.toInt p1.toInt y6_0.toInt ∧ -1 ≤ y6_0.toInt ∧ y6_0.toInt ≤ 1024 ∧ s0 = s0 ∧ s2 = s2 ∧ s3 = s3
  exact ⟨q7, q8, q9, rfl, rfl, rfl⟩
set_option maxHeartbeats 4000000 in
theorem gg_X10_find (K : Nat) (hK : 1099511627776 ≤ K) (T : Nat) (hT : T ≤ 900) (n0 : Nat) (n1 : Nat) (p1 : Int32) (p2 : Int32) (p3 : Int32) (s0 : Int32) (s1 : Int32) (s2 : Nat → Int32) (s3 : Nat → Int32) (a0 : (n0 : Int) = (n1 : Int)) (a1 : (n0 : Int) < 1000000) (a2 : 0 ≤ s0.toInt) (a3 : s0.toInt ≤ (n0 : Int)) (a4 : zz_vs 1024 (s2) (s3) s0.toInt) (a5 : 0 ≤ p1.toInt) (a6 : p1.toInt ≤ 3) (a7 : 1 ≤ p2.toInt) (a8 : p2.toInt ≤ 1024) (a9 : 0 ≤ p3.toInt) (a10 : p3.toInt ≤ 1024) : zz_ok (m_X10_find K n0 n1 p1 p2 p3 s0 s1 s2 s3) (fun z => zz_q p1.toInt (s2) (s3) s0.toInt p3.toInt p2.toInt z.1.toInt ∧ -1 ≤ z.1.toInt ∧ z.1.toInt ≤ 1024 ∧ z.2.1 = s0 ∧ z.2.2.2.1 = s2 ∧ z.2.2.2.2 = s3) := by
  have g1 := zz_rg p1
  have g2 := zz_rg p2
  have g3 := zz_rg p3
  have g4 := zz_rg s0
  have g5 := zz_rg s1
  unfold m_X10_find
  have l7 : (1 : Int32).toInt = 1 := rfl
  refine zz_ok_ite (fun c6 => ?_) (fun c6 => ?_)
  · have c6 := congrArg Int32.toInt c6
    have l8 : (0 : Int32).toInt = 0 := rfl
    refine zz_ok_bind (gg_X10_nextFit K hK T hT n0 n1 p2 p3 s0 ((0 : Int32)) s2 s3 a0 a1 a2 a3 a4 a7 a8 a9 a10) ?_
    intro z9 hz9
    obtain ⟨r_2, t_2_0, t_2_1, t_2_2, t_2_3⟩ := z9
    have q10 : zz_q1 (s2) (s3) s0.toInt p2.toInt p3.toInt r_2.toInt := hz9.1
    have q11 : -1 ≤ r_2.toInt := hz9.2.1
    have q12 : r_2.toInt ≤ 1024 := hz9.2.2.1
    have q13 : t_2_0 = s0 := hz9.2.2.2.1
    have q14 : t_2_2 = s2 := hz9.2.2.2.2.1
    have q15 : t_2_3 = s3 := hz9.2.2.2.2.2
    clear hz9
    have e16 : s0 = t_2_0 := q13.symm
    subst e16
    have e17 : s2 = t_2_2 := q14.symm
    subst e17
    have e18 : s3 = t_2_3 := q15.symm
    subst e18
    have g19 := zz_rg r_2
    have g20 := zz_rg t_2_1
    show zz_ok (some (r_2, s0, t_2_1, s2, s3)) _
    refine zz_ok_some ?_
    show zz_q p1.toInt (s2) (s3) s0.toInt p3.toInt p2.toInt r_2.toInt ∧ -1 ≤ r_2.toInt ∧ r_2.toInt ≤ 1024 ∧ s0 = s0 ∧ s2 = s2 ∧ s3 = s3
    exact ⟨(by first | exact zz_q_1 (by assumption) (by omega) | exact zz_q_2 (by assumption) (by omega) | exact zz_q_3 (by assumption) (by omega) | exact zz_q_0 (by assumption) (by omega)), q11, q12, rfl, rfl, rfl⟩
  · have c6 := zz_neq c6
    have l22 : (2 : Int32).toInt = 2 := rfl
    refine zz_ok_ite (fun c21 => ?_) (fun c21 => ?_)
    · have c21 := congrArg Int32.toInt c21
      have l23 : (0 : Int32).toInt = 0 := rfl
      refine zz_ok_bind (gg_X10_bestFit K hK T hT n0 n1 p2 s0 ((0 : Int32)) s2 s3 a0 a1 a2 a3 a4 a7) ?_
      intro z24 hz24
      obtain ⟨r_4, t_4_0, t_4_1, t_4_2, t_4_3⟩ := z24
      have q25 : zz_q3 True (s2) (s3) s0.toInt p2.toInt r_4.toInt := hz24.1
      have q26 : -1 ≤ r_4.toInt := hz24.2.1
      have q27 : r_4.toInt ≤ 1024 := hz24.2.2.1
      have q28 : t_4_0 = s0 := hz24.2.2.2.1
      have q29 : t_4_2 = s2 := hz24.2.2.2.2.1
      have q30 : t_4_3 = s3 := hz24.2.2.2.2.2
      clear hz24
      have e31 : s0 = t_4_0 := q28.symm
      subst e31
      have e32 : s2 = t_4_2 := q29.symm
      subst e32
      have e33 : s3 = t_4_3 := q30.symm
      subst e33
      have g34 := zz_rg r_4
      have g35 := zz_rg t_4_1
      show zz_ok (some (r_4, s0, t_4_1, s2, s3)) _
      refine zz_ok_some ?_
      show zz_q p1.toInt (s2) (s3) s0.toInt p3.toInt p2.toInt r_4.toInt ∧ -1 ≤ r_4.toInt ∧ r_4.toInt ≤ 1024 ∧ s0 = s0 ∧ s2 = s2 ∧ s3 = s3
      exact ⟨(by first | exact zz_q_1 (by assumption) (by omega) | exact zz_q_2 (by assumption) (by omega) | exact zz_q_3 (by assumption) (by omega) | exact zz_q_0 (by assumption) (by omega)), q26, q27, rfl, rfl, rfl⟩
    · have c21 := zz_neq c21
      have l37 : (3 : Int32).toInt = 3 := rfl
      refine zz_ok_ite (fun c36 => ?_) (fun c36 => ?_)
      · have c36 := congrArg Int32.toInt c36
        have l38 : (0 : Int32).toInt = 0 := rfl
        refine zz_ok_bind (gg_X10_greatestFit K hK T hT n0 n1 p2 s0 ((0 : Int32)) s2 s3 a0 a1 a2 a3 a4 a7) ?_
        intro z39 hz39
        obtain ⟨r_6, t_6_0, t_6_1, t_6_2, t_6_3⟩ := z39
        have q40 : zz_q3 False (s2) (s3) s0.toInt p2.toInt r_6.toInt := hz39.1
        have q41 : -1 ≤ r_6.toInt := hz39.2.1
        have q42 : r_6.toInt ≤ 1024 := hz39.2.2.1
        have q43 : t_6_0 = s0 := hz39.2.2.2.1
        have q44 : t_6_2 = s2 := hz39.2.2.2.2.1
        have q45 : t_6_3 = s3 := hz39.2.2.2.2.2
        clear hz39
        have e46 : s0 = t_6_0 := q43.symm
        subst e46
        have e47 : s2 = t_6_2 := q44.symm
        subst e47
        have e48 : s3 = t_6_3 := q45.symm
        subst e48
        have g49 := zz_rg r_6
        have g50 := zz_rg t_6_1
        show zz_ok (some (r_6, s0, t_6_1, s2, s3)) _
        refine zz_ok_some ?_
        show zz_q p1.toInt (s2) (s3) s0.toInt p3.toInt p2.toInt r_6.toInt ∧ -1 ≤ r_6.toInt ∧ r_6.toInt ≤ 1024 ∧ s0 = s0 ∧ s2 = s2 ∧ s3 = s3
        exact ⟨(by first | exact zz_q_1 (by assumption) (by omega) | exact zz_q_2 (by assumption) (by omega) | exact zz_q_3 (by assumption) (by omega) | exact zz_q_0 (by assumption) (by omega)), q41, q42, rfl, rfl, rfl⟩
      · have c36 := zz_neq c36
        have l51 : (0 : Int32).toInt = 0 := rfl
        refine zz_ok_bind (gg_X10_firstFit K hK T hT n0 n1 p2 s0 ((0 : Int32)) s2 s3 a0 a1 a2 a3 a4 a7) ?_
        intro z52 hz52
        obtain ⟨r_7, t_7_0, t_7_1, t_7_2, t_7_3⟩ := z52
        have q53 : zz_q0 (s2) (s3) s0.toInt p2.toInt r_7.toInt := hz52.1
        have q54 : -1 ≤ r_7.toInt := hz52.2.1
        have q55 : r_7.toInt ≤ 1024 := hz52.2.2.1
        have q56 : t_7_0 = s0 := hz52.2.2.2.1
        have q57 : t_7_2 = s2 := hz52.2.2.2.2.1
        have q58 : t_7_3 = s3 := hz52.2.2.2.2.2
        clear hz52
        have e59 : s0 = t_7_0 := q56.symm
        subst e59
        have e60 : s2 = t_7_2 := q57.symm
        subst e60
        have e61 : s3 = t_7_3 := q58.symm
        subst e61
        have g62 := zz_rg r_7
        have g63 := zz_rg t_7_1
        show zz_ok (some (r_7, s0, t_7_1, s2, s3)) _
        refine zz_ok_some ?_
        show zz_q p1.toInt (s2) (s3) s0.toInt p3.toInt p2.toInt r_7.toInt ∧ -1 ≤ r_7.toInt ∧ r_7.toInt ≤ 1024 ∧ s0 = s0 ∧ s2 = s2 ∧ s3 = s3
        exact ⟨(by first | exact zz_q_1 (by assumption) (by omega) | exact zz_q_2 (by assumption) (by omega) | exact zz_q_3 (by assumption) (by omega) | exact zz_q_0 (by assumption) (by omega)), q54, q55, rfl, rfl, rfl⟩
set_option maxHeartbeats 4000000 in
theorem gg_X11_powerFrom_L2 (K : Nat) (hK : 1099511627776 ≤ K) (T : Nat) (hT : T ≤ 900) : ∀ (k : Nat) (x0 : Int32) (x1 : Int32), (x1.toInt = 1 ∨ x1.toInt = 2 ∨ x1.toInt = 4 ∨ x1.toInt = 8 ∨ x1.toInt = 16 ∨ x1.toInt = 32 ∨ x1.toInt = 64 ∨ x1.toInt = 128 ∨ x1.toInt = 256 ∨ x1.toInt = 512 ∨ x1.toInt = 1024) → 1 ≤ x0.toInt → x0.toInt ≤ 1024 → (x1.toInt = 1 ∨ x1.toInt < 2 * x0.toInt) → 2048 - x1.toInt < (k : Int) → zz_ok (m_X11_powerFrom_L2 K k x0 x1) (fun z => zz_lpw x0.toInt z.1.toInt) := by
  intro k
  induction k with
  | zero =>
    intro x0 x1 a0 a1 a2 a3 hz9
    exfalso
    have g_x0 := zz_rg x0
    have g_x1 := zz_rg x1
    omega
  | succ k ih =>
    intro x0 x1 a0 a1 a2 a3 hz9
    rw [m_X11_powerFrom_L2_s]
    have g1 := zz_rg x0
    have g2 := zz_rg x1
    have l4 : (1024 : Int32).toInt = 1024 := rfl
    refine zz_ok_ite (fun c3 => ?_) (fun c3 => ?_)
    · have c3 := Int32.le_iff_toInt_le.mp c3
      refine zz_ok_some ?_
      show zz_lpw x0.toInt (1024 : Int32).toInt
      exact (by first | assumption | exact ⟨by unfold zz_p2; omega, by omega, by omega⟩)
    · have c3 := zz_nle c3
      refine zz_ok_ite (fun c5 => ?_) (fun c5 => ?_)
      · have c5 := Int32.lt_iff_toInt_lt.mp c5
        obtain ⟨k6, f7⟩ := zz_add x1 x1
        have g8 := zz_rg (x1 + x1)
        refine (ih x0 (x1 + x1) (by omega) a1 a2 (by omega) (by omega)).mono (fun z hz => ?_)
        obtain ⟨y9_0, y9_1⟩ := z
        have q10 : zz_lpw x0.toInt y9_0.toInt := hz
        clear hz
        have g11 := zz_rg y9_0
        show zz_lpw x0.toInt y9_0.toInt
        exact q10
      · have c5 := zz_nlt c5
        refine zz_ok_some ?_
        show zz_lpw x0.toInt x1.toInt
        exact (by first | assumption | exact ⟨by unfold zz_p2; omega, by omega, by omega⟩)
set_option maxHeartbeats 4000000 in
theorem gg_X11_powerFrom (K : Nat) (hK : 1099511627776 ≤ K) (T : Nat) (hT : T ≤ 900) (p0 : Int32) (a0 : 1 ≤ p0.toInt) (a1 : p0.toInt ≤ 1024) : zz_ok (m_X11_powerFrom K p0) (fun z => zz_lpw p0.toInt z.1.toInt) := by
  have g1 := zz_rg p0
  unfold m_X11_powerFrom
  have l2 : (1 : Int32).toInt = 1 := rfl
  refine (gg_X11_powerFrom_L2 K hK T hT K p0 ((1 : Int32)) (by omega) a0 a1 (by omega) (by omega)).mono (fun z hz => ?_)
  obtain ⟨y3_0, y3_1⟩ := z
  have q4 : zz_lpw p0.toInt y3_0.toInt := hz
  clear hz
  have g5 := zz_rg y3_0
  show zz_lpw p0.toInt y3_0.toInt
  exact q4
set_option maxHeartbeats 4000000 in
theorem gg_X7_markQuick (K : Nat) (hK : 1099511627776 ≤ K) (T : Nat) (hT : T ≤ 900) (n0 : Nat) (n1 : Nat) (n2 : Nat) (n3 : Nat) (n4 : Nat) (n5 : Nat) (n6 : Nat) (p1 : Int32) (p2 : Int32) (s0 : Int32) (s1 : Int32) (s2 : Int32) (s3 : Int32) (s4 : Nat → Int32) (s5 : Nat → Int32) (s6 : Nat → Int32) (s7 : Nat → Int32) (s8 : Nat → Int32) (s9 : Int32) (s10 : Int32) (s11 : Nat → Int32) (s12 : Nat → Int32) (a0 : n0 = 1024) (a1 : 0 ≤ p1.toInt) (a2 : 0 ≤ p2.toInt) (a3 : p1.toInt + p2.toInt ≤ s0.toInt) (a4 : s0.toInt ≤ 1024) : zz_ok (m_X7_markQuick K n0 n1 n2 n3 n4 n5 n6 p1 p2 s0 s1 s2 s3 s4 s5 s6 s7 s8 s9 s10 s11 s12) (fun z => zz_wr (s4) (z.2.2.2.2.1) p1.toInt (p1.toInt + p2.toInt) (-2) ∧ z.1 = s0 ∧ z.2.1 = s1 ∧ z.2.2.1 = s2 ∧ z.2.2.2.1 = s3 ∧ z.2.2.2.2.2.1 = s5 ∧ z.2.2.2.2.2.2.1 = s6 ∧ z.2.2.2.2.2.2.2.1 = s7 ∧ z.2.2.2.2.2.2.2.2.1 = s8 ∧ z.2.2.2.2.2.2.2.2.2.1 = s9 ∧ z.2.2.2.2.2.2.2.2.2.2.1 = s10 ∧ z.2.2.2.2.2.2.2.2.2.2.2.1 = s11 ∧ z.2.2.2.2.2.2.2.2.2.2.2.2 = s12) := by
  have g1 := zz_rg p1
  have g2 := zz_rg p2
  have g3 := zz_rg s0
  have g4 := zz_rg s1
  have g5 := zz_rg s2
  have g6 := zz_rg s3
  have g7 := zz_rg s9
  have g8 := zz_rg s10
  unfold m_X7_markQuick
  have l9 : (-2 : Int32).toInt = -2 := rfl
  refine zz_ok_bind (ff_X7_mark K hK T hT n0 n1 n2 n3 n4 n5 n6 p1 p2 ((-2 : Int32)) s0 s1 s2 s3 s4 s5 s6 s7 s8 s9 s10 s11 s12 a0 a1 a2 a3 a4) ?_
  intro z10 hz10
  obtain ⟨t_1_0, t_1_1, t_1_2, t_1_3, t_1_4, t_1_5, t_1_6, t_1_7, t_1_8, t_1_9, t_1_10, t_1_11, t_1_12⟩ := z10
  have q11 : zz_wr (s4) (t_1_4) p1.toInt (p1.toInt + p2.toInt) (((-2 : Int32))) := hz10.1
  have q12 : t_1_0 = s0 := hz10.2.1
  have q13 : t_1_1 = s1 := hz10.2.2.1
  have q14 : t_1_2 = s2 := hz10.2.2.2.1
  have q15 : t_1_3 = s3 := hz10.2.2.2.2.1
  have q16 : t_1_5 = s5 := hz10.2.2.2.2.2.1
  have q17 : t_1_6 = s6 := hz10.2.2.2.2.2.2.1
  have q18 : t_1_7 = s7 := hz10.2.2.2.2.2.2.2.1
  have q19 : t_1_8 = s8 := hz10.2.2.2.2.2.2.2.2.1
  have q20 : t_1_9 = s9 := hz10.2.2.2.2.2.2.2.2.2.1
  have q21 : t_1_10 = s10 := hz10.2.2.2.2.2.2.2.2.2.2.1
  have q22 : t_1_11 = s11 := hz10.2.2.2.2.2.2.2.2.2.2.2.1
  have q23 : t_1_12 = s12 := hz10.2.2.2.2.2.2.2.2.2.2.2.2
  clear hz10
  have e24 : s0 = t_1_0 := q12.symm
  subst e24
  have e25 : s1 = t_1_1 := q13.symm
  subst e25
  have e26 : s2 = t_1_2 := q14.symm
  subst e26
  have e27 : s3 = t_1_3 := q15.symm
  subst e27
  have e28 : s5 = t_1_5 := q16.symm
  subst e28
  have e29 : s6 = t_1_6 := q17.symm
  subst e29
  have e30 : s7 = t_1_7 := q18.symm
  subst e30
  have e31 : s8 = t_1_8 := q19.symm
  subst e31
  have e32 : s9 = t_1_9 := q20.symm
  subst e32
  have e33 : s10 = t_1_10 := q21.symm
  subst e33
  have e34 : s11 = t_1_11 := q22.symm
  subst e34
  have e35 : s12 = t_1_12 := q23.symm
  subst e35
  show zz_ok (some (s0, s1, s2, s3, t_1_4, s5, s6, s7, s8, s9, s10, s11, s12)) _
  refine zz_ok_some ?_
  show zz_wr (s4) (t_1_4) p1.toInt (p1.toInt + p2.toInt) (-2) ∧ s0 = s0 ∧ s1 = s1 ∧ s2 = s2 ∧ s3 = s3 ∧ s5 = s5 ∧ s6 = s6 ∧ s7 = s7 ∧ s8 = s8 ∧ s9 = s9 ∧ s10 = s10 ∧ s11 = s11 ∧ s12 = s12
  exact ⟨(by assumption), rfl, rfl, rfl, rfl, rfl, rfl, rfl, rfl, rfl, rfl, rfl, rfl⟩
set_option maxHeartbeats 4000000 in
theorem gg_X7_markFree (K : Nat) (hK : 1099511627776 ≤ K) (T : Nat) (hT : T ≤ 900) (n0 : Nat) (n1 : Nat) (n2 : Nat) (n3 : Nat) (n4 : Nat) (n5 : Nat) (n6 : Nat) (p1 : Int32) (p2 : Int32) (s0 : Int32) (s1 : Int32) (s2 : Int32) (s3 : Int32) (s4 : Nat → Int32) (s5 : Nat → Int32) (s6 : Nat → Int32) (s7 : Nat → Int32) (s8 : Nat → Int32) (s9 : Int32) (s10 : Int32) (s11 : Nat → Int32) (s12 : Nat → Int32) (a0 : n0 = 1024) (a1 : 0 ≤ p1.toInt) (a2 : 0 ≤ p2.toInt) (a3 : p1.toInt + p2.toInt ≤ s0.toInt) (a4 : s0.toInt ≤ 1024) : zz_ok (m_X7_markFree K n0 n1 n2 n3 n4 n5 n6 p1 p2 s0 s1 s2 s3 s4 s5 s6 s7 s8 s9 s10 s11 s12) (fun z => zz_wr (s4) (z.2.2.2.2.1) p1.toInt (p1.toInt + p2.toInt) (-1) ∧ z.1 = s0 ∧ z.2.1 = s1 ∧ z.2.2.1 = s2 ∧ z.2.2.2.1 = s3 ∧ z.2.2.2.2.2.1 = s5 ∧ z.2.2.2.2.2.2.1 = s6 ∧ z.2.2.2.2.2.2.2.1 = s7 ∧ z.2.2.2.2.2.2.2.2.1 = s8 ∧ z.2.2.2.2.2.2.2.2.2.1 = s9 ∧ z.2.2.2.2.2.2.2.2.2.2.1 = s10 ∧ z.2.2.2.2.2.2.2.2.2.2.2.1 = s11 ∧ z.2.2.2.2.2.2.2.2.2.2.2.2 = s12) := by
  have g1 := zz_rg p1
  have g2 := zz_rg p2
  have g3 := zz_rg s0
  have g4 := zz_rg s1
  have g5 := zz_rg s2
  have g6 := zz_rg s3
  have g7 := zz_rg s9
  have g8 := zz_rg s10
  unfold m_X7_markFree
  have l9 : (-1 : Int32).toInt = -1 := rfl
  refine zz_ok_bind (ff_X7_mark K hK T hT n0 n1 n2 n3 n4 n5 n6 p1 p2 ((-1 : Int32)) s0 s1 s2 s3 s4 s5 s6 s7 s8 s9 s10 s11 s12 a0 a1 a2 a3 a4) ?_
  intro z10 hz10
  obtain ⟨t_1_0, t_1_1, t_1_2, t_1_3, t_1_4, t_1_5, t_1_6, t_1_7, t_1_8, t_1_9, t_1_10, t_1_11, t_1_12⟩ := z10
  have q11 : zz_wr (s4) (t_1_4) p1.toInt (p1.toInt + p2.toInt) (((-1 : Int32))) := hz10.1
  have q12 : t_1_0 = s0 := hz10.2.1
  have q13 : t_1_1 = s1 := hz10.2.2.1
  have q14 : t_1_2 = s2 := hz10.2.2.2.1
  have q15 : t_1_3 = s3 := hz10.2.2.2.2.1
  have q16 : t_1_5 = s5 := hz10.2.2.2.2.2.1
  have q17 : t_1_6 = s6 := hz10.2.2.2.2.2.2.1
  have q18 : t_1_7 = s7 := hz10.2.2.2.2.2.2.2.1
  have q19 : t_1_8 = s8 := hz10.2.2.2.2.2.2.2.2.1
  have q20 : t_1_9 = s9 := hz10.2.2.2.2.2.2.2.2.2.1
  have q21 : t_1_10 = s10 := hz10.2.2.2.2.2.2.2.2.2.2.1
  have q22 : t_1_11 = s11 := hz10.2.2.2.2.2.2.2.2.2.2.2.1
  have q23 : t_1_12 = s12 := hz10.2.2.2.2.2.2.2.2.2.2.2.2
  clear hz10
  have e24 : s0 = t_1_0 := q12.symm
  subst e24
  have e25 : s1 = t_1_1 := q13.symm
  subst e25
  have e26 : s2 = t_1_2 := q14.symm
  subst e26
  have e27 : s3 = t_1_3 := q15.symm
  subst e27
  have e28 : s5 = t_1_5 := q16.symm
  subst e28
  have e29 : s6 = t_1_6 := q17.symm
  subst e29
  have e30 : s7 = t_1_7 := q18.symm
  subst e30
  have e31 : s8 = t_1_8 := q19.symm
  subst e31
  have e32 : s9 = t_1_9 := q20.symm
  subst e32
  have e33 : s10 = t_1_10 := q21.symm
  subst e33
  have e34 : s11 = t_1_11 := q22.symm
  subst e34
  have e35 : s12 = t_1_12 := q23.symm
  subst e35
  show zz_ok (some (s0, s1, s2, s3, t_1_4, s5, s6, s7, s8, s9, s10, s11, s12)) _
  refine zz_ok_some ?_
  show zz_wr (s4) (t_1_4) p1.toInt (p1.toInt + p2.toInt) (-1) ∧ s0 = s0 ∧ s1 = s1 ∧ s2 = s2 ∧ s3 = s3 ∧ s5 = s5 ∧ s6 = s6 ∧ s7 = s7 ∧ s8 = s8 ∧ s9 = s9 ∧ s10 = s10 ∧ s11 = s11 ∧ s12 = s12
  exact ⟨(by assumption), rfl, rfl, rfl, rfl, rfl, rfl, rfl, rfl, rfl, rfl, rfl, rfl⟩

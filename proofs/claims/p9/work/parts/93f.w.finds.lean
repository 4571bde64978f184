abbrev rwW (T : Nat) (j : Nat) (v : Int32) : Prop := 0 ≤ v.toInt ∧ v.toInt ≤ 14
set_option maxHeartbeats 4000000 in
theorem wf_X10_clear (K : Nat) (hK : 1099511627776 ≤ K) (T : Nat) (hT : T ≤ 900) (n0 : Nat) (n1 : Nat) (s0 : Int32) (s1 : Int32) (s2 : Nat → Int32) (s3 : Nat → Int32) (a0 : n0 = 14) (a1 : n1 = 14) : zz_ok (m_X10_clear K n0 n1 s0 s1 s2 s3) (fun z => z.1.toInt = 0 ∧ z.2.1 = s1 ∧ z.2.2.1 = s2 ∧ z.2.2.2 = s3) := by
  have g1 := zz_rg s0
  have g2 := zz_rg s1
  unfold m_X10_clear
  have l3 : (0 : Int32).toInt = 0 := rfl
  refine zz_ok_some ?_
  show (0 : Int32).toInt = 0 ∧ s1 = s1 ∧ s2 = s2 ∧ s3 = s3
  exact ⟨(by omega), rfl, rfl, rfl⟩
set_option maxHeartbeats 4000000 in
theorem wf_X10_add (K : Nat) (hK : 1099511627776 ≤ K) (T : Nat) (hT : T ≤ 900) (n0 : Nat) (n1 : Nat) (p1 : Int32) (p2 : Int32) (s0 : Int32) (s1 : Int32) (s2 : Nat → Int32) (s3 : Nat → Int32) (a0 : n0 = 14) (a1 : n1 = 14) (a2 : zz_row 14 (rwW T) (s2)) (a3 : zz_row 14 (rwW T) (s3)) (a4 : 0 ≤ s0.toInt) (a5 : s0.toInt ≤ 14) (a6 : s0.toInt < 14) (a7 : 0 ≤ p1.toInt) (a8 : p1.toInt ≤ 14) (a9 : 0 ≤ p2.toInt) (a10 : p2.toInt ≤ 14) : zz_ok (m_X10_add K n0 n1 p1 p2 s0 s1 s2 s3) (fun z => z.1.toInt = s0.toInt + 1 ∧ z.2.2.1 = upd s2 s0.toNatClampNeg p1 ∧ z.2.2.2 = upd s3 s0.toNatClampNeg p2 ∧ z.2.1 = s1 ∧ zz_row 14 (rwW T) (z.2.2.1) ∧ zz_row 14 (rwW T) (z.2.2.2)) := by
  have g1 := zz_rg p1
  have g2 := zz_rg p2
  have g3 := zz_rg s0
  have g4 := zz_rg s1
  unfold m_X10_add
  have f6 := zz_nI n0 (by omega)
  have g7 := zz_rg (nI n0)
  refine zz_ok_ite (fun c5 => ?_) (fun c5 => ?_)
  · have c5 := Int32.le_iff_toInt_le.mp c5
    refine zz_ok_some ?_
    show s0.toInt = s0.toInt + 1 ∧ s2 = upd s2 s0.toNatClampNeg p1 ∧ s3 = upd s3 s0.toNatClampNeg p2 ∧ s1 = s1 ∧ zz_row 14 (rwW T) (s2) ∧ zz_row 14 (rwW T) (s3)
    exact ⟨(by omega), (by first | rfl | (exfalso; omega)), (by first | rfl | (exfalso; omega)), rfl, a2, a3⟩
  · have c5 := zz_nle c5
    refine zz_ok_chk (zz_ix (by omega) (by omega)) ?_
    have g8 := zz_tnI s0 (by omega)
    refine zz_ok_chk (zz_ix (by omega) (by omega)) ?_
    have l9 : (1 : Int32).toInt = 1 := rfl
    obtain ⟨k10, f11⟩ := zz_add s0 (1 : Int32)
    have g12 := zz_rg (s0 + ((1 : Int32)))
    refine zz_ok_some ?_
    show (s0 + ((1 : Int32))).toInt = s0.toInt + 1 ∧ (upd s2 s0.toNatClampNeg p1) = upd s2 s0.toNatClampNeg p1 ∧ (upd s3 s0.toNatClampNeg p2) = upd s3 s0.toNatClampNeg p2 ∧ s1 = s1 ∧ zz_row 14 (rwW T) ((upd s2 s0.toNatClampNeg p1)) ∧ zz_row 14 (rwW T) ((upd s3 s0.toNatClampNeg p2))
    exact ⟨(by omega), (by first | rfl | (exfalso; omega)), (by first | rfl | (exfalso; omega)), rfl, (zz_row_upd a2 (show 0 ≤ p1.toInt ∧ p1.toInt ≤ 14 by omega)), (zz_row_upd a3 (show 0 ≤ p2.toInt ∧ p2.toInt ≤ 14 by omega))⟩
set_option maxHeartbeats 4000000 in
theorem wf_X10_placeOf (K : Nat) (hK : 1099511627776 ≤ K) (T : Nat) (hT : T ≤ 900) (n0 : Nat) (n1 : Nat) (p1 : Int32) (s0 : Int32) (s1 : Int32) (s2 : Nat → Int32) (s3 : Nat → Int32) (a0 : n0 = 14) (a1 : n1 = 14) (a2 : zz_row 14 (rwW T) (s2)) (a3 : zz_row 14 (rwW T) (s3)) (a4 : 0 ≤ s0.toInt) (a5 : s0.toInt ≤ 14) (a6 : -1 ≤ p1.toInt) (a7 : p1.toInt < s0.toInt) : zz_ok (m_X10_placeOf K n0 n1 p1 s0 s1 s2 s3) (fun z => zz_po (s2) p1.toInt z.1.toInt ∧ -1 ≤ z.1.toInt ∧ z.1.toInt ≤ 14 ∧ z.2.1 = s0 ∧ z.2.2.1 = s1 ∧ z.2.2.2.1 = s2 ∧ z.2.2.2.2 = s3) := by
  have g1 := zz_rg p1
  have g2 := zz_rg s0
  have g3 := zz_rg s1
  unfold m_X10_placeOf
  have l5 : (0 : Int32).toInt = 0 := rfl
  refine zz_ok_ite (fun c4 => ?_) (fun c4 => ?_)
  · have c4 := Int32.lt_iff_toInt_lt.mp c4
    have l6 : (-1 : Int32).toInt = -1 := rfl
    refine zz_ok_some ?_
    show zz_po (s2) p1.toInt (-1 : Int32).toInt ∧ -1 ≤ (-1 : Int32).toInt ∧ (-1 : Int32).toInt ≤ 14 ∧ s0 = s0 ∧ s1 = s1 ∧ s2 = s2 ∧ s3 = s3
    exact ⟨(by first | exact Or.inl ⟨by omega, by omega⟩ | exact Or.inr ⟨by omega, rfl⟩), (by omega), (by omega), rfl, rfl, rfl, rfl⟩
  · have c4 := zz_nlt c4
    refine zz_ok_ite (fun c7 => ?_) (fun c7 => ?_)
    · have c7 := Int32.lt_iff_toInt_lt.mp c7
      refine zz_ok_chk (zz_ix (by omega) (by omega)) ?_
      have g8 := zz_tnI p1 (by omega)
      have g9 : 0 ≤ (s2 p1.toNatClampNeg).toInt ∧ (s2 p1.toNatClampNeg).toInt ≤ 14 := a2 p1.toNatClampNeg (zz_ltN (by omega) (by omega))
      have g10 := zz_rg (s2 p1.toNatClampNeg)
      refine zz_ok_some ?_
      show zz_po (s2) p1.toInt (s2 p1.toNatClampNeg).toInt ∧ -1 ≤ (s2 p1.toNatClampNeg).toInt ∧ (s2 p1.toNatClampNeg).toInt ≤ 14 ∧ s0 = s0 ∧ s1 = s1 ∧ s2 = s2 ∧ s3 = s3
      exact ⟨(by first | exact Or.inl ⟨by omega, by omega⟩ | exact Or.inr ⟨by omega, rfl⟩), (by omega), (by omega), rfl, rfl, rfl, rfl⟩
    · have c7 := zz_nlt c7
      have l11 : (-1 : Int32).toInt = -1 := rfl
      refine zz_ok_some ?_
      show zz_po (s2) p1.toInt (-1 : Int32).toInt ∧ -1 ≤ (-1 : Int32).toInt ∧ (-1 : Int32).toInt ≤ 14 ∧ s0 = s0 ∧ s1 = s1 ∧ s2 = s2 ∧ s3 = s3
      exact ⟨(by first | exact Or.inl ⟨by omega, by omega⟩ | exact Or.inr ⟨by omega, rfl⟩), (by omega), (by omega), rfl, rfl, rfl, rfl⟩
set_option maxHeartbeats 4000000 in
theorem wf_X10_firstFit_L2 (K : Nat) (hK : 1099511627776 ≤ K) (T : Nat) (hT : T ≤ 900) (n0 : Nat) (n1 : Nat) : ∀ (k : Nat) (x1 : Int32) (x2 : Int32) (s0 : Int32) (s1 : Int32) (s2 : Nat → Int32) (s3 : Nat → Int32), n0 = 14 → n1 = 14 → zz_row 14 (rwW T) (s2) → zz_row 14 (rwW T) (s3) → 0 ≤ s0.toInt → s0.toInt ≤ 14 → 1 ≤ x1.toInt → 0 ≤ x2.toInt → x2.toInt ≤ 14 → zz_nf x1.toInt (s3) x2.toInt → 15 - x2.toInt < (k : Int) → zz_ok (m_X10_firstFit_L2 K n0 n1 k x1 x2 s0 s1 s2 s3) (fun z => zz_q0 (s2) (s3) s0.toInt x1.toInt z.1.toInt ∧ -1 ≤ z.1.toInt ∧ z.1.toInt ≤ 14 ∧ z.2.1 = s0 ∧ z.2.2.2.1 = s2 ∧ z.2.2.2.2 = s3) := by
  intro k
  induction k with
  | zero =>
    intro x1 x2 s0 s1 s2 s3 a0 a1 a2 a3 a4 a5 a6 a7 a8 a9 hz9
    exfalso
    have g_x1 := zz_rg x1
    have g_x2 := zz_rg x2
    have g_s0 := zz_rg s0
    have g_s1 := zz_rg s1
    omega
  | succ k ih =>
    intro x1 x2 s0 s1 s2 s3 a0 a1 a2 a3 a4 a5 a6 a7 a8 a9 hz9
    rw [m_X10_firstFit_L2_s]
    have g1 := zz_rg x1
    have g2 := zz_rg x2
    have g3 := zz_rg s0
    have g4 := zz_rg s1
    refine zz_ok_ite (fun c5 => ?_) (fun c5 => ?_)
    · have c5 := Int32.le_iff_toInt_le.mp c5
      have l6 : (-1 : Int32).toInt = -1 := rfl
      refine zz_ok_some ?_
      show zz_q0 (s2) (s3) s0.toInt x1.toInt (-1 : Int32).toInt ∧ -1 ≤ (-1 : Int32).toInt ∧ (-1 : Int32).toInt ≤ 14 ∧ s0 = s0 ∧ s2 = s2 ∧ s3 = s3
      exact ⟨(by first | exact zz_q0_no (by assumption) (by omega) (by omega) (by omega) | exact zz_q0_yes (k := x2.toNatClampNeg) (by assumption) (by omega) (by omega) (by omega) (by omega) rfl), (by omega), (by omega), rfl, rfl, rfl⟩
    · have c5 := zz_nle c5
      refine zz_ok_chk (zz_ix (by omega) (by omega)) ?_
      have g7 := zz_tnI x2 (by omega)
      have g9 : 0 ≤ (s3 x2.toNatClampNeg).toInt ∧ (s3 x2.toNatClampNeg).toInt ≤ 14 := a3 x2.toNatClampNeg (zz_ltN (by omega) (by omega))
      have g10 := zz_rg (s3 x2.toNatClampNeg)
      refine zz_ok_ite (fun c8 => ?_) (fun c8 => ?_)
      · have c8 := Int32.lt_iff_toInt_lt.mp c8
        have l11 : (1 : Int32).toInt = 1 := rfl
        obtain ⟨k12, f13⟩ := zz_add x2 (1 : Int32)
        have g14 := zz_rg (x2 + 1)
        obtain ⟨k15, f16⟩ := zz_add s1 (1 : Int32)
        have g17 := zz_rg (s1 + ((1 : Int32)))
        refine (ih x1 (x2 + 1) s0 (s1 + ((1 : Int32))) s2 s3 a0 a1 a2 a3 a4 a5 a6 (by omega) (by omega) (by exact zz_nf_step (k := x2.toNatClampNeg) (by assumption) (by omega) (by omega) (by omega)) (by omega)).mono (fun z hz => ?_)
        obtain ⟨y18_0, y18_1, y18_2, y18_3, y18_4⟩ := z
        have q19 : zz_q0 (s2) (s3) s0.toInt x1.toInt y18_0.toInt := hz.1
        have q20 : -1 ≤ y18_0.toInt := hz.2.1
        have q21 : y18_0.toInt ≤ 14 := hz.2.2.1
        have q22 : y18_1 = s0 := hz.2.2.2.1
        have q23 : y18_3 = s2 := hz.2.2.2.2.1
        have q24 : y18_4 = s3 := hz.2.2.2.2.2
        clear hz
        have e25 : s0 = y18_1 := q22.symm
        subst e25
        have e26 : s2 = y18_3 := q23.symm
        subst e26
        have e27 : s3 = y18_4 := q24.symm
        subst e27
        have g28 := zz_rg y18_0
        have g29 := zz_rg y18_2
        show zz_q0 (s2) (s3) s0.toInt x1.toInt y18_0.toInt ∧ -1 ≤ y18_0.toInt ∧ y18_0.toInt ≤ 14 ∧ s0 = s0 ∧ s2 = s2 ∧ s3 = s3
        exact ⟨q19, q20, q21, rfl, rfl, rfl⟩
      · have c8 := zz_nlt c8
        refine zz_ok_chk (zz_ix (by omega) (by omega)) ?_
        have g30 : 0 ≤ (s2 x2.toNatClampNeg).toInt ∧ (s2 x2.toNatClampNeg).toInt ≤ 14 := a2 x2.toNatClampNeg (zz_ltN (by omega) (by omega))
        have g31 := zz_rg (s2 x2.toNatClampNeg)
        refine zz_ok_some ?_
        show zz_q0 (s2) (s3) s0.toInt x1.toInt (s2 x2.toNatClampNeg).toInt ∧ -1 ≤ (s2 x2.toNatClampNeg).toInt ∧ (s2 x2.toNatClampNeg).toInt ≤ 14 ∧ s0 = s0 ∧ s2 = s2 ∧ s3 = s3
        exact ⟨(by first | exact zz_q0_no (by assumption) (by omega) (by omega) (by omega) | exact zz_q0_yes (k := x2.toNatClampNeg) (by assumption) (by omega) (by omega) (by omega) (by omega) rfl), (by omega), (by omega), rfl, rfl, rfl⟩
set_option maxHeartbeats 4000000 in
theorem wf_X10_firstFit (K : Nat) (hK : 1099511627776 ≤ K) (T : Nat) (hT : T ≤ 900) (n0 : Nat) (n1 : Nat) (p1 : Int32) (s0 : Int32) (s1 : Int32) (s2 : Nat → Int32) (s3 : Nat → Int32) (a0 : n0 = 14) (a1 : n1 = 14) (a2 : zz_row 14 (rwW T) (s2)) (a3 : zz_row 14 (rwW T) (s3)) (a4 : 0 ≤ s0.toInt) (a5 : s0.toInt ≤ 14) (a6 : 1 ≤ p1.toInt) : zz_ok (m_X10_firstFit K n0 n1 p1 s0 s1 s2 s3) (fun z => zz_q0 (s2) (s3) s0.toInt p1.toInt z.1.toInt ∧ -1 ≤ z.1.toInt ∧ z.1.toInt ≤ 14 ∧ z.2.1 = s0 ∧ z.2.2.2.1 = s2 ∧ z.2.2.2.2 = s3) := by
  have g1 := zz_rg p1
  have g2 := zz_rg s0
  have g3 := zz_rg s1
  unfold m_X10_firstFit
  have l4 : (0 : Int32).toInt = 0 := rfl
  refine (wf_X10_firstFit_L2 K hK T hT n0 n1 K p1 ((0 : Int32)) s0 s1 s2 s3 a0 a1 a2 a3 a4 a5 a6 (by omega) (by omega) (by exact zz_nf_0 (by omega)) (by omega)).mono (fun z hz => ?_)
  obtain ⟨y5_0, y5_1, y5_2, y5_3, y5_4⟩ := z
  have q6 : zz_q0 (s2) (s3) s0.toInt p1.toInt y5_0.toInt := hz.1
  have q7 : -1 ≤ y5_0.toInt := hz.2.1
  have q8 : y5_0.toInt ≤ 14 := hz.2.2.1
  have q9 : y5_1 = s0 := hz.2.2.2.1
  have q10 : y5_3 = s2 := hz.2.2.2.2.1
  have q11 : y5_4 = s3 := hz.2.2.2.2.2
  clear hz
  have e12 : s0 = y5_1 := q9.symm
  subst e12
  have e13 : s2 = y5_3 := q10.symm
  subst e13
  have e14 : s3 = y5_4 := q11.symm
  subst e14
  have g15 := zz_rg y5_0
  have g16 := zz_rg y5_2
  show zz_q0 (s2) (s3) s0.toInt p1.toInt y5_0.toInt ∧ -1 ≤ y5_0.toInt ∧ y5_0.toInt ≤ 14 ∧ s0 = s0 ∧ s2 = s2 ∧ s3 = s3
  exact ⟨q6, q7, q8, rfl, rfl, rfl⟩
set_option maxHeartbeats 4000000 in
theorem wf_X10_nextFit_L72 (K : Nat) (hK : 1099511627776 ≤ K) (T : Nat) (hT : T ≤ 900) (n0 : Nat) (n1 : Nat) : ∀ (k : Nat) (x1 : Int32) (x2 : Int32) (x3 : Int32) (s0 : Int32) (s1 : Int32) (s2 : Nat → Int32) (s3 : Nat → Int32), n0 = 14 → n1 = 14 → zz_row 14 (rwW T) (s2) → zz_row 14 (rwW T) (s3) → 0 ≤ s0.toInt → s0.toInt ≤ 14 → 1 ≤ x1.toInt → 0 ≤ x3.toInt → x3.toInt ≤ 14 → zz_nf x1.toInt (s3) x3.toInt → 15 - x3.toInt < (k : Int) → zz_ok (m_X10_nextFit_L72 K n0 n1 k x1 x2 x3 s0 s1 s2 s3) (fun z => zz_q2 (s2) (s3) s0.toInt x1.toInt x2.toInt z.1.toInt ∧ -1 ≤ z.1.toInt ∧ z.1.toInt ≤ 14 ∧ z.2.1 = s0 ∧ z.2.2.2.1 = s2 ∧ z.2.2.2.2 = s3) := by
  intro k
  induction k with
  | zero =>
    intro x1 x2 x3 s0 s1 s2 s3 a0 a1 a2 a3 a4 a5 a6 a7 a8 a9 hz9
    exfalso
    have g_x1 := zz_rg x1
    have g_x2 := zz_rg x2
    have g_x3 := zz_rg x3
    have g_s0 := zz_rg s0
    have g_s1 := zz_rg s1
    omega
  | succ k ih =>
    intro x1 x2 x3 s0 s1 s2 s3 a0 a1 a2 a3 a4 a5 a6 a7 a8 a9 hz9
    rw [m_X10_nextFit_L72_s]
    have g1 := zz_rg x1
    have g2 := zz_rg x2
    have g3 := zz_rg x3
    have g4 := zz_rg s0
    have g5 := zz_rg s1
    refine zz_ok_ite (fun c6 => ?_) (fun c6 => ?_)
    · have c6 := Int32.le_iff_toInt_le.mp c6
      have l7 : (-1 : Int32).toInt = -1 := rfl
      refine zz_ok_some ?_
      show zz_q2 (s2) (s3) s0.toInt x1.toInt x2.toInt (-1 : Int32).toInt ∧ -1 ≤ (-1 : Int32).toInt ∧ (-1 : Int32).toInt ≤ 14 ∧ s0 = s0 ∧ s2 = s2 ∧ s3 = s3
      exact ⟨(by first | exact zz_q2_no (by assumption) (by omega) (by omega) (by omega) | exact zz_q2_no2 (k := x3.toNatClampNeg) (by assumption) (by omega) (by omega) (by omega) (by omega) (by omega) | exact zz_q2_yes (k := x3.toNatClampNeg) (by assumption) (by omega) (by omega) (by omega) (by omega) (by omega) rfl), (by omega), (by omega), rfl, rfl, rfl⟩
    · have c6 := zz_nle c6
      refine zz_ok_chk (zz_ix (by omega) (by omega)) ?_
      have g8 := zz_tnI x3 (by omega)
      have g10 : 0 ≤ (s2 x3.toNatClampNeg).toInt ∧ (s2 x3.toNatClampNeg).toInt ≤ 14 := a2 x3.toNatClampNeg (zz_ltN (by omega) (by omega))
      have g11 := zz_rg (s2 x3.toNatClampNeg)
      refine zz_ok_ite (fun c9 => ?_) (fun c9 => ?_)
      · have c9 := Int32.le_iff_toInt_le.mp c9
        have l12 : (-1 : Int32).toInt = -1 := rfl
        refine zz_ok_some ?_
        show zz_q2 (s2) (s3) s0.toInt x1.toInt x2.toInt (-1 : Int32).toInt ∧ -1 ≤ (-1 : Int32).toInt ∧ (-1 : Int32).toInt ≤ 14 ∧ s0 = s0 ∧ s2 = s2 ∧ s3 = s3
        exact ⟨(by first | exact zz_q2_no (by assumption) (by omega) (by omega) (by omega) | exact zz_q2_no2 (k := x3.toNatClampNeg) (by assumption) (by omega) (by omega) (by omega) (by omega) (by omega) | exact zz_q2_yes (k := x3.toNatClampNeg) (by assumption) (by omega) (by omega) (by omega) (by omega) (by omega) rfl), (by omega), (by omega), rfl, rfl, rfl⟩
      · have c9 := zz_nle c9
        refine zz_ok_chk (zz_ix (by omega) (by omega)) ?_
        have g14 : 0 ≤ (s3 x3.toNatClampNeg).toInt ∧ (s3 x3.toNatClampNeg).toInt ≤ 14 := a3 x3.toNatClampNeg (zz_ltN (by omega) (by omega))
        have g15 := zz_rg (s3 x3.toNatClampNeg)
        refine zz_ok_ite (fun c13 => ?_) (fun c13 => ?_)
        · have c13 := Int32.lt_iff_toInt_lt.mp c13
          have l16 : (1 : Int32).toInt = 1 := rfl
          obtain ⟨k17, f18⟩ := zz_add x3 (1 : Int32)
          have g19 := zz_rg (x3 + 1)
          obtain ⟨k20, f21⟩ := zz_add s1 (1 : Int32)
          have g22 := zz_rg (s1 + ((1 : Int32)))
          refine (ih x1 x2 (x3 + 1) s0 (s1 + ((1 : Int32))) s2 s3 a0 a1 a2 a3 a4 a5 a6 (by omega) (by omega) (by exact zz_nf_step (k := x3.toNatClampNeg) (by assumption) (by omega) (by omega) (by omega)) (by omega)).mono (fun z hz => ?_)
          obtain ⟨y23_0, y23_1, y23_2, y23_3, y23_4⟩ := z
          have q24 : zz_q2 (s2) (s3) s0.toInt x1.toInt x2.toInt y23_0.toInt := hz.1
          have q25 : -1 ≤ y23_0.toInt := hz.2.1
          have q26 : y23_0.toInt ≤ 14 := hz.2.2.1
          have q27 : y23_1 = s0 := hz.2.2.2.1
          have q28 : y23_3 = s2 := hz.2.2.2.2.1
          have q29 : y23_4 = s3 := hz.2.2.2.2.2
          clear hz
          have e30 : s0 = y23_1 := q27.symm
          subst e30
          have e31 : s2 = y23_3 := q28.symm
          subst e31
          have e32 : s3 = y23_4 := q29.symm
          subst e32
          have g33 := zz_rg y23_0
          have g34 := zz_rg y23_2
          show zz_q2 (s2) (s3) s0.toInt x1.toInt x2.toInt y23_0.toInt ∧ -1 ≤ y23_0.toInt ∧ y23_0.toInt ≤ 14 ∧ s0 = s0 ∧ s2 = s2 ∧ s3 = s3
          exact ⟨q24, q25, q26, rfl, rfl, rfl⟩
        · have c13 := zz_nlt c13
          refine zz_ok_chk (zz_ix (by omega) (by omega)) ?_
          refine zz_ok_some ?_
          show zz_q2 (s2) (s3) s0.toInt x1.toInt x2.toInt (s2 x3.toNatClampNeg).toInt ∧ -1 ≤ (s2 x3.toNatClampNeg).toInt ∧ (s2 x3.toNatClampNeg).toInt ≤ 14 ∧ s0 = s0 ∧ s2 = s2 ∧ s3 = s3
          exact ⟨(by first | exact zz_q2_no (by assumption) (by omega) (by omega) (by omega) | exact zz_q2_no2 (k := x3.toNatClampNeg) (by assumption) (by omega) (by omega) (by omega) (by omega) (by omega) | exact zz_q2_yes (k := x3.toNatClampNeg) (by assumption) (by omega) (by omega) (by omega) (by omega) (by omega) rfl), (by omega), (by omega), rfl, rfl, rfl⟩
set_option maxHeartbeats 4000000 in
theorem wf_X10_nextFit_L2 (K : Nat) (hK : 1099511627776 ≤ K) (T : Nat) (hT : T ≤ 900) (n0 : Nat) (n1 : Nat) : ∀ (k : Nat) (x1 : Int32) (x2 : Int32) (x3 : Int32) (s0 : Int32) (s1 : Int32) (s2 : Nat → Int32) (s3 : Nat → Int32), n0 = 14 → n1 = 14 → zz_row 14 (rwW T) (s2) → zz_row 14 (rwW T) (s3) → 0 ≤ s0.toInt → s0.toInt ≤ 14 → 1 ≤ x1.toInt → x1.toInt ≤ 14 → 0 ≤ x2.toInt → x2.toInt ≤ 15 → 0 ≤ x3.toInt → x3.toInt ≤ 14 → zz_nx x1.toInt x2.toInt (s2) (s3) x3.toInt → 15 - x3.toInt < (k : Int) → zz_ok (m_X10_nextFit_L2 K n0 n1 k x1 x2 x3 s0 s1 s2 s3) (fun z => zz_q1 (s2) (s3) s0.toInt x1.toInt x2.toInt z.1.toInt ∧ -1 ≤ z.1.toInt ∧ z.1.toInt ≤ 15 ∧ z.2.1 = s0 ∧ z.2.2.2.1 = s2 ∧ z.2.2.2.2 = s3) := by
  intro k
  induction k with
  | zero =>
    intro x1 x2 x3 s0 s1 s2 s3 a0 a1 a2 a3 a4 a5 a6 a7 a8 a9 a10 a11 a12 hz9
    exfalso
    have g_x1 := zz_rg x1
    have g_x2 := zz_rg x2
    have g_x3 := zz_rg x3
    have g_s0 := zz_rg s0
    have g_s1 := zz_rg s1
    omega
  | succ k ih =>
    intro x1 x2 x3 s0 s1 s2 s3 a0 a1 a2 a3 a4 a5 a6 a7 a8 a9 a10 a11 a12 hz9
    rw [m_X10_nextFit_L2_s]
    have g1 := zz_rg x1
    have g2 := zz_rg x2
    have g3 := zz_rg x3
    have g4 := zz_rg s0
    have g5 := zz_rg s1
    refine zz_ok_ite (fun c6 => ?_) (fun c6 => ?_)
    · have c6 := Int32.le_iff_toInt_le.mp c6
      have l7 : (0 : Int32).toInt = 0 := rfl
      refine (wf_X10_nextFit_L72 K hK T hT n0 n1 K x1 x2 ((0 : Int32)) s0 s1 s2 s3 a0 a1 a2 a3 a4 a5 a6 (by omega) (by omega) (by exact zz_nf_0 (by omega)) (by omega)).mono (fun z hz => ?_)
      obtain ⟨y8_0, y8_1, y8_2, y8_3, y8_4⟩ := z
      have q9 : zz_q2 (s2) (s3) s0.toInt x1.toInt x2.toInt y8_0.toInt := hz.1
      have q10 : -1 ≤ y8_0.toInt := hz.2.1
      have q11 : y8_0.toInt ≤ 14 := hz.2.2.1
      have q12 : y8_1 = s0 := hz.2.2.2.1
      have q13 : y8_3 = s2 := hz.2.2.2.2.1
      have q14 : y8_4 = s3 := hz.2.2.2.2.2
      clear hz
      have e15 : s0 = y8_1 := q12.symm
      subst e15
      have e16 : s2 = y8_3 := q13.symm
      subst e16
      have e17 : s3 = y8_4 := q14.symm
      subst e17
      have g18 := zz_rg y8_0
      have g19 := zz_rg y8_2
      show zz_q1 (s2) (s3) s0.toInt x1.toInt x2.toInt y8_0.toInt ∧ -1 ≤ y8_0.toInt ∧ y8_0.toInt ≤ 15 ∧ s0 = s0 ∧ s2 = s2 ∧ s3 = s3
      exact ⟨(by first | exact zz_q1_no (by assumption) (by assumption) (by omega) (by omega) (by omega) | exact zz_q1_yes (k := x3.toNatClampNeg) (by assumption) (by omega) (by omega) (by omega) (by omega) (by omega) (by omega) (by omega) (by omega)), q10, (by omega), rfl, rfl, rfl⟩
    · have c6 := zz_nle c6
      refine zz_ok_chk (zz_ix (by omega) (by omega)) ?_
      have g20 := zz_tnI x3 (by omega)
      refine zz_ok_chk (zz_ix (by omega) (by omega)) ?_
      refine zz_ok_chk (zz_ix (by omega) (by omega)) ?_
      have g22 : 0 ≤ (s2 x3.toNatClampNeg).toInt ∧ (s2 x3.toNatClampNeg).toInt ≤ 14 := a2 x3.toNatClampNeg (zz_ltN (by omega) (by omega))
      have g23 := zz_rg (s2 x3.toNatClampNeg)
      have g24 : 0 ≤ (s3 x3.toNatClampNeg).toInt ∧ (s3 x3.toNatClampNeg).toInt ≤ 14 := a3 x3.toNatClampNeg (zz_ltN (by omega) (by omega))
      have g25 := zz_rg (s3 x3.toNatClampNeg)
      obtain ⟨k26, f27⟩ := zz_add (s2 x3.toNatClampNeg) (s3 x3.toNatClampNeg)
      have g28 := zz_rg ((s2 x3.toNatClampNeg) + (s3 x3.toNatClampNeg))
      have f29 := zz_maxF (s2 x3.toNatClampNeg) x2
      have g30 := zz_rg (zz_max (s2 x3.toNatClampNeg) x2)
      obtain ⟨k31, f32⟩ := zz_sub ((s2 x3.toNatClampNeg) + (s3 x3.toNatClampNeg)) (zz_max (s2 x3.toNatClampNeg) x2)
      have g33 := zz_rg (((s2 x3.toNatClampNeg) + (s3 x3.toNatClampNeg)) - (zz_max (s2 x3.toNatClampNeg) x2))
      have l34 : (0 : Int32).toInt = 0 := rfl
      refine zz_ok_ite (fun c21 => ?_) (fun c21 => ?_)
      · have c21 := Int32.le_iff_toInt_le.mp c21
        have l35 : (1 : Int32).toInt = 1 := rfl
        obtain ⟨k36, f37⟩ := zz_add x3 (1 : Int32)
        have g38 := zz_rg (x3 + 1)
        refine (ih x1 x2 (x3 + 1) s0 s1 s2 s3 a0 a1 a2 a3 a4 a5 a6 a7 a8 a9 (by omega) (by omega) (by exact zz_nx_step (k := x3.toNatClampNeg) (by assumption) (by omega) (by omega) (by omega)) (by omega)).mono (fun z hz => ?_)
        obtain ⟨y39_0, y39_1, y39_2, y39_3, y39_4⟩ := z
        have q40 : zz_q1 (s2) (s3) s0.toInt x1.toInt x2.toInt y39_0.toInt := hz.1
        have q41 : -1 ≤ y39_0.toInt := hz.2.1
        have q42 : y39_0.toInt ≤ 15 := hz.2.2.1
        have q43 : y39_1 = s0 := hz.2.2.2.1
        have q44 : y39_3 = s2 := hz.2.2.2.2.1
        have q45 : y39_4 = s3 := hz.2.2.2.2.2
        clear hz
        have e46 : s0 = y39_1 := q43.symm
        subst e46
        have e47 : s2 = y39_3 := q44.symm
        subst e47
        have e48 : s3 = y39_4 := q45.symm
        subst e48
        have g49 := zz_rg y39_0
        have g50 := zz_rg y39_2
        show zz_q1 (s2) (s3) s0.toInt x1.toInt x2.toInt y39_0.toInt ∧ -1 ≤ y39_0.toInt ∧ y39_0.toInt ≤ 15 ∧ s0 = s0 ∧ s2 = s2 ∧ s3 = s3
        exact ⟨q40, q41, q42, rfl, rfl, rfl⟩
      · have c21 := zz_nle c21
        refine zz_ok_ite (fun c51 => ?_) (fun c51 => ?_)
        · have c51 := Int32.lt_iff_toInt_lt.mp c51
          have l52 : (1 : Int32).toInt = 1 := rfl
          obtain ⟨k53, f54⟩ := zz_add x3 (1 : Int32)
          have g55 := zz_rg (x3 + 1)
          obtain ⟨k56, f57⟩ := zz_add s1 (1 : Int32)
          have g58 := zz_rg (s1 + ((1 : Int32)))
          refine (ih x1 x2 (x3 + 1) s0 (s1 + ((1 : Int32))) s2 s3 a0 a1 a2 a3 a4 a5 a6 a7 a8 a9 (by omega) (by omega) (by exact zz_nx_step (k := x3.toNatClampNeg) (by assumption) (by omega) (by omega) (by omega)) (by omega)).mono (fun z hz => ?_)
          obtain ⟨y59_0, y59_1, y59_2, y59_3, y59_4⟩ := z
          have q60 : zz_q1 (s2) (s3) s0.toInt x1.toInt x2.toInt y59_0.toInt := hz.1
          have q61 : -1 ≤ y59_0.toInt := hz.2.1
          have q62 : y59_0.toInt ≤ 15 := hz.2.2.1
          have q63 : y59_1 = s0 := hz.2.2.2.1
          have q64 : y59_3 = s2 := hz.2.2.2.2.1
          have q65 : y59_4 = s3 := hz.2.2.2.2.2
          clear hz
          have e66 : s0 = y59_1 := q63.symm
          subst e66
          have e67 : s2 = y59_3 := q64.symm
          subst e67
          have e68 : s3 = y59_4 := q65.symm
          subst e68
          have g69 := zz_rg y59_0
          have g70 := zz_rg y59_2
          show zz_q1 (s2) (s3) s0.toInt x1.toInt x2.toInt y59_0.toInt ∧ -1 ≤ y59_0.toInt ∧ y59_0.toInt ≤ 15 ∧ s0 = s0 ∧ s2 = s2 ∧ s3 = s3
          exact ⟨q60, q61, q62, rfl, rfl, rfl⟩
        · have c51 := zz_nlt c51
          refine zz_ok_some ?_
          show zz_q1 (s2) (s3) s0.toInt x1.toInt x2.toInt (zz_max (s2 x3.toNatClampNeg) x2).toInt ∧ -1 ≤ (zz_max (s2 x3.toNatClampNeg) x2).toInt ∧ (zz_max (s2 x3.toNatClampNeg) x2).toInt ≤ 15 ∧ s0 = s0 ∧ s2 = s2 ∧ s3 = s3
          exact ⟨(by first | exact zz_q1_no (by assumption) (by assumption) (by omega) (by omega) (by omega) | exact zz_q1_yes (k := x3.toNatClampNeg) (by assumption) (by omega) (by omega) (by omega) (by omega) (by omega) (by omega) (by omega) (by omega)), (by omega), (by omega), rfl, rfl, rfl⟩
set_option maxHeartbeats 4000000 in
theorem wf_X10_nextFit (K : Nat) (hK : 1099511627776 ≤ K) (T : Nat) (hT : T ≤ 900) (n0 : Nat) (n1 : Nat) (p1 : Int32) (p2 : Int32) (s0 : Int32) (s1 : Int32) (s2 : Nat → Int32) (s3 : Nat → Int32) (a0 : n0 = 14) (a1 : n1 = 14) (a2 : zz_row 14 (rwW T) (s2)) (a3 : zz_row 14 (rwW T) (s3)) (a4 : 0 ≤ s0.toInt) (a5 : s0.toInt ≤ 14) (a6 : 1 ≤ p1.toInt) (a7 : p1.toInt ≤ 14) (a8 : 0 ≤ p2.toInt) (a9 : p2.toInt ≤ 15) : zz_ok (m_X10_nextFit K n0 n1 p1 p2 s0 s1 s2 s3) (fun z => zz_q1 (s2) (s3) s0.toInt p1.toInt p2.toInt z.1.toInt ∧ -1 ≤ z.1.toInt ∧ z.1.toInt ≤ 15 ∧ z.2.1 = s0 ∧ z.2.2.2.1 = s2 ∧ z.2.2.2.2 = s3) := by
  have g1 := zz_rg p1
  have g2 := zz_rg p2
  have g3 := zz_rg s0
  have g4 := zz_rg s1
  unfold m_X10_nextFit
  have l5 : (0 : Int32).toInt = 0 := rfl
  refine (wf_X10_nextFit_L2 K hK T hT n0 n1 K p1 p2 ((0 : Int32)) s0 s1 s2 s3 a0 a1 a2 a3 a4 a5 a6 a7 a8 a9 (by omega) (by omega) (by exact zz_nx_0 (by omega)) (by omega)).mono (fun z hz => ?_)
  obtain ⟨y6_0, y6_1, y6_2, y6_3, y6_4⟩ := z
  have q7 : zz_q1 (s2) (s3) s0.toInt p1.toInt p2.toInt y6_0.toInt := hz.1
  have q8 : -1 ≤ y6_0.toInt := hz.2.1
  have q9 : y6_0.toInt ≤ 15 := hz.2.2.1
  have q10 : y6_1 = s0 := hz.2.2.2.1
  have q11 : y6_3 = s2 := hz.2.2.2.2.1
  have q12 : y6_4 = s3 := hz.2.2.2.2.2
  clear hz
  have e13 : s0 = y6_1 := q10.symm
  subst e13
  have e14 : s2 = y6_3 := q11.symm
  subst e14
  have e15 : s3 = y6_4 := q12.symm
  subst e15
  have g16 := zz_rg y6_0
  have g17 := zz_rg y6_2
  show zz_q1 (s2) (s3) s0.toInt p1.toInt p2.toInt y6_0.toInt ∧ -1 ≤ y6_0.toInt ∧ y6_0.toInt ≤ 15 ∧ s0 = s0 ∧ s2 = s2 ∧ s3 = s3
  exact ⟨q7, q8, q9, rfl, rfl, rfl⟩
set_option maxHeartbeats 4000000 in
theorem wf_X10_bestFit_L4 (K : Nat) (hK : 1099511627776 ≤ K) (T : Nat) (hT : T ≤ 900) (n0 : Nat) (n1 : Nat) : ∀ (k : Nat) (x1 : Int32) (x2 : Int32) (x3 : Int32) (s0 : Int32) (s1 : Int32) (s2 : Nat → Int32) (s3 : Nat → Int32), n0 = 14 → n1 = 14 → zz_row 14 (rwW T) (s2) → zz_row 14 (rwW T) (s3) → 0 ≤ s0.toInt → s0.toInt ≤ 14 → 1 ≤ x1.toInt → -1 ≤ x2.toInt → x2.toInt < x3.toInt → 0 ≤ x3.toInt → x3.toInt ≤ s0.toInt → zz_bk9 True x1.toInt (s3) x2.toInt x3.toInt → 15 - x3.toInt < (k : Int) → zz_ok (m_X10_bestFit_L4 K n0 n1 k x1 x2 x3 s0 s1 s2 s3) (fun z => zz_q3 True (s2) (s3) s0.toInt x1.toInt z.1.toInt ∧ -1 ≤ z.1.toInt ∧ z.1.toInt ≤ 14 ∧ z.2.1 = s0 ∧ z.2.2.2.1 = s2 ∧ z.2.2.2.2 = s3) := by
  intro k
  induction k with
  | zero =>
    intro x1 x2 x3 s0 s1 s2 s3 a0 a1 a2 a3 a4 a5 a6 a7 a8 a9 a10 a11 hz9
    exfalso
    have g_x1 := zz_rg x1
    have g_x2 := zz_rg x2
    have g_x3 := zz_rg x3
    have g_s0 := zz_rg s0
    have g_s1 := zz_rg s1
    omega
  | succ k ih =>
    intro x1 x2 x3 s0 s1 s2 s3 a0 a1 a2 a3 a4 a5 a6 a7 a8 a9 a10 a11 hz9
    rw [m_X10_bestFit_L4_s]
    have g1 := zz_rg x1
    have g2 := zz_rg x2
    have g3 := zz_rg x3
    have g4 := zz_rg s0
    have g5 := zz_rg s1
    refine zz_ok_ite (fun c6 => ?_) (fun c6 => ?_)
    · have c6 := Int32.le_iff_toInt_le.mp c6
      refine zz_ok_bind (wf_X10_placeOf K hK T hT n0 n1 x2 s0 s0 s2 s3 a0 a1 a2 a3 a4 a5 a7 (by omega)) ?_
      intro z7 hz7
      obtain ⟨r_2, t_2_0, t_2_1, t_2_2, t_2_3⟩ := z7
      have q8 : zz_po (s2) x2.toInt r_2.toInt := hz7.1
      have q9 : -1 ≤ r_2.toInt := hz7.2.1
      have q10 : r_2.toInt ≤ 14 := hz7.2.2.1
      have q11 : t_2_0 = s0 := hz7.2.2.2.1
      have q12 : t_2_1 = s0 := hz7.2.2.2.2.1
      have q13 : t_2_2 = s2 := hz7.2.2.2.2.2.1
      have q14 : t_2_3 = s3 := hz7.2.2.2.2.2.2
      clear hz7
      have e15 : s0 = t_2_0 := q11.symm
      subst e15
      have e16 : s0 = t_2_1 := q12.symm
      subst e16
      have e17 : s2 = t_2_2 := q13.symm
      subst e17
      have e18 : s3 = t_2_3 := q14.symm
      subst e18
      have g19 := zz_rg r_2
      show zz_ok (some (r_2, s0, s0, s2, s3)) _
      refine zz_ok_some ?_
      show zz_q3 True (s2) (s3) s0.toInt x1.toInt r_2.toInt ∧ -1 ≤ r_2.toInt ∧ r_2.toInt ≤ 14 ∧ s0 = s0 ∧ s2 = s2 ∧ s3 = s3
      exact ⟨(by exact zz_q3_end (by assumption) (by assumption) (by omega) (by omega) (by omega)), q9, q10, rfl, rfl, rfl⟩
    · have c6 := zz_nle c6
      refine zz_ok_chk (zz_ix (by omega) (by omega)) ?_
      have g20 := zz_tnI x3 (by omega)
      have g22 : 0 ≤ (s3 x3.toNatClampNeg).toInt ∧ (s3 x3.toNatClampNeg).toInt ≤ 14 := a3 x3.toNatClampNeg (zz_ltN (by omega) (by omega))
      have g23 := zz_rg (s3 x3.toNatClampNeg)
      refine zz_ok_ite (fun c21 => ?_) (fun c21 => ?_)
      · have c21 := Int32.lt_iff_toInt_lt.mp c21
        have l24 : (1 : Int32).toInt = 1 := rfl
        obtain ⟨k25, f26⟩ := zz_add x3 (1 : Int32)
        have g27 := zz_rg (x3 + 1)
        refine (ih x1 x2 (x3 + 1) s0 s1 s2 s3 a0 a1 a2 a3 a4 a5 a6 a7 (by omega) (by omega) (by omega) (by first | exact zz_bk9_stay (k := x3.toNatClampNeg) (by assumption) (by omega) (by omega) (by first | exact Or.inl (by omega) | exact Or.inr ⟨by omega, Or.inl ⟨trivial, by omega⟩⟩) | exact zz_bk9_best (k := x3.toNatClampNeg) (by assumption) (by omega) (by omega) (by omega) (by first | exact Or.inl (by omega) | exact Or.inr (Or.inl ⟨trivial, by omega⟩)) rfl) (by omega)).mono (fun z hz => ?_)
        obtain ⟨y28_0, y28_1, y28_2, y28_3, y28_4⟩ := z
        have q29 : zz_q3 True (s2) (s3) s0.toInt x1.toInt y28_0.toInt := hz.1
        have q30 : -1 ≤ y28_0.toInt := hz.2.1
        have q31 : y28_0.toInt ≤ 14 := hz.2.2.1
        have q32 : y28_1 = s0 := hz.2.2.2.1
        have q33 : y28_3 = s2 := hz.2.2.2.2.1
        have q34 : y28_4 = s3 := hz.2.2.2.2.2
        clear hz
        have e35 : s0 = y28_1 := q32.symm
        subst e35
        have e36 : s2 = y28_3 := q33.symm
        subst e36
        have e37 : s3 = y28_4 := q34.symm
        subst e37
        have g38 := zz_rg y28_0
        have g39 := zz_rg y28_2
        show zz_q3 True (s2) (s3) s0.toInt x1.toInt y28_0.toInt ∧ -1 ≤ y28_0.toInt ∧ y28_0.toInt ≤ 14 ∧ s0 = s0 ∧ s2 = s2 ∧ s3 = s3
        exact ⟨q29, q30, q31, rfl, rfl, rfl⟩
      · have c21 := zz_nlt c21
        have l41 : (-1 : Int32).toInt = -1 := rfl
        refine zz_ok_ite (fun c40 => ?_) (fun c40 => ?_)
        · have c40 := congrArg Int32.toInt c40
          have l42 : (1 : Int32).toInt = 1 := rfl
          obtain ⟨k43, f44⟩ := zz_add x3 (1 : Int32)
          have g45 := zz_rg (x3 + 1)
          refine (ih x1 x3 (x3 + 1) s0 s1 s2 s3 a0 a1 a2 a3 a4 a5 a6 (by omega) (by omega) (by omega) (by omega) (by first | exact zz_bk9_stay (k := x3.toNatClampNeg) (by assumption) (by omega) (by omega) (by first | exact Or.inl (by omega) | exact Or.inr ⟨by omega, Or.inl ⟨trivial, by omega⟩⟩) | exact zz_bk9_best (k := x3.toNatClampNeg) (by assumption) (by omega) (by omega) (by omega) (by first | exact Or.inl (by omega) | exact Or.inr (Or.inl ⟨trivial, by omega⟩)) rfl) (by omega)).mono (fun z hz => ?_)
          obtain ⟨y46_0, y46_1, y46_2, y46_3, y46_4⟩ := z
          have q47 : zz_q3 True (s2) (s3) s0.toInt x1.toInt y46_0.toInt := hz.1
          have q48 : -1 ≤ y46_0.toInt := hz.2.1
          have q49 : y46_0.toInt ≤ 14 := hz.2.2.1
          have q50 : y46_1 = s0 := hz.2.2.2.1
          have q51 : y46_3 = s2 := hz.2.2.2.2.1
          have q52 : y46_4 = s3 := hz.2.2.2.2.2
          clear hz
          have e53 : s0 = y46_1 := q50.symm
          subst e53
          have e54 : s2 = y46_3 := q51.symm
          subst e54
          have e55 : s3 = y46_4 := q52.symm
          subst e55
          have g56 := zz_rg y46_0
          have g57 := zz_rg y46_2
          show zz_q3 True (s2) (s3) s0.toInt x1.toInt y46_0.toInt ∧ -1 ≤ y46_0.toInt ∧ y46_0.toInt ≤ 14 ∧ s0 = s0 ∧ s2 = s2 ∧ s3 = s3
          exact ⟨q47, q48, q49, rfl, rfl, rfl⟩
        · have c40 := zz_neq c40
          refine zz_ok_chk (zz_ix (by omega) (by omega)) ?_
          refine zz_ok_chk (zz_ix (by omega) (by omega)) ?_
          have g58 := zz_tnI x2 (by omega)
          have g60 : 0 ≤ (s3 x2.toNatClampNeg).toInt ∧ (s3 x2.toNatClampNeg).toInt ≤ 14 := a3 x2.toNatClampNeg (zz_ltN (by omega) (by omega))
          have g61 := zz_rg (s3 x2.toNatClampNeg)
          refine zz_ok_ite (fun c59 => ?_) (fun c59 => ?_)
          · have c59 := Int32.le_iff_toInt_le.mp c59
            have l62 : (1 : Int32).toInt = 1 := rfl
            obtain ⟨k63, f64⟩ := zz_add x3 (1 : Int32)
            have g65 := zz_rg (x3 + 1)
            refine (ih x1 x2 (x3 + 1) s0 s1 s2 s3 a0 a1 a2 a3 a4 a5 a6 a7 (by omega) (by omega) (by omega) (by first | exact zz_bk9_stay (k := x3.toNatClampNeg) (by assumption) (by omega) (by omega) (by first | exact Or.inl (by omega) | exact Or.inr ⟨by omega, Or.inl ⟨trivial, by omega⟩⟩) | exact zz_bk9_best (k := x3.toNatClampNeg) (by assumption) (by omega) (by omega) (by omega) (by first | exact Or.inl (by omega) | exact Or.inr (Or.inl ⟨trivial, by omega⟩)) rfl) (by omega)).mono (fun z hz => ?_)
            obtain ⟨y66_0, y66_1, y66_2, y66_3, y66_4⟩ := z
            have q67 : zz_q3 True (s2) (s3) s0.toInt x1.toInt y66_0.toInt := hz.1
            have q68 : -1 ≤ y66_0.toInt := hz.2.1
            have q69 : y66_0.toInt ≤ 14 := hz.2.2.1
            have q70 : y66_1 = s0 := hz.2.2.2.1
            have q71 : y66_3 = s2 := hz.2.2.2.2.1
            have q72 : y66_4 = s3 := hz.2.2.2.2.2
            clear hz
            have e73 : s0 = y66_1 := q70.symm
            subst e73
            have e74 : s2 = y66_3 := q71.symm
            subst e74
            have e75 : s3 = y66_4 := q72.symm
            subst e75
            have g76 := zz_rg y66_0
            have g77 := zz_rg y66_2
            show zz_q3 True (s2) (s3) s0.toInt x1.toInt y66_0.toInt ∧ -1 ≤ y66_0.toInt ∧ y66_0.toInt ≤ 14 ∧ s0 = s0 ∧ s2 = s2 ∧ s3 = s3
            exact ⟨q67, q68, q69, rfl, rfl, rfl⟩
          · have c59 := zz_nle c59
            have l78 : (1 : Int32).toInt = 1 := rfl
            obtain ⟨k79, f80⟩ := zz_add x3 (1 : Int32)
            have g81 := zz_rg (x3 + 1)
            refine (ih x1 x3 (x3 + 1) s0 s1 s2 s3 a0 a1 a2 a3 a4 a5 a6 (by omega) (by omega) (by omega) (by omega) (by first | exact zz_bk9_stay (k := x3.toNatClampNeg) (by assumption) (by omega) (by omega) (by first | exact Or.inl (by omega) | exact Or.inr ⟨by omega, Or.inl ⟨trivial, by omega⟩⟩) | exact zz_bk9_best (k := x3.toNatClampNeg) (by assumption) (by omega) (by omega) (by omega) (by first | exact Or.inl (by omega) | exact Or.inr (Or.inl ⟨trivial, by omega⟩)) rfl) (by omega)).mono (fun z hz => ?_)
            obtain ⟨y82_0, y82_1, y82_2, y82_3, y82_4⟩ := z
            have q83 : zz_q3 True (s2) (s3) s0.toInt x1.toInt y82_0.toInt := hz.1
            have q84 : -1 ≤ y82_0.toInt := hz.2.1
            have q85 : y82_0.toInt ≤ 14 := hz.2.2.1
            have q86 : y82_1 = s0 := hz.2.2.2.1
            have q87 : y82_3 = s2 := hz.2.2.2.2.1
            have q88 : y82_4 = s3 := hz.2.2.2.2.2
            clear hz
            have e89 : s0 = y82_1 := q86.symm
            subst e89
            have e90 : s2 = y82_3 := q87.symm
            subst e90
            have e91 : s3 = y82_4 := q88.symm
            subst e91
            have g92 := zz_rg y82_0
            have g93 := zz_rg y82_2
            show zz_q3 True (s2) (s3) s0.toInt x1.toInt y82_0.toInt ∧ -1 ≤ y82_0.toInt ∧ y82_0.toInt ≤ 14 ∧ s0 = s0 ∧ s2 = s2 ∧ s3 = s3
            exact ⟨q83, q84, q85, rfl, rfl, rfl⟩
set_option maxHeartbeats 4000000 in
theorem wf_X10_bestFit (K : Nat) (hK : 1099511627776 ≤ K) (T : Nat) (hT : T ≤ 900) (n0 : Nat) (n1 : Nat) (p1 : Int32) (s0 : Int32) (s1 : Int32) (s2 : Nat → Int32) (s3 : Nat → Int32) (a0 : n0 = 14) (a1 : n1 = 14) (a2 : zz_row 14 (rwW T) (s2)) (a3 : zz_row 14 (rwW T) (s3)) (a4 : 0 ≤ s0.toInt) (a5 : s0.toInt ≤ 14) (a6 : 1 ≤ p1.toInt) : zz_ok (m_X10_bestFit K n0 n1 p1 s0 s1 s2 s3) (fun z => zz_q3 True (s2) (s3) s0.toInt p1.toInt z.1.toInt ∧ -1 ≤ z.1.toInt ∧ z.1.toInt ≤ 14 ∧ z.2.1 = s0 ∧ z.2.2.2.1 = s2 ∧ z.2.2.2.2 = s3) := by
  have g1 := zz_rg p1
  have g2 := zz_rg s0
  have g3 := zz_rg s1
  unfold m_X10_bestFit
  have l4 : (-1 : Int32).toInt = -1 := rfl
  have l5 : (0 : Int32).toInt = 0 := rfl
  refine (wf_X10_bestFit_L4 K hK T hT n0 n1 K p1 ((-1 : Int32)) ((0 : Int32)) s0 s1 s2 s3 a0 a1 a2 a3 a4 a5 a6 (by omega) (by omega) (by omega) (by omega) (by exact zz_bk9_0 (by decide) (by omega)) (by omega)).mono (fun z hz => ?_)
  obtain ⟨y6_0, y6_1, y6_2, y6_3, y6_4⟩ := z
  have q7 : zz_q3 True (s2) (s3) s0.toInt p1.toInt y6_0.toInt := hz.1
  have q8 : -1 ≤ y6_0.toInt := hz.2.1
  have q9 : y6_0.toInt ≤ 14 := hz.2.2.1
  have q10 : y6_1 = s0 := hz.2.2.2.1
  have q11 : y6_3 = s2 := hz.2.2.2.2.1
  have q12 : y6_4 = s3 := hz.2.2.2.2.2
  clear hz
  have e13 : s0 = y6_1 := q10.symm
  subst e13
  have e14 : s2 = y6_3 := q11.symm
  subst e14
  have e15 : s3 = y6_4 := q12.symm
  subst e15
  have g16 := zz_rg y6_0
  have g17 := zz_rg y6_2
  show zz_q3 True (s2) (s3) s0.toInt p1.toInt y6_0.toInt ∧ -1 ≤ y6_0.toInt ∧ y6_0.toInt ≤ 14 ∧ s0 = s0 ∧ s2 = s2 ∧ s3 = s3
  exact ⟨q7, q8, q9, rfl, rfl, rfl⟩
set_option maxHeartbeats 4000000 in
theorem wf_X10_greatestFit_L4 (K : Nat) (hK : 1099511627776 ≤ K) (T : Nat) (hT : T ≤ 900) (n0 : Nat) (n1 : Nat) : ∀ (k : Nat) (x1 : Int32) (x2 : Int32) (x3 : Int32) (s0 : Int32) (s1 : Int32) (s2 : Nat → Int32) (s3 : Nat → Int32), n0 = 14 → n1 = 14 → zz_row 14 (rwW T) (s2) → zz_row 14 (rwW T) (s3) → 0 ≤ s0.toInt → s0.toInt ≤ 14 → 1 ≤ x1.toInt → -1 ≤ x2.toInt → x2.toInt < x3.toInt → 0 ≤ x3.toInt → x3.toInt ≤ s0.toInt → zz_bk9 False x1.toInt (s3) x2.toInt x3.toInt → 15 - x3.toInt < (k : Int) → zz_ok (m_X10_greatestFit_L4 K n0 n1 k x1 x2 x3 s0 s1 s2 s3) (fun z => zz_q3 False (s2) (s3) s0.toInt x1.toInt z.1.toInt ∧ -1 ≤ z.1.toInt ∧ z.1.toInt ≤ 14 ∧ z.2.1 = s0 ∧ z.2.2.2.1 = s2 ∧ z.2.2.2.2 = s3) := by
  intro k
  induction k with
  | zero =>
    intro x1 x2 x3 s0 s1 s2 s3 a0 a1 a2 a3 a4 a5 a6 a7 a8 a9 a10 a11 hz9
    exfalso
    have g_x1 := zz_rg x1
    have g_x2 := zz_rg x2
    have g_x3 := zz_rg x3
    have g_s0 := zz_rg s0
    have g_s1 := zz_rg s1
    omega
  | succ k ih =>
    intro x1 x2 x3 s0 s1 s2 s3 a0 a1 a2 a3 a4 a5 a6 a7 a8 a9 a10 a11 hz9
    rw [m_X10_greatestFit_L4_s]
    have g1 := zz_rg x1
    have g2 := zz_rg x2
    have g3 := zz_rg x3
    have g4 := zz_rg s0
    have g5 := zz_rg s1
    refine zz_ok_ite (fun c6 => ?_) (fun c6 => ?_)
    · have c6 := Int32.le_iff_toInt_le.mp c6
      refine zz_ok_bind (wf_X10_placeOf K hK T hT n0 n1 x2 s0 s0 s2 s3 a0 a1 a2 a3 a4 a5 a7 (by omega)) ?_
      intro z7 hz7
      obtain ⟨r_2, t_2_0, t_2_1, t_2_2, t_2_3⟩ := z7
      have q8 : zz_po (s2) x2.toInt r_2.toInt := hz7.1
      have q9 : -1 ≤ r_2.toInt := hz7.2.1
      have q10 : r_2.toInt ≤ 14 := hz7.2.2.1
      have q11 : t_2_0 = s0 := hz7.2.2.2.1
      have q12 : t_2_1 = s0 := hz7.2.2.2.2.1
      have q13 : t_2_2 = s2 := hz7.2.2.2.2.2.1
      have q14 : t_2_3 = s3 := hz7.2.2.2.2.2.2
      clear hz7
      have e15 : s0 = t_2_0 := q11.symm
      subst e15
      have e16 : s0 = t_2_1 := q12.symm
      subst e16
      have e17 : s2 = t_2_2 := q13.symm
      subst e17
      have e18 : s3 = t_2_3 := q14.symm
      subst e18
      have g19 := zz_rg r_2
      show zz_ok (some (r_2, s0, s0, s2, s3)) _
      refine zz_ok_some ?_
      show zz_q3 False (s2) (s3) s0.toInt x1.toInt r_2.toInt ∧ -1 ≤ r_2.toInt ∧ r_2.toInt ≤ 14 ∧ s0 = s0 ∧ s2 = s2 ∧ s3 = s3
      exact ⟨(by exact zz_q3_end (by assumption) (by assumption) (by omega) (by omega) (by omega)), q9, q10, rfl, rfl, rfl⟩
    · have c6 := zz_nle c6
      refine zz_ok_chk (zz_ix (by omega) (by omega)) ?_
      have g20 := zz_tnI x3 (by omega)
      have g22 : 0 ≤ (s3 x3.toNatClampNeg).toInt ∧ (s3 x3.toNatClampNeg).toInt ≤ 14 := a3 x3.toNatClampNeg (zz_ltN (by omega) (by omega))
      have g23 := zz_rg (s3 x3.toNatClampNeg)
      refine zz_ok_ite (fun c21 => ?_) (fun c21 => ?_)
      · have c21 := Int32.lt_iff_toInt_lt.mp c21
        have l24 : (1 : Int32).toInt = 1 := rfl
        obtain ⟨k25, f26⟩ := zz_add x3 (1 : Int32)
        have g27 := zz_rg (x3 + 1)
        refine (ih x1 x2 (x3 + 1) s0 s1 s2 s3 a0 a1 a2 a3 a4 a5 a6 a7 (by omega) (by omega) (by omega) (by first | exact zz_bk9_stay (k := x3.toNatClampNeg) (by assumption) (by omega) (by omega) (by first | exact Or.inl (by omega) | exact Or.inr ⟨by omega, Or.inr ⟨not_false, by omega⟩⟩) | exact zz_bk9_best (k := x3.toNatClampNeg) (by assumption) (by omega) (by omega) (by omega) (by first | exact Or.inl (by omega) | exact Or.inr (Or.inr ⟨not_false, by omega⟩)) rfl) (by omega)).mono (fun z hz => ?_)
        obtain ⟨y28_0, y28_1, y28_2, y28_3, y28_4⟩ := z
        have q29 : zz_q3 False (s2) (s3) s0.toInt x1.toInt y28_0.toInt := hz.1
        have q30 : -1 ≤ y28_0.toInt := hz.2.1
        have q31 : y28_0.toInt ≤ 14 := hz.2.2.1
        have q32 : y28_1 = s0 := hz.2.2.2.1
        have q33 : y28_3 = s2 := hz.2.2.2.2.1
        have q34 : y28_4 = s3 := hz.2.2.2.2.2
        clear hz
        have e35 : s0 = y28_1 := q32.symm
        subst e35
        have e36 : s2 = y28_3 := q33.symm
        subst e36
        have e37 : s3 = y28_4 := q34.symm
        subst e37
        have g38 := zz_rg y28_0
        have g39 := zz_rg y28_2
        show zz_q3 False (s2) (s3) s0.toInt x1.toInt y28_0.toInt ∧ -1 ≤ y28_0.toInt ∧ y28_0.toInt ≤ 14 ∧ s0 = s0 ∧ s2 = s2 ∧ s3 = s3
        exact ⟨q29, q30, q31, rfl, rfl, rfl⟩
      · have c21 := zz_nlt c21
        have l41 : (-1 : Int32).toInt = -1 := rfl
        refine zz_ok_ite (fun c40 => ?_) (fun c40 => ?_)
        · have c40 := congrArg Int32.toInt c40
          have l42 : (1 : Int32).toInt = 1 := rfl
          obtain ⟨k43, f44⟩ := zz_add x3 (1 : Int32)
          have g45 := zz_rg (x3 + 1)
          refine (ih x1 x3 (x3 + 1) s0 s1 s2 s3 a0 a1 a2 a3 a4 a5 a6 (by omega) (by omega) (by omega) (by omega) (by first | exact zz_bk9_stay (k := x3.toNatClampNeg) (by assumption) (by omega) (by omega) (by first | exact Or.inl (by omega) | exact Or.inr ⟨by omega, Or.inr ⟨not_false, by omega⟩⟩) | exact zz_bk9_best (k := x3.toNatClampNeg) (by assumption) (by omega) (by omega) (by omega) (by first | exact Or.inl (by omega) | exact Or.inr (Or.inr ⟨not_false, by omega⟩)) rfl) (by omega)).mono (fun z hz => ?_)
          obtain ⟨y46_0, y46_1, y46_2, y46_3, y46_4⟩ := z
          have q47 : zz_q3 False (s2) (s3) s0.toInt x1.toInt y46_0.toInt := hz.1
          have q48 : -1 ≤ y46_0.toInt := hz.2.1
          have q49 : y46_0.toInt ≤ 14 := hz.2.2.1
          have q50 : y46_1 = s0 := hz.2.2.2.1
          have q51 : y46_3 = s2 := hz.2.2.2.2.1
          have q52 : y46_4 = s3 := hz.2.2.2.2.2
          clear hz
          have e53 : s0 = y46_1 := q50.symm
          subst e53
          have e54 : s2 = y46_3 := q51.symm
          subst e54
          have e55 : s3 = y46_4 := q52.symm
          subst e55
          have g56 := zz_rg y46_0
          have g57 := zz_rg y46_2
          show zz_q3 False (s2) (s3) s0.toInt x1.toInt y46_0.toInt ∧ -1 ≤ y46_0.toInt ∧ y46_0.toInt ≤ 14 ∧ s0 = s0 ∧ s2 = s2 ∧ s3 = s3
          exact ⟨q47, q48, q49, rfl, rfl, rfl⟩
        · have c40 := zz_neq c40
          refine zz_ok_chk (zz_ix (by omega) (by omega)) ?_
          refine zz_ok_chk (zz_ix (by omega) (by omega)) ?_
          have g58 := zz_tnI x2 (by omega)
          have g60 : 0 ≤ (s3 x2.toNatClampNeg).toInt ∧ (s3 x2.toNatClampNeg).toInt ≤ 14 := a3 x2.toNatClampNeg (zz_ltN (by omega) (by omega))
          have g61 := zz_rg (s3 x2.toNatClampNeg)
          refine zz_ok_ite (fun c59 => ?_) (fun c59 => ?_)
          · have c59 := Int32.le_iff_toInt_le.mp c59
            have l62 : (1 : Int32).toInt = 1 := rfl
            obtain ⟨k63, f64⟩ := zz_add x3 (1 : Int32)
            have g65 := zz_rg (x3 + 1)
            refine (ih x1 x2 (x3 + 1) s0 s1 s2 s3 a0 a1 a2 a3 a4 a5 a6 a7 (by omega) (by omega) (by omega) (by first | exact zz_bk9_stay (k := x3.toNatClampNeg) (by assumption) (by omega) (by omega) (by first | exact Or.inl (by omega) | exact Or.inr ⟨by omega, Or.inr ⟨not_false, by omega⟩⟩) | exact zz_bk9_best (k := x3.toNatClampNeg) (by assumption) (by omega) (by omega) (by omega) (by first | exact Or.inl (by omega) | exact Or.inr (Or.inr ⟨not_false, by omega⟩)) rfl) (by omega)).mono (fun z hz => ?_)
            obtain ⟨y66_0, y66_1, y66_2, y66_3, y66_4⟩ := z
            have q67 : zz_q3 False (s2) (s3) s0.toInt x1.toInt y66_0.toInt := hz.1
            have q68 : -1 ≤ y66_0.toInt := hz.2.1
            have q69 : y66_0.toInt ≤ 14 := hz.2.2.1
            have q70 : y66_1 = s0 := hz.2.2.2.1
            have q71 : y66_3 = s2 := hz.2.2.2.2.1
            have q72 : y66_4 = s3 := hz.2.2.2.2.2
            clear hz
            have e73 : s0 = y66_1 := q70.symm
            subst e73
            have e74 : s2 = y66_3 := q71.symm
            subst e74
            have e75 : s3 = y66_4 := q72.symm
            subst e75
            have g76 := zz_rg y66_0
            have g77 := zz_rg y66_2
            show zz_q3 False (s2) (s3) s0.toInt x1.toInt y66_0.toInt ∧ -1 ≤ y66_0.toInt ∧ y66_0.toInt ≤ 14 ∧ s0 = s0 ∧ s2 = s2 ∧ s3 = s3
            exact ⟨q67, q68, q69, rfl, rfl, rfl⟩
          · have c59 := zz_nle c59
            have l78 : (1 : Int32).toInt = 1 := rfl
            obtain ⟨k79, f80⟩ := zz_add x3 (1 : Int32)
            have g81 := zz_rg (x3 + 1)
            refine (ih x1 x3 (x3 + 1) s0 s1 s2 s3 a0 a1 a2 a3 a4 a5 a6 (by omega) (by omega) (by omega) (by omega) (by first | exact zz_bk9_stay (k := x3.toNatClampNeg) (by assumption) (by omega) (by omega) (by first | exact Or.inl (by omega) | exact Or.inr ⟨by omega, Or.inr ⟨not_false, by omega⟩⟩) | exact zz_bk9_best (k := x3.toNatClampNeg) (by assumption) (by omega) (by omega) (by omega) (by first | exact Or.inl (by omega) | exact Or.inr (Or.inr ⟨not_false, by omega⟩)) rfl) (by omega)).mono (fun z hz => ?_)
            obtain ⟨y82_0, y82_1, y82_2, y82_3, y82_4⟩ := z
            have q83 : zz_q3 False (s2) (s3) s0.toInt x1.toInt y82_0.toInt := hz.1
            have q84 : -1 ≤ y82_0.toInt := hz.2.1
            have q85 : y82_0.toInt ≤ 14 := hz.2.2.1
            have q86 : y82_1 = s0 := hz.2.2.2.1
            have q87 : y82_3 = s2 := hz.2.2.2.2.1
            have q88 : y82_4 = s3 := hz.2.2.2.2.2
            clear hz
            have e89 : s0 = y82_1 := q86.symm
            subst e89
            have e90 : s2 = y82_3 := q87.symm
            subst e90
            have e91 : s3 = y82_4 := q88.symm
            subst e91
            have g92 := zz_rg y82_0
            have g93 := zz_rg y82_2
            show zz_q3 False (s2) (s3) s0.toInt x1.toInt y82_0.toInt ∧ -1 ≤ y82_0.toInt ∧ y82_0.toInt ≤ 14 ∧ s0 = s0 ∧ s2 = s2 ∧ s3 = s3
            exact ⟨q83, q84, q85, rfl, rfl, rfl⟩
set_option maxHeartbeats 4000000 in
theorem wf_X10_greatestFit (K : Nat) (hK : 1099511627776 ≤ K) (T : Nat) (hT : T ≤ 900) (n0 : Nat) (n1 : Nat) (p1 : Int32) (s0 : Int32) (s1 : Int32) (s2 : Nat → Int32) (s3 : Nat → Int32) (a0 : n0 = 14) (a1 : n1 = 14) (a2 : zz_row 14 (rwW T) (s2)) (a3 : zz_row 14 (rwW T) (s3)) (a4 : 0 ≤ s0.toInt) (a5 : s0.toInt ≤ 14) (a6 : 1 ≤ p1.toInt) : zz_ok (m_X10_greatestFit K n0 n1 p1 s0 s1 s2 s3) (fun z => zz_q3 False (s2) (s3) s0.toInt p1.toInt z.1.toInt ∧ -1 ≤ z.1.toInt ∧ z.1.toInt ≤ 14 ∧ z.2.1 = s0 ∧ z.2.2.2.1 = s2 ∧ z.2.2.2.2 = s3) := by
  have g1 := zz_rg p1
  have g2 := zz_rg s0
  have g3 := zz_rg s1
  unfold m_X10_greatestFit
  have l4 : (-1 : Int32).toInt = -1 := rfl
  have l5 : (0 : Int32).toInt = 0 := rfl
  refine (wf_X10_greatestFit_L4 K hK T hT n0 n1 K p1 ((-1 : Int32)) ((0 : Int32)) s0 s1 s2 s3 a0 a1 a2 a3 a4 a5 a6 (by omega) (by omega) (by omega) (by omega) (by exact zz_bk9_0 (by decide) (by omega)) (by omega)).mono (fun z hz => ?_)
  obtain ⟨y6_0, y6_1, y6_2, y6_3, y6_4⟩ := z
  have q7 : zz_q3 False (s2) (s3) s0.toInt p1.toInt y6_0.toInt := hz.1
  have q8 : -1 ≤ y6_0.toInt := hz.2.1
  have q9 : y6_0.toInt ≤ 14 := hz.2.2.1
  have q10 : y6_1 = s0 := hz.2.2.2.1
  have q11 : y6_3 = s2 := hz.2.2.2.2.1
  have q12 : y6_4 = s3 := hz.2.2.2.2.2
  clear hz
  have e13 : s0 = y6_1 := q10.symm
  subst e13
  have e14 : s2 = y6_3 := q11.symm
  subst e14
  have e15 : s3 = y6_4 := q12.symm
  subst e15
  have g16 := zz_rg y6_0
  have g17 := zz_rg y6_2
  show zz_q3 False (s2) (s3) s0.toInt p1.toInt y6_0.toInt ∧ -1 ≤ y6_0.toInt ∧ y6_0.toInt ≤ 14 ∧ s0 = s0 ∧ s2 = s2 ∧ s3 = s3
  exact ⟨q7, q8, q9, rfl, rfl, rfl⟩
set_option maxHeartbeats 4000000 in
theorem wf_X10_find (K : Nat) (hK : 1099511627776 ≤ K) (T : Nat) (hT : T ≤ 900) (n0 : Nat) (n1 : Nat) (p1 : Int32) (p2 : Int32) (p3 : Int32) (s0 : Int32) (s1 : Int32) (s2 : Nat → Int32) (s3 : Nat → Int32) (a0 : n0 = 14) (a1 : n1 = 14) (a2 : zz_row 14 (rwW T) (s2)) (a3 : zz_row 14 (rwW T) (s3)) (a4 : 0 ≤ s0.toInt) (a5 : s0.toInt ≤ 14) (a6 : 0 ≤ p1.toInt) (a7 : p1.toInt ≤ 3) (a8 : 1 ≤ p2.toInt) (a9 : p2.toInt ≤ 14) (a10 : 0 ≤ p3.toInt) (a11 : p3.toInt ≤ 15) : zz_ok (m_X10_find K n0 n1 p1 p2 p3 s0 s1 s2 s3) (fun z => zz_q p1.toInt (s2) (s3) s0.toInt p3.toInt p2.toInt z.1.toInt ∧ -1 ≤ z.1.toInt ∧ z.1.toInt ≤ 15 ∧ z.2.1 = s0 ∧ z.2.2.2.1 = s2 ∧ z.2.2.2.2 = s3) := by
  have g1 := zz_rg p1
  have g2 := zz_rg p2
  have g3 := zz_rg p3
  have g4 := zz_rg s0
  have g5 := zz_rg s1
  unfold m_X10_find
  have l7 : (1 : Int32).toInt = 1 := rfl
  refine zz_ok_ite (fun c6 => ?_) (fun c6 => ?_)
  · have c6 := congrArg Int32.toInt c6
    have l8 : (0 : Int32).toInt = 0 := rfl
    refine zz_ok_bind (wf_X10_nextFit K hK T hT n0 n1 p2 p3 s0 ((0 : Int32)) s2 s3 a0 a1 a2 a3 a4 a5 a8 a9 a10 a11) ?_
    intro z9 hz9
    obtain ⟨r_2, t_2_0, t_2_1, t_2_2, t_2_3⟩ := z9
    have q10 : zz_q1 (s2) (s3) s0.toInt p2.toInt p3.toInt r_2.toInt := hz9.1
    have q11 : -1 ≤ r_2.toInt := hz9.2.1
    have q12 : r_2.toInt ≤ 15 := hz9.2.2.1
    have q13 : t_2_0 = s0 := hz9.2.2.2.1
    have q14 : t_2_2 = s2 := hz9.2.2.2.2.1
    have q15 : t_2_3 = s3 := hz9.2.2.2.2.2
    clear hz9
    have e16 : s0 = t_2_0 := q13.symm
    subst e16
    have e17 : s2 = t_2_2 := q14.symm
    subst e17
    have e18 : s3 = t_2_3 := q15.symm
    subst e18
    have g19 := zz_rg r_2
    have g20 := zz_rg t_2_1
    show zz_ok (some (r_2, s0, t_2_1, s2, s3)) _
    refine zz_ok_some ?_
    show zz_q p1.toInt (s2) (s3) s0.toInt p3.toInt p2.toInt r_2.toInt ∧ -1 ≤ r_2.toInt ∧ r_2.toInt ≤ 15 ∧ s0 = s0 ∧ s2 = s2 ∧ s3 = s3
    exact ⟨(by first | exact zz_q_1 (by assumption) (by omega) | exact zz_q_2 (by assumption) (by omega) | exact zz_q_3 (by assumption) (by omega) | exact zz_q_0 (by assumption) (by omega)), q11, q12, rfl, rfl, rfl⟩
  · have c6 := zz_neq c6
    have l22 : (2 : Int32).toInt = 2 := rfl
    refine zz_ok_ite (fun c21 => ?_) (fun c21 => ?_)
    · have c21 := congrArg Int32.toInt c21
      have l23 : (0 : Int32).toInt = 0 := rfl
      refine zz_ok_bind (wf_X10_bestFit K hK T hT n0 n1 p2 s0 ((0 : Int32)) s2 s3 a0 a1 a2 a3 a4 a5 a8) ?_
      intro z24 hz24
      obtain ⟨r_4, t_4_0, t_4_1, t_4_2, t_4_3⟩ := z24
      have q25 : zz_q3 True (s2) (s3) s0.toInt p2.toInt r_4.toInt := hz24.1
      have q26 : -1 ≤ r_4.toInt := hz24.2.1
      have q27 : r_4.toInt ≤ 14 := hz24.2.2.1
      have q28 : t_4_0 = s0 := hz24.2.2.2.1
      have q29 : t_4_2 = s2 := hz24.2.2.2.2.1
      have q30 : t_4_3 = s3 := hz24.2.2.2.2.2
      clear hz24
      have e31 : s0 = t_4_0 := q28.symm
      subst e31
      have e32 : s2 = t_4_2 := q29.symm
      subst e32
      have e33 : s3 = t_4_3 := q30.symm
      subst e33
      have g34 := zz_rg r_4
      have g35 := zz_rg t_4_1
      show zz_ok (some (r_4, s0, t_4_1, s2, s3)) _
      refine zz_ok_some ?_
      show zz_q p1.toInt (s2) (s3) s0.toInt p3.toInt p2.toInt r_4.toInt ∧ -1 ≤ r_4.toInt ∧ r_4.toInt ≤ 15 ∧ s0 = s0 ∧ s2 = s2 ∧ s3 = s3
      exact ⟨(by first | exact zz_q_1 (by assumption) (by omega) | exact zz_q_2 (by assumption) (by omega) | exact zz_q_3 (by assumption) (by omega) | exact zz_q_0 (by assumption) (by omega)), q26, (by omega), rfl, rfl, rfl⟩
    · have c21 := zz_neq c21
      have l37 : (3 : Int32).toInt = 3 := rfl
      refine zz_ok_ite (fun c36 => ?_) (fun c36 => ?_)
      · have c36 := congrArg Int32.toInt c36
        have l38 : (0 : Int32).toInt = 0 := rfl
        refine zz_ok_bind (wf_X10_greatestFit K hK T hT n0 n1 p2 s0 ((0 : Int32)) s2 s3 a0 a1 a2 a3 a4 a5 a8) ?_
        intro z39 hz39
        obtain ⟨r_6, t_6_0, t_6_1, t_6_2, t_6_3⟩ := z39
        have q40 : zz_q3 False (s2) (s3) s0.toInt p2.toInt r_6.toInt := hz39.1
        have q41 : -1 ≤ r_6.toInt := hz39.2.1
        have q42 : r_6.toInt ≤ 14 := hz39.2.2.1
        have q43 : t_6_0 = s0 := hz39.2.2.2.1
        have q44 : t_6_2 = s2 := hz39.2.2.2.2.1
        have q45 : t_6_3 = s3 := hz39.2.2.2.2.2
        clear hz39
        have e46 : s0 = t_6_0 := q43.symm
        subst e46
        have e47 : s2 = t_6_2 := q44.symm
        subst e47
        have e48 : s3 = t_6_3 := q45.symm
        subst e48
        have g49 := zz_rg r_6
        have g50 := zz_rg t_6_1
        show zz_ok (some (r_6, s0, t_6_1, s2, s3)) _
        refine zz_ok_some ?_
        show zz_q p1.toInt (s2) (s3) s0.toInt p3.toInt p2.toInt r_6.toInt ∧ -1 ≤ r_6.toInt ∧ r_6.toInt ≤ 15 ∧ s0 = s0 ∧ s2 = s2 ∧ s3 = s3
        exact ⟨(by first | exact zz_q_1 (by assumption) (by omega) | exact zz_q_2 (by assumption) (by omega) | exact zz_q_3 (by assumption) (by omega) | exact zz_q_0 (by assumption) (by omega)), q41, (by omega), rfl, rfl, rfl⟩
      · have c36 := zz_neq c36
        have l51 : (0 : Int32).toInt = 0 := rfl
        refine zz_ok_bind (wf_X10_firstFit K hK T hT n0 n1 p2 s0 ((0 : Int32)) s2 s3 a0 a1 a2 a3 a4 a5 a8) ?_
        intro z52 hz52
        obtain ⟨r_7, t_7_0, t_7_1, t_7_2, t_7_3⟩ := z52
        have q53 : zz_q0 (s2) (s3) s0.toInt p2.toInt r_7.toInt := hz52.1
        have q54 : -1 ≤ r_7.toInt := hz52.2.1
        have q55 : r_7.toInt ≤ 14 := hz52.2.2.1
        have q56 : t_7_0 = s0 := hz52.2.2.2.1
        have q57 : t_7_2 = s2 := hz52.2.2.2.2.1
        have q58 : t_7_3 = s3 := hz52.2.2.2.2.2
        clear hz52
        have e59 : s0 = t_7_0 := q56.symm
        subst e59
        have e60 : s2 = t_7_2 := q57.symm
        subst e60
        have e61 : s3 = t_7_3 := q58.symm
        subst e61
        have g62 := zz_rg r_7
        have g63 := zz_rg t_7_1
        show zz_ok (some (r_7, s0, t_7_1, s2, s3)) _
        refine zz_ok_some ?_
        show zz_q p1.toInt (s2) (s3) s0.toInt p3.toInt p2.toInt r_7.toInt ∧ -1 ≤ r_7.toInt ∧ r_7.toInt ≤ 15 ∧ s0 = s0 ∧ s2 = s2 ∧ s3 = s3
        exact ⟨(by first | exact zz_q_1 (by assumption) (by omega) | exact zz_q_2 (by assumption) (by omega) | exact zz_q_3 (by assumption) (by omega) | exact zz_q_0 (by assumption) (by omega)), q54, (by omega), rfl, rfl, rfl⟩

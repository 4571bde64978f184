set_option maxHeartbeats 4000000 in
theorem gg_X6_begin (K : Nat) (hK : 1099511627776 ≤ K) (T : Nat) (hT : T ≤ 900) (n0 : Nat) (n1 : Nat) (n2 : Nat) (n3 : Nat) (n4 : Nat) (n5 : Nat) (n6 : Nat) (n7 : Nat) (n8 : Nat) (s0 : Int32) (s1 : Int32) (s2 : Int32) (s3 : Int32) (s4 : Nat → Int32) (s5 : Nat → Int32) (s6 : Nat → Int32) (s7 : Nat → Int32) (s8 : Nat → Int32) (s9 : Int32) (s10 : Int32) (s11 : Nat → Int32) (s12 : Nat → Int32) (s13 : Int32) (s14 : Int32) (s15 : Nat → Int32) (s16 : Nat → Int32) : zz_ok (m_X6_begin K n0 n1 n2 n3 n4 n5 n6 n7 n8 s0 s1 s2 s3 s4 s5 s6 s7 s8 s9 s10 s11 s12 s13 s14 s15 s16) (fun z => z.2.2.2.2.2.2.2.2.2.2.2.2.2.1.toInt = 0 ∧ z.1 = s0 ∧ z.2.1 = s1 ∧ z.2.2.1 = s2 ∧ z.2.2.2.1 = s3 ∧ z.2.2.2.2.1 = s4 ∧ z.2.2.2.2.2.1 = s5 ∧ z.2.2.2.2.2.2.1 = s6 ∧ z.2.2.2.2.2.2.2.1 = s7 ∧ z.2.2.2.2.2.2.2.2.1 = s8 ∧ z.2.2.2.2.2.2.2.2.2.1 = s9 ∧ z.2.2.2.2.2.2.2.2.2.2.1 = s10 ∧ z.2.2.2.2.2.2.2.2.2.2.2.1 = s11 ∧ z.2.2.2.2.2.2.2.2.2.2.2.2.1 = s12 ∧ z.2.2.2.2.2.2.2.2.2.2.2.2.2.2.1 = s14 ∧ z.2.2.2.2.2.2.2.2.2.2.2.2.2.2.2.1 = s15 ∧ z.2.2.2.2.2.2.2.2.2.2.2.2.2.2.2.2 = s16) := by
  have g1 := zz_rg s0
  have g2 := zz_rg s1
  have g3 := zz_rg s2
  have g4 := zz_rg s3
  have g5 := zz_rg s9
  have g6 := zz_rg s10
  have g7 := zz_rg s13
  have g8 := zz_rg s14
  unfold m_X6_begin
  refine zz_ok_bind (ff_X10_clear K hK T hT n7 n8 s13 s14 s15 s16) ?_
  intro z9 hz9
  obtain ⟨t_1_0, t_1_1, t_1_2, t_1_3⟩ := z9
  have q10 : t_1_0.toInt = 0 := hz9.1
  have q11 : t_1_1 = s14 := hz9.2.1
  have q12 : t_1_2 = s15 := hz9.2.2.1
  have q13 : t_1_3 = s16 := hz9.2.2.2
  clear hz9
  have e14 : s14 = t_1_1 := q11.symm
  subst e14
  have e15 : s15 = t_1_2 := q12.symm
  subst e15
  have e16 : s16 = t_1_3 := q13.symm
  subst e16
  have g17 := zz_rg t_1_0
  show zz_ok (some (s0, s1, s2, s3, s4, s5, s6, s7, s8, s9, s10, s11, s12, t_1_0, s14, s15, s16)) _
  refine zz_ok_some ?_
  show t_1_0.toInt = 0 ∧ s0 = s0 ∧ s1 = s1 ∧ s2 = s2 ∧ s3 = s3 ∧ s4 = s4 ∧ s5 = s5 ∧ s6 = s6 ∧ s7 = s7 ∧ s8 = s8 ∧ s9 = s9 ∧ s10 = s10 ∧ s11 = s11 ∧ s12 = s12 ∧ s14 = s14 ∧ s15 = s15 ∧ s16 = s16
  exact ⟨q10, rfl, rfl, rfl, rfl, rfl, rfl, rfl, rfl, rfl, rfl, rfl, rfl, rfl, rfl, rfl, rfl⟩
set_option maxHeartbeats 4000000 in
theorem gg_X6_quickOnes (K : Nat) (hK : 1099511627776 ≤ K) (T : Nat) (hT : T ≤ 900) (n0 : Nat) (n1 : Nat) (n2 : Nat) (n3 : Nat) (n4 : Nat) (n5 : Nat) (n6 : Nat) (n7 : Nat) (n8 : Nat) (s0 : Int32) (s1 : Int32) (s2 : Int32) (s3 : Int32) (s4 : Nat → Int32) (s5 : Nat → Int32) (s6 : Nat → Int32) (s7 : Nat → Int32) (s8 : Nat → Int32) (s9 : Int32) (s10 : Int32) (s11 : Nat → Int32) (s12 : Nat → Int32) (s13 : Int32) (s14 : Int32) (s15 : Nat → Int32) (s16 : Nat → Int32) : zz_ok (m_X6_quickOnes K n0 n1 n2 n3 n4 n5 n6 n7 n8 s0 s1 s2 s3 s4 s5 s6 s7 s8 s9 s10 s11 s12 s13 s14 s15 s16) (fun z => z.1 = s13 ∧ z.2.1 = s0 ∧ z.2.2.1 = s1 ∧ z.2.2.2.1 = s2 ∧ z.2.2.2.2.1 = s3 ∧ z.2.2.2.2.2.1 = s4 ∧ z.2.2.2.2.2.2.1 = s5 ∧ z.2.2.2.2.2.2.2.1 = s6 ∧ z.2.2.2.2.2.2.2.2.1 = s7 ∧ z.2.2.2.2.2.2.2.2.2.1 = s8 ∧ z.2.2.2.2.2.2.2.2.2.2.1 = s9 ∧ z.2.2.2.2.2.2.2.2.2.2.2.1 = s10 ∧ z.2.2.2.2.2.2.2.2.2.2.2.2.1 = s11 ∧ z.2.2.2.2.2.2.2.2.2.2.2.2.2.1 = s12 ∧ z.2.2.2.2.2.2.2.2.2.2.2.2.2.2.1 = s13 ∧ z.2.2.2.2.2.2.2.2.2.2.2.2.2.2.2.1 = s14 ∧ z.2.2.2.2.2.2.2.2.2.2.2.2.2.2.2.2.1 = s15 ∧ z.2.2.2.2.2.2.2.2.2.2.2.2.2.2.2.2.2 = s16) := by
  have g1 := zz_rg s0
  have g2 := zz_rg s1
  have g3 := zz_rg s2
  have g4 := zz_rg s3
  have g5 := zz_rg s9
  have g6 := zz_rg s10
  have g7 := zz_rg s13
  have g8 := zz_rg s14
  unfold m_X6_quickOnes
  refine zz_ok_bind (ff_X10_size K hK T hT n7 n8 s13 s14 s15 s16) ?_
  intro z9 hz9
  obtain ⟨r_1, t_1_0, t_1_1, t_1_2, t_1_3⟩ := z9
  have q10 : r_1 = s13 := hz9.1
  have q11 : t_1_0 = s13 := hz9.2.1
  have q12 : t_1_1 = s14 := hz9.2.2.1
  have q13 : t_1_2 = s15 := hz9.2.2.2.1
  have q14 : t_1_3 = s16 := hz9.2.2.2.2
  clear hz9
  have e15 : s13 = r_1 := q10.symm
  subst e15
  have e16 : s13 = t_1_0 := q11.symm
  subst e16
  have e17 : s14 = t_1_1 := q12.symm
  subst e17
  have e18 : s15 = t_1_2 := q13.symm
  subst e18
  have e19 : s16 = t_1_3 := q14.symm
  subst e19
  show zz_ok (some (s13, s0, s1, s2, s3, s4, s5, s6, s7, s8, s9, s10, s11, s12, s13, s14, s15, s16)) _
  refine zz_ok_some ?_
  show s13 = s13 ∧ s0 = s0 ∧ s1 = s1 ∧ s2 = s2 ∧ s3 = s3 ∧ s4 = s4 ∧ s5 = s5 ∧ s6 = s6 ∧ s7 = s7 ∧ s8 = s8 ∧ s9 = s9 ∧ s10 = s10 ∧ s11 = s11 ∧ s12 = s12 ∧ s13 = s13 ∧ s14 = s14 ∧ s15 = s15 ∧ s16 = s16
  exact ⟨rfl, rfl, rfl, rfl, rfl, rfl, rfl, rfl, rfl, rfl, rfl, rfl, rfl, rfl, rfl, rfl, rfl, rfl⟩
set_option maxHeartbeats 4000000 in
theorem gg_X6_takeQuick_L10 (K : Nat) (hK : 1099511627776 ≤ K) (T : Nat) (hT : T ≤ 900) (n0 : Nat) (n1 : Nat) (n2 : Nat) (n3 : Nat) (n4 : Nat) (n5 : Nat) (n6 : Nat) (n7 : Nat) (n8 : Nat) : ∀ (k : Nat) (x1 : Int32) (x2 : Int32) (s0 : Int32) (s1 : Int32) (s2 : Int32) (s3 : Int32) (s4 : Nat → Int32) (s5 : Nat → Int32) (s6 : Nat → Int32) (s7 : Nat → Int32) (s8 : Nat → Int32) (s9 : Int32) (s10 : Int32) (s11 : Nat → Int32) (s12 : Nat → Int32) (s13 : Int32) (s14 : Int32) (s15 : Nat → Int32) (s16 : Nat → Int32), n0 = 1024 → n1 = 200 → n2 = 200 → n3 = 200 → n4 = 200 → n5 = 512 → n6 = 512 → 0 ≤ s0.toInt → s0.toInt ≤ 1024 → n7 = 1024 → n8 = 1024 → 0 ≤ s13.toInt → s13.toInt ≤ 1024 → zz_vs s0.toInt (s15) (s16) s13.toInt → -1 ≤ x2.toInt → x2.toInt < s13.toInt → 1 ≤ x1.toInt → x2.toInt + 1 < (k : Int) → zz_ok (m_X6_takeQuick_L10 K n0 n1 n2 n3 n4 n5 n6 n7 n8 k x1 x2 s0 s1 s2 s3 s4 s5 s6 s7 s8 s9 s10 s11 s12 s13 s14 s15 s16) (fun z => zz_tq (s15) (s16) s13.toInt (z.2.2.2.2.2.2.2.2.2.2.2.2.2.2.2.2.1) (z.2.2.2.2.2.2.2.2.2.2.2.2.2.2.2.2.2) z.2.2.2.2.2.2.2.2.2.2.2.2.2.2.1.toInt x1.toInt x2.toInt z.1.toInt ∧ zz_vs s0.toInt (z.2.2.2.2.2.2.2.2.2.2.2.2.2.2.2.2.1) (z.2.2.2.2.2.2.2.2.2.2.2.2.2.2.2.2.2) z.2.2.2.2.2.2.2.2.2.2.2.2.2.2.1.toInt ∧ 0 ≤ z.2.2.2.2.2.2.2.2.2.2.2.2.2.2.1.toInt ∧ z.2.2.2.2.2.2.2.2.2.2.2.2.2.2.1.toInt ≤ s13.toInt ∧ -1 ≤ z.1.toInt ∧ (z.1.toInt = -1 ∨ z.1.toInt + x1.toInt ≤ s0.toInt) ∧ z.2.1 = s0 ∧ z.2.2.1 = s1 ∧ z.2.2.2.1 = s2 ∧ z.2.2.2.2.1 = s3 ∧ z.2.2.2.2.2.1 = s4 ∧ z.2.2.2.2.2.2.1 = s5 ∧ z.2.2.2.2.2.2.2.1 = s6 ∧ z.2.2.2.2.2.2.2.2.1 = s7 ∧ z.2.2.2.2.2.2.2.2.2.1 = s8 ∧ z.2.2.2.2.2.2.2.2.2.2.1 = s9 ∧ z.2.2.2.2.2.2.2.2.2.2.2.1 = s10 ∧ z.2.2.2.2.2.2.2.2.2.2.2.2.1 = s11 ∧ z.2.2.2.2.2.2.2.2.2.2.2.2.2.1 = s12 ∧ z.2.2.2.2.2.2.2.2.2.2.2.2.2.2.2.1 = s14) := by
  intro k
  induction k with
  | zero =>
    intro x1 x2 s0 s1 s2 s3 s4 s5 s6 s7 s8 s9 s10 s11 s12 s13 s14 s15 s16 a0 a1 a2 a3 a4 a5 a6 a7 a8 a9 a10 a11 a12 a13 a14 a15 a16 hz9
    exfalso
    have g_x1 := zz_rg x1
    have g_x2 := zz_rg x2
    have g_s0 := zz_rg s0
    have g_s1 := zz_rg s1
    have g_s2 := zz_rg s2
    have g_s3 := zz_rg s3
    have g_s9 := zz_rg s9
    have g_s10 := zz_rg s10
    have g_s13 := zz_rg s13
    have g_s14 := zz_rg s14
    omega
  | succ k ih =>
    intro x1 x2 s0 s1 s2 s3 s4 s5 s6 s7 s8 s9 s10 s11 s12 s13 s14 s15 s16 a0 a1 a2 a3 a4 a5 a6 a7 a8 a9 a10 a11 a12 a13 a14 a15 a16 hz9
    rw [m_X6_takeQuick_L10_s]
    have g1 := zz_rg x1
    have g2 := zz_rg x2
    have g3 := zz_rg s0
    have g4 := zz_rg s1
    have g5 := zz_rg s2
    have g6 := zz_rg s3
    have g7 := zz_rg s9
    have g8 := zz_rg s10
    have g9 := zz_rg s13
    have g10 := zz_rg s14
    have tn9 := zz_tnO x2
    have l12 : (0 : Int32).toInt = 0 := rfl
    refine zz_ok_ite (fun c11 => ?_) (fun c11 => ?_)
    · have c11 := Int32.lt_iff_toInt_lt.mp c11
      have l13 : (-1 : Int32).toInt = -1 := rfl
      refine zz_ok_some ?_
      show zz_tq (s15) (s16) s13.toInt (s15) (s16) s13.toInt x1.toInt x2.toInt (-1 : Int32).toInt ∧ zz_vs s0.toInt (s15) (s16) s13.toInt ∧ 0 ≤ s13.toInt ∧ s13.toInt ≤ s13.toInt ∧ -1 ≤ (-1 : Int32).toInt ∧ ((-1 : Int32).toInt = -1 ∨ (-1 : Int32).toInt + x1.toInt ≤ s0.toInt) ∧ s0 = s0 ∧ s1 = s1 ∧ s2 = s2 ∧ s3 = s3 ∧ s4 = s4 ∧ s5 = s5 ∧ s6 = s6 ∧ s7 = s7 ∧ s8 = s8 ∧ s9 = s9 ∧ s10 = s10 ∧ s11 = s11 ∧ s12 = s12 ∧ s14 = s14
      exact ⟨(by first | exact zz_tq_no (by omega) (by first | omega | decide) rfl | exact zz_tq_hit (j := x2.toNatClampNeg) (by assumption) (by assumption) (by omega) (by omega) (by omega) (by omega) rfl (by omega) | exact zz_tq_skip (j := x2.toNatClampNeg) (by assumption) (by omega) (by omega) (by omega)), a13, a11, (by omega), (by omega), (by omega), rfl, rfl, rfl, rfl, rfl, rfl, rfl, rfl, rfl, rfl, rfl, rfl, rfl, rfl⟩
    · have c11 := zz_nlt c11
      refine zz_ok_bind (ff_X10_wordsOf K hK T hT n7 n8 x2 s13 s14 s15 s16 (by omega) (by omega) a11 (by omega) (by omega) a15) ?_
      intro z14 hz14
      obtain ⟨r_3, t_3_0, t_3_1, t_3_2, t_3_3⟩ := z14
      have q15 : r_3 = s16 x2.toNatClampNeg := hz14.1
      have q16 : t_3_0 = s13 := hz14.2.1
      have q17 : t_3_1 = s14 := hz14.2.2.1
      have q18 : t_3_2 = s15 := hz14.2.2.2.1
      have q19 : t_3_3 = s16 := hz14.2.2.2.2
      clear hz14
      have e20 : s16 x2.toNatClampNeg = r_3 := q15.symm
      subst e20
      have e21 : s13 = t_3_0 := q16.symm
      subst e21
      have e22 : s14 = t_3_1 := q17.symm
      subst e22
      have e23 : s15 = t_3_2 := q18.symm
      subst e23
      have e24 : s16 = t_3_3 := q19.symm
      subst e24
      have v9 := zz_vs_at (by assumption : zz_vs s0.toInt s15 s16 s13.toInt) x2 (by omega) (by omega)
      show zz_ok (if (s16 x2.toNatClampNeg) = x1 then ((m_X10_placeOf K n7 n8 x2 s13 s14 s15 s16).bind fun ⟨r_5, t_5_0, t_5_1, t_5_2, t_5_3⟩ => (m_X10_remove K n7 n8 x2 t_5_0 t_5_1 t_5_2 t_5_3).bind fun ⟨t_6_0, t_6_1, t_6_2, t_6_3⟩ => some (r_5, s0, s1, s2, s3, s4, s5, s6, s7, s8, s9, s10, s11, s12, t_6_0, t_6_1, t_6_2, t_6_3)) else (m_X6_takeQuick_L10 K n0 n1 n2 n3 n4 n5 n6 n7 n8 k x1 (x2 + (-1)) s0 s1 s2 s3 s4 s5 s6 s7 s8 s9 s10 s11 s12 s13 s14 s15 s16)) _
      have g26 := zz_rg (s16 x2.toNatClampNeg)
      refine zz_ok_ite (fun c25 => ?_) (fun c25 => ?_)
      · have c25 := congrArg Int32.toInt c25
        refine zz_ok_bind (ff_X10_placeOf K hK T hT n7 n8 x2 s13 s14 s15 s16 (by omega) (by omega) a11 (by omega) (by omega) a15) ?_
        intro z27 hz27
        obtain ⟨r_5, t_5_0, t_5_1, t_5_2, t_5_3⟩ := z27
        have q28 : r_5 = s15 x2.toNatClampNeg := hz27.1
        have q29 : t_5_0 = s13 := hz27.2.1
        have q30 : t_5_1 = s14 := hz27.2.2.1
        have q31 : t_5_2 = s15 := hz27.2.2.2.1
        have q32 : t_5_3 = s16 := hz27.2.2.2.2
        clear hz27
        have e33 : s15 x2.toNatClampNeg = r_5 := q28.symm
        subst e33
        have e34 : s13 = t_5_0 := q29.symm
        subst e34
        have e35 : s14 = t_5_1 := q30.symm
        subst e35
        have e36 : s15 = t_5_2 := q31.symm
        subst e36
        have e37 : s16 = t_5_3 := q32.symm
        subst e37
        show zz_ok ((m_X10_remove K n7 n8 x2 s13 s14 s15 s16).bind fun ⟨t_6_0, t_6_1, t_6_2, t_6_3⟩ => some ((s15 x2.toNatClampNeg), s0, s1, s2, s3, s4, s5, s6, s7, s8, s9, s10, s11, s12, t_6_0, t_6_1, t_6_2, t_6_3)) _
        refine zz_ok_bind (ff_X10_remove K hK T hT n7 n8 x2 s13 s14 s15 s16 (by omega) (by omega) a11 (by omega) (by omega) a15) ?_
        intro z38 hz38
        obtain ⟨t_6_0, t_6_1, t_6_2, t_6_3⟩ := z38
        have q39 : t_6_0.toInt = s13.toInt - 1 := hz38.1
        have q40 : zz_rmv (s15) (t_6_2) x2.toInt s13.toInt := hz38.2.1
        have q41 : zz_rmv (s16) (t_6_3) x2.toInt s13.toInt := hz38.2.2.1
        have q42 : t_6_1 = s14 := hz38.2.2.2
        clear hz38
        have e43 : s14 = t_6_1 := q42.symm
        subst e43
        have g44 := zz_rg t_6_0
        show zz_ok (some ((s15 x2.toNatClampNeg), s0, s1, s2, s3, s4, s5, s6, s7, s8, s9, s10, s11, s12, t_6_0, s14, t_6_2, t_6_3)) _
        have g45 := zz_rg (s15 x2.toNatClampNeg)
        refine zz_ok_some ?_
        show zz_tq (s15) (s16) s13.toInt (t_6_2) (t_6_3) t_6_0.toInt x1.toInt x2.toInt (s15 x2.toNatClampNeg).toInt ∧ zz_vs s0.toInt (t_6_2) (t_6_3) t_6_0.toInt ∧ 0 ≤ t_6_0.toInt ∧ t_6_0.toInt ≤ s13.toInt ∧ -1 ≤ (s15 x2.toNatClampNeg).toInt ∧ ((s15 x2.toNatClampNeg).toInt = -1 ∨ (s15 x2.toNatClampNeg).toInt + x1.toInt ≤ s0.toInt) ∧ s0 = s0 ∧ s1 = s1 ∧ s2 = s2 ∧ s3 = s3 ∧ s4 = s4 ∧ s5 = s5 ∧ s6 = s6 ∧ s7 = s7 ∧ s8 = s8 ∧ s9 = s9 ∧ s10 = s10 ∧ s11 = s11 ∧ s12 = s12 ∧ s14 = s14
        exact ⟨(by first | exact zz_tq_no (by omega) (by first | omega | decide) rfl | exact zz_tq_hit (j := x2.toNatClampNeg) (by assumption) (by assumption) (by omega) (by omega) (by omega) (by omega) rfl (by omega) | exact zz_tq_skip (j := x2.toNatClampNeg) (by assumption) (by omega) (by omega) (by omega)), (by first | assumption | exact zz_vs_rm (by assumption : zz_vs s0.toInt s15 s16 s13.toInt) (by assumption) (by assumption) (by omega) (by omega)), (by omega), (by omega), (by omega), (by omega), rfl, rfl, rfl, rfl, rfl, rfl, rfl, rfl, rfl, rfl, rfl, rfl, rfl, rfl⟩
      · have c25 := zz_neq c25
        obtain ⟨y46, e47⟩ : ∃ y : Int32, y = x2 + (-1) := ⟨_, rfl⟩
        obtain ⟨k48, f49⟩ := zz_dec e47
        rw [← e47]
        clear e47
        have g50 := zz_rg y46
        refine (ih x1 y46 s0 s1 s2 s3 s4 s5 s6 s7 s8 s9 s10 s11 s12 s13 s14 s15 s16 a0 a1 a2 a3 a4 a5 a6 a7 a8 a9 a10 a11 a12 a13 (by omega) (by omega) a16 (by omega)).mono (fun z hz => ?_)
        obtain ⟨y51_0, y51_1, y51_2, y51_3, y51_4, y51_5, y51_6, y51_7, y51_8, y51_9, y51_10, y51_11, y51_12, y51_13, y51_14, y51_15, y51_16, y51_17⟩ := z
        have q52 : zz_tq (s15) (s16) s13.toInt (y51_16) (y51_17) y51_14.toInt x1.toInt y46.toInt y51_0.toInt := hz.1
        have q53 : zz_vs s0.toInt (y51_16) (y51_17) y51_14.toInt := hz.2.1
        have q54 : 0 ≤ y51_14.toInt := hz.2.2.1
        have q55 : y51_14.toInt ≤ s13.toInt := hz.2.2.2.1
        have q56 : -1 ≤ y51_0.toInt := hz.2.2.2.2.1
        have q57 : (y51_0.toInt = -1 ∨ y51_0.toInt + x1.toInt ≤ s0.toInt) := hz.2.2.2.2.2.1
        have q58 : y51_1 = s0 := hz.2.2.2.2.2.2.1
        have q59 : y51_2 = s1 := hz.2.2.2.2.2.2.2.1
        have q60 : y51_3 = s2 := hz.2.2.2.2.2.2.2.2.1
        have q61 : y51_4 = s3 := hz.2.2.2.2.2.2.2.2.2.1
        have q62 : y51_5 = s4 := hz.2.2.2.2.2.2.2.2.2.2.1
        have q63 : y51_6 = s5 := hz.2.2.2.2.2.2.2.2.2.2.2.1
        have q64 : y51_7 = s6 := hz.2.2.2.2.2.2.2.2.2.2.2.2.1
        have q65 : y51_8 = s7 := hz.2.2.2.2.2.2.2.2.2.2.2.2.2.1
        have q66 : y51_9 = s8 := hz.2.2.2.2.2.2.2.2.2.2.2.2.2.2.1
        have q67 : y51_10 = s9 := hz.2.2.2.2.2.2.2.2.2.2.2.2.2.2.2.1
        have q68 : y51_11 = s10 := hz.2.2.2.2.2.2.2.2.2.2.2.2.2.2.2.2.1
        have q69 : y51_12 = s11 := hz.2.2.2.2.2.2.2.2.2.2.2.2.2.2.2.2.2.1
        have q70 : y51_13 = s12 := hz.2.2.2.2.2.2.2.2.2.2.2.2.2.2.2.2.2.2.1
        have q71 : y51_15 = s14 := hz.2.2.2.2.2.2.2.2.2.2.2.2.2.2.2.2.2.2.2
        clear hz
        have e72 : s0 = y51_1 := q58.symm
        subst e72
        have e73 : s1 = y51_2 := q59.symm
        subst e73
        have e74 : s2 = y51_3 := q60.symm
        subst e74
        have e75 : s3 = y51_4 := q61.symm
        subst e75
        have e76 : s4 = y51_5 := q62.symm
        subst e76
        have e77 : s5 = y51_6 := q63.symm
        subst e77
        have e78 : s6 = y51_7 := q64.symm
        subst e78
        have e79 : s7 = y51_8 := q65.symm
        subst e79
        have e80 : s8 = y51_9 := q66.symm
        subst e80
        have e81 : s9 = y51_10 := q67.symm
        subst e81
        have e82 : s10 = y51_11 := q68.symm
        subst e82
        have e83 : s11 = y51_12 := q69.symm
        subst e83
        have e84 : s12 = y51_13 := q70.symm
        subst e84
        have e85 : s14 = y51_15 := q71.symm
        subst e85
        have g86 := zz_rg y51_0
        have g87 := zz_rg y51_14
        show zz_tq (s15) (s16) s13.toInt (y51_16) (y51_17) y51_14.toInt x1.toInt x2.toInt y51_0.toInt ∧ zz_vs s0.toInt (y51_16) (y51_17) y51_14.toInt ∧ 0 ≤ y51_14.toInt ∧ y51_14.toInt ≤ s13.toInt ∧ -1 ≤ y51_0.toInt ∧ (y51_0.toInt = -1 ∨ y51_0.toInt + x1.toInt ≤ s0.toInt) ∧ s0 = s0 ∧ s1 = s1 ∧ s2 = s2 ∧ s3 = s3 ∧ s4 = s4 ∧ s5 = s5 ∧ s6 = s6 ∧ s7 = s7 ∧ s8 = s8 ∧ s9 = s9 ∧ s10 = s10 ∧ s11 = s11 ∧ s12 = s12 ∧ s14 = s14
        exact ⟨(by first | exact zz_tq_no (by omega) (by first | omega | decide) rfl | exact zz_tq_hit (j := x2.toNatClampNeg) (by assumption) (by assumption) (by omega) (by omega) (by omega) (by omega) rfl (by omega) | exact zz_tq_skip (j := x2.toNatClampNeg) (by assumption) (by omega) (by omega) (by omega)), q53, q54, q55, q56, q57, rfl, rfl, rfl, rfl, rfl, rfl, rfl, rfl, rfl, rfl, rfl, rfl, rfl, rfl⟩
set_option maxHeartbeats 4000000 in
theorem gg_X6_takeQuick (K : Nat) (hK : 1099511627776 ≤ K) (T : Nat) (hT : T ≤ 900) (n0 : Nat) (n1 : Nat) (n2 : Nat) (n3 : Nat) (n4 : Nat) (n5 : Nat) (n6 : Nat) (n7 : Nat) (n8 : Nat) (p1 : Int32) (s0 : Int32) (s1 : Int32) (s2 : Int32) (s3 : Int32) (s4 : Nat → Int32) (s5 : Nat → Int32) (s6 : Nat → Int32) (s7 : Nat → Int32) (s8 : Nat → Int32) (s9 : Int32) (s10 : Int32) (s11 : Nat → Int32) (s12 : Nat → Int32) (s13 : Int32) (s14 : Int32) (s15 : Nat → Int32) (s16 : Nat → Int32) (a0 : n0 = 1024) (a1 : n1 = 200) (a2 : n2 = 200) (a3 : n3 = 200) (a4 : n4 = 200) (a5 : n5 = 512) (a6 : n6 = 512) (a7 : 0 ≤ s0.toInt) (a8 : s0.toInt ≤ 1024) (a9 : n7 = 1024) (a10 : n8 = 1024) (a11 : 0 ≤ s13.toInt) (a12 : s13.toInt ≤ 1024) (a13 : zz_vs s0.toInt (s15) (s16) s13.toInt) (a14 : 1 ≤ p1.toInt) : zz_ok (m_X6_takeQuick K n0 n1 n2 n3 n4 n5 n6 n7 n8 p1 s0 s1 s2 s3 s4 s5 s6 s7 s8 s9 s10 s11 s12 s13 s14 s15 s16) (fun z => zz_tq (s15) (s16) s13.toInt (z.2.2.2.2.2.2.2.2.2.2.2.2.2.2.2.2.1) (z.2.2.2.2.2.2.2.2.2.2.2.2.2.2.2.2.2) z.2.2.2.2.2.2.2.2.2.2.2.2.2.2.1.toInt p1.toInt (s13.toInt - 1) z.1.toInt ∧ zz_vs s0.toInt (z.2.2.2.2.2.2.2.2.2.2.2.2.2.2.2.2.1) (z.2.2.2.2.2.2.2.2.2.2.2.2.2.2.2.2.2) z.2.2.2.2.2.2.2.2.2.2.2.2.2.2.1.toInt ∧ 0 ≤ z.2.2.2.2.2.2.2.2.2.2.2.2.2.2.1.toInt ∧ z.2.2.2.2.2.2.2.2.2.2.2.2.2.2.1.toInt ≤ s13.toInt ∧ -1 ≤ z.1.toInt ∧ (z.1.toInt = -1 ∨ z.1.toInt + p1.toInt ≤ s0.toInt) ∧ z.2.1 = s0 ∧ z.2.2.1 = s1 ∧ z.2.2.2.1 = s2 ∧ z.2.2.2.2.1 = s3 ∧ z.2.2.2.2.2.1 = s4 ∧ z.2.2.2.2.2.2.1 = s5 ∧ z.2.2.2.2.2.2.2.1 = s6 ∧ z.2.2.2.2.2.2.2.2.1 = s7 ∧ z.2.2.2.2.2.2.2.2.2.1 = s8 ∧ z.2.2.2.2.2.2.2.2.2.2.1 = s9 ∧ z.2.2.2.2.2.2.2.2.2.2.2.1 = s10 ∧ z.2.2.2.2.2.2.2.2.2.2.2.2.1 = s11 ∧ z.2.2.2.2.2.2.2.2.2.2.2.2.2.1 = s12 ∧ z.2.2.2.2.2.2.2.2.2.2.2.2.2.2.2.1 = s14) := by
  have g1 := zz_rg p1
  have g2 := zz_rg s0
  have g3 := zz_rg s1
  have g4 := zz_rg s2
  have g5 := zz_rg s3
  have g6 := zz_rg s9
  have g7 := zz_rg s10
  have g8 := zz_rg s13
  have g9 := zz_rg s14
  unfold m_X6_takeQuick
  refine zz_ok_bind (ff_X10_size K hK T hT n7 n8 s13 s14 s15 s16) ?_
  intro z10 hz10
  obtain ⟨r_1, t_1_0, t_1_1, t_1_2, t_1_3⟩ := z10
  have q11 : r_1 = s13 := hz10.1
  have q12 : t_1_0 = s13 := hz10.2.1
  have q13 : t_1_1 = s14 := hz10.2.2.1
  have q14 : t_1_2 = s15 := hz10.2.2.2.1
  have q15 : t_1_3 = s16 := hz10.2.2.2.2
  clear hz10
  have e16 : s13 = r_1 := q11.symm
  subst e16
  have e17 : s13 = t_1_0 := q12.symm
  subst e17
  have e18 : s14 = t_1_1 := q13.symm
  subst e18
  have e19 : s15 = t_1_2 := q14.symm
  subst e19
  have e20 : s16 = t_1_3 := q15.symm
  subst e20
  show zz_ok (m_X6_takeQuick_L10 K n0 n1 n2 n3 n4 n5 n6 n7 n8 K p1 (s13 - ((1 : Int32))) s0 s1 s2 s3 s4 s5 s6 s7 s8 s9 s10 s11 s12 s13 s14 s15 s16) _
  have l21 : (1 : Int32).toInt = 1 := rfl
  obtain ⟨k22, f23⟩ := zz_sub s13 (1 : Int32)
  have g24 := zz_rg (s13 - ((1 : Int32)))
  refine (gg_X6_takeQuick_L10 K hK T hT n0 n1 n2 n3 n4 n5 n6 n7 n8 K p1 (s13 - ((1 : Int32))) s0 s1 s2 s3 s4 s5 s6 s7 s8 s9 s10 s11 s12 s13 s14 s15 s16 a0 a1 a2 a3 a4 a5 a6 a7 a8 a9 a10 a11 a12 a13 (by omega) (by omega) a14 (by omega)).mono (fun z hz => ?_)
  obtain ⟨y25_0, y25_1, y25_2, y25_3, y25_4, y25_5, y25_6, y25_7, y25_8, y25_9, y25_10, y25_11, y25_12, y25_13, y25_14, y25_15, y25_16, y25_17⟩ := z
  have q26 : zz_tq (s15) (s16) s13.toInt (y25_16) (y25_17) y25_14.toInt p1.toInt (s13 - ((1 : Int32))).toInt y25_0.toInt := hz.1
  have q27 : zz_vs s0.toInt (y25_16) (y25_17) y25_14.toInt := hz.2.1
  have q28 : 0 ≤ y25_14.toInt := hz.2.2.1
  have q29 : y25_14.toInt ≤ s13.toInt := hz.2.2.2.1
  have q30 : -1 ≤ y25_0.toInt := hz.2.2.2.2.1
  have q31 : (y25_0.toInt = -1 ∨ y25_0.toInt + p1.toInt ≤ s0.toInt) := hz.2.2.2.2.2.1
  have q32 : y25_1 = s0 := hz.2.2.2.2.2.2.1
  have q33 : y25_2 = s1 := hz.2.2.2.2.2.2.2.1
  have q34 : y25_3 = s2 := hz.2.2.2.2.2.2.2.2.1
  have q35 : y25_4 = s3 := hz.2.2.2.2.2.2.2.2.2.1
  have q36 : y25_5 = s4 := hz.2.2.2.2.2.2.2.2.2.2.1
  have q37 : y25_6 = s5 := hz.2.2.2.2.2.2.2.2.2.2.2.1
  have q38 : y25_7 = s6 := hz.2.2.2.2.2.2.2.2.2.2.2.2.1
  have q39 : y25_8 = s7 := hz.2.2.2.2.2.2.2.2.2.2.2.2.2.1
  have q40 : y25_9 = s8 := hz.2.2.2.2.2.2.2.2.2.2.2.2.2.2.1
  have q41 : y25_10 = s9 := hz.2.2.2.2.2.2.2.2.2.2.2.2.2.2.2.1
  have q42 : y25_11 = s10 := hz.2.2.2.2.2.2.2.2.2.2.2.2.2.2.2.2.1
  have q43 : y25_12 = s11 := hz.2.2.2.2.2.2.2.2.2.2.2.2.2.2.2.2.2.1
  have q44 : y25_13 = s12 := hz.2.2.2.2.2.2.2.2.2.2.2.2.2.2.2.2.2.2.1
  have q45 : y25_15 = s14 := hz.2.2.2.2.2.2.2.2.2.2.2.2.2.2.2.2.2.2.2
  clear hz
  have e46 : s0 = y25_1 := q32.symm
  subst e46
  have e47 : s1 = y25_2 := q33.symm
  subst e47
  have e48 : s2 = y25_3 := q34.symm
  subst e48
  have e49 : s3 = y25_4 := q35.symm
  subst e49
  have e50 : s4 = y25_5 := q36.symm
  subst e50
  have e51 : s5 = y25_6 := q37.symm
  subst e51
  have e52 : s6 = y25_7 := q38.symm
  subst e52
  have e53 : s7 = y25_8 := q39.symm
  subst e53
  have e54 : s8 = y25_9 := q40.symm
  subst e54
  have e55 : s9 = y25_10 := q41.symm
  subst e55
  have e56 : s10 = y25_11 := q42.symm
  subst e56
  have e57 : s11 = y25_12 := q43.symm
  subst e57
  have e58 : s12 = y25_13 := q44.symm
  subst e58
  have e59 : s14 = y25_15 := q45.symm
  subst e59
  have g60 := zz_rg y25_0
  have g61 := zz_rg y25_14
  show zz_tq (s15) (s16) s13.toInt (y25_16) (y25_17) y25_14.toInt p1.toInt (s13.toInt - 1) y25_0.toInt ∧ zz_vs s0.toInt (y25_16) (y25_17) y25_14.toInt ∧ 0 ≤ y25_14.toInt ∧ y25_14.toInt ≤ s13.toInt ∧ -1 ≤ y25_0.toInt ∧ (y25_0.toInt = -1 ∨ y25_0.toInt + p1.toInt ≤ s0.toInt) ∧ s0 = s0 ∧ s1 = s1 ∧ s2 = s2 ∧ s3 = s3 ∧ s4 = s4 ∧ s5 = s5 ∧ s6 = s6 ∧ s7 = s7 ∧ s8 = s8 ∧ s9 = s9 ∧ s10 = s10 ∧ s11 = s11 ∧ s12 = s12 ∧ s14 = s14
  exact ⟨(by exact zz_tq_cg (by assumption) (by omega)), q27, q28, q29, q30, q31, rfl, rfl, rfl, rfl, rfl, rfl, rfl, rfl, rfl, rfl, rfl, rfl, rfl, rfl⟩
set_option maxHeartbeats 4000000 in
theorem gg_X6_takeFirst (K : Nat) (hK : 1099511627776 ≤ K) (T : Nat) (hT : T ≤ 900) (n0 : Nat) (n1 : Nat) (n2 : Nat) (n3 : Nat) (n4 : Nat) (n5 : Nat) (n6 : Nat) (n7 : Nat) (n8 : Nat) (p1 : Int32) (s0 : Int32) (s1 : Int32) (s2 : Int32) (s3 : Int32) (s4 : Nat → Int32) (s5 : Nat → Int32) (s6 : Nat → Int32) (s7 : Nat → Int32) (s8 : Nat → Int32) (s9 : Int32) (s10 : Int32) (s11 : Nat → Int32) (s12 : Nat → Int32) (s13 : Int32) (s14 : Int32) (s15 : Nat → Int32) (s16 : Nat → Int32) (a0 : n0 = 1024) (a1 : n1 = 200) (a2 : n2 = 200) (a3 : n3 = 200) (a4 : n4 = 200) (a5 : n5 = 512) (a6 : n6 = 512) (a7 : 0 ≤ s0.toInt) (a8 : s0.toInt ≤ 1024) (a9 : 1 ≤ p1.toInt) (a10 : p1.toInt ≤ 1024) : zz_ok (m_X6_takeFirst K n0 n1 n2 n3 n4 n5 n6 n7 n8 p1 s0 s1 s2 s3 s4 s5 s6 s7 s8 s9 s10 s11 s12 s13 s14 s15 s16) (fun z => zz_ff s0.toInt (s4) p1.toInt 0 s0.toInt z.1.toInt ∧ -1 ≤ z.1.toInt ∧ z.1.toInt ≤ 1024 ∧ z.2.1 = s0 ∧ z.2.2.1 = s1 ∧ z.2.2.2.1 = s2 ∧ z.2.2.2.2.2.1 = s4 ∧ z.2.2.2.2.2.2.1 = s5 ∧ z.2.2.2.2.2.2.2.1 = s6 ∧ z.2.2.2.2.2.2.2.2.1 = s7 ∧ z.2.2.2.2.2.2.2.2.2.1 = s8 ∧ z.2.2.2.2.2.2.2.2.2.2.2.2.2.2.1 = s13 ∧ z.2.2.2.2.2.2.2.2.2.2.2.2.2.2.2.1 = s14 ∧ z.2.2.2.2.2.2.2.2.2.2.2.2.2.2.2.2.1 = s15 ∧ z.2.2.2.2.2.2.2.2.2.2.2.2.2.2.2.2.2 = s16) := by
  have g1 := zz_rg p1
  have g2 := zz_rg s0
  have g3 := zz_rg s1
  have g4 := zz_rg s2
  have g5 := zz_rg s3
  have g6 := zz_rg s9
  have g7 := zz_rg s10
  have g8 := zz_rg s13
  have g9 := zz_rg s14
  unfold m_X6_takeFirst
  refine zz_ok_bind (ff_X7_listRuns K hK T hT n0 n1 n2 n3 n4 n5 n6 s0 s1 s2 s3 s4 s5 s6 s7 s8 s9 s10 s11 s12 a0 a1 a2 a3 a4 a5 a6 a7 a8) ?_
  intro z10 hz10
  obtain ⟨t_1_0, t_1_1, t_1_2, t_1_3, t_1_4, t_1_5, t_1_6, t_1_7, t_1_8, t_1_9, t_1_10, t_1_11, t_1_12⟩ := z10
  have q11 : zz_ru s0.toInt (s4) (t_1_11) (t_1_12) t_1_9.toInt := hz10.1
  have q12 : 0 ≤ t_1_9.toInt := hz10.2.1
  have q13 : t_1_9.toInt ≤ 512 := hz10.2.2.1
  have q14 : t_1_0 = s0 := hz10.2.2.2.1
  have q15 : t_1_1 = s1 := hz10.2.2.2.2.1
  have q16 : t_1_2 = s2 := hz10.2.2.2.2.2.1
  have q17 : t_1_3 = s3 := hz10.2.2.2.2.2.2.1
  have q18 : t_1_4 = s4 := hz10.2.2.2.2.2.2.2.1
  have q19 : t_1_5 = s5 := hz10.2.2.2.2.2.2.2.2.1
  have q20 : t_1_6 = s6 := hz10.2.2.2.2.2.2.2.2.2.1
  have q21 : t_1_7 = s7 := hz10.2.2.2.2.2.2.2.2.2.2.1
  have q22 : t_1_8 = s8 := hz10.2.2.2.2.2.2.2.2.2.2.2.1
  have q23 : t_1_10 = s10 := hz10.2.2.2.2.2.2.2.2.2.2.2.2
  clear hz10
  have e24 : s0 = t_1_0 := q14.symm
  subst e24
  have e25 : s1 = t_1_1 := q15.symm
  subst e25
  have e26 : s2 = t_1_2 := q16.symm
  subst e26
  have e27 : s3 = t_1_3 := q17.symm
  subst e27
  have e28 : s4 = t_1_4 := q18.symm
  subst e28
  have e29 : s5 = t_1_5 := q19.symm
  subst e29
  have e30 : s6 = t_1_6 := q20.symm
  subst e30
  have e31 : s7 = t_1_7 := q21.symm
  subst e31
  have e32 : s8 = t_1_8 := q22.symm
  subst e32
  have e33 : s10 = t_1_10 := q23.symm
  subst e33
  have g34 := zz_rg t_1_9
  have vs8 := zz_ru_vs (by assumption : zz_ru s0.toInt s4 t_1_11 t_1_12 t_1_9.toInt) (m := 1024) (by omega) (by omega)
  show zz_ok ((m_X10_find K n5 n6 ((0 : Int32)) p1 ((0 : Int32)) t_1_9 s10 t_1_11 t_1_12).bind fun ⟨r_2, t_2_0, t_2_1, t_2_2, t_2_3⟩ => (m_X10_looked K n5 n6 t_2_0 t_2_1 t_2_2 t_2_3).bind fun ⟨r_3, t_3_0, t_3_1, t_3_2, t_3_3⟩ => (m_X7_addLooked K n0 n1 n2 n3 n4 n5 n6 r_3 s0 s1 s2 s3 s4 s5 s6 s7 s8 t_3_0 t_3_1 t_3_2 t_3_3).bind fun ⟨t_4_0, t_4_1, t_4_2, t_4_3, t_4_4, t_4_5, t_4_6, t_4_7, t_4_8, t_4_9, t_4_10, t_4_11, t_4_12⟩ => some (r_2, t_4_0, t_4_1, t_4_2, t_4_3, t_4_4, t_4_5, t_4_6, t_4_7, t_4_8, t_4_9, t_4_10, t_4_11, t_4_12, s13, s14, s15, s16)) _
  have l35 : (0 : Int32).toInt = 0 := rfl
  refine zz_ok_bind (gg_X10_find K hK T hT n5 n6 ((0 : Int32)) p1 ((0 : Int32)) t_1_9 s10 t_1_11 t_1_12 (by omega) (by omega) q12 (by omega) (by assumption) (by omega) (by omega) a9 a10 (by omega) (by omega)) ?_
  intro z36 hz36
  obtain ⟨r_2, t_2_0, t_2_1, t_2_2, t_2_3⟩ := z36
  have q37 : zz_q ((0 : Int32)).toInt (t_1_11) (t_1_12) t_1_9.toInt ((0 : Int32)).toInt p1.toInt r_2.toInt := hz36.1
  have q38 : -1 ≤ r_2.toInt := hz36.2.1
  have q39 : r_2.toInt ≤ 1024 := hz36.2.2.1
  have q40 : t_2_0 = t_1_9 := hz36.2.2.2.1
  have q41 : t_2_2 = t_1_11 := hz36.2.2.2.2.1
  have q42 : t_2_3 = t_1_12 := hz36.2.2.2.2.2
  clear hz36
  have e43 : t_1_9 = t_2_0 := q40.symm
  subst e43
  have e44 : t_1_11 = t_2_2 := q41.symm
  subst e44
  have e45 : t_1_12 = t_2_3 := q42.symm
  subst e45
  have g46 := zz_rg r_2
  have g47 := zz_rg t_2_1
  show zz_ok ((m_X10_looked K n5 n6 t_1_9 t_2_1 t_1_11 t_1_12).bind fun ⟨r_3, t_3_0, t_3_1, t_3_2, t_3_3⟩ => (m_X7_addLooked K n0 n1 n2 n3 n4 n5 n6 r_3 s0 s1 s2 s3 s4 s5 s6 s7 s8 t_3_0 t_3_1 t_3_2 t_3_3).bind fun ⟨t_4_0, t_4_1, t_4_2, t_4_3, t_4_4, t_4_5, t_4_6, t_4_7, t_4_8, t_4_9, t_4_10, t_4_11, t_4_12⟩ => some (r_2, t_4_0, t_4_1, t_4_2, t_4_3, t_4_4, t_4_5, t_4_6, t_4_7, t_4_8, t_4_9, t_4_10, t_4_11, t_4_12, s13, s14, s15, s16)) _
  refine zz_ok_bind (ff_X10_looked K hK T hT n5 n6 t_1_9 t_2_1 t_1_11 t_1_12) ?_
  intro z48 hz48
  obtain ⟨r_3, t_3_0, t_3_1, t_3_2, t_3_3⟩ := z48
  have q49 : r_3 = t_2_1 := hz48.1
  have q50 : t_3_0 = t_1_9 := hz48.2.1
  have q51 : t_3_1 = t_2_1 := hz48.2.2.1
  have q52 : t_3_2 = t_1_11 := hz48.2.2.2.1
  have q53 : t_3_3 = t_1_12 := hz48.2.2.2.2
  clear hz48
  have e54 : t_2_1 = r_3 := q49.symm
  subst e54
  have e55 : t_1_9 = t_3_0 := q50.symm
  subst e55
  have e56 : t_2_1 = t_3_1 := q51.symm
  subst e56
  have e57 : t_1_11 = t_3_2 := q52.symm
  subst e57
  have e58 : t_1_12 = t_3_3 := q53.symm
  subst e58
  show zz_ok ((m_X7_addLooked K n0 n1 n2 n3 n4 n5 n6 t_2_1 s0 s1 s2 s3 s4 s5 s6 s7 s8 t_1_9 t_2_1 t_1_11 t_1_12).bind fun ⟨t_4_0, t_4_1, t_4_2, t_4_3, t_4_4, t_4_5, t_4_6, t_4_7, t_4_8, t_4_9, t_4_10, t_4_11, t_4_12⟩ => some (r_2, t_4_0, t_4_1, t_4_2, t_4_3, t_4_4, t_4_5, t_4_6, t_4_7, t_4_8, t_4_9, t_4_10, t_4_11, t_4_12, s13, s14, s15, s16)) _
  refine zz_ok_bind (ff_X7_addLooked K hK T hT n0 n1 n2 n3 n4 n5 n6 t_2_1 s0 s1 s2 s3 s4 s5 s6 s7 s8 t_1_9 t_2_1 t_1_11 t_1_12) ?_
  intro z59 hz59
  obtain ⟨t_4_0, t_4_1, t_4_2, t_4_3, t_4_4, t_4_5, t_4_6, t_4_7, t_4_8, t_4_9, t_4_10, t_4_11, t_4_12⟩ := z59
  have q60 : t_4_0 = s0 := hz59.1
  have q61 : t_4_1 = s1 := hz59.2.1
  have q62 : t_4_2 = s2 := hz59.2.2.1
  have q63 : t_4_4 = s4 := hz59.2.2.2.1
  have q64 : t_4_5 = s5 := hz59.2.2.2.2.1
  have q65 : t_4_6 = s6 := hz59.2.2.2.2.2.1
  have q66 : t_4_7 = s7 := hz59.2.2.2.2.2.2.1
  have q67 : t_4_8 = s8 := hz59.2.2.2.2.2.2.2.1
  have q68 : t_4_9 = t_1_9 := hz59.2.2.2.2.2.2.2.2.1
  have q69 : t_4_10 = t_2_1 := hz59.2.2.2.2.2.2.2.2.2.1
  have q70 : t_4_11 = t_1_11 := hz59.2.2.2.2.2.2.2.2.2.2.1
  have q71 : t_4_12 = t_1_12 := hz59.2.2.2.2.2.2.2.2.2.2.2
  clear hz59
  have e72 : s0 = t_4_0 := q60.symm
  subst e72
  have e73 : s1 = t_4_1 := q61.symm
  subst e73
  have e74 : s2 = t_4_2 := q62.symm
  subst e74
  have e75 : s4 = t_4_4 := q63.symm
  subst e75
  have e76 : s5 = t_4_5 := q64.symm
  subst e76
  have e77 : s6 = t_4_6 := q65.symm
  subst e77
  have e78 : s7 = t_4_7 := q66.symm
  subst e78
  have e79 : s8 = t_4_8 := q67.symm
  subst e79
  have e80 : t_1_9 = t_4_9 := q68.symm
  subst e80
  have e81 : t_2_1 = t_4_10 := q69.symm
  subst e81
  have e82 : t_1_11 = t_4_11 := q70.symm
  subst e82
  have e83 : t_1_12 = t_4_12 := q71.symm
  subst e83
  have g84 := zz_rg t_4_3
  show zz_ok (some (r_2, s0, s1, s2, t_4_3, s4, s5, s6, s7, s8, t_1_9, t_2_1, t_1_11, t_1_12, s13, s14, s15, s16)) _
  refine zz_ok_some ?_
  show zz_ff s0.toInt (s4) p1.toInt 0 s0.toInt r_2.toInt ∧ -1 ≤ r_2.toInt ∧ r_2.toInt ≤ 1024 ∧ s0 = s0 ∧ s1 = s1 ∧ s2 = s2 ∧ s4 = s4 ∧ s5 = s5 ∧ s6 = s6 ∧ s7 = s7 ∧ s8 = s8 ∧ s13 = s13 ∧ s14 = s14 ∧ s15 = s15 ∧ s16 = s16
  exact ⟨(by exact zz_q_ff (by assumption) (by assumption) (by omega) (by decide)), q38, q39, rfl, rfl, rfl, rfl, rfl, rfl, rfl, rfl, rfl, rfl, rfl, rfl⟩
set_option maxHeartbeats 4000000 in
theorem gg_X6_emptyRows_L2 (K : Nat) (hK : 1099511627776 ≤ K) (T : Nat) (hT : T ≤ 900) (n0 : Nat) (n1 : Nat) (n2 : Nat) (n3 : Nat) (n4 : Nat) (n5 : Nat) (n6 : Nat) (n7 : Nat) (n8 : Nat) : ∀ (k : Nat) (x1 : Int32) (s0 : Int32) (s1 : Int32) (s2 : Int32) (s3 : Int32) (s4 : Nat → Int32) (s5 : Nat → Int32) (s6 : Nat → Int32) (s7 : Nat → Int32) (s8 : Nat → Int32) (s9 : Int32) (s10 : Int32) (s11 : Nat → Int32) (s12 : Nat → Int32) (s13 : Int32) (s14 : Int32) (s15 : Nat → Int32) (s16 : Nat → Int32), n0 = 1024 → n1 = 200 → n2 = 200 → n3 = 200 → n4 = 200 → n5 = 512 → n6 = 512 → 0 ≤ s0.toInt → s0.toInt ≤ 1024 → n7 = 1024 → n8 = 1024 → 0 ≤ s13.toInt → s13.toInt ≤ 1024 → zz_vs s0.toInt (s15) (s16) s13.toInt → 0 ≤ x1.toInt → x1.toInt ≤ s13.toInt → s13.toInt - x1.toInt < (k : Int) → zz_ok (m_X6_emptyRows_L2 K n0 n1 n2 n3 n4 n5 n6 n7 n8 k x1 s0 s1 s2 s3 s4 s5 s6 s7 s8 s9 s10 s11 s12 s13 s14 s15 s16) (fun z => zz_W9p (s4) (z.2.2.2.2.1) (s15) (s16) x1.toInt s13.toInt ∧ z.2.2.2.2.2.2.2.2.2.2.2.2.2.1.toInt = 0 ∧ z.1 = s0 ∧ z.2.1 = s1 ∧ z.2.2.1 = s2 ∧ z.2.2.2.1 = s3 ∧ z.2.2.2.2.2.1 = s5 ∧ z.2.2.2.2.2.2.1 = s6 ∧ z.2.2.2.2.2.2.2.1 = s7 ∧ z.2.2.2.2.2.2.2.2.1 = s8 ∧ z.2.2.2.2.2.2.2.2.2.1 = s9 ∧ z.2.2.2.2.2.2.2.2.2.2.1 = s10 ∧ z.2.2.2.2.2.2.2.2.2.2.2.1 = s11 ∧ z.2.2.2.2.2.2.2.2.2.2.2.2.1 = s12 ∧ z.2.2.2.2.2.2.2.2.2.2.2.2.2.2.1 = s14 ∧ z.2.2.2.2.2.2.2.2.2.2.2.2.2.2.2.1 = s15 ∧ z.2.2.2.2.2.2.2.2.2.2.2.2.2.2.2.2 = s16) := by
  intro k
  induction k with
  | zero =>
    intro x1 s0 s1 s2 s3 s4 s5 s6 s7 s8 s9 s10 s11 s12 s13 s14 s15 s16 a0 a1 a2 a3 a4 a5 a6 a7 a8 a9 a10 a11 a12 a13 a14 a15 hz9
    exfalso
    have g_x1 := zz_rg x1
    have g_s0 := zz_rg s0
    have g_s1 := zz_rg s1
    have g_s2 := zz_rg s2
    have g_s3 := zz_rg s3
    have g_s9 := zz_rg s9
    have g_s10 := zz_rg s10
    have g_s13 := zz_rg s13
    have g_s14 := zz_rg s14
    omega
  | succ k ih =>
    intro x1 s0 s1 s2 s3 s4 s5 s6 s7 s8 s9 s10 s11 s12 s13 s14 s15 s16 a0 a1 a2 a3 a4 a5 a6 a7 a8 a9 a10 a11 a12 a13 a14 a15 hz9
    rw [m_X6_emptyRows_L2_s]
    have g1 := zz_rg x1
    have g2 := zz_rg s0
    have g3 := zz_rg s1
    have g4 := zz_rg s2
    have g5 := zz_rg s3
    have g6 := zz_rg s9
    have g7 := zz_rg s10
    have g8 := zz_rg s13
    have g9 := zz_rg s14
    have tn9 := zz_tnI x1 (by omega)
    refine zz_ok_bind (ff_X10_size K hK T hT n7 n8 s13 s14 s15 s16) ?_
    intro z10 hz10
    obtain ⟨r_1, t_1_0, t_1_1, t_1_2, t_1_3⟩ := z10
    have q11 : r_1 = s13 := hz10.1
    have q12 : t_1_0 = s13 := hz10.2.1
    have q13 : t_1_1 = s14 := hz10.2.2.1
    have q14 : t_1_2 = s15 := hz10.2.2.2.1
    have q15 : t_1_3 = s16 := hz10.2.2.2.2
    clear hz10
    have e16 : s13 = r_1 := q11.symm
    subst e16
    have e17 : s13 = t_1_0 := q12.symm
    subst e17
    have e18 : s14 = t_1_1 := q13.symm
    subst e18
    have e19 : s15 = t_1_2 := q14.symm
    subst e19
    have e20 : s16 = t_1_3 := q15.symm
    subst e20
    show zz_ok (if s13 ≤ x1 then ((m_X10_clear K n7 n8 s13 s14 s15 s16).bind fun ⟨t_3_0, t_3_1, t_3_2, t_3_3⟩ => some (s0, s1, s2, s3, s4, s5, s6, s7, s8, s9, s10, s11, s12, t_3_0, t_3_1, t_3_2, t_3_3)) else ((m_X10_placeOf K n7 n8 x1 s13 s14 s15 s16).bind fun ⟨r_4, t_4_0, t_4_1, t_4_2, t_4_3⟩ => (m_X10_wordsOf K n7 n8 x1 t_4_0 t_4_1 t_4_2 t_4_3).bind fun ⟨r_5, t_5_0, t_5_1, t_5_2, t_5_3⟩ => (m_X7_markFree K n0 n1 n2 n3 n4 n5 n6 r_4 r_5 s0 s1 s2 s3 s4 s5 s6 s7 s8 s9 s10 s11 s12).bind fun ⟨t_6_0, t_6_1, t_6_2, t_6_3, t_6_4, t_6_5, t_6_6, t_6_7, t_6_8, t_6_9, t_6_10, t_6_11, t_6_12⟩ => m_X6_emptyRows_L2 K n0 n1 n2 n3 n4 n5 n6 n7 n8 k (x1 + 1) t_6_0 t_6_1 t_6_2 t_6_3 t_6_4 t_6_5 t_6_6 t_6_7 t_6_8 t_6_9 t_6_10 t_6_11 t_6_12 t_5_0 t_5_1 t_5_2 t_5_3)) _
    refine zz_ok_ite (fun c21 => ?_) (fun c21 => ?_)
    · have c21 := Int32.le_iff_toInt_le.mp c21
      refine zz_ok_bind (ff_X10_clear K hK T hT n7 n8 s13 s14 s15 s16) ?_
      intro z22 hz22
      obtain ⟨t_3_0, t_3_1, t_3_2, t_3_3⟩ := z22
      have q23 : t_3_0.toInt = 0 := hz22.1
      have q24 : t_3_1 = s14 := hz22.2.1
      have q25 : t_3_2 = s15 := hz22.2.2.1
      have q26 : t_3_3 = s16 := hz22.2.2.2
      clear hz22
      have e27 : s14 = t_3_1 := q24.symm
      subst e27
      have e28 : s15 = t_3_2 := q25.symm
      subst e28
      have e29 : s16 = t_3_3 := q26.symm
      subst e29
      have g30 := zz_rg t_3_0
      show zz_ok (some (s0, s1, s2, s3, s4, s5, s6, s7, s8, s9, s10, s11, s12, t_3_0, s14, s15, s16)) _
      refine zz_ok_some ?_
      show zz_W9p (s4) (s4) (s15) (s16) x1.toInt s13.toInt ∧ t_3_0.toInt = 0 ∧ s0 = s0 ∧ s1 = s1 ∧ s2 = s2 ∧ s3 = s3 ∧ s5 = s5 ∧ s6 = s6 ∧ s7 = s7 ∧ s8 = s8 ∧ s9 = s9 ∧ s10 = s10 ∧ s11 = s11 ∧ s12 = s12 ∧ s14 = s14 ∧ s15 = s15 ∧ s16 = s16
      exact ⟨(by first | exact zz_W9p_end (by omega) | exact zz_W9p_step (j := x1.toNatClampNeg) (by assumption) (by assumption) (by decide) (by omega) (by omega) (by omega) rfl rfl (by omega) (by omega)), q23, rfl, rfl, rfl, rfl, rfl, rfl, rfl, rfl, rfl, rfl, rfl, rfl, rfl, rfl, rfl⟩
    · have c21 := zz_nle c21
      refine zz_ok_bind (ff_X10_placeOf K hK T hT n7 n8 x1 s13 s14 s15 s16 (by omega) (by omega) a11 (by omega) a14 (by omega)) ?_
      intro z31 hz31
      obtain ⟨r_4, t_4_0, t_4_1, t_4_2, t_4_3⟩ := z31
      have q32 : r_4 = s15 x1.toNatClampNeg := hz31.1
      have q33 : t_4_0 = s13 := hz31.2.1
      have q34 : t_4_1 = s14 := hz31.2.2.1
      have q35 : t_4_2 = s15 := hz31.2.2.2.1
      have q36 : t_4_3 = s16 := hz31.2.2.2.2
      clear hz31
      have e37 : s15 x1.toNatClampNeg = r_4 := q32.symm
      subst e37
      have e38 : s13 = t_4_0 := q33.symm
      subst e38
      have e39 : s14 = t_4_1 := q34.symm
      subst e39
      have e40 : s15 = t_4_2 := q35.symm
      subst e40
      have e41 : s16 = t_4_3 := q36.symm
      subst e41
      have v9 := zz_vs_at (by assumption : zz_vs s0.toInt s15 s16 s13.toInt) x1 (by omega) (by omega)
      show zz_ok ((m_X10_wordsOf K n7 n8 x1 s13 s14 s15 s16).bind fun ⟨r_5, t_5_0, t_5_1, t_5_2, t_5_3⟩ => (m_X7_markFree K n0 n1 n2 n3 n4 n5 n6 (s15 x1.toNatClampNeg) r_5 s0 s1 s2 s3 s4 s5 s6 s7 s8 s9 s10 s11 s12).bind fun ⟨t_6_0, t_6_1, t_6_2, t_6_3, t_6_4, t_6_5, t_6_6, t_6_7, t_6_8, t_6_9, t_6_10, t_6_11, t_6_12⟩ => m_X6_emptyRows_L2 K n0 n1 n2 n3 n4 n5 n6 n7 n8 k (x1 + 1) t_6_0 t_6_1 t_6_2 t_6_3 t_6_4 t_6_5 t_6_6 t_6_7 t_6_8 t_6_9 t_6_10 t_6_11 t_6_12 t_5_0 t_5_1 t_5_2 t_5_3) _
      refine zz_ok_bind (ff_X10_wordsOf K hK T hT n7 n8 x1 s13 s14 s15 s16 (by omega) (by omega) a11 (by omega) a14 (by omega)) ?_
      intro z42 hz42
      obtain ⟨r_5, t_5_0, t_5_1, t_5_2, t_5_3⟩ := z42
      have q43 : r_5 = s16 x1.toNatClampNeg := hz42.1
      have q44 : t_5_0 = s13 := hz42.2.1
      have q45 : t_5_1 = s14 := hz42.2.2.1
      have q46 : t_5_2 = s15 := hz42.2.2.2.1
      have q47 : t_5_3 = s16 := hz42.2.2.2.2
      clear hz42
      have e48 : s16 x1.toNatClampNeg = r_5 := q43.symm
      subst e48
      have e49 : s13 = t_5_0 := q44.symm
      subst e49
      have e50 : s14 = t_5_1 := q45.symm
      subst e50
      have e51 : s15 = t_5_2 := q46.symm
      subst e51
      have e52 : s16 = t_5_3 := q47.symm
      subst e52
      show zz_ok ((m_X7_markFree K n0 n1 n2 n3 n4 n5 n6 (s15 x1.toNatClampNeg) (s16 x1.toNatClampNeg) s0 s1 s2 s3 s4 s5 s6 s7 s8 s9 s10 s11 s12).bind fun ⟨t_6_0, t_6_1, t_6_2, t_6_3, t_6_4, t_6_5, t_6_6, t_6_7, t_6_8, t_6_9, t_6_10, t_6_11, t_6_12⟩ => m_X6_emptyRows_L2 K n0 n1 n2 n3 n4 n5 n6 n7 n8 k (x1 + 1) t_6_0 t_6_1 t_6_2 t_6_3 t_6_4 t_6_5 t_6_6 t_6_7 t_6_8 t_6_9 t_6_10 t_6_11 t_6_12 s13 s14 s15 s16) _
      have g53 := zz_rg (s15 x1.toNatClampNeg)
      have g54 := zz_rg (s16 x1.toNatClampNeg)
      refine zz_ok_bind (gg_X7_markFree K hK T hT n0 n1 n2 n3 n4 n5 n6 (s15 x1.toNatClampNeg) (s16 x1.toNatClampNeg) s0 s1 s2 s3 s4 s5 s6 s7 s8 s9 s10 s11 s12 a0 (by omega) (by omega) (by omega) a8) ?_
      intro z55 hz55
      obtain ⟨t_6_0, t_6_1, t_6_2, t_6_3, t_6_4, t_6_5, t_6_6, t_6_7, t_6_8, t_6_9, t_6_10, t_6_11, t_6_12⟩ := z55
      have q56 : zz_wr (s4) (t_6_4) (s15 x1.toNatClampNeg).toInt ((s15 x1.toNatClampNeg).toInt + (s16 x1.toNatClampNeg).toInt) (-1) := hz55.1
      have q57 : t_6_0 = s0 := hz55.2.1
      have q58 : t_6_1 = s1 := hz55.2.2.1
      have q59 : t_6_2 = s2 := hz55.2.2.2.1
      have q60 : t_6_3 = s3 := hz55.2.2.2.2.1
      have q61 : t_6_5 = s5 := hz55.2.2.2.2.2.1
      have q62 : t_6_6 = s6 := hz55.2.2.2.2.2.2.1
      have q63 : t_6_7 = s7 := hz55.2.2.2.2.2.2.2.1
      have q64 : t_6_8 = s8 := hz55.2.2.2.2.2.2.2.2.1
      have q65 : t_6_9 = s9 := hz55.2.2.2.2.2.2.2.2.2.1
      have q66 : t_6_10 = s10 := hz55.2.2.2.2.2.2.2.2.2.2.1
      have q67 : t_6_11 = s11 := hz55.2.2.2.2.2.2.2.2.2.2.2.1
      have q68 : t_6_12 = s12 := hz55.2.2.2.2.2.2.2.2.2.2.2.2
      clear hz55
      have e69 : s0 = t_6_0 := q57.symm
      subst e69
      have e70 : s1 = t_6_1 := q58.symm
      subst e70
      have e71 : s2 = t_6_2 := q59.symm
      subst e71
      have e72 : s3 = t_6_3 := q60.symm
      subst e72
      have e73 : s5 = t_6_5 := q61.symm
      subst e73
      have e74 : s6 = t_6_6 := q62.symm
      subst e74
      have e75 : s7 = t_6_7 := q63.symm
      subst e75
      have e76 : s8 = t_6_8 := q64.symm
      subst e76
      have e77 : s9 = t_6_9 := q65.symm
      subst e77
      have e78 : s10 = t_6_10 := q66.symm
      subst e78
      have e79 : s11 = t_6_11 := q67.symm
      subst e79
      have e80 : s12 = t_6_12 := q68.symm
      subst e80
      show zz_ok (m_X6_emptyRows_L2 K n0 n1 n2 n3 n4 n5 n6 n7 n8 k (x1 + 1) s0 s1 s2 s3 t_6_4 s5 s6 s7 s8 s9 s10 s11 s12 s13 s14 s15 s16) _
      have l81 : (1 : Int32).toInt = 1 := rfl
      obtain ⟨k82, f83⟩ := zz_add x1 (1 : Int32)
      have g84 := zz_rg (x1 + 1)
      refine (ih (x1 + 1) s0 s1 s2 s3 t_6_4 s5 s6 s7 s8 s9 s10 s11 s12 s13 s14 s15 s16 a0 a1 a2 a3 a4 a5 a6 a7 a8 a9 a10 a11 a12 a13 (by omega) (by omega) (by omega)).mono (fun z hz => ?_)
      obtain ⟨y85_0, y85_1, y85_2, y85_3, y85_4, y85_5, y85_6, y85_7, y85_8, y85_9, y85_10, y85_11, y85_12, y85_13, y85_14, y85_15, y85_16⟩ := z
      have q86 : zz_W9p (t_6_4) (y85_4) (s15) (s16) (x1 + 1).toInt s13.toInt := hz.1
      have q87 : y85_13.toInt = 0 := hz.2.1
      have q88 : y85_0 = s0 := hz.2.2.1
      have q89 : y85_1 = s1 := hz.2.2.2.1
      have q90 : y85_2 = s2 := hz.2.2.2.2.1
      have q91 : y85_3 = s3 := hz.2.2.2.2.2.1
      have q92 : y85_5 = s5 := hz.2.2.2.2.2.2.1
      have q93 : y85_6 = s6 := hz.2.2.2.2.2.2.2.1
      have q94 : y85_7 = s7 := hz.2.2.2.2.2.2.2.2.1
      have q95 : y85_8 = s8 := hz.2.2.2.2.2.2.2.2.2.1
      have q96 : y85_9 = s9 := hz.2.2.2.2.2.2.2.2.2.2.1
      have q97 : y85_10 = s10 := hz.2.2.2.2.2.2.2.2.2.2.2.1
      have q98 : y85_11 = s11 := hz.2.2.2.2.2.2.2.2.2.2.2.2.1
      have q99 : y85_12 = s12 := hz.2.2.2.2.2.2.2.2.2.2.2.2.2.1
      have q100 : y85_14 = s14 := hz.2.2.2.2.2.2.2.2.2.2.2.2.2.2.1
      have q101 : y85_15 = s15 := hz.2.2.2.2.2.2.2.2.2.2.2.2.2.2.2.1
      have q102 : y85_16 = s16 := hz.2.2.2.2.2.2.2.2.2.2.2.2.2.2.2.2
      clear hz
      have e103 : s0 = y85_0 := q88.symm
      subst e103
      have e104 : s1 = y85_1 := q89.symm
      subst e104
      have e105 : s2 = y85_2 := q90.symm
      subst e105
      have e106 : s3 = y85_3 := q91.symm
      subst e106
      have e107 : s5 = y85_5 := q92.symm
      subst e107
      have e108 : s6 = y85_6 := q93.symm
      subst e108
      have e109 : s7 = y85_7 := q94.symm
      subst e109
      have e110 : s8 = y85_8 := q95.symm
      subst e110
      have e111 : s9 = y85_9 := q96.symm
      subst e111
      have e112 : s10 = y85_10 := q97.symm
      subst e112
      have e113 : s11 = y85_11 := q98.symm
      subst e113
      have e114 : s12 = y85_12 := q99.symm
      subst e114
      have e115 : s14 = y85_14 := q100.symm
      subst e115
      have e116 : s15 = y85_15 := q101.symm
      subst e116
      have e117 : s16 = y85_16 := q102.symm
      subst e117
      have g118 := zz_rg y85_13
      show zz_W9p (s4) (y85_4) (s15) (s16) x1.toInt s13.toInt ∧ y85_13.toInt = 0 ∧ s0 = s0 ∧ s1 = s1 ∧ s2 = s2 ∧ s3 = s3 ∧ s5 = s5 ∧ s6 = s6 ∧ s7 = s7 ∧ s8 = s8 ∧ s9 = s9 ∧ s10 = s10 ∧ s11 = s11 ∧ s12 = s12 ∧ s14 = s14 ∧ s15 = s15 ∧ s16 = s16
      exact ⟨(by first | exact zz_W9p_end (by omega) | exact zz_W9p_step (j := x1.toNatClampNeg) (by assumption) (by assumption) (by decide) (by omega) (by omega) (by omega) rfl rfl (by omega) (by omega)), q87, rfl, rfl, rfl, rfl, rfl, rfl, rfl, rfl, rfl, rfl, rfl, rfl, rfl, rfl, rfl⟩
set_option maxHeartbeats 4000000 in
theorem gg_X6_emptyRows (K : Nat) (hK : 1099511627776 ≤ K) (T : Nat) (hT : T ≤ 900) (n0 : Nat) (n1 : Nat) (n2 : Nat) (n3 : Nat) (n4 : Nat) (n5 : Nat) (n6 : Nat) (n7 : Nat) (n8 : Nat) (s0 : Int32) (s1 : Int32) (s2 : Int32) (s3 : Int32) (s4 : Nat → Int32) (s5 : Nat → Int32) (s6 : Nat → Int32) (s7 : Nat → Int32) (s8 : Nat → Int32) (s9 : Int32) (s10 : Int32) (s11 : Nat → Int32) (s12 : Nat → Int32) (s13 : Int32) (s14 : Int32) (s15 : Nat → Int32) (s16 : Nat → Int32) (a0 : n0 = 1024) (a1 : n1 = 200) (a2 : n2 = 200) (a3 : n3 = 200) (a4 : n4 = 200) (a5 : n5 = 512) (a6 : n6 = 512) (a7 : 0 ≤ s0.toInt) (a8 : s0.toInt ≤ 1024) (a9 : n7 = 1024) (a10 : n8 = 1024) (a11 : 0 ≤ s13.toInt) (a12 : s13.toInt ≤ 1024) (a13 : zz_vs s0.toInt (s15) (s16) s13.toInt) : zz_ok (m_X6_emptyRows K n0 n1 n2 n3 n4 n5 n6 n7 n8 s0 s1 s2 s3 s4 s5 s6 s7 s8 s9 s10 s11 s12 s13 s14 s15 s16) (fun z => zz_W9p (s4) (z.2.2.2.2.1) (s15) (s16) 0 s13.toInt ∧ z.2.2.2.2.2.2.2.2.2.2.2.2.2.1.toInt = 0 ∧ z.1 = s0 ∧ z.2.1 = s1 ∧ z.2.2.1 = s2 ∧ z.2.2.2.1 = s3 ∧ z.2.2.2.2.2.1 = s5 ∧ z.2.2.2.2.2.2.1 = s6 ∧ z.2.2.2.2.2.2.2.1 = s7 ∧ z.2.2.2.2.2.2.2.2.1 = s8 ∧ z.2.2.2.2.2.2.2.2.2.1 = s9 ∧ z.2.2.2.2.2.2.2.2.2.2.1 = s10 ∧ z.2.2.2.2.2.2.2.2.2.2.2.1 = s11 ∧ z.2.2.2.2.2.2.2.2.2.2.2.2.1 = s12 ∧ z.2.2.2.2.2.2.2.2.2.2.2.2.2.2.1 = s14 ∧ z.2.2.2.2.2.2.2.2.2.2.2.2.2.2.2.1 = s15 ∧ z.2.2.2.2.2.2.2.2.2.2.2.2.2.2.2.2 = s16) := by
  have g1 := zz_rg s0
  have g2 := zz_rg s1
  have g3 := zz_rg s2
  have g4 := zz_rg s3
  have g5 := zz_rg s9
  have g6 := zz_rg s10
  have g7 := zz_rg s13
  have g8 := zz_rg s14
  unfold m_X6_emptyRows
  have l9 : (0 : Int32).toInt = 0 := rfl
  refine (gg_X6_emptyRows_L2 K hK T hT n0 n1 n2 n3 n4 n5 n6 n7 n8 K ((0 : Int32)) s0 s1 s2 s3 s4 s5 s6 s7 s8 s9 s10 s11 s12 s13 s14 s15 s16 a0 a1 a2 a3 a4 a5 a6 a7 a8 a9 a10 a11 a12 a13 (by omega) (by omega) (by omega)).mono (fun z hz => ?_)
  obtain ⟨y10_0, y10_1, y10_2, y10_3, y10_4, y10_5, y10_6, y10_7, y10_8, y10_9, y10_10, y10_11, y10_12, y10_13, y10_14, y10_15, y10_16⟩ := z
  have q11 : zz_W9p (s4) (y10_4) (s15) (s16) ((0 : Int32)).toInt s13.toInt := hz.1
  have q12 : y10_13.toInt = 0 := hz.2.1
  have q13 : y10_0 = s0 := hz.2.2.1
  have q14 : y10_1 = s1 := hz.2.2.2.1
  have q15 : y10_2 = s2 := hz.2.2.2.2.1
  have q16 : y10_3 = s3 := hz.2.2.2.2.2.1
  have q17 : y10_5 = s5 := hz.2.2.2.2.2.2.1
  have q18 : y10_6 = s6 := hz.2.2.2.2.2.2.2.1
  have q19 : y10_7 = s7 := hz.2.2.2.2.2.2.2.2.1
  have q20 : y10_8 = s8 := hz.2.2.2.2.2.2.2.2.2.1
  have q21 : y10_9 = s9 := hz.2.2.2.2.2.2.2.2.2.2.1
  have q22 : y10_10 = s10 := hz.2.2.2.2.2.2.2.2.2.2.2.1
  have q23 : y10_11 = s11 := hz.2.2.2.2.2.2.2.2.2.2.2.2.1
  have q24 : y10_12 = s12 := hz.2.2.2.2.2.2.2.2.2.2.2.2.2.1
  have q25 : y10_14 = s14 := hz.2.2.2.2.2.2.2.2.2.2.2.2.2.2.1
  have q26 : y10_15 = s15 := hz.2.2.2.2.2.2.2.2.2.2.2.2.2.2.2.1
  have q27 : y10_16 = s16 := hz.2.2.2.2.2.2.2.2.2.2.2.2.2.2.2.2
  clear hz
  have e28 : s0 = y10_0 := q13.symm
  subst e28
  have e29 : s1 = y10_1 := q14.symm
  subst e29
  have e30 : s2 = y10_2 := q15.symm
  subst e30
  have e31 : s3 = y10_3 := q16.symm
  subst e31
  have e32 : s5 = y10_5 := q17.symm
  subst e32
  have e33 : s6 = y10_6 := q18.symm
  subst e33
  have e34 : s7 = y10_7 := q19.symm
  subst e34
  have e35 : s8 = y10_8 := q20.symm
  subst e35
  have e36 : s9 = y10_9 := q21.symm
  subst e36
  have e37 : s10 = y10_10 := q22.symm
  subst e37
  have e38 : s11 = y10_11 := q23.symm
  subst e38
  have e39 : s12 = y10_12 := q24.symm
  subst e39
  have e40 : s14 = y10_14 := q25.symm
  subst e40
  have e41 : s15 = y10_15 := q26.symm
  subst e41
  have e42 : s16 = y10_16 := q27.symm
  subst e42
  have g43 := zz_rg y10_13
  show zz_W9p (s4) (y10_4) (s15) (s16) 0 s13.toInt ∧ y10_13.toInt = 0 ∧ s0 = s0 ∧ s1 = s1 ∧ s2 = s2 ∧ s3 = s3 ∧ s5 = s5 ∧ s6 = s6 ∧ s7 = s7 ∧ s8 = s8 ∧ s9 = s9 ∧ s10 = s10 ∧ s11 = s11 ∧ s12 = s12 ∧ s14 = s14 ∧ s15 = s15 ∧ s16 = s16
  exact ⟨(by assumption), q12, rfl, rfl, rfl, rfl, rfl, rfl, rfl, rfl, rfl, rfl, rfl, rfl, rfl, rfl, rfl⟩
set_option maxHeartbeats 4000000 in
theorem gg_X6_take (K : Nat) (hK : 1099511627776 ≤ K) (T : Nat) (hT : T ≤ 900) (n0 : Nat) (n1 : Nat) (n2 : Nat) (n3 : Nat) (n4 : Nat) (n5 : Nat) (n6 : Nat) (n7 : Nat) (n8 : Nat) (p1 : Int32) (s0 : Int32) (s1 : Int32) (s2 : Int32) (s3 : Int32) (s4 : Nat → Int32) (s5 : Nat → Int32) (s6 : Nat → Int32) (s7 : Nat → Int32) (s8 : Nat → Int32) (s9 : Int32) (s10 : Int32) (s11 : Nat → Int32) (s12 : Nat → Int32) (s13 : Int32) (s14 : Int32) (s15 : Nat → Int32) (s16 : Nat → Int32) (a0 : n0 = 1024) (a1 : n1 = 200) (a2 : n2 = 200) (a3 : n3 = 200) (a4 : n4 = 200) (a5 : n5 = 512) (a6 : n6 = 512) (a7 : 0 ≤ s0.toInt) (a8 : s0.toInt ≤ 1024) (a9 : n7 = 1024) (a10 : n8 = 1024) (a11 : 0 ≤ s13.toInt) (a12 : s13.toInt ≤ 1024) (a13 : zz_vs s0.toInt (s15) (s16) s13.toInt) (a14 : 1 ≤ p1.toInt) (a15 : p1.toInt ≤ 1024) : zz_ok (m_X6_take K n0 n1 n2 n3 n4 n5 n6 n7 n8 p1 s0 s1 s2 s3 s4 s5 s6 s7 s8 s9 s10 s11 s12 s13 s14 s15 s16) (fun z => zz_k9 s0.toInt (s4) (z.2.2.2.2.2.1) (s15) (s16) s13.toInt (z.2.2.2.2.2.2.2.2.2.2.2.2.2.2.2.2.1) (z.2.2.2.2.2.2.2.2.2.2.2.2.2.2.2.2.2) z.2.2.2.2.2.2.2.2.2.2.2.2.2.2.1.toInt p1.toInt z.1.toInt ∧ -1 ≤ z.1.toInt ∧ z.1.toInt ≤ 1024 ∧ z.2.1 = s0 ∧ z.2.2.1 = s1 ∧ z.2.2.2.1 = s2 ∧ z.2.2.2.2.2.2.1 = s5 ∧ z.2.2.2.2.2.2.2.1 = s6 ∧ z.2.2.2.2.2.2.2.2.1 = s7 ∧ z.2.2.2.2.2.2.2.2.2.1 = s8 ∧ z.2.2.2.2.2.2.2.2.2.2.2.2.2.2.2.1 = s14) := by
  have g1 := zz_rg p1
  have g2 := zz_rg s0
  have g3 := zz_rg s1
  have g4 := zz_rg s2
  have g5 := zz_rg s3
  have g6 := zz_rg s9
  have g7 := zz_rg s10
  have g8 := zz_rg s13
  have g9 := zz_rg s14
  unfold m_X6_take
  refine zz_ok_bind (gg_X6_takeQuick K hK T hT n0 n1 n2 n3 n4 n5 n6 n7 n8 p1 s0 s1 s2 s3 s4 s5 s6 s7 s8 s9 s10 s11 s12 s13 s14 s15 s16 a0 a1 a2 a3 a4 a5 a6 a7 a8 a9 a10 a11 a12 a13 a14) ?_
  intro z10 hz10
  obtain ⟨r_1, t_1_0, t_1_1, t_1_2, t_1_3, t_1_4, t_1_5, t_1_6, t_1_7, t_1_8, t_1_9, t_1_10, t_1_11, t_1_12, t_1_13, t_1_14, t_1_15, t_1_16⟩ := z10
  have q11 : zz_tq (s15) (s16) s13.toInt (t_1_15) (t_1_16) t_1_13.toInt p1.toInt (s13.toInt - 1) r_1.toInt := hz10.1
  have q12 : zz_vs s0.toInt (t_1_15) (t_1_16) t_1_13.toInt := hz10.2.1
  have q13 : 0 ≤ t_1_13.toInt := hz10.2.2.1
  have q14 : t_1_13.toInt ≤ s13.toInt := hz10.2.2.2.1
  have q15 : -1 ≤ r_1.toInt := hz10.2.2.2.2.1
  have q16 : (r_1.toInt = -1 ∨ r_1.toInt + p1.toInt ≤ s0.toInt) := hz10.2.2.2.2.2.1
  have q17 : t_1_0 = s0 := hz10.2.2.2.2.2.2.1
  have q18 : t_1_1 = s1 := hz10.2.2.2.2.2.2.2.1
  have q19 : t_1_2 = s2 := hz10.2.2.2.2.2.2.2.2.1
  have q20 : t_1_3 = s3 := hz10.2.2.2.2.2.2.2.2.2.1
  have q21 : t_1_4 = s4 := hz10.2.2.2.2.2.2.2.2.2.2.1
  have q22 : t_1_5 = s5 := hz10.2.2.2.2.2.2.2.2.2.2.2.1
  have q23 : t_1_6 = s6 := hz10.2.2.2.2.2.2.2.2.2.2.2.2.1
  have q24 : t_1_7 = s7 := hz10.2.2.2.2.2.2.2.2.2.2.2.2.2.1
  have q25 : t_1_8 = s8 := hz10.2.2.2.2.2.2.2.2.2.2.2.2.2.2.1
  have q26 : t_1_9 = s9 := hz10.2.2.2.2.2.2.2.2.2.2.2.2.2.2.2.1
  have q27 : t_1_10 = s10 := hz10.2.2.2.2.2.2.2.2.2.2.2.2.2.2.2.2.1
  have q28 : t_1_11 = s11 := hz10.2.2.2.2.2.2.2.2.2.2.2.2.2.2.2.2.2.1
  have q29 : t_1_12 = s12 := hz10.2.2.2.2.2.2.2.2.2.2.2.2.2.2.2.2.2.2.1
  have q30 : t_1_14 = s14 := hz10.2.2.2.2.2.2.2.2.2.2.2.2.2.2.2.2.2.2.2
  clear hz10
  have e31 : s0 = t_1_0 := q17.symm
  subst e31
  have e32 : s1 = t_1_1 := q18.symm
  subst e32
  have e33 : s2 = t_1_2 := q19.symm
  subst e33
  have e34 : s3 = t_1_3 := q20.symm
  subst e34
  have e35 : s4 = t_1_4 := q21.symm
  subst e35
  have e36 : s5 = t_1_5 := q22.symm
  subst e36
  have e37 : s6 = t_1_6 := q23.symm
  subst e37
  have e38 : s7 = t_1_7 := q24.symm
  subst e38
  have e39 : s8 = t_1_8 := q25.symm
  subst e39
  have e40 : s9 = t_1_9 := q26.symm
  subst e40
  have e41 : s10 = t_1_10 := q27.symm
  subst e41
  have e42 : s11 = t_1_11 := q28.symm
  subst e42
  have e43 : s12 = t_1_12 := q29.symm
  subst e43
  have e44 : s14 = t_1_14 := q30.symm
  subst e44
  have g45 := zz_rg r_1
  have g46 := zz_rg t_1_13
  show zz_ok (if r_1 = ((-1 : Int32)) then ((m_X6_takeFirst K n0 n1 n2 n3 n4 n5 n6 n7 n8 p1 s0 s1 s2 s3 s4 s5 s6 s7 s8 s9 s10 s11 s12 t_1_13 s14 t_1_15 t_1_16).bind fun ⟨r_6, t_6_0, t_6_1, t_6_2, t_6_3, t_6_4, t_6_5, t_6_6, t_6_7, t_6_8, t_6_9, t_6_10, t_6_11, t_6_12, t_6_13, t_6_14, t_6_15, t_6_16⟩ => if r_6 = ((-1 : Int32)) then ((m_X6_emptyRows K n0 n1 n2 n3 n4 n5 n6 n7 n8 t_6_0 t_6_1 t_6_2 t_6_3 t_6_4 t_6_5 t_6_6 t_6_7 t_6_8 t_6_9 t_6_10 t_6_11 t_6_12 t_6_13 t_6_14 t_6_15 t_6_16).bind fun ⟨t_8_0, t_8_1, t_8_2, t_8_3, t_8_4, t_8_5, t_8_6, t_8_7, t_8_8, t_8_9, t_8_10, t_8_11, t_8_12, t_8_13, t_8_14, t_8_15, t_8_16⟩ => (m_X6_takeFirst K n0 n1 n2 n3 n4 n5 n6 n7 n8 p1 t_8_0 t_8_1 t_8_2 t_8_3 t_8_4 t_8_5 t_8_6 t_8_7 t_8_8 t_8_9 t_8_10 t_8_11 t_8_12 t_8_13 t_8_14 t_8_15 t_8_16).bind fun ⟨r_9, t_9_0, t_9_1, t_9_2, t_9_3, t_9_4, t_9_5, t_9_6, t_9_7, t_9_8, t_9_9, t_9_10, t_9_11, t_9_12, t_9_13, t_9_14, t_9_15, t_9_16⟩ => some (r_9, t_9_0, t_9_1, t_9_2, t_9_3, t_9_4, t_9_5, t_9_6, t_9_7, t_9_8, t_9_9, t_9_10, t_9_11, t_9_12, t_9_13, t_9_14, t_9_15, t_9_16)) else (some (r_6, t_6_0, t_6_1, t_6_2, t_6_3, t_6_4, t_6_5, t_6_6, t_6_7, t_6_8, t_6_9, t_6_10, t_6_11, t_6_12, t_6_13, t_6_14, t_6_15, t_6_16))) else (if r_1 = ((-1 : Int32)) then ((m_X6_emptyRows K n0 n1 n2 n3 n4 n5 n6 n7 n8 s0 s1 s2 s3 s4 s5 s6 s7 s8 s9 s10 s11 s12 t_1_13 s14 t_1_15 t_1_16).bind fun ⟨t_4_0, t_4_1, t_4_2, t_4_3, t_4_4, t_4_5, t_4_6, t_4_7, t_4_8, t_4_9, t_4_10, t_4_11, t_4_12, t_4_13, t_4_14, t_4_15, t_4_16⟩ => (m_X6_takeFirst K n0 n1 n2 n3 n4 n5 n6 n7 n8 p1 t_4_0 t_4_1 t_4_2 t_4_3 t_4_4 t_4_5 t_4_6 t_4_7 t_4_8 t_4_9 t_4_10 t_4_11 t_4_12 t_4_13 t_4_14 t_4_15 t_4_16).bind fun ⟨r_5, t_5_0, t_5_1, t_5_2, t_5_3, t_5_4, t_5_5, t_5_6, t_5_7, t_5_8, t_5_9, t_5_10, t_5_11, t_5_12, t_5_13, t_5_14, t_5_15, t_5_16⟩ => some (r_5, t_5_0, t_5_1, t_5_2, t_5_3, t_5_4, t_5_5, t_5_6, t_5_7, t_5_8, t_5_9, t_5_10, t_5_11, t_5_12, t_5_13, t_5_14, t_5_15, t_5_16)) else (some (r_1, s0, s1, s2, s3, s4, s5, s6, s7, s8, s9, s10, s11, s12, t_1_13, s14, t_1_15, t_1_16)))) _
  have l48 : (-1 : Int32).toInt = -1 := rfl
  refine zz_ok_ite (fun c47 => ?_) (fun c47 => ?_)
  · have c47 := congrArg Int32.toInt c47
    refine zz_ok_bind (gg_X6_takeFirst K hK T hT n0 n1 n2 n3 n4 n5 n6 n7 n8 p1 s0 s1 s2 s3 s4 s5 s6 s7 s8 s9 s10 s11 s12 t_1_13 s14 t_1_15 t_1_16 a0 a1 a2 a3 a4 a5 a6 a7 a8 a14 a15) ?_
    intro z49 hz49
    obtain ⟨r_6, t_6_0, t_6_1, t_6_2, t_6_3, t_6_4, t_6_5, t_6_6, t_6_7, t_6_8, t_6_9, t_6_10, t_6_11, t_6_12, t_6_13, t_6_14, t_6_15, t_6_16⟩ := z49
    have q50 : zz_ff s0.toInt (s4) p1.toInt 0 s0.toInt r_6.toInt := hz49.1
    have q51 : -1 ≤ r_6.toInt := hz49.2.1
    have q52 : r_6.toInt ≤ 1024 := hz49.2.2.1
    have q53 : t_6_0 = s0 := hz49.2.2.2.1
    have q54 : t_6_1 = s1 := hz49.2.2.2.2.1
    have q55 : t_6_2 = s2 := hz49.2.2.2.2.2.1
    have q56 : t_6_4 = s4 := hz49.2.2.2.2.2.2.1
    have q57 : t_6_5 = s5 := hz49.2.2.2.2.2.2.2.1
    have q58 : t_6_6 = s6 := hz49.2.2.2.2.2.2.2.2.1
    have q59 : t_6_7 = s7 := hz49.2.2.2.2.2.2.2.2.2.1
    have q60 : t_6_8 = s8 := hz49.2.2.2.2.2.2.2.2.2.2.1
    have q61 : t_6_13 = t_1_13 := hz49.2.2.2.2.2.2.2.2.2.2.2.1
    have q62 : t_6_14 = s14 := hz49.2.2.2.2.2.2.2.2.2.2.2.2.1
    have q63 : t_6_15 = t_1_15 := hz49.2.2.2.2.2.2.2.2.2.2.2.2.2.1
    have q64 : t_6_16 = t_1_16 := hz49.2.2.2.2.2.2.2.2.2.2.2.2.2.2
    clear hz49
    have e65 : s0 = t_6_0 := q53.symm
    subst e65
    have e66 : s1 = t_6_1 := q54.symm
    subst e66
    have e67 : s2 = t_6_2 := q55.symm
    subst e67
    have e68 : s4 = t_6_4 := q56.symm
    subst e68
    have e69 : s5 = t_6_5 := q57.symm
    subst e69
    have e70 : s6 = t_6_6 := q58.symm
    subst e70
    have e71 : s7 = t_6_7 := q59.symm
    subst e71
    have e72 : s8 = t_6_8 := q60.symm
    subst e72
    have e73 : t_1_13 = t_6_13 := q61.symm
    subst e73
    have e74 : s14 = t_6_14 := q62.symm
    subst e74
    have e75 : t_1_15 = t_6_15 := q63.symm
    subst e75
    have e76 : t_1_16 = t_6_16 := q64.symm
    subst e76
    have g77 := zz_rg r_6
    have g78 := zz_rg t_6_3
    have g79 := zz_rg t_6_9
    have g80 := zz_rg t_6_10
    show zz_ok (if r_6 = ((-1 : Int32)) then ((m_X6_emptyRows K n0 n1 n2 n3 n4 n5 n6 n7 n8 s0 s1 s2 t_6_3 s4 s5 s6 s7 s8 t_6_9 t_6_10 t_6_11 t_6_12 t_1_13 s14 t_1_15 t_1_16).bind fun ⟨t_8_0, t_8_1, t_8_2, t_8_3, t_8_4, t_8_5, t_8_6, t_8_7, t_8_8, t_8_9, t_8_10, t_8_11, t_8_12, t_8_13, t_8_14, t_8_15, t_8_16⟩ => (m_X6_takeFirst K n0 n1 n2 n3 n4 n5 n6 n7 n8 p1 t_8_0 t_8_1 t_8_2 t_8_3 t_8_4 t_8_5 t_8_6 t_8_7 t_8_8 t_8_9 t_8_10 t_8_11 t_8_12 t_8_13 t_8_14 t_8_15 t_8_16).bind fun ⟨r_9, t_9_0, t_9_1, t_9_2, t_9_3, t_9_4, t_9_5, t_9_6, t_9_7, t_9_8, t_9_9, t_9_10, t_9_11, t_9_12, t_9_13, t_9_14, t_9_15, t_9_16⟩ => some (r_9, t_9_0, t_9_1, t_9_2, t_9_3, t_9_4, t_9_5, t_9_6, t_9_7, t_9_8, t_9_9, t_9_10, t_9_11, t_9_12, t_9_13, t_9_14, t_9_15, t_9_16)) else (some (r_6, s0, s1, s2, t_6_3, s4, s5, s6, s7, s8, t_6_9, t_6_10, t_6_11, t_6_12, t_1_13, s14, t_1_15, t_1_16))) _
    refine zz_ok_ite (fun c81 => ?_) (fun c81 => ?_)
    · have c81 := congrArg Int32.toInt c81
      refine zz_ok_bind (gg_X6_emptyRows K hK T hT n0 n1 n2 n3 n4 n5 n6 n7 n8 s0 s1 s2 t_6_3 s4 s5 s6 s7 s8 t_6_9 t_6_10 t_6_11 t_6_12 t_1_13 s14 t_1_15 t_1_16 a0 a1 a2 a3 a4 a5 a6 a7 a8 a9 a10 q13 (by omega) q12) ?_
      intro z82 hz82
      obtain ⟨t_8_0, t_8_1, t_8_2, t_8_3, t_8_4, t_8_5, t_8_6, t_8_7, t_8_8, t_8_9, t_8_10, t_8_11, t_8_12, t_8_13, t_8_14, t_8_15, t_8_16⟩ := z82
      have q83 : zz_W9p (s4) (t_8_4) (t_1_15) (t_1_16) 0 t_1_13.toInt := hz82.1
      have q84 : t_8_13.toInt = 0 := hz82.2.1
      have q85 : t_8_0 = s0 := hz82.2.2.1
      have q86 : t_8_1 = s1 := hz82.2.2.2.1
      have q87 : t_8_2 = s2 := hz82.2.2.2.2.1
      have q88 : t_8_3 = t_6_3 := hz82.2.2.2.2.2.1
      have q89 : t_8_5 = s5 := hz82.2.2.2.2.2.2.1
      have q90 : t_8_6 = s6 := hz82.2.2.2.2.2.2.2.1
      have q91 : t_8_7 = s7 := hz82.2.2.2.2.2.2.2.2.1
      have q92 : t_8_8 = s8 := hz82.2.2.2.2.2.2.2.2.2.1
      have q93 : t_8_9 = t_6_9 := hz82.2.2.2.2.2.2.2.2.2.2.1
      have q94 : t_8_10 = t_6_10 := hz82.2.2.2.2.2.2.2.2.2.2.2.1
      have q95 : t_8_11 = t_6_11 := hz82.2.2.2.2.2.2.2.2.2.2.2.2.1
      have q96 : t_8_12 = t_6_12 := hz82.2.2.2.2.2.2.2.2.2.2.2.2.2.1
      have q97 : t_8_14 = s14 := hz82.2.2.2.2.2.2.2.2.2.2.2.2.2.2.1
      have q98 : t_8_15 = t_1_15 := hz82.2.2.2.2.2.2.2.2.2.2.2.2.2.2.2.1
      have q99 : t_8_16 = t_1_16 := hz82.2.2.2.2.2.2.2.2.2.2.2.2.2.2.2.2
      clear hz82
      have e100 : s0 = t_8_0 := q85.symm
      subst e100
      have e101 : s1 = t_8_1 := q86.symm
      subst e101
      have e102 : s2 = t_8_2 := q87.symm
      subst e102
      have e103 : t_6_3 = t_8_3 := q88.symm
      subst e103
      have e104 : s5 = t_8_5 := q89.symm
      subst e104
      have e105 : s6 = t_8_6 := q90.symm
      subst e105
      have e106 : s7 = t_8_7 := q91.symm
      subst e106
      have e107 : s8 = t_8_8 := q92.symm
      subst e107
      have e108 : t_6_9 = t_8_9 := q93.symm
      subst e108
      have e109 : t_6_10 = t_8_10 := q94.symm
      subst e109
      have e110 : t_6_11 = t_8_11 := q95.symm
      subst e110
      have e111 : t_6_12 = t_8_12 := q96.symm
      subst e111
      have e112 : s14 = t_8_14 := q97.symm
      subst e112
      have e113 : t_1_15 = t_8_15 := q98.symm
      subst e113
      have e114 : t_1_16 = t_8_16 := q99.symm
      subst e114
      have g115 := zz_rg t_8_13
      show zz_ok ((m_X6_takeFirst K n0 n1 n2 n3 n4 n5 n6 n7 n8 p1 s0 s1 s2 t_6_3 t_8_4 s5 s6 s7 s8 t_6_9 t_6_10 t_6_11 t_6_12 t_8_13 s14 t_1_15 t_1_16).bind fun ⟨r_9, t_9_0, t_9_1, t_9_2, t_9_3, t_9_4, t_9_5, t_9_6, t_9_7, t_9_8, t_9_9, t_9_10, t_9_11, t_9_12, t_9_13, t_9_14, t_9_15, t_9_16⟩ => some (r_9, t_9_0, t_9_1, t_9_2, t_9_3, t_9_4, t_9_5, t_9_6, t_9_7, t_9_8, t_9_9, t_9_10, t_9_11, t_9_12, t_9_13, t_9_14, t_9_15, t_9_16)) _
      refine zz_ok_bind (gg_X6_takeFirst K hK T hT n0 n1 n2 n3 n4 n5 n6 n7 n8 p1 s0 s1 s2 t_6_3 t_8_4 s5 s6 s7 s8 t_6_9 t_6_10 t_6_11 t_6_12 t_8_13 s14 t_1_15 t_1_16 a0 a1 a2 a3 a4 a5 a6 a7 a8 a14 a15) ?_
      intro z116 hz116
      obtain ⟨r_9, t_9_0, t_9_1, t_9_2, t_9_3, t_9_4, t_9_5, t_9_6, t_9_7, t_9_8, t_9_9, t_9_10, t_9_11, t_9_12, t_9_13, t_9_14, t_9_15, t_9_16⟩ := z116
      have q117 : zz_ff s0.toInt (t_8_4) p1.toInt 0 s0.toInt r_9.toInt := hz116.1
      have q118 : -1 ≤ r_9.toInt := hz116.2.1
      have q119 : r_9.toInt ≤ 1024 := hz116.2.2.1
      have q120 : t_9_0 = s0 := hz116.2.2.2.1
      have q121 : t_9_1 = s1 := hz116.2.2.2.2.1
      have q122 : t_9_2 = s2 := hz116.2.2.2.2.2.1
      have q123 : t_9_4 = t_8_4 := hz116.2.2.2.2.2.2.1
      have q124 : t_9_5 = s5 := hz116.2.2.2.2.2.2.2.1
      have q125 : t_9_6 = s6 := hz116.2.2.2.2.2.2.2.2.1
      have q126 : t_9_7 = s7 := hz116.2.2.2.2.2.2.2.2.2.1
      have q127 : t_9_8 = s8 := hz116.2.2.2.2.2.2.2.2.2.2.1
      have q128 : t_9_13 = t_8_13 := hz116.2.2.2.2.2.2.2.2.2.2.2.1
      have q129 : t_9_14 = s14 := hz116.2.2.2.2.2.2.2.2.2.2.2.2.1
      have q130 : t_9_15 = t_1_15 := hz116.2.2.2.2.2.2.2.2.2.2.2.2.2.1
      have q131 : t_9_16 = t_1_16 := hz116.2.2.2.2.2.2.2.2.2.2.2.2.2.2
      clear hz116
      have e132 : s0 = t_9_0 := q120.symm
      subst e132
      have e133 : s1 = t_9_1 := q121.symm
      subst e133
      have e134 : s2 = t_9_2 := q122.symm
      subst e134
      have e135 : t_8_4 = t_9_4 := q123.symm
      subst e135
      have e136 : s5 = t_9_5 := q124.symm
      subst e136
      have e137 : s6 = t_9_6 := q125.symm
      subst e137
      have e138 : s7 = t_9_7 := q126.symm
      subst e138
      have e139 : s8 = t_9_8 := q127.symm
      subst e139
      have e140 : t_8_13 = t_9_13 := q128.symm
      subst e140
      have e141 : s14 = t_9_14 := q129.symm
      subst e141
      have e142 : t_1_15 = t_9_15 := q130.symm
      subst e142
      have e143 : t_1_16 = t_9_16 := q131.symm
      subst e143
      have g144 := zz_rg r_9
      have g145 := zz_rg t_9_3
      have g146 := zz_rg t_9_9
      have g147 := zz_rg t_9_10
      show zz_ok (some (r_9, s0, s1, s2, t_9_3, t_8_4, s5, s6, s7, s8, t_9_9, t_9_10, t_9_11, t_9_12, t_8_13, s14, t_1_15, t_1_16)) _
      refine zz_ok_some ?_
      show zz_k9 s0.toInt (s4) (t_8_4) (s15) (s16) s13.toInt (t_1_15) (t_1_16) t_8_13.toInt p1.toInt r_9.toInt ∧ -1 ≤ r_9.toInt ∧ r_9.toInt ≤ 1024 ∧ s0 = s0 ∧ s1 = s1 ∧ s2 = s2 ∧ s5 = s5 ∧ s6 = s6 ∧ s7 = s7 ∧ s8 = s8 ∧ s14 = s14
      exact ⟨(by first | exact Or.inl ⟨by omega, rfl, by assumption⟩ | exact zz_k9_a (by assumption) (by assumption) (by assumption) (by omega) (by omega) (by omega) | exact zz_k9_b (by assumption) (by assumption) (by assumption) (by assumption) (by assumption) (by omega) (by omega) (by omega) (by omega) | (exfalso; omega)), q118, q119, rfl, rfl, rfl, rfl, rfl, rfl, rfl, rfl⟩
    · have c81 := zz_neq c81
      refine zz_ok_some ?_
      show zz_k9 s0.toInt (s4) (s4) (s15) (s16) s13.toInt (t_1_15) (t_1_16) t_1_13.toInt p1.toInt r_6.toInt ∧ -1 ≤ r_6.toInt ∧ r_6.toInt ≤ 1024 ∧ s0 = s0 ∧ s1 = s1 ∧ s2 = s2 ∧ s5 = s5 ∧ s6 = s6 ∧ s7 = s7 ∧ s8 = s8 ∧ s14 = s14
      exact ⟨(by first | exact Or.inl ⟨by omega, rfl, by assumption⟩ | exact zz_k9_a (by assumption) (by assumption) (by assumption) (by omega) (by omega) (by omega) | exact zz_k9_b (by assumption) (by assumption) (by assumption) (by assumption) (by assumption) (by omega) (by omega) (by omega) (by omega) | (exfalso; omega)), q51, q52, rfl, rfl, rfl, rfl, rfl, rfl, rfl, rfl⟩
  · have c47 := zz_neq c47
    refine zz_ok_ite (fun c148 => ?_) (fun c148 => ?_)
    · have c148 := congrArg Int32.toInt c148
      refine zz_ok_bind (gg_X6_emptyRows K hK T hT n0 n1 n2 n3 n4 n5 n6 n7 n8 s0 s1 s2 s3 s4 s5 s6 s7 s8 s9 s10 s11 s12 t_1_13 s14 t_1_15 t_1_16 a0 a1 a2 a3 a4 a5 a6 a7 a8 a9 a10 q13 (by omega) q12) ?_
      intro z149 hz149
      obtain ⟨t_4_0, t_4_1, t_4_2, t_4_3, t_4_4, t_4_5, t_4_6, t_4_7, t_4_8, t_4_9, t_4_10, t_4_11, t_4_12, t_4_13, t_4_14, t_4_15, t_4_16⟩ := z149
      have q150 : zz_W9p (s4) (t_4_4) (t_1_15) (t_1_16) 0 t_1_13.toInt := hz149.1
      have q151 : t_4_13.toInt = 0 := hz149.2.1
      have q152 : t_4_0 = s0 := hz149.2.2.1
      have q153 : t_4_1 = s1 := hz149.2.2.2.1
      have q154 : t_4_2 = s2 := hz149.2.2.2.2.1
      have q155 : t_4_3 = s3 := hz149.2.2.2.2.2.1
      have q156 : t_4_5 = s5 := hz149.2.2.2.2.2.2.1
      have q157 : t_4_6 = s6 := hz149.2.2.2.2.2.2.2.1
      have q158 : t_4_7 = s7 := hz149.2.2.2.2.2.2.2.2.1
      have q159 : t_4_8 = s8 := hz149.2.2.2.2.2.2.2.2.2.1
      have q160 : t_4_9 = s9 := hz149.2.2.2.2.2.2.2.2.2.2.1
      have q161 : t_4_10 = s10 := hz149.2.2.2.2.2.2.2.2.2.2.2.1
      have q162 : t_4_11 = s11 := hz149.2.2.2.2.2.2.2.2.2.2.2.2.1
      have q163 : t_4_12 = s12 := hz149.2.2.2.2.2.2.2.2.2.2.2.2.2.1
      have q164 : t_4_14 = s14 := hz149.2.2.2.2.2.2.2.2.2.2.2.2.2.2.1
      have q165 : t_4_15 = t_1_15 := hz149.2.2.2.2.2.2.2.2.2.2.2.2.2.2.2.1
      have q166 : t_4_16 = t_1_16 := hz149.2.2.2.2.2.2.2.2.2.2.2.2.2.2.2.2
      clear hz149
      have e167 : s0 = t_4_0 := q152.symm
      subst e167
      have e168 : s1 = t_4_1 := q153.symm
      subst e168
      have e169 : s2 = t_4_2 := q154.symm
      subst e169
      have e170 : s3 = t_4_3 := q155.symm
      subst e170
      have e171 : s5 = t_4_5 := q156.symm
      subst e171
      have e172 : s6 = t_4_6 := q157.symm
      subst e172
      have e173 : s7 = t_4_7 := q158.symm
      subst e173
      have e174 : s8 = t_4_8 := q159.symm
      subst e174
      have e175 : s9 = t_4_9 := q160.symm
      subst e175
      have e176 : s10 = t_4_10 := q161.symm
      subst e176
      have e177 : s11 = t_4_11 := q162.symm
      subst e177
      have e178 : s12 = t_4_12 := q163.symm
      subst e178
      have e179 : s14 = t_4_14 := q164.symm
      subst e179
      have e180 : t_1_15 = t_4_15 := q165.symm
      subst e180
      have e181 : t_1_16 = t_4_16 := q166.symm
      subst e181
      have g182 := zz_rg t_4_13
      show zz_ok ((m_X6_takeFirst K n0 n1 n2 n3 n4 n5 n6 n7 n8 p1 s0 s1 s2 s3 t_4_4 s5 s6 s7 s8 s9 s10 s11 s12 t_4_13 s14 t_1_15 t_1_16).bind fun ⟨r_5, t_5_0, t_5_1, t_5_2, t_5_3, t_5_4, t_5_5, t_5_6, t_5_7, t_5_8, t_5_9, t_5_10, t_5_11, t_5_12, t_5_13, t_5_14, t_5_15, t_5_16⟩ => some (r_5, t_5_0, t_5_1, t_5_2, t_5_3, t_5_4, t_5_5, t_5_6, t_5_7, t_5_8, t_5_9, t_5_10, t_5_11, t_5_12, t_5_13, t_5_14, t_5_15, t_5_16)) _
      refine zz_ok_bind (gg_X6_takeFirst K hK T hT n0 n1 n2 n3 n4 n5 n6 n7 n8 p1 s0 s1 s2 s3 t_4_4 s5 s6 s7 s8 s9 s10 s11 s12 t_4_13 s14 t_1_15 t_1_16 a0 a1 a2 a3 a4 a5 a6 a7 a8 a14 a15) ?_
      intro z183 hz183
      obtain ⟨r_5, t_5_0, t_5_1, t_5_2, t_5_3, t_5_4, t_5_5, t_5_6, t_5_7, t_5_8, t_5_9, t_5_10, t_5_11, t_5_12, t_5_13, t_5_14, t_5_15, t_5_16⟩ := z183
      have q184 : zz_ff s0.toInt (t_4_4) p1.toInt 0 s0.toInt r_5.toInt := hz183.1
      have q185 : -1 ≤ r_5.toInt := hz183.2.1
      have q186 : r_5.toInt ≤ 1024 := hz183.2.2.1
      have q187 : t_5_0 = s0 := hz183.2.2.2.1
      have q188 : t_5_1 = s1 := hz183.2.2.2.2.1
      have q189 : t_5_2 = s2 := hz183.2.2.2.2.2.1
      have q190 : t_5_4 = t_4_4 := hz183.2.2.2.2.2.2.1
      have q191 : t_5_5 = s5 := hz183.2.2.2.2.2.2.2.1
      have q192 : t_5_6 = s6 := hz183.2.2.2.2.2.2.2.2.1
      have q193 : t_5_7 = s7 := hz183.2.2.2.2.2.2.2.2.2.1
      have q194 : t_5_8 = s8 := hz183.2.2.2.2.2.2.2.2.2.2.1
      have q195 : t_5_13 = t_4_13 := hz183.2.2.2.2.2.2.2.2.2.2.2.1
      have q196 : t_5_14 = s14 := hz183.2.2.2.2.2.2.2.2.2.2.2.2.1
      have q197 : t_5_15 = t_1_15 := hz183.2.2.2.2.2.2.2.2.2.2.2.2.2.1
      have q198 : t_5_16 = t_1_16 := hz183.2.2.2.2.2.2.2.2.2.2.2.2.2.2
      clear hz183
      have e199 : s0 = t_5_0 := q187.symm
      subst e199
      have e200 : s1 = t_5_1 := q188.symm
      subst e200
      have e201 : s2 = t_5_2 := q189.symm
      subst e201
      have e202 : t_4_4 = t_5_4 := q190.symm
      subst e202
      have e203 : s5 = t_5_5 := q191.symm
      subst e203
      have e204 : s6 = t_5_6 := q192.symm
      subst e204
      have e205 : s7 = t_5_7 := q193.symm
      subst e205
      have e206 : s8 = t_5_8 := q194.symm
      subst e206
      have e207 : t_4_13 = t_5_13 := q195.symm
      subst e207
      have e208 : s14 = t_5_14 := q196.symm
      subst e208
      have e209 : t_1_15 = t_5_15 := q197.symm
      subst e209
      have e210 : t_1_16 = t_5_16 := q198.symm
      subst e210
      have g211 := zz_rg r_5
      have g212 := zz_rg t_5_3
      have g213 := zz_rg t_5_9
      have g214 := zz_rg t_5_10
      show zz_ok (some (r_5, s0, s1, s2, t_5_3, t_4_4, s5, s6, s7, s8, t_5_9, t_5_10, t_5_11, t_5_12, t_4_13, s14, t_1_15, t_1_16)) _
      refine zz_ok_some ?_
      show zz_k9 s0.toInt (s4) (t_4_4) (s15) (s16) s13.toInt (t_1_15) (t_1_16) t_4_13.toInt p1.toInt r_5.toInt ∧ -1 ≤ r_5.toInt ∧ r_5.toInt ≤ 1024 ∧ s0 = s0 ∧ s1 = s1 ∧ s2 = s2 ∧ s5 = s5 ∧ s6 = s6 ∧ s7 = s7 ∧ s8 = s8 ∧ s14 = s14
      exact ⟨(by first | exact Or.inl ⟨by omega, rfl, by assumption⟩ | exact zz_k9_a (by assumption) (by assumption) (by assumption) (by omega) (by omega) (by omega) | exact zz_k9_b (by assumption) (by assumption) (by assumption) (by assumption) (by assumption) (by omega) (by omega) (by omega) (by omega) | (exfalso; omega)), q185, q186, rfl, rfl, rfl, rfl, rfl, rfl, rfl, rfl⟩
    · have c148 := zz_neq c148
      refine zz_ok_some ?_
      show zz_k9 s0.toInt (s4) (s4) (s15) (s16) s13.toInt (t_1_15) (t_1_16) t_1_13.toInt p1.toInt r_1.toInt ∧ -1 ≤ r_1.toInt ∧ r_1.toInt ≤ 1024 ∧ s0 = s0 ∧ s1 = s1 ∧ s2 = s2 ∧ s5 = s5 ∧ s6 = s6 ∧ s7 = s7 ∧ s8 = s8 ∧ s14 = s14
      exact ⟨(by first | exact Or.inl ⟨by omega, rfl, by assumption⟩ | exact zz_k9_a (by assumption) (by assumption) (by assumption) (by omega) (by omega) (by omega) | exact zz_k9_b (by assumption) (by assumption) (by assumption) (by assumption) (by assumption) (by omega) (by omega) (by omega) (by omega) | (exfalso; omega)), q15, (by omega), rfl, rfl, rfl, rfl, rfl, rfl, rfl, rfl⟩
set_option maxHeartbeats 4000000 in
theorem gg_X6_takeBack (K : Nat) (hK : 1099511627776 ≤ K) (T : Nat) (hT : T ≤ 900) (n0 : Nat) (n1 : Nat) (n2 : Nat) (n3 : Nat) (n4 : Nat) (n5 : Nat) (n6 : Nat) (n7 : Nat) (n8 : Nat) (p1 : Int32) (p2 : Int32) (s0 : Int32) (s1 : Int32) (s2 : Int32) (s3 : Int32) (s4 : Nat → Int32) (s5 : Nat → Int32) (s6 : Nat → Int32) (s7 : Nat → Int32) (s8 : Nat → Int32) (s9 : Int32) (s10 : Int32) (s11 : Nat → Int32) (s12 : Nat → Int32) (s13 : Int32) (s14 : Int32) (s15 : Nat → Int32) (s16 : Nat → Int32) (a0 : n0 = 1024) (a1 : n1 = 200) (a2 : n2 = 200) (a3 : n3 = 200) (a4 : n4 = 200) (a5 : n5 = 512) (a6 : n6 = 512) (a7 : 0 ≤ s0.toInt) (a8 : s0.toInt ≤ 1024) (a9 : n7 = 1024) (a10 : n8 = 1024) (a11 : 0 ≤ s13.toInt) (a12 : s13.toInt ≤ 1024) (a13 : zz_vs s0.toInt (s15) (s16) s13.toInt) (a14 : s13.toInt < 1024) (a15 : 0 ≤ p1.toInt) (a16 : 1 ≤ p2.toInt) (a17 : p1.toInt + p2.toInt ≤ s0.toInt) : zz_ok (m_X6_takeBack K n0 n1 n2 n3 n4 n5 n6 n7 n8 p1 p2 s0 s1 s2 s3 s4 s5 s6 s7 s8 s9 s10 s11 s12 s13 s14 s15 s16) (fun z => zz_tb9 (s4) (z.2.2.2.2.1) (s15) (s16) s13.toInt (z.2.2.2.2.2.2.2.2.2.2.2.2.2.2.2.1) (z.2.2.2.2.2.2.2.2.2.2.2.2.2.2.2.2) z.2.2.2.2.2.2.2.2.2.2.2.2.2.1.toInt (p1) (p2) ∧ zz_vs s0.toInt (z.2.2.2.2.2.2.2.2.2.2.2.2.2.2.2.1) (z.2.2.2.2.2.2.2.2.2.2.2.2.2.2.2.2) z.2.2.2.2.2.2.2.2.2.2.2.2.2.1.toInt ∧ z.1 = s0 ∧ z.2.1 = s1 ∧ z.2.2.1 = s2 ∧ z.2.2.2.1 = s3 ∧ z.2.2.2.2.2.1 = s5 ∧ z.2.2.2.2.2.2.1 = s6 ∧ z.2.2.2.2.2.2.2.1 = s7 ∧ z.2.2.2.2.2.2.2.2.1 = s8 ∧ z.2.2.2.2.2.2.2.2.2.1 = s9 ∧ z.2.2.2.2.2.2.2.2.2.2.1 = s10 ∧ z.2.2.2.2.2.2.2.2.2.2.2.1 = s11 ∧ z.2.2.2.2.2.2.2.2.2.2.2.2.1 = s12 ∧ z.2.2.2.2.2.2.2.2.2.2.2.2.2.2.1 = s14) := by
  have g1 := zz_rg p1
  have g2 := zz_rg p2
  have g3 := zz_rg s0
  have g4 := zz_rg s1
  have g5 := zz_rg s2
  have g6 := zz_rg s3
  have g7 := zz_rg s9
  have g8 := zz_rg s10
  have g9 := zz_rg s13
  have g10 := zz_rg s14
  have tn9 := zz_tnI s13 (by omega)
  unfold m_X6_takeBack
  have l12 : (8 : Int32).toInt = 8 := rfl
  refine zz_ok_ite (fun c11 => ?_) (fun c11 => ?_)
  · have c11 := Int32.lt_iff_toInt_lt.mp c11
    refine zz_ok_some ?_
    show zz_tb9 (s4) (s4) (s15) (s16) s13.toInt (s15) (s16) s13.toInt (p1) (p2) ∧ zz_vs s0.toInt (s15) (s16) s13.toInt ∧ s0 = s0 ∧ s1 = s1 ∧ s2 = s2 ∧ s3 = s3 ∧ s5 = s5 ∧ s6 = s6 ∧ s7 = s7 ∧ s8 = s8 ∧ s9 = s9 ∧ s10 = s10 ∧ s11 = s11 ∧ s12 = s12 ∧ s14 = s14
    exact ⟨(by first | exact Or.inl ⟨by omega, rfl, rfl, rfl, by omega⟩ | exact Or.inr ⟨by omega, by assumption, zz_upi rfl (by omega), zz_upi rfl (by omega), by omega⟩), a13, rfl, rfl, rfl, rfl, rfl, rfl, rfl, rfl, rfl, rfl, rfl, rfl, rfl⟩
  · have c11 := zz_nlt c11
    refine zz_ok_bind (ff_X10_add K hK T hT n7 n8 p1 p2 s13 s14 s15 s16 (by omega) (by omega) a11 (by omega) (by omega)) ?_
    intro z13 hz13
    obtain ⟨t_2_0, t_2_1, t_2_2, t_2_3⟩ := z13
    have q14 : t_2_0.toInt = s13.toInt + 1 := hz13.1
    have q15 : t_2_2 = upd s15 s13.toNatClampNeg p1 := hz13.2.1
    have q16 : t_2_3 = upd s16 s13.toNatClampNeg p2 := hz13.2.2.1
    have q17 : t_2_1 = s14 := hz13.2.2.2
    clear hz13
    have e18 : upd s15 s13.toNatClampNeg p1 = t_2_2 := q15.symm
    subst e18
    have e19 : upd s16 s13.toNatClampNeg p2 = t_2_3 := q16.symm
    subst e19
    have e20 : s14 = t_2_1 := q17.symm
    subst e20
    have g21 := zz_rg t_2_0
    show zz_ok ((m_X7_markQuick K n0 n1 n2 n3 n4 n5 n6 p1 p2 s0 s1 s2 s3 s4 s5 s6 s7 s8 s9 s10 s11 s12).bind fun ⟨t_3_0, t_3_1, t_3_2, t_3_3, t_3_4, t_3_5, t_3_6, t_3_7, t_3_8, t_3_9, t_3_10, t_3_11, t_3_12⟩ => some (t_3_0, t_3_1, t_3_2, t_3_3, t_3_4, t_3_5, t_3_6, t_3_7, t_3_8, t_3_9, t_3_10, t_3_11, t_3_12, t_2_0, s14, (upd s15 s13.toNatClampNeg p1), (upd s16 s13.toNatClampNeg p2))) _
    refine zz_ok_bind (gg_X7_markQuick K hK T hT n0 n1 n2 n3 n4 n5 n6 p1 p2 s0 s1 s2 s3 s4 s5 s6 s7 s8 s9 s10 s11 s12 a0 a15 (by omega) a17 a8) ?_
    intro z22 hz22
    obtain ⟨t_3_0, t_3_1, t_3_2, t_3_3, t_3_4, t_3_5, t_3_6, t_3_7, t_3_8, t_3_9, t_3_10, t_3_11, t_3_12⟩ := z22
    have q23 : zz_wr (s4) (t_3_4) p1.toInt (p1.toInt + p2.toInt) (-2) := hz22.1
    have q24 : t_3_0 = s0 := hz22.2.1
    have q25 : t_3_1 = s1 := hz22.2.2.1
    have q26 : t_3_2 = s2 := hz22.2.2.2.1
    have q27 : t_3_3 = s3 := hz22.2.2.2.2.1
    have q28 : t_3_5 = s5 := hz22.2.2.2.2.2.1
    have q29 : t_3_6 = s6 := hz22.2.2.2.2.2.2.1
    have q30 : t_3_7 = s7 := hz22.2.2.2.2.2.2.2.1
    have q31 : t_3_8 = s8 := hz22.2.2.2.2.2.2.2.2.1
    have q32 : t_3_9 = s9 := hz22.2.2.2.2.2.2.2.2.2.1
    have q33 : t_3_10 = s10 := hz22.2.2.2.2.2.2.2.2.2.2.1
    have q34 : t_3_11 = s11 := hz22.2.2.2.2.2.2.2.2.2.2.2.1
    have q35 : t_3_12 = s12 := hz22.2.2.2.2.2.2.2.2.2.2.2.2
    clear hz22
    have e36 : s0 = t_3_0 := q24.symm
    subst e36
    have e37 : s1 = t_3_1 := q25.symm
    subst e37
    have e38 : s2 = t_3_2 := q26.symm
    subst e38
    have e39 : s3 = t_3_3 := q27.symm
    subst e39
    have e40 : s5 = t_3_5 := q28.symm
    subst e40
    have e41 : s6 = t_3_6 := q29.symm
    subst e41
    have e42 : s7 = t_3_7 := q30.symm
    subst e42
    have e43 : s8 = t_3_8 := q31.symm
    subst e43
    have e44 : s9 = t_3_9 := q32.symm
    subst e44
    have e45 : s10 = t_3_10 := q33.symm
    subst e45
    have e46 : s11 = t_3_11 := q34.symm
    subst e46
    have e47 : s12 = t_3_12 := q35.symm
    subst e47
    show zz_ok (some (s0, s1, s2, s3, t_3_4, s5, s6, s7, s8, s9, s10, s11, s12, t_2_0, s14, (upd s15 s13.toNatClampNeg p1), (upd s16 s13.toNatClampNeg p2))) _
    refine zz_ok_some ?_
    show zz_tb9 (s4) (t_3_4) (s15) (s16) s13.toInt ((upd s15 s13.toNatClampNeg p1)) ((upd s16 s13.toNatClampNeg p2)) t_2_0.toInt (p1) (p2) ∧ zz_vs s0.toInt ((upd s15 s13.toNatClampNeg p1)) ((upd s16 s13.toNatClampNeg p2)) t_2_0.toInt ∧ s0 = s0 ∧ s1 = s1 ∧ s2 = s2 ∧ s3 = s3 ∧ s5 = s5 ∧ s6 = s6 ∧ s7 = s7 ∧ s8 = s8 ∧ s9 = s9 ∧ s10 = s10 ∧ s11 = s11 ∧ s12 = s12 ∧ s14 = s14
    exact ⟨(by first | exact Or.inl ⟨by omega, rfl, rfl, rfl, by omega⟩ | exact Or.inr ⟨by omega, by assumption, zz_upi rfl (by omega), zz_upi rfl (by omega), by omega⟩), (by first | assumption | exact zz_vs_add (by assumption) (by omega) (by omega) (by omega) (by omega) (by omega)), rfl, rfl, rfl, rfl, rfl, rfl, rfl, rfl, rfl, rfl, rfl, rfl, rfl⟩

set_option maxHeartbeats 4000000 in
theorem ff_X4_begin (K : Nat) (hK : 1099511627776 ≤ K) (T : Nat) (hT : T ≤ 900) (n0 : Nat) (n1 : Nat) (n2 : Nat) (n3 : Nat) (n4 : Nat) (n5 : Nat) (n6 : Nat) (n7 : Nat) (n8 : Nat) (s0 : Int32) (s1 : Int32) (s2 : Int32) (s3 : Int32) (s4 : Nat → Int32) (s5 : Nat → Int32) (s6 : Nat → Int32) (s7 : Nat → Int32) (s8 : Nat → Int32) (s9 : Int32) (s10 : Int32) (s11 : Nat → Int32) (s12 : Nat → Int32) (s13 : Int32) (s14 : Int32) (s15 : Nat → Int32) (s16 : Nat → Int32) (a0 : n7 = 201) (a1 : n8 = 201) (a2 : 16 ≤ s0.toInt) (a3 : s0.toInt ≤ 1024) : zz_ok (m_X4_begin K n0 n1 n2 n3 n4 n5 n6 n7 n8 s0 s1 s2 s3 s4 s5 s6 s7 s8 s9 s10 s11 s12 s13 s14 s15 s16) (fun z => zz_bgn s0.toInt (z.2.2.2.2.2.2.2.2.2.2.2.2.2.2.2.1) (z.2.2.2.2.2.2.2.2.2.2.2.2.2.2.2.2) z.2.2.2.2.2.2.2.2.2.2.2.2.2.1.toInt ∧ z.2.2.2.2.2.2.2.2.2.2.2.2.2.1.toInt = 1 ∧ z.1 = s0 ∧ z.2.1 = s1 ∧ z.2.2.1 = s2 ∧ z.2.2.2.1 = s3 ∧ z.2.2.2.2.1 = s4 ∧ z.2.2.2.2.2.1 = s5 ∧ z.2.2.2.2.2.2.1 = s6 ∧ z.2.2.2.2.2.2.2.1 = s7 ∧ z.2.2.2.2.2.2.2.2.1 = s8 ∧ z.2.2.2.2.2.2.2.2.2.1 = s9 ∧ z.2.2.2.2.2.2.2.2.2.2.1 = s10 ∧ z.2.2.2.2.2.2.2.2.2.2.2.1 = s11 ∧ z.2.2.2.2.2.2.2.2.2.2.2.2.1 = s12 ∧ z.2.2.2.2.2.2.2.2.2.2.2.2.2.2.1 = s14) := by
  have g1 := zz_rg s0
  have g2 := zz_rg s1
  have g3 := zz_rg s2
  have g4 := zz_rg s3
  have g5 := zz_rg s9
  have g6 := zz_rg s10
  have g7 := zz_rg s13
  have g8 := zz_rg s14
  unfold m_X4_begin
  refine zz_ok_bind (ff_X10_clear K hK T hT n7 n8 s13 s14 s15 s16) ?_
  intro z9 hz9
  obtain ⟨t_1_0, t_1_1, t_1_2, t_1_3⟩ := z9
  have q10 : t_1_0.toInt = 0 := hz9.1
  have q11 : t_1_1 = s14 := hz9.2.1
  have q12 : t_1_2 = s15 := hz9.2.2.1
  have q13 : t_1_3 = s16 := hz9.2.2.2
  clear hz9
  have e14 : s14 = t_1_1 := q11.symm
  subst e14
  have e15 : s15 = t_1_2 := q12.symm
  subst e15
  have e16 : s16 = t_1_3 := q13.symm
  subst e16
  have g17 := zz_rg t_1_0
  have tn9 := zz_tnI t_1_0 (by omega)
  show zz_ok ((m_X7_words K n0 n1 n2 n3 n4 n5 n6 s0 s1 s2 s3 s4 s5 s6 s7 s8 s9 s10 s11 s12).bind fun ⟨r_2, t_2_0, t_2_1, t_2_2, t_2_3, t_2_4, t_2_5, t_2_6, t_2_7, t_2_8, t_2_9, t_2_10, t_2_11, t_2_12⟩ => (m_X10_add K n7 n8 ((0 : Int32)) r_2 t_1_0 s14 s15 s16).bind fun ⟨t_3_0, t_3_1, t_3_2, t_3_3⟩ => some (t_2_0, t_2_1, t_2_2, t_2_3, t_2_4, t_2_5, t_2_6, t_2_7, t_2_8, t_2_9, t_2_10, t_2_11, t_2_12, t_3_0, t_3_1, t_3_2, t_3_3)) _
  refine zz_ok_bind (ff_X7_words K hK T hT n0 n1 n2 n3 n4 n5 n6 s0 s1 s2 s3 s4 s5 s6 s7 s8 s9 s10 s11 s12) ?_
  intro z18 hz18
  obtain ⟨r_2, t_2_0, t_2_1, t_2_2, t_2_3, t_2_4, t_2_5, t_2_6, t_2_7, t_2_8, t_2_9, t_2_10, t_2_11, t_2_12⟩ := z18
  have q19 : r_2 = s0 := hz18.1
  have q20 : t_2_0 = s0 := hz18.2.1
  have q21 : t_2_1 = s1 := hz18.2.2.1
  have q22 : t_2_2 = s2 := hz18.2.2.2.1
  have q23 : t_2_3 = s3 := hz18.2.2.2.2.1
  have q24 : t_2_4 = s4 := hz18.2.2.2.2.2.1
  have q25 : t_2_5 = s5 := hz18.2.2.2.2.2.2.1
  have q26 : t_2_6 = s6 := hz18.2.2.2.2.2.2.2.1
  have q27 : t_2_7 = s7 := hz18.2.2.2.2.2.2.2.2.1
  have q28 : t_2_8 = s8 := hz18.2.2.2.2.2.2.2.2.2.1
  have q29 : t_2_9 = s9 := hz18.2.2.2.2.2.2.2.2.2.2.1
  have q30 : t_2_10 = s10 := hz18.2.2.2.2.2.2.2.2.2.2.2.1
  have q31 : t_2_11 = s11 := hz18.2.2.2.2.2.2.2.2.2.2.2.2.1
  have q32 : t_2_12 = s12 := hz18.2.2.2.2.2.2.2.2.2.2.2.2.2
  clear hz18
  have e33 : s0 = r_2 := q19.symm
  subst e33
  have e34 : s0 = t_2_0 := q20.symm
  subst e34
  have e35 : s1 = t_2_1 := q21.symm
  subst e35
  have e36 : s2 = t_2_2 := q22.symm
  subst e36
  have e37 : s3 = t_2_3 := q23.symm
  subst e37
  have e38 : s4 = t_2_4 := q24.symm
  subst e38
  have e39 : s5 = t_2_5 := q25.symm
  subst e39
  have e40 : s6 = t_2_6 := q26.symm
  subst e40
  have e41 : s7 = t_2_7 := q27.symm
  subst e41
  have e42 : s8 = t_2_8 := q28.symm
  subst e42
  have e43 : s9 = t_2_9 := q29.symm
  subst e43
  have e44 : s10 = t_2_10 := q30.symm
  subst e44
  have e45 : s11 = t_2_11 := q31.symm
  subst e45
  have e46 : s12 = t_2_12 := q32.symm
  subst e46
  show zz_ok ((m_X10_add K n7 n8 ((0 : Int32)) s0 t_1_0 s14 s15 s16).bind fun ⟨t_3_0, t_3_1, t_3_2, t_3_3⟩ => some (s0, s1, s2, s3, s4, s5, s6, s7, s8, s9, s10, s11, s12, t_3_0, t_3_1, t_3_2, t_3_3)) _
  have l47 : (0 : Int32).toInt = 0 := rfl
  refine zz_ok_bind (ff_X10_add K hK T hT n7 n8 ((0 : Int32)) s0 t_1_0 s14 s15 s16 (by omega) (by omega) (by omega) (by omega) (by omega)) ?_
  intro z48 hz48
  obtain ⟨t_3_0, t_3_1, t_3_2, t_3_3⟩ := z48
  have q49 : t_3_0.toInt = t_1_0.toInt + 1 := hz48.1
  have q50 : t_3_2 = upd s15 t_1_0.toNatClampNeg ((0 : Int32)) := hz48.2.1
  have q51 : t_3_3 = upd s16 t_1_0.toNatClampNeg s0 := hz48.2.2.1
  have q52 : t_3_1 = s14 := hz48.2.2.2
  clear hz48
  have e53 : upd s15 t_1_0.toNatClampNeg ((0 : Int32)) = t_3_2 := q50.symm
  subst e53
  have e54 : upd s16 t_1_0.toNatClampNeg s0 = t_3_3 := q51.symm
  subst e54
  have e55 : s14 = t_3_1 := q52.symm
  subst e55
  have g56 := zz_rg t_3_0
  show zz_ok (some (s0, s1, s2, s3, s4, s5, s6, s7, s8, s9, s10, s11, s12, t_3_0, s14, (upd s15 t_1_0.toNatClampNeg ((0 : Int32))), (upd s16 t_1_0.toNatClampNeg s0))) _
  refine zz_ok_some ?_
  show zz_bgn s0.toInt ((upd s15 t_1_0.toNatClampNeg ((0 : Int32)))) ((upd s16 t_1_0.toNatClampNeg s0)) t_3_0.toInt ∧ t_3_0.toInt = 1 ∧ s0 = s0 ∧ s1 = s1 ∧ s2 = s2 ∧ s3 = s3 ∧ s4 = s4 ∧ s5 = s5 ∧ s6 = s6 ∧ s7 = s7 ∧ s8 = s8 ∧ s9 = s9 ∧ s10 = s10 ∧ s11 = s11 ∧ s12 = s12 ∧ s14 = s14
  exact ⟨(by exact zz_bgn_mk (by omega) (by omega) (by omega) (by omega)), (by omega), rfl, rfl, rfl, rfl, rfl, rfl, rfl, rfl, rfl, rfl, rfl, rfl, rfl, rfl⟩
set_option maxHeartbeats 4000000 in
theorem ff_X4_findInListOf_L15 (K : Nat) (hK : 1099511627776 ≤ K) (T : Nat) (hT : T ≤ 900) (n0 : Nat) (n1 : Nat) (n2 : Nat) (n3 : Nat) (n4 : Nat) (n5 : Nat) (n6 : Nat) (n7 : Nat) (n8 : Nat) : ∀ (k : Nat) (x1 : Int32) (x2 : Int32) (x3 : Int32) (s0 : Int32) (s1 : Int32) (s2 : Int32) (s3 : Int32) (s4 : Nat → Int32) (s5 : Nat → Int32) (s6 : Nat → Int32) (s7 : Nat → Int32) (s8 : Nat → Int32) (s9 : Int32) (s10 : Int32) (s11 : Nat → Int32) (s12 : Nat → Int32) (s13 : Int32) (s14 : Int32) (s15 : Nat → Int32) (s16 : Nat → Int32), n7 = 201 → n8 = 201 → 0 ≤ s13.toInt → s13.toInt ≤ 201 → s0.toInt ≤ 1024 → zz_vs s0.toInt (s15) (s16) s13.toInt → -1 ≤ x3.toInt → x3.toInt < s13.toInt → 1 ≤ x1.toInt → x1.toInt ≤ 1024 → x2.toInt = (zz_lo x1.toNatClampNeg : Int) → x3.toInt + 1 < (k : Int) → zz_ok (m_X4_findInListOf_L15 K n0 n1 n2 n3 n4 n5 n6 n7 n8 k x1 x2 x3 s0 s1 s2 s3 s4 s5 s6 s7 s8 s9 s10 s11 s12 s13 s14 s15 s16) (fun z => zz_f1 (s15) (s16) x1.toNatClampNeg x3.toInt z.1.toInt ∧ -1 ≤ z.1.toInt ∧ z.1.toInt < s13.toInt ∧ z.2.1 = s0 ∧ z.2.2.1 = s1 ∧ z.2.2.2.1 = s2 ∧ z.2.2.2.2.2.1 = s4 ∧ z.2.2.2.2.2.2.1 = s5 ∧ z.2.2.2.2.2.2.2.1 = s6 ∧ z.2.2.2.2.2.2.2.2.1 = s7 ∧ z.2.2.2.2.2.2.2.2.2.1 = s8 ∧ z.2.2.2.2.2.2.2.2.2.2.1 = s9 ∧ z.2.2.2.2.2.2.2.2.2.2.2.1 = s10 ∧ z.2.2.2.2.2.2.2.2.2.2.2.2.1 = s11 ∧ z.2.2.2.2.2.2.2.2.2.2.2.2.2.1 = s12 ∧ z.2.2.2.2.2.2.2.2.2.2.2.2.2.2.1 = s13 ∧ z.2.2.2.2.2.2.2.2.2.2.2.2.2.2.2.1 = s14 ∧ z.2.2.2.2.2.2.2.2.2.2.2.2.2.2.2.2.1 = s15 ∧ z.2.2.2.2.2.2.2.2.2.2.2.2.2.2.2.2.2 = s16) := by
  intro k
  induction k with
  | zero =>
    intro x1 x2 x3 s0 s1 s2 s3 s4 s5 s6 s7 s8 s9 s10 s11 s12 s13 s14 s15 s16 a0 a1 a2 a3 a4 a5 a6 a7 a8 a9 a10 hz9
    exfalso
    have g_x1 := zz_rg x1
    have g_x2 := zz_rg x2
    have g_x3 := zz_rg x3
    have g_s0 := zz_rg s0
    have g_s1 := zz_rg s1
    have g_s2 := zz_rg s2
    have g_s3 := zz_rg s3
    have g_s9 := zz_rg s9
    have g_s10 := zz_rg s10
    have g_s13 := zz_rg s13
    have g_s14 := zz_rg s14
    omega
  | succ k ih =>
    intro x1 x2 x3 s0 s1 s2 s3 s4 s5 s6 s7 s8 s9 s10 s11 s12 s13 s14 s15 s16 a0 a1 a2 a3 a4 a5 a6 a7 a8 a9 a10 hz9
    rw [m_X4_findInListOf_L15_s]
    have g1 := zz_rg x1
    have g2 := zz_rg x2
    have g3 := zz_rg x3
    have g4 := zz_rg s0
    have g5 := zz_rg s1
    have g6 := zz_rg s2
    have g7 := zz_rg s3
    have g8 := zz_rg s9
    have g9 := zz_rg s10
    have g10 := zz_rg s13
    have g11 := zz_rg s14
    have tn8 := zz_tnI x1 (by omega)
    have l13 : (0 : Int32).toInt = 0 := rfl
    refine zz_ok_ite (fun c12 => ?_) (fun c12 => ?_)
    · have c12 := Int32.lt_iff_toInt_lt.mp c12
      have l14 : (-1 : Int32).toInt = -1 := rfl
      refine zz_ok_some ?_
      show zz_f1 (s15) (s16) x1.toNatClampNeg x3.toInt (-1 : Int32).toInt ∧ -1 ≤ (-1 : Int32).toInt ∧ (-1 : Int32).toInt < s13.toInt ∧ s0 = s0 ∧ s1 = s1 ∧ s2 = s2 ∧ s4 = s4 ∧ s5 = s5 ∧ s6 = s6 ∧ s7 = s7 ∧ s8 = s8 ∧ s9 = s9 ∧ s10 = s10 ∧ s11 = s11 ∧ s12 = s12 ∧ s13 = s13 ∧ s14 = s14 ∧ s15 = s15 ∧ s16 = s16
      exact ⟨(by first | exact zz_f1_no (by omega) (by omega) | exact zz_f1_hit (j := x3.toNatClampNeg) (by omega) (by omega) (by omega) (by omega) | exact zz_f1_skip (j := x3.toNatClampNeg) (by assumption) (by omega) (by omega) (by omega)), (by omega), (by omega), rfl, rfl, rfl, rfl, rfl, rfl, rfl, rfl, rfl, rfl, rfl, rfl, rfl, rfl, rfl, rfl⟩
    · have c12 := zz_nlt c12
      refine zz_ok_bind (ff_X10_wordsOf K hK T hT n7 n8 x3 s13 s14 s15 s16 (by omega) (by omega) a2 (by omega) (by omega) a7) ?_
      intro z15 hz15
      obtain ⟨r_4, t_4_0, t_4_1, t_4_2, t_4_3⟩ := z15
      have q16 : r_4 = s16 x3.toNatClampNeg := hz15.1
      have q17 : t_4_0 = s13 := hz15.2.1
      have q18 : t_4_1 = s14 := hz15.2.2.1
      have q19 : t_4_2 = s15 := hz15.2.2.2.1
      have q20 : t_4_3 = s16 := hz15.2.2.2.2
      clear hz15
      have e21 : s16 x3.toNatClampNeg = r_4 := q16.symm
      subst e21
      have e22 : s13 = t_4_0 := q17.symm
      subst e22
      have e23 : s14 = t_4_1 := q18.symm
      subst e23
      have e24 : s15 = t_4_2 := q19.symm
      subst e24
      have e25 : s16 = t_4_3 := q20.symm
      subst e25
      have v9 := zz_vs_at (by assumption : zz_vs s0.toInt s15 s16 s13.toInt) x3 (by omega) (by omega)
      have tn9 := zz_tnI (s16 x3.toNatClampNeg) (by omega)
      have tn6 := zz_tnI x3 (by omega)
      show zz_ok ((m_X4_listOf K (s16 x3.toNatClampNeg)).bind fun ⟨r_5, _⟩ => if r_5 = x2 then ((m_X7_addLooked K n0 n1 n2 n3 n4 n5 n6 ((1 : Int32)) s0 s1 s2 s3 s4 s5 s6 s7 s8 s9 s10 s11 s12).bind fun ⟨t_7_0, t_7_1, t_7_2, t_7_3, t_7_4, t_7_5, t_7_6, t_7_7, t_7_8, t_7_9, t_7_10, t_7_11, t_7_12⟩ => (m_X10_wordsOf K n7 n8 x3 s13 s14 s15 s16).bind fun ⟨r_8, t_8_0, t_8_1, t_8_2, t_8_3⟩ => if r_8 < x1 then (m_X4_findInListOf_L15 K n0 n1 n2 n3 n4 n5 n6 n7 n8 k x1 x2 (x3 + (-1)) t_7_0 t_7_1 t_7_2 t_7_3 t_7_4 t_7_5 t_7_6 t_7_7 t_7_8 t_7_9 t_7_10 t_7_11 t_7_12 t_8_0 t_8_1 t_8_2 t_8_3) else (some (x3, t_7_0, t_7_1, t_7_2, t_7_3, t_7_4, t_7_5, t_7_6, t_7_7, t_7_8, t_7_9, t_7_10, t_7_11, t_7_12, t_8_0, t_8_1, t_8_2, t_8_3))) else (m_X4_findInListOf_L15 K n0 n1 n2 n3 n4 n5 n6 n7 n8 k x1 x2 (x3 + (-1)) s0 s1 s2 s3 s4 s5 s6 s7 s8 s9 s10 s11 s12 s13 s14 s15 s16)) _
      have g26 := zz_rg (s16 x3.toNatClampNeg)
      refine zz_ok_bind (ff_X4_listOf K hK T hT (s16 x3.toNatClampNeg) (by omega) (by omega)) ?_
      intro z27 hz27
      obtain ⟨r_5, _⟩ := z27
      have q28 : r_5.toInt = (zz_lo (s16 x3.toNatClampNeg).toNatClampNeg : Int) := hz27
      clear hz27
      have g29 := zz_rg r_5
      show zz_ok (if r_5 = x2 then ((m_X7_addLooked K n0 n1 n2 n3 n4 n5 n6 ((1 : Int32)) s0 s1 s2 s3 s4 s5 s6 s7 s8 s9 s10 s11 s12).bind fun ⟨t_7_0, t_7_1, t_7_2, t_7_3, t_7_4, t_7_5, t_7_6, t_7_7, t_7_8, t_7_9, t_7_10, t_7_11, t_7_12⟩ => (m_X10_wordsOf K n7 n8 x3 s13 s14 s15 s16).bind fun ⟨r_8, t_8_0, t_8_1, t_8_2, t_8_3⟩ => if r_8 < x1 then (m_X4_findInListOf_L15 K n0 n1 n2 n3 n4 n5 n6 n7 n8 k x1 x2 (x3 + (-1)) t_7_0 t_7_1 t_7_2 t_7_3 t_7_4 t_7_5 t_7_6 t_7_7 t_7_8 t_7_9 t_7_10 t_7_11 t_7_12 t_8_0 t_8_1 t_8_2 t_8_3) else (some (x3, t_7_0, t_7_1, t_7_2, t_7_3, t_7_4, t_7_5, t_7_6, t_7_7, t_7_8, t_7_9, t_7_10, t_7_11, t_7_12, t_8_0, t_8_1, t_8_2, t_8_3))) else (m_X4_findInListOf_L15 K n0 n1 n2 n3 n4 n5 n6 n7 n8 k x1 x2 (x3 + (-1)) s0 s1 s2 s3 s4 s5 s6 s7 s8 s9 s10 s11 s12 s13 s14 s15 s16)) _
      refine zz_ok_ite (fun c30 => ?_) (fun c30 => ?_)
      · have c30 := congrArg Int32.toInt c30
        have l31 : (1 : Int32).toInt = 1 := rfl
        refine zz_ok_bind (ff_X7_addLooked K hK T hT n0 n1 n2 n3 n4 n5 n6 ((1 : Int32)) s0 s1 s2 s3 s4 s5 s6 s7 s8 s9 s10 s11 s12) ?_
        intro z32 hz32
        obtain ⟨t_7_0, t_7_1, t_7_2, t_7_3, t_7_4, t_7_5, t_7_6, t_7_7, t_7_8, t_7_9, t_7_10, t_7_11, t_7_12⟩ := z32
        have q33 : t_7_0 = s0 := hz32.1
        have q34 : t_7_1 = s1 := hz32.2.1
        have q35 : t_7_2 = s2 := hz32.2.2.1
        have q36 : t_7_4 = s4 := hz32.2.2.2.1
        have q37 : t_7_5 = s5 := hz32.2.2.2.2.1
        have q38 : t_7_6 = s6 := hz32.2.2.2.2.2.1
        have q39 : t_7_7 = s7 := hz32.2.2.2.2.2.2.1
        have q40 : t_7_8 = s8 := hz32.2.2.2.2.2.2.2.1
        have q41 : t_7_9 = s9 := hz32.2.2.2.2.2.2.2.2.1
        have q42 : t_7_10 = s10 := hz32.2.2.2.2.2.2.2.2.2.1
        have q43 : t_7_11 = s11 := hz32.2.2.2.2.2.2.2.2.2.2.1
        have q44 : t_7_12 = s12 := hz32.2.2.2.2.2.2.2.2.2.2.2
        clear hz32
        have e45 : s0 = t_7_0 := q33.symm
        subst e45
        have e46 : s1 = t_7_1 := q34.symm
        subst e46
        have e47 : s2 = t_7_2 := q35.symm
        subst e47
        have e48 : s4 = t_7_4 := q36.symm
        subst e48
        have e49 : s5 = t_7_5 := q37.symm
        subst e49
        have e50 : s6 = t_7_6 := q38.symm
        subst e50
        have e51 : s7 = t_7_7 := q39.symm
        subst e51
        have e52 : s8 = t_7_8 := q40.symm
        subst e52
        have e53 : s9 = t_7_9 := q41.symm
        subst e53
        have e54 : s10 = t_7_10 := q42.symm
        subst e54
        have e55 : s11 = t_7_11 := q43.symm
        subst e55
        have e56 : s12 = t_7_12 := q44.symm
        subst e56
        have g57 := zz_rg t_7_3
        show zz_ok ((m_X10_wordsOf K n7 n8 x3 s13 s14 s15 s16).bind fun ⟨r_8, t_8_0, t_8_1, t_8_2, t_8_3⟩ => if r_8 < x1 then (m_X4_findInListOf_L15 K n0 n1 n2 n3 n4 n5 n6 n7 n8 k x1 x2 (x3 + (-1)) s0 s1 s2 t_7_3 s4 s5 s6 s7 s8 s9 s10 s11 s12 t_8_0 t_8_1 t_8_2 t_8_3) else (some (x3, s0, s1, s2, t_7_3, s4, s5, s6, s7, s8, s9, s10, s11, s12, t_8_0, t_8_1, t_8_2, t_8_3))) _
        refine zz_ok_bind (ff_X10_wordsOf K hK T hT n7 n8 x3 s13 s14 s15 s16 (by omega) (by omega) a2 (by omega) (by omega) a7) ?_
        intro z58 hz58
        obtain ⟨r_8, t_8_0, t_8_1, t_8_2, t_8_3⟩ := z58
        have q59 : r_8 = s16 x3.toNatClampNeg := hz58.1
        have q60 : t_8_0 = s13 := hz58.2.1
        have q61 : t_8_1 = s14 := hz58.2.2.1
        have q62 : t_8_2 = s15 := hz58.2.2.2.1
        have q63 : t_8_3 = s16 := hz58.2.2.2.2
        clear hz58
        have e64 : s16 x3.toNatClampNeg = r_8 := q59.symm
        subst e64
        have e65 : s13 = t_8_0 := q60.symm
        subst e65
        have e66 : s14 = t_8_1 := q61.symm
        subst e66
        have e67 : s15 = t_8_2 := q62.symm
        subst e67
        have e68 : s16 = t_8_3 := q63.symm
        subst e68
        have v9 := zz_vs_at (by assumption : zz_vs s0.toInt s15 s16 s13.toInt) x3 (by omega) (by omega)
        have tn9 := zz_tnI (s16 x3.toNatClampNeg) (by omega)
        have tn6 := zz_tnI x3 (by omega)
        show zz_ok (if (s16 x3.toNatClampNeg) < x1 then (m_X4_findInListOf_L15 K n0 n1 n2 n3 n4 n5 n6 n7 n8 k x1 x2 (x3 + (-1)) s0 s1 s2 t_7_3 s4 s5 s6 s7 s8 s9 s10 s11 s12 s13 s14 s15 s16) else (some (x3, s0, s1, s2, t_7_3, s4, s5, s6, s7, s8, s9, s10, s11, s12, s13, s14, s15, s16))) _
        refine zz_ok_ite (fun c69 => ?_) (fun c69 => ?_)
        · have c69 := Int32.lt_iff_toInt_lt.mp c69
          obtain ⟨y70, e71⟩ : ∃ y : Int32, y = x3 + (-1) := ⟨_, rfl⟩
          obtain ⟨k72, f73⟩ := zz_dec e71
          rw [← e71]
          clear e71
          have g74 := zz_rg y70
          refine (ih x1 x2 y70 s0 s1 s2 t_7_3 s4 s5 s6 s7 s8 s9 s10 s11 s12 s13 s14 s15 s16 a0 a1 a2 a3 a4 a5 (by omega) (by omega) a8 a9 a10 (by omega)).mono (fun z hz => ?_)
          obtain ⟨y75_0, y75_1, y75_2, y75_3, y75_4, y75_5, y75_6, y75_7, y75_8, y75_9, y75_10, y75_11, y75_12, y75_13, y75_14, y75_15, y75_16, y75_17⟩ := z
          have q76 : zz_f1 (s15) (s16) x1.toNatClampNeg y70.toInt y75_0.toInt := hz.1
          have q77 : -1 ≤ y75_0.toInt := hz.2.1
          have q78 : y75_0.toInt < s13.toInt := hz.2.2.1
          have q79 : y75_1 = s0 := hz.2.2.2.1
          have q80 : y75_2 = s1 := hz.2.2.2.2.1
          have q81 : y75_3 = s2 := hz.2.2.2.2.2.1
          have q82 : y75_5 = s4 := hz.2.2.2.2.2.2.1
          have q83 : y75_6 = s5 := hz.2.2.2.2.2.2.2.1
          have q84 : y75_7 = s6 := hz.2.2.2.2.2.2.2.2.1
          have q85 : y75_8 = s7 := hz.2.2.2.2.2.2.2.2.2.1
          have q86 : y75_9 = s8 := hz.2.2.2.2.2.2.2.2.2.2.1
          have q87 : y75_10 = s9 := hz.2.2.2.2.2.2.2.2.2.2.2.1
          have q88 : y75_11 = s10 := hz.2.2.2.2.2.2.2.2.2.2.2.2.1
          have q89 : y75_12 = s11 := hz.2.2.2.2.2.2.2.2.2.2.2.2.2.1
          have q90 : y75_13 = s12 := hz.2.2.2.2.2.2.2.2.2.2.2.2.2.2.1
          have q91 : y75_14 = s13 := hz.2.2.2.2.2.2.2.2.2.2.2.2.2.2.2.1
          have q92 : y75_15 = s14 := hz.2.2.2.2.2.2.2.2.2.2.2.2.2.2.2.2.1
          have q93 : y75_16 = s15 := hz.2.2.2.2.2.2.2.2.2.2.2.2.2.2.2.2.2.1
          have q94 : y75_17 = s16 := hz.2.2.2.2.2.2.2.2.2.2.2.2.2.2.2.2.2.2
          clear hz
          have e95 : s0 = y75_1 := q79.symm
          subst e95
          have e96 : s1 = y75_2 := q80.symm
          subst e96
          have e97 : s2 = y75_3 := q81.symm
          subst e97
          have e98 : s4 = y75_5 := q82.symm
          subst e98
          have e99 : s5 = y75_6 := q83.symm
          subst e99
          have e100 : s6 = y75_7 := q84.symm
          subst e100
          have e101 : s7 = y75_8 := q85.symm
          subst e101
          have e102 : s8 = y75_9 := q86.symm
          subst e102
          have e103 : s9 = y75_10 := q87.symm
          subst e103
          have e104 : s10 = y75_11 := q88.symm
          subst e104
          have e105 : s11 = y75_12 := q89.symm
          subst e105
          have e106 : s12 = y75_13 := q90.symm
          subst e106
          have e107 : s13 = y75_14 := q91.symm
          subst e107
          have e108 : s14 = y75_15 := q92.symm
          subst e108
          have e109 : s15 = y75_16 := q93.symm
          subst e109
          have e110 : s16 = y75_17 := q94.symm
          subst e110
          have g111 := zz_rg y75_0
          have g112 := zz_rg y75_4
          show zz_f1 (s15) (s16) x1.toNatClampNeg x3.toInt y75_0.toInt ∧ -1 ≤ y75_0.toInt ∧ y75_0.toInt < s13.toInt ∧ s0 = s0 ∧ s1 = s1 ∧ s2 = s2 ∧ s4 = s4 ∧ s5 = s5 ∧ s6 = s6 ∧ s7 = s7 ∧ s8 = s8 ∧ s9 = s9 ∧ s10 = s10 ∧ s11 = s11 ∧ s12 = s12 ∧ s13 = s13 ∧ s14 = s14 ∧ s15 = s15 ∧ s16 = s16
          exact ⟨(by first | exact zz_f1_no (by omega) (by omega) | exact zz_f1_hit (j := x3.toNatClampNeg) (by omega) (by omega) (by omega) (by omega) | exact zz_f1_skip (j := x3.toNatClampNeg) (by assumption) (by omega) (by omega) (by omega)), q77, q78, rfl, rfl, rfl, rfl, rfl, rfl, rfl, rfl, rfl, rfl, rfl, rfl, rfl, rfl, rfl, rfl⟩
        · have c69 := zz_nlt c69
          refine zz_ok_some ?_
          show zz_f1 (s15) (s16) x1.toNatClampNeg x3.toInt x3.toInt ∧ -1 ≤ x3.toInt ∧ x3.toInt < s13.toInt ∧ s0 = s0 ∧ s1 = s1 ∧ s2 = s2 ∧ s4 = s4 ∧ s5 = s5 ∧ s6 = s6 ∧ s7 = s7 ∧ s8 = s8 ∧ s9 = s9 ∧ s10 = s10 ∧ s11 = s11 ∧ s12 = s12 ∧ s13 = s13 ∧ s14 = s14 ∧ s15 = s15 ∧ s16 = s16
          exact ⟨(by first | exact zz_f1_no (by omega) (by omega) | exact zz_f1_hit (j := x3.toNatClampNeg) (by omega) (by omega) (by omega) (by omega) | exact zz_f1_skip (j := x3.toNatClampNeg) (by assumption) (by omega) (by omega) (by omega)), a6, a7, rfl, rfl, rfl, rfl, rfl, rfl, rfl, rfl, rfl, rfl, rfl, rfl, rfl, rfl, rfl, rfl⟩
      · have c30 := zz_neq c30
        obtain ⟨y113, e114⟩ : ∃ y : Int32, y = x3 + (-1) := ⟨_, rfl⟩
        obtain ⟨k115, f116⟩ := zz_dec e114
        rw [← e114]
        clear e114
        have g117 := zz_rg y113
        refine (ih x1 x2 y113 s0 s1 s2 s3 s4 s5 s6 s7 s8 s9 s10 s11 s12 s13 s14 s15 s16 a0 a1 a2 a3 a4 a5 (by omega) (by omega) a8 a9 a10 (by omega)).mono (fun z hz => ?_)
        obtain ⟨y118_0, y118_1, y118_2, y118_3, y118_4, y118_5, y118_6, y118_7, y118_8, y118_9, y118_10, y118_11, y118_12, y118_13, y118_14, y118_15, y118_16, y118_17⟩ := z
        have q119 : zz_f1 (s15) (s16) x1.toNatClampNeg y113.toInt y118_0.toInt := hz.1
        have q120 : -1 ≤ y118_0.toInt := hz.2.1
        have q121 : y118_0.toInt < s13.toInt := hz.2.2.1
        have q122 : y118_1 = s0 := hz.2.2.2.1
        have q123 : y118_2 = s1 := hz.2.2.2.2.1
        have q124 : y118_3 = s2 := hz.2.2.2.2.2.1
        have q125 : y118_5 = s4 := hz.2.2.2.2.2.2.1
        have q126 : y118_6 = s5 := hz.2.2.2.2.2.2.2.1
        have q127 : y118_7 = s6 := hz.2.2.2.2.2.2.2.2.1
        have q128 : y118_8 = s7 := hz.2.2.2.2.2.2.2.2.2.1
        have q129 : y118_9 = s8 := hz.2.2.2.2.2.2.2.2.2.2.1
        have q130 : y118_10 = s9 := hz.2.2.2.2.2.2.2.2.2.2.2.1
        have q131 : y118_11 = s10 := hz.2.2.2.2.2.2.2.2.2.2.2.2.1
        have q132 : y118_12 = s11 := hz.2.2.2.2.2.2.2.2.2.2.2.2.2.1
        have q133 : y118_13 = s12 := hz.2.2.2.2.2.2.2.2.2.2.2.2.2.2.1
        have q134 : y118_14 = s13 := hz.2.2.2.2.2.2.2.2.2.2.2.2.2.2.2.1
        have q135 : y118_15 = s14 := hz.2.2.2.2.2.2.2.2.2.2.2.2.2.2.2.2.1
        have q136 : y118_16 = s15 := hz.2.2.2.2.2.2.2.2.2.2.2.2.2.2.2.2.2.1
        have q137 : y118_17 = s16 := hz.2.2.2.2.2.2.2.2.2.2.2.2.2.2.2.2.2.2
        clear hz
        have e138 : s0 = y118_1 := q122.symm
        subst e138
        have e139 : s1 = y118_2 := q123.symm
        subst e139
        have e140 : s2 = y118_3 := q124.symm
        subst e140
        have e141 : s4 = y118_5 := q125.symm
        subst e141
        have e142 : s5 = y118_6 := q126.symm
        subst e142
        have e143 : s6 = y118_7 := q127.symm
        subst e143
        have e144 : s7 = y118_8 := q128.symm
        subst e144
        have e145 : s8 = y118_9 := q129.symm
        subst e145
        have e146 : s9 = y118_10 := q130.symm
        subst e146
        have e147 : s10 = y118_11 := q131.symm
        subst e147
        have e148 : s11 = y118_12 := q132.symm
        subst e148
        have e149 : s12 = y118_13 := q133.symm
        subst e149
        have e150 : s13 = y118_14 := q134.symm
        subst e150
        have e151 : s14 = y118_15 := q135.symm
        subst e151
        have e152 : s15 = y118_16 := q136.symm
        subst e152
        have e153 : s16 = y118_17 := q137.symm
        subst e153
        have g154 := zz_rg y118_0
        have g155 := zz_rg y118_4
        show zz_f1 (s15) (s16) x1.toNatClampNeg x3.toInt y118_0.toInt ∧ -1 ≤ y118_0.toInt ∧ y118_0.toInt < s13.toInt ∧ s0 = s0 ∧ s1 = s1 ∧ s2 = s2 ∧ s4 = s4 ∧ s5 = s5 ∧ s6 = s6 ∧ s7 = s7 ∧ s8 = s8 ∧ s9 = s9 ∧ s10 = s10 ∧ s11 = s11 ∧ s12 = s12 ∧ s13 = s13 ∧ s14 = s14 ∧ s15 = s15 ∧ s16 = s16
        exact ⟨(by first | exact zz_f1_no (by omega) (by omega) | exact zz_f1_hit (j := x3.toNatClampNeg) (by omega) (by omega) (by omega) (by omega) | exact zz_f1_skip (j := x3.toNatClampNeg) (by assumption) (by omega) (by omega) (by omega)), q120, q121, rfl, rfl, rfl, rfl, rfl, rfl, rfl, rfl, rfl, rfl, rfl, rfl, rfl, rfl, rfl, rfl⟩
set_option maxHeartbeats 4000000 in
theorem ff_X4_findInListOf (K : Nat) (hK : 1099511627776 ≤ K) (T : Nat) (hT : T ≤ 900) (n0 : Nat) (n1 : Nat) (n2 : Nat) (n3 : Nat) (n4 : Nat) (n5 : Nat) (n6 : Nat) (n7 : Nat) (n8 : Nat) (p1 : Int32) (s0 : Int32) (s1 : Int32) (s2 : Int32) (s3 : Int32) (s4 : Nat → Int32) (s5 : Nat → Int32) (s6 : Nat → Int32) (s7 : Nat → Int32) (s8 : Nat → Int32) (s9 : Int32) (s10 : Int32) (s11 : Nat → Int32) (s12 : Nat → Int32) (s13 : Int32) (s14 : Int32) (s15 : Nat → Int32) (s16 : Nat → Int32) (a0 : n7 = 201) (a1 : n8 = 201) (a2 : 0 ≤ s13.toInt) (a3 : s13.toInt ≤ 201) (a4 : s0.toInt ≤ 1024) (a5 : zz_vs s0.toInt (s15) (s16) s13.toInt) (a6 : 1 ≤ p1.toInt) (a7 : p1.toInt ≤ 1024) : zz_ok (m_X4_findInListOf K n0 n1 n2 n3 n4 n5 n6 n7 n8 p1 s0 s1 s2 s3 s4 s5 s6 s7 s8 s9 s10 s11 s12 s13 s14 s15 s16) (fun z => zz_f1 (s15) (s16) p1.toNatClampNeg (s13.toInt - 1) z.1.toInt ∧ -1 ≤ z.1.toInt ∧ z.1.toInt < s13.toInt ∧ z.2.1 = s0 ∧ z.2.2.1 = s1 ∧ z.2.2.2.1 = s2 ∧ z.2.2.2.2.2.1 = s4 ∧ z.2.2.2.2.2.2.1 = s5 ∧ z.2.2.2.2.2.2.2.1 = s6 ∧ z.2.2.2.2.2.2.2.2.1 = s7 ∧ z.2.2.2.2.2.2.2.2.2.1 = s8 ∧ z.2.2.2.2.2.2.2.2.2.2.1 = s9 ∧ z.2.2.2.2.2.2.2.2.2.2.2.1 = s10 ∧ z.2.2.2.2.2.2.2.2.2.2.2.2.1 = s11 ∧ z.2.2.2.2.2.2.2.2.2.2.2.2.2.1 = s12 ∧ z.2.2.2.2.2.2.2.2.2.2.2.2.2.2.1 = s13 ∧ z.2.2.2.2.2.2.2.2.2.2.2.2.2.2.2.1 = s14 ∧ z.2.2.2.2.2.2.2.2.2.2.2.2.2.2.2.2.1 = s15 ∧ z.2.2.2.2.2.2.2.2.2.2.2.2.2.2.2.2.2 = s16) := by
  have g1 := zz_rg p1
  have g2 := zz_rg s0
  have g3 := zz_rg s1
  have g4 := zz_rg s2
  have g5 := zz_rg s3
  have g6 := zz_rg s9
  have g7 := zz_rg s10
  have g8 := zz_rg s13
  have g9 := zz_rg s14
  unfold m_X4_findInListOf
  refine zz_ok_bind (ff_X4_listOf K hK T hT p1 a6 a7) ?_
  intro z10 hz10
  obtain ⟨r_1, _⟩ := z10
  have q11 : r_1.toInt = (zz_lo p1.toNatClampNeg : Int) := hz10
  clear hz10
  have g12 := zz_rg r_1
  show zz_ok ((m_X10_size K n7 n8 s13 s14 s15 s16).bind fun ⟨r_2, t_2_0, t_2_1, t_2_2, t_2_3⟩ => m_X4_findInListOf_L15 K n0 n1 n2 n3 n4 n5 n6 n7 n8 K p1 r_1 (r_2 - ((1 : Int32))) s0 s1 s2 s3 s4 s5 s6 s7 s8 s9 s10 s11 s12 t_2_0 t_2_1 t_2_2 t_2_3) _
  refine zz_ok_bind (ff_X10_size K hK T hT n7 n8 s13 s14 s15 s16) ?_
  intro z13 hz13
  obtain ⟨r_2, t_2_0, t_2_1, t_2_2, t_2_3⟩ := z13
  have q14 : r_2 = s13 := hz13.1
  have q15 : t_2_0 = s13 := hz13.2.1
  have q16 : t_2_1 = s14 := hz13.2.2.1
  have q17 : t_2_2 = s15 := hz13.2.2.2.1
  have q18 : t_2_3 = s16 := hz13.2.2.2.2
  clear hz13
  have e19 : s13 = r_2 := q14.symm
  subst e19
  have e20 : s13 = t_2_0 := q15.symm
  subst e20
  have e21 : s14 = t_2_1 := q16.symm
  subst e21
  have e22 : s15 = t_2_2 := q17.symm
  subst e22
  have e23 : s16 = t_2_3 := q18.symm
  subst e23
  show zz_ok (m_X4_findInListOf_L15 K n0 n1 n2 n3 n4 n5 n6 n7 n8 K p1 r_1 (s13 - ((1 : Int32))) s0 s1 s2 s3 s4 s5 s6 s7 s8 s9 s10 s11 s12 s13 s14 s15 s16) _
  have l24 : (1 : Int32).toInt = 1 := rfl
  obtain ⟨k25, f26⟩ := zz_sub s13 (1 : Int32)
  have g27 := zz_rg (s13 - ((1 : Int32)))
  refine (ff_X4_findInListOf_L15 K hK T hT n0 n1 n2 n3 n4 n5 n6 n7 n8 K p1 r_1 (s13 - ((1 : Int32))) s0 s1 s2 s3 s4 s5 s6 s7 s8 s9 s10 s11 s12 s13 s14 s15 s16 a0 a1 a2 a3 a4 a5 (by omega) (by omega) a6 a7 q11 (by omega)).mono (fun z hz => ?_)
  obtain ⟨y28_0, y28_1, y28_2, y28_3, y28_4, y28_5, y28_6, y28_7, y28_8, y28_9, y28_10, y28_11, y28_12, y28_13, y28_14, y28_15, y28_16, y28_17⟩ := z
  have q29 : zz_f1 (s15) (s16) p1.toNatClampNeg (s13 - ((1 : Int32))).toInt y28_0.toInt := hz.1
  have q30 : -1 ≤ y28_0.toInt := hz.2.1
  have q31 : y28_0.toInt < s13.toInt := hz.2.2.1
  have q32 : y28_1 = s0 := hz.2.2.2.1
  have q33 : y28_2 = s1 := hz.2.2.2.2.1
  have q34 : y28_3 = s2 := hz.2.2.2.2.2.1
  have q35 : y28_5 = s4 := hz.2.2.2.2.2.2.1
  have q36 : y28_6 = s5 := hz.2.2.2.2.2.2.2.1
  have q37 : y28_7 = s6 := hz.2.2.2.2.2.2.2.2.1
  have q38 : y28_8 = s7 := hz.2.2.2.2.2.2.2.2.2.1
  have q39 : y28_9 = s8 := hz.2.2.2.2.2.2.2.2.2.2.1
  have q40 : y28_10 = s9 := hz.2.2.2.2.2.2.2.2.2.2.2.1
  have q41 : y28_11 = s10 := hz.2.2.2.2.2.2.2.2.2.2.2.2.1
  have q42 : y28_12 = s11 := hz.2.2.2.2.2.2.2.2.2.2.2.2.2.1
  have q43 : y28_13 = s12 := hz.2.2.2.2.2.2.2.2.2.2.2.2.2.2.1
  have q44 : y28_14 = s13 := hz.2.2.2.2.2.2.2.2.2.2.2.2.2.2.2.1
  have q45 : y28_15 = s14 := hz.2.2.2.2.2.2.2.2.2.2.2.2.2.2.2.2.1
  have q46 : y28_16 = s15 := hz.2.2.2.2.2.2.2.2.2.2.2.2.2.2.2.2.2.1
  have q47 : y28_17 = s16 := hz.2.2.2.2.2.2.2.2.2.2.2.2.2.2.2.2.2.2
  clear hz
  have e48 : s0 = y28_1 := q32.symm
  subst e48
  have e49 : s1 = y28_2 := q33.symm
  subst e49
  have e50 : s2 = y28_3 := q34.symm
  subst e50
  have e51 : s4 = y28_5 := q35.symm
  subst e51
  have e52 : s5 = y28_6 := q36.symm
  subst e52
  have e53 : s6 = y28_7 := q37.symm
  subst e53
  have e54 : s7 = y28_8 := q38.symm
  subst e54
  have e55 : s8 = y28_9 := q39.symm
  subst e55
  have e56 : s9 = y28_10 := q40.symm
  subst e56
  have e57 : s10 = y28_11 := q41.symm
  subst e57
  have e58 : s11 = y28_12 := q42.symm
  subst e58
  have e59 : s12 = y28_13 := q43.symm
  subst e59
  have e60 : s13 = y28_14 := q44.symm
  subst e60
  have e61 : s14 = y28_15 := q45.symm
  subst e61
  have e62 : s15 = y28_16 := q46.symm
  subst e62
  have e63 : s16 = y28_17 := q47.symm
  subst e63
  have g64 := zz_rg y28_0
  have g65 := zz_rg y28_4
  show zz_f1 (s15) (s16) p1.toNatClampNeg (s13.toInt - 1) y28_0.toInt ∧ -1 ≤ y28_0.toInt ∧ y28_0.toInt < s13.toInt ∧ s0 = s0 ∧ s1 = s1 ∧ s2 = s2 ∧ s4 = s4 ∧ s5 = s5 ∧ s6 = s6 ∧ s7 = s7 ∧ s8 = s8 ∧ s9 = s9 ∧ s10 = s10 ∧ s11 = s11 ∧ s12 = s12 ∧ s13 = s13 ∧ s14 = s14 ∧ s15 = s15 ∧ s16 = s16
  exact ⟨(by exact zz_f1_cg (by assumption) (by omega)), q30, q31, rfl, rfl, rfl, rfl, rfl, rfl, rfl, rfl, rfl, rfl, rfl, rfl, rfl, rfl, rfl, rfl⟩
set_option maxHeartbeats 4000000 in
theorem ff_X4_firstOfLaterList_L16 (K : Nat) (hK : 1099511627776 ≤ K) (T : Nat) (hT : T ≤ 900) (n0 : Nat) (n1 : Nat) (n2 : Nat) (n3 : Nat) (n4 : Nat) (n5 : Nat) (n6 : Nat) (n7 : Nat) (n8 : Nat) : ∀ (k : Nat) (x1 : Int32) (x2 : Int32) (x3 : Int32) (x4 : Int32) (s0 : Int32) (s1 : Int32) (s2 : Int32) (s3 : Int32) (s4 : Nat → Int32) (s5 : Nat → Int32) (s6 : Nat → Int32) (s7 : Nat → Int32) (s8 : Nat → Int32) (s9 : Int32) (s10 : Int32) (s11 : Nat → Int32) (s12 : Nat → Int32) (s13 : Int32) (s14 : Int32) (s15 : Nat → Int32) (s16 : Nat → Int32), n7 = 201 → n8 = 201 → 0 ≤ s13.toInt → s13.toInt ≤ 201 → s0.toInt ≤ 1024 → zz_vs s0.toInt (s15) (s16) s13.toInt → -1 ≤ x4.toInt → x4.toInt < s13.toInt → -1 ≤ x2.toInt → x2.toInt < s13.toInt → x3.toInt ≤ 44 → x4.toInt + 1 < (k : Int) → zz_ok (m_X4_firstOfLaterList_L16 K n0 n1 n2 n3 n4 n5 n6 n7 n8 k x1 x2 x3 x4 s0 s1 s2 s3 s4 s5 s6 s7 s8 s9 s10 s11 s12 s13 s14 s15 s16) (fun z => zz_f2 (s15) (s16) x1.toInt x2.toInt x3.toInt x4.toInt z.1.toInt ∧ -1 ≤ z.1.toInt ∧ z.1.toInt < s13.toInt ∧ z.2.1 = s0 ∧ z.2.2.1 = s1 ∧ z.2.2.2.1 = s2 ∧ z.2.2.2.2.1 = s3 ∧ z.2.2.2.2.2.1 = s4 ∧ z.2.2.2.2.2.2.1 = s5 ∧ z.2.2.2.2.2.2.2.1 = s6 ∧ z.2.2.2.2.2.2.2.2.1 = s7 ∧ z.2.2.2.2.2.2.2.2.2.1 = s8 ∧ z.2.2.2.2.2.2.2.2.2.2.1 = s9 ∧ z.2.2.2.2.2.2.2.2.2.2.2.1 = s10 ∧ z.2.2.2.2.2.2.2.2.2.2.2.2.1 = s11 ∧ z.2.2.2.2.2.2.2.2.2.2.2.2.2.1 = s12 ∧ z.2.2.2.2.2.2.2.2.2.2.2.2.2.2.1 = s13 ∧ z.2.2.2.2.2.2.2.2.2.2.2.2.2.2.2.1 = s14 ∧ z.2.2.2.2.2.2.2.2.2.2.2.2.2.2.2.2.1 = s15 ∧ z.2.2.2.2.2.2.2.2.2.2.2.2.2.2.2.2.2 = s16) := by
  intro k
  induction k with
  | zero =>
    intro x1 x2 x3 x4 s0 s1 s2 s3 s4 s5 s6 s7 s8 s9 s10 s11 s12 s13 s14 s15 s16 a0 a1 a2 a3 a4 a5 a6 a7 a8 a9 a10 hz9
    exfalso
    have g_x1 := zz_rg x1
    have g_x2 := zz_rg x2
    have g_x3 := zz_rg x3
    have g_x4 := zz_rg x4
    have g_s0 := zz_rg s0
    have g_s1 := zz_rg s1
    have g_s2 := zz_rg s2
    have g_s3 := zz_rg s3
    have g_s9 := zz_rg s9
    have g_s10 := zz_rg s10
    have g_s13 := zz_rg s13
    have g_s14 := zz_rg s14
    omega
  | succ k ih =>
    intro x1 x2 x3 x4 s0 s1 s2 s3 s4 s5 s6 s7 s8 s9 s10 s11 s12 s13 s14 s15 s16 a0 a1 a2 a3 a4 a5 a6 a7 a8 a9 a10 hz9
    rw [m_X4_firstOfLaterList_L16_s]
    have g1 := zz_rg x1
    have g2 := zz_rg x2
    have g3 := zz_rg x3
    have g4 := zz_rg x4
    have g5 := zz_rg s0
    have g6 := zz_rg s1
    have g7 := zz_rg s2
    have g8 := zz_rg s3
    have g9 := zz_rg s9
    have g10 := zz_rg s10
    have g11 := zz_rg s13
    have g12 := zz_rg s14
    have l14 : (0 : Int32).toInt = 0 := rfl
    refine zz_ok_ite (fun c13 => ?_) (fun c13 => ?_)
    · have c13 := Int32.lt_iff_toInt_lt.mp c13
      refine zz_ok_some ?_
      show zz_f2 (s15) (s16) x1.toInt x2.toInt x3.toInt x4.toInt x2.toInt ∧ -1 ≤ x2.toInt ∧ x2.toInt < s13.toInt ∧ s0 = s0 ∧ s1 = s1 ∧ s2 = s2 ∧ s3 = s3 ∧ s4 = s4 ∧ s5 = s5 ∧ s6 = s6 ∧ s7 = s7 ∧ s8 = s8 ∧ s9 = s9 ∧ s10 = s10 ∧ s11 = s11 ∧ s12 = s12 ∧ s13 = s13 ∧ s14 = s14 ∧ s15 = s15 ∧ s16 = s16
      exact ⟨(by first | exact zz_f2_no (by omega) (by omega) | exact zz_f2_skip (j := x4.toNatClampNeg) (by assumption) (by omega) (by omega) (by omega) | exact zz_f2_new (j := x4.toNatClampNeg) (by assumption) (by omega) (by omega) (by omega) (by omega) (by omega) (by omega)), a8, a9, rfl, rfl, rfl, rfl, rfl, rfl, rfl, rfl, rfl, rfl, rfl, rfl, rfl, rfl, rfl, rfl, rfl⟩
    · have c13 := zz_nlt c13
      refine zz_ok_bind (ff_X10_wordsOf K hK T hT n7 n8 x4 s13 s14 s15 s16 (by omega) (by omega) a2 (by omega) (by omega) a7) ?_
      intro z15 hz15
      obtain ⟨r_3, t_3_0, t_3_1, t_3_2, t_3_3⟩ := z15
      have q16 : r_3 = s16 x4.toNatClampNeg := hz15.1
      have q17 : t_3_0 = s13 := hz15.2.1
      have q18 : t_3_1 = s14 := hz15.2.2.1
      have q19 : t_3_2 = s15 := hz15.2.2.2.1
      have q20 : t_3_3 = s16 := hz15.2.2.2.2
      clear hz15
      have e21 : s16 x4.toNatClampNeg = r_3 := q16.symm
      subst e21
      have e22 : s13 = t_3_0 := q17.symm
      subst e22
      have e23 : s14 = t_3_1 := q18.symm
      subst e23
      have e24 : s15 = t_3_2 := q19.symm
      subst e24
      have e25 : s16 = t_3_3 := q20.symm
      subst e25
      have v9 := zz_vs_at (by assumption : zz_vs s0.toInt s15 s16 s13.toInt) x4 (by omega) (by omega)
      have tn9 := zz_tnI (s16 x4.toNatClampNeg) (by omega)
      have tn6 := zz_tnI x4 (by omega)
      show zz_ok ((m_X4_listOf K (s16 x4.toNatClampNeg)).bind fun ⟨r_4, _⟩ => if r_4 ≤ x1 then (m_X4_firstOfLaterList_L16 K n0 n1 n2 n3 n4 n5 n6 n7 n8 k x1 x2 x3 (x4 + (-1)) s0 s1 s2 s3 s4 s5 s6 s7 s8 s9 s10 s11 s12 s13 s14 s15 s16) else (if x3 ≤ r_4 then (m_X4_firstOfLaterList_L16 K n0 n1 n2 n3 n4 n5 n6 n7 n8 k x1 x2 x3 (x4 + (-1)) s0 s1 s2 s3 s4 s5 s6 s7 s8 s9 s10 s11 s12 s13 s14 s15 s16) else (m_X4_firstOfLaterList_L16 K n0 n1 n2 n3 n4 n5 n6 n7 n8 k x1 x4 r_4 (x4 + (-1)) s0 s1 s2 s3 s4 s5 s6 s7 s8 s9 s10 s11 s12 s13 s14 s15 s16))) _
      have g26 := zz_rg (s16 x4.toNatClampNeg)
      refine zz_ok_bind (ff_X4_listOf K hK T hT (s16 x4.toNatClampNeg) (by omega) (by omega)) ?_
      intro z27 hz27
      obtain ⟨r_4, _⟩ := z27
      have q28 : r_4.toInt = (zz_lo (s16 x4.toNatClampNeg).toNatClampNeg : Int) := hz27
      clear hz27
      have g29 := zz_rg r_4
      show zz_ok (if r_4 ≤ x1 then (m_X4_firstOfLaterList_L16 K n0 n1 n2 n3 n4 n5 n6 n7 n8 k x1 x2 x3 (x4 + (-1)) s0 s1 s2 s3 s4 s5 s6 s7 s8 s9 s10 s11 s12 s13 s14 s15 s16) else (if x3 ≤ r_4 then (m_X4_firstOfLaterList_L16 K n0 n1 n2 n3 n4 n5 n6 n7 n8 k x1 x2 x3 (x4 + (-1)) s0 s1 s2 s3 s4 s5 s6 s7 s8 s9 s10 s11 s12 s13 s14 s15 s16) else (m_X4_firstOfLaterList_L16 K n0 n1 n2 n3 n4 n5 n6 n7 n8 k x1 x4 r_4 (x4 + (-1)) s0 s1 s2 s3 s4 s5 s6 s7 s8 s9 s10 s11 s12 s13 s14 s15 s16))) _
      refine zz_ok_ite (fun c30 => ?_) (fun c30 => ?_)
      · have c30 := Int32.le_iff_toInt_le.mp c30
        obtain ⟨y31, e32⟩ : ∃ y : Int32, y = x4 + (-1) := ⟨_, rfl⟩
        obtain ⟨k33, f34⟩ := zz_dec e32
        rw [← e32]
        clear e32
        have g35 := zz_rg y31
        refine (ih x1 x2 x3 y31 s0 s1 s2 s3 s4 s5 s6 s7 s8 s9 s10 s11 s12 s13 s14 s15 s16 a0 a1 a2 a3 a4 a5 (by omega) (by omega) a8 a9 a10 (by omega)).mono (fun z hz => ?_)
        obtain ⟨y36_0, y36_1, y36_2, y36_3, y36_4, y36_5, y36_6, y36_7, y36_8, y36_9, y36_10, y36_11, y36_12, y36_13, y36_14, y36_15, y36_16, y36_17⟩ := z
        have q37 : zz_f2 (s15) (s16) x1.toInt x2.toInt x3.toInt y31.toInt y36_0.toInt := hz.1
        have q38 : -1 ≤ y36_0.toInt := hz.2.1
        have q39 : y36_0.toInt < s13.toInt := hz.2.2.1
        have q40 : y36_1 = s0 := hz.2.2.2.1
        have q41 : y36_2 = s1 := hz.2.2.2.2.1
        have q42 : y36_3 = s2 := hz.2.2.2.2.2.1
        have q43 : y36_4 = s3 := hz.2.2.2.2.2.2.1
        have q44 : y36_5 = s4 := hz.2.2.2.2.2.2.2.1
        have q45 : y36_6 = s5 := hz.2.2.2.2.2.2.2.2.1
        have q46 : y36_7 = s6 := hz.2.2.2.2.2.2.2.2.2.1
        have q47 : y36_8 = s7 := hz.2.2.2.2.2.2.2.2.2.2.1
        have q48 : y36_9 = s8 := hz.2.2.2.2.2.2.2.2.2.2.2.1
        have q49 : y36_10 = s9 := hz.2.2.2.2.2.2.2.2.2.2.2.2.1
        have q50 : y36_11 = s10 := hz.2.2.2.2.2.2.2.2.2.2.2.2.2.1
        have q51 : y36_12 = s11 := hz.2.2.2.2.2.2.2.2.2.2.2.2.2.2.1
        have q52 : y36_13 = s12 := hz.2.2.2.2.2.2.2.2.2.2.2.2.2.2.2.1
        have q53 : y36_14 = s13 := hz.2.2.2.2.2.2.2.2.2.2.2.2.2.2.2.2.1
        have q54 : y36_15 = s14 := hz.2.2.2.2.2.2.2.2.2.2.2.2.2.2.2.2.2.1
        have q55 : y36_16 = s15 := hz.2.2.2.2.2.2.2.2.2.2.2.2.2.2.2.2.2.2.1
        have q56 : y36_17 = s16 := hz.2.2.2.2.2.2.2.2.2.2.2.2.2.2.2.2.2.2.2
        clear hz
        have e57 : s0 = y36_1 := q40.symm
        subst e57
        have e58 : s1 = y36_2 := q41.symm
        subst e58
        have e59 : s2 = y36_3 := q42.symm
        subst e59
        have e60 : s3 = y36_4 := q43.symm
        subst e60
        have e61 : s4 = y36_5 := q44.symm
        subst e61
        have e62 : s5 = y36_6 := q45.symm
        subst e62
        have e63 : s6 = y36_7 := q46.symm
        subst e63
        have e64 : s7 = y36_8 := q47.symm
        subst e64
        have e65 : s8 = y36_9 := q48.symm
        subst e65
        have e66 : s9 = y36_10 := q49.symm
        subst e66
        have e67 : s10 = y36_11 := q50.symm
        subst e67
        have e68 : s11 = y36_12 := q51.symm
        subst e68
        have e69 : s12 = y36_13 := q52.symm
        subst e69
        have e70 : s13 = y36_14 := q53.symm
        subst e70
        have e71 : s14 = y36_15 := q54.symm
        subst e71
        have e72 : s15 = y36_16 := q55.symm
        subst e72
        have e73 : s16 = y36_17 := q56.symm
        subst e73
        have g74 := zz_rg y36_0
        show zz_f2 (s15) (s16) x1.toInt x2.toInt x3.toInt x4.toInt y36_0.toInt ∧ -1 ≤ y36_0.toInt ∧ y36_0.toInt < s13.toInt ∧ s0 = s0 ∧ s1 = s1 ∧ s2 = s2 ∧ s3 = s3 ∧ s4 = s4 ∧ s5 = s5 ∧ s6 = s6 ∧ s7 = s7 ∧ s8 = s8 ∧ s9 = s9 ∧ s10 = s10 ∧ s11 = s11 ∧ s12 = s12 ∧ s13 = s13 ∧ s14 = s14 ∧ s15 = s15 ∧ s16 = s16
        exact ⟨(by first | exact zz_f2_no (by omega) (by omega) | exact zz_f2_skip (j := x4.toNatClampNeg) (by assumption) (by omega) (by omega) (by omega) | exact zz_f2_new (j := x4.toNatClampNeg) (by assumption) (by omega) (by omega) (by omega) (by omega) (by omega) (by omega)), q38, q39, rfl, rfl, rfl, rfl, rfl, rfl, rfl, rfl, rfl, rfl, rfl, rfl, rfl, rfl, rfl, rfl, rfl⟩
      · have c30 := zz_nle c30
        refine zz_ok_ite (fun c75 => ?_) (fun c75 => ?_)
        · have c75 := Int32.le_iff_toInt_le.mp c75
          obtain ⟨y76, e77⟩ : ∃ y : Int32, y = x4 + (-1) := ⟨_, rfl⟩
          obtain ⟨k78, f79⟩ := zz_dec e77
          rw [← e77]
          clear e77
          have g80 := zz_rg y76
          refine (ih x1 x2 x3 y76 s0 s1 s2 s3 s4 s5 s6 s7 s8 s9 s10 s11 s12 s13 s14 s15 s16 a0 a1 a2 a3 a4 a5 (by omega) (by omega) a8 a9 a10 (by omega)).mono (fun z hz => ?_)
          obtain ⟨y81_0, y81_1, y81_2, y81_3, y81_4, y81_5, y81_6, y81_7, y81_8, y81_9, y81_10, y81_11, y81_12, y81_13, y81_14, y81_15, y81_16, y81_17⟩ := z
          have q82 : zz_f2 (s15) (s16) x1.toInt x2.toInt x3.toInt y76.toInt y81_0.toInt := hz.1
          have q83 : -1 ≤ y81_0.toInt := hz.2.1
          have q84 : y81_0.toInt < s13.toInt := hz.2.2.1
          have q85 : y81_1 = s0 := hz.2.2.2.1
          have q86 : y81_2 = s1 := hz.2.2.2.2.1
          have q87 : y81_3 = s2 := hz.2.2.2.2.2.1
          have q88 : y81_4 = s3 := hz.2.2.2.2.2.2.1
          have q89 : y81_5 = s4 := hz.2.2.2.2.2.2.2.1
          have q90 : y81_6 = s5 := hz.2.2.2.2.2.2.2.2.1
          have q91 : y81_7 = s6 := hz.2.2.2.2.2.2.2.2.2.1
          have q92 : y81_8 = s7 := hz.2.2.2.2.2.2.2.2.2.2.1
          have q93 : y81_9 = s8 := hz.2.2.2.2.2.2.2.2.2.2.2.1
          have q94 : y81_10 = s9 := hz.2.2.2.2.2.2.2.2.2.2.2.2.1
          have q95 : y81_11 = s10 := hz.2.2.2.2.2.2.2.2.2.2.2.2.2.1
          have q96 : y81_12 = s11 := hz.2.2.2.2.2.2.2.2.2.2.2.2.2.2.1
          have q97 : y81_13 = s12 := hz.2.2.2.2.2.2.2.2.2.2.2.2.2.2.2.1
          have q98 : y81_14 = s13 := hz.2.2.2.2.2.2.2.2.2.2.2.2.2.2.2.2.1
          have q99 : y81_15 = s14 := hz.2.2.2.2.2.2.2.2.2.2.2.2.2.2.2.2.2.1
          have q100 : y81_16 = s15 := hz.2.2.2.2.2.2.2.2.2.2.2.2.2.2.2.2.2.2.1
          have q101 : y81_17 = s16 := hz.2.2.2.2.2.2.2.2.2.2.2.2.2.2.2.2.2.2.2
          clear hz
          have e102 : s0 = y81_1 := q85.symm
          subst e102
          have e103 : s1 = y81_2 := q86.symm
          subst e103
          have e104 : s2 = y81_3 := q87.symm
          subst e104
          have e105 : s3 = y81_4 := q88.symm
          subst e105
          have e106 : s4 = y81_5 := q89.symm
          subst e106
          have e107 : s5 = y81_6 := q90.symm
          subst e107
          have e108 : s6 = y81_7 := q91.symm
          subst e108
          have e109 : s7 = y81_8 := q92.symm
          subst e109
          have e110 : s8 = y81_9 := q93.symm
          subst e110
          have e111 : s9 = y81_10 := q94.symm
          subst e111
          have e112 : s10 = y81_11 := q95.symm
          subst e112
          have e113 : s11 = y81_12 := q96.symm
          subst e113
          have e114 : s12 = y81_13 := q97.symm
          subst e114
          have e115 : s13 = y81_14 := q98.symm
          subst e115
          have e116 : s14 = y81_15 := q99.symm
          subst e116
          have e117 : s15 = y81_16 := q100.symm
          subst e117
          have e118 : s16 = y81_17 := q101.symm
          subst e118
          have g119 := zz_rg y81_0
          show zz_f2 (s15) (s16) x1.toInt x2.toInt x3.toInt x4.toInt y81_0.toInt ∧ -1 ≤ y81_0.toInt ∧ y81_0.toInt < s13.toInt ∧ s0 = s0 ∧ s1 = s1 ∧ s2 = s2 ∧ s3 = s3 ∧ s4 = s4 ∧ s5 = s5 ∧ s6 = s6 ∧ s7 = s7 ∧ s8 = s8 ∧ s9 = s9 ∧ s10 = s10 ∧ s11 = s11 ∧ s12 = s12 ∧ s13 = s13 ∧ s14 = s14 ∧ s15 = s15 ∧ s16 = s16
          exact ⟨(by first | exact zz_f2_no (by omega) (by omega) | exact zz_f2_skip (j := x4.toNatClampNeg) (by assumption) (by omega) (by omega) (by omega) | exact zz_f2_new (j := x4.toNatClampNeg) (by assumption) (by omega) (by omega) (by omega) (by omega) (by omega) (by omega)), q83, q84, rfl, rfl, rfl, rfl, rfl, rfl, rfl, rfl, rfl, rfl, rfl, rfl, rfl, rfl, rfl, rfl, rfl⟩
        · have c75 := zz_nle c75
          obtain ⟨y120, e121⟩ : ∃ y : Int32, y = x4 + (-1) := ⟨_, rfl⟩
          obtain ⟨k122, f123⟩ := zz_dec e121
          rw [← e121]
          clear e121
          have g124 := zz_rg y120
          refine (ih x1 x4 r_4 y120 s0 s1 s2 s3 s4 s5 s6 s7 s8 s9 s10 s11 s12 s13 s14 s15 s16 a0 a1 a2 a3 a4 a5 (by omega) (by omega) a6 a7 (by omega) (by omega)).mono (fun z hz => ?_)
          obtain ⟨y125_0, y125_1, y125_2, y125_3, y125_4, y125_5, y125_6, y125_7, y125_8, y125_9, y125_10, y125_11, y125_12, y125_13, y125_14, y125_15, y125_16, y125_17⟩ := z
          have q126 : zz_f2 (s15) (s16) x1.toInt x4.toInt r_4.toInt y120.toInt y125_0.toInt := hz.1
          have q127 : -1 ≤ y125_0.toInt := hz.2.1
          have q128 : y125_0.toInt < s13.toInt := hz.2.2.1
          have q129 : y125_1 = s0 := hz.2.2.2.1
          have q130 : y125_2 = s1 := hz.2.2.2.2.1
          have q131 : y125_3 = s2 := hz.2.2.2.2.2.1
          have q132 : y125_4 = s3 := hz.2.2.2.2.2.2.1
          have q133 : y125_5 = s4 := hz.2.2.2.2.2.2.2.1
          have q134 : y125_6 = s5 := hz.2.2.2.2.2.2.2.2.1
          have q135 : y125_7 = s6 := hz.2.2.2.2.2.2.2.2.2.1
          have q136 : y125_8 = s7 := hz.2.2.2.2.2.2.2.2.2.2.1
          have q137 : y125_9 = s8 := hz.2.2.2.2.2.2.2.2.2.2.2.1
          have q138 : y125_10 = s9 := hz.2.2.2.2.2.2.2.2.2.2.2.2.1
          have q139 : y125_11 = s10 := hz.2.2.2.2.2.2.2.2.2.2.2.2.2.1
          have q140 : y125_12 = s11 := hz.2.2.2.2.2.2.2.2.2.2.2.2.2.2.1
          have q141 : y125_13 = s12 := hz.2.2.2.2.2.2.2.2.2.2.2.2.2.2.2.1
          have q142 : y125_14 = s13 := hz.2.2.2.2.2.2.2.2.2.2.2.2.2.2.2.2.1
          have q143 : y125_15 = s14 := hz.2.2.2.2.2.2.2.2.2.2.2.2.2.2.2.2.2.1
          have q144 : y125_16 = s15 := hz.2.2.2.2.2.2.2.2.2.2.2.2.2.2.2.2.2.2.1
          have q145 : y125_17 = s16 := hz.2.2.2.2.2.2.2.2.2.2.2.2.2.2.2.2.2.2.2
          clear hz
          have e146 : s0 = y125_1 := q129.symm
          subst e146
          have e147 : s1 = y125_2 := q130.symm
          subst e147
          have e148 : s2 = y125_3 := q131.symm
          subst e148
          have e149 : s3 = y125_4 := q132.symm
          subst e149
          have e150 : s4 = y125_5 := q133.symm
          subst e150
          have e151 : s5 = y125_6 := q134.symm
          subst e151
          have e152 : s6 = y125_7 := q135.symm
          subst e152
          have e153 : s7 = y125_8 := q136.symm
          subst e153
          have e154 : s8 = y125_9 := q137.symm
          subst e154
          have e155 : s9 = y125_10 := q138.symm
          subst e155
          have e156 : s10 = y125_11 := q139.symm
          subst e156
          have e157 : s11 = y125_12 := q140.symm
          subst e157
          have e158 : s12 = y125_13 := q141.symm
          subst e158
          have e159 : s13 = y125_14 := q142.symm
          subst e159
          have e160 : s14 = y125_15 := q143.symm
          subst e160
          have e161 : s15 = y125_16 := q144.symm
          subst e161
          have e162 : s16 = y125_17 := q145.symm
          subst e162
          have g163 := zz_rg y125_0
          show zz_f2 (s15) (s16) x1.toInt x2.toInt x3.toInt x4.toInt y125_0.toInt ∧ -1 ≤ y125_0.toInt ∧ y125_0.toInt < s13.toInt ∧ s0 = s0 ∧ s1 = s1 ∧ s2 = s2 ∧ s3 = s3 ∧ s4 = s4 ∧ s5 = s5 ∧ s6 = s6 ∧ s7 = s7 ∧ s8 = s8 ∧ s9 = s9 ∧ s10 = s10 ∧ s11 = s11 ∧ s12 = s12 ∧ s13 = s13 ∧ s14 = s14 ∧ s15 = s15 ∧ s16 = s16
          exact ⟨(by first | exact zz_f2_no (by omega) (by omega) | exact zz_f2_skip (j := x4.toNatClampNeg) (by assumption) (by omega) (by omega) (by omega) | exact zz_f2_new (j := x4.toNatClampNeg) (by assumption) (by omega) (by omega) (by omega) (by omega) (by omega) (by omega)), q127, q128, rfl, rfl, rfl, rfl, rfl, rfl, rfl, rfl, rfl, rfl, rfl, rfl, rfl, rfl, rfl, rfl, rfl⟩
set_option maxHeartbeats 4000000 in
theorem ff_X4_firstOfLaterList (K : Nat) (hK : 1099511627776 ≤ K) (T : Nat) (hT : T ≤ 900) (n0 : Nat) (n1 : Nat) (n2 : Nat) (n3 : Nat) (n4 : Nat) (n5 : Nat) (n6 : Nat) (n7 : Nat) (n8 : Nat) (p1 : Int32) (s0 : Int32) (s1 : Int32) (s2 : Int32) (s3 : Int32) (s4 : Nat → Int32) (s5 : Nat → Int32) (s6 : Nat → Int32) (s7 : Nat → Int32) (s8 : Nat → Int32) (s9 : Int32) (s10 : Int32) (s11 : Nat → Int32) (s12 : Nat → Int32) (s13 : Int32) (s14 : Int32) (s15 : Nat → Int32) (s16 : Nat → Int32) (a0 : n7 = 201) (a1 : n8 = 201) (a2 : 0 ≤ s13.toInt) (a3 : s13.toInt ≤ 201) (a4 : s0.toInt ≤ 1024) (a5 : zz_vs s0.toInt (s15) (s16) s13.toInt) : zz_ok (m_X4_firstOfLaterList K n0 n1 n2 n3 n4 n5 n6 n7 n8 p1 s0 s1 s2 s3 s4 s5 s6 s7 s8 s9 s10 s11 s12 s13 s14 s15 s16) (fun z => zz_f2 (s15) (s16) p1.toInt (-1) 44 (s13.toInt - 1) z.1.toInt ∧ -1 ≤ z.1.toInt ∧ z.1.toInt < s13.toInt ∧ z.2.1 = s0 ∧ z.2.2.1 = s1 ∧ z.2.2.2.1 = s2 ∧ z.2.2.2.2.1 = s3 ∧ z.2.2.2.2.2.1 = s4 ∧ z.2.2.2.2.2.2.1 = s5 ∧ z.2.2.2.2.2.2.2.1 = s6 ∧ z.2.2.2.2.2.2.2.2.1 = s7 ∧ z.2.2.2.2.2.2.2.2.2.1 = s8 ∧ z.2.2.2.2.2.2.2.2.2.2.1 = s9 ∧ z.2.2.2.2.2.2.2.2.2.2.2.1 = s10 ∧ z.2.2.2.2.2.2.2.2.2.2.2.2.1 = s11 ∧ z.2.2.2.2.2.2.2.2.2.2.2.2.2.1 = s12 ∧ z.2.2.2.2.2.2.2.2.2.2.2.2.2.2.1 = s13 ∧ z.2.2.2.2.2.2.2.2.2.2.2.2.2.2.2.1 = s14 ∧ z.2.2.2.2.2.2.2.2.2.2.2.2.2.2.2.2.1 = s15 ∧ z.2.2.2.2.2.2.2.2.2.2.2.2.2.2.2.2.2 = s16) := by
  have g1 := zz_rg p1
  have g2 := zz_rg s0
  have g3 := zz_rg s1
  have g4 := zz_rg s2
  have g5 := zz_rg s3
  have g6 := zz_rg s9
  have g7 := zz_rg s10
  have g8 := zz_rg s13
  have g9 := zz_rg s14
  unfold m_X4_firstOfLaterList
  refine zz_ok_bind (ff_X10_size K hK T hT n7 n8 s13 s14 s15 s16) ?_
  intro z10 hz10
  obtain ⟨r_1, t_1_0, t_1_1, t_1_2, t_1_3⟩ := z10
  have q11 : r_1 = s13 := hz10.1
  have q12 : t_1_0 = s13 := hz10.2.1
  have q13 : t_1_1 = s14 := hz10.2.2.1
  have q14 : t_1_2 = s15 := hz10.2.2.2.1
  have q15 : t_1_3 = s16 := hz10.2.2.2.2
  clear hz10
  have e16 : s13 = r_1 := q11.symm
  subst e16
  have e17 : s13 = t_1_0 := q12.symm
  subst e17
  have e18 : s14 = t_1_1 := q13.symm
  subst e18
  have e19 : s15 = t_1_2 := q14.symm
  subst e19
  have e20 : s16 = t_1_3 := q15.symm
  subst e20
  show zz_ok (m_X4_firstOfLaterList_L16 K n0 n1 n2 n3 n4 n5 n6 n7 n8 K p1 ((-1 : Int32)) ((44 : Int32)) (s13 - ((1 : Int32))) s0 s1 s2 s3 s4 s5 s6 s7 s8 s9 s10 s11 s12 s13 s14 s15 s16) _
  have l21 : (-1 : Int32).toInt = -1 := rfl
  have l22 : (44 : Int32).toInt = 44 := rfl
  have l23 : (1 : Int32).toInt = 1 := rfl
  obtain ⟨k24, f25⟩ := zz_sub s13 (1 : Int32)
  have g26 := zz_rg (s13 - ((1 : Int32)))
  refine (ff_X4_firstOfLaterList_L16 K hK T hT n0 n1 n2 n3 n4 n5 n6 n7 n8 K p1 ((-1 : Int32)) ((44 : Int32)) (s13 - ((1 : Int32))) s0 s1 s2 s3 s4 s5 s6 s7 s8 s9 s10 s11 s12 s13 s14 s15 s16 a0 a1 a2 a3 a4 a5 (by omega) (by omega) (by omega) (by omega) (by omega) (by omega)).mono (fun z hz => ?_)
  obtain ⟨y27_0, y27_1, y27_2, y27_3, y27_4, y27_5, y27_6, y27_7, y27_8, y27_9, y27_10, y27_11, y27_12, y27_13, y27_14, y27_15, y27_16, y27_17⟩ := z
  have q28 : zz_f2 (s15) (s16) p1.toInt ((-1 : Int32)).toInt ((44 : Int32)).toInt (s13 - ((1 : Int32))).toInt y27_0.toInt := hz.1
  have q29 : -1 ≤ y27_0.toInt := hz.2.1
  have q30 : y27_0.toInt < s13.toInt := hz.2.2.1
  have q31 : y27_1 = s0 := hz.2.2.2.1
  have q32 : y27_2 = s1 := hz.2.2.2.2.1
  have q33 : y27_3 = s2 := hz.2.2.2.2.2.1
  have q34 : y27_4 = s3 := hz.2.2.2.2.2.2.1
  have q35 : y27_5 = s4 := hz.2.2.2.2.2.2.2.1
  have q36 : y27_6 = s5 := hz.2.2.2.2.2.2.2.2.1
  have q37 : y27_7 = s6 := hz.2.2.2.2.2.2.2.2.2.1
  have q38 : y27_8 = s7 := hz.2.2.2.2.2.2.2.2.2.2.1
  have q39 : y27_9 = s8 := hz.2.2.2.2.2.2.2.2.2.2.2.1
  have q40 : y27_10 = s9 := hz.2.2.2.2.2.2.2.2.2.2.2.2.1
  have q41 : y27_11 = s10 := hz.2.2.2.2.2.2.2.2.2.2.2.2.2.1
  have q42 : y27_12 = s11 := hz.2.2.2.2.2.2.2.2.2.2.2.2.2.2.1
  have q43 : y27_13 = s12 := hz.2.2.2.2.2.2.2.2.2.2.2.2.2.2.2.1
  have q44 : y27_14 = s13 := hz.2.2.2.2.2.2.2.2.2.2.2.2.2.2.2.2.1
  have q45 : y27_15 = s14 := hz.2.2.2.2.2.2.2.2.2.2.2.2.2.2.2.2.2.1
  have q46 : y27_16 = s15 := hz.2.2.2.2.2.2.2.2.2.2.2.2.2.2.2.2.2.2.1
  have q47 : y27_17 = s16 := hz.2.2.2.2.2.2.2.2.2.2.2.2.2.2.2.2.2.2.2
  clear hz
  have e48 : s0 = y27_1 := q31.symm
  subst e48
  have e49 : s1 = y27_2 := q32.symm
  subst e49
  have e50 : s2 = y27_3 := q33.symm
  subst e50
  have e51 : s3 = y27_4 := q34.symm
  subst e51
  have e52 : s4 = y27_5 := q35.symm
  subst e52
  have e53 : s5 = y27_6 := q36.symm
  subst e53
  have e54 : s6 = y27_7 := q37.symm
  subst e54
  have e55 : s7 = y27_8 := q38.symm
  subst e55
  have e56 : s8 = y27_9 := q39.symm
  subst e56
  have e57 : s9 = y27_10 := q40.symm
  subst e57
  have e58 : s10 = y27_11 := q41.symm
  subst e58
  have e59 : s11 = y27_12 := q42.symm
  subst e59
  have e60 : s12 = y27_13 := q43.symm
  subst e60
  have e61 : s13 = y27_14 := q44.symm
  subst e61
  have e62 : s14 = y27_15 := q45.symm
  subst e62
  have e63 : s15 = y27_16 := q46.symm
  subst e63
  have e64 : s16 = y27_17 := q47.symm
  subst e64
  have g65 := zz_rg y27_0
  show zz_f2 (s15) (s16) p1.toInt (-1) 44 (s13.toInt - 1) y27_0.toInt ∧ -1 ≤ y27_0.toInt ∧ y27_0.toInt < s13.toInt ∧ s0 = s0 ∧ s1 = s1 ∧ s2 = s2 ∧ s3 = s3 ∧ s4 = s4 ∧ s5 = s5 ∧ s6 = s6 ∧ s7 = s7 ∧ s8 = s8 ∧ s9 = s9 ∧ s10 = s10 ∧ s11 = s11 ∧ s12 = s12 ∧ s13 = s13 ∧ s14 = s14 ∧ s15 = s15 ∧ s16 = s16
  exact ⟨(by exact zz_f2_cg (by assumption) (by omega) (by omega) (by omega)), q29, q30, rfl, rfl, rfl, rfl, rfl, rfl, rfl, rfl, rfl, rfl, rfl, rfl, rfl, rfl, rfl, rfl, rfl⟩
set_option maxHeartbeats 4000000 in
theorem ff_X4_take (K : Nat) (hK : 1099511627776 ≤ K) (T : Nat) (hT : T ≤ 900) (n0 : Nat) (n1 : Nat) (n2 : Nat) (n3 : Nat) (n4 : Nat) (n5 : Nat) (n6 : Nat) (n7 : Nat) (n8 : Nat) (p1 : Int32) (s0 : Int32) (s1 : Int32) (s2 : Int32) (s3 : Int32) (s4 : Nat → Int32) (s5 : Nat → Int32) (s6 : Nat → Int32) (s7 : Nat → Int32) (s8 : Nat → Int32) (s9 : Int32) (s10 : Int32) (s11 : Nat → Int32) (s12 : Nat → Int32) (s13 : Int32) (s14 : Int32) (s15 : Nat → Int32) (s16 : Nat → Int32) (a0 : n7 = 201) (a1 : n8 = 201) (a2 : 0 ≤ s13.toInt) (a3 : s13.toInt ≤ 201) (a4 : s0.toInt ≤ 1024) (a5 : zz_vs s0.toInt (s15) (s16) s13.toInt) (a6 : 1 ≤ p1.toInt) (a7 : p1.toInt ≤ 1024) : zz_ok (m_X4_take K n0 n1 n2 n3 n4 n5 n6 n7 n8 p1 s0 s1 s2 s3 s4 s5 s6 s7 s8 s9 s10 s11 s12 s13 s14 s15 s16) (fun z => zz_ctk (s15) (s16) s13.toInt (z.2.2.2.2.2.2.2.2.2.2.2.2.2.2.2.2.1) (z.2.2.2.2.2.2.2.2.2.2.2.2.2.2.2.2.2) z.2.2.2.2.2.2.2.2.2.2.2.2.2.2.1.toInt p1.toNatClampNeg z.1.toInt ∧ zz_vs s0.toInt (z.2.2.2.2.2.2.2.2.2.2.2.2.2.2.2.2.1) (z.2.2.2.2.2.2.2.2.2.2.2.2.2.2.2.2.2) z.2.2.2.2.2.2.2.2.2.2.2.2.2.2.1.toInt ∧ 0 ≤ z.2.2.2.2.2.2.2.2.2.2.2.2.2.2.1.toInt ∧ z.2.2.2.2.2.2.2.2.2.2.2.2.2.2.1.toInt ≤ 201 ∧ -1 ≤ z.1.toInt ∧ (z.1.toInt = -1 ∨ z.1.toInt + p1.toInt ≤ s0.toInt) ∧ z.2.1 = s0 ∧ z.2.2.1 = s1 ∧ z.2.2.2.1 = s2 ∧ z.2.2.2.2.2.1 = s4 ∧ z.2.2.2.2.2.2.1 = s5 ∧ z.2.2.2.2.2.2.2.1 = s6 ∧ z.2.2.2.2.2.2.2.2.1 = s7 ∧ z.2.2.2.2.2.2.2.2.2.1 = s8 ∧ z.2.2.2.2.2.2.2.2.2.2.1 = s9 ∧ z.2.2.2.2.2.2.2.2.2.2.2.1 = s10 ∧ z.2.2.2.2.2.2.2.2.2.2.2.2.1 = s11 ∧ z.2.2.2.2.2.2.2.2.2.2.2.2.2.1 = s12 ∧ z.2.2.2.2.2.2.2.2.2.2.2.2.2.2.2.1 = s14) := by
  have g1 := zz_rg p1
  have g2 := zz_rg s0
  have g3 := zz_rg s1
  have g4 := zz_rg s2
  have g5 := zz_rg s3
  have g6 := zz_rg s9
  have g7 := zz_rg s10
  have g8 := zz_rg s13
  have g9 := zz_rg s14
  have tn8 := zz_tnI p1 (by omega)
  unfold m_X4_take
  refine zz_ok_bind (ff_X4_findInListOf K hK T hT n0 n1 n2 n3 n4 n5 n6 n7 n8 p1 s0 s1 s2 s3 s4 s5 s6 s7 s8 s9 s10 s11 s12 s13 s14 s15 s16 a0 a1 a2 a3 a4 a5 a6 a7) ?_
  intro z10 hz10
  obtain ⟨r_1, t_1_0, t_1_1, t_1_2, t_1_3, t_1_4, t_1_5, t_1_6, t_1_7, t_1_8, t_1_9, t_1_10, t_1_11, t_1_12, t_1_13, t_1_14, t_1_15, t_1_16⟩ := z10
  have q11 : zz_f1 (s15) (s16) p1.toNatClampNeg (s13.toInt - 1) r_1.toInt := hz10.1
  have q12 : -1 ≤ r_1.toInt := hz10.2.1
  have q13 : r_1.toInt < s13.toInt := hz10.2.2.1
  have q14 : t_1_0 = s0 := hz10.2.2.2.1
  have q15 : t_1_1 = s1 := hz10.2.2.2.2.1
  have q16 : t_1_2 = s2 := hz10.2.2.2.2.2.1
  have q17 : t_1_4 = s4 := hz10.2.2.2.2.2.2.1
  have q18 : t_1_5 = s5 := hz10.2.2.2.2.2.2.2.1
  have q19 : t_1_6 = s6 := hz10.2.2.2.2.2.2.2.2.1
  have q20 : t_1_7 = s7 := hz10.2.2.2.2.2.2.2.2.2.1
  have q21 : t_1_8 = s8 := hz10.2.2.2.2.2.2.2.2.2.2.1
  have q22 : t_1_9 = s9 := hz10.2.2.2.2.2.2.2.2.2.2.2.1
  have q23 : t_1_10 = s10 := hz10.2.2.2.2.2.2.2.2.2.2.2.2.1
  have q24 : t_1_11 = s11 := hz10.2.2.2.2.2.2.2.2.2.2.2.2.2.1
  have q25 : t_1_12 = s12 := hz10.2.2.2.2.2.2.2.2.2.2.2.2.2.2.1
  have q26 : t_1_13 = s13 := hz10.2.2.2.2.2.2.2.2.2.2.2.2.2.2.2.1
  have q27 : t_1_14 = s14 := hz10.2.2.2.2.2.2.2.2.2.2.2.2.2.2.2.2.1
  have q28 : t_1_15 = s15 := hz10.2.2.2.2.2.2.2.2.2.2.2.2.2.2.2.2.2.1
  have q29 : t_1_16 = s16 := hz10.2.2.2.2.2.2.2.2.2.2.2.2.2.2.2.2.2.2
  clear hz10
  have e30 : s0 = t_1_0 := q14.symm
  subst e30
  have e31 : s1 = t_1_1 := q15.symm
  subst e31
  have e32 : s2 = t_1_2 := q16.symm
  subst e32
  have e33 : s4 = t_1_4 := q17.symm
  subst e33
  have e34 : s5 = t_1_5 := q18.symm
  subst e34
  have e35 : s6 = t_1_6 := q19.symm
  subst e35
  have e36 : s7 = t_1_7 := q20.symm
  subst e36
  have e37 : s8 = t_1_8 := q21.symm
  subst e37
  have e38 : s9 = t_1_9 := q22.symm
  subst e38
  have e39 : s10 = t_1_10 := q23.symm
  subst e39
  have e40 : s11 = t_1_11 := q24.symm
  subst e40
  have e41 : s12 = t_1_12 := q25.symm
  subst e41
  have e42 : s13 = t_1_13 := q26.symm
  subst e42
  have e43 : s14 = t_1_14 := q27.symm
  subst e43
  have e44 : s15 = t_1_15 := q28.symm
  subst e44
  have e45 : s16 = t_1_16 := q29.symm
  subst e45
  have g46 := zz_rg r_1
  have g47 := zz_rg t_1_3
  show zz_ok (if r_1 = ((-1 : Int32)) then ((m_X4_listOf K p1).bind fun ⟨r_9, _⟩ => (m_X4_firstOfLaterList K n0 n1 n2 n3 n4 n5 n6 n7 n8 r_9 s0 s1 s2 t_1_3 s4 s5 s6 s7 s8 s9 s10 s11 s12 s13 s14 s15 s16).bind fun ⟨r_10, t_10_0, t_10_1, t_10_2, t_10_3, t_10_4, t_10_5, t_10_6, t_10_7, t_10_8, t_10_9, t_10_10, t_10_11, t_10_12, t_10_13, t_10_14, t_10_15, t_10_16⟩ => if r_10 = ((-1 : Int32)) then (some ((-1 : Int32), t_10_0, t_10_1, t_10_2, t_10_3, t_10_4, t_10_5, t_10_6, t_10_7, t_10_8, t_10_9, t_10_10, t_10_11, t_10_12, t_10_13, t_10_14, t_10_15, t_10_16)) else ((m_X10_placeOf K n7 n8 r_10 t_10_13 t_10_14 t_10_15 t_10_16).bind fun ⟨r_12, t_12_0, t_12_1, t_12_2, t_12_3⟩ => (m_X10_wordsOf K n7 n8 r_10 t_12_0 t_12_1 t_12_2 t_12_3).bind fun ⟨r_13, t_13_0, t_13_1, t_13_2, t_13_3⟩ => (m_X10_remove K n7 n8 r_10 t_13_0 t_13_1 t_13_2 t_13_3).bind fun ⟨t_14_0, t_14_1, t_14_2, t_14_3⟩ => if (r_13 - p1) ≤ 0 then (some (r_12, t_10_0, t_10_1, t_10_2, t_10_3, t_10_4, t_10_5, t_10_6, t_10_7, t_10_8, t_10_9, t_10_10, t_10_11, t_10_12, t_14_0, t_14_1, t_14_2, t_14_3)) else ((m_X10_add K n7 n8 (r_12 + p1) (r_13 - p1) t_14_0 t_14_1 t_14_2 t_14_3).bind fun ⟨t_16_0, t_16_1, t_16_2, t_16_3⟩ => some (r_12, t_10_0, t_10_1, t_10_2, t_10_3, t_10_4, t_10_5, t_10_6, t_10_7, t_10_8, t_10_9, t_10_10, t_10_11, t_10_12, t_16_0, t_16_1, t_16_2, t_16_3)))) else (if r_1 = ((-1 : Int32)) then (some ((-1 : Int32), s0, s1, s2, t_1_3, s4, s5, s6, s7, s8, s9, s10, s11, s12, s13, s14, s15, s16)) else ((m_X10_placeOf K n7 n8 r_1 s13 s14 s15 s16).bind fun ⟨r_4, t_4_0, t_4_1, t_4_2, t_4_3⟩ => (m_X10_wordsOf K n7 n8 r_1 t_4_0 t_4_1 t_4_2 t_4_3).bind fun ⟨r_5, t_5_0, t_5_1, t_5_2, t_5_3⟩ => (m_X10_remove K n7 n8 r_1 t_5_0 t_5_1 t_5_2 t_5_3).bind fun ⟨t_6_0, t_6_1, t_6_2, t_6_3⟩ => if (r_5 - p1) ≤ 0 then (some (r_4, s0, s1, s2, t_1_3, s4, s5, s6, s7, s8, s9, s10, s11, s12, t_6_0, t_6_1, t_6_2, t_6_3)) else ((m_X10_add K n7 n8 (r_4 + p1) (r_5 - p1) t_6_0 t_6_1 t_6_2 t_6_3).bind fun ⟨t_8_0, t_8_1, t_8_2, t_8_3⟩ => some (r_4, s0, s1, s2, t_1_3, s4, s5, s6, s7, s8, s9, s10, s11, s12, t_8_0, t_8_1, t_8_2, t_8_3))))) _
  have l49 : (-1 : Int32).toInt = -1 := rfl
  refine zz_ok_ite (fun c48 => ?_) (fun c48 => ?_)
  · have c48 := congrArg Int32.toInt c48
    refine zz_ok_bind (ff_X4_listOf K hK T hT p1 a6 a7) ?_
    intro z50 hz50
    obtain ⟨r_9, _⟩ := z50
    have q51 : r_9.toInt = (zz_lo p1.toNatClampNeg : Int) := hz50
    clear hz50
    have g52 := zz_rg r_9
    show zz_ok ((m_X4_firstOfLaterList K n0 n1 n2 n3 n4 n5 n6 n7 n8 r_9 s0 s1 s2 t_1_3 s4 s5 s6 s7 s8 s9 s10 s11 s12 s13 s14 s15 s16).bind fun ⟨r_10, t_10_0, t_10_1, t_10_2, t_10_3, t_10_4, t_10_5, t_10_6, t_10_7, t_10_8, t_10_9, t_10_10, t_10_11, t_10_12, t_10_13, t_10_14, t_10_15, t_10_16⟩ => if r_10 = ((-1 : Int32)) then (some ((-1 : Int32), t_10_0, t_10_1, t_10_2, t_10_3, t_10_4, t_10_5, t_10_6, t_10_7, t_10_8, t_10_9, t_10_10, t_10_11, t_10_12, t_10_13, t_10_14, t_10_15, t_10_16)) else ((m_X10_placeOf K n7 n8 r_10 t_10_13 t_10_14 t_10_15 t_10_16).bind fun ⟨r_12, t_12_0, t_12_1, t_12_2, t_12_3⟩ => (m_X10_wordsOf K n7 n8 r_10 t_12_0 t_12_1 t_12_2 t_12_3).bind fun ⟨r_13, t_13_0, t_13_1, t_13_2, t_13_3⟩ => (m_X10_remove K n7 n8 r_10 t_13_0 t_13_1 t_13_2 t_13_3).bind fun ⟨t_14_0, t_14_1, t_14_2, t_14_3⟩ => if (r_13 - p1) ≤ 0 then (some (r_12, t_10_0, t_10_1, t_10_2, t_10_3, t_10_4, t_10_5, t_10_6, t_10_7, t_10_8, t_10_9, t_10_10, t_10_11, t_10_12, t_14_0, t_14_1, t_14_2, t_14_3)) else ((m_X10_add K n7 n8 (r_12 + p1) (r_13 - p1) t_14_0 t_14_1 t_14_2 t_14_3).bind fun ⟨t_16_0, t_16_1, t_16_2, t_16_3⟩ => some (r_12, t_10_0, t_10_1, t_10_2, t_10_3, t_10_4, t_10_5, t_10_6, t_10_7, t_10_8, t_10_9, t_10_10, t_10_11, t_10_12, t_16_0, t_16_1, t_16_2, t_16_3)))) _
    refine zz_ok_bind (ff_X4_firstOfLaterList K hK T hT n0 n1 n2 n3 n4 n5 n6 n7 n8 r_9 s0 s1 s2 t_1_3 s4 s5 s6 s7 s8 s9 s10 s11 s12 s13 s14 s15 s16 a0 a1 a2 a3 a4 a5) ?_
    intro z53 hz53
    obtain ⟨r_10, t_10_0, t_10_1, t_10_2, t_10_3, t_10_4, t_10_5, t_10_6, t_10_7, t_10_8, t_10_9, t_10_10, t_10_11, t_10_12, t_10_13, t_10_14, t_10_15, t_10_16⟩ := z53
    have q54 : zz_f2 (s15) (s16) r_9.toInt (-1) 44 (s13.toInt - 1) r_10.toInt := hz53.1
    have q55 : -1 ≤ r_10.toInt := hz53.2.1
    have q56 : r_10.toInt < s13.toInt := hz53.2.2.1
    have q57 : t_10_0 = s0 := hz53.2.2.2.1
    have q58 : t_10_1 = s1 := hz53.2.2.2.2.1
    have q59 : t_10_2 = s2 := hz53.2.2.2.2.2.1
    have q60 : t_10_3 = t_1_3 := hz53.2.2.2.2.2.2.1
    have q61 : t_10_4 = s4 := hz53.2.2.2.2.2.2.2.1
    have q62 : t_10_5 = s5 := hz53.2.2.2.2.2.2.2.2.1
    have q63 : t_10_6 = s6 := hz53.2.2.2.2.2.2.2.2.2.1
    have q64 : t_10_7 = s7 := hz53.2.2.2.2.2.2.2.2.2.2.1
    have q65 : t_10_8 = s8 := hz53.2.2.2.2.2.2.2.2.2.2.2.1
    have q66 : t_10_9 = s9 := hz53.2.2.2.2.2.2.2.2.2.2.2.2.1
    have q67 : t_10_10 = s10 := hz53.2.2.2.2.2.2.2.2.2.2.2.2.2.1
    have q68 : t_10_11 = s11 := hz53.2.2.2.2.2.2.2.2.2.2.2.2.2.2.1
    have q69 : t_10_12 = s12 := hz53.2.2.2.2.2.2.2.2.2.2.2.2.2.2.2.1
    have q70 : t_10_13 = s13 := hz53.2.2.2.2.2.2.2.2.2.2.2.2.2.2.2.2.1
    have q71 : t_10_14 = s14 := hz53.2.2.2.2.2.2.2.2.2.2.2.2.2.2.2.2.2.1
    have q72 : t_10_15 = s15 := hz53.2.2.2.2.2.2.2.2.2.2.2.2.2.2.2.2.2.2.1
    have q73 : t_10_16 = s16 := hz53.2.2.2.2.2.2.2.2.2.2.2.2.2.2.2.2.2.2.2
    clear hz53
    have e74 : s0 = t_10_0 := q57.symm
    subst e74
    have e75 : s1 = t_10_1 := q58.symm
    subst e75
    have e76 : s2 = t_10_2 := q59.symm
    subst e76
    have e77 : t_1_3 = t_10_3 := q60.symm
    subst e77
    have e78 : s4 = t_10_4 := q61.symm
    subst e78
    have e79 : s5 = t_10_5 := q62.symm
    subst e79
    have e80 : s6 = t_10_6 := q63.symm
    subst e80
    have e81 : s7 = t_10_7 := q64.symm
    subst e81
    have e82 : s8 = t_10_8 := q65.symm
    subst e82
    have e83 : s9 = t_10_9 := q66.symm
    subst e83
    have e84 : s10 = t_10_10 := q67.symm
    subst e84
    have e85 : s11 = t_10_11 := q68.symm
    subst e85
    have e86 : s12 = t_10_12 := q69.symm
    subst e86
    have e87 : s13 = t_10_13 := q70.symm
    subst e87
    have e88 : s14 = t_10_14 := q71.symm
    subst e88
    have e89 : s15 = t_10_15 := q72.symm
    subst e89
    have e90 : s16 = t_10_16 := q73.symm
    subst e90
    have g91 := zz_rg r_10
    show zz_ok (if r_10 = ((-1 : Int32)) then (some ((-1 : Int32), s0, s1, s2, t_1_3, s4, s5, s6, s7, s8, s9, s10, s11, s12, s13, s14, s15, s16)) else ((m_X10_placeOf K n7 n8 r_10 s13 s14 s15 s16).bind fun ⟨r_12, t_12_0, t_12_1, t_12_2, t_12_3⟩ => (m_X10_wordsOf K n7 n8 r_10 t_12_0 t_12_1 t_12_2 t_12_3).bind fun ⟨r_13, t_13_0, t_13_1, t_13_2, t_13_3⟩ => (m_X10_remove K n7 n8 r_10 t_13_0 t_13_1 t_13_2 t_13_3).bind fun ⟨t_14_0, t_14_1, t_14_2, t_14_3⟩ => if (r_13 - p1) ≤ 0 then (some (r_12, s0, s1, s2, t_1_3, s4, s5, s6, s7, s8, s9, s10, s11, s12, t_14_0, t_14_1, t_14_2, t_14_3)) else ((m_X10_add K n7 n8 (r_12 + p1) (r_13 - p1) t_14_0 t_14_1 t_14_2 t_14_3).bind fun ⟨t_16_0, t_16_1, t_16_2, t_16_3⟩ => some (r_12, s0, s1, s2, t_1_3, s4, s5, s6, s7, s8, s9, s10, s11, s12, t_16_0, t_16_1, t_16_2, t_16_3)))) _
    refine zz_ok_ite (fun c92 => ?_) (fun c92 => ?_)
    · have c92 := congrArg Int32.toInt c92
      refine zz_ok_some ?_
      show zz_ctk (s15) (s16) s13.toInt (s15) (s16) s13.toInt p1.toNatClampNeg (-1 : Int32).toInt ∧ zz_vs s0.toInt (s15) (s16) s13.toInt ∧ 0 ≤ s13.toInt ∧ s13.toInt ≤ 201 ∧ -1 ≤ (-1 : Int32).toInt ∧ ((-1 : Int32).toInt = -1 ∨ (-1 : Int32).toInt + p1.toInt ≤ s0.toInt) ∧ s0 = s0 ∧ s1 = s1 ∧ s2 = s2 ∧ s4 = s4 ∧ s5 = s5 ∧ s6 = s6 ∧ s7 = s7 ∧ s8 = s8 ∧ s9 = s9 ∧ s10 = s10 ∧ s11 = s11 ∧ s12 = s12 ∧ s14 = s14
      exact ⟨(by first | exact zz_ctk_a (x := r_10) (by assumption) (by assumption) (by assumption) rfl (by omega) (by omega) (by omega) | exact zz_ctk_b (x := r_10) (by assumption) (by assumption) (by assumption) rfl (by omega) (by omega) (by omega) (by omega) (by omega) (by omega) (by omega) | exact zz_ctk_a (x := r_1) (by assumption) (by assumption) (by assumption) rfl (by omega) (by omega) (by omega) | exact zz_ctk_b (x := r_1) (by assumption) (by assumption) (by assumption) rfl (by omega) (by omega) (by omega) (by omega) (by omega) (by omega) (by omega) | exact zz_ctk_no (zz_pki_n (by assumption : zz_vs s0.toInt s15 s16 s13.toInt) (by omega) (by assumption) (by omega) (by omega) (by assumption) (by omega) (by omega) (by omega) (by omega) (by omega)) (by omega) (by omega) | (exfalso; omega)), a5, a2, a3, (by omega), (by omega), rfl, rfl, rfl, rfl, rfl, rfl, rfl, rfl, rfl, rfl, rfl, rfl, rfl⟩
    · have c92 := zz_neq c92
      refine zz_ok_bind (ff_X10_placeOf K hK T hT n7 n8 r_10 s13 s14 s15 s16 (by omega) (by omega) a2 (by omega) (by omega) q56) ?_
      intro z93 hz93
      obtain ⟨r_12, t_12_0, t_12_1, t_12_2, t_12_3⟩ := z93
      have q94 : r_12 = s15 r_10.toNatClampNeg := hz93.1
      have q95 : t_12_0 = s13 := hz93.2.1
      have q96 : t_12_1 = s14 := hz93.2.2.1
      have q97 : t_12_2 = s15 := hz93.2.2.2.1
      have q98 : t_12_3 = s16 := hz93.2.2.2.2
      clear hz93
      have e99 : s15 r_10.toNatClampNeg = r_12 := q94.symm
      subst e99
      have e100 : s13 = t_12_0 := q95.symm
      subst e100
      have e101 : s14 = t_12_1 := q96.symm
      subst e101
      have e102 : s15 = t_12_2 := q97.symm
      subst e102
      have e103 : s16 = t_12_3 := q98.symm
      subst e103
      show zz_ok ((m_X10_wordsOf K n7 n8 r_10 s13 s14 s15 s16).bind fun ⟨r_13, t_13_0, t_13_1, t_13_2, t_13_3⟩ => (m_X10_remove K n7 n8 r_10 t_13_0 t_13_1 t_13_2 t_13_3).bind fun ⟨t_14_0, t_14_1, t_14_2, t_14_3⟩ => if (r_13 - p1) ≤ 0 then (some ((s15 r_10.toNatClampNeg), s0, s1, s2, t_1_3, s4, s5, s6, s7, s8, s9, s10, s11, s12, t_14_0, t_14_1, t_14_2, t_14_3)) else ((m_X10_add K n7 n8 ((s15 r_10.toNatClampNeg) + p1) (r_13 - p1) t_14_0 t_14_1 t_14_2 t_14_3).bind fun ⟨t_16_0, t_16_1, t_16_2, t_16_3⟩ => some ((s15 r_10.toNatClampNeg), s0, s1, s2, t_1_3, s4, s5, s6, s7, s8, s9, s10, s11, s12, t_16_0, t_16_1, t_16_2, t_16_3))) _
      refine zz_ok_bind (ff_X10_wordsOf K hK T hT n7 n8 r_10 s13 s14 s15 s16 (by omega) (by omega) a2 (by omega) (by omega) q56) ?_
      intro z104 hz104
      obtain ⟨r_13, t_13_0, t_13_1, t_13_2, t_13_3⟩ := z104
      have q105 : r_13 = s16 r_10.toNatClampNeg := hz104.1
      have q106 : t_13_0 = s13 := hz104.2.1
      have q107 : t_13_1 = s14 := hz104.2.2.1
      have q108 : t_13_2 = s15 := hz104.2.2.2.1
      have q109 : t_13_3 = s16 := hz104.2.2.2.2
      clear hz104
      have e110 : s16 r_10.toNatClampNeg = r_13 := q105.symm
      subst e110
      have e111 : s13 = t_13_0 := q106.symm
      subst e111
      have e112 : s14 = t_13_1 := q107.symm
      subst e112
      have e113 : s15 = t_13_2 := q108.symm
      subst e113
      have e114 : s16 = t_13_3 := q109.symm
      subst e114
      have v9 := zz_vs_at (by assumption : zz_vs s0.toInt s15 s16 s13.toInt) r_10 (by omega) (by omega)
      have tn9 := zz_tnI (s16 r_10.toNatClampNeg) (by omega)
      have tn6 := zz_tnI r_10 (by omega)
      have pk9 : zz_pki s15 s16 s13.toInt p1.toNatClampNeg r_10.toInt := by first | exact zz_pki_1 (by assumption) (by omega) (by omega) | exact zz_pki_2 (by assumption) (by omega) (by omega) (by assumption) (by omega) (by omega) (by omega) (by omega)
      have ge9 := zz_pki_ge pk9 (by omega)
      show zz_ok ((m_X10_remove K n7 n8 r_10 s13 s14 s15 s16).bind fun ⟨t_14_0, t_14_1, t_14_2, t_14_3⟩ => if ((s16 r_10.toNatClampNeg) - p1) ≤ 0 then (some ((s15 r_10.toNatClampNeg), s0, s1, s2, t_1_3, s4, s5, s6, s7, s8, s9, s10, s11, s12, t_14_0, t_14_1, t_14_2, t_14_3)) else ((m_X10_add K n7 n8 ((s15 r_10.toNatClampNeg) + p1) ((s16 r_10.toNatClampNeg) - p1) t_14_0 t_14_1 t_14_2 t_14_3).bind fun ⟨t_16_0, t_16_1, t_16_2, t_16_3⟩ => some ((s15 r_10.toNatClampNeg), s0, s1, s2, t_1_3, s4, s5, s6, s7, s8, s9, s10, s11, s12, t_16_0, t_16_1, t_16_2, t_16_3))) _
      refine zz_ok_bind (ff_X10_remove K hK T hT n7 n8 r_10 s13 s14 s15 s16 (by omega) (by omega) a2 (by omega) (by omega) q56) ?_
      intro z115 hz115
      obtain ⟨t_14_0, t_14_1, t_14_2, t_14_3⟩ := z115
      have q116 : t_14_0.toInt = s13.toInt - 1 := hz115.1
      have q117 : zz_rmv (s15) (t_14_2) r_10.toInt s13.toInt := hz115.2.1
      have q118 : zz_rmv (s16) (t_14_3) r_10.toInt s13.toInt := hz115.2.2.1
      have q119 : t_14_1 = s14 := hz115.2.2.2
      clear hz115
      have e120 : s14 = t_14_1 := q119.symm
      subst e120
      have g121 := zz_rg t_14_0
      have vs8 : zz_vs s0.toInt t_14_2 t_14_3 t_14_0.toInt := zz_vs_rm (by assumption : zz_vs s0.toInt s15 s16 s13.toInt) (by assumption) (by assumption) (by omega) (by omega)
      have tn7 := zz_tnI t_14_0 (by omega)
      show zz_ok (if ((s16 r_10.toNatClampNeg) - p1) ≤ 0 then (some ((s15 r_10.toNatClampNeg), s0, s1, s2, t_1_3, s4, s5, s6, s7, s8, s9, s10, s11, s12, t_14_0, s14, t_14_2, t_14_3)) else ((m_X10_add K n7 n8 ((s15 r_10.toNatClampNeg) + p1) ((s16 r_10.toNatClampNeg) - p1) t_14_0 s14 t_14_2 t_14_3).bind fun ⟨t_16_0, t_16_1, t_16_2, t_16_3⟩ => some ((s15 r_10.toNatClampNeg), s0, s1, s2, t_1_3, s4, s5, s6, s7, s8, s9, s10, s11, s12, t_16_0, t_16_1, t_16_2, t_16_3))) _
      have g123 := zz_rg (s16 r_10.toNatClampNeg)
      obtain ⟨k124, f125⟩ := zz_sub (s16 r_10.toNatClampNeg) p1
      have g126 := zz_rg ((s16 r_10.toNatClampNeg) - p1)
      have l127 : (0 : Int32).toInt = 0 := rfl
      refine zz_ok_ite (fun c122 => ?_) (fun c122 => ?_)
      · have c122 := Int32.le_iff_toInt_le.mp c122
        have g128 := zz_rg (s15 r_10.toNatClampNeg)
        refine zz_ok_some ?_
        show zz_ctk (s15) (s16) s13.toInt (t_14_2) (t_14_3) t_14_0.toInt p1.toNatClampNeg (s15 r_10.toNatClampNeg).toInt ∧ zz_vs s0.toInt (t_14_2) (t_14_3) t_14_0.toInt ∧ 0 ≤ t_14_0.toInt ∧ t_14_0.toInt ≤ 201 ∧ -1 ≤ (s15 r_10.toNatClampNeg).toInt ∧ ((s15 r_10.toNatClampNeg).toInt = -1 ∨ (s15 r_10.toNatClampNeg).toInt + p1.toInt ≤ s0.toInt) ∧ s0 = s0 ∧ s1 = s1 ∧ s2 = s2 ∧ s4 = s4 ∧ s5 = s5 ∧ s6 = s6 ∧ s7 = s7 ∧ s8 = s8 ∧ s9 = s9 ∧ s10 = s10 ∧ s11 = s11 ∧ s12 = s12 ∧ s14 = s14
        exact ⟨(by first | exact zz_ctk_a (x := r_10) (by assumption) (by assumption) (by assumption) rfl (by omega) (by omega) (by omega) | exact zz_ctk_b (x := r_10) (by assumption) (by assumption) (by assumption) rfl (by omega) (by omega) (by omega) (by omega) (by omega) (by omega) (by omega) | exact zz_ctk_a (x := r_1) (by assumption) (by assumption) (by assumption) rfl (by omega) (by omega) (by omega) | exact zz_ctk_b (x := r_1) (by assumption) (by assumption) (by assumption) rfl (by omega) (by omega) (by omega) (by omega) (by omega) (by omega) (by omega) | exact zz_ctk_no (zz_pki_n (by assumption : zz_vs s0.toInt s15 s16 s13.toInt) (by omega) (by assumption) (by omega) (by omega) (by assumption) (by omega) (by omega) (by omega) (by omega) (by omega)) (by omega) (by omega) | (exfalso; omega)), (by first | assumption | exact zz_vs_add (by assumption) (by omega) (by omega) (by omega) (by omega) (by omega)), (by omega), (by omega), (by omega), (by omega), rfl, rfl, rfl, rfl, rfl, rfl, rfl, rfl, rfl, rfl, rfl, rfl, rfl⟩
      · have c122 := zz_nle c122
        have g129 := zz_rg (s15 r_10.toNatClampNeg)
        obtain ⟨k130, f131⟩ := zz_add (s15 r_10.toNatClampNeg) p1
        have g132 := zz_rg ((s15 r_10.toNatClampNeg) + p1)
        refine zz_ok_bind (ff_X10_add K hK T hT n7 n8 ((s15 r_10.toNatClampNeg) + p1) ((s16 r_10.toNatClampNeg) - p1) t_14_0 s14 t_14_2 t_14_3 (by omega) (by omega) (by omega) (by omega) (by omega)) ?_
        intro z133 hz133
        obtain ⟨t_16_0, t_16_1, t_16_2, t_16_3⟩ := z133
        have q134 : t_16_0.toInt = t_14_0.toInt + 1 := hz133.1
        have q135 : t_16_2 = upd t_14_2 t_14_0.toNatClampNeg ((s15 r_10.toNatClampNeg) + p1) := hz133.2.1
        have q136 : t_16_3 = upd t_14_3 t_14_0.toNatClampNeg ((s16 r_10.toNatClampNeg) - p1) := hz133.2.2.1
        have q137 : t_16_1 = s14 := hz133.2.2.2
        clear hz133
        have e138 : upd t_14_2 t_14_0.toNatClampNeg ((s15 r_10.toNatClampNeg) + p1) = t_16_2 := q135.symm
        subst e138
        have e139 : upd t_14_3 t_14_0.toNatClampNeg ((s16 r_10.toNatClampNeg) - p1) = t_16_3 := q136.symm
        subst e139
        have e140 : s14 = t_16_1 := q137.symm
        subst e140
        have g141 := zz_rg t_16_0
        show zz_ok (some ((s15 r_10.toNatClampNeg), s0, s1, s2, t_1_3, s4, s5, s6, s7, s8, s9, s10, s11, s12, t_16_0, s14, (upd t_14_2 t_14_0.toNatClampNeg ((s15 r_10.toNatClampNeg) + p1)), (upd t_14_3 t_14_0.toNatClampNeg ((s16 r_10.toNatClampNeg) - p1)))) _
        refine zz_ok_some ?_
        show zz_ctk (s15) (s16) s13.toInt ((upd t_14_2 t_14_0.toNatClampNeg ((s15 r_10.toNatClampNeg) + p1))) ((upd t_14_3 t_14_0.toNatClampNeg ((s16 r_10.toNatClampNeg) - p1))) t_16_0.toInt p1.toNatClampNeg (s15 r_10.toNatClampNeg).toInt ∧ zz_vs s0.toInt ((upd t_14_2 t_14_0.toNatClampNeg ((s15 r_10.toNatClampNeg) + p1))) ((upd t_14_3 t_14_0.toNatClampNeg ((s16 r_10.toNatClampNeg) - p1))) t_16_0.toInt ∧ 0 ≤ t_16_0.toInt ∧ t_16_0.toInt ≤ 201 ∧ -1 ≤ (s15 r_10.toNatClampNeg).toInt ∧ ((s15 r_10.toNatClampNeg).toInt = -1 ∨ (s15 r_10.toNatClampNeg).toInt + p1.toInt ≤ s0.toInt) ∧ s0 = s0 ∧ s1 = s1 ∧ s2 = s2 ∧ s4 = s4 ∧ s5 = s5 ∧ s6 = s6 ∧ s7 = s7 ∧ s8 = s8 ∧ s9 = s9 ∧ s10 = s10 ∧ s11 = s11 ∧ s12 = s12 ∧ s14 = s14
        exact ⟨(by first | exact zz_ctk_a (x := r_10) (by assumption) (by assumption) (by assumption) rfl (by omega) (by omega) (by omega) | exact zz_ctk_b (x := r_10) (by assumption) (by assumption) (by assumption) rfl (by omega) (by omega) (by omega) (by omega) (by omega) (by omega) (by omega) | exact zz_ctk_a (x := r_1) (by assumption) (by assumption) (by assumption) rfl (by omega) (by omega) (by omega) | exact zz_ctk_b (x := r_1) (by assumption) (by assumption) (by assumption) rfl (by omega) (by omega) (by omega) (by omega) (by omega) (by omega) (by omega) | exact zz_ctk_no (zz_pki_n (by assumption : zz_vs s0.toInt s15 s16 s13.toInt) (by omega) (by assumption) (by omega) (by omega) (by assumption) (by omega) (by omega) (by omega) (by omega) (by omega)) (by omega) (by omega) | (exfalso; omega)), (by first | assumption | exact zz_vs_add (by assumption) (by omega) (by omega) (by omega) (by omega) (by omega)), (by omega), (by omega), (by omega), (by omega), rfl, rfl, rfl, rfl, rfl, rfl, rfl, rfl, rfl, rfl, rfl, rfl, rfl⟩
  · have c48 := zz_neq c48
    refine zz_ok_ite (fun c142 => ?_) (fun c142 => ?_)
    · have c142 := congrArg Int32.toInt c142
      refine zz_ok_some ?_
      show zz_ctk (s15) (s16) s13.toInt (s15) (s16) s13.toInt p1.toNatClampNeg (-1 : Int32).toInt ∧ zz_vs s0.toInt (s15) (s16) s13.toInt ∧ 0 ≤ s13.toInt ∧ s13.toInt ≤ 201 ∧ -1 ≤ (-1 : Int32).toInt ∧ ((-1 : Int32).toInt = -1 ∨ (-1 : Int32).toInt + p1.toInt ≤ s0.toInt) ∧ s0 = s0 ∧ s1 = s1 ∧ s2 = s2 ∧ s4 = s4 ∧ s5 = s5 ∧ s6 = s6 ∧ s7 = s7 ∧ s8 = s8 ∧ s9 = s9 ∧ s10 = s10 ∧ s11 = s11 ∧ s12 = s12 ∧ s14 = s14
      exact ⟨(by first | exact zz_ctk_a (x := r_10) (by assumption) (by assumption) (by assumption) rfl (by omega) (by omega) (by omega) | exact zz_ctk_b (x := r_10) (by assumption) (by assumption) (by assumption) rfl (by omega) (by omega) (by omega) (by omega) (by omega) (by omega) (by omega) | exact zz_ctk_a (x := r_1) (by assumption) (by assumption) (by assumption) rfl (by omega) (by omega) (by omega) | exact zz_ctk_b (x := r_1) (by assumption) (by assumption) (by assumption) rfl (by omega) (by omega) (by omega) (by omega) (by omega) (by omega) (by omega) | exact zz_ctk_no (zz_pki_n (by assumption : zz_vs s0.toInt s15 s16 s13.toInt) (by omega) (by assumption) (by omega) (by omega) (by assumption) (by omega) (by omega) (by omega) (by omega) (by omega)) (by omega) (by omega) | (exfalso; omega)), a5, a2, a3, (by omega), (by omega), rfl, rfl, rfl, rfl, rfl, rfl, rfl, rfl, rfl, rfl, rfl, rfl, rfl⟩
    · have c142 := zz_neq c142
      refine zz_ok_bind (ff_X10_placeOf K hK T hT n7 n8 r_1 s13 s14 s15 s16 (by omega) (by omega) a2 (by omega) (by omega) q13) ?_
      intro z143 hz143
      obtain ⟨r_4, t_4_0, t_4_1, t_4_2, t_4_3⟩ := z143
      have q144 : r_4 = s15 r_1.toNatClampNeg := hz143.1
      have q145 : t_4_0 = s13 := hz143.2.1
      have q146 : t_4_1 = s14 := hz143.2.2.1
      have q147 : t_4_2 = s15 := hz143.2.2.2.1
      have q148 : t_4_3 = s16 := hz143.2.2.2.2
      clear hz143
      have e149 : s15 r_1.toNatClampNeg = r_4 := q144.symm
      subst e149
      have e150 : s13 = t_4_0 := q145.symm
      subst e150
      have e151 : s14 = t_4_1 := q146.symm
      subst e151
      have e152 : s15 = t_4_2 := q147.symm
      subst e152
      have e153 : s16 = t_4_3 := q148.symm
      subst e153
      show zz_ok ((m_X10_wordsOf K n7 n8 r_1 s13 s14 s15 s16).bind fun ⟨r_5, t_5_0, t_5_1, t_5_2, t_5_3⟩ => (m_X10_remove K n7 n8 r_1 t_5_0 t_5_1 t_5_2 t_5_3).bind fun ⟨t_6_0, t_6_1, t_6_2, t_6_3⟩ => if (r_5 - p1) ≤ 0 then (some ((s15 r_1.toNatClampNeg), s0, s1, s2, t_1_3, s4, s5, s6, s7, s8, s9, s10, s11, s12, t_6_0, t_6_1, t_6_2, t_6_3)) else ((m_X10_add K n7 n8 ((s15 r_1.toNatClampNeg) + p1) (r_5 - p1) t_6_0 t_6_1 t_6_2 t_6_3).bind fun ⟨t_8_0, t_8_1, t_8_2, t_8_3⟩ => some ((s15 r_1.toNatClampNeg), s0, s1, s2, t_1_3, s4, s5, s6, s7, s8, s9, s10, s11, s12, t_8_0, t_8_1, t_8_2, t_8_3))) _
      refine zz_ok_bind (ff_X10_wordsOf K hK T hT n7 n8 r_1 s13 s14 s15 s16 (by omega) (by omega) a2 (by omega) (by omega) q13) ?_
      intro z154 hz154
      obtain ⟨r_5, t_5_0, t_5_1, t_5_2, t_5_3⟩ := z154
      have q155 : r_5 = s16 r_1.toNatClampNeg := hz154.1
      have q156 : t_5_0 = s13 := hz154.2.1
      have q157 : t_5_1 = s14 := hz154.2.2.1
      have q158 : t_5_2 = s15 := hz154.2.2.2.1
      have q159 : t_5_3 = s16 := hz154.2.2.2.2
      clear hz154
      have e160 : s16 r_1.toNatClampNeg = r_5 := q155.symm
      subst e160
      have e161 : s13 = t_5_0 := q156.symm
      subst e161
      have e162 : s14 = t_5_1 := q157.symm
      subst e162
      have e163 : s15 = t_5_2 := q158.symm
      subst e163
      have e164 : s16 = t_5_3 := q159.symm
      subst e164
      have v9 := zz_vs_at (by assumption : zz_vs s0.toInt s15 s16 s13.toInt) r_1 (by omega) (by omega)
      have tn9 := zz_tnI (s16 r_1.toNatClampNeg) (by omega)
      have tn6 := zz_tnI r_1 (by omega)
      have pk9 : zz_pki s15 s16 s13.toInt p1.toNatClampNeg r_1.toInt := by first | exact zz_pki_1 (by assumption) (by omega) (by omega) | exact zz_pki_2 (by assumption) (by omega) (by omega) (by assumption) (by omega) (by omega) (by omega) (by omega)
      have ge9 := zz_pki_ge pk9 (by omega)
      show zz_ok ((m_X10_remove K n7 n8 r_1 s13 s14 s15 s16).bind fun ⟨t_6_0, t_6_1, t_6_2, t_6_3⟩ => if ((s16 r_1.toNatClampNeg) - p1) ≤ 0 then (some ((s15 r_1.toNatClampNeg), s0, s1, s2, t_1_3, s4, s5, s6, s7, s8, s9, s10, s11, s12, t_6_0, t_6_1, t_6_2, t_6_3)) else ((m_X10_add K n7 n8 ((s15 r_1.toNatClampNeg) + p1) ((s16 r_1.toNatClampNeg) - p1) t_6_0 t_6_1 t_6_2 t_6_3).bind fun ⟨t_8_0, t_8_1, t_8_2, t_8_3⟩ => some ((s15 r_1.toNatClampNeg), s0, s1, s2, t_1_3, s4, s5, s6, s7, s8, s9, s10, s11, s12, t_8_0, t_8_1, t_8_2, t_8_3))) _
      refine zz_ok_bind (ff_X10_remove K hK T hT n7 n8 r_1 s13 s14 s15 s16 (by omega) (by omega) a2 (by omega) (by omega) q13) ?_
      intro z165 hz165
      obtain ⟨t_6_0, t_6_1, t_6_2, t_6_3⟩ := z165
      have q166 : t_6_0.toInt = s13.toInt - 1 := hz165.1
      have q167 : zz_rmv (s15) (t_6_2) r_1.toInt s13.toInt := hz165.2.1
      have q168 : zz_rmv (s16) (t_6_3) r_1.toInt s13.toInt := hz165.2.2.1
      have q169 : t_6_1 = s14 := hz165.2.2.2
      clear hz165
      have e170 : s14 = t_6_1 := q169.symm
      subst e170
      have g171 := zz_rg t_6_0
      have vs8 : zz_vs s0.toInt t_6_2 t_6_3 t_6_0.toInt := zz_vs_rm (by assumption : zz_vs s0.toInt s15 s16 s13.toInt) (by assumption) (by assumption) (by omega) (by omega)
      have tn7 := zz_tnI t_6_0 (by omega)
      show zz_ok (if ((s16 r_1.toNatClampNeg) - p1) ≤ 0 then (some ((s15 r_1.toNatClampNeg), s0, s1, s2, t_1_3, s4, s5, s6, s7, s8, s9, s10, s11, s12, t_6_0, s14, t_6_2, t_6_3)) else ((m_X10_add K n7 n8 ((s15 r_1.toNatClampNeg) + p1) ((s16 r_1.toNatClampNeg) - p1) t_6_0 s14 t_6_2 t_6_3).bind fun ⟨t_8_0, t_8_1, t_8_2, t_8_3⟩ => some ((s15 r_1.toNatClampNeg), s0, s1, s2, t_1_3, s4, s5, s6, s7, s8, s9, s10, s11, s12, t_8_0, t_8_1, t_8_2, t_8_3))) _
      have g173 := zz_rg (s16 r_1.toNatClampNeg)
      obtain ⟨k174, f175⟩ := zz_sub (s16 r_1.toNatClampNeg) p1
      have g176 := zz_rg ((s16 r_1.toNatClampNeg) - p1)
      have l177 : (0 : Int32).toInt = 0 := rfl
      refine zz_ok_ite (fun c172 => ?_) (fun c172 => ?_)
      · have c172 := Int32.le_iff_toInt_le.mp c172
        have g178 := zz_rg (s15 r_1.toNatClampNeg)
        refine zz_ok_some ?_
        show zz_ctk (s15) (s16) s13.toInt (t_6_2) (t_6_3) t_6_0.toInt p1.toNatClampNeg (s15 r_1.toNatClampNeg).toInt ∧ zz_vs s0.toInt (t_6_2) (t_6_3) t_6_0.toInt ∧ 0 ≤ t_6_0.toInt ∧ t_6_0.toInt ≤ 201 ∧ -1 ≤ (s15 r_1.toNatClampNeg).toInt ∧ ((s15 r_1.toNatClampNeg).toInt = -1 ∨ (s15 r_1.toNatClampNeg).toInt + p1.toInt ≤ s0.toInt) ∧ s0 = s0 ∧ s1 = s1 ∧ s2 = s2 ∧ s4 = s4 ∧ s5 = s5 ∧ s6 = s6 ∧ s7 = s7 ∧ s8 = s8 ∧ s9 = s9 ∧ s10 = s10 ∧ s11 = s11 ∧ s12 = s12 ∧ s14 = s14
        exact ⟨(by first | exact zz_ctk_a (x := r_10) (by assumption) (by assumption) (by assumption) rfl (by omega) (by omega) (by omega) | exact zz_ctk_b (x := r_10) (by assumption) (by assumption) (by assumption) rfl (by omega) (by omega) (by omega) (by omega) (by omega) (by omega) (by omega) | exact zz_ctk_a (x := r_1) (by assumption) (by assumption) (by assumption) rfl (by omega) (by omega) (by omega) | exact zz_ctk_b (x := r_1) (by assumption) (by assumption) (by assumption) rfl (by omega) (by omega) (by omega) (by omega) (by omega) (by omega) (by omega) | exact zz_ctk_no (zz_pki_n (by assumption : zz_vs s0.toInt s15 s16 s13.toInt) (by omega) (by assumption) (by omega) (by omega) (by assumption) (by omega) (by omega) (by omega) (by omega) (by omega)) (by omega) (by omega) | (exfalso; omega)), (by first | assumption | exact zz_vs_add (by assumption) (by omega) (by omega) (by omega) (by omega) (by omega)), (by omega), (by omega), (by omega), (by omega), rfl, rfl, rfl, rfl, rfl, rfl, rfl, rfl, rfl, rfl, rfl, rfl, rfl⟩
      · have c172 := zz_nle c172
        have g179 := zz_rg (s15 r_1.toNatClampNeg)
        obtain ⟨k180, f181⟩ := zz_add (s15 r_1.toNatClampNeg) p1
        have g182 := zz_rg ((s15 r_1.toNatClampNeg) + p1)
        refine zz_ok_bind (ff_X10_add K hK T hT n7 n8 ((s15 r_1.toNatClampNeg) + p1) ((s16 r_1.toNatClampNeg) - p1) t_6_0 s14 t_6_2 t_6_3 (by omega) (by omega) (by omega) (by omega) (by omega)) ?_
        intro z183 hz183
        obtain ⟨t_8_0, t_8_1, t_8_2, t_8_3⟩ := z183
        have q184 : t_8_0.toInt = t_6_0.toInt + 1 := hz183.1
        have q185 : t_8_2 = upd t_6_2 t_6_0.toNatClampNeg ((s15 r_1.toNatClampNeg) + p1) := hz183.2.1
        have q186 : t_8_3 = upd t_6_3 t_6_0.toNatClampNeg ((s16 r_1.toNatClampNeg) - p1) := hz183.2.2.1
        have q187 : t_8_1 = s14 := hz183.2.2.2
        clear hz183
        have e188 : upd t_6_2 t_6_0.toNatClampNeg ((s15 r_1.toNatClampNeg) + p1) = t_8_2 := q185.symm
        subst e188
        have e189 : upd t_6_3 t_6_0.toNatClampNeg ((s16 r_1.toNatClampNeg) - p1) = t_8_3 := q186.symm
        subst e189
        have e190 : s14 = t_8_1 := q187.symm
        subst e190
        have g191 := zz_rg t_8_0
        show zz_ok (some ((s15 r_1.toNatClampNeg), s0, s1, s2, t_1_3, s4, s5, s6, s7, s8, s9, s10, s11, s12, t_8_0, s14, (upd t_6_2 t_6_0.toNatClampNeg ((s15 r_1.toNatClampNeg) + p1)), (upd t_6_3 t_6_0.toNatClampNeg ((s16 r_1.toNatClampNeg) - p1)))) _
        refine zz_ok_some ?_
        show zz_ctk (s15) (s16) s13.toInt ((upd t_6_2 t_6_0.toNatClampNeg ((s15 r_1.toNatClampNeg) + p1))) ((upd t_6_3 t_6_0.toNatClampNeg ((s16 r_1.toNatClampNeg) - p1))) t_8_0.toInt p1.toNatClampNeg (s15 r_1.toNatClampNeg).toInt ∧ zz_vs s0.toInt ((upd t_6_2 t_6_0.toNatClampNeg ((s15 r_1.toNatClampNeg) + p1))) ((upd t_6_3 t_6_0.toNatClampNeg ((s16 r_1.toNatClampNeg) - p1))) t_8_0.toInt ∧ 0 ≤ t_8_0.toInt ∧ t_8_0.toInt ≤ 201 ∧ -1 ≤ (s15 r_1.toNatClampNeg).toInt ∧ ((s15 r_1.toNatClampNeg).toInt = -1 ∨ (s15 r_1.toNatClampNeg).toInt + p1.toInt ≤ s0.toInt) ∧ s0 = s0 ∧ s1 = s1 ∧ s2 = s2 ∧ s4 = s4 ∧ s5 = s5 ∧ s6 = s6 ∧ s7 = s7 ∧ s8 = s8 ∧ s9 = s9 ∧ s10 = s10 ∧ s11 = s11 ∧ s12 = s12 ∧ s14 = s14
        exact ⟨(by first | exact zz_ctk_a (x := r_10) (by assumption) (by assumption) (by assumption) rfl (by omega) (by omega) (by omega) | exact zz_ctk_b (x := r_10) (by assumption) (by assumption) (by assumption) rfl (by omega) (by omega) (by omega) (by omega) (by omega) (by omega) (by omega) | exact zz_ctk_a (x := r_1) (by assumption) (by assumption) (by assumption) rfl (by omega) (by omega) (by omega) | exact zz_ctk_b (x := r_1) (by assumption) (by assumption) (by assumption) rfl (by omega) (by omega) (by omega) (by omega) (by omega) (by omega) (by omega) | exact zz_ctk_no (zz_pki_n (by assumption : zz_vs s0.toInt s15 s16 s13.toInt) (by omega) (by assumption) (by omega) (by omega) (by assumption) (by omega) (by omega) (by omega) (by omega) (by omega)) (by omega) (by omega) | (exfalso; omega)), (by first | assumption | exact zz_vs_add (by assumption) (by omega) (by omega) (by omega) (by omega) (by omega)), (by omega), (by omega), (by omega), (by omega), rfl, rfl, rfl, rfl, rfl, rfl, rfl, rfl, rfl, rfl, rfl, rfl, rfl⟩
set_option maxHeartbeats 4000000 in
theorem ff_X4_takeBack_L18 (K : Nat) (hK : 1099511627776 ≤ K) (T : Nat) (hT : T ≤ 900) (n0 : Nat) (n1 : Nat) (n2 : Nat) (n3 : Nat) (n4 : Nat) (n5 : Nat) (n6 : Nat) (n7 : Nat) (n8 : Nat) : ∀ (k : Nat) (x1 : Int32) (x2 : Int32) (x3 : Int32) (x4 : Int32) (x5 : Int32) (s0 : Int32) (s1 : Int32) (s2 : Int32) (s3 : Int32) (s4 : Nat → Int32) (s5 : Nat → Int32) (s6 : Nat → Int32) (s7 : Nat → Int32) (s8 : Nat → Int32) (s9 : Int32) (s10 : Int32) (s11 : Nat → Int32) (s12 : Nat → Int32) (s13 : Int32) (s14 : Int32) (s15 : Nat → Int32) (s16 : Nat → Int32), n7 = 201 → n8 = 201 → 0 ≤ s13.toInt → s13.toInt ≤ 201 → s0.toInt ≤ 1024 → zz_vs s0.toInt (s15) (s16) s13.toInt → -1 ≤ x5.toInt → x5.toInt < s13.toInt → 0 ≤ x3.toInt → x3.toInt ≤ x1.toInt → 1 ≤ x2.toInt → x1.toInt + x2.toInt ≤ x4.toInt → x4.toInt ≤ s0.toInt → zz_tlen (s15) (s16) s13.toInt x5.toInt x1.toInt x2.toInt → x5.toInt + 1 < (k : Int) → zz_ok (m_X4_takeBack_L18 K n0 n1 n2 n3 n4 n5 n6 n7 n8 k x1 x2 x3 x4 x5 s0 s1 s2 s3 s4 s5 s6 s7 s8 s9 s10 s11 s12 s13 s14 s15 s16) (fun z => zz_tpo (s15) (s16) s13.toInt x5.toInt x3.toInt x4.toInt x1.toInt x2.toInt (z.2.2.2.2.2.2.2.2.2.2.2.2.2.2.2.1) (z.2.2.2.2.2.2.2.2.2.2.2.2.2.2.2.2) z.2.2.2.2.2.2.2.2.2.2.2.2.2.1.toInt ∧ zz_vs s0.toInt (z.2.2.2.2.2.2.2.2.2.2.2.2.2.2.2.1) (z.2.2.2.2.2.2.2.2.2.2.2.2.2.2.2.2) z.2.2.2.2.2.2.2.2.2.2.2.2.2.1.toInt ∧ 0 ≤ z.2.2.2.2.2.2.2.2.2.2.2.2.2.1.toInt ∧ z.2.2.2.2.2.2.2.2.2.2.2.2.2.1.toInt ≤ 201 ∧ z.1 = s0 ∧ z.2.1 = s1 ∧ z.2.2.1 = s2 ∧ z.2.2.2.1 = s3 ∧ z.2.2.2.2.1 = s4 ∧ z.2.2.2.2.2.1 = s5 ∧ z.2.2.2.2.2.2.1 = s6 ∧ z.2.2.2.2.2.2.2.1 = s7 ∧ z.2.2.2.2.2.2.2.2.1 = s8 ∧ z.2.2.2.2.2.2.2.2.2.1 = s9 ∧ z.2.2.2.2.2.2.2.2.2.2.1 = s10 ∧ z.2.2.2.2.2.2.2.2.2.2.2.1 = s11 ∧ z.2.2.2.2.2.2.2.2.2.2.2.2.1 = s12 ∧ z.2.2.2.2.2.2.2.2.2.2.2.2.2.2.1 = s14) := by
  intro k
  induction k with
  | zero =>
    intro x1 x2 x3 x4 x5 s0 s1 s2 s3 s4 s5 s6 s7 s8 s9 s10 s11 s12 s13 s14 s15 s16 a0 a1 a2 a3 a4 a5 a6 a7 a8 a9 a10 a11 a12 a13 hz9
    exfalso
    have g_x1 := zz_rg x1
    have g_x2 := zz_rg x2
    have g_x3 := zz_rg x3
    have g_x4 := zz_rg x4
    have g_x5 := zz_rg x5
    have g_s0 := zz_rg s0
    have g_s1 := zz_rg s1
    have g_s2 := zz_rg s2
    have g_s3 := zz_rg s3
    have g_s9 := zz_rg s9
    have g_s10 := zz_rg s10
    have g_s13 := zz_rg s13
    have g_s14 := zz_rg s14
    omega
  | succ k ih =>
    intro x1 x2 x3 x4 x5 s0 s1 s2 s3 s4 s5 s6 s7 s8 s9 s10 s11 s12 s13 s14 s15 s16 a0 a1 a2 a3 a4 a5 a6 a7 a8 a9 a10 a11 a12 a13 hz9
    rw [m_X4_takeBack_L18_s]
    have g1 := zz_rg x1
    have g2 := zz_rg x2
    have g3 := zz_rg x3
    have g4 := zz_rg x4
    have g5 := zz_rg x5
    have g6 := zz_rg s0
    have g7 := zz_rg s1
    have g8 := zz_rg s2
    have g9 := zz_rg s3
    have g10 := zz_rg s9
    have g11 := zz_rg s10
    have g12 := zz_rg s13
    have g13 := zz_rg s14
    have tn7 := zz_tnI s13 (by omega)
    have l15 : (0 : Int32).toInt = 0 := rfl
    refine zz_ok_ite (fun c14 => ?_) (fun c14 => ?_)
    · have c14 := Int32.lt_iff_toInt_lt.mp c14
      obtain ⟨k16, f17⟩ := zz_sub x4 x3
      have g18 := zz_rg (x4 - x3)
      refine zz_ok_bind (ff_X10_add K hK T hT n7 n8 x3 (x4 - x3) s13 s14 s15 s16 (by omega) (by omega) a2 (by omega) (by have := zz_tlen_end (by assumption : zz_tlen s15 s16 s13.toInt x5.toInt x1.toInt x2.toInt) (by omega); omega)) ?_
      intro z19 hz19
      obtain ⟨t_3_0, t_3_1, t_3_2, t_3_3⟩ := z19
      have q20 : t_3_0.toInt = s13.toInt + 1 := hz19.1
      have q21 : t_3_2 = upd s15 s13.toNatClampNeg x3 := hz19.2.1
      have q22 : t_3_3 = upd s16 s13.toNatClampNeg (x4 - x3) := hz19.2.2.1
      have q23 : t_3_1 = s14 := hz19.2.2.2
      clear hz19
      have e24 : upd s15 s13.toNatClampNeg x3 = t_3_2 := q21.symm
      subst e24
      have e25 : upd s16 s13.toNatClampNeg (x4 - x3) = t_3_3 := q22.symm
      subst e25
      have e26 : s14 = t_3_1 := q23.symm
      subst e26
      have g27 := zz_rg t_3_0
      show zz_ok (some (s0, s1, s2, s3, s4, s5, s6, s7, s8, s9, s10, s11, s12, t_3_0, s14, (upd s15 s13.toNatClampNeg x3), (upd s16 s13.toNatClampNeg (x4 - x3)))) _
      refine zz_ok_some ?_
      show zz_tpo (s15) (s16) s13.toInt x5.toInt x3.toInt x4.toInt x1.toInt x2.toInt ((upd s15 s13.toNatClampNeg x3)) ((upd s16 s13.toNatClampNeg (x4 - x3))) t_3_0.toInt ∧ zz_vs s0.toInt ((upd s15 s13.toNatClampNeg x3)) ((upd s16 s13.toNatClampNeg (x4 - x3))) t_3_0.toInt ∧ 0 ≤ t_3_0.toInt ∧ t_3_0.toInt ≤ 201 ∧ s0 = s0 ∧ s1 = s1 ∧ s2 = s2 ∧ s3 = s3 ∧ s4 = s4 ∧ s5 = s5 ∧ s6 = s6 ∧ s7 = s7 ∧ s8 = s8 ∧ s9 = s9 ∧ s10 = s10 ∧ s11 = s11 ∧ s12 = s12 ∧ s14 = s14
      exact ⟨(by first | exact zz_tpo_end (by omega) (by omega) (by omega) (by omega) (by omega) (by omega) | exact zz_tpo_left (j := x5.toNatClampNeg) (by assumption) (by assumption) (by assumption) (by omega) (by omega) (by omega) (by omega) (by omega) (by omega) (by omega) (by omega) (by omega) (by omega) | exact zz_tpo_right (j := x5.toNatClampNeg) (by assumption) (by assumption) (by assumption) (by omega) (by omega) (by omega) (by omega) (by omega) (by omega) (by omega) (by omega) (by omega) (by omega) (by omega) | exact zz_tpo_keep (j := x5.toNatClampNeg) (by assumption) (by omega) (by omega) (by omega) (by omega) (by omega) (by omega) (by omega) (by omega) (by omega)), (by first | assumption | exact zz_vs_add (by assumption) (by omega) (by omega) (by omega) (by omega) (by omega)), (by omega), (by first | omega | (have := zz_tlen_end (by assumption : zz_tlen s15 s16 s13.toInt x5.toInt x1.toInt x2.toInt) (by omega); omega)), rfl, rfl, rfl, rfl, rfl, rfl, rfl, rfl, rfl, rfl, rfl, rfl, rfl, rfl⟩
    · have c14 := zz_nlt c14
      refine zz_ok_bind (ff_X10_endOf K hK T hT n7 n8 x5 s13 s14 s15 s16 (by omega) (by omega) a2 (by omega) (by omega) a7) ?_
      intro z28 hz28
      obtain ⟨r_4, t_4_0, t_4_1, t_4_2, t_4_3⟩ := z28
      have q29 : r_4 = (s15 x5.toNatClampNeg) + (s16 x5.toNatClampNeg) := hz28.1
      have q30 : t_4_0 = s13 := hz28.2.1
      have q31 : t_4_1 = s14 := hz28.2.2.1
      have q32 : t_4_2 = s15 := hz28.2.2.2.1
      have q33 : t_4_3 = s16 := hz28.2.2.2.2
      clear hz28
      have e34 : (s15 x5.toNatClampNeg) + (s16 x5.toNatClampNeg) = r_4 := q29.symm
      subst e34
      have e35 : s13 = t_4_0 := q30.symm
      subst e35
      have e36 : s14 = t_4_1 := q31.symm
      subst e36
      have e37 : s15 = t_4_2 := q32.symm
      subst e37
      have e38 : s16 = t_4_3 := q33.symm
      subst e38
      have v9 := zz_vs_at (by assumption : zz_vs s0.toInt s15 s16 s13.toInt) x5 (by omega) (by omega)
      have tn6 := zz_tnI x5 (by omega)
      show zz_ok (if ((s15 x5.toNatClampNeg) + (s16 x5.toNatClampNeg)) = x1 then ((m_X10_placeOf K n7 n8 x5 s13 s14 s15 s16).bind fun ⟨r_10, t_10_0, t_10_1, t_10_2, t_10_3⟩ => (m_X10_remove K n7 n8 x5 t_10_0 t_10_1 t_10_2 t_10_3).bind fun ⟨t_11_0, t_11_1, t_11_2, t_11_3⟩ => m_X4_takeBack_L18 K n0 n1 n2 n3 n4 n5 n6 n7 n8 k x1 x2 r_10 x4 (x5 + (-1)) s0 s1 s2 s3 s4 s5 s6 s7 s8 s9 s10 s11 s12 t_11_0 t_11_1 t_11_2 t_11_3) else ((m_X10_placeOf K n7 n8 x5 s13 s14 s15 s16).bind fun ⟨r_6, t_6_0, t_6_1, t_6_2, t_6_3⟩ => if r_6 = (x1 + x2) then ((m_X10_endOf K n7 n8 x5 t_6_0 t_6_1 t_6_2 t_6_3).bind fun ⟨r_8, t_8_0, t_8_1, t_8_2, t_8_3⟩ => (m_X10_remove K n7 n8 x5 t_8_0 t_8_1 t_8_2 t_8_3).bind fun ⟨t_9_0, t_9_1, t_9_2, t_9_3⟩ => m_X4_takeBack_L18 K n0 n1 n2 n3 n4 n5 n6 n7 n8 k x1 x2 x3 r_8 (x5 + (-1)) s0 s1 s2 s3 s4 s5 s6 s7 s8 s9 s10 s11 s12 t_9_0 t_9_1 t_9_2 t_9_3) else (m_X4_takeBack_L18 K n0 n1 n2 n3 n4 n5 n6 n7 n8 k x1 x2 x3 x4 (x5 + (-1)) s0 s1 s2 s3 s4 s5 s6 s7 s8 s9 s10 s11 s12 t_6_0 t_6_1 t_6_2 t_6_3))) _
      have g40 := zz_rg (s15 x5.toNatClampNeg)
      have g41 := zz_rg (s16 x5.toNatClampNeg)
      obtain ⟨k42, f43⟩ := zz_add (s15 x5.toNatClampNeg) (s16 x5.toNatClampNeg)
      have g44 := zz_rg ((s15 x5.toNatClampNeg) + (s16 x5.toNatClampNeg))
      refine zz_ok_ite (fun c39 => ?_) (fun c39 => ?_)
      · have c39 := congrArg Int32.toInt c39
        refine zz_ok_bind (ff_X10_placeOf K hK T hT n7 n8 x5 s13 s14 s15 s16 (by omega) (by omega) a2 (by omega) (by omega) a7) ?_
        intro z45 hz45
        obtain ⟨r_10, t_10_0, t_10_1, t_10_2, t_10_3⟩ := z45
        have q46 : r_10 = s15 x5.toNatClampNeg := hz45.1
        have q47 : t_10_0 = s13 := hz45.2.1
        have q48 : t_10_1 = s14 := hz45.2.2.1
        have q49 : t_10_2 = s15 := hz45.2.2.2.1
        have q50 : t_10_3 = s16 := hz45.2.2.2.2
        clear hz45
        have e51 : s15 x5.toNatClampNeg = r_10 := q46.symm
        subst e51
        have e52 : s13 = t_10_0 := q47.symm
        subst e52
        have e53 : s14 = t_10_1 := q48.symm
        subst e53
        have e54 : s15 = t_10_2 := q49.symm
        subst e54
        have e55 : s16 = t_10_3 := q50.symm
        subst e55
        show zz_ok ((m_X10_remove K n7 n8 x5 s13 s14 s15 s16).bind fun ⟨t_11_0, t_11_1, t_11_2, t_11_3⟩ => m_X4_takeBack_L18 K n0 n1 n2 n3 n4 n5 n6 n7 n8 k x1 x2 (s15 x5.toNatClampNeg) x4 (x5 + (-1)) s0 s1 s2 s3 s4 s5 s6 s7 s8 s9 s10 s11 s12 t_11_0 t_11_1 t_11_2 t_11_3) _
        refine zz_ok_bind (ff_X10_remove K hK T hT n7 n8 x5 s13 s14 s15 s16 (by omega) (by omega) a2 (by omega) (by omega) a7) ?_
        intro z56 hz56
        obtain ⟨t_11_0, t_11_1, t_11_2, t_11_3⟩ := z56
        have q57 : t_11_0.toInt = s13.toInt - 1 := hz56.1
        have q58 : zz_rmv (s15) (t_11_2) x5.toInt s13.toInt := hz56.2.1
        have q59 : zz_rmv (s16) (t_11_3) x5.toInt s13.toInt := hz56.2.2.1
        have q60 : t_11_1 = s14 := hz56.2.2.2
        clear hz56
        have e61 : s14 = t_11_1 := q60.symm
        subst e61
        have g62 := zz_rg t_11_0
        have vs8 : zz_vs s0.toInt t_11_2 t_11_3 t_11_0.toInt := zz_vs_rm (by assumption : zz_vs s0.toInt s15 s16 s13.toInt) (by assumption) (by assumption) (by omega) (by omega)
        show zz_ok (m_X4_takeBack_L18 K n0 n1 n2 n3 n4 n5 n6 n7 n8 k x1 x2 (s15 x5.toNatClampNeg) x4 (x5 + (-1)) s0 s1 s2 s3 s4 s5 s6 s7 s8 s9 s10 s11 s12 t_11_0 s14 t_11_2 t_11_3) _
        obtain ⟨y63, e64⟩ : ∃ y : Int32, y = x5 + (-1) := ⟨_, rfl⟩
        obtain ⟨k65, f66⟩ := zz_dec e64
        rw [← e64]
        clear e64
        have g67 := zz_rg y63
        refine (ih x1 x2 (s15 x5.toNatClampNeg) x4 y63 s0 s1 s2 s3 s4 s5 s6 s7 s8 s9 s10 s11 s12 t_11_0 s14 t_11_2 t_11_3 a0 a1 (by omega) (by first | omega | (have := zz_tlen_end (by assumption : zz_tlen s15 s16 s13.toInt x5.toInt x1.toInt x2.toInt) (by omega); omega)) a4 (by first | assumption | exact zz_vs_add (by assumption) (by omega) (by omega) (by omega) (by omega) (by omega)) (by omega) (by omega) (by omega) (by omega) a10 a11 a12 (by first | exact zz_tlen_keep (j := x5.toNatClampNeg) (by assumption) (by omega) (by omega) (by omega) (by omega) (by omega) (by omega) (by omega) (by omega) (by omega) | exact zz_tlen_drop (j := x5.toNatClampNeg) (by assumption) (by assumption) (by assumption) (by omega) (by omega) (by omega) (by omega) (by omega) (by omega) (by omega) (by omega) (by omega)) (by omega)).mono (fun z hz => ?_)
        obtain ⟨y68_0, y68_1, y68_2, y68_3, y68_4, y68_5, y68_6, y68_7, y68_8, y68_9, y68_10, y68_11, y68_12, y68_13, y68_14, y68_15, y68_16⟩ := z
        have q69 : zz_tpo (t_11_2) (t_11_3) t_11_0.toInt y63.toInt (s15 x5.toNatClampNeg).toInt x4.toInt x1.toInt x2.toInt (y68_15) (y68_16) y68_13.toInt := hz.1
        have q70 : zz_vs s0.toInt (y68_15) (y68_16) y68_13.toInt := hz.2.1
        have q71 : 0 ≤ y68_13.toInt := hz.2.2.1
        have q72 : y68_13.toInt ≤ 201 := hz.2.2.2.1
        have q73 : y68_0 = s0 := hz.2.2.2.2.1
        have q74 : y68_1 = s1 := hz.2.2.2.2.2.1
        have q75 : y68_2 = s2 := hz.2.2.2.2.2.2.1
        have q76 : y68_3 = s3 := hz.2.2.2.2.2.2.2.1
        have q77 : y68_4 = s4 := hz.2.2.2.2.2.2.2.2.1
        have q78 : y68_5 = s5 := hz.2.2.2.2.2.2.2.2.2.1
        have q79 : y68_6 = s6 := hz.2.2.2.2.2.2.2.2.2.2.1
        have q80 : y68_7 = s7 := hz.2.2.2.2.2.2.2.2.2.2.2.1
        have q81 : y68_8 = s8 := hz.2.2.2.2.2.2.2.2.2.2.2.2.1
        have q82 : y68_9 = s9 := hz.2.2.2.2.2.2.2.2.2.2.2.2.2.1
        have q83 : y68_10 = s10 := hz.2.2.2.2.2.2.2.2.2.2.2.2.2.2.1
        have q84 : y68_11 = s11 := hz.2.2.2.2.2.2.2.2.2.2.2.2.2.2.2.1
        have q85 : y68_12 = s12 := hz.2.2.2.2.2.2.2.2.2.2.2.2.2.2.2.2.1
        have q86 : y68_14 = s14 := hz.2.2.2.2.2.2.2.2.2.2.2.2.2.2.2.2.2
        clear hz
        have e87 : s0 = y68_0 := q73.symm
        subst e87
        have e88 : s1 = y68_1 := q74.symm
        subst e88
        have e89 : s2 = y68_2 := q75.symm
        subst e89
        have e90 : s3 = y68_3 := q76.symm
        subst e90
        have e91 : s4 = y68_4 := q77.symm
        subst e91
        have e92 : s5 = y68_5 := q78.symm
        subst e92
        have e93 : s6 = y68_6 := q79.symm
        subst e93
        have e94 : s7 = y68_7 := q80.symm
        subst e94
        have e95 : s8 = y68_8 := q81.symm
        subst e95
        have e96 : s9 = y68_9 := q82.symm
        subst e96
        have e97 : s10 = y68_10 := q83.symm
        subst e97
        have e98 : s11 = y68_11 := q84.symm
        subst e98
        have e99 : s12 = y68_12 := q85.symm
        subst e99
        have e100 : s14 = y68_14 := q86.symm
        subst e100
        have g101 := zz_rg y68_13
        show zz_tpo (s15) (s16) s13.toInt x5.toInt x3.toInt x4.toInt x1.toInt x2.toInt (y68_15) (y68_16) y68_13.toInt ∧ zz_vs s0.toInt (y68_15) (y68_16) y68_13.toInt ∧ 0 ≤ y68_13.toInt ∧ y68_13.toInt ≤ 201 ∧ s0 = s0 ∧ s1 = s1 ∧ s2 = s2 ∧ s3 = s3 ∧ s4 = s4 ∧ s5 = s5 ∧ s6 = s6 ∧ s7 = s7 ∧ s8 = s8 ∧ s9 = s9 ∧ s10 = s10 ∧ s11 = s11 ∧ s12 = s12 ∧ s14 = s14
        exact ⟨(by first | exact zz_tpo_end (by omega) (by omega) (by omega) (by omega) (by omega) (by omega) | exact zz_tpo_left (j := x5.toNatClampNeg) (by assumption) (by assumption) (by assumption) (by omega) (by omega) (by omega) (by omega) (by omega) (by omega) (by omega) (by omega) (by omega) (by omega) | exact zz_tpo_right (j := x5.toNatClampNeg) (by assumption) (by assumption) (by assumption) (by omega) (by omega) (by omega) (by omega) (by omega) (by omega) (by omega) (by omega) (by omega) (by omega) (by omega) | exact zz_tpo_keep (j := x5.toNatClampNeg) (by assumption) (by omega) (by omega) (by omega) (by omega) (by omega) (by omega) (by omega) (by omega) (by omega)), q70, q71, (by first | omega | (have := zz_tlen_end (by assumption : zz_tlen s15 s16 s13.toInt x5.toInt x1.toInt x2.toInt) (by omega); omega)), rfl, rfl, rfl, rfl, rfl, rfl, rfl, rfl, rfl, rfl, rfl, rfl, rfl, rfl⟩
      · have c39 := zz_neq c39
        refine zz_ok_bind (ff_X10_placeOf K hK T hT n7 n8 x5 s13 s14 s15 s16 (by omega) (by omega) a2 (by omega) (by omega) a7) ?_
        intro z102 hz102
        obtain ⟨r_6, t_6_0, t_6_1, t_6_2, t_6_3⟩ := z102
        have q103 : r_6 = s15 x5.toNatClampNeg := hz102.1
        have q104 : t_6_0 = s13 := hz102.2.1
        have q105 : t_6_1 = s14 := hz102.2.2.1
        have q106 : t_6_2 = s15 := hz102.2.2.2.1
        have q107 : t_6_3 = s16 := hz102.2.2.2.2
        clear hz102
        have e108 : s15 x5.toNatClampNeg = r_6 := q103.symm
        subst e108
        have e109 : s13 = t_6_0 := q104.symm
        subst e109
        have e110 : s14 = t_6_1 := q105.symm
        subst e110
        have e111 : s15 = t_6_2 := q106.symm
        subst e111
        have e112 : s16 = t_6_3 := q107.symm
        subst e112
        show zz_ok (if (s15 x5.toNatClampNeg) = (x1 + x2) then ((m_X10_endOf K n7 n8 x5 s13 s14 s15 s16).bind fun ⟨r_8, t_8_0, t_8_1, t_8_2, t_8_3⟩ => (m_X10_remove K n7 n8 x5 t_8_0 t_8_1 t_8_2 t_8_3).bind fun ⟨t_9_0, t_9_1, t_9_2, t_9_3⟩ => m_X4_takeBack_L18 K n0 n1 n2 n3 n4 n5 n6 n7 n8 k x1 x2 x3 r_8 (x5 + (-1)) s0 s1 s2 s3 s4 s5 s6 s7 s8 s9 s10 s11 s12 t_9_0 t_9_1 t_9_2 t_9_3) else (m_X4_takeBack_L18 K n0 n1 n2 n3 n4 n5 n6 n7 n8 k x1 x2 x3 x4 (x5 + (-1)) s0 s1 s2 s3 s4 s5 s6 s7 s8 s9 s10 s11 s12 s13 s14 s15 s16)) _
        obtain ⟨k114, f115⟩ := zz_add x1 x2
        have g116 := zz_rg (x1 + x2)
        refine zz_ok_ite (fun c113 => ?_) (fun c113 => ?_)
        · have c113 := congrArg Int32.toInt c113
          refine zz_ok_bind (ff_X10_endOf K hK T hT n7 n8 x5 s13 s14 s15 s16 (by omega) (by omega) a2 (by omega) (by omega) a7) ?_
          intro z117 hz117
          obtain ⟨r_8, t_8_0, t_8_1, t_8_2, t_8_3⟩ := z117
          have q118 : r_8 = (s15 x5.toNatClampNeg) + (s16 x5.toNatClampNeg) := hz117.1
          have q119 : t_8_0 = s13 := hz117.2.1
          have q120 : t_8_1 = s14 := hz117.2.2.1
          have q121 : t_8_2 = s15 := hz117.2.2.2.1
          have q122 : t_8_3 = s16 := hz117.2.2.2.2
          clear hz117
          have e123 : (s15 x5.toNatClampNeg) + (s16 x5.toNatClampNeg) = r_8 := q118.symm
          subst e123
          have e124 : s13 = t_8_0 := q119.symm
          subst e124
          have e125 : s14 = t_8_1 := q120.symm
          subst e125
          have e126 : s15 = t_8_2 := q121.symm
          subst e126
          have e127 : s16 = t_8_3 := q122.symm
          subst e127
          have v9 := zz_vs_at (by assumption : zz_vs s0.toInt s15 s16 s13.toInt) x5 (by omega) (by omega)
          have tn6 := zz_tnI x5 (by omega)
          show zz_ok ((m_X10_remove K n7 n8 x5 s13 s14 s15 s16).bind fun ⟨t_9_0, t_9_1, t_9_2, t_9_3⟩ => m_X4_takeBack_L18 K n0 n1 n2 n3 n4 n5 n6 n7 n8 k x1 x2 x3 ((s15 x5.toNatClampNeg) + (s16 x5.toNatClampNeg)) (x5 + (-1)) s0 s1 s2 s3 s4 s5 s6 s7 s8 s9 s10 s11 s12 t_9_0 t_9_1 t_9_2 t_9_3) _
          refine zz_ok_bind (ff_X10_remove K hK T hT n7 n8 x5 s13 s14 s15 s16 (by omega) (by omega) a2 (by omega) (by omega) a7) ?_
          intro z128 hz128
          obtain ⟨t_9_0, t_9_1, t_9_2, t_9_3⟩ := z128
          have q129 : t_9_0.toInt = s13.toInt - 1 := hz128.1
          have q130 : zz_rmv (s15) (t_9_2) x5.toInt s13.toInt := hz128.2.1
          have q131 : zz_rmv (s16) (t_9_3) x5.toInt s13.toInt := hz128.2.2.1
          have q132 : t_9_1 = s14 := hz128.2.2.2
          clear hz128
          have e133 : s14 = t_9_1 := q132.symm
          subst e133
          have g134 := zz_rg t_9_0
          have vs8 : zz_vs s0.toInt t_9_2 t_9_3 t_9_0.toInt := zz_vs_rm (by assumption : zz_vs s0.toInt s15 s16 s13.toInt) (by assumption) (by assumption) (by omega) (by omega)
          show zz_ok (m_X4_takeBack_L18 K n0 n1 n2 n3 n4 n5 n6 n7 n8 k x1 x2 x3 ((s15 x5.toNatClampNeg) + (s16 x5.toNatClampNeg)) (x5 + (-1)) s0 s1 s2 s3 s4 s5 s6 s7 s8 s9 s10 s11 s12 t_9_0 s14 t_9_2 t_9_3) _
          obtain ⟨y135, e136⟩ : ∃ y : Int32, y = x5 + (-1) := ⟨_, rfl⟩
          obtain ⟨k137, f138⟩ := zz_dec e136
          rw [← e136]
          clear e136
          have g139 := zz_rg y135
          refine (ih x1 x2 x3 ((s15 x5.toNatClampNeg) + (s16 x5.toNatClampNeg)) y135 s0 s1 s2 s3 s4 s5 s6 s7 s8 s9 s10 s11 s12 t_9_0 s14 t_9_2 t_9_3 a0 a1 (by omega) (by first | omega | (have := zz_tlen_end (by assumption : zz_tlen s15 s16 s13.toInt x5.toInt x1.toInt x2.toInt) (by omega); omega)) a4 (by first | assumption | exact zz_vs_add (by assumption) (by omega) (by omega) (by omega) (by omega) (by omega)) (by omega) (by omega) a8 a9 a10 (by omega) (by omega) (by first | exact zz_tlen_keep (j := x5.toNatClampNeg) (by assumption) (by omega) (by omega) (by omega) (by omega) (by omega) (by omega) (by omega) (by omega) (by omega) | exact zz_tlen_drop (j := x5.toNatClampNeg) (by assumption) (by assumption) (by assumption) (by omega) (by omega) (by omega) (by omega) (by omega) (by omega) (by omega) (by omega) (by omega)) (by omega)).mono (fun z hz => ?_)
          obtain ⟨y140_0, y140_1, y140_2, y140_3, y140_4, y140_5, y140_6, y140_7, y140_8, y140_9, y140_10, y140_11, y140_12, y140_13, y140_14, y140_15, y140_16⟩ := z
          have q141 : zz_tpo (t_9_2) (t_9_3) t_9_0.toInt y135.toInt x3.toInt ((s15 x5.toNatClampNeg) + (s16 x5.toNatClampNeg)).toInt x1.toInt x2.toInt (y140_15) (y140_16) y140_13.toInt := hz.1
          have q142 : zz_vs s0.toInt (y140_15) (y140_16) y140_13.toInt := hz.2.1
          have q143 : 0 ≤ y140_13.toInt := hz.2.2.1
          have q144 : y140_13.toInt ≤ 201 := hz.2.2.2.1
          have q145 : y140_0 = s0 := hz.2.2.2.2.1
          have q146 : y140_1 = s1 := hz.2.2.2.2.2.1
          have q147 : y140_2 = s2 := hz.2.2.2.2.2.2.1
          have q148 : y140_3 = s3 := hz.2.2.2.2.2.2.2.1
          have q149 : y140_4 = s4 := hz.2.2.2.2.2.2.2.2.1
          have q150 : y140_5 = s5 := hz.2.2.2.2.2.2.2.2.2.1
          have q151 : y140_6 = s6 := hz.2.2.2.2.2.2.2.2.2.2.1
          have q152 : y140_7 = s7 := hz.2.2.2.2.2.2.2.2.2.2.2.1
          have q153 : y140_8 = s8 := hz.2.2.2.2.2.2.2.2.2.2.2.2.1
          have q154 : y140_9 = s9 := hz.2.2.2.2.2.2.2.2.2.2.2.2.2.1
          have q155 : y140_10 = s10 := hz.2.2.2.2.2.2.2.2.2.2.2.2.2.2.1
          have q156 : y140_11 = s11 := hz.2.2.2.2.2.2.2.2.2.2.2.2.2.2.2.1
          have q157 : y140_12 = s12 := hz.2.2.2.2.2.2.2.2.2.2.2.2.2.2.2.2.1
          have q158 : y140_14 = s14 := hz.2.2.2.2.2.2.2.2.2.2.2.2.2.2.2.2.2
          clear hz
          have e159 : s0 = y140_0 := q145.symm
          subst e159
          have e160 : s1 = y140_1 := q146.symm
          subst e160
          have e161 : s2 = y140_2 := q147.symm
          subst e161
          have e162 : s3 = y140_3 := q148.symm
          subst e162
          have e163 : s4 = y140_4 := q149.symm
          subst e163
          have e164 : s5 = y140_5 := q150.symm
          subst e164
          have e165 : s6 = y140_6 := q151.symm
          subst e165
          have e166 : s7 = y140_7 := q152.symm
          subst e166
          have e167 : s8 = y140_8 := q153.symm
          subst e167
          have e168 : s9 = y140_9 := q154.symm
          subst e168
          have e169 : s10 = y140_10 := q155.symm
          subst e169
          have e170 : s11 = y140_11 := q156.symm
          subst e170
          have e171 : s12 = y140_12 := q157.symm
          subst e171
          have e172 : s14 = y140_14 := q158.symm
          subst e172
          have g173 := zz_rg y140_13
          show zz_tpo (s15) (s16) s13.toInt x5.toInt x3.toInt x4.toInt x1.toInt x2.toInt (y140_15) (y140_16) y140_13.toInt ∧ zz_vs s0.toInt (y140_15) (y140_16) y140_13.toInt ∧ 0 ≤ y140_13.toInt ∧ y140_13.toInt ≤ 201 ∧ s0 = s0 ∧ s1 = s1 ∧ s2 = s2 ∧ s3 = s3 ∧ s4 = s4 ∧ s5 = s5 ∧ s6 = s6 ∧ s7 = s7 ∧ s8 = s8 ∧ s9 = s9 ∧ s10 = s10 ∧ s11 = s11 ∧ s12 = s12 ∧ s14 = s14
          exact ⟨(by first | exact zz_tpo_end (by omega) (by omega) (by omega) (by omega) (by omega) (by omega) | exact zz_tpo_left (j := x5.toNatClampNeg) (by assumption) (by assumption) (by assumption) (by omega) (by omega) (by omega) (by omega) (by omega) (by omega) (by omega) (by omega) (by omega) (by omega) | exact zz_tpo_right (j := x5.toNatClampNeg) (by assumption) (by assumption) (by assumption) (by omega) (by omega) (by omega) (by omega) (by omega) (by omega) (by omega) (by omega) (by omega) (by omega) (by omega) | exact zz_tpo_keep (j := x5.toNatClampNeg) (by assumption) (by omega) (by omega) (by omega) (by omega) (by omega) (by omega) (by omega) (by omega) (by omega)), q142, q143, (by first | omega | (have := zz_tlen_end (by assumption : zz_tlen s15 s16 s13.toInt x5.toInt x1.toInt x2.toInt) (by omega); omega)), rfl, rfl, rfl, rfl, rfl, rfl, rfl, rfl, rfl, rfl, rfl, rfl, rfl, rfl⟩
        · have c113 := zz_neq c113
          obtain ⟨y174, e175⟩ : ∃ y : Int32, y = x5 + (-1) := ⟨_, rfl⟩
          obtain ⟨k176, f177⟩ := zz_dec e175
          rw [← e175]
          clear e175
          have g178 := zz_rg y174
          refine (ih x1 x2 x3 x4 y174 s0 s1 s2 s3 s4 s5 s6 s7 s8 s9 s10 s11 s12 s13 s14 s15 s16 a0 a1 a2 (by first | omega | (have := zz_tlen_end (by assumption : zz_tlen s15 s16 s13.toInt x5.toInt x1.toInt x2.toInt) (by omega); omega)) a4 a5 (by omega) (by omega) a8 a9 a10 a11 a12 (by first | exact zz_tlen_keep (j := x5.toNatClampNeg) (by assumption) (by omega) (by omega) (by omega) (by omega) (by omega) (by omega) (by omega) (by omega) (by omega) | exact zz_tlen_drop (j := x5.toNatClampNeg) (by assumption) (by assumption) (by assumption) (by omega) (by omega) (by omega) (by omega) (by omega) (by omega) (by omega) (by omega) (by omega)) (by omega)).mono (fun z hz => ?_)
          obtain ⟨y179_0, y179_1, y179_2, y179_3, y179_4, y179_5, y179_6, y179_7, y179_8, y179_9, y179_10, y179_11, y179_12, y179_13, y179_14, y179_15, y179_16⟩ := z
          have q180 : zz_tpo (s15) (s16) s13.toInt y174.toInt x3.toInt x4.toInt x1.toInt x2.toInt (y179_15) (y179_16) y179_13.toInt := hz.1
          have q181 : zz_vs s0.toInt (y179_15) (y179_16) y179_13.toInt := hz.2.1
          have q182 : 0 ≤ y179_13.toInt := hz.2.2.1
          have q183 : y179_13.toInt ≤ 201 := hz.2.2.2.1
          have q184 : y179_0 = s0 := hz.2.2.2.2.1
          have q185 : y179_1 = s1 := hz.2.2.2.2.2.1
          have q186 : y179_2 = s2 := hz.2.2.2.2.2.2.1
          have q187 : y179_3 = s3 := hz.2.2.2.2.2.2.2.1
          have q188 : y179_4 = s4 := hz.2.2.2.2.2.2.2.2.1
          have q189 : y179_5 = s5 := hz.2.2.2.2.2.2.2.2.2.1
          have q190 : y179_6 = s6 := hz.2.2.2.2.2.2.2.2.2.2.1
          have q191 : y179_7 = s7 := hz.2.2.2.2.2.2.2.2.2.2.2.1
          have q192 : y179_8 = s8 := hz.2.2.2.2.2.2.2.2.2.2.2.2.1
          have q193 : y179_9 = s9 := hz.2.2.2.2.2.2.2.2.2.2.2.2.2.1
          have q194 : y179_10 = s10 := hz.2.2.2.2.2.2.2.2.2.2.2.2.2.2.1
          have q195 : y179_11 = s11 := hz.2.2.2.2.2.2.2.2.2.2.2.2.2.2.2.1
          have q196 : y179_12 = s12 := hz.2.2.2.2.2.2.2.2.2.2.2.2.2.2.2.2.1
          have q197 : y179_14 = s14 := hz.2.2.2.2.2.2.2.2.2.2.2.2.2.2.2.2.2
          clear hz
          have e198 : s0 = y179_0 := q184.symm
          subst e198
          have e199 : s1 = y179_1 := q185.symm
          subst e199
          have e200 : s2 = y179_2 := q186.symm
          subst e200
          have e201 : s3 = y179_3 := q187.symm
          subst e201
          have e202 : s4 = y179_4 := q188.symm
          subst e202
          have e203 : s5 = y179_5 := q189.symm
          subst e203
          have e204 : s6 = y179_6 := q190.symm
          subst e204
          have e205 : s7 = y179_7 := q191.symm
          subst e205
          have e206 : s8 = y179_8 := q192.symm
          subst e206
          have e207 : s9 = y179_9 := q193.symm
          subst e207
          have e208 : s10 = y179_10 := q194.symm
          subst e208
          have e209 : s11 = y179_11 := q195.symm
          subst e209
          have e210 : s12 = y179_12 := q196.symm
          subst e210
          have e211 : s14 = y179_14 := q197.symm
          subst e211
          have g212 := zz_rg y179_13
          show zz_tpo (s15) (s16) s13.toInt x5.toInt x3.toInt x4.toInt x1.toInt x2.toInt (y179_15) (y179_16) y179_13.toInt ∧ zz_vs s0.toInt (y179_15) (y179_16) y179_13.toInt ∧ 0 ≤ y179_13.toInt ∧ y179_13.toInt ≤ 201 ∧ s0 = s0 ∧ s1 = s1 ∧ s2 = s2 ∧ s3 = s3 ∧ s4 = s4 ∧ s5 = s5 ∧ s6 = s6 ∧ s7 = s7 ∧ s8 = s8 ∧ s9 = s9 ∧ s10 = s10 ∧ s11 = s11 ∧ s12 = s12 ∧ s14 = s14
          exact ⟨(by first | exact zz_tpo_end (by omega) (by omega) (by omega) (by omega) (by omega) (by omega) | exact zz_tpo_left (j := x5.toNatClampNeg) (by assumption) (by assumption) (by assumption) (by omega) (by omega) (by omega) (by omega) (by omega) (by omega) (by omega) (by omega) (by omega) (by omega) | exact zz_tpo_right (j := x5.toNatClampNeg) (by assumption) (by assumption) (by assumption) (by omega) (by omega) (by omega) (by omega) (by omega) (by omega) (by omega) (by omega) (by omega) (by omega) (by omega) | exact zz_tpo_keep (j := x5.toNatClampNeg) (by assumption) (by omega) (by omega) (by omega) (by omega) (by omega) (by omega) (by omega) (by omega) (by omega)), q181, q182, (by first | omega | (have := zz_tlen_end (by assumption : zz_tlen s15 s16 s13.toInt x5.toInt x1.toInt x2.toInt) (by omega); omega)), rfl, rfl, rfl, rfl, rfl, rfl, rfl, rfl, rfl, rfl, rfl, rfl, rfl, rfl⟩
set_option maxHeartbeats 4000000 in
theorem ff_X4_takeBack (K : Nat) (hK : 1099511627776 ≤ K) (T : Nat) (hT : T ≤ 900) (n0 : Nat) (n1 : Nat) (n2 : Nat) (n3 : Nat) (n4 : Nat) (n5 : Nat) (n6 : Nat) (n7 : Nat) (n8 : Nat) (p1 : Int32) (p2 : Int32) (s0 : Int32) (s1 : Int32) (s2 : Int32) (s3 : Int32) (s4 : Nat → Int32) (s5 : Nat → Int32) (s6 : Nat → Int32) (s7 : Nat → Int32) (s8 : Nat → Int32) (s9 : Int32) (s10 : Int32) (s11 : Nat → Int32) (s12 : Nat → Int32) (s13 : Int32) (s14 : Int32) (s15 : Nat → Int32) (s16 : Nat → Int32) (a0 : n7 = 201) (a1 : n8 = 201) (a2 : 0 ≤ s13.toInt) (a3 : s13.toInt ≤ 201) (a4 : s0.toInt ≤ 1024) (a5 : zz_vs s0.toInt (s15) (s16) s13.toInt) (a6 : 0 ≤ p1.toInt) (a7 : 1 ≤ p2.toInt) (a8 : p1.toInt + p2.toInt ≤ s0.toInt) (a9 : zz_tln (s15) (s16) s13.toInt p1.toInt p2.toInt) : zz_ok (m_X4_takeBack K n0 n1 n2 n3 n4 n5 n6 n7 n8 p1 p2 s0 s1 s2 s3 s4 s5 s6 s7 s8 s9 s10 s11 s12 s13 s14 s15 s16) (fun z => zz_ctb (s15) (s16) s13.toInt p1.toInt p2.toInt (z.2.2.2.2.2.2.2.2.2.2.2.2.2.2.2.1) (z.2.2.2.2.2.2.2.2.2.2.2.2.2.2.2.2) z.2.2.2.2.2.2.2.2.2.2.2.2.2.1.toInt ∧ zz_vs s0.toInt (z.2.2.2.2.2.2.2.2.2.2.2.2.2.2.2.1) (z.2.2.2.2.2.2.2.2.2.2.2.2.2.2.2.2) z.2.2.2.2.2.2.2.2.2.2.2.2.2.1.toInt ∧ 0 ≤ z.2.2.2.2.2.2.2.2.2.2.2.2.2.1.toInt ∧ z.2.2.2.2.2.2.2.2.2.2.2.2.2.1.toInt ≤ 201 ∧ z.1 = s0 ∧ z.2.1 = s1 ∧ z.2.2.1 = s2 ∧ z.2.2.2.1 = s3 ∧ z.2.2.2.2.1 = s4 ∧ z.2.2.2.2.2.1 = s5 ∧ z.2.2.2.2.2.2.1 = s6 ∧ z.2.2.2.2.2.2.2.1 = s7 ∧ z.2.2.2.2.2.2.2.2.1 = s8 ∧ z.2.2.2.2.2.2.2.2.2.1 = s9 ∧ z.2.2.2.2.2.2.2.2.2.2.1 = s10 ∧ z.2.2.2.2.2.2.2.2.2.2.2.1 = s11 ∧ z.2.2.2.2.2.2.2.2.2.2.2.2.1 = s12 ∧ z.2.2.2.2.2.2.2.2.2.2.2.2.2.2.1 = s14) := by
  have g1 := zz_rg p1
  have g2 := zz_rg p2
  have g3 := zz_rg s0
  have g4 := zz_rg s1
  have g5 := zz_rg s2
  have g6 := zz_rg s3
  have g7 := zz_rg s9
  have g8 := zz_rg s10
  have g9 := zz_rg s13
  have g10 := zz_rg s14
  unfold m_X4_takeBack
  refine zz_ok_bind (ff_X10_size K hK T hT n7 n8 s13 s14 s15 s16) ?_
  intro z11 hz11
  obtain ⟨r_1, t_1_0, t_1_1, t_1_2, t_1_3⟩ := z11
  have q12 : r_1 = s13 := hz11.1
  have q13 : t_1_0 = s13 := hz11.2.1
  have q14 : t_1_1 = s14 := hz11.2.2.1
  have q15 : t_1_2 = s15 := hz11.2.2.2.1
  have q16 : t_1_3 = s16 := hz11.2.2.2.2
  clear hz11
  have e17 : s13 = r_1 := q12.symm
  subst e17
  have e18 : s13 = t_1_0 := q13.symm
  subst e18
  have e19 : s14 = t_1_1 := q14.symm
  subst e19
  have e20 : s15 = t_1_2 := q15.symm
  subst e20
  have e21 : s16 = t_1_3 := q16.symm
  subst e21
  show zz_ok (m_X4_takeBack_L18 K n0 n1 n2 n3 n4 n5 n6 n7 n8 K p1 p2 p1 (p1 + p2) (s13 - ((1 : Int32))) s0 s1 s2 s3 s4 s5 s6 s7 s8 s9 s10 s11 s12 s13 s14 s15 s16) _
  obtain ⟨k22, f23⟩ := zz_add p1 p2
  have g24 := zz_rg (p1 + p2)
  have l25 : (1 : Int32).toInt = 1 := rfl
  obtain ⟨k26, f27⟩ := zz_sub s13 (1 : Int32)
  have g28 := zz_rg (s13 - ((1 : Int32)))
  refine (ff_X4_takeBack_L18 K hK T hT n0 n1 n2 n3 n4 n5 n6 n7 n8 K p1 p2 p1 (p1 + p2) (s13 - ((1 : Int32))) s0 s1 s2 s3 s4 s5 s6 s7 s8 s9 s10 s11 s12 s13 s14 s15 s16 a0 a1 a2 a3 a4 a5 (by omega) (by omega) a6 (by omega) a7 (by omega) (by omega) (by exact zz_tln_i (by assumption) (by omega)) (by omega)).mono (fun z hz => ?_)
  obtain ⟨y29_0, y29_1, y29_2, y29_3, y29_4, y29_5, y29_6, y29_7, y29_8, y29_9, y29_10, y29_11, y29_12, y29_13, y29_14, y29_15, y29_16⟩ := z
  have q30 : zz_tpo (s15) (s16) s13.toInt (s13 - ((1 : Int32))).toInt p1.toInt (p1 + p2).toInt p1.toInt p2.toInt (y29_15) (y29_16) y29_13.toInt := hz.1
  have q31 : zz_vs s0.toInt (y29_15) (y29_16) y29_13.toInt := hz.2.1
  have q32 : 0 ≤ y29_13.toInt := hz.2.2.1
  have q33 : y29_13.toInt ≤ 201 := hz.2.2.2.1
  have q34 : y29_0 = s0 := hz.2.2.2.2.1
  have q35 : y29_1 = s1 := hz.2.2.2.2.2.1
  have q36 : y29_2 = s2 := hz.2.2.2.2.2.2.1
  have q37 : y29_3 = s3 := hz.2.2.2.2.2.2.2.1
  have q38 : y29_4 = s4 := hz.2.2.2.2.2.2.2.2.1
  have q39 : y29_5 = s5 := hz.2.2.2.2.2.2.2.2.2.1
  have q40 : y29_6 = s6 := hz.2.2.2.2.2.2.2.2.2.2.1
  have q41 : y29_7 = s7 := hz.2.2.2.2.2.2.2.2.2.2.2.1
  have q42 : y29_8 = s8 := hz.2.2.2.2.2.2.2.2.2.2.2.2.1
  have q43 : y29_9 = s9 := hz.2.2.2.2.2.2.2.2.2.2.2.2.2.1
  have q44 : y29_10 = s10 := hz.2.2.2.2.2.2.2.2.2.2.2.2.2.2.1
  have q45 : y29_11 = s11 := hz.2.2.2.2.2.2.2.2.2.2.2.2.2.2.2.1
  have q46 : y29_12 = s12 := hz.2.2.2.2.2.2.2.2.2.2.2.2.2.2.2.2.1
  have q47 : y29_14 = s14 := hz.2.2.2.2.2.2.2.2.2.2.2.2.2.2.2.2.2
  clear hz
  have e48 : s0 = y29_0 := q34.symm
  subst e48
  have e49 : s1 = y29_1 := q35.symm
  subst e49
  have e50 : s2 = y29_2 := q36.symm
  subst e50
  have e51 : s3 = y29_3 := q37.symm
  subst e51
  have e52 : s4 = y29_4 := q38.symm
  subst e52
  have e53 : s5 = y29_5 := q39.symm
  subst e53
  have e54 : s6 = y29_6 := q40.symm
  subst e54
  have e55 : s7 = y29_7 := q41.symm
  subst e55
  have e56 : s8 = y29_8 := q42.symm
  subst e56
  have e57 : s9 = y29_9 := q43.symm
  subst e57
  have e58 : s10 = y29_10 := q44.symm
  subst e58
  have e59 : s11 = y29_11 := q45.symm
  subst e59
  have e60 : s12 = y29_12 := q46.symm
  subst e60
  have e61 : s14 = y29_14 := q47.symm
  subst e61
  have g62 := zz_rg y29_13
  show zz_ctb (s15) (s16) s13.toInt p1.toInt p2.toInt (y29_15) (y29_16) y29_13.toInt ∧ zz_vs s0.toInt (y29_15) (y29_16) y29_13.toInt ∧ 0 ≤ y29_13.toInt ∧ y29_13.toInt ≤ 201 ∧ s0 = s0 ∧ s1 = s1 ∧ s2 = s2 ∧ s3 = s3 ∧ s4 = s4 ∧ s5 = s5 ∧ s6 = s6 ∧ s7 = s7 ∧ s8 = s8 ∧ s9 = s9 ∧ s10 = s10 ∧ s11 = s11 ∧ s12 = s12 ∧ s14 = s14
  exact ⟨(by exact zz_ctb_mk (by assumption) (by omega) (by omega) (by omega) (by omega) (by omega)), q31, q32, q33, rfl, rfl, rfl, rfl, rfl, rfl, rfl, rfl, rfl, rfl, rfl, rfl, rfl, rfl⟩
set_option maxHeartbeats 4000000 in
theorem ff_X4_placeInList_L13 (K : Nat) (hK : 1099511627776 ≤ K) (T : Nat) (hT : T ≤ 900) (n0 : Nat) (n1 : Nat) (n2 : Nat) (n3 : Nat) (n4 : Nat) (n5 : Nat) (n6 : Nat) (n7 : Nat) (n8 : Nat) : ∀ (k : Nat) (x1 : Int32) (x2 : Int32) (x3 : Int32) (x4 : Int32) (s0 : Int32) (s1 : Int32) (s2 : Int32) (s3 : Int32) (s4 : Nat → Int32) (s5 : Nat → Int32) (s6 : Nat → Int32) (s7 : Nat → Int32) (s8 : Nat → Int32) (s9 : Int32) (s10 : Int32) (s11 : Nat → Int32) (s12 : Nat → Int32) (s13 : Int32) (s14 : Int32) (s15 : Nat → Int32) (s16 : Nat → Int32), n7 = 201 → n8 = 201 → 0 ≤ s13.toInt → s13.toInt ≤ 201 → s0.toInt ≤ 1024 → zz_vs s0.toInt (s15) (s16) s13.toInt → -1 ≤ x4.toInt → x4.toInt < s13.toInt → 0 ≤ x1.toInt → x1.toInt < 44 → 0 ≤ x3.toInt → x3.toInt + x4.toInt < s13.toInt → x4.toInt + 1 < (k : Int) → zz_ok (m_X4_placeInList_L13 K n0 n1 n2 n3 n4 n5 n6 n7 n8 k x1 x2 x3 x4 s0 s1 s2 s3 s4 s5 s6 s7 s8 s9 s10 s11 s12 s13 s14 s15 s16) (fun z => zz_pi (s15) (s16) x4.toInt x1.toInt (x2.toInt - x3.toInt) z.1.toInt ∧ z.2.1 = s0 ∧ z.2.2.1 = s1 ∧ z.2.2.2.1 = s2 ∧ z.2.2.2.2.1 = s3 ∧ z.2.2.2.2.2.1 = s4 ∧ z.2.2.2.2.2.2.1 = s5 ∧ z.2.2.2.2.2.2.2.1 = s6 ∧ z.2.2.2.2.2.2.2.2.1 = s7 ∧ z.2.2.2.2.2.2.2.2.2.1 = s8 ∧ z.2.2.2.2.2.2.2.2.2.2.1 = s9 ∧ z.2.2.2.2.2.2.2.2.2.2.2.1 = s10 ∧ z.2.2.2.2.2.2.2.2.2.2.2.2.1 = s11 ∧ z.2.2.2.2.2.2.2.2.2.2.2.2.2.1 = s12 ∧ z.2.2.2.2.2.2.2.2.2.2.2.2.2.2.1 = s13 ∧ z.2.2.2.2.2.2.2.2.2.2.2.2.2.2.2.1 = s14 ∧ z.2.2.2.2.2.2.2.2.2.2.2.2.2.2.2.2.1 = s15 ∧ z.2.2.2.2.2.2.2.2.2.2.2.2.2.2.2.2.2 = s16) := by
  intro k
  induction k with
  | zero =>
    intro x1 x2 x3 x4 s0 s1 s2 s3 s4 s5 s6 s7 s8 s9 s10 s11 s12 s13 s14 s15 s16 a0 a1 a2 a3 a4 a5 a6 a7 a8 a9 a10 a11 hz9
    exfalso
    have g_x1 := zz_rg x1
    have g_x2 := zz_rg x2
    have g_x3 := zz_rg x3
    have g_x4 := zz_rg x4
    have g_s0 := zz_rg s0
    have g_s1 := zz_rg s1
    have g_s2 := zz_rg s2
    have g_s3 := zz_rg s3
    have g_s9 := zz_rg s9
    have g_s10 := zz_rg s10
    have g_s13 := zz_rg s13
    have g_s14 := zz_rg s14
    omega
  | succ k ih =>
    intro x1 x2 x3 x4 s0 s1 s2 s3 s4 s5 s6 s7 s8 s9 s10 s11 s12 s13 s14 s15 s16 a0 a1 a2 a3 a4 a5 a6 a7 a8 a9 a10 a11 hz9
    rw [m_X4_placeInList_L13_s]
    have g1 := zz_rg x1
    have g2 := zz_rg x2
    have g3 := zz_rg x3
    have g4 := zz_rg x4
    have g5 := zz_rg s0
    have g6 := zz_rg s1
    have g7 := zz_rg s2
    have g8 := zz_rg s3
    have g9 := zz_rg s9
    have g10 := zz_rg s10
    have g11 := zz_rg s13
    have g12 := zz_rg s14
    have l14 : (0 : Int32).toInt = 0 := rfl
    refine zz_ok_ite (fun c13 => ?_) (fun c13 => ?_)
    · have c13 := Int32.lt_iff_toInt_lt.mp c13
      have l15 : (-1 : Int32).toInt = -1 := rfl
      refine zz_ok_some ?_
      show zz_pi (s15) (s16) x4.toInt x1.toInt (x2.toInt - x3.toInt) (-1 : Int32).toInt ∧ s0 = s0 ∧ s1 = s1 ∧ s2 = s2 ∧ s3 = s3 ∧ s4 = s4 ∧ s5 = s5 ∧ s6 = s6 ∧ s7 = s7 ∧ s8 = s8 ∧ s9 = s9 ∧ s10 = s10 ∧ s11 = s11 ∧ s12 = s12 ∧ s13 = s13 ∧ s14 = s14 ∧ s15 = s15 ∧ s16 = s16
      exact ⟨(by first | exact zz_pi_no (by omega) (by omega) | exact zz_pi_hit (j := x4.toNatClampNeg) (by omega) (by omega) (by omega) (by omega) (by omega) (by omega) | exact zz_pi_skip (j := x4.toNatClampNeg) (by assumption) (by omega) (by omega) (by omega) (by omega) | exact zz_pi_next (j := x4.toNatClampNeg) (by assumption) (by omega) (by omega) (by omega) (by omega) (by omega) (by omega)), rfl, rfl, rfl, rfl, rfl, rfl, rfl, rfl, rfl, rfl, rfl, rfl, rfl, rfl, rfl, rfl, rfl⟩
    · have c13 := zz_nlt c13
      refine zz_ok_bind (ff_X10_wordsOf K hK T hT n7 n8 x4 s13 s14 s15 s16 (by omega) (by omega) a2 (by omega) (by omega) a7) ?_
      intro z16 hz16
      obtain ⟨r_3, t_3_0, t_3_1, t_3_2, t_3_3⟩ := z16
      have q17 : r_3 = s16 x4.toNatClampNeg := hz16.1
      have q18 : t_3_0 = s13 := hz16.2.1
      have q19 : t_3_1 = s14 := hz16.2.2.1
      have q20 : t_3_2 = s15 := hz16.2.2.2.1
      have q21 : t_3_3 = s16 := hz16.2.2.2.2
      clear hz16
      have e22 : s16 x4.toNatClampNeg = r_3 := q17.symm
      subst e22
      have e23 : s13 = t_3_0 := q18.symm
      subst e23
      have e24 : s14 = t_3_1 := q19.symm
      subst e24
      have e25 : s15 = t_3_2 := q20.symm
      subst e25
      have e26 : s16 = t_3_3 := q21.symm
      subst e26
      have v9 := zz_vs_at (by assumption : zz_vs s0.toInt s15 s16 s13.toInt) x4 (by omega) (by omega)
      have tn9 := zz_tnI (s16 x4.toNatClampNeg) (by omega)
      have tn6 := zz_tnI x4 (by omega)
      show zz_ok ((m_X4_listOf K (s16 x4.toNatClampNeg)).bind fun ⟨r_4, _⟩ => if r_4 = x1 then (if x3 = x2 then ((m_X10_placeOf K n7 n8 x4 s13 s14 s15 s16).bind fun ⟨r_7, t_7_0, t_7_1, t_7_2, t_7_3⟩ => some (r_7, s0, s1, s2, s3, s4, s5, s6, s7, s8, s9, s10, s11, s12, t_7_0, t_7_1, t_7_2, t_7_3)) else (m_X4_placeInList_L13 K n0 n1 n2 n3 n4 n5 n6 n7 n8 k x1 x2 (x3 + 1) (x4 + (-1)) s0 s1 s2 s3 s4 s5 s6 s7 s8 s9 s10 s11 s12 s13 s14 s15 s16)) else (m_X4_placeInList_L13 K n0 n1 n2 n3 n4 n5 n6 n7 n8 k x1 x2 x3 (x4 + (-1)) s0 s1 s2 s3 s4 s5 s6 s7 s8 s9 s10 s11 s12 s13 s14 s15 s16)) _
      have g27 := zz_rg (s16 x4.toNatClampNeg)
      refine zz_ok_bind (ff_X4_listOf K hK T hT (s16 x4.toNatClampNeg) (by omega) (by omega)) ?_
      intro z28 hz28
      obtain ⟨r_4, _⟩ := z28
      have q29 : r_4.toInt = (zz_lo (s16 x4.toNatClampNeg).toNatClampNeg : Int) := hz28
      clear hz28
      have g30 := zz_rg r_4
      show zz_ok (if r_4 = x1 then (if x3 = x2 then ((m_X10_placeOf K n7 n8 x4 s13 s14 s15 s16).bind fun ⟨r_7, t_7_0, t_7_1, t_7_2, t_7_3⟩ => some (r_7, s0, s1, s2, s3, s4, s5, s6, s7, s8, s9, s10, s11, s12, t_7_0, t_7_1, t_7_2, t_7_3)) else (m_X4_placeInList_L13 K n0 n1 n2 n3 n4 n5 n6 n7 n8 k x1 x2 (x3 + 1) (x4 + (-1)) s0 s1 s2 s3 s4 s5 s6 s7 s8 s9 s10 s11 s12 s13 s14 s15 s16)) else (m_X4_placeInList_L13 K n0 n1 n2 n3 n4 n5 n6 n7 n8 k x1 x2 x3 (x4 + (-1)) s0 s1 s2 s3 s4 s5 s6 s7 s8 s9 s10 s11 s12 s13 s14 s15 s16)) _
      refine zz_ok_ite (fun c31 => ?_) (fun c31 => ?_)
      · have c31 := congrArg Int32.toInt c31
        refine zz_ok_ite (fun c32 => ?_) (fun c32 => ?_)
        · have c32 := congrArg Int32.toInt c32
          refine zz_ok_bind (ff_X10_placeOf K hK T hT n7 n8 x4 s13 s14 s15 s16 (by omega) (by omega) a2 (by omega) (by omega) a7) ?_
          intro z33 hz33
          obtain ⟨r_7, t_7_0, t_7_1, t_7_2, t_7_3⟩ := z33
          have q34 : r_7 = s15 x4.toNatClampNeg := hz33.1
          have q35 : t_7_0 = s13 := hz33.2.1
          have q36 : t_7_1 = s14 := hz33.2.2.1
          have q37 : t_7_2 = s15 := hz33.2.2.2.1
          have q38 : t_7_3 = s16 := hz33.2.2.2.2
          clear hz33
          have e39 : s15 x4.toNatClampNeg = r_7 := q34.symm
          subst e39
          have e40 : s13 = t_7_0 := q35.symm
          subst e40
          have e41 : s14 = t_7_1 := q36.symm
          subst e41
          have e42 : s15 = t_7_2 := q37.symm
          subst e42
          have e43 : s16 = t_7_3 := q38.symm
          subst e43
          show zz_ok (some ((s15 x4.toNatClampNeg), s0, s1, s2, s3, s4, s5, s6, s7, s8, s9, s10, s11, s12, s13, s14, s15, s16)) _
          have g44 := zz_rg (s15 x4.toNatClampNeg)
          refine zz_ok_some ?_
          show zz_pi (s15) (s16) x4.toInt x1.toInt (x2.toInt - x3.toInt) (s15 x4.toNatClampNeg).toInt ∧ s0 = s0 ∧ s1 = s1 ∧ s2 = s2 ∧ s3 = s3 ∧ s4 = s4 ∧ s5 = s5 ∧ s6 = s6 ∧ s7 = s7 ∧ s8 = s8 ∧ s9 = s9 ∧ s10 = s10 ∧ s11 = s11 ∧ s12 = s12 ∧ s13 = s13 ∧ s14 = s14 ∧ s15 = s15 ∧ s16 = s16
          exact ⟨(by first | exact zz_pi_no (by omega) (by omega) | exact zz_pi_hit (j := x4.toNatClampNeg) (by omega) (by omega) (by omega) (by omega) (by omega) (by omega) | exact zz_pi_skip (j := x4.toNatClampNeg) (by assumption) (by omega) (by omega) (by omega) (by omega) | exact zz_pi_next (j := x4.toNatClampNeg) (by assumption) (by omega) (by omega) (by omega) (by omega) (by omega) (by omega)), rfl, rfl, rfl, rfl, rfl, rfl, rfl, rfl, rfl, rfl, rfl, rfl, rfl, rfl, rfl, rfl, rfl⟩
        · have c32 := zz_neq c32
          obtain ⟨y45, e46⟩ : ∃ y : Int32, y = x4 + (-1) := ⟨_, rfl⟩
          obtain ⟨k47, f48⟩ := zz_dec e46
          rw [← e46]
          clear e46
          have l49 : (1 : Int32).toInt = 1 := rfl
          obtain ⟨k50, f51⟩ := zz_add x3 (1 : Int32)
          have g52 := zz_rg (x3 + 1)
          have g53 := zz_rg y45
          refine (ih x1 x2 (x3 + 1) y45 s0 s1 s2 s3 s4 s5 s6 s7 s8 s9 s10 s11 s12 s13 s14 s15 s16 a0 a1 a2 a3 a4 a5 (by omega) (by omega) a8 a9 (by omega) (by omega) (by omega)).mono (fun z hz => ?_)
          obtain ⟨y54_0, y54_1, y54_2, y54_3, y54_4, y54_5, y54_6, y54_7, y54_8, y54_9, y54_10, y54_11, y54_12, y54_13, y54_14, y54_15, y54_16, y54_17⟩ := z
          have q55 : zz_pi (s15) (s16) y45.toInt x1.toInt (x2.toInt - (x3 + 1).toInt) y54_0.toInt := hz.1
          have q56 : y54_1 = s0 := hz.2.1
          have q57 : y54_2 = s1 := hz.2.2.1
          have q58 : y54_3 = s2 := hz.2.2.2.1
          have q59 : y54_4 = s3 := hz.2.2.2.2.1
          have q60 : y54_5 = s4 := hz.2.2.2.2.2.1
          have q61 : y54_6 = s5 := hz.2.2.2.2.2.2.1
          have q62 : y54_7 = s6 := hz.2.2.2.2.2.2.2.1
          have q63 : y54_8 = s7 := hz.2.2.2.2.2.2.2.2.1
          have q64 : y54_9 = s8 := hz.2.2.2.2.2.2.2.2.2.1
          have q65 : y54_10 = s9 := hz.2.2.2.2.2.2.2.2.2.2.1
          have q66 : y54_11 = s10 := hz.2.2.2.2.2.2.2.2.2.2.2.1
          have q67 : y54_12 = s11 := hz.2.2.2.2.2.2.2.2.2.2.2.2.1
          have q68 : y54_13 = s12 := hz.2.2.2.2.2.2.2.2.2.2.2.2.2.1
          have q69 : y54_14 = s13 := hz.2.2.2.2.2.2.2.2.2.2.2.2.2.2.1
          have q70 : y54_15 = s14 := hz.2.2.2.2.2.2.2.2.2.2.2.2.2.2.2.1
          have q71 : y54_16 = s15 := hz.2.2.2.2.2.2.2.2.2.2.2.2.2.2.2.2.1
          have q72 : y54_17 = s16 := hz.2.2.2.2.2.2.2.2.2.2.2.2.2.2.2.2.2
          clear hz
          have e73 : s0 = y54_1 := q56.symm
          subst e73
          have e74 : s1 = y54_2 := q57.symm
          subst e74
          have e75 : s2 = y54_3 := q58.symm
          subst e75
          have e76 : s3 = y54_4 := q59.symm
          subst e76
          have e77 : s4 = y54_5 := q60.symm
          subst e77
          have e78 : s5 = y54_6 := q61.symm
          subst e78
          have e79 : s6 = y54_7 := q62.symm
          subst e79
          have e80 : s7 = y54_8 := q63.symm
          subst e80
          have e81 : s8 = y54_9 := q64.symm
          subst e81
          have e82 : s9 = y54_10 := q65.symm
          subst e82
          have e83 : s10 = y54_11 := q66.symm
          subst e83
          have e84 : s11 = y54_12 := q67.symm
          subst e84
          have e85 : s12 = y54_13 := q68.symm
          subst e85
          have e86 : s13 = y54_14 := q69.symm
          subst e86
          have e87 : s14 = y54_15 := q70.symm
          subst e87
          have e88 : s15 = y54_16 := q71.symm
          subst e88
          have e89 : s16 = y54_17 := q72.symm
          subst e89
          have g90 := zz_rg y54_0
          show zz_pi (s15) (s16) x4.toInt x1.toInt (x2.toInt - x3.toInt) y54_0.toInt ∧ s0 = s0 ∧ s1 = s1 ∧ s2 = s2 ∧ s3 = s3 ∧ s4 = s4 ∧ s5 = s5 ∧ s6 = s6 ∧ s7 = s7 ∧ s8 = s8 ∧ s9 = s9 ∧ s10 = s10 ∧ s11 = s11 ∧ s12 = s12 ∧ s13 = s13 ∧ s14 = s14 ∧ s15 = s15 ∧ s16 = s16
          exact ⟨(by first | exact zz_pi_no (by omega) (by omega) | exact zz_pi_hit (j := x4.toNatClampNeg) (by omega) (by omega) (by omega) (by omega) (by omega) (by omega) | exact zz_pi_skip (j := x4.toNatClampNeg) (by assumption) (by omega) (by omega) (by omega) (by omega) | exact zz_pi_next (j := x4.toNatClampNeg) (by assumption) (by omega) (by omega) (by omega) (by omega) (by omega) (by omega)), rfl, rfl, rfl, rfl, rfl, rfl, rfl, rfl, rfl, rfl, rfl, rfl, rfl, rfl, rfl, rfl, rfl⟩
      · have c31 := zz_neq c31
        obtain ⟨y91, e92⟩ : ∃ y : Int32, y = x4 + (-1) := ⟨_, rfl⟩
        obtain ⟨k93, f94⟩ := zz_dec e92
        rw [← e92]
        clear e92
        have g95 := zz_rg y91
        refine (ih x1 x2 x3 y91 s0 s1 s2 s3 s4 s5 s6 s7 s8 s9 s10 s11 s12 s13 s14 s15 s16 a0 a1 a2 a3 a4 a5 (by omega) (by omega) a8 a9 a10 (by omega) (by omega)).mono (fun z hz => ?_)
        obtain ⟨y96_0, y96_1, y96_2, y96_3, y96_4, y96_5, y96_6, y96_7, y96_8, y96_9, y96_10, y96_11, y96_12, y96_13, y96_14, y96_15, y96_16, y96_17⟩ := z
        have q97 : zz_pi (s15) (s16) y91.toInt x1.toInt (x2.toInt - x3.toInt) y96_0.toInt := hz.1
        have q98 : y96_1 = s0 := hz.2.1
        have q99 : y96_2 = s1 := hz.2.2.1
        have q100 : y96_3 = s2 := hz.2.2.2.1
        have q101 : y96_4 = s3 := hz.2.2.2.2.1
        have q102 : y96_5 = s4 := hz.2.2.2.2.2.1
        have q103 : y96_6 = s5 := hz.2.2.2.2.2.2.1
        have q104 : y96_7 = s6 := hz.2.2.2.2.2.2.2.1
        have q105 : y96_8 = s7 := hz.2.2.2.2.2.2.2.2.1
        have q106 : y96_9 = s8 := hz.2.2.2.2.2.2.2.2.2.1
        have q107 : y96_10 = s9 := hz.2.2.2.2.2.2.2.2.2.2.1
        have q108 : y96_11 = s10 := hz.2.2.2.2.2.2.2.2.2.2.2.1
        have q109 : y96_12 = s11 := hz.2.2.2.2.2.2.2.2.2.2.2.2.1
        have q110 : y96_13 = s12 := hz.2.2.2.2.2.2.2.2.2.2.2.2.2.1
        have q111 : y96_14 = s13 := hz.2.2.2.2.2.2.2.2.2.2.2.2.2.2.1
        have q112 : y96_15 = s14 := hz.2.2.2.2.2.2.2.2.2.2.2.2.2.2.2.1
        have q113 : y96_16 = s15 := hz.2.2.2.2.2.2.2.2.2.2.2.2.2.2.2.2.1
        have q114 : y96_17 = s16 := hz.2.2.2.2.2.2.2.2.2.2.2.2.2.2.2.2.2
        clear hz
        have e115 : s0 = y96_1 := q98.symm
        subst e115
        have e116 : s1 = y96_2 := q99.symm
        subst e116
        have e117 : s2 = y96_3 := q100.symm
        subst e117
        have e118 : s3 = y96_4 := q101.symm
        subst e118
        have e119 : s4 = y96_5 := q102.symm
        subst e119
        have e120 : s5 = y96_6 := q103.symm
        subst e120
        have e121 : s6 = y96_7 := q104.symm
        subst e121
        have e122 : s7 = y96_8 := q105.symm
        subst e122
        have e123 : s8 = y96_9 := q106.symm
        subst e123
        have e124 : s9 = y96_10 := q107.symm
        subst e124
        have e125 : s10 = y96_11 := q108.symm
        subst e125
        have e126 : s11 = y96_12 := q109.symm
        subst e126
        have e127 : s12 = y96_13 := q110.symm
        subst e127
        have e128 : s13 = y96_14 := q111.symm
        subst e128
        have e129 : s14 = y96_15 := q112.symm
        subst e129
        have e130 : s15 = y96_16 := q113.symm
        subst e130
        have e131 : s16 = y96_17 := q114.symm
        subst e131
        have g132 := zz_rg y96_0
        show zz_pi (s15) (s16) x4.toInt x1.toInt (x2.toInt - x3.toInt) y96_0.toInt ∧ s0 = s0 ∧ s1 = s1 ∧ s2 = s2 ∧ s3 = s3 ∧ s4 = s4 ∧ s5 = s5 ∧ s6 = s6 ∧ s7 = s7 ∧ s8 = s8 ∧ s9 = s9 ∧ s10 = s10 ∧ s11 = s11 ∧ s12 = s12 ∧ s13 = s13 ∧ s14 = s14 ∧ s15 = s15 ∧ s16 = s16
        exact ⟨(by first | exact zz_pi_no (by omega) (by omega) | exact zz_pi_hit (j := x4.toNatClampNeg) (by omega) (by omega) (by omega) (by omega) (by omega) (by omega) | exact zz_pi_skip (j := x4.toNatClampNeg) (by assumption) (by omega) (by omega) (by omega) (by omega) | exact zz_pi_next (j := x4.toNatClampNeg) (by assumption) (by omega) (by omega) (by omega) (by omega) (by omega) (by omega)), rfl, rfl, rfl, rfl, rfl, rfl, rfl, rfl, rfl, rfl, rfl, rfl, rfl, rfl, rfl, rfl, rfl⟩
set_option maxHeartbeats 4000000 in
theorem ff_X4_placeInList (K : Nat) (hK : 1099511627776 ≤ K) (T : Nat) (hT : T ≤ 900) (n0 : Nat) (n1 : Nat) (n2 : Nat) (n3 : Nat) (n4 : Nat) (n5 : Nat) (n6 : Nat) (n7 : Nat) (n8 : Nat) (p1 : Int32) (p2 : Int32) (s0 : Int32) (s1 : Int32) (s2 : Int32) (s3 : Int32) (s4 : Nat → Int32) (s5 : Nat → Int32) (s6 : Nat → Int32) (s7 : Nat → Int32) (s8 : Nat → Int32) (s9 : Int32) (s10 : Int32) (s11 : Nat → Int32) (s12 : Nat → Int32) (s13 : Int32) (s14 : Int32) (s15 : Nat → Int32) (s16 : Nat → Int32) (a0 : n7 = 201) (a1 : n8 = 201) (a2 : 0 ≤ s13.toInt) (a3 : s13.toInt ≤ 201) (a4 : s0.toInt ≤ 1024) (a5 : zz_vs s0.toInt (s15) (s16) s13.toInt) (a6 : 0 ≤ p1.toInt) (a7 : p1.toInt < 44) : zz_ok (m_X4_placeInList K n0 n1 n2 n3 n4 n5 n6 n7 n8 p1 p2 s0 s1 s2 s3 s4 s5 s6 s7 s8 s9 s10 s11 s12 s13 s14 s15 s16) (fun z => zz_pil (zz_sg (s15) (s16) 0 s13.toInt.toNat) p1.toInt.toNat p2.toInt z.1.toInt ∧ z.2.1 = s0 ∧ z.2.2.1 = s1 ∧ z.2.2.2.1 = s2 ∧ z.2.2.2.2.1 = s3 ∧ z.2.2.2.2.2.1 = s4 ∧ z.2.2.2.2.2.2.1 = s5 ∧ z.2.2.2.2.2.2.2.1 = s6 ∧ z.2.2.2.2.2.2.2.2.1 = s7 ∧ z.2.2.2.2.2.2.2.2.2.1 = s8 ∧ z.2.2.2.2.2.2.2.2.2.2.1 = s9 ∧ z.2.2.2.2.2.2.2.2.2.2.2.1 = s10 ∧ z.2.2.2.2.2.2.2.2.2.2.2.2.1 = s11 ∧ z.2.2.2.2.2.2.2.2.2.2.2.2.2.1 = s12 ∧ z.2.2.2.2.2.2.2.2.2.2.2.2.2.2.1 = s13 ∧ z.2.2.2.2.2.2.2.2.2.2.2.2.2.2.2.1 = s14 ∧ z.2.2.2.2.2.2.2.2.2.2.2.2.2.2.2.2.1 = s15 ∧ z.2.2.2.2.2.2.2.2.2.2.2.2.2.2.2.2.2 = s16) := by
  have g1 := zz_rg p1
  have g2 := zz_rg p2
  have g3 := zz_rg s0
  have g4 := zz_rg s1
  have g5 := zz_rg s2
  have g6 := zz_rg s3
  have g7 := zz_rg s9
  have g8 := zz_rg s10
  have g9 := zz_rg s13
  have g10 := zz_rg s14
  unfold m_X4_placeInList
  refine zz_ok_bind (ff_X10_size K hK T hT n7 n8 s13 s14 s15 s16) ?_
  intro z11 hz11
  obtain ⟨r_1, t_1_0, t_1_1, t_1_2, t_1_3⟩ := z11
  have q12 : r_1 = s13 := hz11.1
  have q13 : t_1_0 = s13 := hz11.2.1
  have q14 : t_1_1 = s14 := hz11.2.2.1
  have q15 : t_1_2 = s15 := hz11.2.2.2.1
  have q16 : t_1_3 = s16 := hz11.2.2.2.2
  clear hz11
  have e17 : s13 = r_1 := q12.symm
  subst e17
  have e18 : s13 = t_1_0 := q13.symm
  subst e18
  have e19 : s14 = t_1_1 := q14.symm
  subst e19
  have e20 : s15 = t_1_2 := q15.symm
  subst e20
  have e21 : s16 = t_1_3 := q16.symm
  subst e21
  show zz_ok (m_X4_placeInList_L13 K n0 n1 n2 n3 n4 n5 n6 n7 n8 K p1 p2 ((0 : Int32)) (s13 - ((1 : Int32))) s0 s1 s2 s3 s4 s5 s6 s7 s8 s9 s10 s11 s12 s13 s14 s15 s16) _
  have l22 : (0 : Int32).toInt = 0 := rfl
  have l23 : (1 : Int32).toInt = 1 := rfl
  obtain ⟨k24, f25⟩ := zz_sub s13 (1 : Int32)
  have g26 := zz_rg (s13 - ((1 : Int32)))
  refine (ff_X4_placeInList_L13 K hK T hT n0 n1 n2 n3 n4 n5 n6 n7 n8 K p1 p2 ((0 : Int32)) (s13 - ((1 : Int32))) s0 s1 s2 s3 s4 s5 s6 s7 s8 s9 s10 s11 s12 s13 s14 s15 s16 a0 a1 a2 a3 a4 a5 (by omega) (by omega) a6 a7 (by omega) (by omega) (by omega)).mono (fun z hz => ?_)
  obtain ⟨y27_0, y27_1, y27_2, y27_3, y27_4, y27_5, y27_6, y27_7, y27_8, y27_9, y27_10, y27_11, y27_12, y27_13, y27_14, y27_15, y27_16, y27_17⟩ := z
  have q28 : zz_pi (s15) (s16) (s13 - ((1 : Int32))).toInt p1.toInt (p2.toInt - ((0 : Int32)).toInt) y27_0.toInt := hz.1
  have q29 : y27_1 = s0 := hz.2.1
  have q30 : y27_2 = s1 := hz.2.2.1
  have q31 : y27_3 = s2 := hz.2.2.2.1
  have q32 : y27_4 = s3 := hz.2.2.2.2.1
  have q33 : y27_5 = s4 := hz.2.2.2.2.2.1
  have q34 : y27_6 = s5 := hz.2.2.2.2.2.2.1
  have q35 : y27_7 = s6 := hz.2.2.2.2.2.2.2.1
  have q36 : y27_8 = s7 := hz.2.2.2.2.2.2.2.2.1
  have q37 : y27_9 = s8 := hz.2.2.2.2.2.2.2.2.2.1
  have q38 : y27_10 = s9 := hz.2.2.2.2.2.2.2.2.2.2.1
  have q39 : y27_11 = s10 := hz.2.2.2.2.2.2.2.2.2.2.2.1
  have q40 : y27_12 = s11 := hz.2.2.2.2.2.2.2.2.2.2.2.2.1
  have q41 : y27_13 = s12 := hz.2.2.2.2.2.2.2.2.2.2.2.2.2.1
  have q42 : y27_14 = s13 := hz.2.2.2.2.2.2.2.2.2.2.2.2.2.2.1
  have q43 : y27_15 = s14 := hz.2.2.2.2.2.2.2.2.2.2.2.2.2.2.2.1
  have q44 : y27_16 = s15 := hz.2.2.2.2.2.2.2.2.2.2.2.2.2.2.2.2.1
  have q45 : y27_17 = s16 := hz.2.2.2.2.2.2.2.2.2.2.2.2.2.2.2.2.2
  clear hz
  have e46 : s0 = y27_1 := q29.symm
  subst e46
  have e47 : s1 = y27_2 := q30.symm
  subst e47
  have e48 : s2 = y27_3 := q31.symm
  subst e48
  have e49 : s3 = y27_4 := q32.symm
  subst e49
  have e50 : s4 = y27_5 := q33.symm
  subst e50
  have e51 : s5 = y27_6 := q34.symm
  subst e51
  have e52 : s6 = y27_7 := q35.symm
  subst e52
  have e53 : s7 = y27_8 := q36.symm
  subst e53
  have e54 : s8 = y27_9 := q37.symm
  subst e54
  have e55 : s9 = y27_10 := q38.symm
  subst e55
  have e56 : s10 = y27_11 := q39.symm
  subst e56
  have e57 : s11 = y27_12 := q40.symm
  subst e57
  have e58 : s12 = y27_13 := q41.symm
  subst e58
  have e59 : s13 = y27_14 := q42.symm
  subst e59
  have e60 : s14 = y27_15 := q43.symm
  subst e60
  have e61 : s15 = y27_16 := q44.symm
  subst e61
  have e62 : s16 = y27_17 := q45.symm
  subst e62
  have g63 := zz_rg y27_0
  show zz_pil (zz_sg (s15) (s16) 0 s13.toInt.toNat) p1.toInt.toNat p2.toInt y27_0.toInt ∧ s0 = s0 ∧ s1 = s1 ∧ s2 = s2 ∧ s3 = s3 ∧ s4 = s4 ∧ s5 = s5 ∧ s6 = s6 ∧ s7 = s7 ∧ s8 = s8 ∧ s9 = s9 ∧ s10 = s10 ∧ s11 = s11 ∧ s12 = s12 ∧ s13 = s13 ∧ s14 = s14 ∧ s15 = s15 ∧ s16 = s16
  exact ⟨(by exact zz_pil_cg (zz_pi_all (by assumption) (by omega)) (by omega)), rfl, rfl, rfl, rfl, rfl, rfl, rfl, rfl, rfl, rfl, rfl, rfl, rfl, rfl, rfl, rfl, rfl⟩

set_option maxHeartbeats 4000000 in
theorem s_X4_begin (K : Nat) (hK : 1099511627776 ≤ K) (n0 : Nat) (n1 : Nat) (n2 : Nat) (n3 : Nat) (n4 : Nat) (n5 : Nat) (n6 : Nat) (n7 : Nat) (n8 : Nat) (s0 : Int32) (s1 : Int32) (s2 : Int32) (s3 : Int32) (s4 : Nat → Int32) (s5 : Nat → Int32) (s6 : Nat → Int32) (s7 : Nat → Int32) (s8 : Nat → Int32) (s9 : Int32) (s10 : Int32) (s11 : Nat → Int32) (s12 : Nat → Int32) (s13 : Int32) (s14 : Int32) (s15 : Nat → Int32) (s16 : Nat → Int32) (a0 : n0 = 1024) (a1 : n1 = 200) (a2 : n2 = 200) (a3 : n3 = 200) (a4 : n4 = 200) (a5 : n5 = 512) (a6 : n6 = 512) (a7 : 0 ≤ s0.toInt) (a8 : s0.toInt ≤ 1024) (a9 : 0 ≤ s1.toInt) (a10 : s1.toInt ≤ 200) (a11 : 0 ≤ s9.toInt) (a12 : s9.toInt ≤ 512) (a13 : n7 = 201) (a14 : n8 = 201) (a15 : 0 ≤ s13.toInt) (a16 : s13.toInt ≤ 201) : zz_ok (m_X4_begin K n0 n1 n2 n3 n4 n5 n6 n7 n8 s0 s1 s2 s3 s4 s5 s6 s7 s8 s9 s10 s11 s12 s13 s14 s15 s16) (fun z => z.1.toInt = s0.toInt ∧ z.2.1.toInt = s1.toInt ∧ 0 ≤ z.2.2.2.2.2.2.2.2.2.1.toInt ∧ z.2.2.2.2.2.2.2.2.2.1.toInt ≤ 512 ∧ 0 ≤ z.2.2.2.2.2.2.2.2.2.2.2.2.2.1.toInt ∧ z.2.2.2.2.2.2.2.2.2.2.2.2.2.1.toInt ≤ 201) := by
  have g1 := zz_rg s0
  have g2 := zz_rg s1
  have g3 := zz_rg s2
  have g4 := zz_rg s3
  have g5 := zz_rg s9
  have g6 := zz_rg s10
  have g7 := zz_rg s13
  have g8 := zz_rg s14
  unfold m_X4_begin
  refine zz_ok_bind (s_X10_clear K hK n7 n8 s13 s14 s15 s16) ?_
  intro z9 hz9
  obtain ⟨t_1_0, t_1_1, t_1_2, t_1_3⟩ := z9
  have q10 : t_1_0.toInt = 0 := hz9
  have g11 := zz_rg t_1_0
  have g12 := zz_rg t_1_1
  show zz_ok ((m_X7_words K n0 n1 n2 n3 n4 n5 n6 s0 s1 s2 s3 s4 s5 s6 s7 s8 s9 s10 s11 s12).bind fun ⟨r_2, t_2_0, t_2_1, t_2_2, t_2_3, t_2_4, t_2_5, t_2_6, t_2_7, t_2_8, t_2_9, t_2_10, t_2_11, t_2_12⟩ => (m_X10_add K n7 n8 ((0 : Int32)) r_2 t_1_0 t_1_1 t_1_2 t_1_3).bind fun ⟨t_3_0, t_3_1, t_3_2, t_3_3⟩ => some (t_2_0, t_2_1, t_2_2, t_2_3, t_2_4, t_2_5, t_2_6, t_2_7, t_2_8, t_2_9, t_2_10, t_2_11, t_2_12, t_3_0, t_3_1, t_3_2, t_3_3)) _
  refine zz_ok_bind (s_X7_words K hK n0 n1 n2 n3 n4 n5 n6 s0 s1 s2 s3 s4 s5 s6 s7 s8 s9 s10 s11 s12 (by omega) (by omega) (by omega) (by omega) (by omega) (by omega) (by omega) (by omega) (by omega) (by omega) (by omega) (by omega) (by omega)) ?_
  intro z13 hz13
  obtain ⟨r_2, t_2_0, t_2_1, t_2_2, t_2_3, t_2_4, t_2_5, t_2_6, t_2_7, t_2_8, t_2_9, t_2_10, t_2_11, t_2_12⟩ := z13
  have q14 : r_2.toInt = s0.toInt := hz13.1
  have q15 : t_2_0.toInt = s0.toInt := hz13.2.1
  have q16 : t_2_1.toInt = s1.toInt := hz13.2.2.1
  have q17 : 0 ≤ t_2_9.toInt := hz13.2.2.2.1
  have q18 : t_2_9.toInt ≤ 512 := hz13.2.2.2.2
  have g19 := zz_rg r_2
  have g20 := zz_rg t_2_0
  have g21 := zz_rg t_2_1
  have g22 := zz_rg t_2_2
  have g23 := zz_rg t_2_3
  have g24 := zz_rg t_2_9
  have g25 := zz_rg t_2_10
  show zz_ok ((m_X10_add K n7 n8 ((0 : Int32)) r_2 t_1_0 t_1_1 t_1_2 t_1_3).bind fun ⟨t_3_0, t_3_1, t_3_2, t_3_3⟩ => some (t_2_0, t_2_1, t_2_2, t_2_3, t_2_4, t_2_5, t_2_6, t_2_7, t_2_8, t_2_9, t_2_10, t_2_11, t_2_12, t_3_0, t_3_1, t_3_2, t_3_3)) _
  have l26 : (0 : Int32).toInt = 0 := rfl
  refine zz_ok_bind (s_X10_add K hK n7 n8 ((0 : Int32)) r_2 t_1_0 t_1_1 t_1_2 t_1_3 (by omega) (by omega) (by omega) (by omega)) ?_
  intro z27 hz27
  obtain ⟨t_3_0, t_3_1, t_3_2, t_3_3⟩ := z27
  have q28 : 0 ≤ t_3_0.toInt := hz27.1
  have q29 : t_3_0.toInt ≤ (n7 : Int) := hz27.2
  have g30 := zz_rg t_3_0
  have g31 := zz_rg t_3_1
  show zz_ok (some (t_2_0, t_2_1, t_2_2, t_2_3, t_2_4, t_2_5, t_2_6, t_2_7, t_2_8, t_2_9, t_2_10, t_2_11, t_2_12, t_3_0, t_3_1, t_3_2, t_3_3)) _
  refine zz_ok_some ?_
  show t_2_0.toInt = s0.toInt ∧ t_2_1.toInt = s1.toInt ∧ 0 ≤ t_2_9.toInt ∧ t_2_9.toInt ≤ 512 ∧ 0 ≤ t_3_0.toInt ∧ t_3_0.toInt ≤ 201
  refine ⟨?_, ?_, ?_, ?_, ?_, ?_⟩ <;> omega
set_option maxHeartbeats 4000000 in
theorem s_X4_findInListOf_L15 (K : Nat) (hK : 1099511627776 ≤ K) (n0 : Nat) (n1 : Nat) (n2 : Nat) (n3 : Nat) (n4 : Nat) (n5 : Nat) (n6 : Nat) (n7 : Nat) (n8 : Nat) : ∀ (k : Nat) (x1 : Int32) (x2 : Int32) (x3 : Int32) (s0 : Int32) (s1 : Int32) (s2 : Int32) (s3 : Int32) (s4 : Nat → Int32) (s5 : Nat → Int32) (s6 : Nat → Int32) (s7 : Nat → Int32) (s8 : Nat → Int32) (s9 : Int32) (s10 : Int32) (s11 : Nat → Int32) (s12 : Nat → Int32) (s13 : Int32) (s14 : Int32) (s15 : Nat → Int32) (s16 : Nat → Int32), n0 = 1024 → n1 = 200 → n2 = 200 → n3 = 200 → n4 = 200 → n5 = 512 → n6 = 512 → 0 ≤ s0.toInt → s0.toInt ≤ 1024 → 0 ≤ s1.toInt → s1.toInt ≤ 200 → 0 ≤ s9.toInt → s9.toInt ≤ 512 → n7 = 201 → n8 = 201 → 0 ≤ s13.toInt → s13.toInt ≤ 201 → -1 ≤ x3.toInt → x3.toInt ≤ 201 → x3.toInt + 1 < (k : Int) → zz_ok (m_X4_findInListOf_L15 K n0 n1 n2 n3 n4 n5 n6 n7 n8 k x1 x2 x3 s0 s1 s2 s3 s4 s5 s6 s7 s8 s9 s10 s11 s12 s13 s14 s15 s16) (fun z => z.2.1.toInt = s0.toInt ∧ z.2.2.1.toInt = s1.toInt ∧ 0 ≤ z.2.2.2.2.2.2.2.2.2.2.1.toInt ∧ z.2.2.2.2.2.2.2.2.2.2.1.toInt ≤ 512 ∧ 0 ≤ z.2.2.2.2.2.2.2.2.2.2.2.2.2.2.1.toInt ∧ z.2.2.2.2.2.2.2.2.2.2.2.2.2.2.1.toInt ≤ 201) := by
  intro k
  induction k with
  | zero =>
    intro x1 x2 x3 s0 s1 s2 s3 s4 s5 s6 s7 s8 s9 s10 s11 s12 s13 s14 s15 s16 a0 a1 a2 a3 a4 a5 a6 a7 a8 a9 a10 a11 a12 a13 a14 a15 a16 a17 a18 hz9
    exfalso
    have g_x1 := zz_rg x1
    have g_x2 := zz_rg x2
    have g_x3 := zz_rg x3
    have g_s0 := zz_rg s0
    have g_s1 := zz_rg s1
    have g_s2 := zz_rg s2
    have g_s3 := zz_rg s3
    have g_s9 := zz_rg s9
    have g_s10 := zz_rg s10
    have g_s13 := zz_rg s13
    have g_s14 := zz_rg s14
    omega
  | succ k ih =>
    intro x1 x2 x3 s0 s1 s2 s3 s4 s5 s6 s7 s8 s9 s10 s11 s12 s13 s14 s15 s16 a0 a1 a2 a3 a4 a5 a6 a7 a8 a9 a10 a11 a12 a13 a14 a15 a16 a17 a18 hz9
    rw [m_X4_findInListOf_L15_s]
    have g1 := zz_rg x1
    have g2 := zz_rg x2
    have g3 := zz_rg x3
    have g4 := zz_rg s0
    have g5 := zz_rg s1
    have g6 := zz_rg s2
    have g7 := zz_rg s3
    have g8 := zz_rg s9
    have g9 := zz_rg s10
    have g10 := zz_rg s13
    have g11 := zz_rg s14
    have l13 : (0 : Int32).toInt = 0 := rfl
    refine zz_ok_ite (fun c12 => ?_) (fun c12 => ?_)
    · have c12 := Int32.lt_iff_toInt_lt.mp c12
      refine zz_ok_some ?_
      show s0.toInt = s0.toInt ∧ s1.toInt = s1.toInt ∧ 0 ≤ s9.toInt ∧ s9.toInt ≤ 512 ∧ 0 ≤ s13.toInt ∧ s13.toInt ≤ 201
      refine ⟨?_, ?_, ?_, ?_, ?_, ?_⟩ <;> omega
    · have c12 := zz_nlt c12
      refine zz_ok_bind (s_X10_wordsOf K hK n7 n8 x3 s13 s14 s15 s16 (by omega) (by omega) (by omega) (by omega)) ?_
      intro z14 hz14
      obtain ⟨r_4, t_4_0, t_4_1, t_4_2, t_4_3⟩ := z14
      have q15 : t_4_0.toInt = s13.toInt := hz14
      have g16 := zz_rg r_4
      have g17 := zz_rg t_4_0
      have g18 := zz_rg t_4_1
      show zz_ok ((m_X4_listOf K r_4).bind fun ⟨r_5, _⟩ => if r_5 = x2 then ((m_X7_addLooked K n0 n1 n2 n3 n4 n5 n6 ((1 : Int32)) s0 s1 s2 s3 s4 s5 s6 s7 s8 s9 s10 s11 s12).bind fun ⟨t_7_0, t_7_1, t_7_2, t_7_3, t_7_4, t_7_5, t_7_6, t_7_7, t_7_8, t_7_9, t_7_10, t_7_11, t_7_12⟩ => (m_X10_wordsOf K n7 n8 x3 t_4_0 t_4_1 t_4_2 t_4_3).bind fun ⟨r_8, t_8_0, t_8_1, t_8_2, t_8_3⟩ => if r_8 < x1 then (m_X4_findInListOf_L15 K n0 n1 n2 n3 n4 n5 n6 n7 n8 k x1 x2 (x3 + (-1)) t_7_0 t_7_1 t_7_2 t_7_3 t_7_4 t_7_5 t_7_6 t_7_7 t_7_8 t_7_9 t_7_10 t_7_11 t_7_12 t_8_0 t_8_1 t_8_2 t_8_3) else (some (x3, t_7_0, t_7_1, t_7_2, t_7_3, t_7_4, t_7_5, t_7_6, t_7_7, t_7_8, t_7_9, t_7_10, t_7_11, t_7_12, t_8_0, t_8_1, t_8_2, t_8_3))) else (m_X4_findInListOf_L15 K n0 n1 n2 n3 n4 n5 n6 n7 n8 k x1 x2 (x3 + (-1)) s0 s1 s2 s3 s4 s5 s6 s7 s8 s9 s10 s11 s12 t_4_0 t_4_1 t_4_2 t_4_3)) _
      refine zz_ok_bind (s_X4_listOf K hK r_4) ?_
      intro z19 hz19
      obtain ⟨r_5, _⟩ := z19
      have g20 := zz_rg r_5
      show zz_ok (if r_5 = x2 then ((m_X7_addLooked K n0 n1 n2 n3 n4 n5 n6 ((1 : Int32)) s0 s1 s2 s3 s4 s5 s6 s7 s8 s9 s10 s11 s12).bind fun ⟨t_7_0, t_7_1, t_7_2, t_7_3, t_7_4, t_7_5, t_7_6, t_7_7, t_7_8, t_7_9, t_7_10, t_7_11, t_7_12⟩ => (m_X10_wordsOf K n7 n8 x3 t_4_0 t_4_1 t_4_2 t_4_3).bind fun ⟨r_8, t_8_0, t_8_1, t_8_2, t_8_3⟩ => if r_8 < x1 then (m_X4_findInListOf_L15 K n0 n1 n2 n3 n4 n5 n6 n7 n8 k x1 x2 (x3 + (-1)) t_7_0 t_7_1 t_7_2 t_7_3 t_7_4 t_7_5 t_7_6 t_7_7 t_7_8 t_7_9 t_7_10 t_7_11 t_7_12 t_8_0 t_8_1 t_8_2 t_8_3) else (some (x3, t_7_0, t_7_1, t_7_2, t_7_3, t_7_4, t_7_5, t_7_6, t_7_7, t_7_8, t_7_9, t_7_10, t_7_11, t_7_12, t_8_0, t_8_1, t_8_2, t_8_3))) else (m_X4_findInListOf_L15 K n0 n1 n2 n3 n4 n5 n6 n7 n8 k x1 x2 (x3 + (-1)) s0 s1 s2 s3 s4 s5 s6 s7 s8 s9 s10 s11 s12 t_4_0 t_4_1 t_4_2 t_4_3)) _
      refine zz_ok_ite (fun c21 => ?_) (fun c21 => ?_)
      · have c21 := congrArg Int32.toInt c21
        have l22 : (1 : Int32).toInt = 1 := rfl
        refine zz_ok_bind (s_X7_addLooked K hK n0 n1 n2 n3 n4 n5 n6 ((1 : Int32)) s0 s1 s2 s3 s4 s5 s6 s7 s8 s9 s10 s11 s12 (by omega) (by omega) (by omega) (by omega) (by omega) (by omega) (by omega) (by omega) (by omega) (by omega) (by omega) (by omega) (by omega)) ?_
        intro z23 hz23
        obtain ⟨t_7_0, t_7_1, t_7_2, t_7_3, t_7_4, t_7_5, t_7_6, t_7_7, t_7_8, t_7_9, t_7_10, t_7_11, t_7_12⟩ := z23
        have q24 : t_7_0.toInt = s0.toInt := hz23.1
        have q25 : t_7_1.toInt = s1.toInt := hz23.2.1
        have q26 : 0 ≤ t_7_9.toInt := hz23.2.2.1
        have q27 : t_7_9.toInt ≤ 512 := hz23.2.2.2
        have g28 := zz_rg t_7_0
        have g29 := zz_rg t_7_1
        have g30 := zz_rg t_7_2
        have g31 := zz_rg t_7_3
        have g32 := zz_rg t_7_9
        have g33 := zz_rg t_7_10
        show zz_ok ((m_X10_wordsOf K n7 n8 x3 t_4_0 t_4_1 t_4_2 t_4_3).bind fun ⟨r_8, t_8_0, t_8_1, t_8_2, t_8_3⟩ => if r_8 < x1 then (m_X4_findInListOf_L15 K n0 n1 n2 n3 n4 n5 n6 n7 n8 k x1 x2 (x3 + (-1)) t_7_0 t_7_1 t_7_2 t_7_3 t_7_4 t_7_5 t_7_6 t_7_7 t_7_8 t_7_9 t_7_10 t_7_11 t_7_12 t_8_0 t_8_1 t_8_2 t_8_3) else (some (x3, t_7_0, t_7_1, t_7_2, t_7_3, t_7_4, t_7_5, t_7_6, t_7_7, t_7_8, t_7_9, t_7_10, t_7_11, t_7_12, t_8_0, t_8_1, t_8_2, t_8_3))) _
        refine zz_ok_bind (s_X10_wordsOf K hK n7 n8 x3 t_4_0 t_4_1 t_4_2 t_4_3 (by omega) (by omega) (by omega) (by omega)) ?_
        intro z34 hz34
        obtain ⟨r_8, t_8_0, t_8_1, t_8_2, t_8_3⟩ := z34
        have q35 : t_8_0.toInt = t_4_0.toInt := hz34
        have g36 := zz_rg r_8
        have g37 := zz_rg t_8_0
        have g38 := zz_rg t_8_1
        show zz_ok (if r_8 < x1 then (m_X4_findInListOf_L15 K n0 n1 n2 n3 n4 n5 n6 n7 n8 k x1 x2 (x3 + (-1)) t_7_0 t_7_1 t_7_2 t_7_3 t_7_4 t_7_5 t_7_6 t_7_7 t_7_8 t_7_9 t_7_10 t_7_11 t_7_12 t_8_0 t_8_1 t_8_2 t_8_3) else (some (x3, t_7_0, t_7_1, t_7_2, t_7_3, t_7_4, t_7_5, t_7_6, t_7_7, t_7_8, t_7_9, t_7_10, t_7_11, t_7_12, t_8_0, t_8_1, t_8_2, t_8_3))) _
        refine zz_ok_ite (fun c39 => ?_) (fun c39 => ?_)
        · have c39 := Int32.lt_iff_toInt_lt.mp c39
          obtain ⟨y40, e41⟩ : ∃ y : Int32, y = x3 + (-1) := ⟨_, rfl⟩
          obtain ⟨k42, f43⟩ := zz_dec e41
          rw [← e41]
          clear e41
          have g44 := zz_rg y40
          refine (ih x1 x2 y40 t_7_0 t_7_1 t_7_2 t_7_3 t_7_4 t_7_5 t_7_6 t_7_7 t_7_8 t_7_9 t_7_10 t_7_11 t_7_12 t_8_0 t_8_1 t_8_2 t_8_3 (by omega) (by omega) (by omega) (by omega) (by omega) (by omega) (by omega) (by omega) (by omega) (by omega) (by omega) (by omega) (by omega) (by omega) (by omega) (by omega) (by omega) (by omega) (by omega) (by omega)).mono (fun z hz => ?_)
          have q45 : z.2.1.toInt = t_7_0.toInt := hz.1
          have q46 : z.2.2.1.toInt = t_7_1.toInt := hz.2.1
          have q47 : 0 ≤ z.2.2.2.2.2.2.2.2.2.2.1.toInt := hz.2.2.1
          have q48 : z.2.2.2.2.2.2.2.2.2.2.1.toInt ≤ 512 := hz.2.2.2.1
          have q49 : 0 ≤ z.2.2.2.2.2.2.2.2.2.2.2.2.2.2.1.toInt := hz.2.2.2.2.1
          have q50 : z.2.2.2.2.2.2.2.2.2.2.2.2.2.2.1.toInt ≤ 201 := hz.2.2.2.2.2
          show z.2.1.toInt = s0.toInt ∧ z.2.2.1.toInt = s1.toInt ∧ 0 ≤ z.2.2.2.2.2.2.2.2.2.2.1.toInt ∧ z.2.2.2.2.2.2.2.2.2.2.1.toInt ≤ 512 ∧ 0 ≤ z.2.2.2.2.2.2.2.2.2.2.2.2.2.2.1.toInt ∧ z.2.2.2.2.2.2.2.2.2.2.2.2.2.2.1.toInt ≤ 201
          refine ⟨?_, ?_, ?_, ?_, ?_, ?_⟩ <;> omega
        · have c39 := zz_nlt c39
          refine zz_ok_some ?_
          show t_7_0.toInt = s0.toInt ∧ t_7_1.toInt = s1.toInt ∧ 0 ≤ t_7_9.toInt ∧ t_7_9.toInt ≤ 512 ∧ 0 ≤ t_8_0.toInt ∧ t_8_0.toInt ≤ 201
          refine ⟨?_, ?_, ?_, ?_, ?_, ?_⟩ <;> omega
      · have c21 := zz_neq c21
        obtain ⟨y51, e52⟩ : ∃ y : Int32, y = x3 + (-1) := ⟨_, rfl⟩
        obtain ⟨k53, f54⟩ := zz_dec e52
        rw [← e52]
        clear e52
        have g55 := zz_rg y51
        refine (ih x1 x2 y51 s0 s1 s2 s3 s4 s5 s6 s7 s8 s9 s10 s11 s12 t_4_0 t_4_1 t_4_2 t_4_3 (by omega) (by omega) (by omega) (by omega) (by omega) (by omega) (by omega) (by omega) (by omega) (by omega) (by omega) (by omega) (by omega) (by omega) (by omega) (by omega) (by omega) (by omega) (by omega) (by omega)).mono (fun z hz => ?_)
        have q56 : z.2.1.toInt = s0.toInt := hz.1
        have q57 : z.2.2.1.toInt = s1.toInt := hz.2.1
        have q58 : 0 ≤ z.2.2.2.2.2.2.2.2.2.2.1.toInt := hz.2.2.1
        have q59 : z.2.2.2.2.2.2.2.2.2.2.1.toInt ≤ 512 := hz.2.2.2.1
        have q60 : 0 ≤ z.2.2.2.2.2.2.2.2.2.2.2.2.2.2.1.toInt := hz.2.2.2.2.1
        have q61 : z.2.2.2.2.2.2.2.2.2.2.2.2.2.2.1.toInt ≤ 201 := hz.2.2.2.2.2
        show z.2.1.toInt = s0.toInt ∧ z.2.2.1.toInt = s1.toInt ∧ 0 ≤ z.2.2.2.2.2.2.2.2.2.2.1.toInt ∧ z.2.2.2.2.2.2.2.2.2.2.1.toInt ≤ 512 ∧ 0 ≤ z.2.2.2.2.2.2.2.2.2.2.2.2.2.2.1.toInt ∧ z.2.2.2.2.2.2.2.2.2.2.2.2.2.2.1.toInt ≤ 201
        refine ⟨?_, ?_, ?_, ?_, ?_, ?_⟩ <;> omega
set_option maxHeartbeats 4000000 in
theorem s_X4_findInListOf (K : Nat) (hK : 1099511627776 ≤ K) (n0 : Nat) (n1 : Nat) (n2 : Nat) (n3 : Nat) (n4 : Nat) (n5 : Nat) (n6 : Nat) (n7 : Nat) (n8 : Nat) (p1 : Int32) (s0 : Int32) (s1 : Int32) (s2 : Int32) (s3 : Int32) (s4 : Nat → Int32) (s5 : Nat → Int32) (s6 : Nat → Int32) (s7 : Nat → Int32) (s8 : Nat → Int32) (s9 : Int32) (s10 : Int32) (s11 : Nat → Int32) (s12 : Nat → Int32) (s13 : Int32) (s14 : Int32) (s15 : Nat → Int32) (s16 : Nat → Int32) (a0 : n0 = 1024) (a1 : n1 = 200) (a2 : n2 = 200) (a3 : n3 = 200) (a4 : n4 = 200) (a5 : n5 = 512) (a6 : n6 = 512) (a7 : 0 ≤ s0.toInt) (a8 : s0.toInt ≤ 1024) (a9 : 0 ≤ s1.toInt) (a10 : s1.toInt ≤ 200) (a11 : 0 ≤ s9.toInt) (a12 : s9.toInt ≤ 512) (a13 : n7 = 201) (a14 : n8 = 201) (a15 : 0 ≤ s13.toInt) (a16 : s13.toInt ≤ 201) : zz_ok (m_X4_findInListOf K n0 n1 n2 n3 n4 n5 n6 n7 n8 p1 s0 s1 s2 s3 s4 s5 s6 s7 s8 s9 s10 s11 s12 s13 s14 s15 s16) (fun z => z.2.1.toInt = s0.toInt ∧ z.2.2.1.toInt = s1.toInt ∧ 0 ≤ z.2.2.2.2.2.2.2.2.2.2.1.toInt ∧ z.2.2.2.2.2.2.2.2.2.2.1.toInt ≤ 512 ∧ 0 ≤ z.2.2.2.2.2.2.2.2.2.2.2.2.2.2.1.toInt ∧ z.2.2.2.2.2.2.2.2.2.2.2.2.2.2.1.toInt ≤ 201) := by
  have g1 := zz_rg p1
  have g2 := zz_rg s0
  have g3 := zz_rg s1
  have g4 := zz_rg s2
  have g5 := zz_rg s3
  have g6 := zz_rg s9
  have g7 := zz_rg s10
  have g8 := zz_rg s13
  have g9 := zz_rg s14
  unfold m_X4_findInListOf
  refine zz_ok_bind (s_X4_listOf K hK p1) ?_
  intro z10 hz10
  obtain ⟨r_1, _⟩ := z10
  have g11 := zz_rg r_1
  show zz_ok ((m_X10_size K n7 n8 s13 s14 s15 s16).bind fun ⟨r_2, t_2_0, t_2_1, t_2_2, t_2_3⟩ => m_X4_findInListOf_L15 K n0 n1 n2 n3 n4 n5 n6 n7 n8 K p1 r_1 (r_2 - ((1 : Int32))) s0 s1 s2 s3 s4 s5 s6 s7 s8 s9 s10 s11 s12 t_2_0 t_2_1 t_2_2 t_2_3) _
  refine zz_ok_bind (s_X10_size K hK n7 n8 s13 s14 s15 s16) ?_
  intro z12 hz12
  obtain ⟨r_2, t_2_0, t_2_1, t_2_2, t_2_3⟩ := z12
  have q13 : r_2.toInt = s13.toInt := hz12.1
  have q14 : t_2_0.toInt = s13.toInt := hz12.2
  have g15 := zz_rg r_2
  have g16 := zz_rg t_2_0
  have g17 := zz_rg t_2_1
  show zz_ok (m_X4_findInListOf_L15 K n0 n1 n2 n3 n4 n5 n6 n7 n8 K p1 r_1 (r_2 - ((1 : Int32))) s0 s1 s2 s3 s4 s5 s6 s7 s8 s9 s10 s11 s12 t_2_0 t_2_1 t_2_2 t_2_3) _
  have l18 : (1 : Int32).toInt = 1 := rfl
  obtain ⟨k19, f20⟩ := zz_sub r_2 (1 : Int32)
  have g21 := zz_rg (r_2 - ((1 : Int32)))
  refine (s_X4_findInListOf_L15 K hK n0 n1 n2 n3 n4 n5 n6 n7 n8 K p1 r_1 (r_2 - ((1 : Int32))) s0 s1 s2 s3 s4 s5 s6 s7 s8 s9 s10 s11 s12 t_2_0 t_2_1 t_2_2 t_2_3 (by omega) (by omega) (by omega) (by omega) (by omega) (by omega) (by omega) (by omega) (by omega) (by omega) (by omega) (by omega) (by omega) (by omega) (by omega) (by omega) (by omega) (by omega) (by omega) (by omega)).mono (fun z hz => ?_)
  have q22 : z.2.1.toInt = s0.toInt := hz.1
  have q23 : z.2.2.1.toInt = s1.toInt := hz.2.1
  have q24 : 0 ≤ z.2.2.2.2.2.2.2.2.2.2.1.toInt := hz.2.2.1
  have q25 : z.2.2.2.2.2.2.2.2.2.2.1.toInt ≤ 512 := hz.2.2.2.1
  have q26 : 0 ≤ z.2.2.2.2.2.2.2.2.2.2.2.2.2.2.1.toInt := hz.2.2.2.2.1
  have q27 : z.2.2.2.2.2.2.2.2.2.2.2.2.2.2.1.toInt ≤ 201 := hz.2.2.2.2.2
  show z.2.1.toInt = s0.toInt ∧ z.2.2.1.toInt = s1.toInt ∧ 0 ≤ z.2.2.2.2.2.2.2.2.2.2.1.toInt ∧ z.2.2.2.2.2.2.2.2.2.2.1.toInt ≤ 512 ∧ 0 ≤ z.2.2.2.2.2.2.2.2.2.2.2.2.2.2.1.toInt ∧ z.2.2.2.2.2.2.2.2.2.2.2.2.2.2.1.toInt ≤ 201
  refine ⟨?_, ?_, ?_, ?_, ?_, ?_⟩ <;> omega
set_option maxHeartbeats 4000000 in
theorem s_X4_firstOfLaterList_L16 (K : Nat) (hK : 1099511627776 ≤ K) (n0 : Nat) (n1 : Nat) (n2 : Nat) (n3 : Nat) (n4 : Nat) (n5 : Nat) (n6 : Nat) (n7 : Nat) (n8 : Nat) : ∀ (k : Nat) (x1 : Int32) (x2 : Int32) (x3 : Int32) (x4 : Int32) (s0 : Int32) (s1 : Int32) (s2 : Int32) (s3 : Int32) (s4 : Nat → Int32) (s5 : Nat → Int32) (s6 : Nat → Int32) (s7 : Nat → Int32) (s8 : Nat → Int32) (s9 : Int32) (s10 : Int32) (s11 : Nat → Int32) (s12 : Nat → Int32) (s13 : Int32) (s14 : Int32) (s15 : Nat → Int32) (s16 : Nat → Int32), n0 = 1024 → n1 = 200 → n2 = 200 → n3 = 200 → n4 = 200 → n5 = 512 → n6 = 512 → 0 ≤ s0.toInt → s0.toInt ≤ 1024 → 0 ≤ s1.toInt → s1.toInt ≤ 200 → 0 ≤ s9.toInt → s9.toInt ≤ 512 → n7 = 201 → n8 = 201 → 0 ≤ s13.toInt → s13.toInt ≤ 201 → -1 ≤ x4.toInt → x4.toInt ≤ 201 → x4.toInt + 1 < (k : Int) → zz_ok (m_X4_firstOfLaterList_L16 K n0 n1 n2 n3 n4 n5 n6 n7 n8 k x1 x2 x3 x4 s0 s1 s2 s3 s4 s5 s6 s7 s8 s9 s10 s11 s12 s13 s14 s15 s16) (fun z => z.2.1.toInt = s0.toInt ∧ z.2.2.1.toInt = s1.toInt ∧ 0 ≤ z.2.2.2.2.2.2.2.2.2.2.1.toInt ∧ z.2.2.2.2.2.2.2.2.2.2.1.toInt ≤ 512 ∧ 0 ≤ z.2.2.2.2.2.2.2.2.2.2.2.2.2.2.1.toInt ∧ z.2.2.2.2.2.2.2.2.2.2.2.2.2.2.1.toInt ≤ 201) := by
  intro k
  induction k with
  | zero =>
    intro x1 x2 x3 x4 s0 s1 s2 s3 s4 s5 s6 s7 s8 s9 s10 s11 s12 s13 s14 s15 s16 a0 a1 a2 a3 a4 a5 a6 a7 a8 a9 a10 a11 a12 a13 a14 a15 a16 a17 a18 hz9
    exfalso
    have g_x1 := zz_rg x1
    have g_x2 := zz_rg x2
    have g_x3 := zz_rg x3
    have g_x4 := zz_rg x4
    have g_s0 := zz_rg s0
    have g_s1 := zz_rg s1
    have g_s2 := zz_rg s2
    have g_s3 := zz_rg s3
    have g_s9 := zz_rg s9
    have g_s10 := zz_rg s10
    have g_s13 := zz_rg s13
    have g_s14 := zz_rg s14
    omega
  | succ k ih =>
    intro x1 x2 x3 x4 s0 s1 s2 s3 s4 s5 s6 s7 s8 s9 s10 s11 s12 s13 s14 s15 s16 a0 a1 a2 a3 a4 a5 a6 a7 a8 a9 a10 a11 a12 a13 a14 a15 a16 a17 a18 hz9
    rw [m_X4_firstOfLaterList_L16_s]
    have g1 := zz_rg x1
    have g2 := zz_rg x2
    have g3 := zz_rg x3
    have g4 := zz_rg x4
    have g5 := zz_rg s0
    have g6 := zz_rg s1
    have g7 := zz_rg s2
    have g8 := zz_rg s3
    have g9 := zz_rg s9
    have g10 := zz_rg s10
    have g11 := zz_rg s13
    have g12 := zz_rg s14
    have l14 : (0 : Int32).toInt = 0 := rfl
    refine zz_ok_ite (fun c13 => ?_) (fun c13 => ?_)
    · have c13 := Int32.lt_iff_toInt_lt.mp c13
      refine zz_ok_some ?_
      show s0.toInt = s0.toInt ∧ s1.toInt = s1.toInt ∧ 0 ≤ s9.toInt ∧ s9.toInt ≤ 512 ∧ 0 ≤ s13.toInt ∧ s13.toInt ≤ 201
      refine ⟨?_, ?_, ?_, ?_, ?_, ?_⟩ <;> omega
    · have c13 := zz_nlt c13
      refine zz_ok_bind (s_X10_wordsOf K hK n7 n8 x4 s13 s14 s15 s16 (by omega) (by omega) (by omega) (by omega)) ?_
      intro z15 hz15
      obtain ⟨r_3, t_3_0, t_3_1, t_3_2, t_3_3⟩ := z15
      have q16 : t_3_0.toInt = s13.toInt := hz15
      have g17 := zz_rg r_3
      have g18 := zz_rg t_3_0
      have g19 := zz_rg t_3_1
      show zz_ok ((m_X4_listOf K r_3).bind fun ⟨r_4, _⟩ => if r_4 ≤ x1 then (m_X4_firstOfLaterList_L16 K n0 n1 n2 n3 n4 n5 n6 n7 n8 k x1 x2 x3 (x4 + (-1)) s0 s1 s2 s3 s4 s5 s6 s7 s8 s9 s10 s11 s12 t_3_0 t_3_1 t_3_2 t_3_3) else (if x3 ≤ r_4 then (m_X4_firstOfLaterList_L16 K n0 n1 n2 n3 n4 n5 n6 n7 n8 k x1 x2 x3 (x4 + (-1)) s0 s1 s2 s3 s4 s5 s6 s7 s8 s9 s10 s11 s12 t_3_0 t_3_1 t_3_2 t_3_3) else (m_X4_firstOfLaterList_L16 K n0 n1 n2 n3 n4 n5 n6 n7 n8 k x1 x4 r_4 (x4 + (-1)) s0 s1 s2 s3 s4 s5 s6 s7 s8 s9 s10 s11 s12 t_3_0 t_3_1 t_3_2 t_3_3))) _
      refine zz_ok_bind (s_X4_listOf K hK r_3) ?_
      intro z20 hz20
      obtain ⟨r_4, _⟩ := z20
      have g21 := zz_rg r_4
      show zz_ok (if r_4 ≤ x1 then (m_X4_firstOfLaterList_L16 K n0 n1 n2 n3 n4 n5 n6 n7 n8 k x1 x2 x3 (x4 + (-1)) s0 s1 s2 s3 s4 s5 s6 s7 s8 s9 s10 s11 s12 t_3_0 t_3_1 t_3_2 t_3_3) else (if x3 ≤ r_4 then (m_X4_firstOfLaterList_L16 K n0 n1 n2 n3 n4 n5 n6 n7 n8 k x1 x2 x3 (x4 + (-1)) s0 s1 s2 s3 s4 s5 s6 s7 s8 s9 s10 s11 s12 t_3_0 t_3_1 t_3_2 t_3_3) else (m_X4_firstOfLaterList_L16 K n0 n1 n2 n3 n4 n5 n6 n7 n8 k x1 x4 r_4 (x4 + (-1)) s0 s1 s2 s3 s4 s5 s6 s7 s8 s9 s10 s11 s12 t_3_0 t_3_1 t_3_2 t_3_3))) _
      refine zz_ok_ite (fun c22 => ?_) (fun c22 => ?_)
      · have c22 := Int32.le_iff_toInt_le.mp c22
        obtain ⟨y23, e24⟩ : ∃ y : Int32, y = x4 + (-1) := ⟨_, rfl⟩
        obtain ⟨k25, f26⟩ := zz_dec e24
        rw [← e24]
        clear e24
        have g27 := zz_rg y23
        refine (ih x1 x2 x3 y23 s0 s1 s2 s3 s4 s5 s6 s7 s8 s9 s10 s11 s12 t_3_0 t_3_1 t_3_2 t_3_3 (by omega) (by omega) (by omega) (by omega) (by omega) (by omega) (by omega) (by omega) (by omega) (by omega) (by omega) (by omega) (by omega) (by omega) (by omega) (by omega) (by omega) (by omega) (by omega) (by omega)).mono (fun z hz => ?_)
        have q28 : z.2.1.toInt = s0.toInt := hz.1
        have q29 : z.2.2.1.toInt = s1.toInt := hz.2.1
        have q30 : 0 ≤ z.2.2.2.2.2.2.2.2.2.2.1.toInt := hz.2.2.1
        have q31 : z.2.2.2.2.2.2.2.2.2.2.1.toInt ≤ 512 := hz.2.2.2.1
        have q32 : 0 ≤ z.2.2.2.2.2.2.2.2.2.2.2.2.2.2.1.toInt := hz.2.2.2.2.1
        have q33 : z.2.2.2.2.2.2.2.2.2.2.2.2.2.2.1.toInt ≤ 201 := hz.2.2.2.2.2
        show z.2.1.toInt = s0.toInt ∧ z.2.2.1.toInt = s1.toInt ∧ 0 ≤ z.2.2.2.2.2.2.2.2.2.2.1.toInt ∧ z.2.2.2.2.2.2.2.2.2.2.1.toInt ≤ 512 ∧ 0 ≤ z.2.2.2.2.2.2.2.2.2.2.2.2.2.2.1.toInt ∧ z.2.2.2.2.2.2.2.2.2.2.2.2.2.2.1.toInt ≤ 201
        refine ⟨?_, ?_, ?_, ?_, ?_, ?_⟩ <;> omega
      · have c22 := zz_nle c22
        refine zz_ok_ite (fun c34 => ?_) (fun c34 => ?_)
        · have c34 := Int32.le_iff_toInt_le.mp c34
          obtain ⟨y35, e36⟩ : ∃ y : Int32, y = x4 + (-1) := ⟨_, rfl⟩
          obtain ⟨k37, f38⟩ := zz_dec e36
          rw [← e36]
          clear e36
          have g39 := zz_rg y35
          refine (ih x1 x2 x3 y35 s0 s1 s2 s3 s4 s5 s6 s7 s8 s9 s10 s11 s12 t_3_0 t_3_1 t_3_2 t_3_3 (by omega) (by omega) (by omega) (by omega) (by omega) (by omega) (by omega) (by omega) (by omega) (by omega) (by omega) (by omega) (by omega) (by omega) (by omega) (by omega) (by omega) (by omega) (by omega) (by omega)).mono (fun z hz => ?_)
          have q40 : z.2.1.toInt = s0.toInt := hz.1
          have q41 : z.2.2.1.toInt = s1.toInt := hz.2.1
          have q42 : 0 ≤ z.2.2.2.2.2.2.2.2.2.2.1.toInt := hz.2.2.1
          have q43 : z.2.2.2.2.2.2.2.2.2.2.1.toInt ≤ 512 := hz.2.2.2.1
          have q44 : 0 ≤ z.2.2.2.2.2.2.2.2.2.2.2.2.2.2.1.toInt := hz.2.2.2.2.1
          have q45 : z.2.2.2.2.2.2.2.2.2.2.2.2.2.2.1.toInt ≤ 201 := hz.2.2.2.2.2
          show z.2.1.toInt = s0.toInt ∧ z.2.2.1.toInt = s1.toInt ∧ 0 ≤ z.2.2.2.2.2.2.2.2.2.2.1.toInt ∧ z.2.2.2.2.2.2.2.2.2.2.1.toInt ≤ 512 ∧ 0 ≤ z.2.2.2.2.2.2.2.2.2.2.2.2.2.2.1.toInt ∧ z.2.2.2.2.2.2.2.2.2.2.2.2.2.2.1.toInt ≤ 201
          refine ⟨?_, ?_, ?_, ?_, ?_, ?_⟩ <;> omega
        · have c34 := zz_nle c34
          obtain ⟨y46, e47⟩ : ∃ y : Int32, y = x4 + (-1) := ⟨_, rfl⟩
          obtain ⟨k48, f49⟩ := zz_dec e47
          rw [← e47]
          clear e47
          have g50 := zz_rg y46
          refine (ih x1 x4 r_4 y46 s0 s1 s2 s3 s4 s5 s6 s7 s8 s9 s10 s11 s12 t_3_0 t_3_1 t_3_2 t_3_3 (by omega) (by omega) (by omega) (by omega) (by omega) (by omega) (by omega) (by omega) (by omega) (by omega) (by omega) (by omega) (by omega) (by omega) (by omega) (by omega) (by omega) (by omega) (by omega) (by omega)).mono (fun z hz => ?_)
          have q51 : z.2.1.toInt = s0.toInt := hz.1
          have q52 : z.2.2.1.toInt = s1.toInt := hz.2.1
          have q53 : 0 ≤ z.2.2.2.2.2.2.2.2.2.2.1.toInt := hz.2.2.1
          have q54 : z.2.2.2.2.2.2.2.2.2.2.1.toInt ≤ 512 := hz.2.2.2.1
          have q55 : 0 ≤ z.2.2.2.2.2.2.2.2.2.2.2.2.2.2.1.toInt := hz.2.2.2.2.1
          have q56 : z.2.2.2.2.2.2.2.2.2.2.2.2.2.2.1.toInt ≤ 201 := hz.2.2.2.2.2
          show z.2.1.toInt = s0.toInt ∧ z.2.2.1.toInt = s1.toInt ∧ 0 ≤ z.2.2.2.2.2.2.2.2.2.2.1.toInt ∧ z.2.2.2.2.2.2.2.2.2.2.1.toInt ≤ 512 ∧ 0 ≤ z.2.2.2.2.2.2.2.2.2.2.2.2.2.2.1.toInt ∧ z.2.2.2.2.2.2.2.2.2.2.2.2.2.2.1.toInt ≤ 201
          refine ⟨?_, ?_, ?_, ?_, ?_, ?_⟩ <;> omega
set_option maxHeartbeats 4000000 in
theorem s_X4_firstOfLaterList (K : Nat) (hK : 1099511627776 ≤ K) (n0 : Nat) (n1 : Nat) (n2 : Nat) (n3 : Nat) (n4 : Nat) (n5 : Nat) (n6 : Nat) (n7 : Nat) (n8 : Nat) (p1 : Int32) (s0 : Int32) (s1 : Int32) (s2 : Int32) (s3 : Int32) (s4 : Nat → Int32) (s5 : Nat → Int32) (s6 : Nat → Int32) (s7 : Nat → Int32) (s8 : Nat → Int32) (s9 : Int32) (s10 : Int32) (s11 : Nat → Int32) (s12 : Nat → Int32) (s13 : Int32) (s14 : Int32) (s15 : Nat → Int32) (s16 : Nat → Int32) (a0 : n0 = 1024) (a1 : n1 = 200) (a2 : n2 = 200) (a3 : n3 = 200) (a4 : n4 = 200) (a5 : n5 = 512) (a6 : n6 = 512) (a7 : 0 ≤ s0.toInt) (a8 : s0.toInt ≤ 1024) (a9 : 0 ≤ s1.toInt) (a10 : s1.toInt ≤ 200) (a11 : 0 ≤ s9.toInt) (a12 : s9.toInt ≤ 512) (a13 : n7 = 201) (a14 : n8 = 201) (a15 : 0 ≤ s13.toInt) (a16 : s13.toInt ≤ 201) : zz_ok (m_X4_firstOfLaterList K n0 n1 n2 n3 n4 n5 n6 n7 n8 p1 s0 s1 s2 s3 s4 s5 s6 s7 s8 s9 s10 s11 s12 s13 s14 s15 s16) (fun z => z.2.1.toInt = s0.toInt ∧ z.2.2.1.toInt = s1.toInt ∧ 0 ≤ z.2.2.2.2.2.2.2.2.2.2.1.toInt ∧ z.2.2.2.2.2.2.2.2.2.2.1.toInt ≤ 512 ∧ 0 ≤ z.2.2.2.2.2.2.2.2.2.2.2.2.2.2.1.toInt ∧ z.2.2.2.2.2.2.2.2.2.2.2.2.2.2.1.toInt ≤ 201) := by
  have g1 := zz_rg p1
  have g2 := zz_rg s0
  have g3 := zz_rg s1
  have g4 := zz_rg s2
  have g5 := zz_rg s3
  have g6 := zz_rg s9
  have g7 := zz_rg s10
  have g8 := zz_rg s13
  have g9 := zz_rg s14
  unfold m_X4_firstOfLaterList
  refine zz_ok_bind (s_X10_size K hK n7 n8 s13 s14 s15 s16) ?_
  intro z10 hz10
  obtain ⟨r_1, t_1_0, t_1_1, t_1_2, t_1_3⟩ := z10
  have q11 : r_1.toInt = s13.toInt := hz10.1
  have q12 : t_1_0.toInt = s13.toInt := hz10.2
  have g13 := zz_rg r_1
  have g14 := zz_rg t_1_0
  have g15 := zz_rg t_1_1
  show zz_ok (m_X4_firstOfLaterList_L16 K n0 n1 n2 n3 n4 n5 n6 n7 n8 K p1 ((-1 : Int32)) ((44 : Int32)) (r_1 - ((1 : Int32))) s0 s1 s2 s3 s4 s5 s6 s7 s8 s9 s10 s11 s12 t_1_0 t_1_1 t_1_2 t_1_3) _
  have l16 : (-1 : Int32).toInt = -1 := rfl
  have l17 : (44 : Int32).toInt = 44 := rfl
  have l18 : (1 : Int32).toInt = 1 := rfl
  obtain ⟨k19, f20⟩ := zz_sub r_1 (1 : Int32)
  have g21 := zz_rg (r_1 - ((1 : Int32)))
  refine (s_X4_firstOfLaterList_L16 K hK n0 n1 n2 n3 n4 n5 n6 n7 n8 K p1 ((-1 : Int32)) ((44 : Int32)) (r_1 - ((1 : Int32))) s0 s1 s2 s3 s4 s5 s6 s7 s8 s9 s10 s11 s12 t_1_0 t_1_1 t_1_2 t_1_3 (by omega) (by omega) (by omega) (by omega) (by omega) (by omega) (by omega) (by omega) (by omega) (by omega) (by omega) (by omega) (by omega) (by omega) (by omega) (by omega) (by omega) (by omega) (by omega) (by omega)).mono (fun z hz => ?_)
  have q22 : z.2.1.toInt = s0.toInt := hz.1
  have q23 : z.2.2.1.toInt = s1.toInt := hz.2.1
  have q24 : 0 ≤ z.2.2.2.2.2.2.2.2.2.2.1.toInt := hz.2.2.1
  have q25 : z.2.2.2.2.2.2.2.2.2.2.1.toInt ≤ 512 := hz.2.2.2.1
  have q26 : 0 ≤ z.2.2.2.2.2.2.2.2.2.2.2.2.2.2.1.toInt := hz.2.2.2.2.1
  have q27 : z.2.2.2.2.2.2.2.2.2.2.2.2.2.2.1.toInt ≤ 201 := hz.2.2.2.2.2
  show z.2.1.toInt = s0.toInt ∧ z.2.2.1.toInt = s1.toInt ∧ 0 ≤ z.2.2.2.2.2.2.2.2.2.2.1.toInt ∧ z.2.2.2.2.2.2.2.2.2.2.1.toInt ≤ 512 ∧ 0 ≤ z.2.2.2.2.2.2.2.2.2.2.2.2.2.2.1.toInt ∧ z.2.2.2.2.2.2.2.2.2.2.2.2.2.2.1.toInt ≤ 201
  refine ⟨?_, ?_, ?_, ?_, ?_, ?_⟩ <;> omega
set_option maxHeartbeats 4000000 in
theorem s_X4_take (K : Nat) (hK : 1099511627776 ≤ K) (n0 : Nat) (n1 : Nat) (n2 : Nat) (n3 : Nat) (n4 : Nat) (n5 : Nat) (n6 : Nat) (n7 : Nat) (n8 : Nat) (p1 : Int32) (s0 : Int32) (s1 : Int32) (s2 : Int32) (s3 : Int32) (s4 : Nat → Int32) (s5 : Nat → Int32) (s6 : Nat → Int32) (s7 : Nat → Int32) (s8 : Nat → Int32) (s9 : Int32) (s10 : Int32) (s11 : Nat → Int32) (s12 : Nat → Int32) (s13 : Int32) (s14 : Int32) (s15 : Nat → Int32) (s16 : Nat → Int32) (a0 : n0 = 1024) (a1 : n1 = 200) (a2 : n2 = 200) (a3 : n3 = 200) (a4 : n4 = 200) (a5 : n5 = 512) (a6 : n6 = 512) (a7 : 0 ≤ s0.toInt) (a8 : s0.toInt ≤ 1024) (a9 : 0 ≤ s1.toInt) (a10 : s1.toInt ≤ 200) (a11 : 0 ≤ s9.toInt) (a12 : s9.toInt ≤ 512) (a13 : n7 = 201) (a14 : n8 = 201) (a15 : 0 ≤ s13.toInt) (a16 : s13.toInt ≤ 201) : zz_ok (m_X4_take K n0 n1 n2 n3 n4 n5 n6 n7 n8 p1 s0 s1 s2 s3 s4 s5 s6 s7 s8 s9 s10 s11 s12 s13 s14 s15 s16) (fun z => z.2.1.toInt = s0.toInt ∧ z.2.2.1.toInt = s1.toInt ∧ 0 ≤ z.2.2.2.2.2.2.2.2.2.2.1.toInt ∧ z.2.2.2.2.2.2.2.2.2.2.1.toInt ≤ 512 ∧ 0 ≤ z.2.2.2.2.2.2.2.2.2.2.2.2.2.2.1.toInt ∧ z.2.2.2.2.2.2.2.2.2.2.2.2.2.2.1.toInt ≤ 201) := by
  have g1 := zz_rg p1
  have g2 := zz_rg s0
  have g3 := zz_rg s1
  have g4 := zz_rg s2
  have g5 := zz_rg s3
  have g6 := zz_rg s9
  have g7 := zz_rg s10
  have g8 := zz_rg s13
  have g9 := zz_rg s14
  unfold m_X4_take
  refine zz_ok_bind (s_X4_findInListOf K hK n0 n1 n2 n3 n4 n5 n6 n7 n8 p1 s0 s1 s2 s3 s4 s5 s6 s7 s8 s9 s10 s11 s12 s13 s14 s15 s16 (by omega) (by omega) (by omega) (by omega) (by omega) (by omega) (by omega) (by omega) (by omega) (by omega) (by omega) (by omega) (by omega) (by omega) (by omega) (by omega) (by omega)) ?_
  intro z10 hz10
  obtain ⟨r_1, t_1_0, t_1_1, t_1_2, t_1_3, t_1_4, t_1_5, t_1_6, t_1_7, t_1_8, t_1_9, t_1_10, t_1_11, t_1_12, t_1_13, t_1_14, t_1_15, t_1_16⟩ := z10
  have q11 : t_1_0.toInt = s0.toInt := hz10.1
  have q12 : t_1_1.toInt = s1.toInt := hz10.2.1
  have q13 : 0 ≤ t_1_9.toInt := hz10.2.2.1
  have q14 : t_1_9.toInt ≤ 512 := hz10.2.2.2.1
  have q15 : 0 ≤ t_1_13.toInt := hz10.2.2.2.2.1
  have q16 : t_1_13.toInt ≤ 201 := hz10.2.2.2.2.2
  have g17 := zz_rg r_1
  have g18 := zz_rg t_1_0
  have g19 := zz_rg t_1_1
  have g20 := zz_rg t_1_2
  have g21 := zz_rg t_1_3
  have g22 := zz_rg t_1_9
  have g23 := zz_rg t_1_10
  have g24 := zz_rg t_1_13
  have g25 := zz_rg t_1_14
  show zz_ok (if r_1 = ((-1 : Int32)) then ((m_X4_listOf K p1).bind fun ⟨r_9, _⟩ => (m_X4_firstOfLaterList K n0 n1 n2 n3 n4 n5 n6 n7 n8 r_9 t_1_0 t_1_1 t_1_2 t_1_3 t_1_4 t_1_5 t_1_6 t_1_7 t_1_8 t_1_9 t_1_10 t_1_11 t_1_12 t_1_13 t_1_14 t_1_15 t_1_16).bind fun ⟨r_10, t_10_0, t_10_1, t_10_2, t_10_3, t_10_4, t_10_5, t_10_6, t_10_7, t_10_8, t_10_9, t_10_10, t_10_11, t_10_12, t_10_13, t_10_14, t_10_15, t_10_16⟩ => if r_10 = ((-1 : Int32)) then (some ((-1 : Int32), t_10_0, t_10_1, t_10_2, t_10_3, t_10_4, t_10_5, t_10_6, t_10_7, t_10_8, t_10_9, t_10_10, t_10_11, t_10_12, t_10_13, t_10_14, t_10_15, t_10_16)) else ((m_X10_placeOf K n7 n8 r_10 t_10_13 t_10_14 t_10_15 t_10_16).bind fun ⟨r_12, t_12_0, t_12_1, t_12_2, t_12_3⟩ => (m_X10_wordsOf K n7 n8 r_10 t_12_0 t_12_1 t_12_2 t_12_3).bind fun ⟨r_13, t_13_0, t_13_1, t_13_2, t_13_3⟩ => (m_X10_remove K n7 n8 r_10 t_13_0 t_13_1 t_13_2 t_13_3).bind fun ⟨t_14_0, t_14_1, t_14_2, t_14_3⟩ => if (r_13 - p1) ≤ 0 then (some (r_12, t_10_0, t_10_1, t_10_2, t_10_3, t_10_4, t_10_5, t_10_6, t_10_7, t_10_8, t_10_9, t_10_10, t_10_11, t_10_12, t_14_0, t_14_1, t_14_2, t_14_3)) else ((m_X10_add K n7 n8 (r_12 + p1) (r_13 - p1) t_14_0 t_14_1 t_14_2 t_14_3).bind fun ⟨t_16_0, t_16_1, t_16_2, t_16_3⟩ => some (r_12, t_10_0, t_10_1, t_10_2, t_10_3, t_10_4, t_10_5, t_10_6, t_10_7, t_10_8, t_10_9, t_10_10, t_10_11, t_10_12, t_16_0, t_16_1, t_16_2, t_16_3)))) else (if r_1 = ((-1 : Int32)) then (some ((-1 : Int32), t_1_0, t_1_1, t_1_2, t_1_3, t_1_4, t_1_5, t_1_6, t_1_7, t_1_8, t_1_9, t_1_10, t_1_11, t_1_12, t_1_13, t_1_14, t_1_15, t_1_16)) else ((m_X10_placeOf K n7 n8 r_1 t_1_13 t_1_14 t_1_15 t_1_16).bind fun ⟨r_4, t_4_0, t_4_1, t_4_2, t_4_3⟩ => (m_X10_wordsOf K n7 n8 r_1 t_4_0 t_4_1 t_4_2 t_4_3).bind fun ⟨r_5, t_5_0, t_5_1, t_5_2, t_5_3⟩ => (m_X10_remove K n7 n8 r_1 t_5_0 t_5_1 t_5_2 t_5_3).bind fun ⟨t_6_0, t_6_1, t_6_2, t_6_3⟩ => if (r_5 - p1) ≤ 0 then (some (r_4, t_1_0, t_1_1, t_1_2, t_1_3, t_1_4, t_1_5, t_1_6, t_1_7, t_1_8, t_1_9, t_1_10, t_1_11, t_1_12, t_6_0, t_6_1, t_6_2, t_6_3)) else ((m_X10_add K n7 n8 (r_4 + p1) (r_5 - p1) t_6_0 t_6_1 t_6_2 t_6_3).bind fun ⟨t_8_0, t_8_1, t_8_2, t_8_3⟩ => some (r_4, t_1_0, t_1_1, t_1_2, t_1_3, t_1_4, t_1_5, t_1_6, t_1_7, t_1_8, t_1_9, t_1_10, t_1_11, t_1_12, t_8_0, t_8_1, t_8_2, t_8_3))))) _
  have l27 : (-1 : Int32).toInt = -1 := rfl
  refine zz_ok_ite (fun c26 => ?_) (fun c26 => ?_)
  · have c26 := congrArg Int32.toInt c26
    refine zz_ok_bind (s_X4_listOf K hK p1) ?_
    intro z28 hz28
    obtain ⟨r_9, _⟩ := z28
    have g29 := zz_rg r_9
    show zz_ok ((m_X4_firstOfLaterList K n0 n1 n2 n3 n4 n5 n6 n7 n8 r_9 t_1_0 t_1_1 t_1_2 t_1_3 t_1_4 t_1_5 t_1_6 t_1_7 t_1_8 t_1_9 t_1_10 t_1_11 t_1_12 t_1_13 t_1_14 t_1_15 t_1_16).bind fun ⟨r_10, t_10_0, t_10_1, t_10_2, t_10_3, t_10_4, t_10_5, t_10_6, t_10_7, t_10_8, t_10_9, t_10_10, t_10_11, t_10_12, t_10_13, t_10_14, t_10_15, t_10_16⟩ => if r_10 = ((-1 : Int32)) then (some ((-1 : Int32), t_10_0, t_10_1, t_10_2, t_10_3, t_10_4, t_10_5, t_10_6, t_10_7, t_10_8, t_10_9, t_10_10, t_10_11, t_10_12, t_10_13, t_10_14, t_10_15, t_10_16)) else ((m_X10_placeOf K n7 n8 r_10 t_10_13 t_10_14 t_10_15 t_10_16).bind fun ⟨r_12, t_12_0, t_12_1, t_12_2, t_12_3⟩ => (m_X10_wordsOf K n7 n8 r_10 t_12_0 t_12_1 t_12_2 t_12_3).bind fun ⟨r_13, t_13_0, t_13_1, t_13_2, t_13_3⟩ => (m_X10_remove K n7 n8 r_10 t_13_0 t_13_1 t_13_2 t_13_3).bind fun ⟨t_14_0, t_14_1, t_14_2, t_14_3⟩ => if (r_13 - p1) ≤ 0 then (some (r_12, t_10_0, t_10_1, t_10_2, t_10_3, t_10_4, t_10_5, t_10_6, t_10_7, t_10_8, t_10_9, t_10_10, t_10_11, t_10_12, t_14_0, t_14_1, t_14_2, t_14_3)) else ((m_X10_add K n7 n8 (r_12 + p1) (r_13 - p1) t_14_0 t_14_1 t_14_2 t_14_3).bind fun ⟨t_16_0, t_16_1, t_16_2, t_16_3⟩ => some (r_12, t_10_0, t_10_1, t_10_2, t_10_3, t_10_4, t_10_5, t_10_6, t_10_7, t_10_8, t_10_9, t_10_10, t_10_11, t_10_12, t_16_0, t_16_1, t_16_2, t_16_3)))) _
    refine zz_ok_bind (s_X4_firstOfLaterList K hK n0 n1 n2 n3 n4 n5 n6 n7 n8 r_9 t_1_0 t_1_1 t_1_2 t_1_3 t_1_4 t_1_5 t_1_6 t_1_7 t_1_8 t_1_9 t_1_10 t_1_11 t_1_12 t_1_13 t_1_14 t_1_15 t_1_16 (by omega) (by omega) (by omega) (by omega) (by omega) (by omega) (by omega) (by omega) (by omega) (by omega) (by omega) (by omega) (by omega) (by omega) (by omega) (by omega) (by omega)) ?_
    intro z30 hz30
    obtain ⟨r_10, t_10_0, t_10_1, t_10_2, t_10_3, t_10_4, t_10_5, t_10_6, t_10_7, t_10_8, t_10_9, t_10_10, t_10_11, t_10_12, t_10_13, t_10_14, t_10_15, t_10_16⟩ := z30
    have q31 : t_10_0.toInt = t_1_0.toInt := hz30.1
    have q32 : t_10_1.toInt = t_1_1.toInt := hz30.2.1
    have q33 : 0 ≤ t_10_9.toInt := hz30.2.2.1
    have q34 : t_10_9.toInt ≤ 512 := hz30.2.2.2.1
    have q35 : 0 ≤ t_10_13.toInt := hz30.2.2.2.2.1
    have q36 : t_10_13.toInt ≤ 201 := hz30.2.2.2.2.2
    have g37 := zz_rg r_10
    have g38 := zz_rg t_10_0
    have g39 := zz_rg t_10_1
    have g40 := zz_rg t_10_2
    have g41 := zz_rg t_10_3
    have g42 := zz_rg t_10_9
    have g43 := zz_rg t_10_10
    have g44 := zz_rg t_10_13
    have g45 := zz_rg t_10_14
    show zz_ok (if r_10 = ((-1 : Int32)) then (some ((-1 : Int32), t_10_0, t_10_1, t_10_2, t_10_3, t_10_4, t_10_5, t_10_6, t_10_7, t_10_8, t_10_9, t_10_10, t_10_11, t_10_12, t_10_13, t_10_14, t_10_15, t_10_16)) else ((m_X10_placeOf K n7 n8 r_10 t_10_13 t_10_14 t_10_15 t_10_16).bind fun ⟨r_12, t_12_0, t_12_1, t_12_2, t_12_3⟩ => (m_X10_wordsOf K n7 n8 r_10 t_12_0 t_12_1 t_12_2 t_12_3).bind fun ⟨r_13, t_13_0, t_13_1, t_13_2, t_13_3⟩ => (m_X10_remove K n7 n8 r_10 t_13_0 t_13_1 t_13_2 t_13_3).bind fun ⟨t_14_0, t_14_1, t_14_2, t_14_3⟩ => if (r_13 - p1) ≤ 0 then (some (r_12, t_10_0, t_10_1, t_10_2, t_10_3, t_10_4, t_10_5, t_10_6, t_10_7, t_10_8, t_10_9, t_10_10, t_10_11, t_10_12, t_14_0, t_14_1, t_14_2, t_14_3)) else ((m_X10_add K n7 n8 (r_12 + p1) (r_13 - p1) t_14_0 t_14_1 t_14_2 t_14_3).bind fun ⟨t_16_0, t_16_1, t_16_2, t_16_3⟩ => some (r_12, t_10_0, t_10_1, t_10_2, t_10_3, t_10_4, t_10_5, t_10_6, t_10_7, t_10_8, t_10_9, t_10_10, t_10_11, t_10_12, t_16_0, t_16_1, t_16_2, t_16_3)))) _
    refine zz_ok_ite (fun c46 => ?_) (fun c46 => ?_)
    · have c46 := congrArg Int32.toInt c46
      refine zz_ok_some ?_
      show t_10_0.toInt = s0.toInt ∧ t_10_1.toInt = s1.toInt ∧ 0 ≤ t_10_9.toInt ∧ t_10_9.toInt ≤ 512 ∧ 0 ≤ t_10_13.toInt ∧ t_10_13.toInt ≤ 201
      refine ⟨?_, ?_, ?_, ?_, ?_, ?_⟩ <;> omega
    · have c46 := zz_neq c46
      refine zz_ok_bind (s_X10_placeOf K hK n7 n8 r_10 t_10_13 t_10_14 t_10_15 t_10_16 (by omega) (by omega) (by omega) (by omega)) ?_
      intro z47 hz47
      obtain ⟨r_12, t_12_0, t_12_1, t_12_2, t_12_3⟩ := z47
      have q48 : t_12_0.toInt = t_10_13.toInt := hz47
      have g49 := zz_rg r_12
      have g50 := zz_rg t_12_0
      have g51 := zz_rg t_12_1
      show zz_ok ((m_X10_wordsOf K n7 n8 r_10 t_12_0 t_12_1 t_12_2 t_12_3).bind fun ⟨r_13, t_13_0, t_13_1, t_13_2, t_13_3⟩ => (m_X10_remove K n7 n8 r_10 t_13_0 t_13_1 t_13_2 t_13_3).bind fun ⟨t_14_0, t_14_1, t_14_2, t_14_3⟩ => if (r_13 - p1) ≤ 0 then (some (r_12, t_10_0, t_10_1, t_10_2, t_10_3, t_10_4, t_10_5, t_10_6, t_10_7, t_10_8, t_10_9, t_10_10, t_10_11, t_10_12, t_14_0, t_14_1, t_14_2, t_14_3)) else ((m_X10_add K n7 n8 (r_12 + p1) (r_13 - p1) t_14_0 t_14_1 t_14_2 t_14_3).bind fun ⟨t_16_0, t_16_1, t_16_2, t_16_3⟩ => some (r_12, t_10_0, t_10_1, t_10_2, t_10_3, t_10_4, t_10_5, t_10_6, t_10_7, t_10_8, t_10_9, t_10_10, t_10_11, t_10_12, t_16_0, t_16_1, t_16_2, t_16_3))) _
      refine zz_ok_bind (s_X10_wordsOf K hK n7 n8 r_10 t_12_0 t_12_1 t_12_2 t_12_3 (by omega) (by omega) (by omega) (by omega)) ?_
      intro z52 hz52
      obtain ⟨r_13, t_13_0, t_13_1, t_13_2, t_13_3⟩ := z52
      have q53 : t_13_0.toInt = t_12_0.toInt := hz52
      have g54 := zz_rg r_13
      have g55 := zz_rg t_13_0
      have g56 := zz_rg t_13_1
      show zz_ok ((m_X10_remove K n7 n8 r_10 t_13_0 t_13_1 t_13_2 t_13_3).bind fun ⟨t_14_0, t_14_1, t_14_2, t_14_3⟩ => if (r_13 - p1) ≤ 0 then (some (r_12, t_10_0, t_10_1, t_10_2, t_10_3, t_10_4, t_10_5, t_10_6, t_10_7, t_10_8, t_10_9, t_10_10, t_10_11, t_10_12, t_14_0, t_14_1, t_14_2, t_14_3)) else ((m_X10_add K n7 n8 (r_12 + p1) (r_13 - p1) t_14_0 t_14_1 t_14_2 t_14_3).bind fun ⟨t_16_0, t_16_1, t_16_2, t_16_3⟩ => some (r_12, t_10_0, t_10_1, t_10_2, t_10_3, t_10_4, t_10_5, t_10_6, t_10_7, t_10_8, t_10_9, t_10_10, t_10_11, t_10_12, t_16_0, t_16_1, t_16_2, t_16_3))) _
      refine zz_ok_bind (s_X10_remove K hK n7 n8 r_10 t_13_0 t_13_1 t_13_2 t_13_3 (by omega) (by omega) (by omega) (by omega)) ?_
      intro z57 hz57
      obtain ⟨t_14_0, t_14_1, t_14_2, t_14_3⟩ := z57
      have q58 : 0 ≤ t_14_0.toInt := hz57.1
      have q59 : t_14_0.toInt ≤ t_13_0.toInt := hz57.2
      have g60 := zz_rg t_14_0
      have g61 := zz_rg t_14_1
      show zz_ok (if (r_13 - p1) ≤ 0 then (some (r_12, t_10_0, t_10_1, t_10_2, t_10_3, t_10_4, t_10_5, t_10_6, t_10_7, t_10_8, t_10_9, t_10_10, t_10_11, t_10_12, t_14_0, t_14_1, t_14_2, t_14_3)) else ((m_X10_add K n7 n8 (r_12 + p1) (r_13 - p1) t_14_0 t_14_1 t_14_2 t_14_3).bind fun ⟨t_16_0, t_16_1, t_16_2, t_16_3⟩ => some (r_12, t_10_0, t_10_1, t_10_2, t_10_3, t_10_4, t_10_5, t_10_6, t_10_7, t_10_8, t_10_9, t_10_10, t_10_11, t_10_12, t_16_0, t_16_1, t_16_2, t_16_3))) _
      obtain ⟨k63, f64⟩ := zz_sub r_13 p1
      have g65 := zz_rg (r_13 - p1)
      have l66 : (0 : Int32).toInt = 0 := rfl
      refine zz_ok_ite (fun c62 => ?_) (fun c62 => ?_)
      · have c62 := Int32.le_iff_toInt_le.mp c62
        refine zz_ok_some ?_
        show t_10_0.toInt = s0.toInt ∧ t_10_1.toInt = s1.toInt ∧ 0 ≤ t_10_9.toInt ∧ t_10_9.toInt ≤ 512 ∧ 0 ≤ t_14_0.toInt ∧ t_14_0.toInt ≤ 201
        refine ⟨?_, ?_, ?_, ?_, ?_, ?_⟩ <;> omega
      · have c62 := zz_nle c62
        obtain ⟨k67, f68⟩ := zz_add r_12 p1
        have g69 := zz_rg (r_12 + p1)
        refine zz_ok_bind (s_X10_add K hK n7 n8 (r_12 + p1) (r_13 - p1) t_14_0 t_14_1 t_14_2 t_14_3 (by omega) (by omega) (by omega) (by omega)) ?_
        intro z70 hz70
        obtain ⟨t_16_0, t_16_1, t_16_2, t_16_3⟩ := z70
        have q71 : 0 ≤ t_16_0.toInt := hz70.1
        have q72 : t_16_0.toInt ≤ (n7 : Int) := hz70.2
        have g73 := zz_rg t_16_0
        have g74 := zz_rg t_16_1
        show zz_ok (some (r_12, t_10_0, t_10_1, t_10_2, t_10_3, t_10_4, t_10_5, t_10_6, t_10_7, t_10_8, t_10_9, t_10_10, t_10_11, t_10_12, t_16_0, t_16_1, t_16_2, t_16_3)) _
        refine zz_ok_some ?_
        show t_10_0.toInt = s0.toInt ∧ t_10_1.toInt = s1.toInt ∧ 0 ≤ t_10_9.toInt ∧ t_10_9.toInt ≤ 512 ∧ 0 ≤ t_16_0.toInt ∧ t_16_0.toInt ≤ 201
        refine ⟨?_, ?_, ?_, ?_, ?_, ?_⟩ <;> omega
  · have c26 := zz_neq c26
    refine zz_ok_ite (fun c75 => ?_) (fun c75 => ?_)
    · have c75 := congrArg Int32.toInt c75
      refine zz_ok_some ?_
      show t_1_0.toInt = s0.toInt ∧ t_1_1.toInt = s1.toInt ∧ 0 ≤ t_1_9.toInt ∧ t_1_9.toInt ≤ 512 ∧ 0 ≤ t_1_13.toInt ∧ t_1_13.toInt ≤ 201
      refine ⟨?_, ?_, ?_, ?_, ?_, ?_⟩ <;> omega
    · have c75 := zz_neq c75
      refine zz_ok_bind (s_X10_placeOf K hK n7 n8 r_1 t_1_13 t_1_14 t_1_15 t_1_16 (by omega) (by omega) (by omega) (by omega)) ?_
      intro z76 hz76
      obtain ⟨r_4, t_4_0, t_4_1, t_4_2, t_4_3⟩ := z76
      have q77 : t_4_0.toInt = t_1_13.toInt := hz76
      have g78 := zz_rg r_4
      have g79 := zz_rg t_4_0
      have g80 := zz_rg t_4_1
      show zz_ok ((m_X10_wordsOf K n7 n8 r_1 t_4_0 t_4_1 t_4_2 t_4_3).bind fun ⟨r_5, t_5_0, t_5_1, t_5_2, t_5_3⟩ => (m_X10_remove K n7 n8 r_1 t_5_0 t_5_1 t_5_2 t_5_3).bind fun ⟨t_6_0, t_6_1, t_6_2, t_6_3⟩ => if (r_5 - p1) ≤ 0 then (some (r_4, t_1_0, t_1_1, t_1_2, t_1_3, t_1_4, t_1_5, t_1_6, t_1_7, t_1_8, t_1_9, t_1_10, t_1_11, t_1_12, t_6_0, t_6_1, t_6_2, t_6_3)) else ((m_X10_add K n7 n8 (r_4 + p1) (r_5 - p1) t_6_0 t_6_1 t_6_2 t_6_3).bind fun ⟨t_8_0, t_8_1, t_8_2, t_8_3⟩ => some (r_4, t_1_0, t_1_1, t_1_2, t_1_3, t_1_4, t_1_5, t_1_6, t_1_7, t_1_8, t_1_9, t_1_10, t_1_11, t_1_12, t_8_0, t_8_1, t_8_2, t_8_3))) _
      refine zz_ok_bind (s_X10_wordsOf K hK n7 n8 r_1 t_4_0 t_4_1 t_4_2 t_4_3 (by omega) (by omega) (by omega) (by omega)) ?_
      intro z81 hz81
      obtain ⟨r_5, t_5_0, t_5_1, t_5_2, t_5_3⟩ := z81
      have q82 : t_5_0.toInt = t_4_0.toInt := hz81
      have g83 := zz_rg r_5
      have g84 := zz_rg t_5_0
      have g85 := zz_rg t_5_1
      show zz_ok ((m_X10_remove K n7 n8 r_1 t_5_0 t_5_1 t_5_2 t_5_3).bind fun ⟨t_6_0, t_6_1, t_6_2, t_6_3⟩ => if (r_5 - p1) ≤ 0 then (some (r_4, t_1_0, t_1_1, t_1_2, t_1_3, t_1_4, t_1_5, t_1_6, t_1_7, t_1_8, t_1_9, t_1_10, t_1_11, t_1_12, t_6_0, t_6_1, t_6_2, t_6_3)) else ((m_X10_add K n7 n8 (r_4 + p1) (r_5 - p1) t_6_0 t_6_1 t_6_2 t_6_3).bind fun ⟨t_8_0, t_8_1, t_8_2, t_8_3⟩ => some (r_4, t_1_0, t_1_1, t_1_2, t_1_3, t_1_4, t_1_5, t_1_6, t_1_7, t_1_8, t_1_9, t_1_10, t_1_11, t_1_12, t_8_0, t_8_1, t_8_2, t_8_3))) _
      refine zz_ok_bind (s_X10_remove K hK n7 n8 r_1 t_5_0 t_5_1 t_5_2 t_5_3 (by omega) (by omega) (by omega) (by omega)) ?_
      intro z86 hz86
      obtain ⟨t_6_0, t_6_1, t_6_2, t_6_3⟩ := z86
      have q87 : 0 ≤ t_6_0.toInt := hz86.1
      have q88 : t_6_0.toInt ≤ t_5_0.toInt := hz86.2
      have g89 := zz_rg t_6_0
      have g90 := zz_rg t_6_1
      show zz_ok (if (r_5 - p1) ≤ 0 then (some (r_4, t_1_0, t_1_1, t_1_2, t_1_3, t_1_4, t_1_5, t_1_6, t_1_7, t_1_8, t_1_9, t_1_10, t_1_11, t_1_12, t_6_0, t_6_1, t_6_2, t_6_3)) else ((m_X10_add K n7 n8 (r_4 + p1) (r_5 - p1) t_6_0 t_6_1 t_6_2 t_6_3).bind fun ⟨t_8_0, t_8_1, t_8_2, t_8_3⟩ => some (r_4, t_1_0, t_1_1, t_1_2, t_1_3, t_1_4, t_1_5, t_1_6, t_1_7, t_1_8, t_1_9, t_1_10, t_1_11, t_1_12, t_8_0, t_8_1, t_8_2, t_8_3))) _
      obtain ⟨k92, f93⟩ := zz_sub r_5 p1
      have g94 := zz_rg (r_5 - p1)
      have l95 : (0 : Int32).toInt = 0 := rfl
      refine zz_ok_ite (fun c91 => ?_) (fun c91 => ?_)
      · have c91 := Int32.le_iff_toInt_le.mp c91
        refine zz_ok_some ?_
        show t_1_0.toInt = s0.toInt ∧ t_1_1.toInt = s1.toInt ∧ 0 ≤ t_1_9.toInt ∧ t_1_9.toInt ≤ 512 ∧ 0 ≤ t_6_0.toInt ∧ t_6_0.toInt ≤ 201
        refine ⟨?_, ?_, ?_, ?_, ?_, ?_⟩ <;> omega
      · have c91 := zz_nle c91
        obtain ⟨k96, f97⟩ := zz_add r_4 p1
        have g98 := zz_rg (r_4 + p1)
        refine zz_ok_bind (s_X10_add K hK n7 n8 (r_4 + p1) (r_5 - p1) t_6_0 t_6_1 t_6_2 t_6_3 (by omega) (by omega) (by omega) (by omega)) ?_
        intro z99 hz99
        obtain ⟨t_8_0, t_8_1, t_8_2, t_8_3⟩ := z99
        have q100 : 0 ≤ t_8_0.toInt := hz99.1
        have q101 : t_8_0.toInt ≤ (n7 : Int) := hz99.2
        have g102 := zz_rg t_8_0
        have g103 := zz_rg t_8_1
        show zz_ok (some (r_4, t_1_0, t_1_1, t_1_2, t_1_3, t_1_4, t_1_5, t_1_6, t_1_7, t_1_8, t_1_9, t_1_10, t_1_11, t_1_12, t_8_0, t_8_1, t_8_2, t_8_3)) _
        refine zz_ok_some ?_
        show t_1_0.toInt = s0.toInt ∧ t_1_1.toInt = s1.toInt ∧ 0 ≤ t_1_9.toInt ∧ t_1_9.toInt ≤ 512 ∧ 0 ≤ t_8_0.toInt ∧ t_8_0.toInt ≤ 201
        refine ⟨?_, ?_, ?_, ?_, ?_, ?_⟩ <;> omega
set_option maxHeartbeats 4000000 in
theorem s_X4_takeBack_L18 (K : Nat) (hK : 1099511627776 ≤ K) (n0 : Nat) (n1 : Nat) (n2 : Nat) (n3 : Nat) (n4 : Nat) (n5 : Nat) (n6 : Nat) (n7 : Nat) (n8 : Nat) : ∀ (k : Nat) (x1 : Int32) (x2 : Int32) (x3 : Int32) (x4 : Int32) (x5 : Int32) (s0 : Int32) (s1 : Int32) (s2 : Int32) (s3 : Int32) (s4 : Nat → Int32) (s5 : Nat → Int32) (s6 : Nat → Int32) (s7 : Nat → Int32) (s8 : Nat → Int32) (s9 : Int32) (s10 : Int32) (s11 : Nat → Int32) (s12 : Nat → Int32) (s13 : Int32) (s14 : Int32) (s15 : Nat → Int32) (s16 : Nat → Int32), n0 = 1024 → n1 = 200 → n2 = 200 → n3 = 200 → n4 = 200 → n5 = 512 → n6 = 512 → 0 ≤ s0.toInt → s0.toInt ≤ 1024 → 0 ≤ s1.toInt → s1.toInt ≤ 200 → 0 ≤ s9.toInt → s9.toInt ≤ 512 → n7 = 201 → n8 = 201 → 0 ≤ s13.toInt → s13.toInt ≤ 201 → -1 ≤ x5.toInt → x5.toInt ≤ 201 → x5.toInt + 1 < (k : Int) → zz_ok (m_X4_takeBack_L18 K n0 n1 n2 n3 n4 n5 n6 n7 n8 k x1 x2 x3 x4 x5 s0 s1 s2 s3 s4 s5 s6 s7 s8 s9 s10 s11 s12 s13 s14 s15 s16) (fun z => z.1.toInt = s0.toInt ∧ z.2.1.toInt = s1.toInt ∧ 0 ≤ z.2.2.2.2.2.2.2.2.2.1.toInt ∧ z.2.2.2.2.2.2.2.2.2.1.toInt ≤ 512 ∧ 0 ≤ z.2.2.2.2.2.2.2.2.2.2.2.2.2.1.toInt ∧ z.2.2.2.2.2.2.2.2.2.2.2.2.2.1.toInt ≤ 201) := by
  intro k
  induction k with
  | zero =>
    intro x1 x2 x3 x4 x5 s0 s1 s2 s3 s4 s5 s6 s7 s8 s9 s10 s11 s12 s13 s14 s15 s16 a0 a1 a2 a3 a4 a5 a6 a7 a8 a9 a10 a11 a12 a13 a14 a15 a16 a17 a18 hz9
    exfalso
    have g_x1 := zz_rg x1
    have g_x2 := zz_rg x2
    have g_x3 := zz_rg x3
    have g_x4 := zz_rg x4
    have g_x5 := zz_rg x5
    have g_s0 := zz_rg s0
    have g_s1 := zz_rg s1
    have g_s2 := zz_rg s2
    have g_s3 := zz_rg s3
    have g_s9 := zz_rg s9
    have g_s10 := zz_rg s10
    have g_s13 := zz_rg s13
    have g_s14 := zz_rg s14
    omega
  | succ k ih =>
    intro x1 x2 x3 x4 x5 s0 s1 s2 s3 s4 s5 s6 s7 s8 s9 s10 s11 s12 s13 s14 s15 s16 a0 a1 a2 a3 a4 a5 a6 a7 a8 a9 a10 a11 a12 a13 a14 a15 a16 a17 a18 hz9
    rw [m_X4_takeBack_L18_s]
    have g1 := zz_rg x1
    have g2 := zz_rg x2
    have g3 := zz_rg x3
    have g4 := zz_rg x4
    have g5 := zz_rg x5
    have g6 := zz_rg s0
    have g7 := zz_rg s1
    have g8 := zz_rg s2
    have g9 := zz_rg s3
    have g10 := zz_rg s9
    have g11 := zz_rg s10
    have g12 := zz_rg s13
    have g13 := zz_rg s14
    have l15 : (0 : Int32).toInt = 0 := rfl
    refine zz_ok_ite (fun c14 => ?_) (fun c14 => ?_)
    · have c14 := Int32.lt_iff_toInt_lt.mp c14
      obtain ⟨k16, f17⟩ := zz_sub x4 x3
      have g18 := zz_rg (x4 - x3)
      refine zz_ok_bind (s_X10_add K hK n7 n8 x3 (x4 - x3) s13 s14 s15 s16 (by omega) (by omega) (by omega) (by omega)) ?_
      intro z19 hz19
      obtain ⟨t_3_0, t_3_1, t_3_2, t_3_3⟩ := z19
      have q20 : 0 ≤ t_3_0.toInt := hz19.1
      have q21 : t_3_0.toInt ≤ (n7 : Int) := hz19.2
      have g22 := zz_rg t_3_0
      have g23 := zz_rg t_3_1
      show zz_ok (some (s0, s1, s2, s3, s4, s5, s6, s7, s8, s9, s10, s11, s12, t_3_0, t_3_1, t_3_2, t_3_3)) _
      refine zz_ok_some ?_
      show s0.toInt = s0.toInt ∧ s1.toInt = s1.toInt ∧ 0 ≤ s9.toInt ∧ s9.toInt ≤ 512 ∧ 0 ≤ t_3_0.toInt ∧ t_3_0.toInt ≤ 201
      refine ⟨?_, ?_, ?_, ?_, ?_, ?_⟩ <;> omega
    · have c14 := zz_nlt c14
      refine zz_ok_bind (s_X10_endOf K hK n7 n8 x5 s13 s14 s15 s16 (by omega) (by omega) (by omega) (by omega)) ?_
      intro z24 hz24
      obtain ⟨r_4, t_4_0, t_4_1, t_4_2, t_4_3⟩ := z24
      have q25 : t_4_0.toInt = s13.toInt := hz24
      have g26 := zz_rg r_4
      have g27 := zz_rg t_4_0
      have g28 := zz_rg t_4_1
      show zz_ok (if r_4 = x1 then ((m_X10_placeOf K n7 n8 x5 t_4_0 t_4_1 t_4_2 t_4_3).bind fun ⟨r_10, t_10_0, t_10_1, t_10_2, t_10_3⟩ => (m_X10_remove K n7 n8 x5 t_10_0 t_10_1 t_10_2 t_10_3).bind fun ⟨t_11_0, t_11_1, t_11_2, t_11_3⟩ => m_X4_takeBack_L18 K n0 n1 n2 n3 n4 n5 n6 n7 n8 k x1 x2 r_10 x4 (x5 + (-1)) s0 s1 s2 s3 s4 s5 s6 s7 s8 s9 s10 s11 s12 t_11_0 t_11_1 t_11_2 t_11_3) else ((m_X10_placeOf K n7 n8 x5 t_4_0 t_4_1 t_4_2 t_4_3).bind fun ⟨r_6, t_6_0, t_6_1, t_6_2, t_6_3⟩ => if r_6 = (x1 + x2) then ((m_X10_endOf K n7 n8 x5 t_6_0 t_6_1 t_6_2 t_6_3).bind fun ⟨r_8, t_8_0, t_8_1, t_8_2, t_8_3⟩ => (m_X10_remove K n7 n8 x5 t_8_0 t_8_1 t_8_2 t_8_3).bind fun ⟨t_9_0, t_9_1, t_9_2, t_9_3⟩ => m_X4_takeBack_L18 K n0 n1 n2 n3 n4 n5 n6 n7 n8 k x1 x2 x3 r_8 (x5 + (-1)) s0 s1 s2 s3 s4 s5 s6 s7 s8 s9 s10 s11 s12 t_9_0 t_9_1 t_9_2 t_9_3) else (m_X4_takeBack_L18 K n0 n1 n2 n3 n4 n5 n6 n7 n8 k x1 x2 x3 x4 (x5 + (-1)) s0 s1 s2 s3 s4 s5 s6 s7 s8 s9 s10 s11 s12 t_6_0 t_6_1 t_6_2 t_6_3))) _
      refine zz_ok_ite (fun c29 => ?_) (fun c29 => ?_)
      · have c29 := congrArg Int32.toInt c29
        refine zz_ok_bind (s_X10_placeOf K hK n7 n8 x5 t_4_0 t_4_1 t_4_2 t_4_3 (by omega) (by omega) (by omega) (by omega)) ?_
        intro z30 hz30
        obtain ⟨r_10, t_10_0, t_10_1, t_10_2, t_10_3⟩ := z30
        have q31 : t_10_0.toInt = t_4_0.toInt := hz30
        have g32 := zz_rg r_10
        have g33 := zz_rg t_10_0
        have g34 := zz_rg t_10_1
        show zz_ok ((m_X10_remove K n7 n8 x5 t_10_0 t_10_1 t_10_2 t_10_3).bind fun ⟨t_11_0, t_11_1, t_11_2, t_11_3⟩ => m_X4_takeBack_L18 K n0 n1 n2 n3 n4 n5 n6 n7 n8 k x1 x2 r_10 x4 (x5 + (-1)) s0 s1 s2 s3 s4 s5 s6 s7 s8 s9 s10 s11 s12 t_11_0 t_11_1 t_11_2 t_11_3) _
        refine zz_ok_bind (s_X10_remove K hK n7 n8 x5 t_10_0 t_10_1 t_10_2 t_10_3 (by omega) (by omega) (by omega) (by omega)) ?_
        intro z35 hz35
        obtain ⟨t_11_0, t_11_1, t_11_2, t_11_3⟩ := z35
        have q36 : 0 ≤ t_11_0.toInt := hz35.1
        have q37 : t_11_0.toInt ≤ t_10_0.toInt := hz35.2
        have g38 := zz_rg t_11_0
        have g39 := zz_rg t_11_1
        show zz_ok (m_X4_takeBack_L18 K n0 n1 n2 n3 n4 n5 n6 n7 n8 k x1 x2 r_10 x4 (x5 + (-1)) s0 s1 s2 s3 s4 s5 s6 s7 s8 s9 s10 s11 s12 t_11_0 t_11_1 t_11_2 t_11_3) _
        obtain ⟨y40, e41⟩ : ∃ y : Int32, y = x5 + (-1) := ⟨_, rfl⟩
        obtain ⟨k42, f43⟩ := zz_dec e41
        rw [← e41]
        clear e41
        have g44 := zz_rg y40
        refine (ih x1 x2 r_10 x4 y40 s0 s1 s2 s3 s4 s5 s6 s7 s8 s9 s10 s11 s12 t_11_0 t_11_1 t_11_2 t_11_3 (by omega) (by omega) (by omega) (by omega) (by omega) (by omega) (by omega) (by omega) (by omega) (by omega) (by omega) (by omega) (by omega) (by omega) (by omega) (by omega) (by omega) (by omega) (by omega) (by omega)).mono (fun z hz => ?_)
        have q45 : z.1.toInt = s0.toInt := hz.1
        have q46 : z.2.1.toInt = s1.toInt := hz.2.1
        have q47 : 0 ≤ z.2.2.2.2.2.2.2.2.2.1.toInt := hz.2.2.1
        have q48 : z.2.2.2.2.2.2.2.2.2.1.toInt ≤ 512 := hz.2.2.2.1
        have q49 : 0 ≤ z.2.2.2.2.2.2.2.2.2.2.2.2.2.1.toInt := hz.2.2.2.2.1
        have q50 : z.2.2.2.2.2.2.2.2.2.2.2.2.2.1.toInt ≤ 201 := hz.2.2.2.2.2
        show z.1.toInt = s0.toInt ∧ z.2.1.toInt = s1.toInt ∧ 0 ≤ z.2.2.2.2.2.2.2.2.2.1.toInt ∧ z.2.2.2.2.2.2.2.2.2.1.toInt ≤ 512 ∧ 0 ≤ z.2.2.2.2.2.2.2.2.2.2.2.2.2.1.toInt ∧ z.2.2.2.2.2.2.2.2.2.2.2.2.2.1.toInt ≤ 201
        refine ⟨?_, ?_, ?_, ?_, ?_, ?_⟩ <;> omega
      · have c29 := zz_neq c29
        refine zz_ok_bind (s_X10_placeOf K hK n7 n8 x5 t_4_0 t_4_1 t_4_2 t_4_3 (by omega) (by omega) (by omega) (by omega)) ?_
        intro z51 hz51
        obtain ⟨r_6, t_6_0, t_6_1, t_6_2, t_6_3⟩ := z51
        have q52 : t_6_0.toInt = t_4_0.toInt := hz51
        have g53 := zz_rg r_6
        have g54 := zz_rg t_6_0
        have g55 := zz_rg t_6_1
        show zz_ok (if r_6 = (x1 + x2) then ((m_X10_endOf K n7 n8 x5 t_6_0 t_6_1 t_6_2 t_6_3).bind fun ⟨r_8, t_8_0, t_8_1, t_8_2, t_8_3⟩ => (m_X10_remove K n7 n8 x5 t_8_0 t_8_1 t_8_2 t_8_3).bind fun ⟨t_9_0, t_9_1, t_9_2, t_9_3⟩ => m_X4_takeBack_L18 K n0 n1 n2 n3 n4 n5 n6 n7 n8 k x1 x2 x3 r_8 (x5 + (-1)) s0 s1 s2 s3 s4 s5 s6 s7 s8 s9 s10 s11 s12 t_9_0 t_9_1 t_9_2 t_9_3) else (m_X4_takeBack_L18 K n0 n1 n2 n3 n4 n5 n6 n7 n8 k x1 x2 x3 x4 (x5 + (-1)) s0 s1 s2 s3 s4 s5 s6 s7 s8 s9 s10 s11 s12 t_6_0 t_6_1 t_6_2 t_6_3)) _
        obtain ⟨k57, f58⟩ := zz_add x1 x2
        have g59 := zz_rg (x1 + x2)
        refine zz_ok_ite (fun c56 => ?_) (fun c56 => ?_)
        · have c56 := congrArg Int32.toInt c56
          refine zz_ok_bind (s_X10_endOf K hK n7 n8 x5 t_6_0 t_6_1 t_6_2 t_6_3 (by omega) (by omega) (by omega) (by omega)) ?_
          intro z60 hz60
          obtain ⟨r_8, t_8_0, t_8_1, t_8_2, t_8_3⟩ := z60
          have q61 : t_8_0.toInt = t_6_0.toInt := hz60
          have g62 := zz_rg r_8
          have g63 := zz_rg t_8_0
          have g64 := zz_rg t_8_1
          show zz_ok ((m_X10_remove K n7 n8 x5 t_8_0 t_8_1 t_8_2 t_8_3).bind fun ⟨t_9_0, t_9_1, t_9_2, t_9_3⟩ => m_X4_takeBack_L18 K n0 n1 n2 n3 n4 n5 n6 n7 n8 k x1 x2 x3 r_8 (x5 + (-1)) s0 s1 s2 s3 s4 s5 s6 s7 s8 s9 s10 s11 s12 t_9_0 t_9_1 t_9_2 t_9_3) _
          refine zz_ok_bind (s_X10_remove K hK n7 n8 x5 t_8_0 t_8_1 t_8_2 t_8_3 (by omega) (by omega) (by omega) (by omega)) ?_
          intro z65 hz65
          obtain ⟨t_9_0, t_9_1, t_9_2, t_9_3⟩ := z65
          have q66 : 0 ≤ t_9_0.toInt := hz65.1
          have q67 : t_9_0.toInt ≤ t_8_0.toInt := hz65.2
          have g68 := zz_rg t_9_0
          have g69 := zz_rg t_9_1
          show zz_ok (m_X4_takeBack_L18 K n0 n1 n2 n3 n4 n5 n6 n7 n8 k x1 x2 x3 r_8 (x5 + (-1)) s0 s1 s2 s3 s4 s5 s6 s7 s8 s9 s10 s11 s12 t_9_0 t_9_1 t_9_2 t_9_3) _
          obtain ⟨y70, e71⟩ : ∃ y : Int32, y = x5 + (-1) := ⟨_, rfl⟩
          obtain ⟨k72, f73⟩ := zz_dec e71
          rw [← e71]
          clear e71
          have g74 := zz_rg y70
          refine (ih x1 x2 x3 r_8 y70 s0 s1 s2 s3 s4 s5 s6 s7 s8 s9 s10 s11 s12 t_9_0 t_9_1 t_9_2 t_9_3 (by omega) (by omega) (by omega) (by omega) (by omega) (by omega) (by omega) (by omega) (by omega) (by omega) (by omega) (by omega) (by omega) (by omega) (by omega) (by omega) (by omega) (by omega) (by omega) (by omega)).mono (fun z hz => ?_)
          have q75 : z.1.toInt = s0.toInt := hz.1
          have q76 : z.2.1.toInt = s1.toInt := hz.2.1
          have q77 : 0 ≤ z.2.2.2.2.2.2.2.2.2.1.toInt := hz.2.2.1
          have q78 : z.2.2.2.2.2.2.2.2.2.1.toInt ≤ 512 := hz.2.2.2.1
          have q79 : 0 ≤ z.2.2.2.2.2.2.2.2.2.2.2.2.2.1.toInt := hz.2.2.2.2.1
          have q80 : z.2.2.2.2.2.2.2.2.2.2.2.2.2.1.toInt ≤ 201 := hz.2.2.2.2.2
          show z.1.toInt = s0.toInt ∧ z.2.1.toInt = s1.toInt ∧ 0 ≤ z.2.2.2.2.2.2.2.2.2.1.toInt ∧ z.2.2.2.2.2.2.2.2.2.1.toInt ≤ 512 ∧ 0 ≤ z.2.2.2.2.2.2.2.2.2.2.2.2.2.1.toInt ∧ z.2.2.2.2.2.2.2.2.2.2.2.2.2.1.toInt ≤ 201
          refine ⟨?_, ?_, ?_, ?_, ?_, ?_⟩ <;> omega
        · have c56 := zz_neq c56
          obtain ⟨y81, e82⟩ : ∃ y : Int32, y = x5 + (-1) := ⟨_, rfl⟩
          obtain ⟨k83, f84⟩ := zz_dec e82
          rw [← e82]
          clear e82
          have g85 := zz_rg y81
          refine (ih x1 x2 x3 x4 y81 s0 s1 s2 s3 s4 s5 s6 s7 s8 s9 s10 s11 s12 t_6_0 t_6_1 t_6_2 t_6_3 (by omega) (by omega) (by omega) (by omega) (by omega) (by omega) (by omega) (by omega) (by omega) (by omega) (by omega) (by omega) (by omega) (by omega) (by omega) (by omega) (by omega) (by omega) (by omega) (by omega)).mono (fun z hz => ?_)
          have q86 : z.1.toInt = s0.toInt := hz.1
          have q87 : z.2.1.toInt = s1.toInt := hz.2.1
          have q88 : 0 ≤ z.2.2.2.2.2.2.2.2.2.1.toInt := hz.2.2.1
          have q89 : z.2.2.2.2.2.2.2.2.2.1.toInt ≤ 512 := hz.2.2.2.1
          have q90 : 0 ≤ z.2.2.2.2.2.2.2.2.2.2.2.2.2.1.toInt := hz.2.2.2.2.1
          have q91 : z.2.2.2.2.2.2.2.2.2.2.2.2.2.1.toInt ≤ 201 := hz.2.2.2.2.2
          show z.1.toInt = s0.toInt ∧ z.2.1.toInt = s1.toInt ∧ 0 ≤ z.2.2.2.2.2.2.2.2.2.1.toInt ∧ z.2.2.2.2.2.2.2.2.2.1.toInt ≤ 512 ∧ 0 ≤ z.2.2.2.2.2.2.2.2.2.2.2.2.2.1.toInt ∧ z.2.2.2.2.2.2.2.2.2.2.2.2.2.1.toInt ≤ 201
          refine ⟨?_, ?_, ?_, ?_, ?_, ?_⟩ <;> omega
set_option maxHeartbeats 4000000 in
theorem s_X4_takeBack (K : Nat) (hK : 1099511627776 ≤ K) (n0 : Nat) (n1 : Nat) (n2 : Nat) (n3 : Nat) (n4 : Nat) (n5 : Nat) (n6 : Nat) (n7 : Nat) (n8 : Nat) (p1 : Int32) (p2 : Int32) (s0 : Int32) (s1 : Int32) (s2 : Int32) (s3 : Int32) (s4 : Nat → Int32) (s5 : Nat → Int32) (s6 : Nat → Int32) (s7 : Nat → Int32) (s8 : Nat → Int32) (s9 : Int32) (s10 : Int32) (s11 : Nat → Int32) (s12 : Nat → Int32) (s13 : Int32) (s14 : Int32) (s15 : Nat → Int32) (s16 : Nat → Int32) (a0 : n0 = 1024) (a1 : n1 = 200) (a2 : n2 = 200) (a3 : n3 = 200) (a4 : n4 = 200) (a5 : n5 = 512) (a6 : n6 = 512) (a7 : 0 ≤ s0.toInt) (a8 : s0.toInt ≤ 1024) (a9 : 0 ≤ s1.toInt) (a10 : s1.toInt ≤ 200) (a11 : 0 ≤ s9.toInt) (a12 : s9.toInt ≤ 512) (a13 : n7 = 201) (a14 : n8 = 201) (a15 : 0 ≤ s13.toInt) (a16 : s13.toInt ≤ 201) : zz_ok (m_X4_takeBack K n0 n1 n2 n3 n4 n5 n6 n7 n8 p1 p2 s0 s1 s2 s3 s4 s5 s6 s7 s8 s9 s10 s11 s12 s13 s14 s15 s16) (fun z => z.1.toInt = s0.toInt ∧ z.2.1.toInt = s1.toInt ∧ 0 ≤ z.2.2.2.2.2.2.2.2.2.1.toInt ∧ z.2.2.2.2.2.2.2.2.2.1.toInt ≤ 512 ∧ 0 ≤ z.2.2.2.2.2.2.2.2.2.2.2.2.2.1.toInt ∧ z.2.2.2.2.2.2.2.2.2.2.2.2.2.1.toInt ≤ 201) := by
  have g1 := zz_rg p1
  have g2 := zz_rg p2
  have g3 := zz_rg s0
  have g4 := zz_rg s1
  have g5 := zz_rg s2
  have g6 := zz_rg s3
  have g7 := zz_rg s9
  have g8 := zz_rg s10
  have g9 := zz_rg s13
  have g10 := zz_rg s14
  unfold m_X4_takeBack
  refine zz_ok_bind (s_X10_size K hK n7 n8 s13 s14 s15 s16) ?_
  intro z11 hz11
  obtain ⟨r_1, t_1_0, t_1_1, t_1_2, t_1_3⟩ := z11
  have q12 : r_1.toInt = s13.toInt := hz11.1
  have q13 : t_1_0.toInt = s13.toInt := hz11.2
  have g14 := zz_rg r_1
  have g15 := zz_rg t_1_0
  have g16 := zz_rg t_1_1
  show zz_ok (m_X4_takeBack_L18 K n0 n1 n2 n3 n4 n5 n6 n7 n8 K p1 p2 p1 (p1 + p2) (r_1 - ((1 : Int32))) s0 s1 s2 s3 s4 s5 s6 s7 s8 s9 s10 s11 s12 t_1_0 t_1_1 t_1_2 t_1_3) _
  obtain ⟨k17, f18⟩ := zz_add p1 p2
  have g19 := zz_rg (p1 + p2)
  have l20 : (1 : Int32).toInt = 1 := rfl
  obtain ⟨k21, f22⟩ := zz_sub r_1 (1 : Int32)
  have g23 := zz_rg (r_1 - ((1 : Int32)))
  refine (s_X4_takeBack_L18 K hK n0 n1 n2 n3 n4 n5 n6 n7 n8 K p1 p2 p1 (p1 + p2) (r_1 - ((1 : Int32))) s0 s1 s2 s3 s4 s5 s6 s7 s8 s9 s10 s11 s12 t_1_0 t_1_1 t_1_2 t_1_3 (by omega) (by omega) (by omega) (by omega) (by omega) (by omega) (by omega) (by omega) (by omega) (by omega) (by omega) (by omega) (by omega) (by omega) (by omega) (by omega) (by omega) (by omega) (by omega) (by omega)).mono (fun z hz => ?_)
  have q24 : z.1.toInt = s0.toInt := hz.1
  have q25 : z.2.1.toInt = s1.toInt := hz.2.1
  have q26 : 0 ≤ z.2.2.2.2.2.2.2.2.2.1.toInt := hz.2.2.1
  have q27 : z.2.2.2.2.2.2.2.2.2.1.toInt ≤ 512 := hz.2.2.2.1
  have q28 : 0 ≤ z.2.2.2.2.2.2.2.2.2.2.2.2.2.1.toInt := hz.2.2.2.2.1
  have q29 : z.2.2.2.2.2.2.2.2.2.2.2.2.2.1.toInt ≤ 201 := hz.2.2.2.2.2
  show z.1.toInt = s0.toInt ∧ z.2.1.toInt = s1.toInt ∧ 0 ≤ z.2.2.2.2.2.2.2.2.2.1.toInt ∧ z.2.2.2.2.2.2.2.2.2.1.toInt ≤ 512 ∧ 0 ≤ z.2.2.2.2.2.2.2.2.2.2.2.2.2.1.toInt ∧ z.2.2.2.2.2.2.2.2.2.2.2.2.2.1.toInt ≤ 201
  refine ⟨?_, ?_, ?_, ?_, ?_, ?_⟩ <;> omega
set_option maxHeartbeats 4000000 in
theorem s_X4_placeInList_L13 (K : Nat) (hK : 1099511627776 ≤ K) (n0 : Nat) (n1 : Nat) (n2 : Nat) (n3 : Nat) (n4 : Nat) (n5 : Nat) (n6 : Nat) (n7 : Nat) (n8 : Nat) : ∀ (k : Nat) (x1 : Int32) (x2 : Int32) (x3 : Int32) (x4 : Int32) (s0 : Int32) (s1 : Int32) (s2 : Int32) (s3 : Int32) (s4 : Nat → Int32) (s5 : Nat → Int32) (s6 : Nat → Int32) (s7 : Nat → Int32) (s8 : Nat → Int32) (s9 : Int32) (s10 : Int32) (s11 : Nat → Int32) (s12 : Nat → Int32) (s13 : Int32) (s14 : Int32) (s15 : Nat → Int32) (s16 : Nat → Int32), n0 = 1024 → n1 = 200 → n2 = 200 → n3 = 200 → n4 = 200 → n5 = 512 → n6 = 512 → 0 ≤ s0.toInt → s0.toInt ≤ 1024 → 0 ≤ s1.toInt → s1.toInt ≤ 200 → 0 ≤ s9.toInt → s9.toInt ≤ 512 → n7 = 201 → n8 = 201 → 0 ≤ s13.toInt → s13.toInt ≤ 201 → -1 ≤ x4.toInt → x4.toInt ≤ 201 → x4.toInt + 1 < (k : Int) → zz_ok (m_X4_placeInList_L13 K n0 n1 n2 n3 n4 n5 n6 n7 n8 k x1 x2 x3 x4 s0 s1 s2 s3 s4 s5 s6 s7 s8 s9 s10 s11 s12 s13 s14 s15 s16) (fun z => z.2.1.toInt = s0.toInt ∧ z.2.2.1.toInt = s1.toInt ∧ 0 ≤ z.2.2.2.2.2.2.2.2.2.2.1.toInt ∧ z.2.2.2.2.2.2.2.2.2.2.1.toInt ≤ 512 ∧ 0 ≤ z.2.2.2.2.2.2.2.2.2.2.2.2.2.2.1.toInt ∧ z.2.2.2.2.2.2.2.2.2.2.2.2.2.2.1.toInt ≤ 201) := by
  intro k
  induction k with
  | zero =>
    intro x1 x2 x3 x4 s0 s1 s2 s3 s4 s5 s6 s7 s8 s9 s10 s11 s12 s13 s14 s15 s16 a0 a1 a2 a3 a4 a5 a6 a7 a8 a9 a10 a11 a12 a13 a14 a15 a16 a17 a18 hz9
    exfalso
    have g_x1 := zz_rg x1
    have g_x2 := zz_rg x2
    have g_x3 := zz_rg x3
    have g_x4 := zz_rg x4
    have g_s0 := zz_rg s0
    have g_s1 := zz_rg s1
    have g_s2 := zz_rg s2
    have g_s3 := zz_rg s3
    have g_s9 := zz_rg s9
    have g_s10 := zz_rg s10
    have g_s13 := zz_rg s13
    have g_s14 := zz_rg s14
    omega
  | succ k ih =>
    intro x1 x2 x3 x4 s0 s1 s2 s3 s4 s5 s6 s7 s8 s9 s10 s11 s12 s13 s14 s15 s16 a0 a1 a2 a3 a4 a5 a6 a7 a8 a9 a10 a11 a12 a13 a14 a15 a16 a17 a18 hz9
    rw [m_X4_placeInList_L13_s]
    have g1 := zz_rg x1
    have g2 := zz_rg x2
    have g3 := zz_rg x3
    have g4 := zz_rg x4
    have g5 := zz_rg s0
    have g6 := zz_rg s1
    have g7 := zz_rg s2
    have g8 := zz_rg s3
    have g9 := zz_rg s9
    have g10 := zz_rg s10
    have g11 := zz_rg s13
    have g12 := zz_rg s14
    have l14 : (0 : Int32).toInt = 0 := rfl
    refine zz_ok_ite (fun c13 => ?_) (fun c13 => ?_)
    · have c13 := Int32.lt_iff_toInt_lt.mp c13
      refine zz_ok_some ?_
      show s0.toInt = s0.toInt ∧ s1.toInt = s1.toInt ∧ 0 ≤ s9.toInt ∧ s9.toInt ≤ 512 ∧ 0 ≤ s13.toInt ∧ s13.toInt ≤ 201
      refine ⟨?_, ?_, ?_, ?_, ?_, ?_⟩ <;> omega
    · have c13 := zz_nlt c13
      refine zz_ok_bind (s_X10_wordsOf K hK n7 n8 x4 s13 s14 s15 s16 (by omega) (by omega) (by omega) (by omega)) ?_
      intro z15 hz15
      obtain ⟨r_3, t_3_0, t_3_1, t_3_2, t_3_3⟩ := z15
      have q16 : t_3_0.toInt = s13.toInt := hz15
      have g17 := zz_rg r_3
      have g18 := zz_rg t_3_0
      have g19 := zz_rg t_3_1
      show zz_ok ((m_X4_listOf K r_3).bind fun ⟨r_4, _⟩ => if r_4 = x1 then (if x3 = x2 then ((m_X10_placeOf K n7 n8 x4 t_3_0 t_3_1 t_3_2 t_3_3).bind fun ⟨r_7, t_7_0, t_7_1, t_7_2, t_7_3⟩ => some (r_7, s0, s1, s2, s3, s4, s5, s6, s7, s8, s9, s10, s11, s12, t_7_0, t_7_1, t_7_2, t_7_3)) else (m_X4_placeInList_L13 K n0 n1 n2 n3 n4 n5 n6 n7 n8 k x1 x2 (x3 + 1) (x4 + (-1)) s0 s1 s2 s3 s4 s5 s6 s7 s8 s9 s10 s11 s12 t_3_0 t_3_1 t_3_2 t_3_3)) else (m_X4_placeInList_L13 K n0 n1 n2 n3 n4 n5 n6 n7 n8 k x1 x2 x3 (x4 + (-1)) s0 s1 s2 s3 s4 s5 s6 s7 s8 s9 s10 s11 s12 t_3_0 t_3_1 t_3_2 t_3_3)) _
      refine zz_ok_bind (s_X4_listOf K hK r_3) ?_
      intro z20 hz20
      obtain ⟨r_4, _⟩ := z20
      have g21 := zz_rg r_4
      show zz_ok (if r_4 = x1 then (if x3 = x2 then ((m_X10_placeOf K n7 n8 x4 t_3_0 t_3_1 t_3_2 t_3_3).bind fun ⟨r_7, t_7_0, t_7_1, t_7_2, t_7_3⟩ => some (r_7, s0, s1, s2, s3, s4, s5, s6, s7, s8, s9, s10, s11, s12, t_7_0, t_7_1, t_7_2, t_7_3)) else (m_X4_placeInList_L13 K n0 n1 n2 n3 n4 n5 n6 n7 n8 k x1 x2 (x3 + 1) (x4 + (-1)) s0 s1 s2 s3 s4 s5 s6 s7 s8 s9 s10 s11 s12 t_3_0 t_3_1 t_3_2 t_3_3)) else (m_X4_placeInList_L13 K n0 n1 n2 n3 n4 n5 n6 n7 n8 k x1 x2 x3 (x4 + (-1)) s0 s1 s2 s3 s4 s5 s6 s7 s8 s9 s10 s11 s12 t_3_0 t_3_1 t_3_2 t_3_3)) _
      refine zz_ok_ite (fun c22 => ?_) (fun c22 => ?_)
      · have c22 := congrArg Int32.toInt c22
        refine zz_ok_ite (fun c23 => ?_) (fun c23 => ?_)
        · have c23 := congrArg Int32.toInt c23
          refine zz_ok_bind (s_X10_placeOf K hK n7 n8 x4 t_3_0 t_3_1 t_3_2 t_3_3 (by omega) (by omega) (by omega) (by omega)) ?_
          intro z24 hz24
          obtain ⟨r_7, t_7_0, t_7_1, t_7_2, t_7_3⟩ := z24
          have q25 : t_7_0.toInt = t_3_0.toInt := hz24
          have g26 := zz_rg r_7
          have g27 := zz_rg t_7_0
          have g28 := zz_rg t_7_1
          show zz_ok (some (r_7, s0, s1, s2, s3, s4, s5, s6, s7, s8, s9, s10, s11, s12, t_7_0, t_7_1, t_7_2, t_7_3)) _
          refine zz_ok_some ?_
          show s0.toInt = s0.toInt ∧ s1.toInt = s1.toInt ∧ 0 ≤ s9.toInt ∧ s9.toInt ≤ 512 ∧ 0 ≤ t_7_0.toInt ∧ t_7_0.toInt ≤ 201
          refine ⟨?_, ?_, ?_, ?_, ?_, ?_⟩ <;> omega
        · have c23 := zz_neq c23
          obtain ⟨y29, e30⟩ : ∃ y : Int32, y = x4 + (-1) := ⟨_, rfl⟩
          obtain ⟨k31, f32⟩ := zz_dec e30
          rw [← e30]
          clear e30
          have l33 : (1 : Int32).toInt = 1 := rfl
          obtain ⟨k34, f35⟩ := zz_add x3 (1 : Int32)
          have g36 := zz_rg (x3 + 1)
          have g37 := zz_rg y29
          refine (ih x1 x2 (x3 + 1) y29 s0 s1 s2 s3 s4 s5 s6 s7 s8 s9 s10 s11 s12 t_3_0 t_3_1 t_3_2 t_3_3 (by omega) (by omega) (by omega) (by omega) (by omega) (by omega) (by omega) (by omega) (by omega) (by omega) (by omega) (by omega) (by omega) (by omega) (by omega) (by omega) (by omega) (by omega) (by omega) (by omega)).mono (fun z hz => ?_)
          have q38 : z.2.1.toInt = s0.toInt := hz.1
          have q39 : z.2.2.1.toInt = s1.toInt := hz.2.1
          have q40 : 0 ≤ z.2.2.2.2.2.2.2.2.2.2.1.toInt := hz.2.2.1
          have q41 : z.2.2.2.2.2.2.2.2.2.2.1.toInt ≤ 512 := hz.2.2.2.1
          have q42 : 0 ≤ z.2.2.2.2.2.2.2.2.2.2.2.2.2.2.1.toInt := hz.2.2.2.2.1
          have q43 : z.2.2.2.2.2.2.2.2.2.2.2.2.2.2.1.toInt ≤ 201 := hz.2.2.2.2.2
          show z.2.1.toInt = s0.toInt ∧ z.2.2.1.toInt = s1.toInt ∧ 0 ≤ z.2.2.2.2.2.2.2.2.2.2.1.toInt ∧ z.2.2.2.2.2.2.2.2.2.2.1.toInt ≤ 512 ∧ 0 ≤ z.2.2.2.2.2.2.2.2.2.2.2.2.2.2.1.toInt ∧ z.2.2.2.2.2.2.2.2.2.2.2.2.2.2.1.toInt ≤ 201
          refine ⟨?_, ?_, ?_, ?_, ?_, ?_⟩ <;> omega
      · have c22 := zz_neq c22
        obtain ⟨y44, e45⟩ : ∃ y : Int32, y = x4 + (-1) := ⟨_, rfl⟩
        obtain ⟨k46, f47⟩ := zz_dec e45
        rw [← e45]
        clear e45
        have g48 := zz_rg y44
        refine (ih x1 x2 x3 y44 s0 s1 s2 s3 s4 s5 s6 s7 s8 s9 s10 s11 s12 t_3_0 t_3_1 t_3_2 t_3_3 (by omega) (by omega) (by omega) (by omega) (by omega) (by omega) (by omega) (by omega) (by omega) (by omega) (by omega) (by omega) (by omega) (by omega) (by omega) (by omega) (by omega) (by omega) (by omega) (by omega)).mono (fun z hz => ?_)
        have q49 : z.2.1.toInt = s0.toInt := hz.1
        have q50 : z.2.2.1.toInt = s1.toInt := hz.2.1
        have q51 : 0 ≤ z.2.2.2.2.2.2.2.2.2.2.1.toInt := hz.2.2.1
        have q52 : z.2.2.2.2.2.2.2.2.2.2.1.toInt ≤ 512 := hz.2.2.2.1
        have q53 : 0 ≤ z.2.2.2.2.2.2.2.2.2.2.2.2.2.2.1.toInt := hz.2.2.2.2.1
        have q54 : z.2.2.2.2.2.2.2.2.2.2.2.2.2.2.1.toInt ≤ 201 := hz.2.2.2.2.2
        show z.2.1.toInt = s0.toInt ∧ z.2.2.1.toInt = s1.toInt ∧ 0 ≤ z.2.2.2.2.2.2.2.2.2.2.1.toInt ∧ z.2.2.2.2.2.2.2.2.2.2.1.toInt ≤ 512 ∧ 0 ≤ z.2.2.2.2.2.2.2.2.2.2.2.2.2.2.1.toInt ∧ z.2.2.2.2.2.2.2.2.2.2.2.2.2.2.1.toInt ≤ 201
        refine ⟨?_, ?_, ?_, ?_, ?_, ?_⟩ <;> omega
set_option maxHeartbeats 4000000 in
theorem s_X4_placeInList (K : Nat) (hK : 1099511627776 ≤ K) (n0 : Nat) (n1 : Nat) (n2 : Nat) (n3 : Nat) (n4 : Nat) (n5 : Nat) (n6 : Nat) (n7 : Nat) (n8 : Nat) (p1 : Int32) (p2 : Int32) (s0 : Int32) (s1 : Int32) (s2 : Int32) (s3 : Int32) (s4 : Nat → Int32) (s5 : Nat → Int32) (s6 : Nat → Int32) (s7 : Nat → Int32) (s8 : Nat → Int32) (s9 : Int32) (s10 : Int32) (s11 : Nat → Int32) (s12 : Nat → Int32) (s13 : Int32) (s14 : Int32) (s15 : Nat → Int32) (s16 : Nat → Int32) (a0 : n0 = 1024) (a1 : n1 = 200) (a2 : n2 = 200) (a3 : n3 = 200) (a4 : n4 = 200) (a5 : n5 = 512) (a6 : n6 = 512) (a7 : 0 ≤ s0.toInt) (a8 : s0.toInt ≤ 1024) (a9 : 0 ≤ s1.toInt) (a10 : s1.toInt ≤ 200) (a11 : 0 ≤ s9.toInt) (a12 : s9.toInt ≤ 512) (a13 : n7 = 201) (a14 : n8 = 201) (a15 : 0 ≤ s13.toInt) (a16 : s13.toInt ≤ 201) : zz_ok (m_X4_placeInList K n0 n1 n2 n3 n4 n5 n6 n7 n8 p1 p2 s0 s1 s2 s3 s4 s5 s6 s7 s8 s9 s10 s11 s12 s13 s14 s15 s16) (fun z => z.2.1.toInt = s0.toInt ∧ z.2.2.1.toInt = s1.toInt ∧ 0 ≤ z.2.2.2.2.2.2.2.2.2.2.1.toInt ∧ z.2.2.2.2.2.2.2.2.2.2.1.toInt ≤ 512 ∧ 0 ≤ z.2.2.2.2.2.2.2.2.2.2.2.2.2.2.1.toInt ∧ z.2.2.2.2.2.2.2.2.2.2.2.2.2.2.1.toInt ≤ 201) := by
  have g1 := zz_rg p1
  have g2 := zz_rg p2
  have g3 := zz_rg s0
  have g4 := zz_rg s1
  have g5 := zz_rg s2
  have g6 := zz_rg s3
  have g7 := zz_rg s9
  have g8 := zz_rg s10
  have g9 := zz_rg s13
  have g10 := zz_rg s14
  unfold m_X4_placeInList
  refine zz_ok_bind (s_X10_size K hK n7 n8 s13 s14 s15 s16) ?_
  intro z11 hz11
  obtain ⟨r_1, t_1_0, t_1_1, t_1_2, t_1_3⟩ := z11
  have q12 : r_1.toInt = s13.toInt := hz11.1
  have q13 : t_1_0.toInt = s13.toInt := hz11.2
  have g14 := zz_rg r_1
  have g15 := zz_rg t_1_0
  have g16 := zz_rg t_1_1
  show zz_ok (m_X4_placeInList_L13 K n0 n1 n2 n3 n4 n5 n6 n7 n8 K p1 p2 ((0 : Int32)) (r_1 - ((1 : Int32))) s0 s1 s2 s3 s4 s5 s6 s7 s8 s9 s10 s11 s12 t_1_0 t_1_1 t_1_2 t_1_3) _
  have l17 : (0 : Int32).toInt = 0 := rfl
  have l18 : (1 : Int32).toInt = 1 := rfl
  obtain ⟨k19, f20⟩ := zz_sub r_1 (1 : Int32)
  have g21 := zz_rg (r_1 - ((1 : Int32)))
  refine (s_X4_placeInList_L13 K hK n0 n1 n2 n3 n4 n5 n6 n7 n8 K p1 p2 ((0 : Int32)) (r_1 - ((1 : Int32))) s0 s1 s2 s3 s4 s5 s6 s7 s8 s9 s10 s11 s12 t_1_0 t_1_1 t_1_2 t_1_3 (by omega) (by omega) (by omega) (by omega) (by omega) (by omega) (by omega) (by omega) (by omega) (by omega) (by omega) (by omega) (by omega) (by omega) (by omega) (by omega) (by omega) (by omega) (by omega) (by omega)).mono (fun z hz => ?_)
  have q22 : z.2.1.toInt = s0.toInt := hz.1
  have q23 : z.2.2.1.toInt = s1.toInt := hz.2.1
  have q24 : 0 ≤ z.2.2.2.2.2.2.2.2.2.2.1.toInt := hz.2.2.1
  have q25 : z.2.2.2.2.2.2.2.2.2.2.1.toInt ≤ 512 := hz.2.2.2.1
  have q26 : 0 ≤ z.2.2.2.2.2.2.2.2.2.2.2.2.2.2.1.toInt := hz.2.2.2.2.1
  have q27 : z.2.2.2.2.2.2.2.2.2.2.2.2.2.2.1.toInt ≤ 201 := hz.2.2.2.2.2
  show z.2.1.toInt = s0.toInt ∧ z.2.2.1.toInt = s1.toInt ∧ 0 ≤ z.2.2.2.2.2.2.2.2.2.2.1.toInt ∧ z.2.2.2.2.2.2.2.2.2.2.1.toInt ≤ 512 ∧ 0 ≤ z.2.2.2.2.2.2.2.2.2.2.2.2.2.2.1.toInt ∧ z.2.2.2.2.2.2.2.2.2.2.2.2.2.2.1.toInt ≤ 201
  refine ⟨?_, ?_, ?_, ?_, ?_, ?_⟩ <;> omega
set_option maxHeartbeats 4000000 in
theorem s_X5_begin (K : Nat) (hK : 1099511627776 ≤ K) (n0 : Nat) (n1 : Nat) (n2 : Nat) (n3 : Nat) (n4 : Nat) (n5 : Nat) (n6 : Nat) (n7 : Nat) (n8 : Nat) (s0 : Int32) (s1 : Int32) (s2 : Int32) (s3 : Int32) (s4 : Int32) (s5 : Nat → Int32) (s6 : Nat → Int32) (s7 : Nat → Int32) (s8 : Nat → Int32) (s9 : Nat → Int32) (s10 : Int32) (s11 : Int32) (s12 : Nat → Int32) (s13 : Nat → Int32) (s14 : Nat → Int32) (s15 : Nat → Int32) (a0 : n0 = 1024) (a1 : n1 = 200) (a2 : n2 = 200) (a3 : n3 = 200) (a4 : n4 = 200) (a5 : n5 = 512) (a6 : n6 = 512) (a7 : 0 ≤ s1.toInt) (a8 : s1.toInt ≤ 1024) (a9 : 0 ≤ s2.toInt) (a10 : s2.toInt ≤ 200) (a11 : 0 ≤ s10.toInt) (a12 : s10.toInt ≤ 512) (a13 : n7 = 32) (a14 : n8 = 32) : zz_ok (m_X5_begin K n0 n1 n2 n3 n4 n5 n6 n7 n8 s0 s1 s2 s3 s4 s5 s6 s7 s8 s9 s10 s11 s12 s13 s14 s15) (fun z => z.2.1.toInt = s1.toInt ∧ z.2.2.1.toInt = s2.toInt ∧ 0 ≤ z.2.2.2.2.2.2.2.2.2.2.1.toInt ∧ z.2.2.2.2.2.2.2.2.2.2.1.toInt ≤ 512 ∧ 0 ≤ z.1.toInt ∧ z.1.toInt ≤ 32) := by
  have g1 := zz_rg s0
  have g2 := zz_rg s1
  have g3 := zz_rg s2
  have g4 := zz_rg s3
  have g5 := zz_rg s4
  have g6 := zz_rg s10
  have g7 := zz_rg s11
  unfold m_X5_begin
  refine zz_ok_bind (s_X7_words K hK n0 n1 n2 n3 n4 n5 n6 s1 s2 s3 s4 s5 s6 s7 s8 s9 s10 s11 s12 s13 (by omega) (by omega) (by omega) (by omega) (by omega) (by omega) (by omega) (by omega) (by omega) (by omega) (by omega) (by omega) (by omega)) ?_
  intro z8 hz8
  obtain ⟨r_1, t_1_0, t_1_1, t_1_2, t_1_3, t_1_4, t_1_5, t_1_6, t_1_7, t_1_8, t_1_9, t_1_10, t_1_11, t_1_12⟩ := z8
  have q9 : r_1.toInt = s1.toInt := hz8.1
  have q10 : t_1_0.toInt = s1.toInt := hz8.2.1
  have q11 : t_1_1.toInt = s2.toInt := hz8.2.2.1
  have q12 : 0 ≤ t_1_9.toInt := hz8.2.2.2.1
  have q13 : t_1_9.toInt ≤ 512 := hz8.2.2.2.2
  have g14 := zz_rg r_1
  have g15 := zz_rg t_1_0
  have g16 := zz_rg t_1_1
  have g17 := zz_rg t_1_2
  have g18 := zz_rg t_1_3
  have g19 := zz_rg t_1_9
  have g20 := zz_rg t_1_10
  show zz_ok ((m_J7_fill_53178 K n7 ((0 : Int32)) s14).bind fun t_2_0 => (m_J7_fill_53178 K n8 ((0 : Int32)) s15).bind fun t_3_0 => some (r_1 / ((32 : Int32)), t_1_0, t_1_1, t_1_2, t_1_3, t_1_4, t_1_5, t_1_6, t_1_7, t_1_8, t_1_9, t_1_10, t_1_11, t_1_12, t_2_0, t_3_0)) _
  have l21 : (0 : Int32).toInt = 0 := rfl
  refine zz_ok_bind (s_J7_fill_53178 K hK n7 ((0 : Int32)) s14 (by omega)) ?_
  intro z22 hz22
  have ⟨t_2_0, h9z22⟩ : ∃ q, q = z22 := ⟨_, rfl⟩
  subst h9z22
  show zz_ok ((m_J7_fill_53178 K n8 ((0 : Int32)) s15).bind fun t_3_0 => some (r_1 / ((32 : Int32)), t_1_0, t_1_1, t_1_2, t_1_3, t_1_4, t_1_5, t_1_6, t_1_7, t_1_8, t_1_9, t_1_10, t_1_11, t_1_12, t_2_0, t_3_0)) _
  refine zz_ok_bind (s_J7_fill_53178 K hK n8 ((0 : Int32)) s15 (by omega)) ?_
  intro z23 hz23
  have ⟨t_3_0, h9z23⟩ : ∃ q, q = z23 := ⟨_, rfl⟩
  subst h9z23
  show zz_ok (some (r_1 / ((32 : Int32)), t_1_0, t_1_1, t_1_2, t_1_3, t_1_4, t_1_5, t_1_6, t_1_7, t_1_8, t_1_9, t_1_10, t_1_11, t_1_12, t_2_0, t_3_0)) _
  have l24 : (32 : Int32).toInt = 32 := rfl
  try have f25 := zz_divP r_1 (32 : Int32) 32 rfl (by decide) (by omega)
  have f26 := zz_divB r_1 (32 : Int32) 32 rfl (by decide)
  have g27 := zz_rg (r_1 / ((32 : Int32)))
  refine zz_ok_some ?_
  show t_1_0.toInt = s1.toInt ∧ t_1_1.toInt = s2.toInt ∧ 0 ≤ t_1_9.toInt ∧ t_1_9.toInt ≤ 512 ∧ 0 ≤ (r_1 / ((32 : Int32))).toInt ∧ (r_1 / ((32 : Int32))).toInt ≤ 32
  refine ⟨?_, ?_, ?_, ?_, ?_, ?_⟩ <;> omega
set_option maxHeartbeats 4000000 in
theorem s_X5_spanOf (K : Nat) (hK : 1099511627776 ≤ K) (n0 : Nat) (n1 : Nat) (n2 : Nat) (n3 : Nat) (n4 : Nat) (n5 : Nat) (n6 : Nat) (n7 : Nat) (n8 : Nat) (p1 : Int32) (s0 : Int32) (s1 : Int32) (s2 : Int32) (s3 : Int32) (s4 : Int32) (s5 : Nat → Int32) (s6 : Nat → Int32) (s7 : Nat → Int32) (s8 : Nat → Int32) (s9 : Nat → Int32) (s10 : Int32) (s11 : Int32) (s12 : Nat → Int32) (s13 : Nat → Int32) (s14 : Nat → Int32) (s15 : Nat → Int32) (a0 : n0 = 1024) (a1 : n1 = 200) (a2 : n2 = 200) (a3 : n3 = 200) (a4 : n4 = 200) (a5 : n5 = 512) (a6 : n6 = 512) (a7 : 0 ≤ s1.toInt) (a8 : s1.toInt ≤ 1024) (a9 : 0 ≤ s2.toInt) (a10 : s2.toInt ≤ 200) (a11 : 0 ≤ s10.toInt) (a12 : s10.toInt ≤ 512) (a13 : n7 = 32) (a14 : n8 = 32) (a15 : 0 ≤ s0.toInt) (a16 : s0.toInt ≤ 32) (a17 : 1 ≤ p1.toInt) (a18 : p1.toInt ≤ 1024) : zz_ok (m_X5_spanOf K n0 n1 n2 n3 n4 n5 n6 n7 n8 p1 s0 s1 s2 s3 s4 s5 s6 s7 s8 s9 s10 s11 s12 s13 s14 s15) (fun z => 1 ≤ z.1.toInt ∧ z.1.toInt ≤ 2000 ∧ z.2.2.1.toInt = s1.toInt ∧ z.2.2.2.1.toInt = s2.toInt ∧ 0 ≤ z.2.2.2.2.2.2.2.2.2.2.2.1.toInt ∧ z.2.2.2.2.2.2.2.2.2.2.2.1.toInt ≤ 512 ∧ z.2.1.toInt = s0.toInt) := by
  have g1 := zz_rg p1
  have g2 := zz_rg s0
  have g3 := zz_rg s1
  have g4 := zz_rg s2
  have g5 := zz_rg s3
  have g6 := zz_rg s4
  have g7 := zz_rg s10
  have g8 := zz_rg s11
  unfold m_X5_spanOf
  have l10 : (32 : Int32).toInt = 32 := rfl
  refine zz_ok_ite (fun c9 => ?_) (fun c9 => ?_)
  · have c9 := Int32.lt_iff_toInt_lt.mp c9
    obtain ⟨k11, f12⟩ := zz_add p1 (32 : Int32)
    have g13 := zz_rg (p1 + ((32 : Int32)))
    have l14 : (1 : Int32).toInt = 1 := rfl
    obtain ⟨k15, f16⟩ := zz_sub (p1 + ((32 : Int32))) (1 : Int32)
    have g17 := zz_rg ((p1 + ((32 : Int32))) - ((1 : Int32)))
    try have f18 := zz_divP ((p1 + ((32 : Int32))) - ((1 : Int32))) (32 : Int32) 32 rfl (by decide) (by omega)
    have f19 := zz_divB ((p1 + ((32 : Int32))) - ((1 : Int32))) (32 : Int32) 32 rfl (by decide)
    have g20 := zz_rg (((p1 + ((32 : Int32))) - ((1 : Int32))) / ((32 : Int32)))
    obtain ⟨k21, f22⟩ := zz_mul (((p1 + ((32 : Int32))) - ((1 : Int32))) / ((32 : Int32))) (32 : Int32)
    rw [show (32 : Int32).toInt = 32 from rfl] at f22
    have g23 := zz_rg ((((p1 + ((32 : Int32))) - ((1 : Int32))) / ((32 : Int32))) * ((32 : Int32)))
    refine zz_ok_some ?_
    show 1 ≤ ((((p1 + ((32 : Int32))) - ((1 : Int32))) / ((32 : Int32))) * ((32 : Int32))).toInt ∧ ((((p1 + ((32 : Int32))) - ((1 : Int32))) / ((32 : Int32))) * ((32 : Int32))).toInt ≤ 2000 ∧ s1.toInt = s1.toInt ∧ s2.toInt = s2.toInt ∧ 0 ≤ s10.toInt ∧ s10.toInt ≤ 512 ∧ s0.toInt = s0.toInt
    refine ⟨?_, ?_, ?_, ?_, ?_, ?_, ?_⟩ <;> omega
  · have c9 := zz_nlt c9
    refine zz_ok_bind (s_X11_powerFrom K hK p1) ?_
    intro z24 hz24
    obtain ⟨r_2, _⟩ := z24
    have q25 : 1 ≤ r_2.toInt := hz24.1
    have q26 : r_2.toInt ≤ 1024 := hz24.2
    have g27 := zz_rg r_2
    show zz_ok (some (r_2, s0, s1, s2, s3, s4, s5, s6, s7, s8, s9, s10, s11, s12, s13, s14, s15)) _
    refine zz_ok_some ?_
    show 1 ≤ r_2.toInt ∧ r_2.toInt ≤ 2000 ∧ s1.toInt = s1.toInt ∧ s2.toInt = s2.toInt ∧ 0 ≤ s10.toInt ∧ s10.toInt ≤ 512 ∧ s0.toInt = s0.toInt
    refine ⟨?_, ?_, ?_, ?_, ?_, ?_, ?_⟩ <;> omega
set_option maxHeartbeats 4000000 in
theorem s_X5_setPages_L7 (K : Nat) (hK : 1099511627776 ≤ K) (n0 : Nat) (n1 : Nat) (n2 : Nat) (n3 : Nat) (n4 : Nat) (n5 : Nat) (n6 : Nat) (n7 : Nat) (n8 : Nat) : ∀ (k : Nat) (x1 : Int32) (x2 : Int32) (x3 : Int32) (x4 : Int32) (s0 : Int32) (s1 : Int32) (s2 : Int32) (s3 : Int32) (s4 : Int32) (s5 : Nat → Int32) (s6 : Nat → Int32) (s7 : Nat → Int32) (s8 : Nat → Int32) (s9 : Nat → Int32) (s10 : Int32) (s11 : Int32) (s12 : Nat → Int32) (s13 : Nat → Int32) (s14 : Nat → Int32) (s15 : Nat → Int32), n0 = 1024 → n1 = 200 → n2 = 200 → n3 = 200 → n4 = 200 → n5 = 512 → n6 = 512 → 0 ≤ s1.toInt → s1.toInt ≤ 1024 → 0 ≤ s2.toInt → s2.toInt ≤ 200 → 0 ≤ s10.toInt → s10.toInt ≤ 512 → n7 = 32 → n8 = 32 → 0 ≤ s0.toInt → s0.toInt ≤ 32 → 0 ≤ x4.toInt → 2147483648 - x4.toInt < (k : Int) → zz_ok (m_X5_setPages_L7 K n0 n1 n2 n3 n4 n5 n6 n7 n8 k x1 x2 x3 x4 s0 s1 s2 s3 s4 s5 s6 s7 s8 s9 s10 s11 s12 s13 s14 s15) (fun z => z.2.1.toInt = s1.toInt ∧ z.2.2.1.toInt = s2.toInt ∧ 0 ≤ z.2.2.2.2.2.2.2.2.2.2.1.toInt ∧ z.2.2.2.2.2.2.2.2.2.2.1.toInt ≤ 512 ∧ z.1.toInt = s0.toInt) := by
  intro k
  induction k with
  | zero =>
    intro x1 x2 x3 x4 s0 s1 s2 s3 s4 s5 s6 s7 s8 s9 s10 s11 s12 s13 s14 s15 a0 a1 a2 a3 a4 a5 a6 a7 a8 a9 a10 a11 a12 a13 a14 a15 a16 a17 hz9
    exfalso
    have g_x1 := zz_rg x1
    have g_x2 := zz_rg x2
    have g_x3 := zz_rg x3
    have g_x4 := zz_rg x4
    have g_s0 := zz_rg s0
    have g_s1 := zz_rg s1
    have g_s2 := zz_rg s2
    have g_s3 := zz_rg s3
    have g_s4 := zz_rg s4
    have g_s10 := zz_rg s10
    have g_s11 := zz_rg s11
    omega
  | succ k ih =>
    intro x1 x2 x3 x4 s0 s1 s2 s3 s4 s5 s6 s7 s8 s9 s10 s11 s12 s13 s14 s15 a0 a1 a2 a3 a4 a5 a6 a7 a8 a9 a10 a11 a12 a13 a14 a15 a16 a17 hz9
    rw [m_X5_setPages_L7_s]
    have g1 := zz_rg x1
    have g2 := zz_rg x2
    have g3 := zz_rg x3
    have g4 := zz_rg x4
    have g5 := zz_rg s0
    have g6 := zz_rg s1
    have g7 := zz_rg s2
    have g8 := zz_rg s3
    have g9 := zz_rg s4
    have g10 := zz_rg s10
    have g11 := zz_rg s11
    obtain ⟨k13, f14⟩ := zz_add x1 x2
    have g15 := zz_rg (x1 + x2)
    refine zz_ok_ite (fun c12 => ?_) (fun c12 => ?_)
    · have c12 := Int32.le_iff_toInt_le.mp c12
      refine zz_ok_some ?_
      show s1.toInt = s1.toInt ∧ s2.toInt = s2.toInt ∧ 0 ≤ s10.toInt ∧ s10.toInt ≤ 512 ∧ s0.toInt = s0.toInt
      refine ⟨?_, ?_, ?_, ?_, ?_⟩ <;> omega
    · have c12 := zz_nle c12
      refine zz_ok_ite (fun c16 => ?_) (fun c16 => ?_)
      · have c16 := Int32.le_iff_toInt_le.mp c16
        refine zz_ok_some ?_
        show s1.toInt = s1.toInt ∧ s2.toInt = s2.toInt ∧ 0 ≤ s10.toInt ∧ s10.toInt ≤ 512 ∧ s0.toInt = s0.toInt
        refine ⟨?_, ?_, ?_, ?_, ?_⟩ <;> omega
      · have c16 := zz_nle c16
        refine zz_ok_chk (zz_ix (by omega) (by omega)) ?_
        have l18 : (0 : Int32).toInt = 0 := rfl
        refine zz_ok_ite (fun c17 => ?_) (fun c17 => ?_)
        · have c17 := congrArg Int32.toInt c17
          refine zz_ok_chk (zz_ix (by omega) (by omega)) ?_
          have l19 : (1 : Int32).toInt = 1 := rfl
          obtain ⟨k20, f21⟩ := zz_add x4 (1 : Int32)
          have g22 := zz_rg (x4 + 1)
          refine (ih x1 x2 x3 (x4 + 1) s0 s1 s2 s3 s4 s5 s6 s7 s8 s9 s10 s11 s12 s13 (upd s14 x4.toNatClampNeg x3) (upd s15 x4.toNatClampNeg ((0 : Int32))) (by omega) (by omega) (by omega) (by omega) (by omega) (by omega) (by omega) (by omega) (by omega) (by omega) (by omega) (by omega) (by omega) (by omega) (by omega) (by omega) (by omega) (by omega) (by omega)).mono (fun z hz => ?_)
          have q23 : z.2.1.toInt = s1.toInt := hz.1
          have q24 : z.2.2.1.toInt = s2.toInt := hz.2.1
          have q25 : 0 ≤ z.2.2.2.2.2.2.2.2.2.2.1.toInt := hz.2.2.1
          have q26 : z.2.2.2.2.2.2.2.2.2.2.1.toInt ≤ 512 := hz.2.2.2.1
          have q27 : z.1.toInt = s0.toInt := hz.2.2.2.2
          show z.2.1.toInt = s1.toInt ∧ z.2.2.1.toInt = s2.toInt ∧ 0 ≤ z.2.2.2.2.2.2.2.2.2.2.1.toInt ∧ z.2.2.2.2.2.2.2.2.2.2.1.toInt ≤ 512 ∧ z.1.toInt = s0.toInt
          refine ⟨?_, ?_, ?_, ?_, ?_⟩ <;> omega
        · have c17 := zz_neq c17
          refine zz_ok_chk (zz_ix (by omega) (by omega)) ?_
          have l28 : (1 : Int32).toInt = 1 := rfl
          obtain ⟨k29, f30⟩ := zz_add x4 (1 : Int32)
          have g31 := zz_rg (x4 + 1)
          refine (ih x1 x2 x3 (x4 + 1) s0 s1 s2 s3 s4 s5 s6 s7 s8 s9 s10 s11 s12 s13 (upd s14 x4.toNatClampNeg x3) (upd s15 x4.toNatClampNeg ((1 : Int32))) (by omega) (by omega) (by omega) (by omega) (by omega) (by omega) (by omega) (by omega) (by omega) (by omega) (by omega) (by omega) (by omega) (by omega) (by omega) (by omega) (by omega) (by omega) (by omega)).mono (fun z hz => ?_)
          have q32 : z.2.1.toInt = s1.toInt := hz.1
          have q33 : z.2.2.1.toInt = s2.toInt := hz.2.1
          have q34 : 0 ≤ z.2.2.2.2.2.2.2.2.2.2.1.toInt := hz.2.2.1
          have q35 : z.2.2.2.2.2.2.2.2.2.2.1.toInt ≤ 512 := hz.2.2.2.1
          have q36 : z.1.toInt = s0.toInt := hz.2.2.2.2
          show z.2.1.toInt = s1.toInt ∧ z.2.2.1.toInt = s2.toInt ∧ 0 ≤ z.2.2.2.2.2.2.2.2.2.2.1.toInt ∧ z.2.2.2.2.2.2.2.2.2.2.1.toInt ≤ 512 ∧ z.1.toInt = s0.toInt
          refine ⟨?_, ?_, ?_, ?_, ?_⟩ <;> omega
set_option maxHeartbeats 4000000 in
theorem s_X5_setPages (K : Nat) (hK : 1099511627776 ≤ K) (n0 : Nat) (n1 : Nat) (n2 : Nat) (n3 : Nat) (n4 : Nat) (n5 : Nat) (n6 : Nat) (n7 : Nat) (n8 : Nat) (p1 : Int32) (p2 : Int32) (p3 : Int32) (s0 : Int32) (s1 : Int32) (s2 : Int32) (s3 : Int32) (s4 : Int32) (s5 : Nat → Int32) (s6 : Nat → Int32) (s7 : Nat → Int32) (s8 : Nat → Int32) (s9 : Nat → Int32) (s10 : Int32) (s11 : Int32) (s12 : Nat → Int32) (s13 : Nat → Int32) (s14 : Nat → Int32) (s15 : Nat → Int32) (a0 : n0 = 1024) (a1 : n1 = 200) (a2 : n2 = 200) (a3 : n3 = 200) (a4 : n4 = 200) (a5 : n5 = 512) (a6 : n6 = 512) (a7 : 0 ≤ s1.toInt) (a8 : s1.toInt ≤ 1024) (a9 : 0 ≤ s2.toInt) (a10 : s2.toInt ≤ 200) (a11 : 0 ≤ s10.toInt) (a12 : s10.toInt ≤ 512) (a13 : n7 = 32) (a14 : n8 = 32) (a15 : 0 ≤ s0.toInt) (a16 : s0.toInt ≤ 32) : zz_ok (m_X5_setPages K n0 n1 n2 n3 n4 n5 n6 n7 n8 p1 p2 p3 s0 s1 s2 s3 s4 s5 s6 s7 s8 s9 s10 s11 s12 s13 s14 s15) (fun z => z.2.1.toInt = s1.toInt ∧ z.2.2.1.toInt = s2.toInt ∧ 0 ≤ z.2.2.2.2.2.2.2.2.2.2.1.toInt ∧ z.2.2.2.2.2.2.2.2.2.2.1.toInt ≤ 512 ∧ z.1.toInt = s0.toInt) := by
  have g1 := zz_rg p1
  have g2 := zz_rg p2
  have g3 := zz_rg p3
  have g4 := zz_rg s0
  have g5 := zz_rg s1
  have g6 := zz_rg s2
  have g7 := zz_rg s3
  have g8 := zz_rg s4
  have g9 := zz_rg s10
  have g10 := zz_rg s11
  unfold m_X5_setPages
  have l11 : (0 : Int32).toInt = 0 := rfl
  have f12 := zz_maxF p1 (0 : Int32)
  have g13 := zz_rg (zz_max p1 ((0 : Int32)))
  refine (s_X5_setPages_L7 K hK n0 n1 n2 n3 n4 n5 n6 n7 n8 K p1 p2 p3 (zz_max p1 ((0 : Int32))) s0 s1 s2 s3 s4 s5 s6 s7 s8 s9 s10 s11 s12 s13 s14 s15 (by omega) (by omega) (by omega) (by omega) (by omega) (by omega) (by omega) (by omega) (by omega) (by omega) (by omega) (by omega) (by omega) (by omega) (by omega) (by omega) (by omega) (by omega) (by omega)).mono (fun z hz => ?_)
  have q14 : z.2.1.toInt = s1.toInt := hz.1
  have q15 : z.2.2.1.toInt = s2.toInt := hz.2.1
  have q16 : 0 ≤ z.2.2.2.2.2.2.2.2.2.2.1.toInt := hz.2.2.1
  have q17 : z.2.2.2.2.2.2.2.2.2.2.1.toInt ≤ 512 := hz.2.2.2.1
  have q18 : z.1.toInt = s0.toInt := hz.2.2.2.2
  show z.2.1.toInt = s1.toInt ∧ z.2.2.1.toInt = s2.toInt ∧ 0 ≤ z.2.2.2.2.2.2.2.2.2.2.1.toInt ∧ z.2.2.2.2.2.2.2.2.2.2.1.toInt ≤ 512 ∧ z.1.toInt = s0.toInt
  refine ⟨?_, ?_, ?_, ?_, ?_⟩ <;> omega
set_option maxHeartbeats 4000000 in
theorem s_X5_takeRow_L5 (K : Nat) (hK : 1099511627776 ≤ K) (n0 : Nat) (n1 : Nat) (n2 : Nat) (n3 : Nat) (n4 : Nat) (n5 : Nat) (n6 : Nat) (n7 : Nat) (n8 : Nat) : ∀ (k : Nat) (x1 : Int32) (x2 : Int32) (x3 : Int32) (x4 : Int32) (s0 : Int32) (s1 : Int32) (s2 : Int32) (s3 : Int32) (s4 : Int32) (s5 : Nat → Int32) (s6 : Nat → Int32) (s7 : Nat → Int32) (s8 : Nat → Int32) (s9 : Nat → Int32) (s10 : Int32) (s11 : Int32) (s12 : Nat → Int32) (s13 : Nat → Int32) (s14 : Nat → Int32) (s15 : Nat → Int32), n0 = 1024 → n1 = 200 → n2 = 200 → n3 = 200 → n4 = 200 → n5 = 512 → n6 = 512 → 0 ≤ s1.toInt → s1.toInt ≤ 1024 → 0 ≤ s2.toInt → s2.toInt ≤ 200 → 0 ≤ s10.toInt → s10.toInt ≤ 512 → n7 = 32 → n8 = 32 → 0 ≤ s0.toInt → s0.toInt ≤ 32 → 0 ≤ x4.toInt → x4.toInt ≤ s0.toInt → s0.toInt - x4.toInt < (k : Int) → zz_ok (m_X5_takeRow_L5 K n0 n1 n2 n3 n4 n5 n6 n7 n8 k x1 x2 x3 x4 s0 s1 s2 s3 s4 s5 s6 s7 s8 s9 s10 s11 s12 s13 s14 s15) (fun z => z.2.2.1.toInt = s1.toInt ∧ z.2.2.2.1.toInt = s2.toInt ∧ 0 ≤ z.2.2.2.2.2.2.2.2.2.2.2.1.toInt ∧ z.2.2.2.2.2.2.2.2.2.2.2.1.toInt ≤ 512 ∧ z.2.1.toInt = s0.toInt) := by
  intro k
  induction k with
  | zero =>
    intro x1 x2 x3 x4 s0 s1 s2 s3 s4 s5 s6 s7 s8 s9 s10 s11 s12 s13 s14 s15 a0 a1 a2 a3 a4 a5 a6 a7 a8 a9 a10 a11 a12 a13 a14 a15 a16 a17 a18 hz9
    exfalso
    have g_x1 := zz_rg x1
    have g_x2 := zz_rg x2
    have g_x3 := zz_rg x3
    have g_x4 := zz_rg x4
    have g_s0 := zz_rg s0
    have g_s1 := zz_rg s1
    have g_s2 := zz_rg s2
    have g_s3 := zz_rg s3
    have g_s4 := zz_rg s4
    have g_s10 := zz_rg s10
    have g_s11 := zz_rg s11
    omega
  | succ k ih =>
    intro x1 x2 x3 x4 s0 s1 s2 s3 s4 s5 s6 s7 s8 s9 s10 s11 s12 s13 s14 s15 a0 a1 a2 a3 a4 a5 a6 a7 a8 a9 a10 a11 a12 a13 a14 a15 a16 a17 a18 hz9
    rw [m_X5_takeRow_L5_s]
    have g1 := zz_rg x1
    have g2 := zz_rg x2
    have g3 := zz_rg x3
    have g4 := zz_rg x4
    have g5 := zz_rg s0
    have g6 := zz_rg s1
    have g7 := zz_rg s2
    have g8 := zz_rg s3
    have g9 := zz_rg s4
    have g10 := zz_rg s10
    have g11 := zz_rg s11
    refine zz_ok_ite (fun c12 => ?_) (fun c12 => ?_)
    · have c12 := Int32.le_iff_toInt_le.mp c12
      refine zz_ok_some ?_
      show s1.toInt = s1.toInt ∧ s2.toInt = s2.toInt ∧ 0 ≤ s10.toInt ∧ s10.toInt ≤ 512 ∧ s0.toInt = s0.toInt
      refine ⟨?_, ?_, ?_, ?_, ?_⟩ <;> omega
    · have c12 := zz_nle c12
      have l13 : (1 : Int32).toInt = 1 := rfl
      refine zz_ok_bind (s_X7_addLooked K hK n0 n1 n2 n3 n4 n5 n6 ((1 : Int32)) s1 s2 s3 s4 s5 s6 s7 s8 s9 s10 s11 s12 s13 (by omega) (by omega) (by omega) (by omega) (by omega) (by omega) (by omega) (by omega) (by omega) (by omega) (by omega) (by omega) (by omega)) ?_
      intro z14 hz14
      obtain ⟨t_2_0, t_2_1, t_2_2, t_2_3, t_2_4, t_2_5, t_2_6, t_2_7, t_2_8, t_2_9, t_2_10, t_2_11, t_2_12⟩ := z14
      have q15 : t_2_0.toInt = s1.toInt := hz14.1
      have q16 : t_2_1.toInt = s2.toInt := hz14.2.1
      have q17 : 0 ≤ t_2_9.toInt := hz14.2.2.1
      have q18 : t_2_9.toInt ≤ 512 := hz14.2.2.2
      have g19 := zz_rg t_2_0
      have g20 := zz_rg t_2_1
      have g21 := zz_rg t_2_2
      have g22 := zz_rg t_2_3
      have g23 := zz_rg t_2_9
      have g24 := zz_rg t_2_10
      show zz_ok (if ¬ (x4 < 0 ∨ n7 ≤ x4.toNatClampNeg) then (if (s14 x4.toNatClampNeg) = 0 then (if (x3 + ((1 : Int32))) = x1 then ((m_X5_setPages K n0 n1 n2 n3 n4 n5 n6 n7 n8 ((x4 - x1) + ((1 : Int32))) x1 x2 s0 t_2_0 t_2_1 t_2_2 t_2_3 t_2_4 t_2_5 t_2_6 t_2_7 t_2_8 t_2_9 t_2_10 t_2_11 t_2_12 s14 s15).bind fun ⟨t_8_0, t_8_1, t_8_2, t_8_3, t_8_4, t_8_5, t_8_6, t_8_7, t_8_8, t_8_9, t_8_10, t_8_11, t_8_12, t_8_13, t_8_14, t_8_15⟩ => some (((x4 - x1) + ((1 : Int32))) * ((32 : Int32)), t_8_0, t_8_1, t_8_2, t_8_3, t_8_4, t_8_5, t_8_6, t_8_7, t_8_8, t_8_9, t_8_10, t_8_11, t_8_12, t_8_13, t_8_14, t_8_15)) else (m_X5_takeRow_L5 K n0 n1 n2 n3 n4 n5 n6 n7 n8 k x1 x2 (x3 + ((1 : Int32))) (x4 + 1) s0 t_2_0 t_2_1 t_2_2 t_2_3 t_2_4 t_2_5 t_2_6 t_2_7 t_2_8 t_2_9 t_2_10 t_2_11 t_2_12 s14 s15)) else (if ((0 : Int32)) = x1 then ((m_X5_setPages K n0 n1 n2 n3 n4 n5 n6 n7 n8 ((x4 - x1) + ((1 : Int32))) x1 x2 s0 t_2_0 t_2_1 t_2_2 t_2_3 t_2_4 t_2_5 t_2_6 t_2_7 t_2_8 t_2_9 t_2_10 t_2_11 t_2_12 s14 s15).bind fun ⟨t_6_0, t_6_1, t_6_2, t_6_3, t_6_4, t_6_5, t_6_6, t_6_7, t_6_8, t_6_9, t_6_10, t_6_11, t_6_12, t_6_13, t_6_14, t_6_15⟩ => some (((x4 - x1) + ((1 : Int32))) * ((32 : Int32)), t_6_0, t_6_1, t_6_2, t_6_3, t_6_4, t_6_5, t_6_6, t_6_7, t_6_8, t_6_9, t_6_10, t_6_11, t_6_12, t_6_13, t_6_14, t_6_15)) else (m_X5_takeRow_L5 K n0 n1 n2 n3 n4 n5 n6 n7 n8 k x1 x2 ((0 : Int32)) (x4 + 1) s0 t_2_0 t_2_1 t_2_2 t_2_3 t_2_4 t_2_5 t_2_6 t_2_7 t_2_8 t_2_9 t_2_10 t_2_11 t_2_12 s14 s15))) else none) _
      refine zz_ok_chk (zz_ix (by omega) (by omega)) ?_
      have g26 := zz_rg (s14 x4.toNatClampNeg)
      have l27 : (0 : Int32).toInt = 0 := rfl
      refine zz_ok_ite (fun c25 => ?_) (fun c25 => ?_)
      · have c25 := congrArg Int32.toInt c25
        obtain ⟨k29, f30⟩ := zz_add x3 (1 : Int32)
        have g31 := zz_rg (x3 + ((1 : Int32)))
        refine zz_ok_ite (fun c28 => ?_) (fun c28 => ?_)
        · have c28 := congrArg Int32.toInt c28
          obtain ⟨k32, f33⟩ := zz_sub x4 x1
          have g34 := zz_rg (x4 - x1)
          obtain ⟨k35, f36⟩ := zz_add (x4 - x1) (1 : Int32)
          have g37 := zz_rg ((x4 - x1) + ((1 : Int32)))
          refine zz_ok_bind (s_X5_setPages K hK n0 n1 n2 n3 n4 n5 n6 n7 n8 ((x4 - x1) + ((1 : Int32))) x1 x2 s0 t_2_0 t_2_1 t_2_2 t_2_3 t_2_4 t_2_5 t_2_6 t_2_7 t_2_8 t_2_9 t_2_10 t_2_11 t_2_12 s14 s15 (by omega) (by omega) (by omega) (by omega) (by omega) (by omega) (by omega) (by omega) (by omega) (by omega) (by omega) (by omega) (by omega) (by omega) (by omega) (by omega) (by omega)) ?_
          intro z38 hz38
          obtain ⟨t_8_0, t_8_1, t_8_2, t_8_3, t_8_4, t_8_5, t_8_6, t_8_7, t_8_8, t_8_9, t_8_10, t_8_11, t_8_12, t_8_13, t_8_14, t_8_15⟩ := z38
          have q39 : t_8_1.toInt = t_2_0.toInt := hz38.1
          have q40 : t_8_2.toInt = t_2_1.toInt := hz38.2.1
          have q41 : 0 ≤ t_8_10.toInt := hz38.2.2.1
          have q42 : t_8_10.toInt ≤ 512 := hz38.2.2.2.1
          have q43 : t_8_0.toInt = s0.toInt := hz38.2.2.2.2
          have g44 := zz_rg t_8_0
          have g45 := zz_rg t_8_1
          have g46 := zz_rg t_8_2
          have g47 := zz_rg t_8_3
          have g48 := zz_rg t_8_4
          have g49 := zz_rg t_8_10
          have g50 := zz_rg t_8_11
          show zz_ok (some (((x4 - x1) + ((1 : Int32))) * ((32 : Int32)), t_8_0, t_8_1, t_8_2, t_8_3, t_8_4, t_8_5, t_8_6, t_8_7, t_8_8, t_8_9, t_8_10, t_8_11, t_8_12, t_8_13, t_8_14, t_8_15)) _
          refine zz_ok_some ?_
          show t_8_1.toInt = s1.toInt ∧ t_8_2.toInt = s2.toInt ∧ 0 ≤ t_8_10.toInt ∧ t_8_10.toInt ≤ 512 ∧ t_8_0.toInt = s0.toInt
          refine ⟨?_, ?_, ?_, ?_, ?_⟩ <;> omega
        · have c28 := zz_neq c28
          obtain ⟨k51, f52⟩ := zz_add x4 (1 : Int32)
          have g53 := zz_rg (x4 + 1)
          refine (ih x1 x2 (x3 + ((1 : Int32))) (x4 + 1) s0 t_2_0 t_2_1 t_2_2 t_2_3 t_2_4 t_2_5 t_2_6 t_2_7 t_2_8 t_2_9 t_2_10 t_2_11 t_2_12 s14 s15 (by omega) (by omega) (by omega) (by omega) (by omega) (by omega) (by omega) (by omega) (by omega) (by omega) (by omega) (by omega) (by omega) (by omega) (by omega) (by omega) (by omega) (by omega) (by omega) (by omega)).mono (fun z hz => ?_)
          have q54 : z.2.2.1.toInt = t_2_0.toInt := hz.1
          have q55 : z.2.2.2.1.toInt = t_2_1.toInt := hz.2.1
          have q56 : 0 ≤ z.2.2.2.2.2.2.2.2.2.2.2.1.toInt := hz.2.2.1
          have q57 : z.2.2.2.2.2.2.2.2.2.2.2.1.toInt ≤ 512 := hz.2.2.2.1
          have q58 : z.2.1.toInt = s0.toInt := hz.2.2.2.2
          show z.2.2.1.toInt = s1.toInt ∧ z.2.2.2.1.toInt = s2.toInt ∧ 0 ≤ z.2.2.2.2.2.2.2.2.2.2.2.1.toInt ∧ z.2.2.2.2.2.2.2.2.2.2.2.1.toInt ≤ 512 ∧ z.2.1.toInt = s0.toInt
          refine ⟨?_, ?_, ?_, ?_, ?_⟩ <;> omega
      · have c25 := zz_neq c25
        refine zz_ok_ite (fun c59 => ?_) (fun c59 => ?_)
        · have c59 := congrArg Int32.toInt c59
          obtain ⟨k60, f61⟩ := zz_sub x4 x1
          have g62 := zz_rg (x4 - x1)
          obtain ⟨k63, f64⟩ := zz_add (x4 - x1) (1 : Int32)
          have g65 := zz_rg ((x4 - x1) + ((1 : Int32)))
          refine zz_ok_bind (s_X5_setPages K hK n0 n1 n2 n3 n4 n5 n6 n7 n8 ((x4 - x1) + ((1 : Int32))) x1 x2 s0 t_2_0 t_2_1 t_2_2 t_2_3 t_2_4 t_2_5 t_2_6 t_2_7 t_2_8 t_2_9 t_2_10 t_2_11 t_2_12 s14 s15 (by omega) (by omega) (by omega) (by omega) (by omega) (by omega) (by omega) (by omega) (by omega) (by omega) (by omega) (by omega) (by omega) (by omega) (by omega) (by omega) (by omega)) ?_
          intro z66 hz66
          obtain ⟨t_6_0, t_6_1, t_6_2, t_6_3, t_6_4, t_6_5, t_6_6, t_6_7, t_6_8, t_6_9, t_6_10, t_6_11, t_6_12, t_6_13, t_6_14, t_6_15⟩ := z66
          have q67 : t_6_1.toInt = t_2_0.toInt := hz66.1
          have q68 : t_6_2.toInt = t_2_1.toInt := hz66.2.1
          have q69 : 0 ≤ t_6_10.toInt := hz66.2.2.1
          have q70 : t_6_10.toInt ≤ 512 := hz66.2.2.2.1
          have q71 : t_6_0.toInt = s0.toInt := hz66.2.2.2.2
          have g72 := zz_rg t_6_0
          have g73 := zz_rg t_6_1
          have g74 := zz_rg t_6_2
          have g75 := zz_rg t_6_3
          have g76 := zz_rg t_6_4
          have g77 := zz_rg t_6_10
          have g78 := zz_rg t_6_11
          show zz_ok (some (((x4 - x1) + ((1 : Int32))) * ((32 : Int32)), t_6_0, t_6_1, t_6_2, t_6_3, t_6_4, t_6_5, t_6_6, t_6_7, t_6_8, t_6_9, t_6_10, t_6_11, t_6_12, t_6_13, t_6_14, t_6_15)) _
          refine zz_ok_some ?_
          show t_6_1.toInt = s1.toInt ∧ t_6_2.toInt = s2.toInt ∧ 0 ≤ t_6_10.toInt ∧ t_6_10.toInt ≤ 512 ∧ t_6_0.toInt = s0.toInt
          refine ⟨?_, ?_, ?_, ?_, ?_⟩ <;> omega
        · have c59 := zz_neq c59
          obtain ⟨k79, f80⟩ := zz_add x4 (1 : Int32)
          have g81 := zz_rg (x4 + 1)
          refine (ih x1 x2 ((0 : Int32)) (x4 + 1) s0 t_2_0 t_2_1 t_2_2 t_2_3 t_2_4 t_2_5 t_2_6 t_2_7 t_2_8 t_2_9 t_2_10 t_2_11 t_2_12 s14 s15 (by omega) (by omega) (by omega) (by omega) (by omega) (by omega) (by omega) (by omega) (by omega) (by omega) (by omega) (by omega) (by omega) (by omega) (by omega) (by omega) (by omega) (by omega) (by omega) (by omega)).mono (fun z hz => ?_)
          have q82 : z.2.2.1.toInt = t_2_0.toInt := hz.1
          have q83 : z.2.2.2.1.toInt = t_2_1.toInt := hz.2.1
          have q84 : 0 ≤ z.2.2.2.2.2.2.2.2.2.2.2.1.toInt := hz.2.2.1
          have q85 : z.2.2.2.2.2.2.2.2.2.2.2.1.toInt ≤ 512 := hz.2.2.2.1
          have q86 : z.2.1.toInt = s0.toInt := hz.2.2.2.2
          show z.2.2.1.toInt = s1.toInt ∧ z.2.2.2.1.toInt = s2.toInt ∧ 0 ≤ z.2.2.2.2.2.2.2.2.2.2.2.1.toInt ∧ z.2.2.2.2.2.2.2.2.2.2.2.1.toInt ≤ 512 ∧ z.2.1.toInt = s0.toInt
          refine ⟨?_, ?_, ?_, ?_, ?_⟩ <;> omega
set_option maxHeartbeats 4000000 in
theorem s_X5_takeRow (K : Nat) (hK : 1099511627776 ≤ K) (n0 : Nat) (n1 : Nat) (n2 : Nat) (n3 : Nat) (n4 : Nat) (n5 : Nat) (n6 : Nat) (n7 : Nat) (n8 : Nat) (p1 : Int32) (p2 : Int32) (s0 : Int32) (s1 : Int32) (s2 : Int32) (s3 : Int32) (s4 : Int32) (s5 : Nat → Int32) (s6 : Nat → Int32) (s7 : Nat → Int32) (s8 : Nat → Int32) (s9 : Nat → Int32) (s10 : Int32) (s11 : Int32) (s12 : Nat → Int32) (s13 : Nat → Int32) (s14 : Nat → Int32) (s15 : Nat → Int32) (a0 : n0 = 1024) (a1 : n1 = 200) (a2 : n2 = 200) (a3 : n3 = 200) (a4 : n4 = 200) (a5 : n5 = 512) (a6 : n6 = 512) (a7 : 0 ≤ s1.toInt) (a8 : s1.toInt ≤ 1024) (a9 : 0 ≤ s2.toInt) (a10 : s2.toInt ≤ 200) (a11 : 0 ≤ s10.toInt) (a12 : s10.toInt ≤ 512) (a13 : n7 = 32) (a14 : n8 = 32) (a15 : 0 ≤ s0.toInt) (a16 : s0.toInt ≤ 32) : zz_ok (m_X5_takeRow K n0 n1 n2 n3 n4 n5 n6 n7 n8 p1 p2 s0 s1 s2 s3 s4 s5 s6 s7 s8 s9 s10 s11 s12 s13 s14 s15) (fun z => z.2.2.1.toInt = s1.toInt ∧ z.2.2.2.1.toInt = s2.toInt ∧ 0 ≤ z.2.2.2.2.2.2.2.2.2.2.2.1.toInt ∧ z.2.2.2.2.2.2.2.2.2.2.2.1.toInt ≤ 512 ∧ z.2.1.toInt = s0.toInt) := by
  have g1 := zz_rg p1
  have g2 := zz_rg p2
  have g3 := zz_rg s0
  have g4 := zz_rg s1
  have g5 := zz_rg s2
  have g6 := zz_rg s3
  have g7 := zz_rg s4
  have g8 := zz_rg s10
  have g9 := zz_rg s11
  unfold m_X5_takeRow
  have l10 : (0 : Int32).toInt = 0 := rfl
  refine (s_X5_takeRow_L5 K hK n0 n1 n2 n3 n4 n5 n6 n7 n8 K p1 p2 ((0 : Int32)) ((0 : Int32)) s0 s1 s2 s3 s4 s5 s6 s7 s8 s9 s10 s11 s12 s13 s14 s15 (by omega) (by omega) (by omega) (by omega) (by omega) (by omega) (by omega) (by omega) (by omega) (by omega) (by omega) (by omega) (by omega) (by omega) (by omega) (by omega) (by omega) (by omega) (by omega) (by omega)).mono (fun z hz => ?_)
  have q11 : z.2.2.1.toInt = s1.toInt := hz.1
  have q12 : z.2.2.2.1.toInt = s2.toInt := hz.2.1
  have q13 : 0 ≤ z.2.2.2.2.2.2.2.2.2.2.2.1.toInt := hz.2.2.1
  have q14 : z.2.2.2.2.2.2.2.2.2.2.2.1.toInt ≤ 512 := hz.2.2.2.1
  have q15 : z.2.1.toInt = s0.toInt := hz.2.2.2.2
  show z.2.2.1.toInt = s1.toInt ∧ z.2.2.2.1.toInt = s2.toInt ∧ 0 ≤ z.2.2.2.2.2.2.2.2.2.2.2.1.toInt ∧ z.2.2.2.2.2.2.2.2.2.2.2.1.toInt ≤ 512 ∧ z.2.1.toInt = s0.toInt
  refine ⟨?_, ?_, ?_, ?_, ?_⟩ <;> omega
set_option maxHeartbeats 4000000 in
theorem s_X5_freePlaceIn_L13 (K : Nat) (hK : 1099511627776 ≤ K) (n0 : Nat) (n1 : Nat) (n2 : Nat) (n3 : Nat) (n4 : Nat) (n5 : Nat) (n6 : Nat) (n7 : Nat) (n8 : Nat) : ∀ (k : Nat) (x1 : Int32) (x2 : Int32) (x3 : Int32) (x4 : Int32) (s0 : Int32) (s1 : Int32) (s2 : Int32) (s3 : Int32) (s4 : Int32) (s5 : Nat → Int32) (s6 : Nat → Int32) (s7 : Nat → Int32) (s8 : Nat → Int32) (s9 : Nat → Int32) (s10 : Int32) (s11 : Int32) (s12 : Nat → Int32) (s13 : Nat → Int32) (s14 : Nat → Int32) (s15 : Nat → Int32), n0 = 1024 → n1 = 200 → n2 = 200 → n3 = 200 → n4 = 200 → n5 = 512 → n6 = 512 → 0 ≤ s1.toInt → s1.toInt ≤ 1024 → 0 ≤ s2.toInt → s2.toInt ≤ 200 → 0 ≤ s10.toInt → s10.toInt ≤ 512 → n7 = 32 → n8 = 32 → 0 ≤ s0.toInt → s0.toInt ≤ 32 → x2.toInt ≤ 2000 → x3.toInt ≤ 2000 → 0 ≤ x4.toInt → x4.toInt ≤ 4000 → 4000 - x4.toInt < (k : Int) → zz_ok (m_X5_freePlaceIn_L13 K n0 n1 n2 n3 n4 n5 n6 n7 n8 k x1 x2 x3 x4 s0 s1 s2 s3 s4 s5 s6 s7 s8 s9 s10 s11 s12 s13 s14 s15) (fun z => z.2.2.1.toInt = s1.toInt ∧ z.2.2.2.1.toInt = s2.toInt ∧ 0 ≤ z.2.2.2.2.2.2.2.2.2.2.2.1.toInt ∧ z.2.2.2.2.2.2.2.2.2.2.2.1.toInt ≤ 512 ∧ z.2.1.toInt = s0.toInt) := by
  intro k
  induction k with
  | zero =>
    intro x1 x2 x3 x4 s0 s1 s2 s3 s4 s5 s6 s7 s8 s9 s10 s11 s12 s13 s14 s15 a0 a1 a2 a3 a4 a5 a6 a7 a8 a9 a10 a11 a12 a13 a14 a15 a16 a17 a18 a19 a20 hz9
    exfalso
    have g_x1 := zz_rg x1
    have g_x2 := zz_rg x2
    have g_x3 := zz_rg x3
    have g_x4 := zz_rg x4
    have g_s0 := zz_rg s0
    have g_s1 := zz_rg s1
    have g_s2 := zz_rg s2
    have g_s3 := zz_rg s3
    have g_s4 := zz_rg s4
    have g_s10 := zz_rg s10
    have g_s11 := zz_rg s11
    omega
  | succ k ih =>
    intro x1 x2 x3 x4 s0 s1 s2 s3 s4 s5 s6 s7 s8 s9 s10 s11 s12 s13 s14 s15 a0 a1 a2 a3 a4 a5 a6 a7 a8 a9 a10 a11 a12 a13 a14 a15 a16 a17 a18 a19 a20 hz9
    rw [m_X5_freePlaceIn_L13_s]
    have g1 := zz_rg x1
    have g2 := zz_rg x2
    have g3 := zz_rg x3
    have g4 := zz_rg x4
    have g5 := zz_rg s0
    have g6 := zz_rg s1
    have g7 := zz_rg s2
    have g8 := zz_rg s3
    have g9 := zz_rg s4
    have g10 := zz_rg s10
    have g11 := zz_rg s11
    refine zz_ok_ite (fun c12 => ?_) (fun c12 => ?_)
    · have c12 := Int32.le_iff_toInt_le.mp c12
      refine zz_ok_some ?_
      show s1.toInt = s1.toInt ∧ s2.toInt = s2.toInt ∧ 0 ≤ s10.toInt ∧ s10.toInt ≤ 512 ∧ s0.toInt = s0.toInt
      refine ⟨?_, ?_, ?_, ?_, ?_⟩ <;> omega
    · have c12 := zz_nle c12
      refine zz_ok_bind (s_X7_isFree K hK n0 n1 n2 n3 n4 n5 n6 x4 s1 s2 s3 s4 s5 s6 s7 s8 s9 s10 s11 s12 s13 (by omega) (by omega) (by omega) (by omega) (by omega) (by omega) (by omega) (by omega) (by omega) (by omega) (by omega) (by omega) (by omega)) ?_
      intro z13 hz13
      obtain ⟨r_2, t_2_0, t_2_1, t_2_2, t_2_3, t_2_4, t_2_5, t_2_6, t_2_7, t_2_8, t_2_9, t_2_10, t_2_11, t_2_12⟩ := z13
      have q14 : (r_2.toInt = 0 ∨ r_2.toInt = 1) := hz13.1
      have q15 : t_2_0.toInt = s1.toInt := hz13.2.1
      have q16 : t_2_1.toInt = s2.toInt := hz13.2.2.1
      have q17 : 0 ≤ t_2_9.toInt := hz13.2.2.2.1
      have q18 : t_2_9.toInt ≤ 512 := hz13.2.2.2.2
      have g19 := zz_rg r_2
      have g20 := zz_rg t_2_0
      have g21 := zz_rg t_2_1
      have g22 := zz_rg t_2_2
      have g23 := zz_rg t_2_3
      have g24 := zz_rg t_2_9
      have g25 := zz_rg t_2_10
      show zz_ok (if r_2 = 0 then (m_X5_freePlaceIn_L13 K n0 n1 n2 n3 n4 n5 n6 n7 n8 k x1 x2 x3 (x4 + (zz_max x2 ((1 : Int32)))) s0 t_2_0 t_2_1 t_2_2 t_2_3 t_2_4 t_2_5 t_2_6 t_2_7 t_2_8 t_2_9 t_2_10 t_2_11 t_2_12 s14 s15) else (some (x4, s0, t_2_0, t_2_1, t_2_2, t_2_3, t_2_4, t_2_5, t_2_6, t_2_7, t_2_8, t_2_9, t_2_10, t_2_11, t_2_12, s14, s15))) _
      have l27 : (0 : Int32).toInt = 0 := rfl
      refine zz_ok_ite (fun c26 => ?_) (fun c26 => ?_)
      · have c26 := congrArg Int32.toInt c26
        have l28 : (1 : Int32).toInt = 1 := rfl
        have f29 := zz_maxF x2 (1 : Int32)
        have g30 := zz_rg (zz_max x2 ((1 : Int32)))
        obtain ⟨k31, f32⟩ := zz_add x4 (zz_max x2 ((1 : Int32)))
        have g33 := zz_rg (x4 + (zz_max x2 ((1 : Int32))))
        refine (ih x1 x2 x3 (x4 + (zz_max x2 ((1 : Int32)))) s0 t_2_0 t_2_1 t_2_2 t_2_3 t_2_4 t_2_5 t_2_6 t_2_7 t_2_8 t_2_9 t_2_10 t_2_11 t_2_12 s14 s15 (by omega) (by omega) (by omega) (by omega) (by omega) (by omega) (by omega) (by omega) (by omega) (by omega) (by omega) (by omega) (by omega) (by omega) (by omega) (by omega) (by omega) (by omega) (by omega) (by omega) (by omega) (by omega)).mono (fun z hz => ?_)
        have q34 : z.2.2.1.toInt = t_2_0.toInt := hz.1
        have q35 : z.2.2.2.1.toInt = t_2_1.toInt := hz.2.1
        have q36 : 0 ≤ z.2.2.2.2.2.2.2.2.2.2.2.1.toInt := hz.2.2.1
        have q37 : z.2.2.2.2.2.2.2.2.2.2.2.1.toInt ≤ 512 := hz.2.2.2.1
        have q38 : z.2.1.toInt = s0.toInt := hz.2.2.2.2
        show z.2.2.1.toInt = s1.toInt ∧ z.2.2.2.1.toInt = s2.toInt ∧ 0 ≤ z.2.2.2.2.2.2.2.2.2.2.2.1.toInt ∧ z.2.2.2.2.2.2.2.2.2.2.2.1.toInt ≤ 512 ∧ z.2.1.toInt = s0.toInt
        refine ⟨?_, ?_, ?_, ?_, ?_⟩ <;> omega
      · have c26 := zz_neq c26
        refine zz_ok_some ?_
        show t_2_0.toInt = s1.toInt ∧ t_2_1.toInt = s2.toInt ∧ 0 ≤ t_2_9.toInt ∧ t_2_9.toInt ≤ 512 ∧ s0.toInt = s0.toInt
        refine ⟨?_, ?_, ?_, ?_, ?_⟩ <;> omega
set_option maxHeartbeats 4000000 in
theorem s_X5_freePlaceIn (K : Nat) (hK : 1099511627776 ≤ K) (n0 : Nat) (n1 : Nat) (n2 : Nat) (n3 : Nat) (n4 : Nat) (n5 : Nat) (n6 : Nat) (n7 : Nat) (n8 : Nat) (p1 : Int32) (p2 : Int32) (s0 : Int32) (s1 : Int32) (s2 : Int32) (s3 : Int32) (s4 : Int32) (s5 : Nat → Int32) (s6 : Nat → Int32) (s7 : Nat → Int32) (s8 : Nat → Int32) (s9 : Nat → Int32) (s10 : Int32) (s11 : Int32) (s12 : Nat → Int32) (s13 : Nat → Int32) (s14 : Nat → Int32) (s15 : Nat → Int32) (a0 : n0 = 1024) (a1 : n1 = 200) (a2 : n2 = 200) (a3 : n3 = 200) (a4 : n4 = 200) (a5 : n5 = 512) (a6 : n6 = 512) (a7 : 0 ≤ s1.toInt) (a8 : s1.toInt ≤ 1024) (a9 : 0 ≤ s2.toInt) (a10 : s2.toInt ≤ 200) (a11 : 0 ≤ s10.toInt) (a12 : s10.toInt ≤ 512) (a13 : n7 = 32) (a14 : n8 = 32) (a15 : 0 ≤ s0.toInt) (a16 : s0.toInt ≤ 32) (a17 : 0 ≤ p1.toInt) (a18 : p1.toInt ≤ 32) (a19 : p2.toInt ≤ 2000) : zz_ok (m_X5_freePlaceIn K n0 n1 n2 n3 n4 n5 n6 n7 n8 p1 p2 s0 s1 s2 s3 s4 s5 s6 s7 s8 s9 s10 s11 s12 s13 s14 s15) (fun z => z.2.2.1.toInt = s1.toInt ∧ z.2.2.2.1.toInt = s2.toInt ∧ 0 ≤ z.2.2.2.2.2.2.2.2.2.2.2.1.toInt ∧ z.2.2.2.2.2.2.2.2.2.2.2.1.toInt ≤ 512 ∧ z.2.1.toInt = s0.toInt) := by
  have g1 := zz_rg p1
  have g2 := zz_rg p2
  have g3 := zz_rg s0
  have g4 := zz_rg s1
  have g5 := zz_rg s2
  have g6 := zz_rg s3
  have g7 := zz_rg s4
  have g8 := zz_rg s10
  have g9 := zz_rg s11
  unfold m_X5_freePlaceIn
  have l10 : (1 : Int32).toInt = 1 := rfl
  obtain ⟨k11, f12⟩ := zz_add p1 (1 : Int32)
  have g13 := zz_rg (p1 + ((1 : Int32)))
  have l14 : (32 : Int32).toInt = 32 := rfl
  obtain ⟨k15, f16⟩ := zz_mul (p1 + ((1 : Int32))) (32 : Int32)
  rw [show (32 : Int32).toInt = 32 from rfl] at f16
  have g17 := zz_rg ((p1 + ((1 : Int32))) * ((32 : Int32)))
  obtain ⟨k18, f19⟩ := zz_mul p1 (32 : Int32)
  rw [show (32 : Int32).toInt = 32 from rfl] at f19
  have g20 := zz_rg (p1 * ((32 : Int32)))
  refine (s_X5_freePlaceIn_L13 K hK n0 n1 n2 n3 n4 n5 n6 n7 n8 K p1 p2 ((p1 + ((1 : Int32))) * ((32 : Int32))) (p1 * ((32 : Int32))) s0 s1 s2 s3 s4 s5 s6 s7 s8 s9 s10 s11 s12 s13 s14 s15 (by omega) (by omega) (by omega) (by omega) (by omega) (by omega) (by omega) (by omega) (by omega) (by omega) (by omega) (by omega) (by omega) (by omega) (by omega) (by omega) (by omega) (by omega) (by omega) (by omega) (by omega) (by omega)).mono (fun z hz => ?_)
  have q21 : z.2.2.1.toInt = s1.toInt := hz.1
  have q22 : z.2.2.2.1.toInt = s2.toInt := hz.2.1
  have q23 : 0 ≤ z.2.2.2.2.2.2.2.2.2.2.2.1.toInt := hz.2.2.1
  have q24 : z.2.2.2.2.2.2.2.2.2.2.2.1.toInt ≤ 512 := hz.2.2.2.1
  have q25 : z.2.1.toInt = s0.toInt := hz.2.2.2.2
  show z.2.2.1.toInt = s1.toInt ∧ z.2.2.2.1.toInt = s2.toInt ∧ 0 ≤ z.2.2.2.2.2.2.2.2.2.2.2.1.toInt ∧ z.2.2.2.2.2.2.2.2.2.2.2.1.toInt ≤ 512 ∧ z.2.1.toInt = s0.toInt
  refine ⟨?_, ?_, ?_, ?_, ?_⟩ <;> omega
set_option maxHeartbeats 4000000 in
theorem s_X5_takeInPageOf_L2 (K : Nat) (hK : 1099511627776 ≤ K) (n0 : Nat) (n1 : Nat) (n2 : Nat) (n3 : Nat) (n4 : Nat) (n5 : Nat) (n6 : Nat) (n7 : Nat) (n8 : Nat) : ∀ (k : Nat) (x1 : Int32) (x2 : Int32) (s0 : Int32) (s1 : Int32) (s2 : Int32) (s3 : Int32) (s4 : Int32) (s5 : Nat → Int32) (s6 : Nat → Int32) (s7 : Nat → Int32) (s8 : Nat → Int32) (s9 : Nat → Int32) (s10 : Int32) (s11 : Int32) (s12 : Nat → Int32) (s13 : Nat → Int32) (s14 : Nat → Int32) (s15 : Nat → Int32), n0 = 1024 → n1 = 200 → n2 = 200 → n3 = 200 → n4 = 200 → n5 = 512 → n6 = 512 → 0 ≤ s1.toInt → s1.toInt ≤ 1024 → 0 ≤ s2.toInt → s2.toInt ≤ 200 → 0 ≤ s10.toInt → s10.toInt ≤ 512 → n7 = 32 → n8 = 32 → 0 ≤ s0.toInt → s0.toInt ≤ 32 → 0 ≤ x2.toInt → x2.toInt ≤ s0.toInt → x1.toInt ≤ 2000 → s0.toInt - x2.toInt < (k : Int) → zz_ok (m_X5_takeInPageOf_L2 K n0 n1 n2 n3 n4 n5 n6 n7 n8 k x1 x2 s0 s1 s2 s3 s4 s5 s6 s7 s8 s9 s10 s11 s12 s13 s14 s15) (fun z => z.2.2.1.toInt = s1.toInt ∧ z.2.2.2.1.toInt = s2.toInt ∧ 0 ≤ z.2.2.2.2.2.2.2.2.2.2.2.1.toInt ∧ z.2.2.2.2.2.2.2.2.2.2.2.1.toInt ≤ 512 ∧ z.2.1.toInt = s0.toInt) := by
  intro k
  induction k with
  | zero =>
    intro x1 x2 s0 s1 s2 s3 s4 s5 s6 s7 s8 s9 s10 s11 s12 s13 s14 s15 a0 a1 a2 a3 a4 a5 a6 a7 a8 a9 a10 a11 a12 a13 a14 a15 a16 a17 a18 a19 hz9
    exfalso
    have g_x1 := zz_rg x1
    have g_x2 := zz_rg x2
    have g_s0 := zz_rg s0
    have g_s1 := zz_rg s1
    have g_s2 := zz_rg s2
    have g_s3 := zz_rg s3
    have g_s4 := zz_rg s4
    have g_s10 := zz_rg s10
    have g_s11 := zz_rg s11
    omega
  | succ k ih =>
    intro x1 x2 s0 s1 s2 s3 s4 s5 s6 s7 s8 s9 s10 s11 s12 s13 s14 s15 a0 a1 a2 a3 a4 a5 a6 a7 a8 a9 a10 a11 a12 a13 a14 a15 a16 a17 a18 a19 hz9
    rw [m_X5_takeInPageOf_L2_s]
    have g1 := zz_rg x1
    have g2 := zz_rg x2
    have g3 := zz_rg s0
    have g4 := zz_rg s1
    have g5 := zz_rg s2
    have g6 := zz_rg s3
    have g7 := zz_rg s4
    have g8 := zz_rg s10
    have g9 := zz_rg s11
    refine zz_ok_ite (fun c10 => ?_) (fun c10 => ?_)
    · have c10 := Int32.le_iff_toInt_le.mp c10
      refine zz_ok_some ?_
      show s1.toInt = s1.toInt ∧ s2.toInt = s2.toInt ∧ 0 ≤ s10.toInt ∧ s10.toInt ≤ 512 ∧ s0.toInt = s0.toInt
      refine ⟨?_, ?_, ?_, ?_, ?_⟩ <;> omega
    · have c10 := zz_nle c10
      refine zz_ok_chk (zz_ix (by omega) (by omega)) ?_
      have g12 := zz_rg (s14 x2.toNatClampNeg)
      refine zz_ok_ite (fun c11 => ?_) (fun c11 => ?_)
      · have c11 := congrArg Int32.toInt c11
        have l13 : (1 : Int32).toInt = 1 := rfl
        refine zz_ok_bind (s_X7_addLooked K hK n0 n1 n2 n3 n4 n5 n6 ((1 : Int32)) s1 s2 s3 s4 s5 s6 s7 s8 s9 s10 s11 s12 s13 (by omega) (by omega) (by omega) (by omega) (by omega) (by omega) (by omega) (by omega) (by omega) (by omega) (by omega) (by omega) (by omega)) ?_
        intro z14 hz14
        obtain ⟨t_4_0, t_4_1, t_4_2, t_4_3, t_4_4, t_4_5, t_4_6, t_4_7, t_4_8, t_4_9, t_4_10, t_4_11, t_4_12⟩ := z14
        have q15 : t_4_0.toInt = s1.toInt := hz14.1
        have q16 : t_4_1.toInt = s2.toInt := hz14.2.1
        have q17 : 0 ≤ t_4_9.toInt := hz14.2.2.1
        have q18 : t_4_9.toInt ≤ 512 := hz14.2.2.2
        have g19 := zz_rg t_4_0
        have g20 := zz_rg t_4_1
        have g21 := zz_rg t_4_2
        have g22 := zz_rg t_4_3
        have g23 := zz_rg t_4_9
        have g24 := zz_rg t_4_10
        show zz_ok ((m_X5_freePlaceIn K n0 n1 n2 n3 n4 n5 n6 n7 n8 x2 x1 s0 t_4_0 t_4_1 t_4_2 t_4_3 t_4_4 t_4_5 t_4_6 t_4_7 t_4_8 t_4_9 t_4_10 t_4_11 t_4_12 s14 s15).bind fun ⟨r_5, t_5_0, t_5_1, t_5_2, t_5_3, t_5_4, t_5_5, t_5_6, t_5_7, t_5_8, t_5_9, t_5_10, t_5_11, t_5_12, t_5_13, t_5_14, t_5_15⟩ => if r_5 = ((-1 : Int32)) then (m_X5_takeInPageOf_L2 K n0 n1 n2 n3 n4 n5 n6 n7 n8 k x1 (x2 + 1) t_5_0 t_5_1 t_5_2 t_5_3 t_5_4 t_5_5 t_5_6 t_5_7 t_5_8 t_5_9 t_5_10 t_5_11 t_5_12 t_5_13 t_5_14 t_5_15) else (if ¬ (x2 < 0 ∨ n8 ≤ x2.toNatClampNeg) then (if ¬ (x2 < 0 ∨ n8 ≤ x2.toNatClampNeg) then (some (r_5, t_5_0, t_5_1, t_5_2, t_5_3, t_5_4, t_5_5, t_5_6, t_5_7, t_5_8, t_5_9, t_5_10, t_5_11, t_5_12, t_5_13, t_5_14, upd t_5_15 x2.toNatClampNeg ((t_5_15 x2.toNatClampNeg) + ((1 : Int32))))) else none) else none)) _
        refine zz_ok_bind (s_X5_freePlaceIn K hK n0 n1 n2 n3 n4 n5 n6 n7 n8 x2 x1 s0 t_4_0 t_4_1 t_4_2 t_4_3 t_4_4 t_4_5 t_4_6 t_4_7 t_4_8 t_4_9 t_4_10 t_4_11 t_4_12 s14 s15 (by omega) (by omega) (by omega) (by omega) (by omega) (by omega) (by omega) (by omega) (by omega) (by omega) (by omega) (by omega) (by omega) (by omega) (by omega) (by omega) (by omega) (by omega) (by omega) (by omega)) ?_
        intro z25 hz25
        obtain ⟨r_5, t_5_0, t_5_1, t_5_2, t_5_3, t_5_4, t_5_5, t_5_6, t_5_7, t_5_8, t_5_9, t_5_10, t_5_11, t_5_12, t_5_13, t_5_14, t_5_15⟩ := z25
        have q26 : t_5_1.toInt = t_4_0.toInt := hz25.1
        have q27 : t_5_2.toInt = t_4_1.toInt := hz25.2.1
        have q28 : 0 ≤ t_5_10.toInt := hz25.2.2.1
        have q29 : t_5_10.toInt ≤ 512 := hz25.2.2.2.1
        have q30 : t_5_0.toInt = s0.toInt := hz25.2.2.2.2
        have g31 := zz_rg r_5
        have g32 := zz_rg t_5_0
        have g33 := zz_rg t_5_1
        have g34 := zz_rg t_5_2
        have g35 := zz_rg t_5_3
        have g36 := zz_rg t_5_4
        have g37 := zz_rg t_5_10
        have g38 := zz_rg t_5_11
        show zz_ok (if r_5 = ((-1 : Int32)) then (m_X5_takeInPageOf_L2 K n0 n1 n2 n3 n4 n5 n6 n7 n8 k x1 (x2 + 1) t_5_0 t_5_1 t_5_2 t_5_3 t_5_4 t_5_5 t_5_6 t_5_7 t_5_8 t_5_9 t_5_10 t_5_11 t_5_12 t_5_13 t_5_14 t_5_15) else (if ¬ (x2 < 0 ∨ n8 ≤ x2.toNatClampNeg) then (if ¬ (x2 < 0 ∨ n8 ≤ x2.toNatClampNeg) then (some (r_5, t_5_0, t_5_1, t_5_2, t_5_3, t_5_4, t_5_5, t_5_6, t_5_7, t_5_8, t_5_9, t_5_10, t_5_11, t_5_12, t_5_13, t_5_14, upd t_5_15 x2.toNatClampNeg ((t_5_15 x2.toNatClampNeg) + ((1 : Int32))))) else none) else none)) _
        have l40 : (-1 : Int32).toInt = -1 := rfl
        refine zz_ok_ite (fun c39 => ?_) (fun c39 => ?_)
        · have c39 := congrArg Int32.toInt c39
          obtain ⟨k41, f42⟩ := zz_add x2 (1 : Int32)
          have g43 := zz_rg (x2 + 1)
          refine (ih x1 (x2 + 1) t_5_0 t_5_1 t_5_2 t_5_3 t_5_4 t_5_5 t_5_6 t_5_7 t_5_8 t_5_9 t_5_10 t_5_11 t_5_12 t_5_13 t_5_14 t_5_15 (by omega) (by omega) (by omega) (by omega) (by omega) (by omega) (by omega) (by omega) (by omega) (by omega) (by omega) (by omega) (by omega) (by omega) (by omega) (by omega) (by omega) (by omega) (by omega) (by omega) (by omega)).mono (fun z hz => ?_)
          have q44 : z.2.2.1.toInt = t_5_1.toInt := hz.1
          have q45 : z.2.2.2.1.toInt = t_5_2.toInt := hz.2.1
          have q46 : 0 ≤ z.2.2.2.2.2.2.2.2.2.2.2.1.toInt := hz.2.2.1
          have q47 : z.2.2.2.2.2.2.2.2.2.2.2.1.toInt ≤ 512 := hz.2.2.2.1
          have q48 : z.2.1.toInt = t_5_0.toInt := hz.2.2.2.2
          show z.2.2.1.toInt = s1.toInt ∧ z.2.2.2.1.toInt = s2.toInt ∧ 0 ≤ z.2.2.2.2.2.2.2.2.2.2.2.1.toInt ∧ z.2.2.2.2.2.2.2.2.2.2.2.1.toInt ≤ 512 ∧ z.2.1.toInt = s0.toInt
          refine ⟨?_, ?_, ?_, ?_, ?_⟩ <;> omega
        · have c39 := zz_neq c39
          refine zz_ok_chk (zz_ix (by omega) (by omega)) ?_
          refine zz_ok_chk (zz_ix (by omega) (by omega)) ?_
          refine zz_ok_some ?_
          show t_5_1.toInt = s1.toInt ∧ t_5_2.toInt = s2.toInt ∧ 0 ≤ t_5_10.toInt ∧ t_5_10.toInt ≤ 512 ∧ t_5_0.toInt = s0.toInt
          refine ⟨?_, ?_, ?_, ?_, ?_⟩ <;> omega
      · have c11 := zz_neq c11
        have l49 : (1 : Int32).toInt = 1 := rfl
        obtain ⟨k50, f51⟩ := zz_add x2 (1 : Int32)
        have g52 := zz_rg (x2 + 1)
        refine (ih x1 (x2 + 1) s0 s1 s2 s3 s4 s5 s6 s7 s8 s9 s10 s11 s12 s13 s14 s15 (by omega) (by omega) (by omega) (by omega) (by omega) (by omega) (by omega) (by omega) (by omega) (by omega) (by omega) (by omega) (by omega) (by omega) (by omega) (by omega) (by omega) (by omega) (by omega) (by omega) (by omega)).mono (fun z hz => ?_)
        have q53 : z.2.2.1.toInt = s1.toInt := hz.1
        have q54 : z.2.2.2.1.toInt = s2.toInt := hz.2.1
        have q55 : 0 ≤ z.2.2.2.2.2.2.2.2.2.2.2.1.toInt := hz.2.2.1
        have q56 : z.2.2.2.2.2.2.2.2.2.2.2.1.toInt ≤ 512 := hz.2.2.2.1
        have q57 : z.2.1.toInt = s0.toInt := hz.2.2.2.2
        show z.2.2.1.toInt = s1.toInt ∧ z.2.2.2.1.toInt = s2.toInt ∧ 0 ≤ z.2.2.2.2.2.2.2.2.2.2.2.1.toInt ∧ z.2.2.2.2.2.2.2.2.2.2.2.1.toInt ≤ 512 ∧ z.2.1.toInt = s0.toInt
        refine ⟨?_, ?_, ?_, ?_, ?_⟩ <;> omega
set_option maxHeartbeats 4000000 in
theorem s_X5_takeInPageOf (K : Nat) (hK : 1099511627776 ≤ K) (n0 : Nat) (n1 : Nat) (n2 : Nat) (n3 : Nat) (n4 : Nat) (n5 : Nat) (n6 : Nat) (n7 : Nat) (n8 : Nat) (p1 : Int32) (s0 : Int32) (s1 : Int32) (s2 : Int32) (s3 : Int32) (s4 : Int32) (s5 : Nat → Int32) (s6 : Nat → Int32) (s7 : Nat → Int32) (s8 : Nat → Int32) (s9 : Nat → Int32) (s10 : Int32) (s11 : Int32) (s12 : Nat → Int32) (s13 : Nat → Int32) (s14 : Nat → Int32) (s15 : Nat → Int32) (a0 : n0 = 1024) (a1 : n1 = 200) (a2 : n2 = 200) (a3 : n3 = 200) (a4 : n4 = 200) (a5 : n5 = 512) (a6 : n6 = 512) (a7 : 0 ≤ s1.toInt) (a8 : s1.toInt ≤ 1024) (a9 : 0 ≤ s2.toInt) (a10 : s2.toInt ≤ 200) (a11 : 0 ≤ s10.toInt) (a12 : s10.toInt ≤ 512) (a13 : n7 = 32) (a14 : n8 = 32) (a15 : 0 ≤ s0.toInt) (a16 : s0.toInt ≤ 32) (a17 : p1.toInt ≤ 2000) : zz_ok (m_X5_takeInPageOf K n0 n1 n2 n3 n4 n5 n6 n7 n8 p1 s0 s1 s2 s3 s4 s5 s6 s7 s8 s9 s10 s11 s12 s13 s14 s15) (fun z => z.2.2.1.toInt = s1.toInt ∧ z.2.2.2.1.toInt = s2.toInt ∧ 0 ≤ z.2.2.2.2.2.2.2.2.2.2.2.1.toInt ∧ z.2.2.2.2.2.2.2.2.2.2.2.1.toInt ≤ 512 ∧ z.2.1.toInt = s0.toInt) := by
  have g1 := zz_rg p1
  have g2 := zz_rg s0
  have g3 := zz_rg s1
  have g4 := zz_rg s2
  have g5 := zz_rg s3
  have g6 := zz_rg s4
  have g7 := zz_rg s10
  have g8 := zz_rg s11
  unfold m_X5_takeInPageOf
  have l9 : (0 : Int32).toInt = 0 := rfl
  refine (s_X5_takeInPageOf_L2 K hK n0 n1 n2 n3 n4 n5 n6 n7 n8 K p1 ((0 : Int32)) s0 s1 s2 s3 s4 s5 s6 s7 s8 s9 s10 s11 s12 s13 s14 s15 (by omega) (by omega) (by omega) (by omega) (by omega) (by omega) (by omega) (by omega) (by omega) (by omega) (by omega) (by omega) (by omega) (by omega) (by omega) (by omega) (by omega) (by omega) (by omega) (by omega) (by omega)).mono (fun z hz => ?_)
  have q10 : z.2.2.1.toInt = s1.toInt := hz.1
  have q11 : z.2.2.2.1.toInt = s2.toInt := hz.2.1
  have q12 : 0 ≤ z.2.2.2.2.2.2.2.2.2.2.2.1.toInt := hz.2.2.1
  have q13 : z.2.2.2.2.2.2.2.2.2.2.2.1.toInt ≤ 512 := hz.2.2.2.1
  have q14 : z.2.1.toInt = s0.toInt := hz.2.2.2.2
  show z.2.2.1.toInt = s1.toInt ∧ z.2.2.2.1.toInt = s2.toInt ∧ 0 ≤ z.2.2.2.2.2.2.2.2.2.2.2.1.toInt ∧ z.2.2.2.2.2.2.2.2.2.2.2.1.toInt ≤ 512 ∧ z.2.1.toInt = s0.toInt
  refine ⟨?_, ?_, ?_, ?_, ?_⟩ <;> omega
set_option maxHeartbeats 4000000 in
theorem s_X5_take (K : Nat) (hK : 1099511627776 ≤ K) (n0 : Nat) (n1 : Nat) (n2 : Nat) (n3 : Nat) (n4 : Nat) (n5 : Nat) (n6 : Nat) (n7 : Nat) (n8 : Nat) (p1 : Int32) (s0 : Int32) (s1 : Int32) (s2 : Int32) (s3 : Int32) (s4 : Int32) (s5 : Nat → Int32) (s6 : Nat → Int32) (s7 : Nat → Int32) (s8 : Nat → Int32) (s9 : Nat → Int32) (s10 : Int32) (s11 : Int32) (s12 : Nat → Int32) (s13 : Nat → Int32) (s14 : Nat → Int32) (s15 : Nat → Int32) (a0 : n0 = 1024) (a1 : n1 = 200) (a2 : n2 = 200) (a3 : n3 = 200) (a4 : n4 = 200) (a5 : n5 = 512) (a6 : n6 = 512) (a7 : 0 ≤ s1.toInt) (a8 : s1.toInt ≤ 1024) (a9 : 0 ≤ s2.toInt) (a10 : s2.toInt ≤ 200) (a11 : 0 ≤ s10.toInt) (a12 : s10.toInt ≤ 512) (a13 : n7 = 32) (a14 : n8 = 32) (a15 : 0 ≤ s0.toInt) (a16 : s0.toInt ≤ 32) (a17 : p1.toInt ≤ 2000) : zz_ok (m_X5_take K n0 n1 n2 n3 n4 n5 n6 n7 n8 p1 s0 s1 s2 s3 s4 s5 s6 s7 s8 s9 s10 s11 s12 s13 s14 s15) (fun z => z.2.2.1.toInt = s1.toInt ∧ z.2.2.2.1.toInt = s2.toInt ∧ 0 ≤ z.2.2.2.2.2.2.2.2.2.2.2.1.toInt ∧ z.2.2.2.2.2.2.2.2.2.2.2.1.toInt ≤ 512 ∧ z.2.1.toInt = s0.toInt) := by
  have g1 := zz_rg p1
  have g2 := zz_rg s0
  have g3 := zz_rg s1
  have g4 := zz_rg s2
  have g5 := zz_rg s3
  have g6 := zz_rg s4
  have g7 := zz_rg s10
  have g8 := zz_rg s11
  unfold m_X5_take
  have l10 : (32 : Int32).toInt = 32 := rfl
  refine zz_ok_ite (fun c9 => ?_) (fun c9 => ?_)
  · have c9 := Int32.le_iff_toInt_le.mp c9
    refine zz_ok_bind (s_X5_takeInPageOf K hK n0 n1 n2 n3 n4 n5 n6 n7 n8 p1 s0 s1 s2 s3 s4 s5 s6 s7 s8 s9 s10 s11 s12 s13 s14 s15 (by omega) (by omega) (by omega) (by omega) (by omega) (by omega) (by omega) (by omega) (by omega) (by omega) (by omega) (by omega) (by omega) (by omega) (by omega) (by omega) (by omega) (by omega)) ?_
    intro z11 hz11
    obtain ⟨r_2, t_2_0, t_2_1, t_2_2, t_2_3, t_2_4, t_2_5, t_2_6, t_2_7, t_2_8, t_2_9, t_2_10, t_2_11, t_2_12, t_2_13, t_2_14, t_2_15⟩ := z11
    have q12 : t_2_1.toInt = s1.toInt := hz11.1
    have q13 : t_2_2.toInt = s2.toInt := hz11.2.1
    have q14 : 0 ≤ t_2_10.toInt := hz11.2.2.1
    have q15 : t_2_10.toInt ≤ 512 := hz11.2.2.2.1
    have q16 : t_2_0.toInt = s0.toInt := hz11.2.2.2.2
    have g17 := zz_rg r_2
    have g18 := zz_rg t_2_0
    have g19 := zz_rg t_2_1
    have g20 := zz_rg t_2_2
    have g21 := zz_rg t_2_3
    have g22 := zz_rg t_2_4
    have g23 := zz_rg t_2_10
    have g24 := zz_rg t_2_11
    show zz_ok (if r_2 = ((-1 : Int32)) then ((m_X5_takeRow K n0 n1 n2 n3 n4 n5 n6 n7 n8 ((1 : Int32)) p1 t_2_0 t_2_1 t_2_2 t_2_3 t_2_4 t_2_5 t_2_6 t_2_7 t_2_8 t_2_9 t_2_10 t_2_11 t_2_12 t_2_13 t_2_14 t_2_15).bind fun ⟨r_4, t_4_0, t_4_1, t_4_2, t_4_3, t_4_4, t_4_5, t_4_6, t_4_7, t_4_8, t_4_9, t_4_10, t_4_11, t_4_12, t_4_13, t_4_14, t_4_15⟩ => some (r_4, t_4_0, t_4_1, t_4_2, t_4_3, t_4_4, t_4_5, t_4_6, t_4_7, t_4_8, t_4_9, t_4_10, t_4_11, t_4_12, t_4_13, t_4_14, t_4_15)) else (some (r_2, t_2_0, t_2_1, t_2_2, t_2_3, t_2_4, t_2_5, t_2_6, t_2_7, t_2_8, t_2_9, t_2_10, t_2_11, t_2_12, t_2_13, t_2_14, t_2_15))) _
    have l26 : (-1 : Int32).toInt = -1 := rfl
    refine zz_ok_ite (fun c25 => ?_) (fun c25 => ?_)
    · have c25 := congrArg Int32.toInt c25
      have l27 : (1 : Int32).toInt = 1 := rfl
      refine zz_ok_bind (s_X5_takeRow K hK n0 n1 n2 n3 n4 n5 n6 n7 n8 ((1 : Int32)) p1 t_2_0 t_2_1 t_2_2 t_2_3 t_2_4 t_2_5 t_2_6 t_2_7 t_2_8 t_2_9 t_2_10 t_2_11 t_2_12 t_2_13 t_2_14 t_2_15 (by omega) (by omega) (by omega) (by omega) (by omega) (by omega) (by omega) (by omega) (by omega) (by omega) (by omega) (by omega) (by omega) (by omega) (by omega) (by omega) (by omega)) ?_
      intro z28 hz28
      obtain ⟨r_4, t_4_0, t_4_1, t_4_2, t_4_3, t_4_4, t_4_5, t_4_6, t_4_7, t_4_8, t_4_9, t_4_10, t_4_11, t_4_12, t_4_13, t_4_14, t_4_15⟩ := z28
      have q29 : t_4_1.toInt = t_2_1.toInt := hz28.1
      have q30 : t_4_2.toInt = t_2_2.toInt := hz28.2.1
      have q31 : 0 ≤ t_4_10.toInt := hz28.2.2.1
      have q32 : t_4_10.toInt ≤ 512 := hz28.2.2.2.1
      have q33 : t_4_0.toInt = t_2_0.toInt := hz28.2.2.2.2
      have g34 := zz_rg r_4
      have g35 := zz_rg t_4_0
      have g36 := zz_rg t_4_1
      have g37 := zz_rg t_4_2
      have g38 := zz_rg t_4_3
      have g39 := zz_rg t_4_4
      have g40 := zz_rg t_4_10
      have g41 := zz_rg t_4_11
      show zz_ok (some (r_4, t_4_0, t_4_1, t_4_2, t_4_3, t_4_4, t_4_5, t_4_6, t_4_7, t_4_8, t_4_9, t_4_10, t_4_11, t_4_12, t_4_13, t_4_14, t_4_15)) _
      refine zz_ok_some ?_
      show t_4_1.toInt = s1.toInt ∧ t_4_2.toInt = s2.toInt ∧ 0 ≤ t_4_10.toInt ∧ t_4_10.toInt ≤ 512 ∧ t_4_0.toInt = s0.toInt
      refine ⟨?_, ?_, ?_, ?_, ?_⟩ <;> omega
    · have c25 := zz_neq c25
      refine zz_ok_some ?_
      show t_2_1.toInt = s1.toInt ∧ t_2_2.toInt = s2.toInt ∧ 0 ≤ t_2_10.toInt ∧ t_2_10.toInt ≤ 512 ∧ t_2_0.toInt = s0.toInt
      refine ⟨?_, ?_, ?_, ?_, ?_⟩ <;> omega
  · have c9 := zz_nle c9
    try have f42 := zz_divP p1 (32 : Int32) 32 rfl (by decide) (by omega)
    have f43 := zz_divB p1 (32 : Int32) 32 rfl (by decide)
    have g44 := zz_rg (p1 / ((32 : Int32)))
    refine zz_ok_bind (s_X5_takeRow K hK n0 n1 n2 n3 n4 n5 n6 n7 n8 (p1 / ((32 : Int32))) p1 s0 s1 s2 s3 s4 s5 s6 s7 s8 s9 s10 s11 s12 s13 s14 s15 (by omega) (by omega) (by omega) (by omega) (by omega) (by omega) (by omega) (by omega) (by omega) (by omega) (by omega) (by omega) (by omega) (by omega) (by omega) (by omega) (by omega)) ?_
    intro z45 hz45
    obtain ⟨r_5, t_5_0, t_5_1, t_5_2, t_5_3, t_5_4, t_5_5, t_5_6, t_5_7, t_5_8, t_5_9, t_5_10, t_5_11, t_5_12, t_5_13, t_5_14, t_5_15⟩ := z45
    have q46 : t_5_1.toInt = s1.toInt := hz45.1
    have q47 : t_5_2.toInt = s2.toInt := hz45.2.1
    have q48 : 0 ≤ t_5_10.toInt := hz45.2.2.1
    have q49 : t_5_10.toInt ≤ 512 := hz45.2.2.2.1
    have q50 : t_5_0.toInt = s0.toInt := hz45.2.2.2.2
    have g51 := zz_rg r_5
    have g52 := zz_rg t_5_0
    have g53 := zz_rg t_5_1
    have g54 := zz_rg t_5_2
    have g55 := zz_rg t_5_3
    have g56 := zz_rg t_5_4
    have g57 := zz_rg t_5_10
    have g58 := zz_rg t_5_11
    show zz_ok (some (r_5, t_5_0, t_5_1, t_5_2, t_5_3, t_5_4, t_5_5, t_5_6, t_5_7, t_5_8, t_5_9, t_5_10, t_5_11, t_5_12, t_5_13, t_5_14, t_5_15)) _
    refine zz_ok_some ?_
    show t_5_1.toInt = s1.toInt ∧ t_5_2.toInt = s2.toInt ∧ 0 ≤ t_5_10.toInt ∧ t_5_10.toInt ≤ 512 ∧ t_5_0.toInt = s0.toInt
    refine ⟨?_, ?_, ?_, ?_, ?_⟩ <;> omega
set_option maxHeartbeats 4000000 in
theorem s_X5_takeBack (K : Nat) (hK : 1099511627776 ≤ K) (n0 : Nat) (n1 : Nat) (n2 : Nat) (n3 : Nat) (n4 : Nat) (n5 : Nat) (n6 : Nat) (n7 : Nat) (n8 : Nat) (p1 : Int32) (p2 : Int32) (s0 : Int32) (s1 : Int32) (s2 : Int32) (s3 : Int32) (s4 : Int32) (s5 : Nat → Int32) (s6 : Nat → Int32) (s7 : Nat → Int32) (s8 : Nat → Int32) (s9 : Nat → Int32) (s10 : Int32) (s11 : Int32) (s12 : Nat → Int32) (s13 : Nat → Int32) (s14 : Nat → Int32) (s15 : Nat → Int32) (a0 : n0 = 1024) (a1 : n1 = 200) (a2 : n2 = 200) (a3 : n3 = 200) (a4 : n4 = 200) (a5 : n5 = 512) (a6 : n6 = 512) (a7 : 0 ≤ s1.toInt) (a8 : s1.toInt ≤ 1024) (a9 : 0 ≤ s2.toInt) (a10 : s2.toInt ≤ 200) (a11 : 0 ≤ s10.toInt) (a12 : s10.toInt ≤ 512) (a13 : n7 = 32) (a14 : n8 = 32) (a15 : 0 ≤ s0.toInt) (a16 : s0.toInt ≤ 32) : zz_ok (m_X5_takeBack K n0 n1 n2 n3 n4 n5 n6 n7 n8 p1 p2 s0 s1 s2 s3 s4 s5 s6 s7 s8 s9 s10 s11 s12 s13 s14 s15) (fun z => z.2.1.toInt = s1.toInt ∧ z.2.2.1.toInt = s2.toInt ∧ 0 ≤ z.2.2.2.2.2.2.2.2.2.2.1.toInt ∧ z.2.2.2.2.2.2.2.2.2.2.1.toInt ≤ 512 ∧ z.1.toInt = s0.toInt) := by
  have g1 := zz_rg p1
  have g2 := zz_rg p2
  have g3 := zz_rg s0
  have g4 := zz_rg s1
  have g5 := zz_rg s2
  have g6 := zz_rg s3
  have g7 := zz_rg s4
  have g8 := zz_rg s10
  have g9 := zz_rg s11
  unfold m_X5_takeBack
  have l11 : (32 : Int32).toInt = 32 := rfl
  try have f12 := zz_divP p1 (32 : Int32) 32 rfl (by decide) (by omega)
  have f13 := zz_divB p1 (32 : Int32) 32 rfl (by decide)
  have g14 := zz_rg (p1 / ((32 : Int32)))
  have l15 : (0 : Int32).toInt = 0 := rfl
  refine zz_ok_ite (fun c10 => ?_) (fun c10 => ?_)
  · have c10 := Int32.lt_iff_toInt_lt.mp c10
    refine zz_ok_some ?_
    show s1.toInt = s1.toInt ∧ s2.toInt = s2.toInt ∧ 0 ≤ s10.toInt ∧ s10.toInt ≤ 512 ∧ s0.toInt = s0.toInt
    refine ⟨?_, ?_, ?_, ?_, ?_⟩ <;> omega
  · have c10 := zz_nlt c10
    refine zz_ok_ite (fun c16 => ?_) (fun c16 => ?_)
    · have c16 := Int32.lt_iff_toInt_lt.mp c16
      refine zz_ok_chk (zz_ix (by omega) (by omega)) ?_
      refine zz_ok_chk (zz_ix (by omega) (by omega)) ?_
      refine zz_ok_chk (zz_ix (by omega) (by omega)) ?_
      have g18 := zz_rg ((upd s15 (p1 / ((32 : Int32))).toNatClampNeg ((s15 (p1 / ((32 : Int32))).toNatClampNeg) - ((1 : Int32)))) (p1 / ((32 : Int32))).toNatClampNeg)
      refine zz_ok_ite (fun c17 => ?_) (fun c17 => ?_)
      · have c17 := Int32.lt_iff_toInt_lt.mp c17
        refine zz_ok_some ?_
        show s1.toInt = s1.toInt ∧ s2.toInt = s2.toInt ∧ 0 ≤ s10.toInt ∧ s10.toInt ≤ 512 ∧ s0.toInt = s0.toInt
        refine ⟨?_, ?_, ?_, ?_, ?_⟩ <;> omega
      · have c17 := zz_nlt c17
        obtain ⟨k19, f20⟩ := zz_add p2 (32 : Int32)
        have g21 := zz_rg (p2 + ((32 : Int32)))
        have l22 : (1 : Int32).toInt = 1 := rfl
        obtain ⟨k23, f24⟩ := zz_sub (p2 + ((32 : Int32))) (1 : Int32)
        have g25 := zz_rg ((p2 + ((32 : Int32))) - ((1 : Int32)))
        try have f26 := zz_divP ((p2 + ((32 : Int32))) - ((1 : Int32))) (32 : Int32) 32 rfl (by decide) (by omega)
        have f27 := zz_divB ((p2 + ((32 : Int32))) - ((1 : Int32))) (32 : Int32) 32 rfl (by decide)
        have g28 := zz_rg (((p2 + ((32 : Int32))) - ((1 : Int32))) / ((32 : Int32)))
        refine zz_ok_bind (s_X5_setPages K hK n0 n1 n2 n3 n4 n5 n6 n7 n8 (p1 / ((32 : Int32))) (((p2 + ((32 : Int32))) - ((1 : Int32))) / ((32 : Int32))) ((0 : Int32)) s0 s1 s2 s3 s4 s5 s6 s7 s8 s9 s10 s11 s12 s13 s14 (upd s15 (p1 / ((32 : Int32))).toNatClampNeg ((s15 (p1 / ((32 : Int32))).toNatClampNeg) - ((1 : Int32)))) (by omega) (by omega) (by omega) (by omega) (by omega) (by omega) (by omega) (by omega) (by omega) (by omega) (by omega) (by omega) (by omega) (by omega) (by omega) (by omega) (by omega)) ?_
        intro z29 hz29
        obtain ⟨t_7_0, t_7_1, t_7_2, t_7_3, t_7_4, t_7_5, t_7_6, t_7_7, t_7_8, t_7_9, t_7_10, t_7_11, t_7_12, t_7_13, t_7_14, t_7_15⟩ := z29
        have q30 : t_7_1.toInt = s1.toInt := hz29.1
        have q31 : t_7_2.toInt = s2.toInt := hz29.2.1
        have q32 : 0 ≤ t_7_10.toInt := hz29.2.2.1
        have q33 : t_7_10.toInt ≤ 512 := hz29.2.2.2.1
        have q34 : t_7_0.toInt = s0.toInt := hz29.2.2.2.2
        have g35 := zz_rg t_7_0
        have g36 := zz_rg t_7_1
        have g37 := zz_rg t_7_2
        have g38 := zz_rg t_7_3
        have g39 := zz_rg t_7_4
        have g40 := zz_rg t_7_10
        have g41 := zz_rg t_7_11
        show zz_ok (some (t_7_0, t_7_1, t_7_2, t_7_3, t_7_4, t_7_5, t_7_6, t_7_7, t_7_8, t_7_9, t_7_10, t_7_11, t_7_12, t_7_13, t_7_14, t_7_15)) _
        refine zz_ok_some ?_
        show t_7_1.toInt = s1.toInt ∧ t_7_2.toInt = s2.toInt ∧ 0 ≤ t_7_10.toInt ∧ t_7_10.toInt ≤ 512 ∧ t_7_0.toInt = s0.toInt
        refine ⟨?_, ?_, ?_, ?_, ?_⟩ <;> omega
    · have c16 := zz_nlt c16
      refine zz_ok_some ?_
      show s1.toInt = s1.toInt ∧ s2.toInt = s2.toInt ∧ 0 ≤ s10.toInt ∧ s10.toInt ≤ 512 ∧ s0.toInt = s0.toInt
      refine ⟨?_, ?_, ?_, ?_, ?_⟩ <;> omega
set_option maxHeartbeats 4000000 in
theorem s_X5_freeParts_L4 (K : Nat) (hK : 1099511627776 ≤ K) (n0 : Nat) (n1 : Nat) (n2 : Nat) (n3 : Nat) (n4 : Nat) (n5 : Nat) (n6 : Nat) (n7 : Nat) (n8 : Nat) : ∀ (k : Nat) (x1 : Int32) (x2 : Int32) (s0 : Int32) (s1 : Int32) (s2 : Int32) (s3 : Int32) (s4 : Int32) (s5 : Nat → Int32) (s6 : Nat → Int32) (s7 : Nat → Int32) (s8 : Nat → Int32) (s9 : Nat → Int32) (s10 : Int32) (s11 : Int32) (s12 : Nat → Int32) (s13 : Nat → Int32) (s14 : Nat → Int32) (s15 : Nat → Int32), n0 = 1024 → n1 = 200 → n2 = 200 → n3 = 200 → n4 = 200 → n5 = 512 → n6 = 512 → 0 ≤ s1.toInt → s1.toInt ≤ 1024 → 0 ≤ s2.toInt → s2.toInt ≤ 200 → 0 ≤ s10.toInt → s10.toInt ≤ 512 → n7 = 32 → n8 = 32 → 0 ≤ s0.toInt → s0.toInt ≤ 32 → 0 ≤ x2.toInt → x2.toInt ≤ s0.toInt → s0.toInt - x2.toInt < (k : Int) → zz_ok (m_X5_freeParts_L4 K n0 n1 n2 n3 n4 n5 n6 n7 n8 k x1 x2 s0 s1 s2 s3 s4 s5 s6 s7 s8 s9 s10 s11 s12 s13 s14 s15) (fun z => z.2.2.1.toInt = s1.toInt ∧ z.2.2.2.1.toInt = s2.toInt ∧ 0 ≤ z.2.2.2.2.2.2.2.2.2.2.2.1.toInt ∧ z.2.2.2.2.2.2.2.2.2.2.2.1.toInt ≤ 512 ∧ z.2.1.toInt = s0.toInt) := by
  intro k
  induction k with
  | zero =>
    intro x1 x2 s0 s1 s2 s3 s4 s5 s6 s7 s8 s9 s10 s11 s12 s13 s14 s15 a0 a1 a2 a3 a4 a5 a6 a7 a8 a9 a10 a11 a12 a13 a14 a15 a16 a17 a18 hz9
    exfalso
    have g_x1 := zz_rg x1
    have g_x2 := zz_rg x2
    have g_s0 := zz_rg s0
    have g_s1 := zz_rg s1
    have g_s2 := zz_rg s2
    have g_s3 := zz_rg s3
    have g_s4 := zz_rg s4
    have g_s10 := zz_rg s10
    have g_s11 := zz_rg s11
    omega
  | succ k ih =>
    intro x1 x2 s0 s1 s2 s3 s4 s5 s6 s7 s8 s9 s10 s11 s12 s13 s14 s15 a0 a1 a2 a3 a4 a5 a6 a7 a8 a9 a10 a11 a12 a13 a14 a15 a16 a17 a18 hz9
    rw [m_X5_freeParts_L4_s]
    have g1 := zz_rg x1
    have g2 := zz_rg x2
    have g3 := zz_rg s0
    have g4 := zz_rg s1
    have g5 := zz_rg s2
    have g6 := zz_rg s3
    have g7 := zz_rg s4
    have g8 := zz_rg s10
    have g9 := zz_rg s11
    refine zz_ok_ite (fun c10 => ?_) (fun c10 => ?_)
    · have c10 := Int32.le_iff_toInt_le.mp c10
      refine zz_ok_some ?_
      show s1.toInt = s1.toInt ∧ s2.toInt = s2.toInt ∧ 0 ≤ s10.toInt ∧ s10.toInt ≤ 512 ∧ s0.toInt = s0.toInt
      refine ⟨?_, ?_, ?_, ?_, ?_⟩ <;> omega
    · have c10 := zz_nle c10
      refine zz_ok_chk (zz_ix (by omega) (by omega)) ?_
      have g12 := zz_rg (s14 x2.toNatClampNeg)
      have l13 : (0 : Int32).toInt = 0 := rfl
      refine zz_ok_ite (fun c11 => ?_) (fun c11 => ?_)
      · have c11 := congrArg Int32.toInt c11
        have l14 : (1 : Int32).toInt = 1 := rfl
        obtain ⟨k15, f16⟩ := zz_add x1 (1 : Int32)
        have g17 := zz_rg (x1 + 1)
        obtain ⟨k18, f19⟩ := zz_add x2 (1 : Int32)
        have g20 := zz_rg (x2 + 1)
        refine (ih (x1 + 1) (x2 + 1) s0 s1 s2 s3 s4 s5 s6 s7 s8 s9 s10 s11 s12 s13 s14 s15 (by omega) (by omega) (by omega) (by omega) (by omega) (by omega) (by omega) (by omega) (by omega) (by omega) (by omega) (by omega) (by omega) (by omega) (by omega) (by omega) (by omega) (by omega) (by omega) (by omega)).mono (fun z hz => ?_)
        have q21 : z.2.2.1.toInt = s1.toInt := hz.1
        have q22 : z.2.2.2.1.toInt = s2.toInt := hz.2.1
        have q23 : 0 ≤ z.2.2.2.2.2.2.2.2.2.2.2.1.toInt := hz.2.2.1
        have q24 : z.2.2.2.2.2.2.2.2.2.2.2.1.toInt ≤ 512 := hz.2.2.2.1
        have q25 : z.2.1.toInt = s0.toInt := hz.2.2.2.2
        show z.2.2.1.toInt = s1.toInt ∧ z.2.2.2.1.toInt = s2.toInt ∧ 0 ≤ z.2.2.2.2.2.2.2.2.2.2.2.1.toInt ∧ z.2.2.2.2.2.2.2.2.2.2.2.1.toInt ≤ 512 ∧ z.2.1.toInt = s0.toInt
        refine ⟨?_, ?_, ?_, ?_, ?_⟩ <;> omega
      · have c11 := zz_neq c11
        have l26 : (1 : Int32).toInt = 1 := rfl
        obtain ⟨k27, f28⟩ := zz_add x2 (1 : Int32)
        have g29 := zz_rg (x2 + 1)
        refine (ih x1 (x2 + 1) s0 s1 s2 s3 s4 s5 s6 s7 s8 s9 s10 s11 s12 s13 s14 s15 (by omega) (by omega) (by omega) (by omega) (by omega) (by omega) (by omega) (by omega) (by omega) (by omega) (by omega) (by omega) (by omega) (by omega) (by omega) (by omega) (by omega) (by omega) (by omega) (by omega)).mono (fun z hz => ?_)
        have q30 : z.2.2.1.toInt = s1.toInt := hz.1
        have q31 : z.2.2.2.1.toInt = s2.toInt := hz.2.1
        have q32 : 0 ≤ z.2.2.2.2.2.2.2.2.2.2.2.1.toInt := hz.2.2.1
        have q33 : z.2.2.2.2.2.2.2.2.2.2.2.1.toInt ≤ 512 := hz.2.2.2.1
        have q34 : z.2.1.toInt = s0.toInt := hz.2.2.2.2
        show z.2.2.1.toInt = s1.toInt ∧ z.2.2.2.1.toInt = s2.toInt ∧ 0 ≤ z.2.2.2.2.2.2.2.2.2.2.2.1.toInt ∧ z.2.2.2.2.2.2.2.2.2.2.2.1.toInt ≤ 512 ∧ z.2.1.toInt = s0.toInt
        refine ⟨?_, ?_, ?_, ?_, ?_⟩ <;> omega
set_option maxHeartbeats 4000000 in
theorem s_X5_freeParts (K : Nat) (hK : 1099511627776 ≤ K) (n0 : Nat) (n1 : Nat) (n2 : Nat) (n3 : Nat) (n4 : Nat) (n5 : Nat) (n6 : Nat) (n7 : Nat) (n8 : Nat) (s0 : Int32) (s1 : Int32) (s2 : Int32) (s3 : Int32) (s4 : Int32) (s5 : Nat → Int32) (s6 : Nat → Int32) (s7 : Nat → Int32) (s8 : Nat → Int32) (s9 : Nat → Int32) (s10 : Int32) (s11 : Int32) (s12 : Nat → Int32) (s13 : Nat → Int32) (s14 : Nat → Int32) (s15 : Nat → Int32) (a0 : n0 = 1024) (a1 : n1 = 200) (a2 : n2 = 200) (a3 : n3 = 200) (a4 : n4 = 200) (a5 : n5 = 512) (a6 : n6 = 512) (a7 : 0 ≤ s1.toInt) (a8 : s1.toInt ≤ 1024) (a9 : 0 ≤ s2.toInt) (a10 : s2.toInt ≤ 200) (a11 : 0 ≤ s10.toInt) (a12 : s10.toInt ≤ 512) (a13 : n7 = 32) (a14 : n8 = 32) (a15 : 0 ≤ s0.toInt) (a16 : s0.toInt ≤ 32) : zz_ok (m_X5_freeParts K n0 n1 n2 n3 n4 n5 n6 n7 n8 s0 s1 s2 s3 s4 s5 s6 s7 s8 s9 s10 s11 s12 s13 s14 s15) (fun z => z.2.2.1.toInt = s1.toInt ∧ z.2.2.2.1.toInt = s2.toInt ∧ 0 ≤ z.2.2.2.2.2.2.2.2.2.2.2.1.toInt ∧ z.2.2.2.2.2.2.2.2.2.2.2.1.toInt ≤ 512 ∧ z.2.1.toInt = s0.toInt) := by
  have g1 := zz_rg s0
  have g2 := zz_rg s1
  have g3 := zz_rg s2
  have g4 := zz_rg s3
  have g5 := zz_rg s4
  have g6 := zz_rg s10
  have g7 := zz_rg s11
  unfold m_X5_freeParts
  have l8 : (0 : Int32).toInt = 0 := rfl
  refine (s_X5_freeParts_L4 K hK n0 n1 n2 n3 n4 n5 n6 n7 n8 K ((0 : Int32)) ((0 : Int32)) s0 s1 s2 s3 s4 s5 s6 s7 s8 s9 s10 s11 s12 s13 s14 s15 (by omega) (by omega) (by omega) (by omega) (by omega) (by omega) (by omega) (by omega) (by omega) (by omega) (by omega) (by omega) (by omega) (by omega) (by omega) (by omega) (by omega) (by omega) (by omega) (by omega)).mono (fun z hz => ?_)
  have q9 : z.2.2.1.toInt = s1.toInt := hz.1
  have q10 : z.2.2.2.1.toInt = s2.toInt := hz.2.1
  have q11 : 0 ≤ z.2.2.2.2.2.2.2.2.2.2.2.1.toInt := hz.2.2.1
  have q12 : z.2.2.2.2.2.2.2.2.2.2.2.1.toInt ≤ 512 := hz.2.2.2.1
  have q13 : z.2.1.toInt = s0.toInt := hz.2.2.2.2
  show z.2.2.1.toInt = s1.toInt ∧ z.2.2.2.1.toInt = s2.toInt ∧ 0 ≤ z.2.2.2.2.2.2.2.2.2.2.2.1.toInt ∧ z.2.2.2.2.2.2.2.2.2.2.2.1.toInt ≤ 512 ∧ z.2.1.toInt = s0.toInt
  refine ⟨?_, ?_, ?_, ?_, ?_⟩ <;> omega

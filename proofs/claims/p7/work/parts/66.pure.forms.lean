set_option maxHeartbeats 4000000 in
theorem s_X6_begin (K : Nat) (hK : 1099511627776 ≤ K) (n0 : Nat) (n1 : Nat) (n2 : Nat) (n3 : Nat) (n4 : Nat) (n5 : Nat) (n6 : Nat) (n7 : Nat) (n8 : Nat) (s0 : Int32) (s1 : Int32) (s2 : Int32) (s3 : Int32) (s4 : Nat → Int32) (s5 : Nat → Int32) (s6 : Nat → Int32) (s7 : Nat → Int32) (s8 : Nat → Int32) (s9 : Int32) (s10 : Int32) (s11 : Nat → Int32) (s12 : Nat → Int32) (s13 : Int32) (s14 : Int32) (s15 : Nat → Int32) (s16 : Nat → Int32) (a0 : n0 = 1024) (a1 : n1 = 200) (a2 : n2 = 200) (a3 : n3 = 200) (a4 : n4 = 200) (a5 : n5 = 512) (a6 : n6 = 512) (a7 : 0 ≤ s0.toInt) (a8 : s0.toInt ≤ 1024) (a9 : 0 ≤ s1.toInt) (a10 : s1.toInt ≤ 200) (a11 : 0 ≤ s9.toInt) (a12 : s9.toInt ≤ 512) (a13 : n7 = 1024) (a14 : n8 = 1024) (a15 : 0 ≤ s13.toInt) (a16 : s13.toInt ≤ 1024) : zz_ok (m_X6_begin K n0 n1 n2 n3 n4 n5 n6 n7 n8 s0 s1 s2 s3 s4 s5 s6 s7 s8 s9 s10 s11 s12 s13 s14 s15 s16) (fun z => z.1.toInt = s0.toInt ∧ z.2.1.toInt = s1.toInt ∧ 0 ≤ z.2.2.2.2.2.2.2.2.2.1.toInt ∧ z.2.2.2.2.2.2.2.2.2.1.toInt ≤ 512 ∧ 0 ≤ z.2.2.2.2.2.2.2.2.2.2.2.2.2.1.toInt ∧ z.2.2.2.2.2.2.2.2.2.2.2.2.2.1.toInt ≤ 1024) := by
  have g1 := zz_rg s0
  have g2 := zz_rg s1
  have g3 := zz_rg s2
  have g4 := zz_rg s3
  have g5 := zz_rg s9
  have g6 := zz_rg s10
  have g7 := zz_rg s13
  have g8 := zz_rg s14
  unfold m_X6_begin
  refine zz_ok_bind (s_X10_clear K hK n7 n8 s13 s14 s15 s16) ?_
  intro z9 hz9
  obtain ⟨t_1_0, t_1_1, t_1_2, t_1_3⟩ := z9
  have q10 : t_1_0.toInt = 0 := hz9
  have g11 := zz_rg t_1_0
  have g12 := zz_rg t_1_1
  show zz_ok (some (s0, s1, s2, s3, s4, s5, s6, s7, s8, s9, s10, s11, s12, t_1_0, t_1_1, t_1_2, t_1_3)) _
  refine zz_ok_some ?_
  show s0.toInt = s0.toInt ∧ s1.toInt = s1.toInt ∧ 0 ≤ s9.toInt ∧ s9.toInt ≤ 512 ∧ 0 ≤ t_1_0.toInt ∧ t_1_0.toInt ≤ 1024
  refine ⟨?_, ?_, ?_, ?_, ?_, ?_⟩ <;> omega
set_option maxHeartbeats 4000000 in
theorem s_X6_takeQuick_L10 (K : Nat) (hK : 1099511627776 ≤ K) (n0 : Nat) (n1 : Nat) (n2 : Nat) (n3 : Nat) (n4 : Nat) (n5 : Nat) (n6 : Nat) (n7 : Nat) (n8 : Nat) : ∀ (k : Nat) (x1 : Int32) (x2 : Int32) (s0 : Int32) (s1 : Int32) (s2 : Int32) (s3 : Int32) (s4 : Nat → Int32) (s5 : Nat → Int32) (s6 : Nat → Int32) (s7 : Nat → Int32) (s8 : Nat → Int32) (s9 : Int32) (s10 : Int32) (s11 : Nat → Int32) (s12 : Nat → Int32) (s13 : Int32) (s14 : Int32) (s15 : Nat → Int32) (s16 : Nat → Int32), n0 = 1024 → n1 = 200 → n2 = 200 → n3 = 200 → n4 = 200 → n5 = 512 → n6 = 512 → 0 ≤ s0.toInt → s0.toInt ≤ 1024 → 0 ≤ s1.toInt → s1.toInt ≤ 200 → 0 ≤ s9.toInt → s9.toInt ≤ 512 → n7 = 1024 → n8 = 1024 → 0 ≤ s13.toInt → s13.toInt ≤ 1024 → -1 ≤ x2.toInt → x2.toInt ≤ 1024 → x2.toInt + 1 < (k : Int) → zz_ok (m_X6_takeQuick_L10 K n0 n1 n2 n3 n4 n5 n6 n7 n8 k x1 x2 s0 s1 s2 s3 s4 s5 s6 s7 s8 s9 s10 s11 s12 s13 s14 s15 s16) (fun z => z.2.1.toInt = s0.toInt ∧ z.2.2.1.toInt = s1.toInt ∧ 0 ≤ z.2.2.2.2.2.2.2.2.2.2.1.toInt ∧ z.2.2.2.2.2.2.2.2.2.2.1.toInt ≤ 512 ∧ 0 ≤ z.2.2.2.2.2.2.2.2.2.2.2.2.2.2.1.toInt ∧ z.2.2.2.2.2.2.2.2.2.2.2.2.2.2.1.toInt ≤ 1024) := by
  intro k
  induction k with
  | zero =>
    intro x1 x2 s0 s1 s2 s3 s4 s5 s6 s7 s8 s9 s10 s11 s12 s13 s14 s15 s16 a0 a1 a2 a3 a4 a5 a6 a7 a8 a9 a10 a11 a12 a13 a14 a15 a16 a17 a18 hz9
    exfalso
    have g_x1 := zz_rg x1
    have g_x2 := zz_rg x2
    have g_s0 := zz_rg s0
    have g_s1 := zz_rg s1
    have g_s2 := zz_rg s2
    have g_s3 := zz_rg s3
    have g_s9 := zz_rg s9
    have g_s10 := zz_rg s10
    have g_s13 := zz_rg s13
    have g_s14 := zz_rg s14
    omega
  | succ k ih =>
    intro x1 x2 s0 s1 s2 s3 s4 s5 s6 s7 s8 s9 s10 s11 s12 s13 s14 s15 s16 a0 a1 a2 a3 a4 a5 a6 a7 a8 a9 a10 a11 a12 a13 a14 a15 a16 a17 a18 hz9
    rw [m_X6_takeQuick_L10_s]
    have g1 := zz_rg x1
    have g2 := zz_rg x2
    have g3 := zz_rg s0
    have g4 := zz_rg s1
    have g5 := zz_rg s2
    have g6 := zz_rg s3
    have g7 := zz_rg s9
    have g8 := zz_rg s10
    have g9 := zz_rg s13
    have g10 := zz_rg s14
    have l12 : (0 : Int32).toInt = 0 := rfl
    refine zz_ok_ite (fun c11 => ?_) (fun c11 => ?_)
    · have c11 := Int32.lt_iff_toInt_lt.mp c11
      refine zz_ok_some ?_
      show s0.toInt = s0.toInt ∧ s1.toInt = s1.toInt ∧ 0 ≤ s9.toInt ∧ s9.toInt ≤ 512 ∧ 0 ≤ s13.toInt ∧ s13.toInt ≤ 1024
      refine ⟨?_, ?_, ?_, ?_, ?_, ?_⟩ <;> omega
    · have c11 := zz_nlt c11
      refine zz_ok_bind (s_X10_wordsOf K hK n7 n8 x2 s13 s14 s15 s16 (by omega) (by omega) (by omega) (by omega)) ?_
      intro z13 hz13
      obtain ⟨r_3, t_3_0, t_3_1, t_3_2, t_3_3⟩ := z13
      have q14 : t_3_0.toInt = s13.toInt := hz13
      have g15 := zz_rg r_3
      have g16 := zz_rg t_3_0
      have g17 := zz_rg t_3_1
      show zz_ok (if r_3 = x1 then ((m_X10_placeOf K n7 n8 x2 t_3_0 t_3_1 t_3_2 t_3_3).bind fun ⟨r_5, t_5_0, t_5_1, t_5_2, t_5_3⟩ => (m_X10_remove K n7 n8 x2 t_5_0 t_5_1 t_5_2 t_5_3).bind fun ⟨t_6_0, t_6_1, t_6_2, t_6_3⟩ => some (r_5, s0, s1, s2, s3, s4, s5, s6, s7, s8, s9, s10, s11, s12, t_6_0, t_6_1, t_6_2, t_6_3)) else (m_X6_takeQuick_L10 K n0 n1 n2 n3 n4 n5 n6 n7 n8 k x1 (x2 + (-1)) s0 s1 s2 s3 s4 s5 s6 s7 s8 s9 s10 s11 s12 t_3_0 t_3_1 t_3_2 t_3_3)) _
      refine zz_ok_ite (fun c18 => ?_) (fun c18 => ?_)
      · have c18 := congrArg Int32.toInt c18
        refine zz_ok_bind (s_X10_placeOf K hK n7 n8 x2 t_3_0 t_3_1 t_3_2 t_3_3 (by omega) (by omega) (by omega) (by omega)) ?_
        intro z19 hz19
        obtain ⟨r_5, t_5_0, t_5_1, t_5_2, t_5_3⟩ := z19
        have q20 : t_5_0.toInt = t_3_0.toInt := hz19
        have g21 := zz_rg r_5
        have g22 := zz_rg t_5_0
        have g23 := zz_rg t_5_1
        show zz_ok ((m_X10_remove K n7 n8 x2 t_5_0 t_5_1 t_5_2 t_5_3).bind fun ⟨t_6_0, t_6_1, t_6_2, t_6_3⟩ => some (r_5, s0, s1, s2, s3, s4, s5, s6, s7, s8, s9, s10, s11, s12, t_6_0, t_6_1, t_6_2, t_6_3)) _
        refine zz_ok_bind (s_X10_remove K hK n7 n8 x2 t_5_0 t_5_1 t_5_2 t_5_3 (by omega) (by omega) (by omega) (by omega)) ?_
        intro z24 hz24
        obtain ⟨t_6_0, t_6_1, t_6_2, t_6_3⟩ := z24
        have q25 : 0 ≤ t_6_0.toInt := hz24.1
        have q26 : t_6_0.toInt ≤ t_5_0.toInt := hz24.2
        have g27 := zz_rg t_6_0
        have g28 := zz_rg t_6_1
        show zz_ok (some (r_5, s0, s1, s2, s3, s4, s5, s6, s7, s8, s9, s10, s11, s12, t_6_0, t_6_1, t_6_2, t_6_3)) _
        refine zz_ok_some ?_
        show s0.toInt = s0.toInt ∧ s1.toInt = s1.toInt ∧ 0 ≤ s9.toInt ∧ s9.toInt ≤ 512 ∧ 0 ≤ t_6_0.toInt ∧ t_6_0.toInt ≤ 1024
        refine ⟨?_, ?_, ?_, ?_, ?_, ?_⟩ <;> omega
      · have c18 := zz_neq c18
        obtain ⟨y29, e30⟩ : ∃ y : Int32, y = x2 + (-1) := ⟨_, rfl⟩
        obtain ⟨k31, f32⟩ := zz_dec e30
        rw [← e30]
        clear e30
        have g33 := zz_rg y29
        refine (ih x1 y29 s0 s1 s2 s3 s4 s5 s6 s7 s8 s9 s10 s11 s12 t_3_0 t_3_1 t_3_2 t_3_3 (by omega) (by omega) (by omega) (by omega) (by omega) (by omega) (by omega) (by omega) (by omega) (by omega) (by omega) (by omega) (by omega) (by omega) (by omega) (by omega) (by omega) (by omega) (by omega) (by omega)).mono (fun z hz => ?_)
        have q34 : z.2.1.toInt = s0.toInt := hz.1
        have q35 : z.2.2.1.toInt = s1.toInt := hz.2.1
        have q36 : 0 ≤ z.2.2.2.2.2.2.2.2.2.2.1.toInt := hz.2.2.1
        have q37 : z.2.2.2.2.2.2.2.2.2.2.1.toInt ≤ 512 := hz.2.2.2.1
        have q38 : 0 ≤ z.2.2.2.2.2.2.2.2.2.2.2.2.2.2.1.toInt := hz.2.2.2.2.1
        have q39 : z.2.2.2.2.2.2.2.2.2.2.2.2.2.2.1.toInt ≤ 1024 := hz.2.2.2.2.2
        show z.2.1.toInt = s0.toInt ∧ z.2.2.1.toInt = s1.toInt ∧ 0 ≤ z.2.2.2.2.2.2.2.2.2.2.1.toInt ∧ z.2.2.2.2.2.2.2.2.2.2.1.toInt ≤ 512 ∧ 0 ≤ z.2.2.2.2.2.2.2.2.2.2.2.2.2.2.1.toInt ∧ z.2.2.2.2.2.2.2.2.2.2.2.2.2.2.1.toInt ≤ 1024
        refine ⟨?_, ?_, ?_, ?_, ?_, ?_⟩ <;> omega
set_option maxHeartbeats 4000000 in
theorem s_X6_takeQuick (K : Nat) (hK : 1099511627776 ≤ K) (n0 : Nat) (n1 : Nat) (n2 : Nat) (n3 : Nat) (n4 : Nat) (n5 : Nat) (n6 : Nat) (n7 : Nat) (n8 : Nat) (p1 : Int32) (s0 : Int32) (s1 : Int32) (s2 : Int32) (s3 : Int32) (s4 : Nat → Int32) (s5 : Nat → Int32) (s6 : Nat → Int32) (s7 : Nat → Int32) (s8 : Nat → Int32) (s9 : Int32) (s10 : Int32) (s11 : Nat → Int32) (s12 : Nat → Int32) (s13 : Int32) (s14 : Int32) (s15 : Nat → Int32) (s16 : Nat → Int32) (a0 : n0 = 1024) (a1 : n1 = 200) (a2 : n2 = 200) (a3 : n3 = 200) (a4 : n4 = 200) (a5 : n5 = 512) (a6 : n6 = 512) (a7 : 0 ≤ s0.toInt) (a8 : s0.toInt ≤ 1024) (a9 : 0 ≤ s1.toInt) (a10 : s1.toInt ≤ 200) (a11 : 0 ≤ s9.toInt) (a12 : s9.toInt ≤ 512) (a13 : n7 = 1024) (a14 : n8 = 1024) (a15 : 0 ≤ s13.toInt) (a16 : s13.toInt ≤ 1024) : zz_ok (m_X6_takeQuick K n0 n1 n2 n3 n4 n5 n6 n7 n8 p1 s0 s1 s2 s3 s4 s5 s6 s7 s8 s9 s10 s11 s12 s13 s14 s15 s16) (fun z => z.2.1.toInt = s0.toInt ∧ z.2.2.1.toInt = s1.toInt ∧ 0 ≤ z.2.2.2.2.2.2.2.2.2.2.1.toInt ∧ z.2.2.2.2.2.2.2.2.2.2.1.toInt ≤ 512 ∧ 0 ≤ z.2.2.2.2.2.2.2.2.2.2.2.2.2.2.1.toInt ∧ z.2.2.2.2.2.2.2.2.2.2.2.2.2.2.1.toInt ≤ 1024) := by
  have g1 := zz_rg p1
  have g2 := zz_rg s0
  have g3 := zz_rg s1
  have g4 := zz_rg s2
  have g5 := zz_rg s3
  have g6 := zz_rg s9
  have g7 := zz_rg s10
  have g8 := zz_rg s13
  have g9 := zz_rg s14
  unfold m_X6_takeQuick
  refine zz_ok_bind (s_X10_size K hK n7 n8 s13 s14 s15 s16) ?_
  intro z10 hz10
  obtain ⟨r_1, t_1_0, t_1_1, t_1_2, t_1_3⟩ := z10
  have q11 : r_1.toInt = s13.toInt := hz10.1
  have q12 : t_1_0.toInt = s13.toInt := hz10.2
  have g13 := zz_rg r_1
  have g14 := zz_rg t_1_0
  have g15 := zz_rg t_1_1
  show zz_ok (m_X6_takeQuick_L10 K n0 n1 n2 n3 n4 n5 n6 n7 n8 K p1 (r_1 - ((1 : Int32))) s0 s1 s2 s3 s4 s5 s6 s7 s8 s9 s10 s11 s12 t_1_0 t_1_1 t_1_2 t_1_3) _
  have l16 : (1 : Int32).toInt = 1 := rfl
  obtain ⟨k17, f18⟩ := zz_sub r_1 (1 : Int32)
  have g19 := zz_rg (r_1 - ((1 : Int32)))
  refine (s_X6_takeQuick_L10 K hK n0 n1 n2 n3 n4 n5 n6 n7 n8 K p1 (r_1 - ((1 : Int32))) s0 s1 s2 s3 s4 s5 s6 s7 s8 s9 s10 s11 s12 t_1_0 t_1_1 t_1_2 t_1_3 (by omega) (by omega) (by omega) (by omega) (by omega) (by omega) (by omega) (by omega) (by omega) (by omega) (by omega) (by omega) (by omega) (by omega) (by omega) (by omega) (by omega) (by omega) (by omega) (by omega)).mono (fun z hz => ?_)
  have q20 : z.2.1.toInt = s0.toInt := hz.1
  have q21 : z.2.2.1.toInt = s1.toInt := hz.2.1
  have q22 : 0 ≤ z.2.2.2.2.2.2.2.2.2.2.1.toInt := hz.2.2.1
  have q23 : z.2.2.2.2.2.2.2.2.2.2.1.toInt ≤ 512 := hz.2.2.2.1
  have q24 : 0 ≤ z.2.2.2.2.2.2.2.2.2.2.2.2.2.2.1.toInt := hz.2.2.2.2.1
  have q25 : z.2.2.2.2.2.2.2.2.2.2.2.2.2.2.1.toInt ≤ 1024 := hz.2.2.2.2.2
  show z.2.1.toInt = s0.toInt ∧ z.2.2.1.toInt = s1.toInt ∧ 0 ≤ z.2.2.2.2.2.2.2.2.2.2.1.toInt ∧ z.2.2.2.2.2.2.2.2.2.2.1.toInt ≤ 512 ∧ 0 ≤ z.2.2.2.2.2.2.2.2.2.2.2.2.2.2.1.toInt ∧ z.2.2.2.2.2.2.2.2.2.2.2.2.2.2.1.toInt ≤ 1024
  refine ⟨?_, ?_, ?_, ?_, ?_, ?_⟩ <;> omega
set_option maxHeartbeats 4000000 in
theorem s_X6_takeFirst (K : Nat) (hK : 1099511627776 ≤ K) (n0 : Nat) (n1 : Nat) (n2 : Nat) (n3 : Nat) (n4 : Nat) (n5 : Nat) (n6 : Nat) (n7 : Nat) (n8 : Nat) (p1 : Int32) (s0 : Int32) (s1 : Int32) (s2 : Int32) (s3 : Int32) (s4 : Nat → Int32) (s5 : Nat → Int32) (s6 : Nat → Int32) (s7 : Nat → Int32) (s8 : Nat → Int32) (s9 : Int32) (s10 : Int32) (s11 : Nat → Int32) (s12 : Nat → Int32) (s13 : Int32) (s14 : Int32) (s15 : Nat → Int32) (s16 : Nat → Int32) (a0 : n0 = 1024) (a1 : n1 = 200) (a2 : n2 = 200) (a3 : n3 = 200) (a4 : n4 = 200) (a5 : n5 = 512) (a6 : n6 = 512) (a7 : 0 ≤ s0.toInt) (a8 : s0.toInt ≤ 1024) (a9 : 0 ≤ s1.toInt) (a10 : s1.toInt ≤ 200) (a11 : 0 ≤ s9.toInt) (a12 : s9.toInt ≤ 512) (a13 : n7 = 1024) (a14 : n8 = 1024) (a15 : 0 ≤ s13.toInt) (a16 : s13.toInt ≤ 1024) : zz_ok (m_X6_takeFirst K n0 n1 n2 n3 n4 n5 n6 n7 n8 p1 s0 s1 s2 s3 s4 s5 s6 s7 s8 s9 s10 s11 s12 s13 s14 s15 s16) (fun z => z.2.1.toInt = s0.toInt ∧ z.2.2.1.toInt = s1.toInt ∧ 0 ≤ z.2.2.2.2.2.2.2.2.2.2.1.toInt ∧ z.2.2.2.2.2.2.2.2.2.2.1.toInt ≤ 512 ∧ 0 ≤ z.2.2.2.2.2.2.2.2.2.2.2.2.2.2.1.toInt ∧ z.2.2.2.2.2.2.2.2.2.2.2.2.2.2.1.toInt ≤ 1024) := by
  have g1 := zz_rg p1
  have g2 := zz_rg s0
  have g3 := zz_rg s1
  have g4 := zz_rg s2
  have g5 := zz_rg s3
  have g6 := zz_rg s9
  have g7 := zz_rg s10
  have g8 := zz_rg s13
  have g9 := zz_rg s14
  unfold m_X6_takeFirst
  refine zz_ok_bind (s_X7_listRuns K hK n0 n1 n2 n3 n4 n5 n6 s0 s1 s2 s3 s4 s5 s6 s7 s8 s9 s10 s11 s12 (by omega) (by omega) (by omega) (by omega) (by omega) (by omega) (by omega) (by omega) (by omega) (by omega) (by omega) (by omega) (by omega)) ?_
  intro z10 hz10
  obtain ⟨t_1_0, t_1_1, t_1_2, t_1_3, t_1_4, t_1_5, t_1_6, t_1_7, t_1_8, t_1_9, t_1_10, t_1_11, t_1_12⟩ := z10
  have q11 : t_1_0.toInt = s0.toInt := hz10.1
  have q12 : t_1_1.toInt = s1.toInt := hz10.2.1
  have q13 : 0 ≤ t_1_9.toInt := hz10.2.2.1
  have q14 : t_1_9.toInt ≤ 512 := hz10.2.2.2
  have g15 := zz_rg t_1_0
  have g16 := zz_rg t_1_1
  have g17 := zz_rg t_1_2
  have g18 := zz_rg t_1_3
  have g19 := zz_rg t_1_9
  have g20 := zz_rg t_1_10
  show zz_ok ((m_X10_find K n5 n6 ((0 : Int32)) p1 ((0 : Int32)) t_1_9 t_1_10 t_1_11 t_1_12).bind fun ⟨r_2, t_2_0, t_2_1, t_2_2, t_2_3⟩ => (m_X10_looked K n5 n6 t_2_0 t_2_1 t_2_2 t_2_3).bind fun ⟨r_3, t_3_0, t_3_1, t_3_2, t_3_3⟩ => (m_X7_addLooked K n0 n1 n2 n3 n4 n5 n6 r_3 t_1_0 t_1_1 t_1_2 t_1_3 t_1_4 t_1_5 t_1_6 t_1_7 t_1_8 t_3_0 t_3_1 t_3_2 t_3_3).bind fun ⟨t_4_0, t_4_1, t_4_2, t_4_3, t_4_4, t_4_5, t_4_6, t_4_7, t_4_8, t_4_9, t_4_10, t_4_11, t_4_12⟩ => some (r_2, t_4_0, t_4_1, t_4_2, t_4_3, t_4_4, t_4_5, t_4_6, t_4_7, t_4_8, t_4_9, t_4_10, t_4_11, t_4_12, s13, s14, s15, s16)) _
  have l21 : (0 : Int32).toInt = 0 := rfl
  refine zz_ok_bind (s_X10_find K hK n5 n6 ((0 : Int32)) p1 ((0 : Int32)) t_1_9 t_1_10 t_1_11 t_1_12 (by omega) (by omega) (by omega) (by omega)) ?_
  intro z22 hz22
  obtain ⟨r_2, t_2_0, t_2_1, t_2_2, t_2_3⟩ := z22
  have q23 : t_2_0.toInt = t_1_9.toInt := hz22
  have g24 := zz_rg r_2
  have g25 := zz_rg t_2_0
  have g26 := zz_rg t_2_1
  show zz_ok ((m_X10_looked K n5 n6 t_2_0 t_2_1 t_2_2 t_2_3).bind fun ⟨r_3, t_3_0, t_3_1, t_3_2, t_3_3⟩ => (m_X7_addLooked K n0 n1 n2 n3 n4 n5 n6 r_3 t_1_0 t_1_1 t_1_2 t_1_3 t_1_4 t_1_5 t_1_6 t_1_7 t_1_8 t_3_0 t_3_1 t_3_2 t_3_3).bind fun ⟨t_4_0, t_4_1, t_4_2, t_4_3, t_4_4, t_4_5, t_4_6, t_4_7, t_4_8, t_4_9, t_4_10, t_4_11, t_4_12⟩ => some (r_2, t_4_0, t_4_1, t_4_2, t_4_3, t_4_4, t_4_5, t_4_6, t_4_7, t_4_8, t_4_9, t_4_10, t_4_11, t_4_12, s13, s14, s15, s16)) _
  refine zz_ok_bind (s_X10_looked K hK n5 n6 t_2_0 t_2_1 t_2_2 t_2_3) ?_
  intro z27 hz27
  obtain ⟨r_3, t_3_0, t_3_1, t_3_2, t_3_3⟩ := z27
  have q28 : t_3_0.toInt = t_2_0.toInt := hz27
  have g29 := zz_rg r_3
  have g30 := zz_rg t_3_0
  have g31 := zz_rg t_3_1
  show zz_ok ((m_X7_addLooked K n0 n1 n2 n3 n4 n5 n6 r_3 t_1_0 t_1_1 t_1_2 t_1_3 t_1_4 t_1_5 t_1_6 t_1_7 t_1_8 t_3_0 t_3_1 t_3_2 t_3_3).bind fun ⟨t_4_0, t_4_1, t_4_2, t_4_3, t_4_4, t_4_5, t_4_6, t_4_7, t_4_8, t_4_9, t_4_10, t_4_11, t_4_12⟩ => some (r_2, t_4_0, t_4_1, t_4_2, t_4_3, t_4_4, t_4_5, t_4_6, t_4_7, t_4_8, t_4_9, t_4_10, t_4_11, t_4_12, s13, s14, s15, s16)) _
  refine zz_ok_bind (s_X7_addLooked K hK n0 n1 n2 n3 n4 n5 n6 r_3 t_1_0 t_1_1 t_1_2 t_1_3 t_1_4 t_1_5 t_1_6 t_1_7 t_1_8 t_3_0 t_3_1 t_3_2 t_3_3 (by omega) (by omega) (by omega) (by omega) (by omega) (by omega) (by omega) (by omega) (by omega) (by omega) (by omega) (by omega) (by omega)) ?_
  intro z32 hz32
  obtain ⟨t_4_0, t_4_1, t_4_2, t_4_3, t_4_4, t_4_5, t_4_6, t_4_7, t_4_8, t_4_9, t_4_10, t_4_11, t_4_12⟩ := z32
  have q33 : t_4_0.toInt = t_1_0.toInt := hz32.1
  have q34 : t_4_1.toInt = t_1_1.toInt := hz32.2.1
  have q35 : 0 ≤ t_4_9.toInt := hz32.2.2.1
  have q36 : t_4_9.toInt ≤ 512 := hz32.2.2.2
  have g37 := zz_rg t_4_0
  have g38 := zz_rg t_4_1
  have g39 := zz_rg t_4_2
  have g40 := zz_rg t_4_3
  have g41 := zz_rg t_4_9
  have g42 := zz_rg t_4_10
  show zz_ok (some (r_2, t_4_0, t_4_1, t_4_2, t_4_3, t_4_4, t_4_5, t_4_6, t_4_7, t_4_8, t_4_9, t_4_10, t_4_11, t_4_12, s13, s14, s15, s16)) _
  refine zz_ok_some ?_
  show t_4_0.toInt = s0.toInt ∧ t_4_1.toInt = s1.toInt ∧ 0 ≤ t_4_9.toInt ∧ t_4_9.toInt ≤ 512 ∧ 0 ≤ s13.toInt ∧ s13.toInt ≤ 1024
  refine ⟨?_, ?_, ?_, ?_, ?_, ?_⟩ <;> omega
set_option maxHeartbeats 4000000 in
theorem s_X6_emptyRows_L2 (K : Nat) (hK : 1099511627776 ≤ K) (n0 : Nat) (n1 : Nat) (n2 : Nat) (n3 : Nat) (n4 : Nat) (n5 : Nat) (n6 : Nat) (n7 : Nat) (n8 : Nat) : ∀ (k : Nat) (x1 : Int32) (s0 : Int32) (s1 : Int32) (s2 : Int32) (s3 : Int32) (s4 : Nat → Int32) (s5 : Nat → Int32) (s6 : Nat → Int32) (s7 : Nat → Int32) (s8 : Nat → Int32) (s9 : Int32) (s10 : Int32) (s11 : Nat → Int32) (s12 : Nat → Int32) (s13 : Int32) (s14 : Int32) (s15 : Nat → Int32) (s16 : Nat → Int32), n0 = 1024 → n1 = 200 → n2 = 200 → n3 = 200 → n4 = 200 → n5 = 512 → n6 = 512 → 0 ≤ s0.toInt → s0.toInt ≤ 1024 → 0 ≤ s1.toInt → s1.toInt ≤ 200 → 0 ≤ s9.toInt → s9.toInt ≤ 512 → n7 = 1024 → n8 = 1024 → 0 ≤ s13.toInt → s13.toInt ≤ 1024 → 0 ≤ x1.toInt → x1.toInt ≤ s13.toInt → s13.toInt - x1.toInt < (k : Int) → zz_ok (m_X6_emptyRows_L2 K n0 n1 n2 n3 n4 n5 n6 n7 n8 k x1 s0 s1 s2 s3 s4 s5 s6 s7 s8 s9 s10 s11 s12 s13 s14 s15 s16) (fun z => z.1.toInt = s0.toInt ∧ z.2.1.toInt = s1.toInt ∧ 0 ≤ z.2.2.2.2.2.2.2.2.2.1.toInt ∧ z.2.2.2.2.2.2.2.2.2.1.toInt ≤ 512 ∧ 0 ≤ z.2.2.2.2.2.2.2.2.2.2.2.2.2.1.toInt ∧ z.2.2.2.2.2.2.2.2.2.2.2.2.2.1.toInt ≤ 1024) := by
  intro k
  induction k with
  | zero =>
    intro x1 s0 s1 s2 s3 s4 s5 s6 s7 s8 s9 s10 s11 s12 s13 s14 s15 s16 a0 a1 a2 a3 a4 a5 a6 a7 a8 a9 a10 a11 a12 a13 a14 a15 a16 a17 a18 hz9
    exfalso
    have g_x1 := zz_rg x1
    have g_s0 := zz_rg s0
    have g_s1 := zz_rg s1
    have g_s2 := zz_rg s2
    have g_s3 := zz_rg s3
    have g_s9 := zz_rg s9
    have g_s10 := zz_rg s10
    have g_s13 := zz_rg s13
    have g_s14 := zz_rg s14
    omega
  | succ k ih =>
    intro x1 s0 s1 s2 s3 s4 s5 s6 s7 s8 s9 s10 s11 s12 s13 s14 s15 s16 a0 a1 a2 a3 a4 a5 a6 a7 a8 a9 a10 a11 a12 a13 a14 a15 a16 a17 a18 hz9
    rw [m_X6_emptyRows_L2_s]
    have g1 := zz_rg x1
    have g2 := zz_rg s0
    have g3 := zz_rg s1
    have g4 := zz_rg s2
    have g5 := zz_rg s3
    have g6 := zz_rg s9
    have g7 := zz_rg s10
    have g8 := zz_rg s13
    have g9 := zz_rg s14
    refine zz_ok_bind (s_X10_size K hK n7 n8 s13 s14 s15 s16) ?_
    intro z10 hz10
    obtain ⟨r_1, t_1_0, t_1_1, t_1_2, t_1_3⟩ := z10
    have q11 : r_1.toInt = s13.toInt := hz10.1
    have q12 : t_1_0.toInt = s13.toInt := hz10.2
    have g13 := zz_rg r_1
    have g14 := zz_rg t_1_0
    have g15 := zz_rg t_1_1
    show zz_ok (if r_1 ≤ x1 then ((m_X10_clear K n7 n8 t_1_0 t_1_1 t_1_2 t_1_3).bind fun ⟨t_3_0, t_3_1, t_3_2, t_3_3⟩ => some (s0, s1, s2, s3, s4, s5, s6, s7, s8, s9, s10, s11, s12, t_3_0, t_3_1, t_3_2, t_3_3)) else ((m_X10_placeOf K n7 n8 x1 t_1_0 t_1_1 t_1_2 t_1_3).bind fun ⟨r_4, t_4_0, t_4_1, t_4_2, t_4_3⟩ => (m_X10_wordsOf K n7 n8 x1 t_4_0 t_4_1 t_4_2 t_4_3).bind fun ⟨r_5, t_5_0, t_5_1, t_5_2, t_5_3⟩ => (m_X7_markFree K n0 n1 n2 n3 n4 n5 n6 r_4 r_5 s0 s1 s2 s3 s4 s5 s6 s7 s8 s9 s10 s11 s12).bind fun ⟨t_6_0, t_6_1, t_6_2, t_6_3, t_6_4, t_6_5, t_6_6, t_6_7, t_6_8, t_6_9, t_6_10, t_6_11, t_6_12⟩ => m_X6_emptyRows_L2 K n0 n1 n2 n3 n4 n5 n6 n7 n8 k (x1 + 1) t_6_0 t_6_1 t_6_2 t_6_3 t_6_4 t_6_5 t_6_6 t_6_7 t_6_8 t_6_9 t_6_10 t_6_11 t_6_12 t_5_0 t_5_1 t_5_2 t_5_3)) _
    refine zz_ok_ite (fun c16 => ?_) (fun c16 => ?_)
    · have c16 := Int32.le_iff_toInt_le.mp c16
      refine zz_ok_bind (s_X10_clear K hK n7 n8 t_1_0 t_1_1 t_1_2 t_1_3) ?_
      intro z17 hz17
      obtain ⟨t_3_0, t_3_1, t_3_2, t_3_3⟩ := z17
      have q18 : t_3_0.toInt = 0 := hz17
      have g19 := zz_rg t_3_0
      have g20 := zz_rg t_3_1
      show zz_ok (some (s0, s1, s2, s3, s4, s5, s6, s7, s8, s9, s10, s11, s12, t_3_0, t_3_1, t_3_2, t_3_3)) _
      refine zz_ok_some ?_
      show s0.toInt = s0.toInt ∧ s1.toInt = s1.toInt ∧ 0 ≤ s9.toInt ∧ s9.toInt ≤ 512 ∧ 0 ≤ t_3_0.toInt ∧ t_3_0.toInt ≤ 1024
      refine ⟨?_, ?_, ?_, ?_, ?_, ?_⟩ <;> omega
    · have c16 := zz_nle c16
      refine zz_ok_bind (s_X10_placeOf K hK n7 n8 x1 t_1_0 t_1_1 t_1_2 t_1_3 (by omega) (by omega) (by omega) (by omega)) ?_
      intro z21 hz21
      obtain ⟨r_4, t_4_0, t_4_1, t_4_2, t_4_3⟩ := z21
      have q22 : t_4_0.toInt = t_1_0.toInt := hz21
      have g23 := zz_rg r_4
      have g24 := zz_rg t_4_0
      have g25 := zz_rg t_4_1
      show zz_ok ((m_X10_wordsOf K n7 n8 x1 t_4_0 t_4_1 t_4_2 t_4_3).bind fun ⟨r_5, t_5_0, t_5_1, t_5_2, t_5_3⟩ => (m_X7_markFree K n0 n1 n2 n3 n4 n5 n6 r_4 r_5 s0 s1 s2 s3 s4 s5 s6 s7 s8 s9 s10 s11 s12).bind fun ⟨t_6_0, t_6_1, t_6_2, t_6_3, t_6_4, t_6_5, t_6_6, t_6_7, t_6_8, t_6_9, t_6_10, t_6_11, t_6_12⟩ => m_X6_emptyRows_L2 K n0 n1 n2 n3 n4 n5 n6 n7 n8 k (x1 + 1) t_6_0 t_6_1 t_6_2 t_6_3 t_6_4 t_6_5 t_6_6 t_6_7 t_6_8 t_6_9 t_6_10 t_6_11 t_6_12 t_5_0 t_5_1 t_5_2 t_5_3) _
      refine zz_ok_bind (s_X10_wordsOf K hK n7 n8 x1 t_4_0 t_4_1 t_4_2 t_4_3 (by omega) (by omega) (by omega) (by omega)) ?_
      intro z26 hz26
      obtain ⟨r_5, t_5_0, t_5_1, t_5_2, t_5_3⟩ := z26
      have q27 : t_5_0.toInt = t_4_0.toInt := hz26
      have g28 := zz_rg r_5
      have g29 := zz_rg t_5_0
      have g30 := zz_rg t_5_1
      show zz_ok ((m_X7_markFree K n0 n1 n2 n3 n4 n5 n6 r_4 r_5 s0 s1 s2 s3 s4 s5 s6 s7 s8 s9 s10 s11 s12).bind fun ⟨t_6_0, t_6_1, t_6_2, t_6_3, t_6_4, t_6_5, t_6_6, t_6_7, t_6_8, t_6_9, t_6_10, t_6_11, t_6_12⟩ => m_X6_emptyRows_L2 K n0 n1 n2 n3 n4 n5 n6 n7 n8 k (x1 + 1) t_6_0 t_6_1 t_6_2 t_6_3 t_6_4 t_6_5 t_6_6 t_6_7 t_6_8 t_6_9 t_6_10 t_6_11 t_6_12 t_5_0 t_5_1 t_5_2 t_5_3) _
      refine zz_ok_bind (s_X7_markFree K hK n0 n1 n2 n3 n4 n5 n6 r_4 r_5 s0 s1 s2 s3 s4 s5 s6 s7 s8 s9 s10 s11 s12 (by omega) (by omega) (by omega) (by omega) (by omega) (by omega) (by omega) (by omega) (by omega) (by omega) (by omega) (by omega) (by omega)) ?_
      intro z31 hz31
      obtain ⟨t_6_0, t_6_1, t_6_2, t_6_3, t_6_4, t_6_5, t_6_6, t_6_7, t_6_8, t_6_9, t_6_10, t_6_11, t_6_12⟩ := z31
      have q32 : t_6_0.toInt = s0.toInt := hz31.1
      have q33 : t_6_1.toInt = s1.toInt := hz31.2.1
      have q34 : 0 ≤ t_6_9.toInt := hz31.2.2.1
      have q35 : t_6_9.toInt ≤ 512 := hz31.2.2.2
      have g36 := zz_rg t_6_0
      have g37 := zz_rg t_6_1
      have g38 := zz_rg t_6_2
      have g39 := zz_rg t_6_3
      have g40 := zz_rg t_6_9
      have g41 := zz_rg t_6_10
      show zz_ok (m_X6_emptyRows_L2 K n0 n1 n2 n3 n4 n5 n6 n7 n8 k (x1 + 1) t_6_0 t_6_1 t_6_2 t_6_3 t_6_4 t_6_5 t_6_6 t_6_7 t_6_8 t_6_9 t_6_10 t_6_11 t_6_12 t_5_0 t_5_1 t_5_2 t_5_3) _
      have l42 : (1 : Int32).toInt = 1 := rfl
      obtain ⟨k43, f44⟩ := zz_add x1 (1 : Int32)
      have g45 := zz_rg (x1 + 1)
      refine (ih (x1 + 1) t_6_0 t_6_1 t_6_2 t_6_3 t_6_4 t_6_5 t_6_6 t_6_7 t_6_8 t_6_9 t_6_10 t_6_11 t_6_12 t_5_0 t_5_1 t_5_2 t_5_3 (by omega) (by omega) (by omega) (by omega) (by omega) (by omega) (by omega) (by omega) (by omega) (by omega) (by omega) (by omega) (by omega) (by omega) (by omega) (by omega) (by omega) (by omega) (by omega) (by omega)).mono (fun z hz => ?_)
      have q46 : z.1.toInt = t_6_0.toInt := hz.1
      have q47 : z.2.1.toInt = t_6_1.toInt := hz.2.1
      have q48 : 0 ≤ z.2.2.2.2.2.2.2.2.2.1.toInt := hz.2.2.1
      have q49 : z.2.2.2.2.2.2.2.2.2.1.toInt ≤ 512 := hz.2.2.2.1
      have q50 : 0 ≤ z.2.2.2.2.2.2.2.2.2.2.2.2.2.1.toInt := hz.2.2.2.2.1
      have q51 : z.2.2.2.2.2.2.2.2.2.2.2.2.2.1.toInt ≤ 1024 := hz.2.2.2.2.2
      show z.1.toInt = s0.toInt ∧ z.2.1.toInt = s1.toInt ∧ 0 ≤ z.2.2.2.2.2.2.2.2.2.1.toInt ∧ z.2.2.2.2.2.2.2.2.2.1.toInt ≤ 512 ∧ 0 ≤ z.2.2.2.2.2.2.2.2.2.2.2.2.2.1.toInt ∧ z.2.2.2.2.2.2.2.2.2.2.2.2.2.1.toInt ≤ 1024
      refine ⟨?_, ?_, ?_, ?_, ?_, ?_⟩ <;> omega
set_option maxHeartbeats 4000000 in
theorem s_X6_emptyRows (K : Nat) (hK : 1099511627776 ≤ K) (n0 : Nat) (n1 : Nat) (n2 : Nat) (n3 : Nat) (n4 : Nat) (n5 : Nat) (n6 : Nat) (n7 : Nat) (n8 : Nat) (s0 : Int32) (s1 : Int32) (s2 : Int32) (s3 : Int32) (s4 : Nat → Int32) (s5 : Nat → Int32) (s6 : Nat → Int32) (s7 : Nat → Int32) (s8 : Nat → Int32) (s9 : Int32) (s10 : Int32) (s11 : Nat → Int32) (s12 : Nat → Int32) (s13 : Int32) (s14 : Int32) (s15 : Nat → Int32) (s16 : Nat → Int32) (a0 : n0 = 1024) (a1 : n1 = 200) (a2 : n2 = 200) (a3 : n3 = 200) (a4 : n4 = 200) (a5 : n5 = 512) (a6 : n6 = 512) (a7 : 0 ≤ s0.toInt) (a8 : s0.toInt ≤ 1024) (a9 : 0 ≤ s1.toInt) (a10 : s1.toInt ≤ 200) (a11 : 0 ≤ s9.toInt) (a12 : s9.toInt ≤ 512) (a13 : n7 = 1024) (a14 : n8 = 1024) (a15 : 0 ≤ s13.toInt) (a16 : s13.toInt ≤ 1024) : zz_ok (m_X6_emptyRows K n0 n1 n2 n3 n4 n5 n6 n7 n8 s0 s1 s2 s3 s4 s5 s6 s7 s8 s9 s10 s11 s12 s13 s14 s15 s16) (fun z => z.1.toInt = s0.toInt ∧ z.2.1.toInt = s1.toInt ∧ 0 ≤ z.2.2.2.2.2.2.2.2.2.1.toInt ∧ z.2.2.2.2.2.2.2.2.2.1.toInt ≤ 512 ∧ 0 ≤ z.2.2.2.2.2.2.2.2.2.2.2.2.2.1.toInt ∧ z.2.2.2.2.2.2.2.2.2.2.2.2.2.1.toInt ≤ 1024) := by
  have g1 := zz_rg s0
  have g2 := zz_rg s1
  have g3 := zz_rg s2
  have g4 := zz_rg s3
  have g5 := zz_rg s9
  have g6 := zz_rg s10
  have g7 := zz_rg s13
  have g8 := zz_rg s14
  unfold m_X6_emptyRows
  have l9 : (0 : Int32).toInt = 0 := rfl
  refine (s_X6_emptyRows_L2 K hK n0 n1 n2 n3 n4 n5 n6 n7 n8 K ((0 : Int32)) s0 s1 s2 s3 s4 s5 s6 s7 s8 s9 s10 s11 s12 s13 s14 s15 s16 (by omega) (by omega) (by omega) (by omega) (by omega) (by omega) (by omega) (by omega) (by omega) (by omega) (by omega) (by omega) (by omega) (by omega) (by omega) (by omega) (by omega) (by omega) (by omega) (by omega)).mono (fun z hz => ?_)
  have q10 : z.1.toInt = s0.toInt := hz.1
  have q11 : z.2.1.toInt = s1.toInt := hz.2.1
  have q12 : 0 ≤ z.2.2.2.2.2.2.2.2.2.1.toInt := hz.2.2.1
  have q13 : z.2.2.2.2.2.2.2.2.2.1.toInt ≤ 512 := hz.2.2.2.1
  have q14 : 0 ≤ z.2.2.2.2.2.2.2.2.2.2.2.2.2.1.toInt := hz.2.2.2.2.1
  have q15 : z.2.2.2.2.2.2.2.2.2.2.2.2.2.1.toInt ≤ 1024 := hz.2.2.2.2.2
  show z.1.toInt = s0.toInt ∧ z.2.1.toInt = s1.toInt ∧ 0 ≤ z.2.2.2.2.2.2.2.2.2.1.toInt ∧ z.2.2.2.2.2.2.2.2.2.1.toInt ≤ 512 ∧ 0 ≤ z.2.2.2.2.2.2.2.2.2.2.2.2.2.1.toInt ∧ z.2.2.2.2.2.2.2.2.2.2.2.2.2.1.toInt ≤ 1024
  refine ⟨?_, ?_, ?_, ?_, ?_, ?_⟩ <;> omega
set_option maxHeartbeats 4000000 in
theorem s_X6_take (K : Nat) (hK : 1099511627776 ≤ K) (n0 : Nat) (n1 : Nat) (n2 : Nat) (n3 : Nat) (n4 : Nat) (n5 : Nat) (n6 : Nat) (n7 : Nat) (n8 : Nat) (p1 : Int32) (s0 : Int32) (s1 : Int32) (s2 : Int32) (s3 : Int32) (s4 : Nat → Int32) (s5 : Nat → Int32) (s6 : Nat → Int32) (s7 : Nat → Int32) (s8 : Nat → Int32) (s9 : Int32) (s10 : Int32) (s11 : Nat → Int32) (s12 : Nat → Int32) (s13 : Int32) (s14 : Int32) (s15 : Nat → Int32) (s16 : Nat → Int32) (a0 : n0 = 1024) (a1 : n1 = 200) (a2 : n2 = 200) (a3 : n3 = 200) (a4 : n4 = 200) (a5 : n5 = 512) (a6 : n6 = 512) (a7 : 0 ≤ s0.toInt) (a8 : s0.toInt ≤ 1024) (a9 : 0 ≤ s1.toInt) (a10 : s1.toInt ≤ 200) (a11 : 0 ≤ s9.toInt) (a12 : s9.toInt ≤ 512) (a13 : n7 = 1024) (a14 : n8 = 1024) (a15 : 0 ≤ s13.toInt) (a16 : s13.toInt ≤ 1024) : zz_ok (m_X6_take K n0 n1 n2 n3 n4 n5 n6 n7 n8 p1 s0 s1 s2 s3 s4 s5 s6 s7 s8 s9 s10 s11 s12 s13 s14 s15 s16) (fun z => z.2.1.toInt = s0.toInt ∧ z.2.2.1.toInt = s1.toInt ∧ 0 ≤ z.2.2.2.2.2.2.2.2.2.2.1.toInt ∧ z.2.2.2.2.2.2.2.2.2.2.1.toInt ≤ 512 ∧ 0 ≤ z.2.2.2.2.2.2.2.2.2.2.2.2.2.2.1.toInt ∧ z.2.2.2.2.2.2.2.2.2.2.2.2.2.2.1.toInt ≤ 1024) := by
  have g1 := zz_rg p1
  have g2 := zz_rg s0
  have g3 := zz_rg s1
  have g4 := zz_rg s2
  have g5 := zz_rg s3
  have g6 := zz_rg s9
  have g7 := zz_rg s10
  have g8 := zz_rg s13
  have g9 := zz_rg s14
  unfold m_X6_take
  refine zz_ok_bind (s_X6_takeQuick K hK n0 n1 n2 n3 n4 n5 n6 n7 n8 p1 s0 s1 s2 s3 s4 s5 s6 s7 s8 s9 s10 s11 s12 s13 s14 s15 s16 (by omega) (by omega) (by omega) (by omega) (by omega) (by omega) (by omega) (by omega) (by omega) (by omega) (by omega) (by omega) (by omega) (by omega) (by omega) (by omega) (by omega)) ?_
  intro z10 hz10
  obtain ⟨r_1, t_1_0, t_1_1, t_1_2, t_1_3, t_1_4, t_1_5, t_1_6, t_1_7, t_1_8, t_1_9, t_1_10, t_1_11, t_1_12, t_1_13, t_1_14, t_1_15, t_1_16⟩ := z10
  have q11 : t_1_0.toInt = s0.toInt := hz10.1
  have q12 : t_1_1.toInt = s1.toInt := hz10.2.1
  have q13 : 0 ≤ t_1_9.toInt := hz10.2.2.1
  have q14 : t_1_9.toInt ≤ 512 := hz10.2.2.2.1
  have q15 : 0 ≤ t_1_13.toInt := hz10.2.2.2.2.1
  have q16 : t_1_13.toInt ≤ 1024 := hz10.2.2.2.2.2
  have g17 := zz_rg r_1
  have g18 := zz_rg t_1_0
  have g19 := zz_rg t_1_1
  have g20 := zz_rg t_1_2
  have g21 := zz_rg t_1_3
  have g22 := zz_rg t_1_9
  have g23 := zz_rg t_1_10
  have g24 := zz_rg t_1_13
  have g25 := zz_rg t_1_14
  show zz_ok (if r_1 = ((-1 : Int32)) then ((m_X6_takeFirst K n0 n1 n2 n3 n4 n5 n6 n7 n8 p1 t_1_0 t_1_1 t_1_2 t_1_3 t_1_4 t_1_5 t_1_6 t_1_7 t_1_8 t_1_9 t_1_10 t_1_11 t_1_12 t_1_13 t_1_14 t_1_15 t_1_16).bind fun ⟨r_6, t_6_0, t_6_1, t_6_2, t_6_3, t_6_4, t_6_5, t_6_6, t_6_7, t_6_8, t_6_9, t_6_10, t_6_11, t_6_12, t_6_13, t_6_14, t_6_15, t_6_16⟩ => if r_6 = ((-1 : Int32)) then ((m_X6_emptyRows K n0 n1 n2 n3 n4 n5 n6 n7 n8 t_6_0 t_6_1 t_6_2 t_6_3 t_6_4 t_6_5 t_6_6 t_6_7 t_6_8 t_6_9 t_6_10 t_6_11 t_6_12 t_6_13 t_6_14 t_6_15 t_6_16).bind fun ⟨t_8_0, t_8_1, t_8_2, t_8_3, t_8_4, t_8_5, t_8_6, t_8_7, t_8_8, t_8_9, t_8_10, t_8_11, t_8_12, t_8_13, t_8_14, t_8_15, t_8_16⟩ => (m_X6_takeFirst K n0 n1 n2 n3 n4 n5 n6 n7 n8 p1 t_8_0 t_8_1 t_8_2 t_8_3 t_8_4 t_8_5 t_8_6 t_8_7 t_8_8 t_8_9 t_8_10 t_8_11 t_8_12 t_8_13 t_8_14 t_8_15 t_8_16).bind fun ⟨r_9, t_9_0, t_9_1, t_9_2, t_9_3, t_9_4, t_9_5, t_9_6, t_9_7, t_9_8, t_9_9, t_9_10, t_9_11, t_9_12, t_9_13, t_9_14, t_9_15, t_9_16⟩ => some (r_9, t_9_0, t_9_1, t_9_2, t_9_3, t_9_4, t_9_5, t_9_6, t_9_7, t_9_8, t_9_9, t_9_10, t_9_11, t_9_12, t_9_13, t_9_14, t_9_15, t_9_16)) else (some (r_6, t_6_0, t_6_1, t_6_2, t_6_3, t_6_4, t_6_5, t_6_6, t_6_7, t_6_8, t_6_9, t_6_10, t_6_11, t_6_12, t_6_13, t_6_14, t_6_15, t_6_16))) else (if r_1 = ((-1 : Int32)) then ((m_X6_emptyRows K n0 n1 n2 n3 n4 n5 n6 n7 n8 t_1_0 t_1_1 t_1_2 t_1_3 t_1_4 t_1_5 t_1_6 t_1_7 t_1_8 t_1_9 t_1_10 t_1_11 t_1_12 t_1_13 t_1_14 t_1_15 t_1_16).bind fun ⟨t_4_0, t_4_1, t_4_2, t_4_3, t_4_4, t_4_5, t_4_6, t_4_7, t_4_8, t_4_9, t_4_10, t_4_11, t_4_12, t_4_13, t_4_14, t_4_15, t_4_16⟩ => (m_X6_takeFirst K n0 n1 n2 n3 n4 n5 n6 n7 n8 p1 t_4_0 t_4_1 t_4_2 t_4_3 t_4_4 t_4_5 t_4_6 t_4_7 t_4_8 t_4_9 t_4_10 t_4_11 t_4_12 t_4_13 t_4_14 t_4_15 t_4_16).bind fun ⟨r_5, t_5_0, t_5_1, t_5_2, t_5_3, t_5_4, t_5_5, t_5_6, t_5_7, t_5_8, t_5_9, t_5_10, t_5_11, t_5_12, t_5_13, t_5_14, t_5_15, t_5_16⟩ => some (r_5, t_5_0, t_5_1, t_5_2, t_5_3, t_5_4, t_5_5, t_5_6, t_5_7, t_5_8, t_5_9, t_5_10, t_5_11, t_5_12, t_5_13, t_5_14, t_5_15, t_5_16)) else (some (r_1, t_1_0, t_1_1, t_1_2, t_1_3, t_1_4, t_1_5, t_1_6, t_1_7, t_1_8, t_1_9, t_1_10, t_1_11, t_1_12, t_1_13, t_1_14, t_1_15, t_1_16)))) _
  have l27 : (-1 : Int32).toInt = -1 := rfl
  refine zz_ok_ite (fun c26 => ?_) (fun c26 => ?_)
  · have c26 := congrArg Int32.toInt c26
    refine zz_ok_bind (s_X6_takeFirst K hK n0 n1 n2 n3 n4 n5 n6 n7 n8 p1 t_1_0 t_1_1 t_1_2 t_1_3 t_1_4 t_1_5 t_1_6 t_1_7 t_1_8 t_1_9 t_1_10 t_1_11 t_1_12 t_1_13 t_1_14 t_1_15 t_1_16 (by omega) (by omega) (by omega) (by omega) (by omega) (by omega) (by omega) (by omega) (by omega) (by omega) (by omega) (by omega) (by omega) (by omega) (by omega) (by omega) (by omega)) ?_
    intro z28 hz28
    obtain ⟨r_6, t_6_0, t_6_1, t_6_2, t_6_3, t_6_4, t_6_5, t_6_6, t_6_7, t_6_8, t_6_9, t_6_10, t_6_11, t_6_12, t_6_13, t_6_14, t_6_15, t_6_16⟩ := z28
    have q29 : t_6_0.toInt = t_1_0.toInt := hz28.1
    have q30 : t_6_1.toInt = t_1_1.toInt := hz28.2.1
    have q31 : 0 ≤ t_6_9.toInt := hz28.2.2.1
    have q32 : t_6_9.toInt ≤ 512 := hz28.2.2.2.1
    have q33 : 0 ≤ t_6_13.toInt := hz28.2.2.2.2.1
    have q34 : t_6_13.toInt ≤ 1024 := hz28.2.2.2.2.2
    have g35 := zz_rg r_6
    have g36 := zz_rg t_6_0
    have g37 := zz_rg t_6_1
    have g38 := zz_rg t_6_2
    have g39 := zz_rg t_6_3
    have g40 := zz_rg t_6_9
    have g41 := zz_rg t_6_10
    have g42 := zz_rg t_6_13
    have g43 := zz_rg t_6_14
    show zz_ok (if r_6 = ((-1 : Int32)) then ((m_X6_emptyRows K n0 n1 n2 n3 n4 n5 n6 n7 n8 t_6_0 t_6_1 t_6_2 t_6_3 t_6_4 t_6_5 t_6_6 t_6_7 t_6_8 t_6_9 t_6_10 t_6_11 t_6_12 t_6_13 t_6_14 t_6_15 t_6_16).bind fun ⟨t_8_0, t_8_1, t_8_2, t_8_3, t_8_4, t_8_5, t_8_6, t_8_7, t_8_8, t_8_9, t_8_10, t_8_11, t_8_12, t_8_13, t_8_14, t_8_15, t_8_16⟩ => (m_X6_takeFirst K n0 n1 n2 n3 n4 n5 n6 n7 n8 p1 t_8_0 t_8_1 t_8_2 t_8_3 t_8_4 t_8_5 t_8_6 t_8_7 t_8_8 t_8_9 t_8_10 t_8_11 t_8_12 t_8_13 t_8_14 t_8_15 t_8_16).bind fun ⟨r_9, t_9_0, t_9_1, t_9_2, t_9_3, t_9_4, t_9_5, t_9_6, t_9_7, t_9_8, t_9_9, t_9_10, t_9_11, t_9_12, t_9_13, t_9_14, t_9_15, t_9_16⟩ => some (r_9, t_9_0, t_9_1, t_9_2, t_9_3, t_9_4, t_9_5, t_9_6, t_9_7, t_9_8, t_9_9, t_9_10, t_9_11, t_9_12, t_9_13, t_9_14, t_9_15, t_9_16)) else (some (r_6, t_6_0, t_6_1, t_6_2, t_6_3, t_6_4, t_6_5, t_6_6, t_6_7, t_6_8, t_6_9, t_6_10, t_6_11, t_6_12, t_6_13, t_6_14, t_6_15, t_6_16))) _
    refine zz_ok_ite (fun c44 => ?_) (fun c44 => ?_)
    · have c44 := congrArg Int32.toInt c44
      refine zz_ok_bind (s_X6_emptyRows K hK n0 n1 n2 n3 n4 n5 n6 n7 n8 t_6_0 t_6_1 t_6_2 t_6_3 t_6_4 t_6_5 t_6_6 t_6_7 t_6_8 t_6_9 t_6_10 t_6_11 t_6_12 t_6_13 t_6_14 t_6_15 t_6_16 (by omega) (by omega) (by omega) (by omega) (by omega) (by omega) (by omega) (by omega) (by omega) (by omega) (by omega) (by omega) (by omega) (by omega) (by omega) (by omega) (by omega)) ?_
      intro z45 hz45
      obtain ⟨t_8_0, t_8_1, t_8_2, t_8_3, t_8_4, t_8_5, t_8_6, t_8_7, t_8_8, t_8_9, t_8_10, t_8_11, t_8_12, t_8_13, t_8_14, t_8_15, t_8_16⟩ := z45
      have q46 : t_8_0.toInt = t_6_0.toInt := hz45.1
      have q47 : t_8_1.toInt = t_6_1.toInt := hz45.2.1
      have q48 : 0 ≤ t_8_9.toInt := hz45.2.2.1
      have q49 : t_8_9.toInt ≤ 512 := hz45.2.2.2.1
      have q50 : 0 ≤ t_8_13.toInt := hz45.2.2.2.2.1
      have q51 : t_8_13.toInt ≤ 1024 := hz45.2.2.2.2.2
      have g52 := zz_rg t_8_0
      have g53 := zz_rg t_8_1
      have g54 := zz_rg t_8_2
      have g55 := zz_rg t_8_3
      have g56 := zz_rg t_8_9
      have g57 := zz_rg t_8_10
      have g58 := zz_rg t_8_13
      have g59 := zz_rg t_8_14
      show zz_ok ((m_X6_takeFirst K n0 n1 n2 n3 n4 n5 n6 n7 n8 p1 t_8_0 t_8_1 t_8_2 t_8_3 t_8_4 t_8_5 t_8_6 t_8_7 t_8_8 t_8_9 t_8_10 t_8_11 t_8_12 t_8_13 t_8_14 t_8_15 t_8_16).bind fun ⟨r_9, t_9_0, t_9_1, t_9_2, t_9_3, t_9_4, t_9_5, t_9_6, t_9_7, t_9_8, t_9_9, t_9_10, t_9_11, t_9_12, t_9_13, t_9_14, t_9_15, t_9_16⟩ => some (r_9, t_9_0, t_9_1, t_9_2, t_9_3, t_9_4, t_9_5, t_9_6, t_9_7, t_9_8, t_9_9, t_9_10, t_9_11, t_9_12, t_9_13, t_9_14, t_9_15, t_9_16)) _
      refine zz_ok_bind (s_X6_takeFirst K hK n0 n1 n2 n3 n4 n5 n6 n7 n8 p1 t_8_0 t_8_1 t_8_2 t_8_3 t_8_4 t_8_5 t_8_6 t_8_7 t_8_8 t_8_9 t_8_10 t_8_11 t_8_12 t_8_13 t_8_14 t_8_15 t_8_16 (by omega) (by omega) (by omega) (by omega) (by omega) (by omega) (by omega) (by omega) (by omega) (by omega) (by omega) (by omega) (by omega) (by omega) (by omega) (by omega) (by omega)) ?_
      intro z60 hz60
      obtain ⟨r_9, t_9_0, t_9_1, t_9_2, t_9_3, t_9_4, t_9_5, t_9_6, t_9_7, t_9_8, t_9_9, t_9_10, t_9_11, t_9_12, t_9_13, t_9_14, t_9_15, t_9_16⟩ := z60
      have q61 : t_9_0.toInt = t_8_0.toInt := hz60.1
      have q62 : t_9_1.toInt = t_8_1.toInt := hz60.2.1
      have q63 : 0 ≤ t_9_9.toInt := hz60.2.2.1
      have q64 : t_9_9.toInt ≤ 512 := hz60.2.2.2.1
      have q65 : 0 ≤ t_9_13.toInt := hz60.2.2.2.2.1
      have q66 : t_9_13.toInt ≤ 1024 := hz60.2.2.2.2.2
      have g67 := zz_rg r_9
      have g68 := zz_rg t_9_0
      have g69 := zz_rg t_9_1
      have g70 := zz_rg t_9_2
      have g71 := zz_rg t_9_3
      have g72 := zz_rg t_9_9
      have g73 := zz_rg t_9_10
      have g74 := zz_rg t_9_13
      have g75 := zz_rg t_9_14
      show zz_ok (some (r_9, t_9_0, t_9_1, t_9_2, t_9_3, t_9_4, t_9_5, t_9_6, t_9_7, t_9_8, t_9_9, t_9_10, t_9_11, t_9_12, t_9_13, t_9_14, t_9_15, t_9_16)) _
      refine zz_ok_some ?_
      show t_9_0.toInt = s0.toInt ∧ t_9_1.toInt = s1.toInt ∧ 0 ≤ t_9_9.toInt ∧ t_9_9.toInt ≤ 512 ∧ 0 ≤ t_9_13.toInt ∧ t_9_13.toInt ≤ 1024
      refine ⟨?_, ?_, ?_, ?_, ?_, ?_⟩ <;> omega
    · have c44 := zz_neq c44
      refine zz_ok_some ?_
      show t_6_0.toInt = s0.toInt ∧ t_6_1.toInt = s1.toInt ∧ 0 ≤ t_6_9.toInt ∧ t_6_9.toInt ≤ 512 ∧ 0 ≤ t_6_13.toInt ∧ t_6_13.toInt ≤ 1024
      refine ⟨?_, ?_, ?_, ?_, ?_, ?_⟩ <;> omega
  · have c26 := zz_neq c26
    refine zz_ok_ite (fun c76 => ?_) (fun c76 => ?_)
    · have c76 := congrArg Int32.toInt c76
      refine zz_ok_bind (s_X6_emptyRows K hK n0 n1 n2 n3 n4 n5 n6 n7 n8 t_1_0 t_1_1 t_1_2 t_1_3 t_1_4 t_1_5 t_1_6 t_1_7 t_1_8 t_1_9 t_1_10 t_1_11 t_1_12 t_1_13 t_1_14 t_1_15 t_1_16 (by omega) (by omega) (by omega) (by omega) (by omega) (by omega) (by omega) (by omega) (by omega) (by omega) (by omega) (by omega) (by omega) (by omega) (by omega) (by omega) (by omega)) ?_
      intro z77 hz77
      obtain ⟨t_4_0, t_4_1, t_4_2, t_4_3, t_4_4, t_4_5, t_4_6, t_4_7, t_4_8, t_4_9, t_4_10, t_4_11, t_4_12, t_4_13, t_4_14, t_4_15, t_4_16⟩ := z77
      have q78 : t_4_0.toInt = t_1_0.toInt := hz77.1
      have q79 : t_4_1.toInt = t_1_1.toInt := hz77.2.1
      have q80 : 0 ≤ t_4_9.toInt := hz77.2.2.1
      have q81 : t_4_9.toInt ≤ 512 := hz77.2.2.2.1
      have q82 : 0 ≤ t_4_13.toInt := hz77.2.2.2.2.1
      have q83 : t_4_13.toInt ≤ 1024 := hz77.2.2.2.2.2
      have g84 := zz_rg t_4_0
      have g85 := zz_rg t_4_1
      have g86 := zz_rg t_4_2
      have g87 := zz_rg t_4_3
      have g88 := zz_rg t_4_9
      have g89 := zz_rg t_4_10
      have g90 := zz_rg t_4_13
      have g91 := zz_rg t_4_14
      show zz_ok ((m_X6_takeFirst K n0 n1 n2 n3 n4 n5 n6 n7 n8 p1 t_4_0 t_4_1 t_4_2 t_4_3 t_4_4 t_4_5 t_4_6 t_4_7 t_4_8 t_4_9 t_4_10 t_4_11 t_4_12 t_4_13 t_4_14 t_4_15 t_4_16).bind fun ⟨r_5, t_5_0, t_5_1, t_5_2, t_5_3, t_5_4, t_5_5, t_5_6, t_5_7, t_5_8, t_5_9, t_5_10, t_5_11, t_5_12, t_5_13, t_5_14, t_5_15, t_5_16⟩ => some (r_5, t_5_0, t_5_1, t_5_2, t_5_3, t_5_4, t_5_5, t_5_6, t_5_7, t_5_8, t_5_9, t_5_10, t_5_11, t_5_12, t_5_13, t_5_14, t_5_15, t_5_16)) _
      refine zz_ok_bind (s_X6_takeFirst K hK n0 n1 n2 n3 n4 n5 n6 n7 n8 p1 t_4_0 t_4_1 t_4_2 t_4_3 t_4_4 t_4_5 t_4_6 t_4_7 t_4_8 t_4_9 t_4_10 t_4_11 t_4_12 t_4_13 t_4_14 t_4_15 t_4_16 (by omega) (by omega) (by omega) (by omega) (by omega) (by omega) (by omega) (by omega) (by omega) (by omega) (by omega) (by omega) (by omega) (by omega) (by omega) (by omega) (by omega)) ?_
      intro z92 hz92
      obtain ⟨r_5, t_5_0, t_5_1, t_5_2, t_5_3, t_5_4, t_5_5, t_5_6, t_5_7, t_5_8, t_5_9, t_5_10, t_5_11, t_5_12, t_5_13, t_5_14, t_5_15, t_5_16⟩ := z92
      have q93 : t_5_0.toInt = t_4_0.toInt := hz92.1
      have q94 : t_5_1.toInt = t_4_1.toInt := hz92.2.1
      have q95 : 0 ≤ t_5_9.toInt := hz92.2.2.1
      have q96 : t_5_9.toInt ≤ 512 := hz92.2.2.2.1
      have q97 : 0 ≤ t_5_13.toInt := hz92.2.2.2.2.1
      have q98 : t_5_13.toInt ≤ 1024 := hz92.2.2.2.2.2
      have g99 := zz_rg r_5
      have g100 := zz_rg t_5_0
      have g101 := zz_rg t_5_1
      have g102 := zz_rg t_5_2
      have g103 := zz_rg t_5_3
      have g104 := zz_rg t_5_9
      have g105 := zz_rg t_5_10
      have g106 := zz_rg t_5_13
      have g107 := zz_rg t_5_14
      show zz_ok (some (r_5, t_5_0, t_5_1, t_5_2, t_5_3, t_5_4, t_5_5, t_5_6, t_5_7, t_5_8, t_5_9, t_5_10, t_5_11, t_5_12, t_5_13, t_5_14, t_5_15, t_5_16)) _
      refine zz_ok_some ?_
      show t_5_0.toInt = s0.toInt ∧ t_5_1.toInt = s1.toInt ∧ 0 ≤ t_5_9.toInt ∧ t_5_9.toInt ≤ 512 ∧ 0 ≤ t_5_13.toInt ∧ t_5_13.toInt ≤ 1024
      refine ⟨?_, ?_, ?_, ?_, ?_, ?_⟩ <;> omega
    · have c76 := zz_neq c76
      refine zz_ok_some ?_
      show t_1_0.toInt = s0.toInt ∧ t_1_1.toInt = s1.toInt ∧ 0 ≤ t_1_9.toInt ∧ t_1_9.toInt ≤ 512 ∧ 0 ≤ t_1_13.toInt ∧ t_1_13.toInt ≤ 1024
      refine ⟨?_, ?_, ?_, ?_, ?_, ?_⟩ <;> omega
set_option maxHeartbeats 4000000 in
theorem s_X6_takeBack (K : Nat) (hK : 1099511627776 ≤ K) (n0 : Nat) (n1 : Nat) (n2 : Nat) (n3 : Nat) (n4 : Nat) (n5 : Nat) (n6 : Nat) (n7 : Nat) (n8 : Nat) (p1 : Int32) (p2 : Int32) (s0 : Int32) (s1 : Int32) (s2 : Int32) (s3 : Int32) (s4 : Nat → Int32) (s5 : Nat → Int32) (s6 : Nat → Int32) (s7 : Nat → Int32) (s8 : Nat → Int32) (s9 : Int32) (s10 : Int32) (s11 : Nat → Int32) (s12 : Nat → Int32) (s13 : Int32) (s14 : Int32) (s15 : Nat → Int32) (s16 : Nat → Int32) (a0 : n0 = 1024) (a1 : n1 = 200) (a2 : n2 = 200) (a3 : n3 = 200) (a4 : n4 = 200) (a5 : n5 = 512) (a6 : n6 = 512) (a7 : 0 ≤ s0.toInt) (a8 : s0.toInt ≤ 1024) (a9 : 0 ≤ s1.toInt) (a10 : s1.toInt ≤ 200) (a11 : 0 ≤ s9.toInt) (a12 : s9.toInt ≤ 512) (a13 : n7 = 1024) (a14 : n8 = 1024) (a15 : 0 ≤ s13.toInt) (a16 : s13.toInt ≤ 1024) : zz_ok (m_X6_takeBack K n0 n1 n2 n3 n4 n5 n6 n7 n8 p1 p2 s0 s1 s2 s3 s4 s5 s6 s7 s8 s9 s10 s11 s12 s13 s14 s15 s16) (fun z => z.1.toInt = s0.toInt ∧ z.2.1.toInt = s1.toInt ∧ 0 ≤ z.2.2.2.2.2.2.2.2.2.1.toInt ∧ z.2.2.2.2.2.2.2.2.2.1.toInt ≤ 512 ∧ 0 ≤ z.2.2.2.2.2.2.2.2.2.2.2.2.2.1.toInt ∧ z.2.2.2.2.2.2.2.2.2.2.2.2.2.1.toInt ≤ 1024) := by
  have g1 := zz_rg p1
  have g2 := zz_rg p2
  have g3 := zz_rg s0
  have g4 := zz_rg s1
  have g5 := zz_rg s2
  have g6 := zz_rg s3
  have g7 := zz_rg s9
  have g8 := zz_rg s10
  have g9 := zz_rg s13
  have g10 := zz_rg s14
  unfold m_X6_takeBack
  have l12 : (8 : Int32).toInt = 8 := rfl
  refine zz_ok_ite (fun c11 => ?_) (fun c11 => ?_)
  · have c11 := Int32.lt_iff_toInt_lt.mp c11
    refine zz_ok_some ?_
    show s0.toInt = s0.toInt ∧ s1.toInt = s1.toInt ∧ 0 ≤ s9.toInt ∧ s9.toInt ≤ 512 ∧ 0 ≤ s13.toInt ∧ s13.toInt ≤ 1024
    refine ⟨?_, ?_, ?_, ?_, ?_, ?_⟩ <;> omega
  · have c11 := zz_nlt c11
    refine zz_ok_bind (s_X10_add K hK n7 n8 p1 p2 s13 s14 s15 s16 (by omega) (by omega) (by omega) (by omega)) ?_
    intro z13 hz13
    obtain ⟨t_2_0, t_2_1, t_2_2, t_2_3⟩ := z13
    have q14 : 0 ≤ t_2_0.toInt := hz13.1
    have q15 : t_2_0.toInt ≤ (n7 : Int) := hz13.2
    have g16 := zz_rg t_2_0
    have g17 := zz_rg t_2_1
    show zz_ok ((m_X7_markQuick K n0 n1 n2 n3 n4 n5 n6 p1 p2 s0 s1 s2 s3 s4 s5 s6 s7 s8 s9 s10 s11 s12).bind fun ⟨t_3_0, t_3_1, t_3_2, t_3_3, t_3_4, t_3_5, t_3_6, t_3_7, t_3_8, t_3_9, t_3_10, t_3_11, t_3_12⟩ => some (t_3_0, t_3_1, t_3_2, t_3_3, t_3_4, t_3_5, t_3_6, t_3_7, t_3_8, t_3_9, t_3_10, t_3_11, t_3_12, t_2_0, t_2_1, t_2_2, t_2_3)) _
    refine zz_ok_bind (s_X7_markQuick K hK n0 n1 n2 n3 n4 n5 n6 p1 p2 s0 s1 s2 s3 s4 s5 s6 s7 s8 s9 s10 s11 s12 (by omega) (by omega) (by omega) (by omega) (by omega) (by omega) (by omega) (by omega) (by omega) (by omega) (by omega) (by omega) (by omega)) ?_
    intro z18 hz18
    obtain ⟨t_3_0, t_3_1, t_3_2, t_3_3, t_3_4, t_3_5, t_3_6, t_3_7, t_3_8, t_3_9, t_3_10, t_3_11, t_3_12⟩ := z18
    have q19 : t_3_0.toInt = s0.toInt := hz18.1
    have q20 : t_3_1.toInt = s1.toInt := hz18.2.1
    have q21 : 0 ≤ t_3_9.toInt := hz18.2.2.1
    have q22 : t_3_9.toInt ≤ 512 := hz18.2.2.2
    have g23 := zz_rg t_3_0
    have g24 := zz_rg t_3_1
    have g25 := zz_rg t_3_2
    have g26 := zz_rg t_3_3
    have g27 := zz_rg t_3_9
    have g28 := zz_rg t_3_10
    show zz_ok (some (t_3_0, t_3_1, t_3_2, t_3_3, t_3_4, t_3_5, t_3_6, t_3_7, t_3_8, t_3_9, t_3_10, t_3_11, t_3_12, t_2_0, t_2_1, t_2_2, t_2_3)) _
    refine zz_ok_some ?_
    show t_3_0.toInt = s0.toInt ∧ t_3_1.toInt = s1.toInt ∧ 0 ≤ t_3_9.toInt ∧ t_3_9.toInt ≤ 512 ∧ 0 ≤ t_2_0.toInt ∧ t_2_0.toInt ≤ 1024
    refine ⟨?_, ?_, ?_, ?_, ?_, ?_⟩ <;> omega
set_option maxHeartbeats 4000000 in
theorem s_X6_quickOnes (K : Nat) (hK : 1099511627776 ≤ K) (n0 : Nat) (n1 : Nat) (n2 : Nat) (n3 : Nat) (n4 : Nat) (n5 : Nat) (n6 : Nat) (n7 : Nat) (n8 : Nat) (s0 : Int32) (s1 : Int32) (s2 : Int32) (s3 : Int32) (s4 : Nat → Int32) (s5 : Nat → Int32) (s6 : Nat → Int32) (s7 : Nat → Int32) (s8 : Nat → Int32) (s9 : Int32) (s10 : Int32) (s11 : Nat → Int32) (s12 : Nat → Int32) (s13 : Int32) (s14 : Int32) (s15 : Nat → Int32) (s16 : Nat → Int32) (a0 : n0 = 1024) (a1 : n1 = 200) (a2 : n2 = 200) (a3 : n3 = 200) (a4 : n4 = 200) (a5 : n5 = 512) (a6 : n6 = 512) (a7 : 0 ≤ s0.toInt) (a8 : s0.toInt ≤ 1024) (a9 : 0 ≤ s1.toInt) (a10 : s1.toInt ≤ 200) (a11 : 0 ≤ s9.toInt) (a12 : s9.toInt ≤ 512) (a13 : n7 = 1024) (a14 : n8 = 1024) (a15 : 0 ≤ s13.toInt) (a16 : s13.toInt ≤ 1024) : zz_ok (m_X6_quickOnes K n0 n1 n2 n3 n4 n5 n6 n7 n8 s0 s1 s2 s3 s4 s5 s6 s7 s8 s9 s10 s11 s12 s13 s14 s15 s16) (fun z => z.2.1.toInt = s0.toInt ∧ z.2.2.1.toInt = s1.toInt ∧ 0 ≤ z.2.2.2.2.2.2.2.2.2.2.1.toInt ∧ z.2.2.2.2.2.2.2.2.2.2.1.toInt ≤ 512 ∧ 0 ≤ z.2.2.2.2.2.2.2.2.2.2.2.2.2.2.1.toInt ∧ z.2.2.2.2.2.2.2.2.2.2.2.2.2.2.1.toInt ≤ 1024) := by
  have g1 := zz_rg s0
  have g2 := zz_rg s1
  have g3 := zz_rg s2
  have g4 := zz_rg s3
  have g5 := zz_rg s9
  have g6 := zz_rg s10
  have g7 := zz_rg s13
  have g8 := zz_rg s14
  unfold m_X6_quickOnes
  refine zz_ok_bind (s_X10_size K hK n7 n8 s13 s14 s15 s16) ?_
  intro z9 hz9
  obtain ⟨r_1, t_1_0, t_1_1, t_1_2, t_1_3⟩ := z9
  have q10 : r_1.toInt = s13.toInt := hz9.1
  have q11 : t_1_0.toInt = s13.toInt := hz9.2
  have g12 := zz_rg r_1
  have g13 := zz_rg t_1_0
  have g14 := zz_rg t_1_1
  show zz_ok (some (r_1, s0, s1, s2, s3, s4, s5, s6, s7, s8, s9, s10, s11, s12, t_1_0, t_1_1, t_1_2, t_1_3)) _
  refine zz_ok_some ?_
  show s0.toInt = s0.toInt ∧ s1.toInt = s1.toInt ∧ 0 ≤ s9.toInt ∧ s9.toInt ≤ 512 ∧ 0 ≤ t_1_0.toInt ∧ t_1_0.toInt ≤ 1024
  refine ⟨?_, ?_, ?_, ?_, ?_, ?_⟩ <;> omega
set_option maxHeartbeats 4000000 in
theorem s_X9_begin (K : Nat) (hK : 1099511627776 ≤ K) (n0 : Nat) (n1 : Nat) (n2 : Nat) (n3 : Nat) (n4 : Nat) (n5 : Nat) (n6 : Nat) (s0 : Int32) (s1 : Int32) (s2 : Int32) (s3 : Int32) (s4 : Int32) (s5 : Nat → Int32) (s6 : Nat → Int32) (s7 : Nat → Int32) (s8 : Nat → Int32) (s9 : Nat → Int32) (s10 : Int32) (s11 : Int32) (s12 : Nat → Int32) (s13 : Nat → Int32) (a0 : n0 = 1024) (a1 : n1 = 200) (a2 : n2 = 200) (a3 : n3 = 200) (a4 : n4 = 200) (a5 : n5 = 512) (a6 : n6 = 512) (a7 : 0 ≤ s1.toInt) (a8 : s1.toInt ≤ 1024) (a9 : 0 ≤ s2.toInt) (a10 : s2.toInt ≤ 200) (a11 : 0 ≤ s10.toInt) (a12 : s10.toInt ≤ 512) : zz_ok (m_X9_begin K n0 n1 n2 n3 n4 n5 n6 s0 s1 s2 s3 s4 s5 s6 s7 s8 s9 s10 s11 s12 s13) (fun z => z.2.1.toInt = s1.toInt ∧ z.2.2.1.toInt = s2.toInt ∧ 0 ≤ z.2.2.2.2.2.2.2.2.2.2.1.toInt ∧ z.2.2.2.2.2.2.2.2.2.2.1.toInt ≤ 512) := by
  have g1 := zz_rg s0
  have g2 := zz_rg s1
  have g3 := zz_rg s2
  have g4 := zz_rg s3
  have g5 := zz_rg s4
  have g6 := zz_rg s10
  have g7 := zz_rg s11
  unfold m_X9_begin
  refine zz_ok_some ?_
  show s1.toInt = s1.toInt ∧ s2.toInt = s2.toInt ∧ 0 ≤ s10.toInt ∧ s10.toInt ≤ 512
  refine ⟨?_, ?_, ?_, ?_⟩ <;> omega
set_option maxHeartbeats 4000000 in
theorem s_X9_take (K : Nat) (hK : 1099511627776 ≤ K) (n0 : Nat) (n1 : Nat) (n2 : Nat) (n3 : Nat) (n4 : Nat) (n5 : Nat) (n6 : Nat) (p1 : Int32) (s0 : Int32) (s1 : Int32) (s2 : Int32) (s3 : Int32) (s4 : Int32) (s5 : Nat → Int32) (s6 : Nat → Int32) (s7 : Nat → Int32) (s8 : Nat → Int32) (s9 : Nat → Int32) (s10 : Int32) (s11 : Int32) (s12 : Nat → Int32) (s13 : Nat → Int32) (a0 : n0 = 1024) (a1 : n1 = 200) (a2 : n2 = 200) (a3 : n3 = 200) (a4 : n4 = 200) (a5 : n5 = 512) (a6 : n6 = 512) (a7 : 0 ≤ s1.toInt) (a8 : s1.toInt ≤ 1024) (a9 : 0 ≤ s2.toInt) (a10 : s2.toInt ≤ 200) (a11 : 0 ≤ s10.toInt) (a12 : s10.toInt ≤ 512) : zz_ok (m_X9_take K n0 n1 n2 n3 n4 n5 n6 p1 s0 s1 s2 s3 s4 s5 s6 s7 s8 s9 s10 s11 s12 s13) (fun z => z.2.2.1.toInt = s1.toInt ∧ z.2.2.2.1.toInt = s2.toInt ∧ 0 ≤ z.2.2.2.2.2.2.2.2.2.2.2.1.toInt ∧ z.2.2.2.2.2.2.2.2.2.2.2.1.toInt ≤ 512) := by
  have g1 := zz_rg p1
  have g2 := zz_rg s0
  have g3 := zz_rg s1
  have g4 := zz_rg s2
  have g5 := zz_rg s3
  have g6 := zz_rg s4
  have g7 := zz_rg s10
  have g8 := zz_rg s11
  unfold m_X9_take
  have l9 : (1 : Int32).toInt = 1 := rfl
  refine zz_ok_bind (s_X7_addLooked K hK n0 n1 n2 n3 n4 n5 n6 ((1 : Int32)) s1 s2 s3 s4 s5 s6 s7 s8 s9 s10 s11 s12 s13 (by omega) (by omega) (by omega) (by omega) (by omega) (by omega) (by omega) (by omega) (by omega) (by omega) (by omega) (by omega) (by omega)) ?_
  intro z10 hz10
  obtain ⟨t_1_0, t_1_1, t_1_2, t_1_3, t_1_4, t_1_5, t_1_6, t_1_7, t_1_8, t_1_9, t_1_10, t_1_11, t_1_12⟩ := z10
  have q11 : t_1_0.toInt = s1.toInt := hz10.1
  have q12 : t_1_1.toInt = s2.toInt := hz10.2.1
  have q13 : 0 ≤ t_1_9.toInt := hz10.2.2.1
  have q14 : t_1_9.toInt ≤ 512 := hz10.2.2.2
  have g15 := zz_rg t_1_0
  have g16 := zz_rg t_1_1
  have g17 := zz_rg t_1_2
  have g18 := zz_rg t_1_3
  have g19 := zz_rg t_1_9
  have g20 := zz_rg t_1_10
  show zz_ok ((m_X7_words K n0 n1 n2 n3 n4 n5 n6 t_1_0 t_1_1 t_1_2 t_1_3 t_1_4 t_1_5 t_1_6 t_1_7 t_1_8 t_1_9 t_1_10 t_1_11 t_1_12).bind fun ⟨r_2, t_2_0, t_2_1, t_2_2, t_2_3, t_2_4, t_2_5, t_2_6, t_2_7, t_2_8, t_2_9, t_2_10, t_2_11, t_2_12⟩ => if p1 ≤ (r_2 - s0) then (some (s0, s0 + p1, t_2_0, t_2_1, t_2_2, t_2_3, t_2_4, t_2_5, t_2_6, t_2_7, t_2_8, t_2_9, t_2_10, t_2_11, t_2_12)) else (some ((-1 : Int32), s0, t_2_0, t_2_1, t_2_2, t_2_3, t_2_4, t_2_5, t_2_6, t_2_7, t_2_8, t_2_9, t_2_10, t_2_11, t_2_12))) _
  refine zz_ok_bind (s_X7_words K hK n0 n1 n2 n3 n4 n5 n6 t_1_0 t_1_1 t_1_2 t_1_3 t_1_4 t_1_5 t_1_6 t_1_7 t_1_8 t_1_9 t_1_10 t_1_11 t_1_12 (by omega) (by omega) (by omega) (by omega) (by omega) (by omega) (by omega) (by omega) (by omega) (by omega) (by omega) (by omega) (by omega)) ?_
  intro z21 hz21
  obtain ⟨r_2, t_2_0, t_2_1, t_2_2, t_2_3, t_2_4, t_2_5, t_2_6, t_2_7, t_2_8, t_2_9, t_2_10, t_2_11, t_2_12⟩ := z21
  have q22 : r_2.toInt = t_1_0.toInt := hz21.1
  have q23 : t_2_0.toInt = t_1_0.toInt := hz21.2.1
  have q24 : t_2_1.toInt = t_1_1.toInt := hz21.2.2.1
  have q25 : 0 ≤ t_2_9.toInt := hz21.2.2.2.1
  have q26 : t_2_9.toInt ≤ 512 := hz21.2.2.2.2
  have g27 := zz_rg r_2
  have g28 := zz_rg t_2_0
  have g29 := zz_rg t_2_1
  have g30 := zz_rg t_2_2
  have g31 := zz_rg t_2_3
  have g32 := zz_rg t_2_9
  have g33 := zz_rg t_2_10
  show zz_ok (if p1 ≤ (r_2 - s0) then (some (s0, s0 + p1, t_2_0, t_2_1, t_2_2, t_2_3, t_2_4, t_2_5, t_2_6, t_2_7, t_2_8, t_2_9, t_2_10, t_2_11, t_2_12)) else (some ((-1 : Int32), s0, t_2_0, t_2_1, t_2_2, t_2_3, t_2_4, t_2_5, t_2_6, t_2_7, t_2_8, t_2_9, t_2_10, t_2_11, t_2_12))) _
  obtain ⟨k35, f36⟩ := zz_sub r_2 s0
  have g37 := zz_rg (r_2 - s0)
  refine zz_ok_ite (fun c34 => ?_) (fun c34 => ?_)
  · have c34 := Int32.le_iff_toInt_le.mp c34
    refine zz_ok_some ?_
    show t_2_0.toInt = s1.toInt ∧ t_2_1.toInt = s2.toInt ∧ 0 ≤ t_2_9.toInt ∧ t_2_9.toInt ≤ 512
    refine ⟨?_, ?_, ?_, ?_⟩ <;> omega
  · have c34 := zz_nle c34
    refine zz_ok_some ?_
    show t_2_0.toInt = s1.toInt ∧ t_2_1.toInt = s2.toInt ∧ 0 ≤ t_2_9.toInt ∧ t_2_9.toInt ≤ 512
    refine ⟨?_, ?_, ?_, ?_⟩ <;> omega
set_option maxHeartbeats 4000000 in
theorem s_X9_takeBack_L0 (K : Nat) (hK : 1099511627776 ≤ K) (n0 : Nat) (n1 : Nat) (n2 : Nat) (n3 : Nat) (n4 : Nat) (n5 : Nat) (n6 : Nat) : ∀ (k : Nat) (x1 : Int32) (x2 : Int32) (s0 : Int32) (s1 : Int32) (s2 : Int32) (s3 : Int32) (s4 : Int32) (s5 : Nat → Int32) (s6 : Nat → Int32) (s7 : Nat → Int32) (s8 : Nat → Int32) (s9 : Nat → Int32) (s10 : Int32) (s11 : Int32) (s12 : Nat → Int32) (s13 : Nat → Int32), n0 = 1024 → n1 = 200 → n2 = 200 → n3 = 200 → n4 = 200 → n5 = 512 → n6 = 512 → 0 ≤ s1.toInt → s1.toInt ≤ 1024 → 0 ≤ s2.toInt → s2.toInt ≤ 200 → 0 ≤ s10.toInt → s10.toInt ≤ 512 → s0.toInt + 2147483648 < (k : Int) → zz_ok (m_X9_takeBack_L0 K n0 n1 n2 n3 n4 n5 n6 k x1 x2 s0 s1 s2 s3 s4 s5 s6 s7 s8 s9 s10 s11 s12 s13) (fun z => z.2.1.toInt = s1.toInt ∧ z.2.2.1.toInt = s2.toInt ∧ 0 ≤ z.2.2.2.2.2.2.2.2.2.2.1.toInt ∧ z.2.2.2.2.2.2.2.2.2.2.1.toInt ≤ 512) := by
  intro k
  induction k with
  | zero =>
    intro x1 x2 s0 s1 s2 s3 s4 s5 s6 s7 s8 s9 s10 s11 s12 s13 a0 a1 a2 a3 a4 a5 a6 a7 a8 a9 a10 a11 a12 hz9
    exfalso
    have g_x1 := zz_rg x1
    have g_x2 := zz_rg x2
    have g_s0 := zz_rg s0
    have g_s1 := zz_rg s1
    have g_s2 := zz_rg s2
    have g_s3 := zz_rg s3
    have g_s4 := zz_rg s4
    have g_s10 := zz_rg s10
    have g_s11 := zz_rg s11
    omega
  | succ k ih =>
    intro x1 x2 s0 s1 s2 s3 s4 s5 s6 s7 s8 s9 s10 s11 s12 s13 a0 a1 a2 a3 a4 a5 a6 a7 a8 a9 a10 a11 a12 hz9
    rw [m_X9_takeBack_L0_s]
    have g1 := zz_rg x1
    have g2 := zz_rg x2
    have g3 := zz_rg s0
    have g4 := zz_rg s1
    have g5 := zz_rg s2
    have g6 := zz_rg s3
    have g7 := zz_rg s4
    have g8 := zz_rg s10
    have g9 := zz_rg s11
    have l11 : (0 : Int32).toInt = 0 := rfl
    refine zz_ok_ite (fun c10 => ?_) (fun c10 => ?_)
    · have c10 := Int32.le_iff_toInt_le.mp c10
      refine zz_ok_some ?_
      show s1.toInt = s1.toInt ∧ s2.toInt = s2.toInt ∧ 0 ≤ s10.toInt ∧ s10.toInt ≤ 512
      refine ⟨?_, ?_, ?_, ?_⟩ <;> omega
    · have c10 := zz_nle c10
      have l12 : (1 : Int32).toInt = 1 := rfl
      obtain ⟨k13, f14⟩ := zz_sub s0 (1 : Int32)
      have g15 := zz_rg (s0 - ((1 : Int32)))
      refine zz_ok_bind (s_X7_isFree K hK n0 n1 n2 n3 n4 n5 n6 (s0 - ((1 : Int32))) s1 s2 s3 s4 s5 s6 s7 s8 s9 s10 s11 s12 s13 (by omega) (by omega) (by omega) (by omega) (by omega) (by omega) (by omega) (by omega) (by omega) (by omega) (by omega) (by omega) (by omega)) ?_
      intro z16 hz16
      obtain ⟨r_2, t_2_0, t_2_1, t_2_2, t_2_3, t_2_4, t_2_5, t_2_6, t_2_7, t_2_8, t_2_9, t_2_10, t_2_11, t_2_12⟩ := z16
      have q17 : (r_2.toInt = 0 ∨ r_2.toInt = 1) := hz16.1
      have q18 : t_2_0.toInt = s1.toInt := hz16.2.1
      have q19 : t_2_1.toInt = s2.toInt := hz16.2.2.1
      have q20 : 0 ≤ t_2_9.toInt := hz16.2.2.2.1
      have q21 : t_2_9.toInt ≤ 512 := hz16.2.2.2.2
      have g22 := zz_rg r_2
      have g23 := zz_rg t_2_0
      have g24 := zz_rg t_2_1
      have g25 := zz_rg t_2_2
      have g26 := zz_rg t_2_3
      have g27 := zz_rg t_2_9
      have g28 := zz_rg t_2_10
      show zz_ok (if r_2 = 0 then (some (s0, t_2_0, t_2_1, t_2_2, t_2_3, t_2_4, t_2_5, t_2_6, t_2_7, t_2_8, t_2_9, t_2_10, t_2_11, t_2_12)) else (m_X9_takeBack_L0 K n0 n1 n2 n3 n4 n5 n6 k x1 x2 (s0 - ((1 : Int32))) t_2_0 t_2_1 t_2_2 t_2_3 t_2_4 t_2_5 t_2_6 t_2_7 t_2_8 t_2_9 t_2_10 t_2_11 t_2_12)) _
      refine zz_ok_ite (fun c29 => ?_) (fun c29 => ?_)
      · have c29 := congrArg Int32.toInt c29
        refine zz_ok_some ?_
        show t_2_0.toInt = s1.toInt ∧ t_2_1.toInt = s2.toInt ∧ 0 ≤ t_2_9.toInt ∧ t_2_9.toInt ≤ 512
        refine ⟨?_, ?_, ?_, ?_⟩ <;> omega
      · have c29 := zz_neq c29
        refine (ih x1 x2 (s0 - ((1 : Int32))) t_2_0 t_2_1 t_2_2 t_2_3 t_2_4 t_2_5 t_2_6 t_2_7 t_2_8 t_2_9 t_2_10 t_2_11 t_2_12 (by omega) (by omega) (by omega) (by omega) (by omega) (by omega) (by omega) (by omega) (by omega) (by omega) (by omega) (by omega) (by omega) (by omega)).mono (fun z hz => ?_)
        have q30 : z.2.1.toInt = t_2_0.toInt := hz.1
        have q31 : z.2.2.1.toInt = t_2_1.toInt := hz.2.1
        have q32 : 0 ≤ z.2.2.2.2.2.2.2.2.2.2.1.toInt := hz.2.2.1
        have q33 : z.2.2.2.2.2.2.2.2.2.2.1.toInt ≤ 512 := hz.2.2.2
        show z.2.1.toInt = s1.toInt ∧ z.2.2.1.toInt = s2.toInt ∧ 0 ≤ z.2.2.2.2.2.2.2.2.2.2.1.toInt ∧ z.2.2.2.2.2.2.2.2.2.2.1.toInt ≤ 512
        refine ⟨?_, ?_, ?_, ?_⟩ <;> omega
set_option maxHeartbeats 4000000 in
theorem s_X9_takeBack (K : Nat) (hK : 1099511627776 ≤ K) (n0 : Nat) (n1 : Nat) (n2 : Nat) (n3 : Nat) (n4 : Nat) (n5 : Nat) (n6 : Nat) (p1 : Int32) (p2 : Int32) (s0 : Int32) (s1 : Int32) (s2 : Int32) (s3 : Int32) (s4 : Int32) (s5 : Nat → Int32) (s6 : Nat → Int32) (s7 : Nat → Int32) (s8 : Nat → Int32) (s9 : Nat → Int32) (s10 : Int32) (s11 : Int32) (s12 : Nat → Int32) (s13 : Nat → Int32) (a0 : n0 = 1024) (a1 : n1 = 200) (a2 : n2 = 200) (a3 : n3 = 200) (a4 : n4 = 200) (a5 : n5 = 512) (a6 : n6 = 512) (a7 : 0 ≤ s1.toInt) (a8 : s1.toInt ≤ 1024) (a9 : 0 ≤ s2.toInt) (a10 : s2.toInt ≤ 200) (a11 : 0 ≤ s10.toInt) (a12 : s10.toInt ≤ 512) : zz_ok (m_X9_takeBack K n0 n1 n2 n3 n4 n5 n6 p1 p2 s0 s1 s2 s3 s4 s5 s6 s7 s8 s9 s10 s11 s12 s13) (fun z => z.2.1.toInt = s1.toInt ∧ z.2.2.1.toInt = s2.toInt ∧ 0 ≤ z.2.2.2.2.2.2.2.2.2.2.1.toInt ∧ z.2.2.2.2.2.2.2.2.2.2.1.toInt ≤ 512) := by
  have g1 := zz_rg p1
  have g2 := zz_rg p2
  have g3 := zz_rg s0
  have g4 := zz_rg s1
  have g5 := zz_rg s2
  have g6 := zz_rg s3
  have g7 := zz_rg s4
  have g8 := zz_rg s10
  have g9 := zz_rg s11
  unfold m_X9_takeBack
  refine (s_X9_takeBack_L0 K hK n0 n1 n2 n3 n4 n5 n6 K p1 p2 s0 s1 s2 s3 s4 s5 s6 s7 s8 s9 s10 s11 s12 s13 (by omega) (by omega) (by omega) (by omega) (by omega) (by omega) (by omega) (by omega) (by omega) (by omega) (by omega) (by omega) (by omega) (by omega)).mono (fun z hz => ?_)
  have q10 : z.2.1.toInt = s1.toInt := hz.1
  have q11 : z.2.2.1.toInt = s2.toInt := hz.2.1
  have q12 : 0 ≤ z.2.2.2.2.2.2.2.2.2.2.1.toInt := hz.2.2.1
  have q13 : z.2.2.2.2.2.2.2.2.2.2.1.toInt ≤ 512 := hz.2.2.2
  show z.2.1.toInt = s1.toInt ∧ z.2.2.1.toInt = s2.toInt ∧ 0 ≤ z.2.2.2.2.2.2.2.2.2.2.1.toInt ∧ z.2.2.2.2.2.2.2.2.2.2.1.toInt ≤ 512
  refine ⟨?_, ?_, ?_, ?_⟩ <;> omega
set_option maxHeartbeats 4000000 in
theorem s_X9_top (K : Nat) (hK : 1099511627776 ≤ K) (n0 : Nat) (n1 : Nat) (n2 : Nat) (n3 : Nat) (n4 : Nat) (n5 : Nat) (n6 : Nat) (s0 : Int32) (s1 : Int32) (s2 : Int32) (s3 : Int32) (s4 : Int32) (s5 : Nat → Int32) (s6 : Nat → Int32) (s7 : Nat → Int32) (s8 : Nat → Int32) (s9 : Nat → Int32) (s10 : Int32) (s11 : Int32) (s12 : Nat → Int32) (s13 : Nat → Int32) (a0 : n0 = 1024) (a1 : n1 = 200) (a2 : n2 = 200) (a3 : n3 = 200) (a4 : n4 = 200) (a5 : n5 = 512) (a6 : n6 = 512) (a7 : 0 ≤ s1.toInt) (a8 : s1.toInt ≤ 1024) (a9 : 0 ≤ s2.toInt) (a10 : s2.toInt ≤ 200) (a11 : 0 ≤ s10.toInt) (a12 : s10.toInt ≤ 512) : zz_ok (m_X9_top K n0 n1 n2 n3 n4 n5 n6 s0 s1 s2 s3 s4 s5 s6 s7 s8 s9 s10 s11 s12 s13) (fun z => z.2.2.1.toInt = s1.toInt ∧ z.2.2.2.1.toInt = s2.toInt ∧ 0 ≤ z.2.2.2.2.2.2.2.2.2.2.2.1.toInt ∧ z.2.2.2.2.2.2.2.2.2.2.2.1.toInt ≤ 512) := by
  have g1 := zz_rg s0
  have g2 := zz_rg s1
  have g3 := zz_rg s2
  have g4 := zz_rg s3
  have g5 := zz_rg s4
  have g6 := zz_rg s10
  have g7 := zz_rg s11
  unfold m_X9_top
  refine zz_ok_some ?_
  show s1.toInt = s1.toInt ∧ s2.toInt = s2.toInt ∧ 0 ≤ s10.toInt ∧ s10.toInt ≤ 512
  refine ⟨?_, ?_, ?_, ?_⟩ <;> omega

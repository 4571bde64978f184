set_option maxHeartbeats 4000000 in
theorem s_X11_needRoom_X6 (K : Nat) (hK : 1099511627776 ≤ K) (n0 : Nat) (n1 : Nat) (n2 : Nat) (n3 : Nat) (n4 : Nat) (n5 : Nat) (n6 : Nat) (n7 : Nat) (n8 : Nat) (s0 : Int32) (s1 : Int32) (s2 : Int32) (s3 : Int32) (s4 : Int32) (s5 : Nat → Int32) (s6 : Nat → Int32) (s7 : Nat → Int32) (s8 : Nat → Int32) (s9 : Nat → Int32) (s10 : Int32) (s11 : Int32) (s12 : Nat → Int32) (s13 : Nat → Int32) (s14 : Int32) (s15 : Int32) (s16 : Nat → Int32) (s17 : Nat → Int32) (a0 : n0 = 1024) (a1 : n1 = 200) (a2 : n2 = 200) (a3 : n3 = 200) (a4 : n4 = 200) (a5 : n5 = 512) (a6 : n6 = 512) (a7 : n7 = 1024) (a8 : n8 = 1024) (a9 : 0 ≤ s1.toInt) (a10 : s1.toInt ≤ 1024) (a11 : 0 ≤ s2.toInt) (a12 : s2.toInt ≤ 200) (a13 : 0 ≤ s10.toInt) (a14 : s10.toInt ≤ 512) (a15 : 0 ≤ s14.toInt) (a16 : s14.toInt ≤ 1024) : zz_ok (m_X11_needRoom_X6 K n0 n1 n2 n3 n4 n5 n6 n7 n8 s0 s1 s2 s3 s4 s5 s6 s7 s8 s9 s10 s11 s12 s13 s14 s15 s16 s17) (fun z => z.1 ∈ (["", "java/lang/IllegalStateException"] : List String) ∧ z.2.1.toInt = s0.toInt ∧ 0 ≤ z.2.2.1.toInt ∧ z.2.2.1.toInt ≤ 1024 ∧ 0 ≤ z.2.2.2.1.toInt ∧ z.2.2.2.1.toInt ≤ 200 ∧ 0 ≤ z.2.2.2.2.2.2.2.2.2.2.2.1.toInt ∧ z.2.2.2.2.2.2.2.2.2.2.2.1.toInt ≤ 512 ∧ 0 ≤ z.2.2.2.2.2.2.2.2.2.2.2.2.2.2.2.1.toInt ∧ z.2.2.2.2.2.2.2.2.2.2.2.2.2.2.2.1.toInt ≤ 1024) := by
  have g1 := zz_rg s0
  have g2 := zz_rg s1
  have g3 := zz_rg s2
  have g4 := zz_rg s3
  have g5 := zz_rg s4
  have g6 := zz_rg s10
  have g7 := zz_rg s11
  have g8 := zz_rg s14
  have g9 := zz_rg s15
  unfold m_X11_needRoom_X6
  refine zz_ok_some ?_
  show ("") ∈ (["", "java/lang/IllegalStateException"] : List String) ∧ s0.toInt = s0.toInt ∧ 0 ≤ s1.toInt ∧ s1.toInt ≤ 1024 ∧ 0 ≤ s2.toInt ∧ s2.toInt ≤ 200 ∧ 0 ≤ s10.toInt ∧ s10.toInt ≤ 512 ∧ 0 ≤ s14.toInt ∧ s14.toInt ≤ 1024
  exact ⟨by decide, by omega, by omega, by omega, by omega, by omega, by omega, by omega, by omega, by omega⟩
set_option maxHeartbeats 4000000 in
theorem s_X11_needBlock_X6 (K : Nat) (hK : 1099511627776 ≤ K) (n0 : Nat) (n1 : Nat) (n2 : Nat) (n3 : Nat) (n4 : Nat) (n5 : Nat) (n6 : Nat) (n7 : Nat) (n8 : Nat) (p1 : Int32) (s0 : Int32) (s1 : Int32) (s2 : Int32) (s3 : Int32) (s4 : Int32) (s5 : Nat → Int32) (s6 : Nat → Int32) (s7 : Nat → Int32) (s8 : Nat → Int32) (s9 : Nat → Int32) (s10 : Int32) (s11 : Int32) (s12 : Nat → Int32) (s13 : Nat → Int32) (s14 : Int32) (s15 : Int32) (s16 : Nat → Int32) (s17 : Nat → Int32) (a0 : n0 = 1024) (a1 : n1 = 200) (a2 : n2 = 200) (a3 : n3 = 200) (a4 : n4 = 200) (a5 : n5 = 512) (a6 : n6 = 512) (a7 : n7 = 1024) (a8 : n8 = 1024) (a9 : 0 ≤ s1.toInt) (a10 : s1.toInt ≤ 1024) (a11 : 0 ≤ s2.toInt) (a12 : s2.toInt ≤ 200) (a13 : 0 ≤ s10.toInt) (a14 : s10.toInt ≤ 512) (a15 : 0 ≤ s14.toInt) (a16 : s14.toInt ≤ 1024) : zz_ok (m_X11_needBlock_X6 K n0 n1 n2 n3 n4 n5 n6 n7 n8 p1 s0 s1 s2 s3 s4 s5 s6 s7 s8 s9 s10 s11 s12 s13 s14 s15 s16 s17) (fun z => z.1 ∈ (["", "java/util/NoSuchElementException"] : List String) ∧ z.2.2.1.toInt = s0.toInt ∧ 0 ≤ z.2.2.2.1.toInt ∧ z.2.2.2.1.toInt ≤ 1024 ∧ 0 ≤ z.2.2.2.2.1.toInt ∧ z.2.2.2.2.1.toInt ≤ 200 ∧ 0 ≤ z.2.2.2.2.2.2.2.2.2.2.2.2.1.toInt ∧ z.2.2.2.2.2.2.2.2.2.2.2.2.1.toInt ≤ 512 ∧ 0 ≤ z.2.2.2.2.2.2.2.2.2.2.2.2.2.2.2.2.1.toInt ∧ z.2.2.2.2.2.2.2.2.2.2.2.2.2.2.2.2.1.toInt ≤ 1024) := by
  have g1 := zz_rg p1
  have g2 := zz_rg s0
  have g3 := zz_rg s1
  have g4 := zz_rg s2
  have g5 := zz_rg s3
  have g6 := zz_rg s4
  have g7 := zz_rg s10
  have g8 := zz_rg s11
  have g9 := zz_rg s14
  have g10 := zz_rg s15
  unfold m_X11_needBlock_X6
  refine zz_ok_bind (s_X7_slotOf K hK n0 n1 n2 n3 n4 n5 n6 p1 s1 s2 s3 s4 s5 s6 s7 s8 s9 s10 s11 s12 s13 (by omega) (by omega) (by omega) (by omega) (by omega) (by omega) (by omega) (by omega) (by omega) (by omega) (by omega) (by omega) (by omega)) ?_
  intro z11 hz11
  obtain ⟨r_1, t_1_0, t_1_1, t_1_2, t_1_3, t_1_4, t_1_5, t_1_6, t_1_7, t_1_8, t_1_9, t_1_10, t_1_11, t_1_12⟩ := z11
  have q12 : -1 ≤ r_1.toInt := hz11.1
  have q13 : t_1_0.toInt = s1.toInt := hz11.2.1
  have q14 : t_1_1.toInt = s2.toInt := hz11.2.2.1
  have q15 : 0 ≤ t_1_9.toInt := hz11.2.2.2.1
  have q16 : t_1_9.toInt ≤ 512 := hz11.2.2.2.2
  have g17 := zz_rg r_1
  have g18 := zz_rg t_1_0
  have g19 := zz_rg t_1_1
  have g20 := zz_rg t_1_2
  have g21 := zz_rg t_1_3
  have g22 := zz_rg t_1_9
  have g23 := zz_rg t_1_10
  show zz_ok (if r_1 = ((-1 : Int32)) then (some ("java/util/NoSuchElementException", 0, s0, t_1_0, t_1_1, t_1_2, t_1_3, t_1_4, t_1_5, t_1_6, t_1_7, t_1_8, t_1_9, t_1_10, t_1_11, t_1_12, s14, s15, s16, s17)) else (some ("", r_1, s0, t_1_0, t_1_1, t_1_2, t_1_3, t_1_4, t_1_5, t_1_6, t_1_7, t_1_8, t_1_9, t_1_10, t_1_11, t_1_12, s14, s15, s16, s17))) _
  have l25 : (-1 : Int32).toInt = -1 := rfl
  refine zz_ok_ite (fun c24 => ?_) (fun c24 => ?_)
  · have c24 := congrArg Int32.toInt c24
    have l26 : (0 : Int32).toInt = 0 := rfl
    refine zz_ok_some ?_
    show ("java/util/NoSuchElementException") ∈ (["", "java/util/NoSuchElementException"] : List String) ∧ s0.toInt = s0.toInt ∧ 0 ≤ t_1_0.toInt ∧ t_1_0.toInt ≤ 1024 ∧ 0 ≤ t_1_1.toInt ∧ t_1_1.toInt ≤ 200 ∧ 0 ≤ t_1_9.toInt ∧ t_1_9.toInt ≤ 512 ∧ 0 ≤ s14.toInt ∧ s14.toInt ≤ 1024
    exact ⟨by decide, by omega, by omega, by omega, by omega, by omega, by omega, by omega, by omega, by omega⟩
  · have c24 := zz_neq c24
    refine zz_ok_some ?_
    show ("") ∈ (["", "java/util/NoSuchElementException"] : List String) ∧ s0.toInt = s0.toInt ∧ 0 ≤ t_1_0.toInt ∧ t_1_0.toInt ≤ 1024 ∧ 0 ≤ t_1_1.toInt ∧ t_1_1.toInt ≤ 200 ∧ 0 ≤ t_1_9.toInt ∧ t_1_9.toInt ≤ 512 ∧ 0 ≤ s14.toInt ∧ s14.toInt ≤ 1024
    exact ⟨by decide, by omega, by omega, by omega, by omega, by omega, by omega, by omega, by omega, by omega⟩
set_option maxHeartbeats 4000000 in
theorem s_X11_countInRoom_X6 (K : Nat) (hK : 1099511627776 ≤ K) (n0 : Nat) (n1 : Nat) (n2 : Nat) (n3 : Nat) (n4 : Nat) (n5 : Nat) (n6 : Nat) (n7 : Nat) (n8 : Nat) (p1 : Int32) (s0 : Int32) (s1 : Int32) (s2 : Int32) (s3 : Int32) (s4 : Int32) (s5 : Nat → Int32) (s6 : Nat → Int32) (s7 : Nat → Int32) (s8 : Nat → Int32) (s9 : Nat → Int32) (s10 : Int32) (s11 : Int32) (s12 : Nat → Int32) (s13 : Nat → Int32) (s14 : Int32) (s15 : Int32) (s16 : Nat → Int32) (s17 : Nat → Int32) (a0 : n0 = 1024) (a1 : n1 = 200) (a2 : n2 = 200) (a3 : n3 = 200) (a4 : n4 = 200) (a5 : n5 = 512) (a6 : n6 = 512) (a7 : n7 = 1024) (a8 : n8 = 1024) (a9 : 0 ≤ s1.toInt) (a10 : s1.toInt ≤ 1024) (a11 : 0 ≤ s2.toInt) (a12 : s2.toInt ≤ 200) (a13 : 0 ≤ s10.toInt) (a14 : s10.toInt ≤ 512) (a15 : 0 ≤ s14.toInt) (a16 : s14.toInt ≤ 1024) : zz_ok (m_X11_countInRoom_X6 K n0 n1 n2 n3 n4 n5 n6 n7 n8 p1 s0 s1 s2 s3 s4 s5 s6 s7 s8 s9 s10 s11 s12 s13 s14 s15 s16 s17) (fun z => z.1 ∈ ([""] : List String) ∧ z.2.2.1.toInt = s0.toInt ∧ 0 ≤ z.2.2.2.1.toInt ∧ z.2.2.2.1.toInt ≤ 1024 ∧ 0 ≤ z.2.2.2.2.1.toInt ∧ z.2.2.2.2.1.toInt ≤ 200 ∧ 0 ≤ z.2.2.2.2.2.2.2.2.2.2.2.2.1.toInt ∧ z.2.2.2.2.2.2.2.2.2.2.2.2.1.toInt ≤ 512 ∧ 0 ≤ z.2.2.2.2.2.2.2.2.2.2.2.2.2.2.2.2.1.toInt ∧ z.2.2.2.2.2.2.2.2.2.2.2.2.2.2.2.2.1.toInt ≤ 1024) := by
  have g1 := zz_rg p1
  have g2 := zz_rg s0
  have g3 := zz_rg s1
  have g4 := zz_rg s2
  have g5 := zz_rg s3
  have g6 := zz_rg s4
  have g7 := zz_rg s10
  have g8 := zz_rg s11
  have g9 := zz_rg s14
  have g10 := zz_rg s15
  unfold m_X11_countInRoom_X6
  have l12 : (1 : Int32).toInt = 1 := rfl
  refine zz_ok_ite (fun c11 => ?_) (fun c11 => ?_)
  · have c11 := congrArg Int32.toInt c11
    refine zz_ok_bind (s_X7_words K hK n0 n1 n2 n3 n4 n5 n6 s1 s2 s3 s4 s5 s6 s7 s8 s9 s10 s11 s12 s13 (by omega) (by omega) (by omega) (by omega) (by omega) (by omega) (by omega) (by omega) (by omega) (by omega) (by omega) (by omega) (by omega)) ?_
    intro z13 hz13
    obtain ⟨r_2, t_2_0, t_2_1, t_2_2, t_2_3, t_2_4, t_2_5, t_2_6, t_2_7, t_2_8, t_2_9, t_2_10, t_2_11, t_2_12⟩ := z13
    have q14 : r_2.toInt = s1.toInt := hz13.1
    have q15 : t_2_0.toInt = s1.toInt := hz13.2.1
    have q16 : t_2_1.toInt = s2.toInt := hz13.2.2.1
    have q17 : 0 ≤ t_2_9.toInt := hz13.2.2.2.1
    have q18 : t_2_9.toInt ≤ 512 := hz13.2.2.2.2
    have g19 := zz_rg r_2
    have g20 := zz_rg t_2_0
    have g21 := zz_rg t_2_1
    have g22 := zz_rg t_2_2
    have g23 := zz_rg t_2_3
    have g24 := zz_rg t_2_9
    have g25 := zz_rg t_2_10
    show zz_ok (some ("", r_2, s0, t_2_0, t_2_1, t_2_2, t_2_3, t_2_4, t_2_5, t_2_6, t_2_7, t_2_8, t_2_9, t_2_10, t_2_11, t_2_12, s14, s15, s16, s17)) _
    refine zz_ok_some ?_
    show ("") ∈ ([""] : List String) ∧ s0.toInt = s0.toInt ∧ 0 ≤ t_2_0.toInt ∧ t_2_0.toInt ≤ 1024 ∧ 0 ≤ t_2_1.toInt ∧ t_2_1.toInt ≤ 200 ∧ 0 ≤ t_2_9.toInt ∧ t_2_9.toInt ≤ 512 ∧ 0 ≤ s14.toInt ∧ s14.toInt ≤ 1024
    exact ⟨by decide, by omega, by omega, by omega, by omega, by omega, by omega, by omega, by omega, by omega⟩
  · have c11 := zz_neq c11
    have l27 : (2 : Int32).toInt = 2 := rfl
    refine zz_ok_ite (fun c26 => ?_) (fun c26 => ?_)
    · have c26 := congrArg Int32.toInt c26
      refine zz_ok_bind (s_X7_blocks K hK n0 n1 n2 n3 n4 n5 n6 s1 s2 s3 s4 s5 s6 s7 s8 s9 s10 s11 s12 s13 (by omega) (by omega) (by omega) (by omega) (by omega) (by omega) (by omega) (by omega) (by omega) (by omega) (by omega) (by omega) (by omega)) ?_
      intro z28 hz28
      obtain ⟨r_4, t_4_0, t_4_1, t_4_2, t_4_3, t_4_4, t_4_5, t_4_6, t_4_7, t_4_8, t_4_9, t_4_10, t_4_11, t_4_12⟩ := z28
      have q29 : r_4.toInt = s2.toInt := hz28.1
      have q30 : t_4_0.toInt = s1.toInt := hz28.2.1
      have q31 : t_4_1.toInt = s2.toInt := hz28.2.2.1
      have q32 : 0 ≤ t_4_9.toInt := hz28.2.2.2.1
      have q33 : t_4_9.toInt ≤ 512 := hz28.2.2.2.2
      have g34 := zz_rg r_4
      have g35 := zz_rg t_4_0
      have g36 := zz_rg t_4_1
      have g37 := zz_rg t_4_2
      have g38 := zz_rg t_4_3
      have g39 := zz_rg t_4_9
      have g40 := zz_rg t_4_10
      show zz_ok (some ("", r_4, s0, t_4_0, t_4_1, t_4_2, t_4_3, t_4_4, t_4_5, t_4_6, t_4_7, t_4_8, t_4_9, t_4_10, t_4_11, t_4_12, s14, s15, s16, s17)) _
      refine zz_ok_some ?_
      show ("") ∈ ([""] : List String) ∧ s0.toInt = s0.toInt ∧ 0 ≤ t_4_0.toInt ∧ t_4_0.toInt ≤ 1024 ∧ 0 ≤ t_4_1.toInt ∧ t_4_1.toInt ≤ 200 ∧ 0 ≤ t_4_9.toInt ∧ t_4_9.toInt ≤ 512 ∧ 0 ≤ s14.toInt ∧ s14.toInt ≤ 1024
      exact ⟨by decide, by omega, by omega, by omega, by omega, by omega, by omega, by omega, by omega, by omega⟩
    · have c26 := zz_neq c26
      have l42 : (3 : Int32).toInt = 3 := rfl
      refine zz_ok_ite (fun c41 => ?_) (fun c41 => ?_)
      · have c41 := congrArg Int32.toInt c41
        refine zz_ok_bind (s_X7_given K hK n0 n1 n2 n3 n4 n5 n6 s1 s2 s3 s4 s5 s6 s7 s8 s9 s10 s11 s12 s13 (by omega) (by omega) (by omega) (by omega) (by omega) (by omega) (by omega) (by omega) (by omega) (by omega) (by omega) (by omega) (by omega)) ?_
        intro z43 hz43
        obtain ⟨r_6, t_6_0, t_6_1, t_6_2, t_6_3, t_6_4, t_6_5, t_6_6, t_6_7, t_6_8, t_6_9, t_6_10, t_6_11, t_6_12⟩ := z43
        have q44 : t_6_0.toInt = s1.toInt := hz43.1
        have q45 : t_6_1.toInt = s2.toInt := hz43.2.1
        have q46 : 0 ≤ t_6_9.toInt := hz43.2.2.1
        have q47 : t_6_9.toInt ≤ 512 := hz43.2.2.2
        have g48 := zz_rg r_6
        have g49 := zz_rg t_6_0
        have g50 := zz_rg t_6_1
        have g51 := zz_rg t_6_2
        have g52 := zz_rg t_6_3
        have g53 := zz_rg t_6_9
        have g54 := zz_rg t_6_10
        show zz_ok (some ("", r_6, s0, t_6_0, t_6_1, t_6_2, t_6_3, t_6_4, t_6_5, t_6_6, t_6_7, t_6_8, t_6_9, t_6_10, t_6_11, t_6_12, s14, s15, s16, s17)) _
        refine zz_ok_some ?_
        show ("") ∈ ([""] : List String) ∧ s0.toInt = s0.toInt ∧ 0 ≤ t_6_0.toInt ∧ t_6_0.toInt ≤ 1024 ∧ 0 ≤ t_6_1.toInt ∧ t_6_1.toInt ≤ 200 ∧ 0 ≤ t_6_9.toInt ∧ t_6_9.toInt ≤ 512 ∧ 0 ≤ s14.toInt ∧ s14.toInt ≤ 1024
        exact ⟨by decide, by omega, by omega, by omega, by omega, by omega, by omega, by omega, by omega, by omega⟩
      · have c41 := zz_neq c41
        have l56 : (4 : Int32).toInt = 4 := rfl
        refine zz_ok_ite (fun c55 => ?_) (fun c55 => ?_)
        · have c55 := congrArg Int32.toInt c55
          refine zz_ok_bind (s_X7_askedTogether K hK n0 n1 n2 n3 n4 n5 n6 s1 s2 s3 s4 s5 s6 s7 s8 s9 s10 s11 s12 s13 (by omega) (by omega) (by omega) (by omega) (by omega) (by omega) (by omega) (by omega) (by omega) (by omega) (by omega) (by omega) (by omega)) ?_
          intro z57 hz57
          obtain ⟨r_8, t_8_0, t_8_1, t_8_2, t_8_3, t_8_4, t_8_5, t_8_6, t_8_7, t_8_8, t_8_9, t_8_10, t_8_11, t_8_12⟩ := z57
          have q58 : t_8_0.toInt = s1.toInt := hz57.1
          have q59 : t_8_1.toInt = s2.toInt := hz57.2.1
          have q60 : 0 ≤ t_8_9.toInt := hz57.2.2.1
          have q61 : t_8_9.toInt ≤ 512 := hz57.2.2.2
          have g62 := zz_rg r_8
          have g63 := zz_rg t_8_0
          have g64 := zz_rg t_8_1
          have g65 := zz_rg t_8_2
          have g66 := zz_rg t_8_3
          have g67 := zz_rg t_8_9
          have g68 := zz_rg t_8_10
          show zz_ok (some ("", r_8, s0, t_8_0, t_8_1, t_8_2, t_8_3, t_8_4, t_8_5, t_8_6, t_8_7, t_8_8, t_8_9, t_8_10, t_8_11, t_8_12, s14, s15, s16, s17)) _
          refine zz_ok_some ?_
          show ("") ∈ ([""] : List String) ∧ s0.toInt = s0.toInt ∧ 0 ≤ t_8_0.toInt ∧ t_8_0.toInt ≤ 1024 ∧ 0 ≤ t_8_1.toInt ∧ t_8_1.toInt ≤ 200 ∧ 0 ≤ t_8_9.toInt ∧ t_8_9.toInt ≤ 512 ∧ 0 ≤ s14.toInt ∧ s14.toInt ≤ 1024
          exact ⟨by decide, by omega, by omega, by omega, by omega, by omega, by omega, by omega, by omega, by omega⟩
        · have c55 := zz_neq c55
          have l70 : (5 : Int32).toInt = 5 := rfl
          refine zz_ok_ite (fun c69 => ?_) (fun c69 => ?_)
          · have c69 := congrArg Int32.toInt c69
            refine zz_ok_bind (s_X7_spansTogether K hK n0 n1 n2 n3 n4 n5 n6 s1 s2 s3 s4 s5 s6 s7 s8 s9 s10 s11 s12 s13 (by omega) (by omega) (by omega) (by omega) (by omega) (by omega) (by omega) (by omega) (by omega) (by omega) (by omega) (by omega) (by omega)) ?_
            intro z71 hz71
            obtain ⟨r_10, t_10_0, t_10_1, t_10_2, t_10_3, t_10_4, t_10_5, t_10_6, t_10_7, t_10_8, t_10_9, t_10_10, t_10_11, t_10_12⟩ := z71
            have q72 : t_10_0.toInt = s1.toInt := hz71.1
            have q73 : t_10_1.toInt = s2.toInt := hz71.2.1
            have q74 : 0 ≤ t_10_9.toInt := hz71.2.2.1
            have q75 : t_10_9.toInt ≤ 512 := hz71.2.2.2
            have g76 := zz_rg r_10
            have g77 := zz_rg t_10_0
            have g78 := zz_rg t_10_1
            have g79 := zz_rg t_10_2
            have g80 := zz_rg t_10_3
            have g81 := zz_rg t_10_9
            have g82 := zz_rg t_10_10
            show zz_ok (some ("", r_10, s0, t_10_0, t_10_1, t_10_2, t_10_3, t_10_4, t_10_5, t_10_6, t_10_7, t_10_8, t_10_9, t_10_10, t_10_11, t_10_12, s14, s15, s16, s17)) _
            refine zz_ok_some ?_
            show ("") ∈ ([""] : List String) ∧ s0.toInt = s0.toInt ∧ 0 ≤ t_10_0.toInt ∧ t_10_0.toInt ≤ 1024 ∧ 0 ≤ t_10_1.toInt ∧ t_10_1.toInt ≤ 200 ∧ 0 ≤ t_10_9.toInt ∧ t_10_9.toInt ≤ 512 ∧ 0 ≤ s14.toInt ∧ s14.toInt ≤ 1024
            exact ⟨by decide, by omega, by omega, by omega, by omega, by omega, by omega, by omega, by omega, by omega⟩
          · have c69 := zz_neq c69
            have l84 : (6 : Int32).toInt = 6 := rfl
            refine zz_ok_ite (fun c83 => ?_) (fun c83 => ?_)
            · have c83 := congrArg Int32.toInt c83
              refine zz_ok_bind (s_X7_listRuns K hK n0 n1 n2 n3 n4 n5 n6 s1 s2 s3 s4 s5 s6 s7 s8 s9 s10 s11 s12 s13 (by omega) (by omega) (by omega) (by omega) (by omega) (by omega) (by omega) (by omega) (by omega) (by omega) (by omega) (by omega) (by omega)) ?_
              intro z85 hz85
              obtain ⟨t_12_0, t_12_1, t_12_2, t_12_3, t_12_4, t_12_5, t_12_6, t_12_7, t_12_8, t_12_9, t_12_10, t_12_11, t_12_12⟩ := z85
              have q86 : t_12_0.toInt = s1.toInt := hz85.1
              have q87 : t_12_1.toInt = s2.toInt := hz85.2.1
              have q88 : 0 ≤ t_12_9.toInt := hz85.2.2.1
              have q89 : t_12_9.toInt ≤ 512 := hz85.2.2.2
              have g90 := zz_rg t_12_0
              have g91 := zz_rg t_12_1
              have g92 := zz_rg t_12_2
              have g93 := zz_rg t_12_3
              have g94 := zz_rg t_12_9
              have g95 := zz_rg t_12_10
              show zz_ok ((m_X10_size K n5 n6 t_12_9 t_12_10 t_12_11 t_12_12).bind fun ⟨r_13, t_13_0, t_13_1, t_13_2, t_13_3⟩ => some ("", r_13, s0, t_12_0, t_12_1, t_12_2, t_12_3, t_12_4, t_12_5, t_12_6, t_12_7, t_12_8, t_13_0, t_13_1, t_13_2, t_13_3, s14, s15, s16, s17)) _
              refine zz_ok_bind (s_X10_size K hK n5 n6 t_12_9 t_12_10 t_12_11 t_12_12) ?_
              intro z96 hz96
              obtain ⟨r_13, t_13_0, t_13_1, t_13_2, t_13_3⟩ := z96
              have q97 : r_13.toInt = t_12_9.toInt := hz96.1
              have q98 : t_13_0.toInt = t_12_9.toInt := hz96.2
              have g99 := zz_rg r_13
              have g100 := zz_rg t_13_0
              have g101 := zz_rg t_13_1
              show zz_ok (some ("", r_13, s0, t_12_0, t_12_1, t_12_2, t_12_3, t_12_4, t_12_5, t_12_6, t_12_7, t_12_8, t_13_0, t_13_1, t_13_2, t_13_3, s14, s15, s16, s17)) _
              refine zz_ok_some ?_
              show ("") ∈ ([""] : List String) ∧ s0.toInt = s0.toInt ∧ 0 ≤ t_12_0.toInt ∧ t_12_0.toInt ≤ 1024 ∧ 0 ≤ t_12_1.toInt ∧ t_12_1.toInt ≤ 200 ∧ 0 ≤ t_13_0.toInt ∧ t_13_0.toInt ≤ 512 ∧ 0 ≤ s14.toInt ∧ s14.toInt ≤ 1024
              exact ⟨by decide, by omega, by omega, by omega, by omega, by omega, by omega, by omega, by omega, by omega⟩
            · have c83 := zz_neq c83
              have l103 : (7 : Int32).toInt = 7 := rfl
              refine zz_ok_ite (fun c102 => ?_) (fun c102 => ?_)
              · have c102 := congrArg Int32.toInt c102
                refine zz_ok_bind (s_X7_listRuns K hK n0 n1 n2 n3 n4 n5 n6 s1 s2 s3 s4 s5 s6 s7 s8 s9 s10 s11 s12 s13 (by omega) (by omega) (by omega) (by omega) (by omega) (by omega) (by omega) (by omega) (by omega) (by omega) (by omega) (by omega) (by omega)) ?_
                intro z104 hz104
                obtain ⟨t_15_0, t_15_1, t_15_2, t_15_3, t_15_4, t_15_5, t_15_6, t_15_7, t_15_8, t_15_9, t_15_10, t_15_11, t_15_12⟩ := z104
                have q105 : t_15_0.toInt = s1.toInt := hz104.1
                have q106 : t_15_1.toInt = s2.toInt := hz104.2.1
                have q107 : 0 ≤ t_15_9.toInt := hz104.2.2.1
                have q108 : t_15_9.toInt ≤ 512 := hz104.2.2.2
                have g109 := zz_rg t_15_0
                have g110 := zz_rg t_15_1
                have g111 := zz_rg t_15_2
                have g112 := zz_rg t_15_3
                have g113 := zz_rg t_15_9
                have g114 := zz_rg t_15_10
                show zz_ok ((m_X10_mostWords K n5 n6 t_15_9 t_15_10 t_15_11 t_15_12).bind fun ⟨r_16, t_16_0, t_16_1, t_16_2, t_16_3⟩ => some ("", r_16, s0, t_15_0, t_15_1, t_15_2, t_15_3, t_15_4, t_15_5, t_15_6, t_15_7, t_15_8, t_16_0, t_16_1, t_16_2, t_16_3, s14, s15, s16, s17)) _
                refine zz_ok_bind (s_X10_mostWords K hK n5 n6 t_15_9 t_15_10 t_15_11 t_15_12 (by omega) (by omega) (by omega) (by omega)) ?_
                intro z115 hz115
                obtain ⟨r_16, t_16_0, t_16_1, t_16_2, t_16_3⟩ := z115
                have q116 : t_16_0.toInt = t_15_9.toInt := hz115
                have g117 := zz_rg r_16
                have g118 := zz_rg t_16_0
                have g119 := zz_rg t_16_1
                show zz_ok (some ("", r_16, s0, t_15_0, t_15_1, t_15_2, t_15_3, t_15_4, t_15_5, t_15_6, t_15_7, t_15_8, t_16_0, t_16_1, t_16_2, t_16_3, s14, s15, s16, s17)) _
                refine zz_ok_some ?_
                show ("") ∈ ([""] : List String) ∧ s0.toInt = s0.toInt ∧ 0 ≤ t_15_0.toInt ∧ t_15_0.toInt ≤ 1024 ∧ 0 ≤ t_15_1.toInt ∧ t_15_1.toInt ≤ 200 ∧ 0 ≤ t_16_0.toInt ∧ t_16_0.toInt ≤ 512 ∧ 0 ≤ s14.toInt ∧ s14.toInt ≤ 1024
                exact ⟨by decide, by omega, by omega, by omega, by omega, by omega, by omega, by omega, by omega, by omega⟩
              · have c102 := zz_neq c102
                refine zz_ok_bind (s_X7_looked K hK n0 n1 n2 n3 n4 n5 n6 s1 s2 s3 s4 s5 s6 s7 s8 s9 s10 s11 s12 s13 (by omega) (by omega) (by omega) (by omega) (by omega) (by omega) (by omega) (by omega) (by omega) (by omega) (by omega) (by omega) (by omega)) ?_
                intro z120 hz120
                obtain ⟨r_17, t_17_0, t_17_1, t_17_2, t_17_3, t_17_4, t_17_5, t_17_6, t_17_7, t_17_8, t_17_9, t_17_10, t_17_11, t_17_12⟩ := z120
                have q121 : t_17_0.toInt = s1.toInt := hz120.1
                have q122 : t_17_1.toInt = s2.toInt := hz120.2.1
                have q123 : 0 ≤ t_17_9.toInt := hz120.2.2.1
                have q124 : t_17_9.toInt ≤ 512 := hz120.2.2.2
                have g125 := zz_rg r_17
                have g126 := zz_rg t_17_0
                have g127 := zz_rg t_17_1
                have g128 := zz_rg t_17_2
                have g129 := zz_rg t_17_3
                have g130 := zz_rg t_17_9
                have g131 := zz_rg t_17_10
                show zz_ok (some ("", r_17, s0, t_17_0, t_17_1, t_17_2, t_17_3, t_17_4, t_17_5, t_17_6, t_17_7, t_17_8, t_17_9, t_17_10, t_17_11, t_17_12, s14, s15, s16, s17)) _
                refine zz_ok_some ?_
                show ("") ∈ ([""] : List String) ∧ s0.toInt = s0.toInt ∧ 0 ≤ t_17_0.toInt ∧ t_17_0.toInt ≤ 1024 ∧ 0 ≤ t_17_1.toInt ∧ t_17_1.toInt ≤ 200 ∧ 0 ≤ t_17_9.toInt ∧ t_17_9.toInt ≤ 512 ∧ 0 ≤ s14.toInt ∧ s14.toInt ≤ 1024
                exact ⟨by decide, by omega, by omega, by omega, by omega, by omega, by omega, by omega, by omega, by omega⟩
set_option maxHeartbeats 4000000 in
theorem s_X11_countInForm_X6 (K : Nat) (hK : 1099511627776 ≤ K) (n0 : Nat) (n1 : Nat) (n2 : Nat) (n3 : Nat) (n4 : Nat) (n5 : Nat) (n6 : Nat) (n7 : Nat) (n8 : Nat) (p1 : Int32) (s0 : Int32) (s1 : Int32) (s2 : Int32) (s3 : Int32) (s4 : Int32) (s5 : Nat → Int32) (s6 : Nat → Int32) (s7 : Nat → Int32) (s8 : Nat → Int32) (s9 : Nat → Int32) (s10 : Int32) (s11 : Int32) (s12 : Nat → Int32) (s13 : Nat → Int32) (s14 : Int32) (s15 : Int32) (s16 : Nat → Int32) (s17 : Nat → Int32) (a0 : n0 = 1024) (a1 : n1 = 200) (a2 : n2 = 200) (a3 : n3 = 200) (a4 : n4 = 200) (a5 : n5 = 512) (a6 : n6 = 512) (a7 : n7 = 1024) (a8 : n8 = 1024) (a9 : 0 ≤ s1.toInt) (a10 : s1.toInt ≤ 1024) (a11 : 0 ≤ s2.toInt) (a12 : s2.toInt ≤ 200) (a13 : 0 ≤ s10.toInt) (a14 : s10.toInt ≤ 512) (a15 : 0 ≤ s14.toInt) (a16 : s14.toInt ≤ 1024) : zz_ok (m_X11_countInForm_X6 K n0 n1 n2 n3 n4 n5 n6 n7 n8 p1 s0 s1 s2 s3 s4 s5 s6 s7 s8 s9 s10 s11 s12 s13 s14 s15 s16 s17) (fun z => z.1 ∈ ([""] : List String) ∧ z.2.2.1.toInt = s0.toInt ∧ 0 ≤ z.2.2.2.1.toInt ∧ z.2.2.2.1.toInt ≤ 1024 ∧ 0 ≤ z.2.2.2.2.1.toInt ∧ z.2.2.2.2.1.toInt ≤ 200 ∧ 0 ≤ z.2.2.2.2.2.2.2.2.2.2.2.2.1.toInt ∧ z.2.2.2.2.2.2.2.2.2.2.2.2.1.toInt ≤ 512 ∧ 0 ≤ z.2.2.2.2.2.2.2.2.2.2.2.2.2.2.2.2.1.toInt ∧ z.2.2.2.2.2.2.2.2.2.2.2.2.2.2.2.2.1.toInt ≤ 1024) := by
  have g1 := zz_rg p1
  have g2 := zz_rg s0
  have g3 := zz_rg s1
  have g4 := zz_rg s2
  have g5 := zz_rg s3
  have g6 := zz_rg s4
  have g7 := zz_rg s10
  have g8 := zz_rg s11
  have g9 := zz_rg s14
  have g10 := zz_rg s15
  unfold m_X11_countInForm_X6
  have l12 : (9 : Int32).toInt = 9 := rfl
  refine zz_ok_ite (fun c11 => ?_) (fun c11 => ?_)
  · have c11 := congrArg Int32.toInt c11
    refine zz_ok_bind (s_X6_quickOnes K hK n0 n1 n2 n3 n4 n5 n6 n7 n8 s1 s2 s3 s4 s5 s6 s7 s8 s9 s10 s11 s12 s13 s14 s15 s16 s17 (by omega) (by omega) (by omega) (by omega) (by omega) (by omega) (by omega) (by omega) (by omega) (by omega) (by omega) (by omega) (by omega) (by omega) (by omega) (by omega) (by omega)) ?_
    intro z13 hz13
    obtain ⟨r_2, t_2_0, t_2_1, t_2_2, t_2_3, t_2_4, t_2_5, t_2_6, t_2_7, t_2_8, t_2_9, t_2_10, t_2_11, t_2_12, t_2_13, t_2_14, t_2_15, t_2_16⟩ := z13
    have q14 : t_2_0.toInt = s1.toInt := hz13.1
    have q15 : t_2_1.toInt = s2.toInt := hz13.2.1
    have q16 : 0 ≤ t_2_9.toInt := hz13.2.2.1
    have q17 : t_2_9.toInt ≤ 512 := hz13.2.2.2.1
    have q18 : 0 ≤ t_2_13.toInt := hz13.2.2.2.2.1
    have q19 : t_2_13.toInt ≤ 1024 := hz13.2.2.2.2.2
    have g20 := zz_rg r_2
    have g21 := zz_rg t_2_0
    have g22 := zz_rg t_2_1
    have g23 := zz_rg t_2_2
    have g24 := zz_rg t_2_3
    have g25 := zz_rg t_2_9
    have g26 := zz_rg t_2_10
    have g27 := zz_rg t_2_13
    have g28 := zz_rg t_2_14
    show zz_ok (some ("", r_2, s0, t_2_0, t_2_1, t_2_2, t_2_3, t_2_4, t_2_5, t_2_6, t_2_7, t_2_8, t_2_9, t_2_10, t_2_11, t_2_12, t_2_13, t_2_14, t_2_15, t_2_16)) _
    refine zz_ok_some ?_
    show ("") ∈ ([""] : List String) ∧ s0.toInt = s0.toInt ∧ 0 ≤ t_2_0.toInt ∧ t_2_0.toInt ≤ 1024 ∧ 0 ≤ t_2_1.toInt ∧ t_2_1.toInt ≤ 200 ∧ 0 ≤ t_2_9.toInt ∧ t_2_9.toInt ≤ 512 ∧ 0 ≤ t_2_13.toInt ∧ t_2_13.toInt ≤ 1024
    exact ⟨by decide, by omega, by omega, by omega, by omega, by omega, by omega, by omega, by omega, by omega⟩
  · have c11 := zz_neq c11
    have l30 : (10 : Int32).toInt = 10 := rfl
    refine zz_ok_ite (fun c29 => ?_) (fun c29 => ?_)
    · have c29 := congrArg Int32.toInt c29
      refine zz_ok_bind (s_X1_freeParts K hK) ?_
      intro z31 hz31
      obtain ⟨r_4, _⟩ := z31
      have g32 := zz_rg r_4
      show zz_ok (some ("", r_4, s0, s1, s2, s3, s4, s5, s6, s7, s8, s9, s10, s11, s12, s13, s14, s15, s16, s17)) _
      refine zz_ok_some ?_
      show ("") ∈ ([""] : List String) ∧ s0.toInt = s0.toInt ∧ 0 ≤ s1.toInt ∧ s1.toInt ≤ 1024 ∧ 0 ≤ s2.toInt ∧ s2.toInt ≤ 200 ∧ 0 ≤ s10.toInt ∧ s10.toInt ≤ 512 ∧ 0 ≤ s14.toInt ∧ s14.toInt ≤ 1024
      exact ⟨by decide, by omega, by omega, by omega, by omega, by omega, by omega, by omega, by omega, by omega⟩
    · have c29 := zz_neq c29
      refine zz_ok_bind (s_X1_top K hK) ?_
      intro z33 hz33
      obtain ⟨r_5, _⟩ := z33
      have g34 := zz_rg r_5
      show zz_ok (some ("", r_5, s0, s1, s2, s3, s4, s5, s6, s7, s8, s9, s10, s11, s12, s13, s14, s15, s16, s17)) _
      refine zz_ok_some ?_
      show ("") ∈ ([""] : List String) ∧ s0.toInt = s0.toInt ∧ 0 ≤ s1.toInt ∧ s1.toInt ≤ 1024 ∧ 0 ≤ s2.toInt ∧ s2.toInt ≤ 200 ∧ 0 ≤ s10.toInt ∧ s10.toInt ≤ 512 ∧ 0 ≤ s14.toInt ∧ s14.toInt ≤ 1024
      exact ⟨by decide, by omega, by omega, by omega, by omega, by omega, by omega, by omega, by omega, by omega⟩
set_option maxHeartbeats 4000000 in
theorem s_X11_give_X6 (K : Nat) (hK : 1099511627776 ≤ K) (n0 : Nat) (n1 : Nat) (n2 : Nat) (n3 : Nat) (n4 : Nat) (n5 : Nat) (n6 : Nat) (n7 : Nat) (n8 : Nat) (p1 : Int32) (s0 : Int32) (s1 : Int32) (s2 : Int32) (s3 : Int32) (s4 : Int32) (s5 : Nat → Int32) (s6 : Nat → Int32) (s7 : Nat → Int32) (s8 : Nat → Int32) (s9 : Nat → Int32) (s10 : Int32) (s11 : Int32) (s12 : Nat → Int32) (s13 : Nat → Int32) (s14 : Int32) (s15 : Int32) (s16 : Nat → Int32) (s17 : Nat → Int32) (a0 : n0 = 1024) (a1 : n1 = 200) (a2 : n2 = 200) (a3 : n3 = 200) (a4 : n4 = 200) (a5 : n5 = 512) (a6 : n6 = 512) (a7 : n7 = 1024) (a8 : n8 = 1024) (a9 : 0 ≤ s1.toInt) (a10 : s1.toInt ≤ 1024) (a11 : 0 ≤ s2.toInt) (a12 : s2.toInt ≤ 200) (a13 : 0 ≤ s10.toInt) (a14 : s10.toInt ≤ 512) (a15 : 0 ≤ s14.toInt) (a16 : s14.toInt ≤ 1024) : zz_ok (m_X11_give_X6 K n0 n1 n2 n3 n4 n5 n6 n7 n8 p1 s0 s1 s2 s3 s4 s5 s6 s7 s8 s9 s10 s11 s12 s13 s14 s15 s16 s17) (fun z => z.1 ∈ (["", "java/lang/IllegalArgumentException", "java/lang/IllegalStateException", "java/lang/IndexOutOfBoundsException"] : List String) ∧ z.2.2.1.toInt = s0.toInt ∧ 0 ≤ z.2.2.2.1.toInt ∧ z.2.2.2.1.toInt ≤ 1024 ∧ 0 ≤ z.2.2.2.2.1.toInt ∧ z.2.2.2.2.1.toInt ≤ 200 ∧ 0 ≤ z.2.2.2.2.2.2.2.2.2.2.2.2.1.toInt ∧ z.2.2.2.2.2.2.2.2.2.2.2.2.1.toInt ≤ 512 ∧ 0 ≤ z.2.2.2.2.2.2.2.2.2.2.2.2.2.2.2.2.1.toInt ∧ z.2.2.2.2.2.2.2.2.2.2.2.2.2.2.2.2.1.toInt ≤ 1024) := by
  have g1 := zz_rg p1
  have g2 := zz_rg s0
  have g3 := zz_rg s1
  have g4 := zz_rg s2
  have g5 := zz_rg s3
  have g6 := zz_rg s4
  have g7 := zz_rg s10
  have g8 := zz_rg s11
  have g9 := zz_rg s14
  have g10 := zz_rg s15
  unfold m_X11_give_X6
  have l12 : (1 : Int32).toInt = 1 := rfl
  refine zz_ok_ite (fun c11 => ?_) (fun c11 => ?_)
  · have c11 := Int32.lt_iff_toInt_lt.mp c11
    have l13 : (0 : Int32).toInt = 0 := rfl
    refine zz_ok_some ?_
    show ("java/lang/IllegalArgumentException") ∈ (["", "java/lang/IllegalArgumentException", "java/lang/IllegalStateException", "java/lang/IndexOutOfBoundsException"] : List String) ∧ s0.toInt = s0.toInt ∧ 0 ≤ s1.toInt ∧ s1.toInt ≤ 1024 ∧ 0 ≤ s2.toInt ∧ s2.toInt ≤ 200 ∧ 0 ≤ s10.toInt ∧ s10.toInt ≤ 512 ∧ 0 ≤ s14.toInt ∧ s14.toInt ≤ 1024
    exact ⟨by decide, by omega, by omega, by omega, by omega, by omega, by omega, by omega, by omega, by omega⟩
  · have c11 := zz_nlt c11
    have l15 : (1024 : Int32).toInt = 1024 := rfl
    refine zz_ok_ite (fun c14 => ?_) (fun c14 => ?_)
    · have c14 := Int32.le_iff_toInt_le.mp c14
      refine zz_ok_bind (s_X11_needRoom_X6 K hK n0 n1 n2 n3 n4 n5 n6 n7 n8 s0 s1 s2 s3 s4 s5 s6 s7 s8 s9 s10 s11 s12 s13 s14 s15 s16 s17 (by omega) (by omega) (by omega) (by omega) (by omega) (by omega) (by omega) (by omega) (by omega) (by omega) (by omega) (by omega) (by omega) (by omega) (by omega) (by omega) (by omega)) ?_
      intro z16 hz16
      obtain ⟨e_3, t_3_0, t_3_1, t_3_2, t_3_3, t_3_4, t_3_5, t_3_6, t_3_7, t_3_8, t_3_9, t_3_10, t_3_11, t_3_12, t_3_13, t_3_14, t_3_15, t_3_16, t_3_17⟩ := z16
      have q17 : e_3 ∈ (["", "java/lang/IllegalStateException"] : List String) := hz16.1
      have q18 : t_3_0.toInt = s0.toInt := hz16.2.1
      have q19 : 0 ≤ t_3_1.toInt := hz16.2.2.1
      have q20 : t_3_1.toInt ≤ 1024 := hz16.2.2.2.1
      have q21 : 0 ≤ t_3_2.toInt := hz16.2.2.2.2.1
      have q22 : t_3_2.toInt ≤ 200 := hz16.2.2.2.2.2.1
      have q23 : 0 ≤ t_3_10.toInt := hz16.2.2.2.2.2.2.1
      have q24 : t_3_10.toInt ≤ 512 := hz16.2.2.2.2.2.2.2.1
      have q25 : 0 ≤ t_3_14.toInt := hz16.2.2.2.2.2.2.2.2.1
      have q26 : t_3_14.toInt ≤ 1024 := hz16.2.2.2.2.2.2.2.2.2
      have g27 := zz_rg t_3_0
      have g28 := zz_rg t_3_1
      have g29 := zz_rg t_3_2
      have g30 := zz_rg t_3_3
      have g31 := zz_rg t_3_4
      have g32 := zz_rg t_3_10
      have g33 := zz_rg t_3_11
      have g34 := zz_rg t_3_14
      have g35 := zz_rg t_3_15
      show zz_ok (if e_3 = "" then ((m_X7_blocks K n0 n1 n2 n3 n4 n5 n6 t_3_1 t_3_2 t_3_3 t_3_4 t_3_5 t_3_6 t_3_7 t_3_8 t_3_9 t_3_10 t_3_11 t_3_12 t_3_13).bind fun ⟨r_4, t_4_0, t_4_1, t_4_2, t_4_3, t_4_4, t_4_5, t_4_6, t_4_7, t_4_8, t_4_9, t_4_10, t_4_11, t_4_12⟩ => if r_4 < ((200 : Int32)) then ((m_X1_spanOf K p1).bind fun ⟨r_6, _⟩ => (m_X6_take K n0 n1 n2 n3 n4 n5 n6 n7 n8 r_6 t_4_0 t_4_1 t_4_2 t_4_3 t_4_4 t_4_5 t_4_6 t_4_7 t_4_8 t_4_9 t_4_10 t_4_11 t_4_12 t_3_14 t_3_15 t_3_16 t_3_17).bind fun ⟨r_7, t_7_0, t_7_1, t_7_2, t_7_3, t_7_4, t_7_5, t_7_6, t_7_7, t_7_8, t_7_9, t_7_10, t_7_11, t_7_12, t_7_13, t_7_14, t_7_15, t_7_16⟩ => if r_7 = ((-1 : Int32)) then (some ("", (-1 : Int32), t_3_0, t_7_0, t_7_1, t_7_2, t_7_3, t_7_4, t_7_5, t_7_6, t_7_7, t_7_8, t_7_9, t_7_10, t_7_11, t_7_12, t_7_13, t_7_14, t_7_15, t_7_16)) else ((m_X7_settle K n0 n1 n2 n3 n4 n5 n6 r_7 r_6 p1 t_7_0 t_7_1 t_7_2 t_7_3 t_7_4 t_7_5 t_7_6 t_7_7 t_7_8 t_7_9 t_7_10 t_7_11 t_7_12).bind fun ⟨r_9, t_9_0, t_9_1, t_9_2, t_9_3, t_9_4, t_9_5, t_9_6, t_9_7, t_9_8, t_9_9, t_9_10, t_9_11, t_9_12⟩ => some ("", r_9, t_3_0, t_9_0, t_9_1, t_9_2, t_9_3, t_9_4, t_9_5, t_9_6, t_9_7, t_9_8, t_9_9, t_9_10, t_9_11, t_9_12, t_7_13, t_7_14, t_7_15, t_7_16))) else (some ("java/lang/IndexOutOfBoundsException", 0, t_3_0, t_4_0, t_4_1, t_4_2, t_4_3, t_4_4, t_4_5, t_4_6, t_4_7, t_4_8, t_4_9, t_4_10, t_4_11, t_4_12, t_3_14, t_3_15, t_3_16, t_3_17))) else (some (e_3, 0, t_3_0, t_3_1, t_3_2, t_3_3, t_3_4, t_3_5, t_3_6, t_3_7, t_3_8, t_3_9, t_3_10, t_3_11, t_3_12, t_3_13, t_3_14, t_3_15, t_3_16, t_3_17))) _
      refine zz_ok_ite (fun c36 => ?_) (fun c36 => ?_)
      · skip
        refine zz_ok_bind (s_X7_blocks K hK n0 n1 n2 n3 n4 n5 n6 t_3_1 t_3_2 t_3_3 t_3_4 t_3_5 t_3_6 t_3_7 t_3_8 t_3_9 t_3_10 t_3_11 t_3_12 t_3_13 (by omega) (by omega) (by omega) (by omega) (by omega) (by omega) (by omega) (by omega) (by omega) (by omega) (by omega) (by omega) (by omega)) ?_
        intro z37 hz37
        obtain ⟨r_4, t_4_0, t_4_1, t_4_2, t_4_3, t_4_4, t_4_5, t_4_6, t_4_7, t_4_8, t_4_9, t_4_10, t_4_11, t_4_12⟩ := z37
        have q38 : r_4.toInt = t_3_2.toInt := hz37.1
        have q39 : t_4_0.toInt = t_3_1.toInt := hz37.2.1
        have q40 : t_4_1.toInt = t_3_2.toInt := hz37.2.2.1
        have q41 : 0 ≤ t_4_9.toInt := hz37.2.2.2.1
        have q42 : t_4_9.toInt ≤ 512 := hz37.2.2.2.2
        have g43 := zz_rg r_4
        have g44 := zz_rg t_4_0
        have g45 := zz_rg t_4_1
        have g46 := zz_rg t_4_2
        have g47 := zz_rg t_4_3
        have g48 := zz_rg t_4_9
        have g49 := zz_rg t_4_10
        show zz_ok (if r_4 < ((200 : Int32)) then ((m_X1_spanOf K p1).bind fun ⟨r_6, _⟩ => (m_X6_take K n0 n1 n2 n3 n4 n5 n6 n7 n8 r_6 t_4_0 t_4_1 t_4_2 t_4_3 t_4_4 t_4_5 t_4_6 t_4_7 t_4_8 t_4_9 t_4_10 t_4_11 t_4_12 t_3_14 t_3_15 t_3_16 t_3_17).bind fun ⟨r_7, t_7_0, t_7_1, t_7_2, t_7_3, t_7_4, t_7_5, t_7_6, t_7_7, t_7_8, t_7_9, t_7_10, t_7_11, t_7_12, t_7_13, t_7_14, t_7_15, t_7_16⟩ => if r_7 = ((-1 : Int32)) then (some ("", (-1 : Int32), t_3_0, t_7_0, t_7_1, t_7_2, t_7_3, t_7_4, t_7_5, t_7_6, t_7_7, t_7_8, t_7_9, t_7_10, t_7_11, t_7_12, t_7_13, t_7_14, t_7_15, t_7_16)) else ((m_X7_settle K n0 n1 n2 n3 n4 n5 n6 r_7 r_6 p1 t_7_0 t_7_1 t_7_2 t_7_3 t_7_4 t_7_5 t_7_6 t_7_7 t_7_8 t_7_9 t_7_10 t_7_11 t_7_12).bind fun ⟨r_9, t_9_0, t_9_1, t_9_2, t_9_3, t_9_4, t_9_5, t_9_6, t_9_7, t_9_8, t_9_9, t_9_10, t_9_11, t_9_12⟩ => some ("", r_9, t_3_0, t_9_0, t_9_1, t_9_2, t_9_3, t_9_4, t_9_5, t_9_6, t_9_7, t_9_8, t_9_9, t_9_10, t_9_11, t_9_12, t_7_13, t_7_14, t_7_15, t_7_16))) else (some ("java/lang/IndexOutOfBoundsException", 0, t_3_0, t_4_0, t_4_1, t_4_2, t_4_3, t_4_4, t_4_5, t_4_6, t_4_7, t_4_8, t_4_9, t_4_10, t_4_11, t_4_12, t_3_14, t_3_15, t_3_16, t_3_17))) _
        have l51 : (200 : Int32).toInt = 200 := rfl
        refine zz_ok_ite (fun c50 => ?_) (fun c50 => ?_)
        · have c50 := Int32.lt_iff_toInt_lt.mp c50
          refine zz_ok_bind (s_X1_spanOf K hK p1) ?_
          intro z52 hz52
          obtain ⟨r_6, _⟩ := z52
          have q53 : r_6.toInt = p1.toInt := hz52
          have g54 := zz_rg r_6
          show zz_ok ((m_X6_take K n0 n1 n2 n3 n4 n5 n6 n7 n8 r_6 t_4_0 t_4_1 t_4_2 t_4_3 t_4_4 t_4_5 t_4_6 t_4_7 t_4_8 t_4_9 t_4_10 t_4_11 t_4_12 t_3_14 t_3_15 t_3_16 t_3_17).bind fun ⟨r_7, t_7_0, t_7_1, t_7_2, t_7_3, t_7_4, t_7_5, t_7_6, t_7_7, t_7_8, t_7_9, t_7_10, t_7_11, t_7_12, t_7_13, t_7_14, t_7_15, t_7_16⟩ => if r_7 = ((-1 : Int32)) then (some ("", (-1 : Int32), t_3_0, t_7_0, t_7_1, t_7_2, t_7_3, t_7_4, t_7_5, t_7_6, t_7_7, t_7_8, t_7_9, t_7_10, t_7_11, t_7_12, t_7_13, t_7_14, t_7_15, t_7_16)) else ((m_X7_settle K n0 n1 n2 n3 n4 n5 n6 r_7 r_6 p1 t_7_0 t_7_1 t_7_2 t_7_3 t_7_4 t_7_5 t_7_6 t_7_7 t_7_8 t_7_9 t_7_10 t_7_11 t_7_12).bind fun ⟨r_9, t_9_0, t_9_1, t_9_2, t_9_3, t_9_4, t_9_5, t_9_6, t_9_7, t_9_8, t_9_9, t_9_10, t_9_11, t_9_12⟩ => some ("", r_9, t_3_0, t_9_0, t_9_1, t_9_2, t_9_3, t_9_4, t_9_5, t_9_6, t_9_7, t_9_8, t_9_9, t_9_10, t_9_11, t_9_12, t_7_13, t_7_14, t_7_15, t_7_16))) _
          refine zz_ok_bind (s_X6_take K hK n0 n1 n2 n3 n4 n5 n6 n7 n8 r_6 t_4_0 t_4_1 t_4_2 t_4_3 t_4_4 t_4_5 t_4_6 t_4_7 t_4_8 t_4_9 t_4_10 t_4_11 t_4_12 t_3_14 t_3_15 t_3_16 t_3_17 (by omega) (by omega) (by omega) (by omega) (by omega) (by omega) (by omega) (by omega) (by omega) (by omega) (by omega) (by omega) (by omega) (by omega) (by omega) (by omega) (by omega)) ?_
          intro z55 hz55
          obtain ⟨r_7, t_7_0, t_7_1, t_7_2, t_7_3, t_7_4, t_7_5, t_7_6, t_7_7, t_7_8, t_7_9, t_7_10, t_7_11, t_7_12, t_7_13, t_7_14, t_7_15, t_7_16⟩ := z55
          have q56 : t_7_0.toInt = t_4_0.toInt := hz55.1
          have q57 : t_7_1.toInt = t_4_1.toInt := hz55.2.1
          have q58 : 0 ≤ t_7_9.toInt := hz55.2.2.1
          have q59 : t_7_9.toInt ≤ 512 := hz55.2.2.2.1
          have q60 : 0 ≤ t_7_13.toInt := hz55.2.2.2.2.1
          have q61 : t_7_13.toInt ≤ 1024 := hz55.2.2.2.2.2
          have g62 := zz_rg r_7
          have g63 := zz_rg t_7_0
          have g64 := zz_rg t_7_1
          have g65 := zz_rg t_7_2
          have g66 := zz_rg t_7_3
          have g67 := zz_rg t_7_9
          have g68 := zz_rg t_7_10
          have g69 := zz_rg t_7_13
          have g70 := zz_rg t_7_14
          show zz_ok (if r_7 = ((-1 : Int32)) then (some ("", (-1 : Int32), t_3_0, t_7_0, t_7_1, t_7_2, t_7_3, t_7_4, t_7_5, t_7_6, t_7_7, t_7_8, t_7_9, t_7_10, t_7_11, t_7_12, t_7_13, t_7_14, t_7_15, t_7_16)) else ((m_X7_settle K n0 n1 n2 n3 n4 n5 n6 r_7 r_6 p1 t_7_0 t_7_1 t_7_2 t_7_3 t_7_4 t_7_5 t_7_6 t_7_7 t_7_8 t_7_9 t_7_10 t_7_11 t_7_12).bind fun ⟨r_9, t_9_0, t_9_1, t_9_2, t_9_3, t_9_4, t_9_5, t_9_6, t_9_7, t_9_8, t_9_9, t_9_10, t_9_11, t_9_12⟩ => some ("", r_9, t_3_0, t_9_0, t_9_1, t_9_2, t_9_3, t_9_4, t_9_5, t_9_6, t_9_7, t_9_8, t_9_9, t_9_10, t_9_11, t_9_12, t_7_13, t_7_14, t_7_15, t_7_16))) _
          have l72 : (-1 : Int32).toInt = -1 := rfl
          refine zz_ok_ite (fun c71 => ?_) (fun c71 => ?_)
          · have c71 := congrArg Int32.toInt c71
            refine zz_ok_some ?_
            show ("") ∈ (["", "java/lang/IllegalArgumentException", "java/lang/IllegalStateException", "java/lang/IndexOutOfBoundsException"] : List String) ∧ t_3_0.toInt = s0.toInt ∧ 0 ≤ t_7_0.toInt ∧ t_7_0.toInt ≤ 1024 ∧ 0 ≤ t_7_1.toInt ∧ t_7_1.toInt ≤ 200 ∧ 0 ≤ t_7_9.toInt ∧ t_7_9.toInt ≤ 512 ∧ 0 ≤ t_7_13.toInt ∧ t_7_13.toInt ≤ 1024
            exact ⟨by decide, by omega, by omega, by omega, by omega, by omega, by omega, by omega, by omega, by omega⟩
          · have c71 := zz_neq c71
            refine zz_ok_bind (s_X7_settle K hK n0 n1 n2 n3 n4 n5 n6 r_7 r_6 p1 t_7_0 t_7_1 t_7_2 t_7_3 t_7_4 t_7_5 t_7_6 t_7_7 t_7_8 t_7_9 t_7_10 t_7_11 t_7_12 (by omega) (by omega) (by omega) (by omega) (by omega) (by omega) (by omega) (by omega) (by omega) (by omega) (by omega) (by omega) (by omega)) ?_
            intro z73 hz73
            obtain ⟨r_9, t_9_0, t_9_1, t_9_2, t_9_3, t_9_4, t_9_5, t_9_6, t_9_7, t_9_8, t_9_9, t_9_10, t_9_11, t_9_12⟩ := z73
            have q74 : t_9_0.toInt = t_7_0.toInt := hz73.1
            have q75 : 0 ≤ t_9_1.toInt := hz73.2.1
            have q76 : t_9_1.toInt ≤ 200 := hz73.2.2.1
            have q77 : 0 ≤ t_9_9.toInt := hz73.2.2.2.1
            have q78 : t_9_9.toInt ≤ 512 := hz73.2.2.2.2
            have g79 := zz_rg r_9
            have g80 := zz_rg t_9_0
            have g81 := zz_rg t_9_1
            have g82 := zz_rg t_9_2
            have g83 := zz_rg t_9_3
            have g84 := zz_rg t_9_9
            have g85 := zz_rg t_9_10
            show zz_ok (some ("", r_9, t_3_0, t_9_0, t_9_1, t_9_2, t_9_3, t_9_4, t_9_5, t_9_6, t_9_7, t_9_8, t_9_9, t_9_10, t_9_11, t_9_12, t_7_13, t_7_14, t_7_15, t_7_16)) _
            refine zz_ok_some ?_
            show ("") ∈ (["", "java/lang/IllegalArgumentException", "java/lang/IllegalStateException", "java/lang/IndexOutOfBoundsException"] : List String) ∧ t_3_0.toInt = s0.toInt ∧ 0 ≤ t_9_0.toInt ∧ t_9_0.toInt ≤ 1024 ∧ 0 ≤ t_9_1.toInt ∧ t_9_1.toInt ≤ 200 ∧ 0 ≤ t_9_9.toInt ∧ t_9_9.toInt ≤ 512 ∧ 0 ≤ t_7_13.toInt ∧ t_7_13.toInt ≤ 1024
            exact ⟨by decide, by omega, by omega, by omega, by omega, by omega, by omega, by omega, by omega, by omega⟩
        · have c50 := zz_nlt c50
          have l86 : (0 : Int32).toInt = 0 := rfl
          refine zz_ok_some ?_
          show ("java/lang/IndexOutOfBoundsException") ∈ (["", "java/lang/IllegalArgumentException", "java/lang/IllegalStateException", "java/lang/IndexOutOfBoundsException"] : List String) ∧ t_3_0.toInt = s0.toInt ∧ 0 ≤ t_4_0.toInt ∧ t_4_0.toInt ≤ 1024 ∧ 0 ≤ t_4_1.toInt ∧ t_4_1.toInt ≤ 200 ∧ 0 ≤ t_4_9.toInt ∧ t_4_9.toInt ≤ 512 ∧ 0 ≤ t_3_14.toInt ∧ t_3_14.toInt ≤ 1024
          exact ⟨by decide, by omega, by omega, by omega, by omega, by omega, by omega, by omega, by omega, by omega⟩
      · skip
        have l87 : (0 : Int32).toInt = 0 := rfl
        refine zz_ok_some ?_
        show e_3 ∈ (["", "java/lang/IllegalArgumentException", "java/lang/IllegalStateException", "java/lang/IndexOutOfBoundsException"] : List String) ∧ t_3_0.toInt = s0.toInt ∧ 0 ≤ t_3_1.toInt ∧ t_3_1.toInt ≤ 1024 ∧ 0 ≤ t_3_2.toInt ∧ t_3_2.toInt ≤ 200 ∧ 0 ≤ t_3_10.toInt ∧ t_3_10.toInt ≤ 512 ∧ 0 ≤ t_3_14.toInt ∧ t_3_14.toInt ≤ 1024
        exact ⟨zz_mem q17 (by decide), by omega, by omega, by omega, by omega, by omega, by omega, by omega, by omega, by omega⟩
    · have c14 := zz_nle c14
      have l88 : (0 : Int32).toInt = 0 := rfl
      refine zz_ok_some ?_
      show ("java/lang/IllegalArgumentException") ∈ (["", "java/lang/IllegalArgumentException", "java/lang/IllegalStateException", "java/lang/IndexOutOfBoundsException"] : List String) ∧ s0.toInt = s0.toInt ∧ 0 ≤ s1.toInt ∧ s1.toInt ≤ 1024 ∧ 0 ≤ s2.toInt ∧ s2.toInt ≤ 200 ∧ 0 ≤ s10.toInt ∧ s10.toInt ≤ 512 ∧ 0 ≤ s14.toInt ∧ s14.toInt ≤ 1024
      exact ⟨by decide, by omega, by omega, by omega, by omega, by omega, by omega, by omega, by omega, by omega⟩
set_option maxHeartbeats 4000000 in
theorem s_X11_back_X6 (K : Nat) (hK : 1099511627776 ≤ K) (n0 : Nat) (n1 : Nat) (n2 : Nat) (n3 : Nat) (n4 : Nat) (n5 : Nat) (n6 : Nat) (n7 : Nat) (n8 : Nat) (p1 : Int32) (s0 : Int32) (s1 : Int32) (s2 : Int32) (s3 : Int32) (s4 : Int32) (s5 : Nat → Int32) (s6 : Nat → Int32) (s7 : Nat → Int32) (s8 : Nat → Int32) (s9 : Nat → Int32) (s10 : Int32) (s11 : Int32) (s12 : Nat → Int32) (s13 : Nat → Int32) (s14 : Int32) (s15 : Int32) (s16 : Nat → Int32) (s17 : Nat → Int32) (a0 : n0 = 1024) (a1 : n1 = 200) (a2 : n2 = 200) (a3 : n3 = 200) (a4 : n4 = 200) (a5 : n5 = 512) (a6 : n6 = 512) (a7 : n7 = 1024) (a8 : n8 = 1024) (a9 : 0 ≤ s1.toInt) (a10 : s1.toInt ≤ 1024) (a11 : 0 ≤ s2.toInt) (a12 : s2.toInt ≤ 200) (a13 : 0 ≤ s10.toInt) (a14 : s10.toInt ≤ 512) (a15 : 0 ≤ s14.toInt) (a16 : s14.toInt ≤ 1024) : zz_ok (m_X11_back_X6 K n0 n1 n2 n3 n4 n5 n6 n7 n8 p1 s0 s1 s2 s3 s4 s5 s6 s7 s8 s9 s10 s11 s12 s13 s14 s15 s16 s17) (fun z => z.1 ∈ (["", "java/lang/IllegalStateException", "java/util/NoSuchElementException"] : List String) ∧ z.2.2.1.toInt = s0.toInt ∧ 0 ≤ z.2.2.2.1.toInt ∧ z.2.2.2.1.toInt ≤ 1024 ∧ 0 ≤ z.2.2.2.2.1.toInt ∧ z.2.2.2.2.1.toInt ≤ 200 ∧ 0 ≤ z.2.2.2.2.2.2.2.2.2.2.2.2.1.toInt ∧ z.2.2.2.2.2.2.2.2.2.2.2.2.1.toInt ≤ 512 ∧ 0 ≤ z.2.2.2.2.2.2.2.2.2.2.2.2.2.2.2.2.1.toInt ∧ z.2.2.2.2.2.2.2.2.2.2.2.2.2.2.2.2.1.toInt ≤ 1024) := by
  have g1 := zz_rg p1
  have g2 := zz_rg s0
  have g3 := zz_rg s1
  have g4 := zz_rg s2
  have g5 := zz_rg s3
  have g6 := zz_rg s4
  have g7 := zz_rg s10
  have g8 := zz_rg s11
  have g9 := zz_rg s14
  have g10 := zz_rg s15
  unfold m_X11_back_X6
  refine zz_ok_bind (s_X11_needRoom_X6 K hK n0 n1 n2 n3 n4 n5 n6 n7 n8 s0 s1 s2 s3 s4 s5 s6 s7 s8 s9 s10 s11 s12 s13 s14 s15 s16 s17 (by omega) (by omega) (by omega) (by omega) (by omega) (by omega) (by omega) (by omega) (by omega) (by omega) (by omega) (by omega) (by omega) (by omega) (by omega) (by omega) (by omega)) ?_
  intro z11 hz11
  obtain ⟨e_1, t_1_0, t_1_1, t_1_2, t_1_3, t_1_4, t_1_5, t_1_6, t_1_7, t_1_8, t_1_9, t_1_10, t_1_11, t_1_12, t_1_13, t_1_14, t_1_15, t_1_16, t_1_17⟩ := z11
  have q12 : e_1 ∈ (["", "java/lang/IllegalStateException"] : List String) := hz11.1
  have q13 : t_1_0.toInt = s0.toInt := hz11.2.1
  have q14 : 0 ≤ t_1_1.toInt := hz11.2.2.1
  have q15 : t_1_1.toInt ≤ 1024 := hz11.2.2.2.1
  have q16 : 0 ≤ t_1_2.toInt := hz11.2.2.2.2.1
  have q17 : t_1_2.toInt ≤ 200 := hz11.2.2.2.2.2.1
  have q18 : 0 ≤ t_1_10.toInt := hz11.2.2.2.2.2.2.1
  have q19 : t_1_10.toInt ≤ 512 := hz11.2.2.2.2.2.2.2.1
  have q20 : 0 ≤ t_1_14.toInt := hz11.2.2.2.2.2.2.2.2.1
  have q21 : t_1_14.toInt ≤ 1024 := hz11.2.2.2.2.2.2.2.2.2
  have g22 := zz_rg t_1_0
  have g23 := zz_rg t_1_1
  have g24 := zz_rg t_1_2
  have g25 := zz_rg t_1_3
  have g26 := zz_rg t_1_4
  have g27 := zz_rg t_1_10
  have g28 := zz_rg t_1_11
  have g29 := zz_rg t_1_14
  have g30 := zz_rg t_1_15
  show zz_ok (if e_1 = "" then ((m_X11_needBlock_X6 K n0 n1 n2 n3 n4 n5 n6 n7 n8 p1 t_1_0 t_1_1 t_1_2 t_1_3 t_1_4 t_1_5 t_1_6 t_1_7 t_1_8 t_1_9 t_1_10 t_1_11 t_1_12 t_1_13 t_1_14 t_1_15 t_1_16 t_1_17).bind fun ⟨e_2, r_2, t_2_0, t_2_1, t_2_2, t_2_3, t_2_4, t_2_5, t_2_6, t_2_7, t_2_8, t_2_9, t_2_10, t_2_11, t_2_12, t_2_13, t_2_14, t_2_15, t_2_16, t_2_17⟩ => if e_2 = "" then ((m_X7_placeOf K n0 n1 n2 n3 n4 n5 n6 r_2 t_2_1 t_2_2 t_2_3 t_2_4 t_2_5 t_2_6 t_2_7 t_2_8 t_2_9 t_2_10 t_2_11 t_2_12 t_2_13).bind fun ⟨r_3, t_3_0, t_3_1, t_3_2, t_3_3, t_3_4, t_3_5, t_3_6, t_3_7, t_3_8, t_3_9, t_3_10, t_3_11, t_3_12⟩ => (m_X7_spanOf K n0 n1 n2 n3 n4 n5 n6 r_2 t_3_0 t_3_1 t_3_2 t_3_3 t_3_4 t_3_5 t_3_6 t_3_7 t_3_8 t_3_9 t_3_10 t_3_11 t_3_12).bind fun ⟨r_4, t_4_0, t_4_1, t_4_2, t_4_3, t_4_4, t_4_5, t_4_6, t_4_7, t_4_8, t_4_9, t_4_10, t_4_11, t_4_12⟩ => (m_X7_remove K n0 n1 n2 n3 n4 n5 n6 r_2 t_4_0 t_4_1 t_4_2 t_4_3 t_4_4 t_4_5 t_4_6 t_4_7 t_4_8 t_4_9 t_4_10 t_4_11 t_4_12).bind fun ⟨t_5_0, t_5_1, t_5_2, t_5_3, t_5_4, t_5_5, t_5_6, t_5_7, t_5_8, t_5_9, t_5_10, t_5_11, t_5_12⟩ => (m_X6_takeBack K n0 n1 n2 n3 n4 n5 n6 n7 n8 r_3 r_4 t_5_0 t_5_1 t_5_2 t_5_3 t_5_4 t_5_5 t_5_6 t_5_7 t_5_8 t_5_9 t_5_10 t_5_11 t_5_12 t_2_14 t_2_15 t_2_16 t_2_17).bind fun ⟨t_6_0, t_6_1, t_6_2, t_6_3, t_6_4, t_6_5, t_6_6, t_6_7, t_6_8, t_6_9, t_6_10, t_6_11, t_6_12, t_6_13, t_6_14, t_6_15, t_6_16⟩ => some ("", r_3, t_2_0, t_6_0, t_6_1, t_6_2, t_6_3, t_6_4, t_6_5, t_6_6, t_6_7, t_6_8, t_6_9, t_6_10, t_6_11, t_6_12, t_6_13, t_6_14, t_6_15, t_6_16)) else (some (e_2, 0, t_2_0, t_2_1, t_2_2, t_2_3, t_2_4, t_2_5, t_2_6, t_2_7, t_2_8, t_2_9, t_2_10, t_2_11, t_2_12, t_2_13, t_2_14, t_2_15, t_2_16, t_2_17))) else (some (e_1, 0, t_1_0, t_1_1, t_1_2, t_1_3, t_1_4, t_1_5, t_1_6, t_1_7, t_1_8, t_1_9, t_1_10, t_1_11, t_1_12, t_1_13, t_1_14, t_1_15, t_1_16, t_1_17))) _
  refine zz_ok_ite (fun c31 => ?_) (fun c31 => ?_)
  · skip
    refine zz_ok_bind (s_X11_needBlock_X6 K hK n0 n1 n2 n3 n4 n5 n6 n7 n8 p1 t_1_0 t_1_1 t_1_2 t_1_3 t_1_4 t_1_5 t_1_6 t_1_7 t_1_8 t_1_9 t_1_10 t_1_11 t_1_12 t_1_13 t_1_14 t_1_15 t_1_16 t_1_17 (by omega) (by omega) (by omega) (by omega) (by omega) (by omega) (by omega) (by omega) (by omega) (by omega) (by omega) (by omega) (by omega) (by omega) (by omega) (by omega) (by omega)) ?_
    intro z32 hz32
    obtain ⟨e_2, r_2, t_2_0, t_2_1, t_2_2, t_2_3, t_2_4, t_2_5, t_2_6, t_2_7, t_2_8, t_2_9, t_2_10, t_2_11, t_2_12, t_2_13, t_2_14, t_2_15, t_2_16, t_2_17⟩ := z32
    have q33 : e_2 ∈ (["", "java/util/NoSuchElementException"] : List String) := hz32.1
    have q34 : t_2_0.toInt = t_1_0.toInt := hz32.2.1
    have q35 : 0 ≤ t_2_1.toInt := hz32.2.2.1
    have q36 : t_2_1.toInt ≤ 1024 := hz32.2.2.2.1
    have q37 : 0 ≤ t_2_2.toInt := hz32.2.2.2.2.1
    have q38 : t_2_2.toInt ≤ 200 := hz32.2.2.2.2.2.1
    have q39 : 0 ≤ t_2_10.toInt := hz32.2.2.2.2.2.2.1
    have q40 : t_2_10.toInt ≤ 512 := hz32.2.2.2.2.2.2.2.1
    have q41 : 0 ≤ t_2_14.toInt := hz32.2.2.2.2.2.2.2.2.1
    have q42 : t_2_14.toInt ≤ 1024 := hz32.2.2.2.2.2.2.2.2.2
    have g43 := zz_rg r_2
    have g44 := zz_rg t_2_0
    have g45 := zz_rg t_2_1
    have g46 := zz_rg t_2_2
    have g47 := zz_rg t_2_3
    have g48 := zz_rg t_2_4
    have g49 := zz_rg t_2_10
    have g50 := zz_rg t_2_11
    have g51 := zz_rg t_2_14
    have g52 := zz_rg t_2_15
    show zz_ok (if e_2 = "" then ((m_X7_placeOf K n0 n1 n2 n3 n4 n5 n6 r_2 t_2_1 t_2_2 t_2_3 t_2_4 t_2_5 t_2_6 t_2_7 t_2_8 t_2_9 t_2_10 t_2_11 t_2_12 t_2_13).bind fun ⟨r_3, t_3_0, t_3_1, t_3_2, t_3_3, t_3_4, t_3_5, t_3_6, t_3_7, t_3_8, t_3_9, t_3_10, t_3_11, t_3_12⟩ => (m_X7_spanOf K n0 n1 n2 n3 n4 n5 n6 r_2 t_3_0 t_3_1 t_3_2 t_3_3 t_3_4 t_3_5 t_3_6 t_3_7 t_3_8 t_3_9 t_3_10 t_3_11 t_3_12).bind fun ⟨r_4, t_4_0, t_4_1, t_4_2, t_4_3, t_4_4, t_4_5, t_4_6, t_4_7, t_4_8, t_4_9, t_4_10, t_4_11, t_4_12⟩ => (m_X7_remove K n0 n1 n2 n3 n4 n5 n6 r_2 t_4_0 t_4_1 t_4_2 t_4_3 t_4_4 t_4_5 t_4_6 t_4_7 t_4_8 t_4_9 t_4_10 t_4_11 t_4_12).bind fun ⟨t_5_0, t_5_1, t_5_2, t_5_3, t_5_4, t_5_5, t_5_6, t_5_7, t_5_8, t_5_9, t_5_10, t_5_11, t_5_12⟩ => (m_X6_takeBack K n0 n1 n2 n3 n4 n5 n6 n7 n8 r_3 r_4 t_5_0 t_5_1 t_5_2 t_5_3 t_5_4 t_5_5 t_5_6 t_5_7 t_5_8 t_5_9 t_5_10 t_5_11 t_5_12 t_2_14 t_2_15 t_2_16 t_2_17).bind fun ⟨t_6_0, t_6_1, t_6_2, t_6_3, t_6_4, t_6_5, t_6_6, t_6_7, t_6_8, t_6_9, t_6_10, t_6_11, t_6_12, t_6_13, t_6_14, t_6_15, t_6_16⟩ => some ("", r_3, t_2_0, t_6_0, t_6_1, t_6_2, t_6_3, t_6_4, t_6_5, t_6_6, t_6_7, t_6_8, t_6_9, t_6_10, t_6_11, t_6_12, t_6_13, t_6_14, t_6_15, t_6_16)) else (some (e_2, 0, t_2_0, t_2_1, t_2_2, t_2_3, t_2_4, t_2_5, t_2_6, t_2_7, t_2_8, t_2_9, t_2_10, t_2_11, t_2_12, t_2_13, t_2_14, t_2_15, t_2_16, t_2_17))) _
    refine zz_ok_ite (fun c53 => ?_) (fun c53 => ?_)
    · skip
      refine zz_ok_bind (s_X7_placeOf K hK n0 n1 n2 n3 n4 n5 n6 r_2 t_2_1 t_2_2 t_2_3 t_2_4 t_2_5 t_2_6 t_2_7 t_2_8 t_2_9 t_2_10 t_2_11 t_2_12 t_2_13 (by omega) (by omega) (by omega) (by omega) (by omega) (by omega) (by omega) (by omega) (by omega) (by omega) (by omega) (by omega) (by omega)) ?_
      intro z54 hz54
      obtain ⟨r_3, t_3_0, t_3_1, t_3_2, t_3_3, t_3_4, t_3_5, t_3_6, t_3_7, t_3_8, t_3_9, t_3_10, t_3_11, t_3_12⟩ := z54
      have q55 : t_3_0.toInt = t_2_1.toInt := hz54.1
      have q56 : t_3_1.toInt = t_2_2.toInt := hz54.2.1
      have q57 : 0 ≤ t_3_9.toInt := hz54.2.2.1
      have q58 : t_3_9.toInt ≤ 512 := hz54.2.2.2
      have g59 := zz_rg r_3
      have g60 := zz_rg t_3_0
      have g61 := zz_rg t_3_1
      have g62 := zz_rg t_3_2
      have g63 := zz_rg t_3_3
      have g64 := zz_rg t_3_9
      have g65 := zz_rg t_3_10
      show zz_ok ((m_X7_spanOf K n0 n1 n2 n3 n4 n5 n6 r_2 t_3_0 t_3_1 t_3_2 t_3_3 t_3_4 t_3_5 t_3_6 t_3_7 t_3_8 t_3_9 t_3_10 t_3_11 t_3_12).bind fun ⟨r_4, t_4_0, t_4_1, t_4_2, t_4_3, t_4_4, t_4_5, t_4_6, t_4_7, t_4_8, t_4_9, t_4_10, t_4_11, t_4_12⟩ => (m_X7_remove K n0 n1 n2 n3 n4 n5 n6 r_2 t_4_0 t_4_1 t_4_2 t_4_3 t_4_4 t_4_5 t_4_6 t_4_7 t_4_8 t_4_9 t_4_10 t_4_11 t_4_12).bind fun ⟨t_5_0, t_5_1, t_5_2, t_5_3, t_5_4, t_5_5, t_5_6, t_5_7, t_5_8, t_5_9, t_5_10, t_5_11, t_5_12⟩ => (m_X6_takeBack K n0 n1 n2 n3 n4 n5 n6 n7 n8 r_3 r_4 t_5_0 t_5_1 t_5_2 t_5_3 t_5_4 t_5_5 t_5_6 t_5_7 t_5_8 t_5_9 t_5_10 t_5_11 t_5_12 t_2_14 t_2_15 t_2_16 t_2_17).bind fun ⟨t_6_0, t_6_1, t_6_2, t_6_3, t_6_4, t_6_5, t_6_6, t_6_7, t_6_8, t_6_9, t_6_10, t_6_11, t_6_12, t_6_13, t_6_14, t_6_15, t_6_16⟩ => some ("", r_3, t_2_0, t_6_0, t_6_1, t_6_2, t_6_3, t_6_4, t_6_5, t_6_6, t_6_7, t_6_8, t_6_9, t_6_10, t_6_11, t_6_12, t_6_13, t_6_14, t_6_15, t_6_16)) _
      refine zz_ok_bind (s_X7_spanOf K hK n0 n1 n2 n3 n4 n5 n6 r_2 t_3_0 t_3_1 t_3_2 t_3_3 t_3_4 t_3_5 t_3_6 t_3_7 t_3_8 t_3_9 t_3_10 t_3_11 t_3_12 (by omega) (by omega) (by omega) (by omega) (by omega) (by omega) (by omega) (by omega) (by omega) (by omega) (by omega) (by omega) (by omega)) ?_
      intro z66 hz66
      obtain ⟨r_4, t_4_0, t_4_1, t_4_2, t_4_3, t_4_4, t_4_5, t_4_6, t_4_7, t_4_8, t_4_9, t_4_10, t_4_11, t_4_12⟩ := z66
      have q67 : t_4_0.toInt = t_3_0.toInt := hz66.1
      have q68 : t_4_1.toInt = t_3_1.toInt := hz66.2.1
      have q69 : 0 ≤ t_4_9.toInt := hz66.2.2.1
      have q70 : t_4_9.toInt ≤ 512 := hz66.2.2.2
      have g71 := zz_rg r_4
      have g72 := zz_rg t_4_0
      have g73 := zz_rg t_4_1
      have g74 := zz_rg t_4_2
      have g75 := zz_rg t_4_3
      have g76 := zz_rg t_4_9
      have g77 := zz_rg t_4_10
      show zz_ok ((m_X7_remove K n0 n1 n2 n3 n4 n5 n6 r_2 t_4_0 t_4_1 t_4_2 t_4_3 t_4_4 t_4_5 t_4_6 t_4_7 t_4_8 t_4_9 t_4_10 t_4_11 t_4_12).bind fun ⟨t_5_0, t_5_1, t_5_2, t_5_3, t_5_4, t_5_5, t_5_6, t_5_7, t_5_8, t_5_9, t_5_10, t_5_11, t_5_12⟩ => (m_X6_takeBack K n0 n1 n2 n3 n4 n5 n6 n7 n8 r_3 r_4 t_5_0 t_5_1 t_5_2 t_5_3 t_5_4 t_5_5 t_5_6 t_5_7 t_5_8 t_5_9 t_5_10 t_5_11 t_5_12 t_2_14 t_2_15 t_2_16 t_2_17).bind fun ⟨t_6_0, t_6_1, t_6_2, t_6_3, t_6_4, t_6_5, t_6_6, t_6_7, t_6_8, t_6_9, t_6_10, t_6_11, t_6_12, t_6_13, t_6_14, t_6_15, t_6_16⟩ => some ("", r_3, t_2_0, t_6_0, t_6_1, t_6_2, t_6_3, t_6_4, t_6_5, t_6_6, t_6_7, t_6_8, t_6_9, t_6_10, t_6_11, t_6_12, t_6_13, t_6_14, t_6_15, t_6_16)) _
      refine zz_ok_bind (s_X7_remove K hK n0 n1 n2 n3 n4 n5 n6 r_2 t_4_0 t_4_1 t_4_2 t_4_3 t_4_4 t_4_5 t_4_6 t_4_7 t_4_8 t_4_9 t_4_10 t_4_11 t_4_12 (by omega) (by omega) (by omega) (by omega) (by omega) (by omega) (by omega) (by omega) (by omega) (by omega) (by omega) (by omega) (by omega)) ?_
      intro z78 hz78
      obtain ⟨t_5_0, t_5_1, t_5_2, t_5_3, t_5_4, t_5_5, t_5_6, t_5_7, t_5_8, t_5_9, t_5_10, t_5_11, t_5_12⟩ := z78
      have q79 : t_5_0.toInt = t_4_0.toInt := hz78.1
      have q80 : 0 ≤ t_5_1.toInt := hz78.2.1
      have q81 : t_5_1.toInt ≤ 200 := hz78.2.2.1
      have q82 : 0 ≤ t_5_9.toInt := hz78.2.2.2.1
      have q83 : t_5_9.toInt ≤ 512 := hz78.2.2.2.2
      have g84 := zz_rg t_5_0
      have g85 := zz_rg t_5_1
      have g86 := zz_rg t_5_2
      have g87 := zz_rg t_5_3
      have g88 := zz_rg t_5_9
      have g89 := zz_rg t_5_10
      show zz_ok ((m_X6_takeBack K n0 n1 n2 n3 n4 n5 n6 n7 n8 r_3 r_4 t_5_0 t_5_1 t_5_2 t_5_3 t_5_4 t_5_5 t_5_6 t_5_7 t_5_8 t_5_9 t_5_10 t_5_11 t_5_12 t_2_14 t_2_15 t_2_16 t_2_17).bind fun ⟨t_6_0, t_6_1, t_6_2, t_6_3, t_6_4, t_6_5, t_6_6, t_6_7, t_6_8, t_6_9, t_6_10, t_6_11, t_6_12, t_6_13, t_6_14, t_6_15, t_6_16⟩ => some ("", r_3, t_2_0, t_6_0, t_6_1, t_6_2, t_6_3, t_6_4, t_6_5, t_6_6, t_6_7, t_6_8, t_6_9, t_6_10, t_6_11, t_6_12, t_6_13, t_6_14, t_6_15, t_6_16)) _
      refine zz_ok_bind (s_X6_takeBack K hK n0 n1 n2 n3 n4 n5 n6 n7 n8 r_3 r_4 t_5_0 t_5_1 t_5_2 t_5_3 t_5_4 t_5_5 t_5_6 t_5_7 t_5_8 t_5_9 t_5_10 t_5_11 t_5_12 t_2_14 t_2_15 t_2_16 t_2_17 (by omega) (by omega) (by omega) (by omega) (by omega) (by omega) (by omega) (by omega) (by omega) (by omega) (by omega) (by omega) (by omega) (by omega) (by omega) (by omega) (by omega)) ?_
      intro z90 hz90
      obtain ⟨t_6_0, t_6_1, t_6_2, t_6_3, t_6_4, t_6_5, t_6_6, t_6_7, t_6_8, t_6_9, t_6_10, t_6_11, t_6_12, t_6_13, t_6_14, t_6_15, t_6_16⟩ := z90
      have q91 : t_6_0.toInt = t_5_0.toInt := hz90.1
      have q92 : t_6_1.toInt = t_5_1.toInt := hz90.2.1
      have q93 : 0 ≤ t_6_9.toInt := hz90.2.2.1
      have q94 : t_6_9.toInt ≤ 512 := hz90.2.2.2.1
      have q95 : 0 ≤ t_6_13.toInt := hz90.2.2.2.2.1
      have q96 : t_6_13.toInt ≤ 1024 := hz90.2.2.2.2.2
      have g97 := zz_rg t_6_0
      have g98 := zz_rg t_6_1
      have g99 := zz_rg t_6_2
      have g100 := zz_rg t_6_3
      have g101 := zz_rg t_6_9
      have g102 := zz_rg t_6_10
      have g103 := zz_rg t_6_13
      have g104 := zz_rg t_6_14
      show zz_ok (some ("", r_3, t_2_0, t_6_0, t_6_1, t_6_2, t_6_3, t_6_4, t_6_5, t_6_6, t_6_7, t_6_8, t_6_9, t_6_10, t_6_11, t_6_12, t_6_13, t_6_14, t_6_15, t_6_16)) _
      refine zz_ok_some ?_
      show ("") ∈ (["", "java/lang/IllegalStateException", "java/util/NoSuchElementException"] : List String) ∧ t_2_0.toInt = s0.toInt ∧ 0 ≤ t_6_0.toInt ∧ t_6_0.toInt ≤ 1024 ∧ 0 ≤ t_6_1.toInt ∧ t_6_1.toInt ≤ 200 ∧ 0 ≤ t_6_9.toInt ∧ t_6_9.toInt ≤ 512 ∧ 0 ≤ t_6_13.toInt ∧ t_6_13.toInt ≤ 1024
      exact ⟨by decide, by omega, by omega, by omega, by omega, by omega, by omega, by omega, by omega, by omega⟩
    · skip
      have l105 : (0 : Int32).toInt = 0 := rfl
      refine zz_ok_some ?_
      show e_2 ∈ (["", "java/lang/IllegalStateException", "java/util/NoSuchElementException"] : List String) ∧ t_2_0.toInt = s0.toInt ∧ 0 ≤ t_2_1.toInt ∧ t_2_1.toInt ≤ 1024 ∧ 0 ≤ t_2_2.toInt ∧ t_2_2.toInt ≤ 200 ∧ 0 ≤ t_2_10.toInt ∧ t_2_10.toInt ≤ 512 ∧ 0 ≤ t_2_14.toInt ∧ t_2_14.toInt ≤ 1024
      exact ⟨zz_mem q33 (by decide), by omega, by omega, by omega, by omega, by omega, by omega, by omega, by omega, by omega⟩
  · skip
    have l106 : (0 : Int32).toInt = 0 := rfl
    refine zz_ok_some ?_
    show e_1 ∈ (["", "java/lang/IllegalStateException", "java/util/NoSuchElementException"] : List String) ∧ t_1_0.toInt = s0.toInt ∧ 0 ≤ t_1_1.toInt ∧ t_1_1.toInt ≤ 1024 ∧ 0 ≤ t_1_2.toInt ∧ t_1_2.toInt ≤ 200 ∧ 0 ≤ t_1_10.toInt ∧ t_1_10.toInt ≤ 512 ∧ 0 ≤ t_1_14.toInt ∧ t_1_14.toInt ≤ 1024
    exact ⟨zz_mem q12 (by decide), by omega, by omega, by omega, by omega, by omega, by omega, by omega, by omega, by omega⟩
set_option maxHeartbeats 4000000 in
theorem s_X11_about_X6 (K : Nat) (hK : 1099511627776 ≤ K) (n0 : Nat) (n1 : Nat) (n2 : Nat) (n3 : Nat) (n4 : Nat) (n5 : Nat) (n6 : Nat) (n7 : Nat) (n8 : Nat) (p1 : Int32) (p2 : Int32) (s0 : Int32) (s1 : Int32) (s2 : Int32) (s3 : Int32) (s4 : Int32) (s5 : Nat → Int32) (s6 : Nat → Int32) (s7 : Nat → Int32) (s8 : Nat → Int32) (s9 : Nat → Int32) (s10 : Int32) (s11 : Int32) (s12 : Nat → Int32) (s13 : Nat → Int32) (s14 : Int32) (s15 : Int32) (s16 : Nat → Int32) (s17 : Nat → Int32) (a0 : n0 = 1024) (a1 : n1 = 200) (a2 : n2 = 200) (a3 : n3 = 200) (a4 : n4 = 200) (a5 : n5 = 512) (a6 : n6 = 512) (a7 : n7 = 1024) (a8 : n8 = 1024) (a9 : 0 ≤ s1.toInt) (a10 : s1.toInt ≤ 1024) (a11 : 0 ≤ s2.toInt) (a12 : s2.toInt ≤ 200) (a13 : 0 ≤ s10.toInt) (a14 : s10.toInt ≤ 512) (a15 : 0 ≤ s14.toInt) (a16 : s14.toInt ≤ 1024) : zz_ok (m_X11_about_X6 K n0 n1 n2 n3 n4 n5 n6 n7 n8 p1 p2 s0 s1 s2 s3 s4 s5 s6 s7 s8 s9 s10 s11 s12 s13 s14 s15 s16 s17) (fun z => z.1 ∈ (["", "java/lang/IllegalArgumentException", "java/lang/IllegalStateException", "java/util/NoSuchElementException"] : List String) ∧ z.2.2.1.toInt = s0.toInt ∧ 0 ≤ z.2.2.2.1.toInt ∧ z.2.2.2.1.toInt ≤ 1024 ∧ 0 ≤ z.2.2.2.2.1.toInt ∧ z.2.2.2.2.1.toInt ≤ 200 ∧ 0 ≤ z.2.2.2.2.2.2.2.2.2.2.2.2.1.toInt ∧ z.2.2.2.2.2.2.2.2.2.2.2.2.1.toInt ≤ 512 ∧ 0 ≤ z.2.2.2.2.2.2.2.2.2.2.2.2.2.2.2.2.1.toInt ∧ z.2.2.2.2.2.2.2.2.2.2.2.2.2.2.2.2.1.toInt ≤ 1024) := by
  have g1 := zz_rg p1
  have g2 := zz_rg p2
  have g3 := zz_rg s0
  have g4 := zz_rg s1
  have g5 := zz_rg s2
  have g6 := zz_rg s3
  have g7 := zz_rg s4
  have g8 := zz_rg s10
  have g9 := zz_rg s11
  have g10 := zz_rg s14
  have g11 := zz_rg s15
  unfold m_X11_about_X6
  have l13 : (0 : Int32).toInt = 0 := rfl
  refine zz_ok_ite (fun c12 => ?_) (fun c12 => ?_)
  · have c12 := Int32.lt_iff_toInt_lt.mp c12
    refine zz_ok_some ?_
    show ("java/lang/IllegalArgumentException") ∈ (["", "java/lang/IllegalArgumentException", "java/lang/IllegalStateException", "java/util/NoSuchElementException"] : List String) ∧ s0.toInt = s0.toInt ∧ 0 ≤ s1.toInt ∧ s1.toInt ≤ 1024 ∧ 0 ≤ s2.toInt ∧ s2.toInt ≤ 200 ∧ 0 ≤ s10.toInt ∧ s10.toInt ≤ 512 ∧ 0 ≤ s14.toInt ∧ s14.toInt ≤ 1024
    exact ⟨by decide, by omega, by omega, by omega, by omega, by omega, by omega, by omega, by omega, by omega⟩
  · have c12 := zz_nlt c12
    have l15 : (2 : Int32).toInt = 2 := rfl
    refine zz_ok_ite (fun c14 => ?_) (fun c14 => ?_)
    · have c14 := Int32.le_iff_toInt_le.mp c14
      refine zz_ok_bind (s_X11_needRoom_X6 K hK n0 n1 n2 n3 n4 n5 n6 n7 n8 s0 s1 s2 s3 s4 s5 s6 s7 s8 s9 s10 s11 s12 s13 s14 s15 s16 s17 (by omega) (by omega) (by omega) (by omega) (by omega) (by omega) (by omega) (by omega) (by omega) (by omega) (by omega) (by omega) (by omega) (by omega) (by omega) (by omega) (by omega)) ?_
      intro z16 hz16
      obtain ⟨e_3, t_3_0, t_3_1, t_3_2, t_3_3, t_3_4, t_3_5, t_3_6, t_3_7, t_3_8, t_3_9, t_3_10, t_3_11, t_3_12, t_3_13, t_3_14, t_3_15, t_3_16, t_3_17⟩ := z16
      have q17 : e_3 ∈ (["", "java/lang/IllegalStateException"] : List String) := hz16.1
      have q18 : t_3_0.toInt = s0.toInt := hz16.2.1
      have q19 : 0 ≤ t_3_1.toInt := hz16.2.2.1
      have q20 : t_3_1.toInt ≤ 1024 := hz16.2.2.2.1
      have q21 : 0 ≤ t_3_2.toInt := hz16.2.2.2.2.1
      have q22 : t_3_2.toInt ≤ 200 := hz16.2.2.2.2.2.1
      have q23 : 0 ≤ t_3_10.toInt := hz16.2.2.2.2.2.2.1
      have q24 : t_3_10.toInt ≤ 512 := hz16.2.2.2.2.2.2.2.1
      have q25 : 0 ≤ t_3_14.toInt := hz16.2.2.2.2.2.2.2.2.1
      have q26 : t_3_14.toInt ≤ 1024 := hz16.2.2.2.2.2.2.2.2.2
      have g27 := zz_rg t_3_0
      have g28 := zz_rg t_3_1
      have g29 := zz_rg t_3_2
      have g30 := zz_rg t_3_3
      have g31 := zz_rg t_3_4
      have g32 := zz_rg t_3_10
      have g33 := zz_rg t_3_11
      have g34 := zz_rg t_3_14
      have g35 := zz_rg t_3_15
      show zz_ok (if e_3 = "" then ((m_X11_needBlock_X6 K n0 n1 n2 n3 n4 n5 n6 n7 n8 p1 t_3_0 t_3_1 t_3_2 t_3_3 t_3_4 t_3_5 t_3_6 t_3_7 t_3_8 t_3_9 t_3_10 t_3_11 t_3_12 t_3_13 t_3_14 t_3_15 t_3_16 t_3_17).bind fun ⟨e_4, r_4, t_4_0, t_4_1, t_4_2, t_4_3, t_4_4, t_4_5, t_4_6, t_4_7, t_4_8, t_4_9, t_4_10, t_4_11, t_4_12, t_4_13, t_4_14, t_4_15, t_4_16, t_4_17⟩ => if e_4 = "" then (if p2 = 0 then ((m_X7_placeOf K n0 n1 n2 n3 n4 n5 n6 r_4 t_4_1 t_4_2 t_4_3 t_4_4 t_4_5 t_4_6 t_4_7 t_4_8 t_4_9 t_4_10 t_4_11 t_4_12 t_4_13).bind fun ⟨r_9, t_9_0, t_9_1, t_9_2, t_9_3, t_9_4, t_9_5, t_9_6, t_9_7, t_9_8, t_9_9, t_9_10, t_9_11, t_9_12⟩ => some ("", r_9, t_4_0, t_9_0, t_9_1, t_9_2, t_9_3, t_9_4, t_9_5, t_9_6, t_9_7, t_9_8, t_9_9, t_9_10, t_9_11, t_9_12, t_4_14, t_4_15, t_4_16, t_4_17)) else (if p2 = ((1 : Int32)) then ((m_X7_spanOf K n0 n1 n2 n3 n4 n5 n6 r_4 t_4_1 t_4_2 t_4_3 t_4_4 t_4_5 t_4_6 t_4_7 t_4_8 t_4_9 t_4_10 t_4_11 t_4_12 t_4_13).bind fun ⟨r_8, t_8_0, t_8_1, t_8_2, t_8_3, t_8_4, t_8_5, t_8_6, t_8_7, t_8_8, t_8_9, t_8_10, t_8_11, t_8_12⟩ => some ("", r_8, t_4_0, t_8_0, t_8_1, t_8_2, t_8_3, t_8_4, t_8_5, t_8_6, t_8_7, t_8_8, t_8_9, t_8_10, t_8_11, t_8_12, t_4_14, t_4_15, t_4_16, t_4_17)) else ((m_X7_askedOf K n0 n1 n2 n3 n4 n5 n6 r_4 t_4_1 t_4_2 t_4_3 t_4_4 t_4_5 t_4_6 t_4_7 t_4_8 t_4_9 t_4_10 t_4_11 t_4_12 t_4_13).bind fun ⟨r_7, t_7_0, t_7_1, t_7_2, t_7_3, t_7_4, t_7_5, t_7_6, t_7_7, t_7_8, t_7_9, t_7_10, t_7_11, t_7_12⟩ => some ("", r_7, t_4_0, t_7_0, t_7_1, t_7_2, t_7_3, t_7_4, t_7_5, t_7_6, t_7_7, t_7_8, t_7_9, t_7_10, t_7_11, t_7_12, t_4_14, t_4_15, t_4_16, t_4_17)))) else (some (e_4, 0, t_4_0, t_4_1, t_4_2, t_4_3, t_4_4, t_4_5, t_4_6, t_4_7, t_4_8, t_4_9, t_4_10, t_4_11, t_4_12, t_4_13, t_4_14, t_4_15, t_4_16, t_4_17))) else (some (e_3, 0, t_3_0, t_3_1, t_3_2, t_3_3, t_3_4, t_3_5, t_3_6, t_3_7, t_3_8, t_3_9, t_3_10, t_3_11, t_3_12, t_3_13, t_3_14, t_3_15, t_3_16, t_3_17))) _
      refine zz_ok_ite (fun c36 => ?_) (fun c36 => ?_)
      · skip
        refine zz_ok_bind (s_X11_needBlock_X6 K hK n0 n1 n2 n3 n4 n5 n6 n7 n8 p1 t_3_0 t_3_1 t_3_2 t_3_3 t_3_4 t_3_5 t_3_6 t_3_7 t_3_8 t_3_9 t_3_10 t_3_11 t_3_12 t_3_13 t_3_14 t_3_15 t_3_16 t_3_17 (by omega) (by omega) (by omega) (by omega) (by omega) (by omega) (by omega) (by omega) (by omega) (by omega) (by omega) (by omega) (by omega) (by omega) (by omega) (by omega) (by omega)) ?_
        intro z37 hz37
        obtain ⟨e_4, r_4, t_4_0, t_4_1, t_4_2, t_4_3, t_4_4, t_4_5, t_4_6, t_4_7, t_4_8, t_4_9, t_4_10, t_4_11, t_4_12, t_4_13, t_4_14, t_4_15, t_4_16, t_4_17⟩ := z37
        have q38 : e_4 ∈ (["", "java/util/NoSuchElementException"] : List String) := hz37.1
        have q39 : t_4_0.toInt = t_3_0.toInt := hz37.2.1
        have q40 : 0 ≤ t_4_1.toInt := hz37.2.2.1
        have q41 : t_4_1.toInt ≤ 1024 := hz37.2.2.2.1
        have q42 : 0 ≤ t_4_2.toInt := hz37.2.2.2.2.1
        have q43 : t_4_2.toInt ≤ 200 := hz37.2.2.2.2.2.1
        have q44 : 0 ≤ t_4_10.toInt := hz37.2.2.2.2.2.2.1
        have q45 : t_4_10.toInt ≤ 512 := hz37.2.2.2.2.2.2.2.1
        have q46 : 0 ≤ t_4_14.toInt := hz37.2.2.2.2.2.2.2.2.1
        have q47 : t_4_14.toInt ≤ 1024 := hz37.2.2.2.2.2.2.2.2.2
        have g48 := zz_rg r_4
        have g49 := zz_rg t_4_0
        have g50 := zz_rg t_4_1
        have g51 := zz_rg t_4_2
        have g52 := zz_rg t_4_3
        have g53 := zz_rg t_4_4
        have g54 := zz_rg t_4_10
        have g55 := zz_rg t_4_11
        have g56 := zz_rg t_4_14
        have g57 := zz_rg t_4_15
        show zz_ok (if e_4 = "" then (if p2 = 0 then ((m_X7_placeOf K n0 n1 n2 n3 n4 n5 n6 r_4 t_4_1 t_4_2 t_4_3 t_4_4 t_4_5 t_4_6 t_4_7 t_4_8 t_4_9 t_4_10 t_4_11 t_4_12 t_4_13).bind fun ⟨r_9, t_9_0, t_9_1, t_9_2, t_9_3, t_9_4, t_9_5, t_9_6, t_9_7, t_9_8, t_9_9, t_9_10, t_9_11, t_9_12⟩ => some ("", r_9, t_4_0, t_9_0, t_9_1, t_9_2, t_9_3, t_9_4, t_9_5, t_9_6, t_9_7, t_9_8, t_9_9, t_9_10, t_9_11, t_9_12, t_4_14, t_4_15, t_4_16, t_4_17)) else (if p2 = ((1 : Int32)) then ((m_X7_spanOf K n0 n1 n2 n3 n4 n5 n6 r_4 t_4_1 t_4_2 t_4_3 t_4_4 t_4_5 t_4_6 t_4_7 t_4_8 t_4_9 t_4_10 t_4_11 t_4_12 t_4_13).bind fun ⟨r_8, t_8_0, t_8_1, t_8_2, t_8_3, t_8_4, t_8_5, t_8_6, t_8_7, t_8_8, t_8_9, t_8_10, t_8_11, t_8_12⟩ => some ("", r_8, t_4_0, t_8_0, t_8_1, t_8_2, t_8_3, t_8_4, t_8_5, t_8_6, t_8_7, t_8_8, t_8_9, t_8_10, t_8_11, t_8_12, t_4_14, t_4_15, t_4_16, t_4_17)) else ((m_X7_askedOf K n0 n1 n2 n3 n4 n5 n6 r_4 t_4_1 t_4_2 t_4_3 t_4_4 t_4_5 t_4_6 t_4_7 t_4_8 t_4_9 t_4_10 t_4_11 t_4_12 t_4_13).bind fun ⟨r_7, t_7_0, t_7_1, t_7_2, t_7_3, t_7_4, t_7_5, t_7_6, t_7_7, t_7_8, t_7_9, t_7_10, t_7_11, t_7_12⟩ => some ("", r_7, t_4_0, t_7_0, t_7_1, t_7_2, t_7_3, t_7_4, t_7_5, t_7_6, t_7_7, t_7_8, t_7_9, t_7_10, t_7_11, t_7_12, t_4_14, t_4_15, t_4_16, t_4_17)))) else (some (e_4, 0, t_4_0, t_4_1, t_4_2, t_4_3, t_4_4, t_4_5, t_4_6, t_4_7, t_4_8, t_4_9, t_4_10, t_4_11, t_4_12, t_4_13, t_4_14, t_4_15, t_4_16, t_4_17))) _
        refine zz_ok_ite (fun c58 => ?_) (fun c58 => ?_)
        · skip
          refine zz_ok_ite (fun c59 => ?_) (fun c59 => ?_)
          · have c59 := congrArg Int32.toInt c59
            refine zz_ok_bind (s_X7_placeOf K hK n0 n1 n2 n3 n4 n5 n6 r_4 t_4_1 t_4_2 t_4_3 t_4_4 t_4_5 t_4_6 t_4_7 t_4_8 t_4_9 t_4_10 t_4_11 t_4_12 t_4_13 (by omega) (by omega) (by omega) (by omega) (by omega) (by omega) (by omega) (by omega) (by omega) (by omega) (by omega) (by omega) (by omega)) ?_
            intro z60 hz60
            obtain ⟨r_9, t_9_0, t_9_1, t_9_2, t_9_3, t_9_4, t_9_5, t_9_6, t_9_7, t_9_8, t_9_9, t_9_10, t_9_11, t_9_12⟩ := z60
            have q61 : t_9_0.toInt = t_4_1.toInt := hz60.1
            have q62 : t_9_1.toInt = t_4_2.toInt := hz60.2.1
            have q63 : 0 ≤ t_9_9.toInt := hz60.2.2.1
            have q64 : t_9_9.toInt ≤ 512 := hz60.2.2.2
            have g65 := zz_rg r_9
            have g66 := zz_rg t_9_0
            have g67 := zz_rg t_9_1
            have g68 := zz_rg t_9_2
            have g69 := zz_rg t_9_3
            have g70 := zz_rg t_9_9
            have g71 := zz_rg t_9_10
            show zz_ok (some ("", r_9, t_4_0, t_9_0, t_9_1, t_9_2, t_9_3, t_9_4, t_9_5, t_9_6, t_9_7, t_9_8, t_9_9, t_9_10, t_9_11, t_9_12, t_4_14, t_4_15, t_4_16, t_4_17)) _
            refine zz_ok_some ?_
            show ("") ∈ (["", "java/lang/IllegalArgumentException", "java/lang/IllegalStateException", "java/util/NoSuchElementException"] : List String) ∧ t_4_0.toInt = s0.toInt ∧ 0 ≤ t_9_0.toInt ∧ t_9_0.toInt ≤ 1024 ∧ 0 ≤ t_9_1.toInt ∧ t_9_1.toInt ≤ 200 ∧ 0 ≤ t_9_9.toInt ∧ t_9_9.toInt ≤ 512 ∧ 0 ≤ t_4_14.toInt ∧ t_4_14.toInt ≤ 1024
            exact ⟨by decide, by omega, by omega, by omega, by omega, by omega, by omega, by omega, by omega, by omega⟩
          · have c59 := zz_neq c59
            have l73 : (1 : Int32).toInt = 1 := rfl
            refine zz_ok_ite (fun c72 => ?_) (fun c72 => ?_)
            · have c72 := congrArg Int32.toInt c72
              refine zz_ok_bind (s_X7_spanOf K hK n0 n1 n2 n3 n4 n5 n6 r_4 t_4_1 t_4_2 t_4_3 t_4_4 t_4_5 t_4_6 t_4_7 t_4_8 t_4_9 t_4_10 t_4_11 t_4_12 t_4_13 (by omega) (by omega) (by omega) (by omega) (by omega) (by omega) (by omega) (by omega) (by omega) (by omega) (by omega) (by omega) (by omega)) ?_
              intro z74 hz74
              obtain ⟨r_8, t_8_0, t_8_1, t_8_2, t_8_3, t_8_4, t_8_5, t_8_6, t_8_7, t_8_8, t_8_9, t_8_10, t_8_11, t_8_12⟩ := z74
              have q75 : t_8_0.toInt = t_4_1.toInt := hz74.1
              have q76 : t_8_1.toInt = t_4_2.toInt := hz74.2.1
              have q77 : 0 ≤ t_8_9.toInt := hz74.2.2.1
              have q78 : t_8_9.toInt ≤ 512 := hz74.2.2.2
              have g79 := zz_rg r_8
              have g80 := zz_rg t_8_0
              have g81 := zz_rg t_8_1
              have g82 := zz_rg t_8_2
              have g83 := zz_rg t_8_3
              have g84 := zz_rg t_8_9
              have g85 := zz_rg t_8_10
              show zz_ok (some ("", r_8, t_4_0, t_8_0, t_8_1, t_8_2, t_8_3, t_8_4, t_8_5, t_8_6, t_8_7, t_8_8, t_8_9, t_8_10, t_8_11, t_8_12, t_4_14, t_4_15, t_4_16, t_4_17)) _
              refine zz_ok_some ?_
              show ("") ∈ (["", "java/lang/IllegalArgumentException", "java/lang/IllegalStateException", "java/util/NoSuchElementException"] : List String) ∧ t_4_0.toInt = s0.toInt ∧ 0 ≤ t_8_0.toInt ∧ t_8_0.toInt ≤ 1024 ∧ 0 ≤ t_8_1.toInt ∧ t_8_1.toInt ≤ 200 ∧ 0 ≤ t_8_9.toInt ∧ t_8_9.toInt ≤ 512 ∧ 0 ≤ t_4_14.toInt ∧ t_4_14.toInt ≤ 1024
              exact ⟨by decide, by omega, by omega, by omega, by omega, by omega, by omega, by omega, by omega, by omega⟩
            · have c72 := zz_neq c72
              refine zz_ok_bind (s_X7_askedOf K hK n0 n1 n2 n3 n4 n5 n6 r_4 t_4_1 t_4_2 t_4_3 t_4_4 t_4_5 t_4_6 t_4_7 t_4_8 t_4_9 t_4_10 t_4_11 t_4_12 t_4_13 (by omega) (by omega) (by omega) (by omega) (by omega) (by omega) (by omega) (by omega) (by omega) (by omega) (by omega) (by omega) (by omega)) ?_
              intro z86 hz86
              obtain ⟨r_7, t_7_0, t_7_1, t_7_2, t_7_3, t_7_4, t_7_5, t_7_6, t_7_7, t_7_8, t_7_9, t_7_10, t_7_11, t_7_12⟩ := z86
              have q87 : t_7_0.toInt = t_4_1.toInt := hz86.1
              have q88 : t_7_1.toInt = t_4_2.toInt := hz86.2.1
              have q89 : 0 ≤ t_7_9.toInt := hz86.2.2.1
              have q90 : t_7_9.toInt ≤ 512 := hz86.2.2.2
              have g91 := zz_rg r_7
              have g92 := zz_rg t_7_0
              have g93 := zz_rg t_7_1
              have g94 := zz_rg t_7_2
              have g95 := zz_rg t_7_3
              have g96 := zz_rg t_7_9
              have g97 := zz_rg t_7_10
              show zz_ok (some ("", r_7, t_4_0, t_7_0, t_7_1, t_7_2, t_7_3, t_7_4, t_7_5, t_7_6, t_7_7, t_7_8, t_7_9, t_7_10, t_7_11, t_7_12, t_4_14, t_4_15, t_4_16, t_4_17)) _
              refine zz_ok_some ?_
              show ("") ∈ (["", "java/lang/IllegalArgumentException", "java/lang/IllegalStateException", "java/util/NoSuchElementException"] : List String) ∧ t_4_0.toInt = s0.toInt ∧ 0 ≤ t_7_0.toInt ∧ t_7_0.toInt ≤ 1024 ∧ 0 ≤ t_7_1.toInt ∧ t_7_1.toInt ≤ 200 ∧ 0 ≤ t_7_9.toInt ∧ t_7_9.toInt ≤ 512 ∧ 0 ≤ t_4_14.toInt ∧ t_4_14.toInt ≤ 1024
              exact ⟨by decide, by omega, by omega, by omega, by omega, by omega, by omega, by omega, by omega, by omega⟩
        · skip
          refine zz_ok_some ?_
          show e_4 ∈ (["", "java/lang/IllegalArgumentException", "java/lang/IllegalStateException", "java/util/NoSuchElementException"] : List String) ∧ t_4_0.toInt = s0.toInt ∧ 0 ≤ t_4_1.toInt ∧ t_4_1.toInt ≤ 1024 ∧ 0 ≤ t_4_2.toInt ∧ t_4_2.toInt ≤ 200 ∧ 0 ≤ t_4_10.toInt ∧ t_4_10.toInt ≤ 512 ∧ 0 ≤ t_4_14.toInt ∧ t_4_14.toInt ≤ 1024
          exact ⟨zz_mem q38 (by decide), by omega, by omega, by omega, by omega, by omega, by omega, by omega, by omega, by omega⟩
      · skip
        refine zz_ok_some ?_
        show e_3 ∈ (["", "java/lang/IllegalArgumentException", "java/lang/IllegalStateException", "java/util/NoSuchElementException"] : List String) ∧ t_3_0.toInt = s0.toInt ∧ 0 ≤ t_3_1.toInt ∧ t_3_1.toInt ≤ 1024 ∧ 0 ≤ t_3_2.toInt ∧ t_3_2.toInt ≤ 200 ∧ 0 ≤ t_3_10.toInt ∧ t_3_10.toInt ≤ 512 ∧ 0 ≤ t_3_14.toInt ∧ t_3_14.toInt ≤ 1024
        exact ⟨zz_mem q17 (by decide), by omega, by omega, by omega, by omega, by omega, by omega, by omega, by omega, by omega⟩
    · have c14 := zz_nle c14
      refine zz_ok_some ?_
      show ("java/lang/IllegalArgumentException") ∈ (["", "java/lang/IllegalArgumentException", "java/lang/IllegalStateException", "java/util/NoSuchElementException"] : List String) ∧ s0.toInt = s0.toInt ∧ 0 ≤ s1.toInt ∧ s1.toInt ≤ 1024 ∧ 0 ≤ s2.toInt ∧ s2.toInt ≤ 200 ∧ 0 ≤ s10.toInt ∧ s10.toInt ≤ 512 ∧ 0 ≤ s14.toInt ∧ s14.toInt ≤ 1024
      exact ⟨by decide, by omega, by omega, by omega, by omega, by omega, by omega, by omega, by omega, by omega⟩
set_option maxHeartbeats 4000000 in
theorem s_X11_at_X6 (K : Nat) (hK : 1099511627776 ≤ K) (n0 : Nat) (n1 : Nat) (n2 : Nat) (n3 : Nat) (n4 : Nat) (n5 : Nat) (n6 : Nat) (n7 : Nat) (n8 : Nat) (p1 : Int32) (s0 : Int32) (s1 : Int32) (s2 : Int32) (s3 : Int32) (s4 : Int32) (s5 : Nat → Int32) (s6 : Nat → Int32) (s7 : Nat → Int32) (s8 : Nat → Int32) (s9 : Nat → Int32) (s10 : Int32) (s11 : Int32) (s12 : Nat → Int32) (s13 : Nat → Int32) (s14 : Int32) (s15 : Int32) (s16 : Nat → Int32) (s17 : Nat → Int32) (a0 : n0 = 1024) (a1 : n1 = 200) (a2 : n2 = 200) (a3 : n3 = 200) (a4 : n4 = 200) (a5 : n5 = 512) (a6 : n6 = 512) (a7 : n7 = 1024) (a8 : n8 = 1024) (a9 : 0 ≤ s1.toInt) (a10 : s1.toInt ≤ 1024) (a11 : 0 ≤ s2.toInt) (a12 : s2.toInt ≤ 200) (a13 : 0 ≤ s10.toInt) (a14 : s10.toInt ≤ 512) (a15 : 0 ≤ s14.toInt) (a16 : s14.toInt ≤ 1024) : zz_ok (m_X11_at_X6 K n0 n1 n2 n3 n4 n5 n6 n7 n8 p1 s0 s1 s2 s3 s4 s5 s6 s7 s8 s9 s10 s11 s12 s13 s14 s15 s16 s17) (fun z => z.1 ∈ (["", "java/lang/IllegalArgumentException", "java/lang/IllegalStateException"] : List String) ∧ z.2.2.1.toInt = s0.toInt ∧ 0 ≤ z.2.2.2.1.toInt ∧ z.2.2.2.1.toInt ≤ 1024 ∧ 0 ≤ z.2.2.2.2.1.toInt ∧ z.2.2.2.2.1.toInt ≤ 200 ∧ 0 ≤ z.2.2.2.2.2.2.2.2.2.2.2.2.1.toInt ∧ z.2.2.2.2.2.2.2.2.2.2.2.2.1.toInt ≤ 512 ∧ 0 ≤ z.2.2.2.2.2.2.2.2.2.2.2.2.2.2.2.2.1.toInt ∧ z.2.2.2.2.2.2.2.2.2.2.2.2.2.2.2.2.1.toInt ≤ 1024) := by
  have g1 := zz_rg p1
  have g2 := zz_rg s0
  have g3 := zz_rg s1
  have g4 := zz_rg s2
  have g5 := zz_rg s3
  have g6 := zz_rg s4
  have g7 := zz_rg s10
  have g8 := zz_rg s11
  have g9 := zz_rg s14
  have g10 := zz_rg s15
  unfold m_X11_at_X6
  refine zz_ok_bind (s_X7_words K hK n0 n1 n2 n3 n4 n5 n6 s1 s2 s3 s4 s5 s6 s7 s8 s9 s10 s11 s12 s13 (by omega) (by omega) (by omega) (by omega) (by omega) (by omega) (by omega) (by omega) (by omega) (by omega) (by omega) (by omega) (by omega)) ?_
  intro z11 hz11
  obtain ⟨r_1, t_1_0, t_1_1, t_1_2, t_1_3, t_1_4, t_1_5, t_1_6, t_1_7, t_1_8, t_1_9, t_1_10, t_1_11, t_1_12⟩ := z11
  have q12 : r_1.toInt = s1.toInt := hz11.1
  have q13 : t_1_0.toInt = s1.toInt := hz11.2.1
  have q14 : t_1_1.toInt = s2.toInt := hz11.2.2.1
  have q15 : 0 ≤ t_1_9.toInt := hz11.2.2.2.1
  have q16 : t_1_9.toInt ≤ 512 := hz11.2.2.2.2
  have g17 := zz_rg r_1
  have g18 := zz_rg t_1_0
  have g19 := zz_rg t_1_1
  have g20 := zz_rg t_1_2
  have g21 := zz_rg t_1_3
  have g22 := zz_rg t_1_9
  have g23 := zz_rg t_1_10
  show zz_ok (if p1 < 0 then (some ("java/lang/IllegalArgumentException", 0, s0, t_1_0, t_1_1, t_1_2, t_1_3, t_1_4, t_1_5, t_1_6, t_1_7, t_1_8, t_1_9, t_1_10, t_1_11, t_1_12, s14, s15, s16, s17)) else (if p1 < r_1 then ((m_X11_needRoom_X6 K n0 n1 n2 n3 n4 n5 n6 n7 n8 s0 t_1_0 t_1_1 t_1_2 t_1_3 t_1_4 t_1_5 t_1_6 t_1_7 t_1_8 t_1_9 t_1_10 t_1_11 t_1_12 s14 s15 s16 s17).bind fun ⟨e_4, t_4_0, t_4_1, t_4_2, t_4_3, t_4_4, t_4_5, t_4_6, t_4_7, t_4_8, t_4_9, t_4_10, t_4_11, t_4_12, t_4_13, t_4_14, t_4_15, t_4_16, t_4_17⟩ => if e_4 = "" then ((m_X7_blockAt K n0 n1 n2 n3 n4 n5 n6 p1 t_4_1 t_4_2 t_4_3 t_4_4 t_4_5 t_4_6 t_4_7 t_4_8 t_4_9 t_4_10 t_4_11 t_4_12 t_4_13).bind fun ⟨r_5, t_5_0, t_5_1, t_5_2, t_5_3, t_5_4, t_5_5, t_5_6, t_5_7, t_5_8, t_5_9, t_5_10, t_5_11, t_5_12⟩ => some ("", r_5, t_4_0, t_5_0, t_5_1, t_5_2, t_5_3, t_5_4, t_5_5, t_5_6, t_5_7, t_5_8, t_5_9, t_5_10, t_5_11, t_5_12, t_4_14, t_4_15, t_4_16, t_4_17)) else (some (e_4, 0, t_4_0, t_4_1, t_4_2, t_4_3, t_4_4, t_4_5, t_4_6, t_4_7, t_4_8, t_4_9, t_4_10, t_4_11, t_4_12, t_4_13, t_4_14, t_4_15, t_4_16, t_4_17))) else (some ("java/lang/IllegalArgumentException", 0, s0, t_1_0, t_1_1, t_1_2, t_1_3, t_1_4, t_1_5, t_1_6, t_1_7, t_1_8, t_1_9, t_1_10, t_1_11, t_1_12, s14, s15, s16, s17)))) _
  have l25 : (0 : Int32).toInt = 0 := rfl
  refine zz_ok_ite (fun c24 => ?_) (fun c24 => ?_)
  · have c24 := Int32.lt_iff_toInt_lt.mp c24
    refine zz_ok_some ?_
    show ("java/lang/IllegalArgumentException") ∈ (["", "java/lang/IllegalArgumentException", "java/lang/IllegalStateException"] : List String) ∧ s0.toInt = s0.toInt ∧ 0 ≤ t_1_0.toInt ∧ t_1_0.toInt ≤ 1024 ∧ 0 ≤ t_1_1.toInt ∧ t_1_1.toInt ≤ 200 ∧ 0 ≤ t_1_9.toInt ∧ t_1_9.toInt ≤ 512 ∧ 0 ≤ s14.toInt ∧ s14.toInt ≤ 1024
    exact ⟨by decide, by omega, by omega, by omega, by omega, by omega, by omega, by omega, by omega, by omega⟩
  · have c24 := zz_nlt c24
    refine zz_ok_ite (fun c26 => ?_) (fun c26 => ?_)
    · have c26 := Int32.lt_iff_toInt_lt.mp c26
      refine zz_ok_bind (s_X11_needRoom_X6 K hK n0 n1 n2 n3 n4 n5 n6 n7 n8 s0 t_1_0 t_1_1 t_1_2 t_1_3 t_1_4 t_1_5 t_1_6 t_1_7 t_1_8 t_1_9 t_1_10 t_1_11 t_1_12 s14 s15 s16 s17 (by omega) (by omega) (by omega) (by omega) (by omega) (by omega) (by omega) (by omega) (by omega) (by omega) (by omega) (by omega) (by omega) (by omega) (by omega) (by omega) (by omega)) ?_
      intro z27 hz27
      obtain ⟨e_4, t_4_0, t_4_1, t_4_2, t_4_3, t_4_4, t_4_5, t_4_6, t_4_7, t_4_8, t_4_9, t_4_10, t_4_11, t_4_12, t_4_13, t_4_14, t_4_15, t_4_16, t_4_17⟩ := z27
      have q28 : e_4 ∈ (["", "java/lang/IllegalStateException"] : List String) := hz27.1
      have q29 : t_4_0.toInt = s0.toInt := hz27.2.1
      have q30 : 0 ≤ t_4_1.toInt := hz27.2.2.1
      have q31 : t_4_1.toInt ≤ 1024 := hz27.2.2.2.1
      have q32 : 0 ≤ t_4_2.toInt := hz27.2.2.2.2.1
      have q33 : t_4_2.toInt ≤ 200 := hz27.2.2.2.2.2.1
      have q34 : 0 ≤ t_4_10.toInt := hz27.2.2.2.2.2.2.1
      have q35 : t_4_10.toInt ≤ 512 := hz27.2.2.2.2.2.2.2.1
      have q36 : 0 ≤ t_4_14.toInt := hz27.2.2.2.2.2.2.2.2.1
      have q37 : t_4_14.toInt ≤ 1024 := hz27.2.2.2.2.2.2.2.2.2
      have g38 := zz_rg t_4_0
      have g39 := zz_rg t_4_1
      have g40 := zz_rg t_4_2
      have g41 := zz_rg t_4_3
      have g42 := zz_rg t_4_4
      have g43 := zz_rg t_4_10
      have g44 := zz_rg t_4_11
      have g45 := zz_rg t_4_14
      have g46 := zz_rg t_4_15
      show zz_ok (if e_4 = "" then ((m_X7_blockAt K n0 n1 n2 n3 n4 n5 n6 p1 t_4_1 t_4_2 t_4_3 t_4_4 t_4_5 t_4_6 t_4_7 t_4_8 t_4_9 t_4_10 t_4_11 t_4_12 t_4_13).bind fun ⟨r_5, t_5_0, t_5_1, t_5_2, t_5_3, t_5_4, t_5_5, t_5_6, t_5_7, t_5_8, t_5_9, t_5_10, t_5_11, t_5_12⟩ => some ("", r_5, t_4_0, t_5_0, t_5_1, t_5_2, t_5_3, t_5_4, t_5_5, t_5_6, t_5_7, t_5_8, t_5_9, t_5_10, t_5_11, t_5_12, t_4_14, t_4_15, t_4_16, t_4_17)) else (some (e_4, 0, t_4_0, t_4_1, t_4_2, t_4_3, t_4_4, t_4_5, t_4_6, t_4_7, t_4_8, t_4_9, t_4_10, t_4_11, t_4_12, t_4_13, t_4_14, t_4_15, t_4_16, t_4_17))) _
      refine zz_ok_ite (fun c47 => ?_) (fun c47 => ?_)
      · skip
        refine zz_ok_bind (s_X7_blockAt K hK n0 n1 n2 n3 n4 n5 n6 p1 t_4_1 t_4_2 t_4_3 t_4_4 t_4_5 t_4_6 t_4_7 t_4_8 t_4_9 t_4_10 t_4_11 t_4_12 t_4_13 (by omega) (by omega) (by omega) (by omega) (by omega) (by omega) (by omega) (by omega) (by omega) (by omega) (by omega) (by omega) (by omega)) ?_
        intro z48 hz48
        obtain ⟨r_5, t_5_0, t_5_1, t_5_2, t_5_3, t_5_4, t_5_5, t_5_6, t_5_7, t_5_8, t_5_9, t_5_10, t_5_11, t_5_12⟩ := z48
        have q49 : t_5_0.toInt = t_4_1.toInt := hz48.1
        have q50 : t_5_1.toInt = t_4_2.toInt := hz48.2.1
        have q51 : 0 ≤ t_5_9.toInt := hz48.2.2.1
        have q52 : t_5_9.toInt ≤ 512 := hz48.2.2.2
        have g53 := zz_rg r_5
        have g54 := zz_rg t_5_0
        have g55 := zz_rg t_5_1
        have g56 := zz_rg t_5_2
        have g57 := zz_rg t_5_3
        have g58 := zz_rg t_5_9
        have g59 := zz_rg t_5_10
        show zz_ok (some ("", r_5, t_4_0, t_5_0, t_5_1, t_5_2, t_5_3, t_5_4, t_5_5, t_5_6, t_5_7, t_5_8, t_5_9, t_5_10, t_5_11, t_5_12, t_4_14, t_4_15, t_4_16, t_4_17)) _
        refine zz_ok_some ?_
        show ("") ∈ (["", "java/lang/IllegalArgumentException", "java/lang/IllegalStateException"] : List String) ∧ t_4_0.toInt = s0.toInt ∧ 0 ≤ t_5_0.toInt ∧ t_5_0.toInt ≤ 1024 ∧ 0 ≤ t_5_1.toInt ∧ t_5_1.toInt ≤ 200 ∧ 0 ≤ t_5_9.toInt ∧ t_5_9.toInt ≤ 512 ∧ 0 ≤ t_4_14.toInt ∧ t_4_14.toInt ≤ 1024
        exact ⟨by decide, by omega, by omega, by omega, by omega, by omega, by omega, by omega, by omega, by omega⟩
      · skip
        refine zz_ok_some ?_
        show e_4 ∈ (["", "java/lang/IllegalArgumentException", "java/lang/IllegalStateException"] : List String) ∧ t_4_0.toInt = s0.toInt ∧ 0 ≤ t_4_1.toInt ∧ t_4_1.toInt ≤ 1024 ∧ 0 ≤ t_4_2.toInt ∧ t_4_2.toInt ≤ 200 ∧ 0 ≤ t_4_10.toInt ∧ t_4_10.toInt ≤ 512 ∧ 0 ≤ t_4_14.toInt ∧ t_4_14.toInt ≤ 1024
        exact ⟨zz_mem q28 (by decide), by omega, by omega, by omega, by omega, by omega, by omega, by omega, by omega, by omega⟩
    · have c26 := zz_nlt c26
      refine zz_ok_some ?_
      show ("java/lang/IllegalArgumentException") ∈ (["", "java/lang/IllegalArgumentException", "java/lang/IllegalStateException"] : List String) ∧ s0.toInt = s0.toInt ∧ 0 ≤ t_1_0.toInt ∧ t_1_0.toInt ≤ 1024 ∧ 0 ≤ t_1_1.toInt ∧ t_1_1.toInt ≤ 200 ∧ 0 ≤ t_1_9.toInt ∧ t_1_9.toInt ≤ 512 ∧ 0 ≤ s14.toInt ∧ s14.toInt ≤ 1024
      exact ⟨by decide, by omega, by omega, by omega, by omega, by omega, by omega, by omega, by omega, by omega⟩
set_option maxHeartbeats 4000000 in
theorem s_X11_run_X6 (K : Nat) (hK : 1099511627776 ≤ K) (n0 : Nat) (n1 : Nat) (n2 : Nat) (n3 : Nat) (n4 : Nat) (n5 : Nat) (n6 : Nat) (n7 : Nat) (n8 : Nat) (p1 : Int32) (p2 : Int32) (s0 : Int32) (s1 : Int32) (s2 : Int32) (s3 : Int32) (s4 : Int32) (s5 : Nat → Int32) (s6 : Nat → Int32) (s7 : Nat → Int32) (s8 : Nat → Int32) (s9 : Nat → Int32) (s10 : Int32) (s11 : Int32) (s12 : Nat → Int32) (s13 : Nat → Int32) (s14 : Int32) (s15 : Int32) (s16 : Nat → Int32) (s17 : Nat → Int32) (a0 : n0 = 1024) (a1 : n1 = 200) (a2 : n2 = 200) (a3 : n3 = 200) (a4 : n4 = 200) (a5 : n5 = 512) (a6 : n6 = 512) (a7 : n7 = 1024) (a8 : n8 = 1024) (a9 : 0 ≤ s1.toInt) (a10 : s1.toInt ≤ 1024) (a11 : 0 ≤ s2.toInt) (a12 : s2.toInt ≤ 200) (a13 : 0 ≤ s10.toInt) (a14 : s10.toInt ≤ 512) (a15 : 0 ≤ s14.toInt) (a16 : s14.toInt ≤ 1024) : zz_ok (m_X11_run_X6 K n0 n1 n2 n3 n4 n5 n6 n7 n8 p1 p2 s0 s1 s2 s3 s4 s5 s6 s7 s8 s9 s10 s11 s12 s13 s14 s15 s16 s17) (fun z => z.1 ∈ (["", "java/lang/IllegalArgumentException", "java/lang/IllegalStateException", "java/lang/IndexOutOfBoundsException"] : List String) ∧ z.2.2.1.toInt = s0.toInt ∧ 0 ≤ z.2.2.2.1.toInt ∧ z.2.2.2.1.toInt ≤ 1024 ∧ 0 ≤ z.2.2.2.2.1.toInt ∧ z.2.2.2.2.1.toInt ≤ 200 ∧ 0 ≤ z.2.2.2.2.2.2.2.2.2.2.2.2.1.toInt ∧ z.2.2.2.2.2.2.2.2.2.2.2.2.1.toInt ≤ 512 ∧ 0 ≤ z.2.2.2.2.2.2.2.2.2.2.2.2.2.2.2.2.1.toInt ∧ z.2.2.2.2.2.2.2.2.2.2.2.2.2.2.2.2.1.toInt ≤ 1024) := by
  have g1 := zz_rg p1
  have g2 := zz_rg p2
  have g3 := zz_rg s0
  have g4 := zz_rg s1
  have g5 := zz_rg s2
  have g6 := zz_rg s3
  have g7 := zz_rg s4
  have g8 := zz_rg s10
  have g9 := zz_rg s11
  have g10 := zz_rg s14
  have g11 := zz_rg s15
  unfold m_X11_run_X6
  have l13 : (0 : Int32).toInt = 0 := rfl
  refine zz_ok_ite (fun c12 => ?_) (fun c12 => ?_)
  · have c12 := Int32.lt_iff_toInt_lt.mp c12
    refine zz_ok_some ?_
    show ("java/lang/IllegalArgumentException") ∈ (["", "java/lang/IllegalArgumentException", "java/lang/IllegalStateException", "java/lang/IndexOutOfBoundsException"] : List String) ∧ s0.toInt = s0.toInt ∧ 0 ≤ s1.toInt ∧ s1.toInt ≤ 1024 ∧ 0 ≤ s2.toInt ∧ s2.toInt ≤ 200 ∧ 0 ≤ s10.toInt ∧ s10.toInt ≤ 512 ∧ 0 ≤ s14.toInt ∧ s14.toInt ≤ 1024
    exact ⟨by decide, by omega, by omega, by omega, by omega, by omega, by omega, by omega, by omega, by omega⟩
  · have c12 := zz_nlt c12
    have l15 : (1 : Int32).toInt = 1 := rfl
    refine zz_ok_ite (fun c14 => ?_) (fun c14 => ?_)
    · have c14 := Int32.le_iff_toInt_le.mp c14
      refine zz_ok_bind (s_X11_needRoom_X6 K hK n0 n1 n2 n3 n4 n5 n6 n7 n8 s0 s1 s2 s3 s4 s5 s6 s7 s8 s9 s10 s11 s12 s13 s14 s15 s16 s17 (by omega) (by omega) (by omega) (by omega) (by omega) (by omega) (by omega) (by omega) (by omega) (by omega) (by omega) (by omega) (by omega) (by omega) (by omega) (by omega) (by omega)) ?_
      intro z16 hz16
      obtain ⟨e_3, t_3_0, t_3_1, t_3_2, t_3_3, t_3_4, t_3_5, t_3_6, t_3_7, t_3_8, t_3_9, t_3_10, t_3_11, t_3_12, t_3_13, t_3_14, t_3_15, t_3_16, t_3_17⟩ := z16
      have q17 : e_3 ∈ (["", "java/lang/IllegalStateException"] : List String) := hz16.1
      have q18 : t_3_0.toInt = s0.toInt := hz16.2.1
      have q19 : 0 ≤ t_3_1.toInt := hz16.2.2.1
      have q20 : t_3_1.toInt ≤ 1024 := hz16.2.2.2.1
      have q21 : 0 ≤ t_3_2.toInt := hz16.2.2.2.2.1
      have q22 : t_3_2.toInt ≤ 200 := hz16.2.2.2.2.2.1
      have q23 : 0 ≤ t_3_10.toInt := hz16.2.2.2.2.2.2.1
      have q24 : t_3_10.toInt ≤ 512 := hz16.2.2.2.2.2.2.2.1
      have q25 : 0 ≤ t_3_14.toInt := hz16.2.2.2.2.2.2.2.2.1
      have q26 : t_3_14.toInt ≤ 1024 := hz16.2.2.2.2.2.2.2.2.2
      have g27 := zz_rg t_3_0
      have g28 := zz_rg t_3_1
      have g29 := zz_rg t_3_2
      have g30 := zz_rg t_3_3
      have g31 := zz_rg t_3_4
      have g32 := zz_rg t_3_10
      have g33 := zz_rg t_3_11
      have g34 := zz_rg t_3_14
      have g35 := zz_rg t_3_15
      show zz_ok (if e_3 = "" then ((m_X7_listRuns K n0 n1 n2 n3 n4 n5 n6 t_3_1 t_3_2 t_3_3 t_3_4 t_3_5 t_3_6 t_3_7 t_3_8 t_3_9 t_3_10 t_3_11 t_3_12 t_3_13).bind fun ⟨t_4_0, t_4_1, t_4_2, t_4_3, t_4_4, t_4_5, t_4_6, t_4_7, t_4_8, t_4_9, t_4_10, t_4_11, t_4_12⟩ => if p1 < 0 then (some ("java/lang/IndexOutOfBoundsException", 0, t_3_0, t_4_0, t_4_1, t_4_2, t_4_3, t_4_4, t_4_5, t_4_6, t_4_7, t_4_8, t_4_9, t_4_10, t_4_11, t_4_12, t_3_14, t_3_15, t_3_16, t_3_17)) else ((m_X10_size K n5 n6 t_4_9 t_4_10 t_4_11 t_4_12).bind fun ⟨r_6, t_6_0, t_6_1, t_6_2, t_6_3⟩ => if p1 < r_6 then (if p2 = 0 then ((m_X10_placeOf K n5 n6 p1 t_6_0 t_6_1 t_6_2 t_6_3).bind fun ⟨r_10, t_10_0, t_10_1, t_10_2, t_10_3⟩ => some ("", r_10, t_3_0, t_4_0, t_4_1, t_4_2, t_4_3, t_4_4, t_4_5, t_4_6, t_4_7, t_4_8, t_10_0, t_10_1, t_10_2, t_10_3, t_3_14, t_3_15, t_3_16, t_3_17)) else ((m_X10_wordsOf K n5 n6 p1 t_6_0 t_6_1 t_6_2 t_6_3).bind fun ⟨r_9, t_9_0, t_9_1, t_9_2, t_9_3⟩ => some ("", r_9, t_3_0, t_4_0, t_4_1, t_4_2, t_4_3, t_4_4, t_4_5, t_4_6, t_4_7, t_4_8, t_9_0, t_9_1, t_9_2, t_9_3, t_3_14, t_3_15, t_3_16, t_3_17))) else (some ("java/lang/IndexOutOfBoundsException", 0, t_3_0, t_4_0, t_4_1, t_4_2, t_4_3, t_4_4, t_4_5, t_4_6, t_4_7, t_4_8, t_6_0, t_6_1, t_6_2, t_6_3, t_3_14, t_3_15, t_3_16, t_3_17)))) else (some (e_3, 0, t_3_0, t_3_1, t_3_2, t_3_3, t_3_4, t_3_5, t_3_6, t_3_7, t_3_8, t_3_9, t_3_10, t_3_11, t_3_12, t_3_13, t_3_14, t_3_15, t_3_16, t_3_17))) _
      refine zz_ok_ite (fun c36 => ?_) (fun c36 => ?_)
      · skip
        refine zz_ok_bind (s_X7_listRuns K hK n0 n1 n2 n3 n4 n5 n6 t_3_1 t_3_2 t_3_3 t_3_4 t_3_5 t_3_6 t_3_7 t_3_8 t_3_9 t_3_10 t_3_11 t_3_12 t_3_13 (by omega) (by omega) (by omega) (by omega) (by omega) (by omega) (by omega) (by omega) (by omega) (by omega) (by omega) (by omega) (by omega)) ?_
        intro z37 hz37
        obtain ⟨t_4_0, t_4_1, t_4_2, t_4_3, t_4_4, t_4_5, t_4_6, t_4_7, t_4_8, t_4_9, t_4_10, t_4_11, t_4_12⟩ := z37
        have q38 : t_4_0.toInt = t_3_1.toInt := hz37.1
        have q39 : t_4_1.toInt = t_3_2.toInt := hz37.2.1
        have q40 : 0 ≤ t_4_9.toInt := hz37.2.2.1
        have q41 : t_4_9.toInt ≤ 512 := hz37.2.2.2
        have g42 := zz_rg t_4_0
        have g43 := zz_rg t_4_1
        have g44 := zz_rg t_4_2
        have g45 := zz_rg t_4_3
        have g46 := zz_rg t_4_9
        have g47 := zz_rg t_4_10
        show zz_ok (if p1 < 0 then (some ("java/lang/IndexOutOfBoundsException", 0, t_3_0, t_4_0, t_4_1, t_4_2, t_4_3, t_4_4, t_4_5, t_4_6, t_4_7, t_4_8, t_4_9, t_4_10, t_4_11, t_4_12, t_3_14, t_3_15, t_3_16, t_3_17)) else ((m_X10_size K n5 n6 t_4_9 t_4_10 t_4_11 t_4_12).bind fun ⟨r_6, t_6_0, t_6_1, t_6_2, t_6_3⟩ => if p1 < r_6 then (if p2 = 0 then ((m_X10_placeOf K n5 n6 p1 t_6_0 t_6_1 t_6_2 t_6_3).bind fun ⟨r_10, t_10_0, t_10_1, t_10_2, t_10_3⟩ => some ("", r_10, t_3_0, t_4_0, t_4_1, t_4_2, t_4_3, t_4_4, t_4_5, t_4_6, t_4_7, t_4_8, t_10_0, t_10_1, t_10_2, t_10_3, t_3_14, t_3_15, t_3_16, t_3_17)) else ((m_X10_wordsOf K n5 n6 p1 t_6_0 t_6_1 t_6_2 t_6_3).bind fun ⟨r_9, t_9_0, t_9_1, t_9_2, t_9_3⟩ => some ("", r_9, t_3_0, t_4_0, t_4_1, t_4_2, t_4_3, t_4_4, t_4_5, t_4_6, t_4_7, t_4_8, t_9_0, t_9_1, t_9_2, t_9_3, t_3_14, t_3_15, t_3_16, t_3_17))) else (some ("java/lang/IndexOutOfBoundsException", 0, t_3_0, t_4_0, t_4_1, t_4_2, t_4_3, t_4_4, t_4_5, t_4_6, t_4_7, t_4_8, t_6_0, t_6_1, t_6_2, t_6_3, t_3_14, t_3_15, t_3_16, t_3_17)))) _
        refine zz_ok_ite (fun c48 => ?_) (fun c48 => ?_)
        · have c48 := Int32.lt_iff_toInt_lt.mp c48
          refine zz_ok_some ?_
          show ("java/lang/IndexOutOfBoundsException") ∈ (["", "java/lang/IllegalArgumentException", "java/lang/IllegalStateException", "java/lang/IndexOutOfBoundsException"] : List String) ∧ t_3_0.toInt = s0.toInt ∧ 0 ≤ t_4_0.toInt ∧ t_4_0.toInt ≤ 1024 ∧ 0 ≤ t_4_1.toInt ∧ t_4_1.toInt ≤ 200 ∧ 0 ≤ t_4_9.toInt ∧ t_4_9.toInt ≤ 512 ∧ 0 ≤ t_3_14.toInt ∧ t_3_14.toInt ≤ 1024
          exact ⟨by decide, by omega, by omega, by omega, by omega, by omega, by omega, by omega, by omega, by omega⟩
        · have c48 := zz_nlt c48
          refine zz_ok_bind (s_X10_size K hK n5 n6 t_4_9 t_4_10 t_4_11 t_4_12) ?_
          intro z49 hz49
          obtain ⟨r_6, t_6_0, t_6_1, t_6_2, t_6_3⟩ := z49
          have q50 : r_6.toInt = t_4_9.toInt := hz49.1
          have q51 : t_6_0.toInt = t_4_9.toInt := hz49.2
          have g52 := zz_rg r_6
          have g53 := zz_rg t_6_0
          have g54 := zz_rg t_6_1
          show zz_ok (if p1 < r_6 then (if p2 = 0 then ((m_X10_placeOf K n5 n6 p1 t_6_0 t_6_1 t_6_2 t_6_3).bind fun ⟨r_10, t_10_0, t_10_1, t_10_2, t_10_3⟩ => some ("", r_10, t_3_0, t_4_0, t_4_1, t_4_2, t_4_3, t_4_4, t_4_5, t_4_6, t_4_7, t_4_8, t_10_0, t_10_1, t_10_2, t_10_3, t_3_14, t_3_15, t_3_16, t_3_17)) else ((m_X10_wordsOf K n5 n6 p1 t_6_0 t_6_1 t_6_2 t_6_3).bind fun ⟨r_9, t_9_0, t_9_1, t_9_2, t_9_3⟩ => some ("", r_9, t_3_0, t_4_0, t_4_1, t_4_2, t_4_3, t_4_4, t_4_5, t_4_6, t_4_7, t_4_8, t_9_0, t_9_1, t_9_2, t_9_3, t_3_14, t_3_15, t_3_16, t_3_17))) else (some ("java/lang/IndexOutOfBoundsException", 0, t_3_0, t_4_0, t_4_1, t_4_2, t_4_3, t_4_4, t_4_5, t_4_6, t_4_7, t_4_8, t_6_0, t_6_1, t_6_2, t_6_3, t_3_14, t_3_15, t_3_16, t_3_17))) _
          refine zz_ok_ite (fun c55 => ?_) (fun c55 => ?_)
          · have c55 := Int32.lt_iff_toInt_lt.mp c55
            refine zz_ok_ite (fun c56 => ?_) (fun c56 => ?_)
            · have c56 := congrArg Int32.toInt c56
              refine zz_ok_bind (s_X10_placeOf K hK n5 n6 p1 t_6_0 t_6_1 t_6_2 t_6_3 (by omega) (by omega) (by omega) (by omega)) ?_
              intro z57 hz57
              obtain ⟨r_10, t_10_0, t_10_1, t_10_2, t_10_3⟩ := z57
              have q58 : t_10_0.toInt = t_6_0.toInt := hz57
              have g59 := zz_rg r_10
              have g60 := zz_rg t_10_0
              have g61 := zz_rg t_10_1
              show zz_ok (some ("", r_10, t_3_0, t_4_0, t_4_1, t_4_2, t_4_3, t_4_4, t_4_5, t_4_6, t_4_7, t_4_8, t_10_0, t_10_1, t_10_2, t_10_3, t_3_14, t_3_15, t_3_16, t_3_17)) _
              refine zz_ok_some ?_
              show ("") ∈ (["", "java/lang/IllegalArgumentException", "java/lang/IllegalStateException", "java/lang/IndexOutOfBoundsException"] : List String) ∧ t_3_0.toInt = s0.toInt ∧ 0 ≤ t_4_0.toInt ∧ t_4_0.toInt ≤ 1024 ∧ 0 ≤ t_4_1.toInt ∧ t_4_1.toInt ≤ 200 ∧ 0 ≤ t_10_0.toInt ∧ t_10_0.toInt ≤ 512 ∧ 0 ≤ t_3_14.toInt ∧ t_3_14.toInt ≤ 1024
              exact ⟨by decide, by omega, by omega, by omega, by omega, by omega, by omega, by omega, by omega, by omega⟩
            · have c56 := zz_neq c56
              refine zz_ok_bind (s_X10_wordsOf K hK n5 n6 p1 t_6_0 t_6_1 t_6_2 t_6_3 (by omega) (by omega) (by omega) (by omega)) ?_
              intro z62 hz62
              obtain ⟨r_9, t_9_0, t_9_1, t_9_2, t_9_3⟩ := z62
              have q63 : t_9_0.toInt = t_6_0.toInt := hz62
              have g64 := zz_rg r_9
              have g65 := zz_rg t_9_0
              have g66 := zz_rg t_9_1
              show zz_ok (some ("", r_9, t_3_0, t_4_0, t_4_1, t_4_2, t_4_3, t_4_4, t_4_5, t_4_6, t_4_7, t_4_8, t_9_0, t_9_1, t_9_2, t_9_3, t_3_14, t_3_15, t_3_16, t_3_17)) _
              refine zz_ok_some ?_
              show ("") ∈ (["", "java/lang/IllegalArgumentException", "java/lang/IllegalStateException", "java/lang/IndexOutOfBoundsException"] : List String) ∧ t_3_0.toInt = s0.toInt ∧ 0 ≤ t_4_0.toInt ∧ t_4_0.toInt ≤ 1024 ∧ 0 ≤ t_4_1.toInt ∧ t_4_1.toInt ≤ 200 ∧ 0 ≤ t_9_0.toInt ∧ t_9_0.toInt ≤ 512 ∧ 0 ≤ t_3_14.toInt ∧ t_3_14.toInt ≤ 1024
              exact ⟨by decide, by omega, by omega, by omega, by omega, by omega, by omega, by omega, by omega, by omega⟩
          · have c55 := zz_nlt c55
            refine zz_ok_some ?_
            show ("java/lang/IndexOutOfBoundsException") ∈ (["", "java/lang/IllegalArgumentException", "java/lang/IllegalStateException", "java/lang/IndexOutOfBoundsException"] : List String) ∧ t_3_0.toInt = s0.toInt ∧ 0 ≤ t_4_0.toInt ∧ t_4_0.toInt ≤ 1024 ∧ 0 ≤ t_4_1.toInt ∧ t_4_1.toInt ≤ 200 ∧ 0 ≤ t_6_0.toInt ∧ t_6_0.toInt ≤ 512 ∧ 0 ≤ t_3_14.toInt ∧ t_3_14.toInt ≤ 1024
            exact ⟨by decide, by omega, by omega, by omega, by omega, by omega, by omega, by omega, by omega, by omega⟩
      · skip
        refine zz_ok_some ?_
        show e_3 ∈ (["", "java/lang/IllegalArgumentException", "java/lang/IllegalStateException", "java/lang/IndexOutOfBoundsException"] : List String) ∧ t_3_0.toInt = s0.toInt ∧ 0 ≤ t_3_1.toInt ∧ t_3_1.toInt ≤ 1024 ∧ 0 ≤ t_3_2.toInt ∧ t_3_2.toInt ≤ 200 ∧ 0 ≤ t_3_10.toInt ∧ t_3_10.toInt ≤ 512 ∧ 0 ≤ t_3_14.toInt ∧ t_3_14.toInt ≤ 1024
        exact ⟨zz_mem q17 (by decide), by omega, by omega, by omega, by omega, by omega, by omega, by omega, by omega, by omega⟩
    · have c14 := zz_nle c14
      refine zz_ok_some ?_
      show ("java/lang/IllegalArgumentException") ∈ (["", "java/lang/IllegalArgumentException", "java/lang/IllegalStateException", "java/lang/IndexOutOfBoundsException"] : List String) ∧ s0.toInt = s0.toInt ∧ 0 ≤ s1.toInt ∧ s1.toInt ≤ 1024 ∧ 0 ≤ s2.toInt ∧ s2.toInt ≤ 200 ∧ 0 ≤ s10.toInt ∧ s10.toInt ≤ 512 ∧ 0 ≤ s14.toInt ∧ s14.toInt ≤ 1024
      exact ⟨by decide, by omega, by omega, by omega, by omega, by omega, by omega, by omega, by omega, by omega⟩
set_option maxHeartbeats 4000000 in
theorem s_X11_list_X6 (K : Nat) (hK : 1099511627776 ≤ K) (n0 : Nat) (n1 : Nat) (n2 : Nat) (n3 : Nat) (n4 : Nat) (n5 : Nat) (n6 : Nat) (n7 : Nat) (n8 : Nat) (p1 : Int32) (p2 : Int32) (s0 : Int32) (s1 : Int32) (s2 : Int32) (s3 : Int32) (s4 : Int32) (s5 : Nat → Int32) (s6 : Nat → Int32) (s7 : Nat → Int32) (s8 : Nat → Int32) (s9 : Nat → Int32) (s10 : Int32) (s11 : Int32) (s12 : Nat → Int32) (s13 : Nat → Int32) (s14 : Int32) (s15 : Int32) (s16 : Nat → Int32) (s17 : Nat → Int32) (a0 : n0 = 1024) (a1 : n1 = 200) (a2 : n2 = 200) (a3 : n3 = 200) (a4 : n4 = 200) (a5 : n5 = 512) (a6 : n6 = 512) (a7 : n7 = 1024) (a8 : n8 = 1024) (a9 : 0 ≤ s1.toInt) (a10 : s1.toInt ≤ 1024) (a11 : 0 ≤ s2.toInt) (a12 : s2.toInt ≤ 200) (a13 : 0 ≤ s10.toInt) (a14 : s10.toInt ≤ 512) (a15 : 0 ≤ s14.toInt) (a16 : s14.toInt ≤ 1024) : zz_ok (m_X11_list_X6 K n0 n1 n2 n3 n4 n5 n6 n7 n8 p1 p2 s0 s1 s2 s3 s4 s5 s6 s7 s8 s9 s10 s11 s12 s13 s14 s15 s16 s17) (fun z => z.1 ∈ (["", "java/lang/IllegalArgumentException", "java/lang/IllegalStateException", "java/lang/UnsupportedOperationException", "java/lang/IndexOutOfBoundsException"] : List String) ∧ z.2.2.1.toInt = s0.toInt ∧ 0 ≤ z.2.2.2.1.toInt ∧ z.2.2.2.1.toInt ≤ 1024 ∧ 0 ≤ z.2.2.2.2.1.toInt ∧ z.2.2.2.2.1.toInt ≤ 200 ∧ 0 ≤ z.2.2.2.2.2.2.2.2.2.2.2.2.1.toInt ∧ z.2.2.2.2.2.2.2.2.2.2.2.2.1.toInt ≤ 512 ∧ 0 ≤ z.2.2.2.2.2.2.2.2.2.2.2.2.2.2.2.2.1.toInt ∧ z.2.2.2.2.2.2.2.2.2.2.2.2.2.2.2.2.1.toInt ≤ 1024) := by
  have g1 := zz_rg p1
  have g2 := zz_rg p2
  have g3 := zz_rg s0
  have g4 := zz_rg s1
  have g5 := zz_rg s2
  have g6 := zz_rg s3
  have g7 := zz_rg s4
  have g8 := zz_rg s10
  have g9 := zz_rg s11
  have g10 := zz_rg s14
  have g11 := zz_rg s15
  unfold m_X11_list_X6
  have l13 : (0 : Int32).toInt = 0 := rfl
  refine zz_ok_ite (fun c12 => ?_) (fun c12 => ?_)
  · have c12 := Int32.lt_iff_toInt_lt.mp c12
    refine zz_ok_some ?_
    show ("java/lang/IllegalArgumentException") ∈ (["", "java/lang/IllegalArgumentException", "java/lang/IllegalStateException", "java/lang/UnsupportedOperationException", "java/lang/IndexOutOfBoundsException"] : List String) ∧ s0.toInt = s0.toInt ∧ 0 ≤ s1.toInt ∧ s1.toInt ≤ 1024 ∧ 0 ≤ s2.toInt ∧ s2.toInt ≤ 200 ∧ 0 ≤ s10.toInt ∧ s10.toInt ≤ 512 ∧ 0 ≤ s14.toInt ∧ s14.toInt ≤ 1024
    exact ⟨by decide, by omega, by omega, by omega, by omega, by omega, by omega, by omega, by omega, by omega⟩
  · have c12 := zz_nlt c12
    have l15 : (44 : Int32).toInt = 44 := rfl
    refine zz_ok_ite (fun c14 => ?_) (fun c14 => ?_)
    · have c14 := Int32.lt_iff_toInt_lt.mp c14
      refine zz_ok_bind (s_X11_needRoom_X6 K hK n0 n1 n2 n3 n4 n5 n6 n7 n8 s0 s1 s2 s3 s4 s5 s6 s7 s8 s9 s10 s11 s12 s13 s14 s15 s16 s17 (by omega) (by omega) (by omega) (by omega) (by omega) (by omega) (by omega) (by omega) (by omega) (by omega) (by omega) (by omega) (by omega) (by omega) (by omega) (by omega) (by omega)) ?_
      intro z16 hz16
      obtain ⟨e_3, t_3_0, t_3_1, t_3_2, t_3_3, t_3_4, t_3_5, t_3_6, t_3_7, t_3_8, t_3_9, t_3_10, t_3_11, t_3_12, t_3_13, t_3_14, t_3_15, t_3_16, t_3_17⟩ := z16
      have q17 : e_3 ∈ (["", "java/lang/IllegalStateException"] : List String) := hz16.1
      have q18 : t_3_0.toInt = s0.toInt := hz16.2.1
      have q19 : 0 ≤ t_3_1.toInt := hz16.2.2.1
      have q20 : t_3_1.toInt ≤ 1024 := hz16.2.2.2.1
      have q21 : 0 ≤ t_3_2.toInt := hz16.2.2.2.2.1
      have q22 : t_3_2.toInt ≤ 200 := hz16.2.2.2.2.2.1
      have q23 : 0 ≤ t_3_10.toInt := hz16.2.2.2.2.2.2.1
      have q24 : t_3_10.toInt ≤ 512 := hz16.2.2.2.2.2.2.2.1
      have q25 : 0 ≤ t_3_14.toInt := hz16.2.2.2.2.2.2.2.2.1
      have q26 : t_3_14.toInt ≤ 1024 := hz16.2.2.2.2.2.2.2.2.2
      have g27 := zz_rg t_3_0
      have g28 := zz_rg t_3_1
      have g29 := zz_rg t_3_2
      have g30 := zz_rg t_3_3
      have g31 := zz_rg t_3_4
      have g32 := zz_rg t_3_10
      have g33 := zz_rg t_3_11
      have g34 := zz_rg t_3_14
      have g35 := zz_rg t_3_15
      show zz_ok (if e_3 = "" then (if t_3_0 = ((7 : Int32)) then ((m_X1_placeInList K p1 p2).bind fun ⟨r_5, _⟩ => if r_5 = ((-1 : Int32)) then (some ("java/lang/IndexOutOfBoundsException", 0, t_3_0, t_3_1, t_3_2, t_3_3, t_3_4, t_3_5, t_3_6, t_3_7, t_3_8, t_3_9, t_3_10, t_3_11, t_3_12, t_3_13, t_3_14, t_3_15, t_3_16, t_3_17)) else (some ("", r_5, t_3_0, t_3_1, t_3_2, t_3_3, t_3_4, t_3_5, t_3_6, t_3_7, t_3_8, t_3_9, t_3_10, t_3_11, t_3_12, t_3_13, t_3_14, t_3_15, t_3_16, t_3_17))) else (some ("java/lang/UnsupportedOperationException", 0, t_3_0, t_3_1, t_3_2, t_3_3, t_3_4, t_3_5, t_3_6, t_3_7, t_3_8, t_3_9, t_3_10, t_3_11, t_3_12, t_3_13, t_3_14, t_3_15, t_3_16, t_3_17))) else (some (e_3, 0, t_3_0, t_3_1, t_3_2, t_3_3, t_3_4, t_3_5, t_3_6, t_3_7, t_3_8, t_3_9, t_3_10, t_3_11, t_3_12, t_3_13, t_3_14, t_3_15, t_3_16, t_3_17))) _
      refine zz_ok_ite (fun c36 => ?_) (fun c36 => ?_)
      · skip
        have l38 : (7 : Int32).toInt = 7 := rfl
        refine zz_ok_ite (fun c37 => ?_) (fun c37 => ?_)
        · have c37 := congrArg Int32.toInt c37
          refine zz_ok_bind (s_X1_placeInList K hK p1 p2) ?_
          intro z39 hz39
          obtain ⟨r_5, _⟩ := z39
          have g40 := zz_rg r_5
          show zz_ok (if r_5 = ((-1 : Int32)) then (some ("java/lang/IndexOutOfBoundsException", 0, t_3_0, t_3_1, t_3_2, t_3_3, t_3_4, t_3_5, t_3_6, t_3_7, t_3_8, t_3_9, t_3_10, t_3_11, t_3_12, t_3_13, t_3_14, t_3_15, t_3_16, t_3_17)) else (some ("", r_5, t_3_0, t_3_1, t_3_2, t_3_3, t_3_4, t_3_5, t_3_6, t_3_7, t_3_8, t_3_9, t_3_10, t_3_11, t_3_12, t_3_13, t_3_14, t_3_15, t_3_16, t_3_17))) _
          have l42 : (-1 : Int32).toInt = -1 := rfl
          refine zz_ok_ite (fun c41 => ?_) (fun c41 => ?_)
          · have c41 := congrArg Int32.toInt c41
            refine zz_ok_some ?_
            show ("java/lang/IndexOutOfBoundsException") ∈ (["", "java/lang/IllegalArgumentException", "java/lang/IllegalStateException", "java/lang/UnsupportedOperationException", "java/lang/IndexOutOfBoundsException"] : List String) ∧ t_3_0.toInt = s0.toInt ∧ 0 ≤ t_3_1.toInt ∧ t_3_1.toInt ≤ 1024 ∧ 0 ≤ t_3_2.toInt ∧ t_3_2.toInt ≤ 200 ∧ 0 ≤ t_3_10.toInt ∧ t_3_10.toInt ≤ 512 ∧ 0 ≤ t_3_14.toInt ∧ t_3_14.toInt ≤ 1024
            exact ⟨by decide, by omega, by omega, by omega, by omega, by omega, by omega, by omega, by omega, by omega⟩
          · have c41 := zz_neq c41
            refine zz_ok_some ?_
            show ("") ∈ (["", "java/lang/IllegalArgumentException", "java/lang/IllegalStateException", "java/lang/UnsupportedOperationException", "java/lang/IndexOutOfBoundsException"] : List String) ∧ t_3_0.toInt = s0.toInt ∧ 0 ≤ t_3_1.toInt ∧ t_3_1.toInt ≤ 1024 ∧ 0 ≤ t_3_2.toInt ∧ t_3_2.toInt ≤ 200 ∧ 0 ≤ t_3_10.toInt ∧ t_3_10.toInt ≤ 512 ∧ 0 ≤ t_3_14.toInt ∧ t_3_14.toInt ≤ 1024
            exact ⟨by decide, by omega, by omega, by omega, by omega, by omega, by omega, by omega, by omega, by omega⟩
        · have c37 := zz_neq c37
          refine zz_ok_some ?_
          show ("java/lang/UnsupportedOperationException") ∈ (["", "java/lang/IllegalArgumentException", "java/lang/IllegalStateException", "java/lang/UnsupportedOperationException", "java/lang/IndexOutOfBoundsException"] : List String) ∧ t_3_0.toInt = s0.toInt ∧ 0 ≤ t_3_1.toInt ∧ t_3_1.toInt ≤ 1024 ∧ 0 ≤ t_3_2.toInt ∧ t_3_2.toInt ≤ 200 ∧ 0 ≤ t_3_10.toInt ∧ t_3_10.toInt ≤ 512 ∧ 0 ≤ t_3_14.toInt ∧ t_3_14.toInt ≤ 1024
          exact ⟨by decide, by omega, by omega, by omega, by omega, by omega, by omega, by omega, by omega, by omega⟩
      · skip
        refine zz_ok_some ?_
        show e_3 ∈ (["", "java/lang/IllegalArgumentException", "java/lang/IllegalStateException", "java/lang/UnsupportedOperationException", "java/lang/IndexOutOfBoundsException"] : List String) ∧ t_3_0.toInt = s0.toInt ∧ 0 ≤ t_3_1.toInt ∧ t_3_1.toInt ≤ 1024 ∧ 0 ≤ t_3_2.toInt ∧ t_3_2.toInt ≤ 200 ∧ 0 ≤ t_3_10.toInt ∧ t_3_10.toInt ≤ 512 ∧ 0 ≤ t_3_14.toInt ∧ t_3_14.toInt ≤ 1024
        exact ⟨zz_mem q17 (by decide), by omega, by omega, by omega, by omega, by omega, by omega, by omega, by omega, by omega⟩
    · have c14 := zz_nlt c14
      refine zz_ok_some ?_
      show ("java/lang/IllegalArgumentException") ∈ (["", "java/lang/IllegalArgumentException", "java/lang/IllegalStateException", "java/lang/UnsupportedOperationException", "java/lang/IndexOutOfBoundsException"] : List String) ∧ s0.toInt = s0.toInt ∧ 0 ≤ s1.toInt ∧ s1.toInt ≤ 1024 ∧ 0 ≤ s2.toInt ∧ s2.toInt ≤ 200 ∧ 0 ≤ s10.toInt ∧ s10.toInt ≤ 512 ∧ 0 ≤ s14.toInt ∧ s14.toInt ≤ 1024
      exact ⟨by decide, by omega, by omega, by omega, by omega, by omega, by omega, by omega, by omega, by omega⟩
set_option maxHeartbeats 4000000 in
theorem s_X11_count_X6 (K : Nat) (hK : 1099511627776 ≤ K) (n0 : Nat) (n1 : Nat) (n2 : Nat) (n3 : Nat) (n4 : Nat) (n5 : Nat) (n6 : Nat) (n7 : Nat) (n8 : Nat) (p1 : Int32) (s0 : Int32) (s1 : Int32) (s2 : Int32) (s3 : Int32) (s4 : Int32) (s5 : Nat → Int32) (s6 : Nat → Int32) (s7 : Nat → Int32) (s8 : Nat → Int32) (s9 : Nat → Int32) (s10 : Int32) (s11 : Int32) (s12 : Nat → Int32) (s13 : Nat → Int32) (s14 : Int32) (s15 : Int32) (s16 : Nat → Int32) (s17 : Nat → Int32) (a0 : n0 = 1024) (a1 : n1 = 200) (a2 : n2 = 200) (a3 : n3 = 200) (a4 : n4 = 200) (a5 : n5 = 512) (a6 : n6 = 512) (a7 : n7 = 1024) (a8 : n8 = 1024) (a9 : 0 ≤ s1.toInt) (a10 : s1.toInt ≤ 1024) (a11 : 0 ≤ s2.toInt) (a12 : s2.toInt ≤ 200) (a13 : 0 ≤ s10.toInt) (a14 : s10.toInt ≤ 512) (a15 : 0 ≤ s14.toInt) (a16 : s14.toInt ≤ 1024) (a17 : p1.toInt ≠ 12) : zz_ok (m_X11_count_X6 K n0 n1 n2 n3 n4 n5 n6 n7 n8 p1 s0 s1 s2 s3 s4 s5 s6 s7 s8 s9 s10 s11 s12 s13 s14 s15 s16 s17) (fun z => z.1 ∈ (["", "java/lang/IllegalArgumentException"] : List String) ∧ z.2.2.1.toInt = s0.toInt ∧ 0 ≤ z.2.2.2.1.toInt ∧ z.2.2.2.1.toInt ≤ 1024 ∧ 0 ≤ z.2.2.2.2.1.toInt ∧ z.2.2.2.2.1.toInt ≤ 200 ∧ 0 ≤ z.2.2.2.2.2.2.2.2.2.2.2.2.1.toInt ∧ z.2.2.2.2.2.2.2.2.2.2.2.2.1.toInt ≤ 512 ∧ 0 ≤ z.2.2.2.2.2.2.2.2.2.2.2.2.2.2.2.2.1.toInt ∧ z.2.2.2.2.2.2.2.2.2.2.2.2.2.2.2.2.1.toInt ≤ 1024) := by
  have g1 := zz_rg p1
  have g2 := zz_rg s0
  have g3 := zz_rg s1
  have g4 := zz_rg s2
  have g5 := zz_rg s3
  have g6 := zz_rg s4
  have g7 := zz_rg s10
  have g8 := zz_rg s11
  have g9 := zz_rg s14
  have g10 := zz_rg s15
  unfold m_X11_count_X6
  have l12 : (0 : Int32).toInt = 0 := rfl
  refine zz_ok_ite (fun c11 => ?_) (fun c11 => ?_)
  · have c11 := Int32.lt_iff_toInt_lt.mp c11
    refine zz_ok_some ?_
    show ("java/lang/IllegalArgumentException") ∈ (["", "java/lang/IllegalArgumentException"] : List String) ∧ s0.toInt = s0.toInt ∧ 0 ≤ s1.toInt ∧ s1.toInt ≤ 1024 ∧ 0 ≤ s2.toInt ∧ s2.toInt ≤ 200 ∧ 0 ≤ s10.toInt ∧ s10.toInt ≤ 512 ∧ 0 ≤ s14.toInt ∧ s14.toInt ≤ 1024
    exact ⟨by decide, by omega, by omega, by omega, by omega, by omega, by omega, by omega, by omega, by omega⟩
  · have c11 := zz_nlt c11
    have l14 : (13 : Int32).toInt = 13 := rfl
    refine zz_ok_ite (fun c13 => ?_) (fun c13 => ?_)
    · have c13 := Int32.lt_iff_toInt_lt.mp c13
      refine zz_ok_ite (fun c15 => ?_) (fun c15 => ?_)
      · have c15 := congrArg Int32.toInt c15
        refine zz_ok_some ?_
        show ("") ∈ (["", "java/lang/IllegalArgumentException"] : List String) ∧ s0.toInt = s0.toInt ∧ 0 ≤ s1.toInt ∧ s1.toInt ≤ 1024 ∧ 0 ≤ s2.toInt ∧ s2.toInt ≤ 200 ∧ 0 ≤ s10.toInt ∧ s10.toInt ≤ 512 ∧ 0 ≤ s14.toInt ∧ s14.toInt ≤ 1024
        exact ⟨by decide, by omega, by omega, by omega, by omega, by omega, by omega, by omega, by omega, by omega⟩
      · have c15 := zz_neq c15
        have l17 : (12 : Int32).toInt = 12 := rfl
        refine zz_ok_ite (fun c16 => ?_) (fun c16 => ?_)
        · have c16 := congrArg Int32.toInt c16
          exfalso
          omega
        · have c16 := zz_neq c16
          have l19 : (8 : Int32).toInt = 8 := rfl
          refine zz_ok_ite (fun c18 => ?_) (fun c18 => ?_)
          · have c18 := Int32.lt_iff_toInt_lt.mp c18
            refine zz_ok_bind (s_X11_countInForm_X6 K hK n0 n1 n2 n3 n4 n5 n6 n7 n8 p1 s0 s1 s2 s3 s4 s5 s6 s7 s8 s9 s10 s11 s12 s13 s14 s15 s16 s17 (by omega) (by omega) (by omega) (by omega) (by omega) (by omega) (by omega) (by omega) (by omega) (by omega) (by omega) (by omega) (by omega) (by omega) (by omega) (by omega) (by omega)) ?_
            intro z20 hz20
            obtain ⟨e_6, r_6, t_6_0, t_6_1, t_6_2, t_6_3, t_6_4, t_6_5, t_6_6, t_6_7, t_6_8, t_6_9, t_6_10, t_6_11, t_6_12, t_6_13, t_6_14, t_6_15, t_6_16, t_6_17⟩ := z20
            have q21 : e_6 ∈ ([""] : List String) := hz20.1
            have q22 : t_6_0.toInt = s0.toInt := hz20.2.1
            have q23 : 0 ≤ t_6_1.toInt := hz20.2.2.1
            have q24 : t_6_1.toInt ≤ 1024 := hz20.2.2.2.1
            have q25 : 0 ≤ t_6_2.toInt := hz20.2.2.2.2.1
            have q26 : t_6_2.toInt ≤ 200 := hz20.2.2.2.2.2.1
            have q27 : 0 ≤ t_6_10.toInt := hz20.2.2.2.2.2.2.1
            have q28 : t_6_10.toInt ≤ 512 := hz20.2.2.2.2.2.2.2.1
            have q29 : 0 ≤ t_6_14.toInt := hz20.2.2.2.2.2.2.2.2.1
            have q30 : t_6_14.toInt ≤ 1024 := hz20.2.2.2.2.2.2.2.2.2
            have g31 := zz_rg r_6
            have g32 := zz_rg t_6_0
            have g33 := zz_rg t_6_1
            have g34 := zz_rg t_6_2
            have g35 := zz_rg t_6_3
            have g36 := zz_rg t_6_4
            have g37 := zz_rg t_6_10
            have g38 := zz_rg t_6_11
            have g39 := zz_rg t_6_14
            have g40 := zz_rg t_6_15
            show zz_ok (if e_6 = "" then (some ("", r_6, t_6_0, t_6_1, t_6_2, t_6_3, t_6_4, t_6_5, t_6_6, t_6_7, t_6_8, t_6_9, t_6_10, t_6_11, t_6_12, t_6_13, t_6_14, t_6_15, t_6_16, t_6_17)) else (some (e_6, 0, t_6_0, t_6_1, t_6_2, t_6_3, t_6_4, t_6_5, t_6_6, t_6_7, t_6_8, t_6_9, t_6_10, t_6_11, t_6_12, t_6_13, t_6_14, t_6_15, t_6_16, t_6_17))) _
            refine zz_ok_ite (fun c41 => ?_) (fun c41 => ?_)
            · skip
              refine zz_ok_some ?_
              show ("") ∈ (["", "java/lang/IllegalArgumentException"] : List String) ∧ t_6_0.toInt = s0.toInt ∧ 0 ≤ t_6_1.toInt ∧ t_6_1.toInt ≤ 1024 ∧ 0 ≤ t_6_2.toInt ∧ t_6_2.toInt ≤ 200 ∧ 0 ≤ t_6_10.toInt ∧ t_6_10.toInt ≤ 512 ∧ 0 ≤ t_6_14.toInt ∧ t_6_14.toInt ≤ 1024
              exact ⟨by decide, by omega, by omega, by omega, by omega, by omega, by omega, by omega, by omega, by omega⟩
            · skip
              refine zz_ok_some ?_
              show e_6 ∈ (["", "java/lang/IllegalArgumentException"] : List String) ∧ t_6_0.toInt = s0.toInt ∧ 0 ≤ t_6_1.toInt ∧ t_6_1.toInt ≤ 1024 ∧ 0 ≤ t_6_2.toInt ∧ t_6_2.toInt ≤ 200 ∧ 0 ≤ t_6_10.toInt ∧ t_6_10.toInt ≤ 512 ∧ 0 ≤ t_6_14.toInt ∧ t_6_14.toInt ≤ 1024
              exact ⟨zz_mem q21 (by decide), by omega, by omega, by omega, by omega, by omega, by omega, by omega, by omega, by omega⟩
          · have c18 := zz_nlt c18
            refine zz_ok_bind (s_X11_countInRoom_X6 K hK n0 n1 n2 n3 n4 n5 n6 n7 n8 p1 s0 s1 s2 s3 s4 s5 s6 s7 s8 s9 s10 s11 s12 s13 s14 s15 s16 s17 (by omega) (by omega) (by omega) (by omega) (by omega) (by omega) (by omega) (by omega) (by omega) (by omega) (by omega) (by omega) (by omega) (by omega) (by omega) (by omega) (by omega)) ?_
            intro z42 hz42
            obtain ⟨e_7, r_7, t_7_0, t_7_1, t_7_2, t_7_3, t_7_4, t_7_5, t_7_6, t_7_7, t_7_8, t_7_9, t_7_10, t_7_11, t_7_12, t_7_13, t_7_14, t_7_15, t_7_16, t_7_17⟩ := z42
            have q43 : e_7 ∈ ([""] : List String) := hz42.1
            have q44 : t_7_0.toInt = s0.toInt := hz42.2.1
            have q45 : 0 ≤ t_7_1.toInt := hz42.2.2.1
            have q46 : t_7_1.toInt ≤ 1024 := hz42.2.2.2.1
            have q47 : 0 ≤ t_7_2.toInt := hz42.2.2.2.2.1
            have q48 : t_7_2.toInt ≤ 200 := hz42.2.2.2.2.2.1
            have q49 : 0 ≤ t_7_10.toInt := hz42.2.2.2.2.2.2.1
            have q50 : t_7_10.toInt ≤ 512 := hz42.2.2.2.2.2.2.2.1
            have q51 : 0 ≤ t_7_14.toInt := hz42.2.2.2.2.2.2.2.2.1
            have q52 : t_7_14.toInt ≤ 1024 := hz42.2.2.2.2.2.2.2.2.2
            have g53 := zz_rg r_7
            have g54 := zz_rg t_7_0
            have g55 := zz_rg t_7_1
            have g56 := zz_rg t_7_2
            have g57 := zz_rg t_7_3
            have g58 := zz_rg t_7_4
            have g59 := zz_rg t_7_10
            have g60 := zz_rg t_7_11
            have g61 := zz_rg t_7_14
            have g62 := zz_rg t_7_15
            show zz_ok (if e_7 = "" then (some ("", r_7, t_7_0, t_7_1, t_7_2, t_7_3, t_7_4, t_7_5, t_7_6, t_7_7, t_7_8, t_7_9, t_7_10, t_7_11, t_7_12, t_7_13, t_7_14, t_7_15, t_7_16, t_7_17)) else (some (e_7, 0, t_7_0, t_7_1, t_7_2, t_7_3, t_7_4, t_7_5, t_7_6, t_7_7, t_7_8, t_7_9, t_7_10, t_7_11, t_7_12, t_7_13, t_7_14, t_7_15, t_7_16, t_7_17))) _
            refine zz_ok_ite (fun c63 => ?_) (fun c63 => ?_)
            · skip
              refine zz_ok_some ?_
              show ("") ∈ (["", "java/lang/IllegalArgumentException"] : List String) ∧ t_7_0.toInt = s0.toInt ∧ 0 ≤ t_7_1.toInt ∧ t_7_1.toInt ≤ 1024 ∧ 0 ≤ t_7_2.toInt ∧ t_7_2.toInt ≤ 200 ∧ 0 ≤ t_7_10.toInt ∧ t_7_10.toInt ≤ 512 ∧ 0 ≤ t_7_14.toInt ∧ t_7_14.toInt ≤ 1024
              exact ⟨by decide, by omega, by omega, by omega, by omega, by omega, by omega, by omega, by omega, by omega⟩
            · skip
              refine zz_ok_some ?_
              show e_7 ∈ (["", "java/lang/IllegalArgumentException"] : List String) ∧ t_7_0.toInt = s0.toInt ∧ 0 ≤ t_7_1.toInt ∧ t_7_1.toInt ≤ 1024 ∧ 0 ≤ t_7_2.toInt ∧ t_7_2.toInt ≤ 200 ∧ 0 ≤ t_7_10.toInt ∧ t_7_10.toInt ≤ 512 ∧ 0 ≤ t_7_14.toInt ∧ t_7_14.toInt ≤ 1024
              exact ⟨zz_mem q43 (by decide), by omega, by omega, by omega, by omega, by omega, by omega, by omega, by omega, by omega⟩
    · have c13 := zz_nlt c13
      refine zz_ok_some ?_
      show ("java/lang/IllegalArgumentException") ∈ (["", "java/lang/IllegalArgumentException"] : List String) ∧ s0.toInt = s0.toInt ∧ 0 ≤ s1.toInt ∧ s1.toInt ≤ 1024 ∧ 0 ≤ s2.toInt ∧ s2.toInt ≤ 200 ∧ 0 ≤ s10.toInt ∧ s10.toInt ≤ 512 ∧ 0 ≤ s14.toInt ∧ s14.toInt ≤ 1024
      exact ⟨by decide, by omega, by omega, by omega, by omega, by omega, by omega, by omega, by omega, by omega⟩

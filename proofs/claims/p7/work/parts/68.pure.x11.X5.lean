set_option maxHeartbeats 4000000 in
theorem s_X11_needRoom_X5 (K : Nat) (hK : 1099511627776 ≤ K) (n0 : Nat) (n1 : Nat) (n2 : Nat) (n3 : Nat) (n4 : Nat) (n5 : Nat) (n6 : Nat) (n7 : Nat) (n8 : Nat) (s0 : Int32) (s1 : Int32) (s2 : Int32) (s3 : Int32) (s4 : Int32) (s5 : Nat → Int32) (s6 : Nat → Int32) (s7 : Nat → Int32) (s8 : Nat → Int32) (s9 : Nat → Int32) (s10 : Int32) (s11 : Int32) (s12 : Nat → Int32) (s13 : Nat → Int32) (s14 : Int32) (s15 : Nat → Int32) (s16 : Nat → Int32) (a0 : n0 = 1024) (a1 : n1 = 200) (a2 : n2 = 200) (a3 : n3 = 200) (a4 : n4 = 200) (a5 : n5 = 512) (a6 : n6 = 512) (a7 : n7 = 32) (a8 : n8 = 32) (a9 : 0 ≤ s1.toInt) (a10 : s1.toInt ≤ 1024) (a11 : 0 ≤ s2.toInt) (a12 : s2.toInt ≤ 200) (a13 : 0 ≤ s10.toInt) (a14 : s10.toInt ≤ 512) (a15 : 0 ≤ s14.toInt) (a16 : s14.toInt ≤ 32) : zz_ok (m_X11_needRoom_X5 K n0 n1 n2 n3 n4 n5 n6 n7 n8 s0 s1 s2 s3 s4 s5 s6 s7 s8 s9 s10 s11 s12 s13 s14 s15 s16) (fun z => z.1 ∈ (["", "java/lang/IllegalStateException"] : List String) ∧ z.2.1.toInt = s0.toInt ∧ 0 ≤ z.2.2.1.toInt ∧ z.2.2.1.toInt ≤ 1024 ∧ 0 ≤ z.2.2.2.1.toInt ∧ z.2.2.2.1.toInt ≤ 200 ∧ 0 ≤ z.2.2.2.2.2.2.2.2.2.2.2.1.toInt ∧ z.2.2.2.2.2.2.2.2.2.2.2.1.toInt ≤ 512 ∧ 0 ≤ z.2.2.2.2.2.2.2.2.2.2.2.2.2.2.2.1.toInt ∧ z.2.2.2.2.2.2.2.2.2.2.2.2.2.2.2.1.toInt ≤ 32) := by
  have g1 := zz_rg s0
  have g2 := zz_rg s1
  have g3 := zz_rg s2
  have g4 := zz_rg s3
  have g5 := zz_rg s4
  have g6 := zz_rg s10
  have g7 := zz_rg s11
  have g8 := zz_rg s14
  unfold m_X11_needRoom_X5
  refine zz_ok_some ?_
  show ("") ∈ (["", "java/lang/IllegalStateException"] : List String) ∧ s0.toInt = s0.toInt ∧ 0 ≤ s1.toInt ∧ s1.toInt ≤ 1024 ∧ 0 ≤ s2.toInt ∧ s2.toInt ≤ 200 ∧ 0 ≤ s10.toInt ∧ s10.toInt ≤ 512 ∧ 0 ≤ s14.toInt ∧ s14.toInt ≤ 32
  exact ⟨by decide, by omega, by omega, by omega, by omega, by omega, by omega, by omega, by omega, by omega⟩
set_option maxHeartbeats 4000000 in
theorem s_X11_needBlock_X5 (K : Nat) (hK : 1099511627776 ≤ K) (n0 : Nat) (n1 : Nat) (n2 : Nat) (n3 : Nat) (n4 : Nat) (n5 : Nat) (n6 : Nat) (n7 : Nat) (n8 : Nat) (p1 : Int32) (s0 : Int32) (s1 : Int32) (s2 : Int32) (s3 : Int32) (s4 : Int32) (s5 : Nat → Int32) (s6 : Nat → Int32) (s7 : Nat → Int32) (s8 : Nat → Int32) (s9 : Nat → Int32) (s10 : Int32) (s11 : Int32) (s12 : Nat → Int32) (s13 : Nat → Int32) (s14 : Int32) (s15 : Nat → Int32) (s16 : Nat → Int32) (a0 : n0 = 1024) (a1 : n1 = 200) (a2 : n2 = 200) (a3 : n3 = 200) (a4 : n4 = 200) (a5 : n5 = 512) (a6 : n6 = 512) (a7 : n7 = 32) (a8 : n8 = 32) (a9 : 0 ≤ s1.toInt) (a10 : s1.toInt ≤ 1024) (a11 : 0 ≤ s2.toInt) (a12 : s2.toInt ≤ 200) (a13 : 0 ≤ s10.toInt) (a14 : s10.toInt ≤ 512) (a15 : 0 ≤ s14.toInt) (a16 : s14.toInt ≤ 32) : zz_ok (m_X11_needBlock_X5 K n0 n1 n2 n3 n4 n5 n6 n7 n8 p1 s0 s1 s2 s3 s4 s5 s6 s7 s8 s9 s10 s11 s12 s13 s14 s15 s16) (fun z => z.1 ∈ (["", "java/util/NoSuchElementException"] : List String) ∧ z.2.2.1.toInt = s0.toInt ∧ 0 ≤ z.2.2.2.1.toInt ∧ z.2.2.2.1.toInt ≤ 1024 ∧ 0 ≤ z.2.2.2.2.1.toInt ∧ z.2.2.2.2.1.toInt ≤ 200 ∧ 0 ≤ z.2.2.2.2.2.2.2.2.2.2.2.2.1.toInt ∧ z.2.2.2.2.2.2.2.2.2.2.2.2.1.toInt ≤ 512 ∧ 0 ≤ z.2.2.2.2.2.2.2.2.2.2.2.2.2.2.2.2.1.toInt ∧ z.2.2.2.2.2.2.2.2.2.2.2.2.2.2.2.2.1.toInt ≤ 32) := by
  have g1 := zz_rg p1
  have g2 := zz_rg s0
  have g3 := zz_rg s1
  have g4 := zz_rg s2
  have g5 := zz_rg s3
  have g6 := zz_rg s4
  have g7 := zz_rg s10
  have g8 := zz_rg s11
  have g9 := zz_rg s14
  unfold m_X11_needBlock_X5
  refine zz_ok_bind (s_X7_slotOf K hK n0 n1 n2 n3 n4 n5 n6 p1 s1 s2 s3 s4 s5 s6 s7 s8 s9 s10 s11 s12 s13 (by omega) (by omega) (by omega) (by omega) (by omega) (by omega) (by omega) (by omega) (by omega) (by omega) (by omega) (by omega) (by omega)) ?_
  intro z10 hz10
  obtain ⟨r_1, t_1_0, t_1_1, t_1_2, t_1_3, t_1_4, t_1_5, t_1_6, t_1_7, t_1_8, t_1_9, t_1_10, t_1_11, t_1_12⟩ := z10
  have q11 : -1 ≤ r_1.toInt := hz10.1
  have q12 : t_1_0.toInt = s1.toInt := hz10.2.1
  have q13 : t_1_1.toInt = s2.toInt := hz10.2.2.1
  have q14 : 0 ≤ t_1_9.toInt := hz10.2.2.2.1
  have q15 : t_1_9.toInt ≤ 512 := hz10.2.2.2.2
  have g16 := zz_rg r_1
  have g17 := zz_rg t_1_0
  have g18 := zz_rg t_1_1
  have g19 := zz_rg t_1_2
  have g20 := zz_rg t_1_3
  have g21 := zz_rg t_1_9
  have g22 := zz_rg t_1_10
  show zz_ok (if r_1 = ((-1 : Int32)) then (some ("java/util/NoSuchElementException", 0, s0, t_1_0, t_1_1, t_1_2, t_1_3, t_1_4, t_1_5, t_1_6, t_1_7, t_1_8, t_1_9, t_1_10, t_1_11, t_1_12, s14, s15, s16)) else (some ("", r_1, s0, t_1_0, t_1_1, t_1_2, t_1_3, t_1_4, t_1_5, t_1_6, t_1_7, t_1_8, t_1_9, t_1_10, t_1_11, t_1_12, s14, s15, s16))) _
  have l24 : (-1 : Int32).toInt = -1 := rfl
  refine zz_ok_ite (fun c23 => ?_) (fun c23 => ?_)
  · have c23 := congrArg Int32.toInt c23
    have l25 : (0 : Int32).toInt = 0 := rfl
    refine zz_ok_some ?_
    show ("java/util/NoSuchElementException") ∈ (["", "java/util/NoSuchElementException"] : List String) ∧ s0.toInt = s0.toInt ∧ 0 ≤ t_1_0.toInt ∧ t_1_0.toInt ≤ 1024 ∧ 0 ≤ t_1_1.toInt ∧ t_1_1.toInt ≤ 200 ∧ 0 ≤ t_1_9.toInt ∧ t_1_9.toInt ≤ 512 ∧ 0 ≤ s14.toInt ∧ s14.toInt ≤ 32
    exact ⟨by decide, by omega, by omega, by omega, by omega, by omega, by omega, by omega, by omega, by omega⟩
  · have c23 := zz_neq c23
    refine zz_ok_some ?_
    show ("") ∈ (["", "java/util/NoSuchElementException"] : List String) ∧ s0.toInt = s0.toInt ∧ 0 ≤ t_1_0.toInt ∧ t_1_0.toInt ≤ 1024 ∧ 0 ≤ t_1_1.toInt ∧ t_1_1.toInt ≤ 200 ∧ 0 ≤ t_1_9.toInt ∧ t_1_9.toInt ≤ 512 ∧ 0 ≤ s14.toInt ∧ s14.toInt ≤ 32
    exact ⟨by decide, by omega, by omega, by omega, by omega, by omega, by omega, by omega, by omega, by omega⟩
set_option maxHeartbeats 4000000 in
theorem s_X11_countInRoom_X5 (K : Nat) (hK : 1099511627776 ≤ K) (n0 : Nat) (n1 : Nat) (n2 : Nat) (n3 : Nat) (n4 : Nat) (n5 : Nat) (n6 : Nat) (n7 : Nat) (n8 : Nat) (p1 : Int32) (s0 : Int32) (s1 : Int32) (s2 : Int32) (s3 : Int32) (s4 : Int32) (s5 : Nat → Int32) (s6 : Nat → Int32) (s7 : Nat → Int32) (s8 : Nat → Int32) (s9 : Nat → Int32) (s10 : Int32) (s11 : Int32) (s12 : Nat → Int32) (s13 : Nat → Int32) (s14 : Int32) (s15 : Nat → Int32) (s16 : Nat → Int32) (a0 : n0 = 1024) (a1 : n1 = 200) (a2 : n2 = 200) (a3 : n3 = 200) (a4 : n4 = 200) (a5 : n5 = 512) (a6 : n6 = 512) (a7 : n7 = 32) (a8 : n8 = 32) (a9 : 0 ≤ s1.toInt) (a10 : s1.toInt ≤ 1024) (a11 : 0 ≤ s2.toInt) (a12 : s2.toInt ≤ 200) (a13 : 0 ≤ s10.toInt) (a14 : s10.toInt ≤ 512) (a15 : 0 ≤ s14.toInt) (a16 : s14.toInt ≤ 32) : zz_ok (m_X11_countInRoom_X5 K n0 n1 n2 n3 n4 n5 n6 n7 n8 p1 s0 s1 s2 s3 s4 s5 s6 s7 s8 s9 s10 s11 s12 s13 s14 s15 s16) (fun z => z.1 ∈ ([""] : List String) ∧ z.2.2.1.toInt = s0.toInt ∧ 0 ≤ z.2.2.2.1.toInt ∧ z.2.2.2.1.toInt ≤ 1024 ∧ 0 ≤ z.2.2.2.2.1.toInt ∧ z.2.2.2.2.1.toInt ≤ 200 ∧ 0 ≤ z.2.2.2.2.2.2.2.2.2.2.2.2.1.toInt ∧ z.2.2.2.2.2.2.2.2.2.2.2.2.1.toInt ≤ 512 ∧ 0 ≤ z.2.2.2.2.2.2.2.2.2.2.2.2.2.2.2.2.1.toInt ∧ z.2.2.2.2.2.2.2.2.2.2.2.2.2.2.2.2.1.toInt ≤ 32) := by
  have g1 := zz_rg p1
  have g2 := zz_rg s0
  have g3 := zz_rg s1
  have g4 := zz_rg s2
  have g5 := zz_rg s3
  have g6 := zz_rg s4
  have g7 := zz_rg s10
  have g8 := zz_rg s11
  have g9 := zz_rg s14
  unfold m_X11_countInRoom_X5
  have l11 : (1 : Int32).toInt = 1 := rfl
  refine zz_ok_ite (fun c10 => ?_) (fun c10 => ?_)
  · have c10 := congrArg Int32.toInt c10
    refine zz_ok_bind (s_X7_words K hK n0 n1 n2 n3 n4 n5 n6 s1 s2 s3 s4 s5 s6 s7 s8 s9 s10 s11 s12 s13 (by omega) (by omega) (by omega) (by omega) (by omega) (by omega) (by omega) (by omega) (by omega) (by omega) (by omega) (by omega) (by omega)) ?_
    intro z12 hz12
    obtain ⟨r_2, t_2_0, t_2_1, t_2_2, t_2_3, t_2_4, t_2_5, t_2_6, t_2_7, t_2_8, t_2_9, t_2_10, t_2_11, t_2_12⟩ := z12
    have q13 : r_2.toInt = s1.toInt := hz12.1
    have q14 : t_2_0.toInt = s1.toInt := hz12.2.1
    have q15 : t_2_1.toInt = s2.toInt := hz12.2.2.1
    have q16 : 0 ≤ t_2_9.toInt := hz12.2.2.2.1
    have q17 : t_2_9.toInt ≤ 512 := hz12.2.2.2.2
    have g18 := zz_rg r_2
    have g19 := zz_rg t_2_0
    have g20 := zz_rg t_2_1
    have g21 := zz_rg t_2_2
    have g22 := zz_rg t_2_3
    have g23 := zz_rg t_2_9
    have g24 := zz_rg t_2_10
    show zz_ok (some ("", r_2, s0, t_2_0, t_2_1, t_2_2, t_2_3, t_2_4, t_2_5, t_2_6, t_2_7, t_2_8, t_2_9, t_2_10, t_2_11, t_2_12, s14, s15, s16)) _
    refine zz_ok_some ?_
    show ("") ∈ ([""] : List String) ∧ s0.toInt = s0.toInt ∧ 0 ≤ t_2_0.toInt ∧ t_2_0.toInt ≤ 1024 ∧ 0 ≤ t_2_1.toInt ∧ t_2_1.toInt ≤ 200 ∧ 0 ≤ t_2_9.toInt ∧ t_2_9.toInt ≤ 512 ∧ 0 ≤ s14.toInt ∧ s14.toInt ≤ 32
    exact ⟨by decide, by omega, by omega, by omega, by omega, by omega, by omega, by omega, by omega, by omega⟩
  · have c10 := zz_neq c10
    have l26 : (2 : Int32).toInt = 2 := rfl
    refine zz_ok_ite (fun c25 => ?_) (fun c25 => ?_)
    · have c25 := congrArg Int32.toInt c25
      refine zz_ok_bind (s_X7_blocks K hK n0 n1 n2 n3 n4 n5 n6 s1 s2 s3 s4 s5 s6 s7 s8 s9 s10 s11 s12 s13 (by omega) (by omega) (by omega) (by omega) (by omega) (by omega) (by omega) (by omega) (by omega) (by omega) (by omega) (by omega) (by omega)) ?_
      intro z27 hz27
      obtain ⟨r_4, t_4_0, t_4_1, t_4_2, t_4_3, t_4_4, t_4_5, t_4_6, t_4_7, t_4_8, t_4_9, t_4_10, t_4_11, t_4_12⟩ := z27
      have q28 : r_4.toInt = s2.toInt := hz27.1
      have q29 : t_4_0.toInt = s1.toInt := hz27.2.1
      have q30 : t_4_1.toInt = s2.toInt := hz27.2.2.1
      have q31 : 0 ≤ t_4_9.toInt := hz27.2.2.2.1
      have q32 : t_4_9.toInt ≤ 512 := hz27.2.2.2.2
      have g33 := zz_rg r_4
      have g34 := zz_rg t_4_0
      have g35 := zz_rg t_4_1
      have g36 := zz_rg t_4_2
      have g37 := zz_rg t_4_3
      have g38 := zz_rg t_4_9
      have g39 := zz_rg t_4_10
      show zz_ok (some ("", r_4, s0, t_4_0, t_4_1, t_4_2, t_4_3, t_4_4, t_4_5, t_4_6, t_4_7, t_4_8, t_4_9, t_4_10, t_4_11, t_4_12, s14, s15, s16)) _
      refine zz_ok_some ?_
      show ("") ∈ ([""] : List String) ∧ s0.toInt = s0.toInt ∧ 0 ≤ t_4_0.toInt ∧ t_4_0.toInt ≤ 1024 ∧ 0 ≤ t_4_1.toInt ∧ t_4_1.toInt ≤ 200 ∧ 0 ≤ t_4_9.toInt ∧ t_4_9.toInt ≤ 512 ∧ 0 ≤ s14.toInt ∧ s14.toInt ≤ 32
      exact ⟨by decide, by omega, by omega, by omega, by omega, by omega, by omega, by omega, by omega, by omega⟩
    · have c25 := zz_neq c25
      have l41 : (3 : Int32).toInt = 3 := rfl
      refine zz_ok_ite (fun c40 => ?_) (fun c40 => ?_)
      · have c40 := congrArg Int32.toInt c40
        refine zz_ok_bind (s_X7_given K hK n0 n1 n2 n3 n4 n5 n6 s1 s2 s3 s4 s5 s6 s7 s8 s9 s10 s11 s12 s13 (by omega) (by omega) (by omega) (by omega) (by omega) (by omega) (by omega) (by omega) (by omega) (by omega) (by omega) (by omega) (by omega)) ?_
        intro z42 hz42
        obtain ⟨r_6, t_6_0, t_6_1, t_6_2, t_6_3, t_6_4, t_6_5, t_6_6, t_6_7, t_6_8, t_6_9, t_6_10, t_6_11, t_6_12⟩ := z42
        have q43 : t_6_0.toInt = s1.toInt := hz42.1
        have q44 : t_6_1.toInt = s2.toInt := hz42.2.1
        have q45 : 0 ≤ t_6_9.toInt := hz42.2.2.1
        have q46 : t_6_9.toInt ≤ 512 := hz42.2.2.2
        have g47 := zz_rg r_6
        have g48 := zz_rg t_6_0
        have g49 := zz_rg t_6_1
        have g50 := zz_rg t_6_2
        have g51 := zz_rg t_6_3
        have g52 := zz_rg t_6_9
        have g53 := zz_rg t_6_10
        show zz_ok (some ("", r_6, s0, t_6_0, t_6_1, t_6_2, t_6_3, t_6_4, t_6_5, t_6_6, t_6_7, t_6_8, t_6_9, t_6_10, t_6_11, t_6_12, s14, s15, s16)) _
        refine zz_ok_some ?_
        show ("") ∈ ([""] : List String) ∧ s0.toInt = s0.toInt ∧ 0 ≤ t_6_0.toInt ∧ t_6_0.toInt ≤ 1024 ∧ 0 ≤ t_6_1.toInt ∧ t_6_1.toInt ≤ 200 ∧ 0 ≤ t_6_9.toInt ∧ t_6_9.toInt ≤ 512 ∧ 0 ≤ s14.toInt ∧ s14.toInt ≤ 32
        exact ⟨by decide, by omega, by omega, by omega, by omega, by omega, by omega, by omega, by omega, by omega⟩
      · have c40 := zz_neq c40
        have l55 : (4 : Int32).toInt = 4 := rfl
        refine zz_ok_ite (fun c54 => ?_) (fun c54 => ?_)
        · have c54 := congrArg Int32.toInt c54
          refine zz_ok_bind (s_X7_askedTogether K hK n0 n1 n2 n3 n4 n5 n6 s1 s2 s3 s4 s5 s6 s7 s8 s9 s10 s11 s12 s13 (by omega) (by omega) (by omega) (by omega) (by omega) (by omega) (by omega) (by omega) (by omega) (by omega) (by omega) (by omega) (by omega)) ?_
          intro z56 hz56
          obtain ⟨r_8, t_8_0, t_8_1, t_8_2, t_8_3, t_8_4, t_8_5, t_8_6, t_8_7, t_8_8, t_8_9, t_8_10, t_8_11, t_8_12⟩ := z56
          have q57 : t_8_0.toInt = s1.toInt := hz56.1
          have q58 : t_8_1.toInt = s2.toInt := hz56.2.1
          have q59 : 0 ≤ t_8_9.toInt := hz56.2.2.1
          have q60 : t_8_9.toInt ≤ 512 := hz56.2.2.2
          have g61 := zz_rg r_8
          have g62 := zz_rg t_8_0
          have g63 := zz_rg t_8_1
          have g64 := zz_rg t_8_2
          have g65 := zz_rg t_8_3
          have g66 := zz_rg t_8_9
          have g67 := zz_rg t_8_10
          show zz_ok (some ("", r_8, s0, t_8_0, t_8_1, t_8_2, t_8_3, t_8_4, t_8_5, t_8_6, t_8_7, t_8_8, t_8_9, t_8_10, t_8_11, t_8_12, s14, s15, s16)) _
          refine zz_ok_some ?_
          show ("") ∈ ([""] : List String) ∧ s0.toInt = s0.toInt ∧ 0 ≤ t_8_0.toInt ∧ t_8_0.toInt ≤ 1024 ∧ 0 ≤ t_8_1.toInt ∧ t_8_1.toInt ≤ 200 ∧ 0 ≤ t_8_9.toInt ∧ t_8_9.toInt ≤ 512 ∧ 0 ≤ s14.toInt ∧ s14.toInt ≤ 32
          exact ⟨by decide, by omega, by omega, by omega, by omega, by omega, by omega, by omega, by omega, by omega⟩
        · have c54 := zz_neq c54
          have l69 : (5 : Int32).toInt = 5 := rfl
          refine zz_ok_ite (fun c68 => ?_) (fun c68 => ?_)
          · have c68 := congrArg Int32.toInt c68
            refine zz_ok_bind (s_X7_spansTogether K hK n0 n1 n2 n3 n4 n5 n6 s1 s2 s3 s4 s5 s6 s7 s8 s9 s10 s11 s12 s13 (by omega) (by omega) (by omega) (by omega) (by omega) (by omega) (by omega) (by omega) (by omega) (by omega) (by omega) (by omega) (by omega)) ?_
            intro z70 hz70
            obtain ⟨r_10, t_10_0, t_10_1, t_10_2, t_10_3, t_10_4, t_10_5, t_10_6, t_10_7, t_10_8, t_10_9, t_10_10, t_10_11, t_10_12⟩ := z70
            have q71 : t_10_0.toInt = s1.toInt := hz70.1
            have q72 : t_10_1.toInt = s2.toInt := hz70.2.1
            have q73 : 0 ≤ t_10_9.toInt := hz70.2.2.1
            have q74 : t_10_9.toInt ≤ 512 := hz70.2.2.2
            have g75 := zz_rg r_10
            have g76 := zz_rg t_10_0
            have g77 := zz_rg t_10_1
            have g78 := zz_rg t_10_2
            have g79 := zz_rg t_10_3
            have g80 := zz_rg t_10_9
            have g81 := zz_rg t_10_10
            show zz_ok (some ("", r_10, s0, t_10_0, t_10_1, t_10_2, t_10_3, t_10_4, t_10_5, t_10_6, t_10_7, t_10_8, t_10_9, t_10_10, t_10_11, t_10_12, s14, s15, s16)) _
            refine zz_ok_some ?_
            show ("") ∈ ([""] : List String) ∧ s0.toInt = s0.toInt ∧ 0 ≤ t_10_0.toInt ∧ t_10_0.toInt ≤ 1024 ∧ 0 ≤ t_10_1.toInt ∧ t_10_1.toInt ≤ 200 ∧ 0 ≤ t_10_9.toInt ∧ t_10_9.toInt ≤ 512 ∧ 0 ≤ s14.toInt ∧ s14.toInt ≤ 32
            exact ⟨by decide, by omega, by omega, by omega, by omega, by omega, by omega, by omega, by omega, by omega⟩
          · have c68 := zz_neq c68
            have l83 : (6 : Int32).toInt = 6 := rfl
            refine zz_ok_ite (fun c82 => ?_) (fun c82 => ?_)
            · have c82 := congrArg Int32.toInt c82
              refine zz_ok_bind (s_X7_listRuns K hK n0 n1 n2 n3 n4 n5 n6 s1 s2 s3 s4 s5 s6 s7 s8 s9 s10 s11 s12 s13 (by omega) (by omega) (by omega) (by omega) (by omega) (by omega) (by omega) (by omega) (by omega) (by omega) (by omega) (by omega) (by omega)) ?_
              intro z84 hz84
              obtain ⟨t_12_0, t_12_1, t_12_2, t_12_3, t_12_4, t_12_5, t_12_6, t_12_7, t_12_8, t_12_9, t_12_10, t_12_11, t_12_12⟩ := z84
              have q85 : t_12_0.toInt = s1.toInt := hz84.1
              have q86 : t_12_1.toInt = s2.toInt := hz84.2.1
              have q87 : 0 ≤ t_12_9.toInt := hz84.2.2.1
              have q88 : t_12_9.toInt ≤ 512 := hz84.2.2.2
              have g89 := zz_rg t_12_0
              have g90 := zz_rg t_12_1
              have g91 := zz_rg t_12_2
              have g92 := zz_rg t_12_3
              have g93 := zz_rg t_12_9
              have g94 := zz_rg t_12_10
              show zz_ok ((m_X10_size K n5 n6 t_12_9 t_12_10 t_12_11 t_12_12).bind fun ⟨r_13, t_13_0, t_13_1, t_13_2, t_13_3⟩ => some ("", r_13, s0, t_12_0, t_12_1, t_12_2, t_12_3, t_12_4, t_12_5, t_12_6, t_12_7, t_12_8, t_13_0, t_13_1, t_13_2, t_13_3, s14, s15, s16)) _
              refine zz_ok_bind (s_X10_size K hK n5 n6 t_12_9 t_12_10 t_12_11 t_12_12) ?_
              intro z95 hz95
              obtain ⟨r_13, t_13_0, t_13_1, t_13_2, t_13_3⟩ := z95
              have q96 : r_13.toInt = t_12_9.toInt := hz95.1
              have q97 : t_13_0.toInt = t_12_9.toInt := hz95.2
              have g98 := zz_rg r_13
              have g99 := zz_rg t_13_0
              have g100 := zz_rg t_13_1
              show zz_ok (some ("", r_13, s0, t_12_0, t_12_1, t_12_2, t_12_3, t_12_4, t_12_5, t_12_6, t_12_7, t_12_8, t_13_0, t_13_1, t_13_2, t_13_3, s14, s15, s16)) _
              refine zz_ok_some ?_
              show ("") ∈ ([""] : List String) ∧ s0.toInt = s0.toInt ∧ 0 ≤ t_12_0.toInt ∧ t_12_0.toInt ≤ 1024 ∧ 0 ≤ t_12_1.toInt ∧ t_12_1.toInt ≤ 200 ∧ 0 ≤ t_13_0.toInt ∧ t_13_0.toInt ≤ 512 ∧ 0 ≤ s14.toInt ∧ s14.toInt ≤ 32
              exact ⟨by decide, by omega, by omega, by omega, by omega, by omega, by omega, by omega, by omega, by omega⟩
            · have c82 := zz_neq c82
              have l102 : (7 : Int32).toInt = 7 := rfl
              refine zz_ok_ite (fun c101 => ?_) (fun c101 => ?_)
              · have c101 := congrArg Int32.toInt c101
                refine zz_ok_bind (s_X7_listRuns K hK n0 n1 n2 n3 n4 n5 n6 s1 s2 s3 s4 s5 s6 s7 s8 s9 s10 s11 s12 s13 (by omega) (by omega) (by omega) (by omega) (by omega) (by omega) (by omega) (by omega) (by omega) (by omega) (by omega) (by omega) (by omega)) ?_
                intro z103 hz103
                obtain ⟨t_15_0, t_15_1, t_15_2, t_15_3, t_15_4, t_15_5, t_15_6, t_15_7, t_15_8, t_15_9, t_15_10, t_15_11, t_15_12⟩ := z103
                have q104 : t_15_0.toInt = s1.toInt := hz103.1
                have q105 : t_15_1.toInt = s2.toInt := hz103.2.1
                have q106 : 0 ≤ t_15_9.toInt := hz103.2.2.1
                have q107 : t_15_9.toInt ≤ 512 := hz103.2.2.2
                have g108 := zz_rg t_15_0
                have g109 := zz_rg t_15_1
                have g110 := zz_rg t_15_2
                have g111 := zz_rg t_15_3
                have g112 := zz_rg t_15_9
                have g113 := zz_rg t_15_10
                show zz_ok ((m_X10_mostWords K n5 n6 t_15_9 t_15_10 t_15_11 t_15_12).bind fun ⟨r_16, t_16_0, t_16_1, t_16_2, t_16_3⟩ => some ("", r_16, s0, t_15_0, t_15_1, t_15_2, t_15_3, t_15_4, t_15_5, t_15_6, t_15_7, t_15_8, t_16_0, t_16_1, t_16_2, t_16_3, s14, s15, s16)) _
                refine zz_ok_bind (s_X10_mostWords K hK n5 n6 t_15_9 t_15_10 t_15_11 t_15_12 (by omega) (by omega) (by omega) (by omega)) ?_
                intro z114 hz114
                obtain ⟨r_16, t_16_0, t_16_1, t_16_2, t_16_3⟩ := z114
                have q115 : t_16_0.toInt = t_15_9.toInt := hz114
                have g116 := zz_rg r_16
                have g117 := zz_rg t_16_0
                have g118 := zz_rg t_16_1
                show zz_ok (some ("", r_16, s0, t_15_0, t_15_1, t_15_2, t_15_3, t_15_4, t_15_5, t_15_6, t_15_7, t_15_8, t_16_0, t_16_1, t_16_2, t_16_3, s14, s15, s16)) _
                refine zz_ok_some ?_
                show ("") ∈ ([""] : List String) ∧ s0.toInt = s0.toInt ∧ 0 ≤ t_15_0.toInt ∧ t_15_0.toInt ≤ 1024 ∧ 0 ≤ t_15_1.toInt ∧ t_15_1.toInt ≤ 200 ∧ 0 ≤ t_16_0.toInt ∧ t_16_0.toInt ≤ 512 ∧ 0 ≤ s14.toInt ∧ s14.toInt ≤ 32
                exact ⟨by decide, by omega, by omega, by omega, by omega, by omega, by omega, by omega, by omega, by omega⟩
              · have c101 := zz_neq c101
                refine zz_ok_bind (s_X7_looked K hK n0 n1 n2 n3 n4 n5 n6 s1 s2 s3 s4 s5 s6 s7 s8 s9 s10 s11 s12 s13 (by omega) (by omega) (by omega) (by omega) (by omega) (by omega) (by omega) (by omega) (by omega) (by omega) (by omega) (by omega) (by omega)) ?_
                intro z119 hz119
                obtain ⟨r_17, t_17_0, t_17_1, t_17_2, t_17_3, t_17_4, t_17_5, t_17_6, t_17_7, t_17_8, t_17_9, t_17_10, t_17_11, t_17_12⟩ := z119
                have q120 : t_17_0.toInt = s1.toInt := hz119.1
                have q121 : t_17_1.toInt = s2.toInt := hz119.2.1
                have q122 : 0 ≤ t_17_9.toInt := hz119.2.2.1
                have q123 : t_17_9.toInt ≤ 512 := hz119.2.2.2
                have g124 := zz_rg r_17
                have g125 := zz_rg t_17_0
                have g126 := zz_rg t_17_1
                have g127 := zz_rg t_17_2
                have g128 := zz_rg t_17_3
                have g129 := zz_rg t_17_9
                have g130 := zz_rg t_17_10
                show zz_ok (some ("", r_17, s0, t_17_0, t_17_1, t_17_2, t_17_3, t_17_4, t_17_5, t_17_6, t_17_7, t_17_8, t_17_9, t_17_10, t_17_11, t_17_12, s14, s15, s16)) _
                refine zz_ok_some ?_
                show ("") ∈ ([""] : List String) ∧ s0.toInt = s0.toInt ∧ 0 ≤ t_17_0.toInt ∧ t_17_0.toInt ≤ 1024 ∧ 0 ≤ t_17_1.toInt ∧ t_17_1.toInt ≤ 200 ∧ 0 ≤ t_17_9.toInt ∧ t_17_9.toInt ≤ 512 ∧ 0 ≤ s14.toInt ∧ s14.toInt ≤ 32
                exact ⟨by decide, by omega, by omega, by omega, by omega, by omega, by omega, by omega, by omega, by omega⟩
set_option maxHeartbeats 4000000 in
theorem s_X11_countInForm_X5 (K : Nat) (hK : 1099511627776 ≤ K) (n0 : Nat) (n1 : Nat) (n2 : Nat) (n3 : Nat) (n4 : Nat) (n5 : Nat) (n6 : Nat) (n7 : Nat) (n8 : Nat) (p1 : Int32) (s0 : Int32) (s1 : Int32) (s2 : Int32) (s3 : Int32) (s4 : Int32) (s5 : Nat → Int32) (s6 : Nat → Int32) (s7 : Nat → Int32) (s8 : Nat → Int32) (s9 : Nat → Int32) (s10 : Int32) (s11 : Int32) (s12 : Nat → Int32) (s13 : Nat → Int32) (s14 : Int32) (s15 : Nat → Int32) (s16 : Nat → Int32) (a0 : n0 = 1024) (a1 : n1 = 200) (a2 : n2 = 200) (a3 : n3 = 200) (a4 : n4 = 200) (a5 : n5 = 512) (a6 : n6 = 512) (a7 : n7 = 32) (a8 : n8 = 32) (a9 : 0 ≤ s1.toInt) (a10 : s1.toInt ≤ 1024) (a11 : 0 ≤ s2.toInt) (a12 : s2.toInt ≤ 200) (a13 : 0 ≤ s10.toInt) (a14 : s10.toInt ≤ 512) (a15 : 0 ≤ s14.toInt) (a16 : s14.toInt ≤ 32) : zz_ok (m_X11_countInForm_X5 K n0 n1 n2 n3 n4 n5 n6 n7 n8 p1 s0 s1 s2 s3 s4 s5 s6 s7 s8 s9 s10 s11 s12 s13 s14 s15 s16) (fun z => z.1 ∈ ([""] : List String) ∧ z.2.2.1.toInt = s0.toInt ∧ 0 ≤ z.2.2.2.1.toInt ∧ z.2.2.2.1.toInt ≤ 1024 ∧ 0 ≤ z.2.2.2.2.1.toInt ∧ z.2.2.2.2.1.toInt ≤ 200 ∧ 0 ≤ z.2.2.2.2.2.2.2.2.2.2.2.2.1.toInt ∧ z.2.2.2.2.2.2.2.2.2.2.2.2.1.toInt ≤ 512 ∧ 0 ≤ z.2.2.2.2.2.2.2.2.2.2.2.2.2.2.2.2.1.toInt ∧ z.2.2.2.2.2.2.2.2.2.2.2.2.2.2.2.2.1.toInt ≤ 32) := by
  have g1 := zz_rg p1
  have g2 := zz_rg s0
  have g3 := zz_rg s1
  have g4 := zz_rg s2
  have g5 := zz_rg s3
  have g6 := zz_rg s4
  have g7 := zz_rg s10
  have g8 := zz_rg s11
  have g9 := zz_rg s14
  unfold m_X11_countInForm_X5
  have l11 : (9 : Int32).toInt = 9 := rfl
  refine zz_ok_ite (fun c10 => ?_) (fun c10 => ?_)
  · have c10 := congrArg Int32.toInt c10
    refine zz_ok_bind (s_X1_quickOnes K hK) ?_
    intro z12 hz12
    obtain ⟨r_2, _⟩ := z12
    have g13 := zz_rg r_2
    show zz_ok (some ("", r_2, s0, s1, s2, s3, s4, s5, s6, s7, s8, s9, s10, s11, s12, s13, s14, s15, s16)) _
    refine zz_ok_some ?_
    show ("") ∈ ([""] : List String) ∧ s0.toInt = s0.toInt ∧ 0 ≤ s1.toInt ∧ s1.toInt ≤ 1024 ∧ 0 ≤ s2.toInt ∧ s2.toInt ≤ 200 ∧ 0 ≤ s10.toInt ∧ s10.toInt ≤ 512 ∧ 0 ≤ s14.toInt ∧ s14.toInt ≤ 32
    exact ⟨by decide, by omega, by omega, by omega, by omega, by omega, by omega, by omega, by omega, by omega⟩
  · have c10 := zz_neq c10
    have l15 : (10 : Int32).toInt = 10 := rfl
    refine zz_ok_ite (fun c14 => ?_) (fun c14 => ?_)
    · have c14 := congrArg Int32.toInt c14
      refine zz_ok_bind (s_X5_freeParts K hK n0 n1 n2 n3 n4 n5 n6 n7 n8 s14 s1 s2 s3 s4 s5 s6 s7 s8 s9 s10 s11 s12 s13 s15 s16 (by omega) (by omega) (by omega) (by omega) (by omega) (by omega) (by omega) (by omega) (by omega) (by omega) (by omega) (by omega) (by omega) (by omega) (by omega) (by omega) (by omega)) ?_
      intro z16 hz16
      obtain ⟨r_4, t_4_0, t_4_1, t_4_2, t_4_3, t_4_4, t_4_5, t_4_6, t_4_7, t_4_8, t_4_9, t_4_10, t_4_11, t_4_12, t_4_13, t_4_14, t_4_15⟩ := z16
      have q17 : t_4_1.toInt = s1.toInt := hz16.1
      have q18 : t_4_2.toInt = s2.toInt := hz16.2.1
      have q19 : 0 ≤ t_4_10.toInt := hz16.2.2.1
      have q20 : t_4_10.toInt ≤ 512 := hz16.2.2.2.1
      have q21 : t_4_0.toInt = s14.toInt := hz16.2.2.2.2
      have g22 := zz_rg r_4
      have g23 := zz_rg t_4_0
      have g24 := zz_rg t_4_1
      have g25 := zz_rg t_4_2
      have g26 := zz_rg t_4_3
      have g27 := zz_rg t_4_4
      have g28 := zz_rg t_4_10
      have g29 := zz_rg t_4_11
      show zz_ok (some ("", r_4, s0, t_4_1, t_4_2, t_4_3, t_4_4, t_4_5, t_4_6, t_4_7, t_4_8, t_4_9, t_4_10, t_4_11, t_4_12, t_4_13, t_4_0, t_4_14, t_4_15)) _
      refine zz_ok_some ?_
      show ("") ∈ ([""] : List String) ∧ s0.toInt = s0.toInt ∧ 0 ≤ t_4_1.toInt ∧ t_4_1.toInt ≤ 1024 ∧ 0 ≤ t_4_2.toInt ∧ t_4_2.toInt ≤ 200 ∧ 0 ≤ t_4_10.toInt ∧ t_4_10.toInt ≤ 512 ∧ 0 ≤ t_4_0.toInt ∧ t_4_0.toInt ≤ 32
      exact ⟨by decide, by omega, by omega, by omega, by omega, by omega, by omega, by omega, by omega, by omega⟩
    · have c14 := zz_neq c14
      refine zz_ok_bind (s_X1_top K hK) ?_
      intro z30 hz30
      obtain ⟨r_5, _⟩ := z30
      have g31 := zz_rg r_5
      show zz_ok (some ("", r_5, s0, s1, s2, s3, s4, s5, s6, s7, s8, s9, s10, s11, s12, s13, s14, s15, s16)) _
      refine zz_ok_some ?_
      show ("") ∈ ([""] : List String) ∧ s0.toInt = s0.toInt ∧ 0 ≤ s1.toInt ∧ s1.toInt ≤ 1024 ∧ 0 ≤ s2.toInt ∧ s2.toInt ≤ 200 ∧ 0 ≤ s10.toInt ∧ s10.toInt ≤ 512 ∧ 0 ≤ s14.toInt ∧ s14.toInt ≤ 32
      exact ⟨by decide, by omega, by omega, by omega, by omega, by omega, by omega, by omega, by omega, by omega⟩
set_option maxHeartbeats 4000000 in
theorem s_X11_give_X5 (K : Nat) (hK : 1099511627776 ≤ K) (n0 : Nat) (n1 : Nat) (n2 : Nat) (n3 : Nat) (n4 : Nat) (n5 : Nat) (n6 : Nat) (n7 : Nat) (n8 : Nat) (p1 : Int32) (s0 : Int32) (s1 : Int32) (s2 : Int32) (s3 : Int32) (s4 : Int32) (s5 : Nat → Int32) (s6 : Nat → Int32) (s7 : Nat → Int32) (s8 : Nat → Int32) (s9 : Nat → Int32) (s10 : Int32) (s11 : Int32) (s12 : Nat → Int32) (s13 : Nat → Int32) (s14 : Int32) (s15 : Nat → Int32) (s16 : Nat → Int32) (a0 : n0 = 1024) (a1 : n1 = 200) (a2 : n2 = 200) (a3 : n3 = 200) (a4 : n4 = 200) (a5 : n5 = 512) (a6 : n6 = 512) (a7 : n7 = 32) (a8 : n8 = 32) (a9 : 0 ≤ s1.toInt) (a10 : s1.toInt ≤ 1024) (a11 : 0 ≤ s2.toInt) (a12 : s2.toInt ≤ 200) (a13 : 0 ≤ s10.toInt) (a14 : s10.toInt ≤ 512) (a15 : 0 ≤ s14.toInt) (a16 : s14.toInt ≤ 32) : zz_ok (m_X11_give_X5 K n0 n1 n2 n3 n4 n5 n6 n7 n8 p1 s0 s1 s2 s3 s4 s5 s6 s7 s8 s9 s10 s11 s12 s13 s14 s15 s16) (fun z => z.1 ∈ (["", "java/lang/IllegalArgumentException", "java/lang/IllegalStateException", "java/lang/IndexOutOfBoundsException"] : List String) ∧ z.2.2.1.toInt = s0.toInt ∧ 0 ≤ z.2.2.2.1.toInt ∧ z.2.2.2.1.toInt ≤ 1024 ∧ 0 ≤ z.2.2.2.2.1.toInt ∧ z.2.2.2.2.1.toInt ≤ 200 ∧ 0 ≤ z.2.2.2.2.2.2.2.2.2.2.2.2.1.toInt ∧ z.2.2.2.2.2.2.2.2.2.2.2.2.1.toInt ≤ 512 ∧ 0 ≤ z.2.2.2.2.2.2.2.2.2.2.2.2.2.2.2.2.1.toInt ∧ z.2.2.2.2.2.2.2.2.2.2.2.2.2.2.2.2.1.toInt ≤ 32) := by
  have g1 := zz_rg p1
  have g2 := zz_rg s0
  have g3 := zz_rg s1
  have g4 := zz_rg s2
  have g5 := zz_rg s3
  have g6 := zz_rg s4
  have g7 := zz_rg s10
  have g8 := zz_rg s11
  have g9 := zz_rg s14
  unfold m_X11_give_X5
  have l11 : (1 : Int32).toInt = 1 := rfl
  refine zz_ok_ite (fun c10 => ?_) (fun c10 => ?_)
  · have c10 := Int32.lt_iff_toInt_lt.mp c10
    have l12 : (0 : Int32).toInt = 0 := rfl
    refine zz_ok_some ?_
    show ("java/lang/IllegalArgumentException") ∈ (["", "java/lang/IllegalArgumentException", "java/lang/IllegalStateException", "java/lang/IndexOutOfBoundsException"] : List String) ∧ s0.toInt = s0.toInt ∧ 0 ≤ s1.toInt ∧ s1.toInt ≤ 1024 ∧ 0 ≤ s2.toInt ∧ s2.toInt ≤ 200 ∧ 0 ≤ s10.toInt ∧ s10.toInt ≤ 512 ∧ 0 ≤ s14.toInt ∧ s14.toInt ≤ 32
    exact ⟨by decide, by omega, by omega, by omega, by omega, by omega, by omega, by omega, by omega, by omega⟩
  · have c10 := zz_nlt c10
    have l14 : (1024 : Int32).toInt = 1024 := rfl
    refine zz_ok_ite (fun c13 => ?_) (fun c13 => ?_)
    · have c13 := Int32.le_iff_toInt_le.mp c13
      refine zz_ok_bind (s_X11_needRoom_X5 K hK n0 n1 n2 n3 n4 n5 n6 n7 n8 s0 s1 s2 s3 s4 s5 s6 s7 s8 s9 s10 s11 s12 s13 s14 s15 s16 (by omega) (by omega) (by omega) (by omega) (by omega) (by omega) (by omega) (by omega) (by omega) (by omega) (by omega) (by omega) (by omega) (by omega) (by omega) (by omega) (by omega)) ?_
      intro z15 hz15
      obtain ⟨e_3, t_3_0, t_3_1, t_3_2, t_3_3, t_3_4, t_3_5, t_3_6, t_3_7, t_3_8, t_3_9, t_3_10, t_3_11, t_3_12, t_3_13, t_3_14, t_3_15, t_3_16⟩ := z15
      have q16 : e_3 ∈ (["", "java/lang/IllegalStateException"] : List String) := hz15.1
      have q17 : t_3_0.toInt = s0.toInt := hz15.2.1
      have q18 : 0 ≤ t_3_1.toInt := hz15.2.2.1
      have q19 : t_3_1.toInt ≤ 1024 := hz15.2.2.2.1
      have q20 : 0 ≤ t_3_2.toInt := hz15.2.2.2.2.1
      have q21 : t_3_2.toInt ≤ 200 := hz15.2.2.2.2.2.1
      have q22 : 0 ≤ t_3_10.toInt := hz15.2.2.2.2.2.2.1
      have q23 : t_3_10.toInt ≤ 512 := hz15.2.2.2.2.2.2.2.1
      have q24 : 0 ≤ t_3_14.toInt := hz15.2.2.2.2.2.2.2.2.1
      have q25 : t_3_14.toInt ≤ 32 := hz15.2.2.2.2.2.2.2.2.2
      have g26 := zz_rg t_3_0
      have g27 := zz_rg t_3_1
      have g28 := zz_rg t_3_2
      have g29 := zz_rg t_3_3
      have g30 := zz_rg t_3_4
      have g31 := zz_rg t_3_10
      have g32 := zz_rg t_3_11
      have g33 := zz_rg t_3_14
      show zz_ok (if e_3 = "" then ((m_X7_blocks K n0 n1 n2 n3 n4 n5 n6 t_3_1 t_3_2 t_3_3 t_3_4 t_3_5 t_3_6 t_3_7 t_3_8 t_3_9 t_3_10 t_3_11 t_3_12 t_3_13).bind fun ⟨r_4, t_4_0, t_4_1, t_4_2, t_4_3, t_4_4, t_4_5, t_4_6, t_4_7, t_4_8, t_4_9, t_4_10, t_4_11, t_4_12⟩ => if r_4 < ((200 : Int32)) then ((m_X5_spanOf K n0 n1 n2 n3 n4 n5 n6 n7 n8 p1 t_3_14 t_4_0 t_4_1 t_4_2 t_4_3 t_4_4 t_4_5 t_4_6 t_4_7 t_4_8 t_4_9 t_4_10 t_4_11 t_4_12 t_3_15 t_3_16).bind fun ⟨r_6, t_6_0, t_6_1, t_6_2, t_6_3, t_6_4, t_6_5, t_6_6, t_6_7, t_6_8, t_6_9, t_6_10, t_6_11, t_6_12, t_6_13, t_6_14, t_6_15⟩ => (m_X5_take K n0 n1 n2 n3 n4 n5 n6 n7 n8 r_6 t_6_0 t_6_1 t_6_2 t_6_3 t_6_4 t_6_5 t_6_6 t_6_7 t_6_8 t_6_9 t_6_10 t_6_11 t_6_12 t_6_13 t_6_14 t_6_15).bind fun ⟨r_7, t_7_0, t_7_1, t_7_2, t_7_3, t_7_4, t_7_5, t_7_6, t_7_7, t_7_8, t_7_9, t_7_10, t_7_11, t_7_12, t_7_13, t_7_14, t_7_15⟩ => if r_7 = ((-1 : Int32)) then (some ("", (-1 : Int32), t_3_0, t_7_1, t_7_2, t_7_3, t_7_4, t_7_5, t_7_6, t_7_7, t_7_8, t_7_9, t_7_10, t_7_11, t_7_12, t_7_13, t_7_0, t_7_14, t_7_15)) else ((m_X7_settle K n0 n1 n2 n3 n4 n5 n6 r_7 r_6 p1 t_7_1 t_7_2 t_7_3 t_7_4 t_7_5 t_7_6 t_7_7 t_7_8 t_7_9 t_7_10 t_7_11 t_7_12 t_7_13).bind fun ⟨r_9, t_9_0, t_9_1, t_9_2, t_9_3, t_9_4, t_9_5, t_9_6, t_9_7, t_9_8, t_9_9, t_9_10, t_9_11, t_9_12⟩ => some ("", r_9, t_3_0, t_9_0, t_9_1, t_9_2, t_9_3, t_9_4, t_9_5, t_9_6, t_9_7, t_9_8, t_9_9, t_9_10, t_9_11, t_9_12, t_7_0, t_7_14, t_7_15))) else (some ("java/lang/IndexOutOfBoundsException", 0, t_3_0, t_4_0, t_4_1, t_4_2, t_4_3, t_4_4, t_4_5, t_4_6, t_4_7, t_4_8, t_4_9, t_4_10, t_4_11, t_4_12, t_3_14, t_3_15, t_3_16))) else (some (e_3, 0, t_3_0, t_3_1, t_3_2, t_3_3, t_3_4, t_3_5, t_3_6, t_3_7, t_3_8, t_3_9, t_3_10, t_3_11, t_3_12, t_3_13, t_3_14, t_3_15, t_3_16))) _
      refine zz_ok_ite (fun c34 => ?_) (fun c34 => ?_)
      · skip
        refine zz_ok_bind (s_X7_blocks K hK n0 n1 n2 n3 n4 n5 n6 t_3_1 t_3_2 t_3_3 t_3_4 t_3_5 t_3_6 t_3_7 t_3_8 t_3_9 t_3_10 t_3_11 t_3_12 t_3_13 (by omega) (by omega) (by omega) (by omega) (by omega) (by omega) (by omega) (by omega) (by omega) (by omega) (by omega) (by omega) (by omega)) ?_
        intro z35 hz35
        obtain ⟨r_4, t_4_0, t_4_1, t_4_2, t_4_3, t_4_4, t_4_5, t_4_6, t_4_7, t_4_8, t_4_9, t_4_10, t_4_11, t_4_12⟩ := z35
        have q36 : r_4.toInt = t_3_2.toInt := hz35.1
        have q37 : t_4_0.toInt = t_3_1.toInt := hz35.2.1
        have q38 : t_4_1.toInt = t_3_2.toInt := hz35.2.2.1
        have q39 : 0 ≤ t_4_9.toInt := hz35.2.2.2.1
        have q40 : t_4_9.toInt ≤ 512 := hz35.2.2.2.2
        have g41 := zz_rg r_4
        have g42 := zz_rg t_4_0
        have g43 := zz_rg t_4_1
        have g44 := zz_rg t_4_2
        have g45 := zz_rg t_4_3
        have g46 := zz_rg t_4_9
        have g47 := zz_rg t_4_10
        show zz_ok (if r_4 < ((200 : Int32)) then ((m_X5_spanOf K n0 n1 n2 n3 n4 n5 n6 n7 n8 p1 t_3_14 t_4_0 t_4_1 t_4_2 t_4_3 t_4_4 t_4_5 t_4_6 t_4_7 t_4_8 t_4_9 t_4_10 t_4_11 t_4_12 t_3_15 t_3_16).bind fun ⟨r_6, t_6_0, t_6_1, t_6_2, t_6_3, t_6_4, t_6_5, t_6_6, t_6_7, t_6_8, t_6_9, t_6_10, t_6_11, t_6_12, t_6_13, t_6_14, t_6_15⟩ => (m_X5_take K n0 n1 n2 n3 n4 n5 n6 n7 n8 r_6 t_6_0 t_6_1 t_6_2 t_6_3 t_6_4 t_6_5 t_6_6 t_6_7 t_6_8 t_6_9 t_6_10 t_6_11 t_6_12 t_6_13 t_6_14 t_6_15).bind fun ⟨r_7, t_7_0, t_7_1, t_7_2, t_7_3, t_7_4, t_7_5, t_7_6, t_7_7, t_7_8, t_7_9, t_7_10, t_7_11, t_7_12, t_7_13, t_7_14, t_7_15⟩ => if r_7 = ((-1 : Int32)) then (some ("", (-1 : Int32), t_3_0, t_7_1, t_7_2, t_7_3, t_7_4, t_7_5, t_7_6, t_7_7, t_7_8, t_7_9, t_7_10, t_7_11, t_7_12, t_7_13, t_7_0, t_7_14, t_7_15)) else ((m_X7_settle K n0 n1 n2 n3 n4 n5 n6 r_7 r_6 p1 t_7_1 t_7_2 t_7_3 t_7_4 t_7_5 t_7_6 t_7_7 t_7_8 t_7_9 t_7_10 t_7_11 t_7_12 t_7_13).bind fun ⟨r_9, t_9_0, t_9_1, t_9_2, t_9_3, t_9_4, t_9_5, t_9_6, t_9_7, t_9_8, t_9_9, t_9_10, t_9_11, t_9_12⟩ => some ("", r_9, t_3_0, t_9_0, t_9_1, t_9_2, t_9_3, t_9_4, t_9_5, t_9_6, t_9_7, t_9_8, t_9_9, t_9_10, t_9_11, t_9_12, t_7_0, t_7_14, t_7_15))) else (some ("java/lang/IndexOutOfBoundsException", 0, t_3_0, t_4_0, t_4_1, t_4_2, t_4_3, t_4_4, t_4_5, t_4_6, t_4_7, t_4_8, t_4_9, t_4_10, t_4_11, t_4_12, t_3_14, t_3_15, t_3_16))) _
        have l49 : (200 : Int32).toInt = 200 := rfl
        refine zz_ok_ite (fun c48 => ?_) (fun c48 => ?_)
        · have c48 := Int32.lt_iff_toInt_lt.mp c48
          refine zz_ok_bind (s_X5_spanOf K hK n0 n1 n2 n3 n4 n5 n6 n7 n8 p1 t_3_14 t_4_0 t_4_1 t_4_2 t_4_3 t_4_4 t_4_5 t_4_6 t_4_7 t_4_8 t_4_9 t_4_10 t_4_11 t_4_12 t_3_15 t_3_16 (by omega) (by omega) (by omega) (by omega) (by omega) (by omega) (by omega) (by omega) (by omega) (by omega) (by omega) (by omega) (by omega) (by omega) (by omega) (by omega) (by omega) (by omega) (by omega)) ?_
          intro z50 hz50
          obtain ⟨r_6, t_6_0, t_6_1, t_6_2, t_6_3, t_6_4, t_6_5, t_6_6, t_6_7, t_6_8, t_6_9, t_6_10, t_6_11, t_6_12, t_6_13, t_6_14, t_6_15⟩ := z50
          have q51 : 1 ≤ r_6.toInt := hz50.1
          have q52 : r_6.toInt ≤ 2000 := hz50.2.1
          have q53 : t_6_1.toInt = t_4_0.toInt := hz50.2.2.1
          have q54 : t_6_2.toInt = t_4_1.toInt := hz50.2.2.2.1
          have q55 : 0 ≤ t_6_10.toInt := hz50.2.2.2.2.1
          have q56 : t_6_10.toInt ≤ 512 := hz50.2.2.2.2.2.1
          have q57 : t_6_0.toInt = t_3_14.toInt := hz50.2.2.2.2.2.2
          have g58 := zz_rg r_6
          have g59 := zz_rg t_6_0
          have g60 := zz_rg t_6_1
          have g61 := zz_rg t_6_2
          have g62 := zz_rg t_6_3
          have g63 := zz_rg t_6_4
          have g64 := zz_rg t_6_10
          have g65 := zz_rg t_6_11
          show zz_ok ((m_X5_take K n0 n1 n2 n3 n4 n5 n6 n7 n8 r_6 t_6_0 t_6_1 t_6_2 t_6_3 t_6_4 t_6_5 t_6_6 t_6_7 t_6_8 t_6_9 t_6_10 t_6_11 t_6_12 t_6_13 t_6_14 t_6_15).bind fun ⟨r_7, t_7_0, t_7_1, t_7_2, t_7_3, t_7_4, t_7_5, t_7_6, t_7_7, t_7_8, t_7_9, t_7_10, t_7_11, t_7_12, t_7_13, t_7_14, t_7_15⟩ => if r_7 = ((-1 : Int32)) then (some ("", (-1 : Int32), t_3_0, t_7_1, t_7_2, t_7_3, t_7_4, t_7_5, t_7_6, t_7_7, t_7_8, t_7_9, t_7_10, t_7_11, t_7_12, t_7_13, t_7_0, t_7_14, t_7_15)) else ((m_X7_settle K n0 n1 n2 n3 n4 n5 n6 r_7 r_6 p1 t_7_1 t_7_2 t_7_3 t_7_4 t_7_5 t_7_6 t_7_7 t_7_8 t_7_9 t_7_10 t_7_11 t_7_12 t_7_13).bind fun ⟨r_9, t_9_0, t_9_1, t_9_2, t_9_3, t_9_4, t_9_5, t_9_6, t_9_7, t_9_8, t_9_9, t_9_10, t_9_11, t_9_12⟩ => some ("", r_9, t_3_0, t_9_0, t_9_1, t_9_2, t_9_3, t_9_4, t_9_5, t_9_6, t_9_7, t_9_8, t_9_9, t_9_10, t_9_11, t_9_12, t_7_0, t_7_14, t_7_15))) _
          refine zz_ok_bind (s_X5_take K hK n0 n1 n2 n3 n4 n5 n6 n7 n8 r_6 t_6_0 t_6_1 t_6_2 t_6_3 t_6_4 t_6_5 t_6_6 t_6_7 t_6_8 t_6_9 t_6_10 t_6_11 t_6_12 t_6_13 t_6_14 t_6_15 (by omega) (by omega) (by omega) (by omega) (by omega) (by omega) (by omega) (by omega) (by omega) (by omega) (by omega) (by omega) (by omega) (by omega) (by omega) (by omega) (by omega) (by omega)) ?_
          intro z66 hz66
          obtain ⟨r_7, t_7_0, t_7_1, t_7_2, t_7_3, t_7_4, t_7_5, t_7_6, t_7_7, t_7_8, t_7_9, t_7_10, t_7_11, t_7_12, t_7_13, t_7_14, t_7_15⟩ := z66
          have q67 : t_7_1.toInt = t_6_1.toInt := hz66.1
          have q68 : t_7_2.toInt = t_6_2.toInt := hz66.2.1
          have q69 : 0 ≤ t_7_10.toInt := hz66.2.2.1
          have q70 : t_7_10.toInt ≤ 512 := hz66.2.2.2.1
          have q71 : t_7_0.toInt = t_6_0.toInt := hz66.2.2.2.2
          have g72 := zz_rg r_7
          have g73 := zz_rg t_7_0
          have g74 := zz_rg t_7_1
          have g75 := zz_rg t_7_2
          have g76 := zz_rg t_7_3
          have g77 := zz_rg t_7_4
          have g78 := zz_rg t_7_10
          have g79 := zz_rg t_7_11
          show zz_ok (if r_7 = ((-1 : Int32)) then (some ("", (-1 : Int32), t_3_0, t_7_1, t_7_2, t_7_3, t_7_4, t_7_5, t_7_6, t_7_7, t_7_8, t_7_9, t_7_10, t_7_11, t_7_12, t_7_13, t_7_0, t_7_14, t_7_15)) else ((m_X7_settle K n0 n1 n2 n3 n4 n5 n6 r_7 r_6 p1 t_7_1 t_7_2 t_7_3 t_7_4 t_7_5 t_7_6 t_7_7 t_7_8 t_7_9 t_7_10 t_7_11 t_7_12 t_7_13).bind fun ⟨r_9, t_9_0, t_9_1, t_9_2, t_9_3, t_9_4, t_9_5, t_9_6, t_9_7, t_9_8, t_9_9, t_9_10, t_9_11, t_9_12⟩ => some ("", r_9, t_3_0, t_9_0, t_9_1, t_9_2, t_9_3, t_9_4, t_9_5, t_9_6, t_9_7, t_9_8, t_9_9, t_9_10, t_9_11, t_9_12, t_7_0, t_7_14, t_7_15))) _
          have l81 : (-1 : Int32).toInt = -1 := rfl
          refine zz_ok_ite (fun c80 => ?_) (fun c80 => ?_)
          · have c80 := congrArg Int32.toInt c80
            refine zz_ok_some ?_
            show ("") ∈ (["", "java/lang/IllegalArgumentException", "java/lang/IllegalStateException", "java/lang/IndexOutOfBoundsException"] : List String) ∧ t_3_0.toInt = s0.toInt ∧ 0 ≤ t_7_1.toInt ∧ t_7_1.toInt ≤ 1024 ∧ 0 ≤ t_7_2.toInt ∧ t_7_2.toInt ≤ 200 ∧ 0 ≤ t_7_10.toInt ∧ t_7_10.toInt ≤ 512 ∧ 0 ≤ t_7_0.toInt ∧ t_7_0.toInt ≤ 32
            exact ⟨by decide, by omega, by omega, by omega, by omega, by omega, by omega, by omega, by omega, by omega⟩
          · have c80 := zz_neq c80
            refine zz_ok_bind (s_X7_settle K hK n0 n1 n2 n3 n4 n5 n6 r_7 r_6 p1 t_7_1 t_7_2 t_7_3 t_7_4 t_7_5 t_7_6 t_7_7 t_7_8 t_7_9 t_7_10 t_7_11 t_7_12 t_7_13 (by omega) (by omega) (by omega) (by omega) (by omega) (by omega) (by omega) (by omega) (by omega) (by omega) (by omega) (by omega) (by omega)) ?_
            intro z82 hz82
            obtain ⟨r_9, t_9_0, t_9_1, t_9_2, t_9_3, t_9_4, t_9_5, t_9_6, t_9_7, t_9_8, t_9_9, t_9_10, t_9_11, t_9_12⟩ := z82
            have q83 : t_9_0.toInt = t_7_1.toInt := hz82.1
            have q84 : 0 ≤ t_9_1.toInt := hz82.2.1
            have q85 : t_9_1.toInt ≤ 200 := hz82.2.2.1
            have q86 : 0 ≤ t_9_9.toInt := hz82.2.2.2.1
            have q87 : t_9_9.toInt ≤ 512 := hz82.2.2.2.2
            have g88 := zz_rg r_9
            have g89 := zz_rg t_9_0
            have g90 := zz_rg t_9_1
            have g91 := zz_rg t_9_2
            have g92 := zz_rg t_9_3
            have g93 := zz_rg t_9_9
            have g94 := zz_rg t_9_10
            show zz_ok (some ("", r_9, t_3_0, t_9_0, t_9_1, t_9_2, t_9_3, t_9_4, t_9_5, t_9_6, t_9_7, t_9_8, t_9_9, t_9_10, t_9_11, t_9_12, t_7_0, t_7_14, t_7_15)) _
            refine zz_ok_some ?_
            show ("") ∈ (["", "java/lang/IllegalArgumentException", "java/lang/IllegalStateException", "java/lang/IndexOutOfBoundsException"] : List String) ∧ t_3_0.toInt = s0.toInt ∧ 0 ≤ t_9_0.toInt ∧ t_9_0.toInt ≤ 1024 ∧ 0 ≤ t_9_1.toInt ∧ t_9_1.toInt ≤ 200 ∧ 0 ≤ t_9_9.toInt ∧ t_9_9.toInt ≤ 512 ∧ 0 ≤ t_7_0.toInt ∧ t_7_0.toInt ≤ 32
            exact ⟨by decide, by omega, by omega, by omega, by omega, by omega, by omega, by omega, by omega, by omega⟩
        · have c48 := zz_nlt c48
          have l95 : (0 : Int32).toInt = 0 := rfl
          refine zz_ok_some ?_
          show ("java/lang/IndexOutOfBoundsException") ∈ (["", "java/lang/IllegalArgumentException", "java/lang/IllegalStateException", "java/lang/IndexOutOfBoundsException"] : List String) ∧ t_3_0.toInt = s0.toInt ∧ 0 ≤ t_4_0.toInt ∧ t_4_0.toInt ≤ 1024 ∧ 0 ≤ t_4_1.toInt ∧ t_4_1.toInt ≤ 200 ∧ 0 ≤ t_4_9.toInt ∧ t_4_9.toInt ≤ 512 ∧ 0 ≤ t_3_14.toInt ∧ t_3_14.toInt ≤ 32
          exact ⟨by decide, by omega, by omega, by omega, by omega, by omega, by omega, by omega, by omega, by omega⟩
      · skip
        have l96 : (0 : Int32).toInt = 0 := rfl
        refine zz_ok_some ?_
        show e_3 ∈ (["", "java/lang/IllegalArgumentException", "java/lang/IllegalStateException", "java/lang/IndexOutOfBoundsException"] : List String) ∧ t_3_0.toInt = s0.toInt ∧ 0 ≤ t_3_1.toInt ∧ t_3_1.toInt ≤ 1024 ∧ 0 ≤ t_3_2.toInt ∧ t_3_2.toInt ≤ 200 ∧ 0 ≤ t_3_10.toInt ∧ t_3_10.toInt ≤ 512 ∧ 0 ≤ t_3_14.toInt ∧ t_3_14.toInt ≤ 32
        exact ⟨zz_mem q16 (by decide), by omega, by omega, by omega, by omega, by omega, by omega, by omega, by omega, by omega⟩
    · have c13 := zz_nle c13
      have l97 : (0 : Int32).toInt = 0 := rfl
      refine zz_ok_some ?_
      show ("java/lang/IllegalArgumentException") ∈ (["", "java/lang/IllegalArgumentException", "java/lang/IllegalStateException", "java/lang/IndexOutOfBoundsException"] : List String) ∧ s0.toInt = s0.toInt ∧ 0 ≤ s1.toInt ∧ s1.toInt ≤ 1024 ∧ 0 ≤ s2.toInt ∧ s2.toInt ≤ 200 ∧ 0 ≤ s10.toInt ∧ s10.toInt ≤ 512 ∧ 0 ≤ s14.toInt ∧ s14.toInt ≤ 32
      exact ⟨by decide, by omega, by omega, by omega, by omega, by omega, by omega, by omega, by omega, by omega⟩
set_option maxHeartbeats 4000000 in
theorem s_X11_back_X5 (K : Nat) (hK : 1099511627776 ≤ K) (n0 : Nat) (n1 : Nat) (n2 : Nat) (n3 : Nat) (n4 : Nat) (n5 : Nat) (n6 : Nat) (n7 : Nat) (n8 : Nat) (p1 : Int32) (s0 : Int32) (s1 : Int32) (s2 : Int32) (s3 : Int32) (s4 : Int32) (s5 : Nat → Int32) (s6 : Nat → Int32) (s7 : Nat → Int32) (s8 : Nat → Int32) (s9 : Nat → Int32) (s10 : Int32) (s11 : Int32) (s12 : Nat → Int32) (s13 : Nat → Int32) (s14 : Int32) (s15 : Nat → Int32) (s16 : Nat → Int32) (a0 : n0 = 1024) (a1 : n1 = 200) (a2 : n2 = 200) (a3 : n3 = 200) (a4 : n4 = 200) (a5 : n5 = 512) (a6 : n6 = 512) (a7 : n7 = 32) (a8 : n8 = 32) (a9 : 0 ≤ s1.toInt) (a10 : s1.toInt ≤ 1024) (a11 : 0 ≤ s2.toInt) (a12 : s2.toInt ≤ 200) (a13 : 0 ≤ s10.toInt) (a14 : s10.toInt ≤ 512) (a15 : 0 ≤ s14.toInt) (a16 : s14.toInt ≤ 32) : zz_ok (m_X11_back_X5 K n0 n1 n2 n3 n4 n5 n6 n7 n8 p1 s0 s1 s2 s3 s4 s5 s6 s7 s8 s9 s10 s11 s12 s13 s14 s15 s16) (fun z => z.1 ∈ (["", "java/lang/IllegalStateException", "java/util/NoSuchElementException"] : List String) ∧ z.2.2.1.toInt = s0.toInt ∧ 0 ≤ z.2.2.2.1.toInt ∧ z.2.2.2.1.toInt ≤ 1024 ∧ 0 ≤ z.2.2.2.2.1.toInt ∧ z.2.2.2.2.1.toInt ≤ 200 ∧ 0 ≤ z.2.2.2.2.2.2.2.2.2.2.2.2.1.toInt ∧ z.2.2.2.2.2.2.2.2.2.2.2.2.1.toInt ≤ 512 ∧ 0 ≤ z.2.2.2.2.2.2.2.2.2.2.2.2.2.2.2.2.1.toInt ∧ z.2.2.2.2.2.2.2.2.2.2.2.2.2.2.2.2.1.toInt ≤ 32) := by
  have g1 := zz_rg p1
  have g2 := zz_rg s0
  have g3 := zz_rg s1
  have g4 := zz_rg s2
  have g5 := zz_rg s3
  have g6 := zz_rg s4
  have g7 := zz_rg s10
  have g8 := zz_rg s11
  have g9 := zz_rg s14
  unfold m_X11_back_X5
  refine zz_ok_bind (s_X11_needRoom_X5 K hK n0 n1 n2 n3 n4 n5 n6 n7 n8 s0 s1 s2 s3 s4 s5 s6 s7 s8 s9 s10 s11 s12 s13 s14 s15 s16 (by omega) (by omega) (by omega) (by omega) (by omega) (by omega) (by omega) (by omega) (by omega) (by omega) (by omega) (by omega) (by omega) (by omega) (by omega) (by omega) (by omega)) ?_
  intro z10 hz10
  obtain ⟨e_1, t_1_0, t_1_1, t_1_2, t_1_3, t_1_4, t_1_5, t_1_6, t_1_7, t_1_8, t_1_9, t_1_10, t_1_11, t_1_12, t_1_13, t_1_14, t_1_15, t_1_16⟩ := z10
  have q11 : e_1 ∈ (["", "java/lang/IllegalStateException"] : List String) := hz10.1
  have q12 : t_1_0.toInt = s0.toInt := hz10.2.1
  have q13 : 0 ≤ t_1_1.toInt := hz10.2.2.1
  have q14 : t_1_1.toInt ≤ 1024 := hz10.2.2.2.1
  have q15 : 0 ≤ t_1_2.toInt := hz10.2.2.2.2.1
  have q16 : t_1_2.toInt ≤ 200 := hz10.2.2.2.2.2.1
  have q17 : 0 ≤ t_1_10.toInt := hz10.2.2.2.2.2.2.1
  have q18 : t_1_10.toInt ≤ 512 := hz10.2.2.2.2.2.2.2.1
  have q19 : 0 ≤ t_1_14.toInt := hz10.2.2.2.2.2.2.2.2.1
  have q20 : t_1_14.toInt ≤ 32 := hz10.2.2.2.2.2.2.2.2.2
  have g21 := zz_rg t_1_0
  have g22 := zz_rg t_1_1
  have g23 := zz_rg t_1_2
  have g24 := zz_rg t_1_3
  have g25 := zz_rg t_1_4
  have g26 := zz_rg t_1_10
  have g27 := zz_rg t_1_11
  have g28 := zz_rg t_1_14
  show zz_ok (if e_1 = "" then ((m_X11_needBlock_X5 K n0 n1 n2 n3 n4 n5 n6 n7 n8 p1 t_1_0 t_1_1 t_1_2 t_1_3 t_1_4 t_1_5 t_1_6 t_1_7 t_1_8 t_1_9 t_1_10 t_1_11 t_1_12 t_1_13 t_1_14 t_1_15 t_1_16).bind fun ⟨e_2, r_2, t_2_0, t_2_1, t_2_2, t_2_3, t_2_4, t_2_5, t_2_6, t_2_7, t_2_8, t_2_9, t_2_10, t_2_11, t_2_12, t_2_13, t_2_14, t_2_15, t_2_16⟩ => if e_2 = "" then ((m_X7_placeOf K n0 n1 n2 n3 n4 n5 n6 r_2 t_2_1 t_2_2 t_2_3 t_2_4 t_2_5 t_2_6 t_2_7 t_2_8 t_2_9 t_2_10 t_2_11 t_2_12 t_2_13).bind fun ⟨r_3, t_3_0, t_3_1, t_3_2, t_3_3, t_3_4, t_3_5, t_3_6, t_3_7, t_3_8, t_3_9, t_3_10, t_3_11, t_3_12⟩ => (m_X7_spanOf K n0 n1 n2 n3 n4 n5 n6 r_2 t_3_0 t_3_1 t_3_2 t_3_3 t_3_4 t_3_5 t_3_6 t_3_7 t_3_8 t_3_9 t_3_10 t_3_11 t_3_12).bind fun ⟨r_4, t_4_0, t_4_1, t_4_2, t_4_3, t_4_4, t_4_5, t_4_6, t_4_7, t_4_8, t_4_9, t_4_10, t_4_11, t_4_12⟩ => (m_X7_remove K n0 n1 n2 n3 n4 n5 n6 r_2 t_4_0 t_4_1 t_4_2 t_4_3 t_4_4 t_4_5 t_4_6 t_4_7 t_4_8 t_4_9 t_4_10 t_4_11 t_4_12).bind fun ⟨t_5_0, t_5_1, t_5_2, t_5_3, t_5_4, t_5_5, t_5_6, t_5_7, t_5_8, t_5_9, t_5_10, t_5_11, t_5_12⟩ => (m_X5_takeBack K n0 n1 n2 n3 n4 n5 n6 n7 n8 r_3 r_4 t_2_14 t_5_0 t_5_1 t_5_2 t_5_3 t_5_4 t_5_5 t_5_6 t_5_7 t_5_8 t_5_9 t_5_10 t_5_11 t_5_12 t_2_15 t_2_16).bind fun ⟨t_6_0, t_6_1, t_6_2, t_6_3, t_6_4, t_6_5, t_6_6, t_6_7, t_6_8, t_6_9, t_6_10, t_6_11, t_6_12, t_6_13, t_6_14, t_6_15⟩ => some ("", r_3, t_2_0, t_6_1, t_6_2, t_6_3, t_6_4, t_6_5, t_6_6, t_6_7, t_6_8, t_6_9, t_6_10, t_6_11, t_6_12, t_6_13, t_6_0, t_6_14, t_6_15)) else (some (e_2, 0, t_2_0, t_2_1, t_2_2, t_2_3, t_2_4, t_2_5, t_2_6, t_2_7, t_2_8, t_2_9, t_2_10, t_2_11, t_2_12, t_2_13, t_2_14, t_2_15, t_2_16))) else (some (e_1, 0, t_1_0, t_1_1, t_1_2, t_1_3, t_1_4, t_1_5, t_1_6, t_1_7, t_1_8, t_1_9, t_1_10, t_1_11, t_1_12, t_1_13, t_1_14, t_1_15, t_1_16))) _
  refine zz_ok_ite (fun c29 => ?_) (fun c29 => ?_)
  · skip
    refine zz_ok_bind (s_X11_needBlock_X5 K hK n0 n1 n2 n3 n4 n5 n6 n7 n8 p1 t_1_0 t_1_1 t_1_2 t_1_3 t_1_4 t_1_5 t_1_6 t_1_7 t_1_8 t_1_9 t_1_10 t_1_11 t_1_12 t_1_13 t_1_14 t_1_15 t_1_16 (by omega) (by omega) (by omega) (by omega) (by omega) (by omega) (by omega) (by omega) (by omega) (by omega) (by omega) (by omega) (by omega) (by omega) (by omega) (by omega) (by omega)) ?_
    intro z30 hz30
    obtain ⟨e_2, r_2, t_2_0, t_2_1, t_2_2, t_2_3, t_2_4, t_2_5, t_2_6, t_2_7, t_2_8, t_2_9, t_2_10, t_2_11, t_2_12, t_2_13, t_2_14, t_2_15, t_2_16⟩ := z30
    have q31 : e_2 ∈ (["", "java/util/NoSuchElementException"] : List String) := hz30.1
    have q32 : t_2_0.toInt = t_1_0.toInt := hz30.2.1
    have q33 : 0 ≤ t_2_1.toInt := hz30.2.2.1
    have q34 : t_2_1.toInt ≤ 1024 := hz30.2.2.2.1
    have q35 : 0 ≤ t_2_2.toInt := hz30.2.2.2.2.1
    have q36 : t_2_2.toInt ≤ 200 := hz30.2.2.2.2.2.1
    have q37 : 0 ≤ t_2_10.toInt := hz30.2.2.2.2.2.2.1
    have q38 : t_2_10.toInt ≤ 512 := hz30.2.2.2.2.2.2.2.1
    have q39 : 0 ≤ t_2_14.toInt := hz30.2.2.2.2.2.2.2.2.1
    have q40 : t_2_14.toInt ≤ 32 := hz30.2.2.2.2.2.2.2.2.2
    have g41 := zz_rg r_2
    have g42 := zz_rg t_2_0
    have g43 := zz_rg t_2_1
    have g44 := zz_rg t_2_2
    have g45 := zz_rg t_2_3
    have g46 := zz_rg t_2_4
    have g47 := zz_rg t_2_10
    have g48 := zz_rg t_2_11
    have g49 := zz_rg t_2_14
    show zz_ok (if e_2 = "" then ((m_X7_placeOf K n0 n1 n2 n3 n4 n5 n6 r_2 t_2_1 t_2_2 t_2_3 t_2_4 t_2_5 t_2_6 t_2_7 t_2_8 t_2_9 t_2_10 t_2_11 t_2_12 t_2_13).bind fun ⟨r_3, t_3_0, t_3_1, t_3_2, t_3_3, t_3_4, t_3_5, t_3_6, t_3_7, t_3_8, t_3_9, t_3_10, t_3_11, t_3_12⟩ => (m_X7_spanOf K n0 n1 n2 n3 n4 n5 n6 r_2 t_3_0 t_3_1 t_3_2 t_3_3 t_3_4 t_3_5 t_3_6 t_3_7 t_3_8 t_3_9 t_3_10 t_3_11 t_3_12).bind fun ⟨r_4, t_4_0, t_4_1, t_4_2, t_4_3, t_4_4, t_4_5, t_4_6, t_4_7, t_4_8, t_4_9, t_4_10, t_4_11, t_4_12⟩ => (m_X7_remove K n0 n1 n2 n3 n4 n5 n6 r_2 t_4_0 t_4_1 t_4_2 t_4_3 t_4_4 t_4_5 t_4_6 t_4_7 t_4_8 t_4_9 t_4_10 t_4_11 t_4_12).bind fun ⟨t_5_0, t_5_1, t_5_2, t_5_3, t_5_4, t_5_5, t_5_6, t_5_7, t_5_8, t_5_9, t_5_10, t_5_11, t_5_12⟩ => (m_X5_takeBack K n0 n1 n2 n3 n4 n5 n6 n7 n8 r_3 r_4 t_2_14 t_5_0 t_5_1 t_5_2 t_5_3 t_5_4 t_5_5 t_5_6 t_5_7 t_5_8 t_5_9 t_5_10 t_5_11 t_5_12 t_2_15 t_2_16).bind fun ⟨t_6_0, t_6_1, t_6_2, t_6_3, t_6_4, t_6_5, t_6_6, t_6_7, t_6_8, t_6_9, t_6_10, t_6_11, t_6_12, t_6_13, t_6_14, t_6_15⟩ => some ("", r_3, t_2_0, t_6_1, t_6_2, t_6_3, t_6_4, t_6_5, t_6_6, t_6_7, t_6_8, t_6_9, t_6_10, t_6_11, t_6_12, t_6_13, t_6_0, t_6_14, t_6_15)) else (some (e_2, 0, t_2_0, t_2_1, t_2_2, t_2_3, t_2_4, t_2_5, t_2_6, t_2_7, t_2_8, t_2_9, t_2_10, t_2_11, t_2_12, t_2_13, t_2_14, t_2_15, t_2_16))) _
    refine zz_ok_ite (fun c50 => ?_) (fun c50 => ?_)
    · skip
      refine zz_ok_bind (s_X7_placeOf K hK n0 n1 n2 n3 n4 n5 n6 r_2 t_2_1 t_2_2 t_2_3 t_2_4 t_2_5 t_2_6 t_2_7 t_2_8 t_2_9 t_2_10 t_2_11 t_2_12 t_2_13 (by omega) (by omega) (by omega) (by omega) (by omega) (by omega) (by omega) (by omega) (by omega) (by omega) (by omega) (by omega) (by omega)) ?_
      intro z51 hz51
      obtain ⟨r_3, t_3_0, t_3_1, t_3_2, t_3_3, t_3_4, t_3_5, t_3_6, t_3_7, t_3_8, t_3_9, t_3_10, t_3_11, t_3_12⟩ := z51
      have q52 : t_3_0.toInt = t_2_1.toInt := hz51.1
      have q53 : t_3_1.toInt = t_2_2.toInt := hz51.2.1
      have q54 : 0 ≤ t_3_9.toInt := hz51.2.2.1
      have q55 : t_3_9.toInt ≤ 512 := hz51.2.2.2
      have g56 := zz_rg r_3
      have g57 := zz_rg t_3_0
      have g58 := zz_rg t_3_1
      have g59 := zz_rg t_3_2
      have g60 := zz_rg t_3_3
      have g61 := zz_rg t_3_9
      have g62 := zz_rg t_3_10
      show zz_ok ((m_X7_spanOf K n0 n1 n2 n3 n4 n5 n6 r_2 t_3_0 t_3_1 t_3_2 t_3_3 t_3_4 t_3_5 t_3_6 t_3_7 t_3_8 t_3_9 t_3_10 t_3_11 t_3_12).bind fun ⟨r_4, t_4_0, t_4_1, t_4_2, t_4_3, t_4_4, t_4_5, t_4_6, t_4_7, t_4_8, t_4_9, t_4_10, t_4_11, t_4_12⟩ => (m_X7_remove K n0 n1 n2 n3 n4 n5 n6 r_2 t_4_0 t_4_1 t_4_2 t_4_3 t_4_4 t_4_5 t_4_6 t_4_7 t_4_8 t_4_9 t_4_10 t_4_11 t_4_12).bind fun ⟨t_5_0, t_5_1, t_5_2, t_5_3, t_5_4, t_5_5, t_5_6, t_5_7, t_5_8, t_5_9, t_5_10, t_5_11, t_5_12⟩ => (m_X5_takeBack K n0 n1 n2 n3 n4 n5 n6 n7 n8 r_3 r_4 t_2_14 t_5_0 t_5_1 t_5_2 t_5_3 t_5_4 t_5_5 t_5_6 t_5_7 t_5_8 t_5_9 t_5_10 t_5_11 t_5_12 t_2_15 t_2_16).bind fun ⟨t_6_0, t_6_1, t_6_2, t_6_3, t_6_4, t_6_5, t_6_6, t_6_7, t_6_8, t_6_9, t_6_10, t_6_11, t_6_12, t_6_13, t_6_14, t_6_15⟩ => some ("", r_3, t_2_0, t_6_1, t_6_2, t_6_3, t_6_4, t_6_5, t_6_6, t_6_7, t_6_8, t_6_9, t_6_10, t_6_11, t_6_12, t_6_13, t_6_0, t_6_14, t_6_15)) _
      refine zz_ok_bind (s_X7_spanOf K hK n0 n1 n2 n3 n4 n5 n6 r_2 t_3_0 t_3_1 t_3_2 t_3_3 t_3_4 t_3_5 t_3_6 t_3_7 t_3_8 t_3_9 t_3_10 t_3_11 t_3_12 (by omega) (by omega) (by omega) (by omega) (by omega) (by omega) (by omega) (by omega) (by omega) (by omega) (by omega) (by omega) (by omega)) ?_
      intro z63 hz63
      obtain ⟨r_4, t_4_0, t_4_1, t_4_2, t_4_3, t_4_4, t_4_5, t_4_6, t_4_7, t_4_8, t_4_9, t_4_10, t_4_11, t_4_12⟩ := z63
      have q64 : t_4_0.toInt = t_3_0.toInt := hz63.1
      have q65 : t_4_1.toInt = t_3_1.toInt := hz63.2.1
      have q66 : 0 ≤ t_4_9.toInt := hz63.2.2.1
      have q67 : t_4_9.toInt ≤ 512 := hz63.2.2.2
      have g68 := zz_rg r_4
      have g69 := zz_rg t_4_0
      have g70 := zz_rg t_4_1
      have g71 := zz_rg t_4_2
      have g72 := zz_rg t_4_3
      have g73 := zz_rg t_4_9
      have g74 := zz_rg t_4_10
      show zz_ok ((m_X7_remove K n0 n1 n2 n3 n4 n5 n6 r_2 t_4_0 t_4_1 t_4_2 t_4_3 t_4_4 t_4_5 t_4_6 t_4_7 t_4_8 t_4_9 t_4_10 t_4_11 t_4_12).bind fun ⟨t_5_0, t_5_1, t_5_2, t_5_3, t_5_4, t_5_5, t_5_6, t_5_7, t_5_8, t_5_9, t_5_10, t_5_11, t_5_12⟩ => (m_X5_takeBack K n0 n1 n2 n3 n4 n5 n6 n7 n8 r_3 r_4 t_2_14 t_5_0 t_5_1 t_5_2 t_5_3 t_5_4 t_5_5 t_5_6 t_5_7 t_5_8 t_5_9 t_5_10 t_5_11 t_5_12 t_2_15 t_2_16).bind fun ⟨t_6_0, t_6_1, t_6_2, t_6_3, t_6_4, t_6_5, t_6_6, t_6_7, t_6_8, t_6_9, t_6_10, t_6_11, t_6_12, t_6_13, t_6_14, t_6_15⟩ => some ("", r_3, t_2_0, t_6_1, t_6_2, t_6_3, t_6_4, t_6_5, t_6_6, t_6_7, t_6_8, t_6_9, t_6_10, t_6_11, t_6_12, t_6_13, t_6_0, t_6_14, t_6_15)) _
      refine zz_ok_bind (s_X7_remove K hK n0 n1 n2 n3 n4 n5 n6 r_2 t_4_0 t_4_1 t_4_2 t_4_3 t_4_4 t_4_5 t_4_6 t_4_7 t_4_8 t_4_9 t_4_10 t_4_11 t_4_12 (by omega) (by omega) (by omega) (by omega) (by omega) (by omega) (by omega) (by omega) (by omega) (by omega) (by omega) (by omega) (by omega)) ?_
      intro z75 hz75
      obtain ⟨t_5_0, t_5_1, t_5_2, t_5_3, t_5_4, t_5_5, t_5_6, t_5_7, t_5_8, t_5_9, t_5_10, t_5_11, t_5_12⟩ := z75
      have q76 : t_5_0.toInt = t_4_0.toInt := hz75.1
      have q77 : 0 ≤ t_5_1.toInt := hz75.2.1
      have q78 : t_5_1.toInt ≤ 200 := hz75.2.2.1
      have q79 : 0 ≤ t_5_9.toInt := hz75.2.2.2.1
      have q80 : t_5_9.toInt ≤ 512 := hz75.2.2.2.2
      have g81 := zz_rg t_5_0
      have g82 := zz_rg t_5_1
      have g83 := zz_rg t_5_2
      have g84 := zz_rg t_5_3
      have g85 := zz_rg t_5_9
      have g86 := zz_rg t_5_10
      show zz_ok ((m_X5_takeBack K n0 n1 n2 n3 n4 n5 n6 n7 n8 r_3 r_4 t_2_14 t_5_0 t_5_1 t_5_2 t_5_3 t_5_4 t_5_5 t_5_6 t_5_7 t_5_8 t_5_9 t_5_10 t_5_11 t_5_12 t_2_15 t_2_16).bind fun ⟨t_6_0, t_6_1, t_6_2, t_6_3, t_6_4, t_6_5, t_6_6, t_6_7, t_6_8, t_6_9, t_6_10, t_6_11, t_6_12, t_6_13, t_6_14, t_6_15⟩ => some ("", r_3, t_2_0, t_6_1, t_6_2, t_6_3, t_6_4, t_6_5, t_6_6, t_6_7, t_6_8, t_6_9, t_6_10, t_6_11, t_6_12, t_6_13, t_6_0, t_6_14, t_6_15)) _
      refine zz_ok_bind (s_X5_takeBack K hK n0 n1 n2 n3 n4 n5 n6 n7 n8 r_3 r_4 t_2_14 t_5_0 t_5_1 t_5_2 t_5_3 t_5_4 t_5_5 t_5_6 t_5_7 t_5_8 t_5_9 t_5_10 t_5_11 t_5_12 t_2_15 t_2_16 (by omega) (by omega) (by omega) (by omega) (by omega) (by omega) (by omega) (by omega) (by omega) (by omega) (by omega) (by omega) (by omega) (by omega) (by omega) (by omega) (by omega)) ?_
      intro z87 hz87
      obtain ⟨t_6_0, t_6_1, t_6_2, t_6_3, t_6_4, t_6_5, t_6_6, t_6_7, t_6_8, t_6_9, t_6_10, t_6_11, t_6_12, t_6_13, t_6_14, t_6_15⟩ := z87
      have q88 : t_6_1.toInt = t_5_0.toInt := hz87.1
      have q89 : t_6_2.toInt = t_5_1.toInt := hz87.2.1
      have q90 : 0 ≤ t_6_10.toInt := hz87.2.2.1
      have q91 : t_6_10.toInt ≤ 512 := hz87.2.2.2.1
      have q92 : t_6_0.toInt = t_2_14.toInt := hz87.2.2.2.2
      have g93 := zz_rg t_6_0
      have g94 := zz_rg t_6_1
      have g95 := zz_rg t_6_2
      have g96 := zz_rg t_6_3
      have g97 := zz_rg t_6_4
      have g98 := zz_rg t_6_10
      have g99 := zz_rg t_6_11
      show zz_ok (some ("", r_3, t_2_0, t_6_1, t_6_2, t_6_3, t_6_4, t_6_5, t_6_6, t_6_7, t_6_8, t_6_9, t_6_10, t_6_11, t_6_12, t_6_13, t_6_0, t_6_14, t_6_15)) _
      refine zz_ok_some ?_
      show ("") ∈ (["", "java/lang/IllegalStateException", "java/util/NoSuchElementException"] : List String) ∧ t_2_0.toInt = s0.toInt ∧ 0 ≤ t_6_1.toInt ∧ t_6_1.toInt ≤ 1024 ∧ 0 ≤ t_6_2.toInt ∧ t_6_2.toInt ≤ 200 ∧ 0 ≤ t_6_10.toInt ∧ t_6_10.toInt ≤ 512 ∧ 0 ≤ t_6_0.toInt ∧ t_6_0.toInt ≤ 32
      exact ⟨by decide, by omega, by omega, by omega, by omega, by omega, by omega, by omega, by omega, by omega⟩
    · skip
      have l100 : (0 : Int32).toInt = 0 := rfl
      refine zz_ok_some ?_
      show e_2 ∈ (["", "java/lang/IllegalStateException", "java/util/NoSuchElementException"] : List String) ∧ t_2_0.toInt = s0.toInt ∧ 0 ≤ t_2_1.toInt ∧ t_2_1.toInt ≤ 1024 ∧ 0 ≤ t_2_2.toInt ∧ t_2_2.toInt ≤ 200 ∧ 0 ≤ t_2_10.toInt ∧ t_2_10.toInt ≤ 512 ∧ 0 ≤ t_2_14.toInt ∧ t_2_14.toInt ≤ 32
      exact ⟨zz_mem q31 (by decide), by omega, by omega, by omega, by omega, by omega, by omega, by omega, by omega, by omega⟩
  · skip
    have l101 : (0 : Int32).toInt = 0 := rfl
    refine zz_ok_some ?_
    show e_1 ∈ (["", "java/lang/IllegalStateException", "java/util/NoSuchElementException"] : List String) ∧ t_1_0.toInt = s0.toInt ∧ 0 ≤ t_1_1.toInt ∧ t_1_1.toInt ≤ 1024 ∧ 0 ≤ t_1_2.toInt ∧ t_1_2.toInt ≤ 200 ∧ 0 ≤ t_1_10.toInt ∧ t_1_10.toInt ≤ 512 ∧ 0 ≤ t_1_14.toInt ∧ t_1_14.toInt ≤ 32
    exact ⟨zz_mem q11 (by decide), by omega, by omega, by omega, by omega, by omega, by omega, by omega, by omega, by omega⟩
set_option maxHeartbeats 4000000 in
theorem s_X11_about_X5 (K : Nat) (hK : 1099511627776 ≤ K) (n0 : Nat) (n1 : Nat) (n2 : Nat) (n3 : Nat) (n4 : Nat) (n5 : Nat) (n6 : Nat) (n7 : Nat) (n8 : Nat) (p1 : Int32) (p2 : Int32) (s0 : Int32) (s1 : Int32) (s2 : Int32) (s3 : Int32) (s4 : Int32) (s5 : Nat → Int32) (s6 : Nat → Int32) (s7 : Nat → Int32) (s8 : Nat → Int32) (s9 : Nat → Int32) (s10 : Int32) (s11 : Int32) (s12 : Nat → Int32) (s13 : Nat → Int32) (s14 : Int32) (s15 : Nat → Int32) (s16 : Nat → Int32) (a0 : n0 = 1024) (a1 : n1 = 200) (a2 : n2 = 200) (a3 : n3 = 200) (a4 : n4 = 200) (a5 : n5 = 512) (a6 : n6 = 512) (a7 : n7 = 32) (a8 : n8 = 32) (a9 : 0 ≤ s1.toInt) (a10 : s1.toInt ≤ 1024) (a11 : 0 ≤ s2.toInt) (a12 : s2.toInt ≤ 200) (a13 : 0 ≤ s10.toInt) (a14 : s10.toInt ≤ 512) (a15 : 0 ≤ s14.toInt) (a16 : s14.toInt ≤ 32) : zz_ok (m_X11_about_X5 K n0 n1 n2 n3 n4 n5 n6 n7 n8 p1 p2 s0 s1 s2 s3 s4 s5 s6 s7 s8 s9 s10 s11 s12 s13 s14 s15 s16) (fun z => z.1 ∈ (["", "java/lang/IllegalArgumentException", "java/lang/IllegalStateException", "java/util/NoSuchElementException"] : List String) ∧ z.2.2.1.toInt = s0.toInt ∧ 0 ≤ z.2.2.2.1.toInt ∧ z.2.2.2.1.toInt ≤ 1024 ∧ 0 ≤ z.2.2.2.2.1.toInt ∧ z.2.2.2.2.1.toInt ≤ 200 ∧ 0 ≤ z.2.2.2.2.2.2.2.2.2.2.2.2.1.toInt ∧ z.2.2.2.2.2.2.2.2.2.2.2.2.1.toInt ≤ 512 ∧ 0 ≤ z.2.2.2.2.2.2.2.2.2.2.2.2.2.2.2.2.1.toInt ∧ z.2.2.2.2.2.2.2.2.2.2.2.2.2.2.2.2.1.toInt ≤ 32) := by
  have g1 := zz_rg p1
  have g2 := zz_rg p2
  have g3 := zz_rg s0
  have g4 := zz_rg s1
  have g5 := zz_rg s2
  have g6 := zz_rg s3
  have g7 := zz_rg s4
  have g8 := zz_rg s10
  have g9 := zz_rg s11
  have g10 := zz_rg s14
  unfold m_X11_about_X5
  have l12 : (0 : Int32).toInt = 0 := rfl
  refine zz_ok_ite (fun c11 => ?_) (fun c11 => ?_)
  · have c11 := Int32.lt_iff_toInt_lt.mp c11
    refine zz_ok_some ?_
    show ("java/lang/IllegalArgumentException") ∈ (["", "java/lang/IllegalArgumentException", "java/lang/IllegalStateException", "java/util/NoSuchElementException"] : List String) ∧ s0.toInt = s0.toInt ∧ 0 ≤ s1.toInt ∧ s1.toInt ≤ 1024 ∧ 0 ≤ s2.toInt ∧ s2.toInt ≤ 200 ∧ 0 ≤ s10.toInt ∧ s10.toInt ≤ 512 ∧ 0 ≤ s14.toInt ∧ s14.toInt ≤ 32
    exact ⟨by decide, by omega, by omega, by omega, by omega, by omega, by omega, by omega, by omega, by omega⟩
  · have c11 := zz_nlt c11
    have l14 : (2 : Int32).toInt = 2 := rfl
    refine zz_ok_ite (fun c13 => ?_) (fun c13 => ?_)
    · have c13 := Int32.le_iff_toInt_le.mp c13
      refine zz_ok_bind (s_X11_needRoom_X5 K hK n0 n1 n2 n3 n4 n5 n6 n7 n8 s0 s1 s2 s3 s4 s5 s6 s7 s8 s9 s10 s11 s12 s13 s14 s15 s16 (by omega) (by omega) (by omega) (by omega) (by omega) (by omega) (by omega) (by omega) (by omega) (by omega) (by omega) (by omega) (by omega) (by omega) (by omega) (by omega) (by omega)) ?_
      intro z15 hz15
      obtain ⟨e_3, t_3_0, t_3_1, t_3_2, t_3_3, t_3_4, t_3_5, t_3_6, t_3_7, t_3_8, t_3_9, t_3_10, t_3_11, t_3_12, t_3_13, t_3_14, t_3_15, t_3_16⟩ := z15
      have q16 : e_3 ∈ (["", "java/lang/IllegalStateException"] : List String) := hz15.1
      have q17 : t_3_0.toInt = s0.toInt := hz15.2.1
      have q18 : 0 ≤ t_3_1.toInt := hz15.2.2.1
      have q19 : t_3_1.toInt ≤ 1024 := hz15.2.2.2.1
      have q20 : 0 ≤ t_3_2.toInt := hz15.2.2.2.2.1
      have q21 : t_3_2.toInt ≤ 200 := hz15.2.2.2.2.2.1
      have q22 : 0 ≤ t_3_10.toInt := hz15.2.2.2.2.2.2.1
      have q23 : t_3_10.toInt ≤ 512 := hz15.2.2.2.2.2.2.2.1
      have q24 : 0 ≤ t_3_14.toInt := hz15.2.2.2.2.2.2.2.2.1
      have q25 : t_3_14.toInt ≤ 32 := hz15.2.2.2.2.2.2.2.2.2
      have g26 := zz_rg t_3_0
      have g27 := zz_rg t_3_1
      have g28 := zz_rg t_3_2
      have g29 := zz_rg t_3_3
      have g30 := zz_rg t_3_4
      have g31 := zz_rg t_3_10
      have g32 := zz_rg t_3_11
      have g33 := zz_rg t_3_14
      show zz_ok (if e_3 = "" then ((m_X11_needBlock_X5 K n0 n1 n2 n3 n4 n5 n6 n7 n8 p1 t_3_0 t_3_1 t_3_2 t_3_3 t_3_4 t_3_5 t_3_6 t_3_7 t_3_8 t_3_9 t_3_10 t_3_11 t_3_12 t_3_13 t_3_14 t_3_15 t_3_16).bind fun ⟨e_4, r_4, t_4_0, t_4_1, t_4_2, t_4_3, t_4_4, t_4_5, t_4_6, t_4_7, t_4_8, t_4_9, t_4_10, t_4_11, t_4_12, t_4_13, t_4_14, t_4_15, t_4_16⟩ => if e_4 = "" then (if p2 = 0 then ((m_X7_placeOf K n0 n1 n2 n3 n4 n5 n6 r_4 t_4_1 t_4_2 t_4_3 t_4_4 t_4_5 t_4_6 t_4_7 t_4_8 t_4_9 t_4_10 t_4_11 t_4_12 t_4_13).bind fun ⟨r_9, t_9_0, t_9_1, t_9_2, t_9_3, t_9_4, t_9_5, t_9_6, t_9_7, t_9_8, t_9_9, t_9_10, t_9_11, t_9_12⟩ => some ("", r_9, t_4_0, t_9_0, t_9_1, t_9_2, t_9_3, t_9_4, t_9_5, t_9_6, t_9_7, t_9_8, t_9_9, t_9_10, t_9_11, t_9_12, t_4_14, t_4_15, t_4_16)) else (if p2 = ((1 : Int32)) then ((m_X7_spanOf K n0 n1 n2 n3 n4 n5 n6 r_4 t_4_1 t_4_2 t_4_3 t_4_4 t_4_5 t_4_6 t_4_7 t_4_8 t_4_9 t_4_10 t_4_11 t_4_12 t_4_13).bind fun ⟨r_8, t_8_0, t_8_1, t_8_2, t_8_3, t_8_4, t_8_5, t_8_6, t_8_7, t_8_8, t_8_9, t_8_10, t_8_11, t_8_12⟩ => some ("", r_8, t_4_0, t_8_0, t_8_1, t_8_2, t_8_3, t_8_4, t_8_5, t_8_6, t_8_7, t_8_8, t_8_9, t_8_10, t_8_11, t_8_12, t_4_14, t_4_15, t_4_16)) else ((m_X7_askedOf K n0 n1 n2 n3 n4 n5 n6 r_4 t_4_1 t_4_2 t_4_3 t_4_4 t_4_5 t_4_6 t_4_7 t_4_8 t_4_9 t_4_10 t_4_11 t_4_12 t_4_13).bind fun ⟨r_7, t_7_0, t_7_1, t_7_2, t_7_3, t_7_4, t_7_5, t_7_6, t_7_7, t_7_8, t_7_9, t_7_10, t_7_11, t_7_12⟩ => some ("", r_7, t_4_0, t_7_0, t_7_1, t_7_2, t_7_3, t_7_4, t_7_5, t_7_6, t_7_7, t_7_8, t_7_9, t_7_10, t_7_11, t_7_12, t_4_14, t_4_15, t_4_16)))) else (some (e_4, 0, t_4_0, t_4_1, t_4_2, t_4_3, t_4_4, t_4_5, t_4_6, t_4_7, t_4_8, t_4_9, t_4_10, t_4_11, t_4_12, t_4_13, t_4_14, t_4_15, t_4_16))) else (some (e_3, 0, t_3_0, t_3_1, t_3_2, t_3_3, t_3_4, t_3_5, t_3_6, t_3_7, t_3_8, t_3_9, t_3_10, t_3_11, t_3_12, t_3_13, t_3_14, t_3_15, t_3_16))) _
      refine zz_ok_ite (fun c34 => ?_) (fun c34 => ?_)
      · skip
        refine zz_ok_bind (s_X11_needBlock_X5 K hK n0 n1 n2 n3 n4 n5 n6 n7 n8 p1 t_3_0 t_3_1 t_3_2 t_3_3 t_3_4 t_3_5 t_3_6 t_3_7 t_3_8 t_3_9 t_3_10 t_3_11 t_3_12 t_3_13 t_3_14 t_3_15 t_3_16 (by omega) (by omega) (by omega) (by omega) (by omega) (by omega) (by omega) (by omega) (by omega) (by omega) (by omega) (by omega) (by omega) (by omega) (by omega) (by omega) (by omega)) ?_
        intro z35 hz35
        obtain ⟨e_4, r_4, t_4_0, t_4_1, t_4_2, t_4_3, t_4_4, t_4_5, t_4_6, t_4_7, t_4_8, t_4_9, t_4_10, t_4_11, t_4_12, t_4_13, t_4_14, t_4_15, t_4_16⟩ := z35
        have q36 : e_4 ∈ (["", "java/util/NoSuchElementException"] : List String) := hz35.1
        have q37 : t_4_0.toInt = t_3_0.toInt := hz35.2.1
        have q38 : 0 ≤ t_4_1.toInt := hz35.2.2.1
        have q39 : t_4_1.toInt ≤ 1024 := hz35.2.2.2.1
        have q40 : 0 ≤ t_4_2.toInt := hz35.2.2.2.2.1
        have q41 : t_4_2.toInt ≤ 200 := hz35.2.2.2.2.2.1
        have q42 : 0 ≤ t_4_10.toInt := hz35.2.2.2.2.2.2.1
        have q43 : t_4_10.toInt ≤ 512 := hz35.2.2.2.2.2.2.2.1
        have q44 : 0 ≤ t_4_14.toInt := hz35.2.2.2.2.2.2.2.2.1
        have q45 : t_4_14.toInt ≤ 32 := hz35.2.2.2.2.2.2.2.2.2
        have g46 := zz_rg r_4
        have g47 := zz_rg t_4_0
        have g48 := zz_rg t_4_1
        have g49 := zz_rg t_4_2
        have g50 := zz_rg t_4_3
        have g51 := zz_rg t_4_4
        have g52 := zz_rg t_4_10
        have g53 := zz_rg t_4_11
        have g54 := zz_rg t_4_14
        show zz_ok (if e_4 = "" then (if p2 = 0 then ((m_X7_placeOf K n0 n1 n2 n3 n4 n5 n6 r_4 t_4_1 t_4_2 t_4_3 t_4_4 t_4_5 t_4_6 t_4_7 t_4_8 t_4_9 t_4_10 t_4_11 t_4_12 t_4_13).bind fun ⟨r_9, t_9_0, t_9_1, t_9_2, t_9_3, t_9_4, t_9_5, t_9_6, t_9_7, t_9_8, t_9_9, t_9_10, t_9_11, t_9_12⟩ => some ("", r_9, t_4_0, t_9_0, t_9_1, t_9_2, t_9_3, t_9_4, t_9_5, t_9_6, t_9_7, t_9_8, t_9_9, t_9_10, t_9_11, t_9_12, t_4_14, t_4_15, t_4_16)) else (if p2 = ((1 : Int32)) then ((m_X7_spanOf K n0 n1 n2 n3 n4 n5 n6 r_4 t_4_1 t_4_2 t_4_3 t_4_4 t_4_5 t_4_6 t_4_7 t_4_8 t_4_9 t_4_10 t_4_11 t_4_12 t_4_13).bind fun ⟨r_8, t_8_0, t_8_1, t_8_2, t_8_3, t_8_4, t_8_5, t_8_6, t_8_7, t_8_8, t_8_9, t_8_10, t_8_11, t_8_12⟩ => some ("", r_8, t_4_0, t_8_0, t_8_1, t_8_2, t_8_3, t_8_4, t_8_5, t_8_6, t_8_7, t_8_8, t_8_9, t_8_10, t_8_11, t_8_12, t_4_14, t_4_15, t_4_16)) else ((m_X7_askedOf K n0 n1 n2 n3 n4 n5 n6 r_4 t_4_1 t_4_2 t_4_3 t_4_4 t_4_5 t_4_6 t_4_7 t_4_8 t_4_9 t_4_10 t_4_11 t_4_12 t_4_13).bind fun ⟨r_7, t_7_0, t_7_1, t_7_2, t_7_3, t_7_4, t_7_5, t_7_6, t_7_7, t_7_8, t_7_9, t_7_10, t_7_11, t_7_12⟩ => some ("", r_7, t_4_0, t_7_0, t_7_1, t_7_2, t_7_3, t_7_4, t_7_5, t_7_6, t_7_7, t_7_8, t_7_9, t_7_10, t_7_11, t_7_12, t_4_14, t_4_15, t_4_16)))) else (some (e_4, 0, t_4_0, t_4_1, t_4_2, t_4_3, t_4_4, t_4_5, t_4_6, t_4_7, t_4_8, t_4_9, t_4_10, t_4_11, t_4_12, t_4_13, t_4_14, t_4_15, t_4_16))) _
        refine zz_ok_ite (fun c55 => ?_) (fun c55 => ?_)
        · skip
          refine zz_ok_ite (fun c56 => ?_) (fun c56 => ?_)
          · have c56 := congrArg Int32.toInt c56
            refine zz_ok_bind (s_X7_placeOf K hK n0 n1 n2 n3 n4 n5 n6 r_4 t_4_1 t_4_2 t_4_3 t_4_4 t_4_5 t_4_6 t_4_7 t_4_8 t_4_9 t_4_10 t_4_11 t_4_12 t_4_13 (by omega) (by omega) (by omega) (by omega) (by omega) (by omega) (by omega) (by omega) (by omega) (by omega) (by omega) (by omega) (by omega)) ?_
            intro z57 hz57
            obtain ⟨r_9, t_9_0, t_9_1, t_9_2, t_9_3, t_9_4, t_9_5, t_9_6, t_9_7, t_9_8, t_9_9, t_9_10, t_9_11, t_9_12⟩ := z57
            have q58 : t_9_0.toInt = t_4_1.toInt := hz57.1
            have q59 : t_9_1.toInt = t_4_2.toInt := hz57.2.1
            have q60 : 0 ≤ t_9_9.toInt := hz57.2.2.1
            have q61 : t_9_9.toInt ≤ 512 := hz57.2.2.2
            have g62 := zz_rg r_9
            have g63 := zz_rg t_9_0
            have g64 := zz_rg t_9_1
            have g65 := zz_rg t_9_2
            have g66 := zz_rg t_9_3
            have g67 := zz_rg t_9_9
            have g68 := zz_rg t_9_10
            show zz_ok (some ("", r_9, t_4_0, t_9_0, t_9_1, t_9_2, t_9_3, t_9_4, t_9_5, t_9_6, t_9_7, t_9_8, t_9_9, t_9_10, t_9_11, t_9_12, t_4_14, t_4_15, t_4_16)) _
            refine zz_ok_some ?_
            show ("") ∈ (["", "java/lang/IllegalArgumentException", "java/lang/IllegalStateException", "java/util/NoSuchElementException"] : List String) ∧ t_4_0.toInt = s0.toInt ∧ 0 ≤ t_9_0.toInt ∧ t_9_0.toInt ≤ 1024 ∧ 0 ≤ t_9_1.toInt ∧ t_9_1.toInt ≤ 200 ∧ 0 ≤ t_9_9.toInt ∧ t_9_9.toInt ≤ 512 ∧ 0 ≤ t_4_14.toInt ∧ t_4_14.toInt ≤ 32
            exact ⟨by decide, by omega, by omega, by omega, by omega, by omega, by omega, by omega, by omega, by omega⟩
          · have c56 := zz_neq c56
            have l70 : (1 : Int32).toInt = 1 := rfl
            refine zz_ok_ite (fun c69 => ?_) (fun c69 => ?_)
            · have c69 := congrArg Int32.toInt c69
              refine zz_ok_bind (s_X7_spanOf K hK n0 n1 n2 n3 n4 n5 n6 r_4 t_4_1 t_4_2 t_4_3 t_4_4 t_4_5 t_4_6 t_4_7 t_4_8 t_4_9 t_4_10 t_4_11 t_4_12 t_4_13 (by omega) (by omega) (by omega) (by omega) (by omega) (by omega) (by omega) (by omega) (by omega) (by omega) (by omega) (by omega) (by omega)) ?_
              intro z71 hz71
              obtain ⟨r_8, t_8_0, t_8_1, t_8_2, t_8_3, t_8_4, t_8_5, t_8_6, t_8_7, t_8_8, t_8_9, t_8_10, t_8_11, t_8_12⟩ := z71
              have q72 : t_8_0.toInt = t_4_1.toInt := hz71.1
              have q73 : t_8_1.toInt = t_4_2.toInt := hz71.2.1
              have q74 : 0 ≤ t_8_9.toInt := hz71.2.2.1
              have q75 : t_8_9.toInt ≤ 512 := hz71.2.2.2
              have g76 := zz_rg r_8
              have g77 := zz_rg t_8_0
              have g78 := zz_rg t_8_1
              have g79 := zz_rg t_8_2
              have g80 := zz_rg t_8_3
              have g81 := zz_rg t_8_9
              have g82 := zz_rg t_8_10
              show zz_ok (some ("", r_8, t_4_0, t_8_0, t_8_1, t_8_2, t_8_3, t_8_4, t_8_5, t_8_6, t_8_7, t_8_8, t_8_9, t_8_10, t_8_11, t_8_12, t_4_14, t_4_15, t_4_16)) _
              refine zz_ok_some ?_
              show ("") ∈ (["", "java/lang/IllegalArgumentException", "java/lang/IllegalStateException", "java/util/NoSuchElementException"] : List String) ∧ t_4_0.toInt = s0.toInt ∧ 0 ≤ t_8_0.toInt ∧ t_8_0.toInt ≤ 1024 ∧ 0 ≤ t_8_1.toInt ∧ t_8_1.toInt ≤ 200 ∧ 0 ≤ t_8_9.toInt ∧ t_8_9.toInt ≤ 512 ∧ 0 ≤ t_4_14.toInt ∧ t_4_14.toInt ≤ 32
              exact ⟨by decide, by omega, by omega, by omega, by omega, by omega, by omega, by omega, by omega, by omega⟩
            · have c69 := zz_neq c69
              refine zz_ok_bind (s_X7_askedOf K hK n0 n1 n2 n3 n4 n5 n6 r_4 t_4_1 t_4_2 t_4_3 t_4_4 t_4_5 t_4_6 t_4_7 t_4_8 t_4_9 t_4_10 t_4_11 t_4_12 t_4_13 (by omega) (by omega) (by omega) (by omega) (by omega) (by omega) (by omega) (by omega) (by omega) (by omega) (by omega) (by omega) (by omega)) ?_
              intro z83 hz83
              obtain ⟨r_7, t_7_0, t_7_1, t_7_2, t_7_3, t_7_4, t_7_5, t_7_6, t_7_7, t_7_8, t_7_9, t_7_10, t_7_11, t_7_12⟩ := z83
              have q84 : t_7_0.toInt = t_4_1.toInt := hz83.1
              have q85 : t_7_1.toInt = t_4_2.toInt := hz83.2.1
              have q86 : 0 ≤ t_7_9.toInt := hz83.2.2.1
              have q87 : t_7_9.toInt ≤ 512 := hz83.2.2.2
              have g88 := zz_rg r_7
              have g89 := zz_rg t_7_0
              have g90 := zz_rg t_7_1
              have g91 := zz_rg t_7_2
              have g92 := zz_rg t_7_3
              have g93 := zz_rg t_7_9
              have g94 := zz_rg t_7_10
              show zz_ok (some ("", r_7, t_4_0, t_7_0, t_7_1, t_7_2, t_7_3, t_7_4, t_7_5, t_7_6, t_7_7, t_7_8, t_7_9, t_7_10, t_7_11, t_7_12, t_4_14, t_4_15, t_4_16)) _
              refine zz_ok_some ?_
              show ("") ∈ (["", "java/lang/IllegalArgumentException", "java/lang/IllegalStateException", "java/util/NoSuchElementException"] : List String) ∧ t_4_0.toInt = s0.toInt ∧ 0 ≤ t_7_0.toInt ∧ t_7_0.toInt ≤ 1024 ∧ 0 ≤ t_7_1.toInt ∧ t_7_1.toInt ≤ 200 ∧ 0 ≤ t_7_9.toInt ∧ t_7_9.toInt ≤ 512 ∧ 0 ≤ t_4_14.toInt ∧ t_4_14.toInt ≤ 32
              exact ⟨by decide, by omega, by omega, by omega, by omega, by omega, by omega, by omega, by omega, by omega⟩
        · skip
          refine zz_ok_some ?_
          show e_4 ∈ (["", "java/lang/IllegalArgumentException", "java/lang/IllegalStateException", "java/util/NoSuchElementException"] : List String) ∧ t_4_0.toInt = s0.toInt ∧ 0 ≤ t_4_1.toInt ∧ t_4_1.toInt ≤ 1024 ∧ 0 ≤ t_4_2.toInt ∧ t_4_2.toInt ≤ 200 ∧ 0 ≤ t_4_10.toInt ∧ t_4_10.toInt ≤ 512 ∧ 0 ≤ t_4_14.toInt ∧ t_4_14.toInt ≤ 32
          exact ⟨zz_mem q36 (by decide), by omega, by omega, by omega, by omega, by omega, by omega, by omega, by omega, by omega⟩
      · skip
        refine zz_ok_some ?_
        show e_3 ∈ (["", "java/lang/IllegalArgumentException", "java/lang/IllegalStateException", "java/util/NoSuchElementException"] : List String) ∧ t_3_0.toInt = s0.toInt ∧ 0 ≤ t_3_1.toInt ∧ t_3_1.toInt ≤ 1024 ∧ 0 ≤ t_3_2.toInt ∧ t_3_2.toInt ≤ 200 ∧ 0 ≤ t_3_10.toInt ∧ t_3_10.toInt ≤ 512 ∧ 0 ≤ t_3_14.toInt ∧ t_3_14.toInt ≤ 32
        exact ⟨zz_mem q16 (by decide), by omega, by omega, by omega, by omega, by omega, by omega, by omega, by omega, by omega⟩
    · have c13 := zz_nle c13
      refine zz_ok_some ?_
      show ("java/lang/IllegalArgumentException") ∈ (["", "java/lang/IllegalArgumentException", "java/lang/IllegalStateException", "java/util/NoSuchElementException"] : List String) ∧ s0.toInt = s0.toInt ∧ 0 ≤ s1.toInt ∧ s1.toInt ≤ 1024 ∧ 0 ≤ s2.toInt ∧ s2.toInt ≤ 200 ∧ 0 ≤ s10.toInt ∧ s10.toInt ≤ 512 ∧ 0 ≤ s14.toInt ∧ s14.toInt ≤ 32
      exact ⟨by decide, by omega, by omega, by omega, by omega, by omega, by omega, by omega, by omega, by omega⟩
set_option maxHeartbeats 4000000 in
theorem s_X11_at_X5 (K : Nat) (hK : 1099511627776 ≤ K) (n0 : Nat) (n1 : Nat) (n2 : Nat) (n3 : Nat) (n4 : Nat) (n5 : Nat) (n6 : Nat) (n7 : Nat) (n8 : Nat) (p1 : Int32) (s0 : Int32) (s1 : Int32) (s2 : Int32) (s3 : Int32) (s4 : Int32) (s5 : Nat → Int32) (s6 : Nat → Int32) (s7 : Nat → Int32) (s8 : Nat → Int32) (s9 : Nat → Int32) (s10 : Int32) (s11 : Int32) (s12 : Nat → Int32) (s13 : Nat → Int32) (s14 : Int32) (s15 : Nat → Int32) (s16 : Nat → Int32) (a0 : n0 = 1024) (a1 : n1 = 200) (a2 : n2 = 200) (a3 : n3 = 200) (a4 : n4 = 200) (a5 : n5 = 512) (a6 : n6 = 512) (a7 : n7 = 32) (a8 : n8 = 32) (a9 : 0 ≤ s1.toInt) (a10 : s1.toInt ≤ 1024) (a11 : 0 ≤ s2.toInt) (a12 : s2.toInt ≤ 200) (a13 : 0 ≤ s10.toInt) (a14 : s10.toInt ≤ 512) (a15 : 0 ≤ s14.toInt) (a16 : s14.toInt ≤ 32) : zz_ok (m_X11_at_X5 K n0 n1 n2 n3 n4 n5 n6 n7 n8 p1 s0 s1 s2 s3 s4 s5 s6 s7 s8 s9 s10 s11 s12 s13 s14 s15 s16) (fun z => z.1 ∈ (["", "java/lang/IllegalArgumentException", "java/lang/IllegalStateException"] : List String) ∧ z.2.2.1.toInt = s0.toInt ∧ 0 ≤ z.2.2.2.1.toInt ∧ z.2.2.2.1.toInt ≤ 1024 ∧ 0 ≤ z.2.2.2.2.1.toInt ∧ z.2.2.2.2.1.toInt ≤ 200 ∧ 0 ≤ z.2.2.2.2.2.2.2.2.2.2.2.2.1.toInt ∧ z.2.2.2.2.2.2.2.2.2.2.2.2.1.toInt ≤ 512 ∧ 0 ≤ z.2.2.2.2.2.2.2.2.2.2.2.2.2.2.2.2.1.toInt ∧ z.2.2.2.2.2.2.2.2.2.2.2.2.2.2.2.2.1.toInt ≤ 32) := by
  have g1 := zz_rg p1
  have g2 := zz_rg s0
  have g3 := zz_rg s1
  have g4 := zz_rg s2
  have g5 := zz_rg s3
  have g6 := zz_rg s4
  have g7 := zz_rg s10
  have g8 := zz_rg s11
  have g9 := zz_rg s14
  unfold m_X11_at_X5
  refine zz_ok_bind (s_X7_words K hK n0 n1 n2 n3 n4 n5 n6 s1 s2 s3 s4 s5 s6 s7 s8 s9 s10 s11 s12 s13 (by omega) (by omega) (by omega) (by omega) (by omega) (by omega) (by omega) (by omega) (by omega) (by omega) (by omega) (by omega) (by omega)) ?_
  intro z10 hz10
  obtain ⟨r_1, t_1_0, t_1_1, t_1_2, t_1_3, t_1_4, t_1_5, t_1_6, t_1_7, t_1_8, t_1_9, t_1_10, t_1_11, t_1_12⟩ := z10
  have q11 : r_1.toInt = s1.toInt := hz10.1
  have q12 : t_1_0.toInt = s1.toInt := hz10.2.1
  have q13 : t_1_1.toInt = s2.toInt := hz10.2.2.1
  have q14 : 0 ≤ t_1_9.toInt := hz10.2.2.2.1
  have q15 : t_1_9.toInt ≤ 512 := hz10.2.2.2.2
  have g16 := zz_rg r_1
  have g17 := zz_rg t_1_0
  have g18 := zz_rg t_1_1
  have g19 := zz_rg t_1_2
  have g20 := zz_rg t_1_3
  have g21 := zz_rg t_1_9
  have g22 := zz_rg t_1_10
  show zz_ok (if p1 < 0 then (some ("java/lang/IllegalArgumentException", 0, s0, t_1_0, t_1_1, t_1_2, t_1_3, t_1_4, t_1_5, t_1_6, t_1_7, t_1_8, t_1_9, t_1_10, t_1_11, t_1_12, s14, s15, s16)) else (if p1 < r_1 then ((m_X11_needRoom_X5 K n0 n1 n2 n3 n4 n5 n6 n7 n8 s0 t_1_0 t_1_1 t_1_2 t_1_3 t_1_4 t_1_5 t_1_6 t_1_7 t_1_8 t_1_9 t_1_10 t_1_11 t_1_12 s14 s15 s16).bind fun ⟨e_4, t_4_0, t_4_1, t_4_2, t_4_3, t_4_4, t_4_5, t_4_6, t_4_7, t_4_8, t_4_9, t_4_10, t_4_11, t_4_12, t_4_13, t_4_14, t_4_15, t_4_16⟩ => if e_4 = "" then ((m_X7_blockAt K n0 n1 n2 n3 n4 n5 n6 p1 t_4_1 t_4_2 t_4_3 t_4_4 t_4_5 t_4_6 t_4_7 t_4_8 t_4_9 t_4_10 t_4_11 t_4_12 t_4_13).bind fun ⟨r_5, t_5_0, t_5_1, t_5_2, t_5_3, t_5_4, t_5_5, t_5_6, t_5_7, t_5_8, t_5_9, t_5_10, t_5_11, t_5_12⟩ => some ("", r_5, t_4_0, t_5_0, t_5_1, t_5_2, t_5_3, t_5_4, t_5_5, t_5_6, t_5_7, t_5_8, t_5_9, t_5_10, t_5_11, t_5_12, t_4_14, t_4_15, t_4_16)) else (some (e_4, 0, t_4_0, t_4_1, t_4_2, t_4_3, t_4_4, t_4_5, t_4_6, t_4_7, t_4_8, t_4_9, t_4_10, t_4_11, t_4_12, t_4_13, t_4_14, t_4_15, t_4_16))) else (some ("java/lang/IllegalArgumentException", 0, s0, t_1_0, t_1_1, t_1_2, t_1_3, t_1_4, t_1_5, t_1_6, t_1_7, t_1_8, t_1_9, t_1_10, t_1_11, t_1_12, s14, s15, s16)))) _
  have l24 : (0 : Int32).toInt = 0 := rfl
  refine zz_ok_ite (fun c23 => ?_) (fun c23 => ?_)
  · have c23 := Int32.lt_iff_toInt_lt.mp c23
    refine zz_ok_some ?_
    show ("java/lang/IllegalArgumentException") ∈ (["", "java/lang/IllegalArgumentException", "java/lang/IllegalStateException"] : List String) ∧ s0.toInt = s0.toInt ∧ 0 ≤ t_1_0.toInt ∧ t_1_0.toInt ≤ 1024 ∧ 0 ≤ t_1_1.toInt ∧ t_1_1.toInt ≤ 200 ∧ 0 ≤ t_1_9.toInt ∧ t_1_9.toInt ≤ 512 ∧ 0 ≤ s14.toInt ∧ s14.toInt ≤ 32
    exact ⟨by decide, by omega, by omega, by omega, by omega, by omega, by omega, by omega, by omega, by omega⟩
  · have c23 := zz_nlt c23
    refine zz_ok_ite (fun c25 => ?_) (fun c25 => ?_)
    · have c25 := Int32.lt_iff_toInt_lt.mp c25
      refine zz_ok_bind (s_X11_needRoom_X5 K hK n0 n1 n2 n3 n4 n5 n6 n7 n8 s0 t_1_0 t_1_1 t_1_2 t_1_3 t_1_4 t_1_5 t_1_6 t_1_7 t_1_8 t_1_9 t_1_10 t_1_11 t_1_12 s14 s15 s16 (by omega) (by omega) (by omega) (by omega) (by omega) (by omega) (by omega) (by omega) (by omega) (by omega) (by omega) (by omega) (by omega) (by omega) (by omega) (by omega) (by omega)) ?_
      intro z26 hz26
      obtain ⟨e_4, t_4_0, t_4_1, t_4_2, t_4_3, t_4_4, t_4_5, t_4_6, t_4_7, t_4_8, t_4_9, t_4_10, t_4_11, t_4_12, t_4_13, t_4_14, t_4_15, t_4_16⟩ := z26
      have q27 : e_4 ∈ (["", "java/lang/IllegalStateException"] : List String) := hz26.1
      have q28 : t_4_0.toInt = s0.toInt := hz26.2.1
      have q29 : 0 ≤ t_4_1.toInt := hz26.2.2.1
      have q30 : t_4_1.toInt ≤ 1024 := hz26.2.2.2.1
      have q31 : 0 ≤ t_4_2.toInt := hz26.2.2.2.2.1
      have q32 : t_4_2.toInt ≤ 200 := hz26.2.2.2.2.2.1
      have q33 : 0 ≤ t_4_10.toInt := hz26.2.2.2.2.2.2.1
      have q34 : t_4_10.toInt ≤ 512 := hz26.2.2.2.2.2.2.2.1
      have q35 : 0 ≤ t_4_14.toInt := hz26.2.2.2.2.2.2.2.2.1
      have q36 : t_4_14.toInt ≤ 32 := hz26.2.2.2.2.2.2.2.2.2
      have g37 := zz_rg t_4_0
      have g38 := zz_rg t_4_1
      have g39 := zz_rg t_4_2
      have g40 := zz_rg t_4_3
      have g41 := zz_rg t_4_4
      have g42 := zz_rg t_4_10
      have g43 := zz_rg t_4_11
      have g44 := zz_rg t_4_14
      show zz_ok (if e_4 = "" then ((m_X7_blockAt K n0 n1 n2 n3 n4 n5 n6 p1 t_4_1 t_4_2 t_4_3 t_4_4 t_4_5 t_4_6 t_4_7 t_4_8 t_4_9 t_4_10 t_4_11 t_4_12 t_4_13).bind fun ⟨r_5, t_5_0, t_5_1, t_5_2, t_5_3, t_5_4, t_5_5, t_5_6, t_5_7, t_5_8, t_5_9, t_5_10, t_5_11, t_5_12⟩ => some ("", r_5, t_4_0, t_5_0, t_5_1, t_5_2, t_5_3, t_5_4, t_5_5, t_5_6, t_5_7, t_5_8, t_5_9, t_5_10, t_5_11, t_5_12, t_4_14, t_4_15, t_4_16)) else (some (e_4, 0, t_4_0, t_4_1, t_4_2, t_4_3, t_4_4, t_4_5, t_4_6, t_4_7, t_4_8, t_4_9, t_4_10, t_4_11, t_4_12, t_4_13, t_4_14, t_4_15, t_4_16))) _
      refine zz_ok_ite (fun c45 => ?_) (fun c45 => ?_)
      · skip
        refine zz_ok_bind (s_X7_blockAt K hK n0 n1 n2 n3 n4 n5 n6 p1 t_4_1 t_4_2 t_4_3 t_4_4 t_4_5 t_4_6 t_4_7 t_4_8 t_4_9 t_4_10 t_4_11 t_4_12 t_4_13 (by omega) (by omega) (by omega) (by omega) (by omega) (by omega) (by omega) (by omega) (by omega) (by omega) (by omega) (by omega) (by omega)) ?_
        intro z46 hz46
        obtain ⟨r_5, t_5_0, t_5_1, t_5_2, t_5_3, t_5_4, t_5_5, t_5_6, t_5_7, t_5_8, t_5_9, t_5_10, t_5_11, t_5_12⟩ := z46
        have q47 : t_5_0.toInt = t_4_1.toInt := hz46.1
        have q48 : t_5_1.toInt = t_4_2.toInt := hz46.2.1
        have q49 : 0 ≤ t_5_9.toInt := hz46.2.2.1
        have q50 : t_5_9.toInt ≤ 512 := hz46.2.2.2
        have g51 := zz_rg r_5
        have g52 := zz_rg t_5_0
        have g53 := zz_rg t_5_1
        have g54 := zz_rg t_5_2
        have g55 := zz_rg t_5_3
        have g56 := zz_rg t_5_9
        have g57 := zz_rg t_5_10
        show zz_ok (some ("", r_5, t_4_0, t_5_0, t_5_1, t_5_2, t_5_3, t_5_4, t_5_5, t_5_6, t_5_7, t_5_8, t_5_9, t_5_10, t_5_11, t_5_12, t_4_14, t_4_15, t_4_16)) _
        refine zz_ok_some ?_
        show ("") ∈ (["", "java/lang/IllegalArgumentException", "java/lang/IllegalStateException"] : List String) ∧ t_4_0.toInt = s0.toInt ∧ 0 ≤ t_5_0.toInt ∧ t_5_0.toInt ≤ 1024 ∧ 0 ≤ t_5_1.toInt ∧ t_5_1.toInt ≤ 200 ∧ 0 ≤ t_5_9.toInt ∧ t_5_9.toInt ≤ 512 ∧ 0 ≤ t_4_14.toInt ∧ t_4_14.toInt ≤ 32
        exact ⟨by decide, by omega, by omega, by omega, by omega, by omega, by omega, by omega, by omega, by omega⟩
      · skip
        refine zz_ok_some ?_
        show e_4 ∈ (["", "java/lang/IllegalArgumentException", "java/lang/IllegalStateException"] : List String) ∧ t_4_0.toInt = s0.toInt ∧ 0 ≤ t_4_1.toInt ∧ t_4_1.toInt ≤ 1024 ∧ 0 ≤ t_4_2.toInt ∧ t_4_2.toInt ≤ 200 ∧ 0 ≤ t_4_10.toInt ∧ t_4_10.toInt ≤ 512 ∧ 0 ≤ t_4_14.toInt ∧ t_4_14.toInt ≤ 32
        exact ⟨zz_mem q27 (by decide), by omega, by omega, by omega, by omega, by omega, by omega, by omega, by omega, by omega⟩
    · have c25 := zz_nlt c25
      refine zz_ok_some ?_
      show ("java/lang/IllegalArgumentException") ∈ (["", "java/lang/IllegalArgumentException", "java/lang/IllegalStateException"] : List String) ∧ s0.toInt = s0.toInt ∧ 0 ≤ t_1_0.toInt ∧ t_1_0.toInt ≤ 1024 ∧ 0 ≤ t_1_1.toInt ∧ t_1_1.toInt ≤ 200 ∧ 0 ≤ t_1_9.toInt ∧ t_1_9.toInt ≤ 512 ∧ 0 ≤ s14.toInt ∧ s14.toInt ≤ 32
      exact ⟨by decide, by omega, by omega, by omega, by omega, by omega, by omega, by omega, by omega, by omega⟩
set_option maxHeartbeats 4000000 in
theorem s_X11_run_X5 (K : Nat) (hK : 1099511627776 ≤ K) (n0 : Nat) (n1 : Nat) (n2 : Nat) (n3 : Nat) (n4 : Nat) (n5 : Nat) (n6 : Nat) (n7 : Nat) (n8 : Nat) (p1 : Int32) (p2 : Int32) (s0 : Int32) (s1 : Int32) (s2 : Int32) (s3 : Int32) (s4 : Int32) (s5 : Nat → Int32) (s6 : Nat → Int32) (s7 : Nat → Int32) (s8 : Nat → Int32) (s9 : Nat → Int32) (s10 : Int32) (s11 : Int32) (s12 : Nat → Int32) (s13 : Nat → Int32) (s14 : Int32) (s15 : Nat → Int32) (s16 : Nat → Int32) (a0 : n0 = 1024) (a1 : n1 = 200) (a2 : n2 = 200) (a3 : n3 = 200) (a4 : n4 = 200) (a5 : n5 = 512) (a6 : n6 = 512) (a7 : n7 = 32) (a8 : n8 = 32) (a9 : 0 ≤ s1.toInt) (a10 : s1.toInt ≤ 1024) (a11 : 0 ≤ s2.toInt) (a12 : s2.toInt ≤ 200) (a13 : 0 ≤ s10.toInt) (a14 : s10.toInt ≤ 512) (a15 : 0 ≤ s14.toInt) (a16 : s14.toInt ≤ 32) : zz_ok (m_X11_run_X5 K n0 n1 n2 n3 n4 n5 n6 n7 n8 p1 p2 s0 s1 s2 s3 s4 s5 s6 s7 s8 s9 s10 s11 s12 s13 s14 s15 s16) (fun z => z.1 ∈ (["", "java/lang/IllegalArgumentException", "java/lang/IllegalStateException", "java/lang/IndexOutOfBoundsException"] : List String) ∧ z.2.2.1.toInt = s0.toInt ∧ 0 ≤ z.2.2.2.1.toInt ∧ z.2.2.2.1.toInt ≤ 1024 ∧ 0 ≤ z.2.2.2.2.1.toInt ∧ z.2.2.2.2.1.toInt ≤ 200 ∧ 0 ≤ z.2.2.2.2.2.2.2.2.2.2.2.2.1.toInt ∧ z.2.2.2.2.2.2.2.2.2.2.2.2.1.toInt ≤ 512 ∧ 0 ≤ z.2.2.2.2.2.2.2.2.2.2.2.2.2.2.2.2.1.toInt ∧ z.2.2.2.2.2.2.2.2.2.2.2.2.2.2.2.2.1.toInt ≤ 32) := by
  have g1 := zz_rg p1
  have g2 := zz_rg p2
  have g3 := zz_rg s0
  have g4 := zz_rg s1
  have g5 := zz_rg s2
  have g6 := zz_rg s3
  have g7 := zz_rg s4
  have g8 := zz_rg s10
  have g9 := zz_rg s11
  have g10 := zz_rg s14
  unfold m_X11_run_X5
  have l12 : (0 : Int32).toInt = 0 := rfl
  refine zz_ok_ite (fun c11 => ?_) (fun c11 => ?_)
  · have c11 := Int32.lt_iff_toInt_lt.mp c11
    refine zz_ok_some ?_
    show ("java/lang/IllegalArgumentException") ∈ (["", "java/lang/IllegalArgumentException", "java/lang/IllegalStateException", "java/lang/IndexOutOfBoundsException"] : List String) ∧ s0.toInt = s0.toInt ∧ 0 ≤ s1.toInt ∧ s1.toInt ≤ 1024 ∧ 0 ≤ s2.toInt ∧ s2.toInt ≤ 200 ∧ 0 ≤ s10.toInt ∧ s10.toInt ≤ 512 ∧ 0 ≤ s14.toInt ∧ s14.toInt ≤ 32
    exact ⟨by decide, by omega, by omega, by omega, by omega, by omega, by omega, by omega, by omega, by omega⟩
  · have c11 := zz_nlt c11
    have l14 : (1 : Int32).toInt = 1 := rfl
    refine zz_ok_ite (fun c13 => ?_) (fun c13 => ?_)
    · have c13 := Int32.le_iff_toInt_le.mp c13
      refine zz_ok_bind (s_X11_needRoom_X5 K hK n0 n1 n2 n3 n4 n5 n6 n7 n8 s0 s1 s2 s3 s4 s5 s6 s7 s8 s9 s10 s11 s12 s13 s14 s15 s16 (by omega) (by omega) (by omega) (by omega) (by omega) (by omega) (by omega) (by omega) (by omega) (by omega) (by omega) (by omega) (by omega) (by omega) (by omega) (by omega) (by omega)) ?_
      intro z15 hz15
      obtain ⟨e_3, t_3_0, t_3_1, t_3_2, t_3_3, t_3_4, t_3_5, t_3_6, t_3_7, t_3_8, t_3_9, t_3_10, t_3_11, t_3_12, t_3_13, t_3_14, t_3_15, t_3_16⟩ := z15
      have q16 : e_3 ∈ (["", "java/lang/IllegalStateException"] : List String) := hz15.1
      have q17 : t_3_0.toInt = s0.toInt := hz15.2.1
      have q18 : 0 ≤ t_3_1.toInt := hz15.2.2.1
      have q19 : t_3_1.toInt ≤ 1024 := hz15.2.2.2.1
      have q20 : 0 ≤ t_3_2.toInt := hz15.2.2.2.2.1
      have q21 : t_3_2.toInt ≤ 200 := hz15.2.2.2.2.2.1
      have q22 : 0 ≤ t_3_10.toInt := hz15.2.2.2.2.2.2.1
      have q23 : t_3_10.toInt ≤ 512 := hz15.2.2.2.2.2.2.2.1
      have q24 : 0 ≤ t_3_14.toInt := hz15.2.2.2.2.2.2.2.2.1
      have q25 : t_3_14.toInt ≤ 32 := hz15.2.2.2.2.2.2.2.2.2
      have g26 := zz_rg t_3_0
      have g27 := zz_rg t_3_1
      have g28 := zz_rg t_3_2
      have g29 := zz_rg t_3_3
      have g30 := zz_rg t_3_4
      have g31 := zz_rg t_3_10
      have g32 := zz_rg t_3_11
      have g33 := zz_rg t_3_14
      show zz_ok (if e_3 = "" then ((m_X7_listRuns K n0 n1 n2 n3 n4 n5 n6 t_3_1 t_3_2 t_3_3 t_3_4 t_3_5 t_3_6 t_3_7 t_3_8 t_3_9 t_3_10 t_3_11 t_3_12 t_3_13).bind fun ⟨t_4_0, t_4_1, t_4_2, t_4_3, t_4_4, t_4_5, t_4_6, t_4_7, t_4_8, t_4_9, t_4_10, t_4_11, t_4_12⟩ => if p1 < 0 then (some ("java/lang/IndexOutOfBoundsException", 0, t_3_0, t_4_0, t_4_1, t_4_2, t_4_3, t_4_4, t_4_5, t_4_6, t_4_7, t_4_8, t_4_9, t_4_10, t_4_11, t_4_12, t_3_14, t_3_15, t_3_16)) else ((m_X10_size K n5 n6 t_4_9 t_4_10 t_4_11 t_4_12).bind fun ⟨r_6, t_6_0, t_6_1, t_6_2, t_6_3⟩ => if p1 < r_6 then (if p2 = 0 then ((m_X10_placeOf K n5 n6 p1 t_6_0 t_6_1 t_6_2 t_6_3).bind fun ⟨r_10, t_10_0, t_10_1, t_10_2, t_10_3⟩ => some ("", r_10, t_3_0, t_4_0, t_4_1, t_4_2, t_4_3, t_4_4, t_4_5, t_4_6, t_4_7, t_4_8, t_10_0, t_10_1, t_10_2, t_10_3, t_3_14, t_3_15, t_3_16)) else ((m_X10_wordsOf K n5 n6 p1 t_6_0 t_6_1 t_6_2 t_6_3).bind fun ⟨r_9, t_9_0, t_9_1, t_9_2, t_9_3⟩ => some ("", r_9, t_3_0, t_4_0, t_4_1, t_4_2, t_4_3, t_4_4, t_4_5, t_4_6, t_4_7, t_4_8, t_9_0, t_9_1, t_9_2, t_9_3, t_3_14, t_3_15, t_3_16))) else (some ("java/lang/IndexOutOfBoundsException", 0, t_3_0, t_4_0, t_4_1, t_4_2, t_4_3, t_4_4, t_4_5, t_4_6, t_4_7, t_4_8, t_6_0, t_6_1, t_6_2, t_6_3, t_3_14, t_3_15, t_3_16)))) else (some (e_3, 0, t_3_0, t_3_1, t_3_2, t_3_3, t_3_4, t_3_5, t_3_6, t_3_7, t_3_8, t_3_9, t_3_10, t_3_11, t_3_12, t_3_13, t_3_14, t_3_15, t_3_16))) _
      refine zz_ok_ite (fun c34 => ?_) (fun c34 => ?_)
      · skip
        refine zz_ok_bind (s_X7_listRuns K hK n0 n1 n2 n3 n4 n5 n6 t_3_1 t_3_2 t_3_3 t_3_4 t_3_5 t_3_6 t_3_7 t_3_8 t_3_9 t_3_10 t_3_11 t_3_12 t_3_13 (by omega) (by omega) (by omega) (by omega) (by omega) (by omega) (by omega) (by omega) (by omega) (by omega) (by omega) (by omega) (by omega)) ?_
        intro z35 hz35
        obtain ⟨t_4_0, t_4_1, t_4_2, t_4_3, t_4_4, t_4_5, t_4_6, t_4_7, t_4_8, t_4_9, t_4_10, t_4_11, t_4_12⟩ := z35
        have q36 : t_4_0.toInt = t_3_1.toInt := hz35.1
        have q37 : t_4_1.toInt = t_3_2.toInt := hz35.2.1
        have q38 : 0 ≤ t_4_9.toInt := hz35.2.2.1
        have q39 : t_4_9.toInt ≤ 512 := hz35.2.2.2
        have g40 := zz_rg t_4_0
        have g41 := zz_rg t_4_1
        have g42 := zz_rg t_4_2
        have g43 := zz_rg t_4_3
        have g44 := zz_rg t_4_9
        have g45 := zz_rg t_4_10
        show zz_ok (if p1 < 0 then (some ("java/lang/IndexOutOfBoundsException", 0, t_3_0, t_4_0, t_4_1, t_4_2, t_4_3, t_4_4, t_4_5, t_4_6, t_4_7, t_4_8, t_4_9, t_4_10, t_4_11, t_4_12, t_3_14, t_3_15, t_3_16)) else ((m_X10_size K n5 n6 t_4_9 t_4_10 t_4_11 t_4_12).bind fun ⟨r_6, t_6_0, t_6_1, t_6_2, t_6_3⟩ => if p1 < r_6 then (if p2 = 0 then ((m_X10_placeOf K n5 n6 p1 t_6_0 t_6_1 t_6_2 t_6_3).bind fun ⟨r_10, t_10_0, t_10_1, t_10_2, t_10_3⟩ => some ("", r_10, t_3_0, t_4_0, t_4_1, t_4_2, t_4_3, t_4_4, t_4_5, t_4_6, t_4_7, t_4_8, t_10_0, t_10_1, t_10_2, t_10_3, t_3_14, t_3_15, t_3_16)) else ((m_X10_wordsOf K n5 n6 p1 t_6_0 t_6_1 t_6_2 t_6_3).bind fun ⟨r_9, t_9_0, t_9_1, t_9_2, t_9_3⟩ => some ("", r_9, t_3_0, t_4_0, t_4_1, t_4_2, t_4_3, t_4_4, t_4_5, t_4_6, t_4_7, t_4_8, t_9_0, t_9_1, t_9_2, t_9_3, t_3_14, t_3_15, t_3_16))) else (some ("java/lang/IndexOutOfBoundsException", 0, t_3_0, t_4_0, t_4_1, t_4_2, t_4_3, t_4_4, t_4_5, t_4_6, t_4_7, t_4_8, t_6_0, t_6_1, t_6_2, t_6_3, t_3_14, t_3_15, t_3_16)))) _
        refine zz_ok_ite (fun c46 => ?_) (fun c46 => ?_)
        · have c46 := Int32.lt_iff_toInt_lt.mp c46
          refine zz_ok_some ?_
          show ("java/lang/IndexOutOfBoundsException") ∈ (["", "java/lang/IllegalArgumentException", "java/lang/IllegalStateException", "java/lang/IndexOutOfBoundsException"] : List String) ∧ t_3_0.toInt = s0.toInt ∧ 0 ≤ t_4_0.toInt ∧ t_4_0.toInt ≤ 1024 ∧ 0 ≤ t_4_1.toInt ∧ t_4_1.toInt ≤ 200 ∧ 0 ≤ t_4_9.toInt ∧ t_4_9.toInt ≤ 512 ∧ 0 ≤ t_3_14.toInt ∧ t_3_14.toInt ≤ 32
          exact ⟨by decide, by omega, by omega, by omega, by omega, by omega, by omega, by omega, by omega, by omega⟩
        · have c46 := zz_nlt c46
          refine zz_ok_bind (s_X10_size K hK n5 n6 t_4_9 t_4_10 t_4_11 t_4_12) ?_
          intro z47 hz47
          obtain ⟨r_6, t_6_0, t_6_1, t_6_2, t_6_3⟩ := z47
          have q48 : r_6.toInt = t_4_9.toInt := hz47.1
          have q49 : t_6_0.toInt = t_4_9.toInt := hz47.2
          have g50 := zz_rg r_6
          have g51 := zz_rg t_6_0
          have g52 := zz_rg t_6_1
          show zz_ok (if p1 < r_6 then (if p2 = 0 then ((m_X10_placeOf K n5 n6 p1 t_6_0 t_6_1 t_6_2 t_6_3).bind fun ⟨r_10, t_10_0, t_10_1, t_10_2, t_10_3⟩ => some ("", r_10, t_3_0, t_4_0, t_4_1, t_4_2, t_4_3, t_4_4, t_4_5, t_4_6, t_4_7, t_4_8, t_10_0, t_10_1, t_10_2, t_10_3, t_3_14, t_3_15, t_3_16)) else ((m_X10_wordsOf K n5 n6 p1 t_6_0 t_6_1 t_6_2 t_6_3).bind fun ⟨r_9, t_9_0, t_9_1, t_9_2, t_9_3⟩ => some ("", r_9, t_3_0, t_4_0, t_4_1, t_4_2, t_4_3, t_4_4, t_4_5, t_4_6, t_4_7, t_4_8, t_9_0, t_9_1, t_9_2, t_9_3, t_3_14, t_3_15, t_3_16))) else (some ("java/lang/IndexOutOfBoundsException", 0, t_3_0, t_4_0, t_4_1, t_4_2, t_4_3, t_4_4, t_4_5, t_4_6, t_4_7, t_4_8, t_6_0, t_6_1, t_6_2, t_6_3, t_3_14, t_3_15, t_3_16))) _
          refine zz_ok_ite (fun c53 => ?_) (fun c53 => ?_)
          · have c53 := Int32.lt_iff_toInt_lt.mp c53
            refine zz_ok_ite (fun c54 => ?_) (fun c54 => ?_)
            · have c54 := congrArg Int32.toInt c54
              refine zz_ok_bind (s_X10_placeOf K hK n5 n6 p1 t_6_0 t_6_1 t_6_2 t_6_3 (by omega) (by omega) (by omega) (by omega)) ?_
              intro z55 hz55
              obtain ⟨r_10, t_10_0, t_10_1, t_10_2, t_10_3⟩ := z55
              have q56 : t_10_0.toInt = t_6_0.toInt := hz55
              have g57 := zz_rg r_10
              have g58 := zz_rg t_10_0
              have g59 := zz_rg t_10_1
              show zz_ok (some ("", r_10, t_3_0, t_4_0, t_4_1, t_4_2, t_4_3, t_4_4, t_4_5, t_4_6, t_4_7, t_4_8, t_10_0, t_10_1, t_10_2, t_10_3, t_3_14, t_3_15, t_3_16)) _
              refine zz_ok_some ?_
              show ("") ∈ (["", "java/lang/IllegalArgumentException", "java/lang/IllegalStateException", "java/lang/IndexOutOfBoundsException"] : List String) ∧ t_3_0.toInt = s0.toInt ∧ 0 ≤ t_4_0.toInt ∧ t_4_0.toInt ≤ 1024 ∧ 0 ≤ t_4_1.toInt ∧ t_4_1.toInt ≤ 200 ∧ 0 ≤ t_10_0.toInt ∧ t_10_0.toInt ≤ 512 ∧ 0 ≤ t_3_14.toInt ∧ t_3_14.toInt ≤ 32
              exact ⟨by decide, by omega, by omega, by omega, by omega, by omega, by omega, by omega, by omega, by omega⟩
            · have c54 := zz_neq c54
              refine zz_ok_bind (s_X10_wordsOf K hK n5 n6 p1 t_6_0 t_6_1 t_6_2 t_6_3 (by omega) (by omega) (by omega) (by omega)) ?_
              intro z60 hz60
              obtain ⟨r_9, t_9_0, t_9_1, t_9_2, t_9_3⟩ := z60
              have q61 : t_9_0.toInt = t_6_0.toInt := hz60
              have g62 := zz_rg r_9
              have g63 := zz_rg t_9_0
              have g64 := zz_rg t_9_1
              show zz_ok (some ("", r_9, t_3_0, t_4_0, t_4_1, t_4_2, t_4_3, t_4_4, t_4_5, t_4_6, t_4_7, t_4_8, t_9_0, t_9_1, t_9_2, t_9_3, t_3_14, t_3_15, t_3_16)) _
              refine zz_ok_some ?_
              show ("") ∈ (["", "java/lang/IllegalArgumentException", "java/lang/IllegalStateException", "java/lang/IndexOutOfBoundsException"] : List String) ∧ t_3_0.toInt = s0.toInt ∧ 0 ≤ t_4_0.toInt ∧ t_4_0.toInt ≤ 1024 ∧ 0 ≤ t_4_1.toInt ∧ t_4_1.toInt ≤ 200 ∧ 0 ≤ t_9_0.toInt ∧ t_9_0.toInt ≤ 512 ∧ 0 ≤ t_3_14.toInt ∧ t_3_14.toInt ≤ 32
              exact ⟨by decide, by omega, by omega, by omega, by omega, by omega, by omega, by omega, by omega, by omega⟩
          · have c53 := zz_nlt c53
            refine zz_ok_some ?_
            show ("java/lang/IndexOutOfBoundsException") ∈ (["", "java/lang/IllegalArgumentException", "java/lang/IllegalStateException", "java/lang/IndexOutOfBoundsException"] : List String) ∧ t_3_0.toInt = s0.toInt ∧ 0 ≤ t_4_0.toInt ∧ t_4_0.toInt ≤ 1024 ∧ 0 ≤ t_4_1.toInt ∧ t_4_1.toInt ≤ 200 ∧ 0 ≤ t_6_0.toInt ∧ t_6_0.toInt ≤ 512 ∧ 0 ≤ t_3_14.toInt ∧ t_3_14.toInt ≤ 32
            exact ⟨by decide, by omega, by omega, by omega, by omega, by omega, by omega, by omega, by omega, by omega⟩
      · skip
        refine zz_ok_some ?_
        show e_3 ∈ (["", "java/lang/IllegalArgumentException", "java/lang/IllegalStateException", "java/lang/IndexOutOfBoundsException"] : List String) ∧ t_3_0.toInt = s0.toInt ∧ 0 ≤ t_3_1.toInt ∧ t_3_1.toInt ≤ 1024 ∧ 0 ≤ t_3_2.toInt ∧ t_3_2.toInt ≤ 200 ∧ 0 ≤ t_3_10.toInt ∧ t_3_10.toInt ≤ 512 ∧ 0 ≤ t_3_14.toInt ∧ t_3_14.toInt ≤ 32
        exact ⟨zz_mem q16 (by decide), by omega, by omega, by omega, by omega, by omega, by omega, by omega, by omega, by omega⟩
    · have c13 := zz_nle c13
      refine zz_ok_some ?_
      show ("java/lang/IllegalArgumentException") ∈ (["", "java/lang/IllegalArgumentException", "java/lang/IllegalStateException", "java/lang/IndexOutOfBoundsException"] : List String) ∧ s0.toInt = s0.toInt ∧ 0 ≤ s1.toInt ∧ s1.toInt ≤ 1024 ∧ 0 ≤ s2.toInt ∧ s2.toInt ≤ 200 ∧ 0 ≤ s10.toInt ∧ s10.toInt ≤ 512 ∧ 0 ≤ s14.toInt ∧ s14.toInt ≤ 32
      exact ⟨by decide, by omega, by omega, by omega, by omega, by omega, by omega, by omega, by omega, by omega⟩
set_option maxHeartbeats 4000000 in
theorem s_X11_list_X5 (K : Nat) (hK : 1099511627776 ≤ K) (n0 : Nat) (n1 : Nat) (n2 : Nat) (n3 : Nat) (n4 : Nat) (n5 : Nat) (n6 : Nat) (n7 : Nat) (n8 : Nat) (p1 : Int32) (p2 : Int32) (s0 : Int32) (s1 : Int32) (s2 : Int32) (s3 : Int32) (s4 : Int32) (s5 : Nat → Int32) (s6 : Nat → Int32) (s7 : Nat → Int32) (s8 : Nat → Int32) (s9 : Nat → Int32) (s10 : Int32) (s11 : Int32) (s12 : Nat → Int32) (s13 : Nat → Int32) (s14 : Int32) (s15 : Nat → Int32) (s16 : Nat → Int32) (a0 : n0 = 1024) (a1 : n1 = 200) (a2 : n2 = 200) (a3 : n3 = 200) (a4 : n4 = 200) (a5 : n5 = 512) (a6 : n6 = 512) (a7 : n7 = 32) (a8 : n8 = 32) (a9 : 0 ≤ s1.toInt) (a10 : s1.toInt ≤ 1024) (a11 : 0 ≤ s2.toInt) (a12 : s2.toInt ≤ 200) (a13 : 0 ≤ s10.toInt) (a14 : s10.toInt ≤ 512) (a15 : 0 ≤ s14.toInt) (a16 : s14.toInt ≤ 32) : zz_ok (m_X11_list_X5 K n0 n1 n2 n3 n4 n5 n6 n7 n8 p1 p2 s0 s1 s2 s3 s4 s5 s6 s7 s8 s9 s10 s11 s12 s13 s14 s15 s16) (fun z => z.1 ∈ (["", "java/lang/IllegalArgumentException", "java/lang/IllegalStateException", "java/lang/UnsupportedOperationException", "java/lang/IndexOutOfBoundsException"] : List String) ∧ z.2.2.1.toInt = s0.toInt ∧ 0 ≤ z.2.2.2.1.toInt ∧ z.2.2.2.1.toInt ≤ 1024 ∧ 0 ≤ z.2.2.2.2.1.toInt ∧ z.2.2.2.2.1.toInt ≤ 200 ∧ 0 ≤ z.2.2.2.2.2.2.2.2.2.2.2.2.1.toInt ∧ z.2.2.2.2.2.2.2.2.2.2.2.2.1.toInt ≤ 512 ∧ 0 ≤ z.2.2.2.2.2.2.2.2.2.2.2.2.2.2.2.2.1.toInt ∧ z.2.2.2.2.2.2.2.2.2.2.2.2.2.2.2.2.1.toInt ≤ 32) := by
  have g1 := zz_rg p1
  have g2 := zz_rg p2
  have g3 := zz_rg s0
  have g4 := zz_rg s1
  have g5 := zz_rg s2
  have g6 := zz_rg s3
  have g7 := zz_rg s4
  have g8 := zz_rg s10
  have g9 := zz_rg s11
  have g10 := zz_rg s14
  unfold m_X11_list_X5
  have l12 : (0 : Int32).toInt = 0 := rfl
  refine zz_ok_ite (fun c11 => ?_) (fun c11 => ?_)
  · have c11 := Int32.lt_iff_toInt_lt.mp c11
    refine zz_ok_some ?_
    show ("java/lang/IllegalArgumentException") ∈ (["", "java/lang/IllegalArgumentException", "java/lang/IllegalStateException", "java/lang/UnsupportedOperationException", "java/lang/IndexOutOfBoundsException"] : List String) ∧ s0.toInt = s0.toInt ∧ 0 ≤ s1.toInt ∧ s1.toInt ≤ 1024 ∧ 0 ≤ s2.toInt ∧ s2.toInt ≤ 200 ∧ 0 ≤ s10.toInt ∧ s10.toInt ≤ 512 ∧ 0 ≤ s14.toInt ∧ s14.toInt ≤ 32
    exact ⟨by decide, by omega, by omega, by omega, by omega, by omega, by omega, by omega, by omega, by omega⟩
  · have c11 := zz_nlt c11
    have l14 : (44 : Int32).toInt = 44 := rfl
    refine zz_ok_ite (fun c13 => ?_) (fun c13 => ?_)
    · have c13 := Int32.lt_iff_toInt_lt.mp c13
      refine zz_ok_bind (s_X11_needRoom_X5 K hK n0 n1 n2 n3 n4 n5 n6 n7 n8 s0 s1 s2 s3 s4 s5 s6 s7 s8 s9 s10 s11 s12 s13 s14 s15 s16 (by omega) (by omega) (by omega) (by omega) (by omega) (by omega) (by omega) (by omega) (by omega) (by omega) (by omega) (by omega) (by omega) (by omega) (by omega) (by omega) (by omega)) ?_
      intro z15 hz15
      obtain ⟨e_3, t_3_0, t_3_1, t_3_2, t_3_3, t_3_4, t_3_5, t_3_6, t_3_7, t_3_8, t_3_9, t_3_10, t_3_11, t_3_12, t_3_13, t_3_14, t_3_15, t_3_16⟩ := z15
      have q16 : e_3 ∈ (["", "java/lang/IllegalStateException"] : List String) := hz15.1
      have q17 : t_3_0.toInt = s0.toInt := hz15.2.1
      have q18 : 0 ≤ t_3_1.toInt := hz15.2.2.1
      have q19 : t_3_1.toInt ≤ 1024 := hz15.2.2.2.1
      have q20 : 0 ≤ t_3_2.toInt := hz15.2.2.2.2.1
      have q21 : t_3_2.toInt ≤ 200 := hz15.2.2.2.2.2.1
      have q22 : 0 ≤ t_3_10.toInt := hz15.2.2.2.2.2.2.1
      have q23 : t_3_10.toInt ≤ 512 := hz15.2.2.2.2.2.2.2.1
      have q24 : 0 ≤ t_3_14.toInt := hz15.2.2.2.2.2.2.2.2.1
      have q25 : t_3_14.toInt ≤ 32 := hz15.2.2.2.2.2.2.2.2.2
      have g26 := zz_rg t_3_0
      have g27 := zz_rg t_3_1
      have g28 := zz_rg t_3_2
      have g29 := zz_rg t_3_3
      have g30 := zz_rg t_3_4
      have g31 := zz_rg t_3_10
      have g32 := zz_rg t_3_11
      have g33 := zz_rg t_3_14
      show zz_ok (if e_3 = "" then (if t_3_0 = ((7 : Int32)) then ((m_X1_placeInList K p1 p2).bind fun ⟨r_5, _⟩ => if r_5 = ((-1 : Int32)) then (some ("java/lang/IndexOutOfBoundsException", 0, t_3_0, t_3_1, t_3_2, t_3_3, t_3_4, t_3_5, t_3_6, t_3_7, t_3_8, t_3_9, t_3_10, t_3_11, t_3_12, t_3_13, t_3_14, t_3_15, t_3_16)) else (some ("", r_5, t_3_0, t_3_1, t_3_2, t_3_3, t_3_4, t_3_5, t_3_6, t_3_7, t_3_8, t_3_9, t_3_10, t_3_11, t_3_12, t_3_13, t_3_14, t_3_15, t_3_16))) else (some ("java/lang/UnsupportedOperationException", 0, t_3_0, t_3_1, t_3_2, t_3_3, t_3_4, t_3_5, t_3_6, t_3_7, t_3_8, t_3_9, t_3_10, t_3_11, t_3_12, t_3_13, t_3_14, t_3_15, t_3_16))) else (some (e_3, 0, t_3_0, t_3_1, t_3_2, t_3_3, t_3_4, t_3_5, t_3_6, t_3_7, t_3_8, t_3_9, t_3_10, t_3_11, t_3_12, t_3_13, t_3_14, t_3_15, t_3_16))) _
      refine zz_ok_ite (fun c34 => ?_) (fun c34 => ?_)
      · skip
        have l36 : (7 : Int32).toInt = 7 := rfl
        refine zz_ok_ite (fun c35 => ?_) (fun c35 => ?_)
        · have c35 := congrArg Int32.toInt c35
          refine zz_ok_bind (s_X1_placeInList K hK p1 p2) ?_
          intro z37 hz37
          obtain ⟨r_5, _⟩ := z37
          have g38 := zz_rg r_5
          show zz_ok (if r_5 = ((-1 : Int32)) then (some ("java/lang/IndexOutOfBoundsException", 0, t_3_0, t_3_1, t_3_2, t_3_3, t_3_4, t_3_5, t_3_6, t_3_7, t_3_8, t_3_9, t_3_10, t_3_11, t_3_12, t_3_13, t_3_14, t_3_15, t_3_16)) else (some ("", r_5, t_3_0, t_3_1, t_3_2, t_3_3, t_3_4, t_3_5, t_3_6, t_3_7, t_3_8, t_3_9, t_3_10, t_3_11, t_3_12, t_3_13, t_3_14, t_3_15, t_3_16))) _
          have l40 : (-1 : Int32).toInt = -1 := rfl
          refine zz_ok_ite (fun c39 => ?_) (fun c39 => ?_)
          · have c39 := congrArg Int32.toInt c39
            refine zz_ok_some ?_
            show ("java/lang/IndexOutOfBoundsException") ∈ (["", "java/lang/IllegalArgumentException", "java/lang/IllegalStateException", "java/lang/UnsupportedOperationException", "java/lang/IndexOutOfBoundsException"] : List String) ∧ t_3_0.toInt = s0.toInt ∧ 0 ≤ t_3_1.toInt ∧ t_3_1.toInt ≤ 1024 ∧ 0 ≤ t_3_2.toInt ∧ t_3_2.toInt ≤ 200 ∧ 0 ≤ t_3_10.toInt ∧ t_3_10.toInt ≤ 512 ∧ 0 ≤ t_3_14.toInt ∧ t_3_14.toInt ≤ 32
            exact ⟨by decide, by omega, by omega, by omega, by omega, by omega, by omega, by omega, by omega, by omega⟩
          · have c39 := zz_neq c39
            refine zz_ok_some ?_
            show ("") ∈ (["", "java/lang/IllegalArgumentException", "java/lang/IllegalStateException", "java/lang/UnsupportedOperationException", "java/lang/IndexOutOfBoundsException"] : List String) ∧ t_3_0.toInt = s0.toInt ∧ 0 ≤ t_3_1.toInt ∧ t_3_1.toInt ≤ 1024 ∧ 0 ≤ t_3_2.toInt ∧ t_3_2.toInt ≤ 200 ∧ 0 ≤ t_3_10.toInt ∧ t_3_10.toInt ≤ 512 ∧ 0 ≤ t_3_14.toInt ∧ t_3_14.toInt ≤ 32
            exact ⟨by decide, by omega, by omega, by omega, by omega, by omega, by omega, by omega, by omega, by omega⟩
        · have c35 := zz_neq c35
          refine zz_ok_some ?_
          show ("java/lang/UnsupportedOperationException") ∈ (["", "java/lang/IllegalArgumentException", "java/lang/IllegalStateException", "java/lang/UnsupportedOperationException", "java/lang/IndexOutOfBoundsException"] : List String) ∧ t_3_0.toInt = s0.toInt ∧ 0 ≤ t_3_1.toInt ∧ t_3_1.toInt ≤ 1024 ∧ 0 ≤ t_3_2.toInt ∧ t_3_2.toInt ≤ 200 ∧ 0 ≤ t_3_10.toInt ∧ t_3_10.toInt ≤ 512 ∧ 0 ≤ t_3_14.toInt ∧ t_3_14.toInt ≤ 32
          exact ⟨by decide, by omega, by omega, by omega, by omega, by omega, by omega, by omega, by omega, by omega⟩
      · skip
        refine zz_ok_some ?_
        show e_3 ∈ (["", "java/lang/IllegalArgumentException", "java/lang/IllegalStateException", "java/lang/UnsupportedOperationException", "java/lang/IndexOutOfBoundsException"] : List String) ∧ t_3_0.toInt = s0.toInt ∧ 0 ≤ t_3_1.toInt ∧ t_3_1.toInt ≤ 1024 ∧ 0 ≤ t_3_2.toInt ∧ t_3_2.toInt ≤ 200 ∧ 0 ≤ t_3_10.toInt ∧ t_3_10.toInt ≤ 512 ∧ 0 ≤ t_3_14.toInt ∧ t_3_14.toInt ≤ 32
        exact ⟨zz_mem q16 (by decide), by omega, by omega, by omega, by omega, by omega, by omega, by omega, by omega, by omega⟩
    · have c13 := zz_nlt c13
      refine zz_ok_some ?_
      show ("java/lang/IllegalArgumentException") ∈ (["", "java/lang/IllegalArgumentException", "java/lang/IllegalStateException", "java/lang/UnsupportedOperationException", "java/lang/IndexOutOfBoundsException"] : List String) ∧ s0.toInt = s0.toInt ∧ 0 ≤ s1.toInt ∧ s1.toInt ≤ 1024 ∧ 0 ≤ s2.toInt ∧ s2.toInt ≤ 200 ∧ 0 ≤ s10.toInt ∧ s10.toInt ≤ 512 ∧ 0 ≤ s14.toInt ∧ s14.toInt ≤ 32
      exact ⟨by decide, by omega, by omega, by omega, by omega, by omega, by omega, by omega, by omega, by omega⟩
set_option maxHeartbeats 4000000 in
theorem s_X11_count_X5 (K : Nat) (hK : 1099511627776 ≤ K) (n0 : Nat) (n1 : Nat) (n2 : Nat) (n3 : Nat) (n4 : Nat) (n5 : Nat) (n6 : Nat) (n7 : Nat) (n8 : Nat) (p1 : Int32) (s0 : Int32) (s1 : Int32) (s2 : Int32) (s3 : Int32) (s4 : Int32) (s5 : Nat → Int32) (s6 : Nat → Int32) (s7 : Nat → Int32) (s8 : Nat → Int32) (s9 : Nat → Int32) (s10 : Int32) (s11 : Int32) (s12 : Nat → Int32) (s13 : Nat → Int32) (s14 : Int32) (s15 : Nat → Int32) (s16 : Nat → Int32) (a0 : n0 = 1024) (a1 : n1 = 200) (a2 : n2 = 200) (a3 : n3 = 200) (a4 : n4 = 200) (a5 : n5 = 512) (a6 : n6 = 512) (a7 : n7 = 32) (a8 : n8 = 32) (a9 : 0 ≤ s1.toInt) (a10 : s1.toInt ≤ 1024) (a11 : 0 ≤ s2.toInt) (a12 : s2.toInt ≤ 200) (a13 : 0 ≤ s10.toInt) (a14 : s10.toInt ≤ 512) (a15 : 0 ≤ s14.toInt) (a16 : s14.toInt ≤ 32) (a17 : p1.toInt ≠ 12) : zz_ok (m_X11_count_X5 K n0 n1 n2 n3 n4 n5 n6 n7 n8 p1 s0 s1 s2 s3 s4 s5 s6 s7 s8 s9 s10 s11 s12 s13 s14 s15 s16) (fun z => z.1 ∈ (["", "java/lang/IllegalArgumentException"] : List String) ∧ z.2.2.1.toInt = s0.toInt ∧ 0 ≤ z.2.2.2.1.toInt ∧ z.2.2.2.1.toInt ≤ 1024 ∧ 0 ≤ z.2.2.2.2.1.toInt ∧ z.2.2.2.2.1.toInt ≤ 200 ∧ 0 ≤ z.2.2.2.2.2.2.2.2.2.2.2.2.1.toInt ∧ z.2.2.2.2.2.2.2.2.2.2.2.2.1.toInt ≤ 512 ∧ 0 ≤ z.2.2.2.2.2.2.2.2.2.2.2.2.2.2.2.2.1.toInt ∧ z.2.2.2.2.2.2.2.2.2.2.2.2.2.2.2.2.1.toInt ≤ 32) := by
  have g1 := zz_rg p1
  have g2 := zz_rg s0
  have g3 := zz_rg s1
  have g4 := zz_rg s2
  have g5 := zz_rg s3
  have g6 := zz_rg s4
  have g7 := zz_rg s10
  have g8 := zz_rg s11
  have g9 := zz_rg s14
  unfold m_X11_count_X5
  have l11 : (0 : Int32).toInt = 0 := rfl
  refine zz_ok_ite (fun c10 => ?_) (fun c10 => ?_)
  · have c10 := Int32.lt_iff_toInt_lt.mp c10
    refine zz_ok_some ?_
    show ("java/lang/IllegalArgumentException") ∈ (["", "java/lang/IllegalArgumentException"] : List String) ∧ s0.toInt = s0.toInt ∧ 0 ≤ s1.toInt ∧ s1.toInt ≤ 1024 ∧ 0 ≤ s2.toInt ∧ s2.toInt ≤ 200 ∧ 0 ≤ s10.toInt ∧ s10.toInt ≤ 512 ∧ 0 ≤ s14.toInt ∧ s14.toInt ≤ 32
    exact ⟨by decide, by omega, by omega, by omega, by omega, by omega, by omega, by omega, by omega, by omega⟩
  · have c10 := zz_nlt c10
    have l13 : (13 : Int32).toInt = 13 := rfl
    refine zz_ok_ite (fun c12 => ?_) (fun c12 => ?_)
    · have c12 := Int32.lt_iff_toInt_lt.mp c12
      refine zz_ok_ite (fun c14 => ?_) (fun c14 => ?_)
      · have c14 := congrArg Int32.toInt c14
        refine zz_ok_some ?_
        show ("") ∈ (["", "java/lang/IllegalArgumentException"] : List String) ∧ s0.toInt = s0.toInt ∧ 0 ≤ s1.toInt ∧ s1.toInt ≤ 1024 ∧ 0 ≤ s2.toInt ∧ s2.toInt ≤ 200 ∧ 0 ≤ s10.toInt ∧ s10.toInt ≤ 512 ∧ 0 ≤ s14.toInt ∧ s14.toInt ≤ 32
        exact ⟨by decide, by omega, by omega, by omega, by omega, by omega, by omega, by omega, by omega, by omega⟩
      · have c14 := zz_neq c14
        have l16 : (12 : Int32).toInt = 12 := rfl
        refine zz_ok_ite (fun c15 => ?_) (fun c15 => ?_)
        · have c15 := congrArg Int32.toInt c15
          exfalso
          omega
        · have c15 := zz_neq c15
          have l18 : (8 : Int32).toInt = 8 := rfl
          refine zz_ok_ite (fun c17 => ?_) (fun c17 => ?_)
          · have c17 := Int32.lt_iff_toInt_lt.mp c17
            refine zz_ok_bind (s_X11_countInForm_X5 K hK n0 n1 n2 n3 n4 n5 n6 n7 n8 p1 s0 s1 s2 s3 s4 s5 s6 s7 s8 s9 s10 s11 s12 s13 s14 s15 s16 (by omega) (by omega) (by omega) (by omega) (by omega) (by omega) (by omega) (by omega) (by omega) (by omega) (by omega) (by omega) (by omega) (by omega) (by omega) (by omega) (by omega)) ?_
            intro z19 hz19
            obtain ⟨e_6, r_6, t_6_0, t_6_1, t_6_2, t_6_3, t_6_4, t_6_5, t_6_6, t_6_7, t_6_8, t_6_9, t_6_10, t_6_11, t_6_12, t_6_13, t_6_14, t_6_15, t_6_16⟩ := z19
            have q20 : e_6 ∈ ([""] : List String) := hz19.1
            have q21 : t_6_0.toInt = s0.toInt := hz19.2.1
            have q22 : 0 ≤ t_6_1.toInt := hz19.2.2.1
            have q23 : t_6_1.toInt ≤ 1024 := hz19.2.2.2.1
            have q24 : 0 ≤ t_6_2.toInt := hz19.2.2.2.2.1
            have q25 : t_6_2.toInt ≤ 200 := hz19.2.2.2.2.2.1
            have q26 : 0 ≤ t_6_10.toInt := hz19.2.2.2.2.2.2.1
            have q27 : t_6_10.toInt ≤ 512 := hz19.2.2.2.2.2.2.2.1
            have q28 : 0 ≤ t_6_14.toInt := hz19.2.2.2.2.2.2.2.2.1
            have q29 : t_6_14.toInt ≤ 32 := hz19.2.2.2.2.2.2.2.2.2
            have g30 := zz_rg r_6
            have g31 := zz_rg t_6_0
            have g32 := zz_rg t_6_1
            have g33 := zz_rg t_6_2
            have g34 := zz_rg t_6_3
            have g35 := zz_rg t_6_4
            have g36 := zz_rg t_6_10
            have g37 := zz_rg t_6_11
            have g38 := zz_rg t_6_14
            show zz_ok (if e_6 = "" then (some ("", r_6, t_6_0, t_6_1, t_6_2, t_6_3, t_6_4, t_6_5, t_6_6, t_6_7, t_6_8, t_6_9, t_6_10, t_6_11, t_6_12, t_6_13, t_6_14, t_6_15, t_6_16)) else (some (e_6, 0, t_6_0, t_6_1, t_6_2, t_6_3, t_6_4, t_6_5, t_6_6, t_6_7, t_6_8, t_6_9, t_6_10, t_6_11, t_6_12, t_6_13, t_6_14, t_6_15, t_6_16))) _
            refine zz_ok_ite (fun c39 => ?_) (fun c39 => ?_)
            · skip
              refine zz_ok_some ?_
              show ("") ∈ (["", "java/lang/IllegalArgumentException"] : List String) ∧ t_6_0.toInt = s0.toInt ∧ 0 ≤ t_6_1.toInt ∧ t_6_1.toInt ≤ 1024 ∧ 0 ≤ t_6_2.toInt ∧ t_6_2.toInt ≤ 200 ∧ 0 ≤ t_6_10.toInt ∧ t_6_10.toInt ≤ 512 ∧ 0 ≤ t_6_14.toInt ∧ t_6_14.toInt ≤ 32
              exact ⟨by decide, by omega, by omega, by omega, by omega, by omega, by omega, by omega, by omega, by omega⟩
            · skip
              refine zz_ok_some ?_
              show e_6 ∈ (["", "java/lang/IllegalArgumentException"] : List String) ∧ t_6_0.toInt = s0.toInt ∧ 0 ≤ t_6_1.toInt ∧ t_6_1.toInt ≤ 1024 ∧ 0 ≤ t_6_2.toInt ∧ t_6_2.toInt ≤ 200 ∧ 0 ≤ t_6_10.toInt ∧ t_6_10.toInt ≤ 512 ∧ 0 ≤ t_6_14.toInt ∧ t_6_14.toInt ≤ 32
              exact ⟨zz_mem q20 (by decide), by omega, by omega, by omega, by omega, by omega, by omega, by omega, by omega, by omega⟩
          · have c17 := zz_nlt c17
            refine zz_ok_bind (s_X11_countInRoom_X5 K hK n0 n1 n2 n3 n4 n5 n6 n7 n8 p1 s0 s1 s2 s3 s4 s5 s6 s7 s8 s9 s10 s11 s12 s13 s14 s15 s16 (by omega) (by omega) (by omega) (by omega) (by omega) (by omega) (by omega) (by omega) (by omega) (by omega) (by omega) (by omega) (by omega) (by omega) (by omega) (by omega) (by omega)) ?_
            intro z40 hz40
            obtain ⟨e_7, r_7, t_7_0, t_7_1, t_7_2, t_7_3, t_7_4, t_7_5, t_7_6, t_7_7, t_7_8, t_7_9, t_7_10, t_7_11, t_7_12, t_7_13, t_7_14, t_7_15, t_7_16⟩ := z40
            have q41 : e_7 ∈ ([""] : List String) := hz40.1
            have q42 : t_7_0.toInt = s0.toInt := hz40.2.1
            have q43 : 0 ≤ t_7_1.toInt := hz40.2.2.1
            have q44 : t_7_1.toInt ≤ 1024 := hz40.2.2.2.1
            have q45 : 0 ≤ t_7_2.toInt := hz40.2.2.2.2.1
            have q46 : t_7_2.toInt ≤ 200 := hz40.2.2.2.2.2.1
            have q47 : 0 ≤ t_7_10.toInt := hz40.2.2.2.2.2.2.1
            have q48 : t_7_10.toInt ≤ 512 := hz40.2.2.2.2.2.2.2.1
            have q49 : 0 ≤ t_7_14.toInt := hz40.2.2.2.2.2.2.2.2.1
            have q50 : t_7_14.toInt ≤ 32 := hz40.2.2.2.2.2.2.2.2.2
            have g51 := zz_rg r_7
            have g52 := zz_rg t_7_0
            have g53 := zz_rg t_7_1
            have g54 := zz_rg t_7_2
            have g55 := zz_rg t_7_3
            have g56 := zz_rg t_7_4
            have g57 := zz_rg t_7_10
            have g58 := zz_rg t_7_11
            have g59 := zz_rg t_7_14
            show zz_ok (if e_7 = "" then (some ("", r_7, t_7_0, t_7_1, t_7_2, t_7_3, t_7_4, t_7_5, t_7_6, t_7_7, t_7_8, t_7_9, t_7_10, t_7_11, t_7_12, t_7_13, t_7_14, t_7_15, t_7_16)) else (some (e_7, 0, t_7_0, t_7_1, t_7_2, t_7_3, t_7_4, t_7_5, t_7_6, t_7_7, t_7_8, t_7_9, t_7_10, t_7_11, t_7_12, t_7_13, t_7_14, t_7_15, t_7_16))) _
            refine zz_ok_ite (fun c60 => ?_) (fun c60 => ?_)
            · skip
              refine zz_ok_some ?_
              show ("") ∈ (["", "java/lang/IllegalArgumentException"] : List String) ∧ t_7_0.toInt = s0.toInt ∧ 0 ≤ t_7_1.toInt ∧ t_7_1.toInt ≤ 1024 ∧ 0 ≤ t_7_2.toInt ∧ t_7_2.toInt ≤ 200 ∧ 0 ≤ t_7_10.toInt ∧ t_7_10.toInt ≤ 512 ∧ 0 ≤ t_7_14.toInt ∧ t_7_14.toInt ≤ 32
              exact ⟨by decide, by omega, by omega, by omega, by omega, by omega, by omega, by omega, by omega, by omega⟩
            · skip
              refine zz_ok_some ?_
              show e_7 ∈ (["", "java/lang/IllegalArgumentException"] : List String) ∧ t_7_0.toInt = s0.toInt ∧ 0 ≤ t_7_1.toInt ∧ t_7_1.toInt ≤ 1024 ∧ 0 ≤ t_7_2.toInt ∧ t_7_2.toInt ≤ 200 ∧ 0 ≤ t_7_10.toInt ∧ t_7_10.toInt ≤ 512 ∧ 0 ≤ t_7_14.toInt ∧ t_7_14.toInt ≤ 32
              exact ⟨zz_mem q41 (by decide), by omega, by omega, by omega, by omega, by omega, by omega, by omega, by omega, by omega⟩
    · have c12 := zz_nlt c12
      refine zz_ok_some ?_
      show ("java/lang/IllegalArgumentException") ∈ (["", "java/lang/IllegalArgumentException"] : List String) ∧ s0.toInt = s0.toInt ∧ 0 ≤ s1.toInt ∧ s1.toInt ≤ 1024 ∧ 0 ≤ s2.toInt ∧ s2.toInt ≤ 200 ∧ 0 ≤ s10.toInt ∧ s10.toInt ≤ 512 ∧ 0 ≤ s14.toInt ∧ s14.toInt ≤ 32
      exact ⟨by decide, by omega, by omega, by omega, by omega, by omega, by omega, by omega, by omega, by omega⟩

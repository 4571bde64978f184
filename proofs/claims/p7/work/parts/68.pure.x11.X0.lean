set_option maxHeartbeats 4000000 in
theorem s_X11_needRoom_X0 (K : Nat) (hK : 1099511627776 ≤ K) (n0 : Nat) (n1 : Nat) (n2 : Nat) (n3 : Nat) (n4 : Nat) (n5 : Nat) (n6 : Nat) (k0 : Int32) (s0 : Int32) (s1 : Int32) (s2 : Int32) (s3 : Int32) (s4 : Int32) (s5 : Nat → Int32) (s6 : Nat → Int32) (s7 : Nat → Int32) (s8 : Nat → Int32) (s9 : Nat → Int32) (s10 : Int32) (s11 : Int32) (s12 : Nat → Int32) (s13 : Nat → Int32) (s14 : Int32) (a0 : n0 = 1024) (a1 : n1 = 200) (a2 : n2 = 200) (a3 : n3 = 200) (a4 : n4 = 200) (a5 : n5 = 512) (a6 : n6 = 512) (a7 : 0 ≤ s1.toInt) (a8 : s1.toInt ≤ 1024) (a9 : 0 ≤ s2.toInt) (a10 : s2.toInt ≤ 200) (a11 : 0 ≤ s10.toInt) (a12 : s10.toInt ≤ 512) : zz_ok (m_X11_needRoom_X0 K n0 n1 n2 n3 n4 n5 n6 k0 s0 s1 s2 s3 s4 s5 s6 s7 s8 s9 s10 s11 s12 s13 s14) (fun z => z.1 ∈ (["", "java/lang/IllegalStateException"] : List String) ∧ z.2.1.toInt = s0.toInt ∧ 0 ≤ z.2.2.1.toInt ∧ z.2.2.1.toInt ≤ 1024 ∧ 0 ≤ z.2.2.2.1.toInt ∧ z.2.2.2.1.toInt ≤ 200 ∧ 0 ≤ z.2.2.2.2.2.2.2.2.2.2.2.1.toInt ∧ z.2.2.2.2.2.2.2.2.2.2.2.1.toInt ≤ 512) := by
  have g1 := zz_rg k0
  have g2 := zz_rg s0
  have g3 := zz_rg s1
  have g4 := zz_rg s2
  have g5 := zz_rg s3
  have g6 := zz_rg s4
  have g7 := zz_rg s10
  have g8 := zz_rg s11
  have g9 := zz_rg s14
  unfold m_X11_needRoom_X0
  refine zz_ok_some ?_
  show ("") ∈ (["", "java/lang/IllegalStateException"] : List String) ∧ s0.toInt = s0.toInt ∧ 0 ≤ s1.toInt ∧ s1.toInt ≤ 1024 ∧ 0 ≤ s2.toInt ∧ s2.toInt ≤ 200 ∧ 0 ≤ s10.toInt ∧ s10.toInt ≤ 512
  exact ⟨by decide, by omega, by omega, by omega, by omega, by omega, by omega, by omega⟩
set_option maxHeartbeats 4000000 in
theorem s_X11_needBlock_X0 (K : Nat) (hK : 1099511627776 ≤ K) (n0 : Nat) (n1 : Nat) (n2 : Nat) (n3 : Nat) (n4 : Nat) (n5 : Nat) (n6 : Nat) (k0 : Int32) (p1 : Int32) (s0 : Int32) (s1 : Int32) (s2 : Int32) (s3 : Int32) (s4 : Int32) (s5 : Nat → Int32) (s6 : Nat → Int32) (s7 : Nat → Int32) (s8 : Nat → Int32) (s9 : Nat → Int32) (s10 : Int32) (s11 : Int32) (s12 : Nat → Int32) (s13 : Nat → Int32) (s14 : Int32) (a0 : n0 = 1024) (a1 : n1 = 200) (a2 : n2 = 200) (a3 : n3 = 200) (a4 : n4 = 200) (a5 : n5 = 512) (a6 : n6 = 512) (a7 : 0 ≤ s1.toInt) (a8 : s1.toInt ≤ 1024) (a9 : 0 ≤ s2.toInt) (a10 : s2.toInt ≤ 200) (a11 : 0 ≤ s10.toInt) (a12 : s10.toInt ≤ 512) : zz_ok (m_X11_needBlock_X0 K n0 n1 n2 n3 n4 n5 n6 k0 p1 s0 s1 s2 s3 s4 s5 s6 s7 s8 s9 s10 s11 s12 s13 s14) (fun z => z.1 ∈ (["", "java/util/NoSuchElementException"] : List String) ∧ z.2.2.1.toInt = s0.toInt ∧ 0 ≤ z.2.2.2.1.toInt ∧ z.2.2.2.1.toInt ≤ 1024 ∧ 0 ≤ z.2.2.2.2.1.toInt ∧ z.2.2.2.2.1.toInt ≤ 200 ∧ 0 ≤ z.2.2.2.2.2.2.2.2.2.2.2.2.1.toInt ∧ z.2.2.2.2.2.2.2.2.2.2.2.2.1.toInt ≤ 512) := by
  have g1 := zz_rg k0
  have g2 := zz_rg p1
  have g3 := zz_rg s0
  have g4 := zz_rg s1
  have g5 := zz_rg s2
  have g6 := zz_rg s3
  have g7 := zz_rg s4
  have g8 := zz_rg s10
  have g9 := zz_rg s11
  have g10 := zz_rg s14
  unfold m_X11_needBlock_X0
  refine zz_ok_bind (s_X7_slotOf K hK n0 n1 n2 n3 n4 n5 n6 p1 s1 s2 s3 s4 s5 s6 s7 s8 s9 s10 s11 s12 s13 (by omega) (by omega) (by omega) (by omega) (by omega) (by omega) (by omega) (by omega) (by omega) (by omega) (by omega) (by omega) (by omega)) ?_
  intro z11 hz11
  obtain ⟨r_1, t_1_0, t_1_1, t_1_2, t_1_3, t_1_4, t_1_5, t_1_6, t_1_7, t_1_8, t_1_9, t_1_10, t_1_11, t_1_12⟩ := z11
  have q12 : -1 ≤ r_1.toInt := hz11.1
  have q13 : t_1_0.toInt = s1.toInt := hz11.2.1
  have q14 : t_1_1.toInt = s2.toInt := hz11.2.2.1
  have q15 : 0 ≤ t_1_9.toInt := hz11.2.2.2.1
  have q16 : t_1_9.toInt ≤ 512 := hz11.2.2.2.2
  have g17 := zz_rg r_1
  have g18 := zz_rg t_1_0
  have g19 := zz_rg t_1_1
  have g20 := zz_rg t_1_2
  have g21 := zz_rg t_1_3
  have g22 := zz_rg t_1_9
  have g23 := zz_rg t_1_10
  show zz_ok (if r_1 = ((-1 : Int32)) then (some ("java/util/NoSuchElementException", 0, s0, t_1_0, t_1_1, t_1_2, t_1_3, t_1_4, t_1_5, t_1_6, t_1_7, t_1_8, t_1_9, t_1_10, t_1_11, t_1_12, s14)) else (some ("", r_1, s0, t_1_0, t_1_1, t_1_2, t_1_3, t_1_4, t_1_5, t_1_6, t_1_7, t_1_8, t_1_9, t_1_10, t_1_11, t_1_12, s14))) _
  have l25 : (-1 : Int32).toInt = -1 := rfl
  refine zz_ok_ite (fun c24 => ?_) (fun c24 => ?_)
  · have c24 := congrArg Int32.toInt c24
    have l26 : (0 : Int32).toInt = 0 := rfl
    refine zz_ok_some ?_
    show ("java/util/NoSuchElementException") ∈ (["", "java/util/NoSuchElementException"] : List String) ∧ s0.toInt = s0.toInt ∧ 0 ≤ t_1_0.toInt ∧ t_1_0.toInt ≤ 1024 ∧ 0 ≤ t_1_1.toInt ∧ t_1_1.toInt ≤ 200 ∧ 0 ≤ t_1_9.toInt ∧ t_1_9.toInt ≤ 512
    exact ⟨by decide, by omega, by omega, by omega, by omega, by omega, by omega, by omega⟩
  · have c24 := zz_neq c24
    refine zz_ok_some ?_
    show ("") ∈ (["", "java/util/NoSuchElementException"] : List String) ∧ s0.toInt = s0.toInt ∧ 0 ≤ t_1_0.toInt ∧ t_1_0.toInt ≤ 1024 ∧ 0 ≤ t_1_1.toInt ∧ t_1_1.toInt ≤ 200 ∧ 0 ≤ t_1_9.toInt ∧ t_1_9.toInt ≤ 512
    exact ⟨by decide, by omega, by omega, by omega, by omega, by omega, by omega, by omega⟩
set_option maxHeartbeats 4000000 in
theorem s_X11_countInRoom_X0 (K : Nat) (hK : 1099511627776 ≤ K) (n0 : Nat) (n1 : Nat) (n2 : Nat) (n3 : Nat) (n4 : Nat) (n5 : Nat) (n6 : Nat) (k0 : Int32) (p1 : Int32) (s0 : Int32) (s1 : Int32) (s2 : Int32) (s3 : Int32) (s4 : Int32) (s5 : Nat → Int32) (s6 : Nat → Int32) (s7 : Nat → Int32) (s8 : Nat → Int32) (s9 : Nat → Int32) (s10 : Int32) (s11 : Int32) (s12 : Nat → Int32) (s13 : Nat → Int32) (s14 : Int32) (a0 : n0 = 1024) (a1 : n1 = 200) (a2 : n2 = 200) (a3 : n3 = 200) (a4 : n4 = 200) (a5 : n5 = 512) (a6 : n6 = 512) (a7 : 0 ≤ s1.toInt) (a8 : s1.toInt ≤ 1024) (a9 : 0 ≤ s2.toInt) (a10 : s2.toInt ≤ 200) (a11 : 0 ≤ s10.toInt) (a12 : s10.toInt ≤ 512) : zz_ok (m_X11_countInRoom_X0 K n0 n1 n2 n3 n4 n5 n6 k0 p1 s0 s1 s2 s3 s4 s5 s6 s7 s8 s9 s10 s11 s12 s13 s14) (fun z => z.1 ∈ ([""] : List String) ∧ z.2.2.1.toInt = s0.toInt ∧ 0 ≤ z.2.2.2.1.toInt ∧ z.2.2.2.1.toInt ≤ 1024 ∧ 0 ≤ z.2.2.2.2.1.toInt ∧ z.2.2.2.2.1.toInt ≤ 200 ∧ 0 ≤ z.2.2.2.2.2.2.2.2.2.2.2.2.1.toInt ∧ z.2.2.2.2.2.2.2.2.2.2.2.2.1.toInt ≤ 512) := by
  have g1 := zz_rg k0
  have g2 := zz_rg p1
  have g3 := zz_rg s0
  have g4 := zz_rg s1
  have g5 := zz_rg s2
  have g6 := zz_rg s3
  have g7 := zz_rg s4
  have g8 := zz_rg s10
  have g9 := zz_rg s11
  have g10 := zz_rg s14
  unfold m_X11_countInRoom_X0
  have l12 : (1 : Int32).toInt = 1 := rfl
  refine zz_ok_ite (fun c11 => ?_) (fun c11 => ?_)
  · have c11 := congrArg Int32.toInt c11
    refine zz_ok_bind (s_X7_words K hK n0 n1 n2 n3 n4 n5 n6 s1 s2 s3 s4 s5 s6 s7 s8 s9 s10 s11 s12 s13 (by omega) (by omega) (by omega) (by omega) (by omega) (by omega) (by omega) (by omega) (by omega) (by omega) (by omega) (by omega) (by omega)) ?_
    intro z13 hz13
    obtain ⟨r_2, t_2_0, t_2_1, t_2_2, t_2_3, t_2_4, t_2_5, t_2_6, t_2_7, t_2_8, t_2_9, t_2_10, t_2_11, t_2_12⟩ := z13
    have q14 : r_2.toInt = s1.toInt := hz13.1
    have q15 : t_2_0.toInt = s1.toInt := hz13.2.1
    have q16 : t_2_1.toInt = s2.toInt := hz13.2.2.1
    have q17 : 0 ≤ t_2_9.toInt := hz13.2.2.2.1
    have q18 : t_2_9.toInt ≤ 512 := hz13.2.2.2.2
    have g19 := zz_rg r_2
    have g20 := zz_rg t_2_0
    have g21 := zz_rg t_2_1
    have g22 := zz_rg t_2_2
    have g23 := zz_rg t_2_3
    have g24 := zz_rg t_2_9
    have g25 := zz_rg t_2_10
    show zz_ok (some ("", r_2, s0, t_2_0, t_2_1, t_2_2, t_2_3, t_2_4, t_2_5, t_2_6, t_2_7, t_2_8, t_2_9, t_2_10, t_2_11, t_2_12, s14)) _
    refine zz_ok_some ?_
    show ("") ∈ ([""] : List String) ∧ s0.toInt = s0.toInt ∧ 0 ≤ t_2_0.toInt ∧ t_2_0.toInt ≤ 1024 ∧ 0 ≤ t_2_1.toInt ∧ t_2_1.toInt ≤ 200 ∧ 0 ≤ t_2_9.toInt ∧ t_2_9.toInt ≤ 512
    exact ⟨by decide, by omega, by omega, by omega, by omega, by omega, by omega, by omega⟩
  · have c11 := zz_neq c11
    have l27 : (2 : Int32).toInt = 2 := rfl
    refine zz_ok_ite (fun c26 => ?_) (fun c26 => ?_)
    · have c26 := congrArg Int32.toInt c26
      refine zz_ok_bind (s_X7_blocks K hK n0 n1 n2 n3 n4 n5 n6 s1 s2 s3 s4 s5 s6 s7 s8 s9 s10 s11 s12 s13 (by omega) (by omega) (by omega) (by omega) (by omega) (by omega) (by omega) (by omega) (by omega) (by omega) (by omega) (by omega) (by omega)) ?_
      intro z28 hz28
      obtain ⟨r_4, t_4_0, t_4_1, t_4_2, t_4_3, t_4_4, t_4_5, t_4_6, t_4_7, t_4_8, t_4_9, t_4_10, t_4_11, t_4_12⟩ := z28
      have q29 : r_4.toInt = s2.toInt := hz28.1
      have q30 : t_4_0.toInt = s1.toInt := hz28.2.1
      have q31 : t_4_1.toInt = s2.toInt := hz28.2.2.1
      have q32 : 0 ≤ t_4_9.toInt := hz28.2.2.2.1
      have q33 : t_4_9.toInt ≤ 512 := hz28.2.2.2.2
      have g34 := zz_rg r_4
      have g35 := zz_rg t_4_0
      have g36 := zz_rg t_4_1
      have g37 := zz_rg t_4_2
      have g38 := zz_rg t_4_3
      have g39 := zz_rg t_4_9
      have g40 := zz_rg t_4_10
      show zz_ok (some ("", r_4, s0, t_4_0, t_4_1, t_4_2, t_4_3, t_4_4, t_4_5, t_4_6, t_4_7, t_4_8, t_4_9, t_4_10, t_4_11, t_4_12, s14)) _
      refine zz_ok_some ?_
      show ("") ∈ ([""] : List String) ∧ s0.toInt = s0.toInt ∧ 0 ≤ t_4_0.toInt ∧ t_4_0.toInt ≤ 1024 ∧ 0 ≤ t_4_1.toInt ∧ t_4_1.toInt ≤ 200 ∧ 0 ≤ t_4_9.toInt ∧ t_4_9.toInt ≤ 512
      exact ⟨by decide, by omega, by omega, by omega, by omega, by omega, by omega, by omega⟩
    · have c26 := zz_neq c26
      have l42 : (3 : Int32).toInt = 3 := rfl
      refine zz_ok_ite (fun c41 => ?_) (fun c41 => ?_)
      · have c41 := congrArg Int32.toInt c41
        refine zz_ok_bind (s_X7_given K hK n0 n1 n2 n3 n4 n5 n6 s1 s2 s3 s4 s5 s6 s7 s8 s9 s10 s11 s12 s13 (by omega) (by omega) (by omega) (by omega) (by omega) (by omega) (by omega) (by omega) (by omega) (by omega) (by omega) (by omega) (by omega)) ?_
        intro z43 hz43
        obtain ⟨r_6, t_6_0, t_6_1, t_6_2, t_6_3, t_6_4, t_6_5, t_6_6, t_6_7, t_6_8, t_6_9, t_6_10, t_6_11, t_6_12⟩ := z43
        have q44 : t_6_0.toInt = s1.toInt := hz43.1
        have q45 : t_6_1.toInt = s2.toInt := hz43.2.1
        have q46 : 0 ≤ t_6_9.toInt := hz43.2.2.1
        have q47 : t_6_9.toInt ≤ 512 := hz43.2.2.2
        have g48 := zz_rg r_6
        have g49 := zz_rg t_6_0
        have g50 := zz_rg t_6_1
        have g51 := zz_rg t_6_2
        have g52 := zz_rg t_6_3
        have g53 := zz_rg t_6_9
        have g54 := zz_rg t_6_10
        show zz_ok (some ("", r_6, s0, t_6_0, t_6_1, t_6_2, t_6_3, t_6_4, t_6_5, t_6_6, t_6_7, t_6_8, t_6_9, t_6_10, t_6_11, t_6_12, s14)) _
        refine zz_ok_some ?_
        show ("") ∈ ([""] : List String) ∧ s0.toInt = s0.toInt ∧ 0 ≤ t_6_0.toInt ∧ t_6_0.toInt ≤ 1024 ∧ 0 ≤ t_6_1.toInt ∧ t_6_1.toInt ≤ 200 ∧ 0 ≤ t_6_9.toInt ∧ t_6_9.toInt ≤ 512
        exact ⟨by decide, by omega, by omega, by omega, by omega, by omega, by omega, by omega⟩
      · have c41 := zz_neq c41
        have l56 : (4 : Int32).toInt = 4 := rfl
        refine zz_ok_ite (fun c55 => ?_) (fun c55 => ?_)
        · have c55 := congrArg Int32.toInt c55
          refine zz_ok_bind (s_X7_askedTogether K hK n0 n1 n2 n3 n4 n5 n6 s1 s2 s3 s4 s5 s6 s7 s8 s9 s10 s11 s12 s13 (by omega) (by omega) (by omega) (by omega) (by omega) (by omega) (by omega) (by omega) (by omega) (by omega) (by omega) (by omega) (by omega)) ?_
          intro z57 hz57
          obtain ⟨r_8, t_8_0, t_8_1, t_8_2, t_8_3, t_8_4, t_8_5, t_8_6, t_8_7, t_8_8, t_8_9, t_8_10, t_8_11, t_8_12⟩ := z57
          have q58 : t_8_0.toInt = s1.toInt := hz57.1
          have q59 : t_8_1.toInt = s2.toInt := hz57.2.1
          have q60 : 0 ≤ t_8_9.toInt := hz57.2.2.1
          have q61 : t_8_9.toInt ≤ 512 := hz57.2.2.2
          have g62 := zz_rg r_8
          have g63 := zz_rg t_8_0
          have g64 := zz_rg t_8_1
          have g65 := zz_rg t_8_2
          have g66 := zz_rg t_8_3
          have g67 := zz_rg t_8_9
          have g68 := zz_rg t_8_10
          show zz_ok (some ("", r_8, s0, t_8_0, t_8_1, t_8_2, t_8_3, t_8_4, t_8_5, t_8_6, t_8_7, t_8_8, t_8_9, t_8_10, t_8_11, t_8_12, s14)) _
          refine zz_ok_some ?_
          show ("") ∈ ([""] : List String) ∧ s0.toInt = s0.toInt ∧ 0 ≤ t_8_0.toInt ∧ t_8_0.toInt ≤ 1024 ∧ 0 ≤ t_8_1.toInt ∧ t_8_1.toInt ≤ 200 ∧ 0 ≤ t_8_9.toInt ∧ t_8_9.toInt ≤ 512
          exact ⟨by decide, by omega, by omega, by omega, by omega, by omega, by omega, by omega⟩
        · have c55 := zz_neq c55
          have l70 : (5 : Int32).toInt = 5 := rfl
          refine zz_ok_ite (fun c69 => ?_) (fun c69 => ?_)
          · have c69 := congrArg Int32.toInt c69
            refine zz_ok_bind (s_X7_spansTogether K hK n0 n1 n2 n3 n4 n5 n6 s1 s2 s3 s4 s5 s6 s7 s8 s9 s10 s11 s12 s13 (by omega) (by omega) (by omega) (by omega) (by omega) (by omega) (by omega) (by omega) (by omega) (by omega) (by omega) (by omega) (by omega)) ?_
            intro z71 hz71
            obtain ⟨r_10, t_10_0, t_10_1, t_10_2, t_10_3, t_10_4, t_10_5, t_10_6, t_10_7, t_10_8, t_10_9, t_10_10, t_10_11, t_10_12⟩ := z71
            have q72 : t_10_0.toInt = s1.toInt := hz71.1
            have q73 : t_10_1.toInt = s2.toInt := hz71.2.1
            have q74 : 0 ≤ t_10_9.toInt := hz71.2.2.1
            have q75 : t_10_9.toInt ≤ 512 := hz71.2.2.2
            have g76 := zz_rg r_10
            have g77 := zz_rg t_10_0
            have g78 := zz_rg t_10_1
            have g79 := zz_rg t_10_2
            have g80 := zz_rg t_10_3
            have g81 := zz_rg t_10_9
            have g82 := zz_rg t_10_10
            show zz_ok (some ("", r_10, s0, t_10_0, t_10_1, t_10_2, t_10_3, t_10_4, t_10_5, t_10_6, t_10_7, t_10_8, t_10_9, t_10_10, t_10_11, t_10_12, s14)) _
            refine zz_ok_some ?_
            show ("") ∈ ([""] : List String) ∧ s0.toInt = s0.toInt ∧ 0 ≤ t_10_0.toInt ∧ t_10_0.toInt ≤ 1024 ∧ 0 ≤ t_10_1.toInt ∧ t_10_1.toInt ≤ 200 ∧ 0 ≤ t_10_9.toInt ∧ t_10_9.toInt ≤ 512
            exact ⟨by decide, by omega, by omega, by omega, by omega, by omega, by omega, by omega⟩
          · have c69 := zz_neq c69
            have l84 : (6 : Int32).toInt = 6 := rfl
            refine zz_ok_ite (fun c83 => ?_) (fun c83 => ?_)
            · have c83 := congrArg Int32.toInt c83
              refine zz_ok_bind (s_X7_listRuns K hK n0 n1 n2 n3 n4 n5 n6 s1 s2 s3 s4 s5 s6 s7 s8 s9 s10 s11 s12 s13 (by omega) (by omega) (by omega) (by omega) (by omega) (by omega) (by omega) (by omega) (by omega) (by omega) (by omega) (by omega) (by omega)) ?_
              intro z85 hz85
              obtain ⟨t_12_0, t_12_1, t_12_2, t_12_3, t_12_4, t_12_5, t_12_6, t_12_7, t_12_8, t_12_9, t_12_10, t_12_11, t_12_12⟩ := z85
              have q86 : t_12_0.toInt = s1.toInt := hz85.1
              have q87 : t_12_1.toInt = s2.toInt := hz85.2.1
              have q88 : 0 ≤ t_12_9.toInt := hz85.2.2.1
              have q89 : t_12_9.toInt ≤ 512 := hz85.2.2.2
              have g90 := zz_rg t_12_0
              have g91 := zz_rg t_12_1
              have g92 := zz_rg t_12_2
              have g93 := zz_rg t_12_3
              have g94 := zz_rg t_12_9
              have g95 := zz_rg t_12_10
              show zz_ok ((m_X10_size K n5 n6 t_12_9 t_12_10 t_12_11 t_12_12).bind fun ⟨r_13, t_13_0, t_13_1, t_13_2, t_13_3⟩ => some ("", r_13, s0, t_12_0, t_12_1, t_12_2, t_12_3, t_12_4, t_12_5, t_12_6, t_12_7, t_12_8, t_13_0, t_13_1, t_13_2, t_13_3, s14)) _
              refine zz_ok_bind (s_X10_size K hK n5 n6 t_12_9 t_12_10 t_12_11 t_12_12) ?_
              intro z96 hz96
              obtain ⟨r_13, t_13_0, t_13_1, t_13_2, t_13_3⟩ := z96
              have q97 : r_13.toInt = t_12_9.toInt := hz96.1
              have q98 : t_13_0.toInt = t_12_9.toInt := hz96.2
              have g99 := zz_rg r_13
              have g100 := zz_rg t_13_0
              have g101 := zz_rg t_13_1
              show zz_ok (some ("", r_13, s0, t_12_0, t_12_1, t_12_2, t_12_3, t_12_4, t_12_5, t_12_6, t_12_7, t_12_8, t_13_0, t_13_1, t_13_2, t_13_3, s14)) _
              refine zz_ok_some ?_
              show ("") ∈ ([""] : List String) ∧ s0.toInt = s0.toInt ∧ 0 ≤ t_12_0.toInt ∧ t_12_0.toInt ≤ 1024 ∧ 0 ≤ t_12_1.toInt ∧ t_12_1.toInt ≤ 200 ∧ 0 ≤ t_13_0.toInt ∧ t_13_0.toInt ≤ 512
              exact ⟨by decide, by omega, by omega, by omega, by omega, by omega, by omega, by omega⟩
            · have c83 := zz_neq c83
              have l103 : (7 : Int32).toInt = 7 := rfl
              refine zz_ok_ite (fun c102 => ?_) (fun c102 => ?_)
              · have c102 := congrArg Int32.toInt c102
                refine zz_ok_bind (s_X7_listRuns K hK n0 n1 n2 n3 n4 n5 n6 s1 s2 s3 s4 s5 s6 s7 s8 s9 s10 s11 s12 s13 (by omega) (by omega) (by omega) (by omega) (by omega) (by omega) (by omega) (by omega) (by omega) (by omega) (by omega) (by omega) (by omega)) ?_
                intro z104 hz104
                obtain ⟨t_15_0, t_15_1, t_15_2, t_15_3, t_15_4, t_15_5, t_15_6, t_15_7, t_15_8, t_15_9, t_15_10, t_15_11, t_15_12⟩ := z104
                have q105 : t_15_0.toInt = s1.toInt := hz104.1
                have q106 : t_15_1.toInt = s2.toInt := hz104.2.1
                have q107 : 0 ≤ t_15_9.toInt := hz104.2.2.1
                have q108 : t_15_9.toInt ≤ 512 := hz104.2.2.2
                have g109 := zz_rg t_15_0
                have g110 := zz_rg t_15_1
                have g111 := zz_rg t_15_2
                have g112 := zz_rg t_15_3
                have g113 := zz_rg t_15_9
                have g114 := zz_rg t_15_10
                show zz_ok ((m_X10_mostWords K n5 n6 t_15_9 t_15_10 t_15_11 t_15_12).bind fun ⟨r_16, t_16_0, t_16_1, t_16_2, t_16_3⟩ => some ("", r_16, s0, t_15_0, t_15_1, t_15_2, t_15_3, t_15_4, t_15_5, t_15_6, t_15_7, t_15_8, t_16_0, t_16_1, t_16_2, t_16_3, s14)) _
                refine zz_ok_bind (s_X10_mostWords K hK n5 n6 t_15_9 t_15_10 t_15_11 t_15_12 (by omega) (by omega) (by omega) (by omega)) ?_
                intro z115 hz115
                obtain ⟨r_16, t_16_0, t_16_1, t_16_2, t_16_3⟩ := z115
                have q116 : t_16_0.toInt = t_15_9.toInt := hz115
                have g117 := zz_rg r_16
                have g118 := zz_rg t_16_0
                have g119 := zz_rg t_16_1
                show zz_ok (some ("", r_16, s0, t_15_0, t_15_1, t_15_2, t_15_3, t_15_4, t_15_5, t_15_6, t_15_7, t_15_8, t_16_0, t_16_1, t_16_2, t_16_3, s14)) _
                refine zz_ok_some ?_
                show ("") ∈ ([""] : List String) ∧ s0.toInt = s0.toInt ∧ 0 ≤ t_15_0.toInt ∧ t_15_0.toInt ≤ 1024 ∧ 0 ≤ t_15_1.toInt ∧ t_15_1.toInt ≤ 200 ∧ 0 ≤ t_16_0.toInt ∧ t_16_0.toInt ≤ 512
                exact ⟨by decide, by omega, by omega, by omega, by omega, by omega, by omega, by omega⟩
              · have c102 := zz_neq c102
                refine zz_ok_bind (s_X7_looked K hK n0 n1 n2 n3 n4 n5 n6 s1 s2 s3 s4 s5 s6 s7 s8 s9 s10 s11 s12 s13 (by omega) (by omega) (by omega) (by omega) (by omega) (by omega) (by omega) (by omega) (by omega) (by omega) (by omega) (by omega) (by omega)) ?_
                intro z120 hz120
                obtain ⟨r_17, t_17_0, t_17_1, t_17_2, t_17_3, t_17_4, t_17_5, t_17_6, t_17_7, t_17_8, t_17_9, t_17_10, t_17_11, t_17_12⟩ := z120
                have q121 : t_17_0.toInt = s1.toInt := hz120.1
                have q122 : t_17_1.toInt = s2.toInt := hz120.2.1
                have q123 : 0 ≤ t_17_9.toInt := hz120.2.2.1
                have q124 : t_17_9.toInt ≤ 512 := hz120.2.2.2
                have g125 := zz_rg r_17
                have g126 := zz_rg t_17_0
                have g127 := zz_rg t_17_1
                have g128 := zz_rg t_17_2
                have g129 := zz_rg t_17_3
                have g130 := zz_rg t_17_9
                have g131 := zz_rg t_17_10
                show zz_ok (some ("", r_17, s0, t_17_0, t_17_1, t_17_2, t_17_3, t_17_4, t_17_5, t_17_6, t_17_7, t_17_8, t_17_9, t_17_10, t_17_11, t_17_12, s14)) _
                refine zz_ok_some ?_
                show ("") ∈ ([""] : List String) ∧ s0.toInt = s0.toInt ∧ 0 ≤ t_17_0.toInt ∧ t_17_0.toInt ≤ 1024 ∧ 0 ≤ t_17_1.toInt ∧ t_17_1.toInt ≤ 200 ∧ 0 ≤ t_17_9.toInt ∧ t_17_9.toInt ≤ 512
                exact ⟨by decide, by omega, by omega, by omega, by omega, by omega, by omega, by omega⟩
set_option maxHeartbeats 4000000 in
theorem s_X11_countInForm_X0 (K : Nat) (hK : 1099511627776 ≤ K) (n0 : Nat) (n1 : Nat) (n2 : Nat) (n3 : Nat) (n4 : Nat) (n5 : Nat) (n6 : Nat) (k0 : Int32) (p1 : Int32) (s0 : Int32) (s1 : Int32) (s2 : Int32) (s3 : Int32) (s4 : Int32) (s5 : Nat → Int32) (s6 : Nat → Int32) (s7 : Nat → Int32) (s8 : Nat → Int32) (s9 : Nat → Int32) (s10 : Int32) (s11 : Int32) (s12 : Nat → Int32) (s13 : Nat → Int32) (s14 : Int32) (a0 : n0 = 1024) (a1 : n1 = 200) (a2 : n2 = 200) (a3 : n3 = 200) (a4 : n4 = 200) (a5 : n5 = 512) (a6 : n6 = 512) (a7 : 0 ≤ s1.toInt) (a8 : s1.toInt ≤ 1024) (a9 : 0 ≤ s2.toInt) (a10 : s2.toInt ≤ 200) (a11 : 0 ≤ s10.toInt) (a12 : s10.toInt ≤ 512) : zz_ok (m_X11_countInForm_X0 K n0 n1 n2 n3 n4 n5 n6 k0 p1 s0 s1 s2 s3 s4 s5 s6 s7 s8 s9 s10 s11 s12 s13 s14) (fun z => z.1 ∈ ([""] : List String) ∧ z.2.2.1.toInt = s0.toInt ∧ 0 ≤ z.2.2.2.1.toInt ∧ z.2.2.2.1.toInt ≤ 1024 ∧ 0 ≤ z.2.2.2.2.1.toInt ∧ z.2.2.2.2.1.toInt ≤ 200 ∧ 0 ≤ z.2.2.2.2.2.2.2.2.2.2.2.2.1.toInt ∧ z.2.2.2.2.2.2.2.2.2.2.2.2.1.toInt ≤ 512) := by
  have g1 := zz_rg k0
  have g2 := zz_rg p1
  have g3 := zz_rg s0
  have g4 := zz_rg s1
  have g5 := zz_rg s2
  have g6 := zz_rg s3
  have g7 := zz_rg s4
  have g8 := zz_rg s10
  have g9 := zz_rg s11
  have g10 := zz_rg s14
  unfold m_X11_countInForm_X0
  have l12 : (9 : Int32).toInt = 9 := rfl
  refine zz_ok_ite (fun c11 => ?_) (fun c11 => ?_)
  · have c11 := congrArg Int32.toInt c11
    refine zz_ok_bind (s_X1_quickOnes K hK) ?_
    intro z13 hz13
    obtain ⟨r_2, _⟩ := z13
    have g14 := zz_rg r_2
    show zz_ok (some ("", r_2, s0, s1, s2, s3, s4, s5, s6, s7, s8, s9, s10, s11, s12, s13, s14)) _
    refine zz_ok_some ?_
    show ("") ∈ ([""] : List String) ∧ s0.toInt = s0.toInt ∧ 0 ≤ s1.toInt ∧ s1.toInt ≤ 1024 ∧ 0 ≤ s2.toInt ∧ s2.toInt ≤ 200 ∧ 0 ≤ s10.toInt ∧ s10.toInt ≤ 512
    exact ⟨by decide, by omega, by omega, by omega, by omega, by omega, by omega, by omega⟩
  · have c11 := zz_neq c11
    have l16 : (10 : Int32).toInt = 10 := rfl
    refine zz_ok_ite (fun c15 => ?_) (fun c15 => ?_)
    · have c15 := congrArg Int32.toInt c15
      refine zz_ok_bind (s_X1_freeParts K hK) ?_
      intro z17 hz17
      obtain ⟨r_4, _⟩ := z17
      have g18 := zz_rg r_4
      show zz_ok (some ("", r_4, s0, s1, s2, s3, s4, s5, s6, s7, s8, s9, s10, s11, s12, s13, s14)) _
      refine zz_ok_some ?_
      show ("") ∈ ([""] : List String) ∧ s0.toInt = s0.toInt ∧ 0 ≤ s1.toInt ∧ s1.toInt ≤ 1024 ∧ 0 ≤ s2.toInt ∧ s2.toInt ≤ 200 ∧ 0 ≤ s10.toInt ∧ s10.toInt ≤ 512
      exact ⟨by decide, by omega, by omega, by omega, by omega, by omega, by omega, by omega⟩
    · have c15 := zz_neq c15
      refine zz_ok_bind (s_X1_top K hK) ?_
      intro z19 hz19
      obtain ⟨r_5, _⟩ := z19
      have g20 := zz_rg r_5
      show zz_ok (some ("", r_5, s0, s1, s2, s3, s4, s5, s6, s7, s8, s9, s10, s11, s12, s13, s14)) _
      refine zz_ok_some ?_
      show ("") ∈ ([""] : List String) ∧ s0.toInt = s0.toInt ∧ 0 ≤ s1.toInt ∧ s1.toInt ≤ 1024 ∧ 0 ≤ s2.toInt ∧ s2.toInt ≤ 200 ∧ 0 ≤ s10.toInt ∧ s10.toInt ≤ 512
      exact ⟨by decide, by omega, by omega, by omega, by omega, by omega, by omega, by omega⟩
set_option maxHeartbeats 4000000 in
theorem s_X11_give_X0 (K : Nat) (hK : 1099511627776 ≤ K) (n0 : Nat) (n1 : Nat) (n2 : Nat) (n3 : Nat) (n4 : Nat) (n5 : Nat) (n6 : Nat) (k0 : Int32) (p1 : Int32) (s0 : Int32) (s1 : Int32) (s2 : Int32) (s3 : Int32) (s4 : Int32) (s5 : Nat → Int32) (s6 : Nat → Int32) (s7 : Nat → Int32) (s8 : Nat → Int32) (s9 : Nat → Int32) (s10 : Int32) (s11 : Int32) (s12 : Nat → Int32) (s13 : Nat → Int32) (s14 : Int32) (a0 : n0 = 1024) (a1 : n1 = 200) (a2 : n2 = 200) (a3 : n3 = 200) (a4 : n4 = 200) (a5 : n5 = 512) (a6 : n6 = 512) (a7 : 0 ≤ s1.toInt) (a8 : s1.toInt ≤ 1024) (a9 : 0 ≤ s2.toInt) (a10 : s2.toInt ≤ 200) (a11 : 0 ≤ s10.toInt) (a12 : s10.toInt ≤ 512) : zz_ok (m_X11_give_X0 K n0 n1 n2 n3 n4 n5 n6 k0 p1 s0 s1 s2 s3 s4 s5 s6 s7 s8 s9 s10 s11 s12 s13 s14) (fun z => z.1 ∈ (["", "java/lang/IllegalArgumentException", "java/lang/IllegalStateException", "java/lang/IndexOutOfBoundsException"] : List String) ∧ z.2.2.1.toInt = s0.toInt ∧ 0 ≤ z.2.2.2.1.toInt ∧ z.2.2.2.1.toInt ≤ 1024 ∧ 0 ≤ z.2.2.2.2.1.toInt ∧ z.2.2.2.2.1.toInt ≤ 200 ∧ 0 ≤ z.2.2.2.2.2.2.2.2.2.2.2.2.1.toInt ∧ z.2.2.2.2.2.2.2.2.2.2.2.2.1.toInt ≤ 512) := by
  have g1 := zz_rg k0
  have g2 := zz_rg p1
  have g3 := zz_rg s0
  have g4 := zz_rg s1
  have g5 := zz_rg s2
  have g6 := zz_rg s3
  have g7 := zz_rg s4
  have g8 := zz_rg s10
  have g9 := zz_rg s11
  have g10 := zz_rg s14
  unfold m_X11_give_X0
  have l12 : (1 : Int32).toInt = 1 := rfl
  refine zz_ok_ite (fun c11 => ?_) (fun c11 => ?_)
  · have c11 := Int32.lt_iff_toInt_lt.mp c11
    have l13 : (0 : Int32).toInt = 0 := rfl
    refine zz_ok_some ?_
    show ("java/lang/IllegalArgumentException") ∈ (["", "java/lang/IllegalArgumentException", "java/lang/IllegalStateException", "java/lang/IndexOutOfBoundsException"] : List String) ∧ s0.toInt = s0.toInt ∧ 0 ≤ s1.toInt ∧ s1.toInt ≤ 1024 ∧ 0 ≤ s2.toInt ∧ s2.toInt ≤ 200 ∧ 0 ≤ s10.toInt ∧ s10.toInt ≤ 512
    exact ⟨by decide, by omega, by omega, by omega, by omega, by omega, by omega, by omega⟩
  · have c11 := zz_nlt c11
    have l15 : (1024 : Int32).toInt = 1024 := rfl
    refine zz_ok_ite (fun c14 => ?_) (fun c14 => ?_)
    · have c14 := Int32.le_iff_toInt_le.mp c14
      refine zz_ok_bind (s_X11_needRoom_X0 K hK n0 n1 n2 n3 n4 n5 n6 k0 s0 s1 s2 s3 s4 s5 s6 s7 s8 s9 s10 s11 s12 s13 s14 (by omega) (by omega) (by omega) (by omega) (by omega) (by omega) (by omega) (by omega) (by omega) (by omega) (by omega) (by omega) (by omega)) ?_
      intro z16 hz16
      obtain ⟨e_3, t_3_0, t_3_1, t_3_2, t_3_3, t_3_4, t_3_5, t_3_6, t_3_7, t_3_8, t_3_9, t_3_10, t_3_11, t_3_12, t_3_13, t_3_14⟩ := z16
      have q17 : e_3 ∈ (["", "java/lang/IllegalStateException"] : List String) := hz16.1
      have q18 : t_3_0.toInt = s0.toInt := hz16.2.1
      have q19 : 0 ≤ t_3_1.toInt := hz16.2.2.1
      have q20 : t_3_1.toInt ≤ 1024 := hz16.2.2.2.1
      have q21 : 0 ≤ t_3_2.toInt := hz16.2.2.2.2.1
      have q22 : t_3_2.toInt ≤ 200 := hz16.2.2.2.2.2.1
      have q23 : 0 ≤ t_3_10.toInt := hz16.2.2.2.2.2.2.1
      have q24 : t_3_10.toInt ≤ 512 := hz16.2.2.2.2.2.2.2
      have g25 := zz_rg t_3_0
      have g26 := zz_rg t_3_1
      have g27 := zz_rg t_3_2
      have g28 := zz_rg t_3_3
      have g29 := zz_rg t_3_4
      have g30 := zz_rg t_3_10
      have g31 := zz_rg t_3_11
      have g32 := zz_rg t_3_14
      show zz_ok (if e_3 = "" then ((m_X7_blocks K n0 n1 n2 n3 n4 n5 n6 t_3_1 t_3_2 t_3_3 t_3_4 t_3_5 t_3_6 t_3_7 t_3_8 t_3_9 t_3_10 t_3_11 t_3_12 t_3_13).bind fun ⟨r_4, t_4_0, t_4_1, t_4_2, t_4_3, t_4_4, t_4_5, t_4_6, t_4_7, t_4_8, t_4_9, t_4_10, t_4_11, t_4_12⟩ => if r_4 < ((200 : Int32)) then ((m_X1_spanOf K p1).bind fun ⟨r_6, _⟩ => (m_X0_take K n0 n1 n2 n3 n4 n5 n6 k0 r_6 t_3_14 t_4_0 t_4_1 t_4_2 t_4_3 t_4_4 t_4_5 t_4_6 t_4_7 t_4_8 t_4_9 t_4_10 t_4_11 t_4_12).bind fun ⟨r_7, t_7_0, t_7_1, t_7_2, t_7_3, t_7_4, t_7_5, t_7_6, t_7_7, t_7_8, t_7_9, t_7_10, t_7_11, t_7_12, t_7_13⟩ => if r_7 = ((-1 : Int32)) then (some ("", (-1 : Int32), t_3_0, t_7_1, t_7_2, t_7_3, t_7_4, t_7_5, t_7_6, t_7_7, t_7_8, t_7_9, t_7_10, t_7_11, t_7_12, t_7_13, t_7_0)) else ((m_X7_settle K n0 n1 n2 n3 n4 n5 n6 r_7 r_6 p1 t_7_1 t_7_2 t_7_3 t_7_4 t_7_5 t_7_6 t_7_7 t_7_8 t_7_9 t_7_10 t_7_11 t_7_12 t_7_13).bind fun ⟨r_9, t_9_0, t_9_1, t_9_2, t_9_3, t_9_4, t_9_5, t_9_6, t_9_7, t_9_8, t_9_9, t_9_10, t_9_11, t_9_12⟩ => some ("", r_9, t_3_0, t_9_0, t_9_1, t_9_2, t_9_3, t_9_4, t_9_5, t_9_6, t_9_7, t_9_8, t_9_9, t_9_10, t_9_11, t_9_12, t_7_0))) else (some ("java/lang/IndexOutOfBoundsException", 0, t_3_0, t_4_0, t_4_1, t_4_2, t_4_3, t_4_4, t_4_5, t_4_6, t_4_7, t_4_8, t_4_9, t_4_10, t_4_11, t_4_12, t_3_14))) else (some (e_3, 0, t_3_0, t_3_1, t_3_2, t_3_3, t_3_4, t_3_5, t_3_6, t_3_7, t_3_8, t_3_9, t_3_10, t_3_11, t_3_12, t_3_13, t_3_14))) _
      refine zz_ok_ite (fun c33 => ?_) (fun c33 => ?_)
      · skip
        refine zz_ok_bind (s_X7_blocks K hK n0 n1 n2 n3 n4 n5 n6 t_3_1 t_3_2 t_3_3 t_3_4 t_3_5 t_3_6 t_3_7 t_3_8 t_3_9 t_3_10 t_3_11 t_3_12 t_3_13 (by omega) (by omega) (by omega) (by omega) (by omega) (by omega) (by omega) (by omega) (by omega) (by omega) (by omega) (by omega) (by omega)) ?_
        intro z34 hz34
        obtain ⟨r_4, t_4_0, t_4_1, t_4_2, t_4_3, t_4_4, t_4_5, t_4_6, t_4_7, t_4_8, t_4_9, t_4_10, t_4_11, t_4_12⟩ := z34
        have q35 : r_4.toInt = t_3_2.toInt := hz34.1
        have q36 : t_4_0.toInt = t_3_1.toInt := hz34.2.1
        have q37 : t_4_1.toInt = t_3_2.toInt := hz34.2.2.1
        have q38 : 0 ≤ t_4_9.toInt := hz34.2.2.2.1
        have q39 : t_4_9.toInt ≤ 512 := hz34.2.2.2.2
        have g40 := zz_rg r_4
        have g41 := zz_rg t_4_0
        have g42 := zz_rg t_4_1
        have g43 := zz_rg t_4_2
        have g44 := zz_rg t_4_3
        have g45 := zz_rg t_4_9
        have g46 := zz_rg t_4_10
        show zz_ok (if r_4 < ((200 : Int32)) then ((m_X1_spanOf K p1).bind fun ⟨r_6, _⟩ => (m_X0_take K n0 n1 n2 n3 n4 n5 n6 k0 r_6 t_3_14 t_4_0 t_4_1 t_4_2 t_4_3 t_4_4 t_4_5 t_4_6 t_4_7 t_4_8 t_4_9 t_4_10 t_4_11 t_4_12).bind fun ⟨r_7, t_7_0, t_7_1, t_7_2, t_7_3, t_7_4, t_7_5, t_7_6, t_7_7, t_7_8, t_7_9, t_7_10, t_7_11, t_7_12, t_7_13⟩ => if r_7 = ((-1 : Int32)) then (some ("", (-1 : Int32), t_3_0, t_7_1, t_7_2, t_7_3, t_7_4, t_7_5, t_7_6, t_7_7, t_7_8, t_7_9, t_7_10, t_7_11, t_7_12, t_7_13, t_7_0)) else ((m_X7_settle K n0 n1 n2 n3 n4 n5 n6 r_7 r_6 p1 t_7_1 t_7_2 t_7_3 t_7_4 t_7_5 t_7_6 t_7_7 t_7_8 t_7_9 t_7_10 t_7_11 t_7_12 t_7_13).bind fun ⟨r_9, t_9_0, t_9_1, t_9_2, t_9_3, t_9_4, t_9_5, t_9_6, t_9_7, t_9_8, t_9_9, t_9_10, t_9_11, t_9_12⟩ => some ("", r_9, t_3_0, t_9_0, t_9_1, t_9_2, t_9_3, t_9_4, t_9_5, t_9_6, t_9_7, t_9_8, t_9_9, t_9_10, t_9_11, t_9_12, t_7_0))) else (some ("java/lang/IndexOutOfBoundsException", 0, t_3_0, t_4_0, t_4_1, t_4_2, t_4_3, t_4_4, t_4_5, t_4_6, t_4_7, t_4_8, t_4_9, t_4_10, t_4_11, t_4_12, t_3_14))) _
        have l48 : (200 : Int32).toInt = 200 := rfl
        refine zz_ok_ite (fun c47 => ?_) (fun c47 => ?_)
        · have c47 := Int32.lt_iff_toInt_lt.mp c47
          refine zz_ok_bind (s_X1_spanOf K hK p1) ?_
          intro z49 hz49
          obtain ⟨r_6, _⟩ := z49
          have q50 : r_6.toInt = p1.toInt := hz49
          have g51 := zz_rg r_6
          show zz_ok ((m_X0_take K n0 n1 n2 n3 n4 n5 n6 k0 r_6 t_3_14 t_4_0 t_4_1 t_4_2 t_4_3 t_4_4 t_4_5 t_4_6 t_4_7 t_4_8 t_4_9 t_4_10 t_4_11 t_4_12).bind fun ⟨r_7, t_7_0, t_7_1, t_7_2, t_7_3, t_7_4, t_7_5, t_7_6, t_7_7, t_7_8, t_7_9, t_7_10, t_7_11, t_7_12, t_7_13⟩ => if r_7 = ((-1 : Int32)) then (some ("", (-1 : Int32), t_3_0, t_7_1, t_7_2, t_7_3, t_7_4, t_7_5, t_7_6, t_7_7, t_7_8, t_7_9, t_7_10, t_7_11, t_7_12, t_7_13, t_7_0)) else ((m_X7_settle K n0 n1 n2 n3 n4 n5 n6 r_7 r_6 p1 t_7_1 t_7_2 t_7_3 t_7_4 t_7_5 t_7_6 t_7_7 t_7_8 t_7_9 t_7_10 t_7_11 t_7_12 t_7_13).bind fun ⟨r_9, t_9_0, t_9_1, t_9_2, t_9_3, t_9_4, t_9_5, t_9_6, t_9_7, t_9_8, t_9_9, t_9_10, t_9_11, t_9_12⟩ => some ("", r_9, t_3_0, t_9_0, t_9_1, t_9_2, t_9_3, t_9_4, t_9_5, t_9_6, t_9_7, t_9_8, t_9_9, t_9_10, t_9_11, t_9_12, t_7_0))) _
          refine zz_ok_bind (s_X0_take K hK n0 n1 n2 n3 n4 n5 n6 k0 r_6 t_3_14 t_4_0 t_4_1 t_4_2 t_4_3 t_4_4 t_4_5 t_4_6 t_4_7 t_4_8 t_4_9 t_4_10 t_4_11 t_4_12 (by omega) (by omega) (by omega) (by omega) (by omega) (by omega) (by omega) (by omega) (by omega) (by omega) (by omega) (by omega) (by omega)) ?_
          intro z52 hz52
          obtain ⟨r_7, t_7_0, t_7_1, t_7_2, t_7_3, t_7_4, t_7_5, t_7_6, t_7_7, t_7_8, t_7_9, t_7_10, t_7_11, t_7_12, t_7_13⟩ := z52
          have q53 : t_7_1.toInt = t_4_0.toInt := hz52.1
          have q54 : t_7_2.toInt = t_4_1.toInt := hz52.2.1
          have q55 : 0 ≤ t_7_10.toInt := hz52.2.2.1
          have q56 : t_7_10.toInt ≤ 512 := hz52.2.2.2
          have g57 := zz_rg r_7
          have g58 := zz_rg t_7_0
          have g59 := zz_rg t_7_1
          have g60 := zz_rg t_7_2
          have g61 := zz_rg t_7_3
          have g62 := zz_rg t_7_4
          have g63 := zz_rg t_7_10
          have g64 := zz_rg t_7_11
          show zz_ok (if r_7 = ((-1 : Int32)) then (some ("", (-1 : Int32), t_3_0, t_7_1, t_7_2, t_7_3, t_7_4, t_7_5, t_7_6, t_7_7, t_7_8, t_7_9, t_7_10, t_7_11, t_7_12, t_7_13, t_7_0)) else ((m_X7_settle K n0 n1 n2 n3 n4 n5 n6 r_7 r_6 p1 t_7_1 t_7_2 t_7_3 t_7_4 t_7_5 t_7_6 t_7_7 t_7_8 t_7_9 t_7_10 t_7_11 t_7_12 t_7_13).bind fun ⟨r_9, t_9_0, t_9_1, t_9_2, t_9_3, t_9_4, t_9_5, t_9_6, t_9_7, t_9_8, t_9_9, t_9_10, t_9_11, t_9_12⟩ => some ("", r_9, t_3_0, t_9_0, t_9_1, t_9_2, t_9_3, t_9_4, t_9_5, t_9_6, t_9_7, t_9_8, t_9_9, t_9_10, t_9_11, t_9_12, t_7_0))) _
          have l66 : (-1 : Int32).toInt = -1 := rfl
          refine zz_ok_ite (fun c65 => ?_) (fun c65 => ?_)
          · have c65 := congrArg Int32.toInt c65
            refine zz_ok_some ?_
            show ("") ∈ (["", "java/lang/IllegalArgumentException", "java/lang/IllegalStateException", "java/lang/IndexOutOfBoundsException"] : List String) ∧ t_3_0.toInt = s0.toInt ∧ 0 ≤ t_7_1.toInt ∧ t_7_1.toInt ≤ 1024 ∧ 0 ≤ t_7_2.toInt ∧ t_7_2.toInt ≤ 200 ∧ 0 ≤ t_7_10.toInt ∧ t_7_10.toInt ≤ 512
            exact ⟨by decide, by omega, by omega, by omega, by omega, by omega, by omega, by omega⟩
          · have c65 := zz_neq c65
            refine zz_ok_bind (s_X7_settle K hK n0 n1 n2 n3 n4 n5 n6 r_7 r_6 p1 t_7_1 t_7_2 t_7_3 t_7_4 t_7_5 t_7_6 t_7_7 t_7_8 t_7_9 t_7_10 t_7_11 t_7_12 t_7_13 (by omega) (by omega) (by omega) (by omega) (by omega) (by omega) (by omega) (by omega) (by omega) (by omega) (by omega) (by omega) (by omega)) ?_
            intro z67 hz67
            obtain ⟨r_9, t_9_0, t_9_1, t_9_2, t_9_3, t_9_4, t_9_5, t_9_6, t_9_7, t_9_8, t_9_9, t_9_10, t_9_11, t_9_12⟩ := z67
            have q68 : t_9_0.toInt = t_7_1.toInt := hz67.1
            have q69 : 0 ≤ t_9_1.toInt := hz67.2.1
            have q70 : t_9_1.toInt ≤ 200 := hz67.2.2.1
            have q71 : 0 ≤ t_9_9.toInt := hz67.2.2.2.1
            have q72 : t_9_9.toInt ≤ 512 := hz67.2.2.2.2
            have g73 := zz_rg r_9
            have g74 := zz_rg t_9_0
            have g75 := zz_rg t_9_1
            have g76 := zz_rg t_9_2
            have g77 := zz_rg t_9_3
            have g78 := zz_rg t_9_9
            have g79 := zz_rg t_9_10
            show zz_ok (some ("", r_9, t_3_0, t_9_0, t_9_1, t_9_2, t_9_3, t_9_4, t_9_5, t_9_6, t_9_7, t_9_8, t_9_9, t_9_10, t_9_11, t_9_12, t_7_0)) _
            refine zz_ok_some ?_
            show ("") ∈ (["", "java/lang/IllegalArgumentException", "java/lang/IllegalStateException", "java/lang/IndexOutOfBoundsException"] : List String) ∧ t_3_0.toInt = s0.toInt ∧ 0 ≤ t_9_0.toInt ∧ t_9_0.toInt ≤ 1024 ∧ 0 ≤ t_9_1.toInt ∧ t_9_1.toInt ≤ 200 ∧ 0 ≤ t_9_9.toInt ∧ t_9_9.toInt ≤ 512
            exact ⟨by decide, by omega, by omega, by omega, by omega, by omega, by omega, by omega⟩
        · have c47 := zz_nlt c47
          have l80 : (0 : Int32).toInt = 0 := rfl
          refine zz_ok_some ?_
          show ("java/lang/IndexOutOfBoundsException") ∈ (["", "java/lang/IllegalArgumentException", "java/lang/IllegalStateException", "java/lang/IndexOutOfBoundsException"] : List String) ∧ t_3_0.toInt = s0.toInt ∧ 0 ≤ t_4_0.toInt ∧ t_4_0.toInt ≤ 1024 ∧ 0 ≤ t_4_1.toInt ∧ t_4_1.toInt ≤ 200 ∧ 0 ≤ t_4_9.toInt ∧ t_4_9.toInt ≤ 512
          exact ⟨by decide, by omega, by omega, by omega, by omega, by omega, by omega, by omega⟩
      · skip
        have l81 : (0 : Int32).toInt = 0 := rfl
        refine zz_ok_some ?_
        show e_3 ∈ (["", "java/lang/IllegalArgumentException", "java/lang/IllegalStateException", "java/lang/IndexOutOfBoundsException"] : List String) ∧ t_3_0.toInt = s0.toInt ∧ 0 ≤ t_3_1.toInt ∧ t_3_1.toInt ≤ 1024 ∧ 0 ≤ t_3_2.toInt ∧ t_3_2.toInt ≤ 200 ∧ 0 ≤ t_3_10.toInt ∧ t_3_10.toInt ≤ 512
        exact ⟨zz_mem q17 (by decide), by omega, by omega, by omega, by omega, by omega, by omega, by omega⟩
    · have c14 := zz_nle c14
      have l82 : (0 : Int32).toInt = 0 := rfl
      refine zz_ok_some ?_
      show ("java/lang/IllegalArgumentException") ∈ (["", "java/lang/IllegalArgumentException", "java/lang/IllegalStateException", "java/lang/IndexOutOfBoundsException"] : List String) ∧ s0.toInt = s0.toInt ∧ 0 ≤ s1.toInt ∧ s1.toInt ≤ 1024 ∧ 0 ≤ s2.toInt ∧ s2.toInt ≤ 200 ∧ 0 ≤ s10.toInt ∧ s10.toInt ≤ 512
      exact ⟨by decide, by omega, by omega, by omega, by omega, by omega, by omega, by omega⟩
set_option maxHeartbeats 4000000 in
theorem s_X11_back_X0 (K : Nat) (hK : 1099511627776 ≤ K) (n0 : Nat) (n1 : Nat) (n2 : Nat) (n3 : Nat) (n4 : Nat) (n5 : Nat) (n6 : Nat) (k0 : Int32) (p1 : Int32) (s0 : Int32) (s1 : Int32) (s2 : Int32) (s3 : Int32) (s4 : Int32) (s5 : Nat → Int32) (s6 : Nat → Int32) (s7 : Nat → Int32) (s8 : Nat → Int32) (s9 : Nat → Int32) (s10 : Int32) (s11 : Int32) (s12 : Nat → Int32) (s13 : Nat → Int32) (s14 : Int32) (a0 : n0 = 1024) (a1 : n1 = 200) (a2 : n2 = 200) (a3 : n3 = 200) (a4 : n4 = 200) (a5 : n5 = 512) (a6 : n6 = 512) (a7 : 0 ≤ s1.toInt) (a8 : s1.toInt ≤ 1024) (a9 : 0 ≤ s2.toInt) (a10 : s2.toInt ≤ 200) (a11 : 0 ≤ s10.toInt) (a12 : s10.toInt ≤ 512) : zz_ok (m_X11_back_X0 K n0 n1 n2 n3 n4 n5 n6 k0 p1 s0 s1 s2 s3 s4 s5 s6 s7 s8 s9 s10 s11 s12 s13 s14) (fun z => z.1 ∈ (["", "java/lang/IllegalStateException", "java/util/NoSuchElementException"] : List String) ∧ z.2.2.1.toInt = s0.toInt ∧ 0 ≤ z.2.2.2.1.toInt ∧ z.2.2.2.1.toInt ≤ 1024 ∧ 0 ≤ z.2.2.2.2.1.toInt ∧ z.2.2.2.2.1.toInt ≤ 200 ∧ 0 ≤ z.2.2.2.2.2.2.2.2.2.2.2.2.1.toInt ∧ z.2.2.2.2.2.2.2.2.2.2.2.2.1.toInt ≤ 512) := by
  have g1 := zz_rg k0
  have g2 := zz_rg p1
  have g3 := zz_rg s0
  have g4 := zz_rg s1
  have g5 := zz_rg s2
  have g6 := zz_rg s3
  have g7 := zz_rg s4
  have g8 := zz_rg s10
  have g9 := zz_rg s11
  have g10 := zz_rg s14
  unfold m_X11_back_X0
  refine zz_ok_bind (s_X11_needRoom_X0 K hK n0 n1 n2 n3 n4 n5 n6 k0 s0 s1 s2 s3 s4 s5 s6 s7 s8 s9 s10 s11 s12 s13 s14 (by omega) (by omega) (by omega) (by omega) (by omega) (by omega) (by omega) (by omega) (by omega) (by omega) (by omega) (by omega) (by omega)) ?_
  intro z11 hz11
  obtain ⟨e_1, t_1_0, t_1_1, t_1_2, t_1_3, t_1_4, t_1_5, t_1_6, t_1_7, t_1_8, t_1_9, t_1_10, t_1_11, t_1_12, t_1_13, t_1_14⟩ := z11
  have q12 : e_1 ∈ (["", "java/lang/IllegalStateException"] : List String) := hz11.1
  have q13 : t_1_0.toInt = s0.toInt := hz11.2.1
  have q14 : 0 ≤ t_1_1.toInt := hz11.2.2.1
  have q15 : t_1_1.toInt ≤ 1024 := hz11.2.2.2.1
  have q16 : 0 ≤ t_1_2.toInt := hz11.2.2.2.2.1
  have q17 : t_1_2.toInt ≤ 200 := hz11.2.2.2.2.2.1
  have q18 : 0 ≤ t_1_10.toInt := hz11.2.2.2.2.2.2.1
  have q19 : t_1_10.toInt ≤ 512 := hz11.2.2.2.2.2.2.2
  have g20 := zz_rg t_1_0
  have g21 := zz_rg t_1_1
  have g22 := zz_rg t_1_2
  have g23 := zz_rg t_1_3
  have g24 := zz_rg t_1_4
  have g25 := zz_rg t_1_10
  have g26 := zz_rg t_1_11
  have g27 := zz_rg t_1_14
  show zz_ok (if e_1 = "" then ((m_X11_needBlock_X0 K n0 n1 n2 n3 n4 n5 n6 k0 p1 t_1_0 t_1_1 t_1_2 t_1_3 t_1_4 t_1_5 t_1_6 t_1_7 t_1_8 t_1_9 t_1_10 t_1_11 t_1_12 t_1_13 t_1_14).bind fun ⟨e_2, r_2, t_2_0, t_2_1, t_2_2, t_2_3, t_2_4, t_2_5, t_2_6, t_2_7, t_2_8, t_2_9, t_2_10, t_2_11, t_2_12, t_2_13, t_2_14⟩ => if e_2 = "" then ((m_X7_placeOf K n0 n1 n2 n3 n4 n5 n6 r_2 t_2_1 t_2_2 t_2_3 t_2_4 t_2_5 t_2_6 t_2_7 t_2_8 t_2_9 t_2_10 t_2_11 t_2_12 t_2_13).bind fun ⟨r_3, t_3_0, t_3_1, t_3_2, t_3_3, t_3_4, t_3_5, t_3_6, t_3_7, t_3_8, t_3_9, t_3_10, t_3_11, t_3_12⟩ => (m_X7_spanOf K n0 n1 n2 n3 n4 n5 n6 r_2 t_3_0 t_3_1 t_3_2 t_3_3 t_3_4 t_3_5 t_3_6 t_3_7 t_3_8 t_3_9 t_3_10 t_3_11 t_3_12).bind fun ⟨r_4, t_4_0, t_4_1, t_4_2, t_4_3, t_4_4, t_4_5, t_4_6, t_4_7, t_4_8, t_4_9, t_4_10, t_4_11, t_4_12⟩ => (m_X7_remove K n0 n1 n2 n3 n4 n5 n6 r_2 t_4_0 t_4_1 t_4_2 t_4_3 t_4_4 t_4_5 t_4_6 t_4_7 t_4_8 t_4_9 t_4_10 t_4_11 t_4_12).bind fun ⟨t_5_0, t_5_1, t_5_2, t_5_3, t_5_4, t_5_5, t_5_6, t_5_7, t_5_8, t_5_9, t_5_10, t_5_11, t_5_12⟩ => (m_X0_takeBack K n0 n1 n2 n3 n4 n5 n6 k0 r_3 r_4 t_2_14 t_5_0 t_5_1 t_5_2 t_5_3 t_5_4 t_5_5 t_5_6 t_5_7 t_5_8 t_5_9 t_5_10 t_5_11 t_5_12).bind fun ⟨t_6_0, t_6_1, t_6_2, t_6_3, t_6_4, t_6_5, t_6_6, t_6_7, t_6_8, t_6_9, t_6_10, t_6_11, t_6_12, t_6_13⟩ => some ("", r_3, t_2_0, t_6_1, t_6_2, t_6_3, t_6_4, t_6_5, t_6_6, t_6_7, t_6_8, t_6_9, t_6_10, t_6_11, t_6_12, t_6_13, t_6_0)) else (some (e_2, 0, t_2_0, t_2_1, t_2_2, t_2_3, t_2_4, t_2_5, t_2_6, t_2_7, t_2_8, t_2_9, t_2_10, t_2_11, t_2_12, t_2_13, t_2_14))) else (some (e_1, 0, t_1_0, t_1_1, t_1_2, t_1_3, t_1_4, t_1_5, t_1_6, t_1_7, t_1_8, t_1_9, t_1_10, t_1_11, t_1_12, t_1_13, t_1_14))) _
  refine zz_ok_ite (fun c28 => ?_) (fun c28 => ?_)
  · skip
    refine zz_ok_bind (s_X11_needBlock_X0 K hK n0 n1 n2 n3 n4 n5 n6 k0 p1 t_1_0 t_1_1 t_1_2 t_1_3 t_1_4 t_1_5 t_1_6 t_1_7 t_1_8 t_1_9 t_1_10 t_1_11 t_1_12 t_1_13 t_1_14 (by omega) (by omega) (by omega) (by omega) (by omega) (by omega) (by omega) (by omega) (by omega) (by omega) (by omega) (by omega) (by omega)) ?_
    intro z29 hz29
    obtain ⟨e_2, r_2, t_2_0, t_2_1, t_2_2, t_2_3, t_2_4, t_2_5, t_2_6, t_2_7, t_2_8, t_2_9, t_2_10, t_2_11, t_2_12, t_2_13, t_2_14⟩ := z29
    have q30 : e_2 ∈ (["", "java/util/NoSuchElementException"] : List String) := hz29.1
    have q31 : t_2_0.toInt = t_1_0.toInt := hz29.2.1
    have q32 : 0 ≤ t_2_1.toInt := hz29.2.2.1
    have q33 : t_2_1.toInt ≤ 1024 := hz29.2.2.2.1
    have q34 : 0 ≤ t_2_2.toInt := hz29.2.2.2.2.1
    have q35 : t_2_2.toInt ≤ 200 := hz29.2.2.2.2.2.1
    have q36 : 0 ≤ t_2_10.toInt := hz29.2.2.2.2.2.2.1
    have q37 : t_2_10.toInt ≤ 512 := hz29.2.2.2.2.2.2.2
    have g38 := zz_rg r_2
    have g39 := zz_rg t_2_0
    have g40 := zz_rg t_2_1
    have g41 := zz_rg t_2_2
    have g42 := zz_rg t_2_3
    have g43 := zz_rg t_2_4
    have g44 := zz_rg t_2_10
    have g45 := zz_rg t_2_11
    have g46 := zz_rg t_2_14
    show zz_ok (if e_2 = "" then ((m_X7_placeOf K n0 n1 n2 n3 n4 n5 n6 r_2 t_2_1 t_2_2 t_2_3 t_2_4 t_2_5 t_2_6 t_2_7 t_2_8 t_2_9 t_2_10 t_2_11 t_2_12 t_2_13).bind fun ⟨r_3, t_3_0, t_3_1, t_3_2, t_3_3, t_3_4, t_3_5, t_3_6, t_3_7, t_3_8, t_3_9, t_3_10, t_3_11, t_3_12⟩ => (m_X7_spanOf K n0 n1 n2 n3 n4 n5 n6 r_2 t_3_0 t_3_1 t_3_2 t_3_3 t_3_4 t_3_5 t_3_6 t_3_7 t_3_8 t_3_9 t_3_10 t_3_11 t_3_12).bind fun ⟨r_4, t_4_0, t_4_1, t_4_2, t_4_3, t_4_4, t_4_5, t_4_6, t_4_7, t_4_8, t_4_9, t_4_10, t_4_11, t_4_12⟩ => (m_X7_remove K n0 n1 n2 n3 n4 n5 n6 r_2 t_4_0 t_4_1 t_4_2 t_4_3 t_4_4 t_4_5 t_4_6 t_4_7 t_4_8 t_4_9 t_4_10 t_4_11 t_4_12).bind fun ⟨t_5_0, t_5_1, t_5_2, t_5_3, t_5_4, t_5_5, t_5_6, t_5_7, t_5_8, t_5_9, t_5_10, t_5_11, t_5_12⟩ => (m_X0_takeBack K n0 n1 n2 n3 n4 n5 n6 k0 r_3 r_4 t_2_14 t_5_0 t_5_1 t_5_2 t_5_3 t_5_4 t_5_5 t_5_6 t_5_7 t_5_8 t_5_9 t_5_10 t_5_11 t_5_12).bind fun ⟨t_6_0, t_6_1, t_6_2, t_6_3, t_6_4, t_6_5, t_6_6, t_6_7, t_6_8, t_6_9, t_6_10, t_6_11, t_6_12, t_6_13⟩ => some ("", r_3, t_2_0, t_6_1, t_6_2, t_6_3, t_6_4, t_6_5, t_6_6, t_6_7, t_6_8, t_6_9, t_6_10, t_6_11, t_6_12, t_6_13, t_6_0)) else (some (e_2, 0, t_2_0, t_2_1, t_2_2, t_2_3, t_2_4, t_2_5, t_2_6, t_2_7, t_2_8, t_2_9, t_2_10, t_2_11, t_2_12, t_2_13, t_2_14))) _
    refine zz_ok_ite (fun c47 => ?_) (fun c47 => ?_)
    · skip
      refine zz_ok_bind (s_X7_placeOf K hK n0 n1 n2 n3 n4 n5 n6 r_2 t_2_1 t_2_2 t_2_3 t_2_4 t_2_5 t_2_6 t_2_7 t_2_8 t_2_9 t_2_10 t_2_11 t_2_12 t_2_13 (by omega) (by omega) (by omega) (by omega) (by omega) (by omega) (by omega) (by omega) (by omega) (by omega) (by omega) (by omega) (by omega)) ?_
      intro z48 hz48
      obtain ⟨r_3, t_3_0, t_3_1, t_3_2, t_3_3, t_3_4, t_3_5, t_3_6, t_3_7, t_3_8, t_3_9, t_3_10, t_3_11, t_3_12⟩ := z48
      have q49 : t_3_0.toInt = t_2_1.toInt := hz48.1
      have q50 : t_3_1.toInt = t_2_2.toInt := hz48.2.1
      have q51 : 0 ≤ t_3_9.toInt := hz48.2.2.1
      have q52 : t_3_9.toInt ≤ 512 := hz48.2.2.2
      have g53 := zz_rg r_3
      have g54 := zz_rg t_3_0
      have g55 := zz_rg t_3_1
      have g56 := zz_rg t_3_2
      have g57 := zz_rg t_3_3
      have g58 := zz_rg t_3_9
      have g59 := zz_rg t_3_10
      show zz_ok ((m_X7_spanOf K n0 n1 n2 n3 n4 n5 n6 r_2 t_3_0 t_3_1 t_3_2 t_3_3 t_3_4 t_3_5 t_3_6 t_3_7 t_3_8 t_3_9 t_3_10 t_3_11 t_3_12).bind fun ⟨r_4, t_4_0, t_4_1, t_4_2, t_4_3, t_4_4, t_4_5, t_4_6, t_4_7, t_4_8, t_4_9, t_4_10, t_4_11, t_4_12⟩ => (m_X7_remove K n0 n1 n2 n3 n4 n5 n6 r_2 t_4_0 t_4_1 t_4_2 t_4_3 t_4_4 t_4_5 t_4_6 t_4_7 t_4_8 t_4_9 t_4_10 t_4_11 t_4_12).bind fun ⟨t_5_0, t_5_1, t_5_2, t_5_3, t_5_4, t_5_5, t_5_6, t_5_7, t_5_8, t_5_9, t_5_10, t_5_11, t_5_12⟩ => (m_X0_takeBack K n0 n1 n2 n3 n4 n5 n6 k0 r_3 r_4 t_2_14 t_5_0 t_5_1 t_5_2 t_5_3 t_5_4 t_5_5 t_5_6 t_5_7 t_5_8 t_5_9 t_5_10 t_5_11 t_5_12).bind fun ⟨t_6_0, t_6_1, t_6_2, t_6_3, t_6_4, t_6_5, t_6_6, t_6_7, t_6_8, t_6_9, t_6_10, t_6_11, t_6_12, t_6_13⟩ => some ("", r_3, t_2_0, t_6_1, t_6_2, t_6_3, t_6_4, t_6_5, t_6_6, t_6_7, t_6_8, t_6_9, t_6_10, t_6_11, t_6_12, t_6_13, t_6_0)) _
      refine zz_ok_bind (s_X7_spanOf K hK n0 n1 n2 n3 n4 n5 n6 r_2 t_3_0 t_3_1 t_3_2 t_3_3 t_3_4 t_3_5 t_3_6 t_3_7 t_3_8 t_3_9 t_3_10 t_3_11 t_3_12 (by omega) (by omega) (by omega) (by omega) (by omega) (by omega) (by omega) (by omega) (by omega) (by omega) (by omega) (by omega) (by omega)) ?_
      intro z60 hz60
      obtain ⟨r_4, t_4_0, t_4_1, t_4_2, t_4_3, t_4_4, t_4_5, t_4_6, t_4_7, t_4_8, t_4_9, t_4_10, t_4_11, t_4_12⟩ := z60
      have q61 : t_4_0.toInt = t_3_0.toInt := hz60.1
      have q62 : t_4_1.toInt = t_3_1.toInt := hz60.2.1
      have q63 : 0 ≤ t_4_9.toInt := hz60.2.2.1
      have q64 : t_4_9.toInt ≤ 512 := hz60.2.2.2
      have g65 := zz_rg r_4
      have g66 := zz_rg t_4_0
      have g67 := zz_rg t_4_1
      have g68 := zz_rg t_4_2
      have g69 := zz_rg t_4_3
      have g70 := zz_rg t_4_9
      have g71 := zz_rg t_4_10
      show zz_ok ((m_X7_remove K n0 n1 n2 n3 n4 n5 n6 r_2 t_4_0 t_4_1 t_4_2 t_4_3 t_4_4 t_4_5 t_4_6 t_4_7 t_4_8 t_4_9 t_4_10 t_4_11 t_4_12).bind fun ⟨t_5_0, t_5_1, t_5_2, t_5_3, t_5_4, t_5_5, t_5_6, t_5_7, t_5_8, t_5_9, t_5_10, t_5_11, t_5_12⟩ => (m_X0_takeBack K n0 n1 n2 n3 n4 n5 n6 k0 r_3 r_4 t_2_14 t_5_0 t_5_1 t_5_2 t_5_3 t_5_4 t_5_5 t_5_6 t_5_7 t_5_8 t_5_9 t_5_10 t_5_11 t_5_12).bind fun ⟨t_6_0, t_6_1, t_6_2, t_6_3, t_6_4, t_6_5, t_6_6, t_6_7, t_6_8, t_6_9, t_6_10, t_6_11, t_6_12, t_6_13⟩ => some ("", r_3, t_2_0, t_6_1, t_6_2, t_6_3, t_6_4, t_6_5, t_6_6, t_6_7, t_6_8, t_6_9, t_6_10, t_6_11, t_6_12, t_6_13, t_6_0)) _
      refine zz_ok_bind (s_X7_remove K hK n0 n1 n2 n3 n4 n5 n6 r_2 t_4_0 t_4_1 t_4_2 t_4_3 t_4_4 t_4_5 t_4_6 t_4_7 t_4_8 t_4_9 t_4_10 t_4_11 t_4_12 (by omega) (by omega) (by omega) (by omega) (by omega) (by omega) (by omega) (by omega) (by omega) (by omega) (by omega) (by omega) (by omega)) ?_
      intro z72 hz72
      obtain ⟨t_5_0, t_5_1, t_5_2, t_5_3, t_5_4, t_5_5, t_5_6, t_5_7, t_5_8, t_5_9, t_5_10, t_5_11, t_5_12⟩ := z72
      have q73 : t_5_0.toInt = t_4_0.toInt := hz72.1
      have q74 : 0 ≤ t_5_1.toInt := hz72.2.1
      have q75 : t_5_1.toInt ≤ 200 := hz72.2.2.1
      have q76 : 0 ≤ t_5_9.toInt := hz72.2.2.2.1
      have q77 : t_5_9.toInt ≤ 512 := hz72.2.2.2.2
      have g78 := zz_rg t_5_0
      have g79 := zz_rg t_5_1
      have g80 := zz_rg t_5_2
      have g81 := zz_rg t_5_3
      have g82 := zz_rg t_5_9
      have g83 := zz_rg t_5_10
      show zz_ok ((m_X0_takeBack K n0 n1 n2 n3 n4 n5 n6 k0 r_3 r_4 t_2_14 t_5_0 t_5_1 t_5_2 t_5_3 t_5_4 t_5_5 t_5_6 t_5_7 t_5_8 t_5_9 t_5_10 t_5_11 t_5_12).bind fun ⟨t_6_0, t_6_1, t_6_2, t_6_3, t_6_4, t_6_5, t_6_6, t_6_7, t_6_8, t_6_9, t_6_10, t_6_11, t_6_12, t_6_13⟩ => some ("", r_3, t_2_0, t_6_1, t_6_2, t_6_3, t_6_4, t_6_5, t_6_6, t_6_7, t_6_8, t_6_9, t_6_10, t_6_11, t_6_12, t_6_13, t_6_0)) _
      refine zz_ok_bind (s_X0_takeBack K hK n0 n1 n2 n3 n4 n5 n6 k0 r_3 r_4 t_2_14 t_5_0 t_5_1 t_5_2 t_5_3 t_5_4 t_5_5 t_5_6 t_5_7 t_5_8 t_5_9 t_5_10 t_5_11 t_5_12 (by omega) (by omega) (by omega) (by omega) (by omega) (by omega) (by omega) (by omega) (by omega) (by omega) (by omega) (by omega) (by omega)) ?_
      intro z84 hz84
      obtain ⟨t_6_0, t_6_1, t_6_2, t_6_3, t_6_4, t_6_5, t_6_6, t_6_7, t_6_8, t_6_9, t_6_10, t_6_11, t_6_12, t_6_13⟩ := z84
      have q85 : t_6_1.toInt = t_5_0.toInt := hz84.1
      have q86 : t_6_2.toInt = t_5_1.toInt := hz84.2.1
      have q87 : 0 ≤ t_6_10.toInt := hz84.2.2.1
      have q88 : t_6_10.toInt ≤ 512 := hz84.2.2.2
      have g89 := zz_rg t_6_0
      have g90 := zz_rg t_6_1
      have g91 := zz_rg t_6_2
      have g92 := zz_rg t_6_3
      have g93 := zz_rg t_6_4
      have g94 := zz_rg t_6_10
      have g95 := zz_rg t_6_11
      show zz_ok (some ("", r_3, t_2_0, t_6_1, t_6_2, t_6_3, t_6_4, t_6_5, t_6_6, t_6_7, t_6_8, t_6_9, t_6_10, t_6_11, t_6_12, t_6_13, t_6_0)) _
      refine zz_ok_some ?_
      show ("") ∈ (["", "java/lang/IllegalStateException", "java/util/NoSuchElementException"] : List String) ∧ t_2_0.toInt = s0.toInt ∧ 0 ≤ t_6_1.toInt ∧ t_6_1.toInt ≤ 1024 ∧ 0 ≤ t_6_2.toInt ∧ t_6_2.toInt ≤ 200 ∧ 0 ≤ t_6_10.toInt ∧ t_6_10.toInt ≤ 512
      exact ⟨by decide, by omega, by omega, by omega, by omega, by omega, by omega, by omega⟩
    · skip
      have l96 : (0 : Int32).toInt = 0 := rfl
      refine zz_ok_some ?_
      show e_2 ∈ (["", "java/lang/IllegalStateException", "java/util/NoSuchElementException"] : List String) ∧ t_2_0.toInt = s0.toInt ∧ 0 ≤ t_2_1.toInt ∧ t_2_1.toInt ≤ 1024 ∧ 0 ≤ t_2_2.toInt ∧ t_2_2.toInt ≤ 200 ∧ 0 ≤ t_2_10.toInt ∧ t_2_10.toInt ≤ 512
      exact ⟨zz_mem q30 (by decide), by omega, by omega, by omega, by omega, by omega, by omega, by omega⟩
  · skip
    have l97 : (0 : Int32).toInt = 0 := rfl
    refine zz_ok_some ?_
    show e_1 ∈ (["", "java/lang/IllegalStateException", "java/util/NoSuchElementException"] : List String) ∧ t_1_0.toInt = s0.toInt ∧ 0 ≤ t_1_1.toInt ∧ t_1_1.toInt ≤ 1024 ∧ 0 ≤ t_1_2.toInt ∧ t_1_2.toInt ≤ 200 ∧ 0 ≤ t_1_10.toInt ∧ t_1_10.toInt ≤ 512
    exact ⟨zz_mem q12 (by decide), by omega, by omega, by omega, by omega, by omega, by omega, by omega⟩
set_option maxHeartbeats 4000000 in
theorem s_X11_about_X0 (K : Nat) (hK : 1099511627776 ≤ K) (n0 : Nat) (n1 : Nat) (n2 : Nat) (n3 : Nat) (n4 : Nat) (n5 : Nat) (n6 : Nat) (k0 : Int32) (p1 : Int32) (p2 : Int32) (s0 : Int32) (s1 : Int32) (s2 : Int32) (s3 : Int32) (s4 : Int32) (s5 : Nat → Int32) (s6 : Nat → Int32) (s7 : Nat → Int32) (s8 : Nat → Int32) (s9 : Nat → Int32) (s10 : Int32) (s11 : Int32) (s12 : Nat → Int32) (s13 : Nat → Int32) (s14 : Int32) (a0 : n0 = 1024) (a1 : n1 = 200) (a2 : n2 = 200) (a3 : n3 = 200) (a4 : n4 = 200) (a5 : n5 = 512) (a6 : n6 = 512) (a7 : 0 ≤ s1.toInt) (a8 : s1.toInt ≤ 1024) (a9 : 0 ≤ s2.toInt) (a10 : s2.toInt ≤ 200) (a11 : 0 ≤ s10.toInt) (a12 : s10.toInt ≤ 512) : zz_ok (m_X11_about_X0 K n0 n1 n2 n3 n4 n5 n6 k0 p1 p2 s0 s1 s2 s3 s4 s5 s6 s7 s8 s9 s10 s11 s12 s13 s14) (fun z => z.1 ∈ (["", "java/lang/IllegalArgumentException", "java/lang/IllegalStateException", "java/util/NoSuchElementException"] : List String) ∧ z.2.2.1.toInt = s0.toInt ∧ 0 ≤ z.2.2.2.1.toInt ∧ z.2.2.2.1.toInt ≤ 1024 ∧ 0 ≤ z.2.2.2.2.1.toInt ∧ z.2.2.2.2.1.toInt ≤ 200 ∧ 0 ≤ z.2.2.2.2.2.2.2.2.2.2.2.2.1.toInt ∧ z.2.2.2.2.2.2.2.2.2.2.2.2.1.toInt ≤ 512) := by
  have g1 := zz_rg k0
  have g2 := zz_rg p1
  have g3 := zz_rg p2
  have g4 := zz_rg s0
  have g5 := zz_rg s1
  have g6 := zz_rg s2
  have g7 := zz_rg s3
  have g8 := zz_rg s4
  have g9 := zz_rg s10
  have g10 := zz_rg s11
  have g11 := zz_rg s14
  unfold m_X11_about_X0
  have l13 : (0 : Int32).toInt = 0 := rfl
  refine zz_ok_ite (fun c12 => ?_) (fun c12 => ?_)
  · have c12 := Int32.lt_iff_toInt_lt.mp c12
    refine zz_ok_some ?_
    show ("java/lang/IllegalArgumentException") ∈ (["", "java/lang/IllegalArgumentException", "java/lang/IllegalStateException", "java/util/NoSuchElementException"] : List String) ∧ s0.toInt = s0.toInt ∧ 0 ≤ s1.toInt ∧ s1.toInt ≤ 1024 ∧ 0 ≤ s2.toInt ∧ s2.toInt ≤ 200 ∧ 0 ≤ s10.toInt ∧ s10.toInt ≤ 512
    exact ⟨by decide, by omega, by omega, by omega, by omega, by omega, by omega, by omega⟩
  · have c12 := zz_nlt c12
    have l15 : (2 : Int32).toInt = 2 := rfl
    refine zz_ok_ite (fun c14 => ?_) (fun c14 => ?_)
    · have c14 := Int32.le_iff_toInt_le.mp c14
      refine zz_ok_bind (s_X11_needRoom_X0 K hK n0 n1 n2 n3 n4 n5 n6 k0 s0 s1 s2 s3 s4 s5 s6 s7 s8 s9 s10 s11 s12 s13 s14 (by omega) (by omega) (by omega) (by omega) (by omega) (by omega) (by omega) (by omega) (by omega) (by omega) (by omega) (by omega) (by omega)) ?_
      intro z16 hz16
      obtain ⟨e_3, t_3_0, t_3_1, t_3_2, t_3_3, t_3_4, t_3_5, t_3_6, t_3_7, t_3_8, t_3_9, t_3_10, t_3_11, t_3_12, t_3_13, t_3_14⟩ := z16
      have q17 : e_3 ∈ (["", "java/lang/IllegalStateException"] : List String) := hz16.1
      have q18 : t_3_0.toInt = s0.toInt := hz16.2.1
      have q19 : 0 ≤ t_3_1.toInt := hz16.2.2.1
      have q20 : t_3_1.toInt ≤ 1024 := hz16.2.2.2.1
      have q21 : 0 ≤ t_3_2.toInt := hz16.2.2.2.2.1
      have q22 : t_3_2.toInt ≤ 200 := hz16.2.2.2.2.2.1
      have q23 : 0 ≤ t_3_10.toInt := hz16.2.2.2.2.2.2.1
      have q24 : t_3_10.toInt ≤ 512 := hz16.2.2.2.2.2.2.2
      have g25 := zz_rg t_3_0
      have g26 := zz_rg t_3_1
      have g27 := zz_rg t_3_2
      have g28 := zz_rg t_3_3
      have g29 := zz_rg t_3_4
      have g30 := zz_rg t_3_10
      have g31 := zz_rg t_3_11
      have g32 := zz_rg t_3_14
      show zz_ok (if e_3 = "" then ((m_X11_needBlock_X0 K n0 n1 n2 n3 n4 n5 n6 k0 p1 t_3_0 t_3_1 t_3_2 t_3_3 t_3_4 t_3_5 t_3_6 t_3_7 t_3_8 t_3_9 t_3_10 t_3_11 t_3_12 t_3_13 t_3_14).bind fun ⟨e_4, r_4, t_4_0, t_4_1, t_4_2, t_4_3, t_4_4, t_4_5, t_4_6, t_4_7, t_4_8, t_4_9, t_4_10, t_4_11, t_4_12, t_4_13, t_4_14⟩ => if e_4 = "" then (if p2 = 0 then ((m_X7_placeOf K n0 n1 n2 n3 n4 n5 n6 r_4 t_4_1 t_4_2 t_4_3 t_4_4 t_4_5 t_4_6 t_4_7 t_4_8 t_4_9 t_4_10 t_4_11 t_4_12 t_4_13).bind fun ⟨r_9, t_9_0, t_9_1, t_9_2, t_9_3, t_9_4, t_9_5, t_9_6, t_9_7, t_9_8, t_9_9, t_9_10, t_9_11, t_9_12⟩ => some ("", r_9, t_4_0, t_9_0, t_9_1, t_9_2, t_9_3, t_9_4, t_9_5, t_9_6, t_9_7, t_9_8, t_9_9, t_9_10, t_9_11, t_9_12, t_4_14)) else (if p2 = ((1 : Int32)) then ((m_X7_spanOf K n0 n1 n2 n3 n4 n5 n6 r_4 t_4_1 t_4_2 t_4_3 t_4_4 t_4_5 t_4_6 t_4_7 t_4_8 t_4_9 t_4_10 t_4_11 t_4_12 t_4_13).bind fun ⟨r_8, t_8_0, t_8_1, t_8_2, t_8_3, t_8_4, t_8_5, t_8_6, t_8_7, t_8_8, t_8_9, t_8_10, t_8_11, t_8_12⟩ => some ("", r_8, t_4_0, t_8_0, t_8_1, t_8_2, t_8_3, t_8_4, t_8_5, t_8_6, t_8_7, t_8_8, t_8_9, t_8_10, t_8_11, t_8_12, t_4_14)) else ((m_X7_askedOf K n0 n1 n2 n3 n4 n5 n6 r_4 t_4_1 t_4_2 t_4_3 t_4_4 t_4_5 t_4_6 t_4_7 t_4_8 t_4_9 t_4_10 t_4_11 t_4_12 t_4_13).bind fun ⟨r_7, t_7_0, t_7_1, t_7_2, t_7_3, t_7_4, t_7_5, t_7_6, t_7_7, t_7_8, t_7_9, t_7_10, t_7_11, t_7_12⟩ => some ("", r_7, t_4_0, t_7_0, t_7_1, t_7_2, t_7_3, t_7_4, t_7_5, t_7_6, t_7_7, t_7_8, t_7_9, t_7_10, t_7_11, t_7_12, t_4_14)))) else (some (e_4, 0, t_4_0, t_4_1, t_4_2, t_4_3, t_4_4, t_4_5, t_4_6, t_4_7, t_4_8, t_4_9, t_4_10, t_4_11, t_4_12, t_4_13, t_4_14))) else (some (e_3, 0, t_3_0, t_3_1, t_3_2, t_3_3, t_3_4, t_3_5, t_3_6, t_3_7, t_3_8, t_3_9, t_3_10, t_3_11, t_3_12, t_3_13, t_3_14))) _
      refine zz_ok_ite (fun c33 => ?_) (fun c33 => ?_)
      · skip
        refine zz_ok_bind (s_X11_needBlock_X0 K hK n0 n1 n2 n3 n4 n5 n6 k0 p1 t_3_0 t_3_1 t_3_2 t_3_3 t_3_4 t_3_5 t_3_6 t_3_7 t_3_8 t_3_9 t_3_10 t_3_11 t_3_12 t_3_13 t_3_14 (by omega) (by omega) (by omega) (by omega) (by omega) (by omega) (by omega) (by omega) (by omega) (by omega) (by omega) (by omega) (by omega)) ?_
        intro z34 hz34
        obtain ⟨e_4, r_4, t_4_0, t_4_1, t_4_2, t_4_3, t_4_4, t_4_5, t_4_6, t_4_7, t_4_8, t_4_9, t_4_10, t_4_11, t_4_12, t_4_13, t_4_14⟩ := z34
        have q35 : e_4 ∈ (["", "java/util/NoSuchElementException"] : List String) := hz34.1
        have q36 : t_4_0.toInt = t_3_0.toInt := hz34.2.1
        have q37 : 0 ≤ t_4_1.toInt := hz34.2.2.1
        have q38 : t_4_1.toInt ≤ 1024 := hz34.2.2.2.1
        have q39 : 0 ≤ t_4_2.toInt := hz34.2.2.2.2.1
        have q40 : t_4_2.toInt ≤ 200 := hz34.2.2.2.2.2.1
        have q41 : 0 ≤ t_4_10.toInt := hz34.2.2.2.2.2.2.1
        have q42 : t_4_10.toInt ≤ 512 := hz34.2.2.2.2.2.2.2
        have g43 := zz_rg r_4
        have g44 := zz_rg t_4_0
        have g45 := zz_rg t_4_1
        have g46 := zz_rg t_4_2
        have g47 := zz_rg t_4_3
        have g48 := zz_rg t_4_4
        have g49 := zz_rg t_4_10
        have g50 := zz_rg t_4_11
        have g51 := zz_rg t_4_14
        show zz_ok (if e_4 = "" then (if p2 = 0 then ((m_X7_placeOf K n0 n1 n2 n3 n4 n5 n6 r_4 t_4_1 t_4_2 t_4_3 t_4_4 t_4_5 t_4_6 t_4_7 t_4_8 t_4_9 t_4_10 t_4_11 t_4_12 t_4_13).bind fun ⟨r_9, t_9_0, t_9_1, t_9_2, t_9_3, t_9_4, t_9_5, t_9_6, t_9_7, t_9_8, t_9_9, t_9_10, t_9_11, t_9_12⟩ => some ("", r_9, t_4_0, t_9_0, t_9_1, t_9_2, t_9_3, t_9_4, t_9_5, t_9_6, t_9_7, t_9_8, t_9_9, t_9_10, t_9_11, t_9_12, t_4_14)) else (if p2 = ((1 : Int32)) then ((m_X7_spanOf K n0 n1 n2 n3 n4 n5 n6 r_4 t_4_1 t_4_2 t_4_3 t_4_4 t_4_5 t_4_6 t_4_7 t_4_8 t_4_9 t_4_10 t_4_11 t_4_12 t_4_13).bind fun ⟨r_8, t_8_0, t_8_1, t_8_2, t_8_3, t_8_4, t_8_5, t_8_6, t_8_7, t_8_8, t_8_9, t_8_10, t_8_11, t_8_12⟩ => some ("", r_8, t_4_0, t_8_0, t_8_1, t_8_2, t_8_3, t_8_4, t_8_5, t_8_6, t_8_7, t_8_8, t_8_9, t_8_10, t_8_11, t_8_12, t_4_14)) else ((m_X7_askedOf K n0 n1 n2 n3 n4 n5 n6 r_4 t_4_1 t_4_2 t_4_3 t_4_4 t_4_5 t_4_6 t_4_7 t_4_8 t_4_9 t_4_10 t_4_11 t_4_12 t_4_13).bind fun ⟨r_7, t_7_0, t_7_1, t_7_2, t_7_3, t_7_4, t_7_5, t_7_6, t_7_7, t_7_8, t_7_9, t_7_10, t_7_11, t_7_12⟩ => some ("", r_7, t_4_0, t_7_0, t_7_1, t_7_2, t_7_3, t_7_4, t_7_5, t_7_6, t_7_7, t_7_8, t_7_9, t_7_10, t_7_11, t_7_12, t_4_14)))) else (some (e_4, 0, t_4_0, t_4_1, t_4_2, t_4_3, t_4_4, t_4_5, t_4_6, t_4_7, t_4_8, t_4_9, t_4_10, t_4_11, t_4_12, t_4_13, t_4_14))) _
        refine zz_ok_ite (fun c52 => ?_) (fun c52 => ?_)
        · skip
          refine zz_ok_ite (fun c53 => ?_) (fun c53 => ?_)
          · have c53 := congrArg Int32.toInt c53
            refine zz_ok_bind (s_X7_placeOf K hK n0 n1 n2 n3 n4 n5 n6 r_4 t_4_1 t_4_2 t_4_3 t_4_4 t_4_5 t_4_6 t_4_7 t_4_8 t_4_9 t_4_10 t_4_11 t_4_12 t_4_13 (by omega) (by omega) (by omega) (by omega) (by omega) (by omega) (by omega) (by omega) (by omega) (by omega) (by omega) (by omega) (by omega)) ?_
            intro z54 hz54
            obtain ⟨r_9, t_9_0, t_9_1, t_9_2, t_9_3, t_9_4, t_9_5, t_9_6, t_9_7, t_9_8, t_9_9, t_9_10, t_9_11, t_9_12⟩ := z54
            have q55 : t_9_0.toInt = t_4_1.toInt := hz54.1
            have q56 : t_9_1.toInt = t_4_2.toInt := hz54.2.1
            have q57 : 0 ≤ t_9_9.toInt := hz54.2.2.1
            have q58 : t_9_9.toInt ≤ 512 := hz54.2.2.2
            have g59 := zz_rg r_9
            have g60 := zz_rg t_9_0
            have g61 := zz_rg t_9_1
            have g62 := zz_rg t_9_2
            have g63 := zz_rg t_9_3
            have g64 := zz_rg t_9_9
            have g65 := zz_rg t_9_10
            show zz_ok (some ("", r_9, t_4_0, t_9_0, t_9_1, t_9_2, t_9_3, t_9_4, t_9_5, t_9_6, t_9_7, t_9_8, t_9_9, t_9_10, t_9_11, t_9_12, t_4_14)) _
            refine zz_ok_some ?_
            show ("") ∈ (["", "java/lang/IllegalArgumentException", "java/lang/IllegalStateException", "java/util/NoSuchElementException"] : List String) ∧ t_4_0.toInt = s0.toInt ∧ 0 ≤ t_9_0.toInt ∧ t_9_0.toInt ≤ 1024 ∧ 0 ≤ t_9_1.toInt ∧ t_9_1.toInt ≤ 200 ∧ 0 ≤ t_9_9.toInt ∧ t_9_9.toInt ≤ 512
            exact ⟨by decide, by omega, by omega, by omega, by omega, by omega, by omega, by omega⟩
          · have c53 := zz_neq c53
            have l67 : (1 : Int32).toInt = 1 := rfl
            refine zz_ok_ite (fun c66 => ?_) (fun c66 => ?_)
            · have c66 := congrArg Int32.toInt c66
              refine zz_ok_bind (s_X7_spanOf K hK n0 n1 n2 n3 n4 n5 n6 r_4 t_4_1 t_4_2 t_4_3 t_4_4 t_4_5 t_4_6 t_4_7 t_4_8 t_4_9 t_4_10 t_4_11 t_4_12 t_4_13 (by omega) (by omega) (by omega) (by omega) (by omega) (by omega) (by omega) (by omega) (by omega) (by omega) (by omega) (by omega) (by omega)) ?_
              intro z68 hz68
              obtain ⟨r_8, t_8_0, t_8_1, t_8_2, t_8_3, t_8_4, t_8_5, t_8_6, t_8_7, t_8_8, t_8_9, t_8_10, t_8_11, t_8_12⟩ := z68
              have q69 : t_8_0.toInt = t_4_1.toInt := hz68.1
              have q70 : t_8_1.toInt = t_4_2.toInt := hz68.2.1
              have q71 : 0 ≤ t_8_9.toInt := hz68.2.2.1
              have q72 : t_8_9.toInt ≤ 512 := hz68.2.2.2
              have g73 := zz_rg r_8
              have g74 := zz_rg t_8_0
              have g75 := zz_rg t_8_1
              have g76 := zz_rg t_8_2
              have g77 := zz_rg t_8_3
              have g78 := zz_rg t_8_9
              have g79 := zz_rg t_8_10
              show zz_ok (some ("", r_8, t_4_0, t_8_0, t_8_1, t_8_2, t_8_3, t_8_4, t_8_5, t_8_6, t_8_7, t_8_8, t_8_9, t_8_10, t_8_11, t_8_12, t_4_14)) _
              refine zz_ok_some ?_
              show ("") ∈ (["", "java/lang/IllegalArgumentException", "java/lang/IllegalStateException", "java/util/NoSuchElementException"] : List String) ∧ t_4_0.toInt = s0.toInt ∧ 0 ≤ t_8_0.toInt ∧ t_8_0.toInt ≤ 1024 ∧ 0 ≤ t_8_1.toInt ∧ t_8_1.toInt ≤ 200 ∧ 0 ≤ t_8_9.toInt ∧ t_8_9.toInt ≤ 512
              exact ⟨by decide, by omega, by omega, by omega, by omega, by omega, by omega, by omega⟩
            · have c66 := zz_neq c66
              refine zz_ok_bind (s_X7_askedOf K hK n0 n1 n2 n3 n4 n5 n6 r_4 t_4_1 t_4_2 t_4_3 t_4_4 t_4_5 t_4_6 t_4_7 t_4_8 t_4_9 t_4_10 t_4_11 t_4_12 t_4_13 (by omega) (by omega) (by omega) (by omega) (by omega) (by omega) (by omega) (by omega) (by omega) (by omega) (by omega) (by omega) (by omega)) ?_
              intro z80 hz80
              obtain ⟨r_7, t_7_0, t_7_1, t_7_2, t_7_3, t_7_4, t_7_5, t_7_6, t_7_7, t_7_8, t_7_9, t_7_10, t_7_11, t_7_12⟩ := z80
              have q81 : t_7_0.toInt = t_4_1.toInt := hz80.1
              have q82 : t_7_1.toInt = t_4_2.toInt := hz80.2.1
              have q83 : 0 ≤ t_7_9.toInt := hz80.2.2.1
              have q84 : t_7_9.toInt ≤ 512 := hz80.2.2.2
              have g85 := zz_rg r_7
              have g86 := zz_rg t_7_0
              have g87 := zz_rg t_7_1
              have g88 := zz_rg t_7_2
              have g89 := zz_rg t_7_3
              have g90 := zz_rg t_7_9
              have g91 := zz_rg t_7_10
              show zz_ok (some ("", r_7, t_4_0, t_7_0, t_7_1, t_7_2, t_7_3, t_7_4, t_7_5, t_7_6, t_7_7, t_7_8, t_7_9, t_7_10, t_7_11, t_7_12, t_4_14)) _
              refine zz_ok_some ?_
              show ("") ∈ (["", "java/lang/IllegalArgumentException", "java/lang/IllegalStateException", "java/util/NoSuchElementException"] : List String) ∧ t_4_0.toInt = s0.toInt ∧ 0 ≤ t_7_0.toInt ∧ t_7_0.toInt ≤ 1024 ∧ 0 ≤ t_7_1.toInt ∧ t_7_1.toInt ≤ 200 ∧ 0 ≤ t_7_9.toInt ∧ t_7_9.toInt ≤ 512
              exact ⟨by decide, by omega, by omega, by omega, by omega, by omega, by omega, by omega⟩
        · skip
          refine zz_ok_some ?_
          show e_4 ∈ (["", "java/lang/IllegalArgumentException", "java/lang/IllegalStateException", "java/util/NoSuchElementException"] : List String) ∧ t_4_0.toInt = s0.toInt ∧ 0 ≤ t_4_1.toInt ∧ t_4_1.toInt ≤ 1024 ∧ 0 ≤ t_4_2.toInt ∧ t_4_2.toInt ≤ 200 ∧ 0 ≤ t_4_10.toInt ∧ t_4_10.toInt ≤ 512
          exact ⟨zz_mem q35 (by decide), by omega, by omega, by omega, by omega, by omega, by omega, by omega⟩
      · skip
        refine zz_ok_some ?_
        show e_3 ∈ (["", "java/lang/IllegalArgumentException", "java/lang/IllegalStateException", "java/util/NoSuchElementException"] : List String) ∧ t_3_0.toInt = s0.toInt ∧ 0 ≤ t_3_1.toInt ∧ t_3_1.toInt ≤ 1024 ∧ 0 ≤ t_3_2.toInt ∧ t_3_2.toInt ≤ 200 ∧ 0 ≤ t_3_10.toInt ∧ t_3_10.toInt ≤ 512
        exact ⟨zz_mem q17 (by decide), by omega, by omega, by omega, by omega, by omega, by omega, by omega⟩
    · have c14 := zz_nle c14
      refine zz_ok_some ?_
      show ("java/lang/IllegalArgumentException") ∈ (["", "java/lang/IllegalArgumentException", "java/lang/IllegalStateException", "java/util/NoSuchElementException"] : List String) ∧ s0.toInt = s0.toInt ∧ 0 ≤ s1.toInt ∧ s1.toInt ≤ 1024 ∧ 0 ≤ s2.toInt ∧ s2.toInt ≤ 200 ∧ 0 ≤ s10.toInt ∧ s10.toInt ≤ 512
      exact ⟨by decide, by omega, by omega, by omega, by omega, by omega, by omega, by omega⟩
set_option maxHeartbeats 4000000 in
theorem s_X11_at_X0 (K : Nat) (hK : 1099511627776 ≤ K) (n0 : Nat) (n1 : Nat) (n2 : Nat) (n3 : Nat) (n4 : Nat) (n5 : Nat) (n6 : Nat) (k0 : Int32) (p1 : Int32) (s0 : Int32) (s1 : Int32) (s2 : Int32) (s3 : Int32) (s4 : Int32) (s5 : Nat → Int32) (s6 : Nat → Int32) (s7 : Nat → Int32) (s8 : Nat → Int32) (s9 : Nat → Int32) (s10 : Int32) (s11 : Int32) (s12 : Nat → Int32) (s13 : Nat → Int32) (s14 : Int32) (a0 : n0 = 1024) (a1 : n1 = 200) (a2 : n2 = 200) (a3 : n3 = 200) (a4 : n4 = 200) (a5 : n5 = 512) (a6 : n6 = 512) (a7 : 0 ≤ s1.toInt) (a8 : s1.toInt ≤ 1024) (a9 : 0 ≤ s2.toInt) (a10 : s2.toInt ≤ 200) (a11 : 0 ≤ s10.toInt) (a12 : s10.toInt ≤ 512) : zz_ok (m_X11_at_X0 K n0 n1 n2 n3 n4 n5 n6 k0 p1 s0 s1 s2 s3 s4 s5 s6 s7 s8 s9 s10 s11 s12 s13 s14) (fun z => z.1 ∈ (["", "java/lang/IllegalArgumentException", "java/lang/IllegalStateException"] : List String) ∧ z.2.2.1.toInt = s0.toInt ∧ 0 ≤ z.2.2.2.1.toInt ∧ z.2.2.2.1.toInt ≤ 1024 ∧ 0 ≤ z.2.2.2.2.1.toInt ∧ z.2.2.2.2.1.toInt ≤ 200 ∧ 0 ≤ z.2.2.2.2.2.2.2.2.2.2.2.2.1.toInt ∧ z.2.2.2.2.2.2.2.2.2.2.2.2.1.toInt ≤ 512) := by
  have g1 := zz_rg k0
  have g2 := zz_rg p1
  have g3 := zz_rg s0
  have g4 := zz_rg s1
  have g5 := zz_rg s2
  have g6 := zz_rg s3
  have g7 := zz_rg s4
  have g8 := zz_rg s10
  have g9 := zz_rg s11
  have g10 := zz_rg s14
  unfold m_X11_at_X0
  refine zz_ok_bind (s_X7_words K hK n0 n1 n2 n3 n4 n5 n6 s1 s2 s3 s4 s5 s6 s7 s8 s9 s10 s11 s12 s13 (by omega) (by omega) (by omega) (by omega) (by omega) (by omega) (by omega) (by omega) (by omega) (by omega) (by omega) (by omega) (by omega)) ?_
  intro z11 hz11
  obtain ⟨r_1, t_1_0, t_1_1, t_1_2, t_1_3, t_1_4, t_1_5, t_1_6, t_1_7, t_1_8, t_1_9, t_1_10, t_1_11, t_1_12⟩ := z11
  have q12 : r_1.toInt = s1.toInt := hz11.1
  have q13 : t_1_0.toInt = s1.toInt := hz11.2.1
  have q14 : t_1_1.toInt = s2.toInt := hz11.2.2.1
  have q15 : 0 ≤ t_1_9.toInt := hz11.2.2.2.1
  have q16 : t_1_9.toInt ≤ 512 := hz11.2.2.2.2
  have g17 := zz_rg r_1
  have g18 := zz_rg t_1_0
  have g19 := zz_rg t_1_1
  have g20 := zz_rg t_1_2
  have g21 := zz_rg t_1_3
  have g22 := zz_rg t_1_9
  have g23 := zz_rg t_1_10
  show zz_ok (if p1 < 0 then (some ("java/lang/IllegalArgumentException", 0, s0, t_1_0, t_1_1, t_1_2, t_1_3, t_1_4, t_1_5, t_1_6, t_1_7, t_1_8, t_1_9, t_1_10, t_1_11, t_1_12, s14)) else (if p1 < r_1 then ((m_X11_needRoom_X0 K n0 n1 n2 n3 n4 n5 n6 k0 s0 t_1_0 t_1_1 t_1_2 t_1_3 t_1_4 t_1_5 t_1_6 t_1_7 t_1_8 t_1_9 t_1_10 t_1_11 t_1_12 s14).bind fun ⟨e_4, t_4_0, t_4_1, t_4_2, t_4_3, t_4_4, t_4_5, t_4_6, t_4_7, t_4_8, t_4_9, t_4_10, t_4_11, t_4_12, t_4_13, t_4_14⟩ => if e_4 = "" then ((m_X7_blockAt K n0 n1 n2 n3 n4 n5 n6 p1 t_4_1 t_4_2 t_4_3 t_4_4 t_4_5 t_4_6 t_4_7 t_4_8 t_4_9 t_4_10 t_4_11 t_4_12 t_4_13).bind fun ⟨r_5, t_5_0, t_5_1, t_5_2, t_5_3, t_5_4, t_5_5, t_5_6, t_5_7, t_5_8, t_5_9, t_5_10, t_5_11, t_5_12⟩ => some ("", r_5, t_4_0, t_5_0, t_5_1, t_5_2, t_5_3, t_5_4, t_5_5, t_5_6, t_5_7, t_5_8, t_5_9, t_5_10, t_5_11, t_5_12, t_4_14)) else (some (e_4, 0, t_4_0, t_4_1, t_4_2, t_4_3, t_4_4, t_4_5, t_4_6, t_4_7, t_4_8, t_4_9, t_4_10, t_4_11, t_4_12, t_4_13, t_4_14))) else (some ("java/lang/IllegalArgumentException", 0, s0, t_1_0, t_1_1, t_1_2, t_1_3, t_1_4, t_1_5, t_1_6, t_1_7, t_1_8, t_1_9, t_1_10, t_1_11, t_1_12, s14)))) _
  have l25 : (0 : Int32).toInt = 0 := rfl
  refine zz_ok_ite (fun c24 => ?_) (fun c24 => ?_)
  · have c24 := Int32.lt_iff_toInt_lt.mp c24
    refine zz_ok_some ?_
    show ("java/lang/IllegalArgumentException") ∈ (["", "java/lang/IllegalArgumentException", "java/lang/IllegalStateException"] : List String) ∧ s0.toInt = s0.toInt ∧ 0 ≤ t_1_0.toInt ∧ t_1_0.toInt ≤ 1024 ∧ 0 ≤ t_1_1.toInt ∧ t_1_1.toInt ≤ 200 ∧ 0 ≤ t_1_9.toInt ∧ t_1_9.toInt ≤ 512
    exact ⟨by decide, by omega, by omega, by omega, by omega, by omega, by omega, by omega⟩
  · have c24 := zz_nlt c24
    refine zz_ok_ite (fun c26 => ?_) (fun c26 => ?_)
    · have c26 := Int32.lt_iff_toInt_lt.mp c26
      refine zz_ok_bind (s_X11_needRoom_X0 K hK n0 n1 n2 n3 n4 n5 n6 k0 s0 t_1_0 t_1_1 t_1_2 t_1_3 t_1_4 t_1_5 t_1_6 t_1_7 t_1_8 t_1_9 t_1_10 t_1_11 t_1_12 s14 (by omega) (by omega) (by omega) (by omega) (by omega) (by omega) (by omega) (by omega) (by omega) (by omega) (by omega) (by omega) (by omega)) ?_
      intro z27 hz27
      obtain ⟨e_4, t_4_0, t_4_1, t_4_2, t_4_3, t_4_4, t_4_5, t_4_6, t_4_7, t_4_8, t_4_9, t_4_10, t_4_11, t_4_12, t_4_13, t_4_14⟩ := z27
      have q28 : e_4 ∈ (["", "java/lang/IllegalStateException"] : List String) := hz27.1
      have q29 : t_4_0.toInt = s0.toInt := hz27.2.1
      have q30 : 0 ≤ t_4_1.toInt := hz27.2.2.1
      have q31 : t_4_1.toInt ≤ 1024 := hz27.2.2.2.1
      have q32 : 0 ≤ t_4_2.toInt := hz27.2.2.2.2.1
      have q33 : t_4_2.toInt ≤ 200 := hz27.2.2.2.2.2.1
      have q34 : 0 ≤ t_4_10.toInt := hz27.2.2.2.2.2.2.1
      have q35 : t_4_10.toInt ≤ 512 := hz27.2.2.2.2.2.2.2
      have g36 := zz_rg t_4_0
      have g37 := zz_rg t_4_1
      have g38 := zz_rg t_4_2
      have g39 := zz_rg t_4_3
      have g40 := zz_rg t_4_4
      have g41 := zz_rg t_4_10
      have g42 := zz_rg t_4_11
      have g43 := zz_rg t_4_14
      show zz_ok (if e_4 = "" then ((m_X7_blockAt K n0 n1 n2 n3 n4 n5 n6 p1 t_4_1 t_4_2 t_4_3 t_4_4 t_4_5 t_4_6 t_4_7 t_4_8 t_4_9 t_4_10 t_4_11 t_4_12 t_4_13).bind fun ⟨r_5, t_5_0, t_5_1, t_5_2, t_5_3, t_5_4, t_5_5, t_5_6, t_5_7, t_5_8, t_5_9, t_5_10, t_5_11, t_5_12⟩ => some ("", r_5, t_4_0, t_5_0, t_5_1, t_5_2, t_5_3, t_5_4, t_5_5, t_5_6, t_5_7, t_5_8, t_5_9, t_5_10, t_5_11, t_5_12, t_4_14)) else (some (e_4, 0, t_4_0, t_4_1, t_4_2, t_4_3, t_4_4, t_4_5, t_4_6, t_4_7, t_4_8, t_4_9, t_4_10, t_4_11, t_4_12, t_4_13, t_4_14))) _
      refine zz_ok_ite (fun c44 => ?_) (fun c44 => ?_)
      · skip
        refine zz_ok_bind (s_X7_blockAt K hK n0 n1 n2 n3 n4 n5 n6 p1 t_4_1 t_4_2 t_4_3 t_4_4 t_4_5 t_4_6 t_4_7 t_4_8 t_4_9 t_4_10 t_4_11 t_4_12 t_4_13 (by omega) (by omega) (by omega) (by omega) (by omega) (by omega) (by omega) (by omega) (by omega) (by omega) (by omega) (by omega) (by omega)) ?_
        intro z45 hz45
        obtain ⟨r_5, t_5_0, t_5_1, t_5_2, t_5_3, t_5_4, t_5_5, t_5_6, t_5_7, t_5_8, t_5_9, t_5_10, t_5_11, t_5_12⟩ := z45
        have q46 : t_5_0.toInt = t_4_1.toInt := hz45.1
        have q47 : t_5_1.toInt = t_4_2.toInt := hz45.2.1
        have q48 : 0 ≤ t_5_9.toInt := hz45.2.2.1
        have q49 : t_5_9.toInt ≤ 512 := hz45.2.2.2
        have g50 := zz_rg r_5
        have g51 := zz_rg t_5_0
        have g52 := zz_rg t_5_1
        have g53 := zz_rg t_5_2
        have g54 := zz_rg t_5_3
        have g55 := zz_rg t_5_9
        have g56 := zz_rg t_5_10
        show zz_ok (some ("", r_5, t_4_0, t_5_0, t_5_1, t_5_2, t_5_3, t_5_4, t_5_5, t_5_6, t_5_7, t_5_8, t_5_9, t_5_10, t_5_11, t_5_12, t_4_14)) _
        refine zz_ok_some ?_
        show ("") ∈ (["", "java/lang/IllegalArgumentException", "java/lang/IllegalStateException"] : List String) ∧ t_4_0.toInt = s0.toInt ∧ 0 ≤ t_5_0.toInt ∧ t_5_0.toInt ≤ 1024 ∧ 0 ≤ t_5_1.toInt ∧ t_5_1.toInt ≤ 200 ∧ 0 ≤ t_5_9.toInt ∧ t_5_9.toInt ≤ 512
        exact ⟨by decide, by omega, by omega, by omega, by omega, by omega, by omega, by omega⟩
      · skip
        refine zz_ok_some ?_
        show e_4 ∈ (["", "java/lang/IllegalArgumentException", "java/lang/IllegalStateException"] : List String) ∧ t_4_0.toInt = s0.toInt ∧ 0 ≤ t_4_1.toInt ∧ t_4_1.toInt ≤ 1024 ∧ 0 ≤ t_4_2.toInt ∧ t_4_2.toInt ≤ 200 ∧ 0 ≤ t_4_10.toInt ∧ t_4_10.toInt ≤ 512
        exact ⟨zz_mem q28 (by decide), by omega, by omega, by omega, by omega, by omega, by omega, by omega⟩
    · have c26 := zz_nlt c26
      refine zz_ok_some ?_
      show ("java/lang/IllegalArgumentException") ∈ (["", "java/lang/IllegalArgumentException", "java/lang/IllegalStateException"] : List String) ∧ s0.toInt = s0.toInt ∧ 0 ≤ t_1_0.toInt ∧ t_1_0.toInt ≤ 1024 ∧ 0 ≤ t_1_1.toInt ∧ t_1_1.toInt ≤ 200 ∧ 0 ≤ t_1_9.toInt ∧ t_1_9.toInt ≤ 512
      exact ⟨by decide, by omega, by omega, by omega, by omega, by omega, by omega, by omega⟩
set_option maxHeartbeats 4000000 in
theorem s_X11_run_X0 (K : Nat) (hK : 1099511627776 ≤ K) (n0 : Nat) (n1 : Nat) (n2 : Nat) (n3 : Nat) (n4 : Nat) (n5 : Nat) (n6 : Nat) (k0 : Int32) (p1 : Int32) (p2 : Int32) (s0 : Int32) (s1 : Int32) (s2 : Int32) (s3 : Int32) (s4 : Int32) (s5 : Nat → Int32) (s6 : Nat → Int32) (s7 : Nat → Int32) (s8 : Nat → Int32) (s9 : Nat → Int32) (s10 : Int32) (s11 : Int32) (s12 : Nat → Int32) (s13 : Nat → Int32) (s14 : Int32) (a0 : n0 = 1024) (a1 : n1 = 200) (a2 : n2 = 200) (a3 : n3 = 200) (a4 : n4 = 200) (a5 : n5 = 512) (a6 : n6 = 512) (a7 : 0 ≤ s1.toInt) (a8 : s1.toInt ≤ 1024) (a9 : 0 ≤ s2.toInt) (a10 : s2.toInt ≤ 200) (a11 : 0 ≤ s10.toInt) (a12 : s10.toInt ≤ 512) : zz_ok (m_X11_run_X0 K n0 n1 n2 n3 n4 n5 n6 k0 p1 p2 s0 s1 s2 s3 s4 s5 s6 s7 s8 s9 s10 s11 s12 s13 s14) (fun z => z.1 ∈ (["", "java/lang/IllegalArgumentException", "java/lang/IllegalStateException", "java/lang/IndexOutOfBoundsException"] : List String) ∧ z.2.2.1.toInt = s0.toInt ∧ 0 ≤ z.2.2.2.1.toInt ∧ z.2.2.2.1.toInt ≤ 1024 ∧ 0 ≤ z.2.2.2.2.1.toInt ∧ z.2.2.2.2.1.toInt ≤ 200 ∧ 0 ≤ z.2.2.2.2.2.2.2.2.2.2.2.2.1.toInt ∧ z.2.2.2.2.2.2.2.2.2.2.2.2.1.toInt ≤ 512) := by
  have g1 := zz_rg k0
  have g2 := zz_rg p1
  have g3 := zz_rg p2
  have g4 := zz_rg s0
  have g5 := zz_rg s1
  have g6 := zz_rg s2
  have g7 := zz_rg s3
  have g8 := zz_rg s4
  have g9 := zz_rg s10
  have g10 := zz_rg s11
  have g11 := zz_rg s14
  unfold m_X11_run_X0
  have l13 : (0 : Int32).toInt = 0 := rfl
  refine zz_ok_ite (fun c12 => ?_) (fun c12 => ?_)
  · have c12 := Int32.lt_iff_toInt_lt.mp c12
    refine zz_ok_some ?_
    show ("java/lang/IllegalArgumentException") ∈ (["", "java/lang/IllegalArgumentException", "java/lang/IllegalStateException", "java/lang/IndexOutOfBoundsException"] : List String) ∧ s0.toInt = s0.toInt ∧ 0 ≤ s1.toInt ∧ s1.toInt ≤ 1024 ∧ 0 ≤ s2.toInt ∧ s2.toInt ≤ 200 ∧ 0 ≤ s10.toInt ∧ s10.toInt ≤ 512
    exact ⟨by decide, by omega, by omega, by omega, by omega, by omega, by omega, by omega⟩
  · have c12 := zz_nlt c12
    have l15 : (1 : Int32).toInt = 1 := rfl
    refine zz_ok_ite (fun c14 => ?_) (fun c14 => ?_)
    · have c14 := Int32.le_iff_toInt_le.mp c14
      refine zz_ok_bind (s_X11_needRoom_X0 K hK n0 n1 n2 n3 n4 n5 n6 k0 s0 s1 s2 s3 s4 s5 s6 s7 s8 s9 s10 s11 s12 s13 s14 (by omega) (by omega) (by omega) (by omega) (by omega) (by omega) (by omega) (by omega) (by omega) (by omega) (by omega) (by omega) (by omega)) ?_
      intro z16 hz16
      obtain ⟨e_3, t_3_0, t_3_1, t_3_2, t_3_3, t_3_4, t_3_5, t_3_6, t_3_7, t_3_8, t_3_9, t_3_10, t_3_11, t_3_12, t_3_13, t_3_14⟩ := z16
      have q17 : e_3 ∈ (["", "java/lang/IllegalStateException"] : List String) := hz16.1
      have q18 : t_3_0.toInt = s0.toInt := hz16.2.1
      have q19 : 0 ≤ t_3_1.toInt := hz16.2.2.1
      have q20 : t_3_1.toInt ≤ 1024 := hz16.2.2.2.1
      have q21 : 0 ≤ t_3_2.toInt := hz16.2.2.2.2.1
      have q22 : t_3_2.toInt ≤ 200 := hz16.2.2.2.2.2.1
      have q23 : 0 ≤ t_3_10.toInt := hz16.2.2.2.2.2.2.1
      have q24 : t_3_10.toInt ≤ 512 := hz16.2.2.2.2.2.2.2
      have g25 := zz_rg t_3_0
      have g26 := zz_rg t_3_1
      have g27 := zz_rg t_3_2
      have g28 := zz_rg t_3_3
      have g29 := zz_rg t_3_4
      have g30 := zz_rg t_3_10
      have g31 := zz_rg t_3_11
      have g32 := zz_rg t_3_14
      show zz_ok (if e_3 = "" then ((m_X7_listRuns K n0 n1 n2 n3 n4 n5 n6 t_3_1 t_3_2 t_3_3 t_3_4 t_3_5 t_3_6 t_3_7 t_3_8 t_3_9 t_3_10 t_3_11 t_3_12 t_3_13).bind fun ⟨t_4_0, t_4_1, t_4_2, t_4_3, t_4_4, t_4_5, t_4_6, t_4_7, t_4_8, t_4_9, t_4_10, t_4_11, t_4_12⟩ => if p1 < 0 then (some ("java/lang/IndexOutOfBoundsException", 0, t_3_0, t_4_0, t_4_1, t_4_2, t_4_3, t_4_4, t_4_5, t_4_6, t_4_7, t_4_8, t_4_9, t_4_10, t_4_11, t_4_12, t_3_14)) else ((m_X10_size K n5 n6 t_4_9 t_4_10 t_4_11 t_4_12).bind fun ⟨r_6, t_6_0, t_6_1, t_6_2, t_6_3⟩ => if p1 < r_6 then (if p2 = 0 then ((m_X10_placeOf K n5 n6 p1 t_6_0 t_6_1 t_6_2 t_6_3).bind fun ⟨r_10, t_10_0, t_10_1, t_10_2, t_10_3⟩ => some ("", r_10, t_3_0, t_4_0, t_4_1, t_4_2, t_4_3, t_4_4, t_4_5, t_4_6, t_4_7, t_4_8, t_10_0, t_10_1, t_10_2, t_10_3, t_3_14)) else ((m_X10_wordsOf K n5 n6 p1 t_6_0 t_6_1 t_6_2 t_6_3).bind fun ⟨r_9, t_9_0, t_9_1, t_9_2, t_9_3⟩ => some ("", r_9, t_3_0, t_4_0, t_4_1, t_4_2, t_4_3, t_4_4, t_4_5, t_4_6, t_4_7, t_4_8, t_9_0, t_9_1, t_9_2, t_9_3, t_3_14))) else (some ("java/lang/IndexOutOfBoundsException", 0, t_3_0, t_4_0, t_4_1, t_4_2, t_4_3, t_4_4, t_4_5, t_4_6, t_4_7, t_4_8, t_6_0, t_6_1, t_6_2, t_6_3, t_3_14)))) else (some (e_3, 0, t_3_0, t_3_1, t_3_2, t_3_3, t_3_4, t_3_5, t_3_6, t_3_7, t_3_8, t_3_9, t_3_10, t_3_11, t_3_12, t_3_13, t_3_14))) _
      refine zz_ok_ite (fun c33 => ?_) (fun c33 => ?_)
      · skip
        refine zz_ok_bind (s_X7_listRuns K hK n0 n1 n2 n3 n4 n5 n6 t_3_1 t_3_2 t_3_3 t_3_4 t_3_5 t_3_6 t_3_7 t_3_8 t_3_9 t_3_10 t_3_11 t_3_12 t_3_13 (by omega) (by omega) (by omega) (by omega) (by omega) (by omega) (by omega) (by omega) (by omega) (by omega) (by omega) (by omega) (by omega)) ?_
        intro z34 hz34
        obtain ⟨t_4_0, t_4_1, t_4_2, t_4_3, t_4_4, t_4_5, t_4_6, t_4_7, t_4_8, t_4_9, t_4_10, t_4_11, t_4_12⟩ := z34
        have q35 : t_4_0.toInt = t_3_1.toInt := hz34.1
        have q36 : t_4_1.toInt = t_3_2.toInt := hz34.2.1
        have q37 : 0 ≤ t_4_9.toInt := hz34.2.2.1
        have q38 : t_4_9.toInt ≤ 512 := hz34.2.2.2
        have g39 := zz_rg t_4_0
        have g40 := zz_rg t_4_1
        have g41 := zz_rg t_4_2
        have g42 := zz_rg t_4_3
        have g43 := zz_rg t_4_9
        have g44 := zz_rg t_4_10
        show zz_ok (if p1 < 0 then (some ("java/lang/IndexOutOfBoundsException", 0, t_3_0, t_4_0, t_4_1, t_4_2, t_4_3, t_4_4, t_4_5, t_4_6, t_4_7, t_4_8, t_4_9, t_4_10, t_4_11, t_4_12, t_3_14)) else ((m_X10_size K n5 n6 t_4_9 t_4_10 t_4_11 t_4_12).bind fun ⟨r_6, t_6_0, t_6_1, t_6_2, t_6_3⟩ => if p1 < r_6 then (if p2 = 0 then ((m_X10_placeOf K n5 n6 p1 t_6_0 t_6_1 t_6_2 t_6_3).bind fun ⟨r_10, t_10_0, t_10_1, t_10_2, t_10_3⟩ => some ("", r_10, t_3_0, t_4_0, t_4_1, t_4_2, t_4_3, t_4_4, t_4_5, t_4_6, t_4_7, t_4_8, t_10_0, t_10_1, t_10_2, t_10_3, t_3_14)) else ((m_X10_wordsOf K n5 n6 p1 t_6_0 t_6_1 t_6_2 t_6_3).bind fun ⟨r_9, t_9_0, t_9_1, t_9_2, t_9_3⟩ => some ("", r_9, t_3_0, t_4_0, t_4_1, t_4_2, t_4_3, t_4_4, t_4_5, t_4_6, t_4_7, t_4_8, t_9_0, t_9_1, t_9_2, t_9_3, t_3_14))) else (some ("java/lang/IndexOutOfBoundsException", 0, t_3_0, t_4_0, t_4_1, t_4_2, t_4_3, t_4_4, t_4_5, t_4_6, t_4_7, t_4_8, t_6_0, t_6_1, t_6_2, t_6_3, t_3_14)))) _
        refine zz_ok_ite (fun c45 => ?_) (fun c45 => ?_)
        · have c45 := Int32.lt_iff_toInt_lt.mp c45
          refine zz_ok_some ?_
          show ("java/lang/IndexOutOfBoundsException") ∈ (["", "java/lang/IllegalArgumentException", "java/lang/IllegalStateException", "java/lang/IndexOutOfBoundsException"] : List String) ∧ t_3_0.toInt = s0.toInt ∧ 0 ≤ t_4_0.toInt ∧ t_4_0.toInt ≤ 1024 ∧ 0 ≤ t_4_1.toInt ∧ t_4_1.toInt ≤ 200 ∧ 0 ≤ t_4_9.toInt ∧ t_4_9.toInt ≤ 512
          exact ⟨by decide, by omega, by omega, by omega, by omega, by omega, by omega, by omega⟩
        · have c45 := zz_nlt c45
          refine zz_ok_bind (s_X10_size K hK n5 n6 t_4_9 t_4_10 t_4_11 t_4_12) ?_
          intro z46 hz46
          obtain ⟨r_6, t_6_0, t_6_1, t_6_2, t_6_3⟩ := z46
          have q47 : r_6.toInt = t_4_9.toInt := hz46.1
          have q48 : t_6_0.toInt = t_4_9.toInt := hz46.2
          have g49 := zz_rg r_6
          have g50 := zz_rg t_6_0
          have g51 := zz_rg t_6_1
          show zz_ok (if p1 < r_6 then (if p2 = 0 then ((m_X10_placeOf K n5 n6 p1 t_6_0 t_6_1 t_6_2 t_6_3).bind fun ⟨r_10, t_10_0, t_10_1, t_10_2, t_10_3⟩ => some ("", r_10, t_3_0, t_4_0, t_4_1, t_4_2, t_4_3, t_4_4, t_4_5, t_4_6, t_4_7, t_4_8, t_10_0, t_10_1, t_10_2, t_10_3, t_3_14)) else ((m_X10_wordsOf K n5 n6 p1 t_6_0 t_6_1 t_6_2 t_6_3).bind fun ⟨r_9, t_9_0, t_9_1, t_9_2, t_9_3⟩ => some ("", r_9, t_3_0, t_4_0, t_4_1, t_4_2, t_4_3, t_4_4, t_4_5, t_4_6, t_4_7, t_4_8, t_9_0, t_9_1, t_9_2, t_9_3, t_3_14))) else (some ("java/lang/IndexOutOfBoundsException", 0, t_3_0, t_4_0, t_4_1, t_4_2, t_4_3, t_4_4, t_4_5, t_4_6, t_4_7, t_4_8, t_6_0, t_6_1, t_6_2, t_6_3, t_3_14))) _
          refine zz_ok_ite (fun c52 => ?_) (fun c52 => ?_)
          · have c52 := Int32.lt_iff_toInt_lt.mp c52
            refine zz_ok_ite (fun c53 => ?_) (fun c53 => ?_)
            · have c53 := congrArg Int32.toInt c53
              refine zz_ok_bind (s_X10_placeOf K hK n5 n6 p1 t_6_0 t_6_1 t_6_2 t_6_3 (by omega) (by omega) (by omega) (by omega)) ?_
              intro z54 hz54
              obtain ⟨r_10, t_10_0, t_10_1, t_10_2, t_10_3⟩ := z54
              have q55 : t_10_0.toInt = t_6_0.toInt := hz54
              have g56 := zz_rg r_10
              have g57 := zz_rg t_10_0
              have g58 := zz_rg t_10_1
              show zz_ok (some ("", r_10, t_3_0, t_4_0, t_4_1, t_4_2, t_4_3, t_4_4, t_4_5, t_4_6, t_4_7, t_4_8, t_10_0, t_10_1, t_10_2, t_10_3, t_3_14)) _
              refine zz_ok_some ?_
              show ("") ∈ (["", "java/lang/IllegalArgumentException", "java/lang/IllegalStateException", "java/lang/IndexOutOfBoundsException"] : List String) ∧ t_3_0.toInt = s0.toInt ∧ 0 ≤ t_4_0.toInt ∧ t_4_0.toInt ≤ 1024 ∧ 0 ≤ t_4_1.toInt ∧ t_4_1.toInt ≤ 200 ∧ 0 ≤ t_10_0.toInt ∧ t_10_0.toInt ≤ 512
              exact ⟨by decide, by omega, by omega, by omega, by omega, by omega, by omega, by omega⟩
            · have c53 := zz_neq c53
              refine zz_ok_bind (s_X10_wordsOf K hK n5 n6 p1 t_6_0 t_6_1 t_6_2 t_6_3 (by omega) (by omega) (by omega) (by omega)) ?_
              intro z59 hz59
              obtain ⟨r_9, t_9_0, t_9_1, t_9_2, t_9_3⟩ := z59
              have q60 : t_9_0.toInt = t_6_0.toInt := hz59
              have g61 := zz_rg r_9
              have g62 := zz_rg t_9_0
              have g63 := zz_rg t_9_1
              show zz_ok (some ("", r_9, t_3_0, t_4_0, t_4_1, t_4_2, t_4_3, t_4_4, t_4_5, t_4_6, t_4_7, t_4_8, t_9_0, t_9_1, t_9_2, t_9_3, t_3_14)) _
              refine zz_ok_some ?_
              show ("") ∈ (["", "java/lang/IllegalArgumentException", "java/lang/IllegalStateException", "java/lang/IndexOutOfBoundsException"] : List String) ∧ t_3_0.toInt = s0.toInt ∧ 0 ≤ t_4_0.toInt ∧ t_4_0.toInt ≤ 1024 ∧ 0 ≤ t_4_1.toInt ∧ t_4_1.toInt ≤ 200 ∧ 0 ≤ t_9_0.toInt ∧ t_9_0.toInt ≤ 512
              exact ⟨by decide, by omega, by omega, by omega, by omega, by omega, by omega, by omega⟩
          · have c52 := zz_nlt c52
            refine zz_ok_some ?_
            show ("java/lang/IndexOutOfBoundsException") ∈ (["", "java/lang/IllegalArgumentException", "java/lang/IllegalStateException", "java/lang/IndexOutOfBoundsException"] : List String) ∧ t_3_0.toInt = s0.toInt ∧ 0 ≤ t_4_0.toInt ∧ t_4_0.toInt ≤ 1024 ∧ 0 ≤ t_4_1.toInt ∧ t_4_1.toInt ≤ 200 ∧ 0 ≤ t_6_0.toInt ∧ t_6_0.toInt ≤ 512
            exact ⟨by decide, by omega, by omega, by omega, by omega, by omega, by omega, by omega⟩
      · skip
        refine zz_ok_some ?_
        show e_3 ∈ (["", "java/lang/IllegalArgumentException", "java/lang/IllegalStateException", "java/lang/IndexOutOfBoundsException"] : List String) ∧ t_3_0.toInt = s0.toInt ∧ 0 ≤ t_3_1.toInt ∧ t_3_1.toInt ≤ 1024 ∧ 0 ≤ t_3_2.toInt ∧ t_3_2.toInt ≤ 200 ∧ 0 ≤ t_3_10.toInt ∧ t_3_10.toInt ≤ 512
        exact ⟨zz_mem q17 (by decide), by omega, by omega, by omega, by omega, by omega, by omega, by omega⟩
    · have c14 := zz_nle c14
      refine zz_ok_some ?_
      show ("java/lang/IllegalArgumentException") ∈ (["", "java/lang/IllegalArgumentException", "java/lang/IllegalStateException", "java/lang/IndexOutOfBoundsException"] : List String) ∧ s0.toInt = s0.toInt ∧ 0 ≤ s1.toInt ∧ s1.toInt ≤ 1024 ∧ 0 ≤ s2.toInt ∧ s2.toInt ≤ 200 ∧ 0 ≤ s10.toInt ∧ s10.toInt ≤ 512
      exact ⟨by decide, by omega, by omega, by omega, by omega, by omega, by omega, by omega⟩
set_option maxHeartbeats 4000000 in
theorem s_X11_list_X0 (K : Nat) (hK : 1099511627776 ≤ K) (n0 : Nat) (n1 : Nat) (n2 : Nat) (n3 : Nat) (n4 : Nat) (n5 : Nat) (n6 : Nat) (k0 : Int32) (p1 : Int32) (p2 : Int32) (s0 : Int32) (s1 : Int32) (s2 : Int32) (s3 : Int32) (s4 : Int32) (s5 : Nat → Int32) (s6 : Nat → Int32) (s7 : Nat → Int32) (s8 : Nat → Int32) (s9 : Nat → Int32) (s10 : Int32) (s11 : Int32) (s12 : Nat → Int32) (s13 : Nat → Int32) (s14 : Int32) (a0 : n0 = 1024) (a1 : n1 = 200) (a2 : n2 = 200) (a3 : n3 = 200) (a4 : n4 = 200) (a5 : n5 = 512) (a6 : n6 = 512) (a7 : 0 ≤ s1.toInt) (a8 : s1.toInt ≤ 1024) (a9 : 0 ≤ s2.toInt) (a10 : s2.toInt ≤ 200) (a11 : 0 ≤ s10.toInt) (a12 : s10.toInt ≤ 512) : zz_ok (m_X11_list_X0 K n0 n1 n2 n3 n4 n5 n6 k0 p1 p2 s0 s1 s2 s3 s4 s5 s6 s7 s8 s9 s10 s11 s12 s13 s14) (fun z => z.1 ∈ (["", "java/lang/IllegalArgumentException", "java/lang/IllegalStateException", "java/lang/UnsupportedOperationException", "java/lang/IndexOutOfBoundsException"] : List String) ∧ z.2.2.1.toInt = s0.toInt ∧ 0 ≤ z.2.2.2.1.toInt ∧ z.2.2.2.1.toInt ≤ 1024 ∧ 0 ≤ z.2.2.2.2.1.toInt ∧ z.2.2.2.2.1.toInt ≤ 200 ∧ 0 ≤ z.2.2.2.2.2.2.2.2.2.2.2.2.1.toInt ∧ z.2.2.2.2.2.2.2.2.2.2.2.2.1.toInt ≤ 512) := by
  have g1 := zz_rg k0
  have g2 := zz_rg p1
  have g3 := zz_rg p2
  have g4 := zz_rg s0
  have g5 := zz_rg s1
  have g6 := zz_rg s2
  have g7 := zz_rg s3
  have g8 := zz_rg s4
  have g9 := zz_rg s10
  have g10 := zz_rg s11
  have g11 := zz_rg s14
  unfold m_X11_list_X0
  have l13 : (0 : Int32).toInt = 0 := rfl
  refine zz_ok_ite (fun c12 => ?_) (fun c12 => ?_)
  · have c12 := Int32.lt_iff_toInt_lt.mp c12
    refine zz_ok_some ?_
    show ("java/lang/IllegalArgumentException") ∈ (["", "java/lang/IllegalArgumentException", "java/lang/IllegalStateException", "java/lang/UnsupportedOperationException", "java/lang/IndexOutOfBoundsException"] : List String) ∧ s0.toInt = s0.toInt ∧ 0 ≤ s1.toInt ∧ s1.toInt ≤ 1024 ∧ 0 ≤ s2.toInt ∧ s2.toInt ≤ 200 ∧ 0 ≤ s10.toInt ∧ s10.toInt ≤ 512
    exact ⟨by decide, by omega, by omega, by omega, by omega, by omega, by omega, by omega⟩
  · have c12 := zz_nlt c12
    have l15 : (44 : Int32).toInt = 44 := rfl
    refine zz_ok_ite (fun c14 => ?_) (fun c14 => ?_)
    · have c14 := Int32.lt_iff_toInt_lt.mp c14
      refine zz_ok_bind (s_X11_needRoom_X0 K hK n0 n1 n2 n3 n4 n5 n6 k0 s0 s1 s2 s3 s4 s5 s6 s7 s8 s9 s10 s11 s12 s13 s14 (by omega) (by omega) (by omega) (by omega) (by omega) (by omega) (by omega) (by omega) (by omega) (by omega) (by omega) (by omega) (by omega)) ?_
      intro z16 hz16
      obtain ⟨e_3, t_3_0, t_3_1, t_3_2, t_3_3, t_3_4, t_3_5, t_3_6, t_3_7, t_3_8, t_3_9, t_3_10, t_3_11, t_3_12, t_3_13, t_3_14⟩ := z16
      have q17 : e_3 ∈ (["", "java/lang/IllegalStateException"] : List String) := hz16.1
      have q18 : t_3_0.toInt = s0.toInt := hz16.2.1
      have q19 : 0 ≤ t_3_1.toInt := hz16.2.2.1
      have q20 : t_3_1.toInt ≤ 1024 := hz16.2.2.2.1
      have q21 : 0 ≤ t_3_2.toInt := hz16.2.2.2.2.1
      have q22 : t_3_2.toInt ≤ 200 := hz16.2.2.2.2.2.1
      have q23 : 0 ≤ t_3_10.toInt := hz16.2.2.2.2.2.2.1
      have q24 : t_3_10.toInt ≤ 512 := hz16.2.2.2.2.2.2.2
      have g25 := zz_rg t_3_0
      have g26 := zz_rg t_3_1
      have g27 := zz_rg t_3_2
      have g28 := zz_rg t_3_3
      have g29 := zz_rg t_3_4
      have g30 := zz_rg t_3_10
      have g31 := zz_rg t_3_11
      have g32 := zz_rg t_3_14
      show zz_ok (if e_3 = "" then (if t_3_0 = ((7 : Int32)) then ((m_X1_placeInList K p1 p2).bind fun ⟨r_5, _⟩ => if r_5 = ((-1 : Int32)) then (some ("java/lang/IndexOutOfBoundsException", 0, t_3_0, t_3_1, t_3_2, t_3_3, t_3_4, t_3_5, t_3_6, t_3_7, t_3_8, t_3_9, t_3_10, t_3_11, t_3_12, t_3_13, t_3_14)) else (some ("", r_5, t_3_0, t_3_1, t_3_2, t_3_3, t_3_4, t_3_5, t_3_6, t_3_7, t_3_8, t_3_9, t_3_10, t_3_11, t_3_12, t_3_13, t_3_14))) else (some ("java/lang/UnsupportedOperationException", 0, t_3_0, t_3_1, t_3_2, t_3_3, t_3_4, t_3_5, t_3_6, t_3_7, t_3_8, t_3_9, t_3_10, t_3_11, t_3_12, t_3_13, t_3_14))) else (some (e_3, 0, t_3_0, t_3_1, t_3_2, t_3_3, t_3_4, t_3_5, t_3_6, t_3_7, t_3_8, t_3_9, t_3_10, t_3_11, t_3_12, t_3_13, t_3_14))) _
      refine zz_ok_ite (fun c33 => ?_) (fun c33 => ?_)
      · skip
        have l35 : (7 : Int32).toInt = 7 := rfl
        refine zz_ok_ite (fun c34 => ?_) (fun c34 => ?_)
        · have c34 := congrArg Int32.toInt c34
          refine zz_ok_bind (s_X1_placeInList K hK p1 p2) ?_
          intro z36 hz36
          obtain ⟨r_5, _⟩ := z36
          have g37 := zz_rg r_5
          show zz_ok (if r_5 = ((-1 : Int32)) then (some ("java/lang/IndexOutOfBoundsException", 0, t_3_0, t_3_1, t_3_2, t_3_3, t_3_4, t_3_5, t_3_6, t_3_7, t_3_8, t_3_9, t_3_10, t_3_11, t_3_12, t_3_13, t_3_14)) else (some ("", r_5, t_3_0, t_3_1, t_3_2, t_3_3, t_3_4, t_3_5, t_3_6, t_3_7, t_3_8, t_3_9, t_3_10, t_3_11, t_3_12, t_3_13, t_3_14))) _
          have l39 : (-1 : Int32).toInt = -1 := rfl
          refine zz_ok_ite (fun c38 => ?_) (fun c38 => ?_)
          · have c38 := congrArg Int32.toInt c38
            refine zz_ok_some ?_
            show ("java/lang/IndexOutOfBoundsException") ∈ (["", "java/lang/IllegalArgumentException", "java/lang/IllegalStateException", "java/lang/UnsupportedOperationException", "java/lang/IndexOutOfBoundsException"] : List String) ∧ t_3_0.toInt = s0.toInt ∧ 0 ≤ t_3_1.toInt ∧ t_3_1.toInt ≤ 1024 ∧ 0 ≤ t_3_2.toInt ∧ t_3_2.toInt ≤ 200 ∧ 0 ≤ t_3_10.toInt ∧ t_3_10.toInt ≤ 512
            exact ⟨by decide, by omega, by omega, by omega, by omega, by omega, by omega, by omega⟩
          · have c38 := zz_neq c38
            refine zz_ok_some ?_
            show ("") ∈ (["", "java/lang/IllegalArgumentException", "java/lang/IllegalStateException", "java/lang/UnsupportedOperationException", "java/lang/IndexOutOfBoundsException"] : List String) ∧ t_3_0.toInt = s0.toInt ∧ 0 ≤ t_3_1.toInt ∧ t_3_1.toInt ≤ 1024 ∧ 0 ≤ t_3_2.toInt ∧ t_3_2.toInt ≤ 200 ∧ 0 ≤ t_3_10.toInt ∧ t_3_10.toInt ≤ 512
            exact ⟨by decide, by omega, by omega, by omega, by omega, by omega, by omega, by omega⟩
        · have c34 := zz_neq c34
          refine zz_ok_some ?_
          show ("java/lang/UnsupportedOperationException") ∈ (["", "java/lang/IllegalArgumentException", "java/lang/IllegalStateException", "java/lang/UnsupportedOperationException", "java/lang/IndexOutOfBoundsException"] : List String) ∧ t_3_0.toInt = s0.toInt ∧ 0 ≤ t_3_1.toInt ∧ t_3_1.toInt ≤ 1024 ∧ 0 ≤ t_3_2.toInt ∧ t_3_2.toInt ≤ 200 ∧ 0 ≤ t_3_10.toInt ∧ t_3_10.toInt ≤ 512
          exact ⟨by decide, by omega, by omega, by omega, by omega, by omega, by omega, by omega⟩
      · skip
        refine zz_ok_some ?_
        show e_3 ∈ (["", "java/lang/IllegalArgumentException", "java/lang/IllegalStateException", "java/lang/UnsupportedOperationException", "java/lang/IndexOutOfBoundsException"] : List String) ∧ t_3_0.toInt = s0.toInt ∧ 0 ≤ t_3_1.toInt ∧ t_3_1.toInt ≤ 1024 ∧ 0 ≤ t_3_2.toInt ∧ t_3_2.toInt ≤ 200 ∧ 0 ≤ t_3_10.toInt ∧ t_3_10.toInt ≤ 512
        exact ⟨zz_mem q17 (by decide), by omega, by omega, by omega, by omega, by omega, by omega, by omega⟩
    · have c14 := zz_nlt c14
      refine zz_ok_some ?_
      show ("java/lang/IllegalArgumentException") ∈ (["", "java/lang/IllegalArgumentException", "java/lang/IllegalStateException", "java/lang/UnsupportedOperationException", "java/lang/IndexOutOfBoundsException"] : List String) ∧ s0.toInt = s0.toInt ∧ 0 ≤ s1.toInt ∧ s1.toInt ≤ 1024 ∧ 0 ≤ s2.toInt ∧ s2.toInt ≤ 200 ∧ 0 ≤ s10.toInt ∧ s10.toInt ≤ 512
      exact ⟨by decide, by omega, by omega, by omega, by omega, by omega, by omega, by omega⟩
set_option maxHeartbeats 4000000 in
theorem s_X11_count_X0 (K : Nat) (hK : 1099511627776 ≤ K) (n0 : Nat) (n1 : Nat) (n2 : Nat) (n3 : Nat) (n4 : Nat) (n5 : Nat) (n6 : Nat) (k0 : Int32) (p1 : Int32) (s0 : Int32) (s1 : Int32) (s2 : Int32) (s3 : Int32) (s4 : Int32) (s5 : Nat → Int32) (s6 : Nat → Int32) (s7 : Nat → Int32) (s8 : Nat → Int32) (s9 : Nat → Int32) (s10 : Int32) (s11 : Int32) (s12 : Nat → Int32) (s13 : Nat → Int32) (s14 : Int32) (a0 : n0 = 1024) (a1 : n1 = 200) (a2 : n2 = 200) (a3 : n3 = 200) (a4 : n4 = 200) (a5 : n5 = 512) (a6 : n6 = 512) (a7 : 0 ≤ s1.toInt) (a8 : s1.toInt ≤ 1024) (a9 : 0 ≤ s2.toInt) (a10 : s2.toInt ≤ 200) (a11 : 0 ≤ s10.toInt) (a12 : s10.toInt ≤ 512) (a13 : p1.toInt ≠ 12) : zz_ok (m_X11_count_X0 K n0 n1 n2 n3 n4 n5 n6 k0 p1 s0 s1 s2 s3 s4 s5 s6 s7 s8 s9 s10 s11 s12 s13 s14) (fun z => z.1 ∈ (["", "java/lang/IllegalArgumentException"] : List String) ∧ z.2.2.1.toInt = s0.toInt ∧ 0 ≤ z.2.2.2.1.toInt ∧ z.2.2.2.1.toInt ≤ 1024 ∧ 0 ≤ z.2.2.2.2.1.toInt ∧ z.2.2.2.2.1.toInt ≤ 200 ∧ 0 ≤ z.2.2.2.2.2.2.2.2.2.2.2.2.1.toInt ∧ z.2.2.2.2.2.2.2.2.2.2.2.2.1.toInt ≤ 512) := by
  have g1 := zz_rg k0
  have g2 := zz_rg p1
  have g3 := zz_rg s0
  have g4 := zz_rg s1
  have g5 := zz_rg s2
  have g6 := zz_rg s3
  have g7 := zz_rg s4
  have g8 := zz_rg s10
  have g9 := zz_rg s11
  have g10 := zz_rg s14
  unfold m_X11_count_X0
  have l12 : (0 : Int32).toInt = 0 := rfl
  refine zz_ok_ite (fun c11 => ?_) (fun c11 => ?_)
  · have c11 := Int32.lt_iff_toInt_lt.mp c11
    refine zz_ok_some ?_
    show ("java/lang/IllegalArgumentException") ∈ (["", "java/lang/IllegalArgumentException"] : List String) ∧ s0.toInt = s0.toInt ∧ 0 ≤ s1.toInt ∧ s1.toInt ≤ 1024 ∧ 0 ≤ s2.toInt ∧ s2.toInt ≤ 200 ∧ 0 ≤ s10.toInt ∧ s10.toInt ≤ 512
    exact ⟨by decide, by omega, by omega, by omega, by omega, by omega, by omega, by omega⟩
  · have c11 := zz_nlt c11
    have l14 : (13 : Int32).toInt = 13 := rfl
    refine zz_ok_ite (fun c13 => ?_) (fun c13 => ?_)
    · have c13 := Int32.lt_iff_toInt_lt.mp c13
      refine zz_ok_ite (fun c15 => ?_) (fun c15 => ?_)
      · have c15 := congrArg Int32.toInt c15
        refine zz_ok_some ?_
        show ("") ∈ (["", "java/lang/IllegalArgumentException"] : List String) ∧ s0.toInt = s0.toInt ∧ 0 ≤ s1.toInt ∧ s1.toInt ≤ 1024 ∧ 0 ≤ s2.toInt ∧ s2.toInt ≤ 200 ∧ 0 ≤ s10.toInt ∧ s10.toInt ≤ 512
        exact ⟨by decide, by omega, by omega, by omega, by omega, by omega, by omega, by omega⟩
      · have c15 := zz_neq c15
        have l17 : (12 : Int32).toInt = 12 := rfl
        refine zz_ok_ite (fun c16 => ?_) (fun c16 => ?_)
        · have c16 := congrArg Int32.toInt c16
          exfalso
          omega
        · have c16 := zz_neq c16
          have l19 : (8 : Int32).toInt = 8 := rfl
          refine zz_ok_ite (fun c18 => ?_) (fun c18 => ?_)
          · have c18 := Int32.lt_iff_toInt_lt.mp c18
            refine zz_ok_bind (s_X11_countInForm_X0 K hK n0 n1 n2 n3 n4 n5 n6 k0 p1 s0 s1 s2 s3 s4 s5 s6 s7 s8 s9 s10 s11 s12 s13 s14 (by omega) (by omega) (by omega) (by omega) (by omega) (by omega) (by omega) (by omega) (by omega) (by omega) (by omega) (by omega) (by omega)) ?_
            intro z20 hz20
            obtain ⟨e_6, r_6, t_6_0, t_6_1, t_6_2, t_6_3, t_6_4, t_6_5, t_6_6, t_6_7, t_6_8, t_6_9, t_6_10, t_6_11, t_6_12, t_6_13, t_6_14⟩ := z20
            have q21 : e_6 ∈ ([""] : List String) := hz20.1
            have q22 : t_6_0.toInt = s0.toInt := hz20.2.1
            have q23 : 0 ≤ t_6_1.toInt := hz20.2.2.1
            have q24 : t_6_1.toInt ≤ 1024 := hz20.2.2.2.1
            have q25 : 0 ≤ t_6_2.toInt := hz20.2.2.2.2.1
            have q26 : t_6_2.toInt ≤ 200 := hz20.2.2.2.2.2.1
            have q27 : 0 ≤ t_6_10.toInt := hz20.2.2.2.2.2.2.1
            have q28 : t_6_10.toInt ≤ 512 := hz20.2.2.2.2.2.2.2
            have g29 := zz_rg r_6
            have g30 := zz_rg t_6_0
            have g31 := zz_rg t_6_1
            have g32 := zz_rg t_6_2
            have g33 := zz_rg t_6_3
            have g34 := zz_rg t_6_4
            have g35 := zz_rg t_6_10
            have g36 := zz_rg t_6_11
            have g37 := zz_rg t_6_14
            show zz_ok (if e_6 = "" then (some ("", r_6, t_6_0, t_6_1, t_6_2, t_6_3, t_6_4, t_6_5, t_6_6, t_6_7, t_6_8, t_6_9, t_6_10, t_6_11, t_6_12, t_6_13, t_6_14)) else (some (e_6, 0, t_6_0, t_6_1, t_6_2, t_6_3, t_6_4, t_6_5, t_6_6, t_6_7, t_6_8, t_6_9, t_6_10, t_6_11, t_6_12, t_6_13, t_6_14))) _
            refine zz_ok_ite (fun c38 => ?_) (fun c38 => ?_)
            · skip
              refine zz_ok_some ?_
              show ("") ∈ (["", "java/lang/IllegalArgumentException"] : List String) ∧ t_6_0.toInt = s0.toInt ∧ 0 ≤ t_6_1.toInt ∧ t_6_1.toInt ≤ 1024 ∧ 0 ≤ t_6_2.toInt ∧ t_6_2.toInt ≤ 200 ∧ 0 ≤ t_6_10.toInt ∧ t_6_10.toInt ≤ 512
              exact ⟨by decide, by omega, by omega, by omega, by omega, by omega, by omega, by omega⟩
            · skip
              refine zz_ok_some ?_
              show e_6 ∈ (["", "java/lang/IllegalArgumentException"] : List String) ∧ t_6_0.toInt = s0.toInt ∧ 0 ≤ t_6_1.toInt ∧ t_6_1.toInt ≤ 1024 ∧ 0 ≤ t_6_2.toInt ∧ t_6_2.toInt ≤ 200 ∧ 0 ≤ t_6_10.toInt ∧ t_6_10.toInt ≤ 512
              exact ⟨zz_mem q21 (by decide), by omega, by omega, by omega, by omega, by omega, by omega, by omega⟩
          · have c18 := zz_nlt c18
            refine zz_ok_bind (s_X11_countInRoom_X0 K hK n0 n1 n2 n3 n4 n5 n6 k0 p1 s0 s1 s2 s3 s4 s5 s6 s7 s8 s9 s10 s11 s12 s13 s14 (by omega) (by omega) (by omega) (by omega) (by omega) (by omega) (by omega) (by omega) (by omega) (by omega) (by omega) (by omega) (by omega)) ?_
            intro z39 hz39
            obtain ⟨e_7, r_7, t_7_0, t_7_1, t_7_2, t_7_3, t_7_4, t_7_5, t_7_6, t_7_7, t_7_8, t_7_9, t_7_10, t_7_11, t_7_12, t_7_13, t_7_14⟩ := z39
            have q40 : e_7 ∈ ([""] : List String) := hz39.1
            have q41 : t_7_0.toInt = s0.toInt := hz39.2.1
            have q42 : 0 ≤ t_7_1.toInt := hz39.2.2.1
            have q43 : t_7_1.toInt ≤ 1024 := hz39.2.2.2.1
            have q44 : 0 ≤ t_7_2.toInt := hz39.2.2.2.2.1
            have q45 : t_7_2.toInt ≤ 200 := hz39.2.2.2.2.2.1
            have q46 : 0 ≤ t_7_10.toInt := hz39.2.2.2.2.2.2.1
            have q47 : t_7_10.toInt ≤ 512 := hz39.2.2.2.2.2.2.2
            have g48 := zz_rg r_7
            have g49 := zz_rg t_7_0
            have g50 := zz_rg t_7_1
            have g51 := zz_rg t_7_2
            have g52 := zz_rg t_7_3
            have g53 := zz_rg t_7_4
            have g54 := zz_rg t_7_10
            have g55 := zz_rg t_7_11
            have g56 := zz_rg t_7_14
            show zz_ok (if e_7 = "" then (some ("", r_7, t_7_0, t_7_1, t_7_2, t_7_3, t_7_4, t_7_5, t_7_6, t_7_7, t_7_8, t_7_9, t_7_10, t_7_11, t_7_12, t_7_13, t_7_14)) else (some (e_7, 0, t_7_0, t_7_1, t_7_2, t_7_3, t_7_4, t_7_5, t_7_6, t_7_7, t_7_8, t_7_9, t_7_10, t_7_11, t_7_12, t_7_13, t_7_14))) _
            refine zz_ok_ite (fun c57 => ?_) (fun c57 => ?_)
            · skip
              refine zz_ok_some ?_
              show ("") ∈ (["", "java/lang/IllegalArgumentException"] : List String) ∧ t_7_0.toInt = s0.toInt ∧ 0 ≤ t_7_1.toInt ∧ t_7_1.toInt ≤ 1024 ∧ 0 ≤ t_7_2.toInt ∧ t_7_2.toInt ≤ 200 ∧ 0 ≤ t_7_10.toInt ∧ t_7_10.toInt ≤ 512
              exact ⟨by decide, by omega, by omega, by omega, by omega, by omega, by omega, by omega⟩
            · skip
              refine zz_ok_some ?_
              show e_7 ∈ (["", "java/lang/IllegalArgumentException"] : List String) ∧ t_7_0.toInt = s0.toInt ∧ 0 ≤ t_7_1.toInt ∧ t_7_1.toInt ≤ 1024 ∧ 0 ≤ t_7_2.toInt ∧ t_7_2.toInt ≤ 200 ∧ 0 ≤ t_7_10.toInt ∧ t_7_10.toInt ≤ 512
              exact ⟨zz_mem q40 (by decide), by omega, by omega, by omega, by omega, by omega, by omega, by omega⟩
    · have c13 := zz_nlt c13
      refine zz_ok_some ?_
      show ("java/lang/IllegalArgumentException") ∈ (["", "java/lang/IllegalArgumentException"] : List String) ∧ s0.toInt = s0.toInt ∧ 0 ≤ s1.toInt ∧ s1.toInt ≤ 1024 ∧ 0 ≤ s2.toInt ∧ s2.toInt ≤ 200 ∧ 0 ≤ s10.toInt ∧ s10.toInt ≤ 512
      exact ⟨by decide, by omega, by omega, by omega, by omega, by omega, by omega, by omega⟩

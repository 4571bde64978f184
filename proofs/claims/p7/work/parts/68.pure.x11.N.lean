set_option maxHeartbeats 4000000 in
theorem s_X11_needRoom_N (K : Nat) (hK : 1099511627776 ≤ K) (n0 : Nat) (n1 : Nat) (n2 : Nat) (n3 : Nat) (n4 : Nat) (n5 : Nat) (n6 : Nat) (s0 : Int32) (s1 : Int32) (s2 : Int32) (s3 : Int32) (s4 : Int32) (s5 : Nat → Int32) (s6 : Nat → Int32) (s7 : Nat → Int32) (s8 : Nat → Int32) (s9 : Nat → Int32) (s10 : Int32) (s11 : Int32) (s12 : Nat → Int32) (s13 : Nat → Int32) (a0 : n0 = 1024) (a1 : n1 = 200) (a2 : n2 = 200) (a3 : n3 = 200) (a4 : n4 = 200) (a5 : n5 = 512) (a6 : n6 = 512) (a7 : 0 ≤ s1.toInt) (a8 : s1.toInt ≤ 1024) (a9 : 0 ≤ s2.toInt) (a10 : s2.toInt ≤ 200) (a11 : 0 ≤ s10.toInt) (a12 : s10.toInt ≤ 512) : zz_ok (m_X11_needRoom_N K n0 n1 n2 n3 n4 n5 n6 s0 s1 s2 s3 s4 s5 s6 s7 s8 s9 s10 s11 s12 s13) (fun z => z.1 ∈ (["java/lang/IllegalStateException"] : List String) ∧ z.2.1.toInt = s0.toInt ∧ 0 ≤ z.2.2.1.toInt ∧ z.2.2.1.toInt ≤ 1024 ∧ 0 ≤ z.2.2.2.1.toInt ∧ z.2.2.2.1.toInt ≤ 200 ∧ 0 ≤ z.2.2.2.2.2.2.2.2.2.2.2.1.toInt ∧ z.2.2.2.2.2.2.2.2.2.2.2.1.toInt ≤ 512) := by
  have g1 := zz_rg s0
  have g2 := zz_rg s1
  have g3 := zz_rg s2
  have g4 := zz_rg s3
  have g5 := zz_rg s4
  have g6 := zz_rg s10
  have g7 := zz_rg s11
  unfold m_X11_needRoom_N
  refine zz_ok_some ?_
  show ("java/lang/IllegalStateException") ∈ (["java/lang/IllegalStateException"] : List String) ∧ s0.toInt = s0.toInt ∧ 0 ≤ s1.toInt ∧ s1.toInt ≤ 1024 ∧ 0 ≤ s2.toInt ∧ s2.toInt ≤ 200 ∧ 0 ≤ s10.toInt ∧ s10.toInt ≤ 512
  exact ⟨by decide, by omega, by omega, by omega, by omega, by omega, by omega, by omega⟩
set_option maxHeartbeats 4000000 in
theorem s_X11_give_N (K : Nat) (hK : 1099511627776 ≤ K) (n0 : Nat) (n1 : Nat) (n2 : Nat) (n3 : Nat) (n4 : Nat) (n5 : Nat) (n6 : Nat) (p1 : Int32) (s0 : Int32) (s1 : Int32) (s2 : Int32) (s3 : Int32) (s4 : Int32) (s5 : Nat → Int32) (s6 : Nat → Int32) (s7 : Nat → Int32) (s8 : Nat → Int32) (s9 : Nat → Int32) (s10 : Int32) (s11 : Int32) (s12 : Nat → Int32) (s13 : Nat → Int32) (a0 : n0 = 1024) (a1 : n1 = 200) (a2 : n2 = 200) (a3 : n3 = 200) (a4 : n4 = 200) (a5 : n5 = 512) (a6 : n6 = 512) (a7 : 0 ≤ s1.toInt) (a8 : s1.toInt ≤ 1024) (a9 : 0 ≤ s2.toInt) (a10 : s2.toInt ≤ 200) (a11 : 0 ≤ s10.toInt) (a12 : s10.toInt ≤ 512) : zz_ok (m_X11_give_N K n0 n1 n2 n3 n4 n5 n6 p1 s0 s1 s2 s3 s4 s5 s6 s7 s8 s9 s10 s11 s12 s13) (fun z => z.1 ∈ (["", "java/lang/IllegalArgumentException", "java/lang/IllegalStateException", "java/lang/IndexOutOfBoundsException"] : List String) ∧ z.2.2.1.toInt = s0.toInt ∧ 0 ≤ z.2.2.2.1.toInt ∧ z.2.2.2.1.toInt ≤ 1024 ∧ 0 ≤ z.2.2.2.2.1.toInt ∧ z.2.2.2.2.1.toInt ≤ 200 ∧ 0 ≤ z.2.2.2.2.2.2.2.2.2.2.2.2.1.toInt ∧ z.2.2.2.2.2.2.2.2.2.2.2.2.1.toInt ≤ 512) := by
  have g1 := zz_rg p1
  have g2 := zz_rg s0
  have g3 := zz_rg s1
  have g4 := zz_rg s2
  have g5 := zz_rg s3
  have g6 := zz_rg s4
  have g7 := zz_rg s10
  have g8 := zz_rg s11
  unfold m_X11_give_N
  have l10 : (1 : Int32).toInt = 1 := rfl
  refine zz_ok_ite (fun c9 => ?_) (fun c9 => ?_)
  · have c9 := Int32.lt_iff_toInt_lt.mp c9
    have l11 : (0 : Int32).toInt = 0 := rfl
    refine zz_ok_some ?_
    show ("java/lang/IllegalArgumentException") ∈ (["", "java/lang/IllegalArgumentException", "java/lang/IllegalStateException", "java/lang/IndexOutOfBoundsException"] : List String) ∧ s0.toInt = s0.toInt ∧ 0 ≤ s1.toInt ∧ s1.toInt ≤ 1024 ∧ 0 ≤ s2.toInt ∧ s2.toInt ≤ 200 ∧ 0 ≤ s10.toInt ∧ s10.toInt ≤ 512
    exact ⟨by decide, by omega, by omega, by omega, by omega, by omega, by omega, by omega⟩
  · have c9 := zz_nlt c9
    have l13 : (1024 : Int32).toInt = 1024 := rfl
    refine zz_ok_ite (fun c12 => ?_) (fun c12 => ?_)
    · have c12 := Int32.le_iff_toInt_le.mp c12
      refine zz_ok_bind (s_X11_needRoom_N K hK n0 n1 n2 n3 n4 n5 n6 s0 s1 s2 s3 s4 s5 s6 s7 s8 s9 s10 s11 s12 s13 (by omega) (by omega) (by omega) (by omega) (by omega) (by omega) (by omega) (by omega) (by omega) (by omega) (by omega) (by omega) (by omega)) ?_
      intro z14 hz14
      obtain ⟨e_3, t_3_0, t_3_1, t_3_2, t_3_3, t_3_4, t_3_5, t_3_6, t_3_7, t_3_8, t_3_9, t_3_10, t_3_11, t_3_12, t_3_13⟩ := z14
      have q15 : e_3 ∈ (["java/lang/IllegalStateException"] : List String) := hz14.1
      have q16 : t_3_0.toInt = s0.toInt := hz14.2.1
      have q17 : 0 ≤ t_3_1.toInt := hz14.2.2.1
      have q18 : t_3_1.toInt ≤ 1024 := hz14.2.2.2.1
      have q19 : 0 ≤ t_3_2.toInt := hz14.2.2.2.2.1
      have q20 : t_3_2.toInt ≤ 200 := hz14.2.2.2.2.2.1
      have q21 : 0 ≤ t_3_10.toInt := hz14.2.2.2.2.2.2.1
      have q22 : t_3_10.toInt ≤ 512 := hz14.2.2.2.2.2.2.2
      have g23 := zz_rg t_3_0
      have g24 := zz_rg t_3_1
      have g25 := zz_rg t_3_2
      have g26 := zz_rg t_3_3
      have g27 := zz_rg t_3_4
      have g28 := zz_rg t_3_10
      have g29 := zz_rg t_3_11
      show zz_ok (if ¬ e_3 = "" then (some (e_3, 0, t_3_0, t_3_1, t_3_2, t_3_3, t_3_4, t_3_5, t_3_6, t_3_7, t_3_8, t_3_9, t_3_10, t_3_11, t_3_12, t_3_13)) else none) _
      refine zz_ok_chk (zz_nemp q15 (by decide)) ?_
      have l30 : (0 : Int32).toInt = 0 := rfl
      refine zz_ok_some ?_
      show e_3 ∈ (["", "java/lang/IllegalArgumentException", "java/lang/IllegalStateException", "java/lang/IndexOutOfBoundsException"] : List String) ∧ t_3_0.toInt = s0.toInt ∧ 0 ≤ t_3_1.toInt ∧ t_3_1.toInt ≤ 1024 ∧ 0 ≤ t_3_2.toInt ∧ t_3_2.toInt ≤ 200 ∧ 0 ≤ t_3_10.toInt ∧ t_3_10.toInt ≤ 512
      exact ⟨zz_mem q15 (by decide), by omega, by omega, by omega, by omega, by omega, by omega, by omega⟩
    · have c12 := zz_nle c12
      have l31 : (0 : Int32).toInt = 0 := rfl
      refine zz_ok_some ?_
      show ("java/lang/IllegalArgumentException") ∈ (["", "java/lang/IllegalArgumentException", "java/lang/IllegalStateException", "java/lang/IndexOutOfBoundsException"] : List String) ∧ s0.toInt = s0.toInt ∧ 0 ≤ s1.toInt ∧ s1.toInt ≤ 1024 ∧ 0 ≤ s2.toInt ∧ s2.toInt ≤ 200 ∧ 0 ≤ s10.toInt ∧ s10.toInt ≤ 512
      exact ⟨by decide, by omega, by omega, by omega, by omega, by omega, by omega, by omega⟩
set_option maxHeartbeats 4000000 in
theorem s_X11_back_N (K : Nat) (hK : 1099511627776 ≤ K) (n0 : Nat) (n1 : Nat) (n2 : Nat) (n3 : Nat) (n4 : Nat) (n5 : Nat) (n6 : Nat) (p1 : Int32) (s0 : Int32) (s1 : Int32) (s2 : Int32) (s3 : Int32) (s4 : Int32) (s5 : Nat → Int32) (s6 : Nat → Int32) (s7 : Nat → Int32) (s8 : Nat → Int32) (s9 : Nat → Int32) (s10 : Int32) (s11 : Int32) (s12 : Nat → Int32) (s13 : Nat → Int32) (a0 : n0 = 1024) (a1 : n1 = 200) (a2 : n2 = 200) (a3 : n3 = 200) (a4 : n4 = 200) (a5 : n5 = 512) (a6 : n6 = 512) (a7 : 0 ≤ s1.toInt) (a8 : s1.toInt ≤ 1024) (a9 : 0 ≤ s2.toInt) (a10 : s2.toInt ≤ 200) (a11 : 0 ≤ s10.toInt) (a12 : s10.toInt ≤ 512) : zz_ok (m_X11_back_N K n0 n1 n2 n3 n4 n5 n6 p1 s0 s1 s2 s3 s4 s5 s6 s7 s8 s9 s10 s11 s12 s13) (fun z => z.1 ∈ (["", "java/lang/IllegalStateException", "java/util/NoSuchElementException"] : List String) ∧ z.2.2.1.toInt = s0.toInt ∧ 0 ≤ z.2.2.2.1.toInt ∧ z.2.2.2.1.toInt ≤ 1024 ∧ 0 ≤ z.2.2.2.2.1.toInt ∧ z.2.2.2.2.1.toInt ≤ 200 ∧ 0 ≤ z.2.2.2.2.2.2.2.2.2.2.2.2.1.toInt ∧ z.2.2.2.2.2.2.2.2.2.2.2.2.1.toInt ≤ 512) := by
  have g1 := zz_rg p1
  have g2 := zz_rg s0
  have g3 := zz_rg s1
  have g4 := zz_rg s2
  have g5 := zz_rg s3
  have g6 := zz_rg s4
  have g7 := zz_rg s10
  have g8 := zz_rg s11
  unfold m_X11_back_N
  refine zz_ok_bind (s_X11_needRoom_N K hK n0 n1 n2 n3 n4 n5 n6 s0 s1 s2 s3 s4 s5 s6 s7 s8 s9 s10 s11 s12 s13 (by omega) (by omega) (by omega) (by omega) (by omega) (by omega) (by omega) (by omega) (by omega) (by omega) (by omega) (by omega) (by omega)) ?_
  intro z9 hz9
  obtain ⟨e_1, t_1_0, t_1_1, t_1_2, t_1_3, t_1_4, t_1_5, t_1_6, t_1_7, t_1_8, t_1_9, t_1_10, t_1_11, t_1_12, t_1_13⟩ := z9
  have q10 : e_1 ∈ (["java/lang/IllegalStateException"] : List String) := hz9.1
  have q11 : t_1_0.toInt = s0.toInt := hz9.2.1
  have q12 : 0 ≤ t_1_1.toInt := hz9.2.2.1
  have q13 : t_1_1.toInt ≤ 1024 := hz9.2.2.2.1
  have q14 : 0 ≤ t_1_2.toInt := hz9.2.2.2.2.1
  have q15 : t_1_2.toInt ≤ 200 := hz9.2.2.2.2.2.1
  have q16 : 0 ≤ t_1_10.toInt := hz9.2.2.2.2.2.2.1
  have q17 : t_1_10.toInt ≤ 512 := hz9.2.2.2.2.2.2.2
  have g18 := zz_rg t_1_0
  have g19 := zz_rg t_1_1
  have g20 := zz_rg t_1_2
  have g21 := zz_rg t_1_3
  have g22 := zz_rg t_1_4
  have g23 := zz_rg t_1_10
  have g24 := zz_rg t_1_11
  show zz_ok (if ¬ e_1 = "" then (some (e_1, 0, t_1_0, t_1_1, t_1_2, t_1_3, t_1_4, t_1_5, t_1_6, t_1_7, t_1_8, t_1_9, t_1_10, t_1_11, t_1_12, t_1_13)) else none) _
  refine zz_ok_chk (zz_nemp q10 (by decide)) ?_
  have l25 : (0 : Int32).toInt = 0 := rfl
  refine zz_ok_some ?_
  show e_1 ∈ (["", "java/lang/IllegalStateException", "java/util/NoSuchElementException"] : List String) ∧ t_1_0.toInt = s0.toInt ∧ 0 ≤ t_1_1.toInt ∧ t_1_1.toInt ≤ 1024 ∧ 0 ≤ t_1_2.toInt ∧ t_1_2.toInt ≤ 200 ∧ 0 ≤ t_1_10.toInt ∧ t_1_10.toInt ≤ 512
  exact ⟨zz_mem q10 (by decide), by omega, by omega, by omega, by omega, by omega, by omega, by omega⟩
set_option maxHeartbeats 4000000 in
theorem s_X11_about_N (K : Nat) (hK : 1099511627776 ≤ K) (n0 : Nat) (n1 : Nat) (n2 : Nat) (n3 : Nat) (n4 : Nat) (n5 : Nat) (n6 : Nat) (p1 : Int32) (p2 : Int32) (s0 : Int32) (s1 : Int32) (s2 : Int32) (s3 : Int32) (s4 : Int32) (s5 : Nat → Int32) (s6 : Nat → Int32) (s7 : Nat → Int32) (s8 : Nat → Int32) (s9 : Nat → Int32) (s10 : Int32) (s11 : Int32) (s12 : Nat → Int32) (s13 : Nat → Int32) (a0 : n0 = 1024) (a1 : n1 = 200) (a2 : n2 = 200) (a3 : n3 = 200) (a4 : n4 = 200) (a5 : n5 = 512) (a6 : n6 = 512) (a7 : 0 ≤ s1.toInt) (a8 : s1.toInt ≤ 1024) (a9 : 0 ≤ s2.toInt) (a10 : s2.toInt ≤ 200) (a11 : 0 ≤ s10.toInt) (a12 : s10.toInt ≤ 512) : zz_ok (m_X11_about_N K n0 n1 n2 n3 n4 n5 n6 p1 p2 s0 s1 s2 s3 s4 s5 s6 s7 s8 s9 s10 s11 s12 s13) (fun z => z.1 ∈ (["", "java/lang/IllegalArgumentException", "java/lang/IllegalStateException", "java/util/NoSuchElementException"] : List String) ∧ z.2.2.1.toInt = s0.toInt ∧ 0 ≤ z.2.2.2.1.toInt ∧ z.2.2.2.1.toInt ≤ 1024 ∧ 0 ≤ z.2.2.2.2.1.toInt ∧ z.2.2.2.2.1.toInt ≤ 200 ∧ 0 ≤ z.2.2.2.2.2.2.2.2.2.2.2.2.1.toInt ∧ z.2.2.2.2.2.2.2.2.2.2.2.2.1.toInt ≤ 512) := by
  have g1 := zz_rg p1
  have g2 := zz_rg p2
  have g3 := zz_rg s0
  have g4 := zz_rg s1
  have g5 := zz_rg s2
  have g6 := zz_rg s3
  have g7 := zz_rg s4
  have g8 := zz_rg s10
  have g9 := zz_rg s11
  unfold m_X11_about_N
  have l11 : (0 : Int32).toInt = 0 := rfl
  refine zz_ok_ite (fun c10 => ?_) (fun c10 => ?_)
  · have c10 := Int32.lt_iff_toInt_lt.mp c10
    refine zz_ok_some ?_
    show ("java/lang/IllegalArgumentException") ∈ (["", "java/lang/IllegalArgumentException", "java/lang/IllegalStateException", "java/util/NoSuchElementException"] : List String) ∧ s0.toInt = s0.toInt ∧ 0 ≤ s1.toInt ∧ s1.toInt ≤ 1024 ∧ 0 ≤ s2.toInt ∧ s2.toInt ≤ 200 ∧ 0 ≤ s10.toInt ∧ s10.toInt ≤ 512
    exact ⟨by decide, by omega, by omega, by omega, by omega, by omega, by omega, by omega⟩
  · have c10 := zz_nlt c10
    have l13 : (2 : Int32).toInt = 2 := rfl
    refine zz_ok_ite (fun c12 => ?_) (fun c12 => ?_)
    · have c12 := Int32.le_iff_toInt_le.mp c12
      refine zz_ok_bind (s_X11_needRoom_N K hK n0 n1 n2 n3 n4 n5 n6 s0 s1 s2 s3 s4 s5 s6 s7 s8 s9 s10 s11 s12 s13 (by omega) (by omega) (by omega) (by omega) (by omega) (by omega) (by omega) (by omega) (by omega) (by omega) (by omega) (by omega) (by omega)) ?_
      intro z14 hz14
      obtain ⟨e_3, t_3_0, t_3_1, t_3_2, t_3_3, t_3_4, t_3_5, t_3_6, t_3_7, t_3_8, t_3_9, t_3_10, t_3_11, t_3_12, t_3_13⟩ := z14
      have q15 : e_3 ∈ (["java/lang/IllegalStateException"] : List String) := hz14.1
      have q16 : t_3_0.toInt = s0.toInt := hz14.2.1
      have q17 : 0 ≤ t_3_1.toInt := hz14.2.2.1
      have q18 : t_3_1.toInt ≤ 1024 := hz14.2.2.2.1
      have q19 : 0 ≤ t_3_2.toInt := hz14.2.2.2.2.1
      have q20 : t_3_2.toInt ≤ 200 := hz14.2.2.2.2.2.1
      have q21 : 0 ≤ t_3_10.toInt := hz14.2.2.2.2.2.2.1
      have q22 : t_3_10.toInt ≤ 512 := hz14.2.2.2.2.2.2.2
      have g23 := zz_rg t_3_0
      have g24 := zz_rg t_3_1
      have g25 := zz_rg t_3_2
      have g26 := zz_rg t_3_3
      have g27 := zz_rg t_3_4
      have g28 := zz_rg t_3_10
      have g29 := zz_rg t_3_11
      show zz_ok (if ¬ e_3 = "" then (some (e_3, 0, t_3_0, t_3_1, t_3_2, t_3_3, t_3_4, t_3_5, t_3_6, t_3_7, t_3_8, t_3_9, t_3_10, t_3_11, t_3_12, t_3_13)) else none) _
      refine zz_ok_chk (zz_nemp q15 (by decide)) ?_
      refine zz_ok_some ?_
      show e_3 ∈ (["", "java/lang/IllegalArgumentException", "java/lang/IllegalStateException", "java/util/NoSuchElementException"] : List String) ∧ t_3_0.toInt = s0.toInt ∧ 0 ≤ t_3_1.toInt ∧ t_3_1.toInt ≤ 1024 ∧ 0 ≤ t_3_2.toInt ∧ t_3_2.toInt ≤ 200 ∧ 0 ≤ t_3_10.toInt ∧ t_3_10.toInt ≤ 512
      exact ⟨zz_mem q15 (by decide), by omega, by omega, by omega, by omega, by omega, by omega, by omega⟩
    · have c12 := zz_nle c12
      refine zz_ok_some ?_
      show ("java/lang/IllegalArgumentException") ∈ (["", "java/lang/IllegalArgumentException", "java/lang/IllegalStateException", "java/util/NoSuchElementException"] : List String) ∧ s0.toInt = s0.toInt ∧ 0 ≤ s1.toInt ∧ s1.toInt ≤ 1024 ∧ 0 ≤ s2.toInt ∧ s2.toInt ≤ 200 ∧ 0 ≤ s10.toInt ∧ s10.toInt ≤ 512
      exact ⟨by decide, by omega, by omega, by omega, by omega, by omega, by omega, by omega⟩
set_option maxHeartbeats 4000000 in
theorem s_X11_at_N (K : Nat) (hK : 1099511627776 ≤ K) (n0 : Nat) (n1 : Nat) (n2 : Nat) (n3 : Nat) (n4 : Nat) (n5 : Nat) (n6 : Nat) (p1 : Int32) (s0 : Int32) (s1 : Int32) (s2 : Int32) (s3 : Int32) (s4 : Int32) (s5 : Nat → Int32) (s6 : Nat → Int32) (s7 : Nat → Int32) (s8 : Nat → Int32) (s9 : Nat → Int32) (s10 : Int32) (s11 : Int32) (s12 : Nat → Int32) (s13 : Nat → Int32) (a0 : n0 = 1024) (a1 : n1 = 200) (a2 : n2 = 200) (a3 : n3 = 200) (a4 : n4 = 200) (a5 : n5 = 512) (a6 : n6 = 512) (a7 : 0 ≤ s1.toInt) (a8 : s1.toInt ≤ 1024) (a9 : 0 ≤ s2.toInt) (a10 : s2.toInt ≤ 200) (a11 : 0 ≤ s10.toInt) (a12 : s10.toInt ≤ 512) : zz_ok (m_X11_at_N K n0 n1 n2 n3 n4 n5 n6 p1 s0 s1 s2 s3 s4 s5 s6 s7 s8 s9 s10 s11 s12 s13) (fun z => z.1 ∈ (["", "java/lang/IllegalArgumentException", "java/lang/IllegalStateException"] : List String) ∧ z.2.2.1.toInt = s0.toInt ∧ 0 ≤ z.2.2.2.1.toInt ∧ z.2.2.2.1.toInt ≤ 1024 ∧ 0 ≤ z.2.2.2.2.1.toInt ∧ z.2.2.2.2.1.toInt ≤ 200 ∧ 0 ≤ z.2.2.2.2.2.2.2.2.2.2.2.2.1.toInt ∧ z.2.2.2.2.2.2.2.2.2.2.2.2.1.toInt ≤ 512) := by
  have g1 := zz_rg p1
  have g2 := zz_rg s0
  have g3 := zz_rg s1
  have g4 := zz_rg s2
  have g5 := zz_rg s3
  have g6 := zz_rg s4
  have g7 := zz_rg s10
  have g8 := zz_rg s11
  unfold m_X11_at_N
  have l10 : (0 : Int32).toInt = 0 := rfl
  refine zz_ok_ite (fun c9 => ?_) (fun c9 => ?_)
  · have c9 := Int32.lt_iff_toInt_lt.mp c9
    refine zz_ok_some ?_
    show ("java/lang/IllegalArgumentException") ∈ (["", "java/lang/IllegalArgumentException", "java/lang/IllegalStateException"] : List String) ∧ s0.toInt = s0.toInt ∧ 0 ≤ s1.toInt ∧ s1.toInt ≤ 1024 ∧ 0 ≤ s2.toInt ∧ s2.toInt ≤ 200 ∧ 0 ≤ s10.toInt ∧ s10.toInt ≤ 512
    exact ⟨by decide, by omega, by omega, by omega, by omega, by omega, by omega, by omega⟩
  · have c9 := zz_nlt c9
    have l12 : (1024 : Int32).toInt = 1024 := rfl
    refine zz_ok_ite (fun c11 => ?_) (fun c11 => ?_)
    · have c11 := Int32.lt_iff_toInt_lt.mp c11
      refine zz_ok_bind (s_X11_needRoom_N K hK n0 n1 n2 n3 n4 n5 n6 s0 s1 s2 s3 s4 s5 s6 s7 s8 s9 s10 s11 s12 s13 (by omega) (by omega) (by omega) (by omega) (by omega) (by omega) (by omega) (by omega) (by omega) (by omega) (by omega) (by omega) (by omega)) ?_
      intro z13 hz13
      obtain ⟨e_3, t_3_0, t_3_1, t_3_2, t_3_3, t_3_4, t_3_5, t_3_6, t_3_7, t_3_8, t_3_9, t_3_10, t_3_11, t_3_12, t_3_13⟩ := z13
      have q14 : e_3 ∈ (["java/lang/IllegalStateException"] : List String) := hz13.1
      have q15 : t_3_0.toInt = s0.toInt := hz13.2.1
      have q16 : 0 ≤ t_3_1.toInt := hz13.2.2.1
      have q17 : t_3_1.toInt ≤ 1024 := hz13.2.2.2.1
      have q18 : 0 ≤ t_3_2.toInt := hz13.2.2.2.2.1
      have q19 : t_3_2.toInt ≤ 200 := hz13.2.2.2.2.2.1
      have q20 : 0 ≤ t_3_10.toInt := hz13.2.2.2.2.2.2.1
      have q21 : t_3_10.toInt ≤ 512 := hz13.2.2.2.2.2.2.2
      have g22 := zz_rg t_3_0
      have g23 := zz_rg t_3_1
      have g24 := zz_rg t_3_2
      have g25 := zz_rg t_3_3
      have g26 := zz_rg t_3_4
      have g27 := zz_rg t_3_10
      have g28 := zz_rg t_3_11
      show zz_ok (if ¬ e_3 = "" then (some (e_3, 0, t_3_0, t_3_1, t_3_2, t_3_3, t_3_4, t_3_5, t_3_6, t_3_7, t_3_8, t_3_9, t_3_10, t_3_11, t_3_12, t_3_13)) else none) _
      refine zz_ok_chk (zz_nemp q14 (by decide)) ?_
      refine zz_ok_some ?_
      show e_3 ∈ (["", "java/lang/IllegalArgumentException", "java/lang/IllegalStateException"] : List String) ∧ t_3_0.toInt = s0.toInt ∧ 0 ≤ t_3_1.toInt ∧ t_3_1.toInt ≤ 1024 ∧ 0 ≤ t_3_2.toInt ∧ t_3_2.toInt ≤ 200 ∧ 0 ≤ t_3_10.toInt ∧ t_3_10.toInt ≤ 512
      exact ⟨zz_mem q14 (by decide), by omega, by omega, by omega, by omega, by omega, by omega, by omega⟩
    · have c11 := zz_nlt c11
      refine zz_ok_some ?_
      show ("java/lang/IllegalArgumentException") ∈ (["", "java/lang/IllegalArgumentException", "java/lang/IllegalStateException"] : List String) ∧ s0.toInt = s0.toInt ∧ 0 ≤ s1.toInt ∧ s1.toInt ≤ 1024 ∧ 0 ≤ s2.toInt ∧ s2.toInt ≤ 200 ∧ 0 ≤ s10.toInt ∧ s10.toInt ≤ 512
      exact ⟨by decide, by omega, by omega, by omega, by omega, by omega, by omega, by omega⟩
set_option maxHeartbeats 4000000 in
theorem s_X11_run_N (K : Nat) (hK : 1099511627776 ≤ K) (n0 : Nat) (n1 : Nat) (n2 : Nat) (n3 : Nat) (n4 : Nat) (n5 : Nat) (n6 : Nat) (p1 : Int32) (p2 : Int32) (s0 : Int32) (s1 : Int32) (s2 : Int32) (s3 : Int32) (s4 : Int32) (s5 : Nat → Int32) (s6 : Nat → Int32) (s7 : Nat → Int32) (s8 : Nat → Int32) (s9 : Nat → Int32) (s10 : Int32) (s11 : Int32) (s12 : Nat → Int32) (s13 : Nat → Int32) (a0 : n0 = 1024) (a1 : n1 = 200) (a2 : n2 = 200) (a3 : n3 = 200) (a4 : n4 = 200) (a5 : n5 = 512) (a6 : n6 = 512) (a7 : 0 ≤ s1.toInt) (a8 : s1.toInt ≤ 1024) (a9 : 0 ≤ s2.toInt) (a10 : s2.toInt ≤ 200) (a11 : 0 ≤ s10.toInt) (a12 : s10.toInt ≤ 512) : zz_ok (m_X11_run_N K n0 n1 n2 n3 n4 n5 n6 p1 p2 s0 s1 s2 s3 s4 s5 s6 s7 s8 s9 s10 s11 s12 s13) (fun z => z.1 ∈ (["", "java/lang/IllegalArgumentException", "java/lang/IllegalStateException", "java/lang/IndexOutOfBoundsException"] : List String) ∧ z.2.2.1.toInt = s0.toInt ∧ 0 ≤ z.2.2.2.1.toInt ∧ z.2.2.2.1.toInt ≤ 1024 ∧ 0 ≤ z.2.2.2.2.1.toInt ∧ z.2.2.2.2.1.toInt ≤ 200 ∧ 0 ≤ z.2.2.2.2.2.2.2.2.2.2.2.2.1.toInt ∧ z.2.2.2.2.2.2.2.2.2.2.2.2.1.toInt ≤ 512) := by
  have g1 := zz_rg p1
  have g2 := zz_rg p2
  have g3 := zz_rg s0
  have g4 := zz_rg s1
  have g5 := zz_rg s2
  have g6 := zz_rg s3
  have g7 := zz_rg s4
  have g8 := zz_rg s10
  have g9 := zz_rg s11
  unfold m_X11_run_N
  have l11 : (0 : Int32).toInt = 0 := rfl
  refine zz_ok_ite (fun c10 => ?_) (fun c10 => ?_)
  · have c10 := Int32.lt_iff_toInt_lt.mp c10
    refine zz_ok_some ?_
    show ("java/lang/IllegalArgumentException") ∈ (["", "java/lang/IllegalArgumentException", "java/lang/IllegalStateException", "java/lang/IndexOutOfBoundsException"] : List String) ∧ s0.toInt = s0.toInt ∧ 0 ≤ s1.toInt ∧ s1.toInt ≤ 1024 ∧ 0 ≤ s2.toInt ∧ s2.toInt ≤ 200 ∧ 0 ≤ s10.toInt ∧ s10.toInt ≤ 512
    exact ⟨by decide, by omega, by omega, by omega, by omega, by omega, by omega, by omega⟩
  · have c10 := zz_nlt c10
    have l13 : (1 : Int32).toInt = 1 := rfl
    refine zz_ok_ite (fun c12 => ?_) (fun c12 => ?_)
    · have c12 := Int32.le_iff_toInt_le.mp c12
      refine zz_ok_bind (s_X11_needRoom_N K hK n0 n1 n2 n3 n4 n5 n6 s0 s1 s2 s3 s4 s5 s6 s7 s8 s9 s10 s11 s12 s13 (by omega) (by omega) (by omega) (by omega) (by omega) (by omega) (by omega) (by omega) (by omega) (by omega) (by omega) (by omega) (by omega)) ?_
      intro z14 hz14
      obtain ⟨e_3, t_3_0, t_3_1, t_3_2, t_3_3, t_3_4, t_3_5, t_3_6, t_3_7, t_3_8, t_3_9, t_3_10, t_3_11, t_3_12, t_3_13⟩ := z14
      have q15 : e_3 ∈ (["java/lang/IllegalStateException"] : List String) := hz14.1
      have q16 : t_3_0.toInt = s0.toInt := hz14.2.1
      have q17 : 0 ≤ t_3_1.toInt := hz14.2.2.1
      have q18 : t_3_1.toInt ≤ 1024 := hz14.2.2.2.1
      have q19 : 0 ≤ t_3_2.toInt := hz14.2.2.2.2.1
      have q20 : t_3_2.toInt ≤ 200 := hz14.2.2.2.2.2.1
      have q21 : 0 ≤ t_3_10.toInt := hz14.2.2.2.2.2.2.1
      have q22 : t_3_10.toInt ≤ 512 := hz14.2.2.2.2.2.2.2
      have g23 := zz_rg t_3_0
      have g24 := zz_rg t_3_1
      have g25 := zz_rg t_3_2
      have g26 := zz_rg t_3_3
      have g27 := zz_rg t_3_4
      have g28 := zz_rg t_3_10
      have g29 := zz_rg t_3_11
      show zz_ok (if ¬ e_3 = "" then (some (e_3, 0, t_3_0, t_3_1, t_3_2, t_3_3, t_3_4, t_3_5, t_3_6, t_3_7, t_3_8, t_3_9, t_3_10, t_3_11, t_3_12, t_3_13)) else none) _
      refine zz_ok_chk (zz_nemp q15 (by decide)) ?_
      refine zz_ok_some ?_
      show e_3 ∈ (["", "java/lang/IllegalArgumentException", "java/lang/IllegalStateException", "java/lang/IndexOutOfBoundsException"] : List String) ∧ t_3_0.toInt = s0.toInt ∧ 0 ≤ t_3_1.toInt ∧ t_3_1.toInt ≤ 1024 ∧ 0 ≤ t_3_2.toInt ∧ t_3_2.toInt ≤ 200 ∧ 0 ≤ t_3_10.toInt ∧ t_3_10.toInt ≤ 512
      exact ⟨zz_mem q15 (by decide), by omega, by omega, by omega, by omega, by omega, by omega, by omega⟩
    · have c12 := zz_nle c12
      refine zz_ok_some ?_
      show ("java/lang/IllegalArgumentException") ∈ (["", "java/lang/IllegalArgumentException", "java/lang/IllegalStateException", "java/lang/IndexOutOfBoundsException"] : List String) ∧ s0.toInt = s0.toInt ∧ 0 ≤ s1.toInt ∧ s1.toInt ≤ 1024 ∧ 0 ≤ s2.toInt ∧ s2.toInt ≤ 200 ∧ 0 ≤ s10.toInt ∧ s10.toInt ≤ 512
      exact ⟨by decide, by omega, by omega, by omega, by omega, by omega, by omega, by omega⟩
set_option maxHeartbeats 4000000 in
theorem s_X11_list_N (K : Nat) (hK : 1099511627776 ≤ K) (n0 : Nat) (n1 : Nat) (n2 : Nat) (n3 : Nat) (n4 : Nat) (n5 : Nat) (n6 : Nat) (p1 : Int32) (p2 : Int32) (s0 : Int32) (s1 : Int32) (s2 : Int32) (s3 : Int32) (s4 : Int32) (s5 : Nat → Int32) (s6 : Nat → Int32) (s7 : Nat → Int32) (s8 : Nat → Int32) (s9 : Nat → Int32) (s10 : Int32) (s11 : Int32) (s12 : Nat → Int32) (s13 : Nat → Int32) (a0 : n0 = 1024) (a1 : n1 = 200) (a2 : n2 = 200) (a3 : n3 = 200) (a4 : n4 = 200) (a5 : n5 = 512) (a6 : n6 = 512) (a7 : 0 ≤ s1.toInt) (a8 : s1.toInt ≤ 1024) (a9 : 0 ≤ s2.toInt) (a10 : s2.toInt ≤ 200) (a11 : 0 ≤ s10.toInt) (a12 : s10.toInt ≤ 512) : zz_ok (m_X11_list_N K n0 n1 n2 n3 n4 n5 n6 p1 p2 s0 s1 s2 s3 s4 s5 s6 s7 s8 s9 s10 s11 s12 s13) (fun z => z.1 ∈ (["", "java/lang/IllegalArgumentException", "java/lang/IllegalStateException", "java/lang/UnsupportedOperationException", "java/lang/IndexOutOfBoundsException"] : List String) ∧ z.2.2.1.toInt = s0.toInt ∧ 0 ≤ z.2.2.2.1.toInt ∧ z.2.2.2.1.toInt ≤ 1024 ∧ 0 ≤ z.2.2.2.2.1.toInt ∧ z.2.2.2.2.1.toInt ≤ 200 ∧ 0 ≤ z.2.2.2.2.2.2.2.2.2.2.2.2.1.toInt ∧ z.2.2.2.2.2.2.2.2.2.2.2.2.1.toInt ≤ 512) := by
  have g1 := zz_rg p1
  have g2 := zz_rg p2
  have g3 := zz_rg s0
  have g4 := zz_rg s1
  have g5 := zz_rg s2
  have g6 := zz_rg s3
  have g7 := zz_rg s4
  have g8 := zz_rg s10
  have g9 := zz_rg s11
  unfold m_X11_list_N
  have l11 : (0 : Int32).toInt = 0 := rfl
  refine zz_ok_ite (fun c10 => ?_) (fun c10 => ?_)
  · have c10 := Int32.lt_iff_toInt_lt.mp c10
    refine zz_ok_some ?_
    show ("java/lang/IllegalArgumentException") ∈ (["", "java/lang/IllegalArgumentException", "java/lang/IllegalStateException", "java/lang/UnsupportedOperationException", "java/lang/IndexOutOfBoundsException"] : List String) ∧ s0.toInt = s0.toInt ∧ 0 ≤ s1.toInt ∧ s1.toInt ≤ 1024 ∧ 0 ≤ s2.toInt ∧ s2.toInt ≤ 200 ∧ 0 ≤ s10.toInt ∧ s10.toInt ≤ 512
    exact ⟨by decide, by omega, by omega, by omega, by omega, by omega, by omega, by omega⟩
  · have c10 := zz_nlt c10
    have l13 : (44 : Int32).toInt = 44 := rfl
    refine zz_ok_ite (fun c12 => ?_) (fun c12 => ?_)
    · have c12 := Int32.lt_iff_toInt_lt.mp c12
      refine zz_ok_bind (s_X11_needRoom_N K hK n0 n1 n2 n3 n4 n5 n6 s0 s1 s2 s3 s4 s5 s6 s7 s8 s9 s10 s11 s12 s13 (by omega) (by omega) (by omega) (by omega) (by omega) (by omega) (by omega) (by omega) (by omega) (by omega) (by omega) (by omega) (by omega)) ?_
      intro z14 hz14
      obtain ⟨e_3, t_3_0, t_3_1, t_3_2, t_3_3, t_3_4, t_3_5, t_3_6, t_3_7, t_3_8, t_3_9, t_3_10, t_3_11, t_3_12, t_3_13⟩ := z14
      have q15 : e_3 ∈ (["java/lang/IllegalStateException"] : List String) := hz14.1
      have q16 : t_3_0.toInt = s0.toInt := hz14.2.1
      have q17 : 0 ≤ t_3_1.toInt := hz14.2.2.1
      have q18 : t_3_1.toInt ≤ 1024 := hz14.2.2.2.1
      have q19 : 0 ≤ t_3_2.toInt := hz14.2.2.2.2.1
      have q20 : t_3_2.toInt ≤ 200 := hz14.2.2.2.2.2.1
      have q21 : 0 ≤ t_3_10.toInt := hz14.2.2.2.2.2.2.1
      have q22 : t_3_10.toInt ≤ 512 := hz14.2.2.2.2.2.2.2
      have g23 := zz_rg t_3_0
      have g24 := zz_rg t_3_1
      have g25 := zz_rg t_3_2
      have g26 := zz_rg t_3_3
      have g27 := zz_rg t_3_4
      have g28 := zz_rg t_3_10
      have g29 := zz_rg t_3_11
      show zz_ok (if ¬ e_3 = "" then (some (e_3, 0, t_3_0, t_3_1, t_3_2, t_3_3, t_3_4, t_3_5, t_3_6, t_3_7, t_3_8, t_3_9, t_3_10, t_3_11, t_3_12, t_3_13)) else none) _
      refine zz_ok_chk (zz_nemp q15 (by decide)) ?_
      refine zz_ok_some ?_
      show e_3 ∈ (["", "java/lang/IllegalArgumentException", "java/lang/IllegalStateException", "java/lang/UnsupportedOperationException", "java/lang/IndexOutOfBoundsException"] : List String) ∧ t_3_0.toInt = s0.toInt ∧ 0 ≤ t_3_1.toInt ∧ t_3_1.toInt ≤ 1024 ∧ 0 ≤ t_3_2.toInt ∧ t_3_2.toInt ≤ 200 ∧ 0 ≤ t_3_10.toInt ∧ t_3_10.toInt ≤ 512
      exact ⟨zz_mem q15 (by decide), by omega, by omega, by omega, by omega, by omega, by omega, by omega⟩
    · have c12 := zz_nlt c12
      refine zz_ok_some ?_
      show ("java/lang/IllegalArgumentException") ∈ (["", "java/lang/IllegalArgumentException", "java/lang/IllegalStateException", "java/lang/UnsupportedOperationException", "java/lang/IndexOutOfBoundsException"] : List String) ∧ s0.toInt = s0.toInt ∧ 0 ≤ s1.toInt ∧ s1.toInt ≤ 1024 ∧ 0 ≤ s2.toInt ∧ s2.toInt ≤ 200 ∧ 0 ≤ s10.toInt ∧ s10.toInt ≤ 512
      exact ⟨by decide, by omega, by omega, by omega, by omega, by omega, by omega, by omega⟩
set_option maxHeartbeats 4000000 in
theorem s_X11_count_N (K : Nat) (hK : 1099511627776 ≤ K) (n0 : Nat) (n1 : Nat) (n2 : Nat) (n3 : Nat) (n4 : Nat) (n5 : Nat) (n6 : Nat) (p1 : Int32) (s0 : Int32) (s1 : Int32) (s2 : Int32) (s3 : Int32) (s4 : Int32) (s5 : Nat → Int32) (s6 : Nat → Int32) (s7 : Nat → Int32) (s8 : Nat → Int32) (s9 : Nat → Int32) (s10 : Int32) (s11 : Int32) (s12 : Nat → Int32) (s13 : Nat → Int32) (a0 : n0 = 1024) (a1 : n1 = 200) (a2 : n2 = 200) (a3 : n3 = 200) (a4 : n4 = 200) (a5 : n5 = 512) (a6 : n6 = 512) (a7 : 0 ≤ s1.toInt) (a8 : s1.toInt ≤ 1024) (a9 : 0 ≤ s2.toInt) (a10 : s2.toInt ≤ 200) (a11 : 0 ≤ s10.toInt) (a12 : s10.toInt ≤ 512) (a13 : p1.toInt ≠ 12) : zz_ok (m_X11_count_N K n0 n1 n2 n3 n4 n5 n6 p1 s0 s1 s2 s3 s4 s5 s6 s7 s8 s9 s10 s11 s12 s13) (fun z => z.1 ∈ (["", "java/lang/IllegalArgumentException"] : List String) ∧ z.2.2.1.toInt = s0.toInt ∧ 0 ≤ z.2.2.2.1.toInt ∧ z.2.2.2.1.toInt ≤ 1024 ∧ 0 ≤ z.2.2.2.2.1.toInt ∧ z.2.2.2.2.1.toInt ≤ 200 ∧ 0 ≤ z.2.2.2.2.2.2.2.2.2.2.2.2.1.toInt ∧ z.2.2.2.2.2.2.2.2.2.2.2.2.1.toInt ≤ 512) := by
  have g1 := zz_rg p1
  have g2 := zz_rg s0
  have g3 := zz_rg s1
  have g4 := zz_rg s2
  have g5 := zz_rg s3
  have g6 := zz_rg s4
  have g7 := zz_rg s10
  have g8 := zz_rg s11
  unfold m_X11_count_N
  have l10 : (0 : Int32).toInt = 0 := rfl
  refine zz_ok_ite (fun c9 => ?_) (fun c9 => ?_)
  · have c9 := Int32.lt_iff_toInt_lt.mp c9
    refine zz_ok_some ?_
    show ("java/lang/IllegalArgumentException") ∈ (["", "java/lang/IllegalArgumentException"] : List String) ∧ s0.toInt = s0.toInt ∧ 0 ≤ s1.toInt ∧ s1.toInt ≤ 1024 ∧ 0 ≤ s2.toInt ∧ s2.toInt ≤ 200 ∧ 0 ≤ s10.toInt ∧ s10.toInt ≤ 512
    exact ⟨by decide, by omega, by omega, by omega, by omega, by omega, by omega, by omega⟩
  · have c9 := zz_nlt c9
    have l12 : (13 : Int32).toInt = 13 := rfl
    refine zz_ok_ite (fun c11 => ?_) (fun c11 => ?_)
    · have c11 := Int32.lt_iff_toInt_lt.mp c11
      refine zz_ok_ite (fun c13 => ?_) (fun c13 => ?_)
      · have c13 := congrArg Int32.toInt c13
        refine zz_ok_some ?_
        show ("") ∈ (["", "java/lang/IllegalArgumentException"] : List String) ∧ s0.toInt = s0.toInt ∧ 0 ≤ s1.toInt ∧ s1.toInt ≤ 1024 ∧ 0 ≤ s2.toInt ∧ s2.toInt ≤ 200 ∧ 0 ≤ s10.toInt ∧ s10.toInt ≤ 512
        exact ⟨by decide, by omega, by omega, by omega, by omega, by omega, by omega, by omega⟩
      · have c13 := zz_neq c13
        have l15 : (12 : Int32).toInt = 12 := rfl
        refine zz_ok_ite (fun c14 => ?_) (fun c14 => ?_)
        · have c14 := congrArg Int32.toInt c14
          exfalso
          omega
        · have c14 := zz_neq c14
          refine zz_ok_some ?_
          show ("") ∈ (["", "java/lang/IllegalArgumentException"] : List String) ∧ s0.toInt = s0.toInt ∧ 0 ≤ s1.toInt ∧ s1.toInt ≤ 1024 ∧ 0 ≤ s2.toInt ∧ s2.toInt ≤ 200 ∧ 0 ≤ s10.toInt ∧ s10.toInt ≤ 512
          exact ⟨by decide, by omega, by omega, by omega, by omega, by omega, by omega, by omega⟩
    · have c11 := zz_nlt c11
      refine zz_ok_some ?_
      show ("java/lang/IllegalArgumentException") ∈ (["", "java/lang/IllegalArgumentException"] : List String) ∧ s0.toInt = s0.toInt ∧ 0 ≤ s1.toInt ∧ s1.toInt ≤ 1024 ∧ 0 ≤ s2.toInt ∧ s2.toInt ≤ 200 ∧ 0 ≤ s10.toInt ∧ s10.toInt ≤ 512
      exact ⟨by decide, by omega, by omega, by omega, by omega, by omega, by omega, by omega⟩

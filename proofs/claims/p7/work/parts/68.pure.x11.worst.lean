set_option maxHeartbeats 4000000 in
theorem s_X11_worst_S (K : Nat) (hK : 1099511627776 ≤ K) (n0 : Nat) (n1 : Nat) (n2 : Nat) (n3 : Nat) (p1 : Int32) (p2 : Int32) (p3 : Int32) (s0 : Int32) (s1 : Int32) (s2 : Int32) (s3 : Int32) (s4 : Int32) (s5 : Int32) (s6 : Int32) (s7 : Nat → Int32) (s8 : Nat → Int32) (s9 : Int32) (s10 : Int32) (s11 : Nat → Int32) (s12 : Nat → Int32) (a0 : n0 = 20000) (a1 : n1 = 32768) (a2 : n2 = 14) (a3 : n3 = 14) (a4 : 0 ≤ s2.toInt) (a5 : s2.toInt ≤ 20000) (a6 : 0 ≤ s9.toInt) (a7 : s9.toInt ≤ 14) : zz_ok (m_X11_worst_S K n0 n1 n2 n3 p1 p2 p3 s0 s1 s2 s3 s4 s5 s6 s7 s8 s9 s10 s11 s12) (fun z => z.1 ∈ (["", "java/lang/IllegalArgumentException"] : List String) ∧ z.2.2.1.toInt = s0.toInt ∧ 0 ≤ z.2.2.2.2.1.toInt ∧ z.2.2.2.2.1.toInt ≤ 20000 ∧ 0 ≤ z.2.2.2.2.2.2.2.2.2.2.2.1.toInt ∧ z.2.2.2.2.2.2.2.2.2.2.2.1.toInt ≤ 14) := by
  have g1 := zz_rg p1
  have g2 := zz_rg p2
  have g3 := zz_rg p3
  have g4 := zz_rg s0
  have g5 := zz_rg s1
  have g6 := zz_rg s2
  have g7 := zz_rg s3
  have g8 := zz_rg s4
  have g9 := zz_rg s5
  have g10 := zz_rg s6
  have g11 := zz_rg s9
  have g12 := zz_rg s10
  unfold m_X11_worst_S
  have l14 : (0 : Int32).toInt = 0 := rfl
  refine zz_ok_ite (fun c13 => ?_) (fun c13 => ?_)
  · have c13 := Int32.lt_iff_toInt_lt.mp c13
    refine zz_ok_some ?_
    show ("java/lang/IllegalArgumentException") ∈ (["", "java/lang/IllegalArgumentException"] : List String) ∧ s0.toInt = s0.toInt ∧ 0 ≤ s2.toInt ∧ s2.toInt ≤ 20000 ∧ 0 ≤ s9.toInt ∧ s9.toInt ≤ 14
    exact ⟨by decide, by omega, by omega, by omega, by omega, by omega⟩
  · have c13 := zz_nlt c13
    have l16 : (4 : Int32).toInt = 4 := rfl
    refine zz_ok_ite (fun c15 => ?_) (fun c15 => ?_)
    · have c15 := Int32.lt_iff_toInt_lt.mp c15
      have l18 : (1 : Int32).toInt = 1 := rfl
      refine zz_ok_ite (fun c17 => ?_) (fun c17 => ?_)
      · have c17 := Int32.lt_iff_toInt_lt.mp c17
        refine zz_ok_some ?_
        show ("java/lang/IllegalArgumentException") ∈ (["", "java/lang/IllegalArgumentException"] : List String) ∧ s0.toInt = s0.toInt ∧ 0 ≤ s2.toInt ∧ s2.toInt ≤ 20000 ∧ 0 ≤ s9.toInt ∧ s9.toInt ≤ 14
        exact ⟨by decide, by omega, by omega, by omega, by omega, by omega⟩
      · have c17 := zz_nlt c17
        refine zz_ok_ite (fun c19 => ?_) (fun c19 => ?_)
        · have c19 := Int32.le_iff_toInt_le.mp c19
          refine zz_ok_ite (fun c20 => ?_) (fun c20 => ?_)
          · have c20 := Int32.lt_iff_toInt_lt.mp c20
            refine zz_ok_some ?_
            show ("java/lang/IllegalArgumentException") ∈ (["", "java/lang/IllegalArgumentException"] : List String) ∧ s0.toInt = s0.toInt ∧ 0 ≤ s2.toInt ∧ s2.toInt ≤ 20000 ∧ 0 ≤ s9.toInt ∧ s9.toInt ≤ 14
            exact ⟨by decide, by omega, by omega, by omega, by omega, by omega⟩
          · have c20 := zz_nlt c20
            have l22 : (8 : Int32).toInt = 8 := rfl
            refine zz_ok_ite (fun c21 => ?_) (fun c21 => ?_)
            · have c21 := Int32.lt_iff_toInt_lt.mp c21
              refine zz_ok_some ?_
              show ("java/lang/IllegalArgumentException") ∈ (["", "java/lang/IllegalArgumentException"] : List String) ∧ s0.toInt = s0.toInt ∧ 0 ≤ s2.toInt ∧ s2.toInt ≤ 20000 ∧ 0 ≤ s9.toInt ∧ s9.toInt ≤ 14
              exact ⟨by decide, by omega, by omega, by omega, by omega, by omega⟩
            · have c21 := zz_nlt c21
              refine zz_ok_ite (fun c23 => ?_) (fun c23 => ?_)
              · have c23 := Int32.le_iff_toInt_le.mp c23
                refine zz_ok_bind (s_X8_leastWords K hK n0 n1 n2 n3 p1 p2 p3 s1 s2 s3 s4 s5 s6 s7 s8 s9 s10 s11 s12 (by omega) (by omega) (by omega) (by omega) (by omega) (by omega) (by omega) (by omega) (by omega) (by omega) (by omega)) ?_
                intro z24 hz24
                obtain ⟨r_8, t_8_0, t_8_1, t_8_2, t_8_3, t_8_4, t_8_5, t_8_6, t_8_7, t_8_8, t_8_9, t_8_10, t_8_11⟩ := z24
                have q25 : 0 ≤ t_8_1.toInt := hz24.1
                have q26 : t_8_1.toInt ≤ 20000 := hz24.2.1
                have q27 : 0 ≤ t_8_8.toInt := hz24.2.2.1
                have q28 : t_8_8.toInt ≤ 14 := hz24.2.2.2
                have g29 := zz_rg r_8
                have g30 := zz_rg t_8_0
                have g31 := zz_rg t_8_1
                have g32 := zz_rg t_8_2
                have g33 := zz_rg t_8_3
                have g34 := zz_rg t_8_4
                have g35 := zz_rg t_8_5
                have g36 := zz_rg t_8_8
                have g37 := zz_rg t_8_9
                show zz_ok (some ("", r_8, s0, t_8_0, t_8_1, t_8_2, t_8_3, t_8_4, t_8_5, t_8_6, t_8_7, t_8_8, t_8_9, t_8_10, t_8_11)) _
                refine zz_ok_some ?_
                show ("") ∈ (["", "java/lang/IllegalArgumentException"] : List String) ∧ s0.toInt = s0.toInt ∧ 0 ≤ t_8_1.toInt ∧ t_8_1.toInt ≤ 20000 ∧ 0 ≤ t_8_8.toInt ∧ t_8_8.toInt ≤ 14
                exact ⟨by decide, by omega, by omega, by omega, by omega, by omega⟩
              · have c23 := zz_nle c23
                refine zz_ok_some ?_
                show ("java/lang/IllegalArgumentException") ∈ (["", "java/lang/IllegalArgumentException"] : List String) ∧ s0.toInt = s0.toInt ∧ 0 ≤ s2.toInt ∧ s2.toInt ≤ 20000 ∧ 0 ≤ s9.toInt ∧ s9.toInt ≤ 14
                exact ⟨by decide, by omega, by omega, by omega, by omega, by omega⟩
        · have c19 := zz_nle c19
          refine zz_ok_some ?_
          show ("java/lang/IllegalArgumentException") ∈ (["", "java/lang/IllegalArgumentException"] : List String) ∧ s0.toInt = s0.toInt ∧ 0 ≤ s2.toInt ∧ s2.toInt ≤ 20000 ∧ 0 ≤ s9.toInt ∧ s9.toInt ≤ 14
          exact ⟨by decide, by omega, by omega, by omega, by omega, by omega⟩
    · have c15 := zz_nlt c15
      refine zz_ok_some ?_
      show ("java/lang/IllegalArgumentException") ∈ (["", "java/lang/IllegalArgumentException"] : List String) ∧ s0.toInt = s0.toInt ∧ 0 ≤ s2.toInt ∧ s2.toInt ≤ 20000 ∧ 0 ≤ s9.toInt ∧ s9.toInt ≤ 14
      exact ⟨by decide, by omega, by omega, by omega, by omega, by omega⟩
set_option maxHeartbeats 4000000 in
theorem s_X11_worst_W (K : Nat) (hK : 1099511627776 ≤ K) (p1 : Int32) (p2 : Int32) (p3 : Int32) (s0 : Int32) (a0 : 0 ≤ p1.toInt) (a1 : p1.toInt ≤ 3) (a2 : 1 ≤ p2.toInt) (a3 : p2.toInt ≤ 4) (a4 : 1 ≤ p3.toInt) (a5 : p3.toInt ≤ 8) (a6 : p2.toInt ≤ p3.toInt) : zz_ok (m_X11_worst_W K p1 p2 p3 s0) (fun z => z.1 ∈ ([""] : List String) ∧ z.2.2.1.toInt = s0.toInt ∧ 0 ≤ z.2.2.2.2.1.toInt ∧ z.2.2.2.2.1.toInt ≤ 20000 ∧ 0 ≤ z.2.2.2.2.2.2.2.2.2.2.2.1.toInt ∧ z.2.2.2.2.2.2.2.2.2.2.2.1.toInt ≤ 14) := by
  have g1 := zz_rg p1
  have g2 := zz_rg p2
  have g3 := zz_rg p3
  have g4 := zz_rg s0
  unfold m_X11_worst_W
  have l6 : (0 : Int32).toInt = 0 := rfl
  refine zz_ok_ite (fun c5 => ?_) (fun c5 => ?_)
  · have c5 := Int32.lt_iff_toInt_lt.mp c5
    refine zz_ok_some ?_
    exfalso
    omega
  · have c5 := zz_nlt c5
    have l8 : (4 : Int32).toInt = 4 := rfl
    refine zz_ok_ite (fun c7 => ?_) (fun c7 => ?_)
    · have c7 := Int32.lt_iff_toInt_lt.mp c7
      have l10 : (1 : Int32).toInt = 1 := rfl
      refine zz_ok_ite (fun c9 => ?_) (fun c9 => ?_)
      · have c9 := Int32.lt_iff_toInt_lt.mp c9
        refine zz_ok_some ?_
        exfalso
        omega
      · have c9 := zz_nlt c9
        refine zz_ok_ite (fun c11 => ?_) (fun c11 => ?_)
        · have c11 := Int32.le_iff_toInt_le.mp c11
          refine zz_ok_ite (fun c12 => ?_) (fun c12 => ?_)
          · have c12 := Int32.lt_iff_toInt_lt.mp c12
            refine zz_ok_some ?_
            exfalso
            omega
          · have c12 := zz_nlt c12
            have l14 : (8 : Int32).toInt = 8 := rfl
            refine zz_ok_ite (fun c13 => ?_) (fun c13 => ?_)
            · have c13 := Int32.lt_iff_toInt_lt.mp c13
              refine zz_ok_some ?_
              exfalso
              omega
            · have c13 := zz_nlt c13
              refine zz_ok_ite (fun c15 => ?_) (fun c15 => ?_)
              · have c15 := Int32.le_iff_toInt_le.mp c15
                refine zz_ok_bind (s_X8_leastWords K hK 20000 32768 14 14 p1 p2 p3 ((1 : Int32)) ((0 : Int32)) ((0 : Int32)) ((0 : Int32)) ((0 : Int32)) ((0 : Int32)) (fun _ => 0) (fun _ => 0) ((0 : Int32)) ((0 : Int32)) (fun _ => 0) (fun _ => 0) (by omega) (by omega) (by omega) (by omega) (by omega) (by omega) (by omega) (by omega) (by omega) (by omega) (by omega)) ?_
                intro z16 hz16
                obtain ⟨r_8, t_8_0, t_8_1, t_8_2, t_8_3, t_8_4, t_8_5, t_8_6, t_8_7, t_8_8, t_8_9, t_8_10, t_8_11⟩ := z16
                have q17 : 0 ≤ t_8_1.toInt := hz16.1
                have q18 : t_8_1.toInt ≤ 20000 := hz16.2.1
                have q19 : 0 ≤ t_8_8.toInt := hz16.2.2.1
                have q20 : t_8_8.toInt ≤ 14 := hz16.2.2.2
                have g21 := zz_rg r_8
                have g22 := zz_rg t_8_0
                have g23 := zz_rg t_8_1
                have g24 := zz_rg t_8_2
                have g25 := zz_rg t_8_3
                have g26 := zz_rg t_8_4
                have g27 := zz_rg t_8_5
                have g28 := zz_rg t_8_8
                have g29 := zz_rg t_8_9
                show zz_ok (some ("", r_8, s0, t_8_0, t_8_1, t_8_2, t_8_3, t_8_4, t_8_5, t_8_6, t_8_7, t_8_8, t_8_9, t_8_10, t_8_11)) _
                refine zz_ok_some ?_
                show ("") ∈ ([""] : List String) ∧ s0.toInt = s0.toInt ∧ 0 ≤ t_8_1.toInt ∧ t_8_1.toInt ≤ 20000 ∧ 0 ≤ t_8_8.toInt ∧ t_8_8.toInt ≤ 14
                exact ⟨by decide, by omega, by omega, by omega, by omega, by omega⟩
              · have c15 := zz_nle c15
                refine zz_ok_some ?_
                exfalso
                omega
        · have c11 := zz_nle c11
          refine zz_ok_some ?_
          exfalso
          omega
    · have c7 := zz_nlt c7
      refine zz_ok_some ?_
      exfalso
      omega
set_option maxHeartbeats 4000000 in
theorem s_X11_worst_X (K : Nat) (hK : 1099511627776 ≤ K) (p1 : Int32) (p2 : Int32) (p3 : Int32) (s0 : Int32) (a0 : (p1.toInt < 0 ∨ 3 < p1.toInt ∨ p2.toInt < 1 ∨ 4 < p2.toInt ∨ p3.toInt < 1 ∨ 8 < p3.toInt ∨ p3.toInt < p2.toInt)) : zz_ok (m_X11_worst_X K p1 p2 p3 s0) (fun z => z.1 ∈ (["java/lang/IllegalArgumentException"] : List String) ∧ z.2.2.toInt = s0.toInt) := by
  have g1 := zz_rg p1
  have g2 := zz_rg p2
  have g3 := zz_rg p3
  have g4 := zz_rg s0
  unfold m_X11_worst_X
  have l6 : (0 : Int32).toInt = 0 := rfl
  refine zz_ok_ite (fun c5 => ?_) (fun c5 => ?_)
  · have c5 := Int32.lt_iff_toInt_lt.mp c5
    refine zz_ok_some ?_
    show ("java/lang/IllegalArgumentException") ∈ (["java/lang/IllegalArgumentException"] : List String) ∧ s0.toInt = s0.toInt
    exact ⟨by decide, by omega⟩
  · have c5 := zz_nlt c5
    have l8 : (4 : Int32).toInt = 4 := rfl
    refine zz_ok_ite (fun c7 => ?_) (fun c7 => ?_)
    · have c7 := Int32.lt_iff_toInt_lt.mp c7
      have l10 : (1 : Int32).toInt = 1 := rfl
      refine zz_ok_ite (fun c9 => ?_) (fun c9 => ?_)
      · have c9 := Int32.lt_iff_toInt_lt.mp c9
        refine zz_ok_some ?_
        show ("java/lang/IllegalArgumentException") ∈ (["java/lang/IllegalArgumentException"] : List String) ∧ s0.toInt = s0.toInt
        exact ⟨by decide, by omega⟩
      · have c9 := zz_nlt c9
        refine zz_ok_ite (fun c11 => ?_) (fun c11 => ?_)
        · have c11 := Int32.le_iff_toInt_le.mp c11
          refine zz_ok_ite (fun c12 => ?_) (fun c12 => ?_)
          · have c12 := Int32.lt_iff_toInt_lt.mp c12
            refine zz_ok_some ?_
            show ("java/lang/IllegalArgumentException") ∈ (["java/lang/IllegalArgumentException"] : List String) ∧ s0.toInt = s0.toInt
            exact ⟨by decide, by omega⟩
          · have c12 := zz_nlt c12
            have l14 : (8 : Int32).toInt = 8 := rfl
            refine zz_ok_ite (fun c13 => ?_) (fun c13 => ?_)
            · have c13 := Int32.lt_iff_toInt_lt.mp c13
              refine zz_ok_some ?_
              show ("java/lang/IllegalArgumentException") ∈ (["java/lang/IllegalArgumentException"] : List String) ∧ s0.toInt = s0.toInt
              exact ⟨by decide, by omega⟩
            · have c13 := zz_nlt c13
              refine zz_ok_ite (fun c15 => ?_) (fun c15 => ?_)
              · have c15 := Int32.le_iff_toInt_le.mp c15
                exfalso
                omega
              · have c15 := zz_nle c15
                refine zz_ok_some ?_
                show ("java/lang/IllegalArgumentException") ∈ (["java/lang/IllegalArgumentException"] : List String) ∧ s0.toInt = s0.toInt
                exact ⟨by decide, by omega⟩
        · have c11 := zz_nle c11
          refine zz_ok_some ?_
          show ("java/lang/IllegalArgumentException") ∈ (["java/lang/IllegalArgumentException"] : List String) ∧ s0.toInt = s0.toInt
          exact ⟨by decide, by omega⟩
    · have c7 := zz_nlt c7
      refine zz_ok_some ?_
      show ("java/lang/IllegalArgumentException") ∈ (["java/lang/IllegalArgumentException"] : List String) ∧ s0.toInt = s0.toInt
      exact ⟨by decide, by omega⟩
set_option maxHeartbeats 4000000 in
theorem s_X11_count_SN (K : Nat) (hK : 1099511627776 ≤ K) (p1 : Int32) (s0 : Int32) (a0 : p1.toInt = 12) : zz_ok (m_X11_count_SN K p1 s0) (fun z => z.1 ∈ (["", "java/lang/IllegalArgumentException"] : List String) ∧ z.2.2.toInt = s0.toInt) := by
  have g1 := zz_rg p1
  have g2 := zz_rg s0
  unfold m_X11_count_SN
  have l4 : (0 : Int32).toInt = 0 := rfl
  refine zz_ok_ite (fun c3 => ?_) (fun c3 => ?_)
  · have c3 := Int32.lt_iff_toInt_lt.mp c3
    refine zz_ok_some ?_
    show ("java/lang/IllegalArgumentException") ∈ (["", "java/lang/IllegalArgumentException"] : List String) ∧ s0.toInt = s0.toInt
    exact ⟨by decide, by omega⟩
  · have c3 := zz_nlt c3
    have l6 : (13 : Int32).toInt = 13 := rfl
    refine zz_ok_ite (fun c5 => ?_) (fun c5 => ?_)
    · have c5 := Int32.lt_iff_toInt_lt.mp c5
      refine zz_ok_ite (fun c7 => ?_) (fun c7 => ?_)
      · have c7 := congrArg Int32.toInt c7
        refine zz_ok_some ?_
        show ("") ∈ (["", "java/lang/IllegalArgumentException"] : List String) ∧ s0.toInt = s0.toInt
        exact ⟨by decide, by omega⟩
      · have c7 := zz_neq c7
        have l8 : (12 : Int32).toInt = 12 := rfl
        refine zz_ok_chk (Int32.toInt_inj.mp (by omega)) ?_
        refine zz_ok_some ?_
        show ("") ∈ (["", "java/lang/IllegalArgumentException"] : List String) ∧ s0.toInt = s0.toInt
        exact ⟨by decide, by omega⟩
    · have c5 := zz_nlt c5
      refine zz_ok_some ?_
      show ("java/lang/IllegalArgumentException") ∈ (["", "java/lang/IllegalArgumentException"] : List String) ∧ s0.toInt = s0.toInt
      exact ⟨by decide, by omega⟩
set_option maxHeartbeats 4000000 in
theorem s_X11_count_SR (K : Nat) (hK : 1099511627776 ≤ K) (n0 : Nat) (n1 : Nat) (n2 : Nat) (n3 : Nat) (p1 : Int32) (s0 : Int32) (s1 : Int32) (s2 : Int32) (s3 : Int32) (s4 : Int32) (s5 : Int32) (s6 : Int32) (s7 : Nat → Int32) (s8 : Nat → Int32) (s9 : Int32) (s10 : Int32) (s11 : Nat → Int32) (s12 : Nat → Int32) (a0 : n0 = 20000) (a1 : n1 = 32768) (a2 : n2 = 14) (a3 : n3 = 14) (a4 : 0 ≤ s2.toInt) (a5 : s2.toInt ≤ 20000) (a6 : 0 ≤ s9.toInt) (a7 : s9.toInt ≤ 14) (a8 : p1.toInt = 12) : zz_ok (m_X11_count_SR K n0 n1 n2 n3 p1 s0 s1 s2 s3 s4 s5 s6 s7 s8 s9 s10 s11 s12) (fun z => z.1 ∈ (["", "java/lang/IllegalArgumentException"] : List String) ∧ z.2.2.1.toInt = s0.toInt ∧ 0 ≤ z.2.2.2.2.1.toInt ∧ z.2.2.2.2.1.toInt ≤ 20000 ∧ 0 ≤ z.2.2.2.2.2.2.2.2.2.2.2.1.toInt ∧ z.2.2.2.2.2.2.2.2.2.2.2.1.toInt ≤ 14) := by
  have g1 := zz_rg p1
  have g2 := zz_rg s0
  have g3 := zz_rg s1
  have g4 := zz_rg s2
  have g5 := zz_rg s3
  have g6 := zz_rg s4
  have g7 := zz_rg s5
  have g8 := zz_rg s6
  have g9 := zz_rg s9
  have g10 := zz_rg s10
  unfold m_X11_count_SR
  have l12 : (0 : Int32).toInt = 0 := rfl
  refine zz_ok_ite (fun c11 => ?_) (fun c11 => ?_)
  · have c11 := Int32.lt_iff_toInt_lt.mp c11
    refine zz_ok_some ?_
    show ("java/lang/IllegalArgumentException") ∈ (["", "java/lang/IllegalArgumentException"] : List String) ∧ s0.toInt = s0.toInt ∧ 0 ≤ s2.toInt ∧ s2.toInt ≤ 20000 ∧ 0 ≤ s9.toInt ∧ s9.toInt ≤ 14
    exact ⟨by decide, by omega, by omega, by omega, by omega, by omega⟩
  · have c11 := zz_nlt c11
    have l14 : (13 : Int32).toInt = 13 := rfl
    refine zz_ok_ite (fun c13 => ?_) (fun c13 => ?_)
    · have c13 := Int32.lt_iff_toInt_lt.mp c13
      refine zz_ok_ite (fun c15 => ?_) (fun c15 => ?_)
      · have c15 := congrArg Int32.toInt c15
        refine zz_ok_some ?_
        show ("") ∈ (["", "java/lang/IllegalArgumentException"] : List String) ∧ s0.toInt = s0.toInt ∧ 0 ≤ s2.toInt ∧ s2.toInt ≤ 20000 ∧ 0 ≤ s9.toInt ∧ s9.toInt ≤ 14
        exact ⟨by decide, by omega, by omega, by omega, by omega, by omega⟩
      · have c15 := zz_neq c15
        have l16 : (12 : Int32).toInt = 12 := rfl
        refine zz_ok_chk (Int32.toInt_inj.mp (by omega)) ?_
        refine zz_ok_bind (s_X8_met K hK n0 n1 n2 n3 s1 s2 s3 s4 s5 s6 s7 s8 s9 s10 s11 s12) ?_
        intro z17 hz17
        obtain ⟨r_5, t_5_0, t_5_1, t_5_2, t_5_3, t_5_4, t_5_5, t_5_6, t_5_7, t_5_8, t_5_9, t_5_10, t_5_11⟩ := z17
        have q18 : t_5_1.toInt = s2.toInt := hz17.1
        have q19 : t_5_8.toInt = s9.toInt := hz17.2.1
        have q20 : t_5_5.toInt = s6.toInt := hz17.2.2.1
        have q21 : t_5_3.toInt = s4.toInt := hz17.2.2.2
        have g22 := zz_rg r_5
        have g23 := zz_rg t_5_0
        have g24 := zz_rg t_5_1
        have g25 := zz_rg t_5_2
        have g26 := zz_rg t_5_3
        have g27 := zz_rg t_5_4
        have g28 := zz_rg t_5_5
        have g29 := zz_rg t_5_8
        have g30 := zz_rg t_5_9
        show zz_ok (some ("", r_5, s0, t_5_0, t_5_1, t_5_2, t_5_3, t_5_4, t_5_5, t_5_6, t_5_7, t_5_8, t_5_9, t_5_10, t_5_11)) _
        refine zz_ok_some ?_
        show ("") ∈ (["", "java/lang/IllegalArgumentException"] : List String) ∧ s0.toInt = s0.toInt ∧ 0 ≤ t_5_1.toInt ∧ t_5_1.toInt ≤ 20000 ∧ 0 ≤ t_5_8.toInt ∧ t_5_8.toInt ≤ 14
        exact ⟨by decide, by omega, by omega, by omega, by omega, by omega⟩
    · have c13 := zz_nlt c13
      refine zz_ok_some ?_
      show ("java/lang/IllegalArgumentException") ∈ (["", "java/lang/IllegalArgumentException"] : List String) ∧ s0.toInt = s0.toInt ∧ 0 ≤ s2.toInt ∧ s2.toInt ≤ 20000 ∧ 0 ≤ s9.toInt ∧ s9.toInt ≤ 14
      exact ⟨by decide, by omega, by omega, by omega, by omega, by omega⟩

set_option maxHeartbeats 4000000 in
theorem ff_X11_needRoom_X4 (K : Nat) (hK : 1099511627776 ≤ K) (T : Nat) (hT : T ≤ 900) (n0 : Nat) (n1 : Nat) (n2 : Nat) (n3 : Nat) (n4 : Nat) (n5 : Nat) (n6 : Nat) (n7 : Nat) (n8 : Nat) (s0 : Int32) (s1 : Int32) (s2 : Int32) (s3 : Int32) (s4 : Int32) (s5 : Nat → Int32) (s6 : Nat → Int32) (s7 : Nat → Int32) (s8 : Nat → Int32) (s9 : Nat → Int32) (s10 : Int32) (s11 : Int32) (s12 : Nat → Int32) (s13 : Nat → Int32) (s14 : Int32) (s15 : Int32) (s16 : Nat → Int32) (s17 : Nat → Int32) : zz_ok (m_X11_needRoom_X4 K n0 n1 n2 n3 n4 n5 n6 n7 n8 s0 s1 s2 s3 s4 s5 s6 s7 s8 s9 s10 s11 s12 s13 s14 s15 s16 s17) (fun z => zz_em z.1 ∧ z.2.1 = s0 ∧ z.2.2.1 = s1 ∧ z.2.2.2.1 = s2 ∧ z.2.2.2.2.1 = s3 ∧ z.2.2.2.2.2.1 = s4 ∧ z.2.2.2.2.2.2.1 = s5 ∧ z.2.2.2.2.2.2.2.1 = s6 ∧ z.2.2.2.2.2.2.2.2.1 = s7 ∧ z.2.2.2.2.2.2.2.2.2.1 = s8 ∧ z.2.2.2.2.2.2.2.2.2.2.1 = s9 ∧ z.2.2.2.2.2.2.2.2.2.2.2.1 = s10 ∧ z.2.2.2.2.2.2.2.2.2.2.2.2.1 = s11 ∧ z.2.2.2.2.2.2.2.2.2.2.2.2.2.1 = s12 ∧ z.2.2.2.2.2.2.2.2.2.2.2.2.2.2.1 = s13 ∧ z.2.2.2.2.2.2.2.2.2.2.2.2.2.2.2.1 = s14 ∧ z.2.2.2.2.2.2.2.2.2.2.2.2.2.2.2.2.1 = s15 ∧ z.2.2.2.2.2.2.2.2.2.2.2.2.2.2.2.2.2.1 = s16 ∧ z.2.2.2.2.2.2.2.2.2.2.2.2.2.2.2.2.2.2 = s17) := by
  have g1 := zz_rg s0
  have g2 := zz_rg s1
  have g3 := zz_rg s2
  have g4 := zz_rg s3
  have g5 := zz_rg s4
  have g6 := zz_rg s10
  have g7 := zz_rg s11
  have g8 := zz_rg s14
  have g9 := zz_rg s15
  unfold m_X11_needRoom_X4
  refine zz_ok_some ?_
  show zz_em ("") ∧ s0 = s0 ∧ s1 = s1 ∧ s2 = s2 ∧ s3 = s3 ∧ s4 = s4 ∧ s5 = s5 ∧ s6 = s6 ∧ s7 = s7 ∧ s8 = s8 ∧ s9 = s9 ∧ s10 = s10 ∧ s11 = s11 ∧ s12 = s12 ∧ s13 = s13 ∧ s14 = s14 ∧ s15 = s15 ∧ s16 = s16 ∧ s17 = s17
  exact ⟨(by exact rfl), rfl, rfl, rfl, rfl, rfl, rfl, rfl, rfl, rfl, rfl, rfl, rfl, rfl, rfl, rfl, rfl, rfl, rfl⟩
set_option maxHeartbeats 4000000 in
theorem ff_X11_needBlock_X4 (K : Nat) (hK : 1099511627776 ≤ K) (T : Nat) (hT : T ≤ 900) (n0 : Nat) (n1 : Nat) (n2 : Nat) (n3 : Nat) (n4 : Nat) (n5 : Nat) (n6 : Nat) (n7 : Nat) (n8 : Nat) (p1 : Int32) (s0 : Int32) (s1 : Int32) (s2 : Int32) (s3 : Int32) (s4 : Int32) (s5 : Nat → Int32) (s6 : Nat → Int32) (s7 : Nat → Int32) (s8 : Nat → Int32) (s9 : Nat → Int32) (s10 : Int32) (s11 : Int32) (s12 : Nat → Int32) (s13 : Nat → Int32) (s14 : Int32) (s15 : Int32) (s16 : Nat → Int32) (s17 : Nat → Int32) (a0 : n0 = 1024) (a1 : n1 = 200) (a2 : n2 = 200) (a3 : n3 = 200) (a4 : n4 = 200) (a5 : n5 = 512) (a6 : n6 = 512) (a7 : n7 = 201) (a8 : n8 = 201) (a9 : 16 ≤ s1.toInt) (a10 : s1.toInt ≤ 1024) (a11 : 0 ≤ s2.toInt) (a12 : s2.toInt ≤ 200) (a13 : 0 ≤ s14.toInt) (a14 : s14.toInt ≤ 201) (a15 : zz_vs s1.toInt (s16) (s17) s14.toInt) (a16 : zz_vs s1.toInt (s7) (s8) s2.toInt) (a17 : 0 ≤ s3.toInt) (a18 : s3.toInt ≤ 100000) : zz_ok (m_X11_needBlock_X4 K n0 n1 n2 n3 n4 n5 n6 n7 n8 p1 s0 s1 s2 s3 s4 s5 s6 s7 s8 s9 s10 s11 s12 s13 s14 s15 s16 s17) (fun z => zz_nb (s6) (p1) s2.toInt (z.1) z.2.1.toInt ∧ z.2.2.1 = s0 ∧ z.2.2.2.1 = s1 ∧ z.2.2.2.2.1 = s2 ∧ z.2.2.2.2.2.1 = s3 ∧ z.2.2.2.2.2.2.1 = s4 ∧ z.2.2.2.2.2.2.2.1 = s5 ∧ z.2.2.2.2.2.2.2.2.1 = s6 ∧ z.2.2.2.2.2.2.2.2.2.1 = s7 ∧ z.2.2.2.2.2.2.2.2.2.2.1 = s8 ∧ z.2.2.2.2.2.2.2.2.2.2.2.1 = s9 ∧ z.2.2.2.2.2.2.2.2.2.2.2.2.1 = s10 ∧ z.2.2.2.2.2.2.2.2.2.2.2.2.2.1 = s11 ∧ z.2.2.2.2.2.2.2.2.2.2.2.2.2.2.1 = s12 ∧ z.2.2.2.2.2.2.2.2.2.2.2.2.2.2.2.1 = s13 ∧ z.2.2.2.2.2.2.2.2.2.2.2.2.2.2.2.2.1 = s14 ∧ z.2.2.2.2.2.2.2.2.2.2.2.2.2.2.2.2.2.1 = s15 ∧ z.2.2.2.2.2.2.2.2.2.2.2.2.2.2.2.2.2.2.1 = s16 ∧ z.2.2.2.2.2.2.2.2.2.2.2.2.2.2.2.2.2.2.2 = s17) := by
  have g1 := zz_rg p1
  have g2 := zz_rg s0
  have g3 := zz_rg s1
  have g4 := zz_rg s2
  have g5 := zz_rg s3
  have g6 := zz_rg s4
  have g7 := zz_rg s10
  have g8 := zz_rg s11
  have g9 := zz_rg s14
  have g10 := zz_rg s15
  unfold m_X11_needBlock_X4
  refine zz_ok_bind (ff_X7_slotOf K hK T hT n0 n1 n2 n3 n4 n5 n6 p1 s1 s2 s3 s4 s5 s6 s7 s8 s9 s10 s11 s12 s13 a1 a11 a12) ?_
  intro z11 hz11
  obtain ⟨r_1, t_1_0, t_1_1, t_1_2, t_1_3, t_1_4, t_1_5, t_1_6, t_1_7, t_1_8, t_1_9, t_1_10, t_1_11, t_1_12⟩ := z11
  have q12 : zz_so (s6) (p1) s2.toInt r_1.toInt := hz11.1
  have q13 : -1 ≤ r_1.toInt := hz11.2.1
  have q14 : r_1.toInt < s2.toInt := hz11.2.2.1
  have q15 : t_1_0 = s1 := hz11.2.2.2.1
  have q16 : t_1_1 = s2 := hz11.2.2.2.2.1
  have q17 : t_1_2 = s3 := hz11.2.2.2.2.2.1
  have q18 : t_1_3 = s4 := hz11.2.2.2.2.2.2.1
  have q19 : t_1_4 = s5 := hz11.2.2.2.2.2.2.2.1
  have q20 : t_1_5 = s6 := hz11.2.2.2.2.2.2.2.2.1
  have q21 : t_1_6 = s7 := hz11.2.2.2.2.2.2.2.2.2.1
  have q22 : t_1_7 = s8 := hz11.2.2.2.2.2.2.2.2.2.2.1
  have q23 : t_1_8 = s9 := hz11.2.2.2.2.2.2.2.2.2.2.2.1
  have q24 : t_1_9 = s10 := hz11.2.2.2.2.2.2.2.2.2.2.2.2.1
  have q25 : t_1_10 = s11 := hz11.2.2.2.2.2.2.2.2.2.2.2.2.2.1
  have q26 : t_1_11 = s12 := hz11.2.2.2.2.2.2.2.2.2.2.2.2.2.2.1
  have q27 : t_1_12 = s13 := hz11.2.2.2.2.2.2.2.2.2.2.2.2.2.2.2
  clear hz11
  have e28 : s1 = t_1_0 := q15.symm
  subst e28
  have e29 : s2 = t_1_1 := q16.symm
  subst e29
  have e30 : s3 = t_1_2 := q17.symm
  subst e30
  have e31 : s4 = t_1_3 := q18.symm
  subst e31
  have e32 : s5 = t_1_4 := q19.symm
  subst e32
  have e33 : s6 = t_1_5 := q20.symm
  subst e33
  have e34 : s7 = t_1_6 := q21.symm
  subst e34
  have e35 : s8 = t_1_7 := q22.symm
  subst e35
  have e36 : s9 = t_1_8 := q23.symm
  subst e36
  have e37 : s10 = t_1_9 := q24.symm
  subst e37
  have e38 : s11 = t_1_10 := q25.symm
  subst e38
  have e39 : s12 = t_1_11 := q26.symm
  subst e39
  have e40 : s13 = t_1_12 := q27.symm
  subst e40
  have g41 := zz_rg r_1
  show zz_ok (if r_1 = ((-1 : Int32)) then (some ("java/util/NoSuchElementException", 0, s0, s1, s2, s3, s4, s5, s6, s7, s8, s9, s10, s11, s12, s13, s14, s15, s16, s17)) else (some ("", r_1, s0, s1, s2, s3, s4, s5, s6, s7, s8, s9, s10, s11, s12, s13, s14, s15, s16, s17))) _
  have l43 : (-1 : Int32).toInt = -1 := rfl
  refine zz_ok_ite (fun c42 => ?_) (fun c42 => ?_)
  · have c42 := congrArg Int32.toInt c42
    have l44 : (0 : Int32).toInt = 0 := rfl
    refine zz_ok_some ?_
    show zz_nb (s6) (p1) s2.toInt (("java/util/NoSuchElementException")) (0 : Int32).toInt ∧ s0 = s0 ∧ s1 = s1 ∧ s2 = s2 ∧ s3 = s3 ∧ s4 = s4 ∧ s5 = s5 ∧ s6 = s6 ∧ s7 = s7 ∧ s8 = s8 ∧ s9 = s9 ∧ s10 = s10 ∧ s11 = s11 ∧ s12 = s12 ∧ s13 = s13 ∧ s14 = s14 ∧ s15 = s15 ∧ s16 = s16 ∧ s17 = s17
    exact ⟨(by first | exact zz_nb_n (by assumption) (by omega) | exact zz_nb_y (by assumption) (by omega)), rfl, rfl, rfl, rfl, rfl, rfl, rfl, rfl, rfl, rfl, rfl, rfl, rfl, rfl, rfl, rfl, rfl, rfl⟩
  · have c42 := zz_neq c42
    refine zz_ok_some ?_
    show zz_nb (s6) (p1) s2.toInt (("")) r_1.toInt ∧ s0 = s0 ∧ s1 = s1 ∧ s2 = s2 ∧ s3 = s3 ∧ s4 = s4 ∧ s5 = s5 ∧ s6 = s6 ∧ s7 = s7 ∧ s8 = s8 ∧ s9 = s9 ∧ s10 = s10 ∧ s11 = s11 ∧ s12 = s12 ∧ s13 = s13 ∧ s14 = s14 ∧ s15 = s15 ∧ s16 = s16 ∧ s17 = s17
    exact ⟨(by first | exact zz_nb_n (by assumption) (by omega) | exact zz_nb_y (by assumption) (by omega)), rfl, rfl, rfl, rfl, rfl, rfl, rfl, rfl, rfl, rfl, rfl, rfl, rfl, rfl, rfl, rfl, rfl, rfl⟩
set_option maxHeartbeats 4000000 in
theorem ff_X11_about_X4 (K : Nat) (hK : 1099511627776 ≤ K) (T : Nat) (hT : T ≤ 900) (n0 : Nat) (n1 : Nat) (n2 : Nat) (n3 : Nat) (n4 : Nat) (n5 : Nat) (n6 : Nat) (n7 : Nat) (n8 : Nat) (p1 : Int32) (p2 : Int32) (s0 : Int32) (s1 : Int32) (s2 : Int32) (s3 : Int32) (s4 : Int32) (s5 : Nat → Int32) (s6 : Nat → Int32) (s7 : Nat → Int32) (s8 : Nat → Int32) (s9 : Nat → Int32) (s10 : Int32) (s11 : Int32) (s12 : Nat → Int32) (s13 : Nat → Int32) (s14 : Int32) (s15 : Int32) (s16 : Nat → Int32) (s17 : Nat → Int32) (a0 : n0 = 1024) (a1 : n1 = 200) (a2 : n2 = 200) (a3 : n3 = 200) (a4 : n4 = 200) (a5 : n5 = 512) (a6 : n6 = 512) (a7 : n7 = 201) (a8 : n8 = 201) (a9 : 16 ≤ s1.toInt) (a10 : s1.toInt ≤ 1024) (a11 : 0 ≤ s2.toInt) (a12 : s2.toInt ≤ 200) (a13 : 0 ≤ s14.toInt) (a14 : s14.toInt ≤ 201) (a15 : zz_vs s1.toInt (s16) (s17) s14.toInt) (a16 : zz_vs s1.toInt (s7) (s8) s2.toInt) (a17 : 0 ≤ s3.toInt) (a18 : s3.toInt ≤ 100000) : zz_ok (m_X11_about_X4 K n0 n1 n2 n3 n4 n5 n6 n7 n8 p1 p2 s0 s1 s2 s3 s4 s5 s6 s7 s8 s9 s10 s11 s12 s13 s14 s15 s16 s17) (fun z => z.2.2.1 = s0 ∧ z.2.2.2.1 = s1 ∧ z.2.2.2.2.1 = s2 ∧ z.2.2.2.2.2.1 = s3 ∧ z.2.2.2.2.2.2.1 = s4 ∧ z.2.2.2.2.2.2.2.1 = s5 ∧ z.2.2.2.2.2.2.2.2.1 = s6 ∧ z.2.2.2.2.2.2.2.2.2.1 = s7 ∧ z.2.2.2.2.2.2.2.2.2.2.1 = s8 ∧ z.2.2.2.2.2.2.2.2.2.2.2.1 = s9 ∧ z.2.2.2.2.2.2.2.2.2.2.2.2.1 = s10 ∧ z.2.2.2.2.2.2.2.2.2.2.2.2.2.1 = s11 ∧ z.2.2.2.2.2.2.2.2.2.2.2.2.2.2.1 = s12 ∧ z.2.2.2.2.2.2.2.2.2.2.2.2.2.2.2.1 = s13 ∧ z.2.2.2.2.2.2.2.2.2.2.2.2.2.2.2.2.1 = s14 ∧ z.2.2.2.2.2.2.2.2.2.2.2.2.2.2.2.2.2.1 = s15 ∧ z.2.2.2.2.2.2.2.2.2.2.2.2.2.2.2.2.2.2.1 = s16 ∧ z.2.2.2.2.2.2.2.2.2.2.2.2.2.2.2.2.2.2.2 = s17) := by
  have g1 := zz_rg p1
  have g2 := zz_rg p2
  have g3 := zz_rg s0
  have g4 := zz_rg s1
  have g5 := zz_rg s2
  have g6 := zz_rg s3
  have g7 := zz_rg s4
  have g8 := zz_rg s10
  have g9 := zz_rg s11
  have g10 := zz_rg s14
  have g11 := zz_rg s15
  unfold m_X11_about_X4
  have l13 : (0 : Int32).toInt = 0 := rfl
  refine zz_ok_ite (fun c12 => ?_) (fun c12 => ?_)
  · have c12 := Int32.lt_iff_toInt_lt.mp c12
    refine zz_ok_some ?_
    show s0 = s0 ∧ s1 = s1 ∧ s2 = s2 ∧ s3 = s3 ∧ s4 = s4 ∧ s5 = s5 ∧ s6 = s6 ∧ s7 = s7 ∧ s8 = s8 ∧ s9 = s9 ∧ s10 = s10 ∧ s11 = s11 ∧ s12 = s12 ∧ s13 = s13 ∧ s14 = s14 ∧ s15 = s15 ∧ s16 = s16 ∧ s17 = s17
    exact ⟨rfl, rfl, rfl, rfl, rfl, rfl, rfl, rfl, rfl, rfl, rfl, rfl, rfl, rfl, rfl, rfl, rfl, rfl⟩
  · have c12 := zz_nlt c12
    have l15 : (2 : Int32).toInt = 2 := rfl
    refine zz_ok_ite (fun c14 => ?_) (fun c14 => ?_)
    · have c14 := Int32.le_iff_toInt_le.mp c14
      refine zz_ok_bind (ff_X11_needRoom_X4 K hK T hT n0 n1 n2 n3 n4 n5 n6 n7 n8 s0 s1 s2 s3 s4 s5 s6 s7 s8 s9 s10 s11 s12 s13 s14 s15 s16 s17) ?_
      intro z16 hz16
      obtain ⟨e_3, t_3_0, t_3_1, t_3_2, t_3_3, t_3_4, t_3_5, t_3_6, t_3_7, t_3_8, t_3_9, t_3_10, t_3_11, t_3_12, t_3_13, t_3_14, t_3_15, t_3_16, t_3_17⟩ := z16
      have q17 : zz_em e_3 := hz16.1
      have q18 : t_3_0 = s0 := hz16.2.1
      have q19 : t_3_1 = s1 := hz16.2.2.1
      have q20 : t_3_2 = s2 := hz16.2.2.2.1
      have q21 : t_3_3 = s3 := hz16.2.2.2.2.1
      have q22 : t_3_4 = s4 := hz16.2.2.2.2.2.1
      have q23 : t_3_5 = s5 := hz16.2.2.2.2.2.2.1
      have q24 : t_3_6 = s6 := hz16.2.2.2.2.2.2.2.1
      have q25 : t_3_7 = s7 := hz16.2.2.2.2.2.2.2.2.1
      have q26 : t_3_8 = s8 := hz16.2.2.2.2.2.2.2.2.2.1
      have q27 : t_3_9 = s9 := hz16.2.2.2.2.2.2.2.2.2.2.1
      have q28 : t_3_10 = s10 := hz16.2.2.2.2.2.2.2.2.2.2.2.1
      have q29 : t_3_11 = s11 := hz16.2.2.2.2.2.2.2.2.2.2.2.2.1
      have q30 : t_3_12 = s12 := hz16.2.2.2.2.2.2.2.2.2.2.2.2.2.1
      have q31 : t_3_13 = s13 := hz16.2.2.2.2.2.2.2.2.2.2.2.2.2.2.1
      have q32 : t_3_14 = s14 := hz16.2.2.2.2.2.2.2.2.2.2.2.2.2.2.2.1
      have q33 : t_3_15 = s15 := hz16.2.2.2.2.2.2.2.2.2.2.2.2.2.2.2.2.1
      have q34 : t_3_16 = s16 := hz16.2.2.2.2.2.2.2.2.2.2.2.2.2.2.2.2.2.1
      have q35 : t_3_17 = s17 := hz16.2.2.2.2.2.2.2.2.2.2.2.2.2.2.2.2.2.2
      clear hz16
      have e36 : s0 = t_3_0 := q18.symm
      subst e36
      have e37 : s1 = t_3_1 := q19.symm
      subst e37
      have e38 : s2 = t_3_2 := q20.symm
      subst e38
      have e39 : s3 = t_3_3 := q21.symm
      subst e39
      have e40 : s4 = t_3_4 := q22.symm
      subst e40
      have e41 : s5 = t_3_5 := q23.symm
      subst e41
      have e42 : s6 = t_3_6 := q24.symm
      subst e42
      have e43 : s7 = t_3_7 := q25.symm
      subst e43
      have e44 : s8 = t_3_8 := q26.symm
      subst e44
      have e45 : s9 = t_3_9 := q27.symm
      subst e45
      have e46 : s10 = t_3_10 := q28.symm
      subst e46
      have e47 : s11 = t_3_11 := q29.symm
      subst e47
      have e48 : s12 = t_3_12 := q30.symm
      subst e48
      have e49 : s13 = t_3_13 := q31.symm
      subst e49
      have e50 : s14 = t_3_14 := q32.symm
      subst e50
      have e51 : s15 = t_3_15 := q33.symm
      subst e51
      have e52 : s16 = t_3_16 := q34.symm
      subst e52
      have e53 : s17 = t_3_17 := q35.symm
      subst e53
      show zz_ok (if e_3 = "" then ((m_X11_needBlock_X4 K n0 n1 n2 n3 n4 n5 n6 n7 n8 p1 s0 s1 s2 s3 s4 s5 s6 s7 s8 s9 s10 s11 s12 s13 s14 s15 s16 s17).bind fun ⟨e_4, r_4, t_4_0, t_4_1, t_4_2, t_4_3, t_4_4, t_4_5, t_4_6, t_4_7, t_4_8, t_4_9, t_4_10, t_4_11, t_4_12, t_4_13, t_4_14, t_4_15, t_4_16, t_4_17⟩ => if e_4 = "" then (if p2 = 0 then ((m_X7_placeOf K n0 n1 n2 n3 n4 n5 n6 r_4 t_4_1 t_4_2 t_4_3 t_4_4 t_4_5 t_4_6 t_4_7 t_4_8 t_4_9 t_4_10 t_4_11 t_4_12 t_4_13).bind fun ⟨r_9, t_9_0, t_9_1, t_9_2, t_9_3, t_9_4, t_9_5, t_9_6, t_9_7, t_9_8, t_9_9, t_9_10, t_9_11, t_9_12⟩ => some ("", r_9, t_4_0, t_9_0, t_9_1, t_9_2, t_9_3, t_9_4, t_9_5, t_9_6, t_9_7, t_9_8, t_9_9, t_9_10, t_9_11, t_9_12, t_4_14, t_4_15, t_4_16, t_4_17)) else (if p2 = ((1 : Int32)) then ((m_X7_spanOf K n0 n1 n2 n3 n4 n5 n6 r_4 t_4_1 t_4_2 t_4_3 t_4_4 t_4_5 t_4_6 t_4_7 t_4_8 t_4_9 t_4_10 t_4_11 t_4_12 t_4_13).bind fun ⟨r_8, t_8_0, t_8_1, t_8_2, t_8_3, t_8_4, t_8_5, t_8_6, t_8_7, t_8_8, t_8_9, t_8_10, t_8_11, t_8_12⟩ => some ("", r_8, t_4_0, t_8_0, t_8_1, t_8_2, t_8_3, t_8_4, t_8_5, t_8_6, t_8_7, t_8_8, t_8_9, t_8_10, t_8_11, t_8_12, t_4_14, t_4_15, t_4_16, t_4_17)) else ((m_X7_askedOf K n0 n1 n2 n3 n4 n5 n6 r_4 t_4_1 t_4_2 t_4_3 t_4_4 t_4_5 t_4_6 t_4_7 t_4_8 t_4_9 t_4_10 t_4_11 t_4_12 t_4_13).bind fun ⟨r_7, t_7_0, t_7_1, t_7_2, t_7_3, t_7_4, t_7_5, t_7_6, t_7_7, t_7_8, t_7_9, t_7_10, t_7_11, t_7_12⟩ => some ("", r_7, t_4_0, t_7_0, t_7_1, t_7_2, t_7_3, t_7_4, t_7_5, t_7_6, t_7_7, t_7_8, t_7_9, t_7_10, t_7_11, t_7_12, t_4_14, t_4_15, t_4_16, t_4_17)))) else (some (e_4, 0, t_4_0, t_4_1, t_4_2, t_4_3, t_4_4, t_4_5, t_4_6, t_4_7, t_4_8, t_4_9, t_4_10, t_4_11, t_4_12, t_4_13, t_4_14, t_4_15, t_4_16, t_4_17))) else (some (e_3, 0, s0, s1, s2, s3, s4, s5, s6, s7, s8, s9, s10, s11, s12, s13, s14, s15, s16, s17))) _
      refine zz_ok_ite (fun c54 => ?_) (fun c54 => absurd q17 c54)
      refine zz_ok_bind (ff_X11_needBlock_X4 K hK T hT n0 n1 n2 n3 n4 n5 n6 n7 n8 p1 s0 s1 s2 s3 s4 s5 s6 s7 s8 s9 s10 s11 s12 s13 s14 s15 s16 s17 a0 a1 a2 a3 a4 a5 a6 a7 a8 a9 a10 a11 a12 a13 a14 a15 a16 a17 a18) ?_
      intro z55 hz55
      obtain ⟨e_4, r_4, t_4_0, t_4_1, t_4_2, t_4_3, t_4_4, t_4_5, t_4_6, t_4_7, t_4_8, t_4_9, t_4_10, t_4_11, t_4_12, t_4_13, t_4_14, t_4_15, t_4_16, t_4_17⟩ := z55
      have q56 : zz_nb (s6) (p1) s2.toInt (e_4) r_4.toInt := hz55.1
      have q57 : t_4_0 = s0 := hz55.2.1
      have q58 : t_4_1 = s1 := hz55.2.2.1
      have q59 : t_4_2 = s2 := hz55.2.2.2.1
      have q60 : t_4_3 = s3 := hz55.2.2.2.2.1
      have q61 : t_4_4 = s4 := hz55.2.2.2.2.2.1
      have q62 : t_4_5 = s5 := hz55.2.2.2.2.2.2.1
      have q63 : t_4_6 = s6 := hz55.2.2.2.2.2.2.2.1
      have q64 : t_4_7 = s7 := hz55.2.2.2.2.2.2.2.2.1
      have q65 : t_4_8 = s8 := hz55.2.2.2.2.2.2.2.2.2.1
      have q66 : t_4_9 = s9 := hz55.2.2.2.2.2.2.2.2.2.2.1
      have q67 : t_4_10 = s10 := hz55.2.2.2.2.2.2.2.2.2.2.2.1
      have q68 : t_4_11 = s11 := hz55.2.2.2.2.2.2.2.2.2.2.2.2.1
      have q69 : t_4_12 = s12 := hz55.2.2.2.2.2.2.2.2.2.2.2.2.2.1
      have q70 : t_4_13 = s13 := hz55.2.2.2.2.2.2.2.2.2.2.2.2.2.2.1
      have q71 : t_4_14 = s14 := hz55.2.2.2.2.2.2.2.2.2.2.2.2.2.2.2.1
      have q72 : t_4_15 = s15 := hz55.2.2.2.2.2.2.2.2.2.2.2.2.2.2.2.2.1
      have q73 : t_4_16 = s16 := hz55.2.2.2.2.2.2.2.2.2.2.2.2.2.2.2.2.2.1
      have q74 : t_4_17 = s17 := hz55.2.2.2.2.2.2.2.2.2.2.2.2.2.2.2.2.2.2
      clear hz55
      have e75 : s0 = t_4_0 := q57.symm
      subst e75
      have e76 : s1 = t_4_1 := q58.symm
      subst e76
      have e77 : s2 = t_4_2 := q59.symm
      subst e77
      have e78 : s3 = t_4_3 := q60.symm
      subst e78
      have e79 : s4 = t_4_4 := q61.symm
      subst e79
      have e80 : s5 = t_4_5 := q62.symm
      subst e80
      have e81 : s6 = t_4_6 := q63.symm
      subst e81
      have e82 : s7 = t_4_7 := q64.symm
      subst e82
      have e83 : s8 = t_4_8 := q65.symm
      subst e83
      have e84 : s9 = t_4_9 := q66.symm
      subst e84
      have e85 : s10 = t_4_10 := q67.symm
      subst e85
      have e86 : s11 = t_4_11 := q68.symm
      subst e86
      have e87 : s12 = t_4_12 := q69.symm
      subst e87
      have e88 : s13 = t_4_13 := q70.symm
      subst e88
      have e89 : s14 = t_4_14 := q71.symm
      subst e89
      have e90 : s15 = t_4_15 := q72.symm
      subst e90
      have e91 : s16 = t_4_16 := q73.symm
      subst e91
      have e92 : s17 = t_4_17 := q74.symm
      subst e92
      have g93 := zz_rg r_4
      show zz_ok (if e_4 = "" then (if p2 = 0 then ((m_X7_placeOf K n0 n1 n2 n3 n4 n5 n6 r_4 s1 s2 s3 s4 s5 s6 s7 s8 s9 s10 s11 s12 s13).bind fun ⟨r_9, t_9_0, t_9_1, t_9_2, t_9_3, t_9_4, t_9_5, t_9_6, t_9_7, t_9_8, t_9_9, t_9_10, t_9_11, t_9_12⟩ => some ("", r_9, s0, t_9_0, t_9_1, t_9_2, t_9_3, t_9_4, t_9_5, t_9_6, t_9_7, t_9_8, t_9_9, t_9_10, t_9_11, t_9_12, s14, s15, s16, s17)) else (if p2 = ((1 : Int32)) then ((m_X7_spanOf K n0 n1 n2 n3 n4 n5 n6 r_4 s1 s2 s3 s4 s5 s6 s7 s8 s9 s10 s11 s12 s13).bind fun ⟨r_8, t_8_0, t_8_1, t_8_2, t_8_3, t_8_4, t_8_5, t_8_6, t_8_7, t_8_8, t_8_9, t_8_10, t_8_11, t_8_12⟩ => some ("", r_8, s0, t_8_0, t_8_1, t_8_2, t_8_3, t_8_4, t_8_5, t_8_6, t_8_7, t_8_8, t_8_9, t_8_10, t_8_11, t_8_12, s14, s15, s16, s17)) else ((m_X7_askedOf K n0 n1 n2 n3 n4 n5 n6 r_4 s1 s2 s3 s4 s5 s6 s7 s8 s9 s10 s11 s12 s13).bind fun ⟨r_7, t_7_0, t_7_1, t_7_2, t_7_3, t_7_4, t_7_5, t_7_6, t_7_7, t_7_8, t_7_9, t_7_10, t_7_11, t_7_12⟩ => some ("", r_7, s0, t_7_0, t_7_1, t_7_2, t_7_3, t_7_4, t_7_5, t_7_6, t_7_7, t_7_8, t_7_9, t_7_10, t_7_11, t_7_12, s14, s15, s16, s17)))) else (some (e_4, 0, s0, s1, s2, s3, s4, s5, s6, s7, s8, s9, s10, s11, s12, s13, s14, s15, s16, s17))) _
      refine zz_ok_ite (fun c94 => ?_) (fun c94 => ?_)
      · skip
        have nb9 := zz_nb_rg (by assumption : zz_nb s6 p1 s2.toInt e_4 _) c94
        refine zz_ok_ite (fun c95 => ?_) (fun c95 => ?_)
        · have c95 := congrArg Int32.toInt c95
          refine zz_ok_bind (ff_X7_placeOf K hK T hT n0 n1 n2 n3 n4 n5 n6 r_4 s1 s2 s3 s4 s5 s6 s7 s8 s9 s10 s11 s12 s13 a2 (by omega) (by omega) a12) ?_
          intro z96 hz96
          obtain ⟨r_9, t_9_0, t_9_1, t_9_2, t_9_3, t_9_4, t_9_5, t_9_6, t_9_7, t_9_8, t_9_9, t_9_10, t_9_11, t_9_12⟩ := z96
          have q97 : r_9 = s7 r_4.toNatClampNeg := hz96.1
          have q98 : t_9_0 = s1 := hz96.2.1
          have q99 : t_9_1 = s2 := hz96.2.2.1
          have q100 : t_9_2 = s3 := hz96.2.2.2.1
          have q101 : t_9_3 = s4 := hz96.2.2.2.2.1
          have q102 : t_9_4 = s5 := hz96.2.2.2.2.2.1
          have q103 : t_9_5 = s6 := hz96.2.2.2.2.2.2.1
          have q104 : t_9_6 = s7 := hz96.2.2.2.2.2.2.2.1
          have q105 : t_9_7 = s8 := hz96.2.2.2.2.2.2.2.2.1
          have q106 : t_9_8 = s9 := hz96.2.2.2.2.2.2.2.2.2.1
          have q107 : t_9_9 = s10 := hz96.2.2.2.2.2.2.2.2.2.2.1
          have q108 : t_9_10 = s11 := hz96.2.2.2.2.2.2.2.2.2.2.2.1
          have q109 : t_9_11 = s12 := hz96.2.2.2.2.2.2.2.2.2.2.2.2.1
          have q110 : t_9_12 = s13 := hz96.2.2.2.2.2.2.2.2.2.2.2.2.2
          clear hz96
          have e111 : s7 r_4.toNatClampNeg = r_9 := q97.symm
          subst e111
          have e112 : s1 = t_9_0 := q98.symm
          subst e112
          have e113 : s2 = t_9_1 := q99.symm
          subst e113
          have e114 : s3 = t_9_2 := q100.symm
          subst e114
          have e115 : s4 = t_9_3 := q101.symm
          subst e115
          have e116 : s5 = t_9_4 := q102.symm
          subst e116
          have e117 : s6 = t_9_5 := q103.symm
          subst e117
          have e118 : s7 = t_9_6 := q104.symm
          subst e118
          have e119 : s8 = t_9_7 := q105.symm
          subst e119
          have e120 : s9 = t_9_8 := q106.symm
          subst e120
          have e121 : s10 = t_9_9 := q107.symm
          subst e121
          have e122 : s11 = t_9_10 := q108.symm
          subst e122
          have e123 : s12 = t_9_11 := q109.symm
          subst e123
          have e124 : s13 = t_9_12 := q110.symm
          subst e124
          show zz_ok (some ("", (s7 r_4.toNatClampNeg), s0, s1, s2, s3, s4, s5, s6, s7, s8, s9, s10, s11, s12, s13, s14, s15, s16, s17)) _
          refine zz_ok_some ?_
          show s0 = s0 ∧ s1 = s1 ∧ s2 = s2 ∧ s3 = s3 ∧ s4 = s4 ∧ s5 = s5 ∧ s6 = s6 ∧ s7 = s7 ∧ s8 = s8 ∧ s9 = s9 ∧ s10 = s10 ∧ s11 = s11 ∧ s12 = s12 ∧ s13 = s13 ∧ s14 = s14 ∧ s15 = s15 ∧ s16 = s16 ∧ s17 = s17
          exact ⟨rfl, rfl, rfl, rfl, rfl, rfl, rfl, rfl, rfl, rfl, rfl, rfl, rfl, rfl, rfl, rfl, rfl, rfl⟩
        · have c95 := zz_neq c95
          have l126 : (1 : Int32).toInt = 1 := rfl
          refine zz_ok_ite (fun c125 => ?_) (fun c125 => ?_)
          · have c125 := congrArg Int32.toInt c125
            refine zz_ok_bind (ff_X7_spanOf K hK T hT n0 n1 n2 n3 n4 n5 n6 r_4 s1 s2 s3 s4 s5 s6 s7 s8 s9 s10 s11 s12 s13 a3 (by omega) (by omega) a12) ?_
            intro z127 hz127
            obtain ⟨r_8, t_8_0, t_8_1, t_8_2, t_8_3, t_8_4, t_8_5, t_8_6, t_8_7, t_8_8, t_8_9, t_8_10, t_8_11, t_8_12⟩ := z127
            have q128 : r_8 = s8 r_4.toNatClampNeg := hz127.1
            have q129 : t_8_0 = s1 := hz127.2.1
            have q130 : t_8_1 = s2 := hz127.2.2.1
            have q131 : t_8_2 = s3 := hz127.2.2.2.1
            have q132 : t_8_3 = s4 := hz127.2.2.2.2.1
            have q133 : t_8_4 = s5 := hz127.2.2.2.2.2.1
            have q134 : t_8_5 = s6 := hz127.2.2.2.2.2.2.1
            have q135 : t_8_6 = s7 := hz127.2.2.2.2.2.2.2.1
            have q136 : t_8_7 = s8 := hz127.2.2.2.2.2.2.2.2.1
            have q137 : t_8_8 = s9 := hz127.2.2.2.2.2.2.2.2.2.1
            have q138 : t_8_9 = s10 := hz127.2.2.2.2.2.2.2.2.2.2.1
            have q139 : t_8_10 = s11 := hz127.2.2.2.2.2.2.2.2.2.2.2.1
            have q140 : t_8_11 = s12 := hz127.2.2.2.2.2.2.2.2.2.2.2.2.1
            have q141 : t_8_12 = s13 := hz127.2.2.2.2.2.2.2.2.2.2.2.2.2
            clear hz127
            have e142 : s8 r_4.toNatClampNeg = r_8 := q128.symm
            subst e142
            have e143 : s1 = t_8_0 := q129.symm
            subst e143
            have e144 : s2 = t_8_1 := q130.symm
            subst e144
            have e145 : s3 = t_8_2 := q131.symm
            subst e145
            have e146 : s4 = t_8_3 := q132.symm
            subst e146
            have e147 : s5 = t_8_4 := q133.symm
            subst e147
            have e148 : s6 = t_8_5 := q134.symm
            subst e148
            have e149 : s7 = t_8_6 := q135.symm
            subst e149
            have e150 : s8 = t_8_7 := q136.symm
            subst e150
            have e151 : s9 = t_8_8 := q137.symm
            subst e151
            have e152 : s10 = t_8_9 := q138.symm
            subst e152
            have e153 : s11 = t_8_10 := q139.symm
            subst e153
            have e154 : s12 = t_8_11 := q140.symm
            subst e154
            have e155 : s13 = t_8_12 := q141.symm
            subst e155
            show zz_ok (some ("", (s8 r_4.toNatClampNeg), s0, s1, s2, s3, s4, s5, s6, s7, s8, s9, s10, s11, s12, s13, s14, s15, s16, s17)) _
            refine zz_ok_some ?_
            show s0 = s0 ∧ s1 = s1 ∧ s2 = s2 ∧ s3 = s3 ∧ s4 = s4 ∧ s5 = s5 ∧ s6 = s6 ∧ s7 = s7 ∧ s8 = s8 ∧ s9 = s9 ∧ s10 = s10 ∧ s11 = s11 ∧ s12 = s12 ∧ s13 = s13 ∧ s14 = s14 ∧ s15 = s15 ∧ s16 = s16 ∧ s17 = s17
            exact ⟨rfl, rfl, rfl, rfl, rfl, rfl, rfl, rfl, rfl, rfl, rfl, rfl, rfl, rfl, rfl, rfl, rfl, rfl⟩
          · have c125 := zz_neq c125
            refine zz_ok_bind (ff_X7_askedOf K hK T hT n0 n1 n2 n3 n4 n5 n6 r_4 s1 s2 s3 s4 s5 s6 s7 s8 s9 s10 s11 s12 s13 a4 (by omega) (by omega) a12) ?_
            intro z156 hz156
            obtain ⟨r_7, t_7_0, t_7_1, t_7_2, t_7_3, t_7_4, t_7_5, t_7_6, t_7_7, t_7_8, t_7_9, t_7_10, t_7_11, t_7_12⟩ := z156
            have q157 : r_7 = s9 r_4.toNatClampNeg := hz156.1
            have q158 : t_7_0 = s1 := hz156.2.1
            have q159 : t_7_1 = s2 := hz156.2.2.1
            have q160 : t_7_2 = s3 := hz156.2.2.2.1
            have q161 : t_7_3 = s4 := hz156.2.2.2.2.1
            have q162 : t_7_4 = s5 := hz156.2.2.2.2.2.1
            have q163 : t_7_5 = s6 := hz156.2.2.2.2.2.2.1
            have q164 : t_7_6 = s7 := hz156.2.2.2.2.2.2.2.1
            have q165 : t_7_7 = s8 := hz156.2.2.2.2.2.2.2.2.1
            have q166 : t_7_8 = s9 := hz156.2.2.2.2.2.2.2.2.2.1
            have q167 : t_7_9 = s10 := hz156.2.2.2.2.2.2.2.2.2.2.1
            have q168 : t_7_10 = s11 := hz156.2.2.2.2.2.2.2.2.2.2.2.1
            have q169 : t_7_11 = s12 := hz156.2.2.2.2.2.2.2.2.2.2.2.2.1
            have q170 : t_7_12 = s13 := hz156.2.2.2.2.2.2.2.2.2.2.2.2.2
            clear hz156
            have e171 : s9 r_4.toNatClampNeg = r_7 := q157.symm
            subst e171
            have e172 : s1 = t_7_0 := q158.symm
            subst e172
            have e173 : s2 = t_7_1 := q159.symm
            subst e173
            have e174 : s3 = t_7_2 := q160.symm
            subst e174
            have e175 : s4 = t_7_3 := q161.symm
            subst e175
            have e176 : s5 = t_7_4 := q162.symm
            subst e176
            have e177 : s6 = t_7_5 := q163.symm
            subst e177
            have e178 : s7 = t_7_6 := q164.symm
            subst e178
            have e179 : s8 = t_7_7 := q165.symm
            subst e179
            have e180 : s9 = t_7_8 := q166.symm
            subst e180
            have e181 : s10 = t_7_9 := q167.symm
            subst e181
            have e182 : s11 = t_7_10 := q168.symm
            subst e182
            have e183 : s12 = t_7_11 := q169.symm
            subst e183
            have e184 : s13 = t_7_12 := q170.symm
            subst e184
            show zz_ok (some ("", (s9 r_4.toNatClampNeg), s0, s1, s2, s3, s4, s5, s6, s7, s8, s9, s10, s11, s12, s13, s14, s15, s16, s17)) _
            refine zz_ok_some ?_
            show s0 = s0 ∧ s1 = s1 ∧ s2 = s2 ∧ s3 = s3 ∧ s4 = s4 ∧ s5 = s5 ∧ s6 = s6 ∧ s7 = s7 ∧ s8 = s8 ∧ s9 = s9 ∧ s10 = s10 ∧ s11 = s11 ∧ s12 = s12 ∧ s13 = s13 ∧ s14 = s14 ∧ s15 = s15 ∧ s16 = s16 ∧ s17 = s17
            exact ⟨rfl, rfl, rfl, rfl, rfl, rfl, rfl, rfl, rfl, rfl, rfl, rfl, rfl, rfl, rfl, rfl, rfl, rfl⟩
      · skip
        refine zz_ok_some ?_
        show s0 = s0 ∧ s1 = s1 ∧ s2 = s2 ∧ s3 = s3 ∧ s4 = s4 ∧ s5 = s5 ∧ s6 = s6 ∧ s7 = s7 ∧ s8 = s8 ∧ s9 = s9 ∧ s10 = s10 ∧ s11 = s11 ∧ s12 = s12 ∧ s13 = s13 ∧ s14 = s14 ∧ s15 = s15 ∧ s16 = s16 ∧ s17 = s17
        exact ⟨rfl, rfl, rfl, rfl, rfl, rfl, rfl, rfl, rfl, rfl, rfl, rfl, rfl, rfl, rfl, rfl, rfl, rfl⟩
    · have c14 := zz_nle c14
      refine zz_ok_some ?_
      show s0 = s0 ∧ s1 = s1 ∧ s2 = s2 ∧ s3 = s3 ∧ s4 = s4 ∧ s5 = s5 ∧ s6 = s6 ∧ s7 = s7 ∧ s8 = s8 ∧ s9 = s9 ∧ s10 = s10 ∧ s11 = s11 ∧ s12 = s12 ∧ s13 = s13 ∧ s14 = s14 ∧ s15 = s15 ∧ s16 = s16 ∧ s17 = s17
      exact ⟨rfl, rfl, rfl, rfl, rfl, rfl, rfl, rfl, rfl, rfl, rfl, rfl, rfl, rfl, rfl, rfl, rfl, rfl⟩
set_option maxHeartbeats 4000000 in
theorem ff_X11_at_X4 (K : Nat) (hK : 1099511627776 ≤ K) (T : Nat) (hT : T ≤ 900) (n0 : Nat) (n1 : Nat) (n2 : Nat) (n3 : Nat) (n4 : Nat) (n5 : Nat) (n6 : Nat) (n7 : Nat) (n8 : Nat) (p1 : Int32) (s0 : Int32) (s1 : Int32) (s2 : Int32) (s3 : Int32) (s4 : Int32) (s5 : Nat → Int32) (s6 : Nat → Int32) (s7 : Nat → Int32) (s8 : Nat → Int32) (s9 : Nat → Int32) (s10 : Int32) (s11 : Int32) (s12 : Nat → Int32) (s13 : Nat → Int32) (s14 : Int32) (s15 : Int32) (s16 : Nat → Int32) (s17 : Nat → Int32) (a0 : n0 = 1024) (a1 : n1 = 200) (a2 : n2 = 200) (a3 : n3 = 200) (a4 : n4 = 200) (a5 : n5 = 512) (a6 : n6 = 512) (a7 : n7 = 201) (a8 : n8 = 201) (a9 : 16 ≤ s1.toInt) (a10 : s1.toInt ≤ 1024) (a11 : 0 ≤ s2.toInt) (a12 : s2.toInt ≤ 200) (a13 : 0 ≤ s14.toInt) (a14 : s14.toInt ≤ 201) (a15 : zz_vs s1.toInt (s16) (s17) s14.toInt) (a16 : zz_vs s1.toInt (s7) (s8) s2.toInt) (a17 : 0 ≤ s3.toInt) (a18 : s3.toInt ≤ 100000) : zz_ok (m_X11_at_X4 K n0 n1 n2 n3 n4 n5 n6 n7 n8 p1 s0 s1 s2 s3 s4 s5 s6 s7 s8 s9 s10 s11 s12 s13 s14 s15 s16 s17) (fun z => z.2.2.1 = s0 ∧ z.2.2.2.1 = s1 ∧ z.2.2.2.2.1 = s2 ∧ z.2.2.2.2.2.1 = s3 ∧ z.2.2.2.2.2.2.1 = s4 ∧ z.2.2.2.2.2.2.2.1 = s5 ∧ z.2.2.2.2.2.2.2.2.1 = s6 ∧ z.2.2.2.2.2.2.2.2.2.1 = s7 ∧ z.2.2.2.2.2.2.2.2.2.2.1 = s8 ∧ z.2.2.2.2.2.2.2.2.2.2.2.1 = s9 ∧ z.2.2.2.2.2.2.2.2.2.2.2.2.1 = s10 ∧ z.2.2.2.2.2.2.2.2.2.2.2.2.2.1 = s11 ∧ z.2.2.2.2.2.2.2.2.2.2.2.2.2.2.1 = s12 ∧ z.2.2.2.2.2.2.2.2.2.2.2.2.2.2.2.1 = s13 ∧ z.2.2.2.2.2.2.2.2.2.2.2.2.2.2.2.2.1 = s14 ∧ z.2.2.2.2.2.2.2.2.2.2.2.2.2.2.2.2.2.1 = s15 ∧ z.2.2.2.2.2.2.2.2.2.2.2.2.2.2.2.2.2.2.1 = s16 ∧ z.2.2.2.2.2.2.2.2.2.2.2.2.2.2.2.2.2.2.2 = s17) := by
  have g1 := zz_rg p1
  have g2 := zz_rg s0
  have g3 := zz_rg s1
  have g4 := zz_rg s2
  have g5 := zz_rg s3
  have g6 := zz_rg s4
  have g7 := zz_rg s10
  have g8 := zz_rg s11
  have g9 := zz_rg s14
  have g10 := zz_rg s15
  unfold m_X11_at_X4
  refine zz_ok_bind (ff_X7_words K hK T hT n0 n1 n2 n3 n4 n5 n6 s1 s2 s3 s4 s5 s6 s7 s8 s9 s10 s11 s12 s13) ?_
  intro z11 hz11
  obtain ⟨r_1, t_1_0, t_1_1, t_1_2, t_1_3, t_1_4, t_1_5, t_1_6, t_1_7, t_1_8, t_1_9, t_1_10, t_1_11, t_1_12⟩ := z11
  have q12 : r_1 = s1 := hz11.1
  have q13 : t_1_0 = s1 := hz11.2.1
  have q14 : t_1_1 = s2 := hz11.2.2.1
  have q15 : t_1_2 = s3 := hz11.2.2.2.1
  have q16 : t_1_3 = s4 := hz11.2.2.2.2.1
  have q17 : t_1_4 = s5 := hz11.2.2.2.2.2.1
  have q18 : t_1_5 = s6 := hz11.2.2.2.2.2.2.1
  have q19 : t_1_6 = s7 := hz11.2.2.2.2.2.2.2.1
  have q20 : t_1_7 = s8 := hz11.2.2.2.2.2.2.2.2.1
  have q21 : t_1_8 = s9 := hz11.2.2.2.2.2.2.2.2.2.1
  have q22 : t_1_9 = s10 := hz11.2.2.2.2.2.2.2.2.2.2.1
  have q23 : t_1_10 = s11 := hz11.2.2.2.2.2.2.2.2.2.2.2.1
  have q24 : t_1_11 = s12 := hz11.2.2.2.2.2.2.2.2.2.2.2.2.1
  have q25 : t_1_12 = s13 := hz11.2.2.2.2.2.2.2.2.2.2.2.2.2
  clear hz11
  have e26 : s1 = r_1 := q12.symm
  subst e26
  have e27 : s1 = t_1_0 := q13.symm
  subst e27
  have e28 : s2 = t_1_1 := q14.symm
  subst e28
  have e29 : s3 = t_1_2 := q15.symm
  subst e29
  have e30 : s4 = t_1_3 := q16.symm
  subst e30
  have e31 : s5 = t_1_4 := q17.symm
  subst e31
  have e32 : s6 = t_1_5 := q18.symm
  subst e32
  have e33 : s7 = t_1_6 := q19.symm
  subst e33
  have e34 : s8 = t_1_7 := q20.symm
  subst e34
  have e35 : s9 = t_1_8 := q21.symm
  subst e35
  have e36 : s10 = t_1_9 := q22.symm
  subst e36
  have e37 : s11 = t_1_10 := q23.symm
  subst e37
  have e38 : s12 = t_1_11 := q24.symm
  subst e38
  have e39 : s13 = t_1_12 := q25.symm
  subst e39
  show zz_ok (if p1 < 0 then (some ("java/lang/IllegalArgumentException", 0, s0, s1, s2, s3, s4, s5, s6, s7, s8, s9, s10, s11, s12, s13, s14, s15, s16, s17)) else (if p1 < s1 then ((m_X11_needRoom_X4 K n0 n1 n2 n3 n4 n5 n6 n7 n8 s0 s1 s2 s3 s4 s5 s6 s7 s8 s9 s10 s11 s12 s13 s14 s15 s16 s17).bind fun ⟨e_4, t_4_0, t_4_1, t_4_2, t_4_3, t_4_4, t_4_5, t_4_6, t_4_7, t_4_8, t_4_9, t_4_10, t_4_11, t_4_12, t_4_13, t_4_14, t_4_15, t_4_16, t_4_17⟩ => if e_4 = "" then ((m_X7_blockAt K n0 n1 n2 n3 n4 n5 n6 p1 t_4_1 t_4_2 t_4_3 t_4_4 t_4_5 t_4_6 t_4_7 t_4_8 t_4_9 t_4_10 t_4_11 t_4_12 t_4_13).bind fun ⟨r_5, t_5_0, t_5_1, t_5_2, t_5_3, t_5_4, t_5_5, t_5_6, t_5_7, t_5_8, t_5_9, t_5_10, t_5_11, t_5_12⟩ => some ("", r_5, t_4_0, t_5_0, t_5_1, t_5_2, t_5_3, t_5_4, t_5_5, t_5_6, t_5_7, t_5_8, t_5_9, t_5_10, t_5_11, t_5_12, t_4_14, t_4_15, t_4_16, t_4_17)) else (some (e_4, 0, t_4_0, t_4_1, t_4_2, t_4_3, t_4_4, t_4_5, t_4_6, t_4_7, t_4_8, t_4_9, t_4_10, t_4_11, t_4_12, t_4_13, t_4_14, t_4_15, t_4_16, t_4_17))) else (some ("java/lang/IllegalArgumentException", 0, s0, s1, s2, s3, s4, s5, s6, s7, s8, s9, s10, s11, s12, s13, s14, s15, s16, s17)))) _
  have l41 : (0 : Int32).toInt = 0 := rfl
  refine zz_ok_ite (fun c40 => ?_) (fun c40 => ?_)
  · have c40 := Int32.lt_iff_toInt_lt.mp c40
    refine zz_ok_some ?_
    show s0 = s0 ∧ s1 = s1 ∧ s2 = s2 ∧ s3 = s3 ∧ s4 = s4 ∧ s5 = s5 ∧ s6 = s6 ∧ s7 = s7 ∧ s8 = s8 ∧ s9 = s9 ∧ s10 = s10 ∧ s11 = s11 ∧ s12 = s12 ∧ s13 = s13 ∧ s14 = s14 ∧ s15 = s15 ∧ s16 = s16 ∧ s17 = s17
    exact ⟨rfl, rfl, rfl, rfl, rfl, rfl, rfl, rfl, rfl, rfl, rfl, rfl, rfl, rfl, rfl, rfl, rfl, rfl⟩
  · have c40 := zz_nlt c40
    refine zz_ok_ite (fun c42 => ?_) (fun c42 => ?_)
    · have c42 := Int32.lt_iff_toInt_lt.mp c42
      refine zz_ok_bind (ff_X11_needRoom_X4 K hK T hT n0 n1 n2 n3 n4 n5 n6 n7 n8 s0 s1 s2 s3 s4 s5 s6 s7 s8 s9 s10 s11 s12 s13 s14 s15 s16 s17) ?_
      intro z43 hz43
      obtain ⟨e_4, t_4_0, t_4_1, t_4_2, t_4_3, t_4_4, t_4_5, t_4_6, t_4_7, t_4_8, t_4_9, t_4_10, t_4_11, t_4_12, t_4_13, t_4_14, t_4_15, t_4_16, t_4_17⟩ := z43
      have q44 : zz_em e_4 := hz43.1
      have q45 : t_4_0 = s0 := hz43.2.1
      have q46 : t_4_1 = s1 := hz43.2.2.1
      have q47 : t_4_2 = s2 := hz43.2.2.2.1
      have q48 : t_4_3 = s3 := hz43.2.2.2.2.1
      have q49 : t_4_4 = s4 := hz43.2.2.2.2.2.1
      have q50 : t_4_5 = s5 := hz43.2.2.2.2.2.2.1
      have q51 : t_4_6 = s6 := hz43.2.2.2.2.2.2.2.1
      have q52 : t_4_7 = s7 := hz43.2.2.2.2.2.2.2.2.1
      have q53 : t_4_8 = s8 := hz43.2.2.2.2.2.2.2.2.2.1
      have q54 : t_4_9 = s9 := hz43.2.2.2.2.2.2.2.2.2.2.1
      have q55 : t_4_10 = s10 := hz43.2.2.2.2.2.2.2.2.2.2.2.1
      have q56 : t_4_11 = s11 := hz43.2.2.2.2.2.2.2.2.2.2.2.2.1
      have q57 : t_4_12 = s12 := hz43.2.2.2.2.2.2.2.2.2.2.2.2.2.1
      have q58 : t_4_13 = s13 := hz43.2.2.2.2.2.2.2.2.2.2.2.2.2.2.1
      have q59 : t_4_14 = s14 := hz43.2.2.2.2.2.2.2.2.2.2.2.2.2.2.2.1
      have q60 : t_4_15 = s15 := hz43.2.2.2.2.2.2.2.2.2.2.2.2.2.2.2.2.1
      have q61 : t_4_16 = s16 := hz43.2.2.2.2.2.2.2.2.2.2.2.2.2.2.2.2.2.1
      have q62 : t_4_17 = s17 := hz43.2.2.2.2.2.2.2.2.2.2.2.2.2.2.2.2.2.2
      clear hz43
      have e63 : s0 = t_4_0 := q45.symm
      subst e63
      have e64 : s1 = t_4_1 := q46.symm
      subst e64
      have e65 : s2 = t_4_2 := q47.symm
      subst e65
      have e66 : s3 = t_4_3 := q48.symm
      subst e66
      have e67 : s4 = t_4_4 := q49.symm
      subst e67
      have e68 : s5 = t_4_5 := q50.symm
      subst e68
      have e69 : s6 = t_4_6 := q51.symm
      subst e69
      have e70 : s7 = t_4_7 := q52.symm
      subst e70
      have e71 : s8 = t_4_8 := q53.symm
      subst e71
      have e72 : s9 = t_4_9 := q54.symm
      subst e72
      have e73 : s10 = t_4_10 := q55.symm
      subst e73
      have e74 : s11 = t_4_11 := q56.symm
      subst e74
      have e75 : s12 = t_4_12 := q57.symm
      subst e75
      have e76 : s13 = t_4_13 := q58.symm
      subst e76
      have e77 : s14 = t_4_14 := q59.symm
      subst e77
      have e78 : s15 = t_4_15 := q60.symm
      subst e78
      have e79 : s16 = t_4_16 := q61.symm
      subst e79
      have e80 : s17 = t_4_17 := q62.symm
      subst e80
      show zz_ok (if e_4 = "" then ((m_X7_blockAt K n0 n1 n2 n3 n4 n5 n6 p1 s1 s2 s3 s4 s5 s6 s7 s8 s9 s10 s11 s12 s13).bind fun ⟨r_5, t_5_0, t_5_1, t_5_2, t_5_3, t_5_4, t_5_5, t_5_6, t_5_7, t_5_8, t_5_9, t_5_10, t_5_11, t_5_12⟩ => some ("", r_5, s0, t_5_0, t_5_1, t_5_2, t_5_3, t_5_4, t_5_5, t_5_6, t_5_7, t_5_8, t_5_9, t_5_10, t_5_11, t_5_12, s14, s15, s16, s17)) else (some (e_4, 0, s0, s1, s2, s3, s4, s5, s6, s7, s8, s9, s10, s11, s12, s13, s14, s15, s16, s17))) _
      refine zz_ok_ite (fun c81 => ?_) (fun c81 => absurd q44 c81)
      refine zz_ok_bind (ff_X7_blockAt K hK T hT n0 n1 n2 n3 n4 n5 n6 p1 s1 s2 s3 s4 s5 s6 s7 s8 s9 s10 s11 s12 s13 a0 a1 a2 a3 a4 a5 a6 (by omega) (by omega) a10) ?_
      intro z82 hz82
      obtain ⟨r_5, t_5_0, t_5_1, t_5_2, t_5_3, t_5_4, t_5_5, t_5_6, t_5_7, t_5_8, t_5_9, t_5_10, t_5_11, t_5_12⟩ := z82
      have q83 : zz_bat (s5) (p1) r_5.toInt := hz82.1
      have q84 : t_5_0 = s1 := hz82.2.1
      have q85 : t_5_1 = s2 := hz82.2.2.1
      have q86 : t_5_2 = s3 := hz82.2.2.2.1
      have q87 : t_5_3 = s4 := hz82.2.2.2.2.1
      have q88 : t_5_4 = s5 := hz82.2.2.2.2.2.1
      have q89 : t_5_5 = s6 := hz82.2.2.2.2.2.2.1
      have q90 : t_5_6 = s7 := hz82.2.2.2.2.2.2.2.1
      have q91 : t_5_7 = s8 := hz82.2.2.2.2.2.2.2.2.1
      have q92 : t_5_8 = s9 := hz82.2.2.2.2.2.2.2.2.2.1
      have q93 : t_5_9 = s10 := hz82.2.2.2.2.2.2.2.2.2.2.1
      have q94 : t_5_10 = s11 := hz82.2.2.2.2.2.2.2.2.2.2.2.1
      have q95 : t_5_11 = s12 := hz82.2.2.2.2.2.2.2.2.2.2.2.2.1
      have q96 : t_5_12 = s13 := hz82.2.2.2.2.2.2.2.2.2.2.2.2.2
      clear hz82
      have e97 : s1 = t_5_0 := q84.symm
      subst e97
      have e98 : s2 = t_5_1 := q85.symm
      subst e98
      have e99 : s3 = t_5_2 := q86.symm
      subst e99
      have e100 : s4 = t_5_3 := q87.symm
      subst e100
      have e101 : s5 = t_5_4 := q88.symm
      subst e101
      have e102 : s6 = t_5_5 := q89.symm
      subst e102
      have e103 : s7 = t_5_6 := q90.symm
      subst e103
      have e104 : s8 = t_5_7 := q91.symm
      subst e104
      have e105 : s9 = t_5_8 := q92.symm
      subst e105
      have e106 : s10 = t_5_9 := q93.symm
      subst e106
      have e107 : s11 = t_5_10 := q94.symm
      subst e107
      have e108 : s12 = t_5_11 := q95.symm
      subst e108
      have e109 : s13 = t_5_12 := q96.symm
      subst e109
      have g110 := zz_rg r_5
      show zz_ok (some ("", r_5, s0, s1, s2, s3, s4, s5, s6, s7, s8, s9, s10, s11, s12, s13, s14, s15, s16, s17)) _
      refine zz_ok_some ?_
      show s0 = s0 ∧ s1 = s1 ∧ s2 = s2 ∧ s3 = s3 ∧ s4 = s4 ∧ s5 = s5 ∧ s6 = s6 ∧ s7 = s7 ∧ s8 = s8 ∧ s9 = s9 ∧ s10 = s10 ∧ s11 = s11 ∧ s12 = s12 ∧ s13 = s13 ∧ s14 = s14 ∧ s15 = s15 ∧ s16 = s16 ∧ s17 = s17
      exact ⟨rfl, rfl, rfl, rfl, rfl, rfl, rfl, rfl, rfl, rfl, rfl, rfl, rfl, rfl, rfl, rfl, rfl, rfl⟩
    · have c42 := zz_nlt c42
      refine zz_ok_some ?_
      show s0 = s0 ∧ s1 = s1 ∧ s2 = s2 ∧ s3 = s3 ∧ s4 = s4 ∧ s5 = s5 ∧ s6 = s6 ∧ s7 = s7 ∧ s8 = s8 ∧ s9 = s9 ∧ s10 = s10 ∧ s11 = s11 ∧ s12 = s12 ∧ s13 = s13 ∧ s14 = s14 ∧ s15 = s15 ∧ s16 = s16 ∧ s17 = s17
      exact ⟨rfl, rfl, rfl, rfl, rfl, rfl, rfl, rfl, rfl, rfl, rfl, rfl, rfl, rfl, rfl, rfl, rfl, rfl⟩
set_option maxHeartbeats 4000000 in
theorem ff_X11_run_X4 (K : Nat) (hK : 1099511627776 ≤ K) (T : Nat) (hT : T ≤ 900) (n0 : Nat) (n1 : Nat) (n2 : Nat) (n3 : Nat) (n4 : Nat) (n5 : Nat) (n6 : Nat) (n7 : Nat) (n8 : Nat) (p1 : Int32) (p2 : Int32) (s0 : Int32) (s1 : Int32) (s2 : Int32) (s3 : Int32) (s4 : Int32) (s5 : Nat → Int32) (s6 : Nat → Int32) (s7 : Nat → Int32) (s8 : Nat → Int32) (s9 : Nat → Int32) (s10 : Int32) (s11 : Int32) (s12 : Nat → Int32) (s13 : Nat → Int32) (s14 : Int32) (s15 : Int32) (s16 : Nat → Int32) (s17 : Nat → Int32) (a0 : n0 = 1024) (a1 : n1 = 200) (a2 : n2 = 200) (a3 : n3 = 200) (a4 : n4 = 200) (a5 : n5 = 512) (a6 : n6 = 512) (a7 : n7 = 201) (a8 : n8 = 201) (a9 : 16 ≤ s1.toInt) (a10 : s1.toInt ≤ 1024) (a11 : 0 ≤ s2.toInt) (a12 : s2.toInt ≤ 200) (a13 : 0 ≤ s14.toInt) (a14 : s14.toInt ≤ 201) (a15 : zz_vs s1.toInt (s16) (s17) s14.toInt) (a16 : zz_vs s1.toInt (s7) (s8) s2.toInt) (a17 : 0 ≤ s3.toInt) (a18 : s3.toInt ≤ 100000) : zz_ok (m_X11_run_X4 K n0 n1 n2 n3 n4 n5 n6 n7 n8 p1 p2 s0 s1 s2 s3 s4 s5 s6 s7 s8 s9 s10 s11 s12 s13 s14 s15 s16 s17) (fun z => z.2.2.1 = s0 ∧ z.2.2.2.1 = s1 ∧ z.2.2.2.2.1 = s2 ∧ z.2.2.2.2.2.1 = s3 ∧ z.2.2.2.2.2.2.1 = s4 ∧ z.2.2.2.2.2.2.2.1 = s5 ∧ z.2.2.2.2.2.2.2.2.1 = s6 ∧ z.2.2.2.2.2.2.2.2.2.1 = s7 ∧ z.2.2.2.2.2.2.2.2.2.2.1 = s8 ∧ z.2.2.2.2.2.2.2.2.2.2.2.1 = s9 ∧ z.2.2.2.2.2.2.2.2.2.2.2.2.2.1 = s11 ∧ z.2.2.2.2.2.2.2.2.2.2.2.2.2.2.2.2.1 = s14 ∧ z.2.2.2.2.2.2.2.2.2.2.2.2.2.2.2.2.2.1 = s15 ∧ z.2.2.2.2.2.2.2.2.2.2.2.2.2.2.2.2.2.2.1 = s16 ∧ z.2.2.2.2.2.2.2.2.2.2.2.2.2.2.2.2.2.2.2 = s17) := by
  have g1 := zz_rg p1
  have g2 := zz_rg p2
  have g3 := zz_rg s0
  have g4 := zz_rg s1
  have g5 := zz_rg s2
  have g6 := zz_rg s3
  have g7 := zz_rg s4
  have g8 := zz_rg s10
  have g9 := zz_rg s11
  have g10 := zz_rg s14
  have g11 := zz_rg s15
  unfold m_X11_run_X4
  have l13 : (0 : Int32).toInt = 0 := rfl
  refine zz_ok_ite (fun c12 => ?_) (fun c12 => ?_)
  · have c12 := Int32.lt_iff_toInt_lt.mp c12
    refine zz_ok_some ?_
    show s0 = s0 ∧ s1 = s1 ∧ s2 = s2 ∧ s3 = s3 ∧ s4 = s4 ∧ s5 = s5 ∧ s6 = s6 ∧ s7 = s7 ∧ s8 = s8 ∧ s9 = s9 ∧ s11 = s11 ∧ s14 = s14 ∧ s15 = s15 ∧ s16 = s16 ∧ s17 = s17
    exact ⟨(by first | rfl | (exfalso; omega)), (by first | rfl | (exfalso; omega)), (by first | rfl | (exfalso; omega)), (by first | rfl | (exfalso; omega)), (by first | rfl | (exfalso; omega)), (by first | rfl | (exfalso; omega)), (by first | rfl | (exfalso; omega)), (by first | rfl | (exfalso; omega)), (by first | rfl | (exfalso; omega)), (by first | rfl | (exfalso; omega)), (by first | rfl | (exfalso; omega)), (by first | rfl | (exfalso; omega)), (by first | rfl | (exfalso; omega)), (by first | rfl | (exfalso; omega)), (by first | rfl | (exfalso; omega))⟩
  · have c12 := zz_nlt c12
    have l15 : (1 : Int32).toInt = 1 := rfl
    refine zz_ok_ite (fun c14 => ?_) (fun c14 => ?_)
    · have c14 := Int32.le_iff_toInt_le.mp c14
      refine zz_ok_bind (ff_X11_needRoom_X4 K hK T hT n0 n1 n2 n3 n4 n5 n6 n7 n8 s0 s1 s2 s3 s4 s5 s6 s7 s8 s9 s10 s11 s12 s13 s14 s15 s16 s17) ?_
      intro z16 hz16
      obtain ⟨e_3, t_3_0, t_3_1, t_3_2, t_3_3, t_3_4, t_3_5, t_3_6, t_3_7, t_3_8, t_3_9, t_3_10, t_3_11, t_3_12, t_3_13, t_3_14, t_3_15, t_3_16, t_3_17⟩ := z16
      have q17 : zz_em e_3 := hz16.1
      have q18 : t_3_0 = s0 := hz16.2.1
      have q19 : t_3_1 = s1 := hz16.2.2.1
      have q20 : t_3_2 = s2 := hz16.2.2.2.1
      have q21 : t_3_3 = s3 := hz16.2.2.2.2.1
      have q22 : t_3_4 = s4 := hz16.2.2.2.2.2.1
      have q23 : t_3_5 = s5 := hz16.2.2.2.2.2.2.1
      have q24 : t_3_6 = s6 := hz16.2.2.2.2.2.2.2.1
      have q25 : t_3_7 = s7 := hz16.2.2.2.2.2.2.2.2.1
      have q26 : t_3_8 = s8 := hz16.2.2.2.2.2.2.2.2.2.1
      have q27 : t_3_9 = s9 := hz16.2.2.2.2.2.2.2.2.2.2.1
      have q28 : t_3_10 = s10 := hz16.2.2.2.2.2.2.2.2.2.2.2.1
      have q29 : t_3_11 = s11 := hz16.2.2.2.2.2.2.2.2.2.2.2.2.1
      have q30 : t_3_12 = s12 := hz16.2.2.2.2.2.2.2.2.2.2.2.2.2.1
      have q31 : t_3_13 = s13 := hz16.2.2.2.2.2.2.2.2.2.2.2.2.2.2.1
      have q32 : t_3_14 = s14 := hz16.2.2.2.2.2.2.2.2.2.2.2.2.2.2.2.1
      have q33 : t_3_15 = s15 := hz16.2.2.2.2.2.2.2.2.2.2.2.2.2.2.2.2.1
      have q34 : t_3_16 = s16 := hz16.2.2.2.2.2.2.2.2.2.2.2.2.2.2.2.2.2.1
      have q35 : t_3_17 = s17 := hz16.2.2.2.2.2.2.2.2.2.2.2.2.2.2.2.2.2.2
      clear hz16
      have e36 : s0 = t_3_0 := q18.symm
      subst e36
      have e37 : s1 = t_3_1 := q19.symm
      subst e37
      have e38 : s2 = t_3_2 := q20.symm
      subst e38
      have e39 : s3 = t_3_3 := q21.symm
      subst e39
      have e40 : s4 = t_3_4 := q22.symm
      subst e40
      have e41 : s5 = t_3_5 := q23.symm
      subst e41
      have e42 : s6 = t_3_6 := q24.symm
      subst e42
      have e43 : s7 = t_3_7 := q25.symm
      subst e43
      have e44 : s8 = t_3_8 := q26.symm
      subst e44
      have e45 : s9 = t_3_9 := q27.symm
      subst e45
      have e46 : s10 = t_3_10 := q28.symm
      subst e46
      have e47 : s11 = t_3_11 := q29.symm
      subst e47
      have e48 : s12 = t_3_12 := q30.symm
      subst e48
      have e49 : s13 = t_3_13 := q31.symm
      subst e49
      have e50 : s14 = t_3_14 := q32.symm
      subst e50
      have e51 : s15 = t_3_15 := q33.symm
      subst e51
      have e52 : s16 = t_3_16 := q34.symm
      subst e52
      have e53 : s17 = t_3_17 := q35.symm
      subst e53
      show zz_ok (if e_3 = "" then ((m_X7_listRuns K n0 n1 n2 n3 n4 n5 n6 s1 s2 s3 s4 s5 s6 s7 s8 s9 s10 s11 s12 s13).bind fun ⟨t_4_0, t_4_1, t_4_2, t_4_3, t_4_4, t_4_5, t_4_6, t_4_7, t_4_8, t_4_9, t_4_10, t_4_11, t_4_12⟩ => if p1 < 0 then (some ("java/lang/IndexOutOfBoundsException", 0, s0, t_4_0, t_4_1, t_4_2, t_4_3, t_4_4, t_4_5, t_4_6, t_4_7, t_4_8, t_4_9, t_4_10, t_4_11, t_4_12, s14, s15, s16, s17)) else ((m_X10_size K n5 n6 t_4_9 t_4_10 t_4_11 t_4_12).bind fun ⟨r_6, t_6_0, t_6_1, t_6_2, t_6_3⟩ => if p1 < r_6 then (if p2 = 0 then ((m_X10_placeOf K n5 n6 p1 t_6_0 t_6_1 t_6_2 t_6_3).bind fun ⟨r_10, t_10_0, t_10_1, t_10_2, t_10_3⟩ => some ("", r_10, s0, t_4_0, t_4_1, t_4_2, t_4_3, t_4_4, t_4_5, t_4_6, t_4_7, t_4_8, t_10_0, t_10_1, t_10_2, t_10_3, s14, s15, s16, s17)) else ((m_X10_wordsOf K n5 n6 p1 t_6_0 t_6_1 t_6_2 t_6_3).bind fun ⟨r_9, t_9_0, t_9_1, t_9_2, t_9_3⟩ => some ("", r_9, s0, t_4_0, t_4_1, t_4_2, t_4_3, t_4_4, t_4_5, t_4_6, t_4_7, t_4_8, t_9_0, t_9_1, t_9_2, t_9_3, s14, s15, s16, s17))) else (some ("java/lang/IndexOutOfBoundsException", 0, s0, t_4_0, t_4_1, t_4_2, t_4_3, t_4_4, t_4_5, t_4_6, t_4_7, t_4_8, t_6_0, t_6_1, t_6_2, t_6_3, s14, s15, s16, s17)))) else (some (e_3, 0, s0, s1, s2, s3, s4, s5, s6, s7, s8, s9, s10, s11, s12, s13, s14, s15, s16, s17))) _
      refine zz_ok_ite (fun c54 => ?_) (fun c54 => absurd q17 c54)
      refine zz_ok_bind (ff_X7_listRuns K hK T hT n0 n1 n2 n3 n4 n5 n6 s1 s2 s3 s4 s5 s6 s7 s8 s9 s10 s11 s12 s13 a0 a1 a2 a3 a4 a5 a6 (by omega) a10) ?_
      intro z55 hz55
      obtain ⟨t_4_0, t_4_1, t_4_2, t_4_3, t_4_4, t_4_5, t_4_6, t_4_7, t_4_8, t_4_9, t_4_10, t_4_11, t_4_12⟩ := z55
      have q56 : zz_ru s1.toInt (s5) (t_4_11) (t_4_12) t_4_9.toInt := hz55.1
      have q57 : 0 ≤ t_4_9.toInt := hz55.2.1
      have q58 : t_4_9.toInt ≤ 512 := hz55.2.2.1
      have q59 : t_4_0 = s1 := hz55.2.2.2.1
      have q60 : t_4_1 = s2 := hz55.2.2.2.2.1
      have q61 : t_4_2 = s3 := hz55.2.2.2.2.2.1
      have q62 : t_4_3 = s4 := hz55.2.2.2.2.2.2.1
      have q63 : t_4_4 = s5 := hz55.2.2.2.2.2.2.2.1
      have q64 : t_4_5 = s6 := hz55.2.2.2.2.2.2.2.2.1
      have q65 : t_4_6 = s7 := hz55.2.2.2.2.2.2.2.2.2.1
      have q66 : t_4_7 = s8 := hz55.2.2.2.2.2.2.2.2.2.2.1
      have q67 : t_4_8 = s9 := hz55.2.2.2.2.2.2.2.2.2.2.2.1
      have q68 : t_4_10 = s11 := hz55.2.2.2.2.2.2.2.2.2.2.2.2
      clear hz55
      have e69 : s1 = t_4_0 := q59.symm
      subst e69
      have e70 : s2 = t_4_1 := q60.symm
      subst e70
      have e71 : s3 = t_4_2 := q61.symm
      subst e71
      have e72 : s4 = t_4_3 := q62.symm
      subst e72
      have e73 : s5 = t_4_4 := q63.symm
      subst e73
      have e74 : s6 = t_4_5 := q64.symm
      subst e74
      have e75 : s7 = t_4_6 := q65.symm
      subst e75
      have e76 : s8 = t_4_7 := q66.symm
      subst e76
      have e77 : s9 = t_4_8 := q67.symm
      subst e77
      have e78 : s11 = t_4_10 := q68.symm
      subst e78
      have g79 := zz_rg t_4_9
      show zz_ok (if p1 < 0 then (some ("java/lang/IndexOutOfBoundsException", 0, s0, s1, s2, s3, s4, s5, s6, s7, s8, s9, t_4_9, s11, t_4_11, t_4_12, s14, s15, s16, s17)) else ((m_X10_size K n5 n6 t_4_9 s11 t_4_11 t_4_12).bind fun ⟨r_6, t_6_0, t_6_1, t_6_2, t_6_3⟩ => if p1 < r_6 then (if p2 = 0 then ((m_X10_placeOf K n5 n6 p1 t_6_0 t_6_1 t_6_2 t_6_3).bind fun ⟨r_10, t_10_0, t_10_1, t_10_2, t_10_3⟩ => some ("", r_10, s0, s1, s2, s3, s4, s5, s6, s7, s8, s9, t_10_0, t_10_1, t_10_2, t_10_3, s14, s15, s16, s17)) else ((m_X10_wordsOf K n5 n6 p1 t_6_0 t_6_1 t_6_2 t_6_3).bind fun ⟨r_9, t_9_0, t_9_1, t_9_2, t_9_3⟩ => some ("", r_9, s0, s1, s2, s3, s4, s5, s6, s7, s8, s9, t_9_0, t_9_1, t_9_2, t_9_3, s14, s15, s16, s17))) else (some ("java/lang/IndexOutOfBoundsException", 0, s0, s1, s2, s3, s4, s5, s6, s7, s8, s9, t_6_0, t_6_1, t_6_2, t_6_3, s14, s15, s16, s17)))) _
      refine zz_ok_ite (fun c80 => ?_) (fun c80 => ?_)
      · have c80 := Int32.lt_iff_toInt_lt.mp c80
        refine zz_ok_some ?_
        show s0 = s0 ∧ s1 = s1 ∧ s2 = s2 ∧ s3 = s3 ∧ s4 = s4 ∧ s5 = s5 ∧ s6 = s6 ∧ s7 = s7 ∧ s8 = s8 ∧ s9 = s9 ∧ s11 = s11 ∧ s14 = s14 ∧ s15 = s15 ∧ s16 = s16 ∧ s17 = s17
        exact ⟨(by first | rfl | (exfalso; omega)), (by first | rfl | (exfalso; omega)), (by first | rfl | (exfalso; omega)), (by first | rfl | (exfalso; omega)), (by first | rfl | (exfalso; omega)), (by first | rfl | (exfalso; omega)), (by first | rfl | (exfalso; omega)), (by first | rfl | (exfalso; omega)), (by first | rfl | (exfalso; omega)), (by first | rfl | (exfalso; omega)), (by first | rfl | (exfalso; omega)), (by first | rfl | (exfalso; omega)), (by first | rfl | (exfalso; omega)), (by first | rfl | (exfalso; omega)), (by first | rfl | (exfalso; omega))⟩
      · have c80 := zz_nlt c80
        refine zz_ok_bind (ff_X10_size K hK T hT n5 n6 t_4_9 s11 t_4_11 t_4_12) ?_
        intro z81 hz81
        obtain ⟨r_6, t_6_0, t_6_1, t_6_2, t_6_3⟩ := z81
        have q82 : r_6 = t_4_9 := hz81.1
        have q83 : t_6_0 = t_4_9 := hz81.2.1
        have q84 : t_6_1 = s11 := hz81.2.2.1
        have q85 : t_6_2 = t_4_11 := hz81.2.2.2.1
        have q86 : t_6_3 = t_4_12 := hz81.2.2.2.2
        clear hz81
        have e87 : t_4_9 = r_6 := q82.symm
        subst e87
        have e88 : t_4_9 = t_6_0 := q83.symm
        subst e88
        have e89 : s11 = t_6_1 := q84.symm
        subst e89
        have e90 : t_4_11 = t_6_2 := q85.symm
        subst e90
        have e91 : t_4_12 = t_6_3 := q86.symm
        subst e91
        show zz_ok (if p1 < t_4_9 then (if p2 = 0 then ((m_X10_placeOf K n5 n6 p1 t_4_9 s11 t_4_11 t_4_12).bind fun ⟨r_10, t_10_0, t_10_1, t_10_2, t_10_3⟩ => some ("", r_10, s0, s1, s2, s3, s4, s5, s6, s7, s8, s9, t_10_0, t_10_1, t_10_2, t_10_3, s14, s15, s16, s17)) else ((m_X10_wordsOf K n5 n6 p1 t_4_9 s11 t_4_11 t_4_12).bind fun ⟨r_9, t_9_0, t_9_1, t_9_2, t_9_3⟩ => some ("", r_9, s0, s1, s2, s3, s4, s5, s6, s7, s8, s9, t_9_0, t_9_1, t_9_2, t_9_3, s14, s15, s16, s17))) else (some ("java/lang/IndexOutOfBoundsException", 0, s0, s1, s2, s3, s4, s5, s6, s7, s8, s9, t_4_9, s11, t_4_11, t_4_12, s14, s15, s16, s17))) _
        refine zz_ok_ite (fun c92 => ?_) (fun c92 => ?_)
        · have c92 := Int32.lt_iff_toInt_lt.mp c92
          refine zz_ok_ite (fun c93 => ?_) (fun c93 => ?_)
          · have c93 := congrArg Int32.toInt c93
            refine zz_ok_bind (ff_X10_placeOf K hK T hT n5 n6 p1 t_4_9 s11 t_4_11 t_4_12 (by omega) (by omega) q57 (by omega) (by omega) (by omega)) ?_
            intro z94 hz94
            obtain ⟨r_10, t_10_0, t_10_1, t_10_2, t_10_3⟩ := z94
            have q95 : r_10 = t_4_11 p1.toNatClampNeg := hz94.1
            have q96 : t_10_0 = t_4_9 := hz94.2.1
            have q97 : t_10_1 = s11 := hz94.2.2.1
            have q98 : t_10_2 = t_4_11 := hz94.2.2.2.1
            have q99 : t_10_3 = t_4_12 := hz94.2.2.2.2
            clear hz94
            have e100 : t_4_11 p1.toNatClampNeg = r_10 := q95.symm
            subst e100
            have e101 : t_4_9 = t_10_0 := q96.symm
            subst e101
            have e102 : s11 = t_10_1 := q97.symm
            subst e102
            have e103 : t_4_11 = t_10_2 := q98.symm
            subst e103
            have e104 : t_4_12 = t_10_3 := q99.symm
            subst e104
            show zz_ok (some ("", (t_4_11 p1.toNatClampNeg), s0, s1, s2, s3, s4, s5, s6, s7, s8, s9, t_4_9, s11, t_4_11, t_4_12, s14, s15, s16, s17)) _
            refine zz_ok_some ?_
            show s0 = s0 ∧ s1 = s1 ∧ s2 = s2 ∧ s3 = s3 ∧ s4 = s4 ∧ s5 = s5 ∧ s6 = s6 ∧ s7 = s7 ∧ s8 = s8 ∧ s9 = s9 ∧ s11 = s11 ∧ s14 = s14 ∧ s15 = s15 ∧ s16 = s16 ∧ s17 = s17
            exact ⟨(by first | rfl | (exfalso; omega)), (by first | rfl | (exfalso; omega)), (by first | rfl | (exfalso; omega)), (by first | rfl | (exfalso; omega)), (by first | rfl | (exfalso; omega)), (by first | rfl | (exfalso; omega)), (by first | rfl | (exfalso; omega)), (by first | rfl | (exfalso; omega)), (by first | rfl | (exfalso; omega)), (by first | rfl | (exfalso; omega)), (by first | rfl | (exfalso; omega)), (by first | rfl | (exfalso; omega)), (by first | rfl | (exfalso; omega)), (by first | rfl | (exfalso; omega)), (by first | rfl | (exfalso; omega))⟩
          · have c93 := zz_neq c93
            refine zz_ok_bind (ff_X10_wordsOf K hK T hT n5 n6 p1 t_4_9 s11 t_4_11 t_4_12 (by omega) (by omega) q57 (by omega) (by omega) (by omega)) ?_
            intro z105 hz105
            obtain ⟨r_9, t_9_0, t_9_1, t_9_2, t_9_3⟩ := z105
            have q106 : r_9 = t_4_12 p1.toNatClampNeg := hz105.1
            have q107 : t_9_0 = t_4_9 := hz105.2.1
            have q108 : t_9_1 = s11 := hz105.2.2.1
            have q109 : t_9_2 = t_4_11 := hz105.2.2.2.1
            have q110 : t_9_3 = t_4_12 := hz105.2.2.2.2
            clear hz105
            have e111 : t_4_12 p1.toNatClampNeg = r_9 := q106.symm
            subst e111
            have e112 : t_4_9 = t_9_0 := q107.symm
            subst e112
            have e113 : s11 = t_9_1 := q108.symm
            subst e113
            have e114 : t_4_11 = t_9_2 := q109.symm
            subst e114
            have e115 : t_4_12 = t_9_3 := q110.symm
            subst e115
            show zz_ok (some ("", (t_4_12 p1.toNatClampNeg), s0, s1, s2, s3, s4, s5, s6, s7, s8, s9, t_4_9, s11, t_4_11, t_4_12, s14, s15, s16, s17)) _
            refine zz_ok_some ?_
            show s0 = s0 ∧ s1 = s1 ∧ s2 = s2 ∧ s3 = s3 ∧ s4 = s4 ∧ s5 = s5 ∧ s6 = s6 ∧ s7 = s7 ∧ s8 = s8 ∧ s9 = s9 ∧ s11 = s11 ∧ s14 = s14 ∧ s15 = s15 ∧ s16 = s16 ∧ s17 = s17
            exact ⟨(by first | rfl | (exfalso; omega)), (by first | rfl | (exfalso; omega)), (by first | rfl | (exfalso; omega)), (by first | rfl | (exfalso; omega)), (by first | rfl | (exfalso; omega)), (by first | rfl | (exfalso; omega)), (by first | rfl | (exfalso; omega)), (by first | rfl | (exfalso; omega)), (by first | rfl | (exfalso; omega)), (by first | rfl | (exfalso; omega)), (by first | rfl | (exfalso; omega)), (by first | rfl | (exfalso; omega)), (by first | rfl | (exfalso; omega)), (by first | rfl | (exfalso; omega)), (by first | rfl | (exfalso; omega))⟩
        · have c92 := zz_nlt c92
          refine zz_ok_some ?_
          show s0 = s0 ∧ s1 = s1 ∧ s2 = s2 ∧ s3 = s3 ∧ s4 = s4 ∧ s5 = s5 ∧ s6 = s6 ∧ s7 = s7 ∧ s8 = s8 ∧ s9 = s9 ∧ s11 = s11 ∧ s14 = s14 ∧ s15 = s15 ∧ s16 = s16 ∧ s17 = s17
          exact ⟨(by first | rfl | (exfalso; omega)), (by first | rfl | (exfalso; omega)), (by first | rfl | (exfalso; omega)), (by first | rfl | (exfalso; omega)), (by first | rfl | (exfalso; omega)), (by first | rfl | (exfalso; omega)), (by first | rfl | (exfalso; omega)), (by first | rfl | (exfalso; omega)), (by first | rfl | (exfalso; omega)), (by first | rfl | (exfalso; omega)), (by first | rfl | (exfalso; omega)), (by first | rfl | (exfalso; omega)), (by first | rfl | (exfalso; omega)), (by first | rfl | (exfalso; omega)), (by first | rfl | (exfalso; omega))⟩
    · have c14 := zz_nle c14
      refine zz_ok_some ?_
      show s0 = s0 ∧ s1 = s1 ∧ s2 = s2 ∧ s3 = s3 ∧ s4 = s4 ∧ s5 = s5 ∧ s6 = s6 ∧ s7 = s7 ∧ s8 = s8 ∧ s9 = s9 ∧ s11 = s11 ∧ s14 = s14 ∧ s15 = s15 ∧ s16 = s16 ∧ s17 = s17
      exact ⟨(by first | rfl | (exfalso; omega)), (by first | rfl | (exfalso; omega)), (by first | rfl | (exfalso; omega)), (by first | rfl | (exfalso; omega)), (by first | rfl | (exfalso; omega)), (by first | rfl | (exfalso; omega)), (by first | rfl | (exfalso; omega)), (by first | rfl | (exfalso; omega)), (by first | rfl | (exfalso; omega)), (by first | rfl | (exfalso; omega)), (by first | rfl | (exfalso; omega)), (by first | rfl | (exfalso; omega)), (by first | rfl | (exfalso; omega)), (by first | rfl | (exfalso; omega)), (by first | rfl | (exfalso; omega))⟩
set_option maxHeartbeats 4000000 in
theorem ff_X1_spanOf (K : Nat) (hK : 1099511627776 ≤ K) (T : Nat) (hT : T ≤ 900) (p1 : Int32) : zz_ok (m_X1_spanOf K p1) (fun z => z.1 = p1) := by
  have g1 := zz_rg p1
  unfold m_X1_spanOf
  refine zz_ok_some ?_
  show p1 = p1
  exact rfl
set_option maxHeartbeats 4000000 in
theorem ff_X1_quickOnes (K : Nat) (hK : 1099511627776 ≤ K) (T : Nat) (hT : T ≤ 900) : zz_ok (m_X1_quickOnes K) (fun z => True) := by
  unfold m_X1_quickOnes
  refine zz_ok_some ?_
  trivial
set_option maxHeartbeats 4000000 in
theorem ff_X1_freeParts (K : Nat) (hK : 1099511627776 ≤ K) (T : Nat) (hT : T ≤ 900) : zz_ok (m_X1_freeParts K) (fun z => True) := by
  unfold m_X1_freeParts
  refine zz_ok_some ?_
  trivial
set_option maxHeartbeats 4000000 in
theorem ff_X1_top (K : Nat) (hK : 1099511627776 ≤ K) (T : Nat) (hT : T ≤ 900) : zz_ok (m_X1_top K) (fun z => True) := by
  unfold m_X1_top
  refine zz_ok_some ?_
  trivial
set_option maxHeartbeats 4000000 in
theorem ff_X1_placeInList (K : Nat) (hK : 1099511627776 ≤ K) (T : Nat) (hT : T ≤ 900) (p1 : Int32) (p2 : Int32) : zz_ok (m_X1_placeInList K p1 p2) (fun z => True) := by
  have g1 := zz_rg p1
  have g2 := zz_rg p2
  unfold m_X1_placeInList
  refine zz_ok_some ?_
  trivial
set_option maxHeartbeats 4000000 in
theorem ff_X11_countInForm_X4 (K : Nat) (hK : 1099511627776 ≤ K) (T : Nat) (hT : T ≤ 900) (n0 : Nat) (n1 : Nat) (n2 : Nat) (n3 : Nat) (n4 : Nat) (n5 : Nat) (n6 : Nat) (n7 : Nat) (n8 : Nat) (p1 : Int32) (s0 : Int32) (s1 : Int32) (s2 : Int32) (s3 : Int32) (s4 : Int32) (s5 : Nat → Int32) (s6 : Nat → Int32) (s7 : Nat → Int32) (s8 : Nat → Int32) (s9 : Nat → Int32) (s10 : Int32) (s11 : Int32) (s12 : Nat → Int32) (s13 : Nat → Int32) (s14 : Int32) (s15 : Int32) (s16 : Nat → Int32) (s17 : Nat → Int32) (a0 : n0 = 1024) (a1 : n1 = 200) (a2 : n2 = 200) (a3 : n3 = 200) (a4 : n4 = 200) (a5 : n5 = 512) (a6 : n6 = 512) (a7 : n7 = 201) (a8 : n8 = 201) (a9 : 16 ≤ s1.toInt) (a10 : s1.toInt ≤ 1024) (a11 : 0 ≤ s2.toInt) (a12 : s2.toInt ≤ 200) (a13 : 0 ≤ s14.toInt) (a14 : s14.toInt ≤ 201) (a15 : zz_vs s1.toInt (s16) (s17) s14.toInt) (a16 : zz_vs s1.toInt (s7) (s8) s2.toInt) (a17 : 0 ≤ s3.toInt) (a18 : s3.toInt ≤ 100000) : zz_ok (m_X11_countInForm_X4 K n0 n1 n2 n3 n4 n5 n6 n7 n8 p1 s0 s1 s2 s3 s4 s5 s6 s7 s8 s9 s10 s11 s12 s13 s14 s15 s16 s17) (fun z => zz_em z.1 ∧ z.2.2.1 = s0 ∧ z.2.2.2.1 = s1 ∧ z.2.2.2.2.1 = s2 ∧ z.2.2.2.2.2.1 = s3 ∧ z.2.2.2.2.2.2.1 = s4 ∧ z.2.2.2.2.2.2.2.1 = s5 ∧ z.2.2.2.2.2.2.2.2.1 = s6 ∧ z.2.2.2.2.2.2.2.2.2.1 = s7 ∧ z.2.2.2.2.2.2.2.2.2.2.1 = s8 ∧ z.2.2.2.2.2.2.2.2.2.2.2.1 = s9 ∧ z.2.2.2.2.2.2.2.2.2.2.2.2.1 = s10 ∧ z.2.2.2.2.2.2.2.2.2.2.2.2.2.1 = s11 ∧ z.2.2.2.2.2.2.2.2.2.2.2.2.2.2.1 = s12 ∧ z.2.2.2.2.2.2.2.2.2.2.2.2.2.2.2.1 = s13 ∧ z.2.2.2.2.2.2.2.2.2.2.2.2.2.2.2.2.1 = s14 ∧ z.2.2.2.2.2.2.2.2.2.2.2.2.2.2.2.2.2.1 = s15 ∧ z.2.2.2.2.2.2.2.2.2.2.2.2.2.2.2.2.2.2.1 = s16 ∧ z.2.2.2.2.2.2.2.2.2.2.2.2.2.2.2.2.2.2.2 = s17) := by
  have g1 := zz_rg p1
  have g2 := zz_rg s0
  have g3 := zz_rg s1
  have g4 := zz_rg s2
  have g5 := zz_rg s3
  have g6 := zz_rg s4
  have g7 := zz_rg s10
  have g8 := zz_rg s11
  have g9 := zz_rg s14
  have g10 := zz_rg s15
  unfold m_X11_countInForm_X4
  have l12 : (9 : Int32).toInt = 9 := rfl
  refine zz_ok_ite (fun c11 => ?_) (fun c11 => ?_)
  · have c11 := congrArg Int32.toInt c11
    refine zz_ok_bind (ff_X1_quickOnes K hK T hT) ?_
    intro z13 hz13
    obtain ⟨r_2, _⟩ := z13
    clear hz13
    have g14 := zz_rg r_2
    show zz_ok (some ("", r_2, s0, s1, s2, s3, s4, s5, s6, s7, s8, s9, s10, s11, s12, s13, s14, s15, s16, s17)) _
    refine zz_ok_some ?_
    show zz_em ("") ∧ s0 = s0 ∧ s1 = s1 ∧ s2 = s2 ∧ s3 = s3 ∧ s4 = s4 ∧ s5 = s5 ∧ s6 = s6 ∧ s7 = s7 ∧ s8 = s8 ∧ s9 = s9 ∧ s10 = s10 ∧ s11 = s11 ∧ s12 = s12 ∧ s13 = s13 ∧ s14 = s14 ∧ s15 = s15 ∧ s16 = s16 ∧ s17 = s17
    exact ⟨(by exact rfl), rfl, rfl, rfl, rfl, rfl, rfl, rfl, rfl, rfl, rfl, rfl, rfl, rfl, rfl, rfl, rfl, rfl, rfl⟩
  · have c11 := zz_neq c11
    have l16 : (10 : Int32).toInt = 10 := rfl
    refine zz_ok_ite (fun c15 => ?_) (fun c15 => ?_)
    · have c15 := congrArg Int32.toInt c15
      refine zz_ok_bind (ff_X1_freeParts K hK T hT) ?_
      intro z17 hz17
      obtain ⟨r_4, _⟩ := z17
      clear hz17
      have g18 := zz_rg r_4
      show zz_ok (some ("", r_4, s0, s1, s2, s3, s4, s5, s6, s7, s8, s9, s10, s11, s12, s13, s14, s15, s16, s17)) _
      refine zz_ok_some ?_
      show zz_em ("") ∧ s0 = s0 ∧ s1 = s1 ∧ s2 = s2 ∧ s3 = s3 ∧ s4 = s4 ∧ s5 = s5 ∧ s6 = s6 ∧ s7 = s7 ∧ s8 = s8 ∧ s9 = s9 ∧ s10 = s10 ∧ s11 = s11 ∧ s12 = s12 ∧ s13 = s13 ∧ s14 = s14 ∧ s15 = s15 ∧ s16 = s16 ∧ s17 = s17
      exact ⟨(by exact rfl), rfl, rfl, rfl, rfl, rfl, rfl, rfl, rfl, rfl, rfl, rfl, rfl, rfl, rfl, rfl, rfl, rfl, rfl⟩
    · have c15 := zz_neq c15
      refine zz_ok_bind (ff_X1_top K hK T hT) ?_
      intro z19 hz19
      obtain ⟨r_5, _⟩ := z19
      clear hz19
      have g20 := zz_rg r_5
      show zz_ok (some ("", r_5, s0, s1, s2, s3, s4, s5, s6, s7, s8, s9, s10, s11, s12, s13, s14, s15, s16, s17)) _
      refine zz_ok_some ?_
      show zz_em ("") ∧ s0 = s0 ∧ s1 = s1 ∧ s2 = s2 ∧ s3 = s3 ∧ s4 = s4 ∧ s5 = s5 ∧ s6 = s6 ∧ s7 = s7 ∧ s8 = s8 ∧ s9 = s9 ∧ s10 = s10 ∧ s11 = s11 ∧ s12 = s12 ∧ s13 = s13 ∧ s14 = s14 ∧ s15 = s15 ∧ s16 = s16 ∧ s17 = s17
      exact ⟨(by exact rfl), rfl, rfl, rfl, rfl, rfl, rfl, rfl, rfl, rfl, rfl, rfl, rfl, rfl, rfl, rfl, rfl, rfl, rfl⟩
set_option maxHeartbeats 4000000 in
theorem ff_X11_countInRoom_X4 (K : Nat) (hK : 1099511627776 ≤ K) (T : Nat) (hT : T ≤ 900) (n0 : Nat) (n1 : Nat) (n2 : Nat) (n3 : Nat) (n4 : Nat) (n5 : Nat) (n6 : Nat) (n7 : Nat) (n8 : Nat) (p1 : Int32) (s0 : Int32) (s1 : Int32) (s2 : Int32) (s3 : Int32) (s4 : Int32) (s5 : Nat → Int32) (s6 : Nat → Int32) (s7 : Nat → Int32) (s8 : Nat → Int32) (s9 : Nat → Int32) (s10 : Int32) (s11 : Int32) (s12 : Nat → Int32) (s13 : Nat → Int32) (s14 : Int32) (s15 : Int32) (s16 : Nat → Int32) (s17 : Nat → Int32) (a0 : n0 = 1024) (a1 : n1 = 200) (a2 : n2 = 200) (a3 : n3 = 200) (a4 : n4 = 200) (a5 : n5 = 512) (a6 : n6 = 512) (a7 : n7 = 201) (a8 : n8 = 201) (a9 : 16 ≤ s1.toInt) (a10 : s1.toInt ≤ 1024) (a11 : 0 ≤ s2.toInt) (a12 : s2.toInt ≤ 200) (a13 : 0 ≤ s14.toInt) (a14 : s14.toInt ≤ 201) (a15 : zz_vs s1.toInt (s16) (s17) s14.toInt) (a16 : zz_vs s1.toInt (s7) (s8) s2.toInt) (a17 : 0 ≤ s3.toInt) (a18 : s3.toInt ≤ 100000) : zz_ok (m_X11_countInRoom_X4 K n0 n1 n2 n3 n4 n5 n6 n7 n8 p1 s0 s1 s2 s3 s4 s5 s6 s7 s8 s9 s10 s11 s12 s13 s14 s15 s16 s17) (fun z => zz_em z.1 ∧ z.2.2.1 = s0 ∧ z.2.2.2.1 = s1 ∧ z.2.2.2.2.1 = s2 ∧ z.2.2.2.2.2.1 = s3 ∧ z.2.2.2.2.2.2.1 = s4 ∧ z.2.2.2.2.2.2.2.1 = s5 ∧ z.2.2.2.2.2.2.2.2.1 = s6 ∧ z.2.2.2.2.2.2.2.2.2.1 = s7 ∧ z.2.2.2.2.2.2.2.2.2.2.1 = s8 ∧ z.2.2.2.2.2.2.2.2.2.2.2.1 = s9 ∧ z.2.2.2.2.2.2.2.2.2.2.2.2.2.1 = s11 ∧ z.2.2.2.2.2.2.2.2.2.2.2.2.2.2.2.2.1 = s14 ∧ z.2.2.2.2.2.2.2.2.2.2.2.2.2.2.2.2.2.1 = s15 ∧ z.2.2.2.2.2.2.2.2.2.2.2.2.2.2.2.2.2.2.1 = s16 ∧ z.2.2.2.2.2.2.2.2.2.2.2.2.2.2.2.2.2.2.2 = s17) := by
  have g1 := zz_rg p1
  have g2 := zz_rg s0
  have g3 := zz_rg s1
  have g4 := zz_rg s2
  have g5 := zz_rg s3
  have g6 := zz_rg s4
  have g7 := zz_rg s10
  have g8 := zz_rg s11
  have g9 := zz_rg s14
  have g10 := zz_rg s15
  unfold m_X11_countInRoom_X4
  have l12 : (1 : Int32).toInt = 1 := rfl
  refine zz_ok_ite (fun c11 => ?_) (fun c11 => ?_)
  · have c11 := congrArg Int32.toInt c11
    refine zz_ok_bind (ff_X7_words K hK T hT n0 n1 n2 n3 n4 n5 n6 s1 s2 s3 s4 s5 s6 s7 s8 s9 s10 s11 s12 s13) ?_
    intro z13 hz13
    obtain ⟨r_2, t_2_0, t_2_1, t_2_2, t_2_3, t_2_4, t_2_5, t_2_6, t_2_7, t_2_8, t_2_9, t_2_10, t_2_11, t_2_12⟩ := z13
    have q14 : r_2 = s1 := hz13.1
    have q15 : t_2_0 = s1 := hz13.2.1
    have q16 : t_2_1 = s2 := hz13.2.2.1
    have q17 : t_2_2 = s3 := hz13.2.2.2.1
    have q18 : t_2_3 = s4 := hz13.2.2.2.2.1
    have q19 : t_2_4 = s5 := hz13.2.2.2.2.2.1
    have q20 : t_2_5 = s6 := hz13.2.2.2.2.2.2.1
    have q21 : t_2_6 = s7 := hz13.2.2.2.2.2.2.2.1
    have q22 : t_2_7 = s8 := hz13.2.2.2.2.2.2.2.2.1
    have q23 : t_2_8 = s9 := hz13.2.2.2.2.2.2.2.2.2.1
    have q24 : t_2_9 = s10 := hz13.2.2.2.2.2.2.2.2.2.2.1
    have q25 : t_2_10 = s11 := hz13.2.2.2.2.2.2.2.2.2.2.2.1
    have q26 : t_2_11 = s12 := hz13.2.2.2.2.2.2.2.2.2.2.2.2.1
    have q27 : t_2_12 = s13 := hz13.2.2.2.2.2.2.2.2.2.2.2.2.2
    clear hz13
    have e28 : s1 = r_2 := q14.symm
    subst e28
    have e29 : s1 = t_2_0 := q15.symm
    subst e29
    have e30 : s2 = t_2_1 := q16.symm
    subst e30
    have e31 : s3 = t_2_2 := q17.symm
    subst e31
    have e32 : s4 = t_2_3 := q18.symm
    subst e32
    have e33 : s5 = t_2_4 := q19.symm
    subst e33
    have e34 : s6 = t_2_5 := q20.symm
    subst e34
    have e35 : s7 = t_2_6 := q21.symm
    subst e35
    have e36 : s8 = t_2_7 := q22.symm
    subst e36
    have e37 : s9 = t_2_8 := q23.symm
    subst e37
    have e38 : s10 = t_2_9 := q24.symm
    subst e38
    have e39 : s11 = t_2_10 := q25.symm
    subst e39
    have e40 : s12 = t_2_11 := q26.symm
    subst e40
    have e41 : s13 = t_2_12 := q27.symm
    subst e41
    show zz_ok (some ("", s1, s0, s1, s2, s3, s4, s5, s6, s7, s8, s9, s10, s11, s12, s13, s14, s15, s16, s17)) _
    refine zz_ok_some ?_
    show zz_em ("") ∧ s0 = s0 ∧ s1 = s1 ∧ s2 = s2 ∧ s3 = s3 ∧ s4 = s4 ∧ s5 = s5 ∧ s6 = s6 ∧ s7 = s7 ∧ s8 = s8 ∧ s9 = s9 ∧ s11 = s11 ∧ s14 = s14 ∧ s15 = s15 ∧ s16 = s16 ∧ s17 = s17
    exact ⟨(by exact rfl), rfl, rfl, rfl, rfl, rfl, rfl, rfl, rfl, rfl, rfl, rfl, rfl, rfl, rfl, rfl⟩
  · have c11 := zz_neq c11
    have l43 : (2 : Int32).toInt = 2 := rfl
    refine zz_ok_ite (fun c42 => ?_) (fun c42 => ?_)
    · have c42 := congrArg Int32.toInt c42
      refine zz_ok_bind (ff_X7_blocks K hK T hT n0 n1 n2 n3 n4 n5 n6 s1 s2 s3 s4 s5 s6 s7 s8 s9 s10 s11 s12 s13) ?_
      intro z44 hz44
      obtain ⟨r_4, t_4_0, t_4_1, t_4_2, t_4_3, t_4_4, t_4_5, t_4_6, t_4_7, t_4_8, t_4_9, t_4_10, t_4_11, t_4_12⟩ := z44
      have q45 : r_4 = s2 := hz44.1
      have q46 : t_4_0 = s1 := hz44.2.1
      have q47 : t_4_1 = s2 := hz44.2.2.1
      have q48 : t_4_2 = s3 := hz44.2.2.2.1
      have q49 : t_4_3 = s4 := hz44.2.2.2.2.1
      have q50 : t_4_4 = s5 := hz44.2.2.2.2.2.1
      have q51 : t_4_5 = s6 := hz44.2.2.2.2.2.2.1
      have q52 : t_4_6 = s7 := hz44.2.2.2.2.2.2.2.1
      have q53 : t_4_7 = s8 := hz44.2.2.2.2.2.2.2.2.1
      have q54 : t_4_8 = s9 := hz44.2.2.2.2.2.2.2.2.2.1
      have q55 : t_4_9 = s10 := hz44.2.2.2.2.2.2.2.2.2.2.1
      have q56 : t_4_10 = s11 := hz44.2.2.2.2.2.2.2.2.2.2.2.1
      have q57 : t_4_11 = s12 := hz44.2.2.2.2.2.2.2.2.2.2.2.2.1
      have q58 : t_4_12 = s13 := hz44.2.2.2.2.2.2.2.2.2.2.2.2.2
      clear hz44
      have e59 : s2 = r_4 := q45.symm
      subst e59
      have e60 : s1 = t_4_0 := q46.symm
      subst e60
      have e61 : s2 = t_4_1 := q47.symm
      subst e61
      have e62 : s3 = t_4_2 := q48.symm
      subst e62
      have e63 : s4 = t_4_3 := q49.symm
      subst e63
      have e64 : s5 = t_4_4 := q50.symm
      subst e64
      have e65 : s6 = t_4_5 := q51.symm
      subst e65
      have e66 : s7 = t_4_6 := q52.symm
      subst e66
      have e67 : s8 = t_4_7 := q53.symm
      subst e67
      have e68 : s9 = t_4_8 := q54.symm
      subst e68
      have e69 : s10 = t_4_9 := q55.symm
      subst e69
      have e70 : s11 = t_4_10 := q56.symm
      subst e70
      have e71 : s12 = t_4_11 := q57.symm
      subst e71
      have e72 : s13 = t_4_12 := q58.symm
      subst e72
      show zz_ok (some ("", s2, s0, s1, s2, s3, s4, s5, s6, s7, s8, s9, s10, s11, s12, s13, s14, s15, s16, s17)) _
      refine zz_ok_some ?_
      show zz_em ("") ∧ s0 = s0 ∧ s1 = s1 ∧ s2 = s2 ∧ s3 = s3 ∧ s4 = s4 ∧ s5 = s5 ∧ s6 = s6 ∧ s7 = s7 ∧ s8 = s8 ∧ s9 = s9 ∧ s11 = s11 ∧ s14 = s14 ∧ s15 = s15 ∧ s16 = s16 ∧ s17 = s17
      exact ⟨(by exact rfl), rfl, rfl, rfl, rfl, rfl, rfl, rfl, rfl, rfl, rfl, rfl, rfl, rfl, rfl, rfl⟩
    · have c42 := zz_neq c42
      have l74 : (3 : Int32).toInt = 3 := rfl
      refine zz_ok_ite (fun c73 => ?_) (fun c73 => ?_)
      · have c73 := congrArg Int32.toInt c73
        refine zz_ok_bind (ff_X7_given K hK T hT n0 n1 n2 n3 n4 n5 n6 s1 s2 s3 s4 s5 s6 s7 s8 s9 s10 s11 s12 s13) ?_
        intro z75 hz75
        obtain ⟨r_6, t_6_0, t_6_1, t_6_2, t_6_3, t_6_4, t_6_5, t_6_6, t_6_7, t_6_8, t_6_9, t_6_10, t_6_11, t_6_12⟩ := z75
        have q76 : r_6 = s3 := hz75.1
        have q77 : t_6_0 = s1 := hz75.2.1
        have q78 : t_6_1 = s2 := hz75.2.2.1
        have q79 : t_6_2 = s3 := hz75.2.2.2.1
        have q80 : t_6_3 = s4 := hz75.2.2.2.2.1
        have q81 : t_6_4 = s5 := hz75.2.2.2.2.2.1
        have q82 : t_6_5 = s6 := hz75.2.2.2.2.2.2.1
        have q83 : t_6_6 = s7 := hz75.2.2.2.2.2.2.2.1
        have q84 : t_6_7 = s8 := hz75.2.2.2.2.2.2.2.2.1
        have q85 : t_6_8 = s9 := hz75.2.2.2.2.2.2.2.2.2.1
        have q86 : t_6_9 = s10 := hz75.2.2.2.2.2.2.2.2.2.2.1
        have q87 : t_6_10 = s11 := hz75.2.2.2.2.2.2.2.2.2.2.2.1
        have q88 : t_6_11 = s12 := hz75.2.2.2.2.2.2.2.2.2.2.2.2.1
        have q89 : t_6_12 = s13 := hz75.2.2.2.2.2.2.2.2.2.2.2.2.2
        clear hz75
        have e90 : s3 = r_6 := q76.symm
        subst e90
        have e91 : s1 = t_6_0 := q77.symm
        subst e91
        have e92 : s2 = t_6_1 := q78.symm
        subst e92
        have e93 : s3 = t_6_2 := q79.symm
        subst e93
        have e94 : s4 = t_6_3 := q80.symm
        subst e94
        have e95 : s5 = t_6_4 := q81.symm
        subst e95
        have e96 : s6 = t_6_5 := q82.symm
        subst e96
        have e97 : s7 = t_6_6 := q83.symm
        subst e97
        have e98 : s8 = t_6_7 := q84.symm
        subst e98
        have e99 : s9 = t_6_8 := q85.symm
        subst e99
        have e100 : s10 = t_6_9 := q86.symm
        subst e100
        have e101 : s11 = t_6_10 := q87.symm
        subst e101
        have e102 : s12 = t_6_11 := q88.symm
        subst e102
        have e103 : s13 = t_6_12 := q89.symm
        subst e103
        show zz_ok (some ("", s3, s0, s1, s2, s3, s4, s5, s6, s7, s8, s9, s10, s11, s12, s13, s14, s15, s16, s17)) _
        refine zz_ok_some ?_
        show zz_em ("") ∧ s0 = s0 ∧ s1 = s1 ∧ s2 = s2 ∧ s3 = s3 ∧ s4 = s4 ∧ s5 = s5 ∧ s6 = s6 ∧ s7 = s7 ∧ s8 = s8 ∧ s9 = s9 ∧ s11 = s11 ∧ s14 = s14 ∧ s15 = s15 ∧ s16 = s16 ∧ s17 = s17
        exact ⟨(by exact rfl), rfl, rfl, rfl, rfl, rfl, rfl, rfl, rfl, rfl, rfl, rfl, rfl, rfl, rfl, rfl⟩
      · have c73 := zz_neq c73
        have l105 : (4 : Int32).toInt = 4 := rfl
        refine zz_ok_ite (fun c104 => ?_) (fun c104 => ?_)
        · have c104 := congrArg Int32.toInt c104
          refine zz_ok_bind (ff_X7_askedTogether K hK T hT n0 n1 n2 n3 n4 n5 n6 s1 s2 s3 s4 s5 s6 s7 s8 s9 s10 s11 s12 s13 a0 a1 a2 a3 a4 a5 a6 a11 a12) ?_
          intro z106 hz106
          obtain ⟨r_8, t_8_0, t_8_1, t_8_2, t_8_3, t_8_4, t_8_5, t_8_6, t_8_7, t_8_8, t_8_9, t_8_10, t_8_11, t_8_12⟩ := z106
          have q107 : t_8_0 = s1 := hz106.1
          have q108 : t_8_1 = s2 := hz106.2.1
          have q109 : t_8_2 = s3 := hz106.2.2.1
          have q110 : t_8_3 = s4 := hz106.2.2.2.1
          have q111 : t_8_4 = s5 := hz106.2.2.2.2.1
          have q112 : t_8_5 = s6 := hz106.2.2.2.2.2.1
          have q113 : t_8_6 = s7 := hz106.2.2.2.2.2.2.1
          have q114 : t_8_7 = s8 := hz106.2.2.2.2.2.2.2.1
          have q115 : t_8_8 = s9 := hz106.2.2.2.2.2.2.2.2.1
          have q116 : t_8_9 = s10 := hz106.2.2.2.2.2.2.2.2.2.1
          have q117 : t_8_10 = s11 := hz106.2.2.2.2.2.2.2.2.2.2.1
          have q118 : t_8_11 = s12 := hz106.2.2.2.2.2.2.2.2.2.2.2.1
          have q119 : t_8_12 = s13 := hz106.2.2.2.2.2.2.2.2.2.2.2.2
          clear hz106
          have e120 : s1 = t_8_0 := q107.symm
          subst e120
          have e121 : s2 = t_8_1 := q108.symm
          subst e121
          have e122 : s3 = t_8_2 := q109.symm
          subst e122
          have e123 : s4 = t_8_3 := q110.symm
          subst e123
          have e124 : s5 = t_8_4 := q111.symm
          subst e124
          have e125 : s6 = t_8_5 := q112.symm
          subst e125
          have e126 : s7 = t_8_6 := q113.symm
          subst e126
          have e127 : s8 = t_8_7 := q114.symm
          subst e127
          have e128 : s9 = t_8_8 := q115.symm
          subst e128
          have e129 : s10 = t_8_9 := q116.symm
          subst e129
          have e130 : s11 = t_8_10 := q117.symm
          subst e130
          have e131 : s12 = t_8_11 := q118.symm
          subst e131
          have e132 : s13 = t_8_12 := q119.symm
          subst e132
          have g133 := zz_rg r_8
          show zz_ok (some ("", r_8, s0, s1, s2, s3, s4, s5, s6, s7, s8, s9, s10, s11, s12, s13, s14, s15, s16, s17)) _
          refine zz_ok_some ?_
          show zz_em ("") ∧ s0 = s0 ∧ s1 = s1 ∧ s2 = s2 ∧ s3 = s3 ∧ s4 = s4 ∧ s5 = s5 ∧ s6 = s6 ∧ s7 = s7 ∧ s8 = s8 ∧ s9 = s9 ∧ s11 = s11 ∧ s14 = s14 ∧ s15 = s15 ∧ s16 = s16 ∧ s17 = s17
          exact ⟨(by exact rfl), rfl, rfl, rfl, rfl, rfl, rfl, rfl, rfl, rfl, rfl, rfl, rfl, rfl, rfl, rfl⟩
        · have c104 := zz_neq c104
          have l135 : (5 : Int32).toInt = 5 := rfl
          refine zz_ok_ite (fun c134 => ?_) (fun c134 => ?_)
          · have c134 := congrArg Int32.toInt c134
            refine zz_ok_bind (ff_X7_spansTogether K hK T hT n0 n1 n2 n3 n4 n5 n6 s1 s2 s3 s4 s5 s6 s7 s8 s9 s10 s11 s12 s13 a0 a1 a2 a3 a4 a5 a6 a11 a12) ?_
            intro z136 hz136
            obtain ⟨r_10, t_10_0, t_10_1, t_10_2, t_10_3, t_10_4, t_10_5, t_10_6, t_10_7, t_10_8, t_10_9, t_10_10, t_10_11, t_10_12⟩ := z136
            have q137 : t_10_0 = s1 := hz136.1
            have q138 : t_10_1 = s2 := hz136.2.1
            have q139 : t_10_2 = s3 := hz136.2.2.1
            have q140 : t_10_3 = s4 := hz136.2.2.2.1
            have q141 : t_10_4 = s5 := hz136.2.2.2.2.1
            have q142 : t_10_5 = s6 := hz136.2.2.2.2.2.1
            have q143 : t_10_6 = s7 := hz136.2.2.2.2.2.2.1
            have q144 : t_10_7 = s8 := hz136.2.2.2.2.2.2.2.1
            have q145 : t_10_8 = s9 := hz136.2.2.2.2.2.2.2.2.1
            have q146 : t_10_9 = s10 := hz136.2.2.2.2.2.2.2.2.2.1
            have q147 : t_10_10 = s11 := hz136.2.2.2.2.2.2.2.2.2.2.1
            have q148 : t_10_11 = s12 := hz136.2.2.2.2.2.2.2.2.2.2.2.1
            have q149 : t_10_12 = s13 := hz136.2.2.2.2.2.2.2.2.2.2.2.2
            clear hz136
            have e150 : s1 = t_10_0 := q137.symm
            subst e150
            have e151 : s2 = t_10_1 := q138.symm
            subst e151
            have e152 : s3 = t_10_2 := q139.symm
            subst e152
            have e153 : s4 = t_10_3 := q140.symm
            subst e153
            have e154 : s5 = t_10_4 := q141.symm
            subst e154
            have e155 : s6 = t_10_5 := q142.symm
            subst e155
            have e156 : s7 = t_10_6 := q143.symm
            subst e156
            have e157 : s8 = t_10_7 := q144.symm
            subst e157
            have e158 : s9 = t_10_8 := q145.symm
            subst e158
            have e159 : s10 = t_10_9 := q146.symm
            subst e159
            have e160 : s11 = t_10_10 := q147.symm
            subst e160
            have e161 : s12 = t_10_11 := q148.symm
            subst e161
            have e162 : s13 = t_10_12 := q149.symm
            subst e162
            have g163 := zz_rg r_10
            show zz_ok (some ("", r_10, s0, s1, s2, s3, s4, s5, s6, s7, s8, s9, s10, s11, s12, s13, s14, s15, s16, s17)) _
            refine zz_ok_some ?_
            show zz_em ("") ∧ s0 = s0 ∧ s1 = s1 ∧ s2 = s2 ∧ s3 = s3 ∧ s4 = s4 ∧ s5 = s5 ∧ s6 = s6 ∧ s7 = s7 ∧ s8 = s8 ∧ s9 = s9 ∧ s11 = s11 ∧ s14 = s14 ∧ s15 = s15 ∧ s16 = s16 ∧ s17 = s17
            exact ⟨(by exact rfl), rfl, rfl, rfl, rfl, rfl, rfl, rfl, rfl, rfl, rfl, rfl, rfl, rfl, rfl, rfl⟩
          · have c134 := zz_neq c134
            have l165 : (6 : Int32).toInt = 6 := rfl
            refine zz_ok_ite (fun c164 => ?_) (fun c164 => ?_)
            · have c164 := congrArg Int32.toInt c164
              refine zz_ok_bind (ff_X7_listRuns K hK T hT n0 n1 n2 n3 n4 n5 n6 s1 s2 s3 s4 s5 s6 s7 s8 s9 s10 s11 s12 s13 a0 a1 a2 a3 a4 a5 a6 (by omega) a10) ?_
              intro z166 hz166
              obtain ⟨t_12_0, t_12_1, t_12_2, t_12_3, t_12_4, t_12_5, t_12_6, t_12_7, t_12_8, t_12_9, t_12_10, t_12_11, t_12_12⟩ := z166
              have q167 : zz_ru s1.toInt (s5) (t_12_11) (t_12_12) t_12_9.toInt := hz166.1
              have q168 : 0 ≤ t_12_9.toInt := hz166.2.1
              have q169 : t_12_9.toInt ≤ 512 := hz166.2.2.1
              have q170 : t_12_0 = s1 := hz166.2.2.2.1
              have q171 : t_12_1 = s2 := hz166.2.2.2.2.1
              have q172 : t_12_2 = s3 := hz166.2.2.2.2.2.1
              have q173 : t_12_3 = s4 := hz166.2.2.2.2.2.2.1
              have q174 : t_12_4 = s5 := hz166.2.2.2.2.2.2.2.1
              have q175 : t_12_5 = s6 := hz166.2.2.2.2.2.2.2.2.1
              have q176 : t_12_6 = s7 := hz166.2.2.2.2.2.2.2.2.2.1
              have q177 : t_12_7 = s8 := hz166.2.2.2.2.2.2.2.2.2.2.1
              have q178 : t_12_8 = s9 := hz166.2.2.2.2.2.2.2.2.2.2.2.1
              have q179 : t_12_10 = s11 := hz166.2.2.2.2.2.2.2.2.2.2.2.2
              clear hz166
              have e180 : s1 = t_12_0 := q170.symm
              subst e180
              have e181 : s2 = t_12_1 := q171.symm
              subst e181
              have e182 : s3 = t_12_2 := q172.symm
              subst e182
              have e183 : s4 = t_12_3 := q173.symm
              subst e183
              have e184 : s5 = t_12_4 := q174.symm
              subst e184
              have e185 : s6 = t_12_5 := q175.symm
              subst e185
              have e186 : s7 = t_12_6 := q176.symm
              subst e186
              have e187 : s8 = t_12_7 := q177.symm
              subst e187
              have e188 : s9 = t_12_8 := q178.symm
              subst e188
              have e189 : s11 = t_12_10 := q179.symm
              subst e189
              have g190 := zz_rg t_12_9
              show zz_ok ((m_X10_size K n5 n6 t_12_9 s11 t_12_11 t_12_12).bind fun ⟨r_13, t_13_0, t_13_1, t_13_2, t_13_3⟩ => some ("", r_13, s0, s1, s2, s3, s4, s5, s6, s7, s8, s9, t_13_0, t_13_1, t_13_2, t_13_3, s14, s15, s16, s17)) _
              refine zz_ok_bind (ff_X10_size K hK T hT n5 n6 t_12_9 s11 t_12_11 t_12_12) ?_
              intro z191 hz191
              obtain ⟨r_13, t_13_0, t_13_1, t_13_2, t_13_3⟩ := z191
              have q192 : r_13 = t_12_9 := hz191.1
              have q193 : t_13_0 = t_12_9 := hz191.2.1
              have q194 : t_13_1 = s11 := hz191.2.2.1
              have q195 : t_13_2 = t_12_11 := hz191.2.2.2.1
              have q196 : t_13_3 = t_12_12 := hz191.2.2.2.2
              clear hz191
              have e197 : t_12_9 = r_13 := q192.symm
              subst e197
              have e198 : t_12_9 = t_13_0 := q193.symm
              subst e198
              have e199 : s11 = t_13_1 := q194.symm
              subst e199
              have e200 : t_12_11 = t_13_2 := q195.symm
              subst e200
              have e201 : t_12_12 = t_13_3 := q196.symm
              subst e201
              show zz_ok (some ("", t_12_9, s0, s1, s2, s3, s4, s5, s6, s7, s8, s9, t_12_9, s11, t_12_11, t_12_12, s14, s15, s16, s17)) _
              refine zz_ok_some ?_
              show zz_em ("") ∧ s0 = s0 ∧ s1 = s1 ∧ s2 = s2 ∧ s3 = s3 ∧ s4 = s4 ∧ s5 = s5 ∧ s6 = s6 ∧ s7 = s7 ∧ s8 = s8 ∧ s9 = s9 ∧ s11 = s11 ∧ s14 = s14 ∧ s15 = s15 ∧ s16 = s16 ∧ s17 = s17
              exact ⟨(by exact rfl), rfl, rfl, rfl, rfl, rfl, rfl, rfl, rfl, rfl, rfl, rfl, rfl, rfl, rfl, rfl⟩
            · have c164 := zz_neq c164
              have l203 : (7 : Int32).toInt = 7 := rfl
              refine zz_ok_ite (fun c202 => ?_) (fun c202 => ?_)
              · have c202 := congrArg Int32.toInt c202
                refine zz_ok_bind (ff_X7_listRuns K hK T hT n0 n1 n2 n3 n4 n5 n6 s1 s2 s3 s4 s5 s6 s7 s8 s9 s10 s11 s12 s13 a0 a1 a2 a3 a4 a5 a6 (by omega) a10) ?_
                intro z204 hz204
                obtain ⟨t_15_0, t_15_1, t_15_2, t_15_3, t_15_4, t_15_5, t_15_6, t_15_7, t_15_8, t_15_9, t_15_10, t_15_11, t_15_12⟩ := z204
                have q205 : zz_ru s1.toInt (s5) (t_15_11) (t_15_12) t_15_9.toInt := hz204.1
                have q206 : 0 ≤ t_15_9.toInt := hz204.2.1
                have q207 : t_15_9.toInt ≤ 512 := hz204.2.2.1
                have q208 : t_15_0 = s1 := hz204.2.2.2.1
                have q209 : t_15_1 = s2 := hz204.2.2.2.2.1
                have q210 : t_15_2 = s3 := hz204.2.2.2.2.2.1
                have q211 : t_15_3 = s4 := hz204.2.2.2.2.2.2.1
                have q212 : t_15_4 = s5 := hz204.2.2.2.2.2.2.2.1
                have q213 : t_15_5 = s6 := hz204.2.2.2.2.2.2.2.2.1
                have q214 : t_15_6 = s7 := hz204.2.2.2.2.2.2.2.2.2.1
                have q215 : t_15_7 = s8 := hz204.2.2.2.2.2.2.2.2.2.2.1
                have q216 : t_15_8 = s9 := hz204.2.2.2.2.2.2.2.2.2.2.2.1
                have q217 : t_15_10 = s11 := hz204.2.2.2.2.2.2.2.2.2.2.2.2
                clear hz204
                have e218 : s1 = t_15_0 := q208.symm
                subst e218
                have e219 : s2 = t_15_1 := q209.symm
                subst e219
                have e220 : s3 = t_15_2 := q210.symm
                subst e220
                have e221 : s4 = t_15_3 := q211.symm
                subst e221
                have e222 : s5 = t_15_4 := q212.symm
                subst e222
                have e223 : s6 = t_15_5 := q213.symm
                subst e223
                have e224 : s7 = t_15_6 := q214.symm
                subst e224
                have e225 : s8 = t_15_7 := q215.symm
                subst e225
                have e226 : s9 = t_15_8 := q216.symm
                subst e226
                have e227 : s11 = t_15_10 := q217.symm
                subst e227
                have g228 := zz_rg t_15_9
                show zz_ok ((m_X10_mostWords K n5 n6 t_15_9 s11 t_15_11 t_15_12).bind fun ⟨r_16, t_16_0, t_16_1, t_16_2, t_16_3⟩ => some ("", r_16, s0, s1, s2, s3, s4, s5, s6, s7, s8, s9, t_16_0, t_16_1, t_16_2, t_16_3, s14, s15, s16, s17)) _
                refine zz_ok_bind (ff_X10_mostWords K hK T hT n5 n6 t_15_9 s11 t_15_11 t_15_12 (by omega) (by omega) q206 (by omega)) ?_
                intro z229 hz229
                obtain ⟨r_16, t_16_0, t_16_1, t_16_2, t_16_3⟩ := z229
                have q230 : t_16_0 = t_15_9 := hz229.1
                have q231 : t_16_1 = s11 := hz229.2.1
                have q232 : t_16_2 = t_15_11 := hz229.2.2.1
                have q233 : t_16_3 = t_15_12 := hz229.2.2.2
                clear hz229
                have e234 : t_15_9 = t_16_0 := q230.symm
                subst e234
                have e235 : s11 = t_16_1 := q231.symm
                subst e235
                have e236 : t_15_11 = t_16_2 := q232.symm
                subst e236
                have e237 : t_15_12 = t_16_3 := q233.symm
                subst e237
                have g238 := zz_rg r_16
                show zz_ok (some ("", r_16, s0, s1, s2, s3, s4, s5, s6, s7, s8, s9, t_15_9, s11, t_15_11, t_15_12, s14, s15, s16, s17)) _
                refine zz_ok_some ?_
                show zz_em ("") ∧ s0 = s0 ∧ s1 = s1 ∧ s2 = s2 ∧ s3 = s3 ∧ s4 = s4 ∧ s5 = s5 ∧ s6 = s6 ∧ s7 = s7 ∧ s8 = s8 ∧ s9 = s9 ∧ s11 = s11 ∧ s14 = s14 ∧ s15 = s15 ∧ s16 = s16 ∧ s17 = s17
                exact ⟨(by exact rfl), rfl, rfl, rfl, rfl, rfl, rfl, rfl, rfl, rfl, rfl, rfl, rfl, rfl, rfl, rfl⟩
              · have c202 := zz_neq c202
                refine zz_ok_bind (ff_X7_looked K hK T hT n0 n1 n2 n3 n4 n5 n6 s1 s2 s3 s4 s5 s6 s7 s8 s9 s10 s11 s12 s13) ?_
                intro z239 hz239
                obtain ⟨r_17, t_17_0, t_17_1, t_17_2, t_17_3, t_17_4, t_17_5, t_17_6, t_17_7, t_17_8, t_17_9, t_17_10, t_17_11, t_17_12⟩ := z239
                have q240 : r_17 = s4 := hz239.1
                have q241 : t_17_0 = s1 := hz239.2.1
                have q242 : t_17_1 = s2 := hz239.2.2.1
                have q243 : t_17_2 = s3 := hz239.2.2.2.1
                have q244 : t_17_3 = s4 := hz239.2.2.2.2.1
                have q245 : t_17_4 = s5 := hz239.2.2.2.2.2.1
                have q246 : t_17_5 = s6 := hz239.2.2.2.2.2.2.1
                have q247 : t_17_6 = s7 := hz239.2.2.2.2.2.2.2.1
                have q248 : t_17_7 = s8 := hz239.2.2.2.2.2.2.2.2.1
                have q249 : t_17_8 = s9 := hz239.2.2.2.2.2.2.2.2.2.1
                have q250 : t_17_9 = s10 := hz239.2.2.2.2.2.2.2.2.2.2.1
                have q251 : t_17_10 = s11 := hz239.2.2.2.2.2.2.2.2.2.2.2.1
                have q252 : t_17_11 = s12 := hz239.2.2.2.2.2.2.2.2.2.2.2.2.1
                have q253 : t_17_12 = s13 := hz239.2.2.2.2.2.2.2.2.2.2.2.2.2
                clear hz239
                have e254 : s4 = r_17 := q240.symm
                subst e254
                have e255 : s1 = t_17_0 := q241.symm
                subst e255
                have e256 : s2 = t_17_1 := q242.symm
                subst e256
                have e257 : s3 = t_17_2 := q243.symm
                subst e257
                have e258 : s4 = t_17_3 := q244.symm
                subst e258
                have e259 : s5 = t_17_4 := q245.symm
                subst e259
                have e260 : s6 = t_17_5 := q246.symm
                subst e260
                have e261 : s7 = t_17_6 := q247.symm
                subst e261
                have e262 : s8 = t_17_7 := q248.symm
                subst e262
                have e263 : s9 = t_17_8 := q249.symm
                subst e263
                have e264 : s10 = t_17_9 := q250.symm
                subst e264
                have e265 : s11 = t_17_10 := q251.symm
                subst e265
                have e266 : s12 = t_17_11 := q252.symm
                subst e266
                have e267 : s13 = t_17_12 := q253.symm
                subst e267
                show zz_ok (some ("", s4, s0, s1, s2, s3, s4, s5, s6, s7, s8, s9, s10, s11, s12, s13, s14, s15, s16, s17)) _
                refine zz_ok_some ?_
                show zz_em ("") ∧ s0 = s0 ∧ s1 = s1 ∧ s2 = s2 ∧ s3 = s3 ∧ s4 = s4 ∧ s5 = s5 ∧ s6 = s6 ∧ s7 = s7 ∧ s8 = s8 ∧ s9 = s9 ∧ s11 = s11 ∧ s14 = s14 ∧ s15 = s15 ∧ s16 = s16 ∧ s17 = s17
                exact ⟨(by exact rfl), rfl, rfl, rfl, rfl, rfl, rfl, rfl, rfl, rfl, rfl, rfl, rfl, rfl, rfl, rfl⟩
set_option maxHeartbeats 4000000 in
theorem ff_X11_count_X4 (K : Nat) (hK : 1099511627776 ≤ K) (T : Nat) (hT : T ≤ 900) (n0 : Nat) (n1 : Nat) (n2 : Nat) (n3 : Nat) (n4 : Nat) (n5 : Nat) (n6 : Nat) (n7 : Nat) (n8 : Nat) (p1 : Int32) (s0 : Int32) (s1 : Int32) (s2 : Int32) (s3 : Int32) (s4 : Int32) (s5 : Nat → Int32) (s6 : Nat → Int32) (s7 : Nat → Int32) (s8 : Nat → Int32) (s9 : Nat → Int32) (s10 : Int32) (s11 : Int32) (s12 : Nat → Int32) (s13 : Nat → Int32) (s14 : Int32) (s15 : Int32) (s16 : Nat → Int32) (s17 : Nat → Int32) (a0 : n0 = 1024) (a1 : n1 = 200) (a2 : n2 = 200) (a3 : n3 = 200) (a4 : n4 = 200) (a5 : n5 = 512) (a6 : n6 = 512) (a7 : n7 = 201) (a8 : n8 = 201) (a9 : 16 ≤ s1.toInt) (a10 : s1.toInt ≤ 1024) (a11 : 0 ≤ s2.toInt) (a12 : s2.toInt ≤ 200) (a13 : 0 ≤ s14.toInt) (a14 : s14.toInt ≤ 201) (a15 : zz_vs s1.toInt (s16) (s17) s14.toInt) (a16 : zz_vs s1.toInt (s7) (s8) s2.toInt) (a17 : 0 ≤ s3.toInt) (a18 : s3.toInt ≤ 100000) (a19 : p1.toInt ≠ 12) : zz_ok (m_X11_count_X4 K n0 n1 n2 n3 n4 n5 n6 n7 n8 p1 s0 s1 s2 s3 s4 s5 s6 s7 s8 s9 s10 s11 s12 s13 s14 s15 s16 s17) (fun z => z.2.2.1 = s0 ∧ z.2.2.2.1 = s1 ∧ z.2.2.2.2.1 = s2 ∧ z.2.2.2.2.2.1 = s3 ∧ z.2.2.2.2.2.2.1 = s4 ∧ z.2.2.2.2.2.2.2.1 = s5 ∧ z.2.2.2.2.2.2.2.2.1 = s6 ∧ z.2.2.2.2.2.2.2.2.2.1 = s7 ∧ z.2.2.2.2.2.2.2.2.2.2.1 = s8 ∧ z.2.2.2.2.2.2.2.2.2.2.2.1 = s9 ∧ z.2.2.2.2.2.2.2.2.2.2.2.2.2.1 = s11 ∧ z.2.2.2.2.2.2.2.2.2.2.2.2.2.2.2.2.1 = s14 ∧ z.2.2.2.2.2.2.2.2.2.2.2.2.2.2.2.2.2.1 = s15 ∧ z.2.2.2.2.2.2.2.2.2.2.2.2.2.2.2.2.2.2.1 = s16 ∧ z.2.2.2.2.2.2.2.2.2.2.2.2.2.2.2.2.2.2.2 = s17) := by
  have g1 := zz_rg p1
  have g2 := zz_rg s0
  have g3 := zz_rg s1
  have g4 := zz_rg s2
  have g5 := zz_rg s3
  have g6 := zz_rg s4
  have g7 := zz_rg s10
  have g8 := zz_rg s11
  have g9 := zz_rg s14
  have g10 := zz_rg s15
  unfold m_X11_count_X4
  have l12 : (0 : Int32).toInt = 0 := rfl
  refine zz_ok_ite (fun c11 => ?_) (fun c11 => ?_)
  · have c11 := Int32.lt_iff_toInt_lt.mp c11
    refine zz_ok_some ?_
    show s0 = s0 ∧ s1 = s1 ∧ s2 = s2 ∧ s3 = s3 ∧ s4 = s4 ∧ s5 = s5 ∧ s6 = s6 ∧ s7 = s7 ∧ s8 = s8 ∧ s9 = s9 ∧ s11 = s11 ∧ s14 = s14 ∧ s15 = s15 ∧ s16 = s16 ∧ s17 = s17
    exact ⟨rfl, rfl, rfl, rfl, rfl, rfl, rfl, rfl, rfl, rfl, rfl, rfl, rfl, rfl, rfl⟩
  · have c11 := zz_nlt c11
    have l14 : (13 : Int32).toInt = 13 := rfl
    refine zz_ok_ite (fun c13 => ?_) (fun c13 => ?_)
    · have c13 := Int32.lt_iff_toInt_lt.mp c13
      refine zz_ok_ite (fun c15 => ?_) (fun c15 => ?_)
      · have c15 := congrArg Int32.toInt c15
        refine zz_ok_some ?_
        show s0 = s0 ∧ s1 = s1 ∧ s2 = s2 ∧ s3 = s3 ∧ s4 = s4 ∧ s5 = s5 ∧ s6 = s6 ∧ s7 = s7 ∧ s8 = s8 ∧ s9 = s9 ∧ s11 = s11 ∧ s14 = s14 ∧ s15 = s15 ∧ s16 = s16 ∧ s17 = s17
        exact ⟨rfl, rfl, rfl, rfl, rfl, rfl, rfl, rfl, rfl, rfl, rfl, rfl, rfl, rfl, rfl⟩
      · have c15 := zz_neq c15
        have l17 : (12 : Int32).toInt = 12 := rfl
        refine zz_ok_ite (fun c16 => ?_) (fun c16 => ?_)
        · have c16 := congrArg Int32.toInt c16
          exfalso
          omega
        · have c16 := zz_neq c16
          have l19 : (8 : Int32).toInt = 8 := rfl
          refine zz_ok_ite (fun c18 => ?_) (fun c18 => ?_)
          · have c18 := Int32.lt_iff_toInt_lt.mp c18
            refine zz_ok_bind (ff_X11_countInForm_X4 K hK T hT n0 n1 n2 n3 n4 n5 n6 n7 n8 p1 s0 s1 s2 s3 s4 s5 s6 s7 s8 s9 s10 s11 s12 s13 s14 s15 s16 s17 a0 a1 a2 a3 a4 a5 a6 a7 a8 a9 a10 a11 a12 a13 a14 a15 a16 a17 a18) ?_
            intro z20 hz20
            obtain ⟨e_6, r_6, t_6_0, t_6_1, t_6_2, t_6_3, t_6_4, t_6_5, t_6_6, t_6_7, t_6_8, t_6_9, t_6_10, t_6_11, t_6_12, t_6_13, t_6_14, t_6_15, t_6_16, t_6_17⟩ := z20
            have q21 : zz_em e_6 := hz20.1
            have q22 : t_6_0 = s0 := hz20.2.1
            have q23 : t_6_1 = s1 := hz20.2.2.1
            have q24 : t_6_2 = s2 := hz20.2.2.2.1
            have q25 : t_6_3 = s3 := hz20.2.2.2.2.1
            have q26 : t_6_4 = s4 := hz20.2.2.2.2.2.1
            have q27 : t_6_5 = s5 := hz20.2.2.2.2.2.2.1
            have q28 : t_6_6 = s6 := hz20.2.2.2.2.2.2.2.1
            have q29 : t_6_7 = s7 := hz20.2.2.2.2.2.2.2.2.1
            have q30 : t_6_8 = s8 := hz20.2.2.2.2.2.2.2.2.2.1
            have q31 : t_6_9 = s9 := hz20.2.2.2.2.2.2.2.2.2.2.1
            have q32 : t_6_10 = s10 := hz20.2.2.2.2.2.2.2.2.2.2.2.1
            have q33 : t_6_11 = s11 := hz20.2.2.2.2.2.2.2.2.2.2.2.2.1
            have q34 : t_6_12 = s12 := hz20.2.2.2.2.2.2.2.2.2.2.2.2.2.1
            have q35 : t_6_13 = s13 := hz20.2.2.2.2.2.2.2.2.2.2.2.2.2.2.1
            have q36 : t_6_14 = s14 := hz20.2.2.2.2.2.2.2.2.2.2.2.2.2.2.2.1
            have q37 : t_6_15 = s15 := hz20.2.2.2.2.2.2.2.2.2.2.2.2.2.2.2.2.1
            have q38 : t_6_16 = s16 := hz20.2.2.2.2.2.2.2.2.2.2.2.2.2.2.2.2.2.1
            have q39 : t_6_17 = s17 := hz20.2.2.2.2.2.2.2.2.2.2.2.2.2.2.2.2.2.2
            clear hz20
            have e40 : s0 = t_6_0 := q22.symm
            subst e40
            have e41 : s1 = t_6_1 := q23.symm
            subst e41
            have e42 : s2 = t_6_2 := q24.symm
            subst e42
            have e43 : s3 = t_6_3 := q25.symm
            subst e43
            have e44 : s4 = t_6_4 := q26.symm
            subst e44
            have e45 : s5 = t_6_5 := q27.symm
            subst e45
            have e46 : s6 = t_6_6 := q28.symm
            subst e46
            have e47 : s7 = t_6_7 := q29.symm
            subst e47
            have e48 : s8 = t_6_8 := q30.symm
            subst e48
            have e49 : s9 = t_6_9 := q31.symm
            subst e49
            have e50 : s10 = t_6_10 := q32.symm
            subst e50
            have e51 : s11 = t_6_11 := q33.symm
            subst e51
            have e52 : s12 = t_6_12 := q34.symm
            subst e52
            have e53 : s13 = t_6_13 := q35.symm
            subst e53
            have e54 : s14 = t_6_14 := q36.symm
            subst e54
            have e55 : s15 = t_6_15 := q37.symm
            subst e55
            have e56 : s16 = t_6_16 := q38.symm
            subst e56
            have e57 : s17 = t_6_17 := q39.symm
            subst e57
            have g58 := zz_rg r_6
            show zz_ok (if e_6 = "" then (some ("", r_6, s0, s1, s2, s3, s4, s5, s6, s7, s8, s9, s10, s11, s12, s13, s14, s15, s16, s17)) else (some (e_6, 0, s0, s1, s2, s3, s4, s5, s6, s7, s8, s9, s10, s11, s12, s13, s14, s15, s16, s17))) _
            refine zz_ok_ite (fun c59 => ?_) (fun c59 => absurd q21 c59)
            refine zz_ok_some ?_
            show s0 = s0 ∧ s1 = s1 ∧ s2 = s2 ∧ s3 = s3 ∧ s4 = s4 ∧ s5 = s5 ∧ s6 = s6 ∧ s7 = s7 ∧ s8 = s8 ∧ s9 = s9 ∧ s11 = s11 ∧ s14 = s14 ∧ s15 = s15 ∧ s16 = s16 ∧ s17 = s17
            exact ⟨rfl, rfl, rfl, rfl, rfl, rfl, rfl, rfl, rfl, rfl, rfl, rfl, rfl, rfl, rfl⟩
          · have c18 := zz_nlt c18
            refine zz_ok_bind (ff_X11_countInRoom_X4 K hK T hT n0 n1 n2 n3 n4 n5 n6 n7 n8 p1 s0 s1 s2 s3 s4 s5 s6 s7 s8 s9 s10 s11 s12 s13 s14 s15 s16 s17 a0 a1 a2 a3 a4 a5 a6 a7 a8 a9 a10 a11 a12 a13 a14 a15 a16 a17 a18) ?_
            intro z60 hz60
            obtain ⟨e_7, r_7, t_7_0, t_7_1, t_7_2, t_7_3, t_7_4, t_7_5, t_7_6, t_7_7, t_7_8, t_7_9, t_7_10, t_7_11, t_7_12, t_7_13, t_7_14, t_7_15, t_7_16, t_7_17⟩ := z60
            have q61 : zz_em e_7 := hz60.1
            have q62 : t_7_0 = s0 := hz60.2.1
            have q63 : t_7_1 = s1 := hz60.2.2.1
            have q64 : t_7_2 = s2 := hz60.2.2.2.1
            have q65 : t_7_3 = s3 := hz60.2.2.2.2.1
            have q66 : t_7_4 = s4 := hz60.2.2.2.2.2.1
            have q67 : t_7_5 = s5 := hz60.2.2.2.2.2.2.1
            have q68 : t_7_6 = s6 := hz60.2.2.2.2.2.2.2.1
            have q69 : t_7_7 = s7 := hz60.2.2.2.2.2.2.2.2.1
            have q70 : t_7_8 = s8 := hz60.2.2.2.2.2.2.2.2.2.1
            have q71 : t_7_9 = s9 := hz60.2.2.2.2.2.2.2.2.2.2.1
            have q72 : t_7_11 = s11 := hz60.2.2.2.2.2.2.2.2.2.2.2.1
            have q73 : t_7_14 = s14 := hz60.2.2.2.2.2.2.2.2.2.2.2.2.1
            have q74 : t_7_15 = s15 := hz60.2.2.2.2.2.2.2.2.2.2.2.2.2.1
            have q75 : t_7_16 = s16 := hz60.2.2.2.2.2.2.2.2.2.2.2.2.2.2.1
            have q76 : t_7_17 = s17 := hz60.2.2.2.2.2.2.2.2.2.2.2.2.2.2.2
            clear hz60
            have e77 : s0 = t_7_0 := q62.symm
            subst e77
            have e78 : s1 = t_7_1 := q63.symm
            subst e78
            have e79 : s2 = t_7_2 := q64.symm
            subst e79
            have e80 : s3 = t_7_3 := q65.symm
            subst e80
            have e81 : s4 = t_7_4 := q66.symm
            subst e81
            have e82 : s5 = t_7_5 := q67.symm
            subst e82
            have e83 : s6 = t_7_6 := q68.symm
            subst e83
            have e84 : s7 = t_7_7 := q69.symm
            subst e84
            have e85 : s8 = t_7_8 := q70.symm
            subst e85
            have e86 : s9 = t_7_9 := q71.symm
            subst e86
            have e87 : s11 = t_7_11 := q72.symm
            subst e87
            have e88 : s14 = t_7_14 := q73.symm
            subst e88
            have e89 : s15 = t_7_15 := q74.symm
            subst e89
            have e90 : s16 = t_7_16 := q75.symm
            subst e90
            have e91 : s17 = t_7_17 := q76.symm
            subst e91
            have g92 := zz_rg r_7
            have g93 := zz_rg t_7_10
            show zz_ok (if e_7 = "" then (some ("", r_7, s0, s1, s2, s3, s4, s5, s6, s7, s8, s9, t_7_10, s11, t_7_12, t_7_13, s14, s15, s16, s17)) else (some (e_7, 0, s0, s1, s2, s3, s4, s5, s6, s7, s8, s9, t_7_10, s11, t_7_12, t_7_13, s14, s15, s16, s17))) _
            refine zz_ok_ite (fun c94 => ?_) (fun c94 => absurd q61 c94)
            refine zz_ok_some ?_
            show s0 = s0 ∧ s1 = s1 ∧ s2 = s2 ∧ s3 = s3 ∧ s4 = s4 ∧ s5 = s5 ∧ s6 = s6 ∧ s7 = s7 ∧ s8 = s8 ∧ s9 = s9 ∧ s11 = s11 ∧ s14 = s14 ∧ s15 = s15 ∧ s16 = s16 ∧ s17 = s17
            exact ⟨rfl, rfl, rfl, rfl, rfl, rfl, rfl, rfl, rfl, rfl, rfl, rfl, rfl, rfl, rfl⟩
    · have c13 := zz_nlt c13
      refine zz_ok_some ?_
      show s0 = s0 ∧ s1 = s1 ∧ s2 = s2 ∧ s3 = s3 ∧ s4 = s4 ∧ s5 = s5 ∧ s6 = s6 ∧ s7 = s7 ∧ s8 = s8 ∧ s9 = s9 ∧ s11 = s11 ∧ s14 = s14 ∧ s15 = s15 ∧ s16 = s16 ∧ s17 = s17
      exact ⟨rfl, rfl, rfl, rfl, rfl, rfl, rfl, rfl, rfl, rfl, rfl, rfl, rfl, rfl, rfl⟩
set_option maxHeartbeats 4000000 in
theorem ff_X11_list_X4 (K : Nat) (hK : 1099511627776 ≤ K) (T : Nat) (hT : T ≤ 900) (n0 : Nat) (n1 : Nat) (n2 : Nat) (n3 : Nat) (n4 : Nat) (n5 : Nat) (n6 : Nat) (n7 : Nat) (n8 : Nat) (p1 : Int32) (p2 : Int32) (s0 : Int32) (s1 : Int32) (s2 : Int32) (s3 : Int32) (s4 : Int32) (s5 : Nat → Int32) (s6 : Nat → Int32) (s7 : Nat → Int32) (s8 : Nat → Int32) (s9 : Nat → Int32) (s10 : Int32) (s11 : Int32) (s12 : Nat → Int32) (s13 : Nat → Int32) (s14 : Int32) (s15 : Int32) (s16 : Nat → Int32) (s17 : Nat → Int32) (a0 : n0 = 1024) (a1 : n1 = 200) (a2 : n2 = 200) (a3 : n3 = 200) (a4 : n4 = 200) (a5 : n5 = 512) (a6 : n6 = 512) (a7 : n7 = 201) (a8 : n8 = 201) (a9 : 16 ≤ s1.toInt) (a10 : s1.toInt ≤ 1024) (a11 : 0 ≤ s2.toInt) (a12 : s2.toInt ≤ 200) (a13 : 0 ≤ s14.toInt) (a14 : s14.toInt ≤ 201) (a15 : zz_vs s1.toInt (s16) (s17) s14.toInt) (a16 : zz_vs s1.toInt (s7) (s8) s2.toInt) (a17 : 0 ≤ s3.toInt) (a18 : s3.toInt ≤ 100000) (a19 : s0.toInt = 7) : zz_ok (m_X11_list_X4 K n0 n1 n2 n3 n4 n5 n6 n7 n8 p1 p2 s0 s1 s2 s3 s4 s5 s6 s7 s8 s9 s10 s11 s12 s13 s14 s15 s16 s17) (fun z => zz_ls (z.1) p1.toInt p2.toInt (zz_sg (s16) (s17) 0 s14.toInt.toNat) z.2.1.toInt ∧ z.2.2.1 = s0 ∧ z.2.2.2.1 = s1 ∧ z.2.2.2.2.1 = s2 ∧ z.2.2.2.2.2.1 = s3 ∧ z.2.2.2.2.2.2.1 = s4 ∧ z.2.2.2.2.2.2.2.1 = s5 ∧ z.2.2.2.2.2.2.2.2.1 = s6 ∧ z.2.2.2.2.2.2.2.2.2.1 = s7 ∧ z.2.2.2.2.2.2.2.2.2.2.1 = s8 ∧ z.2.2.2.2.2.2.2.2.2.2.2.1 = s9 ∧ z.2.2.2.2.2.2.2.2.2.2.2.2.1 = s10 ∧ z.2.2.2.2.2.2.2.2.2.2.2.2.2.1 = s11 ∧ z.2.2.2.2.2.2.2.2.2.2.2.2.2.2.1 = s12 ∧ z.2.2.2.2.2.2.2.2.2.2.2.2.2.2.2.1 = s13 ∧ z.2.2.2.2.2.2.2.2.2.2.2.2.2.2.2.2.1 = s14 ∧ z.2.2.2.2.2.2.2.2.2.2.2.2.2.2.2.2.2.1 = s15 ∧ z.2.2.2.2.2.2.2.2.2.2.2.2.2.2.2.2.2.2.1 = s16 ∧ z.2.2.2.2.2.2.2.2.2.2.2.2.2.2.2.2.2.2.2 = s17) := by
  have g1 := zz_rg p1
  have g2 := zz_rg p2
  have g3 := zz_rg s0
  have g4 := zz_rg s1
  have g5 := zz_rg s2
  have g6 := zz_rg s3
  have g7 := zz_rg s4
  have g8 := zz_rg s10
  have g9 := zz_rg s11
  have g10 := zz_rg s14
  have g11 := zz_rg s15
  unfold m_X11_list_X4
  have l13 : (0 : Int32).toInt = 0 := rfl
  refine zz_ok_ite (fun c12 => ?_) (fun c12 => ?_)
  · have c12 := Int32.lt_iff_toInt_lt.mp c12
    refine zz_ok_some ?_
    show zz_ls (("java/lang/IllegalArgumentException")) p1.toInt p2.toInt (zz_sg (s16) (s17) 0 s14.toInt.toNat) (0 : Int32).toInt ∧ s0 = s0 ∧ s1 = s1 ∧ s2 = s2 ∧ s3 = s3 ∧ s4 = s4 ∧ s5 = s5 ∧ s6 = s6 ∧ s7 = s7 ∧ s8 = s8 ∧ s9 = s9 ∧ s10 = s10 ∧ s11 = s11 ∧ s12 = s12 ∧ s13 = s13 ∧ s14 = s14 ∧ s15 = s15 ∧ s16 = s16 ∧ s17 = s17
    exact ⟨(by first | exact zz_ls_1 rfl (by omega) | exact zz_ls_2 rfl (by omega) (by omega) (by assumption) (by omega) | exact zz_ls_3 rfl (by omega) (by omega) (by assumption) (by omega) | (exfalso; omega)), rfl, rfl, rfl, rfl, rfl, rfl, rfl, rfl, rfl, rfl, rfl, rfl, rfl, rfl, rfl, rfl, rfl, rfl⟩
  · have c12 := zz_nlt c12
    have l15 : (44 : Int32).toInt = 44 := rfl
    refine zz_ok_ite (fun c14 => ?_) (fun c14 => ?_)
    · have c14 := Int32.lt_iff_toInt_lt.mp c14
      refine zz_ok_bind (ff_X11_needRoom_X4 K hK T hT n0 n1 n2 n3 n4 n5 n6 n7 n8 s0 s1 s2 s3 s4 s5 s6 s7 s8 s9 s10 s11 s12 s13 s14 s15 s16 s17) ?_
      intro z16 hz16
      obtain ⟨e_3, t_3_0, t_3_1, t_3_2, t_3_3, t_3_4, t_3_5, t_3_6, t_3_7, t_3_8, t_3_9, t_3_10, t_3_11, t_3_12, t_3_13, t_3_14, t_3_15, t_3_16, t_3_17⟩ := z16
      have q17 : zz_em e_3 := hz16.1
      have q18 : t_3_0 = s0 := hz16.2.1
      have q19 : t_3_1 = s1 := hz16.2.2.1
      have q20 : t_3_2 = s2 := hz16.2.2.2.1
      have q21 : t_3_3 = s3 := hz16.2.2.2.2.1
      have q22 : t_3_4 = s4 := hz16.2.2.2.2.2.1
      have q23 : t_3_5 = s5 := hz16.2.2.2.2.2.2.1
      have q24 : t_3_6 = s6 := hz16.2.2.2.2.2.2.2.1
      have q25 : t_3_7 = s7 := hz16.2.2.2.2.2.2.2.2.1
      have q26 : t_3_8 = s8 := hz16.2.2.2.2.2.2.2.2.2.1
      have q27 : t_3_9 = s9 := hz16.2.2.2.2.2.2.2.2.2.2.1
      have q28 : t_3_10 = s10 := hz16.2.2.2.2.2.2.2.2.2.2.2.1
      have q29 : t_3_11 = s11 := hz16.2.2.2.2.2.2.2.2.2.2.2.2.1
      have q30 : t_3_12 = s12 := hz16.2.2.2.2.2.2.2.2.2.2.2.2.2.1
      have q31 : t_3_13 = s13 := hz16.2.2.2.2.2.2.2.2.2.2.2.2.2.2.1
      have q32 : t_3_14 = s14 := hz16.2.2.2.2.2.2.2.2.2.2.2.2.2.2.2.1
      have q33 : t_3_15 = s15 := hz16.2.2.2.2.2.2.2.2.2.2.2.2.2.2.2.2.1
      have q34 : t_3_16 = s16 := hz16.2.2.2.2.2.2.2.2.2.2.2.2.2.2.2.2.2.1
      have q35 : t_3_17 = s17 := hz16.2.2.2.2.2.2.2.2.2.2.2.2.2.2.2.2.2.2
      clear hz16
      have e36 : s0 = t_3_0 := q18.symm
      subst e36
      have e37 : s1 = t_3_1 := q19.symm
      subst e37
      have e38 : s2 = t_3_2 := q20.symm
      subst e38
      have e39 : s3 = t_3_3 := q21.symm
      subst e39
      have e40 : s4 = t_3_4 := q22.symm
      subst e40
      have e41 : s5 = t_3_5 := q23.symm
      subst e41
      have e42 : s6 = t_3_6 := q24.symm
      subst e42
      have e43 : s7 = t_3_7 := q25.symm
      subst e43
      have e44 : s8 = t_3_8 := q26.symm
      subst e44
      have e45 : s9 = t_3_9 := q27.symm
      subst e45
      have e46 : s10 = t_3_10 := q28.symm
      subst e46
      have e47 : s11 = t_3_11 := q29.symm
      subst e47
      have e48 : s12 = t_3_12 := q30.symm
      subst e48
      have e49 : s13 = t_3_13 := q31.symm
      subst e49
      have e50 : s14 = t_3_14 := q32.symm
      subst e50
      have e51 : s15 = t_3_15 := q33.symm
      subst e51
      have e52 : s16 = t_3_16 := q34.symm
      subst e52
      have e53 : s17 = t_3_17 := q35.symm
      subst e53
      show zz_ok (if e_3 = "" then (if s0 = ((7 : Int32)) then ((m_X4_placeInList K n0 n1 n2 n3 n4 n5 n6 n7 n8 p1 p2 s1 s2 s3 s4 s5 s6 s7 s8 s9 s10 s11 s12 s13 s14 s15 s16 s17).bind fun ⟨r_5, t_5_0, t_5_1, t_5_2, t_5_3, t_5_4, t_5_5, t_5_6, t_5_7, t_5_8, t_5_9, t_5_10, t_5_11, t_5_12, t_5_13, t_5_14, t_5_15, t_5_16⟩ => if r_5 = ((-1 : Int32)) then (some ("java/lang/IndexOutOfBoundsException", 0, s0, t_5_0, t_5_1, t_5_2, t_5_3, t_5_4, t_5_5, t_5_6, t_5_7, t_5_8, t_5_9, t_5_10, t_5_11, t_5_12, t_5_13, t_5_14, t_5_15, t_5_16)) else (some ("", r_5, s0, t_5_0, t_5_1, t_5_2, t_5_3, t_5_4, t_5_5, t_5_6, t_5_7, t_5_8, t_5_9, t_5_10, t_5_11, t_5_12, t_5_13, t_5_14, t_5_15, t_5_16))) else (some ("java/lang/UnsupportedOperationException", 0, s0, s1, s2, s3, s4, s5, s6, s7, s8, s9, s10, s11, s12, s13, s14, s15, s16, s17))) else (some (e_3, 0, s0, s1, s2, s3, s4, s5, s6, s7, s8, s9, s10, s11, s12, s13, s14, s15, s16, s17))) _
      refine zz_ok_ite (fun c54 => ?_) (fun c54 => absurd q17 c54)
      have l56 : (7 : Int32).toInt = 7 := rfl
      refine zz_ok_ite (fun c55 => ?_) (fun c55 => ?_)
      · have c55 := congrArg Int32.toInt c55
        refine zz_ok_bind (ff_X4_placeInList K hK T hT n0 n1 n2 n3 n4 n5 n6 n7 n8 p1 p2 s1 s2 s3 s4 s5 s6 s7 s8 s9 s10 s11 s12 s13 s14 s15 s16 s17 a7 a8 a13 a14 a10 a15 (by omega) (by omega)) ?_
        intro z57 hz57
        obtain ⟨r_5, t_5_0, t_5_1, t_5_2, t_5_3, t_5_4, t_5_5, t_5_6, t_5_7, t_5_8, t_5_9, t_5_10, t_5_11, t_5_12, t_5_13, t_5_14, t_5_15, t_5_16⟩ := z57
        have q58 : zz_pil (zz_sg (s16) (s17) 0 s14.toInt.toNat) p1.toInt.toNat p2.toInt r_5.toInt := hz57.1
        have q59 : t_5_0 = s1 := hz57.2.1
        have q60 : t_5_1 = s2 := hz57.2.2.1
        have q61 : t_5_2 = s3 := hz57.2.2.2.1
        have q62 : t_5_3 = s4 := hz57.2.2.2.2.1
        have q63 : t_5_4 = s5 := hz57.2.2.2.2.2.1
        have q64 : t_5_5 = s6 := hz57.2.2.2.2.2.2.1
        have q65 : t_5_6 = s7 := hz57.2.2.2.2.2.2.2.1
        have q66 : t_5_7 = s8 := hz57.2.2.2.2.2.2.2.2.1
        have q67 : t_5_8 = s9 := hz57.2.2.2.2.2.2.2.2.2.1
        have q68 : t_5_9 = s10 := hz57.2.2.2.2.2.2.2.2.2.2.1
        have q69 : t_5_10 = s11 := hz57.2.2.2.2.2.2.2.2.2.2.2.1
        have q70 : t_5_11 = s12 := hz57.2.2.2.2.2.2.2.2.2.2.2.2.1
        have q71 : t_5_12 = s13 := hz57.2.2.2.2.2.2.2.2.2.2.2.2.2.1
        have q72 : t_5_13 = s14 := hz57.2.2.2.2.2.2.2.2.2.2.2.2.2.2.1
        have q73 : t_5_14 = s15 := hz57.2.2.2.2.2.2.2.2.2.2.2.2.2.2.2.1
        have q74 : t_5_15 = s16 := hz57.2.2.2.2.2.2.2.2.2.2.2.2.2.2.2.2.1
        have q75 : t_5_16 = s17 := hz57.2.2.2.2.2.2.2.2.2.2.2.2.2.2.2.2.2
        clear hz57
        have e76 : s1 = t_5_0 := q59.symm
        subst e76
        have e77 : s2 = t_5_1 := q60.symm
        subst e77
        have e78 : s3 = t_5_2 := q61.symm
        subst e78
        have e79 : s4 = t_5_3 := q62.symm
        subst e79
        have e80 : s5 = t_5_4 := q63.symm
        subst e80
        have e81 : s6 = t_5_5 := q64.symm
        subst e81
        have e82 : s7 = t_5_6 := q65.symm
        subst e82
        have e83 : s8 = t_5_7 := q66.symm
        subst e83
        have e84 : s9 = t_5_8 := q67.symm
        subst e84
        have e85 : s10 = t_5_9 := q68.symm
        subst e85
        have e86 : s11 = t_5_10 := q69.symm
        subst e86
        have e87 : s12 = t_5_11 := q70.symm
        subst e87
        have e88 : s13 = t_5_12 := q71.symm
        subst e88
        have e89 : s14 = t_5_13 := q72.symm
        subst e89
        have e90 : s15 = t_5_14 := q73.symm
        subst e90
        have e91 : s16 = t_5_15 := q74.symm
        subst e91
        have e92 : s17 = t_5_16 := q75.symm
        subst e92
        have g93 := zz_rg r_5
        show zz_ok (if r_5 = ((-1 : Int32)) then (some ("java/lang/IndexOutOfBoundsException", 0, s0, s1, s2, s3, s4, s5, s6, s7, s8, s9, s10, s11, s12, s13, s14, s15, s16, s17)) else (some ("", r_5, s0, s1, s2, s3, s4, s5, s6, s7, s8, s9, s10, s11, s12, s13, s14, s15, s16, s17))) _
        have l95 : (-1 : Int32).toInt = -1 := rfl
        refine zz_ok_ite (fun c94 => ?_) (fun c94 => ?_)
        · have c94 := congrArg Int32.toInt c94
          refine zz_ok_some ?_
          show zz_ls (("java/lang/IndexOutOfBoundsException")) p1.toInt p2.toInt (zz_sg (s16) (s17) 0 s14.toInt.toNat) (0 : Int32).toInt ∧ s0 = s0 ∧ s1 = s1 ∧ s2 = s2 ∧ s3 = s3 ∧ s4 = s4 ∧ s5 = s5 ∧ s6 = s6 ∧ s7 = s7 ∧ s8 = s8 ∧ s9 = s9 ∧ s10 = s10 ∧ s11 = s11 ∧ s12 = s12 ∧ s13 = s13 ∧ s14 = s14 ∧ s15 = s15 ∧ s16 = s16 ∧ s17 = s17
          exact ⟨(by first | exact zz_ls_1 rfl (by omega) | exact zz_ls_2 rfl (by omega) (by omega) (by assumption) (by omega) | exact zz_ls_3 rfl (by omega) (by omega) (by assumption) (by omega) | (exfalso; omega)), rfl, rfl, rfl, rfl, rfl, rfl, rfl, rfl, rfl, rfl, rfl, rfl, rfl, rfl, rfl, rfl, rfl, rfl⟩
        · have c94 := zz_neq c94
          refine zz_ok_some ?_
          show zz_ls (("")) p1.toInt p2.toInt (zz_sg (s16) (s17) 0 s14.toInt.toNat) r_5.toInt ∧ s0 = s0 ∧ s1 = s1 ∧ s2 = s2 ∧ s3 = s3 ∧ s4 = s4 ∧ s5 = s5 ∧ s6 = s6 ∧ s7 = s7 ∧ s8 = s8 ∧ s9 = s9 ∧ s10 = s10 ∧ s11 = s11 ∧ s12 = s12 ∧ s13 = s13 ∧ s14 = s14 ∧ s15 = s15 ∧ s16 = s16 ∧ s17 = s17
          exact ⟨(by first | exact zz_ls_1 rfl (by omega) | exact zz_ls_2 rfl (by omega) (by omega) (by assumption) (by omega) | exact zz_ls_3 rfl (by omega) (by omega) (by assumption) (by omega) | (exfalso; omega)), rfl, rfl, rfl, rfl, rfl, rfl, rfl, rfl, rfl, rfl, rfl, rfl, rfl, rfl, rfl, rfl, rfl, rfl⟩
      · have c55 := zz_neq c55
        refine zz_ok_some ?_
        show zz_ls (("java/lang/UnsupportedOperationException")) p1.toInt p2.toInt (zz_sg (s16) (s17) 0 s14.toInt.toNat) (0 : Int32).toInt ∧ s0 = s0 ∧ s1 = s1 ∧ s2 = s2 ∧ s3 = s3 ∧ s4 = s4 ∧ s5 = s5 ∧ s6 = s6 ∧ s7 = s7 ∧ s8 = s8 ∧ s9 = s9 ∧ s10 = s10 ∧ s11 = s11 ∧ s12 = s12 ∧ s13 = s13 ∧ s14 = s14 ∧ s15 = s15 ∧ s16 = s16 ∧ s17 = s17
        exact ⟨(by first | exact zz_ls_1 rfl (by omega) | exact zz_ls_2 rfl (by omega) (by omega) (by assumption) (by omega) | exact zz_ls_3 rfl (by omega) (by omega) (by assumption) (by omega) | (exfalso; omega)), rfl, rfl, rfl, rfl, rfl, rfl, rfl, rfl, rfl, rfl, rfl, rfl, rfl, rfl, rfl, rfl, rfl, rfl⟩
    · have c14 := zz_nlt c14
      refine zz_ok_some ?_
      show zz_ls (("java/lang/IllegalArgumentException")) p1.toInt p2.toInt (zz_sg (s16) (s17) 0 s14.toInt.toNat) (0 : Int32).toInt ∧ s0 = s0 ∧ s1 = s1 ∧ s2 = s2 ∧ s3 = s3 ∧ s4 = s4 ∧ s5 = s5 ∧ s6 = s6 ∧ s7 = s7 ∧ s8 = s8 ∧ s9 = s9 ∧ s10 = s10 ∧ s11 = s11 ∧ s12 = s12 ∧ s13 = s13 ∧ s14 = s14 ∧ s15 = s15 ∧ s16 = s16 ∧ s17 = s17
      exact ⟨(by first | exact zz_ls_1 rfl (by omega) | exact zz_ls_2 rfl (by omega) (by omega) (by assumption) (by omega) | exact zz_ls_3 rfl (by omega) (by omega) (by assumption) (by omega) | (exfalso; omega)), rfl, rfl, rfl, rfl, rfl, rfl, rfl, rfl, rfl, rfl, rfl, rfl, rfl, rfl, rfl, rfl, rfl, rfl⟩
set_option maxHeartbeats 4000000 in
theorem ff_X11_give_X4 (K : Nat) (hK : 1099511627776 ≤ K) (T : Nat) (hT : T ≤ 900) (n0 : Nat) (n1 : Nat) (n2 : Nat) (n3 : Nat) (n4 : Nat) (n5 : Nat) (n6 : Nat) (n7 : Nat) (n8 : Nat) (p1 : Int32) (s0 : Int32) (s1 : Int32) (s2 : Int32) (s3 : Int32) (s4 : Int32) (s5 : Nat → Int32) (s6 : Nat → Int32) (s7 : Nat → Int32) (s8 : Nat → Int32) (s9 : Nat → Int32) (s10 : Int32) (s11 : Int32) (s12 : Nat → Int32) (s13 : Nat → Int32) (s14 : Int32) (s15 : Int32) (s16 : Nat → Int32) (s17 : Nat → Int32) (a0 : n0 = 1024) (a1 : n1 = 200) (a2 : n2 = 200) (a3 : n3 = 200) (a4 : n4 = 200) (a5 : n5 = 512) (a6 : n6 = 512) (a7 : n7 = 201) (a8 : n8 = 201) (a9 : 16 ≤ s1.toInt) (a10 : s1.toInt ≤ 1024) (a11 : 0 ≤ s2.toInt) (a12 : s2.toInt ≤ 200) (a13 : 0 ≤ s14.toInt) (a14 : s14.toInt ≤ 201) (a15 : zz_vs s1.toInt (s16) (s17) s14.toInt) (a16 : zz_vs s1.toInt (s7) (s8) s2.toInt) (a17 : 0 ≤ s3.toInt) (a18 : s3.toInt ≤ 100000) : zz_ok (m_X11_give_X4 K n0 n1 n2 n3 n4 n5 n6 n7 n8 p1 s0 s1 s2 s3 s4 s5 s6 s7 s8 s9 s10 s11 s12 s13 s14 s15 s16 s17) (fun z => zz_GV (z.1) (p1) z.2.1.toInt s2.toInt (s3) (s6) (s7) (s8) (s9) (s16) (s17) s14.toInt z.2.2.2.2.1.toInt z.2.2.2.2.2.1.toInt (z.2.2.2.2.2.2.2.2.1) (z.2.2.2.2.2.2.2.2.2.1) (z.2.2.2.2.2.2.2.2.2.2.1) (z.2.2.2.2.2.2.2.2.2.2.2.1) (z.2.2.2.2.2.2.2.2.2.2.2.2.2.2.2.2.2.2.1) (z.2.2.2.2.2.2.2.2.2.2.2.2.2.2.2.2.2.2.2) z.2.2.2.2.2.2.2.2.2.2.2.2.2.2.2.2.1.toInt ∧ zz_vs s1.toInt (z.2.2.2.2.2.2.2.2.2.2.2.2.2.2.2.2.2.2.1) (z.2.2.2.2.2.2.2.2.2.2.2.2.2.2.2.2.2.2.2) z.2.2.2.2.2.2.2.2.2.2.2.2.2.2.2.2.1.toInt ∧ zz_vs s1.toInt (z.2.2.2.2.2.2.2.2.2.1) (z.2.2.2.2.2.2.2.2.2.2.1) z.2.2.2.2.1.toInt ∧ 0 ≤ z.2.2.2.2.1.toInt ∧ z.2.2.2.2.1.toInt ≤ 200 ∧ 0 ≤ z.2.2.2.2.2.2.2.2.2.2.2.2.2.2.2.2.1.toInt ∧ z.2.2.2.2.2.2.2.2.2.2.2.2.2.2.2.2.1.toInt ≤ 201 ∧ z.2.2.1 = s0 ∧ z.2.2.2.1 = s1 ∧ z.2.2.2.2.2.2.2.2.2.2.2.2.1 = s10 ∧ z.2.2.2.2.2.2.2.2.2.2.2.2.2.1 = s11 ∧ z.2.2.2.2.2.2.2.2.2.2.2.2.2.2.1 = s12 ∧ z.2.2.2.2.2.2.2.2.2.2.2.2.2.2.2.1 = s13 ∧ z.2.2.2.2.2.2.2.2.2.2.2.2.2.2.2.2.2.1 = s15) := by
  have g1 := zz_rg p1
  have g2 := zz_rg s0
  have g3 := zz_rg s1
  have g4 := zz_rg s2
  have g5 := zz_rg s3
  have g6 := zz_rg s4
  have g7 := zz_rg s10
  have g8 := zz_rg s11
  have g9 := zz_rg s14
  have g10 := zz_rg s15
  have tn7 := zz_tnI s2 (by omega)
  unfold m_X11_give_X4
  have l12 : (1 : Int32).toInt = 1 := rfl
  refine zz_ok_ite (fun c11 => ?_) (fun c11 => ?_)
  · have c11 := Int32.lt_iff_toInt_lt.mp c11
    have l13 : (0 : Int32).toInt = 0 := rfl
    refine zz_ok_some ?_
    show zz_GV (("java/lang/IllegalArgumentException")) (p1) (0 : Int32).toInt s2.toInt (s3) (s6) (s7) (s8) (s9) (s16) (s17) s14.toInt s2.toInt s3.toInt (s6) (s7) (s8) (s9) (s16) (s17) s14.toInt ∧ zz_vs s1.toInt (s16) (s17) s14.toInt ∧ zz_vs s1.toInt (s7) (s8) s2.toInt ∧ 0 ≤ s2.toInt ∧ s2.toInt ≤ 200 ∧ 0 ≤ s14.toInt ∧ s14.toInt ≤ 201 ∧ s0 = s0 ∧ s1 = s1 ∧ s10 = s10 ∧ s11 = s11 ∧ s12 = s12 ∧ s13 = s13 ∧ s15 = s15
    exact ⟨(by first | exact Or.inl ⟨rfl, by omega, rfl, rfl, rfl, rfl, rfl, rfl, rfl, rfl, rfl⟩ | exact Or.inr (Or.inl ⟨rfl, by omega, by omega, by omega, rfl, rfl, rfl, rfl, rfl, rfl, rfl, rfl, rfl⟩) | exact Or.inr (Or.inr ⟨rfl, by omega, by omega, by omega, r_7, by assumption, Or.inl ⟨by omega, by decide, rfl, rfl, rfl, rfl, rfl, rfl⟩⟩) | exact Or.inr (Or.inr ⟨rfl, by omega, by omega, by omega, r_7, by assumption, Or.inr ⟨by omega, rfl, by omega, by omega, rfl, rfl, rfl, rfl⟩⟩)), a15, a16, a11, a12, a13, a14, rfl, rfl, rfl, rfl, rfl, rfl, rfl⟩
  · have c11 := zz_nlt c11
    have l15 : (1024 : Int32).toInt = 1024 := rfl
    refine zz_ok_ite (fun c14 => ?_) (fun c14 => ?_)
    · have c14 := Int32.le_iff_toInt_le.mp c14
      refine zz_ok_bind (ff_X11_needRoom_X4 K hK T hT n0 n1 n2 n3 n4 n5 n6 n7 n8 s0 s1 s2 s3 s4 s5 s6 s7 s8 s9 s10 s11 s12 s13 s14 s15 s16 s17) ?_
      intro z16 hz16
      obtain ⟨e_3, t_3_0, t_3_1, t_3_2, t_3_3, t_3_4, t_3_5, t_3_6, t_3_7, t_3_8, t_3_9, t_3_10, t_3_11, t_3_12, t_3_13, t_3_14, t_3_15, t_3_16, t_3_17⟩ := z16
      have q17 : zz_em e_3 := hz16.1
      have q18 : t_3_0 = s0 := hz16.2.1
      have q19 : t_3_1 = s1 := hz16.2.2.1
      have q20 : t_3_2 = s2 := hz16.2.2.2.1
      have q21 : t_3_3 = s3 := hz16.2.2.2.2.1
      have q22 : t_3_4 = s4 := hz16.2.2.2.2.2.1
      have q23 : t_3_5 = s5 := hz16.2.2.2.2.2.2.1
      have q24 : t_3_6 = s6 := hz16.2.2.2.2.2.2.2.1
      have q25 : t_3_7 = s7 := hz16.2.2.2.2.2.2.2.2.1
      have q26 : t_3_8 = s8 := hz16.2.2.2.2.2.2.2.2.2.1
      have q27 : t_3_9 = s9 := hz16.2.2.2.2.2.2.2.2.2.2.1
      have q28 : t_3_10 = s10 := hz16.2.2.2.2.2.2.2.2.2.2.2.1
      have q29 : t_3_11 = s11 := hz16.2.2.2.2.2.2.2.2.2.2.2.2.1
      have q30 : t_3_12 = s12 := hz16.2.2.2.2.2.2.2.2.2.2.2.2.2.1
      have q31 : t_3_13 = s13 := hz16.2.2.2.2.2.2.2.2.2.2.2.2.2.2.1
      have q32 : t_3_14 = s14 := hz16.2.2.2.2.2.2.2.2.2.2.2.2.2.2.2.1
      have q33 : t_3_15 = s15 := hz16.2.2.2.2.2.2.2.2.2.2.2.2.2.2.2.2.1
      have q34 : t_3_16 = s16 := hz16.2.2.2.2.2.2.2.2.2.2.2.2.2.2.2.2.2.1
      have q35 : t_3_17 = s17 := hz16.2.2.2.2.2.2.2.2.2.2.2.2.2.2.2.2.2.2
      clear hz16
      have e36 : s0 = t_3_0 := q18.symm
      subst e36
      have e37 : s1 = t_3_1 := q19.symm
      subst e37
      have e38 : s2 = t_3_2 := q20.symm
      subst e38
      have e39 : s3 = t_3_3 := q21.symm
      subst e39
      have e40 : s4 = t_3_4 := q22.symm
      subst e40
      have e41 : s5 = t_3_5 := q23.symm
      subst e41
      have e42 : s6 = t_3_6 := q24.symm
      subst e42
      have e43 : s7 = t_3_7 := q25.symm
      subst e43
      have e44 : s8 = t_3_8 := q26.symm
      subst e44
      have e45 : s9 = t_3_9 := q27.symm
      subst e45
      have e46 : s10 = t_3_10 := q28.symm
      subst e46
      have e47 : s11 = t_3_11 := q29.symm
      subst e47
      have e48 : s12 = t_3_12 := q30.symm
      subst e48
      have e49 : s13 = t_3_13 := q31.symm
      subst e49
      have e50 : s14 = t_3_14 := q32.symm
      subst e50
      have e51 : s15 = t_3_15 := q33.symm
      subst e51
      have e52 : s16 = t_3_16 := q34.symm
      subst e52
      have e53 : s17 = t_3_17 := q35.symm
      subst e53
      show zz_ok (if e_3 = "" then ((m_X7_blocks K n0 n1 n2 n3 n4 n5 n6 s1 s2 s3 s4 s5 s6 s7 s8 s9 s10 s11 s12 s13).bind fun ⟨r_4, t_4_0, t_4_1, t_4_2, t_4_3, t_4_4, t_4_5, t_4_6, t_4_7, t_4_8, t_4_9, t_4_10, t_4_11, t_4_12⟩ => if r_4 < ((200 : Int32)) then ((m_X1_spanOf K p1).bind fun ⟨r_6, _⟩ => (m_X4_take K n0 n1 n2 n3 n4 n5 n6 n7 n8 r_6 t_4_0 t_4_1 t_4_2 t_4_3 t_4_4 t_4_5 t_4_6 t_4_7 t_4_8 t_4_9 t_4_10 t_4_11 t_4_12 s14 s15 s16 s17).bind fun ⟨r_7, t_7_0, t_7_1, t_7_2, t_7_3, t_7_4, t_7_5, t_7_6, t_7_7, t_7_8, t_7_9, t_7_10, t_7_11, t_7_12, t_7_13, t_7_14, t_7_15, t_7_16⟩ => if r_7 = ((-1 : Int32)) then (some ("", (-1 : Int32), s0, t_7_0, t_7_1, t_7_2, t_7_3, t_7_4, t_7_5, t_7_6, t_7_7, t_7_8, t_7_9, t_7_10, t_7_11, t_7_12, t_7_13, t_7_14, t_7_15, t_7_16)) else ((m_X7_settle K n0 n1 n2 n3 n4 n5 n6 r_7 r_6 p1 t_7_0 t_7_1 t_7_2 t_7_3 t_7_4 t_7_5 t_7_6 t_7_7 t_7_8 t_7_9 t_7_10 t_7_11 t_7_12).bind fun ⟨r_9, t_9_0, t_9_1, t_9_2, t_9_3, t_9_4, t_9_5, t_9_6, t_9_7, t_9_8, t_9_9, t_9_10, t_9_11, t_9_12⟩ => some ("", r_9, s0, t_9_0, t_9_1, t_9_2, t_9_3, t_9_4, t_9_5, t_9_6, t_9_7, t_9_8, t_9_9, t_9_10, t_9_11, t_9_12, t_7_13, t_7_14, t_7_15, t_7_16))) else (some ("java/lang/IndexOutOfBoundsException", 0, s0, t_4_0, t_4_1, t_4_2, t_4_3, t_4_4, t_4_5, t_4_6, t_4_7, t_4_8, t_4_9, t_4_10, t_4_11, t_4_12, s14, s15, s16, s17))) else (some (e_3, 0, s0, s1, s2, s3, s4, s5, s6, s7, s8, s9, s10, s11, s12, s13, s14, s15, s16, s17))) _
      refine zz_ok_ite (fun c54 => ?_) (fun c54 => absurd q17 c54)
      refine zz_ok_bind (ff_X7_blocks K hK T hT n0 n1 n2 n3 n4 n5 n6 s1 s2 s3 s4 s5 s6 s7 s8 s9 s10 s11 s12 s13) ?_
      intro z55 hz55
      obtain ⟨r_4, t_4_0, t_4_1, t_4_2, t_4_3, t_4_4, t_4_5, t_4_6, t_4_7, t_4_8, t_4_9, t_4_10, t_4_11, t_4_12⟩ := z55
      have q56 : r_4 = s2 := hz55.1
      have q57 : t_4_0 = s1 := hz55.2.1
      have q58 : t_4_1 = s2 := hz55.2.2.1
      have q59 : t_4_2 = s3 := hz55.2.2.2.1
      have q60 : t_4_3 = s4 := hz55.2.2.2.2.1
      have q61 : t_4_4 = s5 := hz55.2.2.2.2.2.1
      have q62 : t_4_5 = s6 := hz55.2.2.2.2.2.2.1
      have q63 : t_4_6 = s7 := hz55.2.2.2.2.2.2.2.1
      have q64 : t_4_7 = s8 := hz55.2.2.2.2.2.2.2.2.1
      have q65 : t_4_8 = s9 := hz55.2.2.2.2.2.2.2.2.2.1
      have q66 : t_4_9 = s10 := hz55.2.2.2.2.2.2.2.2.2.2.1
      have q67 : t_4_10 = s11 := hz55.2.2.2.2.2.2.2.2.2.2.2.1
      have q68 : t_4_11 = s12 := hz55.2.2.2.2.2.2.2.2.2.2.2.2.1
      have q69 : t_4_12 = s13 := hz55.2.2.2.2.2.2.2.2.2.2.2.2.2
      clear hz55
      have e70 : s2 = r_4 := q56.symm
      subst e70
      have e71 : s1 = t_4_0 := q57.symm
      subst e71
      have e72 : s2 = t_4_1 := q58.symm
      subst e72
      have e73 : s3 = t_4_2 := q59.symm
      subst e73
      have e74 : s4 = t_4_3 := q60.symm
      subst e74
      have e75 : s5 = t_4_4 := q61.symm
      subst e75
      have e76 : s6 = t_4_5 := q62.symm
      subst e76
      have e77 : s7 = t_4_6 := q63.symm
      subst e77
      have e78 : s8 = t_4_7 := q64.symm
      subst e78
      have e79 : s9 = t_4_8 := q65.symm
      subst e79
      have e80 : s10 = t_4_9 := q66.symm
      subst e80
      have e81 : s11 = t_4_10 := q67.symm
      subst e81
      have e82 : s12 = t_4_11 := q68.symm
      subst e82
      have e83 : s13 = t_4_12 := q69.symm
      subst e83
      show zz_ok (if s2 < ((200 : Int32)) then ((m_X1_spanOf K p1).bind fun ⟨r_6, _⟩ => (m_X4_take K n0 n1 n2 n3 n4 n5 n6 n7 n8 r_6 s1 s2 s3 s4 s5 s6 s7 s8 s9 s10 s11 s12 s13 s14 s15 s16 s17).bind fun ⟨r_7, t_7_0, t_7_1, t_7_2, t_7_3, t_7_4, t_7_5, t_7_6, t_7_7, t_7_8, t_7_9, t_7_10, t_7_11, t_7_12, t_7_13, t_7_14, t_7_15, t_7_16⟩ => if r_7 = ((-1 : Int32)) then (some ("", (-1 : Int32), s0, t_7_0, t_7_1, t_7_2, t_7_3, t_7_4, t_7_5, t_7_6, t_7_7, t_7_8, t_7_9, t_7_10, t_7_11, t_7_12, t_7_13, t_7_14, t_7_15, t_7_16)) else ((m_X7_settle K n0 n1 n2 n3 n4 n5 n6 r_7 r_6 p1 t_7_0 t_7_1 t_7_2 t_7_3 t_7_4 t_7_5 t_7_6 t_7_7 t_7_8 t_7_9 t_7_10 t_7_11 t_7_12).bind fun ⟨r_9, t_9_0, t_9_1, t_9_2, t_9_3, t_9_4, t_9_5, t_9_6, t_9_7, t_9_8, t_9_9, t_9_10, t_9_11, t_9_12⟩ => some ("", r_9, s0, t_9_0, t_9_1, t_9_2, t_9_3, t_9_4, t_9_5, t_9_6, t_9_7, t_9_8, t_9_9, t_9_10, t_9_11, t_9_12, t_7_13, t_7_14, t_7_15, t_7_16))) else (some ("java/lang/IndexOutOfBoundsException", 0, s0, s1, s2, s3, s4, s5, s6, s7, s8, s9, s10, s11, s12, s13, s14, s15, s16, s17))) _
      have l85 : (200 : Int32).toInt = 200 := rfl
      refine zz_ok_ite (fun c84 => ?_) (fun c84 => ?_)
      · have c84 := Int32.lt_iff_toInt_lt.mp c84
        refine zz_ok_bind (ff_X1_spanOf K hK T hT p1) ?_
        intro z86 hz86
        obtain ⟨r_6, _⟩ := z86
        have q87 : r_6 = p1 := hz86
        clear hz86
        have e88 : p1 = r_6 := q87.symm
        subst e88
        show zz_ok ((m_X4_take K n0 n1 n2 n3 n4 n5 n6 n7 n8 p1 s1 s2 s3 s4 s5 s6 s7 s8 s9 s10 s11 s12 s13 s14 s15 s16 s17).bind fun ⟨r_7, t_7_0, t_7_1, t_7_2, t_7_3, t_7_4, t_7_5, t_7_6, t_7_7, t_7_8, t_7_9, t_7_10, t_7_11, t_7_12, t_7_13, t_7_14, t_7_15, t_7_16⟩ => if r_7 = ((-1 : Int32)) then (some ("", (-1 : Int32), s0, t_7_0, t_7_1, t_7_2, t_7_3, t_7_4, t_7_5, t_7_6, t_7_7, t_7_8, t_7_9, t_7_10, t_7_11, t_7_12, t_7_13, t_7_14, t_7_15, t_7_16)) else ((m_X7_settle K n0 n1 n2 n3 n4 n5 n6 r_7 p1 p1 t_7_0 t_7_1 t_7_2 t_7_3 t_7_4 t_7_5 t_7_6 t_7_7 t_7_8 t_7_9 t_7_10 t_7_11 t_7_12).bind fun ⟨r_9, t_9_0, t_9_1, t_9_2, t_9_3, t_9_4, t_9_5, t_9_6, t_9_7, t_9_8, t_9_9, t_9_10, t_9_11, t_9_12⟩ => some ("", r_9, s0, t_9_0, t_9_1, t_9_2, t_9_3, t_9_4, t_9_5, t_9_6, t_9_7, t_9_8, t_9_9, t_9_10, t_9_11, t_9_12, t_7_13, t_7_14, t_7_15, t_7_16))) _
        refine zz_ok_bind (ff_X4_take K hK T hT n0 n1 n2 n3 n4 n5 n6 n7 n8 p1 s1 s2 s3 s4 s5 s6 s7 s8 s9 s10 s11 s12 s13 s14 s15 s16 s17 a7 a8 a13 a14 a10 a15 (by omega) (by omega)) ?_
        intro z89 hz89
        obtain ⟨r_7, t_7_0, t_7_1, t_7_2, t_7_3, t_7_4, t_7_5, t_7_6, t_7_7, t_7_8, t_7_9, t_7_10, t_7_11, t_7_12, t_7_13, t_7_14, t_7_15, t_7_16⟩ := z89
        have q90 : zz_ctk (s16) (s17) s14.toInt (t_7_15) (t_7_16) t_7_13.toInt p1.toNatClampNeg r_7.toInt := hz89.1
        have q91 : zz_vs s1.toInt (t_7_15) (t_7_16) t_7_13.toInt := hz89.2.1
        have q92 : 0 ≤ t_7_13.toInt := hz89.2.2.1
        have q93 : t_7_13.toInt ≤ 201 := hz89.2.2.2.1
        have q94 : -1 ≤ r_7.toInt := hz89.2.2.2.2.1
        have q95 : (r_7.toInt = -1 ∨ r_7.toInt + p1.toInt ≤ s1.toInt) := hz89.2.2.2.2.2.1
        have q96 : t_7_0 = s1 := hz89.2.2.2.2.2.2.1
        have q97 : t_7_1 = s2 := hz89.2.2.2.2.2.2.2.1
        have q98 : t_7_2 = s3 := hz89.2.2.2.2.2.2.2.2.1
        have q99 : t_7_4 = s5 := hz89.2.2.2.2.2.2.2.2.2.1
        have q100 : t_7_5 = s6 := hz89.2.2.2.2.2.2.2.2.2.2.1
        have q101 : t_7_6 = s7 := hz89.2.2.2.2.2.2.2.2.2.2.2.1
        have q102 : t_7_7 = s8 := hz89.2.2.2.2.2.2.2.2.2.2.2.2.1
        have q103 : t_7_8 = s9 := hz89.2.2.2.2.2.2.2.2.2.2.2.2.2.1
        have q104 : t_7_9 = s10 := hz89.2.2.2.2.2.2.2.2.2.2.2.2.2.2.1
        have q105 : t_7_10 = s11 := hz89.2.2.2.2.2.2.2.2.2.2.2.2.2.2.2.1
        have q106 : t_7_11 = s12 := hz89.2.2.2.2.2.2.2.2.2.2.2.2.2.2.2.2.1
        have q107 : t_7_12 = s13 := hz89.2.2.2.2.2.2.2.2.2.2.2.2.2.2.2.2.2.1
        have q108 : t_7_14 = s15 := hz89.2.2.2.2.2.2.2.2.2.2.2.2.2.2.2.2.2.2
        clear hz89
        have e109 : s1 = t_7_0 := q96.symm
        subst e109
        have e110 : s2 = t_7_1 := q97.symm
        subst e110
        have e111 : s3 = t_7_2 := q98.symm
        subst e111
        have e112 : s5 = t_7_4 := q99.symm
        subst e112
        have e113 : s6 = t_7_5 := q100.symm
        subst e113
        have e114 : s7 = t_7_6 := q101.symm
        subst e114
        have e115 : s8 = t_7_7 := q102.symm
        subst e115
        have e116 : s9 = t_7_8 := q103.symm
        subst e116
        have e117 : s10 = t_7_9 := q104.symm
        subst e117
        have e118 : s11 = t_7_10 := q105.symm
        subst e118
        have e119 : s12 = t_7_11 := q106.symm
        subst e119
        have e120 : s13 = t_7_12 := q107.symm
        subst e120
        have e121 : s15 = t_7_14 := q108.symm
        subst e121
        have g122 := zz_rg r_7
        have g123 := zz_rg t_7_3
        have g124 := zz_rg t_7_13
        show zz_ok (if r_7 = ((-1 : Int32)) then (some ("", (-1 : Int32), s0, s1, s2, s3, t_7_3, s5, s6, s7, s8, s9, s10, s11, s12, s13, t_7_13, s15, t_7_15, t_7_16)) else ((m_X7_settle K n0 n1 n2 n3 n4 n5 n6 r_7 p1 p1 s1 s2 s3 t_7_3 s5 s6 s7 s8 s9 s10 s11 s12 s13).bind fun ⟨r_9, t_9_0, t_9_1, t_9_2, t_9_3, t_9_4, t_9_5, t_9_6, t_9_7, t_9_8, t_9_9, t_9_10, t_9_11, t_9_12⟩ => some ("", r_9, s0, t_9_0, t_9_1, t_9_2, t_9_3, t_9_4, t_9_5, t_9_6, t_9_7, t_9_8, t_9_9, t_9_10, t_9_11, t_9_12, t_7_13, s15, t_7_15, t_7_16))) _
        have l126 : (-1 : Int32).toInt = -1 := rfl
        refine zz_ok_ite (fun c125 => ?_) (fun c125 => ?_)
        · have c125 := congrArg Int32.toInt c125
          refine zz_ok_some ?_
          show zz_GV (("")) (p1) (-1 : Int32).toInt s2.toInt (s3) (s6) (s7) (s8) (s9) (s16) (s17) s14.toInt s2.toInt s3.toInt (s6) (s7) (s8) (s9) (t_7_15) (t_7_16) t_7_13.toInt ∧ zz_vs s1.toInt (t_7_15) (t_7_16) t_7_13.toInt ∧ zz_vs s1.toInt (s7) (s8) s2.toInt ∧ 0 ≤ s2.toInt ∧ s2.toInt ≤ 200 ∧ 0 ≤ t_7_13.toInt ∧ t_7_13.toInt ≤ 201 ∧ s0 = s0 ∧ s1 = s1 ∧ s10 = s10 ∧ s11 = s11 ∧ s12 = s12 ∧ s13 = s13 ∧ s15 = s15
          exact ⟨(by first | exact Or.inl ⟨rfl, by omega, rfl, rfl, rfl, rfl, rfl, rfl, rfl, rfl, rfl⟩ | exact Or.inr (Or.inl ⟨rfl, by omega, by omega, by omega, rfl, rfl, rfl, rfl, rfl, rfl, rfl, rfl, rfl⟩) | exact Or.inr (Or.inr ⟨rfl, by omega, by omega, by omega, r_7, by assumption, Or.inl ⟨by omega, by decide, rfl, rfl, rfl, rfl, rfl, rfl⟩⟩) | exact Or.inr (Or.inr ⟨rfl, by omega, by omega, by omega, r_7, by assumption, Or.inr ⟨by omega, rfl, by omega, by omega, rfl, rfl, rfl, rfl⟩⟩)), q91, a16, a11, a12, q92, q93, rfl, rfl, rfl, rfl, rfl, rfl, rfl⟩
        · have c125 := zz_neq c125
          refine zz_ok_bind (ff_X7_settle K hK T hT n0 n1 n2 n3 n4 n5 n6 r_7 p1 p1 s1 s2 s3 t_7_3 s5 s6 s7 s8 s9 s10 s11 s12 s13 a0 a1 a2 a3 a4 a5 a6 a11 (by omega) (by omega) (by omega) (by omega) a10 a17 a18) ?_
          intro z127 hz127
          obtain ⟨r_9, t_9_0, t_9_1, t_9_2, t_9_3, t_9_4, t_9_5, t_9_6, t_9_7, t_9_8, t_9_9, t_9_10, t_9_11, t_9_12⟩ := z127
          have q128 : r_9 = s3 := hz127.1
          have q129 : t_9_1.toInt = s2.toInt + 1 := hz127.2.1
          have q130 : t_9_2.toInt = s3.toInt + 1 := hz127.2.2.1
          have q131 : t_9_5 = upd s6 s2.toNatClampNeg s3 := hz127.2.2.2.1
          have q132 : t_9_6 = upd s7 s2.toNatClampNeg r_7 := hz127.2.2.2.2.1
          have q133 : t_9_7 = upd s8 s2.toNatClampNeg p1 := hz127.2.2.2.2.2.1
          have q134 : t_9_8 = upd s9 s2.toNatClampNeg p1 := hz127.2.2.2.2.2.2.1
          have q135 : zz_wr (s5) (t_9_4) r_7.toInt (r_7.toInt + p1.toInt) (s3) := hz127.2.2.2.2.2.2.2.1
          have q136 : t_9_0 = s1 := hz127.2.2.2.2.2.2.2.2.1
          have q137 : t_9_3 = t_7_3 := hz127.2.2.2.2.2.2.2.2.2.1
          have q138 : t_9_9 = s10 := hz127.2.2.2.2.2.2.2.2.2.2.1
          have q139 : t_9_10 = s11 := hz127.2.2.2.2.2.2.2.2.2.2.2.1
          have q140 : t_9_11 = s12 := hz127.2.2.2.2.2.2.2.2.2.2.2.2.1
          have q141 : t_9_12 = s13 := hz127.2.2.2.2.2.2.2.2.2.2.2.2.2
          clear hz127
          have e142 : s3 = r_9 := q128.symm
          subst e142
          have e143 : upd s6 s2.toNatClampNeg s3 = t_9_5 := q131.symm
          subst e143
          have e144 : upd s7 s2.toNatClampNeg r_7 = t_9_6 := q132.symm
          subst e144
          have e145 : upd s8 s2.toNatClampNeg p1 = t_9_7 := q133.symm
          subst e145
          have e146 : upd s9 s2.toNatClampNeg p1 = t_9_8 := q134.symm
          subst e146
          have e147 : s1 = t_9_0 := q136.symm
          subst e147
          have e148 : t_7_3 = t_9_3 := q137.symm
          subst e148
          have e149 : s10 = t_9_9 := q138.symm
          subst e149
          have e150 : s11 = t_9_10 := q139.symm
          subst e150
          have e151 : s12 = t_9_11 := q140.symm
          subst e151
          have e152 : s13 = t_9_12 := q141.symm
          subst e152
          have g153 := zz_rg t_9_1
          have g154 := zz_rg t_9_2
          show zz_ok (some ("", s3, s0, s1, t_9_1, t_9_2, t_7_3, t_9_4, (upd s6 s2.toNatClampNeg s3), (upd s7 s2.toNatClampNeg r_7), (upd s8 s2.toNatClampNeg p1), (upd s9 s2.toNatClampNeg p1), s10, s11, s12, s13, t_7_13, s15, t_7_15, t_7_16)) _
          refine zz_ok_some ?_
          show zz_GV (("")) (p1) s3.toInt s2.toInt (s3) (s6) (s7) (s8) (s9) (s16) (s17) s14.toInt t_9_1.toInt t_9_2.toInt ((upd s6 s2.toNatClampNeg s3)) ((upd s7 s2.toNatClampNeg r_7)) ((upd s8 s2.toNatClampNeg p1)) ((upd s9 s2.toNatClampNeg p1)) (t_7_15) (t_7_16) t_7_13.toInt ∧ zz_vs s1.toInt (t_7_15) (t_7_16) t_7_13.toInt ∧ zz_vs s1.toInt ((upd s7 s2.toNatClampNeg r_7)) ((upd s8 s2.toNatClampNeg p1)) t_9_1.toInt ∧ 0 ≤ t_9_1.toInt ∧ t_9_1.toInt ≤ 200 ∧ 0 ≤ t_7_13.toInt ∧ t_7_13.toInt ≤ 201 ∧ s0 = s0 ∧ s1 = s1 ∧ s10 = s10 ∧ s11 = s11 ∧ s12 = s12 ∧ s13 = s13 ∧ s15 = s15
          exact ⟨(by first | exact Or.inl ⟨rfl, by omega, rfl, rfl, rfl, rfl, rfl, rfl, rfl, rfl, rfl⟩ | exact Or.inr (Or.inl ⟨rfl, by omega, by omega, by omega, rfl, rfl, rfl, rfl, rfl, rfl, rfl, rfl, rfl⟩) | exact Or.inr (Or.inr ⟨rfl, by omega, by omega, by omega, r_7, by assumption, Or.inl ⟨by omega, by decide, rfl, rfl, rfl, rfl, rfl, rfl⟩⟩) | exact Or.inr (Or.inr ⟨rfl, by omega, by omega, by omega, r_7, by assumption, Or.inr ⟨by omega, rfl, by omega, by omega, rfl, rfl, rfl, rfl⟩⟩)), q91, (by first | assumption | exact zz_vs_add (by assumption) (by omega) (by omega) (by omega) (by omega) (by omega)), (by omega), (by omega), q92, q93, rfl, rfl, rfl, rfl, rfl, rfl, rfl⟩
      · have c84 := zz_nlt c84
        have l155 : (0 : Int32).toInt = 0 := rfl
        refine zz_ok_some ?_
        show zz_GV (("java/lang/IndexOutOfBoundsException")) (p1) (0 : Int32).toInt s2.toInt (s3) (s6) (s7) (s8) (s9) (s16) (s17) s14.toInt s2.toInt s3.toInt (s6) (s7) (s8) (s9) (s16) (s17) s14.toInt ∧ zz_vs s1.toInt (s16) (s17) s14.toInt ∧ zz_vs s1.toInt (s7) (s8) s2.toInt ∧ 0 ≤ s2.toInt ∧ s2.toInt ≤ 200 ∧ 0 ≤ s14.toInt ∧ s14.toInt ≤ 201 ∧ s0 = s0 ∧ s1 = s1 ∧ s10 = s10 ∧ s11 = s11 ∧ s12 = s12 ∧ s13 = s13 ∧ s15 = s15
        exact ⟨(by first | exact Or.inl ⟨rfl, by omega, rfl, rfl, rfl, rfl, rfl, rfl, rfl, rfl, rfl⟩ | exact Or.inr (Or.inl ⟨rfl, by omega, by omega, by omega, rfl, rfl, rfl, rfl, rfl, rfl, rfl, rfl, rfl⟩) | exact Or.inr (Or.inr ⟨rfl, by omega, by omega, by omega, r_7, by assumption, Or.inl ⟨by omega, by decide, rfl, rfl, rfl, rfl, rfl, rfl⟩⟩) | exact Or.inr (Or.inr ⟨rfl, by omega, by omega, by omega, r_7, by assumption, Or.inr ⟨by omega, rfl, by omega, by omega, rfl, rfl, rfl, rfl⟩⟩)), a15, a16, a11, a12, a13, a14, rfl, rfl, rfl, rfl, rfl, rfl, rfl⟩
    · have c14 := zz_nle c14
      have l156 : (0 : Int32).toInt = 0 := rfl
      refine zz_ok_some ?_
      show zz_GV (("java/lang/IllegalArgumentException")) (p1) (0 : Int32).toInt s2.toInt (s3) (s6) (s7) (s8) (s9) (s16) (s17) s14.toInt s2.toInt s3.toInt (s6) (s7) (s8) (s9) (s16) (s17) s14.toInt ∧ zz_vs s1.toInt (s16) (s17) s14.toInt ∧ zz_vs s1.toInt (s7) (s8) s2.toInt ∧ 0 ≤ s2.toInt ∧ s2.toInt ≤ 200 ∧ 0 ≤ s14.toInt ∧ s14.toInt ≤ 201 ∧ s0 = s0 ∧ s1 = s1 ∧ s10 = s10 ∧ s11 = s11 ∧ s12 = s12 ∧ s13 = s13 ∧ s15 = s15
      exact ⟨(by first | exact Or.inl ⟨rfl, by omega, rfl, rfl, rfl, rfl, rfl, rfl, rfl, rfl, rfl⟩ | exact Or.inr (Or.inl ⟨rfl, by omega, by omega, by omega, rfl, rfl, rfl, rfl, rfl, rfl, rfl, rfl, rfl⟩) | exact Or.inr (Or.inr ⟨rfl, by omega, by omega, by omega, r_7, by assumption, Or.inl ⟨by omega, by decide, rfl, rfl, rfl, rfl, rfl, rfl⟩⟩) | exact Or.inr (Or.inr ⟨rfl, by omega, by omega, by omega, r_7, by assumption, Or.inr ⟨by omega, rfl, by omega, by omega, rfl, rfl, rfl, rfl⟩⟩)), a15, a16, a11, a12, a13, a14, rfl, rfl, rfl, rfl, rfl, rfl, rfl⟩
set_option maxHeartbeats 4000000 in
theorem ff_X11_back_X4 (K : Nat) (hK : 1099511627776 ≤ K) (T : Nat) (hT : T ≤ 900) (n0 : Nat) (n1 : Nat) (n2 : Nat) (n3 : Nat) (n4 : Nat) (n5 : Nat) (n6 : Nat) (n7 : Nat) (n8 : Nat) (p1 : Int32) (s0 : Int32) (s1 : Int32) (s2 : Int32) (s3 : Int32) (s4 : Int32) (s5 : Nat → Int32) (s6 : Nat → Int32) (s7 : Nat → Int32) (s8 : Nat → Int32) (s9 : Nat → Int32) (s10 : Int32) (s11 : Int32) (s12 : Nat → Int32) (s13 : Nat → Int32) (s14 : Int32) (s15 : Int32) (s16 : Nat → Int32) (s17 : Nat → Int32) (a0 : n0 = 1024) (a1 : n1 = 200) (a2 : n2 = 200) (a3 : n3 = 200) (a4 : n4 = 200) (a5 : n5 = 512) (a6 : n6 = 512) (a7 : n7 = 201) (a8 : n8 = 201) (a9 : 16 ≤ s1.toInt) (a10 : s1.toInt ≤ 1024) (a11 : 0 ≤ s2.toInt) (a12 : s2.toInt ≤ 200) (a13 : 0 ≤ s14.toInt) (a14 : s14.toInt ≤ 201) (a15 : zz_vs s1.toInt (s16) (s17) s14.toInt) (a16 : zz_vs s1.toInt (s7) (s8) s2.toInt) (a17 : 0 ≤ s3.toInt) (a18 : s3.toInt ≤ 100000) (a19 : zz_TN (p1) s2.toInt (s6) (s7) (s8) (s16) (s17) s14.toInt) : zz_ok (m_X11_back_X4 K n0 n1 n2 n3 n4 n5 n6 n7 n8 p1 s0 s1 s2 s3 s4 s5 s6 s7 s8 s9 s10 s11 s12 s13 s14 s15 s16 s17) (fun z => zz_BK (z.1) (p1) s2.toInt (s6) (s7) (s8) (s9) (s16) (s17) s14.toInt z.2.1.toInt z.2.2.2.2.1.toInt (z.2.2.2.2.2.2.2.2.1) (z.2.2.2.2.2.2.2.2.2.1) (z.2.2.2.2.2.2.2.2.2.2.1) (z.2.2.2.2.2.2.2.2.2.2.2.1) (z.2.2.2.2.2.2.2.2.2.2.2.2.2.2.2.2.2.2.1) (z.2.2.2.2.2.2.2.2.2.2.2.2.2.2.2.2.2.2.2) z.2.2.2.2.2.2.2.2.2.2.2.2.2.2.2.2.1.toInt ∧ zz_vs s1.toInt (z.2.2.2.2.2.2.2.2.2.2.2.2.2.2.2.2.2.2.1) (z.2.2.2.2.2.2.2.2.2.2.2.2.2.2.2.2.2.2.2) z.2.2.2.2.2.2.2.2.2.2.2.2.2.2.2.2.1.toInt ∧ zz_vs s1.toInt (z.2.2.2.2.2.2.2.2.2.1) (z.2.2.2.2.2.2.2.2.2.2.1) z.2.2.2.2.1.toInt ∧ 0 ≤ z.2.2.2.2.1.toInt ∧ z.2.2.2.2.1.toInt ≤ 200 ∧ 0 ≤ z.2.2.2.2.2.2.2.2.2.2.2.2.2.2.2.2.1.toInt ∧ z.2.2.2.2.2.2.2.2.2.2.2.2.2.2.2.2.1.toInt ≤ 201 ∧ z.2.2.1 = s0 ∧ z.2.2.2.1 = s1 ∧ z.2.2.2.2.2.1 = s3 ∧ z.2.2.2.2.2.2.1 = s4 ∧ z.2.2.2.2.2.2.2.2.2.2.2.2.1 = s10 ∧ z.2.2.2.2.2.2.2.2.2.2.2.2.2.1 = s11 ∧ z.2.2.2.2.2.2.2.2.2.2.2.2.2.2.1 = s12 ∧ z.2.2.2.2.2.2.2.2.2.2.2.2.2.2.2.1 = s13 ∧ z.2.2.2.2.2.2.2.2.2.2.2.2.2.2.2.2.2.1 = s15) := by
  have g1 := zz_rg p1
  have g2 := zz_rg s0
  have g3 := zz_rg s1
  have g4 := zz_rg s2
  have g5 := zz_rg s3
  have g6 := zz_rg s4
  have g7 := zz_rg s10
  have g8 := zz_rg s11
  have g9 := zz_rg s14
  have g10 := zz_rg s15
  unfold m_X11_back_X4
  refine zz_ok_bind (ff_X11_needRoom_X4 K hK T hT n0 n1 n2 n3 n4 n5 n6 n7 n8 s0 s1 s2 s3 s4 s5 s6 s7 s8 s9 s10 s11 s12 s13 s14 s15 s16 s17) ?_
  intro z11 hz11
  obtain ⟨e_1, t_1_0, t_1_1, t_1_2, t_1_3, t_1_4, t_1_5, t_1_6, t_1_7, t_1_8, t_1_9, t_1_10, t_1_11, t_1_12, t_1_13, t_1_14, t_1_15, t_1_16, t_1_17⟩ := z11
  have q12 : zz_em e_1 := hz11.1
  have q13 : t_1_0 = s0 := hz11.2.1
  have q14 : t_1_1 = s1 := hz11.2.2.1
  have q15 : t_1_2 = s2 := hz11.2.2.2.1
  have q16 : t_1_3 = s3 := hz11.2.2.2.2.1
  have q17 : t_1_4 = s4 := hz11.2.2.2.2.2.1
  have q18 : t_1_5 = s5 := hz11.2.2.2.2.2.2.1
  have q19 : t_1_6 = s6 := hz11.2.2.2.2.2.2.2.1
  have q20 : t_1_7 = s7 := hz11.2.2.2.2.2.2.2.2.1
  have q21 : t_1_8 = s8 := hz11.2.2.2.2.2.2.2.2.2.1
  have q22 : t_1_9 = s9 := hz11.2.2.2.2.2.2.2.2.2.2.1
  have q23 : t_1_10 = s10 := hz11.2.2.2.2.2.2.2.2.2.2.2.1
  have q24 : t_1_11 = s11 := hz11.2.2.2.2.2.2.2.2.2.2.2.2.1
  have q25 : t_1_12 = s12 := hz11.2.2.2.2.2.2.2.2.2.2.2.2.2.1
  have q26 : t_1_13 = s13 := hz11.2.2.2.2.2.2.2.2.2.2.2.2.2.2.1
  have q27 : t_1_14 = s14 := hz11.2.2.2.2.2.2.2.2.2.2.2.2.2.2.2.1
  have q28 : t_1_15 = s15 := hz11.2.2.2.2.2.2.2.2.2.2.2.2.2.2.2.2.1
  have q29 : t_1_16 = s16 := hz11.2.2.2.2.2.2.2.2.2.2.2.2.2.2.2.2.2.1
  have q30 : t_1_17 = s17 := hz11.2.2.2.2.2.2.2.2.2.2.2.2.2.2.2.2.2.2
  clear hz11
  have e31 : s0 = t_1_0 := q13.symm
  subst e31
  have e32 : s1 = t_1_1 := q14.symm
  subst e32
  have e33 : s2 = t_1_2 := q15.symm
  subst e33
  have e34 : s3 = t_1_3 := q16.symm
  subst e34
  have e35 : s4 = t_1_4 := q17.symm
  subst e35
  have e36 : s5 = t_1_5 := q18.symm
  subst e36
  have e37 : s6 = t_1_6 := q19.symm
  subst e37
  have e38 : s7 = t_1_7 := q20.symm
  subst e38
  have e39 : s8 = t_1_8 := q21.symm
  subst e39
  have e40 : s9 = t_1_9 := q22.symm
  subst e40
  have e41 : s10 = t_1_10 := q23.symm
  subst e41
  have e42 : s11 = t_1_11 := q24.symm
  subst e42
  have e43 : s12 = t_1_12 := q25.symm
  subst e43
  have e44 : s13 = t_1_13 := q26.symm
  subst e44
  have e45 : s14 = t_1_14 := q27.symm
  subst e45
  have e46 : s15 = t_1_15 := q28.symm
  subst e46
  have e47 : s16 = t_1_16 := q29.symm
  subst e47
  have e48 : s17 = t_1_17 := q30.symm
  subst e48
  show zz_ok (if e_1 = "" then ((m_X11_needBlock_X4 K n0 n1 n2 n3 n4 n5 n6 n7 n8 p1 s0 s1 s2 s3 s4 s5 s6 s7 s8 s9 s10 s11 s12 s13 s14 s15 s16 s17).bind fun ⟨e_2, r_2, t_2_0, t_2_1, t_2_2, t_2_3, t_2_4, t_2_5, t_2_6, t_2_7, t_2_8, t_2_9, t_2_10, t_2_11, t_2_12, t_2_13, t_2_14, t_2_15, t_2_16, t_2_17⟩ => if e_2 = "" then ((m_X7_placeOf K n0 n1 n2 n3 n4 n5 n6 r_2 t_2_1 t_2_2 t_2_3 t_2_4 t_2_5 t_2_6 t_2_7 t_2_8 t_2_9 t_2_10 t_2_11 t_2_12 t_2_13).bind fun ⟨r_3, t_3_0, t_3_1, t_3_2, t_3_3, t_3_4, t_3_5, t_3_6, t_3_7, t_3_8, t_3_9, t_3_10, t_3_11, t_3_12⟩ => (m_X7_spanOf K n0 n1 n2 n3 n4 n5 n6 r_2 t_3_0 t_3_1 t_3_2 t_3_3 t_3_4 t_3_5 t_3_6 t_3_7 t_3_8 t_3_9 t_3_10 t_3_11 t_3_12).bind fun ⟨r_4, t_4_0, t_4_1, t_4_2, t_4_3, t_4_4, t_4_5, t_4_6, t_4_7, t_4_8, t_4_9, t_4_10, t_4_11, t_4_12⟩ => (m_X7_remove K n0 n1 n2 n3 n4 n5 n6 r_2 t_4_0 t_4_1 t_4_2 t_4_3 t_4_4 t_4_5 t_4_6 t_4_7 t_4_8 t_4_9 t_4_10 t_4_11 t_4_12).bind fun ⟨t_5_0, t_5_1, t_5_2, t_5_3, t_5_4, t_5_5, t_5_6, t_5_7, t_5_8, t_5_9, t_5_10, t_5_11, t_5_12⟩ => (m_X4_takeBack K n0 n1 n2 n3 n4 n5 n6 n7 n8 r_3 r_4 t_5_0 t_5_1 t_5_2 t_5_3 t_5_4 t_5_5 t_5_6 t_5_7 t_5_8 t_5_9 t_5_10 t_5_11 t_5_12 t_2_14 t_2_15 t_2_16 t_2_17).bind fun ⟨t_6_0, t_6_1, t_6_2, t_6_3, t_6_4, t_6_5, t_6_6, t_6_7, t_6_8, t_6_9, t_6_10, t_6_11, t_6_12, t_6_13, t_6_14, t_6_15, t_6_16⟩ => some ("", r_3, t_2_0, t_6_0, t_6_1, t_6_2, t_6_3, t_6_4, t_6_5, t_6_6, t_6_7, t_6_8, t_6_9, t_6_10, t_6_11, t_6_12, t_6_13, t_6_14, t_6_15, t_6_16)) else (some (e_2, 0, t_2_0, t_2_1, t_2_2, t_2_3, t_2_4, t_2_5, t_2_6, t_2_7, t_2_8, t_2_9, t_2_10, t_2_11, t_2_12, t_2_13, t_2_14, t_2_15, t_2_16, t_2_17))) else (some (e_1, 0, s0, s1, s2, s3, s4, s5, s6, s7, s8, s9, s10, s11, s12, s13, s14, s15, s16, s17))) _
  refine zz_ok_ite (fun c49 => ?_) (fun c49 => absurd q12 c49)
  refine zz_ok_bind (ff_X11_needBlock_X4 K hK T hT n0 n1 n2 n3 n4 n5 n6 n7 n8 p1 s0 s1 s2 s3 s4 s5 s6 s7 s8 s9 s10 s11 s12 s13 s14 s15 s16 s17 a0 a1 a2 a3 a4 a5 a6 a7 a8 a9 a10 a11 a12 a13 a14 a15 a16 a17 a18) ?_
  intro z50 hz50
  obtain ⟨e_2, r_2, t_2_0, t_2_1, t_2_2, t_2_3, t_2_4, t_2_5, t_2_6, t_2_7, t_2_8, t_2_9, t_2_10, t_2_11, t_2_12, t_2_13, t_2_14, t_2_15, t_2_16, t_2_17⟩ := z50
  have q51 : zz_nb (s6) (p1) s2.toInt (e_2) r_2.toInt := hz50.1
  have q52 : t_2_0 = s0 := hz50.2.1
  have q53 : t_2_1 = s1 := hz50.2.2.1
  have q54 : t_2_2 = s2 := hz50.2.2.2.1
  have q55 : t_2_3 = s3 := hz50.2.2.2.2.1
  have q56 : t_2_4 = s4 := hz50.2.2.2.2.2.1
  have q57 : t_2_5 = s5 := hz50.2.2.2.2.2.2.1
  have q58 : t_2_6 = s6 := hz50.2.2.2.2.2.2.2.1
  have q59 : t_2_7 = s7 := hz50.2.2.2.2.2.2.2.2.1
  have q60 : t_2_8 = s8 := hz50.2.2.2.2.2.2.2.2.2.1
  have q61 : t_2_9 = s9 := hz50.2.2.2.2.2.2.2.2.2.2.1
  have q62 : t_2_10 = s10 := hz50.2.2.2.2.2.2.2.2.2.2.2.1
  have q63 : t_2_11 = s11 := hz50.2.2.2.2.2.2.2.2.2.2.2.2.1
  have q64 : t_2_12 = s12 := hz50.2.2.2.2.2.2.2.2.2.2.2.2.2.1
  have q65 : t_2_13 = s13 := hz50.2.2.2.2.2.2.2.2.2.2.2.2.2.2.1
  have q66 : t_2_14 = s14 := hz50.2.2.2.2.2.2.2.2.2.2.2.2.2.2.2.1
  have q67 : t_2_15 = s15 := hz50.2.2.2.2.2.2.2.2.2.2.2.2.2.2.2.2.1
  have q68 : t_2_16 = s16 := hz50.2.2.2.2.2.2.2.2.2.2.2.2.2.2.2.2.2.1
  have q69 : t_2_17 = s17 := hz50.2.2.2.2.2.2.2.2.2.2.2.2.2.2.2.2.2.2
  clear hz50
  have e70 : s0 = t_2_0 := q52.symm
  subst e70
  have e71 : s1 = t_2_1 := q53.symm
  subst e71
  have e72 : s2 = t_2_2 := q54.symm
  subst e72
  have e73 : s3 = t_2_3 := q55.symm
  subst e73
  have e74 : s4 = t_2_4 := q56.symm
  subst e74
  have e75 : s5 = t_2_5 := q57.symm
  subst e75
  have e76 : s6 = t_2_6 := q58.symm
  subst e76
  have e77 : s7 = t_2_7 := q59.symm
  subst e77
  have e78 : s8 = t_2_8 := q60.symm
  subst e78
  have e79 : s9 = t_2_9 := q61.symm
  subst e79
  have e80 : s10 = t_2_10 := q62.symm
  subst e80
  have e81 : s11 = t_2_11 := q63.symm
  subst e81
  have e82 : s12 = t_2_12 := q64.symm
  subst e82
  have e83 : s13 = t_2_13 := q65.symm
  subst e83
  have e84 : s14 = t_2_14 := q66.symm
  subst e84
  have e85 : s15 = t_2_15 := q67.symm
  subst e85
  have e86 : s16 = t_2_16 := q68.symm
  subst e86
  have e87 : s17 = t_2_17 := q69.symm
  subst e87
  have g88 := zz_rg r_2
  show zz_ok (if e_2 = "" then ((m_X7_placeOf K n0 n1 n2 n3 n4 n5 n6 r_2 s1 s2 s3 s4 s5 s6 s7 s8 s9 s10 s11 s12 s13).bind fun ⟨r_3, t_3_0, t_3_1, t_3_2, t_3_3, t_3_4, t_3_5, t_3_6, t_3_7, t_3_8, t_3_9, t_3_10, t_3_11, t_3_12⟩ => (m_X7_spanOf K n0 n1 n2 n3 n4 n5 n6 r_2 t_3_0 t_3_1 t_3_2 t_3_3 t_3_4 t_3_5 t_3_6 t_3_7 t_3_8 t_3_9 t_3_10 t_3_11 t_3_12).bind fun ⟨r_4, t_4_0, t_4_1, t_4_2, t_4_3, t_4_4, t_4_5, t_4_6, t_4_7, t_4_8, t_4_9, t_4_10, t_4_11, t_4_12⟩ => (m_X7_remove K n0 n1 n2 n3 n4 n5 n6 r_2 t_4_0 t_4_1 t_4_2 t_4_3 t_4_4 t_4_5 t_4_6 t_4_7 t_4_8 t_4_9 t_4_10 t_4_11 t_4_12).bind fun ⟨t_5_0, t_5_1, t_5_2, t_5_3, t_5_4, t_5_5, t_5_6, t_5_7, t_5_8, t_5_9, t_5_10, t_5_11, t_5_12⟩ => (m_X4_takeBack K n0 n1 n2 n3 n4 n5 n6 n7 n8 r_3 r_4 t_5_0 t_5_1 t_5_2 t_5_3 t_5_4 t_5_5 t_5_6 t_5_7 t_5_8 t_5_9 t_5_10 t_5_11 t_5_12 s14 s15 s16 s17).bind fun ⟨t_6_0, t_6_1, t_6_2, t_6_3, t_6_4, t_6_5, t_6_6, t_6_7, t_6_8, t_6_9, t_6_10, t_6_11, t_6_12, t_6_13, t_6_14, t_6_15, t_6_16⟩ => some ("", r_3, s0, t_6_0, t_6_1, t_6_2, t_6_3, t_6_4, t_6_5, t_6_6, t_6_7, t_6_8, t_6_9, t_6_10, t_6_11, t_6_12, t_6_13, t_6_14, t_6_15, t_6_16)) else (some (e_2, 0, s0, s1, s2, s3, s4, s5, s6, s7, s8, s9, s10, s11, s12, s13, s14, s15, s16, s17))) _
  refine zz_ok_ite (fun c89 => ?_) (fun c89 => ?_)
  · skip
    have nb9 := zz_nb_rg (by assumption : zz_nb s6 p1 s2.toInt e_2 _) c89
    have ct9 := zz_vs_at (by assumption : zz_vs s1.toInt s7 s8 s2.toInt) r_2 (by omega) (by omega)
    have tl9 := zz_TN_at (by assumption : zz_TN p1 s2.toInt s6 s7 s8 s16 s17 s14.toInt) (by assumption : zz_nb s6 p1 s2.toInt e_2 r_2.toInt) c89
    refine zz_ok_bind (ff_X7_placeOf K hK T hT n0 n1 n2 n3 n4 n5 n6 r_2 s1 s2 s3 s4 s5 s6 s7 s8 s9 s10 s11 s12 s13 a2 (by omega) (by omega) a12) ?_
    intro z90 hz90
    obtain ⟨r_3, t_3_0, t_3_1, t_3_2, t_3_3, t_3_4, t_3_5, t_3_6, t_3_7, t_3_8, t_3_9, t_3_10, t_3_11, t_3_12⟩ := z90
    have q91 : r_3 = s7 r_2.toNatClampNeg := hz90.1
    have q92 : t_3_0 = s1 := hz90.2.1
    have q93 : t_3_1 = s2 := hz90.2.2.1
    have q94 : t_3_2 = s3 := hz90.2.2.2.1
    have q95 : t_3_3 = s4 := hz90.2.2.2.2.1
    have q96 : t_3_4 = s5 := hz90.2.2.2.2.2.1
    have q97 : t_3_5 = s6 := hz90.2.2.2.2.2.2.1
    have q98 : t_3_6 = s7 := hz90.2.2.2.2.2.2.2.1
    have q99 : t_3_7 = s8 := hz90.2.2.2.2.2.2.2.2.1
    have q100 : t_3_8 = s9 := hz90.2.2.2.2.2.2.2.2.2.1
    have q101 : t_3_9 = s10 := hz90.2.2.2.2.2.2.2.2.2.2.1
    have q102 : t_3_10 = s11 := hz90.2.2.2.2.2.2.2.2.2.2.2.1
    have q103 : t_3_11 = s12 := hz90.2.2.2.2.2.2.2.2.2.2.2.2.1
    have q104 : t_3_12 = s13 := hz90.2.2.2.2.2.2.2.2.2.2.2.2.2
    clear hz90
    have e105 : s7 r_2.toNatClampNeg = r_3 := q91.symm
    subst e105
    have e106 : s1 = t_3_0 := q92.symm
    subst e106
    have e107 : s2 = t_3_1 := q93.symm
    subst e107
    have e108 : s3 = t_3_2 := q94.symm
    subst e108
    have e109 : s4 = t_3_3 := q95.symm
    subst e109
    have e110 : s5 = t_3_4 := q96.symm
    subst e110
    have e111 : s6 = t_3_5 := q97.symm
    subst e111
    have e112 : s7 = t_3_6 := q98.symm
    subst e112
    have e113 : s8 = t_3_7 := q99.symm
    subst e113
    have e114 : s9 = t_3_8 := q100.symm
    subst e114
    have e115 : s10 = t_3_9 := q101.symm
    subst e115
    have e116 : s11 = t_3_10 := q102.symm
    subst e116
    have e117 : s12 = t_3_11 := q103.symm
    subst e117
    have e118 : s13 = t_3_12 := q104.symm
    subst e118
    show zz_ok ((m_X7_spanOf K n0 n1 n2 n3 n4 n5 n6 r_2 s1 s2 s3 s4 s5 s6 s7 s8 s9 s10 s11 s12 s13).bind fun ⟨r_4, t_4_0, t_4_1, t_4_2, t_4_3, t_4_4, t_4_5, t_4_6, t_4_7, t_4_8, t_4_9, t_4_10, t_4_11, t_4_12⟩ => (m_X7_remove K n0 n1 n2 n3 n4 n5 n6 r_2 t_4_0 t_4_1 t_4_2 t_4_3 t_4_4 t_4_5 t_4_6 t_4_7 t_4_8 t_4_9 t_4_10 t_4_11 t_4_12).bind fun ⟨t_5_0, t_5_1, t_5_2, t_5_3, t_5_4, t_5_5, t_5_6, t_5_7, t_5_8, t_5_9, t_5_10, t_5_11, t_5_12⟩ => (m_X4_takeBack K n0 n1 n2 n3 n4 n5 n6 n7 n8 (s7 r_2.toNatClampNeg) r_4 t_5_0 t_5_1 t_5_2 t_5_3 t_5_4 t_5_5 t_5_6 t_5_7 t_5_8 t_5_9 t_5_10 t_5_11 t_5_12 s14 s15 s16 s17).bind fun ⟨t_6_0, t_6_1, t_6_2, t_6_3, t_6_4, t_6_5, t_6_6, t_6_7, t_6_8, t_6_9, t_6_10, t_6_11, t_6_12, t_6_13, t_6_14, t_6_15, t_6_16⟩ => some ("", (s7 r_2.toNatClampNeg), s0, t_6_0, t_6_1, t_6_2, t_6_3, t_6_4, t_6_5, t_6_6, t_6_7, t_6_8, t_6_9, t_6_10, t_6_11, t_6_12, t_6_13, t_6_14, t_6_15, t_6_16)) _
    refine zz_ok_bind (ff_X7_spanOf K hK T hT n0 n1 n2 n3 n4 n5 n6 r_2 s1 s2 s3 s4 s5 s6 s7 s8 s9 s10 s11 s12 s13 a3 (by omega) (by omega) a12) ?_
    intro z119 hz119
    obtain ⟨r_4, t_4_0, t_4_1, t_4_2, t_4_3, t_4_4, t_4_5, t_4_6, t_4_7, t_4_8, t_4_9, t_4_10, t_4_11, t_4_12⟩ := z119
    have q120 : r_4 = s8 r_2.toNatClampNeg := hz119.1
    have q121 : t_4_0 = s1 := hz119.2.1
    have q122 : t_4_1 = s2 := hz119.2.2.1
    have q123 : t_4_2 = s3 := hz119.2.2.2.1
    have q124 : t_4_3 = s4 := hz119.2.2.2.2.1
    have q125 : t_4_4 = s5 := hz119.2.2.2.2.2.1
    have q126 : t_4_5 = s6 := hz119.2.2.2.2.2.2.1
    have q127 : t_4_6 = s7 := hz119.2.2.2.2.2.2.2.1
    have q128 : t_4_7 = s8 := hz119.2.2.2.2.2.2.2.2.1
    have q129 : t_4_8 = s9 := hz119.2.2.2.2.2.2.2.2.2.1
    have q130 : t_4_9 = s10 := hz119.2.2.2.2.2.2.2.2.2.2.1
    have q131 : t_4_10 = s11 := hz119.2.2.2.2.2.2.2.2.2.2.2.1
    have q132 : t_4_11 = s12 := hz119.2.2.2.2.2.2.2.2.2.2.2.2.1
    have q133 : t_4_12 = s13 := hz119.2.2.2.2.2.2.2.2.2.2.2.2.2
    clear hz119
    have e134 : s8 r_2.toNatClampNeg = r_4 := q120.symm
    subst e134
    have e135 : s1 = t_4_0 := q121.symm
    subst e135
    have e136 : s2 = t_4_1 := q122.symm
    subst e136
    have e137 : s3 = t_4_2 := q123.symm
    subst e137
    have e138 : s4 = t_4_3 := q124.symm
    subst e138
    have e139 : s5 = t_4_4 := q125.symm
    subst e139
    have e140 : s6 = t_4_5 := q126.symm
    subst e140
    have e141 : s7 = t_4_6 := q127.symm
    subst e141
    have e142 : s8 = t_4_7 := q128.symm
    subst e142
    have e143 : s9 = t_4_8 := q129.symm
    subst e143
    have e144 : s10 = t_4_9 := q130.symm
    subst e144
    have e145 : s11 = t_4_10 := q131.symm
    subst e145
    have e146 : s12 = t_4_11 := q132.symm
    subst e146
    have e147 : s13 = t_4_12 := q133.symm
    subst e147
    show zz_ok ((m_X7_remove K n0 n1 n2 n3 n4 n5 n6 r_2 s1 s2 s3 s4 s5 s6 s7 s8 s9 s10 s11 s12 s13).bind fun ⟨t_5_0, t_5_1, t_5_2, t_5_3, t_5_4, t_5_5, t_5_6, t_5_7, t_5_8, t_5_9, t_5_10, t_5_11, t_5_12⟩ => (m_X4_takeBack K n0 n1 n2 n3 n4 n5 n6 n7 n8 (s7 r_2.toNatClampNeg) (s8 r_2.toNatClampNeg) t_5_0 t_5_1 t_5_2 t_5_3 t_5_4 t_5_5 t_5_6 t_5_7 t_5_8 t_5_9 t_5_10 t_5_11 t_5_12 s14 s15 s16 s17).bind fun ⟨t_6_0, t_6_1, t_6_2, t_6_3, t_6_4, t_6_5, t_6_6, t_6_7, t_6_8, t_6_9, t_6_10, t_6_11, t_6_12, t_6_13, t_6_14, t_6_15, t_6_16⟩ => some ("", (s7 r_2.toNatClampNeg), s0, t_6_0, t_6_1, t_6_2, t_6_3, t_6_4, t_6_5, t_6_6, t_6_7, t_6_8, t_6_9, t_6_10, t_6_11, t_6_12, t_6_13, t_6_14, t_6_15, t_6_16)) _
    refine zz_ok_bind (ff_X7_remove K hK T hT n0 n1 n2 n3 n4 n5 n6 r_2 s1 s2 s3 s4 s5 s6 s7 s8 s9 s10 s11 s12 s13 a0 a1 a2 a3 a4 a5 a6 (by omega) (by omega) a12 (by omega) (by omega) (by omega) a10) ?_
    intro z148 hz148
    obtain ⟨t_5_0, t_5_1, t_5_2, t_5_3, t_5_4, t_5_5, t_5_6, t_5_7, t_5_8, t_5_9, t_5_10, t_5_11, t_5_12⟩ := z148
    have q149 : t_5_1.toInt = s2.toInt - 1 := hz148.1
    have q150 : zz_wr (s5) (t_5_4) (s7 r_2.toNatClampNeg).toInt ((s7 r_2.toNatClampNeg).toInt + (s8 r_2.toNatClampNeg).toInt) (-1) := hz148.2.1
    have q151 : zz_mv (s6) (t_5_5) r_2.toInt s2.toInt := hz148.2.2.1
    have q152 : zz_mv (s7) (t_5_6) r_2.toInt s2.toInt := hz148.2.2.2.1
    have q153 : zz_mv (s8) (t_5_7) r_2.toInt s2.toInt := hz148.2.2.2.2.1
    have q154 : zz_mv (s9) (t_5_8) r_2.toInt s2.toInt := hz148.2.2.2.2.2.1
    have q155 : t_5_0 = s1 := hz148.2.2.2.2.2.2.1
    have q156 : t_5_2 = s3 := hz148.2.2.2.2.2.2.2.1
    have q157 : t_5_3 = s4 := hz148.2.2.2.2.2.2.2.2.1
    have q158 : t_5_9 = s10 := hz148.2.2.2.2.2.2.2.2.2.1
    have q159 : t_5_10 = s11 := hz148.2.2.2.2.2.2.2.2.2.2.1
    have q160 : t_5_11 = s12 := hz148.2.2.2.2.2.2.2.2.2.2.2.1
    have q161 : t_5_12 = s13 := hz148.2.2.2.2.2.2.2.2.2.2.2.2
    clear hz148
    have e162 : s1 = t_5_0 := q155.symm
    subst e162
    have e163 : s3 = t_5_2 := q156.symm
    subst e163
    have e164 : s4 = t_5_3 := q157.symm
    subst e164
    have e165 : s10 = t_5_9 := q158.symm
    subst e165
    have e166 : s11 = t_5_10 := q159.symm
    subst e166
    have e167 : s12 = t_5_11 := q160.symm
    subst e167
    have e168 : s13 = t_5_12 := q161.symm
    subst e168
    have g169 := zz_rg t_5_1
    show zz_ok ((m_X4_takeBack K n0 n1 n2 n3 n4 n5 n6 n7 n8 (s7 r_2.toNatClampNeg) (s8 r_2.toNatClampNeg) s1 t_5_1 s3 s4 t_5_4 t_5_5 t_5_6 t_5_7 t_5_8 s10 s11 s12 s13 s14 s15 s16 s17).bind fun ⟨t_6_0, t_6_1, t_6_2, t_6_3, t_6_4, t_6_5, t_6_6, t_6_7, t_6_8, t_6_9, t_6_10, t_6_11, t_6_12, t_6_13, t_6_14, t_6_15, t_6_16⟩ => some ("", (s7 r_2.toNatClampNeg), s0, t_6_0, t_6_1, t_6_2, t_6_3, t_6_4, t_6_5, t_6_6, t_6_7, t_6_8, t_6_9, t_6_10, t_6_11, t_6_12, t_6_13, t_6_14, t_6_15, t_6_16)) _
    have g170 := zz_rg (s7 r_2.toNatClampNeg)
    have g171 := zz_rg (s8 r_2.toNatClampNeg)
    refine zz_ok_bind (ff_X4_takeBack K hK T hT n0 n1 n2 n3 n4 n5 n6 n7 n8 (s7 r_2.toNatClampNeg) (s8 r_2.toNatClampNeg) s1 t_5_1 s3 s4 t_5_4 t_5_5 t_5_6 t_5_7 t_5_8 s10 s11 s12 s13 s14 s15 s16 s17 a7 a8 a13 a14 a10 a15 (by omega) (by omega) (by omega) (by assumption)) ?_
    intro z172 hz172
    obtain ⟨t_6_0, t_6_1, t_6_2, t_6_3, t_6_4, t_6_5, t_6_6, t_6_7, t_6_8, t_6_9, t_6_10, t_6_11, t_6_12, t_6_13, t_6_14, t_6_15, t_6_16⟩ := z172
    have q173 : zz_ctb (s16) (s17) s14.toInt (s7 r_2.toNatClampNeg).toInt (s8 r_2.toNatClampNeg).toInt (t_6_15) (t_6_16) t_6_13.toInt := hz172.1
    have q174 : zz_vs s1.toInt (t_6_15) (t_6_16) t_6_13.toInt := hz172.2.1
    have q175 : 0 ≤ t_6_13.toInt := hz172.2.2.1
    have q176 : t_6_13.toInt ≤ 201 := hz172.2.2.2.1
    have q177 : t_6_0 = s1 := hz172.2.2.2.2.1
    have q178 : t_6_1 = t_5_1 := hz172.2.2.2.2.2.1
    have q179 : t_6_2 = s3 := hz172.2.2.2.2.2.2.1
    have q180 : t_6_3 = s4 := hz172.2.2.2.2.2.2.2.1
    have q181 : t_6_4 = t_5_4 := hz172.2.2.2.2.2.2.2.2.1
    have q182 : t_6_5 = t_5_5 := hz172.2.2.2.2.2.2.2.2.2.1
    have q183 : t_6_6 = t_5_6 := hz172.2.2.2.2.2.2.2.2.2.2.1
    have q184 : t_6_7 = t_5_7 := hz172.2.2.2.2.2.2.2.2.2.2.2.1
    have q185 : t_6_8 = t_5_8 := hz172.2.2.2.2.2.2.2.2.2.2.2.2.1
    have q186 : t_6_9 = s10 := hz172.2.2.2.2.2.2.2.2.2.2.2.2.2.1
    have q187 : t_6_10 = s11 := hz172.2.2.2.2.2.2.2.2.2.2.2.2.2.2.1
    have q188 : t_6_11 = s12 := hz172.2.2.2.2.2.2.2.2.2.2.2.2.2.2.2.1
    have q189 : t_6_12 = s13 := hz172.2.2.2.2.2.2.2.2.2.2.2.2.2.2.2.2.1
    have q190 : t_6_14 = s15 := hz172.2.2.2.2.2.2.2.2.2.2.2.2.2.2.2.2.2
    clear hz172
    have e191 : s1 = t_6_0 := q177.symm
    subst e191
    have e192 : t_5_1 = t_6_1 := q178.symm
    subst e192
    have e193 : s3 = t_6_2 := q179.symm
    subst e193
    have e194 : s4 = t_6_3 := q180.symm
    subst e194
    have e195 : t_5_4 = t_6_4 := q181.symm
    subst e195
    have e196 : t_5_5 = t_6_5 := q182.symm
    subst e196
    have e197 : t_5_6 = t_6_6 := q183.symm
    subst e197
    have e198 : t_5_7 = t_6_7 := q184.symm
    subst e198
    have e199 : t_5_8 = t_6_8 := q185.symm
    subst e199
    have e200 : s10 = t_6_9 := q186.symm
    subst e200
    have e201 : s11 = t_6_10 := q187.symm
    subst e201
    have e202 : s12 = t_6_11 := q188.symm
    subst e202
    have e203 : s13 = t_6_12 := q189.symm
    subst e203
    have e204 : s15 = t_6_14 := q190.symm
    subst e204
    have g205 := zz_rg t_6_13
    show zz_ok (some ("", (s7 r_2.toNatClampNeg), s0, s1, t_5_1, s3, s4, t_5_4, t_5_5, t_5_6, t_5_7, t_5_8, s10, s11, s12, s13, t_6_13, s15, t_6_15, t_6_16)) _
    refine zz_ok_some ?_
    show zz_BK (("")) (p1) s2.toInt (s6) (s7) (s8) (s9) (s16) (s17) s14.toInt (s7 r_2.toNatClampNeg).toInt t_5_1.toInt (t_5_5) (t_5_6) (t_5_7) (t_5_8) (t_6_15) (t_6_16) t_6_13.toInt ∧ zz_vs s1.toInt (t_6_15) (t_6_16) t_6_13.toInt ∧ zz_vs s1.toInt (t_5_6) (t_5_7) t_5_1.toInt ∧ 0 ≤ t_5_1.toInt ∧ t_5_1.toInt ≤ 200 ∧ 0 ≤ t_6_13.toInt ∧ t_6_13.toInt ≤ 201 ∧ s0 = s0 ∧ s1 = s1 ∧ s3 = s3 ∧ s4 = s4 ∧ s10 = s10 ∧ s11 = s11 ∧ s12 = s12 ∧ s13 = s13 ∧ s15 = s15
    exact ⟨(by first | exact zz_BK_n (by assumption) (by assumption) | exact zz_BK_y (x := r_2) (by assumption) (by assumption) rfl rfl (by omega) (by assumption) (by assumption) (by assumption) (by assumption) (by assumption)), q174, (by first | assumption | exact zz_vs_mv (by assumption : zz_vs s1.toInt s7 s8 s2.toInt) (by assumption) (by assumption) (by omega) (by omega) (by omega)), (by omega), (by omega), q175, q176, rfl, rfl, rfl, rfl, rfl, rfl, rfl, rfl, rfl⟩
  · skip
    have l206 : (0 : Int32).toInt = 0 := rfl
    refine zz_ok_some ?_
    show zz_BK (e_2) (p1) s2.toInt (s6) (s7) (s8) (s9) (s16) (s17) s14.toInt (0 : Int32).toInt s2.toInt (s6) (s7) (s8) (s9) (s16) (s17) s14.toInt ∧ zz_vs s1.toInt (s16) (s17) s14.toInt ∧ zz_vs s1.toInt (s7) (s8) s2.toInt ∧ 0 ≤ s2.toInt ∧ s2.toInt ≤ 200 ∧ 0 ≤ s14.toInt ∧ s14.toInt ≤ 201 ∧ s0 = s0 ∧ s1 = s1 ∧ s3 = s3 ∧ s4 = s4 ∧ s10 = s10 ∧ s11 = s11 ∧ s12 = s12 ∧ s13 = s13 ∧ s15 = s15
    exact ⟨(by first | exact zz_BK_n (by assumption) (by assumption) | exact zz_BK_y (x := r_2) (by assumption) (by assumption) rfl rfl (by omega) (by assumption) (by assumption) (by assumption) (by assumption) (by assumption)), a15, a16, a11, a12, a13, a14, rfl, rfl, rfl, rfl, rfl, rfl, rfl, rfl, rfl⟩
set_option maxHeartbeats 4000000 in
theorem ff_X11_open_X4 (K : Nat) (hK : 1099511627776 ≤ K) (T : Nat) (hT : T ≤ 900) (n0 : Nat) (n1 : Nat) (n2 : Nat) (n3 : Nat) (n4 : Nat) (n5 : Nat) (n6 : Nat) (n7 : Nat) (n8 : Nat) (p1 : Int32) (p2 : Int32) (s0 : Int32) (s1 : Int32) (s2 : Int32) (s3 : Int32) (s4 : Int32) (s5 : Nat → Int32) (s6 : Nat → Int32) (s7 : Nat → Int32) (s8 : Nat → Int32) (s9 : Nat → Int32) (s10 : Int32) (s11 : Int32) (s12 : Nat → Int32) (s13 : Nat → Int32) (s14 : Int32) (s15 : Int32) (s16 : Nat → Int32) (s17 : Nat → Int32) (a0 : n0 = 1024) (a1 : n1 = 200) (a2 : n2 = 200) (a3 : n3 = 200) (a4 : n4 = 200) (a5 : n5 = 512) (a6 : n6 = 512) (a7 : n7 = 201) (a8 : n8 = 201) : zz_ok (m_X11_open_X4 K n0 n1 n2 n3 n4 n5 n6 n7 n8 p1 p2 s0 s1 s2 s3 s4 s5 s6 s7 s8 s9 s10 s11 s12 s13 s14 s15 s16 s17) (fun z => zz_OP (z.1) p1.toInt p2.toInt (z.2.1 = s0 ∧ z.2.2.1 = s1 ∧ z.2.2.2.1 = s2 ∧ z.2.2.2.2.1 = s3 ∧ z.2.2.2.2.2.1 = s4 ∧ z.2.2.2.2.2.2.1 = s5 ∧ z.2.2.2.2.2.2.2.1 = s6 ∧ z.2.2.2.2.2.2.2.2.1 = s7 ∧ z.2.2.2.2.2.2.2.2.2.1 = s8 ∧ z.2.2.2.2.2.2.2.2.2.2.1 = s9 ∧ z.2.2.2.2.2.2.2.2.2.2.2.1 = s10 ∧ z.2.2.2.2.2.2.2.2.2.2.2.2.1 = s11 ∧ z.2.2.2.2.2.2.2.2.2.2.2.2.2.1 = s12 ∧ z.2.2.2.2.2.2.2.2.2.2.2.2.2.2.1 = s13 ∧ z.2.2.2.2.2.2.2.2.2.2.2.2.2.2.2.1 = s14 ∧ z.2.2.2.2.2.2.2.2.2.2.2.2.2.2.2.2.1 = s15 ∧ z.2.2.2.2.2.2.2.2.2.2.2.2.2.2.2.2.2.1 = s16 ∧ z.2.2.2.2.2.2.2.2.2.2.2.2.2.2.2.2.2.2 = s17) z.2.1.toInt z.2.2.1.toInt z.2.2.2.1.toInt z.2.2.2.2.1.toInt (z.2.2.2.2.2.2.1) (z.2.2.2.2.2.2.2.2.2.2.2.2.2.2.2.2.2.1) (z.2.2.2.2.2.2.2.2.2.2.2.2.2.2.2.2.2.2) z.2.2.2.2.2.2.2.2.2.2.2.2.2.2.2.1.toInt) := by
  have g1 := zz_rg p1
  have g2 := zz_rg p2
  have g3 := zz_rg s0
  have g4 := zz_rg s1
  have g5 := zz_rg s2
  have g6 := zz_rg s3
  have g7 := zz_rg s4
  have g8 := zz_rg s10
  have g9 := zz_rg s11
  have g10 := zz_rg s14
  have g11 := zz_rg s15
  unfold m_X11_open_X4
  have l13 : (0 : Int32).toInt = 0 := rfl
  refine zz_ok_ite (fun c12 => ?_) (fun c12 => ?_)
  · have c12 := Int32.lt_iff_toInt_lt.mp c12
    refine zz_ok_some ?_
    show zz_OP (("java/lang/IllegalArgumentException")) p1.toInt p2.toInt (s0 = s0 ∧ s1 = s1 ∧ s2 = s2 ∧ s3 = s3 ∧ s4 = s4 ∧ s5 = s5 ∧ s6 = s6 ∧ s7 = s7 ∧ s8 = s8 ∧ s9 = s9 ∧ s10 = s10 ∧ s11 = s11 ∧ s12 = s12 ∧ s13 = s13 ∧ s14 = s14 ∧ s15 = s15 ∧ s16 = s16 ∧ s17 = s17) s0.toInt s1.toInt s2.toInt s3.toInt (s5) (s16) (s17) s14.toInt
    exact (by first | exact Or.inl ⟨rfl, by omega, rfl, rfl, rfl, rfl, rfl, rfl, rfl, rfl, rfl, rfl, rfl, rfl, rfl, rfl, rfl, rfl, rfl, rfl⟩ | exact Or.inr ⟨rfl, by omega, by omega, by omega, by omega, rfl, by omega, by omega, by omega, by assumption, zz_bgn_cg (by assumption) (by omega)⟩)
  · have c12 := zz_nlt c12
    have l15 : (10 : Int32).toInt = 10 := rfl
    refine zz_ok_ite (fun c14 => ?_) (fun c14 => ?_)
    · have c14 := Int32.lt_iff_toInt_lt.mp c14
      have l17 : (16 : Int32).toInt = 16 := rfl
      refine zz_ok_ite (fun c16 => ?_) (fun c16 => ?_)
      · have c16 := Int32.lt_iff_toInt_lt.mp c16
        refine zz_ok_some ?_
        show zz_OP (("java/lang/IllegalArgumentException")) p1.toInt p2.toInt (s0 = s0 ∧ s1 = s1 ∧ s2 = s2 ∧ s3 = s3 ∧ s4 = s4 ∧ s5 = s5 ∧ s6 = s6 ∧ s7 = s7 ∧ s8 = s8 ∧ s9 = s9 ∧ s10 = s10 ∧ s11 = s11 ∧ s12 = s12 ∧ s13 = s13 ∧ s14 = s14 ∧ s15 = s15 ∧ s16 = s16 ∧ s17 = s17) s0.toInt s1.toInt s2.toInt s3.toInt (s5) (s16) (s17) s14.toInt
        exact (by first | exact Or.inl ⟨rfl, by omega, rfl, rfl, rfl, rfl, rfl, rfl, rfl, rfl, rfl, rfl, rfl, rfl, rfl, rfl, rfl, rfl, rfl, rfl⟩ | exact Or.inr ⟨rfl, by omega, by omega, by omega, by omega, rfl, by omega, by omega, by omega, by assumption, zz_bgn_cg (by assumption) (by omega)⟩)
      · have c16 := zz_nlt c16
        have l19 : (1024 : Int32).toInt = 1024 := rfl
        refine zz_ok_ite (fun c18 => ?_) (fun c18 => ?_)
        · have c18 := Int32.le_iff_toInt_le.mp c18
          refine zz_ok_bind (ff_X7_empty K hK T hT n0 n1 n2 n3 n4 n5 n6 p2 s1 s2 s3 s4 s5 s6 s7 s8 s9 s10 s11 s12 s13 a0 a1 a2 a3 a4 a5 a6 (by omega) (by omega)) ?_
          intro z20 hz20
          obtain ⟨t_5_0, t_5_1, t_5_2, t_5_3, t_5_4, t_5_5, t_5_6, t_5_7, t_5_8, t_5_9, t_5_10, t_5_11, t_5_12⟩ := z20
          have q21 : t_5_0.toInt = p2.toInt := hz20.1
          have q22 : t_5_1.toInt = 0 := hz20.2.1
          have q23 : t_5_2.toInt = 0 := hz20.2.2.1
          have q24 : zz_fl (t_5_4) (-1) 1024 := hz20.2.2.2.1
          have q25 : t_5_5 = s6 := hz20.2.2.2.2.1
          have q26 : t_5_6 = s7 := hz20.2.2.2.2.2.1
          have q27 : t_5_7 = s8 := hz20.2.2.2.2.2.2.1
          have q28 : t_5_8 = s9 := hz20.2.2.2.2.2.2.2.1
          have q29 : t_5_9 = s10 := hz20.2.2.2.2.2.2.2.2.1
          have q30 : t_5_10 = s11 := hz20.2.2.2.2.2.2.2.2.2.1
          have q31 : t_5_11 = s12 := hz20.2.2.2.2.2.2.2.2.2.2.1
          have q32 : t_5_12 = s13 := hz20.2.2.2.2.2.2.2.2.2.2.2
          clear hz20
          have e33 : s6 = t_5_5 := q25.symm
          subst e33
          have e34 : s7 = t_5_6 := q26.symm
          subst e34
          have e35 : s8 = t_5_7 := q27.symm
          subst e35
          have e36 : s9 = t_5_8 := q28.symm
          subst e36
          have e37 : s10 = t_5_9 := q29.symm
          subst e37
          have e38 : s11 = t_5_10 := q30.symm
          subst e38
          have e39 : s12 = t_5_11 := q31.symm
          subst e39
          have e40 : s13 = t_5_12 := q32.symm
          subst e40
          have g41 := zz_rg t_5_0
          have g42 := zz_rg t_5_1
          have g43 := zz_rg t_5_2
          have g44 := zz_rg t_5_3
          show zz_ok (if ¬ (p1 < 0 ∨ 10 ≤ p1.toNatClampNeg) then ((m_X4_begin K n0 n1 n2 n3 n4 n5 n6 n7 n8 t_5_0 t_5_1 t_5_2 t_5_3 t_5_4 s6 s7 s8 s9 s10 s11 s12 s13 s14 s15 s16 s17).bind fun ⟨t_7_0, t_7_1, t_7_2, t_7_3, t_7_4, t_7_5, t_7_6, t_7_7, t_7_8, t_7_9, t_7_10, t_7_11, t_7_12, t_7_13, t_7_14, t_7_15, t_7_16⟩ => some ("", p1, t_7_0, t_7_1, t_7_2, t_7_3, t_7_4, t_7_5, t_7_6, t_7_7, t_7_8, t_7_9, t_7_10, t_7_11, t_7_12, t_7_13, t_7_14, t_7_15, t_7_16)) else none) _
          refine zz_ok_chk (zz_ix (by omega) (by omega)) ?_
          have g45 := zz_tnI p1 (by omega)
          refine zz_ok_bind (ff_X4_begin K hK T hT n0 n1 n2 n3 n4 n5 n6 n7 n8 t_5_0 t_5_1 t_5_2 t_5_3 t_5_4 s6 s7 s8 s9 s10 s11 s12 s13 s14 s15 s16 s17 a7 a8 (by omega) (by omega)) ?_
          intro z46 hz46
          obtain ⟨t_7_0, t_7_1, t_7_2, t_7_3, t_7_4, t_7_5, t_7_6, t_7_7, t_7_8, t_7_9, t_7_10, t_7_11, t_7_12, t_7_13, t_7_14, t_7_15, t_7_16⟩ := z46
          have q47 : zz_bgn t_5_0.toInt (t_7_15) (t_7_16) t_7_13.toInt := hz46.1
          have q48 : t_7_13.toInt = 1 := hz46.2.1
          have q49 : t_7_0 = t_5_0 := hz46.2.2.1
          have q50 : t_7_1 = t_5_1 := hz46.2.2.2.1
          have q51 : t_7_2 = t_5_2 := hz46.2.2.2.2.1
          have q52 : t_7_3 = t_5_3 := hz46.2.2.2.2.2.1
          have q53 : t_7_4 = t_5_4 := hz46.2.2.2.2.2.2.1
          have q54 : t_7_5 = s6 := hz46.2.2.2.2.2.2.2.1
          have q55 : t_7_6 = s7 := hz46.2.2.2.2.2.2.2.2.1
          have q56 : t_7_7 = s8 := hz46.2.2.2.2.2.2.2.2.2.1
          have q57 : t_7_8 = s9 := hz46.2.2.2.2.2.2.2.2.2.2.1
          have q58 : t_7_9 = s10 := hz46.2.2.2.2.2.2.2.2.2.2.2.1
          have q59 : t_7_10 = s11 := hz46.2.2.2.2.2.2.2.2.2.2.2.2.1
          have q60 : t_7_11 = s12 := hz46.2.2.2.2.2.2.2.2.2.2.2.2.2.1
          have q61 : t_7_12 = s13 := hz46.2.2.2.2.2.2.2.2.2.2.2.2.2.2.1
          have q62 : t_7_14 = s15 := hz46.2.2.2.2.2.2.2.2.2.2.2.2.2.2.2
          clear hz46
          have e63 : t_5_0 = t_7_0 := q49.symm
          subst e63
          have e64 : t_5_1 = t_7_1 := q50.symm
          subst e64
          have e65 : t_5_2 = t_7_2 := q51.symm
          subst e65
          have e66 : t_5_3 = t_7_3 := q52.symm
          subst e66
          have e67 : t_5_4 = t_7_4 := q53.symm
          subst e67
          have e68 : s6 = t_7_5 := q54.symm
          subst e68
          have e69 : s7 = t_7_6 := q55.symm
          subst e69
          have e70 : s8 = t_7_7 := q56.symm
          subst e70
          have e71 : s9 = t_7_8 := q57.symm
          subst e71
          have e72 : s10 = t_7_9 := q58.symm
          subst e72
          have e73 : s11 = t_7_10 := q59.symm
          subst e73
          have e74 : s12 = t_7_11 := q60.symm
          subst e74
          have e75 : s13 = t_7_12 := q61.symm
          subst e75
          have e76 : s15 = t_7_14 := q62.symm
          subst e76
          have g77 := zz_rg t_7_13
          show zz_ok (some ("", p1, t_5_0, t_5_1, t_5_2, t_5_3, t_5_4, s6, s7, s8, s9, s10, s11, s12, s13, t_7_13, s15, t_7_15, t_7_16)) _
          refine zz_ok_some ?_
          show zz_OP (("")) p1.toInt p2.toInt (p1 = s0 ∧ t_5_0 = s1 ∧ t_5_1 = s2 ∧ t_5_2 = s3 ∧ t_5_3 = s4 ∧ t_5_4 = s5 ∧ s6 = s6 ∧ s7 = s7 ∧ s8 = s8 ∧ s9 = s9 ∧ s10 = s10 ∧ s11 = s11 ∧ s12 = s12 ∧ s13 = s13 ∧ t_7_13 = s14 ∧ s15 = s15 ∧ t_7_15 = s16 ∧ t_7_16 = s17) p1.toInt t_5_0.toInt t_5_1.toInt t_5_2.toInt (t_5_4) (t_7_15) (t_7_16) t_7_13.toInt
          exact (by first | exact Or.inl ⟨rfl, by omega, rfl, rfl, rfl, rfl, rfl, rfl, rfl, rfl, rfl, rfl, rfl, rfl, rfl, rfl, rfl, rfl, rfl, rfl⟩ | exact Or.inr ⟨rfl, by omega, by omega, by omega, by omega, rfl, by omega, by omega, by omega, by assumption, zz_bgn_cg (by assumption) (by omega)⟩)
        · have c18 := zz_nle c18
          refine zz_ok_some ?_
          show zz_OP (("java/lang/IllegalArgumentException")) p1.toInt p2.toInt (s0 = s0 ∧ s1 = s1 ∧ s2 = s2 ∧ s3 = s3 ∧ s4 = s4 ∧ s5 = s5 ∧ s6 = s6 ∧ s7 = s7 ∧ s8 = s8 ∧ s9 = s9 ∧ s10 = s10 ∧ s11 = s11 ∧ s12 = s12 ∧ s13 = s13 ∧ s14 = s14 ∧ s15 = s15 ∧ s16 = s16 ∧ s17 = s17) s0.toInt s1.toInt s2.toInt s3.toInt (s5) (s16) (s17) s14.toInt
          exact (by first | exact Or.inl ⟨rfl, by omega, rfl, rfl, rfl, rfl, rfl, rfl, rfl, rfl, rfl, rfl, rfl, rfl, rfl, rfl, rfl, rfl, rfl, rfl⟩ | exact Or.inr ⟨rfl, by omega, by omega, by omega, by omega, rfl, by omega, by omega, by omega, by assumption, zz_bgn_cg (by assumption) (by omega)⟩)
    · have c14 := zz_nlt c14
      refine zz_ok_some ?_
      show zz_OP (("java/lang/IllegalArgumentException")) p1.toInt p2.toInt (s0 = s0 ∧ s1 = s1 ∧ s2 = s2 ∧ s3 = s3 ∧ s4 = s4 ∧ s5 = s5 ∧ s6 = s6 ∧ s7 = s7 ∧ s8 = s8 ∧ s9 = s9 ∧ s10 = s10 ∧ s11 = s11 ∧ s12 = s12 ∧ s13 = s13 ∧ s14 = s14 ∧ s15 = s15 ∧ s16 = s16 ∧ s17 = s17) s0.toInt s1.toInt s2.toInt s3.toInt (s5) (s16) (s17) s14.toInt
      exact (by first | exact Or.inl ⟨rfl, by omega, rfl, rfl, rfl, rfl, rfl, rfl, rfl, rfl, rfl, rfl, rfl, rfl, rfl, rfl, rfl, rfl, rfl, rfl⟩ | exact Or.inr ⟨rfl, by omega, by omega, by omega, by omega, rfl, by omega, by omega, by omega, by assumption, zz_bgn_cg (by assumption) (by omega)⟩)

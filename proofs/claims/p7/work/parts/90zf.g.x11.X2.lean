set_option maxHeartbeats 4000000 in
theorem gg_X11_needRoom_X2 (K : Nat) (hK : 1099511627776 ≤ K) (T : Nat) (hT : T ≤ 900) (n0 : Nat) (n1 : Nat) (n2 : Nat) (n3 : Nat) (n4 : Nat) (n5 : Nat) (n6 : Nat) (s0 : Int32) (s1 : Int32) (s2 : Int32) (s3 : Int32) (s4 : Int32) (s5 : Nat → Int32) (s6 : Nat → Int32) (s7 : Nat → Int32) (s8 : Nat → Int32) (s9 : Nat → Int32) (s10 : Int32) (s11 : Int32) (s12 : Nat → Int32) (s13 : Nat → Int32) (s14 : Int32) : zz_ok (m_X11_needRoom_X2 K n0 n1 n2 n3 n4 n5 n6 s0 s1 s2 s3 s4 s5 s6 s7 s8 s9 s10 s11 s12 s13 s14) (fun z => zz_em z.1 ∧ z.2.1 = s0 ∧ z.2.2.1 = s1 ∧ z.2.2.2.1 = s2 ∧ z.2.2.2.2.1 = s3 ∧ z.2.2.2.2.2.1 = s4 ∧ z.2.2.2.2.2.2.1 = s5 ∧ z.2.2.2.2.2.2.2.1 = s6 ∧ z.2.2.2.2.2.2.2.2.1 = s7 ∧ z.2.2.2.2.2.2.2.2.2.1 = s8 ∧ z.2.2.2.2.2.2.2.2.2.2.1 = s9 ∧ z.2.2.2.2.2.2.2.2.2.2.2.1 = s10 ∧ z.2.2.2.2.2.2.2.2.2.2.2.2.1 = s11 ∧ z.2.2.2.2.2.2.2.2.2.2.2.2.2.1 = s12 ∧ z.2.2.2.2.2.2.2.2.2.2.2.2.2.2.1 = s13 ∧ z.2.2.2.2.2.2.2.2.2.2.2.2.2.2.2 = s14) := by
  have g1 := zz_rg s0
  have g2 := zz_rg s1
  have g3 := zz_rg s2
  have g4 := zz_rg s3
  have g5 := zz_rg s4
  have g6 := zz_rg s10
  have g7 := zz_rg s11
  have g8 := zz_rg s14
  unfold m_X11_needRoom_X2
  refine zz_ok_some ?_
  show zz_em ("") ∧ s0 = s0 ∧ s1 = s1 ∧ s2 = s2 ∧ s3 = s3 ∧ s4 = s4 ∧ s5 = s5 ∧ s6 = s6 ∧ s7 = s7 ∧ s8 = s8 ∧ s9 = s9 ∧ s10 = s10 ∧ s11 = s11 ∧ s12 = s12 ∧ s13 = s13 ∧ s14 = s14
  exact ⟨(by exact rfl), rfl, rfl, rfl, rfl, rfl, rfl, rfl, rfl, rfl, rfl, rfl, rfl, rfl, rfl, rfl⟩
set_option maxHeartbeats 4000000 in
theorem gg_X11_needBlock_X2 (K : Nat) (hK : 1099511627776 ≤ K) (T : Nat) (hT : T ≤ 900) (n0 : Nat) (n1 : Nat) (n2 : Nat) (n3 : Nat) (n4 : Nat) (n5 : Nat) (n6 : Nat) (p1 : Int32) (s0 : Int32) (s1 : Int32) (s2 : Int32) (s3 : Int32) (s4 : Int32) (s5 : Nat → Int32) (s6 : Nat → Int32) (s7 : Nat → Int32) (s8 : Nat → Int32) (s9 : Nat → Int32) (s10 : Int32) (s11 : Int32) (s12 : Nat → Int32) (s13 : Nat → Int32) (s14 : Int32) (a0 : n0 = 1024) (a1 : n1 = 200) (a2 : n2 = 200) (a3 : n3 = 200) (a4 : n4 = 200) (a5 : n5 = 512) (a6 : n6 = 512) (a7 : 16 ≤ s1.toInt) (a8 : s1.toInt ≤ 1024) (a9 : 0 ≤ s2.toInt) (a10 : s2.toInt ≤ 200) (a11 : zz_vs s1.toInt (s7) (s8) s2.toInt) (a12 : 0 ≤ s3.toInt) (a13 : s3.toInt ≤ 100000) : zz_ok (m_X11_needBlock_X2 K n0 n1 n2 n3 n4 n5 n6 p1 s0 s1 s2 s3 s4 s5 s6 s7 s8 s9 s10 s11 s12 s13 s14) (fun z => zz_nb (s6) (p1) s2.toInt (z.1) z.2.1.toInt ∧ z.2.2.1 = s0 ∧ z.2.2.2.1 = s1 ∧ z.2.2.2.2.1 = s2 ∧ z.2.2.2.2.2.1 = s3 ∧ z.2.2.2.2.2.2.1 = s4 ∧ z.2.2.2.2.2.2.2.1 = s5 ∧ z.2.2.2.2.2.2.2.2.1 = s6 ∧ z.2.2.2.2.2.2.2.2.2.1 = s7 ∧ z.2.2.2.2.2.2.2.2.2.2.1 = s8 ∧ z.2.2.2.2.2.2.2.2.2.2.2.1 = s9 ∧ z.2.2.2.2.2.2.2.2.2.2.2.2.1 = s10 ∧ z.2.2.2.2.2.2.2.2.2.2.2.2.2.1 = s11 ∧ z.2.2.2.2.2.2.2.2.2.2.2.2.2.2.1 = s12 ∧ z.2.2.2.2.2.2.2.2.2.2.2.2.2.2.2.1 = s13 ∧ z.2.2.2.2.2.2.2.2.2.2.2.2.2.2.2.2 = s14) := by
  have g1 := zz_rg p1
  have g2 := zz_rg s0
  have g3 := zz_rg s1
  have g4 := zz_rg s2
  have g5 := zz_rg s3
  have g6 := zz_rg s4
  have g7 := zz_rg s10
  have g8 := zz_rg s11
  have g9 := zz_rg s14
  unfold m_X11_needBlock_X2
  refine zz_ok_bind (ff_X7_slotOf K hK T hT n0 n1 n2 n3 n4 n5 n6 p1 s1 s2 s3 s4 s5 s6 s7 s8 s9 s10 s11 s12 s13 a1 a9 a10) ?_
  intro z10 hz10
  obtain ⟨r_1, t_1_0, t_1_1, t_1_2, t_1_3, t_1_4, t_1_5, t_1_6, t_1_7, t_1_8, t_1_9, t_1_10, t_1_11, t_1_12⟩ := z10
  have q11 : zz_so (s6) (p1) s2.toInt r_1.toInt := hz10.1
  have q12 : -1 ≤ r_1.toInt := hz10.2.1
  have q13 : r_1.toInt < s2.toInt := hz10.2.2.1
  have q14 : t_1_0 = s1 := hz10.2.2.2.1
  have q15 : t_1_1 = s2 := hz10.2.2.2.2.1
  have q16 : t_1_2 = s3 := hz10.2.2.2.2.2.1
  have q17 : t_1_3 = s4 := hz10.2.2.2.2.2.2.1
  have q18 : t_1_4 = s5 := hz10.2.2.2.2.2.2.2.1
  have q19 : t_1_5 = s6 := hz10.2.2.2.2.2.2.2.2.1
  have q20 : t_1_6 = s7 := hz10.2.2.2.2.2.2.2.2.2.1
  have q21 : t_1_7 = s8 := hz10.2.2.2.2.2.2.2.2.2.2.1
  have q22 : t_1_8 = s9 := hz10.2.2.2.2.2.2.2.2.2.2.2.1
  have q23 : t_1_9 = s10 := hz10.2.2.2.2.2.2.2.2.2.2.2.2.1
  have q24 : t_1_10 = s11 := hz10.2.2.2.2.2.2.2.2.2.2.2.2.2.1
  have q25 : t_1_11 = s12 := hz10.2.2.2.2.2.2.2.2.2.2.2.2.2.2.1
  have q26 : t_1_12 = s13 := hz10.2.2.2.2.2.2.2.2.2.2.2.2.2.2.2
  clear hz10
  have e27 : s1 = t_1_0 := q14.symm
  subst e27
  have e28 : s2 = t_1_1 := q15.symm
  subst e28
  have e29 : s3 = t_1_2 := q16.symm
  subst e29
  have e30 : s4 = t_1_3 := q17.symm
  subst e30
  have e31 : s5 = t_1_4 := q18.symm
  subst e31
  have e32 : s6 = t_1_5 := q19.symm
  subst e32
  have e33 : s7 = t_1_6 := q20.symm
  subst e33
  have e34 : s8 = t_1_7 := q21.symm
  subst e34
  have e35 : s9 = t_1_8 := q22.symm
  subst e35
  have e36 : s10 = t_1_9 := q23.symm
  subst e36
  have e37 : s11 = t_1_10 := q24.symm
  subst e37
  have e38 : s12 = t_1_11 := q25.symm
  subst e38
  have e39 : s13 = t_1_12 := q26.symm
  subst e39
  have g40 := zz_rg r_1
  show zz_ok (if r_1 = ((-1 : Int32)) then (some ("java/util/NoSuchElementException", 0, s0, s1, s2, s3, s4, s5, s6, s7, s8, s9, s10, s11, s12, s13, s14)) else (some ("", r_1, s0, s1, s2, s3, s4, s5, s6, s7, s8, s9, s10, s11, s12, s13, s14))) _
  have l42 : (-1 : Int32).toInt = -1 := rfl
  refine zz_ok_ite (fun c41 => ?_) (fun c41 => ?_)
  · have c41 := congrArg Int32.toInt c41
    have l43 : (0 : Int32).toInt = 0 := rfl
    refine zz_ok_some ?_
    show zz_nb (s6) (p1) s2.toInt (("java/util/NoSuchElementException")) (0 : Int32).toInt ∧ s0 = s0 ∧ s1 = s1 ∧ s2 = s2 ∧ s3 = s3 ∧ s4 = s4 ∧ s5 = s5 ∧ s6 = s6 ∧ s7 = s7 ∧ s8 = s8 ∧ s9 = s9 ∧ s10 = s10 ∧ s11 = s11 ∧ s12 = s12 ∧ s13 = s13 ∧ s14 = s14
    exact ⟨(by first | exact zz_nb_n (by assumption) (by omega) | exact zz_nb_y (by assumption) (by omega)), rfl, rfl, rfl, rfl, rfl, rfl, rfl, rfl, rfl, rfl, rfl, rfl, rfl, rfl, rfl⟩
  · have c41 := zz_neq c41
    refine zz_ok_some ?_
    show zz_nb (s6) (p1) s2.toInt (("")) r_1.toInt ∧ s0 = s0 ∧ s1 = s1 ∧ s2 = s2 ∧ s3 = s3 ∧ s4 = s4 ∧ s5 = s5 ∧ s6 = s6 ∧ s7 = s7 ∧ s8 = s8 ∧ s9 = s9 ∧ s10 = s10 ∧ s11 = s11 ∧ s12 = s12 ∧ s13 = s13 ∧ s14 = s14
    exact ⟨(by first | exact zz_nb_n (by assumption) (by omega) | exact zz_nb_y (by assumption) (by omega)), rfl, rfl, rfl, rfl, rfl, rfl, rfl, rfl, rfl, rfl, rfl, rfl, rfl, rfl, rfl⟩
set_option maxHeartbeats 4000000 in
theorem gg_X11_about_X2 (K : Nat) (hK : 1099511627776 ≤ K) (T : Nat) (hT : T ≤ 900) (n0 : Nat) (n1 : Nat) (n2 : Nat) (n3 : Nat) (n4 : Nat) (n5 : Nat) (n6 : Nat) (p1 : Int32) (p2 : Int32) (s0 : Int32) (s1 : Int32) (s2 : Int32) (s3 : Int32) (s4 : Int32) (s5 : Nat → Int32) (s6 : Nat → Int32) (s7 : Nat → Int32) (s8 : Nat → Int32) (s9 : Nat → Int32) (s10 : Int32) (s11 : Int32) (s12 : Nat → Int32) (s13 : Nat → Int32) (s14 : Int32) (a0 : n0 = 1024) (a1 : n1 = 200) (a2 : n2 = 200) (a3 : n3 = 200) (a4 : n4 = 200) (a5 : n5 = 512) (a6 : n6 = 512) (a7 : 16 ≤ s1.toInt) (a8 : s1.toInt ≤ 1024) (a9 : 0 ≤ s2.toInt) (a10 : s2.toInt ≤ 200) (a11 : zz_vs s1.toInt (s7) (s8) s2.toInt) (a12 : 0 ≤ s3.toInt) (a13 : s3.toInt ≤ 100000) : zz_ok (m_X11_about_X2 K n0 n1 n2 n3 n4 n5 n6 p1 p2 s0 s1 s2 s3 s4 s5 s6 s7 s8 s9 s10 s11 s12 s13 s14) (fun z => zz_AE (z.1) (p1) p2.toInt z.2.1.toInt s2.toInt (s6) (s7) (s8) (s9) ∧ z.2.2.1 = s0 ∧ z.2.2.2.1 = s1 ∧ z.2.2.2.2.1 = s2 ∧ z.2.2.2.2.2.1 = s3 ∧ z.2.2.2.2.2.2.1 = s4 ∧ z.2.2.2.2.2.2.2.1 = s5 ∧ z.2.2.2.2.2.2.2.2.1 = s6 ∧ z.2.2.2.2.2.2.2.2.2.1 = s7 ∧ z.2.2.2.2.2.2.2.2.2.2.1 = s8 ∧ z.2.2.2.2.2.2.2.2.2.2.2.1 = s9 ∧ z.2.2.2.2.2.2.2.2.2.2.2.2.1 = s10 ∧ z.2.2.2.2.2.2.2.2.2.2.2.2.2.1 = s11 ∧ z.2.2.2.2.2.2.2.2.2.2.2.2.2.2.1 = s12 ∧ z.2.2.2.2.2.2.2.2.2.2.2.2.2.2.2.1 = s13 ∧ z.2.2.2.2.2.2.2.2.2.2.2.2.2.2.2.2 = s14) := by
  have g1 := zz_rg p1
  have g2 := zz_rg p2
  have g3 := zz_rg s0
  have g4 := zz_rg s1
  have g5 := zz_rg s2
  have g6 := zz_rg s3
  have g7 := zz_rg s4
  have g8 := zz_rg s10
  have g9 := zz_rg s11
  have g10 := zz_rg s14
  unfold m_X11_about_X2
  have l12 : (0 : Int32).toInt = 0 := rfl
  refine zz_ok_ite (fun c11 => ?_) (fun c11 => ?_)
  · have c11 := Int32.lt_iff_toInt_lt.mp c11
    refine zz_ok_some ?_
    show zz_AE (("java/lang/IllegalArgumentException")) (p1) p2.toInt (0 : Int32).toInt s2.toInt (s6) (s7) (s8) (s9) ∧ s0 = s0 ∧ s1 = s1 ∧ s2 = s2 ∧ s3 = s3 ∧ s4 = s4 ∧ s5 = s5 ∧ s6 = s6 ∧ s7 = s7 ∧ s8 = s8 ∧ s9 = s9 ∧ s10 = s10 ∧ s11 = s11 ∧ s12 = s12 ∧ s13 = s13 ∧ s14 = s14
    exact ⟨(by first | exact Or.inl ⟨rfl, by omega⟩ | exact zz_AE_n (by assumption) (by assumption) rfl (by omega) (by omega) | exact zz_AE_y (x := r_4) (by assumption) (by assumption) rfl (by first | exact Or.inl ⟨by omega, rfl⟩ | exact Or.inr (Or.inl ⟨by omega, rfl⟩) | exact Or.inr (Or.inr ⟨by omega, rfl⟩))), rfl, rfl, rfl, rfl, rfl, rfl, rfl, rfl, rfl, rfl, rfl, rfl, rfl, rfl, rfl⟩
  · have c11 := zz_nlt c11
    have l14 : (2 : Int32).toInt = 2 := rfl
    refine zz_ok_ite (fun c13 => ?_) (fun c13 => ?_)
    · have c13 := Int32.le_iff_toInt_le.mp c13
      refine zz_ok_bind (gg_X11_needRoom_X2 K hK T hT n0 n1 n2 n3 n4 n5 n6 s0 s1 s2 s3 s4 s5 s6 s7 s8 s9 s10 s11 s12 s13 s14) ?_
      intro z15 hz15
      obtain ⟨e_3, t_3_0, t_3_1, t_3_2, t_3_3, t_3_4, t_3_5, t_3_6, t_3_7, t_3_8, t_3_9, t_3_10, t_3_11, t_3_12, t_3_13, t_3_14⟩ := z15
      have q16 : zz_em e_3 := hz15.1
      have q17 : t_3_0 = s0 := hz15.2.1
      have q18 : t_3_1 = s1 := hz15.2.2.1
      have q19 : t_3_2 = s2 := hz15.2.2.2.1
      have q20 : t_3_3 = s3 := hz15.2.2.2.2.1
      have q21 : t_3_4 = s4 := hz15.2.2.2.2.2.1
      have q22 : t_3_5 = s5 := hz15.2.2.2.2.2.2.1
      have q23 : t_3_6 = s6 := hz15.2.2.2.2.2.2.2.1
      have q24 : t_3_7 = s7 := hz15.2.2.2.2.2.2.2.2.1
      have q25 : t_3_8 = s8 := hz15.2.2.2.2.2.2.2.2.2.1
      have q26 : t_3_9 = s9 := hz15.2.2.2.2.2.2.2.2.2.2.1
      have q27 : t_3_10 = s10 := hz15.2.2.2.2.2.2.2.2.2.2.2.1
      have q28 : t_3_11 = s11 := hz15.2.2.2.2.2.2.2.2.2.2.2.2.1
      have q29 : t_3_12 = s12 := hz15.2.2.2.2.2.2.2.2.2.2.2.2.2.1
      have q30 : t_3_13 = s13 := hz15.2.2.2.2.2.2.2.2.2.2.2.2.2.2.1
      have q31 : t_3_14 = s14 := hz15.2.2.2.2.2.2.2.2.2.2.2.2.2.2.2
      clear hz15
      have e32 : s0 = t_3_0 := q17.symm
      subst e32
      have e33 : s1 = t_3_1 := q18.symm
      subst e33
      have e34 : s2 = t_3_2 := q19.symm
      subst e34
      have e35 : s3 = t_3_3 := q20.symm
      subst e35
      have e36 : s4 = t_3_4 := q21.symm
      subst e36
      have e37 : s5 = t_3_5 := q22.symm
      subst e37
      have e38 : s6 = t_3_6 := q23.symm
      subst e38
      have e39 : s7 = t_3_7 := q24.symm
      subst e39
      have e40 : s8 = t_3_8 := q25.symm
      subst e40
      have e41 : s9 = t_3_9 := q26.symm
      subst e41
      have e42 : s10 = t_3_10 := q27.symm
      subst e42
      have e43 : s11 = t_3_11 := q28.symm
      subst e43
      have e44 : s12 = t_3_12 := q29.symm
      subst e44
      have e45 : s13 = t_3_13 := q30.symm
      subst e45
      have e46 : s14 = t_3_14 := q31.symm
      subst e46
      show zz_ok (if e_3 = "" then ((m_X11_needBlock_X2 K n0 n1 n2 n3 n4 n5 n6 p1 s0 s1 s2 s3 s4 s5 s6 s7 s8 s9 s10 s11 s12 s13 s14).bind fun ⟨e_4, r_4, t_4_0, t_4_1, t_4_2, t_4_3, t_4_4, t_4_5, t_4_6, t_4_7, t_4_8, t_4_9, t_4_10, t_4_11, t_4_12, t_4_13, t_4_14⟩ => if e_4 = "" then (if p2 = 0 then ((m_X7_placeOf K n0 n1 n2 n3 n4 n5 n6 r_4 t_4_1 t_4_2 t_4_3 t_4_4 t_4_5 t_4_6 t_4_7 t_4_8 t_4_9 t_4_10 t_4_11 t_4_12 t_4_13).bind fun ⟨r_9, t_9_0, t_9_1, t_9_2, t_9_3, t_9_4, t_9_5, t_9_6, t_9_7, t_9_8, t_9_9, t_9_10, t_9_11, t_9_12⟩ => some ("", r_9, t_4_0, t_9_0, t_9_1, t_9_2, t_9_3, t_9_4, t_9_5, t_9_6, t_9_7, t_9_8, t_9_9, t_9_10, t_9_11, t_9_12, t_4_14)) else (if p2 = ((1 : Int32)) then ((m_X7_spanOf K n0 n1 n2 n3 n4 n5 n6 r_4 t_4_1 t_4_2 t_4_3 t_4_4 t_4_5 t_4_6 t_4_7 t_4_8 t_4_9 t_4_10 t_4_11 t_4_12 t_4_13).bind fun ⟨r_8, t_8_0, t_8_1, t_8_2, t_8_3, t_8_4, t_8_5, t_8_6, t_8_7, t_8_8, t_8_9, t_8_10, t_8_11, t_8_12⟩ => some ("", r_8, t_4_0, t_8_0, t_8_1, t_8_2, t_8_3, t_8_4, t_8_5, t_8_6, t_8_7, t_8_8, t_8_9, t_8_10, t_8_11, t_8_12, t_4_14)) else ((m_X7_askedOf K n0 n1 n2 n3 n4 n5 n6 r_4 t_4_1 t_4_2 t_4_3 t_4_4 t_4_5 t_4_6 t_4_7 t_4_8 t_4_9 t_4_10 t_4_11 t_4_12 t_4_13).bind fun ⟨r_7, t_7_0, t_7_1, t_7_2, t_7_3, t_7_4, t_7_5, t_7_6, t_7_7, t_7_8, t_7_9, t_7_10, t_7_11, t_7_12⟩ => some ("", r_7, t_4_0, t_7_0, t_7_1, t_7_2, t_7_3, t_7_4, t_7_5, t_7_6, t_7_7, t_7_8, t_7_9, t_7_10, t_7_11, t_7_12, t_4_14)))) else (some (e_4, 0, t_4_0, t_4_1, t_4_2, t_4_3, t_4_4, t_4_5, t_4_6, t_4_7, t_4_8, t_4_9, t_4_10, t_4_11, t_4_12, t_4_13, t_4_14))) else (some (e_3, 0, s0, s1, s2, s3, s4, s5, s6, s7, s8, s9, s10, s11, s12, s13, s14))) _
      refine zz_ok_ite (fun c47 => ?_) (fun c47 => absurd q16 c47)
      refine zz_ok_bind (gg_X11_needBlock_X2 K hK T hT n0 n1 n2 n3 n4 n5 n6 p1 s0 s1 s2 s3 s4 s5 s6 s7 s8 s9 s10 s11 s12 s13 s14 a0 a1 a2 a3 a4 a5 a6 a7 a8 a9 a10 a11 a12 a13) ?_
      intro z48 hz48
      obtain ⟨e_4, r_4, t_4_0, t_4_1, t_4_2, t_4_3, t_4_4, t_4_5, t_4_6, t_4_7, t_4_8, t_4_9, t_4_10, t_4_11, t_4_12, t_4_13, t_4_14⟩ := z48
      have q49 : zz_nb (s6) (p1) s2.toInt (e_4) r_4.toInt := hz48.1
      have q50 : t_4_0 = s0 := hz48.2.1
      have q51 : t_4_1 = s1 := hz48.2.2.1
      have q52 : t_4_2 = s2 := hz48.2.2.2.1
      have q53 : t_4_3 = s3 := hz48.2.2.2.2.1
      have q54 : t_4_4 = s4 := hz48.2.2.2.2.2.1
      have q55 : t_4_5 = s5 := hz48.2.2.2.2.2.2.1
      have q56 : t_4_6 = s6 := hz48.2.2.2.2.2.2.2.1
      have q57 : t_4_7 = s7 := hz48.2.2.2.2.2.2.2.2.1
      have q58 : t_4_8 = s8 := hz48.2.2.2.2.2.2.2.2.2.1
      have q59 : t_4_9 = s9 := hz48.2.2.2.2.2.2.2.2.2.2.1
      have q60 : t_4_10 = s10 := hz48.2.2.2.2.2.2.2.2.2.2.2.1
      have q61 : t_4_11 = s11 := hz48.2.2.2.2.2.2.2.2.2.2.2.2.1
      have q62 : t_4_12 = s12 := hz48.2.2.2.2.2.2.2.2.2.2.2.2.2.1
      have q63 : t_4_13 = s13 := hz48.2.2.2.2.2.2.2.2.2.2.2.2.2.2.1
      have q64 : t_4_14 = s14 := hz48.2.2.2.2.2.2.2.2.2.2.2.2.2.2.2
      clear hz48
      have e65 : s0 = t_4_0 := q50.symm
      subst e65
      have e66 : s1 = t_4_1 := q51.symm
      subst e66
      have e67 : s2 = t_4_2 := q52.symm
      subst e67
      have e68 : s3 = t_4_3 := q53.symm
      subst e68
      have e69 : s4 = t_4_4 := q54.symm
      subst e69
      have e70 : s5 = t_4_5 := q55.symm
      subst e70
      have e71 : s6 = t_4_6 := q56.symm
      subst e71
      have e72 : s7 = t_4_7 := q57.symm
      subst e72
      have e73 : s8 = t_4_8 := q58.symm
      subst e73
      have e74 : s9 = t_4_9 := q59.symm
      subst e74
      have e75 : s10 = t_4_10 := q60.symm
      subst e75
      have e76 : s11 = t_4_11 := q61.symm
      subst e76
      have e77 : s12 = t_4_12 := q62.symm
      subst e77
      have e78 : s13 = t_4_13 := q63.symm
      subst e78
      have e79 : s14 = t_4_14 := q64.symm
      subst e79
      have g80 := zz_rg r_4
      show zz_ok (if e_4 = "" then (if p2 = 0 then ((m_X7_placeOf K n0 n1 n2 n3 n4 n5 n6 r_4 s1 s2 s3 s4 s5 s6 s7 s8 s9 s10 s11 s12 s13).bind fun ⟨r_9, t_9_0, t_9_1, t_9_2, t_9_3, t_9_4, t_9_5, t_9_6, t_9_7, t_9_8, t_9_9, t_9_10, t_9_11, t_9_12⟩ => some ("", r_9, s0, t_9_0, t_9_1, t_9_2, t_9_3, t_9_4, t_9_5, t_9_6, t_9_7, t_9_8, t_9_9, t_9_10, t_9_11, t_9_12, s14)) else (if p2 = ((1 : Int32)) then ((m_X7_spanOf K n0 n1 n2 n3 n4 n5 n6 r_4 s1 s2 s3 s4 s5 s6 s7 s8 s9 s10 s11 s12 s13).bind fun ⟨r_8, t_8_0, t_8_1, t_8_2, t_8_3, t_8_4, t_8_5, t_8_6, t_8_7, t_8_8, t_8_9, t_8_10, t_8_11, t_8_12⟩ => some ("", r_8, s0, t_8_0, t_8_1, t_8_2, t_8_3, t_8_4, t_8_5, t_8_6, t_8_7, t_8_8, t_8_9, t_8_10, t_8_11, t_8_12, s14)) else ((m_X7_askedOf K n0 n1 n2 n3 n4 n5 n6 r_4 s1 s2 s3 s4 s5 s6 s7 s8 s9 s10 s11 s12 s13).bind fun ⟨r_7, t_7_0, t_7_1, t_7_2, t_7_3, t_7_4, t_7_5, t_7_6, t_7_7, t_7_8, t_7_9, t_7_10, t_7_11, t_7_12⟩ => some ("", r_7, s0, t_7_0, t_7_1, t_7_2, t_7_3, t_7_4, t_7_5, t_7_6, t_7_7, t_7_8, t_7_9, t_7_10, t_7_11, t_7_12, s14)))) else (some (e_4, 0, s0, s1, s2, s3, s4, s5, s6, s7, s8, s9, s10, s11, s12, s13, s14))) _
      refine zz_ok_ite (fun c81 => ?_) (fun c81 => ?_)
      · skip
        have nb9 := zz_nb_rg (by assumption : zz_nb s6 p1 s2.toInt e_4 _) c81
        refine zz_ok_ite (fun c82 => ?_) (fun c82 => ?_)
        · have c82 := congrArg Int32.toInt c82
          refine zz_ok_bind (ff_X7_placeOf K hK T hT n0 n1 n2 n3 n4 n5 n6 r_4 s1 s2 s3 s4 s5 s6 s7 s8 s9 s10 s11 s12 s13 a2 (by omega) (by omega) a10) ?_
          intro z83 hz83
          obtain ⟨r_9, t_9_0, t_9_1, t_9_2, t_9_3, t_9_4, t_9_5, t_9_6, t_9_7, t_9_8, t_9_9, t_9_10, t_9_11, t_9_12⟩ := z83
          have q84 : r_9 = s7 r_4.toNatClampNeg := hz83.1
          have q85 : t_9_0 = s1 := hz83.2.1
          have q86 : t_9_1 = s2 := hz83.2.2.1
          have q87 : t_9_2 = s3 := hz83.2.2.2.1
          have q88 : t_9_3 = s4 := hz83.2.2.2.2.1
          have q89 : t_9_4 = s5 := hz83.2.2.2.2.2.1
          have q90 : t_9_5 = s6 := hz83.2.2.2.2.2.2.1
          have q91 : t_9_6 = s7 := hz83.2.2.2.2.2.2.2.1
          have q92 : t_9_7 = s8 := hz83.2.2.2.2.2.2.2.2.1
          have q93 : t_9_8 = s9 := hz83.2.2.2.2.2.2.2.2.2.1
          have q94 : t_9_9 = s10 := hz83.2.2.2.2.2.2.2.2.2.2.1
          have q95 : t_9_10 = s11 := hz83.2.2.2.2.2.2.2.2.2.2.2.1
          have q96 : t_9_11 = s12 := hz83.2.2.2.2.2.2.2.2.2.2.2.2.1
          have q97 : t_9_12 = s13 := hz83.2.2.2.2.2.2.2.2.2.2.2.2.2
          clear hz83
          have e98 : s7 r_4.toNatClampNeg = r_9 := q84.symm
          subst e98
          have e99 : s1 = t_9_0 := q85.symm
          subst e99
          have e100 : s2 = t_9_1 := q86.symm
          subst e100
          have e101 : s3 = t_9_2 := q87.symm
          subst e101
          have e102 : s4 = t_9_3 := q88.symm
          subst e102
          have e103 : s5 = t_9_4 := q89.symm
          subst e103
          have e104 : s6 = t_9_5 := q90.symm
          subst e104
          have e105 : s7 = t_9_6 := q91.symm
          subst e105
          have e106 : s8 = t_9_7 := q92.symm
          subst e106
          have e107 : s9 = t_9_8 := q93.symm
          subst e107
          have e108 : s10 = t_9_9 := q94.symm
          subst e108
          have e109 : s11 = t_9_10 := q95.symm
          subst e109
          have e110 : s12 = t_9_11 := q96.symm
          subst e110
          have e111 : s13 = t_9_12 := q97.symm
          subst e111
          show zz_ok (some ("", (s7 r_4.toNatClampNeg), s0, s1, s2, s3, s4, s5, s6, s7, s8, s9, s10, s11, s12, s13, s14)) _
          have g112 := zz_rg (s7 r_4.toNatClampNeg)
          refine zz_ok_some ?_
          show zz_AE (("")) (p1) p2.toInt (s7 r_4.toNatClampNeg).toInt s2.toInt (s6) (s7) (s8) (s9) ∧ s0 = s0 ∧ s1 = s1 ∧ s2 = s2 ∧ s3 = s3 ∧ s4 = s4 ∧ s5 = s5 ∧ s6 = s6 ∧ s7 = s7 ∧ s8 = s8 ∧ s9 = s9 ∧ s10 = s10 ∧ s11 = s11 ∧ s12 = s12 ∧ s13 = s13 ∧ s14 = s14
          exact ⟨(by first | exact Or.inl ⟨rfl, by omega⟩ | exact zz_AE_n (by assumption) (by assumption) rfl (by omega) (by omega) | exact zz_AE_y (x := r_4) (by assumption) (by assumption) rfl (by first | exact Or.inl ⟨by omega, rfl⟩ | exact Or.inr (Or.inl ⟨by omega, rfl⟩) | exact Or.inr (Or.inr ⟨by omega, rfl⟩))), rfl, rfl, rfl, rfl, rfl, rfl, rfl, rfl, rfl, rfl, rfl, rfl, rfl, rfl, rfl⟩
        · have c82 := zz_neq c82
          have l114 : (1 : Int32).toInt = 1 := rfl
          refine zz_ok_ite (fun c113 => ?_) (fun c113 => ?_)
          · have c113 := congrArg Int32.toInt c113
            refine zz_ok_bind (ff_X7_spanOf K hK T hT n0 n1 n2 n3 n4 n5 n6 r_4 s1 s2 s3 s4 s5 s6 s7 s8 s9 s10 s11 s12 s13 a3 (by omega) (by omega) a10) ?_
            intro z115 hz115
            obtain ⟨r_8, t_8_0, t_8_1, t_8_2, t_8_3, t_8_4, t_8_5, t_8_6, t_8_7, t_8_8, t_8_9, t_8_10, t_8_11, t_8_12⟩ := z115
            have q116 : r_8 = s8 r_4.toNatClampNeg := hz115.1
            have q117 : t_8_0 = s1 := hz115.2.1
            have q118 : t_8_1 = s2 := hz115.2.2.1
            have q119 : t_8_2 = s3 := hz115.2.2.2.1
            have q120 : t_8_3 = s4 := hz115.2.2.2.2.1
            have q121 : t_8_4 = s5 := hz115.2.2.2.2.2.1
            have q122 : t_8_5 = s6 := hz115.2.2.2.2.2.2.1
            have q123 : t_8_6 = s7 := hz115.2.2.2.2.2.2.2.1
            have q124 : t_8_7 = s8 := hz115.2.2.2.2.2.2.2.2.1
            have q125 : t_8_8 = s9 := hz115.2.2.2.2.2.2.2.2.2.1
            have q126 : t_8_9 = s10 := hz115.2.2.2.2.2.2.2.2.2.2.1
            have q127 : t_8_10 = s11 := hz115.2.2.2.2.2.2.2.2.2.2.2.1
            have q128 : t_8_11 = s12 := hz115.2.2.2.2.2.2.2.2.2.2.2.2.1
            have q129 : t_8_12 = s13 := hz115.2.2.2.2.2.2.2.2.2.2.2.2.2
            clear hz115
            have e130 : s8 r_4.toNatClampNeg = r_8 := q116.symm
            subst e130
            have e131 : s1 = t_8_0 := q117.symm
            subst e131
            have e132 : s2 = t_8_1 := q118.symm
            subst e132
            have e133 : s3 = t_8_2 := q119.symm
            subst e133
            have e134 : s4 = t_8_3 := q120.symm
            subst e134
            have e135 : s5 = t_8_4 := q121.symm
            subst e135
            have e136 : s6 = t_8_5 := q122.symm
            subst e136
            have e137 : s7 = t_8_6 := q123.symm
            subst e137
            have e138 : s8 = t_8_7 := q124.symm
            subst e138
            have e139 : s9 = t_8_8 := q125.symm
            subst e139
            have e140 : s10 = t_8_9 := q126.symm
            subst e140
            have e141 : s11 = t_8_10 := q127.symm
            subst e141
            have e142 : s12 = t_8_11 := q128.symm
            subst e142
            have e143 : s13 = t_8_12 := q129.symm
            subst e143
            show zz_ok (some ("", (s8 r_4.toNatClampNeg), s0, s1, s2, s3, s4, s5, s6, s7, s8, s9, s10, s11, s12, s13, s14)) _
            have g144 := zz_rg (s8 r_4.toNatClampNeg)
            refine zz_ok_some ?_
            show zz_AE (("")) (p1) p2.toInt (s8 r_4.toNatClampNeg).toInt s2.toInt (s6) (s7) (s8) (s9) ∧ s0 = s0 ∧ s1 = s1 ∧ s2 = s2 ∧ s3 = s3 ∧ s4 = s4 ∧ s5 = s5 ∧ s6 = s6 ∧ s7 = s7 ∧ s8 = s8 ∧ s9 = s9 ∧ s10 = s10 ∧ s11 = s11 ∧ s12 = s12 ∧ s13 = s13 ∧ s14 = s14
            exact ⟨(by first | exact Or.inl ⟨rfl, by omega⟩ | exact zz_AE_n (by assumption) (by assumption) rfl (by omega) (by omega) | exact zz_AE_y (x := r_4) (by assumption) (by assumption) rfl (by first | exact Or.inl ⟨by omega, rfl⟩ | exact Or.inr (Or.inl ⟨by omega, rfl⟩) | exact Or.inr (Or.inr ⟨by omega, rfl⟩))), rfl, rfl, rfl, rfl, rfl, rfl, rfl, rfl, rfl, rfl, rfl, rfl, rfl, rfl, rfl⟩
          · have c113 := zz_neq c113
            refine zz_ok_bind (ff_X7_askedOf K hK T hT n0 n1 n2 n3 n4 n5 n6 r_4 s1 s2 s3 s4 s5 s6 s7 s8 s9 s10 s11 s12 s13 a4 (by omega) (by omega) a10) ?_
            intro z145 hz145
            obtain ⟨r_7, t_7_0, t_7_1, t_7_2, t_7_3, t_7_4, t_7_5, t_7_6, t_7_7, t_7_8, t_7_9, t_7_10, t_7_11, t_7_12⟩ := z145
            have q146 : r_7 = s9 r_4.toNatClampNeg := hz145.1
            have q147 : t_7_0 = s1 := hz145.2.1
            have q148 : t_7_1 = s2 := hz145.2.2.1
            have q149 : t_7_2 = s3 := hz145.2.2.2.1
            have q150 : t_7_3 = s4 := hz145.2.2.2.2.1
            have q151 : t_7_4 = s5 := hz145.2.2.2.2.2.1
            have q152 : t_7_5 = s6 := hz145.2.2.2.2.2.2.1
            have q153 : t_7_6 = s7 := hz145.2.2.2.2.2.2.2.1
            have q154 : t_7_7 = s8 := hz145.2.2.2.2.2.2.2.2.1
            have q155 : t_7_8 = s9 := hz145.2.2.2.2.2.2.2.2.2.1
            have q156 : t_7_9 = s10 := hz145.2.2.2.2.2.2.2.2.2.2.1
            have q157 : t_7_10 = s11 := hz145.2.2.2.2.2.2.2.2.2.2.2.1
            have q158 : t_7_11 = s12 := hz145.2.2.2.2.2.2.2.2.2.2.2.2.1
            have q159 : t_7_12 = s13 := hz145.2.2.2.2.2.2.2.2.2.2.2.2.2
            clear hz145
            have e160 : s9 r_4.toNatClampNeg = r_7 := q146.symm
            subst e160
            have e161 : s1 = t_7_0 := q147.symm
            subst e161
            have e162 : s2 = t_7_1 := q148.symm
            subst e162
            have e163 : s3 = t_7_2 := q149.symm
            subst e163
            have e164 : s4 = t_7_3 := q150.symm
            subst e164
            have e165 : s5 = t_7_4 := q151.symm
            subst e165
            have e166 : s6 = t_7_5 := q152.symm
            subst e166
            have e167 : s7 = t_7_6 := q153.symm
            subst e167
            have e168 : s8 = t_7_7 := q154.symm
            subst e168
            have e169 : s9 = t_7_8 := q155.symm
            subst e169
            have e170 : s10 = t_7_9 := q156.symm
            subst e170
            have e171 : s11 = t_7_10 := q157.symm
            subst e171
            have e172 : s12 = t_7_11 := q158.symm
            subst e172
            have e173 : s13 = t_7_12 := q159.symm
            subst e173
            show zz_ok (some ("", (s9 r_4.toNatClampNeg), s0, s1, s2, s3, s4, s5, s6, s7, s8, s9, s10, s11, s12, s13, s14)) _
            have g174 := zz_rg (s9 r_4.toNatClampNeg)
            refine zz_ok_some ?_
            show zz_AE (("")) (p1) p2.toInt (s9 r_4.toNatClampNeg).toInt s2.toInt (s6) (s7) (s8) (s9) ∧ s0 = s0 ∧ s1 = s1 ∧ s2 = s2 ∧ s3 = s3 ∧ s4 = s4 ∧ s5 = s5 ∧ s6 = s6 ∧ s7 = s7 ∧ s8 = s8 ∧ s9 = s9 ∧ s10 = s10 ∧ s11 = s11 ∧ s12 = s12 ∧ s13 = s13 ∧ s14 = s14
            exact ⟨(by first | exact Or.inl ⟨rfl, by omega⟩ | exact zz_AE_n (by assumption) (by assumption) rfl (by omega) (by omega) | exact zz_AE_y (x := r_4) (by assumption) (by assumption) rfl (by first | exact Or.inl ⟨by omega, rfl⟩ | exact Or.inr (Or.inl ⟨by omega, rfl⟩) | exact Or.inr (Or.inr ⟨by omega, rfl⟩))), rfl, rfl, rfl, rfl, rfl, rfl, rfl, rfl, rfl, rfl, rfl, rfl, rfl, rfl, rfl⟩
      · skip
        refine zz_ok_some ?_
        show zz_AE (e_4) (p1) p2.toInt (0 : Int32).toInt s2.toInt (s6) (s7) (s8) (s9) ∧ s0 = s0 ∧ s1 = s1 ∧ s2 = s2 ∧ s3 = s3 ∧ s4 = s4 ∧ s5 = s5 ∧ s6 = s6 ∧ s7 = s7 ∧ s8 = s8 ∧ s9 = s9 ∧ s10 = s10 ∧ s11 = s11 ∧ s12 = s12 ∧ s13 = s13 ∧ s14 = s14
        exact ⟨(by first | exact Or.inl ⟨rfl, by omega⟩ | exact zz_AE_n (by assumption) (by assumption) rfl (by omega) (by omega) | exact zz_AE_y (x := r_4) (by assumption) (by assumption) rfl (by first | exact Or.inl ⟨by omega, rfl⟩ | exact Or.inr (Or.inl ⟨by omega, rfl⟩) | exact Or.inr (Or.inr ⟨by omega, rfl⟩))), rfl, rfl, rfl, rfl, rfl, rfl, rfl, rfl, rfl, rfl, rfl, rfl, rfl, rfl, rfl⟩
    · have c13 := zz_nle c13
      refine zz_ok_some ?_
      show zz_AE (("java/lang/IllegalArgumentException")) (p1) p2.toInt (0 : Int32).toInt s2.toInt (s6) (s7) (s8) (s9) ∧ s0 = s0 ∧ s1 = s1 ∧ s2 = s2 ∧ s3 = s3 ∧ s4 = s4 ∧ s5 = s5 ∧ s6 = s6 ∧ s7 = s7 ∧ s8 = s8 ∧ s9 = s9 ∧ s10 = s10 ∧ s11 = s11 ∧ s12 = s12 ∧ s13 = s13 ∧ s14 = s14
      exact ⟨(by first | exact Or.inl ⟨rfl, by omega⟩ | exact zz_AE_n (by assumption) (by assumption) rfl (by omega) (by omega) | exact zz_AE_y (x := r_4) (by assumption) (by assumption) rfl (by first | exact Or.inl ⟨by omega, rfl⟩ | exact Or.inr (Or.inl ⟨by omega, rfl⟩) | exact Or.inr (Or.inr ⟨by omega, rfl⟩))), rfl, rfl, rfl, rfl, rfl, rfl, rfl, rfl, rfl, rfl, rfl, rfl, rfl, rfl, rfl⟩
set_option maxHeartbeats 4000000 in
theorem gg_X11_at_X2 (K : Nat) (hK : 1099511627776 ≤ K) (T : Nat) (hT : T ≤ 900) (n0 : Nat) (n1 : Nat) (n2 : Nat) (n3 : Nat) (n4 : Nat) (n5 : Nat) (n6 : Nat) (p1 : Int32) (s0 : Int32) (s1 : Int32) (s2 : Int32) (s3 : Int32) (s4 : Int32) (s5 : Nat → Int32) (s6 : Nat → Int32) (s7 : Nat → Int32) (s8 : Nat → Int32) (s9 : Nat → Int32) (s10 : Int32) (s11 : Int32) (s12 : Nat → Int32) (s13 : Nat → Int32) (s14 : Int32) (a0 : n0 = 1024) (a1 : n1 = 200) (a2 : n2 = 200) (a3 : n3 = 200) (a4 : n4 = 200) (a5 : n5 = 512) (a6 : n6 = 512) (a7 : 16 ≤ s1.toInt) (a8 : s1.toInt ≤ 1024) (a9 : 0 ≤ s2.toInt) (a10 : s2.toInt ≤ 200) (a11 : zz_vs s1.toInt (s7) (s8) s2.toInt) (a12 : 0 ≤ s3.toInt) (a13 : s3.toInt ≤ 100000) : zz_ok (m_X11_at_X2 K n0 n1 n2 n3 n4 n5 n6 p1 s0 s1 s2 s3 s4 s5 s6 s7 s8 s9 s10 s11 s12 s13 s14) (fun z => zz_TE (z.1) (p1) z.2.1.toInt s1.toInt (s5) ∧ z.2.2.1 = s0 ∧ z.2.2.2.1 = s1 ∧ z.2.2.2.2.1 = s2 ∧ z.2.2.2.2.2.1 = s3 ∧ z.2.2.2.2.2.2.1 = s4 ∧ z.2.2.2.2.2.2.2.1 = s5 ∧ z.2.2.2.2.2.2.2.2.1 = s6 ∧ z.2.2.2.2.2.2.2.2.2.1 = s7 ∧ z.2.2.2.2.2.2.2.2.2.2.1 = s8 ∧ z.2.2.2.2.2.2.2.2.2.2.2.1 = s9 ∧ z.2.2.2.2.2.2.2.2.2.2.2.2.1 = s10 ∧ z.2.2.2.2.2.2.2.2.2.2.2.2.2.1 = s11 ∧ z.2.2.2.2.2.2.2.2.2.2.2.2.2.2.1 = s12 ∧ z.2.2.2.2.2.2.2.2.2.2.2.2.2.2.2.1 = s13 ∧ z.2.2.2.2.2.2.2.2.2.2.2.2.2.2.2.2 = s14) := by
  have g1 := zz_rg p1
  have g2 := zz_rg s0
  have g3 := zz_rg s1
  have g4 := zz_rg s2
  have g5 := zz_rg s3
  have g6 := zz_rg s4
  have g7 := zz_rg s10
  have g8 := zz_rg s11
  have g9 := zz_rg s14
  unfold m_X11_at_X2
  refine zz_ok_bind (ff_X7_words K hK T hT n0 n1 n2 n3 n4 n5 n6 s1 s2 s3 s4 s5 s6 s7 s8 s9 s10 s11 s12 s13) ?_
  intro z10 hz10
  obtain ⟨r_1, t_1_0, t_1_1, t_1_2, t_1_3, t_1_4, t_1_5, t_1_6, t_1_7, t_1_8, t_1_9, t_1_10, t_1_11, t_1_12⟩ := z10
  have q11 : r_1 = s1 := hz10.1
  have q12 : t_1_0 = s1 := hz10.2.1
  have q13 : t_1_1 = s2 := hz10.2.2.1
  have q14 : t_1_2 = s3 := hz10.2.2.2.1
  have q15 : t_1_3 = s4 := hz10.2.2.2.2.1
  have q16 : t_1_4 = s5 := hz10.2.2.2.2.2.1
  have q17 : t_1_5 = s6 := hz10.2.2.2.2.2.2.1
  have q18 : t_1_6 = s7 := hz10.2.2.2.2.2.2.2.1
  have q19 : t_1_7 = s8 := hz10.2.2.2.2.2.2.2.2.1
  have q20 : t_1_8 = s9 := hz10.2.2.2.2.2.2.2.2.2.1
  have q21 : t_1_9 = s10 := hz10.2.2.2.2.2.2.2.2.2.2.1
  have q22 : t_1_10 = s11 := hz10.2.2.2.2.2.2.2.2.2.2.2.1
  have q23 : t_1_11 = s12 := hz10.2.2.2.2.2.2.2.2.2.2.2.2.1
  have q24 : t_1_12 = s13 := hz10.2.2.2.2.2.2.2.2.2.2.2.2.2
  clear hz10
  have e25 : s1 = r_1 := q11.symm
  subst e25
  have e26 : s1 = t_1_0 := q12.symm
  subst e26
  have e27 : s2 = t_1_1 := q13.symm
  subst e27
  have e28 : s3 = t_1_2 := q14.symm
  subst e28
  have e29 : s4 = t_1_3 := q15.symm
  subst e29
  have e30 : s5 = t_1_4 := q16.symm
  subst e30
  have e31 : s6 = t_1_5 := q17.symm
  subst e31
  have e32 : s7 = t_1_6 := q18.symm
  subst e32
  have e33 : s8 = t_1_7 := q19.symm
  subst e33
  have e34 : s9 = t_1_8 := q20.symm
  subst e34
  have e35 : s10 = t_1_9 := q21.symm
  subst e35
  have e36 : s11 = t_1_10 := q22.symm
  subst e36
  have e37 : s12 = t_1_11 := q23.symm
  subst e37
  have e38 : s13 = t_1_12 := q24.symm
  subst e38
  show zz_ok (if p1 < 0 then (some ("java/lang/IllegalArgumentException", 0, s0, s1, s2, s3, s4, s5, s6, s7, s8, s9, s10, s11, s12, s13, s14)) else (if p1 < s1 then ((m_X11_needRoom_X2 K n0 n1 n2 n3 n4 n5 n6 s0 s1 s2 s3 s4 s5 s6 s7 s8 s9 s10 s11 s12 s13 s14).bind fun ⟨e_4, t_4_0, t_4_1, t_4_2, t_4_3, t_4_4, t_4_5, t_4_6, t_4_7, t_4_8, t_4_9, t_4_10, t_4_11, t_4_12, t_4_13, t_4_14⟩ => if e_4 = "" then ((m_X7_blockAt K n0 n1 n2 n3 n4 n5 n6 p1 t_4_1 t_4_2 t_4_3 t_4_4 t_4_5 t_4_6 t_4_7 t_4_8 t_4_9 t_4_10 t_4_11 t_4_12 t_4_13).bind fun ⟨r_5, t_5_0, t_5_1, t_5_2, t_5_3, t_5_4, t_5_5, t_5_6, t_5_7, t_5_8, t_5_9, t_5_10, t_5_11, t_5_12⟩ => some ("", r_5, t_4_0, t_5_0, t_5_1, t_5_2, t_5_3, t_5_4, t_5_5, t_5_6, t_5_7, t_5_8, t_5_9, t_5_10, t_5_11, t_5_12, t_4_14)) else (some (e_4, 0, t_4_0, t_4_1, t_4_2, t_4_3, t_4_4, t_4_5, t_4_6, t_4_7, t_4_8, t_4_9, t_4_10, t_4_11, t_4_12, t_4_13, t_4_14))) else (some ("java/lang/IllegalArgumentException", 0, s0, s1, s2, s3, s4, s5, s6, s7, s8, s9, s10, s11, s12, s13, s14)))) _
  have l40 : (0 : Int32).toInt = 0 := rfl
  refine zz_ok_ite (fun c39 => ?_) (fun c39 => ?_)
  · have c39 := Int32.lt_iff_toInt_lt.mp c39
    refine zz_ok_some ?_
    show zz_TE (("java/lang/IllegalArgumentException")) (p1) (0 : Int32).toInt s1.toInt (s5) ∧ s0 = s0 ∧ s1 = s1 ∧ s2 = s2 ∧ s3 = s3 ∧ s4 = s4 ∧ s5 = s5 ∧ s6 = s6 ∧ s7 = s7 ∧ s8 = s8 ∧ s9 = s9 ∧ s10 = s10 ∧ s11 = s11 ∧ s12 = s12 ∧ s13 = s13 ∧ s14 = s14
    exact ⟨(by first | exact Or.inl ⟨rfl, by omega⟩ | exact Or.inr ⟨rfl, by omega, by omega, by assumption⟩), rfl, rfl, rfl, rfl, rfl, rfl, rfl, rfl, rfl, rfl, rfl, rfl, rfl, rfl, rfl⟩
  · have c39 := zz_nlt c39
    refine zz_ok_ite (fun c41 => ?_) (fun c41 => ?_)
    · have c41 := Int32.lt_iff_toInt_lt.mp c41
      refine zz_ok_bind (gg_X11_needRoom_X2 K hK T hT n0 n1 n2 n3 n4 n5 n6 s0 s1 s2 s3 s4 s5 s6 s7 s8 s9 s10 s11 s12 s13 s14) ?_
      intro z42 hz42
      obtain ⟨e_4, t_4_0, t_4_1, t_4_2, t_4_3, t_4_4, t_4_5, t_4_6, t_4_7, t_4_8, t_4_9, t_4_10, t_4_11, t_4_12, t_4_13, t_4_14⟩ := z42
      have q43 : zz_em e_4 := hz42.1
      have q44 : t_4_0 = s0 := hz42.2.1
      have q45 : t_4_1 = s1 := hz42.2.2.1
      have q46 : t_4_2 = s2 := hz42.2.2.2.1
      have q47 : t_4_3 = s3 := hz42.2.2.2.2.1
      have q48 : t_4_4 = s4 := hz42.2.2.2.2.2.1
      have q49 : t_4_5 = s5 := hz42.2.2.2.2.2.2.1
      have q50 : t_4_6 = s6 := hz42.2.2.2.2.2.2.2.1
      have q51 : t_4_7 = s7 := hz42.2.2.2.2.2.2.2.2.1
      have q52 : t_4_8 = s8 := hz42.2.2.2.2.2.2.2.2.2.1
      have q53 : t_4_9 = s9 := hz42.2.2.2.2.2.2.2.2.2.2.1
      have q54 : t_4_10 = s10 := hz42.2.2.2.2.2.2.2.2.2.2.2.1
      have q55 : t_4_11 = s11 := hz42.2.2.2.2.2.2.2.2.2.2.2.2.1
      have q56 : t_4_12 = s12 := hz42.2.2.2.2.2.2.2.2.2.2.2.2.2.1
      have q57 : t_4_13 = s13 := hz42.2.2.2.2.2.2.2.2.2.2.2.2.2.2.1
      have q58 : t_4_14 = s14 := hz42.2.2.2.2.2.2.2.2.2.2.2.2.2.2.2
      clear hz42
      have e59 : s0 = t_4_0 := q44.symm
      subst e59
      have e60 : s1 = t_4_1 := q45.symm
      subst e60
      have e61 : s2 = t_4_2 := q46.symm
      subst e61
      have e62 : s3 = t_4_3 := q47.symm
      subst e62
      have e63 : s4 = t_4_4 := q48.symm
      subst e63
      have e64 : s5 = t_4_5 := q49.symm
      subst e64
      have e65 : s6 = t_4_6 := q50.symm
      subst e65
      have e66 : s7 = t_4_7 := q51.symm
      subst e66
      have e67 : s8 = t_4_8 := q52.symm
      subst e67
      have e68 : s9 = t_4_9 := q53.symm
      subst e68
      have e69 : s10 = t_4_10 := q54.symm
      subst e69
      have e70 : s11 = t_4_11 := q55.symm
      subst e70
      have e71 : s12 = t_4_12 := q56.symm
      subst e71
      have e72 : s13 = t_4_13 := q57.symm
      subst e72
      have e73 : s14 = t_4_14 := q58.symm
      subst e73
      show zz_ok (if e_4 = "" then ((m_X7_blockAt K n0 n1 n2 n3 n4 n5 n6 p1 s1 s2 s3 s4 s5 s6 s7 s8 s9 s10 s11 s12 s13).bind fun ⟨r_5, t_5_0, t_5_1, t_5_2, t_5_3, t_5_4, t_5_5, t_5_6, t_5_7, t_5_8, t_5_9, t_5_10, t_5_11, t_5_12⟩ => some ("", r_5, s0, t_5_0, t_5_1, t_5_2, t_5_3, t_5_4, t_5_5, t_5_6, t_5_7, t_5_8, t_5_9, t_5_10, t_5_11, t_5_12, s14)) else (some (e_4, 0, s0, s1, s2, s3, s4, s5, s6, s7, s8, s9, s10, s11, s12, s13, s14))) _
      refine zz_ok_ite (fun c74 => ?_) (fun c74 => absurd q43 c74)
      refine zz_ok_bind (ff_X7_blockAt K hK T hT n0 n1 n2 n3 n4 n5 n6 p1 s1 s2 s3 s4 s5 s6 s7 s8 s9 s10 s11 s12 s13 a0 a1 a2 a3 a4 a5 a6 (by omega) (by omega) a8) ?_
      intro z75 hz75
      obtain ⟨r_5, t_5_0, t_5_1, t_5_2, t_5_3, t_5_4, t_5_5, t_5_6, t_5_7, t_5_8, t_5_9, t_5_10, t_5_11, t_5_12⟩ := z75
      have q76 : zz_bat (s5) (p1) r_5.toInt := hz75.1
      have q77 : t_5_0 = s1 := hz75.2.1
      have q78 : t_5_1 = s2 := hz75.2.2.1
      have q79 : t_5_2 = s3 := hz75.2.2.2.1
      have q80 : t_5_3 = s4 := hz75.2.2.2.2.1
      have q81 : t_5_4 = s5 := hz75.2.2.2.2.2.1
      have q82 : t_5_5 = s6 := hz75.2.2.2.2.2.2.1
      have q83 : t_5_6 = s7 := hz75.2.2.2.2.2.2.2.1
      have q84 : t_5_7 = s8 := hz75.2.2.2.2.2.2.2.2.1
      have q85 : t_5_8 = s9 := hz75.2.2.2.2.2.2.2.2.2.1
      have q86 : t_5_9 = s10 := hz75.2.2.2.2.2.2.2.2.2.2.1
      have q87 : t_5_10 = s11 := hz75.2.2.2.2.2.2.2.2.2.2.2.1
      have q88 : t_5_11 = s12 := hz75.2.2.2.2.2.2.2.2.2.2.2.2.1
      have q89 : t_5_12 = s13 := hz75.2.2.2.2.2.2.2.2.2.2.2.2.2
      clear hz75
      have e90 : s1 = t_5_0 := q77.symm
      subst e90
      have e91 : s2 = t_5_1 := q78.symm
      subst e91
      have e92 : s3 = t_5_2 := q79.symm
      subst e92
      have e93 : s4 = t_5_3 := q80.symm
      subst e93
      have e94 : s5 = t_5_4 := q81.symm
      subst e94
      have e95 : s6 = t_5_5 := q82.symm
      subst e95
      have e96 : s7 = t_5_6 := q83.symm
      subst e96
      have e97 : s8 = t_5_7 := q84.symm
      subst e97
      have e98 : s9 = t_5_8 := q85.symm
      subst e98
      have e99 : s10 = t_5_9 := q86.symm
      subst e99
      have e100 : s11 = t_5_10 := q87.symm
      subst e100
      have e101 : s12 = t_5_11 := q88.symm
      subst e101
      have e102 : s13 = t_5_12 := q89.symm
      subst e102
      have g103 := zz_rg r_5
      show zz_ok (some ("", r_5, s0, s1, s2, s3, s4, s5, s6, s7, s8, s9, s10, s11, s12, s13, s14)) _
      refine zz_ok_some ?_
      show zz_TE (("")) (p1) r_5.toInt s1.toInt (s5) ∧ s0 = s0 ∧ s1 = s1 ∧ s2 = s2 ∧ s3 = s3 ∧ s4 = s4 ∧ s5 = s5 ∧ s6 = s6 ∧ s7 = s7 ∧ s8 = s8 ∧ s9 = s9 ∧ s10 = s10 ∧ s11 = s11 ∧ s12 = s12 ∧ s13 = s13 ∧ s14 = s14
      exact ⟨(by first | exact Or.inl ⟨rfl, by omega⟩ | exact Or.inr ⟨rfl, by omega, by omega, by assumption⟩), rfl, rfl, rfl, rfl, rfl, rfl, rfl, rfl, rfl, rfl, rfl, rfl, rfl, rfl, rfl⟩
    · have c41 := zz_nlt c41
      refine zz_ok_some ?_
      show zz_TE (("java/lang/IllegalArgumentException")) (p1) (0 : Int32).toInt s1.toInt (s5) ∧ s0 = s0 ∧ s1 = s1 ∧ s2 = s2 ∧ s3 = s3 ∧ s4 = s4 ∧ s5 = s5 ∧ s6 = s6 ∧ s7 = s7 ∧ s8 = s8 ∧ s9 = s9 ∧ s10 = s10 ∧ s11 = s11 ∧ s12 = s12 ∧ s13 = s13 ∧ s14 = s14
      exact ⟨(by first | exact Or.inl ⟨rfl, by omega⟩ | exact Or.inr ⟨rfl, by omega, by omega, by assumption⟩), rfl, rfl, rfl, rfl, rfl, rfl, rfl, rfl, rfl, rfl, rfl, rfl, rfl, rfl, rfl⟩
set_option maxHeartbeats 4000000 in
theorem gg_X11_run_X2 (K : Nat) (hK : 1099511627776 ≤ K) (T : Nat) (hT : T ≤ 900) (n0 : Nat) (n1 : Nat) (n2 : Nat) (n3 : Nat) (n4 : Nat) (n5 : Nat) (n6 : Nat) (p1 : Int32) (p2 : Int32) (s0 : Int32) (s1 : Int32) (s2 : Int32) (s3 : Int32) (s4 : Int32) (s5 : Nat → Int32) (s6 : Nat → Int32) (s7 : Nat → Int32) (s8 : Nat → Int32) (s9 : Nat → Int32) (s10 : Int32) (s11 : Int32) (s12 : Nat → Int32) (s13 : Nat → Int32) (s14 : Int32) (a0 : n0 = 1024) (a1 : n1 = 200) (a2 : n2 = 200) (a3 : n3 = 200) (a4 : n4 = 200) (a5 : n5 = 512) (a6 : n6 = 512) (a7 : 16 ≤ s1.toInt) (a8 : s1.toInt ≤ 1024) (a9 : 0 ≤ s2.toInt) (a10 : s2.toInt ≤ 200) (a11 : zz_vs s1.toInt (s7) (s8) s2.toInt) (a12 : 0 ≤ s3.toInt) (a13 : s3.toInt ≤ 100000) : zz_ok (m_X11_run_X2 K n0 n1 n2 n3 n4 n5 n6 p1 p2 s0 s1 s2 s3 s4 s5 s6 s7 s8 s9 s10 s11 s12 s13 s14) (fun z => zz_RE (z.1) p1.toInt p2.toInt z.2.1.toInt s1.toInt (s5) ∧ z.2.2.1 = s0 ∧ z.2.2.2.1 = s1 ∧ z.2.2.2.2.1 = s2 ∧ z.2.2.2.2.2.1 = s3 ∧ z.2.2.2.2.2.2.1 = s4 ∧ z.2.2.2.2.2.2.2.1 = s5 ∧ z.2.2.2.2.2.2.2.2.1 = s6 ∧ z.2.2.2.2.2.2.2.2.2.1 = s7 ∧ z.2.2.2.2.2.2.2.2.2.2.1 = s8 ∧ z.2.2.2.2.2.2.2.2.2.2.2.1 = s9 ∧ z.2.2.2.2.2.2.2.2.2.2.2.2.2.2.2.2 = s14) := by
  have g1 := zz_rg p1
  have g2 := zz_rg p2
  have g3 := zz_rg s0
  have g4 := zz_rg s1
  have g5 := zz_rg s2
  have g6 := zz_rg s3
  have g7 := zz_rg s4
  have g8 := zz_rg s10
  have g9 := zz_rg s11
  have g10 := zz_rg s14
  unfold m_X11_run_X2
  have l12 : (0 : Int32).toInt = 0 := rfl
  refine zz_ok_ite (fun c11 => ?_) (fun c11 => ?_)
  · have c11 := Int32.lt_iff_toInt_lt.mp c11
    refine zz_ok_some ?_
    show zz_RE (("java/lang/IllegalArgumentException")) p1.toInt p2.toInt (0 : Int32).toInt s1.toInt (s5) ∧ s0 = s0 ∧ s1 = s1 ∧ s2 = s2 ∧ s3 = s3 ∧ s4 = s4 ∧ s5 = s5 ∧ s6 = s6 ∧ s7 = s7 ∧ s8 = s8 ∧ s9 = s9 ∧ s14 = s14
    exact ⟨(by first | exact Or.inl ⟨rfl, by omega⟩ | exact zz_RE_n (by assumption) (by omega) (by omega) (by omega) rfl (by omega) | exact zz_RE_y (by assumption) (by omega) (by omega) (by omega) rfl (by omega) (by omega) (by first | exact Or.inl ⟨by omega, rfl⟩ | exact Or.inr ⟨by omega, rfl⟩)), (by first | rfl | (exfalso; omega)), (by first | rfl | (exfalso; omega)), (by first | rfl | (exfalso; omega)), (by first | rfl | (exfalso; omega)), (by first | rfl | (exfalso; omega)), (by first | rfl | (exfalso; omega)), (by first | rfl | (exfalso; omega)), (by first | rfl | (exfalso; omega)), (by first | rfl | (exfalso; omega)), (by first | rfl | (exfalso; omega)), (by first | rfl | (exfalso; omega))⟩
  · have c11 := zz_nlt c11
    have l14 : (1 : Int32).toInt = 1 := rfl
    refine zz_ok_ite (fun c13 => ?_) (fun c13 => ?_)
    · have c13 := Int32.le_iff_toInt_le.mp c13
      refine zz_ok_bind (gg_X11_needRoom_X2 K hK T hT n0 n1 n2 n3 n4 n5 n6 s0 s1 s2 s3 s4 s5 s6 s7 s8 s9 s10 s11 s12 s13 s14) ?_
      intro z15 hz15
      obtain ⟨e_3, t_3_0, t_3_1, t_3_2, t_3_3, t_3_4, t_3_5, t_3_6, t_3_7, t_3_8, t_3_9, t_3_10, t_3_11, t_3_12, t_3_13, t_3_14⟩ := z15
      have q16 : zz_em e_3 := hz15.1
      have q17 : t_3_0 = s0 := hz15.2.1
      have q18 : t_3_1 = s1 := hz15.2.2.1
      have q19 : t_3_2 = s2 := hz15.2.2.2.1
      have q20 : t_3_3 = s3 := hz15.2.2.2.2.1
      have q21 : t_3_4 = s4 := hz15.2.2.2.2.2.1
      have q22 : t_3_5 = s5 := hz15.2.2.2.2.2.2.1
      have q23 : t_3_6 = s6 := hz15.2.2.2.2.2.2.2.1
      have q24 : t_3_7 = s7 := hz15.2.2.2.2.2.2.2.2.1
      have q25 : t_3_8 = s8 := hz15.2.2.2.2.2.2.2.2.2.1
      have q26 : t_3_9 = s9 := hz15.2.2.2.2.2.2.2.2.2.2.1
      have q27 : t_3_10 = s10 := hz15.2.2.2.2.2.2.2.2.2.2.2.1
      have q28 : t_3_11 = s11 := hz15.2.2.2.2.2.2.2.2.2.2.2.2.1
      have q29 : t_3_12 = s12 := hz15.2.2.2.2.2.2.2.2.2.2.2.2.2.1
      have q30 : t_3_13 = s13 := hz15.2.2.2.2.2.2.2.2.2.2.2.2.2.2.1
      have q31 : t_3_14 = s14 := hz15.2.2.2.2.2.2.2.2.2.2.2.2.2.2.2
      clear hz15
      have e32 : s0 = t_3_0 := q17.symm
      subst e32
      have e33 : s1 = t_3_1 := q18.symm
      subst e33
      have e34 : s2 = t_3_2 := q19.symm
      subst e34
      have e35 : s3 = t_3_3 := q20.symm
      subst e35
      have e36 : s4 = t_3_4 := q21.symm
      subst e36
      have e37 : s5 = t_3_5 := q22.symm
      subst e37
      have e38 : s6 = t_3_6 := q23.symm
      subst e38
      have e39 : s7 = t_3_7 := q24.symm
      subst e39
      have e40 : s8 = t_3_8 := q25.symm
      subst e40
      have e41 : s9 = t_3_9 := q26.symm
      subst e41
      have e42 : s10 = t_3_10 := q27.symm
      subst e42
      have e43 : s11 = t_3_11 := q28.symm
      subst e43
      have e44 : s12 = t_3_12 := q29.symm
      subst e44
      have e45 : s13 = t_3_13 := q30.symm
      subst e45
      have e46 : s14 = t_3_14 := q31.symm
      subst e46
      show zz_ok (if e_3 = "" then ((m_X7_listRuns K n0 n1 n2 n3 n4 n5 n6 s1 s2 s3 s4 s5 s6 s7 s8 s9 s10 s11 s12 s13).bind fun ⟨t_4_0, t_4_1, t_4_2, t_4_3, t_4_4, t_4_5, t_4_6, t_4_7, t_4_8, t_4_9, t_4_10, t_4_11, t_4_12⟩ => if p1 < 0 then (some ("java/lang/IndexOutOfBoundsException", 0, s0, t_4_0, t_4_1, t_4_2, t_4_3, t_4_4, t_4_5, t_4_6, t_4_7, t_4_8, t_4_9, t_4_10, t_4_11, t_4_12, s14)) else ((m_X10_size K n5 n6 t_4_9 t_4_10 t_4_11 t_4_12).bind fun ⟨r_6, t_6_0, t_6_1, t_6_2, t_6_3⟩ => if p1 < r_6 then (if p2 = 0 then ((m_X10_placeOf K n5 n6 p1 t_6_0 t_6_1 t_6_2 t_6_3).bind fun ⟨r_10, t_10_0, t_10_1, t_10_2, t_10_3⟩ => some ("", r_10, s0, t_4_0, t_4_1, t_4_2, t_4_3, t_4_4, t_4_5, t_4_6, t_4_7, t_4_8, t_10_0, t_10_1, t_10_2, t_10_3, s14)) else ((m_X10_wordsOf K n5 n6 p1 t_6_0 t_6_1 t_6_2 t_6_3).bind fun ⟨r_9, t_9_0, t_9_1, t_9_2, t_9_3⟩ => some ("", r_9, s0, t_4_0, t_4_1, t_4_2, t_4_3, t_4_4, t_4_5, t_4_6, t_4_7, t_4_8, t_9_0, t_9_1, t_9_2, t_9_3, s14))) else (some ("java/lang/IndexOutOfBoundsException", 0, s0, t_4_0, t_4_1, t_4_2, t_4_3, t_4_4, t_4_5, t_4_6, t_4_7, t_4_8, t_6_0, t_6_1, t_6_2, t_6_3, s14)))) else (some (e_3, 0, s0, s1, s2, s3, s4, s5, s6, s7, s8, s9, s10, s11, s12, s13, s14))) _
      refine zz_ok_ite (fun c47 => ?_) (fun c47 => absurd q16 c47)
      refine zz_ok_bind (ff_X7_listRuns K hK T hT n0 n1 n2 n3 n4 n5 n6 s1 s2 s3 s4 s5 s6 s7 s8 s9 s10 s11 s12 s13 a0 a1 a2 a3 a4 a5 a6 (by omega) a8) ?_
      intro z48 hz48
      obtain ⟨t_4_0, t_4_1, t_4_2, t_4_3, t_4_4, t_4_5, t_4_6, t_4_7, t_4_8, t_4_9, t_4_10, t_4_11, t_4_12⟩ := z48
      have q49 : zz_ru s1.toInt (s5) (t_4_11) (t_4_12) t_4_9.toInt := hz48.1
      have q50 : 0 ≤ t_4_9.toInt := hz48.2.1
      have q51 : t_4_9.toInt ≤ 512 := hz48.2.2.1
      have q52 : t_4_0 = s1 := hz48.2.2.2.1
      have q53 : t_4_1 = s2 := hz48.2.2.2.2.1
      have q54 : t_4_2 = s3 := hz48.2.2.2.2.2.1
      have q55 : t_4_3 = s4 := hz48.2.2.2.2.2.2.1
      have q56 : t_4_4 = s5 := hz48.2.2.2.2.2.2.2.1
      have q57 : t_4_5 = s6 := hz48.2.2.2.2.2.2.2.2.1
      have q58 : t_4_6 = s7 := hz48.2.2.2.2.2.2.2.2.2.1
      have q59 : t_4_7 = s8 := hz48.2.2.2.2.2.2.2.2.2.2.1
      have q60 : t_4_8 = s9 := hz48.2.2.2.2.2.2.2.2.2.2.2.1
      have q61 : t_4_10 = s11 := hz48.2.2.2.2.2.2.2.2.2.2.2.2
      clear hz48
      have e62 : s1 = t_4_0 := q52.symm
      subst e62
      have e63 : s2 = t_4_1 := q53.symm
      subst e63
      have e64 : s3 = t_4_2 := q54.symm
      subst e64
      have e65 : s4 = t_4_3 := q55.symm
      subst e65
      have e66 : s5 = t_4_4 := q56.symm
      subst e66
      have e67 : s6 = t_4_5 := q57.symm
      subst e67
      have e68 : s7 = t_4_6 := q58.symm
      subst e68
      have e69 : s8 = t_4_7 := q59.symm
      subst e69
      have e70 : s9 = t_4_8 := q60.symm
      subst e70
      have e71 : s11 = t_4_10 := q61.symm
      subst e71
      have g72 := zz_rg t_4_9
      show zz_ok (if p1 < 0 then (some ("java/lang/IndexOutOfBoundsException", 0, s0, s1, s2, s3, s4, s5, s6, s7, s8, s9, t_4_9, s11, t_4_11, t_4_12, s14)) else ((m_X10_size K n5 n6 t_4_9 s11 t_4_11 t_4_12).bind fun ⟨r_6, t_6_0, t_6_1, t_6_2, t_6_3⟩ => if p1 < r_6 then (if p2 = 0 then ((m_X10_placeOf K n5 n6 p1 t_6_0 t_6_1 t_6_2 t_6_3).bind fun ⟨r_10, t_10_0, t_10_1, t_10_2, t_10_3⟩ => some ("", r_10, s0, s1, s2, s3, s4, s5, s6, s7, s8, s9, t_10_0, t_10_1, t_10_2, t_10_3, s14)) else ((m_X10_wordsOf K n5 n6 p1 t_6_0 t_6_1 t_6_2 t_6_3).bind fun ⟨r_9, t_9_0, t_9_1, t_9_2, t_9_3⟩ => some ("", r_9, s0, s1, s2, s3, s4, s5, s6, s7, s8, s9, t_9_0, t_9_1, t_9_2, t_9_3, s14))) else (some ("java/lang/IndexOutOfBoundsException", 0, s0, s1, s2, s3, s4, s5, s6, s7, s8, s9, t_6_0, t_6_1, t_6_2, t_6_3, s14)))) _
      refine zz_ok_ite (fun c73 => ?_) (fun c73 => ?_)
      · have c73 := Int32.lt_iff_toInt_lt.mp c73
        refine zz_ok_some ?_
        show zz_RE (("java/lang/IndexOutOfBoundsException")) p1.toInt p2.toInt (0 : Int32).toInt s1.toInt (s5) ∧ s0 = s0 ∧ s1 = s1 ∧ s2 = s2 ∧ s3 = s3 ∧ s4 = s4 ∧ s5 = s5 ∧ s6 = s6 ∧ s7 = s7 ∧ s8 = s8 ∧ s9 = s9 ∧ s14 = s14
        exact ⟨(by first | exact Or.inl ⟨rfl, by omega⟩ | exact zz_RE_n (by assumption) (by omega) (by omega) (by omega) rfl (by omega) | exact zz_RE_y (by assumption) (by omega) (by omega) (by omega) rfl (by omega) (by omega) (by first | exact Or.inl ⟨by omega, rfl⟩ | exact Or.inr ⟨by omega, rfl⟩)), (by first | rfl | (exfalso; omega)), (by first | rfl | (exfalso; omega)), (by first | rfl | (exfalso; omega)), (by first | rfl | (exfalso; omega)), (by first | rfl | (exfalso; omega)), (by first | rfl | (exfalso; omega)), (by first | rfl | (exfalso; omega)), (by first | rfl | (exfalso; omega)), (by first | rfl | (exfalso; omega)), (by first | rfl | (exfalso; omega)), (by first | rfl | (exfalso; omega))⟩
      · have c73 := zz_nlt c73
        refine zz_ok_bind (ff_X10_size K hK T hT n5 n6 t_4_9 s11 t_4_11 t_4_12) ?_
        intro z74 hz74
        obtain ⟨r_6, t_6_0, t_6_1, t_6_2, t_6_3⟩ := z74
        have q75 : r_6 = t_4_9 := hz74.1
        have q76 : t_6_0 = t_4_9 := hz74.2.1
        have q77 : t_6_1 = s11 := hz74.2.2.1
        have q78 : t_6_2 = t_4_11 := hz74.2.2.2.1
        have q79 : t_6_3 = t_4_12 := hz74.2.2.2.2
        clear hz74
        have e80 : t_4_9 = r_6 := q75.symm
        subst e80
        have e81 : t_4_9 = t_6_0 := q76.symm
        subst e81
        have e82 : s11 = t_6_1 := q77.symm
        subst e82
        have e83 : t_4_11 = t_6_2 := q78.symm
        subst e83
        have e84 : t_4_12 = t_6_3 := q79.symm
        subst e84
        show zz_ok (if p1 < t_4_9 then (if p2 = 0 then ((m_X10_placeOf K n5 n6 p1 t_4_9 s11 t_4_11 t_4_12).bind fun ⟨r_10, t_10_0, t_10_1, t_10_2, t_10_3⟩ => some ("", r_10, s0, s1, s2, s3, s4, s5, s6, s7, s8, s9, t_10_0, t_10_1, t_10_2, t_10_3, s14)) else ((m_X10_wordsOf K n5 n6 p1 t_4_9 s11 t_4_11 t_4_12).bind fun ⟨r_9, t_9_0, t_9_1, t_9_2, t_9_3⟩ => some ("", r_9, s0, s1, s2, s3, s4, s5, s6, s7, s8, s9, t_9_0, t_9_1, t_9_2, t_9_3, s14))) else (some ("java/lang/IndexOutOfBoundsException", 0, s0, s1, s2, s3, s4, s5, s6, s7, s8, s9, t_4_9, s11, t_4_11, t_4_12, s14))) _
        refine zz_ok_ite (fun c85 => ?_) (fun c85 => ?_)
        · have c85 := Int32.lt_iff_toInt_lt.mp c85
          refine zz_ok_ite (fun c86 => ?_) (fun c86 => ?_)
          · have c86 := congrArg Int32.toInt c86
            refine zz_ok_bind (ff_X10_placeOf K hK T hT n5 n6 p1 t_4_9 s11 t_4_11 t_4_12 (by omega) (by omega) q50 (by omega) (by omega) (by omega)) ?_
            intro z87 hz87
            obtain ⟨r_10, t_10_0, t_10_1, t_10_2, t_10_3⟩ := z87
            have q88 : r_10 = t_4_11 p1.toNatClampNeg := hz87.1
            have q89 : t_10_0 = t_4_9 := hz87.2.1
            have q90 : t_10_1 = s11 := hz87.2.2.1
            have q91 : t_10_2 = t_4_11 := hz87.2.2.2.1
            have q92 : t_10_3 = t_4_12 := hz87.2.2.2.2
            clear hz87
            have e93 : t_4_11 p1.toNatClampNeg = r_10 := q88.symm
            subst e93
            have e94 : t_4_9 = t_10_0 := q89.symm
            subst e94
            have e95 : s11 = t_10_1 := q90.symm
            subst e95
            have e96 : t_4_11 = t_10_2 := q91.symm
            subst e96
            have e97 : t_4_12 = t_10_3 := q92.symm
            subst e97
            show zz_ok (some ("", (t_4_11 p1.toNatClampNeg), s0, s1, s2, s3, s4, s5, s6, s7, s8, s9, t_4_9, s11, t_4_11, t_4_12, s14)) _
            have g98 := zz_rg (t_4_11 p1.toNatClampNeg)
            refine zz_ok_some ?_
            show zz_RE (("")) p1.toInt p2.toInt (t_4_11 p1.toNatClampNeg).toInt s1.toInt (s5) ∧ s0 = s0 ∧ s1 = s1 ∧ s2 = s2 ∧ s3 = s3 ∧ s4 = s4 ∧ s5 = s5 ∧ s6 = s6 ∧ s7 = s7 ∧ s8 = s8 ∧ s9 = s9 ∧ s14 = s14
            exact ⟨(by first | exact Or.inl ⟨rfl, by omega⟩ | exact zz_RE_n (by assumption) (by omega) (by omega) (by omega) rfl (by omega) | exact zz_RE_y (by assumption) (by omega) (by omega) (by omega) rfl (by omega) (by omega) (by first | exact Or.inl ⟨by omega, rfl⟩ | exact Or.inr ⟨by omega, rfl⟩)), (by first | rfl | (exfalso; omega)), (by first | rfl | (exfalso; omega)), (by first | rfl | (exfalso; omega)), (by first | rfl | (exfalso; omega)), (by first | rfl | (exfalso; omega)), (by first | rfl | (exfalso; omega)), (by first | rfl | (exfalso; omega)), (by first | rfl | (exfalso; omega)), (by first | rfl | (exfalso; omega)), (by first | rfl | (exfalso; omega)), (by first | rfl | (exfalso; omega))⟩
          · have c86 := zz_neq c86
            refine zz_ok_bind (ff_X10_wordsOf K hK T hT n5 n6 p1 t_4_9 s11 t_4_11 t_4_12 (by omega) (by omega) q50 (by omega) (by omega) (by omega)) ?_
            intro z99 hz99
            obtain ⟨r_9, t_9_0, t_9_1, t_9_2, t_9_3⟩ := z99
            have q100 : r_9 = t_4_12 p1.toNatClampNeg := hz99.1
            have q101 : t_9_0 = t_4_9 := hz99.2.1
            have q102 : t_9_1 = s11 := hz99.2.2.1
            have q103 : t_9_2 = t_4_11 := hz99.2.2.2.1
            have q104 : t_9_3 = t_4_12 := hz99.2.2.2.2
            clear hz99
            have e105 : t_4_12 p1.toNatClampNeg = r_9 := q100.symm
            subst e105
            have e106 : t_4_9 = t_9_0 := q101.symm
            subst e106
            have e107 : s11 = t_9_1 := q102.symm
            subst e107
            have e108 : t_4_11 = t_9_2 := q103.symm
            subst e108
            have e109 : t_4_12 = t_9_3 := q104.symm
            subst e109
            show zz_ok (some ("", (t_4_12 p1.toNatClampNeg), s0, s1, s2, s3, s4, s5, s6, s7, s8, s9, t_4_9, s11, t_4_11, t_4_12, s14)) _
            have g110 := zz_rg (t_4_12 p1.toNatClampNeg)
            refine zz_ok_some ?_
            show zz_RE (("")) p1.toInt p2.toInt (t_4_12 p1.toNatClampNeg).toInt s1.toInt (s5) ∧ s0 = s0 ∧ s1 = s1 ∧ s2 = s2 ∧ s3 = s3 ∧ s4 = s4 ∧ s5 = s5 ∧ s6 = s6 ∧ s7 = s7 ∧ s8 = s8 ∧ s9 = s9 ∧ s14 = s14
            exact ⟨(by first | exact Or.inl ⟨rfl, by omega⟩ | exact zz_RE_n (by assumption) (by omega) (by omega) (by omega) rfl (by omega) | exact zz_RE_y (by assumption) (by omega) (by omega) (by omega) rfl (by omega) (by omega) (by first | exact Or.inl ⟨by omega, rfl⟩ | exact Or.inr ⟨by omega, rfl⟩)), (by first | rfl | (exfalso; omega)), (by first | rfl | (exfalso; omega)), (by first | rfl | (exfalso; omega)), (by first | rfl | (exfalso; omega)), (by first | rfl | (exfalso; omega)), (by first | rfl | (exfalso; omega)), (by first | rfl | (exfalso; omega)), (by first | rfl | (exfalso; omega)), (by first | rfl | (exfalso; omega)), (by first | rfl | (exfalso; omega)), (by first | rfl | (exfalso; omega))⟩
        · have c85 := zz_nlt c85
          refine zz_ok_some ?_
          show zz_RE (("java/lang/IndexOutOfBoundsException")) p1.toInt p2.toInt (0 : Int32).toInt s1.toInt (s5) ∧ s0 = s0 ∧ s1 = s1 ∧ s2 = s2 ∧ s3 = s3 ∧ s4 = s4 ∧ s5 = s5 ∧ s6 = s6 ∧ s7 = s7 ∧ s8 = s8 ∧ s9 = s9 ∧ s14 = s14
          exact ⟨(by first | exact Or.inl ⟨rfl, by omega⟩ | exact zz_RE_n (by assumption) (by omega) (by omega) (by omega) rfl (by omega) | exact zz_RE_y (by assumption) (by omega) (by omega) (by omega) rfl (by omega) (by omega) (by first | exact Or.inl ⟨by omega, rfl⟩ | exact Or.inr ⟨by omega, rfl⟩)), (by first | rfl | (exfalso; omega)), (by first | rfl | (exfalso; omega)), (by first | rfl | (exfalso; omega)), (by first | rfl | (exfalso; omega)), (by first | rfl | (exfalso; omega)), (by first | rfl | (exfalso; omega)), (by first | rfl | (exfalso; omega)), (by first | rfl | (exfalso; omega)), (by first | rfl | (exfalso; omega)), (by first | rfl | (exfalso; omega)), (by first | rfl | (exfalso; omega))⟩
    · have c13 := zz_nle c13
      refine zz_ok_some ?_
      show zz_RE (("java/lang/IllegalArgumentException")) p1.toInt p2.toInt (0 : Int32).toInt s1.toInt (s5) ∧ s0 = s0 ∧ s1 = s1 ∧ s2 = s2 ∧ s3 = s3 ∧ s4 = s4 ∧ s5 = s5 ∧ s6 = s6 ∧ s7 = s7 ∧ s8 = s8 ∧ s9 = s9 ∧ s14 = s14
      exact ⟨(by first | exact Or.inl ⟨rfl, by omega⟩ | exact zz_RE_n (by assumption) (by omega) (by omega) (by omega) rfl (by omega) | exact zz_RE_y (by assumption) (by omega) (by omega) (by omega) rfl (by omega) (by omega) (by first | exact Or.inl ⟨by omega, rfl⟩ | exact Or.inr ⟨by omega, rfl⟩)), (by first | rfl | (exfalso; omega)), (by first | rfl | (exfalso; omega)), (by first | rfl | (exfalso; omega)), (by first | rfl | (exfalso; omega)), (by first | rfl | (exfalso; omega)), (by first | rfl | (exfalso; omega)), (by first | rfl | (exfalso; omega)), (by first | rfl | (exfalso; omega)), (by first | rfl | (exfalso; omega)), (by first | rfl | (exfalso; omega)), (by first | rfl | (exfalso; omega))⟩
set_option maxHeartbeats 4000000 in
theorem gg_X11_list_X2 (K : Nat) (hK : 1099511627776 ≤ K) (T : Nat) (hT : T ≤ 900) (n0 : Nat) (n1 : Nat) (n2 : Nat) (n3 : Nat) (n4 : Nat) (n5 : Nat) (n6 : Nat) (p1 : Int32) (p2 : Int32) (s0 : Int32) (s1 : Int32) (s2 : Int32) (s3 : Int32) (s4 : Int32) (s5 : Nat → Int32) (s6 : Nat → Int32) (s7 : Nat → Int32) (s8 : Nat → Int32) (s9 : Nat → Int32) (s10 : Int32) (s11 : Int32) (s12 : Nat → Int32) (s13 : Nat → Int32) (s14 : Int32) (a0 : n0 = 1024) (a1 : n1 = 200) (a2 : n2 = 200) (a3 : n3 = 200) (a4 : n4 = 200) (a5 : n5 = 512) (a6 : n6 = 512) (a7 : 16 ≤ s1.toInt) (a8 : s1.toInt ≤ 1024) (a9 : 0 ≤ s2.toInt) (a10 : s2.toInt ≤ 200) (a11 : zz_vs s1.toInt (s7) (s8) s2.toInt) (a12 : 0 ≤ s3.toInt) (a13 : s3.toInt ≤ 100000) (a14 : s0.toInt ≠ 7) : zz_ok (m_X11_list_X2 K n0 n1 n2 n3 n4 n5 n6 p1 p2 s0 s1 s2 s3 s4 s5 s6 s7 s8 s9 s10 s11 s12 s13 s14) (fun z => z.2.2.1 = s0 ∧ z.2.2.2.1 = s1 ∧ z.2.2.2.2.1 = s2 ∧ z.2.2.2.2.2.1 = s3 ∧ z.2.2.2.2.2.2.1 = s4 ∧ z.2.2.2.2.2.2.2.1 = s5 ∧ z.2.2.2.2.2.2.2.2.1 = s6 ∧ z.2.2.2.2.2.2.2.2.2.1 = s7 ∧ z.2.2.2.2.2.2.2.2.2.2.1 = s8 ∧ z.2.2.2.2.2.2.2.2.2.2.2.1 = s9 ∧ z.2.2.2.2.2.2.2.2.2.2.2.2.1 = s10 ∧ z.2.2.2.2.2.2.2.2.2.2.2.2.2.1 = s11 ∧ z.2.2.2.2.2.2.2.2.2.2.2.2.2.2.1 = s12 ∧ z.2.2.2.2.2.2.2.2.2.2.2.2.2.2.2.1 = s13 ∧ z.2.2.2.2.2.2.2.2.2.2.2.2.2.2.2.2 = s14) := by
  have g1 := zz_rg p1
  have g2 := zz_rg p2
  have g3 := zz_rg s0
  have g4 := zz_rg s1
  have g5 := zz_rg s2
  have g6 := zz_rg s3
  have g7 := zz_rg s4
  have g8 := zz_rg s10
  have g9 := zz_rg s11
  have g10 := zz_rg s14
  unfold m_X11_list_X2
  have l12 : (0 : Int32).toInt = 0 := rfl
  refine zz_ok_ite (fun c11 => ?_) (fun c11 => ?_)
  · have c11 := Int32.lt_iff_toInt_lt.mp c11
    refine zz_ok_some ?_
    show s0 = s0 ∧ s1 = s1 ∧ s2 = s2 ∧ s3 = s3 ∧ s4 = s4 ∧ s5 = s5 ∧ s6 = s6 ∧ s7 = s7 ∧ s8 = s8 ∧ s9 = s9 ∧ s10 = s10 ∧ s11 = s11 ∧ s12 = s12 ∧ s13 = s13 ∧ s14 = s14
    exact ⟨rfl, rfl, rfl, rfl, rfl, rfl, rfl, rfl, rfl, rfl, rfl, rfl, rfl, rfl, rfl⟩
  · have c11 := zz_nlt c11
    have l14 : (44 : Int32).toInt = 44 := rfl
    refine zz_ok_ite (fun c13 => ?_) (fun c13 => ?_)
    · have c13 := Int32.lt_iff_toInt_lt.mp c13
      refine zz_ok_bind (gg_X11_needRoom_X2 K hK T hT n0 n1 n2 n3 n4 n5 n6 s0 s1 s2 s3 s4 s5 s6 s7 s8 s9 s10 s11 s12 s13 s14) ?_
      intro z15 hz15
      obtain ⟨e_3, t_3_0, t_3_1, t_3_2, t_3_3, t_3_4, t_3_5, t_3_6, t_3_7, t_3_8, t_3_9, t_3_10, t_3_11, t_3_12, t_3_13, t_3_14⟩ := z15
      have q16 : zz_em e_3 := hz15.1
      have q17 : t_3_0 = s0 := hz15.2.1
      have q18 : t_3_1 = s1 := hz15.2.2.1
      have q19 : t_3_2 = s2 := hz15.2.2.2.1
      have q20 : t_3_3 = s3 := hz15.2.2.2.2.1
      have q21 : t_3_4 = s4 := hz15.2.2.2.2.2.1
      have q22 : t_3_5 = s5 := hz15.2.2.2.2.2.2.1
      have q23 : t_3_6 = s6 := hz15.2.2.2.2.2.2.2.1
      have q24 : t_3_7 = s7 := hz15.2.2.2.2.2.2.2.2.1
      have q25 : t_3_8 = s8 := hz15.2.2.2.2.2.2.2.2.2.1
      have q26 : t_3_9 = s9 := hz15.2.2.2.2.2.2.2.2.2.2.1
      have q27 : t_3_10 = s10 := hz15.2.2.2.2.2.2.2.2.2.2.2.1
      have q28 : t_3_11 = s11 := hz15.2.2.2.2.2.2.2.2.2.2.2.2.1
      have q29 : t_3_12 = s12 := hz15.2.2.2.2.2.2.2.2.2.2.2.2.2.1
      have q30 : t_3_13 = s13 := hz15.2.2.2.2.2.2.2.2.2.2.2.2.2.2.1
      have q31 : t_3_14 = s14 := hz15.2.2.2.2.2.2.2.2.2.2.2.2.2.2.2
      clear hz15
      have e32 : s0 = t_3_0 := q17.symm
      subst e32
      have e33 : s1 = t_3_1 := q18.symm
      subst e33
      have e34 : s2 = t_3_2 := q19.symm
      subst e34
      have e35 : s3 = t_3_3 := q20.symm
      subst e35
      have e36 : s4 = t_3_4 := q21.symm
      subst e36
      have e37 : s5 = t_3_5 := q22.symm
      subst e37
      have e38 : s6 = t_3_6 := q23.symm
      subst e38
      have e39 : s7 = t_3_7 := q24.symm
      subst e39
      have e40 : s8 = t_3_8 := q25.symm
      subst e40
      have e41 : s9 = t_3_9 := q26.symm
      subst e41
      have e42 : s10 = t_3_10 := q27.symm
      subst e42
      have e43 : s11 = t_3_11 := q28.symm
      subst e43
      have e44 : s12 = t_3_12 := q29.symm
      subst e44
      have e45 : s13 = t_3_13 := q30.symm
      subst e45
      have e46 : s14 = t_3_14 := q31.symm
      subst e46
      show zz_ok (if e_3 = "" then (if s0 = ((7 : Int32)) then ((m_X1_placeInList K p1 p2).bind fun ⟨r_5, _⟩ => if r_5 = ((-1 : Int32)) then (some ("java/lang/IndexOutOfBoundsException", 0, s0, s1, s2, s3, s4, s5, s6, s7, s8, s9, s10, s11, s12, s13, s14)) else (some ("", r_5, s0, s1, s2, s3, s4, s5, s6, s7, s8, s9, s10, s11, s12, s13, s14))) else (some ("java/lang/UnsupportedOperationException", 0, s0, s1, s2, s3, s4, s5, s6, s7, s8, s9, s10, s11, s12, s13, s14))) else (some (e_3, 0, s0, s1, s2, s3, s4, s5, s6, s7, s8, s9, s10, s11, s12, s13, s14))) _
      refine zz_ok_ite (fun c47 => ?_) (fun c47 => absurd q16 c47)
      have l49 : (7 : Int32).toInt = 7 := rfl
      refine zz_ok_ite (fun c48 => ?_) (fun c48 => ?_)
      · have c48 := congrArg Int32.toInt c48
        refine zz_ok_bind (ff_X1_placeInList K hK T hT p1 p2) ?_
        intro z50 hz50
        obtain ⟨r_5, _⟩ := z50
        clear hz50
        have g51 := zz_rg r_5
        show zz_ok (if r_5 = ((-1 : Int32)) then (some ("java/lang/IndexOutOfBoundsException", 0, s0, s1, s2, s3, s4, s5, s6, s7, s8, s9, s10, s11, s12, s13, s14)) else (some ("", r_5, s0, s1, s2, s3, s4, s5, s6, s7, s8, s9, s10, s11, s12, s13, s14))) _
        have l53 : (-1 : Int32).toInt = -1 := rfl
        refine zz_ok_ite (fun c52 => ?_) (fun c52 => ?_)
        · have c52 := congrArg Int32.toInt c52
          refine zz_ok_some ?_
          show s0 = s0 ∧ s1 = s1 ∧ s2 = s2 ∧ s3 = s3 ∧ s4 = s4 ∧ s5 = s5 ∧ s6 = s6 ∧ s7 = s7 ∧ s8 = s8 ∧ s9 = s9 ∧ s10 = s10 ∧ s11 = s11 ∧ s12 = s12 ∧ s13 = s13 ∧ s14 = s14
          exact ⟨rfl, rfl, rfl, rfl, rfl, rfl, rfl, rfl, rfl, rfl, rfl, rfl, rfl, rfl, rfl⟩
        · have c52 := zz_neq c52
          refine zz_ok_some ?_
          show s0 = s0 ∧ s1 = s1 ∧ s2 = s2 ∧ s3 = s3 ∧ s4 = s4 ∧ s5 = s5 ∧ s6 = s6 ∧ s7 = s7 ∧ s8 = s8 ∧ s9 = s9 ∧ s10 = s10 ∧ s11 = s11 ∧ s12 = s12 ∧ s13 = s13 ∧ s14 = s14
          exact ⟨rfl, rfl, rfl, rfl, rfl, rfl, rfl, rfl, rfl, rfl, rfl, rfl, rfl, rfl, rfl⟩
      · have c48 := zz_neq c48
        refine zz_ok_some ?_
        show s0 = s0 ∧ s1 = s1 ∧ s2 = s2 ∧ s3 = s3 ∧ s4 = s4 ∧ s5 = s5 ∧ s6 = s6 ∧ s7 = s7 ∧ s8 = s8 ∧ s9 = s9 ∧ s10 = s10 ∧ s11 = s11 ∧ s12 = s12 ∧ s13 = s13 ∧ s14 = s14
        exact ⟨rfl, rfl, rfl, rfl, rfl, rfl, rfl, rfl, rfl, rfl, rfl, rfl, rfl, rfl, rfl⟩
    · have c13 := zz_nlt c13
      refine zz_ok_some ?_
      show s0 = s0 ∧ s1 = s1 ∧ s2 = s2 ∧ s3 = s3 ∧ s4 = s4 ∧ s5 = s5 ∧ s6 = s6 ∧ s7 = s7 ∧ s8 = s8 ∧ s9 = s9 ∧ s10 = s10 ∧ s11 = s11 ∧ s12 = s12 ∧ s13 = s13 ∧ s14 = s14
      exact ⟨rfl, rfl, rfl, rfl, rfl, rfl, rfl, rfl, rfl, rfl, rfl, rfl, rfl, rfl, rfl⟩
set_option maxHeartbeats 4000000 in
theorem gg_X11_countInForm_X2 (K : Nat) (hK : 1099511627776 ≤ K) (T : Nat) (hT : T ≤ 900) (n0 : Nat) (n1 : Nat) (n2 : Nat) (n3 : Nat) (n4 : Nat) (n5 : Nat) (n6 : Nat) (p1 : Int32) (s0 : Int32) (s1 : Int32) (s2 : Int32) (s3 : Int32) (s4 : Int32) (s5 : Nat → Int32) (s6 : Nat → Int32) (s7 : Nat → Int32) (s8 : Nat → Int32) (s9 : Nat → Int32) (s10 : Int32) (s11 : Int32) (s12 : Nat → Int32) (s13 : Nat → Int32) (s14 : Int32) (a0 : n0 = 1024) (a1 : n1 = 200) (a2 : n2 = 200) (a3 : n3 = 200) (a4 : n4 = 200) (a5 : n5 = 512) (a6 : n6 = 512) (a7 : 16 ≤ s1.toInt) (a8 : s1.toInt ≤ 1024) (a9 : 0 ≤ s2.toInt) (a10 : s2.toInt ≤ 200) (a11 : zz_vs s1.toInt (s7) (s8) s2.toInt) (a12 : 0 ≤ s3.toInt) (a13 : s3.toInt ≤ 100000) (a14 : 0 ≤ s14.toInt) (a15 : 4 * s14.toInt ≤ s1.toInt) : zz_ok (m_X11_countInForm_X2 K n0 n1 n2 n3 n4 n5 n6 p1 s0 s1 s2 s3 s4 s5 s6 s7 s8 s9 s10 s11 s12 s13 s14) (fun z => zz_em z.1 ∧ z.2.2.1 = s0 ∧ z.2.2.2.1 = s1 ∧ z.2.2.2.2.1 = s2 ∧ z.2.2.2.2.2.1 = s3 ∧ z.2.2.2.2.2.2.1 = s4 ∧ z.2.2.2.2.2.2.2.1 = s5 ∧ z.2.2.2.2.2.2.2.2.1 = s6 ∧ z.2.2.2.2.2.2.2.2.2.1 = s7 ∧ z.2.2.2.2.2.2.2.2.2.2.1 = s8 ∧ z.2.2.2.2.2.2.2.2.2.2.2.1 = s9 ∧ z.2.2.2.2.2.2.2.2.2.2.2.2.1 = s10 ∧ z.2.2.2.2.2.2.2.2.2.2.2.2.2.1 = s11 ∧ z.2.2.2.2.2.2.2.2.2.2.2.2.2.2.1 = s12 ∧ z.2.2.2.2.2.2.2.2.2.2.2.2.2.2.2.1 = s13 ∧ z.2.2.2.2.2.2.2.2.2.2.2.2.2.2.2.2 = s14) := by
  have g1 := zz_rg p1
  have g2 := zz_rg s0
  have g3 := zz_rg s1
  have g4 := zz_rg s2
  have g5 := zz_rg s3
  have g6 := zz_rg s4
  have g7 := zz_rg s10
  have g8 := zz_rg s11
  have g9 := zz_rg s14
  unfold m_X11_countInForm_X2
  have l11 : (9 : Int32).toInt = 9 := rfl
  refine zz_ok_ite (fun c10 => ?_) (fun c10 => ?_)
  · have c10 := congrArg Int32.toInt c10
    refine zz_ok_bind (ff_X1_quickOnes K hK T hT) ?_
    intro z12 hz12
    obtain ⟨r_2, _⟩ := z12
    clear hz12
    have g13 := zz_rg r_2
    show zz_ok (some ("", r_2, s0, s1, s2, s3, s4, s5, s6, s7, s8, s9, s10, s11, s12, s13, s14)) _
    refine zz_ok_some ?_
    show zz_em ("") ∧ s0 = s0 ∧ s1 = s1 ∧ s2 = s2 ∧ s3 = s3 ∧ s4 = s4 ∧ s5 = s5 ∧ s6 = s6 ∧ s7 = s7 ∧ s8 = s8 ∧ s9 = s9 ∧ s10 = s10 ∧ s11 = s11 ∧ s12 = s12 ∧ s13 = s13 ∧ s14 = s14
    exact ⟨(by exact rfl), rfl, rfl, rfl, rfl, rfl, rfl, rfl, rfl, rfl, rfl, rfl, rfl, rfl, rfl, rfl⟩
  · have c10 := zz_neq c10
    have l15 : (10 : Int32).toInt = 10 := rfl
    refine zz_ok_ite (fun c14 => ?_) (fun c14 => ?_)
    · have c14 := congrArg Int32.toInt c14
      refine zz_ok_bind (ff_X1_freeParts K hK T hT) ?_
      intro z16 hz16
      obtain ⟨r_4, _⟩ := z16
      clear hz16
      have g17 := zz_rg r_4
      show zz_ok (some ("", r_4, s0, s1, s2, s3, s4, s5, s6, s7, s8, s9, s10, s11, s12, s13, s14)) _
      refine zz_ok_some ?_
      show zz_em ("") ∧ s0 = s0 ∧ s1 = s1 ∧ s2 = s2 ∧ s3 = s3 ∧ s4 = s4 ∧ s5 = s5 ∧ s6 = s6 ∧ s7 = s7 ∧ s8 = s8 ∧ s9 = s9 ∧ s10 = s10 ∧ s11 = s11 ∧ s12 = s12 ∧ s13 = s13 ∧ s14 = s14
      exact ⟨(by exact rfl), rfl, rfl, rfl, rfl, rfl, rfl, rfl, rfl, rfl, rfl, rfl, rfl, rfl, rfl, rfl⟩
    · have c14 := zz_neq c14
      refine zz_ok_bind (ff_X1_top K hK T hT) ?_
      intro z18 hz18
      obtain ⟨r_5, _⟩ := z18
      clear hz18
      have g19 := zz_rg r_5
      show zz_ok (some ("", r_5, s0, s1, s2, s3, s4, s5, s6, s7, s8, s9, s10, s11, s12, s13, s14)) _
      refine zz_ok_some ?_
      show zz_em ("") ∧ s0 = s0 ∧ s1 = s1 ∧ s2 = s2 ∧ s3 = s3 ∧ s4 = s4 ∧ s5 = s5 ∧ s6 = s6 ∧ s7 = s7 ∧ s8 = s8 ∧ s9 = s9 ∧ s10 = s10 ∧ s11 = s11 ∧ s12 = s12 ∧ s13 = s13 ∧ s14 = s14
      exact ⟨(by exact rfl), rfl, rfl, rfl, rfl, rfl, rfl, rfl, rfl, rfl, rfl, rfl, rfl, rfl, rfl, rfl⟩
set_option maxHeartbeats 4000000 in
theorem gg_X11_countInRoom_X2 (K : Nat) (hK : 1099511627776 ≤ K) (T : Nat) (hT : T ≤ 900) (n0 : Nat) (n1 : Nat) (n2 : Nat) (n3 : Nat) (n4 : Nat) (n5 : Nat) (n6 : Nat) (p1 : Int32) (s0 : Int32) (s1 : Int32) (s2 : Int32) (s3 : Int32) (s4 : Int32) (s5 : Nat → Int32) (s6 : Nat → Int32) (s7 : Nat → Int32) (s8 : Nat → Int32) (s9 : Nat → Int32) (s10 : Int32) (s11 : Int32) (s12 : Nat → Int32) (s13 : Nat → Int32) (s14 : Int32) (a0 : n0 = 1024) (a1 : n1 = 200) (a2 : n2 = 200) (a3 : n3 = 200) (a4 : n4 = 200) (a5 : n5 = 512) (a6 : n6 = 512) (a7 : 16 ≤ s1.toInt) (a8 : s1.toInt ≤ 1024) (a9 : 0 ≤ s2.toInt) (a10 : s2.toInt ≤ 200) (a11 : zz_vs s1.toInt (s7) (s8) s2.toInt) (a12 : 0 ≤ s3.toInt) (a13 : s3.toInt ≤ 100000) (a14 : 0 ≤ s14.toInt) (a15 : 4 * s14.toInt ≤ s1.toInt) : zz_ok (m_X11_countInRoom_X2 K n0 n1 n2 n3 n4 n5 n6 p1 s0 s1 s2 s3 s4 s5 s6 s7 s8 s9 s10 s11 s12 s13 s14) (fun z => zz_em z.1 ∧ z.2.2.1 = s0 ∧ z.2.2.2.1 = s1 ∧ z.2.2.2.2.1 = s2 ∧ z.2.2.2.2.2.1 = s3 ∧ z.2.2.2.2.2.2.1 = s4 ∧ z.2.2.2.2.2.2.2.1 = s5 ∧ z.2.2.2.2.2.2.2.2.1 = s6 ∧ z.2.2.2.2.2.2.2.2.2.1 = s7 ∧ z.2.2.2.2.2.2.2.2.2.2.1 = s8 ∧ z.2.2.2.2.2.2.2.2.2.2.2.1 = s9 ∧ z.2.2.2.2.2.2.2.2.2.2.2.2.2.2.2.2 = s14) := by
  have g1 := zz_rg p1
  have g2 := zz_rg s0
  have g3 := zz_rg s1
  have g4 := zz_rg s2
  have g5 := zz_rg s3
  have g6 := zz_rg s4
  have g7 := zz_rg s10
  have g8 := zz_rg s11
  have g9 := zz_rg s14
  unfold m_X11_countInRoom_X2
  have l11 : (1 : Int32).toInt = 1 := rfl
  refine zz_ok_ite (fun c10 => ?_) (fun c10 => ?_)
  · have c10 := congrArg Int32.toInt c10
    refine zz_ok_bind (ff_X7_words K hK T hT n0 n1 n2 n3 n4 n5 n6 s1 s2 s3 s4 s5 s6 s7 s8 s9 s10 s11 s12 s13) ?_
    intro z12 hz12
    obtain ⟨r_2, t_2_0, t_2_1, t_2_2, t_2_3, t_2_4, t_2_5, t_2_6, t_2_7, t_2_8, t_2_9, t_2_10, t_2_11, t_2_12⟩ := z12
    have q13 : r_2 = s1 := hz12.1
    have q14 : t_2_0 = s1 := hz12.2.1
    have q15 : t_2_1 = s2 := hz12.2.2.1
    have q16 : t_2_2 = s3 := hz12.2.2.2.1
    have q17 : t_2_3 = s4 := hz12.2.2.2.2.1
    have q18 : t_2_4 = s5 := hz12.2.2.2.2.2.1
    have q19 : t_2_5 = s6 := hz12.2.2.2.2.2.2.1
    have q20 : t_2_6 = s7 := hz12.2.2.2.2.2.2.2.1
    have q21 : t_2_7 = s8 := hz12.2.2.2.2.2.2.2.2.1
    have q22 : t_2_8 = s9 := hz12.2.2.2.2.2.2.2.2.2.1
    have q23 : t_2_9 = s10 := hz12.2.2.2.2.2.2.2.2.2.2.1
    have q24 : t_2_10 = s11 := hz12.2.2.2.2.2.2.2.2.2.2.2.1
    have q25 : t_2_11 = s12 := hz12.2.2.2.2.2.2.2.2.2.2.2.2.1
    have q26 : t_2_12 = s13 := hz12.2.2.2.2.2.2.2.2.2.2.2.2.2
    clear hz12
    have e27 : s1 = r_2 := q13.symm
    subst e27
    have e28 : s1 = t_2_0 := q14.symm
    subst e28
    have e29 : s2 = t_2_1 := q15.symm
    subst e29
    have e30 : s3 = t_2_2 := q16.symm
    subst e30
    have e31 : s4 = t_2_3 := q17.symm
    subst e31
    have e32 : s5 = t_2_4 := q18.symm
    subst e32
    have e33 : s6 = t_2_5 := q19.symm
    subst e33
    have e34 : s7 = t_2_6 := q20.symm
    subst e34
    have e35 : s8 = t_2_7 := q21.symm
    subst e35
    have e36 : s9 = t_2_8 := q22.symm
    subst e36
    have e37 : s10 = t_2_9 := q23.symm
    subst e37
    have e38 : s11 = t_2_10 := q24.symm
    subst e38
    have e39 : s12 = t_2_11 := q25.symm
    subst e39
    have e40 : s13 = t_2_12 := q26.symm
    subst e40
    show zz_ok (some ("", s1, s0, s1, s2, s3, s4, s5, s6, s7, s8, s9, s10, s11, s12, s13, s14)) _
    refine zz_ok_some ?_
    show zz_em ("") ∧ s0 = s0 ∧ s1 = s1 ∧ s2 = s2 ∧ s3 = s3 ∧ s4 = s4 ∧ s5 = s5 ∧ s6 = s6 ∧ s7 = s7 ∧ s8 = s8 ∧ s9 = s9 ∧ s14 = s14
    exact ⟨(by exact rfl), rfl, rfl, rfl, rfl, rfl, rfl, rfl, rfl, rfl, rfl, rfl⟩
  · have c10 := zz_neq c10
    have l42 : (2 : Int32).toInt = 2 := rfl
    refine zz_ok_ite (fun c41 => ?_) (fun c41 => ?_)
    · have c41 := congrArg Int32.toInt c41
      refine zz_ok_bind (ff_X7_blocks K hK T hT n0 n1 n2 n3 n4 n5 n6 s1 s2 s3 s4 s5 s6 s7 s8 s9 s10 s11 s12 s13) ?_
      intro z43 hz43
      obtain ⟨r_4, t_4_0, t_4_1, t_4_2, t_4_3, t_4_4, t_4_5, t_4_6, t_4_7, t_4_8, t_4_9, t_4_10, t_4_11, t_4_12⟩ := z43
      have q44 : r_4 = s2 := hz43.1
      have q45 : t_4_0 = s1 := hz43.2.1
      have q46 : t_4_1 = s2 := hz43.2.2.1
      have q47 : t_4_2 = s3 := hz43.2.2.2.1
      have q48 : t_4_3 = s4 := hz43.2.2.2.2.1
      have q49 : t_4_4 = s5 := hz43.2.2.2.2.2.1
      have q50 : t_4_5 = s6 := hz43.2.2.2.2.2.2.1
      have q51 : t_4_6 = s7 := hz43.2.2.2.2.2.2.2.1
      have q52 : t_4_7 = s8 := hz43.2.2.2.2.2.2.2.2.1
      have q53 : t_4_8 = s9 := hz43.2.2.2.2.2.2.2.2.2.1
      have q54 : t_4_9 = s10 := hz43.2.2.2.2.2.2.2.2.2.2.1
      have q55 : t_4_10 = s11 := hz43.2.2.2.2.2.2.2.2.2.2.2.1
      have q56 : t_4_11 = s12 := hz43.2.2.2.2.2.2.2.2.2.2.2.2.1
      have q57 : t_4_12 = s13 := hz43.2.2.2.2.2.2.2.2.2.2.2.2.2
      clear hz43
      have e58 : s2 = r_4 := q44.symm
      subst e58
      have e59 : s1 = t_4_0 := q45.symm
      subst e59
      have e60 : s2 = t_4_1 := q46.symm
      subst e60
      have e61 : s3 = t_4_2 := q47.symm
      subst e61
      have e62 : s4 = t_4_3 := q48.symm
      subst e62
      have e63 : s5 = t_4_4 := q49.symm
      subst e63
      have e64 : s6 = t_4_5 := q50.symm
      subst e64
      have e65 : s7 = t_4_6 := q51.symm
      subst e65
      have e66 : s8 = t_4_7 := q52.symm
      subst e66
      have e67 : s9 = t_4_8 := q53.symm
      subst e67
      have e68 : s10 = t_4_9 := q54.symm
      subst e68
      have e69 : s11 = t_4_10 := q55.symm
      subst e69
      have e70 : s12 = t_4_11 := q56.symm
      subst e70
      have e71 : s13 = t_4_12 := q57.symm
      subst e71
      show zz_ok (some ("", s2, s0, s1, s2, s3, s4, s5, s6, s7, s8, s9, s10, s11, s12, s13, s14)) _
      refine zz_ok_some ?_
      show zz_em ("") ∧ s0 = s0 ∧ s1 = s1 ∧ s2 = s2 ∧ s3 = s3 ∧ s4 = s4 ∧ s5 = s5 ∧ s6 = s6 ∧ s7 = s7 ∧ s8 = s8 ∧ s9 = s9 ∧ s14 = s14
      exact ⟨(by exact rfl), rfl, rfl, rfl, rfl, rfl, rfl, rfl, rfl, rfl, rfl, rfl⟩
    · have c41 := zz_neq c41
      have l73 : (3 : Int32).toInt = 3 := rfl
      refine zz_ok_ite (fun c72 => ?_) (fun c72 => ?_)
      · have c72 := congrArg Int32.toInt c72
        refine zz_ok_bind (ff_X7_given K hK T hT n0 n1 n2 n3 n4 n5 n6 s1 s2 s3 s4 s5 s6 s7 s8 s9 s10 s11 s12 s13) ?_
        intro z74 hz74
        obtain ⟨r_6, t_6_0, t_6_1, t_6_2, t_6_3, t_6_4, t_6_5, t_6_6, t_6_7, t_6_8, t_6_9, t_6_10, t_6_11, t_6_12⟩ := z74
        have q75 : r_6 = s3 := hz74.1
        have q76 : t_6_0 = s1 := hz74.2.1
        have q77 : t_6_1 = s2 := hz74.2.2.1
        have q78 : t_6_2 = s3 := hz74.2.2.2.1
        have q79 : t_6_3 = s4 := hz74.2.2.2.2.1
        have q80 : t_6_4 = s5 := hz74.2.2.2.2.2.1
        have q81 : t_6_5 = s6 := hz74.2.2.2.2.2.2.1
        have q82 : t_6_6 = s7 := hz74.2.2.2.2.2.2.2.1
        have q83 : t_6_7 = s8 := hz74.2.2.2.2.2.2.2.2.1
        have q84 : t_6_8 = s9 := hz74.2.2.2.2.2.2.2.2.2.1
        have q85 : t_6_9 = s10 := hz74.2.2.2.2.2.2.2.2.2.2.1
        have q86 : t_6_10 = s11 := hz74.2.2.2.2.2.2.2.2.2.2.2.1
        have q87 : t_6_11 = s12 := hz74.2.2.2.2.2.2.2.2.2.2.2.2.1
        have q88 : t_6_12 = s13 := hz74.2.2.2.2.2.2.2.2.2.2.2.2.2
        clear hz74
        have e89 : s3 = r_6 := q75.symm
        subst e89
        have e90 : s1 = t_6_0 := q76.symm
        subst e90
        have e91 : s2 = t_6_1 := q77.symm
        subst e91
        have e92 : s3 = t_6_2 := q78.symm
        subst e92
        have e93 : s4 = t_6_3 := q79.symm
        subst e93
        have e94 : s5 = t_6_4 := q80.symm
        subst e94
        have e95 : s6 = t_6_5 := q81.symm
        subst e95
        have e96 : s7 = t_6_6 := q82.symm
        subst e96
        have e97 : s8 = t_6_7 := q83.symm
        subst e97
        have e98 : s9 = t_6_8 := q84.symm
        subst e98
        have e99 : s10 = t_6_9 := q85.symm
        subst e99
        have e100 : s11 = t_6_10 := q86.symm
        subst e100
        have e101 : s12 = t_6_11 := q87.symm
        subst e101
        have e102 : s13 = t_6_12 := q88.symm
        subst e102
        show zz_ok (some ("", s3, s0, s1, s2, s3, s4, s5, s6, s7, s8, s9, s10, s11, s12, s13, s14)) _
        refine zz_ok_some ?_
        show zz_em ("") ∧ s0 = s0 ∧ s1 = s1 ∧ s2 = s2 ∧ s3 = s3 ∧ s4 = s4 ∧ s5 = s5 ∧ s6 = s6 ∧ s7 = s7 ∧ s8 = s8 ∧ s9 = s9 ∧ s14 = s14
        exact ⟨(by exact rfl), rfl, rfl, rfl, rfl, rfl, rfl, rfl, rfl, rfl, rfl, rfl⟩
      · have c72 := zz_neq c72
        have l104 : (4 : Int32).toInt = 4 := rfl
        refine zz_ok_ite (fun c103 => ?_) (fun c103 => ?_)
        · have c103 := congrArg Int32.toInt c103
          refine zz_ok_bind (ff_X7_askedTogether K hK T hT n0 n1 n2 n3 n4 n5 n6 s1 s2 s3 s4 s5 s6 s7 s8 s9 s10 s11 s12 s13 a0 a1 a2 a3 a4 a5 a6 a9 a10) ?_
          intro z105 hz105
          obtain ⟨r_8, t_8_0, t_8_1, t_8_2, t_8_3, t_8_4, t_8_5, t_8_6, t_8_7, t_8_8, t_8_9, t_8_10, t_8_11, t_8_12⟩ := z105
          have q106 : t_8_0 = s1 := hz105.1
          have q107 : t_8_1 = s2 := hz105.2.1
          have q108 : t_8_2 = s3 := hz105.2.2.1
          have q109 : t_8_3 = s4 := hz105.2.2.2.1
          have q110 : t_8_4 = s5 := hz105.2.2.2.2.1
          have q111 : t_8_5 = s6 := hz105.2.2.2.2.2.1
          have q112 : t_8_6 = s7 := hz105.2.2.2.2.2.2.1
          have q113 : t_8_7 = s8 := hz105.2.2.2.2.2.2.2.1
          have q114 : t_8_8 = s9 := hz105.2.2.2.2.2.2.2.2.1
          have q115 : t_8_9 = s10 := hz105.2.2.2.2.2.2.2.2.2.1
          have q116 : t_8_10 = s11 := hz105.2.2.2.2.2.2.2.2.2.2.1
          have q117 : t_8_11 = s12 := hz105.2.2.2.2.2.2.2.2.2.2.2.1
          have q118 : t_8_12 = s13 := hz105.2.2.2.2.2.2.2.2.2.2.2.2
          clear hz105
          have e119 : s1 = t_8_0 := q106.symm
          subst e119
          have e120 : s2 = t_8_1 := q107.symm
          subst e120
          have e121 : s3 = t_8_2 := q108.symm
          subst e121
          have e122 : s4 = t_8_3 := q109.symm
          subst e122
          have e123 : s5 = t_8_4 := q110.symm
          subst e123
          have e124 : s6 = t_8_5 := q111.symm
          subst e124
          have e125 : s7 = t_8_6 := q112.symm
          subst e125
          have e126 : s8 = t_8_7 := q113.symm
          subst e126
          have e127 : s9 = t_8_8 := q114.symm
          subst e127
          have e128 : s10 = t_8_9 := q115.symm
          subst e128
          have e129 : s11 = t_8_10 := q116.symm
          subst e129
          have e130 : s12 = t_8_11 := q117.symm
          subst e130
          have e131 : s13 = t_8_12 := q118.symm
          subst e131
          have g132 := zz_rg r_8
          show zz_ok (some ("", r_8, s0, s1, s2, s3, s4, s5, s6, s7, s8, s9, s10, s11, s12, s13, s14)) _
          refine zz_ok_some ?_
          show zz_em ("") ∧ s0 = s0 ∧ s1 = s1 ∧ s2 = s2 ∧ s3 = s3 ∧ s4 = s4 ∧ s5 = s5 ∧ s6 = s6 ∧ s7 = s7 ∧ s8 = s8 ∧ s9 = s9 ∧ s14 = s14
          exact ⟨(by exact rfl), rfl, rfl, rfl, rfl, rfl, rfl, rfl, rfl, rfl, rfl, rfl⟩
        · have c103 := zz_neq c103
          have l134 : (5 : Int32).toInt = 5 := rfl
          refine zz_ok_ite (fun c133 => ?_) (fun c133 => ?_)
          · have c133 := congrArg Int32.toInt c133
            refine zz_ok_bind (ff_X7_spansTogether K hK T hT n0 n1 n2 n3 n4 n5 n6 s1 s2 s3 s4 s5 s6 s7 s8 s9 s10 s11 s12 s13 a0 a1 a2 a3 a4 a5 a6 a9 a10) ?_
            intro z135 hz135
            obtain ⟨r_10, t_10_0, t_10_1, t_10_2, t_10_3, t_10_4, t_10_5, t_10_6, t_10_7, t_10_8, t_10_9, t_10_10, t_10_11, t_10_12⟩ := z135
            have q136 : t_10_0 = s1 := hz135.1
            have q137 : t_10_1 = s2 := hz135.2.1
            have q138 : t_10_2 = s3 := hz135.2.2.1
            have q139 : t_10_3 = s4 := hz135.2.2.2.1
            have q140 : t_10_4 = s5 := hz135.2.2.2.2.1
            have q141 : t_10_5 = s6 := hz135.2.2.2.2.2.1
            have q142 : t_10_6 = s7 := hz135.2.2.2.2.2.2.1
            have q143 : t_10_7 = s8 := hz135.2.2.2.2.2.2.2.1
            have q144 : t_10_8 = s9 := hz135.2.2.2.2.2.2.2.2.1
            have q145 : t_10_9 = s10 := hz135.2.2.2.2.2.2.2.2.2.1
            have q146 : t_10_10 = s11 := hz135.2.2.2.2.2.2.2.2.2.2.1
            have q147 : t_10_11 = s12 := hz135.2.2.2.2.2.2.2.2.2.2.2.1
            have q148 : t_10_12 = s13 := hz135.2.2.2.2.2.2.2.2.2.2.2.2
            clear hz135
            have e149 : s1 = t_10_0 := q136.symm
            subst e149
            have e150 : s2 = t_10_1 := q137.symm
            subst e150
            have e151 : s3 = t_10_2 := q138.symm
            subst e151
            have e152 : s4 = t_10_3 := q139.symm
            subst e152
            have e153 : s5 = t_10_4 := q140.symm
            subst e153
            have e154 : s6 = t_10_5 := q141.symm
            subst e154
            have e155 : s7 = t_10_6 := q142.symm
            subst e155
            have e156 : s8 = t_10_7 := q143.symm
            subst e156
            have e157 : s9 = t_10_8 := q144.symm
            subst e157
            have e158 : s10 = t_10_9 := q145.symm
            subst e158
            have e159 : s11 = t_10_10 := q146.symm
            subst e159
            have e160 : s12 = t_10_11 := q147.symm
            subst e160
            have e161 : s13 = t_10_12 := q148.symm
            subst e161
            have g162 := zz_rg r_10
            show zz_ok (some ("", r_10, s0, s1, s2, s3, s4, s5, s6, s7, s8, s9, s10, s11, s12, s13, s14)) _
            refine zz_ok_some ?_
            show zz_em ("") ∧ s0 = s0 ∧ s1 = s1 ∧ s2 = s2 ∧ s3 = s3 ∧ s4 = s4 ∧ s5 = s5 ∧ s6 = s6 ∧ s7 = s7 ∧ s8 = s8 ∧ s9 = s9 ∧ s14 = s14
            exact ⟨(by exact rfl), rfl, rfl, rfl, rfl, rfl, rfl, rfl, rfl, rfl, rfl, rfl⟩
          · have c133 := zz_neq c133
            have l164 : (6 : Int32).toInt = 6 := rfl
            refine zz_ok_ite (fun c163 => ?_) (fun c163 => ?_)
            · have c163 := congrArg Int32.toInt c163
              refine zz_ok_bind (ff_X7_listRuns K hK T hT n0 n1 n2 n3 n4 n5 n6 s1 s2 s3 s4 s5 s6 s7 s8 s9 s10 s11 s12 s13 a0 a1 a2 a3 a4 a5 a6 (by omega) a8) ?_
              intro z165 hz165
              obtain ⟨t_12_0, t_12_1, t_12_2, t_12_3, t_12_4, t_12_5, t_12_6, t_12_7, t_12_8, t_12_9, t_12_10, t_12_11, t_12_12⟩ := z165
              have q166 : zz_ru s1.toInt (s5) (t_12_11) (t_12_12) t_12_9.toInt := hz165.1
              have q167 : 0 ≤ t_12_9.toInt := hz165.2.1
              have q168 : t_12_9.toInt ≤ 512 := hz165.2.2.1
              have q169 : t_12_0 = s1 := hz165.2.2.2.1
              have q170 : t_12_1 = s2 := hz165.2.2.2.2.1
              have q171 : t_12_2 = s3 := hz165.2.2.2.2.2.1
              have q172 : t_12_3 = s4 := hz165.2.2.2.2.2.2.1
              have q173 : t_12_4 = s5 := hz165.2.2.2.2.2.2.2.1
              have q174 : t_12_5 = s6 := hz165.2.2.2.2.2.2.2.2.1
              have q175 : t_12_6 = s7 := hz165.2.2.2.2.2.2.2.2.2.1
              have q176 : t_12_7 = s8 := hz165.2.2.2.2.2.2.2.2.2.2.1
              have q177 : t_12_8 = s9 := hz165.2.2.2.2.2.2.2.2.2.2.2.1
              have q178 : t_12_10 = s11 := hz165.2.2.2.2.2.2.2.2.2.2.2.2
              clear hz165
              have e179 : s1 = t_12_0 := q169.symm
              subst e179
              have e180 : s2 = t_12_1 := q170.symm
              subst e180
              have e181 : s3 = t_12_2 := q171.symm
              subst e181
              have e182 : s4 = t_12_3 := q172.symm
              subst e182
              have e183 : s5 = t_12_4 := q173.symm
              subst e183
              have e184 : s6 = t_12_5 := q174.symm
              subst e184
              have e185 : s7 = t_12_6 := q175.symm
              subst e185
              have e186 : s8 = t_12_7 := q176.symm
              subst e186
              have e187 : s9 = t_12_8 := q177.symm
              subst e187
              have e188 : s11 = t_12_10 := q178.symm
              subst e188
              have g189 := zz_rg t_12_9
              show zz_ok ((m_X10_size K n5 n6 t_12_9 s11 t_12_11 t_12_12).bind fun ⟨r_13, t_13_0, t_13_1, t_13_2, t_13_3⟩ => some ("", r_13, s0, s1, s2, s3, s4, s5, s6, s7, s8, s9, t_13_0, t_13_1, t_13_2, t_13_3, s14)) _
              refine zz_ok_bind (ff_X10_size K hK T hT n5 n6 t_12_9 s11 t_12_11 t_12_12) ?_
              intro z190 hz190
              obtain ⟨r_13, t_13_0, t_13_1, t_13_2, t_13_3⟩ := z190
              have q191 : r_13 = t_12_9 := hz190.1
              have q192 : t_13_0 = t_12_9 := hz190.2.1
              have q193 : t_13_1 = s11 := hz190.2.2.1
              have q194 : t_13_2 = t_12_11 := hz190.2.2.2.1
              have q195 : t_13_3 = t_12_12 := hz190.2.2.2.2
              clear hz190
              have e196 : t_12_9 = r_13 := q191.symm
              subst e196
              have e197 : t_12_9 = t_13_0 := q192.symm
              subst e197
              have e198 : s11 = t_13_1 := q193.symm
              subst e198
              have e199 : t_12_11 = t_13_2 := q194.symm
              subst e199
              have e200 : t_12_12 = t_13_3 := q195.symm
              subst e200
              show zz_ok (some ("", t_12_9, s0, s1, s2, s3, s4, s5, s6, s7, s8, s9, t_12_9, s11, t_12_11, t_12_12, s14)) _
              refine zz_ok_some ?_
              show zz_em ("") ∧ s0 = s0 ∧ s1 = s1 ∧ s2 = s2 ∧ s3 = s3 ∧ s4 = s4 ∧ s5 = s5 ∧ s6 = s6 ∧ s7 = s7 ∧ s8 = s8 ∧ s9 = s9 ∧ s14 = s14
              exact ⟨(by exact rfl), rfl, rfl, rfl, rfl, rfl, rfl, rfl, rfl, rfl, rfl, rfl⟩
            · have c163 := zz_neq c163
              have l202 : (7 : Int32).toInt = 7 := rfl
              refine zz_ok_ite (fun c201 => ?_) (fun c201 => ?_)
              · have c201 := congrArg Int32.toInt c201
                refine zz_ok_bind (ff_X7_listRuns K hK T hT n0 n1 n2 n3 n4 n5 n6 s1 s2 s3 s4 s5 s6 s7 s8 s9 s10 s11 s12 s13 a0 a1 a2 a3 a4 a5 a6 (by omega) a8) ?_
                intro z203 hz203
                obtain ⟨t_15_0, t_15_1, t_15_2, t_15_3, t_15_4, t_15_5, t_15_6, t_15_7, t_15_8, t_15_9, t_15_10, t_15_11, t_15_12⟩ := z203
                have q204 : zz_ru s1.toInt (s5) (t_15_11) (t_15_12) t_15_9.toInt := hz203.1
                have q205 : 0 ≤ t_15_9.toInt := hz203.2.1
                have q206 : t_15_9.toInt ≤ 512 := hz203.2.2.1
                have q207 : t_15_0 = s1 := hz203.2.2.2.1
                have q208 : t_15_1 = s2 := hz203.2.2.2.2.1
                have q209 : t_15_2 = s3 := hz203.2.2.2.2.2.1
                have q210 : t_15_3 = s4 := hz203.2.2.2.2.2.2.1
                have q211 : t_15_4 = s5 := hz203.2.2.2.2.2.2.2.1
                have q212 : t_15_5 = s6 := hz203.2.2.2.2.2.2.2.2.1
                have q213 : t_15_6 = s7 := hz203.2.2.2.2.2.2.2.2.2.1
                have q214 : t_15_7 = s8 := hz203.2.2.2.2.2.2.2.2.2.2.1
                have q215 : t_15_8 = s9 := hz203.2.2.2.2.2.2.2.2.2.2.2.1
                have q216 : t_15_10 = s11 := hz203.2.2.2.2.2.2.2.2.2.2.2.2
                clear hz203
                have e217 : s1 = t_15_0 := q207.symm
                subst e217
                have e218 : s2 = t_15_1 := q208.symm
                subst e218
                have e219 : s3 = t_15_2 := q209.symm
                subst e219
                have e220 : s4 = t_15_3 := q210.symm
                subst e220
                have e221 : s5 = t_15_4 := q211.symm
                subst e221
                have e222 : s6 = t_15_5 := q212.symm
                subst e222
                have e223 : s7 = t_15_6 := q213.symm
                subst e223
                have e224 : s8 = t_15_7 := q214.symm
                subst e224
                have e225 : s9 = t_15_8 := q215.symm
                subst e225
                have e226 : s11 = t_15_10 := q216.symm
                subst e226
                have g227 := zz_rg t_15_9
                show zz_ok ((m_X10_mostWords K n5 n6 t_15_9 s11 t_15_11 t_15_12).bind fun ⟨r_16, t_16_0, t_16_1, t_16_2, t_16_3⟩ => some ("", r_16, s0, s1, s2, s3, s4, s5, s6, s7, s8, s9, t_16_0, t_16_1, t_16_2, t_16_3, s14)) _
                refine zz_ok_bind (ff_X10_mostWords K hK T hT n5 n6 t_15_9 s11 t_15_11 t_15_12 (by omega) (by omega) q205 (by omega)) ?_
                intro z228 hz228
                obtain ⟨r_16, t_16_0, t_16_1, t_16_2, t_16_3⟩ := z228
                have q229 : t_16_0 = t_15_9 := hz228.1
                have q230 : t_16_1 = s11 := hz228.2.1
                have q231 : t_16_2 = t_15_11 := hz228.2.2.1
                have q232 : t_16_3 = t_15_12 := hz228.2.2.2
                clear hz228
                have e233 : t_15_9 = t_16_0 := q229.symm
                subst e233
                have e234 : s11 = t_16_1 := q230.symm
                subst e234
                have e235 : t_15_11 = t_16_2 := q231.symm
                subst e235
                have e236 : t_15_12 = t_16_3 := q232.symm
                subst e236
                have g237 := zz_rg r_16
                show zz_ok (some ("", r_16, s0, s1, s2, s3, s4, s5, s6, s7, s8, s9, t_15_9, s11, t_15_11, t_15_12, s14)) _
                refine zz_ok_some ?_
                show zz_em ("") ∧ s0 = s0 ∧ s1 = s1 ∧ s2 = s2 ∧ s3 = s3 ∧ s4 = s4 ∧ s5 = s5 ∧ s6 = s6 ∧ s7 = s7 ∧ s8 = s8 ∧ s9 = s9 ∧ s14 = s14
                exact ⟨(by exact rfl), rfl, rfl, rfl, rfl, rfl, rfl, rfl, rfl, rfl, rfl, rfl⟩
              · have c201 := zz_neq c201
                refine zz_ok_bind (ff_X7_looked K hK T hT n0 n1 n2 n3 n4 n5 n6 s1 s2 s3 s4 s5 s6 s7 s8 s9 s10 s11 s12 s13) ?_
                intro z238 hz238
                obtain ⟨r_17, t_17_0, t_17_1, t_17_2, t_17_3, t_17_4, t_17_5, t_17_6, t_17_7, t_17_8, t_17_9, t_17_10, t_17_11, t_17_12⟩ := z238
                have q239 : r_17 = s4 := hz238.1
                have q240 : t_17_0 = s1 := hz238.2.1
                have q241 : t_17_1 = s2 := hz238.2.2.1
                have q242 : t_17_2 = s3 := hz238.2.2.2.1
                have q243 : t_17_3 = s4 := hz238.2.2.2.2.1
                have q244 : t_17_4 = s5 := hz238.2.2.2.2.2.1
                have q245 : t_17_5 = s6 := hz238.2.2.2.2.2.2.1
                have q246 : t_17_6 = s7 := hz238.2.2.2.2.2.2.2.1
                have q247 : t_17_7 = s8 := hz238.2.2.2.2.2.2.2.2.1
                have q248 : t_17_8 = s9 := hz238.2.2.2.2.2.2.2.2.2.1
                have q249 : t_17_9 = s10 := hz238.2.2.2.2.2.2.2.2.2.2.1
                have q250 : t_17_10 = s11 := hz238.2.2.2.2.2.2.2.2.2.2.2.1
                have q251 : t_17_11 = s12 := hz238.2.2.2.2.2.2.2.2.2.2.2.2.1
                have q252 : t_17_12 = s13 := hz238.2.2.2.2.2.2.2.2.2.2.2.2.2
                clear hz238
                have e253 : s4 = r_17 := q239.symm
                subst e253
                have e254 : s1 = t_17_0 := q240.symm
                subst e254
                have e255 : s2 = t_17_1 := q241.symm
                subst e255
                have e256 : s3 = t_17_2 := q242.symm
                subst e256
                have e257 : s4 = t_17_3 := q243.symm
                subst e257
                have e258 : s5 = t_17_4 := q244.symm
                subst e258
                have e259 : s6 = t_17_5 := q245.symm
                subst e259
                have e260 : s7 = t_17_6 := q246.symm
                subst e260
                have e261 : s8 = t_17_7 := q247.symm
                subst e261
                have e262 : s9 = t_17_8 := q248.symm
                subst e262
                have e263 : s10 = t_17_9 := q249.symm
                subst e263
                have e264 : s11 = t_17_10 := q250.symm
                subst e264
                have e265 : s12 = t_17_11 := q251.symm
                subst e265
                have e266 : s13 = t_17_12 := q252.symm
                subst e266
                show zz_ok (some ("", s4, s0, s1, s2, s3, s4, s5, s6, s7, s8, s9, s10, s11, s12, s13, s14)) _
                refine zz_ok_some ?_
                show zz_em ("") ∧ s0 = s0 ∧ s1 = s1 ∧ s2 = s2 ∧ s3 = s3 ∧ s4 = s4 ∧ s5 = s5 ∧ s6 = s6 ∧ s7 = s7 ∧ s8 = s8 ∧ s9 = s9 ∧ s14 = s14
                exact ⟨(by exact rfl), rfl, rfl, rfl, rfl, rfl, rfl, rfl, rfl, rfl, rfl, rfl⟩
set_option maxHeartbeats 4000000 in
theorem gg_X11_count_X2 (K : Nat) (hK : 1099511627776 ≤ K) (T : Nat) (hT : T ≤ 900) (n0 : Nat) (n1 : Nat) (n2 : Nat) (n3 : Nat) (n4 : Nat) (n5 : Nat) (n6 : Nat) (p1 : Int32) (s0 : Int32) (s1 : Int32) (s2 : Int32) (s3 : Int32) (s4 : Int32) (s5 : Nat → Int32) (s6 : Nat → Int32) (s7 : Nat → Int32) (s8 : Nat → Int32) (s9 : Nat → Int32) (s10 : Int32) (s11 : Int32) (s12 : Nat → Int32) (s13 : Nat → Int32) (s14 : Int32) (a0 : n0 = 1024) (a1 : n1 = 200) (a2 : n2 = 200) (a3 : n3 = 200) (a4 : n4 = 200) (a5 : n5 = 512) (a6 : n6 = 512) (a7 : 16 ≤ s1.toInt) (a8 : s1.toInt ≤ 1024) (a9 : 0 ≤ s2.toInt) (a10 : s2.toInt ≤ 200) (a11 : zz_vs s1.toInt (s7) (s8) s2.toInt) (a12 : 0 ≤ s3.toInt) (a13 : s3.toInt ≤ 100000) (a14 : 0 ≤ s14.toInt) (a15 : 4 * s14.toInt ≤ s1.toInt) (a16 : p1.toInt ≠ 12) : zz_ok (m_X11_count_X2 K n0 n1 n2 n3 n4 n5 n6 p1 s0 s1 s2 s3 s4 s5 s6 s7 s8 s9 s10 s11 s12 s13 s14) (fun z => z.2.2.1 = s0 ∧ z.2.2.2.1 = s1 ∧ z.2.2.2.2.1 = s2 ∧ z.2.2.2.2.2.1 = s3 ∧ z.2.2.2.2.2.2.1 = s4 ∧ z.2.2.2.2.2.2.2.1 = s5 ∧ z.2.2.2.2.2.2.2.2.1 = s6 ∧ z.2.2.2.2.2.2.2.2.2.1 = s7 ∧ z.2.2.2.2.2.2.2.2.2.2.1 = s8 ∧ z.2.2.2.2.2.2.2.2.2.2.2.1 = s9 ∧ z.2.2.2.2.2.2.2.2.2.2.2.2.2.2.2.2 = s14) := by
  have g1 := zz_rg p1
  have g2 := zz_rg s0
  have g3 := zz_rg s1
  have g4 := zz_rg s2
  have g5 := zz_rg s3
  have g6 := zz_rg s4
  have g7 := zz_rg s10
  have g8 := zz_rg s11
  have g9 := zz_rg s14
  unfold m_X11_count_X2
  have l11 : (0 : Int32).toInt = 0 := rfl
  refine zz_ok_ite (fun c10 => ?_) (fun c10 => ?_)
  · have c10 := Int32.lt_iff_toInt_lt.mp c10
    refine zz_ok_some ?_
    show s0 = s0 ∧ s1 = s1 ∧ s2 = s2 ∧ s3 = s3 ∧ s4 = s4 ∧ s5 = s5 ∧ s6 = s6 ∧ s7 = s7 ∧ s8 = s8 ∧ s9 = s9 ∧ s14 = s14
    exact ⟨rfl, rfl, rfl, rfl, rfl, rfl, rfl, rfl, rfl, rfl, rfl⟩
  · have c10 := zz_nlt c10
    have l13 : (13 : Int32).toInt = 13 := rfl
    refine zz_ok_ite (fun c12 => ?_) (fun c12 => ?_)
    · have c12 := Int32.lt_iff_toInt_lt.mp c12
      refine zz_ok_ite (fun c14 => ?_) (fun c14 => ?_)
      · have c14 := congrArg Int32.toInt c14
        refine zz_ok_some ?_
        show s0 = s0 ∧ s1 = s1 ∧ s2 = s2 ∧ s3 = s3 ∧ s4 = s4 ∧ s5 = s5 ∧ s6 = s6 ∧ s7 = s7 ∧ s8 = s8 ∧ s9 = s9 ∧ s14 = s14
        exact ⟨rfl, rfl, rfl, rfl, rfl, rfl, rfl, rfl, rfl, rfl, rfl⟩
      · have c14 := zz_neq c14
        have l16 : (12 : Int32).toInt = 12 := rfl
        refine zz_ok_ite (fun c15 => ?_) (fun c15 => ?_)
        · have c15 := congrArg Int32.toInt c15
          exfalso
          omega
        · have c15 := zz_neq c15
          have l18 : (8 : Int32).toInt = 8 := rfl
          refine zz_ok_ite (fun c17 => ?_) (fun c17 => ?_)
          · have c17 := Int32.lt_iff_toInt_lt.mp c17
            refine zz_ok_bind (gg_X11_countInForm_X2 K hK T hT n0 n1 n2 n3 n4 n5 n6 p1 s0 s1 s2 s3 s4 s5 s6 s7 s8 s9 s10 s11 s12 s13 s14 a0 a1 a2 a3 a4 a5 a6 a7 a8 a9 a10 a11 a12 a13 a14 a15) ?_
            intro z19 hz19
            obtain ⟨e_6, r_6, t_6_0, t_6_1, t_6_2, t_6_3, t_6_4, t_6_5, t_6_6, t_6_7, t_6_8, t_6_9, t_6_10, t_6_11, t_6_12, t_6_13, t_6_14⟩ := z19
            have q20 : zz_em e_6 := hz19.1
            have q21 : t_6_0 = s0 := hz19.2.1
            have q22 : t_6_1 = s1 := hz19.2.2.1
            have q23 : t_6_2 = s2 := hz19.2.2.2.1
            have q24 : t_6_3 = s3 := hz19.2.2.2.2.1
            have q25 : t_6_4 = s4 := hz19.2.2.2.2.2.1
            have q26 : t_6_5 = s5 := hz19.2.2.2.2.2.2.1
            have q27 : t_6_6 = s6 := hz19.2.2.2.2.2.2.2.1
            have q28 : t_6_7 = s7 := hz19.2.2.2.2.2.2.2.2.1
            have q29 : t_6_8 = s8 := hz19.2.2.2.2.2.2.2.2.2.1
            have q30 : t_6_9 = s9 := hz19.2.2.2.2.2.2.2.2.2.2.1
            have q31 : t_6_10 = s10 := hz19.2.2.2.2.2.2.2.2.2.2.2.1
            have q32 : t_6_11 = s11 := hz19.2.2.2.2.2.2.2.2.2.2.2.2.1
            have q33 : t_6_12 = s12 := hz19.2.2.2.2.2.2.2.2.2.2.2.2.2.1
            have q34 : t_6_13 = s13 := hz19.2.2.2.2.2.2.2.2.2.2.2.2.2.2.1
            have q35 : t_6_14 = s14 := hz19.2.2.2.2.2.2.2.2.2.2.2.2.2.2.2
            clear hz19
            have e36 : s0 = t_6_0 := q21.symm
            subst e36
            have e37 : s1 = t_6_1 := q22.symm
            subst e37
            have e38 : s2 = t_6_2 := q23.symm
            subst e38
            have e39 : s3 = t_6_3 := q24.symm
            subst e39
            have e40 : s4 = t_6_4 := q25.symm
            subst e40
            have e41 : s5 = t_6_5 := q26.symm
            subst e41
            have e42 : s6 = t_6_6 := q27.symm
            subst e42
            have e43 : s7 = t_6_7 := q28.symm
            subst e43
            have e44 : s8 = t_6_8 := q29.symm
            subst e44
            have e45 : s9 = t_6_9 := q30.symm
            subst e45
            have e46 : s10 = t_6_10 := q31.symm
            subst e46
            have e47 : s11 = t_6_11 := q32.symm
            subst e47
            have e48 : s12 = t_6_12 := q33.symm
            subst e48
            have e49 : s13 = t_6_13 := q34.symm
            subst e49
            have e50 : s14 = t_6_14 := q35.symm
            subst e50
            have g51 := zz_rg r_6
            show zz_ok (if e_6 = "" then (some ("", r_6, s0, s1, s2, s3, s4, s5, s6, s7, s8, s9, s10, s11, s12, s13, s14)) else (some (e_6, 0, s0, s1, s2, s3, s4, s5, s6, s7, s8, s9, s10, s11, s12, s13, s14))) _
            refine zz_ok_ite (fun c52 => ?_) (fun c52 => absurd q20 c52)
            refine zz_ok_some ?_
            show s0 = s0 ∧ s1 = s1 ∧ s2 = s2 ∧ s3 = s3 ∧ s4 = s4 ∧ s5 = s5 ∧ s6 = s6 ∧ s7 = s7 ∧ s8 = s8 ∧ s9 = s9 ∧ s14 = s14
            exact ⟨rfl, rfl, rfl, rfl, rfl, rfl, rfl, rfl, rfl, rfl, rfl⟩
          · have c17 := zz_nlt c17
            refine zz_ok_bind (gg_X11_countInRoom_X2 K hK T hT n0 n1 n2 n3 n4 n5 n6 p1 s0 s1 s2 s3 s4 s5 s6 s7 s8 s9 s10 s11 s12 s13 s14 a0 a1 a2 a3 a4 a5 a6 a7 a8 a9 a10 a11 a12 a13 a14 a15) ?_
            intro z53 hz53
            obtain ⟨e_7, r_7, t_7_0, t_7_1, t_7_2, t_7_3, t_7_4, t_7_5, t_7_6, t_7_7, t_7_8, t_7_9, t_7_10, t_7_11, t_7_12, t_7_13, t_7_14⟩ := z53
            have q54 : zz_em e_7 := hz53.1
            have q55 : t_7_0 = s0 := hz53.2.1
            have q56 : t_7_1 = s1 := hz53.2.2.1
            have q57 : t_7_2 = s2 := hz53.2.2.2.1
            have q58 : t_7_3 = s3 := hz53.2.2.2.2.1
            have q59 : t_7_4 = s4 := hz53.2.2.2.2.2.1
            have q60 : t_7_5 = s5 := hz53.2.2.2.2.2.2.1
            have q61 : t_7_6 = s6 := hz53.2.2.2.2.2.2.2.1
            have q62 : t_7_7 = s7 := hz53.2.2.2.2.2.2.2.2.1
            have q63 : t_7_8 = s8 := hz53.2.2.2.2.2.2.2.2.2.1
            have q64 : t_7_9 = s9 := hz53.2.2.2.2.2.2.2.2.2.2.1
            have q65 : t_7_14 = s14 := hz53.2.2.2.2.2.2.2.2.2.2.2
            clear hz53
            have e66 : s0 = t_7_0 := q55.symm
            subst e66
            have e67 : s1 = t_7_1 := q56.symm
            subst e67
            have e68 : s2 = t_7_2 := q57.symm
            subst e68
            have e69 : s3 = t_7_3 := q58.symm
            subst e69
            have e70 : s4 = t_7_4 := q59.symm
            subst e70
            have e71 : s5 = t_7_5 := q60.symm
            subst e71
            have e72 : s6 = t_7_6 := q61.symm
            subst e72
            have e73 : s7 = t_7_7 := q62.symm
            subst e73
            have e74 : s8 = t_7_8 := q63.symm
            subst e74
            have e75 : s9 = t_7_9 := q64.symm
            subst e75
            have e76 : s14 = t_7_14 := q65.symm
            subst e76
            have g77 := zz_rg r_7
            have g78 := zz_rg t_7_10
            have g79 := zz_rg t_7_11
            show zz_ok (if e_7 = "" then (some ("", r_7, s0, s1, s2, s3, s4, s5, s6, s7, s8, s9, t_7_10, t_7_11, t_7_12, t_7_13, s14)) else (some (e_7, 0, s0, s1, s2, s3, s4, s5, s6, s7, s8, s9, t_7_10, t_7_11, t_7_12, t_7_13, s14))) _
            refine zz_ok_ite (fun c80 => ?_) (fun c80 => absurd q54 c80)
            refine zz_ok_some ?_
            show s0 = s0 ∧ s1 = s1 ∧ s2 = s2 ∧ s3 = s3 ∧ s4 = s4 ∧ s5 = s5 ∧ s6 = s6 ∧ s7 = s7 ∧ s8 = s8 ∧ s9 = s9 ∧ s14 = s14
            exact ⟨rfl, rfl, rfl, rfl, rfl, rfl, rfl, rfl, rfl, rfl, rfl⟩
    · have c12 := zz_nlt c12
      refine zz_ok_some ?_
      show s0 = s0 ∧ s1 = s1 ∧ s2 = s2 ∧ s3 = s3 ∧ s4 = s4 ∧ s5 = s5 ∧ s6 = s6 ∧ s7 = s7 ∧ s8 = s8 ∧ s9 = s9 ∧ s14 = s14
      exact ⟨rfl, rfl, rfl, rfl, rfl, rfl, rfl, rfl, rfl, rfl, rfl⟩
set_option maxHeartbeats 4000000 in
theorem gg_X11_give_X2 (K : Nat) (hK : 1099511627776 ≤ K) (T : Nat) (hT : T ≤ 900) (n0 : Nat) (n1 : Nat) (n2 : Nat) (n3 : Nat) (n4 : Nat) (n5 : Nat) (n6 : Nat) (p1 : Int32) (s0 : Int32) (s1 : Int32) (s2 : Int32) (s3 : Int32) (s4 : Int32) (s5 : Nat → Int32) (s6 : Nat → Int32) (s7 : Nat → Int32) (s8 : Nat → Int32) (s9 : Nat → Int32) (s10 : Int32) (s11 : Int32) (s12 : Nat → Int32) (s13 : Nat → Int32) (s14 : Int32) (a0 : n0 = 1024) (a1 : n1 = 200) (a2 : n2 = 200) (a3 : n3 = 200) (a4 : n4 = 200) (a5 : n5 = 512) (a6 : n6 = 512) (a7 : 16 ≤ s1.toInt) (a8 : s1.toInt ≤ 1024) (a9 : 0 ≤ s2.toInt) (a10 : s2.toInt ≤ 200) (a11 : zz_vs s1.toInt (s7) (s8) s2.toInt) (a12 : 0 ≤ s3.toInt) (a13 : s3.toInt ≤ 100000) (a14 : 0 ≤ s14.toInt) (a15 : 4 * s14.toInt ≤ s1.toInt) : zz_ok (m_X11_give_X2 K n0 n1 n2 n3 n4 n5 n6 p1 s0 s1 s2 s3 s4 s5 s6 s7 s8 s9 s10 s11 s12 s13 s14) (fun z => zz_GE (z.1) (p1) z.2.1.toInt s2.toInt (s3) (s6) (s7) (s8) (s9) z.2.2.2.2.1.toInt z.2.2.2.2.2.1.toInt (z.2.2.2.2.2.2.2.2.1) (z.2.2.2.2.2.2.2.2.2.1) (z.2.2.2.2.2.2.2.2.2.2.1) (z.2.2.2.2.2.2.2.2.2.2.2.1) (z.2.2.2.2.2.2.2.1) (z.2.2.2.2.2.2.2.1 = s5 ∧ z.2.2.2.2.2.2.2.2.2.2.2.2.2.2.2.2 = s14) (fun (s x : Int32) (c1 : Nat → Int32) => s.toInt = (p1.toInt + 3) / 4 * 4 ∧ c1 = s5 ∧ z.2.2.2.2.2.2.2.2.2.2.2.2.2.2.2.2 = s14 ∧ zz_g6 (s5) s14.toInt s.toInt x.toInt) ∧ zz_vs s1.toInt (z.2.2.2.2.2.2.2.2.2.1) (z.2.2.2.2.2.2.2.2.2.2.1) z.2.2.2.2.1.toInt ∧ 0 ≤ z.2.2.2.2.1.toInt ∧ z.2.2.2.2.1.toInt ≤ 200 ∧ z.2.2.1 = s0 ∧ z.2.2.2.1 = s1) := by
  have g1 := zz_rg p1
  have g2 := zz_rg s0
  have g3 := zz_rg s1
  have g4 := zz_rg s2
  have g5 := zz_rg s3
  have g6 := zz_rg s4
  have g7 := zz_rg s10
  have g8 := zz_rg s11
  have g9 := zz_rg s14
  have tn7 := zz_tnI s2 (by omega)
  unfold m_X11_give_X2
  have l11 : (1 : Int32).toInt = 1 := rfl
  refine zz_ok_ite (fun c10 => ?_) (fun c10 => ?_)
  · have c10 := Int32.lt_iff_toInt_lt.mp c10
    have l12 : (0 : Int32).toInt = 0 := rfl
    refine zz_ok_some ?_
    show zz_GE (("java/lang/IllegalArgumentException")) (p1) (0 : Int32).toInt s2.toInt (s3) (s6) (s7) (s8) (s9) s2.toInt s3.toInt (s6) (s7) (s8) (s9) (s5) (s5 = s5 ∧ s14 = s14) (fun (s x : Int32) (c1 : Nat → Int32) => s.toInt = (p1.toInt + 3) / 4 * 4 ∧ c1 = s5 ∧ s14 = s14 ∧ zz_g6 (s5) s14.toInt s.toInt x.toInt) ∧ zz_vs s1.toInt (s7) (s8) s2.toInt ∧ 0 ≤ s2.toInt ∧ s2.toInt ≤ 200 ∧ s0 = s0 ∧ s1 = s1
    exact ⟨(by first | exact Or.inl ⟨rfl, by omega, rfl, rfl, rfl, rfl, rfl, rfl, ⟨rfl, rfl⟩⟩ | exact Or.inr (Or.inl ⟨rfl, by omega, by omega, by omega, rfl, rfl, rfl, rfl, rfl, rfl, ⟨rfl, rfl⟩⟩) | exact Or.inr (Or.inr ⟨rfl, by omega, by omega, by omega, r_6, r_7, s5, ⟨by omega, rfl, rfl, by assumption⟩, Or.inl ⟨by omega, by decide, rfl, rfl, rfl, rfl, rfl, rfl, rfl⟩⟩) | exact Or.inr (Or.inr ⟨rfl, by omega, by omega, by omega, r_6, r_7, s5, ⟨by omega, rfl, rfl, by assumption⟩, Or.inr ⟨by omega, rfl, by omega, by omega, rfl, rfl, rfl, rfl, by assumption⟩⟩)), a11, a9, a10, (by first | rfl | (exfalso; omega)), (by first | rfl | (exfalso; omega))⟩
  · have c10 := zz_nlt c10
    have l14 : (1024 : Int32).toInt = 1024 := rfl
    refine zz_ok_ite (fun c13 => ?_) (fun c13 => ?_)
    · have c13 := Int32.le_iff_toInt_le.mp c13
      refine zz_ok_bind (gg_X11_needRoom_X2 K hK T hT n0 n1 n2 n3 n4 n5 n6 s0 s1 s2 s3 s4 s5 s6 s7 s8 s9 s10 s11 s12 s13 s14) ?_
      intro z15 hz15
      obtain ⟨e_3, t_3_0, t_3_1, t_3_2, t_3_3, t_3_4, t_3_5, t_3_6, t_3_7, t_3_8, t_3_9, t_3_10, t_3_11, t_3_12, t_3_13, t_3_14⟩ := z15
      have q16 : zz_em e_3 := hz15.1
      have q17 : t_3_0 = s0 := hz15.2.1
      have q18 : t_3_1 = s1 := hz15.2.2.1
      have q19 : t_3_2 = s2 := hz15.2.2.2.1
      have q20 : t_3_3 = s3 := hz15.2.2.2.2.1
      have q21 : t_3_4 = s4 := hz15.2.2.2.2.2.1
      have q22 : t_3_5 = s5 := hz15.2.2.2.2.2.2.1
      have q23 : t_3_6 = s6 := hz15.2.2.2.2.2.2.2.1
      have q24 : t_3_7 = s7 := hz15.2.2.2.2.2.2.2.2.1
      have q25 : t_3_8 = s8 := hz15.2.2.2.2.2.2.2.2.2.1
      have q26 : t_3_9 = s9 := hz15.2.2.2.2.2.2.2.2.2.2.1
      have q27 : t_3_10 = s10 := hz15.2.2.2.2.2.2.2.2.2.2.2.1
      have q28 : t_3_11 = s11 := hz15.2.2.2.2.2.2.2.2.2.2.2.2.1
      have q29 : t_3_12 = s12 := hz15.2.2.2.2.2.2.2.2.2.2.2.2.2.1
      have q30 : t_3_13 = s13 := hz15.2.2.2.2.2.2.2.2.2.2.2.2.2.2.1
      have q31 : t_3_14 = s14 := hz15.2.2.2.2.2.2.2.2.2.2.2.2.2.2.2
      clear hz15
      have e32 : s0 = t_3_0 := q17.symm
      subst e32
      have e33 : s1 = t_3_1 := q18.symm
      subst e33
      have e34 : s2 = t_3_2 := q19.symm
      subst e34
      have e35 : s3 = t_3_3 := q20.symm
      subst e35
      have e36 : s4 = t_3_4 := q21.symm
      subst e36
      have e37 : s5 = t_3_5 := q22.symm
      subst e37
      have e38 : s6 = t_3_6 := q23.symm
      subst e38
      have e39 : s7 = t_3_7 := q24.symm
      subst e39
      have e40 : s8 = t_3_8 := q25.symm
      subst e40
      have e41 : s9 = t_3_9 := q26.symm
      subst e41
      have e42 : s10 = t_3_10 := q27.symm
      subst e42
      have e43 : s11 = t_3_11 := q28.symm
      subst e43
      have e44 : s12 = t_3_12 := q29.symm
      subst e44
      have e45 : s13 = t_3_13 := q30.symm
      subst e45
      have e46 : s14 = t_3_14 := q31.symm
      subst e46
      show zz_ok (if e_3 = "" then ((m_X7_blocks K n0 n1 n2 n3 n4 n5 n6 s1 s2 s3 s4 s5 s6 s7 s8 s9 s10 s11 s12 s13).bind fun ⟨r_4, t_4_0, t_4_1, t_4_2, t_4_3, t_4_4, t_4_5, t_4_6, t_4_7, t_4_8, t_4_9, t_4_10, t_4_11, t_4_12⟩ => if r_4 < ((200 : Int32)) then ((m_X2_spanOf K n0 n1 n2 n3 n4 n5 n6 p1 s14 t_4_0 t_4_1 t_4_2 t_4_3 t_4_4 t_4_5 t_4_6 t_4_7 t_4_8 t_4_9 t_4_10 t_4_11 t_4_12).bind fun ⟨r_6, t_6_0, t_6_1, t_6_2, t_6_3, t_6_4, t_6_5, t_6_6, t_6_7, t_6_8, t_6_9, t_6_10, t_6_11, t_6_12, t_6_13⟩ => (m_X2_take K n0 n1 n2 n3 n4 n5 n6 r_6 t_6_0 t_6_1 t_6_2 t_6_3 t_6_4 t_6_5 t_6_6 t_6_7 t_6_8 t_6_9 t_6_10 t_6_11 t_6_12 t_6_13).bind fun ⟨r_7, t_7_0, t_7_1, t_7_2, t_7_3, t_7_4, t_7_5, t_7_6, t_7_7, t_7_8, t_7_9, t_7_10, t_7_11, t_7_12, t_7_13⟩ => if r_7 = ((-1 : Int32)) then (some ("", (-1 : Int32), s0, t_7_1, t_7_2, t_7_3, t_7_4, t_7_5, t_7_6, t_7_7, t_7_8, t_7_9, t_7_10, t_7_11, t_7_12, t_7_13, t_7_0)) else ((m_X7_settle K n0 n1 n2 n3 n4 n5 n6 r_7 r_6 p1 t_7_1 t_7_2 t_7_3 t_7_4 t_7_5 t_7_6 t_7_7 t_7_8 t_7_9 t_7_10 t_7_11 t_7_12 t_7_13).bind fun ⟨r_9, t_9_0, t_9_1, t_9_2, t_9_3, t_9_4, t_9_5, t_9_6, t_9_7, t_9_8, t_9_9, t_9_10, t_9_11, t_9_12⟩ => some ("", r_9, s0, t_9_0, t_9_1, t_9_2, t_9_3, t_9_4, t_9_5, t_9_6, t_9_7, t_9_8, t_9_9, t_9_10, t_9_11, t_9_12, t_7_0))) else (some ("java/lang/IndexOutOfBoundsException", 0, s0, t_4_0, t_4_1, t_4_2, t_4_3, t_4_4, t_4_5, t_4_6, t_4_7, t_4_8, t_4_9, t_4_10, t_4_11, t_4_12, s14))) else (some (e_3, 0, s0, s1, s2, s3, s4, s5, s6, s7, s8, s9, s10, s11, s12, s13, s14))) _
      refine zz_ok_ite (fun c47 => ?_) (fun c47 => absurd q16 c47)
      refine zz_ok_bind (ff_X7_blocks K hK T hT n0 n1 n2 n3 n4 n5 n6 s1 s2 s3 s4 s5 s6 s7 s8 s9 s10 s11 s12 s13) ?_
      intro z48 hz48
      obtain ⟨r_4, t_4_0, t_4_1, t_4_2, t_4_3, t_4_4, t_4_5, t_4_6, t_4_7, t_4_8, t_4_9, t_4_10, t_4_11, t_4_12⟩ := z48
      have q49 : r_4 = s2 := hz48.1
      have q50 : t_4_0 = s1 := hz48.2.1
      have q51 : t_4_1 = s2 := hz48.2.2.1
      have q52 : t_4_2 = s3 := hz48.2.2.2.1
      have q53 : t_4_3 = s4 := hz48.2.2.2.2.1
      have q54 : t_4_4 = s5 := hz48.2.2.2.2.2.1
      have q55 : t_4_5 = s6 := hz48.2.2.2.2.2.2.1
      have q56 : t_4_6 = s7 := hz48.2.2.2.2.2.2.2.1
      have q57 : t_4_7 = s8 := hz48.2.2.2.2.2.2.2.2.1
      have q58 : t_4_8 = s9 := hz48.2.2.2.2.2.2.2.2.2.1
      have q59 : t_4_9 = s10 := hz48.2.2.2.2.2.2.2.2.2.2.1
      have q60 : t_4_10 = s11 := hz48.2.2.2.2.2.2.2.2.2.2.2.1
      have q61 : t_4_11 = s12 := hz48.2.2.2.2.2.2.2.2.2.2.2.2.1
      have q62 : t_4_12 = s13 := hz48.2.2.2.2.2.2.2.2.2.2.2.2.2
      clear hz48
      have e63 : s2 = r_4 := q49.symm
      subst e63
      have e64 : s1 = t_4_0 := q50.symm
      subst e64
      have e65 : s2 = t_4_1 := q51.symm
      subst e65
      have e66 : s3 = t_4_2 := q52.symm
      subst e66
      have e67 : s4 = t_4_3 := q53.symm
      subst e67
      have e68 : s5 = t_4_4 := q54.symm
      subst e68
      have e69 : s6 = t_4_5 := q55.symm
      subst e69
      have e70 : s7 = t_4_6 := q56.symm
      subst e70
      have e71 : s8 = t_4_7 := q57.symm
      subst e71
      have e72 : s9 = t_4_8 := q58.symm
      subst e72
      have e73 : s10 = t_4_9 := q59.symm
      subst e73
      have e74 : s11 = t_4_10 := q60.symm
      subst e74
      have e75 : s12 = t_4_11 := q61.symm
      subst e75
      have e76 : s13 = t_4_12 := q62.symm
      subst e76
      show zz_ok (if s2 < ((200 : Int32)) then ((m_X2_spanOf K n0 n1 n2 n3 n4 n5 n6 p1 s14 s1 s2 s3 s4 s5 s6 s7 s8 s9 s10 s11 s12 s13).bind fun ⟨r_6, t_6_0, t_6_1, t_6_2, t_6_3, t_6_4, t_6_5, t_6_6, t_6_7, t_6_8, t_6_9, t_6_10, t_6_11, t_6_12, t_6_13⟩ => (m_X2_take K n0 n1 n2 n3 n4 n5 n6 r_6 t_6_0 t_6_1 t_6_2 t_6_3 t_6_4 t_6_5 t_6_6 t_6_7 t_6_8 t_6_9 t_6_10 t_6_11 t_6_12 t_6_13).bind fun ⟨r_7, t_7_0, t_7_1, t_7_2, t_7_3, t_7_4, t_7_5, t_7_6, t_7_7, t_7_8, t_7_9, t_7_10, t_7_11, t_7_12, t_7_13⟩ => if r_7 = ((-1 : Int32)) then (some ("", (-1 : Int32), s0, t_7_1, t_7_2, t_7_3, t_7_4, t_7_5, t_7_6, t_7_7, t_7_8, t_7_9, t_7_10, t_7_11, t_7_12, t_7_13, t_7_0)) else ((m_X7_settle K n0 n1 n2 n3 n4 n5 n6 r_7 r_6 p1 t_7_1 t_7_2 t_7_3 t_7_4 t_7_5 t_7_6 t_7_7 t_7_8 t_7_9 t_7_10 t_7_11 t_7_12 t_7_13).bind fun ⟨r_9, t_9_0, t_9_1, t_9_2, t_9_3, t_9_4, t_9_5, t_9_6, t_9_7, t_9_8, t_9_9, t_9_10, t_9_11, t_9_12⟩ => some ("", r_9, s0, t_9_0, t_9_1, t_9_2, t_9_3, t_9_4, t_9_5, t_9_6, t_9_7, t_9_8, t_9_9, t_9_10, t_9_11, t_9_12, t_7_0))) else (some ("java/lang/IndexOutOfBoundsException", 0, s0, s1, s2, s3, s4, s5, s6, s7, s8, s9, s10, s11, s12, s13, s14))) _
      have l78 : (200 : Int32).toInt = 200 := rfl
      refine zz_ok_ite (fun c77 => ?_) (fun c77 => ?_)
      · have c77 := Int32.lt_iff_toInt_lt.mp c77
        refine zz_ok_bind (gg_X2_spanOf K hK T hT n0 n1 n2 n3 n4 n5 n6 p1 s14 s1 s2 s3 s4 s5 s6 s7 s8 s9 s10 s11 s12 s13 (by omega) (by omega)) ?_
        intro z79 hz79
        obtain ⟨r_6, t_6_0, t_6_1, t_6_2, t_6_3, t_6_4, t_6_5, t_6_6, t_6_7, t_6_8, t_6_9, t_6_10, t_6_11, t_6_12, t_6_13⟩ := z79
        have q80 : r_6.toInt = (p1.toInt + 3) / 4 * 4 := hz79.1
        have q81 : t_6_0 = s14 := hz79.2.1
        have q82 : t_6_1 = s1 := hz79.2.2.1
        have q83 : t_6_2 = s2 := hz79.2.2.2.1
        have q84 : t_6_3 = s3 := hz79.2.2.2.2.1
        have q85 : t_6_4 = s4 := hz79.2.2.2.2.2.1
        have q86 : t_6_5 = s5 := hz79.2.2.2.2.2.2.1
        have q87 : t_6_6 = s6 := hz79.2.2.2.2.2.2.2.1
        have q88 : t_6_7 = s7 := hz79.2.2.2.2.2.2.2.2.1
        have q89 : t_6_8 = s8 := hz79.2.2.2.2.2.2.2.2.2.1
        have q90 : t_6_9 = s9 := hz79.2.2.2.2.2.2.2.2.2.2.1
        have q91 : t_6_10 = s10 := hz79.2.2.2.2.2.2.2.2.2.2.2.1
        have q92 : t_6_11 = s11 := hz79.2.2.2.2.2.2.2.2.2.2.2.2.1
        have q93 : t_6_12 = s12 := hz79.2.2.2.2.2.2.2.2.2.2.2.2.2.1
        have q94 : t_6_13 = s13 := hz79.2.2.2.2.2.2.2.2.2.2.2.2.2.2
        clear hz79
        have e95 : s14 = t_6_0 := q81.symm
        subst e95
        have e96 : s1 = t_6_1 := q82.symm
        subst e96
        have e97 : s2 = t_6_2 := q83.symm
        subst e97
        have e98 : s3 = t_6_3 := q84.symm
        subst e98
        have e99 : s4 = t_6_4 := q85.symm
        subst e99
        have e100 : s5 = t_6_5 := q86.symm
        subst e100
        have e101 : s6 = t_6_6 := q87.symm
        subst e101
        have e102 : s7 = t_6_7 := q88.symm
        subst e102
        have e103 : s8 = t_6_8 := q89.symm
        subst e103
        have e104 : s9 = t_6_9 := q90.symm
        subst e104
        have e105 : s10 = t_6_10 := q91.symm
        subst e105
        have e106 : s11 = t_6_11 := q92.symm
        subst e106
        have e107 : s12 = t_6_12 := q93.symm
        subst e107
        have e108 : s13 = t_6_13 := q94.symm
        subst e108
        have g109 := zz_rg r_6
        show zz_ok ((m_X2_take K n0 n1 n2 n3 n4 n5 n6 r_6 s14 s1 s2 s3 s4 s5 s6 s7 s8 s9 s10 s11 s12 s13).bind fun ⟨r_7, t_7_0, t_7_1, t_7_2, t_7_3, t_7_4, t_7_5, t_7_6, t_7_7, t_7_8, t_7_9, t_7_10, t_7_11, t_7_12, t_7_13⟩ => if r_7 = ((-1 : Int32)) then (some ("", (-1 : Int32), s0, t_7_1, t_7_2, t_7_3, t_7_4, t_7_5, t_7_6, t_7_7, t_7_8, t_7_9, t_7_10, t_7_11, t_7_12, t_7_13, t_7_0)) else ((m_X7_settle K n0 n1 n2 n3 n4 n5 n6 r_7 r_6 p1 t_7_1 t_7_2 t_7_3 t_7_4 t_7_5 t_7_6 t_7_7 t_7_8 t_7_9 t_7_10 t_7_11 t_7_12 t_7_13).bind fun ⟨r_9, t_9_0, t_9_1, t_9_2, t_9_3, t_9_4, t_9_5, t_9_6, t_9_7, t_9_8, t_9_9, t_9_10, t_9_11, t_9_12⟩ => some ("", r_9, s0, t_9_0, t_9_1, t_9_2, t_9_3, t_9_4, t_9_5, t_9_6, t_9_7, t_9_8, t_9_9, t_9_10, t_9_11, t_9_12, t_7_0))) _
        refine zz_ok_bind (gg_X2_take K hK T hT n0 n1 n2 n3 n4 n5 n6 r_6 s14 s1 s2 s3 s4 s5 s6 s7 s8 s9 s10 s11 s12 s13 a0 a1 a2 a3 a4 a5 a6 (by omega) a8 a14 a15 (by omega) (by omega) (by omega)) ?_
        intro z110 hz110
        obtain ⟨r_7, t_7_0, t_7_1, t_7_2, t_7_3, t_7_4, t_7_5, t_7_6, t_7_7, t_7_8, t_7_9, t_7_10, t_7_11, t_7_12, t_7_13⟩ := z110
        have q111 : zz_g6 (s5) s14.toInt r_6.toInt r_7.toInt := hz110.1
        have q112 : -1 ≤ r_7.toInt := hz110.2.1
        have q113 : t_7_0 = s14 := hz110.2.2.1
        have q114 : t_7_1 = s1 := hz110.2.2.2.1
        have q115 : t_7_2 = s2 := hz110.2.2.2.2.1
        have q116 : t_7_3 = s3 := hz110.2.2.2.2.2.1
        have q117 : t_7_5 = s5 := hz110.2.2.2.2.2.2.1
        have q118 : t_7_6 = s6 := hz110.2.2.2.2.2.2.2.1
        have q119 : t_7_7 = s7 := hz110.2.2.2.2.2.2.2.2.1
        have q120 : t_7_8 = s8 := hz110.2.2.2.2.2.2.2.2.2.1
        have q121 : t_7_9 = s9 := hz110.2.2.2.2.2.2.2.2.2.2.1
        have q122 : t_7_10 = s10 := hz110.2.2.2.2.2.2.2.2.2.2.2.1
        have q123 : t_7_11 = s11 := hz110.2.2.2.2.2.2.2.2.2.2.2.2.1
        have q124 : t_7_12 = s12 := hz110.2.2.2.2.2.2.2.2.2.2.2.2.2.1
        have q125 : t_7_13 = s13 := hz110.2.2.2.2.2.2.2.2.2.2.2.2.2.2
        clear hz110
        have e126 : s14 = t_7_0 := q113.symm
        subst e126
        have e127 : s1 = t_7_1 := q114.symm
        subst e127
        have e128 : s2 = t_7_2 := q115.symm
        subst e128
        have e129 : s3 = t_7_3 := q116.symm
        subst e129
        have e130 : s5 = t_7_5 := q117.symm
        subst e130
        have e131 : s6 = t_7_6 := q118.symm
        subst e131
        have e132 : s7 = t_7_7 := q119.symm
        subst e132
        have e133 : s8 = t_7_8 := q120.symm
        subst e133
        have e134 : s9 = t_7_9 := q121.symm
        subst e134
        have e135 : s10 = t_7_10 := q122.symm
        subst e135
        have e136 : s11 = t_7_11 := q123.symm
        subst e136
        have e137 : s12 = t_7_12 := q124.symm
        subst e137
        have e138 : s13 = t_7_13 := q125.symm
        subst e138
        have g139 := zz_rg r_7
        have g140 := zz_rg t_7_4
        have g69 := zz_g6_rg (by assumption : zz_g6 s5 s14.toInt r_6.toInt r_7.toInt) (by omega) (by omega)
        show zz_ok (if r_7 = ((-1 : Int32)) then (some ("", (-1 : Int32), s0, s1, s2, s3, t_7_4, s5, s6, s7, s8, s9, s10, s11, s12, s13, s14)) else ((m_X7_settle K n0 n1 n2 n3 n4 n5 n6 r_7 r_6 p1 s1 s2 s3 t_7_4 s5 s6 s7 s8 s9 s10 s11 s12 s13).bind fun ⟨r_9, t_9_0, t_9_1, t_9_2, t_9_3, t_9_4, t_9_5, t_9_6, t_9_7, t_9_8, t_9_9, t_9_10, t_9_11, t_9_12⟩ => some ("", r_9, s0, t_9_0, t_9_1, t_9_2, t_9_3, t_9_4, t_9_5, t_9_6, t_9_7, t_9_8, t_9_9, t_9_10, t_9_11, t_9_12, s14))) _
        have l142 : (-1 : Int32).toInt = -1 := rfl
        refine zz_ok_ite (fun c141 => ?_) (fun c141 => ?_)
        · have c141 := congrArg Int32.toInt c141
          refine zz_ok_some ?_
          show zz_GE (("")) (p1) (-1 : Int32).toInt s2.toInt (s3) (s6) (s7) (s8) (s9) s2.toInt s3.toInt (s6) (s7) (s8) (s9) (s5) (s5 = s5 ∧ s14 = s14) (fun (s x : Int32) (c1 : Nat → Int32) => s.toInt = (p1.toInt + 3) / 4 * 4 ∧ c1 = s5 ∧ s14 = s14 ∧ zz_g6 (s5) s14.toInt s.toInt x.toInt) ∧ zz_vs s1.toInt (s7) (s8) s2.toInt ∧ 0 ≤ s2.toInt ∧ s2.toInt ≤ 200 ∧ s0 = s0 ∧ s1 = s1
          exact ⟨(by first | exact Or.inl ⟨rfl, by omega, rfl, rfl, rfl, rfl, rfl, rfl, ⟨rfl, rfl⟩⟩ | exact Or.inr (Or.inl ⟨rfl, by omega, by omega, by omega, rfl, rfl, rfl, rfl, rfl, rfl, ⟨rfl, rfl⟩⟩) | exact Or.inr (Or.inr ⟨rfl, by omega, by omega, by omega, r_6, r_7, s5, ⟨by omega, rfl, rfl, by assumption⟩, Or.inl ⟨by omega, by decide, rfl, rfl, rfl, rfl, rfl, rfl, rfl⟩⟩) | exact Or.inr (Or.inr ⟨rfl, by omega, by omega, by omega, r_6, r_7, s5, ⟨by omega, rfl, rfl, by assumption⟩, Or.inr ⟨by omega, rfl, by omega, by omega, rfl, rfl, rfl, rfl, by assumption⟩⟩)), a11, a9, a10, (by first | rfl | (exfalso; omega)), (by first | rfl | (exfalso; omega))⟩
        · have c141 := zz_neq c141
          refine zz_ok_bind (ff_X7_settle K hK T hT n0 n1 n2 n3 n4 n5 n6 r_7 r_6 p1 s1 s2 s3 t_7_4 s5 s6 s7 s8 s9 s10 s11 s12 s13 a0 a1 a2 a3 a4 a5 a6 a9 (by omega) (by omega) (by omega) (by omega) a8 a12 a13) ?_
          intro z143 hz143
          obtain ⟨r_9, t_9_0, t_9_1, t_9_2, t_9_3, t_9_4, t_9_5, t_9_6, t_9_7, t_9_8, t_9_9, t_9_10, t_9_11, t_9_12⟩ := z143
          have q144 : r_9 = s3 := hz143.1
          have q145 : t_9_1.toInt = s2.toInt + 1 := hz143.2.1
          have q146 : t_9_2.toInt = s3.toInt + 1 := hz143.2.2.1
          have q147 : t_9_5 = upd s6 s2.toNatClampNeg s3 := hz143.2.2.2.1
          have q148 : t_9_6 = upd s7 s2.toNatClampNeg r_7 := hz143.2.2.2.2.1
          have q149 : t_9_7 = upd s8 s2.toNatClampNeg r_6 := hz143.2.2.2.2.2.1
          have q150 : t_9_8 = upd s9 s2.toNatClampNeg p1 := hz143.2.2.2.2.2.2.1
          have q151 : zz_wr (s5) (t_9_4) r_7.toInt (r_7.toInt + r_6.toInt) (s3) := hz143.2.2.2.2.2.2.2.1
          have q152 : t_9_0 = s1 := hz143.2.2.2.2.2.2.2.2.1
          have q153 : t_9_3 = t_7_4 := hz143.2.2.2.2.2.2.2.2.2.1
          have q154 : t_9_9 = s10 := hz143.2.2.2.2.2.2.2.2.2.2.1
          have q155 : t_9_10 = s11 := hz143.2.2.2.2.2.2.2.2.2.2.2.1
          have q156 : t_9_11 = s12 := hz143.2.2.2.2.2.2.2.2.2.2.2.2.1
          have q157 : t_9_12 = s13 := hz143.2.2.2.2.2.2.2.2.2.2.2.2.2
          clear hz143
          have e158 : s3 = r_9 := q144.symm
          subst e158
          have e159 : upd s6 s2.toNatClampNeg s3 = t_9_5 := q147.symm
          subst e159
          have e160 : upd s7 s2.toNatClampNeg r_7 = t_9_6 := q148.symm
          subst e160
          have e161 : upd s8 s2.toNatClampNeg r_6 = t_9_7 := q149.symm
          subst e161
          have e162 : upd s9 s2.toNatClampNeg p1 = t_9_8 := q150.symm
          subst e162
          have e163 : s1 = t_9_0 := q152.symm
          subst e163
          have e164 : t_7_4 = t_9_3 := q153.symm
          subst e164
          have e165 : s10 = t_9_9 := q154.symm
          subst e165
          have e166 : s11 = t_9_10 := q155.symm
          subst e166
          have e167 : s12 = t_9_11 := q156.symm
          subst e167
          have e168 : s13 = t_9_12 := q157.symm
          subst e168
          have g169 := zz_rg t_9_1
          have g170 := zz_rg t_9_2
          show zz_ok (some ("", s3, s0, s1, t_9_1, t_9_2, t_7_4, t_9_4, (upd s6 s2.toNatClampNeg s3), (upd s7 s2.toNatClampNeg r_7), (upd s8 s2.toNatClampNeg r_6), (upd s9 s2.toNatClampNeg p1), s10, s11, s12, s13, s14)) _
          refine zz_ok_some ?_
          show zz_GE (("")) (p1) s3.toInt s2.toInt (s3) (s6) (s7) (s8) (s9) t_9_1.toInt t_9_2.toInt ((upd s6 s2.toNatClampNeg s3)) ((upd s7 s2.toNatClampNeg r_7)) ((upd s8 s2.toNatClampNeg r_6)) ((upd s9 s2.toNatClampNeg p1)) (t_9_4) (t_9_4 = s5 ∧ s14 = s14) (fun (s x : Int32) (c1 : Nat → Int32) => s.toInt = (p1.toInt + 3) / 4 * 4 ∧ c1 = s5 ∧ s14 = s14 ∧ zz_g6 (s5) s14.toInt s.toInt x.toInt) ∧ zz_vs s1.toInt ((upd s7 s2.toNatClampNeg r_7)) ((upd s8 s2.toNatClampNeg r_6)) t_9_1.toInt ∧ 0 ≤ t_9_1.toInt ∧ t_9_1.toInt ≤ 200 ∧ s0 = s0 ∧ s1 = s1
          exact ⟨(by first | exact Or.inl ⟨rfl, by omega, rfl, rfl, rfl, rfl, rfl, rfl, ⟨rfl, rfl⟩⟩ | exact Or.inr (Or.inl ⟨rfl, by omega, by omega, by omega, rfl, rfl, rfl, rfl, rfl, rfl, ⟨rfl, rfl⟩⟩) | exact Or.inr (Or.inr ⟨rfl, by omega, by omega, by omega, r_6, r_7, s5, ⟨by omega, rfl, rfl, by assumption⟩, Or.inl ⟨by omega, by decide, rfl, rfl, rfl, rfl, rfl, rfl, rfl⟩⟩) | exact Or.inr (Or.inr ⟨rfl, by omega, by omega, by omega, r_6, r_7, s5, ⟨by omega, rfl, rfl, by assumption⟩, Or.inr ⟨by omega, rfl, by omega, by omega, rfl, rfl, rfl, rfl, by assumption⟩⟩)), (by first | assumption | exact zz_vs_add (by assumption) (by omega) (by omega) (by omega) (by omega) (by omega)), (by omega), (by omega), (by first | rfl | (exfalso; omega)), (by first | rfl | (exfalso; omega))⟩
      · have c77 := zz_nlt c77
        have l171 : (0 : Int32).toInt = 0 := rfl
        refine zz_ok_some ?_
        show zz_GE (("java/lang/IndexOutOfBoundsException")) (p1) (0 : Int32).toInt s2.toInt (s3) (s6) (s7) (s8) (s9) s2.toInt s3.toInt (s6) (s7) (s8) (s9) (s5) (s5 = s5 ∧ s14 = s14) (fun (s x : Int32) (c1 : Nat → Int32) => s.toInt = (p1.toInt + 3) / 4 * 4 ∧ c1 = s5 ∧ s14 = s14 ∧ zz_g6 (s5) s14.toInt s.toInt x.toInt) ∧ zz_vs s1.toInt (s7) (s8) s2.toInt ∧ 0 ≤ s2.toInt ∧ s2.toInt ≤ 200 ∧ s0 = s0 ∧ s1 = s1
        exact ⟨(by first | exact Or.inl ⟨rfl, by omega, rfl, rfl, rfl, rfl, rfl, rfl, ⟨rfl, rfl⟩⟩ | exact Or.inr (Or.inl ⟨rfl, by omega, by omega, by omega, rfl, rfl, rfl, rfl, rfl, rfl, ⟨rfl, rfl⟩⟩) | exact Or.inr (Or.inr ⟨rfl, by omega, by omega, by omega, r_6, r_7, s5, ⟨by omega, rfl, rfl, by assumption⟩, Or.inl ⟨by omega, by decide, rfl, rfl, rfl, rfl, rfl, rfl, rfl⟩⟩) | exact Or.inr (Or.inr ⟨rfl, by omega, by omega, by omega, r_6, r_7, s5, ⟨by omega, rfl, rfl, by assumption⟩, Or.inr ⟨by omega, rfl, by omega, by omega, rfl, rfl, rfl, rfl, by assumption⟩⟩)), a11, a9, a10, (by first | rfl | (exfalso; omega)), (by first | rfl | (exfalso; omega))⟩
    · have c13 := zz_nle c13
      have l172 : (0 : Int32).toInt = 0 := rfl
      refine zz_ok_some ?_
      show zz_GE (("java/lang/IllegalArgumentException")) (p1) (0 : Int32).toInt s2.toInt (s3) (s6) (s7) (s8) (s9) s2.toInt s3.toInt (s6) (s7) (s8) (s9) (s5) (s5 = s5 ∧ s14 = s14) (fun (s x : Int32) (c1 : Nat → Int32) => s.toInt = (p1.toInt + 3) / 4 * 4 ∧ c1 = s5 ∧ s14 = s14 ∧ zz_g6 (s5) s14.toInt s.toInt x.toInt) ∧ zz_vs s1.toInt (s7) (s8) s2.toInt ∧ 0 ≤ s2.toInt ∧ s2.toInt ≤ 200 ∧ s0 = s0 ∧ s1 = s1
      exact ⟨(by first | exact Or.inl ⟨rfl, by omega, rfl, rfl, rfl, rfl, rfl, rfl, ⟨rfl, rfl⟩⟩ | exact Or.inr (Or.inl ⟨rfl, by omega, by omega, by omega, rfl, rfl, rfl, rfl, rfl, rfl, ⟨rfl, rfl⟩⟩) | exact Or.inr (Or.inr ⟨rfl, by omega, by omega, by omega, r_6, r_7, s5, ⟨by omega, rfl, rfl, by assumption⟩, Or.inl ⟨by omega, by decide, rfl, rfl, rfl, rfl, rfl, rfl, rfl⟩⟩) | exact Or.inr (Or.inr ⟨rfl, by omega, by omega, by omega, r_6, r_7, s5, ⟨by omega, rfl, rfl, by assumption⟩, Or.inr ⟨by omega, rfl, by omega, by omega, rfl, rfl, rfl, rfl, by assumption⟩⟩)), a11, a9, a10, (by first | rfl | (exfalso; omega)), (by first | rfl | (exfalso; omega))⟩
set_option maxHeartbeats 4000000 in
theorem gg_X11_back_X2 (K : Nat) (hK : 1099511627776 ≤ K) (T : Nat) (hT : T ≤ 900) (n0 : Nat) (n1 : Nat) (n2 : Nat) (n3 : Nat) (n4 : Nat) (n5 : Nat) (n6 : Nat) (p1 : Int32) (s0 : Int32) (s1 : Int32) (s2 : Int32) (s3 : Int32) (s4 : Int32) (s5 : Nat → Int32) (s6 : Nat → Int32) (s7 : Nat → Int32) (s8 : Nat → Int32) (s9 : Nat → Int32) (s10 : Int32) (s11 : Int32) (s12 : Nat → Int32) (s13 : Nat → Int32) (s14 : Int32) (a0 : n0 = 1024) (a1 : n1 = 200) (a2 : n2 = 200) (a3 : n3 = 200) (a4 : n4 = 200) (a5 : n5 = 512) (a6 : n6 = 512) (a7 : 16 ≤ s1.toInt) (a8 : s1.toInt ≤ 1024) (a9 : 0 ≤ s2.toInt) (a10 : s2.toInt ≤ 200) (a11 : zz_vs s1.toInt (s7) (s8) s2.toInt) (a12 : 0 ≤ s3.toInt) (a13 : s3.toInt ≤ 100000) (a14 : 0 ≤ s14.toInt) (a15 : 4 * s14.toInt ≤ s1.toInt) : zz_ok (m_X11_back_X2 K n0 n1 n2 n3 n4 n5 n6 p1 s0 s1 s2 s3 s4 s5 s6 s7 s8 s9 s10 s11 s12 s13 s14) (fun z => zz_BE (z.1) (p1) s2.toInt (s6) (s7) (s8) (s9) z.2.1.toInt z.2.2.2.2.1.toInt (z.2.2.2.2.2.2.2.2.1) (z.2.2.2.2.2.2.2.2.2.1) (z.2.2.2.2.2.2.2.2.2.2.1) (z.2.2.2.2.2.2.2.2.2.2.2.1) (z.2.2.2.2.2.2.2.1 = s5 ∧ z.2.2.2.2.2.2.2.2.2.2.2.2.2.2.2.2 = s14) (fun (p s : Int32) => zz_wr (s5) (z.2.2.2.2.2.2.2.1) p.toInt (p.toInt + s.toInt) (-1) ∧ z.2.2.2.2.2.2.2.2.2.2.2.2.2.2.2.2 = s14) ∧ zz_vs s1.toInt (z.2.2.2.2.2.2.2.2.2.1) (z.2.2.2.2.2.2.2.2.2.2.1) z.2.2.2.2.1.toInt ∧ 0 ≤ z.2.2.2.2.1.toInt ∧ z.2.2.2.2.1.toInt ≤ 200 ∧ z.2.2.1 = s0 ∧ z.2.2.2.1 = s1 ∧ z.2.2.2.2.2.1 = s3 ∧ z.2.2.2.2.2.2.1 = s4 ∧ z.2.2.2.2.2.2.2.2.2.2.2.2.1 = s10 ∧ z.2.2.2.2.2.2.2.2.2.2.2.2.2.1 = s11 ∧ z.2.2.2.2.2.2.2.2.2.2.2.2.2.2.1 = s12 ∧ z.2.2.2.2.2.2.2.2.2.2.2.2.2.2.2.1 = s13) := by
  have g1 := zz_rg p1
  have g2 := zz_rg s0
  have g3 := zz_rg s1
  have g4 := zz_rg s2
  have g5 := zz_rg s3
  have g6 := zz_rg s4
  have g7 := zz_rg s10
  have g8 := zz_rg s11
  have g9 := zz_rg s14
  unfold m_X11_back_X2
  refine zz_ok_bind (gg_X11_needRoom_X2 K hK T hT n0 n1 n2 n3 n4 n5 n6 s0 s1 s2 s3 s4 s5 s6 s7 s8 s9 s10 s11 s12 s13 s14) ?_
  intro z10 hz10
  obtain ⟨e_1, t_1_0, t_1_1, t_1_2, t_1_3, t_1_4, t_1_5, t_1_6, t_1_7, t_1_8, t_1_9, t_1_10, t_1_11, t_1_12, t_1_13, t_1_14⟩ := z10
  have q11 : zz_em e_1 := hz10.1
  have q12 : t_1_0 = s0 := hz10.2.1
  have q13 : t_1_1 = s1 := hz10.2.2.1
  have q14 : t_1_2 = s2 := hz10.2.2.2.1
  have q15 : t_1_3 = s3 := hz10.2.2.2.2.1
  have q16 : t_1_4 = s4 := hz10.2.2.2.2.2.1
  have q17 : t_1_5 = s5 := hz10.2.2.2.2.2.2.1
  have q18 : t_1_6 = s6 := hz10.2.2.2.2.2.2.2.1
  have q19 : t_1_7 = s7 := hz10.2.2.2.2.2.2.2.2.1
  have q20 : t_1_8 = s8 := hz10.2.2.2.2.2.2.2.2.2.1
  have q21 : t_1_9 = s9 := hz10.2.2.2.2.2.2.2.2.2.2.1
  have q22 : t_1_10 = s10 := hz10.2.2.2.2.2.2.2.2.2.2.2.1
  have q23 : t_1_11 = s11 := hz10.2.2.2.2.2.2.2.2.2.2.2.2.1
  have q24 : t_1_12 = s12 := hz10.2.2.2.2.2.2.2.2.2.2.2.2.2.1
  have q25 : t_1_13 = s13 := hz10.2.2.2.2.2.2.2.2.2.2.2.2.2.2.1
  have q26 : t_1_14 = s14 := hz10.2.2.2.2.2.2.2.2.2.2.2.2.2.2.2
  clear hz10
  have e27 : s0 = t_1_0 := q12.symm
  subst e27
  have e28 : s1 = t_1_1 := q13.symm
  subst e28
  have e29 : s2 = t_1_2 := q14.symm
  subst e29
  have e30 : s3 = t_1_3 := q15.symm
  subst e30
  have e31 : s4 = t_1_4 := q16.symm
  subst e31
  have e32 : s5 = t_1_5 := q17.symm
  subst e32
  have e33 : s6 = t_1_6 := q18.symm
  subst e33
  have e34 : s7 = t_1_7 := q19.symm
  subst e34
  have e35 : s8 = t_1_8 := q20.symm
  subst e35
  have e36 : s9 = t_1_9 := q21.symm
  subst e36
  have e37 : s10 = t_1_10 := q22.symm
  subst e37
  have e38 : s11 = t_1_11 := q23.symm
  subst e38
  have e39 : s12 = t_1_12 := q24.symm
  subst e39
  have e40 : s13 = t_1_13 := q25.symm
  subst e40
  have e41 : s14 = t_1_14 := q26.symm
  subst e41
  show zz_ok (if e_1 = "" then ((m_X11_needBlock_X2 K n0 n1 n2 n3 n4 n5 n6 p1 s0 s1 s2 s3 s4 s5 s6 s7 s8 s9 s10 s11 s12 s13 s14).bind fun ⟨e_2, r_2, t_2_0, t_2_1, t_2_2, t_2_3, t_2_4, t_2_5, t_2_6, t_2_7, t_2_8, t_2_9, t_2_10, t_2_11, t_2_12, t_2_13, t_2_14⟩ => if e_2 = "" then ((m_X7_placeOf K n0 n1 n2 n3 n4 n5 n6 r_2 t_2_1 t_2_2 t_2_3 t_2_4 t_2_5 t_2_6 t_2_7 t_2_8 t_2_9 t_2_10 t_2_11 t_2_12 t_2_13).bind fun ⟨r_3, t_3_0, t_3_1, t_3_2, t_3_3, t_3_4, t_3_5, t_3_6, t_3_7, t_3_8, t_3_9, t_3_10, t_3_11, t_3_12⟩ => (m_X7_spanOf K n0 n1 n2 n3 n4 n5 n6 r_2 t_3_0 t_3_1 t_3_2 t_3_3 t_3_4 t_3_5 t_3_6 t_3_7 t_3_8 t_3_9 t_3_10 t_3_11 t_3_12).bind fun ⟨r_4, t_4_0, t_4_1, t_4_2, t_4_3, t_4_4, t_4_5, t_4_6, t_4_7, t_4_8, t_4_9, t_4_10, t_4_11, t_4_12⟩ => (m_X7_remove K n0 n1 n2 n3 n4 n5 n6 r_2 t_4_0 t_4_1 t_4_2 t_4_3 t_4_4 t_4_5 t_4_6 t_4_7 t_4_8 t_4_9 t_4_10 t_4_11 t_4_12).bind fun ⟨t_5_0, t_5_1, t_5_2, t_5_3, t_5_4, t_5_5, t_5_6, t_5_7, t_5_8, t_5_9, t_5_10, t_5_11, t_5_12⟩ => (m_X2_takeBack K n0 n1 n2 n3 n4 n5 n6 r_3 r_4 t_2_14 t_5_0 t_5_1 t_5_2 t_5_3 t_5_4 t_5_5 t_5_6 t_5_7 t_5_8 t_5_9 t_5_10 t_5_11 t_5_12).bind fun ⟨t_6_0, t_6_1, t_6_2, t_6_3, t_6_4, t_6_5, t_6_6, t_6_7, t_6_8, t_6_9, t_6_10, t_6_11, t_6_12, t_6_13⟩ => some ("", r_3, t_2_0, t_6_1, t_6_2, t_6_3, t_6_4, t_6_5, t_6_6, t_6_7, t_6_8, t_6_9, t_6_10, t_6_11, t_6_12, t_6_13, t_6_0)) else (some (e_2, 0, t_2_0, t_2_1, t_2_2, t_2_3, t_2_4, t_2_5, t_2_6, t_2_7, t_2_8, t_2_9, t_2_10, t_2_11, t_2_12, t_2_13, t_2_14))) else (some (e_1, 0, s0, s1, s2, s3, s4, s5, s6, s7, s8, s9, s10, s11, s12, s13, s14))) _
  refine zz_ok_ite (fun c42 => ?_) (fun c42 => absurd q11 c42)
  refine zz_ok_bind (gg_X11_needBlock_X2 K hK T hT n0 n1 n2 n3 n4 n5 n6 p1 s0 s1 s2 s3 s4 s5 s6 s7 s8 s9 s10 s11 s12 s13 s14 a0 a1 a2 a3 a4 a5 a6 a7 a8 a9 a10 a11 a12 a13) ?_
  intro z43 hz43
  obtain ⟨e_2, r_2, t_2_0, t_2_1, t_2_2, t_2_3, t_2_4, t_2_5, t_2_6, t_2_7, t_2_8, t_2_9, t_2_10, t_2_11, t_2_12, t_2_13, t_2_14⟩ := z43
  have q44 : zz_nb (s6) (p1) s2.toInt (e_2) r_2.toInt := hz43.1
  have q45 : t_2_0 = s0 := hz43.2.1
  have q46 : t_2_1 = s1 := hz43.2.2.1
  have q47 : t_2_2 = s2 := hz43.2.2.2.1
  have q48 : t_2_3 = s3 := hz43.2.2.2.2.1
  have q49 : t_2_4 = s4 := hz43.2.2.2.2.2.1
  have q50 : t_2_5 = s5 := hz43.2.2.2.2.2.2.1
  have q51 : t_2_6 = s6 := hz43.2.2.2.2.2.2.2.1
  have q52 : t_2_7 = s7 := hz43.2.2.2.2.2.2.2.2.1
  have q53 : t_2_8 = s8 := hz43.2.2.2.2.2.2.2.2.2.1
  have q54 : t_2_9 = s9 := hz43.2.2.2.2.2.2.2.2.2.2.1
  have q55 : t_2_10 = s10 := hz43.2.2.2.2.2.2.2.2.2.2.2.1
  have q56 : t_2_11 = s11 := hz43.2.2.2.2.2.2.2.2.2.2.2.2.1
  have q57 : t_2_12 = s12 := hz43.2.2.2.2.2.2.2.2.2.2.2.2.2.1
  have q58 : t_2_13 = s13 := hz43.2.2.2.2.2.2.2.2.2.2.2.2.2.2.1
  have q59 : t_2_14 = s14 := hz43.2.2.2.2.2.2.2.2.2.2.2.2.2.2.2
  clear hz43
  have e60 : s0 = t_2_0 := q45.symm
  subst e60
  have e61 : s1 = t_2_1 := q46.symm
  subst e61
  have e62 : s2 = t_2_2 := q47.symm
  subst e62
  have e63 : s3 = t_2_3 := q48.symm
  subst e63
  have e64 : s4 = t_2_4 := q49.symm
  subst e64
  have e65 : s5 = t_2_5 := q50.symm
  subst e65
  have e66 : s6 = t_2_6 := q51.symm
  subst e66
  have e67 : s7 = t_2_7 := q52.symm
  subst e67
  have e68 : s8 = t_2_8 := q53.symm
  subst e68
  have e69 : s9 = t_2_9 := q54.symm
  subst e69
  have e70 : s10 = t_2_10 := q55.symm
  subst e70
  have e71 : s11 = t_2_11 := q56.symm
  subst e71
  have e72 : s12 = t_2_12 := q57.symm
  subst e72
  have e73 : s13 = t_2_13 := q58.symm
  subst e73
  have e74 : s14 = t_2_14 := q59.symm
  subst e74
  have g75 := zz_rg r_2
  show zz_ok (if e_2 = "" then ((m_X7_placeOf K n0 n1 n2 n3 n4 n5 n6 r_2 s1 s2 s3 s4 s5 s6 s7 s8 s9 s10 s11 s12 s13).bind fun ⟨r_3, t_3_0, t_3_1, t_3_2, t_3_3, t_3_4, t_3_5, t_3_6, t_3_7, t_3_8, t_3_9, t_3_10, t_3_11, t_3_12⟩ => (m_X7_spanOf K n0 n1 n2 n3 n4 n5 n6 r_2 t_3_0 t_3_1 t_3_2 t_3_3 t_3_4 t_3_5 t_3_6 t_3_7 t_3_8 t_3_9 t_3_10 t_3_11 t_3_12).bind fun ⟨r_4, t_4_0, t_4_1, t_4_2, t_4_3, t_4_4, t_4_5, t_4_6, t_4_7, t_4_8, t_4_9, t_4_10, t_4_11, t_4_12⟩ => (m_X7_remove K n0 n1 n2 n3 n4 n5 n6 r_2 t_4_0 t_4_1 t_4_2 t_4_3 t_4_4 t_4_5 t_4_6 t_4_7 t_4_8 t_4_9 t_4_10 t_4_11 t_4_12).bind fun ⟨t_5_0, t_5_1, t_5_2, t_5_3, t_5_4, t_5_5, t_5_6, t_5_7, t_5_8, t_5_9, t_5_10, t_5_11, t_5_12⟩ => (m_X2_takeBack K n0 n1 n2 n3 n4 n5 n6 r_3 r_4 s14 t_5_0 t_5_1 t_5_2 t_5_3 t_5_4 t_5_5 t_5_6 t_5_7 t_5_8 t_5_9 t_5_10 t_5_11 t_5_12).bind fun ⟨t_6_0, t_6_1, t_6_2, t_6_3, t_6_4, t_6_5, t_6_6, t_6_7, t_6_8, t_6_9, t_6_10, t_6_11, t_6_12, t_6_13⟩ => some ("", r_3, s0, t_6_1, t_6_2, t_6_3, t_6_4, t_6_5, t_6_6, t_6_7, t_6_8, t_6_9, t_6_10, t_6_11, t_6_12, t_6_13, t_6_0)) else (some (e_2, 0, s0, s1, s2, s3, s4, s5, s6, s7, s8, s9, s10, s11, s12, s13, s14))) _
  refine zz_ok_ite (fun c76 => ?_) (fun c76 => ?_)
  · skip
    have nb9 := zz_nb_rg (by assumption : zz_nb s6 p1 s2.toInt e_2 _) c76
    have ct9 := zz_vs_at (by assumption : zz_vs s1.toInt s7 s8 s2.toInt) r_2 (by omega) (by omega)
    refine zz_ok_bind (ff_X7_placeOf K hK T hT n0 n1 n2 n3 n4 n5 n6 r_2 s1 s2 s3 s4 s5 s6 s7 s8 s9 s10 s11 s12 s13 a2 (by omega) (by omega) a10) ?_
    intro z77 hz77
    obtain ⟨r_3, t_3_0, t_3_1, t_3_2, t_3_3, t_3_4, t_3_5, t_3_6, t_3_7, t_3_8, t_3_9, t_3_10, t_3_11, t_3_12⟩ := z77
    have q78 : r_3 = s7 r_2.toNatClampNeg := hz77.1
    have q79 : t_3_0 = s1 := hz77.2.1
    have q80 : t_3_1 = s2 := hz77.2.2.1
    have q81 : t_3_2 = s3 := hz77.2.2.2.1
    have q82 : t_3_3 = s4 := hz77.2.2.2.2.1
    have q83 : t_3_4 = s5 := hz77.2.2.2.2.2.1
    have q84 : t_3_5 = s6 := hz77.2.2.2.2.2.2.1
    have q85 : t_3_6 = s7 := hz77.2.2.2.2.2.2.2.1
    have q86 : t_3_7 = s8 := hz77.2.2.2.2.2.2.2.2.1
    have q87 : t_3_8 = s9 := hz77.2.2.2.2.2.2.2.2.2.1
    have q88 : t_3_9 = s10 := hz77.2.2.2.2.2.2.2.2.2.2.1
    have q89 : t_3_10 = s11 := hz77.2.2.2.2.2.2.2.2.2.2.2.1
    have q90 : t_3_11 = s12 := hz77.2.2.2.2.2.2.2.2.2.2.2.2.1
    have q91 : t_3_12 = s13 := hz77.2.2.2.2.2.2.2.2.2.2.2.2.2
    clear hz77
    have e92 : s7 r_2.toNatClampNeg = r_3 := q78.symm
    subst e92
    have e93 : s1 = t_3_0 := q79.symm
    subst e93
    have e94 : s2 = t_3_1 := q80.symm
    subst e94
    have e95 : s3 = t_3_2 := q81.symm
    subst e95
    have e96 : s4 = t_3_3 := q82.symm
    subst e96
    have e97 : s5 = t_3_4 := q83.symm
    subst e97
    have e98 : s6 = t_3_5 := q84.symm
    subst e98
    have e99 : s7 = t_3_6 := q85.symm
    subst e99
    have e100 : s8 = t_3_7 := q86.symm
    subst e100
    have e101 : s9 = t_3_8 := q87.symm
    subst e101
    have e102 : s10 = t_3_9 := q88.symm
    subst e102
    have e103 : s11 = t_3_10 := q89.symm
    subst e103
    have e104 : s12 = t_3_11 := q90.symm
    subst e104
    have e105 : s13 = t_3_12 := q91.symm
    subst e105
    show zz_ok ((m_X7_spanOf K n0 n1 n2 n3 n4 n5 n6 r_2 s1 s2 s3 s4 s5 s6 s7 s8 s9 s10 s11 s12 s13).bind fun ⟨r_4, t_4_0, t_4_1, t_4_2, t_4_3, t_4_4, t_4_5, t_4_6, t_4_7, t_4_8, t_4_9, t_4_10, t_4_11, t_4_12⟩ => (m_X7_remove K n0 n1 n2 n3 n4 n5 n6 r_2 t_4_0 t_4_1 t_4_2 t_4_3 t_4_4 t_4_5 t_4_6 t_4_7 t_4_8 t_4_9 t_4_10 t_4_11 t_4_12).bind fun ⟨t_5_0, t_5_1, t_5_2, t_5_3, t_5_4, t_5_5, t_5_6, t_5_7, t_5_8, t_5_9, t_5_10, t_5_11, t_5_12⟩ => (m_X2_takeBack K n0 n1 n2 n3 n4 n5 n6 (s7 r_2.toNatClampNeg) r_4 s14 t_5_0 t_5_1 t_5_2 t_5_3 t_5_4 t_5_5 t_5_6 t_5_7 t_5_8 t_5_9 t_5_10 t_5_11 t_5_12).bind fun ⟨t_6_0, t_6_1, t_6_2, t_6_3, t_6_4, t_6_5, t_6_6, t_6_7, t_6_8, t_6_9, t_6_10, t_6_11, t_6_12, t_6_13⟩ => some ("", (s7 r_2.toNatClampNeg), s0, t_6_1, t_6_2, t_6_3, t_6_4, t_6_5, t_6_6, t_6_7, t_6_8, t_6_9, t_6_10, t_6_11, t_6_12, t_6_13, t_6_0)) _
    refine zz_ok_bind (ff_X7_spanOf K hK T hT n0 n1 n2 n3 n4 n5 n6 r_2 s1 s2 s3 s4 s5 s6 s7 s8 s9 s10 s11 s12 s13 a3 (by omega) (by omega) a10) ?_
    intro z106 hz106
    obtain ⟨r_4, t_4_0, t_4_1, t_4_2, t_4_3, t_4_4, t_4_5, t_4_6, t_4_7, t_4_8, t_4_9, t_4_10, t_4_11, t_4_12⟩ := z106
    have q107 : r_4 = s8 r_2.toNatClampNeg := hz106.1
    have q108 : t_4_0 = s1 := hz106.2.1
    have q109 : t_4_1 = s2 := hz106.2.2.1
    have q110 : t_4_2 = s3 := hz106.2.2.2.1
    have q111 : t_4_3 = s4 := hz106.2.2.2.2.1
    have q112 : t_4_4 = s5 := hz106.2.2.2.2.2.1
    have q113 : t_4_5 = s6 := hz106.2.2.2.2.2.2.1
    have q114 : t_4_6 = s7 := hz106.2.2.2.2.2.2.2.1
    have q115 : t_4_7 = s8 := hz106.2.2.2.2.2.2.2.2.1
    have q116 : t_4_8 = s9 := hz106.2.2.2.2.2.2.2.2.2.1
    have q117 : t_4_9 = s10 := hz106.2.2.2.2.2.2.2.2.2.2.1
    have q118 : t_4_10 = s11 := hz106.2.2.2.2.2.2.2.2.2.2.2.1
    have q119 : t_4_11 = s12 := hz106.2.2.2.2.2.2.2.2.2.2.2.2.1
    have q120 : t_4_12 = s13 := hz106.2.2.2.2.2.2.2.2.2.2.2.2.2
    clear hz106
    have e121 : s8 r_2.toNatClampNeg = r_4 := q107.symm
    subst e121
    have e122 : s1 = t_4_0 := q108.symm
    subst e122
    have e123 : s2 = t_4_1 := q109.symm
    subst e123
    have e124 : s3 = t_4_2 := q110.symm
    subst e124
    have e125 : s4 = t_4_3 := q111.symm
    subst e125
    have e126 : s5 = t_4_4 := q112.symm
    subst e126
    have e127 : s6 = t_4_5 := q113.symm
    subst e127
    have e128 : s7 = t_4_6 := q114.symm
    subst e128
    have e129 : s8 = t_4_7 := q115.symm
    subst e129
    have e130 : s9 = t_4_8 := q116.symm
    subst e130
    have e131 : s10 = t_4_9 := q117.symm
    subst e131
    have e132 : s11 = t_4_10 := q118.symm
    subst e132
    have e133 : s12 = t_4_11 := q119.symm
    subst e133
    have e134 : s13 = t_4_12 := q120.symm
    subst e134
    show zz_ok ((m_X7_remove K n0 n1 n2 n3 n4 n5 n6 r_2 s1 s2 s3 s4 s5 s6 s7 s8 s9 s10 s11 s12 s13).bind fun ⟨t_5_0, t_5_1, t_5_2, t_5_3, t_5_4, t_5_5, t_5_6, t_5_7, t_5_8, t_5_9, t_5_10, t_5_11, t_5_12⟩ => (m_X2_takeBack K n0 n1 n2 n3 n4 n5 n6 (s7 r_2.toNatClampNeg) (s8 r_2.toNatClampNeg) s14 t_5_0 t_5_1 t_5_2 t_5_3 t_5_4 t_5_5 t_5_6 t_5_7 t_5_8 t_5_9 t_5_10 t_5_11 t_5_12).bind fun ⟨t_6_0, t_6_1, t_6_2, t_6_3, t_6_4, t_6_5, t_6_6, t_6_7, t_6_8, t_6_9, t_6_10, t_6_11, t_6_12, t_6_13⟩ => some ("", (s7 r_2.toNatClampNeg), s0, t_6_1, t_6_2, t_6_3, t_6_4, t_6_5, t_6_6, t_6_7, t_6_8, t_6_9, t_6_10, t_6_11, t_6_12, t_6_13, t_6_0)) _
    refine zz_ok_bind (ff_X7_remove K hK T hT n0 n1 n2 n3 n4 n5 n6 r_2 s1 s2 s3 s4 s5 s6 s7 s8 s9 s10 s11 s12 s13 a0 a1 a2 a3 a4 a5 a6 (by omega) (by omega) a10 (by omega) (by omega) (by omega) a8) ?_
    intro z135 hz135
    obtain ⟨t_5_0, t_5_1, t_5_2, t_5_3, t_5_4, t_5_5, t_5_6, t_5_7, t_5_8, t_5_9, t_5_10, t_5_11, t_5_12⟩ := z135
    have q136 : t_5_1.toInt = s2.toInt - 1 := hz135.1
    have q137 : zz_wr (s5) (t_5_4) (s7 r_2.toNatClampNeg).toInt ((s7 r_2.toNatClampNeg).toInt + (s8 r_2.toNatClampNeg).toInt) (-1) := hz135.2.1
    have q138 : zz_mv (s6) (t_5_5) r_2.toInt s2.toInt := hz135.2.2.1
    have q139 : zz_mv (s7) (t_5_6) r_2.toInt s2.toInt := hz135.2.2.2.1
    have q140 : zz_mv (s8) (t_5_7) r_2.toInt s2.toInt := hz135.2.2.2.2.1
    have q141 : zz_mv (s9) (t_5_8) r_2.toInt s2.toInt := hz135.2.2.2.2.2.1
    have q142 : t_5_0 = s1 := hz135.2.2.2.2.2.2.1
    have q143 : t_5_2 = s3 := hz135.2.2.2.2.2.2.2.1
    have q144 : t_5_3 = s4 := hz135.2.2.2.2.2.2.2.2.1
    have q145 : t_5_9 = s10 := hz135.2.2.2.2.2.2.2.2.2.1
    have q146 : t_5_10 = s11 := hz135.2.2.2.2.2.2.2.2.2.2.1
    have q147 : t_5_11 = s12 := hz135.2.2.2.2.2.2.2.2.2.2.2.1
    have q148 : t_5_12 = s13 := hz135.2.2.2.2.2.2.2.2.2.2.2.2
    clear hz135
    have e149 : s1 = t_5_0 := q142.symm
    subst e149
    have e150 : s3 = t_5_2 := q143.symm
    subst e150
    have e151 : s4 = t_5_3 := q144.symm
    subst e151
    have e152 : s10 = t_5_9 := q145.symm
    subst e152
    have e153 : s11 = t_5_10 := q146.symm
    subst e153
    have e154 : s12 = t_5_11 := q147.symm
    subst e154
    have e155 : s13 = t_5_12 := q148.symm
    subst e155
    have g156 := zz_rg t_5_1
    show zz_ok ((m_X2_takeBack K n0 n1 n2 n3 n4 n5 n6 (s7 r_2.toNatClampNeg) (s8 r_2.toNatClampNeg) s14 s1 t_5_1 s3 s4 t_5_4 t_5_5 t_5_6 t_5_7 t_5_8 s10 s11 s12 s13).bind fun ⟨t_6_0, t_6_1, t_6_2, t_6_3, t_6_4, t_6_5, t_6_6, t_6_7, t_6_8, t_6_9, t_6_10, t_6_11, t_6_12, t_6_13⟩ => some ("", (s7 r_2.toNatClampNeg), s0, t_6_1, t_6_2, t_6_3, t_6_4, t_6_5, t_6_6, t_6_7, t_6_8, t_6_9, t_6_10, t_6_11, t_6_12, t_6_13, t_6_0)) _
    have g157 := zz_rg (s7 r_2.toNatClampNeg)
    have g158 := zz_rg (s8 r_2.toNatClampNeg)
    refine zz_ok_bind (gg_X2_takeBack K hK T hT n0 n1 n2 n3 n4 n5 n6 (s7 r_2.toNatClampNeg) (s8 r_2.toNatClampNeg) s14 s1 t_5_1 s3 s4 t_5_4 t_5_5 t_5_6 t_5_7 t_5_8 s10 s11 s12 s13) ?_
    intro z159 hz159
    obtain ⟨t_6_0, t_6_1, t_6_2, t_6_3, t_6_4, t_6_5, t_6_6, t_6_7, t_6_8, t_6_9, t_6_10, t_6_11, t_6_12, t_6_13⟩ := z159
    have q160 : t_6_0 = s14 := hz159.1
    have q161 : t_6_1 = s1 := hz159.2.1
    have q162 : t_6_2 = t_5_1 := hz159.2.2.1
    have q163 : t_6_3 = s3 := hz159.2.2.2.1
    have q164 : t_6_4 = s4 := hz159.2.2.2.2.1
    have q165 : t_6_5 = t_5_4 := hz159.2.2.2.2.2.1
    have q166 : t_6_6 = t_5_5 := hz159.2.2.2.2.2.2.1
    have q167 : t_6_7 = t_5_6 := hz159.2.2.2.2.2.2.2.1
    have q168 : t_6_8 = t_5_7 := hz159.2.2.2.2.2.2.2.2.1
    have q169 : t_6_9 = t_5_8 := hz159.2.2.2.2.2.2.2.2.2.1
    have q170 : t_6_10 = s10 := hz159.2.2.2.2.2.2.2.2.2.2.1
    have q171 : t_6_11 = s11 := hz159.2.2.2.2.2.2.2.2.2.2.2.1
    have q172 : t_6_12 = s12 := hz159.2.2.2.2.2.2.2.2.2.2.2.2.1
    have q173 : t_6_13 = s13 := hz159.2.2.2.2.2.2.2.2.2.2.2.2.2
    clear hz159
    have e174 : s14 = t_6_0 := q160.symm
    subst e174
    have e175 : s1 = t_6_1 := q161.symm
    subst e175
    have e176 : t_5_1 = t_6_2 := q162.symm
    subst e176
    have e177 : s3 = t_6_3 := q163.symm
    subst e177
    have e178 : s4 = t_6_4 := q164.symm
    subst e178
    have e179 : t_5_4 = t_6_5 := q165.symm
    subst e179
    have e180 : t_5_5 = t_6_6 := q166.symm
    subst e180
    have e181 : t_5_6 = t_6_7 := q167.symm
    subst e181
    have e182 : t_5_7 = t_6_8 := q168.symm
    subst e182
    have e183 : t_5_8 = t_6_9 := q169.symm
    subst e183
    have e184 : s10 = t_6_10 := q170.symm
    subst e184
    have e185 : s11 = t_6_11 := q171.symm
    subst e185
    have e186 : s12 = t_6_12 := q172.symm
    subst e186
    have e187 : s13 = t_6_13 := q173.symm
    subst e187
    show zz_ok (some ("", (s7 r_2.toNatClampNeg), s0, s1, t_5_1, s3, s4, t_5_4, t_5_5, t_5_6, t_5_7, t_5_8, s10, s11, s12, s13, s14)) _
    refine zz_ok_some ?_
    show zz_BE (("")) (p1) s2.toInt (s6) (s7) (s8) (s9) (s7 r_2.toNatClampNeg).toInt t_5_1.toInt (t_5_5) (t_5_6) (t_5_7) (t_5_8) (t_5_4 = s5 ∧ s14 = s14) (fun (p s : Int32) => zz_wr (s5) (t_5_4) p.toInt (p.toInt + s.toInt) (-1) ∧ s14 = s14) ∧ zz_vs s1.toInt (t_5_6) (t_5_7) t_5_1.toInt ∧ 0 ≤ t_5_1.toInt ∧ t_5_1.toInt ≤ 200 ∧ s0 = s0 ∧ s1 = s1 ∧ s3 = s3 ∧ s4 = s4 ∧ s10 = s10 ∧ s11 = s11 ∧ s12 = s12 ∧ s13 = s13
    exact ⟨(by first | exact zz_BE_n (by assumption) (by assumption) rfl rfl ⟨rfl, rfl⟩ | exact zz_BE_y (x := r_2) (by assumption) (by assumption) rfl rfl (by omega) (by assumption) (by assumption) (by assumption) (by assumption) ⟨by assumption, rfl⟩), (by first | assumption | exact zz_vs_mv (by assumption : zz_vs s1.toInt s7 s8 s2.toInt) (by assumption) (by assumption) (by omega) (by omega) (by omega)), (by omega), (by omega), (by first | rfl | (exfalso; omega)), (by first | rfl | (exfalso; omega)), (by first | rfl | (exfalso; omega)), (by first | rfl | (exfalso; omega)), (by first | rfl | (exfalso; omega)), (by first | rfl | (exfalso; omega)), (by first | rfl | (exfalso; omega)), (by first | rfl | (exfalso; omega))⟩
  · skip
    have l188 : (0 : Int32).toInt = 0 := rfl
    refine zz_ok_some ?_
    show zz_BE (e_2) (p1) s2.toInt (s6) (s7) (s8) (s9) (0 : Int32).toInt s2.toInt (s6) (s7) (s8) (s9) (s5 = s5 ∧ s14 = s14) (fun (p s : Int32) => zz_wr (s5) (s5) p.toInt (p.toInt + s.toInt) (-1) ∧ s14 = s14) ∧ zz_vs s1.toInt (s7) (s8) s2.toInt ∧ 0 ≤ s2.toInt ∧ s2.toInt ≤ 200 ∧ s0 = s0 ∧ s1 = s1 ∧ s3 = s3 ∧ s4 = s4 ∧ s10 = s10 ∧ s11 = s11 ∧ s12 = s12 ∧ s13 = s13
    exact ⟨(by first | exact zz_BE_n (by assumption) (by assumption) rfl rfl ⟨rfl, rfl⟩ | exact zz_BE_y (x := r_2) (by assumption) (by assumption) rfl rfl (by omega) (by assumption) (by assumption) (by assumption) (by assumption) ⟨by assumption, rfl⟩), a11, a9, a10, (by first | rfl | (exfalso; omega)), (by first | rfl | (exfalso; omega)), (by first | rfl | (exfalso; omega)), (by first | rfl | (exfalso; omega)), (by first | rfl | (exfalso; omega)), (by first | rfl | (exfalso; omega)), (by first | rfl | (exfalso; omega)), (by first | rfl | (exfalso; omega))⟩
set_option maxHeartbeats 4000000 in
theorem gg_X11_open_X2 (K : Nat) (hK : 1099511627776 ≤ K) (T : Nat) (hT : T ≤ 900) (n0 : Nat) (n1 : Nat) (n2 : Nat) (n3 : Nat) (n4 : Nat) (n5 : Nat) (n6 : Nat) (p1 : Int32) (p2 : Int32) (s0 : Int32) (s1 : Int32) (s2 : Int32) (s3 : Int32) (s4 : Int32) (s5 : Nat → Int32) (s6 : Nat → Int32) (s7 : Nat → Int32) (s8 : Nat → Int32) (s9 : Nat → Int32) (s10 : Int32) (s11 : Int32) (s12 : Nat → Int32) (s13 : Nat → Int32) (s14 : Int32) (a0 : n0 = 1024) (a1 : n1 = 200) (a2 : n2 = 200) (a3 : n3 = 200) (a4 : n4 = 200) (a5 : n5 = 512) (a6 : n6 = 512) : zz_ok (m_X11_open_X2 K n0 n1 n2 n3 n4 n5 n6 p1 p2 s0 s1 s2 s3 s4 s5 s6 s7 s8 s9 s10 s11 s12 s13 s14) (fun z => zz_OE (z.1) p1.toInt p2.toInt (z.2.1 = s0 ∧ z.2.2.1 = s1 ∧ z.2.2.2.1 = s2 ∧ z.2.2.2.2.1 = s3 ∧ z.2.2.2.2.2.1 = s4 ∧ z.2.2.2.2.2.2.1 = s5 ∧ z.2.2.2.2.2.2.2.1 = s6 ∧ z.2.2.2.2.2.2.2.2.1 = s7 ∧ z.2.2.2.2.2.2.2.2.2.1 = s8 ∧ z.2.2.2.2.2.2.2.2.2.2.1 = s9 ∧ z.2.2.2.2.2.2.2.2.2.2.2.1 = s10 ∧ z.2.2.2.2.2.2.2.2.2.2.2.2.1 = s11 ∧ z.2.2.2.2.2.2.2.2.2.2.2.2.2.1 = s12 ∧ z.2.2.2.2.2.2.2.2.2.2.2.2.2.2.1 = s13 ∧ z.2.2.2.2.2.2.2.2.2.2.2.2.2.2.2 = s14) z.2.1.toInt z.2.2.1.toInt z.2.2.2.1.toInt z.2.2.2.2.1.toInt (z.2.2.2.2.2.2.1) (z.2.2.2.2.2.2.2.2.2.2.2.2.2.2.2.toInt = p2.toInt / 4)) := by
  have g1 := zz_rg p1
  have g2 := zz_rg p2
  have g3 := zz_rg s0
  have g4 := zz_rg s1
  have g5 := zz_rg s2
  have g6 := zz_rg s3
  have g7 := zz_rg s4
  have g8 := zz_rg s10
  have g9 := zz_rg s11
  have g10 := zz_rg s14
  unfold m_X11_open_X2
  have l12 : (0 : Int32).toInt = 0 := rfl
  refine zz_ok_ite (fun c11 => ?_) (fun c11 => ?_)
  · have c11 := Int32.lt_iff_toInt_lt.mp c11
    refine zz_ok_some ?_
    show zz_OE (("java/lang/IllegalArgumentException")) p1.toInt p2.toInt (s0 = s0 ∧ s1 = s1 ∧ s2 = s2 ∧ s3 = s3 ∧ s4 = s4 ∧ s5 = s5 ∧ s6 = s6 ∧ s7 = s7 ∧ s8 = s8 ∧ s9 = s9 ∧ s10 = s10 ∧ s11 = s11 ∧ s12 = s12 ∧ s13 = s13 ∧ s14 = s14) s0.toInt s1.toInt s2.toInt s3.toInt (s5) (s14.toInt = p2.toInt / 4)
    exact (by first | exact Or.inl ⟨rfl, by omega, rfl, rfl, rfl, rfl, rfl, rfl, rfl, rfl, rfl, rfl, rfl, rfl, rfl, rfl, rfl⟩ | exact Or.inr ⟨rfl, by omega, by omega, by omega, by omega, rfl, by omega, by omega, by omega, by assumption, by omega⟩)
  · have c11 := zz_nlt c11
    have l14 : (10 : Int32).toInt = 10 := rfl
    refine zz_ok_ite (fun c13 => ?_) (fun c13 => ?_)
    · have c13 := Int32.lt_iff_toInt_lt.mp c13
      have l16 : (16 : Int32).toInt = 16 := rfl
      refine zz_ok_ite (fun c15 => ?_) (fun c15 => ?_)
      · have c15 := Int32.lt_iff_toInt_lt.mp c15
        refine zz_ok_some ?_
        show zz_OE (("java/lang/IllegalArgumentException")) p1.toInt p2.toInt (s0 = s0 ∧ s1 = s1 ∧ s2 = s2 ∧ s3 = s3 ∧ s4 = s4 ∧ s5 = s5 ∧ s6 = s6 ∧ s7 = s7 ∧ s8 = s8 ∧ s9 = s9 ∧ s10 = s10 ∧ s11 = s11 ∧ s12 = s12 ∧ s13 = s13 ∧ s14 = s14) s0.toInt s1.toInt s2.toInt s3.toInt (s5) (s14.toInt = p2.toInt / 4)
        exact (by first | exact Or.inl ⟨rfl, by omega, rfl, rfl, rfl, rfl, rfl, rfl, rfl, rfl, rfl, rfl, rfl, rfl, rfl, rfl, rfl⟩ | exact Or.inr ⟨rfl, by omega, by omega, by omega, by omega, rfl, by omega, by omega, by omega, by assumption, by omega⟩)
      · have c15 := zz_nlt c15
        have l18 : (1024 : Int32).toInt = 1024 := rfl
        refine zz_ok_ite (fun c17 => ?_) (fun c17 => ?_)
        · have c17 := Int32.le_iff_toInt_le.mp c17
          refine zz_ok_bind (ff_X7_empty K hK T hT n0 n1 n2 n3 n4 n5 n6 p2 s1 s2 s3 s4 s5 s6 s7 s8 s9 s10 s11 s12 s13 a0 a1 a2 a3 a4 a5 a6 (by omega) (by omega)) ?_
          intro z19 hz19
          obtain ⟨t_5_0, t_5_1, t_5_2, t_5_3, t_5_4, t_5_5, t_5_6, t_5_7, t_5_8, t_5_9, t_5_10, t_5_11, t_5_12⟩ := z19
          have q20 : t_5_0.toInt = p2.toInt := hz19.1
          have q21 : t_5_1.toInt = 0 := hz19.2.1
          have q22 : t_5_2.toInt = 0 := hz19.2.2.1
          have q23 : zz_fl (t_5_4) (-1) 1024 := hz19.2.2.2.1
          have q24 : t_5_5 = s6 := hz19.2.2.2.2.1
          have q25 : t_5_6 = s7 := hz19.2.2.2.2.2.1
          have q26 : t_5_7 = s8 := hz19.2.2.2.2.2.2.1
          have q27 : t_5_8 = s9 := hz19.2.2.2.2.2.2.2.1
          have q28 : t_5_9 = s10 := hz19.2.2.2.2.2.2.2.2.1
          have q29 : t_5_10 = s11 := hz19.2.2.2.2.2.2.2.2.2.1
          have q30 : t_5_11 = s12 := hz19.2.2.2.2.2.2.2.2.2.2.1
          have q31 : t_5_12 = s13 := hz19.2.2.2.2.2.2.2.2.2.2.2
          clear hz19
          have e32 : s6 = t_5_5 := q24.symm
          subst e32
          have e33 : s7 = t_5_6 := q25.symm
          subst e33
          have e34 : s8 = t_5_7 := q26.symm
          subst e34
          have e35 : s9 = t_5_8 := q27.symm
          subst e35
          have e36 : s10 = t_5_9 := q28.symm
          subst e36
          have e37 : s11 = t_5_10 := q29.symm
          subst e37
          have e38 : s12 = t_5_11 := q30.symm
          subst e38
          have e39 : s13 = t_5_12 := q31.symm
          subst e39
          have g40 := zz_rg t_5_0
          have g41 := zz_rg t_5_1
          have g42 := zz_rg t_5_2
          have g43 := zz_rg t_5_3
          show zz_ok (if ¬ (p1 < 0 ∨ 10 ≤ p1.toNatClampNeg) then ((m_X2_begin K n0 n1 n2 n3 n4 n5 n6 s14 t_5_0 t_5_1 t_5_2 t_5_3 t_5_4 s6 s7 s8 s9 s10 s11 s12 s13).bind fun ⟨t_7_0, t_7_1, t_7_2, t_7_3, t_7_4, t_7_5, t_7_6, t_7_7, t_7_8, t_7_9, t_7_10, t_7_11, t_7_12, t_7_13⟩ => some ("", p1, t_7_1, t_7_2, t_7_3, t_7_4, t_7_5, t_7_6, t_7_7, t_7_8, t_7_9, t_7_10, t_7_11, t_7_12, t_7_13, t_7_0)) else none) _
          refine zz_ok_chk (zz_ix (by omega) (by omega)) ?_
          have g44 := zz_tnI p1 (by omega)
          refine zz_ok_bind (gg_X2_begin K hK T hT n0 n1 n2 n3 n4 n5 n6 s14 t_5_0 t_5_1 t_5_2 t_5_3 t_5_4 s6 s7 s8 s9 s10 s11 s12 s13 a0 a1 a2 a3 a4 a5 a6 (by omega) (by omega)) ?_
          intro z45 hz45
          obtain ⟨t_7_0, t_7_1, t_7_2, t_7_3, t_7_4, t_7_5, t_7_6, t_7_7, t_7_8, t_7_9, t_7_10, t_7_11, t_7_12, t_7_13⟩ := z45
          have q46 : t_7_0.toInt = t_5_0.toInt / 4 := hz45.1
          have q47 : t_7_1 = t_5_0 := hz45.2.1
          have q48 : t_7_2 = t_5_1 := hz45.2.2.1
          have q49 : t_7_3 = t_5_2 := hz45.2.2.2.1
          have q50 : t_7_4 = t_5_3 := hz45.2.2.2.2.1
          have q51 : t_7_5 = t_5_4 := hz45.2.2.2.2.2.1
          have q52 : t_7_6 = s6 := hz45.2.2.2.2.2.2.1
          have q53 : t_7_7 = s7 := hz45.2.2.2.2.2.2.2.1
          have q54 : t_7_8 = s8 := hz45.2.2.2.2.2.2.2.2.1
          have q55 : t_7_9 = s9 := hz45.2.2.2.2.2.2.2.2.2.1
          have q56 : t_7_10 = s10 := hz45.2.2.2.2.2.2.2.2.2.2.1
          have q57 : t_7_11 = s11 := hz45.2.2.2.2.2.2.2.2.2.2.2.1
          have q58 : t_7_12 = s12 := hz45.2.2.2.2.2.2.2.2.2.2.2.2.1
          have q59 : t_7_13 = s13 := hz45.2.2.2.2.2.2.2.2.2.2.2.2.2
          clear hz45
          have e60 : t_5_0 = t_7_1 := q47.symm
          subst e60
          have e61 : t_5_1 = t_7_2 := q48.symm
          subst e61
          have e62 : t_5_2 = t_7_3 := q49.symm
          subst e62
          have e63 : t_5_3 = t_7_4 := q50.symm
          subst e63
          have e64 : t_5_4 = t_7_5 := q51.symm
          subst e64
          have e65 : s6 = t_7_6 := q52.symm
          subst e65
          have e66 : s7 = t_7_7 := q53.symm
          subst e66
          have e67 : s8 = t_7_8 := q54.symm
          subst e67
          have e68 : s9 = t_7_9 := q55.symm
          subst e68
          have e69 : s10 = t_7_10 := q56.symm
          subst e69
          have e70 : s11 = t_7_11 := q57.symm
          subst e70
          have e71 : s12 = t_7_12 := q58.symm
          subst e71
          have e72 : s13 = t_7_13 := q59.symm
          subst e72
          have g73 := zz_rg t_7_0
          show zz_ok (some ("", p1, t_5_0, t_5_1, t_5_2, t_5_3, t_5_4, s6, s7, s8, s9, s10, s11, s12, s13, t_7_0)) _
          refine zz_ok_some ?_
          show zz_OE (("")) p1.toInt p2.toInt (p1 = s0 ∧ t_5_0 = s1 ∧ t_5_1 = s2 ∧ t_5_2 = s3 ∧ t_5_3 = s4 ∧ t_5_4 = s5 ∧ s6 = s6 ∧ s7 = s7 ∧ s8 = s8 ∧ s9 = s9 ∧ s10 = s10 ∧ s11 = s11 ∧ s12 = s12 ∧ s13 = s13 ∧ t_7_0 = s14) p1.toInt t_5_0.toInt t_5_1.toInt t_5_2.toInt (t_5_4) (t_7_0.toInt = p2.toInt / 4)
          exact (by first | exact Or.inl ⟨rfl, by omega, rfl, rfl, rfl, rfl, rfl, rfl, rfl, rfl, rfl, rfl, rfl, rfl, rfl, rfl, rfl⟩ | exact Or.inr ⟨rfl, by omega, by omega, by omega, by omega, rfl, by omega, by omega, by omega, by assumption, by omega⟩)
        · have c17 := zz_nle c17
          refine zz_ok_some ?_
          show zz_OE (("java/lang/IllegalArgumentException")) p1.toInt p2.toInt (s0 = s0 ∧ s1 = s1 ∧ s2 = s2 ∧ s3 = s3 ∧ s4 = s4 ∧ s5 = s5 ∧ s6 = s6 ∧ s7 = s7 ∧ s8 = s8 ∧ s9 = s9 ∧ s10 = s10 ∧ s11 = s11 ∧ s12 = s12 ∧ s13 = s13 ∧ s14 = s14) s0.toInt s1.toInt s2.toInt s3.toInt (s5) (s14.toInt = p2.toInt / 4)
          exact (by first | exact Or.inl ⟨rfl, by omega, rfl, rfl, rfl, rfl, rfl, rfl, rfl, rfl, rfl, rfl, rfl, rfl, rfl, rfl, rfl⟩ | exact Or.inr ⟨rfl, by omega, by omega, by omega, by omega, rfl, by omega, by omega, by omega, by assumption, by omega⟩)
    · have c13 := zz_nlt c13
      refine zz_ok_some ?_
      show zz_OE (("java/lang/IllegalArgumentException")) p1.toInt p2.toInt (s0 = s0 ∧ s1 = s1 ∧ s2 = s2 ∧ s3 = s3 ∧ s4 = s4 ∧ s5 = s5 ∧ s6 = s6 ∧ s7 = s7 ∧ s8 = s8 ∧ s9 = s9 ∧ s10 = s10 ∧ s11 = s11 ∧ s12 = s12 ∧ s13 = s13 ∧ s14 = s14) s0.toInt s1.toInt s2.toInt s3.toInt (s5) (s14.toInt = p2.toInt / 4)
      exact (by first | exact Or.inl ⟨rfl, by omega, rfl, rfl, rfl, rfl, rfl, rfl, rfl, rfl, rfl, rfl, rfl, rfl, rfl, rfl, rfl⟩ | exact Or.inr ⟨rfl, by omega, by omega, by omega, by omega, rfl, by omega, by omega, by omega, by assumption, by omega⟩)

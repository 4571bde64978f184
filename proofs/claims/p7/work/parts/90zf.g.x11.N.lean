set_option maxHeartbeats 4000000 in
theorem gg_X11_needRoom_N (K : Nat) (hK : 1099511627776 ≤ K) (T : Nat) (hT : T ≤ 900) (n0 : Nat) (n1 : Nat) (n2 : Nat) (n3 : Nat) (n4 : Nat) (n5 : Nat) (n6 : Nat) (s0 : Int32) (s1 : Int32) (s2 : Int32) (s3 : Int32) (s4 : Int32) (s5 : Nat → Int32) (s6 : Nat → Int32) (s7 : Nat → Int32) (s8 : Nat → Int32) (s9 : Nat → Int32) (s10 : Int32) (s11 : Int32) (s12 : Nat → Int32) (s13 : Nat → Int32) : zz_ok (m_X11_needRoom_N K n0 n1 n2 n3 n4 n5 n6 s0 s1 s2 s3 s4 s5 s6 s7 s8 s9 s10 s11 s12 s13) (fun z => zz_eis z.1 ∧ z.2.1 = s0 ∧ z.2.2.1 = s1 ∧ z.2.2.2.1 = s2 ∧ z.2.2.2.2.1 = s3 ∧ z.2.2.2.2.2.1 = s4 ∧ z.2.2.2.2.2.2.1 = s5 ∧ z.2.2.2.2.2.2.2.1 = s6 ∧ z.2.2.2.2.2.2.2.2.1 = s7 ∧ z.2.2.2.2.2.2.2.2.2.1 = s8 ∧ z.2.2.2.2.2.2.2.2.2.2.1 = s9 ∧ z.2.2.2.2.2.2.2.2.2.2.2.1 = s10 ∧ z.2.2.2.2.2.2.2.2.2.2.2.2.1 = s11 ∧ z.2.2.2.2.2.2.2.2.2.2.2.2.2.1 = s12 ∧ z.2.2.2.2.2.2.2.2.2.2.2.2.2.2 = s13) := by
  have g1 := zz_rg s0
  have g2 := zz_rg s1
  have g3 := zz_rg s2
  have g4 := zz_rg s3
  have g5 := zz_rg s4
  have g6 := zz_rg s10
  have g7 := zz_rg s11
  unfold m_X11_needRoom_N
  refine zz_ok_some ?_
  show zz_eis ("java/lang/IllegalStateException") ∧ s0 = s0 ∧ s1 = s1 ∧ s2 = s2 ∧ s3 = s3 ∧ s4 = s4 ∧ s5 = s5 ∧ s6 = s6 ∧ s7 = s7 ∧ s8 = s8 ∧ s9 = s9 ∧ s10 = s10 ∧ s11 = s11 ∧ s12 = s12 ∧ s13 = s13
  exact ⟨(by exact rfl), rfl, rfl, rfl, rfl, rfl, rfl, rfl, rfl, rfl, rfl, rfl, rfl, rfl, rfl⟩
set_option maxHeartbeats 4000000 in
theorem gg_X11_give_N (K : Nat) (hK : 1099511627776 ≤ K) (T : Nat) (hT : T ≤ 900) (n0 : Nat) (n1 : Nat) (n2 : Nat) (n3 : Nat) (n4 : Nat) (n5 : Nat) (n6 : Nat) (p1 : Int32) (s0 : Int32) (s1 : Int32) (s2 : Int32) (s3 : Int32) (s4 : Int32) (s5 : Nat → Int32) (s6 : Nat → Int32) (s7 : Nat → Int32) (s8 : Nat → Int32) (s9 : Nat → Int32) (s10 : Int32) (s11 : Int32) (s12 : Nat → Int32) (s13 : Nat → Int32) : zz_ok (m_X11_give_N K n0 n1 n2 n3 n4 n5 n6 p1 s0 s1 s2 s3 s4 s5 s6 s7 s8 s9 s10 s11 s12 s13) (fun z => zz_NE (z.1) ((p1.toInt < 1 ∨ 1024 < p1.toInt)) ∧ z.2.2.1 = s0 ∧ z.2.2.2.1 = s1 ∧ z.2.2.2.2.1 = s2 ∧ z.2.2.2.2.2.1 = s3 ∧ z.2.2.2.2.2.2.1 = s4 ∧ z.2.2.2.2.2.2.2.1 = s5 ∧ z.2.2.2.2.2.2.2.2.1 = s6 ∧ z.2.2.2.2.2.2.2.2.2.1 = s7 ∧ z.2.2.2.2.2.2.2.2.2.2.1 = s8 ∧ z.2.2.2.2.2.2.2.2.2.2.2.1 = s9 ∧ z.2.2.2.2.2.2.2.2.2.2.2.2.1 = s10 ∧ z.2.2.2.2.2.2.2.2.2.2.2.2.2.1 = s11 ∧ z.2.2.2.2.2.2.2.2.2.2.2.2.2.2.1 = s12 ∧ z.2.2.2.2.2.2.2.2.2.2.2.2.2.2.2 = s13) := by
  have g1 := zz_rg p1
  have g2 := zz_rg s0
  have g3 := zz_rg s1
  have g4 := zz_rg s2
  have g5 := zz_rg s3
  have g6 := zz_rg s4
  have g7 := zz_rg s10
  have g8 := zz_rg s11
  unfold m_X11_give_N
  have l10 : (1 : Int32).toInt = 1 := rfl
  refine zz_ok_ite (fun c9 => ?_) (fun c9 => ?_)
  · have c9 := Int32.lt_iff_toInt_lt.mp c9
    have l11 : (0 : Int32).toInt = 0 := rfl
    refine zz_ok_some ?_
    show zz_NE (("java/lang/IllegalArgumentException")) ((p1.toInt < 1 ∨ 1024 < p1.toInt)) ∧ s0 = s0 ∧ s1 = s1 ∧ s2 = s2 ∧ s3 = s3 ∧ s4 = s4 ∧ s5 = s5 ∧ s6 = s6 ∧ s7 = s7 ∧ s8 = s8 ∧ s9 = s9 ∧ s10 = s10 ∧ s11 = s11 ∧ s12 = s12 ∧ s13 = s13
    exact ⟨(by first | exact Or.inl ⟨rfl, by omega⟩ | exact zz_NE_s (by assumption) (by omega) | exact zz_NE_s (by assumption) (fun z => z)), rfl, rfl, rfl, rfl, rfl, rfl, rfl, rfl, rfl, rfl, rfl, rfl, rfl, rfl⟩
  · have c9 := zz_nlt c9
    have l13 : (1024 : Int32).toInt = 1024 := rfl
    refine zz_ok_ite (fun c12 => ?_) (fun c12 => ?_)
    · have c12 := Int32.le_iff_toInt_le.mp c12
      refine zz_ok_bind (gg_X11_needRoom_N K hK T hT n0 n1 n2 n3 n4 n5 n6 s0 s1 s2 s3 s4 s5 s6 s7 s8 s9 s10 s11 s12 s13) ?_
      intro z14 hz14
      obtain ⟨e_3, t_3_0, t_3_1, t_3_2, t_3_3, t_3_4, t_3_5, t_3_6, t_3_7, t_3_8, t_3_9, t_3_10, t_3_11, t_3_12, t_3_13⟩ := z14
      have q15 : zz_eis e_3 := hz14.1
      have q16 : t_3_0 = s0 := hz14.2.1
      have q17 : t_3_1 = s1 := hz14.2.2.1
      have q18 : t_3_2 = s2 := hz14.2.2.2.1
      have q19 : t_3_3 = s3 := hz14.2.2.2.2.1
      have q20 : t_3_4 = s4 := hz14.2.2.2.2.2.1
      have q21 : t_3_5 = s5 := hz14.2.2.2.2.2.2.1
      have q22 : t_3_6 = s6 := hz14.2.2.2.2.2.2.2.1
      have q23 : t_3_7 = s7 := hz14.2.2.2.2.2.2.2.2.1
      have q24 : t_3_8 = s8 := hz14.2.2.2.2.2.2.2.2.2.1
      have q25 : t_3_9 = s9 := hz14.2.2.2.2.2.2.2.2.2.2.1
      have q26 : t_3_10 = s10 := hz14.2.2.2.2.2.2.2.2.2.2.2.1
      have q27 : t_3_11 = s11 := hz14.2.2.2.2.2.2.2.2.2.2.2.2.1
      have q28 : t_3_12 = s12 := hz14.2.2.2.2.2.2.2.2.2.2.2.2.2.1
      have q29 : t_3_13 = s13 := hz14.2.2.2.2.2.2.2.2.2.2.2.2.2.2
      clear hz14
      have e30 : s0 = t_3_0 := q16.symm
      subst e30
      have e31 : s1 = t_3_1 := q17.symm
      subst e31
      have e32 : s2 = t_3_2 := q18.symm
      subst e32
      have e33 : s3 = t_3_3 := q19.symm
      subst e33
      have e34 : s4 = t_3_4 := q20.symm
      subst e34
      have e35 : s5 = t_3_5 := q21.symm
      subst e35
      have e36 : s6 = t_3_6 := q22.symm
      subst e36
      have e37 : s7 = t_3_7 := q23.symm
      subst e37
      have e38 : s8 = t_3_8 := q24.symm
      subst e38
      have e39 : s9 = t_3_9 := q25.symm
      subst e39
      have e40 : s10 = t_3_10 := q26.symm
      subst e40
      have e41 : s11 = t_3_11 := q27.symm
      subst e41
      have e42 : s12 = t_3_12 := q28.symm
      subst e42
      have e43 : s13 = t_3_13 := q29.symm
      subst e43
      show zz_ok (if ¬ e_3 = "" then (some (e_3, 0, s0, s1, s2, s3, s4, s5, s6, s7, s8, s9, s10, s11, s12, s13)) else none) _
      refine zz_ok_chk (fun h9 => absurd (Eq.symm q15 |>.trans h9) (by decide)) ?_
      have l44 : (0 : Int32).toInt = 0 := rfl
      refine zz_ok_some ?_
      show zz_NE (e_3) ((p1.toInt < 1 ∨ 1024 < p1.toInt)) ∧ s0 = s0 ∧ s1 = s1 ∧ s2 = s2 ∧ s3 = s3 ∧ s4 = s4 ∧ s5 = s5 ∧ s6 = s6 ∧ s7 = s7 ∧ s8 = s8 ∧ s9 = s9 ∧ s10 = s10 ∧ s11 = s11 ∧ s12 = s12 ∧ s13 = s13
      exact ⟨(by first | exact Or.inl ⟨rfl, by omega⟩ | exact zz_NE_s (by assumption) (by omega) | exact zz_NE_s (by assumption) (fun z => z)), rfl, rfl, rfl, rfl, rfl, rfl, rfl, rfl, rfl, rfl, rfl, rfl, rfl, rfl⟩
    · have c12 := zz_nle c12
      have l45 : (0 : Int32).toInt = 0 := rfl
      refine zz_ok_some ?_
      show zz_NE (("java/lang/IllegalArgumentException")) ((p1.toInt < 1 ∨ 1024 < p1.toInt)) ∧ s0 = s0 ∧ s1 = s1 ∧ s2 = s2 ∧ s3 = s3 ∧ s4 = s4 ∧ s5 = s5 ∧ s6 = s6 ∧ s7 = s7 ∧ s8 = s8 ∧ s9 = s9 ∧ s10 = s10 ∧ s11 = s11 ∧ s12 = s12 ∧ s13 = s13
      exact ⟨(by first | exact Or.inl ⟨rfl, by omega⟩ | exact zz_NE_s (by assumption) (by omega) | exact zz_NE_s (by assumption) (fun z => z)), rfl, rfl, rfl, rfl, rfl, rfl, rfl, rfl, rfl, rfl, rfl, rfl, rfl, rfl⟩
set_option maxHeartbeats 4000000 in
theorem gg_X11_back_N (K : Nat) (hK : 1099511627776 ≤ K) (T : Nat) (hT : T ≤ 900) (n0 : Nat) (n1 : Nat) (n2 : Nat) (n3 : Nat) (n4 : Nat) (n5 : Nat) (n6 : Nat) (p1 : Int32) (s0 : Int32) (s1 : Int32) (s2 : Int32) (s3 : Int32) (s4 : Int32) (s5 : Nat → Int32) (s6 : Nat → Int32) (s7 : Nat → Int32) (s8 : Nat → Int32) (s9 : Nat → Int32) (s10 : Int32) (s11 : Int32) (s12 : Nat → Int32) (s13 : Nat → Int32) : zz_ok (m_X11_back_N K n0 n1 n2 n3 n4 n5 n6 p1 s0 s1 s2 s3 s4 s5 s6 s7 s8 s9 s10 s11 s12 s13) (fun z => zz_NE (z.1) (False) ∧ z.2.2.1 = s0 ∧ z.2.2.2.1 = s1 ∧ z.2.2.2.2.1 = s2 ∧ z.2.2.2.2.2.1 = s3 ∧ z.2.2.2.2.2.2.1 = s4 ∧ z.2.2.2.2.2.2.2.1 = s5 ∧ z.2.2.2.2.2.2.2.2.1 = s6 ∧ z.2.2.2.2.2.2.2.2.2.1 = s7 ∧ z.2.2.2.2.2.2.2.2.2.2.1 = s8 ∧ z.2.2.2.2.2.2.2.2.2.2.2.1 = s9 ∧ z.2.2.2.2.2.2.2.2.2.2.2.2.1 = s10 ∧ z.2.2.2.2.2.2.2.2.2.2.2.2.2.1 = s11 ∧ z.2.2.2.2.2.2.2.2.2.2.2.2.2.2.1 = s12 ∧ z.2.2.2.2.2.2.2.2.2.2.2.2.2.2.2 = s13) := by
  have g1 := zz_rg p1
  have g2 := zz_rg s0
  have g3 := zz_rg s1
  have g4 := zz_rg s2
  have g5 := zz_rg s3
  have g6 := zz_rg s4
  have g7 := zz_rg s10
  have g8 := zz_rg s11
  unfold m_X11_back_N
  refine zz_ok_bind (gg_X11_needRoom_N K hK T hT n0 n1 n2 n3 n4 n5 n6 s0 s1 s2 s3 s4 s5 s6 s7 s8 s9 s10 s11 s12 s13) ?_
  intro z9 hz9
  obtain ⟨e_1, t_1_0, t_1_1, t_1_2, t_1_3, t_1_4, t_1_5, t_1_6, t_1_7, t_1_8, t_1_9, t_1_10, t_1_11, t_1_12, t_1_13⟩ := z9
  have q10 : zz_eis e_1 := hz9.1
  have q11 : t_1_0 = s0 := hz9.2.1
  have q12 : t_1_1 = s1 := hz9.2.2.1
  have q13 : t_1_2 = s2 := hz9.2.2.2.1
  have q14 : t_1_3 = s3 := hz9.2.2.2.2.1
  have q15 : t_1_4 = s4 := hz9.2.2.2.2.2.1
  have q16 : t_1_5 = s5 := hz9.2.2.2.2.2.2.1
  have q17 : t_1_6 = s6 := hz9.2.2.2.2.2.2.2.1
  have q18 : t_1_7 = s7 := hz9.2.2.2.2.2.2.2.2.1
  have q19 : t_1_8 = s8 := hz9.2.2.2.2.2.2.2.2.2.1
  have q20 : t_1_9 = s9 := hz9.2.2.2.2.2.2.2.2.2.2.1
  have q21 : t_1_10 = s10 := hz9.2.2.2.2.2.2.2.2.2.2.2.1
  have q22 : t_1_11 = s11 := hz9.2.2.2.2.2.2.2.2.2.2.2.2.1
  have q23 : t_1_12 = s12 := hz9.2.2.2.2.2.2.2.2.2.2.2.2.2.1
  have q24 : t_1_13 = s13 := hz9.2.2.2.2.2.2.2.2.2.2.2.2.2.2
  clear hz9
  have e25 : s0 = t_1_0 := q11.symm
  subst e25
  have e26 : s1 = t_1_1 := q12.symm
  subst e26
  have e27 : s2 = t_1_2 := q13.symm
  subst e27
  have e28 : s3 = t_1_3 := q14.symm
  subst e28
  have e29 : s4 = t_1_4 := q15.symm
  subst e29
  have e30 : s5 = t_1_5 := q16.symm
  subst e30
  have e31 : s6 = t_1_6 := q17.symm
  subst e31
  have e32 : s7 = t_1_7 := q18.symm
  subst e32
  have e33 : s8 = t_1_8 := q19.symm
  subst e33
  have e34 : s9 = t_1_9 := q20.symm
  subst e34
  have e35 : s10 = t_1_10 := q21.symm
  subst e35
  have e36 : s11 = t_1_11 := q22.symm
  subst e36
  have e37 : s12 = t_1_12 := q23.symm
  subst e37
  have e38 : s13 = t_1_13 := q24.symm
  subst e38
  show zz_ok (if ¬ e_1 = "" then (some (e_1, 0, s0, s1, s2, s3, s4, s5, s6, s7, s8, s9, s10, s11, s12, s13)) else none) _
  refine zz_ok_chk (fun h9 => absurd (Eq.symm q10 |>.trans h9) (by decide)) ?_
  have l39 : (0 : Int32).toInt = 0 := rfl
  refine zz_ok_some ?_
  show zz_NE (e_1) (False) ∧ s0 = s0 ∧ s1 = s1 ∧ s2 = s2 ∧ s3 = s3 ∧ s4 = s4 ∧ s5 = s5 ∧ s6 = s6 ∧ s7 = s7 ∧ s8 = s8 ∧ s9 = s9 ∧ s10 = s10 ∧ s11 = s11 ∧ s12 = s12 ∧ s13 = s13
  exact ⟨(by first | exact Or.inl ⟨rfl, by omega⟩ | exact zz_NE_s (by assumption) (by omega) | exact zz_NE_s (by assumption) (fun z => z)), rfl, rfl, rfl, rfl, rfl, rfl, rfl, rfl, rfl, rfl, rfl, rfl, rfl, rfl⟩
set_option maxHeartbeats 4000000 in
theorem gg_X11_about_N (K : Nat) (hK : 1099511627776 ≤ K) (T : Nat) (hT : T ≤ 900) (n0 : Nat) (n1 : Nat) (n2 : Nat) (n3 : Nat) (n4 : Nat) (n5 : Nat) (n6 : Nat) (p1 : Int32) (p2 : Int32) (s0 : Int32) (s1 : Int32) (s2 : Int32) (s3 : Int32) (s4 : Int32) (s5 : Nat → Int32) (s6 : Nat → Int32) (s7 : Nat → Int32) (s8 : Nat → Int32) (s9 : Nat → Int32) (s10 : Int32) (s11 : Int32) (s12 : Nat → Int32) (s13 : Nat → Int32) : zz_ok (m_X11_about_N K n0 n1 n2 n3 n4 n5 n6 p1 p2 s0 s1 s2 s3 s4 s5 s6 s7 s8 s9 s10 s11 s12 s13) (fun z => zz_NE (z.1) ((p2.toInt < 0 ∨ 2 < p2.toInt)) ∧ z.2.2.1 = s0 ∧ z.2.2.2.1 = s1 ∧ z.2.2.2.2.1 = s2 ∧ z.2.2.2.2.2.1 = s3 ∧ z.2.2.2.2.2.2.1 = s4 ∧ z.2.2.2.2.2.2.2.1 = s5 ∧ z.2.2.2.2.2.2.2.2.1 = s6 ∧ z.2.2.2.2.2.2.2.2.2.1 = s7 ∧ z.2.2.2.2.2.2.2.2.2.2.1 = s8 ∧ z.2.2.2.2.2.2.2.2.2.2.2.1 = s9 ∧ z.2.2.2.2.2.2.2.2.2.2.2.2.1 = s10 ∧ z.2.2.2.2.2.2.2.2.2.2.2.2.2.1 = s11 ∧ z.2.2.2.2.2.2.2.2.2.2.2.2.2.2.1 = s12 ∧ z.2.2.2.2.2.2.2.2.2.2.2.2.2.2.2 = s13) := by
  have g1 := zz_rg p1
  have g2 := zz_rg p2
  have g3 := zz_rg s0
  have g4 := zz_rg s1
  have g5 := zz_rg s2
  have g6 := zz_rg s3
  have g7 := zz_rg s4
  have g8 := zz_rg s10
  have g9 := zz_rg s11
  unfold m_X11_about_N
  have l11 : (0 : Int32).toInt = 0 := rfl
  refine zz_ok_ite (fun c10 => ?_) (fun c10 => ?_)
  · have c10 := Int32.lt_iff_toInt_lt.mp c10
    refine zz_ok_some ?_
    show zz_NE (("java/lang/IllegalArgumentException")) ((p2.toInt < 0 ∨ 2 < p2.toInt)) ∧ s0 = s0 ∧ s1 = s1 ∧ s2 = s2 ∧ s3 = s3 ∧ s4 = s4 ∧ s5 = s5 ∧ s6 = s6 ∧ s7 = s7 ∧ s8 = s8 ∧ s9 = s9 ∧ s10 = s10 ∧ s11 = s11 ∧ s12 = s12 ∧ s13 = s13
    exact ⟨(by first | exact Or.inl ⟨rfl, by omega⟩ | exact zz_NE_s (by assumption) (by omega) | exact zz_NE_s (by assumption) (fun z => z)), rfl, rfl, rfl, rfl, rfl, rfl, rfl, rfl, rfl, rfl, rfl, rfl, rfl, rfl⟩
  · have c10 := zz_nlt c10
    have l13 : (2 : Int32).toInt = 2 := rfl
    refine zz_ok_ite (fun c12 => ?_) (fun c12 => ?_)
    · have c12 := Int32.le_iff_toInt_le.mp c12
      refine zz_ok_bind (gg_X11_needRoom_N K hK T hT n0 n1 n2 n3 n4 n5 n6 s0 s1 s2 s3 s4 s5 s6 s7 s8 s9 s10 s11 s12 s13) ?_
      intro z14 hz14
      obtain ⟨e_3, t_3_0, t_3_1, t_3_2, t_3_3, t_3_4, t_3_5, t_3_6, t_3_7, t_3_8, t_3_9, t_3_10, t_3_11, t_3_12, t_3_13⟩ := z14
      have q15 : zz_eis e_3 := hz14.1
      have q16 : t_3_0 = s0 := hz14.2.1
      have q17 : t_3_1 = s1 := hz14.2.2.1
      have q18 : t_3_2 = s2 := hz14.2.2.2.1
      have q19 : t_3_3 = s3 := hz14.2.2.2.2.1
      have q20 : t_3_4 = s4 := hz14.2.2.2.2.2.1
      have q21 : t_3_5 = s5 := hz14.2.2.2.2.2.2.1
      have q22 : t_3_6 = s6 := hz14.2.2.2.2.2.2.2.1
      have q23 : t_3_7 = s7 := hz14.2.2.2.2.2.2.2.2.1
      have q24 : t_3_8 = s8 := hz14.2.2.2.2.2.2.2.2.2.1
      have q25 : t_3_9 = s9 := hz14.2.2.2.2.2.2.2.2.2.2.1
      have q26 : t_3_10 = s10 := hz14.2.2.2.2.2.2.2.2.2.2.2.1
      have q27 : t_3_11 = s11 := hz14.2.2.2.2.2.2.2.2.2.2.2.2.1
      have q28 : t_3_12 = s12 := hz14.2.2.2.2.2.2.2.2.2.2.2.2.2.1
      have q29 : t_3_13 = s13 := hz14.2.2.2.2.2.2.2.2.2.2.2.2.2.2
      clear hz14
      have e30 : s0 = t_3_0 := q16.symm
      subst e30
      have e31 : s1 = t_3_1 := q17.symm
      subst e31
      have e32 : s2 = t_3_2 := q18.symm
      subst e32
      have e33 : s3 = t_3_3 := q19.symm
      subst e33
      have e34 : s4 = t_3_4 := q20.symm
      subst e34
      have e35 : s5 = t_3_5 := q21.symm
      subst e35
      have e36 : s6 = t_3_6 := q22.symm
      subst e36
      have e37 : s7 = t_3_7 := q23.symm
      subst e37
      have e38 : s8 = t_3_8 := q24.symm
      subst e38
      have e39 : s9 = t_3_9 := q25.symm
      subst e39
      have e40 : s10 = t_3_10 := q26.symm
      subst e40
      have e41 : s11 = t_3_11 := q27.symm
      subst e41
      have e42 : s12 = t_3_12 := q28.symm
      subst e42
      have e43 : s13 = t_3_13 := q29.symm
      subst e43
      show zz_ok (if ¬ e_3 = "" then (some (e_3, 0, s0, s1, s2, s3, s4, s5, s6, s7, s8, s9, s10, s11, s12, s13)) else none) _
      refine zz_ok_chk (fun h9 => absurd (Eq.symm q15 |>.trans h9) (by decide)) ?_
      refine zz_ok_some ?_
      show zz_NE (e_3) ((p2.toInt < 0 ∨ 2 < p2.toInt)) ∧ s0 = s0 ∧ s1 = s1 ∧ s2 = s2 ∧ s3 = s3 ∧ s4 = s4 ∧ s5 = s5 ∧ s6 = s6 ∧ s7 = s7 ∧ s8 = s8 ∧ s9 = s9 ∧ s10 = s10 ∧ s11 = s11 ∧ s12 = s12 ∧ s13 = s13
      exact ⟨(by first | exact Or.inl ⟨rfl, by omega⟩ | exact zz_NE_s (by assumption) (by omega) | exact zz_NE_s (by assumption) (fun z => z)), rfl, rfl, rfl, rfl, rfl, rfl, rfl, rfl, rfl, rfl, rfl, rfl, rfl, rfl⟩
    · have c12 := zz_nle c12
      refine zz_ok_some ?_
      show zz_NE (("java/lang/IllegalArgumentException")) ((p2.toInt < 0 ∨ 2 < p2.toInt)) ∧ s0 = s0 ∧ s1 = s1 ∧ s2 = s2 ∧ s3 = s3 ∧ s4 = s4 ∧ s5 = s5 ∧ s6 = s6 ∧ s7 = s7 ∧ s8 = s8 ∧ s9 = s9 ∧ s10 = s10 ∧ s11 = s11 ∧ s12 = s12 ∧ s13 = s13
      exact ⟨(by first | exact Or.inl ⟨rfl, by omega⟩ | exact zz_NE_s (by assumption) (by omega) | exact zz_NE_s (by assumption) (fun z => z)), rfl, rfl, rfl, rfl, rfl, rfl, rfl, rfl, rfl, rfl, rfl, rfl, rfl, rfl⟩
set_option maxHeartbeats 4000000 in
theorem gg_X11_at_N (K : Nat) (hK : 1099511627776 ≤ K) (T : Nat) (hT : T ≤ 900) (n0 : Nat) (n1 : Nat) (n2 : Nat) (n3 : Nat) (n4 : Nat) (n5 : Nat) (n6 : Nat) (p1 : Int32) (s0 : Int32) (s1 : Int32) (s2 : Int32) (s3 : Int32) (s4 : Int32) (s5 : Nat → Int32) (s6 : Nat → Int32) (s7 : Nat → Int32) (s8 : Nat → Int32) (s9 : Nat → Int32) (s10 : Int32) (s11 : Int32) (s12 : Nat → Int32) (s13 : Nat → Int32) : zz_ok (m_X11_at_N K n0 n1 n2 n3 n4 n5 n6 p1 s0 s1 s2 s3 s4 s5 s6 s7 s8 s9 s10 s11 s12 s13) (fun z => zz_NE (z.1) ((p1.toInt < 0 ∨ 1024 ≤ p1.toInt)) ∧ z.2.2.1 = s0 ∧ z.2.2.2.1 = s1 ∧ z.2.2.2.2.1 = s2 ∧ z.2.2.2.2.2.1 = s3 ∧ z.2.2.2.2.2.2.1 = s4 ∧ z.2.2.2.2.2.2.2.1 = s5 ∧ z.2.2.2.2.2.2.2.2.1 = s6 ∧ z.2.2.2.2.2.2.2.2.2.1 = s7 ∧ z.2.2.2.2.2.2.2.2.2.2.1 = s8 ∧ z.2.2.2.2.2.2.2.2.2.2.2.1 = s9 ∧ z.2.2.2.2.2.2.2.2.2.2.2.2.1 = s10 ∧ z.2.2.2.2.2.2.2.2.2.2.2.2.2.1 = s11 ∧ z.2.2.2.2.2.2.2.2.2.2.2.2.2.2.1 = s12 ∧ z.2.2.2.2.2.2.2.2.2.2.2.2.2.2.2 = s13) := by
  have g1 := zz_rg p1
  have g2 := zz_rg s0
  have g3 := zz_rg s1
  have g4 := zz_rg s2
  have g5 := zz_rg s3
  have g6 := zz_rg s4
  have g7 := zz_rg s10
  have g8 := zz_rg s11
  unfold m_X11_at_N
  have l10 : (0 : Int32).toInt = 0 := rfl
  refine zz_ok_ite (fun c9 => ?_) (fun c9 => ?_)
  · have c9 := Int32.lt_iff_toInt_lt.mp c9
    refine zz_ok_some ?_
    show zz_NE (("java/lang/IllegalArgumentException")) ((p1.toInt < 0 ∨ 1024 ≤ p1.toInt)) ∧ s0 = s0 ∧ s1 = s1 ∧ s2 = s2 ∧ s3 = s3 ∧ s4 = s4 ∧ s5 = s5 ∧ s6 = s6 ∧ s7 = s7 ∧ s8 = s8 ∧ s9 = s9 ∧ s10 = s10 ∧ s11 = s11 ∧ s12 = s12 ∧ s13 = s13
    exact ⟨(by first | exact Or.inl ⟨rfl, by omega⟩ | exact zz_NE_s (by assumption) (by omega) | exact zz_NE_s (by assumption) (fun z => z)), rfl, rfl, rfl, rfl, rfl, rfl, rfl, rfl, rfl, rfl, rfl, rfl, rfl, rfl⟩
  · have c9 := zz_nlt c9
    have l12 : (1024 : Int32).toInt = 1024 := rfl
    refine zz_ok_ite (fun c11 => ?_) (fun c11 => ?_)
    · have c11 := Int32.lt_iff_toInt_lt.mp c11
      refine zz_ok_bind (gg_X11_needRoom_N K hK T hT n0 n1 n2 n3 n4 n5 n6 s0 s1 s2 s3 s4 s5 s6 s7 s8 s9 s10 s11 s12 s13) ?_
      intro z13 hz13
      obtain ⟨e_3, t_3_0, t_3_1, t_3_2, t_3_3, t_3_4, t_3_5, t_3_6, t_3_7, t_3_8, t_3_9, t_3_10, t_3_11, t_3_12, t_3_13⟩ := z13
      have q14 : zz_eis e_3 := hz13.1
      have q15 : t_3_0 = s0 := hz13.2.1
      have q16 : t_3_1 = s1 := hz13.2.2.1
      have q17 : t_3_2 = s2 := hz13.2.2.2.1
      have q18 : t_3_3 = s3 := hz13.2.2.2.2.1
      have q19 : t_3_4 = s4 := hz13.2.2.2.2.2.1
      have q20 : t_3_5 = s5 := hz13.2.2.2.2.2.2.1
      have q21 : t_3_6 = s6 := hz13.2.2.2.2.2.2.2.1
      have q22 : t_3_7 = s7 := hz13.2.2.2.2.2.2.2.2.1
      have q23 : t_3_8 = s8 := hz13.2.2.2.2.2.2.2.2.2.1
      have q24 : t_3_9 = s9 := hz13.2.2.2.2.2.2.2.2.2.2.1
      have q25 : t_3_10 = s10 := hz13.2.2.2.2.2.2.2.2.2.2.2.1
      have q26 : t_3_11 = s11 := hz13.2.2.2.2.2.2.2.2.2.2.2.2.1
      have q27 : t_3_12 = s12 := hz13.2.2.2.2.2.2.2.2.2.2.2.2.2.1
      have q28 : t_3_13 = s13 := hz13.2.2.2.2.2.2.2.2.2.2.2.2.2.2
      clear hz13
      have e29 : s0 = t_3_0 := q15.symm
      subst e29
      have e30 : s1 = t_3_1 := q16.symm
      subst e30
      have e31 : s2 = t_3_2 := q17.symm
      subst e31
      have e32 : s3 = t_3_3 := q18.symm
      subst e32
      have e33 : s4 = t_3_4 := q19.symm
      subst e33
      have e34 : s5 = t_3_5 := q20.symm
      subst e34
      have e35 : s6 = t_3_6 := q21.symm
      subst e35
      have e36 : s7 = t_3_7 := q22.symm
      subst e36
      have e37 : s8 = t_3_8 := q23.symm
      subst e37
      have e38 : s9 = t_3_9 := q24.symm
      subst e38
      have e39 : s10 = t_3_10 := q25.symm
      subst e39
      have e40 : s11 = t_3_11 := q26.symm
      subst e40
      have e41 : s12 = t_3_12 := q27.symm
      subst e41
      have e42 : s13 = t_3_13 := q28.symm
      subst e42
      show zz_ok (if ¬ e_3 = "" then (some (e_3, 0, s0, s1, s2, s3, s4, s5, s6, s7, s8, s9, s10, s11, s12, s13)) else none) _
      refine zz_ok_chk (fun h9 => absurd (Eq.symm q14 |>.trans h9) (by decide)) ?_
      refine zz_ok_some ?_
      show zz_NE (e_3) ((p1.toInt < 0 ∨ 1024 ≤ p1.toInt)) ∧ s0 = s0 ∧ s1 = s1 ∧ s2 = s2 ∧ s3 = s3 ∧ s4 = s4 ∧ s5 = s5 ∧ s6 = s6 ∧ s7 = s7 ∧ s8 = s8 ∧ s9 = s9 ∧ s10 = s10 ∧ s11 = s11 ∧ s12 = s12 ∧ s13 = s13
      exact ⟨(by first | exact Or.inl ⟨rfl, by omega⟩ | exact zz_NE_s (by assumption) (by omega) | exact zz_NE_s (by assumption) (fun z => z)), rfl, rfl, rfl, rfl, rfl, rfl, rfl, rfl, rfl, rfl, rfl, rfl, rfl, rfl⟩
    · have c11 := zz_nlt c11
      refine zz_ok_some ?_
      show zz_NE (("java/lang/IllegalArgumentException")) ((p1.toInt < 0 ∨ 1024 ≤ p1.toInt)) ∧ s0 = s0 ∧ s1 = s1 ∧ s2 = s2 ∧ s3 = s3 ∧ s4 = s4 ∧ s5 = s5 ∧ s6 = s6 ∧ s7 = s7 ∧ s8 = s8 ∧ s9 = s9 ∧ s10 = s10 ∧ s11 = s11 ∧ s12 = s12 ∧ s13 = s13
      exact ⟨(by first | exact Or.inl ⟨rfl, by omega⟩ | exact zz_NE_s (by assumption) (by omega) | exact zz_NE_s (by assumption) (fun z => z)), rfl, rfl, rfl, rfl, rfl, rfl, rfl, rfl, rfl, rfl, rfl, rfl, rfl, rfl⟩
set_option maxHeartbeats 4000000 in
theorem gg_X11_run_N (K : Nat) (hK : 1099511627776 ≤ K) (T : Nat) (hT : T ≤ 900) (n0 : Nat) (n1 : Nat) (n2 : Nat) (n3 : Nat) (n4 : Nat) (n5 : Nat) (n6 : Nat) (p1 : Int32) (p2 : Int32) (s0 : Int32) (s1 : Int32) (s2 : Int32) (s3 : Int32) (s4 : Int32) (s5 : Nat → Int32) (s6 : Nat → Int32) (s7 : Nat → Int32) (s8 : Nat → Int32) (s9 : Nat → Int32) (s10 : Int32) (s11 : Int32) (s12 : Nat → Int32) (s13 : Nat → Int32) : zz_ok (m_X11_run_N K n0 n1 n2 n3 n4 n5 n6 p1 p2 s0 s1 s2 s3 s4 s5 s6 s7 s8 s9 s10 s11 s12 s13) (fun z => zz_NE (z.1) ((p2.toInt < 0 ∨ 1 < p2.toInt)) ∧ z.2.2.1 = s0 ∧ z.2.2.2.1 = s1 ∧ z.2.2.2.2.1 = s2 ∧ z.2.2.2.2.2.1 = s3 ∧ z.2.2.2.2.2.2.1 = s4 ∧ z.2.2.2.2.2.2.2.1 = s5 ∧ z.2.2.2.2.2.2.2.2.1 = s6 ∧ z.2.2.2.2.2.2.2.2.2.1 = s7 ∧ z.2.2.2.2.2.2.2.2.2.2.1 = s8 ∧ z.2.2.2.2.2.2.2.2.2.2.2.1 = s9 ∧ z.2.2.2.2.2.2.2.2.2.2.2.2.1 = s10 ∧ z.2.2.2.2.2.2.2.2.2.2.2.2.2.1 = s11 ∧ z.2.2.2.2.2.2.2.2.2.2.2.2.2.2.1 = s12 ∧ z.2.2.2.2.2.2.2.2.2.2.2.2.2.2.2 = s13) := by
  have g1 := zz_rg p1
  have g2 := zz_rg p2
  have g3 := zz_rg s0
  have g4 := zz_rg s1
  have g5 := zz_rg s2
  have g6 := zz_rg s3
  have g7 := zz_rg s4
  have g8 := zz_rg s10
  have g9 := zz_rg s11
  unfold m_X11_run_N
  have l11 : (0 : Int32).toInt = 0 := rfl
  refine zz_ok_ite (fun c10 => ?_) (fun c10 => ?_)
  · have c10 := Int32.lt_iff_toInt_lt.mp c10
    refine zz_ok_some ?_
    show zz_NE (("java/lang/IllegalArgumentException")) ((p2.toInt < 0 ∨ 1 < p2.toInt)) ∧ s0 = s0 ∧ s1 = s1 ∧ s2 = s2 ∧ s3 = s3 ∧ s4 = s4 ∧ s5 = s5 ∧ s6 = s6 ∧ s7 = s7 ∧ s8 = s8 ∧ s9 = s9 ∧ s10 = s10 ∧ s11 = s11 ∧ s12 = s12 ∧ s13 = s13
    exact ⟨(by first | exact Or.inl ⟨rfl, by omega⟩ | exact zz_NE_s (by assumption) (by omega) | exact zz_NE_s (by assumption) (fun z => z)), rfl, rfl, rfl, rfl, rfl, rfl, rfl, rfl, rfl, rfl, rfl, rfl, rfl, rfl⟩
  · have c10 := zz_nlt c10
    have l13 : (1 : Int32).toInt = 1 := rfl
    refine zz_ok_ite (fun c12 => ?_) (fun c12 => ?_)
    · have c12 := Int32.le_iff_toInt_le.mp c12
      refine zz_ok_bind (gg_X11_needRoom_N K hK T hT n0 n1 n2 n3 n4 n5 n6 s0 s1 s2 s3 s4 s5 s6 s7 s8 s9 s10 s11 s12 s13) ?_
      intro z14 hz14
      obtain ⟨e_3, t_3_0, t_3_1, t_3_2, t_3_3, t_3_4, t_3_5, t_3_6, t_3_7, t_3_8, t_3_9, t_3_10, t_3_11, t_3_12, t_3_13⟩ := z14
      have q15 : zz_eis e_3 := hz14.1
      have q16 : t_3_0 = s0 := hz14.2.1
      have q17 : t_3_1 = s1 := hz14.2.2.1
      have q18 : t_3_2 = s2 := hz14.2.2.2.1
      have q19 : t_3_3 = s3 := hz14.2.2.2.2.1
      have q20 : t_3_4 = s4 := hz14.2.2.2.2.2.1
      have q21 : t_3_5 = s5 := hz14.2.2.2.2.2.2.1
      have q22 : t_3_6 = s6 := hz14.2.2.2.2.2.2.2.1
      have q23 : t_3_7 = s7 := hz14.2.2.2.2.2.2.2.2.1
      have q24 : t_3_8 = s8 := hz14.2.2.2.2.2.2.2.2.2.1
      have q25 : t_3_9 = s9 := hz14.2.2.2.2.2.2.2.2.2.2.1
      have q26 : t_3_10 = s10 := hz14.2.2.2.2.2.2.2.2.2.2.2.1
      have q27 : t_3_11 = s11 := hz14.2.2.2.2.2.2.2.2.2.2.2.2.1
      have q28 : t_3_12 = s12 := hz14.2.2.2.2.2.2.2.2.2.2.2.2.2.1
      have q29 : t_3_13 = s13 := hz14.2.2.2.2.2.2.2.2.2.2.2.2.2.2
      clear hz14
      have e30 : s0 = t_3_0 := q16.symm
      subst e30
      have e31 : s1 = t_3_1 := q17.symm
      subst e31
      have e32 : s2 = t_3_2 := q18.symm
      subst e32
      have e33 : s3 = t_3_3 := q19.symm
      subst e33
      have e34 : s4 = t_3_4 := q20.symm
      subst e34
      have e35 : s5 = t_3_5 := q21.symm
      subst e35
      have e36 : s6 = t_3_6 := q22.symm
      subst e36
      have e37 : s7 = t_3_7 := q23.symm
      subst e37
      have e38 : s8 = t_3_8 := q24.symm
      subst e38
      have e39 : s9 = t_3_9 := q25.symm
      subst e39
      have e40 : s10 = t_3_10 := q26.symm
      subst e40
      have e41 : s11 = t_3_11 := q27.symm
      subst e41
      have e42 : s12 = t_3_12 := q28.symm
      subst e42
      have e43 : s13 = t_3_13 := q29.symm
      subst e43
      show zz_ok (if ¬ e_3 = "" then (some (e_3, 0, s0, s1, s2, s3, s4, s5, s6, s7, s8, s9, s10, s11, s12, s13)) else none) _
      refine zz_ok_chk (fun h9 => absurd (Eq.symm q15 |>.trans h9) (by decide)) ?_
      refine zz_ok_some ?_
      show zz_NE (e_3) ((p2.toInt < 0 ∨ 1 < p2.toInt)) ∧ s0 = s0 ∧ s1 = s1 ∧ s2 = s2 ∧ s3 = s3 ∧ s4 = s4 ∧ s5 = s5 ∧ s6 = s6 ∧ s7 = s7 ∧ s8 = s8 ∧ s9 = s9 ∧ s10 = s10 ∧ s11 = s11 ∧ s12 = s12 ∧ s13 = s13
      exact ⟨(by first | exact Or.inl ⟨rfl, by omega⟩ | exact zz_NE_s (by assumption) (by omega) | exact zz_NE_s (by assumption) (fun z => z)), rfl, rfl, rfl, rfl, rfl, rfl, rfl, rfl, rfl, rfl, rfl, rfl, rfl, rfl⟩
    · have c12 := zz_nle c12
      refine zz_ok_some ?_
      show zz_NE (("java/lang/IllegalArgumentException")) ((p2.toInt < 0 ∨ 1 < p2.toInt)) ∧ s0 = s0 ∧ s1 = s1 ∧ s2 = s2 ∧ s3 = s3 ∧ s4 = s4 ∧ s5 = s5 ∧ s6 = s6 ∧ s7 = s7 ∧ s8 = s8 ∧ s9 = s9 ∧ s10 = s10 ∧ s11 = s11 ∧ s12 = s12 ∧ s13 = s13
      exact ⟨(by first | exact Or.inl ⟨rfl, by omega⟩ | exact zz_NE_s (by assumption) (by omega) | exact zz_NE_s (by assumption) (fun z => z)), rfl, rfl, rfl, rfl, rfl, rfl, rfl, rfl, rfl, rfl, rfl, rfl, rfl, rfl⟩

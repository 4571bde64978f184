set_option maxHeartbeats 4000000 in
theorem s_X1_spanOf (K : Nat) (hK : 1099511627776 ≤ K) (p1 : Int32) : zz_ok (m_X1_spanOf K p1) (fun z => z.1.toInt = p1.toInt) := by
  have g1 := zz_rg p1
  unfold m_X1_spanOf
  refine zz_ok_some ?_
  show p1.toInt = p1.toInt
  omega
set_option maxHeartbeats 4000000 in
theorem s_X1_quickOnes (K : Nat) (hK : 1099511627776 ≤ K) : zz_ok (m_X1_quickOnes K) (fun z => True) := by
  unfold m_X1_quickOnes
  refine zz_ok_some ?_
  trivial
set_option maxHeartbeats 4000000 in
theorem s_X1_freeParts (K : Nat) (hK : 1099511627776 ≤ K) : zz_ok (m_X1_freeParts K) (fun z => True) := by
  unfold m_X1_freeParts
  refine zz_ok_some ?_
  trivial
set_option maxHeartbeats 4000000 in
theorem s_X1_top (K : Nat) (hK : 1099511627776 ≤ K) : zz_ok (m_X1_top K) (fun z => True) := by
  unfold m_X1_top
  refine zz_ok_some ?_
  trivial
set_option maxHeartbeats 4000000 in
theorem s_X1_placeInList (K : Nat) (hK : 1099511627776 ≤ K) (p1 : Int32) (p2 : Int32) : zz_ok (m_X1_placeInList K p1 p2) (fun z => True) := by
  have g1 := zz_rg p1
  have g2 := zz_rg p2
  unfold m_X1_placeInList
  refine zz_ok_some ?_
  trivial
set_option maxHeartbeats 4000000 in
theorem s_X0_begin (K : Nat) (hK : 1099511627776 ≤ K) (n0 : Nat) (n1 : Nat) (n2 : Nat) (n3 : Nat) (n4 : Nat) (n5 : Nat) (n6 : Nat) (k0 : Int32) (s0 : Int32) (s1 : Int32) (s2 : Int32) (s3 : Int32) (s4 : Int32) (s5 : Nat → Int32) (s6 : Nat → Int32) (s7 : Nat → Int32) (s8 : Nat → Int32) (s9 : Nat → Int32) (s10 : Int32) (s11 : Int32) (s12 : Nat → Int32) (s13 : Nat → Int32) (a0 : n0 = 1024) (a1 : n1 = 200) (a2 : n2 = 200) (a3 : n3 = 200) (a4 : n4 = 200) (a5 : n5 = 512) (a6 : n6 = 512) (a7 : 0 ≤ s1.toInt) (a8 : s1.toInt ≤ 1024) (a9 : 0 ≤ s2.toInt) (a10 : s2.toInt ≤ 200) (a11 : 0 ≤ s10.toInt) (a12 : s10.toInt ≤ 512) : zz_ok (m_X0_begin K n0 n1 n2 n3 n4 n5 n6 k0 s0 s1 s2 s3 s4 s5 s6 s7 s8 s9 s10 s11 s12 s13) (fun z => z.2.1.toInt = s1.toInt ∧ z.2.2.1.toInt = s2.toInt ∧ 0 ≤ z.2.2.2.2.2.2.2.2.2.2.1.toInt ∧ z.2.2.2.2.2.2.2.2.2.2.1.toInt ≤ 512) := by
  have g1 := zz_rg k0
  have g2 := zz_rg s0
  have g3 := zz_rg s1
  have g4 := zz_rg s2
  have g5 := zz_rg s3
  have g6 := zz_rg s4
  have g7 := zz_rg s10
  have g8 := zz_rg s11
  unfold m_X0_begin
  refine zz_ok_some ?_
  show s1.toInt = s1.toInt ∧ s2.toInt = s2.toInt ∧ 0 ≤ s10.toInt ∧ s10.toInt ≤ 512
  refine ⟨?_, ?_, ?_, ?_⟩ <;> omega
set_option maxHeartbeats 4000000 in
theorem s_X0_take (K : Nat) (hK : 1099511627776 ≤ K) (n0 : Nat) (n1 : Nat) (n2 : Nat) (n3 : Nat) (n4 : Nat) (n5 : Nat) (n6 : Nat) (k0 : Int32) (p1 : Int32) (s0 : Int32) (s1 : Int32) (s2 : Int32) (s3 : Int32) (s4 : Int32) (s5 : Nat → Int32) (s6 : Nat → Int32) (s7 : Nat → Int32) (s8 : Nat → Int32) (s9 : Nat → Int32) (s10 : Int32) (s11 : Int32) (s12 : Nat → Int32) (s13 : Nat → Int32) (a0 : n0 = 1024) (a1 : n1 = 200) (a2 : n2 = 200) (a3 : n3 = 200) (a4 : n4 = 200) (a5 : n5 = 512) (a6 : n6 = 512) (a7 : 0 ≤ s1.toInt) (a8 : s1.toInt ≤ 1024) (a9 : 0 ≤ s2.toInt) (a10 : s2.toInt ≤ 200) (a11 : 0 ≤ s10.toInt) (a12 : s10.toInt ≤ 512) : zz_ok (m_X0_take K n0 n1 n2 n3 n4 n5 n6 k0 p1 s0 s1 s2 s3 s4 s5 s6 s7 s8 s9 s10 s11 s12 s13) (fun z => z.2.2.1.toInt = s1.toInt ∧ z.2.2.2.1.toInt = s2.toInt ∧ 0 ≤ z.2.2.2.2.2.2.2.2.2.2.2.1.toInt ∧ z.2.2.2.2.2.2.2.2.2.2.2.1.toInt ≤ 512) := by
  have g1 := zz_rg k0
  have g2 := zz_rg p1
  have g3 := zz_rg s0
  have g4 := zz_rg s1
  have g5 := zz_rg s2
  have g6 := zz_rg s3
  have g7 := zz_rg s4
  have g8 := zz_rg s10
  have g9 := zz_rg s11
  unfold m_X0_take
  refine zz_ok_bind (s_X7_listRuns K hK n0 n1 n2 n3 n4 n5 n6 s1 s2 s3 s4 s5 s6 s7 s8 s9 s10 s11 s12 s13 (by omega) (by omega) (by omega) (by omega) (by omega) (by omega) (by omega) (by omega) (by omega) (by omega) (by omega) (by omega) (by omega)) ?_
  intro z10 hz10
  obtain ⟨t_1_0, t_1_1, t_1_2, t_1_3, t_1_4, t_1_5, t_1_6, t_1_7, t_1_8, t_1_9, t_1_10, t_1_11, t_1_12⟩ := z10
  have q11 : t_1_0.toInt = s1.toInt := hz10.1
  have q12 : t_1_1.toInt = s2.toInt := hz10.2.1
  have q13 : 0 ≤ t_1_9.toInt := hz10.2.2.1
  have q14 : t_1_9.toInt ≤ 512 := hz10.2.2.2
  have g15 := zz_rg t_1_0
  have g16 := zz_rg t_1_1
  have g17 := zz_rg t_1_2
  have g18 := zz_rg t_1_3
  have g19 := zz_rg t_1_9
  have g20 := zz_rg t_1_10
  show zz_ok ((m_X10_find K n5 n6 k0 p1 s0 t_1_9 t_1_10 t_1_11 t_1_12).bind fun ⟨r_2, t_2_0, t_2_1, t_2_2, t_2_3⟩ => (m_X10_looked K n5 n6 t_2_0 t_2_1 t_2_2 t_2_3).bind fun ⟨r_3, t_3_0, t_3_1, t_3_2, t_3_3⟩ => (m_X7_addLooked K n0 n1 n2 n3 n4 n5 n6 r_3 t_1_0 t_1_1 t_1_2 t_1_3 t_1_4 t_1_5 t_1_6 t_1_7 t_1_8 t_3_0 t_3_1 t_3_2 t_3_3).bind fun ⟨t_4_0, t_4_1, t_4_2, t_4_3, t_4_4, t_4_5, t_4_6, t_4_7, t_4_8, t_4_9, t_4_10, t_4_11, t_4_12⟩ => if r_2 = ((-1 : Int32)) then (some (r_2, s0, t_4_0, t_4_1, t_4_2, t_4_3, t_4_4, t_4_5, t_4_6, t_4_7, t_4_8, t_4_9, t_4_10, t_4_11, t_4_12)) else (some (r_2, r_2 + p1, t_4_0, t_4_1, t_4_2, t_4_3, t_4_4, t_4_5, t_4_6, t_4_7, t_4_8, t_4_9, t_4_10, t_4_11, t_4_12))) _
  refine zz_ok_bind (s_X10_find K hK n5 n6 k0 p1 s0 t_1_9 t_1_10 t_1_11 t_1_12 (by omega) (by omega) (by omega) (by omega)) ?_
  intro z21 hz21
  obtain ⟨r_2, t_2_0, t_2_1, t_2_2, t_2_3⟩ := z21
  have q22 : t_2_0.toInt = t_1_9.toInt := hz21
  have g23 := zz_rg r_2
  have g24 := zz_rg t_2_0
  have g25 := zz_rg t_2_1
  show zz_ok ((m_X10_looked K n5 n6 t_2_0 t_2_1 t_2_2 t_2_3).bind fun ⟨r_3, t_3_0, t_3_1, t_3_2, t_3_3⟩ => (m_X7_addLooked K n0 n1 n2 n3 n4 n5 n6 r_3 t_1_0 t_1_1 t_1_2 t_1_3 t_1_4 t_1_5 t_1_6 t_1_7 t_1_8 t_3_0 t_3_1 t_3_2 t_3_3).bind fun ⟨t_4_0, t_4_1, t_4_2, t_4_3, t_4_4, t_4_5, t_4_6, t_4_7, t_4_8, t_4_9, t_4_10, t_4_11, t_4_12⟩ => if r_2 = ((-1 : Int32)) then (some (r_2, s0, t_4_0, t_4_1, t_4_2, t_4_3, t_4_4, t_4_5, t_4_6, t_4_7, t_4_8, t_4_9, t_4_10, t_4_11, t_4_12)) else (some (r_2, r_2 + p1, t_4_0, t_4_1, t_4_2, t_4_3, t_4_4, t_4_5, t_4_6, t_4_7, t_4_8, t_4_9, t_4_10, t_4_11, t_4_12))) _
  refine zz_ok_bind (s_X10_looked K hK n5 n6 t_2_0 t_2_1 t_2_2 t_2_3) ?_
  intro z26 hz26
  obtain ⟨r_3, t_3_0, t_3_1, t_3_2, t_3_3⟩ := z26
  have q27 : t_3_0.toInt = t_2_0.toInt := hz26
  have g28 := zz_rg r_3
  have g29 := zz_rg t_3_0
  have g30 := zz_rg t_3_1
  show zz_ok ((m_X7_addLooked K n0 n1 n2 n3 n4 n5 n6 r_3 t_1_0 t_1_1 t_1_2 t_1_3 t_1_4 t_1_5 t_1_6 t_1_7 t_1_8 t_3_0 t_3_1 t_3_2 t_3_3).bind fun ⟨t_4_0, t_4_1, t_4_2, t_4_3, t_4_4, t_4_5, t_4_6, t_4_7, t_4_8, t_4_9, t_4_10, t_4_11, t_4_12⟩ => if r_2 = ((-1 : Int32)) then (some (r_2, s0, t_4_0, t_4_1, t_4_2, t_4_3, t_4_4, t_4_5, t_4_6, t_4_7, t_4_8, t_4_9, t_4_10, t_4_11, t_4_12)) else (some (r_2, r_2 + p1, t_4_0, t_4_1, t_4_2, t_4_3, t_4_4, t_4_5, t_4_6, t_4_7, t_4_8, t_4_9, t_4_10, t_4_11, t_4_12))) _
  refine zz_ok_bind (s_X7_addLooked K hK n0 n1 n2 n3 n4 n5 n6 r_3 t_1_0 t_1_1 t_1_2 t_1_3 t_1_4 t_1_5 t_1_6 t_1_7 t_1_8 t_3_0 t_3_1 t_3_2 t_3_3 (by omega) (by omega) (by omega) (by omega) (by omega) (by omega) (by omega) (by omega) (by omega) (by omega) (by omega) (by omega) (by omega)) ?_
  intro z31 hz31
  obtain ⟨t_4_0, t_4_1, t_4_2, t_4_3, t_4_4, t_4_5, t_4_6, t_4_7, t_4_8, t_4_9, t_4_10, t_4_11, t_4_12⟩ := z31
  have q32 : t_4_0.toInt = t_1_0.toInt := hz31.1
  have q33 : t_4_1.toInt = t_1_1.toInt := hz31.2.1
  have q34 : 0 ≤ t_4_9.toInt := hz31.2.2.1
  have q35 : t_4_9.toInt ≤ 512 := hz31.2.2.2
  have g36 := zz_rg t_4_0
  have g37 := zz_rg t_4_1
  have g38 := zz_rg t_4_2
  have g39 := zz_rg t_4_3
  have g40 := zz_rg t_4_9
  have g41 := zz_rg t_4_10
  show zz_ok (if r_2 = ((-1 : Int32)) then (some (r_2, s0, t_4_0, t_4_1, t_4_2, t_4_3, t_4_4, t_4_5, t_4_6, t_4_7, t_4_8, t_4_9, t_4_10, t_4_11, t_4_12)) else (some (r_2, r_2 + p1, t_4_0, t_4_1, t_4_2, t_4_3, t_4_4, t_4_5, t_4_6, t_4_7, t_4_8, t_4_9, t_4_10, t_4_11, t_4_12))) _
  have l43 : (-1 : Int32).toInt = -1 := rfl
  refine zz_ok_ite (fun c42 => ?_) (fun c42 => ?_)
  · have c42 := congrArg Int32.toInt c42
    refine zz_ok_some ?_
    show t_4_0.toInt = s1.toInt ∧ t_4_1.toInt = s2.toInt ∧ 0 ≤ t_4_9.toInt ∧ t_4_9.toInt ≤ 512
    refine ⟨?_, ?_, ?_, ?_⟩ <;> omega
  · have c42 := zz_neq c42
    refine zz_ok_some ?_
    show t_4_0.toInt = s1.toInt ∧ t_4_1.toInt = s2.toInt ∧ 0 ≤ t_4_9.toInt ∧ t_4_9.toInt ≤ 512
    refine ⟨?_, ?_, ?_, ?_⟩ <;> omega
set_option maxHeartbeats 4000000 in
theorem s_X0_takeBack (K : Nat) (hK : 1099511627776 ≤ K) (n0 : Nat) (n1 : Nat) (n2 : Nat) (n3 : Nat) (n4 : Nat) (n5 : Nat) (n6 : Nat) (k0 : Int32) (p1 : Int32) (p2 : Int32) (s0 : Int32) (s1 : Int32) (s2 : Int32) (s3 : Int32) (s4 : Int32) (s5 : Nat → Int32) (s6 : Nat → Int32) (s7 : Nat → Int32) (s8 : Nat → Int32) (s9 : Nat → Int32) (s10 : Int32) (s11 : Int32) (s12 : Nat → Int32) (s13 : Nat → Int32) (a0 : n0 = 1024) (a1 : n1 = 200) (a2 : n2 = 200) (a3 : n3 = 200) (a4 : n4 = 200) (a5 : n5 = 512) (a6 : n6 = 512) (a7 : 0 ≤ s1.toInt) (a8 : s1.toInt ≤ 1024) (a9 : 0 ≤ s2.toInt) (a10 : s2.toInt ≤ 200) (a11 : 0 ≤ s10.toInt) (a12 : s10.toInt ≤ 512) : zz_ok (m_X0_takeBack K n0 n1 n2 n3 n4 n5 n6 k0 p1 p2 s0 s1 s2 s3 s4 s5 s6 s7 s8 s9 s10 s11 s12 s13) (fun z => z.2.1.toInt = s1.toInt ∧ z.2.2.1.toInt = s2.toInt ∧ 0 ≤ z.2.2.2.2.2.2.2.2.2.2.1.toInt ∧ z.2.2.2.2.2.2.2.2.2.2.1.toInt ≤ 512) := by
  have g1 := zz_rg k0
  have g2 := zz_rg p1
  have g3 := zz_rg p2
  have g4 := zz_rg s0
  have g5 := zz_rg s1
  have g6 := zz_rg s2
  have g7 := zz_rg s3
  have g8 := zz_rg s4
  have g9 := zz_rg s10
  have g10 := zz_rg s11
  unfold m_X0_takeBack
  refine zz_ok_some ?_
  show s1.toInt = s1.toInt ∧ s2.toInt = s2.toInt ∧ 0 ≤ s10.toInt ∧ s10.toInt ≤ 512
  refine ⟨?_, ?_, ?_, ?_⟩ <;> omega
set_option maxHeartbeats 4000000 in
theorem s_X2_begin (K : Nat) (hK : 1099511627776 ≤ K) (n0 : Nat) (n1 : Nat) (n2 : Nat) (n3 : Nat) (n4 : Nat) (n5 : Nat) (n6 : Nat) (s0 : Int32) (s1 : Int32) (s2 : Int32) (s3 : Int32) (s4 : Int32) (s5 : Nat → Int32) (s6 : Nat → Int32) (s7 : Nat → Int32) (s8 : Nat → Int32) (s9 : Nat → Int32) (s10 : Int32) (s11 : Int32) (s12 : Nat → Int32) (s13 : Nat → Int32) (a0 : n0 = 1024) (a1 : n1 = 200) (a2 : n2 = 200) (a3 : n3 = 200) (a4 : n4 = 200) (a5 : n5 = 512) (a6 : n6 = 512) (a7 : 0 ≤ s1.toInt) (a8 : s1.toInt ≤ 1024) (a9 : 0 ≤ s2.toInt) (a10 : s2.toInt ≤ 200) (a11 : 0 ≤ s10.toInt) (a12 : s10.toInt ≤ 512) : zz_ok (m_X2_begin K n0 n1 n2 n3 n4 n5 n6 s0 s1 s2 s3 s4 s5 s6 s7 s8 s9 s10 s11 s12 s13) (fun z => z.2.1.toInt = s1.toInt ∧ z.2.2.1.toInt = s2.toInt ∧ 0 ≤ z.2.2.2.2.2.2.2.2.2.2.1.toInt ∧ z.2.2.2.2.2.2.2.2.2.2.1.toInt ≤ 512 ∧ 0 ≤ z.1.toInt ∧ z.1.toInt ≤ 1024) := by
  have g1 := zz_rg s0
  have g2 := zz_rg s1
  have g3 := zz_rg s2
  have g4 := zz_rg s3
  have g5 := zz_rg s4
  have g6 := zz_rg s10
  have g7 := zz_rg s11
  unfold m_X2_begin
  refine zz_ok_bind (s_X7_words K hK n0 n1 n2 n3 n4 n5 n6 s1 s2 s3 s4 s5 s6 s7 s8 s9 s10 s11 s12 s13 (by omega) (by omega) (by omega) (by omega) (by omega) (by omega) (by omega) (by omega) (by omega) (by omega) (by omega) (by omega) (by omega)) ?_
  intro z8 hz8
  obtain ⟨r_1, t_1_0, t_1_1, t_1_2, t_1_3, t_1_4, t_1_5, t_1_6, t_1_7, t_1_8, t_1_9, t_1_10, t_1_11, t_1_12⟩ := z8
  have q9 : r_1.toInt = s1.toInt := hz8.1
  have q10 : t_1_0.toInt = s1.toInt := hz8.2.1
  have q11 : t_1_1.toInt = s2.toInt := hz8.2.2.1
  have q12 : 0 ≤ t_1_9.toInt := hz8.2.2.2.1
  have q13 : t_1_9.toInt ≤ 512 := hz8.2.2.2.2
  have g14 := zz_rg r_1
  have g15 := zz_rg t_1_0
  have g16 := zz_rg t_1_1
  have g17 := zz_rg t_1_2
  have g18 := zz_rg t_1_3
  have g19 := zz_rg t_1_9
  have g20 := zz_rg t_1_10
  show zz_ok (some (r_1 / ((4 : Int32)), t_1_0, t_1_1, t_1_2, t_1_3, t_1_4, t_1_5, t_1_6, t_1_7, t_1_8, t_1_9, t_1_10, t_1_11, t_1_12)) _
  have l21 : (4 : Int32).toInt = 4 := rfl
  try have f22 := zz_divP r_1 (4 : Int32) 4 rfl (by decide) (by omega)
  have f23 := zz_divB r_1 (4 : Int32) 4 rfl (by decide)
  have g24 := zz_rg (r_1 / ((4 : Int32)))
  refine zz_ok_some ?_
  show t_1_0.toInt = s1.toInt ∧ t_1_1.toInt = s2.toInt ∧ 0 ≤ t_1_9.toInt ∧ t_1_9.toInt ≤ 512 ∧ 0 ≤ (r_1 / ((4 : Int32))).toInt ∧ (r_1 / ((4 : Int32))).toInt ≤ 1024
  refine ⟨?_, ?_, ?_, ?_, ?_, ?_⟩ <;> omega
set_option maxHeartbeats 4000000 in
theorem s_X2_spanOf (K : Nat) (hK : 1099511627776 ≤ K) (n0 : Nat) (n1 : Nat) (n2 : Nat) (n3 : Nat) (n4 : Nat) (n5 : Nat) (n6 : Nat) (p1 : Int32) (s0 : Int32) (s1 : Int32) (s2 : Int32) (s3 : Int32) (s4 : Int32) (s5 : Nat → Int32) (s6 : Nat → Int32) (s7 : Nat → Int32) (s8 : Nat → Int32) (s9 : Nat → Int32) (s10 : Int32) (s11 : Int32) (s12 : Nat → Int32) (s13 : Nat → Int32) (a0 : n0 = 1024) (a1 : n1 = 200) (a2 : n2 = 200) (a3 : n3 = 200) (a4 : n4 = 200) (a5 : n5 = 512) (a6 : n6 = 512) (a7 : 0 ≤ s1.toInt) (a8 : s1.toInt ≤ 1024) (a9 : 0 ≤ s2.toInt) (a10 : s2.toInt ≤ 200) (a11 : 0 ≤ s10.toInt) (a12 : s10.toInt ≤ 512) (a13 : 0 ≤ s0.toInt) (a14 : s0.toInt ≤ 1024) (a15 : 1 ≤ p1.toInt) (a16 : p1.toInt ≤ 1024) : zz_ok (m_X2_spanOf K n0 n1 n2 n3 n4 n5 n6 p1 s0 s1 s2 s3 s4 s5 s6 s7 s8 s9 s10 s11 s12 s13) (fun z => 0 ≤ z.1.toInt ∧ z.1.toInt ≤ 2000 ∧ z.2.2.1.toInt = s1.toInt ∧ z.2.2.2.1.toInt = s2.toInt ∧ 0 ≤ z.2.2.2.2.2.2.2.2.2.2.2.1.toInt ∧ z.2.2.2.2.2.2.2.2.2.2.2.1.toInt ≤ 512 ∧ z.2.1.toInt = s0.toInt) := by
  have g1 := zz_rg p1
  have g2 := zz_rg s0
  have g3 := zz_rg s1
  have g4 := zz_rg s2
  have g5 := zz_rg s3
  have g6 := zz_rg s4
  have g7 := zz_rg s10
  have g8 := zz_rg s11
  unfold m_X2_spanOf
  have l9 : (4 : Int32).toInt = 4 := rfl
  obtain ⟨k10, f11⟩ := zz_add p1 (4 : Int32)
  have g12 := zz_rg (p1 + ((4 : Int32)))
  have l13 : (1 : Int32).toInt = 1 := rfl
  obtain ⟨k14, f15⟩ := zz_sub (p1 + ((4 : Int32))) (1 : Int32)
  have g16 := zz_rg ((p1 + ((4 : Int32))) - ((1 : Int32)))
  try have f17 := zz_divP ((p1 + ((4 : Int32))) - ((1 : Int32))) (4 : Int32) 4 rfl (by decide) (by omega)
  have f18 := zz_divB ((p1 + ((4 : Int32))) - ((1 : Int32))) (4 : Int32) 4 rfl (by decide)
  have g19 := zz_rg (((p1 + ((4 : Int32))) - ((1 : Int32))) / ((4 : Int32)))
  obtain ⟨k20, f21⟩ := zz_mul (((p1 + ((4 : Int32))) - ((1 : Int32))) / ((4 : Int32))) (4 : Int32)
  rw [show (4 : Int32).toInt = 4 from rfl] at f21
  have g22 := zz_rg ((((p1 + ((4 : Int32))) - ((1 : Int32))) / ((4 : Int32))) * ((4 : Int32)))
  refine zz_ok_some ?_
  show 0 ≤ ((((p1 + ((4 : Int32))) - ((1 : Int32))) / ((4 : Int32))) * ((4 : Int32))).toInt ∧ ((((p1 + ((4 : Int32))) - ((1 : Int32))) / ((4 : Int32))) * ((4 : Int32))).toInt ≤ 2000 ∧ s1.toInt = s1.toInt ∧ s2.toInt = s2.toInt ∧ 0 ≤ s10.toInt ∧ s10.toInt ≤ 512 ∧ s0.toInt = s0.toInt
  refine ⟨?_, ?_, ?_, ?_, ?_, ?_, ?_⟩ <;> omega
set_option maxHeartbeats 4000000 in
theorem s_X2_areFree_L2 (K : Nat) (hK : 1099511627776 ≤ K) (n0 : Nat) (n1 : Nat) (n2 : Nat) (n3 : Nat) (n4 : Nat) (n5 : Nat) (n6 : Nat) : ∀ (k : Nat) (x1 : Int32) (x2 : Int32) (x3 : Int32) (s0 : Int32) (s1 : Int32) (s2 : Int32) (s3 : Int32) (s4 : Int32) (s5 : Nat → Int32) (s6 : Nat → Int32) (s7 : Nat → Int32) (s8 : Nat → Int32) (s9 : Nat → Int32) (s10 : Int32) (s11 : Int32) (s12 : Nat → Int32) (s13 : Nat → Int32), n0 = 1024 → n1 = 200 → n2 = 200 → n3 = 200 → n4 = 200 → n5 = 512 → n6 = 512 → 0 ≤ s1.toInt → s1.toInt ≤ 1024 → 0 ≤ s2.toInt → s2.toInt ≤ 200 → 0 ≤ s10.toInt → s10.toInt ≤ 512 → 0 ≤ s0.toInt → s0.toInt ≤ 1024 → 2147483648 - x3.toInt < (k : Int) → zz_ok (m_X2_areFree_L2 K n0 n1 n2 n3 n4 n5 n6 k x1 x2 x3 s0 s1 s2 s3 s4 s5 s6 s7 s8 s9 s10 s11 s12 s13) (fun z => (z.1.toInt = 0 ∨ z.1.toInt = 1) ∧ z.2.2.1.toInt = s1.toInt ∧ z.2.2.2.1.toInt = s2.toInt ∧ 0 ≤ z.2.2.2.2.2.2.2.2.2.2.2.1.toInt ∧ z.2.2.2.2.2.2.2.2.2.2.2.1.toInt ≤ 512 ∧ z.2.1.toInt = s0.toInt) := by
  intro k
  induction k with
  | zero =>
    intro x1 x2 x3 s0 s1 s2 s3 s4 s5 s6 s7 s8 s9 s10 s11 s12 s13 a0 a1 a2 a3 a4 a5 a6 a7 a8 a9 a10 a11 a12 a13 a14 hz9
    exfalso
    have g_x1 := zz_rg x1
    have g_x2 := zz_rg x2
    have g_x3 := zz_rg x3
    have g_s0 := zz_rg s0
    have g_s1 := zz_rg s1
    have g_s2 := zz_rg s2
    have g_s3 := zz_rg s3
    have g_s4 := zz_rg s4
    have g_s10 := zz_rg s10
    have g_s11 := zz_rg s11
    omega
  | succ k ih =>
    intro x1 x2 x3 s0 s1 s2 s3 s4 s5 s6 s7 s8 s9 s10 s11 s12 s13 a0 a1 a2 a3 a4 a5 a6 a7 a8 a9 a10 a11 a12 a13 a14 hz9
    rw [m_X2_areFree_L2_s]
    have g1 := zz_rg x1
    have g2 := zz_rg x2
    have g3 := zz_rg x3
    have g4 := zz_rg s0
    have g5 := zz_rg s1
    have g6 := zz_rg s2
    have g7 := zz_rg s3
    have g8 := zz_rg s4
    have g9 := zz_rg s10
    have g10 := zz_rg s11
    obtain ⟨k12, f13⟩ := zz_add x1 x2
    have g14 := zz_rg (x1 + x2)
    refine zz_ok_ite (fun c11 => ?_) (fun c11 => ?_)
    · have c11 := Int32.le_iff_toInt_le.mp c11
      have l15 : (1 : Int32).toInt = 1 := rfl
      refine zz_ok_some ?_
      show ((1 : Int32).toInt = 0 ∨ (1 : Int32).toInt = 1) ∧ s1.toInt = s1.toInt ∧ s2.toInt = s2.toInt ∧ 0 ≤ s10.toInt ∧ s10.toInt ≤ 512 ∧ s0.toInt = s0.toInt
      refine ⟨?_, ?_, ?_, ?_, ?_, ?_⟩ <;> omega
    · have c11 := zz_nle c11
      have l16 : (4 : Int32).toInt = 4 := rfl
      obtain ⟨k17, f18⟩ := zz_mul x3 (4 : Int32)
      rw [show (4 : Int32).toInt = 4 from rfl] at f18
      have g19 := zz_rg (x3 * ((4 : Int32)))
      refine zz_ok_bind (s_X7_isFree K hK n0 n1 n2 n3 n4 n5 n6 (x3 * ((4 : Int32))) s1 s2 s3 s4 s5 s6 s7 s8 s9 s10 s11 s12 s13 (by omega) (by omega) (by omega) (by omega) (by omega) (by omega) (by omega) (by omega) (by omega) (by omega) (by omega) (by omega) (by omega)) ?_
      intro z20 hz20
      obtain ⟨r_2, t_2_0, t_2_1, t_2_2, t_2_3, t_2_4, t_2_5, t_2_6, t_2_7, t_2_8, t_2_9, t_2_10, t_2_11, t_2_12⟩ := z20
      have q21 : (r_2.toInt = 0 ∨ r_2.toInt = 1) := hz20.1
      have q22 : t_2_0.toInt = s1.toInt := hz20.2.1
      have q23 : t_2_1.toInt = s2.toInt := hz20.2.2.1
      have q24 : 0 ≤ t_2_9.toInt := hz20.2.2.2.1
      have q25 : t_2_9.toInt ≤ 512 := hz20.2.2.2.2
      have g26 := zz_rg r_2
      have g27 := zz_rg t_2_0
      have g28 := zz_rg t_2_1
      have g29 := zz_rg t_2_2
      have g30 := zz_rg t_2_3
      have g31 := zz_rg t_2_9
      have g32 := zz_rg t_2_10
      show zz_ok (if r_2 = 0 then (some ((0 : Int32), s0, t_2_0, t_2_1, t_2_2, t_2_3, t_2_4, t_2_5, t_2_6, t_2_7, t_2_8, t_2_9, t_2_10, t_2_11, t_2_12)) else (m_X2_areFree_L2 K n0 n1 n2 n3 n4 n5 n6 k x1 x2 (x3 + 1) s0 t_2_0 t_2_1 t_2_2 t_2_3 t_2_4 t_2_5 t_2_6 t_2_7 t_2_8 t_2_9 t_2_10 t_2_11 t_2_12)) _
      have l34 : (0 : Int32).toInt = 0 := rfl
      refine zz_ok_ite (fun c33 => ?_) (fun c33 => ?_)
      · have c33 := congrArg Int32.toInt c33
        refine zz_ok_some ?_
        show ((0 : Int32).toInt = 0 ∨ (0 : Int32).toInt = 1) ∧ t_2_0.toInt = s1.toInt ∧ t_2_1.toInt = s2.toInt ∧ 0 ≤ t_2_9.toInt ∧ t_2_9.toInt ≤ 512 ∧ s0.toInt = s0.toInt
        refine ⟨?_, ?_, ?_, ?_, ?_, ?_⟩ <;> omega
      · have c33 := zz_neq c33
        have l35 : (1 : Int32).toInt = 1 := rfl
        obtain ⟨k36, f37⟩ := zz_add x3 (1 : Int32)
        have g38 := zz_rg (x3 + 1)
        refine (ih x1 x2 (x3 + 1) s0 t_2_0 t_2_1 t_2_2 t_2_3 t_2_4 t_2_5 t_2_6 t_2_7 t_2_8 t_2_9 t_2_10 t_2_11 t_2_12 (by omega) (by omega) (by omega) (by omega) (by omega) (by omega) (by omega) (by omega) (by omega) (by omega) (by omega) (by omega) (by omega) (by omega) (by omega) (by omega)).mono (fun z hz => ?_)
        have q39 : (z.1.toInt = 0 ∨ z.1.toInt = 1) := hz.1
        have q40 : z.2.2.1.toInt = t_2_0.toInt := hz.2.1
        have q41 : z.2.2.2.1.toInt = t_2_1.toInt := hz.2.2.1
        have q42 : 0 ≤ z.2.2.2.2.2.2.2.2.2.2.2.1.toInt := hz.2.2.2.1
        have q43 : z.2.2.2.2.2.2.2.2.2.2.2.1.toInt ≤ 512 := hz.2.2.2.2.1
        have q44 : z.2.1.toInt = s0.toInt := hz.2.2.2.2.2
        show (z.1.toInt = 0 ∨ z.1.toInt = 1) ∧ z.2.2.1.toInt = s1.toInt ∧ z.2.2.2.1.toInt = s2.toInt ∧ 0 ≤ z.2.2.2.2.2.2.2.2.2.2.2.1.toInt ∧ z.2.2.2.2.2.2.2.2.2.2.2.1.toInt ≤ 512 ∧ z.2.1.toInt = s0.toInt
        refine ⟨?_, ?_, ?_, ?_, ?_, ?_⟩ <;> omega
set_option maxHeartbeats 4000000 in
theorem s_X2_areFree (K : Nat) (hK : 1099511627776 ≤ K) (n0 : Nat) (n1 : Nat) (n2 : Nat) (n3 : Nat) (n4 : Nat) (n5 : Nat) (n6 : Nat) (p1 : Int32) (p2 : Int32) (s0 : Int32) (s1 : Int32) (s2 : Int32) (s3 : Int32) (s4 : Int32) (s5 : Nat → Int32) (s6 : Nat → Int32) (s7 : Nat → Int32) (s8 : Nat → Int32) (s9 : Nat → Int32) (s10 : Int32) (s11 : Int32) (s12 : Nat → Int32) (s13 : Nat → Int32) (a0 : n0 = 1024) (a1 : n1 = 200) (a2 : n2 = 200) (a3 : n3 = 200) (a4 : n4 = 200) (a5 : n5 = 512) (a6 : n6 = 512) (a7 : 0 ≤ s1.toInt) (a8 : s1.toInt ≤ 1024) (a9 : 0 ≤ s2.toInt) (a10 : s2.toInt ≤ 200) (a11 : 0 ≤ s10.toInt) (a12 : s10.toInt ≤ 512) (a13 : 0 ≤ s0.toInt) (a14 : s0.toInt ≤ 1024) : zz_ok (m_X2_areFree K n0 n1 n2 n3 n4 n5 n6 p1 p2 s0 s1 s2 s3 s4 s5 s6 s7 s8 s9 s10 s11 s12 s13) (fun z => (z.1.toInt = 0 ∨ z.1.toInt = 1) ∧ z.2.2.1.toInt = s1.toInt ∧ z.2.2.2.1.toInt = s2.toInt ∧ 0 ≤ z.2.2.2.2.2.2.2.2.2.2.2.1.toInt ∧ z.2.2.2.2.2.2.2.2.2.2.2.1.toInt ≤ 512 ∧ z.2.1.toInt = s0.toInt) := by
  have g1 := zz_rg p1
  have g2 := zz_rg p2
  have g3 := zz_rg s0
  have g4 := zz_rg s1
  have g5 := zz_rg s2
  have g6 := zz_rg s3
  have g7 := zz_rg s4
  have g8 := zz_rg s10
  have g9 := zz_rg s11
  unfold m_X2_areFree
  refine (s_X2_areFree_L2 K hK n0 n1 n2 n3 n4 n5 n6 K p1 p2 p1 s0 s1 s2 s3 s4 s5 s6 s7 s8 s9 s10 s11 s12 s13 (by omega) (by omega) (by omega) (by omega) (by omega) (by omega) (by omega) (by omega) (by omega) (by omega) (by omega) (by omega) (by omega) (by omega) (by omega) (by omega)).mono (fun z hz => ?_)
  have q10 : (z.1.toInt = 0 ∨ z.1.toInt = 1) := hz.1
  have q11 : z.2.2.1.toInt = s1.toInt := hz.2.1
  have q12 : z.2.2.2.1.toInt = s2.toInt := hz.2.2.1
  have q13 : 0 ≤ z.2.2.2.2.2.2.2.2.2.2.2.1.toInt := hz.2.2.2.1
  have q14 : z.2.2.2.2.2.2.2.2.2.2.2.1.toInt ≤ 512 := hz.2.2.2.2.1
  have q15 : z.2.1.toInt = s0.toInt := hz.2.2.2.2.2
  show (z.1.toInt = 0 ∨ z.1.toInt = 1) ∧ z.2.2.1.toInt = s1.toInt ∧ z.2.2.2.1.toInt = s2.toInt ∧ 0 ≤ z.2.2.2.2.2.2.2.2.2.2.2.1.toInt ∧ z.2.2.2.2.2.2.2.2.2.2.2.1.toInt ≤ 512 ∧ z.2.1.toInt = s0.toInt
  refine ⟨?_, ?_, ?_, ?_, ?_, ?_⟩ <;> omega
set_option maxHeartbeats 4000000 in
theorem s_X2_take_L17 (K : Nat) (hK : 1099511627776 ≤ K) (n0 : Nat) (n1 : Nat) (n2 : Nat) (n3 : Nat) (n4 : Nat) (n5 : Nat) (n6 : Nat) : ∀ (k : Nat) (x1 : Int32) (x2 : Int32) (x3 : Int32) (x4 : Int32) (s0 : Int32) (s1 : Int32) (s2 : Int32) (s3 : Int32) (s4 : Int32) (s5 : Nat → Int32) (s6 : Nat → Int32) (s7 : Nat → Int32) (s8 : Nat → Int32) (s9 : Nat → Int32) (s10 : Int32) (s11 : Int32) (s12 : Nat → Int32) (s13 : Nat → Int32), n0 = 1024 → n1 = 200 → n2 = 200 → n3 = 200 → n4 = 200 → n5 = 512 → n6 = 512 → 0 ≤ s1.toInt → s1.toInt ≤ 1024 → 0 ≤ s2.toInt → s2.toInt ≤ 200 → 0 ≤ s10.toInt → s10.toInt ≤ 512 → 0 ≤ s0.toInt → s0.toInt ≤ 1024 → 0 ≤ x2.toInt → x2.toInt ≤ 1000 → 1 ≤ x3.toInt → x3.toInt ≤ 8 → 0 ≤ x4.toInt → x4.toInt ≤ 2000 → 2000 - x4.toInt < (k : Int) → zz_ok (m_X2_take_L17 K n0 n1 n2 n3 n4 n5 n6 k x1 x2 x3 x4 s0 s1 s2 s3 s4 s5 s6 s7 s8 s9 s10 s11 s12 s13) (fun z => z.2.2.1.toInt = s1.toInt ∧ z.2.2.2.1.toInt = s2.toInt ∧ 0 ≤ z.2.2.2.2.2.2.2.2.2.2.2.1.toInt ∧ z.2.2.2.2.2.2.2.2.2.2.2.1.toInt ≤ 512 ∧ z.2.1.toInt = s0.toInt) := by
  intro k
  induction k with
  | zero =>
    intro x1 x2 x3 x4 s0 s1 s2 s3 s4 s5 s6 s7 s8 s9 s10 s11 s12 s13 a0 a1 a2 a3 a4 a5 a6 a7 a8 a9 a10 a11 a12 a13 a14 a15 a16 a17 a18 a19 a20 hz9
    exfalso
    have g_x1 := zz_rg x1
    have g_x2 := zz_rg x2
    have g_x3 := zz_rg x3
    have g_x4 := zz_rg x4
    have g_s0 := zz_rg s0
    have g_s1 := zz_rg s1
    have g_s2 := zz_rg s2
    have g_s3 := zz_rg s3
    have g_s4 := zz_rg s4
    have g_s10 := zz_rg s10
    have g_s11 := zz_rg s11
    omega
  | succ k ih =>
    intro x1 x2 x3 x4 s0 s1 s2 s3 s4 s5 s6 s7 s8 s9 s10 s11 s12 s13 a0 a1 a2 a3 a4 a5 a6 a7 a8 a9 a10 a11 a12 a13 a14 a15 a16 a17 a18 a19 a20 hz9
    rw [m_X2_take_L17_s]
    have g1 := zz_rg x1
    have g2 := zz_rg x2
    have g3 := zz_rg x3
    have g4 := zz_rg x4
    have g5 := zz_rg s0
    have g6 := zz_rg s1
    have g7 := zz_rg s2
    have g8 := zz_rg s3
    have g9 := zz_rg s4
    have g10 := zz_rg s10
    have g11 := zz_rg s11
    obtain ⟨k13, f14⟩ := zz_add x4 x2
    have g15 := zz_rg (x4 + x2)
    refine zz_ok_ite (fun c12 => ?_) (fun c12 => ?_)
    · have c12 := Int32.lt_iff_toInt_lt.mp c12
      refine zz_ok_some ?_
      show s1.toInt = s1.toInt ∧ s2.toInt = s2.toInt ∧ 0 ≤ s10.toInt ∧ s10.toInt ≤ 512 ∧ s0.toInt = s0.toInt
      refine ⟨?_, ?_, ?_, ?_, ?_⟩ <;> omega
    · have c12 := zz_nlt c12
      have l16 : (1 : Int32).toInt = 1 := rfl
      refine zz_ok_bind (s_X7_addLooked K hK n0 n1 n2 n3 n4 n5 n6 ((1 : Int32)) s1 s2 s3 s4 s5 s6 s7 s8 s9 s10 s11 s12 s13 (by omega) (by omega) (by omega) (by omega) (by omega) (by omega) (by omega) (by omega) (by omega) (by omega) (by omega) (by omega) (by omega)) ?_
      intro z17 hz17
      obtain ⟨t_3_0, t_3_1, t_3_2, t_3_3, t_3_4, t_3_5, t_3_6, t_3_7, t_3_8, t_3_9, t_3_10, t_3_11, t_3_12⟩ := z17
      have q18 : t_3_0.toInt = s1.toInt := hz17.1
      have q19 : t_3_1.toInt = s2.toInt := hz17.2.1
      have q20 : 0 ≤ t_3_9.toInt := hz17.2.2.1
      have q21 : t_3_9.toInt ≤ 512 := hz17.2.2.2
      have g22 := zz_rg t_3_0
      have g23 := zz_rg t_3_1
      have g24 := zz_rg t_3_2
      have g25 := zz_rg t_3_3
      have g26 := zz_rg t_3_9
      have g27 := zz_rg t_3_10
      show zz_ok ((m_X2_areFree K n0 n1 n2 n3 n4 n5 n6 x4 x2 s0 t_3_0 t_3_1 t_3_2 t_3_3 t_3_4 t_3_5 t_3_6 t_3_7 t_3_8 t_3_9 t_3_10 t_3_11 t_3_12).bind fun ⟨r_4, t_4_0, t_4_1, t_4_2, t_4_3, t_4_4, t_4_5, t_4_6, t_4_7, t_4_8, t_4_9, t_4_10, t_4_11, t_4_12, t_4_13⟩ => if r_4 = 0 then (m_X2_take_L17 K n0 n1 n2 n3 n4 n5 n6 k x1 x2 x3 (x4 + x3) t_4_0 t_4_1 t_4_2 t_4_3 t_4_4 t_4_5 t_4_6 t_4_7 t_4_8 t_4_9 t_4_10 t_4_11 t_4_12 t_4_13) else (some (x4 * ((4 : Int32)), t_4_0, t_4_1, t_4_2, t_4_3, t_4_4, t_4_5, t_4_6, t_4_7, t_4_8, t_4_9, t_4_10, t_4_11, t_4_12, t_4_13))) _
      refine zz_ok_bind (s_X2_areFree K hK n0 n1 n2 n3 n4 n5 n6 x4 x2 s0 t_3_0 t_3_1 t_3_2 t_3_3 t_3_4 t_3_5 t_3_6 t_3_7 t_3_8 t_3_9 t_3_10 t_3_11 t_3_12 (by omega) (by omega) (by omega) (by omega) (by omega) (by omega) (by omega) (by omega) (by omega) (by omega) (by omega) (by omega) (by omega) (by omega) (by omega)) ?_
      intro z28 hz28
      obtain ⟨r_4, t_4_0, t_4_1, t_4_2, t_4_3, t_4_4, t_4_5, t_4_6, t_4_7, t_4_8, t_4_9, t_4_10, t_4_11, t_4_12, t_4_13⟩ := z28
      have q29 : (r_4.toInt = 0 ∨ r_4.toInt = 1) := hz28.1
      have q30 : t_4_1.toInt = t_3_0.toInt := hz28.2.1
      have q31 : t_4_2.toInt = t_3_1.toInt := hz28.2.2.1
      have q32 : 0 ≤ t_4_10.toInt := hz28.2.2.2.1
      have q33 : t_4_10.toInt ≤ 512 := hz28.2.2.2.2.1
      have q34 : t_4_0.toInt = s0.toInt := hz28.2.2.2.2.2
      have g35 := zz_rg r_4
      have g36 := zz_rg t_4_0
      have g37 := zz_rg t_4_1
      have g38 := zz_rg t_4_2
      have g39 := zz_rg t_4_3
      have g40 := zz_rg t_4_4
      have g41 := zz_rg t_4_10
      have g42 := zz_rg t_4_11
      show zz_ok (if r_4 = 0 then (m_X2_take_L17 K n0 n1 n2 n3 n4 n5 n6 k x1 x2 x3 (x4 + x3) t_4_0 t_4_1 t_4_2 t_4_3 t_4_4 t_4_5 t_4_6 t_4_7 t_4_8 t_4_9 t_4_10 t_4_11 t_4_12 t_4_13) else (some (x4 * ((4 : Int32)), t_4_0, t_4_1, t_4_2, t_4_3, t_4_4, t_4_5, t_4_6, t_4_7, t_4_8, t_4_9, t_4_10, t_4_11, t_4_12, t_4_13))) _
      have l44 : (0 : Int32).toInt = 0 := rfl
      refine zz_ok_ite (fun c43 => ?_) (fun c43 => ?_)
      · have c43 := congrArg Int32.toInt c43
        obtain ⟨k45, f46⟩ := zz_add x4 x3
        have g47 := zz_rg (x4 + x3)
        refine (ih x1 x2 x3 (x4 + x3) t_4_0 t_4_1 t_4_2 t_4_3 t_4_4 t_4_5 t_4_6 t_4_7 t_4_8 t_4_9 t_4_10 t_4_11 t_4_12 t_4_13 (by omega) (by omega) (by omega) (by omega) (by omega) (by omega) (by omega) (by omega) (by omega) (by omega) (by omega) (by omega) (by omega) (by omega) (by omega) (by omega) (by omega) (by omega) (by omega) (by omega) (by omega) (by omega)).mono (fun z hz => ?_)
        have q48 : z.2.2.1.toInt = t_4_1.toInt := hz.1
        have q49 : z.2.2.2.1.toInt = t_4_2.toInt := hz.2.1
        have q50 : 0 ≤ z.2.2.2.2.2.2.2.2.2.2.2.1.toInt := hz.2.2.1
        have q51 : z.2.2.2.2.2.2.2.2.2.2.2.1.toInt ≤ 512 := hz.2.2.2.1
        have q52 : z.2.1.toInt = t_4_0.toInt := hz.2.2.2.2
        show z.2.2.1.toInt = s1.toInt ∧ z.2.2.2.1.toInt = s2.toInt ∧ 0 ≤ z.2.2.2.2.2.2.2.2.2.2.2.1.toInt ∧ z.2.2.2.2.2.2.2.2.2.2.2.1.toInt ≤ 512 ∧ z.2.1.toInt = s0.toInt
        refine ⟨?_, ?_, ?_, ?_, ?_⟩ <;> omega
      · have c43 := zz_neq c43
        refine zz_ok_some ?_
        show t_4_1.toInt = s1.toInt ∧ t_4_2.toInt = s2.toInt ∧ 0 ≤ t_4_10.toInt ∧ t_4_10.toInt ≤ 512 ∧ t_4_0.toInt = s0.toInt
        refine ⟨?_, ?_, ?_, ?_, ?_⟩ <;> omega
set_option maxHeartbeats 4000000 in
theorem s_X2_take (K : Nat) (hK : 1099511627776 ≤ K) (n0 : Nat) (n1 : Nat) (n2 : Nat) (n3 : Nat) (n4 : Nat) (n5 : Nat) (n6 : Nat) (p1 : Int32) (s0 : Int32) (s1 : Int32) (s2 : Int32) (s3 : Int32) (s4 : Int32) (s5 : Nat → Int32) (s6 : Nat → Int32) (s7 : Nat → Int32) (s8 : Nat → Int32) (s9 : Nat → Int32) (s10 : Int32) (s11 : Int32) (s12 : Nat → Int32) (s13 : Nat → Int32) (a0 : n0 = 1024) (a1 : n1 = 200) (a2 : n2 = 200) (a3 : n3 = 200) (a4 : n4 = 200) (a5 : n5 = 512) (a6 : n6 = 512) (a7 : 0 ≤ s1.toInt) (a8 : s1.toInt ≤ 1024) (a9 : 0 ≤ s2.toInt) (a10 : s2.toInt ≤ 200) (a11 : 0 ≤ s10.toInt) (a12 : s10.toInt ≤ 512) (a13 : 0 ≤ s0.toInt) (a14 : s0.toInt ≤ 1024) (a15 : 0 ≤ p1.toInt) (a16 : p1.toInt ≤ 2000) : zz_ok (m_X2_take K n0 n1 n2 n3 n4 n5 n6 p1 s0 s1 s2 s3 s4 s5 s6 s7 s8 s9 s10 s11 s12 s13) (fun z => z.2.2.1.toInt = s1.toInt ∧ z.2.2.2.1.toInt = s2.toInt ∧ 0 ≤ z.2.2.2.2.2.2.2.2.2.2.2.1.toInt ∧ z.2.2.2.2.2.2.2.2.2.2.2.1.toInt ≤ 512 ∧ z.2.1.toInt = s0.toInt) := by
  have g1 := zz_rg p1
  have g2 := zz_rg s0
  have g3 := zz_rg s1
  have g4 := zz_rg s2
  have g5 := zz_rg s3
  have g6 := zz_rg s4
  have g7 := zz_rg s10
  have g8 := zz_rg s11
  unfold m_X2_take
  have l9 : (4 : Int32).toInt = 4 := rfl
  try have f10 := zz_divP p1 (4 : Int32) 4 rfl (by decide) (by omega)
  have f11 := zz_divB p1 (4 : Int32) 4 rfl (by decide)
  have g12 := zz_rg (p1 / ((4 : Int32)))
  refine zz_ok_bind (s_X11_powerFrom K hK (p1 / ((4 : Int32)))) ?_
  intro z13 hz13
  obtain ⟨r_1, _⟩ := z13
  have q14 : 1 ≤ r_1.toInt := hz13.1
  have q15 : r_1.toInt ≤ 1024 := hz13.2
  have g16 := zz_rg r_1
  show zz_ok (m_X2_take_L17 K n0 n1 n2 n3 n4 n5 n6 K p1 (p1 / ((4 : Int32))) (zz_min r_1 ((8 : Int32))) ((0 : Int32)) s0 s1 s2 s3 s4 s5 s6 s7 s8 s9 s10 s11 s12 s13) _
  have l17 : (8 : Int32).toInt = 8 := rfl
  have f18 := zz_minF r_1 (8 : Int32)
  have g19 := zz_rg (zz_min r_1 ((8 : Int32)))
  have l20 : (0 : Int32).toInt = 0 := rfl
  refine (s_X2_take_L17 K hK n0 n1 n2 n3 n4 n5 n6 K p1 (p1 / ((4 : Int32))) (zz_min r_1 ((8 : Int32))) ((0 : Int32)) s0 s1 s2 s3 s4 s5 s6 s7 s8 s9 s10 s11 s12 s13 (by omega) (by omega) (by omega) (by omega) (by omega) (by omega) (by omega) (by omega) (by omega) (by omega) (by omega) (by omega) (by omega) (by omega) (by omega) (by omega) (by omega) (by omega) (by omega) (by omega) (by omega) (by omega)).mono (fun z hz => ?_)
  have q21 : z.2.2.1.toInt = s1.toInt := hz.1
  have q22 : z.2.2.2.1.toInt = s2.toInt := hz.2.1
  have q23 : 0 ≤ z.2.2.2.2.2.2.2.2.2.2.2.1.toInt := hz.2.2.1
  have q24 : z.2.2.2.2.2.2.2.2.2.2.2.1.toInt ≤ 512 := hz.2.2.2.1
  have q25 : z.2.1.toInt = s0.toInt := hz.2.2.2.2
  show z.2.2.1.toInt = s1.toInt ∧ z.2.2.2.1.toInt = s2.toInt ∧ 0 ≤ z.2.2.2.2.2.2.2.2.2.2.2.1.toInt ∧ z.2.2.2.2.2.2.2.2.2.2.2.1.toInt ≤ 512 ∧ z.2.1.toInt = s0.toInt
  refine ⟨?_, ?_, ?_, ?_, ?_⟩ <;> omega
set_option maxHeartbeats 4000000 in
theorem s_X2_takeBack (K : Nat) (hK : 1099511627776 ≤ K) (n0 : Nat) (n1 : Nat) (n2 : Nat) (n3 : Nat) (n4 : Nat) (n5 : Nat) (n6 : Nat) (p1 : Int32) (p2 : Int32) (s0 : Int32) (s1 : Int32) (s2 : Int32) (s3 : Int32) (s4 : Int32) (s5 : Nat → Int32) (s6 : Nat → Int32) (s7 : Nat → Int32) (s8 : Nat → Int32) (s9 : Nat → Int32) (s10 : Int32) (s11 : Int32) (s12 : Nat → Int32) (s13 : Nat → Int32) (a0 : n0 = 1024) (a1 : n1 = 200) (a2 : n2 = 200) (a3 : n3 = 200) (a4 : n4 = 200) (a5 : n5 = 512) (a6 : n6 = 512) (a7 : 0 ≤ s1.toInt) (a8 : s1.toInt ≤ 1024) (a9 : 0 ≤ s2.toInt) (a10 : s2.toInt ≤ 200) (a11 : 0 ≤ s10.toInt) (a12 : s10.toInt ≤ 512) (a13 : 0 ≤ s0.toInt) (a14 : s0.toInt ≤ 1024) : zz_ok (m_X2_takeBack K n0 n1 n2 n3 n4 n5 n6 p1 p2 s0 s1 s2 s3 s4 s5 s6 s7 s8 s9 s10 s11 s12 s13) (fun z => z.2.1.toInt = s1.toInt ∧ z.2.2.1.toInt = s2.toInt ∧ 0 ≤ z.2.2.2.2.2.2.2.2.2.2.1.toInt ∧ z.2.2.2.2.2.2.2.2.2.2.1.toInt ≤ 512 ∧ z.1.toInt = s0.toInt) := by
  have g1 := zz_rg p1
  have g2 := zz_rg p2
  have g3 := zz_rg s0
  have g4 := zz_rg s1
  have g5 := zz_rg s2
  have g6 := zz_rg s3
  have g7 := zz_rg s4
  have g8 := zz_rg s10
  have g9 := zz_rg s11
  unfold m_X2_takeBack
  refine zz_ok_some ?_
  show s1.toInt = s1.toInt ∧ s2.toInt = s2.toInt ∧ 0 ≤ s10.toInt ∧ s10.toInt ≤ 512 ∧ s0.toInt = s0.toInt
  refine ⟨?_, ?_, ?_, ?_, ?_⟩ <;> omega
set_option maxHeartbeats 4000000 in
theorem s_X3_begin (K : Nat) (hK : 1099511627776 ≤ K) (n0 : Nat) (n1 : Nat) (n2 : Nat) (n3 : Nat) (n4 : Nat) (n5 : Nat) (n6 : Nat) (n7 : Nat) (s0 : Int32) (s1 : Int32) (s2 : Int32) (s3 : Int32) (s4 : Int32) (s5 : Nat → Int32) (s6 : Nat → Int32) (s7 : Nat → Int32) (s8 : Nat → Int32) (s9 : Nat → Int32) (s10 : Int32) (s11 : Int32) (s12 : Nat → Int32) (s13 : Nat → Int32) (s14 : Nat → Int32) (a0 : n0 = 1024) (a1 : n1 = 200) (a2 : n2 = 200) (a3 : n3 = 200) (a4 : n4 = 200) (a5 : n5 = 512) (a6 : n6 = 512) (a7 : 0 ≤ s1.toInt) (a8 : s1.toInt ≤ 1024) (a9 : 0 ≤ s2.toInt) (a10 : s2.toInt ≤ 200) (a11 : 0 ≤ s10.toInt) (a12 : s10.toInt ≤ 512) (a13 : n7 = 1024) : zz_ok (m_X3_begin K n0 n1 n2 n3 n4 n5 n6 n7 s0 s1 s2 s3 s4 s5 s6 s7 s8 s9 s10 s11 s12 s13 s14) (fun z => z.2.1.toInt = s1.toInt ∧ z.2.2.1.toInt = s2.toInt ∧ 0 ≤ z.2.2.2.2.2.2.2.2.2.2.1.toInt ∧ z.2.2.2.2.2.2.2.2.2.2.1.toInt ≤ 512 ∧ 0 ≤ z.1.toInt ∧ z.1.toInt ≤ 1024) := by
  have g1 := zz_rg s0
  have g2 := zz_rg s1
  have g3 := zz_rg s2
  have g4 := zz_rg s3
  have g5 := zz_rg s4
  have g6 := zz_rg s10
  have g7 := zz_rg s11
  unfold m_X3_begin
  refine zz_ok_bind (s_X7_words K hK n0 n1 n2 n3 n4 n5 n6 s1 s2 s3 s4 s5 s6 s7 s8 s9 s10 s11 s12 s13 (by omega) (by omega) (by omega) (by omega) (by omega) (by omega) (by omega) (by omega) (by omega) (by omega) (by omega) (by omega) (by omega)) ?_
  intro z8 hz8
  obtain ⟨r_1, t_1_0, t_1_1, t_1_2, t_1_3, t_1_4, t_1_5, t_1_6, t_1_7, t_1_8, t_1_9, t_1_10, t_1_11, t_1_12⟩ := z8
  have q9 : r_1.toInt = s1.toInt := hz8.1
  have q10 : t_1_0.toInt = s1.toInt := hz8.2.1
  have q11 : t_1_1.toInt = s2.toInt := hz8.2.2.1
  have q12 : 0 ≤ t_1_9.toInt := hz8.2.2.2.1
  have q13 : t_1_9.toInt ≤ 512 := hz8.2.2.2.2
  have g14 := zz_rg r_1
  have g15 := zz_rg t_1_0
  have g16 := zz_rg t_1_1
  have g17 := zz_rg t_1_2
  have g18 := zz_rg t_1_3
  have g19 := zz_rg t_1_9
  have g20 := zz_rg t_1_10
  show zz_ok ((m_X11_powerFrom K r_1).bind fun ⟨r_2, _⟩ => (m_X7_words K n0 n1 n2 n3 n4 n5 n6 t_1_0 t_1_1 t_1_2 t_1_3 t_1_4 t_1_5 t_1_6 t_1_7 t_1_8 t_1_9 t_1_10 t_1_11 t_1_12).bind fun ⟨r_3, t_3_0, t_3_1, t_3_2, t_3_3, t_3_4, t_3_5, t_3_6, t_3_7, t_3_8, t_3_9, t_3_10, t_3_11, t_3_12⟩ => if r_2 ≤ r_3 then ((m_J7_fill_53178 K n7 ((0 : Int32)) s14).bind fun t_5_0 => if ¬ (((0 : Int32)) < 0 ∨ n7 ≤ ((0 : Int32)).toNatClampNeg) then (some (r_2, t_3_0, t_3_1, t_3_2, t_3_3, t_3_4, t_3_5, t_3_6, t_3_7, t_3_8, t_3_9, t_3_10, t_3_11, t_3_12, upd t_5_0 ((0 : Int32)).toNatClampNeg r_2)) else none) else ((m_J7_fill_53178 K n7 ((0 : Int32)) s14).bind fun t_7_0 => if ¬ (((0 : Int32)) < 0 ∨ n7 ≤ ((0 : Int32)).toNatClampNeg) then (some (r_2 / ((2 : Int32)), t_3_0, t_3_1, t_3_2, t_3_3, t_3_4, t_3_5, t_3_6, t_3_7, t_3_8, t_3_9, t_3_10, t_3_11, t_3_12, upd t_7_0 ((0 : Int32)).toNatClampNeg (r_2 / ((2 : Int32))))) else none)) _
  refine zz_ok_bind (s_X11_powerFrom K hK r_1) ?_
  intro z21 hz21
  obtain ⟨r_2, _⟩ := z21
  have q22 : 1 ≤ r_2.toInt := hz21.1
  have q23 : r_2.toInt ≤ 1024 := hz21.2
  have g24 := zz_rg r_2
  show zz_ok ((m_X7_words K n0 n1 n2 n3 n4 n5 n6 t_1_0 t_1_1 t_1_2 t_1_3 t_1_4 t_1_5 t_1_6 t_1_7 t_1_8 t_1_9 t_1_10 t_1_11 t_1_12).bind fun ⟨r_3, t_3_0, t_3_1, t_3_2, t_3_3, t_3_4, t_3_5, t_3_6, t_3_7, t_3_8, t_3_9, t_3_10, t_3_11, t_3_12⟩ => if r_2 ≤ r_3 then ((m_J7_fill_53178 K n7 ((0 : Int32)) s14).bind fun t_5_0 => if ¬ (((0 : Int32)) < 0 ∨ n7 ≤ ((0 : Int32)).toNatClampNeg) then (some (r_2, t_3_0, t_3_1, t_3_2, t_3_3, t_3_4, t_3_5, t_3_6, t_3_7, t_3_8, t_3_9, t_3_10, t_3_11, t_3_12, upd t_5_0 ((0 : Int32)).toNatClampNeg r_2)) else none) else ((m_J7_fill_53178 K n7 ((0 : Int32)) s14).bind fun t_7_0 => if ¬ (((0 : Int32)) < 0 ∨ n7 ≤ ((0 : Int32)).toNatClampNeg) then (some (r_2 / ((2 : Int32)), t_3_0, t_3_1, t_3_2, t_3_3, t_3_4, t_3_5, t_3_6, t_3_7, t_3_8, t_3_9, t_3_10, t_3_11, t_3_12, upd t_7_0 ((0 : Int32)).toNatClampNeg (r_2 / ((2 : Int32))))) else none)) _
  refine zz_ok_bind (s_X7_words K hK n0 n1 n2 n3 n4 n5 n6 t_1_0 t_1_1 t_1_2 t_1_3 t_1_4 t_1_5 t_1_6 t_1_7 t_1_8 t_1_9 t_1_10 t_1_11 t_1_12 (by omega) (by omega) (by omega) (by omega) (by omega) (by omega) (by omega) (by omega) (by omega) (by omega) (by omega) (by omega) (by omega)) ?_
  intro z25 hz25
  obtain ⟨r_3, t_3_0, t_3_1, t_3_2, t_3_3, t_3_4, t_3_5, t_3_6, t_3_7, t_3_8, t_3_9, t_3_10, t_3_11, t_3_12⟩ := z25
  have q26 : r_3.toInt = t_1_0.toInt := hz25.1
  have q27 : t_3_0.toInt = t_1_0.toInt := hz25.2.1
  have q28 : t_3_1.toInt = t_1_1.toInt := hz25.2.2.1
  have q29 : 0 ≤ t_3_9.toInt := hz25.2.2.2.1
  have q30 : t_3_9.toInt ≤ 512 := hz25.2.2.2.2
  have g31 := zz_rg r_3
  have g32 := zz_rg t_3_0
  have g33 := zz_rg t_3_1
  have g34 := zz_rg t_3_2
  have g35 := zz_rg t_3_3
  have g36 := zz_rg t_3_9
  have g37 := zz_rg t_3_10
  show zz_ok (if r_2 ≤ r_3 then ((m_J7_fill_53178 K n7 ((0 : Int32)) s14).bind fun t_5_0 => if ¬ (((0 : Int32)) < 0 ∨ n7 ≤ ((0 : Int32)).toNatClampNeg) then (some (r_2, t_3_0, t_3_1, t_3_2, t_3_3, t_3_4, t_3_5, t_3_6, t_3_7, t_3_8, t_3_9, t_3_10, t_3_11, t_3_12, upd t_5_0 ((0 : Int32)).toNatClampNeg r_2)) else none) else ((m_J7_fill_53178 K n7 ((0 : Int32)) s14).bind fun t_7_0 => if ¬ (((0 : Int32)) < 0 ∨ n7 ≤ ((0 : Int32)).toNatClampNeg) then (some (r_2 / ((2 : Int32)), t_3_0, t_3_1, t_3_2, t_3_3, t_3_4, t_3_5, t_3_6, t_3_7, t_3_8, t_3_9, t_3_10, t_3_11, t_3_12, upd t_7_0 ((0 : Int32)).toNatClampNeg (r_2 / ((2 : Int32))))) else none)) _
  refine zz_ok_ite (fun c38 => ?_) (fun c38 => ?_)
  · have c38 := Int32.le_iff_toInt_le.mp c38
    have l39 : (0 : Int32).toInt = 0 := rfl
    refine zz_ok_bind (s_J7_fill_53178 K hK n7 ((0 : Int32)) s14 (by omega)) ?_
    intro z40 hz40
    have ⟨t_5_0, h9z40⟩ : ∃ q, q = z40 := ⟨_, rfl⟩
    subst h9z40
    show zz_ok (if ¬ (((0 : Int32)) < 0 ∨ n7 ≤ ((0 : Int32)).toNatClampNeg) then (some (r_2, t_3_0, t_3_1, t_3_2, t_3_3, t_3_4, t_3_5, t_3_6, t_3_7, t_3_8, t_3_9, t_3_10, t_3_11, t_3_12, upd t_5_0 ((0 : Int32)).toNatClampNeg r_2)) else none) _
    refine zz_ok_chk (zz_ix (by omega) (by omega)) ?_
    refine zz_ok_some ?_
    show t_3_0.toInt = s1.toInt ∧ t_3_1.toInt = s2.toInt ∧ 0 ≤ t_3_9.toInt ∧ t_3_9.toInt ≤ 512 ∧ 0 ≤ r_2.toInt ∧ r_2.toInt ≤ 1024
    refine ⟨?_, ?_, ?_, ?_, ?_, ?_⟩ <;> omega
  · have c38 := zz_nle c38
    have l41 : (0 : Int32).toInt = 0 := rfl
    refine zz_ok_bind (s_J7_fill_53178 K hK n7 ((0 : Int32)) s14 (by omega)) ?_
    intro z42 hz42
    have ⟨t_7_0, h9z42⟩ : ∃ q, q = z42 := ⟨_, rfl⟩
    subst h9z42
    show zz_ok (if ¬ (((0 : Int32)) < 0 ∨ n7 ≤ ((0 : Int32)).toNatClampNeg) then (some (r_2 / ((2 : Int32)), t_3_0, t_3_1, t_3_2, t_3_3, t_3_4, t_3_5, t_3_6, t_3_7, t_3_8, t_3_9, t_3_10, t_3_11, t_3_12, upd t_7_0 ((0 : Int32)).toNatClampNeg (r_2 / ((2 : Int32))))) else none) _
    refine zz_ok_chk (zz_ix (by omega) (by omega)) ?_
    have l43 : (2 : Int32).toInt = 2 := rfl
    try have f44 := zz_divP r_2 (2 : Int32) 2 rfl (by decide) (by omega)
    have f45 := zz_divB r_2 (2 : Int32) 2 rfl (by decide)
    have g46 := zz_rg (r_2 / ((2 : Int32)))
    refine zz_ok_some ?_
    show t_3_0.toInt = s1.toInt ∧ t_3_1.toInt = s2.toInt ∧ 0 ≤ t_3_9.toInt ∧ t_3_9.toInt ≤ 512 ∧ 0 ≤ (r_2 / ((2 : Int32))).toInt ∧ (r_2 / ((2 : Int32))).toInt ≤ 1024
    refine ⟨?_, ?_, ?_, ?_, ?_, ?_⟩ <;> omega
set_option maxHeartbeats 4000000 in
theorem s_X3_spanOf (K : Nat) (hK : 1099511627776 ≤ K) (n0 : Nat) (n1 : Nat) (n2 : Nat) (n3 : Nat) (n4 : Nat) (n5 : Nat) (n6 : Nat) (n7 : Nat) (p1 : Int32) (s0 : Int32) (s1 : Int32) (s2 : Int32) (s3 : Int32) (s4 : Int32) (s5 : Nat → Int32) (s6 : Nat → Int32) (s7 : Nat → Int32) (s8 : Nat → Int32) (s9 : Nat → Int32) (s10 : Int32) (s11 : Int32) (s12 : Nat → Int32) (s13 : Nat → Int32) (s14 : Nat → Int32) (a0 : n0 = 1024) (a1 : n1 = 200) (a2 : n2 = 200) (a3 : n3 = 200) (a4 : n4 = 200) (a5 : n5 = 512) (a6 : n6 = 512) (a7 : 0 ≤ s1.toInt) (a8 : s1.toInt ≤ 1024) (a9 : 0 ≤ s2.toInt) (a10 : s2.toInt ≤ 200) (a11 : 0 ≤ s10.toInt) (a12 : s10.toInt ≤ 512) (a13 : n7 = 1024) (a14 : 0 ≤ s0.toInt) (a15 : s0.toInt ≤ 1024) : zz_ok (m_X3_spanOf K n0 n1 n2 n3 n4 n5 n6 n7 p1 s0 s1 s2 s3 s4 s5 s6 s7 s8 s9 s10 s11 s12 s13 s14) (fun z => 1 ≤ z.1.toInt ∧ z.1.toInt ≤ 1024 ∧ z.2.2.1.toInt = s1.toInt ∧ z.2.2.2.1.toInt = s2.toInt ∧ 0 ≤ z.2.2.2.2.2.2.2.2.2.2.2.1.toInt ∧ z.2.2.2.2.2.2.2.2.2.2.2.1.toInt ≤ 512 ∧ z.2.1.toInt = s0.toInt) := by
  have g1 := zz_rg p1
  have g2 := zz_rg s0
  have g3 := zz_rg s1
  have g4 := zz_rg s2
  have g5 := zz_rg s3
  have g6 := zz_rg s4
  have g7 := zz_rg s10
  have g8 := zz_rg s11
  unfold m_X3_spanOf
  refine zz_ok_bind (s_X11_powerFrom K hK p1) ?_
  intro z9 hz9
  obtain ⟨r_1, _⟩ := z9
  have q10 : 1 ≤ r_1.toInt := hz9.1
  have q11 : r_1.toInt ≤ 1024 := hz9.2
  have g12 := zz_rg r_1
  show zz_ok (some (r_1, s0, s1, s2, s3, s4, s5, s6, s7, s8, s9, s10, s11, s12, s13, s14)) _
  refine zz_ok_some ?_
  show 1 ≤ r_1.toInt ∧ r_1.toInt ≤ 1024 ∧ s1.toInt = s1.toInt ∧ s2.toInt = s2.toInt ∧ 0 ≤ s10.toInt ∧ s10.toInt ≤ 512 ∧ s0.toInt = s0.toInt
  refine ⟨?_, ?_, ?_, ?_, ?_, ?_, ?_⟩ <;> omega
set_option maxHeartbeats 4000000 in
theorem s_X3_freeParts_L4 (K : Nat) (hK : 1099511627776 ≤ K) (n0 : Nat) (n1 : Nat) (n2 : Nat) (n3 : Nat) (n4 : Nat) (n5 : Nat) (n6 : Nat) (n7 : Nat) : ∀ (k : Nat) (x1 : Int32) (x2 : Int32) (s0 : Int32) (s1 : Int32) (s2 : Int32) (s3 : Int32) (s4 : Int32) (s5 : Nat → Int32) (s6 : Nat → Int32) (s7 : Nat → Int32) (s8 : Nat → Int32) (s9 : Nat → Int32) (s10 : Int32) (s11 : Int32) (s12 : Nat → Int32) (s13 : Nat → Int32) (s14 : Nat → Int32), n0 = 1024 → n1 = 200 → n2 = 200 → n3 = 200 → n4 = 200 → n5 = 512 → n6 = 512 → 0 ≤ s1.toInt → s1.toInt ≤ 1024 → 0 ≤ s2.toInt → s2.toInt ≤ 200 → 0 ≤ s10.toInt → s10.toInt ≤ 512 → n7 = 1024 → 0 ≤ s0.toInt → s0.toInt ≤ 1024 → 0 ≤ x2.toInt → x2.toInt ≤ s0.toInt → s0.toInt - x2.toInt < (k : Int) → zz_ok (m_X3_freeParts_L4 K n0 n1 n2 n3 n4 n5 n6 n7 k x1 x2 s0 s1 s2 s3 s4 s5 s6 s7 s8 s9 s10 s11 s12 s13 s14) (fun z => z.2.2.1.toInt = s1.toInt ∧ z.2.2.2.1.toInt = s2.toInt ∧ 0 ≤ z.2.2.2.2.2.2.2.2.2.2.2.1.toInt ∧ z.2.2.2.2.2.2.2.2.2.2.2.1.toInt ≤ 512 ∧ z.2.1.toInt = s0.toInt) := by
  intro k
  induction k with
  | zero =>
    intro x1 x2 s0 s1 s2 s3 s4 s5 s6 s7 s8 s9 s10 s11 s12 s13 s14 a0 a1 a2 a3 a4 a5 a6 a7 a8 a9 a10 a11 a12 a13 a14 a15 a16 a17 hz9
    exfalso
    have g_x1 := zz_rg x1
    have g_x2 := zz_rg x2
    have g_s0 := zz_rg s0
    have g_s1 := zz_rg s1
    have g_s2 := zz_rg s2
    have g_s3 := zz_rg s3
    have g_s4 := zz_rg s4
    have g_s10 := zz_rg s10
    have g_s11 := zz_rg s11
    omega
  | succ k ih =>
    intro x1 x2 s0 s1 s2 s3 s4 s5 s6 s7 s8 s9 s10 s11 s12 s13 s14 a0 a1 a2 a3 a4 a5 a6 a7 a8 a9 a10 a11 a12 a13 a14 a15 a16 a17 hz9
    rw [m_X3_freeParts_L4_s]
    have g1 := zz_rg x1
    have g2 := zz_rg x2
    have g3 := zz_rg s0
    have g4 := zz_rg s1
    have g5 := zz_rg s2
    have g6 := zz_rg s3
    have g7 := zz_rg s4
    have g8 := zz_rg s10
    have g9 := zz_rg s11
    refine zz_ok_ite (fun c10 => ?_) (fun c10 => ?_)
    · have c10 := Int32.le_iff_toInt_le.mp c10
      refine zz_ok_some ?_
      show s1.toInt = s1.toInt ∧ s2.toInt = s2.toInt ∧ 0 ≤ s10.toInt ∧ s10.toInt ≤ 512 ∧ s0.toInt = s0.toInt
      refine ⟨?_, ?_, ?_, ?_, ?_⟩ <;> omega
    · have c10 := zz_nle c10
      refine zz_ok_chk (zz_ix (by omega) (by omega)) ?_
      have g12 := zz_rg (s14 x2.toNatClampNeg)
      have l13 : (0 : Int32).toInt = 0 := rfl
      refine zz_ok_ite (fun c11 => ?_) (fun c11 => ?_)
      · have c11 := Int32.le_iff_toInt_le.mp c11
        have l14 : (1 : Int32).toInt = 1 := rfl
        obtain ⟨k15, f16⟩ := zz_add x2 (1 : Int32)
        have g17 := zz_rg (x2 + 1)
        refine (ih x1 (x2 + 1) s0 s1 s2 s3 s4 s5 s6 s7 s8 s9 s10 s11 s12 s13 s14 (by omega) (by omega) (by omega) (by omega) (by omega) (by omega) (by omega) (by omega) (by omega) (by omega) (by omega) (by omega) (by omega) (by omega) (by omega) (by omega) (by omega) (by omega) (by omega)).mono (fun z hz => ?_)
        have q18 : z.2.2.1.toInt = s1.toInt := hz.1
        have q19 : z.2.2.2.1.toInt = s2.toInt := hz.2.1
        have q20 : 0 ≤ z.2.2.2.2.2.2.2.2.2.2.2.1.toInt := hz.2.2.1
        have q21 : z.2.2.2.2.2.2.2.2.2.2.2.1.toInt ≤ 512 := hz.2.2.2.1
        have q22 : z.2.1.toInt = s0.toInt := hz.2.2.2.2
        show z.2.2.1.toInt = s1.toInt ∧ z.2.2.2.1.toInt = s2.toInt ∧ 0 ≤ z.2.2.2.2.2.2.2.2.2.2.2.1.toInt ∧ z.2.2.2.2.2.2.2.2.2.2.2.1.toInt ≤ 512 ∧ z.2.1.toInt = s0.toInt
        refine ⟨?_, ?_, ?_, ?_, ?_⟩ <;> omega
      · have c11 := zz_nle c11
        have l23 : (1 : Int32).toInt = 1 := rfl
        obtain ⟨k24, f25⟩ := zz_add x1 (1 : Int32)
        have g26 := zz_rg (x1 + 1)
        obtain ⟨k27, f28⟩ := zz_add x2 (1 : Int32)
        have g29 := zz_rg (x2 + 1)
        refine (ih (x1 + 1) (x2 + 1) s0 s1 s2 s3 s4 s5 s6 s7 s8 s9 s10 s11 s12 s13 s14 (by omega) (by omega) (by omega) (by omega) (by omega) (by omega) (by omega) (by omega) (by omega) (by omega) (by omega) (by omega) (by omega) (by omega) (by omega) (by omega) (by omega) (by omega) (by omega)).mono (fun z hz => ?_)
        have q30 : z.2.2.1.toInt = s1.toInt := hz.1
        have q31 : z.2.2.2.1.toInt = s2.toInt := hz.2.1
        have q32 : 0 ≤ z.2.2.2.2.2.2.2.2.2.2.2.1.toInt := hz.2.2.1
        have q33 : z.2.2.2.2.2.2.2.2.2.2.2.1.toInt ≤ 512 := hz.2.2.2.1
        have q34 : z.2.1.toInt = s0.toInt := hz.2.2.2.2
        show z.2.2.1.toInt = s1.toInt ∧ z.2.2.2.1.toInt = s2.toInt ∧ 0 ≤ z.2.2.2.2.2.2.2.2.2.2.2.1.toInt ∧ z.2.2.2.2.2.2.2.2.2.2.2.1.toInt ≤ 512 ∧ z.2.1.toInt = s0.toInt
        refine ⟨?_, ?_, ?_, ?_, ?_⟩ <;> omega
set_option maxHeartbeats 4000000 in
theorem s_X3_freeParts (K : Nat) (hK : 1099511627776 ≤ K) (n0 : Nat) (n1 : Nat) (n2 : Nat) (n3 : Nat) (n4 : Nat) (n5 : Nat) (n6 : Nat) (n7 : Nat) (s0 : Int32) (s1 : Int32) (s2 : Int32) (s3 : Int32) (s4 : Int32) (s5 : Nat → Int32) (s6 : Nat → Int32) (s7 : Nat → Int32) (s8 : Nat → Int32) (s9 : Nat → Int32) (s10 : Int32) (s11 : Int32) (s12 : Nat → Int32) (s13 : Nat → Int32) (s14 : Nat → Int32) (a0 : n0 = 1024) (a1 : n1 = 200) (a2 : n2 = 200) (a3 : n3 = 200) (a4 : n4 = 200) (a5 : n5 = 512) (a6 : n6 = 512) (a7 : 0 ≤ s1.toInt) (a8 : s1.toInt ≤ 1024) (a9 : 0 ≤ s2.toInt) (a10 : s2.toInt ≤ 200) (a11 : 0 ≤ s10.toInt) (a12 : s10.toInt ≤ 512) (a13 : n7 = 1024) (a14 : 0 ≤ s0.toInt) (a15 : s0.toInt ≤ 1024) : zz_ok (m_X3_freeParts K n0 n1 n2 n3 n4 n5 n6 n7 s0 s1 s2 s3 s4 s5 s6 s7 s8 s9 s10 s11 s12 s13 s14) (fun z => z.2.2.1.toInt = s1.toInt ∧ z.2.2.2.1.toInt = s2.toInt ∧ 0 ≤ z.2.2.2.2.2.2.2.2.2.2.2.1.toInt ∧ z.2.2.2.2.2.2.2.2.2.2.2.1.toInt ≤ 512 ∧ z.2.1.toInt = s0.toInt) := by
  have g1 := zz_rg s0
  have g2 := zz_rg s1
  have g3 := zz_rg s2
  have g4 := zz_rg s3
  have g5 := zz_rg s4
  have g6 := zz_rg s10
  have g7 := zz_rg s11
  unfold m_X3_freeParts
  have l8 : (0 : Int32).toInt = 0 := rfl
  refine (s_X3_freeParts_L4 K hK n0 n1 n2 n3 n4 n5 n6 n7 K ((0 : Int32)) ((0 : Int32)) s0 s1 s2 s3 s4 s5 s6 s7 s8 s9 s10 s11 s12 s13 s14 (by omega) (by omega) (by omega) (by omega) (by omega) (by omega) (by omega) (by omega) (by omega) (by omega) (by omega) (by omega) (by omega) (by omega) (by omega) (by omega) (by omega) (by omega) (by omega)).mono (fun z hz => ?_)
  have q9 : z.2.2.1.toInt = s1.toInt := hz.1
  have q10 : z.2.2.2.1.toInt = s2.toInt := hz.2.1
  have q11 : 0 ≤ z.2.2.2.2.2.2.2.2.2.2.2.1.toInt := hz.2.2.1
  have q12 : z.2.2.2.2.2.2.2.2.2.2.2.1.toInt ≤ 512 := hz.2.2.2.1
  have q13 : z.2.1.toInt = s0.toInt := hz.2.2.2.2
  show z.2.2.1.toInt = s1.toInt ∧ z.2.2.2.1.toInt = s2.toInt ∧ 0 ≤ z.2.2.2.2.2.2.2.2.2.2.2.1.toInt ∧ z.2.2.2.2.2.2.2.2.2.2.2.1.toInt ≤ 512 ∧ z.2.1.toInt = s0.toInt
  refine ⟨?_, ?_, ?_, ?_, ?_⟩ <;> omega
set_option maxHeartbeats 4000000 in
theorem s_X3_smallestPiece_L4 (K : Nat) (hK : 1099511627776 ≤ K) (n0 : Nat) (n1 : Nat) (n2 : Nat) (n3 : Nat) (n4 : Nat) (n5 : Nat) (n6 : Nat) (n7 : Nat) : ∀ (k : Nat) (x1 : Int32) (x2 : Int32) (x3 : Int32) (s0 : Int32) (s1 : Int32) (s2 : Int32) (s3 : Int32) (s4 : Int32) (s5 : Nat → Int32) (s6 : Nat → Int32) (s7 : Nat → Int32) (s8 : Nat → Int32) (s9 : Nat → Int32) (s10 : Int32) (s11 : Int32) (s12 : Nat → Int32) (s13 : Nat → Int32) (s14 : Nat → Int32), n0 = 1024 → n1 = 200 → n2 = 200 → n3 = 200 → n4 = 200 → n5 = 512 → n6 = 512 → 0 ≤ s1.toInt → s1.toInt ≤ 1024 → 0 ≤ s2.toInt → s2.toInt ≤ 200 → 0 ≤ s10.toInt → s10.toInt ≤ 512 → n7 = 1024 → 0 ≤ s0.toInt → s0.toInt ≤ 1024 → 0 ≤ x3.toInt → x3.toInt ≤ s0.toInt → -1 ≤ x2.toInt → x2.toInt < x3.toInt → s0.toInt - x3.toInt < (k : Int) → zz_ok (m_X3_smallestPiece_L4 K n0 n1 n2 n3 n4 n5 n6 n7 k x1 x2 x3 s0 s1 s2 s3 s4 s5 s6 s7 s8 s9 s10 s11 s12 s13 s14) (fun z => -1 ≤ z.1.toInt ∧ z.1.toInt < 1024 ∧ (z.1.toInt = -1 ∨ z.1.toInt < s0.toInt) ∧ z.2.2.1.toInt = s1.toInt ∧ z.2.2.2.1.toInt = s2.toInt ∧ 0 ≤ z.2.2.2.2.2.2.2.2.2.2.2.1.toInt ∧ z.2.2.2.2.2.2.2.2.2.2.2.1.toInt ≤ 512 ∧ z.2.1.toInt = s0.toInt) := by
  intro k
  induction k with
  | zero =>
    intro x1 x2 x3 s0 s1 s2 s3 s4 s5 s6 s7 s8 s9 s10 s11 s12 s13 s14 a0 a1 a2 a3 a4 a5 a6 a7 a8 a9 a10 a11 a12 a13 a14 a15 a16 a17 a18 a19 hz9
    exfalso
    have g_x1 := zz_rg x1
    have g_x2 := zz_rg x2
    have g_x3 := zz_rg x3
    have g_s0 := zz_rg s0
    have g_s1 := zz_rg s1
    have g_s2 := zz_rg s2
    have g_s3 := zz_rg s3
    have g_s4 := zz_rg s4
    have g_s10 := zz_rg s10
    have g_s11 := zz_rg s11
    omega
  | succ k ih =>
    intro x1 x2 x3 s0 s1 s2 s3 s4 s5 s6 s7 s8 s9 s10 s11 s12 s13 s14 a0 a1 a2 a3 a4 a5 a6 a7 a8 a9 a10 a11 a12 a13 a14 a15 a16 a17 a18 a19 hz9
    rw [m_X3_smallestPiece_L4_s]
    have g1 := zz_rg x1
    have g2 := zz_rg x2
    have g3 := zz_rg x3
    have g4 := zz_rg s0
    have g5 := zz_rg s1
    have g6 := zz_rg s2
    have g7 := zz_rg s3
    have g8 := zz_rg s4
    have g9 := zz_rg s10
    have g10 := zz_rg s11
    refine zz_ok_ite (fun c11 => ?_) (fun c11 => ?_)
    · have c11 := Int32.le_iff_toInt_le.mp c11
      refine zz_ok_some ?_
      show -1 ≤ x2.toInt ∧ x2.toInt < 1024 ∧ (x2.toInt = -1 ∨ x2.toInt < s0.toInt) ∧ s1.toInt = s1.toInt ∧ s2.toInt = s2.toInt ∧ 0 ≤ s10.toInt ∧ s10.toInt ≤ 512 ∧ s0.toInt = s0.toInt
      refine ⟨?_, ?_, ?_, ?_, ?_, ?_, ?_, ?_⟩ <;> omega
    · have c11 := zz_nle c11
      refine zz_ok_chk (zz_ix (by omega) (by omega)) ?_
      have g13 := zz_rg (s14 x3.toNatClampNeg)
      refine zz_ok_ite (fun c12 => ?_) (fun c12 => ?_)
      · have c12 := Int32.lt_iff_toInt_lt.mp c12
        have l14 : (1 : Int32).toInt = 1 := rfl
        obtain ⟨k15, f16⟩ := zz_add x3 (1 : Int32)
        have g17 := zz_rg (x3 + 1)
        refine (ih x1 x2 (x3 + 1) s0 s1 s2 s3 s4 s5 s6 s7 s8 s9 s10 s11 s12 s13 s14 (by omega) (by omega) (by omega) (by omega) (by omega) (by omega) (by omega) (by omega) (by omega) (by omega) (by omega) (by omega) (by omega) (by omega) (by omega) (by omega) (by omega) (by omega) (by omega) (by omega) (by omega)).mono (fun z hz => ?_)
        have q18 : -1 ≤ z.1.toInt := hz.1
        have q19 : z.1.toInt < 1024 := hz.2.1
        have q20 : (z.1.toInt = -1 ∨ z.1.toInt < s0.toInt) := hz.2.2.1
        have q21 : z.2.2.1.toInt = s1.toInt := hz.2.2.2.1
        have q22 : z.2.2.2.1.toInt = s2.toInt := hz.2.2.2.2.1
        have q23 : 0 ≤ z.2.2.2.2.2.2.2.2.2.2.2.1.toInt := hz.2.2.2.2.2.1
        have q24 : z.2.2.2.2.2.2.2.2.2.2.2.1.toInt ≤ 512 := hz.2.2.2.2.2.2.1
        have q25 : z.2.1.toInt = s0.toInt := hz.2.2.2.2.2.2.2
        show -1 ≤ z.1.toInt ∧ z.1.toInt < 1024 ∧ (z.1.toInt = -1 ∨ z.1.toInt < s0.toInt) ∧ z.2.2.1.toInt = s1.toInt ∧ z.2.2.2.1.toInt = s2.toInt ∧ 0 ≤ z.2.2.2.2.2.2.2.2.2.2.2.1.toInt ∧ z.2.2.2.2.2.2.2.2.2.2.2.1.toInt ≤ 512 ∧ z.2.1.toInt = s0.toInt
        refine ⟨?_, ?_, ?_, ?_, ?_, ?_, ?_, ?_⟩ <;> omega
      · have c12 := zz_nlt c12
        have l27 : (-1 : Int32).toInt = -1 := rfl
        refine zz_ok_ite (fun c26 => ?_) (fun c26 => ?_)
        · have c26 := congrArg Int32.toInt c26
          have l28 : (1 : Int32).toInt = 1 := rfl
          obtain ⟨k29, f30⟩ := zz_add x3 (1 : Int32)
          have g31 := zz_rg (x3 + 1)
          refine (ih x1 x3 (x3 + 1) s0 s1 s2 s3 s4 s5 s6 s7 s8 s9 s10 s11 s12 s13 s14 (by omega) (by omega) (by omega) (by omega) (by omega) (by omega) (by omega) (by omega) (by omega) (by omega) (by omega) (by omega) (by omega) (by omega) (by omega) (by omega) (by omega) (by omega) (by omega) (by omega) (by omega)).mono (fun z hz => ?_)
          have q32 : -1 ≤ z.1.toInt := hz.1
          have q33 : z.1.toInt < 1024 := hz.2.1
          have q34 : (z.1.toInt = -1 ∨ z.1.toInt < s0.toInt) := hz.2.2.1
          have q35 : z.2.2.1.toInt = s1.toInt := hz.2.2.2.1
          have q36 : z.2.2.2.1.toInt = s2.toInt := hz.2.2.2.2.1
          have q37 : 0 ≤ z.2.2.2.2.2.2.2.2.2.2.2.1.toInt := hz.2.2.2.2.2.1
          have q38 : z.2.2.2.2.2.2.2.2.2.2.2.1.toInt ≤ 512 := hz.2.2.2.2.2.2.1
          have q39 : z.2.1.toInt = s0.toInt := hz.2.2.2.2.2.2.2
          show -1 ≤ z.1.toInt ∧ z.1.toInt < 1024 ∧ (z.1.toInt = -1 ∨ z.1.toInt < s0.toInt) ∧ z.2.2.1.toInt = s1.toInt ∧ z.2.2.2.1.toInt = s2.toInt ∧ 0 ≤ z.2.2.2.2.2.2.2.2.2.2.2.1.toInt ∧ z.2.2.2.2.2.2.2.2.2.2.2.1.toInt ≤ 512 ∧ z.2.1.toInt = s0.toInt
          refine ⟨?_, ?_, ?_, ?_, ?_, ?_, ?_, ?_⟩ <;> omega
        · have c26 := zz_neq c26
          refine zz_ok_chk (zz_ix (by omega) (by omega)) ?_
          refine zz_ok_chk (zz_ix (by omega) (by omega)) ?_
          have g41 := zz_rg (s14 x2.toNatClampNeg)
          refine zz_ok_ite (fun c40 => ?_) (fun c40 => ?_)
          · have c40 := Int32.le_iff_toInt_le.mp c40
            have l42 : (1 : Int32).toInt = 1 := rfl
            obtain ⟨k43, f44⟩ := zz_add x3 (1 : Int32)
            have g45 := zz_rg (x3 + 1)
            refine (ih x1 x2 (x3 + 1) s0 s1 s2 s3 s4 s5 s6 s7 s8 s9 s10 s11 s12 s13 s14 (by omega) (by omega) (by omega) (by omega) (by omega) (by omega) (by omega) (by omega) (by omega) (by omega) (by omega) (by omega) (by omega) (by omega) (by omega) (by omega) (by omega) (by omega) (by omega) (by omega) (by omega)).mono (fun z hz => ?_)
            have q46 : -1 ≤ z.1.toInt := hz.1
            have q47 : z.1.toInt < 1024 := hz.2.1
            have q48 : (z.1.toInt = -1 ∨ z.1.toInt < s0.toInt) := hz.2.2.1
            have q49 : z.2.2.1.toInt = s1.toInt := hz.2.2.2.1
            have q50 : z.2.2.2.1.toInt = s2.toInt := hz.2.2.2.2.1
            have q51 : 0 ≤ z.2.2.2.2.2.2.2.2.2.2.2.1.toInt := hz.2.2.2.2.2.1
            have q52 : z.2.2.2.2.2.2.2.2.2.2.2.1.toInt ≤ 512 := hz.2.2.2.2.2.2.1
            have q53 : z.2.1.toInt = s0.toInt := hz.2.2.2.2.2.2.2
            show -1 ≤ z.1.toInt ∧ z.1.toInt < 1024 ∧ (z.1.toInt = -1 ∨ z.1.toInt < s0.toInt) ∧ z.2.2.1.toInt = s1.toInt ∧ z.2.2.2.1.toInt = s2.toInt ∧ 0 ≤ z.2.2.2.2.2.2.2.2.2.2.2.1.toInt ∧ z.2.2.2.2.2.2.2.2.2.2.2.1.toInt ≤ 512 ∧ z.2.1.toInt = s0.toInt
            refine ⟨?_, ?_, ?_, ?_, ?_, ?_, ?_, ?_⟩ <;> omega
          · have c40 := zz_nle c40
            have l54 : (1 : Int32).toInt = 1 := rfl
            obtain ⟨k55, f56⟩ := zz_add x3 (1 : Int32)
            have g57 := zz_rg (x3 + 1)
            refine (ih x1 x3 (x3 + 1) s0 s1 s2 s3 s4 s5 s6 s7 s8 s9 s10 s11 s12 s13 s14 (by omega) (by omega) (by omega) (by omega) (by omega) (by omega) (by omega) (by omega) (by omega) (by omega) (by omega) (by omega) (by omega) (by omega) (by omega) (by omega) (by omega) (by omega) (by omega) (by omega) (by omega)).mono (fun z hz => ?_)
            have q58 : -1 ≤ z.1.toInt := hz.1
            have q59 : z.1.toInt < 1024 := hz.2.1
            have q60 : (z.1.toInt = -1 ∨ z.1.toInt < s0.toInt) := hz.2.2.1
            have q61 : z.2.2.1.toInt = s1.toInt := hz.2.2.2.1
            have q62 : z.2.2.2.1.toInt = s2.toInt := hz.2.2.2.2.1
            have q63 : 0 ≤ z.2.2.2.2.2.2.2.2.2.2.2.1.toInt := hz.2.2.2.2.2.1
            have q64 : z.2.2.2.2.2.2.2.2.2.2.2.1.toInt ≤ 512 := hz.2.2.2.2.2.2.1
            have q65 : z.2.1.toInt = s0.toInt := hz.2.2.2.2.2.2.2
            show -1 ≤ z.1.toInt ∧ z.1.toInt < 1024 ∧ (z.1.toInt = -1 ∨ z.1.toInt < s0.toInt) ∧ z.2.2.1.toInt = s1.toInt ∧ z.2.2.2.1.toInt = s2.toInt ∧ 0 ≤ z.2.2.2.2.2.2.2.2.2.2.2.1.toInt ∧ z.2.2.2.2.2.2.2.2.2.2.2.1.toInt ≤ 512 ∧ z.2.1.toInt = s0.toInt
            refine ⟨?_, ?_, ?_, ?_, ?_, ?_, ?_, ?_⟩ <;> omega
set_option maxHeartbeats 4000000 in
theorem s_X3_smallestPiece (K : Nat) (hK : 1099511627776 ≤ K) (n0 : Nat) (n1 : Nat) (n2 : Nat) (n3 : Nat) (n4 : Nat) (n5 : Nat) (n6 : Nat) (n7 : Nat) (p1 : Int32) (s0 : Int32) (s1 : Int32) (s2 : Int32) (s3 : Int32) (s4 : Int32) (s5 : Nat → Int32) (s6 : Nat → Int32) (s7 : Nat → Int32) (s8 : Nat → Int32) (s9 : Nat → Int32) (s10 : Int32) (s11 : Int32) (s12 : Nat → Int32) (s13 : Nat → Int32) (s14 : Nat → Int32) (a0 : n0 = 1024) (a1 : n1 = 200) (a2 : n2 = 200) (a3 : n3 = 200) (a4 : n4 = 200) (a5 : n5 = 512) (a6 : n6 = 512) (a7 : 0 ≤ s1.toInt) (a8 : s1.toInt ≤ 1024) (a9 : 0 ≤ s2.toInt) (a10 : s2.toInt ≤ 200) (a11 : 0 ≤ s10.toInt) (a12 : s10.toInt ≤ 512) (a13 : n7 = 1024) (a14 : 0 ≤ s0.toInt) (a15 : s0.toInt ≤ 1024) : zz_ok (m_X3_smallestPiece K n0 n1 n2 n3 n4 n5 n6 n7 p1 s0 s1 s2 s3 s4 s5 s6 s7 s8 s9 s10 s11 s12 s13 s14) (fun z => -1 ≤ z.1.toInt ∧ z.1.toInt < 1024 ∧ (z.1.toInt = -1 ∨ z.1.toInt < s0.toInt) ∧ z.2.2.1.toInt = s1.toInt ∧ z.2.2.2.1.toInt = s2.toInt ∧ 0 ≤ z.2.2.2.2.2.2.2.2.2.2.2.1.toInt ∧ z.2.2.2.2.2.2.2.2.2.2.2.1.toInt ≤ 512 ∧ z.2.1.toInt = s0.toInt) := by
  have g1 := zz_rg p1
  have g2 := zz_rg s0
  have g3 := zz_rg s1
  have g4 := zz_rg s2
  have g5 := zz_rg s3
  have g6 := zz_rg s4
  have g7 := zz_rg s10
  have g8 := zz_rg s11
  unfold m_X3_smallestPiece
  have l9 : (-1 : Int32).toInt = -1 := rfl
  have l10 : (0 : Int32).toInt = 0 := rfl
  refine (s_X3_smallestPiece_L4 K hK n0 n1 n2 n3 n4 n5 n6 n7 K p1 ((-1 : Int32)) ((0 : Int32)) s0 s1 s2 s3 s4 s5 s6 s7 s8 s9 s10 s11 s12 s13 s14 (by omega) (by omega) (by omega) (by omega) (by omega) (by omega) (by omega) (by omega) (by omega) (by omega) (by omega) (by omega) (by omega) (by omega) (by omega) (by omega) (by omega) (by omega) (by omega) (by omega) (by omega)).mono (fun z hz => ?_)
  have q11 : -1 ≤ z.1.toInt := hz.1
  have q12 : z.1.toInt < 1024 := hz.2.1
  have q13 : (z.1.toInt = -1 ∨ z.1.toInt < s0.toInt) := hz.2.2.1
  have q14 : z.2.2.1.toInt = s1.toInt := hz.2.2.2.1
  have q15 : z.2.2.2.1.toInt = s2.toInt := hz.2.2.2.2.1
  have q16 : 0 ≤ z.2.2.2.2.2.2.2.2.2.2.2.1.toInt := hz.2.2.2.2.2.1
  have q17 : z.2.2.2.2.2.2.2.2.2.2.2.1.toInt ≤ 512 := hz.2.2.2.2.2.2.1
  have q18 : z.2.1.toInt = s0.toInt := hz.2.2.2.2.2.2.2
  show -1 ≤ z.1.toInt ∧ z.1.toInt < 1024 ∧ (z.1.toInt = -1 ∨ z.1.toInt < s0.toInt) ∧ z.2.2.1.toInt = s1.toInt ∧ z.2.2.2.1.toInt = s2.toInt ∧ 0 ≤ z.2.2.2.2.2.2.2.2.2.2.2.1.toInt ∧ z.2.2.2.2.2.2.2.2.2.2.2.1.toInt ≤ 512 ∧ z.2.1.toInt = s0.toInt
  refine ⟨?_, ?_, ?_, ?_, ?_, ?_, ?_, ?_⟩ <;> omega
set_option maxHeartbeats 4000000 in
theorem s_X3_take_L33 (K : Nat) (hK : 1099511627776 ≤ K) (n0 : Nat) (n1 : Nat) (n2 : Nat) (n3 : Nat) (n4 : Nat) (n5 : Nat) (n6 : Nat) (n7 : Nat) : ∀ (k : Nat) (x1 : Int32) (x2 : Int32) (x3 : Int32) (s0 : Int32) (s1 : Int32) (s2 : Int32) (s3 : Int32) (s4 : Int32) (s5 : Nat → Int32) (s6 : Nat → Int32) (s7 : Nat → Int32) (s8 : Nat → Int32) (s9 : Nat → Int32) (s10 : Int32) (s11 : Int32) (s12 : Nat → Int32) (s13 : Nat → Int32) (s14 : Nat → Int32), n0 = 1024 → n1 = 200 → n2 = 200 → n3 = 200 → n4 = 200 → n5 = 512 → n6 = 512 → 0 ≤ s1.toInt → s1.toInt ≤ 1024 → 0 ≤ s2.toInt → s2.toInt ≤ 200 → 0 ≤ s10.toInt → s10.toInt ≤ 512 → n7 = 1024 → 0 ≤ s0.toInt → s0.toInt ≤ 1024 → 0 ≤ x2.toInt → x2.toInt < s0.toInt → x3.toInt ≤ 1073741824 → x3.toInt + 2147483648 < (k : Int) → zz_ok (m_X3_take_L33 K n0 n1 n2 n3 n4 n5 n6 n7 k x1 x2 x3 s0 s1 s2 s3 s4 s5 s6 s7 s8 s9 s10 s11 s12 s13 s14) (fun z => z.2.2.1.toInt = s1.toInt ∧ z.2.2.2.1.toInt = s2.toInt ∧ 0 ≤ z.2.2.2.2.2.2.2.2.2.2.2.1.toInt ∧ z.2.2.2.2.2.2.2.2.2.2.2.1.toInt ≤ 512 ∧ z.2.1.toInt = s0.toInt) := by
  intro k
  induction k with
  | zero =>
    intro x1 x2 x3 s0 s1 s2 s3 s4 s5 s6 s7 s8 s9 s10 s11 s12 s13 s14 a0 a1 a2 a3 a4 a5 a6 a7 a8 a9 a10 a11 a12 a13 a14 a15 a16 a17 a18 hz9
    exfalso
    have g_x1 := zz_rg x1
    have g_x2 := zz_rg x2
    have g_x3 := zz_rg x3
    have g_s0 := zz_rg s0
    have g_s1 := zz_rg s1
    have g_s2 := zz_rg s2
    have g_s3 := zz_rg s3
    have g_s4 := zz_rg s4
    have g_s10 := zz_rg s10
    have g_s11 := zz_rg s11
    omega
  | succ k ih =>
    intro x1 x2 x3 s0 s1 s2 s3 s4 s5 s6 s7 s8 s9 s10 s11 s12 s13 s14 a0 a1 a2 a3 a4 a5 a6 a7 a8 a9 a10 a11 a12 a13 a14 a15 a16 a17 a18 hz9
    rw [m_X3_take_L33_s]
    have g1 := zz_rg x1
    have g2 := zz_rg x2
    have g3 := zz_rg x3
    have g4 := zz_rg s0
    have g5 := zz_rg s1
    have g6 := zz_rg s2
    have g7 := zz_rg s3
    have g8 := zz_rg s4
    have g9 := zz_rg s10
    have g10 := zz_rg s11
    refine zz_ok_ite (fun c11 => ?_) (fun c11 => ?_)
    · have c11 := Int32.lt_iff_toInt_lt.mp c11
      refine zz_ok_chk (zz_ix (by omega) (by omega)) ?_
      refine zz_ok_some ?_
      show s1.toInt = s1.toInt ∧ s2.toInt = s2.toInt ∧ 0 ≤ s10.toInt ∧ s10.toInt ≤ 512 ∧ s0.toInt = s0.toInt
      refine ⟨?_, ?_, ?_, ?_, ?_⟩ <;> omega
    · have c11 := zz_nlt c11
      have l13 : (0 : Int32).toInt = 0 := rfl
      refine zz_ok_ite (fun c12 => ?_) (fun c12 => ?_)
      · have c12 := Int32.le_iff_toInt_le.mp c12
        refine zz_ok_chk (zz_ix (by omega) (by omega)) ?_
        refine zz_ok_some ?_
        show s1.toInt = s1.toInt ∧ s2.toInt = s2.toInt ∧ 0 ≤ s10.toInt ∧ s10.toInt ≤ 512 ∧ s0.toInt = s0.toInt
        refine ⟨?_, ?_, ?_, ?_, ?_⟩ <;> omega
      · have c12 := zz_nle c12
        obtain ⟨k15, f16⟩ := zz_add x2 x3
        have g17 := zz_rg (x2 + x3)
        refine zz_ok_ite (fun c14 => ?_) (fun c14 => ?_)
        · have c14 := Int32.le_iff_toInt_le.mp c14
          refine zz_ok_chk (zz_ix (by omega) (by omega)) ?_
          refine zz_ok_some ?_
          show s1.toInt = s1.toInt ∧ s2.toInt = s2.toInt ∧ 0 ≤ s10.toInt ∧ s10.toInt ≤ 512 ∧ s0.toInt = s0.toInt
          refine ⟨?_, ?_, ?_, ?_, ?_⟩ <;> omega
        · have c14 := zz_nle c14
          refine zz_ok_chk (zz_ix (by omega) (by omega)) ?_
          have l18 : (2 : Int32).toInt = 2 := rfl
          try have f19 := zz_divP x3 (2 : Int32) 2 rfl (by decide) (by omega)
          have f20 := zz_divB x3 (2 : Int32) 2 rfl (by decide)
          have g21 := zz_rg (x3 / ((2 : Int32)))
          refine (ih x1 x2 (x3 / ((2 : Int32))) s0 s1 s2 s3 s4 s5 s6 s7 s8 s9 s10 s11 s12 s13 (upd s14 (x2 + x3).toNatClampNeg x3) (by omega) (by omega) (by omega) (by omega) (by omega) (by omega) (by omega) (by omega) (by omega) (by omega) (by omega) (by omega) (by omega) (by omega) (by omega) (by omega) (by omega) (by omega) (by omega) (by omega)).mono (fun z hz => ?_)
          have q22 : z.2.2.1.toInt = s1.toInt := hz.1
          have q23 : z.2.2.2.1.toInt = s2.toInt := hz.2.1
          have q24 : 0 ≤ z.2.2.2.2.2.2.2.2.2.2.2.1.toInt := hz.2.2.1
          have q25 : z.2.2.2.2.2.2.2.2.2.2.2.1.toInt ≤ 512 := hz.2.2.2.1
          have q26 : z.2.1.toInt = s0.toInt := hz.2.2.2.2
          show z.2.2.1.toInt = s1.toInt ∧ z.2.2.2.1.toInt = s2.toInt ∧ 0 ≤ z.2.2.2.2.2.2.2.2.2.2.2.1.toInt ∧ z.2.2.2.2.2.2.2.2.2.2.2.1.toInt ≤ 512 ∧ z.2.1.toInt = s0.toInt
          refine ⟨?_, ?_, ?_, ?_, ?_⟩ <;> omega
set_option maxHeartbeats 4000000 in
theorem s_X3_take (K : Nat) (hK : 1099511627776 ≤ K) (n0 : Nat) (n1 : Nat) (n2 : Nat) (n3 : Nat) (n4 : Nat) (n5 : Nat) (n6 : Nat) (n7 : Nat) (p1 : Int32) (s0 : Int32) (s1 : Int32) (s2 : Int32) (s3 : Int32) (s4 : Int32) (s5 : Nat → Int32) (s6 : Nat → Int32) (s7 : Nat → Int32) (s8 : Nat → Int32) (s9 : Nat → Int32) (s10 : Int32) (s11 : Int32) (s12 : Nat → Int32) (s13 : Nat → Int32) (s14 : Nat → Int32) (a0 : n0 = 1024) (a1 : n1 = 200) (a2 : n2 = 200) (a3 : n3 = 200) (a4 : n4 = 200) (a5 : n5 = 512) (a6 : n6 = 512) (a7 : 0 ≤ s1.toInt) (a8 : s1.toInt ≤ 1024) (a9 : 0 ≤ s2.toInt) (a10 : s2.toInt ≤ 200) (a11 : 0 ≤ s10.toInt) (a12 : s10.toInt ≤ 512) (a13 : n7 = 1024) (a14 : 0 ≤ s0.toInt) (a15 : s0.toInt ≤ 1024) (a16 : 1 ≤ p1.toInt) : zz_ok (m_X3_take K n0 n1 n2 n3 n4 n5 n6 n7 p1 s0 s1 s2 s3 s4 s5 s6 s7 s8 s9 s10 s11 s12 s13 s14) (fun z => z.2.2.1.toInt = s1.toInt ∧ z.2.2.2.1.toInt = s2.toInt ∧ 0 ≤ z.2.2.2.2.2.2.2.2.2.2.2.1.toInt ∧ z.2.2.2.2.2.2.2.2.2.2.2.1.toInt ≤ 512 ∧ z.2.1.toInt = s0.toInt) := by
  have g1 := zz_rg p1
  have g2 := zz_rg s0
  have g3 := zz_rg s1
  have g4 := zz_rg s2
  have g5 := zz_rg s3
  have g6 := zz_rg s4
  have g7 := zz_rg s10
  have g8 := zz_rg s11
  unfold m_X3_take
  refine zz_ok_bind (s_X3_freeParts K hK n0 n1 n2 n3 n4 n5 n6 n7 s0 s1 s2 s3 s4 s5 s6 s7 s8 s9 s10 s11 s12 s13 s14 (by omega) (by omega) (by omega) (by omega) (by omega) (by omega) (by omega) (by omega) (by omega) (by omega) (by omega) (by omega) (by omega) (by omega) (by omega) (by omega)) ?_
  intro z9 hz9
  obtain ⟨r_1, t_1_0, t_1_1, t_1_2, t_1_3, t_1_4, t_1_5, t_1_6, t_1_7, t_1_8, t_1_9, t_1_10, t_1_11, t_1_12, t_1_13, t_1_14⟩ := z9
  have q10 : t_1_1.toInt = s1.toInt := hz9.1
  have q11 : t_1_2.toInt = s2.toInt := hz9.2.1
  have q12 : 0 ≤ t_1_10.toInt := hz9.2.2.1
  have q13 : t_1_10.toInt ≤ 512 := hz9.2.2.2.1
  have q14 : t_1_0.toInt = s0.toInt := hz9.2.2.2.2
  have g15 := zz_rg r_1
  have g16 := zz_rg t_1_0
  have g17 := zz_rg t_1_1
  have g18 := zz_rg t_1_2
  have g19 := zz_rg t_1_3
  have g20 := zz_rg t_1_4
  have g21 := zz_rg t_1_10
  have g22 := zz_rg t_1_11
  show zz_ok ((m_X7_addLooked K n0 n1 n2 n3 n4 n5 n6 r_1 t_1_1 t_1_2 t_1_3 t_1_4 t_1_5 t_1_6 t_1_7 t_1_8 t_1_9 t_1_10 t_1_11 t_1_12 t_1_13).bind fun ⟨t_2_0, t_2_1, t_2_2, t_2_3, t_2_4, t_2_5, t_2_6, t_2_7, t_2_8, t_2_9, t_2_10, t_2_11, t_2_12⟩ => (m_X3_smallestPiece K n0 n1 n2 n3 n4 n5 n6 n7 p1 t_1_0 t_2_0 t_2_1 t_2_2 t_2_3 t_2_4 t_2_5 t_2_6 t_2_7 t_2_8 t_2_9 t_2_10 t_2_11 t_2_12 t_1_14).bind fun ⟨r_3, t_3_0, t_3_1, t_3_2, t_3_3, t_3_4, t_3_5, t_3_6, t_3_7, t_3_8, t_3_9, t_3_10, t_3_11, t_3_12, t_3_13, t_3_14⟩ => if r_3 = ((-1 : Int32)) then (some ((-1 : Int32), t_3_0, t_3_1, t_3_2, t_3_3, t_3_4, t_3_5, t_3_6, t_3_7, t_3_8, t_3_9, t_3_10, t_3_11, t_3_12, t_3_13, t_3_14)) else (if ¬ (r_3 < 0 ∨ n7 ≤ r_3.toNatClampNeg) then (m_X3_take_L33 K n0 n1 n2 n3 n4 n5 n6 n7 K p1 r_3 ((t_3_14 r_3.toNatClampNeg) / ((2 : Int32))) t_3_0 t_3_1 t_3_2 t_3_3 t_3_4 t_3_5 t_3_6 t_3_7 t_3_8 t_3_9 t_3_10 t_3_11 t_3_12 t_3_13 t_3_14) else none)) _
  refine zz_ok_bind (s_X7_addLooked K hK n0 n1 n2 n3 n4 n5 n6 r_1 t_1_1 t_1_2 t_1_3 t_1_4 t_1_5 t_1_6 t_1_7 t_1_8 t_1_9 t_1_10 t_1_11 t_1_12 t_1_13 (by omega) (by omega) (by omega) (by omega) (by omega) (by omega) (by omega) (by omega) (by omega) (by omega) (by omega) (by omega) (by omega)) ?_
  intro z23 hz23
  obtain ⟨t_2_0, t_2_1, t_2_2, t_2_3, t_2_4, t_2_5, t_2_6, t_2_7, t_2_8, t_2_9, t_2_10, t_2_11, t_2_12⟩ := z23
  have q24 : t_2_0.toInt = t_1_1.toInt := hz23.1
  have q25 : t_2_1.toInt = t_1_2.toInt := hz23.2.1
  have q26 : 0 ≤ t_2_9.toInt := hz23.2.2.1
  have q27 : t_2_9.toInt ≤ 512 := hz23.2.2.2
  have g28 := zz_rg t_2_0
  have g29 := zz_rg t_2_1
  have g30 := zz_rg t_2_2
  have g31 := zz_rg t_2_3
  have g32 := zz_rg t_2_9
  have g33 := zz_rg t_2_10
  show zz_ok ((m_X3_smallestPiece K n0 n1 n2 n3 n4 n5 n6 n7 p1 t_1_0 t_2_0 t_2_1 t_2_2 t_2_3 t_2_4 t_2_5 t_2_6 t_2_7 t_2_8 t_2_9 t_2_10 t_2_11 t_2_12 t_1_14).bind fun ⟨r_3, t_3_0, t_3_1, t_3_2, t_3_3, t_3_4, t_3_5, t_3_6, t_3_7, t_3_8, t_3_9, t_3_10, t_3_11, t_3_12, t_3_13, t_3_14⟩ => if r_3 = ((-1 : Int32)) then (some ((-1 : Int32), t_3_0, t_3_1, t_3_2, t_3_3, t_3_4, t_3_5, t_3_6, t_3_7, t_3_8, t_3_9, t_3_10, t_3_11, t_3_12, t_3_13, t_3_14)) else (if ¬ (r_3 < 0 ∨ n7 ≤ r_3.toNatClampNeg) then (m_X3_take_L33 K n0 n1 n2 n3 n4 n5 n6 n7 K p1 r_3 ((t_3_14 r_3.toNatClampNeg) / ((2 : Int32))) t_3_0 t_3_1 t_3_2 t_3_3 t_3_4 t_3_5 t_3_6 t_3_7 t_3_8 t_3_9 t_3_10 t_3_11 t_3_12 t_3_13 t_3_14) else none)) _
  refine zz_ok_bind (s_X3_smallestPiece K hK n0 n1 n2 n3 n4 n5 n6 n7 p1 t_1_0 t_2_0 t_2_1 t_2_2 t_2_3 t_2_4 t_2_5 t_2_6 t_2_7 t_2_8 t_2_9 t_2_10 t_2_11 t_2_12 t_1_14 (by omega) (by omega) (by omega) (by omega) (by omega) (by omega) (by omega) (by omega) (by omega) (by omega) (by omega) (by omega) (by omega) (by omega) (by omega) (by omega)) ?_
  intro z34 hz34
  obtain ⟨r_3, t_3_0, t_3_1, t_3_2, t_3_3, t_3_4, t_3_5, t_3_6, t_3_7, t_3_8, t_3_9, t_3_10, t_3_11, t_3_12, t_3_13, t_3_14⟩ := z34
  have q35 : -1 ≤ r_3.toInt := hz34.1
  have q36 : r_3.toInt < 1024 := hz34.2.1
  have q37 : (r_3.toInt = -1 ∨ r_3.toInt < t_1_0.toInt) := hz34.2.2.1
  have q38 : t_3_1.toInt = t_2_0.toInt := hz34.2.2.2.1
  have q39 : t_3_2.toInt = t_2_1.toInt := hz34.2.2.2.2.1
  have q40 : 0 ≤ t_3_10.toInt := hz34.2.2.2.2.2.1
  have q41 : t_3_10.toInt ≤ 512 := hz34.2.2.2.2.2.2.1
  have q42 : t_3_0.toInt = t_1_0.toInt := hz34.2.2.2.2.2.2.2
  have g43 := zz_rg r_3
  have g44 := zz_rg t_3_0
  have g45 := zz_rg t_3_1
  have g46 := zz_rg t_3_2
  have g47 := zz_rg t_3_3
  have g48 := zz_rg t_3_4
  have g49 := zz_rg t_3_10
  have g50 := zz_rg t_3_11
  show zz_ok (if r_3 = ((-1 : Int32)) then (some ((-1 : Int32), t_3_0, t_3_1, t_3_2, t_3_3, t_3_4, t_3_5, t_3_6, t_3_7, t_3_8, t_3_9, t_3_10, t_3_11, t_3_12, t_3_13, t_3_14)) else (if ¬ (r_3 < 0 ∨ n7 ≤ r_3.toNatClampNeg) then (m_X3_take_L33 K n0 n1 n2 n3 n4 n5 n6 n7 K p1 r_3 ((t_3_14 r_3.toNatClampNeg) / ((2 : Int32))) t_3_0 t_3_1 t_3_2 t_3_3 t_3_4 t_3_5 t_3_6 t_3_7 t_3_8 t_3_9 t_3_10 t_3_11 t_3_12 t_3_13 t_3_14) else none)) _
  have l52 : (-1 : Int32).toInt = -1 := rfl
  refine zz_ok_ite (fun c51 => ?_) (fun c51 => ?_)
  · have c51 := congrArg Int32.toInt c51
    refine zz_ok_some ?_
    show t_3_1.toInt = s1.toInt ∧ t_3_2.toInt = s2.toInt ∧ 0 ≤ t_3_10.toInt ∧ t_3_10.toInt ≤ 512 ∧ t_3_0.toInt = s0.toInt
    refine ⟨?_, ?_, ?_, ?_, ?_⟩ <;> omega
  · have c51 := zz_neq c51
    refine zz_ok_chk (zz_ix (by omega) (by omega)) ?_
    have g53 := zz_rg (t_3_14 r_3.toNatClampNeg)
    have l54 : (2 : Int32).toInt = 2 := rfl
    try have f55 := zz_divP (t_3_14 r_3.toNatClampNeg) (2 : Int32) 2 rfl (by decide) (by omega)
    have f56 := zz_divB (t_3_14 r_3.toNatClampNeg) (2 : Int32) 2 rfl (by decide)
    have g57 := zz_rg ((t_3_14 r_3.toNatClampNeg) / ((2 : Int32)))
    refine (s_X3_take_L33 K hK n0 n1 n2 n3 n4 n5 n6 n7 K p1 r_3 ((t_3_14 r_3.toNatClampNeg) / ((2 : Int32))) t_3_0 t_3_1 t_3_2 t_3_3 t_3_4 t_3_5 t_3_6 t_3_7 t_3_8 t_3_9 t_3_10 t_3_11 t_3_12 t_3_13 t_3_14 (by omega) (by omega) (by omega) (by omega) (by omega) (by omega) (by omega) (by omega) (by omega) (by omega) (by omega) (by omega) (by omega) (by omega) (by omega) (by omega) (by omega) (by omega) (by omega) (by omega)).mono (fun z hz => ?_)
    have q58 : z.2.2.1.toInt = t_3_1.toInt := hz.1
    have q59 : z.2.2.2.1.toInt = t_3_2.toInt := hz.2.1
    have q60 : 0 ≤ z.2.2.2.2.2.2.2.2.2.2.2.1.toInt := hz.2.2.1
    have q61 : z.2.2.2.2.2.2.2.2.2.2.2.1.toInt ≤ 512 := hz.2.2.2.1
    have q62 : z.2.1.toInt = t_3_0.toInt := hz.2.2.2.2
    show z.2.2.1.toInt = s1.toInt ∧ z.2.2.2.1.toInt = s2.toInt ∧ 0 ≤ z.2.2.2.2.2.2.2.2.2.2.2.1.toInt ∧ z.2.2.2.2.2.2.2.2.2.2.2.1.toInt ≤ 512 ∧ z.2.1.toInt = s0.toInt
    refine ⟨?_, ?_, ?_, ?_, ?_⟩ <;> omega
set_option maxHeartbeats 4000000 in
theorem s_X3_takeBack_L18 (K : Nat) (hK : 1099511627776 ≤ K) (n0 : Nat) (n1 : Nat) (n2 : Nat) (n3 : Nat) (n4 : Nat) (n5 : Nat) (n6 : Nat) (n7 : Nat) : ∀ (k : Nat) (x1 : Int32) (x2 : Int32) (x3 : Int32) (x4 : Int32) (s0 : Int32) (s1 : Int32) (s2 : Int32) (s3 : Int32) (s4 : Int32) (s5 : Nat → Int32) (s6 : Nat → Int32) (s7 : Nat → Int32) (s8 : Nat → Int32) (s9 : Nat → Int32) (s10 : Int32) (s11 : Int32) (s12 : Nat → Int32) (s13 : Nat → Int32) (s14 : Nat → Int32), n0 = 1024 → n1 = 200 → n2 = 200 → n3 = 200 → n4 = 200 → n5 = 512 → n6 = 512 → 0 ≤ s1.toInt → s1.toInt ≤ 1024 → 0 ≤ s2.toInt → s2.toInt ≤ 200 → 0 ≤ s10.toInt → s10.toInt ≤ 512 → n7 = 1024 → 0 ≤ s0.toInt → s0.toInt ≤ 1024 → 0 ≤ x3.toInt → x3.toInt < s0.toInt → 2147483648 - x4.toInt < (k : Int) → zz_ok (m_X3_takeBack_L18 K n0 n1 n2 n3 n4 n5 n6 n7 k x1 x2 x3 x4 s0 s1 s2 s3 s4 s5 s6 s7 s8 s9 s10 s11 s12 s13 s14) (fun z => z.2.1.toInt = s1.toInt ∧ z.2.2.1.toInt = s2.toInt ∧ 0 ≤ z.2.2.2.2.2.2.2.2.2.2.1.toInt ∧ z.2.2.2.2.2.2.2.2.2.2.1.toInt ≤ 512 ∧ z.1.toInt = s0.toInt) := by
  intro k
  induction k with
  | zero =>
    intro x1 x2 x3 x4 s0 s1 s2 s3 s4 s5 s6 s7 s8 s9 s10 s11 s12 s13 s14 a0 a1 a2 a3 a4 a5 a6 a7 a8 a9 a10 a11 a12 a13 a14 a15 a16 a17 hz9
    exfalso
    have g_x1 := zz_rg x1
    have g_x2 := zz_rg x2
    have g_x3 := zz_rg x3
    have g_x4 := zz_rg x4
    have g_s0 := zz_rg s0
    have g_s1 := zz_rg s1
    have g_s2 := zz_rg s2
    have g_s3 := zz_rg s3
    have g_s4 := zz_rg s4
    have g_s10 := zz_rg s10
    have g_s11 := zz_rg s11
    omega
  | succ k ih =>
    intro x1 x2 x3 x4 s0 s1 s2 s3 s4 s5 s6 s7 s8 s9 s10 s11 s12 s13 s14 a0 a1 a2 a3 a4 a5 a6 a7 a8 a9 a10 a11 a12 a13 a14 a15 a16 a17 hz9
    rw [m_X3_takeBack_L18_s]
    have g1 := zz_rg x1
    have g2 := zz_rg x2
    have g3 := zz_rg x3
    have g4 := zz_rg x4
    have g5 := zz_rg s0
    have g6 := zz_rg s1
    have g7 := zz_rg s2
    have g8 := zz_rg s3
    have g9 := zz_rg s4
    have g10 := zz_rg s10
    have g11 := zz_rg s11
    have l13 : (0 : Int32).toInt = 0 := rfl
    refine zz_ok_ite (fun c12 => ?_) (fun c12 => ?_)
    · have c12 := Int32.le_iff_toInt_le.mp c12
      refine zz_ok_chk (zz_ix (by omega) (by omega)) ?_
      refine zz_ok_some ?_
      show s1.toInt = s1.toInt ∧ s2.toInt = s2.toInt ∧ 0 ≤ s10.toInt ∧ s10.toInt ≤ 512 ∧ s0.toInt = s0.toInt
      refine ⟨?_, ?_, ?_, ?_, ?_⟩ <;> omega
    · have c12 := zz_nle c12
      refine zz_ok_ite (fun c14 => ?_) (fun c14 => ?_)
      · have c14 := Int32.le_iff_toInt_le.mp c14
        refine zz_ok_chk (zz_ix (by omega) (by omega)) ?_
        refine zz_ok_some ?_
        show s1.toInt = s1.toInt ∧ s2.toInt = s2.toInt ∧ 0 ≤ s10.toInt ∧ s10.toInt ≤ 512 ∧ s0.toInt = s0.toInt
        refine ⟨?_, ?_, ?_, ?_, ?_⟩ <;> omega
      · have c14 := zz_nle c14
        try have f16 := zz_xorF x3 x4 (by omega) (by omega)
        have g17 := zz_rg (x3 ^^^ x4)
        refine zz_ok_ite (fun c15 => ?_) (fun c15 => ?_)
        · have c15 := Int32.le_iff_toInt_le.mp c15
          refine zz_ok_chk (zz_ix (by omega) (by omega)) ?_
          refine zz_ok_some ?_
          show s1.toInt = s1.toInt ∧ s2.toInt = s2.toInt ∧ 0 ≤ s10.toInt ∧ s10.toInt ≤ 512 ∧ s0.toInt = s0.toInt
          refine ⟨?_, ?_, ?_, ?_, ?_⟩ <;> omega
        · have c15 := zz_nle c15
          refine zz_ok_chk (zz_ix (by omega) (by omega)) ?_
          have g19 := zz_rg (s14 (x3 ^^^ x4).toNatClampNeg)
          refine zz_ok_ite (fun c18 => ?_) (fun c18 => ?_)
          · have c18 := congrArg Int32.toInt c18
            refine zz_ok_chk (zz_ix (by omega) (by omega)) ?_
            have f20 := zz_minF x3 (x3 ^^^ x4)
            have g21 := zz_rg (zz_min x3 (x3 ^^^ x4))
            obtain ⟨k22, f23⟩ := zz_add x4 x4
            have g24 := zz_rg (x4 + x4)
            refine (ih x1 x2 (zz_min x3 (x3 ^^^ x4)) (x4 + x4) s0 s1 s2 s3 s4 s5 s6 s7 s8 s9 s10 s11 s12 s13 (upd s14 (x3 ^^^ x4).toNatClampNeg ((0 : Int32))) (by omega) (by omega) (by omega) (by omega) (by omega) (by omega) (by omega) (by omega) (by omega) (by omega) (by omega) (by omega) (by omega) (by omega) (by omega) (by omega) (by omega) (by omega) (by omega)).mono (fun z hz => ?_)
            have q25 : z.2.1.toInt = s1.toInt := hz.1
            have q26 : z.2.2.1.toInt = s2.toInt := hz.2.1
            have q27 : 0 ≤ z.2.2.2.2.2.2.2.2.2.2.1.toInt := hz.2.2.1
            have q28 : z.2.2.2.2.2.2.2.2.2.2.1.toInt ≤ 512 := hz.2.2.2.1
            have q29 : z.1.toInt = s0.toInt := hz.2.2.2.2
            show z.2.1.toInt = s1.toInt ∧ z.2.2.1.toInt = s2.toInt ∧ 0 ≤ z.2.2.2.2.2.2.2.2.2.2.1.toInt ∧ z.2.2.2.2.2.2.2.2.2.2.1.toInt ≤ 512 ∧ z.1.toInt = s0.toInt
            refine ⟨?_, ?_, ?_, ?_, ?_⟩ <;> omega
          · have c18 := zz_neq c18
            refine zz_ok_chk (zz_ix (by omega) (by omega)) ?_
            refine zz_ok_some ?_
            show s1.toInt = s1.toInt ∧ s2.toInt = s2.toInt ∧ 0 ≤ s10.toInt ∧ s10.toInt ≤ 512 ∧ s0.toInt = s0.toInt
            refine ⟨?_, ?_, ?_, ?_, ?_⟩ <;> omega
set_option maxHeartbeats 4000000 in
theorem s_X3_takeBack (K : Nat) (hK : 1099511627776 ≤ K) (n0 : Nat) (n1 : Nat) (n2 : Nat) (n3 : Nat) (n4 : Nat) (n5 : Nat) (n6 : Nat) (n7 : Nat) (p1 : Int32) (p2 : Int32) (s0 : Int32) (s1 : Int32) (s2 : Int32) (s3 : Int32) (s4 : Int32) (s5 : Nat → Int32) (s6 : Nat → Int32) (s7 : Nat → Int32) (s8 : Nat → Int32) (s9 : Nat → Int32) (s10 : Int32) (s11 : Int32) (s12 : Nat → Int32) (s13 : Nat → Int32) (s14 : Nat → Int32) (a0 : n0 = 1024) (a1 : n1 = 200) (a2 : n2 = 200) (a3 : n3 = 200) (a4 : n4 = 200) (a5 : n5 = 512) (a6 : n6 = 512) (a7 : 0 ≤ s1.toInt) (a8 : s1.toInt ≤ 1024) (a9 : 0 ≤ s2.toInt) (a10 : s2.toInt ≤ 200) (a11 : 0 ≤ s10.toInt) (a12 : s10.toInt ≤ 512) (a13 : n7 = 1024) (a14 : 0 ≤ s0.toInt) (a15 : s0.toInt ≤ 1024) : zz_ok (m_X3_takeBack K n0 n1 n2 n3 n4 n5 n6 n7 p1 p2 s0 s1 s2 s3 s4 s5 s6 s7 s8 s9 s10 s11 s12 s13 s14) (fun z => z.2.1.toInt = s1.toInt ∧ z.2.2.1.toInt = s2.toInt ∧ 0 ≤ z.2.2.2.2.2.2.2.2.2.2.1.toInt ∧ z.2.2.2.2.2.2.2.2.2.2.1.toInt ≤ 512 ∧ z.1.toInt = s0.toInt) := by
  have g1 := zz_rg p1
  have g2 := zz_rg p2
  have g3 := zz_rg s0
  have g4 := zz_rg s1
  have g5 := zz_rg s2
  have g6 := zz_rg s3
  have g7 := zz_rg s4
  have g8 := zz_rg s10
  have g9 := zz_rg s11
  unfold m_X3_takeBack
  have l11 : (0 : Int32).toInt = 0 := rfl
  refine zz_ok_ite (fun c10 => ?_) (fun c10 => ?_)
  · have c10 := Int32.lt_iff_toInt_lt.mp c10
    refine zz_ok_some ?_
    show s1.toInt = s1.toInt ∧ s2.toInt = s2.toInt ∧ 0 ≤ s10.toInt ∧ s10.toInt ≤ 512 ∧ s0.toInt = s0.toInt
    refine ⟨?_, ?_, ?_, ?_, ?_⟩ <;> omega
  · have c10 := zz_nlt c10
    refine zz_ok_ite (fun c12 => ?_) (fun c12 => ?_)
    · have c12 := Int32.lt_iff_toInt_lt.mp c12
      refine (s_X3_takeBack_L18 K hK n0 n1 n2 n3 n4 n5 n6 n7 K p1 p2 p1 p2 s0 s1 s2 s3 s4 s5 s6 s7 s8 s9 s10 s11 s12 s13 s14 (by omega) (by omega) (by omega) (by omega) (by omega) (by omega) (by omega) (by omega) (by omega) (by omega) (by omega) (by omega) (by omega) (by omega) (by omega) (by omega) (by omega) (by omega) (by omega)).mono (fun z hz => ?_)
      have q13 : z.2.1.toInt = s1.toInt := hz.1
      have q14 : z.2.2.1.toInt = s2.toInt := hz.2.1
      have q15 : 0 ≤ z.2.2.2.2.2.2.2.2.2.2.1.toInt := hz.2.2.1
      have q16 : z.2.2.2.2.2.2.2.2.2.2.1.toInt ≤ 512 := hz.2.2.2.1
      have q17 : z.1.toInt = s0.toInt := hz.2.2.2.2
      show z.2.1.toInt = s1.toInt ∧ z.2.2.1.toInt = s2.toInt ∧ 0 ≤ z.2.2.2.2.2.2.2.2.2.2.1.toInt ∧ z.2.2.2.2.2.2.2.2.2.2.1.toInt ≤ 512 ∧ z.1.toInt = s0.toInt
      refine ⟨?_, ?_, ?_, ?_, ?_⟩ <;> omega
    · have c12 := zz_nlt c12
      refine zz_ok_some ?_
      show s1.toInt = s1.toInt ∧ s2.toInt = s2.toInt ∧ 0 ≤ s10.toInt ∧ s10.toInt ≤ 512 ∧ s0.toInt = s0.toInt
      refine ⟨?_, ?_, ?_, ?_, ?_⟩ <;> omega

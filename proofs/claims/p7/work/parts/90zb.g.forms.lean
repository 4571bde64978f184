set_option maxHeartbeats 4000000 in
theorem gg_X0_begin (K : Nat) (hK : 1099511627776 ≤ K) (T : Nat) (hT : T ≤ 900) (n0 : Nat) (n1 : Nat) (n2 : Nat) (n3 : Nat) (n4 : Nat) (n5 : Nat) (n6 : Nat) (k0 : Int32) (s0 : Int32) (s1 : Int32) (s2 : Int32) (s3 : Int32) (s4 : Int32) (s5 : Nat → Int32) (s6 : Nat → Int32) (s7 : Nat → Int32) (s8 : Nat → Int32) (s9 : Nat → Int32) (s10 : Int32) (s11 : Int32) (s12 : Nat → Int32) (s13 : Nat → Int32) : zz_ok (m_X0_begin K n0 n1 n2 n3 n4 n5 n6 k0 s0 s1 s2 s3 s4 s5 s6 s7 s8 s9 s10 s11 s12 s13) (fun z => z.1.toInt = 0 ∧ z.2.1 = s1 ∧ z.2.2.1 = s2 ∧ z.2.2.2.1 = s3 ∧ z.2.2.2.2.1 = s4 ∧ z.2.2.2.2.2.1 = s5 ∧ z.2.2.2.2.2.2.1 = s6 ∧ z.2.2.2.2.2.2.2.1 = s7 ∧ z.2.2.2.2.2.2.2.2.1 = s8 ∧ z.2.2.2.2.2.2.2.2.2.1 = s9 ∧ z.2.2.2.2.2.2.2.2.2.2.1 = s10 ∧ z.2.2.2.2.2.2.2.2.2.2.2.1 = s11 ∧ z.2.2.2.2.2.2.2.2.2.2.2.2.1 = s12 ∧ z.2.2.2.2.2.2.2.2.2.2.2.2.2 = s13) := by
  have g1 := zz_rg k0
  have g2 := zz_rg s0
  have g3 := zz_rg s1
  have g4 := zz_rg s2
  have g5 := zz_rg s3
  have g6 := zz_rg s4
  have g7 := zz_rg s10
  have g8 := zz_rg s11
  unfold m_X0_begin
  have l9 : (0 : Int32).toInt = 0 := rfl
  refine zz_ok_some ?_
  show (0 : Int32).toInt = 0 ∧ s1 = s1 ∧ s2 = s2 ∧ s3 = s3 ∧ s4 = s4 ∧ s5 = s5 ∧ s6 = s6 ∧ s7 = s7 ∧ s8 = s8 ∧ s9 = s9 ∧ s10 = s10 ∧ s11 = s11 ∧ s12 = s12 ∧ s13 = s13
  exact ⟨(by omega), rfl, rfl, rfl, rfl, rfl, rfl, rfl, rfl, rfl, rfl, rfl, rfl, rfl⟩
set_option maxHeartbeats 4000000 in
theorem gg_X0_takeBack (K : Nat) (hK : 1099511627776 ≤ K) (T : Nat) (hT : T ≤ 900) (n0 : Nat) (n1 : Nat) (n2 : Nat) (n3 : Nat) (n4 : Nat) (n5 : Nat) (n6 : Nat) (k0 : Int32) (p1 : Int32) (p2 : Int32) (s0 : Int32) (s1 : Int32) (s2 : Int32) (s3 : Int32) (s4 : Int32) (s5 : Nat → Int32) (s6 : Nat → Int32) (s7 : Nat → Int32) (s8 : Nat → Int32) (s9 : Nat → Int32) (s10 : Int32) (s11 : Int32) (s12 : Nat → Int32) (s13 : Nat → Int32) : zz_ok (m_X0_takeBack K n0 n1 n2 n3 n4 n5 n6 k0 p1 p2 s0 s1 s2 s3 s4 s5 s6 s7 s8 s9 s10 s11 s12 s13) (fun z => z.1 = s0 ∧ z.2.1 = s1 ∧ z.2.2.1 = s2 ∧ z.2.2.2.1 = s3 ∧ z.2.2.2.2.1 = s4 ∧ z.2.2.2.2.2.1 = s5 ∧ z.2.2.2.2.2.2.1 = s6 ∧ z.2.2.2.2.2.2.2.1 = s7 ∧ z.2.2.2.2.2.2.2.2.1 = s8 ∧ z.2.2.2.2.2.2.2.2.2.1 = s9 ∧ z.2.2.2.2.2.2.2.2.2.2.1 = s10 ∧ z.2.2.2.2.2.2.2.2.2.2.2.1 = s11 ∧ z.2.2.2.2.2.2.2.2.2.2.2.2.1 = s12 ∧ z.2.2.2.2.2.2.2.2.2.2.2.2.2 = s13) := by
  have g1 := zz_rg k0
  have g2 := zz_rg p1
  have g3 := zz_rg p2
  have g4 := zz_rg s0
  have g5 := zz_rg s1
  have g6 := zz_rg s2
  have g7 := zz_rg s3
  have g8 := zz_rg s4
  have g9 := zz_rg s10
  have g10 := zz_rg s11
  unfold m_X0_takeBack
  refine zz_ok_some ?_
  show s0 = s0 ∧ s1 = s1 ∧ s2 = s2 ∧ s3 = s3 ∧ s4 = s4 ∧ s5 = s5 ∧ s6 = s6 ∧ s7 = s7 ∧ s8 = s8 ∧ s9 = s9 ∧ s10 = s10 ∧ s11 = s11 ∧ s12 = s12 ∧ s13 = s13
  exact ⟨rfl, rfl, rfl, rfl, rfl, rfl, rfl, rfl, rfl, rfl, rfl, rfl, rfl, rfl⟩
set_option maxHeartbeats 4000000 in
theorem gg_X0_take (K : Nat) (hK : 1099511627776 ≤ K) (T : Nat) (hT : T ≤ 900) (n0 : Nat) (n1 : Nat) (n2 : Nat) (n3 : Nat) (n4 : Nat) (n5 : Nat) (n6 : Nat) (k0 : Int32) (p1 : Int32) (s0 : Int32) (s1 : Int32) (s2 : Int32) (s3 : Int32) (s4 : Int32) (s5 : Nat → Int32) (s6 : Nat → Int32) (s7 : Nat → Int32) (s8 : Nat → Int32) (s9 : Nat → Int32) (s10 : Int32) (s11 : Int32) (s12 : Nat → Int32) (s13 : Nat → Int32) (a0 : n0 = 1024) (a1 : n1 = 200) (a2 : n2 = 200) (a3 : n3 = 200) (a4 : n4 = 200) (a5 : n5 = 512) (a6 : n6 = 512) (a7 : 0 ≤ s1.toInt) (a8 : s1.toInt ≤ 1024) (a9 : 0 ≤ k0.toInt) (a10 : k0.toInt ≤ 3) (a11 : 1 ≤ p1.toInt) (a12 : p1.toInt ≤ 1024) (a13 : 0 ≤ s0.toInt) (a14 : s0.toInt ≤ 1024) : zz_ok (m_X0_take K n0 n1 n2 n3 n4 n5 n6 k0 p1 s0 s1 s2 s3 s4 s5 s6 s7 s8 s9 s10 s11 s12 s13) (fun z => zz_pl k0.toInt s1.toInt (s5) s0.toInt p1.toInt z.1.toInt ∧ -1 ≤ z.1.toInt ∧ z.1.toInt ≤ 1024 ∧ (z.1.toInt = -1 ∨ z.2.1.toInt = z.1.toInt + p1.toInt) ∧ (z.1.toInt ≠ -1 ∨ z.2.1.toInt = s0.toInt) ∧ z.2.2.1 = s1 ∧ z.2.2.2.1 = s2 ∧ z.2.2.2.2.1 = s3 ∧ z.2.2.2.2.2.2.1 = s5 ∧ z.2.2.2.2.2.2.2.1 = s6 ∧ z.2.2.2.2.2.2.2.2.1 = s7 ∧ z.2.2.2.2.2.2.2.2.2.1 = s8 ∧ z.2.2.2.2.2.2.2.2.2.2.1 = s9) := by
  have g1 := zz_rg k0
  have g2 := zz_rg p1
  have g3 := zz_rg s0
  have g4 := zz_rg s1
  have g5 := zz_rg s2
  have g6 := zz_rg s3
  have g7 := zz_rg s4
  have g8 := zz_rg s10
  have g9 := zz_rg s11
  unfold m_X0_take
  refine zz_ok_bind (ff_X7_listRuns K hK T hT n0 n1 n2 n3 n4 n5 n6 s1 s2 s3 s4 s5 s6 s7 s8 s9 s10 s11 s12 s13 a0 a1 a2 a3 a4 a5 a6 a7 a8) ?_
  intro z10 hz10
  obtain ⟨t_1_0, t_1_1, t_1_2, t_1_3, t_1_4, t_1_5, t_1_6, t_1_7, t_1_8, t_1_9, t_1_10, t_1_11, t_1_12⟩ := z10
  have q11 : zz_ru s1.toInt (s5) (t_1_11) (t_1_12) t_1_9.toInt := hz10.1
  have q12 : 0 ≤ t_1_9.toInt := hz10.2.1
  have q13 : t_1_9.toInt ≤ 512 := hz10.2.2.1
  have q14 : t_1_0 = s1 := hz10.2.2.2.1
  have q15 : t_1_1 = s2 := hz10.2.2.2.2.1
  have q16 : t_1_2 = s3 := hz10.2.2.2.2.2.1
  have q17 : t_1_3 = s4 := hz10.2.2.2.2.2.2.1
  have q18 : t_1_4 = s5 := hz10.2.2.2.2.2.2.2.1
  have q19 : t_1_5 = s6 := hz10.2.2.2.2.2.2.2.2.1
  have q20 : t_1_6 = s7 := hz10.2.2.2.2.2.2.2.2.2.1
  have q21 : t_1_7 = s8 := hz10.2.2.2.2.2.2.2.2.2.2.1
  have q22 : t_1_8 = s9 := hz10.2.2.2.2.2.2.2.2.2.2.2.1
  have q23 : t_1_10 = s11 := hz10.2.2.2.2.2.2.2.2.2.2.2.2
  clear hz10
  have e24 : s1 = t_1_0 := q14.symm
  subst e24
  have e25 : s2 = t_1_1 := q15.symm
  subst e25
  have e26 : s3 = t_1_2 := q16.symm
  subst e26
  have e27 : s4 = t_1_3 := q17.symm
  subst e27
  have e28 : s5 = t_1_4 := q18.symm
  subst e28
  have e29 : s6 = t_1_5 := q19.symm
  subst e29
  have e30 : s7 = t_1_6 := q20.symm
  subst e30
  have e31 : s8 = t_1_7 := q21.symm
  subst e31
  have e32 : s9 = t_1_8 := q22.symm
  subst e32
  have e33 : s11 = t_1_10 := q23.symm
  subst e33
  have g34 := zz_rg t_1_9
  have vs8 := zz_ru_vs (by assumption : zz_ru s1.toInt s5 t_1_11 t_1_12 t_1_9.toInt) (m := 1024) (by omega) (by omega)
  show zz_ok ((m_X10_find K n5 n6 k0 p1 s0 t_1_9 s11 t_1_11 t_1_12).bind fun ⟨r_2, t_2_0, t_2_1, t_2_2, t_2_3⟩ => (m_X10_looked K n5 n6 t_2_0 t_2_1 t_2_2 t_2_3).bind fun ⟨r_3, t_3_0, t_3_1, t_3_2, t_3_3⟩ => (m_X7_addLooked K n0 n1 n2 n3 n4 n5 n6 r_3 s1 s2 s3 s4 s5 s6 s7 s8 s9 t_3_0 t_3_1 t_3_2 t_3_3).bind fun ⟨t_4_0, t_4_1, t_4_2, t_4_3, t_4_4, t_4_5, t_4_6, t_4_7, t_4_8, t_4_9, t_4_10, t_4_11, t_4_12⟩ => if r_2 = ((-1 : Int32)) then (some (r_2, s0, t_4_0, t_4_1, t_4_2, t_4_3, t_4_4, t_4_5, t_4_6, t_4_7, t_4_8, t_4_9, t_4_10, t_4_11, t_4_12)) else (some (r_2, r_2 + p1, t_4_0, t_4_1, t_4_2, t_4_3, t_4_4, t_4_5, t_4_6, t_4_7, t_4_8, t_4_9, t_4_10, t_4_11, t_4_12))) _
  refine zz_ok_bind (gg_X10_find K hK T hT n5 n6 k0 p1 s0 t_1_9 s11 t_1_11 t_1_12 (by omega) (by omega) q12 (by omega) (by assumption) a9 a10 a11 a12 a13 a14) ?_
  intro z35 hz35
  obtain ⟨r_2, t_2_0, t_2_1, t_2_2, t_2_3⟩ := z35
  have q36 : zz_q k0.toInt (t_1_11) (t_1_12) t_1_9.toInt s0.toInt p1.toInt r_2.toInt := hz35.1
  have q37 : -1 ≤ r_2.toInt := hz35.2.1
  have q38 : r_2.toInt ≤ 1024 := hz35.2.2.1
  have q39 : t_2_0 = t_1_9 := hz35.2.2.2.1
  have q40 : t_2_2 = t_1_11 := hz35.2.2.2.2.1
  have q41 : t_2_3 = t_1_12 := hz35.2.2.2.2.2
  clear hz35
  have e42 : t_1_9 = t_2_0 := q39.symm
  subst e42
  have e43 : t_1_11 = t_2_2 := q40.symm
  subst e43
  have e44 : t_1_12 = t_2_3 := q41.symm
  subst e44
  have g45 := zz_rg r_2
  have g46 := zz_rg t_2_1
  show zz_ok ((m_X10_looked K n5 n6 t_1_9 t_2_1 t_1_11 t_1_12).bind fun ⟨r_3, t_3_0, t_3_1, t_3_2, t_3_3⟩ => (m_X7_addLooked K n0 n1 n2 n3 n4 n5 n6 r_3 s1 s2 s3 s4 s5 s6 s7 s8 s9 t_3_0 t_3_1 t_3_2 t_3_3).bind fun ⟨t_4_0, t_4_1, t_4_2, t_4_3, t_4_4, t_4_5, t_4_6, t_4_7, t_4_8, t_4_9, t_4_10, t_4_11, t_4_12⟩ => if r_2 = ((-1 : Int32)) then (some (r_2, s0, t_4_0, t_4_1, t_4_2, t_4_3, t_4_4, t_4_5, t_4_6, t_4_7, t_4_8, t_4_9, t_4_10, t_4_11, t_4_12)) else (some (r_2, r_2 + p1, t_4_0, t_4_1, t_4_2, t_4_3, t_4_4, t_4_5, t_4_6, t_4_7, t_4_8, t_4_9, t_4_10, t_4_11, t_4_12))) _
  refine zz_ok_bind (ff_X10_looked K hK T hT n5 n6 t_1_9 t_2_1 t_1_11 t_1_12) ?_
  intro z47 hz47
  obtain ⟨r_3, t_3_0, t_3_1, t_3_2, t_3_3⟩ := z47
  have q48 : r_3 = t_2_1 := hz47.1
  have q49 : t_3_0 = t_1_9 := hz47.2.1
  have q50 : t_3_1 = t_2_1 := hz47.2.2.1
  have q51 : t_3_2 = t_1_11 := hz47.2.2.2.1
  have q52 : t_3_3 = t_1_12 := hz47.2.2.2.2
  clear hz47
  have e53 : t_2_1 = r_3 := q48.symm
  subst e53
  have e54 : t_1_9 = t_3_0 := q49.symm
  subst e54
  have e55 : t_2_1 = t_3_1 := q50.symm
  subst e55
  have e56 : t_1_11 = t_3_2 := q51.symm
  subst e56
  have e57 : t_1_12 = t_3_3 := q52.symm
  subst e57
  show zz_ok ((m_X7_addLooked K n0 n1 n2 n3 n4 n5 n6 t_2_1 s1 s2 s3 s4 s5 s6 s7 s8 s9 t_1_9 t_2_1 t_1_11 t_1_12).bind fun ⟨t_4_0, t_4_1, t_4_2, t_4_3, t_4_4, t_4_5, t_4_6, t_4_7, t_4_8, t_4_9, t_4_10, t_4_11, t_4_12⟩ => if r_2 = ((-1 : Int32)) then (some (r_2, s0, t_4_0, t_4_1, t_4_2, t_4_3, t_4_4, t_4_5, t_4_6, t_4_7, t_4_8, t_4_9, t_4_10, t_4_11, t_4_12)) else (some (r_2, r_2 + p1, t_4_0, t_4_1, t_4_2, t_4_3, t_4_4, t_4_5, t_4_6, t_4_7, t_4_8, t_4_9, t_4_10, t_4_11, t_4_12))) _
  refine zz_ok_bind (ff_X7_addLooked K hK T hT n0 n1 n2 n3 n4 n5 n6 t_2_1 s1 s2 s3 s4 s5 s6 s7 s8 s9 t_1_9 t_2_1 t_1_11 t_1_12) ?_
  intro z58 hz58
  obtain ⟨t_4_0, t_4_1, t_4_2, t_4_3, t_4_4, t_4_5, t_4_6, t_4_7, t_4_8, t_4_9, t_4_10, t_4_11, t_4_12⟩ := z58
  have q59 : t_4_0 = s1 := hz58.1
  have q60 : t_4_1 = s2 := hz58.2.1
  have q61 : t_4_2 = s3 := hz58.2.2.1
  have q62 : t_4_4 = s5 := hz58.2.2.2.1
  have q63 : t_4_5 = s6 := hz58.2.2.2.2.1
  have q64 : t_4_6 = s7 := hz58.2.2.2.2.2.1
  have q65 : t_4_7 = s8 := hz58.2.2.2.2.2.2.1
  have q66 : t_4_8 = s9 := hz58.2.2.2.2.2.2.2.1
  have q67 : t_4_9 = t_1_9 := hz58.2.2.2.2.2.2.2.2.1
  have q68 : t_4_10 = t_2_1 := hz58.2.2.2.2.2.2.2.2.2.1
  have q69 : t_4_11 = t_1_11 := hz58.2.2.2.2.2.2.2.2.2.2.1
  have q70 : t_4_12 = t_1_12 := hz58.2.2.2.2.2.2.2.2.2.2.2
  clear hz58
  have e71 : s1 = t_4_0 := q59.symm
  subst e71
  have e72 : s2 = t_4_1 := q60.symm
  subst e72
  have e73 : s3 = t_4_2 := q61.symm
  subst e73
  have e74 : s5 = t_4_4 := q62.symm
  subst e74
  have e75 : s6 = t_4_5 := q63.symm
  subst e75
  have e76 : s7 = t_4_6 := q64.symm
  subst e76
  have e77 : s8 = t_4_7 := q65.symm
  subst e77
  have e78 : s9 = t_4_8 := q66.symm
  subst e78
  have e79 : t_1_9 = t_4_9 := q67.symm
  subst e79
  have e80 : t_2_1 = t_4_10 := q68.symm
  subst e80
  have e81 : t_1_11 = t_4_11 := q69.symm
  subst e81
  have e82 : t_1_12 = t_4_12 := q70.symm
  subst e82
  have g83 := zz_rg t_4_3
  show zz_ok (if r_2 = ((-1 : Int32)) then (some (r_2, s0, s1, s2, s3, t_4_3, s5, s6, s7, s8, s9, t_1_9, t_2_1, t_1_11, t_1_12)) else (some (r_2, r_2 + p1, s1, s2, s3, t_4_3, s5, s6, s7, s8, s9, t_1_9, t_2_1, t_1_11, t_1_12))) _
  have l85 : (-1 : Int32).toInt = -1 := rfl
  refine zz_ok_ite (fun c84 => ?_) (fun c84 => ?_)
  · have c84 := congrArg Int32.toInt c84
    refine zz_ok_some ?_
    show zz_pl k0.toInt s1.toInt (s5) s0.toInt p1.toInt r_2.toInt ∧ -1 ≤ r_2.toInt ∧ r_2.toInt ≤ 1024 ∧ (r_2.toInt = -1 ∨ s0.toInt = r_2.toInt + p1.toInt) ∧ (r_2.toInt ≠ -1 ∨ s0.toInt = s0.toInt) ∧ s1 = s1 ∧ s2 = s2 ∧ s3 = s3 ∧ s5 = s5 ∧ s6 = s6 ∧ s7 = s7 ∧ s8 = s8 ∧ s9 = s9
    exact ⟨(by exact zz_q_use (by assumption) (by assumption) (by omega)), q37, q38, (by omega), (by omega), (by first | rfl | (exfalso; omega)), (by first | rfl | (exfalso; omega)), (by first | rfl | (exfalso; omega)), (by first | rfl | (exfalso; omega)), (by first | rfl | (exfalso; omega)), (by first | rfl | (exfalso; omega)), (by first | rfl | (exfalso; omega)), (by first | rfl | (exfalso; omega))⟩
  · have c84 := zz_neq c84
    obtain ⟨k86, f87⟩ := zz_add r_2 p1
    have g88 := zz_rg (r_2 + p1)
    refine zz_ok_some ?_
    show zz_pl k0.toInt s1.toInt (s5) s0.toInt p1.toInt r_2.toInt ∧ -1 ≤ r_2.toInt ∧ r_2.toInt ≤ 1024 ∧ (r_2.toInt = -1 ∨ (r_2 + p1).toInt = r_2.toInt + p1.toInt) ∧ (r_2.toInt ≠ -1 ∨ (r_2 + p1).toInt = s0.toInt) ∧ s1 = s1 ∧ s2 = s2 ∧ s3 = s3 ∧ s5 = s5 ∧ s6 = s6 ∧ s7 = s7 ∧ s8 = s8 ∧ s9 = s9
    exact ⟨(by exact zz_q_use (by assumption) (by assumption) (by omega)), q37, q38, (by omega), (by omega), (by first | rfl | (exfalso; omega)), (by first | rfl | (exfalso; omega)), (by first | rfl | (exfalso; omega)), (by first | rfl | (exfalso; omega)), (by first | rfl | (exfalso; omega)), (by first | rfl | (exfalso; omega)), (by first | rfl | (exfalso; omega)), (by first | rfl | (exfalso; omega))⟩
set_option maxHeartbeats 4000000 in
theorem gg_X2_begin (K : Nat) (hK : 1099511627776 ≤ K) (T : Nat) (hT : T ≤ 900) (n0 : Nat) (n1 : Nat) (n2 : Nat) (n3 : Nat) (n4 : Nat) (n5 : Nat) (n6 : Nat) (s0 : Int32) (s1 : Int32) (s2 : Int32) (s3 : Int32) (s4 : Int32) (s5 : Nat → Int32) (s6 : Nat → Int32) (s7 : Nat → Int32) (s8 : Nat → Int32) (s9 : Nat → Int32) (s10 : Int32) (s11 : Int32) (s12 : Nat → Int32) (s13 : Nat → Int32) (a0 : n0 = 1024) (a1 : n1 = 200) (a2 : n2 = 200) (a3 : n3 = 200) (a4 : n4 = 200) (a5 : n5 = 512) (a6 : n6 = 512) (a7 : 0 ≤ s1.toInt) (a8 : s1.toInt ≤ 1024) : zz_ok (m_X2_begin K n0 n1 n2 n3 n4 n5 n6 s0 s1 s2 s3 s4 s5 s6 s7 s8 s9 s10 s11 s12 s13) (fun z => z.1.toInt = s1.toInt / 4 ∧ z.2.1 = s1 ∧ z.2.2.1 = s2 ∧ z.2.2.2.1 = s3 ∧ z.2.2.2.2.1 = s4 ∧ z.2.2.2.2.2.1 = s5 ∧ z.2.2.2.2.2.2.1 = s6 ∧ z.2.2.2.2.2.2.2.1 = s7 ∧ z.2.2.2.2.2.2.2.2.1 = s8 ∧ z.2.2.2.2.2.2.2.2.2.1 = s9 ∧ z.2.2.2.2.2.2.2.2.2.2.1 = s10 ∧ z.2.2.2.2.2.2.2.2.2.2.2.1 = s11 ∧ z.2.2.2.2.2.2.2.2.2.2.2.2.1 = s12 ∧ z.2.2.2.2.2.2.2.2.2.2.2.2.2 = s13) := by
  have g1 := zz_rg s0
  have g2 := zz_rg s1
  have g3 := zz_rg s2
  have g4 := zz_rg s3
  have g5 := zz_rg s4
  have g6 := zz_rg s10
  have g7 := zz_rg s11
  unfold m_X2_begin
  refine zz_ok_bind (ff_X7_words K hK T hT n0 n1 n2 n3 n4 n5 n6 s1 s2 s3 s4 s5 s6 s7 s8 s9 s10 s11 s12 s13) ?_
  intro z8 hz8
  obtain ⟨r_1, t_1_0, t_1_1, t_1_2, t_1_3, t_1_4, t_1_5, t_1_6, t_1_7, t_1_8, t_1_9, t_1_10, t_1_11, t_1_12⟩ := z8
  have q9 : r_1 = s1 := hz8.1
  have q10 : t_1_0 = s1 := hz8.2.1
  have q11 : t_1_1 = s2 := hz8.2.2.1
  have q12 : t_1_2 = s3 := hz8.2.2.2.1
  have q13 : t_1_3 = s4 := hz8.2.2.2.2.1
  have q14 : t_1_4 = s5 := hz8.2.2.2.2.2.1
  have q15 : t_1_5 = s6 := hz8.2.2.2.2.2.2.1
  have q16 : t_1_6 = s7 := hz8.2.2.2.2.2.2.2.1
  have q17 : t_1_7 = s8 := hz8.2.2.2.2.2.2.2.2.1
  have q18 : t_1_8 = s9 := hz8.2.2.2.2.2.2.2.2.2.1
  have q19 : t_1_9 = s10 := hz8.2.2.2.2.2.2.2.2.2.2.1
  have q20 : t_1_10 = s11 := hz8.2.2.2.2.2.2.2.2.2.2.2.1
  have q21 : t_1_11 = s12 := hz8.2.2.2.2.2.2.2.2.2.2.2.2.1
  have q22 : t_1_12 = s13 := hz8.2.2.2.2.2.2.2.2.2.2.2.2.2
  clear hz8
  have e23 : s1 = r_1 := q9.symm
  subst e23
  have e24 : s1 = t_1_0 := q10.symm
  subst e24
  have e25 : s2 = t_1_1 := q11.symm
  subst e25
  have e26 : s3 = t_1_2 := q12.symm
  subst e26
  have e27 : s4 = t_1_3 := q13.symm
  subst e27
  have e28 : s5 = t_1_4 := q14.symm
  subst e28
  have e29 : s6 = t_1_5 := q15.symm
  subst e29
  have e30 : s7 = t_1_6 := q16.symm
  subst e30
  have e31 : s8 = t_1_7 := q17.symm
  subst e31
  have e32 : s9 = t_1_8 := q18.symm
  subst e32
  have e33 : s10 = t_1_9 := q19.symm
  subst e33
  have e34 : s11 = t_1_10 := q20.symm
  subst e34
  have e35 : s12 = t_1_11 := q21.symm
  subst e35
  have e36 : s13 = t_1_12 := q22.symm
  subst e36
  show zz_ok (some (s1 / ((4 : Int32)), s1, s2, s3, s4, s5, s6, s7, s8, s9, s10, s11, s12, s13)) _
  have l37 : (4 : Int32).toInt = 4 := rfl
  try have f38 := zz_divP s1 (4 : Int32) 4 rfl (by decide) (by omega)
  have f39 := zz_divB s1 (4 : Int32) 4 rfl (by decide)
  have g40 := zz_rg (s1 / ((4 : Int32)))
  refine zz_ok_some ?_
  show (s1 / ((4 : Int32))).toInt = s1.toInt / 4 ∧ s1 = s1 ∧ s2 = s2 ∧ s3 = s3 ∧ s4 = s4 ∧ s5 = s5 ∧ s6 = s6 ∧ s7 = s7 ∧ s8 = s8 ∧ s9 = s9 ∧ s10 = s10 ∧ s11 = s11 ∧ s12 = s12 ∧ s13 = s13
  exact ⟨(by omega), rfl, rfl, rfl, rfl, rfl, rfl, rfl, rfl, rfl, rfl, rfl, rfl, rfl⟩
set_option maxHeartbeats 4000000 in
theorem gg_X2_takeBack (K : Nat) (hK : 1099511627776 ≤ K) (T : Nat) (hT : T ≤ 900) (n0 : Nat) (n1 : Nat) (n2 : Nat) (n3 : Nat) (n4 : Nat) (n5 : Nat) (n6 : Nat) (p1 : Int32) (p2 : Int32) (s0 : Int32) (s1 : Int32) (s2 : Int32) (s3 : Int32) (s4 : Int32) (s5 : Nat → Int32) (s6 : Nat → Int32) (s7 : Nat → Int32) (s8 : Nat → Int32) (s9 : Nat → Int32) (s10 : Int32) (s11 : Int32) (s12 : Nat → Int32) (s13 : Nat → Int32) : zz_ok (m_X2_takeBack K n0 n1 n2 n3 n4 n5 n6 p1 p2 s0 s1 s2 s3 s4 s5 s6 s7 s8 s9 s10 s11 s12 s13) (fun z => z.1 = s0 ∧ z.2.1 = s1 ∧ z.2.2.1 = s2 ∧ z.2.2.2.1 = s3 ∧ z.2.2.2.2.1 = s4 ∧ z.2.2.2.2.2.1 = s5 ∧ z.2.2.2.2.2.2.1 = s6 ∧ z.2.2.2.2.2.2.2.1 = s7 ∧ z.2.2.2.2.2.2.2.2.1 = s8 ∧ z.2.2.2.2.2.2.2.2.2.1 = s9 ∧ z.2.2.2.2.2.2.2.2.2.2.1 = s10 ∧ z.2.2.2.2.2.2.2.2.2.2.2.1 = s11 ∧ z.2.2.2.2.2.2.2.2.2.2.2.2.1 = s12 ∧ z.2.2.2.2.2.2.2.2.2.2.2.2.2 = s13) := by
  have g1 := zz_rg p1
  have g2 := zz_rg p2
  have g3 := zz_rg s0
  have g4 := zz_rg s1
  have g5 := zz_rg s2
  have g6 := zz_rg s3
  have g7 := zz_rg s4
  have g8 := zz_rg s10
  have g9 := zz_rg s11
  unfold m_X2_takeBack
  refine zz_ok_some ?_
  show s0 = s0 ∧ s1 = s1 ∧ s2 = s2 ∧ s3 = s3 ∧ s4 = s4 ∧ s5 = s5 ∧ s6 = s6 ∧ s7 = s7 ∧ s8 = s8 ∧ s9 = s9 ∧ s10 = s10 ∧ s11 = s11 ∧ s12 = s12 ∧ s13 = s13
  exact ⟨rfl, rfl, rfl, rfl, rfl, rfl, rfl, rfl, rfl, rfl, rfl, rfl, rfl, rfl⟩
set_option maxHeartbeats 4000000 in
theorem gg_X2_spanOf (K : Nat) (hK : 1099511627776 ≤ K) (T : Nat) (hT : T ≤ 900) (n0 : Nat) (n1 : Nat) (n2 : Nat) (n3 : Nat) (n4 : Nat) (n5 : Nat) (n6 : Nat) (p1 : Int32) (s0 : Int32) (s1 : Int32) (s2 : Int32) (s3 : Int32) (s4 : Int32) (s5 : Nat → Int32) (s6 : Nat → Int32) (s7 : Nat → Int32) (s8 : Nat → Int32) (s9 : Nat → Int32) (s10 : Int32) (s11 : Int32) (s12 : Nat → Int32) (s13 : Nat → Int32) (a0 : 1 ≤ p1.toInt) (a1 : p1.toInt ≤ 1024) : zz_ok (m_X2_spanOf K n0 n1 n2 n3 n4 n5 n6 p1 s0 s1 s2 s3 s4 s5 s6 s7 s8 s9 s10 s11 s12 s13) (fun z => z.1.toInt = (p1.toInt + 3) / 4 * 4 ∧ z.2.1 = s0 ∧ z.2.2.1 = s1 ∧ z.2.2.2.1 = s2 ∧ z.2.2.2.2.1 = s3 ∧ z.2.2.2.2.2.1 = s4 ∧ z.2.2.2.2.2.2.1 = s5 ∧ z.2.2.2.2.2.2.2.1 = s6 ∧ z.2.2.2.2.2.2.2.2.1 = s7 ∧ z.2.2.2.2.2.2.2.2.2.1 = s8 ∧ z.2.2.2.2.2.2.2.2.2.2.1 = s9 ∧ z.2.2.2.2.2.2.2.2.2.2.2.1 = s10 ∧ z.2.2.2.2.2.2.2.2.2.2.2.2.1 = s11 ∧ z.2.2.2.2.2.2.2.2.2.2.2.2.2.1 = s12 ∧ z.2.2.2.2.2.2.2.2.2.2.2.2.2.2 = s13) := by
  have g1 := zz_rg p1
  have g2 := zz_rg s0
  have g3 := zz_rg s1
  have g4 := zz_rg s2
  have g5 := zz_rg s3
  have g6 := zz_rg s4
  have g7 := zz_rg s10
  have g8 := zz_rg s11
  unfold m_X2_spanOf
  have l9 : (4 : Int32).toInt = 4 := rfl
  obtain ⟨k10, f11⟩ := zz_add p1 (4 : Int32)
  have g12 := zz_rg (p1 + ((4 : Int32)))
  have l13 : (1 : Int32).toInt = 1 := rfl
  obtain ⟨k14, f15⟩ := zz_sub (p1 + ((4 : Int32))) (1 : Int32)
  have g16 := zz_rg ((p1 + ((4 : Int32))) - ((1 : Int32)))
  try have f17 := zz_divP ((p1 + ((4 : Int32))) - ((1 : Int32))) (4 : Int32) 4 rfl (by decide) (by omega)
  have f18 := zz_divB ((p1 + ((4 : Int32))) - ((1 : Int32))) (4 : Int32) 4 rfl (by decide)
  have g19 := zz_rg (((p1 + ((4 : Int32))) - ((1 : Int32))) / ((4 : Int32)))
  obtain ⟨k20, f21⟩ := zz_mul (((p1 + ((4 : Int32))) - ((1 : Int32))) / ((4 : Int32))) (4 : Int32)
  rw [show (4 : Int32).toInt = 4 from rfl] at f21
  have g22 := zz_rg ((((p1 + ((4 : Int32))) - ((1 : Int32))) / ((4 : Int32))) * ((4 : Int32)))
  refine zz_ok_some ?_
  show ((((p1 + ((4 : Int32))) - ((1 : Int32))) / ((4 : Int32))) * ((4 : Int32))).toInt = (p1.toInt + 3) / 4 * 4 ∧ s0 = s0 ∧ s1 = s1 ∧ s2 = s2 ∧ s3 = s3 ∧ s4 = s4 ∧ s5 = s5 ∧ s6 = s6 ∧ s7 = s7 ∧ s8 = s8 ∧ s9 = s9 ∧ s10 = s10 ∧ s11 = s11 ∧ s12 = s12 ∧ s13 = s13
  exact ⟨(by omega), rfl, rfl, rfl, rfl, rfl, rfl, rfl, rfl, rfl, rfl, rfl, rfl, rfl, rfl⟩
set_option maxHeartbeats 4000000 in
theorem gg_X2_areFree_L2 (K : Nat) (hK : 1099511627776 ≤ K) (T : Nat) (hT : T ≤ 900) (n0 : Nat) (n1 : Nat) (n2 : Nat) (n3 : Nat) (n4 : Nat) (n5 : Nat) (n6 : Nat) : ∀ (k : Nat) (x1 : Int32) (x2 : Int32) (x3 : Int32) (s0 : Int32) (s1 : Int32) (s2 : Int32) (s3 : Int32) (s4 : Int32) (s5 : Nat → Int32) (s6 : Nat → Int32) (s7 : Nat → Int32) (s8 : Nat → Int32) (s9 : Nat → Int32) (s10 : Int32) (s11 : Int32) (s12 : Nat → Int32) (s13 : Nat → Int32), n0 = 1024 → n1 = 200 → n2 = 200 → n3 = 200 → n4 = 200 → n5 = 512 → n6 = 512 → 0 ≤ s1.toInt → s1.toInt ≤ 1024 → 0 ≤ s0.toInt → 4 * s0.toInt ≤ s1.toInt → 0 ≤ x1.toInt → 0 ≤ x2.toInt → 4 * (x1.toInt + x2.toInt) ≤ s1.toInt → x1.toInt ≤ x3.toInt → x3.toInt ≤ x1.toInt + x2.toInt → zz_fgp (s5) x1.toInt x3.toInt → 2000 - x3.toInt < (k : Int) → zz_ok (m_X2_areFree_L2 K n0 n1 n2 n3 n4 n5 n6 k x1 x2 x3 s0 s1 s2 s3 s4 s5 s6 s7 s8 s9 s10 s11 s12 s13) (fun z => (z.1.toInt = 0 ∨ z.1.toInt = 1) ∧ zz_fgr (s5) x1.toInt x2.toInt z.1.toInt ∧ z.2.1 = s0 ∧ z.2.2.1 = s1 ∧ z.2.2.2.1 = s2 ∧ z.2.2.2.2.1 = s3 ∧ z.2.2.2.2.2.1 = s4 ∧ z.2.2.2.2.2.2.1 = s5 ∧ z.2.2.2.2.2.2.2.1 = s6 ∧ z.2.2.2.2.2.2.2.2.1 = s7 ∧ z.2.2.2.2.2.2.2.2.2.1 = s8 ∧ z.2.2.2.2.2.2.2.2.2.2.1 = s9 ∧ z.2.2.2.2.2.2.2.2.2.2.2.1 = s10 ∧ z.2.2.2.2.2.2.2.2.2.2.2.2.1 = s11 ∧ z.2.2.2.2.2.2.2.2.2.2.2.2.2.1 = s12 ∧ z.2.2.2.2.2.2.2.2.2.2.2.2.2.2 = s13) := by
  intro k
  induction k with
  | zero =>
    intro x1 x2 x3 s0 s1 s2 s3 s4 s5 s6 s7 s8 s9 s10 s11 s12 s13 a0 a1 a2 a3 a4 a5 a6 a7 a8 a9 a10 a11 a12 a13 a14 a15 a16 hz9
    exfalso
    have g_x1 := zz_rg x1
    have g_x2 := zz_rg x2
    have g_x3 := zz_rg x3
    have g_s0 := zz_rg s0
    have g_s1 := zz_rg s1
    have g_s2 := zz_rg s2
    have g_s3 := zz_rg s3
    have g_s4 := zz_rg s4
    have g_s10 := zz_rg s10
    have g_s11 := zz_rg s11
    omega
  | succ k ih =>
    intro x1 x2 x3 s0 s1 s2 s3 s4 s5 s6 s7 s8 s9 s10 s11 s12 s13 a0 a1 a2 a3 a4 a5 a6 a7 a8 a9 a10 a11 a12 a13 a14 a15 a16 hz9
    rw [m_X2_areFree_L2_s]
    have g1 := zz_rg x1
    have g2 := zz_rg x2
    have g3 := zz_rg x3
    have g4 := zz_rg s0
    have g5 := zz_rg s1
    have g6 := zz_rg s2
    have g7 := zz_rg s3
    have g8 := zz_rg s4
    have g9 := zz_rg s10
    have g10 := zz_rg s11
    have l11 : (4 : Int32).toInt = 4 := rfl
    obtain ⟨k12, f13⟩ := zz_mul x3 (4 : Int32)
    rw [show (4 : Int32).toInt = 4 from rfl] at f13
    have g14 := zz_rg (x3 * ((4 : Int32)))
    have tn9 := zz_tnI (x3 * ((4 : Int32))) (by omega)
    obtain ⟨k16, f17⟩ := zz_add x1 x2
    have g18 := zz_rg (x1 + x2)
    refine zz_ok_ite (fun c15 => ?_) (fun c15 => ?_)
    · have c15 := Int32.le_iff_toInt_le.mp c15
      have l19 : (1 : Int32).toInt = 1 := rfl
      refine zz_ok_some ?_
      show ((1 : Int32).toInt = 0 ∨ (1 : Int32).toInt = 1) ∧ zz_fgr (s5) x1.toInt x2.toInt (1 : Int32).toInt ∧ s0 = s0 ∧ s1 = s1 ∧ s2 = s2 ∧ s3 = s3 ∧ s4 = s4 ∧ s5 = s5 ∧ s6 = s6 ∧ s7 = s7 ∧ s8 = s8 ∧ s9 = s9 ∧ s10 = s10 ∧ s11 = s11 ∧ s12 = s12 ∧ s13 = s13
      exact ⟨(by omega), (by first | assumption | exact zz_fgr_y (by assumption) (by omega) (by first | omega | decide) | exact zz_fgr_n (i := (x3 * ((4 : Int32))).toNatClampNeg) (q := x3.toInt) (by omega) (by omega) (by omega) (by omega) (zz_isf_n2 (by assumption) (by omega) (by omega) (by omega)) (by first | omega | decide)), rfl, rfl, rfl, rfl, rfl, rfl, rfl, rfl, rfl, rfl, rfl, rfl, rfl, rfl⟩
    · have c15 := zz_nle c15
      refine zz_ok_bind (ff_X7_isFree K hK T hT n0 n1 n2 n3 n4 n5 n6 (x3 * ((4 : Int32))) s1 s2 s3 s4 s5 s6 s7 s8 s9 s10 s11 s12 s13 a0 a1 a2 a3 a4 a5 a6 a7 a8) ?_
      intro z20 hz20
      obtain ⟨r_2, t_2_0, t_2_1, t_2_2, t_2_3, t_2_4, t_2_5, t_2_6, t_2_7, t_2_8, t_2_9, t_2_10, t_2_11, t_2_12⟩ := z20
      have q21 : (r_2.toInt = 0 ∨ r_2.toInt = 1) := hz20.1
      have q22 : zz_isf s1.toInt (s5) ((x3 * ((4 : Int32)))) r_2.toInt := hz20.2.1
      have q23 : t_2_0 = s1 := hz20.2.2.1
      have q24 : t_2_1 = s2 := hz20.2.2.2.1
      have q25 : t_2_2 = s3 := hz20.2.2.2.2.1
      have q26 : t_2_3 = s4 := hz20.2.2.2.2.2.1
      have q27 : t_2_4 = s5 := hz20.2.2.2.2.2.2.1
      have q28 : t_2_5 = s6 := hz20.2.2.2.2.2.2.2.1
      have q29 : t_2_6 = s7 := hz20.2.2.2.2.2.2.2.2.1
      have q30 : t_2_7 = s8 := hz20.2.2.2.2.2.2.2.2.2.1
      have q31 : t_2_8 = s9 := hz20.2.2.2.2.2.2.2.2.2.2.1
      have q32 : t_2_9 = s10 := hz20.2.2.2.2.2.2.2.2.2.2.2.1
      have q33 : t_2_10 = s11 := hz20.2.2.2.2.2.2.2.2.2.2.2.2.1
      have q34 : t_2_11 = s12 := hz20.2.2.2.2.2.2.2.2.2.2.2.2.2.1
      have q35 : t_2_12 = s13 := hz20.2.2.2.2.2.2.2.2.2.2.2.2.2.2
      clear hz20
      have e36 : s1 = t_2_0 := q23.symm
      subst e36
      have e37 : s2 = t_2_1 := q24.symm
      subst e37
      have e38 : s3 = t_2_2 := q25.symm
      subst e38
      have e39 : s4 = t_2_3 := q26.symm
      subst e39
      have e40 : s5 = t_2_4 := q27.symm
      subst e40
      have e41 : s6 = t_2_5 := q28.symm
      subst e41
      have e42 : s7 = t_2_6 := q29.symm
      subst e42
      have e43 : s8 = t_2_7 := q30.symm
      subst e43
      have e44 : s9 = t_2_8 := q31.symm
      subst e44
      have e45 : s10 = t_2_9 := q32.symm
      subst e45
      have e46 : s11 = t_2_10 := q33.symm
      subst e46
      have e47 : s12 = t_2_11 := q34.symm
      subst e47
      have e48 : s13 = t_2_12 := q35.symm
      subst e48
      have g49 := zz_rg r_2
      show zz_ok (if r_2 = 0 then (some ((0 : Int32), s0, s1, s2, s3, s4, s5, s6, s7, s8, s9, s10, s11, s12, s13)) else (m_X2_areFree_L2 K n0 n1 n2 n3 n4 n5 n6 k x1 x2 (x3 + 1) s0 s1 s2 s3 s4 s5 s6 s7 s8 s9 s10 s11 s12 s13)) _
      have l51 : (0 : Int32).toInt = 0 := rfl
      refine zz_ok_ite (fun c50 => ?_) (fun c50 => ?_)
      · have c50 := congrArg Int32.toInt c50
        refine zz_ok_some ?_
        show ((0 : Int32).toInt = 0 ∨ (0 : Int32).toInt = 1) ∧ zz_fgr (s5) x1.toInt x2.toInt (0 : Int32).toInt ∧ s0 = s0 ∧ s1 = s1 ∧ s2 = s2 ∧ s3 = s3 ∧ s4 = s4 ∧ s5 = s5 ∧ s6 = s6 ∧ s7 = s7 ∧ s8 = s8 ∧ s9 = s9 ∧ s10 = s10 ∧ s11 = s11 ∧ s12 = s12 ∧ s13 = s13
        exact ⟨(by omega), (by first | assumption | exact zz_fgr_y (by assumption) (by omega) (by first | omega | decide) | exact zz_fgr_n (i := (x3 * ((4 : Int32))).toNatClampNeg) (q := x3.toInt) (by omega) (by omega) (by omega) (by omega) (zz_isf_n2 (by assumption) (by omega) (by omega) (by omega)) (by first | omega | decide)), rfl, rfl, rfl, rfl, rfl, rfl, rfl, rfl, rfl, rfl, rfl, rfl, rfl, rfl⟩
      · have c50 := zz_neq c50
        have l52 : (1 : Int32).toInt = 1 := rfl
        obtain ⟨k53, f54⟩ := zz_add x3 (1 : Int32)
        have g55 := zz_rg (x3 + 1)
        refine (ih x1 x2 (x3 + 1) s0 s1 s2 s3 s4 s5 s6 s7 s8 s9 s10 s11 s12 s13 a0 a1 a2 a3 a4 a5 a6 a7 a8 a9 a10 a11 a12 a13 (by omega) (by omega) (by exact zz_fgp_step (i := (x3 * ((4 : Int32))).toNatClampNeg) (by assumption) (by omega) (zz_isf_y (by assumption) (by omega)) (by omega)) (by omega)).mono (fun z hz => ?_)
        obtain ⟨y56_0, y56_1, y56_2, y56_3, y56_4, y56_5, y56_6, y56_7, y56_8, y56_9, y56_10, y56_11, y56_12, y56_13, y56_14⟩ := z
        have q57 : (y56_0.toInt = 0 ∨ y56_0.toInt = 1) := hz.1
        have q58 : zz_fgr (s5) x1.toInt x2.toInt y56_0.toInt := hz.2.1
        have q59 : y56_1 = s0 := hz.2.2.1
        have q60 : y56_2 = s1 := hz.2.2.2.1
        have q61 : y56_3 = s2 := hz.2.2.2.2.1
        have q62 : y56_4 = s3 := hz.2.2.2.2.2.1
        have q63 : y56_5 = s4 := hz.2.2.2.2.2.2.1
        have q64 : y56_6 = s5 := hz.2.2.2.2.2.2.2.1
        have q65 : y56_7 = s6 := hz.2.2.2.2.2.2.2.2.1
        have q66 : y56_8 = s7 := hz.2.2.2.2.2.2.2.2.2.1
        have q67 : y56_9 = s8 := hz.2.2.2.2.2.2.2.2.2.2.1
        have q68 : y56_10 = s9 := hz.2.2.2.2.2.2.2.2.2.2.2.1
        have q69 : y56_11 = s10 := hz.2.2.2.2.2.2.2.2.2.2.2.2.1
        have q70 : y56_12 = s11 := hz.2.2.2.2.2.2.2.2.2.2.2.2.2.1
        have q71 : y56_13 = s12 := hz.2.2.2.2.2.2.2.2.2.2.2.2.2.2.1
        have q72 : y56_14 = s13 := hz.2.2.2.2.2.2.2.2.2.2.2.2.2.2.2
        clear hz
        have e73 : s0 = y56_1 := q59.symm
        subst e73
        have e74 : s1 = y56_2 := q60.symm
        subst e74
        have e75 : s2 = y56_3 := q61.symm
        subst e75
        have e76 : s3 = y56_4 := q62.symm
        subst e76
        have e77 : s4 = y56_5 := q63.symm
        subst e77
        have e78 : s5 = y56_6 := q64.symm
        subst e78
        have e79 : s6 = y56_7 := q65.symm
        subst e79
        have e80 : s7 = y56_8 := q66.symm
        subst e80
        have e81 : s8 = y56_9 := q67.symm
        subst e81
        have e82 : s9 = y56_10 := q68.symm
        subst e82
        have e83 : s10 = y56_11 := q69.symm
        subst e83
        have e84 : s11 = y56_12 := q70.symm
        subst e84
        have e85 : s12 = y56_13 := q71.symm
        subst e85
        have e86 : s13 = y56_14 := q72.symm
        subst e86
        have g87 := zz_rg y56_0
        show (y56_0.toInt = 0 ∨ y56_0.toInt = 1) ∧ zz_fgr (s5) x1.toInt x2.toInt y56_0.toInt ∧ s0 = s0 ∧ s1 = s1 ∧ s2 = s2 ∧ s3 = s3 ∧ s4 = s4 ∧ s5 = s5 ∧ s6 = s6 ∧ s7 = s7 ∧ s8 = s8 ∧ s9 = s9 ∧ s10 = s10 ∧ s11 = s11 ∧ s12 = s12 ∧ s13 = s13
        exact ⟨q57, q58, rfl, rfl, rfl, rfl, rfl, rfl, rfl, rfl, rfl, rfl, rfl, rfl, rfl, rfl⟩
set_option maxHeartbeats 4000000 in
theorem gg_X2_areFree (K : Nat) (hK : 1099511627776 ≤ K) (T : Nat) (hT : T ≤ 900) (n0 : Nat) (n1 : Nat) (n2 : Nat) (n3 : Nat) (n4 : Nat) (n5 : Nat) (n6 : Nat) (p1 : Int32) (p2 : Int32) (s0 : Int32) (s1 : Int32) (s2 : Int32) (s3 : Int32) (s4 : Int32) (s5 : Nat → Int32) (s6 : Nat → Int32) (s7 : Nat → Int32) (s8 : Nat → Int32) (s9 : Nat → Int32) (s10 : Int32) (s11 : Int32) (s12 : Nat → Int32) (s13 : Nat → Int32) (a0 : n0 = 1024) (a1 : n1 = 200) (a2 : n2 = 200) (a3 : n3 = 200) (a4 : n4 = 200) (a5 : n5 = 512) (a6 : n6 = 512) (a7 : 0 ≤ s1.toInt) (a8 : s1.toInt ≤ 1024) (a9 : 0 ≤ s0.toInt) (a10 : 4 * s0.toInt ≤ s1.toInt) (a11 : 0 ≤ p1.toInt) (a12 : 0 ≤ p2.toInt) (a13 : 4 * (p1.toInt + p2.toInt) ≤ s1.toInt) : zz_ok (m_X2_areFree K n0 n1 n2 n3 n4 n5 n6 p1 p2 s0 s1 s2 s3 s4 s5 s6 s7 s8 s9 s10 s11 s12 s13) (fun z => (z.1.toInt = 0 ∨ z.1.toInt = 1) ∧ zz_fgr (s5) p1.toInt p2.toInt z.1.toInt ∧ z.2.1 = s0 ∧ z.2.2.1 = s1 ∧ z.2.2.2.1 = s2 ∧ z.2.2.2.2.1 = s3 ∧ z.2.2.2.2.2.1 = s4 ∧ z.2.2.2.2.2.2.1 = s5 ∧ z.2.2.2.2.2.2.2.1 = s6 ∧ z.2.2.2.2.2.2.2.2.1 = s7 ∧ z.2.2.2.2.2.2.2.2.2.1 = s8 ∧ z.2.2.2.2.2.2.2.2.2.2.1 = s9 ∧ z.2.2.2.2.2.2.2.2.2.2.2.1 = s10 ∧ z.2.2.2.2.2.2.2.2.2.2.2.2.1 = s11 ∧ z.2.2.2.2.2.2.2.2.2.2.2.2.2.1 = s12 ∧ z.2.2.2.2.2.2.2.2.2.2.2.2.2.2 = s13) := by
  have g1 := zz_rg p1
  have g2 := zz_rg p2
  have g3 := zz_rg s0
  have g4 := zz_rg s1
  have g5 := zz_rg s2
  have g6 := zz_rg s3
  have g7 := zz_rg s4
  have g8 := zz_rg s10
  have g9 := zz_rg s11
  unfold m_X2_areFree
  refine (gg_X2_areFree_L2 K hK T hT n0 n1 n2 n3 n4 n5 n6 K p1 p2 p1 s0 s1 s2 s3 s4 s5 s6 s7 s8 s9 s10 s11 s12 s13 a0 a1 a2 a3 a4 a5 a6 a7 a8 a9 a10 a11 a12 a13 (by omega) (by omega) (by exact zz_fgp_0 (by omega)) (by omega)).mono (fun z hz => ?_)
  obtain ⟨y10_0, y10_1, y10_2, y10_3, y10_4, y10_5, y10_6, y10_7, y10_8, y10_9, y10_10, y10_11, y10_12, y10_13, y10_14⟩ := z
  have q11 : (y10_0.toInt = 0 ∨ y10_0.toInt = 1) := hz.1
  have q12 : zz_fgr (s5) p1.toInt p2.toInt y10_0.toInt := hz.2.1
  have q13 : y10_1 = s0 := hz.2.2.1
  have q14 : y10_2 = s1 := hz.2.2.2.1
  have q15 : y10_3 = s2 := hz.2.2.2.2.1
  have q16 : y10_4 = s3 := hz.2.2.2.2.2.1
  have q17 : y10_5 = s4 := hz.2.2.2.2.2.2.1
  have q18 : y10_6 = s5 := hz.2.2.2.2.2.2.2.1
  have q19 : y10_7 = s6 := hz.2.2.2.2.2.2.2.2.1
  have q20 : y10_8 = s7 := hz.2.2.2.2.2.2.2.2.2.1
  have q21 : y10_9 = s8 := hz.2.2.2.2.2.2.2.2.2.2.1
  have q22 : y10_10 = s9 := hz.2.2.2.2.2.2.2.2.2.2.2.1
  have q23 : y10_11 = s10 := hz.2.2.2.2.2.2.2.2.2.2.2.2.1
  have q24 : y10_12 = s11 := hz.2.2.2.2.2.2.2.2.2.2.2.2.2.1
  have q25 : y10_13 = s12 := hz.2.2.2.2.2.2.2.2.2.2.2.2.2.2.1
  have q26 : y10_14 = s13 := hz.2.2.2.2.2.2.2.2.2.2.2.2.2.2.2
  clear hz
  have e27 : s0 = y10_1 := q13.symm
  subst e27
  have e28 : s1 = y10_2 := q14.symm
  subst e28
  have e29 : s2 = y10_3 := q15.symm
  subst e29
  have e30 : s3 = y10_4 := q16.symm
  subst e30
  have e31 : s4 = y10_5 := q17.symm
  subst e31
  have e32 : s5 = y10_6 := q18.symm
  subst e32
  have e33 : s6 = y10_7 := q19.symm
  subst e33
  have e34 : s7 = y10_8 := q20.symm
  subst e34
  have e35 : s8 = y10_9 := q21.symm
  subst e35
  have e36 : s9 = y10_10 := q22.symm
  subst e36
  have e37 : s10 = y10_11 := q23.symm
  subst e37
  have e38 : s11 = y10_12 := q24.symm
  subst e38
  have e39 : s12 = y10_13 := q25.symm
  subst e39
  have e40 : s13 = y10_14 := q26.symm
  subst e40
  have g41 := zz_rg y10_0
  show (y10_0.toInt = 0 ∨ y10_0.toInt = 1) ∧ zz_fgr (s5) p1.toInt p2.toInt y10_0.toInt ∧ s0 = s0 ∧ s1 = s1 ∧ s2 = s2 ∧ s3 = s3 ∧ s4 = s4 ∧ s5 = s5 ∧ s6 = s6 ∧ s7 = s7 ∧ s8 = s8 ∧ s9 = s9 ∧ s10 = s10 ∧ s11 = s11 ∧ s12 = s12 ∧ s13 = s13
  exact ⟨q11, q12, rfl, rfl, rfl, rfl, rfl, rfl, rfl, rfl, rfl, rfl, rfl, rfl, rfl, rfl⟩
set_option maxHeartbeats 4000000 in
theorem gg_X2_take_L17 (K : Nat) (hK : 1099511627776 ≤ K) (T : Nat) (hT : T ≤ 900) (n0 : Nat) (n1 : Nat) (n2 : Nat) (n3 : Nat) (n4 : Nat) (n5 : Nat) (n6 : Nat) : ∀ (k : Nat) (x1 : Int32) (x2 : Int32) (x3 : Int32) (x4 : Int32) (s0 : Int32) (s1 : Int32) (s2 : Int32) (s3 : Int32) (s4 : Int32) (s5 : Nat → Int32) (s6 : Nat → Int32) (s7 : Nat → Int32) (s8 : Nat → Int32) (s9 : Nat → Int32) (s10 : Int32) (s11 : Int32) (s12 : Nat → Int32) (s13 : Nat → Int32), n0 = 1024 → n1 = 200 → n2 = 200 → n3 = 200 → n4 = 200 → n5 = 512 → n6 = 512 → 0 ≤ s1.toInt → s1.toInt ≤ 1024 → 0 ≤ s0.toInt → 4 * s0.toInt ≤ s1.toInt → 1 ≤ x2.toInt → x2.toInt ≤ 256 → 1 ≤ x3.toInt → x3.toInt ≤ 8 → 0 ≤ x4.toInt → x4.toInt ≤ 2000 → 3000 - x4.toInt < (k : Int) → zz_ok (m_X2_take_L17 K n0 n1 n2 n3 n4 n5 n6 k x1 x2 x3 x4 s0 s1 s2 s3 s4 s5 s6 s7 s8 s9 s10 s11 s12 s13) (fun z => zz_s4 (fun k => zz_fg (s5) k x2.toInt) x3.toInt (s0.toInt - x2.toInt) x4.toInt z.1.toInt ∧ -1 ≤ z.1.toInt ∧ z.2.1 = s0 ∧ z.2.2.1 = s1 ∧ z.2.2.2.1 = s2 ∧ z.2.2.2.2.1 = s3 ∧ z.2.2.2.2.2.2.1 = s5 ∧ z.2.2.2.2.2.2.2.1 = s6 ∧ z.2.2.2.2.2.2.2.2.1 = s7 ∧ z.2.2.2.2.2.2.2.2.2.1 = s8 ∧ z.2.2.2.2.2.2.2.2.2.2.1 = s9 ∧ z.2.2.2.2.2.2.2.2.2.2.2.1 = s10 ∧ z.2.2.2.2.2.2.2.2.2.2.2.2.1 = s11 ∧ z.2.2.2.2.2.2.2.2.2.2.2.2.2.1 = s12 ∧ z.2.2.2.2.2.2.2.2.2.2.2.2.2.2 = s13) := by
  intro k
  induction k with
  | zero =>
    intro x1 x2 x3 x4 s0 s1 s2 s3 s4 s5 s6 s7 s8 s9 s10 s11 s12 s13 a0 a1 a2 a3 a4 a5 a6 a7 a8 a9 a10 a11 a12 a13 a14 a15 a16 hz9
    exfalso
    have g_x1 := zz_rg x1
    have g_x2 := zz_rg x2
    have g_x3 := zz_rg x3
    have g_x4 := zz_rg x4
    have g_s0 := zz_rg s0
    have g_s1 := zz_rg s1
    have g_s2 := zz_rg s2
    have g_s3 := zz_rg s3
    have g_s4 := zz_rg s4
    have g_s10 := zz_rg s10
    have g_s11 := zz_rg s11
    omega
  | succ k ih =>
    intro x1 x2 x3 x4 s0 s1 s2 s3 s4 s5 s6 s7 s8 s9 s10 s11 s12 s13 a0 a1 a2 a3 a4 a5 a6 a7 a8 a9 a10 a11 a12 a13 a14 a15 a16 hz9
    rw [m_X2_take_L17_s]
    have g1 := zz_rg x1
    have g2 := zz_rg x2
    have g3 := zz_rg x3
    have g4 := zz_rg x4
    have g5 := zz_rg s0
    have g6 := zz_rg s1
    have g7 := zz_rg s2
    have g8 := zz_rg s3
    have g9 := zz_rg s4
    have g10 := zz_rg s10
    have g11 := zz_rg s11
    obtain ⟨k13, f14⟩ := zz_add x4 x2
    have g15 := zz_rg (x4 + x2)
    refine zz_ok_ite (fun c12 => ?_) (fun c12 => ?_)
    · have c12 := Int32.lt_iff_toInt_lt.mp c12
      have l16 : (-1 : Int32).toInt = -1 := rfl
      refine zz_ok_some ?_
      show zz_s4 (fun k => zz_fg (s5) k x2.toInt) x3.toInt (s0.toInt - x2.toInt) x4.toInt (-1 : Int32).toInt ∧ -1 ≤ (-1 : Int32).toInt ∧ s0 = s0 ∧ s1 = s1 ∧ s2 = s2 ∧ s3 = s3 ∧ s5 = s5 ∧ s6 = s6 ∧ s7 = s7 ∧ s8 = s8 ∧ s9 = s9 ∧ s10 = s10 ∧ s11 = s11 ∧ s12 = s12 ∧ s13 = s13
      exact ⟨(by first | exact zz_s4_end (by omega) (by omega) (by first | omega | decide) | exact zz_s4_hit (by omega) (zz_fgr_1 (by assumption) (by omega)) (by omega) | exact zz_s4_next (by assumption) (by omega) (zz_fgr_0 (by assumption) (by omega))), (by omega), rfl, rfl, rfl, rfl, rfl, rfl, rfl, rfl, rfl, rfl, rfl, rfl, rfl⟩
    · have c12 := zz_nlt c12
      have l17 : (1 : Int32).toInt = 1 := rfl
      refine zz_ok_bind (ff_X7_addLooked K hK T hT n0 n1 n2 n3 n4 n5 n6 ((1 : Int32)) s1 s2 s3 s4 s5 s6 s7 s8 s9 s10 s11 s12 s13) ?_
      intro z18 hz18
      obtain ⟨t_3_0, t_3_1, t_3_2, t_3_3, t_3_4, t_3_5, t_3_6, t_3_7, t_3_8, t_3_9, t_3_10, t_3_11, t_3_12⟩ := z18
      have q19 : t_3_0 = s1 := hz18.1
      have q20 : t_3_1 = s2 := hz18.2.1
      have q21 : t_3_2 = s3 := hz18.2.2.1
      have q22 : t_3_4 = s5 := hz18.2.2.2.1
      have q23 : t_3_5 = s6 := hz18.2.2.2.2.1
      have q24 : t_3_6 = s7 := hz18.2.2.2.2.2.1
      have q25 : t_3_7 = s8 := hz18.2.2.2.2.2.2.1
      have q26 : t_3_8 = s9 := hz18.2.2.2.2.2.2.2.1
      have q27 : t_3_9 = s10 := hz18.2.2.2.2.2.2.2.2.1
      have q28 : t_3_10 = s11 := hz18.2.2.2.2.2.2.2.2.2.1
      have q29 : t_3_11 = s12 := hz18.2.2.2.2.2.2.2.2.2.2.1
      have q30 : t_3_12 = s13 := hz18.2.2.2.2.2.2.2.2.2.2.2
      clear hz18
      have e31 : s1 = t_3_0 := q19.symm
      subst e31
      have e32 : s2 = t_3_1 := q20.symm
      subst e32
      have e33 : s3 = t_3_2 := q21.symm
      subst e33
      have e34 : s5 = t_3_4 := q22.symm
      subst e34
      have e35 : s6 = t_3_5 := q23.symm
      subst e35
      have e36 : s7 = t_3_6 := q24.symm
      subst e36
      have e37 : s8 = t_3_7 := q25.symm
      subst e37
      have e38 : s9 = t_3_8 := q26.symm
      subst e38
      have e39 : s10 = t_3_9 := q27.symm
      subst e39
      have e40 : s11 = t_3_10 := q28.symm
      subst e40
      have e41 : s12 = t_3_11 := q29.symm
      subst e41
      have e42 : s13 = t_3_12 := q30.symm
      subst e42
      have g43 := zz_rg t_3_3
      show zz_ok ((m_X2_areFree K n0 n1 n2 n3 n4 n5 n6 x4 x2 s0 s1 s2 s3 t_3_3 s5 s6 s7 s8 s9 s10 s11 s12 s13).bind fun ⟨r_4, t_4_0, t_4_1, t_4_2, t_4_3, t_4_4, t_4_5, t_4_6, t_4_7, t_4_8, t_4_9, t_4_10, t_4_11, t_4_12, t_4_13⟩ => if r_4 = 0 then (m_X2_take_L17 K n0 n1 n2 n3 n4 n5 n6 k x1 x2 x3 (x4 + x3) t_4_0 t_4_1 t_4_2 t_4_3 t_4_4 t_4_5 t_4_6 t_4_7 t_4_8 t_4_9 t_4_10 t_4_11 t_4_12 t_4_13) else (some (x4 * ((4 : Int32)), t_4_0, t_4_1, t_4_2, t_4_3, t_4_4, t_4_5, t_4_6, t_4_7, t_4_8, t_4_9, t_4_10, t_4_11, t_4_12, t_4_13))) _
      refine zz_ok_bind (gg_X2_areFree K hK T hT n0 n1 n2 n3 n4 n5 n6 x4 x2 s0 s1 s2 s3 t_3_3 s5 s6 s7 s8 s9 s10 s11 s12 s13 a0 a1 a2 a3 a4 a5 a6 a7 a8 a9 a10 a15 (by omega) (by omega)) ?_
      intro z44 hz44
      obtain ⟨r_4, t_4_0, t_4_1, t_4_2, t_4_3, t_4_4, t_4_5, t_4_6, t_4_7, t_4_8, t_4_9, t_4_10, t_4_11, t_4_12, t_4_13⟩ := z44
      have q45 : (r_4.toInt = 0 ∨ r_4.toInt = 1) := hz44.1
      have q46 : zz_fgr (s5) x4.toInt x2.toInt r_4.toInt := hz44.2.1
      have q47 : t_4_0 = s0 := hz44.2.2.1
      have q48 : t_4_1 = s1 := hz44.2.2.2.1
      have q49 : t_4_2 = s2 := hz44.2.2.2.2.1
      have q50 : t_4_3 = s3 := hz44.2.2.2.2.2.1
      have q51 : t_4_4 = t_3_3 := hz44.2.2.2.2.2.2.1
      have q52 : t_4_5 = s5 := hz44.2.2.2.2.2.2.2.1
      have q53 : t_4_6 = s6 := hz44.2.2.2.2.2.2.2.2.1
      have q54 : t_4_7 = s7 := hz44.2.2.2.2.2.2.2.2.2.1
      have q55 : t_4_8 = s8 := hz44.2.2.2.2.2.2.2.2.2.2.1
      have q56 : t_4_9 = s9 := hz44.2.2.2.2.2.2.2.2.2.2.2.1
      have q57 : t_4_10 = s10 := hz44.2.2.2.2.2.2.2.2.2.2.2.2.1
      have q58 : t_4_11 = s11 := hz44.2.2.2.2.2.2.2.2.2.2.2.2.2.1
      have q59 : t_4_12 = s12 := hz44.2.2.2.2.2.2.2.2.2.2.2.2.2.2.1
      have q60 : t_4_13 = s13 := hz44.2.2.2.2.2.2.2.2.2.2.2.2.2.2.2
      clear hz44
      have e61 : s0 = t_4_0 := q47.symm
      subst e61
      have e62 : s1 = t_4_1 := q48.symm
      subst e62
      have e63 : s2 = t_4_2 := q49.symm
      subst e63
      have e64 : s3 = t_4_3 := q50.symm
      subst e64
      have e65 : t_3_3 = t_4_4 := q51.symm
      subst e65
      have e66 : s5 = t_4_5 := q52.symm
      subst e66
      have e67 : s6 = t_4_6 := q53.symm
      subst e67
      have e68 : s7 = t_4_7 := q54.symm
      subst e68
      have e69 : s8 = t_4_8 := q55.symm
      subst e69
      have e70 : s9 = t_4_9 := q56.symm
      subst e70
      have e71 : s10 = t_4_10 := q57.symm
      subst e71
      have e72 : s11 = t_4_11 := q58.symm
      subst e72
      have e73 : s12 = t_4_12 := q59.symm
      subst e73
      have e74 : s13 = t_4_13 := q60.symm
      subst e74
      have g75 := zz_rg r_4
      show zz_ok (if r_4 = 0 then (m_X2_take_L17 K n0 n1 n2 n3 n4 n5 n6 k x1 x2 x3 (x4 + x3) s0 s1 s2 s3 t_3_3 s5 s6 s7 s8 s9 s10 s11 s12 s13) else (some (x4 * ((4 : Int32)), s0, s1, s2, s3, t_3_3, s5, s6, s7, s8, s9, s10, s11, s12, s13))) _
      have l77 : (0 : Int32).toInt = 0 := rfl
      refine zz_ok_ite (fun c76 => ?_) (fun c76 => ?_)
      · have c76 := congrArg Int32.toInt c76
        obtain ⟨k78, f79⟩ := zz_add x4 x3
        have g80 := zz_rg (x4 + x3)
        refine (ih x1 x2 x3 (x4 + x3) s0 s1 s2 s3 t_3_3 s5 s6 s7 s8 s9 s10 s11 s12 s13 a0 a1 a2 a3 a4 a5 a6 a7 a8 a9 a10 a11 a12 a13 a14 (by omega) (by omega) (by omega)).mono (fun z hz => ?_)
        obtain ⟨y81_0, y81_1, y81_2, y81_3, y81_4, y81_5, y81_6, y81_7, y81_8, y81_9, y81_10, y81_11, y81_12, y81_13, y81_14⟩ := z
        have q82 : zz_s4 (fun k => zz_fg (s5) k x2.toInt) x3.toInt (s0.toInt - x2.toInt) (x4 + x3).toInt y81_0.toInt := hz.1
        have q83 : -1 ≤ y81_0.toInt := hz.2.1
        have q84 : y81_1 = s0 := hz.2.2.1
        have q85 : y81_2 = s1 := hz.2.2.2.1
        have q86 : y81_3 = s2 := hz.2.2.2.2.1
        have q87 : y81_4 = s3 := hz.2.2.2.2.2.1
        have q88 : y81_6 = s5 := hz.2.2.2.2.2.2.1
        have q89 : y81_7 = s6 := hz.2.2.2.2.2.2.2.1
        have q90 : y81_8 = s7 := hz.2.2.2.2.2.2.2.2.1
        have q91 : y81_9 = s8 := hz.2.2.2.2.2.2.2.2.2.1
        have q92 : y81_10 = s9 := hz.2.2.2.2.2.2.2.2.2.2.1
        have q93 : y81_11 = s10 := hz.2.2.2.2.2.2.2.2.2.2.2.1
        have q94 : y81_12 = s11 := hz.2.2.2.2.2.2.2.2.2.2.2.2.1
        have q95 : y81_13 = s12 := hz.2.2.2.2.2.2.2.2.2.2.2.2.2.1
        have q96 : y81_14 = s13 := hz.2.2.2.2.2.2.2.2.2.2.2.2.2.2
        clear hz
        have e97 : s0 = y81_1 := q84.symm
        subst e97
        have e98 : s1 = y81_2 := q85.symm
        subst e98
        have e99 : s2 = y81_3 := q86.symm
        subst e99
        have e100 : s3 = y81_4 := q87.symm
        subst e100
        have e101 : s5 = y81_6 := q88.symm
        subst e101
        have e102 : s6 = y81_7 := q89.symm
        subst e102
        have e103 : s7 = y81_8 := q90.symm
        subst e103
        have e104 : s8 = y81_9 := q91.symm
        subst e104
        have e105 : s9 = y81_10 := q92.symm
        subst e105
        have e106 : s10 = y81_11 := q93.symm
        subst e106
        have e107 : s11 = y81_12 := q94.symm
        subst e107
        have e108 : s12 = y81_13 := q95.symm
        subst e108
        have e109 : s13 = y81_14 := q96.symm
        subst e109
        have g110 := zz_rg y81_0
        have g111 := zz_rg y81_5
        show zz_s4 (fun k => zz_fg (s5) k x2.toInt) x3.toInt (s0.toInt - x2.toInt) x4.toInt y81_0.toInt ∧ -1 ≤ y81_0.toInt ∧ s0 = s0 ∧ s1 = s1 ∧ s2 = s2 ∧ s3 = s3 ∧ s5 = s5 ∧ s6 = s6 ∧ s7 = s7 ∧ s8 = s8 ∧ s9 = s9 ∧ s10 = s10 ∧ s11 = s11 ∧ s12 = s12 ∧ s13 = s13
        exact ⟨(by first | exact zz_s4_end (by omega) (by omega) (by first | omega | decide) | exact zz_s4_hit (by omega) (zz_fgr_1 (by assumption) (by omega)) (by omega) | exact zz_s4_next (by assumption) (by omega) (zz_fgr_0 (by assumption) (by omega))), q83, rfl, rfl, rfl, rfl, rfl, rfl, rfl, rfl, rfl, rfl, rfl, rfl, rfl⟩
      · have c76 := zz_neq c76
        have l112 : (4 : Int32).toInt = 4 := rfl
        obtain ⟨k113, f114⟩ := zz_mul x4 (4 : Int32)
        rw [show (4 : Int32).toInt = 4 from rfl] at f114
        have g115 := zz_rg (x4 * ((4 : Int32)))
        refine zz_ok_some ?_
        show zz_s4 (fun k => zz_fg (s5) k x2.toInt) x3.toInt (s0.toInt - x2.toInt) x4.toInt (x4 * ((4 : Int32))).toInt ∧ -1 ≤ (x4 * ((4 : Int32))).toInt ∧ s0 = s0 ∧ s1 = s1 ∧ s2 = s2 ∧ s3 = s3 ∧ s5 = s5 ∧ s6 = s6 ∧ s7 = s7 ∧ s8 = s8 ∧ s9 = s9 ∧ s10 = s10 ∧ s11 = s11 ∧ s12 = s12 ∧ s13 = s13
        exact ⟨(by first | exact zz_s4_end (by omega) (by omega) (by first | omega | decide) | exact zz_s4_hit (by omega) (zz_fgr_1 (by assumption) (by omega)) (by omega) | exact zz_s4_next (by assumption) (by omega) (zz_fgr_0 (by assumption) (by omega))), (by omega), rfl, rfl, rfl, rfl, rfl, rfl, rfl, rfl, rfl, rfl, rfl, rfl, rfl⟩
set_option maxHeartbeats 4000000 in
theorem gg_X2_take (K : Nat) (hK : 1099511627776 ≤ K) (T : Nat) (hT : T ≤ 900) (n0 : Nat) (n1 : Nat) (n2 : Nat) (n3 : Nat) (n4 : Nat) (n5 : Nat) (n6 : Nat) (p1 : Int32) (s0 : Int32) (s1 : Int32) (s2 : Int32) (s3 : Int32) (s4 : Int32) (s5 : Nat → Int32) (s6 : Nat → Int32) (s7 : Nat → Int32) (s8 : Nat → Int32) (s9 : Nat → Int32) (s10 : Int32) (s11 : Int32) (s12 : Nat → Int32) (s13 : Nat → Int32) (a0 : n0 = 1024) (a1 : n1 = 200) (a2 : n2 = 200) (a3 : n3 = 200) (a4 : n4 = 200) (a5 : n5 = 512) (a6 : n6 = 512) (a7 : 0 ≤ s1.toInt) (a8 : s1.toInt ≤ 1024) (a9 : 0 ≤ s0.toInt) (a10 : 4 * s0.toInt ≤ s1.toInt) (a11 : 4 ≤ p1.toInt) (a12 : p1.toInt ≤ 1024) (a13 : p1.toInt % 4 = 0) : zz_ok (m_X2_take K n0 n1 n2 n3 n4 n5 n6 p1 s0 s1 s2 s3 s4 s5 s6 s7 s8 s9 s10 s11 s12 s13) (fun z => zz_g6 (s5) s0.toInt p1.toInt z.1.toInt ∧ -1 ≤ z.1.toInt ∧ z.2.1 = s0 ∧ z.2.2.1 = s1 ∧ z.2.2.2.1 = s2 ∧ z.2.2.2.2.1 = s3 ∧ z.2.2.2.2.2.2.1 = s5 ∧ z.2.2.2.2.2.2.2.1 = s6 ∧ z.2.2.2.2.2.2.2.2.1 = s7 ∧ z.2.2.2.2.2.2.2.2.2.1 = s8 ∧ z.2.2.2.2.2.2.2.2.2.2.1 = s9 ∧ z.2.2.2.2.2.2.2.2.2.2.2.1 = s10 ∧ z.2.2.2.2.2.2.2.2.2.2.2.2.1 = s11 ∧ z.2.2.2.2.2.2.2.2.2.2.2.2.2.1 = s12 ∧ z.2.2.2.2.2.2.2.2.2.2.2.2.2.2 = s13) := by
  have g1 := zz_rg p1
  have g2 := zz_rg s0
  have g3 := zz_rg s1
  have g4 := zz_rg s2
  have g5 := zz_rg s3
  have g6 := zz_rg s4
  have g7 := zz_rg s10
  have g8 := zz_rg s11
  unfold m_X2_take
  have l9 : (4 : Int32).toInt = 4 := rfl
  try have f10 := zz_divP p1 (4 : Int32) 4 rfl (by decide) (by omega)
  have f11 := zz_divB p1 (4 : Int32) 4 rfl (by decide)
  have g12 := zz_rg (p1 / ((4 : Int32)))
  refine zz_ok_bind (gg_X11_powerFrom K hK T hT (p1 / ((4 : Int32))) (by omega) (by omega)) ?_
  intro z13 hz13
  obtain ⟨r_1, _⟩ := z13
  have q14 : zz_lpw (p1 / ((4 : Int32))).toInt r_1.toInt := hz13
  clear hz13
  have g15 := zz_rg r_1
  have pw9 := zz_lpw_rg (by assumption : zz_lpw _ r_1.toInt)
  show zz_ok (m_X2_take_L17 K n0 n1 n2 n3 n4 n5 n6 K p1 (p1 / ((4 : Int32))) (zz_min r_1 ((8 : Int32))) ((0 : Int32)) s0 s1 s2 s3 s4 s5 s6 s7 s8 s9 s10 s11 s12 s13) _
  have l16 : (8 : Int32).toInt = 8 := rfl
  have f17 := zz_minF r_1 (8 : Int32)
  have g18 := zz_rg (zz_min r_1 ((8 : Int32)))
  have l19 : (0 : Int32).toInt = 0 := rfl
  refine (gg_X2_take_L17 K hK T hT n0 n1 n2 n3 n4 n5 n6 K p1 (p1 / ((4 : Int32))) (zz_min r_1 ((8 : Int32))) ((0 : Int32)) s0 s1 s2 s3 s4 s5 s6 s7 s8 s9 s10 s11 s12 s13 a0 a1 a2 a3 a4 a5 a6 a7 a8 a9 a10 (by omega) (by omega) (by omega) (by omega) (by omega) (by omega) (by omega)).mono (fun z hz => ?_)
  obtain ⟨y20_0, y20_1, y20_2, y20_3, y20_4, y20_5, y20_6, y20_7, y20_8, y20_9, y20_10, y20_11, y20_12, y20_13, y20_14⟩ := z
  have q21 : zz_s4 (fun k => zz_fg (s5) k (p1 / ((4 : Int32))).toInt) (zz_min r_1 ((8 : Int32))).toInt (s0.toInt - (p1 / ((4 : Int32))).toInt) ((0 : Int32)).toInt y20_0.toInt := hz.1
  have q22 : -1 ≤ y20_0.toInt := hz.2.1
  have q23 : y20_1 = s0 := hz.2.2.1
  have q24 : y20_2 = s1 := hz.2.2.2.1
  have q25 : y20_3 = s2 := hz.2.2.2.2.1
  have q26 : y20_4 = s3 := hz.2.2.2.2.2.1
  have q27 : y20_6 = s5 := hz.2.2.2.2.2.2.1
  have q28 : y20_7 = s6 := hz.2.2.2.2.2.2.2.1
  have q29 : y20_8 = s7 := hz.2.2.2.2.2.2.2.2.1
  have q30 : y20_9 = s8 := hz.2.2.2.2.2.2.2.2.2.1
  have q31 : y20_10 = s9 := hz.2.2.2.2.2.2.2.2.2.2.1
  have q32 : y20_11 = s10 := hz.2.2.2.2.2.2.2.2.2.2.2.1
  have q33 : y20_12 = s11 := hz.2.2.2.2.2.2.2.2.2.2.2.2.1
  have q34 : y20_13 = s12 := hz.2.2.2.2.2.2.2.2.2.2.2.2.2.1
  have q35 : y20_14 = s13 := hz.2.2.2.2.2.2.2.2.2.2.2.2.2.2
  clear hz
  have e36 : s0 = y20_1 := q23.symm
  subst e36
  have e37 : s1 = y20_2 := q24.symm
  subst e37
  have e38 : s2 = y20_3 := q25.symm
  subst e38
  have e39 : s3 = y20_4 := q26.symm
  subst e39
  have e40 : s5 = y20_6 := q27.symm
  subst e40
  have e41 : s6 = y20_7 := q28.symm
  subst e41
  have e42 : s7 = y20_8 := q29.symm
  subst e42
  have e43 : s8 = y20_9 := q30.symm
  subst e43
  have e44 : s9 = y20_10 := q31.symm
  subst e44
  have e45 : s10 = y20_11 := q32.symm
  subst e45
  have e46 : s11 = y20_12 := q33.symm
  subst e46
  have e47 : s12 = y20_13 := q34.symm
  subst e47
  have e48 : s13 = y20_14 := q35.symm
  subst e48
  have g49 := zz_rg y20_0
  have g50 := zz_rg y20_5
  show zz_g6 (s5) s0.toInt p1.toInt y20_0.toInt ∧ -1 ≤ y20_0.toInt ∧ s0 = s0 ∧ s1 = s1 ∧ s2 = s2 ∧ s3 = s3 ∧ s5 = s5 ∧ s6 = s6 ∧ s7 = s7 ∧ s8 = s8 ∧ s9 = s9 ∧ s10 = s10 ∧ s11 = s11 ∧ s12 = s12 ∧ s13 = s13
  exact ⟨(by exact zz_g6_mk (by assumption) (by assumption) (by first | omega | decide) (by omega) (by omega)), q22, rfl, rfl, rfl, rfl, rfl, rfl, rfl, rfl, rfl, rfl, rfl, rfl, rfl⟩
set_option maxHeartbeats 4000000 in
theorem gg_X9_begin (K : Nat) (hK : 1099511627776 ≤ K) (T : Nat) (hT : T ≤ 900) (n0 : Nat) (n1 : Nat) (n2 : Nat) (n3 : Nat) (n4 : Nat) (n5 : Nat) (n6 : Nat) (s0 : Int32) (s1 : Int32) (s2 : Int32) (s3 : Int32) (s4 : Int32) (s5 : Nat → Int32) (s6 : Nat → Int32) (s7 : Nat → Int32) (s8 : Nat → Int32) (s9 : Nat → Int32) (s10 : Int32) (s11 : Int32) (s12 : Nat → Int32) (s13 : Nat → Int32) : zz_ok (m_X9_begin K n0 n1 n2 n3 n4 n5 n6 s0 s1 s2 s3 s4 s5 s6 s7 s8 s9 s10 s11 s12 s13) (fun z => z.1.toInt = 0 ∧ z.2.1 = s1 ∧ z.2.2.1 = s2 ∧ z.2.2.2.1 = s3 ∧ z.2.2.2.2.1 = s4 ∧ z.2.2.2.2.2.1 = s5 ∧ z.2.2.2.2.2.2.1 = s6 ∧ z.2.2.2.2.2.2.2.1 = s7 ∧ z.2.2.2.2.2.2.2.2.1 = s8 ∧ z.2.2.2.2.2.2.2.2.2.1 = s9 ∧ z.2.2.2.2.2.2.2.2.2.2.1 = s10 ∧ z.2.2.2.2.2.2.2.2.2.2.2.1 = s11 ∧ z.2.2.2.2.2.2.2.2.2.2.2.2.1 = s12 ∧ z.2.2.2.2.2.2.2.2.2.2.2.2.2 = s13) := by
  have g1 := zz_rg s0
  have g2 := zz_rg s1
  have g3 := zz_rg s2
  have g4 := zz_rg s3
  have g5 := zz_rg s4
  have g6 := zz_rg s10
  have g7 := zz_rg s11
  unfold m_X9_begin
  have l8 : (0 : Int32).toInt = 0 := rfl
  refine zz_ok_some ?_
  show (0 : Int32).toInt = 0 ∧ s1 = s1 ∧ s2 = s2 ∧ s3 = s3 ∧ s4 = s4 ∧ s5 = s5 ∧ s6 = s6 ∧ s7 = s7 ∧ s8 = s8 ∧ s9 = s9 ∧ s10 = s10 ∧ s11 = s11 ∧ s12 = s12 ∧ s13 = s13
  exact ⟨(by omega), rfl, rfl, rfl, rfl, rfl, rfl, rfl, rfl, rfl, rfl, rfl, rfl, rfl⟩
set_option maxHeartbeats 4000000 in
theorem gg_X9_top (K : Nat) (hK : 1099511627776 ≤ K) (T : Nat) (hT : T ≤ 900) (n0 : Nat) (n1 : Nat) (n2 : Nat) (n3 : Nat) (n4 : Nat) (n5 : Nat) (n6 : Nat) (s0 : Int32) (s1 : Int32) (s2 : Int32) (s3 : Int32) (s4 : Int32) (s5 : Nat → Int32) (s6 : Nat → Int32) (s7 : Nat → Int32) (s8 : Nat → Int32) (s9 : Nat → Int32) (s10 : Int32) (s11 : Int32) (s12 : Nat → Int32) (s13 : Nat → Int32) : zz_ok (m_X9_top K n0 n1 n2 n3 n4 n5 n6 s0 s1 s2 s3 s4 s5 s6 s7 s8 s9 s10 s11 s12 s13) (fun z => z.1 = s0 ∧ z.2.1 = s0 ∧ z.2.2.1 = s1 ∧ z.2.2.2.1 = s2 ∧ z.2.2.2.2.1 = s3 ∧ z.2.2.2.2.2.1 = s4 ∧ z.2.2.2.2.2.2.1 = s5 ∧ z.2.2.2.2.2.2.2.1 = s6 ∧ z.2.2.2.2.2.2.2.2.1 = s7 ∧ z.2.2.2.2.2.2.2.2.2.1 = s8 ∧ z.2.2.2.2.2.2.2.2.2.2.1 = s9 ∧ z.2.2.2.2.2.2.2.2.2.2.2.1 = s10 ∧ z.2.2.2.2.2.2.2.2.2.2.2.2.1 = s11 ∧ z.2.2.2.2.2.2.2.2.2.2.2.2.2.1 = s12 ∧ z.2.2.2.2.2.2.2.2.2.2.2.2.2.2 = s13) := by
  have g1 := zz_rg s0
  have g2 := zz_rg s1
  have g3 := zz_rg s2
  have g4 := zz_rg s3
  have g5 := zz_rg s4
  have g6 := zz_rg s10
  have g7 := zz_rg s11
  unfold m_X9_top
  refine zz_ok_some ?_
  show s0 = s0 ∧ s0 = s0 ∧ s1 = s1 ∧ s2 = s2 ∧ s3 = s3 ∧ s4 = s4 ∧ s5 = s5 ∧ s6 = s6 ∧ s7 = s7 ∧ s8 = s8 ∧ s9 = s9 ∧ s10 = s10 ∧ s11 = s11 ∧ s12 = s12 ∧ s13 = s13
  exact ⟨rfl, rfl, rfl, rfl, rfl, rfl, rfl, rfl, rfl, rfl, rfl, rfl, rfl, rfl, rfl⟩
set_option maxHeartbeats 4000000 in
theorem gg_X9_take (K : Nat) (hK : 1099511627776 ≤ K) (T : Nat) (hT : T ≤ 900) (n0 : Nat) (n1 : Nat) (n2 : Nat) (n3 : Nat) (n4 : Nat) (n5 : Nat) (n6 : Nat) (p1 : Int32) (s0 : Int32) (s1 : Int32) (s2 : Int32) (s3 : Int32) (s4 : Int32) (s5 : Nat → Int32) (s6 : Nat → Int32) (s7 : Nat → Int32) (s8 : Nat → Int32) (s9 : Nat → Int32) (s10 : Int32) (s11 : Int32) (s12 : Nat → Int32) (s13 : Nat → Int32) (a0 : n0 = 1024) (a1 : n1 = 200) (a2 : n2 = 200) (a3 : n3 = 200) (a4 : n4 = 200) (a5 : n5 = 512) (a6 : n6 = 512) (a7 : 0 ≤ s1.toInt) (a8 : s1.toInt ≤ 1024) (a9 : 0 ≤ s0.toInt) (a10 : s0.toInt ≤ s1.toInt) (a11 : 1 ≤ p1.toInt) (a12 : p1.toInt ≤ 1024) : zz_ok (m_X9_take K n0 n1 n2 n3 n4 n5 n6 p1 s0 s1 s2 s3 s4 s5 s6 s7 s8 s9 s10 s11 s12 s13) (fun z => ((s1.toInt - s0.toInt < p1.toInt ∧ z.1.toInt = -1 ∧ z.2.1.toInt = s0.toInt) ∨ (p1.toInt ≤ s1.toInt - s0.toInt ∧ z.1.toInt = s0.toInt ∧ z.2.1.toInt = s0.toInt + p1.toInt)) ∧ z.2.2.1 = s1 ∧ z.2.2.2.1 = s2 ∧ z.2.2.2.2.1 = s3 ∧ z.2.2.2.2.2.2.1 = s5 ∧ z.2.2.2.2.2.2.2.1 = s6 ∧ z.2.2.2.2.2.2.2.2.1 = s7 ∧ z.2.2.2.2.2.2.2.2.2.1 = s8 ∧ z.2.2.2.2.2.2.2.2.2.2.1 = s9 ∧ z.2.2.2.2.2.2.2.2.2.2.2.1 = s10 ∧ z.2.2.2.2.2.2.2.2.2.2.2.2.1 = s11 ∧ z.2.2.2.2.2.2.2.2.2.2.2.2.2.1 = s12 ∧ z.2.2.2.2.2.2.2.2.2.2.2.2.2.2 = s13) := by
  have g1 := zz_rg p1
  have g2 := zz_rg s0
  have g3 := zz_rg s1
  have g4 := zz_rg s2
  have g5 := zz_rg s3
  have g6 := zz_rg s4
  have g7 := zz_rg s10
  have g8 := zz_rg s11
  unfold m_X9_take
  have l9 : (1 : Int32).toInt = 1 := rfl
  refine zz_ok_bind (ff_X7_addLooked K hK T hT n0 n1 n2 n3 n4 n5 n6 ((1 : Int32)) s1 s2 s3 s4 s5 s6 s7 s8 s9 s10 s11 s12 s13) ?_
  intro z10 hz10
  obtain ⟨t_1_0, t_1_1, t_1_2, t_1_3, t_1_4, t_1_5, t_1_6, t_1_7, t_1_8, t_1_9, t_1_10, t_1_11, t_1_12⟩ := z10
  have q11 : t_1_0 = s1 := hz10.1
  have q12 : t_1_1 = s2 := hz10.2.1
  have q13 : t_1_2 = s3 := hz10.2.2.1
  have q14 : t_1_4 = s5 := hz10.2.2.2.1
  have q15 : t_1_5 = s6 := hz10.2.2.2.2.1
  have q16 : t_1_6 = s7 := hz10.2.2.2.2.2.1
  have q17 : t_1_7 = s8 := hz10.2.2.2.2.2.2.1
  have q18 : t_1_8 = s9 := hz10.2.2.2.2.2.2.2.1
  have q19 : t_1_9 = s10 := hz10.2.2.2.2.2.2.2.2.1
  have q20 : t_1_10 = s11 := hz10.2.2.2.2.2.2.2.2.2.1
  have q21 : t_1_11 = s12 := hz10.2.2.2.2.2.2.2.2.2.2.1
  have q22 : t_1_12 = s13 := hz10.2.2.2.2.2.2.2.2.2.2.2
  clear hz10
  have e23 : s1 = t_1_0 := q11.symm
  subst e23
  have e24 : s2 = t_1_1 := q12.symm
  subst e24
  have e25 : s3 = t_1_2 := q13.symm
  subst e25
  have e26 : s5 = t_1_4 := q14.symm
  subst e26
  have e27 : s6 = t_1_5 := q15.symm
  subst e27
  have e28 : s7 = t_1_6 := q16.symm
  subst e28
  have e29 : s8 = t_1_7 := q17.symm
  subst e29
  have e30 : s9 = t_1_8 := q18.symm
  subst e30
  have e31 : s10 = t_1_9 := q19.symm
  subst e31
  have e32 : s11 = t_1_10 := q20.symm
  subst e32
  have e33 : s12 = t_1_11 := q21.symm
  subst e33
  have e34 : s13 = t_1_12 := q22.symm
  subst e34
  have g35 := zz_rg t_1_3
  show zz_ok ((m_X7_words K n0 n1 n2 n3 n4 n5 n6 s1 s2 s3 t_1_3 s5 s6 s7 s8 s9 s10 s11 s12 s13).bind fun ⟨r_2, t_2_0, t_2_1, t_2_2, t_2_3, t_2_4, t_2_5, t_2_6, t_2_7, t_2_8, t_2_9, t_2_10, t_2_11, t_2_12⟩ => if p1 ≤ (r_2 - s0) then (some (s0, s0 + p1, t_2_0, t_2_1, t_2_2, t_2_3, t_2_4, t_2_5, t_2_6, t_2_7, t_2_8, t_2_9, t_2_10, t_2_11, t_2_12)) else (some ((-1 : Int32), s0, t_2_0, t_2_1, t_2_2, t_2_3, t_2_4, t_2_5, t_2_6, t_2_7, t_2_8, t_2_9, t_2_10, t_2_11, t_2_12))) _
  refine zz_ok_bind (ff_X7_words K hK T hT n0 n1 n2 n3 n4 n5 n6 s1 s2 s3 t_1_3 s5 s6 s7 s8 s9 s10 s11 s12 s13) ?_
  intro z36 hz36
  obtain ⟨r_2, t_2_0, t_2_1, t_2_2, t_2_3, t_2_4, t_2_5, t_2_6, t_2_7, t_2_8, t_2_9, t_2_10, t_2_11, t_2_12⟩ := z36
  have q37 : r_2 = s1 := hz36.1
  have q38 : t_2_0 = s1 := hz36.2.1
  have q39 : t_2_1 = s2 := hz36.2.2.1
  have q40 : t_2_2 = s3 := hz36.2.2.2.1
  have q41 : t_2_3 = t_1_3 := hz36.2.2.2.2.1
  have q42 : t_2_4 = s5 := hz36.2.2.2.2.2.1
  have q43 : t_2_5 = s6 := hz36.2.2.2.2.2.2.1
  have q44 : t_2_6 = s7 := hz36.2.2.2.2.2.2.2.1
  have q45 : t_2_7 = s8 := hz36.2.2.2.2.2.2.2.2.1
  have q46 : t_2_8 = s9 := hz36.2.2.2.2.2.2.2.2.2.1
  have q47 : t_2_9 = s10 := hz36.2.2.2.2.2.2.2.2.2.2.1
  have q48 : t_2_10 = s11 := hz36.2.2.2.2.2.2.2.2.2.2.2.1
  have q49 : t_2_11 = s12 := hz36.2.2.2.2.2.2.2.2.2.2.2.2.1
  have q50 : t_2_12 = s13 := hz36.2.2.2.2.2.2.2.2.2.2.2.2.2
  clear hz36
  have e51 : s1 = r_2 := q37.symm
  subst e51
  have e52 : s1 = t_2_0 := q38.symm
  subst e52
  have e53 : s2 = t_2_1 := q39.symm
  subst e53
  have e54 : s3 = t_2_2 := q40.symm
  subst e54
  have e55 : t_1_3 = t_2_3 := q41.symm
  subst e55
  have e56 : s5 = t_2_4 := q42.symm
  subst e56
  have e57 : s6 = t_2_5 := q43.symm
  subst e57
  have e58 : s7 = t_2_6 := q44.symm
  subst e58
  have e59 : s8 = t_2_7 := q45.symm
  subst e59
  have e60 : s9 = t_2_8 := q46.symm
  subst e60
  have e61 : s10 = t_2_9 := q47.symm
  subst e61
  have e62 : s11 = t_2_10 := q48.symm
  subst e62
  have e63 : s12 = t_2_11 := q49.symm
  subst e63
  have e64 : s13 = t_2_12 := q50.symm
  subst e64
  show zz_ok (if p1 ≤ (s1 - s0) then (some (s0, s0 + p1, s1, s2, s3, t_1_3, s5, s6, s7, s8, s9, s10, s11, s12, s13)) else (some ((-1 : Int32), s0, s1, s2, s3, t_1_3, s5, s6, s7, s8, s9, s10, s11, s12, s13))) _
  obtain ⟨k66, f67⟩ := zz_sub s1 s0
  have g68 := zz_rg (s1 - s0)
  refine zz_ok_ite (fun c65 => ?_) (fun c65 => ?_)
  · have c65 := Int32.le_iff_toInt_le.mp c65
    obtain ⟨k69, f70⟩ := zz_add s0 p1
    have g71 := zz_rg (s0 + p1)
    refine zz_ok_some ?_
    show ((s1.toInt - s0.toInt < p1.toInt ∧ s0.toInt = -1 ∧ (s0 + p1).toInt = s0.toInt) ∨ (p1.toInt ≤ s1.toInt - s0.toInt ∧ s0.toInt = s0.toInt ∧ (s0 + p1).toInt = s0.toInt + p1.toInt)) ∧ s1 = s1 ∧ s2 = s2 ∧ s3 = s3 ∧ s5 = s5 ∧ s6 = s6 ∧ s7 = s7 ∧ s8 = s8 ∧ s9 = s9 ∧ s10 = s10 ∧ s11 = s11 ∧ s12 = s12 ∧ s13 = s13
    exact ⟨(by omega), rfl, rfl, rfl, rfl, rfl, rfl, rfl, rfl, rfl, rfl, rfl, rfl⟩
  · have c65 := zz_nle c65
    have l72 : (-1 : Int32).toInt = -1 := rfl
    refine zz_ok_some ?_
    show ((s1.toInt - s0.toInt < p1.toInt ∧ (-1 : Int32).toInt = -1 ∧ s0.toInt = s0.toInt) ∨ (p1.toInt ≤ s1.toInt - s0.toInt ∧ (-1 : Int32).toInt = s0.toInt ∧ s0.toInt = s0.toInt + p1.toInt)) ∧ s1 = s1 ∧ s2 = s2 ∧ s3 = s3 ∧ s5 = s5 ∧ s6 = s6 ∧ s7 = s7 ∧ s8 = s8 ∧ s9 = s9 ∧ s10 = s10 ∧ s11 = s11 ∧ s12 = s12 ∧ s13 = s13
    exact ⟨(by omega), rfl, rfl, rfl, rfl, rfl, rfl, rfl, rfl, rfl, rfl, rfl, rfl⟩
set_option maxHeartbeats 4000000 in
theorem gg_X9_takeBack_L0 (K : Nat) (hK : 1099511627776 ≤ K) (T : Nat) (hT : T ≤ 900) (n0 : Nat) (n1 : Nat) (n2 : Nat) (n3 : Nat) (n4 : Nat) (n5 : Nat) (n6 : Nat) : ∀ (k : Nat) (x1 : Int32) (x2 : Int32) (s0 : Int32) (s1 : Int32) (s2 : Int32) (s3 : Int32) (s4 : Int32) (s5 : Nat → Int32) (s6 : Nat → Int32) (s7 : Nat → Int32) (s8 : Nat → Int32) (s9 : Nat → Int32) (s10 : Int32) (s11 : Int32) (s12 : Nat → Int32) (s13 : Nat → Int32), n0 = 1024 → n1 = 200 → n2 = 200 → n3 = 200 → n4 = 200 → n5 = 512 → n6 = 512 → 0 ≤ s1.toInt → s1.toInt ≤ 1024 → 0 ≤ s0.toInt → s0.toInt ≤ s1.toInt → s0.toInt < (k : Int) → zz_ok (m_X9_takeBack_L0 K n0 n1 n2 n3 n4 n5 n6 k x1 x2 s0 s1 s2 s3 s4 s5 s6 s7 s8 s9 s10 s11 s12 s13) (fun z => zz_tp (s5) s0.toInt z.1.toInt ∧ z.2.1 = s1 ∧ z.2.2.1 = s2 ∧ z.2.2.2.1 = s3 ∧ z.2.2.2.2.1 = s4 ∧ z.2.2.2.2.2.1 = s5 ∧ z.2.2.2.2.2.2.1 = s6 ∧ z.2.2.2.2.2.2.2.1 = s7 ∧ z.2.2.2.2.2.2.2.2.1 = s8 ∧ z.2.2.2.2.2.2.2.2.2.1 = s9 ∧ z.2.2.2.2.2.2.2.2.2.2.1 = s10 ∧ z.2.2.2.2.2.2.2.2.2.2.2.1 = s11 ∧ z.2.2.2.2.2.2.2.2.2.2.2.2.1 = s12 ∧ z.2.2.2.2.2.2.2.2.2.2.2.2.2 = s13) := by
  intro k
  induction k with
  | zero =>
    intro x1 x2 s0 s1 s2 s3 s4 s5 s6 s7 s8 s9 s10 s11 s12 s13 a0 a1 a2 a3 a4 a5 a6 a7 a8 a9 a10 hz9
    exfalso
    have g_x1 := zz_rg x1
    have g_x2 := zz_rg x2
    have g_s0 := zz_rg s0
    have g_s1 := zz_rg s1
    have g_s2 := zz_rg s2
    have g_s3 := zz_rg s3
    have g_s4 := zz_rg s4
    have g_s10 := zz_rg s10
    have g_s11 := zz_rg s11
    omega
  | succ k ih =>
    intro x1 x2 s0 s1 s2 s3 s4 s5 s6 s7 s8 s9 s10 s11 s12 s13 a0 a1 a2 a3 a4 a5 a6 a7 a8 a9 a10 hz9
    rw [m_X9_takeBack_L0_s]
    have g1 := zz_rg x1
    have g2 := zz_rg x2
    have g3 := zz_rg s0
    have g4 := zz_rg s1
    have g5 := zz_rg s2
    have g6 := zz_rg s3
    have g7 := zz_rg s4
    have g8 := zz_rg s10
    have g9 := zz_rg s11
    have l11 : (0 : Int32).toInt = 0 := rfl
    refine zz_ok_ite (fun c10 => ?_) (fun c10 => ?_)
    · have c10 := Int32.le_iff_toInt_le.mp c10
      refine zz_ok_some ?_
      show zz_tp (s5) s0.toInt s0.toInt ∧ s1 = s1 ∧ s2 = s2 ∧ s3 = s3 ∧ s4 = s4 ∧ s5 = s5 ∧ s6 = s6 ∧ s7 = s7 ∧ s8 = s8 ∧ s9 = s9 ∧ s10 = s10 ∧ s11 = s11 ∧ s12 = s12 ∧ s13 = s13
      exact ⟨(by first | exact zz_tp_end (by omega) rfl (by first | exact Or.inl (by omega) | exact Or.inr ⟨(s0 - ((1 : Int32))).toNatClampNeg, zz_tnE (by omega) (by omega), zz_isf_n2 (by assumption) (by omega) (by omega) (by omega)⟩) | exact zz_tp_step (i := (s0 - ((1 : Int32))).toNatClampNeg) (by assumption) (by omega) (zz_tnE (by omega) (by omega)) (zz_isf_y (by assumption) (by omega))), rfl, rfl, rfl, rfl, rfl, rfl, rfl, rfl, rfl, rfl, rfl, rfl, rfl⟩
    · have c10 := zz_nle c10
      have l12 : (1 : Int32).toInt = 1 := rfl
      obtain ⟨k13, f14⟩ := zz_sub s0 (1 : Int32)
      have g15 := zz_rg (s0 - ((1 : Int32)))
      refine zz_ok_bind (ff_X7_isFree K hK T hT n0 n1 n2 n3 n4 n5 n6 (s0 - ((1 : Int32))) s1 s2 s3 s4 s5 s6 s7 s8 s9 s10 s11 s12 s13 a0 a1 a2 a3 a4 a5 a6 a7 a8) ?_
      intro z16 hz16
      obtain ⟨r_2, t_2_0, t_2_1, t_2_2, t_2_3, t_2_4, t_2_5, t_2_6, t_2_7, t_2_8, t_2_9, t_2_10, t_2_11, t_2_12⟩ := z16
      have q17 : (r_2.toInt = 0 ∨ r_2.toInt = 1) := hz16.1
      have q18 : zz_isf s1.toInt (s5) ((s0 - ((1 : Int32)))) r_2.toInt := hz16.2.1
      have q19 : t_2_0 = s1 := hz16.2.2.1
      have q20 : t_2_1 = s2 := hz16.2.2.2.1
      have q21 : t_2_2 = s3 := hz16.2.2.2.2.1
      have q22 : t_2_3 = s4 := hz16.2.2.2.2.2.1
      have q23 : t_2_4 = s5 := hz16.2.2.2.2.2.2.1
      have q24 : t_2_5 = s6 := hz16.2.2.2.2.2.2.2.1
      have q25 : t_2_6 = s7 := hz16.2.2.2.2.2.2.2.2.1
      have q26 : t_2_7 = s8 := hz16.2.2.2.2.2.2.2.2.2.1
      have q27 : t_2_8 = s9 := hz16.2.2.2.2.2.2.2.2.2.2.1
      have q28 : t_2_9 = s10 := hz16.2.2.2.2.2.2.2.2.2.2.2.1
      have q29 : t_2_10 = s11 := hz16.2.2.2.2.2.2.2.2.2.2.2.2.1
      have q30 : t_2_11 = s12 := hz16.2.2.2.2.2.2.2.2.2.2.2.2.2.1
      have q31 : t_2_12 = s13 := hz16.2.2.2.2.2.2.2.2.2.2.2.2.2.2
      clear hz16
      have e32 : s1 = t_2_0 := q19.symm
      subst e32
      have e33 : s2 = t_2_1 := q20.symm
      subst e33
      have e34 : s3 = t_2_2 := q21.symm
      subst e34
      have e35 : s4 = t_2_3 := q22.symm
      subst e35
      have e36 : s5 = t_2_4 := q23.symm
      subst e36
      have e37 : s6 = t_2_5 := q24.symm
      subst e37
      have e38 : s7 = t_2_6 := q25.symm
      subst e38
      have e39 : s8 = t_2_7 := q26.symm
      subst e39
      have e40 : s9 = t_2_8 := q27.symm
      subst e40
      have e41 : s10 = t_2_9 := q28.symm
      subst e41
      have e42 : s11 = t_2_10 := q29.symm
      subst e42
      have e43 : s12 = t_2_11 := q30.symm
      subst e43
      have e44 : s13 = t_2_12 := q31.symm
      subst e44
      have g45 := zz_rg r_2
      show zz_ok (if r_2 = 0 then (some (s0, s1, s2, s3, s4, s5, s6, s7, s8, s9, s10, s11, s12, s13)) else (m_X9_takeBack_L0 K n0 n1 n2 n3 n4 n5 n6 k x1 x2 (s0 - ((1 : Int32))) s1 s2 s3 s4 s5 s6 s7 s8 s9 s10 s11 s12 s13)) _
      refine zz_ok_ite (fun c46 => ?_) (fun c46 => ?_)
      · have c46 := congrArg Int32.toInt c46
        refine zz_ok_some ?_
        show zz_tp (s5) s0.toInt s0.toInt ∧ s1 = s1 ∧ s2 = s2 ∧ s3 = s3 ∧ s4 = s4 ∧ s5 = s5 ∧ s6 = s6 ∧ s7 = s7 ∧ s8 = s8 ∧ s9 = s9 ∧ s10 = s10 ∧ s11 = s11 ∧ s12 = s12 ∧ s13 = s13
        exact ⟨(by first | exact zz_tp_end (by omega) rfl (by first | exact Or.inl (by omega) | exact Or.inr ⟨(s0 - ((1 : Int32))).toNatClampNeg, zz_tnE (by omega) (by omega), zz_isf_n2 (by assumption) (by omega) (by omega) (by omega)⟩) | exact zz_tp_step (i := (s0 - ((1 : Int32))).toNatClampNeg) (by assumption) (by omega) (zz_tnE (by omega) (by omega)) (zz_isf_y (by assumption) (by omega))), rfl, rfl, rfl, rfl, rfl, rfl, rfl, rfl, rfl, rfl, rfl, rfl, rfl⟩
      · have c46 := zz_neq c46
        refine (ih x1 x2 (s0 - ((1 : Int32))) s1 s2 s3 s4 s5 s6 s7 s8 s9 s10 s11 s12 s13 a0 a1 a2 a3 a4 a5 a6 a7 a8 (by omega) (by omega) (by omega)).mono (fun z hz => ?_)
        obtain ⟨y47_0, y47_1, y47_2, y47_3, y47_4, y47_5, y47_6, y47_7, y47_8, y47_9, y47_10, y47_11, y47_12, y47_13⟩ := z
        have q48 : zz_tp (s5) (s0 - ((1 : Int32))).toInt y47_0.toInt := hz.1
        have q49 : y47_1 = s1 := hz.2.1
        have q50 : y47_2 = s2 := hz.2.2.1
        have q51 : y47_3 = s3 := hz.2.2.2.1
        have q52 : y47_4 = s4 := hz.2.2.2.2.1
        have q53 : y47_5 = s5 := hz.2.2.2.2.2.1
        have q54 : y47_6 = s6 := hz.2.2.2.2.2.2.1
        have q55 : y47_7 = s7 := hz.2.2.2.2.2.2.2.1
        have q56 : y47_8 = s8 := hz.2.2.2.2.2.2.2.2.1
        have q57 : y47_9 = s9 := hz.2.2.2.2.2.2.2.2.2.1
        have q58 : y47_10 = s10 := hz.2.2.2.2.2.2.2.2.2.2.1
        have q59 : y47_11 = s11 := hz.2.2.2.2.2.2.2.2.2.2.2.1
        have q60 : y47_12 = s12 := hz.2.2.2.2.2.2.2.2.2.2.2.2.1
        have q61 : y47_13 = s13 := hz.2.2.2.2.2.2.2.2.2.2.2.2.2
        clear hz
        have e62 : s1 = y47_1 := q49.symm
        subst e62
        have e63 : s2 = y47_2 := q50.symm
        subst e63
        have e64 : s3 = y47_3 := q51.symm
        subst e64
        have e65 : s4 = y47_4 := q52.symm
        subst e65
        have e66 : s5 = y47_5 := q53.symm
        subst e66
        have e67 : s6 = y47_6 := q54.symm
        subst e67
        have e68 : s7 = y47_7 := q55.symm
        subst e68
        have e69 : s8 = y47_8 := q56.symm
        subst e69
        have e70 : s9 = y47_9 := q57.symm
        subst e70
        have e71 : s10 = y47_10 := q58.symm
        subst e71
        have e72 : s11 = y47_11 := q59.symm
        subst e72
        have e73 : s12 = y47_12 := q60.symm
        subst e73
        have e74 : s13 = y47_13 := q61.symm
        subst e74
        have g75 := zz_rg y47_0
        show zz_tp (s5) s0.toInt y47_0.toInt ∧ s1 = s1 ∧ s2 = s2 ∧ s3 = s3 ∧ s4 = s4 ∧ s5 = s5 ∧ s6 = s6 ∧ s7 = s7 ∧ s8 = s8 ∧ s9 = s9 ∧ s10 = s10 ∧ s11 = s11 ∧ s12 = s12 ∧ s13 = s13
        exact ⟨(by first | exact zz_tp_end (by omega) rfl (by first | exact Or.inl (by omega) | exact Or.inr ⟨(s0 - ((1 : Int32))).toNatClampNeg, zz_tnE (by omega) (by omega), zz_isf_n2 (by assumption) (by omega) (by omega) (by omega)⟩) | exact zz_tp_step (i := (s0 - ((1 : Int32))).toNatClampNeg) (by assumption) (by omega) (zz_tnE (by omega) (by omega)) (zz_isf_y (by assumption) (by omega))), rfl, rfl, rfl, rfl, rfl, rfl, rfl, rfl, rfl, rfl, rfl, rfl, rfl⟩
set_option maxHeartbeats 4000000 in
theorem gg_X9_takeBack (K : Nat) (hK : 1099511627776 ≤ K) (T : Nat) (hT : T ≤ 900) (n0 : Nat) (n1 : Nat) (n2 : Nat) (n3 : Nat) (n4 : Nat) (n5 : Nat) (n6 : Nat) (p1 : Int32) (p2 : Int32) (s0 : Int32) (s1 : Int32) (s2 : Int32) (s3 : Int32) (s4 : Int32) (s5 : Nat → Int32) (s6 : Nat → Int32) (s7 : Nat → Int32) (s8 : Nat → Int32) (s9 : Nat → Int32) (s10 : Int32) (s11 : Int32) (s12 : Nat → Int32) (s13 : Nat → Int32) (a0 : n0 = 1024) (a1 : n1 = 200) (a2 : n2 = 200) (a3 : n3 = 200) (a4 : n4 = 200) (a5 : n5 = 512) (a6 : n6 = 512) (a7 : 0 ≤ s1.toInt) (a8 : s1.toInt ≤ 1024) (a9 : 0 ≤ s0.toInt) (a10 : s0.toInt ≤ s1.toInt) : zz_ok (m_X9_takeBack K n0 n1 n2 n3 n4 n5 n6 p1 p2 s0 s1 s2 s3 s4 s5 s6 s7 s8 s9 s10 s11 s12 s13) (fun z => zz_tp (s5) s0.toInt z.1.toInt ∧ z.2.1 = s1 ∧ z.2.2.1 = s2 ∧ z.2.2.2.1 = s3 ∧ z.2.2.2.2.1 = s4 ∧ z.2.2.2.2.2.1 = s5 ∧ z.2.2.2.2.2.2.1 = s6 ∧ z.2.2.2.2.2.2.2.1 = s7 ∧ z.2.2.2.2.2.2.2.2.1 = s8 ∧ z.2.2.2.2.2.2.2.2.2.1 = s9 ∧ z.2.2.2.2.2.2.2.2.2.2.1 = s10 ∧ z.2.2.2.2.2.2.2.2.2.2.2.1 = s11 ∧ z.2.2.2.2.2.2.2.2.2.2.2.2.1 = s12 ∧ z.2.2.2.2.2.2.2.2.2.2.2.2.2 = s13) := by
  have g1 := zz_rg p1
  have g2 := zz_rg p2
  have g3 := zz_rg s0
  have g4 := zz_rg s1
  have g5 := zz_rg s2
  have g6 := zz_rg s3
  have g7 := zz_rg s4
  have g8 := zz_rg s10
  have g9 := zz_rg s11
  unfold m_X9_takeBack
  refine (gg_X9_takeBack_L0 K hK T hT n0 n1 n2 n3 n4 n5 n6 K p1 p2 s0 s1 s2 s3 s4 s5 s6 s7 s8 s9 s10 s11 s12 s13 a0 a1 a2 a3 a4 a5 a6 a7 a8 a9 a10 (by omega)).mono (fun z hz => ?_)
  obtain ⟨y10_0, y10_1, y10_2, y10_3, y10_4, y10_5, y10_6, y10_7, y10_8, y10_9, y10_10, y10_11, y10_12, y10_13⟩ := z
  have q11 : zz_tp (s5) s0.toInt y10_0.toInt := hz.1
  have q12 : y10_1 = s1 := hz.2.1
  have q13 : y10_2 = s2 := hz.2.2.1
  have q14 : y10_3 = s3 := hz.2.2.2.1
  have q15 : y10_4 = s4 := hz.2.2.2.2.1
  have q16 : y10_5 = s5 := hz.2.2.2.2.2.1
  have q17 : y10_6 = s6 := hz.2.2.2.2.2.2.1
  have q18 : y10_7 = s7 := hz.2.2.2.2.2.2.2.1
  have q19 : y10_8 = s8 := hz.2.2.2.2.2.2.2.2.1
  have q20 : y10_9 = s9 := hz.2.2.2.2.2.2.2.2.2.1
  have q21 : y10_10 = s10 := hz.2.2.2.2.2.2.2.2.2.2.1
  have q22 : y10_11 = s11 := hz.2.2.2.2.2.2.2.2.2.2.2.1
  have q23 : y10_12 = s12 := hz.2.2.2.2.2.2.2.2.2.2.2.2.1
  have q24 : y10_13 = s13 := hz.2.2.2.2.2.2.2.2.2.2.2.2.2
  clear hz
  have e25 : s1 = y10_1 := q12.symm
  subst e25
  have e26 : s2 = y10_2 := q13.symm
  subst e26
  have e27 : s3 = y10_3 := q14.symm
  subst e27
  have e28 : s4 = y10_4 := q15.symm
  subst e28
  have e29 : s5 = y10_5 := q16.symm
  subst e29
  have e30 : s6 = y10_6 := q17.symm
  subst e30
  have e31 : s7 = y10_7 := q18.symm
  subst e31
  have e32 : s8 = y10_8 := q19.symm
  subst e32
  have e33 : s9 = y10_9 := q20.symm
  subst e33
  have e34 : s10 = y10_10 := q21.symm
  subst e34
  have e35 : s11 = y10_11 := q22.symm
  subst e35
  have e36 : s12 = y10_12 := q23.symm
  subst e36
  have e37 : s13 = y10_13 := q24.symm
  subst e37
  have g38 := zz_rg y10_0
  show zz_tp (s5) s0.toInt y10_0.toInt ∧ s1 = s1 ∧ s2 = s2 ∧ s3 = s3 ∧ s4 = s4 ∧ s5 = s5 ∧ s6 = s6 ∧ s7 = s7 ∧ s8 = s8 ∧ s9 = s9 ∧ s10 = s10 ∧ s11 = s11 ∧ s12 = s12 ∧ s13 = s13
  exact ⟨q11, rfl, rfl, rfl, rfl, rfl, rfl, rfl, rfl, rfl, rfl, rfl, rfl, rfl⟩

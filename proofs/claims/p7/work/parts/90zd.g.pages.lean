set_option maxHeartbeats 4000000 in
theorem gg_X5_begin (K : Nat) (hK : 1099511627776 ≤ K) (T : Nat) (hT : T ≤ 900) (n0 : Nat) (n1 : Nat) (n2 : Nat) (n3 : Nat) (n4 : Nat) (n5 : Nat) (n6 : Nat) (n7 : Nat) (n8 : Nat) (s0 : Int32) (s1 : Int32) (s2 : Int32) (s3 : Int32) (s4 : Int32) (s5 : Nat → Int32) (s6 : Nat → Int32) (s7 : Nat → Int32) (s8 : Nat → Int32) (s9 : Nat → Int32) (s10 : Int32) (s11 : Int32) (s12 : Nat → Int32) (s13 : Nat → Int32) (s14 : Nat → Int32) (s15 : Nat → Int32) (a0 : n0 = 1024) (a1 : n1 = 200) (a2 : n2 = 200) (a3 : n3 = 200) (a4 : n4 = 200) (a5 : n5 = 512) (a6 : n6 = 512) (a7 : 0 ≤ s1.toInt) (a8 : s1.toInt ≤ 1024) (a9 : n7 = 32) (a10 : n8 = 32) : zz_ok (m_X5_begin K n0 n1 n2 n3 n4 n5 n6 n7 n8 s0 s1 s2 s3 s4 s5 s6 s7 s8 s9 s10 s11 s12 s13 s14 s15) (fun z => z.1.toInt = s1.toInt / 32 ∧ zz_fl (z.2.2.2.2.2.2.2.2.2.2.2.2.2.2.1) 0 32 ∧ zz_fl (z.2.2.2.2.2.2.2.2.2.2.2.2.2.2.2) 0 32 ∧ z.2.1 = s1 ∧ z.2.2.1 = s2 ∧ z.2.2.2.1 = s3 ∧ z.2.2.2.2.1 = s4 ∧ z.2.2.2.2.2.1 = s5 ∧ z.2.2.2.2.2.2.1 = s6 ∧ z.2.2.2.2.2.2.2.1 = s7 ∧ z.2.2.2.2.2.2.2.2.1 = s8 ∧ z.2.2.2.2.2.2.2.2.2.1 = s9 ∧ z.2.2.2.2.2.2.2.2.2.2.1 = s10 ∧ z.2.2.2.2.2.2.2.2.2.2.2.1 = s11 ∧ z.2.2.2.2.2.2.2.2.2.2.2.2.1 = s12 ∧ z.2.2.2.2.2.2.2.2.2.2.2.2.2.1 = s13) := by
  have g1 := zz_rg s0
  have g2 := zz_rg s1
  have g3 := zz_rg s2
  have g4 := zz_rg s3
  have g5 := zz_rg s4
  have g6 := zz_rg s10
  have g7 := zz_rg s11
  unfold m_X5_begin
  refine zz_ok_bind (ff_X7_words K hK T hT n0 n1 n2 n3 n4 n5 n6 s1 s2 s3 s4 s5 s6 s7 s8 s9 s10 s11 s12 s13) ?_
  intro z8 hz8
  obtain ⟨r_1, t_1_0, t_1_1, t_1_2, t_1_3, t_1_4, t_1_5, t_1_6, t_1_7, t_1_8, t_1_9, t_1_10, t_1_11, t_1_12⟩ := z8
  have q9 : r_1 = s1 := hz8.1
  have q10 : t_1_0 = s1 := hz8.2.1
  have q11 : t_1_1 = s2 := hz8.2.2.1
  have q12 : t_1_2 = s3 := hz8.2.2.2.1
  have q13 : t_1_3 = s4 := hz8.2.2.2.2.1
  have q14 : t_1_4 = s5 := hz8.2.2.2.2.2.1
  have q15 : t_1_5 = s6 := hz8.2.2.2.2.2.2.1
  have q16 : t_1_6 = s7 := hz8.2.2.2.2.2.2.2.1
  have q17 : t_1_7 = s8 := hz8.2.2.2.2.2.2.2.2.1
  have q18 : t_1_8 = s9 := hz8.2.2.2.2.2.2.2.2.2.1
  have q19 : t_1_9 = s10 := hz8.2.2.2.2.2.2.2.2.2.2.1
  have q20 : t_1_10 = s11 := hz8.2.2.2.2.2.2.2.2.2.2.2.1
  have q21 : t_1_11 = s12 := hz8.2.2.2.2.2.2.2.2.2.2.2.2.1
  have q22 : t_1_12 = s13 := hz8.2.2.2.2.2.2.2.2.2.2.2.2.2
  clear hz8
  have e23 : s1 = r_1 := q9.symm
  subst e23
  have e24 : s1 = t_1_0 := q10.symm
  subst e24
  have e25 : s2 = t_1_1 := q11.symm
  subst e25
  have e26 : s3 = t_1_2 := q12.symm
  subst e26
  have e27 : s4 = t_1_3 := q13.symm
  subst e27
  have e28 : s5 = t_1_4 := q14.symm
  subst e28
  have e29 : s6 = t_1_5 := q15.symm
  subst e29
  have e30 : s7 = t_1_6 := q16.symm
  subst e30
  have e31 : s8 = t_1_7 := q17.symm
  subst e31
  have e32 : s9 = t_1_8 := q18.symm
  subst e32
  have e33 : s10 = t_1_9 := q19.symm
  subst e33
  have e34 : s11 = t_1_10 := q20.symm
  subst e34
  have e35 : s12 = t_1_11 := q21.symm
  subst e35
  have e36 : s13 = t_1_12 := q22.symm
  subst e36
  show zz_ok ((m_J7_fill_53178 K n7 ((0 : Int32)) s14).bind fun t_2_0 => (m_J7_fill_53178 K n8 ((0 : Int32)) s15).bind fun t_3_0 => some (s1 / ((32 : Int32)), s1, s2, s3, s4, s5, s6, s7, s8, s9, s10, s11, s12, s13, t_2_0, t_3_0)) _
  have l37 : (0 : Int32).toInt = 0 := rfl
  refine zz_ok_bind (ff_J7_fill_53178 K hK T hT n7 ((0 : Int32)) s14 (by omega)) ?_
  intro z38 hz38
  have ⟨t_2_0, h9z38⟩ : ∃ q, q = z38 := ⟨_, rfl⟩
  subst h9z38
  have q39 : zz_fl (t_2_0) (((0 : Int32))) (n7 : Int) := hz38
  clear hz38
  show zz_ok ((m_J7_fill_53178 K n8 ((0 : Int32)) s15).bind fun t_3_0 => some (s1 / ((32 : Int32)), s1, s2, s3, s4, s5, s6, s7, s8, s9, s10, s11, s12, s13, t_2_0, t_3_0)) _
  refine zz_ok_bind (ff_J7_fill_53178 K hK T hT n8 ((0 : Int32)) s15 (by omega)) ?_
  intro z40 hz40
  have ⟨t_3_0, h9z40⟩ : ∃ q, q = z40 := ⟨_, rfl⟩
  subst h9z40
  have q41 : zz_fl (t_3_0) (((0 : Int32))) (n8 : Int) := hz40
  clear hz40
  show zz_ok (some (s1 / ((32 : Int32)), s1, s2, s3, s4, s5, s6, s7, s8, s9, s10, s11, s12, s13, t_2_0, t_3_0)) _
  have l42 : (32 : Int32).toInt = 32 := rfl
  try have f43 := zz_divP s1 (32 : Int32) 32 rfl (by decide) (by omega)
  have f44 := zz_divB s1 (32 : Int32) 32 rfl (by decide)
  have g45 := zz_rg (s1 / ((32 : Int32)))
  refine zz_ok_some ?_
  show (s1 / ((32 : Int32))).toInt = s1.toInt / 32 ∧ zz_fl (t_2_0) 0 32 ∧ zz_fl (t_3_0) 0 32 ∧ s1 = s1 ∧ s2 = s2 ∧ s3 = s3 ∧ s4 = s4 ∧ s5 = s5 ∧ s6 = s6 ∧ s7 = s7 ∧ s8 = s8 ∧ s9 = s9 ∧ s10 = s10 ∧ s11 = s11 ∧ s12 = s12 ∧ s13 = s13
  exact ⟨(by omega), (by exact zz_fl_cg (by assumption) (by omega)), (by exact zz_fl_cg (by assumption) (by omega)), rfl, rfl, rfl, rfl, rfl, rfl, rfl, rfl, rfl, rfl, rfl, rfl, rfl⟩
set_option maxHeartbeats 4000000 in
theorem gg_X5_spanOf (K : Nat) (hK : 1099511627776 ≤ K) (T : Nat) (hT : T ≤ 900) (n0 : Nat) (n1 : Nat) (n2 : Nat) (n3 : Nat) (n4 : Nat) (n5 : Nat) (n6 : Nat) (n7 : Nat) (n8 : Nat) (p1 : Int32) (s0 : Int32) (s1 : Int32) (s2 : Int32) (s3 : Int32) (s4 : Int32) (s5 : Nat → Int32) (s6 : Nat → Int32) (s7 : Nat → Int32) (s8 : Nat → Int32) (s9 : Nat → Int32) (s10 : Int32) (s11 : Int32) (s12 : Nat → Int32) (s13 : Nat → Int32) (s14 : Nat → Int32) (s15 : Nat → Int32) (a0 : 1 ≤ p1.toInt) (a1 : p1.toInt ≤ 1024) : zz_ok (m_X5_spanOf K n0 n1 n2 n3 n4 n5 n6 n7 n8 p1 s0 s1 s2 s3 s4 s5 s6 s7 s8 s9 s10 s11 s12 s13 s14 s15) (fun z => zz_s5 p1.toInt z.1.toInt ∧ z.2.1 = s0 ∧ z.2.2.1 = s1 ∧ z.2.2.2.1 = s2 ∧ z.2.2.2.2.1 = s3 ∧ z.2.2.2.2.2.1 = s4 ∧ z.2.2.2.2.2.2.1 = s5 ∧ z.2.2.2.2.2.2.2.1 = s6 ∧ z.2.2.2.2.2.2.2.2.1 = s7 ∧ z.2.2.2.2.2.2.2.2.2.1 = s8 ∧ z.2.2.2.2.2.2.2.2.2.2.1 = s9 ∧ z.2.2.2.2.2.2.2.2.2.2.2.1 = s10 ∧ z.2.2.2.2.2.2.2.2.2.2.2.2.1 = s11 ∧ z.2.2.2.2.2.2.2.2.2.2.2.2.2.1 = s12 ∧ z.2.2.2.2.2.2.2.2.2.2.2.2.2.2.1 = s13 ∧ z.2.2.2.2.2.2.2.2.2.2.2.2.2.2.2.1 = s14 ∧ z.2.2.2.2.2.2.2.2.2.2.2.2.2.2.2.2 = s15) := by
  have g1 := zz_rg p1
  have g2 := zz_rg s0
  have g3 := zz_rg s1
  have g4 := zz_rg s2
  have g5 := zz_rg s3
  have g6 := zz_rg s4
  have g7 := zz_rg s10
  have g8 := zz_rg s11
  unfold m_X5_spanOf
  have l10 : (32 : Int32).toInt = 32 := rfl
  refine zz_ok_ite (fun c9 => ?_) (fun c9 => ?_)
  · have c9 := Int32.lt_iff_toInt_lt.mp c9
    obtain ⟨k11, f12⟩ := zz_add p1 (32 : Int32)
    have g13 := zz_rg (p1 + ((32 : Int32)))
    have l14 : (1 : Int32).toInt = 1 := rfl
    obtain ⟨k15, f16⟩ := zz_sub (p1 + ((32 : Int32))) (1 : Int32)
    have g17 := zz_rg ((p1 + ((32 : Int32))) - ((1 : Int32)))
    try have f18 := zz_divP ((p1 + ((32 : Int32))) - ((1 : Int32))) (32 : Int32) 32 rfl (by decide) (by omega)
    have f19 := zz_divB ((p1 + ((32 : Int32))) - ((1 : Int32))) (32 : Int32) 32 rfl (by decide)
    have g20 := zz_rg (((p1 + ((32 : Int32))) - ((1 : Int32))) / ((32 : Int32)))
    obtain ⟨k21, f22⟩ := zz_mul (((p1 + ((32 : Int32))) - ((1 : Int32))) / ((32 : Int32))) (32 : Int32)
    rw [show (32 : Int32).toInt = 32 from rfl] at f22
    have g23 := zz_rg ((((p1 + ((32 : Int32))) - ((1 : Int32))) / ((32 : Int32))) * ((32 : Int32)))
    refine zz_ok_some ?_
    show zz_s5 p1.toInt ((((p1 + ((32 : Int32))) - ((1 : Int32))) / ((32 : Int32))) * ((32 : Int32))).toInt ∧ s0 = s0 ∧ s1 = s1 ∧ s2 = s2 ∧ s3 = s3 ∧ s4 = s4 ∧ s5 = s5 ∧ s6 = s6 ∧ s7 = s7 ∧ s8 = s8 ∧ s9 = s9 ∧ s10 = s10 ∧ s11 = s11 ∧ s12 = s12 ∧ s13 = s13 ∧ s14 = s14 ∧ s15 = s15
    exact ⟨(by first | exact Or.inl ⟨by omega, by assumption⟩ | exact Or.inr ⟨by omega, by omega⟩), rfl, rfl, rfl, rfl, rfl, rfl, rfl, rfl, rfl, rfl, rfl, rfl, rfl, rfl, rfl, rfl⟩
  · have c9 := zz_nlt c9
    refine zz_ok_bind (gg_X11_powerFrom K hK T hT p1 a0 a1) ?_
    intro z24 hz24
    obtain ⟨r_2, _⟩ := z24
    have q25 : zz_lpw p1.toInt r_2.toInt := hz24
    clear hz24
    have g26 := zz_rg r_2
    show zz_ok (some (r_2, s0, s1, s2, s3, s4, s5, s6, s7, s8, s9, s10, s11, s12, s13, s14, s15)) _
    refine zz_ok_some ?_
    show zz_s5 p1.toInt r_2.toInt ∧ s0 = s0 ∧ s1 = s1 ∧ s2 = s2 ∧ s3 = s3 ∧ s4 = s4 ∧ s5 = s5 ∧ s6 = s6 ∧ s7 = s7 ∧ s8 = s8 ∧ s9 = s9 ∧ s10 = s10 ∧ s11 = s11 ∧ s12 = s12 ∧ s13 = s13 ∧ s14 = s14 ∧ s15 = s15
    exact ⟨(by first | exact Or.inl ⟨by omega, by assumption⟩ | exact Or.inr ⟨by omega, by omega⟩), rfl, rfl, rfl, rfl, rfl, rfl, rfl, rfl, rfl, rfl, rfl, rfl, rfl, rfl, rfl, rfl⟩
set_option maxHeartbeats 4000000 in
theorem gg_X5_setPages_L7 (K : Nat) (hK : 1099511627776 ≤ K) (T : Nat) (hT : T ≤ 900) (n0 : Nat) (n1 : Nat) (n2 : Nat) (n3 : Nat) (n4 : Nat) (n5 : Nat) (n6 : Nat) (n7 : Nat) (n8 : Nat) : ∀ (k : Nat) (x1 : Int32) (x2 : Int32) (x3 : Int32) (x4 : Int32) (s0 : Int32) (s1 : Int32) (s2 : Int32) (s3 : Int32) (s4 : Int32) (s5 : Nat → Int32) (s6 : Nat → Int32) (s7 : Nat → Int32) (s8 : Nat → Int32) (s9 : Nat → Int32) (s10 : Int32) (s11 : Int32) (s12 : Nat → Int32) (s13 : Nat → Int32) (s14 : Nat → Int32) (s15 : Nat → Int32), n0 = 1024 → n1 = 200 → n2 = 200 → n3 = 200 → n4 = 200 → n5 = 512 → n6 = 512 → 0 ≤ s1.toInt → s1.toInt ≤ 1024 → n7 = 32 → n8 = 32 → 0 ≤ s0.toInt → 32 * s0.toInt ≤ s1.toInt → 0 ≤ x1.toInt → 0 ≤ x2.toInt → x1.toInt + x2.toInt ≤ s0.toInt → x1.toInt ≤ x4.toInt → x4.toInt ≤ x1.toInt + x2.toInt → 100 - x4.toInt < (k : Int) → zz_ok (m_X5_setPages_L7 K n0 n1 n2 n3 n4 n5 n6 n7 n8 k x1 x2 x3 x4 s0 s1 s2 s3 s4 s5 s6 s7 s8 s9 s10 s11 s12 s13 s14 s15) (fun z => zz_wr (s14) (z.2.2.2.2.2.2.2.2.2.2.2.2.2.2.1) x4.toInt (x1.toInt + x2.toInt) (x3) ∧ zz_wk x3.toInt (s15) (z.2.2.2.2.2.2.2.2.2.2.2.2.2.2.2) x4.toInt (x1.toInt + x2.toInt) ∧ z.1 = s0 ∧ z.2.1 = s1 ∧ z.2.2.1 = s2 ∧ z.2.2.2.1 = s3 ∧ z.2.2.2.2.1 = s4 ∧ z.2.2.2.2.2.1 = s5 ∧ z.2.2.2.2.2.2.1 = s6 ∧ z.2.2.2.2.2.2.2.1 = s7 ∧ z.2.2.2.2.2.2.2.2.1 = s8 ∧ z.2.2.2.2.2.2.2.2.2.1 = s9 ∧ z.2.2.2.2.2.2.2.2.2.2.1 = s10 ∧ z.2.2.2.2.2.2.2.2.2.2.2.1 = s11 ∧ z.2.2.2.2.2.2.2.2.2.2.2.2.1 = s12 ∧ z.2.2.2.2.2.2.2.2.2.2.2.2.2.1 = s13) := by
  intro k
  induction k with
  | zero =>
    intro x1 x2 x3 x4 s0 s1 s2 s3 s4 s5 s6 s7 s8 s9 s10 s11 s12 s13 s14 s15 a0 a1 a2 a3 a4 a5 a6 a7 a8 a9 a10 a11 a12 a13 a14 a15 a16 a17 hz9
    exfalso
    have g_x1 := zz_rg x1
    have g_x2 := zz_rg x2
    have g_x3 := zz_rg x3
    have g_x4 := zz_rg x4
    have g_s0 := zz_rg s0
    have g_s1 := zz_rg s1
    have g_s2 := zz_rg s2
    have g_s3 := zz_rg s3
    have g_s4 := zz_rg s4
    have g_s10 := zz_rg s10
    have g_s11 := zz_rg s11
    omega
  | succ k ih =>
    intro x1 x2 x3 x4 s0 s1 s2 s3 s4 s5 s6 s7 s8 s9 s10 s11 s12 s13 s14 s15 a0 a1 a2 a3 a4 a5 a6 a7 a8 a9 a10 a11 a12 a13 a14 a15 a16 a17 hz9
    rw [m_X5_setPages_L7_s]
    have g1 := zz_rg x1
    have g2 := zz_rg x2
    have g3 := zz_rg x3
    have g4 := zz_rg x4
    have g5 := zz_rg s0
    have g6 := zz_rg s1
    have g7 := zz_rg s2
    have g8 := zz_rg s3
    have g9 := zz_rg s4
    have g10 := zz_rg s10
    have g11 := zz_rg s11
    have tn9 := zz_tnI x4 (by omega)
    obtain ⟨k13, f14⟩ := zz_add x1 x2
    have g15 := zz_rg (x1 + x2)
    refine zz_ok_ite (fun c12 => ?_) (fun c12 => ?_)
    · have c12 := Int32.le_iff_toInt_le.mp c12
      refine zz_ok_some ?_
      show zz_wr (s14) (s14) x4.toInt (x1.toInt + x2.toInt) (x3) ∧ zz_wk x3.toInt (s15) (s15) x4.toInt (x1.toInt + x2.toInt) ∧ s0 = s0 ∧ s1 = s1 ∧ s2 = s2 ∧ s3 = s3 ∧ s4 = s4 ∧ s5 = s5 ∧ s6 = s6 ∧ s7 = s7 ∧ s8 = s8 ∧ s9 = s9 ∧ s10 = s10 ∧ s11 = s11 ∧ s12 = s12 ∧ s13 = s13
      exact ⟨(by first | exact zz_wr_nil (by omega) | exact zz_wr_step (i := x4.toNatClampNeg) (by assumption) (by omega) (by omega) (by omega) | (exfalso; omega)), (by first | exact zz_wk_nil (by omega) | exact zz_wk_step (i := x4.toNatClampNeg) (by assumption) (by first | exact Or.inl ⟨by omega, rfl⟩ | exact Or.inr ⟨by omega, rfl⟩) (by omega) (by omega) (by omega) | (exfalso; omega)), rfl, rfl, rfl, rfl, rfl, rfl, rfl, rfl, rfl, rfl, rfl, rfl, rfl, rfl⟩
    · have c12 := zz_nle c12
      refine zz_ok_ite (fun c16 => ?_) (fun c16 => ?_)
      · have c16 := Int32.le_iff_toInt_le.mp c16
        refine zz_ok_some ?_
        show zz_wr (s14) (s14) x4.toInt (x1.toInt + x2.toInt) (x3) ∧ zz_wk x3.toInt (s15) (s15) x4.toInt (x1.toInt + x2.toInt) ∧ s0 = s0 ∧ s1 = s1 ∧ s2 = s2 ∧ s3 = s3 ∧ s4 = s4 ∧ s5 = s5 ∧ s6 = s6 ∧ s7 = s7 ∧ s8 = s8 ∧ s9 = s9 ∧ s10 = s10 ∧ s11 = s11 ∧ s12 = s12 ∧ s13 = s13
        exact ⟨(by first | exact zz_wr_nil (by omega) | exact zz_wr_step (i := x4.toNatClampNeg) (by assumption) (by omega) (by omega) (by omega) | (exfalso; omega)), (by first | exact zz_wk_nil (by omega) | exact zz_wk_step (i := x4.toNatClampNeg) (by assumption) (by first | exact Or.inl ⟨by omega, rfl⟩ | exact Or.inr ⟨by omega, rfl⟩) (by omega) (by omega) (by omega) | (exfalso; omega)), rfl, rfl, rfl, rfl, rfl, rfl, rfl, rfl, rfl, rfl, rfl, rfl, rfl, rfl⟩
      · have c16 := zz_nle c16
        refine zz_ok_chk (zz_ix (by omega) (by omega)) ?_
        have g17 := zz_tnI x4 (by omega)
        have l19 : (0 : Int32).toInt = 0 := rfl
        refine zz_ok_ite (fun c18 => ?_) (fun c18 => ?_)
        · have c18 := congrArg Int32.toInt c18
          refine zz_ok_chk (zz_ix (by omega) (by omega)) ?_
          have l20 : (1 : Int32).toInt = 1 := rfl
          obtain ⟨k21, f22⟩ := zz_add x4 (1 : Int32)
          have g23 := zz_rg (x4 + 1)
          refine (ih x1 x2 x3 (x4 + 1) s0 s1 s2 s3 s4 s5 s6 s7 s8 s9 s10 s11 s12 s13 (upd s14 x4.toNatClampNeg x3) (upd s15 x4.toNatClampNeg ((0 : Int32))) a0 a1 a2 a3 a4 a5 a6 a7 a8 a9 a10 a11 a12 a13 a14 a15 (by omega) (by omega) (by omega)).mono (fun z hz => ?_)
          obtain ⟨y24_0, y24_1, y24_2, y24_3, y24_4, y24_5, y24_6, y24_7, y24_8, y24_9, y24_10, y24_11, y24_12, y24_13, y24_14, y24_15⟩ := z
          have q25 : zz_wr ((upd s14 x4.toNatClampNeg x3)) (y24_14) (x4 + 1).toInt (x1.toInt + x2.toInt) (x3) := hz.1
          have q26 : zz_wk x3.toInt ((upd s15 x4.toNatClampNeg ((0 : Int32)))) (y24_15) (x4 + 1).toInt (x1.toInt + x2.toInt) := hz.2.1
          have q27 : y24_0 = s0 := hz.2.2.1
          have q28 : y24_1 = s1 := hz.2.2.2.1
          have q29 : y24_2 = s2 := hz.2.2.2.2.1
          have q30 : y24_3 = s3 := hz.2.2.2.2.2.1
          have q31 : y24_4 = s4 := hz.2.2.2.2.2.2.1
          have q32 : y24_5 = s5 := hz.2.2.2.2.2.2.2.1
          have q33 : y24_6 = s6 := hz.2.2.2.2.2.2.2.2.1
          have q34 : y24_7 = s7 := hz.2.2.2.2.2.2.2.2.2.1
          have q35 : y24_8 = s8 := hz.2.2.2.2.2.2.2.2.2.2.1
          have q36 : y24_9 = s9 := hz.2.2.2.2.2.2.2.2.2.2.2.1
          have q37 : y24_10 = s10 := hz.2.2.2.2.2.2.2.2.2.2.2.2.1
          have q38 : y24_11 = s11 := hz.2.2.2.2.2.2.2.2.2.2.2.2.2.1
          have q39 : y24_12 = s12 := hz.2.2.2.2.2.2.2.2.2.2.2.2.2.2.1
          have q40 : y24_13 = s13 := hz.2.2.2.2.2.2.2.2.2.2.2.2.2.2.2
          clear hz
          have e41 : s0 = y24_0 := q27.symm
          subst e41
          have e42 : s1 = y24_1 := q28.symm
          subst e42
          have e43 : s2 = y24_2 := q29.symm
          subst e43
          have e44 : s3 = y24_3 := q30.symm
          subst e44
          have e45 : s4 = y24_4 := q31.symm
          subst e45
          have e46 : s5 = y24_5 := q32.symm
          subst e46
          have e47 : s6 = y24_6 := q33.symm
          subst e47
          have e48 : s7 = y24_7 := q34.symm
          subst e48
          have e49 : s8 = y24_8 := q35.symm
          subst e49
          have e50 : s9 = y24_9 := q36.symm
          subst e50
          have e51 : s10 = y24_10 := q37.symm
          subst e51
          have e52 : s11 = y24_11 := q38.symm
          subst e52
          have e53 : s12 = y24_12 := q39.symm
          subst e53
          have e54 : s13 = y24_13 := q40.symm
          subst e54
          show zz_wr (s14) (y24_14) x4.toInt (x1.toInt + x2.toInt) (x3) ∧ zz_wk x3.toInt (s15) (y24_15) x4.toInt (x1.toInt + x2.toInt) ∧ s0 = s0 ∧ s1 = s1 ∧ s2 = s2 ∧ s3 = s3 ∧ s4 = s4 ∧ s5 = s5 ∧ s6 = s6 ∧ s7 = s7 ∧ s8 = s8 ∧ s9 = s9 ∧ s10 = s10 ∧ s11 = s11 ∧ s12 = s12 ∧ s13 = s13
          exact ⟨(by first | exact zz_wr_nil (by omega) | exact zz_wr_step (i := x4.toNatClampNeg) (by assumption) (by omega) (by omega) (by omega) | (exfalso; omega)), (by first | exact zz_wk_nil (by omega) | exact zz_wk_step (i := x4.toNatClampNeg) (by assumption) (by first | exact Or.inl ⟨by omega, rfl⟩ | exact Or.inr ⟨by omega, rfl⟩) (by omega) (by omega) (by omega) | (exfalso; omega)), rfl, rfl, rfl, rfl, rfl, rfl, rfl, rfl, rfl, rfl, rfl, rfl, rfl, rfl⟩
        · have c18 := zz_neq c18
          refine zz_ok_chk (zz_ix (by omega) (by omega)) ?_
          have l55 : (1 : Int32).toInt = 1 := rfl
          obtain ⟨k56, f57⟩ := zz_add x4 (1 : Int32)
          have g58 := zz_rg (x4 + 1)
          refine (ih x1 x2 x3 (x4 + 1) s0 s1 s2 s3 s4 s5 s6 s7 s8 s9 s10 s11 s12 s13 (upd s14 x4.toNatClampNeg x3) (upd s15 x4.toNatClampNeg ((1 : Int32))) a0 a1 a2 a3 a4 a5 a6 a7 a8 a9 a10 a11 a12 a13 a14 a15 (by omega) (by omega) (by omega)).mono (fun z hz => ?_)
          obtain ⟨y59_0, y59_1, y59_2, y59_3, y59_4, y59_5, y59_6, y59_7, y59_8, y59_9, y59_10, y59_11, y59_12, y59_13, y59_14, y59_15⟩ := z
          have q60 : zz_wr ((upd s14 x4.toNatClampNeg x3)) (y59_14) (x4 + 1).toInt (x1.toInt + x2.toInt) (x3) := hz.1
          have q61 : zz_wk x3.toInt ((upd s15 x4.toNatClampNeg ((1 : Int32)))) (y59_15) (x4 + 1).toInt (x1.toInt + x2.toInt) := hz.2.1
          have q62 : y59_0 = s0 := hz.2.2.1
          have q63 : y59_1 = s1 := hz.2.2.2.1
          have q64 : y59_2 = s2 := hz.2.2.2.2.1
          have q65 : y59_3 = s3 := hz.2.2.2.2.2.1
          have q66 : y59_4 = s4 := hz.2.2.2.2.2.2.1
          have q67 : y59_5 = s5 := hz.2.2.2.2.2.2.2.1
          have q68 : y59_6 = s6 := hz.2.2.2.2.2.2.2.2.1
          have q69 : y59_7 = s7 := hz.2.2.2.2.2.2.2.2.2.1
          have q70 : y59_8 = s8 := hz.2.2.2.2.2.2.2.2.2.2.1
          have q71 : y59_9 = s9 := hz.2.2.2.2.2.2.2.2.2.2.2.1
          have q72 : y59_10 = s10 := hz.2.2.2.2.2.2.2.2.2.2.2.2.1
          have q73 : y59_11 = s11 := hz.2.2.2.2.2.2.2.2.2.2.2.2.2.1
          have q74 : y59_12 = s12 := hz.2.2.2.2.2.2.2.2.2.2.2.2.2.2.1
          have q75 : y59_13 = s13 := hz.2.2.2.2.2.2.2.2.2.2.2.2.2.2.2
          clear hz
          have e76 : s0 = y59_0 := q62.symm
          subst e76
          have e77 : s1 = y59_1 := q63.symm
          subst e77
          have e78 : s2 = y59_2 := q64.symm
          subst e78
          have e79 : s3 = y59_3 := q65.symm
          subst e79
          have e80 : s4 = y59_4 := q66.symm
          subst e80
          have e81 : s5 = y59_5 := q67.symm
          subst e81
          have e82 : s6 = y59_6 := q68.symm
          subst e82
          have e83 : s7 = y59_7 := q69.symm
          subst e83
          have e84 : s8 = y59_8 := q70.symm
          subst e84
          have e85 : s9 = y59_9 := q71.symm
          subst e85
          have e86 : s10 = y59_10 := q72.symm
          subst e86
          have e87 : s11 = y59_11 := q73.symm
          subst e87
          have e88 : s12 = y59_12 := q74.symm
          subst e88
          have e89 : s13 = y59_13 := q75.symm
          subst e89
          show zz_wr (s14) (y59_14) x4.toInt (x1.toInt + x2.toInt) (x3) ∧ zz_wk x3.toInt (s15) (y59_15) x4.toInt (x1.toInt + x2.toInt) ∧ s0 = s0 ∧ s1 = s1 ∧ s2 = s2 ∧ s3 = s3 ∧ s4 = s4 ∧ s5 = s5 ∧ s6 = s6 ∧ s7 = s7 ∧ s8 = s8 ∧ s9 = s9 ∧ s10 = s10 ∧ s11 = s11 ∧ s12 = s12 ∧ s13 = s13
          exact ⟨(by first | exact zz_wr_nil (by omega) | exact zz_wr_step (i := x4.toNatClampNeg) (by assumption) (by omega) (by omega) (by omega) | (exfalso; omega)), (by first | exact zz_wk_nil (by omega) | exact zz_wk_step (i := x4.toNatClampNeg) (by assumption) (by first | exact Or.inl ⟨by omega, rfl⟩ | exact Or.inr ⟨by omega, rfl⟩) (by omega) (by omega) (by omega) | (exfalso; omega)), rfl, rfl, rfl, rfl, rfl, rfl, rfl, rfl, rfl, rfl, rfl, rfl, rfl, rfl⟩
set_option maxHeartbeats 4000000 in
theorem gg_X5_setPages (K : Nat) (hK : 1099511627776 ≤ K) (T : Nat) (hT : T ≤ 900) (n0 : Nat) (n1 : Nat) (n2 : Nat) (n3 : Nat) (n4 : Nat) (n5 : Nat) (n6 : Nat) (n7 : Nat) (n8 : Nat) (p1 : Int32) (p2 : Int32) (p3 : Int32) (s0 : Int32) (s1 : Int32) (s2 : Int32) (s3 : Int32) (s4 : Int32) (s5 : Nat → Int32) (s6 : Nat → Int32) (s7 : Nat → Int32) (s8 : Nat → Int32) (s9 : Nat → Int32) (s10 : Int32) (s11 : Int32) (s12 : Nat → Int32) (s13 : Nat → Int32) (s14 : Nat → Int32) (s15 : Nat → Int32) (a0 : n0 = 1024) (a1 : n1 = 200) (a2 : n2 = 200) (a3 : n3 = 200) (a4 : n4 = 200) (a5 : n5 = 512) (a6 : n6 = 512) (a7 : 0 ≤ s1.toInt) (a8 : s1.toInt ≤ 1024) (a9 : n7 = 32) (a10 : n8 = 32) (a11 : 0 ≤ s0.toInt) (a12 : 32 * s0.toInt ≤ s1.toInt) (a13 : 0 ≤ p1.toInt) (a14 : 0 ≤ p2.toInt) (a15 : p1.toInt + p2.toInt ≤ s0.toInt) : zz_ok (m_X5_setPages K n0 n1 n2 n3 n4 n5 n6 n7 n8 p1 p2 p3 s0 s1 s2 s3 s4 s5 s6 s7 s8 s9 s10 s11 s12 s13 s14 s15) (fun z => zz_wr (s14) (z.2.2.2.2.2.2.2.2.2.2.2.2.2.2.1) p1.toInt (p1.toInt + p2.toInt) (p3) ∧ zz_wk p3.toInt (s15) (z.2.2.2.2.2.2.2.2.2.2.2.2.2.2.2) p1.toInt (p1.toInt + p2.toInt) ∧ z.1 = s0 ∧ z.2.1 = s1 ∧ z.2.2.1 = s2 ∧ z.2.2.2.1 = s3 ∧ z.2.2.2.2.1 = s4 ∧ z.2.2.2.2.2.1 = s5 ∧ z.2.2.2.2.2.2.1 = s6 ∧ z.2.2.2.2.2.2.2.1 = s7 ∧ z.2.2.2.2.2.2.2.2.1 = s8 ∧ z.2.2.2.2.2.2.2.2.2.1 = s9 ∧ z.2.2.2.2.2.2.2.2.2.2.1 = s10 ∧ z.2.2.2.2.2.2.2.2.2.2.2.1 = s11 ∧ z.2.2.2.2.2.2.2.2.2.2.2.2.1 = s12 ∧ z.2.2.2.2.2.2.2.2.2.2.2.2.2.1 = s13) := by
  have g1 := zz_rg p1
  have g2 := zz_rg p2
  have g3 := zz_rg p3
  have g4 := zz_rg s0
  have g5 := zz_rg s1
  have g6 := zz_rg s2
  have g7 := zz_rg s3
  have g8 := zz_rg s4
  have g9 := zz_rg s10
  have g10 := zz_rg s11
  unfold m_X5_setPages
  have l11 : (0 : Int32).toInt = 0 := rfl
  have f12 := zz_maxF p1 (0 : Int32)
  have g13 := zz_rg (zz_max p1 ((0 : Int32)))
  refine (gg_X5_setPages_L7 K hK T hT n0 n1 n2 n3 n4 n5 n6 n7 n8 K p1 p2 p3 (zz_max p1 ((0 : Int32))) s0 s1 s2 s3 s4 s5 s6 s7 s8 s9 s10 s11 s12 s13 s14 s15 a0 a1 a2 a3 a4 a5 a6 a7 a8 a9 a10 a11 a12 a13 a14 a15 (by omega) (by omega) (by omega)).mono (fun z hz => ?_)
  obtain ⟨y14_0, y14_1, y14_2, y14_3, y14_4, y14_5, y14_6, y14_7, y14_8, y14_9, y14_10, y14_11, y14_12, y14_13, y14_14, y14_15⟩ := z
  have q15 : zz_wr (s14) (y14_14) (zz_max p1 ((0 : Int32))).toInt (p1.toInt + p2.toInt) (p3) := hz.1
  have q16 : zz_wk p3.toInt (s15) (y14_15) (zz_max p1 ((0 : Int32))).toInt (p1.toInt + p2.toInt) := hz.2.1
  have q17 : y14_0 = s0 := hz.2.2.1
  have q18 : y14_1 = s1 := hz.2.2.2.1
  have q19 : y14_2 = s2 := hz.2.2.2.2.1
  have q20 : y14_3 = s3 := hz.2.2.2.2.2.1
  have q21 : y14_4 = s4 := hz.2.2.2.2.2.2.1
  have q22 : y14_5 = s5 := hz.2.2.2.2.2.2.2.1
  have q23 : y14_6 = s6 := hz.2.2.2.2.2.2.2.2.1
  have q24 : y14_7 = s7 := hz.2.2.2.2.2.2.2.2.2.1
  have q25 : y14_8 = s8 := hz.2.2.2.2.2.2.2.2.2.2.1
  have q26 : y14_9 = s9 := hz.2.2.2.2.2.2.2.2.2.2.2.1
  have q27 : y14_10 = s10 := hz.2.2.2.2.2.2.2.2.2.2.2.2.1
  have q28 : y14_11 = s11 := hz.2.2.2.2.2.2.2.2.2.2.2.2.2.1
  have q29 : y14_12 = s12 := hz.2.2.2.2.2.2.2.2.2.2.2.2.2.2.1
  have q30 : y14_13 = s13 := hz.2.2.2.2.2.2.2.2.2.2.2.2.2.2.2
  clear hz
  have e31 : s0 = y14_0 := q17.symm
  subst e31
  have e32 : s1 = y14_1 := q18.symm
  subst e32
  have e33 : s2 = y14_2 := q19.symm
  subst e33
  have e34 : s3 = y14_3 := q20.symm
  subst e34
  have e35 : s4 = y14_4 := q21.symm
  subst e35
  have e36 : s5 = y14_5 := q22.symm
  subst e36
  have e37 : s6 = y14_6 := q23.symm
  subst e37
  have e38 : s7 = y14_7 := q24.symm
  subst e38
  have e39 : s8 = y14_8 := q25.symm
  subst e39
  have e40 : s9 = y14_9 := q26.symm
  subst e40
  have e41 : s10 = y14_10 := q27.symm
  subst e41
  have e42 : s11 = y14_11 := q28.symm
  subst e42
  have e43 : s12 = y14_12 := q29.symm
  subst e43
  have e44 : s13 = y14_13 := q30.symm
  subst e44
  show zz_wr (s14) (y14_14) p1.toInt (p1.toInt + p2.toInt) (p3) ∧ zz_wk p3.toInt (s15) (y14_15) p1.toInt (p1.toInt + p2.toInt) ∧ s0 = s0 ∧ s1 = s1 ∧ s2 = s2 ∧ s3 = s3 ∧ s4 = s4 ∧ s5 = s5 ∧ s6 = s6 ∧ s7 = s7 ∧ s8 = s8 ∧ s9 = s9 ∧ s10 = s10 ∧ s11 = s11 ∧ s12 = s12 ∧ s13 = s13
  exact ⟨(by first | assumption | exact zz_wr_cg (by assumption) (by omega) (by omega) rfl), (by first | assumption | exact zz_wk_cg (by assumption) rfl (by omega) (by omega)), rfl, rfl, rfl, rfl, rfl, rfl, rfl, rfl, rfl, rfl, rfl, rfl, rfl, rfl⟩
set_option maxHeartbeats 4000000 in
theorem gg_X5_takeRow_L5 (K : Nat) (hK : 1099511627776 ≤ K) (T : Nat) (hT : T ≤ 900) (n0 : Nat) (n1 : Nat) (n2 : Nat) (n3 : Nat) (n4 : Nat) (n5 : Nat) (n6 : Nat) (n7 : Nat) (n8 : Nat) : ∀ (k : Nat) (x1 : Int32) (x2 : Int32) (x3 : Int32) (x4 : Int32) (s0 : Int32) (s1 : Int32) (s2 : Int32) (s3 : Int32) (s4 : Int32) (s5 : Nat → Int32) (s6 : Nat → Int32) (s7 : Nat → Int32) (s8 : Nat → Int32) (s9 : Nat → Int32) (s10 : Int32) (s11 : Int32) (s12 : Nat → Int32) (s13 : Nat → Int32) (s14 : Nat → Int32) (s15 : Nat → Int32), n0 = 1024 → n1 = 200 → n2 = 200 → n3 = 200 → n4 = 200 → n5 = 512 → n6 = 512 → 0 ≤ s1.toInt → s1.toInt ≤ 1024 → n7 = 32 → n8 = 32 → 0 ≤ s0.toInt → 32 * s0.toInt ≤ s1.toInt → 1 ≤ x1.toInt → x1.toInt ≤ 32 → 0 ≤ x4.toInt → x4.toInt ≤ s0.toInt → zz_k5 (s14) x1.toInt x3.toInt x4.toInt → 0 ≤ x3.toInt → x3.toInt ≤ x4.toInt → s0.toInt - x4.toInt < (k : Int) → zz_ok (m_X5_takeRow_L5 K n0 n1 n2 n3 n4 n5 n6 n7 n8 k x1 x2 x3 x4 s0 s1 s2 s3 s4 s5 s6 s7 s8 s9 s10 s11 s12 s13 s14 s15) (fun z => zz_tr5 (s14) (s15) (z.2.2.2.2.2.2.2.2.2.2.2.2.2.2.2.1) (z.2.2.2.2.2.2.2.2.2.2.2.2.2.2.2.2) s0.toInt x1.toInt (x2) z.1.toInt ∧ -1 ≤ z.1.toInt ∧ z.2.1 = s0 ∧ z.2.2.1 = s1 ∧ z.2.2.2.1 = s2 ∧ z.2.2.2.2.1 = s3 ∧ z.2.2.2.2.2.2.1 = s5 ∧ z.2.2.2.2.2.2.2.1 = s6 ∧ z.2.2.2.2.2.2.2.2.1 = s7 ∧ z.2.2.2.2.2.2.2.2.2.1 = s8 ∧ z.2.2.2.2.2.2.2.2.2.2.1 = s9 ∧ z.2.2.2.2.2.2.2.2.2.2.2.1 = s10 ∧ z.2.2.2.2.2.2.2.2.2.2.2.2.1 = s11 ∧ z.2.2.2.2.2.2.2.2.2.2.2.2.2.1 = s12 ∧ z.2.2.2.2.2.2.2.2.2.2.2.2.2.2.1 = s13) := by
  intro k
  induction k with
  | zero =>
    intro x1 x2 x3 x4 s0 s1 s2 s3 s4 s5 s6 s7 s8 s9 s10 s11 s12 s13 s14 s15 a0 a1 a2 a3 a4 a5 a6 a7 a8 a9 a10 a11 a12 a13 a14 a15 a16 a17 a18 a19 hz9
    exfalso
    have g_x1 := zz_rg x1
    have g_x2 := zz_rg x2
    have g_x3 := zz_rg x3
    have g_x4 := zz_rg x4
    have g_s0 := zz_rg s0
    have g_s1 := zz_rg s1
    have g_s2 := zz_rg s2
    have g_s3 := zz_rg s3
    have g_s4 := zz_rg s4
    have g_s10 := zz_rg s10
    have g_s11 := zz_rg s11
    omega
  | succ k ih =>
    intro x1 x2 x3 x4 s0 s1 s2 s3 s4 s5 s6 s7 s8 s9 s10 s11 s12 s13 s14 s15 a0 a1 a2 a3 a4 a5 a6 a7 a8 a9 a10 a11 a12 a13 a14 a15 a16 a17 a18 a19 hz9
    rw [m_X5_takeRow_L5_s]
    have g1 := zz_rg x1
    have g2 := zz_rg x2
    have g3 := zz_rg x3
    have g4 := zz_rg x4
    have g5 := zz_rg s0
    have g6 := zz_rg s1
    have g7 := zz_rg s2
    have g8 := zz_rg s3
    have g9 := zz_rg s4
    have g10 := zz_rg s10
    have g11 := zz_rg s11
    have tn9 := zz_tnI x4 (by omega)
    have kn9 := zz_k5_lt (by assumption : zz_k5 s14 x1.toInt x3.toInt x4.toInt)
    refine zz_ok_ite (fun c12 => ?_) (fun c12 => ?_)
    · have c12 := Int32.le_iff_toInt_le.mp c12
      have l13 : (-1 : Int32).toInt = -1 := rfl
      refine zz_ok_some ?_
      show zz_tr5 (s14) (s15) (s14) (s15) s0.toInt x1.toInt (x2) (-1 : Int32).toInt ∧ -1 ≤ (-1 : Int32).toInt ∧ s0 = s0 ∧ s1 = s1 ∧ s2 = s2 ∧ s3 = s3 ∧ s5 = s5 ∧ s6 = s6 ∧ s7 = s7 ∧ s8 = s8 ∧ s9 = s9 ∧ s10 = s10 ∧ s11 = s11 ∧ s12 = s12 ∧ s13 = s13
      exact ⟨(by first | assumption | exact zz_tr5_n (zz_fr5_end (by assumption) (by omega) rfl) (by first | omega | decide) | exact zz_tr5_y (zz_fr5_hit (i := x4.toNatClampNeg) (by assumption) (by omega) (by omega) (by omega) (by omega) rfl) (by assumption) (by assumption) rfl (by omega) (by omega) (by omega) (by omega) (by omega) (by omega)), (by omega), rfl, rfl, rfl, rfl, rfl, rfl, rfl, rfl, rfl, rfl, rfl, rfl, rfl⟩
    · have c12 := zz_nle c12
      have l14 : (1 : Int32).toInt = 1 := rfl
      refine zz_ok_bind (ff_X7_addLooked K hK T hT n0 n1 n2 n3 n4 n5 n6 ((1 : Int32)) s1 s2 s3 s4 s5 s6 s7 s8 s9 s10 s11 s12 s13) ?_
      intro z15 hz15
      obtain ⟨t_2_0, t_2_1, t_2_2, t_2_3, t_2_4, t_2_5, t_2_6, t_2_7, t_2_8, t_2_9, t_2_10, t_2_11, t_2_12⟩ := z15
      have q16 : t_2_0 = s1 := hz15.1
      have q17 : t_2_1 = s2 := hz15.2.1
      have q18 : t_2_2 = s3 := hz15.2.2.1
      have q19 : t_2_4 = s5 := hz15.2.2.2.1
      have q20 : t_2_5 = s6 := hz15.2.2.2.2.1
      have q21 : t_2_6 = s7 := hz15.2.2.2.2.2.1
      have q22 : t_2_7 = s8 := hz15.2.2.2.2.2.2.1
      have q23 : t_2_8 = s9 := hz15.2.2.2.2.2.2.2.1
      have q24 : t_2_9 = s10 := hz15.2.2.2.2.2.2.2.2.1
      have q25 : t_2_10 = s11 := hz15.2.2.2.2.2.2.2.2.2.1
      have q26 : t_2_11 = s12 := hz15.2.2.2.2.2.2.2.2.2.2.1
      have q27 : t_2_12 = s13 := hz15.2.2.2.2.2.2.2.2.2.2.2
      clear hz15
      have e28 : s1 = t_2_0 := q16.symm
      subst e28
      have e29 : s2 = t_2_1 := q17.symm
      subst e29
      have e30 : s3 = t_2_2 := q18.symm
      subst e30
      have e31 : s5 = t_2_4 := q19.symm
      subst e31
      have e32 : s6 = t_2_5 := q20.symm
      subst e32
      have e33 : s7 = t_2_6 := q21.symm
      subst e33
      have e34 : s8 = t_2_7 := q22.symm
      subst e34
      have e35 : s9 = t_2_8 := q23.symm
      subst e35
      have e36 : s10 = t_2_9 := q24.symm
      subst e36
      have e37 : s11 = t_2_10 := q25.symm
      subst e37
      have e38 : s12 = t_2_11 := q26.symm
      subst e38
      have e39 : s13 = t_2_12 := q27.symm
      subst e39
      have g40 := zz_rg t_2_3
      show zz_ok (if ¬ (x4 < 0 ∨ n7 ≤ x4.toNatClampNeg) then (if (s14 x4.toNatClampNeg) = 0 then (if (x3 + ((1 : Int32))) = x1 then ((m_X5_setPages K n0 n1 n2 n3 n4 n5 n6 n7 n8 ((x4 - x1) + ((1 : Int32))) x1 x2 s0 s1 s2 s3 t_2_3 s5 s6 s7 s8 s9 s10 s11 s12 s13 s14 s15).bind fun ⟨t_8_0, t_8_1, t_8_2, t_8_3, t_8_4, t_8_5, t_8_6, t_8_7, t_8_8, t_8_9, t_8_10, t_8_11, t_8_12, t_8_13, t_8_14, t_8_15⟩ => some (((x4 - x1) + ((1 : Int32))) * ((32 : Int32)), t_8_0, t_8_1, t_8_2, t_8_3, t_8_4, t_8_5, t_8_6, t_8_7, t_8_8, t_8_9, t_8_10, t_8_11, t_8_12, t_8_13, t_8_14, t_8_15)) else (m_X5_takeRow_L5 K n0 n1 n2 n3 n4 n5 n6 n7 n8 k x1 x2 (x3 + ((1 : Int32))) (x4 + 1) s0 s1 s2 s3 t_2_3 s5 s6 s7 s8 s9 s10 s11 s12 s13 s14 s15)) else (if ((0 : Int32)) = x1 then ((m_X5_setPages K n0 n1 n2 n3 n4 n5 n6 n7 n8 ((x4 - x1) + ((1 : Int32))) x1 x2 s0 s1 s2 s3 t_2_3 s5 s6 s7 s8 s9 s10 s11 s12 s13 s14 s15).bind fun ⟨t_6_0, t_6_1, t_6_2, t_6_3, t_6_4, t_6_5, t_6_6, t_6_7, t_6_8, t_6_9, t_6_10, t_6_11, t_6_12, t_6_13, t_6_14, t_6_15⟩ => some (((x4 - x1) + ((1 : Int32))) * ((32 : Int32)), t_6_0, t_6_1, t_6_2, t_6_3, t_6_4, t_6_5, t_6_6, t_6_7, t_6_8, t_6_9, t_6_10, t_6_11, t_6_12, t_6_13, t_6_14, t_6_15)) else (m_X5_takeRow_L5 K n0 n1 n2 n3 n4 n5 n6 n7 n8 k x1 x2 ((0 : Int32)) (x4 + 1) s0 s1 s2 s3 t_2_3 s5 s6 s7 s8 s9 s10 s11 s12 s13 s14 s15))) else none) _
      refine zz_ok_chk (zz_ix (by omega) (by omega)) ?_
      have g41 := zz_tnI x4 (by omega)
      have g43 := zz_rg (s14 x4.toNatClampNeg)
      have l44 : (0 : Int32).toInt = 0 := rfl
      refine zz_ok_ite (fun c42 => ?_) (fun c42 => ?_)
      · have c42 := congrArg Int32.toInt c42
        obtain ⟨k46, f47⟩ := zz_add x3 (1 : Int32)
        have g48 := zz_rg (x3 + ((1 : Int32)))
        refine zz_ok_ite (fun c45 => ?_) (fun c45 => ?_)
        · have c45 := congrArg Int32.toInt c45
          obtain ⟨k49, f50⟩ := zz_sub x4 x1
          have g51 := zz_rg (x4 - x1)
          obtain ⟨k52, f53⟩ := zz_add (x4 - x1) (1 : Int32)
          have g54 := zz_rg ((x4 - x1) + ((1 : Int32)))
          refine zz_ok_bind (gg_X5_setPages K hK T hT n0 n1 n2 n3 n4 n5 n6 n7 n8 ((x4 - x1) + ((1 : Int32))) x1 x2 s0 s1 s2 s3 t_2_3 s5 s6 s7 s8 s9 s10 s11 s12 s13 s14 s15 a0 a1 a2 a3 a4 a5 a6 a7 a8 a9 a10 a11 a12 (by omega) (by omega) (by omega)) ?_
          intro z55 hz55
          obtain ⟨t_8_0, t_8_1, t_8_2, t_8_3, t_8_4, t_8_5, t_8_6, t_8_7, t_8_8, t_8_9, t_8_10, t_8_11, t_8_12, t_8_13, t_8_14, t_8_15⟩ := z55
          have q56 : zz_wr (s14) (t_8_14) ((x4 - x1) + ((1 : Int32))).toInt (((x4 - x1) + ((1 : Int32))).toInt + x1.toInt) (x2) := hz55.1
          have q57 : zz_wk x2.toInt (s15) (t_8_15) ((x4 - x1) + ((1 : Int32))).toInt (((x4 - x1) + ((1 : Int32))).toInt + x1.toInt) := hz55.2.1
          have q58 : t_8_0 = s0 := hz55.2.2.1
          have q59 : t_8_1 = s1 := hz55.2.2.2.1
          have q60 : t_8_2 = s2 := hz55.2.2.2.2.1
          have q61 : t_8_3 = s3 := hz55.2.2.2.2.2.1
          have q62 : t_8_4 = t_2_3 := hz55.2.2.2.2.2.2.1
          have q63 : t_8_5 = s5 := hz55.2.2.2.2.2.2.2.1
          have q64 : t_8_6 = s6 := hz55.2.2.2.2.2.2.2.2.1
          have q65 : t_8_7 = s7 := hz55.2.2.2.2.2.2.2.2.2.1
          have q66 : t_8_8 = s8 := hz55.2.2.2.2.2.2.2.2.2.2.1
          have q67 : t_8_9 = s9 := hz55.2.2.2.2.2.2.2.2.2.2.2.1
          have q68 : t_8_10 = s10 := hz55.2.2.2.2.2.2.2.2.2.2.2.2.1
          have q69 : t_8_11 = s11 := hz55.2.2.2.2.2.2.2.2.2.2.2.2.2.1
          have q70 : t_8_12 = s12 := hz55.2.2.2.2.2.2.2.2.2.2.2.2.2.2.1
          have q71 : t_8_13 = s13 := hz55.2.2.2.2.2.2.2.2.2.2.2.2.2.2.2
          clear hz55
          have e72 : s0 = t_8_0 := q58.symm
          subst e72
          have e73 : s1 = t_8_1 := q59.symm
          subst e73
          have e74 : s2 = t_8_2 := q60.symm
          subst e74
          have e75 : s3 = t_8_3 := q61.symm
          subst e75
          have e76 : t_2_3 = t_8_4 := q62.symm
          subst e76
          have e77 : s5 = t_8_5 := q63.symm
          subst e77
          have e78 : s6 = t_8_6 := q64.symm
          subst e78
          have e79 : s7 = t_8_7 := q65.symm
          subst e79
          have e80 : s8 = t_8_8 := q66.symm
          subst e80
          have e81 : s9 = t_8_9 := q67.symm
          subst e81
          have e82 : s10 = t_8_10 := q68.symm
          subst e82
          have e83 : s11 = t_8_11 := q69.symm
          subst e83
          have e84 : s12 = t_8_12 := q70.symm
          subst e84
          have e85 : s13 = t_8_13 := q71.symm
          subst e85
          show zz_ok (some (((x4 - x1) + ((1 : Int32))) * ((32 : Int32)), s0, s1, s2, s3, t_2_3, s5, s6, s7, s8, s9, s10, s11, s12, s13, t_8_14, t_8_15)) _
          have l86 : (32 : Int32).toInt = 32 := rfl
          obtain ⟨k87, f88⟩ := zz_mul ((x4 - x1) + ((1 : Int32))) (32 : Int32)
          rw [show (32 : Int32).toInt = 32 from rfl] at f88
          have g89 := zz_rg (((x4 - x1) + ((1 : Int32))) * ((32 : Int32)))
          refine zz_ok_some ?_
          show zz_tr5 (s14) (s15) (t_8_14) (t_8_15) s0.toInt x1.toInt (x2) (((x4 - x1) + ((1 : Int32))) * ((32 : Int32))).toInt ∧ -1 ≤ (((x4 - x1) + ((1 : Int32))) * ((32 : Int32))).toInt ∧ s0 = s0 ∧ s1 = s1 ∧ s2 = s2 ∧ s3 = s3 ∧ s5 = s5 ∧ s6 = s6 ∧ s7 = s7 ∧ s8 = s8 ∧ s9 = s9 ∧ s10 = s10 ∧ s11 = s11 ∧ s12 = s12 ∧ s13 = s13
          exact ⟨(by first | assumption | exact zz_tr5_n (zz_fr5_end (by assumption) (by omega) rfl) (by first | omega | decide) | exact zz_tr5_y (zz_fr5_hit (i := x4.toNatClampNeg) (by assumption) (by omega) (by omega) (by omega) (by omega) rfl) (by assumption) (by assumption) rfl (by omega) (by omega) (by omega) (by omega) (by omega) (by omega)), (by omega), rfl, rfl, rfl, rfl, rfl, rfl, rfl, rfl, rfl, rfl, rfl, rfl, rfl⟩
        · have c45 := zz_neq c45
          obtain ⟨k90, f91⟩ := zz_add x4 (1 : Int32)
          have g92 := zz_rg (x4 + 1)
          refine (ih x1 x2 (x3 + ((1 : Int32))) (x4 + 1) s0 s1 s2 s3 t_2_3 s5 s6 s7 s8 s9 s10 s11 s12 s13 s14 s15 a0 a1 a2 a3 a4 a5 a6 a7 a8 a9 a10 a11 a12 a13 a14 (by omega) (by omega) (by first | exact zz_k5_free (i := x4.toNatClampNeg) (by assumption) (by omega) (by omega) (by omega) (by omega) (by omega) | exact zz_k5_no (i := x4.toNatClampNeg) (by assumption) (by omega) (by omega) (by first | omega | decide) (by omega) (by omega)) (by omega) (by omega) (by omega)).mono (fun z hz => ?_)
          obtain ⟨y93_0, y93_1, y93_2, y93_3, y93_4, y93_5, y93_6, y93_7, y93_8, y93_9, y93_10, y93_11, y93_12, y93_13, y93_14, y93_15, y93_16⟩ := z
          have q94 : zz_tr5 (s14) (s15) (y93_15) (y93_16) s0.toInt x1.toInt (x2) y93_0.toInt := hz.1
          have q95 : -1 ≤ y93_0.toInt := hz.2.1
          have q96 : y93_1 = s0 := hz.2.2.1
          have q97 : y93_2 = s1 := hz.2.2.2.1
          have q98 : y93_3 = s2 := hz.2.2.2.2.1
          have q99 : y93_4 = s3 := hz.2.2.2.2.2.1
          have q100 : y93_6 = s5 := hz.2.2.2.2.2.2.1
          have q101 : y93_7 = s6 := hz.2.2.2.2.2.2.2.1
          have q102 : y93_8 = s7 := hz.2.2.2.2.2.2.2.2.1
          have q103 : y93_9 = s8 := hz.2.2.2.2.2.2.2.2.2.1
          have q104 : y93_10 = s9 := hz.2.2.2.2.2.2.2.2.2.2.1
          have q105 : y93_11 = s10 := hz.2.2.2.2.2.2.2.2.2.2.2.1
          have q106 : y93_12 = s11 := hz.2.2.2.2.2.2.2.2.2.2.2.2.1
          have q107 : y93_13 = s12 := hz.2.2.2.2.2.2.2.2.2.2.2.2.2.1
          have q108 : y93_14 = s13 := hz.2.2.2.2.2.2.2.2.2.2.2.2.2.2
          clear hz
          have e109 : s0 = y93_1 := q96.symm
          subst e109
          have e110 : s1 = y93_2 := q97.symm
          subst e110
          have e111 : s2 = y93_3 := q98.symm
          subst e111
          have e112 : s3 = y93_4 := q99.symm
          subst e112
          have e113 : s5 = y93_6 := q100.symm
          subst e113
          have e114 : s6 = y93_7 := q101.symm
          subst e114
          have e115 : s7 = y93_8 := q102.symm
          subst e115
          have e116 : s8 = y93_9 := q103.symm
          subst e116
          have e117 : s9 = y93_10 := q104.symm
          subst e117
          have e118 : s10 = y93_11 := q105.symm
          subst e118
          have e119 : s11 = y93_12 := q106.symm
          subst e119
          have e120 : s12 = y93_13 := q107.symm
          subst e120
          have e121 : s13 = y93_14 := q108.symm
          subst e121
          have g122 := zz_rg y93_0
          have g123 := zz_rg y93_5
          show zz_tr5 (s14) (s15) (y93_15) (y93_16) s0.toInt x1.toInt (x2) y93_0.toInt ∧ -1 ≤ y93_0.toInt ∧ s0 = s0 ∧ s1 = s1 ∧ s2 = s2 ∧ s3 = s3 ∧ s5 = s5 ∧ s6 = s6 ∧ s7 = s7 ∧ s8 = s8 ∧ s9 = s9 ∧ s10 = s10 ∧ s11 = s11 ∧ s12 = s12 ∧ s13 = s13
          exact ⟨q94, q95, rfl, rfl, rfl, rfl, rfl, rfl, rfl, rfl, rfl, rfl, rfl, rfl, rfl⟩
      · have c42 := zz_neq c42
        refine zz_ok_ite (fun c124 => ?_) (fun c124 => ?_)
        · have c124 := congrArg Int32.toInt c124
          obtain ⟨k125, f126⟩ := zz_sub x4 x1
          have g127 := zz_rg (x4 - x1)
          obtain ⟨k128, f129⟩ := zz_add (x4 - x1) (1 : Int32)
          have g130 := zz_rg ((x4 - x1) + ((1 : Int32)))
          refine zz_ok_bind (gg_X5_setPages K hK T hT n0 n1 n2 n3 n4 n5 n6 n7 n8 ((x4 - x1) + ((1 : Int32))) x1 x2 s0 s1 s2 s3 t_2_3 s5 s6 s7 s8 s9 s10 s11 s12 s13 s14 s15 a0 a1 a2 a3 a4 a5 a6 a7 a8 a9 a10 a11 a12 (by omega) (by omega) (by omega)) ?_
          intro z131 hz131
          obtain ⟨t_6_0, t_6_1, t_6_2, t_6_3, t_6_4, t_6_5, t_6_6, t_6_7, t_6_8, t_6_9, t_6_10, t_6_11, t_6_12, t_6_13, t_6_14, t_6_15⟩ := z131
          have q132 : zz_wr (s14) (t_6_14) ((x4 - x1) + ((1 : Int32))).toInt (((x4 - x1) + ((1 : Int32))).toInt + x1.toInt) (x2) := hz131.1
          have q133 : zz_wk x2.toInt (s15) (t_6_15) ((x4 - x1) + ((1 : Int32))).toInt (((x4 - x1) + ((1 : Int32))).toInt + x1.toInt) := hz131.2.1
          have q134 : t_6_0 = s0 := hz131.2.2.1
          have q135 : t_6_1 = s1 := hz131.2.2.2.1
          have q136 : t_6_2 = s2 := hz131.2.2.2.2.1
          have q137 : t_6_3 = s3 := hz131.2.2.2.2.2.1
          have q138 : t_6_4 = t_2_3 := hz131.2.2.2.2.2.2.1
          have q139 : t_6_5 = s5 := hz131.2.2.2.2.2.2.2.1
          have q140 : t_6_6 = s6 := hz131.2.2.2.2.2.2.2.2.1
          have q141 : t_6_7 = s7 := hz131.2.2.2.2.2.2.2.2.2.1
          have q142 : t_6_8 = s8 := hz131.2.2.2.2.2.2.2.2.2.2.1
          have q143 : t_6_9 = s9 := hz131.2.2.2.2.2.2.2.2.2.2.2.1
          have q144 : t_6_10 = s10 := hz131.2.2.2.2.2.2.2.2.2.2.2.2.1
          have q145 : t_6_11 = s11 := hz131.2.2.2.2.2.2.2.2.2.2.2.2.2.1
          have q146 : t_6_12 = s12 := hz131.2.2.2.2.2.2.2.2.2.2.2.2.2.2.1
          have q147 : t_6_13 = s13 := hz131.2.2.2.2.2.2.2.2.2.2.2.2.2.2.2
          clear hz131
          have e148 : s0 = t_6_0 := q134.symm
          subst e148
          have e149 : s1 = t_6_1 := q135.symm
          subst e149
          have e150 : s2 = t_6_2 := q136.symm
          subst e150
          have e151 : s3 = t_6_3 := q137.symm
          subst e151
          have e152 : t_2_3 = t_6_4 := q138.symm
          subst e152
          have e153 : s5 = t_6_5 := q139.symm
          subst e153
          have e154 : s6 = t_6_6 := q140.symm
          subst e154
          have e155 : s7 = t_6_7 := q141.symm
          subst e155
          have e156 : s8 = t_6_8 := q142.symm
          subst e156
          have e157 : s9 = t_6_9 := q143.symm
          subst e157
          have e158 : s10 = t_6_10 := q144.symm
          subst e158
          have e159 : s11 = t_6_11 := q145.symm
          subst e159
          have e160 : s12 = t_6_12 := q146.symm
          subst e160
          have e161 : s13 = t_6_13 := q147.symm
          subst e161
          show zz_ok (some (((x4 - x1) + ((1 : Int32))) * ((32 : Int32)), s0, s1, s2, s3, t_2_3, s5, s6, s7, s8, s9, s10, s11, s12, s13, t_6_14, t_6_15)) _
          have l162 : (32 : Int32).toInt = 32 := rfl
          obtain ⟨k163, f164⟩ := zz_mul ((x4 - x1) + ((1 : Int32))) (32 : Int32)
          rw [show (32 : Int32).toInt = 32 from rfl] at f164
          have g165 := zz_rg (((x4 - x1) + ((1 : Int32))) * ((32 : Int32)))
          refine zz_ok_some ?_
          show zz_tr5 (s14) (s15) (t_6_14) (t_6_15) s0.toInt x1.toInt (x2) (((x4 - x1) + ((1 : Int32))) * ((32 : Int32))).toInt ∧ -1 ≤ (((x4 - x1) + ((1 : Int32))) * ((32 : Int32))).toInt ∧ s0 = s0 ∧ s1 = s1 ∧ s2 = s2 ∧ s3 = s3 ∧ s5 = s5 ∧ s6 = s6 ∧ s7 = s7 ∧ s8 = s8 ∧ s9 = s9 ∧ s10 = s10 ∧ s11 = s11 ∧ s12 = s12 ∧ s13 = s13
          exact ⟨(by first | assumption | exact zz_tr5_n (zz_fr5_end (by assumption) (by omega) rfl) (by first | omega | decide) | exact zz_tr5_y (zz_fr5_hit (i := x4.toNatClampNeg) (by assumption) (by omega) (by omega) (by omega) (by omega) rfl) (by assumption) (by assumption) rfl (by omega) (by omega) (by omega) (by omega) (by omega) (by omega)), (by omega), rfl, rfl, rfl, rfl, rfl, rfl, rfl, rfl, rfl, rfl, rfl, rfl, rfl⟩
        · have c124 := zz_neq c124
          obtain ⟨k166, f167⟩ := zz_add x4 (1 : Int32)
          have g168 := zz_rg (x4 + 1)
          refine (ih x1 x2 ((0 : Int32)) (x4 + 1) s0 s1 s2 s3 t_2_3 s5 s6 s7 s8 s9 s10 s11 s12 s13 s14 s15 a0 a1 a2 a3 a4 a5 a6 a7 a8 a9 a10 a11 a12 a13 a14 (by omega) (by omega) (by first | exact zz_k5_free (i := x4.toNatClampNeg) (by assumption) (by omega) (by omega) (by omega) (by omega) (by omega) | exact zz_k5_no (i := x4.toNatClampNeg) (by assumption) (by omega) (by omega) (by first | omega | decide) (by omega) (by omega)) (by omega) (by omega) (by omega)).mono (fun z hz => ?_)
          obtain ⟨y169_0, y169_1, y169_2, y169_3, y169_4, y169_5, y169_6, y169_7, y169_8, y169_9, y169_10, y169_11, y169_12, y169_13, y169_14, y169_15, y169_16⟩ := z
          have q170 : zz_tr5 (s14) (s15) (y169_15) (y169_16) s0.toInt x1.toInt (x2) y169_0.toInt := hz.1
          have q171 : -1 ≤ y169_0.toInt := hz.2.1
          have q172 : y169_1 = s0 := hz.2.2.1
          have q173 : y169_2 = s1 := hz.2.2.2.1
          have q174 : y169_3 = s2 := hz.2.2.2.2.1
          have q175 : y169_4 = s3 := hz.2.2.2.2.2.1
          have q176 : y169_6 = s5 := hz.2.2.2.2.2.2.1
          have q177 : y169_7 = s6 := hz.2.2.2.2.2.2.2.1
          have q178 : y169_8 = s7 := hz.2.2.2.2.2.2.2.2.1
          have q179 : y169_9 = s8 := hz.2.2.2.2.2.2.2.2.2.1
          have q180 : y169_10 = s9 := hz.2.2.2.2.2.2.2.2.2.2.1
          have q181 : y169_11 = s10 := hz.2.2.2.2.2.2.2.2.2.2.2.1
          have q182 : y169_12 = s11 := hz.2.2.2.2.2.2.2.2.2.2.2.2.1
          have q183 : y169_13 = s12 := hz.2.2.2.2.2.2.2.2.2.2.2.2.2.1
          have q184 : y169_14 = s13 := hz.2.2.2.2.2.2.2.2.2.2.2.2.2.2
          clear hz
          have e185 : s0 = y169_1 := q172.symm
          subst e185
          have e186 : s1 = y169_2 := q173.symm
          subst e186
          have e187 : s2 = y169_3 := q174.symm
          subst e187
          have e188 : s3 = y169_4 := q175.symm
          subst e188
          have e189 : s5 = y169_6 := q176.symm
          subst e189
          have e190 : s6 = y169_7 := q177.symm
          subst e190
          have e191 : s7 = y169_8 := q178.symm
          subst e191
          have e192 : s8 = y169_9 := q179.symm
          subst e192
          have e193 : s9 = y169_10 := q180.symm
          subst e193
          have e194 : s10 = y169_11 := q181.symm
          subst e194
          have e195 : s11 = y169_12 := q182.symm
          subst e195
          have e196 : s12 = y169_13 := q183.symm
          subst e196
          have e197 : s13 = y169_14 := q184.symm
          subst e197
          have g198 := zz_rg y169_0
          have g199 := zz_rg y169_5
          show zz_tr5 (s14) (s15) (y169_15) (y169_16) s0.toInt x1.toInt (x2) y169_0.toInt ∧ -1 ≤ y169_0.toInt ∧ s0 = s0 ∧ s1 = s1 ∧ s2 = s2 ∧ s3 = s3 ∧ s5 = s5 ∧ s6 = s6 ∧ s7 = s7 ∧ s8 = s8 ∧ s9 = s9 ∧ s10 = s10 ∧ s11 = s11 ∧ s12 = s12 ∧ s13 = s13
          exact ⟨q170, q171, rfl, rfl, rfl, rfl, rfl, rfl, rfl, rfl, rfl, rfl, rfl, rfl, rfl⟩
set_option maxHeartbeats 4000000 in
theorem gg_X5_takeRow (K : Nat) (hK : 1099511627776 ≤ K) (T : Nat) (hT : T ≤ 900) (n0 : Nat) (n1 : Nat) (n2 : Nat) (n3 : Nat) (n4 : Nat) (n5 : Nat) (n6 : Nat) (n7 : Nat) (n8 : Nat) (p1 : Int32) (p2 : Int32) (s0 : Int32) (s1 : Int32) (s2 : Int32) (s3 : Int32) (s4 : Int32) (s5 : Nat → Int32) (s6 : Nat → Int32) (s7 : Nat → Int32) (s8 : Nat → Int32) (s9 : Nat → Int32) (s10 : Int32) (s11 : Int32) (s12 : Nat → Int32) (s13 : Nat → Int32) (s14 : Nat → Int32) (s15 : Nat → Int32) (a0 : n0 = 1024) (a1 : n1 = 200) (a2 : n2 = 200) (a3 : n3 = 200) (a4 : n4 = 200) (a5 : n5 = 512) (a6 : n6 = 512) (a7 : 0 ≤ s1.toInt) (a8 : s1.toInt ≤ 1024) (a9 : n7 = 32) (a10 : n8 = 32) (a11 : 0 ≤ s0.toInt) (a12 : 32 * s0.toInt ≤ s1.toInt) (a13 : 1 ≤ p1.toInt) (a14 : p1.toInt ≤ 32) : zz_ok (m_X5_takeRow K n0 n1 n2 n3 n4 n5 n6 n7 n8 p1 p2 s0 s1 s2 s3 s4 s5 s6 s7 s8 s9 s10 s11 s12 s13 s14 s15) (fun z => zz_tr5 (s14) (s15) (z.2.2.2.2.2.2.2.2.2.2.2.2.2.2.2.1) (z.2.2.2.2.2.2.2.2.2.2.2.2.2.2.2.2) s0.toInt p1.toInt (p2) z.1.toInt ∧ -1 ≤ z.1.toInt ∧ z.2.1 = s0 ∧ z.2.2.1 = s1 ∧ z.2.2.2.1 = s2 ∧ z.2.2.2.2.1 = s3 ∧ z.2.2.2.2.2.2.1 = s5 ∧ z.2.2.2.2.2.2.2.1 = s6 ∧ z.2.2.2.2.2.2.2.2.1 = s7 ∧ z.2.2.2.2.2.2.2.2.2.1 = s8 ∧ z.2.2.2.2.2.2.2.2.2.2.1 = s9 ∧ z.2.2.2.2.2.2.2.2.2.2.2.1 = s10 ∧ z.2.2.2.2.2.2.2.2.2.2.2.2.1 = s11 ∧ z.2.2.2.2.2.2.2.2.2.2.2.2.2.1 = s12 ∧ z.2.2.2.2.2.2.2.2.2.2.2.2.2.2.1 = s13) := by
  have g1 := zz_rg p1
  have g2 := zz_rg p2
  have g3 := zz_rg s0
  have g4 := zz_rg s1
  have g5 := zz_rg s2
  have g6 := zz_rg s3
  have g7 := zz_rg s4
  have g8 := zz_rg s10
  have g9 := zz_rg s11
  unfold m_X5_takeRow
  have l10 : (0 : Int32).toInt = 0 := rfl
  refine (gg_X5_takeRow_L5 K hK T hT n0 n1 n2 n3 n4 n5 n6 n7 n8 K p1 p2 ((0 : Int32)) ((0 : Int32)) s0 s1 s2 s3 s4 s5 s6 s7 s8 s9 s10 s11 s12 s13 s14 s15 a0 a1 a2 a3 a4 a5 a6 a7 a8 a9 a10 a11 a12 a13 a14 (by omega) (by omega) (by exact zz_k5_0 (by first | omega | decide) (by first | omega | decide) (by omega)) (by omega) (by omega) (by omega)).mono (fun z hz => ?_)
  obtain ⟨y11_0, y11_1, y11_2, y11_3, y11_4, y11_5, y11_6, y11_7, y11_8, y11_9, y11_10, y11_11, y11_12, y11_13, y11_14, y11_15, y11_16⟩ := z
  have q12 : zz_tr5 (s14) (s15) (y11_15) (y11_16) s0.toInt p1.toInt (p2) y11_0.toInt := hz.1
  have q13 : -1 ≤ y11_0.toInt := hz.2.1
  have q14 : y11_1 = s0 := hz.2.2.1
  have q15 : y11_2 = s1 := hz.2.2.2.1
  have q16 : y11_3 = s2 := hz.2.2.2.2.1
  have q17 : y11_4 = s3 := hz.2.2.2.2.2.1
  have q18 : y11_6 = s5 := hz.2.2.2.2.2.2.1
  have q19 : y11_7 = s6 := hz.2.2.2.2.2.2.2.1
  have q20 : y11_8 = s7 := hz.2.2.2.2.2.2.2.2.1
  have q21 : y11_9 = s8 := hz.2.2.2.2.2.2.2.2.2.1
  have q22 : y11_10 = s9 := hz.2.2.2.2.2.2.2.2.2.2.1
  have q23 : y11_11 = s10 := hz.2.2.2.2.2.2.2.2.2.2.2.1
  have q24 : y11_12 = s11 := hz.2.2.2.2.2.2.2.2.2.2.2.2.1
  have q25 : y11_13 = s12 := hz.2.2.2.2.2.2.2.2.2.2.2.2.2.1
  have q26 : y11_14 = s13 := hz.2.2.2.2.2.2.2.2.2.2.2.2.2.2
  clear hz
  have e27 : s0 = y11_1 := q14.symm
  subst e27
  have e28 : s1 = y11_2 := q15.symm
  subst e28
  have e29 : s2 = y11_3 := q16.symm
  subst e29
  have e30 : s3 = y11_4 := q17.symm
  subst e30
  have e31 : s5 = y11_6 := q18.symm
  subst e31
  have e32 : s6 = y11_7 := q19.symm
  subst e32
  have e33 : s7 = y11_8 := q20.symm
  subst e33
  have e34 : s8 = y11_9 := q21.symm
  subst e34
  have e35 : s9 = y11_10 := q22.symm
  subst e35
  have e36 : s10 = y11_11 := q23.symm
  subst e36
  have e37 : s11 = y11_12 := q24.symm
  subst e37
  have e38 : s12 = y11_13 := q25.symm
  subst e38
  have e39 : s13 = y11_14 := q26.symm
  subst e39
  have g40 := zz_rg y11_0
  have g41 := zz_rg y11_5
  show zz_tr5 (s14) (s15) (y11_15) (y11_16) s0.toInt p1.toInt (p2) y11_0.toInt ∧ -1 ≤ y11_0.toInt ∧ s0 = s0 ∧ s1 = s1 ∧ s2 = s2 ∧ s3 = s3 ∧ s5 = s5 ∧ s6 = s6 ∧ s7 = s7 ∧ s8 = s8 ∧ s9 = s9 ∧ s10 = s10 ∧ s11 = s11 ∧ s12 = s12 ∧ s13 = s13
  exact ⟨q12, q13, rfl, rfl, rfl, rfl, rfl, rfl, rfl, rfl, rfl, rfl, rfl, rfl, rfl⟩
set_option maxHeartbeats 4000000 in
theorem gg_X5_freePlaceIn_L13 (K : Nat) (hK : 1099511627776 ≤ K) (T : Nat) (hT : T ≤ 900) (n0 : Nat) (n1 : Nat) (n2 : Nat) (n3 : Nat) (n4 : Nat) (n5 : Nat) (n6 : Nat) (n7 : Nat) (n8 : Nat) : ∀ (k : Nat) (x1 : Int32) (x2 : Int32) (x3 : Int32) (x4 : Int32) (s0 : Int32) (s1 : Int32) (s2 : Int32) (s3 : Int32) (s4 : Int32) (s5 : Nat → Int32) (s6 : Nat → Int32) (s7 : Nat → Int32) (s8 : Nat → Int32) (s9 : Nat → Int32) (s10 : Int32) (s11 : Int32) (s12 : Nat → Int32) (s13 : Nat → Int32) (s14 : Nat → Int32) (s15 : Nat → Int32), n0 = 1024 → n1 = 200 → n2 = 200 → n3 = 200 → n4 = 200 → n5 = 512 → n6 = 512 → 0 ≤ s1.toInt → s1.toInt ≤ 1024 → n7 = 32 → n8 = 32 → 0 ≤ s0.toInt → 32 * s0.toInt ≤ s1.toInt → 0 ≤ x1.toInt → x1.toInt < s0.toInt → ((x2.toInt = 1 ∧ x4.toInt % 1 = 0) ∨ (x2.toInt = 2 ∧ x4.toInt % 2 = 0) ∨ (x2.toInt = 4 ∧ x4.toInt % 4 = 0) ∨ (x2.toInt = 8 ∧ x4.toInt % 8 = 0) ∨ (x2.toInt = 16 ∧ x4.toInt % 16 = 0) ∨ (x2.toInt = 32 ∧ x4.toInt % 32 = 0)) → x3.toInt = 32 * x1.toInt + 32 → 32 * x1.toInt ≤ x4.toInt → x4.toInt ≤ 32 * x1.toInt + 32 → 2000 - x4.toInt < (k : Int) → zz_ok (m_X5_freePlaceIn_L13 K n0 n1 n2 n3 n4 n5 n6 n7 n8 k x1 x2 x3 x4 s0 s1 s2 s3 s4 s5 s6 s7 s8 s9 s10 s11 s12 s13 s14 s15) (fun z => zz_fq5 (fun y => (s5 y.toNat).toInt = -1) x1.toInt x2.toInt x4.toInt z.1.toInt ∧ -1 ≤ z.1.toInt ∧ z.2.1 = s0 ∧ z.2.2.1 = s1 ∧ z.2.2.2.1 = s2 ∧ z.2.2.2.2.1 = s3 ∧ z.2.2.2.2.2.1 = s4 ∧ z.2.2.2.2.2.2.1 = s5 ∧ z.2.2.2.2.2.2.2.1 = s6 ∧ z.2.2.2.2.2.2.2.2.1 = s7 ∧ z.2.2.2.2.2.2.2.2.2.1 = s8 ∧ z.2.2.2.2.2.2.2.2.2.2.1 = s9 ∧ z.2.2.2.2.2.2.2.2.2.2.2.1 = s10 ∧ z.2.2.2.2.2.2.2.2.2.2.2.2.1 = s11 ∧ z.2.2.2.2.2.2.2.2.2.2.2.2.2.1 = s12 ∧ z.2.2.2.2.2.2.2.2.2.2.2.2.2.2.1 = s13 ∧ z.2.2.2.2.2.2.2.2.2.2.2.2.2.2.2.1 = s14 ∧ z.2.2.2.2.2.2.2.2.2.2.2.2.2.2.2.2 = s15) := by
  intro k
  induction k with
  | zero =>
    intro x1 x2 x3 x4 s0 s1 s2 s3 s4 s5 s6 s7 s8 s9 s10 s11 s12 s13 s14 s15 a0 a1 a2 a3 a4 a5 a6 a7 a8 a9 a10 a11 a12 a13 a14 a15 a16 a17 a18 hz9
    exfalso
    have g_x1 := zz_rg x1
    have g_x2 := zz_rg x2
    have g_x3 := zz_rg x3
    have g_x4 := zz_rg x4
    have g_s0 := zz_rg s0
    have g_s1 := zz_rg s1
    have g_s2 := zz_rg s2
    have g_s3 := zz_rg s3
    have g_s4 := zz_rg s4
    have g_s10 := zz_rg s10
    have g_s11 := zz_rg s11
    omega
  | succ k ih =>
    intro x1 x2 x3 x4 s0 s1 s2 s3 s4 s5 s6 s7 s8 s9 s10 s11 s12 s13 s14 s15 a0 a1 a2 a3 a4 a5 a6 a7 a8 a9 a10 a11 a12 a13 a14 a15 a16 a17 a18 hz9
    rw [m_X5_freePlaceIn_L13_s]
    have g1 := zz_rg x1
    have g2 := zz_rg x2
    have g3 := zz_rg x3
    have g4 := zz_rg x4
    have g5 := zz_rg s0
    have g6 := zz_rg s1
    have g7 := zz_rg s2
    have g8 := zz_rg s3
    have g9 := zz_rg s4
    have g10 := zz_rg s10
    have g11 := zz_rg s11
    refine zz_ok_ite (fun c12 => ?_) (fun c12 => ?_)
    · have c12 := Int32.le_iff_toInt_le.mp c12
      have l13 : (-1 : Int32).toInt = -1 := rfl
      refine zz_ok_some ?_
      show zz_fq5 (fun y => (s5 y.toNat).toInt = -1) x1.toInt x2.toInt x4.toInt (-1 : Int32).toInt ∧ -1 ≤ (-1 : Int32).toInt ∧ s0 = s0 ∧ s1 = s1 ∧ s2 = s2 ∧ s3 = s3 ∧ s4 = s4 ∧ s5 = s5 ∧ s6 = s6 ∧ s7 = s7 ∧ s8 = s8 ∧ s9 = s9 ∧ s10 = s10 ∧ s11 = s11 ∧ s12 = s12 ∧ s13 = s13 ∧ s14 = s14 ∧ s15 = s15
      exact ⟨(by first | exact zz_fq5_end (by omega) (by first | omega | decide) | exact zz_fq5_hit (zz_isf_y (by assumption) (by omega)) (by omega) (by omega) (zz_al_md (by omega)) rfl | exact zz_fq5_next (by assumption) (by omega) (zz_isf_n2 (by assumption) (by omega) (by omega) (by omega)) (by omega) (by omega) (zz_al_md (by omega)) | (exfalso; omega)), (by omega), rfl, rfl, rfl, rfl, rfl, rfl, rfl, rfl, rfl, rfl, rfl, rfl, rfl, rfl, rfl, rfl⟩
    · have c12 := zz_nle c12
      refine zz_ok_bind (ff_X7_isFree K hK T hT n0 n1 n2 n3 n4 n5 n6 x4 s1 s2 s3 s4 s5 s6 s7 s8 s9 s10 s11 s12 s13 a0 a1 a2 a3 a4 a5 a6 a7 a8) ?_
      intro z14 hz14
      obtain ⟨r_2, t_2_0, t_2_1, t_2_2, t_2_3, t_2_4, t_2_5, t_2_6, t_2_7, t_2_8, t_2_9, t_2_10, t_2_11, t_2_12⟩ := z14
      have q15 : (r_2.toInt = 0 ∨ r_2.toInt = 1) := hz14.1
      have q16 : zz_isf s1.toInt (s5) (x4) r_2.toInt := hz14.2.1
      have q17 : t_2_0 = s1 := hz14.2.2.1
      have q18 : t_2_1 = s2 := hz14.2.2.2.1
      have q19 : t_2_2 = s3 := hz14.2.2.2.2.1
      have q20 : t_2_3 = s4 := hz14.2.2.2.2.2.1
      have q21 : t_2_4 = s5 := hz14.2.2.2.2.2.2.1
      have q22 : t_2_5 = s6 := hz14.2.2.2.2.2.2.2.1
      have q23 : t_2_6 = s7 := hz14.2.2.2.2.2.2.2.2.1
      have q24 : t_2_7 = s8 := hz14.2.2.2.2.2.2.2.2.2.1
      have q25 : t_2_8 = s9 := hz14.2.2.2.2.2.2.2.2.2.2.1
      have q26 : t_2_9 = s10 := hz14.2.2.2.2.2.2.2.2.2.2.2.1
      have q27 : t_2_10 = s11 := hz14.2.2.2.2.2.2.2.2.2.2.2.2.1
      have q28 : t_2_11 = s12 := hz14.2.2.2.2.2.2.2.2.2.2.2.2.2.1
      have q29 : t_2_12 = s13 := hz14.2.2.2.2.2.2.2.2.2.2.2.2.2.2
      clear hz14
      have e30 : s1 = t_2_0 := q17.symm
      subst e30
      have e31 : s2 = t_2_1 := q18.symm
      subst e31
      have e32 : s3 = t_2_2 := q19.symm
      subst e32
      have e33 : s4 = t_2_3 := q20.symm
      subst e33
      have e34 : s5 = t_2_4 := q21.symm
      subst e34
      have e35 : s6 = t_2_5 := q22.symm
      subst e35
      have e36 : s7 = t_2_6 := q23.symm
      subst e36
      have e37 : s8 = t_2_7 := q24.symm
      subst e37
      have e38 : s9 = t_2_8 := q25.symm
      subst e38
      have e39 : s10 = t_2_9 := q26.symm
      subst e39
      have e40 : s11 = t_2_10 := q27.symm
      subst e40
      have e41 : s12 = t_2_11 := q28.symm
      subst e41
      have e42 : s13 = t_2_12 := q29.symm
      subst e42
      have g43 := zz_rg r_2
      show zz_ok (if r_2 = 0 then (m_X5_freePlaceIn_L13 K n0 n1 n2 n3 n4 n5 n6 n7 n8 k x1 x2 x3 (x4 + (zz_max x2 ((1 : Int32)))) s0 s1 s2 s3 s4 s5 s6 s7 s8 s9 s10 s11 s12 s13 s14 s15) else (some (x4, s0, s1, s2, s3, s4, s5, s6, s7, s8, s9, s10, s11, s12, s13, s14, s15))) _
      have l45 : (0 : Int32).toInt = 0 := rfl
      refine zz_ok_ite (fun c44 => ?_) (fun c44 => ?_)
      · have c44 := congrArg Int32.toInt c44
        have l46 : (1 : Int32).toInt = 1 := rfl
        have f47 := zz_maxF x2 (1 : Int32)
        have g48 := zz_rg (zz_max x2 ((1 : Int32)))
        obtain ⟨k49, f50⟩ := zz_add x4 (zz_max x2 ((1 : Int32)))
        have g51 := zz_rg (x4 + (zz_max x2 ((1 : Int32))))
        refine (ih x1 x2 x3 (x4 + (zz_max x2 ((1 : Int32)))) s0 s1 s2 s3 s4 s5 s6 s7 s8 s9 s10 s11 s12 s13 s14 s15 a0 a1 a2 a3 a4 a5 a6 a7 a8 a9 a10 a11 a12 a13 a14 (by omega) a16 (by omega) (by omega) (by omega)).mono (fun z hz => ?_)
        obtain ⟨y52_0, y52_1, y52_2, y52_3, y52_4, y52_5, y52_6, y52_7, y52_8, y52_9, y52_10, y52_11, y52_12, y52_13, y52_14, y52_15, y52_16⟩ := z
        have q53 : zz_fq5 (fun y => (s5 y.toNat).toInt = -1) x1.toInt x2.toInt (x4 + (zz_max x2 ((1 : Int32)))).toInt y52_0.toInt := hz.1
        have q54 : -1 ≤ y52_0.toInt := hz.2.1
        have q55 : y52_1 = s0 := hz.2.2.1
        have q56 : y52_2 = s1 := hz.2.2.2.1
        have q57 : y52_3 = s2 := hz.2.2.2.2.1
        have q58 : y52_4 = s3 := hz.2.2.2.2.2.1
        have q59 : y52_5 = s4 := hz.2.2.2.2.2.2.1
        have q60 : y52_6 = s5 := hz.2.2.2.2.2.2.2.1
        have q61 : y52_7 = s6 := hz.2.2.2.2.2.2.2.2.1
        have q62 : y52_8 = s7 := hz.2.2.2.2.2.2.2.2.2.1
        have q63 : y52_9 = s8 := hz.2.2.2.2.2.2.2.2.2.2.1
        have q64 : y52_10 = s9 := hz.2.2.2.2.2.2.2.2.2.2.2.1
        have q65 : y52_11 = s10 := hz.2.2.2.2.2.2.2.2.2.2.2.2.1
        have q66 : y52_12 = s11 := hz.2.2.2.2.2.2.2.2.2.2.2.2.2.1
        have q67 : y52_13 = s12 := hz.2.2.2.2.2.2.2.2.2.2.2.2.2.2.1
        have q68 : y52_14 = s13 := hz.2.2.2.2.2.2.2.2.2.2.2.2.2.2.2.1
        have q69 : y52_15 = s14 := hz.2.2.2.2.2.2.2.2.2.2.2.2.2.2.2.2.1
        have q70 : y52_16 = s15 := hz.2.2.2.2.2.2.2.2.2.2.2.2.2.2.2.2.2
        clear hz
        have e71 : s0 = y52_1 := q55.symm
        subst e71
        have e72 : s1 = y52_2 := q56.symm
        subst e72
        have e73 : s2 = y52_3 := q57.symm
        subst e73
        have e74 : s3 = y52_4 := q58.symm
        subst e74
        have e75 : s4 = y52_5 := q59.symm
        subst e75
        have e76 : s5 = y52_6 := q60.symm
        subst e76
        have e77 : s6 = y52_7 := q61.symm
        subst e77
        have e78 : s7 = y52_8 := q62.symm
        subst e78
        have e79 : s8 = y52_9 := q63.symm
        subst e79
        have e80 : s9 = y52_10 := q64.symm
        subst e80
        have e81 : s10 = y52_11 := q65.symm
        subst e81
        have e82 : s11 = y52_12 := q66.symm
        subst e82
        have e83 : s12 = y52_13 := q67.symm
        subst e83
        have e84 : s13 = y52_14 := q68.symm
        subst e84
        have e85 : s14 = y52_15 := q69.symm
        subst e85
        have e86 : s15 = y52_16 := q70.symm
        subst e86
        have g87 := zz_rg y52_0
        show zz_fq5 (fun y => (s5 y.toNat).toInt = -1) x1.toInt x2.toInt x4.toInt y52_0.toInt ∧ -1 ≤ y52_0.toInt ∧ s0 = s0 ∧ s1 = s1 ∧ s2 = s2 ∧ s3 = s3 ∧ s4 = s4 ∧ s5 = s5 ∧ s6 = s6 ∧ s7 = s7 ∧ s8 = s8 ∧ s9 = s9 ∧ s10 = s10 ∧ s11 = s11 ∧ s12 = s12 ∧ s13 = s13 ∧ s14 = s14 ∧ s15 = s15
        exact ⟨(by first | exact zz_fq5_end (by omega) (by first | omega | decide) | exact zz_fq5_hit (zz_isf_y (by assumption) (by omega)) (by omega) (by omega) (zz_al_md (by omega)) rfl | exact zz_fq5_next (by assumption) (by omega) (zz_isf_n2 (by assumption) (by omega) (by omega) (by omega)) (by omega) (by omega) (zz_al_md (by omega)) | (exfalso; omega)), q54, rfl, rfl, rfl, rfl, rfl, rfl, rfl, rfl, rfl, rfl, rfl, rfl, rfl, rfl, rfl, rfl⟩
      · have c44 := zz_neq c44
        refine zz_ok_some ?_
        show zz_fq5 (fun y => (s5 y.toNat).toInt = -1) x1.toInt x2.toInt x4.toInt x4.toInt ∧ -1 ≤ x4.toInt ∧ s0 = s0 ∧ s1 = s1 ∧ s2 = s2 ∧ s3 = s3 ∧ s4 = s4 ∧ s5 = s5 ∧ s6 = s6 ∧ s7 = s7 ∧ s8 = s8 ∧ s9 = s9 ∧ s10 = s10 ∧ s11 = s11 ∧ s12 = s12 ∧ s13 = s13 ∧ s14 = s14 ∧ s15 = s15
        exact ⟨(by first | exact zz_fq5_end (by omega) (by first | omega | decide) | exact zz_fq5_hit (zz_isf_y (by assumption) (by omega)) (by omega) (by omega) (zz_al_md (by omega)) rfl | exact zz_fq5_next (by assumption) (by omega) (zz_isf_n2 (by assumption) (by omega) (by omega) (by omega)) (by omega) (by omega) (zz_al_md (by omega)) | (exfalso; omega)), (by omega), rfl, rfl, rfl, rfl, rfl, rfl, rfl, rfl, rfl, rfl, rfl, rfl, rfl, rfl, rfl, rfl⟩
set_option maxHeartbeats 4000000 in
theorem gg_X5_freePlaceIn (K : Nat) (hK : 1099511627776 ≤ K) (T : Nat) (hT : T ≤ 900) (n0 : Nat) (n1 : Nat) (n2 : Nat) (n3 : Nat) (n4 : Nat) (n5 : Nat) (n6 : Nat) (n7 : Nat) (n8 : Nat) (p1 : Int32) (p2 : Int32) (s0 : Int32) (s1 : Int32) (s2 : Int32) (s3 : Int32) (s4 : Int32) (s5 : Nat → Int32) (s6 : Nat → Int32) (s7 : Nat → Int32) (s8 : Nat → Int32) (s9 : Nat → Int32) (s10 : Int32) (s11 : Int32) (s12 : Nat → Int32) (s13 : Nat → Int32) (s14 : Nat → Int32) (s15 : Nat → Int32) (a0 : n0 = 1024) (a1 : n1 = 200) (a2 : n2 = 200) (a3 : n3 = 200) (a4 : n4 = 200) (a5 : n5 = 512) (a6 : n6 = 512) (a7 : 0 ≤ s1.toInt) (a8 : s1.toInt ≤ 1024) (a9 : n7 = 32) (a10 : n8 = 32) (a11 : 0 ≤ s0.toInt) (a12 : 32 * s0.toInt ≤ s1.toInt) (a13 : 0 ≤ p1.toInt) (a14 : p1.toInt < s0.toInt) (a15 : (p2.toInt = 1 ∨ p2.toInt = 2 ∨ p2.toInt = 4 ∨ p2.toInt = 8 ∨ p2.toInt = 16 ∨ p2.toInt = 32)) : zz_ok (m_X5_freePlaceIn K n0 n1 n2 n3 n4 n5 n6 n7 n8 p1 p2 s0 s1 s2 s3 s4 s5 s6 s7 s8 s9 s10 s11 s12 s13 s14 s15) (fun z => zz_fp5 (fun y => (s5 y.toNat).toInt = -1) p1.toInt p2.toInt z.1.toInt ∧ -1 ≤ z.1.toInt ∧ z.2.1 = s0 ∧ z.2.2.1 = s1 ∧ z.2.2.2.1 = s2 ∧ z.2.2.2.2.1 = s3 ∧ z.2.2.2.2.2.1 = s4 ∧ z.2.2.2.2.2.2.1 = s5 ∧ z.2.2.2.2.2.2.2.1 = s6 ∧ z.2.2.2.2.2.2.2.2.1 = s7 ∧ z.2.2.2.2.2.2.2.2.2.1 = s8 ∧ z.2.2.2.2.2.2.2.2.2.2.1 = s9 ∧ z.2.2.2.2.2.2.2.2.2.2.2.1 = s10 ∧ z.2.2.2.2.2.2.2.2.2.2.2.2.1 = s11 ∧ z.2.2.2.2.2.2.2.2.2.2.2.2.2.1 = s12 ∧ z.2.2.2.2.2.2.2.2.2.2.2.2.2.2.1 = s13 ∧ z.2.2.2.2.2.2.2.2.2.2.2.2.2.2.2.1 = s14 ∧ z.2.2.2.2.2.2.2.2.2.2.2.2.2.2.2.2 = s15) := by
  have g1 := zz_rg p1
  have g2 := zz_rg p2
  have g3 := zz_rg s0
  have g4 := zz_rg s1
  have g5 := zz_rg s2
  have g6 := zz_rg s3
  have g7 := zz_rg s4
  have g8 := zz_rg s10
  have g9 := zz_rg s11
  unfold m_X5_freePlaceIn
  have l10 : (1 : Int32).toInt = 1 := rfl
  obtain ⟨k11, f12⟩ := zz_add p1 (1 : Int32)
  have g13 := zz_rg (p1 + ((1 : Int32)))
  have l14 : (32 : Int32).toInt = 32 := rfl
  obtain ⟨k15, f16⟩ := zz_mul (p1 + ((1 : Int32))) (32 : Int32)
  rw [show (32 : Int32).toInt = 32 from rfl] at f16
  have g17 := zz_rg ((p1 + ((1 : Int32))) * ((32 : Int32)))
  obtain ⟨k18, f19⟩ := zz_mul p1 (32 : Int32)
  rw [show (32 : Int32).toInt = 32 from rfl] at f19
  have g20 := zz_rg (p1 * ((32 : Int32)))
  refine (gg_X5_freePlaceIn_L13 K hK T hT n0 n1 n2 n3 n4 n5 n6 n7 n8 K p1 p2 ((p1 + ((1 : Int32))) * ((32 : Int32))) (p1 * ((32 : Int32))) s0 s1 s2 s3 s4 s5 s6 s7 s8 s9 s10 s11 s12 s13 s14 s15 a0 a1 a2 a3 a4 a5 a6 a7 a8 a9 a10 a11 a12 a13 a14 (by omega) (by omega) (by omega) (by omega) (by omega)).mono (fun z hz => ?_)
  obtain ⟨y21_0, y21_1, y21_2, y21_3, y21_4, y21_5, y21_6, y21_7, y21_8, y21_9, y21_10, y21_11, y21_12, y21_13, y21_14, y21_15, y21_16⟩ := z
  have q22 : zz_fq5 (fun y => (s5 y.toNat).toInt = -1) p1.toInt p2.toInt (p1 * ((32 : Int32))).toInt y21_0.toInt := hz.1
  have q23 : -1 ≤ y21_0.toInt := hz.2.1
  have q24 : y21_1 = s0 := hz.2.2.1
  have q25 : y21_2 = s1 := hz.2.2.2.1
  have q26 : y21_3 = s2 := hz.2.2.2.2.1
  have q27 : y21_4 = s3 := hz.2.2.2.2.2.1
  have q28 : y21_5 = s4 := hz.2.2.2.2.2.2.1
  have q29 : y21_6 = s5 := hz.2.2.2.2.2.2.2.1
  have q30 : y21_7 = s6 := hz.2.2.2.2.2.2.2.2.1
  have q31 : y21_8 = s7 := hz.2.2.2.2.2.2.2.2.2.1
  have q32 : y21_9 = s8 := hz.2.2.2.2.2.2.2.2.2.2.1
  have q33 : y21_10 = s9 := hz.2.2.2.2.2.2.2.2.2.2.2.1
  have q34 : y21_11 = s10 := hz.2.2.2.2.2.2.2.2.2.2.2.2.1
  have q35 : y21_12 = s11 := hz.2.2.2.2.2.2.2.2.2.2.2.2.2.1
  have q36 : y21_13 = s12 := hz.2.2.2.2.2.2.2.2.2.2.2.2.2.2.1
  have q37 : y21_14 = s13 := hz.2.2.2.2.2.2.2.2.2.2.2.2.2.2.2.1
  have q38 : y21_15 = s14 := hz.2.2.2.2.2.2.2.2.2.2.2.2.2.2.2.2.1
  have q39 : y21_16 = s15 := hz.2.2.2.2.2.2.2.2.2.2.2.2.2.2.2.2.2
  clear hz
  have e40 : s0 = y21_1 := q24.symm
  subst e40
  have e41 : s1 = y21_2 := q25.symm
  subst e41
  have e42 : s2 = y21_3 := q26.symm
  subst e42
  have e43 : s3 = y21_4 := q27.symm
  subst e43
  have e44 : s4 = y21_5 := q28.symm
  subst e44
  have e45 : s5 = y21_6 := q29.symm
  subst e45
  have e46 : s6 = y21_7 := q30.symm
  subst e46
  have e47 : s7 = y21_8 := q31.symm
  subst e47
  have e48 : s8 = y21_9 := q32.symm
  subst e48
  have e49 : s9 = y21_10 := q33.symm
  subst e49
  have e50 : s10 = y21_11 := q34.symm
  subst e50
  have e51 : s11 = y21_12 := q35.symm
  subst e51
  have e52 : s12 = y21_13 := q36.symm
  subst e52
  have e53 : s13 = y21_14 := q37.symm
  subst e53
  have e54 : s14 = y21_15 := q38.symm
  subst e54
  have e55 : s15 = y21_16 := q39.symm
  subst e55
  have g56 := zz_rg y21_0
  show zz_fp5 (fun y => (s5 y.toNat).toInt = -1) p1.toInt p2.toInt y21_0.toInt ∧ -1 ≤ y21_0.toInt ∧ s0 = s0 ∧ s1 = s1 ∧ s2 = s2 ∧ s3 = s3 ∧ s4 = s4 ∧ s5 = s5 ∧ s6 = s6 ∧ s7 = s7 ∧ s8 = s8 ∧ s9 = s9 ∧ s10 = s10 ∧ s11 = s11 ∧ s12 = s12 ∧ s13 = s13 ∧ s14 = s14 ∧ s15 = s15
  exact ⟨(by exact zz_fq5_all (by assumption) (by omega)), q23, rfl, rfl, rfl, rfl, rfl, rfl, rfl, rfl, rfl, rfl, rfl, rfl, rfl, rfl, rfl, rfl⟩
set_option maxHeartbeats 4000000 in
theorem gg_X5_takeInPageOf_L2 (K : Nat) (hK : 1099511627776 ≤ K) (T : Nat) (hT : T ≤ 900) (n0 : Nat) (n1 : Nat) (n2 : Nat) (n3 : Nat) (n4 : Nat) (n5 : Nat) (n6 : Nat) (n7 : Nat) (n8 : Nat) : ∀ (k : Nat) (x1 : Int32) (x2 : Int32) (s0 : Int32) (s1 : Int32) (s2 : Int32) (s3 : Int32) (s4 : Int32) (s5 : Nat → Int32) (s6 : Nat → Int32) (s7 : Nat → Int32) (s8 : Nat → Int32) (s9 : Nat → Int32) (s10 : Int32) (s11 : Int32) (s12 : Nat → Int32) (s13 : Nat → Int32) (s14 : Nat → Int32) (s15 : Nat → Int32), n0 = 1024 → n1 = 200 → n2 = 200 → n3 = 200 → n4 = 200 → n5 = 512 → n6 = 512 → 0 ≤ s1.toInt → s1.toInt ≤ 1024 → n7 = 32 → n8 = 32 → 0 ≤ s0.toInt → 32 * s0.toInt ≤ s1.toInt → (x1.toInt = 1 ∨ x1.toInt = 2 ∨ x1.toInt = 4 ∨ x1.toInt = 8 ∨ x1.toInt = 16 ∨ x1.toInt = 32) → 0 ≤ x2.toInt → x2.toInt ≤ s0.toInt → s0.toInt - x2.toInt < (k : Int) → zz_ok (m_X5_takeInPageOf_L2 K n0 n1 n2 n3 n4 n5 n6 n7 n8 k x1 x2 s0 s1 s2 s3 s4 s5 s6 s7 s8 s9 s10 s11 s12 s13 s14 s15) (fun z => zz_ti5 (s14) (s5) (s15) (z.2.2.2.2.2.2.2.2.2.2.2.2.2.2.2.2) s0.toInt x1.toInt x2.toInt z.1.toInt ∧ -1 ≤ z.1.toInt ∧ z.2.1 = s0 ∧ z.2.2.1 = s1 ∧ z.2.2.2.1 = s2 ∧ z.2.2.2.2.1 = s3 ∧ z.2.2.2.2.2.2.1 = s5 ∧ z.2.2.2.2.2.2.2.1 = s6 ∧ z.2.2.2.2.2.2.2.2.1 = s7 ∧ z.2.2.2.2.2.2.2.2.2.1 = s8 ∧ z.2.2.2.2.2.2.2.2.2.2.1 = s9 ∧ z.2.2.2.2.2.2.2.2.2.2.2.1 = s10 ∧ z.2.2.2.2.2.2.2.2.2.2.2.2.1 = s11 ∧ z.2.2.2.2.2.2.2.2.2.2.2.2.2.1 = s12 ∧ z.2.2.2.2.2.2.2.2.2.2.2.2.2.2.1 = s13 ∧ z.2.2.2.2.2.2.2.2.2.2.2.2.2.2.2.1 = s14) := by
  intro k
  induction k with
  | zero =>
    intro x1 x2 s0 s1 s2 s3 s4 s5 s6 s7 s8 s9 s10 s11 s12 s13 s14 s15 a0 a1 a2 a3 a4 a5 a6 a7 a8 a9 a10 a11 a12 a13 a14 a15 hz9
    exfalso
    have g_x1 := zz_rg x1
    have g_x2 := zz_rg x2
    have g_s0 := zz_rg s0
    have g_s1 := zz_rg s1
    have g_s2 := zz_rg s2
    have g_s3 := zz_rg s3
    have g_s4 := zz_rg s4
    have g_s10 := zz_rg s10
    have g_s11 := zz_rg s11
    omega
  | succ k ih =>
    intro x1 x2 s0 s1 s2 s3 s4 s5 s6 s7 s8 s9 s10 s11 s12 s13 s14 s15 a0 a1 a2 a3 a4 a5 a6 a7 a8 a9 a10 a11 a12 a13 a14 a15 hz9
    rw [m_X5_takeInPageOf_L2_s]
    have g1 := zz_rg x1
    have g2 := zz_rg x2
    have g3 := zz_rg s0
    have g4 := zz_rg s1
    have g5 := zz_rg s2
    have g6 := zz_rg s3
    have g7 := zz_rg s4
    have g8 := zz_rg s10
    have g9 := zz_rg s11
    have tn9 := zz_tnI x2 (by omega)
    refine zz_ok_ite (fun c10 => ?_) (fun c10 => ?_)
    · have c10 := Int32.le_iff_toInt_le.mp c10
      have l11 : (-1 : Int32).toInt = -1 := rfl
      refine zz_ok_some ?_
      show zz_ti5 (s14) (s5) (s15) (s15) s0.toInt x1.toInt x2.toInt (-1 : Int32).toInt ∧ -1 ≤ (-1 : Int32).toInt ∧ s0 = s0 ∧ s1 = s1 ∧ s2 = s2 ∧ s3 = s3 ∧ s5 = s5 ∧ s6 = s6 ∧ s7 = s7 ∧ s8 = s8 ∧ s9 = s9 ∧ s10 = s10 ∧ s11 = s11 ∧ s12 = s12 ∧ s13 = s13 ∧ s14 = s14
      exact ⟨(by first | exact zz_ti5_end (by omega) (by first | omega | decide) | exact zz_ti5_skip (i := x2.toNatClampNeg) (by assumption) (by omega) (by omega) (Or.inl (by omega)) | exact zz_ti5_skip (i := x2.toNatClampNeg) (by assumption) (by omega) (by omega) (Or.inr (zz_fp5_m (by assumption) (by omega))) | exact zz_ti5_hit (i := x2.toNatClampNeg) (by assumption) (by omega) (by omega) (by omega) (by omega) (by omega) (by omega)), (by omega), rfl, rfl, rfl, rfl, rfl, rfl, rfl, rfl, rfl, rfl, rfl, rfl, rfl, rfl⟩
    · have c10 := zz_nle c10
      refine zz_ok_chk (zz_ix (by omega) (by omega)) ?_
      have g12 := zz_tnI x2 (by omega)
      have g14 := zz_rg (s14 x2.toNatClampNeg)
      refine zz_ok_ite (fun c13 => ?_) (fun c13 => ?_)
      · have c13 := congrArg Int32.toInt c13
        have l15 : (1 : Int32).toInt = 1 := rfl
        refine zz_ok_bind (ff_X7_addLooked K hK T hT n0 n1 n2 n3 n4 n5 n6 ((1 : Int32)) s1 s2 s3 s4 s5 s6 s7 s8 s9 s10 s11 s12 s13) ?_
        intro z16 hz16
        obtain ⟨t_4_0, t_4_1, t_4_2, t_4_3, t_4_4, t_4_5, t_4_6, t_4_7, t_4_8, t_4_9, t_4_10, t_4_11, t_4_12⟩ := z16
        have q17 : t_4_0 = s1 := hz16.1
        have q18 : t_4_1 = s2 := hz16.2.1
        have q19 : t_4_2 = s3 := hz16.2.2.1
        have q20 : t_4_4 = s5 := hz16.2.2.2.1
        have q21 : t_4_5 = s6 := hz16.2.2.2.2.1
        have q22 : t_4_6 = s7 := hz16.2.2.2.2.2.1
        have q23 : t_4_7 = s8 := hz16.2.2.2.2.2.2.1
        have q24 : t_4_8 = s9 := hz16.2.2.2.2.2.2.2.1
        have q25 : t_4_9 = s10 := hz16.2.2.2.2.2.2.2.2.1
        have q26 : t_4_10 = s11 := hz16.2.2.2.2.2.2.2.2.2.1
        have q27 : t_4_11 = s12 := hz16.2.2.2.2.2.2.2.2.2.2.1
        have q28 : t_4_12 = s13 := hz16.2.2.2.2.2.2.2.2.2.2.2
        clear hz16
        have e29 : s1 = t_4_0 := q17.symm
        subst e29
        have e30 : s2 = t_4_1 := q18.symm
        subst e30
        have e31 : s3 = t_4_2 := q19.symm
        subst e31
        have e32 : s5 = t_4_4 := q20.symm
        subst e32
        have e33 : s6 = t_4_5 := q21.symm
        subst e33
        have e34 : s7 = t_4_6 := q22.symm
        subst e34
        have e35 : s8 = t_4_7 := q23.symm
        subst e35
        have e36 : s9 = t_4_8 := q24.symm
        subst e36
        have e37 : s10 = t_4_9 := q25.symm
        subst e37
        have e38 : s11 = t_4_10 := q26.symm
        subst e38
        have e39 : s12 = t_4_11 := q27.symm
        subst e39
        have e40 : s13 = t_4_12 := q28.symm
        subst e40
        have g41 := zz_rg t_4_3
        show zz_ok ((m_X5_freePlaceIn K n0 n1 n2 n3 n4 n5 n6 n7 n8 x2 x1 s0 s1 s2 s3 t_4_3 s5 s6 s7 s8 s9 s10 s11 s12 s13 s14 s15).bind fun ⟨r_5, t_5_0, t_5_1, t_5_2, t_5_3, t_5_4, t_5_5, t_5_6, t_5_7, t_5_8, t_5_9, t_5_10, t_5_11, t_5_12, t_5_13, t_5_14, t_5_15⟩ => if r_5 = ((-1 : Int32)) then (m_X5_takeInPageOf_L2 K n0 n1 n2 n3 n4 n5 n6 n7 n8 k x1 (x2 + 1) t_5_0 t_5_1 t_5_2 t_5_3 t_5_4 t_5_5 t_5_6 t_5_7 t_5_8 t_5_9 t_5_10 t_5_11 t_5_12 t_5_13 t_5_14 t_5_15) else (if ¬ (x2 < 0 ∨ n8 ≤ x2.toNatClampNeg) then (if ¬ (x2 < 0 ∨ n8 ≤ x2.toNatClampNeg) then (some (r_5, t_5_0, t_5_1, t_5_2, t_5_3, t_5_4, t_5_5, t_5_6, t_5_7, t_5_8, t_5_9, t_5_10, t_5_11, t_5_12, t_5_13, t_5_14, upd t_5_15 x2.toNatClampNeg ((t_5_15 x2.toNatClampNeg) + ((1 : Int32))))) else none) else none)) _
        refine zz_ok_bind (gg_X5_freePlaceIn K hK T hT n0 n1 n2 n3 n4 n5 n6 n7 n8 x2 x1 s0 s1 s2 s3 t_4_3 s5 s6 s7 s8 s9 s10 s11 s12 s13 s14 s15 a0 a1 a2 a3 a4 a5 a6 a7 a8 a9 a10 a11 a12 a14 (by omega) a13) ?_
        intro z42 hz42
        obtain ⟨r_5, t_5_0, t_5_1, t_5_2, t_5_3, t_5_4, t_5_5, t_5_6, t_5_7, t_5_8, t_5_9, t_5_10, t_5_11, t_5_12, t_5_13, t_5_14, t_5_15⟩ := z42
        have q43 : zz_fp5 (fun y => (s5 y.toNat).toInt = -1) x2.toInt x1.toInt r_5.toInt := hz42.1
        have q44 : -1 ≤ r_5.toInt := hz42.2.1
        have q45 : t_5_0 = s0 := hz42.2.2.1
        have q46 : t_5_1 = s1 := hz42.2.2.2.1
        have q47 : t_5_2 = s2 := hz42.2.2.2.2.1
        have q48 : t_5_3 = s3 := hz42.2.2.2.2.2.1
        have q49 : t_5_4 = t_4_3 := hz42.2.2.2.2.2.2.1
        have q50 : t_5_5 = s5 := hz42.2.2.2.2.2.2.2.1
        have q51 : t_5_6 = s6 := hz42.2.2.2.2.2.2.2.2.1
        have q52 : t_5_7 = s7 := hz42.2.2.2.2.2.2.2.2.2.1
        have q53 : t_5_8 = s8 := hz42.2.2.2.2.2.2.2.2.2.2.1
        have q54 : t_5_9 = s9 := hz42.2.2.2.2.2.2.2.2.2.2.2.1
        have q55 : t_5_10 = s10 := hz42.2.2.2.2.2.2.2.2.2.2.2.2.1
        have q56 : t_5_11 = s11 := hz42.2.2.2.2.2.2.2.2.2.2.2.2.2.1
        have q57 : t_5_12 = s12 := hz42.2.2.2.2.2.2.2.2.2.2.2.2.2.2.1
        have q58 : t_5_13 = s13 := hz42.2.2.2.2.2.2.2.2.2.2.2.2.2.2.2.1
        have q59 : t_5_14 = s14 := hz42.2.2.2.2.2.2.2.2.2.2.2.2.2.2.2.2.1
        have q60 : t_5_15 = s15 := hz42.2.2.2.2.2.2.2.2.2.2.2.2.2.2.2.2.2
        clear hz42
        have e61 : s0 = t_5_0 := q45.symm
        subst e61
        have e62 : s1 = t_5_1 := q46.symm
        subst e62
        have e63 : s2 = t_5_2 := q47.symm
        subst e63
        have e64 : s3 = t_5_3 := q48.symm
        subst e64
        have e65 : t_4_3 = t_5_4 := q49.symm
        subst e65
        have e66 : s5 = t_5_5 := q50.symm
        subst e66
        have e67 : s6 = t_5_6 := q51.symm
        subst e67
        have e68 : s7 = t_5_7 := q52.symm
        subst e68
        have e69 : s8 = t_5_8 := q53.symm
        subst e69
        have e70 : s9 = t_5_9 := q54.symm
        subst e70
        have e71 : s10 = t_5_10 := q55.symm
        subst e71
        have e72 : s11 = t_5_11 := q56.symm
        subst e72
        have e73 : s12 = t_5_12 := q57.symm
        subst e73
        have e74 : s13 = t_5_13 := q58.symm
        subst e74
        have e75 : s14 = t_5_14 := q59.symm
        subst e75
        have e76 : s15 = t_5_15 := q60.symm
        subst e76
        have g77 := zz_rg r_5
        show zz_ok (if r_5 = ((-1 : Int32)) then (m_X5_takeInPageOf_L2 K n0 n1 n2 n3 n4 n5 n6 n7 n8 k x1 (x2 + 1) s0 s1 s2 s3 t_4_3 s5 s6 s7 s8 s9 s10 s11 s12 s13 s14 s15) else (if ¬ (x2 < 0 ∨ n8 ≤ x2.toNatClampNeg) then (if ¬ (x2 < 0 ∨ n8 ≤ x2.toNatClampNeg) then (some (r_5, s0, s1, s2, s3, t_4_3, s5, s6, s7, s8, s9, s10, s11, s12, s13, s14, upd s15 x2.toNatClampNeg ((s15 x2.toNatClampNeg) + ((1 : Int32))))) else none) else none)) _
        have l79 : (-1 : Int32).toInt = -1 := rfl
        refine zz_ok_ite (fun c78 => ?_) (fun c78 => ?_)
        · have c78 := congrArg Int32.toInt c78
          obtain ⟨k80, f81⟩ := zz_add x2 (1 : Int32)
          have g82 := zz_rg (x2 + 1)
          refine (ih x1 (x2 + 1) s0 s1 s2 s3 t_4_3 s5 s6 s7 s8 s9 s10 s11 s12 s13 s14 s15 a0 a1 a2 a3 a4 a5 a6 a7 a8 a9 a10 a11 a12 a13 (by omega) (by omega) (by omega)).mono (fun z hz => ?_)
          obtain ⟨y83_0, y83_1, y83_2, y83_3, y83_4, y83_5, y83_6, y83_7, y83_8, y83_9, y83_10, y83_11, y83_12, y83_13, y83_14, y83_15, y83_16⟩ := z
          have q84 : zz_ti5 (s14) (s5) (s15) (y83_16) s0.toInt x1.toInt (x2 + 1).toInt y83_0.toInt := hz.1
          have q85 : -1 ≤ y83_0.toInt := hz.2.1
          have q86 : y83_1 = s0 := hz.2.2.1
          have q87 : y83_2 = s1 := hz.2.2.2.1
          have q88 : y83_3 = s2 := hz.2.2.2.2.1
          have q89 : y83_4 = s3 := hz.2.2.2.2.2.1
          have q90 : y83_6 = s5 := hz.2.2.2.2.2.2.1
          have q91 : y83_7 = s6 := hz.2.2.2.2.2.2.2.1
          have q92 : y83_8 = s7 := hz.2.2.2.2.2.2.2.2.1
          have q93 : y83_9 = s8 := hz.2.2.2.2.2.2.2.2.2.1
          have q94 : y83_10 = s9 := hz.2.2.2.2.2.2.2.2.2.2.1
          have q95 : y83_11 = s10 := hz.2.2.2.2.2.2.2.2.2.2.2.1
          have q96 : y83_12 = s11 := hz.2.2.2.2.2.2.2.2.2.2.2.2.1
          have q97 : y83_13 = s12 := hz.2.2.2.2.2.2.2.2.2.2.2.2.2.1
          have q98 : y83_14 = s13 := hz.2.2.2.2.2.2.2.2.2.2.2.2.2.2.1
          have q99 : y83_15 = s14 := hz.2.2.2.2.2.2.2.2.2.2.2.2.2.2.2
          clear hz
          have e100 : s0 = y83_1 := q86.symm
          subst e100
          have e101 : s1 = y83_2 := q87.symm
          subst e101
          have e102 : s2 = y83_3 := q88.symm
          subst e102
          have e103 : s3 = y83_4 := q89.symm
          subst e103
          have e104 : s5 = y83_6 := q90.symm
          subst e104
          have e105 : s6 = y83_7 := q91.symm
          subst e105
          have e106 : s7 = y83_8 := q92.symm
          subst e106
          have e107 : s8 = y83_9 := q93.symm
          subst e107
          have e108 : s9 = y83_10 := q94.symm
          subst e108
          have e109 : s10 = y83_11 := q95.symm
          subst e109
          have e110 : s11 = y83_12 := q96.symm
          subst e110
          have e111 : s12 = y83_13 := q97.symm
          subst e111
          have e112 : s13 = y83_14 := q98.symm
          subst e112
          have e113 : s14 = y83_15 := q99.symm
          subst e113
          have g114 := zz_rg y83_0
          have g115 := zz_rg y83_5
          show zz_ti5 (s14) (s5) (s15) (y83_16) s0.toInt x1.toInt x2.toInt y83_0.toInt ∧ -1 ≤ y83_0.toInt ∧ s0 = s0 ∧ s1 = s1 ∧ s2 = s2 ∧ s3 = s3 ∧ s5 = s5 ∧ s6 = s6 ∧ s7 = s7 ∧ s8 = s8 ∧ s9 = s9 ∧ s10 = s10 ∧ s11 = s11 ∧ s12 = s12 ∧ s13 = s13 ∧ s14 = s14
          exact ⟨(by first | exact zz_ti5_end (by omega) (by first | omega | decide) | exact zz_ti5_skip (i := x2.toNatClampNeg) (by assumption) (by omega) (by omega) (Or.inl (by omega)) | exact zz_ti5_skip (i := x2.toNatClampNeg) (by assumption) (by omega) (by omega) (Or.inr (zz_fp5_m (by assumption) (by omega))) | exact zz_ti5_hit (i := x2.toNatClampNeg) (by assumption) (by omega) (by omega) (by omega) (by omega) (by omega) (by omega)), q85, rfl, rfl, rfl, rfl, rfl, rfl, rfl, rfl, rfl, rfl, rfl, rfl, rfl, rfl⟩
        · have c78 := zz_neq c78
          refine zz_ok_chk (zz_ix (by omega) (by omega)) ?_
          refine zz_ok_chk (zz_ix (by omega) (by omega)) ?_
          refine zz_ok_some ?_
          show zz_ti5 (s14) (s5) (s15) ((upd s15 x2.toNatClampNeg ((s15 x2.toNatClampNeg) + ((1 : Int32))))) s0.toInt x1.toInt x2.toInt r_5.toInt ∧ -1 ≤ r_5.toInt ∧ s0 = s0 ∧ s1 = s1 ∧ s2 = s2 ∧ s3 = s3 ∧ s5 = s5 ∧ s6 = s6 ∧ s7 = s7 ∧ s8 = s8 ∧ s9 = s9 ∧ s10 = s10 ∧ s11 = s11 ∧ s12 = s12 ∧ s13 = s13 ∧ s14 = s14
          exact ⟨(by first | exact zz_ti5_end (by omega) (by first | omega | decide) | exact zz_ti5_skip (i := x2.toNatClampNeg) (by assumption) (by omega) (by omega) (Or.inl (by omega)) | exact zz_ti5_skip (i := x2.toNatClampNeg) (by assumption) (by omega) (by omega) (Or.inr (zz_fp5_m (by assumption) (by omega))) | exact zz_ti5_hit (i := x2.toNatClampNeg) (by assumption) (by omega) (by omega) (by omega) (by omega) (by omega) (by omega)), q44, rfl, rfl, rfl, rfl, rfl, rfl, rfl, rfl, rfl, rfl, rfl, rfl, rfl, rfl⟩
      · have c13 := zz_neq c13
        have l116 : (1 : Int32).toInt = 1 := rfl
        obtain ⟨k117, f118⟩ := zz_add x2 (1 : Int32)
        have g119 := zz_rg (x2 + 1)
        refine (ih x1 (x2 + 1) s0 s1 s2 s3 s4 s5 s6 s7 s8 s9 s10 s11 s12 s13 s14 s15 a0 a1 a2 a3 a4 a5 a6 a7 a8 a9 a10 a11 a12 a13 (by omega) (by omega) (by omega)).mono (fun z hz => ?_)
        obtain ⟨y120_0, y120_1, y120_2, y120_3, y120_4, y120_5, y120_6, y120_7, y120_8, y120_9, y120_10, y120_11, y120_12, y120_13, y120_14, y120_15, y120_16⟩ := z
        have q121 : zz_ti5 (s14) (s5) (s15) (y120_16) s0.toInt x1.toInt (x2 + 1).toInt y120_0.toInt := hz.1
        have q122 : -1 ≤ y120_0.toInt := hz.2.1
        have q123 : y120_1 = s0 := hz.2.2.1
        have q124 : y120_2 = s1 := hz.2.2.2.1
        have q125 : y120_3 = s2 := hz.2.2.2.2.1
        have q126 : y120_4 = s3 := hz.2.2.2.2.2.1
        have q127 : y120_6 = s5 := hz.2.2.2.2.2.2.1
        have q128 : y120_7 = s6 := hz.2.2.2.2.2.2.2.1
        have q129 : y120_8 = s7 := hz.2.2.2.2.2.2.2.2.1
        have q130 : y120_9 = s8 := hz.2.2.2.2.2.2.2.2.2.1
        have q131 : y120_10 = s9 := hz.2.2.2.2.2.2.2.2.2.2.1
        have q132 : y120_11 = s10 := hz.2.2.2.2.2.2.2.2.2.2.2.1
        have q133 : y120_12 = s11 := hz.2.2.2.2.2.2.2.2.2.2.2.2.1
        have q134 : y120_13 = s12 := hz.2.2.2.2.2.2.2.2.2.2.2.2.2.1
        have q135 : y120_14 = s13 := hz.2.2.2.2.2.2.2.2.2.2.2.2.2.2.1
        have q136 : y120_15 = s14 := hz.2.2.2.2.2.2.2.2.2.2.2.2.2.2.2
        clear hz
        have e137 : s0 = y120_1 := q123.symm
        subst e137
        have e138 : s1 = y120_2 := q124.symm
        subst e138
        have e139 : s2 = y120_3 := q125.symm
        subst e139
        have e140 : s3 = y120_4 := q126.symm
        subst e140
        have e141 : s5 = y120_6 := q127.symm
        subst e141
        have e142 : s6 = y120_7 := q128.symm
        subst e142
        have e143 : s7 = y120_8 := q129.symm
        subst e143
        have e144 : s8 = y120_9 := q130.symm
        subst e144
        have e145 : s9 = y120_10 := q131.symm
        subst e145
        have e146 : s10 = y120_11 := q132.symm
        subst e146
        have e147 : s11 = y120_12 := q133.symm
        subst e147
        have e148 : s12 = y120_13 := q134.symm
        subst e148
        have e149 : s13 = y120_14 := q135.symm
        subst e149
        have e150 : s14 = y120_15 := q136.symm
        subst e150
        have g151 := zz_rg y120_0
        have g152 := zz_rg y120_5
        show zz_ti5 (s14) (s5) (s15) (y120_16) s0.toInt x1.toInt x2.toInt y120_0.toInt ∧ -1 ≤ y120_0.toInt ∧ s0 = s0 ∧ s1 = s1 ∧ s2 = s2 ∧ s3 = s3 ∧ s5 = s5 ∧ s6 = s6 ∧ s7 = s7 ∧ s8 = s8 ∧ s9 = s9 ∧ s10 = s10 ∧ s11 = s11 ∧ s12 = s12 ∧ s13 = s13 ∧ s14 = s14
        exact ⟨(by first | exact zz_ti5_end (by omega) (by first | omega | decide) | exact zz_ti5_skip (i := x2.toNatClampNeg) (by assumption) (by omega) (by omega) (Or.inl (by omega)) | exact zz_ti5_skip (i := x2.toNatClampNeg) (by assumption) (by omega) (by omega) (Or.inr (zz_fp5_m (by assumption) (by omega))) | exact zz_ti5_hit (i := x2.toNatClampNeg) (by assumption) (by omega) (by omega) (by omega) (by omega) (by omega) (by omega)), q122, rfl, rfl, rfl, rfl, rfl, rfl, rfl, rfl, rfl, rfl, rfl, rfl, rfl, rfl⟩
set_option maxHeartbeats 4000000 in
theorem gg_X5_takeInPageOf (K : Nat) (hK : 1099511627776 ≤ K) (T : Nat) (hT : T ≤ 900) (n0 : Nat) (n1 : Nat) (n2 : Nat) (n3 : Nat) (n4 : Nat) (n5 : Nat) (n6 : Nat) (n7 : Nat) (n8 : Nat) (p1 : Int32) (s0 : Int32) (s1 : Int32) (s2 : Int32) (s3 : Int32) (s4 : Int32) (s5 : Nat → Int32) (s6 : Nat → Int32) (s7 : Nat → Int32) (s8 : Nat → Int32) (s9 : Nat → Int32) (s10 : Int32) (s11 : Int32) (s12 : Nat → Int32) (s13 : Nat → Int32) (s14 : Nat → Int32) (s15 : Nat → Int32) (a0 : n0 = 1024) (a1 : n1 = 200) (a2 : n2 = 200) (a3 : n3 = 200) (a4 : n4 = 200) (a5 : n5 = 512) (a6 : n6 = 512) (a7 : 0 ≤ s1.toInt) (a8 : s1.toInt ≤ 1024) (a9 : n7 = 32) (a10 : n8 = 32) (a11 : 0 ≤ s0.toInt) (a12 : 32 * s0.toInt ≤ s1.toInt) (a13 : (p1.toInt = 1 ∨ p1.toInt = 2 ∨ p1.toInt = 4 ∨ p1.toInt = 8 ∨ p1.toInt = 16 ∨ p1.toInt = 32)) : zz_ok (m_X5_takeInPageOf K n0 n1 n2 n3 n4 n5 n6 n7 n8 p1 s0 s1 s2 s3 s4 s5 s6 s7 s8 s9 s10 s11 s12 s13 s14 s15) (fun z => zz_ti5 (s14) (s5) (s15) (z.2.2.2.2.2.2.2.2.2.2.2.2.2.2.2.2) s0.toInt p1.toInt 0 z.1.toInt ∧ -1 ≤ z.1.toInt ∧ z.2.1 = s0 ∧ z.2.2.1 = s1 ∧ z.2.2.2.1 = s2 ∧ z.2.2.2.2.1 = s3 ∧ z.2.2.2.2.2.2.1 = s5 ∧ z.2.2.2.2.2.2.2.1 = s6 ∧ z.2.2.2.2.2.2.2.2.1 = s7 ∧ z.2.2.2.2.2.2.2.2.2.1 = s8 ∧ z.2.2.2.2.2.2.2.2.2.2.1 = s9 ∧ z.2.2.2.2.2.2.2.2.2.2.2.1 = s10 ∧ z.2.2.2.2.2.2.2.2.2.2.2.2.1 = s11 ∧ z.2.2.2.2.2.2.2.2.2.2.2.2.2.1 = s12 ∧ z.2.2.2.2.2.2.2.2.2.2.2.2.2.2.1 = s13 ∧ z.2.2.2.2.2.2.2.2.2.2.2.2.2.2.2.1 = s14) := by
  have g1 := zz_rg p1
  have g2 := zz_rg s0
  have g3 := zz_rg s1
  have g4 := zz_rg s2
  have g5 := zz_rg s3
  have g6 := zz_rg s4
  have g7 := zz_rg s10
  have g8 := zz_rg s11
  unfold m_X5_takeInPageOf
  have l9 : (0 : Int32).toInt = 0 := rfl
  refine (gg_X5_takeInPageOf_L2 K hK T hT n0 n1 n2 n3 n4 n5 n6 n7 n8 K p1 ((0 : Int32)) s0 s1 s2 s3 s4 s5 s6 s7 s8 s9 s10 s11 s12 s13 s14 s15 a0 a1 a2 a3 a4 a5 a6 a7 a8 a9 a10 a11 a12 a13 (by omega) (by omega) (by omega)).mono (fun z hz => ?_)
  obtain ⟨y10_0, y10_1, y10_2, y10_3, y10_4, y10_5, y10_6, y10_7, y10_8, y10_9, y10_10, y10_11, y10_12, y10_13, y10_14, y10_15, y10_16⟩ := z
  have q11 : zz_ti5 (s14) (s5) (s15) (y10_16) s0.toInt p1.toInt ((0 : Int32)).toInt y10_0.toInt := hz.1
  have q12 : -1 ≤ y10_0.toInt := hz.2.1
  have q13 : y10_1 = s0 := hz.2.2.1
  have q14 : y10_2 = s1 := hz.2.2.2.1
  have q15 : y10_3 = s2 := hz.2.2.2.2.1
  have q16 : y10_4 = s3 := hz.2.2.2.2.2.1
  have q17 : y10_6 = s5 := hz.2.2.2.2.2.2.1
  have q18 : y10_7 = s6 := hz.2.2.2.2.2.2.2.1
  have q19 : y10_8 = s7 := hz.2.2.2.2.2.2.2.2.1
  have q20 : y10_9 = s8 := hz.2.2.2.2.2.2.2.2.2.1
  have q21 : y10_10 = s9 := hz.2.2.2.2.2.2.2.2.2.2.1
  have q22 : y10_11 = s10 := hz.2.2.2.2.2.2.2.2.2.2.2.1
  have q23 : y10_12 = s11 := hz.2.2.2.2.2.2.2.2.2.2.2.2.1
  have q24 : y10_13 = s12 := hz.2.2.2.2.2.2.2.2.2.2.2.2.2.1
  have q25 : y10_14 = s13 := hz.2.2.2.2.2.2.2.2.2.2.2.2.2.2.1
  have q26 : y10_15 = s14 := hz.2.2.2.2.2.2.2.2.2.2.2.2.2.2.2
  clear hz
  have e27 : s0 = y10_1 := q13.symm
  subst e27
  have e28 : s1 = y10_2 := q14.symm
  subst e28
  have e29 : s2 = y10_3 := q15.symm
  subst e29
  have e30 : s3 = y10_4 := q16.symm
  subst e30
  have e31 : s5 = y10_6 := q17.symm
  subst e31
  have e32 : s6 = y10_7 := q18.symm
  subst e32
  have e33 : s7 = y10_8 := q19.symm
  subst e33
  have e34 : s8 = y10_9 := q20.symm
  subst e34
  have e35 : s9 = y10_10 := q21.symm
  subst e35
  have e36 : s10 = y10_11 := q22.symm
  subst e36
  have e37 : s11 = y10_12 := q23.symm
  subst e37
  have e38 : s12 = y10_13 := q24.symm
  subst e38
  have e39 : s13 = y10_14 := q25.symm
  subst e39
  have e40 : s14 = y10_15 := q26.symm
  subst e40
  have g41 := zz_rg y10_0
  have g42 := zz_rg y10_5
  show zz_ti5 (s14) (s5) (s15) (y10_16) s0.toInt p1.toInt 0 y10_0.toInt ∧ -1 ≤ y10_0.toInt ∧ s0 = s0 ∧ s1 = s1 ∧ s2 = s2 ∧ s3 = s3 ∧ s5 = s5 ∧ s6 = s6 ∧ s7 = s7 ∧ s8 = s8 ∧ s9 = s9 ∧ s10 = s10 ∧ s11 = s11 ∧ s12 = s12 ∧ s13 = s13 ∧ s14 = s14
  exact ⟨(by assumption), q12, rfl, rfl, rfl, rfl, rfl, rfl, rfl, rfl, rfl, rfl, rfl, rfl, rfl, rfl⟩
set_option maxHeartbeats 4000000 in
theorem gg_X5_take (K : Nat) (hK : 1099511627776 ≤ K) (T : Nat) (hT : T ≤ 900) (n0 : Nat) (n1 : Nat) (n2 : Nat) (n3 : Nat) (n4 : Nat) (n5 : Nat) (n6 : Nat) (n7 : Nat) (n8 : Nat) (p1 : Int32) (s0 : Int32) (s1 : Int32) (s2 : Int32) (s3 : Int32) (s4 : Int32) (s5 : Nat → Int32) (s6 : Nat → Int32) (s7 : Nat → Int32) (s8 : Nat → Int32) (s9 : Nat → Int32) (s10 : Int32) (s11 : Int32) (s12 : Nat → Int32) (s13 : Nat → Int32) (s14 : Nat → Int32) (s15 : Nat → Int32) (a0 : n0 = 1024) (a1 : n1 = 200) (a2 : n2 = 200) (a3 : n3 = 200) (a4 : n4 = 200) (a5 : n5 = 512) (a6 : n6 = 512) (a7 : 0 ≤ s1.toInt) (a8 : s1.toInt ≤ 1024) (a9 : n7 = 32) (a10 : n8 = 32) (a11 : 0 ≤ s0.toInt) (a12 : 32 * s0.toInt ≤ s1.toInt) (a13 : 1 ≤ p1.toInt) (a14 : p1.toInt ≤ 1024) (a15 : zz_s5s p1.toInt) : zz_ok (m_X5_take K n0 n1 n2 n3 n4 n5 n6 n7 n8 p1 s0 s1 s2 s3 s4 s5 s6 s7 s8 s9 s10 s11 s12 s13 s14 s15) (fun z => zz_k5t (s14) (s15) (z.2.2.2.2.2.2.2.2.2.2.2.2.2.2.2.1) (z.2.2.2.2.2.2.2.2.2.2.2.2.2.2.2.2) (s5) s0.toInt (p1) z.1.toInt ∧ -1 ≤ z.1.toInt ∧ z.2.1 = s0 ∧ z.2.2.1 = s1 ∧ z.2.2.2.1 = s2 ∧ z.2.2.2.2.1 = s3 ∧ z.2.2.2.2.2.2.1 = s5 ∧ z.2.2.2.2.2.2.2.1 = s6 ∧ z.2.2.2.2.2.2.2.2.1 = s7 ∧ z.2.2.2.2.2.2.2.2.2.1 = s8 ∧ z.2.2.2.2.2.2.2.2.2.2.1 = s9 ∧ z.2.2.2.2.2.2.2.2.2.2.2.1 = s10 ∧ z.2.2.2.2.2.2.2.2.2.2.2.2.1 = s11 ∧ z.2.2.2.2.2.2.2.2.2.2.2.2.2.1 = s12 ∧ z.2.2.2.2.2.2.2.2.2.2.2.2.2.2.1 = s13) := by
  have g1 := zz_rg p1
  have g2 := zz_rg s0
  have g3 := zz_rg s1
  have g4 := zz_rg s2
  have g5 := zz_rg s3
  have g6 := zz_rg s4
  have g7 := zz_rg s10
  have g8 := zz_rg s11
  have s59 := zz_s5s_or (by assumption : zz_s5s p1.toInt)
  unfold m_X5_take
  have l10 : (32 : Int32).toInt = 32 := rfl
  refine zz_ok_ite (fun c9 => ?_) (fun c9 => ?_)
  · have c9 := Int32.le_iff_toInt_le.mp c9
    refine zz_ok_bind (gg_X5_takeInPageOf K hK T hT n0 n1 n2 n3 n4 n5 n6 n7 n8 p1 s0 s1 s2 s3 s4 s5 s6 s7 s8 s9 s10 s11 s12 s13 s14 s15 a0 a1 a2 a3 a4 a5 a6 a7 a8 a9 a10 a11 a12 (by omega)) ?_
    intro z11 hz11
    obtain ⟨r_2, t_2_0, t_2_1, t_2_2, t_2_3, t_2_4, t_2_5, t_2_6, t_2_7, t_2_8, t_2_9, t_2_10, t_2_11, t_2_12, t_2_13, t_2_14, t_2_15⟩ := z11
    have q12 : zz_ti5 (s14) (s5) (s15) (t_2_15) s0.toInt p1.toInt 0 r_2.toInt := hz11.1
    have q13 : -1 ≤ r_2.toInt := hz11.2.1
    have q14 : t_2_0 = s0 := hz11.2.2.1
    have q15 : t_2_1 = s1 := hz11.2.2.2.1
    have q16 : t_2_2 = s2 := hz11.2.2.2.2.1
    have q17 : t_2_3 = s3 := hz11.2.2.2.2.2.1
    have q18 : t_2_5 = s5 := hz11.2.2.2.2.2.2.1
    have q19 : t_2_6 = s6 := hz11.2.2.2.2.2.2.2.1
    have q20 : t_2_7 = s7 := hz11.2.2.2.2.2.2.2.2.1
    have q21 : t_2_8 = s8 := hz11.2.2.2.2.2.2.2.2.2.1
    have q22 : t_2_9 = s9 := hz11.2.2.2.2.2.2.2.2.2.2.1
    have q23 : t_2_10 = s10 := hz11.2.2.2.2.2.2.2.2.2.2.2.1
    have q24 : t_2_11 = s11 := hz11.2.2.2.2.2.2.2.2.2.2.2.2.1
    have q25 : t_2_12 = s12 := hz11.2.2.2.2.2.2.2.2.2.2.2.2.2.1
    have q26 : t_2_13 = s13 := hz11.2.2.2.2.2.2.2.2.2.2.2.2.2.2.1
    have q27 : t_2_14 = s14 := hz11.2.2.2.2.2.2.2.2.2.2.2.2.2.2.2
    clear hz11
    have e28 : s0 = t_2_0 := q14.symm
    subst e28
    have e29 : s1 = t_2_1 := q15.symm
    subst e29
    have e30 : s2 = t_2_2 := q16.symm
    subst e30
    have e31 : s3 = t_2_3 := q17.symm
    subst e31
    have e32 : s5 = t_2_5 := q18.symm
    subst e32
    have e33 : s6 = t_2_6 := q19.symm
    subst e33
    have e34 : s7 = t_2_7 := q20.symm
    subst e34
    have e35 : s8 = t_2_8 := q21.symm
    subst e35
    have e36 : s9 = t_2_9 := q22.symm
    subst e36
    have e37 : s10 = t_2_10 := q23.symm
    subst e37
    have e38 : s11 = t_2_11 := q24.symm
    subst e38
    have e39 : s12 = t_2_12 := q25.symm
    subst e39
    have e40 : s13 = t_2_13 := q26.symm
    subst e40
    have e41 : s14 = t_2_14 := q27.symm
    subst e41
    have g42 := zz_rg r_2
    have g43 := zz_rg t_2_4
    show zz_ok (if r_2 = ((-1 : Int32)) then ((m_X5_takeRow K n0 n1 n2 n3 n4 n5 n6 n7 n8 ((1 : Int32)) p1 s0 s1 s2 s3 t_2_4 s5 s6 s7 s8 s9 s10 s11 s12 s13 s14 t_2_15).bind fun ⟨r_4, t_4_0, t_4_1, t_4_2, t_4_3, t_4_4, t_4_5, t_4_6, t_4_7, t_4_8, t_4_9, t_4_10, t_4_11, t_4_12, t_4_13, t_4_14, t_4_15⟩ => some (r_4, t_4_0, t_4_1, t_4_2, t_4_3, t_4_4, t_4_5, t_4_6, t_4_7, t_4_8, t_4_9, t_4_10, t_4_11, t_4_12, t_4_13, t_4_14, t_4_15)) else (some (r_2, s0, s1, s2, s3, t_2_4, s5, s6, s7, s8, s9, s10, s11, s12, s13, s14, t_2_15))) _
    have l45 : (-1 : Int32).toInt = -1 := rfl
    refine zz_ok_ite (fun c44 => ?_) (fun c44 => ?_)
    · have c44 := congrArg Int32.toInt c44
      have l46 : (1 : Int32).toInt = 1 := rfl
      refine zz_ok_bind (gg_X5_takeRow K hK T hT n0 n1 n2 n3 n4 n5 n6 n7 n8 ((1 : Int32)) p1 s0 s1 s2 s3 t_2_4 s5 s6 s7 s8 s9 s10 s11 s12 s13 s14 t_2_15 a0 a1 a2 a3 a4 a5 a6 a7 a8 a9 a10 a11 a12 (by omega) (by omega)) ?_
      intro z47 hz47
      obtain ⟨r_4, t_4_0, t_4_1, t_4_2, t_4_3, t_4_4, t_4_5, t_4_6, t_4_7, t_4_8, t_4_9, t_4_10, t_4_11, t_4_12, t_4_13, t_4_14, t_4_15⟩ := z47
      have q48 : zz_tr5 (s14) (t_2_15) (t_4_14) (t_4_15) s0.toInt ((1 : Int32)).toInt (p1) r_4.toInt := hz47.1
      have q49 : -1 ≤ r_4.toInt := hz47.2.1
      have q50 : t_4_0 = s0 := hz47.2.2.1
      have q51 : t_4_1 = s1 := hz47.2.2.2.1
      have q52 : t_4_2 = s2 := hz47.2.2.2.2.1
      have q53 : t_4_3 = s3 := hz47.2.2.2.2.2.1
      have q54 : t_4_5 = s5 := hz47.2.2.2.2.2.2.1
      have q55 : t_4_6 = s6 := hz47.2.2.2.2.2.2.2.1
      have q56 : t_4_7 = s7 := hz47.2.2.2.2.2.2.2.2.1
      have q57 : t_4_8 = s8 := hz47.2.2.2.2.2.2.2.2.2.1
      have q58 : t_4_9 = s9 := hz47.2.2.2.2.2.2.2.2.2.2.1
      have q59 : t_4_10 = s10 := hz47.2.2.2.2.2.2.2.2.2.2.2.1
      have q60 : t_4_11 = s11 := hz47.2.2.2.2.2.2.2.2.2.2.2.2.1
      have q61 : t_4_12 = s12 := hz47.2.2.2.2.2.2.2.2.2.2.2.2.2.1
      have q62 : t_4_13 = s13 := hz47.2.2.2.2.2.2.2.2.2.2.2.2.2.2
      clear hz47
      have e63 : s0 = t_4_0 := q50.symm
      subst e63
      have e64 : s1 = t_4_1 := q51.symm
      subst e64
      have e65 : s2 = t_4_2 := q52.symm
      subst e65
      have e66 : s3 = t_4_3 := q53.symm
      subst e66
      have e67 : s5 = t_4_5 := q54.symm
      subst e67
      have e68 : s6 = t_4_6 := q55.symm
      subst e68
      have e69 : s7 = t_4_7 := q56.symm
      subst e69
      have e70 : s8 = t_4_8 := q57.symm
      subst e70
      have e71 : s9 = t_4_9 := q58.symm
      subst e71
      have e72 : s10 = t_4_10 := q59.symm
      subst e72
      have e73 : s11 = t_4_11 := q60.symm
      subst e73
      have e74 : s12 = t_4_12 := q61.symm
      subst e74
      have e75 : s13 = t_4_13 := q62.symm
      subst e75
      have g76 := zz_rg r_4
      have g77 := zz_rg t_4_4
      show zz_ok (some (r_4, s0, s1, s2, s3, t_4_4, s5, s6, s7, s8, s9, s10, s11, s12, s13, t_4_14, t_4_15)) _
      refine zz_ok_some ?_
      show zz_k5t (s14) (s15) (t_4_14) (t_4_15) (s5) s0.toInt (p1) r_4.toInt ∧ -1 ≤ r_4.toInt ∧ s0 = s0 ∧ s1 = s1 ∧ s2 = s2 ∧ s3 = s3 ∧ s5 = s5 ∧ s6 = s6 ∧ s7 = s7 ∧ s8 = s8 ∧ s9 = s9 ∧ s10 = s10 ∧ s11 = s11 ∧ s12 = s12 ∧ s13 = s13
      exact ⟨(by first | exact Or.inl ⟨by omega, zz_tr5_cg (by assumption) (by omega)⟩ | exact Or.inr (Or.inl ⟨by omega, by omega, rfl, by assumption⟩) | exact zz_k5t_c (by assumption) (by assumption) (by omega) rfl (by first | omega | decide) (by omega)), q49, rfl, rfl, rfl, rfl, rfl, rfl, rfl, rfl, rfl, rfl, rfl, rfl, rfl⟩
    · have c44 := zz_neq c44
      refine zz_ok_some ?_
      show zz_k5t (s14) (s15) (s14) (t_2_15) (s5) s0.toInt (p1) r_2.toInt ∧ -1 ≤ r_2.toInt ∧ s0 = s0 ∧ s1 = s1 ∧ s2 = s2 ∧ s3 = s3 ∧ s5 = s5 ∧ s6 = s6 ∧ s7 = s7 ∧ s8 = s8 ∧ s9 = s9 ∧ s10 = s10 ∧ s11 = s11 ∧ s12 = s12 ∧ s13 = s13
      exact ⟨(by first | exact Or.inl ⟨by omega, zz_tr5_cg (by assumption) (by omega)⟩ | exact Or.inr (Or.inl ⟨by omega, by omega, rfl, by assumption⟩) | exact zz_k5t_c (by assumption) (by assumption) (by omega) rfl (by first | omega | decide) (by omega)), q13, rfl, rfl, rfl, rfl, rfl, rfl, rfl, rfl, rfl, rfl, rfl, rfl, rfl⟩
  · have c9 := zz_nle c9
    try have f78 := zz_divP p1 (32 : Int32) 32 rfl (by decide) (by omega)
    have f79 := zz_divB p1 (32 : Int32) 32 rfl (by decide)
    have g80 := zz_rg (p1 / ((32 : Int32)))
    refine zz_ok_bind (gg_X5_takeRow K hK T hT n0 n1 n2 n3 n4 n5 n6 n7 n8 (p1 / ((32 : Int32))) p1 s0 s1 s2 s3 s4 s5 s6 s7 s8 s9 s10 s11 s12 s13 s14 s15 a0 a1 a2 a3 a4 a5 a6 a7 a8 a9 a10 a11 a12 (by omega) (by omega)) ?_
    intro z81 hz81
    obtain ⟨r_5, t_5_0, t_5_1, t_5_2, t_5_3, t_5_4, t_5_5, t_5_6, t_5_7, t_5_8, t_5_9, t_5_10, t_5_11, t_5_12, t_5_13, t_5_14, t_5_15⟩ := z81
    have q82 : zz_tr5 (s14) (s15) (t_5_14) (t_5_15) s0.toInt (p1 / ((32 : Int32))).toInt (p1) r_5.toInt := hz81.1
    have q83 : -1 ≤ r_5.toInt := hz81.2.1
    have q84 : t_5_0 = s0 := hz81.2.2.1
    have q85 : t_5_1 = s1 := hz81.2.2.2.1
    have q86 : t_5_2 = s2 := hz81.2.2.2.2.1
    have q87 : t_5_3 = s3 := hz81.2.2.2.2.2.1
    have q88 : t_5_5 = s5 := hz81.2.2.2.2.2.2.1
    have q89 : t_5_6 = s6 := hz81.2.2.2.2.2.2.2.1
    have q90 : t_5_7 = s7 := hz81.2.2.2.2.2.2.2.2.1
    have q91 : t_5_8 = s8 := hz81.2.2.2.2.2.2.2.2.2.1
    have q92 : t_5_9 = s9 := hz81.2.2.2.2.2.2.2.2.2.2.1
    have q93 : t_5_10 = s10 := hz81.2.2.2.2.2.2.2.2.2.2.2.1
    have q94 : t_5_11 = s11 := hz81.2.2.2.2.2.2.2.2.2.2.2.2.1
    have q95 : t_5_12 = s12 := hz81.2.2.2.2.2.2.2.2.2.2.2.2.2.1
    have q96 : t_5_13 = s13 := hz81.2.2.2.2.2.2.2.2.2.2.2.2.2.2
    clear hz81
    have e97 : s0 = t_5_0 := q84.symm
    subst e97
    have e98 : s1 = t_5_1 := q85.symm
    subst e98
    have e99 : s2 = t_5_2 := q86.symm
    subst e99
    have e100 : s3 = t_5_3 := q87.symm
    subst e100
    have e101 : s5 = t_5_5 := q88.symm
    subst e101
    have e102 : s6 = t_5_6 := q89.symm
    subst e102
    have e103 : s7 = t_5_7 := q90.symm
    subst e103
    have e104 : s8 = t_5_8 := q91.symm
    subst e104
    have e105 : s9 = t_5_9 := q92.symm
    subst e105
    have e106 : s10 = t_5_10 := q93.symm
    subst e106
    have e107 : s11 = t_5_11 := q94.symm
    subst e107
    have e108 : s12 = t_5_12 := q95.symm
    subst e108
    have e109 : s13 = t_5_13 := q96.symm
    subst e109
    have g110 := zz_rg r_5
    have g111 := zz_rg t_5_4
    show zz_ok (some (r_5, s0, s1, s2, s3, t_5_4, s5, s6, s7, s8, s9, s10, s11, s12, s13, t_5_14, t_5_15)) _
    refine zz_ok_some ?_
    show zz_k5t (s14) (s15) (t_5_14) (t_5_15) (s5) s0.toInt (p1) r_5.toInt ∧ -1 ≤ r_5.toInt ∧ s0 = s0 ∧ s1 = s1 ∧ s2 = s2 ∧ s3 = s3 ∧ s5 = s5 ∧ s6 = s6 ∧ s7 = s7 ∧ s8 = s8 ∧ s9 = s9 ∧ s10 = s10 ∧ s11 = s11 ∧ s12 = s12 ∧ s13 = s13
    exact ⟨(by first | exact Or.inl ⟨by omega, zz_tr5_cg (by assumption) (by omega)⟩ | exact Or.inr (Or.inl ⟨by omega, by omega, rfl, by assumption⟩) | exact zz_k5t_c (by assumption) (by assumption) (by omega) rfl (by first | omega | decide) (by omega)), q83, rfl, rfl, rfl, rfl, rfl, rfl, rfl, rfl, rfl, rfl, rfl, rfl, rfl⟩
set_option maxHeartbeats 4000000 in
theorem gg_X5_freeParts_L4 (K : Nat) (hK : 1099511627776 ≤ K) (T : Nat) (hT : T ≤ 900) (n0 : Nat) (n1 : Nat) (n2 : Nat) (n3 : Nat) (n4 : Nat) (n5 : Nat) (n6 : Nat) (n7 : Nat) (n8 : Nat) : ∀ (k : Nat) (x1 : Int32) (x2 : Int32) (s0 : Int32) (s1 : Int32) (s2 : Int32) (s3 : Int32) (s4 : Int32) (s5 : Nat → Int32) (s6 : Nat → Int32) (s7 : Nat → Int32) (s8 : Nat → Int32) (s9 : Nat → Int32) (s10 : Int32) (s11 : Int32) (s12 : Nat → Int32) (s13 : Nat → Int32) (s14 : Nat → Int32) (s15 : Nat → Int32), n0 = 1024 → n1 = 200 → n2 = 200 → n3 = 200 → n4 = 200 → n5 = 512 → n6 = 512 → 0 ≤ s1.toInt → s1.toInt ≤ 1024 → n7 = 32 → n8 = 32 → 0 ≤ s0.toInt → 32 * s0.toInt ≤ s1.toInt → 0 ≤ x2.toInt → x2.toInt ≤ s0.toInt → s0.toInt - x2.toInt < (k : Int) → zz_ok (m_X5_freeParts_L4 K n0 n1 n2 n3 n4 n5 n6 n7 n8 k x1 x2 s0 s1 s2 s3 s4 s5 s6 s7 s8 s9 s10 s11 s12 s13 s14 s15) (fun z => z.2.1 = s0 ∧ z.2.2.1 = s1 ∧ z.2.2.2.1 = s2 ∧ z.2.2.2.2.1 = s3 ∧ z.2.2.2.2.2.1 = s4 ∧ z.2.2.2.2.2.2.1 = s5 ∧ z.2.2.2.2.2.2.2.1 = s6 ∧ z.2.2.2.2.2.2.2.2.1 = s7 ∧ z.2.2.2.2.2.2.2.2.2.1 = s8 ∧ z.2.2.2.2.2.2.2.2.2.2.1 = s9 ∧ z.2.2.2.2.2.2.2.2.2.2.2.1 = s10 ∧ z.2.2.2.2.2.2.2.2.2.2.2.2.1 = s11 ∧ z.2.2.2.2.2.2.2.2.2.2.2.2.2.1 = s12 ∧ z.2.2.2.2.2.2.2.2.2.2.2.2.2.2.1 = s13 ∧ z.2.2.2.2.2.2.2.2.2.2.2.2.2.2.2.1 = s14 ∧ z.2.2.2.2.2.2.2.2.2.2.2.2.2.2.2.2 = s15) := by
  intro k
  induction k with
  | zero =>
    intro x1 x2 s0 s1 s2 s3 s4 s5 s6 s7 s8 s9 s10 s11 s12 s13 s14 s15 a0 a1 a2 a3 a4 a5 a6 a7 a8 a9 a10 a11 a12 a13 a14 hz9
    exfalso
    have g_x1 := zz_rg x1
    have g_x2 := zz_rg x2
    have g_s0 := zz_rg s0
    have g_s1 := zz_rg s1
    have g_s2 := zz_rg s2
    have g_s3 := zz_rg s3
    have g_s4 := zz_rg s4
    have g_s10 := zz_rg s10
    have g_s11 := zz_rg s11
    omega
  | succ k ih =>
    intro x1 x2 s0 s1 s2 s3 s4 s5 s6 s7 s8 s9 s10 s11 s12 s13 s14 s15 a0 a1 a2 a3 a4 a5 a6 a7 a8 a9 a10 a11 a12 a13 a14 hz9
    rw [m_X5_freeParts_L4_s]
    have g1 := zz_rg x1
    have g2 := zz_rg x2
    have g3 := zz_rg s0
    have g4 := zz_rg s1
    have g5 := zz_rg s2
    have g6 := zz_rg s3
    have g7 := zz_rg s4
    have g8 := zz_rg s10
    have g9 := zz_rg s11
    refine zz_ok_ite (fun c10 => ?_) (fun c10 => ?_)
    · have c10 := Int32.le_iff_toInt_le.mp c10
      refine zz_ok_some ?_
      show s0 = s0 ∧ s1 = s1 ∧ s2 = s2 ∧ s3 = s3 ∧ s4 = s4 ∧ s5 = s5 ∧ s6 = s6 ∧ s7 = s7 ∧ s8 = s8 ∧ s9 = s9 ∧ s10 = s10 ∧ s11 = s11 ∧ s12 = s12 ∧ s13 = s13 ∧ s14 = s14 ∧ s15 = s15
      exact ⟨rfl, rfl, rfl, rfl, rfl, rfl, rfl, rfl, rfl, rfl, rfl, rfl, rfl, rfl, rfl, rfl⟩
    · have c10 := zz_nle c10
      refine zz_ok_chk (zz_ix (by omega) (by omega)) ?_
      have g11 := zz_tnI x2 (by omega)
      have g13 := zz_rg (s14 x2.toNatClampNeg)
      have l14 : (0 : Int32).toInt = 0 := rfl
      refine zz_ok_ite (fun c12 => ?_) (fun c12 => ?_)
      · have c12 := congrArg Int32.toInt c12
        have l15 : (1 : Int32).toInt = 1 := rfl
        obtain ⟨k16, f17⟩ := zz_add x1 (1 : Int32)
        have g18 := zz_rg (x1 + 1)
        obtain ⟨k19, f20⟩ := zz_add x2 (1 : Int32)
        have g21 := zz_rg (x2 + 1)
        refine (ih (x1 + 1) (x2 + 1) s0 s1 s2 s3 s4 s5 s6 s7 s8 s9 s10 s11 s12 s13 s14 s15 a0 a1 a2 a3 a4 a5 a6 a7 a8 a9 a10 a11 a12 (by omega) (by omega) (by omega)).mono (fun z hz => ?_)
        obtain ⟨y22_0, y22_1, y22_2, y22_3, y22_4, y22_5, y22_6, y22_7, y22_8, y22_9, y22_10, y22_11, y22_12, y22_13, y22_14, y22_15, y22_16⟩ := z
        have q23 : y22_1 = s0 := hz.1
        have q24 : y22_2 = s1 := hz.2.1
        have q25 : y22_3 = s2 := hz.2.2.1
        have q26 : y22_4 = s3 := hz.2.2.2.1
        have q27 : y22_5 = s4 := hz.2.2.2.2.1
        have q28 : y22_6 = s5 := hz.2.2.2.2.2.1
        have q29 : y22_7 = s6 := hz.2.2.2.2.2.2.1
        have q30 : y22_8 = s7 := hz.2.2.2.2.2.2.2.1
        have q31 : y22_9 = s8 := hz.2.2.2.2.2.2.2.2.1
        have q32 : y22_10 = s9 := hz.2.2.2.2.2.2.2.2.2.1
        have q33 : y22_11 = s10 := hz.2.2.2.2.2.2.2.2.2.2.1
        have q34 : y22_12 = s11 := hz.2.2.2.2.2.2.2.2.2.2.2.1
        have q35 : y22_13 = s12 := hz.2.2.2.2.2.2.2.2.2.2.2.2.1
        have q36 : y22_14 = s13 := hz.2.2.2.2.2.2.2.2.2.2.2.2.2.1
        have q37 : y22_15 = s14 := hz.2.2.2.2.2.2.2.2.2.2.2.2.2.2.1
        have q38 : y22_16 = s15 := hz.2.2.2.2.2.2.2.2.2.2.2.2.2.2.2
        clear hz
        have e39 : s0 = y22_1 := q23.symm
        subst e39
        have e40 : s1 = y22_2 := q24.symm
        subst e40
        have e41 : s2 = y22_3 := q25.symm
        subst e41
        have e42 : s3 = y22_4 := q26.symm
        subst e42
        have e43 : s4 = y22_5 := q27.symm
        subst e43
        have e44 : s5 = y22_6 := q28.symm
        subst e44
        have e45 : s6 = y22_7 := q29.symm
        subst e45
        have e46 : s7 = y22_8 := q30.symm
        subst e46
        have e47 : s8 = y22_9 := q31.symm
        subst e47
        have e48 : s9 = y22_10 := q32.symm
        subst e48
        have e49 : s10 = y22_11 := q33.symm
        subst e49
        have e50 : s11 = y22_12 := q34.symm
        subst e50
        have e51 : s12 = y22_13 := q35.symm
        subst e51
        have e52 : s13 = y22_14 := q36.symm
        subst e52
        have e53 : s14 = y22_15 := q37.symm
        subst e53
        have e54 : s15 = y22_16 := q38.symm
        subst e54
        have g55 := zz_rg y22_0
        show s0 = s0 ∧ s1 = s1 ∧ s2 = s2 ∧ s3 = s3 ∧ s4 = s4 ∧ s5 = s5 ∧ s6 = s6 ∧ s7 = s7 ∧ s8 = s8 ∧ s9 = s9 ∧ s10 = s10 ∧ s11 = s11 ∧ s12 = s12 ∧ s13 = s13 ∧ s14 = s14 ∧ s15 = s15
        exact ⟨rfl, rfl, rfl, rfl, rfl, rfl, rfl, rfl, rfl, rfl, rfl, rfl, rfl, rfl, rfl, rfl⟩
      · have c12 := zz_neq c12
        have l56 : (1 : Int32).toInt = 1 := rfl
        obtain ⟨k57, f58⟩ := zz_add x2 (1 : Int32)
        have g59 := zz_rg (x2 + 1)
        refine (ih x1 (x2 + 1) s0 s1 s2 s3 s4 s5 s6 s7 s8 s9 s10 s11 s12 s13 s14 s15 a0 a1 a2 a3 a4 a5 a6 a7 a8 a9 a10 a11 a12 (by omega) (by omega) (by omega)).mono (fun z hz => ?_)
        obtain ⟨y60_0, y60_1, y60_2, y60_3, y60_4, y60_5, y60_6, y60_7, y60_8, y60_9, y60_10, y60_11, y60_12, y60_13, y60_14, y60_15, y60_16⟩ := z
        have q61 : y60_1 = s0 := hz.1
        have q62 : y60_2 = s1 := hz.2.1
        have q63 : y60_3 = s2 := hz.2.2.1
        have q64 : y60_4 = s3 := hz.2.2.2.1
        have q65 : y60_5 = s4 := hz.2.2.2.2.1
        have q66 : y60_6 = s5 := hz.2.2.2.2.2.1
        have q67 : y60_7 = s6 := hz.2.2.2.2.2.2.1
        have q68 : y60_8 = s7 := hz.2.2.2.2.2.2.2.1
        have q69 : y60_9 = s8 := hz.2.2.2.2.2.2.2.2.1
        have q70 : y60_10 = s9 := hz.2.2.2.2.2.2.2.2.2.1
        have q71 : y60_11 = s10 := hz.2.2.2.2.2.2.2.2.2.2.1
        have q72 : y60_12 = s11 := hz.2.2.2.2.2.2.2.2.2.2.2.1
        have q73 : y60_13 = s12 := hz.2.2.2.2.2.2.2.2.2.2.2.2.1
        have q74 : y60_14 = s13 := hz.2.2.2.2.2.2.2.2.2.2.2.2.2.1
        have q75 : y60_15 = s14 := hz.2.2.2.2.2.2.2.2.2.2.2.2.2.2.1
        have q76 : y60_16 = s15 := hz.2.2.2.2.2.2.2.2.2.2.2.2.2.2.2
        clear hz
        have e77 : s0 = y60_1 := q61.symm
        subst e77
        have e78 : s1 = y60_2 := q62.symm
        subst e78
        have e79 : s2 = y60_3 := q63.symm
        subst e79
        have e80 : s3 = y60_4 := q64.symm
        subst e80
        have e81 : s4 = y60_5 := q65.symm
        subst e81
        have e82 : s5 = y60_6 := q66.symm
        subst e82
        have e83 : s6 = y60_7 := q67.symm
        subst e83
        have e84 : s7 = y60_8 := q68.symm
        subst e84
        have e85 : s8 = y60_9 := q69.symm
        subst e85
        have e86 : s9 = y60_10 := q70.symm
        subst e86
        have e87 : s10 = y60_11 := q71.symm
        subst e87
        have e88 : s11 = y60_12 := q72.symm
        subst e88
        have e89 : s12 = y60_13 := q73.symm
        subst e89
        have e90 : s13 = y60_14 := q74.symm
        subst e90
        have e91 : s14 = y60_15 := q75.symm
        subst e91
        have e92 : s15 = y60_16 := q76.symm
        subst e92
        have g93 := zz_rg y60_0
        show s0 = s0 ∧ s1 = s1 ∧ s2 = s2 ∧ s3 = s3 ∧ s4 = s4 ∧ s5 = s5 ∧ s6 = s6 ∧ s7 = s7 ∧ s8 = s8 ∧ s9 = s9 ∧ s10 = s10 ∧ s11 = s11 ∧ s12 = s12 ∧ s13 = s13 ∧ s14 = s14 ∧ s15 = s15
        exact ⟨rfl, rfl, rfl, rfl, rfl, rfl, rfl, rfl, rfl, rfl, rfl, rfl, rfl, rfl, rfl, rfl⟩
set_option maxHeartbeats 4000000 in
theorem gg_X5_freeParts (K : Nat) (hK : 1099511627776 ≤ K) (T : Nat) (hT : T ≤ 900) (n0 : Nat) (n1 : Nat) (n2 : Nat) (n3 : Nat) (n4 : Nat) (n5 : Nat) (n6 : Nat) (n7 : Nat) (n8 : Nat) (s0 : Int32) (s1 : Int32) (s2 : Int32) (s3 : Int32) (s4 : Int32) (s5 : Nat → Int32) (s6 : Nat → Int32) (s7 : Nat → Int32) (s8 : Nat → Int32) (s9 : Nat → Int32) (s10 : Int32) (s11 : Int32) (s12 : Nat → Int32) (s13 : Nat → Int32) (s14 : Nat → Int32) (s15 : Nat → Int32) (a0 : n0 = 1024) (a1 : n1 = 200) (a2 : n2 = 200) (a3 : n3 = 200) (a4 : n4 = 200) (a5 : n5 = 512) (a6 : n6 = 512) (a7 : 0 ≤ s1.toInt) (a8 : s1.toInt ≤ 1024) (a9 : n7 = 32) (a10 : n8 = 32) (a11 : 0 ≤ s0.toInt) (a12 : 32 * s0.toInt ≤ s1.toInt) : zz_ok (m_X5_freeParts K n0 n1 n2 n3 n4 n5 n6 n7 n8 s0 s1 s2 s3 s4 s5 s6 s7 s8 s9 s10 s11 s12 s13 s14 s15) (fun z => z.2.1 = s0 ∧ z.2.2.1 = s1 ∧ z.2.2.2.1 = s2 ∧ z.2.2.2.2.1 = s3 ∧ z.2.2.2.2.2.1 = s4 ∧ z.2.2.2.2.2.2.1 = s5 ∧ z.2.2.2.2.2.2.2.1 = s6 ∧ z.2.2.2.2.2.2.2.2.1 = s7 ∧ z.2.2.2.2.2.2.2.2.2.1 = s8 ∧ z.2.2.2.2.2.2.2.2.2.2.1 = s9 ∧ z.2.2.2.2.2.2.2.2.2.2.2.1 = s10 ∧ z.2.2.2.2.2.2.2.2.2.2.2.2.1 = s11 ∧ z.2.2.2.2.2.2.2.2.2.2.2.2.2.1 = s12 ∧ z.2.2.2.2.2.2.2.2.2.2.2.2.2.2.1 = s13 ∧ z.2.2.2.2.2.2.2.2.2.2.2.2.2.2.2.1 = s14 ∧ z.2.2.2.2.2.2.2.2.2.2.2.2.2.2.2.2 = s15) := by
  have g1 := zz_rg s0
  have g2 := zz_rg s1
  have g3 := zz_rg s2
  have g4 := zz_rg s3
  have g5 := zz_rg s4
  have g6 := zz_rg s10
  have g7 := zz_rg s11
  unfold m_X5_freeParts
  have l8 : (0 : Int32).toInt = 0 := rfl
  refine (gg_X5_freeParts_L4 K hK T hT n0 n1 n2 n3 n4 n5 n6 n7 n8 K ((0 : Int32)) ((0 : Int32)) s0 s1 s2 s3 s4 s5 s6 s7 s8 s9 s10 s11 s12 s13 s14 s15 a0 a1 a2 a3 a4 a5 a6 a7 a8 a9 a10 a11 a12 (by omega) (by omega) (by omega)).mono (fun z hz => ?_)
  obtain ⟨y9_0, y9_1, y9_2, y9_3, y9_4, y9_5, y9_6, y9_7, y9_8, y9_9, y9_10, y9_11, y9_12, y9_13, y9_14, y9_15, y9_16⟩ := z
  have q10 : y9_1 = s0 := hz.1
  have q11 : y9_2 = s1 := hz.2.1
  have q12 : y9_3 = s2 := hz.2.2.1
  have q13 : y9_4 = s3 := hz.2.2.2.1
  have q14 : y9_5 = s4 := hz.2.2.2.2.1
  have q15 : y9_6 = s5 := hz.2.2.2.2.2.1
  have q16 : y9_7 = s6 := hz.2.2.2.2.2.2.1
  have q17 : y9_8 = s7 := hz.2.2.2.2.2.2.2.1
  have q18 : y9_9 = s8 := hz.2.2.2.2.2.2.2.2.1
  have q19 : y9_10 = s9 := hz.2.2.2.2.2.2.2.2.2.1
  have q20 : y9_11 = s10 := hz.2.2.2.2.2.2.2.2.2.2.1
  have q21 : y9_12 = s11 := hz.2.2.2.2.2.2.2.2.2.2.2.1
  have q22 : y9_13 = s12 := hz.2.2.2.2.2.2.2.2.2.2.2.2.1
  have q23 : y9_14 = s13 := hz.2.2.2.2.2.2.2.2.2.2.2.2.2.1
  have q24 : y9_15 = s14 := hz.2.2.2.2.2.2.2.2.2.2.2.2.2.2.1
  have q25 : y9_16 = s15 := hz.2.2.2.2.2.2.2.2.2.2.2.2.2.2.2
  clear hz
  have e26 : s0 = y9_1 := q10.symm
  subst e26
  have e27 : s1 = y9_2 := q11.symm
  subst e27
  have e28 : s2 = y9_3 := q12.symm
  subst e28
  have e29 : s3 = y9_4 := q13.symm
  subst e29
  have e30 : s4 = y9_5 := q14.symm
  subst e30
  have e31 : s5 = y9_6 := q15.symm
  subst e31
  have e32 : s6 = y9_7 := q16.symm
  subst e32
  have e33 : s7 = y9_8 := q17.symm
  subst e33
  have e34 : s8 = y9_9 := q18.symm
  subst e34
  have e35 : s9 = y9_10 := q19.symm
  subst e35
  have e36 : s10 = y9_11 := q20.symm
  subst e36
  have e37 : s11 = y9_12 := q21.symm
  subst e37
  have e38 : s12 = y9_13 := q22.symm
  subst e38
  have e39 : s13 = y9_14 := q23.symm
  subst e39
  have e40 : s14 = y9_15 := q24.symm
  subst e40
  have e41 : s15 = y9_16 := q25.symm
  subst e41
  have g42 := zz_rg y9_0
  show s0 = s0 ∧ s1 = s1 ∧ s2 = s2 ∧ s3 = s3 ∧ s4 = s4 ∧ s5 = s5 ∧ s6 = s6 ∧ s7 = s7 ∧ s8 = s8 ∧ s9 = s9 ∧ s10 = s10 ∧ s11 = s11 ∧ s12 = s12 ∧ s13 = s13 ∧ s14 = s14 ∧ s15 = s15
  exact ⟨rfl, rfl, rfl, rfl, rfl, rfl, rfl, rfl, rfl, rfl, rfl, rfl, rfl, rfl, rfl, rfl⟩
set_option maxHeartbeats 4000000 in
theorem gg_X5_takeBack (K : Nat) (hK : 1099511627776 ≤ K) (T : Nat) (hT : T ≤ 900) (n0 : Nat) (n1 : Nat) (n2 : Nat) (n3 : Nat) (n4 : Nat) (n5 : Nat) (n6 : Nat) (n7 : Nat) (n8 : Nat) (p1 : Int32) (p2 : Int32) (s0 : Int32) (s1 : Int32) (s2 : Int32) (s3 : Int32) (s4 : Int32) (s5 : Nat → Int32) (s6 : Nat → Int32) (s7 : Nat → Int32) (s8 : Nat → Int32) (s9 : Nat → Int32) (s10 : Int32) (s11 : Int32) (s12 : Nat → Int32) (s13 : Nat → Int32) (s14 : Nat → Int32) (s15 : Nat → Int32) (a0 : n0 = 1024) (a1 : n1 = 200) (a2 : n2 = 200) (a3 : n3 = 200) (a4 : n4 = 200) (a5 : n5 = 512) (a6 : n6 = 512) (a7 : 0 ≤ s1.toInt) (a8 : s1.toInt ≤ 1024) (a9 : n7 = 32) (a10 : n8 = 32) (a11 : 0 ≤ s0.toInt) (a12 : 32 * s0.toInt ≤ s1.toInt) (a13 : 0 ≤ p1.toInt) (a14 : 1 ≤ p2.toInt) (a15 : p1.toInt + p2.toInt ≤ 32 * s0.toInt) (a16 : (p1.toInt % 32 + p2.toInt ≤ 32 ∨ p1.toInt % 32 = 0)) (a17 : (p2.toInt ≤ 32 ∨ p2.toInt % 32 = 0)) : zz_ok (m_X5_takeBack K n0 n1 n2 n3 n4 n5 n6 n7 n8 p1 p2 s0 s1 s2 s3 s4 s5 s6 s7 s8 s9 s10 s11 s12 s13 s14 s15) (fun z => zz_tb5 (s14) (s15) (z.2.2.2.2.2.2.2.2.2.2.2.2.2.2.1) (z.2.2.2.2.2.2.2.2.2.2.2.2.2.2.2) p1.toInt p2.toInt ∧ z.1 = s0 ∧ z.2.1 = s1 ∧ z.2.2.1 = s2 ∧ z.2.2.2.1 = s3 ∧ z.2.2.2.2.1 = s4 ∧ z.2.2.2.2.2.1 = s5 ∧ z.2.2.2.2.2.2.1 = s6 ∧ z.2.2.2.2.2.2.2.1 = s7 ∧ z.2.2.2.2.2.2.2.2.1 = s8 ∧ z.2.2.2.2.2.2.2.2.2.1 = s9 ∧ z.2.2.2.2.2.2.2.2.2.2.1 = s10 ∧ z.2.2.2.2.2.2.2.2.2.2.2.1 = s11 ∧ z.2.2.2.2.2.2.2.2.2.2.2.2.1 = s12 ∧ z.2.2.2.2.2.2.2.2.2.2.2.2.2.1 = s13) := by
  have g1 := zz_rg p1
  have g2 := zz_rg p2
  have g3 := zz_rg s0
  have g4 := zz_rg s1
  have g5 := zz_rg s2
  have g6 := zz_rg s3
  have g7 := zz_rg s4
  have g8 := zz_rg s10
  have g9 := zz_rg s11
  have l10 : (32 : Int32).toInt = 32 := rfl
  try have f11 := zz_divP p1 (32 : Int32) 32 rfl (by decide) (by omega)
  have f12 := zz_divB p1 (32 : Int32) 32 rfl (by decide)
  have g13 := zz_rg (p1 / ((32 : Int32)))
  have tn9 := zz_tnI (p1 / ((32 : Int32))) (by omega)
  unfold m_X5_takeBack
  have l15 : (0 : Int32).toInt = 0 := rfl
  refine zz_ok_ite (fun c14 => ?_) (fun c14 => ?_)
  · have c14 := Int32.lt_iff_toInt_lt.mp c14
    refine zz_ok_some ?_
    show zz_tb5 (s14) (s15) (s14) (s15) p1.toInt p2.toInt ∧ s0 = s0 ∧ s1 = s1 ∧ s2 = s2 ∧ s3 = s3 ∧ s4 = s4 ∧ s5 = s5 ∧ s6 = s6 ∧ s7 = s7 ∧ s8 = s8 ∧ s9 = s9 ∧ s10 = s10 ∧ s11 = s11 ∧ s12 = s12 ∧ s13 = s13
    exact ⟨(by first | exact zz_tb5_n (by omega) (by omega) | exact zz_tb5_y (i := (p1 / ((32 : Int32))).toNatClampNeg) (by assumption) (by assumption) rfl (by first | omega | decide) (by omega) (by omega) (by omega) (by omega) (by omega) (by omega) | (exfalso; omega)), rfl, rfl, rfl, rfl, rfl, rfl, rfl, rfl, rfl, rfl, rfl, rfl, rfl, rfl⟩
  · have c14 := zz_nlt c14
    refine zz_ok_ite (fun c16 => ?_) (fun c16 => ?_)
    · have c16 := Int32.lt_iff_toInt_lt.mp c16
      refine zz_ok_chk (zz_ix (by omega) (by omega)) ?_
      have g17 := zz_tnI (p1 / ((32 : Int32))) (by omega)
      refine zz_ok_chk (zz_ix (by omega) (by omega)) ?_
      refine zz_ok_chk (zz_ix (by omega) (by omega)) ?_
      have g19 := zz_rg ((upd s15 (p1 / ((32 : Int32))).toNatClampNeg ((s15 (p1 / ((32 : Int32))).toNatClampNeg) - ((1 : Int32)))) (p1 / ((32 : Int32))).toNatClampNeg)
      refine zz_ok_ite (fun c18 => ?_) (fun c18 => ?_)
      · have c18 := Int32.lt_iff_toInt_lt.mp c18
        refine zz_ok_some ?_
        show zz_tb5 (s14) (s15) (s14) ((upd s15 (p1 / ((32 : Int32))).toNatClampNeg ((s15 (p1 / ((32 : Int32))).toNatClampNeg) - ((1 : Int32))))) p1.toInt p2.toInt ∧ s0 = s0 ∧ s1 = s1 ∧ s2 = s2 ∧ s3 = s3 ∧ s4 = s4 ∧ s5 = s5 ∧ s6 = s6 ∧ s7 = s7 ∧ s8 = s8 ∧ s9 = s9 ∧ s10 = s10 ∧ s11 = s11 ∧ s12 = s12 ∧ s13 = s13
        exact ⟨(by first | exact zz_tb5_n (by omega) (by omega) | exact zz_tb5_y (i := (p1 / ((32 : Int32))).toNatClampNeg) (by assumption) (by assumption) rfl (by first | omega | decide) (by omega) (by omega) (by omega) (by omega) (by omega) (by omega) | (exfalso; omega)), rfl, rfl, rfl, rfl, rfl, rfl, rfl, rfl, rfl, rfl, rfl, rfl, rfl, rfl⟩
      · have c18 := zz_nlt c18
        obtain ⟨k20, f21⟩ := zz_add p2 (32 : Int32)
        have g22 := zz_rg (p2 + ((32 : Int32)))
        have l23 : (1 : Int32).toInt = 1 := rfl
        obtain ⟨k24, f25⟩ := zz_sub (p2 + ((32 : Int32))) (1 : Int32)
        have g26 := zz_rg ((p2 + ((32 : Int32))) - ((1 : Int32)))
        try have f27 := zz_divP ((p2 + ((32 : Int32))) - ((1 : Int32))) (32 : Int32) 32 rfl (by decide) (by omega)
        have f28 := zz_divB ((p2 + ((32 : Int32))) - ((1 : Int32))) (32 : Int32) 32 rfl (by decide)
        have g29 := zz_rg (((p2 + ((32 : Int32))) - ((1 : Int32))) / ((32 : Int32)))
        refine zz_ok_bind (gg_X5_setPages K hK T hT n0 n1 n2 n3 n4 n5 n6 n7 n8 (p1 / ((32 : Int32))) (((p2 + ((32 : Int32))) - ((1 : Int32))) / ((32 : Int32))) ((0 : Int32)) s0 s1 s2 s3 s4 s5 s6 s7 s8 s9 s10 s11 s12 s13 s14 (upd s15 (p1 / ((32 : Int32))).toNatClampNeg ((s15 (p1 / ((32 : Int32))).toNatClampNeg) - ((1 : Int32)))) a0 a1 a2 a3 a4 a5 a6 a7 a8 a9 a10 a11 a12 (by omega) (by omega) (by omega)) ?_
        intro z30 hz30
        obtain ⟨t_7_0, t_7_1, t_7_2, t_7_3, t_7_4, t_7_5, t_7_6, t_7_7, t_7_8, t_7_9, t_7_10, t_7_11, t_7_12, t_7_13, t_7_14, t_7_15⟩ := z30
        have q31 : zz_wr (s14) (t_7_14) (p1 / ((32 : Int32))).toInt ((p1 / ((32 : Int32))).toInt + (((p2 + ((32 : Int32))) - ((1 : Int32))) / ((32 : Int32))).toInt) (((0 : Int32))) := hz30.1
        have q32 : zz_wk ((0 : Int32)).toInt ((upd s15 (p1 / ((32 : Int32))).toNatClampNeg ((s15 (p1 / ((32 : Int32))).toNatClampNeg) - ((1 : Int32))))) (t_7_15) (p1 / ((32 : Int32))).toInt ((p1 / ((32 : Int32))).toInt + (((p2 + ((32 : Int32))) - ((1 : Int32))) / ((32 : Int32))).toInt) := hz30.2.1
        have q33 : t_7_0 = s0 := hz30.2.2.1
        have q34 : t_7_1 = s1 := hz30.2.2.2.1
        have q35 : t_7_2 = s2 := hz30.2.2.2.2.1
        have q36 : t_7_3 = s3 := hz30.2.2.2.2.2.1
        have q37 : t_7_4 = s4 := hz30.2.2.2.2.2.2.1
        have q38 : t_7_5 = s5 := hz30.2.2.2.2.2.2.2.1
        have q39 : t_7_6 = s6 := hz30.2.2.2.2.2.2.2.2.1
        have q40 : t_7_7 = s7 := hz30.2.2.2.2.2.2.2.2.2.1
        have q41 : t_7_8 = s8 := hz30.2.2.2.2.2.2.2.2.2.2.1
        have q42 : t_7_9 = s9 := hz30.2.2.2.2.2.2.2.2.2.2.2.1
        have q43 : t_7_10 = s10 := hz30.2.2.2.2.2.2.2.2.2.2.2.2.1
        have q44 : t_7_11 = s11 := hz30.2.2.2.2.2.2.2.2.2.2.2.2.2.1
        have q45 : t_7_12 = s12 := hz30.2.2.2.2.2.2.2.2.2.2.2.2.2.2.1
        have q46 : t_7_13 = s13 := hz30.2.2.2.2.2.2.2.2.2.2.2.2.2.2.2
        clear hz30
        have e47 : s0 = t_7_0 := q33.symm
        subst e47
        have e48 : s1 = t_7_1 := q34.symm
        subst e48
        have e49 : s2 = t_7_2 := q35.symm
        subst e49
        have e50 : s3 = t_7_3 := q36.symm
        subst e50
        have e51 : s4 = t_7_4 := q37.symm
        subst e51
        have e52 : s5 = t_7_5 := q38.symm
        subst e52
        have e53 : s6 = t_7_6 := q39.symm
        subst e53
        have e54 : s7 = t_7_7 := q40.symm
        subst e54
        have e55 : s8 = t_7_8 := q41.symm
        subst e55
        have e56 : s9 = t_7_9 := q42.symm
        subst e56
        have e57 : s10 = t_7_10 := q43.symm
        subst e57
        have e58 : s11 = t_7_11 := q44.symm
        subst e58
        have e59 : s12 = t_7_12 := q45.symm
        subst e59
        have e60 : s13 = t_7_13 := q46.symm
        subst e60
        show zz_ok (some (s0, s1, s2, s3, s4, s5, s6, s7, s8, s9, s10, s11, s12, s13, t_7_14, t_7_15)) _
        refine zz_ok_some ?_
        show zz_tb5 (s14) (s15) (t_7_14) (t_7_15) p1.toInt p2.toInt ∧ s0 = s0 ∧ s1 = s1 ∧ s2 = s2 ∧ s3 = s3 ∧ s4 = s4 ∧ s5 = s5 ∧ s6 = s6 ∧ s7 = s7 ∧ s8 = s8 ∧ s9 = s9 ∧ s10 = s10 ∧ s11 = s11 ∧ s12 = s12 ∧ s13 = s13
        exact ⟨(by first | exact zz_tb5_n (by omega) (by omega) | exact zz_tb5_y (i := (p1 / ((32 : Int32))).toNatClampNeg) (by assumption) (by assumption) rfl (by first | omega | decide) (by omega) (by omega) (by omega) (by omega) (by omega) (by omega) | (exfalso; omega)), rfl, rfl, rfl, rfl, rfl, rfl, rfl, rfl, rfl, rfl, rfl, rfl, rfl, rfl⟩
    · have c16 := zz_nlt c16
      refine zz_ok_some ?_
      show zz_tb5 (s14) (s15) (s14) (s15) p1.toInt p2.toInt ∧ s0 = s0 ∧ s1 = s1 ∧ s2 = s2 ∧ s3 = s3 ∧ s4 = s4 ∧ s5 = s5 ∧ s6 = s6 ∧ s7 = s7 ∧ s8 = s8 ∧ s9 = s9 ∧ s10 = s10 ∧ s11 = s11 ∧ s12 = s12 ∧ s13 = s13
      exact ⟨(by first | exact zz_tb5_n (by omega) (by omega) | exact zz_tb5_y (i := (p1 / ((32 : Int32))).toNatClampNeg) (by assumption) (by assumption) rfl (by first | omega | decide) (by omega) (by omega) (by omega) (by omega) (by omega) (by omega) | (exfalso; omega)), rfl, rfl, rfl, rfl, rfl, rfl, rfl, rfl, rfl, rfl, rfl, rfl, rfl, rfl⟩

set_option maxHeartbeats 4000000 in
theorem gg_X3_begin (K : Nat) (hK : 1099511627776 ≤ K) (T : Nat) (hT : T ≤ 900) (n0 : Nat) (n1 : Nat) (n2 : Nat) (n3 : Nat) (n4 : Nat) (n5 : Nat) (n6 : Nat) (n7 : Nat) (s0 : Int32) (s1 : Int32) (s2 : Int32) (s3 : Int32) (s4 : Int32) (s5 : Nat → Int32) (s6 : Nat → Int32) (s7 : Nat → Int32) (s8 : Nat → Int32) (s9 : Nat → Int32) (s10 : Int32) (s11 : Int32) (s12 : Nat → Int32) (s13 : Nat → Int32) (s14 : Nat → Int32) (a0 : n0 = 1024) (a1 : n1 = 200) (a2 : n2 = 200) (a3 : n3 = 200) (a4 : n4 = 200) (a5 : n5 = 512) (a6 : n6 = 512) (a7 : 0 ≤ s1.toInt) (a8 : s1.toInt ≤ 1024) (a9 : n7 = 1024) (a10 : 16 ≤ s1.toInt) : zz_ok (m_X3_begin K n0 n1 n2 n3 n4 n5 n6 n7 s0 s1 s2 s3 s4 s5 s6 s7 s8 s9 s10 s11 s12 s13 s14) (fun z => zz_gpw s1.toInt z.1.toInt ∧ zz_b4 (z.2.2.2.2.2.2.2.2.2.2.2.2.2.2) z.1.toInt ∧ z.2.1 = s1 ∧ z.2.2.1 = s2 ∧ z.2.2.2.1 = s3 ∧ z.2.2.2.2.1 = s4 ∧ z.2.2.2.2.2.1 = s5 ∧ z.2.2.2.2.2.2.1 = s6 ∧ z.2.2.2.2.2.2.2.1 = s7 ∧ z.2.2.2.2.2.2.2.2.1 = s8 ∧ z.2.2.2.2.2.2.2.2.2.1 = s9 ∧ z.2.2.2.2.2.2.2.2.2.2.1 = s10 ∧ z.2.2.2.2.2.2.2.2.2.2.2.1 = s11 ∧ z.2.2.2.2.2.2.2.2.2.2.2.2.1 = s12 ∧ z.2.2.2.2.2.2.2.2.2.2.2.2.2.1 = s13) := by
  have g1 := zz_rg s0
  have g2 := zz_rg s1
  have g3 := zz_rg s2
  have g4 := zz_rg s3
  have g5 := zz_rg s4
  have g6 := zz_rg s10
  have g7 := zz_rg s11
  unfold m_X3_begin
  refine zz_ok_bind (ff_X7_words K hK T hT n0 n1 n2 n3 n4 n5 n6 s1 s2 s3 s4 s5 s6 s7 s8 s9 s10 s11 s12 s13) ?_
  intro z8 hz8
  obtain ⟨r_1, t_1_0, t_1_1, t_1_2, t_1_3, t_1_4, t_1_5, t_1_6, t_1_7, t_1_8, t_1_9, t_1_10, t_1_11, t_1_12⟩ := z8
  have q9 : r_1 = s1 := hz8.1
  have q10 : t_1_0 = s1 := hz8.2.1
  have q11 : t_1_1 = s2 := hz8.2.2.1
  have q12 : t_1_2 = s3 := hz8.2.2.2.1
  have q13 : t_1_3 = s4 := hz8.2.2.2.2.1
  have q14 : t_1_4 = s5 := hz8.2.2.2.2.2.1
  have q15 : t_1_5 = s6 := hz8.2.2.2.2.2.2.1
  have q16 : t_1_6 = s7 := hz8.2.2.2.2.2.2.2.1
  have q17 : t_1_7 = s8 := hz8.2.2.2.2.2.2.2.2.1
  have q18 : t_1_8 = s9 := hz8.2.2.2.2.2.2.2.2.2.1
  have q19 : t_1_9 = s10 := hz8.2.2.2.2.2.2.2.2.2.2.1
  have q20 : t_1_10 = s11 := hz8.2.2.2.2.2.2.2.2.2.2.2.1
  have q21 : t_1_11 = s12 := hz8.2.2.2.2.2.2.2.2.2.2.2.2.1
  have q22 : t_1_12 = s13 := hz8.2.2.2.2.2.2.2.2.2.2.2.2.2
  clear hz8
  have e23 : s1 = r_1 := q9.symm
  subst e23
  have e24 : s1 = t_1_0 := q10.symm
  subst e24
  have e25 : s2 = t_1_1 := q11.symm
  subst e25
  have e26 : s3 = t_1_2 := q12.symm
  subst e26
  have e27 : s4 = t_1_3 := q13.symm
  subst e27
  have e28 : s5 = t_1_4 := q14.symm
  subst e28
  have e29 : s6 = t_1_5 := q15.symm
  subst e29
  have e30 : s7 = t_1_6 := q16.symm
  subst e30
  have e31 : s8 = t_1_7 := q17.symm
  subst e31
  have e32 : s9 = t_1_8 := q18.symm
  subst e32
  have e33 : s10 = t_1_9 := q19.symm
  subst e33
  have e34 : s11 = t_1_10 := q20.symm
  subst e34
  have e35 : s12 = t_1_11 := q21.symm
  subst e35
  have e36 : s13 = t_1_12 := q22.symm
  subst e36
  show zz_ok ((m_X11_powerFrom K s1).bind fun ⟨r_2, _⟩ => (m_X7_words K n0 n1 n2 n3 n4 n5 n6 s1 s2 s3 s4 s5 s6 s7 s8 s9 s10 s11 s12 s13).bind fun ⟨r_3, t_3_0, t_3_1, t_3_2, t_3_3, t_3_4, t_3_5, t_3_6, t_3_7, t_3_8, t_3_9, t_3_10, t_3_11, t_3_12⟩ => if r_2 ≤ r_3 then ((m_J7_fill_53178 K n7 ((0 : Int32)) s14).bind fun t_5_0 => if ¬ (((0 : Int32)) < 0 ∨ n7 ≤ ((0 : Int32)).toNatClampNeg) then (some (r_2, t_3_0, t_3_1, t_3_2, t_3_3, t_3_4, t_3_5, t_3_6, t_3_7, t_3_8, t_3_9, t_3_10, t_3_11, t_3_12, upd t_5_0 ((0 : Int32)).toNatClampNeg r_2)) else none) else ((m_J7_fill_53178 K n7 ((0 : Int32)) s14).bind fun t_7_0 => if ¬ (((0 : Int32)) < 0 ∨ n7 ≤ ((0 : Int32)).toNatClampNeg) then (some (r_2 / ((2 : Int32)), t_3_0, t_3_1, t_3_2, t_3_3, t_3_4, t_3_5, t_3_6, t_3_7, t_3_8, t_3_9, t_3_10, t_3_11, t_3_12, upd t_7_0 ((0 : Int32)).toNatClampNeg (r_2 / ((2 : Int32))))) else none)) _
  refine zz_ok_bind (gg_X11_powerFrom K hK T hT s1 (by omega) a8) ?_
  intro z37 hz37
  obtain ⟨r_2, _⟩ := z37
  have q38 : zz_lpw s1.toInt r_2.toInt := hz37
  clear hz37
  have g39 := zz_rg r_2
  have pw9 := zz_lpw_rg (by assumption : zz_lpw _ r_2.toInt)
  show zz_ok ((m_X7_words K n0 n1 n2 n3 n4 n5 n6 s1 s2 s3 s4 s5 s6 s7 s8 s9 s10 s11 s12 s13).bind fun ⟨r_3, t_3_0, t_3_1, t_3_2, t_3_3, t_3_4, t_3_5, t_3_6, t_3_7, t_3_8, t_3_9, t_3_10, t_3_11, t_3_12⟩ => if r_2 ≤ r_3 then ((m_J7_fill_53178 K n7 ((0 : Int32)) s14).bind fun t_5_0 => if ¬ (((0 : Int32)) < 0 ∨ n7 ≤ ((0 : Int32)).toNatClampNeg) then (some (r_2, t_3_0, t_3_1, t_3_2, t_3_3, t_3_4, t_3_5, t_3_6, t_3_7, t_3_8, t_3_9, t_3_10, t_3_11, t_3_12, upd t_5_0 ((0 : Int32)).toNatClampNeg r_2)) else none) else ((m_J7_fill_53178 K n7 ((0 : Int32)) s14).bind fun t_7_0 => if ¬ (((0 : Int32)) < 0 ∨ n7 ≤ ((0 : Int32)).toNatClampNeg) then (some (r_2 / ((2 : Int32)), t_3_0, t_3_1, t_3_2, t_3_3, t_3_4, t_3_5, t_3_6, t_3_7, t_3_8, t_3_9, t_3_10, t_3_11, t_3_12, upd t_7_0 ((0 : Int32)).toNatClampNeg (r_2 / ((2 : Int32))))) else none)) _
  refine zz_ok_bind (ff_X7_words K hK T hT n0 n1 n2 n3 n4 n5 n6 s1 s2 s3 s4 s5 s6 s7 s8 s9 s10 s11 s12 s13) ?_
  intro z40 hz40
  obtain ⟨r_3, t_3_0, t_3_1, t_3_2, t_3_3, t_3_4, t_3_5, t_3_6, t_3_7, t_3_8, t_3_9, t_3_10, t_3_11, t_3_12⟩ := z40
  have q41 : r_3 = s1 := hz40.1
  have q42 : t_3_0 = s1 := hz40.2.1
  have q43 : t_3_1 = s2 := hz40.2.2.1
  have q44 : t_3_2 = s3 := hz40.2.2.2.1
  have q45 : t_3_3 = s4 := hz40.2.2.2.2.1
  have q46 : t_3_4 = s5 := hz40.2.2.2.2.2.1
  have q47 : t_3_5 = s6 := hz40.2.2.2.2.2.2.1
  have q48 : t_3_6 = s7 := hz40.2.2.2.2.2.2.2.1
  have q49 : t_3_7 = s8 := hz40.2.2.2.2.2.2.2.2.1
  have q50 : t_3_8 = s9 := hz40.2.2.2.2.2.2.2.2.2.1
  have q51 : t_3_9 = s10 := hz40.2.2.2.2.2.2.2.2.2.2.1
  have q52 : t_3_10 = s11 := hz40.2.2.2.2.2.2.2.2.2.2.2.1
  have q53 : t_3_11 = s12 := hz40.2.2.2.2.2.2.2.2.2.2.2.2.1
  have q54 : t_3_12 = s13 := hz40.2.2.2.2.2.2.2.2.2.2.2.2.2
  clear hz40
  have e55 : s1 = r_3 := q41.symm
  subst e55
  have e56 : s1 = t_3_0 := q42.symm
  subst e56
  have e57 : s2 = t_3_1 := q43.symm
  subst e57
  have e58 : s3 = t_3_2 := q44.symm
  subst e58
  have e59 : s4 = t_3_3 := q45.symm
  subst e59
  have e60 : s5 = t_3_4 := q46.symm
  subst e60
  have e61 : s6 = t_3_5 := q47.symm
  subst e61
  have e62 : s7 = t_3_6 := q48.symm
  subst e62
  have e63 : s8 = t_3_7 := q49.symm
  subst e63
  have e64 : s9 = t_3_8 := q50.symm
  subst e64
  have e65 : s10 = t_3_9 := q51.symm
  subst e65
  have e66 : s11 = t_3_10 := q52.symm
  subst e66
  have e67 : s12 = t_3_11 := q53.symm
  subst e67
  have e68 : s13 = t_3_12 := q54.symm
  subst e68
  show zz_ok (if r_2 ≤ s1 then ((m_J7_fill_53178 K n7 ((0 : Int32)) s14).bind fun t_5_0 => if ¬ (((0 : Int32)) < 0 ∨ n7 ≤ ((0 : Int32)).toNatClampNeg) then (some (r_2, s1, s2, s3, s4, s5, s6, s7, s8, s9, s10, s11, s12, s13, upd t_5_0 ((0 : Int32)).toNatClampNeg r_2)) else none) else ((m_J7_fill_53178 K n7 ((0 : Int32)) s14).bind fun t_7_0 => if ¬ (((0 : Int32)) < 0 ∨ n7 ≤ ((0 : Int32)).toNatClampNeg) then (some (r_2 / ((2 : Int32)), s1, s2, s3, s4, s5, s6, s7, s8, s9, s10, s11, s12, s13, upd t_7_0 ((0 : Int32)).toNatClampNeg (r_2 / ((2 : Int32))))) else none)) _
  refine zz_ok_ite (fun c69 => ?_) (fun c69 => ?_)
  · have c69 := Int32.le_iff_toInt_le.mp c69
    have l70 : (0 : Int32).toInt = 0 := rfl
    refine zz_ok_bind (ff_J7_fill_53178 K hK T hT n7 ((0 : Int32)) s14 (by omega)) ?_
    intro z71 hz71
    have ⟨t_5_0, h9z71⟩ : ∃ q, q = z71 := ⟨_, rfl⟩
    subst h9z71
    have q72 : zz_fl (t_5_0) (((0 : Int32))) (n7 : Int) := hz71
    clear hz71
    show zz_ok (if ¬ (((0 : Int32)) < 0 ∨ n7 ≤ ((0 : Int32)).toNatClampNeg) then (some (r_2, s1, s2, s3, s4, s5, s6, s7, s8, s9, s10, s11, s12, s13, upd t_5_0 ((0 : Int32)).toNatClampNeg r_2)) else none) _
    refine zz_ok_chk (zz_ix (by omega) (by omega)) ?_
    have g73 := zz_tnI ((0 : Int32)) (by omega)
    refine zz_ok_some ?_
    show zz_gpw s1.toInt r_2.toInt ∧ zz_b4 ((upd t_5_0 ((0 : Int32)).toNatClampNeg r_2)) r_2.toInt ∧ s1 = s1 ∧ s2 = s2 ∧ s3 = s3 ∧ s4 = s4 ∧ s5 = s5 ∧ s6 = s6 ∧ s7 = s7 ∧ s8 = s8 ∧ s9 = s9 ∧ s10 = s10 ∧ s11 = s11 ∧ s12 = s12 ∧ s13 = s13
    exact ⟨(by first | exact zz_gpw_a (by assumption) (by omega) | exact zz_gpw_b (by assumption) (by omega) (by omega) (by omega)), (by exact zz_b4_mk (zz_fl_cg (by assumption) (by omega)) (by decide) (by rfl) (by first | rfl | omega)), rfl, rfl, rfl, rfl, rfl, rfl, rfl, rfl, rfl, rfl, rfl, rfl, rfl⟩
  · have c69 := zz_nle c69
    have l74 : (0 : Int32).toInt = 0 := rfl
    refine zz_ok_bind (ff_J7_fill_53178 K hK T hT n7 ((0 : Int32)) s14 (by omega)) ?_
    intro z75 hz75
    have ⟨t_7_0, h9z75⟩ : ∃ q, q = z75 := ⟨_, rfl⟩
    subst h9z75
    have q76 : zz_fl (t_7_0) (((0 : Int32))) (n7 : Int) := hz75
    clear hz75
    show zz_ok (if ¬ (((0 : Int32)) < 0 ∨ n7 ≤ ((0 : Int32)).toNatClampNeg) then (some (r_2 / ((2 : Int32)), s1, s2, s3, s4, s5, s6, s7, s8, s9, s10, s11, s12, s13, upd t_7_0 ((0 : Int32)).toNatClampNeg (r_2 / ((2 : Int32))))) else none) _
    refine zz_ok_chk (zz_ix (by omega) (by omega)) ?_
    have g77 := zz_tnI ((0 : Int32)) (by omega)
    have l78 : (2 : Int32).toInt = 2 := rfl
    try have f79 := zz_divP r_2 (2 : Int32) 2 rfl (by decide) (by omega)
    have f80 := zz_divB r_2 (2 : Int32) 2 rfl (by decide)
    have g81 := zz_rg (r_2 / ((2 : Int32)))
    refine zz_ok_some ?_
    show zz_gpw s1.toInt (r_2 / ((2 : Int32))).toInt ∧ zz_b4 ((upd t_7_0 ((0 : Int32)).toNatClampNeg (r_2 / ((2 : Int32))))) (r_2 / ((2 : Int32))).toInt ∧ s1 = s1 ∧ s2 = s2 ∧ s3 = s3 ∧ s4 = s4 ∧ s5 = s5 ∧ s6 = s6 ∧ s7 = s7 ∧ s8 = s8 ∧ s9 = s9 ∧ s10 = s10 ∧ s11 = s11 ∧ s12 = s12 ∧ s13 = s13
    exact ⟨(by first | exact zz_gpw_a (by assumption) (by omega) | exact zz_gpw_b (by assumption) (by omega) (by omega) (by omega)), (by exact zz_b4_mk (zz_fl_cg (by assumption) (by omega)) (by decide) (by rfl) (by first | rfl | omega)), rfl, rfl, rfl, rfl, rfl, rfl, rfl, rfl, rfl, rfl, rfl, rfl, rfl⟩
set_option maxHeartbeats 4000000 in
theorem gg_X3_spanOf (K : Nat) (hK : 1099511627776 ≤ K) (T : Nat) (hT : T ≤ 900) (n0 : Nat) (n1 : Nat) (n2 : Nat) (n3 : Nat) (n4 : Nat) (n5 : Nat) (n6 : Nat) (n7 : Nat) (p1 : Int32) (s0 : Int32) (s1 : Int32) (s2 : Int32) (s3 : Int32) (s4 : Int32) (s5 : Nat → Int32) (s6 : Nat → Int32) (s7 : Nat → Int32) (s8 : Nat → Int32) (s9 : Nat → Int32) (s10 : Int32) (s11 : Int32) (s12 : Nat → Int32) (s13 : Nat → Int32) (s14 : Nat → Int32) (a0 : 1 ≤ p1.toInt) (a1 : p1.toInt ≤ 1024) : zz_ok (m_X3_spanOf K n0 n1 n2 n3 n4 n5 n6 n7 p1 s0 s1 s2 s3 s4 s5 s6 s7 s8 s9 s10 s11 s12 s13 s14) (fun z => zz_lpw p1.toInt z.1.toInt ∧ z.2.1 = s0 ∧ z.2.2.1 = s1 ∧ z.2.2.2.1 = s2 ∧ z.2.2.2.2.1 = s3 ∧ z.2.2.2.2.2.1 = s4 ∧ z.2.2.2.2.2.2.1 = s5 ∧ z.2.2.2.2.2.2.2.1 = s6 ∧ z.2.2.2.2.2.2.2.2.1 = s7 ∧ z.2.2.2.2.2.2.2.2.2.1 = s8 ∧ z.2.2.2.2.2.2.2.2.2.2.1 = s9 ∧ z.2.2.2.2.2.2.2.2.2.2.2.1 = s10 ∧ z.2.2.2.2.2.2.2.2.2.2.2.2.1 = s11 ∧ z.2.2.2.2.2.2.2.2.2.2.2.2.2.1 = s12 ∧ z.2.2.2.2.2.2.2.2.2.2.2.2.2.2.1 = s13 ∧ z.2.2.2.2.2.2.2.2.2.2.2.2.2.2.2 = s14) := by
  have g1 := zz_rg p1
  have g2 := zz_rg s0
  have g3 := zz_rg s1
  have g4 := zz_rg s2
  have g5 := zz_rg s3
  have g6 := zz_rg s4
  have g7 := zz_rg s10
  have g8 := zz_rg s11
  unfold m_X3_spanOf
  refine zz_ok_bind (gg_X11_powerFrom K hK T hT p1 a0 a1) ?_
  intro z9 hz9
  obtain ⟨r_1, _⟩ := z9
  have q10 : zz_lpw p1.toInt r_1.toInt := hz9
  clear hz9
  have g11 := zz_rg r_1
  show zz_ok (some (r_1, s0, s1, s2, s3, s4, s5, s6, s7, s8, s9, s10, s11, s12, s13, s14)) _
  refine zz_ok_some ?_
  show zz_lpw p1.toInt r_1.toInt ∧ s0 = s0 ∧ s1 = s1 ∧ s2 = s2 ∧ s3 = s3 ∧ s4 = s4 ∧ s5 = s5 ∧ s6 = s6 ∧ s7 = s7 ∧ s8 = s8 ∧ s9 = s9 ∧ s10 = s10 ∧ s11 = s11 ∧ s12 = s12 ∧ s13 = s13 ∧ s14 = s14
  exact ⟨q10, rfl, rfl, rfl, rfl, rfl, rfl, rfl, rfl, rfl, rfl, rfl, rfl, rfl, rfl, rfl⟩
set_option maxHeartbeats 4000000 in
theorem gg_X3_freeParts_L4 (K : Nat) (hK : 1099511627776 ≤ K) (T : Nat) (hT : T ≤ 900) (n0 : Nat) (n1 : Nat) (n2 : Nat) (n3 : Nat) (n4 : Nat) (n5 : Nat) (n6 : Nat) (n7 : Nat) : ∀ (k : Nat) (x1 : Int32) (x2 : Int32) (s0 : Int32) (s1 : Int32) (s2 : Int32) (s3 : Int32) (s4 : Int32) (s5 : Nat → Int32) (s6 : Nat → Int32) (s7 : Nat → Int32) (s8 : Nat → Int32) (s9 : Nat → Int32) (s10 : Int32) (s11 : Int32) (s12 : Nat → Int32) (s13 : Nat → Int32) (s14 : Nat → Int32), n0 = 1024 → n1 = 200 → n2 = 200 → n3 = 200 → n4 = 200 → n5 = 512 → n6 = 512 → 0 ≤ s1.toInt → s1.toInt ≤ 1024 → n7 = 1024 → 0 ≤ s0.toInt → s0.toInt ≤ 1024 → 0 ≤ x2.toInt → x2.toInt ≤ s0.toInt → s0.toInt - x2.toInt < (k : Int) → zz_ok (m_X3_freeParts_L4 K n0 n1 n2 n3 n4 n5 n6 n7 k x1 x2 s0 s1 s2 s3 s4 s5 s6 s7 s8 s9 s10 s11 s12 s13 s14) (fun z => z.2.1 = s0 ∧ z.2.2.1 = s1 ∧ z.2.2.2.1 = s2 ∧ z.2.2.2.2.1 = s3 ∧ z.2.2.2.2.2.1 = s4 ∧ z.2.2.2.2.2.2.1 = s5 ∧ z.2.2.2.2.2.2.2.1 = s6 ∧ z.2.2.2.2.2.2.2.2.1 = s7 ∧ z.2.2.2.2.2.2.2.2.2.1 = s8 ∧ z.2.2.2.2.2.2.2.2.2.2.1 = s9 ∧ z.2.2.2.2.2.2.2.2.2.2.2.1 = s10 ∧ z.2.2.2.2.2.2.2.2.2.2.2.2.1 = s11 ∧ z.2.2.2.2.2.2.2.2.2.2.2.2.2.1 = s12 ∧ z.2.2.2.2.2.2.2.2.2.2.2.2.2.2.1 = s13 ∧ z.2.2.2.2.2.2.2.2.2.2.2.2.2.2.2 = s14) := by
  intro k
  induction k with
  | zero =>
    intro x1 x2 s0 s1 s2 s3 s4 s5 s6 s7 s8 s9 s10 s11 s12 s13 s14 a0 a1 a2 a3 a4 a5 a6 a7 a8 a9 a10 a11 a12 a13 hz9
    exfalso
    have g_x1 := zz_rg x1
    have g_x2 := zz_rg x2
    have g_s0 := zz_rg s0
    have g_s1 := zz_rg s1
    have g_s2 := zz_rg s2
    have g_s3 := zz_rg s3
    have g_s4 := zz_rg s4
    have g_s10 := zz_rg s10
    have g_s11 := zz_rg s11
    omega
  | succ k ih =>
    intro x1 x2 s0 s1 s2 s3 s4 s5 s6 s7 s8 s9 s10 s11 s12 s13 s14 a0 a1 a2 a3 a4 a5 a6 a7 a8 a9 a10 a11 a12 a13 hz9
    rw [m_X3_freeParts_L4_s]
    have g1 := zz_rg x1
    have g2 := zz_rg x2
    have g3 := zz_rg s0
    have g4 := zz_rg s1
    have g5 := zz_rg s2
    have g6 := zz_rg s3
    have g7 := zz_rg s4
    have g8 := zz_rg s10
    have g9 := zz_rg s11
    refine zz_ok_ite (fun c10 => ?_) (fun c10 => ?_)
    · have c10 := Int32.le_iff_toInt_le.mp c10
      refine zz_ok_some ?_
      show s0 = s0 ∧ s1 = s1 ∧ s2 = s2 ∧ s3 = s3 ∧ s4 = s4 ∧ s5 = s5 ∧ s6 = s6 ∧ s7 = s7 ∧ s8 = s8 ∧ s9 = s9 ∧ s10 = s10 ∧ s11 = s11 ∧ s12 = s12 ∧ s13 = s13 ∧ s14 = s14
      exact ⟨rfl, rfl, rfl, rfl, rfl, rfl, rfl, rfl, rfl, rfl, rfl, rfl, rfl, rfl, rfl⟩
    · have c10 := zz_nle c10
      refine zz_ok_chk (zz_ix (by omega) (by omega)) ?_
      have g11 := zz_tnI x2 (by omega)
      have g13 := zz_rg (s14 x2.toNatClampNeg)
      have l14 : (0 : Int32).toInt = 0 := rfl
      refine zz_ok_ite (fun c12 => ?_) (fun c12 => ?_)
      · have c12 := Int32.le_iff_toInt_le.mp c12
        have l15 : (1 : Int32).toInt = 1 := rfl
        obtain ⟨k16, f17⟩ := zz_add x2 (1 : Int32)
        have g18 := zz_rg (x2 + 1)
        refine (ih x1 (x2 + 1) s0 s1 s2 s3 s4 s5 s6 s7 s8 s9 s10 s11 s12 s13 s14 a0 a1 a2 a3 a4 a5 a6 a7 a8 a9 a10 a11 (by omega) (by omega) (by omega)).mono (fun z hz => ?_)
        obtain ⟨y19_0, y19_1, y19_2, y19_3, y19_4, y19_5, y19_6, y19_7, y19_8, y19_9, y19_10, y19_11, y19_12, y19_13, y19_14, y19_15⟩ := z
        have q20 : y19_1 = s0 := hz.1
        have q21 : y19_2 = s1 := hz.2.1
        have q22 : y19_3 = s2 := hz.2.2.1
        have q23 : y19_4 = s3 := hz.2.2.2.1
        have q24 : y19_5 = s4 := hz.2.2.2.2.1
        have q25 : y19_6 = s5 := hz.2.2.2.2.2.1
        have q26 : y19_7 = s6 := hz.2.2.2.2.2.2.1
        have q27 : y19_8 = s7 := hz.2.2.2.2.2.2.2.1
        have q28 : y19_9 = s8 := hz.2.2.2.2.2.2.2.2.1
        have q29 : y19_10 = s9 := hz.2.2.2.2.2.2.2.2.2.1
        have q30 : y19_11 = s10 := hz.2.2.2.2.2.2.2.2.2.2.1
        have q31 : y19_12 = s11 := hz.2.2.2.2.2.2.2.2.2.2.2.1
        have q32 : y19_13 = s12 := hz.2.2.2.2.2.2.2.2.2.2.2.2.1
        have q33 : y19_14 = s13 := hz.2.2.2.2.2.2.2.2.2.2.2.2.2.1
        have q34 : y19_15 = s14 := hz.2.2.2.2.2.2.2.2.2.2.2.2.2.2
        clear hz
        have e35 : s0 = y19_1 := q20.symm
        subst e35
        have e36 : s1 = y19_2 := q21.symm
        subst e36
        have e37 : s2 = y19_3 := q22.symm
        subst e37
        have e38 : s3 = y19_4 := q23.symm
        subst e38
        have e39 : s4 = y19_5 := q24.symm
        subst e39
        have e40 : s5 = y19_6 := q25.symm
        subst e40
        have e41 : s6 = y19_7 := q26.symm
        subst e41
        have e42 : s7 = y19_8 := q27.symm
        subst e42
        have e43 : s8 = y19_9 := q28.symm
        subst e43
        have e44 : s9 = y19_10 := q29.symm
        subst e44
        have e45 : s10 = y19_11 := q30.symm
        subst e45
        have e46 : s11 = y19_12 := q31.symm
        subst e46
        have e47 : s12 = y19_13 := q32.symm
        subst e47
        have e48 : s13 = y19_14 := q33.symm
        subst e48
        have e49 : s14 = y19_15 := q34.symm
        subst e49
        have g50 := zz_rg y19_0
        show s0 = s0 ∧ s1 = s1 ∧ s2 = s2 ∧ s3 = s3 ∧ s4 = s4 ∧ s5 = s5 ∧ s6 = s6 ∧ s7 = s7 ∧ s8 = s8 ∧ s9 = s9 ∧ s10 = s10 ∧ s11 = s11 ∧ s12 = s12 ∧ s13 = s13 ∧ s14 = s14
        exact ⟨rfl, rfl, rfl, rfl, rfl, rfl, rfl, rfl, rfl, rfl, rfl, rfl, rfl, rfl, rfl⟩
      · have c12 := zz_nle c12
        have l51 : (1 : Int32).toInt = 1 := rfl
        obtain ⟨k52, f53⟩ := zz_add x1 (1 : Int32)
        have g54 := zz_rg (x1 + 1)
        obtain ⟨k55, f56⟩ := zz_add x2 (1 : Int32)
        have g57 := zz_rg (x2 + 1)
        refine (ih (x1 + 1) (x2 + 1) s0 s1 s2 s3 s4 s5 s6 s7 s8 s9 s10 s11 s12 s13 s14 a0 a1 a2 a3 a4 a5 a6 a7 a8 a9 a10 a11 (by omega) (by omega) (by omega)).mono (fun z hz => ?_)
        obtain ⟨y58_0, y58_1, y58_2, y58_3, y58_4, y58_5, y58_6, y58_7, y58_8, y58_9, y58_10, y58_11, y58_12, y58_13, y58_14, y58_15⟩ := z
        have q59 : y58_1 = s0 := hz.1
        have q60 : y58_2 = s1 := hz.2.1
        have q61 : y58_3 = s2 := hz.2.2.1
        have q62 : y58_4 = s3 := hz.2.2.2.1
        have q63 : y58_5 = s4 := hz.2.2.2.2.1
        have q64 : y58_6 = s5 := hz.2.2.2.2.2.1
        have q65 : y58_7 = s6 := hz.2.2.2.2.2.2.1
        have q66 : y58_8 = s7 := hz.2.2.2.2.2.2.2.1
        have q67 : y58_9 = s8 := hz.2.2.2.2.2.2.2.2.1
        have q68 : y58_10 = s9 := hz.2.2.2.2.2.2.2.2.2.1
        have q69 : y58_11 = s10 := hz.2.2.2.2.2.2.2.2.2.2.1
        have q70 : y58_12 = s11 := hz.2.2.2.2.2.2.2.2.2.2.2.1
        have q71 : y58_13 = s12 := hz.2.2.2.2.2.2.2.2.2.2.2.2.1
        have q72 : y58_14 = s13 := hz.2.2.2.2.2.2.2.2.2.2.2.2.2.1
        have q73 : y58_15 = s14 := hz.2.2.2.2.2.2.2.2.2.2.2.2.2.2
        clear hz
        have e74 : s0 = y58_1 := q59.symm
        subst e74
        have e75 : s1 = y58_2 := q60.symm
        subst e75
        have e76 : s2 = y58_3 := q61.symm
        subst e76
        have e77 : s3 = y58_4 := q62.symm
        subst e77
        have e78 : s4 = y58_5 := q63.symm
        subst e78
        have e79 : s5 = y58_6 := q64.symm
        subst e79
        have e80 : s6 = y58_7 := q65.symm
        subst e80
        have e81 : s7 = y58_8 := q66.symm
        subst e81
        have e82 : s8 = y58_9 := q67.symm
        subst e82
        have e83 : s9 = y58_10 := q68.symm
        subst e83
        have e84 : s10 = y58_11 := q69.symm
        subst e84
        have e85 : s11 = y58_12 := q70.symm
        subst e85
        have e86 : s12 = y58_13 := q71.symm
        subst e86
        have e87 : s13 = y58_14 := q72.symm
        subst e87
        have e88 : s14 = y58_15 := q73.symm
        subst e88
        have g89 := zz_rg y58_0
        show s0 = s0 ∧ s1 = s1 ∧ s2 = s2 ∧ s3 = s3 ∧ s4 = s4 ∧ s5 = s5 ∧ s6 = s6 ∧ s7 = s7 ∧ s8 = s8 ∧ s9 = s9 ∧ s10 = s10 ∧ s11 = s11 ∧ s12 = s12 ∧ s13 = s13 ∧ s14 = s14
        exact ⟨rfl, rfl, rfl, rfl, rfl, rfl, rfl, rfl, rfl, rfl, rfl, rfl, rfl, rfl, rfl⟩
set_option maxHeartbeats 4000000 in
theorem gg_X3_freeParts (K : Nat) (hK : 1099511627776 ≤ K) (T : Nat) (hT : T ≤ 900) (n0 : Nat) (n1 : Nat) (n2 : Nat) (n3 : Nat) (n4 : Nat) (n5 : Nat) (n6 : Nat) (n7 : Nat) (s0 : Int32) (s1 : Int32) (s2 : Int32) (s3 : Int32) (s4 : Int32) (s5 : Nat → Int32) (s6 : Nat → Int32) (s7 : Nat → Int32) (s8 : Nat → Int32) (s9 : Nat → Int32) (s10 : Int32) (s11 : Int32) (s12 : Nat → Int32) (s13 : Nat → Int32) (s14 : Nat → Int32) (a0 : n0 = 1024) (a1 : n1 = 200) (a2 : n2 = 200) (a3 : n3 = 200) (a4 : n4 = 200) (a5 : n5 = 512) (a6 : n6 = 512) (a7 : 0 ≤ s1.toInt) (a8 : s1.toInt ≤ 1024) (a9 : n7 = 1024) (a10 : 0 ≤ s0.toInt) (a11 : s0.toInt ≤ 1024) : zz_ok (m_X3_freeParts K n0 n1 n2 n3 n4 n5 n6 n7 s0 s1 s2 s3 s4 s5 s6 s7 s8 s9 s10 s11 s12 s13 s14) (fun z => z.2.1 = s0 ∧ z.2.2.1 = s1 ∧ z.2.2.2.1 = s2 ∧ z.2.2.2.2.1 = s3 ∧ z.2.2.2.2.2.1 = s4 ∧ z.2.2.2.2.2.2.1 = s5 ∧ z.2.2.2.2.2.2.2.1 = s6 ∧ z.2.2.2.2.2.2.2.2.1 = s7 ∧ z.2.2.2.2.2.2.2.2.2.1 = s8 ∧ z.2.2.2.2.2.2.2.2.2.2.1 = s9 ∧ z.2.2.2.2.2.2.2.2.2.2.2.1 = s10 ∧ z.2.2.2.2.2.2.2.2.2.2.2.2.1 = s11 ∧ z.2.2.2.2.2.2.2.2.2.2.2.2.2.1 = s12 ∧ z.2.2.2.2.2.2.2.2.2.2.2.2.2.2.1 = s13 ∧ z.2.2.2.2.2.2.2.2.2.2.2.2.2.2.2 = s14) := by
  have g1 := zz_rg s0
  have g2 := zz_rg s1
  have g3 := zz_rg s2
  have g4 := zz_rg s3
  have g5 := zz_rg s4
  have g6 := zz_rg s10
  have g7 := zz_rg s11
  unfold m_X3_freeParts
  have l8 : (0 : Int32).toInt = 0 := rfl
  refine (gg_X3_freeParts_L4 K hK T hT n0 n1 n2 n3 n4 n5 n6 n7 K ((0 : Int32)) ((0 : Int32)) s0 s1 s2 s3 s4 s5 s6 s7 s8 s9 s10 s11 s12 s13 s14 a0 a1 a2 a3 a4 a5 a6 a7 a8 a9 a10 a11 (by omega) (by omega) (by omega)).mono (fun z hz => ?_)
  obtain ⟨y9_0, y9_1, y9_2, y9_3, y9_4, y9_5, y9_6, y9_7, y9_8, y9_9, y9_10, y9_11, y9_12, y9_13, y9_14, y9_15⟩ := z
  have q10 : y9_1 = s0 := hz.1
  have q11 : y9_2 = s1 := hz.2.1
  have q12 : y9_3 = s2 := hz.2.2.1
  have q13 : y9_4 = s3 := hz.2.2.2.1
  have q14 : y9_5 = s4 := hz.2.2.2.2.1
  have q15 : y9_6 = s5 := hz.2.2.2.2.2.1
  have q16 : y9_7 = s6 := hz.2.2.2.2.2.2.1
  have q17 : y9_8 = s7 := hz.2.2.2.2.2.2.2.1
  have q18 : y9_9 = s8 := hz.2.2.2.2.2.2.2.2.1
  have q19 : y9_10 = s9 := hz.2.2.2.2.2.2.2.2.2.1
  have q20 : y9_11 = s10 := hz.2.2.2.2.2.2.2.2.2.2.1
  have q21 : y9_12 = s11 := hz.2.2.2.2.2.2.2.2.2.2.2.1
  have q22 : y9_13 = s12 := hz.2.2.2.2.2.2.2.2.2.2.2.2.1
  have q23 : y9_14 = s13 := hz.2.2.2.2.2.2.2.2.2.2.2.2.2.1
  have q24 : y9_15 = s14 := hz.2.2.2.2.2.2.2.2.2.2.2.2.2.2
  clear hz
  have e25 : s0 = y9_1 := q10.symm
  subst e25
  have e26 : s1 = y9_2 := q11.symm
  subst e26
  have e27 : s2 = y9_3 := q12.symm
  subst e27
  have e28 : s3 = y9_4 := q13.symm
  subst e28
  have e29 : s4 = y9_5 := q14.symm
  subst e29
  have e30 : s5 = y9_6 := q15.symm
  subst e30
  have e31 : s6 = y9_7 := q16.symm
  subst e31
  have e32 : s7 = y9_8 := q17.symm
  subst e32
  have e33 : s8 = y9_9 := q18.symm
  subst e33
  have e34 : s9 = y9_10 := q19.symm
  subst e34
  have e35 : s10 = y9_11 := q20.symm
  subst e35
  have e36 : s11 = y9_12 := q21.symm
  subst e36
  have e37 : s12 = y9_13 := q22.symm
  subst e37
  have e38 : s13 = y9_14 := q23.symm
  subst e38
  have e39 : s14 = y9_15 := q24.symm
  subst e39
  have g40 := zz_rg y9_0
  show s0 = s0 ∧ s1 = s1 ∧ s2 = s2 ∧ s3 = s3 ∧ s4 = s4 ∧ s5 = s5 ∧ s6 = s6 ∧ s7 = s7 ∧ s8 = s8 ∧ s9 = s9 ∧ s10 = s10 ∧ s11 = s11 ∧ s12 = s12 ∧ s13 = s13 ∧ s14 = s14
  exact ⟨rfl, rfl, rfl, rfl, rfl, rfl, rfl, rfl, rfl, rfl, rfl, rfl, rfl, rfl, rfl⟩
set_option maxHeartbeats 4000000 in
theorem gg_X3_smallestPiece_L4 (K : Nat) (hK : 1099511627776 ≤ K) (T : Nat) (hT : T ≤ 900) (n0 : Nat) (n1 : Nat) (n2 : Nat) (n3 : Nat) (n4 : Nat) (n5 : Nat) (n6 : Nat) (n7 : Nat) : ∀ (k : Nat) (x1 : Int32) (x2 : Int32) (x3 : Int32) (s0 : Int32) (s1 : Int32) (s2 : Int32) (s3 : Int32) (s4 : Int32) (s5 : Nat → Int32) (s6 : Nat → Int32) (s7 : Nat → Int32) (s8 : Nat → Int32) (s9 : Nat → Int32) (s10 : Int32) (s11 : Int32) (s12 : Nat → Int32) (s13 : Nat → Int32) (s14 : Nat → Int32), n0 = 1024 → n1 = 200 → n2 = 200 → n3 = 200 → n4 = 200 → n5 = 512 → n6 = 512 → 0 ≤ s1.toInt → s1.toInt ≤ 1024 → n7 = 1024 → 0 ≤ s0.toInt → s0.toInt ≤ 1024 → 1 ≤ x1.toInt → 0 ≤ x3.toInt → x3.toInt ≤ s0.toInt → -1 ≤ x2.toInt → x2.toInt < x3.toInt → zz_smp (s14) x3.toInt x1.toInt x2.toInt → s0.toInt - x3.toInt < (k : Int) → zz_ok (m_X3_smallestPiece_L4 K n0 n1 n2 n3 n4 n5 n6 n7 k x1 x2 x3 s0 s1 s2 s3 s4 s5 s6 s7 s8 s9 s10 s11 s12 s13 s14) (fun z => zz_smp (s14) s0.toInt x1.toInt z.1.toInt ∧ -1 ≤ z.1.toInt ∧ z.1.toInt < 1024 ∧ (z.1.toInt = -1 ∨ z.1.toInt < s0.toInt) ∧ z.2.1 = s0 ∧ z.2.2.1 = s1 ∧ z.2.2.2.1 = s2 ∧ z.2.2.2.2.1 = s3 ∧ z.2.2.2.2.2.1 = s4 ∧ z.2.2.2.2.2.2.1 = s5 ∧ z.2.2.2.2.2.2.2.1 = s6 ∧ z.2.2.2.2.2.2.2.2.1 = s7 ∧ z.2.2.2.2.2.2.2.2.2.1 = s8 ∧ z.2.2.2.2.2.2.2.2.2.2.1 = s9 ∧ z.2.2.2.2.2.2.2.2.2.2.2.1 = s10 ∧ z.2.2.2.2.2.2.2.2.2.2.2.2.1 = s11 ∧ z.2.2.2.2.2.2.2.2.2.2.2.2.2.1 = s12 ∧ z.2.2.2.2.2.2.2.2.2.2.2.2.2.2.1 = s13 ∧ z.2.2.2.2.2.2.2.2.2.2.2.2.2.2.2 = s14) := by
  intro k
  induction k with
  | zero =>
    intro x1 x2 x3 s0 s1 s2 s3 s4 s5 s6 s7 s8 s9 s10 s11 s12 s13 s14 a0 a1 a2 a3 a4 a5 a6 a7 a8 a9 a10 a11 a12 a13 a14 a15 a16 a17 hz9
    exfalso
    have g_x1 := zz_rg x1
    have g_x2 := zz_rg x2
    have g_x3 := zz_rg x3
    have g_s0 := zz_rg s0
    have g_s1 := zz_rg s1
    have g_s2 := zz_rg s2
    have g_s3 := zz_rg s3
    have g_s4 := zz_rg s4
    have g_s10 := zz_rg s10
    have g_s11 := zz_rg s11
    omega
  | succ k ih =>
    intro x1 x2 x3 s0 s1 s2 s3 s4 s5 s6 s7 s8 s9 s10 s11 s12 s13 s14 a0 a1 a2 a3 a4 a5 a6 a7 a8 a9 a10 a11 a12 a13 a14 a15 a16 a17 hz9
    rw [m_X3_smallestPiece_L4_s]
    have g1 := zz_rg x1
    have g2 := zz_rg x2
    have g3 := zz_rg x3
    have g4 := zz_rg s0
    have g5 := zz_rg s1
    have g6 := zz_rg s2
    have g7 := zz_rg s3
    have g8 := zz_rg s4
    have g9 := zz_rg s10
    have g10 := zz_rg s11
    have tn9 := zz_tnI x3 (by omega)
    refine zz_ok_ite (fun c11 => ?_) (fun c11 => ?_)
    · have c11 := Int32.le_iff_toInt_le.mp c11
      refine zz_ok_some ?_
      show zz_smp (s14) s0.toInt x1.toInt x2.toInt ∧ -1 ≤ x2.toInt ∧ x2.toInt < 1024 ∧ (x2.toInt = -1 ∨ x2.toInt < s0.toInt) ∧ s0 = s0 ∧ s1 = s1 ∧ s2 = s2 ∧ s3 = s3 ∧ s4 = s4 ∧ s5 = s5 ∧ s6 = s6 ∧ s7 = s7 ∧ s8 = s8 ∧ s9 = s9 ∧ s10 = s10 ∧ s11 = s11 ∧ s12 = s12 ∧ s13 = s13 ∧ s14 = s14
      exact ⟨(by first | assumption | exact zz_smp_cg (by assumption) (by omega) | exact zz_smp_keep (i := x3.toNatClampNeg) (by assumption) (by omega) (by omega) (by omega) | exact zz_smp_new (i := x3.toNatClampNeg) (by assumption) (by omega) (by omega) (by omega) (by omega) rfl), a15, (by omega), (by omega), rfl, rfl, rfl, rfl, rfl, rfl, rfl, rfl, rfl, rfl, rfl, rfl, rfl, rfl, rfl⟩
    · have c11 := zz_nle c11
      refine zz_ok_chk (zz_ix (by omega) (by omega)) ?_
      have g12 := zz_tnI x3 (by omega)
      have g14 := zz_rg (s14 x3.toNatClampNeg)
      refine zz_ok_ite (fun c13 => ?_) (fun c13 => ?_)
      · have c13 := Int32.lt_iff_toInt_lt.mp c13
        have l15 : (1 : Int32).toInt = 1 := rfl
        obtain ⟨k16, f17⟩ := zz_add x3 (1 : Int32)
        have g18 := zz_rg (x3 + 1)
        refine (ih x1 x2 (x3 + 1) s0 s1 s2 s3 s4 s5 s6 s7 s8 s9 s10 s11 s12 s13 s14 a0 a1 a2 a3 a4 a5 a6 a7 a8 a9 a10 a11 a12 (by omega) (by omega) a15 (by omega) (by first | assumption | exact zz_smp_cg (by assumption) (by omega) | exact zz_smp_keep (i := x3.toNatClampNeg) (by assumption) (by omega) (by omega) (by omega) | exact zz_smp_new (i := x3.toNatClampNeg) (by assumption) (by omega) (by omega) (by omega) (by omega) rfl) (by omega)).mono (fun z hz => ?_)
        obtain ⟨y19_0, y19_1, y19_2, y19_3, y19_4, y19_5, y19_6, y19_7, y19_8, y19_9, y19_10, y19_11, y19_12, y19_13, y19_14, y19_15⟩ := z
        have q20 : zz_smp (s14) s0.toInt x1.toInt y19_0.toInt := hz.1
        have q21 : -1 ≤ y19_0.toInt := hz.2.1
        have q22 : y19_0.toInt < 1024 := hz.2.2.1
        have q23 : (y19_0.toInt = -1 ∨ y19_0.toInt < s0.toInt) := hz.2.2.2.1
        have q24 : y19_1 = s0 := hz.2.2.2.2.1
        have q25 : y19_2 = s1 := hz.2.2.2.2.2.1
        have q26 : y19_3 = s2 := hz.2.2.2.2.2.2.1
        have q27 : y19_4 = s3 := hz.2.2.2.2.2.2.2.1
        have q28 : y19_5 = s4 := hz.2.2.2.2.2.2.2.2.1
        have q29 : y19_6 = s5 := hz.2.2.2.2.2.2.2.2.2.1
        have q30 : y19_7 = s6 := hz.2.2.2.2.2.2.2.2.2.2.1
        have q31 : y19_8 = s7 := hz.2.2.2.2.2.2.2.2.2.2.2.1
        have q32 : y19_9 = s8 := hz.2.2.2.2.2.2.2.2.2.2.2.2.1
        have q33 : y19_10 = s9 := hz.2.2.2.2.2.2.2.2.2.2.2.2.2.1
        have q34 : y19_11 = s10 := hz.2.2.2.2.2.2.2.2.2.2.2.2.2.2.1
        have q35 : y19_12 = s11 := hz.2.2.2.2.2.2.2.2.2.2.2.2.2.2.2.1
        have q36 : y19_13 = s12 := hz.2.2.2.2.2.2.2.2.2.2.2.2.2.2.2.2.1
        have q37 : y19_14 = s13 := hz.2.2.2.2.2.2.2.2.2.2.2.2.2.2.2.2.2.1
        have q38 : y19_15 = s14 := hz.2.2.2.2.2.2.2.2.2.2.2.2.2.2.2.2.2.2
        clear hz
        have e39 : s0 = y19_1 := q24.symm
        subst e39
        have e40 : s1 = y19_2 := q25.symm
        subst e40
        have e41 : s2 = y19_3 := q26.symm
        subst e41
        have e42 : s3 = y19_4 := q27.symm
        subst e42
        have e43 : s4 = y19_5 := q28.symm
        subst e43
        have e44 : s5 = y19_6 := q29.symm
        subst e44
        have e45 : s6 = y19_7 := q30.symm
        subst e45
        have e46 : s7 = y19_8 := q31.symm
        subst e46
        have e47 : s8 = y19_9 := q32.symm
        subst e47
        have e48 : s9 = y19_10 := q33.symm
        subst e48
        have e49 : s10 = y19_11 := q34.symm
        subst e49
        have e50 : s11 = y19_12 := q35.symm
        subst e50
        have e51 : s12 = y19_13 := q36.symm
        subst e51
        have e52 : s13 = y19_14 := q37.symm
        subst e52
        have e53 : s14 = y19_15 := q38.symm
        subst e53
        have g54 := zz_rg y19_0
        show zz_smp (s14) s0.toInt x1.toInt y19_0.toInt ∧ -1 ≤ y19_0.toInt ∧ y19_0.toInt < 1024 ∧ (y19_0.toInt = -1 ∨ y19_0.toInt < s0.toInt) ∧ s0 = s0 ∧ s1 = s1 ∧ s2 = s2 ∧ s3 = s3 ∧ s4 = s4 ∧ s5 = s5 ∧ s6 = s6 ∧ s7 = s7 ∧ s8 = s8 ∧ s9 = s9 ∧ s10 = s10 ∧ s11 = s11 ∧ s12 = s12 ∧ s13 = s13 ∧ s14 = s14
        exact ⟨q20, q21, q22, q23, rfl, rfl, rfl, rfl, rfl, rfl, rfl, rfl, rfl, rfl, rfl, rfl, rfl, rfl, rfl⟩
      · have c13 := zz_nlt c13
        have l56 : (-1 : Int32).toInt = -1 := rfl
        refine zz_ok_ite (fun c55 => ?_) (fun c55 => ?_)
        · have c55 := congrArg Int32.toInt c55
          have l57 : (1 : Int32).toInt = 1 := rfl
          obtain ⟨k58, f59⟩ := zz_add x3 (1 : Int32)
          have g60 := zz_rg (x3 + 1)
          refine (ih x1 x3 (x3 + 1) s0 s1 s2 s3 s4 s5 s6 s7 s8 s9 s10 s11 s12 s13 s14 a0 a1 a2 a3 a4 a5 a6 a7 a8 a9 a10 a11 a12 (by omega) (by omega) (by omega) (by omega) (by first | assumption | exact zz_smp_cg (by assumption) (by omega) | exact zz_smp_keep (i := x3.toNatClampNeg) (by assumption) (by omega) (by omega) (by omega) | exact zz_smp_new (i := x3.toNatClampNeg) (by assumption) (by omega) (by omega) (by omega) (by omega) rfl) (by omega)).mono (fun z hz => ?_)
          obtain ⟨y61_0, y61_1, y61_2, y61_3, y61_4, y61_5, y61_6, y61_7, y61_8, y61_9, y61_10, y61_11, y61_12, y61_13, y61_14, y61_15⟩ := z
          have q62 : zz_smp (s14) s0.toInt x1.toInt y61_0.toInt := hz.1
          have q63 : -1 ≤ y61_0.toInt := hz.2.1
          have q64 : y61_0.toInt < 1024 := hz.2.2.1
          have q65 : (y61_0.toInt = -1 ∨ y61_0.toInt < s0.toInt) := hz.2.2.2.1
          have q66 : y61_1 = s0 := hz.2.2.2.2.1
          have q67 : y61_2 = s1 := hz.2.2.2.2.2.1
          have q68 : y61_3 = s2 := hz.2.2.2.2.2.2.1
          have q69 : y61_4 = s3 := hz.2.2.2.2.2.2.2.1
          have q70 : y61_5 = s4 := hz.2.2.2.2.2.2.2.2.1
          have q71 : y61_6 = s5 := hz.2.2.2.2.2.2.2.2.2.1
          have q72 : y61_7 = s6 := hz.2.2.2.2.2.2.2.2.2.2.1
          have q73 : y61_8 = s7 := hz.2.2.2.2.2.2.2.2.2.2.2.1
          have q74 : y61_9 = s8 := hz.2.2.2.2.2.2.2.2.2.2.2.2.1
          have q75 : y61_10 = s9 := hz.2.2.2.2.2.2.2.2.2.2.2.2.2.1
          have q76 : y61_11 = s10 := hz.2.2.2.2.2.2.2.2.2.2.2.2.2.2.1
          have q77 : y61_12 = s11 := hz.2.2.2.2.2.2.2.2.2.2.2.2.2.2.2.1
          have q78 : y61_13 = s12 := hz.2.2.2.2.2.2.2.2.2.2.2.2.2.2.2.2.1
          have q79 : y61_14 = s13 := hz.2.2.2.2.2.2.2.2.2.2.2.2.2.2.2.2.2.1
          have q80 : y61_15 = s14 := hz.2.2.2.2.2.2.2.2.2.2.2.2.2.2.2.2.2.2
          clear hz
          have e81 : s0 = y61_1 := q66.symm
          subst e81
          have e82 : s1 = y61_2 := q67.symm
          subst e82
          have e83 : s2 = y61_3 := q68.symm
          subst e83
          have e84 : s3 = y61_4 := q69.symm
          subst e84
          have e85 : s4 = y61_5 := q70.symm
          subst e85
          have e86 : s5 = y61_6 := q71.symm
          subst e86
          have e87 : s6 = y61_7 := q72.symm
          subst e87
          have e88 : s7 = y61_8 := q73.symm
          subst e88
          have e89 : s8 = y61_9 := q74.symm
          subst e89
          have e90 : s9 = y61_10 := q75.symm
          subst e90
          have e91 : s10 = y61_11 := q76.symm
          subst e91
          have e92 : s11 = y61_12 := q77.symm
          subst e92
          have e93 : s12 = y61_13 := q78.symm
          subst e93
          have e94 : s13 = y61_14 := q79.symm
          subst e94
          have e95 : s14 = y61_15 := q80.symm
          subst e95
          have g96 := zz_rg y61_0
          show zz_smp (s14) s0.toInt x1.toInt y61_0.toInt ∧ -1 ≤ y61_0.toInt ∧ y61_0.toInt < 1024 ∧ (y61_0.toInt = -1 ∨ y61_0.toInt < s0.toInt) ∧ s0 = s0 ∧ s1 = s1 ∧ s2 = s2 ∧ s3 = s3 ∧ s4 = s4 ∧ s5 = s5 ∧ s6 = s6 ∧ s7 = s7 ∧ s8 = s8 ∧ s9 = s9 ∧ s10 = s10 ∧ s11 = s11 ∧ s12 = s12 ∧ s13 = s13 ∧ s14 = s14
          exact ⟨q62, q63, q64, q65, rfl, rfl, rfl, rfl, rfl, rfl, rfl, rfl, rfl, rfl, rfl, rfl, rfl, rfl, rfl⟩
        · have c55 := zz_neq c55
          refine zz_ok_chk (zz_ix (by omega) (by omega)) ?_
          refine zz_ok_chk (zz_ix (by omega) (by omega)) ?_
          have g97 := zz_tnI x2 (by omega)
          have g99 := zz_rg (s14 x2.toNatClampNeg)
          refine zz_ok_ite (fun c98 => ?_) (fun c98 => ?_)
          · have c98 := Int32.le_iff_toInt_le.mp c98
            have l100 : (1 : Int32).toInt = 1 := rfl
            obtain ⟨k101, f102⟩ := zz_add x3 (1 : Int32)
            have g103 := zz_rg (x3 + 1)
            refine (ih x1 x2 (x3 + 1) s0 s1 s2 s3 s4 s5 s6 s7 s8 s9 s10 s11 s12 s13 s14 a0 a1 a2 a3 a4 a5 a6 a7 a8 a9 a10 a11 a12 (by omega) (by omega) a15 (by omega) (by first | assumption | exact zz_smp_cg (by assumption) (by omega) | exact zz_smp_keep (i := x3.toNatClampNeg) (by assumption) (by omega) (by omega) (by omega) | exact zz_smp_new (i := x3.toNatClampNeg) (by assumption) (by omega) (by omega) (by omega) (by omega) rfl) (by omega)).mono (fun z hz => ?_)
            obtain ⟨y104_0, y104_1, y104_2, y104_3, y104_4, y104_5, y104_6, y104_7, y104_8, y104_9, y104_10, y104_11, y104_12, y104_13, y104_14, y104_15⟩ := z
            have q105 : zz_smp (s14) s0.toInt x1.toInt y104_0.toInt := hz.1
            have q106 : -1 ≤ y104_0.toInt := hz.2.1
            have q107 : y104_0.toInt < 1024 := hz.2.2.1
            have q108 : (y104_0.toInt = -1 ∨ y104_0.toInt < s0.toInt) := hz.2.2.2.1
            have q109 : y104_1 = s0 := hz.2.2.2.2.1
            have q110 : y104_2 = s1 := hz.2.2.2.2.2.1
            have q111 : y104_3 = s2 := hz.2.2.2.2.2.2.1
            have q112 : y104_4 = s3 := hz.2.2.2.2.2.2.2.1
            have q113 : y104_5 = s4 := hz.2.2.2.2.2.2.2.2.1
            have q114 : y104_6 = s5 := hz.2.2.2.2.2.2.2.2.2.1
            have q115 : y104_7 = s6 := hz.2.2.2.2.2.2.2.2.2.2.1
            have q116 : y104_8 = s7 := hz.2.2.2.2.2.2.2.2.2.2.2.1
            have q117 : y104_9 = s8 := hz.2.2.2.2.2.2.2.2.2.2.2.2.1
            have q118 : y104_10 = s9 := hz.2.2.2.2.2.2.2.2.2.2.2.2.2.1
            have q119 : y104_11 = s10 := hz.2.2.2.2.2.2.2.2.2.2.2.2.2.2.1
            have q120 : y104_12 = s11 := hz.2.2.2.2.2.2.2.2.2.2.2.2.2.2.2.1
            have q121 : y104_13 = s12 := hz.2.2.2.2.2.2.2.2.2.2.2.2.2.2.2.2.1
            have q122 : y104_14 = s13 := hz.2.2.2.2.2.2.2.2.2.2.2.2.2.2.2.2.2.1
            have q123 : y104_15 = s14 := hz.2.2.2.2.2.2.2.2.2.2.2.2.2.2.2.2.2.2
            clear hz
            have e124 : s0 = y104_1 := q109.symm
            subst e124
            have e125 : s1 = y104_2 := q110.symm
            subst e125
            have e126 : s2 = y104_3 := q111.symm
            subst e126
            have e127 : s3 = y104_4 := q112.symm
            subst e127
            have e128 : s4 = y104_5 := q113.symm
            subst e128
            have e129 : s5 = y104_6 := q114.symm
            subst e129
            have e130 : s6 = y104_7 := q115.symm
            subst e130
            have e131 : s7 = y104_8 := q116.symm
            subst e131
            have e132 : s8 = y104_9 := q117.symm
            subst e132
            have e133 : s9 = y104_10 := q118.symm
            subst e133
            have e134 : s10 = y104_11 := q119.symm
            subst e134
            have e135 : s11 = y104_12 := q120.symm
            subst e135
            have e136 : s12 = y104_13 := q121.symm
            subst e136
            have e137 : s13 = y104_14 := q122.symm
            subst e137
            have e138 : s14 = y104_15 := q123.symm
            subst e138
            have g139 := zz_rg y104_0
            show zz_smp (s14) s0.toInt x1.toInt y104_0.toInt ∧ -1 ≤ y104_0.toInt ∧ y104_0.toInt < 1024 ∧ (y104_0.toInt = -1 ∨ y104_0.toInt < s0.toInt) ∧ s0 = s0 ∧ s1 = s1 ∧ s2 = s2 ∧ s3 = s3 ∧ s4 = s4 ∧ s5 = s5 ∧ s6 = s6 ∧ s7 = s7 ∧ s8 = s8 ∧ s9 = s9 ∧ s10 = s10 ∧ s11 = s11 ∧ s12 = s12 ∧ s13 = s13 ∧ s14 = s14
            exact ⟨q105, q106, q107, q108, rfl, rfl, rfl, rfl, rfl, rfl, rfl, rfl, rfl, rfl, rfl, rfl, rfl, rfl, rfl⟩
          · have c98 := zz_nle c98
            have l140 : (1 : Int32).toInt = 1 := rfl
            obtain ⟨k141, f142⟩ := zz_add x3 (1 : Int32)
            have g143 := zz_rg (x3 + 1)
            refine (ih x1 x3 (x3 + 1) s0 s1 s2 s3 s4 s5 s6 s7 s8 s9 s10 s11 s12 s13 s14 a0 a1 a2 a3 a4 a5 a6 a7 a8 a9 a10 a11 a12 (by omega) (by omega) (by omega) (by omega) (by first | assumption | exact zz_smp_cg (by assumption) (by omega) | exact zz_smp_keep (i := x3.toNatClampNeg) (by assumption) (by omega) (by omega) (by omega) | exact zz_smp_new (i := x3.toNatClampNeg) (by assumption) (by omega) (by omega) (by omega) (by omega) rfl) (by omega)).mono (fun z hz => ?_)
            obtain ⟨y144_0, y144_1, y144_2, y144_3, y144_4, y144_5, y144_6, y144_7, y144_8, y144_9, y144_10, y144_11, y144_12, y144_13, y144_14, y144_15⟩ := z
            have q145 : zz_smp (s14) s0.toInt x1.toInt y144_0.toInt := hz.1
            have q146 : -1 ≤ y144_0.toInt := hz.2.1
            have q147 : y144_0.toInt < 1024 := hz.2.2.1
            have q148 : (y144_0.toInt = -1 ∨ y144_0.toInt < s0.toInt) := hz.2.2.2.1
            have q149 : y144_1 = s0 := hz.2.2.2.2.1
            have q150 : y144_2 = s1 := hz.2.2.2.2.2.1
            have q151 : y144_3 = s2 := hz.2.2.2.2.2.2.1
            have q152 : y144_4 = s3 := hz.2.2.2.2.2.2.2.1
            have q153 : y144_5 = s4 := hz.2.2.2.2.2.2.2.2.1
            have q154 : y144_6 = s5 := hz.2.2.2.2.2.2.2.2.2.1
            have q155 : y144_7 = s6 := hz.2.2.2.2.2.2.2.2.2.2.1
            have q156 : y144_8 = s7 := hz.2.2.2.2.2.2.2.2.2.2.2.1
            have q157 : y144_9 = s8 := hz.2.2.2.2.2.2.2.2.2.2.2.2.1
            have q158 : y144_10 = s9 := hz.2.2.2.2.2.2.2.2.2.2.2.2.2.1
            have q159 : y144_11 = s10 := hz.2.2.2.2.2.2.2.2.2.2.2.2.2.2.1
            have q160 : y144_12 = s11 := hz.2.2.2.2.2.2.2.2.2.2.2.2.2.2.2.1
            have q161 : y144_13 = s12 := hz.2.2.2.2.2.2.2.2.2.2.2.2.2.2.2.2.1
            have q162 : y144_14 = s13 := hz.2.2.2.2.2.2.2.2.2.2.2.2.2.2.2.2.2.1
            have q163 : y144_15 = s14 := hz.2.2.2.2.2.2.2.2.2.2.2.2.2.2.2.2.2.2
            clear hz
            have e164 : s0 = y144_1 := q149.symm
            subst e164
            have e165 : s1 = y144_2 := q150.symm
            subst e165
            have e166 : s2 = y144_3 := q151.symm
            subst e166
            have e167 : s3 = y144_4 := q152.symm
            subst e167
            have e168 : s4 = y144_5 := q153.symm
            subst e168
            have e169 : s5 = y144_6 := q154.symm
            subst e169
            have e170 : s6 = y144_7 := q155.symm
            subst e170
            have e171 : s7 = y144_8 := q156.symm
            subst e171
            have e172 : s8 = y144_9 := q157.symm
            subst e172
            have e173 : s9 = y144_10 := q158.symm
            subst e173
            have e174 : s10 = y144_11 := q159.symm
            subst e174
            have e175 : s11 = y144_12 := q160.symm
            subst e175
            have e176 : s12 = y144_13 := q161.symm
            subst e176
            have e177 : s13 = y144_14 := q162.symm
            subst e177
            have e178 : s14 = y144_15 := q163.symm
            subst e178
            have g179 := zz_rg y144_0
            show zz_smp (s14) s0.toInt x1.toInt y144_0.toInt ∧ -1 ≤ y144_0.toInt ∧ y144_0.toInt < 1024 ∧ (y144_0.toInt = -1 ∨ y144_0.toInt < s0.toInt) ∧ s0 = s0 ∧ s1 = s1 ∧ s2 = s2 ∧ s3 = s3 ∧ s4 = s4 ∧ s5 = s5 ∧ s6 = s6 ∧ s7 = s7 ∧ s8 = s8 ∧ s9 = s9 ∧ s10 = s10 ∧ s11 = s11 ∧ s12 = s12 ∧ s13 = s13 ∧ s14 = s14
            exact ⟨q145, q146, q147, q148, rfl, rfl, rfl, rfl, rfl, rfl, rfl, rfl, rfl, rfl, rfl, rfl, rfl, rfl, rfl⟩
set_option maxHeartbeats 4000000 in
theorem gg_X3_smallestPiece (K : Nat) (hK : 1099511627776 ≤ K) (T : Nat) (hT : T ≤ 900) (n0 : Nat) (n1 : Nat) (n2 : Nat) (n3 : Nat) (n4 : Nat) (n5 : Nat) (n6 : Nat) (n7 : Nat) (p1 : Int32) (s0 : Int32) (s1 : Int32) (s2 : Int32) (s3 : Int32) (s4 : Int32) (s5 : Nat → Int32) (s6 : Nat → Int32) (s7 : Nat → Int32) (s8 : Nat → Int32) (s9 : Nat → Int32) (s10 : Int32) (s11 : Int32) (s12 : Nat → Int32) (s13 : Nat → Int32) (s14 : Nat → Int32) (a0 : n0 = 1024) (a1 : n1 = 200) (a2 : n2 = 200) (a3 : n3 = 200) (a4 : n4 = 200) (a5 : n5 = 512) (a6 : n6 = 512) (a7 : 0 ≤ s1.toInt) (a8 : s1.toInt ≤ 1024) (a9 : n7 = 1024) (a10 : 0 ≤ s0.toInt) (a11 : s0.toInt ≤ 1024) (a12 : 1 ≤ p1.toInt) : zz_ok (m_X3_smallestPiece K n0 n1 n2 n3 n4 n5 n6 n7 p1 s0 s1 s2 s3 s4 s5 s6 s7 s8 s9 s10 s11 s12 s13 s14) (fun z => zz_smp (s14) s0.toInt p1.toInt z.1.toInt ∧ -1 ≤ z.1.toInt ∧ z.1.toInt < 1024 ∧ (z.1.toInt = -1 ∨ z.1.toInt < s0.toInt) ∧ z.2.1 = s0 ∧ z.2.2.1 = s1 ∧ z.2.2.2.1 = s2 ∧ z.2.2.2.2.1 = s3 ∧ z.2.2.2.2.2.1 = s4 ∧ z.2.2.2.2.2.2.1 = s5 ∧ z.2.2.2.2.2.2.2.1 = s6 ∧ z.2.2.2.2.2.2.2.2.1 = s7 ∧ z.2.2.2.2.2.2.2.2.2.1 = s8 ∧ z.2.2.2.2.2.2.2.2.2.2.1 = s9 ∧ z.2.2.2.2.2.2.2.2.2.2.2.1 = s10 ∧ z.2.2.2.2.2.2.2.2.2.2.2.2.1 = s11 ∧ z.2.2.2.2.2.2.2.2.2.2.2.2.2.1 = s12 ∧ z.2.2.2.2.2.2.2.2.2.2.2.2.2.2.1 = s13 ∧ z.2.2.2.2.2.2.2.2.2.2.2.2.2.2.2 = s14) := by
  have g1 := zz_rg p1
  have g2 := zz_rg s0
  have g3 := zz_rg s1
  have g4 := zz_rg s2
  have g5 := zz_rg s3
  have g6 := zz_rg s4
  have g7 := zz_rg s10
  have g8 := zz_rg s11
  unfold m_X3_smallestPiece
  have l9 : (-1 : Int32).toInt = -1 := rfl
  have l10 : (0 : Int32).toInt = 0 := rfl
  refine (gg_X3_smallestPiece_L4 K hK T hT n0 n1 n2 n3 n4 n5 n6 n7 K p1 ((-1 : Int32)) ((0 : Int32)) s0 s1 s2 s3 s4 s5 s6 s7 s8 s9 s10 s11 s12 s13 s14 a0 a1 a2 a3 a4 a5 a6 a7 a8 a9 a10 a11 a12 (by omega) (by omega) (by omega) (by omega) (by first | assumption | exact zz_smp_0 (by first | omega | decide) (by first | omega | decide)) (by omega)).mono (fun z hz => ?_)
  obtain ⟨y11_0, y11_1, y11_2, y11_3, y11_4, y11_5, y11_6, y11_7, y11_8, y11_9, y11_10, y11_11, y11_12, y11_13, y11_14, y11_15⟩ := z
  have q12 : zz_smp (s14) s0.toInt p1.toInt y11_0.toInt := hz.1
  have q13 : -1 ≤ y11_0.toInt := hz.2.1
  have q14 : y11_0.toInt < 1024 := hz.2.2.1
  have q15 : (y11_0.toInt = -1 ∨ y11_0.toInt < s0.toInt) := hz.2.2.2.1
  have q16 : y11_1 = s0 := hz.2.2.2.2.1
  have q17 : y11_2 = s1 := hz.2.2.2.2.2.1
  have q18 : y11_3 = s2 := hz.2.2.2.2.2.2.1
  have q19 : y11_4 = s3 := hz.2.2.2.2.2.2.2.1
  have q20 : y11_5 = s4 := hz.2.2.2.2.2.2.2.2.1
  have q21 : y11_6 = s5 := hz.2.2.2.2.2.2.2.2.2.1
  have q22 : y11_7 = s6 := hz.2.2.2.2.2.2.2.2.2.2.1
  have q23 : y11_8 = s7 := hz.2.2.2.2.2.2.2.2.2.2.2.1
  have q24 : y11_9 = s8 := hz.2.2.2.2.2.2.2.2.2.2.2.2.1
  have q25 : y11_10 = s9 := hz.2.2.2.2.2.2.2.2.2.2.2.2.2.1
  have q26 : y11_11 = s10 := hz.2.2.2.2.2.2.2.2.2.2.2.2.2.2.1
  have q27 : y11_12 = s11 := hz.2.2.2.2.2.2.2.2.2.2.2.2.2.2.2.1
  have q28 : y11_13 = s12 := hz.2.2.2.2.2.2.2.2.2.2.2.2.2.2.2.2.1
  have q29 : y11_14 = s13 := hz.2.2.2.2.2.2.2.2.2.2.2.2.2.2.2.2.2.1
  have q30 : y11_15 = s14 := hz.2.2.2.2.2.2.2.2.2.2.2.2.2.2.2.2.2.2
  clear hz
  have e31 : s0 = y11_1 := q16.symm
  subst e31
  have e32 : s1 = y11_2 := q17.symm
  subst e32
  have e33 : s2 = y11_3 := q18.symm
  subst e33
  have e34 : s3 = y11_4 := q19.symm
  subst e34
  have e35 : s4 = y11_5 := q20.symm
  subst e35
  have e36 : s5 = y11_6 := q21.symm
  subst e36
  have e37 : s6 = y11_7 := q22.symm
  subst e37
  have e38 : s7 = y11_8 := q23.symm
  subst e38
  have e39 : s8 = y11_9 := q24.symm
  subst e39
  have e40 : s9 = y11_10 := q25.symm
  subst e40
  have e41 : s10 = y11_11 := q26.symm
  subst e41
  have e42 : s11 = y11_12 := q27.symm
  subst e42
  have e43 : s12 = y11_13 := q28.symm
  subst e43
  have e44 : s13 = y11_14 := q29.symm
  subst e44
  have e45 : s14 = y11_15 := q30.symm
  subst e45
  have g46 := zz_rg y11_0
  show zz_smp (s14) s0.toInt p1.toInt y11_0.toInt ∧ -1 ≤ y11_0.toInt ∧ y11_0.toInt < 1024 ∧ (y11_0.toInt = -1 ∨ y11_0.toInt < s0.toInt) ∧ s0 = s0 ∧ s1 = s1 ∧ s2 = s2 ∧ s3 = s3 ∧ s4 = s4 ∧ s5 = s5 ∧ s6 = s6 ∧ s7 = s7 ∧ s8 = s8 ∧ s9 = s9 ∧ s10 = s10 ∧ s11 = s11 ∧ s12 = s12 ∧ s13 = s13 ∧ s14 = s14
  exact ⟨q12, q13, q14, q15, rfl, rfl, rfl, rfl, rfl, rfl, rfl, rfl, rfl, rfl, rfl, rfl, rfl, rfl, rfl⟩
set_option maxHeartbeats 4000000 in
theorem gg_X3_take_L33 (K : Nat) (hK : 1099511627776 ≤ K) (T : Nat) (hT : T ≤ 900) (n0 : Nat) (n1 : Nat) (n2 : Nat) (n3 : Nat) (n4 : Nat) (n5 : Nat) (n6 : Nat) (n7 : Nat) : ∀ (k : Nat) (x1 : Int32) (x2 : Int32) (x3 : Int32) (s0 : Int32) (s1 : Int32) (s2 : Int32) (s3 : Int32) (s4 : Int32) (s5 : Nat → Int32) (s6 : Nat → Int32) (s7 : Nat → Int32) (s8 : Nat → Int32) (s9 : Nat → Int32) (s10 : Int32) (s11 : Int32) (s12 : Nat → Int32) (s13 : Nat → Int32) (s14 : Nat → Int32), n0 = 1024 → n1 = 200 → n2 = 200 → n3 = 200 → n4 = 200 → n5 = 512 → n6 = 512 → 0 ≤ s1.toInt → s1.toInt ≤ 1024 → n7 = 1024 → 0 ≤ s0.toInt → s0.toInt ≤ 1024 → 1 ≤ x1.toInt → 0 ≤ x2.toInt → x2.toInt < s0.toInt → 0 ≤ x3.toInt → x3.toInt ≤ 1024 → zz_zp x3.toInt → x2.toInt + 2 * x3.toInt ≤ s0.toInt → x3.toInt + 1 < (k : Int) → zz_ok (m_X3_take_L33 K n0 n1 n2 n3 n4 n5 n6 n7 k x1 x2 x3 s0 s1 s2 s3 s4 s5 s6 s7 s8 s9 s10 s11 s12 s13 s14) (fun z => zz_shv (s14) (z.2.2.2.2.2.2.2.2.2.2.2.2.2.2.2) x2.toInt x3.toInt x1.toInt ∧ z.1 = x2 ∧ z.2.1 = s0 ∧ z.2.2.1 = s1 ∧ z.2.2.2.1 = s2 ∧ z.2.2.2.2.1 = s3 ∧ z.2.2.2.2.2.1 = s4 ∧ z.2.2.2.2.2.2.1 = s5 ∧ z.2.2.2.2.2.2.2.1 = s6 ∧ z.2.2.2.2.2.2.2.2.1 = s7 ∧ z.2.2.2.2.2.2.2.2.2.1 = s8 ∧ z.2.2.2.2.2.2.2.2.2.2.1 = s9 ∧ z.2.2.2.2.2.2.2.2.2.2.2.1 = s10 ∧ z.2.2.2.2.2.2.2.2.2.2.2.2.1 = s11 ∧ z.2.2.2.2.2.2.2.2.2.2.2.2.2.1 = s12 ∧ z.2.2.2.2.2.2.2.2.2.2.2.2.2.2.1 = s13) := by
  intro k
  induction k with
  | zero =>
    intro x1 x2 x3 s0 s1 s2 s3 s4 s5 s6 s7 s8 s9 s10 s11 s12 s13 s14 a0 a1 a2 a3 a4 a5 a6 a7 a8 a9 a10 a11 a12 a13 a14 a15 a16 a17 a18 hz9
    exfalso
    have g_x1 := zz_rg x1
    have g_x2 := zz_rg x2
    have g_x3 := zz_rg x3
    have g_s0 := zz_rg s0
    have g_s1 := zz_rg s1
    have g_s2 := zz_rg s2
    have g_s3 := zz_rg s3
    have g_s4 := zz_rg s4
    have g_s10 := zz_rg s10
    have g_s11 := zz_rg s11
    omega
  | succ k ih =>
    intro x1 x2 x3 s0 s1 s2 s3 s4 s5 s6 s7 s8 s9 s10 s11 s12 s13 s14 a0 a1 a2 a3 a4 a5 a6 a7 a8 a9 a10 a11 a12 a13 a14 a15 a16 a17 a18 hz9
    rw [m_X3_take_L33_s]
    have g1 := zz_rg x1
    have g2 := zz_rg x2
    have g3 := zz_rg x3
    have g4 := zz_rg s0
    have g5 := zz_rg s1
    have g6 := zz_rg s2
    have g7 := zz_rg s3
    have g8 := zz_rg s4
    have g9 := zz_rg s10
    have g10 := zz_rg s11
    have tn9 := zz_tnI x2 (by omega)
    obtain ⟨k11, f12⟩ := zz_add x2 x3
    have g13 := zz_rg (x2 + x3)
    have tn8 := zz_tnI (x2 + x3) (by omega)
    refine zz_ok_ite (fun c14 => ?_) (fun c14 => ?_)
    · have c14 := Int32.lt_iff_toInt_lt.mp c14
      refine zz_ok_chk (zz_ix (by omega) (by omega)) ?_
      have g15 := zz_tnI x2 (by omega)
      refine zz_ok_some ?_
      show zz_shv (s14) ((upd s14 x2.toNatClampNeg ((0 : Int32)))) x2.toInt x3.toInt x1.toInt ∧ x2 = x2 ∧ s0 = s0 ∧ s1 = s1 ∧ s2 = s2 ∧ s3 = s3 ∧ s4 = s4 ∧ s5 = s5 ∧ s6 = s6 ∧ s7 = s7 ∧ s8 = s8 ∧ s9 = s9 ∧ s10 = s10 ∧ s11 = s11 ∧ s12 = s12 ∧ s13 = s13
      exact ⟨(by first | exact zz_shv_end (by omega) (by decide) (by omega) | exact zz_shv_step (by assumption) (zz_zp_p2 (by assumption) (by omega)) (by omega) (by omega) (by omega) rfl | (exfalso; omega)), rfl, rfl, rfl, rfl, rfl, rfl, rfl, rfl, rfl, rfl, rfl, rfl, rfl, rfl, rfl⟩
    · have c14 := zz_nlt c14
      have l17 : (0 : Int32).toInt = 0 := rfl
      refine zz_ok_ite (fun c16 => ?_) (fun c16 => ?_)
      · have c16 := Int32.le_iff_toInt_le.mp c16
        refine zz_ok_chk (zz_ix (by omega) (by omega)) ?_
        have g18 := zz_tnI x2 (by omega)
        refine zz_ok_some ?_
        show zz_shv (s14) ((upd s14 x2.toNatClampNeg ((0 : Int32)))) x2.toInt x3.toInt x1.toInt ∧ x2 = x2 ∧ s0 = s0 ∧ s1 = s1 ∧ s2 = s2 ∧ s3 = s3 ∧ s4 = s4 ∧ s5 = s5 ∧ s6 = s6 ∧ s7 = s7 ∧ s8 = s8 ∧ s9 = s9 ∧ s10 = s10 ∧ s11 = s11 ∧ s12 = s12 ∧ s13 = s13
        exact ⟨(by first | exact zz_shv_end (by omega) (by decide) (by omega) | exact zz_shv_step (by assumption) (zz_zp_p2 (by assumption) (by omega)) (by omega) (by omega) (by omega) rfl | (exfalso; omega)), rfl, rfl, rfl, rfl, rfl, rfl, rfl, rfl, rfl, rfl, rfl, rfl, rfl, rfl, rfl⟩
      · have c16 := zz_nle c16
        refine zz_ok_ite (fun c19 => ?_) (fun c19 => ?_)
        · have c19 := Int32.le_iff_toInt_le.mp c19
          refine zz_ok_chk (zz_ix (by omega) (by omega)) ?_
          have g20 := zz_tnI x2 (by omega)
          refine zz_ok_some ?_
          show zz_shv (s14) ((upd s14 x2.toNatClampNeg ((0 : Int32)))) x2.toInt x3.toInt x1.toInt ∧ x2 = x2 ∧ s0 = s0 ∧ s1 = s1 ∧ s2 = s2 ∧ s3 = s3 ∧ s4 = s4 ∧ s5 = s5 ∧ s6 = s6 ∧ s7 = s7 ∧ s8 = s8 ∧ s9 = s9 ∧ s10 = s10 ∧ s11 = s11 ∧ s12 = s12 ∧ s13 = s13
          exact ⟨(by first | exact zz_shv_end (by omega) (by decide) (by omega) | exact zz_shv_step (by assumption) (zz_zp_p2 (by assumption) (by omega)) (by omega) (by omega) (by omega) rfl | (exfalso; omega)), rfl, rfl, rfl, rfl, rfl, rfl, rfl, rfl, rfl, rfl, rfl, rfl, rfl, rfl, rfl⟩
        · have c19 := zz_nle c19
          refine zz_ok_chk (zz_ix (by omega) (by omega)) ?_
          have g21 := zz_tnI (x2 + x3) (by omega)
          have l22 : (2 : Int32).toInt = 2 := rfl
          try have f23 := zz_divP x3 (2 : Int32) 2 rfl (by decide) (by omega)
          have f24 := zz_divB x3 (2 : Int32) 2 rfl (by decide)
          have g25 := zz_rg (x3 / ((2 : Int32)))
          refine (ih x1 x2 (x3 / ((2 : Int32))) s0 s1 s2 s3 s4 s5 s6 s7 s8 s9 s10 s11 s12 s13 (upd s14 (x2 + x3).toNatClampNeg x3) a0 a1 a2 a3 a4 a5 a6 a7 a8 a9 a10 a11 a12 a13 a14 (by omega) (by omega) (by exact zz_zp_half (by assumption) (by omega)) (by omega) (by omega)).mono (fun z hz => ?_)
          obtain ⟨y26_0, y26_1, y26_2, y26_3, y26_4, y26_5, y26_6, y26_7, y26_8, y26_9, y26_10, y26_11, y26_12, y26_13, y26_14, y26_15⟩ := z
          have q27 : zz_shv ((upd s14 (x2 + x3).toNatClampNeg x3)) (y26_15) x2.toInt (x3 / ((2 : Int32))).toInt x1.toInt := hz.1
          have q28 : y26_0 = x2 := hz.2.1
          have q29 : y26_1 = s0 := hz.2.2.1
          have q30 : y26_2 = s1 := hz.2.2.2.1
          have q31 : y26_3 = s2 := hz.2.2.2.2.1
          have q32 : y26_4 = s3 := hz.2.2.2.2.2.1
          have q33 : y26_5 = s4 := hz.2.2.2.2.2.2.1
          have q34 : y26_6 = s5 := hz.2.2.2.2.2.2.2.1
          have q35 : y26_7 = s6 := hz.2.2.2.2.2.2.2.2.1
          have q36 : y26_8 = s7 := hz.2.2.2.2.2.2.2.2.2.1
          have q37 : y26_9 = s8 := hz.2.2.2.2.2.2.2.2.2.2.1
          have q38 : y26_10 = s9 := hz.2.2.2.2.2.2.2.2.2.2.2.1
          have q39 : y26_11 = s10 := hz.2.2.2.2.2.2.2.2.2.2.2.2.1
          have q40 : y26_12 = s11 := hz.2.2.2.2.2.2.2.2.2.2.2.2.2.1
          have q41 : y26_13 = s12 := hz.2.2.2.2.2.2.2.2.2.2.2.2.2.2.1
          have q42 : y26_14 = s13 := hz.2.2.2.2.2.2.2.2.2.2.2.2.2.2.2
          clear hz
          have e43 : x2 = y26_0 := q28.symm
          subst e43
          have e44 : s0 = y26_1 := q29.symm
          subst e44
          have e45 : s1 = y26_2 := q30.symm
          subst e45
          have e46 : s2 = y26_3 := q31.symm
          subst e46
          have e47 : s3 = y26_4 := q32.symm
          subst e47
          have e48 : s4 = y26_5 := q33.symm
          subst e48
          have e49 : s5 = y26_6 := q34.symm
          subst e49
          have e50 : s6 = y26_7 := q35.symm
          subst e50
          have e51 : s7 = y26_8 := q36.symm
          subst e51
          have e52 : s8 = y26_9 := q37.symm
          subst e52
          have e53 : s9 = y26_10 := q38.symm
          subst e53
          have e54 : s10 = y26_11 := q39.symm
          subst e54
          have e55 : s11 = y26_12 := q40.symm
          subst e55
          have e56 : s12 = y26_13 := q41.symm
          subst e56
          have e57 : s13 = y26_14 := q42.symm
          subst e57
          show zz_shv (s14) (y26_15) x2.toInt x3.toInt x1.toInt ∧ x2 = x2 ∧ s0 = s0 ∧ s1 = s1 ∧ s2 = s2 ∧ s3 = s3 ∧ s4 = s4 ∧ s5 = s5 ∧ s6 = s6 ∧ s7 = s7 ∧ s8 = s8 ∧ s9 = s9 ∧ s10 = s10 ∧ s11 = s11 ∧ s12 = s12 ∧ s13 = s13
          exact ⟨(by first | exact zz_shv_end (by omega) (by decide) (by omega) | exact zz_shv_step (by assumption) (zz_zp_p2 (by assumption) (by omega)) (by omega) (by omega) (by omega) rfl | (exfalso; omega)), rfl, rfl, rfl, rfl, rfl, rfl, rfl, rfl, rfl, rfl, rfl, rfl, rfl, rfl, rfl⟩
set_option maxHeartbeats 4000000 in
theorem gg_X3_take (K : Nat) (hK : 1099511627776 ≤ K) (T : Nat) (hT : T ≤ 900) (n0 : Nat) (n1 : Nat) (n2 : Nat) (n3 : Nat) (n4 : Nat) (n5 : Nat) (n6 : Nat) (n7 : Nat) (p1 : Int32) (s0 : Int32) (s1 : Int32) (s2 : Int32) (s3 : Int32) (s4 : Int32) (s5 : Nat → Int32) (s6 : Nat → Int32) (s7 : Nat → Int32) (s8 : Nat → Int32) (s9 : Nat → Int32) (s10 : Int32) (s11 : Int32) (s12 : Nat → Int32) (s13 : Nat → Int32) (s14 : Nat → Int32) (a0 : n0 = 1024) (a1 : n1 = 200) (a2 : n2 = 200) (a3 : n3 = 200) (a4 : n4 = 200) (a5 : n5 = 512) (a6 : n6 = 512) (a7 : 0 ≤ s1.toInt) (a8 : s1.toInt ≤ 1024) (a9 : n7 = 1024) (a10 : 0 ≤ s0.toInt) (a11 : s0.toInt ≤ 1024) (a12 : 1 ≤ p1.toInt) (a13 : zz_P4 (s14) s0.toInt) : zz_ok (m_X3_take K n0 n1 n2 n3 n4 n5 n6 n7 p1 s0 s1 s2 s3 s4 s5 s6 s7 s8 s9 s10 s11 s12 s13 s14) (fun z => zz_t4 (s14) (z.2.2.2.2.2.2.2.2.2.2.2.2.2.2.2) s0.toInt p1.toInt z.1.toInt ∧ -1 ≤ z.1.toInt ∧ (z.1.toInt = -1 ∨ z.1.toInt < s0.toInt) ∧ z.2.1 = s0 ∧ z.2.2.1 = s1 ∧ z.2.2.2.1 = s2 ∧ z.2.2.2.2.1 = s3 ∧ z.2.2.2.2.2.2.1 = s5 ∧ z.2.2.2.2.2.2.2.1 = s6 ∧ z.2.2.2.2.2.2.2.2.1 = s7 ∧ z.2.2.2.2.2.2.2.2.2.1 = s8 ∧ z.2.2.2.2.2.2.2.2.2.2.1 = s9 ∧ z.2.2.2.2.2.2.2.2.2.2.2.1 = s10 ∧ z.2.2.2.2.2.2.2.2.2.2.2.2.1 = s11 ∧ z.2.2.2.2.2.2.2.2.2.2.2.2.2.1 = s12 ∧ z.2.2.2.2.2.2.2.2.2.2.2.2.2.2.1 = s13) := by
  have g1 := zz_rg p1
  have g2 := zz_rg s0
  have g3 := zz_rg s1
  have g4 := zz_rg s2
  have g5 := zz_rg s3
  have g6 := zz_rg s4
  have g7 := zz_rg s10
  have g8 := zz_rg s11
  unfold m_X3_take
  refine zz_ok_bind (gg_X3_freeParts K hK T hT n0 n1 n2 n3 n4 n5 n6 n7 s0 s1 s2 s3 s4 s5 s6 s7 s8 s9 s10 s11 s12 s13 s14 a0 a1 a2 a3 a4 a5 a6 a7 a8 a9 a10 a11) ?_
  intro z9 hz9
  obtain ⟨r_1, t_1_0, t_1_1, t_1_2, t_1_3, t_1_4, t_1_5, t_1_6, t_1_7, t_1_8, t_1_9, t_1_10, t_1_11, t_1_12, t_1_13, t_1_14⟩ := z9
  have q10 : t_1_0 = s0 := hz9.1
  have q11 : t_1_1 = s1 := hz9.2.1
  have q12 : t_1_2 = s2 := hz9.2.2.1
  have q13 : t_1_3 = s3 := hz9.2.2.2.1
  have q14 : t_1_4 = s4 := hz9.2.2.2.2.1
  have q15 : t_1_5 = s5 := hz9.2.2.2.2.2.1
  have q16 : t_1_6 = s6 := hz9.2.2.2.2.2.2.1
  have q17 : t_1_7 = s7 := hz9.2.2.2.2.2.2.2.1
  have q18 : t_1_8 = s8 := hz9.2.2.2.2.2.2.2.2.1
  have q19 : t_1_9 = s9 := hz9.2.2.2.2.2.2.2.2.2.1
  have q20 : t_1_10 = s10 := hz9.2.2.2.2.2.2.2.2.2.2.1
  have q21 : t_1_11 = s11 := hz9.2.2.2.2.2.2.2.2.2.2.2.1
  have q22 : t_1_12 = s12 := hz9.2.2.2.2.2.2.2.2.2.2.2.2.1
  have q23 : t_1_13 = s13 := hz9.2.2.2.2.2.2.2.2.2.2.2.2.2.1
  have q24 : t_1_14 = s14 := hz9.2.2.2.2.2.2.2.2.2.2.2.2.2.2
  clear hz9
  have e25 : s0 = t_1_0 := q10.symm
  subst e25
  have e26 : s1 = t_1_1 := q11.symm
  subst e26
  have e27 : s2 = t_1_2 := q12.symm
  subst e27
  have e28 : s3 = t_1_3 := q13.symm
  subst e28
  have e29 : s4 = t_1_4 := q14.symm
  subst e29
  have e30 : s5 = t_1_5 := q15.symm
  subst e30
  have e31 : s6 = t_1_6 := q16.symm
  subst e31
  have e32 : s7 = t_1_7 := q17.symm
  subst e32
  have e33 : s8 = t_1_8 := q18.symm
  subst e33
  have e34 : s9 = t_1_9 := q19.symm
  subst e34
  have e35 : s10 = t_1_10 := q20.symm
  subst e35
  have e36 : s11 = t_1_11 := q21.symm
  subst e36
  have e37 : s12 = t_1_12 := q22.symm
  subst e37
  have e38 : s13 = t_1_13 := q23.symm
  subst e38
  have e39 : s14 = t_1_14 := q24.symm
  subst e39
  have g40 := zz_rg r_1
  show zz_ok ((m_X7_addLooked K n0 n1 n2 n3 n4 n5 n6 r_1 s1 s2 s3 s4 s5 s6 s7 s8 s9 s10 s11 s12 s13).bind fun ⟨t_2_0, t_2_1, t_2_2, t_2_3, t_2_4, t_2_5, t_2_6, t_2_7, t_2_8, t_2_9, t_2_10, t_2_11, t_2_12⟩ => (m_X3_smallestPiece K n0 n1 n2 n3 n4 n5 n6 n7 p1 s0 t_2_0 t_2_1 t_2_2 t_2_3 t_2_4 t_2_5 t_2_6 t_2_7 t_2_8 t_2_9 t_2_10 t_2_11 t_2_12 s14).bind fun ⟨r_3, t_3_0, t_3_1, t_3_2, t_3_3, t_3_4, t_3_5, t_3_6, t_3_7, t_3_8, t_3_9, t_3_10, t_3_11, t_3_12, t_3_13, t_3_14⟩ => if r_3 = ((-1 : Int32)) then (some ((-1 : Int32), t_3_0, t_3_1, t_3_2, t_3_3, t_3_4, t_3_5, t_3_6, t_3_7, t_3_8, t_3_9, t_3_10, t_3_11, t_3_12, t_3_13, t_3_14)) else (if ¬ (r_3 < 0 ∨ n7 ≤ r_3.toNatClampNeg) then (m_X3_take_L33 K n0 n1 n2 n3 n4 n5 n6 n7 K p1 r_3 ((t_3_14 r_3.toNatClampNeg) / ((2 : Int32))) t_3_0 t_3_1 t_3_2 t_3_3 t_3_4 t_3_5 t_3_6 t_3_7 t_3_8 t_3_9 t_3_10 t_3_11 t_3_12 t_3_13 t_3_14) else none)) _
  refine zz_ok_bind (ff_X7_addLooked K hK T hT n0 n1 n2 n3 n4 n5 n6 r_1 s1 s2 s3 s4 s5 s6 s7 s8 s9 s10 s11 s12 s13) ?_
  intro z41 hz41
  obtain ⟨t_2_0, t_2_1, t_2_2, t_2_3, t_2_4, t_2_5, t_2_6, t_2_7, t_2_8, t_2_9, t_2_10, t_2_11, t_2_12⟩ := z41
  have q42 : t_2_0 = s1 := hz41.1
  have q43 : t_2_1 = s2 := hz41.2.1
  have q44 : t_2_2 = s3 := hz41.2.2.1
  have q45 : t_2_4 = s5 := hz41.2.2.2.1
  have q46 : t_2_5 = s6 := hz41.2.2.2.2.1
  have q47 : t_2_6 = s7 := hz41.2.2.2.2.2.1
  have q48 : t_2_7 = s8 := hz41.2.2.2.2.2.2.1
  have q49 : t_2_8 = s9 := hz41.2.2.2.2.2.2.2.1
  have q50 : t_2_9 = s10 := hz41.2.2.2.2.2.2.2.2.1
  have q51 : t_2_10 = s11 := hz41.2.2.2.2.2.2.2.2.2.1
  have q52 : t_2_11 = s12 := hz41.2.2.2.2.2.2.2.2.2.2.1
  have q53 : t_2_12 = s13 := hz41.2.2.2.2.2.2.2.2.2.2.2
  clear hz41
  have e54 : s1 = t_2_0 := q42.symm
  subst e54
  have e55 : s2 = t_2_1 := q43.symm
  subst e55
  have e56 : s3 = t_2_2 := q44.symm
  subst e56
  have e57 : s5 = t_2_4 := q45.symm
  subst e57
  have e58 : s6 = t_2_5 := q46.symm
  subst e58
  have e59 : s7 = t_2_6 := q47.symm
  subst e59
  have e60 : s8 = t_2_7 := q48.symm
  subst e60
  have e61 : s9 = t_2_8 := q49.symm
  subst e61
  have e62 : s10 = t_2_9 := q50.symm
  subst e62
  have e63 : s11 = t_2_10 := q51.symm
  subst e63
  have e64 : s12 = t_2_11 := q52.symm
  subst e64
  have e65 : s13 = t_2_12 := q53.symm
  subst e65
  have g66 := zz_rg t_2_3
  show zz_ok ((m_X3_smallestPiece K n0 n1 n2 n3 n4 n5 n6 n7 p1 s0 s1 s2 s3 t_2_3 s5 s6 s7 s8 s9 s10 s11 s12 s13 s14).bind fun ⟨r_3, t_3_0, t_3_1, t_3_2, t_3_3, t_3_4, t_3_5, t_3_6, t_3_7, t_3_8, t_3_9, t_3_10, t_3_11, t_3_12, t_3_13, t_3_14⟩ => if r_3 = ((-1 : Int32)) then (some ((-1 : Int32), t_3_0, t_3_1, t_3_2, t_3_3, t_3_4, t_3_5, t_3_6, t_3_7, t_3_8, t_3_9, t_3_10, t_3_11, t_3_12, t_3_13, t_3_14)) else (if ¬ (r_3 < 0 ∨ n7 ≤ r_3.toNatClampNeg) then (m_X3_take_L33 K n0 n1 n2 n3 n4 n5 n6 n7 K p1 r_3 ((t_3_14 r_3.toNatClampNeg) / ((2 : Int32))) t_3_0 t_3_1 t_3_2 t_3_3 t_3_4 t_3_5 t_3_6 t_3_7 t_3_8 t_3_9 t_3_10 t_3_11 t_3_12 t_3_13 t_3_14) else none)) _
  refine zz_ok_bind (gg_X3_smallestPiece K hK T hT n0 n1 n2 n3 n4 n5 n6 n7 p1 s0 s1 s2 s3 t_2_3 s5 s6 s7 s8 s9 s10 s11 s12 s13 s14 a0 a1 a2 a3 a4 a5 a6 a7 a8 a9 a10 a11 a12) ?_
  intro z67 hz67
  obtain ⟨r_3, t_3_0, t_3_1, t_3_2, t_3_3, t_3_4, t_3_5, t_3_6, t_3_7, t_3_8, t_3_9, t_3_10, t_3_11, t_3_12, t_3_13, t_3_14⟩ := z67
  have q68 : zz_smp (s14) s0.toInt p1.toInt r_3.toInt := hz67.1
  have q69 : -1 ≤ r_3.toInt := hz67.2.1
  have q70 : r_3.toInt < 1024 := hz67.2.2.1
  have q71 : (r_3.toInt = -1 ∨ r_3.toInt < s0.toInt) := hz67.2.2.2.1
  have q72 : t_3_0 = s0 := hz67.2.2.2.2.1
  have q73 : t_3_1 = s1 := hz67.2.2.2.2.2.1
  have q74 : t_3_2 = s2 := hz67.2.2.2.2.2.2.1
  have q75 : t_3_3 = s3 := hz67.2.2.2.2.2.2.2.1
  have q76 : t_3_4 = t_2_3 := hz67.2.2.2.2.2.2.2.2.1
  have q77 : t_3_5 = s5 := hz67.2.2.2.2.2.2.2.2.2.1
  have q78 : t_3_6 = s6 := hz67.2.2.2.2.2.2.2.2.2.2.1
  have q79 : t_3_7 = s7 := hz67.2.2.2.2.2.2.2.2.2.2.2.1
  have q80 : t_3_8 = s8 := hz67.2.2.2.2.2.2.2.2.2.2.2.2.1
  have q81 : t_3_9 = s9 := hz67.2.2.2.2.2.2.2.2.2.2.2.2.2.1
  have q82 : t_3_10 = s10 := hz67.2.2.2.2.2.2.2.2.2.2.2.2.2.2.1
  have q83 : t_3_11 = s11 := hz67.2.2.2.2.2.2.2.2.2.2.2.2.2.2.2.1
  have q84 : t_3_12 = s12 := hz67.2.2.2.2.2.2.2.2.2.2.2.2.2.2.2.2.1
  have q85 : t_3_13 = s13 := hz67.2.2.2.2.2.2.2.2.2.2.2.2.2.2.2.2.2.1
  have q86 : t_3_14 = s14 := hz67.2.2.2.2.2.2.2.2.2.2.2.2.2.2.2.2.2.2
  clear hz67
  have e87 : s0 = t_3_0 := q72.symm
  subst e87
  have e88 : s1 = t_3_1 := q73.symm
  subst e88
  have e89 : s2 = t_3_2 := q74.symm
  subst e89
  have e90 : s3 = t_3_3 := q75.symm
  subst e90
  have e91 : t_2_3 = t_3_4 := q76.symm
  subst e91
  have e92 : s5 = t_3_5 := q77.symm
  subst e92
  have e93 : s6 = t_3_6 := q78.symm
  subst e93
  have e94 : s7 = t_3_7 := q79.symm
  subst e94
  have e95 : s8 = t_3_8 := q80.symm
  subst e95
  have e96 : s9 = t_3_9 := q81.symm
  subst e96
  have e97 : s10 = t_3_10 := q82.symm
  subst e97
  have e98 : s11 = t_3_11 := q83.symm
  subst e98
  have e99 : s12 = t_3_12 := q84.symm
  subst e99
  have e100 : s13 = t_3_13 := q85.symm
  subst e100
  have e101 : s14 = t_3_14 := q86.symm
  subst e101
  have g102 := zz_rg r_3
  have p49 := zz_P4_rg (by assumption : zz_P4 s14 s0.toInt) (by assumption : zz_smp s14 s0.toInt p1.toInt r_3.toInt) (by omega)
  show zz_ok (if r_3 = ((-1 : Int32)) then (some ((-1 : Int32), s0, s1, s2, s3, t_2_3, s5, s6, s7, s8, s9, s10, s11, s12, s13, s14)) else (if ¬ (r_3 < 0 ∨ n7 ≤ r_3.toNatClampNeg) then (m_X3_take_L33 K n0 n1 n2 n3 n4 n5 n6 n7 K p1 r_3 ((s14 r_3.toNatClampNeg) / ((2 : Int32))) s0 s1 s2 s3 t_2_3 s5 s6 s7 s8 s9 s10 s11 s12 s13 s14) else none)) _
  have l104 : (-1 : Int32).toInt = -1 := rfl
  refine zz_ok_ite (fun c103 => ?_) (fun c103 => ?_)
  · have c103 := congrArg Int32.toInt c103
    refine zz_ok_some ?_
    show zz_t4 (s14) (s14) s0.toInt p1.toInt (-1 : Int32).toInt ∧ -1 ≤ (-1 : Int32).toInt ∧ ((-1 : Int32).toInt = -1 ∨ (-1 : Int32).toInt < s0.toInt) ∧ s0 = s0 ∧ s1 = s1 ∧ s2 = s2 ∧ s3 = s3 ∧ s5 = s5 ∧ s6 = s6 ∧ s7 = s7 ∧ s8 = s8 ∧ s9 = s9 ∧ s10 = s10 ∧ s11 = s11 ∧ s12 = s12 ∧ s13 = s13
    exact ⟨(by first | exact zz_t4_n (by assumption) (by omega) (by first | omega | decide) | exact zz_t4_y (by assumption) (by assumption) (by omega) (by omega) (by omega)), (by omega), (by omega), rfl, rfl, rfl, rfl, rfl, rfl, rfl, rfl, rfl, rfl, rfl, rfl, rfl⟩
  · have c103 := zz_neq c103
    refine zz_ok_chk (zz_ix (by omega) (by omega)) ?_
    have g105 := zz_tnI r_3 (by omega)
    have g106 := zz_rg (s14 r_3.toNatClampNeg)
    have l107 : (2 : Int32).toInt = 2 := rfl
    try have f108 := zz_divP (s14 r_3.toNatClampNeg) (2 : Int32) 2 rfl (by decide) (by omega)
    have f109 := zz_divB (s14 r_3.toNatClampNeg) (2 : Int32) 2 rfl (by decide)
    have g110 := zz_rg ((s14 r_3.toNatClampNeg) / ((2 : Int32)))
    refine (gg_X3_take_L33 K hK T hT n0 n1 n2 n3 n4 n5 n6 n7 K p1 r_3 ((s14 r_3.toNatClampNeg) / ((2 : Int32))) s0 s1 s2 s3 t_2_3 s5 s6 s7 s8 s9 s10 s11 s12 s13 s14 a0 a1 a2 a3 a4 a5 a6 a7 a8 a9 a10 a11 a12 (by omega) (by omega) (by omega) (by omega) (by exact zz_P4_zp (by assumption) (by assumption) (by omega) (by omega)) (by omega) (by omega)).mono (fun z hz => ?_)
    obtain ⟨y111_0, y111_1, y111_2, y111_3, y111_4, y111_5, y111_6, y111_7, y111_8, y111_9, y111_10, y111_11, y111_12, y111_13, y111_14, y111_15⟩ := z
    have q112 : zz_shv (s14) (y111_15) r_3.toInt ((s14 r_3.toNatClampNeg) / ((2 : Int32))).toInt p1.toInt := hz.1
    have q113 : y111_0 = r_3 := hz.2.1
    have q114 : y111_1 = s0 := hz.2.2.1
    have q115 : y111_2 = s1 := hz.2.2.2.1
    have q116 : y111_3 = s2 := hz.2.2.2.2.1
    have q117 : y111_4 = s3 := hz.2.2.2.2.2.1
    have q118 : y111_5 = t_2_3 := hz.2.2.2.2.2.2.1
    have q119 : y111_6 = s5 := hz.2.2.2.2.2.2.2.1
    have q120 : y111_7 = s6 := hz.2.2.2.2.2.2.2.2.1
    have q121 : y111_8 = s7 := hz.2.2.2.2.2.2.2.2.2.1
    have q122 : y111_9 = s8 := hz.2.2.2.2.2.2.2.2.2.2.1
    have q123 : y111_10 = s9 := hz.2.2.2.2.2.2.2.2.2.2.2.1
    have q124 : y111_11 = s10 := hz.2.2.2.2.2.2.2.2.2.2.2.2.1
    have q125 : y111_12 = s11 := hz.2.2.2.2.2.2.2.2.2.2.2.2.2.1
    have q126 : y111_13 = s12 := hz.2.2.2.2.2.2.2.2.2.2.2.2.2.2.1
    have q127 : y111_14 = s13 := hz.2.2.2.2.2.2.2.2.2.2.2.2.2.2.2
    clear hz
    have e128 : r_3 = y111_0 := q113.symm
    subst e128
    have e129 : s0 = y111_1 := q114.symm
    subst e129
    have e130 : s1 = y111_2 := q115.symm
    subst e130
    have e131 : s2 = y111_3 := q116.symm
    subst e131
    have e132 : s3 = y111_4 := q117.symm
    subst e132
    have e133 : t_2_3 = y111_5 := q118.symm
    subst e133
    have e134 : s5 = y111_6 := q119.symm
    subst e134
    have e135 : s6 = y111_7 := q120.symm
    subst e135
    have e136 : s7 = y111_8 := q121.symm
    subst e136
    have e137 : s8 = y111_9 := q122.symm
    subst e137
    have e138 : s9 = y111_10 := q123.symm
    subst e138
    have e139 : s10 = y111_11 := q124.symm
    subst e139
    have e140 : s11 = y111_12 := q125.symm
    subst e140
    have e141 : s12 = y111_13 := q126.symm
    subst e141
    have e142 : s13 = y111_14 := q127.symm
    subst e142
    show zz_t4 (s14) (y111_15) s0.toInt p1.toInt r_3.toInt ∧ -1 ≤ r_3.toInt ∧ (r_3.toInt = -1 ∨ r_3.toInt < s0.toInt) ∧ s0 = s0 ∧ s1 = s1 ∧ s2 = s2 ∧ s3 = s3 ∧ s5 = s5 ∧ s6 = s6 ∧ s7 = s7 ∧ s8 = s8 ∧ s9 = s9 ∧ s10 = s10 ∧ s11 = s11 ∧ s12 = s12 ∧ s13 = s13
    exact ⟨(by first | exact zz_t4_n (by assumption) (by omega) (by first | omega | decide) | exact zz_t4_y (by assumption) (by assumption) (by omega) (by omega) (by omega)), q69, q71, rfl, rfl, rfl, rfl, rfl, rfl, rfl, rfl, rfl, rfl, rfl, rfl, rfl⟩
set_option maxHeartbeats 4000000 in
theorem gg_X3_takeBack_L18 (K : Nat) (hK : 1099511627776 ≤ K) (T : Nat) (hT : T ≤ 900) (n0 : Nat) (n1 : Nat) (n2 : Nat) (n3 : Nat) (n4 : Nat) (n5 : Nat) (n6 : Nat) (n7 : Nat) : ∀ (k : Nat) (x1 : Int32) (x2 : Int32) (x3 : Int32) (x4 : Int32) (s0 : Int32) (s1 : Int32) (s2 : Int32) (s3 : Int32) (s4 : Int32) (s5 : Nat → Int32) (s6 : Nat → Int32) (s7 : Nat → Int32) (s8 : Nat → Int32) (s9 : Nat → Int32) (s10 : Int32) (s11 : Int32) (s12 : Nat → Int32) (s13 : Nat → Int32) (s14 : Nat → Int32), n0 = 1024 → n1 = 200 → n2 = 200 → n3 = 200 → n4 = 200 → n5 = 512 → n6 = 512 → 0 ≤ s1.toInt → s1.toInt ≤ 1024 → n7 = 1024 → 0 ≤ s0.toInt → s0.toInt ≤ 1024 → zz_p2 s0.toInt → 0 ≤ x3.toInt → x3.toInt < s0.toInt → zz_p2 x4.toInt → 1 ≤ x4.toInt → x4.toInt ≤ s0.toInt → 2049 - x4.toInt < (k : Int) → zz_ok (m_X3_takeBack_L18 K n0 n1 n2 n3 n4 n5 n6 n7 k x1 x2 x3 x4 s0 s1 s2 s3 s4 s5 s6 s7 s8 s9 s10 s11 s12 s13 s14) (fun z => zz_jr s0.toInt (s14) (z.2.2.2.2.2.2.2.2.2.2.2.2.2.2) x3.toInt x4.toInt ∧ z.1 = s0 ∧ z.2.1 = s1 ∧ z.2.2.1 = s2 ∧ z.2.2.2.1 = s3 ∧ z.2.2.2.2.1 = s4 ∧ z.2.2.2.2.2.1 = s5 ∧ z.2.2.2.2.2.2.1 = s6 ∧ z.2.2.2.2.2.2.2.1 = s7 ∧ z.2.2.2.2.2.2.2.2.1 = s8 ∧ z.2.2.2.2.2.2.2.2.2.1 = s9 ∧ z.2.2.2.2.2.2.2.2.2.2.1 = s10 ∧ z.2.2.2.2.2.2.2.2.2.2.2.1 = s11 ∧ z.2.2.2.2.2.2.2.2.2.2.2.2.1 = s12 ∧ z.2.2.2.2.2.2.2.2.2.2.2.2.2.1 = s13) := by
  intro k
  induction k with
  | zero =>
    intro x1 x2 x3 x4 s0 s1 s2 s3 s4 s5 s6 s7 s8 s9 s10 s11 s12 s13 s14 a0 a1 a2 a3 a4 a5 a6 a7 a8 a9 a10 a11 a12 a13 a14 a15 a16 a17 hz9
    exfalso
    have g_x1 := zz_rg x1
    have g_x2 := zz_rg x2
    have g_x3 := zz_rg x3
    have g_x4 := zz_rg x4
    have g_s0 := zz_rg s0
    have g_s1 := zz_rg s1
    have g_s2 := zz_rg s2
    have g_s3 := zz_rg s3
    have g_s4 := zz_rg s4
    have g_s10 := zz_rg s10
    have g_s11 := zz_rg s11
    omega
  | succ k ih =>
    intro x1 x2 x3 x4 s0 s1 s2 s3 s4 s5 s6 s7 s8 s9 s10 s11 s12 s13 s14 a0 a1 a2 a3 a4 a5 a6 a7 a8 a9 a10 a11 a12 a13 a14 a15 a16 a17 hz9
    rw [m_X3_takeBack_L18_s]
    have g1 := zz_rg x1
    have g2 := zz_rg x2
    have g3 := zz_rg x3
    have g4 := zz_rg x4
    have g5 := zz_rg s0
    have g6 := zz_rg s1
    have g7 := zz_rg s2
    have g8 := zz_rg s3
    have g9 := zz_rg s4
    have g10 := zz_rg s10
    have g11 := zz_rg s11
    have xb9 := zz_xb x3 x4 (by omega) (by omega) (by assumption)
    have tn9 := zz_tnI x3 (by omega)
    have tn8 := zz_tnO (x3 ^^^ x4)
    have l13 : (0 : Int32).toInt = 0 := rfl
    refine zz_ok_ite (fun c12 => ?_) (fun c12 => ?_)
    · have c12 := Int32.le_iff_toInt_le.mp c12
      refine zz_ok_chk (zz_ix (by omega) (by omega)) ?_
      have g14 := zz_tnI x3 (by omega)
      refine zz_ok_some ?_
      show zz_jr s0.toInt (s14) ((upd s14 x3.toNatClampNeg x4)) x3.toInt x4.toInt ∧ s0 = s0 ∧ s1 = s1 ∧ s2 = s2 ∧ s3 = s3 ∧ s4 = s4 ∧ s5 = s5 ∧ s6 = s6 ∧ s7 = s7 ∧ s8 = s8 ∧ s9 = s9 ∧ s10 = s10 ∧ s11 = s11 ∧ s12 = s12 ∧ s13 = s13
      exact ⟨(by first | exact zz_jr_stop (by omega) rfl (by omega) (by first | exact Or.inl (by omega) | exact Or.inr ⟨(x3 ^^^ x4).toNatClampNeg, by omega, by omega⟩) | exact zz_jr_step (j := (x3 ^^^ x4).toNatClampNeg) (by assumption) (by decide) (by omega) (by omega) (by omega) (by omega) (by omega) (by omega) (by omega) (by omega)), rfl, rfl, rfl, rfl, rfl, rfl, rfl, rfl, rfl, rfl, rfl, rfl, rfl, rfl⟩
    · have c12 := zz_nle c12
      refine zz_ok_ite (fun c15 => ?_) (fun c15 => ?_)
      · have c15 := Int32.le_iff_toInt_le.mp c15
        refine zz_ok_chk (zz_ix (by omega) (by omega)) ?_
        have g16 := zz_tnI x3 (by omega)
        refine zz_ok_some ?_
        show zz_jr s0.toInt (s14) ((upd s14 x3.toNatClampNeg x4)) x3.toInt x4.toInt ∧ s0 = s0 ∧ s1 = s1 ∧ s2 = s2 ∧ s3 = s3 ∧ s4 = s4 ∧ s5 = s5 ∧ s6 = s6 ∧ s7 = s7 ∧ s8 = s8 ∧ s9 = s9 ∧ s10 = s10 ∧ s11 = s11 ∧ s12 = s12 ∧ s13 = s13
        exact ⟨(by first | exact zz_jr_stop (by omega) rfl (by omega) (by first | exact Or.inl (by omega) | exact Or.inr ⟨(x3 ^^^ x4).toNatClampNeg, by omega, by omega⟩) | exact zz_jr_step (j := (x3 ^^^ x4).toNatClampNeg) (by assumption) (by decide) (by omega) (by omega) (by omega) (by omega) (by omega) (by omega) (by omega) (by omega)), rfl, rfl, rfl, rfl, rfl, rfl, rfl, rfl, rfl, rfl, rfl, rfl, rfl, rfl⟩
      · have c15 := zz_nle c15
        try have f18 := zz_xorF x3 x4 (by omega) (by omega)
        have g19 := zz_rg (x3 ^^^ x4)
        refine zz_ok_ite (fun c17 => ?_) (fun c17 => ?_)
        · have c17 := Int32.le_iff_toInt_le.mp c17
          refine zz_ok_chk (zz_ix (by omega) (by omega)) ?_
          have g20 := zz_tnI x3 (by omega)
          refine zz_ok_some ?_
          show zz_jr s0.toInt (s14) ((upd s14 x3.toNatClampNeg x4)) x3.toInt x4.toInt ∧ s0 = s0 ∧ s1 = s1 ∧ s2 = s2 ∧ s3 = s3 ∧ s4 = s4 ∧ s5 = s5 ∧ s6 = s6 ∧ s7 = s7 ∧ s8 = s8 ∧ s9 = s9 ∧ s10 = s10 ∧ s11 = s11 ∧ s12 = s12 ∧ s13 = s13
          exact ⟨(by first | exact zz_jr_stop (by omega) rfl (by omega) (by first | exact Or.inl (by omega) | exact Or.inr ⟨(x3 ^^^ x4).toNatClampNeg, by omega, by omega⟩) | exact zz_jr_step (j := (x3 ^^^ x4).toNatClampNeg) (by assumption) (by decide) (by omega) (by omega) (by omega) (by omega) (by omega) (by omega) (by omega) (by omega)), rfl, rfl, rfl, rfl, rfl, rfl, rfl, rfl, rfl, rfl, rfl, rfl, rfl, rfl⟩
        · have c17 := zz_nle c17
          refine zz_ok_chk (zz_ix (by omega) (by omega)) ?_
          have g21 := zz_tnI (x3 ^^^ x4) (by omega)
          have g23 := zz_rg (s14 (x3 ^^^ x4).toNatClampNeg)
          refine zz_ok_ite (fun c22 => ?_) (fun c22 => ?_)
          · have c22 := congrArg Int32.toInt c22
            refine zz_ok_chk (zz_ix (by omega) (by omega)) ?_
            have f24 := zz_minF x3 (x3 ^^^ x4)
            have g25 := zz_rg (zz_min x3 (x3 ^^^ x4))
            obtain ⟨k26, f27⟩ := zz_add x4 x4
            have g28 := zz_rg (x4 + x4)
            refine (ih x1 x2 (zz_min x3 (x3 ^^^ x4)) (x4 + x4) s0 s1 s2 s3 s4 s5 s6 s7 s8 s9 s10 s11 s12 s13 (upd s14 (x3 ^^^ x4).toNatClampNeg ((0 : Int32))) a0 a1 a2 a3 a4 a5 a6 a7 a8 a9 (by first | omega | exact zz_p2_up (by assumption : zz_p2 x4.toInt) (by assumption : zz_p2 s0.toInt) (by omega) (by omega)) a11 a12 (by omega) (by omega) (by exact zz_p2_dbl (by assumption) (by omega) (by omega)) (by omega) (by first | omega | exact zz_p2_up (by assumption : zz_p2 x4.toInt) (by assumption : zz_p2 s0.toInt) (by omega) (by omega)) (by omega)).mono (fun z hz => ?_)
            obtain ⟨y29_0, y29_1, y29_2, y29_3, y29_4, y29_5, y29_6, y29_7, y29_8, y29_9, y29_10, y29_11, y29_12, y29_13, y29_14⟩ := z
            have q30 : zz_jr s0.toInt ((upd s14 (x3 ^^^ x4).toNatClampNeg ((0 : Int32)))) (y29_14) (zz_min x3 (x3 ^^^ x4)).toInt (x4 + x4).toInt := hz.1
            have q31 : y29_0 = s0 := hz.2.1
            have q32 : y29_1 = s1 := hz.2.2.1
            have q33 : y29_2 = s2 := hz.2.2.2.1
            have q34 : y29_3 = s3 := hz.2.2.2.2.1
            have q35 : y29_4 = s4 := hz.2.2.2.2.2.1
            have q36 : y29_5 = s5 := hz.2.2.2.2.2.2.1
            have q37 : y29_6 = s6 := hz.2.2.2.2.2.2.2.1
            have q38 : y29_7 = s7 := hz.2.2.2.2.2.2.2.2.1
            have q39 : y29_8 = s8 := hz.2.2.2.2.2.2.2.2.2.1
            have q40 : y29_9 = s9 := hz.2.2.2.2.2.2.2.2.2.2.1
            have q41 : y29_10 = s10 := hz.2.2.2.2.2.2.2.2.2.2.2.1
            have q42 : y29_11 = s11 := hz.2.2.2.2.2.2.2.2.2.2.2.2.1
            have q43 : y29_12 = s12 := hz.2.2.2.2.2.2.2.2.2.2.2.2.2.1
            have q44 : y29_13 = s13 := hz.2.2.2.2.2.2.2.2.2.2.2.2.2.2
            clear hz
            have e45 : s0 = y29_0 := q31.symm
            subst e45
            have e46 : s1 = y29_1 := q32.symm
            subst e46
            have e47 : s2 = y29_2 := q33.symm
            subst e47
            have e48 : s3 = y29_3 := q34.symm
            subst e48
            have e49 : s4 = y29_4 := q35.symm
            subst e49
            have e50 : s5 = y29_5 := q36.symm
            subst e50
            have e51 : s6 = y29_6 := q37.symm
            subst e51
            have e52 : s7 = y29_7 := q38.symm
            subst e52
            have e53 : s8 = y29_8 := q39.symm
            subst e53
            have e54 : s9 = y29_9 := q40.symm
            subst e54
            have e55 : s10 = y29_10 := q41.symm
            subst e55
            have e56 : s11 = y29_11 := q42.symm
            subst e56
            have e57 : s12 = y29_12 := q43.symm
            subst e57
            have e58 : s13 = y29_13 := q44.symm
            subst e58
            show zz_jr s0.toInt (s14) (y29_14) x3.toInt x4.toInt ∧ s0 = s0 ∧ s1 = s1 ∧ s2 = s2 ∧ s3 = s3 ∧ s4 = s4 ∧ s5 = s5 ∧ s6 = s6 ∧ s7 = s7 ∧ s8 = s8 ∧ s9 = s9 ∧ s10 = s10 ∧ s11 = s11 ∧ s12 = s12 ∧ s13 = s13
            exact ⟨(by first | exact zz_jr_stop (by omega) rfl (by omega) (by first | exact Or.inl (by omega) | exact Or.inr ⟨(x3 ^^^ x4).toNatClampNeg, by omega, by omega⟩) | exact zz_jr_step (j := (x3 ^^^ x4).toNatClampNeg) (by assumption) (by decide) (by omega) (by omega) (by omega) (by omega) (by omega) (by omega) (by omega) (by omega)), rfl, rfl, rfl, rfl, rfl, rfl, rfl, rfl, rfl, rfl, rfl, rfl, rfl, rfl⟩
          · have c22 := zz_neq c22
            refine zz_ok_chk (zz_ix (by omega) (by omega)) ?_
            have g59 := zz_tnI x3 (by omega)
            refine zz_ok_some ?_
            show zz_jr s0.toInt (s14) ((upd s14 x3.toNatClampNeg x4)) x3.toInt x4.toInt ∧ s0 = s0 ∧ s1 = s1 ∧ s2 = s2 ∧ s3 = s3 ∧ s4 = s4 ∧ s5 = s5 ∧ s6 = s6 ∧ s7 = s7 ∧ s8 = s8 ∧ s9 = s9 ∧ s10 = s10 ∧ s11 = s11 ∧ s12 = s12 ∧ s13 = s13
            exact ⟨(by first | exact zz_jr_stop (by omega) rfl (by omega) (by first | exact Or.inl (by omega) | exact Or.inr ⟨(x3 ^^^ x4).toNatClampNeg, by omega, by omega⟩) | exact zz_jr_step (j := (x3 ^^^ x4).toNatClampNeg) (by assumption) (by decide) (by omega) (by omega) (by omega) (by omega) (by omega) (by omega) (by omega) (by omega)), rfl, rfl, rfl, rfl, rfl, rfl, rfl, rfl, rfl, rfl, rfl, rfl, rfl, rfl⟩
set_option maxHeartbeats 4000000 in
theorem gg_X3_takeBack (K : Nat) (hK : 1099511627776 ≤ K) (T : Nat) (hT : T ≤ 900) (n0 : Nat) (n1 : Nat) (n2 : Nat) (n3 : Nat) (n4 : Nat) (n5 : Nat) (n6 : Nat) (n7 : Nat) (p1 : Int32) (p2 : Int32) (s0 : Int32) (s1 : Int32) (s2 : Int32) (s3 : Int32) (s4 : Int32) (s5 : Nat → Int32) (s6 : Nat → Int32) (s7 : Nat → Int32) (s8 : Nat → Int32) (s9 : Nat → Int32) (s10 : Int32) (s11 : Int32) (s12 : Nat → Int32) (s13 : Nat → Int32) (s14 : Nat → Int32) (a0 : n0 = 1024) (a1 : n1 = 200) (a2 : n2 = 200) (a3 : n3 = 200) (a4 : n4 = 200) (a5 : n5 = 512) (a6 : n6 = 512) (a7 : 0 ≤ s1.toInt) (a8 : s1.toInt ≤ 1024) (a9 : n7 = 1024) (a10 : 0 ≤ s0.toInt) (a11 : s0.toInt ≤ 1024) (a12 : zz_p2 s0.toInt) (a13 : 0 ≤ p1.toInt) (a14 : zz_p2 p2.toInt) (a15 : 1 ≤ p2.toInt) (a16 : p1.toInt + p2.toInt ≤ s0.toInt) : zz_ok (m_X3_takeBack K n0 n1 n2 n3 n4 n5 n6 n7 p1 p2 s0 s1 s2 s3 s4 s5 s6 s7 s8 s9 s10 s11 s12 s13 s14) (fun z => zz_jr s0.toInt (s14) (z.2.2.2.2.2.2.2.2.2.2.2.2.2.2) p1.toInt p2.toInt ∧ z.1 = s0 ∧ z.2.1 = s1 ∧ z.2.2.1 = s2 ∧ z.2.2.2.1 = s3 ∧ z.2.2.2.2.1 = s4 ∧ z.2.2.2.2.2.1 = s5 ∧ z.2.2.2.2.2.2.1 = s6 ∧ z.2.2.2.2.2.2.2.1 = s7 ∧ z.2.2.2.2.2.2.2.2.1 = s8 ∧ z.2.2.2.2.2.2.2.2.2.1 = s9 ∧ z.2.2.2.2.2.2.2.2.2.2.1 = s10 ∧ z.2.2.2.2.2.2.2.2.2.2.2.1 = s11 ∧ z.2.2.2.2.2.2.2.2.2.2.2.2.1 = s12 ∧ z.2.2.2.2.2.2.2.2.2.2.2.2.2.1 = s13) := by
  have g1 := zz_rg p1
  have g2 := zz_rg p2
  have g3 := zz_rg s0
  have g4 := zz_rg s1
  have g5 := zz_rg s2
  have g6 := zz_rg s3
  have g7 := zz_rg s4
  have g8 := zz_rg s10
  have g9 := zz_rg s11
  unfold m_X3_takeBack
  have l11 : (0 : Int32).toInt = 0 := rfl
  refine zz_ok_ite (fun c10 => ?_) (fun c10 => ?_)
  · have c10 := Int32.lt_iff_toInt_lt.mp c10
    refine zz_ok_some ?_
    show zz_jr s0.toInt (s14) (s14) p1.toInt p2.toInt ∧ s0 = s0 ∧ s1 = s1 ∧ s2 = s2 ∧ s3 = s3 ∧ s4 = s4 ∧ s5 = s5 ∧ s6 = s6 ∧ s7 = s7 ∧ s8 = s8 ∧ s9 = s9 ∧ s10 = s10 ∧ s11 = s11 ∧ s12 = s12 ∧ s13 = s13
    exact ⟨(by first | assumption | (exfalso; omega)), rfl, rfl, rfl, rfl, rfl, rfl, rfl, rfl, rfl, rfl, rfl, rfl, rfl, rfl⟩
  · have c10 := zz_nlt c10
    refine zz_ok_ite (fun c12 => ?_) (fun c12 => ?_)
    · have c12 := Int32.lt_iff_toInt_lt.mp c12
      refine (gg_X3_takeBack_L18 K hK T hT n0 n1 n2 n3 n4 n5 n6 n7 K p1 p2 p1 p2 s0 s1 s2 s3 s4 s5 s6 s7 s8 s9 s10 s11 s12 s13 s14 a0 a1 a2 a3 a4 a5 a6 a7 a8 a9 a10 a11 a12 a13 (by omega) a14 a15 (by omega) (by omega)).mono (fun z hz => ?_)
      obtain ⟨y13_0, y13_1, y13_2, y13_3, y13_4, y13_5, y13_6, y13_7, y13_8, y13_9, y13_10, y13_11, y13_12, y13_13, y13_14⟩ := z
      have q14 : zz_jr s0.toInt (s14) (y13_14) p1.toInt p2.toInt := hz.1
      have q15 : y13_0 = s0 := hz.2.1
      have q16 : y13_1 = s1 := hz.2.2.1
      have q17 : y13_2 = s2 := hz.2.2.2.1
      have q18 : y13_3 = s3 := hz.2.2.2.2.1
      have q19 : y13_4 = s4 := hz.2.2.2.2.2.1
      have q20 : y13_5 = s5 := hz.2.2.2.2.2.2.1
      have q21 : y13_6 = s6 := hz.2.2.2.2.2.2.2.1
      have q22 : y13_7 = s7 := hz.2.2.2.2.2.2.2.2.1
      have q23 : y13_8 = s8 := hz.2.2.2.2.2.2.2.2.2.1
      have q24 : y13_9 = s9 := hz.2.2.2.2.2.2.2.2.2.2.1
      have q25 : y13_10 = s10 := hz.2.2.2.2.2.2.2.2.2.2.2.1
      have q26 : y13_11 = s11 := hz.2.2.2.2.2.2.2.2.2.2.2.2.1
      have q27 : y13_12 = s12 := hz.2.2.2.2.2.2.2.2.2.2.2.2.2.1
      have q28 : y13_13 = s13 := hz.2.2.2.2.2.2.2.2.2.2.2.2.2.2
      clear hz
      have e29 : s0 = y13_0 := q15.symm
      subst e29
      have e30 : s1 = y13_1 := q16.symm
      subst e30
      have e31 : s2 = y13_2 := q17.symm
      subst e31
      have e32 : s3 = y13_3 := q18.symm
      subst e32
      have e33 : s4 = y13_4 := q19.symm
      subst e33
      have e34 : s5 = y13_5 := q20.symm
      subst e34
      have e35 : s6 = y13_6 := q21.symm
      subst e35
      have e36 : s7 = y13_7 := q22.symm
      subst e36
      have e37 : s8 = y13_8 := q23.symm
      subst e37
      have e38 : s9 = y13_9 := q24.symm
      subst e38
      have e39 : s10 = y13_10 := q25.symm
      subst e39
      have e40 : s11 = y13_11 := q26.symm
      subst e40
      have e41 : s12 = y13_12 := q27.symm
      subst e41
      have e42 : s13 = y13_13 := q28.symm
      subst e42
      show zz_jr s0.toInt (s14) (y13_14) p1.toInt p2.toInt ∧ s0 = s0 ∧ s1 = s1 ∧ s2 = s2 ∧ s3 = s3 ∧ s4 = s4 ∧ s5 = s5 ∧ s6 = s6 ∧ s7 = s7 ∧ s8 = s8 ∧ s9 = s9 ∧ s10 = s10 ∧ s11 = s11 ∧ s12 = s12 ∧ s13 = s13
      exact ⟨q14, rfl, rfl, rfl, rfl, rfl, rfl, rfl, rfl, rfl, rfl, rfl, rfl, rfl, rfl⟩
    · have c12 := zz_nlt c12
      refine zz_ok_some ?_
      show zz_jr s0.toInt (s14) (s14) p1.toInt p2.toInt ∧ s0 = s0 ∧ s1 = s1 ∧ s2 = s2 ∧ s3 = s3 ∧ s4 = s4 ∧ s5 = s5 ∧ s6 = s6 ∧ s7 = s7 ∧ s8 = s8 ∧ s9 = s9 ∧ s10 = s10 ∧ s11 = s11 ∧ s12 = s12 ∧ s13 = s13
      exact ⟨(by first | assumption | (exfalso; omega)), rfl, rfl, rfl, rfl, rfl, rfl, rfl, rfl, rfl, rfl, rfl, rfl, rfl, rfl⟩

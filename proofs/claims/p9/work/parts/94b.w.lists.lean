set_option maxHeartbeats 4000000 in
theorem wf_X8_listRuns_L11 (K : Nat) (hK : 1099511627776 ≤ K) (T : Nat) (hT : T ≤ 900) (n0 : Nat) (n1 : Nat) (n2 : Nat) (n3 : Nat) : ∀ (k : Nat) (x1 : Int32) (x2 : Int32) (x3 : Int32) (s0 : Int32) (s1 : Int32) (s2 : Int32) (s3 : Int32) (s4 : Int32) (s5 : Int32) (s6 : Nat → Int32) (s7 : Nat → Int32) (s8 : Int32) (s9 : Int32) (s10 : Nat → Int32) (s11 : Nat → Int32), n0 = 20000 → n1 = 32768 → n2 = 14 → n3 = 14 → zz_row 14 (rwW T) (s10) → zz_row 14 (rwW T) (s11) → 0 ≤ s8.toInt → s8.toInt ≤ 14 → 0 ≤ s5.toInt → s5.toInt ≤ 14 → 2 * s8.toInt ≤ x2.toInt → 0 ≤ x2.toInt → x2.toInt ≤ x3.toInt → x3.toInt ≤ s5.toInt + 1 → (x3.toInt ≤ s5.toInt ∨ x2.toInt = x3.toInt) → zz_rpb s5.toInt (x1) (s10) (s11) s8.toInt x2.toInt x3.toInt → 16 - x3.toInt < (k : Int) → zz_ok (m_X8_listRuns_L11 K n0 n1 n2 n3 k x1 x2 x3 s0 s1 s2 s3 s4 s5 s6 s7 s8 s9 s10 s11) (fun z => zz_rub s5.toInt (x1) (z.2.2.2.2.2.2.2.2.2.2.1) (z.2.2.2.2.2.2.2.2.2.2.2) z.2.2.2.2.2.2.2.2.1.toInt ∧ 0 ≤ z.2.2.2.2.2.2.2.2.1.toInt ∧ z.2.2.2.2.2.2.2.2.1.toInt ≤ 14 ∧ z.1 = s0 ∧ z.2.1 = s1 ∧ z.2.2.1 = s2 ∧ z.2.2.2.1 = s3 ∧ z.2.2.2.2.1 = s4 ∧ z.2.2.2.2.2.1 = s5 ∧ z.2.2.2.2.2.2.1 = s6 ∧ z.2.2.2.2.2.2.2.1 = s7 ∧ z.2.2.2.2.2.2.2.2.2.1 = s9 ∧ zz_row 14 (rwW T) (z.2.2.2.2.2.2.2.2.2.2.1) ∧ zz_row 14 (rwW T) (z.2.2.2.2.2.2.2.2.2.2.2)) := by
  intro k
  induction k with
  | zero =>
    intro x1 x2 x3 s0 s1 s2 s3 s4 s5 s6 s7 s8 s9 s10 s11 a0 a1 a2 a3 a4 a5 a6 a7 a8 a9 a10 a11 a12 a13 a14 a15 hz9
    exfalso
    have g_x1 := zz_rg x1
    have g_x2 := zz_rg x2
    have g_x3 := zz_rg x3
    have g_s0 := zz_rg s0
    have g_s1 := zz_rg s1
    have g_s2 := zz_rg s2
    have g_s3 := zz_rg s3
    have g_s4 := zz_rg s4
    have g_s5 := zz_rg s5
    have g_s8 := zz_rg s8
    have g_s9 := zz_rg s9
    omega
  | succ k ih =>
    intro x1 x2 x3 s0 s1 s2 s3 s4 s5 s6 s7 s8 s9 s10 s11 a0 a1 a2 a3 a4 a5 a6 a7 a8 a9 a10 a11 a12 a13 a14 a15 hz9
    rw [m_X8_listRuns_L11_s]
    have g1 := zz_rg x1
    have g2 := zz_rg x2
    have g3 := zz_rg x3
    have g4 := zz_rg s0
    have g5 := zz_rg s1
    have g6 := zz_rg s2
    have g7 := zz_rg s3
    have g8 := zz_rg s4
    have g9 := zz_rg s5
    have g10 := zz_rg s8
    have g11 := zz_rg s9
    refine zz_ok_ite (fun c12 => ?_) (fun c12 => ?_)
    · have c12 := Int32.lt_iff_toInt_lt.mp c12
      refine zz_ok_some ?_
      show zz_rub s5.toInt (x1) (s10) (s11) s8.toInt ∧ 0 ≤ s8.toInt ∧ s8.toInt ≤ 14 ∧ s0 = s0 ∧ s1 = s1 ∧ s2 = s2 ∧ s3 = s3 ∧ s4 = s4 ∧ s5 = s5 ∧ s6 = s6 ∧ s7 = s7 ∧ s9 = s9 ∧ zz_row 14 (rwW T) (s10) ∧ zz_row 14 (rwW T) (s11)
      exact ⟨(by exact zz_rpb_end (by assumption) (by omega) (by omega)), a6, a7, rfl, rfl, rfl, rfl, rfl, rfl, rfl, rfl, rfl, a4, a5⟩
    · have c12 := zz_nlt c12
      refine zz_ok_ite (fun c13 => ?_) (fun c13 => ?_)
      · have c13 := congrArg Int32.toInt c13
        refine zz_ok_ite (fun c14 => ?_) (fun c14 => ?_)
        · have c14 := Int32.le_iff_toInt_le.mp c14
          have l15 : (1 : Int32).toInt = 1 := rfl
          obtain ⟨k16, f17⟩ := zz_add x3 (1 : Int32)
          have g18 := zz_rg (x3 + ((1 : Int32)))
          obtain ⟨k19, f20⟩ := zz_add x3 (1 : Int32)
          have g21 := zz_rg (x3 + 1)
          refine (ih x1 (x3 + ((1 : Int32))) (x3 + 1) s0 s1 s2 s3 s4 s5 s6 s7 s8 s9 s10 s11 a0 a1 a2 a3 a4 a5 a6 a7 a8 a9 (by omega) (by omega) (by omega) (by omega) (by omega) (by first | exact zz_rpb_free (by assumption) (by omega) (by omega) (by omega) (by omega) | exact zz_rpb_shut (by assumption) (by first | exact Or.inl (by omega) | exact zz_sh_t (by omega) (by omega) (by omega)) (by omega) (by omega) (by omega) (by omega) (by omega) (by omega) (by omega) | exact zz_rpb_add (by assumption) (by first | exact Or.inl (by omega) | exact zz_sh_t (by omega) (by omega) (by omega)) (by omega) (by omega) (by omega) (by omega) (by omega) (by omega) (by omega) (by omega) (by omega) (by omega)) (by omega)).mono (fun z hz => ?_)
          obtain ⟨y22_0, y22_1, y22_2, y22_3, y22_4, y22_5, y22_6, y22_7, y22_8, y22_9, y22_10, y22_11⟩ := z
          have q23 : zz_rub s5.toInt (x1) (y22_10) (y22_11) y22_8.toInt := hz.1
          have q24 : 0 ≤ y22_8.toInt := hz.2.1
          have q25 : y22_8.toInt ≤ 14 := hz.2.2.1
          have q26 : y22_0 = s0 := hz.2.2.2.1
          have q27 : y22_1 = s1 := hz.2.2.2.2.1
          have q28 : y22_2 = s2 := hz.2.2.2.2.2.1
          have q29 : y22_3 = s3 := hz.2.2.2.2.2.2.1
          have q30 : y22_4 = s4 := hz.2.2.2.2.2.2.2.1
          have q31 : y22_5 = s5 := hz.2.2.2.2.2.2.2.2.1
          have q32 : y22_6 = s6 := hz.2.2.2.2.2.2.2.2.2.1
          have q33 : y22_7 = s7 := hz.2.2.2.2.2.2.2.2.2.2.1
          have q34 : y22_9 = s9 := hz.2.2.2.2.2.2.2.2.2.2.2.1
          have q35 : zz_row 14 (rwW T) (y22_10) := hz.2.2.2.2.2.2.2.2.2.2.2.2.1
          have q36 : zz_row 14 (rwW T) (y22_11) := hz.2.2.2.2.2.2.2.2.2.2.2.2.2
          clear hz
          have e37 : s0 = y22_0 := q26.symm
          subst e37
          have e38 : s1 = y22_1 := q27.symm
          subst e38
          have e39 : s2 = y22_2 := q28.symm
          subst e39
          have e40 : s3 = y22_3 := q29.symm
          subst e40
          have e41 : s4 = y22_4 := q30.symm
          subst e41
          have e42 : s5 = y22_5 := q31.symm
          subst e42
          have e43 : s6 = y22_6 := q32.symm
          subst e43
          have e44 : s7 = y22_7 := q33.symm
          subst e44
          have e45 : s9 = y22_9 := q34.symm
          subst e45
          have g46 := zz_rg y22_8
          show zz_rub s5.toInt (x1) (y22_10) (y22_11) y22_8.toInt ∧ 0 ≤ y22_8.toInt ∧ y22_8.toInt ≤ 14 ∧ s0 = s0 ∧ s1 = s1 ∧ s2 = s2 ∧ s3 = s3 ∧ s4 = s4 ∧ s5 = s5 ∧ s6 = s6 ∧ s7 = s7 ∧ s9 = s9 ∧ zz_row 14 (rwW T) (y22_10) ∧ zz_row 14 (rwW T) (y22_11)
          exact ⟨q23, q24, q25, rfl, rfl, rfl, rfl, rfl, rfl, rfl, rfl, rfl, q35, q36⟩
        · have c14 := zz_nle c14
          obtain ⟨k47, f48⟩ := zz_sub x3 x2
          have g49 := zz_rg (x3 - x2)
          refine zz_ok_bind (wf_X10_add K hK T hT n2 n3 x2 (x3 - x2) s8 s9 s10 s11 a2 a3 a4 a5 a6 a7 (by omega) a11 (by omega) (by omega) (by omega)) ?_
          intro z50 hz50
          obtain ⟨t_5_0, t_5_1, t_5_2, t_5_3⟩ := z50
          have q51 : t_5_0.toInt = s8.toInt + 1 := hz50.1
          have q52 : t_5_2 = upd s10 s8.toNatClampNeg x2 := hz50.2.1
          have q53 : t_5_3 = upd s11 s8.toNatClampNeg (x3 - x2) := hz50.2.2.1
          have q54 : t_5_1 = s9 := hz50.2.2.2.1
          have q55 : zz_row 14 (rwW T) (t_5_2) := hz50.2.2.2.2.1
          have q56 : zz_row 14 (rwW T) (t_5_3) := hz50.2.2.2.2.2
          clear hz50
          have e57 : upd s10 s8.toNatClampNeg x2 = t_5_2 := q52.symm
          subst e57
          have e58 : upd s11 s8.toNatClampNeg (x3 - x2) = t_5_3 := q53.symm
          subst e58
          have e59 : s9 = t_5_1 := q54.symm
          subst e59
          have g60 := zz_rg t_5_0
          show zz_ok (m_X8_listRuns_L11 K n0 n1 n2 n3 k x1 (x3 + ((1 : Int32))) (x3 + 1) s0 s1 s2 s3 s4 s5 s6 s7 t_5_0 s9 (upd s10 s8.toNatClampNeg x2) (upd s11 s8.toNatClampNeg (x3 - x2))) _
          have l61 : (1 : Int32).toInt = 1 := rfl
          obtain ⟨k62, f63⟩ := zz_add x3 (1 : Int32)
          have g64 := zz_rg (x3 + ((1 : Int32)))
          obtain ⟨k65, f66⟩ := zz_add x3 (1 : Int32)
          have g67 := zz_rg (x3 + 1)
          have g68 := zz_tnI s8 (by omega)
          refine (ih x1 (x3 + ((1 : Int32))) (x3 + 1) s0 s1 s2 s3 s4 s5 s6 s7 t_5_0 s9 (upd s10 s8.toNatClampNeg x2) (upd s11 s8.toNatClampNeg (x3 - x2)) a0 a1 a2 a3 (zz_row_upd a4 (show 0 ≤ x2.toInt ∧ x2.toInt ≤ 14 by omega)) (zz_row_upd a5 (show 0 ≤ (x3 - x2).toInt ∧ (x3 - x2).toInt ≤ 14 by omega)) (by omega) (by omega) a8 a9 (by omega) (by omega) (by omega) (by omega) (by omega) (by first | exact zz_rpb_free (by assumption) (by omega) (by omega) (by omega) (by omega) | exact zz_rpb_shut (by assumption) (by first | exact Or.inl (by omega) | exact zz_sh_t (by omega) (by omega) (by omega)) (by omega) (by omega) (by omega) (by omega) (by omega) (by omega) (by omega) | exact zz_rpb_add (by assumption) (by first | exact Or.inl (by omega) | exact zz_sh_t (by omega) (by omega) (by omega)) (by omega) (by omega) (by omega) (by omega) (by omega) (by omega) (by omega) (by omega) (by omega) (by omega)) (by omega)).mono (fun z hz => ?_)
          obtain ⟨y69_0, y69_1, y69_2, y69_3, y69_4, y69_5, y69_6, y69_7, y69_8, y69_9, y69_10, y69_11⟩ := z
          have q70 : zz_rub s5.toInt (x1) (y69_10) (y69_11) y69_8.toInt := hz.1
          have q71 : 0 ≤ y69_8.toInt := hz.2.1
          have q72 : y69_8.toInt ≤ 14 := hz.2.2.1
          have q73 : y69_0 = s0 := hz.2.2.2.1
          have q74 : y69_1 = s1 := hz.2.2.2.2.1
          have q75 : y69_2 = s2 := hz.2.2.2.2.2.1
          have q76 : y69_3 = s3 := hz.2.2.2.2.2.2.1
          have q77 : y69_4 = s4 := hz.2.2.2.2.2.2.2.1
          have q78 : y69_5 = s5 := hz.2.2.2.2.2.2.2.2.1
          have q79 : y69_6 = s6 := hz.2.2.2.2.2.2.2.2.2.1
          have q80 : y69_7 = s7 := hz.2.2.2.2.2.2.2.2.2.2.1
          have q81 : y69_9 = s9 := hz.2.2.2.2.2.2.2.2.2.2.2.1
          have q82 : zz_row 14 (rwW T) (y69_10) := hz.2.2.2.2.2.2.2.2.2.2.2.2.1
          have q83 : zz_row 14 (rwW T) (y69_11) := hz.2.2.2.2.2.2.2.2.2.2.2.2.2
          clear hz
          have e84 : s0 = y69_0 := q73.symm
          subst e84
          have e85 : s1 = y69_1 := q74.symm
          subst e85
          have e86 : s2 = y69_2 := q75.symm
          subst e86
          have e87 : s3 = y69_3 := q76.symm
          subst e87
          have e88 : s4 = y69_4 := q77.symm
          subst e88
          have e89 : s5 = y69_5 := q78.symm
          subst e89
          have e90 : s6 = y69_6 := q79.symm
          subst e90
          have e91 : s7 = y69_7 := q80.symm
          subst e91
          have e92 : s9 = y69_9 := q81.symm
          subst e92
          have g93 := zz_rg y69_8
          show zz_rub s5.toInt (x1) (y69_10) (y69_11) y69_8.toInt ∧ 0 ≤ y69_8.toInt ∧ y69_8.toInt ≤ 14 ∧ s0 = s0 ∧ s1 = s1 ∧ s2 = s2 ∧ s3 = s3 ∧ s4 = s4 ∧ s5 = s5 ∧ s6 = s6 ∧ s7 = s7 ∧ s9 = s9 ∧ zz_row 14 (rwW T) (y69_10) ∧ zz_row 14 (rwW T) (y69_11)
          exact ⟨q70, q71, q72, rfl, rfl, rfl, rfl, rfl, rfl, rfl, rfl, rfl, q82, q83⟩
      · have c13 := zz_neq c13
        have g95 := zz_rg ((x1.toUInt32 >>> (x3.toUInt32 &&& Int32.toUInt32 31)).toInt32)
        have l96 : (1 : Int32).toInt = 1 := rfl
        try have f97 := zz_andF ((x1.toUInt32 >>> (x3.toUInt32 &&& Int32.toUInt32 31)).toInt32) (1 : Int32) (by omega)
        have g98 := zz_rg (((x1.toUInt32 >>> (x3.toUInt32 &&& Int32.toUInt32 31)).toInt32) &&& ((1 : Int32)))
        refine zz_ok_ite (fun c94 => ?_) (fun c94 => ?_)
        · have c94 := congrArg Int32.toInt c94
          refine zz_ok_ite (fun c99 => ?_) (fun c99 => ?_)
          · have c99 := Int32.le_iff_toInt_le.mp c99
            obtain ⟨k100, f101⟩ := zz_add x3 (1 : Int32)
            have g102 := zz_rg (x3 + ((1 : Int32)))
            obtain ⟨k103, f104⟩ := zz_add x3 (1 : Int32)
            have g105 := zz_rg (x3 + 1)
            refine (ih x1 (x3 + ((1 : Int32))) (x3 + 1) s0 s1 s2 s3 s4 s5 s6 s7 s8 s9 s10 s11 a0 a1 a2 a3 a4 a5 a6 a7 a8 a9 (by omega) (by omega) (by omega) (by omega) (by omega) (by first | exact zz_rpb_free (by assumption) (by omega) (by omega) (by omega) (by omega) | exact zz_rpb_shut (by assumption) (by first | exact Or.inl (by omega) | exact zz_sh_t (by omega) (by omega) (by omega)) (by omega) (by omega) (by omega) (by omega) (by omega) (by omega) (by omega) | exact zz_rpb_add (by assumption) (by first | exact Or.inl (by omega) | exact zz_sh_t (by omega) (by omega) (by omega)) (by omega) (by omega) (by omega) (by omega) (by omega) (by omega) (by omega) (by omega) (by omega) (by omega)) (by omega)).mono (fun z hz => ?_)
            obtain ⟨y106_0, y106_1, y106_2, y106_3, y106_4, y106_5, y106_6, y106_7, y106_8, y106_9, y106_10, y106_11⟩ := z
            have q107 : zz_rub s5.toInt (x1) (y106_10) (y106_11) y106_8.toInt := hz.1
            have q108 : 0 ≤ y106_8.toInt := hz.2.1
            have q109 : y106_8.toInt ≤ 14 := hz.2.2.1
            have q110 : y106_0 = s0 := hz.2.2.2.1
            have q111 : y106_1 = s1 := hz.2.2.2.2.1
            have q112 : y106_2 = s2 := hz.2.2.2.2.2.1
            have q113 : y106_3 = s3 := hz.2.2.2.2.2.2.1
            have q114 : y106_4 = s4 := hz.2.2.2.2.2.2.2.1
            have q115 : y106_5 = s5 := hz.2.2.2.2.2.2.2.2.1
            have q116 : y106_6 = s6 := hz.2.2.2.2.2.2.2.2.2.1
            have q117 : y106_7 = s7 := hz.2.2.2.2.2.2.2.2.2.2.1
            have q118 : y106_9 = s9 := hz.2.2.2.2.2.2.2.2.2.2.2.1
            have q119 : zz_row 14 (rwW T) (y106_10) := hz.2.2.2.2.2.2.2.2.2.2.2.2.1
            have q120 : zz_row 14 (rwW T) (y106_11) := hz.2.2.2.2.2.2.2.2.2.2.2.2.2
            clear hz
            have e121 : s0 = y106_0 := q110.symm
            subst e121
            have e122 : s1 = y106_1 := q111.symm
            subst e122
            have e123 : s2 = y106_2 := q112.symm
            subst e123
            have e124 : s3 = y106_3 := q113.symm
            subst e124
            have e125 : s4 = y106_4 := q114.symm
            subst e125
            have e126 : s5 = y106_5 := q115.symm
            subst e126
            have e127 : s6 = y106_6 := q116.symm
            subst e127
            have e128 : s7 = y106_7 := q117.symm
            subst e128
            have e129 : s9 = y106_9 := q118.symm
            subst e129
            have g130 := zz_rg y106_8
            show zz_rub s5.toInt (x1) (y106_10) (y106_11) y106_8.toInt ∧ 0 ≤ y106_8.toInt ∧ y106_8.toInt ≤ 14 ∧ s0 = s0 ∧ s1 = s1 ∧ s2 = s2 ∧ s3 = s3 ∧ s4 = s4 ∧ s5 = s5 ∧ s6 = s6 ∧ s7 = s7 ∧ s9 = s9 ∧ zz_row 14 (rwW T) (y106_10) ∧ zz_row 14 (rwW T) (y106_11)
            exact ⟨q107, q108, q109, rfl, rfl, rfl, rfl, rfl, rfl, rfl, rfl, rfl, q119, q120⟩
          · have c99 := zz_nle c99
            obtain ⟨k131, f132⟩ := zz_sub x3 x2
            have g133 := zz_rg (x3 - x2)
            refine zz_ok_bind (wf_X10_add K hK T hT n2 n3 x2 (x3 - x2) s8 s9 s10 s11 a2 a3 a4 a5 a6 a7 (by omega) a11 (by omega) (by omega) (by omega)) ?_
            intro z134 hz134
            obtain ⟨t_8_0, t_8_1, t_8_2, t_8_3⟩ := z134
            have q135 : t_8_0.toInt = s8.toInt + 1 := hz134.1
            have q136 : t_8_2 = upd s10 s8.toNatClampNeg x2 := hz134.2.1
            have q137 : t_8_3 = upd s11 s8.toNatClampNeg (x3 - x2) := hz134.2.2.1
            have q138 : t_8_1 = s9 := hz134.2.2.2.1
            have q139 : zz_row 14 (rwW T) (t_8_2) := hz134.2.2.2.2.1
            have q140 : zz_row 14 (rwW T) (t_8_3) := hz134.2.2.2.2.2
            clear hz134
            have e141 : upd s10 s8.toNatClampNeg x2 = t_8_2 := q136.symm
            subst e141
            have e142 : upd s11 s8.toNatClampNeg (x3 - x2) = t_8_3 := q137.symm
            subst e142
            have e143 : s9 = t_8_1 := q138.symm
            subst e143
            have g144 := zz_rg t_8_0
            show zz_ok (m_X8_listRuns_L11 K n0 n1 n2 n3 k x1 (x3 + ((1 : Int32))) (x3 + 1) s0 s1 s2 s3 s4 s5 s6 s7 t_8_0 s9 (upd s10 s8.toNatClampNeg x2) (upd s11 s8.toNatClampNeg (x3 - x2))) _
            obtain ⟨k145, f146⟩ := zz_add x3 (1 : Int32)
            have g147 := zz_rg (x3 + ((1 : Int32)))
            obtain ⟨k148, f149⟩ := zz_add x3 (1 : Int32)
            have g150 := zz_rg (x3 + 1)
            have g151 := zz_tnI s8 (by omega)
            refine (ih x1 (x3 + ((1 : Int32))) (x3 + 1) s0 s1 s2 s3 s4 s5 s6 s7 t_8_0 s9 (upd s10 s8.toNatClampNeg x2) (upd s11 s8.toNatClampNeg (x3 - x2)) a0 a1 a2 a3 (zz_row_upd a4 (show 0 ≤ x2.toInt ∧ x2.toInt ≤ 14 by omega)) (zz_row_upd a5 (show 0 ≤ (x3 - x2).toInt ∧ (x3 - x2).toInt ≤ 14 by omega)) (by omega) (by omega) a8 a9 (by omega) (by omega) (by omega) (by omega) (by omega) (by first | exact zz_rpb_free (by assumption) (by omega) (by omega) (by omega) (by omega) | exact zz_rpb_shut (by assumption) (by first | exact Or.inl (by omega) | exact zz_sh_t (by omega) (by omega) (by omega)) (by omega) (by omega) (by omega) (by omega) (by omega) (by omega) (by omega) | exact zz_rpb_add (by assumption) (by first | exact Or.inl (by omega) | exact zz_sh_t (by omega) (by omega) (by omega)) (by omega) (by omega) (by omega) (by omega) (by omega) (by omega) (by omega) (by omega) (by omega) (by omega)) (by omega)).mono (fun z hz => ?_)
            obtain ⟨y152_0, y152_1, y152_2, y152_3, y152_4, y152_5, y152_6, y152_7, y152_8, y152_9, y152_10, y152_11⟩ := z
            have q153 : zz_rub s5.toInt (x1) (y152_10) (y152_11) y152_8.toInt := hz.1
            have q154 : 0 ≤ y152_8.toInt := hz.2.1
            have q155 : y152_8.toInt ≤ 14 := hz.2.2.1
            have q156 : y152_0 = s0 := hz.2.2.2.1
            have q157 : y152_1 = s1 := hz.2.2.2.2.1
            have q158 : y152_2 = s2 := hz.2.2.2.2.2.1
            have q159 : y152_3 = s3 := hz.2.2.2.2.2.2.1
            have q160 : y152_4 = s4 := hz.2.2.2.2.2.2.2.1
            have q161 : y152_5 = s5 := hz.2.2.2.2.2.2.2.2.1
            have q162 : y152_6 = s6 := hz.2.2.2.2.2.2.2.2.2.1
            have q163 : y152_7 = s7 := hz.2.2.2.2.2.2.2.2.2.2.1
            have q164 : y152_9 = s9 := hz.2.2.2.2.2.2.2.2.2.2.2.1
            have q165 : zz_row 14 (rwW T) (y152_10) := hz.2.2.2.2.2.2.2.2.2.2.2.2.1
            have q166 : zz_row 14 (rwW T) (y152_11) := hz.2.2.2.2.2.2.2.2.2.2.2.2.2
            clear hz
            have e167 : s0 = y152_0 := q156.symm
            subst e167
            have e168 : s1 = y152_1 := q157.symm
            subst e168
            have e169 : s2 = y152_2 := q158.symm
            subst e169
            have e170 : s3 = y152_3 := q159.symm
            subst e170
            have e171 : s4 = y152_4 := q160.symm
            subst e171
            have e172 : s5 = y152_5 := q161.symm
            subst e172
            have e173 : s6 = y152_6 := q162.symm
            subst e173
            have e174 : s7 = y152_7 := q163.symm
            subst e174
            have e175 : s9 = y152_9 := q164.symm
            subst e175
            have g176 := zz_rg y152_8
            show zz_rub s5.toInt (x1) (y152_10) (y152_11) y152_8.toInt ∧ 0 ≤ y152_8.toInt ∧ y152_8.toInt ≤ 14 ∧ s0 = s0 ∧ s1 = s1 ∧ s2 = s2 ∧ s3 = s3 ∧ s4 = s4 ∧ s5 = s5 ∧ s6 = s6 ∧ s7 = s7 ∧ s9 = s9 ∧ zz_row 14 (rwW T) (y152_10) ∧ zz_row 14 (rwW T) (y152_11)
            exact ⟨q153, q154, q155, rfl, rfl, rfl, rfl, rfl, rfl, rfl, rfl, rfl, q165, q166⟩
        · have c94 := zz_neq c94
          obtain ⟨k177, f178⟩ := zz_add x3 (1 : Int32)
          have g179 := zz_rg (x3 + 1)
          refine (ih x1 x2 (x3 + 1) s0 s1 s2 s3 s4 s5 s6 s7 s8 s9 s10 s11 a0 a1 a2 a3 a4 a5 a6 a7 a8 a9 a10 a11 (by omega) (by omega) (by omega) (by first | exact zz_rpb_free (by assumption) (by omega) (by omega) (by omega) (by omega) | exact zz_rpb_shut (by assumption) (by first | exact Or.inl (by omega) | exact zz_sh_t (by omega) (by omega) (by omega)) (by omega) (by omega) (by omega) (by omega) (by omega) (by omega) (by omega) | exact zz_rpb_add (by assumption) (by first | exact Or.inl (by omega) | exact zz_sh_t (by omega) (by omega) (by omega)) (by omega) (by omega) (by omega) (by omega) (by omega) (by omega) (by omega) (by omega) (by omega) (by omega)) (by omega)).mono (fun z hz => ?_)
          obtain ⟨y180_0, y180_1, y180_2, y180_3, y180_4, y180_5, y180_6, y180_7, y180_8, y180_9, y180_10, y180_11⟩ := z
          have q181 : zz_rub s5.toInt (x1) (y180_10) (y180_11) y180_8.toInt := hz.1
          have q182 : 0 ≤ y180_8.toInt := hz.2.1
          have q183 : y180_8.toInt ≤ 14 := hz.2.2.1
          have q184 : y180_0 = s0 := hz.2.2.2.1
          have q185 : y180_1 = s1 := hz.2.2.2.2.1
          have q186 : y180_2 = s2 := hz.2.2.2.2.2.1
          have q187 : y180_3 = s3 := hz.2.2.2.2.2.2.1
          have q188 : y180_4 = s4 := hz.2.2.2.2.2.2.2.1
          have q189 : y180_5 = s5 := hz.2.2.2.2.2.2.2.2.1
          have q190 : y180_6 = s6 := hz.2.2.2.2.2.2.2.2.2.1
          have q191 : y180_7 = s7 := hz.2.2.2.2.2.2.2.2.2.2.1
          have q192 : y180_9 = s9 := hz.2.2.2.2.2.2.2.2.2.2.2.1
          have q193 : zz_row 14 (rwW T) (y180_10) := hz.2.2.2.2.2.2.2.2.2.2.2.2.1
          have q194 : zz_row 14 (rwW T) (y180_11) := hz.2.2.2.2.2.2.2.2.2.2.2.2.2
          clear hz
          have e195 : s0 = y180_0 := q184.symm
          subst e195
          have e196 : s1 = y180_1 := q185.symm
          subst e196
          have e197 : s2 = y180_2 := q186.symm
          subst e197
          have e198 : s3 = y180_3 := q187.symm
          subst e198
          have e199 : s4 = y180_4 := q188.symm
          subst e199
          have e200 : s5 = y180_5 := q189.symm
          subst e200
          have e201 : s6 = y180_6 := q190.symm
          subst e201
          have e202 : s7 = y180_7 := q191.symm
          subst e202
          have e203 : s9 = y180_9 := q192.symm
          subst e203
          have g204 := zz_rg y180_8
          show zz_rub s5.toInt (x1) (y180_10) (y180_11) y180_8.toInt ∧ 0 ≤ y180_8.toInt ∧ y180_8.toInt ≤ 14 ∧ s0 = s0 ∧ s1 = s1 ∧ s2 = s2 ∧ s3 = s3 ∧ s4 = s4 ∧ s5 = s5 ∧ s6 = s6 ∧ s7 = s7 ∧ s9 = s9 ∧ zz_row 14 (rwW T) (y180_10) ∧ zz_row 14 (rwW T) (y180_11)
          exact ⟨q181, q182, q183, rfl, rfl, rfl, rfl, rfl, rfl, rfl, rfl, rfl, q193, q194⟩
set_option maxHeartbeats 4000000 in
theorem wf_X8_listRuns (K : Nat) (hK : 1099511627776 ≤ K) (T : Nat) (hT : T ≤ 900) (n0 : Nat) (n1 : Nat) (n2 : Nat) (n3 : Nat) (p1 : Int32) (s0 : Int32) (s1 : Int32) (s2 : Int32) (s3 : Int32) (s4 : Int32) (s5 : Int32) (s6 : Nat → Int32) (s7 : Nat → Int32) (s8 : Int32) (s9 : Int32) (s10 : Nat → Int32) (s11 : Nat → Int32) (a0 : n0 = 20000) (a1 : n1 = 32768) (a2 : n2 = 14) (a3 : n3 = 14) (a4 : zz_row 14 (rwW T) (s10)) (a5 : zz_row 14 (rwW T) (s11)) (a6 : 0 ≤ s8.toInt) (a7 : s8.toInt ≤ 14) (a8 : 0 ≤ s5.toInt) (a9 : s5.toInt ≤ 14) : zz_ok (m_X8_listRuns K n0 n1 n2 n3 p1 s0 s1 s2 s3 s4 s5 s6 s7 s8 s9 s10 s11) (fun z => zz_rub s5.toInt (p1) (z.2.2.2.2.2.2.2.2.2.2.1) (z.2.2.2.2.2.2.2.2.2.2.2) z.2.2.2.2.2.2.2.2.1.toInt ∧ 0 ≤ z.2.2.2.2.2.2.2.2.1.toInt ∧ z.2.2.2.2.2.2.2.2.1.toInt ≤ 14 ∧ z.1 = s0 ∧ z.2.1 = s1 ∧ z.2.2.1 = s2 ∧ z.2.2.2.1 = s3 ∧ z.2.2.2.2.1 = s4 ∧ z.2.2.2.2.2.1 = s5 ∧ z.2.2.2.2.2.2.1 = s6 ∧ z.2.2.2.2.2.2.2.1 = s7 ∧ z.2.2.2.2.2.2.2.2.2.1 = s9 ∧ zz_row 14 (rwW T) (z.2.2.2.2.2.2.2.2.2.2.1) ∧ zz_row 14 (rwW T) (z.2.2.2.2.2.2.2.2.2.2.2)) := by
  have g1 := zz_rg p1
  have g2 := zz_rg s0
  have g3 := zz_rg s1
  have g4 := zz_rg s2
  have g5 := zz_rg s3
  have g6 := zz_rg s4
  have g7 := zz_rg s5
  have g8 := zz_rg s8
  have g9 := zz_rg s9
  unfold m_X8_listRuns
  refine zz_ok_bind (wf_X10_clear K hK T hT n2 n3 s8 s9 s10 s11 a2 a3) ?_
  intro z10 hz10
  obtain ⟨t_1_0, t_1_1, t_1_2, t_1_3⟩ := z10
  have q11 : t_1_0.toInt = 0 := hz10.1
  have q12 : t_1_1 = s9 := hz10.2.1
  have q13 : t_1_2 = s10 := hz10.2.2.1
  have q14 : t_1_3 = s11 := hz10.2.2.2
  clear hz10
  have e15 : s9 = t_1_1 := q12.symm
  subst e15
  have e16 : s10 = t_1_2 := q13.symm
  subst e16
  have e17 : s11 = t_1_3 := q14.symm
  subst e17
  have g18 := zz_rg t_1_0
  show zz_ok (m_X8_listRuns_L11 K n0 n1 n2 n3 K p1 ((0 : Int32)) ((0 : Int32)) s0 s1 s2 s3 s4 s5 s6 s7 t_1_0 s9 s10 s11) _
  have l19 : (0 : Int32).toInt = 0 := rfl
  refine (wf_X8_listRuns_L11 K hK T hT n0 n1 n2 n3 K p1 ((0 : Int32)) ((0 : Int32)) s0 s1 s2 s3 s4 s5 s6 s7 t_1_0 s9 s10 s11 a0 a1 a2 a3 a4 a5 (by omega) (by omega) a8 a9 (by omega) (by omega) (by omega) (by omega) (by omega) (by exact zz_rpb_ini (by omega) (by omega) (by omega)) (by omega)).mono (fun z hz => ?_)
  obtain ⟨y20_0, y20_1, y20_2, y20_3, y20_4, y20_5, y20_6, y20_7, y20_8, y20_9, y20_10, y20_11⟩ := z
  have q21 : zz_rub s5.toInt (p1) (y20_10) (y20_11) y20_8.toInt := hz.1
  have q22 : 0 ≤ y20_8.toInt := hz.2.1
  have q23 : y20_8.toInt ≤ 14 := hz.2.2.1
  have q24 : y20_0 = s0 := hz.2.2.2.1
  have q25 : y20_1 = s1 := hz.2.2.2.2.1
  have q26 : y20_2 = s2 := hz.2.2.2.2.2.1
  have q27 : y20_3 = s3 := hz.2.2.2.2.2.2.1
  have q28 : y20_4 = s4 := hz.2.2.2.2.2.2.2.1
  have q29 : y20_5 = s5 := hz.2.2.2.2.2.2.2.2.1
  have q30 : y20_6 = s6 := hz.2.2.2.2.2.2.2.2.2.1
  have q31 : y20_7 = s7 := hz.2.2.2.2.2.2.2.2.2.2.1
  have q32 : y20_9 = s9 := hz.2.2.2.2.2.2.2.2.2.2.2.1
  have q33 : zz_row 14 (rwW T) (y20_10) := hz.2.2.2.2.2.2.2.2.2.2.2.2.1
  have q34 : zz_row 14 (rwW T) (y20_11) := hz.2.2.2.2.2.2.2.2.2.2.2.2.2
  clear hz
  have e35 : s0 = y20_0 := q24.symm
  subst e35
  have e36 : s1 = y20_1 := q25.symm
  subst e36
  have e37 : s2 = y20_2 := q26.symm
  subst e37
  have e38 : s3 = y20_3 := q27.symm
  subst e38
  have e39 : s4 = y20_4 := q28.symm
  subst e39
  have e40 : s5 = y20_5 := q29.symm
  subst e40
  have e41 : s6 = y20_6 := q30.symm
  subst e41
  have e42 : s7 = y20_7 := q31.symm
  subst e42
  have e43 : s9 = y20_9 := q32.symm
  subst e43
  have g44 := zz_rg y20_8
  show zz_rub s5.toInt (p1) (y20_10) (y20_11) y20_8.toInt ∧ 0 ≤ y20_8.toInt ∧ y20_8.toInt ≤ 14 ∧ s0 = s0 ∧ s1 = s1 ∧ s2 = s2 ∧ s3 = s3 ∧ s4 = s4 ∧ s5 = s5 ∧ s6 = s6 ∧ s7 = s7 ∧ s9 = s9 ∧ zz_row 14 (rwW T) (y20_10) ∧ zz_row 14 (rwW T) (y20_11)
  exact ⟨q21, q22, q23, rfl, rfl, rfl, rfl, rfl, rfl, rfl, rfl, rfl, q33, q34⟩
set_option maxHeartbeats 4000000 in
theorem wf_X8_blockFrom_L17 (K : Nat) (hK : 1099511627776 ≤ K) (T : Nat) (hT : T ≤ 900) (n0 : Nat) (n1 : Nat) (n2 : Nat) (n3 : Nat) : ∀ (k : Nat) (x1 : Int32) (x2 : Int32) (x3 : Int32) (x4 : Int32) (x5 : Int32) (x6 : Int32) (s0 : Int32) (s1 : Int32) (s2 : Int32) (s3 : Int32) (s4 : Int32) (s5 : Int32) (s6 : Nat → Int32) (s7 : Nat → Int32) (s8 : Int32) (s9 : Int32) (s10 : Nat → Int32) (s11 : Nat → Int32), n0 = 20000 → n1 = 32768 → n2 = 14 → n3 = 14 → 1 ≤ s5.toInt → s5.toInt ≤ 14 → 0 ≤ x1.toInt → x1.toInt < x6.toInt → x6.toInt ≤ s5.toInt → x4 = (x2 &&& (x3 ^^^ ((-1 : Int32)))) → zz_bx s5.toInt (x2) (x3) (x1) (x5) x6.toInt → 15 - x6.toInt < (k : Int) → zz_ok (m_X8_blockFrom_L17 K n0 n1 n2 n3 k x1 x2 x3 x4 x5 x6 s0 s1 s2 s3 s4 s5 s6 s7 s8 s9 s10 s11) (fun z => zz_bxe s5.toInt (x2) (x3) (x1) (z.1) ∧ z.2.1 = s0 ∧ z.2.2.1 = s1 ∧ z.2.2.2.1 = s2 ∧ z.2.2.2.2.1 = s3 ∧ z.2.2.2.2.2.1 = s4 ∧ z.2.2.2.2.2.2.1 = s5 ∧ z.2.2.2.2.2.2.2.1 = s6 ∧ z.2.2.2.2.2.2.2.2.1 = s7 ∧ z.2.2.2.2.2.2.2.2.2.1 = s8 ∧ z.2.2.2.2.2.2.2.2.2.2.1 = s9 ∧ z.2.2.2.2.2.2.2.2.2.2.2.1 = s10 ∧ z.2.2.2.2.2.2.2.2.2.2.2.2 = s11) := by
  intro k
  induction k with
  | zero =>
    intro x1 x2 x3 x4 x5 x6 s0 s1 s2 s3 s4 s5 s6 s7 s8 s9 s10 s11 a0 a1 a2 a3 a4 a5 a6 a7 a8 a9 a10 hz9
    exfalso
    have g_x1 := zz_rg x1
    have g_x2 := zz_rg x2
    have g_x3 := zz_rg x3
    have g_x4 := zz_rg x4
    have g_x5 := zz_rg x5
    have g_x6 := zz_rg x6
    have g_s0 := zz_rg s0
    have g_s1 := zz_rg s1
    have g_s2 := zz_rg s2
    have g_s3 := zz_rg s3
    have g_s4 := zz_rg s4
    have g_s5 := zz_rg s5
    have g_s8 := zz_rg s8
    have g_s9 := zz_rg s9
    omega
  | succ k ih =>
    intro x1 x2 x3 x4 x5 x6 s0 s1 s2 s3 s4 s5 s6 s7 s8 s9 s10 s11 a0 a1 a2 a3 a4 a5 a6 a7 a8 a9 a10 hz9
    rw [m_X8_blockFrom_L17_s]
    have g1 := zz_rg x1
    have g2 := zz_rg x2
    have g3 := zz_rg x3
    have g4 := zz_rg x4
    have g5 := zz_rg x5
    have g6 := zz_rg x6
    have g7 := zz_rg s0
    have g8 := zz_rg s1
    have g9 := zz_rg s2
    have g10 := zz_rg s3
    have g11 := zz_rg s4
    have g12 := zz_rg s5
    have g13 := zz_rg s8
    have g14 := zz_rg s9
    refine zz_ok_ite (fun c15 => ?_) (fun c15 => ?_)
    · have c15 := Int32.le_iff_toInt_le.mp c15
      refine zz_ok_some ?_
      show zz_bxe s5.toInt (x2) (x3) (x1) (x5) ∧ s0 = s0 ∧ s1 = s1 ∧ s2 = s2 ∧ s3 = s3 ∧ s4 = s4 ∧ s5 = s5 ∧ s6 = s6 ∧ s7 = s7 ∧ s8 = s8 ∧ s9 = s9 ∧ s10 = s10 ∧ s11 = s11
      exact ⟨(by exact zz_bx_end (by assumption) (by first | exact Or.inl (by omega) | exact Or.inr (by rw [← a9]; exact (zz_bt_test x4 x6 (by omega) (by omega)).2.mp (by omega))) (by omega) (by omega) (by omega) (by omega)), rfl, rfl, rfl, rfl, rfl, rfl, rfl, rfl, rfl, rfl, rfl, rfl⟩
    · have c15 := zz_nle c15
      have g17 := zz_rg ((x4.toUInt32 >>> (x6.toUInt32 &&& Int32.toUInt32 31)).toInt32)
      have l18 : (1 : Int32).toInt = 1 := rfl
      try have f19 := zz_andF ((x4.toUInt32 >>> (x6.toUInt32 &&& Int32.toUInt32 31)).toInt32) (1 : Int32) (by omega)
      have g20 := zz_rg (((x4.toUInt32 >>> (x6.toUInt32 &&& Int32.toUInt32 31)).toInt32) &&& ((1 : Int32)))
      refine zz_ok_ite (fun c16 => ?_) (fun c16 => ?_)
      · have c16 := congrArg Int32.toInt c16
        have l21 : (31 : Int32).toInt = 31 := rfl
        try have f22 := zz_andF x6 (31 : Int32) (by omega)
        have g23 := zz_rg (x6 &&& 31)
        have g24 := zz_rg (((1 : Int32)) <<< (x6 &&& 31))
        have g25 := zz_rg (x5 ||| (((1 : Int32)) <<< (x6 &&& 31)))
        obtain ⟨k26, f27⟩ := zz_add x6 (1 : Int32)
        have g28 := zz_rg (x6 + 1)
        refine (ih x1 x2 x3 x4 (x5 ||| (((1 : Int32)) <<< (x6 &&& 31))) (x6 + 1) s0 s1 s2 s3 s4 s5 s6 s7 s8 s9 s10 s11 a0 a1 a2 a3 a4 a5 a6 (by omega) (by omega) a9 (by exact zz_bx_step (by assumption) (by rw [← a9]; exact (zz_bt_test x4 x6 (by omega) (by omega)).1.mp (by omega)) (by omega) (by omega) (by omega) (by omega)) (by omega)).mono (fun z hz => ?_)
        obtain ⟨y29_0, y29_1, y29_2, y29_3, y29_4, y29_5, y29_6, y29_7, y29_8, y29_9, y29_10, y29_11, y29_12⟩ := z
        have q30 : zz_bxe s5.toInt (x2) (x3) (x1) (y29_0) := hz.1
        have q31 : y29_1 = s0 := hz.2.1
        have q32 : y29_2 = s1 := hz.2.2.1
        have q33 : y29_3 = s2 := hz.2.2.2.1
        have q34 : y29_4 = s3 := hz.2.2.2.2.1
        have q35 : y29_5 = s4 := hz.2.2.2.2.2.1
        have q36 : y29_6 = s5 := hz.2.2.2.2.2.2.1
        have q37 : y29_7 = s6 := hz.2.2.2.2.2.2.2.1
        have q38 : y29_8 = s7 := hz.2.2.2.2.2.2.2.2.1
        have q39 : y29_9 = s8 := hz.2.2.2.2.2.2.2.2.2.1
        have q40 : y29_10 = s9 := hz.2.2.2.2.2.2.2.2.2.2.1
        have q41 : y29_11 = s10 := hz.2.2.2.2.2.2.2.2.2.2.2.1
        have q42 : y29_12 = s11 := hz.2.2.2.2.2.2.2.2.2.2.2.2
        clear hz
        have e43 : s0 = y29_1 := q31.symm
        subst e43
        have e44 : s1 = y29_2 := q32.symm
        subst e44
        have e45 : s2 = y29_3 := q33.symm
        subst e45
        have e46 : s3 = y29_4 := q34.symm
        subst e46
        have e47 : s4 = y29_5 := q35.symm
        subst e47
        have e48 : s5 = y29_6 := q36.symm
        subst e48
        have e49 : s6 = y29_7 := q37.symm
        subst e49
        have e50 : s7 = y29_8 := q38.symm
        subst e50
        have e51 : s8 = y29_9 := q39.symm
        subst e51
        have e52 : s9 = y29_10 := q40.symm
        subst e52
        have e53 : s10 = y29_11 := q41.symm
        subst e53
        have e54 : s11 = y29_12 := q42.symm
        subst e54
        have g55 := zz_rg y29_0
        show zz_bxe s5.toInt (x2) (x3) (x1) (y29_0) ∧ s0 = s0 ∧ s1 = s1 ∧ s2 = s2 ∧ s3 = s3 ∧ s4 = s4 ∧ s5 = s5 ∧ s6 = s6 ∧ s7 = s7 ∧ s8 = s8 ∧ s9 = s9 ∧ s10 = s10 ∧ s11 = s11
        exact ⟨q30, rfl, rfl, rfl, rfl, rfl, rfl, rfl, rfl, rfl, rfl, rfl, rfl⟩
      · have c16 := zz_neq c16
        refine zz_ok_some ?_
        show zz_bxe s5.toInt (x2) (x3) (x1) (x5) ∧ s0 = s0 ∧ s1 = s1 ∧ s2 = s2 ∧ s3 = s3 ∧ s4 = s4 ∧ s5 = s5 ∧ s6 = s6 ∧ s7 = s7 ∧ s8 = s8 ∧ s9 = s9 ∧ s10 = s10 ∧ s11 = s11
        exact ⟨(by exact zz_bx_end (by assumption) (by first | exact Or.inl (by omega) | exact Or.inr (by rw [← a9]; exact (zz_bt_test x4 x6 (by omega) (by omega)).2.mp (by omega))) (by omega) (by omega) (by omega) (by omega)), rfl, rfl, rfl, rfl, rfl, rfl, rfl, rfl, rfl, rfl, rfl, rfl⟩
set_option maxHeartbeats 4000000 in
theorem wf_X8_blockFrom (K : Nat) (hK : 1099511627776 ≤ K) (T : Nat) (hT : T ≤ 900) (n0 : Nat) (n1 : Nat) (n2 : Nat) (n3 : Nat) (p1 : Int32) (p2 : Int32) (p3 : Int32) (s0 : Int32) (s1 : Int32) (s2 : Int32) (s3 : Int32) (s4 : Int32) (s5 : Int32) (s6 : Nat → Int32) (s7 : Nat → Int32) (s8 : Int32) (s9 : Int32) (s10 : Nat → Int32) (s11 : Nat → Int32) (a0 : n0 = 20000) (a1 : n1 = 32768) (a2 : n2 = 14) (a3 : n3 = 14) (a4 : 1 ≤ s5.toInt) (a5 : s5.toInt ≤ 14) (a6 : 0 ≤ p1.toInt) (a7 : p1.toInt < s5.toInt) : zz_ok (m_X8_blockFrom K n0 n1 n2 n3 p1 p2 p3 s0 s1 s2 s3 s4 s5 s6 s7 s8 s9 s10 s11) (fun z => zz_bxe s5.toInt (p2) (p3) (p1) (z.1) ∧ z.2.1 = s0 ∧ z.2.2.1 = s1 ∧ z.2.2.2.1 = s2 ∧ z.2.2.2.2.1 = s3 ∧ z.2.2.2.2.2.1 = s4 ∧ z.2.2.2.2.2.2.1 = s5 ∧ z.2.2.2.2.2.2.2.1 = s6 ∧ z.2.2.2.2.2.2.2.2.1 = s7 ∧ z.2.2.2.2.2.2.2.2.2.1 = s8 ∧ z.2.2.2.2.2.2.2.2.2.2.1 = s9 ∧ z.2.2.2.2.2.2.2.2.2.2.2.1 = s10 ∧ z.2.2.2.2.2.2.2.2.2.2.2.2 = s11) := by
  have g1 := zz_rg p1
  have g2 := zz_rg p2
  have g3 := zz_rg p3
  have g4 := zz_rg s0
  have g5 := zz_rg s1
  have g6 := zz_rg s2
  have g7 := zz_rg s3
  have g8 := zz_rg s4
  have g9 := zz_rg s5
  have g10 := zz_rg s8
  have g11 := zz_rg s9
  unfold m_X8_blockFrom
  have l12 : (-1 : Int32).toInt = -1 := rfl
  try have f13 := zz_xorF p3 (-1 : Int32) (by omega) (by omega)
  have g14 := zz_rg (p3 ^^^ ((-1 : Int32)))
  try have f15 := zz_andF p2 (p3 ^^^ ((-1 : Int32))) (by omega)
  have g16 := zz_rg (p2 &&& (p3 ^^^ ((-1 : Int32))))
  have l17 : (1 : Int32).toInt = 1 := rfl
  have l18 : (31 : Int32).toInt = 31 := rfl
  try have f19 := zz_andF p1 (31 : Int32) (by omega)
  have g20 := zz_rg (p1 &&& 31)
  have g21 := zz_rg (((1 : Int32)) <<< (p1 &&& 31))
  obtain ⟨k22, f23⟩ := zz_add p1 (1 : Int32)
  have g24 := zz_rg (p1 + ((1 : Int32)))
  refine (wf_X8_blockFrom_L17 K hK T hT n0 n1 n2 n3 K p1 p2 p3 (p2 &&& (p3 ^^^ ((-1 : Int32)))) (((1 : Int32)) <<< (p1 &&& 31)) (p1 + ((1 : Int32))) s0 s1 s2 s3 s4 s5 s6 s7 s8 s9 s10 s11 a0 a1 a2 a3 a4 a5 a6 (by omega) (by omega) rfl (by exact zz_bx_ini (by omega) (by omega) (by omega)) (by omega)).mono (fun z hz => ?_)
  obtain ⟨y25_0, y25_1, y25_2, y25_3, y25_4, y25_5, y25_6, y25_7, y25_8, y25_9, y25_10, y25_11, y25_12⟩ := z
  have q26 : zz_bxe s5.toInt (p2) (p3) (p1) (y25_0) := hz.1
  have q27 : y25_1 = s0 := hz.2.1
  have q28 : y25_2 = s1 := hz.2.2.1
  have q29 : y25_3 = s2 := hz.2.2.2.1
  have q30 : y25_4 = s3 := hz.2.2.2.2.1
  have q31 : y25_5 = s4 := hz.2.2.2.2.2.1
  have q32 : y25_6 = s5 := hz.2.2.2.2.2.2.1
  have q33 : y25_7 = s6 := hz.2.2.2.2.2.2.2.1
  have q34 : y25_8 = s7 := hz.2.2.2.2.2.2.2.2.1
  have q35 : y25_9 = s8 := hz.2.2.2.2.2.2.2.2.2.1
  have q36 : y25_10 = s9 := hz.2.2.2.2.2.2.2.2.2.2.1
  have q37 : y25_11 = s10 := hz.2.2.2.2.2.2.2.2.2.2.2.1
  have q38 : y25_12 = s11 := hz.2.2.2.2.2.2.2.2.2.2.2.2
  clear hz
  have e39 : s0 = y25_1 := q27.symm
  subst e39
  have e40 : s1 = y25_2 := q28.symm
  subst e40
  have e41 : s2 = y25_3 := q29.symm
  subst e41
  have e42 : s3 = y25_4 := q30.symm
  subst e42
  have e43 : s4 = y25_5 := q31.symm
  subst e43
  have e44 : s5 = y25_6 := q32.symm
  subst e44
  have e45 : s6 = y25_7 := q33.symm
  subst e45
  have e46 : s7 = y25_8 := q34.symm
  subst e46
  have e47 : s8 = y25_9 := q35.symm
  subst e47
  have e48 : s9 = y25_10 := q36.symm
  subst e48
  have e49 : s10 = y25_11 := q37.symm
  subst e49
  have e50 : s11 = y25_12 := q38.symm
  subst e50
  have g51 := zz_rg y25_0
  show zz_bxe s5.toInt (p2) (p3) (p1) (y25_0) ∧ s0 = s0 ∧ s1 = s1 ∧ s2 = s2 ∧ s3 = s3 ∧ s4 = s4 ∧ s5 = s5 ∧ s6 = s6 ∧ s7 = s7 ∧ s8 = s8 ∧ s9 = s9 ∧ s10 = s10 ∧ s11 = s11
  exact ⟨q26, rfl, rfl, rfl, rfl, rfl, rfl, rfl, rfl, rfl, rfl, rfl, rfl⟩

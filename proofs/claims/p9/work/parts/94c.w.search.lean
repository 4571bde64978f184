set_option maxHeartbeats 4000000 in
theorem wf_X8_giveAllBack_L3 (K : Nat) (hK : 1099511627776 ≤ K) (T : Nat) (hT : T ≤ 900) (n0 : Nat) (n1 : Nat) (n2 : Nat) (n3 : Nat) : ∀ (k : Nat) (x1 : Int32) (x2 : Int32) (x3 : Int32) (x4 : Int32) (s0 : Int32) (s1 : Int32) (s2 : Int32) (s3 : Int32) (s4 : Int32) (s5 : Int32) (s6 : Nat → Int32) (s7 : Nat → Int32) (s8 : Int32) (s9 : Int32) (s10 : Nat → Int32) (s11 : Nat → Int32), n0 = 20000 → n1 = 32768 → n2 = 14 → n3 = 14 → 1 ≤ s0.toInt → s0.toInt ≤ 900000000 → 0 ≤ s1.toInt → s1.toInt ≤ 20000 → zz_ic s5.toInt s0.toInt s1.toInt (s6) (s7) → zz_e0 s2.toInt s1.toInt (s6) → zz_row 14 (rwW T) (s10) → zz_row 14 (rwW T) (s11) → 0 ≤ s8.toInt → s8.toInt ≤ 14 → 1 ≤ s5.toInt → s5.toInt ≤ 14 → 0 ≤ s2.toInt → s2.toInt ≤ 3 → 1 ≤ s3.toInt → s3.toInt ≤ 4 → 1 ≤ s4.toInt → s4.toInt ≤ 8 → 0 ≤ x4.toInt → x4.toInt ≤ s5.toInt → zz_tbe s5.toInt (x1) (x2) (x3) → (s2.toInt = 1 ∨ x3.toInt = 0) → 15 - x4.toInt < (k : Int) → zz_ok (m_X8_giveAllBack_L3 K n0 n1 n2 n3 k x1 x2 x3 x4 s0 s1 s2 s3 s4 s5 s6 s7 s8 s9 s10 s11) (fun z => zz_go s2.toInt s3.toInt s4.toInt s5.toInt (s6) s1.toInt (z.2.2.2.2.2.2.2.1) z.2.2.1.toInt (zz_rv x1 x2 x3) (s3.toInt + 1 + x4.toInt) (s3.toInt + 1 + s5.toInt) z.1.toInt ∧ 0 ≤ z.1.toInt ∧ z.1.toInt ≤ 2 ∧ s1.toInt ≤ z.2.2.1.toInt ∧ z.2.2.1.toInt ≤ 20000 ∧ zz_ic s5.toInt s0.toInt z.2.2.1.toInt (z.2.2.2.2.2.2.2.1) (z.2.2.2.2.2.2.2.2.1) ∧ zz_e0 s2.toInt z.2.2.1.toInt (z.2.2.2.2.2.2.2.1) ∧ 0 ≤ z.2.2.2.2.2.2.2.2.2.1.toInt ∧ z.2.2.2.2.2.2.2.2.2.1.toInt ≤ 14 ∧ z.2.1 = s0 ∧ z.2.2.2.1 = s2 ∧ z.2.2.2.2.1 = s3 ∧ z.2.2.2.2.2.1 = s4 ∧ z.2.2.2.2.2.2.1 = s5 ∧ zz_row 14 (rwW T) (z.2.2.2.2.2.2.2.2.2.2.2.1) ∧ zz_row 14 (rwW T) (z.2.2.2.2.2.2.2.2.2.2.2.2)) := by
  intro k
  induction k with
  | zero =>
    intro x1 x2 x3 x4 s0 s1 s2 s3 s4 s5 s6 s7 s8 s9 s10 s11 a0 a1 a2 a3 a4 a5 a6 a7 a8 a9 a10 a11 a12 a13 a14 a15 a16 a17 a18 a19 a20 a21 a22 a23 a24 a25 hz9
    exfalso
    have g_x1 := zz_rg x1
    have g_x2 := zz_rg x2
    have g_x3 := zz_rg x3
    have g_x4 := zz_rg x4
    have g_s0 := zz_rg s0
    have g_s1 := zz_rg s1
    have g_s2 := zz_rg s2
    have g_s3 := zz_rg s3
    have g_s4 := zz_rg s4
    have g_s5 := zz_rg s5
    have g_s8 := zz_rg s8
    have g_s9 := zz_rg s9
    omega
  | succ k ih =>
    intro x1 x2 x3 x4 s0 s1 s2 s3 s4 s5 s6 s7 s8 s9 s10 s11 a0 a1 a2 a3 a4 a5 a6 a7 a8 a9 a10 a11 a12 a13 a14 a15 a16 a17 a18 a19 a20 a21 a22 a23 a24 a25 hz9
    rw [m_X8_giveAllBack_L3_s]
    have g1 := zz_rg x1
    have g2 := zz_rg x2
    have g3 := zz_rg x3
    have g4 := zz_rg x4
    have g5 := zz_rg s0
    have g6 := zz_rg s1
    have g7 := zz_rg s2
    have g8 := zz_rg s3
    have g9 := zz_rg s4
    have g10 := zz_rg s5
    have g11 := zz_rg s8
    have g12 := zz_rg s9
    refine zz_ok_ite (fun c13 => ?_) (fun c13 => ?_)
    · have c13 := Int32.le_iff_toInt_le.mp c13
      have l14 : (0 : Int32).toInt = 0 := rfl
      refine zz_ok_some ?_
      show zz_go s2.toInt s3.toInt s4.toInt s5.toInt (s6) s1.toInt (s6) s1.toInt (zz_rv x1 x2 x3) (s3.toInt + 1 + x4.toInt) (s3.toInt + 1 + s5.toInt) (0 : Int32).toInt ∧ 0 ≤ (0 : Int32).toInt ∧ (0 : Int32).toInt ≤ 2 ∧ s1.toInt ≤ s1.toInt ∧ s1.toInt ≤ 20000 ∧ zz_ic s5.toInt s0.toInt s1.toInt (s6) (s7) ∧ zz_e0 s2.toInt s1.toInt (s6) ∧ 0 ≤ s8.toInt ∧ s8.toInt ≤ 14 ∧ s0 = s0 ∧ s2 = s2 ∧ s3 = s3 ∧ s4 = s4 ∧ s5 = s5 ∧ zz_row 14 (rwW T) (s10) ∧ zz_row 14 (rwW T) (s11)
      exact ⟨(by first | exact zz_go_stay (by omega) (by omega) | exact zz_go_full (zz_gb_evt a24 (by omega) (by assumption) (by omega) (by omega) (by omega) (by omega) rfl).2 (by assumption) (by omega) (by omega) (by omega) (by omega) | exact zz_go_come (zz_gb_evt a24 (by omega) (by assumption) (by omega) (by omega) (by omega) (by omega) rfl).2 (by assumption) (by omega) (by assumption) (by omega) (by omega) (by omega) | exact zz_go_skip (zz_gb_none a24 (by omega) (by omega) (by omega) (by omega) (by omega) rfl) (by assumption) (by omega) (by omega) (by omega)), (by omega), (by omega), (by omega), a7, a8, a9, a12, a13, rfl, rfl, rfl, rfl, rfl, a10, a11⟩
    · have c13 := zz_nle c13
      have g16 := zz_rg ((x2.toUInt32 >>> (x4.toUInt32 &&& Int32.toUInt32 31)).toInt32)
      have l17 : (1 : Int32).toInt = 1 := rfl
      try have f18 := zz_andF ((x2.toUInt32 >>> (x4.toUInt32 &&& Int32.toUInt32 31)).toInt32) (1 : Int32) (by omega)
      have g19 := zz_rg (((x2.toUInt32 >>> (x4.toUInt32 &&& Int32.toUInt32 31)).toInt32) &&& ((1 : Int32)))
      refine zz_ok_ite (fun c15 => ?_) (fun c15 => ?_)
      · have c15 := congrArg Int32.toInt c15
        refine zz_ok_bind (wf_X8_blockFrom K hK T hT n0 n1 n2 n3 x4 x1 x2 s0 s1 s2 s3 s4 s5 s6 s7 s8 s9 s10 s11 a0 a1 a2 a3 a14 a15 a22 (by omega)) ?_
        intro z20 hz20
        obtain ⟨r_3, t_3_0, t_3_1, t_3_2, t_3_3, t_3_4, t_3_5, t_3_6, t_3_7, t_3_8, t_3_9, t_3_10, t_3_11⟩ := z20
        have q21 : zz_bxe s5.toInt (x1) (x2) (x4) (r_3) := hz20.1
        have q22 : t_3_0 = s0 := hz20.2.1
        have q23 : t_3_1 = s1 := hz20.2.2.1
        have q24 : t_3_2 = s2 := hz20.2.2.2.1
        have q25 : t_3_3 = s3 := hz20.2.2.2.2.1
        have q26 : t_3_4 = s4 := hz20.2.2.2.2.2.1
        have q27 : t_3_5 = s5 := hz20.2.2.2.2.2.2.1
        have q28 : t_3_6 = s6 := hz20.2.2.2.2.2.2.2.1
        have q29 : t_3_7 = s7 := hz20.2.2.2.2.2.2.2.2.1
        have q30 : t_3_8 = s8 := hz20.2.2.2.2.2.2.2.2.2.1
        have q31 : t_3_9 = s9 := hz20.2.2.2.2.2.2.2.2.2.2.1
        have q32 : t_3_10 = s10 := hz20.2.2.2.2.2.2.2.2.2.2.2.1
        have q33 : t_3_11 = s11 := hz20.2.2.2.2.2.2.2.2.2.2.2.2
        clear hz20
        have e34 : s0 = t_3_0 := q22.symm
        subst e34
        have e35 : s1 = t_3_1 := q23.symm
        subst e35
        have e36 : s2 = t_3_2 := q24.symm
        subst e36
        have e37 : s3 = t_3_3 := q25.symm
        subst e37
        have e38 : s4 = t_3_4 := q26.symm
        subst e38
        have e39 : s5 = t_3_5 := q27.symm
        subst e39
        have e40 : s6 = t_3_6 := q28.symm
        subst e40
        have e41 : s7 = t_3_7 := q29.symm
        subst e41
        have e42 : s8 = t_3_8 := q30.symm
        subst e42
        have e43 : s9 = t_3_9 := q31.symm
        subst e43
        have e44 : s10 = t_3_10 := q32.symm
        subst e44
        have e45 : s11 = t_3_11 := q33.symm
        subst e45
        have g46 := zz_rg r_3
        show zz_ok ((m_X8_meet K n0 n1 n2 n3 (x1 &&& (r_3 ^^^ ((-1 : Int32)))) (x2 &&& ((((1 : Int32)) <<< (x4 &&& 31)) ^^^ ((-1 : Int32)))) x3 s0 s1 s2 s3 s4 s5 s6 s7 s8 s9 s10 s11).bind fun ⟨r_4, t_4_0, t_4_1, t_4_2, t_4_3, t_4_4, t_4_5, t_4_6, t_4_7, t_4_8, t_4_9, t_4_10, t_4_11⟩ => if r_4 = 0 then (some ((2 : Int32), t_4_0, t_4_1, t_4_2, t_4_3, t_4_4, t_4_5, t_4_6, t_4_7, t_4_8, t_4_9, t_4_10, t_4_11)) else (m_X8_giveAllBack_L3 K n0 n1 n2 n3 k x1 x2 x3 (x4 + 1) t_4_0 t_4_1 t_4_2 t_4_3 t_4_4 t_4_5 t_4_6 t_4_7 t_4_8 t_4_9 t_4_10 t_4_11)) _
        have l47 : (-1 : Int32).toInt = -1 := rfl
        try have f48 := zz_xorF r_3 (-1 : Int32) (by omega) (by omega)
        have g49 := zz_rg (r_3 ^^^ ((-1 : Int32)))
        try have f50 := zz_andF x1 (r_3 ^^^ ((-1 : Int32))) (by omega)
        have g51 := zz_rg (x1 &&& (r_3 ^^^ ((-1 : Int32))))
        have l52 : (31 : Int32).toInt = 31 := rfl
        try have f53 := zz_andF x4 (31 : Int32) (by omega)
        have g54 := zz_rg (x4 &&& 31)
        have g55 := zz_rg (((1 : Int32)) <<< (x4 &&& 31))
        try have f56 := zz_xorF (((1 : Int32)) <<< (x4 &&& 31)) (-1 : Int32) (by omega) (by omega)
        have g57 := zz_rg ((((1 : Int32)) <<< (x4 &&& 31)) ^^^ ((-1 : Int32)))
        try have f58 := zz_andF x2 ((((1 : Int32)) <<< (x4 &&& 31)) ^^^ ((-1 : Int32))) (by omega)
        have g59 := zz_rg (x2 &&& ((((1 : Int32)) <<< (x4 &&& 31)) ^^^ ((-1 : Int32))))
        refine zz_ok_bind (wf_X8_meet K hK T hT n0 n1 n2 n3 (x1 &&& (r_3 ^^^ ((-1 : Int32)))) (x2 &&& ((((1 : Int32)) <<< (x4 &&& 31)) ^^^ ((-1 : Int32)))) x3 s0 s1 s2 s3 s4 s5 s6 s7 s8 s9 s10 s11 a0 a1 a2 a3 a4 a5 a6 a7 a8 a9 (by exact (zz_gb_evt (f := 0) (l := 0) (m := s3.toInt) a24 (by omega) (by assumption) (by omega) (by omega) (by omega) (by omega) rfl).1) a25) ?_
        intro z60 hz60
        obtain ⟨r_4, t_4_0, t_4_1, t_4_2, t_4_3, t_4_4, t_4_5, t_4_6, t_4_7, t_4_8, t_4_9, t_4_10, t_4_11⟩ := z60
        have q61 : (r_4.toInt = 0 ∨ r_4.toInt = 1) := hz60.1
        have q62 : s1.toInt ≤ t_4_1.toInt := hz60.2.1
        have q63 : t_4_1.toInt ≤ 20000 := hz60.2.2.1
        have q64 : zz_ic s5.toInt s0.toInt t_4_1.toInt (t_4_6) (t_4_7) := hz60.2.2.2.1
        have q65 : zz_e0 s2.toInt t_4_1.toInt (t_4_6) := hz60.2.2.2.2.1
        have q66 : zz_mt (s6) s1.toInt (t_4_6) t_4_1.toInt (zz_rv (x1 &&& (r_3 ^^^ ((-1 : Int32)))) (x2 &&& ((((1 : Int32)) <<< (x4 &&& 31)) ^^^ ((-1 : Int32)))) x3) r_4.toInt := hz60.2.2.2.2.2.1
        have q67 : t_4_0 = s0 := hz60.2.2.2.2.2.2.1
        have q68 : t_4_2 = s2 := hz60.2.2.2.2.2.2.2.1
        have q69 : t_4_3 = s3 := hz60.2.2.2.2.2.2.2.2.1
        have q70 : t_4_4 = s4 := hz60.2.2.2.2.2.2.2.2.2.1
        have q71 : t_4_5 = s5 := hz60.2.2.2.2.2.2.2.2.2.2.1
        have q72 : t_4_8 = s8 := hz60.2.2.2.2.2.2.2.2.2.2.2.1
        have q73 : t_4_9 = s9 := hz60.2.2.2.2.2.2.2.2.2.2.2.2.1
        have q74 : t_4_10 = s10 := hz60.2.2.2.2.2.2.2.2.2.2.2.2.2.1
        have q75 : t_4_11 = s11 := hz60.2.2.2.2.2.2.2.2.2.2.2.2.2.2
        clear hz60
        have e76 : s0 = t_4_0 := q67.symm
        subst e76
        have e77 : s2 = t_4_2 := q68.symm
        subst e77
        have e78 : s3 = t_4_3 := q69.symm
        subst e78
        have e79 : s4 = t_4_4 := q70.symm
        subst e79
        have e80 : s5 = t_4_5 := q71.symm
        subst e80
        have e81 : s8 = t_4_8 := q72.symm
        subst e81
        have e82 : s9 = t_4_9 := q73.symm
        subst e82
        have e83 : s10 = t_4_10 := q74.symm
        subst e83
        have e84 : s11 = t_4_11 := q75.symm
        subst e84
        have g85 := zz_rg r_4
        have g86 := zz_rg t_4_1
        show zz_ok (if r_4 = 0 then (some ((2 : Int32), s0, t_4_1, s2, s3, s4, s5, t_4_6, t_4_7, s8, s9, s10, s11)) else (m_X8_giveAllBack_L3 K n0 n1 n2 n3 k x1 x2 x3 (x4 + 1) s0 t_4_1 s2 s3 s4 s5 t_4_6 t_4_7 s8 s9 s10 s11)) _
        have l88 : (0 : Int32).toInt = 0 := rfl
        refine zz_ok_ite (fun c87 => ?_) (fun c87 => ?_)
        · have c87 := congrArg Int32.toInt c87
          have l89 : (2 : Int32).toInt = 2 := rfl
          refine zz_ok_some ?_
          show zz_go s2.toInt s3.toInt s4.toInt s5.toInt (s6) s1.toInt (t_4_6) t_4_1.toInt (zz_rv x1 x2 x3) (s3.toInt + 1 + x4.toInt) (s3.toInt + 1 + s5.toInt) (2 : Int32).toInt ∧ 0 ≤ (2 : Int32).toInt ∧ (2 : Int32).toInt ≤ 2 ∧ s1.toInt ≤ t_4_1.toInt ∧ t_4_1.toInt ≤ 20000 ∧ zz_ic s5.toInt s0.toInt t_4_1.toInt (t_4_6) (t_4_7) ∧ zz_e0 s2.toInt t_4_1.toInt (t_4_6) ∧ 0 ≤ s8.toInt ∧ s8.toInt ≤ 14 ∧ s0 = s0 ∧ s2 = s2 ∧ s3 = s3 ∧ s4 = s4 ∧ s5 = s5 ∧ zz_row 14 (rwW T) (s10) ∧ zz_row 14 (rwW T) (s11)
          exact ⟨(by first | exact zz_go_stay (by omega) (by omega) | exact zz_go_full (zz_gb_evt a24 (by omega) (by assumption) (by omega) (by omega) (by omega) (by omega) rfl).2 (by assumption) (by omega) (by omega) (by omega) (by omega) | exact zz_go_come (zz_gb_evt a24 (by omega) (by assumption) (by omega) (by omega) (by omega) (by omega) rfl).2 (by assumption) (by omega) (by assumption) (by omega) (by omega) (by omega) | exact zz_go_skip (zz_gb_none a24 (by omega) (by omega) (by omega) (by omega) (by omega) rfl) (by assumption) (by omega) (by omega) (by omega)), (by omega), (by omega), q62, q63, q64, q65, a12, a13, rfl, rfl, rfl, rfl, rfl, a10, a11⟩
        · have c87 := zz_neq c87
          obtain ⟨k90, f91⟩ := zz_add x4 (1 : Int32)
          have g92 := zz_rg (x4 + 1)
          refine (ih x1 x2 x3 (x4 + 1) s0 t_4_1 s2 s3 s4 s5 t_4_6 t_4_7 s8 s9 s10 s11 a0 a1 a2 a3 a4 a5 (by omega) q63 q64 q65 a10 a11 a12 a13 a14 a15 a16 a17 a18 a19 a20 a21 (by omega) (by omega) a24 a25 (by omega)).mono (fun z hz => ?_)
          obtain ⟨y93_0, y93_1, y93_2, y93_3, y93_4, y93_5, y93_6, y93_7, y93_8, y93_9, y93_10, y93_11, y93_12⟩ := z
          have q94 : zz_go s2.toInt s3.toInt s4.toInt s5.toInt (t_4_6) t_4_1.toInt (y93_7) y93_2.toInt (zz_rv x1 x2 x3) (s3.toInt + 1 + (x4 + 1).toInt) (s3.toInt + 1 + s5.toInt) y93_0.toInt := hz.1
          have q95 : 0 ≤ y93_0.toInt := hz.2.1
          have q96 : y93_0.toInt ≤ 2 := hz.2.2.1
          have q97 : t_4_1.toInt ≤ y93_2.toInt := hz.2.2.2.1
          have q98 : y93_2.toInt ≤ 20000 := hz.2.2.2.2.1
          have q99 : zz_ic s5.toInt s0.toInt y93_2.toInt (y93_7) (y93_8) := hz.2.2.2.2.2.1
          have q100 : zz_e0 s2.toInt y93_2.toInt (y93_7) := hz.2.2.2.2.2.2.1
          have q101 : 0 ≤ y93_9.toInt := hz.2.2.2.2.2.2.2.1
          have q102 : y93_9.toInt ≤ 14 := hz.2.2.2.2.2.2.2.2.1
          have q103 : y93_1 = s0 := hz.2.2.2.2.2.2.2.2.2.1
          have q104 : y93_3 = s2 := hz.2.2.2.2.2.2.2.2.2.2.1
          have q105 : y93_4 = s3 := hz.2.2.2.2.2.2.2.2.2.2.2.1
          have q106 : y93_5 = s4 := hz.2.2.2.2.2.2.2.2.2.2.2.2.1
          have q107 : y93_6 = s5 := hz.2.2.2.2.2.2.2.2.2.2.2.2.2.1
          have q108 : zz_row 14 (rwW T) (y93_11) := hz.2.2.2.2.2.2.2.2.2.2.2.2.2.2.1
          have q109 : zz_row 14 (rwW T) (y93_12) := hz.2.2.2.2.2.2.2.2.2.2.2.2.2.2.2
          clear hz
          have e110 : s0 = y93_1 := q103.symm
          subst e110
          have e111 : s2 = y93_3 := q104.symm
          subst e111
          have e112 : s3 = y93_4 := q105.symm
          subst e112
          have e113 : s4 = y93_5 := q106.symm
          subst e113
          have e114 : s5 = y93_6 := q107.symm
          subst e114
          have g115 := zz_rg y93_0
          have g116 := zz_rg y93_2
          have g117 := zz_rg y93_9
          have g118 := zz_rg y93_10
          show zz_go s2.toInt s3.toInt s4.toInt s5.toInt (s6) s1.toInt (y93_7) y93_2.toInt (zz_rv x1 x2 x3) (s3.toInt + 1 + x4.toInt) (s3.toInt + 1 + s5.toInt) y93_0.toInt ∧ 0 ≤ y93_0.toInt ∧ y93_0.toInt ≤ 2 ∧ s1.toInt ≤ y93_2.toInt ∧ y93_2.toInt ≤ 20000 ∧ zz_ic s5.toInt s0.toInt y93_2.toInt (y93_7) (y93_8) ∧ zz_e0 s2.toInt y93_2.toInt (y93_7) ∧ 0 ≤ y93_9.toInt ∧ y93_9.toInt ≤ 14 ∧ s0 = s0 ∧ s2 = s2 ∧ s3 = s3 ∧ s4 = s4 ∧ s5 = s5 ∧ zz_row 14 (rwW T) (y93_11) ∧ zz_row 14 (rwW T) (y93_12)
          exact ⟨(by first | exact zz_go_stay (by omega) (by omega) | exact zz_go_full (zz_gb_evt a24 (by omega) (by assumption) (by omega) (by omega) (by omega) (by omega) rfl).2 (by assumption) (by omega) (by omega) (by omega) (by omega) | exact zz_go_come (zz_gb_evt a24 (by omega) (by assumption) (by omega) (by omega) (by omega) (by omega) rfl).2 (by assumption) (by omega) (by assumption) (by omega) (by omega) (by omega) | exact zz_go_skip (zz_gb_none a24 (by omega) (by omega) (by omega) (by omega) (by omega) rfl) (by assumption) (by omega) (by omega) (by omega)), q95, q96, (by omega), q98, q99, q100, q101, q102, rfl, rfl, rfl, rfl, rfl, q108, q109⟩
      · have c15 := zz_neq c15
        obtain ⟨k119, f120⟩ := zz_add x4 (1 : Int32)
        have g121 := zz_rg (x4 + 1)
        refine (ih x1 x2 x3 (x4 + 1) s0 s1 s2 s3 s4 s5 s6 s7 s8 s9 s10 s11 a0 a1 a2 a3 a4 a5 a6 a7 a8 a9 a10 a11 a12 a13 a14 a15 a16 a17 a18 a19 a20 a21 (by omega) (by omega) a24 a25 (by omega)).mono (fun z hz => ?_)
        obtain ⟨y122_0, y122_1, y122_2, y122_3, y122_4, y122_5, y122_6, y122_7, y122_8, y122_9, y122_10, y122_11, y122_12⟩ := z
        have q123 : zz_go s2.toInt s3.toInt s4.toInt s5.toInt (s6) s1.toInt (y122_7) y122_2.toInt (zz_rv x1 x2 x3) (s3.toInt + 1 + (x4 + 1).toInt) (s3.toInt + 1 + s5.toInt) y122_0.toInt := hz.1
        have q124 : 0 ≤ y122_0.toInt := hz.2.1
        have q125 : y122_0.toInt ≤ 2 := hz.2.2.1
        have q126 : s1.toInt ≤ y122_2.toInt := hz.2.2.2.1
        have q127 : y122_2.toInt ≤ 20000 := hz.2.2.2.2.1
        have q128 : zz_ic s5.toInt s0.toInt y122_2.toInt (y122_7) (y122_8) := hz.2.2.2.2.2.1
        have q129 : zz_e0 s2.toInt y122_2.toInt (y122_7) := hz.2.2.2.2.2.2.1
        have q130 : 0 ≤ y122_9.toInt := hz.2.2.2.2.2.2.2.1
        have q131 : y122_9.toInt ≤ 14 := hz.2.2.2.2.2.2.2.2.1
        have q132 : y122_1 = s0 := hz.2.2.2.2.2.2.2.2.2.1
        have q133 : y122_3 = s2 := hz.2.2.2.2.2.2.2.2.2.2.1
        have q134 : y122_4 = s3 := hz.2.2.2.2.2.2.2.2.2.2.2.1
        have q135 : y122_5 = s4 := hz.2.2.2.2.2.2.2.2.2.2.2.2.1
        have q136 : y122_6 = s5 := hz.2.2.2.2.2.2.2.2.2.2.2.2.2.1
        have q137 : zz_row 14 (rwW T) (y122_11) := hz.2.2.2.2.2.2.2.2.2.2.2.2.2.2.1
        have q138 : zz_row 14 (rwW T) (y122_12) := hz.2.2.2.2.2.2.2.2.2.2.2.2.2.2.2
        clear hz
        have e139 : s0 = y122_1 := q132.symm
        subst e139
        have e140 : s2 = y122_3 := q133.symm
        subst e140
        have e141 : s3 = y122_4 := q134.symm
        subst e141
        have e142 : s4 = y122_5 := q135.symm
        subst e142
        have e143 : s5 = y122_6 := q136.symm
        subst e143
        have g144 := zz_rg y122_0
        have g145 := zz_rg y122_2
        have g146 := zz_rg y122_9
        have g147 := zz_rg y122_10
        show zz_go s2.toInt s3.toInt s4.toInt s5.toInt (s6) s1.toInt (y122_7) y122_2.toInt (zz_rv x1 x2 x3) (s3.toInt + 1 + x4.toInt) (s3.toInt + 1 + s5.toInt) y122_0.toInt ∧ 0 ≤ y122_0.toInt ∧ y122_0.toInt ≤ 2 ∧ s1.toInt ≤ y122_2.toInt ∧ y122_2.toInt ≤ 20000 ∧ zz_ic s5.toInt s0.toInt y122_2.toInt (y122_7) (y122_8) ∧ zz_e0 s2.toInt y122_2.toInt (y122_7) ∧ 0 ≤ y122_9.toInt ∧ y122_9.toInt ≤ 14 ∧ s0 = s0 ∧ s2 = s2 ∧ s3 = s3 ∧ s4 = s4 ∧ s5 = s5 ∧ zz_row 14 (rwW T) (y122_11) ∧ zz_row 14 (rwW T) (y122_12)
        exact ⟨(by first | exact zz_go_stay (by omega) (by omega) | exact zz_go_full (zz_gb_evt a24 (by omega) (by assumption) (by omega) (by omega) (by omega) (by omega) rfl).2 (by assumption) (by omega) (by omega) (by omega) (by omega) | exact zz_go_come (zz_gb_evt a24 (by omega) (by assumption) (by omega) (by omega) (by omega) (by omega) rfl).2 (by assumption) (by omega) (by assumption) (by omega) (by omega) (by omega) | exact zz_go_skip (zz_gb_none a24 (by omega) (by omega) (by omega) (by omega) (by omega) rfl) (by assumption) (by omega) (by omega) (by omega)), q124, q125, q126, q127, q128, q129, q130, q131, rfl, rfl, rfl, rfl, rfl, q137, q138⟩
set_option maxHeartbeats 4000000 in
theorem wf_X8_giveAllBack (K : Nat) (hK : 1099511627776 ≤ K) (T : Nat) (hT : T ≤ 900) (n0 : Nat) (n1 : Nat) (n2 : Nat) (n3 : Nat) (p1 : Int32) (p2 : Int32) (p3 : Int32) (s0 : Int32) (s1 : Int32) (s2 : Int32) (s3 : Int32) (s4 : Int32) (s5 : Int32) (s6 : Nat → Int32) (s7 : Nat → Int32) (s8 : Int32) (s9 : Int32) (s10 : Nat → Int32) (s11 : Nat → Int32) (a0 : n0 = 20000) (a1 : n1 = 32768) (a2 : n2 = 14) (a3 : n3 = 14) (a4 : 1 ≤ s0.toInt) (a5 : s0.toInt ≤ 900000000) (a6 : 0 ≤ s1.toInt) (a7 : s1.toInt ≤ 20000) (a8 : zz_ic s5.toInt s0.toInt s1.toInt (s6) (s7)) (a9 : zz_e0 s2.toInt s1.toInt (s6)) (a10 : zz_row 14 (rwW T) (s10)) (a11 : zz_row 14 (rwW T) (s11)) (a12 : 0 ≤ s8.toInt) (a13 : s8.toInt ≤ 14) (a14 : 1 ≤ s5.toInt) (a15 : s5.toInt ≤ 14) (a16 : 0 ≤ s2.toInt) (a17 : s2.toInt ≤ 3) (a18 : 1 ≤ s3.toInt) (a19 : s3.toInt ≤ 4) (a20 : 1 ≤ s4.toInt) (a21 : s4.toInt ≤ 8) (a22 : zz_tbe s5.toInt (p1) (p2) (p3)) (a23 : (s2.toInt = 1 ∨ p3.toInt = 0)) : zz_ok (m_X8_giveAllBack K n0 n1 n2 n3 p1 p2 p3 s0 s1 s2 s3 s4 s5 s6 s7 s8 s9 s10 s11) (fun z => zz_go s2.toInt s3.toInt s4.toInt s5.toInt (s6) s1.toInt (z.2.2.2.2.2.2.2.1) z.2.2.1.toInt (zz_rv p1 p2 p3) (s3.toInt + 1) (s3.toInt + 1 + s5.toInt) z.1.toInt ∧ 0 ≤ z.1.toInt ∧ z.1.toInt ≤ 2 ∧ s1.toInt ≤ z.2.2.1.toInt ∧ z.2.2.1.toInt ≤ 20000 ∧ zz_ic s5.toInt s0.toInt z.2.2.1.toInt (z.2.2.2.2.2.2.2.1) (z.2.2.2.2.2.2.2.2.1) ∧ zz_e0 s2.toInt z.2.2.1.toInt (z.2.2.2.2.2.2.2.1) ∧ 0 ≤ z.2.2.2.2.2.2.2.2.2.1.toInt ∧ z.2.2.2.2.2.2.2.2.2.1.toInt ≤ 14 ∧ z.2.1 = s0 ∧ z.2.2.2.1 = s2 ∧ z.2.2.2.2.1 = s3 ∧ z.2.2.2.2.2.1 = s4 ∧ z.2.2.2.2.2.2.1 = s5 ∧ zz_row 14 (rwW T) (z.2.2.2.2.2.2.2.2.2.2.2.1) ∧ zz_row 14 (rwW T) (z.2.2.2.2.2.2.2.2.2.2.2.2)) := by
  have g1 := zz_rg p1
  have g2 := zz_rg p2
  have g3 := zz_rg p3
  have g4 := zz_rg s0
  have g5 := zz_rg s1
  have g6 := zz_rg s2
  have g7 := zz_rg s3
  have g8 := zz_rg s4
  have g9 := zz_rg s5
  have g10 := zz_rg s8
  have g11 := zz_rg s9
  unfold m_X8_giveAllBack
  have l12 : (0 : Int32).toInt = 0 := rfl
  refine (wf_X8_giveAllBack_L3 K hK T hT n0 n1 n2 n3 K p1 p2 p3 ((0 : Int32)) s0 s1 s2 s3 s4 s5 s6 s7 s8 s9 s10 s11 a0 a1 a2 a3 a4 a5 a6 a7 a8 a9 a10 a11 a12 a13 a14 a15 a16 a17 a18 a19 a20 a21 (by omega) (by omega) a22 a23 (by omega)).mono (fun z hz => ?_)
  obtain ⟨y13_0, y13_1, y13_2, y13_3, y13_4, y13_5, y13_6, y13_7, y13_8, y13_9, y13_10, y13_11, y13_12⟩ := z
  have q14 : zz_go s2.toInt s3.toInt s4.toInt s5.toInt (s6) s1.toInt (y13_7) y13_2.toInt (zz_rv p1 p2 p3) (s3.toInt + 1 + ((0 : Int32)).toInt) (s3.toInt + 1 + s5.toInt) y13_0.toInt := hz.1
  have q15 : 0 ≤ y13_0.toInt := hz.2.1
  have q16 : y13_0.toInt ≤ 2 := hz.2.2.1
  have q17 : s1.toInt ≤ y13_2.toInt := hz.2.2.2.1
  have q18 : y13_2.toInt ≤ 20000 := hz.2.2.2.2.1
  have q19 : zz_ic s5.toInt s0.toInt y13_2.toInt (y13_7) (y13_8) := hz.2.2.2.2.2.1
  have q20 : zz_e0 s2.toInt y13_2.toInt (y13_7) := hz.2.2.2.2.2.2.1
  have q21 : 0 ≤ y13_9.toInt := hz.2.2.2.2.2.2.2.1
  have q22 : y13_9.toInt ≤ 14 := hz.2.2.2.2.2.2.2.2.1
  have q23 : y13_1 = s0 := hz.2.2.2.2.2.2.2.2.2.1
  have q24 : y13_3 = s2 := hz.2.2.2.2.2.2.2.2.2.2.1
  have q25 : y13_4 = s3 := hz.2.2.2.2.2.2.2.2.2.2.2.1
  have q26 : y13_5 = s4 := hz.2.2.2.2.2.2.2.2.2.2.2.2.1
  have q27 : y13_6 = s5 := hz.2.2.2.2.2.2.2.2.2.2.2.2.2.1
  have q28 : zz_row 14 (rwW T) (y13_11) := hz.2.2.2.2.2.2.2.2.2.2.2.2.2.2.1
  have q29 : zz_row 14 (rwW T) (y13_12) := hz.2.2.2.2.2.2.2.2.2.2.2.2.2.2.2
  clear hz
  have e30 : s0 = y13_1 := q23.symm
  subst e30
  have e31 : s2 = y13_3 := q24.symm
  subst e31
  have e32 : s3 = y13_4 := q25.symm
  subst e32
  have e33 : s4 = y13_5 := q26.symm
  subst e33
  have e34 : s5 = y13_6 := q27.symm
  subst e34
  have g35 := zz_rg y13_0
  have g36 := zz_rg y13_2
  have g37 := zz_rg y13_9
  have g38 := zz_rg y13_10
  show zz_go s2.toInt s3.toInt s4.toInt s5.toInt (s6) s1.toInt (y13_7) y13_2.toInt (zz_rv p1 p2 p3) (s3.toInt + 1) (s3.toInt + 1 + s5.toInt) y13_0.toInt ∧ 0 ≤ y13_0.toInt ∧ y13_0.toInt ≤ 2 ∧ s1.toInt ≤ y13_2.toInt ∧ y13_2.toInt ≤ 20000 ∧ zz_ic s5.toInt s0.toInt y13_2.toInt (y13_7) (y13_8) ∧ zz_e0 s2.toInt y13_2.toInt (y13_7) ∧ 0 ≤ y13_9.toInt ∧ y13_9.toInt ≤ 14 ∧ s0 = s0 ∧ s2 = s2 ∧ s3 = s3 ∧ s4 = s4 ∧ s5 = s5 ∧ zz_row 14 (rwW T) (y13_11) ∧ zz_row 14 (rwW T) (y13_12)
  exact ⟨(by exact zz_go_ph (by assumption) (by omega) rfl), q15, q16, q17, q18, q19, q20, q21, q22, rfl, rfl, rfl, rfl, rfl, q28, q29⟩
set_option maxHeartbeats 4000000 in
theorem wf_X8_askAll_L26 (K : Nat) (hK : 1099511627776 ≤ K) (T : Nat) (hT : T ≤ 900) (n0 : Nat) (n1 : Nat) (n2 : Nat) (n3 : Nat) : ∀ (k : Nat) (x1 : Int32) (x2 : Int32) (x3 : Int32) (x4 : Int32) (x5 : Int32) (s0 : Int32) (s1 : Int32) (s2 : Int32) (s3 : Int32) (s4 : Int32) (s5 : Int32) (s6 : Nat → Int32) (s7 : Nat → Int32) (s8 : Int32) (s9 : Int32) (s10 : Nat → Int32) (s11 : Nat → Int32), n0 = 20000 → n1 = 32768 → n2 = 14 → n3 = 14 → 1 ≤ s0.toInt → s0.toInt ≤ 900000000 → 0 ≤ s1.toInt → s1.toInt ≤ 20000 → zz_ic s5.toInt s0.toInt s1.toInt (s6) (s7) → zz_e0 s2.toInt s1.toInt (s6) → zz_row 14 (rwW T) (s10) → zz_row 14 (rwW T) (s11) → 0 ≤ s8.toInt → s8.toInt ≤ 14 → 1 ≤ s5.toInt → s5.toInt ≤ 14 → 0 ≤ s2.toInt → s2.toInt ≤ 3 → 1 ≤ s3.toInt → s3.toInt ≤ 4 → 1 ≤ s4.toInt → s4.toInt ≤ 8 → 1 ≤ x5.toInt → x5.toInt ≤ 5 → x4.toInt ≤ s3.toInt → x4.toInt ≤ s4.toInt - (zz_pcn x1.toInt.toNat 14 : Int) → (x4.toInt = s3.toInt ∨ x4.toInt = s4.toInt - (zz_pcn x1.toInt.toNat 14 : Int)) → zz_tbe s5.toInt (x1) (x2) (x3) → (s2.toInt = 1 ∨ x3.toInt = 0) → (x5.toInt ≤ x4.toInt + 1 ∨ x5.toInt = 1) → zz_rub s5.toInt (x1) (s10) (s11) s8.toInt → 6 - x5.toInt < (k : Int) → zz_ok (m_X8_askAll_L26 K n0 n1 n2 n3 k x1 x2 x3 x4 x5 s0 s1 s2 s3 s4 s5 s6 s7 s8 s9 s10 s11) (fun z => zz_go s2.toInt s3.toInt s4.toInt s5.toInt (s6) s1.toInt (z.2.2.2.2.2.2.2.1) z.2.2.1.toInt (zz_rv x1 x2 x3) x5.toInt (s3.toInt + 1) z.1.toInt ∧ 0 ≤ z.1.toInt ∧ z.1.toInt ≤ 2 ∧ s1.toInt ≤ z.2.2.1.toInt ∧ z.2.2.1.toInt ≤ 20000 ∧ zz_ic s5.toInt s0.toInt z.2.2.1.toInt (z.2.2.2.2.2.2.2.1) (z.2.2.2.2.2.2.2.2.1) ∧ zz_e0 s2.toInt z.2.2.1.toInt (z.2.2.2.2.2.2.2.1) ∧ 0 ≤ z.2.2.2.2.2.2.2.2.2.1.toInt ∧ z.2.2.2.2.2.2.2.2.2.1.toInt ≤ 14 ∧ z.2.1 = s0 ∧ z.2.2.2.1 = s2 ∧ z.2.2.2.2.1 = s3 ∧ z.2.2.2.2.2.1 = s4 ∧ z.2.2.2.2.2.2.1 = s5 ∧ zz_row 14 (rwW T) (z.2.2.2.2.2.2.2.2.2.2.2.1) ∧ zz_row 14 (rwW T) (z.2.2.2.2.2.2.2.2.2.2.2.2)) := by
  intro k
  induction k with
  | zero =>
    intro x1 x2 x3 x4 x5 s0 s1 s2 s3 s4 s5 s6 s7 s8 s9 s10 s11 a0 a1 a2 a3 a4 a5 a6 a7 a8 a9 a10 a11 a12 a13 a14 a15 a16 a17 a18 a19 a20 a21 a22 a23 a24 a25 a26 a27 a28 a29 a30 hz9
    exfalso
    have g_x1 := zz_rg x1
    have g_x2 := zz_rg x2
    have g_x3 := zz_rg x3
    have g_x4 := zz_rg x4
    have g_x5 := zz_rg x5
    have g_s0 := zz_rg s0
    have g_s1 := zz_rg s1
    have g_s2 := zz_rg s2
    have g_s3 := zz_rg s3
    have g_s4 := zz_rg s4
    have g_s5 := zz_rg s5
    have g_s8 := zz_rg s8
    have g_s9 := zz_rg s9
    omega
  | succ k ih =>
    intro x1 x2 x3 x4 x5 s0 s1 s2 s3 s4 s5 s6 s7 s8 s9 s10 s11 a0 a1 a2 a3 a4 a5 a6 a7 a8 a9 a10 a11 a12 a13 a14 a15 a16 a17 a18 a19 a20 a21 a22 a23 a24 a25 a26 a27 a28 a29 a30 hz9
    rw [m_X8_askAll_L26_s]
    have g1 := zz_rg x1
    have g2 := zz_rg x2
    have g3 := zz_rg x3
    have g4 := zz_rg x4
    have g5 := zz_rg x5
    have g6 := zz_rg s0
    have g7 := zz_rg s1
    have g8 := zz_rg s2
    have g9 := zz_rg s3
    have g10 := zz_rg s4
    have g11 := zz_rg s5
    have g12 := zz_rg s8
    have g13 := zz_rg s9
    have te9 := a27.2.2.2.2.1
    have te8 := a27.2.2.2.2.2.1
    refine zz_ok_ite (fun c14 => ?_) (fun c14 => ?_)
    · have c14 := Int32.lt_iff_toInt_lt.mp c14
      have l15 : (0 : Int32).toInt = 0 := rfl
      refine zz_ok_some ?_
      show zz_go s2.toInt s3.toInt s4.toInt s5.toInt (s6) s1.toInt (s6) s1.toInt (zz_rv x1 x2 x3) x5.toInt (s3.toInt + 1) (0 : Int32).toInt ∧ 0 ≤ (0 : Int32).toInt ∧ (0 : Int32).toInt ≤ 2 ∧ s1.toInt ≤ s1.toInt ∧ s1.toInt ≤ 20000 ∧ zz_ic s5.toInt s0.toInt s1.toInt (s6) (s7) ∧ zz_e0 s2.toInt s1.toInt (s6) ∧ 0 ≤ s8.toInt ∧ s8.toInt ≤ 14 ∧ s0 = s0 ∧ s2 = s2 ∧ s3 = s3 ∧ s4 = s4 ∧ s5 = s5 ∧ zz_row 14 (rwW T) (s10) ∧ zz_row 14 (rwW T) (s11)
      exact ⟨(by first | exact zz_ga_rest a27 (by omega) (by omega) (by omega) (by omega) (by omega) (by omega) | exact zz_go_fail (zz_ga_none a27 (by assumption) (by assumption) (by omega) (by omega) (by omega) (by omega) (by omega) (by omega)) (by omega) (by omega) (by omega) | exact zz_go_full (zz_ga_evt (E' := (r_4 + x5)) a27 (by assumption) (by assumption) (by omega) (by omega) (by omega) (by omega) (by omega) (by omega) (by omega) (by omega) (by omega) (by first | exact Or.inl ⟨by omega, by omega⟩ | exact Or.inr ⟨by omega, by omega⟩)) (by assumption) (by omega) (by omega) (by omega) (by omega) | exact zz_go_full (zz_ga_evt (E' := ((0 : Int32))) a27 (by assumption) (by assumption) (by omega) (by omega) (by omega) (by omega) (by omega) (by omega) (by omega) (by omega) (by omega) (by first | exact Or.inl ⟨by omega, by omega⟩ | exact Or.inr ⟨by omega, by omega⟩)) (by assumption) (by omega) (by omega) (by omega) (by omega) | exact zz_go_come (zz_ga_evt (E' := (r_4 + x5)) a27 (by assumption) (by assumption) (by omega) (by omega) (by omega) (by omega) (by omega) (by omega) (by omega) (by omega) (by omega) (by first | exact Or.inl ⟨by omega, by omega⟩ | exact Or.inr ⟨by omega, by omega⟩)) (by assumption) (by omega) (by assumption) (by omega) (by omega) (by omega) | exact zz_go_come (zz_ga_evt (E' := ((0 : Int32))) a27 (by assumption) (by assumption) (by omega) (by omega) (by omega) (by omega) (by omega) (by omega) (by omega) (by omega) (by omega) (by first | exact Or.inl ⟨by omega, by omega⟩ | exact Or.inr ⟨by omega, by omega⟩)) (by assumption) (by omega) (by assumption) (by omega) (by omega) (by omega)), (by omega), (by omega), (by omega), a7, a8, a9, a12, a13, rfl, rfl, rfl, rfl, rfl, a10, a11⟩
    · have c14 := zz_nlt c14
      refine zz_ok_bind (wf_X10_find K hK T hT n2 n3 s2 x5 x3 s8 s9 s10 s11 a2 a3 a10 a11 a12 a13 a16 a17 a22 (by omega) (by omega) (by omega)) ?_
      intro z16 hz16
      obtain ⟨r_4, t_4_0, t_4_1, t_4_2, t_4_3⟩ := z16
      have q17 : zz_q s2.toInt (s10) (s11) s8.toInt x3.toInt x5.toInt r_4.toInt := hz16.1
      have q18 : -1 ≤ r_4.toInt := hz16.2.1
      have q19 : r_4.toInt ≤ 15 := hz16.2.2.1
      have q20 : t_4_0 = s8 := hz16.2.2.2.1
      have q21 : t_4_2 = s10 := hz16.2.2.2.2.1
      have q22 : t_4_3 = s11 := hz16.2.2.2.2.2
      clear hz16
      have e23 : s8 = t_4_0 := q20.symm
      subst e23
      have e24 : s10 = t_4_2 := q21.symm
      subst e24
      have e25 : s11 = t_4_3 := q22.symm
      subst e25
      have g26 := zz_rg r_4
      have g27 := zz_rg t_4_1
      have p9 : r_4.toInt < 0 ∨ r_4.toInt + x5.toInt ≤ s5.toInt := (Int.lt_or_le r_4.toInt 0).imp id (fun c9 => zz_ga_p a27 (by assumption) (by assumption) (by omega) (by omega) (by omega) (by omega))
      show zz_ok (if r_4 = ((-1 : Int32)) then (some ((1 : Int32), s0, s1, s2, s3, s4, s5, s6, s7, s8, t_4_1, s10, s11)) else (if s2 = ((1 : Int32)) then ((m_X8_meet K n0 n1 n2 n3 (x1 ||| (((((1 : Int32)) <<< (x5 &&& 31)) - ((1 : Int32))) <<< (r_4 &&& 31))) (x2 ||| (((1 : Int32)) <<< (r_4 &&& 31))) (r_4 + x5) s0 s1 s2 s3 s4 s5 s6 s7 s8 t_4_1 s10 s11).bind fun ⟨r_9, t_9_0, t_9_1, t_9_2, t_9_3, t_9_4, t_9_5, t_9_6, t_9_7, t_9_8, t_9_9, t_9_10, t_9_11⟩ => if r_9 = 0 then (some ((2 : Int32), t_9_0, t_9_1, t_9_2, t_9_3, t_9_4, t_9_5, t_9_6, t_9_7, t_9_8, t_9_9, t_9_10, t_9_11)) else (m_X8_askAll_L26 K n0 n1 n2 n3 k x1 x2 x3 x4 (x5 + 1) t_9_0 t_9_1 t_9_2 t_9_3 t_9_4 t_9_5 t_9_6 t_9_7 t_9_8 t_9_9 t_9_10 t_9_11)) else ((m_X8_meet K n0 n1 n2 n3 (x1 ||| (((((1 : Int32)) <<< (x5 &&& 31)) - ((1 : Int32))) <<< (r_4 &&& 31))) (x2 ||| (((1 : Int32)) <<< (r_4 &&& 31))) ((0 : Int32)) s0 s1 s2 s3 s4 s5 s6 s7 s8 t_4_1 s10 s11).bind fun ⟨r_7, t_7_0, t_7_1, t_7_2, t_7_3, t_7_4, t_7_5, t_7_6, t_7_7, t_7_8, t_7_9, t_7_10, t_7_11⟩ => if r_7 = 0 then (some ((2 : Int32), t_7_0, t_7_1, t_7_2, t_7_3, t_7_4, t_7_5, t_7_6, t_7_7, t_7_8, t_7_9, t_7_10, t_7_11)) else (m_X8_askAll_L26 K n0 n1 n2 n3 k x1 x2 x3 x4 (x5 + 1) t_7_0 t_7_1 t_7_2 t_7_3 t_7_4 t_7_5 t_7_6 t_7_7 t_7_8 t_7_9 t_7_10 t_7_11)))) _
      have l29 : (-1 : Int32).toInt = -1 := rfl
      refine zz_ok_ite (fun c28 => ?_) (fun c28 => ?_)
      · have c28 := congrArg Int32.toInt c28
        have l30 : (1 : Int32).toInt = 1 := rfl
        refine zz_ok_some ?_
        show zz_go s2.toInt s3.toInt s4.toInt s5.toInt (s6) s1.toInt (s6) s1.toInt (zz_rv x1 x2 x3) x5.toInt (s3.toInt + 1) (1 : Int32).toInt ∧ 0 ≤ (1 : Int32).toInt ∧ (1 : Int32).toInt ≤ 2 ∧ s1.toInt ≤ s1.toInt ∧ s1.toInt ≤ 20000 ∧ zz_ic s5.toInt s0.toInt s1.toInt (s6) (s7) ∧ zz_e0 s2.toInt s1.toInt (s6) ∧ 0 ≤ s8.toInt ∧ s8.toInt ≤ 14 ∧ s0 = s0 ∧ s2 = s2 ∧ s3 = s3 ∧ s4 = s4 ∧ s5 = s5 ∧ zz_row 14 (rwW T) (s10) ∧ zz_row 14 (rwW T) (s11)
        exact ⟨(by first | exact zz_ga_rest a27 (by omega) (by omega) (by omega) (by omega) (by omega) (by omega) | exact zz_go_fail (zz_ga_none a27 (by assumption) (by assumption) (by omega) (by omega) (by omega) (by omega) (by omega) (by omega)) (by omega) (by omega) (by omega) | exact zz_go_full (zz_ga_evt (E' := (r_4 + x5)) a27 (by assumption) (by assumption) (by omega) (by omega) (by omega) (by omega) (by omega) (by omega) (by omega) (by omega) (by omega) (by first | exact Or.inl ⟨by omega, by omega⟩ | exact Or.inr ⟨by omega, by omega⟩)) (by assumption) (by omega) (by omega) (by omega) (by omega) | exact zz_go_full (zz_ga_evt (E' := ((0 : Int32))) a27 (by assumption) (by assumption) (by omega) (by omega) (by omega) (by omega) (by omega) (by omega) (by omega) (by omega) (by omega) (by first | exact Or.inl ⟨by omega, by omega⟩ | exact Or.inr ⟨by omega, by omega⟩)) (by assumption) (by omega) (by omega) (by omega) (by omega) | exact zz_go_come (zz_ga_evt (E' := (r_4 + x5)) a27 (by assumption) (by assumption) (by omega) (by omega) (by omega) (by omega) (by omega) (by omega) (by omega) (by omega) (by omega) (by first | exact Or.inl ⟨by omega, by omega⟩ | exact Or.inr ⟨by omega, by omega⟩)) (by assumption) (by omega) (by assumption) (by omega) (by omega) (by omega) | exact zz_go_come (zz_ga_evt (E' := ((0 : Int32))) a27 (by assumption) (by assumption) (by omega) (by omega) (by omega) (by omega) (by omega) (by omega) (by omega) (by omega) (by omega) (by first | exact Or.inl ⟨by omega, by omega⟩ | exact Or.inr ⟨by omega, by omega⟩)) (by assumption) (by omega) (by assumption) (by omega) (by omega) (by omega)), (by omega), (by omega), (by omega), a7, a8, a9, a12, a13, rfl, rfl, rfl, rfl, rfl, a10, a11⟩
      · have c28 := zz_neq c28
        have l32 : (1 : Int32).toInt = 1 := rfl
        refine zz_ok_ite (fun c31 => ?_) (fun c31 => ?_)
        · have c31 := congrArg Int32.toInt c31
          have l33 : (31 : Int32).toInt = 31 := rfl
          try have f34 := zz_andF x5 (31 : Int32) (by omega)
          have g35 := zz_rg (x5 &&& 31)
          have g36 := zz_rg (((1 : Int32)) <<< (x5 &&& 31))
          obtain ⟨k37, f38⟩ := zz_sub (((1 : Int32)) <<< (x5 &&& 31)) (1 : Int32)
          have g39 := zz_rg ((((1 : Int32)) <<< (x5 &&& 31)) - ((1 : Int32)))
          try have f40 := zz_andF r_4 (31 : Int32) (by omega)
          have g41 := zz_rg (r_4 &&& 31)
          have g42 := zz_rg (((((1 : Int32)) <<< (x5 &&& 31)) - ((1 : Int32))) <<< (r_4 &&& 31))
          have g43 := zz_rg (x1 ||| (((((1 : Int32)) <<< (x5 &&& 31)) - ((1 : Int32))) <<< (r_4 &&& 31)))
          have g44 := zz_rg (((1 : Int32)) <<< (r_4 &&& 31))
          have g45 := zz_rg (x2 ||| (((1 : Int32)) <<< (r_4 &&& 31)))
          obtain ⟨k46, f47⟩ := zz_add r_4 x5
          have g48 := zz_rg (r_4 + x5)
          refine zz_ok_bind (wf_X8_meet K hK T hT n0 n1 n2 n3 (x1 ||| (((((1 : Int32)) <<< (x5 &&& 31)) - ((1 : Int32))) <<< (r_4 &&& 31))) (x2 ||| (((1 : Int32)) <<< (r_4 &&& 31))) (r_4 + x5) s0 s1 s2 s3 s4 s5 s6 s7 s8 t_4_1 s10 s11 a0 a1 a2 a3 a4 a5 a6 a7 a8 a9 (by exact (zz_ga_tbe (E' := (r_4 + x5)) a27 (by assumption) (by assumption) (by omega) (by omega) (by omega) (by omega) (by omega) (by omega) (by omega)).1) (by omega)) ?_
          intro z49 hz49
          obtain ⟨r_9, t_9_0, t_9_1, t_9_2, t_9_3, t_9_4, t_9_5, t_9_6, t_9_7, t_9_8, t_9_9, t_9_10, t_9_11⟩ := z49
          have q50 : (r_9.toInt = 0 ∨ r_9.toInt = 1) := hz49.1
          have q51 : s1.toInt ≤ t_9_1.toInt := hz49.2.1
          have q52 : t_9_1.toInt ≤ 20000 := hz49.2.2.1
          have q53 : zz_ic s5.toInt s0.toInt t_9_1.toInt (t_9_6) (t_9_7) := hz49.2.2.2.1
          have q54 : zz_e0 s2.toInt t_9_1.toInt (t_9_6) := hz49.2.2.2.2.1
          have q55 : zz_mt (s6) s1.toInt (t_9_6) t_9_1.toInt (zz_rv (x1 ||| (((((1 : Int32)) <<< (x5 &&& 31)) - ((1 : Int32))) <<< (r_4 &&& 31))) (x2 ||| (((1 : Int32)) <<< (r_4 &&& 31))) (r_4 + x5)) r_9.toInt := hz49.2.2.2.2.2.1
          have q56 : t_9_0 = s0 := hz49.2.2.2.2.2.2.1
          have q57 : t_9_2 = s2 := hz49.2.2.2.2.2.2.2.1
          have q58 : t_9_3 = s3 := hz49.2.2.2.2.2.2.2.2.1
          have q59 : t_9_4 = s4 := hz49.2.2.2.2.2.2.2.2.2.1
          have q60 : t_9_5 = s5 := hz49.2.2.2.2.2.2.2.2.2.2.1
          have q61 : t_9_8 = s8 := hz49.2.2.2.2.2.2.2.2.2.2.2.1
          have q62 : t_9_9 = t_4_1 := hz49.2.2.2.2.2.2.2.2.2.2.2.2.1
          have q63 : t_9_10 = s10 := hz49.2.2.2.2.2.2.2.2.2.2.2.2.2.1
          have q64 : t_9_11 = s11 := hz49.2.2.2.2.2.2.2.2.2.2.2.2.2.2
          clear hz49
          have e65 : s0 = t_9_0 := q56.symm
          subst e65
          have e66 : s2 = t_9_2 := q57.symm
          subst e66
          have e67 : s3 = t_9_3 := q58.symm
          subst e67
          have e68 : s4 = t_9_4 := q59.symm
          subst e68
          have e69 : s5 = t_9_5 := q60.symm
          subst e69
          have e70 : s8 = t_9_8 := q61.symm
          subst e70
          have e71 : t_4_1 = t_9_9 := q62.symm
          subst e71
          have e72 : s10 = t_9_10 := q63.symm
          subst e72
          have e73 : s11 = t_9_11 := q64.symm
          subst e73
          have g74 := zz_rg r_9
          have g75 := zz_rg t_9_1
          show zz_ok (if r_9 = 0 then (some ((2 : Int32), s0, t_9_1, s2, s3, s4, s5, t_9_6, t_9_7, s8, t_4_1, s10, s11)) else (m_X8_askAll_L26 K n0 n1 n2 n3 k x1 x2 x3 x4 (x5 + 1) s0 t_9_1 s2 s3 s4 s5 t_9_6 t_9_7 s8 t_4_1 s10 s11)) _
          have l77 : (0 : Int32).toInt = 0 := rfl
          refine zz_ok_ite (fun c76 => ?_) (fun c76 => ?_)
          · have c76 := congrArg Int32.toInt c76
            have l78 : (2 : Int32).toInt = 2 := rfl
            refine zz_ok_some ?_
            show zz_go s2.toInt s3.toInt s4.toInt s5.toInt (s6) s1.toInt (t_9_6) t_9_1.toInt (zz_rv x1 x2 x3) x5.toInt (s3.toInt + 1) (2 : Int32).toInt ∧ 0 ≤ (2 : Int32).toInt ∧ (2 : Int32).toInt ≤ 2 ∧ s1.toInt ≤ t_9_1.toInt ∧ t_9_1.toInt ≤ 20000 ∧ zz_ic s5.toInt s0.toInt t_9_1.toInt (t_9_6) (t_9_7) ∧ zz_e0 s2.toInt t_9_1.toInt (t_9_6) ∧ 0 ≤ s8.toInt ∧ s8.toInt ≤ 14 ∧ s0 = s0 ∧ s2 = s2 ∧ s3 = s3 ∧ s4 = s4 ∧ s5 = s5 ∧ zz_row 14 (rwW T) (s10) ∧ zz_row 14 (rwW T) (s11)
            exact ⟨(by first | exact zz_ga_rest a27 (by omega) (by omega) (by omega) (by omega) (by omega) (by omega) | exact zz_go_fail (zz_ga_none a27 (by assumption) (by assumption) (by omega) (by omega) (by omega) (by omega) (by omega) (by omega)) (by omega) (by omega) (by omega) | exact zz_go_full (zz_ga_evt (E' := (r_4 + x5)) a27 (by assumption) (by assumption) (by omega) (by omega) (by omega) (by omega) (by omega) (by omega) (by omega) (by omega) (by omega) (by first | exact Or.inl ⟨by omega, by omega⟩ | exact Or.inr ⟨by omega, by omega⟩)) (by assumption) (by omega) (by omega) (by omega) (by omega) | exact zz_go_full (zz_ga_evt (E' := ((0 : Int32))) a27 (by assumption) (by assumption) (by omega) (by omega) (by omega) (by omega) (by omega) (by omega) (by omega) (by omega) (by omega) (by first | exact Or.inl ⟨by omega, by omega⟩ | exact Or.inr ⟨by omega, by omega⟩)) (by assumption) (by omega) (by omega) (by omega) (by omega) | exact zz_go_come (zz_ga_evt (E' := (r_4 + x5)) a27 (by assumption) (by assumption) (by omega) (by omega) (by omega) (by omega) (by omega) (by omega) (by omega) (by omega) (by omega) (by first | exact Or.inl ⟨by omega, by omega⟩ | exact Or.inr ⟨by omega, by omega⟩)) (by assumption) (by omega) (by assumption) (by omega) (by omega) (by omega) | exact zz_go_come (zz_ga_evt (E' := ((0 : Int32))) a27 (by assumption) (by assumption) (by omega) (by omega) (by omega) (by omega) (by omega) (by omega) (by omega) (by omega) (by omega) (by first | exact Or.inl ⟨by omega, by omega⟩ | exact Or.inr ⟨by omega, by omega⟩)) (by assumption) (by omega) (by assumption) (by omega) (by omega) (by omega)), (by omega), (by omega), q51, q52, q53, q54, a12, a13, rfl, rfl, rfl, rfl, rfl, a10, a11⟩
          · have c76 := zz_neq c76
            obtain ⟨k79, f80⟩ := zz_add x5 (1 : Int32)
            have g81 := zz_rg (x5 + 1)
            refine (ih x1 x2 x3 x4 (x5 + 1) s0 t_9_1 s2 s3 s4 s5 t_9_6 t_9_7 s8 t_4_1 s10 s11 a0 a1 a2 a3 a4 a5 (by omega) q52 q53 q54 a10 a11 a12 a13 a14 a15 a16 a17 a18 a19 a20 a21 (by omega) (by omega) a24 a25 a26 a27 a28 (by omega) a30 (by omega)).mono (fun z hz => ?_)
            obtain ⟨y82_0, y82_1, y82_2, y82_3, y82_4, y82_5, y82_6, y82_7, y82_8, y82_9, y82_10, y82_11, y82_12⟩ := z
            have q83 : zz_go s2.toInt s3.toInt s4.toInt s5.toInt (t_9_6) t_9_1.toInt (y82_7) y82_2.toInt (zz_rv x1 x2 x3) (x5 + 1).toInt (s3.toInt + 1) y82_0.toInt := hz.1
            have q84 : 0 ≤ y82_0.toInt := hz.2.1
            have q85 : y82_0.toInt ≤ 2 := hz.2.2.1
            have q86 : t_9_1.toInt ≤ y82_2.toInt := hz.2.2.2.1
            have q87 : y82_2.toInt ≤ 20000 := hz.2.2.2.2.1
            have q88 : zz_ic s5.toInt s0.toInt y82_2.toInt (y82_7) (y82_8) := hz.2.2.2.2.2.1
            have q89 : zz_e0 s2.toInt y82_2.toInt (y82_7) := hz.2.2.2.2.2.2.1
            have q90 : 0 ≤ y82_9.toInt := hz.2.2.2.2.2.2.2.1
            have q91 : y82_9.toInt ≤ 14 := hz.2.2.2.2.2.2.2.2.1
            have q92 : y82_1 = s0 := hz.2.2.2.2.2.2.2.2.2.1
            have q93 : y82_3 = s2 := hz.2.2.2.2.2.2.2.2.2.2.1
            have q94 : y82_4 = s3 := hz.2.2.2.2.2.2.2.2.2.2.2.1
            have q95 : y82_5 = s4 := hz.2.2.2.2.2.2.2.2.2.2.2.2.1
            have q96 : y82_6 = s5 := hz.2.2.2.2.2.2.2.2.2.2.2.2.2.1
            have q97 : zz_row 14 (rwW T) (y82_11) := hz.2.2.2.2.2.2.2.2.2.2.2.2.2.2.1
            have q98 : zz_row 14 (rwW T) (y82_12) := hz.2.2.2.2.2.2.2.2.2.2.2.2.2.2.2
            clear hz
            have e99 : s0 = y82_1 := q92.symm
            subst e99
            have e100 : s2 = y82_3 := q93.symm
            subst e100
            have e101 : s3 = y82_4 := q94.symm
            subst e101
            have e102 : s4 = y82_5 := q95.symm
            subst e102
            have e103 : s5 = y82_6 := q96.symm
            subst e103
            have g104 := zz_rg y82_0
            have g105 := zz_rg y82_2
            have g106 := zz_rg y82_9
            have g107 := zz_rg y82_10
            show zz_go s2.toInt s3.toInt s4.toInt s5.toInt (s6) s1.toInt (y82_7) y82_2.toInt (zz_rv x1 x2 x3) x5.toInt (s3.toInt + 1) y82_0.toInt ∧ 0 ≤ y82_0.toInt ∧ y82_0.toInt ≤ 2 ∧ s1.toInt ≤ y82_2.toInt ∧ y82_2.toInt ≤ 20000 ∧ zz_ic s5.toInt s0.toInt y82_2.toInt (y82_7) (y82_8) ∧ zz_e0 s2.toInt y82_2.toInt (y82_7) ∧ 0 ≤ y82_9.toInt ∧ y82_9.toInt ≤ 14 ∧ s0 = s0 ∧ s2 = s2 ∧ s3 = s3 ∧ s4 = s4 ∧ s5 = s5 ∧ zz_row 14 (rwW T) (y82_11) ∧ zz_row 14 (rwW T) (y82_12)
            exact ⟨(by first | exact zz_ga_rest a27 (by omega) (by omega) (by omega) (by omega) (by omega) (by omega) | exact zz_go_fail (zz_ga_none a27 (by assumption) (by assumption) (by omega) (by omega) (by omega) (by omega) (by omega) (by omega)) (by omega) (by omega) (by omega) | exact zz_go_full (zz_ga_evt (E' := (r_4 + x5)) a27 (by assumption) (by assumption) (by omega) (by omega) (by omega) (by omega) (by omega) (by omega) (by omega) (by omega) (by omega) (by first | exact Or.inl ⟨by omega, by omega⟩ | exact Or.inr ⟨by omega, by omega⟩)) (by assumption) (by omega) (by omega) (by omega) (by omega) | exact zz_go_full (zz_ga_evt (E' := ((0 : Int32))) a27 (by assumption) (by assumption) (by omega) (by omega) (by omega) (by omega) (by omega) (by omega) (by omega) (by omega) (by omega) (by first | exact Or.inl ⟨by omega, by omega⟩ | exact Or.inr ⟨by omega, by omega⟩)) (by assumption) (by omega) (by omega) (by omega) (by omega) | exact zz_go_come (zz_ga_evt (E' := (r_4 + x5)) a27 (by assumption) (by assumption) (by omega) (by omega) (by omega) (by omega) (by omega) (by omega) (by omega) (by omega) (by omega) (by first | exact Or.inl ⟨by omega, by omega⟩ | exact Or.inr ⟨by omega, by omega⟩)) (by assumption) (by omega) (by assumption) (by omega) (by omega) (by omega) | exact zz_go_come (zz_ga_evt (E' := ((0 : Int32))) a27 (by assumption) (by assumption) (by omega) (by omega) (by omega) (by omega) (by omega) (by omega) (by omega) (by omega) (by omega) (by first | exact Or.inl ⟨by omega, by omega⟩ | exact Or.inr ⟨by omega, by omega⟩)) (by assumption) (by omega) (by assumption) (by omega) (by omega) (by omega)), q84, q85, (by omega), q87, q88, q89, q90, q91, rfl, rfl, rfl, rfl, rfl, q97, q98⟩
        · have c31 := zz_neq c31
          have l108 : (31 : Int32).toInt = 31 := rfl
          try have f109 := zz_andF x5 (31 : Int32) (by omega)
          have g110 := zz_rg (x5 &&& 31)
          have g111 := zz_rg (((1 : Int32)) <<< (x5 &&& 31))
          obtain ⟨k112, f113⟩ := zz_sub (((1 : Int32)) <<< (x5 &&& 31)) (1 : Int32)
          have g114 := zz_rg ((((1 : Int32)) <<< (x5 &&& 31)) - ((1 : Int32)))
          try have f115 := zz_andF r_4 (31 : Int32) (by omega)
          have g116 := zz_rg (r_4 &&& 31)
          have g117 := zz_rg (((((1 : Int32)) <<< (x5 &&& 31)) - ((1 : Int32))) <<< (r_4 &&& 31))
          have g118 := zz_rg (x1 ||| (((((1 : Int32)) <<< (x5 &&& 31)) - ((1 : Int32))) <<< (r_4 &&& 31)))
          have g119 := zz_rg (((1 : Int32)) <<< (r_4 &&& 31))
          have g120 := zz_rg (x2 ||| (((1 : Int32)) <<< (r_4 &&& 31)))
          have l121 : (0 : Int32).toInt = 0 := rfl
          refine zz_ok_bind (wf_X8_meet K hK T hT n0 n1 n2 n3 (x1 ||| (((((1 : Int32)) <<< (x5 &&& 31)) - ((1 : Int32))) <<< (r_4 &&& 31))) (x2 ||| (((1 : Int32)) <<< (r_4 &&& 31))) ((0 : Int32)) s0 s1 s2 s3 s4 s5 s6 s7 s8 t_4_1 s10 s11 a0 a1 a2 a3 a4 a5 a6 a7 a8 a9 (by exact (zz_ga_tbe (E' := ((0 : Int32))) a27 (by assumption) (by assumption) (by omega) (by omega) (by omega) (by omega) (by omega) (by omega) (by omega)).1) (by omega)) ?_
          intro z122 hz122
          obtain ⟨r_7, t_7_0, t_7_1, t_7_2, t_7_3, t_7_4, t_7_5, t_7_6, t_7_7, t_7_8, t_7_9, t_7_10, t_7_11⟩ := z122
          have q123 : (r_7.toInt = 0 ∨ r_7.toInt = 1) := hz122.1
          have q124 : s1.toInt ≤ t_7_1.toInt := hz122.2.1
          have q125 : t_7_1.toInt ≤ 20000 := hz122.2.2.1
          have q126 : zz_ic s5.toInt s0.toInt t_7_1.toInt (t_7_6) (t_7_7) := hz122.2.2.2.1
          have q127 : zz_e0 s2.toInt t_7_1.toInt (t_7_6) := hz122.2.2.2.2.1
          have q128 : zz_mt (s6) s1.toInt (t_7_6) t_7_1.toInt (zz_rv (x1 ||| (((((1 : Int32)) <<< (x5 &&& 31)) - ((1 : Int32))) <<< (r_4 &&& 31))) (x2 ||| (((1 : Int32)) <<< (r_4 &&& 31))) ((0 : Int32))) r_7.toInt := hz122.2.2.2.2.2.1
          have q129 : t_7_0 = s0 := hz122.2.2.2.2.2.2.1
          have q130 : t_7_2 = s2 := hz122.2.2.2.2.2.2.2.1
          have q131 : t_7_3 = s3 := hz122.2.2.2.2.2.2.2.2.1
          have q132 : t_7_4 = s4 := hz122.2.2.2.2.2.2.2.2.2.1
          have q133 : t_7_5 = s5 := hz122.2.2.2.2.2.2.2.2.2.2.1
          have q134 : t_7_8 = s8 := hz122.2.2.2.2.2.2.2.2.2.2.2.1
          have q135 : t_7_9 = t_4_1 := hz122.2.2.2.2.2.2.2.2.2.2.2.2.1
          have q136 : t_7_10 = s10 := hz122.2.2.2.2.2.2.2.2.2.2.2.2.2.1
          have q137 : t_7_11 = s11 := hz122.2.2.2.2.2.2.2.2.2.2.2.2.2.2
          clear hz122
          have e138 : s0 = t_7_0 := q129.symm
          subst e138
          have e139 : s2 = t_7_2 := q130.symm
          subst e139
          have e140 : s3 = t_7_3 := q131.symm
          subst e140
          have e141 : s4 = t_7_4 := q132.symm
          subst e141
          have e142 : s5 = t_7_5 := q133.symm
          subst e142
          have e143 : s8 = t_7_8 := q134.symm
          subst e143
          have e144 : t_4_1 = t_7_9 := q135.symm
          subst e144
          have e145 : s10 = t_7_10 := q136.symm
          subst e145
          have e146 : s11 = t_7_11 := q137.symm
          subst e146
          have g147 := zz_rg r_7
          have g148 := zz_rg t_7_1
          show zz_ok (if r_7 = 0 then (some ((2 : Int32), s0, t_7_1, s2, s3, s4, s5, t_7_6, t_7_7, s8, t_4_1, s10, s11)) else (m_X8_askAll_L26 K n0 n1 n2 n3 k x1 x2 x3 x4 (x5 + 1) s0 t_7_1 s2 s3 s4 s5 t_7_6 t_7_7 s8 t_4_1 s10 s11)) _
          refine zz_ok_ite (fun c149 => ?_) (fun c149 => ?_)
          · have c149 := congrArg Int32.toInt c149
            have l150 : (2 : Int32).toInt = 2 := rfl
            refine zz_ok_some ?_
            show zz_go s2.toInt s3.toInt s4.toInt s5.toInt (s6) s1.toInt (t_7_6) t_7_1.toInt (zz_rv x1 x2 x3) x5.toInt (s3.toInt + 1) (2 : Int32).toInt ∧ 0 ≤ (2 : Int32).toInt ∧ (2 : Int32).toInt ≤ 2 ∧ s1.toInt ≤ t_7_1.toInt ∧ t_7_1.toInt ≤ 20000 ∧ zz_ic s5.toInt s0.toInt t_7_1.toInt (t_7_6) (t_7_7) ∧ zz_e0 s2.toInt t_7_1.toInt (t_7_6) ∧ 0 ≤ s8.toInt ∧ s8.toInt ≤ 14 ∧ s0 = s0 ∧ s2 = s2 ∧ s3 = s3 ∧ s4 = s4 ∧ s5 = s5 ∧ zz_row 14 (rwW T) (s10) ∧ zz_row 14 (rwW T) (s11)
            exact ⟨(by first | exact zz_ga_rest a27 (by omega) (by omega) (by omega) (by omega) (by omega) (by omega) | exact zz_go_fail (zz_ga_none a27 (by assumption) (by assumption) (by omega) (by omega) (by omega) (by omega) (by omega) (by omega)) (by omega) (by omega) (by omega) | exact zz_go_full (zz_ga_evt (E' := (r_4 + x5)) a27 (by assumption) (by assumption) (by omega) (by omega) (by omega) (by omega) (by omega) (by omega) (by omega) (by omega) (by omega) (by first | exact Or.inl ⟨by omega, by omega⟩ | exact Or.inr ⟨by omega, by omega⟩)) (by assumption) (by omega) (by omega) (by omega) (by omega) | exact zz_go_full (zz_ga_evt (E' := ((0 : Int32))) a27 (by assumption) (by assumption) (by omega) (by omega) (by omega) (by omega) (by omega) (by omega) (by omega) (by omega) (by omega) (by first | exact Or.inl ⟨by omega, by omega⟩ | exact Or.inr ⟨by omega, by omega⟩)) (by assumption) (by omega) (by omega) (by omega) (by omega) | exact zz_go_come (zz_ga_evt (E' := (r_4 + x5)) a27 (by assumption) (by assumption) (by omega) (by omega) (by omega) (by omega) (by omega) (by omega) (by omega) (by omega) (by omega) (by first | exact Or.inl ⟨by omega, by omega⟩ | exact Or.inr ⟨by omega, by omega⟩)) (by assumption) (by omega) (by assumption) (by omega) (by omega) (by omega) | exact zz_go_come (zz_ga_evt (E' := ((0 : Int32))) a27 (by assumption) (by assumption) (by omega) (by omega) (by omega) (by omega) (by omega) (by omega) (by omega) (by omega) (by omega) (by first | exact Or.inl ⟨by omega, by omega⟩ | exact Or.inr ⟨by omega, by omega⟩)) (by assumption) (by omega) (by assumption) (by omega) (by omega) (by omega)), (by omega), (by omega), q124, q125, q126, q127, a12, a13, rfl, rfl, rfl, rfl, rfl, a10, a11⟩
          · have c149 := zz_neq c149
            obtain ⟨k151, f152⟩ := zz_add x5 (1 : Int32)
            have g153 := zz_rg (x5 + 1)
            refine (ih x1 x2 x3 x4 (x5 + 1) s0 t_7_1 s2 s3 s4 s5 t_7_6 t_7_7 s8 t_4_1 s10 s11 a0 a1 a2 a3 a4 a5 (by omega) q125 q126 q127 a10 a11 a12 a13 a14 a15 a16 a17 a18 a19 a20 a21 (by omega) (by omega) a24 a25 a26 a27 a28 (by omega) a30 (by omega)).mono (fun z hz => ?_)
            obtain ⟨y154_0, y154_1, y154_2, y154_3, y154_4, y154_5, y154_6, y154_7, y154_8, y154_9, y154_10, y154_11, y154_12⟩ := z
            have q155 : zz_go s2.toInt s3.toInt s4.toInt s5.toInt (t_7_6) t_7_1.toInt (y154_7) y154_2.toInt (zz_rv x1 x2 x3) (x5 + 1).toInt (s3.toInt + 1) y154_0.toInt := hz.1
            have q156 : 0 ≤ y154_0.toInt := hz.2.1
            have q157 : y154_0.toInt ≤ 2 := hz.2.2.1
            have q158 : t_7_1.toInt ≤ y154_2.toInt := hz.2.2.2.1
            have q159 : y154_2.toInt ≤ 20000 := hz.2.2.2.2.1
            have q160 : zz_ic s5.toInt s0.toInt y154_2.toInt (y154_7) (y154_8) := hz.2.2.2.2.2.1
            have q161 : zz_e0 s2.toInt y154_2.toInt (y154_7) := hz.2.2.2.2.2.2.1
            have q162 : 0 ≤ y154_9.toInt := hz.2.2.2.2.2.2.2.1
            have q163 : y154_9.toInt ≤ 14 := hz.2.2.2.2.2.2.2.2.1
            have q164 : y154_1 = s0 := hz.2.2.2.2.2.2.2.2.2.1
            have q165 : y154_3 = s2 := hz.2.2.2.2.2.2.2.2.2.2.1
            have q166 : y154_4 = s3 := hz.2.2.2.2.2.2.2.2.2.2.2.1
            have q167 : y154_5 = s4 := hz.2.2.2.2.2.2.2.2.2.2.2.2.1
            have q168 : y154_6 = s5 := hz.2.2.2.2.2.2.2.2.2.2.2.2.2.1
            have q169 : zz_row 14 (rwW T) (y154_11) := hz.2.2.2.2.2.2.2.2.2.2.2.2.2.2.1
            have q170 : zz_row 14 (rwW T) (y154_12) := hz.2.2.2.2.2.2.2.2.2.2.2.2.2.2.2
            clear hz
            have e171 : s0 = y154_1 := q164.symm
            subst e171
            have e172 : s2 = y154_3 := q165.symm
            subst e172
            have e173 : s3 = y154_4 := q166.symm
            subst e173
            have e174 : s4 = y154_5 := q167.symm
            subst e174
            have e175 : s5 = y154_6 := q168.symm
            subst e175
            have g176 := zz_rg y154_0
            have g177 := zz_rg y154_2
            have g178 := zz_rg y154_9
            have g179 := zz_rg y154_10
            show zz_go s2.toInt s3.toInt s4.toInt s5.toInt (s6) s1.toInt (y154_7) y154_2.toInt (zz_rv x1 x2 x3) x5.toInt (s3.toInt + 1) y154_0.toInt ∧ 0 ≤ y154_0.toInt ∧ y154_0.toInt ≤ 2 ∧ s1.toInt ≤ y154_2.toInt ∧ y154_2.toInt ≤ 20000 ∧ zz_ic s5.toInt s0.toInt y154_2.toInt (y154_7) (y154_8) ∧ zz_e0 s2.toInt y154_2.toInt (y154_7) ∧ 0 ≤ y154_9.toInt ∧ y154_9.toInt ≤ 14 ∧ s0 = s0 ∧ s2 = s2 ∧ s3 = s3 ∧ s4 = s4 ∧ s5 = s5 ∧ zz_row 14 (rwW T) (y154_11) ∧ zz_row 14 (rwW T) (y154_12)
            exact ⟨(by first | exact zz_ga_rest a27 (by omega) (by omega) (by omega) (by omega) (by omega) (by omega) | exact zz_go_fail (zz_ga_none a27 (by assumption) (by assumption) (by omega) (by omega) (by omega) (by omega) (by omega) (by omega)) (by omega) (by omega) (by omega) | exact zz_go_full (zz_ga_evt (E' := (r_4 + x5)) a27 (by assumption) (by assumption) (by omega) (by omega) (by omega) (by omega) (by omega) (by omega) (by omega) (by omega) (by omega) (by first | exact Or.inl ⟨by omega, by omega⟩ | exact Or.inr ⟨by omega, by omega⟩)) (by assumption) (by omega) (by omega) (by omega) (by omega) | exact zz_go_full (zz_ga_evt (E' := ((0 : Int32))) a27 (by assumption) (by assumption) (by omega) (by omega) (by omega) (by omega) (by omega) (by omega) (by omega) (by omega) (by omega) (by first | exact Or.inl ⟨by omega, by omega⟩ | exact Or.inr ⟨by omega, by omega⟩)) (by assumption) (by omega) (by omega) (by omega) (by omega) | exact zz_go_come (zz_ga_evt (E' := (r_4 + x5)) a27 (by assumption) (by assumption) (by omega) (by omega) (by omega) (by omega) (by omega) (by omega) (by omega) (by omega) (by omega) (by first | exact Or.inl ⟨by omega, by omega⟩ | exact Or.inr ⟨by omega, by omega⟩)) (by assumption) (by omega) (by assumption) (by omega) (by omega) (by omega) | exact zz_go_come (zz_ga_evt (E' := ((0 : Int32))) a27 (by assumption) (by assumption) (by omega) (by omega) (by omega) (by omega) (by omega) (by omega) (by omega) (by omega) (by omega) (by first | exact Or.inl ⟨by omega, by omega⟩ | exact Or.inr ⟨by omega, by omega⟩)) (by assumption) (by omega) (by assumption) (by omega) (by omega) (by omega)), q156, q157, (by omega), q159, q160, q161, q162, q163, rfl, rfl, rfl, rfl, rfl, q169, q170⟩
set_option maxHeartbeats 4000000 in
theorem wf_X8_askAll (K : Nat) (hK : 1099511627776 ≤ K) (T : Nat) (hT : T ≤ 900) (n0 : Nat) (n1 : Nat) (n2 : Nat) (n3 : Nat) (p1 : Int32) (p2 : Int32) (p3 : Int32) (s0 : Int32) (s1 : Int32) (s2 : Int32) (s3 : Int32) (s4 : Int32) (s5 : Int32) (s6 : Nat → Int32) (s7 : Nat → Int32) (s8 : Int32) (s9 : Int32) (s10 : Nat → Int32) (s11 : Nat → Int32) (a0 : n0 = 20000) (a1 : n1 = 32768) (a2 : n2 = 14) (a3 : n3 = 14) (a4 : 1 ≤ s0.toInt) (a5 : s0.toInt ≤ 900000000) (a6 : 0 ≤ s1.toInt) (a7 : s1.toInt ≤ 20000) (a8 : zz_ic s5.toInt s0.toInt s1.toInt (s6) (s7)) (a9 : zz_e0 s2.toInt s1.toInt (s6)) (a10 : zz_row 14 (rwW T) (s10)) (a11 : zz_row 14 (rwW T) (s11)) (a12 : 0 ≤ s8.toInt) (a13 : s8.toInt ≤ 14) (a14 : 1 ≤ s5.toInt) (a15 : s5.toInt ≤ 14) (a16 : 0 ≤ s2.toInt) (a17 : s2.toInt ≤ 3) (a18 : 1 ≤ s3.toInt) (a19 : s3.toInt ≤ 4) (a20 : 1 ≤ s4.toInt) (a21 : s4.toInt ≤ 8) (a22 : zz_tbe s5.toInt (p1) (p2) (p3)) (a23 : (s2.toInt = 1 ∨ p3.toInt = 0)) : zz_ok (m_X8_askAll K n0 n1 n2 n3 p1 p2 p3 s0 s1 s2 s3 s4 s5 s6 s7 s8 s9 s10 s11) (fun z => zz_go s2.toInt s3.toInt s4.toInt s5.toInt (s6) s1.toInt (z.2.2.2.2.2.2.2.1) z.2.2.1.toInt (zz_rv p1 p2 p3) 1 (s3.toInt + 1) z.1.toInt ∧ 0 ≤ z.1.toInt ∧ z.1.toInt ≤ 2 ∧ s1.toInt ≤ z.2.2.1.toInt ∧ z.2.2.1.toInt ≤ 20000 ∧ zz_ic s5.toInt s0.toInt z.2.2.1.toInt (z.2.2.2.2.2.2.2.1) (z.2.2.2.2.2.2.2.2.1) ∧ zz_e0 s2.toInt z.2.2.1.toInt (z.2.2.2.2.2.2.2.1) ∧ 0 ≤ z.2.2.2.2.2.2.2.2.2.1.toInt ∧ z.2.2.2.2.2.2.2.2.2.1.toInt ≤ 14 ∧ z.2.1 = s0 ∧ z.2.2.2.1 = s2 ∧ z.2.2.2.2.1 = s3 ∧ z.2.2.2.2.2.1 = s4 ∧ z.2.2.2.2.2.2.1 = s5 ∧ zz_row 14 (rwW T) (z.2.2.2.2.2.2.2.2.2.2.2.1) ∧ zz_row 14 (rwW T) (z.2.2.2.2.2.2.2.2.2.2.2.2)) := by
  have g1 := zz_rg p1
  have g2 := zz_rg p2
  have g3 := zz_rg p3
  have g4 := zz_rg s0
  have g5 := zz_rg s1
  have g6 := zz_rg s2
  have g7 := zz_rg s3
  have g8 := zz_rg s4
  have g9 := zz_rg s5
  have g10 := zz_rg s8
  have g11 := zz_rg s9
  have tb9 := (by assumption : zz_tbe s5.toInt p1 p2 p3)
  have tb8 := tb9.1
  have tb7 := tb9.2.1
  unfold m_X8_askAll
  refine zz_ok_bind (wf_X8_listRuns K hK T hT n0 n1 n2 n3 p1 s0 s1 s2 s3 s4 s5 s6 s7 s8 s9 s10 s11 a0 a1 a2 a3 a10 a11 a12 a13 (by omega) a15) ?_
  intro z12 hz12
  obtain ⟨t_1_0, t_1_1, t_1_2, t_1_3, t_1_4, t_1_5, t_1_6, t_1_7, t_1_8, t_1_9, t_1_10, t_1_11⟩ := z12
  have q13 : zz_rub s5.toInt (p1) (t_1_10) (t_1_11) t_1_8.toInt := hz12.1
  have q14 : 0 ≤ t_1_8.toInt := hz12.2.1
  have q15 : t_1_8.toInt ≤ 14 := hz12.2.2.1
  have q16 : t_1_0 = s0 := hz12.2.2.2.1
  have q17 : t_1_1 = s1 := hz12.2.2.2.2.1
  have q18 : t_1_2 = s2 := hz12.2.2.2.2.2.1
  have q19 : t_1_3 = s3 := hz12.2.2.2.2.2.2.1
  have q20 : t_1_4 = s4 := hz12.2.2.2.2.2.2.2.1
  have q21 : t_1_5 = s5 := hz12.2.2.2.2.2.2.2.2.1
  have q22 : t_1_6 = s6 := hz12.2.2.2.2.2.2.2.2.2.1
  have q23 : t_1_7 = s7 := hz12.2.2.2.2.2.2.2.2.2.2.1
  have q24 : t_1_9 = s9 := hz12.2.2.2.2.2.2.2.2.2.2.2.1
  have q25 : zz_row 14 (rwW T) (t_1_10) := hz12.2.2.2.2.2.2.2.2.2.2.2.2.1
  have q26 : zz_row 14 (rwW T) (t_1_11) := hz12.2.2.2.2.2.2.2.2.2.2.2.2.2
  clear hz12
  have e27 : s0 = t_1_0 := q16.symm
  subst e27
  have e28 : s1 = t_1_1 := q17.symm
  subst e28
  have e29 : s2 = t_1_2 := q18.symm
  subst e29
  have e30 : s3 = t_1_3 := q19.symm
  subst e30
  have e31 : s4 = t_1_4 := q20.symm
  subst e31
  have e32 : s5 = t_1_5 := q21.symm
  subst e32
  have e33 : s6 = t_1_6 := q22.symm
  subst e33
  have e34 : s7 = t_1_7 := q23.symm
  subst e34
  have e35 : s9 = t_1_9 := q24.symm
  subst e35
  have g36 := zz_rg t_1_8
  show zz_ok ((m_J6_bitCount_0f7a4 K p1).bind fun ⟨r_2, _⟩ => m_X8_askAll_L26 K n0 n1 n2 n3 K p1 p2 p3 (zz_min s3 (s4 - r_2)) ((1 : Int32)) s0 s1 s2 s3 s4 s5 s6 s7 t_1_8 s9 t_1_10 t_1_11) _
  refine zz_ok_bind (wf_J6_bitCount_0f7a4 K hK T hT p1 (by omega) (by omega)) ?_
  intro z37 hz37
  obtain ⟨r_2, _⟩ := z37
  have q38 : r_2.toInt = (zz_pcn p1.toInt.toNat 14 : Int) := hz37
  clear hz37
  have g39 := zz_rg r_2
  show zz_ok (m_X8_askAll_L26 K n0 n1 n2 n3 K p1 p2 p3 (zz_min s3 (s4 - r_2)) ((1 : Int32)) s0 s1 s2 s3 s4 s5 s6 s7 t_1_8 s9 t_1_10 t_1_11) _
  obtain ⟨k40, f41⟩ := zz_sub s4 r_2
  have g42 := zz_rg (s4 - r_2)
  have f43 := zz_minF s3 (s4 - r_2)
  have g44 := zz_rg (zz_min s3 (s4 - r_2))
  have l45 : (1 : Int32).toInt = 1 := rfl
  refine (wf_X8_askAll_L26 K hK T hT n0 n1 n2 n3 K p1 p2 p3 (zz_min s3 (s4 - r_2)) ((1 : Int32)) s0 s1 s2 s3 s4 s5 s6 s7 t_1_8 s9 t_1_10 t_1_11 a0 a1 a2 a3 a4 a5 a6 a7 a8 a9 q25 q26 q14 q15 a14 a15 a16 a17 a18 a19 a20 a21 (by omega) (by omega) (by omega) (by omega) (by omega) a22 a23 (by omega) q13 (by omega)).mono (fun z hz => ?_)
  obtain ⟨y46_0, y46_1, y46_2, y46_3, y46_4, y46_5, y46_6, y46_7, y46_8, y46_9, y46_10, y46_11, y46_12⟩ := z
  have q47 : zz_go s2.toInt s3.toInt s4.toInt s5.toInt (s6) s1.toInt (y46_7) y46_2.toInt (zz_rv p1 p2 p3) ((1 : Int32)).toInt (s3.toInt + 1) y46_0.toInt := hz.1
  have q48 : 0 ≤ y46_0.toInt := hz.2.1
  have q49 : y46_0.toInt ≤ 2 := hz.2.2.1
  have q50 : s1.toInt ≤ y46_2.toInt := hz.2.2.2.1
  have q51 : y46_2.toInt ≤ 20000 := hz.2.2.2.2.1
  have q52 : zz_ic s5.toInt s0.toInt y46_2.toInt (y46_7) (y46_8) := hz.2.2.2.2.2.1
  have q53 : zz_e0 s2.toInt y46_2.toInt (y46_7) := hz.2.2.2.2.2.2.1
  have q54 : 0 ≤ y46_9.toInt := hz.2.2.2.2.2.2.2.1
  have q55 : y46_9.toInt ≤ 14 := hz.2.2.2.2.2.2.2.2.1
  have q56 : y46_1 = s0 := hz.2.2.2.2.2.2.2.2.2.1
  have q57 : y46_3 = s2 := hz.2.2.2.2.2.2.2.2.2.2.1
  have q58 : y46_4 = s3 := hz.2.2.2.2.2.2.2.2.2.2.2.1
  have q59 : y46_5 = s4 := hz.2.2.2.2.2.2.2.2.2.2.2.2.1
  have q60 : y46_6 = s5 := hz.2.2.2.2.2.2.2.2.2.2.2.2.2.1
  have q61 : zz_row 14 (rwW T) (y46_11) := hz.2.2.2.2.2.2.2.2.2.2.2.2.2.2.1
  have q62 : zz_row 14 (rwW T) (y46_12) := hz.2.2.2.2.2.2.2.2.2.2.2.2.2.2.2
  clear hz
  have e63 : s0 = y46_1 := q56.symm
  subst e63
  have e64 : s2 = y46_3 := q57.symm
  subst e64
  have e65 : s3 = y46_4 := q58.symm
  subst e65
  have e66 : s4 = y46_5 := q59.symm
  subst e66
  have e67 : s5 = y46_6 := q60.symm
  subst e67
  have g68 := zz_rg y46_0
  have g69 := zz_rg y46_2
  have g70 := zz_rg y46_9
  have g71 := zz_rg y46_10
  show zz_go s2.toInt s3.toInt s4.toInt s5.toInt (s6) s1.toInt (y46_7) y46_2.toInt (zz_rv p1 p2 p3) 1 (s3.toInt + 1) y46_0.toInt ∧ 0 ≤ y46_0.toInt ∧ y46_0.toInt ≤ 2 ∧ s1.toInt ≤ y46_2.toInt ∧ y46_2.toInt ≤ 20000 ∧ zz_ic s5.toInt s0.toInt y46_2.toInt (y46_7) (y46_8) ∧ zz_e0 s2.toInt y46_2.toInt (y46_7) ∧ 0 ≤ y46_9.toInt ∧ y46_9.toInt ≤ 14 ∧ s0 = s0 ∧ s2 = s2 ∧ s3 = s3 ∧ s4 = s4 ∧ s5 = s5 ∧ zz_row 14 (rwW T) (y46_11) ∧ zz_row 14 (rwW T) (y46_12)
  exact ⟨(by exact zz_go_ph (by assumption) (by omega) rfl), q48, q49, q50, q51, q52, q53, q54, q55, rfl, rfl, rfl, rfl, rfl, q61, q62⟩
set_option maxHeartbeats 4000000 in
theorem wf_X8_lookAt (K : Nat) (hK : 1099511627776 ≤ K) (T : Nat) (hT : T ≤ 900) (n0 : Nat) (n1 : Nat) (n2 : Nat) (n3 : Nat) (p1 : Int32) (s0 : Int32) (s1 : Int32) (s2 : Int32) (s3 : Int32) (s4 : Int32) (s5 : Int32) (s6 : Nat → Int32) (s7 : Nat → Int32) (s8 : Int32) (s9 : Int32) (s10 : Nat → Int32) (s11 : Nat → Int32) (a0 : n0 = 20000) (a1 : n1 = 32768) (a2 : n2 = 14) (a3 : n3 = 14) (a4 : 1 ≤ s0.toInt) (a5 : s0.toInt ≤ 900000000) (a6 : 0 ≤ s1.toInt) (a7 : s1.toInt ≤ 20000) (a8 : zz_ic s5.toInt s0.toInt s1.toInt (s6) (s7)) (a9 : zz_e0 s2.toInt s1.toInt (s6)) (a10 : zz_row 14 (rwW T) (s10)) (a11 : zz_row 14 (rwW T) (s11)) (a12 : 0 ≤ s8.toInt) (a13 : s8.toInt ≤ 14) (a14 : 1 ≤ s5.toInt) (a15 : s5.toInt ≤ 14) (a16 : 0 ≤ s2.toInt) (a17 : s2.toInt ≤ 3) (a18 : 1 ≤ s3.toInt) (a19 : s3.toInt ≤ 4) (a20 : 1 ≤ s4.toInt) (a21 : s4.toInt ≤ 8) (a22 : zz_cw s5.toInt (p1)) (a23 : zz_c0 s2.toInt (p1)) : zz_ok (m_X8_lookAt K n0 n1 n2 n3 p1 s0 s1 s2 s3 s4 s5 s6 s7 s8 s9 s10 s11) (fun z => zz_go s2.toInt s3.toInt s4.toInt s5.toInt (s6) s1.toInt (z.2.2.2.2.2.2.2.1) z.2.2.1.toInt (zz_cc p1) 1 (s3.toInt + 1 + s5.toInt) z.1.toInt ∧ 0 ≤ z.1.toInt ∧ z.1.toInt ≤ 2 ∧ s1.toInt ≤ z.2.2.1.toInt ∧ z.2.2.1.toInt ≤ 20000 ∧ zz_ic s5.toInt s0.toInt z.2.2.1.toInt (z.2.2.2.2.2.2.2.1) (z.2.2.2.2.2.2.2.2.1) ∧ zz_e0 s2.toInt z.2.2.1.toInt (z.2.2.2.2.2.2.2.1) ∧ 0 ≤ z.2.2.2.2.2.2.2.2.2.1.toInt ∧ z.2.2.2.2.2.2.2.2.2.1.toInt ≤ 14 ∧ z.2.1 = s0 ∧ z.2.2.2.1 = s2 ∧ z.2.2.2.2.1 = s3 ∧ z.2.2.2.2.2.1 = s4 ∧ z.2.2.2.2.2.2.1 = s5 ∧ zz_row 14 (rwW T) (z.2.2.2.2.2.2.2.2.2.2.2.1) ∧ zz_row 14 (rwW T) (z.2.2.2.2.2.2.2.2.2.2.2.2)) := by
  have g1 := zz_rg p1
  have g2 := zz_rg s0
  have g3 := zz_rg s1
  have g4 := zz_rg s2
  have g5 := zz_rg s3
  have g6 := zz_rg s4
  have g7 := zz_rg s5
  have g8 := zz_rg s8
  have g9 := zz_rg s9
  unfold m_X8_lookAt
  have l10 : (16383 : Int32).toInt = 16383 := rfl
  try have f11 := zz_andF p1 (16383 : Int32) (by omega)
  have g12 := zz_rg (p1 &&& ((16383 : Int32)))
  have g13 := zz_rg ((p1.toUInt32 >>> (((14 : Int32)).toUInt32 &&& Int32.toUInt32 31)).toInt32)
  try have f14 := zz_andF ((p1.toUInt32 >>> (((14 : Int32)).toUInt32 &&& Int32.toUInt32 31)).toInt32) (16383 : Int32) (by omega)
  have g15 := zz_rg (((p1.toUInt32 >>> (((14 : Int32)).toUInt32 &&& Int32.toUInt32 31)).toInt32) &&& ((16383 : Int32)))
  have g16 := zz_rg ((p1.toUInt32 >>> (((28 : Int32)).toUInt32 &&& Int32.toUInt32 31)).toInt32)
  refine zz_ok_bind (wf_X8_askAll K hK T hT n0 n1 n2 n3 (p1 &&& ((16383 : Int32))) (((p1.toUInt32 >>> (((14 : Int32)).toUInt32 &&& Int32.toUInt32 31)).toInt32) &&& ((16383 : Int32))) ((p1.toUInt32 >>> (((28 : Int32)).toUInt32 &&& Int32.toUInt32 31)).toInt32) s0 s1 s2 s3 s4 s5 s6 s7 s8 s9 s10 s11 a0 a1 a2 a3 a4 a5 a6 a7 a8 a9 a10 a11 a12 a13 a14 a15 a16 a17 a18 a19 a20 a21 (by exact (zz_tbe_un a22).1) (by exact zz_c0_e a23)) ?_
  intro z17 hz17
  obtain ⟨r_1, t_1_0, t_1_1, t_1_2, t_1_3, t_1_4, t_1_5, t_1_6, t_1_7, t_1_8, t_1_9, t_1_10, t_1_11⟩ := z17
  have q18 : zz_go s2.toInt s3.toInt s4.toInt s5.toInt (s6) s1.toInt (t_1_6) t_1_1.toInt (zz_rv (p1 &&& ((16383 : Int32))) (((p1.toUInt32 >>> (((14 : Int32)).toUInt32 &&& Int32.toUInt32 31)).toInt32) &&& ((16383 : Int32))) ((p1.toUInt32 >>> (((28 : Int32)).toUInt32 &&& Int32.toUInt32 31)).toInt32)) 1 (s3.toInt + 1) r_1.toInt := hz17.1
  have q19 : 0 ≤ r_1.toInt := hz17.2.1
  have q20 : r_1.toInt ≤ 2 := hz17.2.2.1
  have q21 : s1.toInt ≤ t_1_1.toInt := hz17.2.2.2.1
  have q22 : t_1_1.toInt ≤ 20000 := hz17.2.2.2.2.1
  have q23 : zz_ic s5.toInt s0.toInt t_1_1.toInt (t_1_6) (t_1_7) := hz17.2.2.2.2.2.1
  have q24 : zz_e0 s2.toInt t_1_1.toInt (t_1_6) := hz17.2.2.2.2.2.2.1
  have q25 : 0 ≤ t_1_8.toInt := hz17.2.2.2.2.2.2.2.1
  have q26 : t_1_8.toInt ≤ 14 := hz17.2.2.2.2.2.2.2.2.1
  have q27 : t_1_0 = s0 := hz17.2.2.2.2.2.2.2.2.2.1
  have q28 : t_1_2 = s2 := hz17.2.2.2.2.2.2.2.2.2.2.1
  have q29 : t_1_3 = s3 := hz17.2.2.2.2.2.2.2.2.2.2.2.1
  have q30 : t_1_4 = s4 := hz17.2.2.2.2.2.2.2.2.2.2.2.2.1
  have q31 : t_1_5 = s5 := hz17.2.2.2.2.2.2.2.2.2.2.2.2.2.1
  have q32 : zz_row 14 (rwW T) (t_1_10) := hz17.2.2.2.2.2.2.2.2.2.2.2.2.2.2.1
  have q33 : zz_row 14 (rwW T) (t_1_11) := hz17.2.2.2.2.2.2.2.2.2.2.2.2.2.2.2
  clear hz17
  have e34 : s0 = t_1_0 := q27.symm
  subst e34
  have e35 : s2 = t_1_2 := q28.symm
  subst e35
  have e36 : s3 = t_1_3 := q29.symm
  subst e36
  have e37 : s4 = t_1_4 := q30.symm
  subst e37
  have e38 : s5 = t_1_5 := q31.symm
  subst e38
  have g39 := zz_rg r_1
  have g40 := zz_rg t_1_1
  have g41 := zz_rg t_1_8
  have g42 := zz_rg t_1_9
  show zz_ok (if r_1 = 0 then ((m_X8_giveAllBack K n0 n1 n2 n3 (p1 &&& ((16383 : Int32))) (((p1.toUInt32 >>> (((14 : Int32)).toUInt32 &&& Int32.toUInt32 31)).toInt32) &&& ((16383 : Int32))) ((p1.toUInt32 >>> (((28 : Int32)).toUInt32 &&& Int32.toUInt32 31)).toInt32) s0 t_1_1 s2 s3 s4 s5 t_1_6 t_1_7 t_1_8 t_1_9 t_1_10 t_1_11).bind fun ⟨r_3, t_3_0, t_3_1, t_3_2, t_3_3, t_3_4, t_3_5, t_3_6, t_3_7, t_3_8, t_3_9, t_3_10, t_3_11⟩ => some (r_3, t_3_0, t_3_1, t_3_2, t_3_3, t_3_4, t_3_5, t_3_6, t_3_7, t_3_8, t_3_9, t_3_10, t_3_11)) else (some (r_1, s0, t_1_1, s2, s3, s4, s5, t_1_6, t_1_7, t_1_8, t_1_9, t_1_10, t_1_11))) _
  have l44 : (0 : Int32).toInt = 0 := rfl
  refine zz_ok_ite (fun c43 => ?_) (fun c43 => ?_)
  · have c43 := congrArg Int32.toInt c43
    refine zz_ok_bind (wf_X8_giveAllBack K hK T hT n0 n1 n2 n3 (p1 &&& ((16383 : Int32))) (((p1.toUInt32 >>> (((14 : Int32)).toUInt32 &&& Int32.toUInt32 31)).toInt32) &&& ((16383 : Int32))) ((p1.toUInt32 >>> (((28 : Int32)).toUInt32 &&& Int32.toUInt32 31)).toInt32) s0 t_1_1 s2 s3 s4 s5 t_1_6 t_1_7 t_1_8 t_1_9 t_1_10 t_1_11 a0 a1 a2 a3 a4 a5 (by omega) q22 q23 q24 q32 q33 q25 q26 a14 a15 a16 a17 a18 a19 a20 a21 (by exact (zz_tbe_un a22).1) (by exact zz_c0_e a23)) ?_
    intro z45 hz45
    obtain ⟨r_3, t_3_0, t_3_1, t_3_2, t_3_3, t_3_4, t_3_5, t_3_6, t_3_7, t_3_8, t_3_9, t_3_10, t_3_11⟩ := z45
    have q46 : zz_go s2.toInt s3.toInt s4.toInt s5.toInt (t_1_6) t_1_1.toInt (t_3_6) t_3_1.toInt (zz_rv (p1 &&& ((16383 : Int32))) (((p1.toUInt32 >>> (((14 : Int32)).toUInt32 &&& Int32.toUInt32 31)).toInt32) &&& ((16383 : Int32))) ((p1.toUInt32 >>> (((28 : Int32)).toUInt32 &&& Int32.toUInt32 31)).toInt32)) (s3.toInt + 1) (s3.toInt + 1 + s5.toInt) r_3.toInt := hz45.1
    have q47 : 0 ≤ r_3.toInt := hz45.2.1
    have q48 : r_3.toInt ≤ 2 := hz45.2.2.1
    have q49 : t_1_1.toInt ≤ t_3_1.toInt := hz45.2.2.2.1
    have q50 : t_3_1.toInt ≤ 20000 := hz45.2.2.2.2.1
    have q51 : zz_ic s5.toInt s0.toInt t_3_1.toInt (t_3_6) (t_3_7) := hz45.2.2.2.2.2.1
    have q52 : zz_e0 s2.toInt t_3_1.toInt (t_3_6) := hz45.2.2.2.2.2.2.1
    have q53 : 0 ≤ t_3_8.toInt := hz45.2.2.2.2.2.2.2.1
    have q54 : t_3_8.toInt ≤ 14 := hz45.2.2.2.2.2.2.2.2.1
    have q55 : t_3_0 = s0 := hz45.2.2.2.2.2.2.2.2.2.1
    have q56 : t_3_2 = s2 := hz45.2.2.2.2.2.2.2.2.2.2.1
    have q57 : t_3_3 = s3 := hz45.2.2.2.2.2.2.2.2.2.2.2.1
    have q58 : t_3_4 = s4 := hz45.2.2.2.2.2.2.2.2.2.2.2.2.1
    have q59 : t_3_5 = s5 := hz45.2.2.2.2.2.2.2.2.2.2.2.2.2.1
    have q60 : zz_row 14 (rwW T) (t_3_10) := hz45.2.2.2.2.2.2.2.2.2.2.2.2.2.2.1
    have q61 : zz_row 14 (rwW T) (t_3_11) := hz45.2.2.2.2.2.2.2.2.2.2.2.2.2.2.2
    clear hz45
    have e62 : s0 = t_3_0 := q55.symm
    subst e62
    have e63 : s2 = t_3_2 := q56.symm
    subst e63
    have e64 : s3 = t_3_3 := q57.symm
    subst e64
    have e65 : s4 = t_3_4 := q58.symm
    subst e65
    have e66 : s5 = t_3_5 := q59.symm
    subst e66
    have g67 := zz_rg r_3
    have g68 := zz_rg t_3_1
    have g69 := zz_rg t_3_8
    have g70 := zz_rg t_3_9
    show zz_ok (some (r_3, s0, t_3_1, s2, s3, s4, s5, t_3_6, t_3_7, t_3_8, t_3_9, t_3_10, t_3_11)) _
    refine zz_ok_some ?_
    show zz_go s2.toInt s3.toInt s4.toInt s5.toInt (s6) s1.toInt (t_3_6) t_3_1.toInt (zz_cc p1) 1 (s3.toInt + 1 + s5.toInt) r_3.toInt ∧ 0 ≤ r_3.toInt ∧ r_3.toInt ≤ 2 ∧ s1.toInt ≤ t_3_1.toInt ∧ t_3_1.toInt ≤ 20000 ∧ zz_ic s5.toInt s0.toInt t_3_1.toInt (t_3_6) (t_3_7) ∧ zz_e0 s2.toInt t_3_1.toInt (t_3_6) ∧ 0 ≤ t_3_8.toInt ∧ t_3_8.toInt ≤ 14 ∧ s0 = s0 ∧ s2 = s2 ∧ s3 = s3 ∧ s4 = s4 ∧ s5 = s5 ∧ zz_row 14 (rwW T) (t_3_10) ∧ zz_row 14 (rwW T) (t_3_11)
    exact ⟨(by first | exact zz_go_ph (zz_go_two (by assumption) (by assumption) (by omega)) rfl (zz_tbe_un a22).2 | exact zz_go_ph (zz_go_one (by assumption) (by omega)) rfl (zz_tbe_un a22).2), q47, q48, (by omega), q50, q51, q52, q53, q54, rfl, rfl, rfl, rfl, rfl, q60, q61⟩
  · have c43 := zz_neq c43
    refine zz_ok_some ?_
    show zz_go s2.toInt s3.toInt s4.toInt s5.toInt (s6) s1.toInt (t_1_6) t_1_1.toInt (zz_cc p1) 1 (s3.toInt + 1 + s5.toInt) r_1.toInt ∧ 0 ≤ r_1.toInt ∧ r_1.toInt ≤ 2 ∧ s1.toInt ≤ t_1_1.toInt ∧ t_1_1.toInt ≤ 20000 ∧ zz_ic s5.toInt s0.toInt t_1_1.toInt (t_1_6) (t_1_7) ∧ zz_e0 s2.toInt t_1_1.toInt (t_1_6) ∧ 0 ≤ t_1_8.toInt ∧ t_1_8.toInt ≤ 14 ∧ s0 = s0 ∧ s2 = s2 ∧ s3 = s3 ∧ s4 = s4 ∧ s5 = s5 ∧ zz_row 14 (rwW T) (t_1_10) ∧ zz_row 14 (rwW T) (t_1_11)
    exact ⟨(by first | exact zz_go_ph (zz_go_two (by assumption) (by assumption) (by omega)) rfl (zz_tbe_un a22).2 | exact zz_go_ph (zz_go_one (by assumption) (by omega)) rfl (zz_tbe_un a22).2), q19, q20, q21, q22, q23, q24, q25, q26, rfl, rfl, rfl, rfl, rfl, q32, q33⟩
set_option maxHeartbeats 4000000 in
theorem wf_X8_lookAtAll_L28 (K : Nat) (hK : 1099511627776 ≤ K) (T : Nat) (hT : T ≤ 900) (n0 : Nat) (n1 : Nat) (n2 : Nat) (n3 : Nat) : ∀ (k : Nat) (x1 : Int32) (s0 : Int32) (s1 : Int32) (s2 : Int32) (s3 : Int32) (s4 : Int32) (s5 : Int32) (s6 : Nat → Int32) (s7 : Nat → Int32) (s8 : Int32) (s9 : Int32) (s10 : Nat → Int32) (s11 : Nat → Int32), n0 = 20000 → n1 = 32768 → n2 = 14 → n3 = 14 → 1 ≤ s0.toInt → s0.toInt ≤ 900000000 → 0 ≤ s1.toInt → s1.toInt ≤ 20000 → zz_ic s5.toInt s0.toInt s1.toInt (s6) (s7) → zz_e0 s2.toInt s1.toInt (s6) → zz_row 14 (rwW T) (s10) → zz_row 14 (rwW T) (s11) → 0 ≤ s8.toInt → s8.toInt ≤ 14 → 1 ≤ s5.toInt → s5.toInt ≤ 14 → 0 ≤ s2.toInt → s2.toInt ≤ 3 → 1 ≤ s3.toInt → s3.toInt ≤ 4 → 1 ≤ s4.toInt → s4.toInt ≤ 8 → 0 ≤ x1.toInt → x1.toInt ≤ 20000 → 20001 - x1.toInt < (k : Int) → zz_ok (m_X8_lookAtAll_L28 K n0 n1 n2 n3 k x1 s0 s1 s2 s3 s4 s5 s6 s7 s8 s9 s10 s11) (fun z => zz_lk s2.toInt s3.toInt s4.toInt s5.toInt (s6) s1.toInt x1.toInt z.1.toInt ∧ 0 ≤ z.1.toInt ∧ z.1.toInt ≤ 2 ∧ s1.toInt ≤ z.2.2.1.toInt ∧ z.2.2.1.toInt ≤ 20000 ∧ zz_ic s5.toInt s0.toInt z.2.2.1.toInt (z.2.2.2.2.2.2.2.1) (z.2.2.2.2.2.2.2.2.1) ∧ zz_e0 s2.toInt z.2.2.1.toInt (z.2.2.2.2.2.2.2.1) ∧ 0 ≤ z.2.2.2.2.2.2.2.2.2.1.toInt ∧ z.2.2.2.2.2.2.2.2.2.1.toInt ≤ 14 ∧ z.2.1 = s0 ∧ z.2.2.2.1 = s2 ∧ z.2.2.2.2.1 = s3 ∧ z.2.2.2.2.2.1 = s4 ∧ z.2.2.2.2.2.2.1 = s5 ∧ zz_row 14 (rwW T) (z.2.2.2.2.2.2.2.2.2.2.2.1) ∧ zz_row 14 (rwW T) (z.2.2.2.2.2.2.2.2.2.2.2.2)) := by
  intro k
  induction k with
  | zero =>
    intro x1 s0 s1 s2 s3 s4 s5 s6 s7 s8 s9 s10 s11 a0 a1 a2 a3 a4 a5 a6 a7 a8 a9 a10 a11 a12 a13 a14 a15 a16 a17 a18 a19 a20 a21 a22 a23 hz9
    exfalso
    have g_x1 := zz_rg x1
    have g_s0 := zz_rg s0
    have g_s1 := zz_rg s1
    have g_s2 := zz_rg s2
    have g_s3 := zz_rg s3
    have g_s4 := zz_rg s4
    have g_s5 := zz_rg s5
    have g_s8 := zz_rg s8
    have g_s9 := zz_rg s9
    omega
  | succ k ih =>
    intro x1 s0 s1 s2 s3 s4 s5 s6 s7 s8 s9 s10 s11 a0 a1 a2 a3 a4 a5 a6 a7 a8 a9 a10 a11 a12 a13 a14 a15 a16 a17 a18 a19 a20 a21 a22 a23 hz9
    rw [m_X8_lookAtAll_L28_s]
    have g1 := zz_rg x1
    have g2 := zz_rg s0
    have g3 := zz_rg s1
    have g4 := zz_rg s2
    have g5 := zz_rg s3
    have g6 := zz_rg s4
    have g7 := zz_rg s5
    have g8 := zz_rg s8
    have g9 := zz_rg s9
    refine zz_ok_ite (fun c10 => ?_) (fun c10 => ?_)
    · have c10 := Int32.le_iff_toInt_le.mp c10
      have l11 : (0 : Int32).toInt = 0 := rfl
      refine zz_ok_some ?_
      show zz_lk s2.toInt s3.toInt s4.toInt s5.toInt (s6) s1.toInt x1.toInt (0 : Int32).toInt ∧ 0 ≤ (0 : Int32).toInt ∧ (0 : Int32).toInt ≤ 2 ∧ s1.toInt ≤ s1.toInt ∧ s1.toInt ≤ 20000 ∧ zz_ic s5.toInt s0.toInt s1.toInt (s6) (s7) ∧ zz_e0 s2.toInt s1.toInt (s6) ∧ 0 ≤ s8.toInt ∧ s8.toInt ≤ 14 ∧ s0 = s0 ∧ s2 = s2 ∧ s3 = s3 ∧ s4 = s4 ∧ s5 = s5 ∧ zz_row 14 (rwW T) (s10) ∧ zz_row 14 (rwW T) (s11)
      exact ⟨(by first | exact zz_lk_end (by omega) (by omega) | exact zz_lk_stop (by assumption) (by omega) (by omega) (by omega) | exact zz_lk_next (by assumption) (by assumption) (by omega) (by omega) (by omega) (by omega) (by omega) (by omega) (by omega) (by omega)), (by omega), (by omega), (by omega), a7, a8, a9, a12, a13, rfl, rfl, rfl, rfl, rfl, a10, a11⟩
    · have c10 := zz_nle c10
      have l13 : (20000 : Int32).toInt = 20000 := rfl
      refine zz_ok_ite (fun c12 => ?_) (fun c12 => ?_)
      · have c12 := Int32.le_iff_toInt_le.mp c12
        have l14 : (0 : Int32).toInt = 0 := rfl
        refine zz_ok_some ?_
        show zz_lk s2.toInt s3.toInt s4.toInt s5.toInt (s6) s1.toInt x1.toInt (0 : Int32).toInt ∧ 0 ≤ (0 : Int32).toInt ∧ (0 : Int32).toInt ≤ 2 ∧ s1.toInt ≤ s1.toInt ∧ s1.toInt ≤ 20000 ∧ zz_ic s5.toInt s0.toInt s1.toInt (s6) (s7) ∧ zz_e0 s2.toInt s1.toInt (s6) ∧ 0 ≤ s8.toInt ∧ s8.toInt ≤ 14 ∧ s0 = s0 ∧ s2 = s2 ∧ s3 = s3 ∧ s4 = s4 ∧ s5 = s5 ∧ zz_row 14 (rwW T) (s10) ∧ zz_row 14 (rwW T) (s11)
        exact ⟨(by first | exact zz_lk_end (by omega) (by omega) | exact zz_lk_stop (by assumption) (by omega) (by omega) (by omega) | exact zz_lk_next (by assumption) (by assumption) (by omega) (by omega) (by omega) (by omega) (by omega) (by omega) (by omega) (by omega)), (by omega), (by omega), (by omega), a7, a8, a9, a12, a13, rfl, rfl, rfl, rfl, rfl, a10, a11⟩
      · have c12 := zz_nle c12
        refine zz_ok_chk (zz_ix (by omega) (by omega)) ?_
        have g15 := zz_tnI x1 (by omega)
        have g16 := zz_rg (s6 x1.toNatClampNeg)
        refine zz_ok_bind (wf_X8_lookAt K hK T hT n0 n1 n2 n3 (s6 x1.toNatClampNeg) s0 s1 s2 s3 s4 s5 s6 s7 s8 s9 s10 s11 a0 a1 a2 a3 a4 a5 a6 a7 a8 a9 a10 a11 a12 a13 a14 a15 a16 a17 a18 a19 a20 a21 (by exact zz_ic_at (by assumption) (by omega)) (by exact zz_e0_at (by assumption) (by omega))) ?_
        intro z17 hz17
        obtain ⟨r_5, t_5_0, t_5_1, t_5_2, t_5_3, t_5_4, t_5_5, t_5_6, t_5_7, t_5_8, t_5_9, t_5_10, t_5_11⟩ := z17
        have q18 : zz_go s2.toInt s3.toInt s4.toInt s5.toInt (s6) s1.toInt (t_5_6) t_5_1.toInt (zz_cc (s6 x1.toNatClampNeg)) 1 (s3.toInt + 1 + s5.toInt) r_5.toInt := hz17.1
        have q19 : 0 ≤ r_5.toInt := hz17.2.1
        have q20 : r_5.toInt ≤ 2 := hz17.2.2.1
        have q21 : s1.toInt ≤ t_5_1.toInt := hz17.2.2.2.1
        have q22 : t_5_1.toInt ≤ 20000 := hz17.2.2.2.2.1
        have q23 : zz_ic s5.toInt s0.toInt t_5_1.toInt (t_5_6) (t_5_7) := hz17.2.2.2.2.2.1
        have q24 : zz_e0 s2.toInt t_5_1.toInt (t_5_6) := hz17.2.2.2.2.2.2.1
        have q25 : 0 ≤ t_5_8.toInt := hz17.2.2.2.2.2.2.2.1
        have q26 : t_5_8.toInt ≤ 14 := hz17.2.2.2.2.2.2.2.2.1
        have q27 : t_5_0 = s0 := hz17.2.2.2.2.2.2.2.2.2.1
        have q28 : t_5_2 = s2 := hz17.2.2.2.2.2.2.2.2.2.2.1
        have q29 : t_5_3 = s3 := hz17.2.2.2.2.2.2.2.2.2.2.2.1
        have q30 : t_5_4 = s4 := hz17.2.2.2.2.2.2.2.2.2.2.2.2.1
        have q31 : t_5_5 = s5 := hz17.2.2.2.2.2.2.2.2.2.2.2.2.2.1
        have q32 : zz_row 14 (rwW T) (t_5_10) := hz17.2.2.2.2.2.2.2.2.2.2.2.2.2.2.1
        have q33 : zz_row 14 (rwW T) (t_5_11) := hz17.2.2.2.2.2.2.2.2.2.2.2.2.2.2.2
        clear hz17
        have e34 : s0 = t_5_0 := q27.symm
        subst e34
        have e35 : s2 = t_5_2 := q28.symm
        subst e35
        have e36 : s3 = t_5_3 := q29.symm
        subst e36
        have e37 : s4 = t_5_4 := q30.symm
        subst e37
        have e38 : s5 = t_5_5 := q31.symm
        subst e38
        have g39 := zz_rg r_5
        have g40 := zz_rg t_5_1
        have g41 := zz_rg t_5_8
        have g42 := zz_rg t_5_9
        show zz_ok (if r_5 = 0 then (m_X8_lookAtAll_L28 K n0 n1 n2 n3 k (x1 + 1) s0 t_5_1 s2 s3 s4 s5 t_5_6 t_5_7 t_5_8 t_5_9 t_5_10 t_5_11) else (some (r_5, s0, t_5_1, s2, s3, s4, s5, t_5_6, t_5_7, t_5_8, t_5_9, t_5_10, t_5_11))) _
        have l44 : (0 : Int32).toInt = 0 := rfl
        refine zz_ok_ite (fun c43 => ?_) (fun c43 => ?_)
        · have c43 := congrArg Int32.toInt c43
          have l45 : (1 : Int32).toInt = 1 := rfl
          obtain ⟨k46, f47⟩ := zz_add x1 (1 : Int32)
          have g48 := zz_rg (x1 + 1)
          refine (ih (x1 + 1) s0 t_5_1 s2 s3 s4 s5 t_5_6 t_5_7 t_5_8 t_5_9 t_5_10 t_5_11 a0 a1 a2 a3 a4 a5 (by omega) q22 q23 q24 q32 q33 q25 q26 a14 a15 a16 a17 a18 a19 a20 a21 (by omega) (by omega) (by omega)).mono (fun z hz => ?_)
          obtain ⟨y49_0, y49_1, y49_2, y49_3, y49_4, y49_5, y49_6, y49_7, y49_8, y49_9, y49_10, y49_11, y49_12⟩ := z
          have q50 : zz_lk s2.toInt s3.toInt s4.toInt s5.toInt (t_5_6) t_5_1.toInt (x1 + 1).toInt y49_0.toInt := hz.1
          have q51 : 0 ≤ y49_0.toInt := hz.2.1
          have q52 : y49_0.toInt ≤ 2 := hz.2.2.1
          have q53 : t_5_1.toInt ≤ y49_2.toInt := hz.2.2.2.1
          have q54 : y49_2.toInt ≤ 20000 := hz.2.2.2.2.1
          have q55 : zz_ic s5.toInt s0.toInt y49_2.toInt (y49_7) (y49_8) := hz.2.2.2.2.2.1
          have q56 : zz_e0 s2.toInt y49_2.toInt (y49_7) := hz.2.2.2.2.2.2.1
          have q57 : 0 ≤ y49_9.toInt := hz.2.2.2.2.2.2.2.1
          have q58 : y49_9.toInt ≤ 14 := hz.2.2.2.2.2.2.2.2.1
          have q59 : y49_1 = s0 := hz.2.2.2.2.2.2.2.2.2.1
          have q60 : y49_3 = s2 := hz.2.2.2.2.2.2.2.2.2.2.1
          have q61 : y49_4 = s3 := hz.2.2.2.2.2.2.2.2.2.2.2.1
          have q62 : y49_5 = s4 := hz.2.2.2.2.2.2.2.2.2.2.2.2.1
          have q63 : y49_6 = s5 := hz.2.2.2.2.2.2.2.2.2.2.2.2.2.1
          have q64 : zz_row 14 (rwW T) (y49_11) := hz.2.2.2.2.2.2.2.2.2.2.2.2.2.2.1
          have q65 : zz_row 14 (rwW T) (y49_12) := hz.2.2.2.2.2.2.2.2.2.2.2.2.2.2.2
          clear hz
          have e66 : s0 = y49_1 := q59.symm
          subst e66
          have e67 : s2 = y49_3 := q60.symm
          subst e67
          have e68 : s3 = y49_4 := q61.symm
          subst e68
          have e69 : s4 = y49_5 := q62.symm
          subst e69
          have e70 : s5 = y49_6 := q63.symm
          subst e70
          have g71 := zz_rg y49_0
          have g72 := zz_rg y49_2
          have g73 := zz_rg y49_9
          have g74 := zz_rg y49_10
          show zz_lk s2.toInt s3.toInt s4.toInt s5.toInt (s6) s1.toInt x1.toInt y49_0.toInt ∧ 0 ≤ y49_0.toInt ∧ y49_0.toInt ≤ 2 ∧ s1.toInt ≤ y49_2.toInt ∧ y49_2.toInt ≤ 20000 ∧ zz_ic s5.toInt s0.toInt y49_2.toInt (y49_7) (y49_8) ∧ zz_e0 s2.toInt y49_2.toInt (y49_7) ∧ 0 ≤ y49_9.toInt ∧ y49_9.toInt ≤ 14 ∧ s0 = s0 ∧ s2 = s2 ∧ s3 = s3 ∧ s4 = s4 ∧ s5 = s5 ∧ zz_row 14 (rwW T) (y49_11) ∧ zz_row 14 (rwW T) (y49_12)
          exact ⟨(by first | exact zz_lk_end (by omega) (by omega) | exact zz_lk_stop (by assumption) (by omega) (by omega) (by omega) | exact zz_lk_next (by assumption) (by assumption) (by omega) (by omega) (by omega) (by omega) (by omega) (by omega) (by omega) (by omega)), q51, q52, (by omega), q54, q55, q56, q57, q58, rfl, rfl, rfl, rfl, rfl, q64, q65⟩
        · have c43 := zz_neq c43
          refine zz_ok_some ?_
          show zz_lk s2.toInt s3.toInt s4.toInt s5.toInt (s6) s1.toInt x1.toInt r_5.toInt ∧ 0 ≤ r_5.toInt ∧ r_5.toInt ≤ 2 ∧ s1.toInt ≤ t_5_1.toInt ∧ t_5_1.toInt ≤ 20000 ∧ zz_ic s5.toInt s0.toInt t_5_1.toInt (t_5_6) (t_5_7) ∧ zz_e0 s2.toInt t_5_1.toInt (t_5_6) ∧ 0 ≤ t_5_8.toInt ∧ t_5_8.toInt ≤ 14 ∧ s0 = s0 ∧ s2 = s2 ∧ s3 = s3 ∧ s4 = s4 ∧ s5 = s5 ∧ zz_row 14 (rwW T) (t_5_10) ∧ zz_row 14 (rwW T) (t_5_11)
          exact ⟨(by first | exact zz_lk_end (by omega) (by omega) | exact zz_lk_stop (by assumption) (by omega) (by omega) (by omega) | exact zz_lk_next (by assumption) (by assumption) (by omega) (by omega) (by omega) (by omega) (by omega) (by omega) (by omega) (by omega)), q19, q20, q21, q22, q23, q24, q25, q26, rfl, rfl, rfl, rfl, rfl, q32, q33⟩
set_option maxHeartbeats 4000000 in
theorem wf_X8_lookAtAll (K : Nat) (hK : 1099511627776 ≤ K) (T : Nat) (hT : T ≤ 900) (n0 : Nat) (n1 : Nat) (n2 : Nat) (n3 : Nat) (s0 : Int32) (s1 : Int32) (s2 : Int32) (s3 : Int32) (s4 : Int32) (s5 : Int32) (s6 : Nat → Int32) (s7 : Nat → Int32) (s8 : Int32) (s9 : Int32) (s10 : Nat → Int32) (s11 : Nat → Int32) (a0 : n0 = 20000) (a1 : n1 = 32768) (a2 : n2 = 14) (a3 : n3 = 14) (a4 : 1 ≤ s0.toInt) (a5 : 0 ≤ s1.toInt) (a6 : s1.toInt ≤ 20000) (a7 : zz_row 14 (rwW T) (s10)) (a8 : zz_row 14 (rwW T) (s11)) (a9 : 0 ≤ s8.toInt) (a10 : s8.toInt ≤ 14) (a11 : 1 ≤ s5.toInt) (a12 : s5.toInt ≤ 14) (a13 : 0 ≤ s2.toInt) (a14 : s2.toInt ≤ 3) (a15 : 1 ≤ s3.toInt) (a16 : s3.toInt ≤ 4) (a17 : 1 ≤ s4.toInt) (a18 : s4.toInt ≤ 8) (a19 : s0.toInt + s1.toInt ≤ 900000000) (a20 : zz_icx s0.toInt s1.toInt (s6) (s7)) : zz_ok (m_X8_lookAtAll K n0 n1 n2 n3 s0 s1 s2 s3 s4 s5 s6 s7 s8 s9 s10 s11) (fun z => zz_l0 s2.toInt s3.toInt s4.toInt s5.toInt z.1.toInt ∧ 0 ≤ z.1.toInt ∧ z.1.toInt ≤ 2 ∧ z.2.2.1.toInt ≤ 20000 ∧ zz_e0 s2.toInt z.2.2.1.toInt (z.2.2.2.2.2.2.2.1) ∧ 0 ≤ z.2.2.2.2.2.2.2.2.2.1.toInt ∧ z.2.2.2.2.2.2.2.2.2.1.toInt ≤ 14 ∧ z.2.2.2.1 = s2 ∧ z.2.2.2.2.1 = s3 ∧ z.2.2.2.2.2.1 = s4 ∧ z.2.2.2.2.2.2.1 = s5 ∧ zz_row 14 (rwW T) (z.2.2.2.2.2.2.2.2.2.2.2.1) ∧ zz_row 14 (rwW T) (z.2.2.2.2.2.2.2.2.2.2.2.2) ∧ z.2.1.toInt = s0.toInt + s1.toInt ∧ zz_ic s5.toInt z.2.1.toInt z.2.2.1.toInt (z.2.2.2.2.2.2.2.1) (z.2.2.2.2.2.2.2.2.1) ∧ 0 ≤ z.2.2.1.toInt) := by
  have g1 := zz_rg s0
  have g2 := zz_rg s1
  have g3 := zz_rg s2
  have g4 := zz_rg s3
  have g5 := zz_rg s4
  have g6 := zz_rg s5
  have g7 := zz_rg s8
  have g8 := zz_rg s9
  unfold m_X8_lookAtAll
  have l9 : (0 : Int32).toInt = 0 := rfl
  obtain ⟨k10, f11⟩ := zz_add s0 s1
  have g12 := zz_rg (s0 + s1)
  refine zz_ok_bind (wf_X8_meet K hK T hT n0 n1 n2 n3 ((0 : Int32)) ((0 : Int32)) ((0 : Int32)) (s0 + s1) ((0 : Int32)) s2 s3 s4 s5 s6 s7 s8 s9 s10 s11 a0 a1 a2 a3 (by omega) (by omega) (by omega) (by omega) (by exact zz_icx_new (by assumption) (by omega) (by omega)) (by exact zz_e0_0 (by omega)) (by exact zz_tbe_0) (by omega)) ?_
  intro z13 hz13
  obtain ⟨r_1, t_1_0, t_1_1, t_1_2, t_1_3, t_1_4, t_1_5, t_1_6, t_1_7, t_1_8, t_1_9, t_1_10, t_1_11⟩ := z13
  have q14 : (r_1.toInt = 0 ∨ r_1.toInt = 1) := hz13.1
  have q15 : ((0 : Int32)).toInt ≤ t_1_1.toInt := hz13.2.1
  have q16 : t_1_1.toInt ≤ 20000 := hz13.2.2.1
  have q17 : zz_ic s5.toInt (s0 + s1).toInt t_1_1.toInt (t_1_6) (t_1_7) := hz13.2.2.2.1
  have q18 : zz_e0 s2.toInt t_1_1.toInt (t_1_6) := hz13.2.2.2.2.1
  have q19 : zz_mt (s6) ((0 : Int32)).toInt (t_1_6) t_1_1.toInt (zz_rv ((0 : Int32)) ((0 : Int32)) ((0 : Int32))) r_1.toInt := hz13.2.2.2.2.2.1
  have q20 : t_1_0 = (s0 + s1) := hz13.2.2.2.2.2.2.1
  have q21 : t_1_2 = s2 := hz13.2.2.2.2.2.2.2.1
  have q22 : t_1_3 = s3 := hz13.2.2.2.2.2.2.2.2.1
  have q23 : t_1_4 = s4 := hz13.2.2.2.2.2.2.2.2.2.1
  have q24 : t_1_5 = s5 := hz13.2.2.2.2.2.2.2.2.2.2.1
  have q25 : t_1_8 = s8 := hz13.2.2.2.2.2.2.2.2.2.2.2.1
  have q26 : t_1_9 = s9 := hz13.2.2.2.2.2.2.2.2.2.2.2.2.1
  have q27 : t_1_10 = s10 := hz13.2.2.2.2.2.2.2.2.2.2.2.2.2.1
  have q28 : t_1_11 = s11 := hz13.2.2.2.2.2.2.2.2.2.2.2.2.2.2
  clear hz13
  have e29 : (s0 + s1) = t_1_0 := q20.symm
  subst e29
  have e30 : s2 = t_1_2 := q21.symm
  subst e30
  have e31 : s3 = t_1_3 := q22.symm
  subst e31
  have e32 : s4 = t_1_4 := q23.symm
  subst e32
  have e33 : s5 = t_1_5 := q24.symm
  subst e33
  have e34 : s8 = t_1_8 := q25.symm
  subst e34
  have e35 : s9 = t_1_9 := q26.symm
  subst e35
  have e36 : s10 = t_1_10 := q27.symm
  subst e36
  have e37 : s11 = t_1_11 := q28.symm
  subst e37
  have g38 := zz_rg r_1
  have g39 := zz_rg t_1_1
  show zz_ok (m_X8_lookAtAll_L28 K n0 n1 n2 n3 K ((0 : Int32)) (s0 + s1) t_1_1 s2 s3 s4 s5 t_1_6 t_1_7 s8 s9 s10 s11) _
  refine (wf_X8_lookAtAll_L28 K hK T hT n0 n1 n2 n3 K ((0 : Int32)) (s0 + s1) t_1_1 s2 s3 s4 s5 t_1_6 t_1_7 s8 s9 s10 s11 a0 a1 a2 a3 (by omega) (by omega) (by omega) q16 q17 q18 a7 a8 a9 a10 a11 a12 a13 a14 a15 a16 a17 a18 (by omega) (by omega) (by omega)).mono (fun z hz => ?_)
  obtain ⟨y40_0, y40_1, y40_2, y40_3, y40_4, y40_5, y40_6, y40_7, y40_8, y40_9, y40_10, y40_11, y40_12⟩ := z
  have q41 : zz_lk s2.toInt s3.toInt s4.toInt s5.toInt (t_1_6) t_1_1.toInt ((0 : Int32)).toInt y40_0.toInt := hz.1
  have q42 : 0 ≤ y40_0.toInt := hz.2.1
  have q43 : y40_0.toInt ≤ 2 := hz.2.2.1
  have q44 : t_1_1.toInt ≤ y40_2.toInt := hz.2.2.2.1
  have q45 : y40_2.toInt ≤ 20000 := hz.2.2.2.2.1
  have q46 : zz_ic s5.toInt (s0 + s1).toInt y40_2.toInt (y40_7) (y40_8) := hz.2.2.2.2.2.1
  have q47 : zz_e0 s2.toInt y40_2.toInt (y40_7) := hz.2.2.2.2.2.2.1
  have q48 : 0 ≤ y40_9.toInt := hz.2.2.2.2.2.2.2.1
  have q49 : y40_9.toInt ≤ 14 := hz.2.2.2.2.2.2.2.2.1
  have q50 : y40_1 = (s0 + s1) := hz.2.2.2.2.2.2.2.2.2.1
  have q51 : y40_3 = s2 := hz.2.2.2.2.2.2.2.2.2.2.1
  have q52 : y40_4 = s3 := hz.2.2.2.2.2.2.2.2.2.2.2.1
  have q53 : y40_5 = s4 := hz.2.2.2.2.2.2.2.2.2.2.2.2.1
  have q54 : y40_6 = s5 := hz.2.2.2.2.2.2.2.2.2.2.2.2.2.1
  have q55 : zz_row 14 (rwW T) (y40_11) := hz.2.2.2.2.2.2.2.2.2.2.2.2.2.2.1
  have q56 : zz_row 14 (rwW T) (y40_12) := hz.2.2.2.2.2.2.2.2.2.2.2.2.2.2.2
  clear hz
  have e57 : (s0 + s1) = y40_1 := q50.symm
  subst e57
  have e58 : s2 = y40_3 := q51.symm
  subst e58
  have e59 : s3 = y40_4 := q52.symm
  subst e59
  have e60 : s4 = y40_5 := q53.symm
  subst e60
  have e61 : s5 = y40_6 := q54.symm
  subst e61
  have g62 := zz_rg y40_0
  have g63 := zz_rg y40_2
  have g64 := zz_rg y40_9
  have g65 := zz_rg y40_10
  show zz_l0 s2.toInt s3.toInt s4.toInt s5.toInt y40_0.toInt ∧ 0 ≤ y40_0.toInt ∧ y40_0.toInt ≤ 2 ∧ y40_2.toInt ≤ 20000 ∧ zz_e0 s2.toInt y40_2.toInt (y40_7) ∧ 0 ≤ y40_9.toInt ∧ y40_9.toInt ≤ 14 ∧ s2 = s2 ∧ s3 = s3 ∧ s4 = s4 ∧ s5 = s5 ∧ zz_row 14 (rwW T) (y40_11) ∧ zz_row 14 (rwW T) (y40_12) ∧ (s0 + s1).toInt = s0.toInt + s1.toInt ∧ zz_ic s5.toInt (s0 + s1).toInt y40_2.toInt (y40_7) (y40_8) ∧ 0 ≤ y40_2.toInt
  exact ⟨(by exact zz_l0_mk (by assumption) (by assumption) (by omega) (by omega)), q42, q43, q45, q47, q48, q49, rfl, rfl, rfl, rfl, q55, q56, (by omega), q46, (by omega)⟩

set_option maxHeartbeats 4000000 in
theorem wf_X8_addRoom (K : Nat) (hK : 1099511627776 ≤ K) (T : Nat) (hT : T ≤ 900) (n0 : Nat) (n1 : Nat) (n2 : Nat) (n3 : Nat) (p1 : Int32) (p2 : Int32) (s0 : Int32) (s1 : Int32) (s2 : Int32) (s3 : Int32) (s4 : Int32) (s5 : Int32) (s6 : Nat → Int32) (s7 : Nat → Int32) (s8 : Int32) (s9 : Int32) (s10 : Nat → Int32) (s11 : Nat → Int32) (a0 : n0 = 20000) (a1 : n1 = 32768) (a2 : n2 = 14) (a3 : n3 = 14) (a4 : 1 ≤ s0.toInt) (a5 : s0.toInt ≤ 900000000) (a6 : 0 ≤ s1.toInt) (a7 : s1.toInt ≤ 20000) (a8 : 0 ≤ p2.toInt) (a9 : p2.toInt ≤ 32767) : zz_ok (m_X8_addRoom K n0 n1 n2 n3 p1 p2 s0 s1 s2 s3 s4 s5 s6 s7 s8 s9 s10 s11) (fun z => (z.1.toInt = 0 ∨ z.1.toInt = 1) ∧ s1.toInt ≤ z.2.2.1.toInt ∧ z.2.2.1.toInt ≤ 20000 ∧ zz_ar s1.toInt (s6) (s7) z.2.2.1.toInt (z.2.2.2.2.2.2.2.1) (z.2.2.2.2.2.2.2.2.1) (p1) p2.toNatClampNeg s0.toInt z.1.toInt ∧ z.2.1 = s0 ∧ z.2.2.2.1 = s2 ∧ z.2.2.2.2.1 = s3 ∧ z.2.2.2.2.2.1 = s4 ∧ z.2.2.2.2.2.2.1 = s5 ∧ z.2.2.2.2.2.2.2.2.2.1 = s8 ∧ z.2.2.2.2.2.2.2.2.2.2.1 = s9 ∧ z.2.2.2.2.2.2.2.2.2.2.2.1 = s10 ∧ z.2.2.2.2.2.2.2.2.2.2.2.2 = s11) := by
  have g1 := zz_rg p1
  have g2 := zz_rg p2
  have g3 := zz_rg s0
  have g4 := zz_rg s1
  have g5 := zz_rg s2
  have g6 := zz_rg s3
  have g7 := zz_rg s4
  have g8 := zz_rg s5
  have g9 := zz_rg s8
  have g10 := zz_rg s9
  unfold m_X8_addRoom
  have l12 : (20000 : Int32).toInt = 20000 := rfl
  refine zz_ok_ite (fun c11 => ?_) (fun c11 => ?_)
  · have c11 := Int32.lt_iff_toInt_lt.mp c11
    refine zz_ok_chk (zz_ix (by omega) (by omega)) ?_
    have g13 := zz_tnI s1 (by omega)
    refine zz_ok_chk (zz_ix (by omega) (by omega)) ?_
    have g14 := zz_tnI p2 (by omega)
    have l15 : (1 : Int32).toInt = 1 := rfl
    obtain ⟨k16, f17⟩ := zz_add s1 (1 : Int32)
    have g18 := zz_rg (s1 + ((1 : Int32)))
    refine zz_ok_some ?_
    show ((1 : Int32).toInt = 0 ∨ (1 : Int32).toInt = 1) ∧ s1.toInt ≤ (s1 + ((1 : Int32))).toInt ∧ (s1 + ((1 : Int32))).toInt ≤ 20000 ∧ zz_ar s1.toInt (s6) (s7) (s1 + ((1 : Int32))).toInt ((upd s6 s1.toNatClampNeg p1)) ((upd s7 p2.toNatClampNeg (s0 + s1))) (p1) p2.toNatClampNeg s0.toInt (1 : Int32).toInt ∧ s0 = s0 ∧ s2 = s2 ∧ s3 = s3 ∧ s4 = s4 ∧ s5 = s5 ∧ s8 = s8 ∧ s9 = s9 ∧ s10 = s10 ∧ s11 = s11
    exact ⟨(by omega), (by omega), (by omega), (by first | exact Or.inl ⟨by omega, by omega, by omega, ⟨s1.toNatClampNeg, by omega, rfl⟩, s0 + s1, zz_addE _ _ (by omega) (by omega) (by omega), rfl⟩ | exact Or.inr ⟨by omega, by omega, by omega, rfl, rfl⟩), rfl, rfl, rfl, rfl, rfl, rfl, rfl, rfl, rfl⟩
  · have c11 := zz_nlt c11
    have l19 : (0 : Int32).toInt = 0 := rfl
    refine zz_ok_some ?_
    show ((0 : Int32).toInt = 0 ∨ (0 : Int32).toInt = 1) ∧ s1.toInt ≤ s1.toInt ∧ s1.toInt ≤ 20000 ∧ zz_ar s1.toInt (s6) (s7) s1.toInt (s6) (s7) (p1) p2.toNatClampNeg s0.toInt (0 : Int32).toInt ∧ s0 = s0 ∧ s2 = s2 ∧ s3 = s3 ∧ s4 = s4 ∧ s5 = s5 ∧ s8 = s8 ∧ s9 = s9 ∧ s10 = s10 ∧ s11 = s11
    exact ⟨(by omega), (by omega), a7, (by first | exact Or.inl ⟨by omega, by omega, by omega, ⟨s1.toNatClampNeg, by omega, rfl⟩, s0 + s1, zz_addE _ _ (by omega) (by omega) (by omega), rfl⟩ | exact Or.inr ⟨by omega, by omega, by omega, rfl, rfl⟩), rfl, rfl, rfl, rfl, rfl, rfl, rfl, rfl, rfl⟩
set_option maxHeartbeats 4000000 in
theorem wf_X8_meet_L26 (K : Nat) (hK : 1099511627776 ≤ K) (T : Nat) (hT : T ≤ 900) (n0 : Nat) (n1 : Nat) (n2 : Nat) (n3 : Nat) : ∀ (k : Nat) (x1 : Int32) (x2 : Int32) (x3 : Int32) (x4 : Int32) (x5 : Int32) (x6 : Int32) (s0 : Int32) (s1 : Int32) (s2 : Int32) (s3 : Int32) (s4 : Int32) (s5 : Int32) (s6 : Nat → Int32) (s7 : Nat → Int32) (s8 : Int32) (s9 : Int32) (s10 : Nat → Int32) (s11 : Nat → Int32), n0 = 20000 → n1 = 32768 → n2 = 14 → n3 = 14 → 1 ≤ s0.toInt → s0.toInt ≤ 900000000 → 0 ≤ s1.toInt → s1.toInt ≤ 20000 → zz_ic s5.toInt s0.toInt s1.toInt (s6) (s7) → zz_e0 s2.toInt s1.toInt (s6) → 0 ≤ x5.toInt → x5.toInt ≤ 32767 → 0 ≤ x6.toInt → x6.toInt ≤ 32768 → zz_cw s5.toInt (x4) → zz_c0 s2.toInt (x4) → zz_pp s0.toInt (s6) (s7) (x4) x6.toInt x5.toInt → 32769 - x6.toInt < (k : Int) → zz_ok (m_X8_meet_L26 K n0 n1 n2 n3 k x1 x2 x3 x4 x5 x6 s0 s1 s2 s3 s4 s5 s6 s7 s8 s9 s10 s11) (fun z => (z.1.toInt = 0 ∨ z.1.toInt = 1) ∧ s1.toInt ≤ z.2.2.1.toInt ∧ z.2.2.1.toInt ≤ 20000 ∧ zz_ic s5.toInt s0.toInt z.2.2.1.toInt (z.2.2.2.2.2.2.2.1) (z.2.2.2.2.2.2.2.2.1) ∧ zz_e0 s2.toInt z.2.2.1.toInt (z.2.2.2.2.2.2.2.1) ∧ zz_mt (s6) s1.toInt (z.2.2.2.2.2.2.2.1) z.2.2.1.toInt (zz_cc x4) z.1.toInt ∧ z.2.1 = s0 ∧ z.2.2.2.1 = s2 ∧ z.2.2.2.2.1 = s3 ∧ z.2.2.2.2.2.1 = s4 ∧ z.2.2.2.2.2.2.1 = s5 ∧ z.2.2.2.2.2.2.2.2.2.1 = s8 ∧ z.2.2.2.2.2.2.2.2.2.2.1 = s9 ∧ z.2.2.2.2.2.2.2.2.2.2.2.1 = s10 ∧ z.2.2.2.2.2.2.2.2.2.2.2.2 = s11) := by
  intro k
  induction k with
  | zero =>
    intro x1 x2 x3 x4 x5 x6 s0 s1 s2 s3 s4 s5 s6 s7 s8 s9 s10 s11 a0 a1 a2 a3 a4 a5 a6 a7 a8 a9 a10 a11 a12 a13 a14 a15 a16 hz9
    exfalso
    have g_x1 := zz_rg x1
    have g_x2 := zz_rg x2
    have g_x3 := zz_rg x3
    have g_x4 := zz_rg x4
    have g_x5 := zz_rg x5
    have g_x6 := zz_rg x6
    have g_s0 := zz_rg s0
    have g_s1 := zz_rg s1
    have g_s2 := zz_rg s2
    have g_s3 := zz_rg s3
    have g_s4 := zz_rg s4
    have g_s5 := zz_rg s5
    have g_s8 := zz_rg s8
    have g_s9 := zz_rg s9
    omega
  | succ k ih =>
    intro x1 x2 x3 x4 x5 x6 s0 s1 s2 s3 s4 s5 s6 s7 s8 s9 s10 s11 a0 a1 a2 a3 a4 a5 a6 a7 a8 a9 a10 a11 a12 a13 a14 a15 a16 hz9
    rw [m_X8_meet_L26_s]
    have g1 := zz_rg x1
    have g2 := zz_rg x2
    have g3 := zz_rg x3
    have g4 := zz_rg x4
    have g5 := zz_rg x5
    have g6 := zz_rg x6
    have g7 := zz_rg s0
    have g8 := zz_rg s1
    have g9 := zz_rg s2
    have g10 := zz_rg s3
    have g11 := zz_rg s4
    have g12 := zz_rg s5
    have g13 := zz_rg s8
    have g14 := zz_rg s9
    have tn9 := zz_tnI x5 (by omega)
    have ic9 := zz_ic_rg (by assumption : zz_ic s5.toInt s0.toInt s1.toInt s6 s7) (s := x5.toNatClampNeg) (by omega)
    have l16 : (32768 : Int32).toInt = 32768 := rfl
    refine zz_ok_ite (fun c15 => ?_) (fun c15 => ?_)
    · have c15 := Int32.le_iff_toInt_le.mp c15
      have l17 : (0 : Int32).toInt = 0 := rfl
      refine zz_ok_some ?_
      show ((0 : Int32).toInt = 0 ∨ (0 : Int32).toInt = 1) ∧ s1.toInt ≤ s1.toInt ∧ s1.toInt ≤ 20000 ∧ zz_ic s5.toInt s0.toInt s1.toInt (s6) (s7) ∧ zz_e0 s2.toInt s1.toInt (s6) ∧ zz_mt (s6) s1.toInt (s6) s1.toInt (zz_cc x4) (0 : Int32).toInt ∧ s0 = s0 ∧ s2 = s2 ∧ s3 = s3 ∧ s4 = s4 ∧ s5 = s5 ∧ s8 = s8 ∧ s9 = s9 ∧ s10 = s10 ∧ s11 = s11
      exact ⟨(by omega), (by omega), a7, a8, a9, (by first | exact zz_ar_mt (by assumption) (by assumption) (by assumption) (by assumption) (by omega) (by omega) (by omega) (by omega) | exact Or.inl ⟨zz_pp_in (i := x5.toNatClampNeg) (j := ((s7 x5.toNatClampNeg) - s0).toNatClampNeg) (by assumption) (by omega) (by omega) (Int32.toInt_inj.mp (by omega)), rfl, by omega⟩ | exact (zz_pp_full (by assumption) (by assumption) (by omega) (by omega)).elim), rfl, rfl, rfl, rfl, rfl, rfl, rfl, rfl, rfl⟩
    · have c15 := zz_nle c15
      refine zz_ok_chk (zz_ix (by omega) (by omega)) ?_
      have g18 := zz_tnI x5 (by omega)
      have g20 := zz_rg (s7 x5.toNatClampNeg)
      obtain ⟨k21, f22⟩ := zz_sub (s7 x5.toNatClampNeg) s0
      have g23 := zz_rg ((s7 x5.toNatClampNeg) - s0)
      have l24 : (0 : Int32).toInt = 0 := rfl
      refine zz_ok_ite (fun c19 => ?_) (fun c19 => ?_)
      · have c19 := Int32.lt_iff_toInt_lt.mp c19
        refine zz_ok_bind (wf_X8_addRoom K hK T hT n0 n1 n2 n3 x4 x5 s0 s1 s2 s3 s4 s5 s6 s7 s8 s9 s10 s11 a0 a1 a2 a3 a4 a5 a6 a7 a10 a11) ?_
        intro z25 hz25
        obtain ⟨r_4, t_4_0, t_4_1, t_4_2, t_4_3, t_4_4, t_4_5, t_4_6, t_4_7, t_4_8, t_4_9, t_4_10, t_4_11⟩ := z25
        have q26 : (r_4.toInt = 0 ∨ r_4.toInt = 1) := hz25.1
        have q27 : s1.toInt ≤ t_4_1.toInt := hz25.2.1
        have q28 : t_4_1.toInt ≤ 20000 := hz25.2.2.1
        have q29 : zz_ar s1.toInt (s6) (s7) t_4_1.toInt (t_4_6) (t_4_7) (x4) x5.toNatClampNeg s0.toInt r_4.toInt := hz25.2.2.2.1
        have q30 : t_4_0 = s0 := hz25.2.2.2.2.1
        have q31 : t_4_2 = s2 := hz25.2.2.2.2.2.1
        have q32 : t_4_3 = s3 := hz25.2.2.2.2.2.2.1
        have q33 : t_4_4 = s4 := hz25.2.2.2.2.2.2.2.1
        have q34 : t_4_5 = s5 := hz25.2.2.2.2.2.2.2.2.1
        have q35 : t_4_8 = s8 := hz25.2.2.2.2.2.2.2.2.2.1
        have q36 : t_4_9 = s9 := hz25.2.2.2.2.2.2.2.2.2.2.1
        have q37 : t_4_10 = s10 := hz25.2.2.2.2.2.2.2.2.2.2.2.1
        have q38 : t_4_11 = s11 := hz25.2.2.2.2.2.2.2.2.2.2.2.2
        clear hz25
        have e39 : s0 = t_4_0 := q30.symm
        subst e39
        have e40 : s2 = t_4_2 := q31.symm
        subst e40
        have e41 : s3 = t_4_3 := q32.symm
        subst e41
        have e42 : s4 = t_4_4 := q33.symm
        subst e42
        have e43 : s5 = t_4_5 := q34.symm
        subst e43
        have e44 : s8 = t_4_8 := q35.symm
        subst e44
        have e45 : s9 = t_4_9 := q36.symm
        subst e45
        have e46 : s10 = t_4_10 := q37.symm
        subst e46
        have e47 : s11 = t_4_11 := q38.symm
        subst e47
        have g48 := zz_rg r_4
        have g49 := zz_rg t_4_1
        show zz_ok (if r_4 = 0 ∨ r_4 = 1 then (some (r_4, s0, t_4_1, s2, s3, s4, s5, t_4_6, t_4_7, s8, s9, s10, s11)) else none) _
        refine zz_ok_chk (zz_01 (by omega)) ?_
        refine zz_ok_some ?_
        show (r_4.toInt = 0 ∨ r_4.toInt = 1) ∧ s1.toInt ≤ t_4_1.toInt ∧ t_4_1.toInt ≤ 20000 ∧ zz_ic s5.toInt s0.toInt t_4_1.toInt (t_4_6) (t_4_7) ∧ zz_e0 s2.toInt t_4_1.toInt (t_4_6) ∧ zz_mt (s6) s1.toInt (t_4_6) t_4_1.toInt (zz_cc x4) r_4.toInt ∧ s0 = s0 ∧ s2 = s2 ∧ s3 = s3 ∧ s4 = s4 ∧ s5 = s5 ∧ s8 = s8 ∧ s9 = s9 ∧ s10 = s10 ∧ s11 = s11
        exact ⟨q26, q27, q28, (by exact zz_ar_ic (by assumption) (by assumption) (by assumption) (by assumption) (by omega) (by omega) (by omega) (by omega) (by omega) (by omega)), (by exact zz_ar_e0 (by assumption) (by assumption) (by assumption)), (by first | exact zz_ar_mt (by assumption) (by assumption) (by assumption) (by assumption) (by omega) (by omega) (by omega) (by omega) | exact Or.inl ⟨zz_pp_in (i := x5.toNatClampNeg) (j := ((s7 x5.toNatClampNeg) - s0).toNatClampNeg) (by assumption) (by omega) (by omega) (Int32.toInt_inj.mp (by omega)), rfl, by omega⟩ | exact (zz_pp_full (by assumption) (by assumption) (by omega) (by omega)).elim), rfl, rfl, rfl, rfl, rfl, rfl, rfl, rfl, rfl⟩
      · have c19 := zz_nlt c19
        refine zz_ok_ite (fun c50 => ?_) (fun c50 => ?_)
        · have c50 := Int32.lt_iff_toInt_lt.mp c50
          refine zz_ok_chk (zz_ix (by omega) (by omega)) ?_
          have g51 := zz_tnI ((s7 x5.toNatClampNeg) - s0) (by omega)
          have g53 := zz_rg (s6 ((s7 x5.toNatClampNeg) - s0).toNatClampNeg)
          refine zz_ok_ite (fun c52 => ?_) (fun c52 => ?_)
          · have c52 := congrArg Int32.toInt c52
            have l54 : (1 : Int32).toInt = 1 := rfl
            refine zz_ok_some ?_
            show ((1 : Int32).toInt = 0 ∨ (1 : Int32).toInt = 1) ∧ s1.toInt ≤ s1.toInt ∧ s1.toInt ≤ 20000 ∧ zz_ic s5.toInt s0.toInt s1.toInt (s6) (s7) ∧ zz_e0 s2.toInt s1.toInt (s6) ∧ zz_mt (s6) s1.toInt (s6) s1.toInt (zz_cc x4) (1 : Int32).toInt ∧ s0 = s0 ∧ s2 = s2 ∧ s3 = s3 ∧ s4 = s4 ∧ s5 = s5 ∧ s8 = s8 ∧ s9 = s9 ∧ s10 = s10 ∧ s11 = s11
            exact ⟨(by omega), (by omega), a7, a8, a9, (by first | exact zz_ar_mt (by assumption) (by assumption) (by assumption) (by assumption) (by omega) (by omega) (by omega) (by omega) | exact Or.inl ⟨zz_pp_in (i := x5.toNatClampNeg) (j := ((s7 x5.toNatClampNeg) - s0).toNatClampNeg) (by assumption) (by omega) (by omega) (Int32.toInt_inj.mp (by omega)), rfl, by omega⟩ | exact (zz_pp_full (by assumption) (by assumption) (by omega) (by omega)).elim), rfl, rfl, rfl, rfl, rfl, rfl, rfl, rfl, rfl⟩
          · have c52 := zz_neq c52
            have l55 : (1 : Int32).toInt = 1 := rfl
            obtain ⟨k56, f57⟩ := zz_add x5 (1 : Int32)
            have g58 := zz_rg (x5 + ((1 : Int32)))
            have l59 : (32767 : Int32).toInt = 32767 := rfl
            try have f60 := zz_andF (x5 + ((1 : Int32))) (32767 : Int32) (by omega)
            have g61 := zz_rg ((x5 + ((1 : Int32))) &&& ((32767 : Int32)))
            obtain ⟨k62, f63⟩ := zz_add x6 (1 : Int32)
            have g64 := zz_rg (x6 + 1)
            refine (ih x1 x2 x3 x4 ((x5 + ((1 : Int32))) &&& ((32767 : Int32))) (x6 + 1) s0 s1 s2 s3 s4 s5 s6 s7 s8 s9 s10 s11 a0 a1 a2 a3 a4 a5 a6 a7 a8 a9 (by omega) (by omega) (by omega) (by omega) a14 a15 (by exact zz_pp_step (i := x5.toNatClampNeg) (j := ((s7 x5.toNatClampNeg) - s0).toNatClampNeg) (by assumption) (by omega) (by omega) (by omega) (fun e => absurd (congrArg Int32.toInt e) (by omega)) (by omega) (by rw [zz_and32767 _ (by omega)]; omega)) (by omega)).mono (fun z hz => ?_)
            obtain ⟨y65_0, y65_1, y65_2, y65_3, y65_4, y65_5, y65_6, y65_7, y65_8, y65_9, y65_10, y65_11, y65_12⟩ := z
            have q66 : (y65_0.toInt = 0 ∨ y65_0.toInt = 1) := hz.1
            have q67 : s1.toInt ≤ y65_2.toInt := hz.2.1
            have q68 : y65_2.toInt ≤ 20000 := hz.2.2.1
            have q69 : zz_ic s5.toInt s0.toInt y65_2.toInt (y65_7) (y65_8) := hz.2.2.2.1
            have q70 : zz_e0 s2.toInt y65_2.toInt (y65_7) := hz.2.2.2.2.1
            have q71 : zz_mt (s6) s1.toInt (y65_7) y65_2.toInt (zz_cc x4) y65_0.toInt := hz.2.2.2.2.2.1
            have q72 : y65_1 = s0 := hz.2.2.2.2.2.2.1
            have q73 : y65_3 = s2 := hz.2.2.2.2.2.2.2.1
            have q74 : y65_4 = s3 := hz.2.2.2.2.2.2.2.2.1
            have q75 : y65_5 = s4 := hz.2.2.2.2.2.2.2.2.2.1
            have q76 : y65_6 = s5 := hz.2.2.2.2.2.2.2.2.2.2.1
            have q77 : y65_9 = s8 := hz.2.2.2.2.2.2.2.2.2.2.2.1
            have q78 : y65_10 = s9 := hz.2.2.2.2.2.2.2.2.2.2.2.2.1
            have q79 : y65_11 = s10 := hz.2.2.2.2.2.2.2.2.2.2.2.2.2.1
            have q80 : y65_12 = s11 := hz.2.2.2.2.2.2.2.2.2.2.2.2.2.2
            clear hz
            have e81 : s0 = y65_1 := q72.symm
            subst e81
            have e82 : s2 = y65_3 := q73.symm
            subst e82
            have e83 : s3 = y65_4 := q74.symm
            subst e83
            have e84 : s4 = y65_5 := q75.symm
            subst e84
            have e85 : s5 = y65_6 := q76.symm
            subst e85
            have e86 : s8 = y65_9 := q77.symm
            subst e86
            have e87 : s9 = y65_10 := q78.symm
            subst e87
            have e88 : s10 = y65_11 := q79.symm
            subst e88
            have e89 : s11 = y65_12 := q80.symm
            subst e89
            have g90 := zz_rg y65_0
            have g91 := zz_rg y65_2
            show (y65_0.toInt = 0 ∨ y65_0.toInt = 1) ∧ s1.toInt ≤ y65_2.toInt ∧ y65_2.toInt ≤ 20000 ∧ zz_ic s5.toInt s0.toInt y65_2.toInt (y65_7) (y65_8) ∧ zz_e0 s2.toInt y65_2.toInt (y65_7) ∧ zz_mt (s6) s1.toInt (y65_7) y65_2.toInt (zz_cc x4) y65_0.toInt ∧ s0 = s0 ∧ s2 = s2 ∧ s3 = s3 ∧ s4 = s4 ∧ s5 = s5 ∧ s8 = s8 ∧ s9 = s9 ∧ s10 = s10 ∧ s11 = s11
            exact ⟨q66, q67, q68, q69, q70, q71, rfl, rfl, rfl, rfl, rfl, rfl, rfl, rfl, rfl⟩
        · have c50 := zz_nlt c50
          refine zz_ok_bind (wf_X8_addRoom K hK T hT n0 n1 n2 n3 x4 x5 s0 s1 s2 s3 s4 s5 s6 s7 s8 s9 s10 s11 a0 a1 a2 a3 a4 a5 a6 a7 a10 a11) ?_
          intro z92 hz92
          obtain ⟨r_8, t_8_0, t_8_1, t_8_2, t_8_3, t_8_4, t_8_5, t_8_6, t_8_7, t_8_8, t_8_9, t_8_10, t_8_11⟩ := z92
          have q93 : (r_8.toInt = 0 ∨ r_8.toInt = 1) := hz92.1
          have q94 : s1.toInt ≤ t_8_1.toInt := hz92.2.1
          have q95 : t_8_1.toInt ≤ 20000 := hz92.2.2.1
          have q96 : zz_ar s1.toInt (s6) (s7) t_8_1.toInt (t_8_6) (t_8_7) (x4) x5.toNatClampNeg s0.toInt r_8.toInt := hz92.2.2.2.1
          have q97 : t_8_0 = s0 := hz92.2.2.2.2.1
          have q98 : t_8_2 = s2 := hz92.2.2.2.2.2.1
          have q99 : t_8_3 = s3 := hz92.2.2.2.2.2.2.1
          have q100 : t_8_4 = s4 := hz92.2.2.2.2.2.2.2.1
          have q101 : t_8_5 = s5 := hz92.2.2.2.2.2.2.2.2.1
          have q102 : t_8_8 = s8 := hz92.2.2.2.2.2.2.2.2.2.1
          have q103 : t_8_9 = s9 := hz92.2.2.2.2.2.2.2.2.2.2.1
          have q104 : t_8_10 = s10 := hz92.2.2.2.2.2.2.2.2.2.2.2.1
          have q105 : t_8_11 = s11 := hz92.2.2.2.2.2.2.2.2.2.2.2.2
          clear hz92
          have e106 : s0 = t_8_0 := q97.symm
          subst e106
          have e107 : s2 = t_8_2 := q98.symm
          subst e107
          have e108 : s3 = t_8_3 := q99.symm
          subst e108
          have e109 : s4 = t_8_4 := q100.symm
          subst e109
          have e110 : s5 = t_8_5 := q101.symm
          subst e110
          have e111 : s8 = t_8_8 := q102.symm
          subst e111
          have e112 : s9 = t_8_9 := q103.symm
          subst e112
          have e113 : s10 = t_8_10 := q104.symm
          subst e113
          have e114 : s11 = t_8_11 := q105.symm
          subst e114
          have g115 := zz_rg r_8
          have g116 := zz_rg t_8_1
          show zz_ok (if r_8 = 0 ∨ r_8 = 1 then (some (r_8, s0, t_8_1, s2, s3, s4, s5, t_8_6, t_8_7, s8, s9, s10, s11)) else none) _
          refine zz_ok_chk (zz_01 (by omega)) ?_
          refine zz_ok_some ?_
          show (r_8.toInt = 0 ∨ r_8.toInt = 1) ∧ s1.toInt ≤ t_8_1.toInt ∧ t_8_1.toInt ≤ 20000 ∧ zz_ic s5.toInt s0.toInt t_8_1.toInt (t_8_6) (t_8_7) ∧ zz_e0 s2.toInt t_8_1.toInt (t_8_6) ∧ zz_mt (s6) s1.toInt (t_8_6) t_8_1.toInt (zz_cc x4) r_8.toInt ∧ s0 = s0 ∧ s2 = s2 ∧ s3 = s3 ∧ s4 = s4 ∧ s5 = s5 ∧ s8 = s8 ∧ s9 = s9 ∧ s10 = s10 ∧ s11 = s11
          exact ⟨q93, q94, q95, (by exact zz_ar_ic (by assumption) (by assumption) (by assumption) (by assumption) (by omega) (by omega) (by omega) (by omega) (by omega) (by omega)), (by exact zz_ar_e0 (by assumption) (by assumption) (by assumption)), (by first | exact zz_ar_mt (by assumption) (by assumption) (by assumption) (by assumption) (by omega) (by omega) (by omega) (by omega) | exact Or.inl ⟨zz_pp_in (i := x5.toNatClampNeg) (j := ((s7 x5.toNatClampNeg) - s0).toNatClampNeg) (by assumption) (by omega) (by omega) (Int32.toInt_inj.mp (by omega)), rfl, by omega⟩ | exact (zz_pp_full (by assumption) (by assumption) (by omega) (by omega)).elim), rfl, rfl, rfl, rfl, rfl, rfl, rfl, rfl, rfl⟩
set_option maxHeartbeats 4000000 in
theorem wf_X8_meet (K : Nat) (hK : 1099511627776 ≤ K) (T : Nat) (hT : T ≤ 900) (n0 : Nat) (n1 : Nat) (n2 : Nat) (n3 : Nat) (p1 : Int32) (p2 : Int32) (p3 : Int32) (s0 : Int32) (s1 : Int32) (s2 : Int32) (s3 : Int32) (s4 : Int32) (s5 : Int32) (s6 : Nat → Int32) (s7 : Nat → Int32) (s8 : Int32) (s9 : Int32) (s10 : Nat → Int32) (s11 : Nat → Int32) (a0 : n0 = 20000) (a1 : n1 = 32768) (a2 : n2 = 14) (a3 : n3 = 14) (a4 : 1 ≤ s0.toInt) (a5 : s0.toInt ≤ 900000000) (a6 : 0 ≤ s1.toInt) (a7 : s1.toInt ≤ 20000) (a8 : zz_ic s5.toInt s0.toInt s1.toInt (s6) (s7)) (a9 : zz_e0 s2.toInt s1.toInt (s6)) (a10 : zz_tbe s5.toInt (p1) (p2) (p3)) (a11 : (s2.toInt = 1 ∨ p3.toInt = 0)) : zz_ok (m_X8_meet K n0 n1 n2 n3 p1 p2 p3 s0 s1 s2 s3 s4 s5 s6 s7 s8 s9 s10 s11) (fun z => (z.1.toInt = 0 ∨ z.1.toInt = 1) ∧ s1.toInt ≤ z.2.2.1.toInt ∧ z.2.2.1.toInt ≤ 20000 ∧ zz_ic s5.toInt s0.toInt z.2.2.1.toInt (z.2.2.2.2.2.2.2.1) (z.2.2.2.2.2.2.2.2.1) ∧ zz_e0 s2.toInt z.2.2.1.toInt (z.2.2.2.2.2.2.2.1) ∧ zz_mt (s6) s1.toInt (z.2.2.2.2.2.2.2.1) z.2.2.1.toInt (zz_rv p1 p2 p3) z.1.toInt ∧ z.2.1 = s0 ∧ z.2.2.2.1 = s2 ∧ z.2.2.2.2.1 = s3 ∧ z.2.2.2.2.2.1 = s4 ∧ z.2.2.2.2.2.2.1 = s5 ∧ z.2.2.2.2.2.2.2.2.2.1 = s8 ∧ z.2.2.2.2.2.2.2.2.2.2.1 = s9 ∧ z.2.2.2.2.2.2.2.2.2.2.2.1 = s10 ∧ z.2.2.2.2.2.2.2.2.2.2.2.2 = s11) := by
  have g1 := zz_rg p1
  have g2 := zz_rg p2
  have g3 := zz_rg p3
  have g4 := zz_rg s0
  have g5 := zz_rg s1
  have g6 := zz_rg s2
  have g7 := zz_rg s3
  have g8 := zz_rg s4
  have g9 := zz_rg s5
  have g10 := zz_rg s8
  have g11 := zz_rg s9
  unfold m_X8_meet
  have l12 : (14 : Int32).toInt = 14 := rfl
  have l13 : (31 : Int32).toInt = 31 := rfl
  try have f14 := zz_andF (14 : Int32) (31 : Int32) (by omega)
  have g15 := zz_rg (((14 : Int32)) &&& 31)
  have g16 := zz_rg (p2 <<< (((14 : Int32)) &&& 31))
  have g17 := zz_rg (p1 ||| (p2 <<< (((14 : Int32)) &&& 31)))
  have l18 : (28 : Int32).toInt = 28 := rfl
  try have f19 := zz_andF (28 : Int32) (31 : Int32) (by omega)
  have g20 := zz_rg (((28 : Int32)) &&& 31)
  have g21 := zz_rg (p3 <<< (((28 : Int32)) &&& 31))
  have g22 := zz_rg ((p1 ||| (p2 <<< (((14 : Int32)) &&& 31))) ||| (p3 <<< (((28 : Int32)) &&& 31)))
  have g23 := zz_rg (((((p1 ||| (p2 <<< (((14 : Int32)) &&& 31))) ||| (p3 <<< (((28 : Int32)) &&& 31))) * ((-1640531535 : Int32))).toUInt32 >>> (((17 : Int32)).toUInt32 &&& Int32.toUInt32 31)).toInt32)
  have l24 : (0 : Int32).toInt = 0 := rfl
  refine (wf_X8_meet_L26 K hK T hT n0 n1 n2 n3 K p1 p2 p3 ((p1 ||| (p2 <<< (((14 : Int32)) &&& 31))) ||| (p3 <<< (((28 : Int32)) &&& 31))) (((((p1 ||| (p2 <<< (((14 : Int32)) &&& 31))) ||| (p3 <<< (((28 : Int32)) &&& 31))) * ((-1640531535 : Int32))).toUInt32 >>> (((17 : Int32)).toUInt32 &&& Int32.toUInt32 31)).toInt32) ((0 : Int32)) s0 s1 s2 s3 s4 s5 s6 s7 s8 s9 s10 s11 a0 a1 a2 a3 a4 a5 a6 a7 a8 a9 (by exact (zz_ushr17 _).1) (by exact (zz_ushr17 _).2) (by omega) (by omega) (by exact zz_tbe_cw a10) (by exact zz_tbe_c1 a10 (by omega)) (by exact zz_pp_ini (by omega) (zz_hsE _).symm) (by omega)).mono (fun z hz => ?_)
  obtain ⟨y25_0, y25_1, y25_2, y25_3, y25_4, y25_5, y25_6, y25_7, y25_8, y25_9, y25_10, y25_11, y25_12⟩ := z
  have q26 : (y25_0.toInt = 0 ∨ y25_0.toInt = 1) := hz.1
  have q27 : s1.toInt ≤ y25_2.toInt := hz.2.1
  have q28 : y25_2.toInt ≤ 20000 := hz.2.2.1
  have q29 : zz_ic s5.toInt s0.toInt y25_2.toInt (y25_7) (y25_8) := hz.2.2.2.1
  have q30 : zz_e0 s2.toInt y25_2.toInt (y25_7) := hz.2.2.2.2.1
  have q31 : zz_mt (s6) s1.toInt (y25_7) y25_2.toInt (zz_cc ((p1 ||| (p2 <<< (((14 : Int32)) &&& 31))) ||| (p3 <<< (((28 : Int32)) &&& 31)))) y25_0.toInt := hz.2.2.2.2.2.1
  have q32 : y25_1 = s0 := hz.2.2.2.2.2.2.1
  have q33 : y25_3 = s2 := hz.2.2.2.2.2.2.2.1
  have q34 : y25_4 = s3 := hz.2.2.2.2.2.2.2.2.1
  have q35 : y25_5 = s4 := hz.2.2.2.2.2.2.2.2.2.1
  have q36 : y25_6 = s5 := hz.2.2.2.2.2.2.2.2.2.2.1
  have q37 : y25_9 = s8 := hz.2.2.2.2.2.2.2.2.2.2.2.1
  have q38 : y25_10 = s9 := hz.2.2.2.2.2.2.2.2.2.2.2.2.1
  have q39 : y25_11 = s10 := hz.2.2.2.2.2.2.2.2.2.2.2.2.2.1
  have q40 : y25_12 = s11 := hz.2.2.2.2.2.2.2.2.2.2.2.2.2.2
  clear hz
  have e41 : s0 = y25_1 := q32.symm
  subst e41
  have e42 : s2 = y25_3 := q33.symm
  subst e42
  have e43 : s3 = y25_4 := q34.symm
  subst e43
  have e44 : s4 = y25_5 := q35.symm
  subst e44
  have e45 : s5 = y25_6 := q36.symm
  subst e45
  have e46 : s8 = y25_9 := q37.symm
  subst e46
  have e47 : s9 = y25_10 := q38.symm
  subst e47
  have e48 : s10 = y25_11 := q39.symm
  subst e48
  have e49 : s11 = y25_12 := q40.symm
  subst e49
  have g50 := zz_rg y25_0
  have g51 := zz_rg y25_2
  show (y25_0.toInt = 0 ∨ y25_0.toInt = 1) ∧ s1.toInt ≤ y25_2.toInt ∧ y25_2.toInt ≤ 20000 ∧ zz_ic s5.toInt s0.toInt y25_2.toInt (y25_7) (y25_8) ∧ zz_e0 s2.toInt y25_2.toInt (y25_7) ∧ zz_mt (s6) s1.toInt (y25_7) y25_2.toInt (zz_rv p1 p2 p3) y25_0.toInt ∧ s0 = s0 ∧ s2 = s2 ∧ s3 = s3 ∧ s4 = s4 ∧ s5 = s5 ∧ s8 = s8 ∧ s9 = s9 ∧ s10 = s10 ∧ s11 = s11
  exact ⟨q26, q27, q28, q29, q30, (by exact zz_tbe_mt a10 (by assumption)), rfl, rfl, rfl, rfl, rfl, rfl, rfl, rfl, rfl⟩

set_option maxHeartbeats 4000000 in
theorem wf_X8_leastWords_L18 (K : Nat) (hK : 1099511627776 ≤ K) (T : Nat) (hT : T ≤ 900) (n0 : Nat) (n1 : Nat) (n2 : Nat) (n3 : Nat) : ∀ (k : Nat) (x1 : Int32) (x2 : Int32) (x3 : Int32) (x4 : Int32) (s0 : Int32) (s1 : Int32) (s2 : Int32) (s3 : Int32) (s4 : Int32) (s5 : Int32) (s6 : Nat → Int32) (s7 : Nat → Int32) (s8 : Int32) (s9 : Int32) (s10 : Nat → Int32) (s11 : Nat → Int32), n0 = 20000 → n1 = 32768 → n2 = 14 → n3 = 14 → zz_row 14 (rwW T) (s10) → zz_row 14 (rwW T) (s11) → 0 ≤ s8.toInt → s8.toInt ≤ 14 → 1 ≤ s0.toInt → 0 ≤ s1.toInt → s1.toInt ≤ 20000 → zz_icx s0.toInt s1.toInt (s6) (s7) → 0 ≤ s2.toInt → s2.toInt ≤ 3 → 1 ≤ s3.toInt → s3.toInt ≤ 4 → 1 ≤ s4.toInt → s4.toInt ≤ 8 → 1 ≤ x4.toInt → x4.toInt ≤ 15 → s0.toInt + s1.toInt + 20000 * (15 - x4.toInt) ≤ 900000000 → 16 - x4.toInt < (k : Int) → zz_ok (m_X8_leastWords_L18 K n0 n1 n2 n3 k x1 x2 x3 x4 s0 s1 s2 s3 s4 s5 s6 s7 s8 s9 s10 s11) (fun z => zz_wor s2.toInt s3.toInt s4.toInt (15 - x4.toInt).toNat x4.toInt z.1.toInt ∧ 1 ≤ z.2.1.toInt ∧ 0 ≤ z.2.2.1.toInt ∧ z.2.2.1.toInt ≤ 20000 ∧ z.2.1.toInt + z.2.2.1.toInt ≤ s0.toInt + s1.toInt + 20000 * (15 - x4.toInt) ∧ 0 ≤ z.2.2.2.2.2.2.2.2.2.1.toInt ∧ z.2.2.2.2.2.2.2.2.2.1.toInt ≤ 14 ∧ zz_icx z.2.1.toInt z.2.2.1.toInt (z.2.2.2.2.2.2.2.1) (z.2.2.2.2.2.2.2.2.1) ∧ z.2.2.2.1 = s2 ∧ z.2.2.2.2.1 = s3 ∧ z.2.2.2.2.2.1 = s4 ∧ zz_row 14 (rwW T) (z.2.2.2.2.2.2.2.2.2.2.2.1) ∧ zz_row 14 (rwW T) (z.2.2.2.2.2.2.2.2.2.2.2.2)) := by
  intro k
  induction k with
  | zero =>
    intro x1 x2 x3 x4 s0 s1 s2 s3 s4 s5 s6 s7 s8 s9 s10 s11 a0 a1 a2 a3 a4 a5 a6 a7 a8 a9 a10 a11 a12 a13 a14 a15 a16 a17 a18 a19 a20 hz9
    exfalso
    have g_x1 := zz_rg x1
    have g_x2 := zz_rg x2
    have g_x3 := zz_rg x3
    have g_x4 := zz_rg x4
    have g_s0 := zz_rg s0
    have g_s1 := zz_rg s1
    have g_s2 := zz_rg s2
    have g_s3 := zz_rg s3
    have g_s4 := zz_rg s4
    have g_s5 := zz_rg s5
    have g_s8 := zz_rg s8
    have g_s9 := zz_rg s9
    omega
  | succ k ih =>
    intro x1 x2 x3 x4 s0 s1 s2 s3 s4 s5 s6 s7 s8 s9 s10 s11 a0 a1 a2 a3 a4 a5 a6 a7 a8 a9 a10 a11 a12 a13 a14 a15 a16 a17 a18 a19 a20 hz9
    rw [m_X8_leastWords_L18_s]
    have g1 := zz_rg x1
    have g2 := zz_rg x2
    have g3 := zz_rg x3
    have g4 := zz_rg x4
    have g5 := zz_rg s0
    have g6 := zz_rg s1
    have g7 := zz_rg s2
    have g8 := zz_rg s3
    have g9 := zz_rg s4
    have g10 := zz_rg s5
    have g11 := zz_rg s8
    have g12 := zz_rg s9
    have l14 : (14 : Int32).toInt = 14 := rfl
    refine zz_ok_ite (fun c13 => ?_) (fun c13 => ?_)
    · have c13 := Int32.lt_iff_toInt_lt.mp c13
      have l15 : (-1 : Int32).toInt = -1 := rfl
      refine zz_ok_some ?_
      show zz_wor s2.toInt s3.toInt s4.toInt (15 - x4.toInt).toNat x4.toInt (-1 : Int32).toInt ∧ 1 ≤ s0.toInt ∧ 0 ≤ s1.toInt ∧ s1.toInt ≤ 20000 ∧ s0.toInt + s1.toInt ≤ s0.toInt + s1.toInt + 20000 * (15 - x4.toInt) ∧ 0 ≤ s8.toInt ∧ s8.toInt ≤ 14 ∧ zz_icx s0.toInt s1.toInt (s6) (s7) ∧ s2 = s2 ∧ s3 = s3 ∧ s4 = s4 ∧ zz_row 14 (rwW T) (s10) ∧ zz_row 14 (rwW T) (s11)
      exact ⟨(by first | exact zz_wor_end (by omega) (by omega) | exact zz_wor_1 (l09.1 (by omega)) (by omega) rfl (by omega) | exact zz_wor_m (l09.2.2 (by omega)) (by omega) rfl (by omega) | exact zz_wor_0 (l09.2.1 (by omega)) (by assumption) (by omega) rfl (by omega)), a8, a9, a10, (by omega), a6, a7, a11, rfl, rfl, rfl, a4, a5⟩
    · have c13 := zz_nlt c13
      refine zz_ok_bind (wf_X8_lookAtAll K hK T hT n0 n1 n2 n3 s0 s1 s2 s3 s4 x4 s6 s7 s8 s9 s10 s11 a0 a1 a2 a3 a8 a9 a10 a4 a5 a6 a7 a18 (by omega) a12 a13 a14 a15 a16 a17 (by omega) a11) ?_
      intro z16 hz16
      obtain ⟨r_2, t_2_0, t_2_1, t_2_2, t_2_3, t_2_4, t_2_5, t_2_6, t_2_7, t_2_8, t_2_9, t_2_10, t_2_11⟩ := z16
      have q17 : zz_l0 s2.toInt s3.toInt s4.toInt x4.toInt r_2.toInt := hz16.1
      have q18 : 0 ≤ r_2.toInt := hz16.2.1
      have q19 : r_2.toInt ≤ 2 := hz16.2.2.1
      have q20 : t_2_1.toInt ≤ 20000 := hz16.2.2.2.1
      have q21 : zz_e0 s2.toInt t_2_1.toInt (t_2_6) := hz16.2.2.2.2.1
      have q22 : 0 ≤ t_2_8.toInt := hz16.2.2.2.2.2.1
      have q23 : t_2_8.toInt ≤ 14 := hz16.2.2.2.2.2.2.1
      have q24 : t_2_2 = s2 := hz16.2.2.2.2.2.2.2.1
      have q25 : t_2_3 = s3 := hz16.2.2.2.2.2.2.2.2.1
      have q26 : t_2_4 = s4 := hz16.2.2.2.2.2.2.2.2.2.1
      have q27 : t_2_5 = x4 := hz16.2.2.2.2.2.2.2.2.2.2.1
      have q28 : zz_row 14 (rwW T) (t_2_10) := hz16.2.2.2.2.2.2.2.2.2.2.2.1
      have q29 : zz_row 14 (rwW T) (t_2_11) := hz16.2.2.2.2.2.2.2.2.2.2.2.2.1
      have q30 : t_2_0.toInt = s0.toInt + s1.toInt := hz16.2.2.2.2.2.2.2.2.2.2.2.2.2.1
      have q31 : zz_ic x4.toInt t_2_0.toInt t_2_1.toInt (t_2_6) (t_2_7) := hz16.2.2.2.2.2.2.2.2.2.2.2.2.2.2.1
      have q32 : 0 ≤ t_2_1.toInt := hz16.2.2.2.2.2.2.2.2.2.2.2.2.2.2.2
      clear hz16
      have e33 : s2 = t_2_2 := q24.symm
      subst e33
      have e34 : s3 = t_2_3 := q25.symm
      subst e34
      have e35 : s4 = t_2_4 := q26.symm
      subst e35
      have e36 : x4 = t_2_5 := q27.symm
      subst e36
      have g37 := zz_rg r_2
      have g38 := zz_rg t_2_0
      have g39 := zz_rg t_2_1
      have g40 := zz_rg t_2_8
      have g41 := zz_rg t_2_9
      have l09 := (by assumption : zz_l0 s2.toInt s3.toInt s4.toInt x4.toInt r_2.toInt)
      show zz_ok (if r_2 = 0 then (some (x4, t_2_0, t_2_1, s2, s3, s4, x4, t_2_6, t_2_7, t_2_8, t_2_9, t_2_10, t_2_11)) else (if r_2 = ((2 : Int32)) then (some ((-2 : Int32), t_2_0, t_2_1, s2, s3, s4, x4, t_2_6, t_2_7, t_2_8, t_2_9, t_2_10, t_2_11)) else (m_X8_leastWords_L18 K n0 n1 n2 n3 k x1 x2 x3 (x4 + 1) t_2_0 t_2_1 s2 s3 s4 x4 t_2_6 t_2_7 t_2_8 t_2_9 t_2_10 t_2_11))) _
      have l43 : (0 : Int32).toInt = 0 := rfl
      refine zz_ok_ite (fun c42 => ?_) (fun c42 => ?_)
      · have c42 := congrArg Int32.toInt c42
        refine zz_ok_some ?_
        show zz_wor s2.toInt s3.toInt s4.toInt (15 - x4.toInt).toNat x4.toInt x4.toInt ∧ 1 ≤ t_2_0.toInt ∧ 0 ≤ t_2_1.toInt ∧ t_2_1.toInt ≤ 20000 ∧ t_2_0.toInt + t_2_1.toInt ≤ s0.toInt + s1.toInt + 20000 * (15 - x4.toInt) ∧ 0 ≤ t_2_8.toInt ∧ t_2_8.toInt ≤ 14 ∧ zz_icx t_2_0.toInt t_2_1.toInt (t_2_6) (t_2_7) ∧ s2 = s2 ∧ s3 = s3 ∧ s4 = s4 ∧ zz_row 14 (rwW T) (t_2_10) ∧ zz_row 14 (rwW T) (t_2_11)
        exact ⟨(by first | exact zz_wor_end (by omega) (by omega) | exact zz_wor_1 (l09.1 (by omega)) (by omega) rfl (by omega) | exact zz_wor_m (l09.2.2 (by omega)) (by omega) rfl (by omega) | exact zz_wor_0 (l09.2.1 (by omega)) (by assumption) (by omega) rfl (by omega)), (by omega), q32, q20, (by omega), q22, q23, (by first | assumption | exact ⟨_, by assumption⟩), rfl, rfl, rfl, q28, q29⟩
      · have c42 := zz_neq c42
        have l45 : (2 : Int32).toInt = 2 := rfl
        refine zz_ok_ite (fun c44 => ?_) (fun c44 => ?_)
        · have c44 := congrArg Int32.toInt c44
          have l46 : (-2 : Int32).toInt = -2 := rfl
          refine zz_ok_some ?_
          show zz_wor s2.toInt s3.toInt s4.toInt (15 - x4.toInt).toNat x4.toInt (-2 : Int32).toInt ∧ 1 ≤ t_2_0.toInt ∧ 0 ≤ t_2_1.toInt ∧ t_2_1.toInt ≤ 20000 ∧ t_2_0.toInt + t_2_1.toInt ≤ s0.toInt + s1.toInt + 20000 * (15 - x4.toInt) ∧ 0 ≤ t_2_8.toInt ∧ t_2_8.toInt ≤ 14 ∧ zz_icx t_2_0.toInt t_2_1.toInt (t_2_6) (t_2_7) ∧ s2 = s2 ∧ s3 = s3 ∧ s4 = s4 ∧ zz_row 14 (rwW T) (t_2_10) ∧ zz_row 14 (rwW T) (t_2_11)
          exact ⟨(by first | exact zz_wor_end (by omega) (by omega) | exact zz_wor_1 (l09.1 (by omega)) (by omega) rfl (by omega) | exact zz_wor_m (l09.2.2 (by omega)) (by omega) rfl (by omega) | exact zz_wor_0 (l09.2.1 (by omega)) (by assumption) (by omega) rfl (by omega)), (by omega), q32, q20, (by omega), q22, q23, (by first | assumption | exact ⟨_, by assumption⟩), rfl, rfl, rfl, q28, q29⟩
        · have c44 := zz_neq c44
          have l47 : (1 : Int32).toInt = 1 := rfl
          obtain ⟨k48, f49⟩ := zz_add x4 (1 : Int32)
          have g50 := zz_rg (x4 + 1)
          refine (ih x1 x2 x3 (x4 + 1) t_2_0 t_2_1 s2 s3 s4 x4 t_2_6 t_2_7 t_2_8 t_2_9 t_2_10 t_2_11 a0 a1 a2 a3 q28 q29 q22 q23 (by omega) q32 q20 (by first | assumption | exact ⟨_, by assumption⟩) a12 a13 a14 a15 a16 a17 (by omega) (by omega) (by omega) (by omega)).mono (fun z hz => ?_)
          obtain ⟨y51_0, y51_1, y51_2, y51_3, y51_4, y51_5, y51_6, y51_7, y51_8, y51_9, y51_10, y51_11, y51_12⟩ := z
          have q52 : zz_wor s2.toInt s3.toInt s4.toInt (15 - (x4 + 1).toInt).toNat (x4 + 1).toInt y51_0.toInt := hz.1
          have q53 : 1 ≤ y51_1.toInt := hz.2.1
          have q54 : 0 ≤ y51_2.toInt := hz.2.2.1
          have q55 : y51_2.toInt ≤ 20000 := hz.2.2.2.1
          have q56 : y51_1.toInt + y51_2.toInt ≤ t_2_0.toInt + t_2_1.toInt + 20000 * (15 - (x4 + 1).toInt) := hz.2.2.2.2.1
          have q57 : 0 ≤ y51_9.toInt := hz.2.2.2.2.2.1
          have q58 : y51_9.toInt ≤ 14 := hz.2.2.2.2.2.2.1
          have q59 : zz_icx y51_1.toInt y51_2.toInt (y51_7) (y51_8) := hz.2.2.2.2.2.2.2.1
          have q60 : y51_3 = s2 := hz.2.2.2.2.2.2.2.2.1
          have q61 : y51_4 = s3 := hz.2.2.2.2.2.2.2.2.2.1
          have q62 : y51_5 = s4 := hz.2.2.2.2.2.2.2.2.2.2.1
          have q63 : zz_row 14 (rwW T) (y51_11) := hz.2.2.2.2.2.2.2.2.2.2.2.1
          have q64 : zz_row 14 (rwW T) (y51_12) := hz.2.2.2.2.2.2.2.2.2.2.2.2
          clear hz
          have e65 : s2 = y51_3 := q60.symm
          subst e65
          have e66 : s3 = y51_4 := q61.symm
          subst e66
          have e67 : s4 = y51_5 := q62.symm
          subst e67
          have g68 := zz_rg y51_0
          have g69 := zz_rg y51_1
          have g70 := zz_rg y51_2
          have g71 := zz_rg y51_6
          have g72 := zz_rg y51_9
          have g73 := zz_rg y51_10
          show zz_wor s2.toInt s3.toInt s4.toInt (15 - x4.toInt).toNat x4.toInt y51_0.toInt ∧ 1 ≤ y51_1.toInt ∧ 0 ≤ y51_2.toInt ∧ y51_2.toInt ≤ 20000 ∧ y51_1.toInt + y51_2.toInt ≤ s0.toInt + s1.toInt + 20000 * (15 - x4.toInt) ∧ 0 ≤ y51_9.toInt ∧ y51_9.toInt ≤ 14 ∧ zz_icx y51_1.toInt y51_2.toInt (y51_7) (y51_8) ∧ s2 = s2 ∧ s3 = s3 ∧ s4 = s4 ∧ zz_row 14 (rwW T) (y51_11) ∧ zz_row 14 (rwW T) (y51_12)
          exact ⟨(by first | exact zz_wor_end (by omega) (by omega) | exact zz_wor_1 (l09.1 (by omega)) (by omega) rfl (by omega) | exact zz_wor_m (l09.2.2 (by omega)) (by omega) rfl (by omega) | exact zz_wor_0 (l09.2.1 (by omega)) (by assumption) (by omega) rfl (by omega)), q53, q54, q55, (by omega), q57, q58, q59, rfl, rfl, rfl, q63, q64⟩
set_option maxHeartbeats 4000000 in
theorem wf_X8_leastWords (K : Nat) (hK : 1099511627776 ≤ K) (T : Nat) (hT : T ≤ 900) (n0 : Nat) (n1 : Nat) (n2 : Nat) (n3 : Nat) (p1 : Int32) (p2 : Int32) (p3 : Int32) (s0 : Int32) (s1 : Int32) (s2 : Int32) (s3 : Int32) (s4 : Int32) (s5 : Int32) (s6 : Nat → Int32) (s7 : Nat → Int32) (s8 : Int32) (s9 : Int32) (s10 : Nat → Int32) (s11 : Nat → Int32) (a0 : n0 = 20000) (a1 : n1 = 32768) (a2 : n2 = 14) (a3 : n3 = 14) (a4 : zz_row 14 (rwW T) (s10)) (a5 : zz_row 14 (rwW T) (s11)) (a6 : 0 ≤ s8.toInt) (a7 : s8.toInt ≤ 14) (a8 : 1 ≤ s0.toInt) (a9 : 0 ≤ s1.toInt) (a10 : s1.toInt ≤ 20000) (a11 : zz_icx s0.toInt s1.toInt (s6) (s7)) (a12 : 0 ≤ p1.toInt) (a13 : p1.toInt ≤ 3) (a14 : 1 ≤ p2.toInt) (a15 : p2.toInt ≤ 4) (a16 : 1 ≤ p3.toInt) (a17 : p3.toInt ≤ 8) (a18 : s0.toInt + s1.toInt + 20000 * (15 - p3.toInt) ≤ 900000000) : zz_ok (m_X8_leastWords K n0 n1 n2 n3 p1 p2 p3 s0 s1 s2 s3 s4 s5 s6 s7 s8 s9 s10 s11) (fun z => zz_wor p1.toInt p2.toInt p3.toInt (15 - p3.toInt).toNat p3.toInt z.1.toInt ∧ 1 ≤ z.2.1.toInt ∧ 0 ≤ z.2.2.1.toInt ∧ z.2.2.1.toInt ≤ 20000 ∧ z.2.1.toInt + z.2.2.1.toInt ≤ s0.toInt + s1.toInt + 20000 * (15 - p3.toInt) ∧ 0 ≤ z.2.2.2.2.2.2.2.2.2.1.toInt ∧ z.2.2.2.2.2.2.2.2.2.1.toInt ≤ 14 ∧ zz_icx z.2.1.toInt z.2.2.1.toInt (z.2.2.2.2.2.2.2.1) (z.2.2.2.2.2.2.2.2.1) ∧ zz_row 14 (rwW T) (z.2.2.2.2.2.2.2.2.2.2.2.1) ∧ zz_row 14 (rwW T) (z.2.2.2.2.2.2.2.2.2.2.2.2)) := by
  have g1 := zz_rg p1
  have g2 := zz_rg p2
  have g3 := zz_rg p3
  have g4 := zz_rg s0
  have g5 := zz_rg s1
  have g6 := zz_rg s2
  have g7 := zz_rg s3
  have g8 := zz_rg s4
  have g9 := zz_rg s5
  have g10 := zz_rg s8
  have g11 := zz_rg s9
  unfold m_X8_leastWords
  refine (wf_X8_leastWords_L18 K hK T hT n0 n1 n2 n3 K p1 p2 p3 p3 s0 s1 p1 p2 p3 s5 s6 s7 s8 s9 s10 s11 a0 a1 a2 a3 a4 a5 a6 a7 a8 a9 a10 a11 a12 a13 a14 a15 a16 a17 a16 (by omega) a18 (by omega)).mono (fun z hz => ?_)
  obtain ⟨y12_0, y12_1, y12_2, y12_3, y12_4, y12_5, y12_6, y12_7, y12_8, y12_9, y12_10, y12_11, y12_12⟩ := z
  have q13 : zz_wor p1.toInt p2.toInt p3.toInt (15 - p3.toInt).toNat p3.toInt y12_0.toInt := hz.1
  have q14 : 1 ≤ y12_1.toInt := hz.2.1
  have q15 : 0 ≤ y12_2.toInt := hz.2.2.1
  have q16 : y12_2.toInt ≤ 20000 := hz.2.2.2.1
  have q17 : y12_1.toInt + y12_2.toInt ≤ s0.toInt + s1.toInt + 20000 * (15 - p3.toInt) := hz.2.2.2.2.1
  have q18 : 0 ≤ y12_9.toInt := hz.2.2.2.2.2.1
  have q19 : y12_9.toInt ≤ 14 := hz.2.2.2.2.2.2.1
  have q20 : zz_icx y12_1.toInt y12_2.toInt (y12_7) (y12_8) := hz.2.2.2.2.2.2.2.1
  have q21 : y12_3 = p1 := hz.2.2.2.2.2.2.2.2.1
  have q22 : y12_4 = p2 := hz.2.2.2.2.2.2.2.2.2.1
  have q23 : y12_5 = p3 := hz.2.2.2.2.2.2.2.2.2.2.1
  have q24 : zz_row 14 (rwW T) (y12_11) := hz.2.2.2.2.2.2.2.2.2.2.2.1
  have q25 : zz_row 14 (rwW T) (y12_12) := hz.2.2.2.2.2.2.2.2.2.2.2.2
  clear hz
  have e26 : p1 = y12_3 := q21.symm
  subst e26
  have e27 : p2 = y12_4 := q22.symm
  subst e27
  have e28 : p3 = y12_5 := q23.symm
  subst e28
  have g29 := zz_rg y12_0
  have g30 := zz_rg y12_1
  have g31 := zz_rg y12_2
  have g32 := zz_rg y12_6
  have g33 := zz_rg y12_9
  have g34 := zz_rg y12_10
  show zz_wor p1.toInt p2.toInt p3.toInt (15 - p3.toInt).toNat p3.toInt y12_0.toInt ∧ 1 ≤ y12_1.toInt ∧ 0 ≤ y12_2.toInt ∧ y12_2.toInt ≤ 20000 ∧ y12_1.toInt + y12_2.toInt ≤ s0.toInt + s1.toInt + 20000 * (15 - p3.toInt) ∧ 0 ≤ y12_9.toInt ∧ y12_9.toInt ≤ 14 ∧ zz_icx y12_1.toInt y12_2.toInt (y12_7) (y12_8) ∧ zz_row 14 (rwW T) (y12_11) ∧ zz_row 14 (rwW T) (y12_12)
  exact ⟨q13, q14, q15, q16, q17, q18, q19, q20, q24, q25⟩

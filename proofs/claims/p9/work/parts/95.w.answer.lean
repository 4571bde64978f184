set_option maxHeartbeats 4000000 in
theorem wf_X11_worst_S (K : Nat) (hK : 1099511627776 ≤ K) (T : Nat) (hT : T ≤ 900) (n0 : Nat) (n1 : Nat) (n2 : Nat) (n3 : Nat) (p1 : Int32) (p2 : Int32) (p3 : Int32) (s0 : Int32) (s1 : Int32) (s2 : Int32) (s3 : Int32) (s4 : Int32) (s5 : Int32) (s6 : Int32) (s7 : Nat → Int32) (s8 : Nat → Int32) (s9 : Int32) (s10 : Int32) (s11 : Nat → Int32) (s12 : Nat → Int32) (a0 : n0 = 20000) (a1 : n1 = 32768) (a2 : n2 = 14) (a3 : n3 = 14) (a4 : 0 ≤ s2.toInt) (a5 : s2.toInt ≤ 20000) (a6 : 0 ≤ s9.toInt) (a7 : s9.toInt ≤ 14) (a8 : 1 ≤ s1.toInt) (a9 : zz_icx s1.toInt s2.toInt (s7) (s8)) (a10 : zz_row 14 (rwW T) (s11)) (a11 : zz_row 14 (rwW T) (s12)) (a12 : s1.toInt + s2.toInt ≤ 890000000) : zz_ok (m_X11_worst_S K n0 n1 n2 n3 p1 p2 p3 s0 s1 s2 s3 s4 s5 s6 s7 s8 s9 s10 s11 s12) (fun z => zz_wc (z.1) p1.toInt p2.toInt p3.toInt z.2.1.toInt ∧ z.2.2.1 = s0 ∧ z.2.2.2.1.toInt + z.2.2.2.2.1.toInt ≤ s1.toInt + s2.toInt + 280000 ∧ 0 ≤ z.2.2.2.2.1.toInt ∧ z.2.2.2.2.1.toInt ≤ 20000 ∧ 0 ≤ z.2.2.2.2.2.2.2.2.2.2.2.1.toInt ∧ z.2.2.2.2.2.2.2.2.2.2.2.1.toInt ≤ 14 ∧ 1 ≤ z.2.2.2.1.toInt ∧ zz_icx z.2.2.2.1.toInt z.2.2.2.2.1.toInt (z.2.2.2.2.2.2.2.2.2.1) (z.2.2.2.2.2.2.2.2.2.2.1) ∧ zz_row 14 (rwW T) (z.2.2.2.2.2.2.2.2.2.2.2.2.2.1) ∧ zz_row 14 (rwW T) (z.2.2.2.2.2.2.2.2.2.2.2.2.2.2)) := by
  have g1 := zz_rg p1
  have g2 := zz_rg p2
  have g3 := zz_rg p3
  have g4 := zz_rg s0
  have g5 := zz_rg s1
  have g6 := zz_rg s2
  have g7 := zz_rg s3
  have g8 := zz_rg s4
  have g9 := zz_rg s5
  have g10 := zz_rg s6
  have g11 := zz_rg s9
  have g12 := zz_rg s10
  unfold m_X11_worst_S
  have l14 : (0 : Int32).toInt = 0 := rfl
  refine zz_ok_ite (fun c13 => ?_) (fun c13 => ?_)
  · have c13 := Int32.lt_iff_toInt_lt.mp c13
    refine zz_ok_some ?_
    show zz_wc (("java/lang/IllegalArgumentException")) p1.toInt p2.toInt p3.toInt (0 : Int32).toInt ∧ s0 = s0 ∧ s1.toInt + s2.toInt ≤ s1.toInt + s2.toInt + 280000 ∧ 0 ≤ s2.toInt ∧ s2.toInt ≤ 20000 ∧ 0 ≤ s9.toInt ∧ s9.toInt ≤ 14 ∧ 1 ≤ s1.toInt ∧ zz_icx s1.toInt s2.toInt (s7) (s8) ∧ zz_row 14 (rwW T) (s11) ∧ zz_row 14 (rwW T) (s12)
    exact ⟨(by first | exact Or.inl ⟨rfl, ⟨by omega, by omega, by omega, by omega, by omega, by omega, by omega⟩, by assumption⟩ | exact Or.inr ⟨rfl, fun z => by unfold zz_wv at z; omega⟩), rfl, (by omega), a4, a5, a6, a7, a8, a9, a10, a11⟩
  · have c13 := zz_nlt c13
    have l16 : (4 : Int32).toInt = 4 := rfl
    refine zz_ok_ite (fun c15 => ?_) (fun c15 => ?_)
    · have c15 := Int32.lt_iff_toInt_lt.mp c15
      have l18 : (1 : Int32).toInt = 1 := rfl
      refine zz_ok_ite (fun c17 => ?_) (fun c17 => ?_)
      · have c17 := Int32.lt_iff_toInt_lt.mp c17
        refine zz_ok_some ?_
        show zz_wc (("java/lang/IllegalArgumentException")) p1.toInt p2.toInt p3.toInt (0 : Int32).toInt ∧ s0 = s0 ∧ s1.toInt + s2.toInt ≤ s1.toInt + s2.toInt + 280000 ∧ 0 ≤ s2.toInt ∧ s2.toInt ≤ 20000 ∧ 0 ≤ s9.toInt ∧ s9.toInt ≤ 14 ∧ 1 ≤ s1.toInt ∧ zz_icx s1.toInt s2.toInt (s7) (s8) ∧ zz_row 14 (rwW T) (s11) ∧ zz_row 14 (rwW T) (s12)
        exact ⟨(by first | exact Or.inl ⟨rfl, ⟨by omega, by omega, by omega, by omega, by omega, by omega, by omega⟩, by assumption⟩ | exact Or.inr ⟨rfl, fun z => by unfold zz_wv at z; omega⟩), rfl, (by omega), a4, a5, a6, a7, a8, a9, a10, a11⟩
      · have c17 := zz_nlt c17
        refine zz_ok_ite (fun c19 => ?_) (fun c19 => ?_)
        · have c19 := Int32.le_iff_toInt_le.mp c19
          refine zz_ok_ite (fun c20 => ?_) (fun c20 => ?_)
          · have c20 := Int32.lt_iff_toInt_lt.mp c20
            refine zz_ok_some ?_
            show zz_wc (("java/lang/IllegalArgumentException")) p1.toInt p2.toInt p3.toInt (0 : Int32).toInt ∧ s0 = s0 ∧ s1.toInt + s2.toInt ≤ s1.toInt + s2.toInt + 280000 ∧ 0 ≤ s2.toInt ∧ s2.toInt ≤ 20000 ∧ 0 ≤ s9.toInt ∧ s9.toInt ≤ 14 ∧ 1 ≤ s1.toInt ∧ zz_icx s1.toInt s2.toInt (s7) (s8) ∧ zz_row 14 (rwW T) (s11) ∧ zz_row 14 (rwW T) (s12)
            exact ⟨(by first | exact Or.inl ⟨rfl, ⟨by omega, by omega, by omega, by omega, by omega, by omega, by omega⟩, by assumption⟩ | exact Or.inr ⟨rfl, fun z => by unfold zz_wv at z; omega⟩), rfl, (by omega), a4, a5, a6, a7, a8, a9, a10, a11⟩
          · have c20 := zz_nlt c20
            have l22 : (8 : Int32).toInt = 8 := rfl
            refine zz_ok_ite (fun c21 => ?_) (fun c21 => ?_)
            · have c21 := Int32.lt_iff_toInt_lt.mp c21
              refine zz_ok_some ?_
              show zz_wc (("java/lang/IllegalArgumentException")) p1.toInt p2.toInt p3.toInt (0 : Int32).toInt ∧ s0 = s0 ∧ s1.toInt + s2.toInt ≤ s1.toInt + s2.toInt + 280000 ∧ 0 ≤ s2.toInt ∧ s2.toInt ≤ 20000 ∧ 0 ≤ s9.toInt ∧ s9.toInt ≤ 14 ∧ 1 ≤ s1.toInt ∧ zz_icx s1.toInt s2.toInt (s7) (s8) ∧ zz_row 14 (rwW T) (s11) ∧ zz_row 14 (rwW T) (s12)
              exact ⟨(by first | exact Or.inl ⟨rfl, ⟨by omega, by omega, by omega, by omega, by omega, by omega, by omega⟩, by assumption⟩ | exact Or.inr ⟨rfl, fun z => by unfold zz_wv at z; omega⟩), rfl, (by omega), a4, a5, a6, a7, a8, a9, a10, a11⟩
            · have c21 := zz_nlt c21
              refine zz_ok_ite (fun c23 => ?_) (fun c23 => ?_)
              · have c23 := Int32.le_iff_toInt_le.mp c23
                refine zz_ok_bind (wf_X8_leastWords K hK T hT n0 n1 n2 n3 p1 p2 p3 s1 s2 s3 s4 s5 s6 s7 s8 s9 s10 s11 s12 a0 a1 a2 a3 a10 a11 a6 a7 a8 a4 a5 a9 (by omega) (by omega) (by omega) (by omega) (by omega) (by omega) (by omega)) ?_
                intro z24 hz24
                obtain ⟨r_8, t_8_0, t_8_1, t_8_2, t_8_3, t_8_4, t_8_5, t_8_6, t_8_7, t_8_8, t_8_9, t_8_10, t_8_11⟩ := z24
                have q25 : zz_wor p1.toInt p2.toInt p3.toInt (15 - p3.toInt).toNat p3.toInt r_8.toInt := hz24.1
                have q26 : 1 ≤ t_8_0.toInt := hz24.2.1
                have q27 : 0 ≤ t_8_1.toInt := hz24.2.2.1
                have q28 : t_8_1.toInt ≤ 20000 := hz24.2.2.2.1
                have q29 : t_8_0.toInt + t_8_1.toInt ≤ s1.toInt + s2.toInt + 20000 * (15 - p3.toInt) := hz24.2.2.2.2.1
                have q30 : 0 ≤ t_8_8.toInt := hz24.2.2.2.2.2.1
                have q31 : t_8_8.toInt ≤ 14 := hz24.2.2.2.2.2.2.1
                have q32 : zz_icx t_8_0.toInt t_8_1.toInt (t_8_6) (t_8_7) := hz24.2.2.2.2.2.2.2.1
                have q33 : zz_row 14 (rwW T) (t_8_10) := hz24.2.2.2.2.2.2.2.2.1
                have q34 : zz_row 14 (rwW T) (t_8_11) := hz24.2.2.2.2.2.2.2.2.2
                clear hz24
                have g35 := zz_rg r_8
                have g36 := zz_rg t_8_0
                have g37 := zz_rg t_8_1
                have g38 := zz_rg t_8_2
                have g39 := zz_rg t_8_3
                have g40 := zz_rg t_8_4
                have g41 := zz_rg t_8_5
                have g42 := zz_rg t_8_8
                have g43 := zz_rg t_8_9
                show zz_ok (some ("", r_8, s0, t_8_0, t_8_1, t_8_2, t_8_3, t_8_4, t_8_5, t_8_6, t_8_7, t_8_8, t_8_9, t_8_10, t_8_11)) _
                refine zz_ok_some ?_
                show zz_wc (("")) p1.toInt p2.toInt p3.toInt r_8.toInt ∧ s0 = s0 ∧ t_8_0.toInt + t_8_1.toInt ≤ s1.toInt + s2.toInt + 280000 ∧ 0 ≤ t_8_1.toInt ∧ t_8_1.toInt ≤ 20000 ∧ 0 ≤ t_8_8.toInt ∧ t_8_8.toInt ≤ 14 ∧ 1 ≤ t_8_0.toInt ∧ zz_icx t_8_0.toInt t_8_1.toInt (t_8_6) (t_8_7) ∧ zz_row 14 (rwW T) (t_8_10) ∧ zz_row 14 (rwW T) (t_8_11)
                exact ⟨(by first | exact Or.inl ⟨rfl, ⟨by omega, by omega, by omega, by omega, by omega, by omega, by omega⟩, by assumption⟩ | exact Or.inr ⟨rfl, fun z => by unfold zz_wv at z; omega⟩), rfl, (by omega), q27, q28, q30, q31, q26, q32, q33, q34⟩
              · have c23 := zz_nle c23
                refine zz_ok_some ?_
                show zz_wc (("java/lang/IllegalArgumentException")) p1.toInt p2.toInt p3.toInt (0 : Int32).toInt ∧ s0 = s0 ∧ s1.toInt + s2.toInt ≤ s1.toInt + s2.toInt + 280000 ∧ 0 ≤ s2.toInt ∧ s2.toInt ≤ 20000 ∧ 0 ≤ s9.toInt ∧ s9.toInt ≤ 14 ∧ 1 ≤ s1.toInt ∧ zz_icx s1.toInt s2.toInt (s7) (s8) ∧ zz_row 14 (rwW T) (s11) ∧ zz_row 14 (rwW T) (s12)
                exact ⟨(by first | exact Or.inl ⟨rfl, ⟨by omega, by omega, by omega, by omega, by omega, by omega, by omega⟩, by assumption⟩ | exact Or.inr ⟨rfl, fun z => by unfold zz_wv at z; omega⟩), rfl, (by omega), a4, a5, a6, a7, a8, a9, a10, a11⟩
        · have c19 := zz_nle c19
          refine zz_ok_some ?_
          show zz_wc (("java/lang/IllegalArgumentException")) p1.toInt p2.toInt p3.toInt (0 : Int32).toInt ∧ s0 = s0 ∧ s1.toInt + s2.toInt ≤ s1.toInt + s2.toInt + 280000 ∧ 0 ≤ s2.toInt ∧ s2.toInt ≤ 20000 ∧ 0 ≤ s9.toInt ∧ s9.toInt ≤ 14 ∧ 1 ≤ s1.toInt ∧ zz_icx s1.toInt s2.toInt (s7) (s8) ∧ zz_row 14 (rwW T) (s11) ∧ zz_row 14 (rwW T) (s12)
          exact ⟨(by first | exact Or.inl ⟨rfl, ⟨by omega, by omega, by omega, by omega, by omega, by omega, by omega⟩, by assumption⟩ | exact Or.inr ⟨rfl, fun z => by unfold zz_wv at z; omega⟩), rfl, (by omega), a4, a5, a6, a7, a8, a9, a10, a11⟩
    · have c15 := zz_nlt c15
      refine zz_ok_some ?_
      show zz_wc (("java/lang/IllegalArgumentException")) p1.toInt p2.toInt p3.toInt (0 : Int32).toInt ∧ s0 = s0 ∧ s1.toInt + s2.toInt ≤ s1.toInt + s2.toInt + 280000 ∧ 0 ≤ s2.toInt ∧ s2.toInt ≤ 20000 ∧ 0 ≤ s9.toInt ∧ s9.toInt ≤ 14 ∧ 1 ≤ s1.toInt ∧ zz_icx s1.toInt s2.toInt (s7) (s8) ∧ zz_row 14 (rwW T) (s11) ∧ zz_row 14 (rwW T) (s12)
      exact ⟨(by first | exact Or.inl ⟨rfl, ⟨by omega, by omega, by omega, by omega, by omega, by omega, by omega⟩, by assumption⟩ | exact Or.inr ⟨rfl, fun z => by unfold zz_wv at z; omega⟩), rfl, (by omega), a4, a5, a6, a7, a8, a9, a10, a11⟩
set_option maxHeartbeats 4000000 in
theorem wf_X11_worst_W (K : Nat) (hK : 1099511627776 ≤ K) (T : Nat) (hT : T ≤ 900) (p1 : Int32) (p2 : Int32) (p3 : Int32) (s0 : Int32) (a0 : 0 ≤ p1.toInt) (a1 : p1.toInt ≤ 3) (a2 : 1 ≤ p2.toInt) (a3 : p2.toInt ≤ 4) (a4 : 1 ≤ p3.toInt) (a5 : p3.toInt ≤ 8) (a6 : p2.toInt ≤ p3.toInt) : zz_ok (m_X11_worst_W K p1 p2 p3 s0) (fun z => zz_wc (z.1) p1.toInt p2.toInt p3.toInt z.2.1.toInt ∧ z.2.2.1 = s0 ∧ z.2.2.2.1.toInt + z.2.2.2.2.1.toInt ≤ 280001 ∧ 0 ≤ z.2.2.2.2.1.toInt ∧ z.2.2.2.2.1.toInt ≤ 20000 ∧ 0 ≤ z.2.2.2.2.2.2.2.2.2.2.2.1.toInt ∧ z.2.2.2.2.2.2.2.2.2.2.2.1.toInt ≤ 14 ∧ 1 ≤ z.2.2.2.1.toInt ∧ zz_icx z.2.2.2.1.toInt z.2.2.2.2.1.toInt (z.2.2.2.2.2.2.2.2.2.1) (z.2.2.2.2.2.2.2.2.2.2.1) ∧ zz_row 14 (rwW T) (z.2.2.2.2.2.2.2.2.2.2.2.2.2.1) ∧ zz_row 14 (rwW T) (z.2.2.2.2.2.2.2.2.2.2.2.2.2.2)) := by
  have g1 := zz_rg p1
  have g2 := zz_rg p2
  have g3 := zz_rg p3
  have g4 := zz_rg s0
  unfold m_X11_worst_W
  have l6 : (0 : Int32).toInt = 0 := rfl
  refine zz_ok_ite (fun c5 => ?_) (fun c5 => ?_)
  · have c5 := Int32.lt_iff_toInt_lt.mp c5
    refine zz_ok_some ?_
    show zz_wc (("java/lang/IllegalArgumentException")) p1.toInt p2.toInt p3.toInt (0 : Int32).toInt ∧ s0 = s0 ∧ (0 : Int32).toInt + (0 : Int32).toInt ≤ 280001 ∧ 0 ≤ (0 : Int32).toInt ∧ (0 : Int32).toInt ≤ 20000 ∧ 0 ≤ (0 : Int32).toInt ∧ (0 : Int32).toInt ≤ 14 ∧ 1 ≤ (0 : Int32).toInt ∧ zz_icx (0 : Int32).toInt (0 : Int32).toInt ((fun _ => 0)) ((fun _ => 0)) ∧ zz_row 14 (rwW T) ((fun _ => 0)) ∧ zz_row 14 (rwW T) ((fun _ => 0))
    exact ⟨(by first | exact Or.inl ⟨rfl, ⟨by omega, by omega, by omega, by omega, by omega, by omega, by omega⟩, by assumption⟩ | exact Or.inr ⟨rfl, fun z => by unfold zz_wv at z; omega⟩), rfl, (by omega), (by omega), (by omega), (by omega), (by omega), (by omega), (by first | exact zz_icx_0 | (exfalso; omega)), (by exact fun j hj => ⟨by show 0 ≤ (0 : Int32).toInt; decide, by show (0 : Int32).toInt ≤ 14; decide⟩), (by exact fun j hj => ⟨by show 0 ≤ (0 : Int32).toInt; decide, by show (0 : Int32).toInt ≤ 14; decide⟩)⟩
  · have c5 := zz_nlt c5
    have l8 : (4 : Int32).toInt = 4 := rfl
    refine zz_ok_ite (fun c7 => ?_) (fun c7 => ?_)
    · have c7 := Int32.lt_iff_toInt_lt.mp c7
      have l10 : (1 : Int32).toInt = 1 := rfl
      refine zz_ok_ite (fun c9 => ?_) (fun c9 => ?_)
      · have c9 := Int32.lt_iff_toInt_lt.mp c9
        refine zz_ok_some ?_
        show zz_wc (("java/lang/IllegalArgumentException")) p1.toInt p2.toInt p3.toInt (0 : Int32).toInt ∧ s0 = s0 ∧ (0 : Int32).toInt + (0 : Int32).toInt ≤ 280001 ∧ 0 ≤ (0 : Int32).toInt ∧ (0 : Int32).toInt ≤ 20000 ∧ 0 ≤ (0 : Int32).toInt ∧ (0 : Int32).toInt ≤ 14 ∧ 1 ≤ (0 : Int32).toInt ∧ zz_icx (0 : Int32).toInt (0 : Int32).toInt ((fun _ => 0)) ((fun _ => 0)) ∧ zz_row 14 (rwW T) ((fun _ => 0)) ∧ zz_row 14 (rwW T) ((fun _ => 0))
        exact ⟨(by first | exact Or.inl ⟨rfl, ⟨by omega, by omega, by omega, by omega, by omega, by omega, by omega⟩, by assumption⟩ | exact Or.inr ⟨rfl, fun z => by unfold zz_wv at z; omega⟩), rfl, (by omega), (by omega), (by omega), (by omega), (by omega), (by omega), (by first | exact zz_icx_0 | (exfalso; omega)), (by exact fun j hj => ⟨by show 0 ≤ (0 : Int32).toInt; decide, by show (0 : Int32).toInt ≤ 14; decide⟩), (by exact fun j hj => ⟨by show 0 ≤ (0 : Int32).toInt; decide, by show (0 : Int32).toInt ≤ 14; decide⟩)⟩
      · have c9 := zz_nlt c9
        refine zz_ok_ite (fun c11 => ?_) (fun c11 => ?_)
        · have c11 := Int32.le_iff_toInt_le.mp c11
          refine zz_ok_ite (fun c12 => ?_) (fun c12 => ?_)
          · have c12 := Int32.lt_iff_toInt_lt.mp c12
            refine zz_ok_some ?_
            show zz_wc (("java/lang/IllegalArgumentException")) p1.toInt p2.toInt p3.toInt (0 : Int32).toInt ∧ s0 = s0 ∧ (0 : Int32).toInt + (0 : Int32).toInt ≤ 280001 ∧ 0 ≤ (0 : Int32).toInt ∧ (0 : Int32).toInt ≤ 20000 ∧ 0 ≤ (0 : Int32).toInt ∧ (0 : Int32).toInt ≤ 14 ∧ 1 ≤ (0 : Int32).toInt ∧ zz_icx (0 : Int32).toInt (0 : Int32).toInt ((fun _ => 0)) ((fun _ => 0)) ∧ zz_row 14 (rwW T) ((fun _ => 0)) ∧ zz_row 14 (rwW T) ((fun _ => 0))
            exact ⟨(by first | exact Or.inl ⟨rfl, ⟨by omega, by omega, by omega, by omega, by omega, by omega, by omega⟩, by assumption⟩ | exact Or.inr ⟨rfl, fun z => by unfold zz_wv at z; omega⟩), rfl, (by omega), (by omega), (by omega), (by omega), (by omega), (by omega), (by first | exact zz_icx_0 | (exfalso; omega)), (by exact fun j hj => ⟨by show 0 ≤ (0 : Int32).toInt; decide, by show (0 : Int32).toInt ≤ 14; decide⟩), (by exact fun j hj => ⟨by show 0 ≤ (0 : Int32).toInt; decide, by show (0 : Int32).toInt ≤ 14; decide⟩)⟩
          · have c12 := zz_nlt c12
            have l14 : (8 : Int32).toInt = 8 := rfl
            refine zz_ok_ite (fun c13 => ?_) (fun c13 => ?_)
            · have c13 := Int32.lt_iff_toInt_lt.mp c13
              refine zz_ok_some ?_
              show zz_wc (("java/lang/IllegalArgumentException")) p1.toInt p2.toInt p3.toInt (0 : Int32).toInt ∧ s0 = s0 ∧ (0 : Int32).toInt + (0 : Int32).toInt ≤ 280001 ∧ 0 ≤ (0 : Int32).toInt ∧ (0 : Int32).toInt ≤ 20000 ∧ 0 ≤ (0 : Int32).toInt ∧ (0 : Int32).toInt ≤ 14 ∧ 1 ≤ (0 : Int32).toInt ∧ zz_icx (0 : Int32).toInt (0 : Int32).toInt ((fun _ => 0)) ((fun _ => 0)) ∧ zz_row 14 (rwW T) ((fun _ => 0)) ∧ zz_row 14 (rwW T) ((fun _ => 0))
              exact ⟨(by first | exact Or.inl ⟨rfl, ⟨by omega, by omega, by omega, by omega, by omega, by omega, by omega⟩, by assumption⟩ | exact Or.inr ⟨rfl, fun z => by unfold zz_wv at z; omega⟩), rfl, (by omega), (by omega), (by omega), (by omega), (by omega), (by omega), (by first | exact zz_icx_0 | (exfalso; omega)), (by exact fun j hj => ⟨by show 0 ≤ (0 : Int32).toInt; decide, by show (0 : Int32).toInt ≤ 14; decide⟩), (by exact fun j hj => ⟨by show 0 ≤ (0 : Int32).toInt; decide, by show (0 : Int32).toInt ≤ 14; decide⟩)⟩
            · have c13 := zz_nlt c13
              refine zz_ok_ite (fun c15 => ?_) (fun c15 => ?_)
              · have c15 := Int32.le_iff_toInt_le.mp c15
                refine zz_ok_bind (wf_X8_leastWords K hK T hT 20000 32768 14 14 p1 p2 p3 ((1 : Int32)) ((0 : Int32)) ((0 : Int32)) ((0 : Int32)) ((0 : Int32)) ((0 : Int32)) (fun _ => 0) (fun _ => 0) ((0 : Int32)) ((0 : Int32)) (fun _ => 0) (fun _ => 0) rfl rfl rfl rfl (by exact fun j hj => ⟨by show 0 ≤ (0 : Int32).toInt; decide, by show (0 : Int32).toInt ≤ 14; decide⟩) (by exact fun j hj => ⟨by show 0 ≤ (0 : Int32).toInt; decide, by show (0 : Int32).toInt ≤ 14; decide⟩) (by omega) (by omega) (by omega) (by omega) (by omega) (by first | exact zz_icx_0 | (exfalso; omega)) a0 a1 a2 a3 a4 a5 (by omega)) ?_
                intro z16 hz16
                obtain ⟨r_8, t_8_0, t_8_1, t_8_2, t_8_3, t_8_4, t_8_5, t_8_6, t_8_7, t_8_8, t_8_9, t_8_10, t_8_11⟩ := z16
                have q17 : zz_wor p1.toInt p2.toInt p3.toInt (15 - p3.toInt).toNat p3.toInt r_8.toInt := hz16.1
                have q18 : 1 ≤ t_8_0.toInt := hz16.2.1
                have q19 : 0 ≤ t_8_1.toInt := hz16.2.2.1
                have q20 : t_8_1.toInt ≤ 20000 := hz16.2.2.2.1
                have q21 : t_8_0.toInt + t_8_1.toInt ≤ ((1 : Int32)).toInt + ((0 : Int32)).toInt + 20000 * (15 - p3.toInt) := hz16.2.2.2.2.1
                have q22 : 0 ≤ t_8_8.toInt := hz16.2.2.2.2.2.1
                have q23 : t_8_8.toInt ≤ 14 := hz16.2.2.2.2.2.2.1
                have q24 : zz_icx t_8_0.toInt t_8_1.toInt (t_8_6) (t_8_7) := hz16.2.2.2.2.2.2.2.1
                have q25 : zz_row 14 (rwW T) (t_8_10) := hz16.2.2.2.2.2.2.2.2.1
                have q26 : zz_row 14 (rwW T) (t_8_11) := hz16.2.2.2.2.2.2.2.2.2
                clear hz16
                have g27 := zz_rg r_8
                have g28 := zz_rg t_8_0
                have g29 := zz_rg t_8_1
                have g30 := zz_rg t_8_2
                have g31 := zz_rg t_8_3
                have g32 := zz_rg t_8_4
                have g33 := zz_rg t_8_5
                have g34 := zz_rg t_8_8
                have g35 := zz_rg t_8_9
                show zz_ok (some ("", r_8, s0, t_8_0, t_8_1, t_8_2, t_8_3, t_8_4, t_8_5, t_8_6, t_8_7, t_8_8, t_8_9, t_8_10, t_8_11)) _
                refine zz_ok_some ?_
                show zz_wc (("")) p1.toInt p2.toInt p3.toInt r_8.toInt ∧ s0 = s0 ∧ t_8_0.toInt + t_8_1.toInt ≤ 280001 ∧ 0 ≤ t_8_1.toInt ∧ t_8_1.toInt ≤ 20000 ∧ 0 ≤ t_8_8.toInt ∧ t_8_8.toInt ≤ 14 ∧ 1 ≤ t_8_0.toInt ∧ zz_icx t_8_0.toInt t_8_1.toInt (t_8_6) (t_8_7) ∧ zz_row 14 (rwW T) (t_8_10) ∧ zz_row 14 (rwW T) (t_8_11)
                exact ⟨(by first | exact Or.inl ⟨rfl, ⟨by omega, by omega, by omega, by omega, by omega, by omega, by omega⟩, by assumption⟩ | exact Or.inr ⟨rfl, fun z => by unfold zz_wv at z; omega⟩), rfl, (by omega), q19, q20, q22, q23, q18, q24, q25, q26⟩
              · have c15 := zz_nle c15
                refine zz_ok_some ?_
                show zz_wc (("java/lang/IllegalArgumentException")) p1.toInt p2.toInt p3.toInt (0 : Int32).toInt ∧ s0 = s0 ∧ (0 : Int32).toInt + (0 : Int32).toInt ≤ 280001 ∧ 0 ≤ (0 : Int32).toInt ∧ (0 : Int32).toInt ≤ 20000 ∧ 0 ≤ (0 : Int32).toInt ∧ (0 : Int32).toInt ≤ 14 ∧ 1 ≤ (0 : Int32).toInt ∧ zz_icx (0 : Int32).toInt (0 : Int32).toInt ((fun _ => 0)) ((fun _ => 0)) ∧ zz_row 14 (rwW T) ((fun _ => 0)) ∧ zz_row 14 (rwW T) ((fun _ => 0))
                exact ⟨(by first | exact Or.inl ⟨rfl, ⟨by omega, by omega, by omega, by omega, by omega, by omega, by omega⟩, by assumption⟩ | exact Or.inr ⟨rfl, fun z => by unfold zz_wv at z; omega⟩), rfl, (by omega), (by omega), (by omega), (by omega), (by omega), (by omega), (by first | exact zz_icx_0 | (exfalso; omega)), (by exact fun j hj => ⟨by show 0 ≤ (0 : Int32).toInt; decide, by show (0 : Int32).toInt ≤ 14; decide⟩), (by exact fun j hj => ⟨by show 0 ≤ (0 : Int32).toInt; decide, by show (0 : Int32).toInt ≤ 14; decide⟩)⟩
        · have c11 := zz_nle c11
          refine zz_ok_some ?_
          show zz_wc (("java/lang/IllegalArgumentException")) p1.toInt p2.toInt p3.toInt (0 : Int32).toInt ∧ s0 = s0 ∧ (0 : Int32).toInt + (0 : Int32).toInt ≤ 280001 ∧ 0 ≤ (0 : Int32).toInt ∧ (0 : Int32).toInt ≤ 20000 ∧ 0 ≤ (0 : Int32).toInt ∧ (0 : Int32).toInt ≤ 14 ∧ 1 ≤ (0 : Int32).toInt ∧ zz_icx (0 : Int32).toInt (0 : Int32).toInt ((fun _ => 0)) ((fun _ => 0)) ∧ zz_row 14 (rwW T) ((fun _ => 0)) ∧ zz_row 14 (rwW T) ((fun _ => 0))
          exact ⟨(by first | exact Or.inl ⟨rfl, ⟨by omega, by omega, by omega, by omega, by omega, by omega, by omega⟩, by assumption⟩ | exact Or.inr ⟨rfl, fun z => by unfold zz_wv at z; omega⟩), rfl, (by omega), (by omega), (by omega), (by omega), (by omega), (by omega), (by first | exact zz_icx_0 | (exfalso; omega)), (by exact fun j hj => ⟨by show 0 ≤ (0 : Int32).toInt; decide, by show (0 : Int32).toInt ≤ 14; decide⟩), (by exact fun j hj => ⟨by show 0 ≤ (0 : Int32).toInt; decide, by show (0 : Int32).toInt ≤ 14; decide⟩)⟩
    · have c7 := zz_nlt c7
      refine zz_ok_some ?_
      show zz_wc (("java/lang/IllegalArgumentException")) p1.toInt p2.toInt p3.toInt (0 : Int32).toInt ∧ s0 = s0 ∧ (0 : Int32).toInt + (0 : Int32).toInt ≤ 280001 ∧ 0 ≤ (0 : Int32).toInt ∧ (0 : Int32).toInt ≤ 20000 ∧ 0 ≤ (0 : Int32).toInt ∧ (0 : Int32).toInt ≤ 14 ∧ 1 ≤ (0 : Int32).toInt ∧ zz_icx (0 : Int32).toInt (0 : Int32).toInt ((fun _ => 0)) ((fun _ => 0)) ∧ zz_row 14 (rwW T) ((fun _ => 0)) ∧ zz_row 14 (rwW T) ((fun _ => 0))
      exact ⟨(by first | exact Or.inl ⟨rfl, ⟨by omega, by omega, by omega, by omega, by omega, by omega, by omega⟩, by assumption⟩ | exact Or.inr ⟨rfl, fun z => by unfold zz_wv at z; omega⟩), rfl, (by omega), (by omega), (by omega), (by omega), (by omega), (by omega), (by first | exact zz_icx_0 | (exfalso; omega)), (by exact fun j hj => ⟨by show 0 ≤ (0 : Int32).toInt; decide, by show (0 : Int32).toInt ≤ 14; decide⟩), (by exact fun j hj => ⟨by show 0 ≤ (0 : Int32).toInt; decide, by show (0 : Int32).toInt ≤ 14; decide⟩)⟩
set_option maxHeartbeats 4000000 in
theorem wf_X11_worst_X (K : Nat) (hK : 1099511627776 ≤ K) (T : Nat) (hT : T ≤ 900) (p1 : Int32) (p2 : Int32) (p3 : Int32) (s0 : Int32) (a0 : (p1.toInt < 0 ∨ 3 < p1.toInt ∨ p2.toInt < 1 ∨ 4 < p2.toInt ∨ p3.toInt < 1 ∨ 8 < p3.toInt ∨ p3.toInt < p2.toInt)) : zz_ok (m_X11_worst_X K p1 p2 p3 s0) (fun z => zz_wc (z.1) p1.toInt p2.toInt p3.toInt z.2.1.toInt ∧ z.2.2 = s0) := by
  have g1 := zz_rg p1
  have g2 := zz_rg p2
  have g3 := zz_rg p3
  have g4 := zz_rg s0
  unfold m_X11_worst_X
  have l6 : (0 : Int32).toInt = 0 := rfl
  refine zz_ok_ite (fun c5 => ?_) (fun c5 => ?_)
  · have c5 := Int32.lt_iff_toInt_lt.mp c5
    refine zz_ok_some ?_
    show zz_wc (("java/lang/IllegalArgumentException")) p1.toInt p2.toInt p3.toInt (0 : Int32).toInt ∧ s0 = s0
    exact ⟨(by first | exact Or.inl ⟨rfl, ⟨by omega, by omega, by omega, by omega, by omega, by omega, by omega⟩, by assumption⟩ | exact Or.inr ⟨rfl, fun z => by unfold zz_wv at z; omega⟩), rfl⟩
  · have c5 := zz_nlt c5
    have l8 : (4 : Int32).toInt = 4 := rfl
    refine zz_ok_ite (fun c7 => ?_) (fun c7 => ?_)
    · have c7 := Int32.lt_iff_toInt_lt.mp c7
      have l10 : (1 : Int32).toInt = 1 := rfl
      refine zz_ok_ite (fun c9 => ?_) (fun c9 => ?_)
      · have c9 := Int32.lt_iff_toInt_lt.mp c9
        refine zz_ok_some ?_
        show zz_wc (("java/lang/IllegalArgumentException")) p1.toInt p2.toInt p3.toInt (0 : Int32).toInt ∧ s0 = s0
        exact ⟨(by first | exact Or.inl ⟨rfl, ⟨by omega, by omega, by omega, by omega, by omega, by omega, by omega⟩, by assumption⟩ | exact Or.inr ⟨rfl, fun z => by unfold zz_wv at z; omega⟩), rfl⟩
      · have c9 := zz_nlt c9
        refine zz_ok_ite (fun c11 => ?_) (fun c11 => ?_)
        · have c11 := Int32.le_iff_toInt_le.mp c11
          refine zz_ok_ite (fun c12 => ?_) (fun c12 => ?_)
          · have c12 := Int32.lt_iff_toInt_lt.mp c12
            refine zz_ok_some ?_
            show zz_wc (("java/lang/IllegalArgumentException")) p1.toInt p2.toInt p3.toInt (0 : Int32).toInt ∧ s0 = s0
            exact ⟨(by first | exact Or.inl ⟨rfl, ⟨by omega, by omega, by omega, by omega, by omega, by omega, by omega⟩, by assumption⟩ | exact Or.inr ⟨rfl, fun z => by unfold zz_wv at z; omega⟩), rfl⟩
          · have c12 := zz_nlt c12
            have l14 : (8 : Int32).toInt = 8 := rfl
            refine zz_ok_ite (fun c13 => ?_) (fun c13 => ?_)
            · have c13 := Int32.lt_iff_toInt_lt.mp c13
              refine zz_ok_some ?_
              show zz_wc (("java/lang/IllegalArgumentException")) p1.toInt p2.toInt p3.toInt (0 : Int32).toInt ∧ s0 = s0
              exact ⟨(by first | exact Or.inl ⟨rfl, ⟨by omega, by omega, by omega, by omega, by omega, by omega, by omega⟩, by assumption⟩ | exact Or.inr ⟨rfl, fun z => by unfold zz_wv at z; omega⟩), rfl⟩
            · have c13 := zz_nlt c13
              refine zz_ok_ite (fun c15 => ?_) (fun c15 => ?_)
              · have c15 := Int32.le_iff_toInt_le.mp c15
                exfalso
                omega
              · have c15 := zz_nle c15
                refine zz_ok_some ?_
                show zz_wc (("java/lang/IllegalArgumentException")) p1.toInt p2.toInt p3.toInt (0 : Int32).toInt ∧ s0 = s0
                exact ⟨(by first | exact Or.inl ⟨rfl, ⟨by omega, by omega, by omega, by omega, by omega, by omega, by omega⟩, by assumption⟩ | exact Or.inr ⟨rfl, fun z => by unfold zz_wv at z; omega⟩), rfl⟩
        · have c11 := zz_nle c11
          refine zz_ok_some ?_
          show zz_wc (("java/lang/IllegalArgumentException")) p1.toInt p2.toInt p3.toInt (0 : Int32).toInt ∧ s0 = s0
          exact ⟨(by first | exact Or.inl ⟨rfl, ⟨by omega, by omega, by omega, by omega, by omega, by omega, by omega⟩, by assumption⟩ | exact Or.inr ⟨rfl, fun z => by unfold zz_wv at z; omega⟩), rfl⟩
    · have c7 := zz_nlt c7
      refine zz_ok_some ?_
      show zz_wc (("java/lang/IllegalArgumentException")) p1.toInt p2.toInt p3.toInt (0 : Int32).toInt ∧ s0 = s0
      exact ⟨(by first | exact Or.inl ⟨rfl, ⟨by omega, by omega, by omega, by omega, by omega, by omega, by omega⟩, by assumption⟩ | exact Or.inr ⟨rfl, fun z => by unfold zz_wv at z; omega⟩), rfl⟩

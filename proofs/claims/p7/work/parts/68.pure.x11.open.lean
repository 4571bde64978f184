set_option maxHeartbeats 4000000 in
theorem s_X11_open_X0 (K : Nat) (hK : 1099511627776 ≤ K) (n0 : Nat) (n1 : Nat) (n2 : Nat) (n3 : Nat) (n4 : Nat) (n5 : Nat) (n6 : Nat) (k0 : Int32) (p1 : Int32) (p2 : Int32) (s0 : Int32) (s1 : Int32) (s2 : Int32) (s3 : Int32) (s4 : Int32) (s5 : Nat → Int32) (s6 : Nat → Int32) (s7 : Nat → Int32) (s8 : Nat → Int32) (s9 : Nat → Int32) (s10 : Int32) (s11 : Int32) (s12 : Nat → Int32) (s13 : Nat → Int32) (s14 : Int32) (a0 : n0 = 1024) (a1 : n1 = 200) (a2 : n2 = 200) (a3 : n3 = 200) (a4 : n4 = 200) (a5 : n5 = 512) (a6 : n6 = 512) (a7 : 0 ≤ s1.toInt) (a8 : s1.toInt ≤ 1024) (a9 : 0 ≤ s2.toInt) (a10 : s2.toInt ≤ 200) (a11 : 0 ≤ s10.toInt) (a12 : s10.toInt ≤ 512) : zz_ok (m_X11_open_X0 K n0 n1 n2 n3 n4 n5 n6 k0 p1 p2 s0 s1 s2 s3 s4 s5 s6 s7 s8 s9 s10 s11 s12 s13 s14) (fun z => z.1 ∈ (["", "java/lang/IllegalArgumentException"] : List String) ∧ (z.1 = "" → z.2.1.toInt = p1.toInt ∧ 0 ≤ p1.toInt ∧ p1.toInt ≤ 9 ∧ 16 ≤ p2.toInt ∧ p2.toInt ≤ 1024) ∧ (¬ z.1 = "" → z.2.1.toInt = s0.toInt ∧ (p1.toInt < 0 ∨ 9 < p1.toInt ∨ p2.toInt < 16 ∨ 1024 < p2.toInt)) ∧ 0 ≤ z.2.2.1.toInt ∧ z.2.2.1.toInt ≤ 1024 ∧ 0 ≤ z.2.2.2.1.toInt ∧ z.2.2.2.1.toInt ≤ 200 ∧ 0 ≤ z.2.2.2.2.2.2.2.2.2.2.2.1.toInt ∧ z.2.2.2.2.2.2.2.2.2.2.2.1.toInt ≤ 512) := by
  have g1 := zz_rg k0
  have g2 := zz_rg p1
  have g3 := zz_rg p2
  have g4 := zz_rg s0
  have g5 := zz_rg s1
  have g6 := zz_rg s2
  have g7 := zz_rg s3
  have g8 := zz_rg s4
  have g9 := zz_rg s10
  have g10 := zz_rg s11
  have g11 := zz_rg s14
  unfold m_X11_open_X0
  have l13 : (0 : Int32).toInt = 0 := rfl
  refine zz_ok_ite (fun c12 => ?_) (fun c12 => ?_)
  · have c12 := Int32.lt_iff_toInt_lt.mp c12
    refine zz_ok_some ?_
    show ("java/lang/IllegalArgumentException") ∈ (["", "java/lang/IllegalArgumentException"] : List String) ∧ (("java/lang/IllegalArgumentException") = "" → s0.toInt = p1.toInt ∧ 0 ≤ p1.toInt ∧ p1.toInt ≤ 9 ∧ 16 ≤ p2.toInt ∧ p2.toInt ≤ 1024) ∧ (¬ ("java/lang/IllegalArgumentException") = "" → s0.toInt = s0.toInt ∧ (p1.toInt < 0 ∨ 9 < p1.toInt ∨ p2.toInt < 16 ∨ 1024 < p2.toInt)) ∧ 0 ≤ s1.toInt ∧ s1.toInt ≤ 1024 ∧ 0 ≤ s2.toInt ∧ s2.toInt ≤ 200 ∧ 0 ≤ s10.toInt ∧ s10.toInt ≤ 512
    exact ⟨by decide, fun h9 => absurd h9 (by decide), fun _ => by omega, by omega, by omega, by omega, by omega, by omega, by omega⟩
  · have c12 := zz_nlt c12
    have l15 : (10 : Int32).toInt = 10 := rfl
    refine zz_ok_ite (fun c14 => ?_) (fun c14 => ?_)
    · have c14 := Int32.lt_iff_toInt_lt.mp c14
      have l17 : (16 : Int32).toInt = 16 := rfl
      refine zz_ok_ite (fun c16 => ?_) (fun c16 => ?_)
      · have c16 := Int32.lt_iff_toInt_lt.mp c16
        refine zz_ok_some ?_
        show ("java/lang/IllegalArgumentException") ∈ (["", "java/lang/IllegalArgumentException"] : List String) ∧ (("java/lang/IllegalArgumentException") = "" → s0.toInt = p1.toInt ∧ 0 ≤ p1.toInt ∧ p1.toInt ≤ 9 ∧ 16 ≤ p2.toInt ∧ p2.toInt ≤ 1024) ∧ (¬ ("java/lang/IllegalArgumentException") = "" → s0.toInt = s0.toInt ∧ (p1.toInt < 0 ∨ 9 < p1.toInt ∨ p2.toInt < 16 ∨ 1024 < p2.toInt)) ∧ 0 ≤ s1.toInt ∧ s1.toInt ≤ 1024 ∧ 0 ≤ s2.toInt ∧ s2.toInt ≤ 200 ∧ 0 ≤ s10.toInt ∧ s10.toInt ≤ 512
        exact ⟨by decide, fun h9 => absurd h9 (by decide), fun _ => by omega, by omega, by omega, by omega, by omega, by omega, by omega⟩
      · have c16 := zz_nlt c16
        have l19 : (1024 : Int32).toInt = 1024 := rfl
        refine zz_ok_ite (fun c18 => ?_) (fun c18 => ?_)
        · have c18 := Int32.le_iff_toInt_le.mp c18
          refine zz_ok_bind (s_X7_empty K hK n0 n1 n2 n3 n4 n5 n6 p2 s1 s2 s3 s4 s5 s6 s7 s8 s9 s10 s11 s12 s13 (by omega) (by omega) (by omega) (by omega) (by omega) (by omega) (by omega) (by omega) (by omega) (by omega) (by omega) (by omega) (by omega)) ?_
          intro z20 hz20
          obtain ⟨t_5_0, t_5_1, t_5_2, t_5_3, t_5_4, t_5_5, t_5_6, t_5_7, t_5_8, t_5_9, t_5_10, t_5_11, t_5_12⟩ := z20
          have q21 : 0 ≤ t_5_0.toInt := hz20.1
          have q22 : t_5_0.toInt ≤ 1024 := hz20.2.1
          have q23 : t_5_1.toInt = 0 := hz20.2.2.1
          have q24 : 0 ≤ t_5_9.toInt := hz20.2.2.2.1
          have q25 : t_5_9.toInt ≤ 512 := hz20.2.2.2.2
          have g26 := zz_rg t_5_0
          have g27 := zz_rg t_5_1
          have g28 := zz_rg t_5_2
          have g29 := zz_rg t_5_3
          have g30 := zz_rg t_5_9
          have g31 := zz_rg t_5_10
          show zz_ok (if ¬ (p1 < 0 ∨ 10 ≤ p1.toNatClampNeg) then ((m_X0_begin K n0 n1 n2 n3 n4 n5 n6 k0 s14 t_5_0 t_5_1 t_5_2 t_5_3 t_5_4 t_5_5 t_5_6 t_5_7 t_5_8 t_5_9 t_5_10 t_5_11 t_5_12).bind fun ⟨t_7_0, t_7_1, t_7_2, t_7_3, t_7_4, t_7_5, t_7_6, t_7_7, t_7_8, t_7_9, t_7_10, t_7_11, t_7_12, t_7_13⟩ => some ("", p1, t_7_1, t_7_2, t_7_3, t_7_4, t_7_5, t_7_6, t_7_7, t_7_8, t_7_9, t_7_10, t_7_11, t_7_12, t_7_13, t_7_0)) else none) _
          refine zz_ok_chk (zz_ix (by omega) (by omega)) ?_
          refine zz_ok_bind (s_X0_begin K hK n0 n1 n2 n3 n4 n5 n6 k0 s14 t_5_0 t_5_1 t_5_2 t_5_3 t_5_4 t_5_5 t_5_6 t_5_7 t_5_8 t_5_9 t_5_10 t_5_11 t_5_12 (by omega) (by omega) (by omega) (by omega) (by omega) (by omega) (by omega) (by omega) (by omega) (by omega) (by omega) (by omega) (by omega)) ?_
          intro z32 hz32
          obtain ⟨t_7_0, t_7_1, t_7_2, t_7_3, t_7_4, t_7_5, t_7_6, t_7_7, t_7_8, t_7_9, t_7_10, t_7_11, t_7_12, t_7_13⟩ := z32
          have q33 : t_7_1.toInt = t_5_0.toInt := hz32.1
          have q34 : t_7_2.toInt = t_5_1.toInt := hz32.2.1
          have q35 : 0 ≤ t_7_10.toInt := hz32.2.2.1
          have q36 : t_7_10.toInt ≤ 512 := hz32.2.2.2
          have g37 := zz_rg t_7_0
          have g38 := zz_rg t_7_1
          have g39 := zz_rg t_7_2
          have g40 := zz_rg t_7_3
          have g41 := zz_rg t_7_4
          have g42 := zz_rg t_7_10
          have g43 := zz_rg t_7_11
          show zz_ok (some ("", p1, t_7_1, t_7_2, t_7_3, t_7_4, t_7_5, t_7_6, t_7_7, t_7_8, t_7_9, t_7_10, t_7_11, t_7_12, t_7_13, t_7_0)) _
          refine zz_ok_some ?_
          show ("") ∈ (["", "java/lang/IllegalArgumentException"] : List String) ∧ (("") = "" → p1.toInt = p1.toInt ∧ 0 ≤ p1.toInt ∧ p1.toInt ≤ 9 ∧ 16 ≤ p2.toInt ∧ p2.toInt ≤ 1024) ∧ (¬ ("") = "" → p1.toInt = s0.toInt ∧ (p1.toInt < 0 ∨ 9 < p1.toInt ∨ p2.toInt < 16 ∨ 1024 < p2.toInt)) ∧ 0 ≤ t_7_1.toInt ∧ t_7_1.toInt ≤ 1024 ∧ 0 ≤ t_7_2.toInt ∧ t_7_2.toInt ≤ 200 ∧ 0 ≤ t_7_10.toInt ∧ t_7_10.toInt ≤ 512
          exact ⟨by decide, fun _ => by omega, fun h9 => absurd rfl h9, by omega, by omega, by omega, by omega, by omega, by omega⟩
        · have c18 := zz_nle c18
          refine zz_ok_some ?_
          show ("java/lang/IllegalArgumentException") ∈ (["", "java/lang/IllegalArgumentException"] : List String) ∧ (("java/lang/IllegalArgumentException") = "" → s0.toInt = p1.toInt ∧ 0 ≤ p1.toInt ∧ p1.toInt ≤ 9 ∧ 16 ≤ p2.toInt ∧ p2.toInt ≤ 1024) ∧ (¬ ("java/lang/IllegalArgumentException") = "" → s0.toInt = s0.toInt ∧ (p1.toInt < 0 ∨ 9 < p1.toInt ∨ p2.toInt < 16 ∨ 1024 < p2.toInt)) ∧ 0 ≤ s1.toInt ∧ s1.toInt ≤ 1024 ∧ 0 ≤ s2.toInt ∧ s2.toInt ≤ 200 ∧ 0 ≤ s10.toInt ∧ s10.toInt ≤ 512
          exact ⟨by decide, fun h9 => absurd h9 (by decide), fun _ => by omega, by omega, by omega, by omega, by omega, by omega, by omega⟩
    · have c14 := zz_nlt c14
      refine zz_ok_some ?_
      show ("java/lang/IllegalArgumentException") ∈ (["", "java/lang/IllegalArgumentException"] : List String) ∧ (("java/lang/IllegalArgumentException") = "" → s0.toInt = p1.toInt ∧ 0 ≤ p1.toInt ∧ p1.toInt ≤ 9 ∧ 16 ≤ p2.toInt ∧ p2.toInt ≤ 1024) ∧ (¬ ("java/lang/IllegalArgumentException") = "" → s0.toInt = s0.toInt ∧ (p1.toInt < 0 ∨ 9 < p1.toInt ∨ p2.toInt < 16 ∨ 1024 < p2.toInt)) ∧ 0 ≤ s1.toInt ∧ s1.toInt ≤ 1024 ∧ 0 ≤ s2.toInt ∧ s2.toInt ≤ 200 ∧ 0 ≤ s10.toInt ∧ s10.toInt ≤ 512
      exact ⟨by decide, fun h9 => absurd h9 (by decide), fun _ => by omega, by omega, by omega, by omega, by omega, by omega, by omega⟩
set_option maxHeartbeats 4000000 in
theorem s_X11_open_X2 (K : Nat) (hK : 1099511627776 ≤ K) (n0 : Nat) (n1 : Nat) (n2 : Nat) (n3 : Nat) (n4 : Nat) (n5 : Nat) (n6 : Nat) (p1 : Int32) (p2 : Int32) (s0 : Int32) (s1 : Int32) (s2 : Int32) (s3 : Int32) (s4 : Int32) (s5 : Nat → Int32) (s6 : Nat → Int32) (s7 : Nat → Int32) (s8 : Nat → Int32) (s9 : Nat → Int32) (s10 : Int32) (s11 : Int32) (s12 : Nat → Int32) (s13 : Nat → Int32) (s14 : Int32) (a0 : n0 = 1024) (a1 : n1 = 200) (a2 : n2 = 200) (a3 : n3 = 200) (a4 : n4 = 200) (a5 : n5 = 512) (a6 : n6 = 512) (a7 : 0 ≤ s1.toInt) (a8 : s1.toInt ≤ 1024) (a9 : 0 ≤ s2.toInt) (a10 : s2.toInt ≤ 200) (a11 : 0 ≤ s10.toInt) (a12 : s10.toInt ≤ 512) (a13 : 0 ≤ s14.toInt) (a14 : s14.toInt ≤ 1024) : zz_ok (m_X11_open_X2 K n0 n1 n2 n3 n4 n5 n6 p1 p2 s0 s1 s2 s3 s4 s5 s6 s7 s8 s9 s10 s11 s12 s13 s14) (fun z => z.1 ∈ (["", "java/lang/IllegalArgumentException"] : List String) ∧ (z.1 = "" → z.2.1.toInt = p1.toInt ∧ 0 ≤ p1.toInt ∧ p1.toInt ≤ 9 ∧ 16 ≤ p2.toInt ∧ p2.toInt ≤ 1024) ∧ (¬ z.1 = "" → z.2.1.toInt = s0.toInt ∧ (p1.toInt < 0 ∨ 9 < p1.toInt ∨ p2.toInt < 16 ∨ 1024 < p2.toInt)) ∧ 0 ≤ z.2.2.1.toInt ∧ z.2.2.1.toInt ≤ 1024 ∧ 0 ≤ z.2.2.2.1.toInt ∧ z.2.2.2.1.toInt ≤ 200 ∧ 0 ≤ z.2.2.2.2.2.2.2.2.2.2.2.1.toInt ∧ z.2.2.2.2.2.2.2.2.2.2.2.1.toInt ≤ 512 ∧ 0 ≤ z.2.2.2.2.2.2.2.2.2.2.2.2.2.2.2.toInt ∧ z.2.2.2.2.2.2.2.2.2.2.2.2.2.2.2.toInt ≤ 1024) := by
  have g1 := zz_rg p1
  have g2 := zz_rg p2
  have g3 := zz_rg s0
  have g4 := zz_rg s1
  have g5 := zz_rg s2
  have g6 := zz_rg s3
  have g7 := zz_rg s4
  have g8 := zz_rg s10
  have g9 := zz_rg s11
  have g10 := zz_rg s14
  unfold m_X11_open_X2
  have l12 : (0 : Int32).toInt = 0 := rfl
  refine zz_ok_ite (fun c11 => ?_) (fun c11 => ?_)
  · have c11 := Int32.lt_iff_toInt_lt.mp c11
    refine zz_ok_some ?_
    show ("java/lang/IllegalArgumentException") ∈ (["", "java/lang/IllegalArgumentException"] : List String) ∧ (("java/lang/IllegalArgumentException") = "" → s0.toInt = p1.toInt ∧ 0 ≤ p1.toInt ∧ p1.toInt ≤ 9 ∧ 16 ≤ p2.toInt ∧ p2.toInt ≤ 1024) ∧ (¬ ("java/lang/IllegalArgumentException") = "" → s0.toInt = s0.toInt ∧ (p1.toInt < 0 ∨ 9 < p1.toInt ∨ p2.toInt < 16 ∨ 1024 < p2.toInt)) ∧ 0 ≤ s1.toInt ∧ s1.toInt ≤ 1024 ∧ 0 ≤ s2.toInt ∧ s2.toInt ≤ 200 ∧ 0 ≤ s10.toInt ∧ s10.toInt ≤ 512 ∧ 0 ≤ s14.toInt ∧ s14.toInt ≤ 1024
    exact ⟨by decide, fun h9 => absurd h9 (by decide), fun _ => by omega, by omega, by omega, by omega, by omega, by omega, by omega, by omega, by omega⟩
  · have c11 := zz_nlt c11
    have l14 : (10 : Int32).toInt = 10 := rfl
    refine zz_ok_ite (fun c13 => ?_) (fun c13 => ?_)
    · have c13 := Int32.lt_iff_toInt_lt.mp c13
      have l16 : (16 : Int32).toInt = 16 := rfl
      refine zz_ok_ite (fun c15 => ?_) (fun c15 => ?_)
      · have c15 := Int32.lt_iff_toInt_lt.mp c15
        refine zz_ok_some ?_
        show ("java/lang/IllegalArgumentException") ∈ (["", "java/lang/IllegalArgumentException"] : List String) ∧ (("java/lang/IllegalArgumentException") = "" → s0.toInt = p1.toInt ∧ 0 ≤ p1.toInt ∧ p1.toInt ≤ 9 ∧ 16 ≤ p2.toInt ∧ p2.toInt ≤ 1024) ∧ (¬ ("java/lang/IllegalArgumentException") = "" → s0.toInt = s0.toInt ∧ (p1.toInt < 0 ∨ 9 < p1.toInt ∨ p2.toInt < 16 ∨ 1024 < p2.toInt)) ∧ 0 ≤ s1.toInt ∧ s1.toInt ≤ 1024 ∧ 0 ≤ s2.toInt ∧ s2.toInt ≤ 200 ∧ 0 ≤ s10.toInt ∧ s10.toInt ≤ 512 ∧ 0 ≤ s14.toInt ∧ s14.toInt ≤ 1024
        exact ⟨by decide, fun h9 => absurd h9 (by decide), fun _ => by omega, by omega, by omega, by omega, by omega, by omega, by omega, by omega, by omega⟩
      · have c15 := zz_nlt c15
        have l18 : (1024 : Int32).toInt = 1024 := rfl
        refine zz_ok_ite (fun c17 => ?_) (fun c17 => ?_)
        · have c17 := Int32.le_iff_toInt_le.mp c17
          refine zz_ok_bind (s_X7_empty K hK n0 n1 n2 n3 n4 n5 n6 p2 s1 s2 s3 s4 s5 s6 s7 s8 s9 s10 s11 s12 s13 (by omega) (by omega) (by omega) (by omega) (by omega) (by omega) (by omega) (by omega) (by omega) (by omega) (by omega) (by omega) (by omega)) ?_
          intro z19 hz19
          obtain ⟨t_5_0, t_5_1, t_5_2, t_5_3, t_5_4, t_5_5, t_5_6, t_5_7, t_5_8, t_5_9, t_5_10, t_5_11, t_5_12⟩ := z19
          have q20 : 0 ≤ t_5_0.toInt := hz19.1
          have q21 : t_5_0.toInt ≤ 1024 := hz19.2.1
          have q22 : t_5_1.toInt = 0 := hz19.2.2.1
          have q23 : 0 ≤ t_5_9.toInt := hz19.2.2.2.1
          have q24 : t_5_9.toInt ≤ 512 := hz19.2.2.2.2
          have g25 := zz_rg t_5_0
          have g26 := zz_rg t_5_1
          have g27 := zz_rg t_5_2
          have g28 := zz_rg t_5_3
          have g29 := zz_rg t_5_9
          have g30 := zz_rg t_5_10
          show zz_ok (if ¬ (p1 < 0 ∨ 10 ≤ p1.toNatClampNeg) then ((m_X2_begin K n0 n1 n2 n3 n4 n5 n6 s14 t_5_0 t_5_1 t_5_2 t_5_3 t_5_4 t_5_5 t_5_6 t_5_7 t_5_8 t_5_9 t_5_10 t_5_11 t_5_12).bind fun ⟨t_7_0, t_7_1, t_7_2, t_7_3, t_7_4, t_7_5, t_7_6, t_7_7, t_7_8, t_7_9, t_7_10, t_7_11, t_7_12, t_7_13⟩ => some ("", p1, t_7_1, t_7_2, t_7_3, t_7_4, t_7_5, t_7_6, t_7_7, t_7_8, t_7_9, t_7_10, t_7_11, t_7_12, t_7_13, t_7_0)) else none) _
          refine zz_ok_chk (zz_ix (by omega) (by omega)) ?_
          refine zz_ok_bind (s_X2_begin K hK n0 n1 n2 n3 n4 n5 n6 s14 t_5_0 t_5_1 t_5_2 t_5_3 t_5_4 t_5_5 t_5_6 t_5_7 t_5_8 t_5_9 t_5_10 t_5_11 t_5_12 (by omega) (by omega) (by omega) (by omega) (by omega) (by omega) (by omega) (by omega) (by omega) (by omega) (by omega) (by omega) (by omega)) ?_
          intro z31 hz31
          obtain ⟨t_7_0, t_7_1, t_7_2, t_7_3, t_7_4, t_7_5, t_7_6, t_7_7, t_7_8, t_7_9, t_7_10, t_7_11, t_7_12, t_7_13⟩ := z31
          have q32 : t_7_1.toInt = t_5_0.toInt := hz31.1
          have q33 : t_7_2.toInt = t_5_1.toInt := hz31.2.1
          have q34 : 0 ≤ t_7_10.toInt := hz31.2.2.1
          have q35 : t_7_10.toInt ≤ 512 := hz31.2.2.2.1
          have q36 : 0 ≤ t_7_0.toInt := hz31.2.2.2.2.1
          have q37 : t_7_0.toInt ≤ 1024 := hz31.2.2.2.2.2
          have g38 := zz_rg t_7_0
          have g39 := zz_rg t_7_1
          have g40 := zz_rg t_7_2
          have g41 := zz_rg t_7_3
          have g42 := zz_rg t_7_4
          have g43 := zz_rg t_7_10
          have g44 := zz_rg t_7_11
          show zz_ok (some ("", p1, t_7_1, t_7_2, t_7_3, t_7_4, t_7_5, t_7_6, t_7_7, t_7_8, t_7_9, t_7_10, t_7_11, t_7_12, t_7_13, t_7_0)) _
          refine zz_ok_some ?_
          show ("") ∈ (["", "java/lang/IllegalArgumentException"] : List String) ∧ (("") = "" → p1.toInt = p1.toInt ∧ 0 ≤ p1.toInt ∧ p1.toInt ≤ 9 ∧ 16 ≤ p2.toInt ∧ p2.toInt ≤ 1024) ∧ (¬ ("") = "" → p1.toInt = s0.toInt ∧ (p1.toInt < 0 ∨ 9 < p1.toInt ∨ p2.toInt < 16 ∨ 1024 < p2.toInt)) ∧ 0 ≤ t_7_1.toInt ∧ t_7_1.toInt ≤ 1024 ∧ 0 ≤ t_7_2.toInt ∧ t_7_2.toInt ≤ 200 ∧ 0 ≤ t_7_10.toInt ∧ t_7_10.toInt ≤ 512 ∧ 0 ≤ t_7_0.toInt ∧ t_7_0.toInt ≤ 1024
          exact ⟨by decide, fun _ => by omega, fun h9 => absurd rfl h9, by omega, by omega, by omega, by omega, by omega, by omega, by omega, by omega⟩
        · have c17 := zz_nle c17
          refine zz_ok_some ?_
          show ("java/lang/IllegalArgumentException") ∈ (["", "java/lang/IllegalArgumentException"] : List String) ∧ (("java/lang/IllegalArgumentException") = "" → s0.toInt = p1.toInt ∧ 0 ≤ p1.toInt ∧ p1.toInt ≤ 9 ∧ 16 ≤ p2.toInt ∧ p2.toInt ≤ 1024) ∧ (¬ ("java/lang/IllegalArgumentException") = "" → s0.toInt = s0.toInt ∧ (p1.toInt < 0 ∨ 9 < p1.toInt ∨ p2.toInt < 16 ∨ 1024 < p2.toInt)) ∧ 0 ≤ s1.toInt ∧ s1.toInt ≤ 1024 ∧ 0 ≤ s2.toInt ∧ s2.toInt ≤ 200 ∧ 0 ≤ s10.toInt ∧ s10.toInt ≤ 512 ∧ 0 ≤ s14.toInt ∧ s14.toInt ≤ 1024
          exact ⟨by decide, fun h9 => absurd h9 (by decide), fun _ => by omega, by omega, by omega, by omega, by omega, by omega, by omega, by omega, by omega⟩
    · have c13 := zz_nlt c13
      refine zz_ok_some ?_
      show ("java/lang/IllegalArgumentException") ∈ (["", "java/lang/IllegalArgumentException"] : List String) ∧ (("java/lang/IllegalArgumentException") = "" → s0.toInt = p1.toInt ∧ 0 ≤ p1.toInt ∧ p1.toInt ≤ 9 ∧ 16 ≤ p2.toInt ∧ p2.toInt ≤ 1024) ∧ (¬ ("java/lang/IllegalArgumentException") = "" → s0.toInt = s0.toInt ∧ (p1.toInt < 0 ∨ 9 < p1.toInt ∨ p2.toInt < 16 ∨ 1024 < p2.toInt)) ∧ 0 ≤ s1.toInt ∧ s1.toInt ≤ 1024 ∧ 0 ≤ s2.toInt ∧ s2.toInt ≤ 200 ∧ 0 ≤ s10.toInt ∧ s10.toInt ≤ 512 ∧ 0 ≤ s14.toInt ∧ s14.toInt ≤ 1024
      exact ⟨by decide, fun h9 => absurd h9 (by decide), fun _ => by omega, by omega, by omega, by omega, by omega, by omega, by omega, by omega, by omega⟩
set_option maxHeartbeats 4000000 in
theorem s_X11_open_X3 (K : Nat) (hK : 1099511627776 ≤ K) (n0 : Nat) (n1 : Nat) (n2 : Nat) (n3 : Nat) (n4 : Nat) (n5 : Nat) (n6 : Nat) (n7 : Nat) (p1 : Int32) (p2 : Int32) (s0 : Int32) (s1 : Int32) (s2 : Int32) (s3 : Int32) (s4 : Int32) (s5 : Nat → Int32) (s6 : Nat → Int32) (s7 : Nat → Int32) (s8 : Nat → Int32) (s9 : Nat → Int32) (s10 : Int32) (s11 : Int32) (s12 : Nat → Int32) (s13 : Nat → Int32) (s14 : Int32) (s15 : Nat → Int32) (a0 : n0 = 1024) (a1 : n1 = 200) (a2 : n2 = 200) (a3 : n3 = 200) (a4 : n4 = 200) (a5 : n5 = 512) (a6 : n6 = 512) (a7 : n7 = 1024) (a8 : 0 ≤ s1.toInt) (a9 : s1.toInt ≤ 1024) (a10 : 0 ≤ s2.toInt) (a11 : s2.toInt ≤ 200) (a12 : 0 ≤ s10.toInt) (a13 : s10.toInt ≤ 512) (a14 : 0 ≤ s14.toInt) (a15 : s14.toInt ≤ 1024) : zz_ok (m_X11_open_X3 K n0 n1 n2 n3 n4 n5 n6 n7 p1 p2 s0 s1 s2 s3 s4 s5 s6 s7 s8 s9 s10 s11 s12 s13 s14 s15) (fun z => z.1 ∈ (["", "java/lang/IllegalArgumentException"] : List String) ∧ (z.1 = "" → z.2.1.toInt = p1.toInt ∧ 0 ≤ p1.toInt ∧ p1.toInt ≤ 9 ∧ 16 ≤ p2.toInt ∧ p2.toInt ≤ 1024) ∧ (¬ z.1 = "" → z.2.1.toInt = s0.toInt ∧ (p1.toInt < 0 ∨ 9 < p1.toInt ∨ p2.toInt < 16 ∨ 1024 < p2.toInt)) ∧ 0 ≤ z.2.2.1.toInt ∧ z.2.2.1.toInt ≤ 1024 ∧ 0 ≤ z.2.2.2.1.toInt ∧ z.2.2.2.1.toInt ≤ 200 ∧ 0 ≤ z.2.2.2.2.2.2.2.2.2.2.2.1.toInt ∧ z.2.2.2.2.2.2.2.2.2.2.2.1.toInt ≤ 512 ∧ 0 ≤ z.2.2.2.2.2.2.2.2.2.2.2.2.2.2.2.1.toInt ∧ z.2.2.2.2.2.2.2.2.2.2.2.2.2.2.2.1.toInt ≤ 1024) := by
  have g1 := zz_rg p1
  have g2 := zz_rg p2
  have g3 := zz_rg s0
  have g4 := zz_rg s1
  have g5 := zz_rg s2
  have g6 := zz_rg s3
  have g7 := zz_rg s4
  have g8 := zz_rg s10
  have g9 := zz_rg s11
  have g10 := zz_rg s14
  unfold m_X11_open_X3
  have l12 : (0 : Int32).toInt = 0 := rfl
  refine zz_ok_ite (fun c11 => ?_) (fun c11 => ?_)
  · have c11 := Int32.lt_iff_toInt_lt.mp c11
    refine zz_ok_some ?_
    show ("java/lang/IllegalArgumentException") ∈ (["", "java/lang/IllegalArgumentException"] : List String) ∧ (("java/lang/IllegalArgumentException") = "" → s0.toInt = p1.toInt ∧ 0 ≤ p1.toInt ∧ p1.toInt ≤ 9 ∧ 16 ≤ p2.toInt ∧ p2.toInt ≤ 1024) ∧ (¬ ("java/lang/IllegalArgumentException") = "" → s0.toInt = s0.toInt ∧ (p1.toInt < 0 ∨ 9 < p1.toInt ∨ p2.toInt < 16 ∨ 1024 < p2.toInt)) ∧ 0 ≤ s1.toInt ∧ s1.toInt ≤ 1024 ∧ 0 ≤ s2.toInt ∧ s2.toInt ≤ 200 ∧ 0 ≤ s10.toInt ∧ s10.toInt ≤ 512 ∧ 0 ≤ s14.toInt ∧ s14.toInt ≤ 1024
    exact ⟨by decide, fun h9 => absurd h9 (by decide), fun _ => by omega, by omega, by omega, by omega, by omega, by omega, by omega, by omega, by omega⟩
  · have c11 := zz_nlt c11
    have l14 : (10 : Int32).toInt = 10 := rfl
    refine zz_ok_ite (fun c13 => ?_) (fun c13 => ?_)
    · have c13 := Int32.lt_iff_toInt_lt.mp c13
      have l16 : (16 : Int32).toInt = 16 := rfl
      refine zz_ok_ite (fun c15 => ?_) (fun c15 => ?_)
      · have c15 := Int32.lt_iff_toInt_lt.mp c15
        refine zz_ok_some ?_
        show ("java/lang/IllegalArgumentException") ∈ (["", "java/lang/IllegalArgumentException"] : List String) ∧ (("java/lang/IllegalArgumentException") = "" → s0.toInt = p1.toInt ∧ 0 ≤ p1.toInt ∧ p1.toInt ≤ 9 ∧ 16 ≤ p2.toInt ∧ p2.toInt ≤ 1024) ∧ (¬ ("java/lang/IllegalArgumentException") = "" → s0.toInt = s0.toInt ∧ (p1.toInt < 0 ∨ 9 < p1.toInt ∨ p2.toInt < 16 ∨ 1024 < p2.toInt)) ∧ 0 ≤ s1.toInt ∧ s1.toInt ≤ 1024 ∧ 0 ≤ s2.toInt ∧ s2.toInt ≤ 200 ∧ 0 ≤ s10.toInt ∧ s10.toInt ≤ 512 ∧ 0 ≤ s14.toInt ∧ s14.toInt ≤ 1024
        exact ⟨by decide, fun h9 => absurd h9 (by decide), fun _ => by omega, by omega, by omega, by omega, by omega, by omega, by omega, by omega, by omega⟩
      · have c15 := zz_nlt c15
        have l18 : (1024 : Int32).toInt = 1024 := rfl
        refine zz_ok_ite (fun c17 => ?_) (fun c17 => ?_)
        · have c17 := Int32.le_iff_toInt_le.mp c17
          refine zz_ok_bind (s_X7_empty K hK n0 n1 n2 n3 n4 n5 n6 p2 s1 s2 s3 s4 s5 s6 s7 s8 s9 s10 s11 s12 s13 (by omega) (by omega) (by omega) (by omega) (by omega) (by omega) (by omega) (by omega) (by omega) (by omega) (by omega) (by omega) (by omega)) ?_
          intro z19 hz19
          obtain ⟨t_5_0, t_5_1, t_5_2, t_5_3, t_5_4, t_5_5, t_5_6, t_5_7, t_5_8, t_5_9, t_5_10, t_5_11, t_5_12⟩ := z19
          have q20 : 0 ≤ t_5_0.toInt := hz19.1
          have q21 : t_5_0.toInt ≤ 1024 := hz19.2.1
          have q22 : t_5_1.toInt = 0 := hz19.2.2.1
          have q23 : 0 ≤ t_5_9.toInt := hz19.2.2.2.1
          have q24 : t_5_9.toInt ≤ 512 := hz19.2.2.2.2
          have g25 := zz_rg t_5_0
          have g26 := zz_rg t_5_1
          have g27 := zz_rg t_5_2
          have g28 := zz_rg t_5_3
          have g29 := zz_rg t_5_9
          have g30 := zz_rg t_5_10
          show zz_ok (if ¬ (p1 < 0 ∨ 10 ≤ p1.toNatClampNeg) then ((m_X3_begin K n0 n1 n2 n3 n4 n5 n6 n7 s14 t_5_0 t_5_1 t_5_2 t_5_3 t_5_4 t_5_5 t_5_6 t_5_7 t_5_8 t_5_9 t_5_10 t_5_11 t_5_12 s15).bind fun ⟨t_7_0, t_7_1, t_7_2, t_7_3, t_7_4, t_7_5, t_7_6, t_7_7, t_7_8, t_7_9, t_7_10, t_7_11, t_7_12, t_7_13, t_7_14⟩ => some ("", p1, t_7_1, t_7_2, t_7_3, t_7_4, t_7_5, t_7_6, t_7_7, t_7_8, t_7_9, t_7_10, t_7_11, t_7_12, t_7_13, t_7_0, t_7_14)) else none) _
          refine zz_ok_chk (zz_ix (by omega) (by omega)) ?_
          refine zz_ok_bind (s_X3_begin K hK n0 n1 n2 n3 n4 n5 n6 n7 s14 t_5_0 t_5_1 t_5_2 t_5_3 t_5_4 t_5_5 t_5_6 t_5_7 t_5_8 t_5_9 t_5_10 t_5_11 t_5_12 s15 (by omega) (by omega) (by omega) (by omega) (by omega) (by omega) (by omega) (by omega) (by omega) (by omega) (by omega) (by omega) (by omega) (by omega)) ?_
          intro z31 hz31
          obtain ⟨t_7_0, t_7_1, t_7_2, t_7_3, t_7_4, t_7_5, t_7_6, t_7_7, t_7_8, t_7_9, t_7_10, t_7_11, t_7_12, t_7_13, t_7_14⟩ := z31
          have q32 : t_7_1.toInt = t_5_0.toInt := hz31.1
          have q33 : t_7_2.toInt = t_5_1.toInt := hz31.2.1
          have q34 : 0 ≤ t_7_10.toInt := hz31.2.2.1
          have q35 : t_7_10.toInt ≤ 512 := hz31.2.2.2.1
          have q36 : 0 ≤ t_7_0.toInt := hz31.2.2.2.2.1
          have q37 : t_7_0.toInt ≤ 1024 := hz31.2.2.2.2.2
          have g38 := zz_rg t_7_0
          have g39 := zz_rg t_7_1
          have g40 := zz_rg t_7_2
          have g41 := zz_rg t_7_3
          have g42 := zz_rg t_7_4
          have g43 := zz_rg t_7_10
          have g44 := zz_rg t_7_11
          show zz_ok (some ("", p1, t_7_1, t_7_2, t_7_3, t_7_4, t_7_5, t_7_6, t_7_7, t_7_8, t_7_9, t_7_10, t_7_11, t_7_12, t_7_13, t_7_0, t_7_14)) _
          refine zz_ok_some ?_
          show ("") ∈ (["", "java/lang/IllegalArgumentException"] : List String) ∧ (("") = "" → p1.toInt = p1.toInt ∧ 0 ≤ p1.toInt ∧ p1.toInt ≤ 9 ∧ 16 ≤ p2.toInt ∧ p2.toInt ≤ 1024) ∧ (¬ ("") = "" → p1.toInt = s0.toInt ∧ (p1.toInt < 0 ∨ 9 < p1.toInt ∨ p2.toInt < 16 ∨ 1024 < p2.toInt)) ∧ 0 ≤ t_7_1.toInt ∧ t_7_1.toInt ≤ 1024 ∧ 0 ≤ t_7_2.toInt ∧ t_7_2.toInt ≤ 200 ∧ 0 ≤ t_7_10.toInt ∧ t_7_10.toInt ≤ 512 ∧ 0 ≤ t_7_0.toInt ∧ t_7_0.toInt ≤ 1024
          exact ⟨by decide, fun _ => by omega, fun h9 => absurd rfl h9, by omega, by omega, by omega, by omega, by omega, by omega, by omega, by omega⟩
        · have c17 := zz_nle c17
          refine zz_ok_some ?_
          show ("java/lang/IllegalArgumentException") ∈ (["", "java/lang/IllegalArgumentException"] : List String) ∧ (("java/lang/IllegalArgumentException") = "" → s0.toInt = p1.toInt ∧ 0 ≤ p1.toInt ∧ p1.toInt ≤ 9 ∧ 16 ≤ p2.toInt ∧ p2.toInt ≤ 1024) ∧ (¬ ("java/lang/IllegalArgumentException") = "" → s0.toInt = s0.toInt ∧ (p1.toInt < 0 ∨ 9 < p1.toInt ∨ p2.toInt < 16 ∨ 1024 < p2.toInt)) ∧ 0 ≤ s1.toInt ∧ s1.toInt ≤ 1024 ∧ 0 ≤ s2.toInt ∧ s2.toInt ≤ 200 ∧ 0 ≤ s10.toInt ∧ s10.toInt ≤ 512 ∧ 0 ≤ s14.toInt ∧ s14.toInt ≤ 1024
          exact ⟨by decide, fun h9 => absurd h9 (by decide), fun _ => by omega, by omega, by omega, by omega, by omega, by omega, by omega, by omega, by omega⟩
    · have c13 := zz_nlt c13
      refine zz_ok_some ?_
      show ("java/lang/IllegalArgumentException") ∈ (["", "java/lang/IllegalArgumentException"] : List String) ∧ (("java/lang/IllegalArgumentException") = "" → s0.toInt = p1.toInt ∧ 0 ≤ p1.toInt ∧ p1.toInt ≤ 9 ∧ 16 ≤ p2.toInt ∧ p2.toInt ≤ 1024) ∧ (¬ ("java/lang/IllegalArgumentException") = "" → s0.toInt = s0.toInt ∧ (p1.toInt < 0 ∨ 9 < p1.toInt ∨ p2.toInt < 16 ∨ 1024 < p2.toInt)) ∧ 0 ≤ s1.toInt ∧ s1.toInt ≤ 1024 ∧ 0 ≤ s2.toInt ∧ s2.toInt ≤ 200 ∧ 0 ≤ s10.toInt ∧ s10.toInt ≤ 512 ∧ 0 ≤ s14.toInt ∧ s14.toInt ≤ 1024
      exact ⟨by decide, fun h9 => absurd h9 (by decide), fun _ => by omega, by omega, by omega, by omega, by omega, by omega, by omega, by omega, by omega⟩
set_option maxHeartbeats 4000000 in
theorem s_X11_open_X4 (K : Nat) (hK : 1099511627776 ≤ K) (n0 : Nat) (n1 : Nat) (n2 : Nat) (n3 : Nat) (n4 : Nat) (n5 : Nat) (n6 : Nat) (n7 : Nat) (n8 : Nat) (p1 : Int32) (p2 : Int32) (s0 : Int32) (s1 : Int32) (s2 : Int32) (s3 : Int32) (s4 : Int32) (s5 : Nat → Int32) (s6 : Nat → Int32) (s7 : Nat → Int32) (s8 : Nat → Int32) (s9 : Nat → Int32) (s10 : Int32) (s11 : Int32) (s12 : Nat → Int32) (s13 : Nat → Int32) (s14 : Int32) (s15 : Int32) (s16 : Nat → Int32) (s17 : Nat → Int32) (a0 : n0 = 1024) (a1 : n1 = 200) (a2 : n2 = 200) (a3 : n3 = 200) (a4 : n4 = 200) (a5 : n5 = 512) (a6 : n6 = 512) (a7 : n7 = 201) (a8 : n8 = 201) (a9 : 0 ≤ s1.toInt) (a10 : s1.toInt ≤ 1024) (a11 : 0 ≤ s2.toInt) (a12 : s2.toInt ≤ 200) (a13 : 0 ≤ s10.toInt) (a14 : s10.toInt ≤ 512) (a15 : 0 ≤ s14.toInt) (a16 : s14.toInt ≤ 201) : zz_ok (m_X11_open_X4 K n0 n1 n2 n3 n4 n5 n6 n7 n8 p1 p2 s0 s1 s2 s3 s4 s5 s6 s7 s8 s9 s10 s11 s12 s13 s14 s15 s16 s17) (fun z => z.1 ∈ (["", "java/lang/IllegalArgumentException"] : List String) ∧ (z.1 = "" → z.2.1.toInt = p1.toInt ∧ 0 ≤ p1.toInt ∧ p1.toInt ≤ 9 ∧ 16 ≤ p2.toInt ∧ p2.toInt ≤ 1024) ∧ (¬ z.1 = "" → z.2.1.toInt = s0.toInt ∧ (p1.toInt < 0 ∨ 9 < p1.toInt ∨ p2.toInt < 16 ∨ 1024 < p2.toInt)) ∧ 0 ≤ z.2.2.1.toInt ∧ z.2.2.1.toInt ≤ 1024 ∧ 0 ≤ z.2.2.2.1.toInt ∧ z.2.2.2.1.toInt ≤ 200 ∧ 0 ≤ z.2.2.2.2.2.2.2.2.2.2.2.1.toInt ∧ z.2.2.2.2.2.2.2.2.2.2.2.1.toInt ≤ 512 ∧ 0 ≤ z.2.2.2.2.2.2.2.2.2.2.2.2.2.2.2.1.toInt ∧ z.2.2.2.2.2.2.2.2.2.2.2.2.2.2.2.1.toInt ≤ 201) := by
  have g1 := zz_rg p1
  have g2 := zz_rg p2
  have g3 := zz_rg s0
  have g4 := zz_rg s1
  have g5 := zz_rg s2
  have g6 := zz_rg s3
  have g7 := zz_rg s4
  have g8 := zz_rg s10
  have g9 := zz_rg s11
  have g10 := zz_rg s14
  have g11 := zz_rg s15
  unfold m_X11_open_X4
  have l13 : (0 : Int32).toInt = 0 := rfl
  refine zz_ok_ite (fun c12 => ?_) (fun c12 => ?_)
  · have c12 := Int32.lt_iff_toInt_lt.mp c12
    refine zz_ok_some ?_
    show ("java/lang/IllegalArgumentException") ∈ (["", "java/lang/IllegalArgumentException"] : List String) ∧ (("java/lang/IllegalArgumentException") = "" → s0.toInt = p1.toInt ∧ 0 ≤ p1.toInt ∧ p1.toInt ≤ 9 ∧ 16 ≤ p2.toInt ∧ p2.toInt ≤ 1024) ∧ (¬ ("java/lang/IllegalArgumentException") = "" → s0.toInt = s0.toInt ∧ (p1.toInt < 0 ∨ 9 < p1.toInt ∨ p2.toInt < 16 ∨ 1024 < p2.toInt)) ∧ 0 ≤ s1.toInt ∧ s1.toInt ≤ 1024 ∧ 0 ≤ s2.toInt ∧ s2.toInt ≤ 200 ∧ 0 ≤ s10.toInt ∧ s10.toInt ≤ 512 ∧ 0 ≤ s14.toInt ∧ s14.toInt ≤ 201
    exact ⟨by decide, fun h9 => absurd h9 (by decide), fun _ => by omega, by omega, by omega, by omega, by omega, by omega, by omega, by omega, by omega⟩
  · have c12 := zz_nlt c12
    have l15 : (10 : Int32).toInt = 10 := rfl
    refine zz_ok_ite (fun c14 => ?_) (fun c14 => ?_)
    · have c14 := Int32.lt_iff_toInt_lt.mp c14
      have l17 : (16 : Int32).toInt = 16 := rfl
      refine zz_ok_ite (fun c16 => ?_) (fun c16 => ?_)
      · have c16 := Int32.lt_iff_toInt_lt.mp c16
        refine zz_ok_some ?_
        show ("java/lang/IllegalArgumentException") ∈ (["", "java/lang/IllegalArgumentException"] : List String) ∧ (("java/lang/IllegalArgumentException") = "" → s0.toInt = p1.toInt ∧ 0 ≤ p1.toInt ∧ p1.toInt ≤ 9 ∧ 16 ≤ p2.toInt ∧ p2.toInt ≤ 1024) ∧ (¬ ("java/lang/IllegalArgumentException") = "" → s0.toInt = s0.toInt ∧ (p1.toInt < 0 ∨ 9 < p1.toInt ∨ p2.toInt < 16 ∨ 1024 < p2.toInt)) ∧ 0 ≤ s1.toInt ∧ s1.toInt ≤ 1024 ∧ 0 ≤ s2.toInt ∧ s2.toInt ≤ 200 ∧ 0 ≤ s10.toInt ∧ s10.toInt ≤ 512 ∧ 0 ≤ s14.toInt ∧ s14.toInt ≤ 201
        exact ⟨by decide, fun h9 => absurd h9 (by decide), fun _ => by omega, by omega, by omega, by omega, by omega, by omega, by omega, by omega, by omega⟩
      · have c16 := zz_nlt c16
        have l19 : (1024 : Int32).toInt = 1024 := rfl
        refine zz_ok_ite (fun c18 => ?_) (fun c18 => ?_)
        · have c18 := Int32.le_iff_toInt_le.mp c18
          refine zz_ok_bind (s_X7_empty K hK n0 n1 n2 n3 n4 n5 n6 p2 s1 s2 s3 s4 s5 s6 s7 s8 s9 s10 s11 s12 s13 (by omega) (by omega) (by omega) (by omega) (by omega) (by omega) (by omega) (by omega) (by omega) (by omega) (by omega) (by omega) (by omega)) ?_
          intro z20 hz20
          obtain ⟨t_5_0, t_5_1, t_5_2, t_5_3, t_5_4, t_5_5, t_5_6, t_5_7, t_5_8, t_5_9, t_5_10, t_5_11, t_5_12⟩ := z20
          have q21 : 0 ≤ t_5_0.toInt := hz20.1
          have q22 : t_5_0.toInt ≤ 1024 := hz20.2.1
          have q23 : t_5_1.toInt = 0 := hz20.2.2.1
          have q24 : 0 ≤ t_5_9.toInt := hz20.2.2.2.1
          have q25 : t_5_9.toInt ≤ 512 := hz20.2.2.2.2
          have g26 := zz_rg t_5_0
          have g27 := zz_rg t_5_1
          have g28 := zz_rg t_5_2
          have g29 := zz_rg t_5_3
          have g30 := zz_rg t_5_9
          have g31 := zz_rg t_5_10
          show zz_ok (if ¬ (p1 < 0 ∨ 10 ≤ p1.toNatClampNeg) then ((m_X4_begin K n0 n1 n2 n3 n4 n5 n6 n7 n8 t_5_0 t_5_1 t_5_2 t_5_3 t_5_4 t_5_5 t_5_6 t_5_7 t_5_8 t_5_9 t_5_10 t_5_11 t_5_12 s14 s15 s16 s17).bind fun ⟨t_7_0, t_7_1, t_7_2, t_7_3, t_7_4, t_7_5, t_7_6, t_7_7, t_7_8, t_7_9, t_7_10, t_7_11, t_7_12, t_7_13, t_7_14, t_7_15, t_7_16⟩ => some ("", p1, t_7_0, t_7_1, t_7_2, t_7_3, t_7_4, t_7_5, t_7_6, t_7_7, t_7_8, t_7_9, t_7_10, t_7_11, t_7_12, t_7_13, t_7_14, t_7_15, t_7_16)) else none) _
          refine zz_ok_chk (zz_ix (by omega) (by omega)) ?_
          refine zz_ok_bind (s_X4_begin K hK n0 n1 n2 n3 n4 n5 n6 n7 n8 t_5_0 t_5_1 t_5_2 t_5_3 t_5_4 t_5_5 t_5_6 t_5_7 t_5_8 t_5_9 t_5_10 t_5_11 t_5_12 s14 s15 s16 s17 (by omega) (by omega) (by omega) (by omega) (by omega) (by omega) (by omega) (by omega) (by omega) (by omega) (by omega) (by omega) (by omega) (by omega) (by omega) (by omega) (by omega)) ?_
          intro z32 hz32
          obtain ⟨t_7_0, t_7_1, t_7_2, t_7_3, t_7_4, t_7_5, t_7_6, t_7_7, t_7_8, t_7_9, t_7_10, t_7_11, t_7_12, t_7_13, t_7_14, t_7_15, t_7_16⟩ := z32
          have q33 : t_7_0.toInt = t_5_0.toInt := hz32.1
          have q34 : t_7_1.toInt = t_5_1.toInt := hz32.2.1
          have q35 : 0 ≤ t_7_9.toInt := hz32.2.2.1
          have q36 : t_7_9.toInt ≤ 512 := hz32.2.2.2.1
          have q37 : 0 ≤ t_7_13.toInt := hz32.2.2.2.2.1
          have q38 : t_7_13.toInt ≤ 201 := hz32.2.2.2.2.2
          have g39 := zz_rg t_7_0
          have g40 := zz_rg t_7_1
          have g41 := zz_rg t_7_2
          have g42 := zz_rg t_7_3
          have g43 := zz_rg t_7_9
          have g44 := zz_rg t_7_10
          have g45 := zz_rg t_7_13
          have g46 := zz_rg t_7_14
          show zz_ok (some ("", p1, t_7_0, t_7_1, t_7_2, t_7_3, t_7_4, t_7_5, t_7_6, t_7_7, t_7_8, t_7_9, t_7_10, t_7_11, t_7_12, t_7_13, t_7_14, t_7_15, t_7_16)) _
          refine zz_ok_some ?_
          show ("") ∈ (["", "java/lang/IllegalArgumentException"] : List String) ∧ (("") = "" → p1.toInt = p1.toInt ∧ 0 ≤ p1.toInt ∧ p1.toInt ≤ 9 ∧ 16 ≤ p2.toInt ∧ p2.toInt ≤ 1024) ∧ (¬ ("") = "" → p1.toInt = s0.toInt ∧ (p1.toInt < 0 ∨ 9 < p1.toInt ∨ p2.toInt < 16 ∨ 1024 < p2.toInt)) ∧ 0 ≤ t_7_0.toInt ∧ t_7_0.toInt ≤ 1024 ∧ 0 ≤ t_7_1.toInt ∧ t_7_1.toInt ≤ 200 ∧ 0 ≤ t_7_9.toInt ∧ t_7_9.toInt ≤ 512 ∧ 0 ≤ t_7_13.toInt ∧ t_7_13.toInt ≤ 201
          exact ⟨by decide, fun _ => by omega, fun h9 => absurd rfl h9, by omega, by omega, by omega, by omega, by omega, by omega, by omega, by omega⟩
        · have c18 := zz_nle c18
          refine zz_ok_some ?_
          show ("java/lang/IllegalArgumentException") ∈ (["", "java/lang/IllegalArgumentException"] : List String) ∧ (("java/lang/IllegalArgumentException") = "" → s0.toInt = p1.toInt ∧ 0 ≤ p1.toInt ∧ p1.toInt ≤ 9 ∧ 16 ≤ p2.toInt ∧ p2.toInt ≤ 1024) ∧ (¬ ("java/lang/IllegalArgumentException") = "" → s0.toInt = s0.toInt ∧ (p1.toInt < 0 ∨ 9 < p1.toInt ∨ p2.toInt < 16 ∨ 1024 < p2.toInt)) ∧ 0 ≤ s1.toInt ∧ s1.toInt ≤ 1024 ∧ 0 ≤ s2.toInt ∧ s2.toInt ≤ 200 ∧ 0 ≤ s10.toInt ∧ s10.toInt ≤ 512 ∧ 0 ≤ s14.toInt ∧ s14.toInt ≤ 201
          exact ⟨by decide, fun h9 => absurd h9 (by decide), fun _ => by omega, by omega, by omega, by omega, by omega, by omega, by omega, by omega, by omega⟩
    · have c14 := zz_nlt c14
      refine zz_ok_some ?_
      show ("java/lang/IllegalArgumentException") ∈ (["", "java/lang/IllegalArgumentException"] : List String) ∧ (("java/lang/IllegalArgumentException") = "" → s0.toInt = p1.toInt ∧ 0 ≤ p1.toInt ∧ p1.toInt ≤ 9 ∧ 16 ≤ p2.toInt ∧ p2.toInt ≤ 1024) ∧ (¬ ("java/lang/IllegalArgumentException") = "" → s0.toInt = s0.toInt ∧ (p1.toInt < 0 ∨ 9 < p1.toInt ∨ p2.toInt < 16 ∨ 1024 < p2.toInt)) ∧ 0 ≤ s1.toInt ∧ s1.toInt ≤ 1024 ∧ 0 ≤ s2.toInt ∧ s2.toInt ≤ 200 ∧ 0 ≤ s10.toInt ∧ s10.toInt ≤ 512 ∧ 0 ≤ s14.toInt ∧ s14.toInt ≤ 201
      exact ⟨by decide, fun h9 => absurd h9 (by decide), fun _ => by omega, by omega, by omega, by omega, by omega, by omega, by omega, by omega, by omega⟩
set_option maxHeartbeats 4000000 in
theorem s_X11_open_X5 (K : Nat) (hK : 1099511627776 ≤ K) (n0 : Nat) (n1 : Nat) (n2 : Nat) (n3 : Nat) (n4 : Nat) (n5 : Nat) (n6 : Nat) (n7 : Nat) (n8 : Nat) (p1 : Int32) (p2 : Int32) (s0 : Int32) (s1 : Int32) (s2 : Int32) (s3 : Int32) (s4 : Int32) (s5 : Nat → Int32) (s6 : Nat → Int32) (s7 : Nat → Int32) (s8 : Nat → Int32) (s9 : Nat → Int32) (s10 : Int32) (s11 : Int32) (s12 : Nat → Int32) (s13 : Nat → Int32) (s14 : Int32) (s15 : Nat → Int32) (s16 : Nat → Int32) (a0 : n0 = 1024) (a1 : n1 = 200) (a2 : n2 = 200) (a3 : n3 = 200) (a4 : n4 = 200) (a5 : n5 = 512) (a6 : n6 = 512) (a7 : n7 = 32) (a8 : n8 = 32) (a9 : 0 ≤ s1.toInt) (a10 : s1.toInt ≤ 1024) (a11 : 0 ≤ s2.toInt) (a12 : s2.toInt ≤ 200) (a13 : 0 ≤ s10.toInt) (a14 : s10.toInt ≤ 512) (a15 : 0 ≤ s14.toInt) (a16 : s14.toInt ≤ 32) : zz_ok (m_X11_open_X5 K n0 n1 n2 n3 n4 n5 n6 n7 n8 p1 p2 s0 s1 s2 s3 s4 s5 s6 s7 s8 s9 s10 s11 s12 s13 s14 s15 s16) (fun z => z.1 ∈ (["", "java/lang/IllegalArgumentException"] : List String) ∧ (z.1 = "" → z.2.1.toInt = p1.toInt ∧ 0 ≤ p1.toInt ∧ p1.toInt ≤ 9 ∧ 16 ≤ p2.toInt ∧ p2.toInt ≤ 1024) ∧ (¬ z.1 = "" → z.2.1.toInt = s0.toInt ∧ (p1.toInt < 0 ∨ 9 < p1.toInt ∨ p2.toInt < 16 ∨ 1024 < p2.toInt)) ∧ 0 ≤ z.2.2.1.toInt ∧ z.2.2.1.toInt ≤ 1024 ∧ 0 ≤ z.2.2.2.1.toInt ∧ z.2.2.2.1.toInt ≤ 200 ∧ 0 ≤ z.2.2.2.2.2.2.2.2.2.2.2.1.toInt ∧ z.2.2.2.2.2.2.2.2.2.2.2.1.toInt ≤ 512 ∧ 0 ≤ z.2.2.2.2.2.2.2.2.2.2.2.2.2.2.2.1.toInt ∧ z.2.2.2.2.2.2.2.2.2.2.2.2.2.2.2.1.toInt ≤ 32) := by
  have g1 := zz_rg p1
  have g2 := zz_rg p2
  have g3 := zz_rg s0
  have g4 := zz_rg s1
  have g5 := zz_rg s2
  have g6 := zz_rg s3
  have g7 := zz_rg s4
  have g8 := zz_rg s10
  have g9 := zz_rg s11
  have g10 := zz_rg s14
  unfold m_X11_open_X5
  have l12 : (0 : Int32).toInt = 0 := rfl
  refine zz_ok_ite (fun c11 => ?_) (fun c11 => ?_)
  · have c11 := Int32.lt_iff_toInt_lt.mp c11
    refine zz_ok_some ?_
    show ("java/lang/IllegalArgumentException") ∈ (["", "java/lang/IllegalArgumentException"] : List String) ∧ (("java/lang/IllegalArgumentException") = "" → s0.toInt = p1.toInt ∧ 0 ≤ p1.toInt ∧ p1.toInt ≤ 9 ∧ 16 ≤ p2.toInt ∧ p2.toInt ≤ 1024) ∧ (¬ ("java/lang/IllegalArgumentException") = "" → s0.toInt = s0.toInt ∧ (p1.toInt < 0 ∨ 9 < p1.toInt ∨ p2.toInt < 16 ∨ 1024 < p2.toInt)) ∧ 0 ≤ s1.toInt ∧ s1.toInt ≤ 1024 ∧ 0 ≤ s2.toInt ∧ s2.toInt ≤ 200 ∧ 0 ≤ s10.toInt ∧ s10.toInt ≤ 512 ∧ 0 ≤ s14.toInt ∧ s14.toInt ≤ 32
    exact ⟨by decide, fun h9 => absurd h9 (by decide), fun _ => by omega, by omega, by omega, by omega, by omega, by omega, by omega, by omega, by omega⟩
  · have c11 := zz_nlt c11
    have l14 : (10 : Int32).toInt = 10 := rfl
    refine zz_ok_ite (fun c13 => ?_) (fun c13 => ?_)
    · have c13 := Int32.lt_iff_toInt_lt.mp c13
      have l16 : (16 : Int32).toInt = 16 := rfl
      refine zz_ok_ite (fun c15 => ?_) (fun c15 => ?_)
      · have c15 := Int32.lt_iff_toInt_lt.mp c15
        refine zz_ok_some ?_
        show ("java/lang/IllegalArgumentException") ∈ (["", "java/lang/IllegalArgumentException"] : List String) ∧ (("java/lang/IllegalArgumentException") = "" → s0.toInt = p1.toInt ∧ 0 ≤ p1.toInt ∧ p1.toInt ≤ 9 ∧ 16 ≤ p2.toInt ∧ p2.toInt ≤ 1024) ∧ (¬ ("java/lang/IllegalArgumentException") = "" → s0.toInt = s0.toInt ∧ (p1.toInt < 0 ∨ 9 < p1.toInt ∨ p2.toInt < 16 ∨ 1024 < p2.toInt)) ∧ 0 ≤ s1.toInt ∧ s1.toInt ≤ 1024 ∧ 0 ≤ s2.toInt ∧ s2.toInt ≤ 200 ∧ 0 ≤ s10.toInt ∧ s10.toInt ≤ 512 ∧ 0 ≤ s14.toInt ∧ s14.toInt ≤ 32
        exact ⟨by decide, fun h9 => absurd h9 (by decide), fun _ => by omega, by omega, by omega, by omega, by omega, by omega, by omega, by omega, by omega⟩
      · have c15 := zz_nlt c15
        have l18 : (1024 : Int32).toInt = 1024 := rfl
        refine zz_ok_ite (fun c17 => ?_) (fun c17 => ?_)
        · have c17 := Int32.le_iff_toInt_le.mp c17
          refine zz_ok_bind (s_X7_empty K hK n0 n1 n2 n3 n4 n5 n6 p2 s1 s2 s3 s4 s5 s6 s7 s8 s9 s10 s11 s12 s13 (by omega) (by omega) (by omega) (by omega) (by omega) (by omega) (by omega) (by omega) (by omega) (by omega) (by omega) (by omega) (by omega)) ?_
          intro z19 hz19
          obtain ⟨t_5_0, t_5_1, t_5_2, t_5_3, t_5_4, t_5_5, t_5_6, t_5_7, t_5_8, t_5_9, t_5_10, t_5_11, t_5_12⟩ := z19
          have q20 : 0 ≤ t_5_0.toInt := hz19.1
          have q21 : t_5_0.toInt ≤ 1024 := hz19.2.1
          have q22 : t_5_1.toInt = 0 := hz19.2.2.1
          have q23 : 0 ≤ t_5_9.toInt := hz19.2.2.2.1
          have q24 : t_5_9.toInt ≤ 512 := hz19.2.2.2.2
          have g25 := zz_rg t_5_0
          have g26 := zz_rg t_5_1
          have g27 := zz_rg t_5_2
          have g28 := zz_rg t_5_3
          have g29 := zz_rg t_5_9
          have g30 := zz_rg t_5_10
          show zz_ok (if ¬ (p1 < 0 ∨ 10 ≤ p1.toNatClampNeg) then ((m_X5_begin K n0 n1 n2 n3 n4 n5 n6 n7 n8 s14 t_5_0 t_5_1 t_5_2 t_5_3 t_5_4 t_5_5 t_5_6 t_5_7 t_5_8 t_5_9 t_5_10 t_5_11 t_5_12 s15 s16).bind fun ⟨t_7_0, t_7_1, t_7_2, t_7_3, t_7_4, t_7_5, t_7_6, t_7_7, t_7_8, t_7_9, t_7_10, t_7_11, t_7_12, t_7_13, t_7_14, t_7_15⟩ => some ("", p1, t_7_1, t_7_2, t_7_3, t_7_4, t_7_5, t_7_6, t_7_7, t_7_8, t_7_9, t_7_10, t_7_11, t_7_12, t_7_13, t_7_0, t_7_14, t_7_15)) else none) _
          refine zz_ok_chk (zz_ix (by omega) (by omega)) ?_
          refine zz_ok_bind (s_X5_begin K hK n0 n1 n2 n3 n4 n5 n6 n7 n8 s14 t_5_0 t_5_1 t_5_2 t_5_3 t_5_4 t_5_5 t_5_6 t_5_7 t_5_8 t_5_9 t_5_10 t_5_11 t_5_12 s15 s16 (by omega) (by omega) (by omega) (by omega) (by omega) (by omega) (by omega) (by omega) (by omega) (by omega) (by omega) (by omega) (by omega) (by omega) (by omega)) ?_
          intro z31 hz31
          obtain ⟨t_7_0, t_7_1, t_7_2, t_7_3, t_7_4, t_7_5, t_7_6, t_7_7, t_7_8, t_7_9, t_7_10, t_7_11, t_7_12, t_7_13, t_7_14, t_7_15⟩ := z31
          have q32 : t_7_1.toInt = t_5_0.toInt := hz31.1
          have q33 : t_7_2.toInt = t_5_1.toInt := hz31.2.1
          have q34 : 0 ≤ t_7_10.toInt := hz31.2.2.1
          have q35 : t_7_10.toInt ≤ 512 := hz31.2.2.2.1
          have q36 : 0 ≤ t_7_0.toInt := hz31.2.2.2.2.1
          have q37 : t_7_0.toInt ≤ 32 := hz31.2.2.2.2.2
          have g38 := zz_rg t_7_0
          have g39 := zz_rg t_7_1
          have g40 := zz_rg t_7_2
          have g41 := zz_rg t_7_3
          have g42 := zz_rg t_7_4
          have g43 := zz_rg t_7_10
          have g44 := zz_rg t_7_11
          show zz_ok (some ("", p1, t_7_1, t_7_2, t_7_3, t_7_4, t_7_5, t_7_6, t_7_7, t_7_8, t_7_9, t_7_10, t_7_11, t_7_12, t_7_13, t_7_0, t_7_14, t_7_15)) _
          refine zz_ok_some ?_
          show ("") ∈ (["", "java/lang/IllegalArgumentException"] : List String) ∧ (("") = "" → p1.toInt = p1.toInt ∧ 0 ≤ p1.toInt ∧ p1.toInt ≤ 9 ∧ 16 ≤ p2.toInt ∧ p2.toInt ≤ 1024) ∧ (¬ ("") = "" → p1.toInt = s0.toInt ∧ (p1.toInt < 0 ∨ 9 < p1.toInt ∨ p2.toInt < 16 ∨ 1024 < p2.toInt)) ∧ 0 ≤ t_7_1.toInt ∧ t_7_1.toInt ≤ 1024 ∧ 0 ≤ t_7_2.toInt ∧ t_7_2.toInt ≤ 200 ∧ 0 ≤ t_7_10.toInt ∧ t_7_10.toInt ≤ 512 ∧ 0 ≤ t_7_0.toInt ∧ t_7_0.toInt ≤ 32
          exact ⟨by decide, fun _ => by omega, fun h9 => absurd rfl h9, by omega, by omega, by omega, by omega, by omega, by omega, by omega, by omega⟩
        · have c17 := zz_nle c17
          refine zz_ok_some ?_
          show ("java/lang/IllegalArgumentException") ∈ (["", "java/lang/IllegalArgumentException"] : List String) ∧ (("java/lang/IllegalArgumentException") = "" → s0.toInt = p1.toInt ∧ 0 ≤ p1.toInt ∧ p1.toInt ≤ 9 ∧ 16 ≤ p2.toInt ∧ p2.toInt ≤ 1024) ∧ (¬ ("java/lang/IllegalArgumentException") = "" → s0.toInt = s0.toInt ∧ (p1.toInt < 0 ∨ 9 < p1.toInt ∨ p2.toInt < 16 ∨ 1024 < p2.toInt)) ∧ 0 ≤ s1.toInt ∧ s1.toInt ≤ 1024 ∧ 0 ≤ s2.toInt ∧ s2.toInt ≤ 200 ∧ 0 ≤ s10.toInt ∧ s10.toInt ≤ 512 ∧ 0 ≤ s14.toInt ∧ s14.toInt ≤ 32
          exact ⟨by decide, fun h9 => absurd h9 (by decide), fun _ => by omega, by omega, by omega, by omega, by omega, by omega, by omega, by omega, by omega⟩
    · have c13 := zz_nlt c13
      refine zz_ok_some ?_
      show ("java/lang/IllegalArgumentException") ∈ (["", "java/lang/IllegalArgumentException"] : List String) ∧ (("java/lang/IllegalArgumentException") = "" → s0.toInt = p1.toInt ∧ 0 ≤ p1.toInt ∧ p1.toInt ≤ 9 ∧ 16 ≤ p2.toInt ∧ p2.toInt ≤ 1024) ∧ (¬ ("java/lang/IllegalArgumentException") = "" → s0.toInt = s0.toInt ∧ (p1.toInt < 0 ∨ 9 < p1.toInt ∨ p2.toInt < 16 ∨ 1024 < p2.toInt)) ∧ 0 ≤ s1.toInt ∧ s1.toInt ≤ 1024 ∧ 0 ≤ s2.toInt ∧ s2.toInt ≤ 200 ∧ 0 ≤ s10.toInt ∧ s10.toInt ≤ 512 ∧ 0 ≤ s14.toInt ∧ s14.toInt ≤ 32
      exact ⟨by decide, fun h9 => absurd h9 (by decide), fun _ => by omega, by omega, by omega, by omega, by omega, by omega, by omega, by omega, by omega⟩
set_option maxHeartbeats 4000000 in
theorem s_X11_open_X6 (K : Nat) (hK : 1099511627776 ≤ K) (n0 : Nat) (n1 : Nat) (n2 : Nat) (n3 : Nat) (n4 : Nat) (n5 : Nat) (n6 : Nat) (n7 : Nat) (n8 : Nat) (p1 : Int32) (p2 : Int32) (s0 : Int32) (s1 : Int32) (s2 : Int32) (s3 : Int32) (s4 : Int32) (s5 : Nat → Int32) (s6 : Nat → Int32) (s7 : Nat → Int32) (s8 : Nat → Int32) (s9 : Nat → Int32) (s10 : Int32) (s11 : Int32) (s12 : Nat → Int32) (s13 : Nat → Int32) (s14 : Int32) (s15 : Int32) (s16 : Nat → Int32) (s17 : Nat → Int32) (a0 : n0 = 1024) (a1 : n1 = 200) (a2 : n2 = 200) (a3 : n3 = 200) (a4 : n4 = 200) (a5 : n5 = 512) (a6 : n6 = 512) (a7 : n7 = 1024) (a8 : n8 = 1024) (a9 : 0 ≤ s1.toInt) (a10 : s1.toInt ≤ 1024) (a11 : 0 ≤ s2.toInt) (a12 : s2.toInt ≤ 200) (a13 : 0 ≤ s10.toInt) (a14 : s10.toInt ≤ 512) (a15 : 0 ≤ s14.toInt) (a16 : s14.toInt ≤ 1024) : zz_ok (m_X11_open_X6 K n0 n1 n2 n3 n4 n5 n6 n7 n8 p1 p2 s0 s1 s2 s3 s4 s5 s6 s7 s8 s9 s10 s11 s12 s13 s14 s15 s16 s17) (fun z => z.1 ∈ (["", "java/lang/IllegalArgumentException"] : List String) ∧ (z.1 = "" → z.2.1.toInt = p1.toInt ∧ 0 ≤ p1.toInt ∧ p1.toInt ≤ 9 ∧ 16 ≤ p2.toInt ∧ p2.toInt ≤ 1024) ∧ (¬ z.1 = "" → z.2.1.toInt = s0.toInt ∧ (p1.toInt < 0 ∨ 9 < p1.toInt ∨ p2.toInt < 16 ∨ 1024 < p2.toInt)) ∧ 0 ≤ z.2.2.1.toInt ∧ z.2.2.1.toInt ≤ 1024 ∧ 0 ≤ z.2.2.2.1.toInt ∧ z.2.2.2.1.toInt ≤ 200 ∧ 0 ≤ z.2.2.2.2.2.2.2.2.2.2.2.1.toInt ∧ z.2.2.2.2.2.2.2.2.2.2.2.1.toInt ≤ 512 ∧ 0 ≤ z.2.2.2.2.2.2.2.2.2.2.2.2.2.2.2.1.toInt ∧ z.2.2.2.2.2.2.2.2.2.2.2.2.2.2.2.1.toInt ≤ 1024) := by
  have g1 := zz_rg p1
  have g2 := zz_rg p2
  have g3 := zz_rg s0
  have g4 := zz_rg s1
  have g5 := zz_rg s2
  have g6 := zz_rg s3
  have g7 := zz_rg s4
  have g8 := zz_rg s10
  have g9 := zz_rg s11
  have g10 := zz_rg s14
  have g11 := zz_rg s15
  unfold m_X11_open_X6
  have l13 : (0 : Int32).toInt = 0 := rfl
  refine zz_ok_ite (fun c12 => ?_) (fun c12 => ?_)
  · have c12 := Int32.lt_iff_toInt_lt.mp c12
    refine zz_ok_some ?_
    show ("java/lang/IllegalArgumentException") ∈ (["", "java/lang/IllegalArgumentException"] : List String) ∧ (("java/lang/IllegalArgumentException") = "" → s0.toInt = p1.toInt ∧ 0 ≤ p1.toInt ∧ p1.toInt ≤ 9 ∧ 16 ≤ p2.toInt ∧ p2.toInt ≤ 1024) ∧ (¬ ("java/lang/IllegalArgumentException") = "" → s0.toInt = s0.toInt ∧ (p1.toInt < 0 ∨ 9 < p1.toInt ∨ p2.toInt < 16 ∨ 1024 < p2.toInt)) ∧ 0 ≤ s1.toInt ∧ s1.toInt ≤ 1024 ∧ 0 ≤ s2.toInt ∧ s2.toInt ≤ 200 ∧ 0 ≤ s10.toInt ∧ s10.toInt ≤ 512 ∧ 0 ≤ s14.toInt ∧ s14.toInt ≤ 1024
    exact ⟨by decide, fun h9 => absurd h9 (by decide), fun _ => by omega, by omega, by omega, by omega, by omega, by omega, by omega, by omega, by omega⟩
  · have c12 := zz_nlt c12
    have l15 : (10 : Int32).toInt = 10 := rfl
    refine zz_ok_ite (fun c14 => ?_) (fun c14 => ?_)
    · have c14 := Int32.lt_iff_toInt_lt.mp c14
      have l17 : (16 : Int32).toInt = 16 := rfl
      refine zz_ok_ite (fun c16 => ?_) (fun c16 => ?_)
      · have c16 := Int32.lt_iff_toInt_lt.mp c16
        refine zz_ok_some ?_
        show ("java/lang/IllegalArgumentException") ∈ (["", "java/lang/IllegalArgumentException"] : List String) ∧ (("java/lang/IllegalArgumentException") = "" → s0.toInt = p1.toInt ∧ 0 ≤ p1.toInt ∧ p1.toInt ≤ 9 ∧ 16 ≤ p2.toInt ∧ p2.toInt ≤ 1024) ∧ (¬ ("java/lang/IllegalArgumentException") = "" → s0.toInt = s0.toInt ∧ (p1.toInt < 0 ∨ 9 < p1.toInt ∨ p2.toInt < 16 ∨ 1024 < p2.toInt)) ∧ 0 ≤ s1.toInt ∧ s1.toInt ≤ 1024 ∧ 0 ≤ s2.toInt ∧ s2.toInt ≤ 200 ∧ 0 ≤ s10.toInt ∧ s10.toInt ≤ 512 ∧ 0 ≤ s14.toInt ∧ s14.toInt ≤ 1024
        exact ⟨by decide, fun h9 => absurd h9 (by decide), fun _ => by omega, by omega, by omega, by omega, by omega, by omega, by omega, by omega, by omega⟩
      · have c16 := zz_nlt c16
        have l19 : (1024 : Int32).toInt = 1024 := rfl
        refine zz_ok_ite (fun c18 => ?_) (fun c18 => ?_)
        · have c18 := Int32.le_iff_toInt_le.mp c18
          refine zz_ok_bind (s_X7_empty K hK n0 n1 n2 n3 n4 n5 n6 p2 s1 s2 s3 s4 s5 s6 s7 s8 s9 s10 s11 s12 s13 (by omega) (by omega) (by omega) (by omega) (by omega) (by omega) (by omega) (by omega) (by omega) (by omega) (by omega) (by omega) (by omega)) ?_
          intro z20 hz20
          obtain ⟨t_5_0, t_5_1, t_5_2, t_5_3, t_5_4, t_5_5, t_5_6, t_5_7, t_5_8, t_5_9, t_5_10, t_5_11, t_5_12⟩ := z20
          have q21 : 0 ≤ t_5_0.toInt := hz20.1
          have q22 : t_5_0.toInt ≤ 1024 := hz20.2.1
          have q23 : t_5_1.toInt = 0 := hz20.2.2.1
          have q24 : 0 ≤ t_5_9.toInt := hz20.2.2.2.1
          have q25 : t_5_9.toInt ≤ 512 := hz20.2.2.2.2
          have g26 := zz_rg t_5_0
          have g27 := zz_rg t_5_1
          have g28 := zz_rg t_5_2
          have g29 := zz_rg t_5_3
          have g30 := zz_rg t_5_9
          have g31 := zz_rg t_5_10
          show zz_ok (if ¬ (p1 < 0 ∨ 10 ≤ p1.toNatClampNeg) then ((m_X6_begin K n0 n1 n2 n3 n4 n5 n6 n7 n8 t_5_0 t_5_1 t_5_2 t_5_3 t_5_4 t_5_5 t_5_6 t_5_7 t_5_8 t_5_9 t_5_10 t_5_11 t_5_12 s14 s15 s16 s17).bind fun ⟨t_7_0, t_7_1, t_7_2, t_7_3, t_7_4, t_7_5, t_7_6, t_7_7, t_7_8, t_7_9, t_7_10, t_7_11, t_7_12, t_7_13, t_7_14, t_7_15, t_7_16⟩ => some ("", p1, t_7_0, t_7_1, t_7_2, t_7_3, t_7_4, t_7_5, t_7_6, t_7_7, t_7_8, t_7_9, t_7_10, t_7_11, t_7_12, t_7_13, t_7_14, t_7_15, t_7_16)) else none) _
          refine zz_ok_chk (zz_ix (by omega) (by omega)) ?_
          refine zz_ok_bind (s_X6_begin K hK n0 n1 n2 n3 n4 n5 n6 n7 n8 t_5_0 t_5_1 t_5_2 t_5_3 t_5_4 t_5_5 t_5_6 t_5_7 t_5_8 t_5_9 t_5_10 t_5_11 t_5_12 s14 s15 s16 s17 (by omega) (by omega) (by omega) (by omega) (by omega) (by omega) (by omega) (by omega) (by omega) (by omega) (by omega) (by omega) (by omega) (by omega) (by omega) (by omega) (by omega)) ?_
          intro z32 hz32
          obtain ⟨t_7_0, t_7_1, t_7_2, t_7_3, t_7_4, t_7_5, t_7_6, t_7_7, t_7_8, t_7_9, t_7_10, t_7_11, t_7_12, t_7_13, t_7_14, t_7_15, t_7_16⟩ := z32
          have q33 : t_7_0.toInt = t_5_0.toInt := hz32.1
          have q34 : t_7_1.toInt = t_5_1.toInt := hz32.2.1
          have q35 : 0 ≤ t_7_9.toInt := hz32.2.2.1
          have q36 : t_7_9.toInt ≤ 512 := hz32.2.2.2.1
          have q37 : 0 ≤ t_7_13.toInt := hz32.2.2.2.2.1
          have q38 : t_7_13.toInt ≤ 1024 := hz32.2.2.2.2.2
          have g39 := zz_rg t_7_0
          have g40 := zz_rg t_7_1
          have g41 := zz_rg t_7_2
          have g42 := zz_rg t_7_3
          have g43 := zz_rg t_7_9
          have g44 := zz_rg t_7_10
          have g45 := zz_rg t_7_13
          have g46 := zz_rg t_7_14
          show zz_ok (some ("", p1, t_7_0, t_7_1, t_7_2, t_7_3, t_7_4, t_7_5, t_7_6, t_7_7, t_7_8, t_7_9, t_7_10, t_7_11, t_7_12, t_7_13, t_7_14, t_7_15, t_7_16)) _
          refine zz_ok_some ?_
          show ("") ∈ (["", "java/lang/IllegalArgumentException"] : List String) ∧ (("") = "" → p1.toInt = p1.toInt ∧ 0 ≤ p1.toInt ∧ p1.toInt ≤ 9 ∧ 16 ≤ p2.toInt ∧ p2.toInt ≤ 1024) ∧ (¬ ("") = "" → p1.toInt = s0.toInt ∧ (p1.toInt < 0 ∨ 9 < p1.toInt ∨ p2.toInt < 16 ∨ 1024 < p2.toInt)) ∧ 0 ≤ t_7_0.toInt ∧ t_7_0.toInt ≤ 1024 ∧ 0 ≤ t_7_1.toInt ∧ t_7_1.toInt ≤ 200 ∧ 0 ≤ t_7_9.toInt ∧ t_7_9.toInt ≤ 512 ∧ 0 ≤ t_7_13.toInt ∧ t_7_13.toInt ≤ 1024
          exact ⟨by decide, fun _ => by omega, fun h9 => absurd rfl h9, by omega, by omega, by omega, by omega, by omega, by omega, by omega, by omega⟩
        · have c18 := zz_nle c18
          refine zz_ok_some ?_
          show ("java/lang/IllegalArgumentException") ∈ (["", "java/lang/IllegalArgumentException"] : List String) ∧ (("java/lang/IllegalArgumentException") = "" → s0.toInt = p1.toInt ∧ 0 ≤ p1.toInt ∧ p1.toInt ≤ 9 ∧ 16 ≤ p2.toInt ∧ p2.toInt ≤ 1024) ∧ (¬ ("java/lang/IllegalArgumentException") = "" → s0.toInt = s0.toInt ∧ (p1.toInt < 0 ∨ 9 < p1.toInt ∨ p2.toInt < 16 ∨ 1024 < p2.toInt)) ∧ 0 ≤ s1.toInt ∧ s1.toInt ≤ 1024 ∧ 0 ≤ s2.toInt ∧ s2.toInt ≤ 200 ∧ 0 ≤ s10.toInt ∧ s10.toInt ≤ 512 ∧ 0 ≤ s14.toInt ∧ s14.toInt ≤ 1024
          exact ⟨by decide, fun h9 => absurd h9 (by decide), fun _ => by omega, by omega, by omega, by omega, by omega, by omega, by omega, by omega, by omega⟩
    · have c14 := zz_nlt c14
      refine zz_ok_some ?_
      show ("java/lang/IllegalArgumentException") ∈ (["", "java/lang/IllegalArgumentException"] : List String) ∧ (("java/lang/IllegalArgumentException") = "" → s0.toInt = p1.toInt ∧ 0 ≤ p1.toInt ∧ p1.toInt ≤ 9 ∧ 16 ≤ p2.toInt ∧ p2.toInt ≤ 1024) ∧ (¬ ("java/lang/IllegalArgumentException") = "" → s0.toInt = s0.toInt ∧ (p1.toInt < 0 ∨ 9 < p1.toInt ∨ p2.toInt < 16 ∨ 1024 < p2.toInt)) ∧ 0 ≤ s1.toInt ∧ s1.toInt ≤ 1024 ∧ 0 ≤ s2.toInt ∧ s2.toInt ≤ 200 ∧ 0 ≤ s10.toInt ∧ s10.toInt ≤ 512 ∧ 0 ≤ s14.toInt ∧ s14.toInt ≤ 1024
      exact ⟨by decide, fun h9 => absurd h9 (by decide), fun _ => by omega, by omega, by omega, by omega, by omega, by omega, by omega, by omega, by omega⟩
set_option maxHeartbeats 4000000 in
theorem s_X11_open_X9 (K : Nat) (hK : 1099511627776 ≤ K) (n0 : Nat) (n1 : Nat) (n2 : Nat) (n3 : Nat) (n4 : Nat) (n5 : Nat) (n6 : Nat) (p1 : Int32) (p2 : Int32) (s0 : Int32) (s1 : Int32) (s2 : Int32) (s3 : Int32) (s4 : Int32) (s5 : Nat → Int32) (s6 : Nat → Int32) (s7 : Nat → Int32) (s8 : Nat → Int32) (s9 : Nat → Int32) (s10 : Int32) (s11 : Int32) (s12 : Nat → Int32) (s13 : Nat → Int32) (s14 : Int32) (a0 : n0 = 1024) (a1 : n1 = 200) (a2 : n2 = 200) (a3 : n3 = 200) (a4 : n4 = 200) (a5 : n5 = 512) (a6 : n6 = 512) (a7 : 0 ≤ s1.toInt) (a8 : s1.toInt ≤ 1024) (a9 : 0 ≤ s2.toInt) (a10 : s2.toInt ≤ 200) (a11 : 0 ≤ s10.toInt) (a12 : s10.toInt ≤ 512) : zz_ok (m_X11_open_X9 K n0 n1 n2 n3 n4 n5 n6 p1 p2 s0 s1 s2 s3 s4 s5 s6 s7 s8 s9 s10 s11 s12 s13 s14) (fun z => z.1 ∈ (["", "java/lang/IllegalArgumentException"] : List String) ∧ (z.1 = "" → z.2.1.toInt = p1.toInt ∧ 0 ≤ p1.toInt ∧ p1.toInt ≤ 9 ∧ 16 ≤ p2.toInt ∧ p2.toInt ≤ 1024) ∧ (¬ z.1 = "" → z.2.1.toInt = s0.toInt ∧ (p1.toInt < 0 ∨ 9 < p1.toInt ∨ p2.toInt < 16 ∨ 1024 < p2.toInt)) ∧ 0 ≤ z.2.2.1.toInt ∧ z.2.2.1.toInt ≤ 1024 ∧ 0 ≤ z.2.2.2.1.toInt ∧ z.2.2.2.1.toInt ≤ 200 ∧ 0 ≤ z.2.2.2.2.2.2.2.2.2.2.2.1.toInt ∧ z.2.2.2.2.2.2.2.2.2.2.2.1.toInt ≤ 512) := by
  have g1 := zz_rg p1
  have g2 := zz_rg p2
  have g3 := zz_rg s0
  have g4 := zz_rg s1
  have g5 := zz_rg s2
  have g6 := zz_rg s3
  have g7 := zz_rg s4
  have g8 := zz_rg s10
  have g9 := zz_rg s11
  have g10 := zz_rg s14
  unfold m_X11_open_X9
  have l12 : (0 : Int32).toInt = 0 := rfl
  refine zz_ok_ite (fun c11 => ?_) (fun c11 => ?_)
  · have c11 := Int32.lt_iff_toInt_lt.mp c11
    refine zz_ok_some ?_
    show ("java/lang/IllegalArgumentException") ∈ (["", "java/lang/IllegalArgumentException"] : List String) ∧ (("java/lang/IllegalArgumentException") = "" → s0.toInt = p1.toInt ∧ 0 ≤ p1.toInt ∧ p1.toInt ≤ 9 ∧ 16 ≤ p2.toInt ∧ p2.toInt ≤ 1024) ∧ (¬ ("java/lang/IllegalArgumentException") = "" → s0.toInt = s0.toInt ∧ (p1.toInt < 0 ∨ 9 < p1.toInt ∨ p2.toInt < 16 ∨ 1024 < p2.toInt)) ∧ 0 ≤ s1.toInt ∧ s1.toInt ≤ 1024 ∧ 0 ≤ s2.toInt ∧ s2.toInt ≤ 200 ∧ 0 ≤ s10.toInt ∧ s10.toInt ≤ 512
    exact ⟨by decide, fun h9 => absurd h9 (by decide), fun _ => by omega, by omega, by omega, by omega, by omega, by omega, by omega⟩
  · have c11 := zz_nlt c11
    have l14 : (10 : Int32).toInt = 10 := rfl
    refine zz_ok_ite (fun c13 => ?_) (fun c13 => ?_)
    · have c13 := Int32.lt_iff_toInt_lt.mp c13
      have l16 : (16 : Int32).toInt = 16 := rfl
      refine zz_ok_ite (fun c15 => ?_) (fun c15 => ?_)
      · have c15 := Int32.lt_iff_toInt_lt.mp c15
        refine zz_ok_some ?_
        show ("java/lang/IllegalArgumentException") ∈ (["", "java/lang/IllegalArgumentException"] : List String) ∧ (("java/lang/IllegalArgumentException") = "" → s0.toInt = p1.toInt ∧ 0 ≤ p1.toInt ∧ p1.toInt ≤ 9 ∧ 16 ≤ p2.toInt ∧ p2.toInt ≤ 1024) ∧ (¬ ("java/lang/IllegalArgumentException") = "" → s0.toInt = s0.toInt ∧ (p1.toInt < 0 ∨ 9 < p1.toInt ∨ p2.toInt < 16 ∨ 1024 < p2.toInt)) ∧ 0 ≤ s1.toInt ∧ s1.toInt ≤ 1024 ∧ 0 ≤ s2.toInt ∧ s2.toInt ≤ 200 ∧ 0 ≤ s10.toInt ∧ s10.toInt ≤ 512
        exact ⟨by decide, fun h9 => absurd h9 (by decide), fun _ => by omega, by omega, by omega, by omega, by omega, by omega, by omega⟩
      · have c15 := zz_nlt c15
        have l18 : (1024 : Int32).toInt = 1024 := rfl
        refine zz_ok_ite (fun c17 => ?_) (fun c17 => ?_)
        · have c17 := Int32.le_iff_toInt_le.mp c17
          refine zz_ok_bind (s_X7_empty K hK n0 n1 n2 n3 n4 n5 n6 p2 s1 s2 s3 s4 s5 s6 s7 s8 s9 s10 s11 s12 s13 (by omega) (by omega) (by omega) (by omega) (by omega) (by omega) (by omega) (by omega) (by omega) (by omega) (by omega) (by omega) (by omega)) ?_
          intro z19 hz19
          obtain ⟨t_5_0, t_5_1, t_5_2, t_5_3, t_5_4, t_5_5, t_5_6, t_5_7, t_5_8, t_5_9, t_5_10, t_5_11, t_5_12⟩ := z19
          have q20 : 0 ≤ t_5_0.toInt := hz19.1
          have q21 : t_5_0.toInt ≤ 1024 := hz19.2.1
          have q22 : t_5_1.toInt = 0 := hz19.2.2.1
          have q23 : 0 ≤ t_5_9.toInt := hz19.2.2.2.1
          have q24 : t_5_9.toInt ≤ 512 := hz19.2.2.2.2
          have g25 := zz_rg t_5_0
          have g26 := zz_rg t_5_1
          have g27 := zz_rg t_5_2
          have g28 := zz_rg t_5_3
          have g29 := zz_rg t_5_9
          have g30 := zz_rg t_5_10
          show zz_ok (if ¬ (p1 < 0 ∨ 10 ≤ p1.toNatClampNeg) then ((m_X9_begin K n0 n1 n2 n3 n4 n5 n6 s14 t_5_0 t_5_1 t_5_2 t_5_3 t_5_4 t_5_5 t_5_6 t_5_7 t_5_8 t_5_9 t_5_10 t_5_11 t_5_12).bind fun ⟨t_7_0, t_7_1, t_7_2, t_7_3, t_7_4, t_7_5, t_7_6, t_7_7, t_7_8, t_7_9, t_7_10, t_7_11, t_7_12, t_7_13⟩ => some ("", p1, t_7_1, t_7_2, t_7_3, t_7_4, t_7_5, t_7_6, t_7_7, t_7_8, t_7_9, t_7_10, t_7_11, t_7_12, t_7_13, t_7_0)) else none) _
          refine zz_ok_chk (zz_ix (by omega) (by omega)) ?_
          refine zz_ok_bind (s_X9_begin K hK n0 n1 n2 n3 n4 n5 n6 s14 t_5_0 t_5_1 t_5_2 t_5_3 t_5_4 t_5_5 t_5_6 t_5_7 t_5_8 t_5_9 t_5_10 t_5_11 t_5_12 (by omega) (by omega) (by omega) (by omega) (by omega) (by omega) (by omega) (by omega) (by omega) (by omega) (by omega) (by omega) (by omega)) ?_
          intro z31 hz31
          obtain ⟨t_7_0, t_7_1, t_7_2, t_7_3, t_7_4, t_7_5, t_7_6, t_7_7, t_7_8, t_7_9, t_7_10, t_7_11, t_7_12, t_7_13⟩ := z31
          have q32 : t_7_1.toInt = t_5_0.toInt := hz31.1
          have q33 : t_7_2.toInt = t_5_1.toInt := hz31.2.1
          have q34 : 0 ≤ t_7_10.toInt := hz31.2.2.1
          have q35 : t_7_10.toInt ≤ 512 := hz31.2.2.2
          have g36 := zz_rg t_7_0
          have g37 := zz_rg t_7_1
          have g38 := zz_rg t_7_2
          have g39 := zz_rg t_7_3
          have g40 := zz_rg t_7_4
          have g41 := zz_rg t_7_10
          have g42 := zz_rg t_7_11
          show zz_ok (some ("", p1, t_7_1, t_7_2, t_7_3, t_7_4, t_7_5, t_7_6, t_7_7, t_7_8, t_7_9, t_7_10, t_7_11, t_7_12, t_7_13, t_7_0)) _
          refine zz_ok_some ?_
          show ("") ∈ (["", "java/lang/IllegalArgumentException"] : List String) ∧ (("") = "" → p1.toInt = p1.toInt ∧ 0 ≤ p1.toInt ∧ p1.toInt ≤ 9 ∧ 16 ≤ p2.toInt ∧ p2.toInt ≤ 1024) ∧ (¬ ("") = "" → p1.toInt = s0.toInt ∧ (p1.toInt < 0 ∨ 9 < p1.toInt ∨ p2.toInt < 16 ∨ 1024 < p2.toInt)) ∧ 0 ≤ t_7_1.toInt ∧ t_7_1.toInt ≤ 1024 ∧ 0 ≤ t_7_2.toInt ∧ t_7_2.toInt ≤ 200 ∧ 0 ≤ t_7_10.toInt ∧ t_7_10.toInt ≤ 512
          exact ⟨by decide, fun _ => by omega, fun h9 => absurd rfl h9, by omega, by omega, by omega, by omega, by omega, by omega⟩
        · have c17 := zz_nle c17
          refine zz_ok_some ?_
          show ("java/lang/IllegalArgumentException") ∈ (["", "java/lang/IllegalArgumentException"] : List String) ∧ (("java/lang/IllegalArgumentException") = "" → s0.toInt = p1.toInt ∧ 0 ≤ p1.toInt ∧ p1.toInt ≤ 9 ∧ 16 ≤ p2.toInt ∧ p2.toInt ≤ 1024) ∧ (¬ ("java/lang/IllegalArgumentException") = "" → s0.toInt = s0.toInt ∧ (p1.toInt < 0 ∨ 9 < p1.toInt ∨ p2.toInt < 16 ∨ 1024 < p2.toInt)) ∧ 0 ≤ s1.toInt ∧ s1.toInt ≤ 1024 ∧ 0 ≤ s2.toInt ∧ s2.toInt ≤ 200 ∧ 0 ≤ s10.toInt ∧ s10.toInt ≤ 512
          exact ⟨by decide, fun h9 => absurd h9 (by decide), fun _ => by omega, by omega, by omega, by omega, by omega, by omega, by omega⟩
    · have c13 := zz_nlt c13
      refine zz_ok_some ?_
      show ("java/lang/IllegalArgumentException") ∈ (["", "java/lang/IllegalArgumentException"] : List String) ∧ (("java/lang/IllegalArgumentException") = "" → s0.toInt = p1.toInt ∧ 0 ≤ p1.toInt ∧ p1.toInt ≤ 9 ∧ 16 ≤ p2.toInt ∧ p2.toInt ≤ 1024) ∧ (¬ ("java/lang/IllegalArgumentException") = "" → s0.toInt = s0.toInt ∧ (p1.toInt < 0 ∨ 9 < p1.toInt ∨ p2.toInt < 16 ∨ 1024 < p2.toInt)) ∧ 0 ≤ s1.toInt ∧ s1.toInt ≤ 1024 ∧ 0 ≤ s2.toInt ∧ s2.toInt ≤ 200 ∧ 0 ≤ s10.toInt ∧ s10.toInt ≤ 512
      exact ⟨by decide, fun h9 => absurd h9 (by decide), fun _ => by omega, by omega, by omega, by omega, by omega, by omega, by omega⟩

/-! what open leaves when it throws; list in the forms without LISTS -/
def zz_osm (e : String) (P : Prop) : Prop := e = "" ∨ P
def zz_eis (e : String) : Prop := e = "java/lang/IllegalStateException"
def zz_lsx (e : String) (l f : Int) : Prop := (e = "java/lang/IllegalArgumentException" ∧ (l < 0 ∨ 44 ≤ l)) ∨ (0 ≤ l ∧ l < 44 ∧ ((f = -1 ∧ e = "java/lang/IllegalStateException") ∨ (f ≠ -1 ∧ e = "java/lang/UnsupportedOperationException")))
set_option maxHeartbeats 4000000 in
theorem fo_X11_open_X0 (K : Nat) (hK : 1099511627776 ≤ K) (T : Nat) (hT : T ≤ 900) (n0 : Nat) (n1 : Nat) (n2 : Nat) (n3 : Nat) (n4 : Nat) (n5 : Nat) (n6 : Nat) (k0 : Int32) (p1 : Int32) (p2 : Int32) (s0 : Int32) (s1 : Int32) (s2 : Int32) (s3 : Int32) (s4 : Int32) (s5 : Nat → Int32) (s6 : Nat → Int32) (s7 : Nat → Int32) (s8 : Nat → Int32) (s9 : Nat → Int32) (s10 : Int32) (s11 : Int32) (s12 : Nat → Int32) (s13 : Nat → Int32) (s14 : Int32) (a0 : n0 = 1024) (a1 : n1 = 200) (a2 : n2 = 200) (a3 : n3 = 200) (a4 : n4 = 200) (a5 : n5 = 512) (a6 : n6 = 512) (a7 : 0 ≤ s1.toInt) (a8 : s1.toInt ≤ 1024) (a9 : 0 ≤ s2.toInt) (a10 : s2.toInt ≤ 200) (a11 : 0 ≤ s10.toInt) (a12 : s10.toInt ≤ 512) : zz_ok (m_X11_open_X0 K n0 n1 n2 n3 n4 n5 n6 k0 p1 p2 s0 s1 s2 s3 s4 s5 s6 s7 s8 s9 s10 s11 s12 s13 s14) (fun z => zz_osm (z.1) (z.2.1 = s0 ∧ z.2.2.1 = s1 ∧ z.2.2.2.1 = s2 ∧ z.2.2.2.2.1 = s3 ∧ z.2.2.2.2.2.1 = s4 ∧ z.2.2.2.2.2.2.1 = s5 ∧ z.2.2.2.2.2.2.2.1 = s6 ∧ z.2.2.2.2.2.2.2.2.1 = s7 ∧ z.2.2.2.2.2.2.2.2.2.1 = s8 ∧ z.2.2.2.2.2.2.2.2.2.2.1 = s9 ∧ z.2.2.2.2.2.2.2.2.2.2.2.1 = s10 ∧ z.2.2.2.2.2.2.2.2.2.2.2.2.1 = s11 ∧ z.2.2.2.2.2.2.2.2.2.2.2.2.2.1 = s12 ∧ z.2.2.2.2.2.2.2.2.2.2.2.2.2.2.1 = s13 ∧ z.2.2.2.2.2.2.2.2.2.2.2.2.2.2.2 = s14)) := by
  have g1 := zz_rg k0
  have g2 := zz_rg p1
  have g3 := zz_rg p2
  have g4 := zz_rg s0
  have g5 := zz_rg s1
  have g6 := zz_rg s2
  have g7 := zz_rg s3
  have g8 := zz_rg s4
  have g9 := zz_rg s10
  have g10 := zz_rg s11
  have g11 := zz_rg s14
  unfold m_X11_open_X0
  have l13 : (0 : Int32).toInt = 0 := rfl
  refine zz_ok_ite (fun c12 => ?_) (fun c12 => ?_)
  · have c12 := Int32.lt_iff_toInt_lt.mp c12
    refine zz_ok_some ?_
    show zz_osm (("java/lang/IllegalArgumentException")) (s0 = s0 ∧ s1 = s1 ∧ s2 = s2 ∧ s3 = s3 ∧ s4 = s4 ∧ s5 = s5 ∧ s6 = s6 ∧ s7 = s7 ∧ s8 = s8 ∧ s9 = s9 ∧ s10 = s10 ∧ s11 = s11 ∧ s12 = s12 ∧ s13 = s13 ∧ s14 = s14)
    exact (by first | exact Or.inl rfl | exact Or.inr ⟨rfl, rfl, rfl, rfl, rfl, rfl, rfl, rfl, rfl, rfl, rfl, rfl, rfl, rfl, rfl⟩)
  · have c12 := zz_nlt c12
    have l15 : (10 : Int32).toInt = 10 := rfl
    refine zz_ok_ite (fun c14 => ?_) (fun c14 => ?_)
    · have c14 := Int32.lt_iff_toInt_lt.mp c14
      have l17 : (16 : Int32).toInt = 16 := rfl
      refine zz_ok_ite (fun c16 => ?_) (fun c16 => ?_)
      · have c16 := Int32.lt_iff_toInt_lt.mp c16
        refine zz_ok_some ?_
        show zz_osm (("java/lang/IllegalArgumentException")) (s0 = s0 ∧ s1 = s1 ∧ s2 = s2 ∧ s3 = s3 ∧ s4 = s4 ∧ s5 = s5 ∧ s6 = s6 ∧ s7 = s7 ∧ s8 = s8 ∧ s9 = s9 ∧ s10 = s10 ∧ s11 = s11 ∧ s12 = s12 ∧ s13 = s13 ∧ s14 = s14)
        exact (by first | exact Or.inl rfl | exact Or.inr ⟨rfl, rfl, rfl, rfl, rfl, rfl, rfl, rfl, rfl, rfl, rfl, rfl, rfl, rfl, rfl⟩)
      · have c16 := zz_nlt c16
        have l19 : (1024 : Int32).toInt = 1024 := rfl
        refine zz_ok_ite (fun c18 => ?_) (fun c18 => ?_)
        · have c18 := Int32.le_iff_toInt_le.mp c18
          refine zz_ok_bind (s_X7_empty K hK n0 n1 n2 n3 n4 n5 n6 p2 s1 s2 s3 s4 s5 s6 s7 s8 s9 s10 s11 s12 s13 a0 a1 a2 a3 a4 a5 a6 a7 a8 a9 a10 a11 a12) ?_
          intro z20 hz20
          obtain ⟨t_5_0, t_5_1, t_5_2, t_5_3, t_5_4, t_5_5, t_5_6, t_5_7, t_5_8, t_5_9, t_5_10, t_5_11, t_5_12⟩ := z20
          have q21 : 0 ≤ t_5_0.toInt := hz20.1
          have q22 : t_5_0.toInt ≤ 1024 := hz20.2.1
          have q23 : t_5_1.toInt = 0 := hz20.2.2.1
          have q24 : 0 ≤ t_5_9.toInt := hz20.2.2.2.1
          have q25 : t_5_9.toInt ≤ 512 := hz20.2.2.2.2
          clear hz20
          have g26 := zz_rg t_5_0
          have g27 := zz_rg t_5_1
          have g28 := zz_rg t_5_2
          have g29 := zz_rg t_5_3
          have g30 := zz_rg t_5_9
          have g31 := zz_rg t_5_10
          show zz_ok (if ¬ (p1 < 0 ∨ 10 ≤ p1.toNatClampNeg) then ((m_X0_begin K n0 n1 n2 n3 n4 n5 n6 k0 s14 t_5_0 t_5_1 t_5_2 t_5_3 t_5_4 t_5_5 t_5_6 t_5_7 t_5_8 t_5_9 t_5_10 t_5_11 t_5_12).bind fun ⟨t_7_0, t_7_1, t_7_2, t_7_3, t_7_4, t_7_5, t_7_6, t_7_7, t_7_8, t_7_9, t_7_10, t_7_11, t_7_12, t_7_13⟩ => some ("", p1, t_7_1, t_7_2, t_7_3, t_7_4, t_7_5, t_7_6, t_7_7, t_7_8, t_7_9, t_7_10, t_7_11, t_7_12, t_7_13, t_7_0)) else none) _
          refine zz_ok_chk (zz_ix (by omega) (by omega)) ?_
          have g32 := zz_tnI p1 (by omega)
          refine zz_ok_bind (s_X0_begin K hK n0 n1 n2 n3 n4 n5 n6 k0 s14 t_5_0 t_5_1 t_5_2 t_5_3 t_5_4 t_5_5 t_5_6 t_5_7 t_5_8 t_5_9 t_5_10 t_5_11 t_5_12 a0 a1 a2 a3 a4 a5 a6 q21 q22 (by omega) (by omega) q24 q25) ?_
          intro z33 hz33
          obtain ⟨t_7_0, t_7_1, t_7_2, t_7_3, t_7_4, t_7_5, t_7_6, t_7_7, t_7_8, t_7_9, t_7_10, t_7_11, t_7_12, t_7_13⟩ := z33
          have q34 : t_7_1.toInt = t_5_0.toInt := hz33.1
          have q35 : t_7_2.toInt = t_5_1.toInt := hz33.2.1
          have q36 : 0 ≤ t_7_10.toInt := hz33.2.2.1
          have q37 : t_7_10.toInt ≤ 512 := hz33.2.2.2
          clear hz33
          have g38 := zz_rg t_7_0
          have g39 := zz_rg t_7_1
          have g40 := zz_rg t_7_2
          have g41 := zz_rg t_7_3
          have g42 := zz_rg t_7_4
          have g43 := zz_rg t_7_10
          have g44 := zz_rg t_7_11
          show zz_ok (some ("", p1, t_7_1, t_7_2, t_7_3, t_7_4, t_7_5, t_7_6, t_7_7, t_7_8, t_7_9, t_7_10, t_7_11, t_7_12, t_7_13, t_7_0)) _
          refine zz_ok_some ?_
          show zz_osm (("")) (p1 = s0 ∧ t_7_1 = s1 ∧ t_7_2 = s2 ∧ t_7_3 = s3 ∧ t_7_4 = s4 ∧ t_7_5 = s5 ∧ t_7_6 = s6 ∧ t_7_7 = s7 ∧ t_7_8 = s8 ∧ t_7_9 = s9 ∧ t_7_10 = s10 ∧ t_7_11 = s11 ∧ t_7_12 = s12 ∧ t_7_13 = s13 ∧ t_7_0 = s14)
          exact (by first | exact Or.inl rfl | exact Or.inr ⟨rfl, rfl, rfl, rfl, rfl, rfl, rfl, rfl, rfl, rfl, rfl, rfl, rfl, rfl, rfl⟩)
        · have c18 := zz_nle c18
          refine zz_ok_some ?_
          show zz_osm (("java/lang/IllegalArgumentException")) (s0 = s0 ∧ s1 = s1 ∧ s2 = s2 ∧ s3 = s3 ∧ s4 = s4 ∧ s5 = s5 ∧ s6 = s6 ∧ s7 = s7 ∧ s8 = s8 ∧ s9 = s9 ∧ s10 = s10 ∧ s11 = s11 ∧ s12 = s12 ∧ s13 = s13 ∧ s14 = s14)
          exact (by first | exact Or.inl rfl | exact Or.inr ⟨rfl, rfl, rfl, rfl, rfl, rfl, rfl, rfl, rfl, rfl, rfl, rfl, rfl, rfl, rfl⟩)
    · have c14 := zz_nlt c14
      refine zz_ok_some ?_
      show zz_osm (("java/lang/IllegalArgumentException")) (s0 = s0 ∧ s1 = s1 ∧ s2 = s2 ∧ s3 = s3 ∧ s4 = s4 ∧ s5 = s5 ∧ s6 = s6 ∧ s7 = s7 ∧ s8 = s8 ∧ s9 = s9 ∧ s10 = s10 ∧ s11 = s11 ∧ s12 = s12 ∧ s13 = s13 ∧ s14 = s14)
      exact (by first | exact Or.inl rfl | exact Or.inr ⟨rfl, rfl, rfl, rfl, rfl, rfl, rfl, rfl, rfl, rfl, rfl, rfl, rfl, rfl, rfl⟩)
set_option maxHeartbeats 4000000 in
theorem fo_X11_open_X2 (K : Nat) (hK : 1099511627776 ≤ K) (T : Nat) (hT : T ≤ 900) (n0 : Nat) (n1 : Nat) (n2 : Nat) (n3 : Nat) (n4 : Nat) (n5 : Nat) (n6 : Nat) (p1 : Int32) (p2 : Int32) (s0 : Int32) (s1 : Int32) (s2 : Int32) (s3 : Int32) (s4 : Int32) (s5 : Nat → Int32) (s6 : Nat → Int32) (s7 : Nat → Int32) (s8 : Nat → Int32) (s9 : Nat → Int32) (s10 : Int32) (s11 : Int32) (s12 : Nat → Int32) (s13 : Nat → Int32) (s14 : Int32) (a0 : n0 = 1024) (a1 : n1 = 200) (a2 : n2 = 200) (a3 : n3 = 200) (a4 : n4 = 200) (a5 : n5 = 512) (a6 : n6 = 512) (a7 : 0 ≤ s1.toInt) (a8 : s1.toInt ≤ 1024) (a9 : 0 ≤ s2.toInt) (a10 : s2.toInt ≤ 200) (a11 : 0 ≤ s10.toInt) (a12 : s10.toInt ≤ 512) (a13 : 0 ≤ s14.toInt) (a14 : s14.toInt ≤ 1024) : zz_ok (m_X11_open_X2 K n0 n1 n2 n3 n4 n5 n6 p1 p2 s0 s1 s2 s3 s4 s5 s6 s7 s8 s9 s10 s11 s12 s13 s14) (fun z => zz_osm (z.1) (z.2.1 = s0 ∧ z.2.2.1 = s1 ∧ z.2.2.2.1 = s2 ∧ z.2.2.2.2.1 = s3 ∧ z.2.2.2.2.2.1 = s4 ∧ z.2.2.2.2.2.2.1 = s5 ∧ z.2.2.2.2.2.2.2.1 = s6 ∧ z.2.2.2.2.2.2.2.2.1 = s7 ∧ z.2.2.2.2.2.2.2.2.2.1 = s8 ∧ z.2.2.2.2.2.2.2.2.2.2.1 = s9 ∧ z.2.2.2.2.2.2.2.2.2.2.2.1 = s10 ∧ z.2.2.2.2.2.2.2.2.2.2.2.2.1 = s11 ∧ z.2.2.2.2.2.2.2.2.2.2.2.2.2.1 = s12 ∧ z.2.2.2.2.2.2.2.2.2.2.2.2.2.2.1 = s13 ∧ z.2.2.2.2.2.2.2.2.2.2.2.2.2.2.2 = s14)) := by
  have g1 := zz_rg p1
  have g2 := zz_rg p2
  have g3 := zz_rg s0
  have g4 := zz_rg s1
  have g5 := zz_rg s2
  have g6 := zz_rg s3
  have g7 := zz_rg s4
  have g8 := zz_rg s10
  have g9 := zz_rg s11
  have g10 := zz_rg s14
  unfold m_X11_open_X2
  have l12 : (0 : Int32).toInt = 0 := rfl
  refine zz_ok_ite (fun c11 => ?_) (fun c11 => ?_)
  · have c11 := Int32.lt_iff_toInt_lt.mp c11
    refine zz_ok_some ?_
    show zz_osm (("java/lang/IllegalArgumentException")) (s0 = s0 ∧ s1 = s1 ∧ s2 = s2 ∧ s3 = s3 ∧ s4 = s4 ∧ s5 = s5 ∧ s6 = s6 ∧ s7 = s7 ∧ s8 = s8 ∧ s9 = s9 ∧ s10 = s10 ∧ s11 = s11 ∧ s12 = s12 ∧ s13 = s13 ∧ s14 = s14)
    exact (by first | exact Or.inl rfl | exact Or.inr ⟨rfl, rfl, rfl, rfl, rfl, rfl, rfl, rfl, rfl, rfl, rfl, rfl, rfl, rfl, rfl⟩)
  · have c11 := zz_nlt c11
    have l14 : (10 : Int32).toInt = 10 := rfl
    refine zz_ok_ite (fun c13 => ?_) (fun c13 => ?_)
    · have c13 := Int32.lt_iff_toInt_lt.mp c13
      have l16 : (16 : Int32).toInt = 16 := rfl
      refine zz_ok_ite (fun c15 => ?_) (fun c15 => ?_)
      · have c15 := Int32.lt_iff_toInt_lt.mp c15
        refine zz_ok_some ?_
        show zz_osm (("java/lang/IllegalArgumentException")) (s0 = s0 ∧ s1 = s1 ∧ s2 = s2 ∧ s3 = s3 ∧ s4 = s4 ∧ s5 = s5 ∧ s6 = s6 ∧ s7 = s7 ∧ s8 = s8 ∧ s9 = s9 ∧ s10 = s10 ∧ s11 = s11 ∧ s12 = s12 ∧ s13 = s13 ∧ s14 = s14)
        exact (by first | exact Or.inl rfl | exact Or.inr ⟨rfl, rfl, rfl, rfl, rfl, rfl, rfl, rfl, rfl, rfl, rfl, rfl, rfl, rfl, rfl⟩)
      · have c15 := zz_nlt c15
        have l18 : (1024 : Int32).toInt = 1024 := rfl
        refine zz_ok_ite (fun c17 => ?_) (fun c17 => ?_)
        · have c17 := Int32.le_iff_toInt_le.mp c17
          refine zz_ok_bind (s_X7_empty K hK n0 n1 n2 n3 n4 n5 n6 p2 s1 s2 s3 s4 s5 s6 s7 s8 s9 s10 s11 s12 s13 a0 a1 a2 a3 a4 a5 a6 a7 a8 a9 a10 a11 a12) ?_
          intro z19 hz19
          obtain ⟨t_5_0, t_5_1, t_5_2, t_5_3, t_5_4, t_5_5, t_5_6, t_5_7, t_5_8, t_5_9, t_5_10, t_5_11, t_5_12⟩ := z19
          have q20 : 0 ≤ t_5_0.toInt := hz19.1
          have q21 : t_5_0.toInt ≤ 1024 := hz19.2.1
          have q22 : t_5_1.toInt = 0 := hz19.2.2.1
          have q23 : 0 ≤ t_5_9.toInt := hz19.2.2.2.1
          have q24 : t_5_9.toInt ≤ 512 := hz19.2.2.2.2
          clear hz19
          have g25 := zz_rg t_5_0
          have g26 := zz_rg t_5_1
          have g27 := zz_rg t_5_2
          have g28 := zz_rg t_5_3
          have g29 := zz_rg t_5_9
          have g30 := zz_rg t_5_10
          show zz_ok (if ¬ (p1 < 0 ∨ 10 ≤ p1.toNatClampNeg) then ((m_X2_begin K n0 n1 n2 n3 n4 n5 n6 s14 t_5_0 t_5_1 t_5_2 t_5_3 t_5_4 t_5_5 t_5_6 t_5_7 t_5_8 t_5_9 t_5_10 t_5_11 t_5_12).bind fun ⟨t_7_0, t_7_1, t_7_2, t_7_3, t_7_4, t_7_5, t_7_6, t_7_7, t_7_8, t_7_9, t_7_10, t_7_11, t_7_12, t_7_13⟩ => some ("", p1, t_7_1, t_7_2, t_7_3, t_7_4, t_7_5, t_7_6, t_7_7, t_7_8, t_7_9, t_7_10, t_7_11, t_7_12, t_7_13, t_7_0)) else none) _
          refine zz_ok_chk (zz_ix (by omega) (by omega)) ?_
          have g31 := zz_tnI p1 (by omega)
          refine zz_ok_bind (s_X2_begin K hK n0 n1 n2 n3 n4 n5 n6 s14 t_5_0 t_5_1 t_5_2 t_5_3 t_5_4 t_5_5 t_5_6 t_5_7 t_5_8 t_5_9 t_5_10 t_5_11 t_5_12 a0 a1 a2 a3 a4 a5 a6 q20 q21 (by omega) (by omega) q23 q24) ?_
          intro z32 hz32
          obtain ⟨t_7_0, t_7_1, t_7_2, t_7_3, t_7_4, t_7_5, t_7_6, t_7_7, t_7_8, t_7_9, t_7_10, t_7_11, t_7_12, t_7_13⟩ := z32
          have q33 : t_7_1.toInt = t_5_0.toInt := hz32.1
          have q34 : t_7_2.toInt = t_5_1.toInt := hz32.2.1
          have q35 : 0 ≤ t_7_10.toInt := hz32.2.2.1
          have q36 : t_7_10.toInt ≤ 512 := hz32.2.2.2.1
          have q37 : 0 ≤ t_7_0.toInt := hz32.2.2.2.2.1
          have q38 : t_7_0.toInt ≤ 1024 := hz32.2.2.2.2.2
          clear hz32
          have g39 := zz_rg t_7_0
          have g40 := zz_rg t_7_1
          have g41 := zz_rg t_7_2
          have g42 := zz_rg t_7_3
          have g43 := zz_rg t_7_4
          have g44 := zz_rg t_7_10
          have g45 := zz_rg t_7_11
          show zz_ok (some ("", p1, t_7_1, t_7_2, t_7_3, t_7_4, t_7_5, t_7_6, t_7_7, t_7_8, t_7_9, t_7_10, t_7_11, t_7_12, t_7_13, t_7_0)) _
          refine zz_ok_some ?_
          show zz_osm (("")) (p1 = s0 ∧ t_7_1 = s1 ∧ t_7_2 = s2 ∧ t_7_3 = s3 ∧ t_7_4 = s4 ∧ t_7_5 = s5 ∧ t_7_6 = s6 ∧ t_7_7 = s7 ∧ t_7_8 = s8 ∧ t_7_9 = s9 ∧ t_7_10 = s10 ∧ t_7_11 = s11 ∧ t_7_12 = s12 ∧ t_7_13 = s13 ∧ t_7_0 = s14)
          exact (by first | exact Or.inl rfl | exact Or.inr ⟨rfl, rfl, rfl, rfl, rfl, rfl, rfl, rfl, rfl, rfl, rfl, rfl, rfl, rfl, rfl⟩)
        · have c17 := zz_nle c17
          refine zz_ok_some ?_
          show zz_osm (("java/lang/IllegalArgumentException")) (s0 = s0 ∧ s1 = s1 ∧ s2 = s2 ∧ s3 = s3 ∧ s4 = s4 ∧ s5 = s5 ∧ s6 = s6 ∧ s7 = s7 ∧ s8 = s8 ∧ s9 = s9 ∧ s10 = s10 ∧ s11 = s11 ∧ s12 = s12 ∧ s13 = s13 ∧ s14 = s14)
          exact (by first | exact Or.inl rfl | exact Or.inr ⟨rfl, rfl, rfl, rfl, rfl, rfl, rfl, rfl, rfl, rfl, rfl, rfl, rfl, rfl, rfl⟩)
    · have c13 := zz_nlt c13
      refine zz_ok_some ?_
      show zz_osm (("java/lang/IllegalArgumentException")) (s0 = s0 ∧ s1 = s1 ∧ s2 = s2 ∧ s3 = s3 ∧ s4 = s4 ∧ s5 = s5 ∧ s6 = s6 ∧ s7 = s7 ∧ s8 = s8 ∧ s9 = s9 ∧ s10 = s10 ∧ s11 = s11 ∧ s12 = s12 ∧ s13 = s13 ∧ s14 = s14)
      exact (by first | exact Or.inl rfl | exact Or.inr ⟨rfl, rfl, rfl, rfl, rfl, rfl, rfl, rfl, rfl, rfl, rfl, rfl, rfl, rfl, rfl⟩)
set_option maxHeartbeats 4000000 in
theorem fo_X11_open_X3 (K : Nat) (hK : 1099511627776 ≤ K) (T : Nat) (hT : T ≤ 900) (n0 : Nat) (n1 : Nat) (n2 : Nat) (n3 : Nat) (n4 : Nat) (n5 : Nat) (n6 : Nat) (n7 : Nat) (p1 : Int32) (p2 : Int32) (s0 : Int32) (s1 : Int32) (s2 : Int32) (s3 : Int32) (s4 : Int32) (s5 : Nat → Int32) (s6 : Nat → Int32) (s7 : Nat → Int32) (s8 : Nat → Int32) (s9 : Nat → Int32) (s10 : Int32) (s11 : Int32) (s12 : Nat → Int32) (s13 : Nat → Int32) (s14 : Int32) (s15 : Nat → Int32) (a0 : n0 = 1024) (a1 : n1 = 200) (a2 : n2 = 200) (a3 : n3 = 200) (a4 : n4 = 200) (a5 : n5 = 512) (a6 : n6 = 512) (a7 : n7 = 1024) (a8 : 0 ≤ s1.toInt) (a9 : s1.toInt ≤ 1024) (a10 : 0 ≤ s2.toInt) (a11 : s2.toInt ≤ 200) (a12 : 0 ≤ s10.toInt) (a13 : s10.toInt ≤ 512) (a14 : 0 ≤ s14.toInt) (a15 : s14.toInt ≤ 1024) : zz_ok (m_X11_open_X3 K n0 n1 n2 n3 n4 n5 n6 n7 p1 p2 s0 s1 s2 s3 s4 s5 s6 s7 s8 s9 s10 s11 s12 s13 s14 s15) (fun z => zz_osm (z.1) (z.2.1 = s0 ∧ z.2.2.1 = s1 ∧ z.2.2.2.1 = s2 ∧ z.2.2.2.2.1 = s3 ∧ z.2.2.2.2.2.1 = s4 ∧ z.2.2.2.2.2.2.1 = s5 ∧ z.2.2.2.2.2.2.2.1 = s6 ∧ z.2.2.2.2.2.2.2.2.1 = s7 ∧ z.2.2.2.2.2.2.2.2.2.1 = s8 ∧ z.2.2.2.2.2.2.2.2.2.2.1 = s9 ∧ z.2.2.2.2.2.2.2.2.2.2.2.1 = s10 ∧ z.2.2.2.2.2.2.2.2.2.2.2.2.1 = s11 ∧ z.2.2.2.2.2.2.2.2.2.2.2.2.2.1 = s12 ∧ z.2.2.2.2.2.2.2.2.2.2.2.2.2.2.1 = s13 ∧ z.2.2.2.2.2.2.2.2.2.2.2.2.2.2.2.1 = s14 ∧ z.2.2.2.2.2.2.2.2.2.2.2.2.2.2.2.2 = s15)) := by
  have g1 := zz_rg p1
  have g2 := zz_rg p2
  have g3 := zz_rg s0
  have g4 := zz_rg s1
  have g5 := zz_rg s2
  have g6 := zz_rg s3
  have g7 := zz_rg s4
  have g8 := zz_rg s10
  have g9 := zz_rg s11
  have g10 := zz_rg s14
  unfold m_X11_open_X3
  have l12 : (0 : Int32).toInt = 0 := rfl
  refine zz_ok_ite (fun c11 => ?_) (fun c11 => ?_)
  · have c11 := Int32.lt_iff_toInt_lt.mp c11
    refine zz_ok_some ?_
    show zz_osm (("java/lang/IllegalArgumentException")) (s0 = s0 ∧ s1 = s1 ∧ s2 = s2 ∧ s3 = s3 ∧ s4 = s4 ∧ s5 = s5 ∧ s6 = s6 ∧ s7 = s7 ∧ s8 = s8 ∧ s9 = s9 ∧ s10 = s10 ∧ s11 = s11 ∧ s12 = s12 ∧ s13 = s13 ∧ s14 = s14 ∧ s15 = s15)
    exact (by first | exact Or.inl rfl | exact Or.inr ⟨rfl, rfl, rfl, rfl, rfl, rfl, rfl, rfl, rfl, rfl, rfl, rfl, rfl, rfl, rfl, rfl⟩)
  · have c11 := zz_nlt c11
    have l14 : (10 : Int32).toInt = 10 := rfl
    refine zz_ok_ite (fun c13 => ?_) (fun c13 => ?_)
    · have c13 := Int32.lt_iff_toInt_lt.mp c13
      have l16 : (16 : Int32).toInt = 16 := rfl
      refine zz_ok_ite (fun c15 => ?_) (fun c15 => ?_)
      · have c15 := Int32.lt_iff_toInt_lt.mp c15
        refine zz_ok_some ?_
        show zz_osm (("java/lang/IllegalArgumentException")) (s0 = s0 ∧ s1 = s1 ∧ s2 = s2 ∧ s3 = s3 ∧ s4 = s4 ∧ s5 = s5 ∧ s6 = s6 ∧ s7 = s7 ∧ s8 = s8 ∧ s9 = s9 ∧ s10 = s10 ∧ s11 = s11 ∧ s12 = s12 ∧ s13 = s13 ∧ s14 = s14 ∧ s15 = s15)
        exact (by first | exact Or.inl rfl | exact Or.inr ⟨rfl, rfl, rfl, rfl, rfl, rfl, rfl, rfl, rfl, rfl, rfl, rfl, rfl, rfl, rfl, rfl⟩)
      · have c15 := zz_nlt c15
        have l18 : (1024 : Int32).toInt = 1024 := rfl
        refine zz_ok_ite (fun c17 => ?_) (fun c17 => ?_)
        · have c17 := Int32.le_iff_toInt_le.mp c17
          refine zz_ok_bind (s_X7_empty K hK n0 n1 n2 n3 n4 n5 n6 p2 s1 s2 s3 s4 s5 s6 s7 s8 s9 s10 s11 s12 s13 a0 a1 a2 a3 a4 a5 a6 a8 a9 a10 a11 a12 a13) ?_
          intro z19 hz19
          obtain ⟨t_5_0, t_5_1, t_5_2, t_5_3, t_5_4, t_5_5, t_5_6, t_5_7, t_5_8, t_5_9, t_5_10, t_5_11, t_5_12⟩ := z19
          have q20 : 0 ≤ t_5_0.toInt := hz19.1
          have q21 : t_5_0.toInt ≤ 1024 := hz19.2.1
          have q22 : t_5_1.toInt = 0 := hz19.2.2.1
          have q23 : 0 ≤ t_5_9.toInt := hz19.2.2.2.1
          have q24 : t_5_9.toInt ≤ 512 := hz19.2.2.2.2
          clear hz19
          have g25 := zz_rg t_5_0
          have g26 := zz_rg t_5_1
          have g27 := zz_rg t_5_2
          have g28 := zz_rg t_5_3
          have g29 := zz_rg t_5_9
          have g30 := zz_rg t_5_10
          show zz_ok (if ¬ (p1 < 0 ∨ 10 ≤ p1.toNatClampNeg) then ((m_X3_begin K n0 n1 n2 n3 n4 n5 n6 n7 s14 t_5_0 t_5_1 t_5_2 t_5_3 t_5_4 t_5_5 t_5_6 t_5_7 t_5_8 t_5_9 t_5_10 t_5_11 t_5_12 s15).bind fun ⟨t_7_0, t_7_1, t_7_2, t_7_3, t_7_4, t_7_5, t_7_6, t_7_7, t_7_8, t_7_9, t_7_10, t_7_11, t_7_12, t_7_13, t_7_14⟩ => some ("", p1, t_7_1, t_7_2, t_7_3, t_7_4, t_7_5, t_7_6, t_7_7, t_7_8, t_7_9, t_7_10, t_7_11, t_7_12, t_7_13, t_7_0, t_7_14)) else none) _
          refine zz_ok_chk (zz_ix (by omega) (by omega)) ?_
          have g31 := zz_tnI p1 (by omega)
          refine zz_ok_bind (s_X3_begin K hK n0 n1 n2 n3 n4 n5 n6 n7 s14 t_5_0 t_5_1 t_5_2 t_5_3 t_5_4 t_5_5 t_5_6 t_5_7 t_5_8 t_5_9 t_5_10 t_5_11 t_5_12 s15 a0 a1 a2 a3 a4 a5 a6 q20 q21 (by omega) (by omega) q23 q24 a7) ?_
          intro z32 hz32
          obtain ⟨t_7_0, t_7_1, t_7_2, t_7_3, t_7_4, t_7_5, t_7_6, t_7_7, t_7_8, t_7_9, t_7_10, t_7_11, t_7_12, t_7_13, t_7_14⟩ := z32
          have q33 : t_7_1.toInt = t_5_0.toInt := hz32.1
          have q34 : t_7_2.toInt = t_5_1.toInt := hz32.2.1
          have q35 : 0 ≤ t_7_10.toInt := hz32.2.2.1
          have q36 : t_7_10.toInt ≤ 512 := hz32.2.2.2.1
          have q37 : 0 ≤ t_7_0.toInt := hz32.2.2.2.2.1
          have q38 : t_7_0.toInt ≤ 1024 := hz32.2.2.2.2.2
          clear hz32
          have g39 := zz_rg t_7_0
          have g40 := zz_rg t_7_1
          have g41 := zz_rg t_7_2
          have g42 := zz_rg t_7_3
          have g43 := zz_rg t_7_4
          have g44 := zz_rg t_7_10
          have g45 := zz_rg t_7_11
          show zz_ok (some ("", p1, t_7_1, t_7_2, t_7_3, t_7_4, t_7_5, t_7_6, t_7_7, t_7_8, t_7_9, t_7_10, t_7_11, t_7_12, t_7_13, t_7_0, t_7_14)) _
          refine zz_ok_some ?_
          show zz_osm (("")) (p1 = s0 ∧ t_7_1 = s1 ∧ t_7_2 = s2 ∧ t_7_3 = s3 ∧ t_7_4 = s4 ∧ t_7_5 = s5 ∧ t_7_6 = s6 ∧ t_7_7 = s7 ∧ t_7_8 = s8 ∧ t_7_9 = s9 ∧ t_7_10 = s10 ∧ t_7_11 = s11 ∧ t_7_12 = s12 ∧ t_7_13 = s13 ∧ t_7_0 = s14 ∧ t_7_14 = s15)
          exact (by first | exact Or.inl rfl | exact Or.inr ⟨rfl, rfl, rfl, rfl, rfl, rfl, rfl, rfl, rfl, rfl, rfl, rfl, rfl, rfl, rfl, rfl⟩)
        · have c17 := zz_nle c17
          refine zz_ok_some ?_
          show zz_osm (("java/lang/IllegalArgumentException")) (s0 = s0 ∧ s1 = s1 ∧ s2 = s2 ∧ s3 = s3 ∧ s4 = s4 ∧ s5 = s5 ∧ s6 = s6 ∧ s7 = s7 ∧ s8 = s8 ∧ s9 = s9 ∧ s10 = s10 ∧ s11 = s11 ∧ s12 = s12 ∧ s13 = s13 ∧ s14 = s14 ∧ s15 = s15)
          exact (by first | exact Or.inl rfl | exact Or.inr ⟨rfl, rfl, rfl, rfl, rfl, rfl, rfl, rfl, rfl, rfl, rfl, rfl, rfl, rfl, rfl, rfl⟩)
    · have c13 := zz_nlt c13
      refine zz_ok_some ?_
      show zz_osm (("java/lang/IllegalArgumentException")) (s0 = s0 ∧ s1 = s1 ∧ s2 = s2 ∧ s3 = s3 ∧ s4 = s4 ∧ s5 = s5 ∧ s6 = s6 ∧ s7 = s7 ∧ s8 = s8 ∧ s9 = s9 ∧ s10 = s10 ∧ s11 = s11 ∧ s12 = s12 ∧ s13 = s13 ∧ s14 = s14 ∧ s15 = s15)
      exact (by first | exact Or.inl rfl | exact Or.inr ⟨rfl, rfl, rfl, rfl, rfl, rfl, rfl, rfl, rfl, rfl, rfl, rfl, rfl, rfl, rfl, rfl⟩)
set_option maxHeartbeats 4000000 in
theorem fo_X11_open_X4 (K : Nat) (hK : 1099511627776 ≤ K) (T : Nat) (hT : T ≤ 900) (n0 : Nat) (n1 : Nat) (n2 : Nat) (n3 : Nat) (n4 : Nat) (n5 : Nat) (n6 : Nat) (n7 : Nat) (n8 : Nat) (p1 : Int32) (p2 : Int32) (s0 : Int32) (s1 : Int32) (s2 : Int32) (s3 : Int32) (s4 : Int32) (s5 : Nat → Int32) (s6 : Nat → Int32) (s7 : Nat → Int32) (s8 : Nat → Int32) (s9 : Nat → Int32) (s10 : Int32) (s11 : Int32) (s12 : Nat → Int32) (s13 : Nat → Int32) (s14 : Int32) (s15 : Int32) (s16 : Nat → Int32) (s17 : Nat → Int32) (a0 : n0 = 1024) (a1 : n1 = 200) (a2 : n2 = 200) (a3 : n3 = 200) (a4 : n4 = 200) (a5 : n5 = 512) (a6 : n6 = 512) (a7 : n7 = 201) (a8 : n8 = 201) (a9 : 0 ≤ s1.toInt) (a10 : s1.toInt ≤ 1024) (a11 : 0 ≤ s2.toInt) (a12 : s2.toInt ≤ 200) (a13 : 0 ≤ s10.toInt) (a14 : s10.toInt ≤ 512) (a15 : 0 ≤ s14.toInt) (a16 : s14.toInt ≤ 201) : zz_ok (m_X11_open_X4 K n0 n1 n2 n3 n4 n5 n6 n7 n8 p1 p2 s0 s1 s2 s3 s4 s5 s6 s7 s8 s9 s10 s11 s12 s13 s14 s15 s16 s17) (fun z => zz_osm (z.1) (z.2.1 = s0 ∧ z.2.2.1 = s1 ∧ z.2.2.2.1 = s2 ∧ z.2.2.2.2.1 = s3 ∧ z.2.2.2.2.2.1 = s4 ∧ z.2.2.2.2.2.2.1 = s5 ∧ z.2.2.2.2.2.2.2.1 = s6 ∧ z.2.2.2.2.2.2.2.2.1 = s7 ∧ z.2.2.2.2.2.2.2.2.2.1 = s8 ∧ z.2.2.2.2.2.2.2.2.2.2.1 = s9 ∧ z.2.2.2.2.2.2.2.2.2.2.2.1 = s10 ∧ z.2.2.2.2.2.2.2.2.2.2.2.2.1 = s11 ∧ z.2.2.2.2.2.2.2.2.2.2.2.2.2.1 = s12 ∧ z.2.2.2.2.2.2.2.2.2.2.2.2.2.2.1 = s13 ∧ z.2.2.2.2.2.2.2.2.2.2.2.2.2.2.2.1 = s14 ∧ z.2.2.2.2.2.2.2.2.2.2.2.2.2.2.2.2.1 = s15 ∧ z.2.2.2.2.2.2.2.2.2.2.2.2.2.2.2.2.2.1 = s16 ∧ z.2.2.2.2.2.2.2.2.2.2.2.2.2.2.2.2.2.2 = s17)) := by
  have g1 := zz_rg p1
  have g2 := zz_rg p2
  have g3 := zz_rg s0
  have g4 := zz_rg s1
  have g5 := zz_rg s2
  have g6 := zz_rg s3
  have g7 := zz_rg s4
  have g8 := zz_rg s10
  have g9 := zz_rg s11
  have g10 := zz_rg s14
  have g11 := zz_rg s15
  unfold m_X11_open_X4
  have l13 : (0 : Int32).toInt = 0 := rfl
  refine zz_ok_ite (fun c12 => ?_) (fun c12 => ?_)
  · have c12 := Int32.lt_iff_toInt_lt.mp c12
    refine zz_ok_some ?_
    show zz_osm (("java/lang/IllegalArgumentException")) (s0 = s0 ∧ s1 = s1 ∧ s2 = s2 ∧ s3 = s3 ∧ s4 = s4 ∧ s5 = s5 ∧ s6 = s6 ∧ s7 = s7 ∧ s8 = s8 ∧ s9 = s9 ∧ s10 = s10 ∧ s11 = s11 ∧ s12 = s12 ∧ s13 = s13 ∧ s14 = s14 ∧ s15 = s15 ∧ s16 = s16 ∧ s17 = s17)
    exact (by first | exact Or.inl rfl | exact Or.inr ⟨rfl, rfl, rfl, rfl, rfl, rfl, rfl, rfl, rfl, rfl, rfl, rfl, rfl, rfl, rfl, rfl, rfl, rfl⟩)
  · have c12 := zz_nlt c12
    have l15 : (10 : Int32).toInt = 10 := rfl
    refine zz_ok_ite (fun c14 => ?_) (fun c14 => ?_)
    · have c14 := Int32.lt_iff_toInt_lt.mp c14
      have l17 : (16 : Int32).toInt = 16 := rfl
      refine zz_ok_ite (fun c16 => ?_) (fun c16 => ?_)
      · have c16 := Int32.lt_iff_toInt_lt.mp c16
        refine zz_ok_some ?_
        show zz_osm (("java/lang/IllegalArgumentException")) (s0 = s0 ∧ s1 = s1 ∧ s2 = s2 ∧ s3 = s3 ∧ s4 = s4 ∧ s5 = s5 ∧ s6 = s6 ∧ s7 = s7 ∧ s8 = s8 ∧ s9 = s9 ∧ s10 = s10 ∧ s11 = s11 ∧ s12 = s12 ∧ s13 = s13 ∧ s14 = s14 ∧ s15 = s15 ∧ s16 = s16 ∧ s17 = s17)
        exact (by first | exact Or.inl rfl | exact Or.inr ⟨rfl, rfl, rfl, rfl, rfl, rfl, rfl, rfl, rfl, rfl, rfl, rfl, rfl, rfl, rfl, rfl, rfl, rfl⟩)
      · have c16 := zz_nlt c16
        have l19 : (1024 : Int32).toInt = 1024 := rfl
        refine zz_ok_ite (fun c18 => ?_) (fun c18 => ?_)
        · have c18 := Int32.le_iff_toInt_le.mp c18
          refine zz_ok_bind (s_X7_empty K hK n0 n1 n2 n3 n4 n5 n6 p2 s1 s2 s3 s4 s5 s6 s7 s8 s9 s10 s11 s12 s13 a0 a1 a2 a3 a4 a5 a6 a9 a10 a11 a12 a13 a14) ?_
          intro z20 hz20
          obtain ⟨t_5_0, t_5_1, t_5_2, t_5_3, t_5_4, t_5_5, t_5_6, t_5_7, t_5_8, t_5_9, t_5_10, t_5_11, t_5_12⟩ := z20
          have q21 : 0 ≤ t_5_0.toInt := hz20.1
          have q22 : t_5_0.toInt ≤ 1024 := hz20.2.1
          have q23 : t_5_1.toInt = 0 := hz20.2.2.1
          have q24 : 0 ≤ t_5_9.toInt := hz20.2.2.2.1
          have q25 : t_5_9.toInt ≤ 512 := hz20.2.2.2.2
          clear hz20
          have g26 := zz_rg t_5_0
          have g27 := zz_rg t_5_1
          have g28 := zz_rg t_5_2
          have g29 := zz_rg t_5_3
          have g30 := zz_rg t_5_9
          have g31 := zz_rg t_5_10
          show zz_ok (if ¬ (p1 < 0 ∨ 10 ≤ p1.toNatClampNeg) then ((m_X4_begin K n0 n1 n2 n3 n4 n5 n6 n7 n8 t_5_0 t_5_1 t_5_2 t_5_3 t_5_4 t_5_5 t_5_6 t_5_7 t_5_8 t_5_9 t_5_10 t_5_11 t_5_12 s14 s15 s16 s17).bind fun ⟨t_7_0, t_7_1, t_7_2, t_7_3, t_7_4, t_7_5, t_7_6, t_7_7, t_7_8, t_7_9, t_7_10, t_7_11, t_7_12, t_7_13, t_7_14, t_7_15, t_7_16⟩ => some ("", p1, t_7_0, t_7_1, t_7_2, t_7_3, t_7_4, t_7_5, t_7_6, t_7_7, t_7_8, t_7_9, t_7_10, t_7_11, t_7_12, t_7_13, t_7_14, t_7_15, t_7_16)) else none) _
          refine zz_ok_chk (zz_ix (by omega) (by omega)) ?_
          have g32 := zz_tnI p1 (by omega)
          refine zz_ok_bind (s_X4_begin K hK n0 n1 n2 n3 n4 n5 n6 n7 n8 t_5_0 t_5_1 t_5_2 t_5_3 t_5_4 t_5_5 t_5_6 t_5_7 t_5_8 t_5_9 t_5_10 t_5_11 t_5_12 s14 s15 s16 s17 a0 a1 a2 a3 a4 a5 a6 q21 q22 (by omega) (by omega) q24 q25 a7 a8 a15 a16) ?_
          intro z33 hz33
          obtain ⟨t_7_0, t_7_1, t_7_2, t_7_3, t_7_4, t_7_5, t_7_6, t_7_7, t_7_8, t_7_9, t_7_10, t_7_11, t_7_12, t_7_13, t_7_14, t_7_15, t_7_16⟩ := z33
          have q34 : t_7_0.toInt = t_5_0.toInt := hz33.1
          have q35 : t_7_1.toInt = t_5_1.toInt := hz33.2.1
          have q36 : 0 ≤ t_7_9.toInt := hz33.2.2.1
          have q37 : t_7_9.toInt ≤ 512 := hz33.2.2.2.1
          have q38 : 0 ≤ t_7_13.toInt := hz33.2.2.2.2.1
          have q39 : t_7_13.toInt ≤ 201 := hz33.2.2.2.2.2
          clear hz33
          have g40 := zz_rg t_7_0
          have g41 := zz_rg t_7_1
          have g42 := zz_rg t_7_2
          have g43 := zz_rg t_7_3
          have g44 := zz_rg t_7_9
          have g45 := zz_rg t_7_10
          have g46 := zz_rg t_7_13
          have g47 := zz_rg t_7_14
          show zz_ok (some ("", p1, t_7_0, t_7_1, t_7_2, t_7_3, t_7_4, t_7_5, t_7_6, t_7_7, t_7_8, t_7_9, t_7_10, t_7_11, t_7_12, t_7_13, t_7_14, t_7_15, t_7_16)) _
          refine zz_ok_some ?_
          show zz_osm (("")) (p1 = s0 ∧ t_7_0 = s1 ∧ t_7_1 = s2 ∧ t_7_2 = s3 ∧ t_7_3 = s4 ∧ t_7_4 = s5 ∧ t_7_5 = s6 ∧ t_7_6 = s7 ∧ t_7_7 = s8 ∧ t_7_8 = s9 ∧ t_7_9 = s10 ∧ t_7_10 = s11 ∧ t_7_11 = s12 ∧ t_7_12 = s13 ∧ t_7_13 = s14 ∧ t_7_14 = s15 ∧ t_7_15 = s16 ∧ t_7_16 = s17)
          exact (by first | exact Or.inl rfl | exact Or.inr ⟨rfl, rfl, rfl, rfl, rfl, rfl, rfl, rfl, rfl, rfl, rfl, rfl, rfl, rfl, rfl, rfl, rfl, rfl⟩)
        · have c18 := zz_nle c18
          refine zz_ok_some ?_
          show zz_osm (("java/lang/IllegalArgumentException")) (s0 = s0 ∧ s1 = s1 ∧ s2 = s2 ∧ s3 = s3 ∧ s4 = s4 ∧ s5 = s5 ∧ s6 = s6 ∧ s7 = s7 ∧ s8 = s8 ∧ s9 = s9 ∧ s10 = s10 ∧ s11 = s11 ∧ s12 = s12 ∧ s13 = s13 ∧ s14 = s14 ∧ s15 = s15 ∧ s16 = s16 ∧ s17 = s17)
          exact (by first | exact Or.inl rfl | exact Or.inr ⟨rfl, rfl, rfl, rfl, rfl, rfl, rfl, rfl, rfl, rfl, rfl, rfl, rfl, rfl, rfl, rfl, rfl, rfl⟩)
    · have c14 := zz_nlt c14
      refine zz_ok_some ?_
      show zz_osm (("java/lang/IllegalArgumentException")) (s0 = s0 ∧ s1 = s1 ∧ s2 = s2 ∧ s3 = s3 ∧ s4 = s4 ∧ s5 = s5 ∧ s6 = s6 ∧ s7 = s7 ∧ s8 = s8 ∧ s9 = s9 ∧ s10 = s10 ∧ s11 = s11 ∧ s12 = s12 ∧ s13 = s13 ∧ s14 = s14 ∧ s15 = s15 ∧ s16 = s16 ∧ s17 = s17)
      exact (by first | exact Or.inl rfl | exact Or.inr ⟨rfl, rfl, rfl, rfl, rfl, rfl, rfl, rfl, rfl, rfl, rfl, rfl, rfl, rfl, rfl, rfl, rfl, rfl⟩)
set_option maxHeartbeats 4000000 in
theorem fo_X11_open_X5 (K : Nat) (hK : 1099511627776 ≤ K) (T : Nat) (hT : T ≤ 900) (n0 : Nat) (n1 : Nat) (n2 : Nat) (n3 : Nat) (n4 : Nat) (n5 : Nat) (n6 : Nat) (n7 : Nat) (n8 : Nat) (p1 : Int32) (p2 : Int32) (s0 : Int32) (s1 : Int32) (s2 : Int32) (s3 : Int32) (s4 : Int32) (s5 : Nat → Int32) (s6 : Nat → Int32) (s7 : Nat → Int32) (s8 : Nat → Int32) (s9 : Nat → Int32) (s10 : Int32) (s11 : Int32) (s12 : Nat → Int32) (s13 : Nat → Int32) (s14 : Int32) (s15 : Nat → Int32) (s16 : Nat → Int32) (a0 : n0 = 1024) (a1 : n1 = 200) (a2 : n2 = 200) (a3 : n3 = 200) (a4 : n4 = 200) (a5 : n5 = 512) (a6 : n6 = 512) (a7 : n7 = 32) (a8 : n8 = 32) (a9 : 0 ≤ s1.toInt) (a10 : s1.toInt ≤ 1024) (a11 : 0 ≤ s2.toInt) (a12 : s2.toInt ≤ 200) (a13 : 0 ≤ s10.toInt) (a14 : s10.toInt ≤ 512) (a15 : 0 ≤ s14.toInt) (a16 : s14.toInt ≤ 32) : zz_ok (m_X11_open_X5 K n0 n1 n2 n3 n4 n5 n6 n7 n8 p1 p2 s0 s1 s2 s3 s4 s5 s6 s7 s8 s9 s10 s11 s12 s13 s14 s15 s16) (fun z => zz_osm (z.1) (z.2.1 = s0 ∧ z.2.2.1 = s1 ∧ z.2.2.2.1 = s2 ∧ z.2.2.2.2.1 = s3 ∧ z.2.2.2.2.2.1 = s4 ∧ z.2.2.2.2.2.2.1 = s5 ∧ z.2.2.2.2.2.2.2.1 = s6 ∧ z.2.2.2.2.2.2.2.2.1 = s7 ∧ z.2.2.2.2.2.2.2.2.2.1 = s8 ∧ z.2.2.2.2.2.2.2.2.2.2.1 = s9 ∧ z.2.2.2.2.2.2.2.2.2.2.2.1 = s10 ∧ z.2.2.2.2.2.2.2.2.2.2.2.2.1 = s11 ∧ z.2.2.2.2.2.2.2.2.2.2.2.2.2.1 = s12 ∧ z.2.2.2.2.2.2.2.2.2.2.2.2.2.2.1 = s13 ∧ z.2.2.2.2.2.2.2.2.2.2.2.2.2.2.2.1 = s14 ∧ z.2.2.2.2.2.2.2.2.2.2.2.2.2.2.2.2.1 = s15 ∧ z.2.2.2.2.2.2.2.2.2.2.2.2.2.2.2.2.2 = s16)) := by
  have g1 := zz_rg p1
  have g2 := zz_rg p2
  have g3 := zz_rg s0
  have g4 := zz_rg s1
  have g5 := zz_rg s2
  have g6 := zz_rg s3
  have g7 := zz_rg s4
  have g8 := zz_rg s10
  have g9 := zz_rg s11
  have g10 := zz_rg s14
  unfold m_X11_open_X5
  have l12 : (0 : Int32).toInt = 0 := rfl
  refine zz_ok_ite (fun c11 => ?_) (fun c11 => ?_)
  · have c11 := Int32.lt_iff_toInt_lt.mp c11
    refine zz_ok_some ?_
    show zz_osm (("java/lang/IllegalArgumentException")) (s0 = s0 ∧ s1 = s1 ∧ s2 = s2 ∧ s3 = s3 ∧ s4 = s4 ∧ s5 = s5 ∧ s6 = s6 ∧ s7 = s7 ∧ s8 = s8 ∧ s9 = s9 ∧ s10 = s10 ∧ s11 = s11 ∧ s12 = s12 ∧ s13 = s13 ∧ s14 = s14 ∧ s15 = s15 ∧ s16 = s16)
    exact (by first | exact Or.inl rfl | exact Or.inr ⟨rfl, rfl, rfl, rfl, rfl, rfl, rfl, rfl, rfl, rfl, rfl, rfl, rfl, rfl, rfl, rfl, rfl⟩)
  · have c11 := zz_nlt c11
    have l14 : (10 : Int32).toInt = 10 := rfl
    refine zz_ok_ite (fun c13 => ?_) (fun c13 => ?_)
    · have c13 := Int32.lt_iff_toInt_lt.mp c13
      have l16 : (16 : Int32).toInt = 16 := rfl
      refine zz_ok_ite (fun c15 => ?_) (fun c15 => ?_)
      · have c15 := Int32.lt_iff_toInt_lt.mp c15
        refine zz_ok_some ?_
        show zz_osm (("java/lang/IllegalArgumentException")) (s0 = s0 ∧ s1 = s1 ∧ s2 = s2 ∧ s3 = s3 ∧ s4 = s4 ∧ s5 = s5 ∧ s6 = s6 ∧ s7 = s7 ∧ s8 = s8 ∧ s9 = s9 ∧ s10 = s10 ∧ s11 = s11 ∧ s12 = s12 ∧ s13 = s13 ∧ s14 = s14 ∧ s15 = s15 ∧ s16 = s16)
        exact (by first | exact Or.inl rfl | exact Or.inr ⟨rfl, rfl, rfl, rfl, rfl, rfl, rfl, rfl, rfl, rfl, rfl, rfl, rfl, rfl, rfl, rfl, rfl⟩)
      · have c15 := zz_nlt c15
        have l18 : (1024 : Int32).toInt = 1024 := rfl
        refine zz_ok_ite (fun c17 => ?_) (fun c17 => ?_)
        · have c17 := Int32.le_iff_toInt_le.mp c17
          refine zz_ok_bind (s_X7_empty K hK n0 n1 n2 n3 n4 n5 n6 p2 s1 s2 s3 s4 s5 s6 s7 s8 s9 s10 s11 s12 s13 a0 a1 a2 a3 a4 a5 a6 a9 a10 a11 a12 a13 a14) ?_
          intro z19 hz19
          obtain ⟨t_5_0, t_5_1, t_5_2, t_5_3, t_5_4, t_5_5, t_5_6, t_5_7, t_5_8, t_5_9, t_5_10, t_5_11, t_5_12⟩ := z19
          have q20 : 0 ≤ t_5_0.toInt := hz19.1
          have q21 : t_5_0.toInt ≤ 1024 := hz19.2.1
          have q22 : t_5_1.toInt = 0 := hz19.2.2.1
          have q23 : 0 ≤ t_5_9.toInt := hz19.2.2.2.1
          have q24 : t_5_9.toInt ≤ 512 := hz19.2.2.2.2
          clear hz19
          have g25 := zz_rg t_5_0
          have g26 := zz_rg t_5_1
          have g27 := zz_rg t_5_2
          have g28 := zz_rg t_5_3
          have g29 := zz_rg t_5_9
          have g30 := zz_rg t_5_10
          show zz_ok (if ¬ (p1 < 0 ∨ 10 ≤ p1.toNatClampNeg) then ((m_X5_begin K n0 n1 n2 n3 n4 n5 n6 n7 n8 s14 t_5_0 t_5_1 t_5_2 t_5_3 t_5_4 t_5_5 t_5_6 t_5_7 t_5_8 t_5_9 t_5_10 t_5_11 t_5_12 s15 s16).bind fun ⟨t_7_0, t_7_1, t_7_2, t_7_3, t_7_4, t_7_5, t_7_6, t_7_7, t_7_8, t_7_9, t_7_10, t_7_11, t_7_12, t_7_13, t_7_14, t_7_15⟩ => some ("", p1, t_7_1, t_7_2, t_7_3, t_7_4, t_7_5, t_7_6, t_7_7, t_7_8, t_7_9, t_7_10, t_7_11, t_7_12, t_7_13, t_7_0, t_7_14, t_7_15)) else none) _
          refine zz_ok_chk (zz_ix (by omega) (by omega)) ?_
          have g31 := zz_tnI p1 (by omega)
          refine zz_ok_bind (s_X5_begin K hK n0 n1 n2 n3 n4 n5 n6 n7 n8 s14 t_5_0 t_5_1 t_5_2 t_5_3 t_5_4 t_5_5 t_5_6 t_5_7 t_5_8 t_5_9 t_5_10 t_5_11 t_5_12 s15 s16 a0 a1 a2 a3 a4 a5 a6 q20 q21 (by omega) (by omega) q23 q24 a7 a8) ?_
          intro z32 hz32
          obtain ⟨t_7_0, t_7_1, t_7_2, t_7_3, t_7_4, t_7_5, t_7_6, t_7_7, t_7_8, t_7_9, t_7_10, t_7_11, t_7_12, t_7_13, t_7_14, t_7_15⟩ := z32
          have q33 : t_7_1.toInt = t_5_0.toInt := hz32.1
          have q34 : t_7_2.toInt = t_5_1.toInt := hz32.2.1
          have q35 : 0 ≤ t_7_10.toInt := hz32.2.2.1
          have q36 : t_7_10.toInt ≤ 512 := hz32.2.2.2.1
          have q37 : 0 ≤ t_7_0.toInt := hz32.2.2.2.2.1
          have q38 : t_7_0.toInt ≤ 32 := hz32.2.2.2.2.2
          clear hz32
          have g39 := zz_rg t_7_0
          have g40 := zz_rg t_7_1
          have g41 := zz_rg t_7_2
          have g42 := zz_rg t_7_3
          have g43 := zz_rg t_7_4
          have g44 := zz_rg t_7_10
          have g45 := zz_rg t_7_11
          show zz_ok (some ("", p1, t_7_1, t_7_2, t_7_3, t_7_4, t_7_5, t_7_6, t_7_7, t_7_8, t_7_9, t_7_10, t_7_11, t_7_12, t_7_13, t_7_0, t_7_14, t_7_15)) _
          refine zz_ok_some ?_
          show zz_osm (("")) (p1 = s0 ∧ t_7_1 = s1 ∧ t_7_2 = s2 ∧ t_7_3 = s3 ∧ t_7_4 = s4 ∧ t_7_5 = s5 ∧ t_7_6 = s6 ∧ t_7_7 = s7 ∧ t_7_8 = s8 ∧ t_7_9 = s9 ∧ t_7_10 = s10 ∧ t_7_11 = s11 ∧ t_7_12 = s12 ∧ t_7_13 = s13 ∧ t_7_0 = s14 ∧ t_7_14 = s15 ∧ t_7_15 = s16)
          exact (by first | exact Or.inl rfl | exact Or.inr ⟨rfl, rfl, rfl, rfl, rfl, rfl, rfl, rfl, rfl, rfl, rfl, rfl, rfl, rfl, rfl, rfl, rfl⟩)
        · have c17 := zz_nle c17
          refine zz_ok_some ?_
          show zz_osm (("java/lang/IllegalArgumentException")) (s0 = s0 ∧ s1 = s1 ∧ s2 = s2 ∧ s3 = s3 ∧ s4 = s4 ∧ s5 = s5 ∧ s6 = s6 ∧ s7 = s7 ∧ s8 = s8 ∧ s9 = s9 ∧ s10 = s10 ∧ s11 = s11 ∧ s12 = s12 ∧ s13 = s13 ∧ s14 = s14 ∧ s15 = s15 ∧ s16 = s16)
          exact (by first | exact Or.inl rfl | exact Or.inr ⟨rfl, rfl, rfl, rfl, rfl, rfl, rfl, rfl, rfl, rfl, rfl, rfl, rfl, rfl, rfl, rfl, rfl⟩)
    · have c13 := zz_nlt c13
      refine zz_ok_some ?_
      show zz_osm (("java/lang/IllegalArgumentException")) (s0 = s0 ∧ s1 = s1 ∧ s2 = s2 ∧ s3 = s3 ∧ s4 = s4 ∧ s5 = s5 ∧ s6 = s6 ∧ s7 = s7 ∧ s8 = s8 ∧ s9 = s9 ∧ s10 = s10 ∧ s11 = s11 ∧ s12 = s12 ∧ s13 = s13 ∧ s14 = s14 ∧ s15 = s15 ∧ s16 = s16)
      exact (by first | exact Or.inl rfl | exact Or.inr ⟨rfl, rfl, rfl, rfl, rfl, rfl, rfl, rfl, rfl, rfl, rfl, rfl, rfl, rfl, rfl, rfl, rfl⟩)
set_option maxHeartbeats 4000000 in
theorem fo_X11_open_X6 (K : Nat) (hK : 1099511627776 ≤ K) (T : Nat) (hT : T ≤ 900) (n0 : Nat) (n1 : Nat) (n2 : Nat) (n3 : Nat) (n4 : Nat) (n5 : Nat) (n6 : Nat) (n7 : Nat) (n8 : Nat) (p1 : Int32) (p2 : Int32) (s0 : Int32) (s1 : Int32) (s2 : Int32) (s3 : Int32) (s4 : Int32) (s5 : Nat → Int32) (s6 : Nat → Int32) (s7 : Nat → Int32) (s8 : Nat → Int32) (s9 : Nat → Int32) (s10 : Int32) (s11 : Int32) (s12 : Nat → Int32) (s13 : Nat → Int32) (s14 : Int32) (s15 : Int32) (s16 : Nat → Int32) (s17 : Nat → Int32) (a0 : n0 = 1024) (a1 : n1 = 200) (a2 : n2 = 200) (a3 : n3 = 200) (a4 : n4 = 200) (a5 : n5 = 512) (a6 : n6 = 512) (a7 : n7 = 1024) (a8 : n8 = 1024) (a9 : 0 ≤ s1.toInt) (a10 : s1.toInt ≤ 1024) (a11 : 0 ≤ s2.toInt) (a12 : s2.toInt ≤ 200) (a13 : 0 ≤ s10.toInt) (a14 : s10.toInt ≤ 512) (a15 : 0 ≤ s14.toInt) (a16 : s14.toInt ≤ 1024) : zz_ok (m_X11_open_X6 K n0 n1 n2 n3 n4 n5 n6 n7 n8 p1 p2 s0 s1 s2 s3 s4 s5 s6 s7 s8 s9 s10 s11 s12 s13 s14 s15 s16 s17) (fun z => zz_osm (z.1) (z.2.1 = s0 ∧ z.2.2.1 = s1 ∧ z.2.2.2.1 = s2 ∧ z.2.2.2.2.1 = s3 ∧ z.2.2.2.2.2.1 = s4 ∧ z.2.2.2.2.2.2.1 = s5 ∧ z.2.2.2.2.2.2.2.1 = s6 ∧ z.2.2.2.2.2.2.2.2.1 = s7 ∧ z.2.2.2.2.2.2.2.2.2.1 = s8 ∧ z.2.2.2.2.2.2.2.2.2.2.1 = s9 ∧ z.2.2.2.2.2.2.2.2.2.2.2.1 = s10 ∧ z.2.2.2.2.2.2.2.2.2.2.2.2.1 = s11 ∧ z.2.2.2.2.2.2.2.2.2.2.2.2.2.1 = s12 ∧ z.2.2.2.2.2.2.2.2.2.2.2.2.2.2.1 = s13 ∧ z.2.2.2.2.2.2.2.2.2.2.2.2.2.2.2.1 = s14 ∧ z.2.2.2.2.2.2.2.2.2.2.2.2.2.2.2.2.1 = s15 ∧ z.2.2.2.2.2.2.2.2.2.2.2.2.2.2.2.2.2.1 = s16 ∧ z.2.2.2.2.2.2.2.2.2.2.2.2.2.2.2.2.2.2 = s17)) := by
  have g1 := zz_rg p1
  have g2 := zz_rg p2
  have g3 := zz_rg s0
  have g4 := zz_rg s1
  have g5 := zz_rg s2
  have g6 := zz_rg s3
  have g7 := zz_rg s4
  have g8 := zz_rg s10
  have g9 := zz_rg s11
  have g10 := zz_rg s14
  have g11 := zz_rg s15
  unfold m_X11_open_X6
  have l13 : (0 : Int32).toInt = 0 := rfl
  refine zz_ok_ite (fun c12 => ?_) (fun c12 => ?_)
  · have c12 := Int32.lt_iff_toInt_lt.mp c12
    refine zz_ok_some ?_
    show zz_osm (("java/lang/IllegalArgumentException")) (s0 = s0 ∧ s1 = s1 ∧ s2 = s2 ∧ s3 = s3 ∧ s4 = s4 ∧ s5 = s5 ∧ s6 = s6 ∧ s7 = s7 ∧ s8 = s8 ∧ s9 = s9 ∧ s10 = s10 ∧ s11 = s11 ∧ s12 = s12 ∧ s13 = s13 ∧ s14 = s14 ∧ s15 = s15 ∧ s16 = s16 ∧ s17 = s17)
    exact (by first | exact Or.inl rfl | exact Or.inr ⟨rfl, rfl, rfl, rfl, rfl, rfl, rfl, rfl, rfl, rfl, rfl, rfl, rfl, rfl, rfl, rfl, rfl, rfl⟩)
  · have c12 := zz_nlt c12
    have l15 : (10 : Int32).toInt = 10 := rfl
    refine zz_ok_ite (fun c14 => ?_) (fun c14 => ?_)
    · have c14 := Int32.lt_iff_toInt_lt.mp c14
      have l17 : (16 : Int32).toInt = 16 := rfl
      refine zz_ok_ite (fun c16 => ?_) (fun c16 => ?_)
      · have c16 := Int32.lt_iff_toInt_lt.mp c16
        refine zz_ok_some ?_
        show zz_osm (("java/lang/IllegalArgumentException")) (s0 = s0 ∧ s1 = s1 ∧ s2 = s2 ∧ s3 = s3 ∧ s4 = s4 ∧ s5 = s5 ∧ s6 = s6 ∧ s7 = s7 ∧ s8 = s8 ∧ s9 = s9 ∧ s10 = s10 ∧ s11 = s11 ∧ s12 = s12 ∧ s13 = s13 ∧ s14 = s14 ∧ s15 = s15 ∧ s16 = s16 ∧ s17 = s17)
        exact (by first | exact Or.inl rfl | exact Or.inr ⟨rfl, rfl, rfl, rfl, rfl, rfl, rfl, rfl, rfl, rfl, rfl, rfl, rfl, rfl, rfl, rfl, rfl, rfl⟩)
      · have c16 := zz_nlt c16
        have l19 : (1024 : Int32).toInt = 1024 := rfl
        refine zz_ok_ite (fun c18 => ?_) (fun c18 => ?_)
        · have c18 := Int32.le_iff_toInt_le.mp c18
          refine zz_ok_bind (s_X7_empty K hK n0 n1 n2 n3 n4 n5 n6 p2 s1 s2 s3 s4 s5 s6 s7 s8 s9 s10 s11 s12 s13 a0 a1 a2 a3 a4 a5 a6 a9 a10 a11 a12 a13 a14) ?_
          intro z20 hz20
          obtain ⟨t_5_0, t_5_1, t_5_2, t_5_3, t_5_4, t_5_5, t_5_6, t_5_7, t_5_8, t_5_9, t_5_10, t_5_11, t_5_12⟩ := z20
          have q21 : 0 ≤ t_5_0.toInt := hz20.1
          have q22 : t_5_0.toInt ≤ 1024 := hz20.2.1
          have q23 : t_5_1.toInt = 0 := hz20.2.2.1
          have q24 : 0 ≤ t_5_9.toInt := hz20.2.2.2.1
          have q25 : t_5_9.toInt ≤ 512 := hz20.2.2.2.2
          clear hz20
          have g26 := zz_rg t_5_0
          have g27 := zz_rg t_5_1
          have g28 := zz_rg t_5_2
          have g29 := zz_rg t_5_3
          have g30 := zz_rg t_5_9
          have g31 := zz_rg t_5_10
          show zz_ok (if ¬ (p1 < 0 ∨ 10 ≤ p1.toNatClampNeg) then ((m_X6_begin K n0 n1 n2 n3 n4 n5 n6 n7 n8 t_5_0 t_5_1 t_5_2 t_5_3 t_5_4 t_5_5 t_5_6 t_5_7 t_5_8 t_5_9 t_5_10 t_5_11 t_5_12 s14 s15 s16 s17).bind fun ⟨t_7_0, t_7_1, t_7_2, t_7_3, t_7_4, t_7_5, t_7_6, t_7_7, t_7_8, t_7_9, t_7_10, t_7_11, t_7_12, t_7_13, t_7_14, t_7_15, t_7_16⟩ => some ("", p1, t_7_0, t_7_1, t_7_2, t_7_3, t_7_4, t_7_5, t_7_6, t_7_7, t_7_8, t_7_9, t_7_10, t_7_11, t_7_12, t_7_13, t_7_14, t_7_15, t_7_16)) else none) _
          refine zz_ok_chk (zz_ix (by omega) (by omega)) ?_
          have g32 := zz_tnI p1 (by omega)
          refine zz_ok_bind (s_X6_begin K hK n0 n1 n2 n3 n4 n5 n6 n7 n8 t_5_0 t_5_1 t_5_2 t_5_3 t_5_4 t_5_5 t_5_6 t_5_7 t_5_8 t_5_9 t_5_10 t_5_11 t_5_12 s14 s15 s16 s17 a0 a1 a2 a3 a4 a5 a6 q21 q22 (by omega) (by omega) q24 q25 a7 a8 a15 a16) ?_
          intro z33 hz33
          obtain ⟨t_7_0, t_7_1, t_7_2, t_7_3, t_7_4, t_7_5, t_7_6, t_7_7, t_7_8, t_7_9, t_7_10, t_7_11, t_7_12, t_7_13, t_7_14, t_7_15, t_7_16⟩ := z33
          have q34 : t_7_0.toInt = t_5_0.toInt := hz33.1
          have q35 : t_7_1.toInt = t_5_1.toInt := hz33.2.1
          have q36 : 0 ≤ t_7_9.toInt := hz33.2.2.1
          have q37 : t_7_9.toInt ≤ 512 := hz33.2.2.2.1
          have q38 : 0 ≤ t_7_13.toInt := hz33.2.2.2.2.1
          have q39 : t_7_13.toInt ≤ 1024 := hz33.2.2.2.2.2
          clear hz33
          have g40 := zz_rg t_7_0
          have g41 := zz_rg t_7_1
          have g42 := zz_rg t_7_2
          have g43 := zz_rg t_7_3
          have g44 := zz_rg t_7_9
          have g45 := zz_rg t_7_10
          have g46 := zz_rg t_7_13
          have g47 := zz_rg t_7_14
          show zz_ok (some ("", p1, t_7_0, t_7_1, t_7_2, t_7_3, t_7_4, t_7_5, t_7_6, t_7_7, t_7_8, t_7_9, t_7_10, t_7_11, t_7_12, t_7_13, t_7_14, t_7_15, t_7_16)) _
          refine zz_ok_some ?_
          show zz_osm (("")) (p1 = s0 ∧ t_7_0 = s1 ∧ t_7_1 = s2 ∧ t_7_2 = s3 ∧ t_7_3 = s4 ∧ t_7_4 = s5 ∧ t_7_5 = s6 ∧ t_7_6 = s7 ∧ t_7_7 = s8 ∧ t_7_8 = s9 ∧ t_7_9 = s10 ∧ t_7_10 = s11 ∧ t_7_11 = s12 ∧ t_7_12 = s13 ∧ t_7_13 = s14 ∧ t_7_14 = s15 ∧ t_7_15 = s16 ∧ t_7_16 = s17)
          exact (by first | exact Or.inl rfl | exact Or.inr ⟨rfl, rfl, rfl, rfl, rfl, rfl, rfl, rfl, rfl, rfl, rfl, rfl, rfl, rfl, rfl, rfl, rfl, rfl⟩)
        · have c18 := zz_nle c18
          refine zz_ok_some ?_
          show zz_osm (("java/lang/IllegalArgumentException")) (s0 = s0 ∧ s1 = s1 ∧ s2 = s2 ∧ s3 = s3 ∧ s4 = s4 ∧ s5 = s5 ∧ s6 = s6 ∧ s7 = s7 ∧ s8 = s8 ∧ s9 = s9 ∧ s10 = s10 ∧ s11 = s11 ∧ s12 = s12 ∧ s13 = s13 ∧ s14 = s14 ∧ s15 = s15 ∧ s16 = s16 ∧ s17 = s17)
          exact (by first | exact Or.inl rfl | exact Or.inr ⟨rfl, rfl, rfl, rfl, rfl, rfl, rfl, rfl, rfl, rfl, rfl, rfl, rfl, rfl, rfl, rfl, rfl, rfl⟩)
    · have c14 := zz_nlt c14
      refine zz_ok_some ?_
      show zz_osm (("java/lang/IllegalArgumentException")) (s0 = s0 ∧ s1 = s1 ∧ s2 = s2 ∧ s3 = s3 ∧ s4 = s4 ∧ s5 = s5 ∧ s6 = s6 ∧ s7 = s7 ∧ s8 = s8 ∧ s9 = s9 ∧ s10 = s10 ∧ s11 = s11 ∧ s12 = s12 ∧ s13 = s13 ∧ s14 = s14 ∧ s15 = s15 ∧ s16 = s16 ∧ s17 = s17)
      exact (by first | exact Or.inl rfl | exact Or.inr ⟨rfl, rfl, rfl, rfl, rfl, rfl, rfl, rfl, rfl, rfl, rfl, rfl, rfl, rfl, rfl, rfl, rfl, rfl⟩)
set_option maxHeartbeats 4000000 in
theorem fo_X11_open_X9 (K : Nat) (hK : 1099511627776 ≤ K) (T : Nat) (hT : T ≤ 900) (n0 : Nat) (n1 : Nat) (n2 : Nat) (n3 : Nat) (n4 : Nat) (n5 : Nat) (n6 : Nat) (p1 : Int32) (p2 : Int32) (s0 : Int32) (s1 : Int32) (s2 : Int32) (s3 : Int32) (s4 : Int32) (s5 : Nat → Int32) (s6 : Nat → Int32) (s7 : Nat → Int32) (s8 : Nat → Int32) (s9 : Nat → Int32) (s10 : Int32) (s11 : Int32) (s12 : Nat → Int32) (s13 : Nat → Int32) (s14 : Int32) (a0 : n0 = 1024) (a1 : n1 = 200) (a2 : n2 = 200) (a3 : n3 = 200) (a4 : n4 = 200) (a5 : n5 = 512) (a6 : n6 = 512) (a7 : 0 ≤ s1.toInt) (a8 : s1.toInt ≤ 1024) (a9 : 0 ≤ s2.toInt) (a10 : s2.toInt ≤ 200) (a11 : 0 ≤ s10.toInt) (a12 : s10.toInt ≤ 512) : zz_ok (m_X11_open_X9 K n0 n1 n2 n3 n4 n5 n6 p1 p2 s0 s1 s2 s3 s4 s5 s6 s7 s8 s9 s10 s11 s12 s13 s14) (fun z => zz_osm (z.1) (z.2.1 = s0 ∧ z.2.2.1 = s1 ∧ z.2.2.2.1 = s2 ∧ z.2.2.2.2.1 = s3 ∧ z.2.2.2.2.2.1 = s4 ∧ z.2.2.2.2.2.2.1 = s5 ∧ z.2.2.2.2.2.2.2.1 = s6 ∧ z.2.2.2.2.2.2.2.2.1 = s7 ∧ z.2.2.2.2.2.2.2.2.2.1 = s8 ∧ z.2.2.2.2.2.2.2.2.2.2.1 = s9 ∧ z.2.2.2.2.2.2.2.2.2.2.2.1 = s10 ∧ z.2.2.2.2.2.2.2.2.2.2.2.2.1 = s11 ∧ z.2.2.2.2.2.2.2.2.2.2.2.2.2.1 = s12 ∧ z.2.2.2.2.2.2.2.2.2.2.2.2.2.2.1 = s13 ∧ z.2.2.2.2.2.2.2.2.2.2.2.2.2.2.2 = s14)) := by
  have g1 := zz_rg p1
  have g2 := zz_rg p2
  have g3 := zz_rg s0
  have g4 := zz_rg s1
  have g5 := zz_rg s2
  have g6 := zz_rg s3
  have g7 := zz_rg s4
  have g8 := zz_rg s10
  have g9 := zz_rg s11
  have g10 := zz_rg s14
  unfold m_X11_open_X9
  have l12 : (0 : Int32).toInt = 0 := rfl
  refine zz_ok_ite (fun c11 => ?_) (fun c11 => ?_)
  · have c11 := Int32.lt_iff_toInt_lt.mp c11
    refine zz_ok_some ?_
    show zz_osm (("java/lang/IllegalArgumentException")) (s0 = s0 ∧ s1 = s1 ∧ s2 = s2 ∧ s3 = s3 ∧ s4 = s4 ∧ s5 = s5 ∧ s6 = s6 ∧ s7 = s7 ∧ s8 = s8 ∧ s9 = s9 ∧ s10 = s10 ∧ s11 = s11 ∧ s12 = s12 ∧ s13 = s13 ∧ s14 = s14)
    exact (by first | exact Or.inl rfl | exact Or.inr ⟨rfl, rfl, rfl, rfl, rfl, rfl, rfl, rfl, rfl, rfl, rfl, rfl, rfl, rfl, rfl⟩)
  · have c11 := zz_nlt c11
    have l14 : (10 : Int32).toInt = 10 := rfl
    refine zz_ok_ite (fun c13 => ?_) (fun c13 => ?_)
    · have c13 := Int32.lt_iff_toInt_lt.mp c13
      have l16 : (16 : Int32).toInt = 16 := rfl
      refine zz_ok_ite (fun c15 => ?_) (fun c15 => ?_)
      · have c15 := Int32.lt_iff_toInt_lt.mp c15
        refine zz_ok_some ?_
        show zz_osm (("java/lang/IllegalArgumentException")) (s0 = s0 ∧ s1 = s1 ∧ s2 = s2 ∧ s3 = s3 ∧ s4 = s4 ∧ s5 = s5 ∧ s6 = s6 ∧ s7 = s7 ∧ s8 = s8 ∧ s9 = s9 ∧ s10 = s10 ∧ s11 = s11 ∧ s12 = s12 ∧ s13 = s13 ∧ s14 = s14)
        exact (by first | exact Or.inl rfl | exact Or.inr ⟨rfl, rfl, rfl, rfl, rfl, rfl, rfl, rfl, rfl, rfl, rfl, rfl, rfl, rfl, rfl⟩)
      · have c15 := zz_nlt c15
        have l18 : (1024 : Int32).toInt = 1024 := rfl
        refine zz_ok_ite (fun c17 => ?_) (fun c17 => ?_)
        · have c17 := Int32.le_iff_toInt_le.mp c17
          refine zz_ok_bind (s_X7_empty K hK n0 n1 n2 n3 n4 n5 n6 p2 s1 s2 s3 s4 s5 s6 s7 s8 s9 s10 s11 s12 s13 a0 a1 a2 a3 a4 a5 a6 a7 a8 a9 a10 a11 a12) ?_
          intro z19 hz19
          obtain ⟨t_5_0, t_5_1, t_5_2, t_5_3, t_5_4, t_5_5, t_5_6, t_5_7, t_5_8, t_5_9, t_5_10, t_5_11, t_5_12⟩ := z19
          have q20 : 0 ≤ t_5_0.toInt := hz19.1
          have q21 : t_5_0.toInt ≤ 1024 := hz19.2.1
          have q22 : t_5_1.toInt = 0 := hz19.2.2.1
          have q23 : 0 ≤ t_5_9.toInt := hz19.2.2.2.1
          have q24 : t_5_9.toInt ≤ 512 := hz19.2.2.2.2
          clear hz19
          have g25 := zz_rg t_5_0
          have g26 := zz_rg t_5_1
          have g27 := zz_rg t_5_2
          have g28 := zz_rg t_5_3
          have g29 := zz_rg t_5_9
          have g30 := zz_rg t_5_10
          show zz_ok (if ¬ (p1 < 0 ∨ 10 ≤ p1.toNatClampNeg) then ((m_X9_begin K n0 n1 n2 n3 n4 n5 n6 s14 t_5_0 t_5_1 t_5_2 t_5_3 t_5_4 t_5_5 t_5_6 t_5_7 t_5_8 t_5_9 t_5_10 t_5_11 t_5_12).bind fun ⟨t_7_0, t_7_1, t_7_2, t_7_3, t_7_4, t_7_5, t_7_6, t_7_7, t_7_8, t_7_9, t_7_10, t_7_11, t_7_12, t_7_13⟩ => some ("", p1, t_7_1, t_7_2, t_7_3, t_7_4, t_7_5, t_7_6, t_7_7, t_7_8, t_7_9, t_7_10, t_7_11, t_7_12, t_7_13, t_7_0)) else none) _
          refine zz_ok_chk (zz_ix (by omega) (by omega)) ?_
          have g31 := zz_tnI p1 (by omega)
          refine zz_ok_bind (s_X9_begin K hK n0 n1 n2 n3 n4 n5 n6 s14 t_5_0 t_5_1 t_5_2 t_5_3 t_5_4 t_5_5 t_5_6 t_5_7 t_5_8 t_5_9 t_5_10 t_5_11 t_5_12 a0 a1 a2 a3 a4 a5 a6 q20 q21 (by omega) (by omega) q23 q24) ?_
          intro z32 hz32
          obtain ⟨t_7_0, t_7_1, t_7_2, t_7_3, t_7_4, t_7_5, t_7_6, t_7_7, t_7_8, t_7_9, t_7_10, t_7_11, t_7_12, t_7_13⟩ := z32
          have q33 : t_7_1.toInt = t_5_0.toInt := hz32.1
          have q34 : t_7_2.toInt = t_5_1.toInt := hz32.2.1
          have q35 : 0 ≤ t_7_10.toInt := hz32.2.2.1
          have q36 : t_7_10.toInt ≤ 512 := hz32.2.2.2
          clear hz32
          have g37 := zz_rg t_7_0
          have g38 := zz_rg t_7_1
          have g39 := zz_rg t_7_2
          have g40 := zz_rg t_7_3
          have g41 := zz_rg t_7_4
          have g42 := zz_rg t_7_10
          have g43 := zz_rg t_7_11
          show zz_ok (some ("", p1, t_7_1, t_7_2, t_7_3, t_7_4, t_7_5, t_7_6, t_7_7, t_7_8, t_7_9, t_7_10, t_7_11, t_7_12, t_7_13, t_7_0)) _
          refine zz_ok_some ?_
          show zz_osm (("")) (p1 = s0 ∧ t_7_1 = s1 ∧ t_7_2 = s2 ∧ t_7_3 = s3 ∧ t_7_4 = s4 ∧ t_7_5 = s5 ∧ t_7_6 = s6 ∧ t_7_7 = s7 ∧ t_7_8 = s8 ∧ t_7_9 = s9 ∧ t_7_10 = s10 ∧ t_7_11 = s11 ∧ t_7_12 = s12 ∧ t_7_13 = s13 ∧ t_7_0 = s14)
          exact (by first | exact Or.inl rfl | exact Or.inr ⟨rfl, rfl, rfl, rfl, rfl, rfl, rfl, rfl, rfl, rfl, rfl, rfl, rfl, rfl, rfl⟩)
        · have c17 := zz_nle c17
          refine zz_ok_some ?_
          show zz_osm (("java/lang/IllegalArgumentException")) (s0 = s0 ∧ s1 = s1 ∧ s2 = s2 ∧ s3 = s3 ∧ s4 = s4 ∧ s5 = s5 ∧ s6 = s6 ∧ s7 = s7 ∧ s8 = s8 ∧ s9 = s9 ∧ s10 = s10 ∧ s11 = s11 ∧ s12 = s12 ∧ s13 = s13 ∧ s14 = s14)
          exact (by first | exact Or.inl rfl | exact Or.inr ⟨rfl, rfl, rfl, rfl, rfl, rfl, rfl, rfl, rfl, rfl, rfl, rfl, rfl, rfl, rfl⟩)
    · have c13 := zz_nlt c13
      refine zz_ok_some ?_
      show zz_osm (("java/lang/IllegalArgumentException")) (s0 = s0 ∧ s1 = s1 ∧ s2 = s2 ∧ s3 = s3 ∧ s4 = s4 ∧ s5 = s5 ∧ s6 = s6 ∧ s7 = s7 ∧ s8 = s8 ∧ s9 = s9 ∧ s10 = s10 ∧ s11 = s11 ∧ s12 = s12 ∧ s13 = s13 ∧ s14 = s14)
      exact (by first | exact Or.inl rfl | exact Or.inr ⟨rfl, rfl, rfl, rfl, rfl, rfl, rfl, rfl, rfl, rfl, rfl, rfl, rfl, rfl, rfl⟩)
set_option maxHeartbeats 4000000 in
theorem fo_X11_needRoom_N (K : Nat) (hK : 1099511627776 ≤ K) (T : Nat) (hT : T ≤ 900) (n0 : Nat) (n1 : Nat) (n2 : Nat) (n3 : Nat) (n4 : Nat) (n5 : Nat) (n6 : Nat) (s0 : Int32) (s1 : Int32) (s2 : Int32) (s3 : Int32) (s4 : Int32) (s5 : Nat → Int32) (s6 : Nat → Int32) (s7 : Nat → Int32) (s8 : Nat → Int32) (s9 : Nat → Int32) (s10 : Int32) (s11 : Int32) (s12 : Nat → Int32) (s13 : Nat → Int32) : zz_ok (m_X11_needRoom_N K n0 n1 n2 n3 n4 n5 n6 s0 s1 s2 s3 s4 s5 s6 s7 s8 s9 s10 s11 s12 s13) (fun z => zz_eis z.1 ∧ z.2.1 = s0 ∧ z.2.2.1 = s1 ∧ z.2.2.2.1 = s2 ∧ z.2.2.2.2.1 = s3 ∧ z.2.2.2.2.2.1 = s4 ∧ z.2.2.2.2.2.2.1 = s5 ∧ z.2.2.2.2.2.2.2.1 = s6 ∧ z.2.2.2.2.2.2.2.2.1 = s7 ∧ z.2.2.2.2.2.2.2.2.2.1 = s8 ∧ z.2.2.2.2.2.2.2.2.2.2.1 = s9 ∧ z.2.2.2.2.2.2.2.2.2.2.2.1 = s10 ∧ z.2.2.2.2.2.2.2.2.2.2.2.2.1 = s11 ∧ z.2.2.2.2.2.2.2.2.2.2.2.2.2.1 = s12 ∧ z.2.2.2.2.2.2.2.2.2.2.2.2.2.2 = s13) := by
  have g1 := zz_rg s0
  have g2 := zz_rg s1
  have g3 := zz_rg s2
  have g4 := zz_rg s3
  have g5 := zz_rg s4
  have g6 := zz_rg s10
  have g7 := zz_rg s11
  unfold m_X11_needRoom_N
  refine zz_ok_some ?_
  show zz_eis ("java/lang/IllegalStateException") ∧ s0 = s0 ∧ s1 = s1 ∧ s2 = s2 ∧ s3 = s3 ∧ s4 = s4 ∧ s5 = s5 ∧ s6 = s6 ∧ s7 = s7 ∧ s8 = s8 ∧ s9 = s9 ∧ s10 = s10 ∧ s11 = s11 ∧ s12 = s12 ∧ s13 = s13
  exact ⟨(by exact rfl), rfl, rfl, rfl, rfl, rfl, rfl, rfl, rfl, rfl, rfl, rfl, rfl, rfl, rfl⟩
set_option maxHeartbeats 4000000 in
theorem fo_X11_list_N (K : Nat) (hK : 1099511627776 ≤ K) (T : Nat) (hT : T ≤ 900) (n0 : Nat) (n1 : Nat) (n2 : Nat) (n3 : Nat) (n4 : Nat) (n5 : Nat) (n6 : Nat) (p1 : Int32) (p2 : Int32) (s0 : Int32) (s1 : Int32) (s2 : Int32) (s3 : Int32) (s4 : Int32) (s5 : Nat → Int32) (s6 : Nat → Int32) (s7 : Nat → Int32) (s8 : Nat → Int32) (s9 : Nat → Int32) (s10 : Int32) (s11 : Int32) (s12 : Nat → Int32) (s13 : Nat → Int32) (a0 : n0 = 1024) (a1 : n1 = 200) (a2 : n2 = 200) (a3 : n3 = 200) (a4 : n4 = 200) (a5 : n5 = 512) (a6 : n6 = 512) (a7 : 0 ≤ s1.toInt) (a8 : s1.toInt ≤ 1024) (a9 : 0 ≤ s2.toInt) (a10 : s2.toInt ≤ 200) (a11 : 0 ≤ s10.toInt) (a12 : s10.toInt ≤ 512) (a13 : s0.toInt = -1) : zz_ok (m_X11_list_N K n0 n1 n2 n3 n4 n5 n6 p1 p2 s0 s1 s2 s3 s4 s5 s6 s7 s8 s9 s10 s11 s12 s13) (fun z => zz_lsx (z.1) p1.toInt s0.toInt) := by
  have g1 := zz_rg p1
  have g2 := zz_rg p2
  have g3 := zz_rg s0
  have g4 := zz_rg s1
  have g5 := zz_rg s2
  have g6 := zz_rg s3
  have g7 := zz_rg s4
  have g8 := zz_rg s10
  have g9 := zz_rg s11
  unfold m_X11_list_N
  have l11 : (0 : Int32).toInt = 0 := rfl
  refine zz_ok_ite (fun c10 => ?_) (fun c10 => ?_)
  · have c10 := Int32.lt_iff_toInt_lt.mp c10
    refine zz_ok_some ?_
    show zz_lsx (("java/lang/IllegalArgumentException")) p1.toInt s0.toInt
    exact (by first | exact Or.inl ⟨rfl, by omega⟩ | exact Or.inr ⟨by omega, by omega, Or.inr ⟨by omega, rfl⟩⟩ | exact Or.inr ⟨by omega, by omega, Or.inl ⟨by omega, by assumption⟩⟩ | (exfalso; omega))
  · have c10 := zz_nlt c10
    have l13 : (44 : Int32).toInt = 44 := rfl
    refine zz_ok_ite (fun c12 => ?_) (fun c12 => ?_)
    · have c12 := Int32.lt_iff_toInt_lt.mp c12
      refine zz_ok_bind (fo_X11_needRoom_N K hK T hT n0 n1 n2 n3 n4 n5 n6 s0 s1 s2 s3 s4 s5 s6 s7 s8 s9 s10 s11 s12 s13) ?_
      intro z14 hz14
      obtain ⟨e_3, t_3_0, t_3_1, t_3_2, t_3_3, t_3_4, t_3_5, t_3_6, t_3_7, t_3_8, t_3_9, t_3_10, t_3_11, t_3_12, t_3_13⟩ := z14
      have q15 : zz_eis e_3 := hz14.1
      have q16 : t_3_0 = s0 := hz14.2.1
      have q17 : t_3_1 = s1 := hz14.2.2.1
      have q18 : t_3_2 = s2 := hz14.2.2.2.1
      have q19 : t_3_3 = s3 := hz14.2.2.2.2.1
      have q20 : t_3_4 = s4 := hz14.2.2.2.2.2.1
      have q21 : t_3_5 = s5 := hz14.2.2.2.2.2.2.1
      have q22 : t_3_6 = s6 := hz14.2.2.2.2.2.2.2.1
      have q23 : t_3_7 = s7 := hz14.2.2.2.2.2.2.2.2.1
      have q24 : t_3_8 = s8 := hz14.2.2.2.2.2.2.2.2.2.1
      have q25 : t_3_9 = s9 := hz14.2.2.2.2.2.2.2.2.2.2.1
      have q26 : t_3_10 = s10 := hz14.2.2.2.2.2.2.2.2.2.2.2.1
      have q27 : t_3_11 = s11 := hz14.2.2.2.2.2.2.2.2.2.2.2.2.1
      have q28 : t_3_12 = s12 := hz14.2.2.2.2.2.2.2.2.2.2.2.2.2.1
      have q29 : t_3_13 = s13 := hz14.2.2.2.2.2.2.2.2.2.2.2.2.2.2
      clear hz14
      have e30 : s0 = t_3_0 := q16.symm
      subst e30
      have e31 : s1 = t_3_1 := q17.symm
      subst e31
      have e32 : s2 = t_3_2 := q18.symm
      subst e32
      have e33 : s3 = t_3_3 := q19.symm
      subst e33
      have e34 : s4 = t_3_4 := q20.symm
      subst e34
      have e35 : s5 = t_3_5 := q21.symm
      subst e35
      have e36 : s6 = t_3_6 := q22.symm
      subst e36
      have e37 : s7 = t_3_7 := q23.symm
      subst e37
      have e38 : s8 = t_3_8 := q24.symm
      subst e38
      have e39 : s9 = t_3_9 := q25.symm
      subst e39
      have e40 : s10 = t_3_10 := q26.symm
      subst e40
      have e41 : s11 = t_3_11 := q27.symm
      subst e41
      have e42 : s12 = t_3_12 := q28.symm
      subst e42
      have e43 : s13 = t_3_13 := q29.symm
      subst e43
      show zz_ok (if ¬ e_3 = "" then (some (e_3, 0, s0, s1, s2, s3, s4, s5, s6, s7, s8, s9, s10, s11, s12, s13)) else none) _
      refine zz_ok_chk (fun h9 => absurd (Eq.symm q15 |>.trans h9) (by decide)) ?_
      refine zz_ok_some ?_
      show zz_lsx (e_3) p1.toInt s0.toInt
      exact (by first | exact Or.inl ⟨rfl, by omega⟩ | exact Or.inr ⟨by omega, by omega, Or.inr ⟨by omega, rfl⟩⟩ | exact Or.inr ⟨by omega, by omega, Or.inl ⟨by omega, by assumption⟩⟩ | (exfalso; omega))
    · have c12 := zz_nlt c12
      refine zz_ok_some ?_
      show zz_lsx (("java/lang/IllegalArgumentException")) p1.toInt s0.toInt
      exact (by first | exact Or.inl ⟨rfl, by omega⟩ | exact Or.inr ⟨by omega, by omega, Or.inr ⟨by omega, rfl⟩⟩ | exact Or.inr ⟨by omega, by omega, Or.inl ⟨by omega, by assumption⟩⟩ | (exfalso; omega))
set_option maxHeartbeats 4000000 in
theorem fo_X11_needRoom_X0 (K : Nat) (hK : 1099511627776 ≤ K) (T : Nat) (hT : T ≤ 900) (n0 : Nat) (n1 : Nat) (n2 : Nat) (n3 : Nat) (n4 : Nat) (n5 : Nat) (n6 : Nat) (k0 : Int32) (s0 : Int32) (s1 : Int32) (s2 : Int32) (s3 : Int32) (s4 : Int32) (s5 : Nat → Int32) (s6 : Nat → Int32) (s7 : Nat → Int32) (s8 : Nat → Int32) (s9 : Nat → Int32) (s10 : Int32) (s11 : Int32) (s12 : Nat → Int32) (s13 : Nat → Int32) (s14 : Int32) : zz_ok (m_X11_needRoom_X0 K n0 n1 n2 n3 n4 n5 n6 k0 s0 s1 s2 s3 s4 s5 s6 s7 s8 s9 s10 s11 s12 s13 s14) (fun z => zz_em z.1 ∧ z.2.1 = s0 ∧ z.2.2.1 = s1 ∧ z.2.2.2.1 = s2 ∧ z.2.2.2.2.1 = s3 ∧ z.2.2.2.2.2.1 = s4 ∧ z.2.2.2.2.2.2.1 = s5 ∧ z.2.2.2.2.2.2.2.1 = s6 ∧ z.2.2.2.2.2.2.2.2.1 = s7 ∧ z.2.2.2.2.2.2.2.2.2.1 = s8 ∧ z.2.2.2.2.2.2.2.2.2.2.1 = s9 ∧ z.2.2.2.2.2.2.2.2.2.2.2.1 = s10 ∧ z.2.2.2.2.2.2.2.2.2.2.2.2.1 = s11 ∧ z.2.2.2.2.2.2.2.2.2.2.2.2.2.1 = s12 ∧ z.2.2.2.2.2.2.2.2.2.2.2.2.2.2.1 = s13 ∧ z.2.2.2.2.2.2.2.2.2.2.2.2.2.2.2 = s14) := by
  have g1 := zz_rg k0
  have g2 := zz_rg s0
  have g3 := zz_rg s1
  have g4 := zz_rg s2
  have g5 := zz_rg s3
  have g6 := zz_rg s4
  have g7 := zz_rg s10
  have g8 := zz_rg s11
  have g9 := zz_rg s14
  unfold m_X11_needRoom_X0
  refine zz_ok_some ?_
  show zz_em ("") ∧ s0 = s0 ∧ s1 = s1 ∧ s2 = s2 ∧ s3 = s3 ∧ s4 = s4 ∧ s5 = s5 ∧ s6 = s6 ∧ s7 = s7 ∧ s8 = s8 ∧ s9 = s9 ∧ s10 = s10 ∧ s11 = s11 ∧ s12 = s12 ∧ s13 = s13 ∧ s14 = s14
  exact ⟨(by exact rfl), rfl, rfl, rfl, rfl, rfl, rfl, rfl, rfl, rfl, rfl, rfl, rfl, rfl, rfl, rfl⟩
set_option maxHeartbeats 4000000 in
theorem fo_X11_list_X0 (K : Nat) (hK : 1099511627776 ≤ K) (T : Nat) (hT : T ≤ 900) (n0 : Nat) (n1 : Nat) (n2 : Nat) (n3 : Nat) (n4 : Nat) (n5 : Nat) (n6 : Nat) (k0 : Int32) (p1 : Int32) (p2 : Int32) (s0 : Int32) (s1 : Int32) (s2 : Int32) (s3 : Int32) (s4 : Int32) (s5 : Nat → Int32) (s6 : Nat → Int32) (s7 : Nat → Int32) (s8 : Nat → Int32) (s9 : Nat → Int32) (s10 : Int32) (s11 : Int32) (s12 : Nat → Int32) (s13 : Nat → Int32) (s14 : Int32) (a0 : n0 = 1024) (a1 : n1 = 200) (a2 : n2 = 200) (a3 : n3 = 200) (a4 : n4 = 200) (a5 : n5 = 512) (a6 : n6 = 512) (a7 : 0 ≤ s1.toInt) (a8 : s1.toInt ≤ 1024) (a9 : 0 ≤ s2.toInt) (a10 : s2.toInt ≤ 200) (a11 : 0 ≤ s10.toInt) (a12 : s10.toInt ≤ 512) (a13 : (s0.toInt ≠ 7 ∧ s0.toInt ≠ -1)) : zz_ok (m_X11_list_X0 K n0 n1 n2 n3 n4 n5 n6 k0 p1 p2 s0 s1 s2 s3 s4 s5 s6 s7 s8 s9 s10 s11 s12 s13 s14) (fun z => zz_lsx (z.1) p1.toInt s0.toInt) := by
  have g1 := zz_rg k0
  have g2 := zz_rg p1
  have g3 := zz_rg p2
  have g4 := zz_rg s0
  have g5 := zz_rg s1
  have g6 := zz_rg s2
  have g7 := zz_rg s3
  have g8 := zz_rg s4
  have g9 := zz_rg s10
  have g10 := zz_rg s11
  have g11 := zz_rg s14
  unfold m_X11_list_X0
  have l13 : (0 : Int32).toInt = 0 := rfl
  refine zz_ok_ite (fun c12 => ?_) (fun c12 => ?_)
  · have c12 := Int32.lt_iff_toInt_lt.mp c12
    refine zz_ok_some ?_
    show zz_lsx (("java/lang/IllegalArgumentException")) p1.toInt s0.toInt
    exact (by first | exact Or.inl ⟨rfl, by omega⟩ | exact Or.inr ⟨by omega, by omega, Or.inr ⟨by omega, rfl⟩⟩ | exact Or.inr ⟨by omega, by omega, Or.inl ⟨by omega, by assumption⟩⟩ | (exfalso; omega))
  · have c12 := zz_nlt c12
    have l15 : (44 : Int32).toInt = 44 := rfl
    refine zz_ok_ite (fun c14 => ?_) (fun c14 => ?_)
    · have c14 := Int32.lt_iff_toInt_lt.mp c14
      refine zz_ok_bind (fo_X11_needRoom_X0 K hK T hT n0 n1 n2 n3 n4 n5 n6 k0 s0 s1 s2 s3 s4 s5 s6 s7 s8 s9 s10 s11 s12 s13 s14) ?_
      intro z16 hz16
      obtain ⟨e_3, t_3_0, t_3_1, t_3_2, t_3_3, t_3_4, t_3_5, t_3_6, t_3_7, t_3_8, t_3_9, t_3_10, t_3_11, t_3_12, t_3_13, t_3_14⟩ := z16
      have q17 : zz_em e_3 := hz16.1
      have q18 : t_3_0 = s0 := hz16.2.1
      have q19 : t_3_1 = s1 := hz16.2.2.1
      have q20 : t_3_2 = s2 := hz16.2.2.2.1
      have q21 : t_3_3 = s3 := hz16.2.2.2.2.1
      have q22 : t_3_4 = s4 := hz16.2.2.2.2.2.1
      have q23 : t_3_5 = s5 := hz16.2.2.2.2.2.2.1
      have q24 : t_3_6 = s6 := hz16.2.2.2.2.2.2.2.1
      have q25 : t_3_7 = s7 := hz16.2.2.2.2.2.2.2.2.1
      have q26 : t_3_8 = s8 := hz16.2.2.2.2.2.2.2.2.2.1
      have q27 : t_3_9 = s9 := hz16.2.2.2.2.2.2.2.2.2.2.1
      have q28 : t_3_10 = s10 := hz16.2.2.2.2.2.2.2.2.2.2.2.1
      have q29 : t_3_11 = s11 := hz16.2.2.2.2.2.2.2.2.2.2.2.2.1
      have q30 : t_3_12 = s12 := hz16.2.2.2.2.2.2.2.2.2.2.2.2.2.1
      have q31 : t_3_13 = s13 := hz16.2.2.2.2.2.2.2.2.2.2.2.2.2.2.1
      have q32 : t_3_14 = s14 := hz16.2.2.2.2.2.2.2.2.2.2.2.2.2.2.2
      clear hz16
      have e33 : s0 = t_3_0 := q18.symm
      subst e33
      have e34 : s1 = t_3_1 := q19.symm
      subst e34
      have e35 : s2 = t_3_2 := q20.symm
      subst e35
      have e36 : s3 = t_3_3 := q21.symm
      subst e36
      have e37 : s4 = t_3_4 := q22.symm
      subst e37
      have e38 : s5 = t_3_5 := q23.symm
      subst e38
      have e39 : s6 = t_3_6 := q24.symm
      subst e39
      have e40 : s7 = t_3_7 := q25.symm
      subst e40
      have e41 : s8 = t_3_8 := q26.symm
      subst e41
      have e42 : s9 = t_3_9 := q27.symm
      subst e42
      have e43 : s10 = t_3_10 := q28.symm
      subst e43
      have e44 : s11 = t_3_11 := q29.symm
      subst e44
      have e45 : s12 = t_3_12 := q30.symm
      subst e45
      have e46 : s13 = t_3_13 := q31.symm
      subst e46
      have e47 : s14 = t_3_14 := q32.symm
      subst e47
      show zz_ok (if e_3 = "" then (if s0 = ((7 : Int32)) then ((m_X1_placeInList K p1 p2).bind fun ⟨r_5, _⟩ => if r_5 = ((-1 : Int32)) then (some ("java/lang/IndexOutOfBoundsException", 0, s0, s1, s2, s3, s4, s5, s6, s7, s8, s9, s10, s11, s12, s13, s14)) else (some ("", r_5, s0, s1, s2, s3, s4, s5, s6, s7, s8, s9, s10, s11, s12, s13, s14))) else (some ("java/lang/UnsupportedOperationException", 0, s0, s1, s2, s3, s4, s5, s6, s7, s8, s9, s10, s11, s12, s13, s14))) else (some (e_3, 0, s0, s1, s2, s3, s4, s5, s6, s7, s8, s9, s10, s11, s12, s13, s14))) _
      refine zz_ok_ite (fun c48 => ?_) (fun c48 => absurd q17 c48)
      have l50 : (7 : Int32).toInt = 7 := rfl
      refine zz_ok_ite (fun c49 => ?_) (fun c49 => ?_)
      · have c49 := congrArg Int32.toInt c49
        refine zz_ok_bind (s_X1_placeInList K hK p1 p2) ?_
        intro z51 hz51
        obtain ⟨r_5, _⟩ := z51
        clear hz51
        have g52 := zz_rg r_5
        show zz_ok (if r_5 = ((-1 : Int32)) then (some ("java/lang/IndexOutOfBoundsException", 0, s0, s1, s2, s3, s4, s5, s6, s7, s8, s9, s10, s11, s12, s13, s14)) else (some ("", r_5, s0, s1, s2, s3, s4, s5, s6, s7, s8, s9, s10, s11, s12, s13, s14))) _
        have l54 : (-1 : Int32).toInt = -1 := rfl
        refine zz_ok_ite (fun c53 => ?_) (fun c53 => ?_)
        · have c53 := congrArg Int32.toInt c53
          refine zz_ok_some ?_
          show zz_lsx (("java/lang/IndexOutOfBoundsException")) p1.toInt s0.toInt
          exact (by first | exact Or.inl ⟨rfl, by omega⟩ | exact Or.inr ⟨by omega, by omega, Or.inr ⟨by omega, rfl⟩⟩ | exact Or.inr ⟨by omega, by omega, Or.inl ⟨by omega, by assumption⟩⟩ | (exfalso; omega))
        · have c53 := zz_neq c53
          refine zz_ok_some ?_
          show zz_lsx (("")) p1.toInt s0.toInt
          exact (by first | exact Or.inl ⟨rfl, by omega⟩ | exact Or.inr ⟨by omega, by omega, Or.inr ⟨by omega, rfl⟩⟩ | exact Or.inr ⟨by omega, by omega, Or.inl ⟨by omega, by assumption⟩⟩ | (exfalso; omega))
      · have c49 := zz_neq c49
        refine zz_ok_some ?_
        show zz_lsx (("java/lang/UnsupportedOperationException")) p1.toInt s0.toInt
        exact (by first | exact Or.inl ⟨rfl, by omega⟩ | exact Or.inr ⟨by omega, by omega, Or.inr ⟨by omega, rfl⟩⟩ | exact Or.inr ⟨by omega, by omega, Or.inl ⟨by omega, by assumption⟩⟩ | (exfalso; omega))
    · have c14 := zz_nlt c14
      refine zz_ok_some ?_
      show zz_lsx (("java/lang/IllegalArgumentException")) p1.toInt s0.toInt
      exact (by first | exact Or.inl ⟨rfl, by omega⟩ | exact Or.inr ⟨by omega, by omega, Or.inr ⟨by omega, rfl⟩⟩ | exact Or.inr ⟨by omega, by omega, Or.inl ⟨by omega, by assumption⟩⟩ | (exfalso; omega))
set_option maxHeartbeats 4000000 in
theorem fo_X11_needRoom_X2 (K : Nat) (hK : 1099511627776 ≤ K) (T : Nat) (hT : T ≤ 900) (n0 : Nat) (n1 : Nat) (n2 : Nat) (n3 : Nat) (n4 : Nat) (n5 : Nat) (n6 : Nat) (s0 : Int32) (s1 : Int32) (s2 : Int32) (s3 : Int32) (s4 : Int32) (s5 : Nat → Int32) (s6 : Nat → Int32) (s7 : Nat → Int32) (s8 : Nat → Int32) (s9 : Nat → Int32) (s10 : Int32) (s11 : Int32) (s12 : Nat → Int32) (s13 : Nat → Int32) (s14 : Int32) : zz_ok (m_X11_needRoom_X2 K n0 n1 n2 n3 n4 n5 n6 s0 s1 s2 s3 s4 s5 s6 s7 s8 s9 s10 s11 s12 s13 s14) (fun z => zz_em z.1 ∧ z.2.1 = s0 ∧ z.2.2.1 = s1 ∧ z.2.2.2.1 = s2 ∧ z.2.2.2.2.1 = s3 ∧ z.2.2.2.2.2.1 = s4 ∧ z.2.2.2.2.2.2.1 = s5 ∧ z.2.2.2.2.2.2.2.1 = s6 ∧ z.2.2.2.2.2.2.2.2.1 = s7 ∧ z.2.2.2.2.2.2.2.2.2.1 = s8 ∧ z.2.2.2.2.2.2.2.2.2.2.1 = s9 ∧ z.2.2.2.2.2.2.2.2.2.2.2.1 = s10 ∧ z.2.2.2.2.2.2.2.2.2.2.2.2.1 = s11 ∧ z.2.2.2.2.2.2.2.2.2.2.2.2.2.1 = s12 ∧ z.2.2.2.2.2.2.2.2.2.2.2.2.2.2.1 = s13 ∧ z.2.2.2.2.2.2.2.2.2.2.2.2.2.2.2 = s14) := by
  have g1 := zz_rg s0
  have g2 := zz_rg s1
  have g3 := zz_rg s2
  have g4 := zz_rg s3
  have g5 := zz_rg s4
  have g6 := zz_rg s10
  have g7 := zz_rg s11
  have g8 := zz_rg s14
  unfold m_X11_needRoom_X2
  refine zz_ok_some ?_
  show zz_em ("") ∧ s0 = s0 ∧ s1 = s1 ∧ s2 = s2 ∧ s3 = s3 ∧ s4 = s4 ∧ s5 = s5 ∧ s6 = s6 ∧ s7 = s7 ∧ s8 = s8 ∧ s9 = s9 ∧ s10 = s10 ∧ s11 = s11 ∧ s12 = s12 ∧ s13 = s13 ∧ s14 = s14
  exact ⟨(by exact rfl), rfl, rfl, rfl, rfl, rfl, rfl, rfl, rfl, rfl, rfl, rfl, rfl, rfl, rfl, rfl⟩
set_option maxHeartbeats 4000000 in
theorem fo_X11_list_X2 (K : Nat) (hK : 1099511627776 ≤ K) (T : Nat) (hT : T ≤ 900) (n0 : Nat) (n1 : Nat) (n2 : Nat) (n3 : Nat) (n4 : Nat) (n5 : Nat) (n6 : Nat) (p1 : Int32) (p2 : Int32) (s0 : Int32) (s1 : Int32) (s2 : Int32) (s3 : Int32) (s4 : Int32) (s5 : Nat → Int32) (s6 : Nat → Int32) (s7 : Nat → Int32) (s8 : Nat → Int32) (s9 : Nat → Int32) (s10 : Int32) (s11 : Int32) (s12 : Nat → Int32) (s13 : Nat → Int32) (s14 : Int32) (a0 : n0 = 1024) (a1 : n1 = 200) (a2 : n2 = 200) (a3 : n3 = 200) (a4 : n4 = 200) (a5 : n5 = 512) (a6 : n6 = 512) (a7 : 0 ≤ s1.toInt) (a8 : s1.toInt ≤ 1024) (a9 : 0 ≤ s2.toInt) (a10 : s2.toInt ≤ 200) (a11 : 0 ≤ s10.toInt) (a12 : s10.toInt ≤ 512) (a13 : 0 ≤ s14.toInt) (a14 : s14.toInt ≤ 1024) (a15 : (s0.toInt ≠ 7 ∧ s0.toInt ≠ -1)) : zz_ok (m_X11_list_X2 K n0 n1 n2 n3 n4 n5 n6 p1 p2 s0 s1 s2 s3 s4 s5 s6 s7 s8 s9 s10 s11 s12 s13 s14) (fun z => zz_lsx (z.1) p1.toInt s0.toInt) := by
  have g1 := zz_rg p1
  have g2 := zz_rg p2
  have g3 := zz_rg s0
  have g4 := zz_rg s1
  have g5 := zz_rg s2
  have g6 := zz_rg s3
  have g7 := zz_rg s4
  have g8 := zz_rg s10
  have g9 := zz_rg s11
  have g10 := zz_rg s14
  unfold m_X11_list_X2
  have l12 : (0 : Int32).toInt = 0 := rfl
  refine zz_ok_ite (fun c11 => ?_) (fun c11 => ?_)
  · have c11 := Int32.lt_iff_toInt_lt.mp c11
    refine zz_ok_some ?_
    show zz_lsx (("java/lang/IllegalArgumentException")) p1.toInt s0.toInt
    exact (by first | exact Or.inl ⟨rfl, by omega⟩ | exact Or.inr ⟨by omega, by omega, Or.inr ⟨by omega, rfl⟩⟩ | exact Or.inr ⟨by omega, by omega, Or.inl ⟨by omega, by assumption⟩⟩ | (exfalso; omega))
  · have c11 := zz_nlt c11
    have l14 : (44 : Int32).toInt = 44 := rfl
    refine zz_ok_ite (fun c13 => ?_) (fun c13 => ?_)
    · have c13 := Int32.lt_iff_toInt_lt.mp c13
      refine zz_ok_bind (fo_X11_needRoom_X2 K hK T hT n0 n1 n2 n3 n4 n5 n6 s0 s1 s2 s3 s4 s5 s6 s7 s8 s9 s10 s11 s12 s13 s14) ?_
      intro z15 hz15
      obtain ⟨e_3, t_3_0, t_3_1, t_3_2, t_3_3, t_3_4, t_3_5, t_3_6, t_3_7, t_3_8, t_3_9, t_3_10, t_3_11, t_3_12, t_3_13, t_3_14⟩ := z15
      have q16 : zz_em e_3 := hz15.1
      have q17 : t_3_0 = s0 := hz15.2.1
      have q18 : t_3_1 = s1 := hz15.2.2.1
      have q19 : t_3_2 = s2 := hz15.2.2.2.1
      have q20 : t_3_3 = s3 := hz15.2.2.2.2.1
      have q21 : t_3_4 = s4 := hz15.2.2.2.2.2.1
      have q22 : t_3_5 = s5 := hz15.2.2.2.2.2.2.1
      have q23 : t_3_6 = s6 := hz15.2.2.2.2.2.2.2.1
      have q24 : t_3_7 = s7 := hz15.2.2.2.2.2.2.2.2.1
      have q25 : t_3_8 = s8 := hz15.2.2.2.2.2.2.2.2.2.1
      have q26 : t_3_9 = s9 := hz15.2.2.2.2.2.2.2.2.2.2.1
      have q27 : t_3_10 = s10 := hz15.2.2.2.2.2.2.2.2.2.2.2.1
      have q28 : t_3_11 = s11 := hz15.2.2.2.2.2.2.2.2.2.2.2.2.1
      have q29 : t_3_12 = s12 := hz15.2.2.2.2.2.2.2.2.2.2.2.2.2.1
      have q30 : t_3_13 = s13 := hz15.2.2.2.2.2.2.2.2.2.2.2.2.2.2.1
      have q31 : t_3_14 = s14 := hz15.2.2.2.2.2.2.2.2.2.2.2.2.2.2.2
      clear hz15
      have e32 : s0 = t_3_0 := q17.symm
      subst e32
      have e33 : s1 = t_3_1 := q18.symm
      subst e33
      have e34 : s2 = t_3_2 := q19.symm
      subst e34
      have e35 : s3 = t_3_3 := q20.symm
      subst e35
      have e36 : s4 = t_3_4 := q21.symm
      subst e36
      have e37 : s5 = t_3_5 := q22.symm
      subst e37
      have e38 : s6 = t_3_6 := q23.symm
      subst e38
      have e39 : s7 = t_3_7 := q24.symm
      subst e39
      have e40 : s8 = t_3_8 := q25.symm
      subst e40
      have e41 : s9 = t_3_9 := q26.symm
      subst e41
      have e42 : s10 = t_3_10 := q27.symm
      subst e42
      have e43 : s11 = t_3_11 := q28.symm
      subst e43
      have e44 : s12 = t_3_12 := q29.symm
      subst e44
      have e45 : s13 = t_3_13 := q30.symm
      subst e45
      have e46 : s14 = t_3_14 := q31.symm
      subst e46
      show zz_ok (if e_3 = "" then (if s0 = ((7 : Int32)) then ((m_X1_placeInList K p1 p2).bind fun ⟨r_5, _⟩ => if r_5 = ((-1 : Int32)) then (some ("java/lang/IndexOutOfBoundsException", 0, s0, s1, s2, s3, s4, s5, s6, s7, s8, s9, s10, s11, s12, s13, s14)) else (some ("", r_5, s0, s1, s2, s3, s4, s5, s6, s7, s8, s9, s10, s11, s12, s13, s14))) else (some ("java/lang/UnsupportedOperationException", 0, s0, s1, s2, s3, s4, s5, s6, s7, s8, s9, s10, s11, s12, s13, s14))) else (some (e_3, 0, s0, s1, s2, s3, s4, s5, s6, s7, s8, s9, s10, s11, s12, s13, s14))) _
      refine zz_ok_ite (fun c47 => ?_) (fun c47 => absurd q16 c47)
      have l49 : (7 : Int32).toInt = 7 := rfl
      refine zz_ok_ite (fun c48 => ?_) (fun c48 => ?_)
      · have c48 := congrArg Int32.toInt c48
        refine zz_ok_bind (s_X1_placeInList K hK p1 p2) ?_
        intro z50 hz50
        obtain ⟨r_5, _⟩ := z50
        clear hz50
        have g51 := zz_rg r_5
        show zz_ok (if r_5 = ((-1 : Int32)) then (some ("java/lang/IndexOutOfBoundsException", 0, s0, s1, s2, s3, s4, s5, s6, s7, s8, s9, s10, s11, s12, s13, s14)) else (some ("", r_5, s0, s1, s2, s3, s4, s5, s6, s7, s8, s9, s10, s11, s12, s13, s14))) _
        have l53 : (-1 : Int32).toInt = -1 := rfl
        refine zz_ok_ite (fun c52 => ?_) (fun c52 => ?_)
        · have c52 := congrArg Int32.toInt c52
          refine zz_ok_some ?_
          show zz_lsx (("java/lang/IndexOutOfBoundsException")) p1.toInt s0.toInt
          exact (by first | exact Or.inl ⟨rfl, by omega⟩ | exact Or.inr ⟨by omega, by omega, Or.inr ⟨by omega, rfl⟩⟩ | exact Or.inr ⟨by omega, by omega, Or.inl ⟨by omega, by assumption⟩⟩ | (exfalso; omega))
        · have c52 := zz_neq c52
          refine zz_ok_some ?_
          show zz_lsx (("")) p1.toInt s0.toInt
          exact (by first | exact Or.inl ⟨rfl, by omega⟩ | exact Or.inr ⟨by omega, by omega, Or.inr ⟨by omega, rfl⟩⟩ | exact Or.inr ⟨by omega, by omega, Or.inl ⟨by omega, by assumption⟩⟩ | (exfalso; omega))
      · have c48 := zz_neq c48
        refine zz_ok_some ?_
        show zz_lsx (("java/lang/UnsupportedOperationException")) p1.toInt s0.toInt
        exact (by first | exact Or.inl ⟨rfl, by omega⟩ | exact Or.inr ⟨by omega, by omega, Or.inr ⟨by omega, rfl⟩⟩ | exact Or.inr ⟨by omega, by omega, Or.inl ⟨by omega, by assumption⟩⟩ | (exfalso; omega))
    · have c13 := zz_nlt c13
      refine zz_ok_some ?_
      show zz_lsx (("java/lang/IllegalArgumentException")) p1.toInt s0.toInt
      exact (by first | exact Or.inl ⟨rfl, by omega⟩ | exact Or.inr ⟨by omega, by omega, Or.inr ⟨by omega, rfl⟩⟩ | exact Or.inr ⟨by omega, by omega, Or.inl ⟨by omega, by assumption⟩⟩ | (exfalso; omega))
set_option maxHeartbeats 4000000 in
theorem fo_X11_needRoom_X3 (K : Nat) (hK : 1099511627776 ≤ K) (T : Nat) (hT : T ≤ 900) (n0 : Nat) (n1 : Nat) (n2 : Nat) (n3 : Nat) (n4 : Nat) (n5 : Nat) (n6 : Nat) (n7 : Nat) (s0 : Int32) (s1 : Int32) (s2 : Int32) (s3 : Int32) (s4 : Int32) (s5 : Nat → Int32) (s6 : Nat → Int32) (s7 : Nat → Int32) (s8 : Nat → Int32) (s9 : Nat → Int32) (s10 : Int32) (s11 : Int32) (s12 : Nat → Int32) (s13 : Nat → Int32) (s14 : Int32) (s15 : Nat → Int32) : zz_ok (m_X11_needRoom_X3 K n0 n1 n2 n3 n4 n5 n6 n7 s0 s1 s2 s3 s4 s5 s6 s7 s8 s9 s10 s11 s12 s13 s14 s15) (fun z => zz_em z.1 ∧ z.2.1 = s0 ∧ z.2.2.1 = s1 ∧ z.2.2.2.1 = s2 ∧ z.2.2.2.2.1 = s3 ∧ z.2.2.2.2.2.1 = s4 ∧ z.2.2.2.2.2.2.1 = s5 ∧ z.2.2.2.2.2.2.2.1 = s6 ∧ z.2.2.2.2.2.2.2.2.1 = s7 ∧ z.2.2.2.2.2.2.2.2.2.1 = s8 ∧ z.2.2.2.2.2.2.2.2.2.2.1 = s9 ∧ z.2.2.2.2.2.2.2.2.2.2.2.1 = s10 ∧ z.2.2.2.2.2.2.2.2.2.2.2.2.1 = s11 ∧ z.2.2.2.2.2.2.2.2.2.2.2.2.2.1 = s12 ∧ z.2.2.2.2.2.2.2.2.2.2.2.2.2.2.1 = s13 ∧ z.2.2.2.2.2.2.2.2.2.2.2.2.2.2.2.1 = s14 ∧ z.2.2.2.2.2.2.2.2.2.2.2.2.2.2.2.2 = s15) := by
  have g1 := zz_rg s0
  have g2 := zz_rg s1
  have g3 := zz_rg s2
  have g4 := zz_rg s3
  have g5 := zz_rg s4
  have g6 := zz_rg s10
  have g7 := zz_rg s11
  have g8 := zz_rg s14
  unfold m_X11_needRoom_X3
  refine zz_ok_some ?_
  show zz_em ("") ∧ s0 = s0 ∧ s1 = s1 ∧ s2 = s2 ∧ s3 = s3 ∧ s4 = s4 ∧ s5 = s5 ∧ s6 = s6 ∧ s7 = s7 ∧ s8 = s8 ∧ s9 = s9 ∧ s10 = s10 ∧ s11 = s11 ∧ s12 = s12 ∧ s13 = s13 ∧ s14 = s14 ∧ s15 = s15
  exact ⟨(by exact rfl), rfl, rfl, rfl, rfl, rfl, rfl, rfl, rfl, rfl, rfl, rfl, rfl, rfl, rfl, rfl, rfl⟩
set_option maxHeartbeats 4000000 in
theorem fo_X11_list_X3 (K : Nat) (hK : 1099511627776 ≤ K) (T : Nat) (hT : T ≤ 900) (n0 : Nat) (n1 : Nat) (n2 : Nat) (n3 : Nat) (n4 : Nat) (n5 : Nat) (n6 : Nat) (n7 : Nat) (p1 : Int32) (p2 : Int32) (s0 : Int32) (s1 : Int32) (s2 : Int32) (s3 : Int32) (s4 : Int32) (s5 : Nat → Int32) (s6 : Nat → Int32) (s7 : Nat → Int32) (s8 : Nat → Int32) (s9 : Nat → Int32) (s10 : Int32) (s11 : Int32) (s12 : Nat → Int32) (s13 : Nat → Int32) (s14 : Int32) (s15 : Nat → Int32) (a0 : n0 = 1024) (a1 : n1 = 200) (a2 : n2 = 200) (a3 : n3 = 200) (a4 : n4 = 200) (a5 : n5 = 512) (a6 : n6 = 512) (a7 : n7 = 1024) (a8 : 0 ≤ s1.toInt) (a9 : s1.toInt ≤ 1024) (a10 : 0 ≤ s2.toInt) (a11 : s2.toInt ≤ 200) (a12 : 0 ≤ s10.toInt) (a13 : s10.toInt ≤ 512) (a14 : 0 ≤ s14.toInt) (a15 : s14.toInt ≤ 1024) (a16 : (s0.toInt ≠ 7 ∧ s0.toInt ≠ -1)) : zz_ok (m_X11_list_X3 K n0 n1 n2 n3 n4 n5 n6 n7 p1 p2 s0 s1 s2 s3 s4 s5 s6 s7 s8 s9 s10 s11 s12 s13 s14 s15) (fun z => zz_lsx (z.1) p1.toInt s0.toInt) := by
  have g1 := zz_rg p1
  have g2 := zz_rg p2
  have g3 := zz_rg s0
  have g4 := zz_rg s1
  have g5 := zz_rg s2
  have g6 := zz_rg s3
  have g7 := zz_rg s4
  have g8 := zz_rg s10
  have g9 := zz_rg s11
  have g10 := zz_rg s14
  unfold m_X11_list_X3
  have l12 : (0 : Int32).toInt = 0 := rfl
  refine zz_ok_ite (fun c11 => ?_) (fun c11 => ?_)
  · have c11 := Int32.lt_iff_toInt_lt.mp c11
    refine zz_ok_some ?_
    show zz_lsx (("java/lang/IllegalArgumentException")) p1.toInt s0.toInt
    exact (by first | exact Or.inl ⟨rfl, by omega⟩ | exact Or.inr ⟨by omega, by omega, Or.inr ⟨by omega, rfl⟩⟩ | exact Or.inr ⟨by omega, by omega, Or.inl ⟨by omega, by assumption⟩⟩ | (exfalso; omega))
  · have c11 := zz_nlt c11
    have l14 : (44 : Int32).toInt = 44 := rfl
    refine zz_ok_ite (fun c13 => ?_) (fun c13 => ?_)
    · have c13 := Int32.lt_iff_toInt_lt.mp c13
      refine zz_ok_bind (fo_X11_needRoom_X3 K hK T hT n0 n1 n2 n3 n4 n5 n6 n7 s0 s1 s2 s3 s4 s5 s6 s7 s8 s9 s10 s11 s12 s13 s14 s15) ?_
      intro z15 hz15
      obtain ⟨e_3, t_3_0, t_3_1, t_3_2, t_3_3, t_3_4, t_3_5, t_3_6, t_3_7, t_3_8, t_3_9, t_3_10, t_3_11, t_3_12, t_3_13, t_3_14, t_3_15⟩ := z15
      have q16 : zz_em e_3 := hz15.1
      have q17 : t_3_0 = s0 := hz15.2.1
      have q18 : t_3_1 = s1 := hz15.2.2.1
      have q19 : t_3_2 = s2 := hz15.2.2.2.1
      have q20 : t_3_3 = s3 := hz15.2.2.2.2.1
      have q21 : t_3_4 = s4 := hz15.2.2.2.2.2.1
      have q22 : t_3_5 = s5 := hz15.2.2.2.2.2.2.1
      have q23 : t_3_6 = s6 := hz15.2.2.2.2.2.2.2.1
      have q24 : t_3_7 = s7 := hz15.2.2.2.2.2.2.2.2.1
      have q25 : t_3_8 = s8 := hz15.2.2.2.2.2.2.2.2.2.1
      have q26 : t_3_9 = s9 := hz15.2.2.2.2.2.2.2.2.2.2.1
      have q27 : t_3_10 = s10 := hz15.2.2.2.2.2.2.2.2.2.2.2.1
      have q28 : t_3_11 = s11 := hz15.2.2.2.2.2.2.2.2.2.2.2.2.1
      have q29 : t_3_12 = s12 := hz15.2.2.2.2.2.2.2.2.2.2.2.2.2.1
      have q30 : t_3_13 = s13 := hz15.2.2.2.2.2.2.2.2.2.2.2.2.2.2.1
      have q31 : t_3_14 = s14 := hz15.2.2.2.2.2.2.2.2.2.2.2.2.2.2.2.1
      have q32 : t_3_15 = s15 := hz15.2.2.2.2.2.2.2.2.2.2.2.2.2.2.2.2
      clear hz15
      have e33 : s0 = t_3_0 := q17.symm
      subst e33
      have e34 : s1 = t_3_1 := q18.symm
      subst e34
      have e35 : s2 = t_3_2 := q19.symm
      subst e35
      have e36 : s3 = t_3_3 := q20.symm
      subst e36
      have e37 : s4 = t_3_4 := q21.symm
      subst e37
      have e38 : s5 = t_3_5 := q22.symm
      subst e38
      have e39 : s6 = t_3_6 := q23.symm
      subst e39
      have e40 : s7 = t_3_7 := q24.symm
      subst e40
      have e41 : s8 = t_3_8 := q25.symm
      subst e41
      have e42 : s9 = t_3_9 := q26.symm
      subst e42
      have e43 : s10 = t_3_10 := q27.symm
      subst e43
      have e44 : s11 = t_3_11 := q28.symm
      subst e44
      have e45 : s12 = t_3_12 := q29.symm
      subst e45
      have e46 : s13 = t_3_13 := q30.symm
      subst e46
      have e47 : s14 = t_3_14 := q31.symm
      subst e47
      have e48 : s15 = t_3_15 := q32.symm
      subst e48
      show zz_ok (if e_3 = "" then (if s0 = ((7 : Int32)) then ((m_X1_placeInList K p1 p2).bind fun ⟨r_5, _⟩ => if r_5 = ((-1 : Int32)) then (some ("java/lang/IndexOutOfBoundsException", 0, s0, s1, s2, s3, s4, s5, s6, s7, s8, s9, s10, s11, s12, s13, s14, s15)) else (some ("", r_5, s0, s1, s2, s3, s4, s5, s6, s7, s8, s9, s10, s11, s12, s13, s14, s15))) else (some ("java/lang/UnsupportedOperationException", 0, s0, s1, s2, s3, s4, s5, s6, s7, s8, s9, s10, s11, s12, s13, s14, s15))) else (some (e_3, 0, s0, s1, s2, s3, s4, s5, s6, s7, s8, s9, s10, s11, s12, s13, s14, s15))) _
      refine zz_ok_ite (fun c49 => ?_) (fun c49 => absurd q16 c49)
      have l51 : (7 : Int32).toInt = 7 := rfl
      refine zz_ok_ite (fun c50 => ?_) (fun c50 => ?_)
      · have c50 := congrArg Int32.toInt c50
        refine zz_ok_bind (s_X1_placeInList K hK p1 p2) ?_
        intro z52 hz52
        obtain ⟨r_5, _⟩ := z52
        clear hz52
        have g53 := zz_rg r_5
        show zz_ok (if r_5 = ((-1 : Int32)) then (some ("java/lang/IndexOutOfBoundsException", 0, s0, s1, s2, s3, s4, s5, s6, s7, s8, s9, s10, s11, s12, s13, s14, s15)) else (some ("", r_5, s0, s1, s2, s3, s4, s5, s6, s7, s8, s9, s10, s11, s12, s13, s14, s15))) _
        have l55 : (-1 : Int32).toInt = -1 := rfl
        refine zz_ok_ite (fun c54 => ?_) (fun c54 => ?_)
        · have c54 := congrArg Int32.toInt c54
          refine zz_ok_some ?_
          show zz_lsx (("java/lang/IndexOutOfBoundsException")) p1.toInt s0.toInt
          exact (by first | exact Or.inl ⟨rfl, by omega⟩ | exact Or.inr ⟨by omega, by omega, Or.inr ⟨by omega, rfl⟩⟩ | exact Or.inr ⟨by omega, by omega, Or.inl ⟨by omega, by assumption⟩⟩ | (exfalso; omega))
        · have c54 := zz_neq c54
          refine zz_ok_some ?_
          show zz_lsx (("")) p1.toInt s0.toInt
          exact (by first | exact Or.inl ⟨rfl, by omega⟩ | exact Or.inr ⟨by omega, by omega, Or.inr ⟨by omega, rfl⟩⟩ | exact Or.inr ⟨by omega, by omega, Or.inl ⟨by omega, by assumption⟩⟩ | (exfalso; omega))
      · have c50 := zz_neq c50
        refine zz_ok_some ?_
        show zz_lsx (("java/lang/UnsupportedOperationException")) p1.toInt s0.toInt
        exact (by first | exact Or.inl ⟨rfl, by omega⟩ | exact Or.inr ⟨by omega, by omega, Or.inr ⟨by omega, rfl⟩⟩ | exact Or.inr ⟨by omega, by omega, Or.inl ⟨by omega, by assumption⟩⟩ | (exfalso; omega))
    · have c13 := zz_nlt c13
      refine zz_ok_some ?_
      show zz_lsx (("java/lang/IllegalArgumentException")) p1.toInt s0.toInt
      exact (by first | exact Or.inl ⟨rfl, by omega⟩ | exact Or.inr ⟨by omega, by omega, Or.inr ⟨by omega, rfl⟩⟩ | exact Or.inr ⟨by omega, by omega, Or.inl ⟨by omega, by assumption⟩⟩ | (exfalso; omega))
set_option maxHeartbeats 4000000 in
theorem fo_X11_needRoom_X5 (K : Nat) (hK : 1099511627776 ≤ K) (T : Nat) (hT : T ≤ 900) (n0 : Nat) (n1 : Nat) (n2 : Nat) (n3 : Nat) (n4 : Nat) (n5 : Nat) (n6 : Nat) (n7 : Nat) (n8 : Nat) (s0 : Int32) (s1 : Int32) (s2 : Int32) (s3 : Int32) (s4 : Int32) (s5 : Nat → Int32) (s6 : Nat → Int32) (s7 : Nat → Int32) (s8 : Nat → Int32) (s9 : Nat → Int32) (s10 : Int32) (s11 : Int32) (s12 : Nat → Int32) (s13 : Nat → Int32) (s14 : Int32) (s15 : Nat → Int32) (s16 : Nat → Int32) : zz_ok (m_X11_needRoom_X5 K n0 n1 n2 n3 n4 n5 n6 n7 n8 s0 s1 s2 s3 s4 s5 s6 s7 s8 s9 s10 s11 s12 s13 s14 s15 s16) (fun z => zz_em z.1 ∧ z.2.1 = s0 ∧ z.2.2.1 = s1 ∧ z.2.2.2.1 = s2 ∧ z.2.2.2.2.1 = s3 ∧ z.2.2.2.2.2.1 = s4 ∧ z.2.2.2.2.2.2.1 = s5 ∧ z.2.2.2.2.2.2.2.1 = s6 ∧ z.2.2.2.2.2.2.2.2.1 = s7 ∧ z.2.2.2.2.2.2.2.2.2.1 = s8 ∧ z.2.2.2.2.2.2.2.2.2.2.1 = s9 ∧ z.2.2.2.2.2.2.2.2.2.2.2.1 = s10 ∧ z.2.2.2.2.2.2.2.2.2.2.2.2.1 = s11 ∧ z.2.2.2.2.2.2.2.2.2.2.2.2.2.1 = s12 ∧ z.2.2.2.2.2.2.2.2.2.2.2.2.2.2.1 = s13 ∧ z.2.2.2.2.2.2.2.2.2.2.2.2.2.2.2.1 = s14 ∧ z.2.2.2.2.2.2.2.2.2.2.2.2.2.2.2.2.1 = s15 ∧ z.2.2.2.2.2.2.2.2.2.2.2.2.2.2.2.2.2 = s16) := by
  have g1 := zz_rg s0
  have g2 := zz_rg s1
  have g3 := zz_rg s2
  have g4 := zz_rg s3
  have g5 := zz_rg s4
  have g6 := zz_rg s10
  have g7 := zz_rg s11
  have g8 := zz_rg s14
  unfold m_X11_needRoom_X5
  refine zz_ok_some ?_
  show zz_em ("") ∧ s0 = s0 ∧ s1 = s1 ∧ s2 = s2 ∧ s3 = s3 ∧ s4 = s4 ∧ s5 = s5 ∧ s6 = s6 ∧ s7 = s7 ∧ s8 = s8 ∧ s9 = s9 ∧ s10 = s10 ∧ s11 = s11 ∧ s12 = s12 ∧ s13 = s13 ∧ s14 = s14 ∧ s15 = s15 ∧ s16 = s16
  exact ⟨(by exact rfl), rfl, rfl, rfl, rfl, rfl, rfl, rfl, rfl, rfl, rfl, rfl, rfl, rfl, rfl, rfl, rfl, rfl⟩
set_option maxHeartbeats 4000000 in
theorem fo_X11_list_X5 (K : Nat) (hK : 1099511627776 ≤ K) (T : Nat) (hT : T ≤ 900) (n0 : Nat) (n1 : Nat) (n2 : Nat) (n3 : Nat) (n4 : Nat) (n5 : Nat) (n6 : Nat) (n7 : Nat) (n8 : Nat) (p1 : Int32) (p2 : Int32) (s0 : Int32) (s1 : Int32) (s2 : Int32) (s3 : Int32) (s4 : Int32) (s5 : Nat → Int32) (s6 : Nat → Int32) (s7 : Nat → Int32) (s8 : Nat → Int32) (s9 : Nat → Int32) (s10 : Int32) (s11 : Int32) (s12 : Nat → Int32) (s13 : Nat → Int32) (s14 : Int32) (s15 : Nat → Int32) (s16 : Nat → Int32) (a0 : n0 = 1024) (a1 : n1 = 200) (a2 : n2 = 200) (a3 : n3 = 200) (a4 : n4 = 200) (a5 : n5 = 512) (a6 : n6 = 512) (a7 : n7 = 32) (a8 : n8 = 32) (a9 : 0 ≤ s1.toInt) (a10 : s1.toInt ≤ 1024) (a11 : 0 ≤ s2.toInt) (a12 : s2.toInt ≤ 200) (a13 : 0 ≤ s10.toInt) (a14 : s10.toInt ≤ 512) (a15 : 0 ≤ s14.toInt) (a16 : s14.toInt ≤ 32) (a17 : (s0.toInt ≠ 7 ∧ s0.toInt ≠ -1)) : zz_ok (m_X11_list_X5 K n0 n1 n2 n3 n4 n5 n6 n7 n8 p1 p2 s0 s1 s2 s3 s4 s5 s6 s7 s8 s9 s10 s11 s12 s13 s14 s15 s16) (fun z => zz_lsx (z.1) p1.toInt s0.toInt) := by
  have g1 := zz_rg p1
  have g2 := zz_rg p2
  have g3 := zz_rg s0
  have g4 := zz_rg s1
  have g5 := zz_rg s2
  have g6 := zz_rg s3
  have g7 := zz_rg s4
  have g8 := zz_rg s10
  have g9 := zz_rg s11
  have g10 := zz_rg s14
  unfold m_X11_list_X5
  have l12 : (0 : Int32).toInt = 0 := rfl
  refine zz_ok_ite (fun c11 => ?_) (fun c11 => ?_)
  · have c11 := Int32.lt_iff_toInt_lt.mp c11
    refine zz_ok_some ?_
    show zz_lsx (("java/lang/IllegalArgumentException")) p1.toInt s0.toInt
    exact (by first | exact Or.inl ⟨rfl, by omega⟩ | exact Or.inr ⟨by omega, by omega, Or.inr ⟨by omega, rfl⟩⟩ | exact Or.inr ⟨by omega, by omega, Or.inl ⟨by omega, by assumption⟩⟩ | (exfalso; omega))
  · have c11 := zz_nlt c11
    have l14 : (44 : Int32).toInt = 44 := rfl
    refine zz_ok_ite (fun c13 => ?_) (fun c13 => ?_)
    · have c13 := Int32.lt_iff_toInt_lt.mp c13
      refine zz_ok_bind (fo_X11_needRoom_X5 K hK T hT n0 n1 n2 n3 n4 n5 n6 n7 n8 s0 s1 s2 s3 s4 s5 s6 s7 s8 s9 s10 s11 s12 s13 s14 s15 s16) ?_
      intro z15 hz15
      obtain ⟨e_3, t_3_0, t_3_1, t_3_2, t_3_3, t_3_4, t_3_5, t_3_6, t_3_7, t_3_8, t_3_9, t_3_10, t_3_11, t_3_12, t_3_13, t_3_14, t_3_15, t_3_16⟩ := z15
      have q16 : zz_em e_3 := hz15.1
      have q17 : t_3_0 = s0 := hz15.2.1
      have q18 : t_3_1 = s1 := hz15.2.2.1
      have q19 : t_3_2 = s2 := hz15.2.2.2.1
      have q20 : t_3_3 = s3 := hz15.2.2.2.2.1
      have q21 : t_3_4 = s4 := hz15.2.2.2.2.2.1
      have q22 : t_3_5 = s5 := hz15.2.2.2.2.2.2.1
      have q23 : t_3_6 = s6 := hz15.2.2.2.2.2.2.2.1
      have q24 : t_3_7 = s7 := hz15.2.2.2.2.2.2.2.2.1
      have q25 : t_3_8 = s8 := hz15.2.2.2.2.2.2.2.2.2.1
      have q26 : t_3_9 = s9 := hz15.2.2.2.2.2.2.2.2.2.2.1
      have q27 : t_3_10 = s10 := hz15.2.2.2.2.2.2.2.2.2.2.2.1
      have q28 : t_3_11 = s11 := hz15.2.2.2.2.2.2.2.2.2.2.2.2.1
      have q29 : t_3_12 = s12 := hz15.2.2.2.2.2.2.2.2.2.2.2.2.2.1
      have q30 : t_3_13 = s13 := hz15.2.2.2.2.2.2.2.2.2.2.2.2.2.2.1
      have q31 : t_3_14 = s14 := hz15.2.2.2.2.2.2.2.2.2.2.2.2.2.2.2.1
      have q32 : t_3_15 = s15 := hz15.2.2.2.2.2.2.2.2.2.2.2.2.2.2.2.2.1
      have q33 : t_3_16 = s16 := hz15.2.2.2.2.2.2.2.2.2.2.2.2.2.2.2.2.2
      clear hz15
      have e34 : s0 = t_3_0 := q17.symm
      subst e34
      have e35 : s1 = t_3_1 := q18.symm
      subst e35
      have e36 : s2 = t_3_2 := q19.symm
      subst e36
      have e37 : s3 = t_3_3 := q20.symm
      subst e37
      have e38 : s4 = t_3_4 := q21.symm
      subst e38
      have e39 : s5 = t_3_5 := q22.symm
      subst e39
      have e40 : s6 = t_3_6 := q23.symm
      subst e40
      have e41 : s7 = t_3_7 := q24.symm
      subst e41
      have e42 : s8 = t_3_8 := q25.symm
      subst e42
      have e43 : s9 = t_3_9 := q26.symm
      subst e43
      have e44 : s10 = t_3_10 := q27.symm
      subst e44
      have e45 : s11 = t_3_11 := q28.symm
      subst e45
      have e46 : s12 = t_3_12 := q29.symm
      subst e46
      have e47 : s13 = t_3_13 := q30.symm
      subst e47
      have e48 : s14 = t_3_14 := q31.symm
      subst e48
      have e49 : s15 = t_3_15 := q32.symm
      subst e49
      have e50 : s16 = t_3_16 := q33.symm
      subst e50
      show zz_ok (if e_3 = "" then (if s0 = ((7 : Int32)) then ((m_X1_placeInList K p1 p2).bind fun ⟨r_5, _⟩ => if r_5 = ((-1 : Int32)) then (some ("java/lang/IndexOutOfBoundsException", 0, s0, s1, s2, s3, s4, s5, s6, s7, s8, s9, s10, s11, s12, s13, s14, s15, s16)) else (some ("", r_5, s0, s1, s2, s3, s4, s5, s6, s7, s8, s9, s10, s11, s12, s13, s14, s15, s16))) else (some ("java/lang/UnsupportedOperationException", 0, s0, s1, s2, s3, s4, s5, s6, s7, s8, s9, s10, s11, s12, s13, s14, s15, s16))) else (some (e_3, 0, s0, s1, s2, s3, s4, s5, s6, s7, s8, s9, s10, s11, s12, s13, s14, s15, s16))) _
      refine zz_ok_ite (fun c51 => ?_) (fun c51 => absurd q16 c51)
      have l53 : (7 : Int32).toInt = 7 := rfl
      refine zz_ok_ite (fun c52 => ?_) (fun c52 => ?_)
      · have c52 := congrArg Int32.toInt c52
        refine zz_ok_bind (s_X1_placeInList K hK p1 p2) ?_
        intro z54 hz54
        obtain ⟨r_5, _⟩ := z54
        clear hz54
        have g55 := zz_rg r_5
        show zz_ok (if r_5 = ((-1 : Int32)) then (some ("java/lang/IndexOutOfBoundsException", 0, s0, s1, s2, s3, s4, s5, s6, s7, s8, s9, s10, s11, s12, s13, s14, s15, s16)) else (some ("", r_5, s0, s1, s2, s3, s4, s5, s6, s7, s8, s9, s10, s11, s12, s13, s14, s15, s16))) _
        have l57 : (-1 : Int32).toInt = -1 := rfl
        refine zz_ok_ite (fun c56 => ?_) (fun c56 => ?_)
        · have c56 := congrArg Int32.toInt c56
          refine zz_ok_some ?_
          show zz_lsx (("java/lang/IndexOutOfBoundsException")) p1.toInt s0.toInt
          exact (by first | exact Or.inl ⟨rfl, by omega⟩ | exact Or.inr ⟨by omega, by omega, Or.inr ⟨by omega, rfl⟩⟩ | exact Or.inr ⟨by omega, by omega, Or.inl ⟨by omega, by assumption⟩⟩ | (exfalso; omega))
        · have c56 := zz_neq c56
          refine zz_ok_some ?_
          show zz_lsx (("")) p1.toInt s0.toInt
          exact (by first | exact Or.inl ⟨rfl, by omega⟩ | exact Or.inr ⟨by omega, by omega, Or.inr ⟨by omega, rfl⟩⟩ | exact Or.inr ⟨by omega, by omega, Or.inl ⟨by omega, by assumption⟩⟩ | (exfalso; omega))
      · have c52 := zz_neq c52
        refine zz_ok_some ?_
        show zz_lsx (("java/lang/UnsupportedOperationException")) p1.toInt s0.toInt
        exact (by first | exact Or.inl ⟨rfl, by omega⟩ | exact Or.inr ⟨by omega, by omega, Or.inr ⟨by omega, rfl⟩⟩ | exact Or.inr ⟨by omega, by omega, Or.inl ⟨by omega, by assumption⟩⟩ | (exfalso; omega))
    · have c13 := zz_nlt c13
      refine zz_ok_some ?_
      show zz_lsx (("java/lang/IllegalArgumentException")) p1.toInt s0.toInt
      exact (by first | exact Or.inl ⟨rfl, by omega⟩ | exact Or.inr ⟨by omega, by omega, Or.inr ⟨by omega, rfl⟩⟩ | exact Or.inr ⟨by omega, by omega, Or.inl ⟨by omega, by assumption⟩⟩ | (exfalso; omega))
set_option maxHeartbeats 4000000 in
theorem fo_X11_needRoom_X6 (K : Nat) (hK : 1099511627776 ≤ K) (T : Nat) (hT : T ≤ 900) (n0 : Nat) (n1 : Nat) (n2 : Nat) (n3 : Nat) (n4 : Nat) (n5 : Nat) (n6 : Nat) (n7 : Nat) (n8 : Nat) (s0 : Int32) (s1 : Int32) (s2 : Int32) (s3 : Int32) (s4 : Int32) (s5 : Nat → Int32) (s6 : Nat → Int32) (s7 : Nat → Int32) (s8 : Nat → Int32) (s9 : Nat → Int32) (s10 : Int32) (s11 : Int32) (s12 : Nat → Int32) (s13 : Nat → Int32) (s14 : Int32) (s15 : Int32) (s16 : Nat → Int32) (s17 : Nat → Int32) : zz_ok (m_X11_needRoom_X6 K n0 n1 n2 n3 n4 n5 n6 n7 n8 s0 s1 s2 s3 s4 s5 s6 s7 s8 s9 s10 s11 s12 s13 s14 s15 s16 s17) (fun z => zz_em z.1 ∧ z.2.1 = s0 ∧ z.2.2.1 = s1 ∧ z.2.2.2.1 = s2 ∧ z.2.2.2.2.1 = s3 ∧ z.2.2.2.2.2.1 = s4 ∧ z.2.2.2.2.2.2.1 = s5 ∧ z.2.2.2.2.2.2.2.1 = s6 ∧ z.2.2.2.2.2.2.2.2.1 = s7 ∧ z.2.2.2.2.2.2.2.2.2.1 = s8 ∧ z.2.2.2.2.2.2.2.2.2.2.1 = s9 ∧ z.2.2.2.2.2.2.2.2.2.2.2.1 = s10 ∧ z.2.2.2.2.2.2.2.2.2.2.2.2.1 = s11 ∧ z.2.2.2.2.2.2.2.2.2.2.2.2.2.1 = s12 ∧ z.2.2.2.2.2.2.2.2.2.2.2.2.2.2.1 = s13 ∧ z.2.2.2.2.2.2.2.2.2.2.2.2.2.2.2.1 = s14 ∧ z.2.2.2.2.2.2.2.2.2.2.2.2.2.2.2.2.1 = s15 ∧ z.2.2.2.2.2.2.2.2.2.2.2.2.2.2.2.2.2.1 = s16 ∧ z.2.2.2.2.2.2.2.2.2.2.2.2.2.2.2.2.2.2 = s17) := by
  have g1 := zz_rg s0
  have g2 := zz_rg s1
  have g3 := zz_rg s2
  have g4 := zz_rg s3
  have g5 := zz_rg s4
  have g6 := zz_rg s10
  have g7 := zz_rg s11
  have g8 := zz_rg s14
  have g9 := zz_rg s15
  unfold m_X11_needRoom_X6
  refine zz_ok_some ?_
  show zz_em ("") ∧ s0 = s0 ∧ s1 = s1 ∧ s2 = s2 ∧ s3 = s3 ∧ s4 = s4 ∧ s5 = s5 ∧ s6 = s6 ∧ s7 = s7 ∧ s8 = s8 ∧ s9 = s9 ∧ s10 = s10 ∧ s11 = s11 ∧ s12 = s12 ∧ s13 = s13 ∧ s14 = s14 ∧ s15 = s15 ∧ s16 = s16 ∧ s17 = s17
  exact ⟨(by exact rfl), rfl, rfl, rfl, rfl, rfl, rfl, rfl, rfl, rfl, rfl, rfl, rfl, rfl, rfl, rfl, rfl, rfl, rfl⟩
set_option maxHeartbeats 4000000 in
theorem fo_X11_list_X6 (K : Nat) (hK : 1099511627776 ≤ K) (T : Nat) (hT : T ≤ 900) (n0 : Nat) (n1 : Nat) (n2 : Nat) (n3 : Nat) (n4 : Nat) (n5 : Nat) (n6 : Nat) (n7 : Nat) (n8 : Nat) (p1 : Int32) (p2 : Int32) (s0 : Int32) (s1 : Int32) (s2 : Int32) (s3 : Int32) (s4 : Int32) (s5 : Nat → Int32) (s6 : Nat → Int32) (s7 : Nat → Int32) (s8 : Nat → Int32) (s9 : Nat → Int32) (s10 : Int32) (s11 : Int32) (s12 : Nat → Int32) (s13 : Nat → Int32) (s14 : Int32) (s15 : Int32) (s16 : Nat → Int32) (s17 : Nat → Int32) (a0 : n0 = 1024) (a1 : n1 = 200) (a2 : n2 = 200) (a3 : n3 = 200) (a4 : n4 = 200) (a5 : n5 = 512) (a6 : n6 = 512) (a7 : n7 = 1024) (a8 : n8 = 1024) (a9 : 0 ≤ s1.toInt) (a10 : s1.toInt ≤ 1024) (a11 : 0 ≤ s2.toInt) (a12 : s2.toInt ≤ 200) (a13 : 0 ≤ s10.toInt) (a14 : s10.toInt ≤ 512) (a15 : 0 ≤ s14.toInt) (a16 : s14.toInt ≤ 1024) (a17 : (s0.toInt ≠ 7 ∧ s0.toInt ≠ -1)) : zz_ok (m_X11_list_X6 K n0 n1 n2 n3 n4 n5 n6 n7 n8 p1 p2 s0 s1 s2 s3 s4 s5 s6 s7 s8 s9 s10 s11 s12 s13 s14 s15 s16 s17) (fun z => zz_lsx (z.1) p1.toInt s0.toInt) := by
  have g1 := zz_rg p1
  have g2 := zz_rg p2
  have g3 := zz_rg s0
  have g4 := zz_rg s1
  have g5 := zz_rg s2
  have g6 := zz_rg s3
  have g7 := zz_rg s4
  have g8 := zz_rg s10
  have g9 := zz_rg s11
  have g10 := zz_rg s14
  have g11 := zz_rg s15
  unfold m_X11_list_X6
  have l13 : (0 : Int32).toInt = 0 := rfl
  refine zz_ok_ite (fun c12 => ?_) (fun c12 => ?_)
  · have c12 := Int32.lt_iff_toInt_lt.mp c12
    refine zz_ok_some ?_
    show zz_lsx (("java/lang/IllegalArgumentException")) p1.toInt s0.toInt
    exact (by first | exact Or.inl ⟨rfl, by omega⟩ | exact Or.inr ⟨by omega, by omega, Or.inr ⟨by omega, rfl⟩⟩ | exact Or.inr ⟨by omega, by omega, Or.inl ⟨by omega, by assumption⟩⟩ | (exfalso; omega))
  · have c12 := zz_nlt c12
    have l15 : (44 : Int32).toInt = 44 := rfl
    refine zz_ok_ite (fun c14 => ?_) (fun c14 => ?_)
    · have c14 := Int32.lt_iff_toInt_lt.mp c14
      refine zz_ok_bind (fo_X11_needRoom_X6 K hK T hT n0 n1 n2 n3 n4 n5 n6 n7 n8 s0 s1 s2 s3 s4 s5 s6 s7 s8 s9 s10 s11 s12 s13 s14 s15 s16 s17) ?_
      intro z16 hz16
      obtain ⟨e_3, t_3_0, t_3_1, t_3_2, t_3_3, t_3_4, t_3_5, t_3_6, t_3_7, t_3_8, t_3_9, t_3_10, t_3_11, t_3_12, t_3_13, t_3_14, t_3_15, t_3_16, t_3_17⟩ := z16
      have q17 : zz_em e_3 := hz16.1
      have q18 : t_3_0 = s0 := hz16.2.1
      have q19 : t_3_1 = s1 := hz16.2.2.1
      have q20 : t_3_2 = s2 := hz16.2.2.2.1
      have q21 : t_3_3 = s3 := hz16.2.2.2.2.1
      have q22 : t_3_4 = s4 := hz16.2.2.2.2.2.1
      have q23 : t_3_5 = s5 := hz16.2.2.2.2.2.2.1
      have q24 : t_3_6 = s6 := hz16.2.2.2.2.2.2.2.1
      have q25 : t_3_7 = s7 := hz16.2.2.2.2.2.2.2.2.1
      have q26 : t_3_8 = s8 := hz16.2.2.2.2.2.2.2.2.2.1
      have q27 : t_3_9 = s9 := hz16.2.2.2.2.2.2.2.2.2.2.1
      have q28 : t_3_10 = s10 := hz16.2.2.2.2.2.2.2.2.2.2.2.1
      have q29 : t_3_11 = s11 := hz16.2.2.2.2.2.2.2.2.2.2.2.2.1
      have q30 : t_3_12 = s12 := hz16.2.2.2.2.2.2.2.2.2.2.2.2.2.1
      have q31 : t_3_13 = s13 := hz16.2.2.2.2.2.2.2.2.2.2.2.2.2.2.1
      have q32 : t_3_14 = s14 := hz16.2.2.2.2.2.2.2.2.2.2.2.2.2.2.2.1
      have q33 : t_3_15 = s15 := hz16.2.2.2.2.2.2.2.2.2.2.2.2.2.2.2.2.1
      have q34 : t_3_16 = s16 := hz16.2.2.2.2.2.2.2.2.2.2.2.2.2.2.2.2.2.1
      have q35 : t_3_17 = s17 := hz16.2.2.2.2.2.2.2.2.2.2.2.2.2.2.2.2.2.2
      clear hz16
      have e36 : s0 = t_3_0 := q18.symm
      subst e36
      have e37 : s1 = t_3_1 := q19.symm
      subst e37
      have e38 : s2 = t_3_2 := q20.symm
      subst e38
      have e39 : s3 = t_3_3 := q21.symm
      subst e39
      have e40 : s4 = t_3_4 := q22.symm
      subst e40
      have e41 : s5 = t_3_5 := q23.symm
      subst e41
      have e42 : s6 = t_3_6 := q24.symm
      subst e42
      have e43 : s7 = t_3_7 := q25.symm
      subst e43
      have e44 : s8 = t_3_8 := q26.symm
      subst e44
      have e45 : s9 = t_3_9 := q27.symm
      subst e45
      have e46 : s10 = t_3_10 := q28.symm
      subst e46
      have e47 : s11 = t_3_11 := q29.symm
      subst e47
      have e48 : s12 = t_3_12 := q30.symm
      subst e48
      have e49 : s13 = t_3_13 := q31.symm
      subst e49
      have e50 : s14 = t_3_14 := q32.symm
      subst e50
      have e51 : s15 = t_3_15 := q33.symm
      subst e51
      have e52 : s16 = t_3_16 := q34.symm
      subst e52
      have e53 : s17 = t_3_17 := q35.symm
      subst e53
      show zz_ok (if e_3 = "" then (if s0 = ((7 : Int32)) then ((m_X1_placeInList K p1 p2).bind fun ⟨r_5, _⟩ => if r_5 = ((-1 : Int32)) then (some ("java/lang/IndexOutOfBoundsException", 0, s0, s1, s2, s3, s4, s5, s6, s7, s8, s9, s10, s11, s12, s13, s14, s15, s16, s17)) else (some ("", r_5, s0, s1, s2, s3, s4, s5, s6, s7, s8, s9, s10, s11, s12, s13, s14, s15, s16, s17))) else (some ("java/lang/UnsupportedOperationException", 0, s0, s1, s2, s3, s4, s5, s6, s7, s8, s9, s10, s11, s12, s13, s14, s15, s16, s17))) else (some (e_3, 0, s0, s1, s2, s3, s4, s5, s6, s7, s8, s9, s10, s11, s12, s13, s14, s15, s16, s17))) _
      refine zz_ok_ite (fun c54 => ?_) (fun c54 => absurd q17 c54)
      have l56 : (7 : Int32).toInt = 7 := rfl
      refine zz_ok_ite (fun c55 => ?_) (fun c55 => ?_)
      · have c55 := congrArg Int32.toInt c55
        refine zz_ok_bind (s_X1_placeInList K hK p1 p2) ?_
        intro z57 hz57
        obtain ⟨r_5, _⟩ := z57
        clear hz57
        have g58 := zz_rg r_5
        show zz_ok (if r_5 = ((-1 : Int32)) then (some ("java/lang/IndexOutOfBoundsException", 0, s0, s1, s2, s3, s4, s5, s6, s7, s8, s9, s10, s11, s12, s13, s14, s15, s16, s17)) else (some ("", r_5, s0, s1, s2, s3, s4, s5, s6, s7, s8, s9, s10, s11, s12, s13, s14, s15, s16, s17))) _
        have l60 : (-1 : Int32).toInt = -1 := rfl
        refine zz_ok_ite (fun c59 => ?_) (fun c59 => ?_)
        · have c59 := congrArg Int32.toInt c59
          refine zz_ok_some ?_
          show zz_lsx (("java/lang/IndexOutOfBoundsException")) p1.toInt s0.toInt
          exact (by first | exact Or.inl ⟨rfl, by omega⟩ | exact Or.inr ⟨by omega, by omega, Or.inr ⟨by omega, rfl⟩⟩ | exact Or.inr ⟨by omega, by omega, Or.inl ⟨by omega, by assumption⟩⟩ | (exfalso; omega))
        · have c59 := zz_neq c59
          refine zz_ok_some ?_
          show zz_lsx (("")) p1.toInt s0.toInt
          exact (by first | exact Or.inl ⟨rfl, by omega⟩ | exact Or.inr ⟨by omega, by omega, Or.inr ⟨by omega, rfl⟩⟩ | exact Or.inr ⟨by omega, by omega, Or.inl ⟨by omega, by assumption⟩⟩ | (exfalso; omega))
      · have c55 := zz_neq c55
        refine zz_ok_some ?_
        show zz_lsx (("java/lang/UnsupportedOperationException")) p1.toInt s0.toInt
        exact (by first | exact Or.inl ⟨rfl, by omega⟩ | exact Or.inr ⟨by omega, by omega, Or.inr ⟨by omega, rfl⟩⟩ | exact Or.inr ⟨by omega, by omega, Or.inl ⟨by omega, by assumption⟩⟩ | (exfalso; omega))
    · have c14 := zz_nlt c14
      refine zz_ok_some ?_
      show zz_lsx (("java/lang/IllegalArgumentException")) p1.toInt s0.toInt
      exact (by first | exact Or.inl ⟨rfl, by omega⟩ | exact Or.inr ⟨by omega, by omega, Or.inr ⟨by omega, rfl⟩⟩ | exact Or.inr ⟨by omega, by omega, Or.inl ⟨by omega, by assumption⟩⟩ | (exfalso; omega))
set_option maxHeartbeats 4000000 in
theorem fo_X11_needRoom_X9 (K : Nat) (hK : 1099511627776 ≤ K) (T : Nat) (hT : T ≤ 900) (n0 : Nat) (n1 : Nat) (n2 : Nat) (n3 : Nat) (n4 : Nat) (n5 : Nat) (n6 : Nat) (s0 : Int32) (s1 : Int32) (s2 : Int32) (s3 : Int32) (s4 : Int32) (s5 : Nat → Int32) (s6 : Nat → Int32) (s7 : Nat → Int32) (s8 : Nat → Int32) (s9 : Nat → Int32) (s10 : Int32) (s11 : Int32) (s12 : Nat → Int32) (s13 : Nat → Int32) (s14 : Int32) : zz_ok (m_X11_needRoom_X9 K n0 n1 n2 n3 n4 n5 n6 s0 s1 s2 s3 s4 s5 s6 s7 s8 s9 s10 s11 s12 s13 s14) (fun z => zz_em z.1 ∧ z.2.1 = s0 ∧ z.2.2.1 = s1 ∧ z.2.2.2.1 = s2 ∧ z.2.2.2.2.1 = s3 ∧ z.2.2.2.2.2.1 = s4 ∧ z.2.2.2.2.2.2.1 = s5 ∧ z.2.2.2.2.2.2.2.1 = s6 ∧ z.2.2.2.2.2.2.2.2.1 = s7 ∧ z.2.2.2.2.2.2.2.2.2.1 = s8 ∧ z.2.2.2.2.2.2.2.2.2.2.1 = s9 ∧ z.2.2.2.2.2.2.2.2.2.2.2.1 = s10 ∧ z.2.2.2.2.2.2.2.2.2.2.2.2.1 = s11 ∧ z.2.2.2.2.2.2.2.2.2.2.2.2.2.1 = s12 ∧ z.2.2.2.2.2.2.2.2.2.2.2.2.2.2.1 = s13 ∧ z.2.2.2.2.2.2.2.2.2.2.2.2.2.2.2 = s14) := by
  have g1 := zz_rg s0
  have g2 := zz_rg s1
  have g3 := zz_rg s2
  have g4 := zz_rg s3
  have g5 := zz_rg s4
  have g6 := zz_rg s10
  have g7 := zz_rg s11
  have g8 := zz_rg s14
  unfold m_X11_needRoom_X9
  refine zz_ok_some ?_
  show zz_em ("") ∧ s0 = s0 ∧ s1 = s1 ∧ s2 = s2 ∧ s3 = s3 ∧ s4 = s4 ∧ s5 = s5 ∧ s6 = s6 ∧ s7 = s7 ∧ s8 = s8 ∧ s9 = s9 ∧ s10 = s10 ∧ s11 = s11 ∧ s12 = s12 ∧ s13 = s13 ∧ s14 = s14
  exact ⟨(by exact rfl), rfl, rfl, rfl, rfl, rfl, rfl, rfl, rfl, rfl, rfl, rfl, rfl, rfl, rfl, rfl⟩
set_option maxHeartbeats 4000000 in
theorem fo_X11_list_X9 (K : Nat) (hK : 1099511627776 ≤ K) (T : Nat) (hT : T ≤ 900) (n0 : Nat) (n1 : Nat) (n2 : Nat) (n3 : Nat) (n4 : Nat) (n5 : Nat) (n6 : Nat) (p1 : Int32) (p2 : Int32) (s0 : Int32) (s1 : Int32) (s2 : Int32) (s3 : Int32) (s4 : Int32) (s5 : Nat → Int32) (s6 : Nat → Int32) (s7 : Nat → Int32) (s8 : Nat → Int32) (s9 : Nat → Int32) (s10 : Int32) (s11 : Int32) (s12 : Nat → Int32) (s13 : Nat → Int32) (s14 : Int32) (a0 : n0 = 1024) (a1 : n1 = 200) (a2 : n2 = 200) (a3 : n3 = 200) (a4 : n4 = 200) (a5 : n5 = 512) (a6 : n6 = 512) (a7 : 0 ≤ s1.toInt) (a8 : s1.toInt ≤ 1024) (a9 : 0 ≤ s2.toInt) (a10 : s2.toInt ≤ 200) (a11 : 0 ≤ s10.toInt) (a12 : s10.toInt ≤ 512) (a13 : (s0.toInt ≠ 7 ∧ s0.toInt ≠ -1)) : zz_ok (m_X11_list_X9 K n0 n1 n2 n3 n4 n5 n6 p1 p2 s0 s1 s2 s3 s4 s5 s6 s7 s8 s9 s10 s11 s12 s13 s14) (fun z => zz_lsx (z.1) p1.toInt s0.toInt) := by
  have g1 := zz_rg p1
  have g2 := zz_rg p2
  have g3 := zz_rg s0
  have g4 := zz_rg s1
  have g5 := zz_rg s2
  have g6 := zz_rg s3
  have g7 := zz_rg s4
  have g8 := zz_rg s10
  have g9 := zz_rg s11
  have g10 := zz_rg s14
  unfold m_X11_list_X9
  have l12 : (0 : Int32).toInt = 0 := rfl
  refine zz_ok_ite (fun c11 => ?_) (fun c11 => ?_)
  · have c11 := Int32.lt_iff_toInt_lt.mp c11
    refine zz_ok_some ?_
    show zz_lsx (("java/lang/IllegalArgumentException")) p1.toInt s0.toInt
    exact (by first | exact Or.inl ⟨rfl, by omega⟩ | exact Or.inr ⟨by omega, by omega, Or.inr ⟨by omega, rfl⟩⟩ | exact Or.inr ⟨by omega, by omega, Or.inl ⟨by omega, by assumption⟩⟩ | (exfalso; omega))
  · have c11 := zz_nlt c11
    have l14 : (44 : Int32).toInt = 44 := rfl
    refine zz_ok_ite (fun c13 => ?_) (fun c13 => ?_)
    · have c13 := Int32.lt_iff_toInt_lt.mp c13
      refine zz_ok_bind (fo_X11_needRoom_X9 K hK T hT n0 n1 n2 n3 n4 n5 n6 s0 s1 s2 s3 s4 s5 s6 s7 s8 s9 s10 s11 s12 s13 s14) ?_
      intro z15 hz15
      obtain ⟨e_3, t_3_0, t_3_1, t_3_2, t_3_3, t_3_4, t_3_5, t_3_6, t_3_7, t_3_8, t_3_9, t_3_10, t_3_11, t_3_12, t_3_13, t_3_14⟩ := z15
      have q16 : zz_em e_3 := hz15.1
      have q17 : t_3_0 = s0 := hz15.2.1
      have q18 : t_3_1 = s1 := hz15.2.2.1
      have q19 : t_3_2 = s2 := hz15.2.2.2.1
      have q20 : t_3_3 = s3 := hz15.2.2.2.2.1
      have q21 : t_3_4 = s4 := hz15.2.2.2.2.2.1
      have q22 : t_3_5 = s5 := hz15.2.2.2.2.2.2.1
      have q23 : t_3_6 = s6 := hz15.2.2.2.2.2.2.2.1
      have q24 : t_3_7 = s7 := hz15.2.2.2.2.2.2.2.2.1
      have q25 : t_3_8 = s8 := hz15.2.2.2.2.2.2.2.2.2.1
      have q26 : t_3_9 = s9 := hz15.2.2.2.2.2.2.2.2.2.2.1
      have q27 : t_3_10 = s10 := hz15.2.2.2.2.2.2.2.2.2.2.2.1
      have q28 : t_3_11 = s11 := hz15.2.2.2.2.2.2.2.2.2.2.2.2.1
      have q29 : t_3_12 = s12 := hz15.2.2.2.2.2.2.2.2.2.2.2.2.2.1
      have q30 : t_3_13 = s13 := hz15.2.2.2.2.2.2.2.2.2.2.2.2.2.2.1
      have q31 : t_3_14 = s14 := hz15.2.2.2.2.2.2.2.2.2.2.2.2.2.2.2
      clear hz15
      have e32 : s0 = t_3_0 := q17.symm
      subst e32
      have e33 : s1 = t_3_1 := q18.symm
      subst e33
      have e34 : s2 = t_3_2 := q19.symm
      subst e34
      have e35 : s3 = t_3_3 := q20.symm
      subst e35
      have e36 : s4 = t_3_4 := q21.symm
      subst e36
      have e37 : s5 = t_3_5 := q22.symm
      subst e37
      have e38 : s6 = t_3_6 := q23.symm
      subst e38
      have e39 : s7 = t_3_7 := q24.symm
      subst e39
      have e40 : s8 = t_3_8 := q25.symm
      subst e40
      have e41 : s9 = t_3_9 := q26.symm
      subst e41
      have e42 : s10 = t_3_10 := q27.symm
      subst e42
      have e43 : s11 = t_3_11 := q28.symm
      subst e43
      have e44 : s12 = t_3_12 := q29.symm
      subst e44
      have e45 : s13 = t_3_13 := q30.symm
      subst e45
      have e46 : s14 = t_3_14 := q31.symm
      subst e46
      show zz_ok (if e_3 = "" then (if s0 = ((7 : Int32)) then ((m_X1_placeInList K p1 p2).bind fun ⟨r_5, _⟩ => if r_5 = ((-1 : Int32)) then (some ("java/lang/IndexOutOfBoundsException", 0, s0, s1, s2, s3, s4, s5, s6, s7, s8, s9, s10, s11, s12, s13, s14)) else (some ("", r_5, s0, s1, s2, s3, s4, s5, s6, s7, s8, s9, s10, s11, s12, s13, s14))) else (some ("java/lang/UnsupportedOperationException", 0, s0, s1, s2, s3, s4, s5, s6, s7, s8, s9, s10, s11, s12, s13, s14))) else (some (e_3, 0, s0, s1, s2, s3, s4, s5, s6, s7, s8, s9, s10, s11, s12, s13, s14))) _
      refine zz_ok_ite (fun c47 => ?_) (fun c47 => absurd q16 c47)
      have l49 : (7 : Int32).toInt = 7 := rfl
      refine zz_ok_ite (fun c48 => ?_) (fun c48 => ?_)
      · have c48 := congrArg Int32.toInt c48
        refine zz_ok_bind (s_X1_placeInList K hK p1 p2) ?_
        intro z50 hz50
        obtain ⟨r_5, _⟩ := z50
        clear hz50
        have g51 := zz_rg r_5
        show zz_ok (if r_5 = ((-1 : Int32)) then (some ("java/lang/IndexOutOfBoundsException", 0, s0, s1, s2, s3, s4, s5, s6, s7, s8, s9, s10, s11, s12, s13, s14)) else (some ("", r_5, s0, s1, s2, s3, s4, s5, s6, s7, s8, s9, s10, s11, s12, s13, s14))) _
        have l53 : (-1 : Int32).toInt = -1 := rfl
        refine zz_ok_ite (fun c52 => ?_) (fun c52 => ?_)
        · have c52 := congrArg Int32.toInt c52
          refine zz_ok_some ?_
          show zz_lsx (("java/lang/IndexOutOfBoundsException")) p1.toInt s0.toInt
          exact (by first | exact Or.inl ⟨rfl, by omega⟩ | exact Or.inr ⟨by omega, by omega, Or.inr ⟨by omega, rfl⟩⟩ | exact Or.inr ⟨by omega, by omega, Or.inl ⟨by omega, by assumption⟩⟩ | (exfalso; omega))
        · have c52 := zz_neq c52
          refine zz_ok_some ?_
          show zz_lsx (("")) p1.toInt s0.toInt
          exact (by first | exact Or.inl ⟨rfl, by omega⟩ | exact Or.inr ⟨by omega, by omega, Or.inr ⟨by omega, rfl⟩⟩ | exact Or.inr ⟨by omega, by omega, Or.inl ⟨by omega, by assumption⟩⟩ | (exfalso; omega))
      · have c48 := zz_neq c48
        refine zz_ok_some ?_
        show zz_lsx (("java/lang/UnsupportedOperationException")) p1.toInt s0.toInt
        exact (by first | exact Or.inl ⟨rfl, by omega⟩ | exact Or.inr ⟨by omega, by omega, Or.inr ⟨by omega, rfl⟩⟩ | exact Or.inr ⟨by omega, by omega, Or.inl ⟨by omega, by assumption⟩⟩ | (exfalso; omega))
    · have c13 := zz_nlt c13
      refine zz_ok_some ?_
      show zz_lsx (("java/lang/IllegalArgumentException")) p1.toInt s0.toInt
      exact (by first | exact Or.inl ⟨rfl, by omega⟩ | exact Or.inr ⟨by omega, by omega, Or.inr ⟨by omega, rfl⟩⟩ | exact Or.inr ⟨by omega, by omega, Or.inl ⟨by omega, by assumption⟩⟩ | (exfalso; omega))

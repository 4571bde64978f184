set_option maxHeartbeats 4000000 in
theorem ff_X7_addLooked (K : Nat) (hK : 1099511627776 ≤ K) (T : Nat) (hT : T ≤ 900) (n0 : Nat) (n1 : Nat) (n2 : Nat) (n3 : Nat) (n4 : Nat) (n5 : Nat) (n6 : Nat) (p1 : Int32) (s0 : Int32) (s1 : Int32) (s2 : Int32) (s3 : Int32) (s4 : Nat → Int32) (s5 : Nat → Int32) (s6 : Nat → Int32) (s7 : Nat → Int32) (s8 : Nat → Int32) (s9 : Int32) (s10 : Int32) (s11 : Nat → Int32) (s12 : Nat → Int32) : zz_ok (m_X7_addLooked K n0 n1 n2 n3 n4 n5 n6 p1 s0 s1 s2 s3 s4 s5 s6 s7 s8 s9 s10 s11 s12) (fun z => z.1 = s0 ∧ z.2.1 = s1 ∧ z.2.2.1 = s2 ∧ z.2.2.2.2.1 = s4 ∧ z.2.2.2.2.2.1 = s5 ∧ z.2.2.2.2.2.2.1 = s6 ∧ z.2.2.2.2.2.2.2.1 = s7 ∧ z.2.2.2.2.2.2.2.2.1 = s8 ∧ z.2.2.2.2.2.2.2.2.2.1 = s9 ∧ z.2.2.2.2.2.2.2.2.2.2.1 = s10 ∧ z.2.2.2.2.2.2.2.2.2.2.2.1 = s11 ∧ z.2.2.2.2.2.2.2.2.2.2.2.2 = s12) := by
  have g1 := zz_rg p1
  have g2 := zz_rg s0
  have g3 := zz_rg s1
  have g4 := zz_rg s2
  have g5 := zz_rg s3
  have g6 := zz_rg s9
  have g7 := zz_rg s10
  unfold m_X7_addLooked
  refine zz_ok_some ?_
  show s0 = s0 ∧ s1 = s1 ∧ s2 = s2 ∧ s4 = s4 ∧ s5 = s5 ∧ s6 = s6 ∧ s7 = s7 ∧ s8 = s8 ∧ s9 = s9 ∧ s10 = s10 ∧ s11 = s11 ∧ s12 = s12
  exact ⟨rfl, rfl, rfl, rfl, rfl, rfl, rfl, rfl, rfl, rfl, rfl, rfl⟩
set_option maxHeartbeats 4000000 in
theorem ff_X7_words (K : Nat) (hK : 1099511627776 ≤ K) (T : Nat) (hT : T ≤ 900) (n0 : Nat) (n1 : Nat) (n2 : Nat) (n3 : Nat) (n4 : Nat) (n5 : Nat) (n6 : Nat) (s0 : Int32) (s1 : Int32) (s2 : Int32) (s3 : Int32) (s4 : Nat → Int32) (s5 : Nat → Int32) (s6 : Nat → Int32) (s7 : Nat → Int32) (s8 : Nat → Int32) (s9 : Int32) (s10 : Int32) (s11 : Nat → Int32) (s12 : Nat → Int32) : zz_ok (m_X7_words K n0 n1 n2 n3 n4 n5 n6 s0 s1 s2 s3 s4 s5 s6 s7 s8 s9 s10 s11 s12) (fun z => z.1 = s0 ∧ z.2.1 = s0 ∧ z.2.2.1 = s1 ∧ z.2.2.2.1 = s2 ∧ z.2.2.2.2.1 = s3 ∧ z.2.2.2.2.2.1 = s4 ∧ z.2.2.2.2.2.2.1 = s5 ∧ z.2.2.2.2.2.2.2.1 = s6 ∧ z.2.2.2.2.2.2.2.2.1 = s7 ∧ z.2.2.2.2.2.2.2.2.2.1 = s8 ∧ z.2.2.2.2.2.2.2.2.2.2.1 = s9 ∧ z.2.2.2.2.2.2.2.2.2.2.2.1 = s10 ∧ z.2.2.2.2.2.2.2.2.2.2.2.2.1 = s11 ∧ z.2.2.2.2.2.2.2.2.2.2.2.2.2 = s12) := by
  have g1 := zz_rg s0
  have g2 := zz_rg s1
  have g3 := zz_rg s2
  have g4 := zz_rg s3
  have g5 := zz_rg s9
  have g6 := zz_rg s10
  unfold m_X7_words
  refine zz_ok_some ?_
  show s0 = s0 ∧ s0 = s0 ∧ s1 = s1 ∧ s2 = s2 ∧ s3 = s3 ∧ s4 = s4 ∧ s5 = s5 ∧ s6 = s6 ∧ s7 = s7 ∧ s8 = s8 ∧ s9 = s9 ∧ s10 = s10 ∧ s11 = s11 ∧ s12 = s12
  exact ⟨rfl, rfl, rfl, rfl, rfl, rfl, rfl, rfl, rfl, rfl, rfl, rfl, rfl, rfl⟩
set_option maxHeartbeats 4000000 in
theorem ff_X7_blocks (K : Nat) (hK : 1099511627776 ≤ K) (T : Nat) (hT : T ≤ 900) (n0 : Nat) (n1 : Nat) (n2 : Nat) (n3 : Nat) (n4 : Nat) (n5 : Nat) (n6 : Nat) (s0 : Int32) (s1 : Int32) (s2 : Int32) (s3 : Int32) (s4 : Nat → Int32) (s5 : Nat → Int32) (s6 : Nat → Int32) (s7 : Nat → Int32) (s8 : Nat → Int32) (s9 : Int32) (s10 : Int32) (s11 : Nat → Int32) (s12 : Nat → Int32) : zz_ok (m_X7_blocks K n0 n1 n2 n3 n4 n5 n6 s0 s1 s2 s3 s4 s5 s6 s7 s8 s9 s10 s11 s12) (fun z => z.1 = s1 ∧ z.2.1 = s0 ∧ z.2.2.1 = s1 ∧ z.2.2.2.1 = s2 ∧ z.2.2.2.2.1 = s3 ∧ z.2.2.2.2.2.1 = s4 ∧ z.2.2.2.2.2.2.1 = s5 ∧ z.2.2.2.2.2.2.2.1 = s6 ∧ z.2.2.2.2.2.2.2.2.1 = s7 ∧ z.2.2.2.2.2.2.2.2.2.1 = s8 ∧ z.2.2.2.2.2.2.2.2.2.2.1 = s9 ∧ z.2.2.2.2.2.2.2.2.2.2.2.1 = s10 ∧ z.2.2.2.2.2.2.2.2.2.2.2.2.1 = s11 ∧ z.2.2.2.2.2.2.2.2.2.2.2.2.2 = s12) := by
  have g1 := zz_rg s0
  have g2 := zz_rg s1
  have g3 := zz_rg s2
  have g4 := zz_rg s3
  have g5 := zz_rg s9
  have g6 := zz_rg s10
  unfold m_X7_blocks
  refine zz_ok_some ?_
  show s1 = s1 ∧ s0 = s0 ∧ s1 = s1 ∧ s2 = s2 ∧ s3 = s3 ∧ s4 = s4 ∧ s5 = s5 ∧ s6 = s6 ∧ s7 = s7 ∧ s8 = s8 ∧ s9 = s9 ∧ s10 = s10 ∧ s11 = s11 ∧ s12 = s12
  exact ⟨rfl, rfl, rfl, rfl, rfl, rfl, rfl, rfl, rfl, rfl, rfl, rfl, rfl, rfl⟩
set_option maxHeartbeats 4000000 in
theorem ff_X7_given (K : Nat) (hK : 1099511627776 ≤ K) (T : Nat) (hT : T ≤ 900) (n0 : Nat) (n1 : Nat) (n2 : Nat) (n3 : Nat) (n4 : Nat) (n5 : Nat) (n6 : Nat) (s0 : Int32) (s1 : Int32) (s2 : Int32) (s3 : Int32) (s4 : Nat → Int32) (s5 : Nat → Int32) (s6 : Nat → Int32) (s7 : Nat → Int32) (s8 : Nat → Int32) (s9 : Int32) (s10 : Int32) (s11 : Nat → Int32) (s12 : Nat → Int32) : zz_ok (m_X7_given K n0 n1 n2 n3 n4 n5 n6 s0 s1 s2 s3 s4 s5 s6 s7 s8 s9 s10 s11 s12) (fun z => z.1 = s2 ∧ z.2.1 = s0 ∧ z.2.2.1 = s1 ∧ z.2.2.2.1 = s2 ∧ z.2.2.2.2.1 = s3 ∧ z.2.2.2.2.2.1 = s4 ∧ z.2.2.2.2.2.2.1 = s5 ∧ z.2.2.2.2.2.2.2.1 = s6 ∧ z.2.2.2.2.2.2.2.2.1 = s7 ∧ z.2.2.2.2.2.2.2.2.2.1 = s8 ∧ z.2.2.2.2.2.2.2.2.2.2.1 = s9 ∧ z.2.2.2.2.2.2.2.2.2.2.2.1 = s10 ∧ z.2.2.2.2.2.2.2.2.2.2.2.2.1 = s11 ∧ z.2.2.2.2.2.2.2.2.2.2.2.2.2 = s12) := by
  have g1 := zz_rg s0
  have g2 := zz_rg s1
  have g3 := zz_rg s2
  have g4 := zz_rg s3
  have g5 := zz_rg s9
  have g6 := zz_rg s10
  unfold m_X7_given
  refine zz_ok_some ?_
  show s2 = s2 ∧ s0 = s0 ∧ s1 = s1 ∧ s2 = s2 ∧ s3 = s3 ∧ s4 = s4 ∧ s5 = s5 ∧ s6 = s6 ∧ s7 = s7 ∧ s8 = s8 ∧ s9 = s9 ∧ s10 = s10 ∧ s11 = s11 ∧ s12 = s12
  exact ⟨rfl, rfl, rfl, rfl, rfl, rfl, rfl, rfl, rfl, rfl, rfl, rfl, rfl, rfl⟩
set_option maxHeartbeats 4000000 in
theorem ff_X7_looked (K : Nat) (hK : 1099511627776 ≤ K) (T : Nat) (hT : T ≤ 900) (n0 : Nat) (n1 : Nat) (n2 : Nat) (n3 : Nat) (n4 : Nat) (n5 : Nat) (n6 : Nat) (s0 : Int32) (s1 : Int32) (s2 : Int32) (s3 : Int32) (s4 : Nat → Int32) (s5 : Nat → Int32) (s6 : Nat → Int32) (s7 : Nat → Int32) (s8 : Nat → Int32) (s9 : Int32) (s10 : Int32) (s11 : Nat → Int32) (s12 : Nat → Int32) : zz_ok (m_X7_looked K n0 n1 n2 n3 n4 n5 n6 s0 s1 s2 s3 s4 s5 s6 s7 s8 s9 s10 s11 s12) (fun z => z.1 = s3 ∧ z.2.1 = s0 ∧ z.2.2.1 = s1 ∧ z.2.2.2.1 = s2 ∧ z.2.2.2.2.1 = s3 ∧ z.2.2.2.2.2.1 = s4 ∧ z.2.2.2.2.2.2.1 = s5 ∧ z.2.2.2.2.2.2.2.1 = s6 ∧ z.2.2.2.2.2.2.2.2.1 = s7 ∧ z.2.2.2.2.2.2.2.2.2.1 = s8 ∧ z.2.2.2.2.2.2.2.2.2.2.1 = s9 ∧ z.2.2.2.2.2.2.2.2.2.2.2.1 = s10 ∧ z.2.2.2.2.2.2.2.2.2.2.2.2.1 = s11 ∧ z.2.2.2.2.2.2.2.2.2.2.2.2.2 = s12) := by
  have g1 := zz_rg s0
  have g2 := zz_rg s1
  have g3 := zz_rg s2
  have g4 := zz_rg s3
  have g5 := zz_rg s9
  have g6 := zz_rg s10
  unfold m_X7_looked
  refine zz_ok_some ?_
  show s3 = s3 ∧ s0 = s0 ∧ s1 = s1 ∧ s2 = s2 ∧ s3 = s3 ∧ s4 = s4 ∧ s5 = s5 ∧ s6 = s6 ∧ s7 = s7 ∧ s8 = s8 ∧ s9 = s9 ∧ s10 = s10 ∧ s11 = s11 ∧ s12 = s12
  exact ⟨rfl, rfl, rfl, rfl, rfl, rfl, rfl, rfl, rfl, rfl, rfl, rfl, rfl, rfl⟩
set_option maxHeartbeats 4000000 in
theorem ff_X7_mark_L19 (K : Nat) (hK : 1099511627776 ≤ K) (T : Nat) (hT : T ≤ 900) (n0 : Nat) (n1 : Nat) (n2 : Nat) (n3 : Nat) (n4 : Nat) (n5 : Nat) (n6 : Nat) : ∀ (k : Nat) (x1 : Int32) (x2 : Int32) (x3 : Int32) (x4 : Int32) (x5 : Int32) (s0 : Int32) (s1 : Int32) (s2 : Int32) (s3 : Int32) (s4 : Nat → Int32) (s5 : Nat → Int32) (s6 : Nat → Int32) (s7 : Nat → Int32) (s8 : Nat → Int32) (s9 : Int32) (s10 : Int32) (s11 : Nat → Int32) (s12 : Nat → Int32), n0 = 1024 → 0 ≤ x5.toInt → x4.toInt ≤ 1024 → 2147483648 - x5.toInt < (k : Int) → zz_ok (m_X7_mark_L19 K n0 n1 n2 n3 n4 n5 n6 k x1 x2 x3 x4 x5 s0 s1 s2 s3 s4 s5 s6 s7 s8 s9 s10 s11 s12) (fun z => zz_wr (s4) (z.2.2.2.2.1) x5.toInt x4.toInt (x3) ∧ z.1 = s0 ∧ z.2.1 = s1 ∧ z.2.2.1 = s2 ∧ z.2.2.2.1 = s3 ∧ z.2.2.2.2.2.1 = s5 ∧ z.2.2.2.2.2.2.1 = s6 ∧ z.2.2.2.2.2.2.2.1 = s7 ∧ z.2.2.2.2.2.2.2.2.1 = s8 ∧ z.2.2.2.2.2.2.2.2.2.1 = s9 ∧ z.2.2.2.2.2.2.2.2.2.2.1 = s10 ∧ z.2.2.2.2.2.2.2.2.2.2.2.1 = s11 ∧ z.2.2.2.2.2.2.2.2.2.2.2.2 = s12) := by
  intro k
  induction k with
  | zero =>
    intro x1 x2 x3 x4 x5 s0 s1 s2 s3 s4 s5 s6 s7 s8 s9 s10 s11 s12 a0 a1 a2 hz9
    exfalso
    have g_x1 := zz_rg x1
    have g_x2 := zz_rg x2
    have g_x3 := zz_rg x3
    have g_x4 := zz_rg x4
    have g_x5 := zz_rg x5
    have g_s0 := zz_rg s0
    have g_s1 := zz_rg s1
    have g_s2 := zz_rg s2
    have g_s3 := zz_rg s3
    have g_s9 := zz_rg s9
    have g_s10 := zz_rg s10
    omega
  | succ k ih =>
    intro x1 x2 x3 x4 x5 s0 s1 s2 s3 s4 s5 s6 s7 s8 s9 s10 s11 s12 a0 a1 a2 hz9
    rw [m_X7_mark_L19_s]
    have g1 := zz_rg x1
    have g2 := zz_rg x2
    have g3 := zz_rg x3
    have g4 := zz_rg x4
    have g5 := zz_rg x5
    have g6 := zz_rg s0
    have g7 := zz_rg s1
    have g8 := zz_rg s2
    have g9 := zz_rg s3
    have g10 := zz_rg s9
    have g11 := zz_rg s10
    refine zz_ok_ite (fun c12 => ?_) (fun c12 => ?_)
    · have c12 := Int32.le_iff_toInt_le.mp c12
      refine zz_ok_some ?_
      show zz_wr (s4) (s4) x5.toInt x4.toInt (x3) ∧ s0 = s0 ∧ s1 = s1 ∧ s2 = s2 ∧ s3 = s3 ∧ s5 = s5 ∧ s6 = s6 ∧ s7 = s7 ∧ s8 = s8 ∧ s9 = s9 ∧ s10 = s10 ∧ s11 = s11 ∧ s12 = s12
      exact ⟨(by first | exact zz_wr_nil (by omega) | exact zz_wr_step (i := x5.toNatClampNeg) (by assumption) (by omega) (by omega) (by omega)), rfl, rfl, rfl, rfl, rfl, rfl, rfl, rfl, rfl, rfl, rfl, rfl⟩
    · have c12 := zz_nle c12
      refine zz_ok_chk (zz_ix (by omega) (by omega)) ?_
      have g13 := zz_tnI x5 (by omega)
      have l14 : (1 : Int32).toInt = 1 := rfl
      obtain ⟨k15, f16⟩ := zz_add x5 (1 : Int32)
      have g17 := zz_rg (x5 + 1)
      refine (ih x1 x2 x3 x4 (x5 + 1) s0 s1 s2 s3 (upd s4 x5.toNatClampNeg x3) s5 s6 s7 s8 s9 s10 s11 s12 a0 (by omega) a2 (by omega)).mono (fun z hz => ?_)
      obtain ⟨y18_0, y18_1, y18_2, y18_3, y18_4, y18_5, y18_6, y18_7, y18_8, y18_9, y18_10, y18_11, y18_12⟩ := z
      have q19 : zz_wr ((upd s4 x5.toNatClampNeg x3)) (y18_4) (x5 + 1).toInt x4.toInt (x3) := hz.1
      have q20 : y18_0 = s0 := hz.2.1
      have q21 : y18_1 = s1 := hz.2.2.1
      have q22 : y18_2 = s2 := hz.2.2.2.1
      have q23 : y18_3 = s3 := hz.2.2.2.2.1
      have q24 : y18_5 = s5 := hz.2.2.2.2.2.1
      have q25 : y18_6 = s6 := hz.2.2.2.2.2.2.1
      have q26 : y18_7 = s7 := hz.2.2.2.2.2.2.2.1
      have q27 : y18_8 = s8 := hz.2.2.2.2.2.2.2.2.1
      have q28 : y18_9 = s9 := hz.2.2.2.2.2.2.2.2.2.1
      have q29 : y18_10 = s10 := hz.2.2.2.2.2.2.2.2.2.2.1
      have q30 : y18_11 = s11 := hz.2.2.2.2.2.2.2.2.2.2.2.1
      have q31 : y18_12 = s12 := hz.2.2.2.2.2.2.2.2.2.2.2.2
      clear hz
      have e32 : s0 = y18_0 := q20.symm
      subst e32
      have e33 : s1 = y18_1 := q21.symm
      subst e33
      have e34 : s2 = y18_2 := q22.symm
      subst e34
      have e35 : s3 = y18_3 := q23.symm
      subst e35
      have e36 : s5 = y18_5 := q24.symm
      subst e36
      have e37 : s6 = y18_6 := q25.symm
      subst e37
      have e38 : s7 = y18_7 := q26.symm
      subst e38
      have e39 : s8 = y18_8 := q27.symm
      subst e39
      have e40 : s9 = y18_9 := q28.symm
      subst e40
      have e41 : s10 = y18_10 := q29.symm
      subst e41
      have e42 : s11 = y18_11 := q30.symm
      subst e42
      have e43 : s12 = y18_12 := q31.symm
      subst e43
      show zz_wr (s4) (y18_4) x5.toInt x4.toInt (x3) ∧ s0 = s0 ∧ s1 = s1 ∧ s2 = s2 ∧ s3 = s3 ∧ s5 = s5 ∧ s6 = s6 ∧ s7 = s7 ∧ s8 = s8 ∧ s9 = s9 ∧ s10 = s10 ∧ s11 = s11 ∧ s12 = s12
      exact ⟨(by first | exact zz_wr_nil (by omega) | exact zz_wr_step (i := x5.toNatClampNeg) (by assumption) (by omega) (by omega) (by omega)), rfl, rfl, rfl, rfl, rfl, rfl, rfl, rfl, rfl, rfl, rfl, rfl⟩
set_option maxHeartbeats 4000000 in
theorem ff_X7_mark (K : Nat) (hK : 1099511627776 ≤ K) (T : Nat) (hT : T ≤ 900) (n0 : Nat) (n1 : Nat) (n2 : Nat) (n3 : Nat) (n4 : Nat) (n5 : Nat) (n6 : Nat) (p1 : Int32) (p2 : Int32) (p3 : Int32) (s0 : Int32) (s1 : Int32) (s2 : Int32) (s3 : Int32) (s4 : Nat → Int32) (s5 : Nat → Int32) (s6 : Nat → Int32) (s7 : Nat → Int32) (s8 : Nat → Int32) (s9 : Int32) (s10 : Int32) (s11 : Nat → Int32) (s12 : Nat → Int32) (a0 : n0 = 1024) (a1 : 0 ≤ p1.toInt) (a2 : 0 ≤ p2.toInt) (a3 : p1.toInt + p2.toInt ≤ s0.toInt) (a4 : s0.toInt ≤ 1024) : zz_ok (m_X7_mark K n0 n1 n2 n3 n4 n5 n6 p1 p2 p3 s0 s1 s2 s3 s4 s5 s6 s7 s8 s9 s10 s11 s12) (fun z => zz_wr (s4) (z.2.2.2.2.1) p1.toInt (p1.toInt + p2.toInt) (p3) ∧ z.1 = s0 ∧ z.2.1 = s1 ∧ z.2.2.1 = s2 ∧ z.2.2.2.1 = s3 ∧ z.2.2.2.2.2.1 = s5 ∧ z.2.2.2.2.2.2.1 = s6 ∧ z.2.2.2.2.2.2.2.1 = s7 ∧ z.2.2.2.2.2.2.2.2.1 = s8 ∧ z.2.2.2.2.2.2.2.2.2.1 = s9 ∧ z.2.2.2.2.2.2.2.2.2.2.1 = s10 ∧ z.2.2.2.2.2.2.2.2.2.2.2.1 = s11 ∧ z.2.2.2.2.2.2.2.2.2.2.2.2 = s12) := by
  have g1 := zz_rg p1
  have g2 := zz_rg p2
  have g3 := zz_rg p3
  have g4 := zz_rg s0
  have g5 := zz_rg s1
  have g6 := zz_rg s2
  have g7 := zz_rg s3
  have g8 := zz_rg s9
  have g9 := zz_rg s10
  unfold m_X7_mark
  obtain ⟨k10, f11⟩ := zz_add p1 p2
  have g12 := zz_rg (p1 + p2)
  have f13 := zz_minF (p1 + p2) s0
  have g14 := zz_rg (zz_min (p1 + p2) s0)
  have l15 : (0 : Int32).toInt = 0 := rfl
  have f16 := zz_maxF p1 (0 : Int32)
  have g17 := zz_rg (zz_max p1 ((0 : Int32)))
  refine (ff_X7_mark_L19 K hK T hT n0 n1 n2 n3 n4 n5 n6 K p1 p2 p3 (zz_min (p1 + p2) s0) (zz_max p1 ((0 : Int32))) s0 s1 s2 s3 s4 s5 s6 s7 s8 s9 s10 s11 s12 a0 (by omega) (by omega) (by omega)).mono (fun z hz => ?_)
  obtain ⟨y18_0, y18_1, y18_2, y18_3, y18_4, y18_5, y18_6, y18_7, y18_8, y18_9, y18_10, y18_11, y18_12⟩ := z
  have q19 : zz_wr (s4) (y18_4) (zz_max p1 ((0 : Int32))).toInt (zz_min (p1 + p2) s0).toInt (p3) := hz.1
  have q20 : y18_0 = s0 := hz.2.1
  have q21 : y18_1 = s1 := hz.2.2.1
  have q22 : y18_2 = s2 := hz.2.2.2.1
  have q23 : y18_3 = s3 := hz.2.2.2.2.1
  have q24 : y18_5 = s5 := hz.2.2.2.2.2.1
  have q25 : y18_6 = s6 := hz.2.2.2.2.2.2.1
  have q26 : y18_7 = s7 := hz.2.2.2.2.2.2.2.1
  have q27 : y18_8 = s8 := hz.2.2.2.2.2.2.2.2.1
  have q28 : y18_9 = s9 := hz.2.2.2.2.2.2.2.2.2.1
  have q29 : y18_10 = s10 := hz.2.2.2.2.2.2.2.2.2.2.1
  have q30 : y18_11 = s11 := hz.2.2.2.2.2.2.2.2.2.2.2.1
  have q31 : y18_12 = s12 := hz.2.2.2.2.2.2.2.2.2.2.2.2
  clear hz
  have e32 : s0 = y18_0 := q20.symm
  subst e32
  have e33 : s1 = y18_1 := q21.symm
  subst e33
  have e34 : s2 = y18_2 := q22.symm
  subst e34
  have e35 : s3 = y18_3 := q23.symm
  subst e35
  have e36 : s5 = y18_5 := q24.symm
  subst e36
  have e37 : s6 = y18_6 := q25.symm
  subst e37
  have e38 : s7 = y18_7 := q26.symm
  subst e38
  have e39 : s8 = y18_8 := q27.symm
  subst e39
  have e40 : s9 = y18_9 := q28.symm
  subst e40
  have e41 : s10 = y18_10 := q29.symm
  subst e41
  have e42 : s11 = y18_11 := q30.symm
  subst e42
  have e43 : s12 = y18_12 := q31.symm
  subst e43
  show zz_wr (s4) (y18_4) p1.toInt (p1.toInt + p2.toInt) (p3) ∧ s0 = s0 ∧ s1 = s1 ∧ s2 = s2 ∧ s3 = s3 ∧ s5 = s5 ∧ s6 = s6 ∧ s7 = s7 ∧ s8 = s8 ∧ s9 = s9 ∧ s10 = s10 ∧ s11 = s11 ∧ s12 = s12
  exact ⟨(by exact zz_wr_cg (by assumption) (by omega) (by omega) rfl), rfl, rfl, rfl, rfl, rfl, rfl, rfl, rfl, rfl, rfl, rfl, rfl⟩
set_option maxHeartbeats 4000000 in
theorem ff_X7_slotOf_L2 (K : Nat) (hK : 1099511627776 ≤ K) (T : Nat) (hT : T ≤ 900) (n0 : Nat) (n1 : Nat) (n2 : Nat) (n3 : Nat) (n4 : Nat) (n5 : Nat) (n6 : Nat) : ∀ (k : Nat) (x1 : Int32) (x2 : Int32) (s0 : Int32) (s1 : Int32) (s2 : Int32) (s3 : Int32) (s4 : Nat → Int32) (s5 : Nat → Int32) (s6 : Nat → Int32) (s7 : Nat → Int32) (s8 : Nat → Int32) (s9 : Int32) (s10 : Int32) (s11 : Nat → Int32) (s12 : Nat → Int32), n1 = 200 → 0 ≤ s1.toInt → s1.toInt ≤ 200 → 0 ≤ x2.toInt → x2.toInt ≤ s1.toInt → zz_ns (s5) (x1) x2.toInt → s1.toInt - x2.toInt < (k : Int) → zz_ok (m_X7_slotOf_L2 K n0 n1 n2 n3 n4 n5 n6 k x1 x2 s0 s1 s2 s3 s4 s5 s6 s7 s8 s9 s10 s11 s12) (fun z => zz_so (s5) (x1) s1.toInt z.1.toInt ∧ -1 ≤ z.1.toInt ∧ z.1.toInt < s1.toInt ∧ z.2.1 = s0 ∧ z.2.2.1 = s1 ∧ z.2.2.2.1 = s2 ∧ z.2.2.2.2.1 = s3 ∧ z.2.2.2.2.2.1 = s4 ∧ z.2.2.2.2.2.2.1 = s5 ∧ z.2.2.2.2.2.2.2.1 = s6 ∧ z.2.2.2.2.2.2.2.2.1 = s7 ∧ z.2.2.2.2.2.2.2.2.2.1 = s8 ∧ z.2.2.2.2.2.2.2.2.2.2.1 = s9 ∧ z.2.2.2.2.2.2.2.2.2.2.2.1 = s10 ∧ z.2.2.2.2.2.2.2.2.2.2.2.2.1 = s11 ∧ z.2.2.2.2.2.2.2.2.2.2.2.2.2 = s12) := by
  intro k
  induction k with
  | zero =>
    intro x1 x2 s0 s1 s2 s3 s4 s5 s6 s7 s8 s9 s10 s11 s12 a0 a1 a2 a3 a4 a5 hz9
    exfalso
    have g_x1 := zz_rg x1
    have g_x2 := zz_rg x2
    have g_s0 := zz_rg s0
    have g_s1 := zz_rg s1
    have g_s2 := zz_rg s2
    have g_s3 := zz_rg s3
    have g_s9 := zz_rg s9
    have g_s10 := zz_rg s10
    omega
  | succ k ih =>
    intro x1 x2 s0 s1 s2 s3 s4 s5 s6 s7 s8 s9 s10 s11 s12 a0 a1 a2 a3 a4 a5 hz9
    rw [m_X7_slotOf_L2_s]
    have g1 := zz_rg x1
    have g2 := zz_rg x2
    have g3 := zz_rg s0
    have g4 := zz_rg s1
    have g5 := zz_rg s2
    have g6 := zz_rg s3
    have g7 := zz_rg s9
    have g8 := zz_rg s10
    refine zz_ok_ite (fun c9 => ?_) (fun c9 => ?_)
    · have c9 := Int32.le_iff_toInt_le.mp c9
      have l10 : (-1 : Int32).toInt = -1 := rfl
      refine zz_ok_some ?_
      show zz_so (s5) (x1) s1.toInt (-1 : Int32).toInt ∧ -1 ≤ (-1 : Int32).toInt ∧ (-1 : Int32).toInt < s1.toInt ∧ s0 = s0 ∧ s1 = s1 ∧ s2 = s2 ∧ s3 = s3 ∧ s4 = s4 ∧ s5 = s5 ∧ s6 = s6 ∧ s7 = s7 ∧ s8 = s8 ∧ s9 = s9 ∧ s10 = s10 ∧ s11 = s11 ∧ s12 = s12
      exact ⟨(by first | assumption | exact zz_so_no (by assumption) (by omega) (by omega) | exact zz_so_yes (j := x2.toNatClampNeg) (by omega) (by omega) (by omega)), (by omega), (by omega), rfl, rfl, rfl, rfl, rfl, rfl, rfl, rfl, rfl, rfl, rfl, rfl, rfl⟩
    · have c9 := zz_nle c9
      refine zz_ok_chk (zz_ix (by omega) (by omega)) ?_
      have g11 := zz_tnI x2 (by omega)
      have g13 := zz_rg (s5 x2.toNatClampNeg)
      refine zz_ok_ite (fun c12 => ?_) (fun c12 => ?_)
      · have c12 := congrArg Int32.toInt c12
        refine zz_ok_some ?_
        show zz_so (s5) (x1) s1.toInt x2.toInt ∧ -1 ≤ x2.toInt ∧ x2.toInt < s1.toInt ∧ s0 = s0 ∧ s1 = s1 ∧ s2 = s2 ∧ s3 = s3 ∧ s4 = s4 ∧ s5 = s5 ∧ s6 = s6 ∧ s7 = s7 ∧ s8 = s8 ∧ s9 = s9 ∧ s10 = s10 ∧ s11 = s11 ∧ s12 = s12
        exact ⟨(by first | assumption | exact zz_so_no (by assumption) (by omega) (by omega) | exact zz_so_yes (j := x2.toNatClampNeg) (by omega) (by omega) (by omega)), (by omega), (by omega), rfl, rfl, rfl, rfl, rfl, rfl, rfl, rfl, rfl, rfl, rfl, rfl, rfl⟩
      · have c12 := zz_neq c12
        have l14 : (1 : Int32).toInt = 1 := rfl
        obtain ⟨k15, f16⟩ := zz_add x2 (1 : Int32)
        have g17 := zz_rg (x2 + 1)
        refine (ih x1 (x2 + 1) s0 s1 s2 s3 s4 s5 s6 s7 s8 s9 s10 s11 s12 a0 a1 a2 (by omega) (by omega) (by exact zz_ns_step (j := x2.toNatClampNeg) (by assumption) (by omega) (by omega) (by omega)) (by omega)).mono (fun z hz => ?_)
        obtain ⟨y18_0, y18_1, y18_2, y18_3, y18_4, y18_5, y18_6, y18_7, y18_8, y18_9, y18_10, y18_11, y18_12, y18_13⟩ := z
        have q19 : zz_so (s5) (x1) s1.toInt y18_0.toInt := hz.1
        have q20 : -1 ≤ y18_0.toInt := hz.2.1
        have q21 : y18_0.toInt < s1.toInt := hz.2.2.1
        have q22 : y18_1 = s0 := hz.2.2.2.1
        have q23 : y18_2 = s1 := hz.2.2.2.2.1
        have q24 : y18_3 = s2 := hz.2.2.2.2.2.1
        have q25 : y18_4 = s3 := hz.2.2.2.2.2.2.1
        have q26 : y18_5 = s4 := hz.2.2.2.2.2.2.2.1
        have q27 : y18_6 = s5 := hz.2.2.2.2.2.2.2.2.1
        have q28 : y18_7 = s6 := hz.2.2.2.2.2.2.2.2.2.1
        have q29 : y18_8 = s7 := hz.2.2.2.2.2.2.2.2.2.2.1
        have q30 : y18_9 = s8 := hz.2.2.2.2.2.2.2.2.2.2.2.1
        have q31 : y18_10 = s9 := hz.2.2.2.2.2.2.2.2.2.2.2.2.1
        have q32 : y18_11 = s10 := hz.2.2.2.2.2.2.2.2.2.2.2.2.2.1
        have q33 : y18_12 = s11 := hz.2.2.2.2.2.2.2.2.2.2.2.2.2.2.1
        have q34 : y18_13 = s12 := hz.2.2.2.2.2.2.2.2.2.2.2.2.2.2.2
        clear hz
        have e35 : s0 = y18_1 := q22.symm
        subst e35
        have e36 : s1 = y18_2 := q23.symm
        subst e36
        have e37 : s2 = y18_3 := q24.symm
        subst e37
        have e38 : s3 = y18_4 := q25.symm
        subst e38
        have e39 : s4 = y18_5 := q26.symm
        subst e39
        have e40 : s5 = y18_6 := q27.symm
        subst e40
        have e41 : s6 = y18_7 := q28.symm
        subst e41
        have e42 : s7 = y18_8 := q29.symm
        subst e42
        have e43 : s8 = y18_9 := q30.symm
        subst e43
        have e44 : s9 = y18_10 := q31.symm
        subst e44
        have e45 : s10 = y18_11 := q32.symm
        subst e45
        have e46 : s11 = y18_12 := q33.symm
        subst e46
        have e47 : s12 = y18_13 := q34.symm
        subst e47
        have g48 := zz_rg y18_0
        show zz_so (s5) (x1) s1.toInt y18_0.toInt ∧ -1 ≤ y18_0.toInt ∧ y18_0.toInt < s1.toInt ∧ s0 = s0 ∧ s1 = s1 ∧ s2 = s2 ∧ s3 = s3 ∧ s4 = s4 ∧ s5 = s5 ∧ s6 = s6 ∧ s7 = s7 ∧ s8 = s8 ∧ s9 = s9 ∧ s10 = s10 ∧ s11 = s11 ∧ s12 = s12
        exact ⟨q19, q20, q21, rfl, rfl, rfl, rfl, rfl, rfl, rfl, rfl, rfl, rfl, rfl, rfl, rfl⟩
set_option maxHeartbeats 4000000 in
theorem ff_X7_slotOf (K : Nat) (hK : 1099511627776 ≤ K) (T : Nat) (hT : T ≤ 900) (n0 : Nat) (n1 : Nat) (n2 : Nat) (n3 : Nat) (n4 : Nat) (n5 : Nat) (n6 : Nat) (p1 : Int32) (s0 : Int32) (s1 : Int32) (s2 : Int32) (s3 : Int32) (s4 : Nat → Int32) (s5 : Nat → Int32) (s6 : Nat → Int32) (s7 : Nat → Int32) (s8 : Nat → Int32) (s9 : Int32) (s10 : Int32) (s11 : Nat → Int32) (s12 : Nat → Int32) (a0 : n1 = 200) (a1 : 0 ≤ s1.toInt) (a2 : s1.toInt ≤ 200) : zz_ok (m_X7_slotOf K n0 n1 n2 n3 n4 n5 n6 p1 s0 s1 s2 s3 s4 s5 s6 s7 s8 s9 s10 s11 s12) (fun z => zz_so (s5) (p1) s1.toInt z.1.toInt ∧ -1 ≤ z.1.toInt ∧ z.1.toInt < s1.toInt ∧ z.2.1 = s0 ∧ z.2.2.1 = s1 ∧ z.2.2.2.1 = s2 ∧ z.2.2.2.2.1 = s3 ∧ z.2.2.2.2.2.1 = s4 ∧ z.2.2.2.2.2.2.1 = s5 ∧ z.2.2.2.2.2.2.2.1 = s6 ∧ z.2.2.2.2.2.2.2.2.1 = s7 ∧ z.2.2.2.2.2.2.2.2.2.1 = s8 ∧ z.2.2.2.2.2.2.2.2.2.2.1 = s9 ∧ z.2.2.2.2.2.2.2.2.2.2.2.1 = s10 ∧ z.2.2.2.2.2.2.2.2.2.2.2.2.1 = s11 ∧ z.2.2.2.2.2.2.2.2.2.2.2.2.2 = s12) := by
  have g1 := zz_rg p1
  have g2 := zz_rg s0
  have g3 := zz_rg s1
  have g4 := zz_rg s2
  have g5 := zz_rg s3
  have g6 := zz_rg s9
  have g7 := zz_rg s10
  unfold m_X7_slotOf
  have l8 : (0 : Int32).toInt = 0 := rfl
  refine (ff_X7_slotOf_L2 K hK T hT n0 n1 n2 n3 n4 n5 n6 K p1 ((0 : Int32)) s0 s1 s2 s3 s4 s5 s6 s7 s8 s9 s10 s11 s12 a0 a1 a2 (by omega) (by omega) (by exact zz_ns_0 (by omega)) (by omega)).mono (fun z hz => ?_)
  obtain ⟨y9_0, y9_1, y9_2, y9_3, y9_4, y9_5, y9_6, y9_7, y9_8, y9_9, y9_10, y9_11, y9_12, y9_13⟩ := z
  have q10 : zz_so (s5) (p1) s1.toInt y9_0.toInt := hz.1
  have q11 : -1 ≤ y9_0.toInt := hz.2.1
  have q12 : y9_0.toInt < s1.toInt := hz.2.2.1
  have q13 : y9_1 = s0 := hz.2.2.2.1
  have q14 : y9_2 = s1 := hz.2.2.2.2.1
  have q15 : y9_3 = s2 := hz.2.2.2.2.2.1
  have q16 : y9_4 = s3 := hz.2.2.2.2.2.2.1
  have q17 : y9_5 = s4 := hz.2.2.2.2.2.2.2.1
  have q18 : y9_6 = s5 := hz.2.2.2.2.2.2.2.2.1
  have q19 : y9_7 = s6 := hz.2.2.2.2.2.2.2.2.2.1
  have q20 : y9_8 = s7 := hz.2.2.2.2.2.2.2.2.2.2.1
  have q21 : y9_9 = s8 := hz.2.2.2.2.2.2.2.2.2.2.2.1
  have q22 : y9_10 = s9 := hz.2.2.2.2.2.2.2.2.2.2.2.2.1
  have q23 : y9_11 = s10 := hz.2.2.2.2.2.2.2.2.2.2.2.2.2.1
  have q24 : y9_12 = s11 := hz.2.2.2.2.2.2.2.2.2.2.2.2.2.2.1
  have q25 : y9_13 = s12 := hz.2.2.2.2.2.2.2.2.2.2.2.2.2.2.2
  clear hz
  have e26 : s0 = y9_1 := q13.symm
  subst e26
  have e27 : s1 = y9_2 := q14.symm
  subst e27
  have e28 : s2 = y9_3 := q15.symm
  subst e28
  have e29 : s3 = y9_4 := q16.symm
  subst e29
  have e30 : s4 = y9_5 := q17.symm
  subst e30
  have e31 : s5 = y9_6 := q18.symm
  subst e31
  have e32 : s6 = y9_7 := q19.symm
  subst e32
  have e33 : s7 = y9_8 := q20.symm
  subst e33
  have e34 : s8 = y9_9 := q21.symm
  subst e34
  have e35 : s9 = y9_10 := q22.symm
  subst e35
  have e36 : s10 = y9_11 := q23.symm
  subst e36
  have e37 : s11 = y9_12 := q24.symm
  subst e37
  have e38 : s12 = y9_13 := q25.symm
  subst e38
  have g39 := zz_rg y9_0
  show zz_so (s5) (p1) s1.toInt y9_0.toInt ∧ -1 ≤ y9_0.toInt ∧ y9_0.toInt < s1.toInt ∧ s0 = s0 ∧ s1 = s1 ∧ s2 = s2 ∧ s3 = s3 ∧ s4 = s4 ∧ s5 = s5 ∧ s6 = s6 ∧ s7 = s7 ∧ s8 = s8 ∧ s9 = s9 ∧ s10 = s10 ∧ s11 = s11 ∧ s12 = s12
  exact ⟨q10, q11, q12, rfl, rfl, rfl, rfl, rfl, rfl, rfl, rfl, rfl, rfl, rfl, rfl, rfl⟩
set_option maxHeartbeats 4000000 in
theorem ff_X7_placeOf (K : Nat) (hK : 1099511627776 ≤ K) (T : Nat) (hT : T ≤ 900) (n0 : Nat) (n1 : Nat) (n2 : Nat) (n3 : Nat) (n4 : Nat) (n5 : Nat) (n6 : Nat) (p1 : Int32) (s0 : Int32) (s1 : Int32) (s2 : Int32) (s3 : Int32) (s4 : Nat → Int32) (s5 : Nat → Int32) (s6 : Nat → Int32) (s7 : Nat → Int32) (s8 : Nat → Int32) (s9 : Int32) (s10 : Int32) (s11 : Nat → Int32) (s12 : Nat → Int32) (a0 : n2 = 200) (a1 : 0 ≤ p1.toInt) (a2 : p1.toInt < s1.toInt) (a3 : s1.toInt ≤ 200) : zz_ok (m_X7_placeOf K n0 n1 n2 n3 n4 n5 n6 p1 s0 s1 s2 s3 s4 s5 s6 s7 s8 s9 s10 s11 s12) (fun z => z.1 = s6 p1.toNatClampNeg ∧ z.2.1 = s0 ∧ z.2.2.1 = s1 ∧ z.2.2.2.1 = s2 ∧ z.2.2.2.2.1 = s3 ∧ z.2.2.2.2.2.1 = s4 ∧ z.2.2.2.2.2.2.1 = s5 ∧ z.2.2.2.2.2.2.2.1 = s6 ∧ z.2.2.2.2.2.2.2.2.1 = s7 ∧ z.2.2.2.2.2.2.2.2.2.1 = s8 ∧ z.2.2.2.2.2.2.2.2.2.2.1 = s9 ∧ z.2.2.2.2.2.2.2.2.2.2.2.1 = s10 ∧ z.2.2.2.2.2.2.2.2.2.2.2.2.1 = s11 ∧ z.2.2.2.2.2.2.2.2.2.2.2.2.2 = s12) := by
  have g1 := zz_rg p1
  have g2 := zz_rg s0
  have g3 := zz_rg s1
  have g4 := zz_rg s2
  have g5 := zz_rg s3
  have g6 := zz_rg s9
  have g7 := zz_rg s10
  unfold m_X7_placeOf
  have l9 : (0 : Int32).toInt = 0 := rfl
  refine zz_ok_ite (fun c8 => ?_) (fun c8 => ?_)
  · have c8 := Int32.lt_iff_toInt_lt.mp c8
    refine zz_ok_some ?_
    show (-1 : Int32) = s6 p1.toNatClampNeg ∧ s0 = s0 ∧ s1 = s1 ∧ s2 = s2 ∧ s3 = s3 ∧ s4 = s4 ∧ s5 = s5 ∧ s6 = s6 ∧ s7 = s7 ∧ s8 = s8 ∧ s9 = s9 ∧ s10 = s10 ∧ s11 = s11 ∧ s12 = s12
    exact ⟨(by first | rfl | (exfalso; omega)), (by first | rfl | (exfalso; omega)), (by first | rfl | (exfalso; omega)), (by first | rfl | (exfalso; omega)), (by first | rfl | (exfalso; omega)), (by first | rfl | (exfalso; omega)), (by first | rfl | (exfalso; omega)), (by first | rfl | (exfalso; omega)), (by first | rfl | (exfalso; omega)), (by first | rfl | (exfalso; omega)), (by first | rfl | (exfalso; omega)), (by first | rfl | (exfalso; omega)), (by first | rfl | (exfalso; omega)), (by first | rfl | (exfalso; omega))⟩
  · have c8 := zz_nlt c8
    refine zz_ok_ite (fun c10 => ?_) (fun c10 => ?_)
    · have c10 := Int32.lt_iff_toInt_lt.mp c10
      refine zz_ok_chk (zz_ix (by omega) (by omega)) ?_
      have g11 := zz_tnI p1 (by omega)
      refine zz_ok_some ?_
      show (s6 p1.toNatClampNeg) = s6 p1.toNatClampNeg ∧ s0 = s0 ∧ s1 = s1 ∧ s2 = s2 ∧ s3 = s3 ∧ s4 = s4 ∧ s5 = s5 ∧ s6 = s6 ∧ s7 = s7 ∧ s8 = s8 ∧ s9 = s9 ∧ s10 = s10 ∧ s11 = s11 ∧ s12 = s12
      exact ⟨(by first | rfl | (exfalso; omega)), (by first | rfl | (exfalso; omega)), (by first | rfl | (exfalso; omega)), (by first | rfl | (exfalso; omega)), (by first | rfl | (exfalso; omega)), (by first | rfl | (exfalso; omega)), (by first | rfl | (exfalso; omega)), (by first | rfl | (exfalso; omega)), (by first | rfl | (exfalso; omega)), (by first | rfl | (exfalso; omega)), (by first | rfl | (exfalso; omega)), (by first | rfl | (exfalso; omega)), (by first | rfl | (exfalso; omega)), (by first | rfl | (exfalso; omega))⟩
    · have c10 := zz_nlt c10
      refine zz_ok_some ?_
      show (-1 : Int32) = s6 p1.toNatClampNeg ∧ s0 = s0 ∧ s1 = s1 ∧ s2 = s2 ∧ s3 = s3 ∧ s4 = s4 ∧ s5 = s5 ∧ s6 = s6 ∧ s7 = s7 ∧ s8 = s8 ∧ s9 = s9 ∧ s10 = s10 ∧ s11 = s11 ∧ s12 = s12
      exact ⟨(by first | rfl | (exfalso; omega)), (by first | rfl | (exfalso; omega)), (by first | rfl | (exfalso; omega)), (by first | rfl | (exfalso; omega)), (by first | rfl | (exfalso; omega)), (by first | rfl | (exfalso; omega)), (by first | rfl | (exfalso; omega)), (by first | rfl | (exfalso; omega)), (by first | rfl | (exfalso; omega)), (by first | rfl | (exfalso; omega)), (by first | rfl | (exfalso; omega)), (by first | rfl | (exfalso; omega)), (by first | rfl | (exfalso; omega)), (by first | rfl | (exfalso; omega))⟩
set_option maxHeartbeats 4000000 in
theorem ff_X7_spanOf (K : Nat) (hK : 1099511627776 ≤ K) (T : Nat) (hT : T ≤ 900) (n0 : Nat) (n1 : Nat) (n2 : Nat) (n3 : Nat) (n4 : Nat) (n5 : Nat) (n6 : Nat) (p1 : Int32) (s0 : Int32) (s1 : Int32) (s2 : Int32) (s3 : Int32) (s4 : Nat → Int32) (s5 : Nat → Int32) (s6 : Nat → Int32) (s7 : Nat → Int32) (s8 : Nat → Int32) (s9 : Int32) (s10 : Int32) (s11 : Nat → Int32) (s12 : Nat → Int32) (a0 : n3 = 200) (a1 : 0 ≤ p1.toInt) (a2 : p1.toInt < s1.toInt) (a3 : s1.toInt ≤ 200) : zz_ok (m_X7_spanOf K n0 n1 n2 n3 n4 n5 n6 p1 s0 s1 s2 s3 s4 s5 s6 s7 s8 s9 s10 s11 s12) (fun z => z.1 = s7 p1.toNatClampNeg ∧ z.2.1 = s0 ∧ z.2.2.1 = s1 ∧ z.2.2.2.1 = s2 ∧ z.2.2.2.2.1 = s3 ∧ z.2.2.2.2.2.1 = s4 ∧ z.2.2.2.2.2.2.1 = s5 ∧ z.2.2.2.2.2.2.2.1 = s6 ∧ z.2.2.2.2.2.2.2.2.1 = s7 ∧ z.2.2.2.2.2.2.2.2.2.1 = s8 ∧ z.2.2.2.2.2.2.2.2.2.2.1 = s9 ∧ z.2.2.2.2.2.2.2.2.2.2.2.1 = s10 ∧ z.2.2.2.2.2.2.2.2.2.2.2.2.1 = s11 ∧ z.2.2.2.2.2.2.2.2.2.2.2.2.2 = s12) := by
  have g1 := zz_rg p1
  have g2 := zz_rg s0
  have g3 := zz_rg s1
  have g4 := zz_rg s2
  have g5 := zz_rg s3
  have g6 := zz_rg s9
  have g7 := zz_rg s10
  unfold m_X7_spanOf
  have l9 : (0 : Int32).toInt = 0 := rfl
  refine zz_ok_ite (fun c8 => ?_) (fun c8 => ?_)
  · have c8 := Int32.lt_iff_toInt_lt.mp c8
    refine zz_ok_some ?_
    show (0 : Int32) = s7 p1.toNatClampNeg ∧ s0 = s0 ∧ s1 = s1 ∧ s2 = s2 ∧ s3 = s3 ∧ s4 = s4 ∧ s5 = s5 ∧ s6 = s6 ∧ s7 = s7 ∧ s8 = s8 ∧ s9 = s9 ∧ s10 = s10 ∧ s11 = s11 ∧ s12 = s12
    exact ⟨(by first | rfl | (exfalso; omega)), (by first | rfl | (exfalso; omega)), (by first | rfl | (exfalso; omega)), (by first | rfl | (exfalso; omega)), (by first | rfl | (exfalso; omega)), (by first | rfl | (exfalso; omega)), (by first | rfl | (exfalso; omega)), (by first | rfl | (exfalso; omega)), (by first | rfl | (exfalso; omega)), (by first | rfl | (exfalso; omega)), (by first | rfl | (exfalso; omega)), (by first | rfl | (exfalso; omega)), (by first | rfl | (exfalso; omega)), (by first | rfl | (exfalso; omega))⟩
  · have c8 := zz_nlt c8
    refine zz_ok_ite (fun c10 => ?_) (fun c10 => ?_)
    · have c10 := Int32.lt_iff_toInt_lt.mp c10
      refine zz_ok_chk (zz_ix (by omega) (by omega)) ?_
      have g11 := zz_tnI p1 (by omega)
      refine zz_ok_some ?_
      show (s7 p1.toNatClampNeg) = s7 p1.toNatClampNeg ∧ s0 = s0 ∧ s1 = s1 ∧ s2 = s2 ∧ s3 = s3 ∧ s4 = s4 ∧ s5 = s5 ∧ s6 = s6 ∧ s7 = s7 ∧ s8 = s8 ∧ s9 = s9 ∧ s10 = s10 ∧ s11 = s11 ∧ s12 = s12
      exact ⟨(by first | rfl | (exfalso; omega)), (by first | rfl | (exfalso; omega)), (by first | rfl | (exfalso; omega)), (by first | rfl | (exfalso; omega)), (by first | rfl | (exfalso; omega)), (by first | rfl | (exfalso; omega)), (by first | rfl | (exfalso; omega)), (by first | rfl | (exfalso; omega)), (by first | rfl | (exfalso; omega)), (by first | rfl | (exfalso; omega)), (by first | rfl | (exfalso; omega)), (by first | rfl | (exfalso; omega)), (by first | rfl | (exfalso; omega)), (by first | rfl | (exfalso; omega))⟩
    · have c10 := zz_nlt c10
      refine zz_ok_some ?_
      show (0 : Int32) = s7 p1.toNatClampNeg ∧ s0 = s0 ∧ s1 = s1 ∧ s2 = s2 ∧ s3 = s3 ∧ s4 = s4 ∧ s5 = s5 ∧ s6 = s6 ∧ s7 = s7 ∧ s8 = s8 ∧ s9 = s9 ∧ s10 = s10 ∧ s11 = s11 ∧ s12 = s12
      exact ⟨(by first | rfl | (exfalso; omega)), (by first | rfl | (exfalso; omega)), (by first | rfl | (exfalso; omega)), (by first | rfl | (exfalso; omega)), (by first | rfl | (exfalso; omega)), (by first | rfl | (exfalso; omega)), (by first | rfl | (exfalso; omega)), (by first | rfl | (exfalso; omega)), (by first | rfl | (exfalso; omega)), (by first | rfl | (exfalso; omega)), (by first | rfl | (exfalso; omega)), (by first | rfl | (exfalso; omega)), (by first | rfl | (exfalso; omega)), (by first | rfl | (exfalso; omega))⟩
set_option maxHeartbeats 4000000 in
theorem ff_X7_askedOf (K : Nat) (hK : 1099511627776 ≤ K) (T : Nat) (hT : T ≤ 900) (n0 : Nat) (n1 : Nat) (n2 : Nat) (n3 : Nat) (n4 : Nat) (n5 : Nat) (n6 : Nat) (p1 : Int32) (s0 : Int32) (s1 : Int32) (s2 : Int32) (s3 : Int32) (s4 : Nat → Int32) (s5 : Nat → Int32) (s6 : Nat → Int32) (s7 : Nat → Int32) (s8 : Nat → Int32) (s9 : Int32) (s10 : Int32) (s11 : Nat → Int32) (s12 : Nat → Int32) (a0 : n4 = 200) (a1 : 0 ≤ p1.toInt) (a2 : p1.toInt < s1.toInt) (a3 : s1.toInt ≤ 200) : zz_ok (m_X7_askedOf K n0 n1 n2 n3 n4 n5 n6 p1 s0 s1 s2 s3 s4 s5 s6 s7 s8 s9 s10 s11 s12) (fun z => z.1 = s8 p1.toNatClampNeg ∧ z.2.1 = s0 ∧ z.2.2.1 = s1 ∧ z.2.2.2.1 = s2 ∧ z.2.2.2.2.1 = s3 ∧ z.2.2.2.2.2.1 = s4 ∧ z.2.2.2.2.2.2.1 = s5 ∧ z.2.2.2.2.2.2.2.1 = s6 ∧ z.2.2.2.2.2.2.2.2.1 = s7 ∧ z.2.2.2.2.2.2.2.2.2.1 = s8 ∧ z.2.2.2.2.2.2.2.2.2.2.1 = s9 ∧ z.2.2.2.2.2.2.2.2.2.2.2.1 = s10 ∧ z.2.2.2.2.2.2.2.2.2.2.2.2.1 = s11 ∧ z.2.2.2.2.2.2.2.2.2.2.2.2.2 = s12) := by
  have g1 := zz_rg p1
  have g2 := zz_rg s0
  have g3 := zz_rg s1
  have g4 := zz_rg s2
  have g5 := zz_rg s3
  have g6 := zz_rg s9
  have g7 := zz_rg s10
  unfold m_X7_askedOf
  have l9 : (0 : Int32).toInt = 0 := rfl
  refine zz_ok_ite (fun c8 => ?_) (fun c8 => ?_)
  · have c8 := Int32.lt_iff_toInt_lt.mp c8
    refine zz_ok_some ?_
    show (0 : Int32) = s8 p1.toNatClampNeg ∧ s0 = s0 ∧ s1 = s1 ∧ s2 = s2 ∧ s3 = s3 ∧ s4 = s4 ∧ s5 = s5 ∧ s6 = s6 ∧ s7 = s7 ∧ s8 = s8 ∧ s9 = s9 ∧ s10 = s10 ∧ s11 = s11 ∧ s12 = s12
    exact ⟨(by first | rfl | (exfalso; omega)), (by first | rfl | (exfalso; omega)), (by first | rfl | (exfalso; omega)), (by first | rfl | (exfalso; omega)), (by first | rfl | (exfalso; omega)), (by first | rfl | (exfalso; omega)), (by first | rfl | (exfalso; omega)), (by first | rfl | (exfalso; omega)), (by first | rfl | (exfalso; omega)), (by first | rfl | (exfalso; omega)), (by first | rfl | (exfalso; omega)), (by first | rfl | (exfalso; omega)), (by first | rfl | (exfalso; omega)), (by first | rfl | (exfalso; omega))⟩
  · have c8 := zz_nlt c8
    refine zz_ok_ite (fun c10 => ?_) (fun c10 => ?_)
    · have c10 := Int32.lt_iff_toInt_lt.mp c10
      refine zz_ok_chk (zz_ix (by omega) (by omega)) ?_
      have g11 := zz_tnI p1 (by omega)
      refine zz_ok_some ?_
      show (s8 p1.toNatClampNeg) = s8 p1.toNatClampNeg ∧ s0 = s0 ∧ s1 = s1 ∧ s2 = s2 ∧ s3 = s3 ∧ s4 = s4 ∧ s5 = s5 ∧ s6 = s6 ∧ s7 = s7 ∧ s8 = s8 ∧ s9 = s9 ∧ s10 = s10 ∧ s11 = s11 ∧ s12 = s12
      exact ⟨(by first | rfl | (exfalso; omega)), (by first | rfl | (exfalso; omega)), (by first | rfl | (exfalso; omega)), (by first | rfl | (exfalso; omega)), (by first | rfl | (exfalso; omega)), (by first | rfl | (exfalso; omega)), (by first | rfl | (exfalso; omega)), (by first | rfl | (exfalso; omega)), (by first | rfl | (exfalso; omega)), (by first | rfl | (exfalso; omega)), (by first | rfl | (exfalso; omega)), (by first | rfl | (exfalso; omega)), (by first | rfl | (exfalso; omega)), (by first | rfl | (exfalso; omega))⟩
    · have c10 := zz_nlt c10
      refine zz_ok_some ?_
      show (0 : Int32) = s8 p1.toNatClampNeg ∧ s0 = s0 ∧ s1 = s1 ∧ s2 = s2 ∧ s3 = s3 ∧ s4 = s4 ∧ s5 = s5 ∧ s6 = s6 ∧ s7 = s7 ∧ s8 = s8 ∧ s9 = s9 ∧ s10 = s10 ∧ s11 = s11 ∧ s12 = s12
      exact ⟨(by first | rfl | (exfalso; omega)), (by first | rfl | (exfalso; omega)), (by first | rfl | (exfalso; omega)), (by first | rfl | (exfalso; omega)), (by first | rfl | (exfalso; omega)), (by first | rfl | (exfalso; omega)), (by first | rfl | (exfalso; omega)), (by first | rfl | (exfalso; omega)), (by first | rfl | (exfalso; omega)), (by first | rfl | (exfalso; omega)), (by first | rfl | (exfalso; omega)), (by first | rfl | (exfalso; omega)), (by first | rfl | (exfalso; omega)), (by first | rfl | (exfalso; omega))⟩
set_option maxHeartbeats 4000000 in
theorem ff_X7_settle (K : Nat) (hK : 1099511627776 ≤ K) (T : Nat) (hT : T ≤ 900) (n0 : Nat) (n1 : Nat) (n2 : Nat) (n3 : Nat) (n4 : Nat) (n5 : Nat) (n6 : Nat) (p1 : Int32) (p2 : Int32) (p3 : Int32) (s0 : Int32) (s1 : Int32) (s2 : Int32) (s3 : Int32) (s4 : Nat → Int32) (s5 : Nat → Int32) (s6 : Nat → Int32) (s7 : Nat → Int32) (s8 : Nat → Int32) (s9 : Int32) (s10 : Int32) (s11 : Nat → Int32) (s12 : Nat → Int32) (a0 : n0 = 1024) (a1 : n1 = 200) (a2 : n2 = 200) (a3 : n3 = 200) (a4 : n4 = 200) (a5 : n5 = 512) (a6 : n6 = 512) (a7 : 0 ≤ s1.toInt) (a8 : s1.toInt < 200) (a9 : 0 ≤ p1.toInt) (a10 : 1 ≤ p2.toInt) (a11 : p1.toInt + p2.toInt ≤ s0.toInt) (a12 : s0.toInt ≤ 1024) (a13 : 0 ≤ s2.toInt) (a14 : s2.toInt ≤ 100000) : zz_ok (m_X7_settle K n0 n1 n2 n3 n4 n5 n6 p1 p2 p3 s0 s1 s2 s3 s4 s5 s6 s7 s8 s9 s10 s11 s12) (fun z => z.1 = s2 ∧ z.2.2.1.toInt = s1.toInt + 1 ∧ z.2.2.2.1.toInt = s2.toInt + 1 ∧ z.2.2.2.2.2.2.1 = upd s5 s1.toNatClampNeg s2 ∧ z.2.2.2.2.2.2.2.1 = upd s6 s1.toNatClampNeg p1 ∧ z.2.2.2.2.2.2.2.2.1 = upd s7 s1.toNatClampNeg p2 ∧ z.2.2.2.2.2.2.2.2.2.1 = upd s8 s1.toNatClampNeg p3 ∧ zz_wr (s4) (z.2.2.2.2.2.1) p1.toInt (p1.toInt + p2.toInt) (s2) ∧ z.2.1 = s0 ∧ z.2.2.2.2.1 = s3 ∧ z.2.2.2.2.2.2.2.2.2.2.1 = s9 ∧ z.2.2.2.2.2.2.2.2.2.2.2.1 = s10 ∧ z.2.2.2.2.2.2.2.2.2.2.2.2.1 = s11 ∧ z.2.2.2.2.2.2.2.2.2.2.2.2.2 = s12) := by
  have g1 := zz_rg p1
  have g2 := zz_rg p2
  have g3 := zz_rg p3
  have g4 := zz_rg s0
  have g5 := zz_rg s1
  have g6 := zz_rg s2
  have g7 := zz_rg s3
  have g8 := zz_rg s9
  have g9 := zz_rg s10
  unfold m_X7_settle
  have l11 : (200 : Int32).toInt = 200 := rfl
  refine zz_ok_ite (fun c10 => ?_) (fun c10 => ?_)
  · have c10 := Int32.lt_iff_toInt_lt.mp c10
    refine zz_ok_chk (zz_ix (by omega) (by omega)) ?_
    have g12 := zz_tnI s1 (by omega)
    refine zz_ok_chk (zz_ix (by omega) (by omega)) ?_
    refine zz_ok_chk (zz_ix (by omega) (by omega)) ?_
    refine zz_ok_chk (zz_ix (by omega) (by omega)) ?_
    have l13 : (1 : Int32).toInt = 1 := rfl
    obtain ⟨k14, f15⟩ := zz_add s1 (1 : Int32)
    have g16 := zz_rg (s1 + ((1 : Int32)))
    obtain ⟨k17, f18⟩ := zz_add s2 (1 : Int32)
    have g19 := zz_rg (s2 + ((1 : Int32)))
    refine zz_ok_bind (ff_X7_mark K hK T hT n0 n1 n2 n3 n4 n5 n6 p1 p2 s2 s0 (s1 + ((1 : Int32))) (s2 + ((1 : Int32))) s3 s4 (upd s5 s1.toNatClampNeg s2) (upd s6 s1.toNatClampNeg p1) (upd s7 s1.toNatClampNeg p2) (upd s8 s1.toNatClampNeg p3) s9 s10 s11 s12 a0 a9 (by omega) a11 a12) ?_
    intro z20 hz20
    obtain ⟨t_6_0, t_6_1, t_6_2, t_6_3, t_6_4, t_6_5, t_6_6, t_6_7, t_6_8, t_6_9, t_6_10, t_6_11, t_6_12⟩ := z20
    have q21 : zz_wr (s4) (t_6_4) p1.toInt (p1.toInt + p2.toInt) (s2) := hz20.1
    have q22 : t_6_0 = s0 := hz20.2.1
    have q23 : t_6_1 = (s1 + ((1 : Int32))) := hz20.2.2.1
    have q24 : t_6_2 = (s2 + ((1 : Int32))) := hz20.2.2.2.1
    have q25 : t_6_3 = s3 := hz20.2.2.2.2.1
    have q26 : t_6_5 = (upd s5 s1.toNatClampNeg s2) := hz20.2.2.2.2.2.1
    have q27 : t_6_6 = (upd s6 s1.toNatClampNeg p1) := hz20.2.2.2.2.2.2.1
    have q28 : t_6_7 = (upd s7 s1.toNatClampNeg p2) := hz20.2.2.2.2.2.2.2.1
    have q29 : t_6_8 = (upd s8 s1.toNatClampNeg p3) := hz20.2.2.2.2.2.2.2.2.1
    have q30 : t_6_9 = s9 := hz20.2.2.2.2.2.2.2.2.2.1
    have q31 : t_6_10 = s10 := hz20.2.2.2.2.2.2.2.2.2.2.1
    have q32 : t_6_11 = s11 := hz20.2.2.2.2.2.2.2.2.2.2.2.1
    have q33 : t_6_12 = s12 := hz20.2.2.2.2.2.2.2.2.2.2.2.2
    clear hz20
    have e34 : s0 = t_6_0 := q22.symm
    subst e34
    have e35 : (s1 + ((1 : Int32))) = t_6_1 := q23.symm
    subst e35
    have e36 : (s2 + ((1 : Int32))) = t_6_2 := q24.symm
    subst e36
    have e37 : s3 = t_6_3 := q25.symm
    subst e37
    have e38 : (upd s5 s1.toNatClampNeg s2) = t_6_5 := q26.symm
    subst e38
    have e39 : (upd s6 s1.toNatClampNeg p1) = t_6_6 := q27.symm
    subst e39
    have e40 : (upd s7 s1.toNatClampNeg p2) = t_6_7 := q28.symm
    subst e40
    have e41 : (upd s8 s1.toNatClampNeg p3) = t_6_8 := q29.symm
    subst e41
    have e42 : s9 = t_6_9 := q30.symm
    subst e42
    have e43 : s10 = t_6_10 := q31.symm
    subst e43
    have e44 : s11 = t_6_11 := q32.symm
    subst e44
    have e45 : s12 = t_6_12 := q33.symm
    subst e45
    show zz_ok (some (s2, s0, (s1 + ((1 : Int32))), (s2 + ((1 : Int32))), s3, t_6_4, (upd s5 s1.toNatClampNeg s2), (upd s6 s1.toNatClampNeg p1), (upd s7 s1.toNatClampNeg p2), (upd s8 s1.toNatClampNeg p3), s9, s10, s11, s12)) _
    refine zz_ok_some ?_
    show s2 = s2 ∧ (s1 + ((1 : Int32))).toInt = s1.toInt + 1 ∧ (s2 + ((1 : Int32))).toInt = s2.toInt + 1 ∧ (upd s5 s1.toNatClampNeg s2) = upd s5 s1.toNatClampNeg s2 ∧ (upd s6 s1.toNatClampNeg p1) = upd s6 s1.toNatClampNeg p1 ∧ (upd s7 s1.toNatClampNeg p2) = upd s7 s1.toNatClampNeg p2 ∧ (upd s8 s1.toNatClampNeg p3) = upd s8 s1.toNatClampNeg p3 ∧ zz_wr (s4) (t_6_4) p1.toInt (p1.toInt + p2.toInt) (s2) ∧ s0 = s0 ∧ s3 = s3 ∧ s9 = s9 ∧ s10 = s10 ∧ s11 = s11 ∧ s12 = s12
    exact ⟨(by first | rfl | (exfalso; omega)), (by omega), (by omega), (by first | rfl | (exfalso; omega)), (by first | rfl | (exfalso; omega)), (by first | rfl | (exfalso; omega)), (by first | rfl | (exfalso; omega)), q21, (by first | rfl | (exfalso; omega)), (by first | rfl | (exfalso; omega)), (by first | rfl | (exfalso; omega)), (by first | rfl | (exfalso; omega)), (by first | rfl | (exfalso; omega)), (by first | rfl | (exfalso; omega))⟩
  · have c10 := zz_nlt c10
    refine zz_ok_some ?_
    show (-1 : Int32) = s2 ∧ s1.toInt = s1.toInt + 1 ∧ s2.toInt = s2.toInt + 1 ∧ s5 = upd s5 s1.toNatClampNeg s2 ∧ s6 = upd s6 s1.toNatClampNeg p1 ∧ s7 = upd s7 s1.toNatClampNeg p2 ∧ s8 = upd s8 s1.toNatClampNeg p3 ∧ zz_wr (s4) (s4) p1.toInt (p1.toInt + p2.toInt) (s2) ∧ s0 = s0 ∧ s3 = s3 ∧ s9 = s9 ∧ s10 = s10 ∧ s11 = s11 ∧ s12 = s12
    exact ⟨(by first | rfl | (exfalso; omega)), (by omega), (by omega), (by first | rfl | (exfalso; omega)), (by first | rfl | (exfalso; omega)), (by first | rfl | (exfalso; omega)), (by first | rfl | (exfalso; omega)), (by first | assumption | (exfalso; omega)), (by first | rfl | (exfalso; omega)), (by first | rfl | (exfalso; omega)), (by first | rfl | (exfalso; omega)), (by first | rfl | (exfalso; omega)), (by first | rfl | (exfalso; omega)), (by first | rfl | (exfalso; omega))⟩
set_option maxHeartbeats 4000000 in
theorem ff_X7_remove (K : Nat) (hK : 1099511627776 ≤ K) (T : Nat) (hT : T ≤ 900) (n0 : Nat) (n1 : Nat) (n2 : Nat) (n3 : Nat) (n4 : Nat) (n5 : Nat) (n6 : Nat) (p1 : Int32) (s0 : Int32) (s1 : Int32) (s2 : Int32) (s3 : Int32) (s4 : Nat → Int32) (s5 : Nat → Int32) (s6 : Nat → Int32) (s7 : Nat → Int32) (s8 : Nat → Int32) (s9 : Int32) (s10 : Int32) (s11 : Nat → Int32) (s12 : Nat → Int32) (a0 : n0 = 1024) (a1 : n1 = 200) (a2 : n2 = 200) (a3 : n3 = 200) (a4 : n4 = 200) (a5 : n5 = 512) (a6 : n6 = 512) (a7 : 0 ≤ p1.toInt) (a8 : p1.toInt < s1.toInt) (a9 : s1.toInt ≤ 200) (a10 : 0 ≤ (s6 p1.toNatClampNeg).toInt) (a11 : 0 ≤ (s7 p1.toNatClampNeg).toInt) (a12 : (s6 p1.toNatClampNeg).toInt + (s7 p1.toNatClampNeg).toInt ≤ s0.toInt) (a13 : s0.toInt ≤ 1024) : zz_ok (m_X7_remove K n0 n1 n2 n3 n4 n5 n6 p1 s0 s1 s2 s3 s4 s5 s6 s7 s8 s9 s10 s11 s12) (fun z => z.2.1.toInt = s1.toInt - 1 ∧ zz_wr (s4) (z.2.2.2.2.1) (s6 p1.toNatClampNeg).toInt ((s6 p1.toNatClampNeg).toInt + (s7 p1.toNatClampNeg).toInt) (-1) ∧ zz_mv (s5) (z.2.2.2.2.2.1) p1.toInt s1.toInt ∧ zz_mv (s6) (z.2.2.2.2.2.2.1) p1.toInt s1.toInt ∧ zz_mv (s7) (z.2.2.2.2.2.2.2.1) p1.toInt s1.toInt ∧ zz_mv (s8) (z.2.2.2.2.2.2.2.2.1) p1.toInt s1.toInt ∧ z.1 = s0 ∧ z.2.2.1 = s2 ∧ z.2.2.2.1 = s3 ∧ z.2.2.2.2.2.2.2.2.2.1 = s9 ∧ z.2.2.2.2.2.2.2.2.2.2.1 = s10 ∧ z.2.2.2.2.2.2.2.2.2.2.2.1 = s11 ∧ z.2.2.2.2.2.2.2.2.2.2.2.2 = s12) := by
  have g1 := zz_rg p1
  have g2 := zz_rg s0
  have g3 := zz_rg s1
  have g4 := zz_rg s2
  have g5 := zz_rg s3
  have g6 := zz_rg s9
  have g7 := zz_rg s10
  unfold m_X7_remove
  have l9 : (0 : Int32).toInt = 0 := rfl
  refine zz_ok_ite (fun c8 => ?_) (fun c8 => ?_)
  · have c8 := Int32.lt_iff_toInt_lt.mp c8
    refine zz_ok_some ?_
    show s1.toInt = s1.toInt - 1 ∧ zz_wr (s4) (s4) (s6 p1.toNatClampNeg).toInt ((s6 p1.toNatClampNeg).toInt + (s7 p1.toNatClampNeg).toInt) (-1) ∧ zz_mv (s5) (s5) p1.toInt s1.toInt ∧ zz_mv (s6) (s6) p1.toInt s1.toInt ∧ zz_mv (s7) (s7) p1.toInt s1.toInt ∧ zz_mv (s8) (s8) p1.toInt s1.toInt ∧ s0 = s0 ∧ s2 = s2 ∧ s3 = s3 ∧ s9 = s9 ∧ s10 = s10 ∧ s11 = s11 ∧ s12 = s12
    exact ⟨(by omega), (by first | assumption | (exfalso; omega)), (by first | exact zz_mv_mk (by have := zz_tnI p1 (by omega); omega) (by have := zz_tnI (s1 - ((1 : Int32))) (by omega); omega) | (exfalso; omega)), (by first | exact zz_mv_mk (by have := zz_tnI p1 (by omega); omega) (by have := zz_tnI (s1 - ((1 : Int32))) (by omega); omega) | (exfalso; omega)), (by first | exact zz_mv_mk (by have := zz_tnI p1 (by omega); omega) (by have := zz_tnI (s1 - ((1 : Int32))) (by omega); omega) | (exfalso; omega)), (by first | exact zz_mv_mk (by have := zz_tnI p1 (by omega); omega) (by have := zz_tnI (s1 - ((1 : Int32))) (by omega); omega) | (exfalso; omega)), (by first | rfl | (exfalso; omega)), (by first | rfl | (exfalso; omega)), (by first | rfl | (exfalso; omega)), (by first | rfl | (exfalso; omega)), (by first | rfl | (exfalso; omega)), (by first | rfl | (exfalso; omega)), (by first | rfl | (exfalso; omega))⟩
  · have c8 := zz_nlt c8
    refine zz_ok_ite (fun c10 => ?_) (fun c10 => ?_)
    · have c10 := Int32.lt_iff_toInt_lt.mp c10
      refine zz_ok_chk (zz_ix (by omega) (by omega)) ?_
      have g11 := zz_tnI p1 (by omega)
      refine zz_ok_chk (zz_ix (by omega) (by omega)) ?_
      have g12 := zz_rg (s6 p1.toNatClampNeg)
      have g13 := zz_rg (s7 p1.toNatClampNeg)
      have l14 : (-1 : Int32).toInt = -1 := rfl
      refine zz_ok_bind (ff_X7_mark K hK T hT n0 n1 n2 n3 n4 n5 n6 (s6 p1.toNatClampNeg) (s7 p1.toNatClampNeg) ((-1 : Int32)) s0 s1 s2 s3 s4 s5 s6 s7 s8 s9 s10 s11 s12 a0 a10 a11 a12 a13) ?_
      intro z15 hz15
      obtain ⟨t_5_0, t_5_1, t_5_2, t_5_3, t_5_4, t_5_5, t_5_6, t_5_7, t_5_8, t_5_9, t_5_10, t_5_11, t_5_12⟩ := z15
      have q16 : zz_wr (s4) (t_5_4) (s6 p1.toNatClampNeg).toInt ((s6 p1.toNatClampNeg).toInt + (s7 p1.toNatClampNeg).toInt) (((-1 : Int32))) := hz15.1
      have q17 : t_5_0 = s0 := hz15.2.1
      have q18 : t_5_1 = s1 := hz15.2.2.1
      have q19 : t_5_2 = s2 := hz15.2.2.2.1
      have q20 : t_5_3 = s3 := hz15.2.2.2.2.1
      have q21 : t_5_5 = s5 := hz15.2.2.2.2.2.1
      have q22 : t_5_6 = s6 := hz15.2.2.2.2.2.2.1
      have q23 : t_5_7 = s7 := hz15.2.2.2.2.2.2.2.1
      have q24 : t_5_8 = s8 := hz15.2.2.2.2.2.2.2.2.1
      have q25 : t_5_9 = s9 := hz15.2.2.2.2.2.2.2.2.2.1
      have q26 : t_5_10 = s10 := hz15.2.2.2.2.2.2.2.2.2.2.1
      have q27 : t_5_11 = s11 := hz15.2.2.2.2.2.2.2.2.2.2.2.1
      have q28 : t_5_12 = s12 := hz15.2.2.2.2.2.2.2.2.2.2.2.2
      clear hz15
      have e29 : s0 = t_5_0 := q17.symm
      subst e29
      have e30 : s1 = t_5_1 := q18.symm
      subst e30
      have e31 : s2 = t_5_2 := q19.symm
      subst e31
      have e32 : s3 = t_5_3 := q20.symm
      subst e32
      have e33 : s5 = t_5_5 := q21.symm
      subst e33
      have e34 : s6 = t_5_6 := q22.symm
      subst e34
      have e35 : s7 = t_5_7 := q23.symm
      subst e35
      have e36 : s8 = t_5_8 := q24.symm
      subst e36
      have e37 : s9 = t_5_9 := q25.symm
      subst e37
      have e38 : s10 = t_5_10 := q26.symm
      subst e38
      have e39 : s11 = t_5_11 := q27.symm
      subst e39
      have e40 : s12 = t_5_12 := q28.symm
      subst e40
      show zz_ok (if ¬ ((s1 - ((1 : Int32))) < 0 ∨ n1 ≤ (s1 - ((1 : Int32))).toNatClampNeg) then (if ¬ (p1 < 0 ∨ n1 ≤ p1.toNatClampNeg) then (if ¬ ((s1 - ((1 : Int32))) < 0 ∨ n2 ≤ (s1 - ((1 : Int32))).toNatClampNeg) then (if ¬ (p1 < 0 ∨ n2 ≤ p1.toNatClampNeg) then (if ¬ ((s1 - ((1 : Int32))) < 0 ∨ n3 ≤ (s1 - ((1 : Int32))).toNatClampNeg) then (if ¬ (p1 < 0 ∨ n3 ≤ p1.toNatClampNeg) then (if ¬ ((s1 - ((1 : Int32))) < 0 ∨ n4 ≤ (s1 - ((1 : Int32))).toNatClampNeg) then (if ¬ (p1 < 0 ∨ n4 ≤ p1.toNatClampNeg) then (some (s0, s1 - ((1 : Int32)), s2, s3, t_5_4, upd s5 p1.toNatClampNeg (s5 (s1 - ((1 : Int32))).toNatClampNeg), upd s6 p1.toNatClampNeg (s6 (s1 - ((1 : Int32))).toNatClampNeg), upd s7 p1.toNatClampNeg (s7 (s1 - ((1 : Int32))).toNatClampNeg), upd s8 p1.toNatClampNeg (s8 (s1 - ((1 : Int32))).toNatClampNeg), s9, s10, s11, s12)) else none) else none) else none) else none) else none) else none) else none) else none) _
      have l41 : (1 : Int32).toInt = 1 := rfl
      obtain ⟨k42, f43⟩ := zz_sub s1 (1 : Int32)
      have g44 := zz_rg (s1 - ((1 : Int32)))
      refine zz_ok_chk (zz_ix (by omega) (by omega)) ?_
      have g45 := zz_tnI (s1 - ((1 : Int32))) (by omega)
      refine zz_ok_chk (zz_ix (by omega) (by omega)) ?_
      refine zz_ok_chk (zz_ix (by omega) (by omega)) ?_
      refine zz_ok_chk (zz_ix (by omega) (by omega)) ?_
      refine zz_ok_chk (zz_ix (by omega) (by omega)) ?_
      refine zz_ok_chk (zz_ix (by omega) (by omega)) ?_
      refine zz_ok_chk (zz_ix (by omega) (by omega)) ?_
      refine zz_ok_chk (zz_ix (by omega) (by omega)) ?_
      refine zz_ok_some ?_
      show (s1 - ((1 : Int32))).toInt = s1.toInt - 1 ∧ zz_wr (s4) (t_5_4) (s6 p1.toNatClampNeg).toInt ((s6 p1.toNatClampNeg).toInt + (s7 p1.toNatClampNeg).toInt) (-1) ∧ zz_mv (s5) ((upd s5 p1.toNatClampNeg (s5 (s1 - ((1 : Int32))).toNatClampNeg))) p1.toInt s1.toInt ∧ zz_mv (s6) ((upd s6 p1.toNatClampNeg (s6 (s1 - ((1 : Int32))).toNatClampNeg))) p1.toInt s1.toInt ∧ zz_mv (s7) ((upd s7 p1.toNatClampNeg (s7 (s1 - ((1 : Int32))).toNatClampNeg))) p1.toInt s1.toInt ∧ zz_mv (s8) ((upd s8 p1.toNatClampNeg (s8 (s1 - ((1 : Int32))).toNatClampNeg))) p1.toInt s1.toInt ∧ s0 = s0 ∧ s2 = s2 ∧ s3 = s3 ∧ s9 = s9 ∧ s10 = s10 ∧ s11 = s11 ∧ s12 = s12
      exact ⟨(by omega), (by first | assumption | (exfalso; omega)), (by first | exact zz_mv_mk (by have := zz_tnI p1 (by omega); omega) (by have := zz_tnI (s1 - ((1 : Int32))) (by omega); omega) | (exfalso; omega)), (by first | exact zz_mv_mk (by have := zz_tnI p1 (by omega); omega) (by have := zz_tnI (s1 - ((1 : Int32))) (by omega); omega) | (exfalso; omega)), (by first | exact zz_mv_mk (by have := zz_tnI p1 (by omega); omega) (by have := zz_tnI (s1 - ((1 : Int32))) (by omega); omega) | (exfalso; omega)), (by first | exact zz_mv_mk (by have := zz_tnI p1 (by omega); omega) (by have := zz_tnI (s1 - ((1 : Int32))) (by omega); omega) | (exfalso; omega)), (by first | rfl | (exfalso; omega)), (by first | rfl | (exfalso; omega)), (by first | rfl | (exfalso; omega)), (by first | rfl | (exfalso; omega)), (by first | rfl | (exfalso; omega)), (by first | rfl | (exfalso; omega)), (by first | rfl | (exfalso; omega))⟩
    · have c10 := zz_nlt c10
      refine zz_ok_some ?_
      show s1.toInt = s1.toInt - 1 ∧ zz_wr (s4) (s4) (s6 p1.toNatClampNeg).toInt ((s6 p1.toNatClampNeg).toInt + (s7 p1.toNatClampNeg).toInt) (-1) ∧ zz_mv (s5) (s5) p1.toInt s1.toInt ∧ zz_mv (s6) (s6) p1.toInt s1.toInt ∧ zz_mv (s7) (s7) p1.toInt s1.toInt ∧ zz_mv (s8) (s8) p1.toInt s1.toInt ∧ s0 = s0 ∧ s2 = s2 ∧ s3 = s3 ∧ s9 = s9 ∧ s10 = s10 ∧ s11 = s11 ∧ s12 = s12
      exact ⟨(by omega), (by first | assumption | (exfalso; omega)), (by first | exact zz_mv_mk (by have := zz_tnI p1 (by omega); omega) (by have := zz_tnI (s1 - ((1 : Int32))) (by omega); omega) | (exfalso; omega)), (by first | exact zz_mv_mk (by have := zz_tnI p1 (by omega); omega) (by have := zz_tnI (s1 - ((1 : Int32))) (by omega); omega) | (exfalso; omega)), (by first | exact zz_mv_mk (by have := zz_tnI p1 (by omega); omega) (by have := zz_tnI (s1 - ((1 : Int32))) (by omega); omega) | (exfalso; omega)), (by first | exact zz_mv_mk (by have := zz_tnI p1 (by omega); omega) (by have := zz_tnI (s1 - ((1 : Int32))) (by omega); omega) | (exfalso; omega)), (by first | rfl | (exfalso; omega)), (by first | rfl | (exfalso; omega)), (by first | rfl | (exfalso; omega)), (by first | rfl | (exfalso; omega)), (by first | rfl | (exfalso; omega)), (by first | rfl | (exfalso; omega)), (by first | rfl | (exfalso; omega))⟩
set_option maxHeartbeats 4000000 in
theorem ff_X7_isFree (K : Nat) (hK : 1099511627776 ≤ K) (T : Nat) (hT : T ≤ 900) (n0 : Nat) (n1 : Nat) (n2 : Nat) (n3 : Nat) (n4 : Nat) (n5 : Nat) (n6 : Nat) (p1 : Int32) (s0 : Int32) (s1 : Int32) (s2 : Int32) (s3 : Int32) (s4 : Nat → Int32) (s5 : Nat → Int32) (s6 : Nat → Int32) (s7 : Nat → Int32) (s8 : Nat → Int32) (s9 : Int32) (s10 : Int32) (s11 : Nat → Int32) (s12 : Nat → Int32) (a0 : n0 = 1024) (a1 : n1 = 200) (a2 : n2 = 200) (a3 : n3 = 200) (a4 : n4 = 200) (a5 : n5 = 512) (a6 : n6 = 512) (a7 : 0 ≤ s0.toInt) (a8 : s0.toInt ≤ 1024) : zz_ok (m_X7_isFree K n0 n1 n2 n3 n4 n5 n6 p1 s0 s1 s2 s3 s4 s5 s6 s7 s8 s9 s10 s11 s12) (fun z => (z.1.toInt = 0 ∨ z.1.toInt = 1) ∧ zz_isf s0.toInt (s4) (p1) z.1.toInt ∧ z.2.1 = s0 ∧ z.2.2.1 = s1 ∧ z.2.2.2.1 = s2 ∧ z.2.2.2.2.1 = s3 ∧ z.2.2.2.2.2.1 = s4 ∧ z.2.2.2.2.2.2.1 = s5 ∧ z.2.2.2.2.2.2.2.1 = s6 ∧ z.2.2.2.2.2.2.2.2.1 = s7 ∧ z.2.2.2.2.2.2.2.2.2.1 = s8 ∧ z.2.2.2.2.2.2.2.2.2.2.1 = s9 ∧ z.2.2.2.2.2.2.2.2.2.2.2.1 = s10 ∧ z.2.2.2.2.2.2.2.2.2.2.2.2.1 = s11 ∧ z.2.2.2.2.2.2.2.2.2.2.2.2.2 = s12) := by
  have g1 := zz_rg p1
  have g2 := zz_rg s0
  have g3 := zz_rg s1
  have g4 := zz_rg s2
  have g5 := zz_rg s3
  have g6 := zz_rg s9
  have g7 := zz_rg s10
  unfold m_X7_isFree
  have l9 : (0 : Int32).toInt = 0 := rfl
  refine zz_ok_ite (fun c8 => ?_) (fun c8 => ?_)
  · have c8 := Int32.lt_iff_toInt_lt.mp c8
    refine zz_ok_some ?_
    show ((0 : Int32).toInt = 0 ∨ (0 : Int32).toInt = 1) ∧ zz_isf s0.toInt (s4) (p1) (0 : Int32).toInt ∧ s0 = s0 ∧ s1 = s1 ∧ s2 = s2 ∧ s3 = s3 ∧ s4 = s4 ∧ s5 = s5 ∧ s6 = s6 ∧ s7 = s7 ∧ s8 = s8 ∧ s9 = s9 ∧ s10 = s10 ∧ s11 = s11 ∧ s12 = s12
    exact ⟨(by omega), (by first | exact Or.inl ⟨by omega, by omega, by omega, by omega⟩ | exact Or.inr ⟨by omega, by omega⟩), rfl, rfl, rfl, rfl, rfl, rfl, rfl, rfl, rfl, rfl, rfl, rfl, rfl⟩
  · have c8 := zz_nlt c8
    refine zz_ok_ite (fun c10 => ?_) (fun c10 => ?_)
    · have c10 := Int32.le_iff_toInt_le.mp c10
      refine zz_ok_some ?_
      show ((0 : Int32).toInt = 0 ∨ (0 : Int32).toInt = 1) ∧ zz_isf s0.toInt (s4) (p1) (0 : Int32).toInt ∧ s0 = s0 ∧ s1 = s1 ∧ s2 = s2 ∧ s3 = s3 ∧ s4 = s4 ∧ s5 = s5 ∧ s6 = s6 ∧ s7 = s7 ∧ s8 = s8 ∧ s9 = s9 ∧ s10 = s10 ∧ s11 = s11 ∧ s12 = s12
      exact ⟨(by omega), (by first | exact Or.inl ⟨by omega, by omega, by omega, by omega⟩ | exact Or.inr ⟨by omega, by omega⟩), rfl, rfl, rfl, rfl, rfl, rfl, rfl, rfl, rfl, rfl, rfl, rfl, rfl⟩
    · have c10 := zz_nle c10
      refine zz_ok_chk (zz_ix (by omega) (by omega)) ?_
      have g11 := zz_tnI p1 (by omega)
      have g13 := zz_rg (s4 p1.toNatClampNeg)
      have l14 : (-1 : Int32).toInt = -1 := rfl
      refine zz_ok_ite (fun c12 => ?_) (fun c12 => ?_)
      · have c12 := congrArg Int32.toInt c12
        have l15 : (1 : Int32).toInt = 1 := rfl
        refine zz_ok_some ?_
        show ((1 : Int32).toInt = 0 ∨ (1 : Int32).toInt = 1) ∧ zz_isf s0.toInt (s4) (p1) (1 : Int32).toInt ∧ s0 = s0 ∧ s1 = s1 ∧ s2 = s2 ∧ s3 = s3 ∧ s4 = s4 ∧ s5 = s5 ∧ s6 = s6 ∧ s7 = s7 ∧ s8 = s8 ∧ s9 = s9 ∧ s10 = s10 ∧ s11 = s11 ∧ s12 = s12
        exact ⟨(by omega), (by first | exact Or.inl ⟨by omega, by omega, by omega, by omega⟩ | exact Or.inr ⟨by omega, by omega⟩), rfl, rfl, rfl, rfl, rfl, rfl, rfl, rfl, rfl, rfl, rfl, rfl, rfl⟩
      · have c12 := zz_neq c12
        refine zz_ok_some ?_
        show ((0 : Int32).toInt = 0 ∨ (0 : Int32).toInt = 1) ∧ zz_isf s0.toInt (s4) (p1) (0 : Int32).toInt ∧ s0 = s0 ∧ s1 = s1 ∧ s2 = s2 ∧ s3 = s3 ∧ s4 = s4 ∧ s5 = s5 ∧ s6 = s6 ∧ s7 = s7 ∧ s8 = s8 ∧ s9 = s9 ∧ s10 = s10 ∧ s11 = s11 ∧ s12 = s12
        exact ⟨(by omega), (by first | exact Or.inl ⟨by omega, by omega, by omega, by omega⟩ | exact Or.inr ⟨by omega, by omega⟩), rfl, rfl, rfl, rfl, rfl, rfl, rfl, rfl, rfl, rfl, rfl, rfl, rfl⟩
set_option maxHeartbeats 4000000 in
theorem ff_X7_blockAt (K : Nat) (hK : 1099511627776 ≤ K) (T : Nat) (hT : T ≤ 900) (n0 : Nat) (n1 : Nat) (n2 : Nat) (n3 : Nat) (n4 : Nat) (n5 : Nat) (n6 : Nat) (p1 : Int32) (s0 : Int32) (s1 : Int32) (s2 : Int32) (s3 : Int32) (s4 : Nat → Int32) (s5 : Nat → Int32) (s6 : Nat → Int32) (s7 : Nat → Int32) (s8 : Nat → Int32) (s9 : Int32) (s10 : Int32) (s11 : Nat → Int32) (s12 : Nat → Int32) (a0 : n0 = 1024) (a1 : n1 = 200) (a2 : n2 = 200) (a3 : n3 = 200) (a4 : n4 = 200) (a5 : n5 = 512) (a6 : n6 = 512) (a7 : 0 ≤ p1.toInt) (a8 : p1.toInt < s0.toInt) (a9 : s0.toInt ≤ 1024) : zz_ok (m_X7_blockAt K n0 n1 n2 n3 n4 n5 n6 p1 s0 s1 s2 s3 s4 s5 s6 s7 s8 s9 s10 s11 s12) (fun z => zz_bat (s4) (p1) z.1.toInt ∧ z.2.1 = s0 ∧ z.2.2.1 = s1 ∧ z.2.2.2.1 = s2 ∧ z.2.2.2.2.1 = s3 ∧ z.2.2.2.2.2.1 = s4 ∧ z.2.2.2.2.2.2.1 = s5 ∧ z.2.2.2.2.2.2.2.1 = s6 ∧ z.2.2.2.2.2.2.2.2.1 = s7 ∧ z.2.2.2.2.2.2.2.2.2.1 = s8 ∧ z.2.2.2.2.2.2.2.2.2.2.1 = s9 ∧ z.2.2.2.2.2.2.2.2.2.2.2.1 = s10 ∧ z.2.2.2.2.2.2.2.2.2.2.2.2.1 = s11 ∧ z.2.2.2.2.2.2.2.2.2.2.2.2.2 = s12) := by
  have g1 := zz_rg p1
  have g2 := zz_rg s0
  have g3 := zz_rg s1
  have g4 := zz_rg s2
  have g5 := zz_rg s3
  have g6 := zz_rg s9
  have g7 := zz_rg s10
  unfold m_X7_blockAt
  have l9 : (0 : Int32).toInt = 0 := rfl
  refine zz_ok_ite (fun c8 => ?_) (fun c8 => ?_)
  · have c8 := Int32.lt_iff_toInt_lt.mp c8
    have l10 : (-1 : Int32).toInt = -1 := rfl
    refine zz_ok_some ?_
    show zz_bat (s4) (p1) (-1 : Int32).toInt ∧ s0 = s0 ∧ s1 = s1 ∧ s2 = s2 ∧ s3 = s3 ∧ s4 = s4 ∧ s5 = s5 ∧ s6 = s6 ∧ s7 = s7 ∧ s8 = s8 ∧ s9 = s9 ∧ s10 = s10 ∧ s11 = s11 ∧ s12 = s12
    exact ⟨(by unfold zz_bat; omega), rfl, rfl, rfl, rfl, rfl, rfl, rfl, rfl, rfl, rfl, rfl, rfl, rfl⟩
  · have c8 := zz_nlt c8
    refine zz_ok_ite (fun c11 => ?_) (fun c11 => ?_)
    · have c11 := Int32.lt_iff_toInt_lt.mp c11
      refine zz_ok_chk (zz_ix (by omega) (by omega)) ?_
      have g12 := zz_tnI p1 (by omega)
      have g13 := zz_rg (s4 p1.toNatClampNeg)
      have l14 : (-1 : Int32).toInt = -1 := rfl
      have f15 := zz_maxF (s4 p1.toNatClampNeg) (-1 : Int32)
      have g16 := zz_rg (zz_max (s4 p1.toNatClampNeg) ((-1 : Int32)))
      refine zz_ok_some ?_
      show zz_bat (s4) (p1) (zz_max (s4 p1.toNatClampNeg) ((-1 : Int32))).toInt ∧ s0 = s0 ∧ s1 = s1 ∧ s2 = s2 ∧ s3 = s3 ∧ s4 = s4 ∧ s5 = s5 ∧ s6 = s6 ∧ s7 = s7 ∧ s8 = s8 ∧ s9 = s9 ∧ s10 = s10 ∧ s11 = s11 ∧ s12 = s12
      exact ⟨(by unfold zz_bat; omega), rfl, rfl, rfl, rfl, rfl, rfl, rfl, rfl, rfl, rfl, rfl, rfl, rfl⟩
    · have c11 := zz_nlt c11
      have l17 : (-1 : Int32).toInt = -1 := rfl
      refine zz_ok_some ?_
      show zz_bat (s4) (p1) (-1 : Int32).toInt ∧ s0 = s0 ∧ s1 = s1 ∧ s2 = s2 ∧ s3 = s3 ∧ s4 = s4 ∧ s5 = s5 ∧ s6 = s6 ∧ s7 = s7 ∧ s8 = s8 ∧ s9 = s9 ∧ s10 = s10 ∧ s11 = s11 ∧ s12 = s12
      exact ⟨(by unfold zz_bat; omega), rfl, rfl, rfl, rfl, rfl, rfl, rfl, rfl, rfl, rfl, rfl, rfl, rfl⟩
set_option maxHeartbeats 4000000 in
theorem ff_X7_askedTogether_L4 (K : Nat) (hK : 1099511627776 ≤ K) (T : Nat) (hT : T ≤ 900) (n0 : Nat) (n1 : Nat) (n2 : Nat) (n3 : Nat) (n4 : Nat) (n5 : Nat) (n6 : Nat) : ∀ (k : Nat) (x1 : Int32) (x2 : Int32) (s0 : Int32) (s1 : Int32) (s2 : Int32) (s3 : Int32) (s4 : Nat → Int32) (s5 : Nat → Int32) (s6 : Nat → Int32) (s7 : Nat → Int32) (s8 : Nat → Int32) (s9 : Int32) (s10 : Int32) (s11 : Nat → Int32) (s12 : Nat → Int32), n0 = 1024 → n1 = 200 → n2 = 200 → n3 = 200 → n4 = 200 → n5 = 512 → n6 = 512 → 0 ≤ x2.toInt → x2.toInt ≤ s1.toInt → s1.toInt ≤ 200 → s1.toInt - x2.toInt < (k : Int) → zz_ok (m_X7_askedTogether_L4 K n0 n1 n2 n3 n4 n5 n6 k x1 x2 s0 s1 s2 s3 s4 s5 s6 s7 s8 s9 s10 s11 s12) (fun z => z.2.1 = s0 ∧ z.2.2.1 = s1 ∧ z.2.2.2.1 = s2 ∧ z.2.2.2.2.1 = s3 ∧ z.2.2.2.2.2.1 = s4 ∧ z.2.2.2.2.2.2.1 = s5 ∧ z.2.2.2.2.2.2.2.1 = s6 ∧ z.2.2.2.2.2.2.2.2.1 = s7 ∧ z.2.2.2.2.2.2.2.2.2.1 = s8 ∧ z.2.2.2.2.2.2.2.2.2.2.1 = s9 ∧ z.2.2.2.2.2.2.2.2.2.2.2.1 = s10 ∧ z.2.2.2.2.2.2.2.2.2.2.2.2.1 = s11 ∧ z.2.2.2.2.2.2.2.2.2.2.2.2.2 = s12) := by
  intro k
  induction k with
  | zero =>
    intro x1 x2 s0 s1 s2 s3 s4 s5 s6 s7 s8 s9 s10 s11 s12 a0 a1 a2 a3 a4 a5 a6 a7 a8 a9 hz9
    exfalso
    have g_x1 := zz_rg x1
    have g_x2 := zz_rg x2
    have g_s0 := zz_rg s0
    have g_s1 := zz_rg s1
    have g_s2 := zz_rg s2
    have g_s3 := zz_rg s3
    have g_s9 := zz_rg s9
    have g_s10 := zz_rg s10
    omega
  | succ k ih =>
    intro x1 x2 s0 s1 s2 s3 s4 s5 s6 s7 s8 s9 s10 s11 s12 a0 a1 a2 a3 a4 a5 a6 a7 a8 a9 hz9
    rw [m_X7_askedTogether_L4_s]
    have g1 := zz_rg x1
    have g2 := zz_rg x2
    have g3 := zz_rg s0
    have g4 := zz_rg s1
    have g5 := zz_rg s2
    have g6 := zz_rg s3
    have g7 := zz_rg s9
    have g8 := zz_rg s10
    refine zz_ok_ite (fun c9 => ?_) (fun c9 => ?_)
    · have c9 := Int32.le_iff_toInt_le.mp c9
      refine zz_ok_some ?_
      show s0 = s0 ∧ s1 = s1 ∧ s2 = s2 ∧ s3 = s3 ∧ s4 = s4 ∧ s5 = s5 ∧ s6 = s6 ∧ s7 = s7 ∧ s8 = s8 ∧ s9 = s9 ∧ s10 = s10 ∧ s11 = s11 ∧ s12 = s12
      exact ⟨rfl, rfl, rfl, rfl, rfl, rfl, rfl, rfl, rfl, rfl, rfl, rfl, rfl⟩
    · have c9 := zz_nle c9
      refine zz_ok_chk (zz_ix (by omega) (by omega)) ?_
      have g10 := zz_tnI x2 (by omega)
      have g11 := zz_rg (s8 x2.toNatClampNeg)
      obtain ⟨k12, f13⟩ := zz_add x1 (s8 x2.toNatClampNeg)
      have g14 := zz_rg (x1 + (s8 x2.toNatClampNeg))
      have l15 : (1 : Int32).toInt = 1 := rfl
      obtain ⟨k16, f17⟩ := zz_add x2 (1 : Int32)
      have g18 := zz_rg (x2 + 1)
      refine (ih (x1 + (s8 x2.toNatClampNeg)) (x2 + 1) s0 s1 s2 s3 s4 s5 s6 s7 s8 s9 s10 s11 s12 a0 a1 a2 a3 a4 a5 a6 (by omega) (by omega) a9 (by omega)).mono (fun z hz => ?_)
      obtain ⟨y19_0, y19_1, y19_2, y19_3, y19_4, y19_5, y19_6, y19_7, y19_8, y19_9, y19_10, y19_11, y19_12, y19_13⟩ := z
      have q20 : y19_1 = s0 := hz.1
      have q21 : y19_2 = s1 := hz.2.1
      have q22 : y19_3 = s2 := hz.2.2.1
      have q23 : y19_4 = s3 := hz.2.2.2.1
      have q24 : y19_5 = s4 := hz.2.2.2.2.1
      have q25 : y19_6 = s5 := hz.2.2.2.2.2.1
      have q26 : y19_7 = s6 := hz.2.2.2.2.2.2.1
      have q27 : y19_8 = s7 := hz.2.2.2.2.2.2.2.1
      have q28 : y19_9 = s8 := hz.2.2.2.2.2.2.2.2.1
      have q29 : y19_10 = s9 := hz.2.2.2.2.2.2.2.2.2.1
      have q30 : y19_11 = s10 := hz.2.2.2.2.2.2.2.2.2.2.1
      have q31 : y19_12 = s11 := hz.2.2.2.2.2.2.2.2.2.2.2.1
      have q32 : y19_13 = s12 := hz.2.2.2.2.2.2.2.2.2.2.2.2
      clear hz
      have e33 : s0 = y19_1 := q20.symm
      subst e33
      have e34 : s1 = y19_2 := q21.symm
      subst e34
      have e35 : s2 = y19_3 := q22.symm
      subst e35
      have e36 : s3 = y19_4 := q23.symm
      subst e36
      have e37 : s4 = y19_5 := q24.symm
      subst e37
      have e38 : s5 = y19_6 := q25.symm
      subst e38
      have e39 : s6 = y19_7 := q26.symm
      subst e39
      have e40 : s7 = y19_8 := q27.symm
      subst e40
      have e41 : s8 = y19_9 := q28.symm
      subst e41
      have e42 : s9 = y19_10 := q29.symm
      subst e42
      have e43 : s10 = y19_11 := q30.symm
      subst e43
      have e44 : s11 = y19_12 := q31.symm
      subst e44
      have e45 : s12 = y19_13 := q32.symm
      subst e45
      have g46 := zz_rg y19_0
      show s0 = s0 ∧ s1 = s1 ∧ s2 = s2 ∧ s3 = s3 ∧ s4 = s4 ∧ s5 = s5 ∧ s6 = s6 ∧ s7 = s7 ∧ s8 = s8 ∧ s9 = s9 ∧ s10 = s10 ∧ s11 = s11 ∧ s12 = s12
      exact ⟨rfl, rfl, rfl, rfl, rfl, rfl, rfl, rfl, rfl, rfl, rfl, rfl, rfl⟩
set_option maxHeartbeats 4000000 in
theorem ff_X7_askedTogether (K : Nat) (hK : 1099511627776 ≤ K) (T : Nat) (hT : T ≤ 900) (n0 : Nat) (n1 : Nat) (n2 : Nat) (n3 : Nat) (n4 : Nat) (n5 : Nat) (n6 : Nat) (s0 : Int32) (s1 : Int32) (s2 : Int32) (s3 : Int32) (s4 : Nat → Int32) (s5 : Nat → Int32) (s6 : Nat → Int32) (s7 : Nat → Int32) (s8 : Nat → Int32) (s9 : Int32) (s10 : Int32) (s11 : Nat → Int32) (s12 : Nat → Int32) (a0 : n0 = 1024) (a1 : n1 = 200) (a2 : n2 = 200) (a3 : n3 = 200) (a4 : n4 = 200) (a5 : n5 = 512) (a6 : n6 = 512) (a7 : 0 ≤ s1.toInt) (a8 : s1.toInt ≤ 200) : zz_ok (m_X7_askedTogether K n0 n1 n2 n3 n4 n5 n6 s0 s1 s2 s3 s4 s5 s6 s7 s8 s9 s10 s11 s12) (fun z => z.2.1 = s0 ∧ z.2.2.1 = s1 ∧ z.2.2.2.1 = s2 ∧ z.2.2.2.2.1 = s3 ∧ z.2.2.2.2.2.1 = s4 ∧ z.2.2.2.2.2.2.1 = s5 ∧ z.2.2.2.2.2.2.2.1 = s6 ∧ z.2.2.2.2.2.2.2.2.1 = s7 ∧ z.2.2.2.2.2.2.2.2.2.1 = s8 ∧ z.2.2.2.2.2.2.2.2.2.2.1 = s9 ∧ z.2.2.2.2.2.2.2.2.2.2.2.1 = s10 ∧ z.2.2.2.2.2.2.2.2.2.2.2.2.1 = s11 ∧ z.2.2.2.2.2.2.2.2.2.2.2.2.2 = s12) := by
  have g1 := zz_rg s0
  have g2 := zz_rg s1
  have g3 := zz_rg s2
  have g4 := zz_rg s3
  have g5 := zz_rg s9
  have g6 := zz_rg s10
  unfold m_X7_askedTogether
  have l7 : (0 : Int32).toInt = 0 := rfl
  refine (ff_X7_askedTogether_L4 K hK T hT n0 n1 n2 n3 n4 n5 n6 K ((0 : Int32)) ((0 : Int32)) s0 s1 s2 s3 s4 s5 s6 s7 s8 s9 s10 s11 s12 a0 a1 a2 a3 a4 a5 a6 (by omega) (by omega) a8 (by omega)).mono (fun z hz => ?_)
  obtain ⟨y8_0, y8_1, y8_2, y8_3, y8_4, y8_5, y8_6, y8_7, y8_8, y8_9, y8_10, y8_11, y8_12, y8_13⟩ := z
  have q9 : y8_1 = s0 := hz.1
  have q10 : y8_2 = s1 := hz.2.1
  have q11 : y8_3 = s2 := hz.2.2.1
  have q12 : y8_4 = s3 := hz.2.2.2.1
  have q13 : y8_5 = s4 := hz.2.2.2.2.1
  have q14 : y8_6 = s5 := hz.2.2.2.2.2.1
  have q15 : y8_7 = s6 := hz.2.2.2.2.2.2.1
  have q16 : y8_8 = s7 := hz.2.2.2.2.2.2.2.1
  have q17 : y8_9 = s8 := hz.2.2.2.2.2.2.2.2.1
  have q18 : y8_10 = s9 := hz.2.2.2.2.2.2.2.2.2.1
  have q19 : y8_11 = s10 := hz.2.2.2.2.2.2.2.2.2.2.1
  have q20 : y8_12 = s11 := hz.2.2.2.2.2.2.2.2.2.2.2.1
  have q21 : y8_13 = s12 := hz.2.2.2.2.2.2.2.2.2.2.2.2
  clear hz
  have e22 : s0 = y8_1 := q9.symm
  subst e22
  have e23 : s1 = y8_2 := q10.symm
  subst e23
  have e24 : s2 = y8_3 := q11.symm
  subst e24
  have e25 : s3 = y8_4 := q12.symm
  subst e25
  have e26 : s4 = y8_5 := q13.symm
  subst e26
  have e27 : s5 = y8_6 := q14.symm
  subst e27
  have e28 : s6 = y8_7 := q15.symm
  subst e28
  have e29 : s7 = y8_8 := q16.symm
  subst e29
  have e30 : s8 = y8_9 := q17.symm
  subst e30
  have e31 : s9 = y8_10 := q18.symm
  subst e31
  have e32 : s10 = y8_11 := q19.symm
  subst e32
  have e33 : s11 = y8_12 := q20.symm
  subst e33
  have e34 : s12 = y8_13 := q21.symm
  subst e34
  have g35 := zz_rg y8_0
  show s0 = s0 ∧ s1 = s1 ∧ s2 = s2 ∧ s3 = s3 ∧ s4 = s4 ∧ s5 = s5 ∧ s6 = s6 ∧ s7 = s7 ∧ s8 = s8 ∧ s9 = s9 ∧ s10 = s10 ∧ s11 = s11 ∧ s12 = s12
  exact ⟨rfl, rfl, rfl, rfl, rfl, rfl, rfl, rfl, rfl, rfl, rfl, rfl, rfl⟩
set_option maxHeartbeats 4000000 in
theorem ff_X7_spansTogether_L4 (K : Nat) (hK : 1099511627776 ≤ K) (T : Nat) (hT : T ≤ 900) (n0 : Nat) (n1 : Nat) (n2 : Nat) (n3 : Nat) (n4 : Nat) (n5 : Nat) (n6 : Nat) : ∀ (k : Nat) (x1 : Int32) (x2 : Int32) (s0 : Int32) (s1 : Int32) (s2 : Int32) (s3 : Int32) (s4 : Nat → Int32) (s5 : Nat → Int32) (s6 : Nat → Int32) (s7 : Nat → Int32) (s8 : Nat → Int32) (s9 : Int32) (s10 : Int32) (s11 : Nat → Int32) (s12 : Nat → Int32), n0 = 1024 → n1 = 200 → n2 = 200 → n3 = 200 → n4 = 200 → n5 = 512 → n6 = 512 → 0 ≤ x2.toInt → x2.toInt ≤ s1.toInt → s1.toInt ≤ 200 → s1.toInt - x2.toInt < (k : Int) → zz_ok (m_X7_spansTogether_L4 K n0 n1 n2 n3 n4 n5 n6 k x1 x2 s0 s1 s2 s3 s4 s5 s6 s7 s8 s9 s10 s11 s12) (fun z => z.2.1 = s0 ∧ z.2.2.1 = s1 ∧ z.2.2.2.1 = s2 ∧ z.2.2.2.2.1 = s3 ∧ z.2.2.2.2.2.1 = s4 ∧ z.2.2.2.2.2.2.1 = s5 ∧ z.2.2.2.2.2.2.2.1 = s6 ∧ z.2.2.2.2.2.2.2.2.1 = s7 ∧ z.2.2.2.2.2.2.2.2.2.1 = s8 ∧ z.2.2.2.2.2.2.2.2.2.2.1 = s9 ∧ z.2.2.2.2.2.2.2.2.2.2.2.1 = s10 ∧ z.2.2.2.2.2.2.2.2.2.2.2.2.1 = s11 ∧ z.2.2.2.2.2.2.2.2.2.2.2.2.2 = s12) := by
  intro k
  induction k with
  | zero =>
    intro x1 x2 s0 s1 s2 s3 s4 s5 s6 s7 s8 s9 s10 s11 s12 a0 a1 a2 a3 a4 a5 a6 a7 a8 a9 hz9
    exfalso
    have g_x1 := zz_rg x1
    have g_x2 := zz_rg x2
    have g_s0 := zz_rg s0
    have g_s1 := zz_rg s1
    have g_s2 := zz_rg s2
    have g_s3 := zz_rg s3
    have g_s9 := zz_rg s9
    have g_s10 := zz_rg s10
    omega
  | succ k ih =>
    intro x1 x2 s0 s1 s2 s3 s4 s5 s6 s7 s8 s9 s10 s11 s12 a0 a1 a2 a3 a4 a5 a6 a7 a8 a9 hz9
    rw [m_X7_spansTogether_L4_s]
    have g1 := zz_rg x1
    have g2 := zz_rg x2
    have g3 := zz_rg s0
    have g4 := zz_rg s1
    have g5 := zz_rg s2
    have g6 := zz_rg s3
    have g7 := zz_rg s9
    have g8 := zz_rg s10
    refine zz_ok_ite (fun c9 => ?_) (fun c9 => ?_)
    · have c9 := Int32.le_iff_toInt_le.mp c9
      refine zz_ok_some ?_
      show s0 = s0 ∧ s1 = s1 ∧ s2 = s2 ∧ s3 = s3 ∧ s4 = s4 ∧ s5 = s5 ∧ s6 = s6 ∧ s7 = s7 ∧ s8 = s8 ∧ s9 = s9 ∧ s10 = s10 ∧ s11 = s11 ∧ s12 = s12
      exact ⟨rfl, rfl, rfl, rfl, rfl, rfl, rfl, rfl, rfl, rfl, rfl, rfl, rfl⟩
    · have c9 := zz_nle c9
      refine zz_ok_chk (zz_ix (by omega) (by omega)) ?_
      have g10 := zz_tnI x2 (by omega)
      have g11 := zz_rg (s7 x2.toNatClampNeg)
      obtain ⟨k12, f13⟩ := zz_add x1 (s7 x2.toNatClampNeg)
      have g14 := zz_rg (x1 + (s7 x2.toNatClampNeg))
      have l15 : (1 : Int32).toInt = 1 := rfl
      obtain ⟨k16, f17⟩ := zz_add x2 (1 : Int32)
      have g18 := zz_rg (x2 + 1)
      refine (ih (x1 + (s7 x2.toNatClampNeg)) (x2 + 1) s0 s1 s2 s3 s4 s5 s6 s7 s8 s9 s10 s11 s12 a0 a1 a2 a3 a4 a5 a6 (by omega) (by omega) a9 (by omega)).mono (fun z hz => ?_)
      obtain ⟨y19_0, y19_1, y19_2, y19_3, y19_4, y19_5, y19_6, y19_7, y19_8, y19_9, y19_10, y19_11, y19_12, y19_13⟩ := z
      have q20 : y19_1 = s0 := hz.1
      have q21 : y19_2 = s1 := hz.2.1
      have q22 : y19_3 = s2 := hz.2.2.1
      have q23 : y19_4 = s3 := hz.2.2.2.1
      have q24 : y19_5 = s4 := hz.2.2.2.2.1
      have q25 : y19_6 = s5 := hz.2.2.2.2.2.1
      have q26 : y19_7 = s6 := hz.2.2.2.2.2.2.1
      have q27 : y19_8 = s7 := hz.2.2.2.2.2.2.2.1
      have q28 : y19_9 = s8 := hz.2.2.2.2.2.2.2.2.1
      have q29 : y19_10 = s9 := hz.2.2.2.2.2.2.2.2.2.1
      have q30 : y19_11 = s10 := hz.2.2.2.2.2.2.2.2.2.2.1
      have q31 : y19_12 = s11 := hz.2.2.2.2.2.2.2.2.2.2.2.1
      have q32 : y19_13 = s12 := hz.2.2.2.2.2.2.2.2.2.2.2.2
      clear hz
      have e33 : s0 = y19_1 := q20.symm
      subst e33
      have e34 : s1 = y19_2 := q21.symm
      subst e34
      have e35 : s2 = y19_3 := q22.symm
      subst e35
      have e36 : s3 = y19_4 := q23.symm
      subst e36
      have e37 : s4 = y19_5 := q24.symm
      subst e37
      have e38 : s5 = y19_6 := q25.symm
      subst e38
      have e39 : s6 = y19_7 := q26.symm
      subst e39
      have e40 : s7 = y19_8 := q27.symm
      subst e40
      have e41 : s8 = y19_9 := q28.symm
      subst e41
      have e42 : s9 = y19_10 := q29.symm
      subst e42
      have e43 : s10 = y19_11 := q30.symm
      subst e43
      have e44 : s11 = y19_12 := q31.symm
      subst e44
      have e45 : s12 = y19_13 := q32.symm
      subst e45
      have g46 := zz_rg y19_0
      show s0 = s0 ∧ s1 = s1 ∧ s2 = s2 ∧ s3 = s3 ∧ s4 = s4 ∧ s5 = s5 ∧ s6 = s6 ∧ s7 = s7 ∧ s8 = s8 ∧ s9 = s9 ∧ s10 = s10 ∧ s11 = s11 ∧ s12 = s12
      exact ⟨rfl, rfl, rfl, rfl, rfl, rfl, rfl, rfl, rfl, rfl, rfl, rfl, rfl⟩
set_option maxHeartbeats 4000000 in
theorem ff_X7_spansTogether (K : Nat) (hK : 1099511627776 ≤ K) (T : Nat) (hT : T ≤ 900) (n0 : Nat) (n1 : Nat) (n2 : Nat) (n3 : Nat) (n4 : Nat) (n5 : Nat) (n6 : Nat) (s0 : Int32) (s1 : Int32) (s2 : Int32) (s3 : Int32) (s4 : Nat → Int32) (s5 : Nat → Int32) (s6 : Nat → Int32) (s7 : Nat → Int32) (s8 : Nat → Int32) (s9 : Int32) (s10 : Int32) (s11 : Nat → Int32) (s12 : Nat → Int32) (a0 : n0 = 1024) (a1 : n1 = 200) (a2 : n2 = 200) (a3 : n3 = 200) (a4 : n4 = 200) (a5 : n5 = 512) (a6 : n6 = 512) (a7 : 0 ≤ s1.toInt) (a8 : s1.toInt ≤ 200) : zz_ok (m_X7_spansTogether K n0 n1 n2 n3 n4 n5 n6 s0 s1 s2 s3 s4 s5 s6 s7 s8 s9 s10 s11 s12) (fun z => z.2.1 = s0 ∧ z.2.2.1 = s1 ∧ z.2.2.2.1 = s2 ∧ z.2.2.2.2.1 = s3 ∧ z.2.2.2.2.2.1 = s4 ∧ z.2.2.2.2.2.2.1 = s5 ∧ z.2.2.2.2.2.2.2.1 = s6 ∧ z.2.2.2.2.2.2.2.2.1 = s7 ∧ z.2.2.2.2.2.2.2.2.2.1 = s8 ∧ z.2.2.2.2.2.2.2.2.2.2.1 = s9 ∧ z.2.2.2.2.2.2.2.2.2.2.2.1 = s10 ∧ z.2.2.2.2.2.2.2.2.2.2.2.2.1 = s11 ∧ z.2.2.2.2.2.2.2.2.2.2.2.2.2 = s12) := by
  have g1 := zz_rg s0
  have g2 := zz_rg s1
  have g3 := zz_rg s2
  have g4 := zz_rg s3
  have g5 := zz_rg s9
  have g6 := zz_rg s10
  unfold m_X7_spansTogether
  have l7 : (0 : Int32).toInt = 0 := rfl
  refine (ff_X7_spansTogether_L4 K hK T hT n0 n1 n2 n3 n4 n5 n6 K ((0 : Int32)) ((0 : Int32)) s0 s1 s2 s3 s4 s5 s6 s7 s8 s9 s10 s11 s12 a0 a1 a2 a3 a4 a5 a6 (by omega) (by omega) a8 (by omega)).mono (fun z hz => ?_)
  obtain ⟨y8_0, y8_1, y8_2, y8_3, y8_4, y8_5, y8_6, y8_7, y8_8, y8_9, y8_10, y8_11, y8_12, y8_13⟩ := z
  have q9 : y8_1 = s0 := hz.1
  have q10 : y8_2 = s1 := hz.2.1
  have q11 : y8_3 = s2 := hz.2.2.1
  have q12 : y8_4 = s3 := hz.2.2.2.1
  have q13 : y8_5 = s4 := hz.2.2.2.2.1
  have q14 : y8_6 = s5 := hz.2.2.2.2.2.1
  have q15 : y8_7 = s6 := hz.2.2.2.2.2.2.1
  have q16 : y8_8 = s7 := hz.2.2.2.2.2.2.2.1
  have q17 : y8_9 = s8 := hz.2.2.2.2.2.2.2.2.1
  have q18 : y8_10 = s9 := hz.2.2.2.2.2.2.2.2.2.1
  have q19 : y8_11 = s10 := hz.2.2.2.2.2.2.2.2.2.2.1
  have q20 : y8_12 = s11 := hz.2.2.2.2.2.2.2.2.2.2.2.1
  have q21 : y8_13 = s12 := hz.2.2.2.2.2.2.2.2.2.2.2.2
  clear hz
  have e22 : s0 = y8_1 := q9.symm
  subst e22
  have e23 : s1 = y8_2 := q10.symm
  subst e23
  have e24 : s2 = y8_3 := q11.symm
  subst e24
  have e25 : s3 = y8_4 := q12.symm
  subst e25
  have e26 : s4 = y8_5 := q13.symm
  subst e26
  have e27 : s5 = y8_6 := q14.symm
  subst e27
  have e28 : s6 = y8_7 := q15.symm
  subst e28
  have e29 : s7 = y8_8 := q16.symm
  subst e29
  have e30 : s8 = y8_9 := q17.symm
  subst e30
  have e31 : s9 = y8_10 := q18.symm
  subst e31
  have e32 : s10 = y8_11 := q19.symm
  subst e32
  have e33 : s11 = y8_12 := q20.symm
  subst e33
  have e34 : s12 = y8_13 := q21.symm
  subst e34
  have g35 := zz_rg y8_0
  show s0 = s0 ∧ s1 = s1 ∧ s2 = s2 ∧ s3 = s3 ∧ s4 = s4 ∧ s5 = s5 ∧ s6 = s6 ∧ s7 = s7 ∧ s8 = s8 ∧ s9 = s9 ∧ s10 = s10 ∧ s11 = s11 ∧ s12 = s12
  exact ⟨rfl, rfl, rfl, rfl, rfl, rfl, rfl, rfl, rfl, rfl, rfl, rfl, rfl⟩
set_option maxHeartbeats 4000000 in
theorem ff_X7_listRuns_L11 (K : Nat) (hK : 1099511627776 ≤ K) (T : Nat) (hT : T ≤ 900) (n0 : Nat) (n1 : Nat) (n2 : Nat) (n3 : Nat) (n4 : Nat) (n5 : Nat) (n6 : Nat) : ∀ (k : Nat) (x1 : Int32) (x2 : Int32) (s0 : Int32) (s1 : Int32) (s2 : Int32) (s3 : Int32) (s4 : Nat → Int32) (s5 : Nat → Int32) (s6 : Nat → Int32) (s7 : Nat → Int32) (s8 : Nat → Int32) (s9 : Int32) (s10 : Int32) (s11 : Nat → Int32) (s12 : Nat → Int32), n0 = 1024 → n1 = 200 → n2 = 200 → n3 = 200 → n4 = 200 → n5 = 512 → n6 = 512 → 0 ≤ s0.toInt → s0.toInt ≤ 1024 → 0 ≤ s9.toInt → 2 * s9.toInt ≤ x1.toInt → 0 ≤ x1.toInt → x1.toInt ≤ x2.toInt → x2.toInt ≤ s0.toInt + 1 → (x2.toInt ≤ s0.toInt ∨ x1.toInt = x2.toInt) → zz_rp s0.toInt (s4) (s11) (s12) s9.toInt x1.toInt x2.toInt → 1026 - x2.toInt < (k : Int) → zz_ok (m_X7_listRuns_L11 K n0 n1 n2 n3 n4 n5 n6 k x1 x2 s0 s1 s2 s3 s4 s5 s6 s7 s8 s9 s10 s11 s12) (fun z => zz_ru s0.toInt (s4) (z.2.2.2.2.2.2.2.2.2.2.2.1) (z.2.2.2.2.2.2.2.2.2.2.2.2) z.2.2.2.2.2.2.2.2.2.1.toInt ∧ 0 ≤ z.2.2.2.2.2.2.2.2.2.1.toInt ∧ z.2.2.2.2.2.2.2.2.2.1.toInt ≤ 512 ∧ z.1 = s0 ∧ z.2.1 = s1 ∧ z.2.2.1 = s2 ∧ z.2.2.2.1 = s3 ∧ z.2.2.2.2.1 = s4 ∧ z.2.2.2.2.2.1 = s5 ∧ z.2.2.2.2.2.2.1 = s6 ∧ z.2.2.2.2.2.2.2.1 = s7 ∧ z.2.2.2.2.2.2.2.2.1 = s8 ∧ z.2.2.2.2.2.2.2.2.2.2.1 = s10) := by
  intro k
  induction k with
  | zero =>
    intro x1 x2 s0 s1 s2 s3 s4 s5 s6 s7 s8 s9 s10 s11 s12 a0 a1 a2 a3 a4 a5 a6 a7 a8 a9 a10 a11 a12 a13 a14 a15 hz9
    exfalso
    have g_x1 := zz_rg x1
    have g_x2 := zz_rg x2
    have g_s0 := zz_rg s0
    have g_s1 := zz_rg s1
    have g_s2 := zz_rg s2
    have g_s3 := zz_rg s3
    have g_s9 := zz_rg s9
    have g_s10 := zz_rg s10
    omega
  | succ k ih =>
    intro x1 x2 s0 s1 s2 s3 s4 s5 s6 s7 s8 s9 s10 s11 s12 a0 a1 a2 a3 a4 a5 a6 a7 a8 a9 a10 a11 a12 a13 a14 a15 hz9
    rw [m_X7_listRuns_L11_s]
    have g1 := zz_rg x1
    have g2 := zz_rg x2
    have g3 := zz_rg s0
    have g4 := zz_rg s1
    have g5 := zz_rg s2
    have g6 := zz_rg s3
    have g7 := zz_rg s9
    have g8 := zz_rg s10
    have tn9 := zz_tnI x2 (by omega)
    have tn8 := zz_tnI s9 (by omega)
    refine zz_ok_ite (fun c9 => ?_) (fun c9 => ?_)
    · have c9 := Int32.lt_iff_toInt_lt.mp c9
      refine zz_ok_some ?_
      show zz_ru s0.toInt (s4) (s11) (s12) s9.toInt ∧ 0 ≤ s9.toInt ∧ s9.toInt ≤ 512 ∧ s0 = s0 ∧ s1 = s1 ∧ s2 = s2 ∧ s3 = s3 ∧ s4 = s4 ∧ s5 = s5 ∧ s6 = s6 ∧ s7 = s7 ∧ s8 = s8 ∧ s10 = s10
      exact ⟨(by first | assumption | exact zz_rp_end (by assumption) (by omega) (by omega)), a9, (by omega), rfl, rfl, rfl, rfl, rfl, rfl, rfl, rfl, rfl, rfl⟩
    · have c9 := zz_nlt c9
      refine zz_ok_bind (ff_X7_isFree K hK T hT n0 n1 n2 n3 n4 n5 n6 x2 s0 s1 s2 s3 s4 s5 s6 s7 s8 s9 s10 s11 s12 a0 a1 a2 a3 a4 a5 a6 a7 a8) ?_
      intro z10 hz10
      obtain ⟨r_3, t_3_0, t_3_1, t_3_2, t_3_3, t_3_4, t_3_5, t_3_6, t_3_7, t_3_8, t_3_9, t_3_10, t_3_11, t_3_12⟩ := z10
      have q11 : (r_3.toInt = 0 ∨ r_3.toInt = 1) := hz10.1
      have q12 : zz_isf s0.toInt (s4) (x2) r_3.toInt := hz10.2.1
      have q13 : t_3_0 = s0 := hz10.2.2.1
      have q14 : t_3_1 = s1 := hz10.2.2.2.1
      have q15 : t_3_2 = s2 := hz10.2.2.2.2.1
      have q16 : t_3_3 = s3 := hz10.2.2.2.2.2.1
      have q17 : t_3_4 = s4 := hz10.2.2.2.2.2.2.1
      have q18 : t_3_5 = s5 := hz10.2.2.2.2.2.2.2.1
      have q19 : t_3_6 = s6 := hz10.2.2.2.2.2.2.2.2.1
      have q20 : t_3_7 = s7 := hz10.2.2.2.2.2.2.2.2.2.1
      have q21 : t_3_8 = s8 := hz10.2.2.2.2.2.2.2.2.2.2.1
      have q22 : t_3_9 = s9 := hz10.2.2.2.2.2.2.2.2.2.2.2.1
      have q23 : t_3_10 = s10 := hz10.2.2.2.2.2.2.2.2.2.2.2.2.1
      have q24 : t_3_11 = s11 := hz10.2.2.2.2.2.2.2.2.2.2.2.2.2.1
      have q25 : t_3_12 = s12 := hz10.2.2.2.2.2.2.2.2.2.2.2.2.2.2
      clear hz10
      have e26 : s0 = t_3_0 := q13.symm
      subst e26
      have e27 : s1 = t_3_1 := q14.symm
      subst e27
      have e28 : s2 = t_3_2 := q15.symm
      subst e28
      have e29 : s3 = t_3_3 := q16.symm
      subst e29
      have e30 : s4 = t_3_4 := q17.symm
      subst e30
      have e31 : s5 = t_3_5 := q18.symm
      subst e31
      have e32 : s6 = t_3_6 := q19.symm
      subst e32
      have e33 : s7 = t_3_7 := q20.symm
      subst e33
      have e34 : s8 = t_3_8 := q21.symm
      subst e34
      have e35 : s9 = t_3_9 := q22.symm
      subst e35
      have e36 : s10 = t_3_10 := q23.symm
      subst e36
      have e37 : s11 = t_3_11 := q24.symm
      subst e37
      have e38 : s12 = t_3_12 := q25.symm
      subst e38
      have g39 := zz_rg r_3
      have if9 := zz_isf_w (by assumption : zz_isf s0.toInt s4 x2 r_3.toInt)
      show zz_ok (if r_3 = 0 then (if x2 ≤ x1 then (m_X7_listRuns_L11 K n0 n1 n2 n3 n4 n5 n6 k (x2 + ((1 : Int32))) (x2 + 1) s0 s1 s2 s3 s4 s5 s6 s7 s8 s9 s10 s11 s12) else ((m_X10_add K n5 n6 x1 (x2 - x1) s9 s10 s11 s12).bind fun ⟨t_6_0, t_6_1, t_6_2, t_6_3⟩ => m_X7_listRuns_L11 K n0 n1 n2 n3 n4 n5 n6 k (x2 + ((1 : Int32))) (x2 + 1) s0 s1 s2 s3 s4 s5 s6 s7 s8 t_6_0 t_6_1 t_6_2 t_6_3)) else (m_X7_listRuns_L11 K n0 n1 n2 n3 n4 n5 n6 k x1 (x2 + 1) s0 s1 s2 s3 s4 s5 s6 s7 s8 s9 s10 s11 s12)) _
      have l41 : (0 : Int32).toInt = 0 := rfl
      refine zz_ok_ite (fun c40 => ?_) (fun c40 => ?_)
      · have c40 := congrArg Int32.toInt c40
        refine zz_ok_ite (fun c42 => ?_) (fun c42 => ?_)
        · have c42 := Int32.le_iff_toInt_le.mp c42
          have l43 : (1 : Int32).toInt = 1 := rfl
          obtain ⟨k44, f45⟩ := zz_add x2 (1 : Int32)
          have g46 := zz_rg (x2 + ((1 : Int32)))
          obtain ⟨k47, f48⟩ := zz_add x2 (1 : Int32)
          have g49 := zz_rg (x2 + 1)
          refine (ih (x2 + ((1 : Int32))) (x2 + 1) s0 s1 s2 s3 s4 s5 s6 s7 s8 s9 s10 s11 s12 a0 a1 a2 a3 a4 a5 a6 a7 a8 a9 (by omega) (by omega) (by omega) (by omega) (by omega) (by first | exact zz_rp_free (i := x2.toNatClampNeg) (by assumption) (by omega) (zz_isf_y (by assumption) (by omega)) (by omega) | exact zz_rp_shut (by assumption) (by omega) (by omega) (by omega) (by omega) (by first | exact Or.inl (by omega) | exact zz_isf_n (by assumption) (by omega) (by omega) (by omega)) (by omega) (by omega) | exact zz_rp_add (by assumption) (by omega) (by omega) (by omega) (by omega) (by first | exact Or.inl (by omega) | exact zz_isf_n (by assumption) (by omega) (by omega) (by omega)) (by omega) (by omega) (by omega) (by omega) (by omega)) (by omega)).mono (fun z hz => ?_)
          obtain ⟨y50_0, y50_1, y50_2, y50_3, y50_4, y50_5, y50_6, y50_7, y50_8, y50_9, y50_10, y50_11, y50_12⟩ := z
          have q51 : zz_ru s0.toInt (s4) (y50_11) (y50_12) y50_9.toInt := hz.1
          have q52 : 0 ≤ y50_9.toInt := hz.2.1
          have q53 : y50_9.toInt ≤ 512 := hz.2.2.1
          have q54 : y50_0 = s0 := hz.2.2.2.1
          have q55 : y50_1 = s1 := hz.2.2.2.2.1
          have q56 : y50_2 = s2 := hz.2.2.2.2.2.1
          have q57 : y50_3 = s3 := hz.2.2.2.2.2.2.1
          have q58 : y50_4 = s4 := hz.2.2.2.2.2.2.2.1
          have q59 : y50_5 = s5 := hz.2.2.2.2.2.2.2.2.1
          have q60 : y50_6 = s6 := hz.2.2.2.2.2.2.2.2.2.1
          have q61 : y50_7 = s7 := hz.2.2.2.2.2.2.2.2.2.2.1
          have q62 : y50_8 = s8 := hz.2.2.2.2.2.2.2.2.2.2.2.1
          have q63 : y50_10 = s10 := hz.2.2.2.2.2.2.2.2.2.2.2.2
          clear hz
          have e64 : s0 = y50_0 := q54.symm
          subst e64
          have e65 : s1 = y50_1 := q55.symm
          subst e65
          have e66 : s2 = y50_2 := q56.symm
          subst e66
          have e67 : s3 = y50_3 := q57.symm
          subst e67
          have e68 : s4 = y50_4 := q58.symm
          subst e68
          have e69 : s5 = y50_5 := q59.symm
          subst e69
          have e70 : s6 = y50_6 := q60.symm
          subst e70
          have e71 : s7 = y50_7 := q61.symm
          subst e71
          have e72 : s8 = y50_8 := q62.symm
          subst e72
          have e73 : s10 = y50_10 := q63.symm
          subst e73
          have g74 := zz_rg y50_9
          show zz_ru s0.toInt (s4) (y50_11) (y50_12) y50_9.toInt ∧ 0 ≤ y50_9.toInt ∧ y50_9.toInt ≤ 512 ∧ s0 = s0 ∧ s1 = s1 ∧ s2 = s2 ∧ s3 = s3 ∧ s4 = s4 ∧ s5 = s5 ∧ s6 = s6 ∧ s7 = s7 ∧ s8 = s8 ∧ s10 = s10
          exact ⟨q51, q52, q53, rfl, rfl, rfl, rfl, rfl, rfl, rfl, rfl, rfl, rfl⟩
        · have c42 := zz_nle c42
          obtain ⟨k75, f76⟩ := zz_sub x2 x1
          have g77 := zz_rg (x2 - x1)
          refine zz_ok_bind (ff_X10_add K hK T hT n5 n6 x1 (x2 - x1) s9 s10 s11 s12 (by omega) (by omega) a9 (by omega) (by omega)) ?_
          intro z78 hz78
          obtain ⟨t_6_0, t_6_1, t_6_2, t_6_3⟩ := z78
          have q79 : t_6_0.toInt = s9.toInt + 1 := hz78.1
          have q80 : t_6_2 = upd s11 s9.toNatClampNeg x1 := hz78.2.1
          have q81 : t_6_3 = upd s12 s9.toNatClampNeg (x2 - x1) := hz78.2.2.1
          have q82 : t_6_1 = s10 := hz78.2.2.2
          clear hz78
          have e83 : upd s11 s9.toNatClampNeg x1 = t_6_2 := q80.symm
          subst e83
          have e84 : upd s12 s9.toNatClampNeg (x2 - x1) = t_6_3 := q81.symm
          subst e84
          have e85 : s10 = t_6_1 := q82.symm
          subst e85
          have g86 := zz_rg t_6_0
          show zz_ok (m_X7_listRuns_L11 K n0 n1 n2 n3 n4 n5 n6 k (x2 + ((1 : Int32))) (x2 + 1) s0 s1 s2 s3 s4 s5 s6 s7 s8 t_6_0 s10 (upd s11 s9.toNatClampNeg x1) (upd s12 s9.toNatClampNeg (x2 - x1))) _
          have l87 : (1 : Int32).toInt = 1 := rfl
          obtain ⟨k88, f89⟩ := zz_add x2 (1 : Int32)
          have g90 := zz_rg (x2 + ((1 : Int32)))
          obtain ⟨k91, f92⟩ := zz_add x2 (1 : Int32)
          have g93 := zz_rg (x2 + 1)
          refine (ih (x2 + ((1 : Int32))) (x2 + 1) s0 s1 s2 s3 s4 s5 s6 s7 s8 t_6_0 s10 (upd s11 s9.toNatClampNeg x1) (upd s12 s9.toNatClampNeg (x2 - x1)) a0 a1 a2 a3 a4 a5 a6 a7 a8 (by omega) (by omega) (by omega) (by omega) (by omega) (by omega) (by first | exact zz_rp_free (i := x2.toNatClampNeg) (by assumption) (by omega) (zz_isf_y (by assumption) (by omega)) (by omega) | exact zz_rp_shut (by assumption) (by omega) (by omega) (by omega) (by omega) (by first | exact Or.inl (by omega) | exact zz_isf_n (by assumption) (by omega) (by omega) (by omega)) (by omega) (by omega) | exact zz_rp_add (by assumption) (by omega) (by omega) (by omega) (by omega) (by first | exact Or.inl (by omega) | exact zz_isf_n (by assumption) (by omega) (by omega) (by omega)) (by omega) (by omega) (by omega) (by omega) (by omega)) (by omega)).mono (fun z hz => ?_)
          obtain ⟨y94_0, y94_1, y94_2, y94_3, y94_4, y94_5, y94_6, y94_7, y94_8, y94_9, y94_10, y94_11, y94_12⟩ := z
          have q95 : zz_ru s0.toInt (s4) (y94_11) (y94_12) y94_9.toInt := hz.1
          have q96 : 0 ≤ y94_9.toInt := hz.2.1
          have q97 : y94_9.toInt ≤ 512 := hz.2.2.1
          have q98 : y94_0 = s0 := hz.2.2.2.1
          have q99 : y94_1 = s1 := hz.2.2.2.2.1
          have q100 : y94_2 = s2 := hz.2.2.2.2.2.1
          have q101 : y94_3 = s3 := hz.2.2.2.2.2.2.1
          have q102 : y94_4 = s4 := hz.2.2.2.2.2.2.2.1
          have q103 : y94_5 = s5 := hz.2.2.2.2.2.2.2.2.1
          have q104 : y94_6 = s6 := hz.2.2.2.2.2.2.2.2.2.1
          have q105 : y94_7 = s7 := hz.2.2.2.2.2.2.2.2.2.2.1
          have q106 : y94_8 = s8 := hz.2.2.2.2.2.2.2.2.2.2.2.1
          have q107 : y94_10 = s10 := hz.2.2.2.2.2.2.2.2.2.2.2.2
          clear hz
          have e108 : s0 = y94_0 := q98.symm
          subst e108
          have e109 : s1 = y94_1 := q99.symm
          subst e109
          have e110 : s2 = y94_2 := q100.symm
          subst e110
          have e111 : s3 = y94_3 := q101.symm
          subst e111
          have e112 : s4 = y94_4 := q102.symm
          subst e112
          have e113 : s5 = y94_5 := q103.symm
          subst e113
          have e114 : s6 = y94_6 := q104.symm
          subst e114
          have e115 : s7 = y94_7 := q105.symm
          subst e115
          have e116 : s8 = y94_8 := q106.symm
          subst e116
          have e117 : s10 = y94_10 := q107.symm
          subst e117
          have g118 := zz_rg y94_9
          show zz_ru s0.toInt (s4) (y94_11) (y94_12) y94_9.toInt ∧ 0 ≤ y94_9.toInt ∧ y94_9.toInt ≤ 512 ∧ s0 = s0 ∧ s1 = s1 ∧ s2 = s2 ∧ s3 = s3 ∧ s4 = s4 ∧ s5 = s5 ∧ s6 = s6 ∧ s7 = s7 ∧ s8 = s8 ∧ s10 = s10
          exact ⟨q95, q96, q97, rfl, rfl, rfl, rfl, rfl, rfl, rfl, rfl, rfl, rfl⟩
      · have c40 := zz_neq c40
        have l119 : (1 : Int32).toInt = 1 := rfl
        obtain ⟨k120, f121⟩ := zz_add x2 (1 : Int32)
        have g122 := zz_rg (x2 + 1)
        refine (ih x1 (x2 + 1) s0 s1 s2 s3 s4 s5 s6 s7 s8 s9 s10 s11 s12 a0 a1 a2 a3 a4 a5 a6 a7 a8 a9 a10 a11 (by omega) (by omega) (by omega) (by first | exact zz_rp_free (i := x2.toNatClampNeg) (by assumption) (by omega) (zz_isf_y (by assumption) (by omega)) (by omega) | exact zz_rp_shut (by assumption) (by omega) (by omega) (by omega) (by omega) (by first | exact Or.inl (by omega) | exact zz_isf_n (by assumption) (by omega) (by omega) (by omega)) (by omega) (by omega) | exact zz_rp_add (by assumption) (by omega) (by omega) (by omega) (by omega) (by first | exact Or.inl (by omega) | exact zz_isf_n (by assumption) (by omega) (by omega) (by omega)) (by omega) (by omega) (by omega) (by omega) (by omega)) (by omega)).mono (fun z hz => ?_)
        obtain ⟨y123_0, y123_1, y123_2, y123_3, y123_4, y123_5, y123_6, y123_7, y123_8, y123_9, y123_10, y123_11, y123_12⟩ := z
        have q124 : zz_ru s0.toInt (s4) (y123_11) (y123_12) y123_9.toInt := hz.1
        have q125 : 0 ≤ y123_9.toInt := hz.2.1
        have q126 : y123_9.toInt ≤ 512 := hz.2.2.1
        have q127 : y123_0 = s0 := hz.2.2.2.1
        have q128 : y123_1 = s1 := hz.2.2.2.2.1
        have q129 : y123_2 = s2 := hz.2.2.2.2.2.1
        have q130 : y123_3 = s3 := hz.2.2.2.2.2.2.1
        have q131 : y123_4 = s4 := hz.2.2.2.2.2.2.2.1
        have q132 : y123_5 = s5 := hz.2.2.2.2.2.2.2.2.1
        have q133 : y123_6 = s6 := hz.2.2.2.2.2.2.2.2.2.1
        have q134 : y123_7 = s7 := hz.2.2.2.2.2.2.2.2.2.2.1
        have q135 : y123_8 = s8 := hz.2.2.2.2.2.2.2.2.2.2.2.1
        have q136 : y123_10 = s10 := hz.2.2.2.2.2.2.2.2.2.2.2.2
        clear hz
        have e137 : s0 = y123_0 := q127.symm
        subst e137
        have e138 : s1 = y123_1 := q128.symm
        subst e138
        have e139 : s2 = y123_2 := q129.symm
        subst e139
        have e140 : s3 = y123_3 := q130.symm
        subst e140
        have e141 : s4 = y123_4 := q131.symm
        subst e141
        have e142 : s5 = y123_5 := q132.symm
        subst e142
        have e143 : s6 = y123_6 := q133.symm
        subst e143
        have e144 : s7 = y123_7 := q134.symm
        subst e144
        have e145 : s8 = y123_8 := q135.symm
        subst e145
        have e146 : s10 = y123_10 := q136.symm
        subst e146
        have g147 := zz_rg y123_9
        show zz_ru s0.toInt (s4) (y123_11) (y123_12) y123_9.toInt ∧ 0 ≤ y123_9.toInt ∧ y123_9.toInt ≤ 512 ∧ s0 = s0 ∧ s1 = s1 ∧ s2 = s2 ∧ s3 = s3 ∧ s4 = s4 ∧ s5 = s5 ∧ s6 = s6 ∧ s7 = s7 ∧ s8 = s8 ∧ s10 = s10
        exact ⟨q124, q125, q126, rfl, rfl, rfl, rfl, rfl, rfl, rfl, rfl, rfl, rfl⟩
set_option maxHeartbeats 4000000 in
theorem ff_X7_listRuns (K : Nat) (hK : 1099511627776 ≤ K) (T : Nat) (hT : T ≤ 900) (n0 : Nat) (n1 : Nat) (n2 : Nat) (n3 : Nat) (n4 : Nat) (n5 : Nat) (n6 : Nat) (s0 : Int32) (s1 : Int32) (s2 : Int32) (s3 : Int32) (s4 : Nat → Int32) (s5 : Nat → Int32) (s6 : Nat → Int32) (s7 : Nat → Int32) (s8 : Nat → Int32) (s9 : Int32) (s10 : Int32) (s11 : Nat → Int32) (s12 : Nat → Int32) (a0 : n0 = 1024) (a1 : n1 = 200) (a2 : n2 = 200) (a3 : n3 = 200) (a4 : n4 = 200) (a5 : n5 = 512) (a6 : n6 = 512) (a7 : 0 ≤ s0.toInt) (a8 : s0.toInt ≤ 1024) : zz_ok (m_X7_listRuns K n0 n1 n2 n3 n4 n5 n6 s0 s1 s2 s3 s4 s5 s6 s7 s8 s9 s10 s11 s12) (fun z => zz_ru s0.toInt (s4) (z.2.2.2.2.2.2.2.2.2.2.2.1) (z.2.2.2.2.2.2.2.2.2.2.2.2) z.2.2.2.2.2.2.2.2.2.1.toInt ∧ 0 ≤ z.2.2.2.2.2.2.2.2.2.1.toInt ∧ z.2.2.2.2.2.2.2.2.2.1.toInt ≤ 512 ∧ z.1 = s0 ∧ z.2.1 = s1 ∧ z.2.2.1 = s2 ∧ z.2.2.2.1 = s3 ∧ z.2.2.2.2.1 = s4 ∧ z.2.2.2.2.2.1 = s5 ∧ z.2.2.2.2.2.2.1 = s6 ∧ z.2.2.2.2.2.2.2.1 = s7 ∧ z.2.2.2.2.2.2.2.2.1 = s8 ∧ z.2.2.2.2.2.2.2.2.2.2.1 = s10) := by
  have g1 := zz_rg s0
  have g2 := zz_rg s1
  have g3 := zz_rg s2
  have g4 := zz_rg s3
  have g5 := zz_rg s9
  have g6 := zz_rg s10
  unfold m_X7_listRuns
  refine zz_ok_bind (ff_X10_clear K hK T hT n5 n6 s9 s10 s11 s12) ?_
  intro z7 hz7
  obtain ⟨t_1_0, t_1_1, t_1_2, t_1_3⟩ := z7
  have q8 : t_1_0.toInt = 0 := hz7.1
  have q9 : t_1_1 = s10 := hz7.2.1
  have q10 : t_1_2 = s11 := hz7.2.2.1
  have q11 : t_1_3 = s12 := hz7.2.2.2
  clear hz7
  have e12 : s10 = t_1_1 := q9.symm
  subst e12
  have e13 : s11 = t_1_2 := q10.symm
  subst e13
  have e14 : s12 = t_1_3 := q11.symm
  subst e14
  have g15 := zz_rg t_1_0
  show zz_ok (m_X7_listRuns_L11 K n0 n1 n2 n3 n4 n5 n6 K ((0 : Int32)) ((0 : Int32)) s0 s1 s2 s3 s4 s5 s6 s7 s8 t_1_0 s10 s11 s12) _
  have l16 : (0 : Int32).toInt = 0 := rfl
  refine (ff_X7_listRuns_L11 K hK T hT n0 n1 n2 n3 n4 n5 n6 K ((0 : Int32)) ((0 : Int32)) s0 s1 s2 s3 s4 s5 s6 s7 s8 t_1_0 s10 s11 s12 a0 a1 a2 a3 a4 a5 a6 a7 a8 (by omega) (by omega) (by omega) (by omega) (by omega) (by omega) (by exact zz_rp_ini (by omega) (by omega) (by omega)) (by omega)).mono (fun z hz => ?_)
  obtain ⟨y17_0, y17_1, y17_2, y17_3, y17_4, y17_5, y17_6, y17_7, y17_8, y17_9, y17_10, y17_11, y17_12⟩ := z
  have q18 : zz_ru s0.toInt (s4) (y17_11) (y17_12) y17_9.toInt := hz.1
  have q19 : 0 ≤ y17_9.toInt := hz.2.1
  have q20 : y17_9.toInt ≤ 512 := hz.2.2.1
  have q21 : y17_0 = s0 := hz.2.2.2.1
  have q22 : y17_1 = s1 := hz.2.2.2.2.1
  have q23 : y17_2 = s2 := hz.2.2.2.2.2.1
  have q24 : y17_3 = s3 := hz.2.2.2.2.2.2.1
  have q25 : y17_4 = s4 := hz.2.2.2.2.2.2.2.1
  have q26 : y17_5 = s5 := hz.2.2.2.2.2.2.2.2.1
  have q27 : y17_6 = s6 := hz.2.2.2.2.2.2.2.2.2.1
  have q28 : y17_7 = s7 := hz.2.2.2.2.2.2.2.2.2.2.1
  have q29 : y17_8 = s8 := hz.2.2.2.2.2.2.2.2.2.2.2.1
  have q30 : y17_10 = s10 := hz.2.2.2.2.2.2.2.2.2.2.2.2
  clear hz
  have e31 : s0 = y17_0 := q21.symm
  subst e31
  have e32 : s1 = y17_1 := q22.symm
  subst e32
  have e33 : s2 = y17_2 := q23.symm
  subst e33
  have e34 : s3 = y17_3 := q24.symm
  subst e34
  have e35 : s4 = y17_4 := q25.symm
  subst e35
  have e36 : s5 = y17_5 := q26.symm
  subst e36
  have e37 : s6 = y17_6 := q27.symm
  subst e37
  have e38 : s7 = y17_7 := q28.symm
  subst e38
  have e39 : s8 = y17_8 := q29.symm
  subst e39
  have e40 : s10 = y17_10 := q30.symm
  subst e40
  have g41 := zz_rg y17_9
  show zz_ru s0.toInt (s4) (y17_11) (y17_12) y17_9.toInt ∧ 0 ≤ y17_9.toInt ∧ y17_9.toInt ≤ 512 ∧ s0 = s0 ∧ s1 = s1 ∧ s2 = s2 ∧ s3 = s3 ∧ s4 = s4 ∧ s5 = s5 ∧ s6 = s6 ∧ s7 = s7 ∧ s8 = s8 ∧ s10 = s10
  exact ⟨q18, q19, q20, rfl, rfl, rfl, rfl, rfl, rfl, rfl, rfl, rfl, rfl⟩
set_option maxHeartbeats 4000000 in
theorem ff_X10_mostWords_L4 (K : Nat) (hK : 1099511627776 ≤ K) (T : Nat) (hT : T ≤ 900) (n0 : Nat) (n1 : Nat) : ∀ (k : Nat) (x1 : Int32) (x2 : Int32) (s0 : Int32) (s1 : Int32) (s2 : Nat → Int32) (s3 : Nat → Int32), (n0 : Int) = (n1 : Int) → (n0 : Int) < 1000000 → 0 ≤ x2.toInt → x2.toInt ≤ s0.toInt → s0.toInt ≤ (n0 : Int) → s0.toInt - x2.toInt < (k : Int) → zz_ok (m_X10_mostWords_L4 K n0 n1 k x1 x2 s0 s1 s2 s3) (fun z => z.2.1 = s0 ∧ z.2.2.1 = s1 ∧ z.2.2.2.1 = s2 ∧ z.2.2.2.2 = s3) := by
  intro k
  induction k with
  | zero =>
    intro x1 x2 s0 s1 s2 s3 a0 a1 a2 a3 a4 hz9
    exfalso
    have g_x1 := zz_rg x1
    have g_x2 := zz_rg x2
    have g_s0 := zz_rg s0
    have g_s1 := zz_rg s1
    omega
  | succ k ih =>
    intro x1 x2 s0 s1 s2 s3 a0 a1 a2 a3 a4 hz9
    rw [m_X10_mostWords_L4_s]
    have g1 := zz_rg x1
    have g2 := zz_rg x2
    have g3 := zz_rg s0
    have g4 := zz_rg s1
    refine zz_ok_ite (fun c5 => ?_) (fun c5 => ?_)
    · have c5 := Int32.le_iff_toInt_le.mp c5
      refine zz_ok_some ?_
      show s0 = s0 ∧ s1 = s1 ∧ s2 = s2 ∧ s3 = s3
      exact ⟨rfl, rfl, rfl, rfl⟩
    · have c5 := zz_nle c5
      refine zz_ok_chk (zz_ix (by omega) (by omega)) ?_
      have g6 := zz_tnI x2 (by omega)
      have g7 := zz_rg (s3 x2.toNatClampNeg)
      have f8 := zz_maxF x1 (s3 x2.toNatClampNeg)
      have g9 := zz_rg (zz_max x1 (s3 x2.toNatClampNeg))
      have l10 : (1 : Int32).toInt = 1 := rfl
      obtain ⟨k11, f12⟩ := zz_add x2 (1 : Int32)
      have g13 := zz_rg (x2 + 1)
      refine (ih (zz_max x1 (s3 x2.toNatClampNeg)) (x2 + 1) s0 s1 s2 s3 a0 a1 (by omega) (by omega) a4 (by omega)).mono (fun z hz => ?_)
      obtain ⟨y14_0, y14_1, y14_2, y14_3, y14_4⟩ := z
      have q15 : y14_1 = s0 := hz.1
      have q16 : y14_2 = s1 := hz.2.1
      have q17 : y14_3 = s2 := hz.2.2.1
      have q18 : y14_4 = s3 := hz.2.2.2
      clear hz
      have e19 : s0 = y14_1 := q15.symm
      subst e19
      have e20 : s1 = y14_2 := q16.symm
      subst e20
      have e21 : s2 = y14_3 := q17.symm
      subst e21
      have e22 : s3 = y14_4 := q18.symm
      subst e22
      have g23 := zz_rg y14_0
      show s0 = s0 ∧ s1 = s1 ∧ s2 = s2 ∧ s3 = s3
      exact ⟨rfl, rfl, rfl, rfl⟩
set_option maxHeartbeats 4000000 in
theorem ff_X10_mostWords (K : Nat) (hK : 1099511627776 ≤ K) (T : Nat) (hT : T ≤ 900) (n0 : Nat) (n1 : Nat) (s0 : Int32) (s1 : Int32) (s2 : Nat → Int32) (s3 : Nat → Int32) (a0 : (n0 : Int) = (n1 : Int)) (a1 : (n0 : Int) < 1000000) (a2 : 0 ≤ s0.toInt) (a3 : s0.toInt ≤ (n0 : Int)) : zz_ok (m_X10_mostWords K n0 n1 s0 s1 s2 s3) (fun z => z.2.1 = s0 ∧ z.2.2.1 = s1 ∧ z.2.2.2.1 = s2 ∧ z.2.2.2.2 = s3) := by
  have g1 := zz_rg s0
  have g2 := zz_rg s1
  unfold m_X10_mostWords
  have l3 : (0 : Int32).toInt = 0 := rfl
  refine (ff_X10_mostWords_L4 K hK T hT n0 n1 K ((0 : Int32)) ((0 : Int32)) s0 s1 s2 s3 a0 a1 (by omega) (by omega) a3 (by omega)).mono (fun z hz => ?_)
  obtain ⟨y4_0, y4_1, y4_2, y4_3, y4_4⟩ := z
  have q5 : y4_1 = s0 := hz.1
  have q6 : y4_2 = s1 := hz.2.1
  have q7 : y4_3 = s2 := hz.2.2.1
  have q8 : y4_4 = s3 := hz.2.2.2
  clear hz
  have e9 : s0 = y4_1 := q5.symm
  subst e9
  have e10 : s1 = y4_2 := q6.symm
  subst e10
  have e11 : s2 = y4_3 := q7.symm
  subst e11
  have e12 : s3 = y4_4 := q8.symm
  subst e12
  have g13 := zz_rg y4_0
  show s0 = s0 ∧ s1 = s1 ∧ s2 = s2 ∧ s3 = s3
  exact ⟨rfl, rfl, rfl, rfl⟩
set_option maxHeartbeats 4000000 in
theorem ff_J7_fill_53178_L5 (K : Nat) (hK : 1099511627776 ≤ K) (T : Nat) (hT : T ≤ 900) (n0 : Nat) : ∀ (k : Nat) (x1 : Int32) (x2 : Int32) (x3 : Int32) (s0 : Nat → Int32), 0 ≤ x2.toInt → x3.toInt = (n0 : Int) → x2.toInt ≤ x3.toInt → (n0 : Int) < 1000000 → zz_fl (s0) (x1) x2.toInt → x3.toInt - x2.toInt < (k : Int) → zz_ok (m_J7_fill_53178_L5 K n0 k x1 x2 x3 s0) (fun z => zz_fl (z) (x1) (n0 : Int)) := by
  intro k
  induction k with
  | zero =>
    intro x1 x2 x3 s0 a0 a1 a2 a3 a4 hz9
    exfalso
    have g_x1 := zz_rg x1
    have g_x2 := zz_rg x2
    have g_x3 := zz_rg x3
    omega
  | succ k ih =>
    intro x1 x2 x3 s0 a0 a1 a2 a3 a4 hz9
    rw [m_J7_fill_53178_L5_s]
    have g1 := zz_rg x1
    have g2 := zz_rg x2
    have g3 := zz_rg x3
    refine zz_ok_ite (fun c4 => ?_) (fun c4 => ?_)
    · have c4 := Int32.le_iff_toInt_le.mp c4
      refine zz_ok_some ?_
      show zz_fl (s0) (x1) (n0 : Int)
      exact (by first | assumption | exact zz_fl_cg (by assumption) (by omega) | exact zz_fl_step (j := x2.toNatClampNeg) (by assumption) (by omega) (by omega))
    · have c4 := zz_nle c4
      refine zz_ok_chk (zz_ix (by omega) (by omega)) ?_
      have g5 := zz_tnI x2 (by omega)
      have l6 : (1 : Int32).toInt = 1 := rfl
      obtain ⟨k7, f8⟩ := zz_add x2 (1 : Int32)
      have g9 := zz_rg (x2 + 1)
      refine (ih x1 (x2 + 1) x3 (upd s0 x2.toNatClampNeg x1) (by omega) a1 (by omega) a3 (by first | assumption | exact zz_fl_cg (by assumption) (by omega) | exact zz_fl_step (j := x2.toNatClampNeg) (by assumption) (by omega) (by omega)) (by omega)).mono (fun z hz => ?_)
      obtain ⟨y10_0, h9y10⟩ : ∃ q, q = z := ⟨_, rfl⟩
      subst h9y10
      have q11 : zz_fl (y10_0) (x1) (n0 : Int) := hz
      clear hz
      show zz_fl (y10_0) (x1) (n0 : Int)
      exact q11
set_option maxHeartbeats 4000000 in
theorem ff_J7_fill_53178 (K : Nat) (hK : 1099511627776 ≤ K) (T : Nat) (hT : T ≤ 900) (n0 : Nat) (p1 : Int32) (s0 : Nat → Int32) (a0 : (n0 : Int) < 1000000) : zz_ok (m_J7_fill_53178 K n0 p1 s0) (fun z => zz_fl (z) (p1) (n0 : Int)) := by
  have g1 := zz_rg p1
  unfold m_J7_fill_53178
  have l2 : (0 : Int32).toInt = 0 := rfl
  have f3 := zz_nI n0 (by omega)
  have g4 := zz_rg (nI n0)
  refine (ff_J7_fill_53178_L5 K hK T hT n0 K p1 ((0 : Int32)) (nI n0) s0 (by omega) (by omega) (by omega) a0 (by exact zz_fl_0 (by omega)) (by omega)).mono (fun z hz => ?_)
  obtain ⟨y5_0, h9y5⟩ : ∃ q, q = z := ⟨_, rfl⟩
  subst h9y5
  have q6 : zz_fl (y5_0) (p1) (n0 : Int) := hz
  clear hz
  show zz_fl (y5_0) (p1) (n0 : Int)
  exact q6
set_option maxHeartbeats 4000000 in
theorem ff_X7_empty (K : Nat) (hK : 1099511627776 ≤ K) (T : Nat) (hT : T ≤ 900) (n0 : Nat) (n1 : Nat) (n2 : Nat) (n3 : Nat) (n4 : Nat) (n5 : Nat) (n6 : Nat) (p1 : Int32) (s0 : Int32) (s1 : Int32) (s2 : Int32) (s3 : Int32) (s4 : Nat → Int32) (s5 : Nat → Int32) (s6 : Nat → Int32) (s7 : Nat → Int32) (s8 : Nat → Int32) (s9 : Int32) (s10 : Int32) (s11 : Nat → Int32) (s12 : Nat → Int32) (a0 : n0 = 1024) (a1 : n1 = 200) (a2 : n2 = 200) (a3 : n3 = 200) (a4 : n4 = 200) (a5 : n5 = 512) (a6 : n6 = 512) (a7 : 16 ≤ p1.toInt) (a8 : p1.toInt ≤ 1024) : zz_ok (m_X7_empty K n0 n1 n2 n3 n4 n5 n6 p1 s0 s1 s2 s3 s4 s5 s6 s7 s8 s9 s10 s11 s12) (fun z => z.1.toInt = p1.toInt ∧ z.2.1.toInt = 0 ∧ z.2.2.1.toInt = 0 ∧ zz_fl (z.2.2.2.2.1) (-1) 1024 ∧ z.2.2.2.2.2.1 = s5 ∧ z.2.2.2.2.2.2.1 = s6 ∧ z.2.2.2.2.2.2.2.1 = s7 ∧ z.2.2.2.2.2.2.2.2.1 = s8 ∧ z.2.2.2.2.2.2.2.2.2.1 = s9 ∧ z.2.2.2.2.2.2.2.2.2.2.1 = s10 ∧ z.2.2.2.2.2.2.2.2.2.2.2.1 = s11 ∧ z.2.2.2.2.2.2.2.2.2.2.2.2 = s12) := by
  have g1 := zz_rg p1
  have g2 := zz_rg s0
  have g3 := zz_rg s1
  have g4 := zz_rg s2
  have g5 := zz_rg s3
  have g6 := zz_rg s9
  have g7 := zz_rg s10
  unfold m_X7_empty
  have l8 : (-1 : Int32).toInt = -1 := rfl
  refine zz_ok_bind (ff_J7_fill_53178 K hK T hT n0 ((-1 : Int32)) s4 (by omega)) ?_
  intro z9 hz9
  have ⟨t_1_0, h9z9⟩ : ∃ q, q = z9 := ⟨_, rfl⟩
  subst h9z9
  have q10 : zz_fl (t_1_0) (((-1 : Int32))) (n0 : Int) := hz9
  clear hz9
  show zz_ok (some (zz_min (zz_max p1 ((0 : Int32))) ((1024 : Int32)), (0 : Int32), (0 : Int32), (0 : Int32), t_1_0, s5, s6, s7, s8, s9, s10, s11, s12)) _
  have l11 : (0 : Int32).toInt = 0 := rfl
  have f12 := zz_maxF p1 (0 : Int32)
  have g13 := zz_rg (zz_max p1 ((0 : Int32)))
  have l14 : (1024 : Int32).toInt = 1024 := rfl
  have f15 := zz_minF (zz_max p1 ((0 : Int32))) (1024 : Int32)
  have g16 := zz_rg (zz_min (zz_max p1 ((0 : Int32))) ((1024 : Int32)))
  refine zz_ok_some ?_
  show (zz_min (zz_max p1 ((0 : Int32))) ((1024 : Int32))).toInt = p1.toInt ∧ (0 : Int32).toInt = 0 ∧ (0 : Int32).toInt = 0 ∧ zz_fl (t_1_0) (-1) 1024 ∧ s5 = s5 ∧ s6 = s6 ∧ s7 = s7 ∧ s8 = s8 ∧ s9 = s9 ∧ s10 = s10 ∧ s11 = s11 ∧ s12 = s12
  exact ⟨(by omega), (by omega), (by omega), (by exact zz_fl_cg (by assumption) (by omega)), rfl, rfl, rfl, rfl, rfl, rfl, rfl, rfl⟩

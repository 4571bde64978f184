set_option maxHeartbeats 4000000 in
theorem s_X7_mark_L19 (K : Nat) (hK : 1099511627776 ≤ K) (n0 : Nat) (n1 : Nat) (n2 : Nat) (n3 : Nat) (n4 : Nat) (n5 : Nat) (n6 : Nat) : ∀ (k : Nat) (x1 : Int32) (x2 : Int32) (x3 : Int32) (x4 : Int32) (x5 : Int32) (s0 : Int32) (s1 : Int32) (s2 : Int32) (s3 : Int32) (s4 : Nat → Int32) (s5 : Nat → Int32) (s6 : Nat → Int32) (s7 : Nat → Int32) (s8 : Nat → Int32) (s9 : Int32) (s10 : Int32) (s11 : Nat → Int32) (s12 : Nat → Int32), n0 = 1024 → n1 = 200 → n2 = 200 → n3 = 200 → n4 = 200 → n5 = 512 → n6 = 512 → 0 ≤ s0.toInt → s0.toInt ≤ 1024 → 0 ≤ s1.toInt → s1.toInt ≤ 200 → 0 ≤ s9.toInt → s9.toInt ≤ 512 → 0 ≤ x5.toInt → x4.toInt ≤ 1024 → 2147483648 - x5.toInt < (k : Int) → zz_ok (m_X7_mark_L19 K n0 n1 n2 n3 n4 n5 n6 k x1 x2 x3 x4 x5 s0 s1 s2 s3 s4 s5 s6 s7 s8 s9 s10 s11 s12) (fun z => z.1.toInt = s0.toInt ∧ z.2.1.toInt = s1.toInt ∧ 0 ≤ z.2.2.2.2.2.2.2.2.2.1.toInt ∧ z.2.2.2.2.2.2.2.2.2.1.toInt ≤ 512) := by
  intro k
  induction k with
  | zero =>
    intro x1 x2 x3 x4 x5 s0 s1 s2 s3 s4 s5 s6 s7 s8 s9 s10 s11 s12 a0 a1 a2 a3 a4 a5 a6 a7 a8 a9 a10 a11 a12 a13 a14 hz9
    exfalso
    have g_x1 := zz_rg x1
    have g_x2 := zz_rg x2
    have g_x3 := zz_rg x3
    have g_x4 := zz_rg x4
    have g_x5 := zz_rg x5
    have g_s0 := zz_rg s0
    have g_s1 := zz_rg s1
    have g_s2 := zz_rg s2
    have g_s3 := zz_rg s3
    have g_s9 := zz_rg s9
    have g_s10 := zz_rg s10
    omega
  | succ k ih =>
    intro x1 x2 x3 x4 x5 s0 s1 s2 s3 s4 s5 s6 s7 s8 s9 s10 s11 s12 a0 a1 a2 a3 a4 a5 a6 a7 a8 a9 a10 a11 a12 a13 a14 hz9
    rw [m_X7_mark_L19_s]
    have g1 := zz_rg x1
    have g2 := zz_rg x2
    have g3 := zz_rg x3
    have g4 := zz_rg x4
    have g5 := zz_rg x5
    have g6 := zz_rg s0
    have g7 := zz_rg s1
    have g8 := zz_rg s2
    have g9 := zz_rg s3
    have g10 := zz_rg s9
    have g11 := zz_rg s10
    refine zz_ok_ite (fun c12 => ?_) (fun c12 => ?_)
    · have c12 := Int32.le_iff_toInt_le.mp c12
      refine zz_ok_some ?_
      show s0.toInt = s0.toInt ∧ s1.toInt = s1.toInt ∧ 0 ≤ s9.toInt ∧ s9.toInt ≤ 512
      refine ⟨?_, ?_, ?_, ?_⟩ <;> omega
    · have c12 := zz_nle c12
      refine zz_ok_chk (zz_ix (by omega) (by omega)) ?_
      have l13 : (1 : Int32).toInt = 1 := rfl
      obtain ⟨k14, f15⟩ := zz_add x5 (1 : Int32)
      have g16 := zz_rg (x5 + 1)
      refine (ih x1 x2 x3 x4 (x5 + 1) s0 s1 s2 s3 (upd s4 x5.toNatClampNeg x3) s5 s6 s7 s8 s9 s10 s11 s12 (by omega) (by omega) (by omega) (by omega) (by omega) (by omega) (by omega) (by omega) (by omega) (by omega) (by omega) (by omega) (by omega) (by omega) (by omega) (by omega)).mono (fun z hz => ?_)
      have q17 : z.1.toInt = s0.toInt := hz.1
      have q18 : z.2.1.toInt = s1.toInt := hz.2.1
      have q19 : 0 ≤ z.2.2.2.2.2.2.2.2.2.1.toInt := hz.2.2.1
      have q20 : z.2.2.2.2.2.2.2.2.2.1.toInt ≤ 512 := hz.2.2.2
      show z.1.toInt = s0.toInt ∧ z.2.1.toInt = s1.toInt ∧ 0 ≤ z.2.2.2.2.2.2.2.2.2.1.toInt ∧ z.2.2.2.2.2.2.2.2.2.1.toInt ≤ 512
      refine ⟨?_, ?_, ?_, ?_⟩ <;> omega
set_option maxHeartbeats 4000000 in
theorem s_X7_mark (K : Nat) (hK : 1099511627776 ≤ K) (n0 : Nat) (n1 : Nat) (n2 : Nat) (n3 : Nat) (n4 : Nat) (n5 : Nat) (n6 : Nat) (p1 : Int32) (p2 : Int32) (p3 : Int32) (s0 : Int32) (s1 : Int32) (s2 : Int32) (s3 : Int32) (s4 : Nat → Int32) (s5 : Nat → Int32) (s6 : Nat → Int32) (s7 : Nat → Int32) (s8 : Nat → Int32) (s9 : Int32) (s10 : Int32) (s11 : Nat → Int32) (s12 : Nat → Int32) (a0 : n0 = 1024) (a1 : n1 = 200) (a2 : n2 = 200) (a3 : n3 = 200) (a4 : n4 = 200) (a5 : n5 = 512) (a6 : n6 = 512) (a7 : 0 ≤ s0.toInt) (a8 : s0.toInt ≤ 1024) (a9 : 0 ≤ s1.toInt) (a10 : s1.toInt ≤ 200) (a11 : 0 ≤ s9.toInt) (a12 : s9.toInt ≤ 512) : zz_ok (m_X7_mark K n0 n1 n2 n3 n4 n5 n6 p1 p2 p3 s0 s1 s2 s3 s4 s5 s6 s7 s8 s9 s10 s11 s12) (fun z => z.1.toInt = s0.toInt ∧ z.2.1.toInt = s1.toInt ∧ 0 ≤ z.2.2.2.2.2.2.2.2.2.1.toInt ∧ z.2.2.2.2.2.2.2.2.2.1.toInt ≤ 512) := by
  have g1 := zz_rg p1
  have g2 := zz_rg p2
  have g3 := zz_rg p3
  have g4 := zz_rg s0
  have g5 := zz_rg s1
  have g6 := zz_rg s2
  have g7 := zz_rg s3
  have g8 := zz_rg s9
  have g9 := zz_rg s10
  unfold m_X7_mark
  obtain ⟨k10, f11⟩ := zz_add p1 p2
  have g12 := zz_rg (p1 + p2)
  have f13 := zz_minF (p1 + p2) s0
  have g14 := zz_rg (zz_min (p1 + p2) s0)
  have l15 : (0 : Int32).toInt = 0 := rfl
  have f16 := zz_maxF p1 (0 : Int32)
  have g17 := zz_rg (zz_max p1 ((0 : Int32)))
  refine (s_X7_mark_L19 K hK n0 n1 n2 n3 n4 n5 n6 K p1 p2 p3 (zz_min (p1 + p2) s0) (zz_max p1 ((0 : Int32))) s0 s1 s2 s3 s4 s5 s6 s7 s8 s9 s10 s11 s12 (by omega) (by omega) (by omega) (by omega) (by omega) (by omega) (by omega) (by omega) (by omega) (by omega) (by omega) (by omega) (by omega) (by omega) (by omega) (by omega)).mono (fun z hz => ?_)
  have q18 : z.1.toInt = s0.toInt := hz.1
  have q19 : z.2.1.toInt = s1.toInt := hz.2.1
  have q20 : 0 ≤ z.2.2.2.2.2.2.2.2.2.1.toInt := hz.2.2.1
  have q21 : z.2.2.2.2.2.2.2.2.2.1.toInt ≤ 512 := hz.2.2.2
  show z.1.toInt = s0.toInt ∧ z.2.1.toInt = s1.toInt ∧ 0 ≤ z.2.2.2.2.2.2.2.2.2.1.toInt ∧ z.2.2.2.2.2.2.2.2.2.1.toInt ≤ 512
  refine ⟨?_, ?_, ?_, ?_⟩ <;> omega
set_option maxHeartbeats 4000000 in
theorem s_X7_isFree (K : Nat) (hK : 1099511627776 ≤ K) (n0 : Nat) (n1 : Nat) (n2 : Nat) (n3 : Nat) (n4 : Nat) (n5 : Nat) (n6 : Nat) (p1 : Int32) (s0 : Int32) (s1 : Int32) (s2 : Int32) (s3 : Int32) (s4 : Nat → Int32) (s5 : Nat → Int32) (s6 : Nat → Int32) (s7 : Nat → Int32) (s8 : Nat → Int32) (s9 : Int32) (s10 : Int32) (s11 : Nat → Int32) (s12 : Nat → Int32) (a0 : n0 = 1024) (a1 : n1 = 200) (a2 : n2 = 200) (a3 : n3 = 200) (a4 : n4 = 200) (a5 : n5 = 512) (a6 : n6 = 512) (a7 : 0 ≤ s0.toInt) (a8 : s0.toInt ≤ 1024) (a9 : 0 ≤ s1.toInt) (a10 : s1.toInt ≤ 200) (a11 : 0 ≤ s9.toInt) (a12 : s9.toInt ≤ 512) : zz_ok (m_X7_isFree K n0 n1 n2 n3 n4 n5 n6 p1 s0 s1 s2 s3 s4 s5 s6 s7 s8 s9 s10 s11 s12) (fun z => (z.1.toInt = 0 ∨ z.1.toInt = 1) ∧ z.2.1.toInt = s0.toInt ∧ z.2.2.1.toInt = s1.toInt ∧ 0 ≤ z.2.2.2.2.2.2.2.2.2.2.1.toInt ∧ z.2.2.2.2.2.2.2.2.2.2.1.toInt ≤ 512) := by
  have g1 := zz_rg p1
  have g2 := zz_rg s0
  have g3 := zz_rg s1
  have g4 := zz_rg s2
  have g5 := zz_rg s3
  have g6 := zz_rg s9
  have g7 := zz_rg s10
  unfold m_X7_isFree
  have l9 : (0 : Int32).toInt = 0 := rfl
  refine zz_ok_ite (fun c8 => ?_) (fun c8 => ?_)
  · have c8 := Int32.lt_iff_toInt_lt.mp c8
    refine zz_ok_some ?_
    show ((0 : Int32).toInt = 0 ∨ (0 : Int32).toInt = 1) ∧ s0.toInt = s0.toInt ∧ s1.toInt = s1.toInt ∧ 0 ≤ s9.toInt ∧ s9.toInt ≤ 512
    refine ⟨?_, ?_, ?_, ?_, ?_⟩ <;> omega
  · have c8 := zz_nlt c8
    refine zz_ok_ite (fun c10 => ?_) (fun c10 => ?_)
    · have c10 := Int32.le_iff_toInt_le.mp c10
      refine zz_ok_some ?_
      show ((0 : Int32).toInt = 0 ∨ (0 : Int32).toInt = 1) ∧ s0.toInt = s0.toInt ∧ s1.toInt = s1.toInt ∧ 0 ≤ s9.toInt ∧ s9.toInt ≤ 512
      refine ⟨?_, ?_, ?_, ?_, ?_⟩ <;> omega
    · have c10 := zz_nle c10
      refine zz_ok_chk (zz_ix (by omega) (by omega)) ?_
      have g12 := zz_rg (s4 p1.toNatClampNeg)
      have l13 : (-1 : Int32).toInt = -1 := rfl
      refine zz_ok_ite (fun c11 => ?_) (fun c11 => ?_)
      · have c11 := congrArg Int32.toInt c11
        have l14 : (1 : Int32).toInt = 1 := rfl
        refine zz_ok_some ?_
        show ((1 : Int32).toInt = 0 ∨ (1 : Int32).toInt = 1) ∧ s0.toInt = s0.toInt ∧ s1.toInt = s1.toInt ∧ 0 ≤ s9.toInt ∧ s9.toInt ≤ 512
        refine ⟨?_, ?_, ?_, ?_, ?_⟩ <;> omega
      · have c11 := zz_neq c11
        refine zz_ok_some ?_
        show ((0 : Int32).toInt = 0 ∨ (0 : Int32).toInt = 1) ∧ s0.toInt = s0.toInt ∧ s1.toInt = s1.toInt ∧ 0 ≤ s9.toInt ∧ s9.toInt ≤ 512
        refine ⟨?_, ?_, ?_, ?_, ?_⟩ <;> omega
set_option maxHeartbeats 4000000 in
theorem s_X7_empty (K : Nat) (hK : 1099511627776 ≤ K) (n0 : Nat) (n1 : Nat) (n2 : Nat) (n3 : Nat) (n4 : Nat) (n5 : Nat) (n6 : Nat) (p1 : Int32) (s0 : Int32) (s1 : Int32) (s2 : Int32) (s3 : Int32) (s4 : Nat → Int32) (s5 : Nat → Int32) (s6 : Nat → Int32) (s7 : Nat → Int32) (s8 : Nat → Int32) (s9 : Int32) (s10 : Int32) (s11 : Nat → Int32) (s12 : Nat → Int32) (a0 : n0 = 1024) (a1 : n1 = 200) (a2 : n2 = 200) (a3 : n3 = 200) (a4 : n4 = 200) (a5 : n5 = 512) (a6 : n6 = 512) (a7 : 0 ≤ s0.toInt) (a8 : s0.toInt ≤ 1024) (a9 : 0 ≤ s1.toInt) (a10 : s1.toInt ≤ 200) (a11 : 0 ≤ s9.toInt) (a12 : s9.toInt ≤ 512) : zz_ok (m_X7_empty K n0 n1 n2 n3 n4 n5 n6 p1 s0 s1 s2 s3 s4 s5 s6 s7 s8 s9 s10 s11 s12) (fun z => 0 ≤ z.1.toInt ∧ z.1.toInt ≤ 1024 ∧ z.2.1.toInt = 0 ∧ 0 ≤ z.2.2.2.2.2.2.2.2.2.1.toInt ∧ z.2.2.2.2.2.2.2.2.2.1.toInt ≤ 512) := by
  have g1 := zz_rg p1
  have g2 := zz_rg s0
  have g3 := zz_rg s1
  have g4 := zz_rg s2
  have g5 := zz_rg s3
  have g6 := zz_rg s9
  have g7 := zz_rg s10
  unfold m_X7_empty
  have l8 : (-1 : Int32).toInt = -1 := rfl
  refine zz_ok_bind (s_J7_fill_53178 K hK n0 ((-1 : Int32)) s4 (by omega)) ?_
  intro z9 hz9
  have ⟨t_1_0, h9z9⟩ : ∃ q, q = z9 := ⟨_, rfl⟩
  subst h9z9
  show zz_ok (some (zz_min (zz_max p1 ((0 : Int32))) ((1024 : Int32)), (0 : Int32), (0 : Int32), (0 : Int32), t_1_0, s5, s6, s7, s8, s9, s10, s11, s12)) _
  have l10 : (0 : Int32).toInt = 0 := rfl
  have f11 := zz_maxF p1 (0 : Int32)
  have g12 := zz_rg (zz_max p1 ((0 : Int32)))
  have l13 : (1024 : Int32).toInt = 1024 := rfl
  have f14 := zz_minF (zz_max p1 ((0 : Int32))) (1024 : Int32)
  have g15 := zz_rg (zz_min (zz_max p1 ((0 : Int32))) ((1024 : Int32)))
  refine zz_ok_some ?_
  show 0 ≤ (zz_min (zz_max p1 ((0 : Int32))) ((1024 : Int32))).toInt ∧ (zz_min (zz_max p1 ((0 : Int32))) ((1024 : Int32))).toInt ≤ 1024 ∧ (0 : Int32).toInt = 0 ∧ 0 ≤ s9.toInt ∧ s9.toInt ≤ 512
  refine ⟨?_, ?_, ?_, ?_, ?_⟩ <;> omega
set_option maxHeartbeats 4000000 in
theorem s_X7_words (K : Nat) (hK : 1099511627776 ≤ K) (n0 : Nat) (n1 : Nat) (n2 : Nat) (n3 : Nat) (n4 : Nat) (n5 : Nat) (n6 : Nat) (s0 : Int32) (s1 : Int32) (s2 : Int32) (s3 : Int32) (s4 : Nat → Int32) (s5 : Nat → Int32) (s6 : Nat → Int32) (s7 : Nat → Int32) (s8 : Nat → Int32) (s9 : Int32) (s10 : Int32) (s11 : Nat → Int32) (s12 : Nat → Int32) (a0 : n0 = 1024) (a1 : n1 = 200) (a2 : n2 = 200) (a3 : n3 = 200) (a4 : n4 = 200) (a5 : n5 = 512) (a6 : n6 = 512) (a7 : 0 ≤ s0.toInt) (a8 : s0.toInt ≤ 1024) (a9 : 0 ≤ s1.toInt) (a10 : s1.toInt ≤ 200) (a11 : 0 ≤ s9.toInt) (a12 : s9.toInt ≤ 512) : zz_ok (m_X7_words K n0 n1 n2 n3 n4 n5 n6 s0 s1 s2 s3 s4 s5 s6 s7 s8 s9 s10 s11 s12) (fun z => z.1.toInt = s0.toInt ∧ z.2.1.toInt = s0.toInt ∧ z.2.2.1.toInt = s1.toInt ∧ 0 ≤ z.2.2.2.2.2.2.2.2.2.2.1.toInt ∧ z.2.2.2.2.2.2.2.2.2.2.1.toInt ≤ 512) := by
  have g1 := zz_rg s0
  have g2 := zz_rg s1
  have g3 := zz_rg s2
  have g4 := zz_rg s3
  have g5 := zz_rg s9
  have g6 := zz_rg s10
  unfold m_X7_words
  refine zz_ok_some ?_
  show s0.toInt = s0.toInt ∧ s0.toInt = s0.toInt ∧ s1.toInt = s1.toInt ∧ 0 ≤ s9.toInt ∧ s9.toInt ≤ 512
  refine ⟨?_, ?_, ?_, ?_, ?_⟩ <;> omega
set_option maxHeartbeats 4000000 in
theorem s_X7_blocks (K : Nat) (hK : 1099511627776 ≤ K) (n0 : Nat) (n1 : Nat) (n2 : Nat) (n3 : Nat) (n4 : Nat) (n5 : Nat) (n6 : Nat) (s0 : Int32) (s1 : Int32) (s2 : Int32) (s3 : Int32) (s4 : Nat → Int32) (s5 : Nat → Int32) (s6 : Nat → Int32) (s7 : Nat → Int32) (s8 : Nat → Int32) (s9 : Int32) (s10 : Int32) (s11 : Nat → Int32) (s12 : Nat → Int32) (a0 : n0 = 1024) (a1 : n1 = 200) (a2 : n2 = 200) (a3 : n3 = 200) (a4 : n4 = 200) (a5 : n5 = 512) (a6 : n6 = 512) (a7 : 0 ≤ s0.toInt) (a8 : s0.toInt ≤ 1024) (a9 : 0 ≤ s1.toInt) (a10 : s1.toInt ≤ 200) (a11 : 0 ≤ s9.toInt) (a12 : s9.toInt ≤ 512) : zz_ok (m_X7_blocks K n0 n1 n2 n3 n4 n5 n6 s0 s1 s2 s3 s4 s5 s6 s7 s8 s9 s10 s11 s12) (fun z => z.1.toInt = s1.toInt ∧ z.2.1.toInt = s0.toInt ∧ z.2.2.1.toInt = s1.toInt ∧ 0 ≤ z.2.2.2.2.2.2.2.2.2.2.1.toInt ∧ z.2.2.2.2.2.2.2.2.2.2.1.toInt ≤ 512) := by
  have g1 := zz_rg s0
  have g2 := zz_rg s1
  have g3 := zz_rg s2
  have g4 := zz_rg s3
  have g5 := zz_rg s9
  have g6 := zz_rg s10
  unfold m_X7_blocks
  refine zz_ok_some ?_
  show s1.toInt = s1.toInt ∧ s0.toInt = s0.toInt ∧ s1.toInt = s1.toInt ∧ 0 ≤ s9.toInt ∧ s9.toInt ≤ 512
  refine ⟨?_, ?_, ?_, ?_, ?_⟩ <;> omega
set_option maxHeartbeats 4000000 in
theorem s_X7_given (K : Nat) (hK : 1099511627776 ≤ K) (n0 : Nat) (n1 : Nat) (n2 : Nat) (n3 : Nat) (n4 : Nat) (n5 : Nat) (n6 : Nat) (s0 : Int32) (s1 : Int32) (s2 : Int32) (s3 : Int32) (s4 : Nat → Int32) (s5 : Nat → Int32) (s6 : Nat → Int32) (s7 : Nat → Int32) (s8 : Nat → Int32) (s9 : Int32) (s10 : Int32) (s11 : Nat → Int32) (s12 : Nat → Int32) (a0 : n0 = 1024) (a1 : n1 = 200) (a2 : n2 = 200) (a3 : n3 = 200) (a4 : n4 = 200) (a5 : n5 = 512) (a6 : n6 = 512) (a7 : 0 ≤ s0.toInt) (a8 : s0.toInt ≤ 1024) (a9 : 0 ≤ s1.toInt) (a10 : s1.toInt ≤ 200) (a11 : 0 ≤ s9.toInt) (a12 : s9.toInt ≤ 512) : zz_ok (m_X7_given K n0 n1 n2 n3 n4 n5 n6 s0 s1 s2 s3 s4 s5 s6 s7 s8 s9 s10 s11 s12) (fun z => z.2.1.toInt = s0.toInt ∧ z.2.2.1.toInt = s1.toInt ∧ 0 ≤ z.2.2.2.2.2.2.2.2.2.2.1.toInt ∧ z.2.2.2.2.2.2.2.2.2.2.1.toInt ≤ 512) := by
  have g1 := zz_rg s0
  have g2 := zz_rg s1
  have g3 := zz_rg s2
  have g4 := zz_rg s3
  have g5 := zz_rg s9
  have g6 := zz_rg s10
  unfold m_X7_given
  refine zz_ok_some ?_
  show s0.toInt = s0.toInt ∧ s1.toInt = s1.toInt ∧ 0 ≤ s9.toInt ∧ s9.toInt ≤ 512
  refine ⟨?_, ?_, ?_, ?_⟩ <;> omega
set_option maxHeartbeats 4000000 in
theorem s_X7_looked (K : Nat) (hK : 1099511627776 ≤ K) (n0 : Nat) (n1 : Nat) (n2 : Nat) (n3 : Nat) (n4 : Nat) (n5 : Nat) (n6 : Nat) (s0 : Int32) (s1 : Int32) (s2 : Int32) (s3 : Int32) (s4 : Nat → Int32) (s5 : Nat → Int32) (s6 : Nat → Int32) (s7 : Nat → Int32) (s8 : Nat → Int32) (s9 : Int32) (s10 : Int32) (s11 : Nat → Int32) (s12 : Nat → Int32) (a0 : n0 = 1024) (a1 : n1 = 200) (a2 : n2 = 200) (a3 : n3 = 200) (a4 : n4 = 200) (a5 : n5 = 512) (a6 : n6 = 512) (a7 : 0 ≤ s0.toInt) (a8 : s0.toInt ≤ 1024) (a9 : 0 ≤ s1.toInt) (a10 : s1.toInt ≤ 200) (a11 : 0 ≤ s9.toInt) (a12 : s9.toInt ≤ 512) : zz_ok (m_X7_looked K n0 n1 n2 n3 n4 n5 n6 s0 s1 s2 s3 s4 s5 s6 s7 s8 s9 s10 s11 s12) (fun z => z.2.1.toInt = s0.toInt ∧ z.2.2.1.toInt = s1.toInt ∧ 0 ≤ z.2.2.2.2.2.2.2.2.2.2.1.toInt ∧ z.2.2.2.2.2.2.2.2.2.2.1.toInt ≤ 512) := by
  have g1 := zz_rg s0
  have g2 := zz_rg s1
  have g3 := zz_rg s2
  have g4 := zz_rg s3
  have g5 := zz_rg s9
  have g6 := zz_rg s10
  unfold m_X7_looked
  refine zz_ok_some ?_
  show s0.toInt = s0.toInt ∧ s1.toInt = s1.toInt ∧ 0 ≤ s9.toInt ∧ s9.toInt ≤ 512
  refine ⟨?_, ?_, ?_, ?_⟩ <;> omega
set_option maxHeartbeats 4000000 in
theorem s_X7_addLooked (K : Nat) (hK : 1099511627776 ≤ K) (n0 : Nat) (n1 : Nat) (n2 : Nat) (n3 : Nat) (n4 : Nat) (n5 : Nat) (n6 : Nat) (p1 : Int32) (s0 : Int32) (s1 : Int32) (s2 : Int32) (s3 : Int32) (s4 : Nat → Int32) (s5 : Nat → Int32) (s6 : Nat → Int32) (s7 : Nat → Int32) (s8 : Nat → Int32) (s9 : Int32) (s10 : Int32) (s11 : Nat → Int32) (s12 : Nat → Int32) (a0 : n0 = 1024) (a1 : n1 = 200) (a2 : n2 = 200) (a3 : n3 = 200) (a4 : n4 = 200) (a5 : n5 = 512) (a6 : n6 = 512) (a7 : 0 ≤ s0.toInt) (a8 : s0.toInt ≤ 1024) (a9 : 0 ≤ s1.toInt) (a10 : s1.toInt ≤ 200) (a11 : 0 ≤ s9.toInt) (a12 : s9.toInt ≤ 512) : zz_ok (m_X7_addLooked K n0 n1 n2 n3 n4 n5 n6 p1 s0 s1 s2 s3 s4 s5 s6 s7 s8 s9 s10 s11 s12) (fun z => z.1.toInt = s0.toInt ∧ z.2.1.toInt = s1.toInt ∧ 0 ≤ z.2.2.2.2.2.2.2.2.2.1.toInt ∧ z.2.2.2.2.2.2.2.2.2.1.toInt ≤ 512) := by
  have g1 := zz_rg p1
  have g2 := zz_rg s0
  have g3 := zz_rg s1
  have g4 := zz_rg s2
  have g5 := zz_rg s3
  have g6 := zz_rg s9
  have g7 := zz_rg s10
  unfold m_X7_addLooked
  refine zz_ok_some ?_
  show s0.toInt = s0.toInt ∧ s1.toInt = s1.toInt ∧ 0 ≤ s9.toInt ∧ s9.toInt ≤ 512
  refine ⟨?_, ?_, ?_, ?_⟩ <;> omega
set_option maxHeartbeats 4000000 in
theorem s_X7_settle (K : Nat) (hK : 1099511627776 ≤ K) (n0 : Nat) (n1 : Nat) (n2 : Nat) (n3 : Nat) (n4 : Nat) (n5 : Nat) (n6 : Nat) (p1 : Int32) (p2 : Int32) (p3 : Int32) (s0 : Int32) (s1 : Int32) (s2 : Int32) (s3 : Int32) (s4 : Nat → Int32) (s5 : Nat → Int32) (s6 : Nat → Int32) (s7 : Nat → Int32) (s8 : Nat → Int32) (s9 : Int32) (s10 : Int32) (s11 : Nat → Int32) (s12 : Nat → Int32) (a0 : n0 = 1024) (a1 : n1 = 200) (a2 : n2 = 200) (a3 : n3 = 200) (a4 : n4 = 200) (a5 : n5 = 512) (a6 : n6 = 512) (a7 : 0 ≤ s0.toInt) (a8 : s0.toInt ≤ 1024) (a9 : 0 ≤ s1.toInt) (a10 : s1.toInt ≤ 200) (a11 : 0 ≤ s9.toInt) (a12 : s9.toInt ≤ 512) : zz_ok (m_X7_settle K n0 n1 n2 n3 n4 n5 n6 p1 p2 p3 s0 s1 s2 s3 s4 s5 s6 s7 s8 s9 s10 s11 s12) (fun z => z.2.1.toInt = s0.toInt ∧ 0 ≤ z.2.2.1.toInt ∧ z.2.2.1.toInt ≤ 200 ∧ 0 ≤ z.2.2.2.2.2.2.2.2.2.2.1.toInt ∧ z.2.2.2.2.2.2.2.2.2.2.1.toInt ≤ 512) := by
  have g1 := zz_rg p1
  have g2 := zz_rg p2
  have g3 := zz_rg p3
  have g4 := zz_rg s0
  have g5 := zz_rg s1
  have g6 := zz_rg s2
  have g7 := zz_rg s3
  have g8 := zz_rg s9
  have g9 := zz_rg s10
  unfold m_X7_settle
  have l11 : (200 : Int32).toInt = 200 := rfl
  refine zz_ok_ite (fun c10 => ?_) (fun c10 => ?_)
  · have c10 := Int32.lt_iff_toInt_lt.mp c10
    refine zz_ok_chk (zz_ix (by omega) (by omega)) ?_
    refine zz_ok_chk (zz_ix (by omega) (by omega)) ?_
    refine zz_ok_chk (zz_ix (by omega) (by omega)) ?_
    refine zz_ok_chk (zz_ix (by omega) (by omega)) ?_
    have l12 : (1 : Int32).toInt = 1 := rfl
    obtain ⟨k13, f14⟩ := zz_add s1 (1 : Int32)
    have g15 := zz_rg (s1 + ((1 : Int32)))
    obtain ⟨k16, f17⟩ := zz_add s2 (1 : Int32)
    have g18 := zz_rg (s2 + ((1 : Int32)))
    refine zz_ok_bind (s_X7_mark K hK n0 n1 n2 n3 n4 n5 n6 p1 p2 s2 s0 (s1 + ((1 : Int32))) (s2 + ((1 : Int32))) s3 s4 (upd s5 s1.toNatClampNeg s2) (upd s6 s1.toNatClampNeg p1) (upd s7 s1.toNatClampNeg p2) (upd s8 s1.toNatClampNeg p3) s9 s10 s11 s12 (by omega) (by omega) (by omega) (by omega) (by omega) (by omega) (by omega) (by omega) (by omega) (by omega) (by omega) (by omega) (by omega)) ?_
    intro z19 hz19
    obtain ⟨t_6_0, t_6_1, t_6_2, t_6_3, t_6_4, t_6_5, t_6_6, t_6_7, t_6_8, t_6_9, t_6_10, t_6_11, t_6_12⟩ := z19
    have q20 : t_6_0.toInt = s0.toInt := hz19.1
    have q21 : t_6_1.toInt = (s1 + ((1 : Int32))).toInt := hz19.2.1
    have q22 : 0 ≤ t_6_9.toInt := hz19.2.2.1
    have q23 : t_6_9.toInt ≤ 512 := hz19.2.2.2
    have g24 := zz_rg t_6_0
    have g25 := zz_rg t_6_1
    have g26 := zz_rg t_6_2
    have g27 := zz_rg t_6_3
    have g28 := zz_rg t_6_9
    have g29 := zz_rg t_6_10
    show zz_ok (some (s2, t_6_0, t_6_1, t_6_2, t_6_3, t_6_4, t_6_5, t_6_6, t_6_7, t_6_8, t_6_9, t_6_10, t_6_11, t_6_12)) _
    refine zz_ok_some ?_
    show t_6_0.toInt = s0.toInt ∧ 0 ≤ t_6_1.toInt ∧ t_6_1.toInt ≤ 200 ∧ 0 ≤ t_6_9.toInt ∧ t_6_9.toInt ≤ 512
    refine ⟨?_, ?_, ?_, ?_, ?_⟩ <;> omega
  · have c10 := zz_nlt c10
    refine zz_ok_some ?_
    show s0.toInt = s0.toInt ∧ 0 ≤ s1.toInt ∧ s1.toInt ≤ 200 ∧ 0 ≤ s9.toInt ∧ s9.toInt ≤ 512
    refine ⟨?_, ?_, ?_, ?_, ?_⟩ <;> omega
set_option maxHeartbeats 4000000 in
theorem s_X7_remove (K : Nat) (hK : 1099511627776 ≤ K) (n0 : Nat) (n1 : Nat) (n2 : Nat) (n3 : Nat) (n4 : Nat) (n5 : Nat) (n6 : Nat) (p1 : Int32) (s0 : Int32) (s1 : Int32) (s2 : Int32) (s3 : Int32) (s4 : Nat → Int32) (s5 : Nat → Int32) (s6 : Nat → Int32) (s7 : Nat → Int32) (s8 : Nat → Int32) (s9 : Int32) (s10 : Int32) (s11 : Nat → Int32) (s12 : Nat → Int32) (a0 : n0 = 1024) (a1 : n1 = 200) (a2 : n2 = 200) (a3 : n3 = 200) (a4 : n4 = 200) (a5 : n5 = 512) (a6 : n6 = 512) (a7 : 0 ≤ s0.toInt) (a8 : s0.toInt ≤ 1024) (a9 : 0 ≤ s1.toInt) (a10 : s1.toInt ≤ 200) (a11 : 0 ≤ s9.toInt) (a12 : s9.toInt ≤ 512) : zz_ok (m_X7_remove K n0 n1 n2 n3 n4 n5 n6 p1 s0 s1 s2 s3 s4 s5 s6 s7 s8 s9 s10 s11 s12) (fun z => z.1.toInt = s0.toInt ∧ 0 ≤ z.2.1.toInt ∧ z.2.1.toInt ≤ 200 ∧ 0 ≤ z.2.2.2.2.2.2.2.2.2.1.toInt ∧ z.2.2.2.2.2.2.2.2.2.1.toInt ≤ 512) := by
  have g1 := zz_rg p1
  have g2 := zz_rg s0
  have g3 := zz_rg s1
  have g4 := zz_rg s2
  have g5 := zz_rg s3
  have g6 := zz_rg s9
  have g7 := zz_rg s10
  unfold m_X7_remove
  have l9 : (0 : Int32).toInt = 0 := rfl
  refine zz_ok_ite (fun c8 => ?_) (fun c8 => ?_)
  · have c8 := Int32.lt_iff_toInt_lt.mp c8
    refine zz_ok_some ?_
    show s0.toInt = s0.toInt ∧ 0 ≤ s1.toInt ∧ s1.toInt ≤ 200 ∧ 0 ≤ s9.toInt ∧ s9.toInt ≤ 512
    refine ⟨?_, ?_, ?_, ?_, ?_⟩ <;> omega
  · have c8 := zz_nlt c8
    refine zz_ok_ite (fun c10 => ?_) (fun c10 => ?_)
    · have c10 := Int32.lt_iff_toInt_lt.mp c10
      refine zz_ok_chk (zz_ix (by omega) (by omega)) ?_
      refine zz_ok_chk (zz_ix (by omega) (by omega)) ?_
      have g11 := zz_rg (s6 p1.toNatClampNeg)
      have g12 := zz_rg (s7 p1.toNatClampNeg)
      have l13 : (-1 : Int32).toInt = -1 := rfl
      refine zz_ok_bind (s_X7_mark K hK n0 n1 n2 n3 n4 n5 n6 (s6 p1.toNatClampNeg) (s7 p1.toNatClampNeg) ((-1 : Int32)) s0 s1 s2 s3 s4 s5 s6 s7 s8 s9 s10 s11 s12 (by omega) (by omega) (by omega) (by omega) (by omega) (by omega) (by omega) (by omega) (by omega) (by omega) (by omega) (by omega) (by omega)) ?_
      intro z14 hz14
      obtain ⟨t_5_0, t_5_1, t_5_2, t_5_3, t_5_4, t_5_5, t_5_6, t_5_7, t_5_8, t_5_9, t_5_10, t_5_11, t_5_12⟩ := z14
      have q15 : t_5_0.toInt = s0.toInt := hz14.1
      have q16 : t_5_1.toInt = s1.toInt := hz14.2.1
      have q17 : 0 ≤ t_5_9.toInt := hz14.2.2.1
      have q18 : t_5_9.toInt ≤ 512 := hz14.2.2.2
      have g19 := zz_rg t_5_0
      have g20 := zz_rg t_5_1
      have g21 := zz_rg t_5_2
      have g22 := zz_rg t_5_3
      have g23 := zz_rg t_5_9
      have g24 := zz_rg t_5_10
      show zz_ok (if ¬ ((t_5_1 - ((1 : Int32))) < 0 ∨ n1 ≤ (t_5_1 - ((1 : Int32))).toNatClampNeg) then (if ¬ (p1 < 0 ∨ n1 ≤ p1.toNatClampNeg) then (if ¬ ((t_5_1 - ((1 : Int32))) < 0 ∨ n2 ≤ (t_5_1 - ((1 : Int32))).toNatClampNeg) then (if ¬ (p1 < 0 ∨ n2 ≤ p1.toNatClampNeg) then (if ¬ ((t_5_1 - ((1 : Int32))) < 0 ∨ n3 ≤ (t_5_1 - ((1 : Int32))).toNatClampNeg) then (if ¬ (p1 < 0 ∨ n3 ≤ p1.toNatClampNeg) then (if ¬ ((t_5_1 - ((1 : Int32))) < 0 ∨ n4 ≤ (t_5_1 - ((1 : Int32))).toNatClampNeg) then (if ¬ (p1 < 0 ∨ n4 ≤ p1.toNatClampNeg) then (some (t_5_0, t_5_1 - ((1 : Int32)), t_5_2, t_5_3, t_5_4, upd t_5_5 p1.toNatClampNeg (t_5_5 (t_5_1 - ((1 : Int32))).toNatClampNeg), upd t_5_6 p1.toNatClampNeg (t_5_6 (t_5_1 - ((1 : Int32))).toNatClampNeg), upd t_5_7 p1.toNatClampNeg (t_5_7 (t_5_1 - ((1 : Int32))).toNatClampNeg), upd t_5_8 p1.toNatClampNeg (t_5_8 (t_5_1 - ((1 : Int32))).toNatClampNeg), t_5_9, t_5_10, t_5_11, t_5_12)) else none) else none) else none) else none) else none) else none) else none) else none) _
      have l25 : (1 : Int32).toInt = 1 := rfl
      obtain ⟨k26, f27⟩ := zz_sub t_5_1 (1 : Int32)
      have g28 := zz_rg (t_5_1 - ((1 : Int32)))
      refine zz_ok_chk (zz_ix (by omega) (by omega)) ?_
      refine zz_ok_chk (zz_ix (by omega) (by omega)) ?_
      refine zz_ok_chk (zz_ix (by omega) (by omega)) ?_
      refine zz_ok_chk (zz_ix (by omega) (by omega)) ?_
      refine zz_ok_chk (zz_ix (by omega) (by omega)) ?_
      refine zz_ok_chk (zz_ix (by omega) (by omega)) ?_
      refine zz_ok_chk (zz_ix (by omega) (by omega)) ?_
      refine zz_ok_chk (zz_ix (by omega) (by omega)) ?_
      refine zz_ok_some ?_
      show t_5_0.toInt = s0.toInt ∧ 0 ≤ (t_5_1 - ((1 : Int32))).toInt ∧ (t_5_1 - ((1 : Int32))).toInt ≤ 200 ∧ 0 ≤ t_5_9.toInt ∧ t_5_9.toInt ≤ 512
      refine ⟨?_, ?_, ?_, ?_, ?_⟩ <;> omega
    · have c10 := zz_nlt c10
      refine zz_ok_some ?_
      show s0.toInt = s0.toInt ∧ 0 ≤ s1.toInt ∧ s1.toInt ≤ 200 ∧ 0 ≤ s9.toInt ∧ s9.toInt ≤ 512
      refine ⟨?_, ?_, ?_, ?_, ?_⟩ <;> omega
set_option maxHeartbeats 4000000 in
theorem s_X7_markQuick (K : Nat) (hK : 1099511627776 ≤ K) (n0 : Nat) (n1 : Nat) (n2 : Nat) (n3 : Nat) (n4 : Nat) (n5 : Nat) (n6 : Nat) (p1 : Int32) (p2 : Int32) (s0 : Int32) (s1 : Int32) (s2 : Int32) (s3 : Int32) (s4 : Nat → Int32) (s5 : Nat → Int32) (s6 : Nat → Int32) (s7 : Nat → Int32) (s8 : Nat → Int32) (s9 : Int32) (s10 : Int32) (s11 : Nat → Int32) (s12 : Nat → Int32) (a0 : n0 = 1024) (a1 : n1 = 200) (a2 : n2 = 200) (a3 : n3 = 200) (a4 : n4 = 200) (a5 : n5 = 512) (a6 : n6 = 512) (a7 : 0 ≤ s0.toInt) (a8 : s0.toInt ≤ 1024) (a9 : 0 ≤ s1.toInt) (a10 : s1.toInt ≤ 200) (a11 : 0 ≤ s9.toInt) (a12 : s9.toInt ≤ 512) : zz_ok (m_X7_markQuick K n0 n1 n2 n3 n4 n5 n6 p1 p2 s0 s1 s2 s3 s4 s5 s6 s7 s8 s9 s10 s11 s12) (fun z => z.1.toInt = s0.toInt ∧ z.2.1.toInt = s1.toInt ∧ 0 ≤ z.2.2.2.2.2.2.2.2.2.1.toInt ∧ z.2.2.2.2.2.2.2.2.2.1.toInt ≤ 512) := by
  have g1 := zz_rg p1
  have g2 := zz_rg p2
  have g3 := zz_rg s0
  have g4 := zz_rg s1
  have g5 := zz_rg s2
  have g6 := zz_rg s3
  have g7 := zz_rg s9
  have g8 := zz_rg s10
  unfold m_X7_markQuick
  have l9 : (-2 : Int32).toInt = -2 := rfl
  refine zz_ok_bind (s_X7_mark K hK n0 n1 n2 n3 n4 n5 n6 p1 p2 ((-2 : Int32)) s0 s1 s2 s3 s4 s5 s6 s7 s8 s9 s10 s11 s12 (by omega) (by omega) (by omega) (by omega) (by omega) (by omega) (by omega) (by omega) (by omega) (by omega) (by omega) (by omega) (by omega)) ?_
  intro z10 hz10
  obtain ⟨t_1_0, t_1_1, t_1_2, t_1_3, t_1_4, t_1_5, t_1_6, t_1_7, t_1_8, t_1_9, t_1_10, t_1_11, t_1_12⟩ := z10
  have q11 : t_1_0.toInt = s0.toInt := hz10.1
  have q12 : t_1_1.toInt = s1.toInt := hz10.2.1
  have q13 : 0 ≤ t_1_9.toInt := hz10.2.2.1
  have q14 : t_1_9.toInt ≤ 512 := hz10.2.2.2
  have g15 := zz_rg t_1_0
  have g16 := zz_rg t_1_1
  have g17 := zz_rg t_1_2
  have g18 := zz_rg t_1_3
  have g19 := zz_rg t_1_9
  have g20 := zz_rg t_1_10
  show zz_ok (some (t_1_0, t_1_1, t_1_2, t_1_3, t_1_4, t_1_5, t_1_6, t_1_7, t_1_8, t_1_9, t_1_10, t_1_11, t_1_12)) _
  refine zz_ok_some ?_
  show t_1_0.toInt = s0.toInt ∧ t_1_1.toInt = s1.toInt ∧ 0 ≤ t_1_9.toInt ∧ t_1_9.toInt ≤ 512
  refine ⟨?_, ?_, ?_, ?_⟩ <;> omega
set_option maxHeartbeats 4000000 in
theorem s_X7_markFree (K : Nat) (hK : 1099511627776 ≤ K) (n0 : Nat) (n1 : Nat) (n2 : Nat) (n3 : Nat) (n4 : Nat) (n5 : Nat) (n6 : Nat) (p1 : Int32) (p2 : Int32) (s0 : Int32) (s1 : Int32) (s2 : Int32) (s3 : Int32) (s4 : Nat → Int32) (s5 : Nat → Int32) (s6 : Nat → Int32) (s7 : Nat → Int32) (s8 : Nat → Int32) (s9 : Int32) (s10 : Int32) (s11 : Nat → Int32) (s12 : Nat → Int32) (a0 : n0 = 1024) (a1 : n1 = 200) (a2 : n2 = 200) (a3 : n3 = 200) (a4 : n4 = 200) (a5 : n5 = 512) (a6 : n6 = 512) (a7 : 0 ≤ s0.toInt) (a8 : s0.toInt ≤ 1024) (a9 : 0 ≤ s1.toInt) (a10 : s1.toInt ≤ 200) (a11 : 0 ≤ s9.toInt) (a12 : s9.toInt ≤ 512) : zz_ok (m_X7_markFree K n0 n1 n2 n3 n4 n5 n6 p1 p2 s0 s1 s2 s3 s4 s5 s6 s7 s8 s9 s10 s11 s12) (fun z => z.1.toInt = s0.toInt ∧ z.2.1.toInt = s1.toInt ∧ 0 ≤ z.2.2.2.2.2.2.2.2.2.1.toInt ∧ z.2.2.2.2.2.2.2.2.2.1.toInt ≤ 512) := by
  have g1 := zz_rg p1
  have g2 := zz_rg p2
  have g3 := zz_rg s0
  have g4 := zz_rg s1
  have g5 := zz_rg s2
  have g6 := zz_rg s3
  have g7 := zz_rg s9
  have g8 := zz_rg s10
  unfold m_X7_markFree
  have l9 : (-1 : Int32).toInt = -1 := rfl
  refine zz_ok_bind (s_X7_mark K hK n0 n1 n2 n3 n4 n5 n6 p1 p2 ((-1 : Int32)) s0 s1 s2 s3 s4 s5 s6 s7 s8 s9 s10 s11 s12 (by omega) (by omega) (by omega) (by omega) (by omega) (by omega) (by omega) (by omega) (by omega) (by omega) (by omega) (by omega) (by omega)) ?_
  intro z10 hz10
  obtain ⟨t_1_0, t_1_1, t_1_2, t_1_3, t_1_4, t_1_5, t_1_6, t_1_7, t_1_8, t_1_9, t_1_10, t_1_11, t_1_12⟩ := z10
  have q11 : t_1_0.toInt = s0.toInt := hz10.1
  have q12 : t_1_1.toInt = s1.toInt := hz10.2.1
  have q13 : 0 ≤ t_1_9.toInt := hz10.2.2.1
  have q14 : t_1_9.toInt ≤ 512 := hz10.2.2.2
  have g15 := zz_rg t_1_0
  have g16 := zz_rg t_1_1
  have g17 := zz_rg t_1_2
  have g18 := zz_rg t_1_3
  have g19 := zz_rg t_1_9
  have g20 := zz_rg t_1_10
  show zz_ok (some (t_1_0, t_1_1, t_1_2, t_1_3, t_1_4, t_1_5, t_1_6, t_1_7, t_1_8, t_1_9, t_1_10, t_1_11, t_1_12)) _
  refine zz_ok_some ?_
  show t_1_0.toInt = s0.toInt ∧ t_1_1.toInt = s1.toInt ∧ 0 ≤ t_1_9.toInt ∧ t_1_9.toInt ≤ 512
  refine ⟨?_, ?_, ?_, ?_⟩ <;> omega
set_option maxHeartbeats 4000000 in
theorem s_X7_slotOf_L2 (K : Nat) (hK : 1099511627776 ≤ K) (n0 : Nat) (n1 : Nat) (n2 : Nat) (n3 : Nat) (n4 : Nat) (n5 : Nat) (n6 : Nat) : ∀ (k : Nat) (x1 : Int32) (x2 : Int32) (s0 : Int32) (s1 : Int32) (s2 : Int32) (s3 : Int32) (s4 : Nat → Int32) (s5 : Nat → Int32) (s6 : Nat → Int32) (s7 : Nat → Int32) (s8 : Nat → Int32) (s9 : Int32) (s10 : Int32) (s11 : Nat → Int32) (s12 : Nat → Int32), n0 = 1024 → n1 = 200 → n2 = 200 → n3 = 200 → n4 = 200 → n5 = 512 → n6 = 512 → 0 ≤ s0.toInt → s0.toInt ≤ 1024 → 0 ≤ s1.toInt → s1.toInt ≤ 200 → 0 ≤ s9.toInt → s9.toInt ≤ 512 → 0 ≤ x2.toInt → x2.toInt ≤ s1.toInt → s1.toInt - x2.toInt < (k : Int) → zz_ok (m_X7_slotOf_L2 K n0 n1 n2 n3 n4 n5 n6 k x1 x2 s0 s1 s2 s3 s4 s5 s6 s7 s8 s9 s10 s11 s12) (fun z => -1 ≤ z.1.toInt ∧ z.2.1.toInt = s0.toInt ∧ z.2.2.1.toInt = s1.toInt ∧ 0 ≤ z.2.2.2.2.2.2.2.2.2.2.1.toInt ∧ z.2.2.2.2.2.2.2.2.2.2.1.toInt ≤ 512) := by
  intro k
  induction k with
  | zero =>
    intro x1 x2 s0 s1 s2 s3 s4 s5 s6 s7 s8 s9 s10 s11 s12 a0 a1 a2 a3 a4 a5 a6 a7 a8 a9 a10 a11 a12 a13 a14 hz9
    exfalso
    have g_x1 := zz_rg x1
    have g_x2 := zz_rg x2
    have g_s0 := zz_rg s0
    have g_s1 := zz_rg s1
    have g_s2 := zz_rg s2
    have g_s3 := zz_rg s3
    have g_s9 := zz_rg s9
    have g_s10 := zz_rg s10
    omega
  | succ k ih =>
    intro x1 x2 s0 s1 s2 s3 s4 s5 s6 s7 s8 s9 s10 s11 s12 a0 a1 a2 a3 a4 a5 a6 a7 a8 a9 a10 a11 a12 a13 a14 hz9
    rw [m_X7_slotOf_L2_s]
    have g1 := zz_rg x1
    have g2 := zz_rg x2
    have g3 := zz_rg s0
    have g4 := zz_rg s1
    have g5 := zz_rg s2
    have g6 := zz_rg s3
    have g7 := zz_rg s9
    have g8 := zz_rg s10
    refine zz_ok_ite (fun c9 => ?_) (fun c9 => ?_)
    · have c9 := Int32.le_iff_toInt_le.mp c9
      have l10 : (-1 : Int32).toInt = -1 := rfl
      refine zz_ok_some ?_
      show -1 ≤ (-1 : Int32).toInt ∧ s0.toInt = s0.toInt ∧ s1.toInt = s1.toInt ∧ 0 ≤ s9.toInt ∧ s9.toInt ≤ 512
      refine ⟨?_, ?_, ?_, ?_, ?_⟩ <;> omega
    · have c9 := zz_nle c9
      refine zz_ok_chk (zz_ix (by omega) (by omega)) ?_
      have g12 := zz_rg (s5 x2.toNatClampNeg)
      refine zz_ok_ite (fun c11 => ?_) (fun c11 => ?_)
      · have c11 := congrArg Int32.toInt c11
        refine zz_ok_some ?_
        show -1 ≤ x2.toInt ∧ s0.toInt = s0.toInt ∧ s1.toInt = s1.toInt ∧ 0 ≤ s9.toInt ∧ s9.toInt ≤ 512
        refine ⟨?_, ?_, ?_, ?_, ?_⟩ <;> omega
      · have c11 := zz_neq c11
        have l13 : (1 : Int32).toInt = 1 := rfl
        obtain ⟨k14, f15⟩ := zz_add x2 (1 : Int32)
        have g16 := zz_rg (x2 + 1)
        refine (ih x1 (x2 + 1) s0 s1 s2 s3 s4 s5 s6 s7 s8 s9 s10 s11 s12 (by omega) (by omega) (by omega) (by omega) (by omega) (by omega) (by omega) (by omega) (by omega) (by omega) (by omega) (by omega) (by omega) (by omega) (by omega) (by omega)).mono (fun z hz => ?_)
        have q17 : -1 ≤ z.1.toInt := hz.1
        have q18 : z.2.1.toInt = s0.toInt := hz.2.1
        have q19 : z.2.2.1.toInt = s1.toInt := hz.2.2.1
        have q20 : 0 ≤ z.2.2.2.2.2.2.2.2.2.2.1.toInt := hz.2.2.2.1
        have q21 : z.2.2.2.2.2.2.2.2.2.2.1.toInt ≤ 512 := hz.2.2.2.2
        show -1 ≤ z.1.toInt ∧ z.2.1.toInt = s0.toInt ∧ z.2.2.1.toInt = s1.toInt ∧ 0 ≤ z.2.2.2.2.2.2.2.2.2.2.1.toInt ∧ z.2.2.2.2.2.2.2.2.2.2.1.toInt ≤ 512
        refine ⟨?_, ?_, ?_, ?_, ?_⟩ <;> omega
set_option maxHeartbeats 4000000 in
theorem s_X7_slotOf (K : Nat) (hK : 1099511627776 ≤ K) (n0 : Nat) (n1 : Nat) (n2 : Nat) (n3 : Nat) (n4 : Nat) (n5 : Nat) (n6 : Nat) (p1 : Int32) (s0 : Int32) (s1 : Int32) (s2 : Int32) (s3 : Int32) (s4 : Nat → Int32) (s5 : Nat → Int32) (s6 : Nat → Int32) (s7 : Nat → Int32) (s8 : Nat → Int32) (s9 : Int32) (s10 : Int32) (s11 : Nat → Int32) (s12 : Nat → Int32) (a0 : n0 = 1024) (a1 : n1 = 200) (a2 : n2 = 200) (a3 : n3 = 200) (a4 : n4 = 200) (a5 : n5 = 512) (a6 : n6 = 512) (a7 : 0 ≤ s0.toInt) (a8 : s0.toInt ≤ 1024) (a9 : 0 ≤ s1.toInt) (a10 : s1.toInt ≤ 200) (a11 : 0 ≤ s9.toInt) (a12 : s9.toInt ≤ 512) : zz_ok (m_X7_slotOf K n0 n1 n2 n3 n4 n5 n6 p1 s0 s1 s2 s3 s4 s5 s6 s7 s8 s9 s10 s11 s12) (fun z => -1 ≤ z.1.toInt ∧ z.2.1.toInt = s0.toInt ∧ z.2.2.1.toInt = s1.toInt ∧ 0 ≤ z.2.2.2.2.2.2.2.2.2.2.1.toInt ∧ z.2.2.2.2.2.2.2.2.2.2.1.toInt ≤ 512) := by
  have g1 := zz_rg p1
  have g2 := zz_rg s0
  have g3 := zz_rg s1
  have g4 := zz_rg s2
  have g5 := zz_rg s3
  have g6 := zz_rg s9
  have g7 := zz_rg s10
  unfold m_X7_slotOf
  have l8 : (0 : Int32).toInt = 0 := rfl
  refine (s_X7_slotOf_L2 K hK n0 n1 n2 n3 n4 n5 n6 K p1 ((0 : Int32)) s0 s1 s2 s3 s4 s5 s6 s7 s8 s9 s10 s11 s12 (by omega) (by omega) (by omega) (by omega) (by omega) (by omega) (by omega) (by omega) (by omega) (by omega) (by omega) (by omega) (by omega) (by omega) (by omega) (by omega)).mono (fun z hz => ?_)
  have q9 : -1 ≤ z.1.toInt := hz.1
  have q10 : z.2.1.toInt = s0.toInt := hz.2.1
  have q11 : z.2.2.1.toInt = s1.toInt := hz.2.2.1
  have q12 : 0 ≤ z.2.2.2.2.2.2.2.2.2.2.1.toInt := hz.2.2.2.1
  have q13 : z.2.2.2.2.2.2.2.2.2.2.1.toInt ≤ 512 := hz.2.2.2.2
  show -1 ≤ z.1.toInt ∧ z.2.1.toInt = s0.toInt ∧ z.2.2.1.toInt = s1.toInt ∧ 0 ≤ z.2.2.2.2.2.2.2.2.2.2.1.toInt ∧ z.2.2.2.2.2.2.2.2.2.2.1.toInt ≤ 512
  refine ⟨?_, ?_, ?_, ?_, ?_⟩ <;> omega
set_option maxHeartbeats 4000000 in
theorem s_X7_placeOf (K : Nat) (hK : 1099511627776 ≤ K) (n0 : Nat) (n1 : Nat) (n2 : Nat) (n3 : Nat) (n4 : Nat) (n5 : Nat) (n6 : Nat) (p1 : Int32) (s0 : Int32) (s1 : Int32) (s2 : Int32) (s3 : Int32) (s4 : Nat → Int32) (s5 : Nat → Int32) (s6 : Nat → Int32) (s7 : Nat → Int32) (s8 : Nat → Int32) (s9 : Int32) (s10 : Int32) (s11 : Nat → Int32) (s12 : Nat → Int32) (a0 : n0 = 1024) (a1 : n1 = 200) (a2 : n2 = 200) (a3 : n3 = 200) (a4 : n4 = 200) (a5 : n5 = 512) (a6 : n6 = 512) (a7 : 0 ≤ s0.toInt) (a8 : s0.toInt ≤ 1024) (a9 : 0 ≤ s1.toInt) (a10 : s1.toInt ≤ 200) (a11 : 0 ≤ s9.toInt) (a12 : s9.toInt ≤ 512) : zz_ok (m_X7_placeOf K n0 n1 n2 n3 n4 n5 n6 p1 s0 s1 s2 s3 s4 s5 s6 s7 s8 s9 s10 s11 s12) (fun z => z.2.1.toInt = s0.toInt ∧ z.2.2.1.toInt = s1.toInt ∧ 0 ≤ z.2.2.2.2.2.2.2.2.2.2.1.toInt ∧ z.2.2.2.2.2.2.2.2.2.2.1.toInt ≤ 512) := by
  have g1 := zz_rg p1
  have g2 := zz_rg s0
  have g3 := zz_rg s1
  have g4 := zz_rg s2
  have g5 := zz_rg s3
  have g6 := zz_rg s9
  have g7 := zz_rg s10
  unfold m_X7_placeOf
  have l9 : (0 : Int32).toInt = 0 := rfl
  refine zz_ok_ite (fun c8 => ?_) (fun c8 => ?_)
  · have c8 := Int32.lt_iff_toInt_lt.mp c8
    refine zz_ok_some ?_
    show s0.toInt = s0.toInt ∧ s1.toInt = s1.toInt ∧ 0 ≤ s9.toInt ∧ s9.toInt ≤ 512
    refine ⟨?_, ?_, ?_, ?_⟩ <;> omega
  · have c8 := zz_nlt c8
    refine zz_ok_ite (fun c10 => ?_) (fun c10 => ?_)
    · have c10 := Int32.lt_iff_toInt_lt.mp c10
      refine zz_ok_chk (zz_ix (by omega) (by omega)) ?_
      refine zz_ok_some ?_
      show s0.toInt = s0.toInt ∧ s1.toInt = s1.toInt ∧ 0 ≤ s9.toInt ∧ s9.toInt ≤ 512
      refine ⟨?_, ?_, ?_, ?_⟩ <;> omega
    · have c10 := zz_nlt c10
      refine zz_ok_some ?_
      show s0.toInt = s0.toInt ∧ s1.toInt = s1.toInt ∧ 0 ≤ s9.toInt ∧ s9.toInt ≤ 512
      refine ⟨?_, ?_, ?_, ?_⟩ <;> omega
set_option maxHeartbeats 4000000 in
theorem s_X7_spanOf (K : Nat) (hK : 1099511627776 ≤ K) (n0 : Nat) (n1 : Nat) (n2 : Nat) (n3 : Nat) (n4 : Nat) (n5 : Nat) (n6 : Nat) (p1 : Int32) (s0 : Int32) (s1 : Int32) (s2 : Int32) (s3 : Int32) (s4 : Nat → Int32) (s5 : Nat → Int32) (s6 : Nat → Int32) (s7 : Nat → Int32) (s8 : Nat → Int32) (s9 : Int32) (s10 : Int32) (s11 : Nat → Int32) (s12 : Nat → Int32) (a0 : n0 = 1024) (a1 : n1 = 200) (a2 : n2 = 200) (a3 : n3 = 200) (a4 : n4 = 200) (a5 : n5 = 512) (a6 : n6 = 512) (a7 : 0 ≤ s0.toInt) (a8 : s0.toInt ≤ 1024) (a9 : 0 ≤ s1.toInt) (a10 : s1.toInt ≤ 200) (a11 : 0 ≤ s9.toInt) (a12 : s9.toInt ≤ 512) : zz_ok (m_X7_spanOf K n0 n1 n2 n3 n4 n5 n6 p1 s0 s1 s2 s3 s4 s5 s6 s7 s8 s9 s10 s11 s12) (fun z => z.2.1.toInt = s0.toInt ∧ z.2.2.1.toInt = s1.toInt ∧ 0 ≤ z.2.2.2.2.2.2.2.2.2.2.1.toInt ∧ z.2.2.2.2.2.2.2.2.2.2.1.toInt ≤ 512) := by
  have g1 := zz_rg p1
  have g2 := zz_rg s0
  have g3 := zz_rg s1
  have g4 := zz_rg s2
  have g5 := zz_rg s3
  have g6 := zz_rg s9
  have g7 := zz_rg s10
  unfold m_X7_spanOf
  have l9 : (0 : Int32).toInt = 0 := rfl
  refine zz_ok_ite (fun c8 => ?_) (fun c8 => ?_)
  · have c8 := Int32.lt_iff_toInt_lt.mp c8
    refine zz_ok_some ?_
    show s0.toInt = s0.toInt ∧ s1.toInt = s1.toInt ∧ 0 ≤ s9.toInt ∧ s9.toInt ≤ 512
    refine ⟨?_, ?_, ?_, ?_⟩ <;> omega
  · have c8 := zz_nlt c8
    refine zz_ok_ite (fun c10 => ?_) (fun c10 => ?_)
    · have c10 := Int32.lt_iff_toInt_lt.mp c10
      refine zz_ok_chk (zz_ix (by omega) (by omega)) ?_
      refine zz_ok_some ?_
      show s0.toInt = s0.toInt ∧ s1.toInt = s1.toInt ∧ 0 ≤ s9.toInt ∧ s9.toInt ≤ 512
      refine ⟨?_, ?_, ?_, ?_⟩ <;> omega
    · have c10 := zz_nlt c10
      refine zz_ok_some ?_
      show s0.toInt = s0.toInt ∧ s1.toInt = s1.toInt ∧ 0 ≤ s9.toInt ∧ s9.toInt ≤ 512
      refine ⟨?_, ?_, ?_, ?_⟩ <;> omega
set_option maxHeartbeats 4000000 in
theorem s_X7_askedOf (K : Nat) (hK : 1099511627776 ≤ K) (n0 : Nat) (n1 : Nat) (n2 : Nat) (n3 : Nat) (n4 : Nat) (n5 : Nat) (n6 : Nat) (p1 : Int32) (s0 : Int32) (s1 : Int32) (s2 : Int32) (s3 : Int32) (s4 : Nat → Int32) (s5 : Nat → Int32) (s6 : Nat → Int32) (s7 : Nat → Int32) (s8 : Nat → Int32) (s9 : Int32) (s10 : Int32) (s11 : Nat → Int32) (s12 : Nat → Int32) (a0 : n0 = 1024) (a1 : n1 = 200) (a2 : n2 = 200) (a3 : n3 = 200) (a4 : n4 = 200) (a5 : n5 = 512) (a6 : n6 = 512) (a7 : 0 ≤ s0.toInt) (a8 : s0.toInt ≤ 1024) (a9 : 0 ≤ s1.toInt) (a10 : s1.toInt ≤ 200) (a11 : 0 ≤ s9.toInt) (a12 : s9.toInt ≤ 512) : zz_ok (m_X7_askedOf K n0 n1 n2 n3 n4 n5 n6 p1 s0 s1 s2 s3 s4 s5 s6 s7 s8 s9 s10 s11 s12) (fun z => z.2.1.toInt = s0.toInt ∧ z.2.2.1.toInt = s1.toInt ∧ 0 ≤ z.2.2.2.2.2.2.2.2.2.2.1.toInt ∧ z.2.2.2.2.2.2.2.2.2.2.1.toInt ≤ 512) := by
  have g1 := zz_rg p1
  have g2 := zz_rg s0
  have g3 := zz_rg s1
  have g4 := zz_rg s2
  have g5 := zz_rg s3
  have g6 := zz_rg s9
  have g7 := zz_rg s10
  unfold m_X7_askedOf
  have l9 : (0 : Int32).toInt = 0 := rfl
  refine zz_ok_ite (fun c8 => ?_) (fun c8 => ?_)
  · have c8 := Int32.lt_iff_toInt_lt.mp c8
    refine zz_ok_some ?_
    show s0.toInt = s0.toInt ∧ s1.toInt = s1.toInt ∧ 0 ≤ s9.toInt ∧ s9.toInt ≤ 512
    refine ⟨?_, ?_, ?_, ?_⟩ <;> omega
  · have c8 := zz_nlt c8
    refine zz_ok_ite (fun c10 => ?_) (fun c10 => ?_)
    · have c10 := Int32.lt_iff_toInt_lt.mp c10
      refine zz_ok_chk (zz_ix (by omega) (by omega)) ?_
      refine zz_ok_some ?_
      show s0.toInt = s0.toInt ∧ s1.toInt = s1.toInt ∧ 0 ≤ s9.toInt ∧ s9.toInt ≤ 512
      refine ⟨?_, ?_, ?_, ?_⟩ <;> omega
    · have c10 := zz_nlt c10
      refine zz_ok_some ?_
      show s0.toInt = s0.toInt ∧ s1.toInt = s1.toInt ∧ 0 ≤ s9.toInt ∧ s9.toInt ≤ 512
      refine ⟨?_, ?_, ?_, ?_⟩ <;> omega
set_option maxHeartbeats 4000000 in
theorem s_X7_blockAt (K : Nat) (hK : 1099511627776 ≤ K) (n0 : Nat) (n1 : Nat) (n2 : Nat) (n3 : Nat) (n4 : Nat) (n5 : Nat) (n6 : Nat) (p1 : Int32) (s0 : Int32) (s1 : Int32) (s2 : Int32) (s3 : Int32) (s4 : Nat → Int32) (s5 : Nat → Int32) (s6 : Nat → Int32) (s7 : Nat → Int32) (s8 : Nat → Int32) (s9 : Int32) (s10 : Int32) (s11 : Nat → Int32) (s12 : Nat → Int32) (a0 : n0 = 1024) (a1 : n1 = 200) (a2 : n2 = 200) (a3 : n3 = 200) (a4 : n4 = 200) (a5 : n5 = 512) (a6 : n6 = 512) (a7 : 0 ≤ s0.toInt) (a8 : s0.toInt ≤ 1024) (a9 : 0 ≤ s1.toInt) (a10 : s1.toInt ≤ 200) (a11 : 0 ≤ s9.toInt) (a12 : s9.toInt ≤ 512) : zz_ok (m_X7_blockAt K n0 n1 n2 n3 n4 n5 n6 p1 s0 s1 s2 s3 s4 s5 s6 s7 s8 s9 s10 s11 s12) (fun z => z.2.1.toInt = s0.toInt ∧ z.2.2.1.toInt = s1.toInt ∧ 0 ≤ z.2.2.2.2.2.2.2.2.2.2.1.toInt ∧ z.2.2.2.2.2.2.2.2.2.2.1.toInt ≤ 512) := by
  have g1 := zz_rg p1
  have g2 := zz_rg s0
  have g3 := zz_rg s1
  have g4 := zz_rg s2
  have g5 := zz_rg s3
  have g6 := zz_rg s9
  have g7 := zz_rg s10
  unfold m_X7_blockAt
  have l9 : (0 : Int32).toInt = 0 := rfl
  refine zz_ok_ite (fun c8 => ?_) (fun c8 => ?_)
  · have c8 := Int32.lt_iff_toInt_lt.mp c8
    refine zz_ok_some ?_
    show s0.toInt = s0.toInt ∧ s1.toInt = s1.toInt ∧ 0 ≤ s9.toInt ∧ s9.toInt ≤ 512
    refine ⟨?_, ?_, ?_, ?_⟩ <;> omega
  · have c8 := zz_nlt c8
    refine zz_ok_ite (fun c10 => ?_) (fun c10 => ?_)
    · have c10 := Int32.lt_iff_toInt_lt.mp c10
      refine zz_ok_chk (zz_ix (by omega) (by omega)) ?_
      refine zz_ok_some ?_
      show s0.toInt = s0.toInt ∧ s1.toInt = s1.toInt ∧ 0 ≤ s9.toInt ∧ s9.toInt ≤ 512
      refine ⟨?_, ?_, ?_, ?_⟩ <;> omega
    · have c10 := zz_nlt c10
      refine zz_ok_some ?_
      show s0.toInt = s0.toInt ∧ s1.toInt = s1.toInt ∧ 0 ≤ s9.toInt ∧ s9.toInt ≤ 512
      refine ⟨?_, ?_, ?_, ?_⟩ <;> omega
set_option maxHeartbeats 4000000 in
theorem s_X7_askedTogether_L4 (K : Nat) (hK : 1099511627776 ≤ K) (n0 : Nat) (n1 : Nat) (n2 : Nat) (n3 : Nat) (n4 : Nat) (n5 : Nat) (n6 : Nat) : ∀ (k : Nat) (x1 : Int32) (x2 : Int32) (s0 : Int32) (s1 : Int32) (s2 : Int32) (s3 : Int32) (s4 : Nat → Int32) (s5 : Nat → Int32) (s6 : Nat → Int32) (s7 : Nat → Int32) (s8 : Nat → Int32) (s9 : Int32) (s10 : Int32) (s11 : Nat → Int32) (s12 : Nat → Int32), n0 = 1024 → n1 = 200 → n2 = 200 → n3 = 200 → n4 = 200 → n5 = 512 → n6 = 512 → 0 ≤ s0.toInt → s0.toInt ≤ 1024 → 0 ≤ s1.toInt → s1.toInt ≤ 200 → 0 ≤ s9.toInt → s9.toInt ≤ 512 → 0 ≤ x2.toInt → x2.toInt ≤ s1.toInt → s1.toInt - x2.toInt < (k : Int) → zz_ok (m_X7_askedTogether_L4 K n0 n1 n2 n3 n4 n5 n6 k x1 x2 s0 s1 s2 s3 s4 s5 s6 s7 s8 s9 s10 s11 s12) (fun z => z.2.1.toInt = s0.toInt ∧ z.2.2.1.toInt = s1.toInt ∧ 0 ≤ z.2.2.2.2.2.2.2.2.2.2.1.toInt ∧ z.2.2.2.2.2.2.2.2.2.2.1.toInt ≤ 512) := by
  intro k
  induction k with
  | zero =>
    intro x1 x2 s0 s1 s2 s3 s4 s5 s6 s7 s8 s9 s10 s11 s12 a0 a1 a2 a3 a4 a5 a6 a7 a8 a9 a10 a11 a12 a13 a14 hz9
    exfalso
    have g_x1 := zz_rg x1
    have g_x2 := zz_rg x2
    have g_s0 := zz_rg s0
    have g_s1 := zz_rg s1
    have g_s2 := zz_rg s2
    have g_s3 := zz_rg s3
    have g_s9 := zz_rg s9
    have g_s10 := zz_rg s10
    omega
  | succ k ih =>
    intro x1 x2 s0 s1 s2 s3 s4 s5 s6 s7 s8 s9 s10 s11 s12 a0 a1 a2 a3 a4 a5 a6 a7 a8 a9 a10 a11 a12 a13 a14 hz9
    rw [m_X7_askedTogether_L4_s]
    have g1 := zz_rg x1
    have g2 := zz_rg x2
    have g3 := zz_rg s0
    have g4 := zz_rg s1
    have g5 := zz_rg s2
    have g6 := zz_rg s3
    have g7 := zz_rg s9
    have g8 := zz_rg s10
    refine zz_ok_ite (fun c9 => ?_) (fun c9 => ?_)
    · have c9 := Int32.le_iff_toInt_le.mp c9
      refine zz_ok_some ?_
      show s0.toInt = s0.toInt ∧ s1.toInt = s1.toInt ∧ 0 ≤ s9.toInt ∧ s9.toInt ≤ 512
      refine ⟨?_, ?_, ?_, ?_⟩ <;> omega
    · have c9 := zz_nle c9
      refine zz_ok_chk (zz_ix (by omega) (by omega)) ?_
      have g10 := zz_rg (s8 x2.toNatClampNeg)
      obtain ⟨k11, f12⟩ := zz_add x1 (s8 x2.toNatClampNeg)
      have g13 := zz_rg (x1 + (s8 x2.toNatClampNeg))
      have l14 : (1 : Int32).toInt = 1 := rfl
      obtain ⟨k15, f16⟩ := zz_add x2 (1 : Int32)
      have g17 := zz_rg (x2 + 1)
      refine (ih (x1 + (s8 x2.toNatClampNeg)) (x2 + 1) s0 s1 s2 s3 s4 s5 s6 s7 s8 s9 s10 s11 s12 (by omega) (by omega) (by omega) (by omega) (by omega) (by omega) (by omega) (by omega) (by omega) (by omega) (by omega) (by omega) (by omega) (by omega) (by omega) (by omega)).mono (fun z hz => ?_)
      have q18 : z.2.1.toInt = s0.toInt := hz.1
      have q19 : z.2.2.1.toInt = s1.toInt := hz.2.1
      have q20 : 0 ≤ z.2.2.2.2.2.2.2.2.2.2.1.toInt := hz.2.2.1
      have q21 : z.2.2.2.2.2.2.2.2.2.2.1.toInt ≤ 512 := hz.2.2.2
      show z.2.1.toInt = s0.toInt ∧ z.2.2.1.toInt = s1.toInt ∧ 0 ≤ z.2.2.2.2.2.2.2.2.2.2.1.toInt ∧ z.2.2.2.2.2.2.2.2.2.2.1.toInt ≤ 512
      refine ⟨?_, ?_, ?_, ?_⟩ <;> omega
set_option maxHeartbeats 4000000 in
theorem s_X7_askedTogether (K : Nat) (hK : 1099511627776 ≤ K) (n0 : Nat) (n1 : Nat) (n2 : Nat) (n3 : Nat) (n4 : Nat) (n5 : Nat) (n6 : Nat) (s0 : Int32) (s1 : Int32) (s2 : Int32) (s3 : Int32) (s4 : Nat → Int32) (s5 : Nat → Int32) (s6 : Nat → Int32) (s7 : Nat → Int32) (s8 : Nat → Int32) (s9 : Int32) (s10 : Int32) (s11 : Nat → Int32) (s12 : Nat → Int32) (a0 : n0 = 1024) (a1 : n1 = 200) (a2 : n2 = 200) (a3 : n3 = 200) (a4 : n4 = 200) (a5 : n5 = 512) (a6 : n6 = 512) (a7 : 0 ≤ s0.toInt) (a8 : s0.toInt ≤ 1024) (a9 : 0 ≤ s1.toInt) (a10 : s1.toInt ≤ 200) (a11 : 0 ≤ s9.toInt) (a12 : s9.toInt ≤ 512) : zz_ok (m_X7_askedTogether K n0 n1 n2 n3 n4 n5 n6 s0 s1 s2 s3 s4 s5 s6 s7 s8 s9 s10 s11 s12) (fun z => z.2.1.toInt = s0.toInt ∧ z.2.2.1.toInt = s1.toInt ∧ 0 ≤ z.2.2.2.2.2.2.2.2.2.2.1.toInt ∧ z.2.2.2.2.2.2.2.2.2.2.1.toInt ≤ 512) := by
  have g1 := zz_rg s0
  have g2 := zz_rg s1
  have g3 := zz_rg s2
  have g4 := zz_rg s3
  have g5 := zz_rg s9
  have g6 := zz_rg s10
  unfold m_X7_askedTogether
  have l7 : (0 : Int32).toInt = 0 := rfl
  refine (s_X7_askedTogether_L4 K hK n0 n1 n2 n3 n4 n5 n6 K ((0 : Int32)) ((0 : Int32)) s0 s1 s2 s3 s4 s5 s6 s7 s8 s9 s10 s11 s12 (by omega) (by omega) (by omega) (by omega) (by omega) (by omega) (by omega) (by omega) (by omega) (by omega) (by omega) (by omega) (by omega) (by omega) (by omega) (by omega)).mono (fun z hz => ?_)
  have q8 : z.2.1.toInt = s0.toInt := hz.1
  have q9 : z.2.2.1.toInt = s1.toInt := hz.2.1
  have q10 : 0 ≤ z.2.2.2.2.2.2.2.2.2.2.1.toInt := hz.2.2.1
  have q11 : z.2.2.2.2.2.2.2.2.2.2.1.toInt ≤ 512 := hz.2.2.2
  show z.2.1.toInt = s0.toInt ∧ z.2.2.1.toInt = s1.toInt ∧ 0 ≤ z.2.2.2.2.2.2.2.2.2.2.1.toInt ∧ z.2.2.2.2.2.2.2.2.2.2.1.toInt ≤ 512
  refine ⟨?_, ?_, ?_, ?_⟩ <;> omega
set_option maxHeartbeats 4000000 in
theorem s_X7_spansTogether_L4 (K : Nat) (hK : 1099511627776 ≤ K) (n0 : Nat) (n1 : Nat) (n2 : Nat) (n3 : Nat) (n4 : Nat) (n5 : Nat) (n6 : Nat) : ∀ (k : Nat) (x1 : Int32) (x2 : Int32) (s0 : Int32) (s1 : Int32) (s2 : Int32) (s3 : Int32) (s4 : Nat → Int32) (s5 : Nat → Int32) (s6 : Nat → Int32) (s7 : Nat → Int32) (s8 : Nat → Int32) (s9 : Int32) (s10 : Int32) (s11 : Nat → Int32) (s12 : Nat → Int32), n0 = 1024 → n1 = 200 → n2 = 200 → n3 = 200 → n4 = 200 → n5 = 512 → n6 = 512 → 0 ≤ s0.toInt → s0.toInt ≤ 1024 → 0 ≤ s1.toInt → s1.toInt ≤ 200 → 0 ≤ s9.toInt → s9.toInt ≤ 512 → 0 ≤ x2.toInt → x2.toInt ≤ s1.toInt → s1.toInt - x2.toInt < (k : Int) → zz_ok (m_X7_spansTogether_L4 K n0 n1 n2 n3 n4 n5 n6 k x1 x2 s0 s1 s2 s3 s4 s5 s6 s7 s8 s9 s10 s11 s12) (fun z => z.2.1.toInt = s0.toInt ∧ z.2.2.1.toInt = s1.toInt ∧ 0 ≤ z.2.2.2.2.2.2.2.2.2.2.1.toInt ∧ z.2.2.2.2.2.2.2.2.2.2.1.toInt ≤ 512) := by
  intro k
  induction k with
  | zero =>
    intro x1 x2 s0 s1 s2 s3 s4 s5 s6 s7 s8 s9 s10 s11 s12 a0 a1 a2 a3 a4 a5 a6 a7 a8 a9 a10 a11 a12 a13 a14 hz9
    exfalso
    have g_x1 := zz_rg x1
    have g_x2 := zz_rg x2
    have g_s0 := zz_rg s0
    have g_s1 := zz_rg s1
    have g_s2 := zz_rg s2
    have g_s3 := zz_rg s3
    have g_s9 := zz_rg s9
    have g_s10 := zz_rg s10
    omega
  | succ k ih =>
    intro x1 x2 s0 s1 s2 s3 s4 s5 s6 s7 s8 s9 s10 s11 s12 a0 a1 a2 a3 a4 a5 a6 a7 a8 a9 a10 a11 a12 a13 a14 hz9
    rw [m_X7_spansTogether_L4_s]
    have g1 := zz_rg x1
    have g2 := zz_rg x2
    have g3 := zz_rg s0
    have g4 := zz_rg s1
    have g5 := zz_rg s2
    have g6 := zz_rg s3
    have g7 := zz_rg s9
    have g8 := zz_rg s10
    refine zz_ok_ite (fun c9 => ?_) (fun c9 => ?_)
    · have c9 := Int32.le_iff_toInt_le.mp c9
      refine zz_ok_some ?_
      show s0.toInt = s0.toInt ∧ s1.toInt = s1.toInt ∧ 0 ≤ s9.toInt ∧ s9.toInt ≤ 512
      refine ⟨?_, ?_, ?_, ?_⟩ <;> omega
    · have c9 := zz_nle c9
      refine zz_ok_chk (zz_ix (by omega) (by omega)) ?_
      have g10 := zz_rg (s7 x2.toNatClampNeg)
      obtain ⟨k11, f12⟩ := zz_add x1 (s7 x2.toNatClampNeg)
      have g13 := zz_rg (x1 + (s7 x2.toNatClampNeg))
      have l14 : (1 : Int32).toInt = 1 := rfl
      obtain ⟨k15, f16⟩ := zz_add x2 (1 : Int32)
      have g17 := zz_rg (x2 + 1)
      refine (ih (x1 + (s7 x2.toNatClampNeg)) (x2 + 1) s0 s1 s2 s3 s4 s5 s6 s7 s8 s9 s10 s11 s12 (by omega) (by omega) (by omega) (by omega) (by omega) (by omega) (by omega) (by omega) (by omega) (by omega) (by omega) (by omega) (by omega) (by omega) (by omega) (by omega)).mono (fun z hz => ?_)
      have q18 : z.2.1.toInt = s0.toInt := hz.1
      have q19 : z.2.2.1.toInt = s1.toInt := hz.2.1
      have q20 : 0 ≤ z.2.2.2.2.2.2.2.2.2.2.1.toInt := hz.2.2.1
      have q21 : z.2.2.2.2.2.2.2.2.2.2.1.toInt ≤ 512 := hz.2.2.2
      show z.2.1.toInt = s0.toInt ∧ z.2.2.1.toInt = s1.toInt ∧ 0 ≤ z.2.2.2.2.2.2.2.2.2.2.1.toInt ∧ z.2.2.2.2.2.2.2.2.2.2.1.toInt ≤ 512
      refine ⟨?_, ?_, ?_, ?_⟩ <;> omega
set_option maxHeartbeats 4000000 in
theorem s_X7_spansTogether (K : Nat) (hK : 1099511627776 ≤ K) (n0 : Nat) (n1 : Nat) (n2 : Nat) (n3 : Nat) (n4 : Nat) (n5 : Nat) (n6 : Nat) (s0 : Int32) (s1 : Int32) (s2 : Int32) (s3 : Int32) (s4 : Nat → Int32) (s5 : Nat → Int32) (s6 : Nat → Int32) (s7 : Nat → Int32) (s8 : Nat → Int32) (s9 : Int32) (s10 : Int32) (s11 : Nat → Int32) (s12 : Nat → Int32) (a0 : n0 = 1024) (a1 : n1 = 200) (a2 : n2 = 200) (a3 : n3 = 200) (a4 : n4 = 200) (a5 : n5 = 512) (a6 : n6 = 512) (a7 : 0 ≤ s0.toInt) (a8 : s0.toInt ≤ 1024) (a9 : 0 ≤ s1.toInt) (a10 : s1.toInt ≤ 200) (a11 : 0 ≤ s9.toInt) (a12 : s9.toInt ≤ 512) : zz_ok (m_X7_spansTogether K n0 n1 n2 n3 n4 n5 n6 s0 s1 s2 s3 s4 s5 s6 s7 s8 s9 s10 s11 s12) (fun z => z.2.1.toInt = s0.toInt ∧ z.2.2.1.toInt = s1.toInt ∧ 0 ≤ z.2.2.2.2.2.2.2.2.2.2.1.toInt ∧ z.2.2.2.2.2.2.2.2.2.2.1.toInt ≤ 512) := by
  have g1 := zz_rg s0
  have g2 := zz_rg s1
  have g3 := zz_rg s2
  have g4 := zz_rg s3
  have g5 := zz_rg s9
  have g6 := zz_rg s10
  unfold m_X7_spansTogether
  have l7 : (0 : Int32).toInt = 0 := rfl
  refine (s_X7_spansTogether_L4 K hK n0 n1 n2 n3 n4 n5 n6 K ((0 : Int32)) ((0 : Int32)) s0 s1 s2 s3 s4 s5 s6 s7 s8 s9 s10 s11 s12 (by omega) (by omega) (by omega) (by omega) (by omega) (by omega) (by omega) (by omega) (by omega) (by omega) (by omega) (by omega) (by omega) (by omega) (by omega) (by omega)).mono (fun z hz => ?_)
  have q8 : z.2.1.toInt = s0.toInt := hz.1
  have q9 : z.2.2.1.toInt = s1.toInt := hz.2.1
  have q10 : 0 ≤ z.2.2.2.2.2.2.2.2.2.2.1.toInt := hz.2.2.1
  have q11 : z.2.2.2.2.2.2.2.2.2.2.1.toInt ≤ 512 := hz.2.2.2
  show z.2.1.toInt = s0.toInt ∧ z.2.2.1.toInt = s1.toInt ∧ 0 ≤ z.2.2.2.2.2.2.2.2.2.2.1.toInt ∧ z.2.2.2.2.2.2.2.2.2.2.1.toInt ≤ 512
  refine ⟨?_, ?_, ?_, ?_⟩ <;> omega
set_option maxHeartbeats 4000000 in
theorem s_X7_listRuns_L11 (K : Nat) (hK : 1099511627776 ≤ K) (n0 : Nat) (n1 : Nat) (n2 : Nat) (n3 : Nat) (n4 : Nat) (n5 : Nat) (n6 : Nat) : ∀ (k : Nat) (x1 : Int32) (x2 : Int32) (s0 : Int32) (s1 : Int32) (s2 : Int32) (s3 : Int32) (s4 : Nat → Int32) (s5 : Nat → Int32) (s6 : Nat → Int32) (s7 : Nat → Int32) (s8 : Nat → Int32) (s9 : Int32) (s10 : Int32) (s11 : Nat → Int32) (s12 : Nat → Int32), n0 = 1024 → n1 = 200 → n2 = 200 → n3 = 200 → n4 = 200 → n5 = 512 → n6 = 512 → 0 ≤ s0.toInt → s0.toInt ≤ 1024 → 0 ≤ s1.toInt → s1.toInt ≤ 200 → 0 ≤ s9.toInt → s9.toInt ≤ 512 → 0 ≤ x2.toInt → x2.toInt ≤ s0.toInt + 1 → s0.toInt + 1 - x2.toInt < (k : Int) → zz_ok (m_X7_listRuns_L11 K n0 n1 n2 n3 n4 n5 n6 k x1 x2 s0 s1 s2 s3 s4 s5 s6 s7 s8 s9 s10 s11 s12) (fun z => z.1.toInt = s0.toInt ∧ z.2.1.toInt = s1.toInt ∧ 0 ≤ z.2.2.2.2.2.2.2.2.2.1.toInt ∧ z.2.2.2.2.2.2.2.2.2.1.toInt ≤ 512) := by
  intro k
  induction k with
  | zero =>
    intro x1 x2 s0 s1 s2 s3 s4 s5 s6 s7 s8 s9 s10 s11 s12 a0 a1 a2 a3 a4 a5 a6 a7 a8 a9 a10 a11 a12 a13 a14 hz9
    exfalso
    have g_x1 := zz_rg x1
    have g_x2 := zz_rg x2
    have g_s0 := zz_rg s0
    have g_s1 := zz_rg s1
    have g_s2 := zz_rg s2
    have g_s3 := zz_rg s3
    have g_s9 := zz_rg s9
    have g_s10 := zz_rg s10
    omega
  | succ k ih =>
    intro x1 x2 s0 s1 s2 s3 s4 s5 s6 s7 s8 s9 s10 s11 s12 a0 a1 a2 a3 a4 a5 a6 a7 a8 a9 a10 a11 a12 a13 a14 hz9
    rw [m_X7_listRuns_L11_s]
    have g1 := zz_rg x1
    have g2 := zz_rg x2
    have g3 := zz_rg s0
    have g4 := zz_rg s1
    have g5 := zz_rg s2
    have g6 := zz_rg s3
    have g7 := zz_rg s9
    have g8 := zz_rg s10
    refine zz_ok_ite (fun c9 => ?_) (fun c9 => ?_)
    · have c9 := Int32.lt_iff_toInt_lt.mp c9
      refine zz_ok_some ?_
      show s0.toInt = s0.toInt ∧ s1.toInt = s1.toInt ∧ 0 ≤ s9.toInt ∧ s9.toInt ≤ 512
      refine ⟨?_, ?_, ?_, ?_⟩ <;> omega
    · have c9 := zz_nlt c9
      refine zz_ok_bind (s_X7_isFree K hK n0 n1 n2 n3 n4 n5 n6 x2 s0 s1 s2 s3 s4 s5 s6 s7 s8 s9 s10 s11 s12 (by omega) (by omega) (by omega) (by omega) (by omega) (by omega) (by omega) (by omega) (by omega) (by omega) (by omega) (by omega) (by omega)) ?_
      intro z10 hz10
      obtain ⟨r_3, t_3_0, t_3_1, t_3_2, t_3_3, t_3_4, t_3_5, t_3_6, t_3_7, t_3_8, t_3_9, t_3_10, t_3_11, t_3_12⟩ := z10
      have q11 : (r_3.toInt = 0 ∨ r_3.toInt = 1) := hz10.1
      have q12 : t_3_0.toInt = s0.toInt := hz10.2.1
      have q13 : t_3_1.toInt = s1.toInt := hz10.2.2.1
      have q14 : 0 ≤ t_3_9.toInt := hz10.2.2.2.1
      have q15 : t_3_9.toInt ≤ 512 := hz10.2.2.2.2
      have g16 := zz_rg r_3
      have g17 := zz_rg t_3_0
      have g18 := zz_rg t_3_1
      have g19 := zz_rg t_3_2
      have g20 := zz_rg t_3_3
      have g21 := zz_rg t_3_9
      have g22 := zz_rg t_3_10
      show zz_ok (if r_3 = 0 then (if x2 ≤ x1 then (m_X7_listRuns_L11 K n0 n1 n2 n3 n4 n5 n6 k (x2 + ((1 : Int32))) (x2 + 1) t_3_0 t_3_1 t_3_2 t_3_3 t_3_4 t_3_5 t_3_6 t_3_7 t_3_8 t_3_9 t_3_10 t_3_11 t_3_12) else ((m_X10_add K n5 n6 x1 (x2 - x1) t_3_9 t_3_10 t_3_11 t_3_12).bind fun ⟨t_6_0, t_6_1, t_6_2, t_6_3⟩ => m_X7_listRuns_L11 K n0 n1 n2 n3 n4 n5 n6 k (x2 + ((1 : Int32))) (x2 + 1) t_3_0 t_3_1 t_3_2 t_3_3 t_3_4 t_3_5 t_3_6 t_3_7 t_3_8 t_6_0 t_6_1 t_6_2 t_6_3)) else (m_X7_listRuns_L11 K n0 n1 n2 n3 n4 n5 n6 k x1 (x2 + 1) t_3_0 t_3_1 t_3_2 t_3_3 t_3_4 t_3_5 t_3_6 t_3_7 t_3_8 t_3_9 t_3_10 t_3_11 t_3_12)) _
      have l24 : (0 : Int32).toInt = 0 := rfl
      refine zz_ok_ite (fun c23 => ?_) (fun c23 => ?_)
      · have c23 := congrArg Int32.toInt c23
        refine zz_ok_ite (fun c25 => ?_) (fun c25 => ?_)
        · have c25 := Int32.le_iff_toInt_le.mp c25
          have l26 : (1 : Int32).toInt = 1 := rfl
          obtain ⟨k27, f28⟩ := zz_add x2 (1 : Int32)
          have g29 := zz_rg (x2 + ((1 : Int32)))
          obtain ⟨k30, f31⟩ := zz_add x2 (1 : Int32)
          have g32 := zz_rg (x2 + 1)
          refine (ih (x2 + ((1 : Int32))) (x2 + 1) t_3_0 t_3_1 t_3_2 t_3_3 t_3_4 t_3_5 t_3_6 t_3_7 t_3_8 t_3_9 t_3_10 t_3_11 t_3_12 (by omega) (by omega) (by omega) (by omega) (by omega) (by omega) (by omega) (by omega) (by omega) (by omega) (by omega) (by omega) (by omega) (by omega) (by omega) (by omega)).mono (fun z hz => ?_)
          have q33 : z.1.toInt = t_3_0.toInt := hz.1
          have q34 : z.2.1.toInt = t_3_1.toInt := hz.2.1
          have q35 : 0 ≤ z.2.2.2.2.2.2.2.2.2.1.toInt := hz.2.2.1
          have q36 : z.2.2.2.2.2.2.2.2.2.1.toInt ≤ 512 := hz.2.2.2
          show z.1.toInt = s0.toInt ∧ z.2.1.toInt = s1.toInt ∧ 0 ≤ z.2.2.2.2.2.2.2.2.2.1.toInt ∧ z.2.2.2.2.2.2.2.2.2.1.toInt ≤ 512
          refine ⟨?_, ?_, ?_, ?_⟩ <;> omega
        · have c25 := zz_nle c25
          obtain ⟨k37, f38⟩ := zz_sub x2 x1
          have g39 := zz_rg (x2 - x1)
          refine zz_ok_bind (s_X10_add K hK n5 n6 x1 (x2 - x1) t_3_9 t_3_10 t_3_11 t_3_12 (by omega) (by omega) (by omega) (by omega)) ?_
          intro z40 hz40
          obtain ⟨t_6_0, t_6_1, t_6_2, t_6_3⟩ := z40
          have q41 : 0 ≤ t_6_0.toInt := hz40.1
          have q42 : t_6_0.toInt ≤ (n5 : Int) := hz40.2
          have g43 := zz_rg t_6_0
          have g44 := zz_rg t_6_1
          show zz_ok (m_X7_listRuns_L11 K n0 n1 n2 n3 n4 n5 n6 k (x2 + ((1 : Int32))) (x2 + 1) t_3_0 t_3_1 t_3_2 t_3_3 t_3_4 t_3_5 t_3_6 t_3_7 t_3_8 t_6_0 t_6_1 t_6_2 t_6_3) _
          have l45 : (1 : Int32).toInt = 1 := rfl
          obtain ⟨k46, f47⟩ := zz_add x2 (1 : Int32)
          have g48 := zz_rg (x2 + ((1 : Int32)))
          obtain ⟨k49, f50⟩ := zz_add x2 (1 : Int32)
          have g51 := zz_rg (x2 + 1)
          refine (ih (x2 + ((1 : Int32))) (x2 + 1) t_3_0 t_3_1 t_3_2 t_3_3 t_3_4 t_3_5 t_3_6 t_3_7 t_3_8 t_6_0 t_6_1 t_6_2 t_6_3 (by omega) (by omega) (by omega) (by omega) (by omega) (by omega) (by omega) (by omega) (by omega) (by omega) (by omega) (by omega) (by omega) (by omega) (by omega) (by omega)).mono (fun z hz => ?_)
          have q52 : z.1.toInt = t_3_0.toInt := hz.1
          have q53 : z.2.1.toInt = t_3_1.toInt := hz.2.1
          have q54 : 0 ≤ z.2.2.2.2.2.2.2.2.2.1.toInt := hz.2.2.1
          have q55 : z.2.2.2.2.2.2.2.2.2.1.toInt ≤ 512 := hz.2.2.2
          show z.1.toInt = s0.toInt ∧ z.2.1.toInt = s1.toInt ∧ 0 ≤ z.2.2.2.2.2.2.2.2.2.1.toInt ∧ z.2.2.2.2.2.2.2.2.2.1.toInt ≤ 512
          refine ⟨?_, ?_, ?_, ?_⟩ <;> omega
      · have c23 := zz_neq c23
        have l56 : (1 : Int32).toInt = 1 := rfl
        obtain ⟨k57, f58⟩ := zz_add x2 (1 : Int32)
        have g59 := zz_rg (x2 + 1)
        refine (ih x1 (x2 + 1) t_3_0 t_3_1 t_3_2 t_3_3 t_3_4 t_3_5 t_3_6 t_3_7 t_3_8 t_3_9 t_3_10 t_3_11 t_3_12 (by omega) (by omega) (by omega) (by omega) (by omega) (by omega) (by omega) (by omega) (by omega) (by omega) (by omega) (by omega) (by omega) (by omega) (by omega) (by omega)).mono (fun z hz => ?_)
        have q60 : z.1.toInt = t_3_0.toInt := hz.1
        have q61 : z.2.1.toInt = t_3_1.toInt := hz.2.1
        have q62 : 0 ≤ z.2.2.2.2.2.2.2.2.2.1.toInt := hz.2.2.1
        have q63 : z.2.2.2.2.2.2.2.2.2.1.toInt ≤ 512 := hz.2.2.2
        show z.1.toInt = s0.toInt ∧ z.2.1.toInt = s1.toInt ∧ 0 ≤ z.2.2.2.2.2.2.2.2.2.1.toInt ∧ z.2.2.2.2.2.2.2.2.2.1.toInt ≤ 512
        refine ⟨?_, ?_, ?_, ?_⟩ <;> omega
set_option maxHeartbeats 4000000 in
theorem s_X7_listRuns (K : Nat) (hK : 1099511627776 ≤ K) (n0 : Nat) (n1 : Nat) (n2 : Nat) (n3 : Nat) (n4 : Nat) (n5 : Nat) (n6 : Nat) (s0 : Int32) (s1 : Int32) (s2 : Int32) (s3 : Int32) (s4 : Nat → Int32) (s5 : Nat → Int32) (s6 : Nat → Int32) (s7 : Nat → Int32) (s8 : Nat → Int32) (s9 : Int32) (s10 : Int32) (s11 : Nat → Int32) (s12 : Nat → Int32) (a0 : n0 = 1024) (a1 : n1 = 200) (a2 : n2 = 200) (a3 : n3 = 200) (a4 : n4 = 200) (a5 : n5 = 512) (a6 : n6 = 512) (a7 : 0 ≤ s0.toInt) (a8 : s0.toInt ≤ 1024) (a9 : 0 ≤ s1.toInt) (a10 : s1.toInt ≤ 200) (a11 : 0 ≤ s9.toInt) (a12 : s9.toInt ≤ 512) : zz_ok (m_X7_listRuns K n0 n1 n2 n3 n4 n5 n6 s0 s1 s2 s3 s4 s5 s6 s7 s8 s9 s10 s11 s12) (fun z => z.1.toInt = s0.toInt ∧ z.2.1.toInt = s1.toInt ∧ 0 ≤ z.2.2.2.2.2.2.2.2.2.1.toInt ∧ z.2.2.2.2.2.2.2.2.2.1.toInt ≤ 512) := by
  have g1 := zz_rg s0
  have g2 := zz_rg s1
  have g3 := zz_rg s2
  have g4 := zz_rg s3
  have g5 := zz_rg s9
  have g6 := zz_rg s10
  unfold m_X7_listRuns
  refine zz_ok_bind (s_X10_clear K hK n5 n6 s9 s10 s11 s12) ?_
  intro z7 hz7
  obtain ⟨t_1_0, t_1_1, t_1_2, t_1_3⟩ := z7
  have q8 : t_1_0.toInt = 0 := hz7
  have g9 := zz_rg t_1_0
  have g10 := zz_rg t_1_1
  show zz_ok (m_X7_listRuns_L11 K n0 n1 n2 n3 n4 n5 n6 K ((0 : Int32)) ((0 : Int32)) s0 s1 s2 s3 s4 s5 s6 s7 s8 t_1_0 t_1_1 t_1_2 t_1_3) _
  have l11 : (0 : Int32).toInt = 0 := rfl
  refine (s_X7_listRuns_L11 K hK n0 n1 n2 n3 n4 n5 n6 K ((0 : Int32)) ((0 : Int32)) s0 s1 s2 s3 s4 s5 s6 s7 s8 t_1_0 t_1_1 t_1_2 t_1_3 (by omega) (by omega) (by omega) (by omega) (by omega) (by omega) (by omega) (by omega) (by omega) (by omega) (by omega) (by omega) (by omega) (by omega) (by omega) (by omega)).mono (fun z hz => ?_)
  have q12 : z.1.toInt = s0.toInt := hz.1
  have q13 : z.2.1.toInt = s1.toInt := hz.2.1
  have q14 : 0 ≤ z.2.2.2.2.2.2.2.2.2.1.toInt := hz.2.2.1
  have q15 : z.2.2.2.2.2.2.2.2.2.1.toInt ≤ 512 := hz.2.2.2
  show z.1.toInt = s0.toInt ∧ z.2.1.toInt = s1.toInt ∧ 0 ≤ z.2.2.2.2.2.2.2.2.2.1.toInt ∧ z.2.2.2.2.2.2.2.2.2.1.toInt ≤ 512
  refine ⟨?_, ?_, ?_, ?_⟩ <;> omega

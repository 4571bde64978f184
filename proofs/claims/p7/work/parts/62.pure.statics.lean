set_option maxHeartbeats 4000000 in
theorem s_X11_powerFrom_L2 (K : Nat) (hK : 1099511627776 ≤ K) : ∀ (k : Nat) (x0 : Int32) (x1 : Int32), 1 ≤ x1.toInt → x1.toInt ≤ 2048 → 2048 - x1.toInt < (k : Int) → zz_ok (m_X11_powerFrom_L2 K k x0 x1) (fun z => 1 ≤ z.1.toInt ∧ z.1.toInt ≤ 1024) := by
  intro k
  induction k with
  | zero =>
    intro x0 x1 a0 a1 hz9
    exfalso
    have g_x0 := zz_rg x0
    have g_x1 := zz_rg x1
    omega
  | succ k ih =>
    intro x0 x1 a0 a1 hz9
    rw [m_X11_powerFrom_L2_s]
    have g1 := zz_rg x0
    have g2 := zz_rg x1
    have l4 : (1024 : Int32).toInt = 1024 := rfl
    refine zz_ok_ite (fun c3 => ?_) (fun c3 => ?_)
    · have c3 := Int32.le_iff_toInt_le.mp c3
      refine zz_ok_some ?_
      show 1 ≤ (1024 : Int32).toInt ∧ (1024 : Int32).toInt ≤ 1024
      refine ⟨?_, ?_⟩ <;> omega
    · have c3 := zz_nle c3
      refine zz_ok_ite (fun c5 => ?_) (fun c5 => ?_)
      · have c5 := Int32.lt_iff_toInt_lt.mp c5
        obtain ⟨k6, f7⟩ := zz_add x1 x1
        have g8 := zz_rg (x1 + x1)
        refine (ih x0 (x1 + x1) (by omega) (by omega) (by omega)).mono (fun z hz => ?_)
        have q9 : 1 ≤ z.1.toInt := hz.1
        have q10 : z.1.toInt ≤ 1024 := hz.2
        show 1 ≤ z.1.toInt ∧ z.1.toInt ≤ 1024
        refine ⟨?_, ?_⟩ <;> omega
      · have c5 := zz_nlt c5
        refine zz_ok_some ?_
        show 1 ≤ x1.toInt ∧ x1.toInt ≤ 1024
        refine ⟨?_, ?_⟩ <;> omega
set_option maxHeartbeats 4000000 in
theorem s_X11_powerFrom (K : Nat) (hK : 1099511627776 ≤ K) (p0 : Int32) : zz_ok (m_X11_powerFrom K p0) (fun z => 1 ≤ z.1.toInt ∧ z.1.toInt ≤ 1024) := by
  have g1 := zz_rg p0
  unfold m_X11_powerFrom
  have l2 : (1 : Int32).toInt = 1 := rfl
  refine (s_X11_powerFrom_L2 K hK K p0 ((1 : Int32)) (by omega) (by omega) (by omega)).mono (fun z hz => ?_)
  have q3 : 1 ≤ z.1.toInt := hz.1
  have q4 : z.1.toInt ≤ 1024 := hz.2
  show 1 ≤ z.1.toInt ∧ z.1.toInt ≤ 1024
  refine ⟨?_, ?_⟩ <;> omega
set_option maxHeartbeats 4000000 in
theorem s_X4_listOf_L6 (K : Nat) (hK : 1099511627776 ≤ K) : ∀ (k : Nat) (x0 : Int32) (x1 : Int32) (x2 : Int32) (x3 : Int32), 0 ≤ x3.toInt → x3.toInt ≤ 10 → 10 - x3.toInt < (k : Int) → zz_ok (m_X4_listOf_L6 K k x0 x1 x2 x3) (fun z => True) := by
  intro k
  induction k with
  | zero =>
    intro x0 x1 x2 x3 a0 a1 hz9
    exfalso
    have g_x0 := zz_rg x0
    have g_x1 := zz_rg x1
    have g_x2 := zz_rg x2
    have g_x3 := zz_rg x3
    omega
  | succ k ih =>
    intro x0 x1 x2 x3 a0 a1 hz9
    rw [m_X4_listOf_L6_s]
    have g1 := zz_rg x0
    have g2 := zz_rg x1
    have g3 := zz_rg x2
    have g4 := zz_rg x3
    have l6 : (10 : Int32).toInt = 10 := rfl
    refine zz_ok_ite (fun c5 => ?_) (fun c5 => ?_)
    · have c5 := Int32.le_iff_toInt_le.mp c5
      refine zz_ok_some ?_
      trivial
    · have c5 := zz_nle c5
      obtain ⟨k8, f9⟩ := zz_add x2 x2
      have g10 := zz_rg (x2 + x2)
      refine zz_ok_ite (fun c7 => ?_) (fun c7 => ?_)
      · have c7 := Int32.lt_iff_toInt_lt.mp c7
        refine zz_ok_some ?_
        trivial
      · have c7 := zz_nlt c7
        have l11 : (1 : Int32).toInt = 1 := rfl
        obtain ⟨k12, f13⟩ := zz_add x1 (1 : Int32)
        have g14 := zz_rg (x1 + 1)
        obtain ⟨k15, f16⟩ := zz_add x3 (1 : Int32)
        have g17 := zz_rg (x3 + 1)
        refine (ih x0 (x1 + 1) (x2 + x2) (x3 + 1) (by omega) (by omega) (by omega)).mono (fun z hz => ?_)
        trivial
set_option maxHeartbeats 4000000 in
theorem s_X4_listOf (K : Nat) (hK : 1099511627776 ≤ K) (p0 : Int32) : zz_ok (m_X4_listOf K p0) (fun z => True) := by
  have g1 := zz_rg p0
  unfold m_X4_listOf
  have l2 : (0 : Int32).toInt = 0 := rfl
  have l3 : (1 : Int32).toInt = 1 := rfl
  refine (s_X4_listOf_L6 K hK K p0 ((0 : Int32)) ((1 : Int32)) ((0 : Int32)) (by omega) (by omega) (by omega)).mono (fun z hz => ?_)
  trivial
set_option maxHeartbeats 4000000 in
theorem s_J6_bitCount_0f7a4 (K : Nat) (hK : 1099511627776 ≤ K) (p0 : Int32) : zz_ok (m_J6_bitCount_0f7a4 K p0) (fun z => True) := by
  have g1 := zz_rg p0
  unfold m_J6_bitCount_0f7a4
  refine zz_ok_some ?_
  trivial
set_option maxHeartbeats 4000000 in
theorem s_J7_fill_53178_L5 (K : Nat) (hK : 1099511627776 ≤ K) (n0 : Nat) : ∀ (k : Nat) (x1 : Int32) (x2 : Int32) (x3 : Int32) (s0 : Nat → Int32), 0 ≤ x2.toInt → x3.toInt = (n0 : Int) → x2.toInt ≤ x3.toInt → x3.toInt - x2.toInt < (k : Int) → zz_ok (m_J7_fill_53178_L5 K n0 k x1 x2 x3 s0) (fun z => True) := by
  intro k
  induction k with
  | zero =>
    intro x1 x2 x3 s0 a0 a1 a2 hz9
    exfalso
    have g_x1 := zz_rg x1
    have g_x2 := zz_rg x2
    have g_x3 := zz_rg x3
    omega
  | succ k ih =>
    intro x1 x2 x3 s0 a0 a1 a2 hz9
    rw [m_J7_fill_53178_L5_s]
    have g1 := zz_rg x1
    have g2 := zz_rg x2
    have g3 := zz_rg x3
    refine zz_ok_ite (fun c4 => ?_) (fun c4 => ?_)
    · have c4 := Int32.le_iff_toInt_le.mp c4
      refine zz_ok_some ?_
      trivial
    · have c4 := zz_nle c4
      refine zz_ok_chk (zz_ix (by omega) (by omega)) ?_
      have l5 : (1 : Int32).toInt = 1 := rfl
      obtain ⟨k6, f7⟩ := zz_add x2 (1 : Int32)
      have g8 := zz_rg (x2 + 1)
      refine (ih x1 (x2 + 1) x3 (upd s0 x2.toNatClampNeg x1) (by omega) (by omega) (by omega) (by omega)).mono (fun z hz => ?_)
      trivial
set_option maxHeartbeats 4000000 in
theorem s_J7_fill_53178 (K : Nat) (hK : 1099511627776 ≤ K) (n0 : Nat) (p1 : Int32) (s0 : Nat → Int32) (a0 : n0 < 1000000) : zz_ok (m_J7_fill_53178 K n0 p1 s0) (fun z => True) := by
  have g1 := zz_rg p1
  unfold m_J7_fill_53178
  have l2 : (0 : Int32).toInt = 0 := rfl
  have f3 := zz_nI n0 (by omega)
  have g4 := zz_rg (nI n0)
  refine (s_J7_fill_53178_L5 K hK n0 K p1 ((0 : Int32)) (nI n0) s0 (by omega) (by omega) (by omega) (by omega)).mono (fun z hz => ?_)
  trivial

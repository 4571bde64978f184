set_option maxHeartbeats 4000000 in
set_option maxRecDepth 100000 in
theorem ox_worstX (l : Launch) (hl9 : l.stackTraces = false) (dC : Nat → ClassId) (dI : Nat → Nat → Nat) (cI cJ cZ cF : ClassId) (K : Nat) (hK : 1099511627776 ≤ K) (q0 b1 b2 b3 b4 b5 b6 b7 b8 b9 b10 b11 b12 b13 b14 b15 b16 b17 b18 b19 b20 b21 b22 b23 b24 b25 b26 b27 b28 b29 : Nat) (u : SX) (hI : IX u) (p1 : Int32) (p2 : Int32) (p3 : Int32) (so : SO) (hb : (p1.toInt < 0 ∨ 3 < p1.toInt ∨ p2.toInt < 1 ∨ 4 < p2.toInt ∨ p3.toInt < 1 ∨ 8 < p3.toInt ∨ p3.toInt < p2.toInt)) : ∃ (Rn : Int32 → va_W → Prop) (Rx : String → va_W → Prop), zz_CXi l yX11_worst wsX11_worst rm_X11_worst_X dC dI cI cJ cZ cF q0 (wX cI cF q0 b1 b2 b3 b4 b5 b6 b7 b8 b9 b10 b11 b12 b13 b14 b15 b16 b17 b18 b19 b20 b21 b22 b23 b24 b25 b26 b27 b28 b29 u so) [.int p1, .int p2, .int p3] 1 6 Rn Rx ∧ (∀ r w, Rn r w → False) ∧ (∀ E w, Rx E w → E = "java/lang/IllegalArgumentException" ∧ ∃ u1 : SX, IX u1 ∧ u1 = u ∧ w = wX cI cF q0 b1 b2 b3 b4 b5 b6 b7 b8 b9 b10 b11 b12 b13 b14 b15 b16 b17 b18 b19 b20 b21 b22 b23 b24 b25 b26 b27 b28 b29 u1 so) := by
  obtain ⟨s0, s1, s2, s3, s4, s5, s6, s7, s8, s9, s10, s11, s12, s13, s14, s15, s16, s17, s18, s19, s20, s21, s22, s23, s24, s25, s26, s27, s28, s29, s30, s31, s32⟩ := u
  have i0a : -1 ≤ s0.toInt := hI.1
  have i0b : s0.toInt ≤ 9 := hI.2.1
  have i1a : 0 ≤ s1.toInt := hI.2.2.1
  have i1b : s1.toInt ≤ 1024 := hI.2.2.2.1
  have i2a : 0 ≤ s2.toInt := hI.2.2.2.2.1
  have i2b : s2.toInt ≤ 200 := hI.2.2.2.2.2.1
  have i10a : 0 ≤ s10.toInt := hI.2.2.2.2.2.2.1
  have i10b : s10.toInt ≤ 512 := hI.2.2.2.2.2.2.2.1
  have i18a : 0 ≤ s18.toInt := hI.2.2.2.2.2.2.2.2.1
  have i18b : s18.toInt ≤ 1024 := hI.2.2.2.2.2.2.2.2.2.1
  have i20a : 0 ≤ s20.toInt := hI.2.2.2.2.2.2.2.2.2.2.1
  have i20b : s20.toInt ≤ 32 := hI.2.2.2.2.2.2.2.2.2.2.2.1
  have i23a : 0 ≤ s23.toInt := hI.2.2.2.2.2.2.2.2.2.2.2.2.1
  have i23b : s23.toInt ≤ 1024 := hI.2.2.2.2.2.2.2.2.2.2.2.2.2.1
  have i24a : 0 ≤ s24.toInt := hI.2.2.2.2.2.2.2.2.2.2.2.2.2.2.1
  have i24b : s24.toInt ≤ 201 := hI.2.2.2.2.2.2.2.2.2.2.2.2.2.2.2.1
  have i29a : 0 ≤ s29.toInt := hI.2.2.2.2.2.2.2.2.2.2.2.2.2.2.2.2.1
  have i29b : s29.toInt ≤ 1024 := hI.2.2.2.2.2.2.2.2.2.2.2.2.2.2.2.2.2
  obtain ⟨⟨cv, rv, t0⟩, hm, hp⟩ := s_X11_worst_X K hK p1 p2 p3 s0 hb
  have hq0 : cv ∈ (["java/lang/IllegalArgumentException"] : List String) := hp.1
  have hq1 : t0.toInt = s0.toInt := hp.2
  have k9 : s0 = t0 := Int32.toInt_inj.mp hq1.symm
  refine ⟨_, _, (by unfold wX; exact (lx_worst_X l hl9 dC dI cI cJ cZ cF K q0 b1 b2 b3 b4 b5 b6 b7 b8 b9 b10 b11 b12 b13 b14 b15 b16 b17 b18 b19 b20 b21 b22 b23 b24 b25 b26 b27 b28 b29 (zz_fv b11 b12 b13 b14 b15 b17 b20 b21 b25 b26 s0) (svo so) s0 s1 s2 s3 s4 s5 s6 s7 s8 s9 s10 s11 s12 s13 s14 s15 s16 s17 s18 s19 s20 s21 s22 s23 s24 s25 s26 s27 s28 s29 s30 s31 s32 p1 p2 p3 cv rv _ hm).frame (wSo cI so)), ?_, ?_⟩
  · rintro r w ⟨w1, ⟨v, ⟨h1, h2, rfl⟩, rfl⟩, rfl⟩
    exact zz_nemp hq0 (by decide) h1
  · rintro E w ⟨w1, ⟨rfl, h2, v, rfl, rfl⟩, rfl⟩
    exact ⟨List.mem_singleton.mp hq0, (t0, s1, s2, s3, s4, s5, s6, s7, s8, s9, s10, s11, s12, s13, s14, s15, s16, s17, s18, s19, s20, s21, s22, s23, s24, s25, s26, s27, s28, s29, s30, s31, s32), ⟨show -1 ≤ t0.toInt by omega, show t0.toInt ≤ 9 by omega, show 0 ≤ s1.toInt by omega, show s1.toInt ≤ 1024 by omega, show 0 ≤ s2.toInt by omega, show s2.toInt ≤ 200 by omega, show 0 ≤ s10.toInt by omega, show s10.toInt ≤ 512 by omega, show 0 ≤ s18.toInt by omega, show s18.toInt ≤ 1024 by omega, show 0 ≤ s20.toInt by omega, show s20.toInt ≤ 32 by omega, show 0 ≤ s23.toInt by omega, show s23.toInt ≤ 1024 by omega, show 0 ≤ s24.toInt by omega, show s24.toInt ≤ 201 by omega, show 0 ≤ s29.toInt by omega, show s29.toInt ≤ 1024 by omega⟩, by rw [k9], by rw [k9]; rfl⟩
set_option maxHeartbeats 4000000 in
set_option maxRecDepth 100000 in
theorem ox_worstW (l : Launch) (hl9 : l.stackTraces = false) (dC : Nat → ClassId) (dI : Nat → Nat → Nat) (cI cJ cZ cF : ClassId) (K : Nat) (hK : 1099511627776 ≤ K) (q0 b1 b2 b3 b4 b5 b6 b7 b8 b9 b10 b11 b12 b13 b14 b15 b16 b17 b18 b19 b20 b21 b22 b23 b24 b25 b26 b27 b28 b29 : Nat) (u : SX) (hI : IX u) (p1 : Int32) (p2 : Int32) (p3 : Int32) (hb : 0 ≤ p1.toInt ∧ p1.toInt ≤ 3 ∧ 1 ≤ p2.toInt ∧ p2.toInt ≤ 4 ∧ 1 ≤ p3.toInt ∧ p3.toInt ≤ 8 ∧ p2.toInt ≤ p3.toInt) : ∃ (Rn : Int32 → va_W → Prop) (Rx : String → va_W → Prop), zz_CXi l yX11_worst wsX11_worst rm_X11_worst_W dC dI cI cJ cZ cF q0 (wX cI cF q0 b1 b2 b3 b4 b5 b6 b7 b8 b9 b10 b11 b12 b13 b14 b15 b16 b17 b18 b19 b20 b21 b22 b23 b24 b25 b26 b27 b28 b29 u (none : SO)) [.int p1, .int p2, .int p3] 6 52809 Rn Rx ∧ (∀ r w, Rn r w → ∃ (u1 : SX) (d : Nat × Nat × Nat × Nat × Nat × Nat) (z : SS), IX u1 ∧ IS z ∧ u1 = u ∧ w = wX cI cF q0 b1 b2 b3 b4 b5 b6 b7 b8 b9 b10 b11 b12 b13 b14 b15 b16 b17 b18 b19 b20 b21 b22 b23 b24 b25 b26 b27 b28 b29 u1 (some (d, z))) ∧ (∀ E w, Rx E w → False) := by
  obtain ⟨s0, s1, s2, s3, s4, s5, s6, s7, s8, s9, s10, s11, s12, s13, s14, s15, s16, s17, s18, s19, s20, s21, s22, s23, s24, s25, s26, s27, s28, s29, s30, s31, s32⟩ := u
  have i0a : -1 ≤ s0.toInt := hI.1
  have i0b : s0.toInt ≤ 9 := hI.2.1
  have i1a : 0 ≤ s1.toInt := hI.2.2.1
  have i1b : s1.toInt ≤ 1024 := hI.2.2.2.1
  have i2a : 0 ≤ s2.toInt := hI.2.2.2.2.1
  have i2b : s2.toInt ≤ 200 := hI.2.2.2.2.2.1
  have i10a : 0 ≤ s10.toInt := hI.2.2.2.2.2.2.1
  have i10b : s10.toInt ≤ 512 := hI.2.2.2.2.2.2.2.1
  have i18a : 0 ≤ s18.toInt := hI.2.2.2.2.2.2.2.2.1
  have i18b : s18.toInt ≤ 1024 := hI.2.2.2.2.2.2.2.2.2.1
  have i20a : 0 ≤ s20.toInt := hI.2.2.2.2.2.2.2.2.2.2.1
  have i20b : s20.toInt ≤ 32 := hI.2.2.2.2.2.2.2.2.2.2.2.1
  have i23a : 0 ≤ s23.toInt := hI.2.2.2.2.2.2.2.2.2.2.2.2.1
  have i23b : s23.toInt ≤ 1024 := hI.2.2.2.2.2.2.2.2.2.2.2.2.2.1
  have i24a : 0 ≤ s24.toInt := hI.2.2.2.2.2.2.2.2.2.2.2.2.2.2.1
  have i24b : s24.toInt ≤ 201 := hI.2.2.2.2.2.2.2.2.2.2.2.2.2.2.2.1
  have i29a : 0 ≤ s29.toInt := hI.2.2.2.2.2.2.2.2.2.2.2.2.2.2.2.2.1
  have i29b : s29.toInt ≤ 1024 := hI.2.2.2.2.2.2.2.2.2.2.2.2.2.2.2.2.2
  obtain ⟨⟨cv, rv, t0, t1, t2, t3, t4, t5, t6, t7, t8, t9, t10, t11, t12⟩, hm, hp⟩ := s_X11_worst_W K hK p1 p2 p3 s0 hb.1 hb.2.1 hb.2.2.1 hb.2.2.2.1 hb.2.2.2.2.1 hb.2.2.2.2.2.1 hb.2.2.2.2.2.2
  have hq0 : cv ∈ ([""] : List String) := hp.1
  have hq1 : t0.toInt = s0.toInt := hp.2.1
  have k9 : s0 = t0 := Int32.toInt_inj.mp hq1.symm
  have hz : IS (t1, t2, t3, t4, t5, t6, t7, t8, t9, t10, t11, t12) := hp.2.2
  refine ⟨_, _, (by rw [show wX cI cF q0 b1 b2 b3 b4 b5 b6 b7 b8 b9 b10 b11 b12 b13 b14 b15 b16 b17 b18 b19 b20 b21 b22 b23 b24 b25 b26 b27 b28 b29 (s0, s1, s2, s3, s4, s5, s6, s7, s8, s9, s10, s11, s12, s13, s14, s15, s16, s17, s18, s19, s20, s21, s22, s23, s24, s25, s26, s27, s28, s29, s30, s31, s32) none = wC cI cF q0 b1 b2 b3 b4 b5 b6 b7 b8 b9 b10 b11 b12 b13 b14 b15 b16 b17 b18 b19 b20 b21 b22 b23 b24 b25 b26 b27 b28 b29 (zz_fv b11 b12 b13 b14 b15 b17 b20 b21 b25 b26 s0) .null (s0, s1, s2, s3, s4, s5, s6, s7, s8, s9, s10, s11, s12, s13, s14, s15, s16, s17, s18, s19, s20, s21, s22, s23, s24, s25, s26, s27, s28, s29, s30, s31, s32) from List.append_nil _]; exact lx_worst_W l hl9 dC dI cI cJ cZ cF K q0 b1 b2 b3 b4 b5 b6 b7 b8 b9 b10 b11 b12 b13 b14 b15 b16 b17 b18 b19 b20 b21 b22 b23 b24 b25 b26 b27 b28 b29 (zz_fv b11 b12 b13 b14 b15 b17 b20 b21 b25 b26 s0) s0 s1 s2 s3 s4 s5 s6 s7 s8 s9 s10 s11 s12 s13 s14 s15 s16 s17 s18 s19 s20 s21 s22 s23 s24 s25 s26 s27 s28 s29 s30 s31 s32 p1 p2 p3 cv rv _ hm), ?_, ?_⟩
  · rintro r w ⟨⟨v, b0, b1, b2, b3, b4, b5⟩, ⟨h1, h2, rfl⟩, rfl⟩
    exact ⟨(t0, s1, s2, s3, s4, s5, s6, s7, s8, s9, s10, s11, s12, s13, s14, s15, s16, s17, s18, s19, s20, s21, s22, s23, s24, s25, s26, s27, s28, s29, s30, s31, s32), (b0, b1, b2, b3, b4, b5), (t1, t2, t3, t4, t5, t6, t7, t8, t9, t10, t11, t12), ⟨show -1 ≤ t0.toInt by omega, show t0.toInt ≤ 9 by omega, show 0 ≤ s1.toInt by omega, show s1.toInt ≤ 1024 by omega, show 0 ≤ s2.toInt by omega, show s2.toInt ≤ 200 by omega, show 0 ≤ s10.toInt by omega, show s10.toInt ≤ 512 by omega, show 0 ≤ s18.toInt by omega, show s18.toInt ≤ 1024 by omega, show 0 ≤ s20.toInt by omega, show s20.toInt ≤ 32 by omega, show 0 ≤ s23.toInt by omega, show s23.toInt ≤ 1024 by omega, show 0 ≤ s24.toInt by omega, show s24.toInt ≤ 201 by omega, show 0 ≤ s29.toInt by omega, show s29.toInt ≤ 1024 by omega⟩, hz, by rw [k9], by rw [k9]; rfl⟩
  · rintro E w ⟨rfl, h2, -⟩
    exact h2 (List.mem_singleton.mp hq0)
set_option maxHeartbeats 4000000 in
set_option maxRecDepth 100000 in
theorem ox_worstS (l : Launch) (hl9 : l.stackTraces = false) (dC : Nat → ClassId) (dI : Nat → Nat → Nat) (cI cJ cZ cF : ClassId) (K : Nat) (hK : 1099511627776 ≤ K) (q0 b1 b2 b3 b4 b5 b6 b7 b8 b9 b10 b11 b12 b13 b14 b15 b16 b17 b18 b19 b20 b21 b22 b23 b24 b25 b26 b27 b28 b29 : Nat) (u : SX) (hI : IX u) (p1 : Int32) (p2 : Int32) (p3 : Int32) (d : Nat × Nat × Nat × Nat × Nat × Nat) (z : SS) (hz : IS z) : ∃ (Rn : Int32 → va_W → Prop) (Rx : String → va_W → Prop), zz_CXi l yX11_worst wsX11_worst rm_X11_worst_S dC dI cI cJ cZ cF q0 (wX cI cF q0 b1 b2 b3 b4 b5 b6 b7 b8 b9 b10 b11 b12 b13 b14 b15 b16 b17 b18 b19 b20 b21 b22 b23 b24 b25 b26 b27 b28 b29 u (some (d, z))) [.int p1, .int p2, .int p3] 1 6 Rn Rx ∧ (∀ r w, Rn r w → ∃ (u1 : SX) (z1 : SS), IX u1 ∧ IS z1 ∧ u1 = u ∧ w = wX cI cF q0 b1 b2 b3 b4 b5 b6 b7 b8 b9 b10 b11 b12 b13 b14 b15 b16 b17 b18 b19 b20 b21 b22 b23 b24 b25 b26 b27 b28 b29 u1 (some (d, z1))) ∧ (∀ E w, Rx E w → E = "java/lang/IllegalArgumentException" ∧ ∃ (u1 : SX) (z1 : SS), IX u1 ∧ IS z1 ∧ u1 = u ∧ w = wX cI cF q0 b1 b2 b3 b4 b5 b6 b7 b8 b9 b10 b11 b12 b13 b14 b15 b16 b17 b18 b19 b20 b21 b22 b23 b24 b25 b26 b27 b28 b29 u1 (some (d, z1))) := by
  obtain ⟨s0, s1, s2, s3, s4, s5, s6, s7, s8, s9, s10, s11, s12, s13, s14, s15, s16, s17, s18, s19, s20, s21, s22, s23, s24, s25, s26, s27, s28, s29, s30, s31, s32⟩ := u
  have i0a : -1 ≤ s0.toInt := hI.1
  have i0b : s0.toInt ≤ 9 := hI.2.1
  have i1a : 0 ≤ s1.toInt := hI.2.2.1
  have i1b : s1.toInt ≤ 1024 := hI.2.2.2.1
  have i2a : 0 ≤ s2.toInt := hI.2.2.2.2.1
  have i2b : s2.toInt ≤ 200 := hI.2.2.2.2.2.1
  have i10a : 0 ≤ s10.toInt := hI.2.2.2.2.2.2.1
  have i10b : s10.toInt ≤ 512 := hI.2.2.2.2.2.2.2.1
  have i18a : 0 ≤ s18.toInt := hI.2.2.2.2.2.2.2.2.1
  have i18b : s18.toInt ≤ 1024 := hI.2.2.2.2.2.2.2.2.2.1
  have i20a : 0 ≤ s20.toInt := hI.2.2.2.2.2.2.2.2.2.2.1
  have i20b : s20.toInt ≤ 32 := hI.2.2.2.2.2.2.2.2.2.2.2.1
  have i23a : 0 ≤ s23.toInt := hI.2.2.2.2.2.2.2.2.2.2.2.2.1
  have i23b : s23.toInt ≤ 1024 := hI.2.2.2.2.2.2.2.2.2.2.2.2.2.1
  have i24a : 0 ≤ s24.toInt := hI.2.2.2.2.2.2.2.2.2.2.2.2.2.2.1
  have i24b : s24.toInt ≤ 201 := hI.2.2.2.2.2.2.2.2.2.2.2.2.2.2.2.1
  have i29a : 0 ≤ s29.toInt := hI.2.2.2.2.2.2.2.2.2.2.2.2.2.2.2.2.1
  have i29b : s29.toInt ≤ 1024 := hI.2.2.2.2.2.2.2.2.2.2.2.2.2.2.2.2.2
  obtain ⟨d0, d1, d2, d3, d4, d5⟩ := d
  obtain ⟨z0, z1, z2, z3, z4, z5, z6, z7, z8, z9, z10, z11⟩ := z
  have j0 : 0 ≤ z1.toInt := hz.1
  have j1 : z1.toInt ≤ 20000 := hz.2.1
  have j2 : 0 ≤ z8.toInt := hz.2.2.1
  have j3 : z8.toInt ≤ 14 := hz.2.2.2
  obtain ⟨⟨cv, rv, t0, t1, t2, t3, t4, t5, t6, t7, t8, t9, t10, t11, t12⟩, hm, hp⟩ := s_X11_worst_S K hK 20000 32768 14 14 p1 p2 p3 s0 z0 z1 z2 z3 z4 z5 z6 z7 z8 z9 z10 z11 rfl rfl rfl rfl j0 j1 j2 j3
  have hq0 : cv ∈ (["", "java/lang/IllegalArgumentException"] : List String) := hp.1
  have hq1 : t0.toInt = s0.toInt := hp.2.1
  have k9 : s0 = t0 := Int32.toInt_inj.mp hq1.symm
  have hz1 : IS (t1, t2, t3, t4, t5, t6, t7, t8, t9, t10, t11, t12) := hp.2.2
  refine ⟨_, _, (by unfold wX; exact lx_worst_S l hl9 dC dI cI cJ cZ cF K q0 b1 b2 b3 b4 b5 b6 b7 b8 b9 b10 b11 b12 b13 b14 b15 b16 b17 b18 b19 b20 b21 b22 b23 b24 b25 b26 b27 b28 b29 d0 d1 d2 d3 d4 d5 (zz_fv b11 b12 b13 b14 b15 b17 b20 b21 b25 b26 s0) s0 s1 s2 s3 s4 s5 s6 s7 s8 s9 s10 s11 s12 s13 s14 s15 s16 s17 s18 s19 s20 s21 s22 s23 s24 s25 s26 s27 s28 s29 s30 s31 s32 z0 z1 z2 z3 z4 z5 z6 z7 z8 z9 z10 z11 p1 p2 p3 cv rv _ hm), ?_, ?_⟩
  · rintro r w ⟨v, ⟨h1, h2, rfl⟩, rfl⟩
    exact ⟨(t0, s1, s2, s3, s4, s5, s6, s7, s8, s9, s10, s11, s12, s13, s14, s15, s16, s17, s18, s19, s20, s21, s22, s23, s24, s25, s26, s27, s28, s29, s30, s31, s32), (t1, t2, t3, t4, t5, t6, t7, t8, t9, t10, t11, t12), ⟨show -1 ≤ t0.toInt by omega, show t0.toInt ≤ 9 by omega, show 0 ≤ s1.toInt by omega, show s1.toInt ≤ 1024 by omega, show 0 ≤ s2.toInt by omega, show s2.toInt ≤ 200 by omega, show 0 ≤ s10.toInt by omega, show s10.toInt ≤ 512 by omega, show 0 ≤ s18.toInt by omega, show s18.toInt ≤ 1024 by omega, show 0 ≤ s20.toInt by omega, show s20.toInt ≤ 32 by omega, show 0 ≤ s23.toInt by omega, show s23.toInt ≤ 1024 by omega, show 0 ≤ s24.toInt by omega, show s24.toInt ≤ 201 by omega, show 0 ≤ s29.toInt by omega, show s29.toInt ≤ 1024 by omega⟩, hz1, by rw [k9], by rw [k9]; rfl⟩
  · rintro E w ⟨rfl, h2, v, rfl, rfl⟩
    exact ⟨zz_d1 hq0 h2, (t0, s1, s2, s3, s4, s5, s6, s7, s8, s9, s10, s11, s12, s13, s14, s15, s16, s17, s18, s19, s20, s21, s22, s23, s24, s25, s26, s27, s28, s29, s30, s31, s32), (t1, t2, t3, t4, t5, t6, t7, t8, t9, t10, t11, t12), ⟨show -1 ≤ t0.toInt by omega, show t0.toInt ≤ 9 by omega, show 0 ≤ s1.toInt by omega, show s1.toInt ≤ 1024 by omega, show 0 ≤ s2.toInt by omega, show s2.toInt ≤ 200 by omega, show 0 ≤ s10.toInt by omega, show s10.toInt ≤ 512 by omega, show 0 ≤ s18.toInt by omega, show s18.toInt ≤ 1024 by omega, show 0 ≤ s20.toInt by omega, show s20.toInt ≤ 32 by omega, show 0 ≤ s23.toInt by omega, show s23.toInt ≤ 1024 by omega, show 0 ≤ s24.toInt by omega, show s24.toInt ≤ 201 by omega, show 0 ≤ s29.toInt by omega, show s29.toInt ≤ 1024 by omega⟩, hz1, by rw [k9], by rw [k9]; rfl⟩
set_option maxHeartbeats 4000000 in
set_option maxRecDepth 100000 in
theorem ox_countN (l : Launch) (hl9 : l.stackTraces = false) (dC : Nat → ClassId) (dI : Nat → Nat → Nat) (cI cJ cZ cF : ClassId) (K : Nat) (hK : 1099511627776 ≤ K) (q0 b1 b2 b3 b4 b5 b6 b7 b8 b9 b10 b11 b12 b13 b14 b15 b16 b17 b18 b19 b20 b21 b22 b23 b24 b25 b26 b27 b28 b29 : Nat) (u : SX) (hI : IX u) (p1 : Int32) (h12 : p1.toInt = 12) : ∃ (Rn : Int32 → va_W → Prop) (Rx : String → va_W → Prop), zz_CXi l yX11_count wsX11_count rm_X11_count dC dI cI cJ cZ cF q0 (wX cI cF q0 b1 b2 b3 b4 b5 b6 b7 b8 b9 b10 b11 b12 b13 b14 b15 b16 b17 b18 b19 b20 b21 b22 b23 b24 b25 b26 b27 b28 b29 u (none : SO)) [.int p1] 1 6 Rn Rx ∧ (∀ r w, Rn r w → ∃ u1 : SX, IX u1 ∧ u1 = u ∧ w = wX cI cF q0 b1 b2 b3 b4 b5 b6 b7 b8 b9 b10 b11 b12 b13 b14 b15 b16 b17 b18 b19 b20 b21 b22 b23 b24 b25 b26 b27 b28 b29 u1 none) ∧ (∀ E w, Rx E w → E = "java/lang/IllegalArgumentException" ∧ ∃ u1 : SX, IX u1 ∧ u1 = u ∧ w = wX cI cF q0 b1 b2 b3 b4 b5 b6 b7 b8 b9 b10 b11 b12 b13 b14 b15 b16 b17 b18 b19 b20 b21 b22 b23 b24 b25 b26 b27 b28 b29 u1 none) := by
  obtain ⟨s0, s1, s2, s3, s4, s5, s6, s7, s8, s9, s10, s11, s12, s13, s14, s15, s16, s17, s18, s19, s20, s21, s22, s23, s24, s25, s26, s27, s28, s29, s30, s31, s32⟩ := u
  have i0a : -1 ≤ s0.toInt := hI.1
  have i0b : s0.toInt ≤ 9 := hI.2.1
  have i1a : 0 ≤ s1.toInt := hI.2.2.1
  have i1b : s1.toInt ≤ 1024 := hI.2.2.2.1
  have i2a : 0 ≤ s2.toInt := hI.2.2.2.2.1
  have i2b : s2.toInt ≤ 200 := hI.2.2.2.2.2.1
  have i10a : 0 ≤ s10.toInt := hI.2.2.2.2.2.2.1
  have i10b : s10.toInt ≤ 512 := hI.2.2.2.2.2.2.2.1
  have i18a : 0 ≤ s18.toInt := hI.2.2.2.2.2.2.2.2.1
  have i18b : s18.toInt ≤ 1024 := hI.2.2.2.2.2.2.2.2.2.1
  have i20a : 0 ≤ s20.toInt := hI.2.2.2.2.2.2.2.2.2.2.1
  have i20b : s20.toInt ≤ 32 := hI.2.2.2.2.2.2.2.2.2.2.2.1
  have i23a : 0 ≤ s23.toInt := hI.2.2.2.2.2.2.2.2.2.2.2.2.1
  have i23b : s23.toInt ≤ 1024 := hI.2.2.2.2.2.2.2.2.2.2.2.2.2.1
  have i24a : 0 ≤ s24.toInt := hI.2.2.2.2.2.2.2.2.2.2.2.2.2.2.1
  have i24b : s24.toInt ≤ 201 := hI.2.2.2.2.2.2.2.2.2.2.2.2.2.2.2.1
  have i29a : 0 ≤ s29.toInt := hI.2.2.2.2.2.2.2.2.2.2.2.2.2.2.2.2.1
  have i29b : s29.toInt ≤ 1024 := hI.2.2.2.2.2.2.2.2.2.2.2.2.2.2.2.2.2
  obtain ⟨⟨cv, rv, t0⟩, hm, hp⟩ := s_X11_count_SN K hK p1 s0 h12
  have hq0 : cv ∈ (["", "java/lang/IllegalArgumentException"] : List String) := hp.1
  have hq1 : t0.toInt = s0.toInt := hp.2
  have k9 : s0 = t0 := Int32.toInt_inj.mp hq1.symm
  refine ⟨_, _, (by rw [show wX cI cF q0 b1 b2 b3 b4 b5 b6 b7 b8 b9 b10 b11 b12 b13 b14 b15 b16 b17 b18 b19 b20 b21 b22 b23 b24 b25 b26 b27 b28 b29 (s0, s1, s2, s3, s4, s5, s6, s7, s8, s9, s10, s11, s12, s13, s14, s15, s16, s17, s18, s19, s20, s21, s22, s23, s24, s25, s26, s27, s28, s29, s30, s31, s32) none = wC cI cF q0 b1 b2 b3 b4 b5 b6 b7 b8 b9 b10 b11 b12 b13 b14 b15 b16 b17 b18 b19 b20 b21 b22 b23 b24 b25 b26 b27 b28 b29 (zz_fv b11 b12 b13 b14 b15 b17 b20 b21 b25 b26 s0) .null (s0, s1, s2, s3, s4, s5, s6, s7, s8, s9, s10, s11, s12, s13, s14, s15, s16, s17, s18, s19, s20, s21, s22, s23, s24, s25, s26, s27, s28, s29, s30, s31, s32) from List.append_nil _]; exact lx_count_SN l hl9 dC dI cI cJ cZ cF K q0 b1 b2 b3 b4 b5 b6 b7 b8 b9 b10 b11 b12 b13 b14 b15 b16 b17 b18 b19 b20 b21 b22 b23 b24 b25 b26 b27 b28 b29 (zz_fv b11 b12 b13 b14 b15 b17 b20 b21 b25 b26 s0) s0 s1 s2 s3 s4 s5 s6 s7 s8 s9 s10 s11 s12 s13 s14 s15 s16 s17 s18 s19 s20 s21 s22 s23 s24 s25 s26 s27 s28 s29 s30 s31 s32 p1 cv rv _ hm), ?_, ?_⟩
  · rintro r w ⟨v, ⟨h1, h2, rfl⟩, rfl⟩
    exact ⟨(t0, s1, s2, s3, s4, s5, s6, s7, s8, s9, s10, s11, s12, s13, s14, s15, s16, s17, s18, s19, s20, s21, s22, s23, s24, s25, s26, s27, s28, s29, s30, s31, s32), ⟨show -1 ≤ t0.toInt by omega, show t0.toInt ≤ 9 by omega, show 0 ≤ s1.toInt by omega, show s1.toInt ≤ 1024 by omega, show 0 ≤ s2.toInt by omega, show s2.toInt ≤ 200 by omega, show 0 ≤ s10.toInt by omega, show s10.toInt ≤ 512 by omega, show 0 ≤ s18.toInt by omega, show s18.toInt ≤ 1024 by omega, show 0 ≤ s20.toInt by omega, show s20.toInt ≤ 32 by omega, show 0 ≤ s23.toInt by omega, show s23.toInt ≤ 1024 by omega, show 0 ≤ s24.toInt by omega, show s24.toInt ≤ 201 by omega, show 0 ≤ s29.toInt by omega, show s29.toInt ≤ 1024 by omega⟩, by rw [k9], by rw [k9]; exact (List.append_nil _).symm⟩
  · rintro E w ⟨rfl, h2, v, rfl, rfl⟩
    exact ⟨zz_d1 hq0 h2, (t0, s1, s2, s3, s4, s5, s6, s7, s8, s9, s10, s11, s12, s13, s14, s15, s16, s17, s18, s19, s20, s21, s22, s23, s24, s25, s26, s27, s28, s29, s30, s31, s32), ⟨show -1 ≤ t0.toInt by omega, show t0.toInt ≤ 9 by omega, show 0 ≤ s1.toInt by omega, show s1.toInt ≤ 1024 by omega, show 0 ≤ s2.toInt by omega, show s2.toInt ≤ 200 by omega, show 0 ≤ s10.toInt by omega, show s10.toInt ≤ 512 by omega, show 0 ≤ s18.toInt by omega, show s18.toInt ≤ 1024 by omega, show 0 ≤ s20.toInt by omega, show s20.toInt ≤ 32 by omega, show 0 ≤ s23.toInt by omega, show s23.toInt ≤ 1024 by omega, show 0 ≤ s24.toInt by omega, show s24.toInt ≤ 201 by omega, show 0 ≤ s29.toInt by omega, show s29.toInt ≤ 1024 by omega⟩, by rw [k9], by rw [k9]; exact (List.append_nil _).symm⟩
set_option maxHeartbeats 4000000 in
set_option maxRecDepth 100000 in
theorem ox_countS (l : Launch) (hl9 : l.stackTraces = false) (dC : Nat → ClassId) (dI : Nat → Nat → Nat) (cI cJ cZ cF : ClassId) (K : Nat) (hK : 1099511627776 ≤ K) (q0 b1 b2 b3 b4 b5 b6 b7 b8 b9 b10 b11 b12 b13 b14 b15 b16 b17 b18 b19 b20 b21 b22 b23 b24 b25 b26 b27 b28 b29 : Nat) (u : SX) (hI : IX u) (p1 : Int32) (d : Nat × Nat × Nat × Nat × Nat × Nat) (z : SS) (hz : IS z) (h12 : p1.toInt = 12) : ∃ (Rn : Int32 → va_W → Prop) (Rx : String → va_W → Prop), zz_CXi l yX11_count wsX11_count rm_X11_count dC dI cI cJ cZ cF q0 (wX cI cF q0 b1 b2 b3 b4 b5 b6 b7 b8 b9 b10 b11 b12 b13 b14 b15 b16 b17 b18 b19 b20 b21 b22 b23 b24 b25 b26 b27 b28 b29 u (some (d, z))) [.int p1] 1 6 Rn Rx ∧ (∀ r w, Rn r w → ∃ (u1 : SX) (z1 : SS), IX u1 ∧ IS z1 ∧ u1 = u ∧ w = wX cI cF q0 b1 b2 b3 b4 b5 b6 b7 b8 b9 b10 b11 b12 b13 b14 b15 b16 b17 b18 b19 b20 b21 b22 b23 b24 b25 b26 b27 b28 b29 u1 (some (d, z1))) ∧ (∀ E w, Rx E w → E = "java/lang/IllegalArgumentException" ∧ ∃ (u1 : SX) (z1 : SS), IX u1 ∧ IS z1 ∧ u1 = u ∧ w = wX cI cF q0 b1 b2 b3 b4 b5 b6 b7 b8 b9 b10 b11 b12 b13 b14 b15 b16 b17 b18 b19 b20 b21 b22 b23 b24 b25 b26 b27 b28 b29 u1 (some (d, z1))) := by
  obtain ⟨s0, s1, s2, s3, s4, s5, s6, s7, s8, s9, s10, s11, s12, s13, s14, s15, s16, s17, s18, s19, s20, s21, s22, s23, s24, s25, s26, s27, s28, s29, s30, s31, s32⟩ := u
  have i0a : -1 ≤ s0.toInt := hI.1
  have i0b : s0.toInt ≤ 9 := hI.2.1
  have i1a : 0 ≤ s1.toInt := hI.2.2.1
  have i1b : s1.toInt ≤ 1024 := hI.2.2.2.1
  have i2a : 0 ≤ s2.toInt := hI.2.2.2.2.1
  have i2b : s2.toInt ≤ 200 := hI.2.2.2.2.2.1
  have i10a : 0 ≤ s10.toInt := hI.2.2.2.2.2.2.1
  have i10b : s10.toInt ≤ 512 := hI.2.2.2.2.2.2.2.1
  have i18a : 0 ≤ s18.toInt := hI.2.2.2.2.2.2.2.2.1
  have i18b : s18.toInt ≤ 1024 := hI.2.2.2.2.2.2.2.2.2.1
  have i20a : 0 ≤ s20.toInt := hI.2.2.2.2.2.2.2.2.2.2.1
  have i20b : s20.toInt ≤ 32 := hI.2.2.2.2.2.2.2.2.2.2.2.1
  have i23a : 0 ≤ s23.toInt := hI.2.2.2.2.2.2.2.2.2.2.2.2.1
  have i23b : s23.toInt ≤ 1024 := hI.2.2.2.2.2.2.2.2.2.2.2.2.2.1
  have i24a : 0 ≤ s24.toInt := hI.2.2.2.2.2.2.2.2.2.2.2.2.2.2.1
  have i24b : s24.toInt ≤ 201 := hI.2.2.2.2.2.2.2.2.2.2.2.2.2.2.2.1
  have i29a : 0 ≤ s29.toInt := hI.2.2.2.2.2.2.2.2.2.2.2.2.2.2.2.2.1
  have i29b : s29.toInt ≤ 1024 := hI.2.2.2.2.2.2.2.2.2.2.2.2.2.2.2.2.2
  obtain ⟨d0, d1, d2, d3, d4, d5⟩ := d
  obtain ⟨z0, z1, z2, z3, z4, z5, z6, z7, z8, z9, z10, z11⟩ := z
  have j0 : 0 ≤ z1.toInt := hz.1
  have j1 : z1.toInt ≤ 20000 := hz.2.1
  have j2 : 0 ≤ z8.toInt := hz.2.2.1
  have j3 : z8.toInt ≤ 14 := hz.2.2.2
  obtain ⟨⟨cv, rv, t0, t1, t2, t3, t4, t5, t6, t7, t8, t9, t10, t11, t12⟩, hm, hp⟩ := s_X11_count_SR K hK 20000 32768 14 14 p1 s0 z0 z1 z2 z3 z4 z5 z6 z7 z8 z9 z10 z11 rfl rfl rfl rfl j0 j1 j2 j3 h12
  have hq0 : cv ∈ (["", "java/lang/IllegalArgumentException"] : List String) := hp.1
  have hq1 : t0.toInt = s0.toInt := hp.2.1
  have k9 : s0 = t0 := Int32.toInt_inj.mp hq1.symm
  have hz1 : IS (t1, t2, t3, t4, t5, t6, t7, t8, t9, t10, t11, t12) := hp.2.2
  refine ⟨_, _, (by unfold wX; exact lx_count_SR l hl9 dC dI cI cJ cZ cF K q0 b1 b2 b3 b4 b5 b6 b7 b8 b9 b10 b11 b12 b13 b14 b15 b16 b17 b18 b19 b20 b21 b22 b23 b24 b25 b26 b27 b28 b29 d0 d1 d2 d3 d4 d5 (zz_fv b11 b12 b13 b14 b15 b17 b20 b21 b25 b26 s0) s0 s1 s2 s3 s4 s5 s6 s7 s8 s9 s10 s11 s12 s13 s14 s15 s16 s17 s18 s19 s20 s21 s22 s23 s24 s25 s26 s27 s28 s29 s30 s31 s32 z0 z1 z2 z3 z4 z5 z6 z7 z8 z9 z10 z11 p1 cv rv _ hm), ?_, ?_⟩
  · rintro r w ⟨v, ⟨h1, h2, rfl⟩, rfl⟩
    exact ⟨(t0, s1, s2, s3, s4, s5, s6, s7, s8, s9, s10, s11, s12, s13, s14, s15, s16, s17, s18, s19, s20, s21, s22, s23, s24, s25, s26, s27, s28, s29, s30, s31, s32), (t1, t2, t3, t4, t5, t6, t7, t8, t9, t10, t11, t12), ⟨show -1 ≤ t0.toInt by omega, show t0.toInt ≤ 9 by omega, show 0 ≤ s1.toInt by omega, show s1.toInt ≤ 1024 by omega, show 0 ≤ s2.toInt by omega, show s2.toInt ≤ 200 by omega, show 0 ≤ s10.toInt by omega, show s10.toInt ≤ 512 by omega, show 0 ≤ s18.toInt by omega, show s18.toInt ≤ 1024 by omega, show 0 ≤ s20.toInt by omega, show s20.toInt ≤ 32 by omega, show 0 ≤ s23.toInt by omega, show s23.toInt ≤ 1024 by omega, show 0 ≤ s24.toInt by omega, show s24.toInt ≤ 201 by omega, show 0 ≤ s29.toInt by omega, show s29.toInt ≤ 1024 by omega⟩, hz1, by rw [k9], by rw [k9]; rfl⟩
  · rintro E w ⟨rfl, h2, v, rfl, rfl⟩
    exact ⟨zz_d1 hq0 h2, (t0, s1, s2, s3, s4, s5, s6, s7, s8, s9, s10, s11, s12, s13, s14, s15, s16, s17, s18, s19, s20, s21, s22, s23, s24, s25, s26, s27, s28, s29, s30, s31, s32), (t1, t2, t3, t4, t5, t6, t7, t8, t9, t10, t11, t12), ⟨show -1 ≤ t0.toInt by omega, show t0.toInt ≤ 9 by omega, show 0 ≤ s1.toInt by omega, show s1.toInt ≤ 1024 by omega, show 0 ≤ s2.toInt by omega, show s2.toInt ≤ 200 by omega, show 0 ≤ s10.toInt by omega, show s10.toInt ≤ 512 by omega, show 0 ≤ s18.toInt by omega, show s18.toInt ≤ 1024 by omega, show 0 ≤ s20.toInt by omega, show s20.toInt ≤ 32 by omega, show 0 ≤ s23.toInt by omega, show s23.toInt ≤ 1024 by omega, show 0 ≤ s24.toInt by omega, show s24.toInt ≤ 201 by omega, show 0 ≤ s29.toInt by omega, show s29.toInt ≤ 1024 by omega⟩, hz1, by rw [k9], by rw [k9]; rfl⟩

set_option maxHeartbeats 4000000 in
set_option maxRecDepth 100000 in
theorem ox_about (l : Launch) (hl9 : l.stackTraces = false) (dC : Nat → ClassId) (dI : Nat → Nat → Nat) (cI cJ cZ cF : ClassId) (K : Nat) (hK : 1099511627776 ≤ K) (q0 b1 b2 b3 b4 b5 b6 b7 b8 b9 b10 b11 b12 b13 b14 b15 b16 b17 b18 b19 b20 b21 b22 b23 b24 b25 b26 b27 b28 b29 : Nat) (u : SX) (so : SO) (hI : IX u) (p1 : Int32) (p2 : Int32) : ∃ (Rn : Int32 → va_W → Prop) (Rx : String → va_W → Prop), zz_CXi l yX11_about wsX11_about rm_X11_about dC dI cI cJ cZ cF q0 (wX cI cF q0 b1 b2 b3 b4 b5 b6 b7 b8 b9 b10 b11 b12 b13 b14 b15 b16 b17 b18 b19 b20 b21 b22 b23 b24 b25 b26 b27 b28 b29 u so) [.int p1, .int p2] 2 12 Rn Rx ∧ (∀ r w, Rn r w → ∃ u1 : SX, IX u1 ∧ DX_about K p1 p2 u "" r u1 ∧ w = wX cI cF q0 b1 b2 b3 b4 b5 b6 b7 b8 b9 b10 b11 b12 b13 b14 b15 b16 b17 b18 b19 b20 b21 b22 b23 b24 b25 b26 b27 b28 b29 u1 so) ∧ (∀ E w, Rx E w → (E = "java/lang/IllegalArgumentException" ∨ E = "java/lang/IllegalStateException" ∨ E = "java/util/NoSuchElementException") ∧ ∃ (u1 : SX) (r9 : Int32), IX u1 ∧ DX_about K p1 p2 u E r9 u1 ∧ w = wX cI cF q0 b1 b2 b3 b4 b5 b6 b7 b8 b9 b10 b11 b12 b13 b14 b15 b16 b17 b18 b19 b20 b21 b22 b23 b24 b25 b26 b27 b28 b29 u1 so) := by
  obtain ⟨s0, s1, s2, s3, s4, s5, s6, s7, s8, s9, s10, s11, s12, s13, s14, s15, s16, s17, s18, s19, s20, s21, s22, s23, s24, s25, s26, s27, s28, s29, s30, s31, s32⟩ := u
  have i0a : -1 ≤ s0.toInt := hI.1
  have i0b : s0.toInt ≤ 9 := hI.2.1
  have i1a : 0 ≤ s1.toInt := hI.2.2.1
  have i1b : s1.toInt ≤ 1024 := hI.2.2.2.1
  have i2a : 0 ≤ s2.toInt := hI.2.2.2.2.1
  have i2b : s2.toInt ≤ 200 := hI.2.2.2.2.2.1
  have i10a : 0 ≤ s10.toInt := hI.2.2.2.2.2.2.1
  have i10b : s10.toInt ≤ 512 := hI.2.2.2.2.2.2.2.1
  have i18a : 0 ≤ s18.toInt := hI.2.2.2.2.2.2.2.2.1
  have i18b : s18.toInt ≤ 1024 := hI.2.2.2.2.2.2.2.2.2.1
  have i20a : 0 ≤ s20.toInt := hI.2.2.2.2.2.2.2.2.2.2.1
  have i20b : s20.toInt ≤ 32 := hI.2.2.2.2.2.2.2.2.2.2.2.1
  have i23a : 0 ≤ s23.toInt := hI.2.2.2.2.2.2.2.2.2.2.2.2.1
  have i23b : s23.toInt ≤ 1024 := hI.2.2.2.2.2.2.2.2.2.2.2.2.2.1
  have i24a : 0 ≤ s24.toInt := hI.2.2.2.2.2.2.2.2.2.2.2.2.2.2.1
  have i24b : s24.toInt ≤ 201 := hI.2.2.2.2.2.2.2.2.2.2.2.2.2.2.2.1
  have i29a : 0 ≤ s29.toInt := hI.2.2.2.2.2.2.2.2.2.2.2.2.2.2.2.2.1
  have i29b : s29.toInt ≤ 1024 := hI.2.2.2.2.2.2.2.2.2.2.2.2.2.2.2.2.2
  rcases zz_s0 i0a i0b with rfl | rfl | rfl | rfl | rfl | rfl | rfl | rfl | rfl | rfl | rfl
  · have l0 : (-1 : Int32).toInt = -1 := rfl
    obtain ⟨⟨cv, rv, t0, t1, t2, t3, t4, t5, t6, t7, t8, t9, t10, t11, t12, t13⟩, hm, hp⟩ := s_X11_about_N K hK 1024 200 200 200 200 512 512 p1 p2 ((-1 : Int32)) s1 s2 s3 s4 s5 s6 s7 s8 s9 s10 s11 s12 s13 rfl rfl rfl rfl rfl rfl rfl (by omega) (by omega) (by omega) (by omega) (by omega) (by omega)
    have hq0 : cv ∈ (["", "java/lang/IllegalArgumentException", "java/lang/IllegalStateException", "java/util/NoSuchElementException"] : List String) := hp.1
    have hq1 : t0.toInt = ((-1 : Int32)).toInt := hp.2.1
    have hq2 : 0 ≤ t1.toInt := hp.2.2.1
    have hq3 : t1.toInt ≤ 1024 := hp.2.2.2.1
    have hq4 : 0 ≤ t2.toInt := hp.2.2.2.2.1
    have hq5 : t2.toInt ≤ 200 := hp.2.2.2.2.2.1
    have hq6 : 0 ≤ t10.toInt := hp.2.2.2.2.2.2.1
    have hq7 : t10.toInt ≤ 512 := hp.2.2.2.2.2.2.2
    obtain rfl : t0 = (-1 : Int32) := Int32.toInt_inj.mp hq1
    refine ⟨_, _, (by rw [wX_N]; exact (lx_about_N l hl9 dC dI cI cJ cZ cF K q0 b1 b2 b3 b4 b5 b6 b7 b8 b9 b10 b11 b12 b13 b14 b15 b16 b17 b18 b19 b20 b21 b22 b23 b24 b25 b26 b27 b28 b29 (svo so) (-1 : Int32) s1 s2 s3 s4 s5 s6 s7 s8 s9 s10 s11 s12 s13 s14 s15 s16 s17 s18 s19 s20 s21 s22 s23 s24 s25 s26 s27 s28 s29 s30 s31 s32 p1 p2 cv rv _ hm).frame (wSo cI so)), ?_, ?_⟩
    · rintro r w ⟨w1, ⟨v, ⟨h1, h2, rfl⟩, rfl⟩, rfl⟩
      exact ⟨((-1 : Int32), t1, t2, t3, t4, t5, t6, t7, t8, t9, t10, t11, t12, t13, s14, s15, s16, s17, s18, s19, s20, s21, s22, s23, s24, s25, s26, s27, s28, s29, s30, s31, s32), ⟨by omega, by omega, by omega, by omega, by omega, by omega, by omega, by omega, by omega, by omega, by omega, by omega, by omega, by omega, by omega, by omega, by omega, by omega⟩, (by subst h1; subst h2; exact ⟨rfl, fun h9 => absurd (show (-1 : Int32) = 7 from h9) (by decide)⟩), (wX_N cI cF q0 b1 b2 b3 b4 b5 b6 b7 b8 b9 b10 b11 b12 b13 b14 b15 b16 b17 b18 b19 b20 b21 b22 b23 b24 b25 b26 b27 b28 b29 _ so).symm⟩
    · rintro E w ⟨w1, ⟨rfl, h2, v, rfl, rfl⟩, rfl⟩
      exact ⟨zz_d3 hq0 h2, ((-1 : Int32), t1, t2, t3, t4, t5, t6, t7, t8, t9, t10, t11, t12, t13, s14, s15, s16, s17, s18, s19, s20, s21, s22, s23, s24, s25, s26, s27, s28, s29, s30, s31, s32), rv, ⟨by omega, by omega, by omega, by omega, by omega, by omega, by omega, by omega, by omega, by omega, by omega, by omega, by omega, by omega, by omega, by omega, by omega, by omega⟩, ⟨rfl, fun h9 => absurd (show (-1 : Int32) = 7 from h9) (by decide)⟩, (wX_N cI cF q0 b1 b2 b3 b4 b5 b6 b7 b8 b9 b10 b11 b12 b13 b14 b15 b16 b17 b18 b19 b20 b21 b22 b23 b24 b25 b26 b27 b28 b29 _ so).symm⟩
  · have l0 : (0 : Int32).toInt = 0 := rfl
    obtain ⟨⟨cv, rv, t0, t1, t2, t3, t4, t5, t6, t7, t8, t9, t10, t11, t12, t13, t14⟩, hm, hp⟩ := s_X11_about_X0 K hK 1024 200 200 200 200 512 512 ((0 : Int32)) p1 p2 ((0 : Int32)) s1 s2 s3 s4 s5 s6 s7 s8 s9 s10 s11 s12 s13 s14 rfl rfl rfl rfl rfl rfl rfl (by omega) (by omega) (by omega) (by omega) (by omega) (by omega)
    have hq0 : cv ∈ (["", "java/lang/IllegalArgumentException", "java/lang/IllegalStateException", "java/util/NoSuchElementException"] : List String) := hp.1
    have hq1 : t0.toInt = ((0 : Int32)).toInt := hp.2.1
    have hq2 : 0 ≤ t1.toInt := hp.2.2.1
    have hq3 : t1.toInt ≤ 1024 := hp.2.2.2.1
    have hq4 : 0 ≤ t2.toInt := hp.2.2.2.2.1
    have hq5 : t2.toInt ≤ 200 := hp.2.2.2.2.2.1
    have hq6 : 0 ≤ t10.toInt := hp.2.2.2.2.2.2.1
    have hq7 : t10.toInt ≤ 512 := hp.2.2.2.2.2.2.2
    obtain rfl : t0 = (0 : Int32) := Int32.toInt_inj.mp hq1
    refine ⟨_, _, (by rw [wX_0]; exact (lx_about_0 l hl9 dC dI cI cJ cZ cF K q0 b1 b2 b3 b4 b5 b6 b7 b8 b9 b10 b11 b12 b13 b14 b15 b16 b17 b18 b19 b20 b21 b22 b23 b24 b25 b26 b27 b28 b29 (svo so) (0 : Int32) s1 s2 s3 s4 s5 s6 s7 s8 s9 s10 s11 s12 s13 s14 s15 s16 s17 s18 s19 s20 s21 s22 s23 s24 s25 s26 s27 s28 s29 s30 s31 s32 p1 p2 cv rv _ hm).frame (wSo cI so)), ?_, ?_⟩
    · rintro r w ⟨w1, ⟨v, ⟨h1, h2, rfl⟩, rfl⟩, rfl⟩
      exact ⟨((0 : Int32), t1, t2, t3, t4, t5, t6, t7, t8, t9, t10, t11, t12, t13, t14, s15, s16, s17, s18, s19, s20, s21, s22, s23, s24, s25, s26, s27, s28, s29, s30, s31, s32), ⟨by omega, by omega, by omega, by omega, by omega, by omega, by omega, by omega, by omega, by omega, by omega, by omega, by omega, by omega, by omega, by omega, by omega, by omega⟩, (by subst h1; subst h2; exact ⟨rfl, fun h9 => absurd (show (0 : Int32) = 7 from h9) (by decide)⟩), (wX_0 cI cF q0 b1 b2 b3 b4 b5 b6 b7 b8 b9 b10 b11 b12 b13 b14 b15 b16 b17 b18 b19 b20 b21 b22 b23 b24 b25 b26 b27 b28 b29 _ so).symm⟩
    · rintro E w ⟨w1, ⟨rfl, h2, v, rfl, rfl⟩, rfl⟩
      exact ⟨zz_d3 hq0 h2, ((0 : Int32), t1, t2, t3, t4, t5, t6, t7, t8, t9, t10, t11, t12, t13, t14, s15, s16, s17, s18, s19, s20, s21, s22, s23, s24, s25, s26, s27, s28, s29, s30, s31, s32), rv, ⟨by omega, by omega, by omega, by omega, by omega, by omega, by omega, by omega, by omega, by omega, by omega, by omega, by omega, by omega, by omega, by omega, by omega, by omega⟩, ⟨rfl, fun h9 => absurd (show (0 : Int32) = 7 from h9) (by decide)⟩, (wX_0 cI cF q0 b1 b2 b3 b4 b5 b6 b7 b8 b9 b10 b11 b12 b13 b14 b15 b16 b17 b18 b19 b20 b21 b22 b23 b24 b25 b26 b27 b28 b29 _ so).symm⟩
  · have l0 : (1 : Int32).toInt = 1 := rfl
    obtain ⟨⟨cv, rv, t0, t1, t2, t3, t4, t5, t6, t7, t8, t9, t10, t11, t12, t13, t14⟩, hm, hp⟩ := s_X11_about_X0 K hK 1024 200 200 200 200 512 512 ((1 : Int32)) p1 p2 ((1 : Int32)) s1 s2 s3 s4 s5 s6 s7 s8 s9 s10 s11 s12 s13 s15 rfl rfl rfl rfl rfl rfl rfl (by omega) (by omega) (by omega) (by omega) (by omega) (by omega)
    have hq0 : cv ∈ (["", "java/lang/IllegalArgumentException", "java/lang/IllegalStateException", "java/util/NoSuchElementException"] : List String) := hp.1
    have hq1 : t0.toInt = ((1 : Int32)).toInt := hp.2.1
    have hq2 : 0 ≤ t1.toInt := hp.2.2.1
    have hq3 : t1.toInt ≤ 1024 := hp.2.2.2.1
    have hq4 : 0 ≤ t2.toInt := hp.2.2.2.2.1
    have hq5 : t2.toInt ≤ 200 := hp.2.2.2.2.2.1
    have hq6 : 0 ≤ t10.toInt := hp.2.2.2.2.2.2.1
    have hq7 : t10.toInt ≤ 512 := hp.2.2.2.2.2.2.2
    obtain rfl : t0 = (1 : Int32) := Int32.toInt_inj.mp hq1
    refine ⟨_, _, (by rw [wX_1]; exact (lx_about_1 l hl9 dC dI cI cJ cZ cF K q0 b1 b2 b3 b4 b5 b6 b7 b8 b9 b10 b11 b12 b13 b14 b15 b16 b17 b18 b19 b20 b21 b22 b23 b24 b25 b26 b27 b28 b29 (svo so) (1 : Int32) s1 s2 s3 s4 s5 s6 s7 s8 s9 s10 s11 s12 s13 s14 s15 s16 s17 s18 s19 s20 s21 s22 s23 s24 s25 s26 s27 s28 s29 s30 s31 s32 p1 p2 cv rv _ hm).frame (wSo cI so)), ?_, ?_⟩
    · rintro r w ⟨w1, ⟨v, ⟨h1, h2, rfl⟩, rfl⟩, rfl⟩
      exact ⟨((1 : Int32), t1, t2, t3, t4, t5, t6, t7, t8, t9, t10, t11, t12, t13, s14, t14, s16, s17, s18, s19, s20, s21, s22, s23, s24, s25, s26, s27, s28, s29, s30, s31, s32), ⟨by omega, by omega, by omega, by omega, by omega, by omega, by omega, by omega, by omega, by omega, by omega, by omega, by omega, by omega, by omega, by omega, by omega, by omega⟩, (by subst h1; subst h2; exact ⟨rfl, fun h9 => absurd (show (1 : Int32) = 7 from h9) (by decide)⟩), (wX_1 cI cF q0 b1 b2 b3 b4 b5 b6 b7 b8 b9 b10 b11 b12 b13 b14 b15 b16 b17 b18 b19 b20 b21 b22 b23 b24 b25 b26 b27 b28 b29 _ so).symm⟩
    · rintro E w ⟨w1, ⟨rfl, h2, v, rfl, rfl⟩, rfl⟩
      exact ⟨zz_d3 hq0 h2, ((1 : Int32), t1, t2, t3, t4, t5, t6, t7, t8, t9, t10, t11, t12, t13, s14, t14, s16, s17, s18, s19, s20, s21, s22, s23, s24, s25, s26, s27, s28, s29, s30, s31, s32), rv, ⟨by omega, by omega, by omega, by omega, by omega, by omega, by omega, by omega, by omega, by omega, by omega, by omega, by omega, by omega, by omega, by omega, by omega, by omega⟩, ⟨rfl, fun h9 => absurd (show (1 : Int32) = 7 from h9) (by decide)⟩, (wX_1 cI cF q0 b1 b2 b3 b4 b5 b6 b7 b8 b9 b10 b11 b12 b13 b14 b15 b16 b17 b18 b19 b20 b21 b22 b23 b24 b25 b26 b27 b28 b29 _ so).symm⟩
  · have l0 : (2 : Int32).toInt = 2 := rfl
    obtain ⟨⟨cv, rv, t0, t1, t2, t3, t4, t5, t6, t7, t8, t9, t10, t11, t12, t13, t14⟩, hm, hp⟩ := s_X11_about_X0 K hK 1024 200 200 200 200 512 512 ((2 : Int32)) p1 p2 ((2 : Int32)) s1 s2 s3 s4 s5 s6 s7 s8 s9 s10 s11 s12 s13 s16 rfl rfl rfl rfl rfl rfl rfl (by omega) (by omega) (by omega) (by omega) (by omega) (by omega)
    have hq0 : cv ∈ (["", "java/lang/IllegalArgumentException", "java/lang/IllegalStateException", "java/util/NoSuchElementException"] : List String) := hp.1
    have hq1 : t0.toInt = ((2 : Int32)).toInt := hp.2.1
    have hq2 : 0 ≤ t1.toInt := hp.2.2.1
    have hq3 : t1.toInt ≤ 1024 := hp.2.2.2.1
    have hq4 : 0 ≤ t2.toInt := hp.2.2.2.2.1
    have hq5 : t2.toInt ≤ 200 := hp.2.2.2.2.2.1
    have hq6 : 0 ≤ t10.toInt := hp.2.2.2.2.2.2.1
    have hq7 : t10.toInt ≤ 512 := hp.2.2.2.2.2.2.2
    obtain rfl : t0 = (2 : Int32) := Int32.toInt_inj.mp hq1
    refine ⟨_, _, (by rw [wX_2]; exact (lx_about_2 l hl9 dC dI cI cJ cZ cF K q0 b1 b2 b3 b4 b5 b6 b7 b8 b9 b10 b11 b12 b13 b14 b15 b16 b17 b18 b19 b20 b21 b22 b23 b24 b25 b26 b27 b28 b29 (svo so) (2 : Int32) s1 s2 s3 s4 s5 s6 s7 s8 s9 s10 s11 s12 s13 s14 s15 s16 s17 s18 s19 s20 s21 s22 s23 s24 s25 s26 s27 s28 s29 s30 s31 s32 p1 p2 cv rv _ hm).frame (wSo cI so)), ?_, ?_⟩
    · rintro r w ⟨w1, ⟨v, ⟨h1, h2, rfl⟩, rfl⟩, rfl⟩
      exact ⟨((2 : Int32), t1, t2, t3, t4, t5, t6, t7, t8, t9, t10, t11, t12, t13, s14, s15, t14, s17, s18, s19, s20, s21, s22, s23, s24, s25, s26, s27, s28, s29, s30, s31, s32), ⟨by omega, by omega, by omega, by omega, by omega, by omega, by omega, by omega, by omega, by omega, by omega, by omega, by omega, by omega, by omega, by omega, by omega, by omega⟩, (by subst h1; subst h2; exact ⟨rfl, fun h9 => absurd (show (2 : Int32) = 7 from h9) (by decide)⟩), (wX_2 cI cF q0 b1 b2 b3 b4 b5 b6 b7 b8 b9 b10 b11 b12 b13 b14 b15 b16 b17 b18 b19 b20 b21 b22 b23 b24 b25 b26 b27 b28 b29 _ so).symm⟩
    · rintro E w ⟨w1, ⟨rfl, h2, v, rfl, rfl⟩, rfl⟩
      exact ⟨zz_d3 hq0 h2, ((2 : Int32), t1, t2, t3, t4, t5, t6, t7, t8, t9, t10, t11, t12, t13, s14, s15, t14, s17, s18, s19, s20, s21, s22, s23, s24, s25, s26, s27, s28, s29, s30, s31, s32), rv, ⟨by omega, by omega, by omega, by omega, by omega, by omega, by omega, by omega, by omega, by omega, by omega, by omega, by omega, by omega, by omega, by omega, by omega, by omega⟩, ⟨rfl, fun h9 => absurd (show (2 : Int32) = 7 from h9) (by decide)⟩, (wX_2 cI cF q0 b1 b2 b3 b4 b5 b6 b7 b8 b9 b10 b11 b12 b13 b14 b15 b16 b17 b18 b19 b20 b21 b22 b23 b24 b25 b26 b27 b28 b29 _ so).symm⟩
  · have l0 : (3 : Int32).toInt = 3 := rfl
    obtain ⟨⟨cv, rv, t0, t1, t2, t3, t4, t5, t6, t7, t8, t9, t10, t11, t12, t13, t14⟩, hm, hp⟩ := s_X11_about_X0 K hK 1024 200 200 200 200 512 512 ((3 : Int32)) p1 p2 ((3 : Int32)) s1 s2 s3 s4 s5 s6 s7 s8 s9 s10 s11 s12 s13 s17 rfl rfl rfl rfl rfl rfl rfl (by omega) (by omega) (by omega) (by omega) (by omega) (by omega)
    have hq0 : cv ∈ (["", "java/lang/IllegalArgumentException", "java/lang/IllegalStateException", "java/util/NoSuchElementException"] : List String) := hp.1
    have hq1 : t0.toInt = ((3 : Int32)).toInt := hp.2.1
    have hq2 : 0 ≤ t1.toInt := hp.2.2.1
    have hq3 : t1.toInt ≤ 1024 := hp.2.2.2.1
    have hq4 : 0 ≤ t2.toInt := hp.2.2.2.2.1
    have hq5 : t2.toInt ≤ 200 := hp.2.2.2.2.2.1
    have hq6 : 0 ≤ t10.toInt := hp.2.2.2.2.2.2.1
    have hq7 : t10.toInt ≤ 512 := hp.2.2.2.2.2.2.2
    obtain rfl : t0 = (3 : Int32) := Int32.toInt_inj.mp hq1
    refine ⟨_, _, (by rw [wX_3]; exact (lx_about_3 l hl9 dC dI cI cJ cZ cF K q0 b1 b2 b3 b4 b5 b6 b7 b8 b9 b10 b11 b12 b13 b14 b15 b16 b17 b18 b19 b20 b21 b22 b23 b24 b25 b26 b27 b28 b29 (svo so) (3 : Int32) s1 s2 s3 s4 s5 s6 s7 s8 s9 s10 s11 s12 s13 s14 s15 s16 s17 s18 s19 s20 s21 s22 s23 s24 s25 s26 s27 s28 s29 s30 s31 s32 p1 p2 cv rv _ hm).frame (wSo cI so)), ?_, ?_⟩
    · rintro r w ⟨w1, ⟨v, ⟨h1, h2, rfl⟩, rfl⟩, rfl⟩
      exact ⟨((3 : Int32), t1, t2, t3, t4, t5, t6, t7, t8, t9, t10, t11, t12, t13, s14, s15, s16, t14, s18, s19, s20, s21, s22, s23, s24, s25, s26, s27, s28, s29, s30, s31, s32), ⟨by omega, by omega, by omega, by omega, by omega, by omega, by omega, by omega, by omega, by omega, by omega, by omega, by omega, by omega, by omega, by omega, by omega, by omega⟩, (by subst h1; subst h2; exact ⟨rfl, fun h9 => absurd (show (3 : Int32) = 7 from h9) (by decide)⟩), (wX_3 cI cF q0 b1 b2 b3 b4 b5 b6 b7 b8 b9 b10 b11 b12 b13 b14 b15 b16 b17 b18 b19 b20 b21 b22 b23 b24 b25 b26 b27 b28 b29 _ so).symm⟩
    · rintro E w ⟨w1, ⟨rfl, h2, v, rfl, rfl⟩, rfl⟩
      exact ⟨zz_d3 hq0 h2, ((3 : Int32), t1, t2, t3, t4, t5, t6, t7, t8, t9, t10, t11, t12, t13, s14, s15, s16, t14, s18, s19, s20, s21, s22, s23, s24, s25, s26, s27, s28, s29, s30, s31, s32), rv, ⟨by omega, by omega, by omega, by omega, by omega, by omega, by omega, by omega, by omega, by omega, by omega, by omega, by omega, by omega, by omega, by omega, by omega, by omega⟩, ⟨rfl, fun h9 => absurd (show (3 : Int32) = 7 from h9) (by decide)⟩, (wX_3 cI cF q0 b1 b2 b3 b4 b5 b6 b7 b8 b9 b10 b11 b12 b13 b14 b15 b16 b17 b18 b19 b20 b21 b22 b23 b24 b25 b26 b27 b28 b29 _ so).symm⟩
  · have l0 : (4 : Int32).toInt = 4 := rfl
    obtain ⟨⟨cv, rv, t0, t1, t2, t3, t4, t5, t6, t7, t8, t9, t10, t11, t12, t13, t14, t15⟩, hm, hp⟩ := s_X11_about_X3 K hK 1024 200 200 200 200 512 512 1024 p1 p2 ((4 : Int32)) s1 s2 s3 s4 s5 s6 s7 s8 s9 s10 s11 s12 s13 s18 s19 rfl rfl rfl rfl rfl rfl rfl rfl (by omega) (by omega) (by omega) (by omega) (by omega) (by omega) (by omega) (by omega)
    have hq0 : cv ∈ (["", "java/lang/IllegalArgumentException", "java/lang/IllegalStateException", "java/util/NoSuchElementException"] : List String) := hp.1
    have hq1 : t0.toInt = ((4 : Int32)).toInt := hp.2.1
    have hq2 : 0 ≤ t1.toInt := hp.2.2.1
    have hq3 : t1.toInt ≤ 1024 := hp.2.2.2.1
    have hq4 : 0 ≤ t2.toInt := hp.2.2.2.2.1
    have hq5 : t2.toInt ≤ 200 := hp.2.2.2.2.2.1
    have hq6 : 0 ≤ t10.toInt := hp.2.2.2.2.2.2.1
    have hq7 : t10.toInt ≤ 512 := hp.2.2.2.2.2.2.2.1
    have hq8 : 0 ≤ t14.toInt := hp.2.2.2.2.2.2.2.2.1
    have hq9 : t14.toInt ≤ 1024 := hp.2.2.2.2.2.2.2.2.2
    obtain rfl : t0 = (4 : Int32) := Int32.toInt_inj.mp hq1
    refine ⟨_, _, (by rw [wX_4]; exact (lx_about_4 l hl9 dC dI cI cJ cZ cF K q0 b1 b2 b3 b4 b5 b6 b7 b8 b9 b10 b11 b12 b13 b14 b15 b16 b17 b18 b19 b20 b21 b22 b23 b24 b25 b26 b27 b28 b29 (svo so) (4 : Int32) s1 s2 s3 s4 s5 s6 s7 s8 s9 s10 s11 s12 s13 s14 s15 s16 s17 s18 s19 s20 s21 s22 s23 s24 s25 s26 s27 s28 s29 s30 s31 s32 p1 p2 cv rv _ hm).frame (wSo cI so)), ?_, ?_⟩
    · rintro r w ⟨w1, ⟨v, ⟨h1, h2, rfl⟩, rfl⟩, rfl⟩
      exact ⟨((4 : Int32), t1, t2, t3, t4, t5, t6, t7, t8, t9, t10, t11, t12, t13, s14, s15, s16, s17, t14, t15, s20, s21, s22, s23, s24, s25, s26, s27, s28, s29, s30, s31, s32), ⟨by omega, by omega, by omega, by omega, by omega, by omega, by omega, by omega, by omega, by omega, by omega, by omega, by omega, by omega, by omega, by omega, by omega, by omega⟩, (by subst h1; subst h2; exact ⟨rfl, fun h9 => absurd (show (4 : Int32) = 7 from h9) (by decide)⟩), (wX_4 cI cF q0 b1 b2 b3 b4 b5 b6 b7 b8 b9 b10 b11 b12 b13 b14 b15 b16 b17 b18 b19 b20 b21 b22 b23 b24 b25 b26 b27 b28 b29 _ so).symm⟩
    · rintro E w ⟨w1, ⟨rfl, h2, v, rfl, rfl⟩, rfl⟩
      exact ⟨zz_d3 hq0 h2, ((4 : Int32), t1, t2, t3, t4, t5, t6, t7, t8, t9, t10, t11, t12, t13, s14, s15, s16, s17, t14, t15, s20, s21, s22, s23, s24, s25, s26, s27, s28, s29, s30, s31, s32), rv, ⟨by omega, by omega, by omega, by omega, by omega, by omega, by omega, by omega, by omega, by omega, by omega, by omega, by omega, by omega, by omega, by omega, by omega, by omega⟩, ⟨rfl, fun h9 => absurd (show (4 : Int32) = 7 from h9) (by decide)⟩, (wX_4 cI cF q0 b1 b2 b3 b4 b5 b6 b7 b8 b9 b10 b11 b12 b13 b14 b15 b16 b17 b18 b19 b20 b21 b22 b23 b24 b25 b26 b27 b28 b29 _ so).symm⟩
  · have l0 : (5 : Int32).toInt = 5 := rfl
    obtain ⟨⟨cv, rv, t0, t1, t2, t3, t4, t5, t6, t7, t8, t9, t10, t11, t12, t13, t14, t15, t16⟩, hm, hp⟩ := s_X11_about_X5 K hK 1024 200 200 200 200 512 512 32 32 p1 p2 ((5 : Int32)) s1 s2 s3 s4 s5 s6 s7 s8 s9 s10 s11 s12 s13 s20 s21 s22 rfl rfl rfl rfl rfl rfl rfl rfl rfl (by omega) (by omega) (by omega) (by omega) (by omega) (by omega) (by omega) (by omega)
    have hq0 : cv ∈ (["", "java/lang/IllegalArgumentException", "java/lang/IllegalStateException", "java/util/NoSuchElementException"] : List String) := hp.1
    have hq1 : t0.toInt = ((5 : Int32)).toInt := hp.2.1
    have hq2 : 0 ≤ t1.toInt := hp.2.2.1
    have hq3 : t1.toInt ≤ 1024 := hp.2.2.2.1
    have hq4 : 0 ≤ t2.toInt := hp.2.2.2.2.1
    have hq5 : t2.toInt ≤ 200 := hp.2.2.2.2.2.1
    have hq6 : 0 ≤ t10.toInt := hp.2.2.2.2.2.2.1
    have hq7 : t10.toInt ≤ 512 := hp.2.2.2.2.2.2.2.1
    have hq8 : 0 ≤ t14.toInt := hp.2.2.2.2.2.2.2.2.1
    have hq9 : t14.toInt ≤ 32 := hp.2.2.2.2.2.2.2.2.2
    obtain rfl : t0 = (5 : Int32) := Int32.toInt_inj.mp hq1
    refine ⟨_, _, (by rw [wX_5]; exact (lx_about_5 l hl9 dC dI cI cJ cZ cF K q0 b1 b2 b3 b4 b5 b6 b7 b8 b9 b10 b11 b12 b13 b14 b15 b16 b17 b18 b19 b20 b21 b22 b23 b24 b25 b26 b27 b28 b29 (svo so) (5 : Int32) s1 s2 s3 s4 s5 s6 s7 s8 s9 s10 s11 s12 s13 s14 s15 s16 s17 s18 s19 s20 s21 s22 s23 s24 s25 s26 s27 s28 s29 s30 s31 s32 p1 p2 cv rv _ hm).frame (wSo cI so)), ?_, ?_⟩
    · rintro r w ⟨w1, ⟨v, ⟨h1, h2, rfl⟩, rfl⟩, rfl⟩
      exact ⟨((5 : Int32), t1, t2, t3, t4, t5, t6, t7, t8, t9, t10, t11, t12, t13, s14, s15, s16, s17, s18, s19, t14, t15, t16, s23, s24, s25, s26, s27, s28, s29, s30, s31, s32), ⟨by omega, by omega, by omega, by omega, by omega, by omega, by omega, by omega, by omega, by omega, by omega, by omega, by omega, by omega, by omega, by omega, by omega, by omega⟩, (by subst h1; subst h2; exact ⟨rfl, fun h9 => absurd (show (5 : Int32) = 7 from h9) (by decide)⟩), (wX_5 cI cF q0 b1 b2 b3 b4 b5 b6 b7 b8 b9 b10 b11 b12 b13 b14 b15 b16 b17 b18 b19 b20 b21 b22 b23 b24 b25 b26 b27 b28 b29 _ so).symm⟩
    · rintro E w ⟨w1, ⟨rfl, h2, v, rfl, rfl⟩, rfl⟩
      exact ⟨zz_d3 hq0 h2, ((5 : Int32), t1, t2, t3, t4, t5, t6, t7, t8, t9, t10, t11, t12, t13, s14, s15, s16, s17, s18, s19, t14, t15, t16, s23, s24, s25, s26, s27, s28, s29, s30, s31, s32), rv, ⟨by omega, by omega, by omega, by omega, by omega, by omega, by omega, by omega, by omega, by omega, by omega, by omega, by omega, by omega, by omega, by omega, by omega, by omega⟩, ⟨rfl, fun h9 => absurd (show (5 : Int32) = 7 from h9) (by decide)⟩, (wX_5 cI cF q0 b1 b2 b3 b4 b5 b6 b7 b8 b9 b10 b11 b12 b13 b14 b15 b16 b17 b18 b19 b20 b21 b22 b23 b24 b25 b26 b27 b28 b29 _ so).symm⟩
  · have l0 : (6 : Int32).toInt = 6 := rfl
    obtain ⟨⟨cv, rv, t0, t1, t2, t3, t4, t5, t6, t7, t8, t9, t10, t11, t12, t13, t14⟩, hm, hp⟩ := s_X11_about_X2 K hK 1024 200 200 200 200 512 512 p1 p2 ((6 : Int32)) s1 s2 s3 s4 s5 s6 s7 s8 s9 s10 s11 s12 s13 s23 rfl rfl rfl rfl rfl rfl rfl (by omega) (by omega) (by omega) (by omega) (by omega) (by omega) (by omega) (by omega)
    have hq0 : cv ∈ (["", "java/lang/IllegalArgumentException", "java/lang/IllegalStateException", "java/util/NoSuchElementException"] : List String) := hp.1
    have hq1 : t0.toInt = ((6 : Int32)).toInt := hp.2.1
    have hq2 : 0 ≤ t1.toInt := hp.2.2.1
    have hq3 : t1.toInt ≤ 1024 := hp.2.2.2.1
    have hq4 : 0 ≤ t2.toInt := hp.2.2.2.2.1
    have hq5 : t2.toInt ≤ 200 := hp.2.2.2.2.2.1
    have hq6 : 0 ≤ t10.toInt := hp.2.2.2.2.2.2.1
    have hq7 : t10.toInt ≤ 512 := hp.2.2.2.2.2.2.2.1
    have hq8 : 0 ≤ t14.toInt := hp.2.2.2.2.2.2.2.2.1
    have hq9 : t14.toInt ≤ 1024 := hp.2.2.2.2.2.2.2.2.2
    obtain rfl : t0 = (6 : Int32) := Int32.toInt_inj.mp hq1
    refine ⟨_, _, (by rw [wX_6]; exact (lx_about_6 l hl9 dC dI cI cJ cZ cF K q0 b1 b2 b3 b4 b5 b6 b7 b8 b9 b10 b11 b12 b13 b14 b15 b16 b17 b18 b19 b20 b21 b22 b23 b24 b25 b26 b27 b28 b29 (svo so) (6 : Int32) s1 s2 s3 s4 s5 s6 s7 s8 s9 s10 s11 s12 s13 s14 s15 s16 s17 s18 s19 s20 s21 s22 s23 s24 s25 s26 s27 s28 s29 s30 s31 s32 p1 p2 cv rv _ hm).frame (wSo cI so)), ?_, ?_⟩
    · rintro r w ⟨w1, ⟨v, ⟨h1, h2, rfl⟩, rfl⟩, rfl⟩
      exact ⟨((6 : Int32), t1, t2, t3, t4, t5, t6, t7, t8, t9, t10, t11, t12, t13, s14, s15, s16, s17, s18, s19, s20, s21, s22, t14, s24, s25, s26, s27, s28, s29, s30, s31, s32), ⟨by omega, by omega, by omega, by omega, by omega, by omega, by omega, by omega, by omega, by omega, by omega, by omega, by omega, by omega, by omega, by omega, by omega, by omega⟩, (by subst h1; subst h2; exact ⟨rfl, fun h9 => absurd (show (6 : Int32) = 7 from h9) (by decide)⟩), (wX_6 cI cF q0 b1 b2 b3 b4 b5 b6 b7 b8 b9 b10 b11 b12 b13 b14 b15 b16 b17 b18 b19 b20 b21 b22 b23 b24 b25 b26 b27 b28 b29 _ so).symm⟩
    · rintro E w ⟨w1, ⟨rfl, h2, v, rfl, rfl⟩, rfl⟩
      exact ⟨zz_d3 hq0 h2, ((6 : Int32), t1, t2, t3, t4, t5, t6, t7, t8, t9, t10, t11, t12, t13, s14, s15, s16, s17, s18, s19, s20, s21, s22, t14, s24, s25, s26, s27, s28, s29, s30, s31, s32), rv, ⟨by omega, by omega, by omega, by omega, by omega, by omega, by omega, by omega, by omega, by omega, by omega, by omega, by omega, by omega, by omega, by omega, by omega, by omega⟩, ⟨rfl, fun h9 => absurd (show (6 : Int32) = 7 from h9) (by decide)⟩, (wX_6 cI cF q0 b1 b2 b3 b4 b5 b6 b7 b8 b9 b10 b11 b12 b13 b14 b15 b16 b17 b18 b19 b20 b21 b22 b23 b24 b25 b26 b27 b28 b29 _ so).symm⟩
  · have l0 : (7 : Int32).toInt = 7 := rfl
    obtain ⟨⟨cv, rv, t0, t1, t2, t3, t4, t5, t6, t7, t8, t9, t10, t11, t12, t13, t14, t15, t16, t17⟩, hm, hp⟩ := s_X11_about_X4 K hK 1024 200 200 200 200 512 512 201 201 p1 p2 ((7 : Int32)) s1 s2 s3 s4 s5 s6 s7 s8 s9 s10 s11 s12 s13 s24 s25 s26 s27 rfl rfl rfl rfl rfl rfl rfl rfl rfl (by omega) (by omega) (by omega) (by omega) (by omega) (by omega) (by omega) (by omega)
    have hq0 : cv ∈ (["", "java/lang/IllegalArgumentException", "java/lang/IllegalStateException", "java/util/NoSuchElementException"] : List String) := hp.1
    have hq1 : t0.toInt = ((7 : Int32)).toInt := hp.2.1
    have hq2 : 0 ≤ t1.toInt := hp.2.2.1
    have hq3 : t1.toInt ≤ 1024 := hp.2.2.2.1
    have hq4 : 0 ≤ t2.toInt := hp.2.2.2.2.1
    have hq5 : t2.toInt ≤ 200 := hp.2.2.2.2.2.1
    have hq6 : 0 ≤ t10.toInt := hp.2.2.2.2.2.2.1
    have hq7 : t10.toInt ≤ 512 := hp.2.2.2.2.2.2.2.1
    have hq8 : 0 ≤ t14.toInt := hp.2.2.2.2.2.2.2.2.1
    have hq9 : t14.toInt ≤ 201 := hp.2.2.2.2.2.2.2.2.2
    obtain rfl : t0 = (7 : Int32) := Int32.toInt_inj.mp hq1
    refine ⟨_, _, (by rw [wX_7]; exact (lx_about_7 l hl9 dC dI cI cJ cZ cF K q0 b1 b2 b3 b4 b5 b6 b7 b8 b9 b10 b11 b12 b13 b14 b15 b16 b17 b18 b19 b20 b21 b22 b23 b24 b25 b26 b27 b28 b29 (svo so) (7 : Int32) s1 s2 s3 s4 s5 s6 s7 s8 s9 s10 s11 s12 s13 s14 s15 s16 s17 s18 s19 s20 s21 s22 s23 s24 s25 s26 s27 s28 s29 s30 s31 s32 p1 p2 cv rv _ hm).frame (wSo cI so)), ?_, ?_⟩
    · rintro r w ⟨w1, ⟨v, ⟨h1, h2, rfl⟩, rfl⟩, rfl⟩
      exact ⟨((7 : Int32), t1, t2, t3, t4, t5, t6, t7, t8, t9, t10, t11, t12, t13, s14, s15, s16, s17, s18, s19, s20, s21, s22, s23, t14, t15, t16, t17, s28, s29, s30, s31, s32), ⟨by omega, by omega, by omega, by omega, by omega, by omega, by omega, by omega, by omega, by omega, by omega, by omega, by omega, by omega, by omega, by omega, by omega, by omega⟩, (by subst h1; subst h2; exact ⟨rfl, fun _ => ⟨_, _, _, _, _, _, _, _, _, _, _, _, _, _, _, _, _, _, hm, rfl⟩⟩), (wX_7 cI cF q0 b1 b2 b3 b4 b5 b6 b7 b8 b9 b10 b11 b12 b13 b14 b15 b16 b17 b18 b19 b20 b21 b22 b23 b24 b25 b26 b27 b28 b29 _ so).symm⟩
    · rintro E w ⟨w1, ⟨rfl, h2, v, rfl, rfl⟩, rfl⟩
      exact ⟨zz_d3 hq0 h2, ((7 : Int32), t1, t2, t3, t4, t5, t6, t7, t8, t9, t10, t11, t12, t13, s14, s15, s16, s17, s18, s19, s20, s21, s22, s23, t14, t15, t16, t17, s28, s29, s30, s31, s32), rv, ⟨by omega, by omega, by omega, by omega, by omega, by omega, by omega, by omega, by omega, by omega, by omega, by omega, by omega, by omega, by omega, by omega, by omega, by omega⟩, ⟨rfl, fun _ => ⟨_, _, _, _, _, _, _, _, _, _, _, _, _, _, _, _, _, _, hm, rfl⟩⟩, (wX_7 cI cF q0 b1 b2 b3 b4 b5 b6 b7 b8 b9 b10 b11 b12 b13 b14 b15 b16 b17 b18 b19 b20 b21 b22 b23 b24 b25 b26 b27 b28 b29 _ so).symm⟩
  · have l0 : (8 : Int32).toInt = 8 := rfl
    obtain ⟨⟨cv, rv, t0, t1, t2, t3, t4, t5, t6, t7, t8, t9, t10, t11, t12, t13, t14⟩, hm, hp⟩ := s_X11_about_X9 K hK 1024 200 200 200 200 512 512 p1 p2 ((8 : Int32)) s1 s2 s3 s4 s5 s6 s7 s8 s9 s10 s11 s12 s13 s28 rfl rfl rfl rfl rfl rfl rfl (by omega) (by omega) (by omega) (by omega) (by omega) (by omega)
    have hq0 : cv ∈ (["", "java/lang/IllegalArgumentException", "java/lang/IllegalStateException", "java/util/NoSuchElementException"] : List String) := hp.1
    have hq1 : t0.toInt = ((8 : Int32)).toInt := hp.2.1
    have hq2 : 0 ≤ t1.toInt := hp.2.2.1
    have hq3 : t1.toInt ≤ 1024 := hp.2.2.2.1
    have hq4 : 0 ≤ t2.toInt := hp.2.2.2.2.1
    have hq5 : t2.toInt ≤ 200 := hp.2.2.2.2.2.1
    have hq6 : 0 ≤ t10.toInt := hp.2.2.2.2.2.2.1
    have hq7 : t10.toInt ≤ 512 := hp.2.2.2.2.2.2.2
    obtain rfl : t0 = (8 : Int32) := Int32.toInt_inj.mp hq1
    refine ⟨_, _, (by rw [wX_8]; exact (lx_about_8 l hl9 dC dI cI cJ cZ cF K q0 b1 b2 b3 b4 b5 b6 b7 b8 b9 b10 b11 b12 b13 b14 b15 b16 b17 b18 b19 b20 b21 b22 b23 b24 b25 b26 b27 b28 b29 (svo so) (8 : Int32) s1 s2 s3 s4 s5 s6 s7 s8 s9 s10 s11 s12 s13 s14 s15 s16 s17 s18 s19 s20 s21 s22 s23 s24 s25 s26 s27 s28 s29 s30 s31 s32 p1 p2 cv rv _ hm).frame (wSo cI so)), ?_, ?_⟩
    · rintro r w ⟨w1, ⟨v, ⟨h1, h2, rfl⟩, rfl⟩, rfl⟩
      exact ⟨((8 : Int32), t1, t2, t3, t4, t5, t6, t7, t8, t9, t10, t11, t12, t13, s14, s15, s16, s17, s18, s19, s20, s21, s22, s23, s24, s25, s26, s27, t14, s29, s30, s31, s32), ⟨by omega, by omega, by omega, by omega, by omega, by omega, by omega, by omega, by omega, by omega, by omega, by omega, by omega, by omega, by omega, by omega, by omega, by omega⟩, (by subst h1; subst h2; exact ⟨rfl, fun h9 => absurd (show (8 : Int32) = 7 from h9) (by decide)⟩), (wX_8 cI cF q0 b1 b2 b3 b4 b5 b6 b7 b8 b9 b10 b11 b12 b13 b14 b15 b16 b17 b18 b19 b20 b21 b22 b23 b24 b25 b26 b27 b28 b29 _ so).symm⟩
    · rintro E w ⟨w1, ⟨rfl, h2, v, rfl, rfl⟩, rfl⟩
      exact ⟨zz_d3 hq0 h2, ((8 : Int32), t1, t2, t3, t4, t5, t6, t7, t8, t9, t10, t11, t12, t13, s14, s15, s16, s17, s18, s19, s20, s21, s22, s23, s24, s25, s26, s27, t14, s29, s30, s31, s32), rv, ⟨by omega, by omega, by omega, by omega, by omega, by omega, by omega, by omega, by omega, by omega, by omega, by omega, by omega, by omega, by omega, by omega, by omega, by omega⟩, ⟨rfl, fun h9 => absurd (show (8 : Int32) = 7 from h9) (by decide)⟩, (wX_8 cI cF q0 b1 b2 b3 b4 b5 b6 b7 b8 b9 b10 b11 b12 b13 b14 b15 b16 b17 b18 b19 b20 b21 b22 b23 b24 b25 b26 b27 b28 b29 _ so).symm⟩
  · have l0 : (9 : Int32).toInt = 9 := rfl
    obtain ⟨⟨cv, rv, t0, t1, t2, t3, t4, t5, t6, t7, t8, t9, t10, t11, t12, t13, t14, t15, t16, t17⟩, hm, hp⟩ := s_X11_about_X6 K hK 1024 200 200 200 200 512 512 1024 1024 p1 p2 ((9 : Int32)) s1 s2 s3 s4 s5 s6 s7 s8 s9 s10 s11 s12 s13 s29 s30 s31 s32 rfl rfl rfl rfl rfl rfl rfl rfl rfl (by omega) (by omega) (by omega) (by omega) (by omega) (by omega) (by omega) (by omega)
    have hq0 : cv ∈ (["", "java/lang/IllegalArgumentException", "java/lang/IllegalStateException", "java/util/NoSuchElementException"] : List String) := hp.1
    have hq1 : t0.toInt = ((9 : Int32)).toInt := hp.2.1
    have hq2 : 0 ≤ t1.toInt := hp.2.2.1
    have hq3 : t1.toInt ≤ 1024 := hp.2.2.2.1
    have hq4 : 0 ≤ t2.toInt := hp.2.2.2.2.1
    have hq5 : t2.toInt ≤ 200 := hp.2.2.2.2.2.1
    have hq6 : 0 ≤ t10.toInt := hp.2.2.2.2.2.2.1
    have hq7 : t10.toInt ≤ 512 := hp.2.2.2.2.2.2.2.1
    have hq8 : 0 ≤ t14.toInt := hp.2.2.2.2.2.2.2.2.1
    have hq9 : t14.toInt ≤ 1024 := hp.2.2.2.2.2.2.2.2.2
    obtain rfl : t0 = (9 : Int32) := Int32.toInt_inj.mp hq1
    refine ⟨_, _, (by rw [wX_9]; exact (lx_about_9 l hl9 dC dI cI cJ cZ cF K q0 b1 b2 b3 b4 b5 b6 b7 b8 b9 b10 b11 b12 b13 b14 b15 b16 b17 b18 b19 b20 b21 b22 b23 b24 b25 b26 b27 b28 b29 (svo so) (9 : Int32) s1 s2 s3 s4 s5 s6 s7 s8 s9 s10 s11 s12 s13 s14 s15 s16 s17 s18 s19 s20 s21 s22 s23 s24 s25 s26 s27 s28 s29 s30 s31 s32 p1 p2 cv rv _ hm).frame (wSo cI so)), ?_, ?_⟩
    · rintro r w ⟨w1, ⟨v, ⟨h1, h2, rfl⟩, rfl⟩, rfl⟩
      exact ⟨((9 : Int32), t1, t2, t3, t4, t5, t6, t7, t8, t9, t10, t11, t12, t13, s14, s15, s16, s17, s18, s19, s20, s21, s22, s23, s24, s25, s26, s27, s28, t14, t15, t16, t17), ⟨by omega, by omega, by omega, by omega, by omega, by omega, by omega, by omega, by omega, by omega, by omega, by omega, by omega, by omega, by omega, by omega, by omega, by omega⟩, (by subst h1; subst h2; exact ⟨rfl, fun h9 => absurd (show (9 : Int32) = 7 from h9) (by decide)⟩), (wX_9 cI cF q0 b1 b2 b3 b4 b5 b6 b7 b8 b9 b10 b11 b12 b13 b14 b15 b16 b17 b18 b19 b20 b21 b22 b23 b24 b25 b26 b27 b28 b29 _ so).symm⟩
    · rintro E w ⟨w1, ⟨rfl, h2, v, rfl, rfl⟩, rfl⟩
      exact ⟨zz_d3 hq0 h2, ((9 : Int32), t1, t2, t3, t4, t5, t6, t7, t8, t9, t10, t11, t12, t13, s14, s15, s16, s17, s18, s19, s20, s21, s22, s23, s24, s25, s26, s27, s28, t14, t15, t16, t17), rv, ⟨by omega, by omega, by omega, by omega, by omega, by omega, by omega, by omega, by omega, by omega, by omega, by omega, by omega, by omega, by omega, by omega, by omega, by omega⟩, ⟨rfl, fun h9 => absurd (show (9 : Int32) = 7 from h9) (by decide)⟩, (wX_9 cI cF q0 b1 b2 b3 b4 b5 b6 b7 b8 b9 b10 b11 b12 b13 b14 b15 b16 b17 b18 b19 b20 b21 b22 b23 b24 b25 b26 b27 b28 b29 _ so).symm⟩

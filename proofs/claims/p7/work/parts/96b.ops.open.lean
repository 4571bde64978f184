theorem zz_bad {x : Int32} (h : x.toInt < 0 ∨ 9 < x.toInt) : x < 0 ∨ 10 ≤ x.toNatClampNeg := by
  rcases h with h | h
  · exact Or.inl (Int32.lt_iff_toInt_lt.mpr (by rw [show (0 : Int32).toInt = 0 from rfl]; exact h))
  · exact Or.inr (by show 10 ≤ x.toInt.toNat; omega)
set_option maxHeartbeats 4000000 in
set_option maxRecDepth 100000 in
theorem ox_open (l : Launch) (hl9 : l.stackTraces = false) (dC : Nat → ClassId) (dI : Nat → Nat → Nat) (cI cJ cZ cF : ClassId) (K : Nat) (hK : 1099511627776 ≤ K) (q0 b1 b2 b3 b4 b5 b6 b7 b8 b9 b10 b11 b12 b13 b14 b15 b16 b17 b18 b19 b20 b21 b22 b23 b24 b25 b26 b27 b28 b29 : Nat) (u : SX) (so : SO) (hI : IX u) (p1 p2 : Int32) : ∃ (Rn : va_W → Prop) (Rx : String → va_W → Prop), zz_CXv l yX11_open wsX11_open rm_X11_open dC dI cI cJ cZ cF q0 (wX cI cF q0 b1 b2 b3 b4 b5 b6 b7 b8 b9 b10 b11 b12 b13 b14 b15 b16 b17 b18 b19 b20 b21 b22 b23 b24 b25 b26 b27 b28 b29 u so) [.int p1, .int p2] 1 6 Rn Rx ∧ (∀ w, Rn w → (0 ≤ p1.toInt ∧ p1.toInt ≤ 9 ∧ 16 ≤ p2.toInt ∧ p2.toInt ≤ 1024) ∧ ∃ u1 : SX, IX u1 ∧ DX_open K p1 p2 u "" u1 ∧ w = wX cI cF q0 b1 b2 b3 b4 b5 b6 b7 b8 b9 b10 b11 b12 b13 b14 b15 b16 b17 b18 b19 b20 b21 b22 b23 b24 b25 b26 b27 b28 b29 u1 so) ∧ (∀ E w, Rx E w → E = "java/lang/IllegalArgumentException" ∧ (p1.toInt < 0 ∨ 9 < p1.toInt ∨ p2.toInt < 16 ∨ 1024 < p2.toInt) ∧ ∃ u1 : SX, IX u1 ∧ DX_open K p1 p2 u E u1 ∧ w = wX cI cF q0 b1 b2 b3 b4 b5 b6 b7 b8 b9 b10 b11 b12 b13 b14 b15 b16 b17 b18 b19 b20 b21 b22 b23 b24 b25 b26 b27 b28 b29 u1 so) := by
  obtain ⟨s0, s1, s2, s3, s4, s5, s6, s7, s8, s9, s10, s11, s12, s13, s14, s15, s16, s17, s18, s19, s20, s21, s22, s23, s24, s25, s26, s27, s28, s29, s30, s31, s32⟩ := u
  have i0a : -1 ≤ s0.toInt := hI.1
  have i0b : s0.toInt ≤ 9 := hI.2.1
  have i1a : 0 ≤ s1.toInt := hI.2.2.1
  have i1b : s1.toInt ≤ 1024 := hI.2.2.2.1
  have i2a : 0 ≤ s2.toInt := hI.2.2.2.2.1
  have i2b : s2.toInt ≤ 200 := hI.2.2.2.2.2.1
  have i10a : 0 ≤ s10.toInt := hI.2.2.2.2.2.2.1
  have i10b : s10.toInt ≤ 512 := hI.2.2.2.2.2.2.2.1
  have i18a : 0 ≤ s18.toInt := hI.2.2.2.2.2.2.2.2.1
  have i18b : s18.toInt ≤ 1024 := hI.2.2.2.2.2.2.2.2.2.1
  have i20a : 0 ≤ s20.toInt := hI.2.2.2.2.2.2.2.2.2.2.1
  have i20b : s20.toInt ≤ 32 := hI.2.2.2.2.2.2.2.2.2.2.2.1
  have i23a : 0 ≤ s23.toInt := hI.2.2.2.2.2.2.2.2.2.2.2.2.1
  have i23b : s23.toInt ≤ 1024 := hI.2.2.2.2.2.2.2.2.2.2.2.2.2.1
  have i24a : 0 ≤ s24.toInt := hI.2.2.2.2.2.2.2.2.2.2.2.2.2.2.1
  have i24b : s24.toInt ≤ 201 := hI.2.2.2.2.2.2.2.2.2.2.2.2.2.2.2.1
  have i29a : 0 ≤ s29.toInt := hI.2.2.2.2.2.2.2.2.2.2.2.2.2.2.2.2.1
  have i29b : s29.toInt ≤ 1024 := hI.2.2.2.2.2.2.2.2.2.2.2.2.2.2.2.2.2
  rcases (show p1.toInt = 0 ∨ p1.toInt = 1 ∨ p1.toInt = 2 ∨ p1.toInt = 3 ∨ p1.toInt = 4 ∨ p1.toInt = 5 ∨ p1.toInt = 6 ∨ p1.toInt = 7 ∨ p1.toInt = 8 ∨ p1.toInt = 9 ∨ (p1.toInt < 0 ∨ 9 < p1.toInt) by omega) with h9 | h9 | h9 | h9 | h9 | h9 | h9 | h9 | h9 | h9 | h9
  · have l0 : (0 : Int32).toInt = 0 := rfl
    obtain ⟨⟨cv, t0, t1, t2, t3, t4, t5, t6, t7, t8, t9, t10, t11, t12, t13, t14⟩, hm, hp⟩ := s_X11_open_X0 K hK 1024 200 200 200 200 512 512 ((0 : Int32)) p1 p2 s0 s1 s2 s3 s4 s5 s6 s7 s8 s9 s10 s11 s12 s13 s14 rfl rfl rfl rfl rfl rfl rfl (by omega) (by omega) (by omega) (by omega) (by omega) (by omega)
    have hq0 : cv ∈ (["", "java/lang/IllegalArgumentException"] : List String) := hp.1
    have hq1 : (cv = "" → t0.toInt = p1.toInt ∧ 0 ≤ p1.toInt ∧ p1.toInt ≤ 9 ∧ 16 ≤ p2.toInt ∧ p2.toInt ≤ 1024) := hp.2.1
    have hq2 : (¬ cv = "" → t0.toInt = s0.toInt ∧ (p1.toInt < 0 ∨ 9 < p1.toInt ∨ p2.toInt < 16 ∨ 1024 < p2.toInt)) := hp.2.2.1
    have hq3 : 0 ≤ t1.toInt := hp.2.2.2.1
    have hq4 : t1.toInt ≤ 1024 := hp.2.2.2.2.1
    have hq5 : 0 ≤ t2.toInt := hp.2.2.2.2.2.1
    have hq6 : t2.toInt ≤ 200 := hp.2.2.2.2.2.2.1
    have hq7 : 0 ≤ t10.toInt := hp.2.2.2.2.2.2.2.1
    have hq8 : t10.toInt ≤ 512 := hp.2.2.2.2.2.2.2.2
    obtain ⟨a9, ha9, hs9⟩ := fo_X11_open_X0 K hK 0 (by omega) 1024 200 200 200 200 512 512 ((0 : Int32)) p1 p2 s0 s1 s2 s3 s4 s5 s6 s7 s8 s9 s10 s11 s12 s13 s14 rfl rfl rfl rfl rfl rfl rfl (by omega) (by omega) (by omega) (by omega) (by omega) (by omega)
    rw [hm] at ha9
    cases ha9
    refine ⟨_, _, (by unfold wX; exact (lx_open_0 l hl9 dC dI cI cJ cZ cF K q0 b1 b2 b3 b4 b5 b6 b7 b8 b9 b10 b11 b12 b13 b14 b15 b16 b17 b18 b19 b20 b21 b22 b23 b24 b25 b26 b27 b28 b29 (zz_fv b11 b12 b13 b14 b15 b17 b20 b21 b25 b26 s0) (svo so) s0 s1 s2 s3 s4 s5 s6 s7 s8 s9 s10 s11 s12 s13 s14 s15 s16 s17 s18 s19 s20 s21 s22 s23 s24 s25 s26 s27 s28 s29 s30 s31 s32 p1 p2 cv _ (fun _ => Int32.toInt_inj.mp h9) hm).frame (wSo cI so)), ?_, ?_⟩
    · rintro w ⟨w1, ⟨v, ⟨h1, rfl⟩, rfl⟩, rfl⟩
      obtain ⟨k1, k2, k3, k4, k5⟩ := hq1 h1
      obtain rfl : t0 = (0 : Int32) := Int32.toInt_inj.mp (k1.trans h9)
      exact ⟨⟨k2, k3, k4, k5⟩, ((0 : Int32), t1, t2, t3, t4, t5, t6, t7, t8, t9, t10, t11, t12, t13, t14, s15, s16, s17, s18, s19, s20, s21, s22, s23, s24, s25, s26, s27, s28, s29, s30, s31, s32), ⟨show -1 ≤ (0 : Int32).toInt by omega, show (0 : Int32).toInt ≤ 9 by omega, show 0 ≤ t1.toInt by omega, show t1.toInt ≤ 1024 by omega, show 0 ≤ t2.toInt by omega, show t2.toInt ≤ 200 by omega, show 0 ≤ t10.toInt by omega, show t10.toInt ≤ 512 by omega, show 0 ≤ s18.toInt by omega, show s18.toInt ≤ 1024 by omega, show 0 ≤ s20.toInt by omega, show s20.toInt ≤ 32 by omega, show 0 ≤ s23.toInt by omega, show s23.toInt ≤ 1024 by omega, show 0 ≤ s24.toInt by omega, show s24.toInt ≤ 201 by omega, show 0 ≤ s29.toInt by omega, show s29.toInt ≤ 1024 by omega⟩, ⟨fun _ => ⟨⟨k2, k3, k4, k5⟩, Int32.toInt_inj.mp (by rw [h9]; rfl), fun _ => ⟨_, _, _, _, _, _, _, _, _, _, _, _, _, _, _, (by subst h1; exact hm), rfl⟩, (fun h7 => by rw [h7] at h9; exact absurd h9 (by decide)), (fun h7 => by rw [h7] at h9; exact absurd h9 (by decide)), (fun h7 => by rw [h7] at h9; exact absurd h9 (by decide)), (fun h7 => by rw [h7] at h9; exact absurd h9 (by decide)), (fun h7 => by rw [h7] at h9; exact absurd h9 (by decide)), (fun h7 => by rw [h7] at h9; exact absurd h9 (by decide)), (fun h7 => by rw [h7] at h9; exact absurd h9 (by decide)), (fun h7 => by rw [h7] at h9; exact absurd h9 (by decide)), (fun h7 => by rw [h7] at h9; exact absurd h9 (by decide))⟩, fun h8 => absurd rfl h8⟩, (wX_0 cI cF q0 b1 b2 b3 b4 b5 b6 b7 b8 b9 b10 b11 b12 b13 b14 b15 b16 b17 b18 b19 b20 b21 b22 b23 b24 b25 b26 b27 b28 b29 _ so).symm⟩
    · rintro E w ⟨w1, ⟨rfl, h2, v, rfl, rfl⟩, rfl⟩
      obtain ⟨k1, k2⟩ := hq2 h2
      have k9 : s0 = t0 := Int32.toInt_inj.mp k1.symm
      exact ⟨zz_d1 hq0 h2, k2, (t0, t1, t2, t3, t4, t5, t6, t7, t8, t9, t10, t11, t12, t13, t14, s15, s16, s17, s18, s19, s20, s21, s22, s23, s24, s25, s26, s27, s28, s29, s30, s31, s32), ⟨show -1 ≤ t0.toInt by omega, show t0.toInt ≤ 9 by omega, show 0 ≤ t1.toInt by omega, show t1.toInt ≤ 1024 by omega, show 0 ≤ t2.toInt by omega, show t2.toInt ≤ 200 by omega, show 0 ≤ t10.toInt by omega, show t10.toInt ≤ 512 by omega, show 0 ≤ s18.toInt by omega, show s18.toInt ≤ 1024 by omega, show 0 ≤ s20.toInt by omega, show s20.toInt ≤ 32 by omega, show 0 ≤ s23.toInt by omega, show s23.toInt ≤ 1024 by omega, show 0 ≤ s24.toInt by omega, show s24.toInt ≤ 201 by omega, show 0 ≤ s29.toInt by omega, show s29.toInt ≤ 1024 by omega⟩, ⟨fun h8 => absurd h8 h2, fun _ => ⟨k2, by
        have e9 : t0 = s0 ∧ t1 = s1 ∧ t2 = s2 ∧ t3 = s3 ∧ t4 = s4 ∧ t5 = s5 ∧ t6 = s6 ∧ t7 = s7 ∧ t8 = s8 ∧ t9 = s9 ∧ t10 = s10 ∧ t11 = s11 ∧ t12 = s12 ∧ t13 = s13 ∧ t14 = s14 := hs9.resolve_left h2
        rw [e9.1, e9.2.1, e9.2.2.1, e9.2.2.2.1, e9.2.2.2.2.1, e9.2.2.2.2.2.1, e9.2.2.2.2.2.2.1, e9.2.2.2.2.2.2.2.1, e9.2.2.2.2.2.2.2.2.1, e9.2.2.2.2.2.2.2.2.2.1, e9.2.2.2.2.2.2.2.2.2.2.1, e9.2.2.2.2.2.2.2.2.2.2.2.1, e9.2.2.2.2.2.2.2.2.2.2.2.2.1, e9.2.2.2.2.2.2.2.2.2.2.2.2.2.1, e9.2.2.2.2.2.2.2.2.2.2.2.2.2.2]⟩⟩, by rw [k9]; rfl⟩
  · have l0 : (1 : Int32).toInt = 1 := rfl
    obtain ⟨⟨cv, t0, t1, t2, t3, t4, t5, t6, t7, t8, t9, t10, t11, t12, t13, t14⟩, hm, hp⟩ := s_X11_open_X0 K hK 1024 200 200 200 200 512 512 ((1 : Int32)) p1 p2 s0 s1 s2 s3 s4 s5 s6 s7 s8 s9 s10 s11 s12 s13 s15 rfl rfl rfl rfl rfl rfl rfl (by omega) (by omega) (by omega) (by omega) (by omega) (by omega)
    have hq0 : cv ∈ (["", "java/lang/IllegalArgumentException"] : List String) := hp.1
    have hq1 : (cv = "" → t0.toInt = p1.toInt ∧ 0 ≤ p1.toInt ∧ p1.toInt ≤ 9 ∧ 16 ≤ p2.toInt ∧ p2.toInt ≤ 1024) := hp.2.1
    have hq2 : (¬ cv = "" → t0.toInt = s0.toInt ∧ (p1.toInt < 0 ∨ 9 < p1.toInt ∨ p2.toInt < 16 ∨ 1024 < p2.toInt)) := hp.2.2.1
    have hq3 : 0 ≤ t1.toInt := hp.2.2.2.1
    have hq4 : t1.toInt ≤ 1024 := hp.2.2.2.2.1
    have hq5 : 0 ≤ t2.toInt := hp.2.2.2.2.2.1
    have hq6 : t2.toInt ≤ 200 := hp.2.2.2.2.2.2.1
    have hq7 : 0 ≤ t10.toInt := hp.2.2.2.2.2.2.2.1
    have hq8 : t10.toInt ≤ 512 := hp.2.2.2.2.2.2.2.2
    obtain ⟨a9, ha9, hs9⟩ := fo_X11_open_X0 K hK 0 (by omega) 1024 200 200 200 200 512 512 ((1 : Int32)) p1 p2 s0 s1 s2 s3 s4 s5 s6 s7 s8 s9 s10 s11 s12 s13 s15 rfl rfl rfl rfl rfl rfl rfl (by omega) (by omega) (by omega) (by omega) (by omega) (by omega)
    rw [hm] at ha9
    cases ha9
    refine ⟨_, _, (by unfold wX; exact (lx_open_1 l hl9 dC dI cI cJ cZ cF K q0 b1 b2 b3 b4 b5 b6 b7 b8 b9 b10 b11 b12 b13 b14 b15 b16 b17 b18 b19 b20 b21 b22 b23 b24 b25 b26 b27 b28 b29 (zz_fv b11 b12 b13 b14 b15 b17 b20 b21 b25 b26 s0) (svo so) s0 s1 s2 s3 s4 s5 s6 s7 s8 s9 s10 s11 s12 s13 s14 s15 s16 s17 s18 s19 s20 s21 s22 s23 s24 s25 s26 s27 s28 s29 s30 s31 s32 p1 p2 cv _ (fun _ => Int32.toInt_inj.mp h9) hm).frame (wSo cI so)), ?_, ?_⟩
    · rintro w ⟨w1, ⟨v, ⟨h1, rfl⟩, rfl⟩, rfl⟩
      obtain ⟨k1, k2, k3, k4, k5⟩ := hq1 h1
      obtain rfl : t0 = (1 : Int32) := Int32.toInt_inj.mp (k1.trans h9)
      exact ⟨⟨k2, k3, k4, k5⟩, ((1 : Int32), t1, t2, t3, t4, t5, t6, t7, t8, t9, t10, t11, t12, t13, s14, t14, s16, s17, s18, s19, s20, s21, s22, s23, s24, s25, s26, s27, s28, s29, s30, s31, s32), ⟨show -1 ≤ (1 : Int32).toInt by omega, show (1 : Int32).toInt ≤ 9 by omega, show 0 ≤ t1.toInt by omega, show t1.toInt ≤ 1024 by omega, show 0 ≤ t2.toInt by omega, show t2.toInt ≤ 200 by omega, show 0 ≤ t10.toInt by omega, show t10.toInt ≤ 512 by omega, show 0 ≤ s18.toInt by omega, show s18.toInt ≤ 1024 by omega, show 0 ≤ s20.toInt by omega, show s20.toInt ≤ 32 by omega, show 0 ≤ s23.toInt by omega, show s23.toInt ≤ 1024 by omega, show 0 ≤ s24.toInt by omega, show s24.toInt ≤ 201 by omega, show 0 ≤ s29.toInt by omega, show s29.toInt ≤ 1024 by omega⟩, ⟨fun _ => ⟨⟨k2, k3, k4, k5⟩, Int32.toInt_inj.mp (by rw [h9]; rfl), (fun h7 => by rw [h7] at h9; exact absurd h9 (by decide)), fun _ => ⟨_, _, _, _, _, _, _, _, _, _, _, _, _, _, _, (by subst h1; exact hm), rfl⟩, (fun h7 => by rw [h7] at h9; exact absurd h9 (by decide)), (fun h7 => by rw [h7] at h9; exact absurd h9 (by decide)), (fun h7 => by rw [h7] at h9; exact absurd h9 (by decide)), (fun h7 => by rw [h7] at h9; exact absurd h9 (by decide)), (fun h7 => by rw [h7] at h9; exact absurd h9 (by decide)), (fun h7 => by rw [h7] at h9; exact absurd h9 (by decide)), (fun h7 => by rw [h7] at h9; exact absurd h9 (by decide)), (fun h7 => by rw [h7] at h9; exact absurd h9 (by decide))⟩, fun h8 => absurd rfl h8⟩, (wX_1 cI cF q0 b1 b2 b3 b4 b5 b6 b7 b8 b9 b10 b11 b12 b13 b14 b15 b16 b17 b18 b19 b20 b21 b22 b23 b24 b25 b26 b27 b28 b29 _ so).symm⟩
    · rintro E w ⟨w1, ⟨rfl, h2, v, rfl, rfl⟩, rfl⟩
      obtain ⟨k1, k2⟩ := hq2 h2
      have k9 : s0 = t0 := Int32.toInt_inj.mp k1.symm
      exact ⟨zz_d1 hq0 h2, k2, (t0, t1, t2, t3, t4, t5, t6, t7, t8, t9, t10, t11, t12, t13, s14, t14, s16, s17, s18, s19, s20, s21, s22, s23, s24, s25, s26, s27, s28, s29, s30, s31, s32), ⟨show -1 ≤ t0.toInt by omega, show t0.toInt ≤ 9 by omega, show 0 ≤ t1.toInt by omega, show t1.toInt ≤ 1024 by omega, show 0 ≤ t2.toInt by omega, show t2.toInt ≤ 200 by omega, show 0 ≤ t10.toInt by omega, show t10.toInt ≤ 512 by omega, show 0 ≤ s18.toInt by omega, show s18.toInt ≤ 1024 by omega, show 0 ≤ s20.toInt by omega, show s20.toInt ≤ 32 by omega, show 0 ≤ s23.toInt by omega, show s23.toInt ≤ 1024 by omega, show 0 ≤ s24.toInt by omega, show s24.toInt ≤ 201 by omega, show 0 ≤ s29.toInt by omega, show s29.toInt ≤ 1024 by omega⟩, ⟨fun h8 => absurd h8 h2, fun _ => ⟨k2, by
        have e9 : t0 = s0 ∧ t1 = s1 ∧ t2 = s2 ∧ t3 = s3 ∧ t4 = s4 ∧ t5 = s5 ∧ t6 = s6 ∧ t7 = s7 ∧ t8 = s8 ∧ t9 = s9 ∧ t10 = s10 ∧ t11 = s11 ∧ t12 = s12 ∧ t13 = s13 ∧ t14 = s15 := hs9.resolve_left h2
        rw [e9.1, e9.2.1, e9.2.2.1, e9.2.2.2.1, e9.2.2.2.2.1, e9.2.2.2.2.2.1, e9.2.2.2.2.2.2.1, e9.2.2.2.2.2.2.2.1, e9.2.2.2.2.2.2.2.2.1, e9.2.2.2.2.2.2.2.2.2.1, e9.2.2.2.2.2.2.2.2.2.2.1, e9.2.2.2.2.2.2.2.2.2.2.2.1, e9.2.2.2.2.2.2.2.2.2.2.2.2.1, e9.2.2.2.2.2.2.2.2.2.2.2.2.2.1, e9.2.2.2.2.2.2.2.2.2.2.2.2.2.2]⟩⟩, by rw [k9]; rfl⟩
  · have l0 : (2 : Int32).toInt = 2 := rfl
    obtain ⟨⟨cv, t0, t1, t2, t3, t4, t5, t6, t7, t8, t9, t10, t11, t12, t13, t14⟩, hm, hp⟩ := s_X11_open_X0 K hK 1024 200 200 200 200 512 512 ((2 : Int32)) p1 p2 s0 s1 s2 s3 s4 s5 s6 s7 s8 s9 s10 s11 s12 s13 s16 rfl rfl rfl rfl rfl rfl rfl (by omega) (by omega) (by omega) (by omega) (by omega) (by omega)
    have hq0 : cv ∈ (["", "java/lang/IllegalArgumentException"] : List String) := hp.1
    have hq1 : (cv = "" → t0.toInt = p1.toInt ∧ 0 ≤ p1.toInt ∧ p1.toInt ≤ 9 ∧ 16 ≤ p2.toInt ∧ p2.toInt ≤ 1024) := hp.2.1
    have hq2 : (¬ cv = "" → t0.toInt = s0.toInt ∧ (p1.toInt < 0 ∨ 9 < p1.toInt ∨ p2.toInt < 16 ∨ 1024 < p2.toInt)) := hp.2.2.1
    have hq3 : 0 ≤ t1.toInt := hp.2.2.2.1
    have hq4 : t1.toInt ≤ 1024 := hp.2.2.2.2.1
    have hq5 : 0 ≤ t2.toInt := hp.2.2.2.2.2.1
    have hq6 : t2.toInt ≤ 200 := hp.2.2.2.2.2.2.1
    have hq7 : 0 ≤ t10.toInt := hp.2.2.2.2.2.2.2.1
    have hq8 : t10.toInt ≤ 512 := hp.2.2.2.2.2.2.2.2
    obtain ⟨a9, ha9, hs9⟩ := fo_X11_open_X0 K hK 0 (by omega) 1024 200 200 200 200 512 512 ((2 : Int32)) p1 p2 s0 s1 s2 s3 s4 s5 s6 s7 s8 s9 s10 s11 s12 s13 s16 rfl rfl rfl rfl rfl rfl rfl (by omega) (by omega) (by omega) (by omega) (by omega) (by omega)
    rw [hm] at ha9
    cases ha9
    refine ⟨_, _, (by unfold wX; exact (lx_open_2 l hl9 dC dI cI cJ cZ cF K q0 b1 b2 b3 b4 b5 b6 b7 b8 b9 b10 b11 b12 b13 b14 b15 b16 b17 b18 b19 b20 b21 b22 b23 b24 b25 b26 b27 b28 b29 (zz_fv b11 b12 b13 b14 b15 b17 b20 b21 b25 b26 s0) (svo so) s0 s1 s2 s3 s4 s5 s6 s7 s8 s9 s10 s11 s12 s13 s14 s15 s16 s17 s18 s19 s20 s21 s22 s23 s24 s25 s26 s27 s28 s29 s30 s31 s32 p1 p2 cv _ (fun _ => Int32.toInt_inj.mp h9) hm).frame (wSo cI so)), ?_, ?_⟩
    · rintro w ⟨w1, ⟨v, ⟨h1, rfl⟩, rfl⟩, rfl⟩
      obtain ⟨k1, k2, k3, k4, k5⟩ := hq1 h1
      obtain rfl : t0 = (2 : Int32) := Int32.toInt_inj.mp (k1.trans h9)
      exact ⟨⟨k2, k3, k4, k5⟩, ((2 : Int32), t1, t2, t3, t4, t5, t6, t7, t8, t9, t10, t11, t12, t13, s14, s15, t14, s17, s18, s19, s20, s21, s22, s23, s24, s25, s26, s27, s28, s29, s30, s31, s32), ⟨show -1 ≤ (2 : Int32).toInt by omega, show (2 : Int32).toInt ≤ 9 by omega, show 0 ≤ t1.toInt by omega, show t1.toInt ≤ 1024 by omega, show 0 ≤ t2.toInt by omega, show t2.toInt ≤ 200 by omega, show 0 ≤ t10.toInt by omega, show t10.toInt ≤ 512 by omega, show 0 ≤ s18.toInt by omega, show s18.toInt ≤ 1024 by omega, show 0 ≤ s20.toInt by omega, show s20.toInt ≤ 32 by omega, show 0 ≤ s23.toInt by omega, show s23.toInt ≤ 1024 by omega, show 0 ≤ s24.toInt by omega, show s24.toInt ≤ 201 by omega, show 0 ≤ s29.toInt by omega, show s29.toInt ≤ 1024 by omega⟩, ⟨fun _ => ⟨⟨k2, k3, k4, k5⟩, Int32.toInt_inj.mp (by rw [h9]; rfl), (fun h7 => by rw [h7] at h9; exact absurd h9 (by decide)), (fun h7 => by rw [h7] at h9; exact absurd h9 (by decide)), fun _ => ⟨_, _, _, _, _, _, _, _, _, _, _, _, _, _, _, (by subst h1; exact hm), rfl⟩, (fun h7 => by rw [h7] at h9; exact absurd h9 (by decide)), (fun h7 => by rw [h7] at h9; exact absurd h9 (by decide)), (fun h7 => by rw [h7] at h9; exact absurd h9 (by decide)), (fun h7 => by rw [h7] at h9; exact absurd h9 (by decide)), (fun h7 => by rw [h7] at h9; exact absurd h9 (by decide)), (fun h7 => by rw [h7] at h9; exact absurd h9 (by decide)), (fun h7 => by rw [h7] at h9; exact absurd h9 (by decide))⟩, fun h8 => absurd rfl h8⟩, (wX_2 cI cF q0 b1 b2 b3 b4 b5 b6 b7 b8 b9 b10 b11 b12 b13 b14 b15 b16 b17 b18 b19 b20 b21 b22 b23 b24 b25 b26 b27 b28 b29 _ so).symm⟩
    · rintro E w ⟨w1, ⟨rfl, h2, v, rfl, rfl⟩, rfl⟩
      obtain ⟨k1, k2⟩ := hq2 h2
      have k9 : s0 = t0 := Int32.toInt_inj.mp k1.symm
      exact ⟨zz_d1 hq0 h2, k2, (t0, t1, t2, t3, t4, t5, t6, t7, t8, t9, t10, t11, t12, t13, s14, s15, t14, s17, s18, s19, s20, s21, s22, s23, s24, s25, s26, s27, s28, s29, s30, s31, s32), ⟨show -1 ≤ t0.toInt by omega, show t0.toInt ≤ 9 by omega, show 0 ≤ t1.toInt by omega, show t1.toInt ≤ 1024 by omega, show 0 ≤ t2.toInt by omega, show t2.toInt ≤ 200 by omega, show 0 ≤ t10.toInt by omega, show t10.toInt ≤ 512 by omega, show 0 ≤ s18.toInt by omega, show s18.toInt ≤ 1024 by omega, show 0 ≤ s20.toInt by omega, show s20.toInt ≤ 32 by omega, show 0 ≤ s23.toInt by omega, show s23.toInt ≤ 1024 by omega, show 0 ≤ s24.toInt by omega, show s24.toInt ≤ 201 by omega, show 0 ≤ s29.toInt by omega, show s29.toInt ≤ 1024 by omega⟩, ⟨fun h8 => absurd h8 h2, fun _ => ⟨k2, by
        have e9 : t0 = s0 ∧ t1 = s1 ∧ t2 = s2 ∧ t3 = s3 ∧ t4 = s4 ∧ t5 = s5 ∧ t6 = s6 ∧ t7 = s7 ∧ t8 = s8 ∧ t9 = s9 ∧ t10 = s10 ∧ t11 = s11 ∧ t12 = s12 ∧ t13 = s13 ∧ t14 = s16 := hs9.resolve_left h2
        rw [e9.1, e9.2.1, e9.2.2.1, e9.2.2.2.1, e9.2.2.2.2.1, e9.2.2.2.2.2.1, e9.2.2.2.2.2.2.1, e9.2.2.2.2.2.2.2.1, e9.2.2.2.2.2.2.2.2.1, e9.2.2.2.2.2.2.2.2.2.1, e9.2.2.2.2.2.2.2.2.2.2.1, e9.2.2.2.2.2.2.2.2.2.2.2.1, e9.2.2.2.2.2.2.2.2.2.2.2.2.1, e9.2.2.2.2.2.2.2.2.2.2.2.2.2.1, e9.2.2.2.2.2.2.2.2.2.2.2.2.2.2]⟩⟩, by rw [k9]; rfl⟩
  · have l0 : (3 : Int32).toInt = 3 := rfl
    obtain ⟨⟨cv, t0, t1, t2, t3, t4, t5, t6, t7, t8, t9, t10, t11, t12, t13, t14⟩, hm, hp⟩ := s_X11_open_X0 K hK 1024 200 200 200 200 512 512 ((3 : Int32)) p1 p2 s0 s1 s2 s3 s4 s5 s6 s7 s8 s9 s10 s11 s12 s13 s17 rfl rfl rfl rfl rfl rfl rfl (by omega) (by omega) (by omega) (by omega) (by omega) (by omega)
    have hq0 : cv ∈ (["", "java/lang/IllegalArgumentException"] : List String) := hp.1
    have hq1 : (cv = "" → t0.toInt = p1.toInt ∧ 0 ≤ p1.toInt ∧ p1.toInt ≤ 9 ∧ 16 ≤ p2.toInt ∧ p2.toInt ≤ 1024) := hp.2.1
    have hq2 : (¬ cv = "" → t0.toInt = s0.toInt ∧ (p1.toInt < 0 ∨ 9 < p1.toInt ∨ p2.toInt < 16 ∨ 1024 < p2.toInt)) := hp.2.2.1
    have hq3 : 0 ≤ t1.toInt := hp.2.2.2.1
    have hq4 : t1.toInt ≤ 1024 := hp.2.2.2.2.1
    have hq5 : 0 ≤ t2.toInt := hp.2.2.2.2.2.1
    have hq6 : t2.toInt ≤ 200 := hp.2.2.2.2.2.2.1
    have hq7 : 0 ≤ t10.toInt := hp.2.2.2.2.2.2.2.1
    have hq8 : t10.toInt ≤ 512 := hp.2.2.2.2.2.2.2.2
    obtain ⟨a9, ha9, hs9⟩ := fo_X11_open_X0 K hK 0 (by omega) 1024 200 200 200 200 512 512 ((3 : Int32)) p1 p2 s0 s1 s2 s3 s4 s5 s6 s7 s8 s9 s10 s11 s12 s13 s17 rfl rfl rfl rfl rfl rfl rfl (by omega) (by omega) (by omega) (by omega) (by omega) (by omega)
    rw [hm] at ha9
    cases ha9
    refine ⟨_, _, (by unfold wX; exact (lx_open_3 l hl9 dC dI cI cJ cZ cF K q0 b1 b2 b3 b4 b5 b6 b7 b8 b9 b10 b11 b12 b13 b14 b15 b16 b17 b18 b19 b20 b21 b22 b23 b24 b25 b26 b27 b28 b29 (zz_fv b11 b12 b13 b14 b15 b17 b20 b21 b25 b26 s0) (svo so) s0 s1 s2 s3 s4 s5 s6 s7 s8 s9 s10 s11 s12 s13 s14 s15 s16 s17 s18 s19 s20 s21 s22 s23 s24 s25 s26 s27 s28 s29 s30 s31 s32 p1 p2 cv _ (fun _ => Int32.toInt_inj.mp h9) hm).frame (wSo cI so)), ?_, ?_⟩
    · rintro w ⟨w1, ⟨v, ⟨h1, rfl⟩, rfl⟩, rfl⟩
      obtain ⟨k1, k2, k3, k4, k5⟩ := hq1 h1
      obtain rfl : t0 = (3 : Int32) := Int32.toInt_inj.mp (k1.trans h9)
      exact ⟨⟨k2, k3, k4, k5⟩, ((3 : Int32), t1, t2, t3, t4, t5, t6, t7, t8, t9, t10, t11, t12, t13, s14, s15, s16, t14, s18, s19, s20, s21, s22, s23, s24, s25, s26, s27, s28, s29, s30, s31, s32), ⟨show -1 ≤ (3 : Int32).toInt by omega, show (3 : Int32).toInt ≤ 9 by omega, show 0 ≤ t1.toInt by omega, show t1.toInt ≤ 1024 by omega, show 0 ≤ t2.toInt by omega, show t2.toInt ≤ 200 by omega, show 0 ≤ t10.toInt by omega, show t10.toInt ≤ 512 by omega, show 0 ≤ s18.toInt by omega, show s18.toInt ≤ 1024 by omega, show 0 ≤ s20.toInt by omega, show s20.toInt ≤ 32 by omega, show 0 ≤ s23.toInt by omega, show s23.toInt ≤ 1024 by omega, show 0 ≤ s24.toInt by omega, show s24.toInt ≤ 201 by omega, show 0 ≤ s29.toInt by omega, show s29.toInt ≤ 1024 by omega⟩, ⟨fun _ => ⟨⟨k2, k3, k4, k5⟩, Int32.toInt_inj.mp (by rw [h9]; rfl), (fun h7 => by rw [h7] at h9; exact absurd h9 (by decide)), (fun h7 => by rw [h7] at h9; exact absurd h9 (by decide)), (fun h7 => by rw [h7] at h9; exact absurd h9 (by decide)), fun _ => ⟨_, _, _, _, _, _, _, _, _, _, _, _, _, _, _, (by subst h1; exact hm), rfl⟩, (fun h7 => by rw [h7] at h9; exact absurd h9 (by decide)), (fun h7 => by rw [h7] at h9; exact absurd h9 (by decide)), (fun h7 => by rw [h7] at h9; exact absurd h9 (by decide)), (fun h7 => by rw [h7] at h9; exact absurd h9 (by decide)), (fun h7 => by rw [h7] at h9; exact absurd h9 (by decide)), (fun h7 => by rw [h7] at h9; exact absurd h9 (by decide))⟩, fun h8 => absurd rfl h8⟩, (wX_3 cI cF q0 b1 b2 b3 b4 b5 b6 b7 b8 b9 b10 b11 b12 b13 b14 b15 b16 b17 b18 b19 b20 b21 b22 b23 b24 b25 b26 b27 b28 b29 _ so).symm⟩
    · rintro E w ⟨w1, ⟨rfl, h2, v, rfl, rfl⟩, rfl⟩
      obtain ⟨k1, k2⟩ := hq2 h2
      have k9 : s0 = t0 := Int32.toInt_inj.mp k1.symm
      exact ⟨zz_d1 hq0 h2, k2, (t0, t1, t2, t3, t4, t5, t6, t7, t8, t9, t10, t11, t12, t13, s14, s15, s16, t14, s18, s19, s20, s21, s22, s23, s24, s25, s26, s27, s28, s29, s30, s31, s32), ⟨show -1 ≤ t0.toInt by omega, show t0.toInt ≤ 9 by omega, show 0 ≤ t1.toInt by omega, show t1.toInt ≤ 1024 by omega, show 0 ≤ t2.toInt by omega, show t2.toInt ≤ 200 by omega, show 0 ≤ t10.toInt by omega, show t10.toInt ≤ 512 by omega, show 0 ≤ s18.toInt by omega, show s18.toInt ≤ 1024 by omega, show 0 ≤ s20.toInt by omega, show s20.toInt ≤ 32 by omega, show 0 ≤ s23.toInt by omega, show s23.toInt ≤ 1024 by omega, show 0 ≤ s24.toInt by omega, show s24.toInt ≤ 201 by omega, show 0 ≤ s29.toInt by omega, show s29.toInt ≤ 1024 by omega⟩, ⟨fun h8 => absurd h8 h2, fun _ => ⟨k2, by
        have e9 : t0 = s0 ∧ t1 = s1 ∧ t2 = s2 ∧ t3 = s3 ∧ t4 = s4 ∧ t5 = s5 ∧ t6 = s6 ∧ t7 = s7 ∧ t8 = s8 ∧ t9 = s9 ∧ t10 = s10 ∧ t11 = s11 ∧ t12 = s12 ∧ t13 = s13 ∧ t14 = s17 := hs9.resolve_left h2
        rw [e9.1, e9.2.1, e9.2.2.1, e9.2.2.2.1, e9.2.2.2.2.1, e9.2.2.2.2.2.1, e9.2.2.2.2.2.2.1, e9.2.2.2.2.2.2.2.1, e9.2.2.2.2.2.2.2.2.1, e9.2.2.2.2.2.2.2.2.2.1, e9.2.2.2.2.2.2.2.2.2.2.1, e9.2.2.2.2.2.2.2.2.2.2.2.1, e9.2.2.2.2.2.2.2.2.2.2.2.2.1, e9.2.2.2.2.2.2.2.2.2.2.2.2.2.1, e9.2.2.2.2.2.2.2.2.2.2.2.2.2.2]⟩⟩, by rw [k9]; rfl⟩
  · have l0 : (4 : Int32).toInt = 4 := rfl
    obtain ⟨⟨cv, t0, t1, t2, t3, t4, t5, t6, t7, t8, t9, t10, t11, t12, t13, t14, t15⟩, hm, hp⟩ := s_X11_open_X3 K hK 1024 200 200 200 200 512 512 1024 p1 p2 s0 s1 s2 s3 s4 s5 s6 s7 s8 s9 s10 s11 s12 s13 s18 s19 rfl rfl rfl rfl rfl rfl rfl rfl (by omega) (by omega) (by omega) (by omega) (by omega) (by omega) (by omega) (by omega)
    have hq0 : cv ∈ (["", "java/lang/IllegalArgumentException"] : List String) := hp.1
    have hq1 : (cv = "" → t0.toInt = p1.toInt ∧ 0 ≤ p1.toInt ∧ p1.toInt ≤ 9 ∧ 16 ≤ p2.toInt ∧ p2.toInt ≤ 1024) := hp.2.1
    have hq2 : (¬ cv = "" → t0.toInt = s0.toInt ∧ (p1.toInt < 0 ∨ 9 < p1.toInt ∨ p2.toInt < 16 ∨ 1024 < p2.toInt)) := hp.2.2.1
    have hq3 : 0 ≤ t1.toInt := hp.2.2.2.1
    have hq4 : t1.toInt ≤ 1024 := hp.2.2.2.2.1
    have hq5 : 0 ≤ t2.toInt := hp.2.2.2.2.2.1
    have hq6 : t2.toInt ≤ 200 := hp.2.2.2.2.2.2.1
    have hq7 : 0 ≤ t10.toInt := hp.2.2.2.2.2.2.2.1
    have hq8 : t10.toInt ≤ 512 := hp.2.2.2.2.2.2.2.2.1
    have hq9 : 0 ≤ t14.toInt := hp.2.2.2.2.2.2.2.2.2.1
    have hq10 : t14.toInt ≤ 1024 := hp.2.2.2.2.2.2.2.2.2.2
    obtain ⟨a9, ha9, hs9⟩ := fo_X11_open_X3 K hK 0 (by omega) 1024 200 200 200 200 512 512 1024 p1 p2 s0 s1 s2 s3 s4 s5 s6 s7 s8 s9 s10 s11 s12 s13 s18 s19 rfl rfl rfl rfl rfl rfl rfl rfl (by omega) (by omega) (by omega) (by omega) (by omega) (by omega) (by omega) (by omega)
    rw [hm] at ha9
    cases ha9
    refine ⟨_, _, (by unfold wX; exact (lx_open_4 l hl9 dC dI cI cJ cZ cF K q0 b1 b2 b3 b4 b5 b6 b7 b8 b9 b10 b11 b12 b13 b14 b15 b16 b17 b18 b19 b20 b21 b22 b23 b24 b25 b26 b27 b28 b29 (zz_fv b11 b12 b13 b14 b15 b17 b20 b21 b25 b26 s0) (svo so) s0 s1 s2 s3 s4 s5 s6 s7 s8 s9 s10 s11 s12 s13 s14 s15 s16 s17 s18 s19 s20 s21 s22 s23 s24 s25 s26 s27 s28 s29 s30 s31 s32 p1 p2 cv _ (fun _ => Int32.toInt_inj.mp h9) hm).frame (wSo cI so)), ?_, ?_⟩
    · rintro w ⟨w1, ⟨v, ⟨h1, rfl⟩, rfl⟩, rfl⟩
      obtain ⟨k1, k2, k3, k4, k5⟩ := hq1 h1
      obtain rfl : t0 = (4 : Int32) := Int32.toInt_inj.mp (k1.trans h9)
      exact ⟨⟨k2, k3, k4, k5⟩, ((4 : Int32), t1, t2, t3, t4, t5, t6, t7, t8, t9, t10, t11, t12, t13, s14, s15, s16, s17, t14, t15, s20, s21, s22, s23, s24, s25, s26, s27, s28, s29, s30, s31, s32), ⟨show -1 ≤ (4 : Int32).toInt by omega, show (4 : Int32).toInt ≤ 9 by omega, show 0 ≤ t1.toInt by omega, show t1.toInt ≤ 1024 by omega, show 0 ≤ t2.toInt by omega, show t2.toInt ≤ 200 by omega, show 0 ≤ t10.toInt by omega, show t10.toInt ≤ 512 by omega, show 0 ≤ t14.toInt by omega, show t14.toInt ≤ 1024 by omega, show 0 ≤ s20.toInt by omega, show s20.toInt ≤ 32 by omega, show 0 ≤ s23.toInt by omega, show s23.toInt ≤ 1024 by omega, show 0 ≤ s24.toInt by omega, show s24.toInt ≤ 201 by omega, show 0 ≤ s29.toInt by omega, show s29.toInt ≤ 1024 by omega⟩, ⟨fun _ => ⟨⟨k2, k3, k4, k5⟩, Int32.toInt_inj.mp (by rw [h9]; rfl), (fun h7 => by rw [h7] at h9; exact absurd h9 (by decide)), (fun h7 => by rw [h7] at h9; exact absurd h9 (by decide)), (fun h7 => by rw [h7] at h9; exact absurd h9 (by decide)), (fun h7 => by rw [h7] at h9; exact absurd h9 (by decide)), fun _ => ⟨_, _, _, _, _, _, _, _, _, _, _, _, _, _, _, _, (by subst h1; exact hm), rfl⟩, (fun h7 => by rw [h7] at h9; exact absurd h9 (by decide)), (fun h7 => by rw [h7] at h9; exact absurd h9 (by decide)), (fun h7 => by rw [h7] at h9; exact absurd h9 (by decide)), (fun h7 => by rw [h7] at h9; exact absurd h9 (by decide)), (fun h7 => by rw [h7] at h9; exact absurd h9 (by decide))⟩, fun h8 => absurd rfl h8⟩, (wX_4 cI cF q0 b1 b2 b3 b4 b5 b6 b7 b8 b9 b10 b11 b12 b13 b14 b15 b16 b17 b18 b19 b20 b21 b22 b23 b24 b25 b26 b27 b28 b29 _ so).symm⟩
    · rintro E w ⟨w1, ⟨rfl, h2, v, rfl, rfl⟩, rfl⟩
      obtain ⟨k1, k2⟩ := hq2 h2
      have k9 : s0 = t0 := Int32.toInt_inj.mp k1.symm
      exact ⟨zz_d1 hq0 h2, k2, (t0, t1, t2, t3, t4, t5, t6, t7, t8, t9, t10, t11, t12, t13, s14, s15, s16, s17, t14, t15, s20, s21, s22, s23, s24, s25, s26, s27, s28, s29, s30, s31, s32), ⟨show -1 ≤ t0.toInt by omega, show t0.toInt ≤ 9 by omega, show 0 ≤ t1.toInt by omega, show t1.toInt ≤ 1024 by omega, show 0 ≤ t2.toInt by omega, show t2.toInt ≤ 200 by omega, show 0 ≤ t10.toInt by omega, show t10.toInt ≤ 512 by omega, show 0 ≤ t14.toInt by omega, show t14.toInt ≤ 1024 by omega, show 0 ≤ s20.toInt by omega, show s20.toInt ≤ 32 by omega, show 0 ≤ s23.toInt by omega, show s23.toInt ≤ 1024 by omega, show 0 ≤ s24.toInt by omega, show s24.toInt ≤ 201 by omega, show 0 ≤ s29.toInt by omega, show s29.toInt ≤ 1024 by omega⟩, ⟨fun h8 => absurd h8 h2, fun _ => ⟨k2, by
        have e9 : t0 = s0 ∧ t1 = s1 ∧ t2 = s2 ∧ t3 = s3 ∧ t4 = s4 ∧ t5 = s5 ∧ t6 = s6 ∧ t7 = s7 ∧ t8 = s8 ∧ t9 = s9 ∧ t10 = s10 ∧ t11 = s11 ∧ t12 = s12 ∧ t13 = s13 ∧ t14 = s18 ∧ t15 = s19 := hs9.resolve_left h2
        rw [e9.1, e9.2.1, e9.2.2.1, e9.2.2.2.1, e9.2.2.2.2.1, e9.2.2.2.2.2.1, e9.2.2.2.2.2.2.1, e9.2.2.2.2.2.2.2.1, e9.2.2.2.2.2.2.2.2.1, e9.2.2.2.2.2.2.2.2.2.1, e9.2.2.2.2.2.2.2.2.2.2.1, e9.2.2.2.2.2.2.2.2.2.2.2.1, e9.2.2.2.2.2.2.2.2.2.2.2.2.1, e9.2.2.2.2.2.2.2.2.2.2.2.2.2.1, e9.2.2.2.2.2.2.2.2.2.2.2.2.2.2.1, e9.2.2.2.2.2.2.2.2.2.2.2.2.2.2.2]⟩⟩, by rw [k9]; rfl⟩
  · have l0 : (5 : Int32).toInt = 5 := rfl
    obtain ⟨⟨cv, t0, t1, t2, t3, t4, t5, t6, t7, t8, t9, t10, t11, t12, t13, t14, t15, t16⟩, hm, hp⟩ := s_X11_open_X5 K hK 1024 200 200 200 200 512 512 32 32 p1 p2 s0 s1 s2 s3 s4 s5 s6 s7 s8 s9 s10 s11 s12 s13 s20 s21 s22 rfl rfl rfl rfl rfl rfl rfl rfl rfl (by omega) (by omega) (by omega) (by omega) (by omega) (by omega) (by omega) (by omega)
    have hq0 : cv ∈ (["", "java/lang/IllegalArgumentException"] : List String) := hp.1
    have hq1 : (cv = "" → t0.toInt = p1.toInt ∧ 0 ≤ p1.toInt ∧ p1.toInt ≤ 9 ∧ 16 ≤ p2.toInt ∧ p2.toInt ≤ 1024) := hp.2.1
    have hq2 : (¬ cv = "" → t0.toInt = s0.toInt ∧ (p1.toInt < 0 ∨ 9 < p1.toInt ∨ p2.toInt < 16 ∨ 1024 < p2.toInt)) := hp.2.2.1
    have hq3 : 0 ≤ t1.toInt := hp.2.2.2.1
    have hq4 : t1.toInt ≤ 1024 := hp.2.2.2.2.1
    have hq5 : 0 ≤ t2.toInt := hp.2.2.2.2.2.1
    have hq6 : t2.toInt ≤ 200 := hp.2.2.2.2.2.2.1
    have hq7 : 0 ≤ t10.toInt := hp.2.2.2.2.2.2.2.1
    have hq8 : t10.toInt ≤ 512 := hp.2.2.2.2.2.2.2.2.1
    have hq9 : 0 ≤ t14.toInt := hp.2.2.2.2.2.2.2.2.2.1
    have hq10 : t14.toInt ≤ 32 := hp.2.2.2.2.2.2.2.2.2.2
    obtain ⟨a9, ha9, hs9⟩ := fo_X11_open_X5 K hK 0 (by omega) 1024 200 200 200 200 512 512 32 32 p1 p2 s0 s1 s2 s3 s4 s5 s6 s7 s8 s9 s10 s11 s12 s13 s20 s21 s22 rfl rfl rfl rfl rfl rfl rfl rfl rfl (by omega) (by omega) (by omega) (by omega) (by omega) (by omega) (by omega) (by omega)
    rw [hm] at ha9
    cases ha9
    refine ⟨_, _, (by unfold wX; exact (lx_open_5 l hl9 dC dI cI cJ cZ cF K q0 b1 b2 b3 b4 b5 b6 b7 b8 b9 b10 b11 b12 b13 b14 b15 b16 b17 b18 b19 b20 b21 b22 b23 b24 b25 b26 b27 b28 b29 (zz_fv b11 b12 b13 b14 b15 b17 b20 b21 b25 b26 s0) (svo so) s0 s1 s2 s3 s4 s5 s6 s7 s8 s9 s10 s11 s12 s13 s14 s15 s16 s17 s18 s19 s20 s21 s22 s23 s24 s25 s26 s27 s28 s29 s30 s31 s32 p1 p2 cv _ (fun _ => Int32.toInt_inj.mp h9) hm).frame (wSo cI so)), ?_, ?_⟩
    · rintro w ⟨w1, ⟨v, ⟨h1, rfl⟩, rfl⟩, rfl⟩
      obtain ⟨k1, k2, k3, k4, k5⟩ := hq1 h1
      obtain rfl : t0 = (5 : Int32) := Int32.toInt_inj.mp (k1.trans h9)
      exact ⟨⟨k2, k3, k4, k5⟩, ((5 : Int32), t1, t2, t3, t4, t5, t6, t7, t8, t9, t10, t11, t12, t13, s14, s15, s16, s17, s18, s19, t14, t15, t16, s23, s24, s25, s26, s27, s28, s29, s30, s31, s32), ⟨show -1 ≤ (5 : Int32).toInt by omega, show (5 : Int32).toInt ≤ 9 by omega, show 0 ≤ t1.toInt by omega, show t1.toInt ≤ 1024 by omega, show 0 ≤ t2.toInt by omega, show t2.toInt ≤ 200 by omega, show 0 ≤ t10.toInt by omega, show t10.toInt ≤ 512 by omega, show 0 ≤ s18.toInt by omega, show s18.toInt ≤ 1024 by omega, show 0 ≤ t14.toInt by omega, show t14.toInt ≤ 32 by omega, show 0 ≤ s23.toInt by omega, show s23.toInt ≤ 1024 by omega, show 0 ≤ s24.toInt by omega, show s24.toInt ≤ 201 by omega, show 0 ≤ s29.toInt by omega, show s29.toInt ≤ 1024 by omega⟩, ⟨fun _ => ⟨⟨k2, k3, k4, k5⟩, Int32.toInt_inj.mp (by rw [h9]; rfl), (fun h7 => by rw [h7] at h9; exact absurd h9 (by decide)), (fun h7 => by rw [h7] at h9; exact absurd h9 (by decide)), (fun h7 => by rw [h7] at h9; exact absurd h9 (by decide)), (fun h7 => by rw [h7] at h9; exact absurd h9 (by decide)), (fun h7 => by rw [h7] at h9; exact absurd h9 (by decide)), fun _ => ⟨_, _, _, _, _, _, _, _, _, _, _, _, _, _, _, _, _, (by subst h1; exact hm), rfl⟩, (fun h7 => by rw [h7] at h9; exact absurd h9 (by decide)), (fun h7 => by rw [h7] at h9; exact absurd h9 (by decide)), (fun h7 => by rw [h7] at h9; exact absurd h9 (by decide)), (fun h7 => by rw [h7] at h9; exact absurd h9 (by decide))⟩, fun h8 => absurd rfl h8⟩, (wX_5 cI cF q0 b1 b2 b3 b4 b5 b6 b7 b8 b9 b10 b11 b12 b13 b14 b15 b16 b17 b18 b19 b20 b21 b22 b23 b24 b25 b26 b27 b28 b29 _ so).symm⟩
    · rintro E w ⟨w1, ⟨rfl, h2, v, rfl, rfl⟩, rfl⟩
      obtain ⟨k1, k2⟩ := hq2 h2
      have k9 : s0 = t0 := Int32.toInt_inj.mp k1.symm
      exact ⟨zz_d1 hq0 h2, k2, (t0, t1, t2, t3, t4, t5, t6, t7, t8, t9, t10, t11, t12, t13, s14, s15, s16, s17, s18, s19, t14, t15, t16, s23, s24, s25, s26, s27, s28, s29, s30, s31, s32), ⟨show -1 ≤ t0.toInt by omega, show t0.toInt ≤ 9 by omega, show 0 ≤ t1.toInt by omega, show t1.toInt ≤ 1024 by omega, show 0 ≤ t2.toInt by omega, show t2.toInt ≤ 200 by omega, show 0 ≤ t10.toInt by omega, show t10.toInt ≤ 512 by omega, show 0 ≤ s18.toInt by omega, show s18.toInt ≤ 1024 by omega, show 0 ≤ t14.toInt by omega, show t14.toInt ≤ 32 by omega, show 0 ≤ s23.toInt by omega, show s23.toInt ≤ 1024 by omega, show 0 ≤ s24.toInt by omega, show s24.toInt ≤ 201 by omega, show 0 ≤ s29.toInt by omega, show s29.toInt ≤ 1024 by omega⟩, ⟨fun h8 => absurd h8 h2, fun _ => ⟨k2, by
        have e9 : t0 = s0 ∧ t1 = s1 ∧ t2 = s2 ∧ t3 = s3 ∧ t4 = s4 ∧ t5 = s5 ∧ t6 = s6 ∧ t7 = s7 ∧ t8 = s8 ∧ t9 = s9 ∧ t10 = s10 ∧ t11 = s11 ∧ t12 = s12 ∧ t13 = s13 ∧ t14 = s20 ∧ t15 = s21 ∧ t16 = s22 := hs9.resolve_left h2
        rw [e9.1, e9.2.1, e9.2.2.1, e9.2.2.2.1, e9.2.2.2.2.1, e9.2.2.2.2.2.1, e9.2.2.2.2.2.2.1, e9.2.2.2.2.2.2.2.1, e9.2.2.2.2.2.2.2.2.1, e9.2.2.2.2.2.2.2.2.2.1, e9.2.2.2.2.2.2.2.2.2.2.1, e9.2.2.2.2.2.2.2.2.2.2.2.1, e9.2.2.2.2.2.2.2.2.2.2.2.2.1, e9.2.2.2.2.2.2.2.2.2.2.2.2.2.1, e9.2.2.2.2.2.2.2.2.2.2.2.2.2.2.1, e9.2.2.2.2.2.2.2.2.2.2.2.2.2.2.2.1, e9.2.2.2.2.2.2.2.2.2.2.2.2.2.2.2.2]⟩⟩, by rw [k9]; rfl⟩
  · have l0 : (6 : Int32).toInt = 6 := rfl
    obtain ⟨⟨cv, t0, t1, t2, t3, t4, t5, t6, t7, t8, t9, t10, t11, t12, t13, t14⟩, hm, hp⟩ := s_X11_open_X2 K hK 1024 200 200 200 200 512 512 p1 p2 s0 s1 s2 s3 s4 s5 s6 s7 s8 s9 s10 s11 s12 s13 s23 rfl rfl rfl rfl rfl rfl rfl (by omega) (by omega) (by omega) (by omega) (by omega) (by omega) (by omega) (by omega)
    have hq0 : cv ∈ (["", "java/lang/IllegalArgumentException"] : List String) := hp.1
    have hq1 : (cv = "" → t0.toInt = p1.toInt ∧ 0 ≤ p1.toInt ∧ p1.toInt ≤ 9 ∧ 16 ≤ p2.toInt ∧ p2.toInt ≤ 1024) := hp.2.1
    have hq2 : (¬ cv = "" → t0.toInt = s0.toInt ∧ (p1.toInt < 0 ∨ 9 < p1.toInt ∨ p2.toInt < 16 ∨ 1024 < p2.toInt)) := hp.2.2.1
    have hq3 : 0 ≤ t1.toInt := hp.2.2.2.1
    have hq4 : t1.toInt ≤ 1024 := hp.2.2.2.2.1
    have hq5 : 0 ≤ t2.toInt := hp.2.2.2.2.2.1
    have hq6 : t2.toInt ≤ 200 := hp.2.2.2.2.2.2.1
    have hq7 : 0 ≤ t10.toInt := hp.2.2.2.2.2.2.2.1
    have hq8 : t10.toInt ≤ 512 := hp.2.2.2.2.2.2.2.2.1
    have hq9 : 0 ≤ t14.toInt := hp.2.2.2.2.2.2.2.2.2.1
    have hq10 : t14.toInt ≤ 1024 := hp.2.2.2.2.2.2.2.2.2.2
    obtain ⟨a9, ha9, hs9⟩ := fo_X11_open_X2 K hK 0 (by omega) 1024 200 200 200 200 512 512 p1 p2 s0 s1 s2 s3 s4 s5 s6 s7 s8 s9 s10 s11 s12 s13 s23 rfl rfl rfl rfl rfl rfl rfl (by omega) (by omega) (by omega) (by omega) (by omega) (by omega) (by omega) (by omega)
    rw [hm] at ha9
    cases ha9
    refine ⟨_, _, (by unfold wX; exact (lx_open_6 l hl9 dC dI cI cJ cZ cF K q0 b1 b2 b3 b4 b5 b6 b7 b8 b9 b10 b11 b12 b13 b14 b15 b16 b17 b18 b19 b20 b21 b22 b23 b24 b25 b26 b27 b28 b29 (zz_fv b11 b12 b13 b14 b15 b17 b20 b21 b25 b26 s0) (svo so) s0 s1 s2 s3 s4 s5 s6 s7 s8 s9 s10 s11 s12 s13 s14 s15 s16 s17 s18 s19 s20 s21 s22 s23 s24 s25 s26 s27 s28 s29 s30 s31 s32 p1 p2 cv _ (fun _ => Int32.toInt_inj.mp h9) hm).frame (wSo cI so)), ?_, ?_⟩
    · rintro w ⟨w1, ⟨v, ⟨h1, rfl⟩, rfl⟩, rfl⟩
      obtain ⟨k1, k2, k3, k4, k5⟩ := hq1 h1
      obtain rfl : t0 = (6 : Int32) := Int32.toInt_inj.mp (k1.trans h9)
      exact ⟨⟨k2, k3, k4, k5⟩, ((6 : Int32), t1, t2, t3, t4, t5, t6, t7, t8, t9, t10, t11, t12, t13, s14, s15, s16, s17, s18, s19, s20, s21, s22, t14, s24, s25, s26, s27, s28, s29, s30, s31, s32), ⟨show -1 ≤ (6 : Int32).toInt by omega, show (6 : Int32).toInt ≤ 9 by omega, show 0 ≤ t1.toInt by omega, show t1.toInt ≤ 1024 by omega, show 0 ≤ t2.toInt by omega, show t2.toInt ≤ 200 by omega, show 0 ≤ t10.toInt by omega, show t10.toInt ≤ 512 by omega, show 0 ≤ s18.toInt by omega, show s18.toInt ≤ 1024 by omega, show 0 ≤ s20.toInt by omega, show s20.toInt ≤ 32 by omega, show 0 ≤ t14.toInt by omega, show t14.toInt ≤ 1024 by omega, show 0 ≤ s24.toInt by omega, show s24.toInt ≤ 201 by omega, show 0 ≤ s29.toInt by omega, show s29.toInt ≤ 1024 by omega⟩, ⟨fun _ => ⟨⟨k2, k3, k4, k5⟩, Int32.toInt_inj.mp (by rw [h9]; rfl), (fun h7 => by rw [h7] at h9; exact absurd h9 (by decide)), (fun h7 => by rw [h7] at h9; exact absurd h9 (by decide)), (fun h7 => by rw [h7] at h9; exact absurd h9 (by decide)), (fun h7 => by rw [h7] at h9; exact absurd h9 (by decide)), (fun h7 => by rw [h7] at h9; exact absurd h9 (by decide)), (fun h7 => by rw [h7] at h9; exact absurd h9 (by decide)), fun _ => ⟨_, _, _, _, _, _, _, _, _, _, _, _, _, _, _, (by subst h1; exact hm), rfl⟩, (fun h7 => by rw [h7] at h9; exact absurd h9 (by decide)), (fun h7 => by rw [h7] at h9; exact absurd h9 (by decide)), (fun h7 => by rw [h7] at h9; exact absurd h9 (by decide))⟩, fun h8 => absurd rfl h8⟩, (wX_6 cI cF q0 b1 b2 b3 b4 b5 b6 b7 b8 b9 b10 b11 b12 b13 b14 b15 b16 b17 b18 b19 b20 b21 b22 b23 b24 b25 b26 b27 b28 b29 _ so).symm⟩
    · rintro E w ⟨w1, ⟨rfl, h2, v, rfl, rfl⟩, rfl⟩
      obtain ⟨k1, k2⟩ := hq2 h2
      have k9 : s0 = t0 := Int32.toInt_inj.mp k1.symm
      exact ⟨zz_d1 hq0 h2, k2, (t0, t1, t2, t3, t4, t5, t6, t7, t8, t9, t10, t11, t12, t13, s14, s15, s16, s17, s18, s19, s20, s21, s22, t14, s24, s25, s26, s27, s28, s29, s30, s31, s32), ⟨show -1 ≤ t0.toInt by omega, show t0.toInt ≤ 9 by omega, show 0 ≤ t1.toInt by omega, show t1.toInt ≤ 1024 by omega, show 0 ≤ t2.toInt by omega, show t2.toInt ≤ 200 by omega, show 0 ≤ t10.toInt by omega, show t10.toInt ≤ 512 by omega, show 0 ≤ s18.toInt by omega, show s18.toInt ≤ 1024 by omega, show 0 ≤ s20.toInt by omega, show s20.toInt ≤ 32 by omega, show 0 ≤ t14.toInt by omega, show t14.toInt ≤ 1024 by omega, show 0 ≤ s24.toInt by omega, show s24.toInt ≤ 201 by omega, show 0 ≤ s29.toInt by omega, show s29.toInt ≤ 1024 by omega⟩, ⟨fun h8 => absurd h8 h2, fun _ => ⟨k2, by
        have e9 : t0 = s0 ∧ t1 = s1 ∧ t2 = s2 ∧ t3 = s3 ∧ t4 = s4 ∧ t5 = s5 ∧ t6 = s6 ∧ t7 = s7 ∧ t8 = s8 ∧ t9 = s9 ∧ t10 = s10 ∧ t11 = s11 ∧ t12 = s12 ∧ t13 = s13 ∧ t14 = s23 := hs9.resolve_left h2
        rw [e9.1, e9.2.1, e9.2.2.1, e9.2.2.2.1, e9.2.2.2.2.1, e9.2.2.2.2.2.1, e9.2.2.2.2.2.2.1, e9.2.2.2.2.2.2.2.1, e9.2.2.2.2.2.2.2.2.1, e9.2.2.2.2.2.2.2.2.2.1, e9.2.2.2.2.2.2.2.2.2.2.1, e9.2.2.2.2.2.2.2.2.2.2.2.1, e9.2.2.2.2.2.2.2.2.2.2.2.2.1, e9.2.2.2.2.2.2.2.2.2.2.2.2.2.1, e9.2.2.2.2.2.2.2.2.2.2.2.2.2.2]⟩⟩, by rw [k9]; rfl⟩
  · have l0 : (7 : Int32).toInt = 7 := rfl
    obtain ⟨⟨cv, t0, t1, t2, t3, t4, t5, t6, t7, t8, t9, t10, t11, t12, t13, t14, t15, t16, t17⟩, hm, hp⟩ := s_X11_open_X4 K hK 1024 200 200 200 200 512 512 201 201 p1 p2 s0 s1 s2 s3 s4 s5 s6 s7 s8 s9 s10 s11 s12 s13 s24 s25 s26 s27 rfl rfl rfl rfl rfl rfl rfl rfl rfl (by omega) (by omega) (by omega) (by omega) (by omega) (by omega) (by omega) (by omega)
    have hq0 : cv ∈ (["", "java/lang/IllegalArgumentException"] : List String) := hp.1
    have hq1 : (cv = "" → t0.toInt = p1.toInt ∧ 0 ≤ p1.toInt ∧ p1.toInt ≤ 9 ∧ 16 ≤ p2.toInt ∧ p2.toInt ≤ 1024) := hp.2.1
    have hq2 : (¬ cv = "" → t0.toInt = s0.toInt ∧ (p1.toInt < 0 ∨ 9 < p1.toInt ∨ p2.toInt < 16 ∨ 1024 < p2.toInt)) := hp.2.2.1
    have hq3 : 0 ≤ t1.toInt := hp.2.2.2.1
    have hq4 : t1.toInt ≤ 1024 := hp.2.2.2.2.1
    have hq5 : 0 ≤ t2.toInt := hp.2.2.2.2.2.1
    have hq6 : t2.toInt ≤ 200 := hp.2.2.2.2.2.2.1
    have hq7 : 0 ≤ t10.toInt := hp.2.2.2.2.2.2.2.1
    have hq8 : t10.toInt ≤ 512 := hp.2.2.2.2.2.2.2.2.1
    have hq9 : 0 ≤ t14.toInt := hp.2.2.2.2.2.2.2.2.2.1
    have hq10 : t14.toInt ≤ 201 := hp.2.2.2.2.2.2.2.2.2.2
    obtain ⟨a9, ha9, hs9⟩ := fo_X11_open_X4 K hK 0 (by omega) 1024 200 200 200 200 512 512 201 201 p1 p2 s0 s1 s2 s3 s4 s5 s6 s7 s8 s9 s10 s11 s12 s13 s24 s25 s26 s27 rfl rfl rfl rfl rfl rfl rfl rfl rfl (by omega) (by omega) (by omega) (by omega) (by omega) (by omega) (by omega) (by omega)
    rw [hm] at ha9
    cases ha9
    refine ⟨_, _, (by unfold wX; exact (lx_open_7 l hl9 dC dI cI cJ cZ cF K q0 b1 b2 b3 b4 b5 b6 b7 b8 b9 b10 b11 b12 b13 b14 b15 b16 b17 b18 b19 b20 b21 b22 b23 b24 b25 b26 b27 b28 b29 (zz_fv b11 b12 b13 b14 b15 b17 b20 b21 b25 b26 s0) (svo so) s0 s1 s2 s3 s4 s5 s6 s7 s8 s9 s10 s11 s12 s13 s14 s15 s16 s17 s18 s19 s20 s21 s22 s23 s24 s25 s26 s27 s28 s29 s30 s31 s32 p1 p2 cv _ (fun _ => Int32.toInt_inj.mp h9) hm).frame (wSo cI so)), ?_, ?_⟩
    · rintro w ⟨w1, ⟨v, ⟨h1, rfl⟩, rfl⟩, rfl⟩
      obtain ⟨k1, k2, k3, k4, k5⟩ := hq1 h1
      obtain rfl : t0 = (7 : Int32) := Int32.toInt_inj.mp (k1.trans h9)
      exact ⟨⟨k2, k3, k4, k5⟩, ((7 : Int32), t1, t2, t3, t4, t5, t6, t7, t8, t9, t10, t11, t12, t13, s14, s15, s16, s17, s18, s19, s20, s21, s22, s23, t14, t15, t16, t17, s28, s29, s30, s31, s32), ⟨show -1 ≤ (7 : Int32).toInt by omega, show (7 : Int32).toInt ≤ 9 by omega, show 0 ≤ t1.toInt by omega, show t1.toInt ≤ 1024 by omega, show 0 ≤ t2.toInt by omega, show t2.toInt ≤ 200 by omega, show 0 ≤ t10.toInt by omega, show t10.toInt ≤ 512 by omega, show 0 ≤ s18.toInt by omega, show s18.toInt ≤ 1024 by omega, show 0 ≤ s20.toInt by omega, show s20.toInt ≤ 32 by omega, show 0 ≤ s23.toInt by omega, show s23.toInt ≤ 1024 by omega, show 0 ≤ t14.toInt by omega, show t14.toInt ≤ 201 by omega, show 0 ≤ s29.toInt by omega, show s29.toInt ≤ 1024 by omega⟩, ⟨fun _ => ⟨⟨k2, k3, k4, k5⟩, Int32.toInt_inj.mp (by rw [h9]; rfl), (fun h7 => by rw [h7] at h9; exact absurd h9 (by decide)), (fun h7 => by rw [h7] at h9; exact absurd h9 (by decide)), (fun h7 => by rw [h7] at h9; exact absurd h9 (by decide)), (fun h7 => by rw [h7] at h9; exact absurd h9 (by decide)), (fun h7 => by rw [h7] at h9; exact absurd h9 (by decide)), (fun h7 => by rw [h7] at h9; exact absurd h9 (by decide)), (fun h7 => by rw [h7] at h9; exact absurd h9 (by decide)), fun _ => ⟨_, _, _, _, _, _, _, _, _, _, _, _, _, _, _, _, _, _, (by subst h1; exact hm), rfl⟩, (fun h7 => by rw [h7] at h9; exact absurd h9 (by decide)), (fun h7 => by rw [h7] at h9; exact absurd h9 (by decide))⟩, fun h8 => absurd rfl h8⟩, (wX_7 cI cF q0 b1 b2 b3 b4 b5 b6 b7 b8 b9 b10 b11 b12 b13 b14 b15 b16 b17 b18 b19 b20 b21 b22 b23 b24 b25 b26 b27 b28 b29 _ so).symm⟩
    · rintro E w ⟨w1, ⟨rfl, h2, v, rfl, rfl⟩, rfl⟩
      obtain ⟨k1, k2⟩ := hq2 h2
      have k9 : s0 = t0 := Int32.toInt_inj.mp k1.symm
      exact ⟨zz_d1 hq0 h2, k2, (t0, t1, t2, t3, t4, t5, t6, t7, t8, t9, t10, t11, t12, t13, s14, s15, s16, s17, s18, s19, s20, s21, s22, s23, t14, t15, t16, t17, s28, s29, s30, s31, s32), ⟨show -1 ≤ t0.toInt by omega, show t0.toInt ≤ 9 by omega, show 0 ≤ t1.toInt by omega, show t1.toInt ≤ 1024 by omega, show 0 ≤ t2.toInt by omega, show t2.toInt ≤ 200 by omega, show 0 ≤ t10.toInt by omega, show t10.toInt ≤ 512 by omega, show 0 ≤ s18.toInt by omega, show s18.toInt ≤ 1024 by omega, show 0 ≤ s20.toInt by omega, show s20.toInt ≤ 32 by omega, show 0 ≤ s23.toInt by omega, show s23.toInt ≤ 1024 by omega, show 0 ≤ t14.toInt by omega, show t14.toInt ≤ 201 by omega, show 0 ≤ s29.toInt by omega, show s29.toInt ≤ 1024 by omega⟩, ⟨fun h8 => absurd h8 h2, fun _ => ⟨k2, by
        have e9 : t0 = s0 ∧ t1 = s1 ∧ t2 = s2 ∧ t3 = s3 ∧ t4 = s4 ∧ t5 = s5 ∧ t6 = s6 ∧ t7 = s7 ∧ t8 = s8 ∧ t9 = s9 ∧ t10 = s10 ∧ t11 = s11 ∧ t12 = s12 ∧ t13 = s13 ∧ t14 = s24 ∧ t15 = s25 ∧ t16 = s26 ∧ t17 = s27 := hs9.resolve_left h2
        rw [e9.1, e9.2.1, e9.2.2.1, e9.2.2.2.1, e9.2.2.2.2.1, e9.2.2.2.2.2.1, e9.2.2.2.2.2.2.1, e9.2.2.2.2.2.2.2.1, e9.2.2.2.2.2.2.2.2.1, e9.2.2.2.2.2.2.2.2.2.1, e9.2.2.2.2.2.2.2.2.2.2.1, e9.2.2.2.2.2.2.2.2.2.2.2.1, e9.2.2.2.2.2.2.2.2.2.2.2.2.1, e9.2.2.2.2.2.2.2.2.2.2.2.2.2.1, e9.2.2.2.2.2.2.2.2.2.2.2.2.2.2.1, e9.2.2.2.2.2.2.2.2.2.2.2.2.2.2.2.1, e9.2.2.2.2.2.2.2.2.2.2.2.2.2.2.2.2.1, e9.2.2.2.2.2.2.2.2.2.2.2.2.2.2.2.2.2]⟩⟩, by rw [k9]; rfl⟩
  · have l0 : (8 : Int32).toInt = 8 := rfl
    obtain ⟨⟨cv, t0, t1, t2, t3, t4, t5, t6, t7, t8, t9, t10, t11, t12, t13, t14⟩, hm, hp⟩ := s_X11_open_X9 K hK 1024 200 200 200 200 512 512 p1 p2 s0 s1 s2 s3 s4 s5 s6 s7 s8 s9 s10 s11 s12 s13 s28 rfl rfl rfl rfl rfl rfl rfl (by omega) (by omega) (by omega) (by omega) (by omega) (by omega)
    have hq0 : cv ∈ (["", "java/lang/IllegalArgumentException"] : List String) := hp.1
    have hq1 : (cv = "" → t0.toInt = p1.toInt ∧ 0 ≤ p1.toInt ∧ p1.toInt ≤ 9 ∧ 16 ≤ p2.toInt ∧ p2.toInt ≤ 1024) := hp.2.1
    have hq2 : (¬ cv = "" → t0.toInt = s0.toInt ∧ (p1.toInt < 0 ∨ 9 < p1.toInt ∨ p2.toInt < 16 ∨ 1024 < p2.toInt)) := hp.2.2.1
    have hq3 : 0 ≤ t1.toInt := hp.2.2.2.1
    have hq4 : t1.toInt ≤ 1024 := hp.2.2.2.2.1
    have hq5 : 0 ≤ t2.toInt := hp.2.2.2.2.2.1
    have hq6 : t2.toInt ≤ 200 := hp.2.2.2.2.2.2.1
    have hq7 : 0 ≤ t10.toInt := hp.2.2.2.2.2.2.2.1
    have hq8 : t10.toInt ≤ 512 := hp.2.2.2.2.2.2.2.2
    obtain ⟨a9, ha9, hs9⟩ := fo_X11_open_X9 K hK 0 (by omega) 1024 200 200 200 200 512 512 p1 p2 s0 s1 s2 s3 s4 s5 s6 s7 s8 s9 s10 s11 s12 s13 s28 rfl rfl rfl rfl rfl rfl rfl (by omega) (by omega) (by omega) (by omega) (by omega) (by omega)
    rw [hm] at ha9
    cases ha9
    refine ⟨_, _, (by unfold wX; exact (lx_open_8 l hl9 dC dI cI cJ cZ cF K q0 b1 b2 b3 b4 b5 b6 b7 b8 b9 b10 b11 b12 b13 b14 b15 b16 b17 b18 b19 b20 b21 b22 b23 b24 b25 b26 b27 b28 b29 (zz_fv b11 b12 b13 b14 b15 b17 b20 b21 b25 b26 s0) (svo so) s0 s1 s2 s3 s4 s5 s6 s7 s8 s9 s10 s11 s12 s13 s14 s15 s16 s17 s18 s19 s20 s21 s22 s23 s24 s25 s26 s27 s28 s29 s30 s31 s32 p1 p2 cv _ (fun _ => Int32.toInt_inj.mp h9) hm).frame (wSo cI so)), ?_, ?_⟩
    · rintro w ⟨w1, ⟨v, ⟨h1, rfl⟩, rfl⟩, rfl⟩
      obtain ⟨k1, k2, k3, k4, k5⟩ := hq1 h1
      obtain rfl : t0 = (8 : Int32) := Int32.toInt_inj.mp (k1.trans h9)
      exact ⟨⟨k2, k3, k4, k5⟩, ((8 : Int32), t1, t2, t3, t4, t5, t6, t7, t8, t9, t10, t11, t12, t13, s14, s15, s16, s17, s18, s19, s20, s21, s22, s23, s24, s25, s26, s27, t14, s29, s30, s31, s32), ⟨show -1 ≤ (8 : Int32).toInt by omega, show (8 : Int32).toInt ≤ 9 by omega, show 0 ≤ t1.toInt by omega, show t1.toInt ≤ 1024 by omega, show 0 ≤ t2.toInt by omega, show t2.toInt ≤ 200 by omega, show 0 ≤ t10.toInt by omega, show t10.toInt ≤ 512 by omega, show 0 ≤ s18.toInt by omega, show s18.toInt ≤ 1024 by omega, show 0 ≤ s20.toInt by omega, show s20.toInt ≤ 32 by omega, show 0 ≤ s23.toInt by omega, show s23.toInt ≤ 1024 by omega, show 0 ≤ s24.toInt by omega, show s24.toInt ≤ 201 by omega, show 0 ≤ s29.toInt by omega, show s29.toInt ≤ 1024 by omega⟩, ⟨fun _ => ⟨⟨k2, k3, k4, k5⟩, Int32.toInt_inj.mp (by rw [h9]; rfl), (fun h7 => by rw [h7] at h9; exact absurd h9 (by decide)), (fun h7 => by rw [h7] at h9; exact absurd h9 (by decide)), (fun h7 => by rw [h7] at h9; exact absurd h9 (by decide)), (fun h7 => by rw [h7] at h9; exact absurd h9 (by decide)), (fun h7 => by rw [h7] at h9; exact absurd h9 (by decide)), (fun h7 => by rw [h7] at h9; exact absurd h9 (by decide)), (fun h7 => by rw [h7] at h9; exact absurd h9 (by decide)), (fun h7 => by rw [h7] at h9; exact absurd h9 (by decide)), fun _ => ⟨_, _, _, _, _, _, _, _, _, _, _, _, _, _, _, (by subst h1; exact hm), rfl⟩, (fun h7 => by rw [h7] at h9; exact absurd h9 (by decide))⟩, fun h8 => absurd rfl h8⟩, (wX_8 cI cF q0 b1 b2 b3 b4 b5 b6 b7 b8 b9 b10 b11 b12 b13 b14 b15 b16 b17 b18 b19 b20 b21 b22 b23 b24 b25 b26 b27 b28 b29 _ so).symm⟩
    · rintro E w ⟨w1, ⟨rfl, h2, v, rfl, rfl⟩, rfl⟩
      obtain ⟨k1, k2⟩ := hq2 h2
      have k9 : s0 = t0 := Int32.toInt_inj.mp k1.symm
      exact ⟨zz_d1 hq0 h2, k2, (t0, t1, t2, t3, t4, t5, t6, t7, t8, t9, t10, t11, t12, t13, s14, s15, s16, s17, s18, s19, s20, s21, s22, s23, s24, s25, s26, s27, t14, s29, s30, s31, s32), ⟨show -1 ≤ t0.toInt by omega, show t0.toInt ≤ 9 by omega, show 0 ≤ t1.toInt by omega, show t1.toInt ≤ 1024 by omega, show 0 ≤ t2.toInt by omega, show t2.toInt ≤ 200 by omega, show 0 ≤ t10.toInt by omega, show t10.toInt ≤ 512 by omega, show 0 ≤ s18.toInt by omega, show s18.toInt ≤ 1024 by omega, show 0 ≤ s20.toInt by omega, show s20.toInt ≤ 32 by omega, show 0 ≤ s23.toInt by omega, show s23.toInt ≤ 1024 by omega, show 0 ≤ s24.toInt by omega, show s24.toInt ≤ 201 by omega, show 0 ≤ s29.toInt by omega, show s29.toInt ≤ 1024 by omega⟩, ⟨fun h8 => absurd h8 h2, fun _ => ⟨k2, by
        have e9 : t0 = s0 ∧ t1 = s1 ∧ t2 = s2 ∧ t3 = s3 ∧ t4 = s4 ∧ t5 = s5 ∧ t6 = s6 ∧ t7 = s7 ∧ t8 = s8 ∧ t9 = s9 ∧ t10 = s10 ∧ t11 = s11 ∧ t12 = s12 ∧ t13 = s13 ∧ t14 = s28 := hs9.resolve_left h2
        rw [e9.1, e9.2.1, e9.2.2.1, e9.2.2.2.1, e9.2.2.2.2.1, e9.2.2.2.2.2.1, e9.2.2.2.2.2.2.1, e9.2.2.2.2.2.2.2.1, e9.2.2.2.2.2.2.2.2.1, e9.2.2.2.2.2.2.2.2.2.1, e9.2.2.2.2.2.2.2.2.2.2.1, e9.2.2.2.2.2.2.2.2.2.2.2.1, e9.2.2.2.2.2.2.2.2.2.2.2.2.1, e9.2.2.2.2.2.2.2.2.2.2.2.2.2.1, e9.2.2.2.2.2.2.2.2.2.2.2.2.2.2]⟩⟩, by rw [k9]; rfl⟩
  · have l0 : (9 : Int32).toInt = 9 := rfl
    obtain ⟨⟨cv, t0, t1, t2, t3, t4, t5, t6, t7, t8, t9, t10, t11, t12, t13, t14, t15, t16, t17⟩, hm, hp⟩ := s_X11_open_X6 K hK 1024 200 200 200 200 512 512 1024 1024 p1 p2 s0 s1 s2 s3 s4 s5 s6 s7 s8 s9 s10 s11 s12 s13 s29 s30 s31 s32 rfl rfl rfl rfl rfl rfl rfl rfl rfl (by omega) (by omega) (by omega) (by omega) (by omega) (by omega) (by omega) (by omega)
    have hq0 : cv ∈ (["", "java/lang/IllegalArgumentException"] : List String) := hp.1
    have hq1 : (cv = "" → t0.toInt = p1.toInt ∧ 0 ≤ p1.toInt ∧ p1.toInt ≤ 9 ∧ 16 ≤ p2.toInt ∧ p2.toInt ≤ 1024) := hp.2.1
    have hq2 : (¬ cv = "" → t0.toInt = s0.toInt ∧ (p1.toInt < 0 ∨ 9 < p1.toInt ∨ p2.toInt < 16 ∨ 1024 < p2.toInt)) := hp.2.2.1
    have hq3 : 0 ≤ t1.toInt := hp.2.2.2.1
    have hq4 : t1.toInt ≤ 1024 := hp.2.2.2.2.1
    have hq5 : 0 ≤ t2.toInt := hp.2.2.2.2.2.1
    have hq6 : t2.toInt ≤ 200 := hp.2.2.2.2.2.2.1
    have hq7 : 0 ≤ t10.toInt := hp.2.2.2.2.2.2.2.1
    have hq8 : t10.toInt ≤ 512 := hp.2.2.2.2.2.2.2.2.1
    have hq9 : 0 ≤ t14.toInt := hp.2.2.2.2.2.2.2.2.2.1
    have hq10 : t14.toInt ≤ 1024 := hp.2.2.2.2.2.2.2.2.2.2
    obtain ⟨a9, ha9, hs9⟩ := fo_X11_open_X6 K hK 0 (by omega) 1024 200 200 200 200 512 512 1024 1024 p1 p2 s0 s1 s2 s3 s4 s5 s6 s7 s8 s9 s10 s11 s12 s13 s29 s30 s31 s32 rfl rfl rfl rfl rfl rfl rfl rfl rfl (by omega) (by omega) (by omega) (by omega) (by omega) (by omega) (by omega) (by omega)
    rw [hm] at ha9
    cases ha9
    refine ⟨_, _, (by unfold wX; exact (lx_open_9 l hl9 dC dI cI cJ cZ cF K q0 b1 b2 b3 b4 b5 b6 b7 b8 b9 b10 b11 b12 b13 b14 b15 b16 b17 b18 b19 b20 b21 b22 b23 b24 b25 b26 b27 b28 b29 (zz_fv b11 b12 b13 b14 b15 b17 b20 b21 b25 b26 s0) (svo so) s0 s1 s2 s3 s4 s5 s6 s7 s8 s9 s10 s11 s12 s13 s14 s15 s16 s17 s18 s19 s20 s21 s22 s23 s24 s25 s26 s27 s28 s29 s30 s31 s32 p1 p2 cv _ (fun _ => Int32.toInt_inj.mp h9) hm).frame (wSo cI so)), ?_, ?_⟩
    · rintro w ⟨w1, ⟨v, ⟨h1, rfl⟩, rfl⟩, rfl⟩
      obtain ⟨k1, k2, k3, k4, k5⟩ := hq1 h1
      obtain rfl : t0 = (9 : Int32) := Int32.toInt_inj.mp (k1.trans h9)
      exact ⟨⟨k2, k3, k4, k5⟩, ((9 : Int32), t1, t2, t3, t4, t5, t6, t7, t8, t9, t10, t11, t12, t13, s14, s15, s16, s17, s18, s19, s20, s21, s22, s23, s24, s25, s26, s27, s28, t14, t15, t16, t17), ⟨show -1 ≤ (9 : Int32).toInt by omega, show (9 : Int32).toInt ≤ 9 by omega, show 0 ≤ t1.toInt by omega, show t1.toInt ≤ 1024 by omega, show 0 ≤ t2.toInt by omega, show t2.toInt ≤ 200 by omega, show 0 ≤ t10.toInt by omega, show t10.toInt ≤ 512 by omega, show 0 ≤ s18.toInt by omega, show s18.toInt ≤ 1024 by omega, show 0 ≤ s20.toInt by omega, show s20.toInt ≤ 32 by omega, show 0 ≤ s23.toInt by omega, show s23.toInt ≤ 1024 by omega, show 0 ≤ s24.toInt by omega, show s24.toInt ≤ 201 by omega, show 0 ≤ t14.toInt by omega, show t14.toInt ≤ 1024 by omega⟩, ⟨fun _ => ⟨⟨k2, k3, k4, k5⟩, Int32.toInt_inj.mp (by rw [h9]; rfl), (fun h7 => by rw [h7] at h9; exact absurd h9 (by decide)), (fun h7 => by rw [h7] at h9; exact absurd h9 (by decide)), (fun h7 => by rw [h7] at h9; exact absurd h9 (by decide)), (fun h7 => by rw [h7] at h9; exact absurd h9 (by decide)), (fun h7 => by rw [h7] at h9; exact absurd h9 (by decide)), (fun h7 => by rw [h7] at h9; exact absurd h9 (by decide)), (fun h7 => by rw [h7] at h9; exact absurd h9 (by decide)), (fun h7 => by rw [h7] at h9; exact absurd h9 (by decide)), (fun h7 => by rw [h7] at h9; exact absurd h9 (by decide)), fun _ => ⟨_, _, _, _, _, _, _, _, _, _, _, _, _, _, _, _, _, _, (by subst h1; exact hm), rfl⟩⟩, fun h8 => absurd rfl h8⟩, (wX_9 cI cF q0 b1 b2 b3 b4 b5 b6 b7 b8 b9 b10 b11 b12 b13 b14 b15 b16 b17 b18 b19 b20 b21 b22 b23 b24 b25 b26 b27 b28 b29 _ so).symm⟩
    · rintro E w ⟨w1, ⟨rfl, h2, v, rfl, rfl⟩, rfl⟩
      obtain ⟨k1, k2⟩ := hq2 h2
      have k9 : s0 = t0 := Int32.toInt_inj.mp k1.symm
      exact ⟨zz_d1 hq0 h2, k2, (t0, t1, t2, t3, t4, t5, t6, t7, t8, t9, t10, t11, t12, t13, s14, s15, s16, s17, s18, s19, s20, s21, s22, s23, s24, s25, s26, s27, s28, t14, t15, t16, t17), ⟨show -1 ≤ t0.toInt by omega, show t0.toInt ≤ 9 by omega, show 0 ≤ t1.toInt by omega, show t1.toInt ≤ 1024 by omega, show 0 ≤ t2.toInt by omega, show t2.toInt ≤ 200 by omega, show 0 ≤ t10.toInt by omega, show t10.toInt ≤ 512 by omega, show 0 ≤ s18.toInt by omega, show s18.toInt ≤ 1024 by omega, show 0 ≤ s20.toInt by omega, show s20.toInt ≤ 32 by omega, show 0 ≤ s23.toInt by omega, show s23.toInt ≤ 1024 by omega, show 0 ≤ s24.toInt by omega, show s24.toInt ≤ 201 by omega, show 0 ≤ t14.toInt by omega, show t14.toInt ≤ 1024 by omega⟩, ⟨fun h8 => absurd h8 h2, fun _ => ⟨k2, by
        have e9 : t0 = s0 ∧ t1 = s1 ∧ t2 = s2 ∧ t3 = s3 ∧ t4 = s4 ∧ t5 = s5 ∧ t6 = s6 ∧ t7 = s7 ∧ t8 = s8 ∧ t9 = s9 ∧ t10 = s10 ∧ t11 = s11 ∧ t12 = s12 ∧ t13 = s13 ∧ t14 = s29 ∧ t15 = s30 ∧ t16 = s31 ∧ t17 = s32 := hs9.resolve_left h2
        rw [e9.1, e9.2.1, e9.2.2.1, e9.2.2.2.1, e9.2.2.2.2.1, e9.2.2.2.2.2.1, e9.2.2.2.2.2.2.1, e9.2.2.2.2.2.2.2.1, e9.2.2.2.2.2.2.2.2.1, e9.2.2.2.2.2.2.2.2.2.1, e9.2.2.2.2.2.2.2.2.2.2.1, e9.2.2.2.2.2.2.2.2.2.2.2.1, e9.2.2.2.2.2.2.2.2.2.2.2.2.1, e9.2.2.2.2.2.2.2.2.2.2.2.2.2.1, e9.2.2.2.2.2.2.2.2.2.2.2.2.2.2.1, e9.2.2.2.2.2.2.2.2.2.2.2.2.2.2.2.1, e9.2.2.2.2.2.2.2.2.2.2.2.2.2.2.2.2.1, e9.2.2.2.2.2.2.2.2.2.2.2.2.2.2.2.2.2]⟩⟩, by rw [k9]; rfl⟩
  · have l0 : (0 : Int32).toInt = 0 := rfl
    obtain ⟨⟨cv, t0, t1, t2, t3, t4, t5, t6, t7, t8, t9, t10, t11, t12, t13, t14⟩, hm, hp⟩ := s_X11_open_X0 K hK 1024 200 200 200 200 512 512 ((0 : Int32)) p1 p2 s0 s1 s2 s3 s4 s5 s6 s7 s8 s9 s10 s11 s12 s13 s14 rfl rfl rfl rfl rfl rfl rfl (by omega) (by omega) (by omega) (by omega) (by omega) (by omega)
    have hq0 : cv ∈ (["", "java/lang/IllegalArgumentException"] : List String) := hp.1
    have hq1 : (cv = "" → t0.toInt = p1.toInt ∧ 0 ≤ p1.toInt ∧ p1.toInt ≤ 9 ∧ 16 ≤ p2.toInt ∧ p2.toInt ≤ 1024) := hp.2.1
    have hq2 : (¬ cv = "" → t0.toInt = s0.toInt ∧ (p1.toInt < 0 ∨ 9 < p1.toInt ∨ p2.toInt < 16 ∨ 1024 < p2.toInt)) := hp.2.2.1
    have hq3 : 0 ≤ t1.toInt := hp.2.2.2.1
    have hq4 : t1.toInt ≤ 1024 := hp.2.2.2.2.1
    have hq5 : 0 ≤ t2.toInt := hp.2.2.2.2.2.1
    have hq6 : t2.toInt ≤ 200 := hp.2.2.2.2.2.2.1
    have hq7 : 0 ≤ t10.toInt := hp.2.2.2.2.2.2.2.1
    have hq8 : t10.toInt ≤ 512 := hp.2.2.2.2.2.2.2.2
    obtain ⟨a9, ha9, hs9⟩ := fo_X11_open_X0 K hK 0 (by omega) 1024 200 200 200 200 512 512 ((0 : Int32)) p1 p2 s0 s1 s2 s3 s4 s5 s6 s7 s8 s9 s10 s11 s12 s13 s14 rfl rfl rfl rfl rfl rfl rfl (by omega) (by omega) (by omega) (by omega) (by omega) (by omega)
    rw [hm] at ha9
    cases ha9
    refine ⟨_, _, (by unfold wX; exact (lx_open_0 l hl9 dC dI cI cJ cZ cF K q0 b1 b2 b3 b4 b5 b6 b7 b8 b9 b10 b11 b12 b13 b14 b15 b16 b17 b18 b19 b20 b21 b22 b23 b24 b25 b26 b27 b28 b29 (zz_fv b11 b12 b13 b14 b15 b17 b20 b21 b25 b26 s0) (svo so) s0 s1 s2 s3 s4 s5 s6 s7 s8 s9 s10 s11 s12 s13 s14 s15 s16 s17 s18 s19 s20 s21 s22 s23 s24 s25 s26 s27 s28 s29 s30 s31 s32 p1 p2 cv _ (fun z9 => absurd (zz_bad h9) z9) hm).frame (wSo cI so)), ?_, ?_⟩
    · rintro w ⟨w1, ⟨v, ⟨h1, rfl⟩, rfl⟩, rfl⟩
      obtain ⟨k1, k2, k3, k4, k5⟩ := hq1 h1
      exfalso
      omega
    · rintro E w ⟨w1, ⟨rfl, h2, v, rfl, rfl⟩, rfl⟩
      obtain ⟨k1, k2⟩ := hq2 h2
      have k9 : s0 = t0 := Int32.toInt_inj.mp k1.symm
      exact ⟨zz_d1 hq0 h2, k2, (t0, t1, t2, t3, t4, t5, t6, t7, t8, t9, t10, t11, t12, t13, t14, s15, s16, s17, s18, s19, s20, s21, s22, s23, s24, s25, s26, s27, s28, s29, s30, s31, s32), ⟨show -1 ≤ t0.toInt by omega, show t0.toInt ≤ 9 by omega, show 0 ≤ t1.toInt by omega, show t1.toInt ≤ 1024 by omega, show 0 ≤ t2.toInt by omega, show t2.toInt ≤ 200 by omega, show 0 ≤ t10.toInt by omega, show t10.toInt ≤ 512 by omega, show 0 ≤ s18.toInt by omega, show s18.toInt ≤ 1024 by omega, show 0 ≤ s20.toInt by omega, show s20.toInt ≤ 32 by omega, show 0 ≤ s23.toInt by omega, show s23.toInt ≤ 1024 by omega, show 0 ≤ s24.toInt by omega, show s24.toInt ≤ 201 by omega, show 0 ≤ s29.toInt by omega, show s29.toInt ≤ 1024 by omega⟩, ⟨fun h8 => absurd h8 h2, fun _ => ⟨k2, by
        have e9 : t0 = s0 ∧ t1 = s1 ∧ t2 = s2 ∧ t3 = s3 ∧ t4 = s4 ∧ t5 = s5 ∧ t6 = s6 ∧ t7 = s7 ∧ t8 = s8 ∧ t9 = s9 ∧ t10 = s10 ∧ t11 = s11 ∧ t12 = s12 ∧ t13 = s13 ∧ t14 = s14 := hs9.resolve_left h2
        rw [e9.1, e9.2.1, e9.2.2.1, e9.2.2.2.1, e9.2.2.2.2.1, e9.2.2.2.2.2.1, e9.2.2.2.2.2.2.1, e9.2.2.2.2.2.2.2.1, e9.2.2.2.2.2.2.2.2.1, e9.2.2.2.2.2.2.2.2.2.1, e9.2.2.2.2.2.2.2.2.2.2.1, e9.2.2.2.2.2.2.2.2.2.2.2.1, e9.2.2.2.2.2.2.2.2.2.2.2.2.1, e9.2.2.2.2.2.2.2.2.2.2.2.2.2.1, e9.2.2.2.2.2.2.2.2.2.2.2.2.2.2]⟩⟩, by rw [k9]; rfl⟩

set_option maxHeartbeats 4000000 in
theorem sim_give_N (K : Nat) (hK : 1099511627776 ≤ K) (t : Nat) (u u1 : SX) (um : SM) (p1 : Int32) (e : String) (r : Int32) (ht : t < 512) (hI : IX u) (hJ : IJ t u um) (hD : DX_give K p1 u e r u1) (fh : u.1 = (-1)) : zz_ok (m_X12_give K 1024 200 200 200 200 1024 32 45056 44 1024 1024 1024 9216 9 20000 65536 14 p1 um.1 um.2.1 um.2.2.1 um.2.2.2.1 um.2.2.2.2.1 um.2.2.2.2.2.1 um.2.2.2.2.2.2.1 um.2.2.2.2.2.2.2.1 um.2.2.2.2.2.2.2.2.1 um.2.2.2.2.2.2.2.2.2.1 um.2.2.2.2.2.2.2.2.2.2.1 um.2.2.2.2.2.2.2.2.2.2.2.1 um.2.2.2.2.2.2.2.2.2.2.2.2.1 um.2.2.2.2.2.2.2.2.2.2.2.2.2.1 um.2.2.2.2.2.2.2.2.2.2.2.2.2.2.1 um.2.2.2.2.2.2.2.2.2.2.2.2.2.2.2.1 um.2.2.2.2.2.2.2.2.2.2.2.2.2.2.2.2.1 um.2.2.2.2.2.2.2.2.2.2.2.2.2.2.2.2.2.1 um.2.2.2.2.2.2.2.2.2.2.2.2.2.2.2.2.2.2.1 um.2.2.2.2.2.2.2.2.2.2.2.2.2.2.2.2.2.2.2.1 um.2.2.2.2.2.2.2.2.2.2.2.2.2.2.2.2.2.2.2.2.1 um.2.2.2.2.2.2.2.2.2.2.2.2.2.2.2.2.2.2.2.2.2.1 um.2.2.2.2.2.2.2.2.2.2.2.2.2.2.2.2.2.2.2.2.2.2.1 um.2.2.2.2.2.2.2.2.2.2.2.2.2.2.2.2.2.2.2.2.2.2.2.1 um.2.2.2.2.2.2.2.2.2.2.2.2.2.2.2.2.2.2.2.2.2.2.2.2.1 um.2.2.2.2.2.2.2.2.2.2.2.2.2.2.2.2.2.2.2.2.2.2.2.2.2.1 um.2.2.2.2.2.2.2.2.2.2.2.2.2.2.2.2.2.2.2.2.2.2.2.2.2.2.1 um.2.2.2.2.2.2.2.2.2.2.2.2.2.2.2.2.2.2.2.2.2.2.2.2.2.2.2.1 um.2.2.2.2.2.2.2.2.2.2.2.2.2.2.2.2.2.2.2.2.2.2.2.2.2.2.2.2.1 um.2.2.2.2.2.2.2.2.2.2.2.2.2.2.2.2.2.2.2.2.2.2.2.2.2.2.2.2.2.1 um.2.2.2.2.2.2.2.2.2.2.2.2.2.2.2.2.2.2.2.2.2.2.2.2.2.2.2.2.2.2.1 um.2.2.2.2.2.2.2.2.2.2.2.2.2.2.2.2.2.2.2.2.2.2.2.2.2.2.2.2.2.2.2.1 um.2.2.2.2.2.2.2.2.2.2.2.2.2.2.2.2.2.2.2.2.2.2.2.2.2.2.2.2.2.2.2.2.1 um.2.2.2.2.2.2.2.2.2.2.2.2.2.2.2.2.2.2.2.2.2.2.2.2.2.2.2.2.2.2.2.2.2.1 um.2.2.2.2.2.2.2.2.2.2.2.2.2.2.2.2.2.2.2.2.2.2.2.2.2.2.2.2.2.2.2.2.2.2.1 um.2.2.2.2.2.2.2.2.2.2.2.2.2.2.2.2.2.2.2.2.2.2.2.2.2.2.2.2.2.2.2.2.2.2.2) (fun z => IJ (t + 1) u1 z.2) := by
  have hr := rs_give K hK t um p1 ht hJ.1
  exact hr.mono (fun z hz => ⟨hz.1, hD.1.trans (hJ.2.1.trans hz.2.symm), Or.inl (hD.1.trans fh), zz_JK_N (hD.1.trans fh)⟩)
set_option maxHeartbeats 4000000 in
theorem sim_give_0 (K : Nat) (hK : 1099511627776 ≤ K) (t : Nat) (u u1 : SX) (um : SM) (p1 : Int32) (e : String) (r : Int32) (ht : t < 512) (hI : IX u) (hJ : IJ t u um) (hD : DX_give K p1 u e r u1) (fh : u.1 = 0) : zz_ok (m_X12_give K 1024 200 200 200 200 1024 32 45056 44 1024 1024 1024 9216 9 20000 65536 14 p1 um.1 um.2.1 um.2.2.1 um.2.2.2.1 um.2.2.2.2.1 um.2.2.2.2.2.1 um.2.2.2.2.2.2.1 um.2.2.2.2.2.2.2.1 um.2.2.2.2.2.2.2.2.1 um.2.2.2.2.2.2.2.2.2.1 um.2.2.2.2.2.2.2.2.2.2.1 um.2.2.2.2.2.2.2.2.2.2.2.1 um.2.2.2.2.2.2.2.2.2.2.2.2.1 um.2.2.2.2.2.2.2.2.2.2.2.2.2.1 um.2.2.2.2.2.2.2.2.2.2.2.2.2.2.1 um.2.2.2.2.2.2.2.2.2.2.2.2.2.2.2.1 um.2.2.2.2.2.2.2.2.2.2.2.2.2.2.2.2.1 um.2.2.2.2.2.2.2.2.2.2.2.2.2.2.2.2.2.1 um.2.2.2.2.2.2.2.2.2.2.2.2.2.2.2.2.2.2.1 um.2.2.2.2.2.2.2.2.2.2.2.2.2.2.2.2.2.2.2.1 um.2.2.2.2.2.2.2.2.2.2.2.2.2.2.2.2.2.2.2.2.1 um.2.2.2.2.2.2.2.2.2.2.2.2.2.2.2.2.2.2.2.2.2.1 um.2.2.2.2.2.2.2.2.2.2.2.2.2.2.2.2.2.2.2.2.2.2.1 um.2.2.2.2.2.2.2.2.2.2.2.2.2.2.2.2.2.2.2.2.2.2.2.1 um.2.2.2.2.2.2.2.2.2.2.2.2.2.2.2.2.2.2.2.2.2.2.2.2.1 um.2.2.2.2.2.2.2.2.2.2.2.2.2.2.2.2.2.2.2.2.2.2.2.2.2.1 um.2.2.2.2.2.2.2.2.2.2.2.2.2.2.2.2.2.2.2.2.2.2.2.2.2.2.1 um.2.2.2.2.2.2.2.2.2.2.2.2.2.2.2.2.2.2.2.2.2.2.2.2.2.2.2.1 um.2.2.2.2.2.2.2.2.2.2.2.2.2.2.2.2.2.2.2.2.2.2.2.2.2.2.2.2.1 um.2.2.2.2.2.2.2.2.2.2.2.2.2.2.2.2.2.2.2.2.2.2.2.2.2.2.2.2.2.1 um.2.2.2.2.2.2.2.2.2.2.2.2.2.2.2.2.2.2.2.2.2.2.2.2.2.2.2.2.2.2.1 um.2.2.2.2.2.2.2.2.2.2.2.2.2.2.2.2.2.2.2.2.2.2.2.2.2.2.2.2.2.2.2.1 um.2.2.2.2.2.2.2.2.2.2.2.2.2.2.2.2.2.2.2.2.2.2.2.2.2.2.2.2.2.2.2.2.1 um.2.2.2.2.2.2.2.2.2.2.2.2.2.2.2.2.2.2.2.2.2.2.2.2.2.2.2.2.2.2.2.2.2.1 um.2.2.2.2.2.2.2.2.2.2.2.2.2.2.2.2.2.2.2.2.2.2.2.2.2.2.2.2.2.2.2.2.2.2.1 um.2.2.2.2.2.2.2.2.2.2.2.2.2.2.2.2.2.2.2.2.2.2.2.2.2.2.2.2.2.2.2.2.2.2.2) (fun z => IJ (t + 1) u1 z.2) := by
  have hr := rs_give K hK t um p1 ht hJ.1
  obtain ⟨s0, s1, s2, s3, s4, s5, s6, s7, s8, s9, s10, s11, s12, s13, s14, s15, s16, s17, s18, s19, s20, s21, s22, s23, s24, s25, s26, s27, s28, s29, s30, s31, s32⟩ := u
  obtain ⟨v0, v1, v2, v3, v4, v5, v6, v7, v8, v9, v10, v11, v12, v13, v14, v15, v16, v17, v18, v19, v20, v21, v22, v23, v24, v25, v26, v27, v28, v29, v30, v31, v32, v33, v34, v35⟩ := um
  have fh : s0 = (0 : Int32) := fh
  obtain ⟨hM, hF, hA, hK9⟩ := hJ
  have hF : s0 = v1 := hF
  have h : zz_IM (t + 1) v1 v2 v3 v8 v9 v10 v11 v12 v19 v20 v21 v22 v24 v26 v27 v28 v31 v32 v35 := hM
  unfold zz_IM at h
  obtain ⟨m0, m1, m2, m3, m4, m5, m6, m7, m8, m9, m10, m11, m12, m13, m14, m15, m16, m17, m18, m19, m20, m21, m22, m23⟩ := h
  subst fh
  subst hF
  have f9 : (0 : Int32).toInt = 0 := by decide
  have hA : zz_JA t s1 s2 s3 s5 s6 s7 s8 s9 v2 v3 v4 v19 v20 v21 v22 v23 := hA.resolve_left (show ¬ (0 : Int32) = (-1) by decide)
  have hE9 : zz_JE s14 v8 := zz_JK_a0 hK9 rfl
  clear hK9
  obtain ⟨e1, e2, e3, g1, g2, g3, g4, g5, g6, R, O⟩ := hA
  subst e1
  subst e2
  subst e3
  obtain ⟨j1, j2, j3⟩ := hE9
  subst j1
  obtain ⟨t0, t1, t2, t3, t4, t5, t6, t7, t8, t9, t10, t11, t12, t13, t14, hm, eu⟩ := hD.2.2.1 rfl
  subst eu
  have hm : m_X11_give_X0 K 1024 200 200 200 200 512 512 (0 : Int32) p1 (0 : Int32) s1 s2 s3 s4 s5 s6 s7 s8 s9 s10 s11 s12 s13 s14 = some (e, r, t0, t1, t2, t3, t4, t5, t6, t7, t8, t9, t10, t11, t12, t13, t14) := hm
  obtain ⟨a9, ha9, hq⟩ := gg_X11_give_X0 K hK (t + 1) (by omega) 1024 200 200 200 200 512 512 (0 : Int32) p1 (0 : Int32) s1 s2 s3 s4 s5 s6 s7 s8 s9 s10 s11 s12 s13 s14 rfl rfl rfl rfl rfl rfl rfl (by omega) (by omega) (by omega) (by omega) R.2.2.1 (by omega) (by omega) (by omega) (by omega) (by omega) (by omega)
  rw [hm] at ha9
  cases ha9
  have q0 : zz_GE (e) (p1) r.toInt s2.toInt (s3) (s6) (s7) (s8) (s9) t2.toInt t3.toInt (t6) (t7) (t8) (t9) (t5) (t5 = s5 ∧ t14 = s14) (fun (s x : Int32) (c1 : Nat → Int32) => s = p1 ∧ c1 = s5 ∧ zz_pl (0 : Int32).toInt s1.toInt (s5) s14.toInt p1.toInt x.toInt ∧ (x.toInt = -1 ∨ t14.toInt = x.toInt + p1.toInt) ∧ (x.toInt ≠ -1 ∨ t14.toInt = s14.toInt)) := hq.1
  have q1 : zz_vs s1.toInt (t7) (t8) t2.toInt := hq.2.1
  have q2 : 0 ≤ t2.toInt := hq.2.2.1
  have q3 : t2.toInt ≤ 200 := hq.2.2.2.1
  have q4 : t0 = (0 : Int32) := hq.2.2.2.2.1
  have q5 : t1 = s1 := hq.2.2.2.2.2
  refine (zz_okand hr (gg_X12_give K hK (t + 1) (by omega) 1024 200 200 200 200 1024 32 45056 44 1024 1024 1024 9216 9 20000 65536 14 p1 v0 (0 : Int32) s1 s2 s3 v5 v6 v7 s14 v9 v10 v11 v12 v13 v14 v15 v16 v17 v18 v19 v20 v21 v22 v23 v24 v25 v26 v27 v28 v29 v30 v31 v32 v33 v34 v35 rfl rfl rfl rfl rfl rfl rfl rfl rfl rfl rfl rfl rfl rfl rfl rfl rfl m0 m1 m2 m3 m4 m5 m6 m7 m8 m9 m10 m11 m12 m13 m14 m15 m16 m17 m18 m19 m20 m21 m22 (by omega) (by omega) (by decide) m23 (zz_PR_n (by decide) (by decide)))).mono (fun z hz => ?_)
  obtain ⟨rz, w0, w1, w2, w3, w4, w5, w6, w7, w8, w9, w10, w11, w12, w13, w14, w15, w16, w17, w18, w19, w20, w21, w22, w23, w24, w25, w26, w27, w28, w29, w30, w31, w32, w33, w34, w35⟩ := z
  obtain ⟨⟨hz1, hz2⟩, hp⟩ := hz
  have x0 : zz_GF w0.toInt (p1) rz.toInt s1.toInt s2.toInt (s3) (v19) (v20) (v21) (v22) (v23) w3.toInt w4.toInt (w19) (w20) (w21) (w22) (w23) (w8 = s14 ∧ w9 = v9 ∧ w12 = v12 ∧ w24 = v24 ∧ w25 = v25 ∧ w26 = v26 ∧ w27 = v27 ∧ w28 = v28 ∧ w29 = v29 ∧ w30 = v30 ∧ w31 = v31 ∧ w32 = v32) (fun (s x : Int32) (o1 : Nat → Int32) => zz_FA (0 : Int32).toInt s1.toInt s14.toInt v9.toInt v11.toInt (v19) o1 (v24) (w24) (v25) (w25) (v26) (v27) (w26) (w27) (v31) (w31) (v32) (w32) (p1) s x.toInt ∧ zz_SX (0 : Int32).toInt x.toInt p1.toInt s.toInt s14.toInt w8.toInt v9.toInt w9.toInt v12.toInt w12.toInt (v28) (v29) (v30) (w28) (w29) (w30) x s) := hp.1
  have x1 : w1 = (0 : Int32) := hp.2.1
  have x2 : w2 = s1 := hp.2.2.1
  have x3 : w10 = v10 := hp.2.2.2.1
  have x4 : w11 = v11 := hp.2.2.2.2.1
  have x5 : w15 = v15 := hp.2.2.2.2.2.1
  have x6 : w16 = v16 := hp.2.2.2.2.2.2.1
  have x7 : w17 = v17 := hp.2.2.2.2.2.2.2.1
  have x8 : w18 = v18 := hp.2.2.2.2.2.2.2.2.1
  have x9 : w33 = v33 := hp.2.2.2.2.2.2.2.2.2.1
  have x10 : w34 = v34 := hp.2.2.2.2.2.2.2.2.2.2.1
  have x11 : w35 = v35 := hp.2.2.2.2.2.2.2.2.2.2.2
  obtain ⟨RB1, OC1, k1, k2, k3, k4, k5, k6, AGR, hL⟩ := zz_GG_step R O q0 x0 (fun z => z.1) (fun s x c1 s9 x9 o1 h1 h2 a b => zz_hF0 R O rfl (by omega) rfl (by omega) (by omega) h1 a b) rfl rfl rfl g5 (by omega) g3 g4
  refine ⟨hz1, q4.trans x1.symm, Or.inr ?_, zz_JK_m0 q4 ?_⟩
  · show zz_JA (t + 1) t1 t2 t3 t5 t6 t7 t8 t9 w2 w3 w4 w19 w20 w21 w22 w23
    rw [q5, x2]
    exact ⟨rfl, Int32.toInt_inj.mp k1.symm, Int32.toInt_inj.mp k2.symm, g1, g2, k5, k6, by omega, by omega, RB1, OC1⟩
  · show zz_JE t14 w8
    rcases hL with ⟨m1, m2, m3, m4, m5, m6⟩ | ⟨h1, h2, s, x, c1, o1, tk, fd, -, hz⟩
    · rw [m1.2, m2.1]
      exact ⟨rfl, j2, j3⟩
    · exact zz_gs0 (by omega) g2 ⟨rfl, j2, j3⟩ tk fd h1
set_option maxHeartbeats 4000000 in
theorem sim_give_1 (K : Nat) (hK : 1099511627776 ≤ K) (t : Nat) (u u1 : SX) (um : SM) (p1 : Int32) (e : String) (r : Int32) (ht : t < 512) (hI : IX u) (hJ : IJ t u um) (hD : DX_give K p1 u e r u1) (fh : u.1 = 1) : zz_ok (m_X12_give K 1024 200 200 200 200 1024 32 45056 44 1024 1024 1024 9216 9 20000 65536 14 p1 um.1 um.2.1 um.2.2.1 um.2.2.2.1 um.2.2.2.2.1 um.2.2.2.2.2.1 um.2.2.2.2.2.2.1 um.2.2.2.2.2.2.2.1 um.2.2.2.2.2.2.2.2.1 um.2.2.2.2.2.2.2.2.2.1 um.2.2.2.2.2.2.2.2.2.2.1 um.2.2.2.2.2.2.2.2.2.2.2.1 um.2.2.2.2.2.2.2.2.2.2.2.2.1 um.2.2.2.2.2.2.2.2.2.2.2.2.2.1 um.2.2.2.2.2.2.2.2.2.2.2.2.2.2.1 um.2.2.2.2.2.2.2.2.2.2.2.2.2.2.2.1 um.2.2.2.2.2.2.2.2.2.2.2.2.2.2.2.2.1 um.2.2.2.2.2.2.2.2.2.2.2.2.2.2.2.2.2.1 um.2.2.2.2.2.2.2.2.2.2.2.2.2.2.2.2.2.2.1 um.2.2.2.2.2.2.2.2.2.2.2.2.2.2.2.2.2.2.2.1 um.2.2.2.2.2.2.2.2.2.2.2.2.2.2.2.2.2.2.2.2.1 um.2.2.2.2.2.2.2.2.2.2.2.2.2.2.2.2.2.2.2.2.2.1 um.2.2.2.2.2.2.2.2.2.2.2.2.2.2.2.2.2.2.2.2.2.2.1 um.2.2.2.2.2.2.2.2.2.2.2.2.2.2.2.2.2.2.2.2.2.2.2.1 um.2.2.2.2.2.2.2.2.2.2.2.2.2.2.2.2.2.2.2.2.2.2.2.2.1 um.2.2.2.2.2.2.2.2.2.2.2.2.2.2.2.2.2.2.2.2.2.2.2.2.2.1 um.2.2.2.2.2.2.2.2.2.2.2.2.2.2.2.2.2.2.2.2.2.2.2.2.2.2.1 um.2.2.2.2.2.2.2.2.2.2.2.2.2.2.2.2.2.2.2.2.2.2.2.2.2.2.2.1 um.2.2.2.2.2.2.2.2.2.2.2.2.2.2.2.2.2.2.2.2.2.2.2.2.2.2.2.2.1 um.2.2.2.2.2.2.2.2.2.2.2.2.2.2.2.2.2.2.2.2.2.2.2.2.2.2.2.2.2.1 um.2.2.2.2.2.2.2.2.2.2.2.2.2.2.2.2.2.2.2.2.2.2.2.2.2.2.2.2.2.2.1 um.2.2.2.2.2.2.2.2.2.2.2.2.2.2.2.2.2.2.2.2.2.2.2.2.2.2.2.2.2.2.2.1 um.2.2.2.2.2.2.2.2.2.2.2.2.2.2.2.2.2.2.2.2.2.2.2.2.2.2.2.2.2.2.2.2.1 um.2.2.2.2.2.2.2.2.2.2.2.2.2.2.2.2.2.2.2.2.2.2.2.2.2.2.2.2.2.2.2.2.2.1 um.2.2.2.2.2.2.2.2.2.2.2.2.2.2.2.2.2.2.2.2.2.2.2.2.2.2.2.2.2.2.2.2.2.2.1 um.2.2.2.2.2.2.2.2.2.2.2.2.2.2.2.2.2.2.2.2.2.2.2.2.2.2.2.2.2.2.2.2.2.2.2) (fun z => IJ (t + 1) u1 z.2) := by
  have hr := rs_give K hK t um p1 ht hJ.1
  obtain ⟨s0, s1, s2, s3, s4, s5, s6, s7, s8, s9, s10, s11, s12, s13, s14, s15, s16, s17, s18, s19, s20, s21, s22, s23, s24, s25, s26, s27, s28, s29, s30, s31, s32⟩ := u
  obtain ⟨v0, v1, v2, v3, v4, v5, v6, v7, v8, v9, v10, v11, v12, v13, v14, v15, v16, v17, v18, v19, v20, v21, v22, v23, v24, v25, v26, v27, v28, v29, v30, v31, v32, v33, v34, v35⟩ := um
  have fh : s0 = (1 : Int32) := fh
  obtain ⟨hM, hF, hA, hK9⟩ := hJ
  have hF : s0 = v1 := hF
  have h : zz_IM (t + 1) v1 v2 v3 v8 v9 v10 v11 v12 v19 v20 v21 v22 v24 v26 v27 v28 v31 v32 v35 := hM
  unfold zz_IM at h
  obtain ⟨m0, m1, m2, m3, m4, m5, m6, m7, m8, m9, m10, m11, m12, m13, m14, m15, m16, m17, m18, m19, m20, m21, m22, m23⟩ := h
  subst fh
  subst hF
  have f9 : (1 : Int32).toInt = 1 := by decide
  have hA : zz_JA t s1 s2 s3 s5 s6 s7 s8 s9 v2 v3 v4 v19 v20 v21 v22 v23 := hA.resolve_left (show ¬ (1 : Int32) = (-1) by decide)
  have hE9 : zz_JE s15 v8 := zz_JK_a1 hK9 rfl
  clear hK9
  obtain ⟨e1, e2, e3, g1, g2, g3, g4, g5, g6, R, O⟩ := hA
  subst e1
  subst e2
  subst e3
  obtain ⟨j1, j2, j3⟩ := hE9
  subst j1
  obtain ⟨t0, t1, t2, t3, t4, t5, t6, t7, t8, t9, t10, t11, t12, t13, t14, hm, eu⟩ := hD.2.2.2.1 rfl
  subst eu
  have hm : m_X11_give_X0 K 1024 200 200 200 200 512 512 (1 : Int32) p1 (1 : Int32) s1 s2 s3 s4 s5 s6 s7 s8 s9 s10 s11 s12 s13 s15 = some (e, r, t0, t1, t2, t3, t4, t5, t6, t7, t8, t9, t10, t11, t12, t13, t14) := hm
  obtain ⟨a9, ha9, hq⟩ := gg_X11_give_X0 K hK (t + 1) (by omega) 1024 200 200 200 200 512 512 (1 : Int32) p1 (1 : Int32) s1 s2 s3 s4 s5 s6 s7 s8 s9 s10 s11 s12 s13 s15 rfl rfl rfl rfl rfl rfl rfl (by omega) (by omega) (by omega) (by omega) R.2.2.1 (by omega) (by omega) (by omega) (by omega) (by omega) (by omega)
  rw [hm] at ha9
  cases ha9
  have q0 : zz_GE (e) (p1) r.toInt s2.toInt (s3) (s6) (s7) (s8) (s9) t2.toInt t3.toInt (t6) (t7) (t8) (t9) (t5) (t5 = s5 ∧ t14 = s15) (fun (s x : Int32) (c1 : Nat → Int32) => s = p1 ∧ c1 = s5 ∧ zz_pl (1 : Int32).toInt s1.toInt (s5) s15.toInt p1.toInt x.toInt ∧ (x.toInt = -1 ∨ t14.toInt = x.toInt + p1.toInt) ∧ (x.toInt ≠ -1 ∨ t14.toInt = s15.toInt)) := hq.1
  have q1 : zz_vs s1.toInt (t7) (t8) t2.toInt := hq.2.1
  have q2 : 0 ≤ t2.toInt := hq.2.2.1
  have q3 : t2.toInt ≤ 200 := hq.2.2.2.1
  have q4 : t0 = (1 : Int32) := hq.2.2.2.2.1
  have q5 : t1 = s1 := hq.2.2.2.2.2
  refine (zz_okand hr (gg_X12_give K hK (t + 1) (by omega) 1024 200 200 200 200 1024 32 45056 44 1024 1024 1024 9216 9 20000 65536 14 p1 v0 (1 : Int32) s1 s2 s3 v5 v6 v7 s15 v9 v10 v11 v12 v13 v14 v15 v16 v17 v18 v19 v20 v21 v22 v23 v24 v25 v26 v27 v28 v29 v30 v31 v32 v33 v34 v35 rfl rfl rfl rfl rfl rfl rfl rfl rfl rfl rfl rfl rfl rfl rfl rfl rfl m0 m1 m2 m3 m4 m5 m6 m7 m8 m9 m10 m11 m12 m13 m14 m15 m16 m17 m18 m19 m20 m21 m22 (by omega) (by omega) (by decide) m23 (zz_PR_n (by decide) (by decide)))).mono (fun z hz => ?_)
  obtain ⟨rz, w0, w1, w2, w3, w4, w5, w6, w7, w8, w9, w10, w11, w12, w13, w14, w15, w16, w17, w18, w19, w20, w21, w22, w23, w24, w25, w26, w27, w28, w29, w30, w31, w32, w33, w34, w35⟩ := z
  obtain ⟨⟨hz1, hz2⟩, hp⟩ := hz
  have x0 : zz_GF w0.toInt (p1) rz.toInt s1.toInt s2.toInt (s3) (v19) (v20) (v21) (v22) (v23) w3.toInt w4.toInt (w19) (w20) (w21) (w22) (w23) (w8 = s15 ∧ w9 = v9 ∧ w12 = v12 ∧ w24 = v24 ∧ w25 = v25 ∧ w26 = v26 ∧ w27 = v27 ∧ w28 = v28 ∧ w29 = v29 ∧ w30 = v30 ∧ w31 = v31 ∧ w32 = v32) (fun (s x : Int32) (o1 : Nat → Int32) => zz_FA (1 : Int32).toInt s1.toInt s15.toInt v9.toInt v11.toInt (v19) o1 (v24) (w24) (v25) (w25) (v26) (v27) (w26) (w27) (v31) (w31) (v32) (w32) (p1) s x.toInt ∧ zz_SX (1 : Int32).toInt x.toInt p1.toInt s.toInt s15.toInt w8.toInt v9.toInt w9.toInt v12.toInt w12.toInt (v28) (v29) (v30) (w28) (w29) (w30) x s) := hp.1
  have x1 : w1 = (1 : Int32) := hp.2.1
  have x2 : w2 = s1 := hp.2.2.1
  have x3 : w10 = v10 := hp.2.2.2.1
  have x4 : w11 = v11 := hp.2.2.2.2.1
  have x5 : w15 = v15 := hp.2.2.2.2.2.1
  have x6 : w16 = v16 := hp.2.2.2.2.2.2.1
  have x7 : w17 = v17 := hp.2.2.2.2.2.2.2.1
  have x8 : w18 = v18 := hp.2.2.2.2.2.2.2.2.1
  have x9 : w33 = v33 := hp.2.2.2.2.2.2.2.2.2.1
  have x10 : w34 = v34 := hp.2.2.2.2.2.2.2.2.2.2.1
  have x11 : w35 = v35 := hp.2.2.2.2.2.2.2.2.2.2.2
  obtain ⟨RB1, OC1, k1, k2, k3, k4, k5, k6, AGR, hL⟩ := zz_GG_step R O q0 x0 (fun z => z.1) (fun s x c1 s9 x9 o1 h1 h2 a b => zz_hF0 R O rfl (by omega) rfl (by omega) (by omega) h1 a b) rfl rfl rfl g5 (by omega) g3 g4
  refine ⟨hz1, q4.trans x1.symm, Or.inr ?_, zz_JK_m1 q4 ?_⟩
  · show zz_JA (t + 1) t1 t2 t3 t5 t6 t7 t8 t9 w2 w3 w4 w19 w20 w21 w22 w23
    rw [q5, x2]
    exact ⟨rfl, Int32.toInt_inj.mp k1.symm, Int32.toInt_inj.mp k2.symm, g1, g2, k5, k6, by omega, by omega, RB1, OC1⟩
  · show zz_JE t14 w8
    rcases hL with ⟨m1, m2, m3, m4, m5, m6⟩ | ⟨h1, h2, s, x, c1, o1, tk, fd, -, hz⟩
    · rw [m1.2, m2.1]
      exact ⟨rfl, j2, j3⟩
    · exact zz_gs0 (by omega) g2 ⟨rfl, j2, j3⟩ tk fd h1
set_option maxHeartbeats 4000000 in
theorem sim_give_2 (K : Nat) (hK : 1099511627776 ≤ K) (t : Nat) (u u1 : SX) (um : SM) (p1 : Int32) (e : String) (r : Int32) (ht : t < 512) (hI : IX u) (hJ : IJ t u um) (hD : DX_give K p1 u e r u1) (fh : u.1 = 2) : zz_ok (m_X12_give K 1024 200 200 200 200 1024 32 45056 44 1024 1024 1024 9216 9 20000 65536 14 p1 um.1 um.2.1 um.2.2.1 um.2.2.2.1 um.2.2.2.2.1 um.2.2.2.2.2.1 um.2.2.2.2.2.2.1 um.2.2.2.2.2.2.2.1 um.2.2.2.2.2.2.2.2.1 um.2.2.2.2.2.2.2.2.2.1 um.2.2.2.2.2.2.2.2.2.2.1 um.2.2.2.2.2.2.2.2.2.2.2.1 um.2.2.2.2.2.2.2.2.2.2.2.2.1 um.2.2.2.2.2.2.2.2.2.2.2.2.2.1 um.2.2.2.2.2.2.2.2.2.2.2.2.2.2.1 um.2.2.2.2.2.2.2.2.2.2.2.2.2.2.2.1 um.2.2.2.2.2.2.2.2.2.2.2.2.2.2.2.2.1 um.2.2.2.2.2.2.2.2.2.2.2.2.2.2.2.2.2.1 um.2.2.2.2.2.2.2.2.2.2.2.2.2.2.2.2.2.2.1 um.2.2.2.2.2.2.2.2.2.2.2.2.2.2.2.2.2.2.2.1 um.2.2.2.2.2.2.2.2.2.2.2.2.2.2.2.2.2.2.2.2.1 um.2.2.2.2.2.2.2.2.2.2.2.2.2.2.2.2.2.2.2.2.2.1 um.2.2.2.2.2.2.2.2.2.2.2.2.2.2.2.2.2.2.2.2.2.2.1 um.2.2.2.2.2.2.2.2.2.2.2.2.2.2.2.2.2.2.2.2.2.2.2.1 um.2.2.2.2.2.2.2.2.2.2.2.2.2.2.2.2.2.2.2.2.2.2.2.2.1 um.2.2.2.2.2.2.2.2.2.2.2.2.2.2.2.2.2.2.2.2.2.2.2.2.2.1 um.2.2.2.2.2.2.2.2.2.2.2.2.2.2.2.2.2.2.2.2.2.2.2.2.2.2.1 um.2.2.2.2.2.2.2.2.2.2.2.2.2.2.2.2.2.2.2.2.2.2.2.2.2.2.2.1 um.2.2.2.2.2.2.2.2.2.2.2.2.2.2.2.2.2.2.2.2.2.2.2.2.2.2.2.2.1 um.2.2.2.2.2.2.2.2.2.2.2.2.2.2.2.2.2.2.2.2.2.2.2.2.2.2.2.2.2.1 um.2.2.2.2.2.2.2.2.2.2.2.2.2.2.2.2.2.2.2.2.2.2.2.2.2.2.2.2.2.2.1 um.2.2.2.2.2.2.2.2.2.2.2.2.2.2.2.2.2.2.2.2.2.2.2.2.2.2.2.2.2.2.2.1 um.2.2.2.2.2.2.2.2.2.2.2.2.2.2.2.2.2.2.2.2.2.2.2.2.2.2.2.2.2.2.2.2.1 um.2.2.2.2.2.2.2.2.2.2.2.2.2.2.2.2.2.2.2.2.2.2.2.2.2.2.2.2.2.2.2.2.2.1 um.2.2.2.2.2.2.2.2.2.2.2.2.2.2.2.2.2.2.2.2.2.2.2.2.2.2.2.2.2.2.2.2.2.2.1 um.2.2.2.2.2.2.2.2.2.2.2.2.2.2.2.2.2.2.2.2.2.2.2.2.2.2.2.2.2.2.2.2.2.2.2) (fun z => IJ (t + 1) u1 z.2) := by
  have hr := rs_give K hK t um p1 ht hJ.1
  obtain ⟨s0, s1, s2, s3, s4, s5, s6, s7, s8, s9, s10, s11, s12, s13, s14, s15, s16, s17, s18, s19, s20, s21, s22, s23, s24, s25, s26, s27, s28, s29, s30, s31, s32⟩ := u
  obtain ⟨v0, v1, v2, v3, v4, v5, v6, v7, v8, v9, v10, v11, v12, v13, v14, v15, v16, v17, v18, v19, v20, v21, v22, v23, v24, v25, v26, v27, v28, v29, v30, v31, v32, v33, v34, v35⟩ := um
  have fh : s0 = (2 : Int32) := fh
  obtain ⟨hM, hF, hA, hK9⟩ := hJ
  have hF : s0 = v1 := hF
  have h : zz_IM (t + 1) v1 v2 v3 v8 v9 v10 v11 v12 v19 v20 v21 v22 v24 v26 v27 v28 v31 v32 v35 := hM
  unfold zz_IM at h
  obtain ⟨m0, m1, m2, m3, m4, m5, m6, m7, m8, m9, m10, m11, m12, m13, m14, m15, m16, m17, m18, m19, m20, m21, m22, m23⟩ := h
  subst fh
  subst hF
  have f9 : (2 : Int32).toInt = 2 := by decide
  have hA : zz_JA t s1 s2 s3 s5 s6 s7 s8 s9 v2 v3 v4 v19 v20 v21 v22 v23 := hA.resolve_left (show ¬ (2 : Int32) = (-1) by decide)
  have hE9 : zz_JE s16 v8 := zz_JK_a2 hK9 rfl
  clear hK9
  obtain ⟨e1, e2, e3, g1, g2, g3, g4, g5, g6, R, O⟩ := hA
  subst e1
  subst e2
  subst e3
  obtain ⟨j1, j2, j3⟩ := hE9
  subst j1
  obtain ⟨t0, t1, t2, t3, t4, t5, t6, t7, t8, t9, t10, t11, t12, t13, t14, hm, eu⟩ := hD.2.2.2.2.1 rfl
  subst eu
  have hm : m_X11_give_X0 K 1024 200 200 200 200 512 512 (2 : Int32) p1 (2 : Int32) s1 s2 s3 s4 s5 s6 s7 s8 s9 s10 s11 s12 s13 s16 = some (e, r, t0, t1, t2, t3, t4, t5, t6, t7, t8, t9, t10, t11, t12, t13, t14) := hm
  obtain ⟨a9, ha9, hq⟩ := gg_X11_give_X0 K hK (t + 1) (by omega) 1024 200 200 200 200 512 512 (2 : Int32) p1 (2 : Int32) s1 s2 s3 s4 s5 s6 s7 s8 s9 s10 s11 s12 s13 s16 rfl rfl rfl rfl rfl rfl rfl (by omega) (by omega) (by omega) (by omega) R.2.2.1 (by omega) (by omega) (by omega) (by omega) (by omega) (by omega)
  rw [hm] at ha9
  cases ha9
  have q0 : zz_GE (e) (p1) r.toInt s2.toInt (s3) (s6) (s7) (s8) (s9) t2.toInt t3.toInt (t6) (t7) (t8) (t9) (t5) (t5 = s5 ∧ t14 = s16) (fun (s x : Int32) (c1 : Nat → Int32) => s = p1 ∧ c1 = s5 ∧ zz_pl (2 : Int32).toInt s1.toInt (s5) s16.toInt p1.toInt x.toInt ∧ (x.toInt = -1 ∨ t14.toInt = x.toInt + p1.toInt) ∧ (x.toInt ≠ -1 ∨ t14.toInt = s16.toInt)) := hq.1
  have q1 : zz_vs s1.toInt (t7) (t8) t2.toInt := hq.2.1
  have q2 : 0 ≤ t2.toInt := hq.2.2.1
  have q3 : t2.toInt ≤ 200 := hq.2.2.2.1
  have q4 : t0 = (2 : Int32) := hq.2.2.2.2.1
  have q5 : t1 = s1 := hq.2.2.2.2.2
  refine (zz_okand hr (gg_X12_give K hK (t + 1) (by omega) 1024 200 200 200 200 1024 32 45056 44 1024 1024 1024 9216 9 20000 65536 14 p1 v0 (2 : Int32) s1 s2 s3 v5 v6 v7 s16 v9 v10 v11 v12 v13 v14 v15 v16 v17 v18 v19 v20 v21 v22 v23 v24 v25 v26 v27 v28 v29 v30 v31 v32 v33 v34 v35 rfl rfl rfl rfl rfl rfl rfl rfl rfl rfl rfl rfl rfl rfl rfl rfl rfl m0 m1 m2 m3 m4 m5 m6 m7 m8 m9 m10 m11 m12 m13 m14 m15 m16 m17 m18 m19 m20 m21 m22 (by omega) (by omega) (by decide) m23 (zz_PR_n (by decide) (by decide)))).mono (fun z hz => ?_)
  obtain ⟨rz, w0, w1, w2, w3, w4, w5, w6, w7, w8, w9, w10, w11, w12, w13, w14, w15, w16, w17, w18, w19, w20, w21, w22, w23, w24, w25, w26, w27, w28, w29, w30, w31, w32, w33, w34, w35⟩ := z
  obtain ⟨⟨hz1, hz2⟩, hp⟩ := hz
  have x0 : zz_GF w0.toInt (p1) rz.toInt s1.toInt s2.toInt (s3) (v19) (v20) (v21) (v22) (v23) w3.toInt w4.toInt (w19) (w20) (w21) (w22) (w23) (w8 = s16 ∧ w9 = v9 ∧ w12 = v12 ∧ w24 = v24 ∧ w25 = v25 ∧ w26 = v26 ∧ w27 = v27 ∧ w28 = v28 ∧ w29 = v29 ∧ w30 = v30 ∧ w31 = v31 ∧ w32 = v32) (fun (s x : Int32) (o1 : Nat → Int32) => zz_FA (2 : Int32).toInt s1.toInt s16.toInt v9.toInt v11.toInt (v19) o1 (v24) (w24) (v25) (w25) (v26) (v27) (w26) (w27) (v31) (w31) (v32) (w32) (p1) s x.toInt ∧ zz_SX (2 : Int32).toInt x.toInt p1.toInt s.toInt s16.toInt w8.toInt v9.toInt w9.toInt v12.toInt w12.toInt (v28) (v29) (v30) (w28) (w29) (w30) x s) := hp.1
  have x1 : w1 = (2 : Int32) := hp.2.1
  have x2 : w2 = s1 := hp.2.2.1
  have x3 : w10 = v10 := hp.2.2.2.1
  have x4 : w11 = v11 := hp.2.2.2.2.1
  have x5 : w15 = v15 := hp.2.2.2.2.2.1
  have x6 : w16 = v16 := hp.2.2.2.2.2.2.1
  have x7 : w17 = v17 := hp.2.2.2.2.2.2.2.1
  have x8 : w18 = v18 := hp.2.2.2.2.2.2.2.2.1
  have x9 : w33 = v33 := hp.2.2.2.2.2.2.2.2.2.1
  have x10 : w34 = v34 := hp.2.2.2.2.2.2.2.2.2.2.1
  have x11 : w35 = v35 := hp.2.2.2.2.2.2.2.2.2.2.2
  obtain ⟨RB1, OC1, k1, k2, k3, k4, k5, k6, AGR, hL⟩ := zz_GG_step R O q0 x0 (fun z => z.1) (fun s x c1 s9 x9 o1 h1 h2 a b => zz_hF0 R O rfl (by omega) rfl (by omega) (by omega) h1 a b) rfl rfl rfl g5 (by omega) g3 g4
  refine ⟨hz1, q4.trans x1.symm, Or.inr ?_, zz_JK_m2 q4 ?_⟩
  · show zz_JA (t + 1) t1 t2 t3 t5 t6 t7 t8 t9 w2 w3 w4 w19 w20 w21 w22 w23
    rw [q5, x2]
    exact ⟨rfl, Int32.toInt_inj.mp k1.symm, Int32.toInt_inj.mp k2.symm, g1, g2, k5, k6, by omega, by omega, RB1, OC1⟩
  · show zz_JE t14 w8
    rcases hL with ⟨m1, m2, m3, m4, m5, m6⟩ | ⟨h1, h2, s, x, c1, o1, tk, fd, -, hz⟩
    · rw [m1.2, m2.1]
      exact ⟨rfl, j2, j3⟩
    · exact zz_gs0 (by omega) g2 ⟨rfl, j2, j3⟩ tk fd h1
set_option maxHeartbeats 4000000 in
theorem sim_give_3 (K : Nat) (hK : 1099511627776 ≤ K) (t : Nat) (u u1 : SX) (um : SM) (p1 : Int32) (e : String) (r : Int32) (ht : t < 512) (hI : IX u) (hJ : IJ t u um) (hD : DX_give K p1 u e r u1) (fh : u.1 = 3) : zz_ok (m_X12_give K 1024 200 200 200 200 1024 32 45056 44 1024 1024 1024 9216 9 20000 65536 14 p1 um.1 um.2.1 um.2.2.1 um.2.2.2.1 um.2.2.2.2.1 um.2.2.2.2.2.1 um.2.2.2.2.2.2.1 um.2.2.2.2.2.2.2.1 um.2.2.2.2.2.2.2.2.1 um.2.2.2.2.2.2.2.2.2.1 um.2.2.2.2.2.2.2.2.2.2.1 um.2.2.2.2.2.2.2.2.2.2.2.1 um.2.2.2.2.2.2.2.2.2.2.2.2.1 um.2.2.2.2.2.2.2.2.2.2.2.2.2.1 um.2.2.2.2.2.2.2.2.2.2.2.2.2.2.1 um.2.2.2.2.2.2.2.2.2.2.2.2.2.2.2.1 um.2.2.2.2.2.2.2.2.2.2.2.2.2.2.2.2.1 um.2.2.2.2.2.2.2.2.2.2.2.2.2.2.2.2.2.1 um.2.2.2.2.2.2.2.2.2.2.2.2.2.2.2.2.2.2.1 um.2.2.2.2.2.2.2.2.2.2.2.2.2.2.2.2.2.2.2.1 um.2.2.2.2.2.2.2.2.2.2.2.2.2.2.2.2.2.2.2.2.1 um.2.2.2.2.2.2.2.2.2.2.2.2.2.2.2.2.2.2.2.2.2.1 um.2.2.2.2.2.2.2.2.2.2.2.2.2.2.2.2.2.2.2.2.2.2.1 um.2.2.2.2.2.2.2.2.2.2.2.2.2.2.2.2.2.2.2.2.2.2.2.1 um.2.2.2.2.2.2.2.2.2.2.2.2.2.2.2.2.2.2.2.2.2.2.2.2.1 um.2.2.2.2.2.2.2.2.2.2.2.2.2.2.2.2.2.2.2.2.2.2.2.2.2.1 um.2.2.2.2.2.2.2.2.2.2.2.2.2.2.2.2.2.2.2.2.2.2.2.2.2.2.1 um.2.2.2.2.2.2.2.2.2.2.2.2.2.2.2.2.2.2.2.2.2.2.2.2.2.2.2.1 um.2.2.2.2.2.2.2.2.2.2.2.2.2.2.2.2.2.2.2.2.2.2.2.2.2.2.2.2.1 um.2.2.2.2.2.2.2.2.2.2.2.2.2.2.2.2.2.2.2.2.2.2.2.2.2.2.2.2.2.1 um.2.2.2.2.2.2.2.2.2.2.2.2.2.2.2.2.2.2.2.2.2.2.2.2.2.2.2.2.2.2.1 um.2.2.2.2.2.2.2.2.2.2.2.2.2.2.2.2.2.2.2.2.2.2.2.2.2.2.2.2.2.2.2.1 um.2.2.2.2.2.2.2.2.2.2.2.2.2.2.2.2.2.2.2.2.2.2.2.2.2.2.2.2.2.2.2.2.1 um.2.2.2.2.2.2.2.2.2.2.2.2.2.2.2.2.2.2.2.2.2.2.2.2.2.2.2.2.2.2.2.2.2.1 um.2.2.2.2.2.2.2.2.2.2.2.2.2.2.2.2.2.2.2.2.2.2.2.2.2.2.2.2.2.2.2.2.2.2.1 um.2.2.2.2.2.2.2.2.2.2.2.2.2.2.2.2.2.2.2.2.2.2.2.2.2.2.2.2.2.2.2.2.2.2.2) (fun z => IJ (t + 1) u1 z.2) := by
  have hr := rs_give K hK t um p1 ht hJ.1
  obtain ⟨s0, s1, s2, s3, s4, s5, s6, s7, s8, s9, s10, s11, s12, s13, s14, s15, s16, s17, s18, s19, s20, s21, s22, s23, s24, s25, s26, s27, s28, s29, s30, s31, s32⟩ := u
  obtain ⟨v0, v1, v2, v3, v4, v5, v6, v7, v8, v9, v10, v11, v12, v13, v14, v15, v16, v17, v18, v19, v20, v21, v22, v23, v24, v25, v26, v27, v28, v29, v30, v31, v32, v33, v34, v35⟩ := um
  have fh : s0 = (3 : Int32) := fh
  obtain ⟨hM, hF, hA, hK9⟩ := hJ
  have hF : s0 = v1 := hF
  have h : zz_IM (t + 1) v1 v2 v3 v8 v9 v10 v11 v12 v19 v20 v21 v22 v24 v26 v27 v28 v31 v32 v35 := hM
  unfold zz_IM at h
  obtain ⟨m0, m1, m2, m3, m4, m5, m6, m7, m8, m9, m10, m11, m12, m13, m14, m15, m16, m17, m18, m19, m20, m21, m22, m23⟩ := h
  subst fh
  subst hF
  have f9 : (3 : Int32).toInt = 3 := by decide
  have hA : zz_JA t s1 s2 s3 s5 s6 s7 s8 s9 v2 v3 v4 v19 v20 v21 v22 v23 := hA.resolve_left (show ¬ (3 : Int32) = (-1) by decide)
  have hE9 : zz_JE s17 v8 := zz_JK_a3 hK9 rfl
  clear hK9
  obtain ⟨e1, e2, e3, g1, g2, g3, g4, g5, g6, R, O⟩ := hA
  subst e1
  subst e2
  subst e3
  obtain ⟨j1, j2, j3⟩ := hE9
  subst j1
  obtain ⟨t0, t1, t2, t3, t4, t5, t6, t7, t8, t9, t10, t11, t12, t13, t14, hm, eu⟩ := hD.2.2.2.2.2.1 rfl
  subst eu
  have hm : m_X11_give_X0 K 1024 200 200 200 200 512 512 (3 : Int32) p1 (3 : Int32) s1 s2 s3 s4 s5 s6 s7 s8 s9 s10 s11 s12 s13 s17 = some (e, r, t0, t1, t2, t3, t4, t5, t6, t7, t8, t9, t10, t11, t12, t13, t14) := hm
  obtain ⟨a9, ha9, hq⟩ := gg_X11_give_X0 K hK (t + 1) (by omega) 1024 200 200 200 200 512 512 (3 : Int32) p1 (3 : Int32) s1 s2 s3 s4 s5 s6 s7 s8 s9 s10 s11 s12 s13 s17 rfl rfl rfl rfl rfl rfl rfl (by omega) (by omega) (by omega) (by omega) R.2.2.1 (by omega) (by omega) (by omega) (by omega) (by omega) (by omega)
  rw [hm] at ha9
  cases ha9
  have q0 : zz_GE (e) (p1) r.toInt s2.toInt (s3) (s6) (s7) (s8) (s9) t2.toInt t3.toInt (t6) (t7) (t8) (t9) (t5) (t5 = s5 ∧ t14 = s17) (fun (s x : Int32) (c1 : Nat → Int32) => s = p1 ∧ c1 = s5 ∧ zz_pl (3 : Int32).toInt s1.toInt (s5) s17.toInt p1.toInt x.toInt ∧ (x.toInt = -1 ∨ t14.toInt = x.toInt + p1.toInt) ∧ (x.toInt ≠ -1 ∨ t14.toInt = s17.toInt)) := hq.1
  have q1 : zz_vs s1.toInt (t7) (t8) t2.toInt := hq.2.1
  have q2 : 0 ≤ t2.toInt := hq.2.2.1
  have q3 : t2.toInt ≤ 200 := hq.2.2.2.1
  have q4 : t0 = (3 : Int32) := hq.2.2.2.2.1
  have q5 : t1 = s1 := hq.2.2.2.2.2
  refine (zz_okand hr (gg_X12_give K hK (t + 1) (by omega) 1024 200 200 200 200 1024 32 45056 44 1024 1024 1024 9216 9 20000 65536 14 p1 v0 (3 : Int32) s1 s2 s3 v5 v6 v7 s17 v9 v10 v11 v12 v13 v14 v15 v16 v17 v18 v19 v20 v21 v22 v23 v24 v25 v26 v27 v28 v29 v30 v31 v32 v33 v34 v35 rfl rfl rfl rfl rfl rfl rfl rfl rfl rfl rfl rfl rfl rfl rfl rfl rfl m0 m1 m2 m3 m4 m5 m6 m7 m8 m9 m10 m11 m12 m13 m14 m15 m16 m17 m18 m19 m20 m21 m22 (by omega) (by omega) (by decide) m23 (zz_PR_n (by decide) (by decide)))).mono (fun z hz => ?_)
  obtain ⟨rz, w0, w1, w2, w3, w4, w5, w6, w7, w8, w9, w10, w11, w12, w13, w14, w15, w16, w17, w18, w19, w20, w21, w22, w23, w24, w25, w26, w27, w28, w29, w30, w31, w32, w33, w34, w35⟩ := z
  obtain ⟨⟨hz1, hz2⟩, hp⟩ := hz
  have x0 : zz_GF w0.toInt (p1) rz.toInt s1.toInt s2.toInt (s3) (v19) (v20) (v21) (v22) (v23) w3.toInt w4.toInt (w19) (w20) (w21) (w22) (w23) (w8 = s17 ∧ w9 = v9 ∧ w12 = v12 ∧ w24 = v24 ∧ w25 = v25 ∧ w26 = v26 ∧ w27 = v27 ∧ w28 = v28 ∧ w29 = v29 ∧ w30 = v30 ∧ w31 = v31 ∧ w32 = v32) (fun (s x : Int32) (o1 : Nat → Int32) => zz_FA (3 : Int32).toInt s1.toInt s17.toInt v9.toInt v11.toInt (v19) o1 (v24) (w24) (v25) (w25) (v26) (v27) (w26) (w27) (v31) (w31) (v32) (w32) (p1) s x.toInt ∧ zz_SX (3 : Int32).toInt x.toInt p1.toInt s.toInt s17.toInt w8.toInt v9.toInt w9.toInt v12.toInt w12.toInt (v28) (v29) (v30) (w28) (w29) (w30) x s) := hp.1
  have x1 : w1 = (3 : Int32) := hp.2.1
  have x2 : w2 = s1 := hp.2.2.1
  have x3 : w10 = v10 := hp.2.2.2.1
  have x4 : w11 = v11 := hp.2.2.2.2.1
  have x5 : w15 = v15 := hp.2.2.2.2.2.1
  have x6 : w16 = v16 := hp.2.2.2.2.2.2.1
  have x7 : w17 = v17 := hp.2.2.2.2.2.2.2.1
  have x8 : w18 = v18 := hp.2.2.2.2.2.2.2.2.1
  have x9 : w33 = v33 := hp.2.2.2.2.2.2.2.2.2.1
  have x10 : w34 = v34 := hp.2.2.2.2.2.2.2.2.2.2.1
  have x11 : w35 = v35 := hp.2.2.2.2.2.2.2.2.2.2.2
  obtain ⟨RB1, OC1, k1, k2, k3, k4, k5, k6, AGR, hL⟩ := zz_GG_step R O q0 x0 (fun z => z.1) (fun s x c1 s9 x9 o1 h1 h2 a b => zz_hF0 R O rfl (by omega) rfl (by omega) (by omega) h1 a b) rfl rfl rfl g5 (by omega) g3 g4
  refine ⟨hz1, q4.trans x1.symm, Or.inr ?_, zz_JK_m3 q4 ?_⟩
  · show zz_JA (t + 1) t1 t2 t3 t5 t6 t7 t8 t9 w2 w3 w4 w19 w20 w21 w22 w23
    rw [q5, x2]
    exact ⟨rfl, Int32.toInt_inj.mp k1.symm, Int32.toInt_inj.mp k2.symm, g1, g2, k5, k6, by omega, by omega, RB1, OC1⟩
  · show zz_JE t14 w8
    rcases hL with ⟨m1, m2, m3, m4, m5, m6⟩ | ⟨h1, h2, s, x, c1, o1, tk, fd, -, hz⟩
    · rw [m1.2, m2.1]
      exact ⟨rfl, j2, j3⟩
    · exact zz_gs0 (by omega) g2 ⟨rfl, j2, j3⟩ tk fd h1
set_option maxHeartbeats 4000000 in
theorem sim_give_4 (K : Nat) (hK : 1099511627776 ≤ K) (t : Nat) (u u1 : SX) (um : SM) (p1 : Int32) (e : String) (r : Int32) (ht : t < 512) (hI : IX u) (hJ : IJ t u um) (hD : DX_give K p1 u e r u1) (fh : u.1 = 4) : zz_ok (m_X12_give K 1024 200 200 200 200 1024 32 45056 44 1024 1024 1024 9216 9 20000 65536 14 p1 um.1 um.2.1 um.2.2.1 um.2.2.2.1 um.2.2.2.2.1 um.2.2.2.2.2.1 um.2.2.2.2.2.2.1 um.2.2.2.2.2.2.2.1 um.2.2.2.2.2.2.2.2.1 um.2.2.2.2.2.2.2.2.2.1 um.2.2.2.2.2.2.2.2.2.2.1 um.2.2.2.2.2.2.2.2.2.2.2.1 um.2.2.2.2.2.2.2.2.2.2.2.2.1 um.2.2.2.2.2.2.2.2.2.2.2.2.2.1 um.2.2.2.2.2.2.2.2.2.2.2.2.2.2.1 um.2.2.2.2.2.2.2.2.2.2.2.2.2.2.2.1 um.2.2.2.2.2.2.2.2.2.2.2.2.2.2.2.2.1 um.2.2.2.2.2.2.2.2.2.2.2.2.2.2.2.2.2.1 um.2.2.2.2.2.2.2.2.2.2.2.2.2.2.2.2.2.2.1 um.2.2.2.2.2.2.2.2.2.2.2.2.2.2.2.2.2.2.2.1 um.2.2.2.2.2.2.2.2.2.2.2.2.2.2.2.2.2.2.2.2.1 um.2.2.2.2.2.2.2.2.2.2.2.2.2.2.2.2.2.2.2.2.2.1 um.2.2.2.2.2.2.2.2.2.2.2.2.2.2.2.2.2.2.2.2.2.2.1 um.2.2.2.2.2.2.2.2.2.2.2.2.2.2.2.2.2.2.2.2.2.2.2.1 um.2.2.2.2.2.2.2.2.2.2.2.2.2.2.2.2.2.2.2.2.2.2.2.2.1 um.2.2.2.2.2.2.2.2.2.2.2.2.2.2.2.2.2.2.2.2.2.2.2.2.2.1 um.2.2.2.2.2.2.2.2.2.2.2.2.2.2.2.2.2.2.2.2.2.2.2.2.2.2.1 um.2.2.2.2.2.2.2.2.2.2.2.2.2.2.2.2.2.2.2.2.2.2.2.2.2.2.2.1 um.2.2.2.2.2.2.2.2.2.2.2.2.2.2.2.2.2.2.2.2.2.2.2.2.2.2.2.2.1 um.2.2.2.2.2.2.2.2.2.2.2.2.2.2.2.2.2.2.2.2.2.2.2.2.2.2.2.2.2.1 um.2.2.2.2.2.2.2.2.2.2.2.2.2.2.2.2.2.2.2.2.2.2.2.2.2.2.2.2.2.2.1 um.2.2.2.2.2.2.2.2.2.2.2.2.2.2.2.2.2.2.2.2.2.2.2.2.2.2.2.2.2.2.2.1 um.2.2.2.2.2.2.2.2.2.2.2.2.2.2.2.2.2.2.2.2.2.2.2.2.2.2.2.2.2.2.2.2.1 um.2.2.2.2.2.2.2.2.2.2.2.2.2.2.2.2.2.2.2.2.2.2.2.2.2.2.2.2.2.2.2.2.2.1 um.2.2.2.2.2.2.2.2.2.2.2.2.2.2.2.2.2.2.2.2.2.2.2.2.2.2.2.2.2.2.2.2.2.2.1 um.2.2.2.2.2.2.2.2.2.2.2.2.2.2.2.2.2.2.2.2.2.2.2.2.2.2.2.2.2.2.2.2.2.2.2) (fun z => IJ (t + 1) u1 z.2) := by
  have hr := rs_give K hK t um p1 ht hJ.1
  obtain ⟨s0, s1, s2, s3, s4, s5, s6, s7, s8, s9, s10, s11, s12, s13, s14, s15, s16, s17, s18, s19, s20, s21, s22, s23, s24, s25, s26, s27, s28, s29, s30, s31, s32⟩ := u
  obtain ⟨v0, v1, v2, v3, v4, v5, v6, v7, v8, v9, v10, v11, v12, v13, v14, v15, v16, v17, v18, v19, v20, v21, v22, v23, v24, v25, v26, v27, v28, v29, v30, v31, v32, v33, v34, v35⟩ := um
  have fh : s0 = (4 : Int32) := fh
  obtain ⟨hM, hF, hA, hK9⟩ := hJ
  have hF : s0 = v1 := hF
  have h : zz_IM (t + 1) v1 v2 v3 v8 v9 v10 v11 v12 v19 v20 v21 v22 v24 v26 v27 v28 v31 v32 v35 := hM
  unfold zz_IM at h
  obtain ⟨m0, m1, m2, m3, m4, m5, m6, m7, m8, m9, m10, m11, m12, m13, m14, m15, m16, m17, m18, m19, m20, m21, m22, m23⟩ := h
  subst fh
  subst hF
  have f9 : (4 : Int32).toInt = 4 := by decide
  have hA : zz_JA t s1 s2 s3 s5 s6 s7 s8 s9 v2 v3 v4 v19 v20 v21 v22 v23 := hA.resolve_left (show ¬ (4 : Int32) = (-1) by decide)
  have hE9 : zz_J4 s1 s18 v10 s19 v24 v19 v20 v21 v22 := zz_JK_a4 hK9 rfl
  clear hK9
  obtain ⟨e1, e2, e3, g1, g2, g3, g4, g5, g6, R, O⟩ := hA
  subst e1
  subst e2
  subst e3
  obtain ⟨j1, JF⟩ := hE9
  subst j1
  have jp := zz_p2_pos JF.1.1
  have jl := JF.1.2.1
  obtain ⟨t0, t1, t2, t3, t4, t5, t6, t7, t8, t9, t10, t11, t12, t13, t14, t15, hm, eu⟩ := hD.2.2.2.2.2.2.1 rfl
  subst eu
  have hm : m_X11_give_X3 K 1024 200 200 200 200 512 512 1024 p1 (4 : Int32) s1 s2 s3 s4 s5 s6 s7 s8 s9 s10 s11 s12 s13 s18 s19 = some (e, r, t0, t1, t2, t3, t4, t5, t6, t7, t8, t9, t10, t11, t12, t13, t14, t15) := hm
  obtain ⟨a9, ha9, hq⟩ := gg_X11_give_X3 K hK (t + 1) (by omega) 1024 200 200 200 200 512 512 1024 p1 (4 : Int32) s1 s2 s3 s4 s5 s6 s7 s8 s9 s10 s11 s12 s13 s18 s19 rfl rfl rfl rfl rfl rfl rfl (by omega) (by omega) (by omega) (by omega) R.2.2.1 (by omega) (by omega) rfl (by omega) (by omega) JF.1.1 (zz_F4_P4 JF).1
  rw [hm] at ha9
  cases ha9
  have q0 : zz_GE (e) (p1) r.toInt s2.toInt (s3) (s6) (s7) (s8) (s9) t2.toInt t3.toInt (t6) (t7) (t8) (t9) (t5) (t5 = s5 ∧ t14 = s18 ∧ t15 = s19) (fun (s x : Int32) (c1 : Nat → Int32) => zz_lpw p1.toInt s.toInt ∧ c1 = s5 ∧ t14 = s18 ∧ zz_t4 (s19) (t15) s18.toInt s.toInt x.toInt) := hq.1
  have q1 : zz_vs s1.toInt (t7) (t8) t2.toInt := hq.2.1
  have q2 : 0 ≤ t2.toInt := hq.2.2.1
  have q3 : t2.toInt ≤ 200 := hq.2.2.2.1
  have q4 : t0 = (4 : Int32) := hq.2.2.2.2.1
  have q5 : t1 = s1 := hq.2.2.2.2.2
  refine (zz_okand hr (gg_X12_give K hK (t + 1) (by omega) 1024 200 200 200 200 1024 32 45056 44 1024 1024 1024 9216 9 20000 65536 14 p1 v0 (4 : Int32) s1 s2 s3 v5 v6 v7 v8 v9 s18 v11 v12 v13 v14 v15 v16 v17 v18 v19 v20 v21 v22 v23 v24 v25 v26 v27 v28 v29 v30 v31 v32 v33 v34 v35 rfl rfl rfl rfl rfl rfl rfl rfl rfl rfl rfl rfl rfl rfl rfl rfl rfl m0 m1 m2 m3 m4 m5 m6 m7 m8 m9 m10 m11 m12 m13 m14 m15 m16 m17 m18 m19 m20 m21 m22 (by omega) (by omega) (by decide) m23 (zz_F4_PR f9 JF))).mono (fun z hz => ?_)
  obtain ⟨rz, w0, w1, w2, w3, w4, w5, w6, w7, w8, w9, w10, w11, w12, w13, w14, w15, w16, w17, w18, w19, w20, w21, w22, w23, w24, w25, w26, w27, w28, w29, w30, w31, w32, w33, w34, w35⟩ := z
  obtain ⟨⟨hz1, hz2⟩, hp⟩ := hz
  have x0 : zz_GF w0.toInt (p1) rz.toInt s1.toInt s2.toInt (s3) (v19) (v20) (v21) (v22) (v23) w3.toInt w4.toInt (w19) (w20) (w21) (w22) (w23) (w8 = v8 ∧ w9 = v9 ∧ w12 = v12 ∧ w24 = v24 ∧ w25 = v25 ∧ w26 = v26 ∧ w27 = v27 ∧ w28 = v28 ∧ w29 = v29 ∧ w30 = v30 ∧ w31 = v31 ∧ w32 = v32) (fun (s x : Int32) (o1 : Nat → Int32) => zz_FA (4 : Int32).toInt s1.toInt v8.toInt v9.toInt v11.toInt (v19) o1 (v24) (w24) (v25) (w25) (v26) (v27) (w26) (w27) (v31) (w31) (v32) (w32) (p1) s x.toInt ∧ zz_SX (4 : Int32).toInt x.toInt p1.toInt s.toInt v8.toInt w8.toInt v9.toInt w9.toInt v12.toInt w12.toInt (v28) (v29) (v30) (w28) (w29) (w30) x s) := hp.1
  have x1 : w1 = (4 : Int32) := hp.2.1
  have x2 : w2 = s1 := hp.2.2.1
  have x3 : w10 = s18 := hp.2.2.2.1
  have x4 : w11 = v11 := hp.2.2.2.2.1
  have x5 : w15 = v15 := hp.2.2.2.2.2.1
  have x6 : w16 = v16 := hp.2.2.2.2.2.2.1
  have x7 : w17 = v17 := hp.2.2.2.2.2.2.2.1
  have x8 : w18 = v18 := hp.2.2.2.2.2.2.2.2.1
  have x9 : w33 = v33 := hp.2.2.2.2.2.2.2.2.2.1
  have x10 : w34 = v34 := hp.2.2.2.2.2.2.2.2.2.2.1
  have x11 : w35 = v35 := hp.2.2.2.2.2.2.2.2.2.2.2
  obtain ⟨RB1, OC1, k1, k2, k3, k4, k5, k6, AGR, hL⟩ := zz_GG_step R O q0 x0 (fun z => z.1) (fun s x c1 s9 x9 o1 h1 h2 a b => zz_hF4 f9 R O JF g2 h1 a b) rfl rfl rfl g5 (by omega) g3 g4
  refine ⟨hz1, q4.trans x1.symm, Or.inr ?_, zz_JK_m4 q4 ?_⟩
  · show zz_JA (t + 1) t1 t2 t3 t5 t6 t7 t8 t9 w2 w3 w4 w19 w20 w21 w22 w23
    rw [q5, x2]
    exact ⟨rfl, Int32.toInt_inj.mp k1.symm, Int32.toInt_inj.mp k2.symm, g1, g2, k5, k6, by omega, by omega, RB1, OC1⟩
  · show zz_J4 t1 t14 w10 t15 w24 w19 w20 w21 w22
    rcases hL with ⟨m1, m2, m3, m4, m5, m6⟩ | ⟨h1, h2, s, x, c1, o1, tk, fd, -, hz⟩
    · rw [q5, m1.2.1, x3, m1.2.2, m2.2.2.2.1, m3, m4, m5, m6]
      exact ⟨rfl, JF⟩
    · have tw := tk.2.2.1
      rw [q5, tw, x3]
      exact ⟨rfl, zz_gs4 f9 JF g1 g2 h1 tk fd hz⟩
set_option maxHeartbeats 4000000 in
theorem sim_give_5 (K : Nat) (hK : 1099511627776 ≤ K) (t : Nat) (u u1 : SX) (um : SM) (p1 : Int32) (e : String) (r : Int32) (ht : t < 512) (hI : IX u) (hJ : IJ t u um) (hD : DX_give K p1 u e r u1) (fh : u.1 = 5) : zz_ok (m_X12_give K 1024 200 200 200 200 1024 32 45056 44 1024 1024 1024 9216 9 20000 65536 14 p1 um.1 um.2.1 um.2.2.1 um.2.2.2.1 um.2.2.2.2.1 um.2.2.2.2.2.1 um.2.2.2.2.2.2.1 um.2.2.2.2.2.2.2.1 um.2.2.2.2.2.2.2.2.1 um.2.2.2.2.2.2.2.2.2.1 um.2.2.2.2.2.2.2.2.2.2.1 um.2.2.2.2.2.2.2.2.2.2.2.1 um.2.2.2.2.2.2.2.2.2.2.2.2.1 um.2.2.2.2.2.2.2.2.2.2.2.2.2.1 um.2.2.2.2.2.2.2.2.2.2.2.2.2.2.1 um.2.2.2.2.2.2.2.2.2.2.2.2.2.2.2.1 um.2.2.2.2.2.2.2.2.2.2.2.2.2.2.2.2.1 um.2.2.2.2.2.2.2.2.2.2.2.2.2.2.2.2.2.1 um.2.2.2.2.2.2.2.2.2.2.2.2.2.2.2.2.2.2.1 um.2.2.2.2.2.2.2.2.2.2.2.2.2.2.2.2.2.2.2.1 um.2.2.2.2.2.2.2.2.2.2.2.2.2.2.2.2.2.2.2.2.1 um.2.2.2.2.2.2.2.2.2.2.2.2.2.2.2.2.2.2.2.2.2.1 um.2.2.2.2.2.2.2.2.2.2.2.2.2.2.2.2.2.2.2.2.2.2.1 um.2.2.2.2.2.2.2.2.2.2.2.2.2.2.2.2.2.2.2.2.2.2.2.1 um.2.2.2.2.2.2.2.2.2.2.2.2.2.2.2.2.2.2.2.2.2.2.2.2.1 um.2.2.2.2.2.2.2.2.2.2.2.2.2.2.2.2.2.2.2.2.2.2.2.2.2.1 um.2.2.2.2.2.2.2.2.2.2.2.2.2.2.2.2.2.2.2.2.2.2.2.2.2.2.1 um.2.2.2.2.2.2.2.2.2.2.2.2.2.2.2.2.2.2.2.2.2.2.2.2.2.2.2.1 um.2.2.2.2.2.2.2.2.2.2.2.2.2.2.2.2.2.2.2.2.2.2.2.2.2.2.2.2.1 um.2.2.2.2.2.2.2.2.2.2.2.2.2.2.2.2.2.2.2.2.2.2.2.2.2.2.2.2.2.1 um.2.2.2.2.2.2.2.2.2.2.2.2.2.2.2.2.2.2.2.2.2.2.2.2.2.2.2.2.2.2.1 um.2.2.2.2.2.2.2.2.2.2.2.2.2.2.2.2.2.2.2.2.2.2.2.2.2.2.2.2.2.2.2.1 um.2.2.2.2.2.2.2.2.2.2.2.2.2.2.2.2.2.2.2.2.2.2.2.2.2.2.2.2.2.2.2.2.1 um.2.2.2.2.2.2.2.2.2.2.2.2.2.2.2.2.2.2.2.2.2.2.2.2.2.2.2.2.2.2.2.2.2.1 um.2.2.2.2.2.2.2.2.2.2.2.2.2.2.2.2.2.2.2.2.2.2.2.2.2.2.2.2.2.2.2.2.2.2.1 um.2.2.2.2.2.2.2.2.2.2.2.2.2.2.2.2.2.2.2.2.2.2.2.2.2.2.2.2.2.2.2.2.2.2.2) (fun z => IJ (t + 1) u1 z.2) := by
  have hr := rs_give K hK t um p1 ht hJ.1
  obtain ⟨s0, s1, s2, s3, s4, s5, s6, s7, s8, s9, s10, s11, s12, s13, s14, s15, s16, s17, s18, s19, s20, s21, s22, s23, s24, s25, s26, s27, s28, s29, s30, s31, s32⟩ := u
  obtain ⟨v0, v1, v2, v3, v4, v5, v6, v7, v8, v9, v10, v11, v12, v13, v14, v15, v16, v17, v18, v19, v20, v21, v22, v23, v24, v25, v26, v27, v28, v29, v30, v31, v32, v33, v34, v35⟩ := um
  have fh : s0 = (5 : Int32) := fh
  obtain ⟨hM, hF, hA, hK9⟩ := hJ
  have hF : s0 = v1 := hF
  have h : zz_IM (t + 1) v1 v2 v3 v8 v9 v10 v11 v12 v19 v20 v21 v22 v24 v26 v27 v28 v31 v32 v35 := hM
  unfold zz_IM at h
  obtain ⟨m0, m1, m2, m3, m4, m5, m6, m7, m8, m9, m10, m11, m12, m13, m14, m15, m16, m17, m18, m19, m20, m21, m22, m23⟩ := h
  subst fh
  subst hF
  have f9 : (5 : Int32).toInt = 5 := by decide
  have hA : zz_JA t s1 s2 s3 s5 s6 s7 s8 s9 v2 v3 v4 v19 v20 v21 v22 v23 := hA.resolve_left (show ¬ (5 : Int32) = (-1) by decide)
  have hE9 : zz_J5 s1 s20 v11 s21 s22 v25 v19 v20 v21 v22 := zz_JK_a5 hK9 rfl
  clear hK9
  obtain ⟨e1, e2, e3, g1, g2, g3, g4, g5, g6, R, O⟩ := hA
  subst e1
  subst e2
  subst e3
  obtain ⟨j1, JF⟩ := hE9
  subst j1
  have jp := JF.1
  obtain ⟨t0, t1, t2, t3, t4, t5, t6, t7, t8, t9, t10, t11, t12, t13, t14, t15, t16, hm, eu⟩ := hD.2.2.2.2.2.2.2.1 rfl
  subst eu
  have hm : m_X11_give_X5 K 1024 200 200 200 200 512 512 32 32 p1 (5 : Int32) s1 s2 s3 s4 s5 s6 s7 s8 s9 s10 s11 s12 s13 s20 s21 s22 = some (e, r, t0, t1, t2, t3, t4, t5, t6, t7, t8, t9, t10, t11, t12, t13, t14, t15, t16) := hm
  obtain ⟨a9, ha9, hq⟩ := gg_X11_give_X5 K hK (t + 1) (by omega) 1024 200 200 200 200 512 512 32 32 p1 (5 : Int32) s1 s2 s3 s4 s5 s6 s7 s8 s9 s10 s11 s12 s13 s20 s21 s22 rfl rfl rfl rfl rfl rfl rfl (by omega) (by omega) (by omega) (by omega) R.2.2.1 (by omega) (by omega) rfl rfl (by omega) (by omega)
  rw [hm] at ha9
  cases ha9
  have q0 : zz_GE (e) (p1) r.toInt s2.toInt (s3) (s6) (s7) (s8) (s9) t2.toInt t3.toInt (t6) (t7) (t8) (t9) (t5) (t5 = s5 ∧ t14 = s20 ∧ t15 = s21 ∧ t16 = s22) (fun (s x : Int32) (c1 : Nat → Int32) => zz_s5 p1.toInt s.toInt ∧ c1 = s5 ∧ t14 = s20 ∧ zz_k5t (s21) (s22) (t15) (t16) (s5) s20.toInt s x.toInt) := hq.1
  have q1 : zz_vs s1.toInt (t7) (t8) t2.toInt := hq.2.1
  have q2 : 0 ≤ t2.toInt := hq.2.2.1
  have q3 : t2.toInt ≤ 200 := hq.2.2.2.1
  have q4 : t0 = (5 : Int32) := hq.2.2.2.2.1
  have q5 : t1 = s1 := hq.2.2.2.2.2
  refine (zz_okand hr (gg_X12_give K hK (t + 1) (by omega) 1024 200 200 200 200 1024 32 45056 44 1024 1024 1024 9216 9 20000 65536 14 p1 v0 (5 : Int32) s1 s2 s3 v5 v6 v7 v8 v9 v10 s20 v12 v13 v14 v15 v16 v17 v18 v19 v20 v21 v22 v23 v24 v25 v26 v27 v28 v29 v30 v31 v32 v33 v34 v35 rfl rfl rfl rfl rfl rfl rfl rfl rfl rfl rfl rfl rfl rfl rfl rfl rfl m0 m1 m2 m3 m4 m5 m6 m7 m8 m9 m10 m11 m12 m13 m14 m15 m16 m17 m18 m19 m20 m21 m22 (by omega) (by omega) (by decide) m23 (zz_PR_n (by decide) (by decide)))).mono (fun z hz => ?_)
  obtain ⟨rz, w0, w1, w2, w3, w4, w5, w6, w7, w8, w9, w10, w11, w12, w13, w14, w15, w16, w17, w18, w19, w20, w21, w22, w23, w24, w25, w26, w27, w28, w29, w30, w31, w32, w33, w34, w35⟩ := z
  obtain ⟨⟨hz1, hz2⟩, hp⟩ := hz
  have x0 : zz_GF w0.toInt (p1) rz.toInt s1.toInt s2.toInt (s3) (v19) (v20) (v21) (v22) (v23) w3.toInt w4.toInt (w19) (w20) (w21) (w22) (w23) (w8 = v8 ∧ w9 = v9 ∧ w12 = v12 ∧ w24 = v24 ∧ w25 = v25 ∧ w26 = v26 ∧ w27 = v27 ∧ w28 = v28 ∧ w29 = v29 ∧ w30 = v30 ∧ w31 = v31 ∧ w32 = v32) (fun (s x : Int32) (o1 : Nat → Int32) => zz_FA (5 : Int32).toInt s1.toInt v8.toInt v9.toInt s20.toInt (v19) o1 (v24) (w24) (v25) (w25) (v26) (v27) (w26) (w27) (v31) (w31) (v32) (w32) (p1) s x.toInt ∧ zz_SX (5 : Int32).toInt x.toInt p1.toInt s.toInt v8.toInt w8.toInt v9.toInt w9.toInt v12.toInt w12.toInt (v28) (v29) (v30) (w28) (w29) (w30) x s) := hp.1
  have x1 : w1 = (5 : Int32) := hp.2.1
  have x2 : w2 = s1 := hp.2.2.1
  have x3 : w10 = v10 := hp.2.2.2.1
  have x4 : w11 = s20 := hp.2.2.2.2.1
  have x5 : w15 = v15 := hp.2.2.2.2.2.1
  have x6 : w16 = v16 := hp.2.2.2.2.2.2.1
  have x7 : w17 = v17 := hp.2.2.2.2.2.2.2.1
  have x8 : w18 = v18 := hp.2.2.2.2.2.2.2.2.1
  have x9 : w33 = v33 := hp.2.2.2.2.2.2.2.2.2.1
  have x10 : w34 = v34 := hp.2.2.2.2.2.2.2.2.2.2.1
  have x11 : w35 = v35 := hp.2.2.2.2.2.2.2.2.2.2.2
  obtain ⟨RB1, OC1, k1, k2, k3, k4, k5, k6, AGR, hL⟩ := zz_GG_step R O q0 x0 (fun z => z.1) (fun s x c1 s9 x9 o1 h1 h2 a b => zz_hF5 f9 R O JF h1 h2 a b) rfl rfl rfl g5 (by omega) g3 g4
  refine ⟨hz1, q4.trans x1.symm, Or.inr ?_, zz_JK_m5 q4 ?_⟩
  · show zz_JA (t + 1) t1 t2 t3 t5 t6 t7 t8 t9 w2 w3 w4 w19 w20 w21 w22 w23
    rw [q5, x2]
    exact ⟨rfl, Int32.toInt_inj.mp k1.symm, Int32.toInt_inj.mp k2.symm, g1, g2, k5, k6, by omega, by omega, RB1, OC1⟩
  · show zz_J5 t1 t14 w11 t15 t16 w25 w19 w20 w21 w22
    rcases hL with ⟨m1, m2, m3, m4, m5, m6⟩ | ⟨h1, h2, s, x, c1, o1, tk, fd, -, hz⟩
    · rw [q5, m1.2.1, x4, m1.2.2.1, m1.2.2.2, m2.2.2.2.2.1, m3, m4, m5, m6]
      exact ⟨rfl, JF⟩
    · have tw := tk.2.2.1
      rw [q5, tw, x4]
      exact ⟨rfl, zz_gs5 f9 JF R.2.2.2.1 O h1 h2 tk fd hz⟩
set_option maxHeartbeats 4000000 in
theorem sim_give_6 (K : Nat) (hK : 1099511627776 ≤ K) (t : Nat) (u u1 : SX) (um : SM) (p1 : Int32) (e : String) (r : Int32) (ht : t < 512) (hI : IX u) (hJ : IJ t u um) (hD : DX_give K p1 u e r u1) (fh : u.1 = 6) : zz_ok (m_X12_give K 1024 200 200 200 200 1024 32 45056 44 1024 1024 1024 9216 9 20000 65536 14 p1 um.1 um.2.1 um.2.2.1 um.2.2.2.1 um.2.2.2.2.1 um.2.2.2.2.2.1 um.2.2.2.2.2.2.1 um.2.2.2.2.2.2.2.1 um.2.2.2.2.2.2.2.2.1 um.2.2.2.2.2.2.2.2.2.1 um.2.2.2.2.2.2.2.2.2.2.1 um.2.2.2.2.2.2.2.2.2.2.2.1 um.2.2.2.2.2.2.2.2.2.2.2.2.1 um.2.2.2.2.2.2.2.2.2.2.2.2.2.1 um.2.2.2.2.2.2.2.2.2.2.2.2.2.2.1 um.2.2.2.2.2.2.2.2.2.2.2.2.2.2.2.1 um.2.2.2.2.2.2.2.2.2.2.2.2.2.2.2.2.1 um.2.2.2.2.2.2.2.2.2.2.2.2.2.2.2.2.2.1 um.2.2.2.2.2.2.2.2.2.2.2.2.2.2.2.2.2.2.1 um.2.2.2.2.2.2.2.2.2.2.2.2.2.2.2.2.2.2.2.1 um.2.2.2.2.2.2.2.2.2.2.2.2.2.2.2.2.2.2.2.2.1 um.2.2.2.2.2.2.2.2.2.2.2.2.2.2.2.2.2.2.2.2.2.1 um.2.2.2.2.2.2.2.2.2.2.2.2.2.2.2.2.2.2.2.2.2.2.1 um.2.2.2.2.2.2.2.2.2.2.2.2.2.2.2.2.2.2.2.2.2.2.2.1 um.2.2.2.2.2.2.2.2.2.2.2.2.2.2.2.2.2.2.2.2.2.2.2.2.1 um.2.2.2.2.2.2.2.2.2.2.2.2.2.2.2.2.2.2.2.2.2.2.2.2.2.1 um.2.2.2.2.2.2.2.2.2.2.2.2.2.2.2.2.2.2.2.2.2.2.2.2.2.2.1 um.2.2.2.2.2.2.2.2.2.2.2.2.2.2.2.2.2.2.2.2.2.2.2.2.2.2.2.1 um.2.2.2.2.2.2.2.2.2.2.2.2.2.2.2.2.2.2.2.2.2.2.2.2.2.2.2.2.1 um.2.2.2.2.2.2.2.2.2.2.2.2.2.2.2.2.2.2.2.2.2.2.2.2.2.2.2.2.2.1 um.2.2.2.2.2.2.2.2.2.2.2.2.2.2.2.2.2.2.2.2.2.2.2.2.2.2.2.2.2.2.1 um.2.2.2.2.2.2.2.2.2.2.2.2.2.2.2.2.2.2.2.2.2.2.2.2.2.2.2.2.2.2.2.1 um.2.2.2.2.2.2.2.2.2.2.2.2.2.2.2.2.2.2.2.2.2.2.2.2.2.2.2.2.2.2.2.2.1 um.2.2.2.2.2.2.2.2.2.2.2.2.2.2.2.2.2.2.2.2.2.2.2.2.2.2.2.2.2.2.2.2.2.1 um.2.2.2.2.2.2.2.2.2.2.2.2.2.2.2.2.2.2.2.2.2.2.2.2.2.2.2.2.2.2.2.2.2.2.1 um.2.2.2.2.2.2.2.2.2.2.2.2.2.2.2.2.2.2.2.2.2.2.2.2.2.2.2.2.2.2.2.2.2.2.2) (fun z => IJ (t + 1) u1 z.2) := by
  have hr := rs_give K hK t um p1 ht hJ.1
  obtain ⟨s0, s1, s2, s3, s4, s5, s6, s7, s8, s9, s10, s11, s12, s13, s14, s15, s16, s17, s18, s19, s20, s21, s22, s23, s24, s25, s26, s27, s28, s29, s30, s31, s32⟩ := u
  obtain ⟨v0, v1, v2, v3, v4, v5, v6, v7, v8, v9, v10, v11, v12, v13, v14, v15, v16, v17, v18, v19, v20, v21, v22, v23, v24, v25, v26, v27, v28, v29, v30, v31, v32, v33, v34, v35⟩ := um
  have fh : s0 = (6 : Int32) := fh
  obtain ⟨hM, hF, hA, hK9⟩ := hJ
  have hF : s0 = v1 := hF
  have h : zz_IM (t + 1) v1 v2 v3 v8 v9 v10 v11 v12 v19 v20 v21 v22 v24 v26 v27 v28 v31 v32 v35 := hM
  unfold zz_IM at h
  obtain ⟨m0, m1, m2, m3, m4, m5, m6, m7, m8, m9, m10, m11, m12, m13, m14, m15, m16, m17, m18, m19, m20, m21, m22, m23⟩ := h
  subst fh
  subst hF
  have f9 : (6 : Int32).toInt = 6 := by decide
  have hA : zz_JA t s1 s2 s3 s5 s6 s7 s8 s9 v2 v3 v4 v19 v20 v21 v22 v23 := hA.resolve_left (show ¬ (6 : Int32) = (-1) by decide)
  have hE9 : zz_J6 s1 s23 v19 v20 v21 v22 := zz_JK_a6 hK9 rfl
  clear hK9
  obtain ⟨e1, e2, e3, g1, g2, g3, g4, g5, g6, R, O⟩ := hA
  subst e1
  subst e2
  subst e3
  obtain ⟨jp, JF⟩ := hE9
  obtain ⟨t0, t1, t2, t3, t4, t5, t6, t7, t8, t9, t10, t11, t12, t13, t14, hm, eu⟩ := hD.2.2.2.2.2.2.2.2.1 rfl
  subst eu
  have hm : m_X11_give_X2 K 1024 200 200 200 200 512 512 p1 (6 : Int32) s1 s2 s3 s4 s5 s6 s7 s8 s9 s10 s11 s12 s13 s23 = some (e, r, t0, t1, t2, t3, t4, t5, t6, t7, t8, t9, t10, t11, t12, t13, t14) := hm
  obtain ⟨a9, ha9, hq⟩ := gg_X11_give_X2 K hK (t + 1) (by omega) 1024 200 200 200 200 512 512 p1 (6 : Int32) s1 s2 s3 s4 s5 s6 s7 s8 s9 s10 s11 s12 s13 s23 rfl rfl rfl rfl rfl rfl rfl (by omega) (by omega) (by omega) (by omega) R.2.2.1 (by omega) (by omega) (by omega) (by omega)
  rw [hm] at ha9
  cases ha9
  have q0 : zz_GE (e) (p1) r.toInt s2.toInt (s3) (s6) (s7) (s8) (s9) t2.toInt t3.toInt (t6) (t7) (t8) (t9) (t5) (t5 = s5 ∧ t14 = s23) (fun (s x : Int32) (c1 : Nat → Int32) => s.toInt = (p1.toInt + 3) / 4 * 4 ∧ c1 = s5 ∧ t14 = s23 ∧ zz_g6 (s5) s23.toInt s.toInt x.toInt) := hq.1
  have q1 : zz_vs s1.toInt (t7) (t8) t2.toInt := hq.2.1
  have q2 : 0 ≤ t2.toInt := hq.2.2.1
  have q3 : t2.toInt ≤ 200 := hq.2.2.2.1
  have q4 : t0 = (6 : Int32) := hq.2.2.2.2.1
  have q5 : t1 = s1 := hq.2.2.2.2.2
  refine (zz_okand hr (gg_X12_give K hK (t + 1) (by omega) 1024 200 200 200 200 1024 32 45056 44 1024 1024 1024 9216 9 20000 65536 14 p1 v0 (6 : Int32) s1 s2 s3 v5 v6 v7 v8 v9 v10 v11 v12 v13 v14 v15 v16 v17 v18 v19 v20 v21 v22 v23 v24 v25 v26 v27 v28 v29 v30 v31 v32 v33 v34 v35 rfl rfl rfl rfl rfl rfl rfl rfl rfl rfl rfl rfl rfl rfl rfl rfl rfl m0 m1 m2 m3 m4 m5 m6 m7 m8 m9 m10 m11 m12 m13 m14 m15 m16 m17 m18 m19 m20 m21 m22 (by omega) (by omega) (by decide) m23 (zz_PR_n (by decide) (by decide)))).mono (fun z hz => ?_)
  obtain ⟨rz, w0, w1, w2, w3, w4, w5, w6, w7, w8, w9, w10, w11, w12, w13, w14, w15, w16, w17, w18, w19, w20, w21, w22, w23, w24, w25, w26, w27, w28, w29, w30, w31, w32, w33, w34, w35⟩ := z
  obtain ⟨⟨hz1, hz2⟩, hp⟩ := hz
  have x0 : zz_GF w0.toInt (p1) rz.toInt s1.toInt s2.toInt (s3) (v19) (v20) (v21) (v22) (v23) w3.toInt w4.toInt (w19) (w20) (w21) (w22) (w23) (w8 = v8 ∧ w9 = v9 ∧ w12 = v12 ∧ w24 = v24 ∧ w25 = v25 ∧ w26 = v26 ∧ w27 = v27 ∧ w28 = v28 ∧ w29 = v29 ∧ w30 = v30 ∧ w31 = v31 ∧ w32 = v32) (fun (s x : Int32) (o1 : Nat → Int32) => zz_FA (6 : Int32).toInt s1.toInt v8.toInt v9.toInt v11.toInt (v19) o1 (v24) (w24) (v25) (w25) (v26) (v27) (w26) (w27) (v31) (w31) (v32) (w32) (p1) s x.toInt ∧ zz_SX (6 : Int32).toInt x.toInt p1.toInt s.toInt v8.toInt w8.toInt v9.toInt w9.toInt v12.toInt w12.toInt (v28) (v29) (v30) (w28) (w29) (w30) x s) := hp.1
  have x1 : w1 = (6 : Int32) := hp.2.1
  have x2 : w2 = s1 := hp.2.2.1
  have x3 : w10 = v10 := hp.2.2.2.1
  have x4 : w11 = v11 := hp.2.2.2.2.1
  have x5 : w15 = v15 := hp.2.2.2.2.2.1
  have x6 : w16 = v16 := hp.2.2.2.2.2.2.1
  have x7 : w17 = v17 := hp.2.2.2.2.2.2.2.1
  have x8 : w18 = v18 := hp.2.2.2.2.2.2.2.2.1
  have x9 : w33 = v33 := hp.2.2.2.2.2.2.2.2.2.1
  have x10 : w34 = v34 := hp.2.2.2.2.2.2.2.2.2.2.1
  have x11 : w35 = v35 := hp.2.2.2.2.2.2.2.2.2.2.2
  obtain ⟨RB1, OC1, k1, k2, k3, k4, k5, k6, AGR, hL⟩ := zz_GG_step R O q0 x0 (fun z => z.1) (fun s x c1 s9 x9 o1 h1 h2 a b => zz_hF6 f9 R O JF jp (by omega) h1 a b) rfl rfl rfl g5 (by omega) g3 g4
  refine ⟨hz1, q4.trans x1.symm, Or.inr ?_, zz_JK_m6 q4 ?_⟩
  · show zz_JA (t + 1) t1 t2 t3 t5 t6 t7 t8 t9 w2 w3 w4 w19 w20 w21 w22 w23
    rw [q5, x2]
    exact ⟨rfl, Int32.toInt_inj.mp k1.symm, Int32.toInt_inj.mp k2.symm, g1, g2, k5, k6, by omega, by omega, RB1, OC1⟩
  · show zz_J6 t1 t14 w19 w20 w21 w22
    rcases hL with ⟨m1, m2, m3, m4, m5, m6⟩ | ⟨h1, h2, s, x, c1, o1, tk, fd, -, hz⟩
    · rw [q5, m1.2, m3, m4, m5, m6]
      exact ⟨jp, JF⟩
    · have tw := tk.2.2.1
      rw [q5, tw]
      exact ⟨jp, zz_gs6 f9 JF h1 tk fd hz⟩
set_option maxHeartbeats 4000000 in
theorem sim_give_7 (K : Nat) (hK : 1099511627776 ≤ K) (t : Nat) (u u1 : SX) (um : SM) (p1 : Int32) (e : String) (r : Int32) (ht : t < 512) (hI : IX u) (hJ : IJ t u um) (hD : DX_give K p1 u e r u1) (fh : u.1 = 7) : zz_ok (m_X12_give K 1024 200 200 200 200 1024 32 45056 44 1024 1024 1024 9216 9 20000 65536 14 p1 um.1 um.2.1 um.2.2.1 um.2.2.2.1 um.2.2.2.2.1 um.2.2.2.2.2.1 um.2.2.2.2.2.2.1 um.2.2.2.2.2.2.2.1 um.2.2.2.2.2.2.2.2.1 um.2.2.2.2.2.2.2.2.2.1 um.2.2.2.2.2.2.2.2.2.2.1 um.2.2.2.2.2.2.2.2.2.2.2.1 um.2.2.2.2.2.2.2.2.2.2.2.2.1 um.2.2.2.2.2.2.2.2.2.2.2.2.2.1 um.2.2.2.2.2.2.2.2.2.2.2.2.2.2.1 um.2.2.2.2.2.2.2.2.2.2.2.2.2.2.2.1 um.2.2.2.2.2.2.2.2.2.2.2.2.2.2.2.2.1 um.2.2.2.2.2.2.2.2.2.2.2.2.2.2.2.2.2.1 um.2.2.2.2.2.2.2.2.2.2.2.2.2.2.2.2.2.2.1 um.2.2.2.2.2.2.2.2.2.2.2.2.2.2.2.2.2.2.2.1 um.2.2.2.2.2.2.2.2.2.2.2.2.2.2.2.2.2.2.2.2.1 um.2.2.2.2.2.2.2.2.2.2.2.2.2.2.2.2.2.2.2.2.2.1 um.2.2.2.2.2.2.2.2.2.2.2.2.2.2.2.2.2.2.2.2.2.2.1 um.2.2.2.2.2.2.2.2.2.2.2.2.2.2.2.2.2.2.2.2.2.2.2.1 um.2.2.2.2.2.2.2.2.2.2.2.2.2.2.2.2.2.2.2.2.2.2.2.2.1 um.2.2.2.2.2.2.2.2.2.2.2.2.2.2.2.2.2.2.2.2.2.2.2.2.2.1 um.2.2.2.2.2.2.2.2.2.2.2.2.2.2.2.2.2.2.2.2.2.2.2.2.2.2.1 um.2.2.2.2.2.2.2.2.2.2.2.2.2.2.2.2.2.2.2.2.2.2.2.2.2.2.2.1 um.2.2.2.2.2.2.2.2.2.2.2.2.2.2.2.2.2.2.2.2.2.2.2.2.2.2.2.2.1 um.2.2.2.2.2.2.2.2.2.2.2.2.2.2.2.2.2.2.2.2.2.2.2.2.2.2.2.2.2.1 um.2.2.2.2.2.2.2.2.2.2.2.2.2.2.2.2.2.2.2.2.2.2.2.2.2.2.2.2.2.2.1 um.2.2.2.2.2.2.2.2.2.2.2.2.2.2.2.2.2.2.2.2.2.2.2.2.2.2.2.2.2.2.2.1 um.2.2.2.2.2.2.2.2.2.2.2.2.2.2.2.2.2.2.2.2.2.2.2.2.2.2.2.2.2.2.2.2.1 um.2.2.2.2.2.2.2.2.2.2.2.2.2.2.2.2.2.2.2.2.2.2.2.2.2.2.2.2.2.2.2.2.2.1 um.2.2.2.2.2.2.2.2.2.2.2.2.2.2.2.2.2.2.2.2.2.2.2.2.2.2.2.2.2.2.2.2.2.2.1 um.2.2.2.2.2.2.2.2.2.2.2.2.2.2.2.2.2.2.2.2.2.2.2.2.2.2.2.2.2.2.2.2.2.2.2) (fun z => IJ (t + 1) u1 z.2) := by
  have hr := rs_give K hK t um p1 ht hJ.1
  obtain ⟨s0, s1, s2, s3, s4, s5, s6, s7, s8, s9, s10, s11, s12, s13, s14, s15, s16, s17, s18, s19, s20, s21, s22, s23, s24, s25, s26, s27, s28, s29, s30, s31, s32⟩ := u
  obtain ⟨v0, v1, v2, v3, v4, v5, v6, v7, v8, v9, v10, v11, v12, v13, v14, v15, v16, v17, v18, v19, v20, v21, v22, v23, v24, v25, v26, v27, v28, v29, v30, v31, v32, v33, v34, v35⟩ := um
  have fh : s0 = (7 : Int32) := fh
  obtain ⟨hM, hF, hA, hK9⟩ := hJ
  have hF : s0 = v1 := hF
  have h : zz_IM (t + 1) v1 v2 v3 v8 v9 v10 v11 v12 v19 v20 v21 v22 v24 v26 v27 v28 v31 v32 v35 := hM
  unfold zz_IM at h
  obtain ⟨m0, m1, m2, m3, m4, m5, m6, m7, m8, m9, m10, m11, m12, m13, m14, m15, m16, m17, m18, m19, m20, m21, m22, m23⟩ := h
  subst fh
  subst hF
  have f9 : (7 : Int32).toInt = 7 := by decide
  have hA : zz_JA t s1 s2 s3 s5 s6 s7 s8 s9 v2 v3 v4 v19 v20 v21 v22 v23 := hA.resolve_left (show ¬ (7 : Int32) = (-1) by decide)
  have hE9 : zz_JL s1 s24 s26 s27 v26 v27 v19 := zz_JK_a7 hK9 rfl
  clear hK9
  obtain ⟨e1, e2, e3, g1, g2, g3, g4, g5, g6, R, O⟩ := hA
  subst e1
  subst e2
  subst e3
  obtain ⟨JV, j0, j1, j2, JR, JX⟩ := hE9
  have S : zz_S7 s1.toInt s2.toInt s3.toInt s6 s7 s8 s9 s26 s27 s24.toInt v19 v20 v21 v22 v23 v26 v27 := ⟨R, JV, j0, j1, j2, JR, JX⟩
  obtain ⟨t0, t1, t2, t3, t4, t5, t6, t7, t8, t9, t10, t11, t12, t13, t14, t15, t16, t17, hm, eu⟩ := hD.2.2.2.2.2.2.2.2.2.1 rfl
  subst eu
  have hm : m_X11_give_X4 K 1024 200 200 200 200 512 512 201 201 p1 (7 : Int32) s1 s2 s3 s4 s5 s6 s7 s8 s9 s10 s11 s12 s13 s24 s25 s26 s27 = some (e, r, t0, t1, t2, t3, t4, t5, t6, t7, t8, t9, t10, t11, t12, t13, t14, t15, t16, t17) := hm
  obtain ⟨a9, ha9, hq⟩ := gg_X11_give_X4 K hK (t + 1) (by omega) 1024 200 200 200 200 512 512 201 201 p1 (7 : Int32) s1 s2 s3 s4 s5 s6 s7 s8 s9 s10 s11 s12 s13 s24 s25 s26 s27 rfl rfl rfl rfl rfl rfl rfl (by omega) (by omega) (by omega) (by omega) R.2.2.1 (by omega) (by omega) rfl rfl (by omega) (by omega) JV
  rw [hm] at ha9
  cases ha9
  have q0 : zz_GE (e) (p1) r.toInt s2.toInt (s3) (s6) (s7) (s8) (s9) t2.toInt t3.toInt (t6) (t7) (t8) (t9) (t5) (t5 = s5 ∧ t14 = s24 ∧ t15 = s25 ∧ t16 = s26 ∧ t17 = s27) (fun (s x : Int32) (c1 : Nat → Int32) => s = p1 ∧ c1 = s5 ∧ zz_ctk (s26) (s27) s24.toInt (t16) (t17) t14.toInt p1.toNatClampNeg x.toInt) := hq.1
  have q1 : zz_vs s1.toInt (t7) (t8) t2.toInt := hq.2.1
  have q2 : 0 ≤ t2.toInt := hq.2.2.1
  have q3 : t2.toInt ≤ 200 := hq.2.2.2.1
  have q4 : zz_vs s1.toInt (t16) (t17) t14.toInt := hq.2.2.2.2.1
  have q5 : 0 ≤ t14.toInt := hq.2.2.2.2.2.1
  have q6 : t14.toInt ≤ 201 := hq.2.2.2.2.2.2.1
  have q7 : t0 = (7 : Int32) := hq.2.2.2.2.2.2.2.1
  have q8 : t1 = s1 := hq.2.2.2.2.2.2.2.2
  refine (zz_okand hr (gg_X12_give K hK (t + 1) (by omega) 1024 200 200 200 200 1024 32 45056 44 1024 1024 1024 9216 9 20000 65536 14 p1 v0 (7 : Int32) s1 s2 s3 v5 v6 v7 v8 v9 v10 v11 v12 v13 v14 v15 v16 v17 v18 v19 v20 v21 v22 v23 v24 v25 v26 v27 v28 v29 v30 v31 v32 v33 v34 v35 rfl rfl rfl rfl rfl rfl rfl rfl rfl rfl rfl rfl rfl rfl rfl rfl rfl m0 m1 m2 m3 m4 m5 m6 m7 m8 m9 m10 m11 m12 m13 m14 m15 m16 m17 m18 m19 m20 m21 m22 (by omega) (by omega) (by decide) m23 (zz_PR_n (by decide) (by decide)))).mono (fun z hz => ?_)
  obtain ⟨rz, w0, w1, w2, w3, w4, w5, w6, w7, w8, w9, w10, w11, w12, w13, w14, w15, w16, w17, w18, w19, w20, w21, w22, w23, w24, w25, w26, w27, w28, w29, w30, w31, w32, w33, w34, w35⟩ := z
  obtain ⟨⟨hz1, hz2⟩, hp⟩ := hz
  have x0 : zz_GF w0.toInt (p1) rz.toInt s1.toInt s2.toInt (s3) (v19) (v20) (v21) (v22) (v23) w3.toInt w4.toInt (w19) (w20) (w21) (w22) (w23) (w8 = v8 ∧ w9 = v9 ∧ w12 = v12 ∧ w24 = v24 ∧ w25 = v25 ∧ w26 = v26 ∧ w27 = v27 ∧ w28 = v28 ∧ w29 = v29 ∧ w30 = v30 ∧ w31 = v31 ∧ w32 = v32) (fun (s x : Int32) (o1 : Nat → Int32) => zz_FA (7 : Int32).toInt s1.toInt v8.toInt v9.toInt v11.toInt (v19) o1 (v24) (w24) (v25) (w25) (v26) (v27) (w26) (w27) (v31) (w31) (v32) (w32) (p1) s x.toInt ∧ zz_SX (7 : Int32).toInt x.toInt p1.toInt s.toInt v8.toInt w8.toInt v9.toInt w9.toInt v12.toInt w12.toInt (v28) (v29) (v30) (w28) (w29) (w30) x s) := hp.1
  have x1 : w1 = (7 : Int32) := hp.2.1
  have x2 : w2 = s1 := hp.2.2.1
  have x3 : w10 = v10 := hp.2.2.2.1
  have x4 : w11 = v11 := hp.2.2.2.2.1
  have x5 : w15 = v15 := hp.2.2.2.2.2.1
  have x6 : w16 = v16 := hp.2.2.2.2.2.2.1
  have x7 : w17 = v17 := hp.2.2.2.2.2.2.2.1
  have x8 : w18 = v18 := hp.2.2.2.2.2.2.2.2.1
  have x9 : w33 = v33 := hp.2.2.2.2.2.2.2.2.2.1
  have x10 : w34 = v34 := hp.2.2.2.2.2.2.2.2.2.2.1
  have x11 : w35 = v35 := hp.2.2.2.2.2.2.2.2.2.2.2
  obtain ⟨RB1, OC1, k1, k2, k3, k4, k5, k6, AGR, hL⟩ := zz_GG_step R O q0 x0 (fun z => z.1) (fun s x c1 s9 x9 o1 h1 h2 a b => zz_hF7 f9 R O JR JX (by omega) h1 h2 a b) rfl rfl rfl g5 (by omega) g3 g4
  refine ⟨hz1, q7.trans x1.symm, Or.inr ?_, zz_JK_m7 q7 ?_⟩
  · show zz_JA (t + 1) t1 t2 t3 t5 t6 t7 t8 t9 w2 w3 w4 w19 w20 w21 w22 w23
    rw [q8, x2]
    exact ⟨rfl, Int32.toInt_inj.mp k1.symm, Int32.toInt_inj.mp k2.symm, g1, g2, k5, k6, by omega, by omega, RB1, OC1⟩
  · show zz_JL t1 t14 t16 t17 w26 w27 w19
    obtain ⟨⟨-, y1, y2, y3, y4, y5, y6⟩, -⟩ := zz_S7_give S (zz_GE_GV q0) (zz_GF_GR x0 (fun m2 => ⟨m2.2.2.2.2.2.1, m2.2.2.2.2.2.2.1⟩) (fun s x o1 z => zz_FA_77 z.1 f9)) q4 q5 q6 rfl rfl rfl g5 (by omega) g3 g4 (by omega) g2
    rw [q8]
    exact ⟨y1, y2, y3, y4, y5, y6⟩
set_option maxHeartbeats 4000000 in
theorem sim_give_8 (K : Nat) (hK : 1099511627776 ≤ K) (t : Nat) (u u1 : SX) (um : SM) (p1 : Int32) (e : String) (r : Int32) (ht : t < 512) (hI : IX u) (hJ : IJ t u um) (hD : DX_give K p1 u e r u1) (fh : u.1 = 8) : zz_ok (m_X12_give K 1024 200 200 200 200 1024 32 45056 44 1024 1024 1024 9216 9 20000 65536 14 p1 um.1 um.2.1 um.2.2.1 um.2.2.2.1 um.2.2.2.2.1 um.2.2.2.2.2.1 um.2.2.2.2.2.2.1 um.2.2.2.2.2.2.2.1 um.2.2.2.2.2.2.2.2.1 um.2.2.2.2.2.2.2.2.2.1 um.2.2.2.2.2.2.2.2.2.2.1 um.2.2.2.2.2.2.2.2.2.2.2.1 um.2.2.2.2.2.2.2.2.2.2.2.2.1 um.2.2.2.2.2.2.2.2.2.2.2.2.2.1 um.2.2.2.2.2.2.2.2.2.2.2.2.2.2.1 um.2.2.2.2.2.2.2.2.2.2.2.2.2.2.2.1 um.2.2.2.2.2.2.2.2.2.2.2.2.2.2.2.2.1 um.2.2.2.2.2.2.2.2.2.2.2.2.2.2.2.2.2.1 um.2.2.2.2.2.2.2.2.2.2.2.2.2.2.2.2.2.2.1 um.2.2.2.2.2.2.2.2.2.2.2.2.2.2.2.2.2.2.2.1 um.2.2.2.2.2.2.2.2.2.2.2.2.2.2.2.2.2.2.2.2.1 um.2.2.2.2.2.2.2.2.2.2.2.2.2.2.2.2.2.2.2.2.2.1 um.2.2.2.2.2.2.2.2.2.2.2.2.2.2.2.2.2.2.2.2.2.2.1 um.2.2.2.2.2.2.2.2.2.2.2.2.2.2.2.2.2.2.2.2.2.2.2.1 um.2.2.2.2.2.2.2.2.2.2.2.2.2.2.2.2.2.2.2.2.2.2.2.2.1 um.2.2.2.2.2.2.2.2.2.2.2.2.2.2.2.2.2.2.2.2.2.2.2.2.2.1 um.2.2.2.2.2.2.2.2.2.2.2.2.2.2.2.2.2.2.2.2.2.2.2.2.2.2.1 um.2.2.2.2.2.2.2.2.2.2.2.2.2.2.2.2.2.2.2.2.2.2.2.2.2.2.2.1 um.2.2.2.2.2.2.2.2.2.2.2.2.2.2.2.2.2.2.2.2.2.2.2.2.2.2.2.2.1 um.2.2.2.2.2.2.2.2.2.2.2.2.2.2.2.2.2.2.2.2.2.2.2.2.2.2.2.2.2.1 um.2.2.2.2.2.2.2.2.2.2.2.2.2.2.2.2.2.2.2.2.2.2.2.2.2.2.2.2.2.2.1 um.2.2.2.2.2.2.2.2.2.2.2.2.2.2.2.2.2.2.2.2.2.2.2.2.2.2.2.2.2.2.2.1 um.2.2.2.2.2.2.2.2.2.2.2.2.2.2.2.2.2.2.2.2.2.2.2.2.2.2.2.2.2.2.2.2.1 um.2.2.2.2.2.2.2.2.2.2.2.2.2.2.2.2.2.2.2.2.2.2.2.2.2.2.2.2.2.2.2.2.2.1 um.2.2.2.2.2.2.2.2.2.2.2.2.2.2.2.2.2.2.2.2.2.2.2.2.2.2.2.2.2.2.2.2.2.2.1 um.2.2.2.2.2.2.2.2.2.2.2.2.2.2.2.2.2.2.2.2.2.2.2.2.2.2.2.2.2.2.2.2.2.2.2) (fun z => IJ (t + 1) u1 z.2) := by
  have hr := rs_give K hK t um p1 ht hJ.1
  obtain ⟨s0, s1, s2, s3, s4, s5, s6, s7, s8, s9, s10, s11, s12, s13, s14, s15, s16, s17, s18, s19, s20, s21, s22, s23, s24, s25, s26, s27, s28, s29, s30, s31, s32⟩ := u
  obtain ⟨v0, v1, v2, v3, v4, v5, v6, v7, v8, v9, v10, v11, v12, v13, v14, v15, v16, v17, v18, v19, v20, v21, v22, v23, v24, v25, v26, v27, v28, v29, v30, v31, v32, v33, v34, v35⟩ := um
  have fh : s0 = (8 : Int32) := fh
  obtain ⟨hM, hF, hA, hK9⟩ := hJ
  have hF : s0 = v1 := hF
  have h : zz_IM (t + 1) v1 v2 v3 v8 v9 v10 v11 v12 v19 v20 v21 v22 v24 v26 v27 v28 v31 v32 v35 := hM
  unfold zz_IM at h
  obtain ⟨m0, m1, m2, m3, m4, m5, m6, m7, m8, m9, m10, m11, m12, m13, m14, m15, m16, m17, m18, m19, m20, m21, m22, m23⟩ := h
  subst fh
  subst hF
  have f9 : (8 : Int32).toInt = 8 := by decide
  have hA : zz_JA t s1 s2 s3 s5 s6 s7 s8 s9 v2 v3 v4 v19 v20 v21 v22 v23 := hA.resolve_left (show ¬ (8 : Int32) = (-1) by decide)
  have hE9 : zz_J8 s1 s28 v9 v12 v28 v29 v30 v19 v20 v21 v22 := zz_JK_a8 hK9 rfl
  clear hK9
  obtain ⟨e1, e2, e3, g1, g2, g3, g4, g5, g6, R, O⟩ := hA
  subst e1
  subst e2
  subst e3
  obtain ⟨j1, JF⟩ := hE9
  subst j1
  have jp := JF.2.1
  have jl := JF.2.2.1
  obtain ⟨t0, t1, t2, t3, t4, t5, t6, t7, t8, t9, t10, t11, t12, t13, t14, hm, eu⟩ := hD.2.2.2.2.2.2.2.2.2.2.1 rfl
  subst eu
  have hm : m_X11_give_X9 K 1024 200 200 200 200 512 512 p1 (8 : Int32) s1 s2 s3 s4 s5 s6 s7 s8 s9 s10 s11 s12 s13 s28 = some (e, r, t0, t1, t2, t3, t4, t5, t6, t7, t8, t9, t10, t11, t12, t13, t14) := hm
  obtain ⟨a9, ha9, hq⟩ := gg_X11_give_X9 K hK (t + 1) (by omega) 1024 200 200 200 200 512 512 p1 (8 : Int32) s1 s2 s3 s4 s5 s6 s7 s8 s9 s10 s11 s12 s13 s28 rfl rfl rfl rfl rfl rfl rfl (by omega) (by omega) (by omega) (by omega) R.2.2.1 (by omega) (by omega) (by omega) (by omega)
  rw [hm] at ha9
  cases ha9
  have q0 : zz_GE (e) (p1) r.toInt s2.toInt (s3) (s6) (s7) (s8) (s9) t2.toInt t3.toInt (t6) (t7) (t8) (t9) (t5) (t5 = s5 ∧ t14 = s28) (fun (s x : Int32) (c1 : Nat → Int32) => s = p1 ∧ c1 = s5 ∧ ((s1.toInt - s28.toInt < p1.toInt ∧ x.toInt = -1 ∧ t14.toInt = s28.toInt) ∨ (p1.toInt ≤ s1.toInt - s28.toInt ∧ x.toInt = s28.toInt ∧ t14.toInt = s28.toInt + p1.toInt))) := hq.1
  have q1 : zz_vs s1.toInt (t7) (t8) t2.toInt := hq.2.1
  have q2 : 0 ≤ t2.toInt := hq.2.2.1
  have q3 : t2.toInt ≤ 200 := hq.2.2.2.1
  have q4 : t0 = (8 : Int32) := hq.2.2.2.2.1
  have q5 : t1 = s1 := hq.2.2.2.2.2
  refine (zz_okand hr (gg_X12_give K hK (t + 1) (by omega) 1024 200 200 200 200 1024 32 45056 44 1024 1024 1024 9216 9 20000 65536 14 p1 v0 (8 : Int32) s1 s2 s3 v5 v6 v7 v8 s28 v10 v11 v12 v13 v14 v15 v16 v17 v18 v19 v20 v21 v22 v23 v24 v25 v26 v27 v28 v29 v30 v31 v32 v33 v34 v35 rfl rfl rfl rfl rfl rfl rfl rfl rfl rfl rfl rfl rfl rfl rfl rfl rfl m0 m1 m2 m3 m4 m5 m6 m7 m8 m9 m10 m11 m12 m13 m14 m15 m16 m17 m18 m19 m20 m21 m22 (by omega) (by omega) (by decide) m23 (zz_PR_n (by decide) (by decide)))).mono (fun z hz => ?_)
  obtain ⟨rz, w0, w1, w2, w3, w4, w5, w6, w7, w8, w9, w10, w11, w12, w13, w14, w15, w16, w17, w18, w19, w20, w21, w22, w23, w24, w25, w26, w27, w28, w29, w30, w31, w32, w33, w34, w35⟩ := z
  obtain ⟨⟨hz1, hz2⟩, hp⟩ := hz
  have x0 : zz_GF w0.toInt (p1) rz.toInt s1.toInt s2.toInt (s3) (v19) (v20) (v21) (v22) (v23) w3.toInt w4.toInt (w19) (w20) (w21) (w22) (w23) (w8 = v8 ∧ w9 = s28 ∧ w12 = v12 ∧ w24 = v24 ∧ w25 = v25 ∧ w26 = v26 ∧ w27 = v27 ∧ w28 = v28 ∧ w29 = v29 ∧ w30 = v30 ∧ w31 = v31 ∧ w32 = v32) (fun (s x : Int32) (o1 : Nat → Int32) => zz_FA (8 : Int32).toInt s1.toInt v8.toInt s28.toInt v11.toInt (v19) o1 (v24) (w24) (v25) (w25) (v26) (v27) (w26) (w27) (v31) (w31) (v32) (w32) (p1) s x.toInt ∧ zz_SX (8 : Int32).toInt x.toInt p1.toInt s.toInt v8.toInt w8.toInt s28.toInt w9.toInt v12.toInt w12.toInt (v28) (v29) (v30) (w28) (w29) (w30) x s) := hp.1
  have x1 : w1 = (8 : Int32) := hp.2.1
  have x2 : w2 = s1 := hp.2.2.1
  have x3 : w10 = v10 := hp.2.2.2.1
  have x4 : w11 = v11 := hp.2.2.2.2.1
  have x5 : w15 = v15 := hp.2.2.2.2.2.1
  have x6 : w16 = v16 := hp.2.2.2.2.2.2.1
  have x7 : w17 = v17 := hp.2.2.2.2.2.2.2.1
  have x8 : w18 = v18 := hp.2.2.2.2.2.2.2.2.1
  have x9 : w33 = v33 := hp.2.2.2.2.2.2.2.2.2.1
  have x10 : w34 = v34 := hp.2.2.2.2.2.2.2.2.2.2.1
  have x11 : w35 = v35 := hp.2.2.2.2.2.2.2.2.2.2.2
  obtain ⟨RB1, OC1, k1, k2, k3, k4, k5, k6, AGR, hL⟩ := zz_GG_step R O q0 x0 (fun z => z.1) (fun s x c1 s9 x9 o1 h1 h2 a b => zz_hF8 f9 R O JF rfl h1 a b) rfl rfl rfl g5 (by omega) g3 g4
  refine ⟨hz1, q4.trans x1.symm, Or.inr ?_, zz_JK_m8 q4 ?_⟩
  · show zz_JA (t + 1) t1 t2 t3 t5 t6 t7 t8 t9 w2 w3 w4 w19 w20 w21 w22 w23
    rw [q5, x2]
    exact ⟨rfl, Int32.toInt_inj.mp k1.symm, Int32.toInt_inj.mp k2.symm, g1, g2, k5, k6, by omega, by omega, RB1, OC1⟩
  · show zz_J8 t1 t14 w9 w12 w28 w29 w30 w19 w20 w21 w22
    rcases hL with ⟨m1, m2, m3, m4, m5, m6⟩ | ⟨h1, h2, s, x, c1, o1, tk, fd, -, hz⟩
    · rw [q5, m1.2, m2.2.1, m2.2.2.1, m2.2.2.2.2.2.2.2.1, m2.2.2.2.2.2.2.2.2.1, m2.2.2.2.2.2.2.2.2.2.1, m3, m4, m5, m6]
      exact ⟨rfl, JF⟩
    · obtain ⟨y1, y2⟩ := zz_gs8 f9 JF R.2.2.2.1 g5 (by omega) rfl h1 tk fd hz
      rw [q5]
      exact ⟨Int32.toInt_inj.mp y1, y2⟩
set_option maxHeartbeats 4000000 in
theorem sim_give_9 (K : Nat) (hK : 1099511627776 ≤ K) (t : Nat) (u u1 : SX) (um : SM) (p1 : Int32) (e : String) (r : Int32) (ht : t < 512) (hI : IX u) (hJ : IJ t u um) (hD : DX_give K p1 u e r u1) (fh : u.1 = 9) : zz_ok (m_X12_give K 1024 200 200 200 200 1024 32 45056 44 1024 1024 1024 9216 9 20000 65536 14 p1 um.1 um.2.1 um.2.2.1 um.2.2.2.1 um.2.2.2.2.1 um.2.2.2.2.2.1 um.2.2.2.2.2.2.1 um.2.2.2.2.2.2.2.1 um.2.2.2.2.2.2.2.2.1 um.2.2.2.2.2.2.2.2.2.1 um.2.2.2.2.2.2.2.2.2.2.1 um.2.2.2.2.2.2.2.2.2.2.2.1 um.2.2.2.2.2.2.2.2.2.2.2.2.1 um.2.2.2.2.2.2.2.2.2.2.2.2.2.1 um.2.2.2.2.2.2.2.2.2.2.2.2.2.2.1 um.2.2.2.2.2.2.2.2.2.2.2.2.2.2.2.1 um.2.2.2.2.2.2.2.2.2.2.2.2.2.2.2.2.1 um.2.2.2.2.2.2.2.2.2.2.2.2.2.2.2.2.2.1 um.2.2.2.2.2.2.2.2.2.2.2.2.2.2.2.2.2.2.1 um.2.2.2.2.2.2.2.2.2.2.2.2.2.2.2.2.2.2.2.1 um.2.2.2.2.2.2.2.2.2.2.2.2.2.2.2.2.2.2.2.2.1 um.2.2.2.2.2.2.2.2.2.2.2.2.2.2.2.2.2.2.2.2.2.1 um.2.2.2.2.2.2.2.2.2.2.2.2.2.2.2.2.2.2.2.2.2.2.1 um.2.2.2.2.2.2.2.2.2.2.2.2.2.2.2.2.2.2.2.2.2.2.2.1 um.2.2.2.2.2.2.2.2.2.2.2.2.2.2.2.2.2.2.2.2.2.2.2.2.1 um.2.2.2.2.2.2.2.2.2.2.2.2.2.2.2.2.2.2.2.2.2.2.2.2.2.1 um.2.2.2.2.2.2.2.2.2.2.2.2.2.2.2.2.2.2.2.2.2.2.2.2.2.2.1 um.2.2.2.2.2.2.2.2.2.2.2.2.2.2.2.2.2.2.2.2.2.2.2.2.2.2.2.1 um.2.2.2.2.2.2.2.2.2.2.2.2.2.2.2.2.2.2.2.2.2.2.2.2.2.2.2.2.1 um.2.2.2.2.2.2.2.2.2.2.2.2.2.2.2.2.2.2.2.2.2.2.2.2.2.2.2.2.2.1 um.2.2.2.2.2.2.2.2.2.2.2.2.2.2.2.2.2.2.2.2.2.2.2.2.2.2.2.2.2.2.1 um.2.2.2.2.2.2.2.2.2.2.2.2.2.2.2.2.2.2.2.2.2.2.2.2.2.2.2.2.2.2.2.1 um.2.2.2.2.2.2.2.2.2.2.2.2.2.2.2.2.2.2.2.2.2.2.2.2.2.2.2.2.2.2.2.2.1 um.2.2.2.2.2.2.2.2.2.2.2.2.2.2.2.2.2.2.2.2.2.2.2.2.2.2.2.2.2.2.2.2.2.1 um.2.2.2.2.2.2.2.2.2.2.2.2.2.2.2.2.2.2.2.2.2.2.2.2.2.2.2.2.2.2.2.2.2.2.1 um.2.2.2.2.2.2.2.2.2.2.2.2.2.2.2.2.2.2.2.2.2.2.2.2.2.2.2.2.2.2.2.2.2.2.2) (fun z => IJ (t + 1) u1 z.2) := by
  have hr := rs_give K hK t um p1 ht hJ.1
  obtain ⟨s0, s1, s2, s3, s4, s5, s6, s7, s8, s9, s10, s11, s12, s13, s14, s15, s16, s17, s18, s19, s20, s21, s22, s23, s24, s25, s26, s27, s28, s29, s30, s31, s32⟩ := u
  obtain ⟨v0, v1, v2, v3, v4, v5, v6, v7, v8, v9, v10, v11, v12, v13, v14, v15, v16, v17, v18, v19, v20, v21, v22, v23, v24, v25, v26, v27, v28, v29, v30, v31, v32, v33, v34, v35⟩ := um
  have fh : s0 = (9 : Int32) := fh
  obtain ⟨hM, hF, hA, hK9⟩ := hJ
  have hF : s0 = v1 := hF
  have h : zz_IM (t + 1) v1 v2 v3 v8 v9 v10 v11 v12 v19 v20 v21 v22 v24 v26 v27 v28 v31 v32 v35 := hM
  unfold zz_IM at h
  obtain ⟨m0, m1, m2, m3, m4, m5, m6, m7, m8, m9, m10, m11, m12, m13, m14, m15, m16, m17, m18, m19, m20, m21, m22, m23⟩ := h
  subst fh
  subst hF
  have f9 : (9 : Int32).toInt = 9 := by decide
  have hA : zz_JA t s1 s2 s3 s5 s6 s7 s8 s9 v2 v3 v4 v19 v20 v21 v22 v23 := hA.resolve_left (show ¬ (9 : Int32) = (-1) by decide)
  have hE9 : zz_J9 t s1 s29 s31 s32 v31 v32 v19 := zz_JK_a9 hK9 rfl
  clear hK9
  obtain ⟨e1, e2, e3, g1, g2, g3, g4, g5, g6, R, O⟩ := hA
  subst e1
  subst e2
  subst e3
  obtain ⟨JV, j0, j1, JF⟩ := hE9
  have hq9 : ∀ j : Nat, j < 9216 → 0 ≤ (v31 j).toInt := fun j hj => (m20 j hj).1
  have hm9 : ∀ j : Nat, j < 9 → 0 ≤ (v32 j).toInt ∧ (v32 j).toInt ≤ 1000 := fun j hj => ⟨(m21 j hj).1, by have : (v32 j).toInt ≤ ((t + 1 : Nat) : Int) := (m21 j hj).2; omega⟩
  obtain ⟨t0, t1, t2, t3, t4, t5, t6, t7, t8, t9, t10, t11, t12, t13, t14, t15, t16, t17, hm, eu⟩ := hD.2.2.2.2.2.2.2.2.2.2.2 rfl
  subst eu
  have hm : m_X11_give_X6 K 1024 200 200 200 200 512 512 1024 1024 p1 (9 : Int32) s1 s2 s3 s4 s5 s6 s7 s8 s9 s10 s11 s12 s13 s29 s30 s31 s32 = some (e, r, t0, t1, t2, t3, t4, t5, t6, t7, t8, t9, t10, t11, t12, t13, t14, t15, t16, t17) := hm
  obtain ⟨a9, ha9, hq⟩ := gg_X11_give_X6 K hK (t + 1) (by omega) 1024 200 200 200 200 512 512 1024 1024 p1 (9 : Int32) s1 s2 s3 s4 s5 s6 s7 s8 s9 s10 s11 s12 s13 s29 s30 s31 s32 rfl rfl rfl rfl rfl rfl rfl (by omega) (by omega) (by omega) (by omega) R.2.2.1 (by omega) (by omega) rfl rfl (by omega) (by omega) JV
  rw [hm] at ha9
  cases ha9
  have q0 : zz_GE (e) (p1) r.toInt s2.toInt (s3) (s6) (s7) (s8) (s9) t2.toInt t3.toInt (t6) (t7) (t8) (t9) (t5) (t5 = s5 ∧ t14 = s29 ∧ t15 = s30 ∧ t16 = s31 ∧ t17 = s32) (fun (s x : Int32) (c1 : Nat → Int32) => s = p1 ∧ zz_k9 s1.toInt (s5) c1 (s31) (s32) s29.toInt (t16) (t17) t14.toInt p1.toInt x.toInt) := hq.1
  have q1 : zz_vs s1.toInt (t7) (t8) t2.toInt := hq.2.1
  have q2 : 0 ≤ t2.toInt := hq.2.2.1
  have q3 : t2.toInt ≤ 200 := hq.2.2.2.1
  have q4 : t0 = (9 : Int32) := hq.2.2.2.2.1
  have q5 : t1 = s1 := hq.2.2.2.2.2
  refine (zz_okand hr (gg_X12_give K hK (t + 1) (by omega) 1024 200 200 200 200 1024 32 45056 44 1024 1024 1024 9216 9 20000 65536 14 p1 v0 (9 : Int32) s1 s2 s3 v5 v6 v7 v8 v9 v10 v11 v12 v13 v14 v15 v16 v17 v18 v19 v20 v21 v22 v23 v24 v25 v26 v27 v28 v29 v30 v31 v32 v33 v34 v35 rfl rfl rfl rfl rfl rfl rfl rfl rfl rfl rfl rfl rfl rfl rfl rfl rfl m0 m1 m2 m3 m4 m5 m6 m7 m8 m9 m10 m11 m12 m13 m14 m15 m16 m17 m18 m19 m20 m21 m22 (by omega) (by omega) (by decide) m23 (zz_F9_PR f9 JF hq9 hm9))).mono (fun z hz => ?_)
  obtain ⟨rz, w0, w1, w2, w3, w4, w5, w6, w7, w8, w9, w10, w11, w12, w13, w14, w15, w16, w17, w18, w19, w20, w21, w22, w23, w24, w25, w26, w27, w28, w29, w30, w31, w32, w33, w34, w35⟩ := z
  obtain ⟨⟨hz1, hz2⟩, hp⟩ := hz
  have x0 : zz_GF w0.toInt (p1) rz.toInt s1.toInt s2.toInt (s3) (v19) (v20) (v21) (v22) (v23) w3.toInt w4.toInt (w19) (w20) (w21) (w22) (w23) (w8 = v8 ∧ w9 = v9 ∧ w12 = v12 ∧ w24 = v24 ∧ w25 = v25 ∧ w26 = v26 ∧ w27 = v27 ∧ w28 = v28 ∧ w29 = v29 ∧ w30 = v30 ∧ w31 = v31 ∧ w32 = v32) (fun (s x : Int32) (o1 : Nat → Int32) => zz_FA (9 : Int32).toInt s1.toInt v8.toInt v9.toInt v11.toInt (v19) o1 (v24) (w24) (v25) (w25) (v26) (v27) (w26) (w27) (v31) (w31) (v32) (w32) (p1) s x.toInt ∧ zz_SX (9 : Int32).toInt x.toInt p1.toInt s.toInt v8.toInt w8.toInt v9.toInt w9.toInt v12.toInt w12.toInt (v28) (v29) (v30) (w28) (w29) (w30) x s) := hp.1
  have x1 : w1 = (9 : Int32) := hp.2.1
  have x2 : w2 = s1 := hp.2.2.1
  have x3 : w10 = v10 := hp.2.2.2.1
  have x4 : w11 = v11 := hp.2.2.2.2.1
  have x5 : w15 = v15 := hp.2.2.2.2.2.1
  have x6 : w16 = v16 := hp.2.2.2.2.2.2.1
  have x7 : w17 = v17 := hp.2.2.2.2.2.2.2.1
  have x8 : w18 = v18 := hp.2.2.2.2.2.2.2.2.1
  have x9 : w33 = v33 := hp.2.2.2.2.2.2.2.2.2.1
  have x10 : w34 = v34 := hp.2.2.2.2.2.2.2.2.2.2.1
  have x11 : w35 = v35 := hp.2.2.2.2.2.2.2.2.2.2.2
  obtain ⟨RB1, OC1, k1, k2, k3, k4, k5, k6, AGR, hL⟩ := zz_GG_step R O q0 x0 (fun z => z.1) (fun s x c1 s9 x9 o1 h1 h2 a b => zz_hF9 f9 R O JV j0 JF hq9 hm9 (by omega) h1 a b) rfl rfl rfl g5 (by omega) g3 g4
  refine ⟨hz1, q4.trans x1.symm, Or.inr ?_, zz_JK_m9 q4 ?_⟩
  · show zz_JA (t + 1) t1 t2 t3 t5 t6 t7 t8 t9 w2 w3 w4 w19 w20 w21 w22 w23
    rw [q5, x2]
    exact ⟨rfl, Int32.toInt_inj.mp k1.symm, Int32.toInt_inj.mp k2.symm, g1, g2, k5, k6, by omega, by omega, RB1, OC1⟩
  · show zz_J9 (t + 1) t1 t14 t16 t17 w31 w32 w19
    rcases hL with ⟨m1, m2, m3, m4, m5, m6⟩ | ⟨h1, h2, s, x, c1, o1, tk, fd, -, hz⟩
    · rw [q5, m1.2.1, m1.2.2.2.1, m1.2.2.2.2, m2.2.2.2.2.2.2.2.2.2.2.1, m2.2.2.2.2.2.2.2.2.2.2.2, m3]
      exact ⟨JV, j0, by omega, JF⟩
    · obtain ⟨y1, y2, y3⟩ := zz_gs9 f9 O JV j0 JF hq9 hm9 h1 tk fd hz
      rw [q5]
      exact ⟨zz_k9_vs tk.2 JV j0, y1, by omega, y3⟩
set_option maxHeartbeats 4000000 in
theorem sim_give (K : Nat) (hK : 1099511627776 ≤ K) (t : Nat) (u u1 : SX) (um : SM) (p1 : Int32) (e : String) (r : Int32) (ht : t < 512) (hI : IX u) (hJ : IJ t u um) (hD : DX_give K p1 u e r u1) : zz_ok (m_X12_give K 1024 200 200 200 200 1024 32 45056 44 1024 1024 1024 9216 9 20000 65536 14 p1 um.1 um.2.1 um.2.2.1 um.2.2.2.1 um.2.2.2.2.1 um.2.2.2.2.2.1 um.2.2.2.2.2.2.1 um.2.2.2.2.2.2.2.1 um.2.2.2.2.2.2.2.2.1 um.2.2.2.2.2.2.2.2.2.1 um.2.2.2.2.2.2.2.2.2.2.1 um.2.2.2.2.2.2.2.2.2.2.2.1 um.2.2.2.2.2.2.2.2.2.2.2.2.1 um.2.2.2.2.2.2.2.2.2.2.2.2.2.1 um.2.2.2.2.2.2.2.2.2.2.2.2.2.2.1 um.2.2.2.2.2.2.2.2.2.2.2.2.2.2.2.1 um.2.2.2.2.2.2.2.2.2.2.2.2.2.2.2.2.1 um.2.2.2.2.2.2.2.2.2.2.2.2.2.2.2.2.2.1 um.2.2.2.2.2.2.2.2.2.2.2.2.2.2.2.2.2.2.1 um.2.2.2.2.2.2.2.2.2.2.2.2.2.2.2.2.2.2.2.1 um.2.2.2.2.2.2.2.2.2.2.2.2.2.2.2.2.2.2.2.2.1 um.2.2.2.2.2.2.2.2.2.2.2.2.2.2.2.2.2.2.2.2.2.1 um.2.2.2.2.2.2.2.2.2.2.2.2.2.2.2.2.2.2.2.2.2.2.1 um.2.2.2.2.2.2.2.2.2.2.2.2.2.2.2.2.2.2.2.2.2.2.2.1 um.2.2.2.2.2.2.2.2.2.2.2.2.2.2.2.2.2.2.2.2.2.2.2.2.1 um.2.2.2.2.2.2.2.2.2.2.2.2.2.2.2.2.2.2.2.2.2.2.2.2.2.1 um.2.2.2.2.2.2.2.2.2.2.2.2.2.2.2.2.2.2.2.2.2.2.2.2.2.2.1 um.2.2.2.2.2.2.2.2.2.2.2.2.2.2.2.2.2.2.2.2.2.2.2.2.2.2.2.1 um.2.2.2.2.2.2.2.2.2.2.2.2.2.2.2.2.2.2.2.2.2.2.2.2.2.2.2.2.1 um.2.2.2.2.2.2.2.2.2.2.2.2.2.2.2.2.2.2.2.2.2.2.2.2.2.2.2.2.2.1 um.2.2.2.2.2.2.2.2.2.2.2.2.2.2.2.2.2.2.2.2.2.2.2.2.2.2.2.2.2.2.1 um.2.2.2.2.2.2.2.2.2.2.2.2.2.2.2.2.2.2.2.2.2.2.2.2.2.2.2.2.2.2.2.1 um.2.2.2.2.2.2.2.2.2.2.2.2.2.2.2.2.2.2.2.2.2.2.2.2.2.2.2.2.2.2.2.2.1 um.2.2.2.2.2.2.2.2.2.2.2.2.2.2.2.2.2.2.2.2.2.2.2.2.2.2.2.2.2.2.2.2.2.1 um.2.2.2.2.2.2.2.2.2.2.2.2.2.2.2.2.2.2.2.2.2.2.2.2.2.2.2.2.2.2.2.2.2.2.1 um.2.2.2.2.2.2.2.2.2.2.2.2.2.2.2.2.2.2.2.2.2.2.2.2.2.2.2.2.2.2.2.2.2.2.2) (fun z => IJ (t + 1) u1 z.2) := by
  rcases zz_s0 (x := u.1) hI.1 hI.2.1 with fh | fh | fh | fh | fh | fh | fh | fh | fh | fh | fh
  · exact sim_give_N K hK t u u1 um p1 e r ht hI hJ hD fh
  · exact sim_give_0 K hK t u u1 um p1 e r ht hI hJ hD fh
  · exact sim_give_1 K hK t u u1 um p1 e r ht hI hJ hD fh
  · exact sim_give_2 K hK t u u1 um p1 e r ht hI hJ hD fh
  · exact sim_give_3 K hK t u u1 um p1 e r ht hI hJ hD fh
  · exact sim_give_4 K hK t u u1 um p1 e r ht hI hJ hD fh
  · exact sim_give_5 K hK t u u1 um p1 e r ht hI hJ hD fh
  · exact sim_give_6 K hK t u u1 um p1 e r ht hI hJ hD fh
  · exact sim_give_7 K hK t u u1 um p1 e r ht hI hJ hD fh
  · exact sim_give_8 K hK t u u1 um p1 e r ht hI hJ hD fh
  · exact sim_give_9 K hK t u u1 um p1 e r ht hI hJ hD fh

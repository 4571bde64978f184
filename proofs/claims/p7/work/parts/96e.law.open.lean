set_option maxHeartbeats 8000000 in
set_option maxRecDepth 100000 in
theorem st_open {p : Program} {l : Launch} {e : Env} {s : State} {m : MethodId} {below : List Frame} {meth : Method} {c : Code} {b L : Nat} {xs : Nat → Int32} (hl9 : l.stackTraces = false) (C0 : lw_At p s m meth c b L xs) (K : Nat) (IM : Nat → SX → SM → Prop) (hK9 : 1099511627776 ≤ K) (hRS : RefSafe K IM) (dC : Nat → ClassId) (dI : Nat → Nat → Nat) (cI cJ cZ cF : ClassId) (hK4 : va_K (dC, dI) vwCl [(cI, .int), (cJ, .long), (cZ, .boolean), (cF, .object "RoomForms$Form")] s) (hN : zz_nw s) (hU : vx_Zq Bundle.tN "UNASSIGNED_STACK" Bundle.steD (fun q : Nat => s.heap.size ≤ q) s s.heap) (hQ : vx_Zq Bundle.tN "SUPPRESSED_SENTINEL" Bundle.listD (fun q : Nat => s.heap.size ≤ q) s s.heap) (q0 b1 b2 b3 b4 b5 b6 b7 b8 b9 b10 b11 b12 b13 b14 b15 b16 b17 b18 b19 b20 b21 b22 b23 b24 b25 b26 b27 b28 b29 y0 y1 y2 y3 y4 y5 y6 y7 y8 y9 y10 y11 y12 y13 y14 y15 y16 y17 o : Nat) (x4 : Int32) (hv1 : vp_in (x4 + 1) L) (hv2 : vp_in (x4 + 2) L) (hv3 : vp_in (x4 + 3) L) (Qz : State → Prop) (n1 n2 ti : Nat) (hti : ti < 512) (hn1 : n1 ≤ 100000) (hn2 : n2 ≤ 6000000) (kk : ∀ (u : SX) (so : SO) (um : SM) (f : Nat → Int64) (H : Heap) (locs : List Loc) (ls : Array Slot), IX u → ISo so → IM (ti + 1) u um → va_P (dC, dI) vwCl (((o, .inl (cJ, 1, .inr (.inl f))) :: wX cI cF q0 b1 b2 b3 b4 b5 b6 b7 b8 b9 b10 b11 b12 b13 b14 b15 b16 b17 b18 b19 b20 b21 b22 b23 b24 b25 b26 b27 b28 b29 u so) ++ wM cI cJ cZ y0 y1 y2 y3 y4 y5 y6 y7 y8 y9 y10 y11 y12 y13 y14 y15 y16 y17 um) H → va_D (fun q : Nat => s.heap.size ≤ q) (((o, .inl (cJ, 1, .inr (.inl f))) :: wX cI cF q0 b1 b2 b3 b4 b5 b6 b7 b8 b9 b10 b11 b12 b13 b14 b15 b16 b17 b18 b19 b20 b21 b22 b23 b24 b25 b26 b27 b28 b29 u so) ++ wM cI cJ cZ y0 y1 y2 y3 y4 y5 y6 y7 y8 y9 y10 y11 y12 y13 y14 y15 y16 y17 um) → va_S (fun q : Nat => s.heap.size ≤ q) s.heap H locs → lv_has ls 7 [(0, .ref b), (1, .ref q0), (2, .ref y0), (3, .ref o), (4, .int x4)] → W p l e room_1 s m #[Value.ref b] below meth c H locs (n1 + 3 + zz_kc so) (n2 + 20 + zz_ks so) Qz (F0 m 437 ls [])) : ∀ (u : SX) (so : SO) (um : SM) (f : Nat → Int64) (H : Heap) (locs : List Loc) (ls : Array Slot), IX u → ISo so → IM ti u um → va_P (dC, dI) vwCl (((o, .inl (cJ, 1, .inr (.inl f))) :: wX cI cF q0 b1 b2 b3 b4 b5 b6 b7 b8 b9 b10 b11 b12 b13 b14 b15 b16 b17 b18 b19 b20 b21 b22 b23 b24 b25 b26 b27 b28 b29 u so) ++ wM cI cJ cZ y0 y1 y2 y3 y4 y5 y6 y7 y8 y9 y10 y11 y12 y13 y14 y15 y16 y17 um) H → va_D (fun q : Nat => s.heap.size ≤ q) (((o, .inl (cJ, 1, .inr (.inl f))) :: wX cI cF q0 b1 b2 b3 b4 b5 b6 b7 b8 b9 b10 b11 b12 b13 b14 b15 b16 b17 b18 b19 b20 b21 b22 b23 b24 b25 b26 b27 b28 b29 u so) ++ wM cI cJ cZ y0 y1 y2 y3 y4 y5 y6 y7 y8 y9 y10 y11 y12 y13 y14 y15 y16 y17 um) → va_S (fun q : Nat => s.heap.size ≤ q) s.heap H locs → lv_has ls 7 [(0, .ref b), (1, .ref q0), (2, .ref y0), (3, .ref o), (4, .int x4)] → W p l e room_1 s m #[Value.ref b] below meth c H locs (n1 + zz_kc so) (n2 + zz_ks so) Qz (F0 m 88 ls []) := by
  obtain ⟨hx, hb, hr, hml, hown, hts, hX, hbl, hlocks, hgv⟩ := id C0
  have hA : ∀ q : Nat, s.heap.size ≤ q → (fun q : Nat => s.heap.size ≤ q) q := fun _ h => h
  have hbA : ¬ (fun q : Nat => s.heap.size ≤ q) b := Nat.not_le.mpr hbl
  have hK := hK4.sub (tys' := [(cI, .int), (cJ, .long), (cZ, .boolean)]) [0, 1, 2] rfl
  have hts1 : ∀ w ∈ wsL_law, w.before #[Value.ref b] s = true := fun w hw => hts w (wsL_law_in w hw)
  have hS0 : CallFix p m c code 7 s #[Value.ref b] wsL_law RL := ⟨hx, hb, hml, hown, hts1⟩
  intro u so um f H locs ls hI hO hIM hP hD hS hl
  refine lv_aload_n hx hb dL_law_88 rfl (lv_at hl 1 rfl) ?_
  refine lv_aload_n hx hb dL_law_89 rfl (lv_at hl 0 rfl) ?_
  refine lv_iload hx hb dL_law_90 (lv_at hl 4 rfl) ?_
  refine lv_iconst (v := 1) hx hb dL_law_92 (by decide) ?_
  refine lv_iadd hx hb dL_law_93 ?_
  refine va_sld hx hb hX hbl hbA hS (i := x4 + 1) hv1 dL_law_94 ?_
  refine lv_aload_n hx hb dL_law_95 rfl (lv_at hl 0 rfl) ?_
  refine lv_iload hx hb dL_law_96 (lv_at hl 4 rfl) ?_
  refine lv_iconst (v := 2) hx hb dL_law_98 (by decide) ?_
  refine lv_iadd hx hb dL_law_99 ?_
  refine va_sld hx hb hX hbl hbA hS (i := x4 + 2) hv2 dL_law_100 ?_
  obtain ⟨Rn, Rx, hM, hn9, hx9⟩ := ox_open l hl9 dC dI cI cJ cZ cF K hK9 q0 b1 b2 b3 b4 b5 b6 b7 b8 b9 b10 b11 b12 b13 b14 b15 b16 b17 b18 b19 b20 b21 b22 b23 b24 b25 b26 b27 b28 b29 u so hI (xs (x4 + 1).toNatClampNeg) (xs (x4 + 2).toNatClampNeg)
  have hPc := zz_Pr (a := [(o, .inl (cJ, 1, .inr (.inl f)))]) (zz_Pl hP)
  have hDc := zz_Dr (a := [(o, .inl (cJ, 1, .inr (.inl f)))]) (zz_Dl hD)
  have hFc := zz_freeW hDc hS hA
  refine va_calli (vx_runSW (As := [.ref q0, .int (xs (x4 + 1).toNatClampNeg), .int (xs (x4 + 2).toNatClampNeg)]) (rest := []) hS0 (cl_open l hl9 dC dI cI cJ cZ cF q0 (wX cI cF q0 b1 b2 b3 b4 b5 b6 b7 b8 b9 b10 b11 b12 b13 b14 b15 b16 b17 b18 b19 b20 b21 b22 b23 b24 b25 b26 b27 b28 b29 u so) _ rfl (xs (x4 + 1).toNatClampNeg) (xs (x4 + 2).toNatClampNeg) Rn Rx hM (fun E w h => (hx9 E w h).1) _) (vx_cwSW 3 hts1 gL_law_L_open rfl rfl rfl (by decide +kernel) ⟨(Nat.le_of_ble_eq_true rfl), (Nat.le_of_ble_eq_true rfl)⟩) (zz_psx hK4 hPc hDc hN hU hQ hS hFc) rfl rfl hl.1 rfl (lv_room (Nat.le_of_ble_eq_true rfl)) dL_law_101 ⟨by show _ ≤ 601024; have z1 := zz_kcL so; have z2 := zz_ksL so; omega, by show _ ≤ 7293034; have z1 := zz_kcL so; have z2 := zz_ksL so; omega⟩) hS (fun q _ h => hFc q h) hFc (fun r v t H1 locs ht hvm hw hB hz1 hk1 hS => ?_)
  obtain ⟨hP1, hK1, hD1⟩ := hB
  rw [ht] at hP1
  obtain ⟨u1, e9, hI1, hd9, rfl⟩ : ∃ (u1 : SX) (e9 : String), IX u1 ∧ DX_open K (xs (x4 + 1).toNatClampNeg) (xs (x4 + 2).toNatClampNeg) u e9 u1 ∧ v = wX cI cF q0 b1 b2 b3 b4 b5 b6 b7 b8 b9 b10 b11 b12 b13 b14 b15 b16 b17 b18 b19 b20 b21 b22 b23 b24 b25 b26 b27 b28 b29 u1 so := by
    rcases hw with ⟨-, h9⟩ | ⟨-, h9⟩
    · obtain ⟨-, u1, h2, h4, h3⟩ := hn9 _ h9
      exact ⟨u1, "", h2, h4, h3⟩
    · obtain ⟨-, -, u1, h2, h4, h3⟩ := hx9 _ _ h9
      exact ⟨u1, _, h2, h4, h3⟩
  obtain ⟨f9, ef9⟩ : ∃ z, z = f := ⟨_, rfl⟩
  subst ef9
  obtain ⟨hPl, hDl⟩ := zz_joinB (wr := [(o, .inl (cJ, 1, .inr (.inl f9)))]) (zz_Pl hP) (zz_Dl hD) hk1 hFc hP1 hD1
  obtain ⟨hP, hD⟩ := zz_join3 (w0 := [(o, .inl (cJ, 1, .inr (.inl f9)))]) (wc := wX cI cF q0 b1 b2 b3 b4 b5 b6 b7 b8 b9 b10 b11 b12 b13 b14 b15 b16 b17 b18 b19 b20 b21 b22 b23 b24 b25 b26 b27 b28 b29 u so) hP hD hk1 hFc hP1 hD1
  have hP : va_P (dC, dI) vwCl (((o, .inl (cJ, 1, .inr (.inl f9))) :: wX cI cF q0 b1 b2 b3 b4 b5 b6 b7 b8 b9 b10 b11 b12 b13 b14 b15 b16 b17 b18 b19 b20 b21 b22 b23 b24 b25 b26 b27 b28 b29 u1 so) ++ wM cI cJ cZ y0 y1 y2 y3 y4 y5 y6 y7 y8 y9 y10 y11 y12 y13 y14 y15 y16 y17 um) _ := hP
  have hD : va_D (fun q : Nat => s.heap.size ≤ q) (((o, .inl (cJ, 1, .inr (.inl f9))) :: wX cI cF q0 b1 b2 b3 b4 b5 b6 b7 b8 b9 b10 b11 b12 b13 b14 b15 b16 b17 b18 b19 b20 b21 b22 b23 b24 b25 b26 b27 b28 b29 u1 so) ++ wM cI cJ cZ y0 y1 y2 y3 y4 y5 y6 y7 y8 y9 y10 y11 y12 y13 y14 y15 y16 y17 um) := hD
  have hO1 : ISo so := hO
  refine lv_istore (lv' := [(5, .int r), (0, .ref b), (1, .ref q0), (2, .ref y0), (3, .ref o), (4, .int x4)]) hx hb dL_law_104 hl (by decide) rfl (fun ls hl => ?_)
  refine lv_aload_n hx hb dL_law_106 rfl (lv_at hl 3 rfl) ?_
  refine lv_aload_n hx hb dL_law_107 rfl (lv_at hl 1 rfl) ?_
  refine lv_iload hx hb dL_law_108 (lv_at hl 5 rfl) ?_
  refine lv_iconst (v := 1) hx hb dL_law_110 (by decide) ?_
  refine lv_iadd hx hb dL_law_111 ?_
  refine va_sld hx hb hX hbl hbA hS (i := x4 + 1) hv1 dL_law_112 ?_
  refine lv_aload_n hx hb dL_law_113 rfl (lv_at hl 1 rfl) ?_
  refine lv_iload hx hb dL_law_114 (lv_at hl 5 rfl) ?_
  refine lv_iconst (v := 2) hx hb dL_law_116 (by decide) ?_
  refine lv_iadd hx hb dL_law_117 ?_
  refine va_sld hx hb hX hbl hbA hS (i := x4 + 2) hv2 dL_law_118 ?_
  obtain ⟨um1, hm, hIM1⟩ := hRS.1 ti u u1 um (xs (x4 + 1).toNatClampNeg) (xs (x4 + 2).toNatClampNeg) e9 hti hI hIM hd9
  have hPm := zz_Pr hP
  have hDm := zz_Dr hD
  have hFm := zz_freeW hDm hS hA
  refine va_callv (va_runV (As := [.int (xs (x4 + 1).toNatClampNeg), .int (xs (x4 + 2).toNatClampNeg)]) (rest := []) hS0 (c_X12_open l dC dI cI cJ cZ K y0 y1 y2 y3 y4 y5 y6 y7 y8 y9 y10 y11 y12 y13 y14 y15 y16 y17 1024 200 200 200 200 1024 32 45056 44 1024 1024 1024 9216 9 20000 65536 14 um.1 um.2.1 um.2.2.1 um.2.2.2.1 um.2.2.2.2.1 um.2.2.2.2.2.1 um.2.2.2.2.2.2.1 um.2.2.2.2.2.2.2.1 um.2.2.2.2.2.2.2.2.1 um.2.2.2.2.2.2.2.2.2.1 um.2.2.2.2.2.2.2.2.2.2.1 um.2.2.2.2.2.2.2.2.2.2.2.1 um.2.2.2.2.2.2.2.2.2.2.2.2.1 um.2.2.2.2.2.2.2.2.2.2.2.2.2.1 um.2.2.2.2.2.2.2.2.2.2.2.2.2.2.1 um.2.2.2.2.2.2.2.2.2.2.2.2.2.2.2.1 um.2.2.2.2.2.2.2.2.2.2.2.2.2.2.2.2.1 um.2.2.2.2.2.2.2.2.2.2.2.2.2.2.2.2.2.1 um.2.2.2.2.2.2.2.2.2.2.2.2.2.2.2.2.2.2.1 um.2.2.2.2.2.2.2.2.2.2.2.2.2.2.2.2.2.2.2.1 um.2.2.2.2.2.2.2.2.2.2.2.2.2.2.2.2.2.2.2.2.1 um.2.2.2.2.2.2.2.2.2.2.2.2.2.2.2.2.2.2.2.2.2.1 um.2.2.2.2.2.2.2.2.2.2.2.2.2.2.2.2.2.2.2.2.2.2.1 um.2.2.2.2.2.2.2.2.2.2.2.2.2.2.2.2.2.2.2.2.2.2.2.1 um.2.2.2.2.2.2.2.2.2.2.2.2.2.2.2.2.2.2.2.2.2.2.2.2.1 um.2.2.2.2.2.2.2.2.2.2.2.2.2.2.2.2.2.2.2.2.2.2.2.2.2.1 um.2.2.2.2.2.2.2.2.2.2.2.2.2.2.2.2.2.2.2.2.2.2.2.2.2.2.1 um.2.2.2.2.2.2.2.2.2.2.2.2.2.2.2.2.2.2.2.2.2.2.2.2.2.2.2.1 um.2.2.2.2.2.2.2.2.2.2.2.2.2.2.2.2.2.2.2.2.2.2.2.2.2.2.2.2.1 um.2.2.2.2.2.2.2.2.2.2.2.2.2.2.2.2.2.2.2.2.2.2.2.2.2.2.2.2.2.1 um.2.2.2.2.2.2.2.2.2.2.2.2.2.2.2.2.2.2.2.2.2.2.2.2.2.2.2.2.2.2.1 um.2.2.2.2.2.2.2.2.2.2.2.2.2.2.2.2.2.2.2.2.2.2.2.2.2.2.2.2.2.2.2.1 um.2.2.2.2.2.2.2.2.2.2.2.2.2.2.2.2.2.2.2.2.2.2.2.2.2.2.2.2.2.2.2.2.1 um.2.2.2.2.2.2.2.2.2.2.2.2.2.2.2.2.2.2.2.2.2.2.2.2.2.2.2.2.2.2.2.2.2.1 um.2.2.2.2.2.2.2.2.2.2.2.2.2.2.2.2.2.2.2.2.2.2.2.2.2.2.2.2.2.2.2.2.2.2.1 um.2.2.2.2.2.2.2.2.2.2.2.2.2.2.2.2.2.2.2.2.2.2.2.2.2.2.2.2.2.2.2.2.2.2.2 ((xs (x4 + 1).toNatClampNeg)) ((xs (x4 + 2).toNatClampNeg)) _ um1 hm) (cwV 2 hts1 gL_law_X12_open rfl rfl rfl (by decide +kernel) ⟨(Nat.le_of_ble_eq_true rfl), (Nat.le_of_ble_eq_true rfl)⟩) (zz_pv hK hPm hDm hN (va_recv hK hPm (ci := 11) (q0 := 0) rfl rfl)) rfl rfl hl.1 rfl (lv_room (Nat.le_of_ble_eq_true rfl)) dL_law_119 ⟨by show _ ≤ 601024; have z1 := zz_kcL so; have z2 := zz_ksL so; omega, by show _ ≤ 7293034; have z1 := zz_kcL so; have z2 := zz_ksL so; omega⟩) hS (fun q _ h => hFm q h) hFm (fun v2 t H2 locs ht hvm2 hw2 hB hz2 hk2 hS => ?_)
  obtain ⟨hP2, hK2, hD2⟩ := hB
  rw [ht] at hP2
  subst hw2
  obtain ⟨hP, hD⟩ := zz_joinB (w1 := wM cI cJ cZ y0 y1 y2 y3 y4 y5 y6 y7 y8 y9 y10 y11 y12 y13 y14 y15 y16 y17 um1) hP hD hk2 hFm hP2 hD2
  refine lv_goto (tgt := 437) hx hb dL_law_122 (by decide) ?_
  refine W.widen (k := n1 + 3 + zz_kc so) (n := n2 + 20 + zz_ks so) (by simp only [zz_kc]; omega) (by simp only [zz_ks]; omega) ?_
  exact kk u1 so um1 f9 _ _ _ hI1 hO1 hIM1 hP hD hS (lv_sub hl [1, 2, 3, 4, 5] rfl)

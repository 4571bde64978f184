set_option maxHeartbeats 8000000 in
set_option maxRecDepth 100000 in
theorem st_worst {p : Program} {l : Launch} {e : Env} {s : State} {m : MethodId} {below : List Frame} {meth : Method} {c : Code} {b L : Nat} {xs : Nat → Int32} (hl9 : l.stackTraces = false) (C0 : lw_At p s m meth c b L xs) (K : Nat) (IM : Nat → SM → Prop) (hK9 : 1099511627776 ≤ K) (hRS : RefSafe K IM) (dC : Nat → ClassId) (dI : Nat → Nat → Nat) (cI cJ cZ cF : ClassId) (hK4 : va_K (dC, dI) vwCl [(cI, .int), (cJ, .long), (cZ, .boolean), (cF, .object "RoomForms$Form")] s) (hN : zz_nw s) (hU : vx_Zq Bundle.tN "UNASSIGNED_STACK" Bundle.steD (fun q : Nat => s.heap.size ≤ q) s s.heap) (hQ : vx_Zq Bundle.tN "SUPPRESSED_SENTINEL" Bundle.listD (fun q : Nat => s.heap.size ≤ q) s s.heap) (q0 b1 b2 b3 b4 b5 b6 b7 b8 b9 b10 b11 b12 b13 b14 b15 b16 b17 b18 b19 b20 b21 b22 b23 b24 b25 b26 b27 b28 b29 y0 y1 y2 y3 y4 y5 y6 y7 y8 y9 y10 y11 y12 y13 y14 y15 y16 y17 o : Nat) (x4 : Int32) (hv1 : vp_in (x4 + 1) L) (hv2 : vp_in (x4 + 2) L) (hv3 : vp_in (x4 + 3) L) (Qz : State → Prop) (n1 n2 ti : Nat) (hti : ti < 512) (hn1 : n1 ≤ 100000) (hn2 : n2 ≤ 6000000) (kk : ∀ (u : SX) (so : SO) (um : SM) (f : Nat → Int64) (H : Heap) (locs : List Loc) (ls : Array Slot), IX u → ISo (ti + 1) so → IM (ti + 1) um → va_P (dC, dI) vwCl (((o, .inl (cJ, 1, .inr (.inl f))) :: wX cI cF q0 b1 b2 b3 b4 b5 b6 b7 b8 b9 b10 b11 b12 b13 b14 b15 b16 b17 b18 b19 b20 b21 b22 b23 b24 b25 b26 b27 b28 b29 u so) ++ wM cI cJ cZ y0 y1 y2 y3 y4 y5 y6 y7 y8 y9 y10 y11 y12 y13 y14 y15 y16 y17 um) H → va_D (fun q : Nat => s.heap.size ≤ q) (((o, .inl (cJ, 1, .inr (.inl f))) :: wX cI cF q0 b1 b2 b3 b4 b5 b6 b7 b8 b9 b10 b11 b12 b13 b14 b15 b16 b17 b18 b19 b20 b21 b22 b23 b24 b25 b26 b27 b28 b29 u so) ++ wM cI cJ cZ y0 y1 y2 y3 y4 y5 y6 y7 y8 y9 y10 y11 y12 y13 y14 y15 y16 y17 um) → va_S (fun q : Nat => s.heap.size ≤ q) s.heap H locs → lv_has ls 7 [(0, .ref b), (1, .ref q0), (2, .ref y0), (3, .ref o), (4, .int x4)] → W p l e room_1 s m #[Value.ref b] below meth c H locs (n1 + 3 + zz_kc so) (n2 + 20 + zz_ks so) Qz (F0 m 437 ls [])) : ∀ (u : SX) (so : SO) (um : SM) (f : Nat → Int64) (H : Heap) (locs : List Loc) (ls : Array Slot), IX u → ISo ti so → IM ti um → va_P (dC, dI) vwCl (((o, .inl (cJ, 1, .inr (.inl f))) :: wX cI cF q0 b1 b2 b3 b4 b5 b6 b7 b8 b9 b10 b11 b12 b13 b14 b15 b16 b17 b18 b19 b20 b21 b22 b23 b24 b25 b26 b27 b28 b29 u so) ++ wM cI cJ cZ y0 y1 y2 y3 y4 y5 y6 y7 y8 y9 y10 y11 y12 y13 y14 y15 y16 y17 um) H → va_D (fun q : Nat => s.heap.size ≤ q) (((o, .inl (cJ, 1, .inr (.inl f))) :: wX cI cF q0 b1 b2 b3 b4 b5 b6 b7 b8 b9 b10 b11 b12 b13 b14 b15 b16 b17 b18 b19 b20 b21 b22 b23 b24 b25 b26 b27 b28 b29 u so) ++ wM cI cJ cZ y0 y1 y2 y3 y4 y5 y6 y7 y8 y9 y10 y11 y12 y13 y14 y15 y16 y17 um) → va_S (fun q : Nat => s.heap.size ≤ q) s.heap H locs → lv_has ls 7 [(0, .ref b), (1, .ref q0), (2, .ref y0), (3, .ref o), (4, .int x4)] → W p l e room_1 s m #[Value.ref b] below meth c H locs (n1 + zz_kc so) (n2 + zz_ks so) Qz (F0 m 329 ls []) := by
  obtain ⟨hx, hb, hr, hml, hown, hts, hX, hbl, hlocks, hgv⟩ := id C0
  have hA : ∀ q : Nat, s.heap.size ≤ q → (fun q : Nat => s.heap.size ≤ q) q := fun _ h => h
  have hbA : ¬ (fun q : Nat => s.heap.size ≤ q) b := Nat.not_le.mpr hbl
  have hK := hK4.sub (tys' := [(cI, .int), (cJ, .long), (cZ, .boolean)]) [0, 1, 2] rfl
  have hts1 : ∀ w ∈ wsL_law, w.before #[Value.ref b] s = true := fun w hw => hts w (wsL_law_in w hw)
  have hS0 : CallFix p m c code 7 s #[Value.ref b] wsL_law RL := ⟨hx, hb, hml, hown, hts1⟩
  intro u so um f H locs ls hI hO hIM hP hD hS hl
  refine lv_aload_n hx hb dL_law_329 rfl (lv_at hl 1 rfl) ?_
  refine lv_aload_n hx hb dL_law_330 rfl (lv_at hl 0 rfl) ?_
  refine lv_iload hx hb dL_law_331 (lv_at hl 4 rfl) ?_
  refine lv_iconst (v := 1) hx hb dL_law_333 (by decide) ?_
  refine lv_iadd hx hb dL_law_334 ?_
  refine va_sld hx hb hX hbl hbA hS (i := x4 + 1) hv1 dL_law_335 ?_
  refine lv_aload_n hx hb dL_law_336 rfl (lv_at hl 0 rfl) ?_
  refine lv_iload hx hb dL_law_337 (lv_at hl 4 rfl) ?_
  refine lv_iconst (v := 2) hx hb dL_law_339 (by decide) ?_
  refine lv_iadd hx hb dL_law_340 ?_
  refine va_sld hx hb hX hbl hbA hS (i := x4 + 2) hv2 dL_law_341 ?_
  refine lv_aload_n hx hb dL_law_342 rfl (lv_at hl 0 rfl) ?_
  refine lv_iload hx hb dL_law_343 (lv_at hl 4 rfl) ?_
  refine lv_iconst (v := 3) hx hb dL_law_345 (by decide) ?_
  refine lv_iadd hx hb dL_law_346 ?_
  refine va_sld hx hb hX hbl hbA hS (i := x4 + 3) hv3 dL_law_347 ?_
  refine lv_aload_n hx hb dL_law_348 rfl (lv_at hl 3 rfl) ?_
  by_cases hb9 : ((xs (x4 + 1).toNatClampNeg).toInt < 0 ∨ 3 < (xs (x4 + 1).toNatClampNeg).toInt ∨ (xs (x4 + 2).toNatClampNeg).toInt < 1 ∨ 4 < (xs (x4 + 2).toNatClampNeg).toInt ∨ (xs (x4 + 3).toNatClampNeg).toInt < 1 ∨ 8 < (xs (x4 + 3).toNatClampNeg).toInt ∨ (xs (x4 + 3).toNatClampNeg).toInt < (xs (x4 + 2).toNatClampNeg).toInt)
  · skip
    obtain ⟨Rn, Rx, hM, hn9, hx9⟩ := ox_worstX l hl9 dC dI cI cJ cZ cF K hK9 q0 b1 b2 b3 b4 b5 b6 b7 b8 b9 b10 b11 b12 b13 b14 b15 b16 b17 b18 b19 b20 b21 b22 b23 b24 b25 b26 b27 b28 b29 u hI (xs (x4 + 1).toNatClampNeg) (xs (x4 + 2).toNatClampNeg) (xs (x4 + 3).toNatClampNeg) so hb9
    have hPc := zz_Pl hP
    have hDc := zz_Dl hD
    have hFc := zz_freeW hDc hS hA
    refine va_calli (vx_runSW (As := [.ref q0, .int (xs (x4 + 1).toNatClampNeg), .int (xs (x4 + 2).toNatClampNeg), .int (xs (x4 + 3).toNatClampNeg), .ref o]) (rest := []) hS0 (cl_worst_X l hl9 dC dI cI cJ cZ cF q0 (wX cI cF q0 b1 b2 b3 b4 b5 b6 b7 b8 b9 b10 b11 b12 b13 b14 b15 b16 b17 b18 b19 b20 b21 b22 b23 b24 b25 b26 b27 b28 b29 u so) _ rfl (xs (x4 + 1).toNatClampNeg) (xs (x4 + 2).toNatClampNeg) (xs (x4 + 3).toNatClampNeg) Rn Rx hM (fun E w h => (hx9 E w h).1) o f _) (vx_cwSW 5 hts1 gL_law_L_worst rfl rfl rfl (by decide +kernel) ⟨(Nat.le_of_ble_eq_true rfl), (Nat.le_of_ble_eq_true rfl)⟩) (zz_psx hK4 hPc hDc hN hU hQ hS hFc) rfl rfl hl.1 rfl (lv_room (Nat.le_of_ble_eq_true rfl)) dL_law_349 ⟨by show _ ≤ 601024; have z1 := zz_kcL so; have z2 := zz_ksL so; omega, by show _ ≤ 7293034; have z1 := zz_kcL so; have z2 := zz_ksL so; omega⟩) hS (fun q _ h => hFc q h) hFc (fun r v t H1 locs ht hvm hw hB hz1 hk1 hS => ?_)
    obtain ⟨hP1, hK1, hD1⟩ := hB
    rw [ht] at hP1
    obtain ⟨w9, f9⟩ := v
    obtain ⟨u1, hI1, hr9, rfl⟩ : ∃ u1 : SX, IX u1 ∧ r = 1 ∧ w9 = wX cI cF q0 b1 b2 b3 b4 b5 b6 b7 b8 b9 b10 b11 b12 b13 b14 b15 b16 b17 b18 b19 b20 b21 b22 b23 b24 b25 b26 b27 b28 b29 u1 so := by
      rcases hw with ⟨-, r9, h9, -⟩ | ⟨h8, h9, -⟩
      · exact (hn9 _ _ h9).elim
      · obtain ⟨u1, h1, h2⟩ := (hx9 _ _ h9).2
        exact ⟨u1, h1, h8, h2⟩
    obtain ⟨hP, hD⟩ := zz_joinA hP hD hk1 hFc hP1 hD1
    have hP : va_P (dC, dI) vwCl (((o, .inl (cJ, 1, .inr (.inl f9))) :: wX cI cF q0 b1 b2 b3 b4 b5 b6 b7 b8 b9 b10 b11 b12 b13 b14 b15 b16 b17 b18 b19 b20 b21 b22 b23 b24 b25 b26 b27 b28 b29 u1 so) ++ wM cI cJ cZ y0 y1 y2 y3 y4 y5 y6 y7 y8 y9 y10 y11 y12 y13 y14 y15 y16 y17 um) _ := hP
    have hD : va_D (fun q : Nat => s.heap.size ≤ q) (((o, .inl (cJ, 1, .inr (.inl f9))) :: wX cI cF q0 b1 b2 b3 b4 b5 b6 b7 b8 b9 b10 b11 b12 b13 b14 b15 b16 b17 b18 b19 b20 b21 b22 b23 b24 b25 b26 b27 b28 b29 u1 so) ++ wM cI cJ cZ y0 y1 y2 y3 y4 y5 y6 y7 y8 y9 y10 y11 y12 y13 y14 y15 y16 y17 um) := hD
    have hO1 : ISo (ti + 1) so := (ISo_up hO)
    refine lv_istore (lv' := [(5, .int r), (0, .ref b), (1, .ref q0), (2, .ref y0), (3, .ref o), (4, .int x4)]) hx hb dL_law_352 hl (by decide) rfl (fun ls hl => ?_)
    refine lv_aload_n hx hb dL_law_354 rfl (lv_at hl 3 rfl) ?_
    refine lv_aload_n hx hb dL_law_355 rfl (lv_at hl 1 rfl) ?_
    refine lv_iload hx hb dL_law_356 (lv_at hl 5 rfl) ?_
    refine lv_iconst (v := 1) hx hb dL_law_358 (by decide) ?_
    refine lv_iadd hx hb dL_law_359 ?_
    refine va_sld hx hb hX hbl hbA hS (i := x4 + 1) hv1 dL_law_360 ?_
    refine lv_aload_n hx hb dL_law_361 rfl (lv_at hl 1 rfl) ?_
    refine lv_iload hx hb dL_law_362 (lv_at hl 5 rfl) ?_
    refine lv_iconst (v := 2) hx hb dL_law_364 (by decide) ?_
    refine lv_iadd hx hb dL_law_365 ?_
    refine va_sld hx hb hX hbl hbA hS (i := x4 + 2) hv2 dL_law_366 ?_
    refine lv_aload_n hx hb dL_law_367 rfl (lv_at hl 1 rfl) ?_
    refine lv_iload hx hb dL_law_368 (lv_at hl 5 rfl) ?_
    refine lv_iconst (v := 3) hx hb dL_law_370 (by decide) ?_
    refine lv_iadd hx hb dL_law_371 ?_
    refine va_sld hx hb hX hbl hbA hS (i := x4 + 3) hv3 dL_law_372 ?_
    obtain ⟨⟨rz, um1⟩, hm, hIM1, ht9, hq9⟩ := hRS.2.2.2.2.2.2.2.1 ti um (xs (x4 + 1).toNatClampNeg) (xs (x4 + 2).toNatClampNeg) (xs (x4 + 3).toNatClampNeg) hti hIM
    have hPm := zz_Pr hP
    have hDm := zz_Dr hD
    have hFm := zz_freeW hDm hS hA
    refine va_calli (va_runV (As := [.int (xs (x4 + 1).toNatClampNeg), .int (xs (x4 + 2).toNatClampNeg), .int (xs (x4 + 3).toNatClampNeg)]) (rest := []) hS0 (c_X12_worst l dC dI cI cJ cZ K y0 y1 y2 y3 y4 y5 y6 y7 y8 y9 y10 y11 y12 y13 y14 y15 y16 y17 1024 200 200 200 200 1024 32 45056 44 1024 1024 1024 9216 9 20000 65536 14 um.1 um.2.1 um.2.2.1 um.2.2.2.1 um.2.2.2.2.1 um.2.2.2.2.2.1 um.2.2.2.2.2.2.1 um.2.2.2.2.2.2.2.1 um.2.2.2.2.2.2.2.2.1 um.2.2.2.2.2.2.2.2.2.1 um.2.2.2.2.2.2.2.2.2.2.1 um.2.2.2.2.2.2.2.2.2.2.2.1 um.2.2.2.2.2.2.2.2.2.2.2.2.1 um.2.2.2.2.2.2.2.2.2.2.2.2.2.1 um.2.2.2.2.2.2.2.2.2.2.2.2.2.2.1 um.2.2.2.2.2.2.2.2.2.2.2.2.2.2.2.1 um.2.2.2.2.2.2.2.2.2.2.2.2.2.2.2.2.1 um.2.2.2.2.2.2.2.2.2.2.2.2.2.2.2.2.2.1 um.2.2.2.2.2.2.2.2.2.2.2.2.2.2.2.2.2.2.1 um.2.2.2.2.2.2.2.2.2.2.2.2.2.2.2.2.2.2.2.1 um.2.2.2.2.2.2.2.2.2.2.2.2.2.2.2.2.2.2.2.2.1 um.2.2.2.2.2.2.2.2.2.2.2.2.2.2.2.2.2.2.2.2.2.1 um.2.2.2.2.2.2.2.2.2.2.2.2.2.2.2.2.2.2.2.2.2.2.1 um.2.2.2.2.2.2.2.2.2.2.2.2.2.2.2.2.2.2.2.2.2.2.2.1 um.2.2.2.2.2.2.2.2.2.2.2.2.2.2.2.2.2.2.2.2.2.2.2.2.1 um.2.2.2.2.2.2.2.2.2.2.2.2.2.2.2.2.2.2.2.2.2.2.2.2.2.1 um.2.2.2.2.2.2.2.2.2.2.2.2.2.2.2.2.2.2.2.2.2.2.2.2.2.2.1 um.2.2.2.2.2.2.2.2.2.2.2.2.2.2.2.2.2.2.2.2.2.2.2.2.2.2.2.1 um.2.2.2.2.2.2.2.2.2.2.2.2.2.2.2.2.2.2.2.2.2.2.2.2.2.2.2.2.1 um.2.2.2.2.2.2.2.2.2.2.2.2.2.2.2.2.2.2.2.2.2.2.2.2.2.2.2.2.2.1 um.2.2.2.2.2.2.2.2.2.2.2.2.2.2.2.2.2.2.2.2.2.2.2.2.2.2.2.2.2.2.1 um.2.2.2.2.2.2.2.2.2.2.2.2.2.2.2.2.2.2.2.2.2.2.2.2.2.2.2.2.2.2.2.1 um.2.2.2.2.2.2.2.2.2.2.2.2.2.2.2.2.2.2.2.2.2.2.2.2.2.2.2.2.2.2.2.2.1 um.2.2.2.2.2.2.2.2.2.2.2.2.2.2.2.2.2.2.2.2.2.2.2.2.2.2.2.2.2.2.2.2.2.1 um.2.2.2.2.2.2.2.2.2.2.2.2.2.2.2.2.2.2.2.2.2.2.2.2.2.2.2.2.2.2.2.2.2.2.1 um.2.2.2.2.2.2.2.2.2.2.2.2.2.2.2.2.2.2.2.2.2.2.2.2.2.2.2.2.2.2.2.2.2.2.2 ((xs (x4 + 1).toNatClampNeg)) ((xs (x4 + 2).toNatClampNeg)) ((xs (x4 + 3).toNatClampNeg)) _ rz um1 hm) (cwV 3 hts1 gL_law_X12_worst rfl rfl rfl (by decide +kernel) ⟨(Nat.le_of_ble_eq_true rfl), (Nat.le_of_ble_eq_true rfl)⟩) (zz_pv hK hPm hDm hN (va_recv hK hPm (ci := 11) (q0 := 0) rfl rfl)) rfl rfl hl.1 rfl (lv_room (Nat.le_of_ble_eq_true rfl)) dL_law_373 ⟨by show _ ≤ 601024; have z1 := zz_kcL so; have z2 := zz_ksL so; omega, by show _ ≤ 7293034; have z1 := zz_kcL so; have z2 := zz_ksL so; omega⟩) hS (fun q _ h => hFm q h) hFm (fun r2 v2 t H2 locs ht hvm2 hw2 hB hz2 hk2 hS => ?_)
    obtain ⟨hP2, hK2, hD2⟩ := hB
    rw [ht] at hP2
    obtain ⟨rfl, rfl⟩ := hw2
    obtain ⟨hP, hD⟩ := zz_joinB (w1 := wM cI cJ cZ y0 y1 y2 y3 y4 y5 y6 y7 y8 y9 y10 y11 y12 y13 y14 y15 y16 y17 um1) hP hD hk2 hFm hP2 hD2
    refine lv_istore (lv' := [(6, .int rz), (5, .int r), (0, .ref b), (1, .ref q0), (2, .ref y0), (3, .ref o), (4, .int x4)]) hx hb dL_law_376 hl (by decide) rfl (fun ls hl => ?_)
    have ht9 : um1.1.toInt = (if 0 ≤ (xs (x4 + 1).toNatClampNeg).toInt ∧ (xs (x4 + 1).toNatClampNeg).toInt ≤ 3 ∧ 1 ≤ (xs (x4 + 2).toNatClampNeg).toInt ∧ (xs (x4 + 2).toNatClampNeg).toInt ≤ 4 ∧ 1 ≤ (xs (x4 + 3).toNatClampNeg).toInt ∧ (xs (x4 + 3).toNatClampNeg).toInt ≤ 8 ∧ (xs (x4 + 2).toNatClampNeg).toInt ≤ (xs (x4 + 3).toNatClampNeg).toInt then 0 else 1) := ht9
    have hq9 : zz_wq um1.1.toInt (xs (x4 + 1).toNatClampNeg).toInt (xs (x4 + 2).toNatClampNeg).toInt (xs (x4 + 3).toNatClampNeg).toInt rz.toInt := hq9
    rw [if_neg (by omega)] at ht9
    refine lv_aload_n hx hb dL_law_378 rfl (lv_at hl 4 rfl) ?_
    have hPm := zz_Pr hP
    have hDm := zz_Dr hD
    have hFm := zz_freeW hDm hS hA
    refine va_calli (va_runV (As := []) (rest := []) hS0 (c_X12_thrown l dC dI cI cJ cZ K y0 y1 y2 y3 y4 y5 y6 y7 y8 y9 y10 y11 y12 y13 y14 y15 y16 y17 1024 200 200 200 200 1024 32 45056 44 1024 1024 1024 9216 9 20000 65536 14 um1.1 um1.2.1 um1.2.2.1 um1.2.2.2.1 um1.2.2.2.2.1 um1.2.2.2.2.2.1 um1.2.2.2.2.2.2.1 um1.2.2.2.2.2.2.2.1 um1.2.2.2.2.2.2.2.2.1 um1.2.2.2.2.2.2.2.2.2.1 um1.2.2.2.2.2.2.2.2.2.2.1 um1.2.2.2.2.2.2.2.2.2.2.2.1 um1.2.2.2.2.2.2.2.2.2.2.2.2.1 um1.2.2.2.2.2.2.2.2.2.2.2.2.2.1 um1.2.2.2.2.2.2.2.2.2.2.2.2.2.2.1 um1.2.2.2.2.2.2.2.2.2.2.2.2.2.2.2.1 um1.2.2.2.2.2.2.2.2.2.2.2.2.2.2.2.2.1 um1.2.2.2.2.2.2.2.2.2.2.2.2.2.2.2.2.2.1 um1.2.2.2.2.2.2.2.2.2.2.2.2.2.2.2.2.2.2.1 um1.2.2.2.2.2.2.2.2.2.2.2.2.2.2.2.2.2.2.2.1 um1.2.2.2.2.2.2.2.2.2.2.2.2.2.2.2.2.2.2.2.2.1 um1.2.2.2.2.2.2.2.2.2.2.2.2.2.2.2.2.2.2.2.2.2.1 um1.2.2.2.2.2.2.2.2.2.2.2.2.2.2.2.2.2.2.2.2.2.2.1 um1.2.2.2.2.2.2.2.2.2.2.2.2.2.2.2.2.2.2.2.2.2.2.2.1 um1.2.2.2.2.2.2.2.2.2.2.2.2.2.2.2.2.2.2.2.2.2.2.2.2.1 um1.2.2.2.2.2.2.2.2.2.2.2.2.2.2.2.2.2.2.2.2.2.2.2.2.2.1 um1.2.2.2.2.2.2.2.2.2.2.2.2.2.2.2.2.2.2.2.2.2.2.2.2.2.2.1 um1.2.2.2.2.2.2.2.2.2.2.2.2.2.2.2.2.2.2.2.2.2.2.2.2.2.2.2.1 um1.2.2.2.2.2.2.2.2.2.2.2.2.2.2.2.2.2.2.2.2.2.2.2.2.2.2.2.2.1 um1.2.2.2.2.2.2.2.2.2.2.2.2.2.2.2.2.2.2.2.2.2.2.2.2.2.2.2.2.2.1 um1.2.2.2.2.2.2.2.2.2.2.2.2.2.2.2.2.2.2.2.2.2.2.2.2.2.2.2.2.2.2.1 um1.2.2.2.2.2.2.2.2.2.2.2.2.2.2.2.2.2.2.2.2.2.2.2.2.2.2.2.2.2.2.2.1 um1.2.2.2.2.2.2.2.2.2.2.2.2.2.2.2.2.2.2.2.2.2.2.2.2.2.2.2.2.2.2.2.2.1 um1.2.2.2.2.2.2.2.2.2.2.2.2.2.2.2.2.2.2.2.2.2.2.2.2.2.2.2.2.2.2.2.2.2.1 um1.2.2.2.2.2.2.2.2.2.2.2.2.2.2.2.2.2.2.2.2.2.2.2.2.2.2.2.2.2.2.2.2.2.2.1 um1.2.2.2.2.2.2.2.2.2.2.2.2.2.2.2.2.2.2.2.2.2.2.2.2.2.2.2.2.2.2.2.2.2.2.2  _ um1.1 um1 rfl) (cwV 0 hts1 gL_law_X12_thrown rfl rfl rfl (by decide +kernel) ⟨(Nat.le_of_ble_eq_true rfl), (Nat.le_of_ble_eq_true rfl)⟩) (zz_pv hK hPm hDm hN (va_recv hK hPm (ci := 11) (q0 := 0) rfl rfl)) rfl rfl hl.1 rfl (lv_room (Nat.le_of_ble_eq_true rfl)) dL_law_379 ⟨by show _ ≤ 601024; have z1 := zz_kcL so; have z2 := zz_ksL so; omega, by show _ ≤ 7293034; have z1 := zz_kcL so; have z2 := zz_ksL so; omega⟩) hS (fun q _ h => hFm q h) hFm (fun r2 v2 t H2 locs ht hvm2 hw2 hB hz2 hk2 hS => ?_)
    obtain ⟨hP2, hK2, hD2⟩ := hB
    rw [ht] at hP2
    obtain ⟨rfl, rfl⟩ := hw2
    obtain ⟨hP, hD⟩ := zz_joinB (w1 := wM cI cJ cZ y0 y1 y2 y3 y4 y5 y6 y7 y8 y9 y10 y11 y12 y13 y14 y15 y16 y17 um1) hP hD hk2 hFm hP2 hD2
    refine lv_iload hx hb dL_law_382 (lv_at hl 1 rfl) ?_
    refine lv_icmp_eq (tgt := 389) hx hb dL_law_384 (by decide) (fun c9 => ?_) (fun c9 => ?_)
    · refine lv_iload hx hb dL_law_389 (lv_at hl 1 rfl) ?_
      refine lv_if_ne (tgt := 406) hx hb dL_law_391 (by decide) (fun c8 => ?_) (fun c8 => ?_)
      · refine lv_goto (tgt := 437) hx hb dL_law_406 (by decide) ?_
        refine W.widen (k := n1 + 3 + zz_kc so) (n := n2 + 20 + zz_ks so) (by simp only [zz_kc]; omega) (by simp only [zz_ks]; omega) ?_
        exact kk u1 so um1 f9 _ _ _ hI1 hO1 hIM1 hP hD hS (lv_sub hl [2, 3, 4, 5, 6] rfl)
      · exact absurd (hr9.symm.trans c8) (by decide)
    · exact absurd (Int32.toInt_inj.mp (by rw [ht9, hr9]; rfl)) c9
  · rcases so with _ | ⟨d9, z9⟩
    · skip
      obtain ⟨Rn, Rx, hM, hn9, hx9⟩ := ox_worstW l hl9 dC dI cI cJ cZ cF K hK9 q0 b1 b2 b3 b4 b5 b6 b7 b8 b9 b10 b11 b12 b13 b14 b15 b16 b17 b18 b19 b20 b21 b22 b23 b24 b25 b26 b27 b28 b29 u hI (xs (x4 + 1).toNatClampNeg) (xs (x4 + 2).toNatClampNeg) (xs (x4 + 3).toNatClampNeg) ti hti ⟨by omega, by omega, by omega, by omega, by omega, by omega, by omega⟩
      have hPc := zz_Pl hP
      have hDc := zz_Dl hD
      have hFc := zz_freeW hDc hS hA
      refine va_calli (vx_runSW (As := [.ref q0, .int (xs (x4 + 1).toNatClampNeg), .int (xs (x4 + 2).toNatClampNeg), .int (xs (x4 + 3).toNatClampNeg), .ref o]) (rest := []) hS0 (cl_worst_W l hl9 dC dI cI cJ cZ cF q0 (wX cI cF q0 b1 b2 b3 b4 b5 b6 b7 b8 b9 b10 b11 b12 b13 b14 b15 b16 b17 b18 b19 b20 b21 b22 b23 b24 b25 b26 b27 b28 b29 u none) _ rfl (xs (x4 + 1).toNatClampNeg) (xs (x4 + 2).toNatClampNeg) (xs (x4 + 3).toNatClampNeg) Rn Rx hM (fun E w h => (hx9 E w h).elim) o f _) (vx_cwSW 5 hts1 gL_law_L_worst rfl rfl rfl (by decide +kernel) ⟨(Nat.le_of_ble_eq_true rfl), (Nat.le_of_ble_eq_true rfl)⟩) (zz_psx hK4 hPc hDc hN hU hQ hS hFc) rfl rfl hl.1 rfl (lv_room (Nat.le_of_ble_eq_true rfl)) dL_law_349 ⟨by show _ ≤ 601024; have z1 := zz_kcL none; have z2 := zz_ksL none; omega, by show _ ≤ 7293034; have z1 := zz_kcL none; have z2 := zz_ksL none; omega⟩) hS (fun q _ h => hFc q h) hFc (fun r v t H1 locs ht hvm hw hB hz1 hk1 hS => ?_)
      obtain ⟨hP1, hK1, hD1⟩ := hB
      rw [ht] at hP1
      obtain ⟨w9, f9⟩ := v
      obtain ⟨u1, d8, z8, r9, hI1, hz8, hwor, hr9, hf9, rfl⟩ : ∃ (u1 : SX) (d8 : Nat × Nat × Nat × Nat × Nat × Nat) (z8 : SS) (r9 : Int32), IX u1 ∧ IS (ti + 1) z8 ∧ zz_wor (xs (x4 + 1).toNatClampNeg).toInt (xs (x4 + 2).toNatClampNeg).toInt (xs (x4 + 3).toNatClampNeg).toInt (15 - (xs (x4 + 3).toNatClampNeg).toInt).toNat (xs (x4 + 3).toNatClampNeg).toInt r9.toInt ∧ r = 0 ∧ f9 = vp_updL f (0 : Int32).toNatClampNeg r9.toInt64 ∧ w9 = wX cI cF q0 b1 b2 b3 b4 b5 b6 b7 b8 b9 b10 b11 b12 b13 b14 b15 b16 b17 b18 b19 b20 b21 b22 b23 b24 b25 b26 b27 b28 b29 u1 (some (d8, z8)) := by
        rcases hw with ⟨h8, r9, h9, h7⟩ | ⟨-, h9, -⟩
        · obtain ⟨u1, d8, z8, h1, h2, h3, h4⟩ := hn9 _ _ h9
          exact ⟨u1, d8, z8, r9, h1, h2, h3, h8, h7, h4⟩
        · exact (hx9 _ _ h9).elim
      obtain ⟨hP, hD⟩ := zz_joinA hP hD hk1 hFc hP1 hD1
      have hP : va_P (dC, dI) vwCl (((o, .inl (cJ, 1, .inr (.inl f9))) :: wX cI cF q0 b1 b2 b3 b4 b5 b6 b7 b8 b9 b10 b11 b12 b13 b14 b15 b16 b17 b18 b19 b20 b21 b22 b23 b24 b25 b26 b27 b28 b29 u1 (some (d8, z8))) ++ wM cI cJ cZ y0 y1 y2 y3 y4 y5 y6 y7 y8 y9 y10 y11 y12 y13 y14 y15 y16 y17 um) _ := hP
      have hD : va_D (fun q : Nat => s.heap.size ≤ q) (((o, .inl (cJ, 1, .inr (.inl f9))) :: wX cI cF q0 b1 b2 b3 b4 b5 b6 b7 b8 b9 b10 b11 b12 b13 b14 b15 b16 b17 b18 b19 b20 b21 b22 b23 b24 b25 b26 b27 b28 b29 u1 (some (d8, z8))) ++ wM cI cJ cZ y0 y1 y2 y3 y4 y5 y6 y7 y8 y9 y10 y11 y12 y13 y14 y15 y16 y17 um) := hD
      have hO1 : ISo (ti + 1) (some (d8, z8)) := hz8
      refine lv_istore (lv' := [(5, .int r), (0, .ref b), (1, .ref q0), (2, .ref y0), (3, .ref o), (4, .int x4)]) hx hb dL_law_352 hl (by decide) rfl (fun ls hl => ?_)
      refine lv_aload_n hx hb dL_law_354 rfl (lv_at hl 3 rfl) ?_
      refine lv_aload_n hx hb dL_law_355 rfl (lv_at hl 1 rfl) ?_
      refine lv_iload hx hb dL_law_356 (lv_at hl 5 rfl) ?_
      refine lv_iconst (v := 1) hx hb dL_law_358 (by decide) ?_
      refine lv_iadd hx hb dL_law_359 ?_
      refine va_sld hx hb hX hbl hbA hS (i := x4 + 1) hv1 dL_law_360 ?_
      refine lv_aload_n hx hb dL_law_361 rfl (lv_at hl 1 rfl) ?_
      refine lv_iload hx hb dL_law_362 (lv_at hl 5 rfl) ?_
      refine lv_iconst (v := 2) hx hb dL_law_364 (by decide) ?_
      refine lv_iadd hx hb dL_law_365 ?_
      refine va_sld hx hb hX hbl hbA hS (i := x4 + 2) hv2 dL_law_366 ?_
      refine lv_aload_n hx hb dL_law_367 rfl (lv_at hl 1 rfl) ?_
      refine lv_iload hx hb dL_law_368 (lv_at hl 5 rfl) ?_
      refine lv_iconst (v := 3) hx hb dL_law_370 (by decide) ?_
      refine lv_iadd hx hb dL_law_371 ?_
      refine va_sld hx hb hX hbl hbA hS (i := x4 + 3) hv3 dL_law_372 ?_
      obtain ⟨⟨rz, um1⟩, hm, hIM1, ht9, hq9⟩ := hRS.2.2.2.2.2.2.2.1 ti um (xs (x4 + 1).toNatClampNeg) (xs (x4 + 2).toNatClampNeg) (xs (x4 + 3).toNatClampNeg) hti hIM
      have hPm := zz_Pr hP
      have hDm := zz_Dr hD
      have hFm := zz_freeW hDm hS hA
      refine va_calli (va_runV (As := [.int (xs (x4 + 1).toNatClampNeg), .int (xs (x4 + 2).toNatClampNeg), .int (xs (x4 + 3).toNatClampNeg)]) (rest := []) hS0 (c_X12_worst l dC dI cI cJ cZ K y0 y1 y2 y3 y4 y5 y6 y7 y8 y9 y10 y11 y12 y13 y14 y15 y16 y17 1024 200 200 200 200 1024 32 45056 44 1024 1024 1024 9216 9 20000 65536 14 um.1 um.2.1 um.2.2.1 um.2.2.2.1 um.2.2.2.2.1 um.2.2.2.2.2.1 um.2.2.2.2.2.2.1 um.2.2.2.2.2.2.2.1 um.2.2.2.2.2.2.2.2.1 um.2.2.2.2.2.2.2.2.2.1 um.2.2.2.2.2.2.2.2.2.2.1 um.2.2.2.2.2.2.2.2.2.2.2.1 um.2.2.2.2.2.2.2.2.2.2.2.2.1 um.2.2.2.2.2.2.2.2.2.2.2.2.2.1 um.2.2.2.2.2.2.2.2.2.2.2.2.2.2.1 um.2.2.2.2.2.2.2.2.2.2.2.2.2.2.2.1 um.2.2.2.2.2.2.2.2.2.2.2.2.2.2.2.2.1 um.2.2.2.2.2.2.2.2.2.2.2.2.2.2.2.2.2.1 um.2.2.2.2.2.2.2.2.2.2.2.2.2.2.2.2.2.2.1 um.2.2.2.2.2.2.2.2.2.2.2.2.2.2.2.2.2.2.2.1 um.2.2.2.2.2.2.2.2.2.2.2.2.2.2.2.2.2.2.2.2.1 um.2.2.2.2.2.2.2.2.2.2.2.2.2.2.2.2.2.2.2.2.2.1 um.2.2.2.2.2.2.2.2.2.2.2.2.2.2.2.2.2.2.2.2.2.2.1 um.2.2.2.2.2.2.2.2.2.2.2.2.2.2.2.2.2.2.2.2.2.2.2.1 um.2.2.2.2.2.2.2.2.2.2.2.2.2.2.2.2.2.2.2.2.2.2.2.2.1 um.2.2.2.2.2.2.2.2.2.2.2.2.2.2.2.2.2.2.2.2.2.2.2.2.2.1 um.2.2.2.2.2.2.2.2.2.2.2.2.2.2.2.2.2.2.2.2.2.2.2.2.2.2.1 um.2.2.2.2.2.2.2.2.2.2.2.2.2.2.2.2.2.2.2.2.2.2.2.2.2.2.2.1 um.2.2.2.2.2.2.2.2.2.2.2.2.2.2.2.2.2.2.2.2.2.2.2.2.2.2.2.2.1 um.2.2.2.2.2.2.2.2.2.2.2.2.2.2.2.2.2.2.2.2.2.2.2.2.2.2.2.2.2.1 um.2.2.2.2.2.2.2.2.2.2.2.2.2.2.2.2.2.2.2.2.2.2.2.2.2.2.2.2.2.2.1 um.2.2.2.2.2.2.2.2.2.2.2.2.2.2.2.2.2.2.2.2.2.2.2.2.2.2.2.2.2.2.2.1 um.2.2.2.2.2.2.2.2.2.2.2.2.2.2.2.2.2.2.2.2.2.2.2.2.2.2.2.2.2.2.2.2.1 um.2.2.2.2.2.2.2.2.2.2.2.2.2.2.2.2.2.2.2.2.2.2.2.2.2.2.2.2.2.2.2.2.2.1 um.2.2.2.2.2.2.2.2.2.2.2.2.2.2.2.2.2.2.2.2.2.2.2.2.2.2.2.2.2.2.2.2.2.2.1 um.2.2.2.2.2.2.2.2.2.2.2.2.2.2.2.2.2.2.2.2.2.2.2.2.2.2.2.2.2.2.2.2.2.2.2 ((xs (x4 + 1).toNatClampNeg)) ((xs (x4 + 2).toNatClampNeg)) ((xs (x4 + 3).toNatClampNeg)) _ rz um1 hm) (cwV 3 hts1 gL_law_X12_worst rfl rfl rfl (by decide +kernel) ⟨(Nat.le_of_ble_eq_true rfl), (Nat.le_of_ble_eq_true rfl)⟩) (zz_pv hK hPm hDm hN (va_recv hK hPm (ci := 11) (q0 := 0) rfl rfl)) rfl rfl hl.1 rfl (lv_room (Nat.le_of_ble_eq_true rfl)) dL_law_373 ⟨by show _ ≤ 601024; have z1 := zz_kcL none; have z2 := zz_ksL none; omega, by show _ ≤ 7293034; have z1 := zz_kcL none; have z2 := zz_ksL none; omega⟩) hS (fun q _ h => hFm q h) hFm (fun r2 v2 t H2 locs ht hvm2 hw2 hB hz2 hk2 hS => ?_)
      obtain ⟨hP2, hK2, hD2⟩ := hB
      rw [ht] at hP2
      obtain ⟨rfl, rfl⟩ := hw2
      obtain ⟨hP, hD⟩ := zz_joinB (w1 := wM cI cJ cZ y0 y1 y2 y3 y4 y5 y6 y7 y8 y9 y10 y11 y12 y13 y14 y15 y16 y17 um1) hP hD hk2 hFm hP2 hD2
      refine lv_istore (lv' := [(6, .int rz), (5, .int r), (0, .ref b), (1, .ref q0), (2, .ref y0), (3, .ref o), (4, .int x4)]) hx hb dL_law_376 hl (by decide) rfl (fun ls hl => ?_)
      have ht9 : um1.1.toInt = (if 0 ≤ (xs (x4 + 1).toNatClampNeg).toInt ∧ (xs (x4 + 1).toNatClampNeg).toInt ≤ 3 ∧ 1 ≤ (xs (x4 + 2).toNatClampNeg).toInt ∧ (xs (x4 + 2).toNatClampNeg).toInt ≤ 4 ∧ 1 ≤ (xs (x4 + 3).toNatClampNeg).toInt ∧ (xs (x4 + 3).toNatClampNeg).toInt ≤ 8 ∧ (xs (x4 + 2).toNatClampNeg).toInt ≤ (xs (x4 + 3).toNatClampNeg).toInt then 0 else 1) := ht9
      have hq9 : zz_wq um1.1.toInt (xs (x4 + 1).toNatClampNeg).toInt (xs (x4 + 2).toNatClampNeg).toInt (xs (x4 + 3).toNatClampNeg).toInt rz.toInt := hq9
      rw [if_pos (by omega)] at ht9
      refine lv_aload_n hx hb dL_law_378 rfl (lv_at hl 4 rfl) ?_
      have hPm := zz_Pr hP
      have hDm := zz_Dr hD
      have hFm := zz_freeW hDm hS hA
      refine va_calli (va_runV (As := []) (rest := []) hS0 (c_X12_thrown l dC dI cI cJ cZ K y0 y1 y2 y3 y4 y5 y6 y7 y8 y9 y10 y11 y12 y13 y14 y15 y16 y17 1024 200 200 200 200 1024 32 45056 44 1024 1024 1024 9216 9 20000 65536 14 um1.1 um1.2.1 um1.2.2.1 um1.2.2.2.1 um1.2.2.2.2.1 um1.2.2.2.2.2.1 um1.2.2.2.2.2.2.1 um1.2.2.2.2.2.2.2.1 um1.2.2.2.2.2.2.2.2.1 um1.2.2.2.2.2.2.2.2.2.1 um1.2.2.2.2.2.2.2.2.2.2.1 um1.2.2.2.2.2.2.2.2.2.2.2.1 um1.2.2.2.2.2.2.2.2.2.2.2.2.1 um1.2.2.2.2.2.2.2.2.2.2.2.2.2.1 um1.2.2.2.2.2.2.2.2.2.2.2.2.2.2.1 um1.2.2.2.2.2.2.2.2.2.2.2.2.2.2.2.1 um1.2.2.2.2.2.2.2.2.2.2.2.2.2.2.2.2.1 um1.2.2.2.2.2.2.2.2.2.2.2.2.2.2.2.2.2.1 um1.2.2.2.2.2.2.2.2.2.2.2.2.2.2.2.2.2.2.1 um1.2.2.2.2.2.2.2.2.2.2.2.2.2.2.2.2.2.2.2.1 um1.2.2.2.2.2.2.2.2.2.2.2.2.2.2.2.2.2.2.2.2.1 um1.2.2.2.2.2.2.2.2.2.2.2.2.2.2.2.2.2.2.2.2.2.1 um1.2.2.2.2.2.2.2.2.2.2.2.2.2.2.2.2.2.2.2.2.2.2.1 um1.2.2.2.2.2.2.2.2.2.2.2.2.2.2.2.2.2.2.2.2.2.2.2.1 um1.2.2.2.2.2.2.2.2.2.2.2.2.2.2.2.2.2.2.2.2.2.2.2.2.1 um1.2.2.2.2.2.2.2.2.2.2.2.2.2.2.2.2.2.2.2.2.2.2.2.2.2.1 um1.2.2.2.2.2.2.2.2.2.2.2.2.2.2.2.2.2.2.2.2.2.2.2.2.2.2.1 um1.2.2.2.2.2.2.2.2.2.2.2.2.2.2.2.2.2.2.2.2.2.2.2.2.2.2.2.1 um1.2.2.2.2.2.2.2.2.2.2.2.2.2.2.2.2.2.2.2.2.2.2.2.2.2.2.2.2.1 um1.2.2.2.2.2.2.2.2.2.2.2.2.2.2.2.2.2.2.2.2.2.2.2.2.2.2.2.2.2.1 um1.2.2.2.2.2.2.2.2.2.2.2.2.2.2.2.2.2.2.2.2.2.2.2.2.2.2.2.2.2.2.1 um1.2.2.2.2.2.2.2.2.2.2.2.2.2.2.2.2.2.2.2.2.2.2.2.2.2.2.2.2.2.2.2.1 um1.2.2.2.2.2.2.2.2.2.2.2.2.2.2.2.2.2.2.2.2.2.2.2.2.2.2.2.2.2.2.2.2.1 um1.2.2.2.2.2.2.2.2.2.2.2.2.2.2.2.2.2.2.2.2.2.2.2.2.2.2.2.2.2.2.2.2.2.1 um1.2.2.2.2.2.2.2.2.2.2.2.2.2.2.2.2.2.2.2.2.2.2.2.2.2.2.2.2.2.2.2.2.2.2.1 um1.2.2.2.2.2.2.2.2.2.2.2.2.2.2.2.2.2.2.2.2.2.2.2.2.2.2.2.2.2.2.2.2.2.2.2  _ um1.1 um1 rfl) (cwV 0 hts1 gL_law_X12_thrown rfl rfl rfl (by decide +kernel) ⟨(Nat.le_of_ble_eq_true rfl), (Nat.le_of_ble_eq_true rfl)⟩) (zz_pv hK hPm hDm hN (va_recv hK hPm (ci := 11) (q0 := 0) rfl rfl)) rfl rfl hl.1 rfl (lv_room (Nat.le_of_ble_eq_true rfl)) dL_law_379 ⟨by show _ ≤ 601024; have z1 := zz_kcL none; have z2 := zz_ksL none; omega, by show _ ≤ 7293034; have z1 := zz_kcL none; have z2 := zz_ksL none; omega⟩) hS (fun q _ h => hFm q h) hFm (fun r2 v2 t H2 locs ht hvm2 hw2 hB hz2 hk2 hS => ?_)
      obtain ⟨hP2, hK2, hD2⟩ := hB
      rw [ht] at hP2
      obtain ⟨rfl, rfl⟩ := hw2
      obtain ⟨hP, hD⟩ := zz_joinB (w1 := wM cI cJ cZ y0 y1 y2 y3 y4 y5 y6 y7 y8 y9 y10 y11 y12 y13 y14 y15 y16 y17 um1) hP hD hk2 hFm hP2 hD2
      refine lv_iload hx hb dL_law_382 (lv_at hl 1 rfl) ?_
      refine lv_icmp_eq (tgt := 389) hx hb dL_law_384 (by decide) (fun c9 => ?_) (fun c9 => ?_)
      · refine lv_iload hx hb dL_law_389 (lv_at hl 1 rfl) ?_
        refine lv_if_ne (tgt := 406) hx hb dL_law_391 (by decide) (fun c8 => ?_) (fun c8 => ?_)
        · exact absurd hr9 c8
        · refine lv_aload_n hx hb dL_law_394 rfl (lv_at hl 5 rfl) ?_
          refine lv_iconst (v := 0) hx hb dL_law_395 (by decide) ?_
          refine va_lald hx hb hK hP 0 1 rfl rfl (i := (0 : Int32)) (show ¬ ((0 : Int32) < 0 ∨ 1 ≤ (0 : Int32).toNatClampNeg) by decide) dL_law_396 ?_
          refine lv_iload hx hb dL_law_397 (lv_at hl 0 rfl) ?_
          refine lv_i2l hx hb dL_law_399 rfl ?_
          refine W.lcmp hx hb dL_law_400 ?_
          refine lv_if_eq (tgt := 406) hx hb dL_law_401 (by decide) (fun c7 => ?_) (fun c7 => ?_)
          · refine lv_goto (tgt := 437) hx hb dL_law_406 (by decide) ?_
            refine W.widen (k := n1 + 3 + zz_kc (some (d8, z8))) (n := n2 + 20 + zz_ks (some (d8, z8))) (by simp only [zz_kc]; omega) (by simp only [zz_ks]; omega) ?_
            exact kk u1 (some (d8, z8)) um1 f9 _ _ _ hI1 hO1 hIM1 hP hD hS (lv_sub hl [2, 3, 4, 5, 6] rfl)
          · have e1 := zz_wor_uq _ _ _ _ hwor (hq9 ht9)
            have e2 : f9 (0 : Int32).toNatClampNeg = rz.toInt64 := by rw [hf9, ← Int32.toInt_inj.mp e1]; exact if_pos rfl
            exact absurd (congrArg Int64.toInt e2) (zz_lgne (fun h => c7 (Int32.toInt_inj.mp h)))
      · exact absurd (Int32.toInt_inj.mp (by rw [ht9, hr9]; rfl)) c9
    · skip
      obtain ⟨Rn, Rx, hM, hn9, hx9⟩ := ox_worstS l hl9 dC dI cI cJ cZ cF K hK9 q0 b1 b2 b3 b4 b5 b6 b7 b8 b9 b10 b11 b12 b13 b14 b15 b16 b17 b18 b19 b20 b21 b22 b23 b24 b25 b26 b27 b28 b29 u hI (xs (x4 + 1).toNatClampNeg) (xs (x4 + 2).toNatClampNeg) (xs (x4 + 3).toNatClampNeg) ti hti d9 z9 hO ⟨by omega, by omega, by omega, by omega, by omega, by omega, by omega⟩
      have hPc := zz_Pl hP
      have hDc := zz_Dl hD
      have hFc := zz_freeW hDc hS hA
      refine va_calli (vx_runSW (As := [.ref q0, .int (xs (x4 + 1).toNatClampNeg), .int (xs (x4 + 2).toNatClampNeg), .int (xs (x4 + 3).toNatClampNeg), .ref o]) (rest := []) hS0 (cl_worst_S l hl9 dC dI cI cJ cZ cF q0 (wX cI cF q0 b1 b2 b3 b4 b5 b6 b7 b8 b9 b10 b11 b12 b13 b14 b15 b16 b17 b18 b19 b20 b21 b22 b23 b24 b25 b26 b27 b28 b29 u (some (d9, z9))) _ rfl (xs (x4 + 1).toNatClampNeg) (xs (x4 + 2).toNatClampNeg) (xs (x4 + 3).toNatClampNeg) Rn Rx hM (fun E w h => (hx9 E w h).elim) o f _) (vx_cwSW 5 hts1 gL_law_L_worst rfl rfl rfl (by decide +kernel) ⟨(Nat.le_of_ble_eq_true rfl), (Nat.le_of_ble_eq_true rfl)⟩) (zz_psx hK4 hPc hDc hN hU hQ hS hFc) rfl rfl hl.1 rfl (lv_room (Nat.le_of_ble_eq_true rfl)) dL_law_349 ⟨by show _ ≤ 601024; have z1 := zz_kcL (some (d9, z9)); have z2 := zz_ksL (some (d9, z9)); omega, by show _ ≤ 7293034; have z1 := zz_kcL (some (d9, z9)); have z2 := zz_ksL (some (d9, z9)); omega⟩) hS (fun q _ h => hFc q h) hFc (fun r v t H1 locs ht hvm hw hB hz1 hk1 hS => ?_)
      obtain ⟨hP1, hK1, hD1⟩ := hB
      rw [ht] at hP1
      obtain ⟨w9, f9⟩ := v
      obtain ⟨u1, z8, r9, hI1, hz8, hwor, hr9, hf9, rfl⟩ : ∃ (u1 : SX) (z8 : SS) (r9 : Int32), IX u1 ∧ IS (ti + 1) z8 ∧ zz_wor (xs (x4 + 1).toNatClampNeg).toInt (xs (x4 + 2).toNatClampNeg).toInt (xs (x4 + 3).toNatClampNeg).toInt (15 - (xs (x4 + 3).toNatClampNeg).toInt).toNat (xs (x4 + 3).toNatClampNeg).toInt r9.toInt ∧ r = 0 ∧ f9 = vp_updL f (0 : Int32).toNatClampNeg r9.toInt64 ∧ w9 = wX cI cF q0 b1 b2 b3 b4 b5 b6 b7 b8 b9 b10 b11 b12 b13 b14 b15 b16 b17 b18 b19 b20 b21 b22 b23 b24 b25 b26 b27 b28 b29 u1 (some (d9, z8)) := by
        rcases hw with ⟨h8, r9, h9, h7⟩ | ⟨-, h9, -⟩
        · obtain ⟨u1, z8, h1, h2, h3, h4⟩ := hn9 _ _ h9
          exact ⟨u1, z8, r9, h1, h2, h3, h8, h7, h4⟩
        · exact (hx9 _ _ h9).elim
      obtain ⟨hP, hD⟩ := zz_joinA hP hD hk1 hFc hP1 hD1
      have hP : va_P (dC, dI) vwCl (((o, .inl (cJ, 1, .inr (.inl f9))) :: wX cI cF q0 b1 b2 b3 b4 b5 b6 b7 b8 b9 b10 b11 b12 b13 b14 b15 b16 b17 b18 b19 b20 b21 b22 b23 b24 b25 b26 b27 b28 b29 u1 (some (d9, z8))) ++ wM cI cJ cZ y0 y1 y2 y3 y4 y5 y6 y7 y8 y9 y10 y11 y12 y13 y14 y15 y16 y17 um) _ := hP
      have hD : va_D (fun q : Nat => s.heap.size ≤ q) (((o, .inl (cJ, 1, .inr (.inl f9))) :: wX cI cF q0 b1 b2 b3 b4 b5 b6 b7 b8 b9 b10 b11 b12 b13 b14 b15 b16 b17 b18 b19 b20 b21 b22 b23 b24 b25 b26 b27 b28 b29 u1 (some (d9, z8))) ++ wM cI cJ cZ y0 y1 y2 y3 y4 y5 y6 y7 y8 y9 y10 y11 y12 y13 y14 y15 y16 y17 um) := hD
      have hO1 : ISo (ti + 1) (some (d9, z8)) := hz8
      refine lv_istore (lv' := [(5, .int r), (0, .ref b), (1, .ref q0), (2, .ref y0), (3, .ref o), (4, .int x4)]) hx hb dL_law_352 hl (by decide) rfl (fun ls hl => ?_)
      refine lv_aload_n hx hb dL_law_354 rfl (lv_at hl 3 rfl) ?_
      refine lv_aload_n hx hb dL_law_355 rfl (lv_at hl 1 rfl) ?_
      refine lv_iload hx hb dL_law_356 (lv_at hl 5 rfl) ?_
      refine lv_iconst (v := 1) hx hb dL_law_358 (by decide) ?_
      refine lv_iadd hx hb dL_law_359 ?_
      refine va_sld hx hb hX hbl hbA hS (i := x4 + 1) hv1 dL_law_360 ?_
      refine lv_aload_n hx hb dL_law_361 rfl (lv_at hl 1 rfl) ?_
      refine lv_iload hx hb dL_law_362 (lv_at hl 5 rfl) ?_
      refine lv_iconst (v := 2) hx hb dL_law_364 (by decide) ?_
      refine lv_iadd hx hb dL_law_365 ?_
      refine va_sld hx hb hX hbl hbA hS (i := x4 + 2) hv2 dL_law_366 ?_
      refine lv_aload_n hx hb dL_law_367 rfl (lv_at hl 1 rfl) ?_
      refine lv_iload hx hb dL_law_368 (lv_at hl 5 rfl) ?_
      refine lv_iconst (v := 3) hx hb dL_law_370 (by decide) ?_
      refine lv_iadd hx hb dL_law_371 ?_
      refine va_sld hx hb hX hbl hbA hS (i := x4 + 3) hv3 dL_law_372 ?_
      obtain ⟨⟨rz, um1⟩, hm, hIM1, ht9, hq9⟩ := hRS.2.2.2.2.2.2.2.1 ti um (xs (x4 + 1).toNatClampNeg) (xs (x4 + 2).toNatClampNeg) (xs (x4 + 3).toNatClampNeg) hti hIM
      have hPm := zz_Pr hP
      have hDm := zz_Dr hD
      have hFm := zz_freeW hDm hS hA
      refine va_calli (va_runV (As := [.int (xs (x4 + 1).toNatClampNeg), .int (xs (x4 + 2).toNatClampNeg), .int (xs (x4 + 3).toNatClampNeg)]) (rest := []) hS0 (c_X12_worst l dC dI cI cJ cZ K y0 y1 y2 y3 y4 y5 y6 y7 y8 y9 y10 y11 y12 y13 y14 y15 y16 y17 1024 200 200 200 200 1024 32 45056 44 1024 1024 1024 9216 9 20000 65536 14 um.1 um.2.1 um.2.2.1 um.2.2.2.1 um.2.2.2.2.1 um.2.2.2.2.2.1 um.2.2.2.2.2.2.1 um.2.2.2.2.2.2.2.1 um.2.2.2.2.2.2.2.2.1 um.2.2.2.2.2.2.2.2.2.1 um.2.2.2.2.2.2.2.2.2.2.1 um.2.2.2.2.2.2.2.2.2.2.2.1 um.2.2.2.2.2.2.2.2.2.2.2.2.1 um.2.2.2.2.2.2.2.2.2.2.2.2.2.1 um.2.2.2.2.2.2.2.2.2.2.2.2.2.2.1 um.2.2.2.2.2.2.2.2.2.2.2.2.2.2.2.1 um.2.2.2.2.2.2.2.2.2.2.2.2.2.2.2.2.1 um.2.2.2.2.2.2.2.2.2.2.2.2.2.2.2.2.2.1 um.2.2.2.2.2.2.2.2.2.2.2.2.2.2.2.2.2.2.1 um.2.2.2.2.2.2.2.2.2.2.2.2.2.2.2.2.2.2.2.1 um.2.2.2.2.2.2.2.2.2.2.2.2.2.2.2.2.2.2.2.2.1 um.2.2.2.2.2.2.2.2.2.2.2.2.2.2.2.2.2.2.2.2.2.1 um.2.2.2.2.2.2.2.2.2.2.2.2.2.2.2.2.2.2.2.2.2.2.1 um.2.2.2.2.2.2.2.2.2.2.2.2.2.2.2.2.2.2.2.2.2.2.2.1 um.2.2.2.2.2.2.2.2.2.2.2.2.2.2.2.2.2.2.2.2.2.2.2.2.1 um.2.2.2.2.2.2.2.2.2.2.2.2.2.2.2.2.2.2.2.2.2.2.2.2.2.1 um.2.2.2.2.2.2.2.2.2.2.2.2.2.2.2.2.2.2.2.2.2.2.2.2.2.2.1 um.2.2.2.2.2.2.2.2.2.2.2.2.2.2.2.2.2.2.2.2.2.2.2.2.2.2.2.1 um.2.2.2.2.2.2.2.2.2.2.2.2.2.2.2.2.2.2.2.2.2.2.2.2.2.2.2.2.1 um.2.2.2.2.2.2.2.2.2.2.2.2.2.2.2.2.2.2.2.2.2.2.2.2.2.2.2.2.2.1 um.2.2.2.2.2.2.2.2.2.2.2.2.2.2.2.2.2.2.2.2.2.2.2.2.2.2.2.2.2.2.1 um.2.2.2.2.2.2.2.2.2.2.2.2.2.2.2.2.2.2.2.2.2.2.2.2.2.2.2.2.2.2.2.1 um.2.2.2.2.2.2.2.2.2.2.2.2.2.2.2.2.2.2.2.2.2.2.2.2.2.2.2.2.2.2.2.2.1 um.2.2.2.2.2.2.2.2.2.2.2.2.2.2.2.2.2.2.2.2.2.2.2.2.2.2.2.2.2.2.2.2.2.1 um.2.2.2.2.2.2.2.2.2.2.2.2.2.2.2.2.2.2.2.2.2.2.2.2.2.2.2.2.2.2.2.2.2.2.1 um.2.2.2.2.2.2.2.2.2.2.2.2.2.2.2.2.2.2.2.2.2.2.2.2.2.2.2.2.2.2.2.2.2.2.2 ((xs (x4 + 1).toNatClampNeg)) ((xs (x4 + 2).toNatClampNeg)) ((xs (x4 + 3).toNatClampNeg)) _ rz um1 hm) (cwV 3 hts1 gL_law_X12_worst rfl rfl rfl (by decide +kernel) ⟨(Nat.le_of_ble_eq_true rfl), (Nat.le_of_ble_eq_true rfl)⟩) (zz_pv hK hPm hDm hN (va_recv hK hPm (ci := 11) (q0 := 0) rfl rfl)) rfl rfl hl.1 rfl (lv_room (Nat.le_of_ble_eq_true rfl)) dL_law_373 ⟨by show _ ≤ 601024; have z1 := zz_kcL (some (d9, z9)); have z2 := zz_ksL (some (d9, z9)); omega, by show _ ≤ 7293034; have z1 := zz_kcL (some (d9, z9)); have z2 := zz_ksL (some (d9, z9)); omega⟩) hS (fun q _ h => hFm q h) hFm (fun r2 v2 t H2 locs ht hvm2 hw2 hB hz2 hk2 hS => ?_)
      obtain ⟨hP2, hK2, hD2⟩ := hB
      rw [ht] at hP2
      obtain ⟨rfl, rfl⟩ := hw2
      obtain ⟨hP, hD⟩ := zz_joinB (w1 := wM cI cJ cZ y0 y1 y2 y3 y4 y5 y6 y7 y8 y9 y10 y11 y12 y13 y14 y15 y16 y17 um1) hP hD hk2 hFm hP2 hD2
      refine lv_istore (lv' := [(6, .int rz), (5, .int r), (0, .ref b), (1, .ref q0), (2, .ref y0), (3, .ref o), (4, .int x4)]) hx hb dL_law_376 hl (by decide) rfl (fun ls hl => ?_)
      have ht9 : um1.1.toInt = (if 0 ≤ (xs (x4 + 1).toNatClampNeg).toInt ∧ (xs (x4 + 1).toNatClampNeg).toInt ≤ 3 ∧ 1 ≤ (xs (x4 + 2).toNatClampNeg).toInt ∧ (xs (x4 + 2).toNatClampNeg).toInt ≤ 4 ∧ 1 ≤ (xs (x4 + 3).toNatClampNeg).toInt ∧ (xs (x4 + 3).toNatClampNeg).toInt ≤ 8 ∧ (xs (x4 + 2).toNatClampNeg).toInt ≤ (xs (x4 + 3).toNatClampNeg).toInt then 0 else 1) := ht9
      have hq9 : zz_wq um1.1.toInt (xs (x4 + 1).toNatClampNeg).toInt (xs (x4 + 2).toNatClampNeg).toInt (xs (x4 + 3).toNatClampNeg).toInt rz.toInt := hq9
      rw [if_pos (by omega)] at ht9
      refine lv_aload_n hx hb dL_law_378 rfl (lv_at hl 4 rfl) ?_
      have hPm := zz_Pr hP
      have hDm := zz_Dr hD
      have hFm := zz_freeW hDm hS hA
      refine va_calli (va_runV (As := []) (rest := []) hS0 (c_X12_thrown l dC dI cI cJ cZ K y0 y1 y2 y3 y4 y5 y6 y7 y8 y9 y10 y11 y12 y13 y14 y15 y16 y17 1024 200 200 200 200 1024 32 45056 44 1024 1024 1024 9216 9 20000 65536 14 um1.1 um1.2.1 um1.2.2.1 um1.2.2.2.1 um1.2.2.2.2.1 um1.2.2.2.2.2.1 um1.2.2.2.2.2.2.1 um1.2.2.2.2.2.2.2.1 um1.2.2.2.2.2.2.2.2.1 um1.2.2.2.2.2.2.2.2.2.1 um1.2.2.2.2.2.2.2.2.2.2.1 um1.2.2.2.2.2.2.2.2.2.2.2.1 um1.2.2.2.2.2.2.2.2.2.2.2.2.1 um1.2.2.2.2.2.2.2.2.2.2.2.2.2.1 um1.2.2.2.2.2.2.2.2.2.2.2.2.2.2.1 um1.2.2.2.2.2.2.2.2.2.2.2.2.2.2.2.1 um1.2.2.2.2.2.2.2.2.2.2.2.2.2.2.2.2.1 um1.2.2.2.2.2.2.2.2.2.2.2.2.2.2.2.2.2.1 um1.2.2.2.2.2.2.2.2.2.2.2.2.2.2.2.2.2.2.1 um1.2.2.2.2.2.2.2.2.2.2.2.2.2.2.2.2.2.2.2.1 um1.2.2.2.2.2.2.2.2.2.2.2.2.2.2.2.2.2.2.2.2.1 um1.2.2.2.2.2.2.2.2.2.2.2.2.2.2.2.2.2.2.2.2.2.1 um1.2.2.2.2.2.2.2.2.2.2.2.2.2.2.2.2.2.2.2.2.2.2.1 um1.2.2.2.2.2.2.2.2.2.2.2.2.2.2.2.2.2.2.2.2.2.2.2.1 um1.2.2.2.2.2.2.2.2.2.2.2.2.2.2.2.2.2.2.2.2.2.2.2.2.1 um1.2.2.2.2.2.2.2.2.2.2.2.2.2.2.2.2.2.2.2.2.2.2.2.2.2.1 um1.2.2.2.2.2.2.2.2.2.2.2.2.2.2.2.2.2.2.2.2.2.2.2.2.2.2.1 um1.2.2.2.2.2.2.2.2.2.2.2.2.2.2.2.2.2.2.2.2.2.2.2.2.2.2.2.1 um1.2.2.2.2.2.2.2.2.2.2.2.2.2.2.2.2.2.2.2.2.2.2.2.2.2.2.2.2.1 um1.2.2.2.2.2.2.2.2.2.2.2.2.2.2.2.2.2.2.2.2.2.2.2.2.2.2.2.2.2.1 um1.2.2.2.2.2.2.2.2.2.2.2.2.2.2.2.2.2.2.2.2.2.2.2.2.2.2.2.2.2.2.1 um1.2.2.2.2.2.2.2.2.2.2.2.2.2.2.2.2.2.2.2.2.2.2.2.2.2.2.2.2.2.2.2.1 um1.2.2.2.2.2.2.2.2.2.2.2.2.2.2.2.2.2.2.2.2.2.2.2.2.2.2.2.2.2.2.2.2.1 um1.2.2.2.2.2.2.2.2.2.2.2.2.2.2.2.2.2.2.2.2.2.2.2.2.2.2.2.2.2.2.2.2.2.1 um1.2.2.2.2.2.2.2.2.2.2.2.2.2.2.2.2.2.2.2.2.2.2.2.2.2.2.2.2.2.2.2.2.2.2.1 um1.2.2.2.2.2.2.2.2.2.2.2.2.2.2.2.2.2.2.2.2.2.2.2.2.2.2.2.2.2.2.2.2.2.2.2  _ um1.1 um1 rfl) (cwV 0 hts1 gL_law_X12_thrown rfl rfl rfl (by decide +kernel) ⟨(Nat.le_of_ble_eq_true rfl), (Nat.le_of_ble_eq_true rfl)⟩) (zz_pv hK hPm hDm hN (va_recv hK hPm (ci := 11) (q0 := 0) rfl rfl)) rfl rfl hl.1 rfl (lv_room (Nat.le_of_ble_eq_true rfl)) dL_law_379 ⟨by show _ ≤ 601024; have z1 := zz_kcL (some (d9, z9)); have z2 := zz_ksL (some (d9, z9)); omega, by show _ ≤ 7293034; have z1 := zz_kcL (some (d9, z9)); have z2 := zz_ksL (some (d9, z9)); omega⟩) hS (fun q _ h => hFm q h) hFm (fun r2 v2 t H2 locs ht hvm2 hw2 hB hz2 hk2 hS => ?_)
      obtain ⟨hP2, hK2, hD2⟩ := hB
      rw [ht] at hP2
      obtain ⟨rfl, rfl⟩ := hw2
      obtain ⟨hP, hD⟩ := zz_joinB (w1 := wM cI cJ cZ y0 y1 y2 y3 y4 y5 y6 y7 y8 y9 y10 y11 y12 y13 y14 y15 y16 y17 um1) hP hD hk2 hFm hP2 hD2
      refine lv_iload hx hb dL_law_382 (lv_at hl 1 rfl) ?_
      refine lv_icmp_eq (tgt := 389) hx hb dL_law_384 (by decide) (fun c9 => ?_) (fun c9 => ?_)
      · refine lv_iload hx hb dL_law_389 (lv_at hl 1 rfl) ?_
        refine lv_if_ne (tgt := 406) hx hb dL_law_391 (by decide) (fun c8 => ?_) (fun c8 => ?_)
        · exact absurd hr9 c8
        · refine lv_aload_n hx hb dL_law_394 rfl (lv_at hl 5 rfl) ?_
          refine lv_iconst (v := 0) hx hb dL_law_395 (by decide) ?_
          refine va_lald hx hb hK hP 0 1 rfl rfl (i := (0 : Int32)) (show ¬ ((0 : Int32) < 0 ∨ 1 ≤ (0 : Int32).toNatClampNeg) by decide) dL_law_396 ?_
          refine lv_iload hx hb dL_law_397 (lv_at hl 0 rfl) ?_
          refine lv_i2l hx hb dL_law_399 rfl ?_
          refine W.lcmp hx hb dL_law_400 ?_
          refine lv_if_eq (tgt := 406) hx hb dL_law_401 (by decide) (fun c7 => ?_) (fun c7 => ?_)
          · refine lv_goto (tgt := 437) hx hb dL_law_406 (by decide) ?_
            refine W.widen (k := n1 + 3 + zz_kc (some (d9, z8))) (n := n2 + 20 + zz_ks (some (d9, z8))) (by simp only [zz_kc]; omega) (by simp only [zz_ks]; omega) ?_
            exact kk u1 (some (d9, z8)) um1 f9 _ _ _ hI1 hO1 hIM1 hP hD hS (lv_sub hl [2, 3, 4, 5, 6] rfl)
          · have e1 := zz_wor_uq _ _ _ _ hwor (hq9 ht9)
            have e2 : f9 (0 : Int32).toNatClampNeg = rz.toInt64 := by rw [hf9, ← Int32.toInt_inj.mp e1]; exact if_pos rfl
            exact absurd (congrArg Int64.toInt e2) (zz_lgne (fun h => c7 (Int32.toInt_inj.mp h)))
      · exact absurd (Int32.toInt_inj.mp (by rw [ht9, hr9]; rfl)) c9

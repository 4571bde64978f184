set_option maxHeartbeats 8000000 in
set_option maxRecDepth 100000 in
theorem law_loop {p : Program} {l : Launch} {e : Env} {s : State} {m : MethodId} {below : List Frame} {meth : Method} {c : Code} {b L : Nat} {xs : Nat → Int32} (hl9 : l.stackTraces = false) (hL : L ≤ 2048) (C0 : lw_At p s m meth c b L xs) (K : Nat) (IM : Nat → SX → SM → Prop) (hK9 : 1099511627776 ≤ K) (hRS : RefSafe K IM) (dC : Nat → ClassId) (dI : Nat → Nat → Nat) (cI cJ cZ cF : ClassId) (hK4 : va_K (dC, dI) vwCl [(cI, .int), (cJ, .long), (cZ, .boolean), (cF, .object "RoomForms$Form")] s) (hN : zz_nw s) (hU : vx_Zq Bundle.tN "UNASSIGNED_STACK" Bundle.steD (fun q : Nat => s.heap.size ≤ q) s s.heap) (hQ : vx_Zq Bundle.tN "SUPPRESSED_SENTINEL" Bundle.listD (fun q : Nat => s.heap.size ≤ q) s s.heap) (q0 b1 b2 b3 b4 b5 b6 b7 b8 b9 b10 b11 b12 b13 b14 b15 b16 b17 b18 b19 b20 b21 b22 b23 b24 b25 b26 b27 b28 b29 y0 y1 y2 y3 y4 y5 y6 y7 y8 y9 y10 y11 y12 y13 y14 y15 y16 y17 o : Nat) : ∀ (k i : Nat) (x4 : Int32), x4.toInt = 4 * i → 4 * i ≤ L → L < 4 * i + k → ∀ (u : SX) (so : SO) (um : SM) (f : Nat → Int64) (H : Heap) (locs : List Loc) (ls : Array Slot), IX u → ISo so → IM i u um → va_P (dC, dI) vwCl (((o, .inl (cJ, 1, .inr (.inl f))) :: wX cI cF q0 b1 b2 b3 b4 b5 b6 b7 b8 b9 b10 b11 b12 b13 b14 b15 b16 b17 b18 b19 b20 b21 b22 b23 b24 b25 b26 b27 b28 b29 u so) ++ wM cI cJ cZ y0 y1 y2 y3 y4 y5 y6 y7 y8 y9 y10 y11 y12 y13 y14 y15 y16 y17 um) H → va_D (fun q : Nat => s.heap.size ≤ q) (((o, .inl (cJ, 1, .inr (.inl f))) :: wX cI cF q0 b1 b2 b3 b4 b5 b6 b7 b8 b9 b10 b11 b12 b13 b14 b15 b16 b17 b18 b19 b20 b21 b22 b23 b24 b25 b26 b27 b28 b29 u so) ++ wM cI cJ cZ y0 y1 y2 y3 y4 y5 y6 y7 y8 y9 y10 y11 y12 y13 y14 y15 y16 y17 um) → va_S (fun q : Nat => s.heap.size ≤ q) s.heap H locs → lv_has ls 7 [(0, .ref b), (1, .ref q0), (2, .ref y0), (3, .ref o), (4, .int x4)] → W p l e room_1 s m #[Value.ref b] below meth c H locs (60 + 3 * i + zz_kc so) (160000 + 20 * i + zz_ks so) (lw_Z below #[Value.ref b] s) (F0 m 23 ls []) := by
  obtain ⟨hx, hb, hr, hml, hown, hts, hX, hbl, hlocks, hgv⟩ := id C0
  have hA : ∀ q : Nat, s.heap.size ≤ q → (fun q : Nat => s.heap.size ≤ q) q := fun _ h => h
  have hbA : ¬ (fun q : Nat => s.heap.size ≤ q) b := Nat.not_le.mpr hbl
  intro k
  induction k with
  | zero =>
    intro i x4 ex4 h1 h2
    exfalso
    omega
  | succ k ih =>
    intro i x4 ex4 h1 h2 u so um f H locs ls hI hO hIM hP hD hS hl
    have zc := zz_kcL so
    have zs := zz_ksL so
    refine lv_iload hx hb dL_law_23 (lv_at hl 4 rfl) ?_
    refine lv_aload_n hx hb dL_law_25 rfl (lv_at hl 0 rfl) ?_
    refine va_slen hx hb hX hbl hbA hS dL_law_26 ?_
    refine lv_iconst (v := 4) hx hb dL_law_27 (by decide) ?_
    refine lv_isub hx hb dL_law_28 ?_
    have e0 := zz_ofL hL
    obtain ⟨k0, f0⟩ := zz_sub (Int32.ofNat L) 4
    rw [show (4 : Int32).toInt = 4 from rfl] at f0
    have g0 := zz_rg (Int32.ofNat L - 4)
    refine lv_icmp_gt (tgt := 443) hx hb dL_law_29 (by decide) (fun c9 => ?_) (fun c9 => ?_)
    · refine lv_iconst (v := 1) hx hb dL_law_443 (by decide) ?_
      refine va_forget (fun q hq => hS.2.2 q hq) ?_
      refine W.widen (k := 601024) (n := 7293034) (by omega) (by omega) ?_
      exact lw_ret hx hb hr hlocks dL_law_444
    · have c9 := zz_nlt c9
      obtain ⟨k1, f1⟩ := zz_add x4 1
      rw [show (1 : Int32).toInt = 1 from rfl] at f1
      have g1 := zz_rg (x4 + 1)
      obtain ⟨k2, f2⟩ := zz_add x4 2
      rw [show (2 : Int32).toInt = 2 from rfl] at f2
      have g2 := zz_rg (x4 + 2)
      obtain ⟨k3, f3⟩ := zz_add x4 3
      rw [show (3 : Int32).toInt = 3 from rfl] at f3
      have g3 := zz_rg (x4 + 3)
      obtain ⟨k4, f4⟩ := zz_add x4 4
      rw [show (4 : Int32).toInt = 4 from rfl] at f4
      have g4 := zz_rg (x4 + 4)
      have hv0 : vp_in x4 L := zz_ix (by omega) (by omega)
      have hv1 : vp_in (x4 + 1) L := zz_ix (by omega) (by omega)
      have hv2 : vp_in (x4 + 2) L := zz_ix (by omega) (by omega)
      have hv3 : vp_in (x4 + 3) L := zz_ix (by omega) (by omega)
      have KK : ∀ (u : SX) (so : SO) (um : SM) (f : Nat → Int64) (H : Heap) (locs : List Loc) (ls : Array Slot), IX u → ISo so → IM (i + 1) u um → va_P (dC, dI) vwCl (((o, .inl (cJ, 1, .inr (.inl f))) :: wX cI cF q0 b1 b2 b3 b4 b5 b6 b7 b8 b9 b10 b11 b12 b13 b14 b15 b16 b17 b18 b19 b20 b21 b22 b23 b24 b25 b26 b27 b28 b29 u so) ++ wM cI cJ cZ y0 y1 y2 y3 y4 y5 y6 y7 y8 y9 y10 y11 y12 y13 y14 y15 y16 y17 um) H → va_D (fun q : Nat => s.heap.size ≤ q) (((o, .inl (cJ, 1, .inr (.inl f))) :: wX cI cF q0 b1 b2 b3 b4 b5 b6 b7 b8 b9 b10 b11 b12 b13 b14 b15 b16 b17 b18 b19 b20 b21 b22 b23 b24 b25 b26 b27 b28 b29 u so) ++ wM cI cJ cZ y0 y1 y2 y3 y4 y5 y6 y7 y8 y9 y10 y11 y12 y13 y14 y15 y16 y17 um) → va_S (fun q : Nat => s.heap.size ≤ q) s.heap H locs → lv_has ls 7 [(0, .ref b), (1, .ref q0), (2, .ref y0), (3, .ref o), (4, .int x4)] → W p l e room_1 s m #[Value.ref b] below meth c H locs (60 + 3 * i + 3 + zz_kc so) (160000 + 20 * i + 20 + zz_ks so) (lw_Z below #[Value.ref b] s) (F0 m 437 ls []) := by
        intro u so um f H locs ls hI hO hIM hP hD hS hl
        refine lv_iinc (v := x4 + 4) (lv' := [(4, .int (x4 + 4)), (0, .ref b), (1, .ref q0), (2, .ref y0), (3, .ref o)]) hx hb dL_law_437 hl (k := 4) rfl rfl (by decide) rfl (fun ls hl => ?_)
        refine lv_goto (tgt := 23) hx hb dL_law_440 (by decide) ?_
        refine W.widen (k := 60 + 3 * (i + 1) + zz_kc so) (n := 160000 + 20 * (i + 1) + zz_ks so) (by omega) (by omega) ?_
        exact ih (i + 1) (x4 + 4) (by omega) (by omega) (by omega) u so um f _ _ _ hI hO hIM hP hD hS (lv_sub hl [1, 2, 3, 4, 0] rfl)
      refine lv_aload_n hx hb dL_law_32 rfl (lv_at hl 0 rfl) ?_
      refine lv_iload hx hb dL_law_33 (lv_at hl 4 rfl) ?_
      refine va_sld hx hb hX hbl hbA hS (i := x4) hv0 dL_law_35 ?_
      refine lv_bipush (v := 15) hx hb dL_law_36 (by decide) ?_
      refine lv_iand hx hb dL_law_38 ?_
      by_cases t0 : (xs x4.toNatClampNeg &&& 15) = 0
      · refine lv_tableIn (tgt := 88) hx hb dL_law_39 (by rw [t0]; decide) (by rw [t0]; decide) (off := 49) (by rw [t0]; decide) (by decide) ?_
        exact st_open hl9 C0 K IM hK9 hRS dC dI cI cJ cZ cF hK4 hN hU hQ q0 b1 b2 b3 b4 b5 b6 b7 b8 b9 b10 b11 b12 b13 b14 b15 b16 b17 b18 b19 b20 b21 b22 b23 b24 b25 b26 b27 b28 b29 y0 y1 y2 y3 y4 y5 y6 y7 y8 y9 y10 y11 y12 y13 y14 y15 y16 y17 o x4 hv1 hv2 hv3 _ (60 + 3 * i) (160000 + 20 * i) i (by omega) (by omega) (by omega) KK u so um f _ _ _ hI hO hIM hP hD hS hl
      by_cases t1 : (xs x4.toNatClampNeg &&& 15) = 1
      · refine lv_tableIn (tgt := 125) hx hb dL_law_39 (by rw [t1]; decide) (by rw [t1]; decide) (off := 86) (by rw [t1]; decide) (by decide) ?_
        exact st_give hl9 C0 K IM hK9 hRS dC dI cI cJ cZ cF hK4 hN hU hQ q0 b1 b2 b3 b4 b5 b6 b7 b8 b9 b10 b11 b12 b13 b14 b15 b16 b17 b18 b19 b20 b21 b22 b23 b24 b25 b26 b27 b28 b29 y0 y1 y2 y3 y4 y5 y6 y7 y8 y9 y10 y11 y12 y13 y14 y15 y16 y17 o x4 hv1 hv2 hv3 _ (60 + 3 * i) (160000 + 20 * i) i (by omega) (by omega) (by omega) KK u so um f _ _ _ hI hO hIM hP hD hS hl
      by_cases t2 : (xs x4.toNatClampNeg &&& 15) = 2
      · refine lv_tableIn (tgt := 153) hx hb dL_law_39 (by rw [t2]; decide) (by rw [t2]; decide) (off := 114) (by rw [t2]; decide) (by decide) ?_
        exact st_back hl9 C0 K IM hK9 hRS dC dI cI cJ cZ cF hK4 hN hU hQ q0 b1 b2 b3 b4 b5 b6 b7 b8 b9 b10 b11 b12 b13 b14 b15 b16 b17 b18 b19 b20 b21 b22 b23 b24 b25 b26 b27 b28 b29 y0 y1 y2 y3 y4 y5 y6 y7 y8 y9 y10 y11 y12 y13 y14 y15 y16 y17 o x4 hv1 hv2 hv3 _ (60 + 3 * i) (160000 + 20 * i) i (by omega) (by omega) (by omega) KK u so um f _ _ _ hI hO hIM hP hD hS hl
      by_cases t3 : (xs x4.toNatClampNeg &&& 15) = 3
      · refine lv_tableIn (tgt := 181) hx hb dL_law_39 (by rw [t3]; decide) (by rw [t3]; decide) (off := 142) (by rw [t3]; decide) (by decide) ?_
        exact st_about hl9 C0 K IM hK9 hRS dC dI cI cJ cZ cF hK4 hN hU hQ q0 b1 b2 b3 b4 b5 b6 b7 b8 b9 b10 b11 b12 b13 b14 b15 b16 b17 b18 b19 b20 b21 b22 b23 b24 b25 b26 b27 b28 b29 y0 y1 y2 y3 y4 y5 y6 y7 y8 y9 y10 y11 y12 y13 y14 y15 y16 y17 o x4 hv1 hv2 hv3 _ (60 + 3 * i) (160000 + 20 * i) i (by omega) (by omega) (by omega) KK u so um f _ _ _ hI hO hIM hP hD hS hl
      by_cases t4 : (xs x4.toNatClampNeg &&& 15) = 4
      · refine lv_tableIn (tgt := 221) hx hb dL_law_39 (by rw [t4]; decide) (by rw [t4]; decide) (off := 182) (by rw [t4]; decide) (by decide) ?_
        exact st_at hl9 C0 K IM hK9 hRS dC dI cI cJ cZ cF hK4 hN hU hQ q0 b1 b2 b3 b4 b5 b6 b7 b8 b9 b10 b11 b12 b13 b14 b15 b16 b17 b18 b19 b20 b21 b22 b23 b24 b25 b26 b27 b28 b29 y0 y1 y2 y3 y4 y5 y6 y7 y8 y9 y10 y11 y12 y13 y14 y15 y16 y17 o x4 hv1 hv2 hv3 _ (60 + 3 * i) (160000 + 20 * i) i (by omega) (by omega) (by omega) KK u so um f _ _ _ hI hO hIM hP hD hS hl
      by_cases t5 : (xs x4.toNatClampNeg &&& 15) = 5
      · refine lv_tableIn (tgt := 249) hx hb dL_law_39 (by rw [t5]; decide) (by rw [t5]; decide) (off := 210) (by rw [t5]; decide) (by decide) ?_
        exact st_run hl9 C0 K IM hK9 hRS dC dI cI cJ cZ cF hK4 hN hU hQ q0 b1 b2 b3 b4 b5 b6 b7 b8 b9 b10 b11 b12 b13 b14 b15 b16 b17 b18 b19 b20 b21 b22 b23 b24 b25 b26 b27 b28 b29 y0 y1 y2 y3 y4 y5 y6 y7 y8 y9 y10 y11 y12 y13 y14 y15 y16 y17 o x4 hv1 hv2 hv3 _ (60 + 3 * i) (160000 + 20 * i) i (by omega) (by omega) (by omega) KK u so um f _ _ _ hI hO hIM hP hD hS hl
      by_cases t6 : (xs x4.toNatClampNeg &&& 15) = 6
      · refine lv_tableIn (tgt := 317) hx hb dL_law_39 (by rw [t6]; decide) (by rw [t6]; decide) (off := 278) (by rw [t6]; decide) (by decide) ?_
        exact st_list hl9 C0 K IM hK9 hRS dC dI cI cJ cZ cF hK4 hN hU hQ q0 b1 b2 b3 b4 b5 b6 b7 b8 b9 b10 b11 b12 b13 b14 b15 b16 b17 b18 b19 b20 b21 b22 b23 b24 b25 b26 b27 b28 b29 y0 y1 y2 y3 y4 y5 y6 y7 y8 y9 y10 y11 y12 y13 y14 y15 y16 y17 o x4 hv1 hv2 hv3 _ (60 + 3 * i) (160000 + 20 * i) i (by omega) (by omega) (by omega) KK u so um f _ _ _ hI hO hIM hP hD hS hl
      by_cases t7 : (xs x4.toNatClampNeg &&& 15) = 7
      · refine lv_tableIn (tgt := 357) hx hb dL_law_39 (by rw [t7]; decide) (by rw [t7]; decide) (off := 318) (by rw [t7]; decide) (by decide) ?_
        exact st_worst hl9 C0 K IM hK9 hRS dC dI cI cJ cZ cF hK4 hN hU hQ q0 b1 b2 b3 b4 b5 b6 b7 b8 b9 b10 b11 b12 b13 b14 b15 b16 b17 b18 b19 b20 b21 b22 b23 b24 b25 b26 b27 b28 b29 y0 y1 y2 y3 y4 y5 y6 y7 y8 y9 y10 y11 y12 y13 y14 y15 y16 y17 o x4 hv1 hv2 hv3 _ (60 + 3 * i) (160000 + 20 * i) i (by omega) (by omega) (by omega) KK u so um f _ _ _ hI hO hIM hP hD hS hl
      by_cases t8 : (xs x4.toNatClampNeg &&& 15) = 8
      · refine lv_tableIn (tgt := 409) hx hb dL_law_39 (by rw [t8]; decide) (by rw [t8]; decide) (off := 370) (by rw [t8]; decide) (by decide) ?_
        exact st_count hl9 C0 K IM hK9 hRS dC dI cI cJ cZ cF hK4 hN hU hQ q0 b1 b2 b3 b4 b5 b6 b7 b8 b9 b10 b11 b12 b13 b14 b15 b16 b17 b18 b19 b20 b21 b22 b23 b24 b25 b26 b27 b28 b29 y0 y1 y2 y3 y4 y5 y6 y7 y8 y9 y10 y11 y12 y13 y14 y15 y16 y17 o x4 hv1 hv2 hv3 _ (60 + 3 * i) (160000 + 20 * i) i (by omega) (by omega) (by omega) KK u so um f _ _ _ hI hO hIM hP hD hS hl
      refine lv_tableOut (tgt := 437) hx hb dL_law_39 (by have e0 := lv_neT t0 (a := 0) (by decide); have e1 := lv_neT t1 (a := 1) (by decide); have e2 := lv_neT t2 (a := 2) (by decide); have e3 := lv_neT t3 (a := 3) (by decide); have e4 := lv_neT t4 (a := 4) (by decide); have e5 := lv_neT t5 (a := 5) (by decide); have e6 := lv_neT t6 (a := 6) (by decide); have e7 := lv_neT t7 (a := 7) (by decide); have e8 := lv_neT t8 (a := 8) (by decide); omega) (by decide) ?_
      refine W.widen (k := 60 + 3 * i + 3 + zz_kc so) (n := 160000 + 20 * i + 20 + zz_ks so) (by omega) (by omega) ?_
      exact KK u so um f _ _ _ hI hO (hRS.2.2.2.2.2.2.2.2.2 _ _ _ hIM) hP hD hS hl

abbrev rm_L_open : Room := { frames := 7, cells := 1, slots := 6, locals := 112 }
set_option maxHeartbeats 4000000 in
set_option maxRecDepth 100000 in
theorem cl_open (l : Launch) (hl9 : l.stackTraces = false) (dC : Nat → ClassId) (dI : Nat → Nat → Nat) (cI cJ cZ cF : ClassId) (x : Nat) (wX : va_W) (fs : List Value) (hx0 : wX[0]? = some (x, .inr (10, fs))) (p1 : Int32) (p2 : Int32) (Rn : va_W → Prop) (Rx : String → va_W → Prop) (hM : zz_CXv l yX11_open wsX11_open rm_X11_open dC dI cI cJ cZ cF x wX [.int p1, .int p2] 1 6 Rn Rx) (hE : ∀ (E : String) (w : va_W), Rx E w → E = "java/lang/IllegalArgumentException") (sz : Nat) : Met l yL_open wsL_open rm_L_open (zz_prx dC dI [(cI, .int), (cJ, .long), (cZ, .boolean), (cF, .object "RoomForms$Form")] wX sz [.ref x, .int p1, .int p2]) (va_Qi (fun k (u : va_W) => (k = 0 ∧ Rn u) ∨ (k = 1 ∧ Rx "java/lang/IllegalArgumentException" u)) (fun u t => zz_wo dC dI [(cI, .int), (cJ, .long), (cZ, .boolean), (cF, .object "RoomForms$Form")] (va_A wX sz) u t) (va_A wX sz)) 1 6 (va_A wX sz) := by
  refine va_MetW (cc := cL_open) (maxL := 4) (ret := (some .int)) (by decide) rfl ?_
  intro p e s m args below meth c s₁ B hml hv
  obtain ⟨rfl, hsz, hP, hK4, hD0, hN, hU, hQ⟩ := hv
  have hK := hK4.sub (tys' := [(cI, .int), (cJ, .long), (cZ, .boolean)]) [0, 1, 2] rfl
  have hx := B.exec
  have hb := B.bytes
  have hr := B.returns
  have hts := atoms_spec (ws := wsL_open) B.pre
  have hown : s.vm.findClass RL = some m.cls := findClass_of_methodNamed B.named
  have hlocks := B.notSynchronized
  have hTab : c.exceptionTable.toList = tableOf [(0, 6, 9, 13)] := vx_table (x := yL_open) B (hts (.codeWith yL_open cL_open 4 (some .int) [(0, 6, 9, 13)]) (by decide +kernel))
  have hS0 : CallFix p m c cL_open 4 s #[.ref x, .int p1, .int p2] wsL_open RL := ⟨hx, hb, hml, hown, hts⟩
  subst hsz
  have hD := hD0.self (sz := s.heap.size)
  generalize hAe : va_A wX s.heap.size = A at hD hU hQ ⊢
  have hA : ∀ q : Nat, s.heap.size ≤ q → A q := fun q h => by rw [← hAe]; exact Or.inr h
  have hS : va_S A s.heap s.heap [] := va_S.rf
  have hl := lv_entry ([.ref x, .int p1, .int p2]) (n := 4) (Nat.le_of_ble_eq_true rfl)
  rw [lg_entry_eq]
  generalize (lg_sl ([.ref x, .int p1, .int p2]) ++ List.replicate (4 - (lg_sl ([.ref x, .int p1, .int p2])).length) Slot.unset).toArray = ls at hl ⊢
  have hl : lv_has ls 4 [(0, .ref x), (1, .int p1), (2, .int p2)] := hl
  refine lv_aload_n hx hb dL_open_0 rfl (lv_at hl 0 rfl) ?_
  refine lv_iload_n hx hb dL_open_1 rfl (lv_at hl 1 rfl) ?_
  refine lv_iload_n hx hb dL_open_2 rfl (lv_at hl 2 rfl) ?_
  have hPc : va_P (dC, dI) vwCl wX s.heap := hP
  have hDc : va_D A wX := hD
  have hFc := zz_freeW hDc hS hA
  refine vx_callv (vx_runV (As := [.int p1, .int p2]) (rest := []) hS0 (hM _) (cwV 2 hts gL_open_X11_open rfl rfl rfl (by decide +kernel) ⟨(Nat.le_of_ble_eq_true rfl), (Nat.le_of_ble_eq_true rfl)⟩) (zz_pvx hK4 hPc hDc hN hU hQ hS hFc (zz_recv hK4 hPc hx0)) rfl rfl hl.1 rfl (lv_room (Nat.le_of_ble_eq_true rfl)) dL_open_3 ⟨(Nat.le_of_ble_eq_true rfl), (Nat.le_of_ble_eq_true rfl)⟩) hS (fun q _ h => hFc q h) hFc (fun q _ h => hFc q h) (fun E ce qx9 u t H1 locs ht hvm hw hB hz1 hk1 hS hce hcv hcl => ?_) (fun u t H1 locs ht hvm hw hB hz1 hk1 hS => ?_)
  · obtain ⟨hR, hP1, hK1, hD1⟩ := hB
    rw [ht] at hP1
    obtain ⟨hP, hD⟩ := (show va_P (dC, dI) vwCl u H1 ∧ va_D A u from ⟨hP1, hD1.weaken (fun _ _ _ h => hFc _ h)⟩)
    rcases hE E u hR with rfl
    · refine vx_catch (own := RL) (name := "java/lang/IllegalArgumentException") (E := "java/lang/IllegalArgumentException") hown [] ⟨0, 6, 9, 13⟩ [] (by rw [hTab]; rfl) (fun z hz => nomatch hz) (by decide) (by decide) (hts (.classLink RL 13 "java/lang/IllegalArgumentException") (by decide +kernel)) (va_Nw.use rfl hN.2.2.2.2.2.1.1) hce hcv hcl ?_
      refine lv_astore_n (lv' := [(3, .ref qx9), (0, .ref x), (1, .int p1), (2, .int p2)]) hx hb dL_open_9 rfl hl (by decide) rfl (fun ls hl => ?_)
      refine lv_iconst (v := 1) hx hb dL_open_10 (by decide) ?_
      refine W.widen (k := 1) (n := 6) (Nat.le_of_ble_eq_true rfl) (Nat.le_of_ble_eq_true rfl) ?_
      exact W.iret (v := (1 : Int32)) hx hb hr (fun t ht hW => ⟨⟨(1 : Int32), u, rfl, Or.inr (⟨rfl, hR⟩), by rw [ht]; exact hP, va_K.moved hW.alike hK4, hD⟩, hS.F ht⟩) hS.2.2 dL_open_11
  · obtain ⟨hP1, hK1, hD1⟩ := hB
    rw [ht] at hP1
    obtain ⟨hP, hD⟩ := (show va_P (dC, dI) vwCl u H1 ∧ va_D A u from ⟨hP1, hD1.weaken (fun _ _ _ h => hFc _ h)⟩)
    refine lv_goto (tgt := 12) hx hb dL_open_6 (by decide) ?_
    refine lv_iconst (v := 0) hx hb dL_open_12 (by decide) ?_
    refine W.widen (k := 1) (n := 6) (Nat.le_of_ble_eq_true rfl) (Nat.le_of_ble_eq_true rfl) ?_
    exact W.iret (v := (0 : Int32)) hx hb hr (fun t ht hW => ⟨⟨(0 : Int32), u, rfl, Or.inl ⟨rfl, hw⟩, by rw [ht]; exact hP, va_K.moved hW.alike hK4, hD⟩, hS.F ht⟩) hS.2.2 dL_open_13
abbrev rm_L_give : Room := { frames := 8, cells := 2, slots := 12, locals := 137 }
set_option maxHeartbeats 4000000 in
set_option maxRecDepth 100000 in
theorem cl_give (l : Launch) (hl9 : l.stackTraces = false) (dC : Nat → ClassId) (dI : Nat → Nat → Nat) (cI cJ cZ cF : ClassId) (x : Nat) (wX : va_W) (fs : List Value) (hx0 : wX[0]? = some (x, .inr (10, fs))) (p1 : Int32) (Rn : Int32 → va_W → Prop) (Rx : String → va_W → Prop) (hM : zz_CXi l yX11_give wsX11_give rm_X11_give dC dI cI cJ cZ cF x wX [.int p1] 2 12 Rn Rx) (hE : ∀ (E : String) (w : va_W), Rx E w → E = "java/lang/IllegalArgumentException" ∨ E = "java/lang/IllegalStateException" ∨ E = "java/lang/IndexOutOfBoundsException") (o : Nat) (f : Nat → Int64) (sz : Nat) : Met l yL_give wsL_give rm_L_give (zz_prx dC dI [(cI, .int), (cJ, .long), (cZ, .boolean), (cF, .object "RoomForms$Form")] ((o, .inl (cJ, 1, .inr (.inl f))) :: wX) sz [.ref x, .int p1, .ref o]) (va_Qi (fun k (u : va_W × (Nat → Int64)) => (k = 0 ∧ ∃ r : Int32, Rn r u.1 ∧ u.2 = vp_updL f (0 : Int32).toNatClampNeg r.toInt64) ∨ (k = 1 ∧ Rx "java/lang/IllegalArgumentException" u.1 ∧ u.2 = f) ∨ (k = 2 ∧ Rx "java/lang/IllegalStateException" u.1 ∧ u.2 = f) ∨ (k = 3 ∧ Rx "java/lang/IndexOutOfBoundsException" u.1 ∧ u.2 = f)) (fun u t => zz_wo dC dI [(cI, .int), (cJ, .long), (cZ, .boolean), (cF, .object "RoomForms$Form")] (va_A ((o, .inl (cJ, 1, .inr (.inl f))) :: wX) sz) ((o, .inl (cJ, 1, .inr (.inl u.2))) :: u.1) t) (va_A ((o, .inl (cJ, 1, .inr (.inl f))) :: wX) sz)) 2 12 (va_A ((o, .inl (cJ, 1, .inr (.inl f))) :: wX) sz) := by
  refine va_MetW (cc := cL_give) (maxL := 4) (ret := (some .int)) (by decide) rfl ?_
  intro p e s m args below meth c s₁ B hml hv
  obtain ⟨rfl, hsz, hP, hK4, hD0, hN, hU, hQ⟩ := hv
  have hK := hK4.sub (tys' := [(cI, .int), (cJ, .long), (cZ, .boolean)]) [0, 1, 2] rfl
  have hx := B.exec
  have hb := B.bytes
  have hr := B.returns
  have hts := atoms_spec (ws := wsL_give) B.pre
  have hown : s.vm.findClass RL = some m.cls := findClass_of_methodNamed B.named
  have hlocks := B.notSynchronized
  have hTab : c.exceptionTable.toList = tableOf [(0, 9, 12, 13), (0, 9, 15, 19), (0, 9, 18, 21)] := vx_table (x := yL_give) B (hts (.codeWith yL_give cL_give 4 (some .int) [(0, 9, 12, 13), (0, 9, 15, 19), (0, 9, 18, 21)]) (by decide +kernel))
  have hS0 : CallFix p m c cL_give 4 s #[.ref x, .int p1, .ref o] wsL_give RL := ⟨hx, hb, hml, hown, hts⟩
  subst hsz
  have hD := hD0.self (sz := s.heap.size)
  generalize hAe : va_A ((o, .inl (cJ, 1, .inr (.inl f))) :: wX) s.heap.size = A at hD hU hQ ⊢
  have hA : ∀ q : Nat, s.heap.size ≤ q → A q := fun q h => by rw [← hAe]; exact Or.inr h
  have hS : va_S A s.heap s.heap [] := va_S.rf
  have hl := lv_entry ([.ref x, .int p1, .ref o]) (n := 4) (Nat.le_of_ble_eq_true rfl)
  rw [lg_entry_eq]
  generalize (lg_sl ([.ref x, .int p1, .ref o]) ++ List.replicate (4 - (lg_sl ([.ref x, .int p1, .ref o])).length) Slot.unset).toArray = ls at hl ⊢
  have hl : lv_has ls 4 [(0, .ref x), (1, .int p1), (2, .ref o)] := hl
  refine lv_aload_n hx hb dL_give_0 rfl (lv_at hl 2 rfl) ?_
  refine lv_iconst (v := 0) hx hb dL_give_1 (by decide) ?_
  refine lv_aload_n hx hb dL_give_2 rfl (lv_at hl 0 rfl) ?_
  refine lv_iload_n hx hb dL_give_3 rfl (lv_at hl 1 rfl) ?_
  have hPc : va_P (dC, dI) vwCl wX s.heap := zz_Pr (a := [(o, .inl (cJ, 1, .inr (.inl f)))]) hP
  have hDc : va_D A wX := zz_Dr (a := [(o, .inl (cJ, 1, .inr (.inl f)))]) hD
  have hFc := zz_freeW hDc hS hA
  refine vx_calli (vx_runV (As := [.int p1]) (rest := [.int (0 : Int32), .ref o]) hS0 (hM _) (cwV 1 hts gL_give_X11_give rfl rfl rfl (by decide +kernel) ⟨(Nat.le_of_ble_eq_true rfl), (Nat.le_of_ble_eq_true rfl)⟩) (zz_pvx hK4 hPc hDc hN hU hQ hS hFc (zz_recv hK4 hPc hx0)) rfl rfl hl.1 rfl (lv_room (Nat.le_of_ble_eq_true rfl)) dL_give_4 ⟨(Nat.le_of_ble_eq_true rfl), (Nat.le_of_ble_eq_true rfl)⟩) hS (fun q _ h => hFc q h) hFc (fun q _ h => hFc q h) (fun E ce qx9 u t H1 locs ht hvm hw hB hz1 hk1 hS hce hcv hcl => ?_) (fun r u t H1 locs ht hvm hw hB hz1 hk1 hS => ?_)
  · obtain ⟨hR, hP1, hK1, hD1⟩ := hB
    rw [ht] at hP1
    obtain ⟨hP, hD⟩ := zz_joinB (wr := [(o, .inl (cJ, 1, .inr (.inl f)))]) hP hD hk1 hFc hP1 hD1
    rcases hE E u hR with rfl | rfl | rfl
    · refine vx_catch (own := RL) (name := "java/lang/IllegalArgumentException") (E := "java/lang/IllegalArgumentException") hown [] ⟨0, 9, 12, 13⟩ [⟨0, 9, 15, 19⟩, ⟨0, 9, 18, 21⟩] (by rw [hTab]; rfl) (fun z hz => nomatch hz) (by decide) (by decide) (hts (.classLink RL 13 "java/lang/IllegalArgumentException") (by decide +kernel)) (va_Nw.use rfl hN.2.2.2.2.2.1.1) hce hcv hcl ?_
      refine lv_astore_n (lv' := [(3, .ref qx9), (0, .ref x), (1, .int p1), (2, .ref o)]) hx hb dL_give_12 rfl hl (by decide) rfl (fun ls hl => ?_)
      refine lv_iconst (v := 1) hx hb dL_give_13 (by decide) ?_
      refine W.widen (k := 2) (n := 12) (Nat.le_of_ble_eq_true rfl) (Nat.le_of_ble_eq_true rfl) ?_
      exact W.iret (v := (1 : Int32)) hx hb hr (fun t ht hW => ⟨⟨(1 : Int32), (u, f), rfl, Or.inr (Or.inl ⟨rfl, hR, rfl⟩), by rw [ht]; exact hP, va_K.moved hW.alike hK4, hD⟩, hS.F ht⟩) hS.2.2 dL_give_14
    · refine vx_catch (own := RL) (name := "java/lang/IllegalStateException") (E := "java/lang/IllegalStateException") hown [⟨0, 9, 12, 13⟩] ⟨0, 9, 15, 19⟩ [⟨0, 9, 18, 21⟩] (by rw [hTab]; rfl) (by
        intro z hz
        rcases List.mem_cons.mp hz with rfl | hz
        · exact Or.inr ⟨by decide, "java/lang/IllegalArgumentException", hts (.classLink RL 13 "java/lang/IllegalArgumentException") (by decide +kernel), hN.2.2.2.2.2.2.2.1.2.2.2.2.1⟩
        cases hz) (by decide) (by decide) (hts (.classLink RL 19 "java/lang/IllegalStateException") (by decide +kernel)) (va_Nw.use rfl hN.2.2.2.2.2.1.2.1) hce hcv hcl ?_
      refine lv_astore_n (lv' := [(3, .ref qx9), (0, .ref x), (1, .int p1), (2, .ref o)]) hx hb dL_give_15 rfl hl (by decide) rfl (fun ls hl => ?_)
      refine lv_iconst (v := 2) hx hb dL_give_16 (by decide) ?_
      refine W.widen (k := 2) (n := 12) (Nat.le_of_ble_eq_true rfl) (Nat.le_of_ble_eq_true rfl) ?_
      exact W.iret (v := (2 : Int32)) hx hb hr (fun t ht hW => ⟨⟨(2 : Int32), (u, f), rfl, Or.inr (Or.inr (Or.inl ⟨rfl, hR, rfl⟩)), by rw [ht]; exact hP, va_K.moved hW.alike hK4, hD⟩, hS.F ht⟩) hS.2.2 dL_give_17
    · refine vx_catch (own := RL) (name := "java/lang/IndexOutOfBoundsException") (E := "java/lang/IndexOutOfBoundsException") hown [⟨0, 9, 12, 13⟩, ⟨0, 9, 15, 19⟩] ⟨0, 9, 18, 21⟩ [] (by rw [hTab]; rfl) (by
        intro z hz
        rcases List.mem_cons.mp hz with rfl | hz
        · exact Or.inr ⟨by decide, "java/lang/IllegalArgumentException", hts (.classLink RL 13 "java/lang/IllegalArgumentException") (by decide +kernel), hN.2.2.2.2.2.2.2.1.2.2.2.2.2.2.2.2.1⟩
        rcases List.mem_cons.mp hz with rfl | hz
        · exact Or.inr ⟨by decide, "java/lang/IllegalStateException", hts (.classLink RL 19 "java/lang/IllegalStateException") (by decide +kernel), hN.2.2.2.2.2.2.2.1.2.2.2.2.2.2.2.2.2.1⟩
        cases hz) (by decide) (by decide) (hts (.classLink RL 21 "java/lang/IndexOutOfBoundsException") (by decide +kernel)) (va_Nw.use rfl hN.2.2.2.2.2.1.2.2.1) hce hcv hcl ?_
      refine lv_astore_n (lv' := [(3, .ref qx9), (0, .ref x), (1, .int p1), (2, .ref o)]) hx hb dL_give_18 rfl hl (by decide) rfl (fun ls hl => ?_)
      refine lv_iconst (v := 3) hx hb dL_give_19 (by decide) ?_
      refine W.widen (k := 2) (n := 12) (Nat.le_of_ble_eq_true rfl) (Nat.le_of_ble_eq_true rfl) ?_
      exact W.iret (v := (3 : Int32)) hx hb hr (fun t ht hW => ⟨⟨(3 : Int32), (u, f), rfl, Or.inr (Or.inr (Or.inr (⟨rfl, hR, rfl⟩))), by rw [ht]; exact hP, va_K.moved hW.alike hK4, hD⟩, hS.F ht⟩) hS.2.2 dL_give_20
  · obtain ⟨hP1, hK1, hD1⟩ := hB
    rw [ht] at hP1
    obtain ⟨hP, hD⟩ := zz_joinB (wr := [(o, .inl (cJ, 1, .inr (.inl f)))]) hP hD hk1 hFc hP1 hD1
    refine lv_i2l hx hb dL_give_7 rfl ?_
    refine va_last hx hb hK hP hD hS 0 1 rfl rfl (i := (0 : Int32)) (show ¬ ((0 : Int32) < 0 ∨ 1 ≤ (0 : Int32).toNatClampNeg) by decide) dL_give_8 (fun H locs hP hD hS => ?_)
    have hP : va_P (dC, dI) vwCl ((o, .inl (cJ, 1, .inr (.inl (vp_updL f (0 : Int32).toNatClampNeg r.toInt64)))) :: u) _ := hP
    have hD : va_D A ((o, .inl (cJ, 1, .inr (.inl (vp_updL f (0 : Int32).toNatClampNeg r.toInt64)))) :: u) := hD
    refine lv_goto (tgt := 21) hx hb dL_give_9 (by decide) ?_
    refine lv_iconst (v := 0) hx hb dL_give_21 (by decide) ?_
    refine W.widen (k := 2) (n := 12) (Nat.le_of_ble_eq_true rfl) (Nat.le_of_ble_eq_true rfl) ?_
    exact W.iret (v := (0 : Int32)) hx hb hr (fun t ht hW => ⟨⟨(0 : Int32), (u, vp_updL f (0 : Int32).toNatClampNeg r.toInt64), rfl, Or.inl ⟨rfl, r, hw, rfl⟩, by rw [ht]; exact hP, va_K.moved hW.alike hK4, hD⟩, hS.F ht⟩) hS.2.2 dL_give_22
abbrev rm_L_back : Room := { frames := 8, cells := 2, slots := 12, locals := 136 }
set_option maxHeartbeats 4000000 in
set_option maxRecDepth 100000 in
theorem cl_back (l : Launch) (hl9 : l.stackTraces = false) (dC : Nat → ClassId) (dI : Nat → Nat → Nat) (cI cJ cZ cF : ClassId) (x : Nat) (wX : va_W) (fs : List Value) (hx0 : wX[0]? = some (x, .inr (10, fs))) (p1 : Int32) (Rn : Int32 → va_W → Prop) (Rx : String → va_W → Prop) (hM : zz_CXi l yX11_back wsX11_back rm_X11_back dC dI cI cJ cZ cF x wX [.int p1] 2 12 Rn Rx) (hE : ∀ (E : String) (w : va_W), Rx E w → E = "java/lang/IllegalStateException" ∨ E = "java/util/NoSuchElementException") (o : Nat) (f : Nat → Int64) (sz : Nat) : Met l yL_back wsL_back rm_L_back (zz_prx dC dI [(cI, .int), (cJ, .long), (cZ, .boolean), (cF, .object "RoomForms$Form")] ((o, .inl (cJ, 1, .inr (.inl f))) :: wX) sz [.ref x, .int p1, .ref o]) (va_Qi (fun k (u : va_W × (Nat → Int64)) => (k = 0 ∧ ∃ r : Int32, Rn r u.1 ∧ u.2 = vp_updL f (0 : Int32).toNatClampNeg r.toInt64) ∨ (k = 1 ∧ Rx "java/lang/IllegalStateException" u.1 ∧ u.2 = f) ∨ (k = 2 ∧ Rx "java/util/NoSuchElementException" u.1 ∧ u.2 = f)) (fun u t => zz_wo dC dI [(cI, .int), (cJ, .long), (cZ, .boolean), (cF, .object "RoomForms$Form")] (va_A ((o, .inl (cJ, 1, .inr (.inl f))) :: wX) sz) ((o, .inl (cJ, 1, .inr (.inl u.2))) :: u.1) t) (va_A ((o, .inl (cJ, 1, .inr (.inl f))) :: wX) sz)) 2 12 (va_A ((o, .inl (cJ, 1, .inr (.inl f))) :: wX) sz) := by
  refine va_MetW (cc := cL_back) (maxL := 4) (ret := (some .int)) (by decide) rfl ?_
  intro p e s m args below meth c s₁ B hml hv
  obtain ⟨rfl, hsz, hP, hK4, hD0, hN, hU, hQ⟩ := hv
  have hK := hK4.sub (tys' := [(cI, .int), (cJ, .long), (cZ, .boolean)]) [0, 1, 2] rfl
  have hx := B.exec
  have hb := B.bytes
  have hr := B.returns
  have hts := atoms_spec (ws := wsL_back) B.pre
  have hown : s.vm.findClass RL = some m.cls := findClass_of_methodNamed B.named
  have hlocks := B.notSynchronized
  have hTab : c.exceptionTable.toList = tableOf [(0, 9, 12, 19), (0, 9, 15, 26)] := vx_table (x := yL_back) B (hts (.codeWith yL_back cL_back 4 (some .int) [(0, 9, 12, 19), (0, 9, 15, 26)]) (by decide +kernel))
  have hS0 : CallFix p m c cL_back 4 s #[.ref x, .int p1, .ref o] wsL_back RL := ⟨hx, hb, hml, hown, hts⟩
  subst hsz
  have hD := hD0.self (sz := s.heap.size)
  generalize hAe : va_A ((o, .inl (cJ, 1, .inr (.inl f))) :: wX) s.heap.size = A at hD hU hQ ⊢
  have hA : ∀ q : Nat, s.heap.size ≤ q → A q := fun q h => by rw [← hAe]; exact Or.inr h
  have hS : va_S A s.heap s.heap [] := va_S.rf
  have hl := lv_entry ([.ref x, .int p1, .ref o]) (n := 4) (Nat.le_of_ble_eq_true rfl)
  rw [lg_entry_eq]
  generalize (lg_sl ([.ref x, .int p1, .ref o]) ++ List.replicate (4 - (lg_sl ([.ref x, .int p1, .ref o])).length) Slot.unset).toArray = ls at hl ⊢
  have hl : lv_has ls 4 [(0, .ref x), (1, .int p1), (2, .ref o)] := hl
  refine lv_aload_n hx hb dL_back_0 rfl (lv_at hl 2 rfl) ?_
  refine lv_iconst (v := 0) hx hb dL_back_1 (by decide) ?_
  refine lv_aload_n hx hb dL_back_2 rfl (lv_at hl 0 rfl) ?_
  refine lv_iload_n hx hb dL_back_3 rfl (lv_at hl 1 rfl) ?_
  have hPc : va_P (dC, dI) vwCl wX s.heap := zz_Pr (a := [(o, .inl (cJ, 1, .inr (.inl f)))]) hP
  have hDc : va_D A wX := zz_Dr (a := [(o, .inl (cJ, 1, .inr (.inl f)))]) hD
  have hFc := zz_freeW hDc hS hA
  refine vx_calli (vx_runV (As := [.int p1]) (rest := [.int (0 : Int32), .ref o]) hS0 (hM _) (cwV 1 hts gL_back_X11_back rfl rfl rfl (by decide +kernel) ⟨(Nat.le_of_ble_eq_true rfl), (Nat.le_of_ble_eq_true rfl)⟩) (zz_pvx hK4 hPc hDc hN hU hQ hS hFc (zz_recv hK4 hPc hx0)) rfl rfl hl.1 rfl (lv_room (Nat.le_of_ble_eq_true rfl)) dL_back_4 ⟨(Nat.le_of_ble_eq_true rfl), (Nat.le_of_ble_eq_true rfl)⟩) hS (fun q _ h => hFc q h) hFc (fun q _ h => hFc q h) (fun E ce qx9 u t H1 locs ht hvm hw hB hz1 hk1 hS hce hcv hcl => ?_) (fun r u t H1 locs ht hvm hw hB hz1 hk1 hS => ?_)
  · obtain ⟨hR, hP1, hK1, hD1⟩ := hB
    rw [ht] at hP1
    obtain ⟨hP, hD⟩ := zz_joinB (wr := [(o, .inl (cJ, 1, .inr (.inl f)))]) hP hD hk1 hFc hP1 hD1
    rcases hE E u hR with rfl | rfl
    · refine vx_catch (own := RL) (name := "java/lang/IllegalStateException") (E := "java/lang/IllegalStateException") hown [] ⟨0, 9, 12, 19⟩ [⟨0, 9, 15, 26⟩] (by rw [hTab]; rfl) (fun z hz => nomatch hz) (by decide) (by decide) (hts (.classLink RL 19 "java/lang/IllegalStateException") (by decide +kernel)) (va_Nw.use rfl hN.2.2.2.2.2.1.2.1) hce hcv hcl ?_
      refine lv_astore_n (lv' := [(3, .ref qx9), (0, .ref x), (1, .int p1), (2, .ref o)]) hx hb dL_back_12 rfl hl (by decide) rfl (fun ls hl => ?_)
      refine lv_iconst (v := 1) hx hb dL_back_13 (by decide) ?_
      refine W.widen (k := 2) (n := 12) (Nat.le_of_ble_eq_true rfl) (Nat.le_of_ble_eq_true rfl) ?_
      exact W.iret (v := (1 : Int32)) hx hb hr (fun t ht hW => ⟨⟨(1 : Int32), (u, f), rfl, Or.inr (Or.inl ⟨rfl, hR, rfl⟩), by rw [ht]; exact hP, va_K.moved hW.alike hK4, hD⟩, hS.F ht⟩) hS.2.2 dL_back_14
    · refine vx_catch (own := RL) (name := "java/util/NoSuchElementException") (E := "java/util/NoSuchElementException") hown [⟨0, 9, 12, 19⟩] ⟨0, 9, 15, 26⟩ [] (by rw [hTab]; rfl) (by
        intro z hz
        rcases List.mem_cons.mp hz with rfl | hz
        · exact Or.inr ⟨by decide, "java/lang/IllegalStateException", hts (.classLink RL 19 "java/lang/IllegalStateException") (by decide +kernel), hN.2.2.2.2.2.2.2.1.2.2.2.2.2.2.2.2.2.2.2.2.2.2.2.2.2.1⟩
        cases hz) (by decide) (by decide) (hts (.classLink RL 26 "java/util/NoSuchElementException") (by decide +kernel)) (va_Nw.use rfl hN.2.2.2.2.2.1.2.2.2.2.1) hce hcv hcl ?_
      refine lv_astore_n (lv' := [(3, .ref qx9), (0, .ref x), (1, .int p1), (2, .ref o)]) hx hb dL_back_15 rfl hl (by decide) rfl (fun ls hl => ?_)
      refine lv_iconst (v := 2) hx hb dL_back_16 (by decide) ?_
      refine W.widen (k := 2) (n := 12) (Nat.le_of_ble_eq_true rfl) (Nat.le_of_ble_eq_true rfl) ?_
      exact W.iret (v := (2 : Int32)) hx hb hr (fun t ht hW => ⟨⟨(2 : Int32), (u, f), rfl, Or.inr (Or.inr (⟨rfl, hR, rfl⟩)), by rw [ht]; exact hP, va_K.moved hW.alike hK4, hD⟩, hS.F ht⟩) hS.2.2 dL_back_17
  · obtain ⟨hP1, hK1, hD1⟩ := hB
    rw [ht] at hP1
    obtain ⟨hP, hD⟩ := zz_joinB (wr := [(o, .inl (cJ, 1, .inr (.inl f)))]) hP hD hk1 hFc hP1 hD1
    refine lv_i2l hx hb dL_back_7 rfl ?_
    refine va_last hx hb hK hP hD hS 0 1 rfl rfl (i := (0 : Int32)) (show ¬ ((0 : Int32) < 0 ∨ 1 ≤ (0 : Int32).toNatClampNeg) by decide) dL_back_8 (fun H locs hP hD hS => ?_)
    have hP : va_P (dC, dI) vwCl ((o, .inl (cJ, 1, .inr (.inl (vp_updL f (0 : Int32).toNatClampNeg r.toInt64)))) :: u) _ := hP
    have hD : va_D A ((o, .inl (cJ, 1, .inr (.inl (vp_updL f (0 : Int32).toNatClampNeg r.toInt64)))) :: u) := hD
    refine lv_goto (tgt := 18) hx hb dL_back_9 (by decide) ?_
    refine lv_iconst (v := 0) hx hb dL_back_18 (by decide) ?_
    refine W.widen (k := 2) (n := 12) (Nat.le_of_ble_eq_true rfl) (Nat.le_of_ble_eq_true rfl) ?_
    exact W.iret (v := (0 : Int32)) hx hb hr (fun t ht hW => ⟨⟨(0 : Int32), (u, vp_updL f (0 : Int32).toNatClampNeg r.toInt64), rfl, Or.inl ⟨rfl, r, hw, rfl⟩, by rw [ht]; exact hP, va_K.moved hW.alike hK4, hD⟩, hS.F ht⟩) hS.2.2 dL_back_19
abbrev rm_L_about : Room := { frames := 8, cells := 2, slots := 12, locals := 135 }
set_option maxHeartbeats 4000000 in
set_option maxRecDepth 100000 in
theorem cl_about (l : Launch) (hl9 : l.stackTraces = false) (dC : Nat → ClassId) (dI : Nat → Nat → Nat) (cI cJ cZ cF : ClassId) (x : Nat) (wX : va_W) (fs : List Value) (hx0 : wX[0]? = some (x, .inr (10, fs))) (p1 : Int32) (p2 : Int32) (Rn : Int32 → va_W → Prop) (Rx : String → va_W → Prop) (hM : zz_CXi l yX11_about wsX11_about rm_X11_about dC dI cI cJ cZ cF x wX [.int p1, .int p2] 2 12 Rn Rx) (hE : ∀ (E : String) (w : va_W), Rx E w → E = "java/lang/IllegalArgumentException" ∨ E = "java/lang/IllegalStateException" ∨ E = "java/util/NoSuchElementException") (o : Nat) (f : Nat → Int64) (sz : Nat) : Met l yL_about wsL_about rm_L_about (zz_prx dC dI [(cI, .int), (cJ, .long), (cZ, .boolean), (cF, .object "RoomForms$Form")] ((o, .inl (cJ, 1, .inr (.inl f))) :: wX) sz [.ref x, .int p1, .int p2, .ref o]) (va_Qi (fun k (u : va_W × (Nat → Int64)) => (k = 0 ∧ ∃ r : Int32, Rn r u.1 ∧ u.2 = vp_updL f (0 : Int32).toNatClampNeg r.toInt64) ∨ (k = 1 ∧ Rx "java/lang/IllegalArgumentException" u.1 ∧ u.2 = f) ∨ (k = 2 ∧ Rx "java/lang/IllegalStateException" u.1 ∧ u.2 = f) ∨ (k = 3 ∧ Rx "java/util/NoSuchElementException" u.1 ∧ u.2 = f)) (fun u t => zz_wo dC dI [(cI, .int), (cJ, .long), (cZ, .boolean), (cF, .object "RoomForms$Form")] (va_A ((o, .inl (cJ, 1, .inr (.inl f))) :: wX) sz) ((o, .inl (cJ, 1, .inr (.inl u.2))) :: u.1) t) (va_A ((o, .inl (cJ, 1, .inr (.inl f))) :: wX) sz)) 2 12 (va_A ((o, .inl (cJ, 1, .inr (.inl f))) :: wX) sz) := by
  refine va_MetW (cc := cL_about) (maxL := 5) (ret := (some .int)) (by decide) rfl ?_
  intro p e s m args below meth c s₁ B hml hv
  obtain ⟨rfl, hsz, hP, hK4, hD0, hN, hU, hQ⟩ := hv
  have hK := hK4.sub (tys' := [(cI, .int), (cJ, .long), (cZ, .boolean)]) [0, 1, 2] rfl
  have hx := B.exec
  have hb := B.bytes
  have hr := B.returns
  have hts := atoms_spec (ws := wsL_about) B.pre
  have hown : s.vm.findClass RL = some m.cls := findClass_of_methodNamed B.named
  have hlocks := B.notSynchronized
  have hTab : c.exceptionTable.toList = tableOf [(0, 10, 13, 13), (0, 10, 17, 19), (0, 10, 21, 26)] := vx_table (x := yL_about) B (hts (.codeWith yL_about cL_about 5 (some .int) [(0, 10, 13, 13), (0, 10, 17, 19), (0, 10, 21, 26)]) (by decide +kernel))
  have hS0 : CallFix p m c cL_about 5 s #[.ref x, .int p1, .int p2, .ref o] wsL_about RL := ⟨hx, hb, hml, hown, hts⟩
  subst hsz
  have hD := hD0.self (sz := s.heap.size)
  generalize hAe : va_A ((o, .inl (cJ, 1, .inr (.inl f))) :: wX) s.heap.size = A at hD hU hQ ⊢
  have hA : ∀ q : Nat, s.heap.size ≤ q → A q := fun q h => by rw [← hAe]; exact Or.inr h
  have hS : va_S A s.heap s.heap [] := va_S.rf
  have hl := lv_entry ([.ref x, .int p1, .int p2, .ref o]) (n := 5) (Nat.le_of_ble_eq_true rfl)
  rw [lg_entry_eq]
  generalize (lg_sl ([.ref x, .int p1, .int p2, .ref o]) ++ List.replicate (5 - (lg_sl ([.ref x, .int p1, .int p2, .ref o])).length) Slot.unset).toArray = ls at hl ⊢
  have hl : lv_has ls 5 [(0, .ref x), (1, .int p1), (2, .int p2), (3, .ref o)] := hl
  refine lv_aload_n hx hb dL_about_0 rfl (lv_at hl 3 rfl) ?_
  refine lv_iconst (v := 0) hx hb dL_about_1 (by decide) ?_
  refine lv_aload_n hx hb dL_about_2 rfl (lv_at hl 0 rfl) ?_
  refine lv_iload_n hx hb dL_about_3 rfl (lv_at hl 1 rfl) ?_
  refine lv_iload_n hx hb dL_about_4 rfl (lv_at hl 2 rfl) ?_
  have hPc : va_P (dC, dI) vwCl wX s.heap := zz_Pr (a := [(o, .inl (cJ, 1, .inr (.inl f)))]) hP
  have hDc : va_D A wX := zz_Dr (a := [(o, .inl (cJ, 1, .inr (.inl f)))]) hD
  have hFc := zz_freeW hDc hS hA
  refine vx_calli (vx_runV (As := [.int p1, .int p2]) (rest := [.int (0 : Int32), .ref o]) hS0 (hM _) (cwV 2 hts gL_about_X11_about rfl rfl rfl (by decide +kernel) ⟨(Nat.le_of_ble_eq_true rfl), (Nat.le_of_ble_eq_true rfl)⟩) (zz_pvx hK4 hPc hDc hN hU hQ hS hFc (zz_recv hK4 hPc hx0)) rfl rfl hl.1 rfl (lv_room (Nat.le_of_ble_eq_true rfl)) dL_about_5 ⟨(Nat.le_of_ble_eq_true rfl), (Nat.le_of_ble_eq_true rfl)⟩) hS (fun q _ h => hFc q h) hFc (fun q _ h => hFc q h) (fun E ce qx9 u t H1 locs ht hvm hw hB hz1 hk1 hS hce hcv hcl => ?_) (fun r u t H1 locs ht hvm hw hB hz1 hk1 hS => ?_)
  · obtain ⟨hR, hP1, hK1, hD1⟩ := hB
    rw [ht] at hP1
    obtain ⟨hP, hD⟩ := zz_joinB (wr := [(o, .inl (cJ, 1, .inr (.inl f)))]) hP hD hk1 hFc hP1 hD1
    rcases hE E u hR with rfl | rfl | rfl
    · refine vx_catch (own := RL) (name := "java/lang/IllegalArgumentException") (E := "java/lang/IllegalArgumentException") hown [] ⟨0, 10, 13, 13⟩ [⟨0, 10, 17, 19⟩, ⟨0, 10, 21, 26⟩] (by rw [hTab]; rfl) (fun z hz => nomatch hz) (by decide) (by decide) (hts (.classLink RL 13 "java/lang/IllegalArgumentException") (by decide +kernel)) (va_Nw.use rfl hN.2.2.2.2.2.1.1) hce hcv hcl ?_
      refine lv_astore (lv' := [(4, .ref qx9), (0, .ref x), (1, .int p1), (2, .int p2), (3, .ref o)]) hx hb dL_about_13 hl (by decide) rfl (fun ls hl => ?_)
      refine lv_iconst (v := 1) hx hb dL_about_15 (by decide) ?_
      refine W.widen (k := 2) (n := 12) (Nat.le_of_ble_eq_true rfl) (Nat.le_of_ble_eq_true rfl) ?_
      exact W.iret (v := (1 : Int32)) hx hb hr (fun t ht hW => ⟨⟨(1 : Int32), (u, f), rfl, Or.inr (Or.inl ⟨rfl, hR, rfl⟩), by rw [ht]; exact hP, va_K.moved hW.alike hK4, hD⟩, hS.F ht⟩) hS.2.2 dL_about_16
    · refine vx_catch (own := RL) (name := "java/lang/IllegalStateException") (E := "java/lang/IllegalStateException") hown [⟨0, 10, 13, 13⟩] ⟨0, 10, 17, 19⟩ [⟨0, 10, 21, 26⟩] (by rw [hTab]; rfl) (by
        intro z hz
        rcases List.mem_cons.mp hz with rfl | hz
        · exact Or.inr ⟨by decide, "java/lang/IllegalArgumentException", hts (.classLink RL 13 "java/lang/IllegalArgumentException") (by decide +kernel), hN.2.2.2.2.2.2.2.1.2.2.2.2.1⟩
        cases hz) (by decide) (by decide) (hts (.classLink RL 19 "java/lang/IllegalStateException") (by decide +kernel)) (va_Nw.use rfl hN.2.2.2.2.2.1.2.1) hce hcv hcl ?_
      refine lv_astore (lv' := [(4, .ref qx9), (0, .ref x), (1, .int p1), (2, .int p2), (3, .ref o)]) hx hb dL_about_17 hl (by decide) rfl (fun ls hl => ?_)
      refine lv_iconst (v := 2) hx hb dL_about_19 (by decide) ?_
      refine W.widen (k := 2) (n := 12) (Nat.le_of_ble_eq_true rfl) (Nat.le_of_ble_eq_true rfl) ?_
      exact W.iret (v := (2 : Int32)) hx hb hr (fun t ht hW => ⟨⟨(2 : Int32), (u, f), rfl, Or.inr (Or.inr (Or.inl ⟨rfl, hR, rfl⟩)), by rw [ht]; exact hP, va_K.moved hW.alike hK4, hD⟩, hS.F ht⟩) hS.2.2 dL_about_20
    · refine vx_catch (own := RL) (name := "java/util/NoSuchElementException") (E := "java/util/NoSuchElementException") hown [⟨0, 10, 13, 13⟩, ⟨0, 10, 17, 19⟩] ⟨0, 10, 21, 26⟩ [] (by rw [hTab]; rfl) (by
        intro z hz
        rcases List.mem_cons.mp hz with rfl | hz
        · exact Or.inr ⟨by decide, "java/lang/IllegalArgumentException", hts (.classLink RL 13 "java/lang/IllegalArgumentException") (by decide +kernel), hN.2.2.2.2.2.2.2.1.2.2.2.2.2.2.2.2.2.2.2.2.2.2.2.2.1⟩
        rcases List.mem_cons.mp hz with rfl | hz
        · exact Or.inr ⟨by decide, "java/lang/IllegalStateException", hts (.classLink RL 19 "java/lang/IllegalStateException") (by decide +kernel), hN.2.2.2.2.2.2.2.1.2.2.2.2.2.2.2.2.2.2.2.2.2.2.2.2.2.1⟩
        cases hz) (by decide) (by decide) (hts (.classLink RL 26 "java/util/NoSuchElementException") (by decide +kernel)) (va_Nw.use rfl hN.2.2.2.2.2.1.2.2.2.2.1) hce hcv hcl ?_
      refine lv_astore (lv' := [(4, .ref qx9), (0, .ref x), (1, .int p1), (2, .int p2), (3, .ref o)]) hx hb dL_about_21 hl (by decide) rfl (fun ls hl => ?_)
      refine lv_iconst (v := 3) hx hb dL_about_23 (by decide) ?_
      refine W.widen (k := 2) (n := 12) (Nat.le_of_ble_eq_true rfl) (Nat.le_of_ble_eq_true rfl) ?_
      exact W.iret (v := (3 : Int32)) hx hb hr (fun t ht hW => ⟨⟨(3 : Int32), (u, f), rfl, Or.inr (Or.inr (Or.inr (⟨rfl, hR, rfl⟩))), by rw [ht]; exact hP, va_K.moved hW.alike hK4, hD⟩, hS.F ht⟩) hS.2.2 dL_about_24
  · obtain ⟨hP1, hK1, hD1⟩ := hB
    rw [ht] at hP1
    obtain ⟨hP, hD⟩ := zz_joinB (wr := [(o, .inl (cJ, 1, .inr (.inl f)))]) hP hD hk1 hFc hP1 hD1
    refine lv_i2l hx hb dL_about_8 rfl ?_
    refine va_last hx hb hK hP hD hS 0 1 rfl rfl (i := (0 : Int32)) (show ¬ ((0 : Int32) < 0 ∨ 1 ≤ (0 : Int32).toNatClampNeg) by decide) dL_about_9 (fun H locs hP hD hS => ?_)
    have hP : va_P (dC, dI) vwCl ((o, .inl (cJ, 1, .inr (.inl (vp_updL f (0 : Int32).toNatClampNeg r.toInt64)))) :: u) _ := hP
    have hD : va_D A ((o, .inl (cJ, 1, .inr (.inl (vp_updL f (0 : Int32).toNatClampNeg r.toInt64)))) :: u) := hD
    refine lv_goto (tgt := 25) hx hb dL_about_10 (by decide) ?_
    refine lv_iconst (v := 0) hx hb dL_about_25 (by decide) ?_
    refine W.widen (k := 2) (n := 12) (Nat.le_of_ble_eq_true rfl) (Nat.le_of_ble_eq_true rfl) ?_
    exact W.iret (v := (0 : Int32)) hx hb hr (fun t ht hW => ⟨⟨(0 : Int32), (u, vp_updL f (0 : Int32).toNatClampNeg r.toInt64), rfl, Or.inl ⟨rfl, r, hw, rfl⟩, by rw [ht]; exact hP, va_K.moved hW.alike hK4, hD⟩, hS.F ht⟩) hS.2.2 dL_about_26
abbrev rm_L_at : Room := { frames := 8, cells := 1, slots := 6, locals := 132 }
set_option maxHeartbeats 4000000 in
set_option maxRecDepth 100000 in
theorem cl_at (l : Launch) (hl9 : l.stackTraces = false) (dC : Nat → ClassId) (dI : Nat → Nat → Nat) (cI cJ cZ cF : ClassId) (x : Nat) (wX : va_W) (fs : List Value) (hx0 : wX[0]? = some (x, .inr (10, fs))) (p1 : Int32) (Rn : Int32 → va_W → Prop) (Rx : String → va_W → Prop) (hM : zz_CXi l yX11_at wsX11_at rm_X11_at dC dI cI cJ cZ cF x wX [.int p1] 1 6 Rn Rx) (hE : ∀ (E : String) (w : va_W), Rx E w → E = "java/lang/IllegalArgumentException" ∨ E = "java/lang/IllegalStateException") (o : Nat) (f : Nat → Int64) (sz : Nat) : Met l yL_at wsL_at rm_L_at (zz_prx dC dI [(cI, .int), (cJ, .long), (cZ, .boolean), (cF, .object "RoomForms$Form")] ((o, .inl (cJ, 1, .inr (.inl f))) :: wX) sz [.ref x, .int p1, .ref o]) (va_Qi (fun k (u : va_W × (Nat → Int64)) => (k = 0 ∧ ∃ r : Int32, Rn r u.1 ∧ u.2 = vp_updL f (0 : Int32).toNatClampNeg r.toInt64) ∨ (k = 1 ∧ Rx "java/lang/IllegalArgumentException" u.1 ∧ u.2 = f) ∨ (k = 2 ∧ Rx "java/lang/IllegalStateException" u.1 ∧ u.2 = f)) (fun u t => zz_wo dC dI [(cI, .int), (cJ, .long), (cZ, .boolean), (cF, .object "RoomForms$Form")] (va_A ((o, .inl (cJ, 1, .inr (.inl f))) :: wX) sz) ((o, .inl (cJ, 1, .inr (.inl u.2))) :: u.1) t) (va_A ((o, .inl (cJ, 1, .inr (.inl f))) :: wX) sz)) 1 6 (va_A ((o, .inl (cJ, 1, .inr (.inl f))) :: wX) sz) := by
  refine va_MetW (cc := cL_at) (maxL := 4) (ret := (some .int)) (by decide) rfl ?_
  intro p e s m args below meth c s₁ B hml hv
  obtain ⟨rfl, hsz, hP, hK4, hD0, hN, hU, hQ⟩ := hv
  have hK := hK4.sub (tys' := [(cI, .int), (cJ, .long), (cZ, .boolean)]) [0, 1, 2] rfl
  have hx := B.exec
  have hb := B.bytes
  have hr := B.returns
  have hts := atoms_spec (ws := wsL_at) B.pre
  have hown : s.vm.findClass RL = some m.cls := findClass_of_methodNamed B.named
  have hlocks := B.notSynchronized
  have hTab : c.exceptionTable.toList = tableOf [(0, 9, 12, 13), (0, 9, 15, 19)] := vx_table (x := yL_at) B (hts (.codeWith yL_at cL_at 4 (some .int) [(0, 9, 12, 13), (0, 9, 15, 19)]) (by decide +kernel))
  have hS0 : CallFix p m c cL_at 4 s #[.ref x, .int p1, .ref o] wsL_at RL := ⟨hx, hb, hml, hown, hts⟩
  subst hsz
  have hD := hD0.self (sz := s.heap.size)
  generalize hAe : va_A ((o, .inl (cJ, 1, .inr (.inl f))) :: wX) s.heap.size = A at hD hU hQ ⊢
  have hA : ∀ q : Nat, s.heap.size ≤ q → A q := fun q h => by rw [← hAe]; exact Or.inr h
  have hS : va_S A s.heap s.heap [] := va_S.rf
  have hl := lv_entry ([.ref x, .int p1, .ref o]) (n := 4) (Nat.le_of_ble_eq_true rfl)
  rw [lg_entry_eq]
  generalize (lg_sl ([.ref x, .int p1, .ref o]) ++ List.replicate (4 - (lg_sl ([.ref x, .int p1, .ref o])).length) Slot.unset).toArray = ls at hl ⊢
  have hl : lv_has ls 4 [(0, .ref x), (1, .int p1), (2, .ref o)] := hl
  refine lv_aload_n hx hb dL_at_0 rfl (lv_at hl 2 rfl) ?_
  refine lv_iconst (v := 0) hx hb dL_at_1 (by decide) ?_
  refine lv_aload_n hx hb dL_at_2 rfl (lv_at hl 0 rfl) ?_
  refine lv_iload_n hx hb dL_at_3 rfl (lv_at hl 1 rfl) ?_
  have hPc : va_P (dC, dI) vwCl wX s.heap := zz_Pr (a := [(o, .inl (cJ, 1, .inr (.inl f)))]) hP
  have hDc : va_D A wX := zz_Dr (a := [(o, .inl (cJ, 1, .inr (.inl f)))]) hD
  have hFc := zz_freeW hDc hS hA
  refine vx_calli (vx_runV (As := [.int p1]) (rest := [.int (0 : Int32), .ref o]) hS0 (hM _) (cwV 1 hts gL_at_X11_at rfl rfl rfl (by decide +kernel) ⟨(Nat.le_of_ble_eq_true rfl), (Nat.le_of_ble_eq_true rfl)⟩) (zz_pvx hK4 hPc hDc hN hU hQ hS hFc (zz_recv hK4 hPc hx0)) rfl rfl hl.1 rfl (lv_room (Nat.le_of_ble_eq_true rfl)) dL_at_4 ⟨(Nat.le_of_ble_eq_true rfl), (Nat.le_of_ble_eq_true rfl)⟩) hS (fun q _ h => hFc q h) hFc (fun q _ h => hFc q h) (fun E ce qx9 u t H1 locs ht hvm hw hB hz1 hk1 hS hce hcv hcl => ?_) (fun r u t H1 locs ht hvm hw hB hz1 hk1 hS => ?_)
  · obtain ⟨hR, hP1, hK1, hD1⟩ := hB
    rw [ht] at hP1
    obtain ⟨hP, hD⟩ := zz_joinB (wr := [(o, .inl (cJ, 1, .inr (.inl f)))]) hP hD hk1 hFc hP1 hD1
    rcases hE E u hR with rfl | rfl
    · refine vx_catch (own := RL) (name := "java/lang/IllegalArgumentException") (E := "java/lang/IllegalArgumentException") hown [] ⟨0, 9, 12, 13⟩ [⟨0, 9, 15, 19⟩] (by rw [hTab]; rfl) (fun z hz => nomatch hz) (by decide) (by decide) (hts (.classLink RL 13 "java/lang/IllegalArgumentException") (by decide +kernel)) (va_Nw.use rfl hN.2.2.2.2.2.1.1) hce hcv hcl ?_
      refine lv_astore_n (lv' := [(3, .ref qx9), (0, .ref x), (1, .int p1), (2, .ref o)]) hx hb dL_at_12 rfl hl (by decide) rfl (fun ls hl => ?_)
      refine lv_iconst (v := 1) hx hb dL_at_13 (by decide) ?_
      refine W.widen (k := 1) (n := 6) (Nat.le_of_ble_eq_true rfl) (Nat.le_of_ble_eq_true rfl) ?_
      exact W.iret (v := (1 : Int32)) hx hb hr (fun t ht hW => ⟨⟨(1 : Int32), (u, f), rfl, Or.inr (Or.inl ⟨rfl, hR, rfl⟩), by rw [ht]; exact hP, va_K.moved hW.alike hK4, hD⟩, hS.F ht⟩) hS.2.2 dL_at_14
    · refine vx_catch (own := RL) (name := "java/lang/IllegalStateException") (E := "java/lang/IllegalStateException") hown [⟨0, 9, 12, 13⟩] ⟨0, 9, 15, 19⟩ [] (by rw [hTab]; rfl) (by
        intro z hz
        rcases List.mem_cons.mp hz with rfl | hz
        · exact Or.inr ⟨by decide, "java/lang/IllegalArgumentException", hts (.classLink RL 13 "java/lang/IllegalArgumentException") (by decide +kernel), hN.2.2.2.2.2.2.2.1.2.2.2.2.1⟩
        cases hz) (by decide) (by decide) (hts (.classLink RL 19 "java/lang/IllegalStateException") (by decide +kernel)) (va_Nw.use rfl hN.2.2.2.2.2.1.2.1) hce hcv hcl ?_
      refine lv_astore_n (lv' := [(3, .ref qx9), (0, .ref x), (1, .int p1), (2, .ref o)]) hx hb dL_at_15 rfl hl (by decide) rfl (fun ls hl => ?_)
      refine lv_iconst (v := 2) hx hb dL_at_16 (by decide) ?_
      refine W.widen (k := 1) (n := 6) (Nat.le_of_ble_eq_true rfl) (Nat.le_of_ble_eq_true rfl) ?_
      exact W.iret (v := (2 : Int32)) hx hb hr (fun t ht hW => ⟨⟨(2 : Int32), (u, f), rfl, Or.inr (Or.inr (⟨rfl, hR, rfl⟩)), by rw [ht]; exact hP, va_K.moved hW.alike hK4, hD⟩, hS.F ht⟩) hS.2.2 dL_at_17
  · obtain ⟨hP1, hK1, hD1⟩ := hB
    rw [ht] at hP1
    obtain ⟨hP, hD⟩ := zz_joinB (wr := [(o, .inl (cJ, 1, .inr (.inl f)))]) hP hD hk1 hFc hP1 hD1
    refine lv_i2l hx hb dL_at_7 rfl ?_
    refine va_last hx hb hK hP hD hS 0 1 rfl rfl (i := (0 : Int32)) (show ¬ ((0 : Int32) < 0 ∨ 1 ≤ (0 : Int32).toNatClampNeg) by decide) dL_at_8 (fun H locs hP hD hS => ?_)
    have hP : va_P (dC, dI) vwCl ((o, .inl (cJ, 1, .inr (.inl (vp_updL f (0 : Int32).toNatClampNeg r.toInt64)))) :: u) _ := hP
    have hD : va_D A ((o, .inl (cJ, 1, .inr (.inl (vp_updL f (0 : Int32).toNatClampNeg r.toInt64)))) :: u) := hD
    refine lv_goto (tgt := 18) hx hb dL_at_9 (by decide) ?_
    refine lv_iconst (v := 0) hx hb dL_at_18 (by decide) ?_
    refine W.widen (k := 1) (n := 6) (Nat.le_of_ble_eq_true rfl) (Nat.le_of_ble_eq_true rfl) ?_
    exact W.iret (v := (0 : Int32)) hx hb hr (fun t ht hW => ⟨⟨(0 : Int32), (u, vp_updL f (0 : Int32).toNatClampNeg r.toInt64), rfl, Or.inl ⟨rfl, r, hw, rfl⟩, by rw [ht]; exact hP, va_K.moved hW.alike hK4, hD⟩, hS.F ht⟩) hS.2.2 dL_at_19
abbrev rm_L_run : Room := { frames := 8, cells := 2, slots := 12, locals := 133 }
set_option maxHeartbeats 4000000 in
set_option maxRecDepth 100000 in
theorem cl_run (l : Launch) (hl9 : l.stackTraces = false) (dC : Nat → ClassId) (dI : Nat → Nat → Nat) (cI cJ cZ cF : ClassId) (x : Nat) (wX : va_W) (fs : List Value) (hx0 : wX[0]? = some (x, .inr (10, fs))) (p1 : Int32) (p2 : Int32) (Rn : Int32 → va_W → Prop) (Rx : String → va_W → Prop) (hM : zz_CXi l yX11_run wsX11_run rm_X11_run dC dI cI cJ cZ cF x wX [.int p1, .int p2] 2 12 Rn Rx) (hE : ∀ (E : String) (w : va_W), Rx E w → E = "java/lang/IllegalArgumentException" ∨ E = "java/lang/IllegalStateException" ∨ E = "java/lang/IndexOutOfBoundsException") (o : Nat) (f : Nat → Int64) (sz : Nat) : Met l yL_run wsL_run rm_L_run (zz_prx dC dI [(cI, .int), (cJ, .long), (cZ, .boolean), (cF, .object "RoomForms$Form")] ((o, .inl (cJ, 1, .inr (.inl f))) :: wX) sz [.ref x, .int p1, .int p2, .ref o]) (va_Qi (fun k (u : va_W × (Nat → Int64)) => (k = 0 ∧ ∃ r : Int32, Rn r u.1 ∧ u.2 = vp_updL f (0 : Int32).toNatClampNeg r.toInt64) ∨ (k = 1 ∧ Rx "java/lang/IllegalArgumentException" u.1 ∧ u.2 = f) ∨ (k = 2 ∧ Rx "java/lang/IllegalStateException" u.1 ∧ u.2 = f) ∨ (k = 3 ∧ Rx "java/lang/IndexOutOfBoundsException" u.1 ∧ u.2 = f)) (fun u t => zz_wo dC dI [(cI, .int), (cJ, .long), (cZ, .boolean), (cF, .object "RoomForms$Form")] (va_A ((o, .inl (cJ, 1, .inr (.inl f))) :: wX) sz) ((o, .inl (cJ, 1, .inr (.inl u.2))) :: u.1) t) (va_A ((o, .inl (cJ, 1, .inr (.inl f))) :: wX) sz)) 2 12 (va_A ((o, .inl (cJ, 1, .inr (.inl f))) :: wX) sz) := by
  refine va_MetW (cc := cL_run) (maxL := 5) (ret := (some .int)) (by decide) rfl ?_
  intro p e s m args below meth c s₁ B hml hv
  obtain ⟨rfl, hsz, hP, hK4, hD0, hN, hU, hQ⟩ := hv
  have hK := hK4.sub (tys' := [(cI, .int), (cJ, .long), (cZ, .boolean)]) [0, 1, 2] rfl
  have hx := B.exec
  have hb := B.bytes
  have hr := B.returns
  have hts := atoms_spec (ws := wsL_run) B.pre
  have hown : s.vm.findClass RL = some m.cls := findClass_of_methodNamed B.named
  have hlocks := B.notSynchronized
  have hTab : c.exceptionTable.toList = tableOf [(0, 10, 13, 13), (0, 10, 17, 19), (0, 10, 21, 21)] := vx_table (x := yL_run) B (hts (.codeWith yL_run cL_run 5 (some .int) [(0, 10, 13, 13), (0, 10, 17, 19), (0, 10, 21, 21)]) (by decide +kernel))
  have hS0 : CallFix p m c cL_run 5 s #[.ref x, .int p1, .int p2, .ref o] wsL_run RL := ⟨hx, hb, hml, hown, hts⟩
  subst hsz
  have hD := hD0.self (sz := s.heap.size)
  generalize hAe : va_A ((o, .inl (cJ, 1, .inr (.inl f))) :: wX) s.heap.size = A at hD hU hQ ⊢
  have hA : ∀ q : Nat, s.heap.size ≤ q → A q := fun q h => by rw [← hAe]; exact Or.inr h
  have hS : va_S A s.heap s.heap [] := va_S.rf
  have hl := lv_entry ([.ref x, .int p1, .int p2, .ref o]) (n := 5) (Nat.le_of_ble_eq_true rfl)
  rw [lg_entry_eq]
  generalize (lg_sl ([.ref x, .int p1, .int p2, .ref o]) ++ List.replicate (5 - (lg_sl ([.ref x, .int p1, .int p2, .ref o])).length) Slot.unset).toArray = ls at hl ⊢
  have hl : lv_has ls 5 [(0, .ref x), (1, .int p1), (2, .int p2), (3, .ref o)] := hl
  refine lv_aload_n hx hb dL_run_0 rfl (lv_at hl 3 rfl) ?_
  refine lv_iconst (v := 0) hx hb dL_run_1 (by decide) ?_
  refine lv_aload_n hx hb dL_run_2 rfl (lv_at hl 0 rfl) ?_
  refine lv_iload_n hx hb dL_run_3 rfl (lv_at hl 1 rfl) ?_
  refine lv_iload_n hx hb dL_run_4 rfl (lv_at hl 2 rfl) ?_
  have hPc : va_P (dC, dI) vwCl wX s.heap := zz_Pr (a := [(o, .inl (cJ, 1, .inr (.inl f)))]) hP
  have hDc : va_D A wX := zz_Dr (a := [(o, .inl (cJ, 1, .inr (.inl f)))]) hD
  have hFc := zz_freeW hDc hS hA
  refine vx_calli (vx_runV (As := [.int p1, .int p2]) (rest := [.int (0 : Int32), .ref o]) hS0 (hM _) (cwV 2 hts gL_run_X11_run rfl rfl rfl (by decide +kernel) ⟨(Nat.le_of_ble_eq_true rfl), (Nat.le_of_ble_eq_true rfl)⟩) (zz_pvx hK4 hPc hDc hN hU hQ hS hFc (zz_recv hK4 hPc hx0)) rfl rfl hl.1 rfl (lv_room (Nat.le_of_ble_eq_true rfl)) dL_run_5 ⟨(Nat.le_of_ble_eq_true rfl), (Nat.le_of_ble_eq_true rfl)⟩) hS (fun q _ h => hFc q h) hFc (fun q _ h => hFc q h) (fun E ce qx9 u t H1 locs ht hvm hw hB hz1 hk1 hS hce hcv hcl => ?_) (fun r u t H1 locs ht hvm hw hB hz1 hk1 hS => ?_)
  · obtain ⟨hR, hP1, hK1, hD1⟩ := hB
    rw [ht] at hP1
    obtain ⟨hP, hD⟩ := zz_joinB (wr := [(o, .inl (cJ, 1, .inr (.inl f)))]) hP hD hk1 hFc hP1 hD1
    rcases hE E u hR with rfl | rfl | rfl
    · refine vx_catch (own := RL) (name := "java/lang/IllegalArgumentException") (E := "java/lang/IllegalArgumentException") hown [] ⟨0, 10, 13, 13⟩ [⟨0, 10, 17, 19⟩, ⟨0, 10, 21, 21⟩] (by rw [hTab]; rfl) (fun z hz => nomatch hz) (by decide) (by decide) (hts (.classLink RL 13 "java/lang/IllegalArgumentException") (by decide +kernel)) (va_Nw.use rfl hN.2.2.2.2.2.1.1) hce hcv hcl ?_
      refine lv_astore (lv' := [(4, .ref qx9), (0, .ref x), (1, .int p1), (2, .int p2), (3, .ref o)]) hx hb dL_run_13 hl (by decide) rfl (fun ls hl => ?_)
      refine lv_iconst (v := 1) hx hb dL_run_15 (by decide) ?_
      refine W.widen (k := 2) (n := 12) (Nat.le_of_ble_eq_true rfl) (Nat.le_of_ble_eq_true rfl) ?_
      exact W.iret (v := (1 : Int32)) hx hb hr (fun t ht hW => ⟨⟨(1 : Int32), (u, f), rfl, Or.inr (Or.inl ⟨rfl, hR, rfl⟩), by rw [ht]; exact hP, va_K.moved hW.alike hK4, hD⟩, hS.F ht⟩) hS.2.2 dL_run_16
    · refine vx_catch (own := RL) (name := "java/lang/IllegalStateException") (E := "java/lang/IllegalStateException") hown [⟨0, 10, 13, 13⟩] ⟨0, 10, 17, 19⟩ [⟨0, 10, 21, 21⟩] (by rw [hTab]; rfl) (by
        intro z hz
        rcases List.mem_cons.mp hz with rfl | hz
        · exact Or.inr ⟨by decide, "java/lang/IllegalArgumentException", hts (.classLink RL 13 "java/lang/IllegalArgumentException") (by decide +kernel), hN.2.2.2.2.2.2.2.1.2.2.2.2.1⟩
        cases hz) (by decide) (by decide) (hts (.classLink RL 19 "java/lang/IllegalStateException") (by decide +kernel)) (va_Nw.use rfl hN.2.2.2.2.2.1.2.1) hce hcv hcl ?_
      refine lv_astore (lv' := [(4, .ref qx9), (0, .ref x), (1, .int p1), (2, .int p2), (3, .ref o)]) hx hb dL_run_17 hl (by decide) rfl (fun ls hl => ?_)
      refine lv_iconst (v := 2) hx hb dL_run_19 (by decide) ?_
      refine W.widen (k := 2) (n := 12) (Nat.le_of_ble_eq_true rfl) (Nat.le_of_ble_eq_true rfl) ?_
      exact W.iret (v := (2 : Int32)) hx hb hr (fun t ht hW => ⟨⟨(2 : Int32), (u, f), rfl, Or.inr (Or.inr (Or.inl ⟨rfl, hR, rfl⟩)), by rw [ht]; exact hP, va_K.moved hW.alike hK4, hD⟩, hS.F ht⟩) hS.2.2 dL_run_20
    · refine vx_catch (own := RL) (name := "java/lang/IndexOutOfBoundsException") (E := "java/lang/IndexOutOfBoundsException") hown [⟨0, 10, 13, 13⟩, ⟨0, 10, 17, 19⟩] ⟨0, 10, 21, 21⟩ [] (by rw [hTab]; rfl) (by
        intro z hz
        rcases List.mem_cons.mp hz with rfl | hz
        · exact Or.inr ⟨by decide, "java/lang/IllegalArgumentException", hts (.classLink RL 13 "java/lang/IllegalArgumentException") (by decide +kernel), hN.2.2.2.2.2.2.2.1.2.2.2.2.2.2.2.2.1⟩
        rcases List.mem_cons.mp hz with rfl | hz
        · exact Or.inr ⟨by decide, "java/lang/IllegalStateException", hts (.classLink RL 19 "java/lang/IllegalStateException") (by decide +kernel), hN.2.2.2.2.2.2.2.1.2.2.2.2.2.2.2.2.2.1⟩
        cases hz) (by decide) (by decide) (hts (.classLink RL 21 "java/lang/IndexOutOfBoundsException") (by decide +kernel)) (va_Nw.use rfl hN.2.2.2.2.2.1.2.2.1) hce hcv hcl ?_
      refine lv_astore (lv' := [(4, .ref qx9), (0, .ref x), (1, .int p1), (2, .int p2), (3, .ref o)]) hx hb dL_run_21 hl (by decide) rfl (fun ls hl => ?_)
      refine lv_iconst (v := 3) hx hb dL_run_23 (by decide) ?_
      refine W.widen (k := 2) (n := 12) (Nat.le_of_ble_eq_true rfl) (Nat.le_of_ble_eq_true rfl) ?_
      exact W.iret (v := (3 : Int32)) hx hb hr (fun t ht hW => ⟨⟨(3 : Int32), (u, f), rfl, Or.inr (Or.inr (Or.inr (⟨rfl, hR, rfl⟩))), by rw [ht]; exact hP, va_K.moved hW.alike hK4, hD⟩, hS.F ht⟩) hS.2.2 dL_run_24
  · obtain ⟨hP1, hK1, hD1⟩ := hB
    rw [ht] at hP1
    obtain ⟨hP, hD⟩ := zz_joinB (wr := [(o, .inl (cJ, 1, .inr (.inl f)))]) hP hD hk1 hFc hP1 hD1
    refine lv_i2l hx hb dL_run_8 rfl ?_
    refine va_last hx hb hK hP hD hS 0 1 rfl rfl (i := (0 : Int32)) (show ¬ ((0 : Int32) < 0 ∨ 1 ≤ (0 : Int32).toNatClampNeg) by decide) dL_run_9 (fun H locs hP hD hS => ?_)
    have hP : va_P (dC, dI) vwCl ((o, .inl (cJ, 1, .inr (.inl (vp_updL f (0 : Int32).toNatClampNeg r.toInt64)))) :: u) _ := hP
    have hD : va_D A ((o, .inl (cJ, 1, .inr (.inl (vp_updL f (0 : Int32).toNatClampNeg r.toInt64)))) :: u) := hD
    refine lv_goto (tgt := 25) hx hb dL_run_10 (by decide) ?_
    refine lv_iconst (v := 0) hx hb dL_run_25 (by decide) ?_
    refine W.widen (k := 2) (n := 12) (Nat.le_of_ble_eq_true rfl) (Nat.le_of_ble_eq_true rfl) ?_
    exact W.iret (v := (0 : Int32)) hx hb hr (fun t ht hW => ⟨⟨(0 : Int32), (u, vp_updL f (0 : Int32).toNatClampNeg r.toInt64), rfl, Or.inl ⟨rfl, r, hw, rfl⟩, by rw [ht]; exact hP, va_K.moved hW.alike hK4, hD⟩, hS.F ht⟩) hS.2.2 dL_run_26
abbrev rm_L_list : Room := { frames := 8, cells := 2, slots := 12, locals := 133 }
set_option maxHeartbeats 4000000 in
set_option maxRecDepth 100000 in
theorem cl_list (l : Launch) (hl9 : l.stackTraces = false) (dC : Nat → ClassId) (dI : Nat → Nat → Nat) (cI cJ cZ cF : ClassId) (x : Nat) (wX : va_W) (fs : List Value) (hx0 : wX[0]? = some (x, .inr (10, fs))) (p1 : Int32) (p2 : Int32) (Rn : Int32 → va_W → Prop) (Rx : String → va_W → Prop) (hM : zz_CXi l yX11_list wsX11_list rm_X11_list dC dI cI cJ cZ cF x wX [.int p1, .int p2] 2 12 Rn Rx) (hE : ∀ (E : String) (w : va_W), Rx E w → E = "java/lang/IllegalArgumentException" ∨ E = "java/lang/IllegalStateException" ∨ E = "java/lang/UnsupportedOperationException" ∨ E = "java/lang/IndexOutOfBoundsException") (o : Nat) (f : Nat → Int64) (sz : Nat) : Met l yL_list wsL_list rm_L_list (zz_prx dC dI [(cI, .int), (cJ, .long), (cZ, .boolean), (cF, .object "RoomForms$Form")] ((o, .inl (cJ, 1, .inr (.inl f))) :: wX) sz [.ref x, .int p1, .int p2, .ref o]) (va_Qi (fun k (u : va_W × (Nat → Int64)) => (k = 0 ∧ ∃ r : Int32, Rn r u.1 ∧ u.2 = vp_updL f (0 : Int32).toNatClampNeg r.toInt64) ∨ (k = 1 ∧ Rx "java/lang/IllegalArgumentException" u.1 ∧ u.2 = f) ∨ (k = 2 ∧ Rx "java/lang/IllegalStateException" u.1 ∧ u.2 = f) ∨ (k = 3 ∧ Rx "java/lang/UnsupportedOperationException" u.1 ∧ u.2 = f) ∨ (k = 4 ∧ Rx "java/lang/IndexOutOfBoundsException" u.1 ∧ u.2 = f)) (fun u t => zz_wo dC dI [(cI, .int), (cJ, .long), (cZ, .boolean), (cF, .object "RoomForms$Form")] (va_A ((o, .inl (cJ, 1, .inr (.inl f))) :: wX) sz) ((o, .inl (cJ, 1, .inr (.inl u.2))) :: u.1) t) (va_A ((o, .inl (cJ, 1, .inr (.inl f))) :: wX) sz)) 2 12 (va_A ((o, .inl (cJ, 1, .inr (.inl f))) :: wX) sz) := by
  refine va_MetW (cc := cL_list) (maxL := 5) (ret := (some .int)) (by decide) rfl ?_
  intro p e s m args below meth c s₁ B hml hv
  obtain ⟨rfl, hsz, hP, hK4, hD0, hN, hU, hQ⟩ := hv
  have hK := hK4.sub (tys' := [(cI, .int), (cJ, .long), (cZ, .boolean)]) [0, 1, 2] rfl
  have hx := B.exec
  have hb := B.bytes
  have hr := B.returns
  have hts := atoms_spec (ws := wsL_list) B.pre
  have hown : s.vm.findClass RL = some m.cls := findClass_of_methodNamed B.named
  have hlocks := B.notSynchronized
  have hTab : c.exceptionTable.toList = tableOf [(0, 10, 13, 13), (0, 10, 17, 19), (0, 10, 21, 41), (0, 10, 25, 21)] := vx_table (x := yL_list) B (hts (.codeWith yL_list cL_list 5 (some .int) [(0, 10, 13, 13), (0, 10, 17, 19), (0, 10, 21, 41), (0, 10, 25, 21)]) (by decide +kernel))
  have hS0 : CallFix p m c cL_list 5 s #[.ref x, .int p1, .int p2, .ref o] wsL_list RL := ⟨hx, hb, hml, hown, hts⟩
  subst hsz
  have hD := hD0.self (sz := s.heap.size)
  generalize hAe : va_A ((o, .inl (cJ, 1, .inr (.inl f))) :: wX) s.heap.size = A at hD hU hQ ⊢
  have hA : ∀ q : Nat, s.heap.size ≤ q → A q := fun q h => by rw [← hAe]; exact Or.inr h
  have hS : va_S A s.heap s.heap [] := va_S.rf
  have hl := lv_entry ([.ref x, .int p1, .int p2, .ref o]) (n := 5) (Nat.le_of_ble_eq_true rfl)
  rw [lg_entry_eq]
  generalize (lg_sl ([.ref x, .int p1, .int p2, .ref o]) ++ List.replicate (5 - (lg_sl ([.ref x, .int p1, .int p2, .ref o])).length) Slot.unset).toArray = ls at hl ⊢
  have hl : lv_has ls 5 [(0, .ref x), (1, .int p1), (2, .int p2), (3, .ref o)] := hl
  refine lv_aload_n hx hb dL_list_0 rfl (lv_at hl 3 rfl) ?_
  refine lv_iconst (v := 0) hx hb dL_list_1 (by decide) ?_
  refine lv_aload_n hx hb dL_list_2 rfl (lv_at hl 0 rfl) ?_
  refine lv_iload_n hx hb dL_list_3 rfl (lv_at hl 1 rfl) ?_
  refine lv_iload_n hx hb dL_list_4 rfl (lv_at hl 2 rfl) ?_
  have hPc : va_P (dC, dI) vwCl wX s.heap := zz_Pr (a := [(o, .inl (cJ, 1, .inr (.inl f)))]) hP
  have hDc : va_D A wX := zz_Dr (a := [(o, .inl (cJ, 1, .inr (.inl f)))]) hD
  have hFc := zz_freeW hDc hS hA
  refine vx_calli (vx_runV (As := [.int p1, .int p2]) (rest := [.int (0 : Int32), .ref o]) hS0 (hM _) (cwV 2 hts gL_list_X11_list rfl rfl rfl (by decide +kernel) ⟨(Nat.le_of_ble_eq_true rfl), (Nat.le_of_ble_eq_true rfl)⟩) (zz_pvx hK4 hPc hDc hN hU hQ hS hFc (zz_recv hK4 hPc hx0)) rfl rfl hl.1 rfl (lv_room (Nat.le_of_ble_eq_true rfl)) dL_list_5 ⟨(Nat.le_of_ble_eq_true rfl), (Nat.le_of_ble_eq_true rfl)⟩) hS (fun q _ h => hFc q h) hFc (fun q _ h => hFc q h) (fun E ce qx9 u t H1 locs ht hvm hw hB hz1 hk1 hS hce hcv hcl => ?_) (fun r u t H1 locs ht hvm hw hB hz1 hk1 hS => ?_)
  · obtain ⟨hR, hP1, hK1, hD1⟩ := hB
    rw [ht] at hP1
    obtain ⟨hP, hD⟩ := zz_joinB (wr := [(o, .inl (cJ, 1, .inr (.inl f)))]) hP hD hk1 hFc hP1 hD1
    rcases hE E u hR with rfl | rfl | rfl | rfl
    · refine vx_catch (own := RL) (name := "java/lang/IllegalArgumentException") (E := "java/lang/IllegalArgumentException") hown [] ⟨0, 10, 13, 13⟩ [⟨0, 10, 17, 19⟩, ⟨0, 10, 21, 41⟩, ⟨0, 10, 25, 21⟩] (by rw [hTab]; rfl) (fun z hz => nomatch hz) (by decide) (by decide) (hts (.classLink RL 13 "java/lang/IllegalArgumentException") (by decide +kernel)) (va_Nw.use rfl hN.2.2.2.2.2.1.1) hce hcv hcl ?_
      refine lv_astore (lv' := [(4, .ref qx9), (0, .ref x), (1, .int p1), (2, .int p2), (3, .ref o)]) hx hb dL_list_13 hl (by decide) rfl (fun ls hl => ?_)
      refine lv_iconst (v := 1) hx hb dL_list_15 (by decide) ?_
      refine W.widen (k := 2) (n := 12) (Nat.le_of_ble_eq_true rfl) (Nat.le_of_ble_eq_true rfl) ?_
      exact W.iret (v := (1 : Int32)) hx hb hr (fun t ht hW => ⟨⟨(1 : Int32), (u, f), rfl, Or.inr (Or.inl ⟨rfl, hR, rfl⟩), by rw [ht]; exact hP, va_K.moved hW.alike hK4, hD⟩, hS.F ht⟩) hS.2.2 dL_list_16
    · refine vx_catch (own := RL) (name := "java/lang/IllegalStateException") (E := "java/lang/IllegalStateException") hown [⟨0, 10, 13, 13⟩] ⟨0, 10, 17, 19⟩ [⟨0, 10, 21, 41⟩, ⟨0, 10, 25, 21⟩] (by rw [hTab]; rfl) (by
        intro z hz
        rcases List.mem_cons.mp hz with rfl | hz
        · exact Or.inr ⟨by decide, "java/lang/IllegalArgumentException", hts (.classLink RL 13 "java/lang/IllegalArgumentException") (by decide +kernel), hN.2.2.2.2.2.2.2.1.2.2.2.2.1⟩
        cases hz) (by decide) (by decide) (hts (.classLink RL 19 "java/lang/IllegalStateException") (by decide +kernel)) (va_Nw.use rfl hN.2.2.2.2.2.1.2.1) hce hcv hcl ?_
      refine lv_astore (lv' := [(4, .ref qx9), (0, .ref x), (1, .int p1), (2, .int p2), (3, .ref o)]) hx hb dL_list_17 hl (by decide) rfl (fun ls hl => ?_)
      refine lv_iconst (v := 2) hx hb dL_list_19 (by decide) ?_
      refine W.widen (k := 2) (n := 12) (Nat.le_of_ble_eq_true rfl) (Nat.le_of_ble_eq_true rfl) ?_
      exact W.iret (v := (2 : Int32)) hx hb hr (fun t ht hW => ⟨⟨(2 : Int32), (u, f), rfl, Or.inr (Or.inr (Or.inl ⟨rfl, hR, rfl⟩)), by rw [ht]; exact hP, va_K.moved hW.alike hK4, hD⟩, hS.F ht⟩) hS.2.2 dL_list_20
    · refine vx_catch (own := RL) (name := "java/lang/UnsupportedOperationException") (E := "java/lang/UnsupportedOperationException") hown [⟨0, 10, 13, 13⟩, ⟨0, 10, 17, 19⟩] ⟨0, 10, 21, 41⟩ [⟨0, 10, 25, 21⟩] (by rw [hTab]; rfl) (by
        intro z hz
        rcases List.mem_cons.mp hz with rfl | hz
        · exact Or.inr ⟨by decide, "java/lang/IllegalArgumentException", hts (.classLink RL 13 "java/lang/IllegalArgumentException") (by decide +kernel), hN.2.2.2.2.2.2.2.1.2.2.2.2.2.2.2.2.2.2.2.2.1⟩
        rcases List.mem_cons.mp hz with rfl | hz
        · exact Or.inr ⟨by decide, "java/lang/IllegalStateException", hts (.classLink RL 19 "java/lang/IllegalStateException") (by decide +kernel), hN.2.2.2.2.2.2.2.1.2.2.2.2.2.2.2.2.2.2.2.2.2.1⟩
        cases hz) (by decide) (by decide) (hts (.classLink RL 41 "java/lang/UnsupportedOperationException") (by decide +kernel)) (va_Nw.use rfl hN.2.2.2.2.2.1.2.2.2.1) hce hcv hcl ?_
      refine lv_astore (lv' := [(4, .ref qx9), (0, .ref x), (1, .int p1), (2, .int p2), (3, .ref o)]) hx hb dL_list_21 hl (by decide) rfl (fun ls hl => ?_)
      refine lv_iconst (v := 3) hx hb dL_list_23 (by decide) ?_
      refine W.widen (k := 2) (n := 12) (Nat.le_of_ble_eq_true rfl) (Nat.le_of_ble_eq_true rfl) ?_
      exact W.iret (v := (3 : Int32)) hx hb hr (fun t ht hW => ⟨⟨(3 : Int32), (u, f), rfl, Or.inr (Or.inr (Or.inr (Or.inl ⟨rfl, hR, rfl⟩))), by rw [ht]; exact hP, va_K.moved hW.alike hK4, hD⟩, hS.F ht⟩) hS.2.2 dL_list_24
    · refine vx_catch (own := RL) (name := "java/lang/IndexOutOfBoundsException") (E := "java/lang/IndexOutOfBoundsException") hown [⟨0, 10, 13, 13⟩, ⟨0, 10, 17, 19⟩, ⟨0, 10, 21, 41⟩] ⟨0, 10, 25, 21⟩ [] (by rw [hTab]; rfl) (by
        intro z hz
        rcases List.mem_cons.mp hz with rfl | hz
        · exact Or.inr ⟨by decide, "java/lang/IllegalArgumentException", hts (.classLink RL 13 "java/lang/IllegalArgumentException") (by decide +kernel), hN.2.2.2.2.2.2.2.1.2.2.2.2.2.2.2.2.1⟩
        rcases List.mem_cons.mp hz with rfl | hz
        · exact Or.inr ⟨by decide, "java/lang/IllegalStateException", hts (.classLink RL 19 "java/lang/IllegalStateException") (by decide +kernel), hN.2.2.2.2.2.2.2.1.2.2.2.2.2.2.2.2.2.1⟩
        rcases List.mem_cons.mp hz with rfl | hz
        · exact Or.inr ⟨by decide, "java/lang/UnsupportedOperationException", hts (.classLink RL 41 "java/lang/UnsupportedOperationException") (by decide +kernel), hN.2.2.2.2.2.2.2.1.2.2.2.2.2.2.2.2.2.2.1⟩
        cases hz) (by decide) (by decide) (hts (.classLink RL 21 "java/lang/IndexOutOfBoundsException") (by decide +kernel)) (va_Nw.use rfl hN.2.2.2.2.2.1.2.2.1) hce hcv hcl ?_
      refine lv_astore (lv' := [(4, .ref qx9), (0, .ref x), (1, .int p1), (2, .int p2), (3, .ref o)]) hx hb dL_list_25 hl (by decide) rfl (fun ls hl => ?_)
      refine lv_iconst (v := 4) hx hb dL_list_27 (by decide) ?_
      refine W.widen (k := 2) (n := 12) (Nat.le_of_ble_eq_true rfl) (Nat.le_of_ble_eq_true rfl) ?_
      exact W.iret (v := (4 : Int32)) hx hb hr (fun t ht hW => ⟨⟨(4 : Int32), (u, f), rfl, Or.inr (Or.inr (Or.inr (Or.inr (⟨rfl, hR, rfl⟩)))), by rw [ht]; exact hP, va_K.moved hW.alike hK4, hD⟩, hS.F ht⟩) hS.2.2 dL_list_28
  · obtain ⟨hP1, hK1, hD1⟩ := hB
    rw [ht] at hP1
    obtain ⟨hP, hD⟩ := zz_joinB (wr := [(o, .inl (cJ, 1, .inr (.inl f)))]) hP hD hk1 hFc hP1 hD1
    refine lv_i2l hx hb dL_list_8 rfl ?_
    refine va_last hx hb hK hP hD hS 0 1 rfl rfl (i := (0 : Int32)) (show ¬ ((0 : Int32) < 0 ∨ 1 ≤ (0 : Int32).toNatClampNeg) by decide) dL_list_9 (fun H locs hP hD hS => ?_)
    have hP : va_P (dC, dI) vwCl ((o, .inl (cJ, 1, .inr (.inl (vp_updL f (0 : Int32).toNatClampNeg r.toInt64)))) :: u) _ := hP
    have hD : va_D A ((o, .inl (cJ, 1, .inr (.inl (vp_updL f (0 : Int32).toNatClampNeg r.toInt64)))) :: u) := hD
    refine lv_goto (tgt := 29) hx hb dL_list_10 (by decide) ?_
    refine lv_iconst (v := 0) hx hb dL_list_29 (by decide) ?_
    refine W.widen (k := 2) (n := 12) (Nat.le_of_ble_eq_true rfl) (Nat.le_of_ble_eq_true rfl) ?_
    exact W.iret (v := (0 : Int32)) hx hb hr (fun t ht hW => ⟨⟨(0 : Int32), (u, vp_updL f (0 : Int32).toNatClampNeg r.toInt64), rfl, Or.inl ⟨rfl, r, hw, rfl⟩, by rw [ht]; exact hP, va_K.moved hW.alike hK4, hD⟩, hS.F ht⟩) hS.2.2 dL_list_30
abbrev rm_L_worst_S : Room := { frames := 8, cells := 1, slots := 6, locals := 192 }
set_option maxHeartbeats 4000000 in
set_option maxRecDepth 100000 in
theorem cl_worst_S (l : Launch) (hl9 : l.stackTraces = false) (dC : Nat → ClassId) (dI : Nat → Nat → Nat) (cI cJ cZ cF : ClassId) (x : Nat) (wX : va_W) (fs : List Value) (hx0 : wX[0]? = some (x, .inr (10, fs))) (p1 : Int32) (p2 : Int32) (p3 : Int32) (Rn : Int32 → va_W → Prop) (Rx : String → va_W → Prop) (hM : zz_CXi l yX11_worst wsX11_worst rm_X11_worst_S dC dI cI cJ cZ cF x wX [.int p1, .int p2, .int p3] 1 6 Rn Rx) (hE : ∀ (E : String) (w : va_W), Rx E w → E = "java/lang/IllegalArgumentException") (o : Nat) (f : Nat → Int64) (sz : Nat) : Met l yL_worst wsL_worst rm_L_worst_S (zz_prx dC dI [(cI, .int), (cJ, .long), (cZ, .boolean), (cF, .object "RoomForms$Form")] ((o, .inl (cJ, 1, .inr (.inl f))) :: wX) sz [.ref x, .int p1, .int p2, .int p3, .ref o]) (va_Qi (fun k (u : va_W × (Nat → Int64)) => (k = 0 ∧ ∃ r : Int32, Rn r u.1 ∧ u.2 = vp_updL f (0 : Int32).toNatClampNeg r.toInt64) ∨ (k = 1 ∧ Rx "java/lang/IllegalArgumentException" u.1 ∧ u.2 = f)) (fun u t => zz_wo dC dI [(cI, .int), (cJ, .long), (cZ, .boolean), (cF, .object "RoomForms$Form")] (va_A ((o, .inl (cJ, 1, .inr (.inl f))) :: wX) sz) ((o, .inl (cJ, 1, .inr (.inl u.2))) :: u.1) t) (va_A ((o, .inl (cJ, 1, .inr (.inl f))) :: wX) sz)) 1 6 (va_A ((o, .inl (cJ, 1, .inr (.inl f))) :: wX) sz) := by
  refine va_MetW (cc := cL_worst) (maxL := 6) (ret := (some .int)) (by decide) rfl ?_
  intro p e s m args below meth c s₁ B hml hv
  obtain ⟨rfl, hsz, hP, hK4, hD0, hN, hU, hQ⟩ := hv
  have hK := hK4.sub (tys' := [(cI, .int), (cJ, .long), (cZ, .boolean)]) [0, 1, 2] rfl
  have hx := B.exec
  have hb := B.bytes
  have hr := B.returns
  have hts := atoms_spec (ws := wsL_worst) B.pre
  have hown : s.vm.findClass RL = some m.cls := findClass_of_methodNamed B.named
  have hlocks := B.notSynchronized
  have hTab : c.exceptionTable.toList = tableOf [(0, 12, 15, 13)] := vx_table (x := yL_worst) B (hts (.codeWith yL_worst cL_worst 6 (some .int) [(0, 12, 15, 13)]) (by decide +kernel))
  have hS0 : CallFix p m c cL_worst 6 s #[.ref x, .int p1, .int p2, .int p3, .ref o] wsL_worst RL := ⟨hx, hb, hml, hown, hts⟩
  subst hsz
  have hD := hD0.self (sz := s.heap.size)
  generalize hAe : va_A ((o, .inl (cJ, 1, .inr (.inl f))) :: wX) s.heap.size = A at hD hU hQ ⊢
  have hA : ∀ q : Nat, s.heap.size ≤ q → A q := fun q h => by rw [← hAe]; exact Or.inr h
  have hS : va_S A s.heap s.heap [] := va_S.rf
  have hl := lv_entry ([.ref x, .int p1, .int p2, .int p3, .ref o]) (n := 6) (Nat.le_of_ble_eq_true rfl)
  rw [lg_entry_eq]
  generalize (lg_sl ([.ref x, .int p1, .int p2, .int p3, .ref o]) ++ List.replicate (6 - (lg_sl ([.ref x, .int p1, .int p2, .int p3, .ref o])).length) Slot.unset).toArray = ls at hl ⊢
  have hl : lv_has ls 6 [(0, .ref x), (1, .int p1), (2, .int p2), (3, .int p3), (4, .ref o)] := hl
  refine lv_aload hx hb dL_worst_0 (lv_at hl 4 rfl) ?_
  refine lv_iconst (v := 0) hx hb dL_worst_2 (by decide) ?_
  refine lv_aload_n hx hb dL_worst_3 rfl (lv_at hl 0 rfl) ?_
  refine lv_iload_n hx hb dL_worst_4 rfl (lv_at hl 1 rfl) ?_
  refine lv_iload_n hx hb dL_worst_5 rfl (lv_at hl 2 rfl) ?_
  refine lv_iload_n hx hb dL_worst_6 rfl (lv_at hl 3 rfl) ?_
  have hPc : va_P (dC, dI) vwCl wX s.heap := zz_Pr (a := [(o, .inl (cJ, 1, .inr (.inl f)))]) hP
  have hDc : va_D A wX := zz_Dr (a := [(o, .inl (cJ, 1, .inr (.inl f)))]) hD
  have hFc := zz_freeW hDc hS hA
  refine vx_calli (vx_runV (As := [.int p1, .int p2, .int p3]) (rest := [.int (0 : Int32), .ref o]) hS0 (hM _) (cwV 3 hts gL_worst_X11_worst rfl rfl rfl (by decide +kernel) ⟨(Nat.le_of_ble_eq_true rfl), (Nat.le_of_ble_eq_true rfl)⟩) (zz_pvx hK4 hPc hDc hN hU hQ hS hFc (zz_recv hK4 hPc hx0)) rfl rfl hl.1 rfl (lv_room (Nat.le_of_ble_eq_true rfl)) dL_worst_7 ⟨(Nat.le_of_ble_eq_true rfl), (Nat.le_of_ble_eq_true rfl)⟩) hS (fun q _ h => hFc q h) hFc (fun q _ h => hFc q h) (fun E ce qx9 u t H1 locs ht hvm hw hB hz1 hk1 hS hce hcv hcl => ?_) (fun r u t H1 locs ht hvm hw hB hz1 hk1 hS => ?_)
  · obtain ⟨hR, hP1, hK1, hD1⟩ := hB
    rw [ht] at hP1
    obtain ⟨hP, hD⟩ := zz_joinB (wr := [(o, .inl (cJ, 1, .inr (.inl f)))]) hP hD hk1 hFc hP1 hD1
    rcases hE E u hR with rfl
    · refine vx_catch (own := RL) (name := "java/lang/IllegalArgumentException") (E := "java/lang/IllegalArgumentException") hown [] ⟨0, 12, 15, 13⟩ [] (by rw [hTab]; rfl) (fun z hz => nomatch hz) (by decide) (by decide) (hts (.classLink RL 13 "java/lang/IllegalArgumentException") (by decide +kernel)) (va_Nw.use rfl hN.2.2.2.2.2.1.1) hce hcv hcl ?_
      refine lv_astore (lv' := [(5, .ref qx9), (0, .ref x), (1, .int p1), (2, .int p2), (3, .int p3), (4, .ref o)]) hx hb dL_worst_15 hl (by decide) rfl (fun ls hl => ?_)
      refine lv_iconst (v := 1) hx hb dL_worst_17 (by decide) ?_
      refine W.widen (k := 1) (n := 6) (Nat.le_of_ble_eq_true rfl) (Nat.le_of_ble_eq_true rfl) ?_
      exact W.iret (v := (1 : Int32)) hx hb hr (fun t ht hW => ⟨⟨(1 : Int32), (u, f), rfl, Or.inr (⟨rfl, hR, rfl⟩), by rw [ht]; exact hP, va_K.moved hW.alike hK4, hD⟩, hS.F ht⟩) hS.2.2 dL_worst_18
  · obtain ⟨hP1, hK1, hD1⟩ := hB
    rw [ht] at hP1
    obtain ⟨hP, hD⟩ := zz_joinB (wr := [(o, .inl (cJ, 1, .inr (.inl f)))]) hP hD hk1 hFc hP1 hD1
    refine lv_i2l hx hb dL_worst_10 rfl ?_
    refine va_last hx hb hK hP hD hS 0 1 rfl rfl (i := (0 : Int32)) (show ¬ ((0 : Int32) < 0 ∨ 1 ≤ (0 : Int32).toNatClampNeg) by decide) dL_worst_11 (fun H locs hP hD hS => ?_)
    have hP : va_P (dC, dI) vwCl ((o, .inl (cJ, 1, .inr (.inl (vp_updL f (0 : Int32).toNatClampNeg r.toInt64)))) :: u) _ := hP
    have hD : va_D A ((o, .inl (cJ, 1, .inr (.inl (vp_updL f (0 : Int32).toNatClampNeg r.toInt64)))) :: u) := hD
    refine lv_goto (tgt := 19) hx hb dL_worst_12 (by decide) ?_
    refine lv_iconst (v := 0) hx hb dL_worst_19 (by decide) ?_
    refine W.widen (k := 1) (n := 6) (Nat.le_of_ble_eq_true rfl) (Nat.le_of_ble_eq_true rfl) ?_
    exact W.iret (v := (0 : Int32)) hx hb hr (fun t ht hW => ⟨⟨(0 : Int32), (u, vp_updL f (0 : Int32).toNatClampNeg r.toInt64), rfl, Or.inl ⟨rfl, r, hw, rfl⟩, by rw [ht]; exact hP, va_K.moved hW.alike hK4, hD⟩, hS.F ht⟩) hS.2.2 dL_worst_20
abbrev rm_L_worst_W : Room := { frames := 8, cells := 6, slots := 52809, locals := 192 }
set_option maxHeartbeats 4000000 in
set_option maxRecDepth 100000 in
theorem cl_worst_W (l : Launch) (hl9 : l.stackTraces = false) (dC : Nat → ClassId) (dI : Nat → Nat → Nat) (cI cJ cZ cF : ClassId) (x : Nat) (wX : va_W) (fs : List Value) (hx0 : wX[0]? = some (x, .inr (10, fs))) (p1 : Int32) (p2 : Int32) (p3 : Int32) (Rn : Int32 → va_W → Prop) (Rx : String → va_W → Prop) (hM : zz_CXi l yX11_worst wsX11_worst rm_X11_worst_W dC dI cI cJ cZ cF x wX [.int p1, .int p2, .int p3] 6 52809 Rn Rx) (hE : ∀ (E : String) (w : va_W), Rx E w → E = "java/lang/IllegalArgumentException") (o : Nat) (f : Nat → Int64) (sz : Nat) : Met l yL_worst wsL_worst rm_L_worst_W (zz_prx dC dI [(cI, .int), (cJ, .long), (cZ, .boolean), (cF, .object "RoomForms$Form")] ((o, .inl (cJ, 1, .inr (.inl f))) :: wX) sz [.ref x, .int p1, .int p2, .int p3, .ref o]) (va_Qi (fun k (u : va_W × (Nat → Int64)) => (k = 0 ∧ ∃ r : Int32, Rn r u.1 ∧ u.2 = vp_updL f (0 : Int32).toNatClampNeg r.toInt64) ∨ (k = 1 ∧ Rx "java/lang/IllegalArgumentException" u.1 ∧ u.2 = f)) (fun u t => zz_wo dC dI [(cI, .int), (cJ, .long), (cZ, .boolean), (cF, .object "RoomForms$Form")] (va_A ((o, .inl (cJ, 1, .inr (.inl f))) :: wX) sz) ((o, .inl (cJ, 1, .inr (.inl u.2))) :: u.1) t) (va_A ((o, .inl (cJ, 1, .inr (.inl f))) :: wX) sz)) 6 52809 (va_A ((o, .inl (cJ, 1, .inr (.inl f))) :: wX) sz) := by
  refine va_MetW (cc := cL_worst) (maxL := 6) (ret := (some .int)) (by decide) rfl ?_
  intro p e s m args below meth c s₁ B hml hv
  obtain ⟨rfl, hsz, hP, hK4, hD0, hN, hU, hQ⟩ := hv
  have hK := hK4.sub (tys' := [(cI, .int), (cJ, .long), (cZ, .boolean)]) [0, 1, 2] rfl
  have hx := B.exec
  have hb := B.bytes
  have hr := B.returns
  have hts := atoms_spec (ws := wsL_worst) B.pre
  have hown : s.vm.findClass RL = some m.cls := findClass_of_methodNamed B.named
  have hlocks := B.notSynchronized
  have hTab : c.exceptionTable.toList = tableOf [(0, 12, 15, 13)] := vx_table (x := yL_worst) B (hts (.codeWith yL_worst cL_worst 6 (some .int) [(0, 12, 15, 13)]) (by decide +kernel))
  have hS0 : CallFix p m c cL_worst 6 s #[.ref x, .int p1, .int p2, .int p3, .ref o] wsL_worst RL := ⟨hx, hb, hml, hown, hts⟩
  subst hsz
  have hD := hD0.self (sz := s.heap.size)
  generalize hAe : va_A ((o, .inl (cJ, 1, .inr (.inl f))) :: wX) s.heap.size = A at hD hU hQ ⊢
  have hA : ∀ q : Nat, s.heap.size ≤ q → A q := fun q h => by rw [← hAe]; exact Or.inr h
  have hS : va_S A s.heap s.heap [] := va_S.rf
  have hl := lv_entry ([.ref x, .int p1, .int p2, .int p3, .ref o]) (n := 6) (Nat.le_of_ble_eq_true rfl)
  rw [lg_entry_eq]
  generalize (lg_sl ([.ref x, .int p1, .int p2, .int p3, .ref o]) ++ List.replicate (6 - (lg_sl ([.ref x, .int p1, .int p2, .int p3, .ref o])).length) Slot.unset).toArray = ls at hl ⊢
  have hl : lv_has ls 6 [(0, .ref x), (1, .int p1), (2, .int p2), (3, .int p3), (4, .ref o)] := hl
  refine lv_aload hx hb dL_worst_0 (lv_at hl 4 rfl) ?_
  refine lv_iconst (v := 0) hx hb dL_worst_2 (by decide) ?_
  refine lv_aload_n hx hb dL_worst_3 rfl (lv_at hl 0 rfl) ?_
  refine lv_iload_n hx hb dL_worst_4 rfl (lv_at hl 1 rfl) ?_
  refine lv_iload_n hx hb dL_worst_5 rfl (lv_at hl 2 rfl) ?_
  refine lv_iload_n hx hb dL_worst_6 rfl (lv_at hl 3 rfl) ?_
  have hPc : va_P (dC, dI) vwCl wX s.heap := zz_Pr (a := [(o, .inl (cJ, 1, .inr (.inl f)))]) hP
  have hDc : va_D A wX := zz_Dr (a := [(o, .inl (cJ, 1, .inr (.inl f)))]) hD
  have hFc := zz_freeW hDc hS hA
  refine vx_calli (vx_runV (As := [.int p1, .int p2, .int p3]) (rest := [.int (0 : Int32), .ref o]) hS0 (hM _) (cwV 3 hts gL_worst_X11_worst rfl rfl rfl (by decide +kernel) ⟨(Nat.le_of_ble_eq_true rfl), (Nat.le_of_ble_eq_true rfl)⟩) (zz_pvx hK4 hPc hDc hN hU hQ hS hFc (zz_recv hK4 hPc hx0)) rfl rfl hl.1 rfl (lv_room (Nat.le_of_ble_eq_true rfl)) dL_worst_7 ⟨(Nat.le_of_ble_eq_true rfl), (Nat.le_of_ble_eq_true rfl)⟩) hS (fun q _ h => hFc q h) hFc (fun q _ h => hFc q h) (fun E ce qx9 u t H1 locs ht hvm hw hB hz1 hk1 hS hce hcv hcl => ?_) (fun r u t H1 locs ht hvm hw hB hz1 hk1 hS => ?_)
  · obtain ⟨hR, hP1, hK1, hD1⟩ := hB
    rw [ht] at hP1
    obtain ⟨hP, hD⟩ := zz_joinB (wr := [(o, .inl (cJ, 1, .inr (.inl f)))]) hP hD hk1 hFc hP1 hD1
    rcases hE E u hR with rfl
    · refine vx_catch (own := RL) (name := "java/lang/IllegalArgumentException") (E := "java/lang/IllegalArgumentException") hown [] ⟨0, 12, 15, 13⟩ [] (by rw [hTab]; rfl) (fun z hz => nomatch hz) (by decide) (by decide) (hts (.classLink RL 13 "java/lang/IllegalArgumentException") (by decide +kernel)) (va_Nw.use rfl hN.2.2.2.2.2.1.1) hce hcv hcl ?_
      refine lv_astore (lv' := [(5, .ref qx9), (0, .ref x), (1, .int p1), (2, .int p2), (3, .int p3), (4, .ref o)]) hx hb dL_worst_15 hl (by decide) rfl (fun ls hl => ?_)
      refine lv_iconst (v := 1) hx hb dL_worst_17 (by decide) ?_
      refine W.widen (k := 6) (n := 52809) (Nat.le_of_ble_eq_true rfl) (Nat.le_of_ble_eq_true rfl) ?_
      exact W.iret (v := (1 : Int32)) hx hb hr (fun t ht hW => ⟨⟨(1 : Int32), (u, f), rfl, Or.inr (⟨rfl, hR, rfl⟩), by rw [ht]; exact hP, va_K.moved hW.alike hK4, hD⟩, hS.F ht⟩) hS.2.2 dL_worst_18
  · obtain ⟨hP1, hK1, hD1⟩ := hB
    rw [ht] at hP1
    obtain ⟨hP, hD⟩ := zz_joinB (wr := [(o, .inl (cJ, 1, .inr (.inl f)))]) hP hD hk1 hFc hP1 hD1
    refine lv_i2l hx hb dL_worst_10 rfl ?_
    refine va_last hx hb hK hP hD hS 0 1 rfl rfl (i := (0 : Int32)) (show ¬ ((0 : Int32) < 0 ∨ 1 ≤ (0 : Int32).toNatClampNeg) by decide) dL_worst_11 (fun H locs hP hD hS => ?_)
    have hP : va_P (dC, dI) vwCl ((o, .inl (cJ, 1, .inr (.inl (vp_updL f (0 : Int32).toNatClampNeg r.toInt64)))) :: u) _ := hP
    have hD : va_D A ((o, .inl (cJ, 1, .inr (.inl (vp_updL f (0 : Int32).toNatClampNeg r.toInt64)))) :: u) := hD
    refine lv_goto (tgt := 19) hx hb dL_worst_12 (by decide) ?_
    refine lv_iconst (v := 0) hx hb dL_worst_19 (by decide) ?_
    refine W.widen (k := 6) (n := 52809) (Nat.le_of_ble_eq_true rfl) (Nat.le_of_ble_eq_true rfl) ?_
    exact W.iret (v := (0 : Int32)) hx hb hr (fun t ht hW => ⟨⟨(0 : Int32), (u, vp_updL f (0 : Int32).toNatClampNeg r.toInt64), rfl, Or.inl ⟨rfl, r, hw, rfl⟩, by rw [ht]; exact hP, va_K.moved hW.alike hK4, hD⟩, hS.F ht⟩) hS.2.2 dL_worst_20
abbrev rm_L_worst_X : Room := { frames := 7, cells := 1, slots := 6, locals := 113 }
set_option maxHeartbeats 4000000 in
set_option maxRecDepth 100000 in
theorem cl_worst_X (l : Launch) (hl9 : l.stackTraces = false) (dC : Nat → ClassId) (dI : Nat → Nat → Nat) (cI cJ cZ cF : ClassId) (x : Nat) (wX : va_W) (fs : List Value) (hx0 : wX[0]? = some (x, .inr (10, fs))) (p1 : Int32) (p2 : Int32) (p3 : Int32) (Rn : Int32 → va_W → Prop) (Rx : String → va_W → Prop) (hM : zz_CXi l yX11_worst wsX11_worst rm_X11_worst_X dC dI cI cJ cZ cF x wX [.int p1, .int p2, .int p3] 1 6 Rn Rx) (hE : ∀ (E : String) (w : va_W), Rx E w → E = "java/lang/IllegalArgumentException") (o : Nat) (f : Nat → Int64) (sz : Nat) : Met l yL_worst wsL_worst rm_L_worst_X (zz_prx dC dI [(cI, .int), (cJ, .long), (cZ, .boolean), (cF, .object "RoomForms$Form")] ((o, .inl (cJ, 1, .inr (.inl f))) :: wX) sz [.ref x, .int p1, .int p2, .int p3, .ref o]) (va_Qi (fun k (u : va_W × (Nat → Int64)) => (k = 0 ∧ ∃ r : Int32, Rn r u.1 ∧ u.2 = vp_updL f (0 : Int32).toNatClampNeg r.toInt64) ∨ (k = 1 ∧ Rx "java/lang/IllegalArgumentException" u.1 ∧ u.2 = f)) (fun u t => zz_wo dC dI [(cI, .int), (cJ, .long), (cZ, .boolean), (cF, .object "RoomForms$Form")] (va_A ((o, .inl (cJ, 1, .inr (.inl f))) :: wX) sz) ((o, .inl (cJ, 1, .inr (.inl u.2))) :: u.1) t) (va_A ((o, .inl (cJ, 1, .inr (.inl f))) :: wX) sz)) 1 6 (va_A ((o, .inl (cJ, 1, .inr (.inl f))) :: wX) sz) := by
  refine va_MetW (cc := cL_worst) (maxL := 6) (ret := (some .int)) (by decide) rfl ?_
  intro p e s m args below meth c s₁ B hml hv
  obtain ⟨rfl, hsz, hP, hK4, hD0, hN, hU, hQ⟩ := hv
  have hK := hK4.sub (tys' := [(cI, .int), (cJ, .long), (cZ, .boolean)]) [0, 1, 2] rfl
  have hx := B.exec
  have hb := B.bytes
  have hr := B.returns
  have hts := atoms_spec (ws := wsL_worst) B.pre
  have hown : s.vm.findClass RL = some m.cls := findClass_of_methodNamed B.named
  have hlocks := B.notSynchronized
  have hTab : c.exceptionTable.toList = tableOf [(0, 12, 15, 13)] := vx_table (x := yL_worst) B (hts (.codeWith yL_worst cL_worst 6 (some .int) [(0, 12, 15, 13)]) (by decide +kernel))
  have hS0 : CallFix p m c cL_worst 6 s #[.ref x, .int p1, .int p2, .int p3, .ref o] wsL_worst RL := ⟨hx, hb, hml, hown, hts⟩
  subst hsz
  have hD := hD0.self (sz := s.heap.size)
  generalize hAe : va_A ((o, .inl (cJ, 1, .inr (.inl f))) :: wX) s.heap.size = A at hD hU hQ ⊢
  have hA : ∀ q : Nat, s.heap.size ≤ q → A q := fun q h => by rw [← hAe]; exact Or.inr h
  have hS : va_S A s.heap s.heap [] := va_S.rf
  have hl := lv_entry ([.ref x, .int p1, .int p2, .int p3, .ref o]) (n := 6) (Nat.le_of_ble_eq_true rfl)
  rw [lg_entry_eq]
  generalize (lg_sl ([.ref x, .int p1, .int p2, .int p3, .ref o]) ++ List.replicate (6 - (lg_sl ([.ref x, .int p1, .int p2, .int p3, .ref o])).length) Slot.unset).toArray = ls at hl ⊢
  have hl : lv_has ls 6 [(0, .ref x), (1, .int p1), (2, .int p2), (3, .int p3), (4, .ref o)] := hl
  refine lv_aload hx hb dL_worst_0 (lv_at hl 4 rfl) ?_
  refine lv_iconst (v := 0) hx hb dL_worst_2 (by decide) ?_
  refine lv_aload_n hx hb dL_worst_3 rfl (lv_at hl 0 rfl) ?_
  refine lv_iload_n hx hb dL_worst_4 rfl (lv_at hl 1 rfl) ?_
  refine lv_iload_n hx hb dL_worst_5 rfl (lv_at hl 2 rfl) ?_
  refine lv_iload_n hx hb dL_worst_6 rfl (lv_at hl 3 rfl) ?_
  have hPc : va_P (dC, dI) vwCl wX s.heap := zz_Pr (a := [(o, .inl (cJ, 1, .inr (.inl f)))]) hP
  have hDc : va_D A wX := zz_Dr (a := [(o, .inl (cJ, 1, .inr (.inl f)))]) hD
  have hFc := zz_freeW hDc hS hA
  refine vx_calli (vx_runV (As := [.int p1, .int p2, .int p3]) (rest := [.int (0 : Int32), .ref o]) hS0 (hM _) (cwV 3 hts gL_worst_X11_worst rfl rfl rfl (by decide +kernel) ⟨(Nat.le_of_ble_eq_true rfl), (Nat.le_of_ble_eq_true rfl)⟩) (zz_pvx hK4 hPc hDc hN hU hQ hS hFc (zz_recv hK4 hPc hx0)) rfl rfl hl.1 rfl (lv_room (Nat.le_of_ble_eq_true rfl)) dL_worst_7 ⟨(Nat.le_of_ble_eq_true rfl), (Nat.le_of_ble_eq_true rfl)⟩) hS (fun q _ h => hFc q h) hFc (fun q _ h => hFc q h) (fun E ce qx9 u t H1 locs ht hvm hw hB hz1 hk1 hS hce hcv hcl => ?_) (fun r u t H1 locs ht hvm hw hB hz1 hk1 hS => ?_)
  · obtain ⟨hR, hP1, hK1, hD1⟩ := hB
    rw [ht] at hP1
    obtain ⟨hP, hD⟩ := zz_joinB (wr := [(o, .inl (cJ, 1, .inr (.inl f)))]) hP hD hk1 hFc hP1 hD1
    rcases hE E u hR with rfl
    · refine vx_catch (own := RL) (name := "java/lang/IllegalArgumentException") (E := "java/lang/IllegalArgumentException") hown [] ⟨0, 12, 15, 13⟩ [] (by rw [hTab]; rfl) (fun z hz => nomatch hz) (by decide) (by decide) (hts (.classLink RL 13 "java/lang/IllegalArgumentException") (by decide +kernel)) (va_Nw.use rfl hN.2.2.2.2.2.1.1) hce hcv hcl ?_
      refine lv_astore (lv' := [(5, .ref qx9), (0, .ref x), (1, .int p1), (2, .int p2), (3, .int p3), (4, .ref o)]) hx hb dL_worst_15 hl (by decide) rfl (fun ls hl => ?_)
      refine lv_iconst (v := 1) hx hb dL_worst_17 (by decide) ?_
      refine W.widen (k := 1) (n := 6) (Nat.le_of_ble_eq_true rfl) (Nat.le_of_ble_eq_true rfl) ?_
      exact W.iret (v := (1 : Int32)) hx hb hr (fun t ht hW => ⟨⟨(1 : Int32), (u, f), rfl, Or.inr (⟨rfl, hR, rfl⟩), by rw [ht]; exact hP, va_K.moved hW.alike hK4, hD⟩, hS.F ht⟩) hS.2.2 dL_worst_18
  · obtain ⟨hP1, hK1, hD1⟩ := hB
    rw [ht] at hP1
    obtain ⟨hP, hD⟩ := zz_joinB (wr := [(o, .inl (cJ, 1, .inr (.inl f)))]) hP hD hk1 hFc hP1 hD1
    refine lv_i2l hx hb dL_worst_10 rfl ?_
    refine va_last hx hb hK hP hD hS 0 1 rfl rfl (i := (0 : Int32)) (show ¬ ((0 : Int32) < 0 ∨ 1 ≤ (0 : Int32).toNatClampNeg) by decide) dL_worst_11 (fun H locs hP hD hS => ?_)
    have hP : va_P (dC, dI) vwCl ((o, .inl (cJ, 1, .inr (.inl (vp_updL f (0 : Int32).toNatClampNeg r.toInt64)))) :: u) _ := hP
    have hD : va_D A ((o, .inl (cJ, 1, .inr (.inl (vp_updL f (0 : Int32).toNatClampNeg r.toInt64)))) :: u) := hD
    refine lv_goto (tgt := 19) hx hb dL_worst_12 (by decide) ?_
    refine lv_iconst (v := 0) hx hb dL_worst_19 (by decide) ?_
    refine W.widen (k := 1) (n := 6) (Nat.le_of_ble_eq_true rfl) (Nat.le_of_ble_eq_true rfl) ?_
    exact W.iret (v := (0 : Int32)) hx hb hr (fun t ht hW => ⟨⟨(0 : Int32), (u, vp_updL f (0 : Int32).toNatClampNeg r.toInt64), rfl, Or.inl ⟨rfl, r, hw, rfl⟩, by rw [ht]; exact hP, va_K.moved hW.alike hK4, hD⟩, hS.F ht⟩) hS.2.2 dL_worst_20
abbrev rm_L_count : Room := { frames := 7, cells := 1, slots := 6, locals := 111 }
set_option maxHeartbeats 4000000 in
set_option maxRecDepth 100000 in
theorem cl_count (l : Launch) (hl9 : l.stackTraces = false) (dC : Nat → ClassId) (dI : Nat → Nat → Nat) (cI cJ cZ cF : ClassId) (x : Nat) (wX : va_W) (fs : List Value) (hx0 : wX[0]? = some (x, .inr (10, fs))) (p1 : Int32) (Rn : Int32 → va_W → Prop) (Rx : String → va_W → Prop) (hM : zz_CXi l yX11_count wsX11_count rm_X11_count dC dI cI cJ cZ cF x wX [.int p1] 1 6 Rn Rx) (hE : ∀ (E : String) (w : va_W), Rx E w → E = "java/lang/IllegalArgumentException") (o : Nat) (f : Nat → Int64) (sz : Nat) : Met l yL_count wsL_count rm_L_count (zz_prx dC dI [(cI, .int), (cJ, .long), (cZ, .boolean), (cF, .object "RoomForms$Form")] ((o, .inl (cJ, 1, .inr (.inl f))) :: wX) sz [.ref x, .int p1, .ref o]) (va_Qi (fun k (u : va_W × (Nat → Int64)) => (k = 0 ∧ ∃ r : Int32, Rn r u.1 ∧ u.2 = vp_updL f (0 : Int32).toNatClampNeg r.toInt64) ∨ (k = 1 ∧ Rx "java/lang/IllegalArgumentException" u.1 ∧ u.2 = f)) (fun u t => zz_wo dC dI [(cI, .int), (cJ, .long), (cZ, .boolean), (cF, .object "RoomForms$Form")] (va_A ((o, .inl (cJ, 1, .inr (.inl f))) :: wX) sz) ((o, .inl (cJ, 1, .inr (.inl u.2))) :: u.1) t) (va_A ((o, .inl (cJ, 1, .inr (.inl f))) :: wX) sz)) 1 6 (va_A ((o, .inl (cJ, 1, .inr (.inl f))) :: wX) sz) := by
  refine va_MetW (cc := cL_count) (maxL := 4) (ret := (some .int)) (by decide) rfl ?_
  intro p e s m args below meth c s₁ B hml hv
  obtain ⟨rfl, hsz, hP, hK4, hD0, hN, hU, hQ⟩ := hv
  have hK := hK4.sub (tys' := [(cI, .int), (cJ, .long), (cZ, .boolean)]) [0, 1, 2] rfl
  have hx := B.exec
  have hb := B.bytes
  have hr := B.returns
  have hts := atoms_spec (ws := wsL_count) B.pre
  have hown : s.vm.findClass RL = some m.cls := findClass_of_methodNamed B.named
  have hlocks := B.notSynchronized
  have hTab : c.exceptionTable.toList = tableOf [(0, 9, 12, 13)] := vx_table (x := yL_count) B (hts (.codeWith yL_count cL_count 4 (some .int) [(0, 9, 12, 13)]) (by decide +kernel))
  have hS0 : CallFix p m c cL_count 4 s #[.ref x, .int p1, .ref o] wsL_count RL := ⟨hx, hb, hml, hown, hts⟩
  subst hsz
  have hD := hD0.self (sz := s.heap.size)
  generalize hAe : va_A ((o, .inl (cJ, 1, .inr (.inl f))) :: wX) s.heap.size = A at hD hU hQ ⊢
  have hA : ∀ q : Nat, s.heap.size ≤ q → A q := fun q h => by rw [← hAe]; exact Or.inr h
  have hS : va_S A s.heap s.heap [] := va_S.rf
  have hl := lv_entry ([.ref x, .int p1, .ref o]) (n := 4) (Nat.le_of_ble_eq_true rfl)
  rw [lg_entry_eq]
  generalize (lg_sl ([.ref x, .int p1, .ref o]) ++ List.replicate (4 - (lg_sl ([.ref x, .int p1, .ref o])).length) Slot.unset).toArray = ls at hl ⊢
  have hl : lv_has ls 4 [(0, .ref x), (1, .int p1), (2, .ref o)] := hl
  refine lv_aload_n hx hb dL_count_0 rfl (lv_at hl 2 rfl) ?_
  refine lv_iconst (v := 0) hx hb dL_count_1 (by decide) ?_
  refine lv_aload_n hx hb dL_count_2 rfl (lv_at hl 0 rfl) ?_
  refine lv_iload_n hx hb dL_count_3 rfl (lv_at hl 1 rfl) ?_
  have hPc : va_P (dC, dI) vwCl wX s.heap := zz_Pr (a := [(o, .inl (cJ, 1, .inr (.inl f)))]) hP
  have hDc : va_D A wX := zz_Dr (a := [(o, .inl (cJ, 1, .inr (.inl f)))]) hD
  have hFc := zz_freeW hDc hS hA
  refine vx_calli (vx_runV (As := [.int p1]) (rest := [.int (0 : Int32), .ref o]) hS0 (hM _) (cwV 1 hts gL_count_X11_count rfl rfl rfl (by decide +kernel) ⟨(Nat.le_of_ble_eq_true rfl), (Nat.le_of_ble_eq_true rfl)⟩) (zz_pvx hK4 hPc hDc hN hU hQ hS hFc (zz_recv hK4 hPc hx0)) rfl rfl hl.1 rfl (lv_room (Nat.le_of_ble_eq_true rfl)) dL_count_4 ⟨(Nat.le_of_ble_eq_true rfl), (Nat.le_of_ble_eq_true rfl)⟩) hS (fun q _ h => hFc q h) hFc (fun q _ h => hFc q h) (fun E ce qx9 u t H1 locs ht hvm hw hB hz1 hk1 hS hce hcv hcl => ?_) (fun r u t H1 locs ht hvm hw hB hz1 hk1 hS => ?_)
  · obtain ⟨hR, hP1, hK1, hD1⟩ := hB
    rw [ht] at hP1
    obtain ⟨hP, hD⟩ := zz_joinB (wr := [(o, .inl (cJ, 1, .inr (.inl f)))]) hP hD hk1 hFc hP1 hD1
    rcases hE E u hR with rfl
    · refine vx_catch (own := RL) (name := "java/lang/IllegalArgumentException") (E := "java/lang/IllegalArgumentException") hown [] ⟨0, 9, 12, 13⟩ [] (by rw [hTab]; rfl) (fun z hz => nomatch hz) (by decide) (by decide) (hts (.classLink RL 13 "java/lang/IllegalArgumentException") (by decide +kernel)) (va_Nw.use rfl hN.2.2.2.2.2.1.1) hce hcv hcl ?_
      refine lv_astore_n (lv' := [(3, .ref qx9), (0, .ref x), (1, .int p1), (2, .ref o)]) hx hb dL_count_12 rfl hl (by decide) rfl (fun ls hl => ?_)
      refine lv_iconst (v := 1) hx hb dL_count_13 (by decide) ?_
      refine W.widen (k := 1) (n := 6) (Nat.le_of_ble_eq_true rfl) (Nat.le_of_ble_eq_true rfl) ?_
      exact W.iret (v := (1 : Int32)) hx hb hr (fun t ht hW => ⟨⟨(1 : Int32), (u, f), rfl, Or.inr (⟨rfl, hR, rfl⟩), by rw [ht]; exact hP, va_K.moved hW.alike hK4, hD⟩, hS.F ht⟩) hS.2.2 dL_count_14
  · obtain ⟨hP1, hK1, hD1⟩ := hB
    rw [ht] at hP1
    obtain ⟨hP, hD⟩ := zz_joinB (wr := [(o, .inl (cJ, 1, .inr (.inl f)))]) hP hD hk1 hFc hP1 hD1
    refine lv_i2l hx hb dL_count_7 rfl ?_
    refine va_last hx hb hK hP hD hS 0 1 rfl rfl (i := (0 : Int32)) (show ¬ ((0 : Int32) < 0 ∨ 1 ≤ (0 : Int32).toNatClampNeg) by decide) dL_count_8 (fun H locs hP hD hS => ?_)
    have hP : va_P (dC, dI) vwCl ((o, .inl (cJ, 1, .inr (.inl (vp_updL f (0 : Int32).toNatClampNeg r.toInt64)))) :: u) _ := hP
    have hD : va_D A ((o, .inl (cJ, 1, .inr (.inl (vp_updL f (0 : Int32).toNatClampNeg r.toInt64)))) :: u) := hD
    refine lv_goto (tgt := 15) hx hb dL_count_9 (by decide) ?_
    refine lv_iconst (v := 0) hx hb dL_count_15 (by decide) ?_
    refine W.widen (k := 1) (n := 6) (Nat.le_of_ble_eq_true rfl) (Nat.le_of_ble_eq_true rfl) ?_
    exact W.iret (v := (0 : Int32)) hx hb hr (fun t ht hW => ⟨⟨(0 : Int32), (u, vp_updL f (0 : Int32).toNatClampNeg r.toInt64), rfl, Or.inl ⟨rfl, r, hw, rfl⟩, by rw [ht]; exact hP, va_K.moved hW.alike hK4, hD⟩, hS.F ht⟩) hS.2.2 dL_count_16

/-! a contract over some cells, read over more -/
theorem zz_CXi.mono {l : Launch} {y : MethodName} {ws : List Cond} {rm : Room} {dC : Nat → ClassId} {dI : Nat → Nat → Nat} {cI cJ cZ cF : ClassId} {x : Nat} {wX : va_W} {av : List Value} {mc ms : Nat} {Rn Rn' : Int32 → va_W → Prop} {Rx Rx' : String → va_W → Prop} (h : zz_CXi l y ws rm dC dI cI cJ cZ cF x wX av mc ms Rn Rx) (h1 : ∀ r w, Rn r w → Rn' r w) (h2 : ∀ E w, Rx E w → Rx' E w) : zz_CXi l y ws rm dC dI cI cJ cZ cF x wX av mc ms Rn' Rx' := fun sz => (h sz).mono (fun _ _ z => z) (fun _ _ _ _ _ z => z) (fun a s o t _ hq => by
  rcases hq with ⟨⟨⟨r, u, e, hp, hb⟩, hF⟩, hL⟩ | ⟨q, e, E, ce, L, ⟨u, -, ⟨hx, hb⟩, hF⟩, hr⟩
  · exact Or.inl ⟨⟨⟨r, u, e, h1 r u hp, hb⟩, hF⟩, hL⟩
  · exact Or.inr ⟨q, e, E, ce, L, ⟨u, trivial, ⟨h2 E u hx, hb⟩, hF⟩, hr⟩)
theorem zz_CXv.mono {l : Launch} {y : MethodName} {ws : List Cond} {rm : Room} {dC : Nat → ClassId} {dI : Nat → Nat → Nat} {cI cJ cZ cF : ClassId} {x : Nat} {wX : va_W} {av : List Value} {mc ms : Nat} {Rn Rn' : va_W → Prop} {Rx Rx' : String → va_W → Prop} (h : zz_CXv l y ws rm dC dI cI cJ cZ cF x wX av mc ms Rn Rx) (h1 : ∀ w, Rn w → Rn' w) (h2 : ∀ E w, Rx E w → Rx' E w) : zz_CXv l y ws rm dC dI cI cJ cZ cF x wX av mc ms Rn' Rx' := fun sz => (h sz).mono (fun _ _ z => z) (fun _ _ _ _ _ z => z) (fun a s o t _ hq => by
  rcases hq with ⟨⟨⟨u, e, hp, hb⟩, hF⟩, hL⟩ | ⟨q, e, E, ce, L, ⟨u, -, ⟨hx, hb⟩, hF⟩, hr⟩
  · exact Or.inl ⟨⟨⟨u, e, h1 u hp, hb⟩, hF⟩, hL⟩
  · exact Or.inr ⟨q, e, E, ce, L, ⟨u, trivial, ⟨h2 E u hx, hb⟩, hF⟩, hr⟩)
/-- the roads of a lift: what the smaller contract asks and gives -/
theorem zz_up {dC : Nat → ClassId} {dI : Nat → Nat → Nat} {tys : List (ClassId × FieldType)} {W wv : va_W} {sz : Nat} {av : List Value} (hin : ∀ q, va_A wv sz q → va_A W sz q) (hP : ∀ H, va_P (dC, dI) vwCl W H → va_P (dC, dI) vwCl wv H) (hD : va_D (fun _ => True) W → va_D (fun _ => True) wv) (a : Array Value) (s : State) (h : zz_prx dC dI tys W sz av a s) : zz_prx dC dI tys wv sz av a s := by
  obtain ⟨q0, q1, qP, qK, qD, qN, qU, qQ⟩ := h
  exact ⟨q0, q1, hP _ qP, qK, hD qD, qN, qU.narrow hin, qQ.narrow hin⟩
theorem zz_Fup {A B : Nat → Prop} (hin : ∀ q, A q → B q) {s t : State} (h : va_F A s t) : va_F B s t := ⟨h.1, fun q h1 h2 => h.2 q h1 (fun z => h2 (hin q z))⟩
theorem zz_inA {W wv : va_W} {sz : Nat} (is : List Nat) (hC : is.map (fun i => W[i]?) = wv.map some) (q : Nat) (h : va_A wv sz q) : va_A W sz q := by
  rcases h with ⟨k, e, hk⟩ | h
  · have h1 : (is.map (fun i => W[i]?))[k]? = (wv.map some)[k]? := by rw [hC]
    rw [List.getElem?_map, List.getElem?_map, hk] at h1
    rcases hi : is[k]? with _ | i
    · rw [hi] at h1; cases h1
    · rw [hi] at h1; exact Or.inl ⟨i, e, Option.some.inj h1⟩
  · exact Or.inr h
/-- the world behind it -/
theorem zz_wup {dC : Nat → ClassId} {dI : Nat → Nat → Nat} {tys : List (ClassId × FieldType)} {W wv wr w1 W1 : va_W} {sz : Nat} {s t : State} (isC isR is1 : List Nat) (hC : isC.map (fun i => W[i]?) = wv.map some) (hR : isR.map (fun i => W[i]?) = wr.map some) (hn : va_nd isR = true) (hdis : ∀ i ∈ isR, i ∉ isC) (h1 : is1.filterMap (fun i => (wr ++ w1)[i]?) = W1) (h1' : is1.map (fun i => (wr ++ w1)[i]?) = W1.map some) (hn1 : va_nd is1 = true) (hsz : s.heap.size = sz) (hP : va_P (dC, dI) vwCl W s.heap) (hD : va_D (fun _ => True) W) (hF : va_F (va_A wv sz) s t) (hw : zz_wo dC dI tys (va_A wv sz) w1 t) : zz_wo dC dI tys (va_A W sz) W1 t := by
  obtain ⟨k1, k2, k3⟩ := hw
  subst hsz
  obtain ⟨j1, j2⟩ := va_join (H1 := t.heap) hP (hD.self (sz := s.heap.size)) isC isR hC hR hn hdis hF.2 (zz_inA isC hC) k1 k3
  exact ⟨j1.sub is1 h1, k2, j2.sub is1 hn1 h1'⟩
theorem zz_lifti {l : Launch} {y : MethodName} {ws : List Cond} {rm : Room} {dC : Nat → ClassId} {dI : Nat → Nat → Nat} {cI cJ cZ cF : ClassId} {x : Nat} {W wv wr : va_W} {av : List Value} {mc ms : Nat} {ST : Type} {post : Int32 → ST → Prop} {px : ST → Prop} {ex : String → Prop} {ex2 : Prop} {w1 wx W1 WX : ST → va_W} (isC isR is1 isX : List Nat) (hC : isC.map (fun i => W[i]?) = wv.map some) (hC' : isC.filterMap (fun i => W[i]?) = wv) (hnC : va_nd isC = true) (hR : isR.map (fun i => W[i]?) = wr.map some) (hn : va_nd isR = true) (hdis : ∀ i ∈ isR, i ∉ isC) (h1 : ∀ u, is1.filterMap (fun i => (wr ++ w1 u)[i]?) = W1 u) (h1' : ∀ u, is1.map (fun i => (wr ++ w1 u)[i]?) = (W1 u).map some) (hn1 : va_nd is1 = true) (hX : ∀ u, isX.filterMap (fun i => (wr ++ wx u)[i]?) = WX u) (hX' : ∀ u, isX.map (fun i => (wr ++ wx u)[i]?) = (WX u).map some) (hnX : va_nd isX = true)
    (hM : ∀ sz, vx_Met l y ws rm (zz_prx dC dI [(cI, .int), (cJ, .long), (cZ, .boolean), (cF, .object "RoomForms$Form")] wv sz (.ref x :: av)) (va_Qi post (fun u t => zz_wo dC dI [(cI, .int), (cJ, .long), (cZ, .boolean), (cF, .object "RoomForms$Form")] (va_A wv sz) (w1 u) t) (va_A wv sz)) (vx_X px (fun E u t => ex E ∧ ex2 ∧ zz_wo dC dI [(cI, .int), (cJ, .long), (cZ, .boolean), (cF, .object "RoomForms$Form")] (va_A wv sz) (wx u) t) (va_A wv sz)) mc ms (va_A wv sz)) : zz_CXi l y ws rm dC dI cI cJ cZ cF x W av mc ms (fun r w => ∃ u, post r u ∧ w = W1 u) (fun E w => ex E ∧ ex2 ∧ ∃ u, px u ∧ w = WX u) := fun sz =>
  (hM sz).mono (fun a s h => zz_up (zz_inA isC hC) (fun H h => h.sub isC hC') (fun h => h.sub isC hnC hC) a s h) (fun _ _ _ _ _ z => z) (fun a s o t hp hq => by
    obtain ⟨-, hsz, hP, -, hD, -⟩ := hp
    rcases hq with ⟨⟨⟨r, u, e, hpo, hb⟩, hF⟩, L, hL, hfree⟩ | ⟨q, e, E, ce, L, ⟨u, hpx, ⟨hx, hx2, hb⟩, hF⟩, r1, r2, r3, r4, r5, hfree⟩
    · exact Or.inl ⟨⟨⟨r, W1 u, e, ⟨u, hpo, rfl⟩, zz_wup isC isR is1 hC hR hn hdis (h1 u) (h1' u) hn1 hsz hP hD hF hb⟩, zz_Fup (zz_inA isC hC) hF⟩, L, hL, fun q hq => zz_inA isC hC _ (hfree q hq)⟩
    · exact Or.inr ⟨q, e, E, ce, L, ⟨WX u, trivial, ⟨⟨hx, hx2, u, hpx, rfl⟩, zz_wup isC isR isX hC hR hn hdis (hX u) (hX' u) hnX hsz hP hD hF hb⟩, zz_Fup (zz_inA isC hC) hF⟩, r1, r2, r3, r4, r5, fun q hq => zz_inA isC hC _ (hfree q hq)⟩)
theorem zz_liftv {l : Launch} {y : MethodName} {ws : List Cond} {rm : Room} {dC : Nat → ClassId} {dI : Nat → Nat → Nat} {cI cJ cZ cF : ClassId} {x : Nat} {W wv wr : va_W} {av : List Value} {mc ms : Nat} {ST : Type} {post : ST → Prop} {px : ST → Prop} {ex : String → Prop} {ex2 : Prop} {w1 wx W1 WX : ST → va_W} (isC isR is1 isX : List Nat) (hC : isC.map (fun i => W[i]?) = wv.map some) (hC' : isC.filterMap (fun i => W[i]?) = wv) (hnC : va_nd isC = true) (hR : isR.map (fun i => W[i]?) = wr.map some) (hn : va_nd isR = true) (hdis : ∀ i ∈ isR, i ∉ isC) (h1 : ∀ u, is1.filterMap (fun i => (wr ++ w1 u)[i]?) = W1 u) (h1' : ∀ u, is1.map (fun i => (wr ++ w1 u)[i]?) = (W1 u).map some) (hn1 : va_nd is1 = true) (hX : ∀ u, isX.filterMap (fun i => (wr ++ wx u)[i]?) = WX u) (hX' : ∀ u, isX.map (fun i => (wr ++ wx u)[i]?) = (WX u).map some) (hnX : va_nd isX = true)
    (hM : ∀ sz, vx_Met l y ws rm (zz_prx dC dI [(cI, .int), (cJ, .long), (cZ, .boolean), (cF, .object "RoomForms$Form")] wv sz (.ref x :: av)) (va_Qv post (fun u t => zz_wo dC dI [(cI, .int), (cJ, .long), (cZ, .boolean), (cF, .object "RoomForms$Form")] (va_A wv sz) (w1 u) t) (va_A wv sz)) (vx_X px (fun E u t => ex E ∧ ex2 ∧ zz_wo dC dI [(cI, .int), (cJ, .long), (cZ, .boolean), (cF, .object "RoomForms$Form")] (va_A wv sz) (wx u) t) (va_A wv sz)) mc ms (va_A wv sz)) : zz_CXv l y ws rm dC dI cI cJ cZ cF x W av mc ms (fun w => ∃ u, post u ∧ w = W1 u) (fun E w => ex E ∧ ex2 ∧ ∃ u, px u ∧ w = WX u) := fun sz =>
  (hM sz).mono (fun a s h => zz_up (zz_inA isC hC) (fun H h => h.sub isC hC') (fun h => h.sub isC hnC hC) a s h) (fun _ _ _ _ _ z => z) (fun a s o t hp hq => by
    obtain ⟨-, hsz, hP, -, hD, -⟩ := hp
    rcases hq with ⟨⟨⟨u, e, hpo, hb⟩, hF⟩, L, hL, hfree⟩ | ⟨q, e, E, ce, L, ⟨u, hpx, ⟨hx, hx2, hb⟩, hF⟩, r1, r2, r3, r4, r5, hfree⟩
    · exact Or.inl ⟨⟨⟨W1 u, e, ⟨u, hpo, rfl⟩, zz_wup isC isR is1 hC hR hn hdis (h1 u) (h1' u) hn1 hsz hP hD hF hb⟩, zz_Fup (zz_inA isC hC) hF⟩, L, hL, fun q hq => zz_inA isC hC _ (hfree q hq)⟩
    · exact Or.inr ⟨q, e, E, ce, L, ⟨WX u, trivial, ⟨⟨hx, hx2, u, hpx, rfl⟩, zz_wup isC isR isX hC hR hn hdis (hX u) (hX' u) hnX hsz hP hD hF hb⟩, zz_Fup (zz_inA isC hC) hF⟩, r1, r2, r3, r4, r5, fun q hq => zz_inA isC hC _ (hfree q hq)⟩)
theorem zz_appUp {w wr : va_W} {sz : Nat} (q : Nat) (h : va_A w sz q) : va_A (w ++ wr) sz q := by
  rcases h with ⟨k, e, hk⟩ | h
  · exact Or.inl ⟨k, e, zz_gl hk⟩
  · exact Or.inr h
theorem zz_appW {dC : Nat → ClassId} {dI : Nat → Nat → Nat} {tys : List (ClassId × FieldType)} {w wr w1 : va_W} {sz : Nat} {s t : State} (hsz : s.heap.size = sz) (hP : va_P (dC, dI) vwCl (w ++ wr) s.heap) (hD : va_D (fun _ => True) (w ++ wr)) (hF : va_F (va_A w sz) s t) (hw : zz_wo dC dI tys (va_A w sz) w1 t) : zz_wo dC dI tys (va_A (w ++ wr) sz) (w1 ++ wr) t := by
  obtain ⟨k1, k2, k3⟩ := hw
  subst hsz
  obtain ⟨j1, j2⟩ := zz_joinA (H1 := t.heap) hP (hD.self (sz := s.heap.size)) hF.2 zz_appUp k1 k3
  exact ⟨j1, k2, j2⟩
theorem zz_CXi.frame {l : Launch} {y : MethodName} {ws : List Cond} {rm : Room} {dC : Nat → ClassId} {dI : Nat → Nat → Nat} {cI cJ cZ cF : ClassId} {x : Nat} {wX : va_W} {av : List Value} {mc ms : Nat} {Rn : Int32 → va_W → Prop} {Rx : String → va_W → Prop} (h : zz_CXi l y ws rm dC dI cI cJ cZ cF x wX av mc ms Rn Rx) (wr : va_W) : zz_CXi l y ws rm dC dI cI cJ cZ cF x (wX ++ wr) av mc ms (fun r w => ∃ w1, Rn r w1 ∧ w = w1 ++ wr) (fun E w => ∃ w1, Rx E w1 ∧ w = w1 ++ wr) := fun sz =>
  (h sz).mono (fun a s h => zz_up zz_appUp (fun H h => zz_Pl h) (fun h => zz_Dl h) a s h) (fun _ _ _ _ _ z => z) (fun a s o t hp hq => by
    obtain ⟨-, hsz, hP, -, hD, -⟩ := hp
    rcases hq with ⟨⟨⟨r, u, e, hpo, hb⟩, hF⟩, L, hL, hfree⟩ | ⟨q, e, E, ce, L, ⟨u, -, ⟨hx, hb⟩, hF⟩, r1, r2, r3, r4, r5, hfree⟩
    · exact Or.inl ⟨⟨⟨r, u ++ wr, e, ⟨u, hpo, rfl⟩, zz_appW hsz hP hD hF hb⟩, zz_Fup zz_appUp hF⟩, L, hL, fun q hq => zz_appUp _ (hfree q hq)⟩
    · exact Or.inr ⟨q, e, E, ce, L, ⟨u ++ wr, trivial, ⟨⟨u, hx, rfl⟩, zz_appW hsz hP hD hF hb⟩, zz_Fup zz_appUp hF⟩, r1, r2, r3, r4, r5, fun q hq => zz_appUp _ (hfree q hq)⟩)
theorem zz_CXv.frame {l : Launch} {y : MethodName} {ws : List Cond} {rm : Room} {dC : Nat → ClassId} {dI : Nat → Nat → Nat} {cI cJ cZ cF : ClassId} {x : Nat} {wX : va_W} {av : List Value} {mc ms : Nat} {Rn : va_W → Prop} {Rx : String → va_W → Prop} (h : zz_CXv l y ws rm dC dI cI cJ cZ cF x wX av mc ms Rn Rx) (wr : va_W) : zz_CXv l y ws rm dC dI cI cJ cZ cF x (wX ++ wr) av mc ms (fun w => ∃ w1, Rn w1 ∧ w = w1 ++ wr) (fun E w => ∃ w1, Rx E w1 ∧ w = w1 ++ wr) := fun sz =>
  (h sz).mono (fun a s h => zz_up zz_appUp (fun H h => zz_Pl h) (fun h => zz_Dl h) a s h) (fun _ _ _ _ _ z => z) (fun a s o t hp hq => by
    obtain ⟨-, hsz, hP, -, hD, -⟩ := hp
    rcases hq with ⟨⟨⟨u, e, hpo, hb⟩, hF⟩, L, hL, hfree⟩ | ⟨q, e, E, ce, L, ⟨u, -, ⟨hx, hb⟩, hF⟩, r1, r2, r3, r4, r5, hfree⟩
    · exact Or.inl ⟨⟨⟨u ++ wr, e, ⟨u, hpo, rfl⟩, zz_appW hsz hP hD hF hb⟩, zz_Fup zz_appUp hF⟩, L, hL, fun q hq => zz_appUp _ (hfree q hq)⟩
    · exact Or.inr ⟨q, e, E, ce, L, ⟨u ++ wr, trivial, ⟨⟨u, hx, rfl⟩, zz_appW hsz hP hD hF hb⟩, zz_Fup zz_appUp hF⟩, r1, r2, r3, r4, r5, fun q hq => zz_appUp _ (hfree q hq)⟩)

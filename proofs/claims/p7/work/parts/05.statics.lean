abbrev ce_no (cI cJ cZ : ClassId) (u : Unit) : va_W := []
abbrev rm_X11_powerFrom : Room := { frames := 0, cells := 0, slots := 0, locals := 0 }
def m_X11_powerFrom_L2 (K : Nat) : Nat → Int32 → Int32 → Option (Int32 × Unit)
  | 0, _, _ => none
  | k + 1, x0, x1 =>
    if ((1024 : Int32)) ≤ x1 then some ((1024 : Int32), ())
    else (if x1 < x0 then m_X11_powerFrom_L2 K k x0 (x1 + x1)
    else some (x1, ()))
theorem m_X11_powerFrom_L2_s (K : Nat) (k : Nat) (x0 : Int32) (x1 : Int32) : m_X11_powerFrom_L2 K (k + 1) x0 x1 =
    (if ((1024 : Int32)) ≤ x1 then some ((1024 : Int32), ())
    else (if x1 < x0 then m_X11_powerFrom_L2 K k x0 (x1 + x1)
    else some (x1, ()))) := rfl
set_option maxHeartbeats 4000000 in
set_option maxRecDepth 100000 in
theorem w_X11_powerFrom_L2 {p : Program} {l : Launch} {e : Env} {s : State} {m : MethodId} {args : Array Value} {below : List Frame} {meth : Method} {c : Code} (dC : Nat → ClassId) (dI : Nat → Nat → Nat) (cI cJ cZ : ClassId) (K : Nat) (A : Nat → Prop) (rv : Int32) (uv : Unit) (hS0 : CallFix p m c cX11_powerFrom 2 s args wsX11_powerFrom RX11) (hr : meth.sig.returnType = (some .int)) (hlocks : meth.locks = false) (hA : ∀ q : Nat, s.heap.size ≤ q → A q) (hK : va_K (dC, dI) vwCl [(cI, .int), (cJ, .long), (cZ, .boolean)] s) (hN : zz_nw s) : ∀ (k : Nat) (x0 : Int32) (x1 : Int32) (H : Heap) (locs : List Loc) (ls : Array Slot), m_X11_powerFrom_L2 K k x0 x1 = some (rv, uv) → va_P (dC, dI) vwCl [] H → va_D A [] → va_S A s.heap H locs → lv_has ls 2 [(0, .int x0), (1, .int x1)] → W p l e rm_X11_powerFrom s m args below meth c H locs 0 0 (MQ below (va_Qi (fun r u => rv = r ∧ uv = u) (fun u t => zz_wo dC dI [(cI, .int), (cJ, .long), (cZ, .boolean)] A (ce_no cI cJ cZ u) t) A) args s 0 0 A) (F0 m 2 ls []) := by
  obtain ⟨hx, hb, hml, hown, hts⟩ := id hS0
  intro k
  induction k with
  | zero =>
    intro _ _ _ _ _ hm
    have hm9 : (none : Option (Int32 × Unit)) = some _ := hm
    cases hm9
  | succ k ih =>
    intro x0 x1 H locs ls hm hP hD hS hl
    rw [m_X11_powerFrom_L2_s] at hm
    refine lv_iload_n hx hb dX11_powerFrom_2 rfl (lv_at hl 1 rfl) ?_
    refine lv_sipush (v := 1024) hx hb dX11_powerFrom_3 (by decide) ?_
    refine lv_icmp_ge (tgt := 23) hx hb dX11_powerFrom_6 (by decide) (fun c_1 => ?_) (fun c_1 => ?_)
    · replace hm := zz_t c_1 hm
      refine lv_sipush (v := 1024) hx hb dX11_powerFrom_23 (by decide) ?_
      have hm := Option.some.inj hm
      exact W.iret (v := (1024 : Int32)) hx hb hr (fun t ht hW => ⟨⟨(1024 : Int32), (), rfl, ⟨(congrArg (·.1) hm).symm, (congrArg (·.2) hm).symm⟩, by rw [ht]; exact hP, va_K.moved hW.alike hK, hD⟩, hS.F ht⟩) hS.2.2 dX11_powerFrom_26
    · replace hm := zz_f c_1 hm
      refine lv_iload_n hx hb dX11_powerFrom_9 rfl (lv_at hl 1 rfl) ?_
      refine lv_iload_n hx hb dX11_powerFrom_10 rfl (lv_at hl 0 rfl) ?_
      refine lv_icmp_lt (tgt := 16) hx hb dX11_powerFrom_11 (by decide) (fun c_2 => ?_) (fun c_2 => ?_)
      · replace hm := zz_t c_2 hm
        refine lv_iload_n hx hb dX11_powerFrom_16 rfl (lv_at hl 1 rfl) ?_
        refine lv_iload_n hx hb dX11_powerFrom_17 rfl (lv_at hl 1 rfl) ?_
        refine lv_iadd hx hb dX11_powerFrom_18 ?_
        refine lv_istore_n (lv' := [(1, .int (x1 + x1)), (0, .int x0)]) hx hb dX11_powerFrom_19 rfl hl (by decide) rfl (fun ls hl => ?_)
        refine lv_goto (tgt := 2) hx hb dX11_powerFrom_20 (by decide) ?_
        exact ih x0 (x1 + x1) _ _ _ hm hP hD hS (lv_sub hl [1, 0] rfl)
      · replace hm := zz_f c_2 hm
        refine lv_iload_n hx hb dX11_powerFrom_14 rfl (lv_at hl 1 rfl) ?_
        have hm := Option.some.inj hm
        exact W.iret (v := x1) hx hb hr (fun t ht hW => ⟨⟨x1, (), rfl, ⟨(congrArg (·.1) hm).symm, (congrArg (·.2) hm).symm⟩, by rw [ht]; exact hP, va_K.moved hW.alike hK, hD⟩, hS.F ht⟩) hS.2.2 dX11_powerFrom_15
def m_X11_powerFrom (K : Nat) (p0 : Int32) : Option (Int32 × Unit) :=
  m_X11_powerFrom_L2 K K p0 ((1 : Int32))
set_option maxHeartbeats 4000000 in
set_option maxRecDepth 100000 in
theorem c_X11_powerFrom (l : Launch) (dC : Nat → ClassId) (dI : Nat → Nat → Nat) (cI cJ cZ : ClassId) (K : Nat) (p0 : Int32) (sz : Nat) (rv : Int32) (uv : Unit) (hm : m_X11_powerFrom K p0 = some (rv, uv)) : Met l yX11_powerFrom wsX11_powerFrom rm_X11_powerFrom (zz_pre dC dI [(cI, .int), (cJ, .long), (cZ, .boolean)] [] sz [.int p0]) (va_Qi (fun r u => rv = r ∧ uv = u) (fun u t => zz_wo dC dI [(cI, .int), (cJ, .long), (cZ, .boolean)] (va_A [] sz) (ce_no cI cJ cZ u) t) (va_A [] sz)) 0 0 (va_A [] sz) := by
  refine Met.ofW (cc := cX11_powerFrom) (maxL := 2) (ret := (some .int)) (by decide) rfl ?_
  intro p e s m args below meth c s₁ B hml hv
  obtain ⟨rfl, hsz, hP, hK, hD0, hN⟩ := hv
  have hx := B.exec
  have hb := B.bytes
  have hr := B.returns
  have hts := atoms_spec (ws := wsX11_powerFrom) B.pre
  have hown : s.vm.findClass RX11 = some m.cls := findClass_of_methodNamed B.named
  have hlocks := B.notSynchronized
  have hS0 : CallFix p m c cX11_powerFrom 2 s #[.int p0] wsX11_powerFrom RX11 := ⟨hx, hb, hml, hown, hts⟩
  subst hsz
  have hD := hD0.self (sz := s.heap.size)
  generalize hAe : va_A [] s.heap.size = A at hD ⊢
  have hA : ∀ q : Nat, s.heap.size ≤ q → A q := fun q h => by rw [← hAe]; exact Or.inr h
  have hS : va_S A s.heap s.heap [] := va_S.rf
  have hl := lv_entry ([.int p0]) (n := 2) (Nat.le_of_ble_eq_true rfl)
  rw [lg_entry_eq]
  generalize (lg_sl ([.int p0]) ++ List.replicate (2 - (lg_sl ([.int p0])).length) Slot.unset).toArray = ls at hl ⊢
  have hl : lv_has ls 2 [(0, .int p0)] := hl
  unfold m_X11_powerFrom at hm
  refine lv_iconst (v := 1) hx hb dX11_powerFrom_0 (by decide) ?_
  refine lv_istore_n (lv' := [(1, .int ((1 : Int32))), (0, .int p0)]) hx hb dX11_powerFrom_1 rfl hl (by decide) rfl (fun ls hl => ?_)
  exact w_X11_powerFrom_L2 dC dI cI cJ cZ K A rv uv hS0 hr hlocks hA hK hN K p0 ((1 : Int32)) _ _ _ hm hP hD hS (lv_sub hl [1, 0] rfl)
abbrev rm_X4_listOf : Room := { frames := 0, cells := 0, slots := 0, locals := 0 }
def m_X4_listOf_L6 (K : Nat) : Nat → Int32 → Int32 → Int32 → Int32 → Option (Int32 × Unit)
  | 0, _, _, _, _ => none
  | k + 1, x0, x1, x2, x3 =>
    if ((10 : Int32)) ≤ x3 then some ((((4 : Int32)) * x1) + ((((4 : Int32)) * (x0 - x2)) >>> (x1 &&& 31)), ())
    else (if x0 < (x2 + x2) then some ((((4 : Int32)) * x1) + ((((4 : Int32)) * (x0 - x2)) >>> (x1 &&& 31)), ())
    else m_X4_listOf_L6 K k x0 (x1 + 1) (x2 + x2) (x3 + 1))
theorem m_X4_listOf_L6_s (K : Nat) (k : Nat) (x0 : Int32) (x1 : Int32) (x2 : Int32) (x3 : Int32) : m_X4_listOf_L6 K (k + 1) x0 x1 x2 x3 =
    (if ((10 : Int32)) ≤ x3 then some ((((4 : Int32)) * x1) + ((((4 : Int32)) * (x0 - x2)) >>> (x1 &&& 31)), ())
    else (if x0 < (x2 + x2) then some ((((4 : Int32)) * x1) + ((((4 : Int32)) * (x0 - x2)) >>> (x1 &&& 31)), ())
    else m_X4_listOf_L6 K k x0 (x1 + 1) (x2 + x2) (x3 + 1))) := rfl
set_option maxHeartbeats 4000000 in
set_option maxRecDepth 100000 in
theorem w_X4_listOf_L6 {p : Program} {l : Launch} {e : Env} {s : State} {m : MethodId} {args : Array Value} {below : List Frame} {meth : Method} {c : Code} (dC : Nat → ClassId) (dI : Nat → Nat → Nat) (cI cJ cZ : ClassId) (K : Nat) (A : Nat → Prop) (rv : Int32) (uv : Unit) (hS0 : CallFix p m c cX4_listOf 4 s args wsX4_listOf RX4) (hr : meth.sig.returnType = (some .int)) (hlocks : meth.locks = false) (hA : ∀ q : Nat, s.heap.size ≤ q → A q) (hK : va_K (dC, dI) vwCl [(cI, .int), (cJ, .long), (cZ, .boolean)] s) (hN : zz_nw s) : ∀ (k : Nat) (x0 : Int32) (x1 : Int32) (x2 : Int32) (x3 : Int32) (H : Heap) (locs : List Loc) (ls : Array Slot), m_X4_listOf_L6 K k x0 x1 x2 x3 = some (rv, uv) → va_P (dC, dI) vwCl [] H → va_D A [] → va_S A s.heap H locs → lv_has ls 4 [(0, .int x0), (1, .int x1), (2, .int x2), (3, .int x3)] → W p l e rm_X4_listOf s m args below meth c H locs 0 0 (MQ below (va_Qi (fun r u => rv = r ∧ uv = u) (fun u t => zz_wo dC dI [(cI, .int), (cJ, .long), (cZ, .boolean)] A (ce_no cI cJ cZ u) t) A) args s 0 0 A) (F0 m 6 ls []) := by
  obtain ⟨hx, hb, hml, hown, hts⟩ := id hS0
  intro k
  induction k with
  | zero =>
    intro _ _ _ _ _ _ _ hm
    have hm9 : (none : Option (Int32 × Unit)) = some _ := hm
    cases hm9
  | succ k ih =>
    intro x0 x1 x2 x3 H locs ls hm hP hD hS hl
    rw [m_X4_listOf_L6_s] at hm
    refine lv_iload_n hx hb dX4_listOf_6 rfl (lv_at hl 3 rfl) ?_
    refine lv_bipush (v := 10) hx hb dX4_listOf_7 (by decide) ?_
    refine lv_icmp_ge (tgt := 32) hx hb dX4_listOf_9 (by decide) (fun c_1 => ?_) (fun c_1 => ?_)
    · replace hm := zz_t c_1 hm
      refine lv_iconst (v := 4) hx hb dX4_listOf_32 (by decide) ?_
      refine lv_iload_n hx hb dX4_listOf_33 rfl (lv_at hl 1 rfl) ?_
      refine lv_imul hx hb dX4_listOf_34 ?_
      refine lv_iconst (v := 4) hx hb dX4_listOf_35 (by decide) ?_
      refine lv_iload_n hx hb dX4_listOf_36 rfl (lv_at hl 0 rfl) ?_
      refine lv_iload_n hx hb dX4_listOf_37 rfl (lv_at hl 2 rfl) ?_
      refine lv_isub hx hb dX4_listOf_38 ?_
      refine lv_imul hx hb dX4_listOf_39 ?_
      refine lv_iload_n hx hb dX4_listOf_40 rfl (lv_at hl 1 rfl) ?_
      refine lv_ishr hx hb dX4_listOf_41 ?_
      refine lv_iadd hx hb dX4_listOf_42 ?_
      have hm := Option.some.inj hm
      exact W.iret (v := (((4 : Int32)) * x1) + ((((4 : Int32)) * (x0 - x2)) >>> (x1 &&& 31))) hx hb hr (fun t ht hW => ⟨⟨(((4 : Int32)) * x1) + ((((4 : Int32)) * (x0 - x2)) >>> (x1 &&& 31)), (), rfl, ⟨(congrArg (·.1) hm).symm, (congrArg (·.2) hm).symm⟩, by rw [ht]; exact hP, va_K.moved hW.alike hK, hD⟩, hS.F ht⟩) hS.2.2 dX4_listOf_43
    · replace hm := zz_f c_1 hm
      refine lv_iload_n hx hb dX4_listOf_12 rfl (lv_at hl 2 rfl) ?_
      refine lv_iload_n hx hb dX4_listOf_13 rfl (lv_at hl 2 rfl) ?_
      refine lv_iadd hx hb dX4_listOf_14 ?_
      refine lv_iload_n hx hb dX4_listOf_15 rfl (lv_at hl 0 rfl) ?_
      refine lv_icmp_gt (tgt := 32) hx hb dX4_listOf_16 (by decide) (fun c_2 => ?_) (fun c_2 => ?_)
      · replace hm := zz_t c_2 hm
        refine lv_iconst (v := 4) hx hb dX4_listOf_32 (by decide) ?_
        refine lv_iload_n hx hb dX4_listOf_33 rfl (lv_at hl 1 rfl) ?_
        refine lv_imul hx hb dX4_listOf_34 ?_
        refine lv_iconst (v := 4) hx hb dX4_listOf_35 (by decide) ?_
        refine lv_iload_n hx hb dX4_listOf_36 rfl (lv_at hl 0 rfl) ?_
        refine lv_iload_n hx hb dX4_listOf_37 rfl (lv_at hl 2 rfl) ?_
        refine lv_isub hx hb dX4_listOf_38 ?_
        refine lv_imul hx hb dX4_listOf_39 ?_
        refine lv_iload_n hx hb dX4_listOf_40 rfl (lv_at hl 1 rfl) ?_
        refine lv_ishr hx hb dX4_listOf_41 ?_
        refine lv_iadd hx hb dX4_listOf_42 ?_
        have hm := Option.some.inj hm
        exact W.iret (v := (((4 : Int32)) * x1) + ((((4 : Int32)) * (x0 - x2)) >>> (x1 &&& 31))) hx hb hr (fun t ht hW => ⟨⟨(((4 : Int32)) * x1) + ((((4 : Int32)) * (x0 - x2)) >>> (x1 &&& 31)), (), rfl, ⟨(congrArg (·.1) hm).symm, (congrArg (·.2) hm).symm⟩, by rw [ht]; exact hP, va_K.moved hW.alike hK, hD⟩, hS.F ht⟩) hS.2.2 dX4_listOf_43
      · replace hm := zz_f c_2 hm
        refine lv_iload_n hx hb dX4_listOf_19 rfl (lv_at hl 2 rfl) ?_
        refine lv_iload_n hx hb dX4_listOf_20 rfl (lv_at hl 2 rfl) ?_
        refine lv_iadd hx hb dX4_listOf_21 ?_
        refine lv_istore_n (lv' := [(2, .int (x2 + x2)), (0, .int x0), (1, .int x1), (3, .int x3)]) hx hb dX4_listOf_22 rfl hl (by decide) rfl (fun ls hl => ?_)
        refine lv_iinc (v := x1 + 1) (lv' := [(1, .int (x1 + 1)), (2, .int (x2 + x2)), (0, .int x0), (3, .int x3)]) hx hb dX4_listOf_23 hl (k := 2) rfl rfl (by decide) rfl (fun ls hl => ?_)
        refine lv_iinc (v := x3 + 1) (lv' := [(3, .int (x3 + 1)), (1, .int (x1 + 1)), (2, .int (x2 + x2)), (0, .int x0)]) hx hb dX4_listOf_26 hl (k := 3) rfl rfl (by decide) rfl (fun ls hl => ?_)
        refine lv_goto (tgt := 6) hx hb dX4_listOf_29 (by decide) ?_
        exact ih x0 (x1 + 1) (x2 + x2) (x3 + 1) _ _ _ hm hP hD hS (lv_sub hl [3, 1, 2, 0] rfl)
def m_X4_listOf (K : Nat) (p0 : Int32) : Option (Int32 × Unit) :=
  m_X4_listOf_L6 K K p0 ((0 : Int32)) ((1 : Int32)) ((0 : Int32))
set_option maxHeartbeats 4000000 in
set_option maxRecDepth 100000 in
theorem c_X4_listOf (l : Launch) (dC : Nat → ClassId) (dI : Nat → Nat → Nat) (cI cJ cZ : ClassId) (K : Nat) (p0 : Int32) (sz : Nat) (rv : Int32) (uv : Unit) (hm : m_X4_listOf K p0 = some (rv, uv)) : Met l yX4_listOf wsX4_listOf rm_X4_listOf (zz_pre dC dI [(cI, .int), (cJ, .long), (cZ, .boolean)] [] sz [.int p0]) (va_Qi (fun r u => rv = r ∧ uv = u) (fun u t => zz_wo dC dI [(cI, .int), (cJ, .long), (cZ, .boolean)] (va_A [] sz) (ce_no cI cJ cZ u) t) (va_A [] sz)) 0 0 (va_A [] sz) := by
  refine Met.ofW (cc := cX4_listOf) (maxL := 4) (ret := (some .int)) (by decide) rfl ?_
  intro p e s m args below meth c s₁ B hml hv
  obtain ⟨rfl, hsz, hP, hK, hD0, hN⟩ := hv
  have hx := B.exec
  have hb := B.bytes
  have hr := B.returns
  have hts := atoms_spec (ws := wsX4_listOf) B.pre
  have hown : s.vm.findClass RX4 = some m.cls := findClass_of_methodNamed B.named
  have hlocks := B.notSynchronized
  have hS0 : CallFix p m c cX4_listOf 4 s #[.int p0] wsX4_listOf RX4 := ⟨hx, hb, hml, hown, hts⟩
  subst hsz
  have hD := hD0.self (sz := s.heap.size)
  generalize hAe : va_A [] s.heap.size = A at hD ⊢
  have hA : ∀ q : Nat, s.heap.size ≤ q → A q := fun q h => by rw [← hAe]; exact Or.inr h
  have hS : va_S A s.heap s.heap [] := va_S.rf
  have hl := lv_entry ([.int p0]) (n := 4) (Nat.le_of_ble_eq_true rfl)
  rw [lg_entry_eq]
  generalize (lg_sl ([.int p0]) ++ List.replicate (4 - (lg_sl ([.int p0])).length) Slot.unset).toArray = ls at hl ⊢
  have hl : lv_has ls 4 [(0, .int p0)] := hl
  unfold m_X4_listOf at hm
  refine lv_iconst (v := 0) hx hb dX4_listOf_0 (by decide) ?_
  refine lv_istore_n (lv' := [(1, .int ((0 : Int32))), (0, .int p0)]) hx hb dX4_listOf_1 rfl hl (by decide) rfl (fun ls hl => ?_)
  refine lv_iconst (v := 1) hx hb dX4_listOf_2 (by decide) ?_
  refine lv_istore_n (lv' := [(2, .int ((1 : Int32))), (1, .int ((0 : Int32))), (0, .int p0)]) hx hb dX4_listOf_3 rfl hl (by decide) rfl (fun ls hl => ?_)
  refine lv_iconst (v := 0) hx hb dX4_listOf_4 (by decide) ?_
  refine lv_istore_n (lv' := [(3, .int ((0 : Int32))), (2, .int ((1 : Int32))), (1, .int ((0 : Int32))), (0, .int p0)]) hx hb dX4_listOf_5 rfl hl (by decide) rfl (fun ls hl => ?_)
  exact w_X4_listOf_L6 dC dI cI cJ cZ K A rv uv hS0 hr hlocks hA hK hN K p0 ((0 : Int32)) ((1 : Int32)) ((0 : Int32)) _ _ _ hm hP hD hS (lv_sub hl [3, 2, 1, 0] rfl)
abbrev rm_J6_bitCount_0f7a4 : Room := { frames := 0, cells := 0, slots := 0, locals := 0 }
def m_J6_bitCount_0f7a4 (K : Nat) (p0 : Int32) : Option (Int32 × Unit) :=
  some ((((((((p0 - (((p0.toUInt32 >>> (((1 : Int32)).toUInt32 &&& Int32.toUInt32 31)).toInt32) &&& ((1431655765 : Int32)))) &&& ((858993459 : Int32))) + ((((p0 - (((p0.toUInt32 >>> (((1 : Int32)).toUInt32 &&& Int32.toUInt32 31)).toInt32) &&& ((1431655765 : Int32)))).toUInt32 >>> (((2 : Int32)).toUInt32 &&& Int32.toUInt32 31)).toInt32) &&& ((858993459 : Int32)))) + (((((p0 - (((p0.toUInt32 >>> (((1 : Int32)).toUInt32 &&& Int32.toUInt32 31)).toInt32) &&& ((1431655765 : Int32)))) &&& ((858993459 : Int32))) + ((((p0 - (((p0.toUInt32 >>> (((1 : Int32)).toUInt32 &&& Int32.toUInt32 31)).toInt32) &&& ((1431655765 : Int32)))).toUInt32 >>> (((2 : Int32)).toUInt32 &&& Int32.toUInt32 31)).toInt32) &&& ((858993459 : Int32)))).toUInt32 >>> (((4 : Int32)).toUInt32 &&& Int32.toUInt32 31)).toInt32)) &&& ((252645135 : Int32))) + (((((((p0 - (((p0.toUInt32 >>> (((1 : Int32)).toUInt32 &&& Int32.toUInt32 31)).toInt32) &&& ((1431655765 : Int32)))) &&& ((858993459 : Int32))) + ((((p0 - (((p0.toUInt32 >>> (((1 : Int32)).toUInt32 &&& Int32.toUInt32 31)).toInt32) &&& ((1431655765 : Int32)))).toUInt32 >>> (((2 : Int32)).toUInt32 &&& Int32.toUInt32 31)).toInt32) &&& ((858993459 : Int32)))) + (((((p0 - (((p0.toUInt32 >>> (((1 : Int32)).toUInt32 &&& Int32.toUInt32 31)).toInt32) &&& ((1431655765 : Int32)))) &&& ((858993459 : Int32))) + ((((p0 - (((p0.toUInt32 >>> (((1 : Int32)).toUInt32 &&& Int32.toUInt32 31)).toInt32) &&& ((1431655765 : Int32)))).toUInt32 >>> (((2 : Int32)).toUInt32 &&& Int32.toUInt32 31)).toInt32) &&& ((858993459 : Int32)))).toUInt32 >>> (((4 : Int32)).toUInt32 &&& Int32.toUInt32 31)).toInt32)) &&& ((252645135 : Int32))).toUInt32 >>> (((8 : Int32)).toUInt32 &&& Int32.toUInt32 31)).toInt32)) + ((((((((p0 - (((p0.toUInt32 >>> (((1 : Int32)).toUInt32 &&& Int32.toUInt32 31)).toInt32) &&& ((1431655765 : Int32)))) &&& ((858993459 : Int32))) + ((((p0 - (((p0.toUInt32 >>> (((1 : Int32)).toUInt32 &&& Int32.toUInt32 31)).toInt32) &&& ((1431655765 : Int32)))).toUInt32 >>> (((2 : Int32)).toUInt32 &&& Int32.toUInt32 31)).toInt32) &&& ((858993459 : Int32)))) + (((((p0 - (((p0.toUInt32 >>> (((1 : Int32)).toUInt32 &&& Int32.toUInt32 31)).toInt32) &&& ((1431655765 : Int32)))) &&& ((858993459 : Int32))) + ((((p0 - (((p0.toUInt32 >>> (((1 : Int32)).toUInt32 &&& Int32.toUInt32 31)).toInt32) &&& ((1431655765 : Int32)))).toUInt32 >>> (((2 : Int32)).toUInt32 &&& Int32.toUInt32 31)).toInt32) &&& ((858993459 : Int32)))).toUInt32 >>> (((4 : Int32)).toUInt32 &&& Int32.toUInt32 31)).toInt32)) &&& ((252645135 : Int32))) + (((((((p0 - (((p0.toUInt32 >>> (((1 : Int32)).toUInt32 &&& Int32.toUInt32 31)).toInt32) &&& ((1431655765 : Int32)))) &&& ((858993459 : Int32))) + ((((p0 - (((p0.toUInt32 >>> (((1 : Int32)).toUInt32 &&& Int32.toUInt32 31)).toInt32) &&& ((1431655765 : Int32)))).toUInt32 >>> (((2 : Int32)).toUInt32 &&& Int32.toUInt32 31)).toInt32) &&& ((858993459 : Int32)))) + (((((p0 - (((p0.toUInt32 >>> (((1 : Int32)).toUInt32 &&& Int32.toUInt32 31)).toInt32) &&& ((1431655765 : Int32)))) &&& ((858993459 : Int32))) + ((((p0 - (((p0.toUInt32 >>> (((1 : Int32)).toUInt32 &&& Int32.toUInt32 31)).toInt32) &&& ((1431655765 : Int32)))).toUInt32 >>> (((2 : Int32)).toUInt32 &&& Int32.toUInt32 31)).toInt32) &&& ((858993459 : Int32)))).toUInt32 >>> (((4 : Int32)).toUInt32 &&& Int32.toUInt32 31)).toInt32)) &&& ((252645135 : Int32))).toUInt32 >>> (((8 : Int32)).toUInt32 &&& Int32.toUInt32 31)).toInt32)).toUInt32 >>> (((16 : Int32)).toUInt32 &&& Int32.toUInt32 31)).toInt32)) &&& ((63 : Int32)), ())
set_option maxHeartbeats 4000000 in
set_option maxRecDepth 100000 in
theorem c_J6_bitCount_0f7a4 (l : Launch) (dC : Nat → ClassId) (dI : Nat → Nat → Nat) (cI cJ cZ : ClassId) (K : Nat) (p0 : Int32) (sz : Nat) (rv : Int32) (uv : Unit) (hm : m_J6_bitCount_0f7a4 K p0 = some (rv, uv)) : Met l yJ6_bitCount_0f7a4 wsJ6_bitCount_0f7a4 rm_J6_bitCount_0f7a4 (zz_pre dC dI [(cI, .int), (cJ, .long), (cZ, .boolean)] [] sz [.int p0]) (va_Qi (fun r u => rv = r ∧ uv = u) (fun u t => zz_wo dC dI [(cI, .int), (cJ, .long), (cZ, .boolean)] (va_A [] sz) (ce_no cI cJ cZ u) t) (va_A [] sz)) 0 0 (va_A [] sz) := by
  refine Met.ofW (cc := cJ6_bitCount_0f7a4) (maxL := 1) (ret := (some .int)) (by decide) rfl ?_
  intro p e s m args below meth c s₁ B hml hv
  obtain ⟨rfl, hsz, hP, hK, hD0, hN⟩ := hv
  have hx := B.exec
  have hb := B.bytes
  have hr := B.returns
  have hts := atoms_spec (ws := wsJ6_bitCount_0f7a4) B.pre
  have hown : s.vm.findClass RJ6 = some m.cls := findClass_of_methodNamed B.named
  have hlocks := B.notSynchronized
  have hS0 : CallFix p m c cJ6_bitCount_0f7a4 1 s #[.int p0] wsJ6_bitCount_0f7a4 RJ6 := ⟨hx, hb, hml, hown, hts⟩
  subst hsz
  have hD := hD0.self (sz := s.heap.size)
  generalize hAe : va_A [] s.heap.size = A at hD ⊢
  have hA : ∀ q : Nat, s.heap.size ≤ q → A q := fun q h => by rw [← hAe]; exact Or.inr h
  have hS : va_S A s.heap s.heap [] := va_S.rf
  have hl := lv_entry ([.int p0]) (n := 1) (Nat.le_of_ble_eq_true rfl)
  rw [lg_entry_eq]
  generalize (lg_sl ([.int p0]) ++ List.replicate (1 - (lg_sl ([.int p0])).length) Slot.unset).toArray = ls at hl ⊢
  have hl : lv_has ls 1 [(0, .int p0)] := hl
  unfold m_J6_bitCount_0f7a4 at hm
  refine lv_iload_n hx hb dJ6_bitCount_0f7a4_0 rfl (lv_at hl 0 rfl) ?_
  refine lv_iload_n hx hb dJ6_bitCount_0f7a4_1 rfl (lv_at hl 0 rfl) ?_
  refine lv_iconst (v := 1) hx hb dJ6_bitCount_0f7a4_2 (by decide) ?_
  refine lv_iushr hx hb dJ6_bitCount_0f7a4_3 rfl ?_
  refine lv_ldcw (v := (1431655765)) hx hb hown (hts (.constant RJ6 265 (1431655765)) (by decide +kernel)) dJ6_bitCount_0f7a4_4 ?_
  refine lv_iand hx hb dJ6_bitCount_0f7a4_7 ?_
  refine lv_isub hx hb dJ6_bitCount_0f7a4_8 ?_
  refine lv_istore_n (lv' := [(0, .int (p0 - (((p0.toUInt32 >>> (((1 : Int32)).toUInt32 &&& Int32.toUInt32 31)).toInt32) &&& ((1431655765 : Int32)))))]) hx hb dJ6_bitCount_0f7a4_9 rfl hl (by decide) rfl (fun ls hl => ?_)
  refine lv_iload_n hx hb dJ6_bitCount_0f7a4_10 rfl (lv_at hl 0 rfl) ?_
  refine lv_ldcw (v := (858993459)) hx hb hown (hts (.constant RJ6 266 (858993459)) (by decide +kernel)) dJ6_bitCount_0f7a4_11 ?_
  refine lv_iand hx hb dJ6_bitCount_0f7a4_14 ?_
  refine lv_iload_n hx hb dJ6_bitCount_0f7a4_15 rfl (lv_at hl 0 rfl) ?_
  refine lv_iconst (v := 2) hx hb dJ6_bitCount_0f7a4_16 (by decide) ?_
  refine lv_iushr hx hb dJ6_bitCount_0f7a4_17 rfl ?_
  refine lv_ldcw (v := (858993459)) hx hb hown (hts (.constant RJ6 266 (858993459)) (by decide +kernel)) dJ6_bitCount_0f7a4_18 ?_
  refine lv_iand hx hb dJ6_bitCount_0f7a4_21 ?_
  refine lv_iadd hx hb dJ6_bitCount_0f7a4_22 ?_
  refine lv_istore_n (lv' := [(0, .int (((p0 - (((p0.toUInt32 >>> (((1 : Int32)).toUInt32 &&& Int32.toUInt32 31)).toInt32) &&& ((1431655765 : Int32)))) &&& ((858993459 : Int32))) + ((((p0 - (((p0.toUInt32 >>> (((1 : Int32)).toUInt32 &&& Int32.toUInt32 31)).toInt32) &&& ((1431655765 : Int32)))).toUInt32 >>> (((2 : Int32)).toUInt32 &&& Int32.toUInt32 31)).toInt32) &&& ((858993459 : Int32)))))]) hx hb dJ6_bitCount_0f7a4_23 rfl hl (by decide) rfl (fun ls hl => ?_)
  refine lv_iload_n hx hb dJ6_bitCount_0f7a4_24 rfl (lv_at hl 0 rfl) ?_
  refine lv_iload_n hx hb dJ6_bitCount_0f7a4_25 rfl (lv_at hl 0 rfl) ?_
  refine lv_iconst (v := 4) hx hb dJ6_bitCount_0f7a4_26 (by decide) ?_
  refine lv_iushr hx hb dJ6_bitCount_0f7a4_27 rfl ?_
  refine lv_iadd hx hb dJ6_bitCount_0f7a4_28 ?_
  refine lv_ldcw (v := (252645135)) hx hb hown (hts (.constant RJ6 267 (252645135)) (by decide +kernel)) dJ6_bitCount_0f7a4_29 ?_
  refine lv_iand hx hb dJ6_bitCount_0f7a4_32 ?_
  refine lv_istore_n (lv' := [(0, .int (((((p0 - (((p0.toUInt32 >>> (((1 : Int32)).toUInt32 &&& Int32.toUInt32 31)).toInt32) &&& ((1431655765 : Int32)))) &&& ((858993459 : Int32))) + ((((p0 - (((p0.toUInt32 >>> (((1 : Int32)).toUInt32 &&& Int32.toUInt32 31)).toInt32) &&& ((1431655765 : Int32)))).toUInt32 >>> (((2 : Int32)).toUInt32 &&& Int32.toUInt32 31)).toInt32) &&& ((858993459 : Int32)))) + (((((p0 - (((p0.toUInt32 >>> (((1 : Int32)).toUInt32 &&& Int32.toUInt32 31)).toInt32) &&& ((1431655765 : Int32)))) &&& ((858993459 : Int32))) + ((((p0 - (((p0.toUInt32 >>> (((1 : Int32)).toUInt32 &&& Int32.toUInt32 31)).toInt32) &&& ((1431655765 : Int32)))).toUInt32 >>> (((2 : Int32)).toUInt32 &&& Int32.toUInt32 31)).toInt32) &&& ((858993459 : Int32)))).toUInt32 >>> (((4 : Int32)).toUInt32 &&& Int32.toUInt32 31)).toInt32)) &&& ((252645135 : Int32))))]) hx hb dJ6_bitCount_0f7a4_33 rfl hl (by decide) rfl (fun ls hl => ?_)
  refine lv_iload_n hx hb dJ6_bitCount_0f7a4_34 rfl (lv_at hl 0 rfl) ?_
  refine lv_iload_n hx hb dJ6_bitCount_0f7a4_35 rfl (lv_at hl 0 rfl) ?_
  refine lv_bipush (v := 8) hx hb dJ6_bitCount_0f7a4_36 (by decide) ?_
  refine lv_iushr hx hb dJ6_bitCount_0f7a4_38 rfl ?_
  refine lv_iadd hx hb dJ6_bitCount_0f7a4_39 ?_
  refine lv_istore_n (lv' := [(0, .int ((((((p0 - (((p0.toUInt32 >>> (((1 : Int32)).toUInt32 &&& Int32.toUInt32 31)).toInt32) &&& ((1431655765 : Int32)))) &&& ((858993459 : Int32))) + ((((p0 - (((p0.toUInt32 >>> (((1 : Int32)).toUInt32 &&& Int32.toUInt32 31)).toInt32) &&& ((1431655765 : Int32)))).toUInt32 >>> (((2 : Int32)).toUInt32 &&& Int32.toUInt32 31)).toInt32) &&& ((858993459 : Int32)))) + (((((p0 - (((p0.toUInt32 >>> (((1 : Int32)).toUInt32 &&& Int32.toUInt32 31)).toInt32) &&& ((1431655765 : Int32)))) &&& ((858993459 : Int32))) + ((((p0 - (((p0.toUInt32 >>> (((1 : Int32)).toUInt32 &&& Int32.toUInt32 31)).toInt32) &&& ((1431655765 : Int32)))).toUInt32 >>> (((2 : Int32)).toUInt32 &&& Int32.toUInt32 31)).toInt32) &&& ((858993459 : Int32)))).toUInt32 >>> (((4 : Int32)).toUInt32 &&& Int32.toUInt32 31)).toInt32)) &&& ((252645135 : Int32))) + (((((((p0 - (((p0.toUInt32 >>> (((1 : Int32)).toUInt32 &&& Int32.toUInt32 31)).toInt32) &&& ((1431655765 : Int32)))) &&& ((858993459 : Int32))) + ((((p0 - (((p0.toUInt32 >>> (((1 : Int32)).toUInt32 &&& Int32.toUInt32 31)).toInt32) &&& ((1431655765 : Int32)))).toUInt32 >>> (((2 : Int32)).toUInt32 &&& Int32.toUInt32 31)).toInt32) &&& ((858993459 : Int32)))) + (((((p0 - (((p0.toUInt32 >>> (((1 : Int32)).toUInt32 &&& Int32.toUInt32 31)).toInt32) &&& ((1431655765 : Int32)))) &&& ((858993459 : Int32))) + ((((p0 - (((p0.toUInt32 >>> (((1 : Int32)).toUInt32 &&& Int32.toUInt32 31)).toInt32) &&& ((1431655765 : Int32)))).toUInt32 >>> (((2 : Int32)).toUInt32 &&& Int32.toUInt32 31)).toInt32) &&& ((858993459 : Int32)))).toUInt32 >>> (((4 : Int32)).toUInt32 &&& Int32.toUInt32 31)).toInt32)) &&& ((252645135 : Int32))).toUInt32 >>> (((8 : Int32)).toUInt32 &&& Int32.toUInt32 31)).toInt32)))]) hx hb dJ6_bitCount_0f7a4_40 rfl hl (by decide) rfl (fun ls hl => ?_)
  refine lv_iload_n hx hb dJ6_bitCount_0f7a4_41 rfl (lv_at hl 0 rfl) ?_
  refine lv_iload_n hx hb dJ6_bitCount_0f7a4_42 rfl (lv_at hl 0 rfl) ?_
  refine lv_bipush (v := 16) hx hb dJ6_bitCount_0f7a4_43 (by decide) ?_
  refine lv_iushr hx hb dJ6_bitCount_0f7a4_45 rfl ?_
  refine lv_iadd hx hb dJ6_bitCount_0f7a4_46 ?_
  refine lv_istore_n (lv' := [(0, .int (((((((p0 - (((p0.toUInt32 >>> (((1 : Int32)).toUInt32 &&& Int32.toUInt32 31)).toInt32) &&& ((1431655765 : Int32)))) &&& ((858993459 : Int32))) + ((((p0 - (((p0.toUInt32 >>> (((1 : Int32)).toUInt32 &&& Int32.toUInt32 31)).toInt32) &&& ((1431655765 : Int32)))).toUInt32 >>> (((2 : Int32)).toUInt32 &&& Int32.toUInt32 31)).toInt32) &&& ((858993459 : Int32)))) + (((((p0 - (((p0.toUInt32 >>> (((1 : Int32)).toUInt32 &&& Int32.toUInt32 31)).toInt32) &&& ((1431655765 : Int32)))) &&& ((858993459 : Int32))) + ((((p0 - (((p0.toUInt32 >>> (((1 : Int32)).toUInt32 &&& Int32.toUInt32 31)).toInt32) &&& ((1431655765 : Int32)))).toUInt32 >>> (((2 : Int32)).toUInt32 &&& Int32.toUInt32 31)).toInt32) &&& ((858993459 : Int32)))).toUInt32 >>> (((4 : Int32)).toUInt32 &&& Int32.toUInt32 31)).toInt32)) &&& ((252645135 : Int32))) + (((((((p0 - (((p0.toUInt32 >>> (((1 : Int32)).toUInt32 &&& Int32.toUInt32 31)).toInt32) &&& ((1431655765 : Int32)))) &&& ((858993459 : Int32))) + ((((p0 - (((p0.toUInt32 >>> (((1 : Int32)).toUInt32 &&& Int32.toUInt32 31)).toInt32) &&& ((1431655765 : Int32)))).toUInt32 >>> (((2 : Int32)).toUInt32 &&& Int32.toUInt32 31)).toInt32) &&& ((858993459 : Int32)))) + (((((p0 - (((p0.toUInt32 >>> (((1 : Int32)).toUInt32 &&& Int32.toUInt32 31)).toInt32) &&& ((1431655765 : Int32)))) &&& ((858993459 : Int32))) + ((((p0 - (((p0.toUInt32 >>> (((1 : Int32)).toUInt32 &&& Int32.toUInt32 31)).toInt32) &&& ((1431655765 : Int32)))).toUInt32 >>> (((2 : Int32)).toUInt32 &&& Int32.toUInt32 31)).toInt32) &&& ((858993459 : Int32)))).toUInt32 >>> (((4 : Int32)).toUInt32 &&& Int32.toUInt32 31)).toInt32)) &&& ((252645135 : Int32))).toUInt32 >>> (((8 : Int32)).toUInt32 &&& Int32.toUInt32 31)).toInt32)) + ((((((((p0 - (((p0.toUInt32 >>> (((1 : Int32)).toUInt32 &&& Int32.toUInt32 31)).toInt32) &&& ((1431655765 : Int32)))) &&& ((858993459 : Int32))) + ((((p0 - (((p0.toUInt32 >>> (((1 : Int32)).toUInt32 &&& Int32.toUInt32 31)).toInt32) &&& ((1431655765 : Int32)))).toUInt32 >>> (((2 : Int32)).toUInt32 &&& Int32.toUInt32 31)).toInt32) &&& ((858993459 : Int32)))) + (((((p0 - (((p0.toUInt32 >>> (((1 : Int32)).toUInt32 &&& Int32.toUInt32 31)).toInt32) &&& ((1431655765 : Int32)))) &&& ((858993459 : Int32))) + ((((p0 - (((p0.toUInt32 >>> (((1 : Int32)).toUInt32 &&& Int32.toUInt32 31)).toInt32) &&& ((1431655765 : Int32)))).toUInt32 >>> (((2 : Int32)).toUInt32 &&& Int32.toUInt32 31)).toInt32) &&& ((858993459 : Int32)))).toUInt32 >>> (((4 : Int32)).toUInt32 &&& Int32.toUInt32 31)).toInt32)) &&& ((252645135 : Int32))) + (((((((p0 - (((p0.toUInt32 >>> (((1 : Int32)).toUInt32 &&& Int32.toUInt32 31)).toInt32) &&& ((1431655765 : Int32)))) &&& ((858993459 : Int32))) + ((((p0 - (((p0.toUInt32 >>> (((1 : Int32)).toUInt32 &&& Int32.toUInt32 31)).toInt32) &&& ((1431655765 : Int32)))).toUInt32 >>> (((2 : Int32)).toUInt32 &&& Int32.toUInt32 31)).toInt32) &&& ((858993459 : Int32)))) + (((((p0 - (((p0.toUInt32 >>> (((1 : Int32)).toUInt32 &&& Int32.toUInt32 31)).toInt32) &&& ((1431655765 : Int32)))) &&& ((858993459 : Int32))) + ((((p0 - (((p0.toUInt32 >>> (((1 : Int32)).toUInt32 &&& Int32.toUInt32 31)).toInt32) &&& ((1431655765 : Int32)))).toUInt32 >>> (((2 : Int32)).toUInt32 &&& Int32.toUInt32 31)).toInt32) &&& ((858993459 : Int32)))).toUInt32 >>> (((4 : Int32)).toUInt32 &&& Int32.toUInt32 31)).toInt32)) &&& ((252645135 : Int32))).toUInt32 >>> (((8 : Int32)).toUInt32 &&& Int32.toUInt32 31)).toInt32)).toUInt32 >>> (((16 : Int32)).toUInt32 &&& Int32.toUInt32 31)).toInt32)))]) hx hb dJ6_bitCount_0f7a4_47 rfl hl (by decide) rfl (fun ls hl => ?_)
  refine lv_iload_n hx hb dJ6_bitCount_0f7a4_48 rfl (lv_at hl 0 rfl) ?_
  refine lv_bipush (v := 63) hx hb dJ6_bitCount_0f7a4_49 (by decide) ?_
  refine lv_iand hx hb dJ6_bitCount_0f7a4_51 ?_
  have hm := Option.some.inj hm
  exact W.iret (v := (((((((p0 - (((p0.toUInt32 >>> (((1 : Int32)).toUInt32 &&& Int32.toUInt32 31)).toInt32) &&& ((1431655765 : Int32)))) &&& ((858993459 : Int32))) + ((((p0 - (((p0.toUInt32 >>> (((1 : Int32)).toUInt32 &&& Int32.toUInt32 31)).toInt32) &&& ((1431655765 : Int32)))).toUInt32 >>> (((2 : Int32)).toUInt32 &&& Int32.toUInt32 31)).toInt32) &&& ((858993459 : Int32)))) + (((((p0 - (((p0.toUInt32 >>> (((1 : Int32)).toUInt32 &&& Int32.toUInt32 31)).toInt32) &&& ((1431655765 : Int32)))) &&& ((858993459 : Int32))) + ((((p0 - (((p0.toUInt32 >>> (((1 : Int32)).toUInt32 &&& Int32.toUInt32 31)).toInt32) &&& ((1431655765 : Int32)))).toUInt32 >>> (((2 : Int32)).toUInt32 &&& Int32.toUInt32 31)).toInt32) &&& ((858993459 : Int32)))).toUInt32 >>> (((4 : Int32)).toUInt32 &&& Int32.toUInt32 31)).toInt32)) &&& ((252645135 : Int32))) + (((((((p0 - (((p0.toUInt32 >>> (((1 : Int32)).toUInt32 &&& Int32.toUInt32 31)).toInt32) &&& ((1431655765 : Int32)))) &&& ((858993459 : Int32))) + ((((p0 - (((p0.toUInt32 >>> (((1 : Int32)).toUInt32 &&& Int32.toUInt32 31)).toInt32) &&& ((1431655765 : Int32)))).toUInt32 >>> (((2 : Int32)).toUInt32 &&& Int32.toUInt32 31)).toInt32) &&& ((858993459 : Int32)))) + (((((p0 - (((p0.toUInt32 >>> (((1 : Int32)).toUInt32 &&& Int32.toUInt32 31)).toInt32) &&& ((1431655765 : Int32)))) &&& ((858993459 : Int32))) + ((((p0 - (((p0.toUInt32 >>> (((1 : Int32)).toUInt32 &&& Int32.toUInt32 31)).toInt32) &&& ((1431655765 : Int32)))).toUInt32 >>> (((2 : Int32)).toUInt32 &&& Int32.toUInt32 31)).toInt32) &&& ((858993459 : Int32)))).toUInt32 >>> (((4 : Int32)).toUInt32 &&& Int32.toUInt32 31)).toInt32)) &&& ((252645135 : Int32))).toUInt32 >>> (((8 : Int32)).toUInt32 &&& Int32.toUInt32 31)).toInt32)) + ((((((((p0 - (((p0.toUInt32 >>> (((1 : Int32)).toUInt32 &&& Int32.toUInt32 31)).toInt32) &&& ((1431655765 : Int32)))) &&& ((858993459 : Int32))) + ((((p0 - (((p0.toUInt32 >>> (((1 : Int32)).toUInt32 &&& Int32.toUInt32 31)).toInt32) &&& ((1431655765 : Int32)))).toUInt32 >>> (((2 : Int32)).toUInt32 &&& Int32.toUInt32 31)).toInt32) &&& ((858993459 : Int32)))) + (((((p0 - (((p0.toUInt32 >>> (((1 : Int32)).toUInt32 &&& Int32.toUInt32 31)).toInt32) &&& ((1431655765 : Int32)))) &&& ((858993459 : Int32))) + ((((p0 - (((p0.toUInt32 >>> (((1 : Int32)).toUInt32 &&& Int32.toUInt32 31)).toInt32) &&& ((1431655765 : Int32)))).toUInt32 >>> (((2 : Int32)).toUInt32 &&& Int32.toUInt32 31)).toInt32) &&& ((858993459 : Int32)))).toUInt32 >>> (((4 : Int32)).toUInt32 &&& Int32.toUInt32 31)).toInt32)) &&& ((252645135 : Int32))) + (((((((p0 - (((p0.toUInt32 >>> (((1 : Int32)).toUInt32 &&& Int32.toUInt32 31)).toInt32) &&& ((1431655765 : Int32)))) &&& ((858993459 : Int32))) + ((((p0 - (((p0.toUInt32 >>> (((1 : Int32)).toUInt32 &&& Int32.toUInt32 31)).toInt32) &&& ((1431655765 : Int32)))).toUInt32 >>> (((2 : Int32)).toUInt32 &&& Int32.toUInt32 31)).toInt32) &&& ((858993459 : Int32)))) + (((((p0 - (((p0.toUInt32 >>> (((1 : Int32)).toUInt32 &&& Int32.toUInt32 31)).toInt32) &&& ((1431655765 : Int32)))) &&& ((858993459 : Int32))) + ((((p0 - (((p0.toUInt32 >>> (((1 : Int32)).toUInt32 &&& Int32.toUInt32 31)).toInt32) &&& ((1431655765 : Int32)))).toUInt32 >>> (((2 : Int32)).toUInt32 &&& Int32.toUInt32 31)).toInt32) &&& ((858993459 : Int32)))).toUInt32 >>> (((4 : Int32)).toUInt32 &&& Int32.toUInt32 31)).toInt32)) &&& ((252645135 : Int32))).toUInt32 >>> (((8 : Int32)).toUInt32 &&& Int32.toUInt32 31)).toInt32)).toUInt32 >>> (((16 : Int32)).toUInt32 &&& Int32.toUInt32 31)).toInt32)) &&& ((63 : Int32))) hx hb hr (fun t ht hW => ⟨⟨(((((((p0 - (((p0.toUInt32 >>> (((1 : Int32)).toUInt32 &&& Int32.toUInt32 31)).toInt32) &&& ((1431655765 : Int32)))) &&& ((858993459 : Int32))) + ((((p0 - (((p0.toUInt32 >>> (((1 : Int32)).toUInt32 &&& Int32.toUInt32 31)).toInt32) &&& ((1431655765 : Int32)))).toUInt32 >>> (((2 : Int32)).toUInt32 &&& Int32.toUInt32 31)).toInt32) &&& ((858993459 : Int32)))) + (((((p0 - (((p0.toUInt32 >>> (((1 : Int32)).toUInt32 &&& Int32.toUInt32 31)).toInt32) &&& ((1431655765 : Int32)))) &&& ((858993459 : Int32))) + ((((p0 - (((p0.toUInt32 >>> (((1 : Int32)).toUInt32 &&& Int32.toUInt32 31)).toInt32) &&& ((1431655765 : Int32)))).toUInt32 >>> (((2 : Int32)).toUInt32 &&& Int32.toUInt32 31)).toInt32) &&& ((858993459 : Int32)))).toUInt32 >>> (((4 : Int32)).toUInt32 &&& Int32.toUInt32 31)).toInt32)) &&& ((252645135 : Int32))) + (((((((p0 - (((p0.toUInt32 >>> (((1 : Int32)).toUInt32 &&& Int32.toUInt32 31)).toInt32) &&& ((1431655765 : Int32)))) &&& ((858993459 : Int32))) + ((((p0 - (((p0.toUInt32 >>> (((1 : Int32)).toUInt32 &&& Int32.toUInt32 31)).toInt32) &&& ((1431655765 : Int32)))).toUInt32 >>> (((2 : Int32)).toUInt32 &&& Int32.toUInt32 31)).toInt32) &&& ((858993459 : Int32)))) + (((((p0 - (((p0.toUInt32 >>> (((1 : Int32)).toUInt32 &&& Int32.toUInt32 31)).toInt32) &&& ((1431655765 : Int32)))) &&& ((858993459 : Int32))) + ((((p0 - (((p0.toUInt32 >>> (((1 : Int32)).toUInt32 &&& Int32.toUInt32 31)).toInt32) &&& ((1431655765 : Int32)))).toUInt32 >>> (((2 : Int32)).toUInt32 &&& Int32.toUInt32 31)).toInt32) &&& ((858993459 : Int32)))).toUInt32 >>> (((4 : Int32)).toUInt32 &&& Int32.toUInt32 31)).toInt32)) &&& ((252645135 : Int32))).toUInt32 >>> (((8 : Int32)).toUInt32 &&& Int32.toUInt32 31)).toInt32)) + ((((((((p0 - (((p0.toUInt32 >>> (((1 : Int32)).toUInt32 &&& Int32.toUInt32 31)).toInt32) &&& ((1431655765 : Int32)))) &&& ((858993459 : Int32))) + ((((p0 - (((p0.toUInt32 >>> (((1 : Int32)).toUInt32 &&& Int32.toUInt32 31)).toInt32) &&& ((1431655765 : Int32)))).toUInt32 >>> (((2 : Int32)).toUInt32 &&& Int32.toUInt32 31)).toInt32) &&& ((858993459 : Int32)))) + (((((p0 - (((p0.toUInt32 >>> (((1 : Int32)).toUInt32 &&& Int32.toUInt32 31)).toInt32) &&& ((1431655765 : Int32)))) &&& ((858993459 : Int32))) + ((((p0 - (((p0.toUInt32 >>> (((1 : Int32)).toUInt32 &&& Int32.toUInt32 31)).toInt32) &&& ((1431655765 : Int32)))).toUInt32 >>> (((2 : Int32)).toUInt32 &&& Int32.toUInt32 31)).toInt32) &&& ((858993459 : Int32)))).toUInt32 >>> (((4 : Int32)).toUInt32 &&& Int32.toUInt32 31)).toInt32)) &&& ((252645135 : Int32))) + (((((((p0 - (((p0.toUInt32 >>> (((1 : Int32)).toUInt32 &&& Int32.toUInt32 31)).toInt32) &&& ((1431655765 : Int32)))) &&& ((858993459 : Int32))) + ((((p0 - (((p0.toUInt32 >>> (((1 : Int32)).toUInt32 &&& Int32.toUInt32 31)).toInt32) &&& ((1431655765 : Int32)))).toUInt32 >>> (((2 : Int32)).toUInt32 &&& Int32.toUInt32 31)).toInt32) &&& ((858993459 : Int32)))) + (((((p0 - (((p0.toUInt32 >>> (((1 : Int32)).toUInt32 &&& Int32.toUInt32 31)).toInt32) &&& ((1431655765 : Int32)))) &&& ((858993459 : Int32))) + ((((p0 - (((p0.toUInt32 >>> (((1 : Int32)).toUInt32 &&& Int32.toUInt32 31)).toInt32) &&& ((1431655765 : Int32)))).toUInt32 >>> (((2 : Int32)).toUInt32 &&& Int32.toUInt32 31)).toInt32) &&& ((858993459 : Int32)))).toUInt32 >>> (((4 : Int32)).toUInt32 &&& Int32.toUInt32 31)).toInt32)) &&& ((252645135 : Int32))).toUInt32 >>> (((8 : Int32)).toUInt32 &&& Int32.toUInt32 31)).toInt32)).toUInt32 >>> (((16 : Int32)).toUInt32 &&& Int32.toUInt32 31)).toInt32)) &&& ((63 : Int32)), (), rfl, ⟨(congrArg (·.1) hm).symm, (congrArg (·.2) hm).symm⟩, by rw [ht]; exact hP, va_K.moved hW.alike hK, hD⟩, hS.F ht⟩) hS.2.2 dJ6_bitCount_0f7a4_52
abbrev ce_aI (cI cJ cZ : ClassId) (q0 : Nat) (n0 : Nat) (u : (Nat → Int32)) : va_W := [(q0, .inl (cI, n0, .inl u))]
abbrev rm_J7_fill_53178 : Room := { frames := 0, cells := 0, slots := 0, locals := 0 }
def m_J7_fill_53178_L5 (K : Nat) (n0 : Nat) : Nat → Int32 → Int32 → Int32 → (Nat → Int32) → Option ((Nat → Int32))
  | 0, _, _, _, _ => none
  | k + 1, x1, x2, x3, s0 =>
    if x3 ≤ x2 then some s0
    else (if ¬ (x2 < 0 ∨ n0 ≤ x2.toNatClampNeg) then m_J7_fill_53178_L5 K n0 k x1 (x2 + 1) x3 (upd s0 x2.toNatClampNeg x1) else none)
theorem m_J7_fill_53178_L5_s (K : Nat) (n0 : Nat) (k : Nat) (x1 : Int32) (x2 : Int32) (x3 : Int32) (s0 : Nat → Int32) : m_J7_fill_53178_L5 K n0 (k + 1) x1 x2 x3 s0 =
    (if x3 ≤ x2 then some s0
    else (if ¬ (x2 < 0 ∨ n0 ≤ x2.toNatClampNeg) then m_J7_fill_53178_L5 K n0 k x1 (x2 + 1) x3 (upd s0 x2.toNatClampNeg x1) else none)) := rfl
set_option maxHeartbeats 4000000 in
set_option maxRecDepth 100000 in
theorem w_J7_fill_53178_L5 {p : Program} {l : Launch} {e : Env} {s : State} {m : MethodId} {args : Array Value} {below : List Frame} {meth : Method} {c : Code} (dC : Nat → ClassId) (dI : Nat → Nat → Nat) (cI cJ cZ : ClassId) (K : Nat) (q0 : Nat) (n0 : Nat) (A : Nat → Prop) (uv : (Nat → Int32)) (hS0 : CallFix p m c cJ7_fill_53178 4 s args wsJ7_fill_53178 RJ7) (hr : meth.sig.returnType = none) (hlocks : meth.locks = false) (hA : ∀ q : Nat, s.heap.size ≤ q → A q) (hK : va_K (dC, dI) vwCl [(cI, .int), (cJ, .long), (cZ, .boolean)] s) (hN : zz_nw s) : ∀ (k : Nat) (x1 : Int32) (x2 : Int32) (x3 : Int32) (s0 : Nat → Int32) (H : Heap) (locs : List Loc) (ls : Array Slot), m_J7_fill_53178_L5 K n0 k x1 x2 x3 s0 = some uv → va_P (dC, dI) vwCl [(q0, .inl (cI, n0, .inl s0))] H → va_D A [(q0, .inl (cI, n0, .inl s0))] → va_S A s.heap H locs → lv_has ls 4 [(0, .ref q0), (1, .int x1), (2, .int x2), (3, .int x3)] → W p l e rm_J7_fill_53178 s m args below meth c H locs 0 0 (MQ below (va_Qv (fun u => uv = u) (fun u t => zz_wo dC dI [(cI, .int), (cJ, .long), (cZ, .boolean)] A (ce_aI cI cJ cZ q0 n0 u) t) A) args s 0 0 A) (F0 m 5 ls []) := by
  obtain ⟨hx, hb, hml, hown, hts⟩ := id hS0
  intro k
  induction k with
  | zero =>
    intro _ _ _ _ _ _ _ hm
    have hm9 : (none : Option ((Nat → Int32))) = some _ := hm
    cases hm9
  | succ k ih =>
    intro x1 x2 x3 s0 H locs ls hm hP hD hS hl
    rw [m_J7_fill_53178_L5_s] at hm
    refine lv_iload_n hx hb dJ7_fill_53178_5 rfl (lv_at hl 2 rfl) ?_
    refine lv_iload_n hx hb dJ7_fill_53178_6 rfl (lv_at hl 3 rfl) ?_
    refine lv_icmp_ge (tgt := 20) hx hb dJ7_fill_53178_7 (by decide) (fun c_1 => ?_) (fun c_1 => ?_)
    · replace hm := zz_t c_1 hm
      have hm := Option.some.inj hm
      exact W.vret hx hb hr (fun t ht hW => ⟨⟨s0, rfl, hm.symm, by rw [ht]; exact hP, va_K.moved hW.alike hK, hD⟩, hS.F ht⟩) hS.2.2 dJ7_fill_53178_20
    · replace hm := zz_f c_1 hm
      refine lv_aload_n hx hb dJ7_fill_53178_10 rfl (lv_at hl 0 rfl) ?_
      refine lv_iload_n hx hb dJ7_fill_53178_11 rfl (lv_at hl 2 rfl) ?_
      refine lv_iload_n hx hb dJ7_fill_53178_12 rfl (lv_at hl 1 rfl) ?_
      obtain ⟨hi_2, hm⟩ := zz_chk hm
      refine va_iast hx hb hK hP hD hS 0 0 rfl rfl (i := x2) hi_2 dJ7_fill_53178_13 (fun H locs hP hD hS => ?_)
      have hP : va_P (dC, dI) vwCl [(q0, .inl (cI, n0, .inl (upd s0 x2.toNatClampNeg x1)))] _ := hP
      have hD : va_D A [(q0, .inl (cI, n0, .inl (upd s0 x2.toNatClampNeg x1)))] := hD
      refine lv_iinc (v := x2 + 1) (lv' := [(2, .int (x2 + 1)), (0, .ref q0), (1, .int x1), (3, .int x3)]) hx hb dJ7_fill_53178_14 hl (k := 2) rfl rfl (by decide) rfl (fun ls hl => ?_)
      refine lv_goto (tgt := 5) hx hb dJ7_fill_53178_17 (by decide) ?_
      exact ih x1 (x2 + 1) x3 (upd s0 x2.toNatClampNeg x1) _ _ _ hm hP hD hS (lv_sub hl [1, 2, 0, 3] rfl)
def m_J7_fill_53178 (K : Nat) (n0 : Nat) (p1 : Int32) (s0 : Nat → Int32) : Option ((Nat → Int32)) :=
  m_J7_fill_53178_L5 K n0 K p1 ((0 : Int32)) (nI n0) s0
set_option maxHeartbeats 4000000 in
set_option maxRecDepth 100000 in
theorem c_J7_fill_53178 (l : Launch) (dC : Nat → ClassId) (dI : Nat → Nat → Nat) (cI cJ cZ : ClassId) (K : Nat) (q0 : Nat) (n0 : Nat) (s0 : Nat → Int32) (p1 : Int32) (sz : Nat) (uv : (Nat → Int32)) (hm : m_J7_fill_53178 K n0 p1 s0 = some uv) : Met l yJ7_fill_53178 wsJ7_fill_53178 rm_J7_fill_53178 (zz_pre dC dI [(cI, .int), (cJ, .long), (cZ, .boolean)] [(q0, .inl (cI, n0, .inl s0))] sz [.ref q0, .int p1]) (va_Qv (fun u => uv = u) (fun u t => zz_wo dC dI [(cI, .int), (cJ, .long), (cZ, .boolean)] (va_A [(q0, .inl (cI, n0, .inl s0))] sz) (ce_aI cI cJ cZ q0 n0 u) t) (va_A [(q0, .inl (cI, n0, .inl s0))] sz)) 0 0 (va_A [(q0, .inl (cI, n0, .inl s0))] sz) := by
  refine Met.ofW (cc := cJ7_fill_53178) (maxL := 4) (ret := none) (by decide) rfl ?_
  intro p e s m args below meth c s₁ B hml hv
  obtain ⟨rfl, hsz, hP, hK, hD0, hN⟩ := hv
  have hx := B.exec
  have hb := B.bytes
  have hr := B.returns
  have hts := atoms_spec (ws := wsJ7_fill_53178) B.pre
  have hown : s.vm.findClass RJ7 = some m.cls := findClass_of_methodNamed B.named
  have hlocks := B.notSynchronized
  have hS0 : CallFix p m c cJ7_fill_53178 4 s #[.ref q0, .int p1] wsJ7_fill_53178 RJ7 := ⟨hx, hb, hml, hown, hts⟩
  subst hsz
  have hD := hD0.self (sz := s.heap.size)
  generalize hAe : va_A [(q0, .inl (cI, n0, .inl s0))] s.heap.size = A at hD ⊢
  have hA : ∀ q : Nat, s.heap.size ≤ q → A q := fun q h => by rw [← hAe]; exact Or.inr h
  have hS : va_S A s.heap s.heap [] := va_S.rf
  have hl := lv_entry ([.ref q0, .int p1]) (n := 4) (Nat.le_of_ble_eq_true rfl)
  rw [lg_entry_eq]
  generalize (lg_sl ([.ref q0, .int p1]) ++ List.replicate (4 - (lg_sl ([.ref q0, .int p1])).length) Slot.unset).toArray = ls at hl ⊢
  have hl : lv_has ls 4 [(0, .ref q0), (1, .int p1)] := hl
  unfold m_J7_fill_53178 at hm
  refine lv_iconst (v := 0) hx hb dJ7_fill_53178_0 (by decide) ?_
  refine lv_istore_n (lv' := [(2, .int ((0 : Int32))), (0, .ref q0), (1, .int p1)]) hx hb dJ7_fill_53178_1 rfl hl (by decide) rfl (fun ls hl => ?_)
  refine lv_aload_n hx hb dJ7_fill_53178_2 rfl (lv_at hl 1 rfl) ?_
  refine va_alen hx hb hK hP 0 0 rfl rfl (v := nI n0) rfl dJ7_fill_53178_3 ?_
  refine lv_istore_n (lv' := [(3, .int (nI n0)), (2, .int ((0 : Int32))), (0, .ref q0), (1, .int p1)]) hx hb dJ7_fill_53178_4 rfl hl (by decide) rfl (fun ls hl => ?_)
  exact w_J7_fill_53178_L5 dC dI cI cJ cZ K q0 n0 A uv hS0 hr hlocks hA hK hN K p1 ((0 : Int32)) (nI n0) s0 _ _ _ hm hP hD hS (lv_sub hl [2, 3, 1, 0] rfl)

abbrev ce_X10 (cI cJ cZ : ClassId) (q0 q1 q2 : Nat) (n0 : Nat) (n1 : Nat) (u : Int32 × Int32 × (Nat → Int32) × (Nat → Int32)) : va_W := [(q0, .inr (9, [.ref q1, .ref q2, .int u.1, .int u.2.1])), (q1, .inl (cI, n0, .inl u.2.2.1)), (q2, .inl (cI, n1, .inl u.2.2.2))]
abbrev rm_X10_clear : Room := { frames := 0, cells := 0, slots := 0, locals := 0 }
theorem in_X10_clear_X10 : ∀ w ∈ wsX100, w ∈ wsX10_clear := by decide +kernel
def m_X10_clear (K : Nat) (n0 : Nat) (n1 : Nat) (s0 : Int32) (s1 : Int32) (s2 : Nat → Int32) (s3 : Nat → Int32) : Option (Int32 × Int32 × (Nat → Int32) × (Nat → Int32)) :=
  some (((0 : Int32), s1, s2, s3))
set_option maxHeartbeats 4000000 in
set_option maxRecDepth 100000 in
theorem c_X10_clear (l : Launch) (dC : Nat → ClassId) (dI : Nat → Nat → Nat) (cI cJ cZ : ClassId) (K : Nat) (q0 q1 q2 : Nat) (n0 : Nat) (n1 : Nat) (s0 : Int32) (s1 : Int32) (s2 : Nat → Int32) (s3 : Nat → Int32) (sz : Nat) (uv : Int32 × Int32 × (Nat → Int32) × (Nat → Int32)) (hm : m_X10_clear K n0 n1 s0 s1 s2 s3 = some uv) : Met l yX10_clear wsX10_clear rm_X10_clear (zz_pre dC dI [(cI, .int), (cJ, .long), (cZ, .boolean)] [(q0, .inr (9, [.ref q1, .ref q2, .int s0, .int s1])), (q1, .inl (cI, n0, .inl s2)), (q2, .inl (cI, n1, .inl s3))] sz [.ref q0]) (va_Qv (fun u => uv = u) (fun u t => zz_wo dC dI [(cI, .int), (cJ, .long), (cZ, .boolean)] (va_A [(q0, .inr (9, [.ref q1, .ref q2, .int s0, .int s1])), (q1, .inl (cI, n0, .inl s2)), (q2, .inl (cI, n1, .inl s3))] sz) (ce_X10 cI cJ cZ q0 q1 q2 n0 n1 u) t) (va_A [(q0, .inr (9, [.ref q1, .ref q2, .int s0, .int s1])), (q1, .inl (cI, n0, .inl s2)), (q2, .inl (cI, n1, .inl s3))] sz)) 0 0 (va_A [(q0, .inr (9, [.ref q1, .ref q2, .int s0, .int s1])), (q1, .inl (cI, n0, .inl s2)), (q2, .inl (cI, n1, .inl s3))] sz) := by
  refine Met.ofW (cc := cX10_clear) (maxL := 1) (ret := none) (by decide) rfl ?_
  intro p e s m args below meth c s₁ B hml hv
  obtain ⟨rfl, hsz, hP, hK, hD0, hN⟩ := hv
  have hx := B.exec
  have hb := B.bytes
  have hr := B.returns
  have hts := atoms_spec (ws := wsX10_clear) B.pre
  have hown : s.vm.findClass RX10 = some m.cls := findClass_of_methodNamed B.named
  have hlocks := B.notSynchronized
  have hS0 : CallFix p m c cX10_clear 1 s #[.ref q0] wsX10_clear RX10 := ⟨hx, hb, hml, hown, hts⟩
  subst hsz
  have hD := hD0.self (sz := s.heap.size)
  generalize hAe : va_A [(q0, .inr (9, [.ref q1, .ref q2, .int s0, .int s1])), (q1, .inl (cI, n0, .inl s2)), (q2, .inl (cI, n1, .inl s3))] s.heap.size = A at hD ⊢
  have hA : ∀ q : Nat, s.heap.size ≤ q → A q := fun q h => by rw [← hAe]; exact Or.inr h
  have hS : va_S A s.heap s.heap [] := va_S.rf
  have hl := lv_entry ([.ref q0]) (n := 1) (Nat.le_of_ble_eq_true rfl)
  rw [lg_entry_eq]
  generalize (lg_sl ([.ref q0]) ++ List.replicate (1 - (lg_sl ([.ref q0])).length) Slot.unset).toArray = ls at hl ⊢
  have hl : lv_has ls 1 [(0, .ref q0)] := hl
  have inX10 := in_X10_clear_X10
  have f9 := hts (.fieldLink RX10 9 "RoomForms$Stretches" "size" "I") (by decide +kernel)
  unfold m_X10_clear at hm
  refine lv_aload_n hx hb dX10_clear_0 rfl (lv_at hl 0 rfl) ?_
  refine lv_iconst (v := 0) hx hb dX10_clear_1 (by decide) ?_
  refine va_put (D := (dC, dI)) (ci := 9) (v := .int ((0 : Int32))) (ty := .int) (C := RX10) (T := TX10) (N := 4) hx hb hts inX10 tyX10 tyX10_ok nmX10 hown hK hP hD hS 0 rfl rfl 2 (by decide) f9 (fun _ h9 => h9) rfl (by decide +kernel) rfl rfl (Nat.le_of_ble_eq_true rfl) dX10_clear_2 (fun H locs hP hD hS => ?_)
  have hP : va_P (dC, dI) vwCl [(q0, .inr (9, [.ref q1, .ref q2, .int ((0 : Int32)), .int s1])), (q1, .inl (cI, n0, .inl s2)), (q2, .inl (cI, n1, .inl s3))] _ := hP
  have hD : va_D A [(q0, .inr (9, [.ref q1, .ref q2, .int ((0 : Int32)), .int s1])), (q1, .inl (cI, n0, .inl s2)), (q2, .inl (cI, n1, .inl s3))] := hD
  have hm := Option.some.inj hm
  exact W.vret hx hb hr (fun t ht hW => ⟨⟨((0 : Int32), s1, s2, s3), rfl, hm.symm, by rw [ht]; exact hP, va_K.moved hW.alike hK, hD⟩, hS.F ht⟩) hS.2.2 dX10_clear_5
abbrev rm_X10_size : Room := { frames := 0, cells := 0, slots := 0, locals := 0 }
theorem in_X10_size_X10 : ∀ w ∈ wsX100, w ∈ wsX10_size := by decide +kernel
def m_X10_size (K : Nat) (n0 : Nat) (n1 : Nat) (s0 : Int32) (s1 : Int32) (s2 : Nat → Int32) (s3 : Nat → Int32) : Option (Int32 × Int32 × Int32 × (Nat → Int32) × (Nat → Int32)) :=
  some (s0, (s0, s1, s2, s3))
set_option maxHeartbeats 4000000 in
set_option maxRecDepth 100000 in
theorem c_X10_size (l : Launch) (dC : Nat → ClassId) (dI : Nat → Nat → Nat) (cI cJ cZ : ClassId) (K : Nat) (q0 q1 q2 : Nat) (n0 : Nat) (n1 : Nat) (s0 : Int32) (s1 : Int32) (s2 : Nat → Int32) (s3 : Nat → Int32) (sz : Nat) (rv : Int32) (uv : Int32 × Int32 × (Nat → Int32) × (Nat → Int32)) (hm : m_X10_size K n0 n1 s0 s1 s2 s3 = some (rv, uv)) : Met l yX10_size wsX10_size rm_X10_size (zz_pre dC dI [(cI, .int), (cJ, .long), (cZ, .boolean)] [(q0, .inr (9, [.ref q1, .ref q2, .int s0, .int s1])), (q1, .inl (cI, n0, .inl s2)), (q2, .inl (cI, n1, .inl s3))] sz [.ref q0]) (va_Qi (fun r u => rv = r ∧ uv = u) (fun u t => zz_wo dC dI [(cI, .int), (cJ, .long), (cZ, .boolean)] (va_A [(q0, .inr (9, [.ref q1, .ref q2, .int s0, .int s1])), (q1, .inl (cI, n0, .inl s2)), (q2, .inl (cI, n1, .inl s3))] sz) (ce_X10 cI cJ cZ q0 q1 q2 n0 n1 u) t) (va_A [(q0, .inr (9, [.ref q1, .ref q2, .int s0, .int s1])), (q1, .inl (cI, n0, .inl s2)), (q2, .inl (cI, n1, .inl s3))] sz)) 0 0 (va_A [(q0, .inr (9, [.ref q1, .ref q2, .int s0, .int s1])), (q1, .inl (cI, n0, .inl s2)), (q2, .inl (cI, n1, .inl s3))] sz) := by
  refine Met.ofW (cc := cX10_size) (maxL := 1) (ret := (some .int)) (by decide) rfl ?_
  intro p e s m args below meth c s₁ B hml hv
  obtain ⟨rfl, hsz, hP, hK, hD0, hN⟩ := hv
  have hx := B.exec
  have hb := B.bytes
  have hr := B.returns
  have hts := atoms_spec (ws := wsX10_size) B.pre
  have hown : s.vm.findClass RX10 = some m.cls := findClass_of_methodNamed B.named
  have hlocks := B.notSynchronized
  have hS0 : CallFix p m c cX10_size 1 s #[.ref q0] wsX10_size RX10 := ⟨hx, hb, hml, hown, hts⟩
  subst hsz
  have hD := hD0.self (sz := s.heap.size)
  generalize hAe : va_A [(q0, .inr (9, [.ref q1, .ref q2, .int s0, .int s1])), (q1, .inl (cI, n0, .inl s2)), (q2, .inl (cI, n1, .inl s3))] s.heap.size = A at hD ⊢
  have hA : ∀ q : Nat, s.heap.size ≤ q → A q := fun q h => by rw [← hAe]; exact Or.inr h
  have hS : va_S A s.heap s.heap [] := va_S.rf
  have hl := lv_entry ([.ref q0]) (n := 1) (Nat.le_of_ble_eq_true rfl)
  rw [lg_entry_eq]
  generalize (lg_sl ([.ref q0]) ++ List.replicate (1 - (lg_sl ([.ref q0])).length) Slot.unset).toArray = ls at hl ⊢
  have hl : lv_has ls 1 [(0, .ref q0)] := hl
  have inX10 := in_X10_size_X10
  have f9 := hts (.fieldLink RX10 9 "RoomForms$Stretches" "size" "I") (by decide +kernel)
  unfold m_X10_size at hm
  refine lv_aload_n hx hb dX10_size_0 rfl (lv_at hl 0 rfl) ?_
  refine va_get (D := (dC, dI)) (ci := 9) (v := .int s0) (C := RX10) (T := TX10) (N := 4) hx hb hts inX10 hown hK hP 0 rfl rfl 2 (by decide) f9 (fun _ h9 => h9) rfl dX10_size_1 ?_
  have hm := Option.some.inj hm
  exact W.iret (v := s0) hx hb hr (fun t ht hW => ⟨⟨s0, (s0, s1, s2, s3), rfl, ⟨(congrArg (·.1) hm).symm, (congrArg (·.2) hm).symm⟩, by rw [ht]; exact hP, va_K.moved hW.alike hK, hD⟩, hS.F ht⟩) hS.2.2 dX10_size_4
abbrev rm_X10_add : Room := { frames := 0, cells := 0, slots := 0, locals := 0 }
theorem in_X10_add_X10 : ∀ w ∈ wsX100, w ∈ wsX10_add := by decide +kernel
def m_X10_add (K : Nat) (n0 : Nat) (n1 : Nat) (p1 : Int32) (p2 : Int32) (s0 : Int32) (s1 : Int32) (s2 : Nat → Int32) (s3 : Nat → Int32) : Option (Int32 × Int32 × (Nat → Int32) × (Nat → Int32)) :=
  if (nI n0) ≤ s0 then some ((s0, s1, s2, s3))
  else (if ¬ (s0 < 0 ∨ n0 ≤ s0.toNatClampNeg) then (if ¬ (s0 < 0 ∨ n1 ≤ s0.toNatClampNeg) then some ((s0 + ((1 : Int32)), s1, upd s2 s0.toNatClampNeg p1, upd s3 s0.toNatClampNeg p2)) else none) else none)
set_option maxHeartbeats 4000000 in
set_option maxRecDepth 100000 in
theorem c_X10_add (l : Launch) (dC : Nat → ClassId) (dI : Nat → Nat → Nat) (cI cJ cZ : ClassId) (K : Nat) (q0 q1 q2 : Nat) (n0 : Nat) (n1 : Nat) (s0 : Int32) (s1 : Int32) (s2 : Nat → Int32) (s3 : Nat → Int32) (p1 : Int32) (p2 : Int32) (sz : Nat) (uv : Int32 × Int32 × (Nat → Int32) × (Nat → Int32)) (hm : m_X10_add K n0 n1 p1 p2 s0 s1 s2 s3 = some uv) : Met l yX10_add wsX10_add rm_X10_add (zz_pre dC dI [(cI, .int), (cJ, .long), (cZ, .boolean)] [(q0, .inr (9, [.ref q1, .ref q2, .int s0, .int s1])), (q1, .inl (cI, n0, .inl s2)), (q2, .inl (cI, n1, .inl s3))] sz [.ref q0, .int p1, .int p2]) (va_Qv (fun u => uv = u) (fun u t => zz_wo dC dI [(cI, .int), (cJ, .long), (cZ, .boolean)] (va_A [(q0, .inr (9, [.ref q1, .ref q2, .int s0, .int s1])), (q1, .inl (cI, n0, .inl s2)), (q2, .inl (cI, n1, .inl s3))] sz) (ce_X10 cI cJ cZ q0 q1 q2 n0 n1 u) t) (va_A [(q0, .inr (9, [.ref q1, .ref q2, .int s0, .int s1])), (q1, .inl (cI, n0, .inl s2)), (q2, .inl (cI, n1, .inl s3))] sz)) 0 0 (va_A [(q0, .inr (9, [.ref q1, .ref q2, .int s0, .int s1])), (q1, .inl (cI, n0, .inl s2)), (q2, .inl (cI, n1, .inl s3))] sz) := by
  refine Met.ofW (cc := cX10_add) (maxL := 3) (ret := none) (by decide) rfl ?_
  intro p e s m args below meth c s₁ B hml hv
  obtain ⟨rfl, hsz, hP, hK, hD0, hN⟩ := hv
  have hx := B.exec
  have hb := B.bytes
  have hr := B.returns
  have hts := atoms_spec (ws := wsX10_add) B.pre
  have hown : s.vm.findClass RX10 = some m.cls := findClass_of_methodNamed B.named
  have hlocks := B.notSynchronized
  have hS0 : CallFix p m c cX10_add 3 s #[.ref q0, .int p1, .int p2] wsX10_add RX10 := ⟨hx, hb, hml, hown, hts⟩
  subst hsz
  have hD := hD0.self (sz := s.heap.size)
  generalize hAe : va_A [(q0, .inr (9, [.ref q1, .ref q2, .int s0, .int s1])), (q1, .inl (cI, n0, .inl s2)), (q2, .inl (cI, n1, .inl s3))] s.heap.size = A at hD ⊢
  have hA : ∀ q : Nat, s.heap.size ≤ q → A q := fun q h => by rw [← hAe]; exact Or.inr h
  have hS : va_S A s.heap s.heap [] := va_S.rf
  have hl := lv_entry ([.ref q0, .int p1, .int p2]) (n := 3) (Nat.le_of_ble_eq_true rfl)
  rw [lg_entry_eq]
  generalize (lg_sl ([.ref q0, .int p1, .int p2]) ++ List.replicate (3 - (lg_sl ([.ref q0, .int p1, .int p2])).length) Slot.unset).toArray = ls at hl ⊢
  have hl : lv_has ls 3 [(0, .ref q0), (1, .int p1), (2, .int p2)] := hl
  have inX10 := in_X10_add_X10
  have f9 := hts (.fieldLink RX10 9 "RoomForms$Stretches" "size" "I") (by decide +kernel)
  have f24 := hts (.fieldLink RX10 24 "RoomForms$Stretches" "places" "[I") (by decide +kernel)
  have f28 := hts (.fieldLink RX10 28 "RoomForms$Stretches" "words" "[I") (by decide +kernel)
  unfold m_X10_add at hm
  refine lv_aload_n hx hb dX10_add_0 rfl (lv_at hl 0 rfl) ?_
  refine va_get (D := (dC, dI)) (ci := 9) (v := .int s0) (C := RX10) (T := TX10) (N := 4) hx hb hts inX10 hown hK hP 0 rfl rfl 2 (by decide) f9 (fun _ h9 => h9) rfl dX10_add_1 ?_
  refine lv_aload_n hx hb dX10_add_4 rfl (lv_at hl 0 rfl) ?_
  refine va_get (D := (dC, dI)) (ci := 9) (v := .ref q1) (C := RX10) (T := TX10) (N := 4) hx hb hts inX10 hown hK hP 0 rfl rfl 0 (by decide) f24 (fun _ h9 => h9) rfl dX10_add_5 ?_
  refine va_alen hx hb hK hP 1 0 rfl rfl (v := nI n0) rfl dX10_add_8 ?_
  refine lv_icmp_ge (tgt := 42) hx hb dX10_add_9 (by decide) (fun c_1 => ?_) (fun c_1 => ?_)
  · replace hm := zz_t c_1 hm
    have hm := Option.some.inj hm
    exact W.vret hx hb hr (fun t ht hW => ⟨⟨(s0, s1, s2, s3), rfl, hm.symm, by rw [ht]; exact hP, va_K.moved hW.alike hK, hD⟩, hS.F ht⟩) hS.2.2 dX10_add_42
  · replace hm := zz_f c_1 hm
    refine lv_aload_n hx hb dX10_add_12 rfl (lv_at hl 0 rfl) ?_
    refine va_get (D := (dC, dI)) (ci := 9) (v := .ref q1) (C := RX10) (T := TX10) (N := 4) hx hb hts inX10 hown hK hP 0 rfl rfl 0 (by decide) f24 (fun _ h9 => h9) rfl dX10_add_13 ?_
    refine lv_aload_n hx hb dX10_add_16 rfl (lv_at hl 0 rfl) ?_
    refine va_get (D := (dC, dI)) (ci := 9) (v := .int s0) (C := RX10) (T := TX10) (N := 4) hx hb hts inX10 hown hK hP 0 rfl rfl 2 (by decide) f9 (fun _ h9 => h9) rfl dX10_add_17 ?_
    refine lv_iload_n hx hb dX10_add_20 rfl (lv_at hl 1 rfl) ?_
    obtain ⟨hi_2, hm⟩ := zz_chk hm
    refine va_iast hx hb hK hP hD hS 1 0 rfl rfl (i := s0) hi_2 dX10_add_21 (fun H locs hP hD hS => ?_)
    have hP : va_P (dC, dI) vwCl [(q0, .inr (9, [.ref q1, .ref q2, .int s0, .int s1])), (q1, .inl (cI, n0, .inl (upd s2 s0.toNatClampNeg p1))), (q2, .inl (cI, n1, .inl s3))] _ := hP
    have hD : va_D A [(q0, .inr (9, [.ref q1, .ref q2, .int s0, .int s1])), (q1, .inl (cI, n0, .inl (upd s2 s0.toNatClampNeg p1))), (q2, .inl (cI, n1, .inl s3))] := hD
    refine lv_aload_n hx hb dX10_add_22 rfl (lv_at hl 0 rfl) ?_
    refine va_get (D := (dC, dI)) (ci := 9) (v := .ref q2) (C := RX10) (T := TX10) (N := 4) hx hb hts inX10 hown hK hP 0 rfl rfl 1 (by decide) f28 (fun _ h9 => h9) rfl dX10_add_23 ?_
    refine lv_aload_n hx hb dX10_add_26 rfl (lv_at hl 0 rfl) ?_
    refine va_get (D := (dC, dI)) (ci := 9) (v := .int s0) (C := RX10) (T := TX10) (N := 4) hx hb hts inX10 hown hK hP 0 rfl rfl 2 (by decide) f9 (fun _ h9 => h9) rfl dX10_add_27 ?_
    refine lv_iload_n hx hb dX10_add_30 rfl (lv_at hl 2 rfl) ?_
    obtain ⟨hi_3, hm⟩ := zz_chk hm
    refine va_iast hx hb hK hP hD hS 2 0 rfl rfl (i := s0) hi_3 dX10_add_31 (fun H locs hP hD hS => ?_)
    have hP : va_P (dC, dI) vwCl [(q0, .inr (9, [.ref q1, .ref q2, .int s0, .int s1])), (q1, .inl (cI, n0, .inl (upd s2 s0.toNatClampNeg p1))), (q2, .inl (cI, n1, .inl (upd s3 s0.toNatClampNeg p2)))] _ := hP
    have hD : va_D A [(q0, .inr (9, [.ref q1, .ref q2, .int s0, .int s1])), (q1, .inl (cI, n0, .inl (upd s2 s0.toNatClampNeg p1))), (q2, .inl (cI, n1, .inl (upd s3 s0.toNatClampNeg p2)))] := hD
    refine lv_aload_n hx hb dX10_add_32 rfl (lv_at hl 0 rfl) ?_
    refine lv_dup hx hb dX10_add_33 rfl ?_
    refine va_get (D := (dC, dI)) (ci := 9) (v := .int s0) (C := RX10) (T := TX10) (N := 4) hx hb hts inX10 hown hK hP 0 rfl rfl 2 (by decide) f9 (fun _ h9 => h9) rfl dX10_add_34 ?_
    refine lv_iconst (v := 1) hx hb dX10_add_37 (by decide) ?_
    refine lv_iadd hx hb dX10_add_38 ?_
    refine va_put (D := (dC, dI)) (ci := 9) (v := .int (s0 + ((1 : Int32)))) (ty := .int) (C := RX10) (T := TX10) (N := 4) hx hb hts inX10 tyX10 tyX10_ok nmX10 hown hK hP hD hS 0 rfl rfl 2 (by decide) f9 (fun _ h9 => h9) rfl (by decide +kernel) rfl rfl (Nat.le_of_ble_eq_true rfl) dX10_add_39 (fun H locs hP hD hS => ?_)
    have hP : va_P (dC, dI) vwCl [(q0, .inr (9, [.ref q1, .ref q2, .int (s0 + ((1 : Int32))), .int s1])), (q1, .inl (cI, n0, .inl (upd s2 s0.toNatClampNeg p1))), (q2, .inl (cI, n1, .inl (upd s3 s0.toNatClampNeg p2)))] _ := hP
    have hD : va_D A [(q0, .inr (9, [.ref q1, .ref q2, .int (s0 + ((1 : Int32))), .int s1])), (q1, .inl (cI, n0, .inl (upd s2 s0.toNatClampNeg p1))), (q2, .inl (cI, n1, .inl (upd s3 s0.toNatClampNeg p2)))] := hD
    have hm := Option.some.inj hm
    exact W.vret hx hb hr (fun t ht hW => ⟨⟨(s0 + ((1 : Int32)), s1, upd s2 s0.toNatClampNeg p1, upd s3 s0.toNatClampNeg p2), rfl, hm.symm, by rw [ht]; exact hP, va_K.moved hW.alike hK, hD⟩, hS.F ht⟩) hS.2.2 dX10_add_42
abbrev rm_X10_placeOf : Room := { frames := 0, cells := 0, slots := 0, locals := 0 }
theorem in_X10_placeOf_X10 : ∀ w ∈ wsX100, w ∈ wsX10_placeOf := by decide +kernel
def m_X10_placeOf (K : Nat) (n0 : Nat) (n1 : Nat) (p1 : Int32) (s0 : Int32) (s1 : Int32) (s2 : Nat → Int32) (s3 : Nat → Int32) : Option (Int32 × Int32 × Int32 × (Nat → Int32) × (Nat → Int32)) :=
  if p1 < 0 then some ((-1 : Int32), (s0, s1, s2, s3))
  else (if p1 < s0 then (if ¬ (p1 < 0 ∨ n0 ≤ p1.toNatClampNeg) then some (s2 p1.toNatClampNeg, (s0, s1, s2, s3)) else none)
  else some ((-1 : Int32), (s0, s1, s2, s3)))
set_option maxHeartbeats 4000000 in
set_option maxRecDepth 100000 in
theorem c_X10_placeOf (l : Launch) (dC : Nat → ClassId) (dI : Nat → Nat → Nat) (cI cJ cZ : ClassId) (K : Nat) (q0 q1 q2 : Nat) (n0 : Nat) (n1 : Nat) (s0 : Int32) (s1 : Int32) (s2 : Nat → Int32) (s3 : Nat → Int32) (p1 : Int32) (sz : Nat) (rv : Int32) (uv : Int32 × Int32 × (Nat → Int32) × (Nat → Int32)) (hm : m_X10_placeOf K n0 n1 p1 s0 s1 s2 s3 = some (rv, uv)) : Met l yX10_placeOf wsX10_placeOf rm_X10_placeOf (zz_pre dC dI [(cI, .int), (cJ, .long), (cZ, .boolean)] [(q0, .inr (9, [.ref q1, .ref q2, .int s0, .int s1])), (q1, .inl (cI, n0, .inl s2)), (q2, .inl (cI, n1, .inl s3))] sz [.ref q0, .int p1]) (va_Qi (fun r u => rv = r ∧ uv = u) (fun u t => zz_wo dC dI [(cI, .int), (cJ, .long), (cZ, .boolean)] (va_A [(q0, .inr (9, [.ref q1, .ref q2, .int s0, .int s1])), (q1, .inl (cI, n0, .inl s2)), (q2, .inl (cI, n1, .inl s3))] sz) (ce_X10 cI cJ cZ q0 q1 q2 n0 n1 u) t) (va_A [(q0, .inr (9, [.ref q1, .ref q2, .int s0, .int s1])), (q1, .inl (cI, n0, .inl s2)), (q2, .inl (cI, n1, .inl s3))] sz)) 0 0 (va_A [(q0, .inr (9, [.ref q1, .ref q2, .int s0, .int s1])), (q1, .inl (cI, n0, .inl s2)), (q2, .inl (cI, n1, .inl s3))] sz) := by
  refine Met.ofW (cc := cX10_placeOf) (maxL := 2) (ret := (some .int)) (by decide) rfl ?_
  intro p e s m args below meth c s₁ B hml hv
  obtain ⟨rfl, hsz, hP, hK, hD0, hN⟩ := hv
  have hx := B.exec
  have hb := B.bytes
  have hr := B.returns
  have hts := atoms_spec (ws := wsX10_placeOf) B.pre
  have hown : s.vm.findClass RX10 = some m.cls := findClass_of_methodNamed B.named
  have hlocks := B.notSynchronized
  have hS0 : CallFix p m c cX10_placeOf 2 s #[.ref q0, .int p1] wsX10_placeOf RX10 := ⟨hx, hb, hml, hown, hts⟩
  subst hsz
  have hD := hD0.self (sz := s.heap.size)
  generalize hAe : va_A [(q0, .inr (9, [.ref q1, .ref q2, .int s0, .int s1])), (q1, .inl (cI, n0, .inl s2)), (q2, .inl (cI, n1, .inl s3))] s.heap.size = A at hD ⊢
  have hA : ∀ q : Nat, s.heap.size ≤ q → A q := fun q h => by rw [← hAe]; exact Or.inr h
  have hS : va_S A s.heap s.heap [] := va_S.rf
  have hl := lv_entry ([.ref q0, .int p1]) (n := 2) (Nat.le_of_ble_eq_true rfl)
  rw [lg_entry_eq]
  generalize (lg_sl ([.ref q0, .int p1]) ++ List.replicate (2 - (lg_sl ([.ref q0, .int p1])).length) Slot.unset).toArray = ls at hl ⊢
  have hl : lv_has ls 2 [(0, .ref q0), (1, .int p1)] := hl
  have inX10 := in_X10_placeOf_X10
  have f9 := hts (.fieldLink RX10 9 "RoomForms$Stretches" "size" "I") (by decide +kernel)
  have f24 := hts (.fieldLink RX10 24 "RoomForms$Stretches" "places" "[I") (by decide +kernel)
  unfold m_X10_placeOf at hm
  refine lv_iload_n hx hb dX10_placeOf_0 rfl (lv_at hl 1 rfl) ?_
  refine lv_if_lt (tgt := 12) hx hb dX10_placeOf_1 (by decide) (fun c_1 => ?_) (fun c_1 => ?_)
  · replace hm := zz_t c_1 hm
    refine lv_iconst (v := (-1)) hx hb dX10_placeOf_12 (by decide) ?_
    refine lv_goto (tgt := 22) hx hb dX10_placeOf_13 (by decide) ?_
    have hm := Option.some.inj hm
    exact W.iret (v := (-1 : Int32)) hx hb hr (fun t ht hW => ⟨⟨(-1 : Int32), (s0, s1, s2, s3), rfl, ⟨(congrArg (·.1) hm).symm, (congrArg (·.2) hm).symm⟩, by rw [ht]; exact hP, va_K.moved hW.alike hK, hD⟩, hS.F ht⟩) hS.2.2 dX10_placeOf_22
  · replace hm := zz_f c_1 hm
    refine lv_iload_n hx hb dX10_placeOf_4 rfl (lv_at hl 1 rfl) ?_
    refine lv_aload_n hx hb dX10_placeOf_5 rfl (lv_at hl 0 rfl) ?_
    refine va_get (D := (dC, dI)) (ci := 9) (v := .int s0) (C := RX10) (T := TX10) (N := 4) hx hb hts inX10 hown hK hP 0 rfl rfl 2 (by decide) f9 (fun _ h9 => h9) rfl dX10_placeOf_6 ?_
    refine lv_icmp_lt (tgt := 16) hx hb dX10_placeOf_9 (by decide) (fun c_2 => ?_) (fun c_2 => ?_)
    · replace hm := zz_t c_2 hm
      refine lv_aload_n hx hb dX10_placeOf_16 rfl (lv_at hl 0 rfl) ?_
      refine va_get (D := (dC, dI)) (ci := 9) (v := .ref q1) (C := RX10) (T := TX10) (N := 4) hx hb hts inX10 hown hK hP 0 rfl rfl 0 (by decide) f24 (fun _ h9 => h9) rfl dX10_placeOf_17 ?_
      refine lv_iload_n hx hb dX10_placeOf_20 rfl (lv_at hl 1 rfl) ?_
      obtain ⟨hi_3, hm⟩ := zz_chk hm
      refine va_iald hx hb hK hP 1 0 rfl rfl (i := p1) hi_3 dX10_placeOf_21 ?_
      have hm := Option.some.inj hm
      exact W.iret (v := s2 p1.toNatClampNeg) hx hb hr (fun t ht hW => ⟨⟨s2 p1.toNatClampNeg, (s0, s1, s2, s3), rfl, ⟨(congrArg (·.1) hm).symm, (congrArg (·.2) hm).symm⟩, by rw [ht]; exact hP, va_K.moved hW.alike hK, hD⟩, hS.F ht⟩) hS.2.2 dX10_placeOf_22
    · replace hm := zz_f c_2 hm
      refine lv_iconst (v := (-1)) hx hb dX10_placeOf_12 (by decide) ?_
      refine lv_goto (tgt := 22) hx hb dX10_placeOf_13 (by decide) ?_
      have hm := Option.some.inj hm
      exact W.iret (v := (-1 : Int32)) hx hb hr (fun t ht hW => ⟨⟨(-1 : Int32), (s0, s1, s2, s3), rfl, ⟨(congrArg (·.1) hm).symm, (congrArg (·.2) hm).symm⟩, by rw [ht]; exact hP, va_K.moved hW.alike hK, hD⟩, hS.F ht⟩) hS.2.2 dX10_placeOf_22
abbrev rm_X10_wordsOf : Room := { frames := 0, cells := 0, slots := 0, locals := 0 }
theorem in_X10_wordsOf_X10 : ∀ w ∈ wsX100, w ∈ wsX10_wordsOf := by decide +kernel
def m_X10_wordsOf (K : Nat) (n0 : Nat) (n1 : Nat) (p1 : Int32) (s0 : Int32) (s1 : Int32) (s2 : Nat → Int32) (s3 : Nat → Int32) : Option (Int32 × Int32 × Int32 × (Nat → Int32) × (Nat → Int32)) :=
  if p1 < 0 then some ((0 : Int32), (s0, s1, s2, s3))
  else (if p1 < s0 then (if ¬ (p1 < 0 ∨ n1 ≤ p1.toNatClampNeg) then some (s3 p1.toNatClampNeg, (s0, s1, s2, s3)) else none)
  else some ((0 : Int32), (s0, s1, s2, s3)))
set_option maxHeartbeats 4000000 in
set_option maxRecDepth 100000 in
theorem c_X10_wordsOf (l : Launch) (dC : Nat → ClassId) (dI : Nat → Nat → Nat) (cI cJ cZ : ClassId) (K : Nat) (q0 q1 q2 : Nat) (n0 : Nat) (n1 : Nat) (s0 : Int32) (s1 : Int32) (s2 : Nat → Int32) (s3 : Nat → Int32) (p1 : Int32) (sz : Nat) (rv : Int32) (uv : Int32 × Int32 × (Nat → Int32) × (Nat → Int32)) (hm : m_X10_wordsOf K n0 n1 p1 s0 s1 s2 s3 = some (rv, uv)) : Met l yX10_wordsOf wsX10_wordsOf rm_X10_wordsOf (zz_pre dC dI [(cI, .int), (cJ, .long), (cZ, .boolean)] [(q0, .inr (9, [.ref q1, .ref q2, .int s0, .int s1])), (q1, .inl (cI, n0, .inl s2)), (q2, .inl (cI, n1, .inl s3))] sz [.ref q0, .int p1]) (va_Qi (fun r u => rv = r ∧ uv = u) (fun u t => zz_wo dC dI [(cI, .int), (cJ, .long), (cZ, .boolean)] (va_A [(q0, .inr (9, [.ref q1, .ref q2, .int s0, .int s1])), (q1, .inl (cI, n0, .inl s2)), (q2, .inl (cI, n1, .inl s3))] sz) (ce_X10 cI cJ cZ q0 q1 q2 n0 n1 u) t) (va_A [(q0, .inr (9, [.ref q1, .ref q2, .int s0, .int s1])), (q1, .inl (cI, n0, .inl s2)), (q2, .inl (cI, n1, .inl s3))] sz)) 0 0 (va_A [(q0, .inr (9, [.ref q1, .ref q2, .int s0, .int s1])), (q1, .inl (cI, n0, .inl s2)), (q2, .inl (cI, n1, .inl s3))] sz) := by
  refine Met.ofW (cc := cX10_wordsOf) (maxL := 2) (ret := (some .int)) (by decide) rfl ?_
  intro p e s m args below meth c s₁ B hml hv
  obtain ⟨rfl, hsz, hP, hK, hD0, hN⟩ := hv
  have hx := B.exec
  have hb := B.bytes
  have hr := B.returns
  have hts := atoms_spec (ws := wsX10_wordsOf) B.pre
  have hown : s.vm.findClass RX10 = some m.cls := findClass_of_methodNamed B.named
  have hlocks := B.notSynchronized
  have hS0 : CallFix p m c cX10_wordsOf 2 s #[.ref q0, .int p1] wsX10_wordsOf RX10 := ⟨hx, hb, hml, hown, hts⟩
  subst hsz
  have hD := hD0.self (sz := s.heap.size)
  generalize hAe : va_A [(q0, .inr (9, [.ref q1, .ref q2, .int s0, .int s1])), (q1, .inl (cI, n0, .inl s2)), (q2, .inl (cI, n1, .inl s3))] s.heap.size = A at hD ⊢
  have hA : ∀ q : Nat, s.heap.size ≤ q → A q := fun q h => by rw [← hAe]; exact Or.inr h
  have hS : va_S A s.heap s.heap [] := va_S.rf
  have hl := lv_entry ([.ref q0, .int p1]) (n := 2) (Nat.le_of_ble_eq_true rfl)
  rw [lg_entry_eq]
  generalize (lg_sl ([.ref q0, .int p1]) ++ List.replicate (2 - (lg_sl ([.ref q0, .int p1])).length) Slot.unset).toArray = ls at hl ⊢
  have hl : lv_has ls 2 [(0, .ref q0), (1, .int p1)] := hl
  have inX10 := in_X10_wordsOf_X10
  have f9 := hts (.fieldLink RX10 9 "RoomForms$Stretches" "size" "I") (by decide +kernel)
  have f28 := hts (.fieldLink RX10 28 "RoomForms$Stretches" "words" "[I") (by decide +kernel)
  unfold m_X10_wordsOf at hm
  refine lv_iload_n hx hb dX10_wordsOf_0 rfl (lv_at hl 1 rfl) ?_
  refine lv_if_lt (tgt := 12) hx hb dX10_wordsOf_1 (by decide) (fun c_1 => ?_) (fun c_1 => ?_)
  · replace hm := zz_t c_1 hm
    refine lv_iconst (v := 0) hx hb dX10_wordsOf_12 (by decide) ?_
    refine lv_goto (tgt := 22) hx hb dX10_wordsOf_13 (by decide) ?_
    have hm := Option.some.inj hm
    exact W.iret (v := (0 : Int32)) hx hb hr (fun t ht hW => ⟨⟨(0 : Int32), (s0, s1, s2, s3), rfl, ⟨(congrArg (·.1) hm).symm, (congrArg (·.2) hm).symm⟩, by rw [ht]; exact hP, va_K.moved hW.alike hK, hD⟩, hS.F ht⟩) hS.2.2 dX10_wordsOf_22
  · replace hm := zz_f c_1 hm
    refine lv_iload_n hx hb dX10_wordsOf_4 rfl (lv_at hl 1 rfl) ?_
    refine lv_aload_n hx hb dX10_wordsOf_5 rfl (lv_at hl 0 rfl) ?_
    refine va_get (D := (dC, dI)) (ci := 9) (v := .int s0) (C := RX10) (T := TX10) (N := 4) hx hb hts inX10 hown hK hP 0 rfl rfl 2 (by decide) f9 (fun _ h9 => h9) rfl dX10_wordsOf_6 ?_
    refine lv_icmp_lt (tgt := 16) hx hb dX10_wordsOf_9 (by decide) (fun c_2 => ?_) (fun c_2 => ?_)
    · replace hm := zz_t c_2 hm
      refine lv_aload_n hx hb dX10_wordsOf_16 rfl (lv_at hl 0 rfl) ?_
      refine va_get (D := (dC, dI)) (ci := 9) (v := .ref q2) (C := RX10) (T := TX10) (N := 4) hx hb hts inX10 hown hK hP 0 rfl rfl 1 (by decide) f28 (fun _ h9 => h9) rfl dX10_wordsOf_17 ?_
      refine lv_iload_n hx hb dX10_wordsOf_20 rfl (lv_at hl 1 rfl) ?_
      obtain ⟨hi_3, hm⟩ := zz_chk hm
      refine va_iald hx hb hK hP 2 0 rfl rfl (i := p1) hi_3 dX10_wordsOf_21 ?_
      have hm := Option.some.inj hm
      exact W.iret (v := s3 p1.toNatClampNeg) hx hb hr (fun t ht hW => ⟨⟨s3 p1.toNatClampNeg, (s0, s1, s2, s3), rfl, ⟨(congrArg (·.1) hm).symm, (congrArg (·.2) hm).symm⟩, by rw [ht]; exact hP, va_K.moved hW.alike hK, hD⟩, hS.F ht⟩) hS.2.2 dX10_wordsOf_22
    · replace hm := zz_f c_2 hm
      refine lv_iconst (v := 0) hx hb dX10_wordsOf_12 (by decide) ?_
      refine lv_goto (tgt := 22) hx hb dX10_wordsOf_13 (by decide) ?_
      have hm := Option.some.inj hm
      exact W.iret (v := (0 : Int32)) hx hb hr (fun t ht hW => ⟨⟨(0 : Int32), (s0, s1, s2, s3), rfl, ⟨(congrArg (·.1) hm).symm, (congrArg (·.2) hm).symm⟩, by rw [ht]; exact hP, va_K.moved hW.alike hK, hD⟩, hS.F ht⟩) hS.2.2 dX10_wordsOf_22
abbrev rm_X10_endOf : Room := { frames := 0, cells := 0, slots := 0, locals := 0 }
theorem in_X10_endOf_X10 : ∀ w ∈ wsX100, w ∈ wsX10_endOf := by decide +kernel
def m_X10_endOf (K : Nat) (n0 : Nat) (n1 : Nat) (p1 : Int32) (s0 : Int32) (s1 : Int32) (s2 : Nat → Int32) (s3 : Nat → Int32) : Option (Int32 × Int32 × Int32 × (Nat → Int32) × (Nat → Int32)) :=
  if p1 < 0 then some ((-1 : Int32), (s0, s1, s2, s3))
  else (if p1 < s0 then (if ¬ (p1 < 0 ∨ n0 ≤ p1.toNatClampNeg) then (if ¬ (p1 < 0 ∨ n1 ≤ p1.toNatClampNeg) then some ((s2 p1.toNatClampNeg) + (s3 p1.toNatClampNeg), (s0, s1, s2, s3)) else none) else none)
  else some ((-1 : Int32), (s0, s1, s2, s3)))
set_option maxHeartbeats 4000000 in
set_option maxRecDepth 100000 in
theorem c_X10_endOf (l : Launch) (dC : Nat → ClassId) (dI : Nat → Nat → Nat) (cI cJ cZ : ClassId) (K : Nat) (q0 q1 q2 : Nat) (n0 : Nat) (n1 : Nat) (s0 : Int32) (s1 : Int32) (s2 : Nat → Int32) (s3 : Nat → Int32) (p1 : Int32) (sz : Nat) (rv : Int32) (uv : Int32 × Int32 × (Nat → Int32) × (Nat → Int32)) (hm : m_X10_endOf K n0 n1 p1 s0 s1 s2 s3 = some (rv, uv)) : Met l yX10_endOf wsX10_endOf rm_X10_endOf (zz_pre dC dI [(cI, .int), (cJ, .long), (cZ, .boolean)] [(q0, .inr (9, [.ref q1, .ref q2, .int s0, .int s1])), (q1, .inl (cI, n0, .inl s2)), (q2, .inl (cI, n1, .inl s3))] sz [.ref q0, .int p1]) (va_Qi (fun r u => rv = r ∧ uv = u) (fun u t => zz_wo dC dI [(cI, .int), (cJ, .long), (cZ, .boolean)] (va_A [(q0, .inr (9, [.ref q1, .ref q2, .int s0, .int s1])), (q1, .inl (cI, n0, .inl s2)), (q2, .inl (cI, n1, .inl s3))] sz) (ce_X10 cI cJ cZ q0 q1 q2 n0 n1 u) t) (va_A [(q0, .inr (9, [.ref q1, .ref q2, .int s0, .int s1])), (q1, .inl (cI, n0, .inl s2)), (q2, .inl (cI, n1, .inl s3))] sz)) 0 0 (va_A [(q0, .inr (9, [.ref q1, .ref q2, .int s0, .int s1])), (q1, .inl (cI, n0, .inl s2)), (q2, .inl (cI, n1, .inl s3))] sz) := by
  refine Met.ofW (cc := cX10_endOf) (maxL := 2) (ret := (some .int)) (by decide) rfl ?_
  intro p e s m args below meth c s₁ B hml hv
  obtain ⟨rfl, hsz, hP, hK, hD0, hN⟩ := hv
  have hx := B.exec
  have hb := B.bytes
  have hr := B.returns
  have hts := atoms_spec (ws := wsX10_endOf) B.pre
  have hown : s.vm.findClass RX10 = some m.cls := findClass_of_methodNamed B.named
  have hlocks := B.notSynchronized
  have hS0 : CallFix p m c cX10_endOf 2 s #[.ref q0, .int p1] wsX10_endOf RX10 := ⟨hx, hb, hml, hown, hts⟩
  subst hsz
  have hD := hD0.self (sz := s.heap.size)
  generalize hAe : va_A [(q0, .inr (9, [.ref q1, .ref q2, .int s0, .int s1])), (q1, .inl (cI, n0, .inl s2)), (q2, .inl (cI, n1, .inl s3))] s.heap.size = A at hD ⊢
  have hA : ∀ q : Nat, s.heap.size ≤ q → A q := fun q h => by rw [← hAe]; exact Or.inr h
  have hS : va_S A s.heap s.heap [] := va_S.rf
  have hl := lv_entry ([.ref q0, .int p1]) (n := 2) (Nat.le_of_ble_eq_true rfl)
  rw [lg_entry_eq]
  generalize (lg_sl ([.ref q0, .int p1]) ++ List.replicate (2 - (lg_sl ([.ref q0, .int p1])).length) Slot.unset).toArray = ls at hl ⊢
  have hl : lv_has ls 2 [(0, .ref q0), (1, .int p1)] := hl
  have inX10 := in_X10_endOf_X10
  have f9 := hts (.fieldLink RX10 9 "RoomForms$Stretches" "size" "I") (by decide +kernel)
  have f24 := hts (.fieldLink RX10 24 "RoomForms$Stretches" "places" "[I") (by decide +kernel)
  have f28 := hts (.fieldLink RX10 28 "RoomForms$Stretches" "words" "[I") (by decide +kernel)
  unfold m_X10_endOf at hm
  refine lv_iload_n hx hb dX10_endOf_0 rfl (lv_at hl 1 rfl) ?_
  refine lv_if_lt (tgt := 12) hx hb dX10_endOf_1 (by decide) (fun c_1 => ?_) (fun c_1 => ?_)
  · replace hm := zz_t c_1 hm
    refine lv_iconst (v := (-1)) hx hb dX10_endOf_12 (by decide) ?_
    refine lv_goto (tgt := 29) hx hb dX10_endOf_13 (by decide) ?_
    have hm := Option.some.inj hm
    exact W.iret (v := (-1 : Int32)) hx hb hr (fun t ht hW => ⟨⟨(-1 : Int32), (s0, s1, s2, s3), rfl, ⟨(congrArg (·.1) hm).symm, (congrArg (·.2) hm).symm⟩, by rw [ht]; exact hP, va_K.moved hW.alike hK, hD⟩, hS.F ht⟩) hS.2.2 dX10_endOf_29
  · replace hm := zz_f c_1 hm
    refine lv_iload_n hx hb dX10_endOf_4 rfl (lv_at hl 1 rfl) ?_
    refine lv_aload_n hx hb dX10_endOf_5 rfl (lv_at hl 0 rfl) ?_
    refine va_get (D := (dC, dI)) (ci := 9) (v := .int s0) (C := RX10) (T := TX10) (N := 4) hx hb hts inX10 hown hK hP 0 rfl rfl 2 (by decide) f9 (fun _ h9 => h9) rfl dX10_endOf_6 ?_
    refine lv_icmp_lt (tgt := 16) hx hb dX10_endOf_9 (by decide) (fun c_2 => ?_) (fun c_2 => ?_)
    · replace hm := zz_t c_2 hm
      refine lv_aload_n hx hb dX10_endOf_16 rfl (lv_at hl 0 rfl) ?_
      refine va_get (D := (dC, dI)) (ci := 9) (v := .ref q1) (C := RX10) (T := TX10) (N := 4) hx hb hts inX10 hown hK hP 0 rfl rfl 0 (by decide) f24 (fun _ h9 => h9) rfl dX10_endOf_17 ?_
      refine lv_iload_n hx hb dX10_endOf_20 rfl (lv_at hl 1 rfl) ?_
      obtain ⟨hi_3, hm⟩ := zz_chk hm
      refine va_iald hx hb hK hP 1 0 rfl rfl (i := p1) hi_3 dX10_endOf_21 ?_
      refine lv_aload_n hx hb dX10_endOf_22 rfl (lv_at hl 0 rfl) ?_
      refine va_get (D := (dC, dI)) (ci := 9) (v := .ref q2) (C := RX10) (T := TX10) (N := 4) hx hb hts inX10 hown hK hP 0 rfl rfl 1 (by decide) f28 (fun _ h9 => h9) rfl dX10_endOf_23 ?_
      refine lv_iload_n hx hb dX10_endOf_26 rfl (lv_at hl 1 rfl) ?_
      obtain ⟨hi_4, hm⟩ := zz_chk hm
      refine va_iald hx hb hK hP 2 0 rfl rfl (i := p1) hi_4 dX10_endOf_27 ?_
      refine lv_iadd hx hb dX10_endOf_28 ?_
      have hm := Option.some.inj hm
      exact W.iret (v := (s2 p1.toNatClampNeg) + (s3 p1.toNatClampNeg)) hx hb hr (fun t ht hW => ⟨⟨(s2 p1.toNatClampNeg) + (s3 p1.toNatClampNeg), (s0, s1, s2, s3), rfl, ⟨(congrArg (·.1) hm).symm, (congrArg (·.2) hm).symm⟩, by rw [ht]; exact hP, va_K.moved hW.alike hK, hD⟩, hS.F ht⟩) hS.2.2 dX10_endOf_29
    · replace hm := zz_f c_2 hm
      refine lv_iconst (v := (-1)) hx hb dX10_endOf_12 (by decide) ?_
      refine lv_goto (tgt := 29) hx hb dX10_endOf_13 (by decide) ?_
      have hm := Option.some.inj hm
      exact W.iret (v := (-1 : Int32)) hx hb hr (fun t ht hW => ⟨⟨(-1 : Int32), (s0, s1, s2, s3), rfl, ⟨(congrArg (·.1) hm).symm, (congrArg (·.2) hm).symm⟩, by rw [ht]; exact hP, va_K.moved hW.alike hK, hD⟩, hS.F ht⟩) hS.2.2 dX10_endOf_29
abbrev rm_X10_looked : Room := { frames := 0, cells := 0, slots := 0, locals := 0 }
theorem in_X10_looked_X10 : ∀ w ∈ wsX100, w ∈ wsX10_looked := by decide +kernel
def m_X10_looked (K : Nat) (n0 : Nat) (n1 : Nat) (s0 : Int32) (s1 : Int32) (s2 : Nat → Int32) (s3 : Nat → Int32) : Option (Int32 × Int32 × Int32 × (Nat → Int32) × (Nat → Int32)) :=
  some (s1, (s0, s1, s2, s3))
set_option maxHeartbeats 4000000 in
set_option maxRecDepth 100000 in
theorem c_X10_looked (l : Launch) (dC : Nat → ClassId) (dI : Nat → Nat → Nat) (cI cJ cZ : ClassId) (K : Nat) (q0 q1 q2 : Nat) (n0 : Nat) (n1 : Nat) (s0 : Int32) (s1 : Int32) (s2 : Nat → Int32) (s3 : Nat → Int32) (sz : Nat) (rv : Int32) (uv : Int32 × Int32 × (Nat → Int32) × (Nat → Int32)) (hm : m_X10_looked K n0 n1 s0 s1 s2 s3 = some (rv, uv)) : Met l yX10_looked wsX10_looked rm_X10_looked (zz_pre dC dI [(cI, .int), (cJ, .long), (cZ, .boolean)] [(q0, .inr (9, [.ref q1, .ref q2, .int s0, .int s1])), (q1, .inl (cI, n0, .inl s2)), (q2, .inl (cI, n1, .inl s3))] sz [.ref q0]) (va_Qi (fun r u => rv = r ∧ uv = u) (fun u t => zz_wo dC dI [(cI, .int), (cJ, .long), (cZ, .boolean)] (va_A [(q0, .inr (9, [.ref q1, .ref q2, .int s0, .int s1])), (q1, .inl (cI, n0, .inl s2)), (q2, .inl (cI, n1, .inl s3))] sz) (ce_X10 cI cJ cZ q0 q1 q2 n0 n1 u) t) (va_A [(q0, .inr (9, [.ref q1, .ref q2, .int s0, .int s1])), (q1, .inl (cI, n0, .inl s2)), (q2, .inl (cI, n1, .inl s3))] sz)) 0 0 (va_A [(q0, .inr (9, [.ref q1, .ref q2, .int s0, .int s1])), (q1, .inl (cI, n0, .inl s2)), (q2, .inl (cI, n1, .inl s3))] sz) := by
  refine Met.ofW (cc := cX10_looked) (maxL := 1) (ret := (some .int)) (by decide) rfl ?_
  intro p e s m args below meth c s₁ B hml hv
  obtain ⟨rfl, hsz, hP, hK, hD0, hN⟩ := hv
  have hx := B.exec
  have hb := B.bytes
  have hr := B.returns
  have hts := atoms_spec (ws := wsX10_looked) B.pre
  have hown : s.vm.findClass RX10 = some m.cls := findClass_of_methodNamed B.named
  have hlocks := B.notSynchronized
  have hS0 : CallFix p m c cX10_looked 1 s #[.ref q0] wsX10_looked RX10 := ⟨hx, hb, hml, hown, hts⟩
  subst hsz
  have hD := hD0.self (sz := s.heap.size)
  generalize hAe : va_A [(q0, .inr (9, [.ref q1, .ref q2, .int s0, .int s1])), (q1, .inl (cI, n0, .inl s2)), (q2, .inl (cI, n1, .inl s3))] s.heap.size = A at hD ⊢
  have hA : ∀ q : Nat, s.heap.size ≤ q → A q := fun q h => by rw [← hAe]; exact Or.inr h
  have hS : va_S A s.heap s.heap [] := va_S.rf
  have hl := lv_entry ([.ref q0]) (n := 1) (Nat.le_of_ble_eq_true rfl)
  rw [lg_entry_eq]
  generalize (lg_sl ([.ref q0]) ++ List.replicate (1 - (lg_sl ([.ref q0])).length) Slot.unset).toArray = ls at hl ⊢
  have hl : lv_has ls 1 [(0, .ref q0)] := hl
  have inX10 := in_X10_looked_X10
  have f15 := hts (.fieldLink RX10 15 "RoomForms$Stretches" "looked" "I") (by decide +kernel)
  unfold m_X10_looked at hm
  refine lv_aload_n hx hb dX10_looked_0 rfl (lv_at hl 0 rfl) ?_
  refine va_get (D := (dC, dI)) (ci := 9) (v := .int s1) (C := RX10) (T := TX10) (N := 4) hx hb hts inX10 hown hK hP 0 rfl rfl 3 (by decide) f15 (fun _ h9 => h9) rfl dX10_looked_1 ?_
  have hm := Option.some.inj hm
  exact W.iret (v := s1) hx hb hr (fun t ht hW => ⟨⟨s1, (s0, s1, s2, s3), rfl, ⟨(congrArg (·.1) hm).symm, (congrArg (·.2) hm).symm⟩, by rw [ht]; exact hP, va_K.moved hW.alike hK, hD⟩, hS.F ht⟩) hS.2.2 dX10_looked_4
abbrev rm_X10_remove : Room := { frames := 1, cells := 0, slots := 0, locals := 40 }
theorem in_X10_remove_X10 : ∀ w ∈ wsX100, w ∈ wsX10_remove := by decide +kernel
def m_X10_remove (K : Nat) (n0 : Nat) (n1 : Nat) (p1 : Int32) (s0 : Int32) (s1 : Int32) (s2 : Nat → Int32) (s3 : Nat → Int32) : Option (Int32 × Int32 × (Nat → Int32) × (Nat → Int32)) :=
  if p1 < 0 then some ((s0, s1, s2, s3))
  else (if p1 < s0 then (if ¬ (p1 + ((1 : Int32))) < 0 ∧ ¬ p1 < 0 ∧ ¬ ((s0 - ((1 : Int32))) - p1) < 0 ∧ (p1 + ((1 : Int32))).toNatClampNeg + ((s0 - ((1 : Int32))) - p1).toNatClampNeg ≤ n0 ∧ p1.toNatClampNeg + ((s0 - ((1 : Int32))) - p1).toNatClampNeg ≤ n0 then (if ¬ (p1 + ((1 : Int32))) < 0 ∧ ¬ p1 < 0 ∧ ¬ ((s0 - ((1 : Int32))) - p1) < 0 ∧ (p1 + ((1 : Int32))).toNatClampNeg + ((s0 - ((1 : Int32))) - p1).toNatClampNeg ≤ n1 ∧ p1.toNatClampNeg + ((s0 - ((1 : Int32))) - p1).toNatClampNeg ≤ n1 then some ((s0 - ((1 : Int32)), s1, va_cpy s2 s2 (p1 + ((1 : Int32))).toNatClampNeg p1.toNatClampNeg ((s0 - ((1 : Int32))) - p1).toNatClampNeg, va_cpy s3 s3 (p1 + ((1 : Int32))).toNatClampNeg p1.toNatClampNeg ((s0 - ((1 : Int32))) - p1).toNatClampNeg)) else none) else none)
  else some ((s0, s1, s2, s3)))
set_option maxHeartbeats 4000000 in
set_option maxRecDepth 100000 in
theorem c_X10_remove (l : Launch) (dC : Nat → ClassId) (dI : Nat → Nat → Nat) (cI cJ cZ : ClassId) (K : Nat) (q0 q1 q2 : Nat) (n0 : Nat) (n1 : Nat) (s0 : Int32) (s1 : Int32) (s2 : Nat → Int32) (s3 : Nat → Int32) (p1 : Int32) (sz : Nat) (uv : Int32 × Int32 × (Nat → Int32) × (Nat → Int32)) (hm : m_X10_remove K n0 n1 p1 s0 s1 s2 s3 = some uv) : Met l yX10_remove wsX10_remove rm_X10_remove (zz_pre dC dI [(cI, .int), (cJ, .long), (cZ, .boolean)] [(q0, .inr (9, [.ref q1, .ref q2, .int s0, .int s1])), (q1, .inl (cI, n0, .inl s2)), (q2, .inl (cI, n1, .inl s3))] sz [.ref q0, .int p1]) (va_Qv (fun u => uv = u) (fun u t => zz_wo dC dI [(cI, .int), (cJ, .long), (cZ, .boolean)] (va_A [(q0, .inr (9, [.ref q1, .ref q2, .int s0, .int s1])), (q1, .inl (cI, n0, .inl s2)), (q2, .inl (cI, n1, .inl s3))] sz) (ce_X10 cI cJ cZ q0 q1 q2 n0 n1 u) t) (va_A [(q0, .inr (9, [.ref q1, .ref q2, .int s0, .int s1])), (q1, .inl (cI, n0, .inl s2)), (q2, .inl (cI, n1, .inl s3))] sz)) 0 0 (va_A [(q0, .inr (9, [.ref q1, .ref q2, .int s0, .int s1])), (q1, .inl (cI, n0, .inl s2)), (q2, .inl (cI, n1, .inl s3))] sz) := by
  refine Met.ofW (cc := cX10_remove) (maxL := 2) (ret := none) (by decide) rfl ?_
  intro p e s m args below meth c s₁ B hml hv
  obtain ⟨rfl, hsz, hP, hK, hD0, hN⟩ := hv
  have hx := B.exec
  have hb := B.bytes
  have hr := B.returns
  have hts := atoms_spec (ws := wsX10_remove) B.pre
  have hown : s.vm.findClass RX10 = some m.cls := findClass_of_methodNamed B.named
  have hlocks := B.notSynchronized
  have hS0 : CallFix p m c cX10_remove 2 s #[.ref q0, .int p1] wsX10_remove RX10 := ⟨hx, hb, hml, hown, hts⟩
  subst hsz
  have hD := hD0.self (sz := s.heap.size)
  generalize hAe : va_A [(q0, .inr (9, [.ref q1, .ref q2, .int s0, .int s1])), (q1, .inl (cI, n0, .inl s2)), (q2, .inl (cI, n1, .inl s3))] s.heap.size = A at hD ⊢
  have hA : ∀ q : Nat, s.heap.size ≤ q → A q := fun q h => by rw [← hAe]; exact Or.inr h
  have hS : va_S A s.heap s.heap [] := va_S.rf
  have hl := lv_entry ([.ref q0, .int p1]) (n := 2) (Nat.le_of_ble_eq_true rfl)
  rw [lg_entry_eq]
  generalize (lg_sl ([.ref q0, .int p1]) ++ List.replicate (2 - (lg_sl ([.ref q0, .int p1])).length) Slot.unset).toArray = ls at hl ⊢
  have hl : lv_has ls 2 [(0, .ref q0), (1, .int p1)] := hl
  have inX10 := in_X10_remove_X10
  have f9 := hts (.fieldLink RX10 9 "RoomForms$Stretches" "size" "I") (by decide +kernel)
  have f24 := hts (.fieldLink RX10 24 "RoomForms$Stretches" "places" "[I") (by decide +kernel)
  have f28 := hts (.fieldLink RX10 28 "RoomForms$Stretches" "words" "[I") (by decide +kernel)
  unfold m_X10_remove at hm
  refine lv_iload_n hx hb dX10_remove_0 rfl (lv_at hl 1 rfl) ?_
  refine lv_if_lt (tgt := 12) hx hb dX10_remove_1 (by decide) (fun c_1 => ?_) (fun c_1 => ?_)
  · replace hm := zz_t c_1 hm
    have hm := Option.some.inj hm
    exact W.vret hx hb hr (fun t ht hW => ⟨⟨(s0, s1, s2, s3), rfl, hm.symm, by rw [ht]; exact hP, va_K.moved hW.alike hK, hD⟩, hS.F ht⟩) hS.2.2 dX10_remove_12
  · replace hm := zz_f c_1 hm
    refine lv_iload_n hx hb dX10_remove_4 rfl (lv_at hl 1 rfl) ?_
    refine lv_aload_n hx hb dX10_remove_5 rfl (lv_at hl 0 rfl) ?_
    refine va_get (D := (dC, dI)) (ci := 9) (v := .int s0) (C := RX10) (T := TX10) (N := 4) hx hb hts inX10 hown hK hP 0 rfl rfl 2 (by decide) f9 (fun _ h9 => h9) rfl dX10_remove_6 ?_
    refine lv_icmp_lt (tgt := 13) hx hb dX10_remove_9 (by decide) (fun c_2 => ?_) (fun c_2 => ?_)
    · replace hm := zz_t c_2 hm
      refine lv_aload_n hx hb dX10_remove_13 rfl (lv_at hl 0 rfl) ?_
      refine lv_dup hx hb dX10_remove_14 rfl ?_
      refine va_get (D := (dC, dI)) (ci := 9) (v := .int s0) (C := RX10) (T := TX10) (N := 4) hx hb hts inX10 hown hK hP 0 rfl rfl 2 (by decide) f9 (fun _ h9 => h9) rfl dX10_remove_15 ?_
      refine lv_iconst (v := 1) hx hb dX10_remove_18 (by decide) ?_
      refine lv_isub hx hb dX10_remove_19 ?_
      refine va_put (D := (dC, dI)) (ci := 9) (v := .int (s0 - ((1 : Int32)))) (ty := .int) (C := RX10) (T := TX10) (N := 4) hx hb hts inX10 tyX10 tyX10_ok nmX10 hown hK hP hD hS 0 rfl rfl 2 (by decide) f9 (fun _ h9 => h9) rfl (by decide +kernel) rfl rfl (Nat.le_of_ble_eq_true rfl) dX10_remove_20 (fun H locs hP hD hS => ?_)
      have hP : va_P (dC, dI) vwCl [(q0, .inr (9, [.ref q1, .ref q2, .int (s0 - ((1 : Int32))), .int s1])), (q1, .inl (cI, n0, .inl s2)), (q2, .inl (cI, n1, .inl s3))] _ := hP
      have hD : va_D A [(q0, .inr (9, [.ref q1, .ref q2, .int (s0 - ((1 : Int32))), .int s1])), (q1, .inl (cI, n0, .inl s2)), (q2, .inl (cI, n1, .inl s3))] := hD
      refine lv_aload_n hx hb dX10_remove_23 rfl (lv_at hl 0 rfl) ?_
      refine va_get (D := (dC, dI)) (ci := 9) (v := .ref q1) (C := RX10) (T := TX10) (N := 4) hx hb hts inX10 hown hK hP 0 rfl rfl 0 (by decide) f24 (fun _ h9 => h9) rfl dX10_remove_24 ?_
      refine lv_iload_n hx hb dX10_remove_27 rfl (lv_at hl 1 rfl) ?_
      refine lv_iconst (v := 1) hx hb dX10_remove_28 (by decide) ?_
      refine lv_iadd hx hb dX10_remove_29 ?_
      refine lv_aload_n hx hb dX10_remove_30 rfl (lv_at hl 0 rfl) ?_
      refine va_get (D := (dC, dI)) (ci := 9) (v := .ref q1) (C := RX10) (T := TX10) (N := 4) hx hb hts inX10 hown hK hP 0 rfl rfl 0 (by decide) f24 (fun _ h9 => h9) rfl dX10_remove_31 ?_
      refine lv_iload_n hx hb dX10_remove_34 rfl (lv_at hl 1 rfl) ?_
      refine lv_aload_n hx hb dX10_remove_35 rfl (lv_at hl 0 rfl) ?_
      refine va_get (D := (dC, dI)) (ci := 9) (v := .int (s0 - ((1 : Int32)))) (C := RX10) (T := TX10) (N := 4) hx hb hts inX10 hown hK hP 0 rfl rfl 2 (by decide) f9 (fun _ h9 => h9) rfl dX10_remove_36 ?_
      refine lv_iload_n hx hb dX10_remove_39 rfl (lv_at hl 1 rfl) ?_
      refine lv_isub hx hb dX10_remove_40 ?_
      obtain ⟨hy_3, hm⟩ := zz_chk hm
      refine va_copyi hx hb (by rw [hml]; exact hl.1.symm) hown (hts (.methodLink RX10 31 arraycopyName) (by decide +kernel)) (hts (.native arraycopyName) (by decide +kernel)) (hts (.static arraycopyName) (by decide +kernel)) (hts (.initialized "java/lang/System") (by decide +kernel)) hK hP hD hS 1 1 0 0 rfl rfl rfl rfl rfl hy_3.1 hy_3.2.1 hy_3.2.2.1 hy_3.2.2.2.1 hy_3.2.2.2.2 (fun _ _ => rfl) (Nat.le_of_ble_eq_true rfl) (Nat.le_of_ble_eq_true rfl) dX10_remove_41 (fun H locs hP hD hS => ?_)
      have hP : va_P (dC, dI) vwCl [(q0, .inr (9, [.ref q1, .ref q2, .int (s0 - ((1 : Int32))), .int s1])), (q1, .inl (cI, n0, .inl (va_cpy s2 s2 (p1 + ((1 : Int32))).toNatClampNeg p1.toNatClampNeg ((s0 - ((1 : Int32))) - p1).toNatClampNeg))), (q2, .inl (cI, n1, .inl s3))] _ := hP
      have hD : va_D A [(q0, .inr (9, [.ref q1, .ref q2, .int (s0 - ((1 : Int32))), .int s1])), (q1, .inl (cI, n0, .inl (va_cpy s2 s2 (p1 + ((1 : Int32))).toNatClampNeg p1.toNatClampNeg ((s0 - ((1 : Int32))) - p1).toNatClampNeg))), (q2, .inl (cI, n1, .inl s3))] := hD
      refine lv_aload_n hx hb dX10_remove_44 rfl (lv_at hl 0 rfl) ?_
      refine va_get (D := (dC, dI)) (ci := 9) (v := .ref q2) (C := RX10) (T := TX10) (N := 4) hx hb hts inX10 hown hK hP 0 rfl rfl 1 (by decide) f28 (fun _ h9 => h9) rfl dX10_remove_45 ?_
      refine lv_iload_n hx hb dX10_remove_48 rfl (lv_at hl 1 rfl) ?_
      refine lv_iconst (v := 1) hx hb dX10_remove_49 (by decide) ?_
      refine lv_iadd hx hb dX10_remove_50 ?_
      refine lv_aload_n hx hb dX10_remove_51 rfl (lv_at hl 0 rfl) ?_
      refine va_get (D := (dC, dI)) (ci := 9) (v := .ref q2) (C := RX10) (T := TX10) (N := 4) hx hb hts inX10 hown hK hP 0 rfl rfl 1 (by decide) f28 (fun _ h9 => h9) rfl dX10_remove_52 ?_
      refine lv_iload_n hx hb dX10_remove_55 rfl (lv_at hl 1 rfl) ?_
      refine lv_aload_n hx hb dX10_remove_56 rfl (lv_at hl 0 rfl) ?_
      refine va_get (D := (dC, dI)) (ci := 9) (v := .int (s0 - ((1 : Int32)))) (C := RX10) (T := TX10) (N := 4) hx hb hts inX10 hown hK hP 0 rfl rfl 2 (by decide) f9 (fun _ h9 => h9) rfl dX10_remove_57 ?_
      refine lv_iload_n hx hb dX10_remove_60 rfl (lv_at hl 1 rfl) ?_
      refine lv_isub hx hb dX10_remove_61 ?_
      obtain ⟨hy_4, hm⟩ := zz_chk hm
      refine va_copyi hx hb (by rw [hml]; exact hl.1.symm) hown (hts (.methodLink RX10 31 arraycopyName) (by decide +kernel)) (hts (.native arraycopyName) (by decide +kernel)) (hts (.static arraycopyName) (by decide +kernel)) (hts (.initialized "java/lang/System") (by decide +kernel)) hK hP hD hS 2 2 0 0 rfl rfl rfl rfl rfl hy_4.1 hy_4.2.1 hy_4.2.2.1 hy_4.2.2.2.1 hy_4.2.2.2.2 (fun _ _ => rfl) (Nat.le_of_ble_eq_true rfl) (Nat.le_of_ble_eq_true rfl) dX10_remove_62 (fun H locs hP hD hS => ?_)
      have hP : va_P (dC, dI) vwCl [(q0, .inr (9, [.ref q1, .ref q2, .int (s0 - ((1 : Int32))), .int s1])), (q1, .inl (cI, n0, .inl (va_cpy s2 s2 (p1 + ((1 : Int32))).toNatClampNeg p1.toNatClampNeg ((s0 - ((1 : Int32))) - p1).toNatClampNeg))), (q2, .inl (cI, n1, .inl (va_cpy s3 s3 (p1 + ((1 : Int32))).toNatClampNeg p1.toNatClampNeg ((s0 - ((1 : Int32))) - p1).toNatClampNeg)))] _ := hP
      have hD : va_D A [(q0, .inr (9, [.ref q1, .ref q2, .int (s0 - ((1 : Int32))), .int s1])), (q1, .inl (cI, n0, .inl (va_cpy s2 s2 (p1 + ((1 : Int32))).toNatClampNeg p1.toNatClampNeg ((s0 - ((1 : Int32))) - p1).toNatClampNeg))), (q2, .inl (cI, n1, .inl (va_cpy s3 s3 (p1 + ((1 : Int32))).toNatClampNeg p1.toNatClampNeg ((s0 - ((1 : Int32))) - p1).toNatClampNeg)))] := hD
      have hm := Option.some.inj hm
      exact W.vret hx hb hr (fun t ht hW => ⟨⟨(s0 - ((1 : Int32)), s1, va_cpy s2 s2 (p1 + ((1 : Int32))).toNatClampNeg p1.toNatClampNeg ((s0 - ((1 : Int32))) - p1).toNatClampNeg, va_cpy s3 s3 (p1 + ((1 : Int32))).toNatClampNeg p1.toNatClampNeg ((s0 - ((1 : Int32))) - p1).toNatClampNeg), rfl, hm.symm, by rw [ht]; exact hP, va_K.moved hW.alike hK, hD⟩, hS.F ht⟩) hS.2.2 dX10_remove_65
    · replace hm := zz_f c_2 hm
      have hm := Option.some.inj hm
      exact W.vret hx hb hr (fun t ht hW => ⟨⟨(s0, s1, s2, s3), rfl, hm.symm, by rw [ht]; exact hP, va_K.moved hW.alike hK, hD⟩, hS.F ht⟩) hS.2.2 dX10_remove_12
abbrev rm_X10_mostWords : Room := { frames := 1, cells := 0, slots := 0, locals := 21 }
theorem in_X10_mostWords_X10 : ∀ w ∈ wsX100, w ∈ wsX10_mostWords := by decide +kernel
def m_X10_mostWords_L4 (K : Nat) (n0 : Nat) (n1 : Nat) : Nat → Int32 → Int32 → Int32 → Int32 → (Nat → Int32) → (Nat → Int32) → Option (Int32 × Int32 × Int32 × (Nat → Int32) × (Nat → Int32))
  | 0, _, _, _, _, _, _ => none
  | k + 1, x1, x2, s0, s1, s2, s3 =>
    if s0 ≤ x2 then some (x1, (s0, s1, s2, s3))
    else (if ¬ (x2 < 0 ∨ n1 ≤ x2.toNatClampNeg) then m_X10_mostWords_L4 K n0 n1 k (zz_max x1 (s3 x2.toNatClampNeg)) (x2 + 1) s0 s1 s2 s3 else none)
theorem m_X10_mostWords_L4_s (K : Nat) (n0 : Nat) (n1 : Nat) (k : Nat) (x1 : Int32) (x2 : Int32) (s0 : Int32) (s1 : Int32) (s2 : Nat → Int32) (s3 : Nat → Int32) : m_X10_mostWords_L4 K n0 n1 (k + 1) x1 x2 s0 s1 s2 s3 =
    (if s0 ≤ x2 then some (x1, (s0, s1, s2, s3))
    else (if ¬ (x2 < 0 ∨ n1 ≤ x2.toNatClampNeg) then m_X10_mostWords_L4 K n0 n1 k (zz_max x1 (s3 x2.toNatClampNeg)) (x2 + 1) s0 s1 s2 s3 else none)) := rfl
set_option maxHeartbeats 4000000 in
set_option maxRecDepth 100000 in
theorem w_X10_mostWords_L4 {p : Program} {l : Launch} {e : Env} {s : State} {m : MethodId} {args : Array Value} {below : List Frame} {meth : Method} {c : Code} (dC : Nat → ClassId) (dI : Nat → Nat → Nat) (cI cJ cZ : ClassId) (K : Nat) (q0 q1 q2 : Nat) (n0 : Nat) (n1 : Nat) (A : Nat → Prop) (rv : Int32) (uv : Int32 × Int32 × (Nat → Int32) × (Nat → Int32)) (hS0 : CallFix p m c cX10_mostWords 3 s args wsX10_mostWords RX10) (hr : meth.sig.returnType = (some .int)) (hlocks : meth.locks = false) (hA : ∀ q : Nat, s.heap.size ≤ q → A q) (hK : va_K (dC, dI) vwCl [(cI, .int), (cJ, .long), (cZ, .boolean)] s) (hN : zz_nw s) : ∀ (k : Nat) (x1 : Int32) (x2 : Int32) (s0 : Int32) (s1 : Int32) (s2 : Nat → Int32) (s3 : Nat → Int32) (H : Heap) (locs : List Loc) (ls : Array Slot), m_X10_mostWords_L4 K n0 n1 k x1 x2 s0 s1 s2 s3 = some (rv, uv) → va_P (dC, dI) vwCl [(q0, .inr (9, [.ref q1, .ref q2, .int s0, .int s1])), (q1, .inl (cI, n0, .inl s2)), (q2, .inl (cI, n1, .inl s3))] H → va_D A [(q0, .inr (9, [.ref q1, .ref q2, .int s0, .int s1])), (q1, .inl (cI, n0, .inl s2)), (q2, .inl (cI, n1, .inl s3))] → va_S A s.heap H locs → lv_has ls 3 [(0, .ref q0), (1, .int x1), (2, .int x2)] → W p l e rm_X10_mostWords s m args below meth c H locs 0 0 (MQ below (va_Qi (fun r u => rv = r ∧ uv = u) (fun u t => zz_wo dC dI [(cI, .int), (cJ, .long), (cZ, .boolean)] A (ce_X10 cI cJ cZ q0 q1 q2 n0 n1 u) t) A) args s 0 0 A) (F0 m 4 ls []) := by
  obtain ⟨hx, hb, hml, hown, hts⟩ := id hS0
  have inX10 := in_X10_mostWords_X10
  have f9 := hts (.fieldLink RX10 9 "RoomForms$Stretches" "size" "I") (by decide +kernel)
  have f28 := hts (.fieldLink RX10 28 "RoomForms$Stretches" "words" "[I") (by decide +kernel)
  intro k
  induction k with
  | zero =>
    intro _ _ _ _ _ _ _ _ _ hm
    have hm9 : (none : Option (Int32 × Int32 × Int32 × (Nat → Int32) × (Nat → Int32))) = some _ := hm
    cases hm9
  | succ k ih =>
    intro x1 x2 s0 s1 s2 s3 H locs ls hm hP hD hS hl
    rw [m_X10_mostWords_L4_s] at hm
    refine lv_iload_n hx hb dX10_mostWords_4 rfl (lv_at hl 2 rfl) ?_
    refine lv_aload_n hx hb dX10_mostWords_5 rfl (lv_at hl 0 rfl) ?_
    refine va_get (D := (dC, dI)) (ci := 9) (v := .int s0) (C := RX10) (T := TX10) (N := 4) hx hb hts inX10 hown hK hP 0 rfl rfl 2 (by decide) f9 (fun _ h9 => h9) rfl dX10_mostWords_6 ?_
    refine lv_icmp_ge (tgt := 29) hx hb dX10_mostWords_9 (by decide) (fun c_1 => ?_) (fun c_1 => ?_)
    · replace hm := zz_t c_1 hm
      refine lv_iload_n hx hb dX10_mostWords_29 rfl (lv_at hl 1 rfl) ?_
      have hm := Option.some.inj hm
      exact W.iret (v := x1) hx hb hr (fun t ht hW => ⟨⟨x1, (s0, s1, s2, s3), rfl, ⟨(congrArg (·.1) hm).symm, (congrArg (·.2) hm).symm⟩, by rw [ht]; exact hP, va_K.moved hW.alike hK, hD⟩, hS.F ht⟩) hS.2.2 dX10_mostWords_30
    · replace hm := zz_f c_1 hm
      refine lv_iload_n hx hb dX10_mostWords_12 rfl (lv_at hl 1 rfl) ?_
      refine lv_aload_n hx hb dX10_mostWords_13 rfl (lv_at hl 0 rfl) ?_
      refine va_get (D := (dC, dI)) (ci := 9) (v := .ref q2) (C := RX10) (T := TX10) (N := 4) hx hb hts inX10 hown hK hP 0 rfl rfl 1 (by decide) f28 (fun _ h9 => h9) rfl dX10_mostWords_14 ?_
      refine lv_iload_n hx hb dX10_mostWords_17 rfl (lv_at hl 2 rfl) ?_
      obtain ⟨hi_2, hm⟩ := zz_chk hm
      refine va_iald hx hb hK hP 2 0 rfl rfl (i := x2) hi_2 dX10_mostWords_18 ?_
      refine va_mmax hx hb (by rw [hml]; exact hl.1.symm) hown (hts (.methodLink RX10 18 Lib.Math.max.name) (by decide +kernel)) (hts (.static Lib.Math.max.name) (by decide +kernel)) (hts (.initialized "java/lang/Math") (by decide +kernel)) (hts (.code Lib.Math.max.name Lib.Math.max.code 2 (some .int)) (by decide +kernel)) (Nat.le_of_ble_eq_true rfl) (Nat.le_of_ble_eq_true rfl) (Nat.zero_le _) (Nat.zero_le _) dX10_mostWords_19 ?_
      change W _ _ _ _ _ _ _ _ _ _ _ _ _ _ _ (F0 m 22 _ (.int (zz_max x1 (s3 x2.toNatClampNeg)) :: []))
      refine lv_istore_n (lv' := [(1, .int (zz_max x1 (s3 x2.toNatClampNeg))), (0, .ref q0), (2, .int x2)]) hx hb dX10_mostWords_22 rfl hl (by decide) rfl (fun ls hl => ?_)
      refine lv_iinc (v := x2 + 1) (lv' := [(2, .int (x2 + 1)), (1, .int (zz_max x1 (s3 x2.toNatClampNeg))), (0, .ref q0)]) hx hb dX10_mostWords_23 hl (k := 2) rfl rfl (by decide) rfl (fun ls hl => ?_)
      refine lv_goto (tgt := 4) hx hb dX10_mostWords_26 (by decide) ?_
      exact ih (zz_max x1 (s3 x2.toNatClampNeg)) (x2 + 1) s0 s1 s2 s3 _ _ _ hm hP hD hS (lv_sub hl [2, 1, 0] rfl)
def m_X10_mostWords (K : Nat) (n0 : Nat) (n1 : Nat) (s0 : Int32) (s1 : Int32) (s2 : Nat → Int32) (s3 : Nat → Int32) : Option (Int32 × Int32 × Int32 × (Nat → Int32) × (Nat → Int32)) :=
  m_X10_mostWords_L4 K n0 n1 K ((0 : Int32)) ((0 : Int32)) s0 s1 s2 s3
set_option maxHeartbeats 4000000 in
set_option maxRecDepth 100000 in
theorem c_X10_mostWords (l : Launch) (dC : Nat → ClassId) (dI : Nat → Nat → Nat) (cI cJ cZ : ClassId) (K : Nat) (q0 q1 q2 : Nat) (n0 : Nat) (n1 : Nat) (s0 : Int32) (s1 : Int32) (s2 : Nat → Int32) (s3 : Nat → Int32) (sz : Nat) (rv : Int32) (uv : Int32 × Int32 × (Nat → Int32) × (Nat → Int32)) (hm : m_X10_mostWords K n0 n1 s0 s1 s2 s3 = some (rv, uv)) : Met l yX10_mostWords wsX10_mostWords rm_X10_mostWords (zz_pre dC dI [(cI, .int), (cJ, .long), (cZ, .boolean)] [(q0, .inr (9, [.ref q1, .ref q2, .int s0, .int s1])), (q1, .inl (cI, n0, .inl s2)), (q2, .inl (cI, n1, .inl s3))] sz [.ref q0]) (va_Qi (fun r u => rv = r ∧ uv = u) (fun u t => zz_wo dC dI [(cI, .int), (cJ, .long), (cZ, .boolean)] (va_A [(q0, .inr (9, [.ref q1, .ref q2, .int s0, .int s1])), (q1, .inl (cI, n0, .inl s2)), (q2, .inl (cI, n1, .inl s3))] sz) (ce_X10 cI cJ cZ q0 q1 q2 n0 n1 u) t) (va_A [(q0, .inr (9, [.ref q1, .ref q2, .int s0, .int s1])), (q1, .inl (cI, n0, .inl s2)), (q2, .inl (cI, n1, .inl s3))] sz)) 0 0 (va_A [(q0, .inr (9, [.ref q1, .ref q2, .int s0, .int s1])), (q1, .inl (cI, n0, .inl s2)), (q2, .inl (cI, n1, .inl s3))] sz) := by
  refine Met.ofW (cc := cX10_mostWords) (maxL := 3) (ret := (some .int)) (by decide) rfl ?_
  intro p e s m args below meth c s₁ B hml hv
  obtain ⟨rfl, hsz, hP, hK, hD0, hN⟩ := hv
  have hx := B.exec
  have hb := B.bytes
  have hr := B.returns
  have hts := atoms_spec (ws := wsX10_mostWords) B.pre
  have hown : s.vm.findClass RX10 = some m.cls := findClass_of_methodNamed B.named
  have hlocks := B.notSynchronized
  have hS0 : CallFix p m c cX10_mostWords 3 s #[.ref q0] wsX10_mostWords RX10 := ⟨hx, hb, hml, hown, hts⟩
  subst hsz
  have hD := hD0.self (sz := s.heap.size)
  generalize hAe : va_A [(q0, .inr (9, [.ref q1, .ref q2, .int s0, .int s1])), (q1, .inl (cI, n0, .inl s2)), (q2, .inl (cI, n1, .inl s3))] s.heap.size = A at hD ⊢
  have hA : ∀ q : Nat, s.heap.size ≤ q → A q := fun q h => by rw [← hAe]; exact Or.inr h
  have hS : va_S A s.heap s.heap [] := va_S.rf
  have hl := lv_entry ([.ref q0]) (n := 3) (Nat.le_of_ble_eq_true rfl)
  rw [lg_entry_eq]
  generalize (lg_sl ([.ref q0]) ++ List.replicate (3 - (lg_sl ([.ref q0])).length) Slot.unset).toArray = ls at hl ⊢
  have hl : lv_has ls 3 [(0, .ref q0)] := hl
  have inX10 := in_X10_mostWords_X10
  have f9 := hts (.fieldLink RX10 9 "RoomForms$Stretches" "size" "I") (by decide +kernel)
  have f28 := hts (.fieldLink RX10 28 "RoomForms$Stretches" "words" "[I") (by decide +kernel)
  unfold m_X10_mostWords at hm
  refine lv_iconst (v := 0) hx hb dX10_mostWords_0 (by decide) ?_
  refine lv_istore_n (lv' := [(1, .int ((0 : Int32))), (0, .ref q0)]) hx hb dX10_mostWords_1 rfl hl (by decide) rfl (fun ls hl => ?_)
  refine lv_iconst (v := 0) hx hb dX10_mostWords_2 (by decide) ?_
  refine lv_istore_n (lv' := [(2, .int ((0 : Int32))), (1, .int ((0 : Int32))), (0, .ref q0)]) hx hb dX10_mostWords_3 rfl hl (by decide) rfl (fun ls hl => ?_)
  exact w_X10_mostWords_L4 dC dI cI cJ cZ K q0 q1 q2 n0 n1 A rv uv hS0 hr hlocks hA hK hN K ((0 : Int32)) ((0 : Int32)) s0 s1 s2 s3 _ _ _ hm hP hD hS (lv_sub hl [2, 1, 0] rfl)
abbrev rm_X10_firstFit : Room := { frames := 0, cells := 0, slots := 0, locals := 0 }
theorem in_X10_firstFit_X10 : ∀ w ∈ wsX100, w ∈ wsX10_firstFit := by decide +kernel
def m_X10_firstFit_L2 (K : Nat) (n0 : Nat) (n1 : Nat) : Nat → Int32 → Int32 → Int32 → Int32 → (Nat → Int32) → (Nat → Int32) → Option (Int32 × Int32 × Int32 × (Nat → Int32) × (Nat → Int32))
  | 0, _, _, _, _, _, _ => none
  | k + 1, x1, x2, s0, s1, s2, s3 =>
    if s0 ≤ x2 then some ((-1 : Int32), (s0, s1, s2, s3))
    else (if ¬ (x2 < 0 ∨ n1 ≤ x2.toNatClampNeg) then (if (s3 x2.toNatClampNeg) < x1 then m_X10_firstFit_L2 K n0 n1 k x1 (x2 + 1) s0 (s1 + ((1 : Int32))) s2 s3
    else (if ¬ (x2 < 0 ∨ n0 ≤ x2.toNatClampNeg) then some (s2 x2.toNatClampNeg, (s0, s1 + ((1 : Int32)), s2, s3)) else none)) else none)
theorem m_X10_firstFit_L2_s (K : Nat) (n0 : Nat) (n1 : Nat) (k : Nat) (x1 : Int32) (x2 : Int32) (s0 : Int32) (s1 : Int32) (s2 : Nat → Int32) (s3 : Nat → Int32) : m_X10_firstFit_L2 K n0 n1 (k + 1) x1 x2 s0 s1 s2 s3 =
    (if s0 ≤ x2 then some ((-1 : Int32), (s0, s1, s2, s3))
    else (if ¬ (x2 < 0 ∨ n1 ≤ x2.toNatClampNeg) then (if (s3 x2.toNatClampNeg) < x1 then m_X10_firstFit_L2 K n0 n1 k x1 (x2 + 1) s0 (s1 + ((1 : Int32))) s2 s3
    else (if ¬ (x2 < 0 ∨ n0 ≤ x2.toNatClampNeg) then some (s2 x2.toNatClampNeg, (s0, s1 + ((1 : Int32)), s2, s3)) else none)) else none)) := rfl
set_option maxHeartbeats 4000000 in
set_option maxRecDepth 100000 in
theorem w_X10_firstFit_L2 {p : Program} {l : Launch} {e : Env} {s : State} {m : MethodId} {args : Array Value} {below : List Frame} {meth : Method} {c : Code} (dC : Nat → ClassId) (dI : Nat → Nat → Nat) (cI cJ cZ : ClassId) (K : Nat) (q0 q1 q2 : Nat) (n0 : Nat) (n1 : Nat) (A : Nat → Prop) (rv : Int32) (uv : Int32 × Int32 × (Nat → Int32) × (Nat → Int32)) (hS0 : CallFix p m c cX10_firstFit 3 s args wsX10_firstFit RX10) (hr : meth.sig.returnType = (some .int)) (hlocks : meth.locks = false) (hA : ∀ q : Nat, s.heap.size ≤ q → A q) (hK : va_K (dC, dI) vwCl [(cI, .int), (cJ, .long), (cZ, .boolean)] s) (hN : zz_nw s) : ∀ (k : Nat) (x1 : Int32) (x2 : Int32) (s0 : Int32) (s1 : Int32) (s2 : Nat → Int32) (s3 : Nat → Int32) (H : Heap) (locs : List Loc) (ls : Array Slot), m_X10_firstFit_L2 K n0 n1 k x1 x2 s0 s1 s2 s3 = some (rv, uv) → va_P (dC, dI) vwCl [(q0, .inr (9, [.ref q1, .ref q2, .int s0, .int s1])), (q1, .inl (cI, n0, .inl s2)), (q2, .inl (cI, n1, .inl s3))] H → va_D A [(q0, .inr (9, [.ref q1, .ref q2, .int s0, .int s1])), (q1, .inl (cI, n0, .inl s2)), (q2, .inl (cI, n1, .inl s3))] → va_S A s.heap H locs → lv_has ls 3 [(0, .ref q0), (1, .int x1), (2, .int x2)] → W p l e rm_X10_firstFit s m args below meth c H locs 0 0 (MQ below (va_Qi (fun r u => rv = r ∧ uv = u) (fun u t => zz_wo dC dI [(cI, .int), (cJ, .long), (cZ, .boolean)] A (ce_X10 cI cJ cZ q0 q1 q2 n0 n1 u) t) A) args s 0 0 A) (F0 m 2 ls []) := by
  obtain ⟨hx, hb, hml, hown, hts⟩ := id hS0
  have inX10 := in_X10_firstFit_X10
  have f9 := hts (.fieldLink RX10 9 "RoomForms$Stretches" "size" "I") (by decide +kernel)
  have f15 := hts (.fieldLink RX10 15 "RoomForms$Stretches" "looked" "I") (by decide +kernel)
  have f24 := hts (.fieldLink RX10 24 "RoomForms$Stretches" "places" "[I") (by decide +kernel)
  have f28 := hts (.fieldLink RX10 28 "RoomForms$Stretches" "words" "[I") (by decide +kernel)
  intro k
  induction k with
  | zero =>
    intro _ _ _ _ _ _ _ _ _ hm
    have hm9 : (none : Option (Int32 × Int32 × Int32 × (Nat → Int32) × (Nat → Int32))) = some _ := hm
    cases hm9
  | succ k ih =>
    intro x1 x2 s0 s1 s2 s3 H locs ls hm hP hD hS hl
    rw [m_X10_firstFit_L2_s] at hm
    refine lv_iload_n hx hb dX10_firstFit_2 rfl (lv_at hl 2 rfl) ?_
    refine lv_aload_n hx hb dX10_firstFit_3 rfl (lv_at hl 0 rfl) ?_
    refine va_get (D := (dC, dI)) (ci := 9) (v := .int s0) (C := RX10) (T := TX10) (N := 4) hx hb hts inX10 hown hK hP 0 rfl rfl 2 (by decide) f9 (fun _ h9 => h9) rfl dX10_firstFit_4 ?_
    refine lv_icmp_ge (tgt := 43) hx hb dX10_firstFit_7 (by decide) (fun c_1 => ?_) (fun c_1 => ?_)
    · replace hm := zz_t c_1 hm
      refine lv_iconst (v := (-1)) hx hb dX10_firstFit_43 (by decide) ?_
      have hm := Option.some.inj hm
      exact W.iret (v := (-1 : Int32)) hx hb hr (fun t ht hW => ⟨⟨(-1 : Int32), (s0, s1, s2, s3), rfl, ⟨(congrArg (·.1) hm).symm, (congrArg (·.2) hm).symm⟩, by rw [ht]; exact hP, va_K.moved hW.alike hK, hD⟩, hS.F ht⟩) hS.2.2 dX10_firstFit_44
    · replace hm := zz_f c_1 hm
      refine lv_aload_n hx hb dX10_firstFit_10 rfl (lv_at hl 0 rfl) ?_
      refine lv_dup hx hb dX10_firstFit_11 rfl ?_
      refine va_get (D := (dC, dI)) (ci := 9) (v := .int s1) (C := RX10) (T := TX10) (N := 4) hx hb hts inX10 hown hK hP 0 rfl rfl 3 (by decide) f15 (fun _ h9 => h9) rfl dX10_firstFit_12 ?_
      refine lv_iconst (v := 1) hx hb dX10_firstFit_15 (by decide) ?_
      refine lv_iadd hx hb dX10_firstFit_16 ?_
      refine va_put (D := (dC, dI)) (ci := 9) (v := .int (s1 + ((1 : Int32)))) (ty := .int) (C := RX10) (T := TX10) (N := 4) hx hb hts inX10 tyX10 tyX10_ok nmX10 hown hK hP hD hS 0 rfl rfl 3 (by decide) f15 (fun _ h9 => h9) rfl (by decide +kernel) rfl rfl (Nat.le_of_ble_eq_true rfl) dX10_firstFit_17 (fun H locs hP hD hS => ?_)
      have hP : va_P (dC, dI) vwCl [(q0, .inr (9, [.ref q1, .ref q2, .int s0, .int (s1 + ((1 : Int32)))])), (q1, .inl (cI, n0, .inl s2)), (q2, .inl (cI, n1, .inl s3))] _ := hP
      have hD : va_D A [(q0, .inr (9, [.ref q1, .ref q2, .int s0, .int (s1 + ((1 : Int32)))])), (q1, .inl (cI, n0, .inl s2)), (q2, .inl (cI, n1, .inl s3))] := hD
      refine lv_aload_n hx hb dX10_firstFit_20 rfl (lv_at hl 0 rfl) ?_
      refine va_get (D := (dC, dI)) (ci := 9) (v := .ref q2) (C := RX10) (T := TX10) (N := 4) hx hb hts inX10 hown hK hP 0 rfl rfl 1 (by decide) f28 (fun _ h9 => h9) rfl dX10_firstFit_21 ?_
      refine lv_iload_n hx hb dX10_firstFit_24 rfl (lv_at hl 2 rfl) ?_
      obtain ⟨hi_2, hm⟩ := zz_chk hm
      refine va_iald hx hb hK hP 2 0 rfl rfl (i := x2) hi_2 dX10_firstFit_25 ?_
      refine lv_iload_n hx hb dX10_firstFit_26 rfl (lv_at hl 1 rfl) ?_
      refine lv_icmp_lt (tgt := 37) hx hb dX10_firstFit_27 (by decide) (fun c_3 => ?_) (fun c_3 => ?_)
      · replace hm := zz_t c_3 hm
        refine lv_iinc (v := x2 + 1) (lv' := [(2, .int (x2 + 1)), (0, .ref q0), (1, .int x1)]) hx hb dX10_firstFit_37 hl (k := 2) rfl rfl (by decide) rfl (fun ls hl => ?_)
        refine lv_goto (tgt := 2) hx hb dX10_firstFit_40 (by decide) ?_
        exact ih x1 (x2 + 1) s0 (s1 + ((1 : Int32))) s2 s3 _ _ _ hm hP hD hS (lv_sub hl [1, 2, 0] rfl)
      · replace hm := zz_f c_3 hm
        refine lv_aload_n hx hb dX10_firstFit_30 rfl (lv_at hl 0 rfl) ?_
        refine va_get (D := (dC, dI)) (ci := 9) (v := .ref q1) (C := RX10) (T := TX10) (N := 4) hx hb hts inX10 hown hK hP 0 rfl rfl 0 (by decide) f24 (fun _ h9 => h9) rfl dX10_firstFit_31 ?_
        refine lv_iload_n hx hb dX10_firstFit_34 rfl (lv_at hl 2 rfl) ?_
        obtain ⟨hi_4, hm⟩ := zz_chk hm
        refine va_iald hx hb hK hP 1 0 rfl rfl (i := x2) hi_4 dX10_firstFit_35 ?_
        have hm := Option.some.inj hm
        exact W.iret (v := s2 x2.toNatClampNeg) hx hb hr (fun t ht hW => ⟨⟨s2 x2.toNatClampNeg, (s0, s1 + ((1 : Int32)), s2, s3), rfl, ⟨(congrArg (·.1) hm).symm, (congrArg (·.2) hm).symm⟩, by rw [ht]; exact hP, va_K.moved hW.alike hK, hD⟩, hS.F ht⟩) hS.2.2 dX10_firstFit_36
def m_X10_firstFit (K : Nat) (n0 : Nat) (n1 : Nat) (p1 : Int32) (s0 : Int32) (s1 : Int32) (s2 : Nat → Int32) (s3 : Nat → Int32) : Option (Int32 × Int32 × Int32 × (Nat → Int32) × (Nat → Int32)) :=
  m_X10_firstFit_L2 K n0 n1 K p1 ((0 : Int32)) s0 s1 s2 s3
set_option maxHeartbeats 4000000 in
set_option maxRecDepth 100000 in
theorem c_X10_firstFit (l : Launch) (dC : Nat → ClassId) (dI : Nat → Nat → Nat) (cI cJ cZ : ClassId) (K : Nat) (q0 q1 q2 : Nat) (n0 : Nat) (n1 : Nat) (s0 : Int32) (s1 : Int32) (s2 : Nat → Int32) (s3 : Nat → Int32) (p1 : Int32) (sz : Nat) (rv : Int32) (uv : Int32 × Int32 × (Nat → Int32) × (Nat → Int32)) (hm : m_X10_firstFit K n0 n1 p1 s0 s1 s2 s3 = some (rv, uv)) : Met l yX10_firstFit wsX10_firstFit rm_X10_firstFit (zz_pre dC dI [(cI, .int), (cJ, .long), (cZ, .boolean)] [(q0, .inr (9, [.ref q1, .ref q2, .int s0, .int s1])), (q1, .inl (cI, n0, .inl s2)), (q2, .inl (cI, n1, .inl s3))] sz [.ref q0, .int p1]) (va_Qi (fun r u => rv = r ∧ uv = u) (fun u t => zz_wo dC dI [(cI, .int), (cJ, .long), (cZ, .boolean)] (va_A [(q0, .inr (9, [.ref q1, .ref q2, .int s0, .int s1])), (q1, .inl (cI, n0, .inl s2)), (q2, .inl (cI, n1, .inl s3))] sz) (ce_X10 cI cJ cZ q0 q1 q2 n0 n1 u) t) (va_A [(q0, .inr (9, [.ref q1, .ref q2, .int s0, .int s1])), (q1, .inl (cI, n0, .inl s2)), (q2, .inl (cI, n1, .inl s3))] sz)) 0 0 (va_A [(q0, .inr (9, [.ref q1, .ref q2, .int s0, .int s1])), (q1, .inl (cI, n0, .inl s2)), (q2, .inl (cI, n1, .inl s3))] sz) := by
  refine Met.ofW (cc := cX10_firstFit) (maxL := 3) (ret := (some .int)) (by decide) rfl ?_
  intro p e s m args below meth c s₁ B hml hv
  obtain ⟨rfl, hsz, hP, hK, hD0, hN⟩ := hv
  have hx := B.exec
  have hb := B.bytes
  have hr := B.returns
  have hts := atoms_spec (ws := wsX10_firstFit) B.pre
  have hown : s.vm.findClass RX10 = some m.cls := findClass_of_methodNamed B.named
  have hlocks := B.notSynchronized
  have hS0 : CallFix p m c cX10_firstFit 3 s #[.ref q0, .int p1] wsX10_firstFit RX10 := ⟨hx, hb, hml, hown, hts⟩
  subst hsz
  have hD := hD0.self (sz := s.heap.size)
  generalize hAe : va_A [(q0, .inr (9, [.ref q1, .ref q2, .int s0, .int s1])), (q1, .inl (cI, n0, .inl s2)), (q2, .inl (cI, n1, .inl s3))] s.heap.size = A at hD ⊢
  have hA : ∀ q : Nat, s.heap.size ≤ q → A q := fun q h => by rw [← hAe]; exact Or.inr h
  have hS : va_S A s.heap s.heap [] := va_S.rf
  have hl := lv_entry ([.ref q0, .int p1]) (n := 3) (Nat.le_of_ble_eq_true rfl)
  rw [lg_entry_eq]
  generalize (lg_sl ([.ref q0, .int p1]) ++ List.replicate (3 - (lg_sl ([.ref q0, .int p1])).length) Slot.unset).toArray = ls at hl ⊢
  have hl : lv_has ls 3 [(0, .ref q0), (1, .int p1)] := hl
  have inX10 := in_X10_firstFit_X10
  have f9 := hts (.fieldLink RX10 9 "RoomForms$Stretches" "size" "I") (by decide +kernel)
  have f15 := hts (.fieldLink RX10 15 "RoomForms$Stretches" "looked" "I") (by decide +kernel)
  have f24 := hts (.fieldLink RX10 24 "RoomForms$Stretches" "places" "[I") (by decide +kernel)
  have f28 := hts (.fieldLink RX10 28 "RoomForms$Stretches" "words" "[I") (by decide +kernel)
  unfold m_X10_firstFit at hm
  refine lv_iconst (v := 0) hx hb dX10_firstFit_0 (by decide) ?_
  refine lv_istore_n (lv' := [(2, .int ((0 : Int32))), (0, .ref q0), (1, .int p1)]) hx hb dX10_firstFit_1 rfl hl (by decide) rfl (fun ls hl => ?_)
  exact w_X10_firstFit_L2 dC dI cI cJ cZ K q0 q1 q2 n0 n1 A rv uv hS0 hr hlocks hA hK hN K p1 ((0 : Int32)) s0 s1 s2 s3 _ _ _ hm hP hD hS (lv_sub hl [1, 2, 0] rfl)
abbrev rm_X10_nextFit : Room := { frames := 1, cells := 0, slots := 0, locals := 21 }
theorem in_X10_nextFit_X10 : ∀ w ∈ wsX100, w ∈ wsX10_nextFit := by decide +kernel
def m_X10_nextFit_L72 (K : Nat) (n0 : Nat) (n1 : Nat) : Nat → Int32 → Int32 → Int32 → Int32 → Int32 → (Nat → Int32) → (Nat → Int32) → Option (Int32 × Int32 × Int32 × (Nat → Int32) × (Nat → Int32))
  | 0, _, _, _, _, _, _, _ => none
  | k + 1, x1, x2, x3, s0, s1, s2, s3 =>
    if s0 ≤ x3 then some ((-1 : Int32), (s0, s1, s2, s3))
    else (if ¬ (x3 < 0 ∨ n0 ≤ x3.toNatClampNeg) then (if x2 ≤ (s2 x3.toNatClampNeg) then some ((-1 : Int32), (s0, s1, s2, s3))
    else (if ¬ (x3 < 0 ∨ n1 ≤ x3.toNatClampNeg) then (if (s3 x3.toNatClampNeg) < x1 then m_X10_nextFit_L72 K n0 n1 k x1 x2 (x3 + 1) s0 (s1 + ((1 : Int32))) s2 s3
    else (if ¬ (x3 < 0 ∨ n0 ≤ x3.toNatClampNeg) then some (s2 x3.toNatClampNeg, (s0, s1 + ((1 : Int32)), s2, s3)) else none)) else none)) else none)
theorem m_X10_nextFit_L72_s (K : Nat) (n0 : Nat) (n1 : Nat) (k : Nat) (x1 : Int32) (x2 : Int32) (x3 : Int32) (s0 : Int32) (s1 : Int32) (s2 : Nat → Int32) (s3 : Nat → Int32) : m_X10_nextFit_L72 K n0 n1 (k + 1) x1 x2 x3 s0 s1 s2 s3 =
    (if s0 ≤ x3 then some ((-1 : Int32), (s0, s1, s2, s3))
    else (if ¬ (x3 < 0 ∨ n0 ≤ x3.toNatClampNeg) then (if x2 ≤ (s2 x3.toNatClampNeg) then some ((-1 : Int32), (s0, s1, s2, s3))
    else (if ¬ (x3 < 0 ∨ n1 ≤ x3.toNatClampNeg) then (if (s3 x3.toNatClampNeg) < x1 then m_X10_nextFit_L72 K n0 n1 k x1 x2 (x3 + 1) s0 (s1 + ((1 : Int32))) s2 s3
    else (if ¬ (x3 < 0 ∨ n0 ≤ x3.toNatClampNeg) then some (s2 x3.toNatClampNeg, (s0, s1 + ((1 : Int32)), s2, s3)) else none)) else none)) else none)) := rfl
set_option maxHeartbeats 4000000 in
set_option maxRecDepth 100000 in
theorem w_X10_nextFit_L72 {p : Program} {l : Launch} {e : Env} {s : State} {m : MethodId} {args : Array Value} {below : List Frame} {meth : Method} {c : Code} (dC : Nat → ClassId) (dI : Nat → Nat → Nat) (cI cJ cZ : ClassId) (K : Nat) (q0 q1 q2 : Nat) (n0 : Nat) (n1 : Nat) (A : Nat → Prop) (rv : Int32) (uv : Int32 × Int32 × (Nat → Int32) × (Nat → Int32)) (hS0 : CallFix p m c cX10_nextFit 6 s args wsX10_nextFit RX10) (hr : meth.sig.returnType = (some .int)) (hlocks : meth.locks = false) (hA : ∀ q : Nat, s.heap.size ≤ q → A q) (hK : va_K (dC, dI) vwCl [(cI, .int), (cJ, .long), (cZ, .boolean)] s) (hN : zz_nw s) : ∀ (k : Nat) (x1 : Int32) (x2 : Int32) (x3 : Int32) (s0 : Int32) (s1 : Int32) (s2 : Nat → Int32) (s3 : Nat → Int32) (H : Heap) (locs : List Loc) (ls : Array Slot), m_X10_nextFit_L72 K n0 n1 k x1 x2 x3 s0 s1 s2 s3 = some (rv, uv) → va_P (dC, dI) vwCl [(q0, .inr (9, [.ref q1, .ref q2, .int s0, .int s1])), (q1, .inl (cI, n0, .inl s2)), (q2, .inl (cI, n1, .inl s3))] H → va_D A [(q0, .inr (9, [.ref q1, .ref q2, .int s0, .int s1])), (q1, .inl (cI, n0, .inl s2)), (q2, .inl (cI, n1, .inl s3))] → va_S A s.heap H locs → lv_has ls 6 [(0, .ref q0), (1, .int x1), (2, .int x2), (3, .int x3)] → W p l e rm_X10_nextFit s m args below meth c H locs 0 0 (MQ below (va_Qi (fun r u => rv = r ∧ uv = u) (fun u t => zz_wo dC dI [(cI, .int), (cJ, .long), (cZ, .boolean)] A (ce_X10 cI cJ cZ q0 q1 q2 n0 n1 u) t) A) args s 0 0 A) (F0 m 72 ls []) := by
  obtain ⟨hx, hb, hml, hown, hts⟩ := id hS0
  have inX10 := in_X10_nextFit_X10
  have f9 := hts (.fieldLink RX10 9 "RoomForms$Stretches" "size" "I") (by decide +kernel)
  have f15 := hts (.fieldLink RX10 15 "RoomForms$Stretches" "looked" "I") (by decide +kernel)
  have f24 := hts (.fieldLink RX10 24 "RoomForms$Stretches" "places" "[I") (by decide +kernel)
  have f28 := hts (.fieldLink RX10 28 "RoomForms$Stretches" "words" "[I") (by decide +kernel)
  intro k
  induction k with
  | zero =>
    intro _ _ _ _ _ _ _ _ _ _ hm
    have hm9 : (none : Option (Int32 × Int32 × Int32 × (Nat → Int32) × (Nat → Int32))) = some _ := hm
    cases hm9
  | succ k ih =>
    intro x1 x2 x3 s0 s1 s2 s3 H locs ls hm hP hD hS hl
    rw [m_X10_nextFit_L72_s] at hm
    refine lv_iload_n hx hb dX10_nextFit_72 rfl (lv_at hl 3 rfl) ?_
    refine lv_aload_n hx hb dX10_nextFit_73 rfl (lv_at hl 0 rfl) ?_
    refine va_get (D := (dC, dI)) (ci := 9) (v := .int s0) (C := RX10) (T := TX10) (N := 4) hx hb hts inX10 hown hK hP 0 rfl rfl 2 (by decide) f9 (fun _ h9 => h9) rfl dX10_nextFit_74 ?_
    refine lv_icmp_ge (tgt := 123) hx hb dX10_nextFit_77 (by decide) (fun c_2 => ?_) (fun c_2 => ?_)
    · replace hm := zz_t c_2 hm
      refine lv_iconst (v := (-1)) hx hb dX10_nextFit_123 (by decide) ?_
      have hm := Option.some.inj hm
      exact W.iret (v := (-1 : Int32)) hx hb hr (fun t ht hW => ⟨⟨(-1 : Int32), (s0, s1, s2, s3), rfl, ⟨(congrArg (·.1) hm).symm, (congrArg (·.2) hm).symm⟩, by rw [ht]; exact hP, va_K.moved hW.alike hK, hD⟩, hS.F ht⟩) hS.2.2 dX10_nextFit_124
    · replace hm := zz_f c_2 hm
      refine lv_aload_n hx hb dX10_nextFit_80 rfl (lv_at hl 0 rfl) ?_
      refine va_get (D := (dC, dI)) (ci := 9) (v := .ref q1) (C := RX10) (T := TX10) (N := 4) hx hb hts inX10 hown hK hP 0 rfl rfl 0 (by decide) f24 (fun _ h9 => h9) rfl dX10_nextFit_81 ?_
      refine lv_iload_n hx hb dX10_nextFit_84 rfl (lv_at hl 3 rfl) ?_
      obtain ⟨hi_3, hm⟩ := zz_chk hm
      refine va_iald hx hb hK hP 1 0 rfl rfl (i := x3) hi_3 dX10_nextFit_85 ?_
      refine lv_iload_n hx hb dX10_nextFit_86 rfl (lv_at hl 2 rfl) ?_
      refine lv_icmp_ge (tgt := 123) hx hb dX10_nextFit_87 (by decide) (fun c_4 => ?_) (fun c_4 => ?_)
      · replace hm := zz_t c_4 hm
        refine lv_iconst (v := (-1)) hx hb dX10_nextFit_123 (by decide) ?_
        have hm := Option.some.inj hm
        exact W.iret (v := (-1 : Int32)) hx hb hr (fun t ht hW => ⟨⟨(-1 : Int32), (s0, s1, s2, s3), rfl, ⟨(congrArg (·.1) hm).symm, (congrArg (·.2) hm).symm⟩, by rw [ht]; exact hP, va_K.moved hW.alike hK, hD⟩, hS.F ht⟩) hS.2.2 dX10_nextFit_124
      · replace hm := zz_f c_4 hm
        refine lv_aload_n hx hb dX10_nextFit_90 rfl (lv_at hl 0 rfl) ?_
        refine lv_dup hx hb dX10_nextFit_91 rfl ?_
        refine va_get (D := (dC, dI)) (ci := 9) (v := .int s1) (C := RX10) (T := TX10) (N := 4) hx hb hts inX10 hown hK hP 0 rfl rfl 3 (by decide) f15 (fun _ h9 => h9) rfl dX10_nextFit_92 ?_
        refine lv_iconst (v := 1) hx hb dX10_nextFit_95 (by decide) ?_
        refine lv_iadd hx hb dX10_nextFit_96 ?_
        refine va_put (D := (dC, dI)) (ci := 9) (v := .int (s1 + ((1 : Int32)))) (ty := .int) (C := RX10) (T := TX10) (N := 4) hx hb hts inX10 tyX10 tyX10_ok nmX10 hown hK hP hD hS 0 rfl rfl 3 (by decide) f15 (fun _ h9 => h9) rfl (by decide +kernel) rfl rfl (Nat.le_of_ble_eq_true rfl) dX10_nextFit_97 (fun H locs hP hD hS => ?_)
        have hP : va_P (dC, dI) vwCl [(q0, .inr (9, [.ref q1, .ref q2, .int s0, .int (s1 + ((1 : Int32)))])), (q1, .inl (cI, n0, .inl s2)), (q2, .inl (cI, n1, .inl s3))] _ := hP
        have hD : va_D A [(q0, .inr (9, [.ref q1, .ref q2, .int s0, .int (s1 + ((1 : Int32)))])), (q1, .inl (cI, n0, .inl s2)), (q2, .inl (cI, n1, .inl s3))] := hD
        refine lv_aload_n hx hb dX10_nextFit_100 rfl (lv_at hl 0 rfl) ?_
        refine va_get (D := (dC, dI)) (ci := 9) (v := .ref q2) (C := RX10) (T := TX10) (N := 4) hx hb hts inX10 hown hK hP 0 rfl rfl 1 (by decide) f28 (fun _ h9 => h9) rfl dX10_nextFit_101 ?_
        refine lv_iload_n hx hb dX10_nextFit_104 rfl (lv_at hl 3 rfl) ?_
        obtain ⟨hi_5, hm⟩ := zz_chk hm
        refine va_iald hx hb hK hP 2 0 rfl rfl (i := x3) hi_5 dX10_nextFit_105 ?_
        refine lv_iload_n hx hb dX10_nextFit_106 rfl (lv_at hl 1 rfl) ?_
        refine lv_icmp_lt (tgt := 117) hx hb dX10_nextFit_107 (by decide) (fun c_6 => ?_) (fun c_6 => ?_)
        · replace hm := zz_t c_6 hm
          refine lv_iinc (v := x3 + 1) (lv' := [(3, .int (x3 + 1)), (0, .ref q0), (1, .int x1), (2, .int x2)]) hx hb dX10_nextFit_117 hl (k := 3) rfl rfl (by decide) rfl (fun ls hl => ?_)
          refine lv_goto (tgt := 72) hx hb dX10_nextFit_120 (by decide) ?_
          exact ih x1 x2 (x3 + 1) s0 (s1 + ((1 : Int32))) s2 s3 _ _ _ hm hP hD hS (lv_sub hl [1, 2, 3, 0] rfl)
        · replace hm := zz_f c_6 hm
          refine lv_aload_n hx hb dX10_nextFit_110 rfl (lv_at hl 0 rfl) ?_
          refine va_get (D := (dC, dI)) (ci := 9) (v := .ref q1) (C := RX10) (T := TX10) (N := 4) hx hb hts inX10 hown hK hP 0 rfl rfl 0 (by decide) f24 (fun _ h9 => h9) rfl dX10_nextFit_111 ?_
          refine lv_iload_n hx hb dX10_nextFit_114 rfl (lv_at hl 3 rfl) ?_
          obtain ⟨hi_7, hm⟩ := zz_chk hm
          refine va_iald hx hb hK hP 1 0 rfl rfl (i := x3) hi_7 dX10_nextFit_115 ?_
          have hm := Option.some.inj hm
          exact W.iret (v := s2 x3.toNatClampNeg) hx hb hr (fun t ht hW => ⟨⟨s2 x3.toNatClampNeg, (s0, s1 + ((1 : Int32)), s2, s3), rfl, ⟨(congrArg (·.1) hm).symm, (congrArg (·.2) hm).symm⟩, by rw [ht]; exact hP, va_K.moved hW.alike hK, hD⟩, hS.F ht⟩) hS.2.2 dX10_nextFit_116
def m_X10_nextFit_L2 (K : Nat) (n0 : Nat) (n1 : Nat) : Nat → Int32 → Int32 → Int32 → Int32 → Int32 → (Nat → Int32) → (Nat → Int32) → Option (Int32 × Int32 × Int32 × (Nat → Int32) × (Nat → Int32))
  | 0, _, _, _, _, _, _, _ => none
  | k + 1, x1, x2, x3, s0, s1, s2, s3 =>
    if s0 ≤ x3 then m_X10_nextFit_L72 K n0 n1 K x1 x2 ((0 : Int32)) s0 s1 s2 s3
    else (if ¬ (x3 < 0 ∨ n0 ≤ x3.toNatClampNeg) then (if ¬ (x3 < 0 ∨ n0 ≤ x3.toNatClampNeg) then (if ¬ (x3 < 0 ∨ n1 ≤ x3.toNatClampNeg) then (if (((s2 x3.toNatClampNeg) + (s3 x3.toNatClampNeg)) - (zz_max (s2 x3.toNatClampNeg) x2)) ≤ 0 then m_X10_nextFit_L2 K n0 n1 k x1 x2 (x3 + 1) s0 s1 s2 s3
    else (if (((s2 x3.toNatClampNeg) + (s3 x3.toNatClampNeg)) - (zz_max (s2 x3.toNatClampNeg) x2)) < x1 then m_X10_nextFit_L2 K n0 n1 k x1 x2 (x3 + 1) s0 (s1 + ((1 : Int32))) s2 s3
    else some (zz_max (s2 x3.toNatClampNeg) x2, (s0, s1 + ((1 : Int32)), s2, s3)))) else none) else none) else none)
theorem m_X10_nextFit_L2_s (K : Nat) (n0 : Nat) (n1 : Nat) (k : Nat) (x1 : Int32) (x2 : Int32) (x3 : Int32) (s0 : Int32) (s1 : Int32) (s2 : Nat → Int32) (s3 : Nat → Int32) : m_X10_nextFit_L2 K n0 n1 (k + 1) x1 x2 x3 s0 s1 s2 s3 =
    (if s0 ≤ x3 then m_X10_nextFit_L72 K n0 n1 K x1 x2 ((0 : Int32)) s0 s1 s2 s3
    else (if ¬ (x3 < 0 ∨ n0 ≤ x3.toNatClampNeg) then (if ¬ (x3 < 0 ∨ n0 ≤ x3.toNatClampNeg) then (if ¬ (x3 < 0 ∨ n1 ≤ x3.toNatClampNeg) then (if (((s2 x3.toNatClampNeg) + (s3 x3.toNatClampNeg)) - (zz_max (s2 x3.toNatClampNeg) x2)) ≤ 0 then m_X10_nextFit_L2 K n0 n1 k x1 x2 (x3 + 1) s0 s1 s2 s3
    else (if (((s2 x3.toNatClampNeg) + (s3 x3.toNatClampNeg)) - (zz_max (s2 x3.toNatClampNeg) x2)) < x1 then m_X10_nextFit_L2 K n0 n1 k x1 x2 (x3 + 1) s0 (s1 + ((1 : Int32))) s2 s3
    else some (zz_max (s2 x3.toNatClampNeg) x2, (s0, s1 + ((1 : Int32)), s2, s3)))) else none) else none) else none)) := rfl
set_option maxHeartbeats 4000000 in
set_option maxRecDepth 100000 in
theorem w_X10_nextFit_L2 {p : Program} {l : Launch} {e : Env} {s : State} {m : MethodId} {args : Array Value} {below : List Frame} {meth : Method} {c : Code} (dC : Nat → ClassId) (dI : Nat → Nat → Nat) (cI cJ cZ : ClassId) (K : Nat) (q0 q1 q2 : Nat) (n0 : Nat) (n1 : Nat) (A : Nat → Prop) (rv : Int32) (uv : Int32 × Int32 × (Nat → Int32) × (Nat → Int32)) (hS0 : CallFix p m c cX10_nextFit 6 s args wsX10_nextFit RX10) (hr : meth.sig.returnType = (some .int)) (hlocks : meth.locks = false) (hA : ∀ q : Nat, s.heap.size ≤ q → A q) (hK : va_K (dC, dI) vwCl [(cI, .int), (cJ, .long), (cZ, .boolean)] s) (hN : zz_nw s) : ∀ (k : Nat) (x1 : Int32) (x2 : Int32) (x3 : Int32) (s0 : Int32) (s1 : Int32) (s2 : Nat → Int32) (s3 : Nat → Int32) (H : Heap) (locs : List Loc) (ls : Array Slot), m_X10_nextFit_L2 K n0 n1 k x1 x2 x3 s0 s1 s2 s3 = some (rv, uv) → va_P (dC, dI) vwCl [(q0, .inr (9, [.ref q1, .ref q2, .int s0, .int s1])), (q1, .inl (cI, n0, .inl s2)), (q2, .inl (cI, n1, .inl s3))] H → va_D A [(q0, .inr (9, [.ref q1, .ref q2, .int s0, .int s1])), (q1, .inl (cI, n0, .inl s2)), (q2, .inl (cI, n1, .inl s3))] → va_S A s.heap H locs → lv_has ls 6 [(0, .ref q0), (1, .int x1), (2, .int x2), (3, .int x3)] → W p l e rm_X10_nextFit s m args below meth c H locs 0 0 (MQ below (va_Qi (fun r u => rv = r ∧ uv = u) (fun u t => zz_wo dC dI [(cI, .int), (cJ, .long), (cZ, .boolean)] A (ce_X10 cI cJ cZ q0 q1 q2 n0 n1 u) t) A) args s 0 0 A) (F0 m 2 ls []) := by
  obtain ⟨hx, hb, hml, hown, hts⟩ := id hS0
  have inX10 := in_X10_nextFit_X10
  have f9 := hts (.fieldLink RX10 9 "RoomForms$Stretches" "size" "I") (by decide +kernel)
  have f15 := hts (.fieldLink RX10 15 "RoomForms$Stretches" "looked" "I") (by decide +kernel)
  have f24 := hts (.fieldLink RX10 24 "RoomForms$Stretches" "places" "[I") (by decide +kernel)
  have f28 := hts (.fieldLink RX10 28 "RoomForms$Stretches" "words" "[I") (by decide +kernel)
  intro k
  induction k with
  | zero =>
    intro _ _ _ _ _ _ _ _ _ _ hm
    have hm9 : (none : Option (Int32 × Int32 × Int32 × (Nat → Int32) × (Nat → Int32))) = some _ := hm
    cases hm9
  | succ k ih =>
    intro x1 x2 x3 s0 s1 s2 s3 H locs ls hm hP hD hS hl
    rw [m_X10_nextFit_L2_s] at hm
    refine lv_iload_n hx hb dX10_nextFit_2 rfl (lv_at hl 3 rfl) ?_
    refine lv_aload_n hx hb dX10_nextFit_3 rfl (lv_at hl 0 rfl) ?_
    refine va_get (D := (dC, dI)) (ci := 9) (v := .int s0) (C := RX10) (T := TX10) (N := 4) hx hb hts inX10 hown hK hP 0 rfl rfl 2 (by decide) f9 (fun _ h9 => h9) rfl dX10_nextFit_4 ?_
    refine lv_icmp_ge (tgt := 70) hx hb dX10_nextFit_7 (by decide) (fun c_1 => ?_) (fun c_1 => ?_)
    · replace hm := zz_t c_1 hm
      refine lv_iconst (v := 0) hx hb dX10_nextFit_70 (by decide) ?_
      refine lv_istore_n (lv' := [(3, .int ((0 : Int32))), (0, .ref q0), (1, .int x1), (2, .int x2)]) hx hb dX10_nextFit_71 rfl hl (by decide) rfl (fun ls hl => ?_)
      exact w_X10_nextFit_L72 dC dI cI cJ cZ K q0 q1 q2 n0 n1 A rv uv hS0 hr hlocks hA hK hN K x1 x2 ((0 : Int32)) s0 s1 s2 s3 _ _ _ hm hP hD hS (lv_sub hl [1, 2, 3, 0] rfl)
    · replace hm := zz_f c_1 hm
      refine lv_aload_n hx hb dX10_nextFit_10 rfl (lv_at hl 0 rfl) ?_
      refine va_get (D := (dC, dI)) (ci := 9) (v := .ref q1) (C := RX10) (T := TX10) (N := 4) hx hb hts inX10 hown hK hP 0 rfl rfl 0 (by decide) f24 (fun _ h9 => h9) rfl dX10_nextFit_11 ?_
      refine lv_iload_n hx hb dX10_nextFit_14 rfl (lv_at hl 3 rfl) ?_
      obtain ⟨hi_8, hm⟩ := zz_chk hm
      refine va_iald hx hb hK hP 1 0 rfl rfl (i := x3) hi_8 dX10_nextFit_15 ?_
      refine lv_iload_n hx hb dX10_nextFit_16 rfl (lv_at hl 2 rfl) ?_
      refine va_mmax hx hb (by rw [hml]; exact hl.1.symm) hown (hts (.methodLink RX10 18 Lib.Math.max.name) (by decide +kernel)) (hts (.static Lib.Math.max.name) (by decide +kernel)) (hts (.initialized "java/lang/Math") (by decide +kernel)) (hts (.code Lib.Math.max.name Lib.Math.max.code 2 (some .int)) (by decide +kernel)) (Nat.le_of_ble_eq_true rfl) (Nat.le_of_ble_eq_true rfl) (Nat.zero_le _) (Nat.zero_le _) dX10_nextFit_17 ?_
      change W _ _ _ _ _ _ _ _ _ _ _ _ _ _ _ (F0 m 20 _ (.int (zz_max (s2 x3.toNatClampNeg) x2) :: []))
      refine lv_istore (lv' := [(4, .int (zz_max (s2 x3.toNatClampNeg) x2)), (0, .ref q0), (1, .int x1), (2, .int x2), (3, .int x3)]) hx hb dX10_nextFit_20 hl (by decide) rfl (fun ls hl => ?_)
      refine lv_aload_n hx hb dX10_nextFit_22 rfl (lv_at hl 1 rfl) ?_
      refine va_get (D := (dC, dI)) (ci := 9) (v := .ref q1) (C := RX10) (T := TX10) (N := 4) hx hb hts inX10 hown hK hP 0 rfl rfl 0 (by decide) f24 (fun _ h9 => h9) rfl dX10_nextFit_23 ?_
      refine lv_iload_n hx hb dX10_nextFit_26 rfl (lv_at hl 4 rfl) ?_
      obtain ⟨hi_9, hm⟩ := zz_chk hm
      refine va_iald hx hb hK hP 1 0 rfl rfl (i := x3) hi_9 dX10_nextFit_27 ?_
      refine lv_aload_n hx hb dX10_nextFit_28 rfl (lv_at hl 1 rfl) ?_
      refine va_get (D := (dC, dI)) (ci := 9) (v := .ref q2) (C := RX10) (T := TX10) (N := 4) hx hb hts inX10 hown hK hP 0 rfl rfl 1 (by decide) f28 (fun _ h9 => h9) rfl dX10_nextFit_29 ?_
      refine lv_iload_n hx hb dX10_nextFit_32 rfl (lv_at hl 4 rfl) ?_
      obtain ⟨hi_10, hm⟩ := zz_chk hm
      refine va_iald hx hb hK hP 2 0 rfl rfl (i := x3) hi_10 dX10_nextFit_33 ?_
      refine lv_iadd hx hb dX10_nextFit_34 ?_
      refine lv_iload hx hb dX10_nextFit_35 (lv_at hl 0 rfl) ?_
      refine lv_isub hx hb dX10_nextFit_37 ?_
      refine lv_istore (lv' := [(5, .int (((s2 x3.toNatClampNeg) + (s3 x3.toNatClampNeg)) - (zz_max (s2 x3.toNatClampNeg) x2))), (4, .int (zz_max (s2 x3.toNatClampNeg) x2)), (0, .ref q0), (1, .int x1), (2, .int x2), (3, .int x3)]) hx hb dX10_nextFit_38 hl (by decide) rfl (fun ls hl => ?_)
      refine lv_iload hx hb dX10_nextFit_40 (lv_at hl 0 rfl) ?_
      refine lv_if_le (tgt := 64) hx hb dX10_nextFit_42 (by decide) (fun c_11 => ?_) (fun c_11 => ?_)
      · replace hm := zz_t c_11 hm
        refine lv_iinc (v := x3 + 1) (lv' := [(3, .int (x3 + 1)), (5, .int (((s2 x3.toNatClampNeg) + (s3 x3.toNatClampNeg)) - (zz_max (s2 x3.toNatClampNeg) x2))), (4, .int (zz_max (s2 x3.toNatClampNeg) x2)), (0, .ref q0), (1, .int x1), (2, .int x2)]) hx hb dX10_nextFit_64 hl (k := 5) rfl rfl (by decide) rfl (fun ls hl => ?_)
        refine lv_goto (tgt := 2) hx hb dX10_nextFit_67 (by decide) ?_
        exact ih x1 x2 (x3 + 1) s0 s1 s2 s3 _ _ _ hm hP hD hS (lv_sub hl [3, 4, 5, 0] rfl)
      · replace hm := zz_f c_11 hm
        refine lv_aload_n hx hb dX10_nextFit_45 rfl (lv_at hl 2 rfl) ?_
        refine lv_dup hx hb dX10_nextFit_46 rfl ?_
        refine va_get (D := (dC, dI)) (ci := 9) (v := .int s1) (C := RX10) (T := TX10) (N := 4) hx hb hts inX10 hown hK hP 0 rfl rfl 3 (by decide) f15 (fun _ h9 => h9) rfl dX10_nextFit_47 ?_
        refine lv_iconst (v := 1) hx hb dX10_nextFit_50 (by decide) ?_
        refine lv_iadd hx hb dX10_nextFit_51 ?_
        refine va_put (D := (dC, dI)) (ci := 9) (v := .int (s1 + ((1 : Int32)))) (ty := .int) (C := RX10) (T := TX10) (N := 4) hx hb hts inX10 tyX10 tyX10_ok nmX10 hown hK hP hD hS 0 rfl rfl 3 (by decide) f15 (fun _ h9 => h9) rfl (by decide +kernel) rfl rfl (Nat.le_of_ble_eq_true rfl) dX10_nextFit_52 (fun H locs hP hD hS => ?_)
        have hP : va_P (dC, dI) vwCl [(q0, .inr (9, [.ref q1, .ref q2, .int s0, .int (s1 + ((1 : Int32)))])), (q1, .inl (cI, n0, .inl s2)), (q2, .inl (cI, n1, .inl s3))] _ := hP
        have hD : va_D A [(q0, .inr (9, [.ref q1, .ref q2, .int s0, .int (s1 + ((1 : Int32)))])), (q1, .inl (cI, n0, .inl s2)), (q2, .inl (cI, n1, .inl s3))] := hD
        refine lv_iload hx hb dX10_nextFit_55 (lv_at hl 0 rfl) ?_
        refine lv_iload_n hx hb dX10_nextFit_57 rfl (lv_at hl 3 rfl) ?_
        refine lv_icmp_lt (tgt := 64) hx hb dX10_nextFit_58 (by decide) (fun c_12 => ?_) (fun c_12 => ?_)
        · replace hm := zz_t c_12 hm
          refine lv_iinc (v := x3 + 1) (lv' := [(3, .int (x3 + 1)), (5, .int (((s2 x3.toNatClampNeg) + (s3 x3.toNatClampNeg)) - (zz_max (s2 x3.toNatClampNeg) x2))), (4, .int (zz_max (s2 x3.toNatClampNeg) x2)), (0, .ref q0), (1, .int x1), (2, .int x2)]) hx hb dX10_nextFit_64 hl (k := 5) rfl rfl (by decide) rfl (fun ls hl => ?_)
          refine lv_goto (tgt := 2) hx hb dX10_nextFit_67 (by decide) ?_
          exact ih x1 x2 (x3 + 1) s0 (s1 + ((1 : Int32))) s2 s3 _ _ _ hm hP hD hS (lv_sub hl [3, 4, 5, 0] rfl)
        · replace hm := zz_f c_12 hm
          refine lv_iload hx hb dX10_nextFit_61 (lv_at hl 1 rfl) ?_
          have hm := Option.some.inj hm
          exact W.iret (v := zz_max (s2 x3.toNatClampNeg) x2) hx hb hr (fun t ht hW => ⟨⟨zz_max (s2 x3.toNatClampNeg) x2, (s0, s1 + ((1 : Int32)), s2, s3), rfl, ⟨(congrArg (·.1) hm).symm, (congrArg (·.2) hm).symm⟩, by rw [ht]; exact hP, va_K.moved hW.alike hK, hD⟩, hS.F ht⟩) hS.2.2 dX10_nextFit_63
def m_X10_nextFit (K : Nat) (n0 : Nat) (n1 : Nat) (p1 : Int32) (p2 : Int32) (s0 : Int32) (s1 : Int32) (s2 : Nat → Int32) (s3 : Nat → Int32) : Option (Int32 × Int32 × Int32 × (Nat → Int32) × (Nat → Int32)) :=
  m_X10_nextFit_L2 K n0 n1 K p1 p2 ((0 : Int32)) s0 s1 s2 s3
set_option maxHeartbeats 4000000 in
set_option maxRecDepth 100000 in
theorem c_X10_nextFit (l : Launch) (dC : Nat → ClassId) (dI : Nat → Nat → Nat) (cI cJ cZ : ClassId) (K : Nat) (q0 q1 q2 : Nat) (n0 : Nat) (n1 : Nat) (s0 : Int32) (s1 : Int32) (s2 : Nat → Int32) (s3 : Nat → Int32) (p1 : Int32) (p2 : Int32) (sz : Nat) (rv : Int32) (uv : Int32 × Int32 × (Nat → Int32) × (Nat → Int32)) (hm : m_X10_nextFit K n0 n1 p1 p2 s0 s1 s2 s3 = some (rv, uv)) : Met l yX10_nextFit wsX10_nextFit rm_X10_nextFit (zz_pre dC dI [(cI, .int), (cJ, .long), (cZ, .boolean)] [(q0, .inr (9, [.ref q1, .ref q2, .int s0, .int s1])), (q1, .inl (cI, n0, .inl s2)), (q2, .inl (cI, n1, .inl s3))] sz [.ref q0, .int p1, .int p2]) (va_Qi (fun r u => rv = r ∧ uv = u) (fun u t => zz_wo dC dI [(cI, .int), (cJ, .long), (cZ, .boolean)] (va_A [(q0, .inr (9, [.ref q1, .ref q2, .int s0, .int s1])), (q1, .inl (cI, n0, .inl s2)), (q2, .inl (cI, n1, .inl s3))] sz) (ce_X10 cI cJ cZ q0 q1 q2 n0 n1 u) t) (va_A [(q0, .inr (9, [.ref q1, .ref q2, .int s0, .int s1])), (q1, .inl (cI, n0, .inl s2)), (q2, .inl (cI, n1, .inl s3))] sz)) 0 0 (va_A [(q0, .inr (9, [.ref q1, .ref q2, .int s0, .int s1])), (q1, .inl (cI, n0, .inl s2)), (q2, .inl (cI, n1, .inl s3))] sz) := by
  refine Met.ofW (cc := cX10_nextFit) (maxL := 6) (ret := (some .int)) (by decide) rfl ?_
  intro p e s m args below meth c s₁ B hml hv
  obtain ⟨rfl, hsz, hP, hK, hD0, hN⟩ := hv
  have hx := B.exec
  have hb := B.bytes
  have hr := B.returns
  have hts := atoms_spec (ws := wsX10_nextFit) B.pre
  have hown : s.vm.findClass RX10 = some m.cls := findClass_of_methodNamed B.named
  have hlocks := B.notSynchronized
  have hS0 : CallFix p m c cX10_nextFit 6 s #[.ref q0, .int p1, .int p2] wsX10_nextFit RX10 := ⟨hx, hb, hml, hown, hts⟩
  subst hsz
  have hD := hD0.self (sz := s.heap.size)
  generalize hAe : va_A [(q0, .inr (9, [.ref q1, .ref q2, .int s0, .int s1])), (q1, .inl (cI, n0, .inl s2)), (q2, .inl (cI, n1, .inl s3))] s.heap.size = A at hD ⊢
  have hA : ∀ q : Nat, s.heap.size ≤ q → A q := fun q h => by rw [← hAe]; exact Or.inr h
  have hS : va_S A s.heap s.heap [] := va_S.rf
  have hl := lv_entry ([.ref q0, .int p1, .int p2]) (n := 6) (Nat.le_of_ble_eq_true rfl)
  rw [lg_entry_eq]
  generalize (lg_sl ([.ref q0, .int p1, .int p2]) ++ List.replicate (6 - (lg_sl ([.ref q0, .int p1, .int p2])).length) Slot.unset).toArray = ls at hl ⊢
  have hl : lv_has ls 6 [(0, .ref q0), (1, .int p1), (2, .int p2)] := hl
  have inX10 := in_X10_nextFit_X10
  have f9 := hts (.fieldLink RX10 9 "RoomForms$Stretches" "size" "I") (by decide +kernel)
  have f15 := hts (.fieldLink RX10 15 "RoomForms$Stretches" "looked" "I") (by decide +kernel)
  have f24 := hts (.fieldLink RX10 24 "RoomForms$Stretches" "places" "[I") (by decide +kernel)
  have f28 := hts (.fieldLink RX10 28 "RoomForms$Stretches" "words" "[I") (by decide +kernel)
  unfold m_X10_nextFit at hm
  refine lv_iconst (v := 0) hx hb dX10_nextFit_0 (by decide) ?_
  refine lv_istore_n (lv' := [(3, .int ((0 : Int32))), (0, .ref q0), (1, .int p1), (2, .int p2)]) hx hb dX10_nextFit_1 rfl hl (by decide) rfl (fun ls hl => ?_)
  exact w_X10_nextFit_L2 dC dI cI cJ cZ K q0 q1 q2 n0 n1 A rv uv hS0 hr hlocks hA hK hN K p1 p2 ((0 : Int32)) s0 s1 s2 s3 _ _ _ hm hP hD hS (lv_sub hl [1, 2, 3, 0] rfl)
abbrev rm_X10_bestFit : Room := { frames := 1, cells := 0, slots := 0, locals := 21 }
theorem in_X10_bestFit_X10 : ∀ w ∈ wsX100, w ∈ wsX10_bestFit := by decide +kernel
def m_X10_bestFit_L4 (K : Nat) (n0 : Nat) (n1 : Nat) : Nat → Int32 → Int32 → Int32 → Int32 → Int32 → (Nat → Int32) → (Nat → Int32) → Option (Int32 × Int32 × Int32 × (Nat → Int32) × (Nat → Int32))
  | 0, _, _, _, _, _, _, _ => none
  | k + 1, x1, x2, x3, s0, s1, s2, s3 =>
    if s0 ≤ x3 then (m_X10_placeOf K n0 n1 x2 s0 s0 s2 s3).bind fun ⟨r_2, t_2_0, t_2_1, t_2_2, t_2_3⟩ => some (r_2, (t_2_0, t_2_1, t_2_2, t_2_3))
    else (if ¬ (x3 < 0 ∨ n1 ≤ x3.toNatClampNeg) then (if (s3 x3.toNatClampNeg) < x1 then m_X10_bestFit_L4 K n0 n1 k x1 x2 (x3 + 1) s0 s1 s2 s3
    else (if x2 = ((-1 : Int32)) then m_X10_bestFit_L4 K n0 n1 k x1 x3 (x3 + 1) s0 s1 s2 s3
    else (if ¬ (x3 < 0 ∨ n1 ≤ x3.toNatClampNeg) then (if ¬ (x2 < 0 ∨ n1 ≤ x2.toNatClampNeg) then (if (s3 x2.toNatClampNeg) ≤ (s3 x3.toNatClampNeg) then m_X10_bestFit_L4 K n0 n1 k x1 x2 (x3 + 1) s0 s1 s2 s3
    else m_X10_bestFit_L4 K n0 n1 k x1 x3 (x3 + 1) s0 s1 s2 s3) else none) else none))) else none)
theorem m_X10_bestFit_L4_s (K : Nat) (n0 : Nat) (n1 : Nat) (k : Nat) (x1 : Int32) (x2 : Int32) (x3 : Int32) (s0 : Int32) (s1 : Int32) (s2 : Nat → Int32) (s3 : Nat → Int32) : m_X10_bestFit_L4 K n0 n1 (k + 1) x1 x2 x3 s0 s1 s2 s3 =
    (if s0 ≤ x3 then (m_X10_placeOf K n0 n1 x2 s0 s0 s2 s3).bind fun ⟨r_2, t_2_0, t_2_1, t_2_2, t_2_3⟩ => some (r_2, (t_2_0, t_2_1, t_2_2, t_2_3))
    else (if ¬ (x3 < 0 ∨ n1 ≤ x3.toNatClampNeg) then (if (s3 x3.toNatClampNeg) < x1 then m_X10_bestFit_L4 K n0 n1 k x1 x2 (x3 + 1) s0 s1 s2 s3
    else (if x2 = ((-1 : Int32)) then m_X10_bestFit_L4 K n0 n1 k x1 x3 (x3 + 1) s0 s1 s2 s3
    else (if ¬ (x3 < 0 ∨ n1 ≤ x3.toNatClampNeg) then (if ¬ (x2 < 0 ∨ n1 ≤ x2.toNatClampNeg) then (if (s3 x2.toNatClampNeg) ≤ (s3 x3.toNatClampNeg) then m_X10_bestFit_L4 K n0 n1 k x1 x2 (x3 + 1) s0 s1 s2 s3
    else m_X10_bestFit_L4 K n0 n1 k x1 x3 (x3 + 1) s0 s1 s2 s3) else none) else none))) else none)) := rfl
set_option maxHeartbeats 4000000 in
set_option maxRecDepth 100000 in
theorem w_X10_bestFit_L4 {p : Program} {l : Launch} {e : Env} {s : State} {m : MethodId} {args : Array Value} {below : List Frame} {meth : Method} {c : Code} (dC : Nat → ClassId) (dI : Nat → Nat → Nat) (cI cJ cZ : ClassId) (K : Nat) (q0 q1 q2 : Nat) (n0 : Nat) (n1 : Nat) (A : Nat → Prop) (rv : Int32) (uv : Int32 × Int32 × (Nat → Int32) × (Nat → Int32)) (hS0 : CallFix p m c cX10_bestFit 4 s args wsX10_bestFit RX10) (hr : meth.sig.returnType = (some .int)) (hlocks : meth.locks = false) (hA : ∀ q : Nat, s.heap.size ≤ q → A q) (hK : va_K (dC, dI) vwCl [(cI, .int), (cJ, .long), (cZ, .boolean)] s) (hN : zz_nw s) : ∀ (k : Nat) (x1 : Int32) (x2 : Int32) (x3 : Int32) (s0 : Int32) (s1 : Int32) (s2 : Nat → Int32) (s3 : Nat → Int32) (H : Heap) (locs : List Loc) (ls : Array Slot), m_X10_bestFit_L4 K n0 n1 k x1 x2 x3 s0 s1 s2 s3 = some (rv, uv) → va_P (dC, dI) vwCl [(q0, .inr (9, [.ref q1, .ref q2, .int s0, .int s1])), (q1, .inl (cI, n0, .inl s2)), (q2, .inl (cI, n1, .inl s3))] H → va_D A [(q0, .inr (9, [.ref q1, .ref q2, .int s0, .int s1])), (q1, .inl (cI, n0, .inl s2)), (q2, .inl (cI, n1, .inl s3))] → va_S A s.heap H locs → lv_has ls 4 [(0, .ref q0), (1, .int x1), (2, .int x2), (3, .int x3)] → W p l e rm_X10_bestFit s m args below meth c H locs 0 0 (MQ below (va_Qi (fun r u => rv = r ∧ uv = u) (fun u t => zz_wo dC dI [(cI, .int), (cJ, .long), (cZ, .boolean)] A (ce_X10 cI cJ cZ q0 q1 q2 n0 n1 u) t) A) args s 0 0 A) (F0 m 4 ls []) := by
  obtain ⟨hx, hb, hml, hown, hts⟩ := id hS0
  have inX10 := in_X10_bestFit_X10
  have f9 := hts (.fieldLink RX10 9 "RoomForms$Stretches" "size" "I") (by decide +kernel)
  have f15 := hts (.fieldLink RX10 15 "RoomForms$Stretches" "looked" "I") (by decide +kernel)
  have f28 := hts (.fieldLink RX10 28 "RoomForms$Stretches" "words" "[I") (by decide +kernel)
  intro k
  induction k with
  | zero =>
    intro _ _ _ _ _ _ _ _ _ _ hm
    have hm9 : (none : Option (Int32 × Int32 × Int32 × (Nat → Int32) × (Nat → Int32))) = some _ := hm
    cases hm9
  | succ k ih =>
    intro x1 x2 x3 s0 s1 s2 s3 H locs ls hm hP hD hS hl
    rw [m_X10_bestFit_L4_s] at hm
    refine lv_iload_n hx hb dX10_bestFit_4 rfl (lv_at hl 3 rfl) ?_
    refine lv_aload_n hx hb dX10_bestFit_5 rfl (lv_at hl 0 rfl) ?_
    refine va_get (D := (dC, dI)) (ci := 9) (v := .int s0) (C := RX10) (T := TX10) (N := 4) hx hb hts inX10 hown hK hP 0 rfl rfl 2 (by decide) f9 (fun _ h9 => h9) rfl dX10_bestFit_6 ?_
    refine lv_icmp_ge (tgt := 50) hx hb dX10_bestFit_9 (by decide) (fun c_1 => ?_) (fun c_1 => ?_)
    · replace hm := zz_t c_1 hm
      refine lv_aload_n hx hb dX10_bestFit_50 rfl (lv_at hl 0 rfl) ?_
      refine lv_aload_n hx hb dX10_bestFit_51 rfl (lv_at hl 0 rfl) ?_
      refine va_get (D := (dC, dI)) (ci := 9) (v := .int s0) (C := RX10) (T := TX10) (N := 4) hx hb hts inX10 hown hK hP 0 rfl rfl 2 (by decide) f9 (fun _ h9 => h9) rfl dX10_bestFit_52 ?_
      refine va_put (D := (dC, dI)) (ci := 9) (v := .int s0) (ty := .int) (C := RX10) (T := TX10) (N := 4) hx hb hts inX10 tyX10 tyX10_ok nmX10 hown hK hP hD hS 0 rfl rfl 3 (by decide) f15 (fun _ h9 => h9) rfl (by decide +kernel) rfl rfl (Nat.le_of_ble_eq_true rfl) dX10_bestFit_55 (fun H locs hP hD hS => ?_)
      have hP : va_P (dC, dI) vwCl [(q0, .inr (9, [.ref q1, .ref q2, .int s0, .int s0])), (q1, .inl (cI, n0, .inl s2)), (q2, .inl (cI, n1, .inl s3))] _ := hP
      have hD : va_D A [(q0, .inr (9, [.ref q1, .ref q2, .int s0, .int s0])), (q1, .inl (cI, n0, .inl s2)), (q2, .inl (cI, n1, .inl s3))] := hD
      refine lv_aload_n hx hb dX10_bestFit_58 rfl (lv_at hl 0 rfl) ?_
      refine lv_iload_n hx hb dX10_bestFit_59 rfl (lv_at hl 2 rfl) ?_
      obtain ⟨⟨r_2, t_2_0, t_2_1, t_2_2, t_2_3⟩, hc_2, hm⟩ := zz_bind hm
      have hPc := hP.sub (ws' := [(q0, .inr (9, [.ref q1, .ref q2, .int s0, .int s0])), (q1, .inl (cI, n0, .inl s2)), (q2, .inl (cI, n1, .inl s3))]) [0, 1, 2] rfl
      have hDc := hD.sub (ws' := [(q0, .inr (9, [.ref q1, .ref q2, .int s0, .int s0])), (q1, .inl (cI, n0, .inl s2)), (q2, .inl (cI, n1, .inl s3))]) [0, 1, 2] (by decide) rfl
      have hFc := va_free (wc := [(q0, .inr (9, [.ref q1, .ref q2, .int s0, .int s0])), (q1, .inl (cI, n0, .inl s2)), (q2, .inl (cI, n1, .inl s3))]) hD hS hA [0, 1, 2] rfl
      refine va_calli (va_runV (As := [.int x2]) (rest := []) hS0 (c_X10_placeOf l dC dI cI cJ cZ K q0 q1 q2 n0 n1 s0 s0 s2 s3 x2 _ r_2 (t_2_0, t_2_1, t_2_2, t_2_3) hc_2) (cwV 1 hts gX10_bestFit_X10_placeOf rfl rfl rfl (by decide +kernel) ⟨Nat.le_of_ble_eq_true rfl, Nat.le_of_ble_eq_true rfl⟩) (zz_pv hK hPc hDc hN (va_recv hK hPc (ci := 9) (q0 := 0) rfl rfl)) rfl rfl hl.1 rfl (lv_room (Nat.le_of_ble_eq_true rfl)) dX10_bestFit_60 ⟨Nat.zero_le _, Nat.zero_le _⟩) hS (fun q _ h => hFc q h) hFc (fun r u t H1 locs ht hvm hw hB hz1 hk1 hS => ?_)
      obtain ⟨rfl, rfl⟩ := hw
      obtain ⟨hP1, hK1, hD1⟩ := hB
      rw [ht] at hP1
      obtain ⟨hP, hD⟩ := va_join (wr := []) (w1 := [(q0, .inr (9, [.ref q1, .ref q2, .int t_2_0, .int t_2_1])), (q1, .inl (cI, n0, .inl t_2_2)), (q2, .inl (cI, n1, .inl t_2_3))]) hP hD [0, 1, 2] [] rfl rfl (by decide) (by decide) hk1 hFc hP1 hD1
      have hP : va_P (dC, dI) vwCl [(q0, .inr (9, [.ref q1, .ref q2, .int t_2_0, .int t_2_1])), (q1, .inl (cI, n0, .inl t_2_2)), (q2, .inl (cI, n1, .inl t_2_3))] _ := hP
      have hD : va_D A [(q0, .inr (9, [.ref q1, .ref q2, .int t_2_0, .int t_2_1])), (q1, .inl (cI, n0, .inl t_2_2)), (q2, .inl (cI, n1, .inl t_2_3))] := hD
      have hm := Option.some.inj hm
      exact W.iret (v := r_2) hx hb hr (fun t ht hW => ⟨⟨r_2, (t_2_0, t_2_1, t_2_2, t_2_3), rfl, ⟨(congrArg (·.1) hm).symm, (congrArg (·.2) hm).symm⟩, by rw [ht]; exact hP, va_K.moved hW.alike hK, hD⟩, hS.F ht⟩) hS.2.2 dX10_bestFit_63
    · replace hm := zz_f c_1 hm
      refine lv_aload_n hx hb dX10_bestFit_12 rfl (lv_at hl 0 rfl) ?_
      refine va_get (D := (dC, dI)) (ci := 9) (v := .ref q2) (C := RX10) (T := TX10) (N := 4) hx hb hts inX10 hown hK hP 0 rfl rfl 1 (by decide) f28 (fun _ h9 => h9) rfl dX10_bestFit_13 ?_
      refine lv_iload_n hx hb dX10_bestFit_16 rfl (lv_at hl 3 rfl) ?_
      obtain ⟨hi_3, hm⟩ := zz_chk hm
      refine va_iald hx hb hK hP 2 0 rfl rfl (i := x3) hi_3 dX10_bestFit_17 ?_
      refine lv_iload_n hx hb dX10_bestFit_18 rfl (lv_at hl 1 rfl) ?_
      refine lv_icmp_lt (tgt := 44) hx hb dX10_bestFit_19 (by decide) (fun c_4 => ?_) (fun c_4 => ?_)
      · replace hm := zz_t c_4 hm
        refine lv_iinc (v := x3 + 1) (lv' := [(3, .int (x3 + 1)), (0, .ref q0), (1, .int x1), (2, .int x2)]) hx hb dX10_bestFit_44 hl (k := 3) rfl rfl (by decide) rfl (fun ls hl => ?_)
        refine lv_goto (tgt := 4) hx hb dX10_bestFit_47 (by decide) ?_
        exact ih x1 x2 (x3 + 1) s0 s1 s2 s3 _ _ _ hm hP hD hS (lv_sub hl [1, 2, 3, 0] rfl)
      · replace hm := zz_f c_4 hm
        refine lv_iload_n hx hb dX10_bestFit_22 rfl (lv_at hl 2 rfl) ?_
        refine lv_iconst (v := (-1)) hx hb dX10_bestFit_23 (by decide) ?_
        refine lv_icmp_eq (tgt := 42) hx hb dX10_bestFit_24 (by decide) (fun c_5 => ?_) (fun c_5 => ?_)
        · replace hm := zz_t c_5 hm
          refine lv_iload_n hx hb dX10_bestFit_42 rfl (lv_at hl 3 rfl) ?_
          refine lv_istore_n (lv' := [(2, .int x3), (0, .ref q0), (1, .int x1), (3, .int x3)]) hx hb dX10_bestFit_43 rfl hl (by decide) rfl (fun ls hl => ?_)
          refine lv_iinc (v := x3 + 1) (lv' := [(3, .int (x3 + 1)), (2, .int x3), (0, .ref q0), (1, .int x1)]) hx hb dX10_bestFit_44 hl (k := 3) rfl rfl (by decide) rfl (fun ls hl => ?_)
          refine lv_goto (tgt := 4) hx hb dX10_bestFit_47 (by decide) ?_
          exact ih x1 x3 (x3 + 1) s0 s1 s2 s3 _ _ _ hm hP hD hS (lv_sub hl [2, 3, 1, 0] rfl)
        · replace hm := zz_f c_5 hm
          refine lv_aload_n hx hb dX10_bestFit_27 rfl (lv_at hl 0 rfl) ?_
          refine va_get (D := (dC, dI)) (ci := 9) (v := .ref q2) (C := RX10) (T := TX10) (N := 4) hx hb hts inX10 hown hK hP 0 rfl rfl 1 (by decide) f28 (fun _ h9 => h9) rfl dX10_bestFit_28 ?_
          refine lv_iload_n hx hb dX10_bestFit_31 rfl (lv_at hl 3 rfl) ?_
          obtain ⟨hi_6, hm⟩ := zz_chk hm
          refine va_iald hx hb hK hP 2 0 rfl rfl (i := x3) hi_6 dX10_bestFit_32 ?_
          refine lv_aload_n hx hb dX10_bestFit_33 rfl (lv_at hl 0 rfl) ?_
          refine va_get (D := (dC, dI)) (ci := 9) (v := .ref q2) (C := RX10) (T := TX10) (N := 4) hx hb hts inX10 hown hK hP 0 rfl rfl 1 (by decide) f28 (fun _ h9 => h9) rfl dX10_bestFit_34 ?_
          refine lv_iload_n hx hb dX10_bestFit_37 rfl (lv_at hl 2 rfl) ?_
          obtain ⟨hi_7, hm⟩ := zz_chk hm
          refine va_iald hx hb hK hP 2 0 rfl rfl (i := x2) hi_7 dX10_bestFit_38 ?_
          refine lv_icmp_ge (tgt := 44) hx hb dX10_bestFit_39 (by decide) (fun c_8 => ?_) (fun c_8 => ?_)
          · replace hm := zz_t c_8 hm
            refine lv_iinc (v := x3 + 1) (lv' := [(3, .int (x3 + 1)), (0, .ref q0), (1, .int x1), (2, .int x2)]) hx hb dX10_bestFit_44 hl (k := 3) rfl rfl (by decide) rfl (fun ls hl => ?_)
            refine lv_goto (tgt := 4) hx hb dX10_bestFit_47 (by decide) ?_
            exact ih x1 x2 (x3 + 1) s0 s1 s2 s3 _ _ _ hm hP hD hS (lv_sub hl [1, 2, 3, 0] rfl)
          · replace hm := zz_f c_8 hm
            refine lv_iload_n hx hb dX10_bestFit_42 rfl (lv_at hl 3 rfl) ?_
            refine lv_istore_n (lv' := [(2, .int x3), (0, .ref q0), (1, .int x1), (3, .int x3)]) hx hb dX10_bestFit_43 rfl hl (by decide) rfl (fun ls hl => ?_)
            refine lv_iinc (v := x3 + 1) (lv' := [(3, .int (x3 + 1)), (2, .int x3), (0, .ref q0), (1, .int x1)]) hx hb dX10_bestFit_44 hl (k := 3) rfl rfl (by decide) rfl (fun ls hl => ?_)
            refine lv_goto (tgt := 4) hx hb dX10_bestFit_47 (by decide) ?_
            exact ih x1 x3 (x3 + 1) s0 s1 s2 s3 _ _ _ hm hP hD hS (lv_sub hl [2, 3, 1, 0] rfl)
def m_X10_bestFit (K : Nat) (n0 : Nat) (n1 : Nat) (p1 : Int32) (s0 : Int32) (s1 : Int32) (s2 : Nat → Int32) (s3 : Nat → Int32) : Option (Int32 × Int32 × Int32 × (Nat → Int32) × (Nat → Int32)) :=
  m_X10_bestFit_L4 K n0 n1 K p1 ((-1 : Int32)) ((0 : Int32)) s0 s1 s2 s3
set_option maxHeartbeats 4000000 in
set_option maxRecDepth 100000 in
theorem c_X10_bestFit (l : Launch) (dC : Nat → ClassId) (dI : Nat → Nat → Nat) (cI cJ cZ : ClassId) (K : Nat) (q0 q1 q2 : Nat) (n0 : Nat) (n1 : Nat) (s0 : Int32) (s1 : Int32) (s2 : Nat → Int32) (s3 : Nat → Int32) (p1 : Int32) (sz : Nat) (rv : Int32) (uv : Int32 × Int32 × (Nat → Int32) × (Nat → Int32)) (hm : m_X10_bestFit K n0 n1 p1 s0 s1 s2 s3 = some (rv, uv)) : Met l yX10_bestFit wsX10_bestFit rm_X10_bestFit (zz_pre dC dI [(cI, .int), (cJ, .long), (cZ, .boolean)] [(q0, .inr (9, [.ref q1, .ref q2, .int s0, .int s1])), (q1, .inl (cI, n0, .inl s2)), (q2, .inl (cI, n1, .inl s3))] sz [.ref q0, .int p1]) (va_Qi (fun r u => rv = r ∧ uv = u) (fun u t => zz_wo dC dI [(cI, .int), (cJ, .long), (cZ, .boolean)] (va_A [(q0, .inr (9, [.ref q1, .ref q2, .int s0, .int s1])), (q1, .inl (cI, n0, .inl s2)), (q2, .inl (cI, n1, .inl s3))] sz) (ce_X10 cI cJ cZ q0 q1 q2 n0 n1 u) t) (va_A [(q0, .inr (9, [.ref q1, .ref q2, .int s0, .int s1])), (q1, .inl (cI, n0, .inl s2)), (q2, .inl (cI, n1, .inl s3))] sz)) 0 0 (va_A [(q0, .inr (9, [.ref q1, .ref q2, .int s0, .int s1])), (q1, .inl (cI, n0, .inl s2)), (q2, .inl (cI, n1, .inl s3))] sz) := by
  refine Met.ofW (cc := cX10_bestFit) (maxL := 4) (ret := (some .int)) (by decide) rfl ?_
  intro p e s m args below meth c s₁ B hml hv
  obtain ⟨rfl, hsz, hP, hK, hD0, hN⟩ := hv
  have hx := B.exec
  have hb := B.bytes
  have hr := B.returns
  have hts := atoms_spec (ws := wsX10_bestFit) B.pre
  have hown : s.vm.findClass RX10 = some m.cls := findClass_of_methodNamed B.named
  have hlocks := B.notSynchronized
  have hS0 : CallFix p m c cX10_bestFit 4 s #[.ref q0, .int p1] wsX10_bestFit RX10 := ⟨hx, hb, hml, hown, hts⟩
  subst hsz
  have hD := hD0.self (sz := s.heap.size)
  generalize hAe : va_A [(q0, .inr (9, [.ref q1, .ref q2, .int s0, .int s1])), (q1, .inl (cI, n0, .inl s2)), (q2, .inl (cI, n1, .inl s3))] s.heap.size = A at hD ⊢
  have hA : ∀ q : Nat, s.heap.size ≤ q → A q := fun q h => by rw [← hAe]; exact Or.inr h
  have hS : va_S A s.heap s.heap [] := va_S.rf
  have hl := lv_entry ([.ref q0, .int p1]) (n := 4) (Nat.le_of_ble_eq_true rfl)
  rw [lg_entry_eq]
  generalize (lg_sl ([.ref q0, .int p1]) ++ List.replicate (4 - (lg_sl ([.ref q0, .int p1])).length) Slot.unset).toArray = ls at hl ⊢
  have hl : lv_has ls 4 [(0, .ref q0), (1, .int p1)] := hl
  have inX10 := in_X10_bestFit_X10
  have f9 := hts (.fieldLink RX10 9 "RoomForms$Stretches" "size" "I") (by decide +kernel)
  have f15 := hts (.fieldLink RX10 15 "RoomForms$Stretches" "looked" "I") (by decide +kernel)
  have f28 := hts (.fieldLink RX10 28 "RoomForms$Stretches" "words" "[I") (by decide +kernel)
  unfold m_X10_bestFit at hm
  refine lv_iconst (v := (-1)) hx hb dX10_bestFit_0 (by decide) ?_
  refine lv_istore_n (lv' := [(2, .int ((-1 : Int32))), (0, .ref q0), (1, .int p1)]) hx hb dX10_bestFit_1 rfl hl (by decide) rfl (fun ls hl => ?_)
  refine lv_iconst (v := 0) hx hb dX10_bestFit_2 (by decide) ?_
  refine lv_istore_n (lv' := [(3, .int ((0 : Int32))), (2, .int ((-1 : Int32))), (0, .ref q0), (1, .int p1)]) hx hb dX10_bestFit_3 rfl hl (by decide) rfl (fun ls hl => ?_)
  exact w_X10_bestFit_L4 dC dI cI cJ cZ K q0 q1 q2 n0 n1 A rv uv hS0 hr hlocks hA hK hN K p1 ((-1 : Int32)) ((0 : Int32)) s0 s1 s2 s3 _ _ _ hm hP hD hS (lv_sub hl [2, 3, 1, 0] rfl)
abbrev rm_X10_greatestFit : Room := { frames := 1, cells := 0, slots := 0, locals := 21 }
theorem in_X10_greatestFit_X10 : ∀ w ∈ wsX100, w ∈ wsX10_greatestFit := by decide +kernel
def m_X10_greatestFit_L4 (K : Nat) (n0 : Nat) (n1 : Nat) : Nat → Int32 → Int32 → Int32 → Int32 → Int32 → (Nat → Int32) → (Nat → Int32) → Option (Int32 × Int32 × Int32 × (Nat → Int32) × (Nat → Int32))
  | 0, _, _, _, _, _, _, _ => none
  | k + 1, x1, x2, x3, s0, s1, s2, s3 =>
    if s0 ≤ x3 then (m_X10_placeOf K n0 n1 x2 s0 s0 s2 s3).bind fun ⟨r_2, t_2_0, t_2_1, t_2_2, t_2_3⟩ => some (r_2, (t_2_0, t_2_1, t_2_2, t_2_3))
    else (if ¬ (x3 < 0 ∨ n1 ≤ x3.toNatClampNeg) then (if (s3 x3.toNatClampNeg) < x1 then m_X10_greatestFit_L4 K n0 n1 k x1 x2 (x3 + 1) s0 s1 s2 s3
    else (if x2 = ((-1 : Int32)) then m_X10_greatestFit_L4 K n0 n1 k x1 x3 (x3 + 1) s0 s1 s2 s3
    else (if ¬ (x3 < 0 ∨ n1 ≤ x3.toNatClampNeg) then (if ¬ (x2 < 0 ∨ n1 ≤ x2.toNatClampNeg) then (if (s3 x3.toNatClampNeg) ≤ (s3 x2.toNatClampNeg) then m_X10_greatestFit_L4 K n0 n1 k x1 x2 (x3 + 1) s0 s1 s2 s3
    else m_X10_greatestFit_L4 K n0 n1 k x1 x3 (x3 + 1) s0 s1 s2 s3) else none) else none))) else none)
theorem m_X10_greatestFit_L4_s (K : Nat) (n0 : Nat) (n1 : Nat) (k : Nat) (x1 : Int32) (x2 : Int32) (x3 : Int32) (s0 : Int32) (s1 : Int32) (s2 : Nat → Int32) (s3 : Nat → Int32) : m_X10_greatestFit_L4 K n0 n1 (k + 1) x1 x2 x3 s0 s1 s2 s3 =
    (if s0 ≤ x3 then (m_X10_placeOf K n0 n1 x2 s0 s0 s2 s3).bind fun ⟨r_2, t_2_0, t_2_1, t_2_2, t_2_3⟩ => some (r_2, (t_2_0, t_2_1, t_2_2, t_2_3))
    else (if ¬ (x3 < 0 ∨ n1 ≤ x3.toNatClampNeg) then (if (s3 x3.toNatClampNeg) < x1 then m_X10_greatestFit_L4 K n0 n1 k x1 x2 (x3 + 1) s0 s1 s2 s3
    else (if x2 = ((-1 : Int32)) then m_X10_greatestFit_L4 K n0 n1 k x1 x3 (x3 + 1) s0 s1 s2 s3
    else (if ¬ (x3 < 0 ∨ n1 ≤ x3.toNatClampNeg) then (if ¬ (x2 < 0 ∨ n1 ≤ x2.toNatClampNeg) then (if (s3 x3.toNatClampNeg) ≤ (s3 x2.toNatClampNeg) then m_X10_greatestFit_L4 K n0 n1 k x1 x2 (x3 + 1) s0 s1 s2 s3
    else m_X10_greatestFit_L4 K n0 n1 k x1 x3 (x3 + 1) s0 s1 s2 s3) else none) else none))) else none)) := rfl
set_option maxHeartbeats 4000000 in
set_option maxRecDepth 100000 in
theorem w_X10_greatestFit_L4 {p : Program} {l : Launch} {e : Env} {s : State} {m : MethodId} {args : Array Value} {below : List Frame} {meth : Method} {c : Code} (dC : Nat → ClassId) (dI : Nat → Nat → Nat) (cI cJ cZ : ClassId) (K : Nat) (q0 q1 q2 : Nat) (n0 : Nat) (n1 : Nat) (A : Nat → Prop) (rv : Int32) (uv : Int32 × Int32 × (Nat → Int32) × (Nat → Int32)) (hS0 : CallFix p m c cX10_greatestFit 4 s args wsX10_greatestFit RX10) (hr : meth.sig.returnType = (some .int)) (hlocks : meth.locks = false) (hA : ∀ q : Nat, s.heap.size ≤ q → A q) (hK : va_K (dC, dI) vwCl [(cI, .int), (cJ, .long), (cZ, .boolean)] s) (hN : zz_nw s) : ∀ (k : Nat) (x1 : Int32) (x2 : Int32) (x3 : Int32) (s0 : Int32) (s1 : Int32) (s2 : Nat → Int32) (s3 : Nat → Int32) (H : Heap) (locs : List Loc) (ls : Array Slot), m_X10_greatestFit_L4 K n0 n1 k x1 x2 x3 s0 s1 s2 s3 = some (rv, uv) → va_P (dC, dI) vwCl [(q0, .inr (9, [.ref q1, .ref q2, .int s0, .int s1])), (q1, .inl (cI, n0, .inl s2)), (q2, .inl (cI, n1, .inl s3))] H → va_D A [(q0, .inr (9, [.ref q1, .ref q2, .int s0, .int s1])), (q1, .inl (cI, n0, .inl s2)), (q2, .inl (cI, n1, .inl s3))] → va_S A s.heap H locs → lv_has ls 4 [(0, .ref q0), (1, .int x1), (2, .int x2), (3, .int x3)] → W p l e rm_X10_greatestFit s m args below meth c H locs 0 0 (MQ below (va_Qi (fun r u => rv = r ∧ uv = u) (fun u t => zz_wo dC dI [(cI, .int), (cJ, .long), (cZ, .boolean)] A (ce_X10 cI cJ cZ q0 q1 q2 n0 n1 u) t) A) args s 0 0 A) (F0 m 4 ls []) := by
  obtain ⟨hx, hb, hml, hown, hts⟩ := id hS0
  have inX10 := in_X10_greatestFit_X10
  have f9 := hts (.fieldLink RX10 9 "RoomForms$Stretches" "size" "I") (by decide +kernel)
  have f15 := hts (.fieldLink RX10 15 "RoomForms$Stretches" "looked" "I") (by decide +kernel)
  have f28 := hts (.fieldLink RX10 28 "RoomForms$Stretches" "words" "[I") (by decide +kernel)
  intro k
  induction k with
  | zero =>
    intro _ _ _ _ _ _ _ _ _ _ hm
    have hm9 : (none : Option (Int32 × Int32 × Int32 × (Nat → Int32) × (Nat → Int32))) = some _ := hm
    cases hm9
  | succ k ih =>
    intro x1 x2 x3 s0 s1 s2 s3 H locs ls hm hP hD hS hl
    rw [m_X10_greatestFit_L4_s] at hm
    refine lv_iload_n hx hb dX10_greatestFit_4 rfl (lv_at hl 3 rfl) ?_
    refine lv_aload_n hx hb dX10_greatestFit_5 rfl (lv_at hl 0 rfl) ?_
    refine va_get (D := (dC, dI)) (ci := 9) (v := .int s0) (C := RX10) (T := TX10) (N := 4) hx hb hts inX10 hown hK hP 0 rfl rfl 2 (by decide) f9 (fun _ h9 => h9) rfl dX10_greatestFit_6 ?_
    refine lv_icmp_ge (tgt := 50) hx hb dX10_greatestFit_9 (by decide) (fun c_1 => ?_) (fun c_1 => ?_)
    · replace hm := zz_t c_1 hm
      refine lv_aload_n hx hb dX10_greatestFit_50 rfl (lv_at hl 0 rfl) ?_
      refine lv_aload_n hx hb dX10_greatestFit_51 rfl (lv_at hl 0 rfl) ?_
      refine va_get (D := (dC, dI)) (ci := 9) (v := .int s0) (C := RX10) (T := TX10) (N := 4) hx hb hts inX10 hown hK hP 0 rfl rfl 2 (by decide) f9 (fun _ h9 => h9) rfl dX10_greatestFit_52 ?_
      refine va_put (D := (dC, dI)) (ci := 9) (v := .int s0) (ty := .int) (C := RX10) (T := TX10) (N := 4) hx hb hts inX10 tyX10 tyX10_ok nmX10 hown hK hP hD hS 0 rfl rfl 3 (by decide) f15 (fun _ h9 => h9) rfl (by decide +kernel) rfl rfl (Nat.le_of_ble_eq_true rfl) dX10_greatestFit_55 (fun H locs hP hD hS => ?_)
      have hP : va_P (dC, dI) vwCl [(q0, .inr (9, [.ref q1, .ref q2, .int s0, .int s0])), (q1, .inl (cI, n0, .inl s2)), (q2, .inl (cI, n1, .inl s3))] _ := hP
      have hD : va_D A [(q0, .inr (9, [.ref q1, .ref q2, .int s0, .int s0])), (q1, .inl (cI, n0, .inl s2)), (q2, .inl (cI, n1, .inl s3))] := hD
      refine lv_aload_n hx hb dX10_greatestFit_58 rfl (lv_at hl 0 rfl) ?_
      refine lv_iload_n hx hb dX10_greatestFit_59 rfl (lv_at hl 2 rfl) ?_
      obtain ⟨⟨r_2, t_2_0, t_2_1, t_2_2, t_2_3⟩, hc_2, hm⟩ := zz_bind hm
      have hPc := hP.sub (ws' := [(q0, .inr (9, [.ref q1, .ref q2, .int s0, .int s0])), (q1, .inl (cI, n0, .inl s2)), (q2, .inl (cI, n1, .inl s3))]) [0, 1, 2] rfl
      have hDc := hD.sub (ws' := [(q0, .inr (9, [.ref q1, .ref q2, .int s0, .int s0])), (q1, .inl (cI, n0, .inl s2)), (q2, .inl (cI, n1, .inl s3))]) [0, 1, 2] (by decide) rfl
      have hFc := va_free (wc := [(q0, .inr (9, [.ref q1, .ref q2, .int s0, .int s0])), (q1, .inl (cI, n0, .inl s2)), (q2, .inl (cI, n1, .inl s3))]) hD hS hA [0, 1, 2] rfl
      refine va_calli (va_runV (As := [.int x2]) (rest := []) hS0 (c_X10_placeOf l dC dI cI cJ cZ K q0 q1 q2 n0 n1 s0 s0 s2 s3 x2 _ r_2 (t_2_0, t_2_1, t_2_2, t_2_3) hc_2) (cwV 1 hts gX10_greatestFit_X10_placeOf rfl rfl rfl (by decide +kernel) ⟨Nat.le_of_ble_eq_true rfl, Nat.le_of_ble_eq_true rfl⟩) (zz_pv hK hPc hDc hN (va_recv hK hPc (ci := 9) (q0 := 0) rfl rfl)) rfl rfl hl.1 rfl (lv_room (Nat.le_of_ble_eq_true rfl)) dX10_greatestFit_60 ⟨Nat.zero_le _, Nat.zero_le _⟩) hS (fun q _ h => hFc q h) hFc (fun r u t H1 locs ht hvm hw hB hz1 hk1 hS => ?_)
      obtain ⟨rfl, rfl⟩ := hw
      obtain ⟨hP1, hK1, hD1⟩ := hB
      rw [ht] at hP1
      obtain ⟨hP, hD⟩ := va_join (wr := []) (w1 := [(q0, .inr (9, [.ref q1, .ref q2, .int t_2_0, .int t_2_1])), (q1, .inl (cI, n0, .inl t_2_2)), (q2, .inl (cI, n1, .inl t_2_3))]) hP hD [0, 1, 2] [] rfl rfl (by decide) (by decide) hk1 hFc hP1 hD1
      have hP : va_P (dC, dI) vwCl [(q0, .inr (9, [.ref q1, .ref q2, .int t_2_0, .int t_2_1])), (q1, .inl (cI, n0, .inl t_2_2)), (q2, .inl (cI, n1, .inl t_2_3))] _ := hP
      have hD : va_D A [(q0, .inr (9, [.ref q1, .ref q2, .int t_2_0, .int t_2_1])), (q1, .inl (cI, n0, .inl t_2_2)), (q2, .inl (cI, n1, .inl t_2_3))] := hD
      have hm := Option.some.inj hm
      exact W.iret (v := r_2) hx hb hr (fun t ht hW => ⟨⟨r_2, (t_2_0, t_2_1, t_2_2, t_2_3), rfl, ⟨(congrArg (·.1) hm).symm, (congrArg (·.2) hm).symm⟩, by rw [ht]; exact hP, va_K.moved hW.alike hK, hD⟩, hS.F ht⟩) hS.2.2 dX10_greatestFit_63
    · replace hm := zz_f c_1 hm
      refine lv_aload_n hx hb dX10_greatestFit_12 rfl (lv_at hl 0 rfl) ?_
      refine va_get (D := (dC, dI)) (ci := 9) (v := .ref q2) (C := RX10) (T := TX10) (N := 4) hx hb hts inX10 hown hK hP 0 rfl rfl 1 (by decide) f28 (fun _ h9 => h9) rfl dX10_greatestFit_13 ?_
      refine lv_iload_n hx hb dX10_greatestFit_16 rfl (lv_at hl 3 rfl) ?_
      obtain ⟨hi_3, hm⟩ := zz_chk hm
      refine va_iald hx hb hK hP 2 0 rfl rfl (i := x3) hi_3 dX10_greatestFit_17 ?_
      refine lv_iload_n hx hb dX10_greatestFit_18 rfl (lv_at hl 1 rfl) ?_
      refine lv_icmp_lt (tgt := 44) hx hb dX10_greatestFit_19 (by decide) (fun c_4 => ?_) (fun c_4 => ?_)
      · replace hm := zz_t c_4 hm
        refine lv_iinc (v := x3 + 1) (lv' := [(3, .int (x3 + 1)), (0, .ref q0), (1, .int x1), (2, .int x2)]) hx hb dX10_greatestFit_44 hl (k := 3) rfl rfl (by decide) rfl (fun ls hl => ?_)
        refine lv_goto (tgt := 4) hx hb dX10_greatestFit_47 (by decide) ?_
        exact ih x1 x2 (x3 + 1) s0 s1 s2 s3 _ _ _ hm hP hD hS (lv_sub hl [1, 2, 3, 0] rfl)
      · replace hm := zz_f c_4 hm
        refine lv_iload_n hx hb dX10_greatestFit_22 rfl (lv_at hl 2 rfl) ?_
        refine lv_iconst (v := (-1)) hx hb dX10_greatestFit_23 (by decide) ?_
        refine lv_icmp_eq (tgt := 42) hx hb dX10_greatestFit_24 (by decide) (fun c_5 => ?_) (fun c_5 => ?_)
        · replace hm := zz_t c_5 hm
          refine lv_iload_n hx hb dX10_greatestFit_42 rfl (lv_at hl 3 rfl) ?_
          refine lv_istore_n (lv' := [(2, .int x3), (0, .ref q0), (1, .int x1), (3, .int x3)]) hx hb dX10_greatestFit_43 rfl hl (by decide) rfl (fun ls hl => ?_)
          refine lv_iinc (v := x3 + 1) (lv' := [(3, .int (x3 + 1)), (2, .int x3), (0, .ref q0), (1, .int x1)]) hx hb dX10_greatestFit_44 hl (k := 3) rfl rfl (by decide) rfl (fun ls hl => ?_)
          refine lv_goto (tgt := 4) hx hb dX10_greatestFit_47 (by decide) ?_
          exact ih x1 x3 (x3 + 1) s0 s1 s2 s3 _ _ _ hm hP hD hS (lv_sub hl [2, 3, 1, 0] rfl)
        · replace hm := zz_f c_5 hm
          refine lv_aload_n hx hb dX10_greatestFit_27 rfl (lv_at hl 0 rfl) ?_
          refine va_get (D := (dC, dI)) (ci := 9) (v := .ref q2) (C := RX10) (T := TX10) (N := 4) hx hb hts inX10 hown hK hP 0 rfl rfl 1 (by decide) f28 (fun _ h9 => h9) rfl dX10_greatestFit_28 ?_
          refine lv_iload_n hx hb dX10_greatestFit_31 rfl (lv_at hl 3 rfl) ?_
          obtain ⟨hi_6, hm⟩ := zz_chk hm
          refine va_iald hx hb hK hP 2 0 rfl rfl (i := x3) hi_6 dX10_greatestFit_32 ?_
          refine lv_aload_n hx hb dX10_greatestFit_33 rfl (lv_at hl 0 rfl) ?_
          refine va_get (D := (dC, dI)) (ci := 9) (v := .ref q2) (C := RX10) (T := TX10) (N := 4) hx hb hts inX10 hown hK hP 0 rfl rfl 1 (by decide) f28 (fun _ h9 => h9) rfl dX10_greatestFit_34 ?_
          refine lv_iload_n hx hb dX10_greatestFit_37 rfl (lv_at hl 2 rfl) ?_
          obtain ⟨hi_7, hm⟩ := zz_chk hm
          refine va_iald hx hb hK hP 2 0 rfl rfl (i := x2) hi_7 dX10_greatestFit_38 ?_
          refine lv_icmp_le (tgt := 44) hx hb dX10_greatestFit_39 (by decide) (fun c_8 => ?_) (fun c_8 => ?_)
          · replace hm := zz_t c_8 hm
            refine lv_iinc (v := x3 + 1) (lv' := [(3, .int (x3 + 1)), (0, .ref q0), (1, .int x1), (2, .int x2)]) hx hb dX10_greatestFit_44 hl (k := 3) rfl rfl (by decide) rfl (fun ls hl => ?_)
            refine lv_goto (tgt := 4) hx hb dX10_greatestFit_47 (by decide) ?_
            exact ih x1 x2 (x3 + 1) s0 s1 s2 s3 _ _ _ hm hP hD hS (lv_sub hl [1, 2, 3, 0] rfl)
          · replace hm := zz_f c_8 hm
            refine lv_iload_n hx hb dX10_greatestFit_42 rfl (lv_at hl 3 rfl) ?_
            refine lv_istore_n (lv' := [(2, .int x3), (0, .ref q0), (1, .int x1), (3, .int x3)]) hx hb dX10_greatestFit_43 rfl hl (by decide) rfl (fun ls hl => ?_)
            refine lv_iinc (v := x3 + 1) (lv' := [(3, .int (x3 + 1)), (2, .int x3), (0, .ref q0), (1, .int x1)]) hx hb dX10_greatestFit_44 hl (k := 3) rfl rfl (by decide) rfl (fun ls hl => ?_)
            refine lv_goto (tgt := 4) hx hb dX10_greatestFit_47 (by decide) ?_
            exact ih x1 x3 (x3 + 1) s0 s1 s2 s3 _ _ _ hm hP hD hS (lv_sub hl [2, 3, 1, 0] rfl)
def m_X10_greatestFit (K : Nat) (n0 : Nat) (n1 : Nat) (p1 : Int32) (s0 : Int32) (s1 : Int32) (s2 : Nat → Int32) (s3 : Nat → Int32) : Option (Int32 × Int32 × Int32 × (Nat → Int32) × (Nat → Int32)) :=
  m_X10_greatestFit_L4 K n0 n1 K p1 ((-1 : Int32)) ((0 : Int32)) s0 s1 s2 s3
set_option maxHeartbeats 4000000 in
set_option maxRecDepth 100000 in
theorem c_X10_greatestFit (l : Launch) (dC : Nat → ClassId) (dI : Nat → Nat → Nat) (cI cJ cZ : ClassId) (K : Nat) (q0 q1 q2 : Nat) (n0 : Nat) (n1 : Nat) (s0 : Int32) (s1 : Int32) (s2 : Nat → Int32) (s3 : Nat → Int32) (p1 : Int32) (sz : Nat) (rv : Int32) (uv : Int32 × Int32 × (Nat → Int32) × (Nat → Int32)) (hm : m_X10_greatestFit K n0 n1 p1 s0 s1 s2 s3 = some (rv, uv)) : Met l yX10_greatestFit wsX10_greatestFit rm_X10_greatestFit (zz_pre dC dI [(cI, .int), (cJ, .long), (cZ, .boolean)] [(q0, .inr (9, [.ref q1, .ref q2, .int s0, .int s1])), (q1, .inl (cI, n0, .inl s2)), (q2, .inl (cI, n1, .inl s3))] sz [.ref q0, .int p1]) (va_Qi (fun r u => rv = r ∧ uv = u) (fun u t => zz_wo dC dI [(cI, .int), (cJ, .long), (cZ, .boolean)] (va_A [(q0, .inr (9, [.ref q1, .ref q2, .int s0, .int s1])), (q1, .inl (cI, n0, .inl s2)), (q2, .inl (cI, n1, .inl s3))] sz) (ce_X10 cI cJ cZ q0 q1 q2 n0 n1 u) t) (va_A [(q0, .inr (9, [.ref q1, .ref q2, .int s0, .int s1])), (q1, .inl (cI, n0, .inl s2)), (q2, .inl (cI, n1, .inl s3))] sz)) 0 0 (va_A [(q0, .inr (9, [.ref q1, .ref q2, .int s0, .int s1])), (q1, .inl (cI, n0, .inl s2)), (q2, .inl (cI, n1, .inl s3))] sz) := by
  refine Met.ofW (cc := cX10_greatestFit) (maxL := 4) (ret := (some .int)) (by decide) rfl ?_
  intro p e s m args below meth c s₁ B hml hv
  obtain ⟨rfl, hsz, hP, hK, hD0, hN⟩ := hv
  have hx := B.exec
  have hb := B.bytes
  have hr := B.returns
  have hts := atoms_spec (ws := wsX10_greatestFit) B.pre
  have hown : s.vm.findClass RX10 = some m.cls := findClass_of_methodNamed B.named
  have hlocks := B.notSynchronized
  have hS0 : CallFix p m c cX10_greatestFit 4 s #[.ref q0, .int p1] wsX10_greatestFit RX10 := ⟨hx, hb, hml, hown, hts⟩
  subst hsz
  have hD := hD0.self (sz := s.heap.size)
  generalize hAe : va_A [(q0, .inr (9, [.ref q1, .ref q2, .int s0, .int s1])), (q1, .inl (cI, n0, .inl s2)), (q2, .inl (cI, n1, .inl s3))] s.heap.size = A at hD ⊢
  have hA : ∀ q : Nat, s.heap.size ≤ q → A q := fun q h => by rw [← hAe]; exact Or.inr h
  have hS : va_S A s.heap s.heap [] := va_S.rf
  have hl := lv_entry ([.ref q0, .int p1]) (n := 4) (Nat.le_of_ble_eq_true rfl)
  rw [lg_entry_eq]
  generalize (lg_sl ([.ref q0, .int p1]) ++ List.replicate (4 - (lg_sl ([.ref q0, .int p1])).length) Slot.unset).toArray = ls at hl ⊢
  have hl : lv_has ls 4 [(0, .ref q0), (1, .int p1)] := hl
  have inX10 := in_X10_greatestFit_X10
  have f9 := hts (.fieldLink RX10 9 "RoomForms$Stretches" "size" "I") (by decide +kernel)
  have f15 := hts (.fieldLink RX10 15 "RoomForms$Stretches" "looked" "I") (by decide +kernel)
  have f28 := hts (.fieldLink RX10 28 "RoomForms$Stretches" "words" "[I") (by decide +kernel)
  unfold m_X10_greatestFit at hm
  refine lv_iconst (v := (-1)) hx hb dX10_greatestFit_0 (by decide) ?_
  refine lv_istore_n (lv' := [(2, .int ((-1 : Int32))), (0, .ref q0), (1, .int p1)]) hx hb dX10_greatestFit_1 rfl hl (by decide) rfl (fun ls hl => ?_)
  refine lv_iconst (v := 0) hx hb dX10_greatestFit_2 (by decide) ?_
  refine lv_istore_n (lv' := [(3, .int ((0 : Int32))), (2, .int ((-1 : Int32))), (0, .ref q0), (1, .int p1)]) hx hb dX10_greatestFit_3 rfl hl (by decide) rfl (fun ls hl => ?_)
  exact w_X10_greatestFit_L4 dC dI cI cJ cZ K q0 q1 q2 n0 n1 A rv uv hS0 hr hlocks hA hK hN K p1 ((-1 : Int32)) ((0 : Int32)) s0 s1 s2 s3 _ _ _ hm hP hD hS (lv_sub hl [2, 3, 1, 0] rfl)
abbrev rm_X10_find : Room := { frames := 2, cells := 0, slots := 0, locals := 46 }
theorem in_X10_find_X10 : ∀ w ∈ wsX100, w ∈ wsX10_find := by decide +kernel
def m_X10_find (K : Nat) (n0 : Nat) (n1 : Nat) (p1 : Int32) (p2 : Int32) (p3 : Int32) (s0 : Int32) (s1 : Int32) (s2 : Nat → Int32) (s3 : Nat → Int32) : Option (Int32 × Int32 × Int32 × (Nat → Int32) × (Nat → Int32)) :=
  if p1 = 1 then (m_X10_nextFit K n0 n1 p2 p3 s0 ((0 : Int32)) s2 s3).bind fun ⟨r_2, t_2_0, t_2_1, t_2_2, t_2_3⟩ => some (r_2, (t_2_0, t_2_1, t_2_2, t_2_3))
  else if p1 = 2 then (m_X10_bestFit K n0 n1 p2 s0 ((0 : Int32)) s2 s3).bind fun ⟨r_4, t_4_0, t_4_1, t_4_2, t_4_3⟩ => some (r_4, (t_4_0, t_4_1, t_4_2, t_4_3))
  else if p1 = 3 then (m_X10_greatestFit K n0 n1 p2 s0 ((0 : Int32)) s2 s3).bind fun ⟨r_6, t_6_0, t_6_1, t_6_2, t_6_3⟩ => some (r_6, (t_6_0, t_6_1, t_6_2, t_6_3))
  else (m_X10_firstFit K n0 n1 p2 s0 ((0 : Int32)) s2 s3).bind fun ⟨r_7, t_7_0, t_7_1, t_7_2, t_7_3⟩ => some (r_7, (t_7_0, t_7_1, t_7_2, t_7_3))
set_option maxHeartbeats 4000000 in
set_option maxRecDepth 100000 in
theorem c_X10_find (l : Launch) (dC : Nat → ClassId) (dI : Nat → Nat → Nat) (cI cJ cZ : ClassId) (K : Nat) (q0 q1 q2 : Nat) (n0 : Nat) (n1 : Nat) (s0 : Int32) (s1 : Int32) (s2 : Nat → Int32) (s3 : Nat → Int32) (p1 : Int32) (p2 : Int32) (p3 : Int32) (sz : Nat) (rv : Int32) (uv : Int32 × Int32 × (Nat → Int32) × (Nat → Int32)) (hm : m_X10_find K n0 n1 p1 p2 p3 s0 s1 s2 s3 = some (rv, uv)) : Met l yX10_find wsX10_find rm_X10_find (zz_pre dC dI [(cI, .int), (cJ, .long), (cZ, .boolean)] [(q0, .inr (9, [.ref q1, .ref q2, .int s0, .int s1])), (q1, .inl (cI, n0, .inl s2)), (q2, .inl (cI, n1, .inl s3))] sz [.ref q0, .int p1, .int p2, .int p3]) (va_Qi (fun r u => rv = r ∧ uv = u) (fun u t => zz_wo dC dI [(cI, .int), (cJ, .long), (cZ, .boolean)] (va_A [(q0, .inr (9, [.ref q1, .ref q2, .int s0, .int s1])), (q1, .inl (cI, n0, .inl s2)), (q2, .inl (cI, n1, .inl s3))] sz) (ce_X10 cI cJ cZ q0 q1 q2 n0 n1 u) t) (va_A [(q0, .inr (9, [.ref q1, .ref q2, .int s0, .int s1])), (q1, .inl (cI, n0, .inl s2)), (q2, .inl (cI, n1, .inl s3))] sz)) 0 0 (va_A [(q0, .inr (9, [.ref q1, .ref q2, .int s0, .int s1])), (q1, .inl (cI, n0, .inl s2)), (q2, .inl (cI, n1, .inl s3))] sz) := by
  refine Met.ofW (cc := cX10_find) (maxL := 4) (ret := (some .int)) (by decide) rfl ?_
  intro p e s m args below meth c s₁ B hml hv
  obtain ⟨rfl, hsz, hP, hK, hD0, hN⟩ := hv
  have hx := B.exec
  have hb := B.bytes
  have hr := B.returns
  have hts := atoms_spec (ws := wsX10_find) B.pre
  have hown : s.vm.findClass RX10 = some m.cls := findClass_of_methodNamed B.named
  have hlocks := B.notSynchronized
  have hS0 : CallFix p m c cX10_find 4 s #[.ref q0, .int p1, .int p2, .int p3] wsX10_find RX10 := ⟨hx, hb, hml, hown, hts⟩
  subst hsz
  have hD := hD0.self (sz := s.heap.size)
  generalize hAe : va_A [(q0, .inr (9, [.ref q1, .ref q2, .int s0, .int s1])), (q1, .inl (cI, n0, .inl s2)), (q2, .inl (cI, n1, .inl s3))] s.heap.size = A at hD ⊢
  have hA : ∀ q : Nat, s.heap.size ≤ q → A q := fun q h => by rw [← hAe]; exact Or.inr h
  have hS : va_S A s.heap s.heap [] := va_S.rf
  have hl := lv_entry ([.ref q0, .int p1, .int p2, .int p3]) (n := 4) (Nat.le_of_ble_eq_true rfl)
  rw [lg_entry_eq]
  generalize (lg_sl ([.ref q0, .int p1, .int p2, .int p3]) ++ List.replicate (4 - (lg_sl ([.ref q0, .int p1, .int p2, .int p3])).length) Slot.unset).toArray = ls at hl ⊢
  have hl : lv_has ls 4 [(0, .ref q0), (1, .int p1), (2, .int p2), (3, .int p3)] := hl
  have inX10 := in_X10_find_X10
  have f15 := hts (.fieldLink RX10 15 "RoomForms$Stretches" "looked" "I") (by decide +kernel)
  unfold m_X10_find at hm
  refine lv_aload_n hx hb dX10_find_0 rfl (lv_at hl 0 rfl) ?_
  refine lv_iconst (v := 0) hx hb dX10_find_1 (by decide) ?_
  refine va_put (D := (dC, dI)) (ci := 9) (v := .int ((0 : Int32))) (ty := .int) (C := RX10) (T := TX10) (N := 4) hx hb hts inX10 tyX10 tyX10_ok nmX10 hown hK hP hD hS 0 rfl rfl 3 (by decide) f15 (fun _ h9 => h9) rfl (by decide +kernel) rfl rfl (Nat.le_of_ble_eq_true rfl) dX10_find_2 (fun H locs hP hD hS => ?_)
  have hP : va_P (dC, dI) vwCl [(q0, .inr (9, [.ref q1, .ref q2, .int s0, .int ((0 : Int32))])), (q1, .inl (cI, n0, .inl s2)), (q2, .inl (cI, n1, .inl s3))] _ := hP
  have hD : va_D A [(q0, .inr (9, [.ref q1, .ref q2, .int s0, .int ((0 : Int32))])), (q1, .inl (cI, n0, .inl s2)), (q2, .inl (cI, n1, .inl s3))] := hD
  refine lv_iload_n hx hb dX10_find_5 rfl (lv_at hl 1 rfl) ?_
  by_cases c_1 : p1 = 1
  · replace hm := zz_t c_1 hm
    refine lv_tableIn (tgt := 32) hx hb dX10_find_6 (by rw [c_1]; decide) (by rw [c_1]; decide) (off := 26) (by rw [c_1]; decide) (by decide) ?_
    refine lv_aload_n hx hb dX10_find_32 rfl (lv_at hl 0 rfl) ?_
    refine lv_iload_n hx hb dX10_find_33 rfl (lv_at hl 2 rfl) ?_
    refine lv_iload_n hx hb dX10_find_34 rfl (lv_at hl 3 rfl) ?_
    obtain ⟨⟨r_2, t_2_0, t_2_1, t_2_2, t_2_3⟩, hc_2, hm⟩ := zz_bind hm
    have hPc := hP.sub (ws' := [(q0, .inr (9, [.ref q1, .ref q2, .int s0, .int ((0 : Int32))])), (q1, .inl (cI, n0, .inl s2)), (q2, .inl (cI, n1, .inl s3))]) [0, 1, 2] rfl
    have hDc := hD.sub (ws' := [(q0, .inr (9, [.ref q1, .ref q2, .int s0, .int ((0 : Int32))])), (q1, .inl (cI, n0, .inl s2)), (q2, .inl (cI, n1, .inl s3))]) [0, 1, 2] (by decide) rfl
    have hFc := va_free (wc := [(q0, .inr (9, [.ref q1, .ref q2, .int s0, .int ((0 : Int32))])), (q1, .inl (cI, n0, .inl s2)), (q2, .inl (cI, n1, .inl s3))]) hD hS hA [0, 1, 2] rfl
    refine va_calli (va_runV (As := [.int p2, .int p3]) (rest := []) hS0 (c_X10_nextFit l dC dI cI cJ cZ K q0 q1 q2 n0 n1 s0 ((0 : Int32)) s2 s3 p2 p3 _ r_2 (t_2_0, t_2_1, t_2_2, t_2_3) hc_2) (cwV 2 hts gX10_find_X10_nextFit rfl rfl rfl (by decide +kernel) ⟨Nat.le_of_ble_eq_true rfl, Nat.le_of_ble_eq_true rfl⟩) (zz_pv hK hPc hDc hN (va_recv hK hPc (ci := 9) (q0 := 0) rfl rfl)) rfl rfl hl.1 rfl (lv_room (Nat.le_of_ble_eq_true rfl)) dX10_find_35 ⟨Nat.zero_le _, Nat.zero_le _⟩) hS (fun q _ h => hFc q h) hFc (fun r u t H1 locs ht hvm hw hB hz1 hk1 hS => ?_)
    obtain ⟨rfl, rfl⟩ := hw
    obtain ⟨hP1, hK1, hD1⟩ := hB
    rw [ht] at hP1
    obtain ⟨hP, hD⟩ := va_join (wr := []) (w1 := [(q0, .inr (9, [.ref q1, .ref q2, .int t_2_0, .int t_2_1])), (q1, .inl (cI, n0, .inl t_2_2)), (q2, .inl (cI, n1, .inl t_2_3))]) hP hD [0, 1, 2] [] rfl rfl (by decide) (by decide) hk1 hFc hP1 hD1
    have hP : va_P (dC, dI) vwCl [(q0, .inr (9, [.ref q1, .ref q2, .int t_2_0, .int t_2_1])), (q1, .inl (cI, n0, .inl t_2_2)), (q2, .inl (cI, n1, .inl t_2_3))] _ := hP
    have hD : va_D A [(q0, .inr (9, [.ref q1, .ref q2, .int t_2_0, .int t_2_1])), (q1, .inl (cI, n0, .inl t_2_2)), (q2, .inl (cI, n1, .inl t_2_3))] := hD
    have hm := Option.some.inj hm
    exact W.iret (v := r_2) hx hb hr (fun t ht hW => ⟨⟨r_2, (t_2_0, t_2_1, t_2_2, t_2_3), rfl, ⟨(congrArg (·.1) hm).symm, (congrArg (·.2) hm).symm⟩, by rw [ht]; exact hP, va_K.moved hW.alike hK, hD⟩, hS.F ht⟩) hS.2.2 dX10_find_38
  · replace hm := zz_f c_1 hm
    by_cases c_3 : p1 = 2
    · replace hm := zz_t c_3 hm
      refine lv_tableIn (tgt := 39) hx hb dX10_find_6 (by rw [c_3]; decide) (by rw [c_3]; decide) (off := 33) (by rw [c_3]; decide) (by decide) ?_
      refine lv_aload_n hx hb dX10_find_39 rfl (lv_at hl 0 rfl) ?_
      refine lv_iload_n hx hb dX10_find_40 rfl (lv_at hl 2 rfl) ?_
      obtain ⟨⟨r_4, t_4_0, t_4_1, t_4_2, t_4_3⟩, hc_4, hm⟩ := zz_bind hm
      have hPc := hP.sub (ws' := [(q0, .inr (9, [.ref q1, .ref q2, .int s0, .int ((0 : Int32))])), (q1, .inl (cI, n0, .inl s2)), (q2, .inl (cI, n1, .inl s3))]) [0, 1, 2] rfl
      have hDc := hD.sub (ws' := [(q0, .inr (9, [.ref q1, .ref q2, .int s0, .int ((0 : Int32))])), (q1, .inl (cI, n0, .inl s2)), (q2, .inl (cI, n1, .inl s3))]) [0, 1, 2] (by decide) rfl
      have hFc := va_free (wc := [(q0, .inr (9, [.ref q1, .ref q2, .int s0, .int ((0 : Int32))])), (q1, .inl (cI, n0, .inl s2)), (q2, .inl (cI, n1, .inl s3))]) hD hS hA [0, 1, 2] rfl
      refine va_calli (va_runV (As := [.int p2]) (rest := []) hS0 (c_X10_bestFit l dC dI cI cJ cZ K q0 q1 q2 n0 n1 s0 ((0 : Int32)) s2 s3 p2 _ r_4 (t_4_0, t_4_1, t_4_2, t_4_3) hc_4) (cwV 1 hts gX10_find_X10_bestFit rfl rfl rfl (by decide +kernel) ⟨Nat.le_of_ble_eq_true rfl, Nat.le_of_ble_eq_true rfl⟩) (zz_pv hK hPc hDc hN (va_recv hK hPc (ci := 9) (q0 := 0) rfl rfl)) rfl rfl hl.1 rfl (lv_room (Nat.le_of_ble_eq_true rfl)) dX10_find_41 ⟨Nat.zero_le _, Nat.zero_le _⟩) hS (fun q _ h => hFc q h) hFc (fun r u t H1 locs ht hvm hw hB hz1 hk1 hS => ?_)
      obtain ⟨rfl, rfl⟩ := hw
      obtain ⟨hP1, hK1, hD1⟩ := hB
      rw [ht] at hP1
      obtain ⟨hP, hD⟩ := va_join (wr := []) (w1 := [(q0, .inr (9, [.ref q1, .ref q2, .int t_4_0, .int t_4_1])), (q1, .inl (cI, n0, .inl t_4_2)), (q2, .inl (cI, n1, .inl t_4_3))]) hP hD [0, 1, 2] [] rfl rfl (by decide) (by decide) hk1 hFc hP1 hD1
      have hP : va_P (dC, dI) vwCl [(q0, .inr (9, [.ref q1, .ref q2, .int t_4_0, .int t_4_1])), (q1, .inl (cI, n0, .inl t_4_2)), (q2, .inl (cI, n1, .inl t_4_3))] _ := hP
      have hD : va_D A [(q0, .inr (9, [.ref q1, .ref q2, .int t_4_0, .int t_4_1])), (q1, .inl (cI, n0, .inl t_4_2)), (q2, .inl (cI, n1, .inl t_4_3))] := hD
      have hm := Option.some.inj hm
      exact W.iret (v := r_4) hx hb hr (fun t ht hW => ⟨⟨r_4, (t_4_0, t_4_1, t_4_2, t_4_3), rfl, ⟨(congrArg (·.1) hm).symm, (congrArg (·.2) hm).symm⟩, by rw [ht]; exact hP, va_K.moved hW.alike hK, hD⟩, hS.F ht⟩) hS.2.2 dX10_find_44
    · replace hm := zz_f c_3 hm
      by_cases c_5 : p1 = 3
      · replace hm := zz_t c_5 hm
        refine lv_tableIn (tgt := 45) hx hb dX10_find_6 (by rw [c_5]; decide) (by rw [c_5]; decide) (off := 39) (by rw [c_5]; decide) (by decide) ?_
        refine lv_aload_n hx hb dX10_find_45 rfl (lv_at hl 0 rfl) ?_
        refine lv_iload_n hx hb dX10_find_46 rfl (lv_at hl 2 rfl) ?_
        obtain ⟨⟨r_6, t_6_0, t_6_1, t_6_2, t_6_3⟩, hc_6, hm⟩ := zz_bind hm
        have hPc := hP.sub (ws' := [(q0, .inr (9, [.ref q1, .ref q2, .int s0, .int ((0 : Int32))])), (q1, .inl (cI, n0, .inl s2)), (q2, .inl (cI, n1, .inl s3))]) [0, 1, 2] rfl
        have hDc := hD.sub (ws' := [(q0, .inr (9, [.ref q1, .ref q2, .int s0, .int ((0 : Int32))])), (q1, .inl (cI, n0, .inl s2)), (q2, .inl (cI, n1, .inl s3))]) [0, 1, 2] (by decide) rfl
        have hFc := va_free (wc := [(q0, .inr (9, [.ref q1, .ref q2, .int s0, .int ((0 : Int32))])), (q1, .inl (cI, n0, .inl s2)), (q2, .inl (cI, n1, .inl s3))]) hD hS hA [0, 1, 2] rfl
        refine va_calli (va_runV (As := [.int p2]) (rest := []) hS0 (c_X10_greatestFit l dC dI cI cJ cZ K q0 q1 q2 n0 n1 s0 ((0 : Int32)) s2 s3 p2 _ r_6 (t_6_0, t_6_1, t_6_2, t_6_3) hc_6) (cwV 1 hts gX10_find_X10_greatestFit rfl rfl rfl (by decide +kernel) ⟨Nat.le_of_ble_eq_true rfl, Nat.le_of_ble_eq_true rfl⟩) (zz_pv hK hPc hDc hN (va_recv hK hPc (ci := 9) (q0 := 0) rfl rfl)) rfl rfl hl.1 rfl (lv_room (Nat.le_of_ble_eq_true rfl)) dX10_find_47 ⟨Nat.zero_le _, Nat.zero_le _⟩) hS (fun q _ h => hFc q h) hFc (fun r u t H1 locs ht hvm hw hB hz1 hk1 hS => ?_)
        obtain ⟨rfl, rfl⟩ := hw
        obtain ⟨hP1, hK1, hD1⟩ := hB
        rw [ht] at hP1
        obtain ⟨hP, hD⟩ := va_join (wr := []) (w1 := [(q0, .inr (9, [.ref q1, .ref q2, .int t_6_0, .int t_6_1])), (q1, .inl (cI, n0, .inl t_6_2)), (q2, .inl (cI, n1, .inl t_6_3))]) hP hD [0, 1, 2] [] rfl rfl (by decide) (by decide) hk1 hFc hP1 hD1
        have hP : va_P (dC, dI) vwCl [(q0, .inr (9, [.ref q1, .ref q2, .int t_6_0, .int t_6_1])), (q1, .inl (cI, n0, .inl t_6_2)), (q2, .inl (cI, n1, .inl t_6_3))] _ := hP
        have hD : va_D A [(q0, .inr (9, [.ref q1, .ref q2, .int t_6_0, .int t_6_1])), (q1, .inl (cI, n0, .inl t_6_2)), (q2, .inl (cI, n1, .inl t_6_3))] := hD
        have hm := Option.some.inj hm
        exact W.iret (v := r_6) hx hb hr (fun t ht hW => ⟨⟨r_6, (t_6_0, t_6_1, t_6_2, t_6_3), rfl, ⟨(congrArg (·.1) hm).symm, (congrArg (·.2) hm).symm⟩, by rw [ht]; exact hP, va_K.moved hW.alike hK, hD⟩, hS.F ht⟩) hS.2.2 dX10_find_50
      · replace hm := zz_f c_5 hm
        refine lv_tableOut (tgt := 51) hx hb dX10_find_6 (by have e0 := lv_neT c_1 (a := 1) (by decide); have e1 := lv_neT c_3 (a := 2) (by decide); have e2 := lv_neT c_5 (a := 3) (by decide); omega) (by decide) ?_
        refine lv_aload_n hx hb dX10_find_51 rfl (lv_at hl 0 rfl) ?_
        refine lv_iload_n hx hb dX10_find_52 rfl (lv_at hl 2 rfl) ?_
        obtain ⟨⟨r_7, t_7_0, t_7_1, t_7_2, t_7_3⟩, hc_7, hm⟩ := zz_bind hm
        have hPc := hP.sub (ws' := [(q0, .inr (9, [.ref q1, .ref q2, .int s0, .int ((0 : Int32))])), (q1, .inl (cI, n0, .inl s2)), (q2, .inl (cI, n1, .inl s3))]) [0, 1, 2] rfl
        have hDc := hD.sub (ws' := [(q0, .inr (9, [.ref q1, .ref q2, .int s0, .int ((0 : Int32))])), (q1, .inl (cI, n0, .inl s2)), (q2, .inl (cI, n1, .inl s3))]) [0, 1, 2] (by decide) rfl
        have hFc := va_free (wc := [(q0, .inr (9, [.ref q1, .ref q2, .int s0, .int ((0 : Int32))])), (q1, .inl (cI, n0, .inl s2)), (q2, .inl (cI, n1, .inl s3))]) hD hS hA [0, 1, 2] rfl
        refine va_calli (va_runV (As := [.int p2]) (rest := []) hS0 (c_X10_firstFit l dC dI cI cJ cZ K q0 q1 q2 n0 n1 s0 ((0 : Int32)) s2 s3 p2 _ r_7 (t_7_0, t_7_1, t_7_2, t_7_3) hc_7) (cwV 1 hts gX10_find_X10_firstFit rfl rfl rfl (by decide +kernel) ⟨Nat.le_of_ble_eq_true rfl, Nat.le_of_ble_eq_true rfl⟩) (zz_pv hK hPc hDc hN (va_recv hK hPc (ci := 9) (q0 := 0) rfl rfl)) rfl rfl hl.1 rfl (lv_room (Nat.le_of_ble_eq_true rfl)) dX10_find_53 ⟨Nat.zero_le _, Nat.zero_le _⟩) hS (fun q _ h => hFc q h) hFc (fun r u t H1 locs ht hvm hw hB hz1 hk1 hS => ?_)
        obtain ⟨rfl, rfl⟩ := hw
        obtain ⟨hP1, hK1, hD1⟩ := hB
        rw [ht] at hP1
        obtain ⟨hP, hD⟩ := va_join (wr := []) (w1 := [(q0, .inr (9, [.ref q1, .ref q2, .int t_7_0, .int t_7_1])), (q1, .inl (cI, n0, .inl t_7_2)), (q2, .inl (cI, n1, .inl t_7_3))]) hP hD [0, 1, 2] [] rfl rfl (by decide) (by decide) hk1 hFc hP1 hD1
        have hP : va_P (dC, dI) vwCl [(q0, .inr (9, [.ref q1, .ref q2, .int t_7_0, .int t_7_1])), (q1, .inl (cI, n0, .inl t_7_2)), (q2, .inl (cI, n1, .inl t_7_3))] _ := hP
        have hD : va_D A [(q0, .inr (9, [.ref q1, .ref q2, .int t_7_0, .int t_7_1])), (q1, .inl (cI, n0, .inl t_7_2)), (q2, .inl (cI, n1, .inl t_7_3))] := hD
        have hm := Option.some.inj hm
        exact W.iret (v := r_7) hx hb hr (fun t ht hW => ⟨⟨r_7, (t_7_0, t_7_1, t_7_2, t_7_3), rfl, ⟨(congrArg (·.1) hm).symm, (congrArg (·.2) hm).symm⟩, by rw [ht]; exact hP, va_K.moved hW.alike hK, hD⟩, hS.F ht⟩) hS.2.2 dX10_find_56

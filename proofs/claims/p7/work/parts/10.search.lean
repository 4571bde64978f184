abbrev ce_X8 (cI cJ cZ : ClassId) (q0 q1 q2 q3 q4 q5 : Nat) (n0 : Nat) (n1 : Nat) (n2 : Nat) (n3 : Nat) (u : Int32 × Int32 × Int32 × Int32 × Int32 × Int32 × (Nat → Int32) × (Nat → Int32) × Int32 × Int32 × (Nat → Int32) × (Nat → Int32)) : va_W := [(q0, .inr (7, [.ref q1, .ref q2, .ref q3, .int u.1, .int u.2.1, .int u.2.2.1, .int u.2.2.2.1, .int u.2.2.2.2.1, .int u.2.2.2.2.2.1])), (q1, .inl (cI, n0, .inl u.2.2.2.2.2.2.1)), (q2, .inl (cI, n1, .inl u.2.2.2.2.2.2.2.1)), (q3, .inr (9, [.ref q4, .ref q5, .int u.2.2.2.2.2.2.2.2.1, .int u.2.2.2.2.2.2.2.2.2.1])), (q4, .inl (cI, n2, .inl u.2.2.2.2.2.2.2.2.2.2.1)), (q5, .inl (cI, n3, .inl u.2.2.2.2.2.2.2.2.2.2.2))]
abbrev rm_X8_met : Room := { frames := 0, cells := 0, slots := 0, locals := 0 }
theorem in_X8_met_X8 : ∀ w ∈ wsX80, w ∈ wsX8_met := by decide +kernel
def m_X8_met (K : Nat) (n0 : Nat) (n1 : Nat) (n2 : Nat) (n3 : Nat) (s0 : Int32) (s1 : Int32) (s2 : Int32) (s3 : Int32) (s4 : Int32) (s5 : Int32) (s6 : Nat → Int32) (s7 : Nat → Int32) (s8 : Int32) (s9 : Int32) (s10 : Nat → Int32) (s11 : Nat → Int32) : Option (Int32 × Int32 × Int32 × Int32 × Int32 × Int32 × Int32 × (Nat → Int32) × (Nat → Int32) × Int32 × Int32 × (Nat → Int32) × (Nat → Int32)) :=
  some (s1, (s0, s1, s2, s3, s4, s5, s6, s7, s8, s9, s10, s11))
set_option maxHeartbeats 4000000 in
set_option maxRecDepth 100000 in
theorem c_X8_met (l : Launch) (dC : Nat → ClassId) (dI : Nat → Nat → Nat) (cI cJ cZ : ClassId) (K : Nat) (q0 q1 q2 q3 q4 q5 : Nat) (n0 : Nat) (n1 : Nat) (n2 : Nat) (n3 : Nat) (s0 : Int32) (s1 : Int32) (s2 : Int32) (s3 : Int32) (s4 : Int32) (s5 : Int32) (s6 : Nat → Int32) (s7 : Nat → Int32) (s8 : Int32) (s9 : Int32) (s10 : Nat → Int32) (s11 : Nat → Int32) (sz : Nat) (rv : Int32) (uv : Int32 × Int32 × Int32 × Int32 × Int32 × Int32 × (Nat → Int32) × (Nat → Int32) × Int32 × Int32 × (Nat → Int32) × (Nat → Int32)) (hm : m_X8_met K n0 n1 n2 n3 s0 s1 s2 s3 s4 s5 s6 s7 s8 s9 s10 s11 = some (rv, uv)) : Met l yX8_met wsX8_met rm_X8_met (zz_pre dC dI [(cI, .int), (cJ, .long), (cZ, .boolean)] [(q0, .inr (7, [.ref q1, .ref q2, .ref q3, .int s0, .int s1, .int s2, .int s3, .int s4, .int s5])), (q1, .inl (cI, n0, .inl s6)), (q2, .inl (cI, n1, .inl s7)), (q3, .inr (9, [.ref q4, .ref q5, .int s8, .int s9])), (q4, .inl (cI, n2, .inl s10)), (q5, .inl (cI, n3, .inl s11))] sz [.ref q0]) (va_Qi (fun r u => rv = r ∧ uv = u) (fun u t => zz_wo dC dI [(cI, .int), (cJ, .long), (cZ, .boolean)] (va_A [(q0, .inr (7, [.ref q1, .ref q2, .ref q3, .int s0, .int s1, .int s2, .int s3, .int s4, .int s5])), (q1, .inl (cI, n0, .inl s6)), (q2, .inl (cI, n1, .inl s7)), (q3, .inr (9, [.ref q4, .ref q5, .int s8, .int s9])), (q4, .inl (cI, n2, .inl s10)), (q5, .inl (cI, n3, .inl s11))] sz) (ce_X8 cI cJ cZ q0 q1 q2 q3 q4 q5 n0 n1 n2 n3 u) t) (va_A [(q0, .inr (7, [.ref q1, .ref q2, .ref q3, .int s0, .int s1, .int s2, .int s3, .int s4, .int s5])), (q1, .inl (cI, n0, .inl s6)), (q2, .inl (cI, n1, .inl s7)), (q3, .inr (9, [.ref q4, .ref q5, .int s8, .int s9])), (q4, .inl (cI, n2, .inl s10)), (q5, .inl (cI, n3, .inl s11))] sz)) 0 0 (va_A [(q0, .inr (7, [.ref q1, .ref q2, .ref q3, .int s0, .int s1, .int s2, .int s3, .int s4, .int s5])), (q1, .inl (cI, n0, .inl s6)), (q2, .inl (cI, n1, .inl s7)), (q3, .inr (9, [.ref q4, .ref q5, .int s8, .int s9])), (q4, .inl (cI, n2, .inl s10)), (q5, .inl (cI, n3, .inl s11))] sz) := by
  refine Met.ofW (cc := cX8_met) (maxL := 1) (ret := (some .int)) (by decide) rfl ?_
  intro p e s m args below meth c s₁ B hml hv
  obtain ⟨rfl, hsz, hP, hK, hD0, hN⟩ := hv
  have hx := B.exec
  have hb := B.bytes
  have hr := B.returns
  have hts := atoms_spec (ws := wsX8_met) B.pre
  have hown : s.vm.findClass RX8 = some m.cls := findClass_of_methodNamed B.named
  have hlocks := B.notSynchronized
  have hS0 : CallFix p m c cX8_met 1 s #[.ref q0] wsX8_met RX8 := ⟨hx, hb, hml, hown, hts⟩
  subst hsz
  have hD := hD0.self (sz := s.heap.size)
  generalize hAe : va_A [(q0, .inr (7, [.ref q1, .ref q2, .ref q3, .int s0, .int s1, .int s2, .int s3, .int s4, .int s5])), (q1, .inl (cI, n0, .inl s6)), (q2, .inl (cI, n1, .inl s7)), (q3, .inr (9, [.ref q4, .ref q5, .int s8, .int s9])), (q4, .inl (cI, n2, .inl s10)), (q5, .inl (cI, n3, .inl s11))] s.heap.size = A at hD ⊢
  have hA : ∀ q : Nat, s.heap.size ≤ q → A q := fun q h => by rw [← hAe]; exact Or.inr h
  have hS : va_S A s.heap s.heap [] := va_S.rf
  have hl := lv_entry ([.ref q0]) (n := 1) (Nat.le_of_ble_eq_true rfl)
  rw [lg_entry_eq]
  generalize (lg_sl ([.ref q0]) ++ List.replicate (1 - (lg_sl ([.ref q0])).length) Slot.unset).toArray = ls at hl ⊢
  have hl : lv_has ls 1 [(0, .ref q0)] := hl
  have inX8 := in_X8_met_X8
  have f32 := hts (.fieldLink RX8 32 "RoomForms$Search" "met" "I") (by decide +kernel)
  unfold m_X8_met at hm
  refine lv_aload_n hx hb dX8_met_0 rfl (lv_at hl 0 rfl) ?_
  refine va_get (D := (dC, dI)) (ci := 7) (v := .int s1) (C := RX8) (T := TX8) (N := 9) hx hb hts inX8 hown hK hP 0 rfl rfl 4 (by decide) f32 (fun _ h9 => h9) rfl dX8_met_1 ?_
  have hm := Option.some.inj hm
  exact W.iret (v := s1) hx hb hr (fun t ht hW => ⟨⟨s1, (s0, s1, s2, s3, s4, s5, s6, s7, s8, s9, s10, s11), rfl, ⟨(congrArg (·.1) hm).symm, (congrArg (·.2) hm).symm⟩, by rw [ht]; exact hP, va_K.moved hW.alike hK, hD⟩, hS.F ht⟩) hS.2.2 dX8_met_4
abbrev rm_X8_addRoom : Room := { frames := 0, cells := 0, slots := 0, locals := 0 }
theorem in_X8_addRoom_X8 : ∀ w ∈ wsX80, w ∈ wsX8_addRoom := by decide +kernel
def m_X8_addRoom (K : Nat) (n0 : Nat) (n1 : Nat) (n2 : Nat) (n3 : Nat) (p1 : Int32) (p2 : Int32) (s0 : Int32) (s1 : Int32) (s2 : Int32) (s3 : Int32) (s4 : Int32) (s5 : Int32) (s6 : Nat → Int32) (s7 : Nat → Int32) (s8 : Int32) (s9 : Int32) (s10 : Nat → Int32) (s11 : Nat → Int32) : Option (Int32 × Int32 × Int32 × Int32 × Int32 × Int32 × Int32 × (Nat → Int32) × (Nat → Int32) × Int32 × Int32 × (Nat → Int32) × (Nat → Int32)) :=
  if s1 < ((20000 : Int32)) then (if ¬ (s1 < 0 ∨ n0 ≤ s1.toNatClampNeg) then (if ¬ (p2 < 0 ∨ n1 ≤ p2.toNatClampNeg) then some ((1 : Int32), (s0, s1 + ((1 : Int32)), s2, s3, s4, s5, upd s6 s1.toNatClampNeg p1, upd s7 p2.toNatClampNeg (s0 + s1), s8, s9, s10, s11)) else none) else none)
  else some ((0 : Int32), (s0, s1, s2, s3, s4, s5, s6, s7, s8, s9, s10, s11))
set_option maxHeartbeats 4000000 in
set_option maxRecDepth 100000 in
theorem c_X8_addRoom (l : Launch) (dC : Nat → ClassId) (dI : Nat → Nat → Nat) (cI cJ cZ : ClassId) (K : Nat) (q0 q1 q2 q3 q4 q5 : Nat) (n0 : Nat) (n1 : Nat) (n2 : Nat) (n3 : Nat) (s0 : Int32) (s1 : Int32) (s2 : Int32) (s3 : Int32) (s4 : Int32) (s5 : Int32) (s6 : Nat → Int32) (s7 : Nat → Int32) (s8 : Int32) (s9 : Int32) (s10 : Nat → Int32) (s11 : Nat → Int32) (p1 : Int32) (p2 : Int32) (sz : Nat) (rv : Int32) (uv : Int32 × Int32 × Int32 × Int32 × Int32 × Int32 × (Nat → Int32) × (Nat → Int32) × Int32 × Int32 × (Nat → Int32) × (Nat → Int32)) (hm : m_X8_addRoom K n0 n1 n2 n3 p1 p2 s0 s1 s2 s3 s4 s5 s6 s7 s8 s9 s10 s11 = some (rv, uv)) : Met l yX8_addRoom wsX8_addRoom rm_X8_addRoom (zz_pre dC dI [(cI, .int), (cJ, .long), (cZ, .boolean)] [(q0, .inr (7, [.ref q1, .ref q2, .ref q3, .int s0, .int s1, .int s2, .int s3, .int s4, .int s5])), (q1, .inl (cI, n0, .inl s6)), (q2, .inl (cI, n1, .inl s7)), (q3, .inr (9, [.ref q4, .ref q5, .int s8, .int s9])), (q4, .inl (cI, n2, .inl s10)), (q5, .inl (cI, n3, .inl s11))] sz [.ref q0, .int p1, .int p2]) (va_Qi (fun r u => rv = r ∧ uv = u) (fun u t => zz_wo dC dI [(cI, .int), (cJ, .long), (cZ, .boolean)] (va_A [(q0, .inr (7, [.ref q1, .ref q2, .ref q3, .int s0, .int s1, .int s2, .int s3, .int s4, .int s5])), (q1, .inl (cI, n0, .inl s6)), (q2, .inl (cI, n1, .inl s7)), (q3, .inr (9, [.ref q4, .ref q5, .int s8, .int s9])), (q4, .inl (cI, n2, .inl s10)), (q5, .inl (cI, n3, .inl s11))] sz) (ce_X8 cI cJ cZ q0 q1 q2 q3 q4 q5 n0 n1 n2 n3 u) t) (va_A [(q0, .inr (7, [.ref q1, .ref q2, .ref q3, .int s0, .int s1, .int s2, .int s3, .int s4, .int s5])), (q1, .inl (cI, n0, .inl s6)), (q2, .inl (cI, n1, .inl s7)), (q3, .inr (9, [.ref q4, .ref q5, .int s8, .int s9])), (q4, .inl (cI, n2, .inl s10)), (q5, .inl (cI, n3, .inl s11))] sz)) 0 0 (va_A [(q0, .inr (7, [.ref q1, .ref q2, .ref q3, .int s0, .int s1, .int s2, .int s3, .int s4, .int s5])), (q1, .inl (cI, n0, .inl s6)), (q2, .inl (cI, n1, .inl s7)), (q3, .inr (9, [.ref q4, .ref q5, .int s8, .int s9])), (q4, .inl (cI, n2, .inl s10)), (q5, .inl (cI, n3, .inl s11))] sz) := by
  refine Met.ofW (cc := cX8_addRoom) (maxL := 3) (ret := (some .boolean)) (by decide) rfl ?_
  intro p e s m args below meth c s₁ B hml hv
  obtain ⟨rfl, hsz, hP, hK, hD0, hN⟩ := hv
  have hx := B.exec
  have hb := B.bytes
  have hr := B.returns
  have hts := atoms_spec (ws := wsX8_addRoom) B.pre
  have hown : s.vm.findClass RX8 = some m.cls := findClass_of_methodNamed B.named
  have hlocks := B.notSynchronized
  have hS0 : CallFix p m c cX8_addRoom 3 s #[.ref q0, .int p1, .int p2] wsX8_addRoom RX8 := ⟨hx, hb, hml, hown, hts⟩
  subst hsz
  have hD := hD0.self (sz := s.heap.size)
  generalize hAe : va_A [(q0, .inr (7, [.ref q1, .ref q2, .ref q3, .int s0, .int s1, .int s2, .int s3, .int s4, .int s5])), (q1, .inl (cI, n0, .inl s6)), (q2, .inl (cI, n1, .inl s7)), (q3, .inr (9, [.ref q4, .ref q5, .int s8, .int s9])), (q4, .inl (cI, n2, .inl s10)), (q5, .inl (cI, n3, .inl s11))] s.heap.size = A at hD ⊢
  have hA : ∀ q : Nat, s.heap.size ≤ q → A q := fun q h => by rw [← hAe]; exact Or.inr h
  have hS : va_S A s.heap s.heap [] := va_S.rf
  have hl := lv_entry ([.ref q0, .int p1, .int p2]) (n := 3) (Nat.le_of_ble_eq_true rfl)
  rw [lg_entry_eq]
  generalize (lg_sl ([.ref q0, .int p1, .int p2]) ++ List.replicate (3 - (lg_sl ([.ref q0, .int p1, .int p2])).length) Slot.unset).toArray = ls at hl ⊢
  have hl : lv_has ls 3 [(0, .ref q0), (1, .int p1), (2, .int p2)] := hl
  have inX8 := in_X8_addRoom_X8
  have f11 := hts (.fieldLink RX8 11 "RoomForms$Search" "rooms" "[I") (by decide +kernel)
  have f16 := hts (.fieldLink RX8 16 "RoomForms$Search" "slots" "[I") (by decide +kernel)
  have f28 := hts (.fieldLink RX8 28 "RoomForms$Search" "base" "I") (by decide +kernel)
  have f32 := hts (.fieldLink RX8 32 "RoomForms$Search" "met" "I") (by decide +kernel)
  unfold m_X8_addRoom at hm
  refine lv_aload_n hx hb dX8_addRoom_0 rfl (lv_at hl 0 rfl) ?_
  refine va_get (D := (dC, dI)) (ci := 7) (v := .int s1) (C := RX8) (T := TX8) (N := 9) hx hb hts inX8 hown hK hP 0 rfl rfl 4 (by decide) f32 (fun _ h9 => h9) rfl dX8_addRoom_1 ?_
  refine lv_sipush (v := 20000) hx hb dX8_addRoom_4 (by decide) ?_
  refine lv_icmp_lt (tgt := 12) hx hb dX8_addRoom_7 (by decide) (fun c_1 => ?_) (fun c_1 => ?_)
  · replace hm := zz_t c_1 hm
    refine lv_aload_n hx hb dX8_addRoom_12 rfl (lv_at hl 0 rfl) ?_
    refine va_get (D := (dC, dI)) (ci := 7) (v := .ref q1) (C := RX8) (T := TX8) (N := 9) hx hb hts inX8 hown hK hP 0 rfl rfl 0 (by decide) f11 (fun _ h9 => h9) rfl dX8_addRoom_13 ?_
    refine lv_aload_n hx hb dX8_addRoom_16 rfl (lv_at hl 0 rfl) ?_
    refine va_get (D := (dC, dI)) (ci := 7) (v := .int s1) (C := RX8) (T := TX8) (N := 9) hx hb hts inX8 hown hK hP 0 rfl rfl 4 (by decide) f32 (fun _ h9 => h9) rfl dX8_addRoom_17 ?_
    refine lv_iload_n hx hb dX8_addRoom_20 rfl (lv_at hl 1 rfl) ?_
    obtain ⟨hi_2, hm⟩ := zz_chk hm
    refine va_iast hx hb hK hP hD hS 1 0 rfl rfl (i := s1) hi_2 dX8_addRoom_21 (fun H locs hP hD hS => ?_)
    have hP : va_P (dC, dI) vwCl [(q0, .inr (7, [.ref q1, .ref q2, .ref q3, .int s0, .int s1, .int s2, .int s3, .int s4, .int s5])), (q1, .inl (cI, n0, .inl (upd s6 s1.toNatClampNeg p1))), (q2, .inl (cI, n1, .inl s7)), (q3, .inr (9, [.ref q4, .ref q5, .int s8, .int s9])), (q4, .inl (cI, n2, .inl s10)), (q5, .inl (cI, n3, .inl s11))] _ := hP
    have hD : va_D A [(q0, .inr (7, [.ref q1, .ref q2, .ref q3, .int s0, .int s1, .int s2, .int s3, .int s4, .int s5])), (q1, .inl (cI, n0, .inl (upd s6 s1.toNatClampNeg p1))), (q2, .inl (cI, n1, .inl s7)), (q3, .inr (9, [.ref q4, .ref q5, .int s8, .int s9])), (q4, .inl (cI, n2, .inl s10)), (q5, .inl (cI, n3, .inl s11))] := hD
    refine lv_aload_n hx hb dX8_addRoom_22 rfl (lv_at hl 0 rfl) ?_
    refine va_get (D := (dC, dI)) (ci := 7) (v := .ref q2) (C := RX8) (T := TX8) (N := 9) hx hb hts inX8 hown hK hP 0 rfl rfl 1 (by decide) f16 (fun _ h9 => h9) rfl dX8_addRoom_23 ?_
    refine lv_iload_n hx hb dX8_addRoom_26 rfl (lv_at hl 2 rfl) ?_
    refine lv_aload_n hx hb dX8_addRoom_27 rfl (lv_at hl 0 rfl) ?_
    refine va_get (D := (dC, dI)) (ci := 7) (v := .int s0) (C := RX8) (T := TX8) (N := 9) hx hb hts inX8 hown hK hP 0 rfl rfl 3 (by decide) f28 (fun _ h9 => h9) rfl dX8_addRoom_28 ?_
    refine lv_aload_n hx hb dX8_addRoom_31 rfl (lv_at hl 0 rfl) ?_
    refine va_get (D := (dC, dI)) (ci := 7) (v := .int s1) (C := RX8) (T := TX8) (N := 9) hx hb hts inX8 hown hK hP 0 rfl rfl 4 (by decide) f32 (fun _ h9 => h9) rfl dX8_addRoom_32 ?_
    refine lv_iadd hx hb dX8_addRoom_35 ?_
    obtain ⟨hi_3, hm⟩ := zz_chk hm
    refine va_iast hx hb hK hP hD hS 2 0 rfl rfl (i := p2) hi_3 dX8_addRoom_36 (fun H locs hP hD hS => ?_)
    have hP : va_P (dC, dI) vwCl [(q0, .inr (7, [.ref q1, .ref q2, .ref q3, .int s0, .int s1, .int s2, .int s3, .int s4, .int s5])), (q1, .inl (cI, n0, .inl (upd s6 s1.toNatClampNeg p1))), (q2, .inl (cI, n1, .inl (upd s7 p2.toNatClampNeg (s0 + s1)))), (q3, .inr (9, [.ref q4, .ref q5, .int s8, .int s9])), (q4, .inl (cI, n2, .inl s10)), (q5, .inl (cI, n3, .inl s11))] _ := hP
    have hD : va_D A [(q0, .inr (7, [.ref q1, .ref q2, .ref q3, .int s0, .int s1, .int s2, .int s3, .int s4, .int s5])), (q1, .inl (cI, n0, .inl (upd s6 s1.toNatClampNeg p1))), (q2, .inl (cI, n1, .inl (upd s7 p2.toNatClampNeg (s0 + s1)))), (q3, .inr (9, [.ref q4, .ref q5, .int s8, .int s9])), (q4, .inl (cI, n2, .inl s10)), (q5, .inl (cI, n3, .inl s11))] := hD
    refine lv_aload_n hx hb dX8_addRoom_37 rfl (lv_at hl 0 rfl) ?_
    refine lv_dup hx hb dX8_addRoom_38 rfl ?_
    refine va_get (D := (dC, dI)) (ci := 7) (v := .int s1) (C := RX8) (T := TX8) (N := 9) hx hb hts inX8 hown hK hP 0 rfl rfl 4 (by decide) f32 (fun _ h9 => h9) rfl dX8_addRoom_39 ?_
    refine lv_iconst (v := 1) hx hb dX8_addRoom_42 (by decide) ?_
    refine lv_iadd hx hb dX8_addRoom_43 ?_
    refine va_put (D := (dC, dI)) (ci := 7) (v := .int (s1 + ((1 : Int32)))) (ty := .int) (C := RX8) (T := TX8) (N := 9) hx hb hts inX8 tyX8 tyX8_ok nmX8 hown hK hP hD hS 0 rfl rfl 4 (by decide) f32 (fun _ h9 => h9) rfl (by decide +kernel) rfl rfl (Nat.le_of_ble_eq_true rfl) dX8_addRoom_44 (fun H locs hP hD hS => ?_)
    have hP : va_P (dC, dI) vwCl [(q0, .inr (7, [.ref q1, .ref q2, .ref q3, .int s0, .int (s1 + ((1 : Int32))), .int s2, .int s3, .int s4, .int s5])), (q1, .inl (cI, n0, .inl (upd s6 s1.toNatClampNeg p1))), (q2, .inl (cI, n1, .inl (upd s7 p2.toNatClampNeg (s0 + s1)))), (q3, .inr (9, [.ref q4, .ref q5, .int s8, .int s9])), (q4, .inl (cI, n2, .inl s10)), (q5, .inl (cI, n3, .inl s11))] _ := hP
    have hD : va_D A [(q0, .inr (7, [.ref q1, .ref q2, .ref q3, .int s0, .int (s1 + ((1 : Int32))), .int s2, .int s3, .int s4, .int s5])), (q1, .inl (cI, n0, .inl (upd s6 s1.toNatClampNeg p1))), (q2, .inl (cI, n1, .inl (upd s7 p2.toNatClampNeg (s0 + s1)))), (q3, .inr (9, [.ref q4, .ref q5, .int s8, .int s9])), (q4, .inl (cI, n2, .inl s10)), (q5, .inl (cI, n3, .inl s11))] := hD
    refine lv_iconst (v := 1) hx hb dX8_addRoom_47 (by decide) ?_
    have hm := Option.some.inj hm
    exact W.zret (v := (1 : Int32)) (ty := .boolean) hx hb hr rfl (fun t ht hW => ⟨⟨(1 : Int32), (s0, s1 + ((1 : Int32)), s2, s3, s4, s5, upd s6 s1.toNatClampNeg p1, upd s7 p2.toNatClampNeg (s0 + s1), s8, s9, s10, s11), rfl, ⟨(congrArg (·.1) hm).symm, (congrArg (·.2) hm).symm⟩, by rw [ht]; exact hP, va_K.moved hW.alike hK, hD⟩, hS.F ht⟩) hS.2.2 dX8_addRoom_48
  · replace hm := zz_f c_1 hm
    refine lv_iconst (v := 0) hx hb dX8_addRoom_10 (by decide) ?_
    have hm := Option.some.inj hm
    exact W.zret (v := (0 : Int32)) (ty := .boolean) hx hb hr rfl (fun t ht hW => ⟨⟨(0 : Int32), (s0, s1, s2, s3, s4, s5, s6, s7, s8, s9, s10, s11), rfl, ⟨(congrArg (·.1) hm).symm, (congrArg (·.2) hm).symm⟩, by rw [ht]; exact hP, va_K.moved hW.alike hK, hD⟩, hS.F ht⟩) hS.2.2 dX8_addRoom_11
abbrev rm_X8_meet : Room := { frames := 1, cells := 0, slots := 0, locals := 22 }
theorem in_X8_meet_X8 : ∀ w ∈ wsX80, w ∈ wsX8_meet := by decide +kernel
def m_X8_meet_L26 (K : Nat) (n0 : Nat) (n1 : Nat) (n2 : Nat) (n3 : Nat) : Nat → Int32 → Int32 → Int32 → Int32 → Int32 → Int32 → Int32 → Int32 → Int32 → Int32 → Int32 → Int32 → (Nat → Int32) → (Nat → Int32) → Int32 → Int32 → (Nat → Int32) → (Nat → Int32) → Option (Int32 × Int32 × Int32 × Int32 × Int32 × Int32 × Int32 × (Nat → Int32) × (Nat → Int32) × Int32 × Int32 × (Nat → Int32) × (Nat → Int32))
  | 0, _, _, _, _, _, _, _, _, _, _, _, _, _, _, _, _, _, _ => none
  | k + 1, x1, x2, x3, x4, x5, x6, s0, s1, s2, s3, s4, s5, s6, s7, s8, s9, s10, s11 =>
    if ((32768 : Int32)) ≤ x6 then some ((0 : Int32), (s0, s1, s2, s3, s4, s5, s6, s7, s8, s9, s10, s11))
    else (if ¬ (x5 < 0 ∨ n1 ≤ x5.toNatClampNeg) then (if ((s7 x5.toNatClampNeg) - s0) < 0 then (m_X8_addRoom K n0 n1 n2 n3 x4 x5 s0 s1 s2 s3 s4 s5 s6 s7 s8 s9 s10 s11).bind fun ⟨r_4, t_4_0, t_4_1, t_4_2, t_4_3, t_4_4, t_4_5, t_4_6, t_4_7, t_4_8, t_4_9, t_4_10, t_4_11⟩ => (if r_4 = 0 ∨ r_4 = 1 then some (r_4, (t_4_0, t_4_1, t_4_2, t_4_3, t_4_4, t_4_5, t_4_6, t_4_7, t_4_8, t_4_9, t_4_10, t_4_11)) else none)
    else (if ((s7 x5.toNatClampNeg) - s0) < s1 then (if ¬ (((s7 x5.toNatClampNeg) - s0) < 0 ∨ n0 ≤ ((s7 x5.toNatClampNeg) - s0).toNatClampNeg) then (if (s6 ((s7 x5.toNatClampNeg) - s0).toNatClampNeg) = x4 then some ((1 : Int32), (s0, s1, s2, s3, s4, s5, s6, s7, s8, s9, s10, s11))
    else m_X8_meet_L26 K n0 n1 n2 n3 k x1 x2 x3 x4 ((x5 + ((1 : Int32))) &&& ((32767 : Int32))) (x6 + 1) s0 s1 s2 s3 s4 s5 s6 s7 s8 s9 s10 s11) else none)
    else (m_X8_addRoom K n0 n1 n2 n3 x4 x5 s0 s1 s2 s3 s4 s5 s6 s7 s8 s9 s10 s11).bind fun ⟨r_8, t_8_0, t_8_1, t_8_2, t_8_3, t_8_4, t_8_5, t_8_6, t_8_7, t_8_8, t_8_9, t_8_10, t_8_11⟩ => (if r_8 = 0 ∨ r_8 = 1 then some (r_8, (t_8_0, t_8_1, t_8_2, t_8_3, t_8_4, t_8_5, t_8_6, t_8_7, t_8_8, t_8_9, t_8_10, t_8_11)) else none))) else none)
theorem m_X8_meet_L26_s (K : Nat) (n0 : Nat) (n1 : Nat) (n2 : Nat) (n3 : Nat) (k : Nat) (x1 : Int32) (x2 : Int32) (x3 : Int32) (x4 : Int32) (x5 : Int32) (x6 : Int32) (s0 : Int32) (s1 : Int32) (s2 : Int32) (s3 : Int32) (s4 : Int32) (s5 : Int32) (s6 : Nat → Int32) (s7 : Nat → Int32) (s8 : Int32) (s9 : Int32) (s10 : Nat → Int32) (s11 : Nat → Int32) : m_X8_meet_L26 K n0 n1 n2 n3 (k + 1) x1 x2 x3 x4 x5 x6 s0 s1 s2 s3 s4 s5 s6 s7 s8 s9 s10 s11 =
    (if ((32768 : Int32)) ≤ x6 then some ((0 : Int32), (s0, s1, s2, s3, s4, s5, s6, s7, s8, s9, s10, s11))
    else (if ¬ (x5 < 0 ∨ n1 ≤ x5.toNatClampNeg) then (if ((s7 x5.toNatClampNeg) - s0) < 0 then (m_X8_addRoom K n0 n1 n2 n3 x4 x5 s0 s1 s2 s3 s4 s5 s6 s7 s8 s9 s10 s11).bind fun ⟨r_4, t_4_0, t_4_1, t_4_2, t_4_3, t_4_4, t_4_5, t_4_6, t_4_7, t_4_8, t_4_9, t_4_10, t_4_11⟩ => (if r_4 = 0 ∨ r_4 = 1 then some (r_4, (t_4_0, t_4_1, t_4_2, t_4_3, t_4_4, t_4_5, t_4_6, t_4_7, t_4_8, t_4_9, t_4_10, t_4_11)) else none)
    else (if ((s7 x5.toNatClampNeg) - s0) < s1 then (if ¬ (((s7 x5.toNatClampNeg) - s0) < 0 ∨ n0 ≤ ((s7 x5.toNatClampNeg) - s0).toNatClampNeg) then (if (s6 ((s7 x5.toNatClampNeg) - s0).toNatClampNeg) = x4 then some ((1 : Int32), (s0, s1, s2, s3, s4, s5, s6, s7, s8, s9, s10, s11))
    else m_X8_meet_L26 K n0 n1 n2 n3 k x1 x2 x3 x4 ((x5 + ((1 : Int32))) &&& ((32767 : Int32))) (x6 + 1) s0 s1 s2 s3 s4 s5 s6 s7 s8 s9 s10 s11) else none)
    else (m_X8_addRoom K n0 n1 n2 n3 x4 x5 s0 s1 s2 s3 s4 s5 s6 s7 s8 s9 s10 s11).bind fun ⟨r_8, t_8_0, t_8_1, t_8_2, t_8_3, t_8_4, t_8_5, t_8_6, t_8_7, t_8_8, t_8_9, t_8_10, t_8_11⟩ => (if r_8 = 0 ∨ r_8 = 1 then some (r_8, (t_8_0, t_8_1, t_8_2, t_8_3, t_8_4, t_8_5, t_8_6, t_8_7, t_8_8, t_8_9, t_8_10, t_8_11)) else none))) else none)) := rfl
set_option maxHeartbeats 4000000 in
set_option maxRecDepth 100000 in
theorem w_X8_meet_L26 {p : Program} {l : Launch} {e : Env} {s : State} {m : MethodId} {args : Array Value} {below : List Frame} {meth : Method} {c : Code} (dC : Nat → ClassId) (dI : Nat → Nat → Nat) (cI cJ cZ : ClassId) (K : Nat) (q0 q1 q2 q3 q4 q5 : Nat) (n0 : Nat) (n1 : Nat) (n2 : Nat) (n3 : Nat) (A : Nat → Prop) (rv : Int32) (uv : Int32 × Int32 × Int32 × Int32 × Int32 × Int32 × (Nat → Int32) × (Nat → Int32) × Int32 × Int32 × (Nat → Int32) × (Nat → Int32)) (hS0 : CallFix p m c cX8_meet 8 s args wsX8_meet RX8) (hr : meth.sig.returnType = (some .boolean)) (hlocks : meth.locks = false) (hA : ∀ q : Nat, s.heap.size ≤ q → A q) (hK : va_K (dC, dI) vwCl [(cI, .int), (cJ, .long), (cZ, .boolean)] s) (hN : zz_nw s) : ∀ (k : Nat) (x1 : Int32) (x2 : Int32) (x3 : Int32) (x4 : Int32) (x5 : Int32) (x6 : Int32) (s0 : Int32) (s1 : Int32) (s2 : Int32) (s3 : Int32) (s4 : Int32) (s5 : Int32) (s6 : Nat → Int32) (s7 : Nat → Int32) (s8 : Int32) (s9 : Int32) (s10 : Nat → Int32) (s11 : Nat → Int32) (H : Heap) (locs : List Loc) (ls : Array Slot), m_X8_meet_L26 K n0 n1 n2 n3 k x1 x2 x3 x4 x5 x6 s0 s1 s2 s3 s4 s5 s6 s7 s8 s9 s10 s11 = some (rv, uv) → va_P (dC, dI) vwCl [(q0, .inr (7, [.ref q1, .ref q2, .ref q3, .int s0, .int s1, .int s2, .int s3, .int s4, .int s5])), (q1, .inl (cI, n0, .inl s6)), (q2, .inl (cI, n1, .inl s7)), (q3, .inr (9, [.ref q4, .ref q5, .int s8, .int s9])), (q4, .inl (cI, n2, .inl s10)), (q5, .inl (cI, n3, .inl s11))] H → va_D A [(q0, .inr (7, [.ref q1, .ref q2, .ref q3, .int s0, .int s1, .int s2, .int s3, .int s4, .int s5])), (q1, .inl (cI, n0, .inl s6)), (q2, .inl (cI, n1, .inl s7)), (q3, .inr (9, [.ref q4, .ref q5, .int s8, .int s9])), (q4, .inl (cI, n2, .inl s10)), (q5, .inl (cI, n3, .inl s11))] → va_S A s.heap H locs → lv_has ls 8 [(0, .ref q0), (1, .int x1), (2, .int x2), (3, .int x3), (4, .int x4), (5, .int x5), (6, .int x6)] → W p l e rm_X8_meet s m args below meth c H locs 0 0 (MQ below (va_Qi (fun r u => rv = r ∧ uv = u) (fun u t => zz_wo dC dI [(cI, .int), (cJ, .long), (cZ, .boolean)] A (ce_X8 cI cJ cZ q0 q1 q2 q3 q4 q5 n0 n1 n2 n3 u) t) A) args s 0 0 A) (F0 m 26 ls []) := by
  obtain ⟨hx, hb, hml, hown, hts⟩ := id hS0
  have inX8 := in_X8_meet_X8
  have f11 := hts (.fieldLink RX8 11 "RoomForms$Search" "rooms" "[I") (by decide +kernel)
  have f16 := hts (.fieldLink RX8 16 "RoomForms$Search" "slots" "[I") (by decide +kernel)
  have f28 := hts (.fieldLink RX8 28 "RoomForms$Search" "base" "I") (by decide +kernel)
  have f32 := hts (.fieldLink RX8 32 "RoomForms$Search" "met" "I") (by decide +kernel)
  intro k
  induction k with
  | zero =>
    intro _ _ _ _ _ _ _ _ _ _ _ _ _ _ _ _ _ _ _ _ _ hm
    have hm9 : (none : Option (Int32 × Int32 × Int32 × Int32 × Int32 × Int32 × Int32 × (Nat → Int32) × (Nat → Int32) × Int32 × Int32 × (Nat → Int32) × (Nat → Int32))) = some _ := hm
    cases hm9
  | succ k ih =>
    intro x1 x2 x3 x4 x5 x6 s0 s1 s2 s3 s4 s5 s6 s7 s8 s9 s10 s11 H locs ls hm hP hD hS hl
    rw [m_X8_meet_L26_s] at hm
    refine lv_iload hx hb dX8_meet_26 (lv_at hl 6 rfl) ?_
    refine lv_ldc (v := (32768)) hx hb hown (hts (.constant RX8 15 (32768)) (by decide +kernel)) dX8_meet_28 ?_
    refine lv_icmp_ge (tgt := 100) hx hb dX8_meet_30 (by decide) (fun c_1 => ?_) (fun c_1 => ?_)
    · replace hm := zz_t c_1 hm
      refine lv_iconst (v := 0) hx hb dX8_meet_100 (by decide) ?_
      have hm := Option.some.inj hm
      exact W.zret (v := (0 : Int32)) (ty := .boolean) hx hb hr rfl (fun t ht hW => ⟨⟨(0 : Int32), (s0, s1, s2, s3, s4, s5, s6, s7, s8, s9, s10, s11), rfl, ⟨(congrArg (·.1) hm).symm, (congrArg (·.2) hm).symm⟩, by rw [ht]; exact hP, va_K.moved hW.alike hK, hD⟩, hS.F ht⟩) hS.2.2 dX8_meet_101
    · replace hm := zz_f c_1 hm
      refine lv_aload_n hx hb dX8_meet_33 rfl (lv_at hl 0 rfl) ?_
      refine va_get (D := (dC, dI)) (ci := 7) (v := .ref q2) (C := RX8) (T := TX8) (N := 9) hx hb hts inX8 hown hK hP 0 rfl rfl 1 (by decide) f16 (fun _ h9 => h9) rfl dX8_meet_34 ?_
      refine lv_iload hx hb dX8_meet_37 (lv_at hl 5 rfl) ?_
      obtain ⟨hi_2, hm⟩ := zz_chk hm
      refine va_iald hx hb hK hP 2 0 rfl rfl (i := x5) hi_2 dX8_meet_39 ?_
      refine lv_aload_n hx hb dX8_meet_40 rfl (lv_at hl 0 rfl) ?_
      refine va_get (D := (dC, dI)) (ci := 7) (v := .int s0) (C := RX8) (T := TX8) (N := 9) hx hb hts inX8 hown hK hP 0 rfl rfl 3 (by decide) f28 (fun _ h9 => h9) rfl dX8_meet_41 ?_
      refine lv_isub hx hb dX8_meet_44 ?_
      refine lv_istore (lv' := [(7, .int ((s7 x5.toNatClampNeg) - s0)), (0, .ref q0), (1, .int x1), (2, .int x2), (3, .int x3), (4, .int x4), (5, .int x5), (6, .int x6)]) hx hb dX8_meet_45 hl (by decide) rfl (fun ls hl => ?_)
      refine lv_iload hx hb dX8_meet_47 (lv_at hl 0 rfl) ?_
      refine lv_if_lt (tgt := 61) hx hb dX8_meet_49 (by decide) (fun c_3 => ?_) (fun c_3 => ?_)
      · replace hm := zz_t c_3 hm
        refine lv_aload_n hx hb dX8_meet_61 rfl (lv_at hl 1 rfl) ?_
        refine lv_iload hx hb dX8_meet_62 (lv_at hl 5 rfl) ?_
        refine lv_iload hx hb dX8_meet_64 (lv_at hl 6 rfl) ?_
        obtain ⟨⟨r_4, t_4_0, t_4_1, t_4_2, t_4_3, t_4_4, t_4_5, t_4_6, t_4_7, t_4_8, t_4_9, t_4_10, t_4_11⟩, hc_4, hm⟩ := zz_bind hm
        have hPc := hP.sub (ws' := [(q0, .inr (7, [.ref q1, .ref q2, .ref q3, .int s0, .int s1, .int s2, .int s3, .int s4, .int s5])), (q1, .inl (cI, n0, .inl s6)), (q2, .inl (cI, n1, .inl s7)), (q3, .inr (9, [.ref q4, .ref q5, .int s8, .int s9])), (q4, .inl (cI, n2, .inl s10)), (q5, .inl (cI, n3, .inl s11))]) [0, 1, 2, 3, 4, 5] rfl
        have hDc := hD.sub (ws' := [(q0, .inr (7, [.ref q1, .ref q2, .ref q3, .int s0, .int s1, .int s2, .int s3, .int s4, .int s5])), (q1, .inl (cI, n0, .inl s6)), (q2, .inl (cI, n1, .inl s7)), (q3, .inr (9, [.ref q4, .ref q5, .int s8, .int s9])), (q4, .inl (cI, n2, .inl s10)), (q5, .inl (cI, n3, .inl s11))]) [0, 1, 2, 3, 4, 5] (by decide) rfl
        have hFc := va_free (wc := [(q0, .inr (7, [.ref q1, .ref q2, .ref q3, .int s0, .int s1, .int s2, .int s3, .int s4, .int s5])), (q1, .inl (cI, n0, .inl s6)), (q2, .inl (cI, n1, .inl s7)), (q3, .inr (9, [.ref q4, .ref q5, .int s8, .int s9])), (q4, .inl (cI, n2, .inl s10)), (q5, .inl (cI, n3, .inl s11))]) hD hS hA [0, 1, 2, 3, 4, 5] rfl
        refine va_calli (va_runV (As := [.int x4, .int x5]) (rest := []) hS0 (c_X8_addRoom l dC dI cI cJ cZ K q0 q1 q2 q3 q4 q5 n0 n1 n2 n3 s0 s1 s2 s3 s4 s5 s6 s7 s8 s9 s10 s11 x4 x5 _ r_4 (t_4_0, t_4_1, t_4_2, t_4_3, t_4_4, t_4_5, t_4_6, t_4_7, t_4_8, t_4_9, t_4_10, t_4_11) hc_4) (cwV 2 hts gX8_meet_X8_addRoom rfl rfl rfl (by decide +kernel) ⟨Nat.le_of_ble_eq_true rfl, Nat.le_of_ble_eq_true rfl⟩) (zz_pv hK hPc hDc hN (va_recv hK hPc (ci := 7) (q0 := 0) rfl rfl)) rfl rfl hl.1 rfl (lv_room (Nat.le_of_ble_eq_true rfl)) dX8_meet_66 ⟨Nat.zero_le _, Nat.zero_le _⟩) hS (fun q _ h => hFc q h) hFc (fun r u t H1 locs ht hvm hw hB hz1 hk1 hS => ?_)
        obtain ⟨rfl, rfl⟩ := hw
        obtain ⟨hP1, hK1, hD1⟩ := hB
        rw [ht] at hP1
        obtain ⟨hP, hD⟩ := va_join (wr := []) (w1 := [(q0, .inr (7, [.ref q1, .ref q2, .ref q3, .int t_4_0, .int t_4_1, .int t_4_2, .int t_4_3, .int t_4_4, .int t_4_5])), (q1, .inl (cI, n0, .inl t_4_6)), (q2, .inl (cI, n1, .inl t_4_7)), (q3, .inr (9, [.ref q4, .ref q5, .int t_4_8, .int t_4_9])), (q4, .inl (cI, n2, .inl t_4_10)), (q5, .inl (cI, n3, .inl t_4_11))]) hP hD [0, 1, 2, 3, 4, 5] [] rfl rfl (by decide) (by decide) hk1 hFc hP1 hD1
        have hP : va_P (dC, dI) vwCl [(q0, .inr (7, [.ref q1, .ref q2, .ref q3, .int t_4_0, .int t_4_1, .int t_4_2, .int t_4_3, .int t_4_4, .int t_4_5])), (q1, .inl (cI, n0, .inl t_4_6)), (q2, .inl (cI, n1, .inl t_4_7)), (q3, .inr (9, [.ref q4, .ref q5, .int t_4_8, .int t_4_9])), (q4, .inl (cI, n2, .inl t_4_10)), (q5, .inl (cI, n3, .inl t_4_11))] _ := hP
        have hD : va_D A [(q0, .inr (7, [.ref q1, .ref q2, .ref q3, .int t_4_0, .int t_4_1, .int t_4_2, .int t_4_3, .int t_4_4, .int t_4_5])), (q1, .inl (cI, n0, .inl t_4_6)), (q2, .inl (cI, n1, .inl t_4_7)), (q3, .inr (9, [.ref q4, .ref q5, .int t_4_8, .int t_4_9])), (q4, .inl (cI, n2, .inl t_4_10)), (q5, .inl (cI, n3, .inl t_4_11))] := hD
        obtain ⟨hz9, hm⟩ := zz_chk hm
        have hm := Option.some.inj hm
        exact W.zret (v := r_4) (ty := .boolean) hx hb hr (zz_zn hz9) (fun t ht hW => ⟨⟨r_4, (t_4_0, t_4_1, t_4_2, t_4_3, t_4_4, t_4_5, t_4_6, t_4_7, t_4_8, t_4_9, t_4_10, t_4_11), rfl, ⟨(congrArg (·.1) hm).symm, (congrArg (·.2) hm).symm⟩, by rw [ht]; exact hP, va_K.moved hW.alike hK, hD⟩, hS.F ht⟩) hS.2.2 dX8_meet_69
      · replace hm := zz_f c_3 hm
        refine lv_iload hx hb dX8_meet_52 (lv_at hl 0 rfl) ?_
        refine lv_aload_n hx hb dX8_meet_54 rfl (lv_at hl 1 rfl) ?_
        refine va_get (D := (dC, dI)) (ci := 7) (v := .int s1) (C := RX8) (T := TX8) (N := 9) hx hb hts inX8 hown hK hP 0 rfl rfl 4 (by decide) f32 (fun _ h9 => h9) rfl dX8_meet_55 ?_
        refine lv_icmp_lt (tgt := 70) hx hb dX8_meet_58 (by decide) (fun c_5 => ?_) (fun c_5 => ?_)
        · replace hm := zz_t c_5 hm
          refine lv_aload_n hx hb dX8_meet_70 rfl (lv_at hl 1 rfl) ?_
          refine va_get (D := (dC, dI)) (ci := 7) (v := .ref q1) (C := RX8) (T := TX8) (N := 9) hx hb hts inX8 hown hK hP 0 rfl rfl 0 (by decide) f11 (fun _ h9 => h9) rfl dX8_meet_71 ?_
          refine lv_iload hx hb dX8_meet_74 (lv_at hl 0 rfl) ?_
          obtain ⟨hi_6, hm⟩ := zz_chk hm
          refine va_iald hx hb hK hP 1 0 rfl rfl (i := (s7 x5.toNatClampNeg) - s0) hi_6 dX8_meet_76 ?_
          refine lv_iload hx hb dX8_meet_77 (lv_at hl 5 rfl) ?_
          refine lv_icmp_ne (tgt := 84) hx hb dX8_meet_79 (by decide) (fun c_7 => ?_) (fun c_7 => ?_)
          · replace hm := zz_f c_7 hm
            refine lv_iload hx hb dX8_meet_84 (lv_at hl 6 rfl) ?_
            refine lv_iconst (v := 1) hx hb dX8_meet_86 (by decide) ?_
            refine lv_iadd hx hb dX8_meet_87 ?_
            refine lv_sipush (v := 32767) hx hb dX8_meet_88 (by decide) ?_
            refine lv_iand hx hb dX8_meet_91 ?_
            refine lv_istore (lv' := [(5, .int ((x5 + ((1 : Int32))) &&& ((32767 : Int32)))), (7, .int ((s7 x5.toNatClampNeg) - s0)), (0, .ref q0), (1, .int x1), (2, .int x2), (3, .int x3), (4, .int x4), (6, .int x6)]) hx hb dX8_meet_92 hl (by decide) rfl (fun ls hl => ?_)
            refine lv_iinc (v := x6 + 1) (lv' := [(6, .int (x6 + 1)), (5, .int ((x5 + ((1 : Int32))) &&& ((32767 : Int32)))), (7, .int ((s7 x5.toNatClampNeg) - s0)), (0, .ref q0), (1, .int x1), (2, .int x2), (3, .int x3), (4, .int x4)]) hx hb dX8_meet_94 hl (k := 7) rfl rfl (by decide) rfl (fun ls hl => ?_)
            refine lv_goto (tgt := 26) hx hb dX8_meet_97 (by decide) ?_
            exact ih x1 x2 x3 x4 ((x5 + ((1 : Int32))) &&& ((32767 : Int32))) (x6 + 1) s0 s1 s2 s3 s4 s5 s6 s7 s8 s9 s10 s11 _ _ _ hm hP hD hS (lv_sub hl [3, 4, 5, 6, 7, 1, 0] rfl)
          · replace hm := zz_t c_7 hm
            refine lv_iconst (v := 1) hx hb dX8_meet_82 (by decide) ?_
            have hm := Option.some.inj hm
            exact W.zret (v := (1 : Int32)) (ty := .boolean) hx hb hr rfl (fun t ht hW => ⟨⟨(1 : Int32), (s0, s1, s2, s3, s4, s5, s6, s7, s8, s9, s10, s11), rfl, ⟨(congrArg (·.1) hm).symm, (congrArg (·.2) hm).symm⟩, by rw [ht]; exact hP, va_K.moved hW.alike hK, hD⟩, hS.F ht⟩) hS.2.2 dX8_meet_83
        · replace hm := zz_f c_5 hm
          refine lv_aload_n hx hb dX8_meet_61 rfl (lv_at hl 1 rfl) ?_
          refine lv_iload hx hb dX8_meet_62 (lv_at hl 5 rfl) ?_
          refine lv_iload hx hb dX8_meet_64 (lv_at hl 6 rfl) ?_
          obtain ⟨⟨r_8, t_8_0, t_8_1, t_8_2, t_8_3, t_8_4, t_8_5, t_8_6, t_8_7, t_8_8, t_8_9, t_8_10, t_8_11⟩, hc_8, hm⟩ := zz_bind hm
          have hPc := hP.sub (ws' := [(q0, .inr (7, [.ref q1, .ref q2, .ref q3, .int s0, .int s1, .int s2, .int s3, .int s4, .int s5])), (q1, .inl (cI, n0, .inl s6)), (q2, .inl (cI, n1, .inl s7)), (q3, .inr (9, [.ref q4, .ref q5, .int s8, .int s9])), (q4, .inl (cI, n2, .inl s10)), (q5, .inl (cI, n3, .inl s11))]) [0, 1, 2, 3, 4, 5] rfl
          have hDc := hD.sub (ws' := [(q0, .inr (7, [.ref q1, .ref q2, .ref q3, .int s0, .int s1, .int s2, .int s3, .int s4, .int s5])), (q1, .inl (cI, n0, .inl s6)), (q2, .inl (cI, n1, .inl s7)), (q3, .inr (9, [.ref q4, .ref q5, .int s8, .int s9])), (q4, .inl (cI, n2, .inl s10)), (q5, .inl (cI, n3, .inl s11))]) [0, 1, 2, 3, 4, 5] (by decide) rfl
          have hFc := va_free (wc := [(q0, .inr (7, [.ref q1, .ref q2, .ref q3, .int s0, .int s1, .int s2, .int s3, .int s4, .int s5])), (q1, .inl (cI, n0, .inl s6)), (q2, .inl (cI, n1, .inl s7)), (q3, .inr (9, [.ref q4, .ref q5, .int s8, .int s9])), (q4, .inl (cI, n2, .inl s10)), (q5, .inl (cI, n3, .inl s11))]) hD hS hA [0, 1, 2, 3, 4, 5] rfl
          refine va_calli (va_runV (As := [.int x4, .int x5]) (rest := []) hS0 (c_X8_addRoom l dC dI cI cJ cZ K q0 q1 q2 q3 q4 q5 n0 n1 n2 n3 s0 s1 s2 s3 s4 s5 s6 s7 s8 s9 s10 s11 x4 x5 _ r_8 (t_8_0, t_8_1, t_8_2, t_8_3, t_8_4, t_8_5, t_8_6, t_8_7, t_8_8, t_8_9, t_8_10, t_8_11) hc_8) (cwV 2 hts gX8_meet_X8_addRoom rfl rfl rfl (by decide +kernel) ⟨Nat.le_of_ble_eq_true rfl, Nat.le_of_ble_eq_true rfl⟩) (zz_pv hK hPc hDc hN (va_recv hK hPc (ci := 7) (q0 := 0) rfl rfl)) rfl rfl hl.1 rfl (lv_room (Nat.le_of_ble_eq_true rfl)) dX8_meet_66 ⟨Nat.zero_le _, Nat.zero_le _⟩) hS (fun q _ h => hFc q h) hFc (fun r u t H1 locs ht hvm hw hB hz1 hk1 hS => ?_)
          obtain ⟨rfl, rfl⟩ := hw
          obtain ⟨hP1, hK1, hD1⟩ := hB
          rw [ht] at hP1
          obtain ⟨hP, hD⟩ := va_join (wr := []) (w1 := [(q0, .inr (7, [.ref q1, .ref q2, .ref q3, .int t_8_0, .int t_8_1, .int t_8_2, .int t_8_3, .int t_8_4, .int t_8_5])), (q1, .inl (cI, n0, .inl t_8_6)), (q2, .inl (cI, n1, .inl t_8_7)), (q3, .inr (9, [.ref q4, .ref q5, .int t_8_8, .int t_8_9])), (q4, .inl (cI, n2, .inl t_8_10)), (q5, .inl (cI, n3, .inl t_8_11))]) hP hD [0, 1, 2, 3, 4, 5] [] rfl rfl (by decide) (by decide) hk1 hFc hP1 hD1
          have hP : va_P (dC, dI) vwCl [(q0, .inr (7, [.ref q1, .ref q2, .ref q3, .int t_8_0, .int t_8_1, .int t_8_2, .int t_8_3, .int t_8_4, .int t_8_5])), (q1, .inl (cI, n0, .inl t_8_6)), (q2, .inl (cI, n1, .inl t_8_7)), (q3, .inr (9, [.ref q4, .ref q5, .int t_8_8, .int t_8_9])), (q4, .inl (cI, n2, .inl t_8_10)), (q5, .inl (cI, n3, .inl t_8_11))] _ := hP
          have hD : va_D A [(q0, .inr (7, [.ref q1, .ref q2, .ref q3, .int t_8_0, .int t_8_1, .int t_8_2, .int t_8_3, .int t_8_4, .int t_8_5])), (q1, .inl (cI, n0, .inl t_8_6)), (q2, .inl (cI, n1, .inl t_8_7)), (q3, .inr (9, [.ref q4, .ref q5, .int t_8_8, .int t_8_9])), (q4, .inl (cI, n2, .inl t_8_10)), (q5, .inl (cI, n3, .inl t_8_11))] := hD
          obtain ⟨hz9, hm⟩ := zz_chk hm
          have hm := Option.some.inj hm
          exact W.zret (v := r_8) (ty := .boolean) hx hb hr (zz_zn hz9) (fun t ht hW => ⟨⟨r_8, (t_8_0, t_8_1, t_8_2, t_8_3, t_8_4, t_8_5, t_8_6, t_8_7, t_8_8, t_8_9, t_8_10, t_8_11), rfl, ⟨(congrArg (·.1) hm).symm, (congrArg (·.2) hm).symm⟩, by rw [ht]; exact hP, va_K.moved hW.alike hK, hD⟩, hS.F ht⟩) hS.2.2 dX8_meet_69
def m_X8_meet (K : Nat) (n0 : Nat) (n1 : Nat) (n2 : Nat) (n3 : Nat) (p1 : Int32) (p2 : Int32) (p3 : Int32) (s0 : Int32) (s1 : Int32) (s2 : Int32) (s3 : Int32) (s4 : Int32) (s5 : Int32) (s6 : Nat → Int32) (s7 : Nat → Int32) (s8 : Int32) (s9 : Int32) (s10 : Nat → Int32) (s11 : Nat → Int32) : Option (Int32 × Int32 × Int32 × Int32 × Int32 × Int32 × Int32 × (Nat → Int32) × (Nat → Int32) × Int32 × Int32 × (Nat → Int32) × (Nat → Int32)) :=
  m_X8_meet_L26 K n0 n1 n2 n3 K p1 p2 p3 ((p1 ||| (p2 <<< (((14 : Int32)) &&& 31))) ||| (p3 <<< (((28 : Int32)) &&& 31))) (((((p1 ||| (p2 <<< (((14 : Int32)) &&& 31))) ||| (p3 <<< (((28 : Int32)) &&& 31))) * ((-1640531535 : Int32))).toUInt32 >>> (((17 : Int32)).toUInt32 &&& Int32.toUInt32 31)).toInt32) ((0 : Int32)) s0 s1 s2 s3 s4 s5 s6 s7 s8 s9 s10 s11
set_option maxHeartbeats 4000000 in
set_option maxRecDepth 100000 in
theorem c_X8_meet (l : Launch) (dC : Nat → ClassId) (dI : Nat → Nat → Nat) (cI cJ cZ : ClassId) (K : Nat) (q0 q1 q2 q3 q4 q5 : Nat) (n0 : Nat) (n1 : Nat) (n2 : Nat) (n3 : Nat) (s0 : Int32) (s1 : Int32) (s2 : Int32) (s3 : Int32) (s4 : Int32) (s5 : Int32) (s6 : Nat → Int32) (s7 : Nat → Int32) (s8 : Int32) (s9 : Int32) (s10 : Nat → Int32) (s11 : Nat → Int32) (p1 : Int32) (p2 : Int32) (p3 : Int32) (sz : Nat) (rv : Int32) (uv : Int32 × Int32 × Int32 × Int32 × Int32 × Int32 × (Nat → Int32) × (Nat → Int32) × Int32 × Int32 × (Nat → Int32) × (Nat → Int32)) (hm : m_X8_meet K n0 n1 n2 n3 p1 p2 p3 s0 s1 s2 s3 s4 s5 s6 s7 s8 s9 s10 s11 = some (rv, uv)) : Met l yX8_meet wsX8_meet rm_X8_meet (zz_pre dC dI [(cI, .int), (cJ, .long), (cZ, .boolean)] [(q0, .inr (7, [.ref q1, .ref q2, .ref q3, .int s0, .int s1, .int s2, .int s3, .int s4, .int s5])), (q1, .inl (cI, n0, .inl s6)), (q2, .inl (cI, n1, .inl s7)), (q3, .inr (9, [.ref q4, .ref q5, .int s8, .int s9])), (q4, .inl (cI, n2, .inl s10)), (q5, .inl (cI, n3, .inl s11))] sz [.ref q0, .int p1, .int p2, .int p3]) (va_Qi (fun r u => rv = r ∧ uv = u) (fun u t => zz_wo dC dI [(cI, .int), (cJ, .long), (cZ, .boolean)] (va_A [(q0, .inr (7, [.ref q1, .ref q2, .ref q3, .int s0, .int s1, .int s2, .int s3, .int s4, .int s5])), (q1, .inl (cI, n0, .inl s6)), (q2, .inl (cI, n1, .inl s7)), (q3, .inr (9, [.ref q4, .ref q5, .int s8, .int s9])), (q4, .inl (cI, n2, .inl s10)), (q5, .inl (cI, n3, .inl s11))] sz) (ce_X8 cI cJ cZ q0 q1 q2 q3 q4 q5 n0 n1 n2 n3 u) t) (va_A [(q0, .inr (7, [.ref q1, .ref q2, .ref q3, .int s0, .int s1, .int s2, .int s3, .int s4, .int s5])), (q1, .inl (cI, n0, .inl s6)), (q2, .inl (cI, n1, .inl s7)), (q3, .inr (9, [.ref q4, .ref q5, .int s8, .int s9])), (q4, .inl (cI, n2, .inl s10)), (q5, .inl (cI, n3, .inl s11))] sz)) 0 0 (va_A [(q0, .inr (7, [.ref q1, .ref q2, .ref q3, .int s0, .int s1, .int s2, .int s3, .int s4, .int s5])), (q1, .inl (cI, n0, .inl s6)), (q2, .inl (cI, n1, .inl s7)), (q3, .inr (9, [.ref q4, .ref q5, .int s8, .int s9])), (q4, .inl (cI, n2, .inl s10)), (q5, .inl (cI, n3, .inl s11))] sz) := by
  refine Met.ofW (cc := cX8_meet) (maxL := 8) (ret := (some .boolean)) (by decide) rfl ?_
  intro p e s m args below meth c s₁ B hml hv
  obtain ⟨rfl, hsz, hP, hK, hD0, hN⟩ := hv
  have hx := B.exec
  have hb := B.bytes
  have hr := B.returns
  have hts := atoms_spec (ws := wsX8_meet) B.pre
  have hown : s.vm.findClass RX8 = some m.cls := findClass_of_methodNamed B.named
  have hlocks := B.notSynchronized
  have hS0 : CallFix p m c cX8_meet 8 s #[.ref q0, .int p1, .int p2, .int p3] wsX8_meet RX8 := ⟨hx, hb, hml, hown, hts⟩
  subst hsz
  have hD := hD0.self (sz := s.heap.size)
  generalize hAe : va_A [(q0, .inr (7, [.ref q1, .ref q2, .ref q3, .int s0, .int s1, .int s2, .int s3, .int s4, .int s5])), (q1, .inl (cI, n0, .inl s6)), (q2, .inl (cI, n1, .inl s7)), (q3, .inr (9, [.ref q4, .ref q5, .int s8, .int s9])), (q4, .inl (cI, n2, .inl s10)), (q5, .inl (cI, n3, .inl s11))] s.heap.size = A at hD ⊢
  have hA : ∀ q : Nat, s.heap.size ≤ q → A q := fun q h => by rw [← hAe]; exact Or.inr h
  have hS : va_S A s.heap s.heap [] := va_S.rf
  have hl := lv_entry ([.ref q0, .int p1, .int p2, .int p3]) (n := 8) (Nat.le_of_ble_eq_true rfl)
  rw [lg_entry_eq]
  generalize (lg_sl ([.ref q0, .int p1, .int p2, .int p3]) ++ List.replicate (8 - (lg_sl ([.ref q0, .int p1, .int p2, .int p3])).length) Slot.unset).toArray = ls at hl ⊢
  have hl : lv_has ls 8 [(0, .ref q0), (1, .int p1), (2, .int p2), (3, .int p3)] := hl
  have inX8 := in_X8_meet_X8
  have f11 := hts (.fieldLink RX8 11 "RoomForms$Search" "rooms" "[I") (by decide +kernel)
  have f16 := hts (.fieldLink RX8 16 "RoomForms$Search" "slots" "[I") (by decide +kernel)
  have f28 := hts (.fieldLink RX8 28 "RoomForms$Search" "base" "I") (by decide +kernel)
  have f32 := hts (.fieldLink RX8 32 "RoomForms$Search" "met" "I") (by decide +kernel)
  unfold m_X8_meet at hm
  refine lv_iload_n hx hb dX8_meet_0 rfl (lv_at hl 1 rfl) ?_
  refine lv_iload_n hx hb dX8_meet_1 rfl (lv_at hl 2 rfl) ?_
  refine lv_bipush (v := 14) hx hb dX8_meet_2 (by decide) ?_
  refine lv_ishl hx hb dX8_meet_4 ?_
  refine lv_ior hx hb dX8_meet_5 ?_
  refine lv_iload_n hx hb dX8_meet_6 rfl (lv_at hl 3 rfl) ?_
  refine lv_bipush (v := 28) hx hb dX8_meet_7 (by decide) ?_
  refine lv_ishl hx hb dX8_meet_9 ?_
  refine lv_ior hx hb dX8_meet_10 ?_
  refine lv_istore (lv' := [(4, .int ((p1 ||| (p2 <<< (((14 : Int32)) &&& 31))) ||| (p3 <<< (((28 : Int32)) &&& 31)))), (0, .ref q0), (1, .int p1), (2, .int p2), (3, .int p3)]) hx hb dX8_meet_11 hl (by decide) rfl (fun ls hl => ?_)
  refine lv_iload hx hb dX8_meet_13 (lv_at hl 0 rfl) ?_
  refine lv_ldc (v := (-1640531535)) hx hb hown (hts (.constant RX8 93 (-1640531535)) (by decide +kernel)) dX8_meet_15 ?_
  refine lv_imul hx hb dX8_meet_17 ?_
  refine lv_bipush (v := 17) hx hb dX8_meet_18 (by decide) ?_
  refine lv_iushr hx hb dX8_meet_20 rfl ?_
  refine lv_istore (lv' := [(5, .int (((((p1 ||| (p2 <<< (((14 : Int32)) &&& 31))) ||| (p3 <<< (((28 : Int32)) &&& 31))) * ((-1640531535 : Int32))).toUInt32 >>> (((17 : Int32)).toUInt32 &&& Int32.toUInt32 31)).toInt32)), (4, .int ((p1 ||| (p2 <<< (((14 : Int32)) &&& 31))) ||| (p3 <<< (((28 : Int32)) &&& 31)))), (0, .ref q0), (1, .int p1), (2, .int p2), (3, .int p3)]) hx hb dX8_meet_21 hl (by decide) rfl (fun ls hl => ?_)
  refine lv_iconst (v := 0) hx hb dX8_meet_23 (by decide) ?_
  refine lv_istore (lv' := [(6, .int ((0 : Int32))), (5, .int (((((p1 ||| (p2 <<< (((14 : Int32)) &&& 31))) ||| (p3 <<< (((28 : Int32)) &&& 31))) * ((-1640531535 : Int32))).toUInt32 >>> (((17 : Int32)).toUInt32 &&& Int32.toUInt32 31)).toInt32)), (4, .int ((p1 ||| (p2 <<< (((14 : Int32)) &&& 31))) ||| (p3 <<< (((28 : Int32)) &&& 31)))), (0, .ref q0), (1, .int p1), (2, .int p2), (3, .int p3)]) hx hb dX8_meet_24 hl (by decide) rfl (fun ls hl => ?_)
  exact w_X8_meet_L26 dC dI cI cJ cZ K q0 q1 q2 q3 q4 q5 n0 n1 n2 n3 A rv uv hS0 hr hlocks hA hK hN K p1 p2 p3 ((p1 ||| (p2 <<< (((14 : Int32)) &&& 31))) ||| (p3 <<< (((28 : Int32)) &&& 31))) (((((p1 ||| (p2 <<< (((14 : Int32)) &&& 31))) ||| (p3 <<< (((28 : Int32)) &&& 31))) * ((-1640531535 : Int32))).toUInt32 >>> (((17 : Int32)).toUInt32 &&& Int32.toUInt32 31)).toInt32) ((0 : Int32)) s0 s1 s2 s3 s4 s5 s6 s7 s8 s9 s10 s11 _ _ _ hm hP hD hS (lv_sub hl [3, 4, 5, 6, 2, 1, 0] rfl)
abbrev rm_X8_listRuns : Room := { frames := 1, cells := 0, slots := 0, locals := 22 }
theorem in_X8_listRuns_X8 : ∀ w ∈ wsX80, w ∈ wsX8_listRuns := by decide +kernel
def m_X8_listRuns_L11 (K : Nat) (n0 : Nat) (n1 : Nat) (n2 : Nat) (n3 : Nat) : Nat → Int32 → Int32 → Int32 → Int32 → Int32 → Int32 → Int32 → Int32 → Int32 → (Nat → Int32) → (Nat → Int32) → Int32 → Int32 → (Nat → Int32) → (Nat → Int32) → Option (Int32 × Int32 × Int32 × Int32 × Int32 × Int32 × (Nat → Int32) × (Nat → Int32) × Int32 × Int32 × (Nat → Int32) × (Nat → Int32))
  | 0, _, _, _, _, _, _, _, _, _, _, _, _, _, _, _ => none
  | k + 1, x1, x2, x3, s0, s1, s2, s3, s4, s5, s6, s7, s8, s9, s10, s11 =>
    if s5 < x3 then some ((s0, s1, s2, s3, s4, s5, s6, s7, s8, s9, s10, s11))
    else (if x3 = s5 then (if x3 ≤ x2 then m_X8_listRuns_L11 K n0 n1 n2 n3 k x1 (x3 + ((1 : Int32))) (x3 + 1) s0 s1 s2 s3 s4 s5 s6 s7 s8 s9 s10 s11
    else (m_X10_add K n2 n3 x2 (x3 - x2) s8 s9 s10 s11).bind fun ⟨t_5_0, t_5_1, t_5_2, t_5_3⟩ => m_X8_listRuns_L11 K n0 n1 n2 n3 k x1 (x3 + ((1 : Int32))) (x3 + 1) s0 s1 s2 s3 s4 s5 s6 s7 t_5_0 t_5_1 t_5_2 t_5_3)
    else (if (((x1.toUInt32 >>> (x3.toUInt32 &&& Int32.toUInt32 31)).toInt32) &&& ((1 : Int32))) = ((1 : Int32)) then (if x3 ≤ x2 then m_X8_listRuns_L11 K n0 n1 n2 n3 k x1 (x3 + ((1 : Int32))) (x3 + 1) s0 s1 s2 s3 s4 s5 s6 s7 s8 s9 s10 s11
    else (m_X10_add K n2 n3 x2 (x3 - x2) s8 s9 s10 s11).bind fun ⟨t_8_0, t_8_1, t_8_2, t_8_3⟩ => m_X8_listRuns_L11 K n0 n1 n2 n3 k x1 (x3 + ((1 : Int32))) (x3 + 1) s0 s1 s2 s3 s4 s5 s6 s7 t_8_0 t_8_1 t_8_2 t_8_3)
    else m_X8_listRuns_L11 K n0 n1 n2 n3 k x1 x2 (x3 + 1) s0 s1 s2 s3 s4 s5 s6 s7 s8 s9 s10 s11))
theorem m_X8_listRuns_L11_s (K : Nat) (n0 : Nat) (n1 : Nat) (n2 : Nat) (n3 : Nat) (k : Nat) (x1 : Int32) (x2 : Int32) (x3 : Int32) (s0 : Int32) (s1 : Int32) (s2 : Int32) (s3 : Int32) (s4 : Int32) (s5 : Int32) (s6 : Nat → Int32) (s7 : Nat → Int32) (s8 : Int32) (s9 : Int32) (s10 : Nat → Int32) (s11 : Nat → Int32) : m_X8_listRuns_L11 K n0 n1 n2 n3 (k + 1) x1 x2 x3 s0 s1 s2 s3 s4 s5 s6 s7 s8 s9 s10 s11 =
    (if s5 < x3 then some ((s0, s1, s2, s3, s4, s5, s6, s7, s8, s9, s10, s11))
    else (if x3 = s5 then (if x3 ≤ x2 then m_X8_listRuns_L11 K n0 n1 n2 n3 k x1 (x3 + ((1 : Int32))) (x3 + 1) s0 s1 s2 s3 s4 s5 s6 s7 s8 s9 s10 s11
    else (m_X10_add K n2 n3 x2 (x3 - x2) s8 s9 s10 s11).bind fun ⟨t_5_0, t_5_1, t_5_2, t_5_3⟩ => m_X8_listRuns_L11 K n0 n1 n2 n3 k x1 (x3 + ((1 : Int32))) (x3 + 1) s0 s1 s2 s3 s4 s5 s6 s7 t_5_0 t_5_1 t_5_2 t_5_3)
    else (if (((x1.toUInt32 >>> (x3.toUInt32 &&& Int32.toUInt32 31)).toInt32) &&& ((1 : Int32))) = ((1 : Int32)) then (if x3 ≤ x2 then m_X8_listRuns_L11 K n0 n1 n2 n3 k x1 (x3 + ((1 : Int32))) (x3 + 1) s0 s1 s2 s3 s4 s5 s6 s7 s8 s9 s10 s11
    else (m_X10_add K n2 n3 x2 (x3 - x2) s8 s9 s10 s11).bind fun ⟨t_8_0, t_8_1, t_8_2, t_8_3⟩ => m_X8_listRuns_L11 K n0 n1 n2 n3 k x1 (x3 + ((1 : Int32))) (x3 + 1) s0 s1 s2 s3 s4 s5 s6 s7 t_8_0 t_8_1 t_8_2 t_8_3)
    else m_X8_listRuns_L11 K n0 n1 n2 n3 k x1 x2 (x3 + 1) s0 s1 s2 s3 s4 s5 s6 s7 s8 s9 s10 s11))) := rfl
set_option maxHeartbeats 4000000 in
set_option maxRecDepth 100000 in
theorem w_X8_listRuns_L11 {p : Program} {l : Launch} {e : Env} {s : State} {m : MethodId} {args : Array Value} {below : List Frame} {meth : Method} {c : Code} (dC : Nat → ClassId) (dI : Nat → Nat → Nat) (cI cJ cZ : ClassId) (K : Nat) (q0 q1 q2 q3 q4 q5 : Nat) (n0 : Nat) (n1 : Nat) (n2 : Nat) (n3 : Nat) (A : Nat → Prop) (uv : Int32 × Int32 × Int32 × Int32 × Int32 × Int32 × (Nat → Int32) × (Nat → Int32) × Int32 × Int32 × (Nat → Int32) × (Nat → Int32)) (hS0 : CallFix p m c cX8_listRuns 4 s args wsX8_listRuns RX8) (hr : meth.sig.returnType = none) (hlocks : meth.locks = false) (hA : ∀ q : Nat, s.heap.size ≤ q → A q) (hK : va_K (dC, dI) vwCl [(cI, .int), (cJ, .long), (cZ, .boolean)] s) (hN : zz_nw s) : ∀ (k : Nat) (x1 : Int32) (x2 : Int32) (x3 : Int32) (s0 : Int32) (s1 : Int32) (s2 : Int32) (s3 : Int32) (s4 : Int32) (s5 : Int32) (s6 : Nat → Int32) (s7 : Nat → Int32) (s8 : Int32) (s9 : Int32) (s10 : Nat → Int32) (s11 : Nat → Int32) (H : Heap) (locs : List Loc) (ls : Array Slot), m_X8_listRuns_L11 K n0 n1 n2 n3 k x1 x2 x3 s0 s1 s2 s3 s4 s5 s6 s7 s8 s9 s10 s11 = some uv → va_P (dC, dI) vwCl [(q0, .inr (7, [.ref q1, .ref q2, .ref q3, .int s0, .int s1, .int s2, .int s3, .int s4, .int s5])), (q1, .inl (cI, n0, .inl s6)), (q2, .inl (cI, n1, .inl s7)), (q3, .inr (9, [.ref q4, .ref q5, .int s8, .int s9])), (q4, .inl (cI, n2, .inl s10)), (q5, .inl (cI, n3, .inl s11))] H → va_D A [(q0, .inr (7, [.ref q1, .ref q2, .ref q3, .int s0, .int s1, .int s2, .int s3, .int s4, .int s5])), (q1, .inl (cI, n0, .inl s6)), (q2, .inl (cI, n1, .inl s7)), (q3, .inr (9, [.ref q4, .ref q5, .int s8, .int s9])), (q4, .inl (cI, n2, .inl s10)), (q5, .inl (cI, n3, .inl s11))] → va_S A s.heap H locs → lv_has ls 4 [(0, .ref q0), (1, .int x1), (2, .int x2), (3, .int x3)] → W p l e rm_X8_listRuns s m args below meth c H locs 0 0 (MQ below (va_Qv (fun u => uv = u) (fun u t => zz_wo dC dI [(cI, .int), (cJ, .long), (cZ, .boolean)] A (ce_X8 cI cJ cZ q0 q1 q2 q3 q4 q5 n0 n1 n2 n3 u) t) A) args s 0 0 A) (F0 m 11 ls []) := by
  obtain ⟨hx, hb, hml, hown, hts⟩ := id hS0
  have inX8 := in_X8_listRuns_X8
  have f24 := hts (.fieldLink RX8 24 "RoomForms$Search" "runs" "LRoomForms$Stretches;") (by decide +kernel)
  have f44 := hts (.fieldLink RX8 44 "RoomForms$Search" "words" "I") (by decide +kernel)
  intro k
  induction k with
  | zero =>
    intro _ _ _ _ _ _ _ _ _ _ _ _ _ _ _ _ _ _ hm
    have hm9 : (none : Option (Int32 × Int32 × Int32 × Int32 × Int32 × Int32 × (Nat → Int32) × (Nat → Int32) × Int32 × Int32 × (Nat → Int32) × (Nat → Int32))) = some _ := hm
    cases hm9
  | succ k ih =>
    intro x1 x2 x3 s0 s1 s2 s3 s4 s5 s6 s7 s8 s9 s10 s11 H locs ls hm hP hD hS hl
    rw [m_X8_listRuns_L11_s] at hm
    refine lv_iload_n hx hb dX8_listRuns_11 rfl (lv_at hl 3 rfl) ?_
    refine lv_aload_n hx hb dX8_listRuns_12 rfl (lv_at hl 0 rfl) ?_
    refine va_get (D := (dC, dI)) (ci := 7) (v := .int s5) (C := RX8) (T := TX8) (N := 9) hx hb hts inX8 hown hK hP 0 rfl rfl 8 (by decide) f44 (fun _ h9 => h9) rfl dX8_listRuns_13 ?_
    refine lv_icmp_gt (tgt := 62) hx hb dX8_listRuns_16 (by decide) (fun c_2 => ?_) (fun c_2 => ?_)
    · replace hm := zz_t c_2 hm
      have hm := Option.some.inj hm
      exact W.vret hx hb hr (fun t ht hW => ⟨⟨(s0, s1, s2, s3, s4, s5, s6, s7, s8, s9, s10, s11), rfl, hm.symm, by rw [ht]; exact hP, va_K.moved hW.alike hK, hD⟩, hS.F ht⟩) hS.2.2 dX8_listRuns_62
    · replace hm := zz_f c_2 hm
      refine lv_iload_n hx hb dX8_listRuns_19 rfl (lv_at hl 3 rfl) ?_
      refine lv_aload_n hx hb dX8_listRuns_20 rfl (lv_at hl 0 rfl) ?_
      refine va_get (D := (dC, dI)) (ci := 7) (v := .int s5) (C := RX8) (T := TX8) (N := 9) hx hb hts inX8 hown hK hP 0 rfl rfl 8 (by decide) f44 (fun _ h9 => h9) rfl dX8_listRuns_21 ?_
      refine lv_icmp_eq (tgt := 36) hx hb dX8_listRuns_24 (by decide) (fun c_3 => ?_) (fun c_3 => ?_)
      · replace hm := zz_t c_3 hm
        refine lv_iload_n hx hb dX8_listRuns_36 rfl (lv_at hl 3 rfl) ?_
        refine lv_iload_n hx hb dX8_listRuns_37 rfl (lv_at hl 2 rfl) ?_
        refine lv_icmp_le (tgt := 52) hx hb dX8_listRuns_38 (by decide) (fun c_4 => ?_) (fun c_4 => ?_)
        · replace hm := zz_t c_4 hm
          refine lv_iload_n hx hb dX8_listRuns_52 rfl (lv_at hl 3 rfl) ?_
          refine lv_iconst (v := 1) hx hb dX8_listRuns_53 (by decide) ?_
          refine lv_iadd hx hb dX8_listRuns_54 ?_
          refine lv_istore_n (lv' := [(2, .int (x3 + ((1 : Int32)))), (0, .ref q0), (1, .int x1), (3, .int x3)]) hx hb dX8_listRuns_55 rfl hl (by decide) rfl (fun ls hl => ?_)
          refine lv_iinc (v := x3 + 1) (lv' := [(3, .int (x3 + 1)), (2, .int (x3 + ((1 : Int32)))), (0, .ref q0), (1, .int x1)]) hx hb dX8_listRuns_56 hl (k := 3) rfl rfl (by decide) rfl (fun ls hl => ?_)
          refine lv_goto (tgt := 11) hx hb dX8_listRuns_59 (by decide) ?_
          exact ih x1 (x3 + ((1 : Int32))) (x3 + 1) s0 s1 s2 s3 s4 s5 s6 s7 s8 s9 s10 s11 _ _ _ hm hP hD hS (lv_sub hl [2, 3, 1, 0] rfl)
        · replace hm := zz_f c_4 hm
          refine lv_aload_n hx hb dX8_listRuns_41 rfl (lv_at hl 0 rfl) ?_
          refine va_get (D := (dC, dI)) (ci := 7) (v := .ref q3) (C := RX8) (T := TX8) (N := 9) hx hb hts inX8 hown hK hP 0 rfl rfl 2 (by decide) f24 (fun _ h9 => h9) rfl dX8_listRuns_42 ?_
          refine lv_iload_n hx hb dX8_listRuns_45 rfl (lv_at hl 2 rfl) ?_
          refine lv_iload_n hx hb dX8_listRuns_46 rfl (lv_at hl 3 rfl) ?_
          refine lv_iload_n hx hb dX8_listRuns_47 rfl (lv_at hl 2 rfl) ?_
          refine lv_isub hx hb dX8_listRuns_48 ?_
          obtain ⟨⟨t_5_0, t_5_1, t_5_2, t_5_3⟩, hc_5, hm⟩ := zz_bind hm
          have hPc := hP.sub (ws' := [(q3, .inr (9, [.ref q4, .ref q5, .int s8, .int s9])), (q4, .inl (cI, n2, .inl s10)), (q5, .inl (cI, n3, .inl s11))]) [3, 4, 5] rfl
          have hDc := hD.sub (ws' := [(q3, .inr (9, [.ref q4, .ref q5, .int s8, .int s9])), (q4, .inl (cI, n2, .inl s10)), (q5, .inl (cI, n3, .inl s11))]) [3, 4, 5] (by decide) rfl
          have hFc := va_free (wc := [(q3, .inr (9, [.ref q4, .ref q5, .int s8, .int s9])), (q4, .inl (cI, n2, .inl s10)), (q5, .inl (cI, n3, .inl s11))]) hD hS hA [3, 4, 5] rfl
          refine va_callv (va_runV (As := [.int x2, .int (x3 - x2)]) (rest := []) hS0 (c_X10_add l dC dI cI cJ cZ K q3 q4 q5 n2 n3 s8 s9 s10 s11 x2 (x3 - x2) _ (t_5_0, t_5_1, t_5_2, t_5_3) hc_5) (cwV 2 hts gX8_listRuns_X10_add rfl rfl rfl (by decide +kernel) ⟨Nat.le_of_ble_eq_true rfl, Nat.le_of_ble_eq_true rfl⟩) (zz_pv hK hPc hDc hN (va_recv hK hPc (ci := 9) (q0 := 0) rfl rfl)) rfl rfl hl.1 rfl (lv_room (Nat.le_of_ble_eq_true rfl)) dX8_listRuns_49 ⟨Nat.zero_le _, Nat.zero_le _⟩) hS (fun q _ h => hFc q h) hFc (fun u t H1 locs ht hvm hw hB hz1 hk1 hS => ?_)
          subst hw
          obtain ⟨hP1, hK1, hD1⟩ := hB
          rw [ht] at hP1
          obtain ⟨hP, hD⟩ := va_join (wr := [(q0, .inr (7, [.ref q1, .ref q2, .ref q3, .int s0, .int s1, .int s2, .int s3, .int s4, .int s5])), (q1, .inl (cI, n0, .inl s6)), (q2, .inl (cI, n1, .inl s7))]) (w1 := [(q3, .inr (9, [.ref q4, .ref q5, .int t_5_0, .int t_5_1])), (q4, .inl (cI, n2, .inl t_5_2)), (q5, .inl (cI, n3, .inl t_5_3))]) hP hD [3, 4, 5] [0, 1, 2] rfl rfl (by decide) (by decide) hk1 hFc hP1 hD1
          have hP : va_P (dC, dI) vwCl [(q0, .inr (7, [.ref q1, .ref q2, .ref q3, .int s0, .int s1, .int s2, .int s3, .int s4, .int s5])), (q1, .inl (cI, n0, .inl s6)), (q2, .inl (cI, n1, .inl s7)), (q3, .inr (9, [.ref q4, .ref q5, .int t_5_0, .int t_5_1])), (q4, .inl (cI, n2, .inl t_5_2)), (q5, .inl (cI, n3, .inl t_5_3))] _ := hP
          have hD : va_D A [(q0, .inr (7, [.ref q1, .ref q2, .ref q3, .int s0, .int s1, .int s2, .int s3, .int s4, .int s5])), (q1, .inl (cI, n0, .inl s6)), (q2, .inl (cI, n1, .inl s7)), (q3, .inr (9, [.ref q4, .ref q5, .int t_5_0, .int t_5_1])), (q4, .inl (cI, n2, .inl t_5_2)), (q5, .inl (cI, n3, .inl t_5_3))] := hD
          refine lv_iload_n hx hb dX8_listRuns_52 rfl (lv_at hl 3 rfl) ?_
          refine lv_iconst (v := 1) hx hb dX8_listRuns_53 (by decide) ?_
          refine lv_iadd hx hb dX8_listRuns_54 ?_
          refine lv_istore_n (lv' := [(2, .int (x3 + ((1 : Int32)))), (0, .ref q0), (1, .int x1), (3, .int x3)]) hx hb dX8_listRuns_55 rfl hl (by decide) rfl (fun ls hl => ?_)
          refine lv_iinc (v := x3 + 1) (lv' := [(3, .int (x3 + 1)), (2, .int (x3 + ((1 : Int32)))), (0, .ref q0), (1, .int x1)]) hx hb dX8_listRuns_56 hl (k := 3) rfl rfl (by decide) rfl (fun ls hl => ?_)
          refine lv_goto (tgt := 11) hx hb dX8_listRuns_59 (by decide) ?_
          exact ih x1 (x3 + ((1 : Int32))) (x3 + 1) s0 s1 s2 s3 s4 s5 s6 s7 t_5_0 t_5_1 t_5_2 t_5_3 _ _ _ hm hP hD hS (lv_sub hl [2, 3, 1, 0] rfl)
      · replace hm := zz_f c_3 hm
        refine lv_iload_n hx hb dX8_listRuns_27 rfl (lv_at hl 1 rfl) ?_
        refine lv_iload_n hx hb dX8_listRuns_28 rfl (lv_at hl 3 rfl) ?_
        refine lv_iushr hx hb dX8_listRuns_29 rfl ?_
        refine lv_iconst (v := 1) hx hb dX8_listRuns_30 (by decide) ?_
        refine lv_iand hx hb dX8_listRuns_31 ?_
        refine lv_iconst (v := 1) hx hb dX8_listRuns_32 (by decide) ?_
        refine lv_icmp_ne (tgt := 56) hx hb dX8_listRuns_33 (by decide) (fun c_6 => ?_) (fun c_6 => ?_)
        · replace hm := zz_f c_6 hm
          refine lv_iinc (v := x3 + 1) (lv' := [(3, .int (x3 + 1)), (0, .ref q0), (1, .int x1), (2, .int x2)]) hx hb dX8_listRuns_56 hl (k := 3) rfl rfl (by decide) rfl (fun ls hl => ?_)
          refine lv_goto (tgt := 11) hx hb dX8_listRuns_59 (by decide) ?_
          exact ih x1 x2 (x3 + 1) s0 s1 s2 s3 s4 s5 s6 s7 s8 s9 s10 s11 _ _ _ hm hP hD hS (lv_sub hl [1, 2, 3, 0] rfl)
        · replace hm := zz_t c_6 hm
          refine lv_iload_n hx hb dX8_listRuns_36 rfl (lv_at hl 3 rfl) ?_
          refine lv_iload_n hx hb dX8_listRuns_37 rfl (lv_at hl 2 rfl) ?_
          refine lv_icmp_le (tgt := 52) hx hb dX8_listRuns_38 (by decide) (fun c_7 => ?_) (fun c_7 => ?_)
          · replace hm := zz_t c_7 hm
            refine lv_iload_n hx hb dX8_listRuns_52 rfl (lv_at hl 3 rfl) ?_
            refine lv_iconst (v := 1) hx hb dX8_listRuns_53 (by decide) ?_
            refine lv_iadd hx hb dX8_listRuns_54 ?_
            refine lv_istore_n (lv' := [(2, .int (x3 + ((1 : Int32)))), (0, .ref q0), (1, .int x1), (3, .int x3)]) hx hb dX8_listRuns_55 rfl hl (by decide) rfl (fun ls hl => ?_)
            refine lv_iinc (v := x3 + 1) (lv' := [(3, .int (x3 + 1)), (2, .int (x3 + ((1 : Int32)))), (0, .ref q0), (1, .int x1)]) hx hb dX8_listRuns_56 hl (k := 3) rfl rfl (by decide) rfl (fun ls hl => ?_)
            refine lv_goto (tgt := 11) hx hb dX8_listRuns_59 (by decide) ?_
            exact ih x1 (x3 + ((1 : Int32))) (x3 + 1) s0 s1 s2 s3 s4 s5 s6 s7 s8 s9 s10 s11 _ _ _ hm hP hD hS (lv_sub hl [2, 3, 1, 0] rfl)
          · replace hm := zz_f c_7 hm
            refine lv_aload_n hx hb dX8_listRuns_41 rfl (lv_at hl 0 rfl) ?_
            refine va_get (D := (dC, dI)) (ci := 7) (v := .ref q3) (C := RX8) (T := TX8) (N := 9) hx hb hts inX8 hown hK hP 0 rfl rfl 2 (by decide) f24 (fun _ h9 => h9) rfl dX8_listRuns_42 ?_
            refine lv_iload_n hx hb dX8_listRuns_45 rfl (lv_at hl 2 rfl) ?_
            refine lv_iload_n hx hb dX8_listRuns_46 rfl (lv_at hl 3 rfl) ?_
            refine lv_iload_n hx hb dX8_listRuns_47 rfl (lv_at hl 2 rfl) ?_
            refine lv_isub hx hb dX8_listRuns_48 ?_
            obtain ⟨⟨t_8_0, t_8_1, t_8_2, t_8_3⟩, hc_8, hm⟩ := zz_bind hm
            have hPc := hP.sub (ws' := [(q3, .inr (9, [.ref q4, .ref q5, .int s8, .int s9])), (q4, .inl (cI, n2, .inl s10)), (q5, .inl (cI, n3, .inl s11))]) [3, 4, 5] rfl
            have hDc := hD.sub (ws' := [(q3, .inr (9, [.ref q4, .ref q5, .int s8, .int s9])), (q4, .inl (cI, n2, .inl s10)), (q5, .inl (cI, n3, .inl s11))]) [3, 4, 5] (by decide) rfl
            have hFc := va_free (wc := [(q3, .inr (9, [.ref q4, .ref q5, .int s8, .int s9])), (q4, .inl (cI, n2, .inl s10)), (q5, .inl (cI, n3, .inl s11))]) hD hS hA [3, 4, 5] rfl
            refine va_callv (va_runV (As := [.int x2, .int (x3 - x2)]) (rest := []) hS0 (c_X10_add l dC dI cI cJ cZ K q3 q4 q5 n2 n3 s8 s9 s10 s11 x2 (x3 - x2) _ (t_8_0, t_8_1, t_8_2, t_8_3) hc_8) (cwV 2 hts gX8_listRuns_X10_add rfl rfl rfl (by decide +kernel) ⟨Nat.le_of_ble_eq_true rfl, Nat.le_of_ble_eq_true rfl⟩) (zz_pv hK hPc hDc hN (va_recv hK hPc (ci := 9) (q0 := 0) rfl rfl)) rfl rfl hl.1 rfl (lv_room (Nat.le_of_ble_eq_true rfl)) dX8_listRuns_49 ⟨Nat.zero_le _, Nat.zero_le _⟩) hS (fun q _ h => hFc q h) hFc (fun u t H1 locs ht hvm hw hB hz1 hk1 hS => ?_)
            subst hw
            obtain ⟨hP1, hK1, hD1⟩ := hB
            rw [ht] at hP1
            obtain ⟨hP, hD⟩ := va_join (wr := [(q0, .inr (7, [.ref q1, .ref q2, .ref q3, .int s0, .int s1, .int s2, .int s3, .int s4, .int s5])), (q1, .inl (cI, n0, .inl s6)), (q2, .inl (cI, n1, .inl s7))]) (w1 := [(q3, .inr (9, [.ref q4, .ref q5, .int t_8_0, .int t_8_1])), (q4, .inl (cI, n2, .inl t_8_2)), (q5, .inl (cI, n3, .inl t_8_3))]) hP hD [3, 4, 5] [0, 1, 2] rfl rfl (by decide) (by decide) hk1 hFc hP1 hD1
            have hP : va_P (dC, dI) vwCl [(q0, .inr (7, [.ref q1, .ref q2, .ref q3, .int s0, .int s1, .int s2, .int s3, .int s4, .int s5])), (q1, .inl (cI, n0, .inl s6)), (q2, .inl (cI, n1, .inl s7)), (q3, .inr (9, [.ref q4, .ref q5, .int t_8_0, .int t_8_1])), (q4, .inl (cI, n2, .inl t_8_2)), (q5, .inl (cI, n3, .inl t_8_3))] _ := hP
            have hD : va_D A [(q0, .inr (7, [.ref q1, .ref q2, .ref q3, .int s0, .int s1, .int s2, .int s3, .int s4, .int s5])), (q1, .inl (cI, n0, .inl s6)), (q2, .inl (cI, n1, .inl s7)), (q3, .inr (9, [.ref q4, .ref q5, .int t_8_0, .int t_8_1])), (q4, .inl (cI, n2, .inl t_8_2)), (q5, .inl (cI, n3, .inl t_8_3))] := hD
            refine lv_iload_n hx hb dX8_listRuns_52 rfl (lv_at hl 3 rfl) ?_
            refine lv_iconst (v := 1) hx hb dX8_listRuns_53 (by decide) ?_
            refine lv_iadd hx hb dX8_listRuns_54 ?_
            refine lv_istore_n (lv' := [(2, .int (x3 + ((1 : Int32)))), (0, .ref q0), (1, .int x1), (3, .int x3)]) hx hb dX8_listRuns_55 rfl hl (by decide) rfl (fun ls hl => ?_)
            refine lv_iinc (v := x3 + 1) (lv' := [(3, .int (x3 + 1)), (2, .int (x3 + ((1 : Int32)))), (0, .ref q0), (1, .int x1)]) hx hb dX8_listRuns_56 hl (k := 3) rfl rfl (by decide) rfl (fun ls hl => ?_)
            refine lv_goto (tgt := 11) hx hb dX8_listRuns_59 (by decide) ?_
            exact ih x1 (x3 + ((1 : Int32))) (x3 + 1) s0 s1 s2 s3 s4 s5 s6 s7 t_8_0 t_8_1 t_8_2 t_8_3 _ _ _ hm hP hD hS (lv_sub hl [2, 3, 1, 0] rfl)
def m_X8_listRuns (K : Nat) (n0 : Nat) (n1 : Nat) (n2 : Nat) (n3 : Nat) (p1 : Int32) (s0 : Int32) (s1 : Int32) (s2 : Int32) (s3 : Int32) (s4 : Int32) (s5 : Int32) (s6 : Nat → Int32) (s7 : Nat → Int32) (s8 : Int32) (s9 : Int32) (s10 : Nat → Int32) (s11 : Nat → Int32) : Option (Int32 × Int32 × Int32 × Int32 × Int32 × Int32 × (Nat → Int32) × (Nat → Int32) × Int32 × Int32 × (Nat → Int32) × (Nat → Int32)) :=
  (m_X10_clear K n2 n3 s8 s9 s10 s11).bind fun ⟨t_1_0, t_1_1, t_1_2, t_1_3⟩ => m_X8_listRuns_L11 K n0 n1 n2 n3 K p1 ((0 : Int32)) ((0 : Int32)) s0 s1 s2 s3 s4 s5 s6 s7 t_1_0 t_1_1 t_1_2 t_1_3
set_option maxHeartbeats 4000000 in
set_option maxRecDepth 100000 in
theorem c_X8_listRuns (l : Launch) (dC : Nat → ClassId) (dI : Nat → Nat → Nat) (cI cJ cZ : ClassId) (K : Nat) (q0 q1 q2 q3 q4 q5 : Nat) (n0 : Nat) (n1 : Nat) (n2 : Nat) (n3 : Nat) (s0 : Int32) (s1 : Int32) (s2 : Int32) (s3 : Int32) (s4 : Int32) (s5 : Int32) (s6 : Nat → Int32) (s7 : Nat → Int32) (s8 : Int32) (s9 : Int32) (s10 : Nat → Int32) (s11 : Nat → Int32) (p1 : Int32) (sz : Nat) (uv : Int32 × Int32 × Int32 × Int32 × Int32 × Int32 × (Nat → Int32) × (Nat → Int32) × Int32 × Int32 × (Nat → Int32) × (Nat → Int32)) (hm : m_X8_listRuns K n0 n1 n2 n3 p1 s0 s1 s2 s3 s4 s5 s6 s7 s8 s9 s10 s11 = some uv) : Met l yX8_listRuns wsX8_listRuns rm_X8_listRuns (zz_pre dC dI [(cI, .int), (cJ, .long), (cZ, .boolean)] [(q0, .inr (7, [.ref q1, .ref q2, .ref q3, .int s0, .int s1, .int s2, .int s3, .int s4, .int s5])), (q1, .inl (cI, n0, .inl s6)), (q2, .inl (cI, n1, .inl s7)), (q3, .inr (9, [.ref q4, .ref q5, .int s8, .int s9])), (q4, .inl (cI, n2, .inl s10)), (q5, .inl (cI, n3, .inl s11))] sz [.ref q0, .int p1]) (va_Qv (fun u => uv = u) (fun u t => zz_wo dC dI [(cI, .int), (cJ, .long), (cZ, .boolean)] (va_A [(q0, .inr (7, [.ref q1, .ref q2, .ref q3, .int s0, .int s1, .int s2, .int s3, .int s4, .int s5])), (q1, .inl (cI, n0, .inl s6)), (q2, .inl (cI, n1, .inl s7)), (q3, .inr (9, [.ref q4, .ref q5, .int s8, .int s9])), (q4, .inl (cI, n2, .inl s10)), (q5, .inl (cI, n3, .inl s11))] sz) (ce_X8 cI cJ cZ q0 q1 q2 q3 q4 q5 n0 n1 n2 n3 u) t) (va_A [(q0, .inr (7, [.ref q1, .ref q2, .ref q3, .int s0, .int s1, .int s2, .int s3, .int s4, .int s5])), (q1, .inl (cI, n0, .inl s6)), (q2, .inl (cI, n1, .inl s7)), (q3, .inr (9, [.ref q4, .ref q5, .int s8, .int s9])), (q4, .inl (cI, n2, .inl s10)), (q5, .inl (cI, n3, .inl s11))] sz)) 0 0 (va_A [(q0, .inr (7, [.ref q1, .ref q2, .ref q3, .int s0, .int s1, .int s2, .int s3, .int s4, .int s5])), (q1, .inl (cI, n0, .inl s6)), (q2, .inl (cI, n1, .inl s7)), (q3, .inr (9, [.ref q4, .ref q5, .int s8, .int s9])), (q4, .inl (cI, n2, .inl s10)), (q5, .inl (cI, n3, .inl s11))] sz) := by
  refine Met.ofW (cc := cX8_listRuns) (maxL := 4) (ret := none) (by decide) rfl ?_
  intro p e s m args below meth c s₁ B hml hv
  obtain ⟨rfl, hsz, hP, hK, hD0, hN⟩ := hv
  have hx := B.exec
  have hb := B.bytes
  have hr := B.returns
  have hts := atoms_spec (ws := wsX8_listRuns) B.pre
  have hown : s.vm.findClass RX8 = some m.cls := findClass_of_methodNamed B.named
  have hlocks := B.notSynchronized
  have hS0 : CallFix p m c cX8_listRuns 4 s #[.ref q0, .int p1] wsX8_listRuns RX8 := ⟨hx, hb, hml, hown, hts⟩
  subst hsz
  have hD := hD0.self (sz := s.heap.size)
  generalize hAe : va_A [(q0, .inr (7, [.ref q1, .ref q2, .ref q3, .int s0, .int s1, .int s2, .int s3, .int s4, .int s5])), (q1, .inl (cI, n0, .inl s6)), (q2, .inl (cI, n1, .inl s7)), (q3, .inr (9, [.ref q4, .ref q5, .int s8, .int s9])), (q4, .inl (cI, n2, .inl s10)), (q5, .inl (cI, n3, .inl s11))] s.heap.size = A at hD ⊢
  have hA : ∀ q : Nat, s.heap.size ≤ q → A q := fun q h => by rw [← hAe]; exact Or.inr h
  have hS : va_S A s.heap s.heap [] := va_S.rf
  have hl := lv_entry ([.ref q0, .int p1]) (n := 4) (Nat.le_of_ble_eq_true rfl)
  rw [lg_entry_eq]
  generalize (lg_sl ([.ref q0, .int p1]) ++ List.replicate (4 - (lg_sl ([.ref q0, .int p1])).length) Slot.unset).toArray = ls at hl ⊢
  have hl : lv_has ls 4 [(0, .ref q0), (1, .int p1)] := hl
  have inX8 := in_X8_listRuns_X8
  have f24 := hts (.fieldLink RX8 24 "RoomForms$Search" "runs" "LRoomForms$Stretches;") (by decide +kernel)
  have f44 := hts (.fieldLink RX8 44 "RoomForms$Search" "words" "I") (by decide +kernel)
  unfold m_X8_listRuns at hm
  refine lv_aload_n hx hb dX8_listRuns_0 rfl (lv_at hl 0 rfl) ?_
  refine va_get (D := (dC, dI)) (ci := 7) (v := .ref q3) (C := RX8) (T := TX8) (N := 9) hx hb hts inX8 hown hK hP 0 rfl rfl 2 (by decide) f24 (fun _ h9 => h9) rfl dX8_listRuns_1 ?_
  obtain ⟨⟨t_1_0, t_1_1, t_1_2, t_1_3⟩, hc_1, hm⟩ := zz_bind hm
  have hPc := hP.sub (ws' := [(q3, .inr (9, [.ref q4, .ref q5, .int s8, .int s9])), (q4, .inl (cI, n2, .inl s10)), (q5, .inl (cI, n3, .inl s11))]) [3, 4, 5] rfl
  have hDc := hD.sub (ws' := [(q3, .inr (9, [.ref q4, .ref q5, .int s8, .int s9])), (q4, .inl (cI, n2, .inl s10)), (q5, .inl (cI, n3, .inl s11))]) [3, 4, 5] (by decide) rfl
  have hFc := va_free (wc := [(q3, .inr (9, [.ref q4, .ref q5, .int s8, .int s9])), (q4, .inl (cI, n2, .inl s10)), (q5, .inl (cI, n3, .inl s11))]) hD hS hA [3, 4, 5] rfl
  refine va_callv (va_runV (As := []) (rest := []) hS0 (c_X10_clear l dC dI cI cJ cZ K q3 q4 q5 n2 n3 s8 s9 s10 s11 _ (t_1_0, t_1_1, t_1_2, t_1_3) hc_1) (cwV 0 hts gX8_listRuns_X10_clear rfl rfl rfl (by decide +kernel) ⟨Nat.le_of_ble_eq_true rfl, Nat.le_of_ble_eq_true rfl⟩) (zz_pv hK hPc hDc hN (va_recv hK hPc (ci := 9) (q0 := 0) rfl rfl)) rfl rfl hl.1 rfl (lv_room (Nat.le_of_ble_eq_true rfl)) dX8_listRuns_4 ⟨Nat.zero_le _, Nat.zero_le _⟩) hS (fun q _ h => hFc q h) hFc (fun u t H1 locs ht hvm hw hB hz1 hk1 hS => ?_)
  subst hw
  obtain ⟨hP1, hK1, hD1⟩ := hB
  rw [ht] at hP1
  obtain ⟨hP, hD⟩ := va_join (wr := [(q0, .inr (7, [.ref q1, .ref q2, .ref q3, .int s0, .int s1, .int s2, .int s3, .int s4, .int s5])), (q1, .inl (cI, n0, .inl s6)), (q2, .inl (cI, n1, .inl s7))]) (w1 := [(q3, .inr (9, [.ref q4, .ref q5, .int t_1_0, .int t_1_1])), (q4, .inl (cI, n2, .inl t_1_2)), (q5, .inl (cI, n3, .inl t_1_3))]) hP hD [3, 4, 5] [0, 1, 2] rfl rfl (by decide) (by decide) hk1 hFc hP1 hD1
  have hP : va_P (dC, dI) vwCl [(q0, .inr (7, [.ref q1, .ref q2, .ref q3, .int s0, .int s1, .int s2, .int s3, .int s4, .int s5])), (q1, .inl (cI, n0, .inl s6)), (q2, .inl (cI, n1, .inl s7)), (q3, .inr (9, [.ref q4, .ref q5, .int t_1_0, .int t_1_1])), (q4, .inl (cI, n2, .inl t_1_2)), (q5, .inl (cI, n3, .inl t_1_3))] _ := hP
  have hD : va_D A [(q0, .inr (7, [.ref q1, .ref q2, .ref q3, .int s0, .int s1, .int s2, .int s3, .int s4, .int s5])), (q1, .inl (cI, n0, .inl s6)), (q2, .inl (cI, n1, .inl s7)), (q3, .inr (9, [.ref q4, .ref q5, .int t_1_0, .int t_1_1])), (q4, .inl (cI, n2, .inl t_1_2)), (q5, .inl (cI, n3, .inl t_1_3))] := hD
  refine lv_iconst (v := 0) hx hb dX8_listRuns_7 (by decide) ?_
  refine lv_istore_n (lv' := [(2, .int ((0 : Int32))), (0, .ref q0), (1, .int p1)]) hx hb dX8_listRuns_8 rfl hl (by decide) rfl (fun ls hl => ?_)
  refine lv_iconst (v := 0) hx hb dX8_listRuns_9 (by decide) ?_
  refine lv_istore_n (lv' := [(3, .int ((0 : Int32))), (2, .int ((0 : Int32))), (0, .ref q0), (1, .int p1)]) hx hb dX8_listRuns_10 rfl hl (by decide) rfl (fun ls hl => ?_)
  exact w_X8_listRuns_L11 dC dI cI cJ cZ K q0 q1 q2 q3 q4 q5 n0 n1 n2 n3 A uv hS0 hr hlocks hA hK hN K p1 ((0 : Int32)) ((0 : Int32)) s0 s1 s2 s3 s4 s5 s6 s7 t_1_0 t_1_1 t_1_2 t_1_3 _ _ _ hm hP hD hS (lv_sub hl [2, 3, 1, 0] rfl)
abbrev rm_X8_blockFrom : Room := { frames := 0, cells := 0, slots := 0, locals := 0 }
theorem in_X8_blockFrom_X8 : ∀ w ∈ wsX80, w ∈ wsX8_blockFrom := by decide +kernel
def m_X8_blockFrom_L17 (K : Nat) (n0 : Nat) (n1 : Nat) (n2 : Nat) (n3 : Nat) : Nat → Int32 → Int32 → Int32 → Int32 → Int32 → Int32 → Int32 → Int32 → Int32 → Int32 → Int32 → Int32 → (Nat → Int32) → (Nat → Int32) → Int32 → Int32 → (Nat → Int32) → (Nat → Int32) → Option (Int32 × Int32 × Int32 × Int32 × Int32 × Int32 × Int32 × (Nat → Int32) × (Nat → Int32) × Int32 × Int32 × (Nat → Int32) × (Nat → Int32))
  | 0, _, _, _, _, _, _, _, _, _, _, _, _, _, _, _, _, _, _ => none
  | k + 1, x1, x2, x3, x4, x5, x6, s0, s1, s2, s3, s4, s5, s6, s7, s8, s9, s10, s11 =>
    if s5 ≤ x6 then some (x5, (s0, s1, s2, s3, s4, s5, s6, s7, s8, s9, s10, s11))
    else (if (((x4.toUInt32 >>> (x6.toUInt32 &&& Int32.toUInt32 31)).toInt32) &&& ((1 : Int32))) = ((1 : Int32)) then m_X8_blockFrom_L17 K n0 n1 n2 n3 k x1 x2 x3 x4 (x5 ||| (((1 : Int32)) <<< (x6 &&& 31))) (x6 + 1) s0 s1 s2 s3 s4 s5 s6 s7 s8 s9 s10 s11
    else some (x5, (s0, s1, s2, s3, s4, s5, s6, s7, s8, s9, s10, s11)))
theorem m_X8_blockFrom_L17_s (K : Nat) (n0 : Nat) (n1 : Nat) (n2 : Nat) (n3 : Nat) (k : Nat) (x1 : Int32) (x2 : Int32) (x3 : Int32) (x4 : Int32) (x5 : Int32) (x6 : Int32) (s0 : Int32) (s1 : Int32) (s2 : Int32) (s3 : Int32) (s4 : Int32) (s5 : Int32) (s6 : Nat → Int32) (s7 : Nat → Int32) (s8 : Int32) (s9 : Int32) (s10 : Nat → Int32) (s11 : Nat → Int32) : m_X8_blockFrom_L17 K n0 n1 n2 n3 (k + 1) x1 x2 x3 x4 x5 x6 s0 s1 s2 s3 s4 s5 s6 s7 s8 s9 s10 s11 =
    (if s5 ≤ x6 then some (x5, (s0, s1, s2, s3, s4, s5, s6, s7, s8, s9, s10, s11))
    else (if (((x4.toUInt32 >>> (x6.toUInt32 &&& Int32.toUInt32 31)).toInt32) &&& ((1 : Int32))) = ((1 : Int32)) then m_X8_blockFrom_L17 K n0 n1 n2 n3 k x1 x2 x3 x4 (x5 ||| (((1 : Int32)) <<< (x6 &&& 31))) (x6 + 1) s0 s1 s2 s3 s4 s5 s6 s7 s8 s9 s10 s11
    else some (x5, (s0, s1, s2, s3, s4, s5, s6, s7, s8, s9, s10, s11)))) := rfl
set_option maxHeartbeats 4000000 in
set_option maxRecDepth 100000 in
theorem w_X8_blockFrom_L17 {p : Program} {l : Launch} {e : Env} {s : State} {m : MethodId} {args : Array Value} {below : List Frame} {meth : Method} {c : Code} (dC : Nat → ClassId) (dI : Nat → Nat → Nat) (cI cJ cZ : ClassId) (K : Nat) (q0 q1 q2 q3 q4 q5 : Nat) (n0 : Nat) (n1 : Nat) (n2 : Nat) (n3 : Nat) (A : Nat → Prop) (rv : Int32) (uv : Int32 × Int32 × Int32 × Int32 × Int32 × Int32 × (Nat → Int32) × (Nat → Int32) × Int32 × Int32 × (Nat → Int32) × (Nat → Int32)) (hS0 : CallFix p m c cX8_blockFrom 7 s args wsX8_blockFrom RX8) (hr : meth.sig.returnType = (some .int)) (hlocks : meth.locks = false) (hA : ∀ q : Nat, s.heap.size ≤ q → A q) (hK : va_K (dC, dI) vwCl [(cI, .int), (cJ, .long), (cZ, .boolean)] s) (hN : zz_nw s) : ∀ (k : Nat) (x1 : Int32) (x2 : Int32) (x3 : Int32) (x4 : Int32) (x5 : Int32) (x6 : Int32) (s0 : Int32) (s1 : Int32) (s2 : Int32) (s3 : Int32) (s4 : Int32) (s5 : Int32) (s6 : Nat → Int32) (s7 : Nat → Int32) (s8 : Int32) (s9 : Int32) (s10 : Nat → Int32) (s11 : Nat → Int32) (H : Heap) (locs : List Loc) (ls : Array Slot), m_X8_blockFrom_L17 K n0 n1 n2 n3 k x1 x2 x3 x4 x5 x6 s0 s1 s2 s3 s4 s5 s6 s7 s8 s9 s10 s11 = some (rv, uv) → va_P (dC, dI) vwCl [(q0, .inr (7, [.ref q1, .ref q2, .ref q3, .int s0, .int s1, .int s2, .int s3, .int s4, .int s5])), (q1, .inl (cI, n0, .inl s6)), (q2, .inl (cI, n1, .inl s7)), (q3, .inr (9, [.ref q4, .ref q5, .int s8, .int s9])), (q4, .inl (cI, n2, .inl s10)), (q5, .inl (cI, n3, .inl s11))] H → va_D A [(q0, .inr (7, [.ref q1, .ref q2, .ref q3, .int s0, .int s1, .int s2, .int s3, .int s4, .int s5])), (q1, .inl (cI, n0, .inl s6)), (q2, .inl (cI, n1, .inl s7)), (q3, .inr (9, [.ref q4, .ref q5, .int s8, .int s9])), (q4, .inl (cI, n2, .inl s10)), (q5, .inl (cI, n3, .inl s11))] → va_S A s.heap H locs → lv_has ls 7 [(0, .ref q0), (1, .int x1), (2, .int x2), (3, .int x3), (4, .int x4), (5, .int x5), (6, .int x6)] → W p l e rm_X8_blockFrom s m args below meth c H locs 0 0 (MQ below (va_Qi (fun r u => rv = r ∧ uv = u) (fun u t => zz_wo dC dI [(cI, .int), (cJ, .long), (cZ, .boolean)] A (ce_X8 cI cJ cZ q0 q1 q2 q3 q4 q5 n0 n1 n2 n3 u) t) A) args s 0 0 A) (F0 m 17 ls []) := by
  obtain ⟨hx, hb, hml, hown, hts⟩ := id hS0
  have inX8 := in_X8_blockFrom_X8
  have f44 := hts (.fieldLink RX8 44 "RoomForms$Search" "words" "I") (by decide +kernel)
  intro k
  induction k with
  | zero =>
    intro _ _ _ _ _ _ _ _ _ _ _ _ _ _ _ _ _ _ _ _ _ hm
    have hm9 : (none : Option (Int32 × Int32 × Int32 × Int32 × Int32 × Int32 × Int32 × (Nat → Int32) × (Nat → Int32) × Int32 × Int32 × (Nat → Int32) × (Nat → Int32))) = some _ := hm
    cases hm9
  | succ k ih =>
    intro x1 x2 x3 x4 x5 x6 s0 s1 s2 s3 s4 s5 s6 s7 s8 s9 s10 s11 H locs ls hm hP hD hS hl
    rw [m_X8_blockFrom_L17_s] at hm
    refine lv_iload hx hb dX8_blockFrom_17 (lv_at hl 6 rfl) ?_
    refine lv_aload_n hx hb dX8_blockFrom_19 rfl (lv_at hl 0 rfl) ?_
    refine va_get (D := (dC, dI)) (ci := 7) (v := .int s5) (C := RX8) (T := TX8) (N := 9) hx hb hts inX8 hown hK hP 0 rfl rfl 8 (by decide) f44 (fun _ h9 => h9) rfl dX8_blockFrom_20 ?_
    refine lv_icmp_ge (tgt := 52) hx hb dX8_blockFrom_23 (by decide) (fun c_1 => ?_) (fun c_1 => ?_)
    · replace hm := zz_t c_1 hm
      refine lv_iload hx hb dX8_blockFrom_52 (lv_at hl 5 rfl) ?_
      have hm := Option.some.inj hm
      exact W.iret (v := x5) hx hb hr (fun t ht hW => ⟨⟨x5, (s0, s1, s2, s3, s4, s5, s6, s7, s8, s9, s10, s11), rfl, ⟨(congrArg (·.1) hm).symm, (congrArg (·.2) hm).symm⟩, by rw [ht]; exact hP, va_K.moved hW.alike hK, hD⟩, hS.F ht⟩) hS.2.2 dX8_blockFrom_54
    · replace hm := zz_f c_1 hm
      refine lv_iload hx hb dX8_blockFrom_26 (lv_at hl 4 rfl) ?_
      refine lv_iload hx hb dX8_blockFrom_28 (lv_at hl 6 rfl) ?_
      refine lv_iushr hx hb dX8_blockFrom_30 rfl ?_
      refine lv_iconst (v := 1) hx hb dX8_blockFrom_31 (by decide) ?_
      refine lv_iand hx hb dX8_blockFrom_32 ?_
      refine lv_iconst (v := 1) hx hb dX8_blockFrom_33 (by decide) ?_
      refine lv_icmp_ne (tgt := 52) hx hb dX8_blockFrom_34 (by decide) (fun c_2 => ?_) (fun c_2 => ?_)
      · replace hm := zz_f c_2 hm
        refine lv_iload hx hb dX8_blockFrom_52 (lv_at hl 5 rfl) ?_
        have hm := Option.some.inj hm
        exact W.iret (v := x5) hx hb hr (fun t ht hW => ⟨⟨x5, (s0, s1, s2, s3, s4, s5, s6, s7, s8, s9, s10, s11), rfl, ⟨(congrArg (·.1) hm).symm, (congrArg (·.2) hm).symm⟩, by rw [ht]; exact hP, va_K.moved hW.alike hK, hD⟩, hS.F ht⟩) hS.2.2 dX8_blockFrom_54
      · replace hm := zz_t c_2 hm
        refine lv_iload hx hb dX8_blockFrom_37 (lv_at hl 5 rfl) ?_
        refine lv_iconst (v := 1) hx hb dX8_blockFrom_39 (by decide) ?_
        refine lv_iload hx hb dX8_blockFrom_40 (lv_at hl 6 rfl) ?_
        refine lv_ishl hx hb dX8_blockFrom_42 ?_
        refine lv_ior hx hb dX8_blockFrom_43 ?_
        refine lv_istore (lv' := [(5, .int (x5 ||| (((1 : Int32)) <<< (x6 &&& 31)))), (0, .ref q0), (1, .int x1), (2, .int x2), (3, .int x3), (4, .int x4), (6, .int x6)]) hx hb dX8_blockFrom_44 hl (by decide) rfl (fun ls hl => ?_)
        refine lv_iinc (v := x6 + 1) (lv' := [(6, .int (x6 + 1)), (5, .int (x5 ||| (((1 : Int32)) <<< (x6 &&& 31)))), (0, .ref q0), (1, .int x1), (2, .int x2), (3, .int x3), (4, .int x4)]) hx hb dX8_blockFrom_46 hl (k := 6) rfl rfl (by decide) rfl (fun ls hl => ?_)
        refine lv_goto (tgt := 17) hx hb dX8_blockFrom_49 (by decide) ?_
        exact ih x1 x2 x3 x4 (x5 ||| (((1 : Int32)) <<< (x6 &&& 31))) (x6 + 1) s0 s1 s2 s3 s4 s5 s6 s7 s8 s9 s10 s11 _ _ _ hm hP hD hS (lv_sub hl [2, 3, 4, 5, 6, 1, 0] rfl)
def m_X8_blockFrom (K : Nat) (n0 : Nat) (n1 : Nat) (n2 : Nat) (n3 : Nat) (p1 : Int32) (p2 : Int32) (p3 : Int32) (s0 : Int32) (s1 : Int32) (s2 : Int32) (s3 : Int32) (s4 : Int32) (s5 : Int32) (s6 : Nat → Int32) (s7 : Nat → Int32) (s8 : Int32) (s9 : Int32) (s10 : Nat → Int32) (s11 : Nat → Int32) : Option (Int32 × Int32 × Int32 × Int32 × Int32 × Int32 × Int32 × (Nat → Int32) × (Nat → Int32) × Int32 × Int32 × (Nat → Int32) × (Nat → Int32)) :=
  m_X8_blockFrom_L17 K n0 n1 n2 n3 K p1 p2 p3 (p2 &&& (p3 ^^^ ((-1 : Int32)))) (((1 : Int32)) <<< (p1 &&& 31)) (p1 + ((1 : Int32))) s0 s1 s2 s3 s4 s5 s6 s7 s8 s9 s10 s11
set_option maxHeartbeats 4000000 in
set_option maxRecDepth 100000 in
theorem c_X8_blockFrom (l : Launch) (dC : Nat → ClassId) (dI : Nat → Nat → Nat) (cI cJ cZ : ClassId) (K : Nat) (q0 q1 q2 q3 q4 q5 : Nat) (n0 : Nat) (n1 : Nat) (n2 : Nat) (n3 : Nat) (s0 : Int32) (s1 : Int32) (s2 : Int32) (s3 : Int32) (s4 : Int32) (s5 : Int32) (s6 : Nat → Int32) (s7 : Nat → Int32) (s8 : Int32) (s9 : Int32) (s10 : Nat → Int32) (s11 : Nat → Int32) (p1 : Int32) (p2 : Int32) (p3 : Int32) (sz : Nat) (rv : Int32) (uv : Int32 × Int32 × Int32 × Int32 × Int32 × Int32 × (Nat → Int32) × (Nat → Int32) × Int32 × Int32 × (Nat → Int32) × (Nat → Int32)) (hm : m_X8_blockFrom K n0 n1 n2 n3 p1 p2 p3 s0 s1 s2 s3 s4 s5 s6 s7 s8 s9 s10 s11 = some (rv, uv)) : Met l yX8_blockFrom wsX8_blockFrom rm_X8_blockFrom (zz_pre dC dI [(cI, .int), (cJ, .long), (cZ, .boolean)] [(q0, .inr (7, [.ref q1, .ref q2, .ref q3, .int s0, .int s1, .int s2, .int s3, .int s4, .int s5])), (q1, .inl (cI, n0, .inl s6)), (q2, .inl (cI, n1, .inl s7)), (q3, .inr (9, [.ref q4, .ref q5, .int s8, .int s9])), (q4, .inl (cI, n2, .inl s10)), (q5, .inl (cI, n3, .inl s11))] sz [.ref q0, .int p1, .int p2, .int p3]) (va_Qi (fun r u => rv = r ∧ uv = u) (fun u t => zz_wo dC dI [(cI, .int), (cJ, .long), (cZ, .boolean)] (va_A [(q0, .inr (7, [.ref q1, .ref q2, .ref q3, .int s0, .int s1, .int s2, .int s3, .int s4, .int s5])), (q1, .inl (cI, n0, .inl s6)), (q2, .inl (cI, n1, .inl s7)), (q3, .inr (9, [.ref q4, .ref q5, .int s8, .int s9])), (q4, .inl (cI, n2, .inl s10)), (q5, .inl (cI, n3, .inl s11))] sz) (ce_X8 cI cJ cZ q0 q1 q2 q3 q4 q5 n0 n1 n2 n3 u) t) (va_A [(q0, .inr (7, [.ref q1, .ref q2, .ref q3, .int s0, .int s1, .int s2, .int s3, .int s4, .int s5])), (q1, .inl (cI, n0, .inl s6)), (q2, .inl (cI, n1, .inl s7)), (q3, .inr (9, [.ref q4, .ref q5, .int s8, .int s9])), (q4, .inl (cI, n2, .inl s10)), (q5, .inl (cI, n3, .inl s11))] sz)) 0 0 (va_A [(q0, .inr (7, [.ref q1, .ref q2, .ref q3, .int s0, .int s1, .int s2, .int s3, .int s4, .int s5])), (q1, .inl (cI, n0, .inl s6)), (q2, .inl (cI, n1, .inl s7)), (q3, .inr (9, [.ref q4, .ref q5, .int s8, .int s9])), (q4, .inl (cI, n2, .inl s10)), (q5, .inl (cI, n3, .inl s11))] sz) := by
  refine Met.ofW (cc := cX8_blockFrom) (maxL := 7) (ret := (some .int)) (by decide) rfl ?_
  intro p e s m args below meth c s₁ B hml hv
  obtain ⟨rfl, hsz, hP, hK, hD0, hN⟩ := hv
  have hx := B.exec
  have hb := B.bytes
  have hr := B.returns
  have hts := atoms_spec (ws := wsX8_blockFrom) B.pre
  have hown : s.vm.findClass RX8 = some m.cls := findClass_of_methodNamed B.named
  have hlocks := B.notSynchronized
  have hS0 : CallFix p m c cX8_blockFrom 7 s #[.ref q0, .int p1, .int p2, .int p3] wsX8_blockFrom RX8 := ⟨hx, hb, hml, hown, hts⟩
  subst hsz
  have hD := hD0.self (sz := s.heap.size)
  generalize hAe : va_A [(q0, .inr (7, [.ref q1, .ref q2, .ref q3, .int s0, .int s1, .int s2, .int s3, .int s4, .int s5])), (q1, .inl (cI, n0, .inl s6)), (q2, .inl (cI, n1, .inl s7)), (q3, .inr (9, [.ref q4, .ref q5, .int s8, .int s9])), (q4, .inl (cI, n2, .inl s10)), (q5, .inl (cI, n3, .inl s11))] s.heap.size = A at hD ⊢
  have hA : ∀ q : Nat, s.heap.size ≤ q → A q := fun q h => by rw [← hAe]; exact Or.inr h
  have hS : va_S A s.heap s.heap [] := va_S.rf
  have hl := lv_entry ([.ref q0, .int p1, .int p2, .int p3]) (n := 7) (Nat.le_of_ble_eq_true rfl)
  rw [lg_entry_eq]
  generalize (lg_sl ([.ref q0, .int p1, .int p2, .int p3]) ++ List.replicate (7 - (lg_sl ([.ref q0, .int p1, .int p2, .int p3])).length) Slot.unset).toArray = ls at hl ⊢
  have hl : lv_has ls 7 [(0, .ref q0), (1, .int p1), (2, .int p2), (3, .int p3)] := hl
  have inX8 := in_X8_blockFrom_X8
  have f44 := hts (.fieldLink RX8 44 "RoomForms$Search" "words" "I") (by decide +kernel)
  unfold m_X8_blockFrom at hm
  refine lv_iload_n hx hb dX8_blockFrom_0 rfl (lv_at hl 2 rfl) ?_
  refine lv_iload_n hx hb dX8_blockFrom_1 rfl (lv_at hl 3 rfl) ?_
  refine lv_iconst (v := (-1)) hx hb dX8_blockFrom_2 (by decide) ?_
  refine lv_ixor hx hb dX8_blockFrom_3 ?_
  refine lv_iand hx hb dX8_blockFrom_4 ?_
  refine lv_istore (lv' := [(4, .int (p2 &&& (p3 ^^^ ((-1 : Int32))))), (0, .ref q0), (1, .int p1), (2, .int p2), (3, .int p3)]) hx hb dX8_blockFrom_5 hl (by decide) rfl (fun ls hl => ?_)
  refine lv_iconst (v := 1) hx hb dX8_blockFrom_7 (by decide) ?_
  refine lv_iload_n hx hb dX8_blockFrom_8 rfl (lv_at hl 2 rfl) ?_
  refine lv_ishl hx hb dX8_blockFrom_9 ?_
  refine lv_istore (lv' := [(5, .int (((1 : Int32)) <<< (p1 &&& 31))), (4, .int (p2 &&& (p3 ^^^ ((-1 : Int32))))), (0, .ref q0), (1, .int p1), (2, .int p2), (3, .int p3)]) hx hb dX8_blockFrom_10 hl (by decide) rfl (fun ls hl => ?_)
  refine lv_iload_n hx hb dX8_blockFrom_12 rfl (lv_at hl 3 rfl) ?_
  refine lv_iconst (v := 1) hx hb dX8_blockFrom_13 (by decide) ?_
  refine lv_iadd hx hb dX8_blockFrom_14 ?_
  refine lv_istore (lv' := [(6, .int (p1 + ((1 : Int32)))), (5, .int (((1 : Int32)) <<< (p1 &&& 31))), (4, .int (p2 &&& (p3 ^^^ ((-1 : Int32))))), (0, .ref q0), (1, .int p1), (2, .int p2), (3, .int p3)]) hx hb dX8_blockFrom_15 hl (by decide) rfl (fun ls hl => ?_)
  exact w_X8_blockFrom_L17 dC dI cI cJ cZ K q0 q1 q2 q3 q4 q5 n0 n1 n2 n3 A rv uv hS0 hr hlocks hA hK hN K p1 p2 p3 (p2 &&& (p3 ^^^ ((-1 : Int32)))) (((1 : Int32)) <<< (p1 &&& 31)) (p1 + ((1 : Int32))) s0 s1 s2 s3 s4 s5 s6 s7 s8 s9 s10 s11 _ _ _ hm hP hD hS (lv_sub hl [3, 4, 5, 6, 2, 1, 0] rfl)
abbrev rm_X8_giveAllBack : Room := { frames := 2, cells := 0, slots := 0, locals := 49 }
theorem in_X8_giveAllBack_X8 : ∀ w ∈ wsX80, w ∈ wsX8_giveAllBack := by decide +kernel
def m_X8_giveAllBack_L3 (K : Nat) (n0 : Nat) (n1 : Nat) (n2 : Nat) (n3 : Nat) : Nat → Int32 → Int32 → Int32 → Int32 → Int32 → Int32 → Int32 → Int32 → Int32 → Int32 → (Nat → Int32) → (Nat → Int32) → Int32 → Int32 → (Nat → Int32) → (Nat → Int32) → Option (Int32 × Int32 × Int32 × Int32 × Int32 × Int32 × Int32 × (Nat → Int32) × (Nat → Int32) × Int32 × Int32 × (Nat → Int32) × (Nat → Int32))
  | 0, _, _, _, _, _, _, _, _, _, _, _, _, _, _, _, _ => none
  | k + 1, x1, x2, x3, x4, s0, s1, s2, s3, s4, s5, s6, s7, s8, s9, s10, s11 =>
    if s5 ≤ x4 then some ((0 : Int32), (s0, s1, s2, s3, s4, s5, s6, s7, s8, s9, s10, s11))
    else (if (((x2.toUInt32 >>> (x4.toUInt32 &&& Int32.toUInt32 31)).toInt32) &&& ((1 : Int32))) = ((1 : Int32)) then ((m_X8_blockFrom K n0 n1 n2 n3 x4 x1 x2 s0 s1 s2 s3 s4 s5 s6 s7 s8 s9 s10 s11).bind fun ⟨r_3, t_3_0, t_3_1, t_3_2, t_3_3, t_3_4, t_3_5, t_3_6, t_3_7, t_3_8, t_3_9, t_3_10, t_3_11⟩ => ((m_X8_meet K n0 n1 n2 n3 (x1 &&& (r_3 ^^^ ((-1 : Int32)))) (x2 &&& ((((1 : Int32)) <<< (x4 &&& 31)) ^^^ ((-1 : Int32)))) x3 t_3_0 t_3_1 t_3_2 t_3_3 t_3_4 t_3_5 t_3_6 t_3_7 t_3_8 t_3_9 t_3_10 t_3_11).bind fun ⟨r_4, t_4_0, t_4_1, t_4_2, t_4_3, t_4_4, t_4_5, t_4_6, t_4_7, t_4_8, t_4_9, t_4_10, t_4_11⟩ => (if r_4 = 0 then some ((2 : Int32), (t_4_0, t_4_1, t_4_2, t_4_3, t_4_4, t_4_5, t_4_6, t_4_7, t_4_8, t_4_9, t_4_10, t_4_11))
    else m_X8_giveAllBack_L3 K n0 n1 n2 n3 k x1 x2 x3 (x4 + 1) t_4_0 t_4_1 t_4_2 t_4_3 t_4_4 t_4_5 t_4_6 t_4_7 t_4_8 t_4_9 t_4_10 t_4_11)))
    else m_X8_giveAllBack_L3 K n0 n1 n2 n3 k x1 x2 x3 (x4 + 1) s0 s1 s2 s3 s4 s5 s6 s7 s8 s9 s10 s11)
theorem m_X8_giveAllBack_L3_s (K : Nat) (n0 : Nat) (n1 : Nat) (n2 : Nat) (n3 : Nat) (k : Nat) (x1 : Int32) (x2 : Int32) (x3 : Int32) (x4 : Int32) (s0 : Int32) (s1 : Int32) (s2 : Int32) (s3 : Int32) (s4 : Int32) (s5 : Int32) (s6 : Nat → Int32) (s7 : Nat → Int32) (s8 : Int32) (s9 : Int32) (s10 : Nat → Int32) (s11 : Nat → Int32) : m_X8_giveAllBack_L3 K n0 n1 n2 n3 (k + 1) x1 x2 x3 x4 s0 s1 s2 s3 s4 s5 s6 s7 s8 s9 s10 s11 =
    (if s5 ≤ x4 then some ((0 : Int32), (s0, s1, s2, s3, s4, s5, s6, s7, s8, s9, s10, s11))
    else (if (((x2.toUInt32 >>> (x4.toUInt32 &&& Int32.toUInt32 31)).toInt32) &&& ((1 : Int32))) = ((1 : Int32)) then ((m_X8_blockFrom K n0 n1 n2 n3 x4 x1 x2 s0 s1 s2 s3 s4 s5 s6 s7 s8 s9 s10 s11).bind fun ⟨r_3, t_3_0, t_3_1, t_3_2, t_3_3, t_3_4, t_3_5, t_3_6, t_3_7, t_3_8, t_3_9, t_3_10, t_3_11⟩ => ((m_X8_meet K n0 n1 n2 n3 (x1 &&& (r_3 ^^^ ((-1 : Int32)))) (x2 &&& ((((1 : Int32)) <<< (x4 &&& 31)) ^^^ ((-1 : Int32)))) x3 t_3_0 t_3_1 t_3_2 t_3_3 t_3_4 t_3_5 t_3_6 t_3_7 t_3_8 t_3_9 t_3_10 t_3_11).bind fun ⟨r_4, t_4_0, t_4_1, t_4_2, t_4_3, t_4_4, t_4_5, t_4_6, t_4_7, t_4_8, t_4_9, t_4_10, t_4_11⟩ => (if r_4 = 0 then some ((2 : Int32), (t_4_0, t_4_1, t_4_2, t_4_3, t_4_4, t_4_5, t_4_6, t_4_7, t_4_8, t_4_9, t_4_10, t_4_11))
    else m_X8_giveAllBack_L3 K n0 n1 n2 n3 k x1 x2 x3 (x4 + 1) t_4_0 t_4_1 t_4_2 t_4_3 t_4_4 t_4_5 t_4_6 t_4_7 t_4_8 t_4_9 t_4_10 t_4_11)))
    else m_X8_giveAllBack_L3 K n0 n1 n2 n3 k x1 x2 x3 (x4 + 1) s0 s1 s2 s3 s4 s5 s6 s7 s8 s9 s10 s11)) := rfl
set_option maxHeartbeats 4000000 in
set_option maxRecDepth 100000 in
theorem w_X8_giveAllBack_L3 {p : Program} {l : Launch} {e : Env} {s : State} {m : MethodId} {args : Array Value} {below : List Frame} {meth : Method} {c : Code} (dC : Nat → ClassId) (dI : Nat → Nat → Nat) (cI cJ cZ : ClassId) (K : Nat) (q0 q1 q2 q3 q4 q5 : Nat) (n0 : Nat) (n1 : Nat) (n2 : Nat) (n3 : Nat) (A : Nat → Prop) (rv : Int32) (uv : Int32 × Int32 × Int32 × Int32 × Int32 × Int32 × (Nat → Int32) × (Nat → Int32) × Int32 × Int32 × (Nat → Int32) × (Nat → Int32)) (hS0 : CallFix p m c cX8_giveAllBack 6 s args wsX8_giveAllBack RX8) (hr : meth.sig.returnType = (some .int)) (hlocks : meth.locks = false) (hA : ∀ q : Nat, s.heap.size ≤ q → A q) (hK : va_K (dC, dI) vwCl [(cI, .int), (cJ, .long), (cZ, .boolean)] s) (hN : zz_nw s) : ∀ (k : Nat) (x1 : Int32) (x2 : Int32) (x3 : Int32) (x4 : Int32) (s0 : Int32) (s1 : Int32) (s2 : Int32) (s3 : Int32) (s4 : Int32) (s5 : Int32) (s6 : Nat → Int32) (s7 : Nat → Int32) (s8 : Int32) (s9 : Int32) (s10 : Nat → Int32) (s11 : Nat → Int32) (H : Heap) (locs : List Loc) (ls : Array Slot), m_X8_giveAllBack_L3 K n0 n1 n2 n3 k x1 x2 x3 x4 s0 s1 s2 s3 s4 s5 s6 s7 s8 s9 s10 s11 = some (rv, uv) → va_P (dC, dI) vwCl [(q0, .inr (7, [.ref q1, .ref q2, .ref q3, .int s0, .int s1, .int s2, .int s3, .int s4, .int s5])), (q1, .inl (cI, n0, .inl s6)), (q2, .inl (cI, n1, .inl s7)), (q3, .inr (9, [.ref q4, .ref q5, .int s8, .int s9])), (q4, .inl (cI, n2, .inl s10)), (q5, .inl (cI, n3, .inl s11))] H → va_D A [(q0, .inr (7, [.ref q1, .ref q2, .ref q3, .int s0, .int s1, .int s2, .int s3, .int s4, .int s5])), (q1, .inl (cI, n0, .inl s6)), (q2, .inl (cI, n1, .inl s7)), (q3, .inr (9, [.ref q4, .ref q5, .int s8, .int s9])), (q4, .inl (cI, n2, .inl s10)), (q5, .inl (cI, n3, .inl s11))] → va_S A s.heap H locs → lv_has ls 6 [(0, .ref q0), (1, .int x1), (2, .int x2), (3, .int x3), (4, .int x4)] → W p l e rm_X8_giveAllBack s m args below meth c H locs 0 0 (MQ below (va_Qi (fun r u => rv = r ∧ uv = u) (fun u t => zz_wo dC dI [(cI, .int), (cJ, .long), (cZ, .boolean)] A (ce_X8 cI cJ cZ q0 q1 q2 q3 q4 q5 n0 n1 n2 n3 u) t) A) args s 0 0 A) (F0 m 3 ls []) := by
  obtain ⟨hx, hb, hml, hown, hts⟩ := id hS0
  have inX8 := in_X8_giveAllBack_X8
  have f44 := hts (.fieldLink RX8 44 "RoomForms$Search" "words" "I") (by decide +kernel)
  intro k
  induction k with
  | zero =>
    intro _ _ _ _ _ _ _ _ _ _ _ _ _ _ _ _ _ _ _ hm
    have hm9 : (none : Option (Int32 × Int32 × Int32 × Int32 × Int32 × Int32 × Int32 × (Nat → Int32) × (Nat → Int32) × Int32 × Int32 × (Nat → Int32) × (Nat → Int32))) = some _ := hm
    cases hm9
  | succ k ih =>
    intro x1 x2 x3 x4 s0 s1 s2 s3 s4 s5 s6 s7 s8 s9 s10 s11 H locs ls hm hP hD hS hl
    rw [m_X8_giveAllBack_L3_s] at hm
    refine lv_iload hx hb dX8_giveAllBack_3 (lv_at hl 4 rfl) ?_
    refine lv_aload_n hx hb dX8_giveAllBack_5 rfl (lv_at hl 0 rfl) ?_
    refine va_get (D := (dC, dI)) (ci := 7) (v := .int s5) (C := RX8) (T := TX8) (N := 9) hx hb hts inX8 hown hK hP 0 rfl rfl 8 (by decide) f44 (fun _ h9 => h9) rfl dX8_giveAllBack_6 ?_
    refine lv_icmp_ge (tgt := 62) hx hb dX8_giveAllBack_9 (by decide) (fun c_1 => ?_) (fun c_1 => ?_)
    · replace hm := zz_t c_1 hm
      refine lv_iconst (v := 0) hx hb dX8_giveAllBack_62 (by decide) ?_
      have hm := Option.some.inj hm
      exact W.iret (v := (0 : Int32)) hx hb hr (fun t ht hW => ⟨⟨(0 : Int32), (s0, s1, s2, s3, s4, s5, s6, s7, s8, s9, s10, s11), rfl, ⟨(congrArg (·.1) hm).symm, (congrArg (·.2) hm).symm⟩, by rw [ht]; exact hP, va_K.moved hW.alike hK, hD⟩, hS.F ht⟩) hS.2.2 dX8_giveAllBack_63
    · replace hm := zz_f c_1 hm
      refine lv_iload_n hx hb dX8_giveAllBack_12 rfl (lv_at hl 2 rfl) ?_
      refine lv_iload hx hb dX8_giveAllBack_13 (lv_at hl 4 rfl) ?_
      refine lv_iushr hx hb dX8_giveAllBack_15 rfl ?_
      refine lv_iconst (v := 1) hx hb dX8_giveAllBack_16 (by decide) ?_
      refine lv_iand hx hb dX8_giveAllBack_17 ?_
      refine lv_iconst (v := 1) hx hb dX8_giveAllBack_18 (by decide) ?_
      refine lv_icmp_ne (tgt := 56) hx hb dX8_giveAllBack_19 (by decide) (fun c_2 => ?_) (fun c_2 => ?_)
      · replace hm := zz_f c_2 hm
        refine lv_iinc (v := x4 + 1) (lv' := [(4, .int (x4 + 1)), (0, .ref q0), (1, .int x1), (2, .int x2), (3, .int x3)]) hx hb dX8_giveAllBack_56 hl (k := 4) rfl rfl (by decide) rfl (fun ls hl => ?_)
        refine lv_goto (tgt := 3) hx hb dX8_giveAllBack_59 (by decide) ?_
        exact ih x1 x2 x3 (x4 + 1) s0 s1 s2 s3 s4 s5 s6 s7 s8 s9 s10 s11 _ _ _ hm hP hD hS (lv_sub hl [1, 2, 3, 4, 0] rfl)
      · replace hm := zz_t c_2 hm
        refine lv_aload_n hx hb dX8_giveAllBack_22 rfl (lv_at hl 0 rfl) ?_
        refine lv_iload hx hb dX8_giveAllBack_23 (lv_at hl 4 rfl) ?_
        refine lv_iload_n hx hb dX8_giveAllBack_25 rfl (lv_at hl 1 rfl) ?_
        refine lv_iload_n hx hb dX8_giveAllBack_26 rfl (lv_at hl 2 rfl) ?_
        obtain ⟨⟨r_3, t_3_0, t_3_1, t_3_2, t_3_3, t_3_4, t_3_5, t_3_6, t_3_7, t_3_8, t_3_9, t_3_10, t_3_11⟩, hc_3, hm⟩ := zz_bind hm
        have hPc := hP.sub (ws' := [(q0, .inr (7, [.ref q1, .ref q2, .ref q3, .int s0, .int s1, .int s2, .int s3, .int s4, .int s5])), (q1, .inl (cI, n0, .inl s6)), (q2, .inl (cI, n1, .inl s7)), (q3, .inr (9, [.ref q4, .ref q5, .int s8, .int s9])), (q4, .inl (cI, n2, .inl s10)), (q5, .inl (cI, n3, .inl s11))]) [0, 1, 2, 3, 4, 5] rfl
        have hDc := hD.sub (ws' := [(q0, .inr (7, [.ref q1, .ref q2, .ref q3, .int s0, .int s1, .int s2, .int s3, .int s4, .int s5])), (q1, .inl (cI, n0, .inl s6)), (q2, .inl (cI, n1, .inl s7)), (q3, .inr (9, [.ref q4, .ref q5, .int s8, .int s9])), (q4, .inl (cI, n2, .inl s10)), (q5, .inl (cI, n3, .inl s11))]) [0, 1, 2, 3, 4, 5] (by decide) rfl
        have hFc := va_free (wc := [(q0, .inr (7, [.ref q1, .ref q2, .ref q3, .int s0, .int s1, .int s2, .int s3, .int s4, .int s5])), (q1, .inl (cI, n0, .inl s6)), (q2, .inl (cI, n1, .inl s7)), (q3, .inr (9, [.ref q4, .ref q5, .int s8, .int s9])), (q4, .inl (cI, n2, .inl s10)), (q5, .inl (cI, n3, .inl s11))]) hD hS hA [0, 1, 2, 3, 4, 5] rfl
        refine va_calli (va_runV (As := [.int x4, .int x1, .int x2]) (rest := []) hS0 (c_X8_blockFrom l dC dI cI cJ cZ K q0 q1 q2 q3 q4 q5 n0 n1 n2 n3 s0 s1 s2 s3 s4 s5 s6 s7 s8 s9 s10 s11 x4 x1 x2 _ r_3 (t_3_0, t_3_1, t_3_2, t_3_3, t_3_4, t_3_5, t_3_6, t_3_7, t_3_8, t_3_9, t_3_10, t_3_11) hc_3) (cwV 3 hts gX8_giveAllBack_X8_blockFrom rfl rfl rfl (by decide +kernel) ⟨Nat.le_of_ble_eq_true rfl, Nat.le_of_ble_eq_true rfl⟩) (zz_pv hK hPc hDc hN (va_recv hK hPc (ci := 7) (q0 := 0) rfl rfl)) rfl rfl hl.1 rfl (lv_room (Nat.le_of_ble_eq_true rfl)) dX8_giveAllBack_27 ⟨Nat.zero_le _, Nat.zero_le _⟩) hS (fun q _ h => hFc q h) hFc (fun r u t H1 locs ht hvm hw hB hz1 hk1 hS => ?_)
        obtain ⟨rfl, rfl⟩ := hw
        obtain ⟨hP1, hK1, hD1⟩ := hB
        rw [ht] at hP1
        obtain ⟨hP, hD⟩ := va_join (wr := []) (w1 := [(q0, .inr (7, [.ref q1, .ref q2, .ref q3, .int t_3_0, .int t_3_1, .int t_3_2, .int t_3_3, .int t_3_4, .int t_3_5])), (q1, .inl (cI, n0, .inl t_3_6)), (q2, .inl (cI, n1, .inl t_3_7)), (q3, .inr (9, [.ref q4, .ref q5, .int t_3_8, .int t_3_9])), (q4, .inl (cI, n2, .inl t_3_10)), (q5, .inl (cI, n3, .inl t_3_11))]) hP hD [0, 1, 2, 3, 4, 5] [] rfl rfl (by decide) (by decide) hk1 hFc hP1 hD1
        have hP : va_P (dC, dI) vwCl [(q0, .inr (7, [.ref q1, .ref q2, .ref q3, .int t_3_0, .int t_3_1, .int t_3_2, .int t_3_3, .int t_3_4, .int t_3_5])), (q1, .inl (cI, n0, .inl t_3_6)), (q2, .inl (cI, n1, .inl t_3_7)), (q3, .inr (9, [.ref q4, .ref q5, .int t_3_8, .int t_3_9])), (q4, .inl (cI, n2, .inl t_3_10)), (q5, .inl (cI, n3, .inl t_3_11))] _ := hP
        have hD : va_D A [(q0, .inr (7, [.ref q1, .ref q2, .ref q3, .int t_3_0, .int t_3_1, .int t_3_2, .int t_3_3, .int t_3_4, .int t_3_5])), (q1, .inl (cI, n0, .inl t_3_6)), (q2, .inl (cI, n1, .inl t_3_7)), (q3, .inr (9, [.ref q4, .ref q5, .int t_3_8, .int t_3_9])), (q4, .inl (cI, n2, .inl t_3_10)), (q5, .inl (cI, n3, .inl t_3_11))] := hD
        refine lv_istore (lv' := [(5, .int r_3), (0, .ref q0), (1, .int x1), (2, .int x2), (3, .int x3), (4, .int x4)]) hx hb dX8_giveAllBack_30 hl (by decide) rfl (fun ls hl => ?_)
        refine lv_aload_n hx hb dX8_giveAllBack_32 rfl (lv_at hl 1 rfl) ?_
        refine lv_iload_n hx hb dX8_giveAllBack_33 rfl (lv_at hl 2 rfl) ?_
        refine lv_iload hx hb dX8_giveAllBack_34 (lv_at hl 0 rfl) ?_
        refine lv_iconst (v := (-1)) hx hb dX8_giveAllBack_36 (by decide) ?_
        refine lv_ixor hx hb dX8_giveAllBack_37 ?_
        refine lv_iand hx hb dX8_giveAllBack_38 ?_
        refine lv_iload_n hx hb dX8_giveAllBack_39 rfl (lv_at hl 3 rfl) ?_
        refine lv_iconst (v := 1) hx hb dX8_giveAllBack_40 (by decide) ?_
        refine lv_iload hx hb dX8_giveAllBack_41 (lv_at hl 5 rfl) ?_
        refine lv_ishl hx hb dX8_giveAllBack_43 ?_
        refine lv_iconst (v := (-1)) hx hb dX8_giveAllBack_44 (by decide) ?_
        refine lv_ixor hx hb dX8_giveAllBack_45 ?_
        refine lv_iand hx hb dX8_giveAllBack_46 ?_
        refine lv_iload_n hx hb dX8_giveAllBack_47 rfl (lv_at hl 4 rfl) ?_
        obtain ⟨⟨r_4, t_4_0, t_4_1, t_4_2, t_4_3, t_4_4, t_4_5, t_4_6, t_4_7, t_4_8, t_4_9, t_4_10, t_4_11⟩, hc_4, hm⟩ := zz_bind hm
        have hPc := hP.sub (ws' := [(q0, .inr (7, [.ref q1, .ref q2, .ref q3, .int t_3_0, .int t_3_1, .int t_3_2, .int t_3_3, .int t_3_4, .int t_3_5])), (q1, .inl (cI, n0, .inl t_3_6)), (q2, .inl (cI, n1, .inl t_3_7)), (q3, .inr (9, [.ref q4, .ref q5, .int t_3_8, .int t_3_9])), (q4, .inl (cI, n2, .inl t_3_10)), (q5, .inl (cI, n3, .inl t_3_11))]) [0, 1, 2, 3, 4, 5] rfl
        have hDc := hD.sub (ws' := [(q0, .inr (7, [.ref q1, .ref q2, .ref q3, .int t_3_0, .int t_3_1, .int t_3_2, .int t_3_3, .int t_3_4, .int t_3_5])), (q1, .inl (cI, n0, .inl t_3_6)), (q2, .inl (cI, n1, .inl t_3_7)), (q3, .inr (9, [.ref q4, .ref q5, .int t_3_8, .int t_3_9])), (q4, .inl (cI, n2, .inl t_3_10)), (q5, .inl (cI, n3, .inl t_3_11))]) [0, 1, 2, 3, 4, 5] (by decide) rfl
        have hFc := va_free (wc := [(q0, .inr (7, [.ref q1, .ref q2, .ref q3, .int t_3_0, .int t_3_1, .int t_3_2, .int t_3_3, .int t_3_4, .int t_3_5])), (q1, .inl (cI, n0, .inl t_3_6)), (q2, .inl (cI, n1, .inl t_3_7)), (q3, .inr (9, [.ref q4, .ref q5, .int t_3_8, .int t_3_9])), (q4, .inl (cI, n2, .inl t_3_10)), (q5, .inl (cI, n3, .inl t_3_11))]) hD hS hA [0, 1, 2, 3, 4, 5] rfl
        refine va_calli (va_runV (As := [.int (x1 &&& (r_3 ^^^ ((-1 : Int32)))), .int (x2 &&& ((((1 : Int32)) <<< (x4 &&& 31)) ^^^ ((-1 : Int32)))), .int x3]) (rest := []) hS0 (c_X8_meet l dC dI cI cJ cZ K q0 q1 q2 q3 q4 q5 n0 n1 n2 n3 t_3_0 t_3_1 t_3_2 t_3_3 t_3_4 t_3_5 t_3_6 t_3_7 t_3_8 t_3_9 t_3_10 t_3_11 (x1 &&& (r_3 ^^^ ((-1 : Int32)))) (x2 &&& ((((1 : Int32)) <<< (x4 &&& 31)) ^^^ ((-1 : Int32)))) x3 _ r_4 (t_4_0, t_4_1, t_4_2, t_4_3, t_4_4, t_4_5, t_4_6, t_4_7, t_4_8, t_4_9, t_4_10, t_4_11) hc_4) (cwV 3 hts gX8_giveAllBack_X8_meet rfl rfl rfl (by decide +kernel) ⟨Nat.le_of_ble_eq_true rfl, Nat.le_of_ble_eq_true rfl⟩) (zz_pv hK hPc hDc hN (va_recv hK hPc (ci := 7) (q0 := 0) rfl rfl)) rfl rfl hl.1 rfl (lv_room (Nat.le_of_ble_eq_true rfl)) dX8_giveAllBack_48 ⟨Nat.zero_le _, Nat.zero_le _⟩) hS (fun q _ h => hFc q h) hFc (fun r u t H1 locs ht hvm hw hB hz1 hk1 hS => ?_)
        obtain ⟨rfl, rfl⟩ := hw
        obtain ⟨hP1, hK1, hD1⟩ := hB
        rw [ht] at hP1
        obtain ⟨hP, hD⟩ := va_join (wr := []) (w1 := [(q0, .inr (7, [.ref q1, .ref q2, .ref q3, .int t_4_0, .int t_4_1, .int t_4_2, .int t_4_3, .int t_4_4, .int t_4_5])), (q1, .inl (cI, n0, .inl t_4_6)), (q2, .inl (cI, n1, .inl t_4_7)), (q3, .inr (9, [.ref q4, .ref q5, .int t_4_8, .int t_4_9])), (q4, .inl (cI, n2, .inl t_4_10)), (q5, .inl (cI, n3, .inl t_4_11))]) hP hD [0, 1, 2, 3, 4, 5] [] rfl rfl (by decide) (by decide) hk1 hFc hP1 hD1
        have hP : va_P (dC, dI) vwCl [(q0, .inr (7, [.ref q1, .ref q2, .ref q3, .int t_4_0, .int t_4_1, .int t_4_2, .int t_4_3, .int t_4_4, .int t_4_5])), (q1, .inl (cI, n0, .inl t_4_6)), (q2, .inl (cI, n1, .inl t_4_7)), (q3, .inr (9, [.ref q4, .ref q5, .int t_4_8, .int t_4_9])), (q4, .inl (cI, n2, .inl t_4_10)), (q5, .inl (cI, n3, .inl t_4_11))] _ := hP
        have hD : va_D A [(q0, .inr (7, [.ref q1, .ref q2, .ref q3, .int t_4_0, .int t_4_1, .int t_4_2, .int t_4_3, .int t_4_4, .int t_4_5])), (q1, .inl (cI, n0, .inl t_4_6)), (q2, .inl (cI, n1, .inl t_4_7)), (q3, .inr (9, [.ref q4, .ref q5, .int t_4_8, .int t_4_9])), (q4, .inl (cI, n2, .inl t_4_10)), (q5, .inl (cI, n3, .inl t_4_11))] := hD
        refine lv_if_ne (tgt := 56) hx hb dX8_giveAllBack_51 (by decide) (fun c_5 => ?_) (fun c_5 => ?_)
        · replace hm := zz_f c_5 hm
          refine lv_iinc (v := x4 + 1) (lv' := [(4, .int (x4 + 1)), (5, .int r_3), (0, .ref q0), (1, .int x1), (2, .int x2), (3, .int x3)]) hx hb dX8_giveAllBack_56 hl (k := 5) rfl rfl (by decide) rfl (fun ls hl => ?_)
          refine lv_goto (tgt := 3) hx hb dX8_giveAllBack_59 (by decide) ?_
          exact ih x1 x2 x3 (x4 + 1) t_4_0 t_4_1 t_4_2 t_4_3 t_4_4 t_4_5 t_4_6 t_4_7 t_4_8 t_4_9 t_4_10 t_4_11 _ _ _ hm hP hD hS (lv_sub hl [2, 3, 4, 5, 0] rfl)
        · replace hm := zz_t c_5 hm
          refine lv_iconst (v := 2) hx hb dX8_giveAllBack_54 (by decide) ?_
          have hm := Option.some.inj hm
          exact W.iret (v := (2 : Int32)) hx hb hr (fun t ht hW => ⟨⟨(2 : Int32), (t_4_0, t_4_1, t_4_2, t_4_3, t_4_4, t_4_5, t_4_6, t_4_7, t_4_8, t_4_9, t_4_10, t_4_11), rfl, ⟨(congrArg (·.1) hm).symm, (congrArg (·.2) hm).symm⟩, by rw [ht]; exact hP, va_K.moved hW.alike hK, hD⟩, hS.F ht⟩) hS.2.2 dX8_giveAllBack_55
def m_X8_giveAllBack (K : Nat) (n0 : Nat) (n1 : Nat) (n2 : Nat) (n3 : Nat) (p1 : Int32) (p2 : Int32) (p3 : Int32) (s0 : Int32) (s1 : Int32) (s2 : Int32) (s3 : Int32) (s4 : Int32) (s5 : Int32) (s6 : Nat → Int32) (s7 : Nat → Int32) (s8 : Int32) (s9 : Int32) (s10 : Nat → Int32) (s11 : Nat → Int32) : Option (Int32 × Int32 × Int32 × Int32 × Int32 × Int32 × Int32 × (Nat → Int32) × (Nat → Int32) × Int32 × Int32 × (Nat → Int32) × (Nat → Int32)) :=
  m_X8_giveAllBack_L3 K n0 n1 n2 n3 K p1 p2 p3 ((0 : Int32)) s0 s1 s2 s3 s4 s5 s6 s7 s8 s9 s10 s11
set_option maxHeartbeats 4000000 in
set_option maxRecDepth 100000 in
theorem c_X8_giveAllBack (l : Launch) (dC : Nat → ClassId) (dI : Nat → Nat → Nat) (cI cJ cZ : ClassId) (K : Nat) (q0 q1 q2 q3 q4 q5 : Nat) (n0 : Nat) (n1 : Nat) (n2 : Nat) (n3 : Nat) (s0 : Int32) (s1 : Int32) (s2 : Int32) (s3 : Int32) (s4 : Int32) (s5 : Int32) (s6 : Nat → Int32) (s7 : Nat → Int32) (s8 : Int32) (s9 : Int32) (s10 : Nat → Int32) (s11 : Nat → Int32) (p1 : Int32) (p2 : Int32) (p3 : Int32) (sz : Nat) (rv : Int32) (uv : Int32 × Int32 × Int32 × Int32 × Int32 × Int32 × (Nat → Int32) × (Nat → Int32) × Int32 × Int32 × (Nat → Int32) × (Nat → Int32)) (hm : m_X8_giveAllBack K n0 n1 n2 n3 p1 p2 p3 s0 s1 s2 s3 s4 s5 s6 s7 s8 s9 s10 s11 = some (rv, uv)) : Met l yX8_giveAllBack wsX8_giveAllBack rm_X8_giveAllBack (zz_pre dC dI [(cI, .int), (cJ, .long), (cZ, .boolean)] [(q0, .inr (7, [.ref q1, .ref q2, .ref q3, .int s0, .int s1, .int s2, .int s3, .int s4, .int s5])), (q1, .inl (cI, n0, .inl s6)), (q2, .inl (cI, n1, .inl s7)), (q3, .inr (9, [.ref q4, .ref q5, .int s8, .int s9])), (q4, .inl (cI, n2, .inl s10)), (q5, .inl (cI, n3, .inl s11))] sz [.ref q0, .int p1, .int p2, .int p3]) (va_Qi (fun r u => rv = r ∧ uv = u) (fun u t => zz_wo dC dI [(cI, .int), (cJ, .long), (cZ, .boolean)] (va_A [(q0, .inr (7, [.ref q1, .ref q2, .ref q3, .int s0, .int s1, .int s2, .int s3, .int s4, .int s5])), (q1, .inl (cI, n0, .inl s6)), (q2, .inl (cI, n1, .inl s7)), (q3, .inr (9, [.ref q4, .ref q5, .int s8, .int s9])), (q4, .inl (cI, n2, .inl s10)), (q5, .inl (cI, n3, .inl s11))] sz) (ce_X8 cI cJ cZ q0 q1 q2 q3 q4 q5 n0 n1 n2 n3 u) t) (va_A [(q0, .inr (7, [.ref q1, .ref q2, .ref q3, .int s0, .int s1, .int s2, .int s3, .int s4, .int s5])), (q1, .inl (cI, n0, .inl s6)), (q2, .inl (cI, n1, .inl s7)), (q3, .inr (9, [.ref q4, .ref q5, .int s8, .int s9])), (q4, .inl (cI, n2, .inl s10)), (q5, .inl (cI, n3, .inl s11))] sz)) 0 0 (va_A [(q0, .inr (7, [.ref q1, .ref q2, .ref q3, .int s0, .int s1, .int s2, .int s3, .int s4, .int s5])), (q1, .inl (cI, n0, .inl s6)), (q2, .inl (cI, n1, .inl s7)), (q3, .inr (9, [.ref q4, .ref q5, .int s8, .int s9])), (q4, .inl (cI, n2, .inl s10)), (q5, .inl (cI, n3, .inl s11))] sz) := by
  refine Met.ofW (cc := cX8_giveAllBack) (maxL := 6) (ret := (some .int)) (by decide) rfl ?_
  intro p e s m args below meth c s₁ B hml hv
  obtain ⟨rfl, hsz, hP, hK, hD0, hN⟩ := hv
  have hx := B.exec
  have hb := B.bytes
  have hr := B.returns
  have hts := atoms_spec (ws := wsX8_giveAllBack) B.pre
  have hown : s.vm.findClass RX8 = some m.cls := findClass_of_methodNamed B.named
  have hlocks := B.notSynchronized
  have hS0 : CallFix p m c cX8_giveAllBack 6 s #[.ref q0, .int p1, .int p2, .int p3] wsX8_giveAllBack RX8 := ⟨hx, hb, hml, hown, hts⟩
  subst hsz
  have hD := hD0.self (sz := s.heap.size)
  generalize hAe : va_A [(q0, .inr (7, [.ref q1, .ref q2, .ref q3, .int s0, .int s1, .int s2, .int s3, .int s4, .int s5])), (q1, .inl (cI, n0, .inl s6)), (q2, .inl (cI, n1, .inl s7)), (q3, .inr (9, [.ref q4, .ref q5, .int s8, .int s9])), (q4, .inl (cI, n2, .inl s10)), (q5, .inl (cI, n3, .inl s11))] s.heap.size = A at hD ⊢
  have hA : ∀ q : Nat, s.heap.size ≤ q → A q := fun q h => by rw [← hAe]; exact Or.inr h
  have hS : va_S A s.heap s.heap [] := va_S.rf
  have hl := lv_entry ([.ref q0, .int p1, .int p2, .int p3]) (n := 6) (Nat.le_of_ble_eq_true rfl)
  rw [lg_entry_eq]
  generalize (lg_sl ([.ref q0, .int p1, .int p2, .int p3]) ++ List.replicate (6 - (lg_sl ([.ref q0, .int p1, .int p2, .int p3])).length) Slot.unset).toArray = ls at hl ⊢
  have hl : lv_has ls 6 [(0, .ref q0), (1, .int p1), (2, .int p2), (3, .int p3)] := hl
  have inX8 := in_X8_giveAllBack_X8
  have f44 := hts (.fieldLink RX8 44 "RoomForms$Search" "words" "I") (by decide +kernel)
  unfold m_X8_giveAllBack at hm
  refine lv_iconst (v := 0) hx hb dX8_giveAllBack_0 (by decide) ?_
  refine lv_istore (lv' := [(4, .int ((0 : Int32))), (0, .ref q0), (1, .int p1), (2, .int p2), (3, .int p3)]) hx hb dX8_giveAllBack_1 hl (by decide) rfl (fun ls hl => ?_)
  exact w_X8_giveAllBack_L3 dC dI cI cJ cZ K q0 q1 q2 q3 q4 q5 n0 n1 n2 n3 A rv uv hS0 hr hlocks hA hK hN K p1 p2 p3 ((0 : Int32)) s0 s1 s2 s3 s4 s5 s6 s7 s8 s9 s10 s11 _ _ _ hm hP hD hS (lv_sub hl [1, 2, 3, 4, 0] rfl)
abbrev rm_X8_askAll : Room := { frames := 3, cells := 0, slots := 0, locals := 69 }
theorem in_X8_askAll_X8 : ∀ w ∈ wsX80, w ∈ wsX8_askAll := by decide +kernel
def m_X8_askAll_L26 (K : Nat) (n0 : Nat) (n1 : Nat) (n2 : Nat) (n3 : Nat) : Nat → Int32 → Int32 → Int32 → Int32 → Int32 → Int32 → Int32 → Int32 → Int32 → Int32 → Int32 → (Nat → Int32) → (Nat → Int32) → Int32 → Int32 → (Nat → Int32) → (Nat → Int32) → Option (Int32 × Int32 × Int32 × Int32 × Int32 × Int32 × Int32 × (Nat → Int32) × (Nat → Int32) × Int32 × Int32 × (Nat → Int32) × (Nat → Int32))
  | 0, _, _, _, _, _, _, _, _, _, _, _, _, _, _, _, _, _ => none
  | k + 1, x1, x2, x3, x4, x5, s0, s1, s2, s3, s4, s5, s6, s7, s8, s9, s10, s11 =>
    if x4 < x5 then some ((0 : Int32), (s0, s1, s2, s3, s4, s5, s6, s7, s8, s9, s10, s11))
    else ((m_X10_find K n2 n3 s2 x5 x3 s8 s9 s10 s11).bind fun ⟨r_4, t_4_0, t_4_1, t_4_2, t_4_3⟩ => (if r_4 = ((-1 : Int32)) then some ((1 : Int32), (s0, s1, s2, s3, s4, s5, s6, s7, t_4_0, t_4_1, t_4_2, t_4_3))
    else (if s2 = ((1 : Int32)) then ((m_X8_meet K n0 n1 n2 n3 (x1 ||| (((((1 : Int32)) <<< (x5 &&& 31)) - ((1 : Int32))) <<< (r_4 &&& 31))) (x2 ||| (((1 : Int32)) <<< (r_4 &&& 31))) (r_4 + x5) s0 s1 s2 s3 s4 s5 s6 s7 t_4_0 t_4_1 t_4_2 t_4_3).bind fun ⟨r_9, t_9_0, t_9_1, t_9_2, t_9_3, t_9_4, t_9_5, t_9_6, t_9_7, t_9_8, t_9_9, t_9_10, t_9_11⟩ => (if r_9 = 0 then some ((2 : Int32), (t_9_0, t_9_1, t_9_2, t_9_3, t_9_4, t_9_5, t_9_6, t_9_7, t_9_8, t_9_9, t_9_10, t_9_11))
    else m_X8_askAll_L26 K n0 n1 n2 n3 k x1 x2 x3 x4 (x5 + 1) t_9_0 t_9_1 t_9_2 t_9_3 t_9_4 t_9_5 t_9_6 t_9_7 t_9_8 t_9_9 t_9_10 t_9_11))
    else ((m_X8_meet K n0 n1 n2 n3 (x1 ||| (((((1 : Int32)) <<< (x5 &&& 31)) - ((1 : Int32))) <<< (r_4 &&& 31))) (x2 ||| (((1 : Int32)) <<< (r_4 &&& 31))) ((0 : Int32)) s0 s1 s2 s3 s4 s5 s6 s7 t_4_0 t_4_1 t_4_2 t_4_3).bind fun ⟨r_7, t_7_0, t_7_1, t_7_2, t_7_3, t_7_4, t_7_5, t_7_6, t_7_7, t_7_8, t_7_9, t_7_10, t_7_11⟩ => (if r_7 = 0 then some ((2 : Int32), (t_7_0, t_7_1, t_7_2, t_7_3, t_7_4, t_7_5, t_7_6, t_7_7, t_7_8, t_7_9, t_7_10, t_7_11))
    else m_X8_askAll_L26 K n0 n1 n2 n3 k x1 x2 x3 x4 (x5 + 1) t_7_0 t_7_1 t_7_2 t_7_3 t_7_4 t_7_5 t_7_6 t_7_7 t_7_8 t_7_9 t_7_10 t_7_11)))))
theorem m_X8_askAll_L26_s (K : Nat) (n0 : Nat) (n1 : Nat) (n2 : Nat) (n3 : Nat) (k : Nat) (x1 : Int32) (x2 : Int32) (x3 : Int32) (x4 : Int32) (x5 : Int32) (s0 : Int32) (s1 : Int32) (s2 : Int32) (s3 : Int32) (s4 : Int32) (s5 : Int32) (s6 : Nat → Int32) (s7 : Nat → Int32) (s8 : Int32) (s9 : Int32) (s10 : Nat → Int32) (s11 : Nat → Int32) : m_X8_askAll_L26 K n0 n1 n2 n3 (k + 1) x1 x2 x3 x4 x5 s0 s1 s2 s3 s4 s5 s6 s7 s8 s9 s10 s11 =
    (if x4 < x5 then some ((0 : Int32), (s0, s1, s2, s3, s4, s5, s6, s7, s8, s9, s10, s11))
    else ((m_X10_find K n2 n3 s2 x5 x3 s8 s9 s10 s11).bind fun ⟨r_4, t_4_0, t_4_1, t_4_2, t_4_3⟩ => (if r_4 = ((-1 : Int32)) then some ((1 : Int32), (s0, s1, s2, s3, s4, s5, s6, s7, t_4_0, t_4_1, t_4_2, t_4_3))
    else (if s2 = ((1 : Int32)) then ((m_X8_meet K n0 n1 n2 n3 (x1 ||| (((((1 : Int32)) <<< (x5 &&& 31)) - ((1 : Int32))) <<< (r_4 &&& 31))) (x2 ||| (((1 : Int32)) <<< (r_4 &&& 31))) (r_4 + x5) s0 s1 s2 s3 s4 s5 s6 s7 t_4_0 t_4_1 t_4_2 t_4_3).bind fun ⟨r_9, t_9_0, t_9_1, t_9_2, t_9_3, t_9_4, t_9_5, t_9_6, t_9_7, t_9_8, t_9_9, t_9_10, t_9_11⟩ => (if r_9 = 0 then some ((2 : Int32), (t_9_0, t_9_1, t_9_2, t_9_3, t_9_4, t_9_5, t_9_6, t_9_7, t_9_8, t_9_9, t_9_10, t_9_11))
    else m_X8_askAll_L26 K n0 n1 n2 n3 k x1 x2 x3 x4 (x5 + 1) t_9_0 t_9_1 t_9_2 t_9_3 t_9_4 t_9_5 t_9_6 t_9_7 t_9_8 t_9_9 t_9_10 t_9_11))
    else ((m_X8_meet K n0 n1 n2 n3 (x1 ||| (((((1 : Int32)) <<< (x5 &&& 31)) - ((1 : Int32))) <<< (r_4 &&& 31))) (x2 ||| (((1 : Int32)) <<< (r_4 &&& 31))) ((0 : Int32)) s0 s1 s2 s3 s4 s5 s6 s7 t_4_0 t_4_1 t_4_2 t_4_3).bind fun ⟨r_7, t_7_0, t_7_1, t_7_2, t_7_3, t_7_4, t_7_5, t_7_6, t_7_7, t_7_8, t_7_9, t_7_10, t_7_11⟩ => (if r_7 = 0 then some ((2 : Int32), (t_7_0, t_7_1, t_7_2, t_7_3, t_7_4, t_7_5, t_7_6, t_7_7, t_7_8, t_7_9, t_7_10, t_7_11))
    else m_X8_askAll_L26 K n0 n1 n2 n3 k x1 x2 x3 x4 (x5 + 1) t_7_0 t_7_1 t_7_2 t_7_3 t_7_4 t_7_5 t_7_6 t_7_7 t_7_8 t_7_9 t_7_10 t_7_11)))))) := rfl
set_option maxHeartbeats 4000000 in
set_option maxRecDepth 100000 in
theorem w_X8_askAll_L26 {p : Program} {l : Launch} {e : Env} {s : State} {m : MethodId} {args : Array Value} {below : List Frame} {meth : Method} {c : Code} (dC : Nat → ClassId) (dI : Nat → Nat → Nat) (cI cJ cZ : ClassId) (K : Nat) (q0 q1 q2 q3 q4 q5 : Nat) (n0 : Nat) (n1 : Nat) (n2 : Nat) (n3 : Nat) (A : Nat → Prop) (rv : Int32) (uv : Int32 × Int32 × Int32 × Int32 × Int32 × Int32 × (Nat → Int32) × (Nat → Int32) × Int32 × Int32 × (Nat → Int32) × (Nat → Int32)) (hS0 : CallFix p m c cX8_askAll 9 s args wsX8_askAll RX8) (hr : meth.sig.returnType = (some .int)) (hlocks : meth.locks = false) (hA : ∀ q : Nat, s.heap.size ≤ q → A q) (hK : va_K (dC, dI) vwCl [(cI, .int), (cJ, .long), (cZ, .boolean)] s) (hN : zz_nw s) : ∀ (k : Nat) (x1 : Int32) (x2 : Int32) (x3 : Int32) (x4 : Int32) (x5 : Int32) (s0 : Int32) (s1 : Int32) (s2 : Int32) (s3 : Int32) (s4 : Int32) (s5 : Int32) (s6 : Nat → Int32) (s7 : Nat → Int32) (s8 : Int32) (s9 : Int32) (s10 : Nat → Int32) (s11 : Nat → Int32) (H : Heap) (locs : List Loc) (ls : Array Slot), m_X8_askAll_L26 K n0 n1 n2 n3 k x1 x2 x3 x4 x5 s0 s1 s2 s3 s4 s5 s6 s7 s8 s9 s10 s11 = some (rv, uv) → va_P (dC, dI) vwCl [(q0, .inr (7, [.ref q1, .ref q2, .ref q3, .int s0, .int s1, .int s2, .int s3, .int s4, .int s5])), (q1, .inl (cI, n0, .inl s6)), (q2, .inl (cI, n1, .inl s7)), (q3, .inr (9, [.ref q4, .ref q5, .int s8, .int s9])), (q4, .inl (cI, n2, .inl s10)), (q5, .inl (cI, n3, .inl s11))] H → va_D A [(q0, .inr (7, [.ref q1, .ref q2, .ref q3, .int s0, .int s1, .int s2, .int s3, .int s4, .int s5])), (q1, .inl (cI, n0, .inl s6)), (q2, .inl (cI, n1, .inl s7)), (q3, .inr (9, [.ref q4, .ref q5, .int s8, .int s9])), (q4, .inl (cI, n2, .inl s10)), (q5, .inl (cI, n3, .inl s11))] → va_S A s.heap H locs → lv_has ls 9 [(0, .ref q0), (1, .int x1), (2, .int x2), (3, .int x3), (4, .int x4), (5, .int x5)] → W p l e rm_X8_askAll s m args below meth c H locs 0 0 (MQ below (va_Qi (fun r u => rv = r ∧ uv = u) (fun u t => zz_wo dC dI [(cI, .int), (cJ, .long), (cZ, .boolean)] A (ce_X8 cI cJ cZ q0 q1 q2 q3 q4 q5 n0 n1 n2 n3 u) t) A) args s 0 0 A) (F0 m 26 ls []) := by
  obtain ⟨hx, hb, hml, hown, hts⟩ := id hS0
  have inX8 := in_X8_askAll_X8
  have f24 := hts (.fieldLink RX8 24 "RoomForms$Search" "runs" "LRoomForms$Stretches;") (by decide +kernel)
  have f35 := hts (.fieldLink RX8 35 "RoomForms$Search" "form" "I") (by decide +kernel)
  have f38 := hts (.fieldLink RX8 38 "RoomForms$Search" "most" "I") (by decide +kernel)
  have f41 := hts (.fieldLink RX8 41 "RoomForms$Search" "live" "I") (by decide +kernel)
  intro k
  induction k with
  | zero =>
    intro _ _ _ _ _ _ _ _ _ _ _ _ _ _ _ _ _ _ _ _ hm
    have hm9 : (none : Option (Int32 × Int32 × Int32 × Int32 × Int32 × Int32 × Int32 × (Nat → Int32) × (Nat → Int32) × Int32 × Int32 × (Nat → Int32) × (Nat → Int32))) = some _ := hm
    cases hm9
  | succ k ih =>
    intro x1 x2 x3 x4 x5 s0 s1 s2 s3 s4 s5 s6 s7 s8 s9 s10 s11 H locs ls hm hP hD hS hl
    rw [m_X8_askAll_L26_s] at hm
    refine lv_iload hx hb dX8_askAll_26 (lv_at hl 5 rfl) ?_
    refine lv_iload hx hb dX8_askAll_28 (lv_at hl 4 rfl) ?_
    refine lv_icmp_gt (tgt := 114) hx hb dX8_askAll_30 (by decide) (fun c_3 => ?_) (fun c_3 => ?_)
    · replace hm := zz_t c_3 hm
      refine lv_iconst (v := 0) hx hb dX8_askAll_114 (by decide) ?_
      have hm := Option.some.inj hm
      exact W.iret (v := (0 : Int32)) hx hb hr (fun t ht hW => ⟨⟨(0 : Int32), (s0, s1, s2, s3, s4, s5, s6, s7, s8, s9, s10, s11), rfl, ⟨(congrArg (·.1) hm).symm, (congrArg (·.2) hm).symm⟩, by rw [ht]; exact hP, va_K.moved hW.alike hK, hD⟩, hS.F ht⟩) hS.2.2 dX8_askAll_115
    · replace hm := zz_f c_3 hm
      refine lv_aload_n hx hb dX8_askAll_33 rfl (lv_at hl 0 rfl) ?_
      refine va_get (D := (dC, dI)) (ci := 7) (v := .ref q3) (C := RX8) (T := TX8) (N := 9) hx hb hts inX8 hown hK hP 0 rfl rfl 2 (by decide) f24 (fun _ h9 => h9) rfl dX8_askAll_34 ?_
      refine lv_aload_n hx hb dX8_askAll_37 rfl (lv_at hl 0 rfl) ?_
      refine va_get (D := (dC, dI)) (ci := 7) (v := .int s2) (C := RX8) (T := TX8) (N := 9) hx hb hts inX8 hown hK hP 0 rfl rfl 5 (by decide) f35 (fun _ h9 => h9) rfl dX8_askAll_38 ?_
      refine lv_iload hx hb dX8_askAll_41 (lv_at hl 5 rfl) ?_
      refine lv_iload_n hx hb dX8_askAll_43 rfl (lv_at hl 3 rfl) ?_
      obtain ⟨⟨r_4, t_4_0, t_4_1, t_4_2, t_4_3⟩, hc_4, hm⟩ := zz_bind hm
      have hPc := hP.sub (ws' := [(q3, .inr (9, [.ref q4, .ref q5, .int s8, .int s9])), (q4, .inl (cI, n2, .inl s10)), (q5, .inl (cI, n3, .inl s11))]) [3, 4, 5] rfl
      have hDc := hD.sub (ws' := [(q3, .inr (9, [.ref q4, .ref q5, .int s8, .int s9])), (q4, .inl (cI, n2, .inl s10)), (q5, .inl (cI, n3, .inl s11))]) [3, 4, 5] (by decide) rfl
      have hFc := va_free (wc := [(q3, .inr (9, [.ref q4, .ref q5, .int s8, .int s9])), (q4, .inl (cI, n2, .inl s10)), (q5, .inl (cI, n3, .inl s11))]) hD hS hA [3, 4, 5] rfl
      refine va_calli (va_runV (As := [.int s2, .int x5, .int x3]) (rest := []) hS0 (c_X10_find l dC dI cI cJ cZ K q3 q4 q5 n2 n3 s8 s9 s10 s11 s2 x5 x3 _ r_4 (t_4_0, t_4_1, t_4_2, t_4_3) hc_4) (cwV 3 hts gX8_askAll_X10_find rfl rfl rfl (by decide +kernel) ⟨Nat.le_of_ble_eq_true rfl, Nat.le_of_ble_eq_true rfl⟩) (zz_pv hK hPc hDc hN (va_recv hK hPc (ci := 9) (q0 := 0) rfl rfl)) rfl rfl hl.1 rfl (lv_room (Nat.le_of_ble_eq_true rfl)) dX8_askAll_44 ⟨Nat.zero_le _, Nat.zero_le _⟩) hS (fun q _ h => hFc q h) hFc (fun r u t H1 locs ht hvm hw hB hz1 hk1 hS => ?_)
      obtain ⟨rfl, rfl⟩ := hw
      obtain ⟨hP1, hK1, hD1⟩ := hB
      rw [ht] at hP1
      obtain ⟨hP, hD⟩ := va_join (wr := [(q0, .inr (7, [.ref q1, .ref q2, .ref q3, .int s0, .int s1, .int s2, .int s3, .int s4, .int s5])), (q1, .inl (cI, n0, .inl s6)), (q2, .inl (cI, n1, .inl s7))]) (w1 := [(q3, .inr (9, [.ref q4, .ref q5, .int t_4_0, .int t_4_1])), (q4, .inl (cI, n2, .inl t_4_2)), (q5, .inl (cI, n3, .inl t_4_3))]) hP hD [3, 4, 5] [0, 1, 2] rfl rfl (by decide) (by decide) hk1 hFc hP1 hD1
      have hP : va_P (dC, dI) vwCl [(q0, .inr (7, [.ref q1, .ref q2, .ref q3, .int s0, .int s1, .int s2, .int s3, .int s4, .int s5])), (q1, .inl (cI, n0, .inl s6)), (q2, .inl (cI, n1, .inl s7)), (q3, .inr (9, [.ref q4, .ref q5, .int t_4_0, .int t_4_1])), (q4, .inl (cI, n2, .inl t_4_2)), (q5, .inl (cI, n3, .inl t_4_3))] _ := hP
      have hD : va_D A [(q0, .inr (7, [.ref q1, .ref q2, .ref q3, .int s0, .int s1, .int s2, .int s3, .int s4, .int s5])), (q1, .inl (cI, n0, .inl s6)), (q2, .inl (cI, n1, .inl s7)), (q3, .inr (9, [.ref q4, .ref q5, .int t_4_0, .int t_4_1])), (q4, .inl (cI, n2, .inl t_4_2)), (q5, .inl (cI, n3, .inl t_4_3))] := hD
      refine lv_istore (lv' := [(6, .int r_4), (0, .ref q0), (1, .int x1), (2, .int x2), (3, .int x3), (4, .int x4), (5, .int x5)]) hx hb dX8_askAll_47 hl (by decide) rfl (fun ls hl => ?_)
      refine lv_iload hx hb dX8_askAll_49 (lv_at hl 0 rfl) ?_
      refine lv_iconst (v := (-1)) hx hb dX8_askAll_51 (by decide) ?_
      refine lv_icmp_ne (tgt := 57) hx hb dX8_askAll_52 (by decide) (fun c_5 => ?_) (fun c_5 => ?_)
      · replace hm := zz_f c_5 hm
        refine lv_iconst (v := 1) hx hb dX8_askAll_57 (by decide) ?_
        refine lv_iload hx hb dX8_askAll_58 (lv_at hl 6 rfl) ?_
        refine lv_ishl hx hb dX8_askAll_60 ?_
        refine lv_iconst (v := 1) hx hb dX8_askAll_61 (by decide) ?_
        refine lv_isub hx hb dX8_askAll_62 ?_
        refine lv_iload hx hb dX8_askAll_63 (lv_at hl 0 rfl) ?_
        refine lv_ishl hx hb dX8_askAll_65 ?_
        refine lv_istore (lv' := [(7, .int (((((1 : Int32)) <<< (x5 &&& 31)) - ((1 : Int32))) <<< (r_4 &&& 31))), (6, .int r_4), (0, .ref q0), (1, .int x1), (2, .int x2), (3, .int x3), (4, .int x4), (5, .int x5)]) hx hb dX8_askAll_66 hl (by decide) rfl (fun ls hl => ?_)
        refine lv_aload_n hx hb dX8_askAll_68 rfl (lv_at hl 2 rfl) ?_
        refine va_get (D := (dC, dI)) (ci := 7) (v := .int s2) (C := RX8) (T := TX8) (N := 9) hx hb hts inX8 hown hK hP 0 rfl rfl 5 (by decide) f35 (fun _ h9 => h9) rfl dX8_askAll_69 ?_
        refine lv_iconst (v := 1) hx hb dX8_askAll_72 (by decide) ?_
        refine lv_icmp_ne (tgt := 84) hx hb dX8_askAll_73 (by decide) (fun c_6 => ?_) (fun c_6 => ?_)
        · replace hm := zz_f c_6 hm
          refine lv_iconst (v := 0) hx hb dX8_askAll_84 (by decide) ?_
          refine lv_istore (lv' := [(8, .int ((0 : Int32))), (7, .int (((((1 : Int32)) <<< (x5 &&& 31)) - ((1 : Int32))) <<< (r_4 &&& 31))), (6, .int r_4), (0, .ref q0), (1, .int x1), (2, .int x2), (3, .int x3), (4, .int x4), (5, .int x5)]) hx hb dX8_askAll_85 hl (by decide) rfl (fun ls hl => ?_)
          refine lv_aload_n hx hb dX8_askAll_87 rfl (lv_at hl 3 rfl) ?_
          refine lv_iload_n hx hb dX8_askAll_88 rfl (lv_at hl 4 rfl) ?_
          refine lv_iload hx hb dX8_askAll_89 (lv_at hl 1 rfl) ?_
          refine lv_ior hx hb dX8_askAll_91 ?_
          refine lv_iload_n hx hb dX8_askAll_92 rfl (lv_at hl 5 rfl) ?_
          refine lv_iconst (v := 1) hx hb dX8_askAll_93 (by decide) ?_
          refine lv_iload hx hb dX8_askAll_94 (lv_at hl 2 rfl) ?_
          refine lv_ishl hx hb dX8_askAll_96 ?_
          refine lv_ior hx hb dX8_askAll_97 ?_
          refine lv_iload hx hb dX8_askAll_98 (lv_at hl 0 rfl) ?_
          obtain ⟨⟨r_7, t_7_0, t_7_1, t_7_2, t_7_3, t_7_4, t_7_5, t_7_6, t_7_7, t_7_8, t_7_9, t_7_10, t_7_11⟩, hc_7, hm⟩ := zz_bind hm
          have hPc := hP.sub (ws' := [(q0, .inr (7, [.ref q1, .ref q2, .ref q3, .int s0, .int s1, .int s2, .int s3, .int s4, .int s5])), (q1, .inl (cI, n0, .inl s6)), (q2, .inl (cI, n1, .inl s7)), (q3, .inr (9, [.ref q4, .ref q5, .int t_4_0, .int t_4_1])), (q4, .inl (cI, n2, .inl t_4_2)), (q5, .inl (cI, n3, .inl t_4_3))]) [0, 1, 2, 3, 4, 5] rfl
          have hDc := hD.sub (ws' := [(q0, .inr (7, [.ref q1, .ref q2, .ref q3, .int s0, .int s1, .int s2, .int s3, .int s4, .int s5])), (q1, .inl (cI, n0, .inl s6)), (q2, .inl (cI, n1, .inl s7)), (q3, .inr (9, [.ref q4, .ref q5, .int t_4_0, .int t_4_1])), (q4, .inl (cI, n2, .inl t_4_2)), (q5, .inl (cI, n3, .inl t_4_3))]) [0, 1, 2, 3, 4, 5] (by decide) rfl
          have hFc := va_free (wc := [(q0, .inr (7, [.ref q1, .ref q2, .ref q3, .int s0, .int s1, .int s2, .int s3, .int s4, .int s5])), (q1, .inl (cI, n0, .inl s6)), (q2, .inl (cI, n1, .inl s7)), (q3, .inr (9, [.ref q4, .ref q5, .int t_4_0, .int t_4_1])), (q4, .inl (cI, n2, .inl t_4_2)), (q5, .inl (cI, n3, .inl t_4_3))]) hD hS hA [0, 1, 2, 3, 4, 5] rfl
          refine va_calli (va_runV (As := [.int (x1 ||| (((((1 : Int32)) <<< (x5 &&& 31)) - ((1 : Int32))) <<< (r_4 &&& 31))), .int (x2 ||| (((1 : Int32)) <<< (r_4 &&& 31))), .int ((0 : Int32))]) (rest := []) hS0 (c_X8_meet l dC dI cI cJ cZ K q0 q1 q2 q3 q4 q5 n0 n1 n2 n3 s0 s1 s2 s3 s4 s5 s6 s7 t_4_0 t_4_1 t_4_2 t_4_3 (x1 ||| (((((1 : Int32)) <<< (x5 &&& 31)) - ((1 : Int32))) <<< (r_4 &&& 31))) (x2 ||| (((1 : Int32)) <<< (r_4 &&& 31))) ((0 : Int32)) _ r_7 (t_7_0, t_7_1, t_7_2, t_7_3, t_7_4, t_7_5, t_7_6, t_7_7, t_7_8, t_7_9, t_7_10, t_7_11) hc_7) (cwV 3 hts gX8_askAll_X8_meet rfl rfl rfl (by decide +kernel) ⟨Nat.le_of_ble_eq_true rfl, Nat.le_of_ble_eq_true rfl⟩) (zz_pv hK hPc hDc hN (va_recv hK hPc (ci := 7) (q0 := 0) rfl rfl)) rfl rfl hl.1 rfl (lv_room (Nat.le_of_ble_eq_true rfl)) dX8_askAll_100 ⟨Nat.zero_le _, Nat.zero_le _⟩) hS (fun q _ h => hFc q h) hFc (fun r u t H1 locs ht hvm hw hB hz1 hk1 hS => ?_)
          obtain ⟨rfl, rfl⟩ := hw
          obtain ⟨hP1, hK1, hD1⟩ := hB
          rw [ht] at hP1
          obtain ⟨hP, hD⟩ := va_join (wr := []) (w1 := [(q0, .inr (7, [.ref q1, .ref q2, .ref q3, .int t_7_0, .int t_7_1, .int t_7_2, .int t_7_3, .int t_7_4, .int t_7_5])), (q1, .inl (cI, n0, .inl t_7_6)), (q2, .inl (cI, n1, .inl t_7_7)), (q3, .inr (9, [.ref q4, .ref q5, .int t_7_8, .int t_7_9])), (q4, .inl (cI, n2, .inl t_7_10)), (q5, .inl (cI, n3, .inl t_7_11))]) hP hD [0, 1, 2, 3, 4, 5] [] rfl rfl (by decide) (by decide) hk1 hFc hP1 hD1
          have hP : va_P (dC, dI) vwCl [(q0, .inr (7, [.ref q1, .ref q2, .ref q3, .int t_7_0, .int t_7_1, .int t_7_2, .int t_7_3, .int t_7_4, .int t_7_5])), (q1, .inl (cI, n0, .inl t_7_6)), (q2, .inl (cI, n1, .inl t_7_7)), (q3, .inr (9, [.ref q4, .ref q5, .int t_7_8, .int t_7_9])), (q4, .inl (cI, n2, .inl t_7_10)), (q5, .inl (cI, n3, .inl t_7_11))] _ := hP
          have hD : va_D A [(q0, .inr (7, [.ref q1, .ref q2, .ref q3, .int t_7_0, .int t_7_1, .int t_7_2, .int t_7_3, .int t_7_4, .int t_7_5])), (q1, .inl (cI, n0, .inl t_7_6)), (q2, .inl (cI, n1, .inl t_7_7)), (q3, .inr (9, [.ref q4, .ref q5, .int t_7_8, .int t_7_9])), (q4, .inl (cI, n2, .inl t_7_10)), (q5, .inl (cI, n3, .inl t_7_11))] := hD
          refine lv_if_ne (tgt := 108) hx hb dX8_askAll_103 (by decide) (fun c_8 => ?_) (fun c_8 => ?_)
          · replace hm := zz_f c_8 hm
            refine lv_iinc (v := x5 + 1) (lv' := [(5, .int (x5 + 1)), (8, .int ((0 : Int32))), (7, .int (((((1 : Int32)) <<< (x5 &&& 31)) - ((1 : Int32))) <<< (r_4 &&& 31))), (6, .int r_4), (0, .ref q0), (1, .int x1), (2, .int x2), (3, .int x3), (4, .int x4)]) hx hb dX8_askAll_108 hl (k := 8) rfl rfl (by decide) rfl (fun ls hl => ?_)
            refine lv_goto (tgt := 26) hx hb dX8_askAll_111 (by decide) ?_
            exact ih x1 x2 x3 x4 (x5 + 1) t_7_0 t_7_1 t_7_2 t_7_3 t_7_4 t_7_5 t_7_6 t_7_7 t_7_8 t_7_9 t_7_10 t_7_11 _ _ _ hm hP hD hS (lv_sub hl [4, 5, 6, 7, 8, 0] rfl)
          · replace hm := zz_t c_8 hm
            refine lv_iconst (v := 2) hx hb dX8_askAll_106 (by decide) ?_
            have hm := Option.some.inj hm
            exact W.iret (v := (2 : Int32)) hx hb hr (fun t ht hW => ⟨⟨(2 : Int32), (t_7_0, t_7_1, t_7_2, t_7_3, t_7_4, t_7_5, t_7_6, t_7_7, t_7_8, t_7_9, t_7_10, t_7_11), rfl, ⟨(congrArg (·.1) hm).symm, (congrArg (·.2) hm).symm⟩, by rw [ht]; exact hP, va_K.moved hW.alike hK, hD⟩, hS.F ht⟩) hS.2.2 dX8_askAll_107
        · replace hm := zz_t c_6 hm
          refine lv_iload hx hb dX8_askAll_76 (lv_at hl 1 rfl) ?_
          refine lv_iload hx hb dX8_askAll_78 (lv_at hl 7 rfl) ?_
          refine lv_iadd hx hb dX8_askAll_80 ?_
          refine lv_goto (tgt := 85) hx hb dX8_askAll_81 (by decide) ?_
          refine lv_istore (lv' := [(8, .int (r_4 + x5)), (7, .int (((((1 : Int32)) <<< (x5 &&& 31)) - ((1 : Int32))) <<< (r_4 &&& 31))), (6, .int r_4), (0, .ref q0), (1, .int x1), (2, .int x2), (3, .int x3), (4, .int x4), (5, .int x5)]) hx hb dX8_askAll_85 hl (by decide) rfl (fun ls hl => ?_)
          refine lv_aload_n hx hb dX8_askAll_87 rfl (lv_at hl 3 rfl) ?_
          refine lv_iload_n hx hb dX8_askAll_88 rfl (lv_at hl 4 rfl) ?_
          refine lv_iload hx hb dX8_askAll_89 (lv_at hl 1 rfl) ?_
          refine lv_ior hx hb dX8_askAll_91 ?_
          refine lv_iload_n hx hb dX8_askAll_92 rfl (lv_at hl 5 rfl) ?_
          refine lv_iconst (v := 1) hx hb dX8_askAll_93 (by decide) ?_
          refine lv_iload hx hb dX8_askAll_94 (lv_at hl 2 rfl) ?_
          refine lv_ishl hx hb dX8_askAll_96 ?_
          refine lv_ior hx hb dX8_askAll_97 ?_
          refine lv_iload hx hb dX8_askAll_98 (lv_at hl 0 rfl) ?_
          obtain ⟨⟨r_9, t_9_0, t_9_1, t_9_2, t_9_3, t_9_4, t_9_5, t_9_6, t_9_7, t_9_8, t_9_9, t_9_10, t_9_11⟩, hc_9, hm⟩ := zz_bind hm
          have hPc := hP.sub (ws' := [(q0, .inr (7, [.ref q1, .ref q2, .ref q3, .int s0, .int s1, .int s2, .int s3, .int s4, .int s5])), (q1, .inl (cI, n0, .inl s6)), (q2, .inl (cI, n1, .inl s7)), (q3, .inr (9, [.ref q4, .ref q5, .int t_4_0, .int t_4_1])), (q4, .inl (cI, n2, .inl t_4_2)), (q5, .inl (cI, n3, .inl t_4_3))]) [0, 1, 2, 3, 4, 5] rfl
          have hDc := hD.sub (ws' := [(q0, .inr (7, [.ref q1, .ref q2, .ref q3, .int s0, .int s1, .int s2, .int s3, .int s4, .int s5])), (q1, .inl (cI, n0, .inl s6)), (q2, .inl (cI, n1, .inl s7)), (q3, .inr (9, [.ref q4, .ref q5, .int t_4_0, .int t_4_1])), (q4, .inl (cI, n2, .inl t_4_2)), (q5, .inl (cI, n3, .inl t_4_3))]) [0, 1, 2, 3, 4, 5] (by decide) rfl
          have hFc := va_free (wc := [(q0, .inr (7, [.ref q1, .ref q2, .ref q3, .int s0, .int s1, .int s2, .int s3, .int s4, .int s5])), (q1, .inl (cI, n0, .inl s6)), (q2, .inl (cI, n1, .inl s7)), (q3, .inr (9, [.ref q4, .ref q5, .int t_4_0, .int t_4_1])), (q4, .inl (cI, n2, .inl t_4_2)), (q5, .inl (cI, n3, .inl t_4_3))]) hD hS hA [0, 1, 2, 3, 4, 5] rfl
          refine va_calli (va_runV (As := [.int (x1 ||| (((((1 : Int32)) <<< (x5 &&& 31)) - ((1 : Int32))) <<< (r_4 &&& 31))), .int (x2 ||| (((1 : Int32)) <<< (r_4 &&& 31))), .int (r_4 + x5)]) (rest := []) hS0 (c_X8_meet l dC dI cI cJ cZ K q0 q1 q2 q3 q4 q5 n0 n1 n2 n3 s0 s1 s2 s3 s4 s5 s6 s7 t_4_0 t_4_1 t_4_2 t_4_3 (x1 ||| (((((1 : Int32)) <<< (x5 &&& 31)) - ((1 : Int32))) <<< (r_4 &&& 31))) (x2 ||| (((1 : Int32)) <<< (r_4 &&& 31))) (r_4 + x5) _ r_9 (t_9_0, t_9_1, t_9_2, t_9_3, t_9_4, t_9_5, t_9_6, t_9_7, t_9_8, t_9_9, t_9_10, t_9_11) hc_9) (cwV 3 hts gX8_askAll_X8_meet rfl rfl rfl (by decide +kernel) ⟨Nat.le_of_ble_eq_true rfl, Nat.le_of_ble_eq_true rfl⟩) (zz_pv hK hPc hDc hN (va_recv hK hPc (ci := 7) (q0 := 0) rfl rfl)) rfl rfl hl.1 rfl (lv_room (Nat.le_of_ble_eq_true rfl)) dX8_askAll_100 ⟨Nat.zero_le _, Nat.zero_le _⟩) hS (fun q _ h => hFc q h) hFc (fun r u t H1 locs ht hvm hw hB hz1 hk1 hS => ?_)
          obtain ⟨rfl, rfl⟩ := hw
          obtain ⟨hP1, hK1, hD1⟩ := hB
          rw [ht] at hP1
          obtain ⟨hP, hD⟩ := va_join (wr := []) (w1 := [(q0, .inr (7, [.ref q1, .ref q2, .ref q3, .int t_9_0, .int t_9_1, .int t_9_2, .int t_9_3, .int t_9_4, .int t_9_5])), (q1, .inl (cI, n0, .inl t_9_6)), (q2, .inl (cI, n1, .inl t_9_7)), (q3, .inr (9, [.ref q4, .ref q5, .int t_9_8, .int t_9_9])), (q4, .inl (cI, n2, .inl t_9_10)), (q5, .inl (cI, n3, .inl t_9_11))]) hP hD [0, 1, 2, 3, 4, 5] [] rfl rfl (by decide) (by decide) hk1 hFc hP1 hD1
          have hP : va_P (dC, dI) vwCl [(q0, .inr (7, [.ref q1, .ref q2, .ref q3, .int t_9_0, .int t_9_1, .int t_9_2, .int t_9_3, .int t_9_4, .int t_9_5])), (q1, .inl (cI, n0, .inl t_9_6)), (q2, .inl (cI, n1, .inl t_9_7)), (q3, .inr (9, [.ref q4, .ref q5, .int t_9_8, .int t_9_9])), (q4, .inl (cI, n2, .inl t_9_10)), (q5, .inl (cI, n3, .inl t_9_11))] _ := hP
          have hD : va_D A [(q0, .inr (7, [.ref q1, .ref q2, .ref q3, .int t_9_0, .int t_9_1, .int t_9_2, .int t_9_3, .int t_9_4, .int t_9_5])), (q1, .inl (cI, n0, .inl t_9_6)), (q2, .inl (cI, n1, .inl t_9_7)), (q3, .inr (9, [.ref q4, .ref q5, .int t_9_8, .int t_9_9])), (q4, .inl (cI, n2, .inl t_9_10)), (q5, .inl (cI, n3, .inl t_9_11))] := hD
          refine lv_if_ne (tgt := 108) hx hb dX8_askAll_103 (by decide) (fun c_10 => ?_) (fun c_10 => ?_)
          · replace hm := zz_f c_10 hm
            refine lv_iinc (v := x5 + 1) (lv' := [(5, .int (x5 + 1)), (8, .int (r_4 + x5)), (7, .int (((((1 : Int32)) <<< (x5 &&& 31)) - ((1 : Int32))) <<< (r_4 &&& 31))), (6, .int r_4), (0, .ref q0), (1, .int x1), (2, .int x2), (3, .int x3), (4, .int x4)]) hx hb dX8_askAll_108 hl (k := 8) rfl rfl (by decide) rfl (fun ls hl => ?_)
            refine lv_goto (tgt := 26) hx hb dX8_askAll_111 (by decide) ?_
            exact ih x1 x2 x3 x4 (x5 + 1) t_9_0 t_9_1 t_9_2 t_9_3 t_9_4 t_9_5 t_9_6 t_9_7 t_9_8 t_9_9 t_9_10 t_9_11 _ _ _ hm hP hD hS (lv_sub hl [4, 5, 6, 7, 8, 0] rfl)
          · replace hm := zz_t c_10 hm
            refine lv_iconst (v := 2) hx hb dX8_askAll_106 (by decide) ?_
            have hm := Option.some.inj hm
            exact W.iret (v := (2 : Int32)) hx hb hr (fun t ht hW => ⟨⟨(2 : Int32), (t_9_0, t_9_1, t_9_2, t_9_3, t_9_4, t_9_5, t_9_6, t_9_7, t_9_8, t_9_9, t_9_10, t_9_11), rfl, ⟨(congrArg (·.1) hm).symm, (congrArg (·.2) hm).symm⟩, by rw [ht]; exact hP, va_K.moved hW.alike hK, hD⟩, hS.F ht⟩) hS.2.2 dX8_askAll_107
      · replace hm := zz_t c_5 hm
        refine lv_iconst (v := 1) hx hb dX8_askAll_55 (by decide) ?_
        have hm := Option.some.inj hm
        exact W.iret (v := (1 : Int32)) hx hb hr (fun t ht hW => ⟨⟨(1 : Int32), (s0, s1, s2, s3, s4, s5, s6, s7, t_4_0, t_4_1, t_4_2, t_4_3), rfl, ⟨(congrArg (·.1) hm).symm, (congrArg (·.2) hm).symm⟩, by rw [ht]; exact hP, va_K.moved hW.alike hK, hD⟩, hS.F ht⟩) hS.2.2 dX8_askAll_56
def m_X8_askAll (K : Nat) (n0 : Nat) (n1 : Nat) (n2 : Nat) (n3 : Nat) (p1 : Int32) (p2 : Int32) (p3 : Int32) (s0 : Int32) (s1 : Int32) (s2 : Int32) (s3 : Int32) (s4 : Int32) (s5 : Int32) (s6 : Nat → Int32) (s7 : Nat → Int32) (s8 : Int32) (s9 : Int32) (s10 : Nat → Int32) (s11 : Nat → Int32) : Option (Int32 × Int32 × Int32 × Int32 × Int32 × Int32 × Int32 × (Nat → Int32) × (Nat → Int32) × Int32 × Int32 × (Nat → Int32) × (Nat → Int32)) :=
  (m_X8_listRuns K n0 n1 n2 n3 p1 s0 s1 s2 s3 s4 s5 s6 s7 s8 s9 s10 s11).bind fun ⟨t_1_0, t_1_1, t_1_2, t_1_3, t_1_4, t_1_5, t_1_6, t_1_7, t_1_8, t_1_9, t_1_10, t_1_11⟩ => (m_J6_bitCount_0f7a4 K p1).bind fun ⟨r_2, _⟩ => m_X8_askAll_L26 K n0 n1 n2 n3 K p1 p2 p3 (zz_min t_1_3 (t_1_4 - r_2)) ((1 : Int32)) t_1_0 t_1_1 t_1_2 t_1_3 t_1_4 t_1_5 t_1_6 t_1_7 t_1_8 t_1_9 t_1_10 t_1_11
set_option maxHeartbeats 4000000 in
set_option maxRecDepth 100000 in
theorem c_X8_askAll (l : Launch) (dC : Nat → ClassId) (dI : Nat → Nat → Nat) (cI cJ cZ : ClassId) (K : Nat) (q0 q1 q2 q3 q4 q5 : Nat) (n0 : Nat) (n1 : Nat) (n2 : Nat) (n3 : Nat) (s0 : Int32) (s1 : Int32) (s2 : Int32) (s3 : Int32) (s4 : Int32) (s5 : Int32) (s6 : Nat → Int32) (s7 : Nat → Int32) (s8 : Int32) (s9 : Int32) (s10 : Nat → Int32) (s11 : Nat → Int32) (p1 : Int32) (p2 : Int32) (p3 : Int32) (sz : Nat) (rv : Int32) (uv : Int32 × Int32 × Int32 × Int32 × Int32 × Int32 × (Nat → Int32) × (Nat → Int32) × Int32 × Int32 × (Nat → Int32) × (Nat → Int32)) (hm : m_X8_askAll K n0 n1 n2 n3 p1 p2 p3 s0 s1 s2 s3 s4 s5 s6 s7 s8 s9 s10 s11 = some (rv, uv)) : Met l yX8_askAll wsX8_askAll rm_X8_askAll (zz_pre dC dI [(cI, .int), (cJ, .long), (cZ, .boolean)] [(q0, .inr (7, [.ref q1, .ref q2, .ref q3, .int s0, .int s1, .int s2, .int s3, .int s4, .int s5])), (q1, .inl (cI, n0, .inl s6)), (q2, .inl (cI, n1, .inl s7)), (q3, .inr (9, [.ref q4, .ref q5, .int s8, .int s9])), (q4, .inl (cI, n2, .inl s10)), (q5, .inl (cI, n3, .inl s11))] sz [.ref q0, .int p1, .int p2, .int p3]) (va_Qi (fun r u => rv = r ∧ uv = u) (fun u t => zz_wo dC dI [(cI, .int), (cJ, .long), (cZ, .boolean)] (va_A [(q0, .inr (7, [.ref q1, .ref q2, .ref q3, .int s0, .int s1, .int s2, .int s3, .int s4, .int s5])), (q1, .inl (cI, n0, .inl s6)), (q2, .inl (cI, n1, .inl s7)), (q3, .inr (9, [.ref q4, .ref q5, .int s8, .int s9])), (q4, .inl (cI, n2, .inl s10)), (q5, .inl (cI, n3, .inl s11))] sz) (ce_X8 cI cJ cZ q0 q1 q2 q3 q4 q5 n0 n1 n2 n3 u) t) (va_A [(q0, .inr (7, [.ref q1, .ref q2, .ref q3, .int s0, .int s1, .int s2, .int s3, .int s4, .int s5])), (q1, .inl (cI, n0, .inl s6)), (q2, .inl (cI, n1, .inl s7)), (q3, .inr (9, [.ref q4, .ref q5, .int s8, .int s9])), (q4, .inl (cI, n2, .inl s10)), (q5, .inl (cI, n3, .inl s11))] sz)) 0 0 (va_A [(q0, .inr (7, [.ref q1, .ref q2, .ref q3, .int s0, .int s1, .int s2, .int s3, .int s4, .int s5])), (q1, .inl (cI, n0, .inl s6)), (q2, .inl (cI, n1, .inl s7)), (q3, .inr (9, [.ref q4, .ref q5, .int s8, .int s9])), (q4, .inl (cI, n2, .inl s10)), (q5, .inl (cI, n3, .inl s11))] sz) := by
  refine Met.ofW (cc := cX8_askAll) (maxL := 9) (ret := (some .int)) (by decide) rfl ?_
  intro p e s m args below meth c s₁ B hml hv
  obtain ⟨rfl, hsz, hP, hK, hD0, hN⟩ := hv
  have hx := B.exec
  have hb := B.bytes
  have hr := B.returns
  have hts := atoms_spec (ws := wsX8_askAll) B.pre
  have hown : s.vm.findClass RX8 = some m.cls := findClass_of_methodNamed B.named
  have hlocks := B.notSynchronized
  have hS0 : CallFix p m c cX8_askAll 9 s #[.ref q0, .int p1, .int p2, .int p3] wsX8_askAll RX8 := ⟨hx, hb, hml, hown, hts⟩
  subst hsz
  have hD := hD0.self (sz := s.heap.size)
  generalize hAe : va_A [(q0, .inr (7, [.ref q1, .ref q2, .ref q3, .int s0, .int s1, .int s2, .int s3, .int s4, .int s5])), (q1, .inl (cI, n0, .inl s6)), (q2, .inl (cI, n1, .inl s7)), (q3, .inr (9, [.ref q4, .ref q5, .int s8, .int s9])), (q4, .inl (cI, n2, .inl s10)), (q5, .inl (cI, n3, .inl s11))] s.heap.size = A at hD ⊢
  have hA : ∀ q : Nat, s.heap.size ≤ q → A q := fun q h => by rw [← hAe]; exact Or.inr h
  have hS : va_S A s.heap s.heap [] := va_S.rf
  have hl := lv_entry ([.ref q0, .int p1, .int p2, .int p3]) (n := 9) (Nat.le_of_ble_eq_true rfl)
  rw [lg_entry_eq]
  generalize (lg_sl ([.ref q0, .int p1, .int p2, .int p3]) ++ List.replicate (9 - (lg_sl ([.ref q0, .int p1, .int p2, .int p3])).length) Slot.unset).toArray = ls at hl ⊢
  have hl : lv_has ls 9 [(0, .ref q0), (1, .int p1), (2, .int p2), (3, .int p3)] := hl
  have inX8 := in_X8_askAll_X8
  have f24 := hts (.fieldLink RX8 24 "RoomForms$Search" "runs" "LRoomForms$Stretches;") (by decide +kernel)
  have f35 := hts (.fieldLink RX8 35 "RoomForms$Search" "form" "I") (by decide +kernel)
  have f38 := hts (.fieldLink RX8 38 "RoomForms$Search" "most" "I") (by decide +kernel)
  have f41 := hts (.fieldLink RX8 41 "RoomForms$Search" "live" "I") (by decide +kernel)
  unfold m_X8_askAll at hm
  refine lv_aload_n hx hb dX8_askAll_0 rfl (lv_at hl 0 rfl) ?_
  refine lv_iload_n hx hb dX8_askAll_1 rfl (lv_at hl 1 rfl) ?_
  obtain ⟨⟨t_1_0, t_1_1, t_1_2, t_1_3, t_1_4, t_1_5, t_1_6, t_1_7, t_1_8, t_1_9, t_1_10, t_1_11⟩, hc_1, hm⟩ := zz_bind hm
  have hPc := hP.sub (ws' := [(q0, .inr (7, [.ref q1, .ref q2, .ref q3, .int s0, .int s1, .int s2, .int s3, .int s4, .int s5])), (q1, .inl (cI, n0, .inl s6)), (q2, .inl (cI, n1, .inl s7)), (q3, .inr (9, [.ref q4, .ref q5, .int s8, .int s9])), (q4, .inl (cI, n2, .inl s10)), (q5, .inl (cI, n3, .inl s11))]) [0, 1, 2, 3, 4, 5] rfl
  have hDc := hD.sub (ws' := [(q0, .inr (7, [.ref q1, .ref q2, .ref q3, .int s0, .int s1, .int s2, .int s3, .int s4, .int s5])), (q1, .inl (cI, n0, .inl s6)), (q2, .inl (cI, n1, .inl s7)), (q3, .inr (9, [.ref q4, .ref q5, .int s8, .int s9])), (q4, .inl (cI, n2, .inl s10)), (q5, .inl (cI, n3, .inl s11))]) [0, 1, 2, 3, 4, 5] (by decide) rfl
  have hFc := va_free (wc := [(q0, .inr (7, [.ref q1, .ref q2, .ref q3, .int s0, .int s1, .int s2, .int s3, .int s4, .int s5])), (q1, .inl (cI, n0, .inl s6)), (q2, .inl (cI, n1, .inl s7)), (q3, .inr (9, [.ref q4, .ref q5, .int s8, .int s9])), (q4, .inl (cI, n2, .inl s10)), (q5, .inl (cI, n3, .inl s11))]) hD hS hA [0, 1, 2, 3, 4, 5] rfl
  refine va_callv (va_runV (As := [.int p1]) (rest := []) hS0 (c_X8_listRuns l dC dI cI cJ cZ K q0 q1 q2 q3 q4 q5 n0 n1 n2 n3 s0 s1 s2 s3 s4 s5 s6 s7 s8 s9 s10 s11 p1 _ (t_1_0, t_1_1, t_1_2, t_1_3, t_1_4, t_1_5, t_1_6, t_1_7, t_1_8, t_1_9, t_1_10, t_1_11) hc_1) (cwV 1 hts gX8_askAll_X8_listRuns rfl rfl rfl (by decide +kernel) ⟨Nat.le_of_ble_eq_true rfl, Nat.le_of_ble_eq_true rfl⟩) (zz_pv hK hPc hDc hN (va_recv hK hPc (ci := 7) (q0 := 0) rfl rfl)) rfl rfl hl.1 rfl (lv_room (Nat.le_of_ble_eq_true rfl)) dX8_askAll_2 ⟨Nat.zero_le _, Nat.zero_le _⟩) hS (fun q _ h => hFc q h) hFc (fun u t H1 locs ht hvm hw hB hz1 hk1 hS => ?_)
  subst hw
  obtain ⟨hP1, hK1, hD1⟩ := hB
  rw [ht] at hP1
  obtain ⟨hP, hD⟩ := va_join (wr := []) (w1 := [(q0, .inr (7, [.ref q1, .ref q2, .ref q3, .int t_1_0, .int t_1_1, .int t_1_2, .int t_1_3, .int t_1_4, .int t_1_5])), (q1, .inl (cI, n0, .inl t_1_6)), (q2, .inl (cI, n1, .inl t_1_7)), (q3, .inr (9, [.ref q4, .ref q5, .int t_1_8, .int t_1_9])), (q4, .inl (cI, n2, .inl t_1_10)), (q5, .inl (cI, n3, .inl t_1_11))]) hP hD [0, 1, 2, 3, 4, 5] [] rfl rfl (by decide) (by decide) hk1 hFc hP1 hD1
  have hP : va_P (dC, dI) vwCl [(q0, .inr (7, [.ref q1, .ref q2, .ref q3, .int t_1_0, .int t_1_1, .int t_1_2, .int t_1_3, .int t_1_4, .int t_1_5])), (q1, .inl (cI, n0, .inl t_1_6)), (q2, .inl (cI, n1, .inl t_1_7)), (q3, .inr (9, [.ref q4, .ref q5, .int t_1_8, .int t_1_9])), (q4, .inl (cI, n2, .inl t_1_10)), (q5, .inl (cI, n3, .inl t_1_11))] _ := hP
  have hD : va_D A [(q0, .inr (7, [.ref q1, .ref q2, .ref q3, .int t_1_0, .int t_1_1, .int t_1_2, .int t_1_3, .int t_1_4, .int t_1_5])), (q1, .inl (cI, n0, .inl t_1_6)), (q2, .inl (cI, n1, .inl t_1_7)), (q3, .inr (9, [.ref q4, .ref q5, .int t_1_8, .int t_1_9])), (q4, .inl (cI, n2, .inl t_1_10)), (q5, .inl (cI, n3, .inl t_1_11))] := hD
  refine lv_aload_n hx hb dX8_askAll_5 rfl (lv_at hl 0 rfl) ?_
  refine va_get (D := (dC, dI)) (ci := 7) (v := .int t_1_3) (C := RX8) (T := TX8) (N := 9) hx hb hts inX8 hown hK hP 0 rfl rfl 6 (by decide) f38 (fun _ h9 => h9) rfl dX8_askAll_6 ?_
  refine lv_aload_n hx hb dX8_askAll_9 rfl (lv_at hl 0 rfl) ?_
  refine va_get (D := (dC, dI)) (ci := 7) (v := .int t_1_4) (C := RX8) (T := TX8) (N := 9) hx hb hts inX8 hown hK hP 0 rfl rfl 7 (by decide) f41 (fun _ h9 => h9) rfl dX8_askAll_10 ?_
  refine lv_iload_n hx hb dX8_askAll_13 rfl (lv_at hl 1 rfl) ?_
  obtain ⟨⟨r_2, _⟩, hc_2, hm⟩ := zz_bind hm
  have hPc := hP.sub (ws' := []) [] rfl
  have hDc := hD.sub (ws' := []) [] (by decide) rfl
  have hFc := va_free (wc := []) hD hS hA [] rfl
  refine va_calli (va_runS (As := [.int p1]) (rest := [.int t_1_4, .int t_1_3]) hS0 (c_J6_bitCount_0f7a4 l dC dI cI cJ cZ K p1 _ r_2 () hc_2) (va_cwS 1 hts gX8_askAll_J6_bitCount_0f7a4 rfl rfl rfl (by decide +kernel) ⟨Nat.le_of_ble_eq_true rfl, Nat.le_of_ble_eq_true rfl⟩) (zz_ps hK hPc hDc hN) rfl rfl hl.1 rfl (lv_room (Nat.le_of_ble_eq_true rfl)) dX8_askAll_14 ⟨Nat.zero_le _, Nat.zero_le _⟩) hS (fun q _ h => hFc q h) hFc (fun r u t H1 locs ht hvm hw hB hz1 hk1 hS => ?_)
  obtain ⟨rfl, rfl⟩ := hw
  obtain ⟨hP1, hK1, hD1⟩ := hB
  rw [ht] at hP1
  obtain ⟨hP, hD⟩ := va_join (wr := [(q0, .inr (7, [.ref q1, .ref q2, .ref q3, .int t_1_0, .int t_1_1, .int t_1_2, .int t_1_3, .int t_1_4, .int t_1_5])), (q1, .inl (cI, n0, .inl t_1_6)), (q2, .inl (cI, n1, .inl t_1_7)), (q3, .inr (9, [.ref q4, .ref q5, .int t_1_8, .int t_1_9])), (q4, .inl (cI, n2, .inl t_1_10)), (q5, .inl (cI, n3, .inl t_1_11))]) (w1 := []) hP hD [] [0, 1, 2, 3, 4, 5] rfl rfl (by decide) (by decide) hk1 hFc hP1 hD1
  have hP : va_P (dC, dI) vwCl [(q0, .inr (7, [.ref q1, .ref q2, .ref q3, .int t_1_0, .int t_1_1, .int t_1_2, .int t_1_3, .int t_1_4, .int t_1_5])), (q1, .inl (cI, n0, .inl t_1_6)), (q2, .inl (cI, n1, .inl t_1_7)), (q3, .inr (9, [.ref q4, .ref q5, .int t_1_8, .int t_1_9])), (q4, .inl (cI, n2, .inl t_1_10)), (q5, .inl (cI, n3, .inl t_1_11))] _ := hP
  have hD : va_D A [(q0, .inr (7, [.ref q1, .ref q2, .ref q3, .int t_1_0, .int t_1_1, .int t_1_2, .int t_1_3, .int t_1_4, .int t_1_5])), (q1, .inl (cI, n0, .inl t_1_6)), (q2, .inl (cI, n1, .inl t_1_7)), (q3, .inr (9, [.ref q4, .ref q5, .int t_1_8, .int t_1_9])), (q4, .inl (cI, n2, .inl t_1_10)), (q5, .inl (cI, n3, .inl t_1_11))] := hD
  refine lv_isub hx hb dX8_askAll_17 ?_
  refine va_mmin hx hb (by rw [hml]; exact hl.1.symm) hown (hts (.methodLink RX8 74 Lib.Math.min.name) (by decide +kernel)) (hts (.static Lib.Math.min.name) (by decide +kernel)) (hts (.initialized "java/lang/Math") (by decide +kernel)) (hts (.code Lib.Math.min.name Lib.Math.min.code 2 (some .int)) (by decide +kernel)) (Nat.le_of_ble_eq_true rfl) (Nat.le_of_ble_eq_true rfl) (Nat.zero_le _) (Nat.zero_le _) dX8_askAll_18 ?_
  change W _ _ _ _ _ _ _ _ _ _ _ _ _ _ _ (F0 m 21 _ (.int (zz_min t_1_3 (t_1_4 - r_2)) :: []))
  refine lv_istore (lv' := [(4, .int (zz_min t_1_3 (t_1_4 - r_2))), (0, .ref q0), (1, .int p1), (2, .int p2), (3, .int p3)]) hx hb dX8_askAll_21 hl (by decide) rfl (fun ls hl => ?_)
  refine lv_iconst (v := 1) hx hb dX8_askAll_23 (by decide) ?_
  refine lv_istore (lv' := [(5, .int ((1 : Int32))), (4, .int (zz_min t_1_3 (t_1_4 - r_2))), (0, .ref q0), (1, .int p1), (2, .int p2), (3, .int p3)]) hx hb dX8_askAll_24 hl (by decide) rfl (fun ls hl => ?_)
  exact w_X8_askAll_L26 dC dI cI cJ cZ K q0 q1 q2 q3 q4 q5 n0 n1 n2 n3 A rv uv hS0 hr hlocks hA hK hN K p1 p2 p3 (zz_min t_1_3 (t_1_4 - r_2)) ((1 : Int32)) t_1_0 t_1_1 t_1_2 t_1_3 t_1_4 t_1_5 t_1_6 t_1_7 t_1_8 t_1_9 t_1_10 t_1_11 _ _ _ hm hP hD hS (lv_sub hl [2, 3, 4, 5, 1, 0] rfl)
abbrev rm_X8_lookAt : Room := { frames := 4, cells := 0, slots := 0, locals := 97 }
def m_X8_lookAt (K : Nat) (n0 : Nat) (n1 : Nat) (n2 : Nat) (n3 : Nat) (p1 : Int32) (s0 : Int32) (s1 : Int32) (s2 : Int32) (s3 : Int32) (s4 : Int32) (s5 : Int32) (s6 : Nat → Int32) (s7 : Nat → Int32) (s8 : Int32) (s9 : Int32) (s10 : Nat → Int32) (s11 : Nat → Int32) : Option (Int32 × Int32 × Int32 × Int32 × Int32 × Int32 × Int32 × (Nat → Int32) × (Nat → Int32) × Int32 × Int32 × (Nat → Int32) × (Nat → Int32)) :=
  (m_X8_askAll K n0 n1 n2 n3 (p1 &&& ((16383 : Int32))) (((p1.toUInt32 >>> (((14 : Int32)).toUInt32 &&& Int32.toUInt32 31)).toInt32) &&& ((16383 : Int32))) ((p1.toUInt32 >>> (((28 : Int32)).toUInt32 &&& Int32.toUInt32 31)).toInt32) s0 s1 s2 s3 s4 s5 s6 s7 s8 s9 s10 s11).bind fun ⟨r_1, t_1_0, t_1_1, t_1_2, t_1_3, t_1_4, t_1_5, t_1_6, t_1_7, t_1_8, t_1_9, t_1_10, t_1_11⟩ => (if r_1 = 0 then (m_X8_giveAllBack K n0 n1 n2 n3 (p1 &&& ((16383 : Int32))) (((p1.toUInt32 >>> (((14 : Int32)).toUInt32 &&& Int32.toUInt32 31)).toInt32) &&& ((16383 : Int32))) ((p1.toUInt32 >>> (((28 : Int32)).toUInt32 &&& Int32.toUInt32 31)).toInt32) t_1_0 t_1_1 t_1_2 t_1_3 t_1_4 t_1_5 t_1_6 t_1_7 t_1_8 t_1_9 t_1_10 t_1_11).bind fun ⟨r_3, t_3_0, t_3_1, t_3_2, t_3_3, t_3_4, t_3_5, t_3_6, t_3_7, t_3_8, t_3_9, t_3_10, t_3_11⟩ => some (r_3, (t_3_0, t_3_1, t_3_2, t_3_3, t_3_4, t_3_5, t_3_6, t_3_7, t_3_8, t_3_9, t_3_10, t_3_11))
  else some (r_1, (t_1_0, t_1_1, t_1_2, t_1_3, t_1_4, t_1_5, t_1_6, t_1_7, t_1_8, t_1_9, t_1_10, t_1_11)))
set_option maxHeartbeats 4000000 in
set_option maxRecDepth 100000 in
theorem c_X8_lookAt (l : Launch) (dC : Nat → ClassId) (dI : Nat → Nat → Nat) (cI cJ cZ : ClassId) (K : Nat) (q0 q1 q2 q3 q4 q5 : Nat) (n0 : Nat) (n1 : Nat) (n2 : Nat) (n3 : Nat) (s0 : Int32) (s1 : Int32) (s2 : Int32) (s3 : Int32) (s4 : Int32) (s5 : Int32) (s6 : Nat → Int32) (s7 : Nat → Int32) (s8 : Int32) (s9 : Int32) (s10 : Nat → Int32) (s11 : Nat → Int32) (p1 : Int32) (sz : Nat) (rv : Int32) (uv : Int32 × Int32 × Int32 × Int32 × Int32 × Int32 × (Nat → Int32) × (Nat → Int32) × Int32 × Int32 × (Nat → Int32) × (Nat → Int32)) (hm : m_X8_lookAt K n0 n1 n2 n3 p1 s0 s1 s2 s3 s4 s5 s6 s7 s8 s9 s10 s11 = some (rv, uv)) : Met l yX8_lookAt wsX8_lookAt rm_X8_lookAt (zz_pre dC dI [(cI, .int), (cJ, .long), (cZ, .boolean)] [(q0, .inr (7, [.ref q1, .ref q2, .ref q3, .int s0, .int s1, .int s2, .int s3, .int s4, .int s5])), (q1, .inl (cI, n0, .inl s6)), (q2, .inl (cI, n1, .inl s7)), (q3, .inr (9, [.ref q4, .ref q5, .int s8, .int s9])), (q4, .inl (cI, n2, .inl s10)), (q5, .inl (cI, n3, .inl s11))] sz [.ref q0, .int p1]) (va_Qi (fun r u => rv = r ∧ uv = u) (fun u t => zz_wo dC dI [(cI, .int), (cJ, .long), (cZ, .boolean)] (va_A [(q0, .inr (7, [.ref q1, .ref q2, .ref q3, .int s0, .int s1, .int s2, .int s3, .int s4, .int s5])), (q1, .inl (cI, n0, .inl s6)), (q2, .inl (cI, n1, .inl s7)), (q3, .inr (9, [.ref q4, .ref q5, .int s8, .int s9])), (q4, .inl (cI, n2, .inl s10)), (q5, .inl (cI, n3, .inl s11))] sz) (ce_X8 cI cJ cZ q0 q1 q2 q3 q4 q5 n0 n1 n2 n3 u) t) (va_A [(q0, .inr (7, [.ref q1, .ref q2, .ref q3, .int s0, .int s1, .int s2, .int s3, .int s4, .int s5])), (q1, .inl (cI, n0, .inl s6)), (q2, .inl (cI, n1, .inl s7)), (q3, .inr (9, [.ref q4, .ref q5, .int s8, .int s9])), (q4, .inl (cI, n2, .inl s10)), (q5, .inl (cI, n3, .inl s11))] sz)) 0 0 (va_A [(q0, .inr (7, [.ref q1, .ref q2, .ref q3, .int s0, .int s1, .int s2, .int s3, .int s4, .int s5])), (q1, .inl (cI, n0, .inl s6)), (q2, .inl (cI, n1, .inl s7)), (q3, .inr (9, [.ref q4, .ref q5, .int s8, .int s9])), (q4, .inl (cI, n2, .inl s10)), (q5, .inl (cI, n3, .inl s11))] sz) := by
  refine Met.ofW (cc := cX8_lookAt) (maxL := 6) (ret := (some .int)) (by decide) rfl ?_
  intro p e s m args below meth c s₁ B hml hv
  obtain ⟨rfl, hsz, hP, hK, hD0, hN⟩ := hv
  have hx := B.exec
  have hb := B.bytes
  have hr := B.returns
  have hts := atoms_spec (ws := wsX8_lookAt) B.pre
  have hown : s.vm.findClass RX8 = some m.cls := findClass_of_methodNamed B.named
  have hlocks := B.notSynchronized
  have hS0 : CallFix p m c cX8_lookAt 6 s #[.ref q0, .int p1] wsX8_lookAt RX8 := ⟨hx, hb, hml, hown, hts⟩
  subst hsz
  have hD := hD0.self (sz := s.heap.size)
  generalize hAe : va_A [(q0, .inr (7, [.ref q1, .ref q2, .ref q3, .int s0, .int s1, .int s2, .int s3, .int s4, .int s5])), (q1, .inl (cI, n0, .inl s6)), (q2, .inl (cI, n1, .inl s7)), (q3, .inr (9, [.ref q4, .ref q5, .int s8, .int s9])), (q4, .inl (cI, n2, .inl s10)), (q5, .inl (cI, n3, .inl s11))] s.heap.size = A at hD ⊢
  have hA : ∀ q : Nat, s.heap.size ≤ q → A q := fun q h => by rw [← hAe]; exact Or.inr h
  have hS : va_S A s.heap s.heap [] := va_S.rf
  have hl := lv_entry ([.ref q0, .int p1]) (n := 6) (Nat.le_of_ble_eq_true rfl)
  rw [lg_entry_eq]
  generalize (lg_sl ([.ref q0, .int p1]) ++ List.replicate (6 - (lg_sl ([.ref q0, .int p1])).length) Slot.unset).toArray = ls at hl ⊢
  have hl : lv_has ls 6 [(0, .ref q0), (1, .int p1)] := hl
  unfold m_X8_lookAt at hm
  refine lv_iload_n hx hb dX8_lookAt_0 rfl (lv_at hl 1 rfl) ?_
  refine lv_sipush (v := 16383) hx hb dX8_lookAt_1 (by decide) ?_
  refine lv_iand hx hb dX8_lookAt_4 ?_
  refine lv_istore_n (lv' := [(2, .int (p1 &&& ((16383 : Int32)))), (0, .ref q0), (1, .int p1)]) hx hb dX8_lookAt_5 rfl hl (by decide) rfl (fun ls hl => ?_)
  refine lv_iload_n hx hb dX8_lookAt_6 rfl (lv_at hl 2 rfl) ?_
  refine lv_bipush (v := 14) hx hb dX8_lookAt_7 (by decide) ?_
  refine lv_iushr hx hb dX8_lookAt_9 rfl ?_
  refine lv_sipush (v := 16383) hx hb dX8_lookAt_10 (by decide) ?_
  refine lv_iand hx hb dX8_lookAt_13 ?_
  refine lv_istore_n (lv' := [(3, .int (((p1.toUInt32 >>> (((14 : Int32)).toUInt32 &&& Int32.toUInt32 31)).toInt32) &&& ((16383 : Int32)))), (2, .int (p1 &&& ((16383 : Int32)))), (0, .ref q0), (1, .int p1)]) hx hb dX8_lookAt_14 rfl hl (by decide) rfl (fun ls hl => ?_)
  refine lv_iload_n hx hb dX8_lookAt_15 rfl (lv_at hl 3 rfl) ?_
  refine lv_bipush (v := 28) hx hb dX8_lookAt_16 (by decide) ?_
  refine lv_iushr hx hb dX8_lookAt_18 rfl ?_
  refine lv_istore (lv' := [(4, .int ((p1.toUInt32 >>> (((28 : Int32)).toUInt32 &&& Int32.toUInt32 31)).toInt32)), (3, .int (((p1.toUInt32 >>> (((14 : Int32)).toUInt32 &&& Int32.toUInt32 31)).toInt32) &&& ((16383 : Int32)))), (2, .int (p1 &&& ((16383 : Int32)))), (0, .ref q0), (1, .int p1)]) hx hb dX8_lookAt_19 hl (by decide) rfl (fun ls hl => ?_)
  refine lv_aload_n hx hb dX8_lookAt_21 rfl (lv_at hl 3 rfl) ?_
  refine lv_iload_n hx hb dX8_lookAt_22 rfl (lv_at hl 2 rfl) ?_
  refine lv_iload_n hx hb dX8_lookAt_23 rfl (lv_at hl 1 rfl) ?_
  refine lv_iload hx hb dX8_lookAt_24 (lv_at hl 0 rfl) ?_
  obtain ⟨⟨r_1, t_1_0, t_1_1, t_1_2, t_1_3, t_1_4, t_1_5, t_1_6, t_1_7, t_1_8, t_1_9, t_1_10, t_1_11⟩, hc_1, hm⟩ := zz_bind hm
  have hPc := hP.sub (ws' := [(q0, .inr (7, [.ref q1, .ref q2, .ref q3, .int s0, .int s1, .int s2, .int s3, .int s4, .int s5])), (q1, .inl (cI, n0, .inl s6)), (q2, .inl (cI, n1, .inl s7)), (q3, .inr (9, [.ref q4, .ref q5, .int s8, .int s9])), (q4, .inl (cI, n2, .inl s10)), (q5, .inl (cI, n3, .inl s11))]) [0, 1, 2, 3, 4, 5] rfl
  have hDc := hD.sub (ws' := [(q0, .inr (7, [.ref q1, .ref q2, .ref q3, .int s0, .int s1, .int s2, .int s3, .int s4, .int s5])), (q1, .inl (cI, n0, .inl s6)), (q2, .inl (cI, n1, .inl s7)), (q3, .inr (9, [.ref q4, .ref q5, .int s8, .int s9])), (q4, .inl (cI, n2, .inl s10)), (q5, .inl (cI, n3, .inl s11))]) [0, 1, 2, 3, 4, 5] (by decide) rfl
  have hFc := va_free (wc := [(q0, .inr (7, [.ref q1, .ref q2, .ref q3, .int s0, .int s1, .int s2, .int s3, .int s4, .int s5])), (q1, .inl (cI, n0, .inl s6)), (q2, .inl (cI, n1, .inl s7)), (q3, .inr (9, [.ref q4, .ref q5, .int s8, .int s9])), (q4, .inl (cI, n2, .inl s10)), (q5, .inl (cI, n3, .inl s11))]) hD hS hA [0, 1, 2, 3, 4, 5] rfl
  refine va_calli (va_runV (As := [.int (p1 &&& ((16383 : Int32))), .int (((p1.toUInt32 >>> (((14 : Int32)).toUInt32 &&& Int32.toUInt32 31)).toInt32) &&& ((16383 : Int32))), .int ((p1.toUInt32 >>> (((28 : Int32)).toUInt32 &&& Int32.toUInt32 31)).toInt32)]) (rest := []) hS0 (c_X8_askAll l dC dI cI cJ cZ K q0 q1 q2 q3 q4 q5 n0 n1 n2 n3 s0 s1 s2 s3 s4 s5 s6 s7 s8 s9 s10 s11 (p1 &&& ((16383 : Int32))) (((p1.toUInt32 >>> (((14 : Int32)).toUInt32 &&& Int32.toUInt32 31)).toInt32) &&& ((16383 : Int32))) ((p1.toUInt32 >>> (((28 : Int32)).toUInt32 &&& Int32.toUInt32 31)).toInt32) _ r_1 (t_1_0, t_1_1, t_1_2, t_1_3, t_1_4, t_1_5, t_1_6, t_1_7, t_1_8, t_1_9, t_1_10, t_1_11) hc_1) (cwV 3 hts gX8_lookAt_X8_askAll rfl rfl rfl (by decide +kernel) ⟨Nat.le_of_ble_eq_true rfl, Nat.le_of_ble_eq_true rfl⟩) (zz_pv hK hPc hDc hN (va_recv hK hPc (ci := 7) (q0 := 0) rfl rfl)) rfl rfl hl.1 rfl (lv_room (Nat.le_of_ble_eq_true rfl)) dX8_lookAt_26 ⟨Nat.zero_le _, Nat.zero_le _⟩) hS (fun q _ h => hFc q h) hFc (fun r u t H1 locs ht hvm hw hB hz1 hk1 hS => ?_)
  obtain ⟨rfl, rfl⟩ := hw
  obtain ⟨hP1, hK1, hD1⟩ := hB
  rw [ht] at hP1
  obtain ⟨hP, hD⟩ := va_join (wr := []) (w1 := [(q0, .inr (7, [.ref q1, .ref q2, .ref q3, .int t_1_0, .int t_1_1, .int t_1_2, .int t_1_3, .int t_1_4, .int t_1_5])), (q1, .inl (cI, n0, .inl t_1_6)), (q2, .inl (cI, n1, .inl t_1_7)), (q3, .inr (9, [.ref q4, .ref q5, .int t_1_8, .int t_1_9])), (q4, .inl (cI, n2, .inl t_1_10)), (q5, .inl (cI, n3, .inl t_1_11))]) hP hD [0, 1, 2, 3, 4, 5] [] rfl rfl (by decide) (by decide) hk1 hFc hP1 hD1
  have hP : va_P (dC, dI) vwCl [(q0, .inr (7, [.ref q1, .ref q2, .ref q3, .int t_1_0, .int t_1_1, .int t_1_2, .int t_1_3, .int t_1_4, .int t_1_5])), (q1, .inl (cI, n0, .inl t_1_6)), (q2, .inl (cI, n1, .inl t_1_7)), (q3, .inr (9, [.ref q4, .ref q5, .int t_1_8, .int t_1_9])), (q4, .inl (cI, n2, .inl t_1_10)), (q5, .inl (cI, n3, .inl t_1_11))] _ := hP
  have hD : va_D A [(q0, .inr (7, [.ref q1, .ref q2, .ref q3, .int t_1_0, .int t_1_1, .int t_1_2, .int t_1_3, .int t_1_4, .int t_1_5])), (q1, .inl (cI, n0, .inl t_1_6)), (q2, .inl (cI, n1, .inl t_1_7)), (q3, .inr (9, [.ref q4, .ref q5, .int t_1_8, .int t_1_9])), (q4, .inl (cI, n2, .inl t_1_10)), (q5, .inl (cI, n3, .inl t_1_11))] := hD
  refine lv_istore (lv' := [(5, .int r_1), (4, .int ((p1.toUInt32 >>> (((28 : Int32)).toUInt32 &&& Int32.toUInt32 31)).toInt32)), (3, .int (((p1.toUInt32 >>> (((14 : Int32)).toUInt32 &&& Int32.toUInt32 31)).toInt32) &&& ((16383 : Int32)))), (2, .int (p1 &&& ((16383 : Int32)))), (0, .ref q0), (1, .int p1)]) hx hb dX8_lookAt_29 hl (by decide) rfl (fun ls hl => ?_)
  refine lv_iload hx hb dX8_lookAt_31 (lv_at hl 0 rfl) ?_
  refine lv_if_ne (tgt := 47) hx hb dX8_lookAt_33 (by decide) (fun c_2 => ?_) (fun c_2 => ?_)
  · replace hm := zz_f c_2 hm
    refine lv_iload hx hb dX8_lookAt_47 (lv_at hl 0 rfl) ?_
    have hm := Option.some.inj hm
    exact W.iret (v := r_1) hx hb hr (fun t ht hW => ⟨⟨r_1, (t_1_0, t_1_1, t_1_2, t_1_3, t_1_4, t_1_5, t_1_6, t_1_7, t_1_8, t_1_9, t_1_10, t_1_11), rfl, ⟨(congrArg (·.1) hm).symm, (congrArg (·.2) hm).symm⟩, by rw [ht]; exact hP, va_K.moved hW.alike hK, hD⟩, hS.F ht⟩) hS.2.2 dX8_lookAt_49
  · replace hm := zz_t c_2 hm
    refine lv_aload_n hx hb dX8_lookAt_36 rfl (lv_at hl 4 rfl) ?_
    refine lv_iload_n hx hb dX8_lookAt_37 rfl (lv_at hl 3 rfl) ?_
    refine lv_iload_n hx hb dX8_lookAt_38 rfl (lv_at hl 2 rfl) ?_
    refine lv_iload hx hb dX8_lookAt_39 (lv_at hl 1 rfl) ?_
    obtain ⟨⟨r_3, t_3_0, t_3_1, t_3_2, t_3_3, t_3_4, t_3_5, t_3_6, t_3_7, t_3_8, t_3_9, t_3_10, t_3_11⟩, hc_3, hm⟩ := zz_bind hm
    have hPc := hP.sub (ws' := [(q0, .inr (7, [.ref q1, .ref q2, .ref q3, .int t_1_0, .int t_1_1, .int t_1_2, .int t_1_3, .int t_1_4, .int t_1_5])), (q1, .inl (cI, n0, .inl t_1_6)), (q2, .inl (cI, n1, .inl t_1_7)), (q3, .inr (9, [.ref q4, .ref q5, .int t_1_8, .int t_1_9])), (q4, .inl (cI, n2, .inl t_1_10)), (q5, .inl (cI, n3, .inl t_1_11))]) [0, 1, 2, 3, 4, 5] rfl
    have hDc := hD.sub (ws' := [(q0, .inr (7, [.ref q1, .ref q2, .ref q3, .int t_1_0, .int t_1_1, .int t_1_2, .int t_1_3, .int t_1_4, .int t_1_5])), (q1, .inl (cI, n0, .inl t_1_6)), (q2, .inl (cI, n1, .inl t_1_7)), (q3, .inr (9, [.ref q4, .ref q5, .int t_1_8, .int t_1_9])), (q4, .inl (cI, n2, .inl t_1_10)), (q5, .inl (cI, n3, .inl t_1_11))]) [0, 1, 2, 3, 4, 5] (by decide) rfl
    have hFc := va_free (wc := [(q0, .inr (7, [.ref q1, .ref q2, .ref q3, .int t_1_0, .int t_1_1, .int t_1_2, .int t_1_3, .int t_1_4, .int t_1_5])), (q1, .inl (cI, n0, .inl t_1_6)), (q2, .inl (cI, n1, .inl t_1_7)), (q3, .inr (9, [.ref q4, .ref q5, .int t_1_8, .int t_1_9])), (q4, .inl (cI, n2, .inl t_1_10)), (q5, .inl (cI, n3, .inl t_1_11))]) hD hS hA [0, 1, 2, 3, 4, 5] rfl
    refine va_calli (va_runV (As := [.int (p1 &&& ((16383 : Int32))), .int (((p1.toUInt32 >>> (((14 : Int32)).toUInt32 &&& Int32.toUInt32 31)).toInt32) &&& ((16383 : Int32))), .int ((p1.toUInt32 >>> (((28 : Int32)).toUInt32 &&& Int32.toUInt32 31)).toInt32)]) (rest := []) hS0 (c_X8_giveAllBack l dC dI cI cJ cZ K q0 q1 q2 q3 q4 q5 n0 n1 n2 n3 t_1_0 t_1_1 t_1_2 t_1_3 t_1_4 t_1_5 t_1_6 t_1_7 t_1_8 t_1_9 t_1_10 t_1_11 (p1 &&& ((16383 : Int32))) (((p1.toUInt32 >>> (((14 : Int32)).toUInt32 &&& Int32.toUInt32 31)).toInt32) &&& ((16383 : Int32))) ((p1.toUInt32 >>> (((28 : Int32)).toUInt32 &&& Int32.toUInt32 31)).toInt32) _ r_3 (t_3_0, t_3_1, t_3_2, t_3_3, t_3_4, t_3_5, t_3_6, t_3_7, t_3_8, t_3_9, t_3_10, t_3_11) hc_3) (cwV 3 hts gX8_lookAt_X8_giveAllBack rfl rfl rfl (by decide +kernel) ⟨Nat.le_of_ble_eq_true rfl, Nat.le_of_ble_eq_true rfl⟩) (zz_pv hK hPc hDc hN (va_recv hK hPc (ci := 7) (q0 := 0) rfl rfl)) rfl rfl hl.1 rfl (lv_room (Nat.le_of_ble_eq_true rfl)) dX8_lookAt_41 ⟨Nat.zero_le _, Nat.zero_le _⟩) hS (fun q _ h => hFc q h) hFc (fun r u t H1 locs ht hvm hw hB hz1 hk1 hS => ?_)
    obtain ⟨rfl, rfl⟩ := hw
    obtain ⟨hP1, hK1, hD1⟩ := hB
    rw [ht] at hP1
    obtain ⟨hP, hD⟩ := va_join (wr := []) (w1 := [(q0, .inr (7, [.ref q1, .ref q2, .ref q3, .int t_3_0, .int t_3_1, .int t_3_2, .int t_3_3, .int t_3_4, .int t_3_5])), (q1, .inl (cI, n0, .inl t_3_6)), (q2, .inl (cI, n1, .inl t_3_7)), (q3, .inr (9, [.ref q4, .ref q5, .int t_3_8, .int t_3_9])), (q4, .inl (cI, n2, .inl t_3_10)), (q5, .inl (cI, n3, .inl t_3_11))]) hP hD [0, 1, 2, 3, 4, 5] [] rfl rfl (by decide) (by decide) hk1 hFc hP1 hD1
    have hP : va_P (dC, dI) vwCl [(q0, .inr (7, [.ref q1, .ref q2, .ref q3, .int t_3_0, .int t_3_1, .int t_3_2, .int t_3_3, .int t_3_4, .int t_3_5])), (q1, .inl (cI, n0, .inl t_3_6)), (q2, .inl (cI, n1, .inl t_3_7)), (q3, .inr (9, [.ref q4, .ref q5, .int t_3_8, .int t_3_9])), (q4, .inl (cI, n2, .inl t_3_10)), (q5, .inl (cI, n3, .inl t_3_11))] _ := hP
    have hD : va_D A [(q0, .inr (7, [.ref q1, .ref q2, .ref q3, .int t_3_0, .int t_3_1, .int t_3_2, .int t_3_3, .int t_3_4, .int t_3_5])), (q1, .inl (cI, n0, .inl t_3_6)), (q2, .inl (cI, n1, .inl t_3_7)), (q3, .inr (9, [.ref q4, .ref q5, .int t_3_8, .int t_3_9])), (q4, .inl (cI, n2, .inl t_3_10)), (q5, .inl (cI, n3, .inl t_3_11))] := hD
    refine lv_goto (tgt := 49) hx hb dX8_lookAt_44 (by decide) ?_
    have hm := Option.some.inj hm
    exact W.iret (v := r_3) hx hb hr (fun t ht hW => ⟨⟨r_3, (t_3_0, t_3_1, t_3_2, t_3_3, t_3_4, t_3_5, t_3_6, t_3_7, t_3_8, t_3_9, t_3_10, t_3_11), rfl, ⟨(congrArg (·.1) hm).symm, (congrArg (·.2) hm).symm⟩, by rw [ht]; exact hP, va_K.moved hW.alike hK, hD⟩, hS.F ht⟩) hS.2.2 dX8_lookAt_49
abbrev rm_X8_lookAtAll : Room := { frames := 5, cells := 0, slots := 0, locals := 122 }
theorem in_X8_lookAtAll_X8 : ∀ w ∈ wsX80, w ∈ wsX8_lookAtAll := by decide +kernel
def m_X8_lookAtAll_L28 (K : Nat) (n0 : Nat) (n1 : Nat) (n2 : Nat) (n3 : Nat) : Nat → Int32 → Int32 → Int32 → Int32 → Int32 → Int32 → Int32 → (Nat → Int32) → (Nat → Int32) → Int32 → Int32 → (Nat → Int32) → (Nat → Int32) → Option (Int32 × Int32 × Int32 × Int32 × Int32 × Int32 × Int32 × (Nat → Int32) × (Nat → Int32) × Int32 × Int32 × (Nat → Int32) × (Nat → Int32))
  | 0, _, _, _, _, _, _, _, _, _, _, _, _, _ => none
  | k + 1, x1, s0, s1, s2, s3, s4, s5, s6, s7, s8, s9, s10, s11 =>
    if s1 ≤ x1 then some ((0 : Int32), (s0, s1, s2, s3, s4, s5, s6, s7, s8, s9, s10, s11))
    else (if ((20000 : Int32)) ≤ x1 then some ((0 : Int32), (s0, s1, s2, s3, s4, s5, s6, s7, s8, s9, s10, s11))
    else (if ¬ (x1 < 0 ∨ n0 ≤ x1.toNatClampNeg) then ((m_X8_lookAt K n0 n1 n2 n3 (s6 x1.toNatClampNeg) s0 s1 s2 s3 s4 s5 s6 s7 s8 s9 s10 s11).bind fun ⟨r_5, t_5_0, t_5_1, t_5_2, t_5_3, t_5_4, t_5_5, t_5_6, t_5_7, t_5_8, t_5_9, t_5_10, t_5_11⟩ => (if r_5 = 0 then m_X8_lookAtAll_L28 K n0 n1 n2 n3 k (x1 + 1) t_5_0 t_5_1 t_5_2 t_5_3 t_5_4 t_5_5 t_5_6 t_5_7 t_5_8 t_5_9 t_5_10 t_5_11
    else some (r_5, (t_5_0, t_5_1, t_5_2, t_5_3, t_5_4, t_5_5, t_5_6, t_5_7, t_5_8, t_5_9, t_5_10, t_5_11)))) else none))
theorem m_X8_lookAtAll_L28_s (K : Nat) (n0 : Nat) (n1 : Nat) (n2 : Nat) (n3 : Nat) (k : Nat) (x1 : Int32) (s0 : Int32) (s1 : Int32) (s2 : Int32) (s3 : Int32) (s4 : Int32) (s5 : Int32) (s6 : Nat → Int32) (s7 : Nat → Int32) (s8 : Int32) (s9 : Int32) (s10 : Nat → Int32) (s11 : Nat → Int32) : m_X8_lookAtAll_L28 K n0 n1 n2 n3 (k + 1) x1 s0 s1 s2 s3 s4 s5 s6 s7 s8 s9 s10 s11 =
    (if s1 ≤ x1 then some ((0 : Int32), (s0, s1, s2, s3, s4, s5, s6, s7, s8, s9, s10, s11))
    else (if ((20000 : Int32)) ≤ x1 then some ((0 : Int32), (s0, s1, s2, s3, s4, s5, s6, s7, s8, s9, s10, s11))
    else (if ¬ (x1 < 0 ∨ n0 ≤ x1.toNatClampNeg) then ((m_X8_lookAt K n0 n1 n2 n3 (s6 x1.toNatClampNeg) s0 s1 s2 s3 s4 s5 s6 s7 s8 s9 s10 s11).bind fun ⟨r_5, t_5_0, t_5_1, t_5_2, t_5_3, t_5_4, t_5_5, t_5_6, t_5_7, t_5_8, t_5_9, t_5_10, t_5_11⟩ => (if r_5 = 0 then m_X8_lookAtAll_L28 K n0 n1 n2 n3 k (x1 + 1) t_5_0 t_5_1 t_5_2 t_5_3 t_5_4 t_5_5 t_5_6 t_5_7 t_5_8 t_5_9 t_5_10 t_5_11
    else some (r_5, (t_5_0, t_5_1, t_5_2, t_5_3, t_5_4, t_5_5, t_5_6, t_5_7, t_5_8, t_5_9, t_5_10, t_5_11)))) else none))) := rfl
set_option maxHeartbeats 4000000 in
set_option maxRecDepth 100000 in
theorem w_X8_lookAtAll_L28 {p : Program} {l : Launch} {e : Env} {s : State} {m : MethodId} {args : Array Value} {below : List Frame} {meth : Method} {c : Code} (dC : Nat → ClassId) (dI : Nat → Nat → Nat) (cI cJ cZ : ClassId) (K : Nat) (q0 q1 q2 q3 q4 q5 : Nat) (n0 : Nat) (n1 : Nat) (n2 : Nat) (n3 : Nat) (A : Nat → Prop) (rv : Int32) (uv : Int32 × Int32 × Int32 × Int32 × Int32 × Int32 × (Nat → Int32) × (Nat → Int32) × Int32 × Int32 × (Nat → Int32) × (Nat → Int32)) (hS0 : CallFix p m c cX8_lookAtAll 3 s args wsX8_lookAtAll RX8) (hr : meth.sig.returnType = (some .int)) (hlocks : meth.locks = false) (hA : ∀ q : Nat, s.heap.size ≤ q → A q) (hK : va_K (dC, dI) vwCl [(cI, .int), (cJ, .long), (cZ, .boolean)] s) (hN : zz_nw s) : ∀ (k : Nat) (x1 : Int32) (s0 : Int32) (s1 : Int32) (s2 : Int32) (s3 : Int32) (s4 : Int32) (s5 : Int32) (s6 : Nat → Int32) (s7 : Nat → Int32) (s8 : Int32) (s9 : Int32) (s10 : Nat → Int32) (s11 : Nat → Int32) (H : Heap) (locs : List Loc) (ls : Array Slot), m_X8_lookAtAll_L28 K n0 n1 n2 n3 k x1 s0 s1 s2 s3 s4 s5 s6 s7 s8 s9 s10 s11 = some (rv, uv) → va_P (dC, dI) vwCl [(q0, .inr (7, [.ref q1, .ref q2, .ref q3, .int s0, .int s1, .int s2, .int s3, .int s4, .int s5])), (q1, .inl (cI, n0, .inl s6)), (q2, .inl (cI, n1, .inl s7)), (q3, .inr (9, [.ref q4, .ref q5, .int s8, .int s9])), (q4, .inl (cI, n2, .inl s10)), (q5, .inl (cI, n3, .inl s11))] H → va_D A [(q0, .inr (7, [.ref q1, .ref q2, .ref q3, .int s0, .int s1, .int s2, .int s3, .int s4, .int s5])), (q1, .inl (cI, n0, .inl s6)), (q2, .inl (cI, n1, .inl s7)), (q3, .inr (9, [.ref q4, .ref q5, .int s8, .int s9])), (q4, .inl (cI, n2, .inl s10)), (q5, .inl (cI, n3, .inl s11))] → va_S A s.heap H locs → lv_has ls 3 [(0, .ref q0), (1, .int x1)] → W p l e rm_X8_lookAtAll s m args below meth c H locs 0 0 (MQ below (va_Qi (fun r u => rv = r ∧ uv = u) (fun u t => zz_wo dC dI [(cI, .int), (cJ, .long), (cZ, .boolean)] A (ce_X8 cI cJ cZ q0 q1 q2 q3 q4 q5 n0 n1 n2 n3 u) t) A) args s 0 0 A) (F0 m 28 ls []) := by
  obtain ⟨hx, hb, hml, hown, hts⟩ := id hS0
  have inX8 := in_X8_lookAtAll_X8
  have f11 := hts (.fieldLink RX8 11 "RoomForms$Search" "rooms" "[I") (by decide +kernel)
  have f28 := hts (.fieldLink RX8 28 "RoomForms$Search" "base" "I") (by decide +kernel)
  have f32 := hts (.fieldLink RX8 32 "RoomForms$Search" "met" "I") (by decide +kernel)
  intro k
  induction k with
  | zero =>
    intro _ _ _ _ _ _ _ _ _ _ _ _ _ _ _ _ hm
    have hm9 : (none : Option (Int32 × Int32 × Int32 × Int32 × Int32 × Int32 × Int32 × (Nat → Int32) × (Nat → Int32) × Int32 × Int32 × (Nat → Int32) × (Nat → Int32))) = some _ := hm
    cases hm9
  | succ k ih =>
    intro x1 s0 s1 s2 s3 s4 s5 s6 s7 s8 s9 s10 s11 H locs ls hm hP hD hS hl
    rw [m_X8_lookAtAll_L28_s] at hm
    refine lv_iload_n hx hb dX8_lookAtAll_28 rfl (lv_at hl 1 rfl) ?_
    refine lv_aload_n hx hb dX8_lookAtAll_29 rfl (lv_at hl 0 rfl) ?_
    refine va_get (D := (dC, dI)) (ci := 7) (v := .int s1) (C := RX8) (T := TX8) (N := 9) hx hb hts inX8 hown hK hP 0 rfl rfl 4 (by decide) f32 (fun _ h9 => h9) rfl dX8_lookAtAll_30 ?_
    refine lv_icmp_ge (tgt := 66) hx hb dX8_lookAtAll_33 (by decide) (fun c_2 => ?_) (fun c_2 => ?_)
    · replace hm := zz_t c_2 hm
      refine lv_iconst (v := 0) hx hb dX8_lookAtAll_66 (by decide) ?_
      have hm := Option.some.inj hm
      exact W.iret (v := (0 : Int32)) hx hb hr (fun t ht hW => ⟨⟨(0 : Int32), (s0, s1, s2, s3, s4, s5, s6, s7, s8, s9, s10, s11), rfl, ⟨(congrArg (·.1) hm).symm, (congrArg (·.2) hm).symm⟩, by rw [ht]; exact hP, va_K.moved hW.alike hK, hD⟩, hS.F ht⟩) hS.2.2 dX8_lookAtAll_67
    · replace hm := zz_f c_2 hm
      refine lv_iload_n hx hb dX8_lookAtAll_36 rfl (lv_at hl 1 rfl) ?_
      refine lv_sipush (v := 20000) hx hb dX8_lookAtAll_37 (by decide) ?_
      refine lv_icmp_ge (tgt := 66) hx hb dX8_lookAtAll_40 (by decide) (fun c_3 => ?_) (fun c_3 => ?_)
      · replace hm := zz_t c_3 hm
        refine lv_iconst (v := 0) hx hb dX8_lookAtAll_66 (by decide) ?_
        have hm := Option.some.inj hm
        exact W.iret (v := (0 : Int32)) hx hb hr (fun t ht hW => ⟨⟨(0 : Int32), (s0, s1, s2, s3, s4, s5, s6, s7, s8, s9, s10, s11), rfl, ⟨(congrArg (·.1) hm).symm, (congrArg (·.2) hm).symm⟩, by rw [ht]; exact hP, va_K.moved hW.alike hK, hD⟩, hS.F ht⟩) hS.2.2 dX8_lookAtAll_67
      · replace hm := zz_f c_3 hm
        refine lv_aload_n hx hb dX8_lookAtAll_43 rfl (lv_at hl 0 rfl) ?_
        refine lv_aload_n hx hb dX8_lookAtAll_44 rfl (lv_at hl 0 rfl) ?_
        refine va_get (D := (dC, dI)) (ci := 7) (v := .ref q1) (C := RX8) (T := TX8) (N := 9) hx hb hts inX8 hown hK hP 0 rfl rfl 0 (by decide) f11 (fun _ h9 => h9) rfl dX8_lookAtAll_45 ?_
        refine lv_iload_n hx hb dX8_lookAtAll_48 rfl (lv_at hl 1 rfl) ?_
        obtain ⟨hi_4, hm⟩ := zz_chk hm
        refine va_iald hx hb hK hP 1 0 rfl rfl (i := x1) hi_4 dX8_lookAtAll_49 ?_
        obtain ⟨⟨r_5, t_5_0, t_5_1, t_5_2, t_5_3, t_5_4, t_5_5, t_5_6, t_5_7, t_5_8, t_5_9, t_5_10, t_5_11⟩, hc_5, hm⟩ := zz_bind hm
        have hPc := hP.sub (ws' := [(q0, .inr (7, [.ref q1, .ref q2, .ref q3, .int s0, .int s1, .int s2, .int s3, .int s4, .int s5])), (q1, .inl (cI, n0, .inl s6)), (q2, .inl (cI, n1, .inl s7)), (q3, .inr (9, [.ref q4, .ref q5, .int s8, .int s9])), (q4, .inl (cI, n2, .inl s10)), (q5, .inl (cI, n3, .inl s11))]) [0, 1, 2, 3, 4, 5] rfl
        have hDc := hD.sub (ws' := [(q0, .inr (7, [.ref q1, .ref q2, .ref q3, .int s0, .int s1, .int s2, .int s3, .int s4, .int s5])), (q1, .inl (cI, n0, .inl s6)), (q2, .inl (cI, n1, .inl s7)), (q3, .inr (9, [.ref q4, .ref q5, .int s8, .int s9])), (q4, .inl (cI, n2, .inl s10)), (q5, .inl (cI, n3, .inl s11))]) [0, 1, 2, 3, 4, 5] (by decide) rfl
        have hFc := va_free (wc := [(q0, .inr (7, [.ref q1, .ref q2, .ref q3, .int s0, .int s1, .int s2, .int s3, .int s4, .int s5])), (q1, .inl (cI, n0, .inl s6)), (q2, .inl (cI, n1, .inl s7)), (q3, .inr (9, [.ref q4, .ref q5, .int s8, .int s9])), (q4, .inl (cI, n2, .inl s10)), (q5, .inl (cI, n3, .inl s11))]) hD hS hA [0, 1, 2, 3, 4, 5] rfl
        refine va_calli (va_runV (As := [.int (s6 x1.toNatClampNeg)]) (rest := []) hS0 (c_X8_lookAt l dC dI cI cJ cZ K q0 q1 q2 q3 q4 q5 n0 n1 n2 n3 s0 s1 s2 s3 s4 s5 s6 s7 s8 s9 s10 s11 (s6 x1.toNatClampNeg) _ r_5 (t_5_0, t_5_1, t_5_2, t_5_3, t_5_4, t_5_5, t_5_6, t_5_7, t_5_8, t_5_9, t_5_10, t_5_11) hc_5) (cwV 1 hts gX8_lookAtAll_X8_lookAt rfl rfl rfl (by decide +kernel) ⟨Nat.le_of_ble_eq_true rfl, Nat.le_of_ble_eq_true rfl⟩) (zz_pv hK hPc hDc hN (va_recv hK hPc (ci := 7) (q0 := 0) rfl rfl)) rfl rfl hl.1 rfl (lv_room (Nat.le_of_ble_eq_true rfl)) dX8_lookAtAll_50 ⟨Nat.zero_le _, Nat.zero_le _⟩) hS (fun q _ h => hFc q h) hFc (fun r u t H1 locs ht hvm hw hB hz1 hk1 hS => ?_)
        obtain ⟨rfl, rfl⟩ := hw
        obtain ⟨hP1, hK1, hD1⟩ := hB
        rw [ht] at hP1
        obtain ⟨hP, hD⟩ := va_join (wr := []) (w1 := [(q0, .inr (7, [.ref q1, .ref q2, .ref q3, .int t_5_0, .int t_5_1, .int t_5_2, .int t_5_3, .int t_5_4, .int t_5_5])), (q1, .inl (cI, n0, .inl t_5_6)), (q2, .inl (cI, n1, .inl t_5_7)), (q3, .inr (9, [.ref q4, .ref q5, .int t_5_8, .int t_5_9])), (q4, .inl (cI, n2, .inl t_5_10)), (q5, .inl (cI, n3, .inl t_5_11))]) hP hD [0, 1, 2, 3, 4, 5] [] rfl rfl (by decide) (by decide) hk1 hFc hP1 hD1
        have hP : va_P (dC, dI) vwCl [(q0, .inr (7, [.ref q1, .ref q2, .ref q3, .int t_5_0, .int t_5_1, .int t_5_2, .int t_5_3, .int t_5_4, .int t_5_5])), (q1, .inl (cI, n0, .inl t_5_6)), (q2, .inl (cI, n1, .inl t_5_7)), (q3, .inr (9, [.ref q4, .ref q5, .int t_5_8, .int t_5_9])), (q4, .inl (cI, n2, .inl t_5_10)), (q5, .inl (cI, n3, .inl t_5_11))] _ := hP
        have hD : va_D A [(q0, .inr (7, [.ref q1, .ref q2, .ref q3, .int t_5_0, .int t_5_1, .int t_5_2, .int t_5_3, .int t_5_4, .int t_5_5])), (q1, .inl (cI, n0, .inl t_5_6)), (q2, .inl (cI, n1, .inl t_5_7)), (q3, .inr (9, [.ref q4, .ref q5, .int t_5_8, .int t_5_9])), (q4, .inl (cI, n2, .inl t_5_10)), (q5, .inl (cI, n3, .inl t_5_11))] := hD
        refine lv_istore_n (lv' := [(2, .int r_5), (0, .ref q0), (1, .int x1)]) hx hb dX8_lookAtAll_53 rfl hl (by decide) rfl (fun ls hl => ?_)
        refine lv_iload_n hx hb dX8_lookAtAll_54 rfl (lv_at hl 0 rfl) ?_
        refine lv_if_eq (tgt := 60) hx hb dX8_lookAtAll_55 (by decide) (fun c_6 => ?_) (fun c_6 => ?_)
        · replace hm := zz_t c_6 hm
          refine lv_iinc (v := x1 + 1) (lv' := [(1, .int (x1 + 1)), (2, .int r_5), (0, .ref q0)]) hx hb dX8_lookAtAll_60 hl (k := 2) rfl rfl (by decide) rfl (fun ls hl => ?_)
          refine lv_goto (tgt := 28) hx hb dX8_lookAtAll_63 (by decide) ?_
          exact ih (x1 + 1) t_5_0 t_5_1 t_5_2 t_5_3 t_5_4 t_5_5 t_5_6 t_5_7 t_5_8 t_5_9 t_5_10 t_5_11 _ _ _ hm hP hD hS (lv_sub hl [2, 0] rfl)
        · replace hm := zz_f c_6 hm
          refine lv_iload_n hx hb dX8_lookAtAll_58 rfl (lv_at hl 0 rfl) ?_
          have hm := Option.some.inj hm
          exact W.iret (v := r_5) hx hb hr (fun t ht hW => ⟨⟨r_5, (t_5_0, t_5_1, t_5_2, t_5_3, t_5_4, t_5_5, t_5_6, t_5_7, t_5_8, t_5_9, t_5_10, t_5_11), rfl, ⟨(congrArg (·.1) hm).symm, (congrArg (·.2) hm).symm⟩, by rw [ht]; exact hP, va_K.moved hW.alike hK, hD⟩, hS.F ht⟩) hS.2.2 dX8_lookAtAll_59
def m_X8_lookAtAll (K : Nat) (n0 : Nat) (n1 : Nat) (n2 : Nat) (n3 : Nat) (s0 : Int32) (s1 : Int32) (s2 : Int32) (s3 : Int32) (s4 : Int32) (s5 : Int32) (s6 : Nat → Int32) (s7 : Nat → Int32) (s8 : Int32) (s9 : Int32) (s10 : Nat → Int32) (s11 : Nat → Int32) : Option (Int32 × Int32 × Int32 × Int32 × Int32 × Int32 × Int32 × (Nat → Int32) × (Nat → Int32) × Int32 × Int32 × (Nat → Int32) × (Nat → Int32)) :=
  (m_X8_meet K n0 n1 n2 n3 ((0 : Int32)) ((0 : Int32)) ((0 : Int32)) (s0 + s1) ((0 : Int32)) s2 s3 s4 s5 s6 s7 s8 s9 s10 s11).bind fun ⟨r_1, t_1_0, t_1_1, t_1_2, t_1_3, t_1_4, t_1_5, t_1_6, t_1_7, t_1_8, t_1_9, t_1_10, t_1_11⟩ => m_X8_lookAtAll_L28 K n0 n1 n2 n3 K ((0 : Int32)) t_1_0 t_1_1 t_1_2 t_1_3 t_1_4 t_1_5 t_1_6 t_1_7 t_1_8 t_1_9 t_1_10 t_1_11
set_option maxHeartbeats 4000000 in
set_option maxRecDepth 100000 in
theorem c_X8_lookAtAll (l : Launch) (dC : Nat → ClassId) (dI : Nat → Nat → Nat) (cI cJ cZ : ClassId) (K : Nat) (q0 q1 q2 q3 q4 q5 : Nat) (n0 : Nat) (n1 : Nat) (n2 : Nat) (n3 : Nat) (s0 : Int32) (s1 : Int32) (s2 : Int32) (s3 : Int32) (s4 : Int32) (s5 : Int32) (s6 : Nat → Int32) (s7 : Nat → Int32) (s8 : Int32) (s9 : Int32) (s10 : Nat → Int32) (s11 : Nat → Int32) (sz : Nat) (rv : Int32) (uv : Int32 × Int32 × Int32 × Int32 × Int32 × Int32 × (Nat → Int32) × (Nat → Int32) × Int32 × Int32 × (Nat → Int32) × (Nat → Int32)) (hm : m_X8_lookAtAll K n0 n1 n2 n3 s0 s1 s2 s3 s4 s5 s6 s7 s8 s9 s10 s11 = some (rv, uv)) : Met l yX8_lookAtAll wsX8_lookAtAll rm_X8_lookAtAll (zz_pre dC dI [(cI, .int), (cJ, .long), (cZ, .boolean)] [(q0, .inr (7, [.ref q1, .ref q2, .ref q3, .int s0, .int s1, .int s2, .int s3, .int s4, .int s5])), (q1, .inl (cI, n0, .inl s6)), (q2, .inl (cI, n1, .inl s7)), (q3, .inr (9, [.ref q4, .ref q5, .int s8, .int s9])), (q4, .inl (cI, n2, .inl s10)), (q5, .inl (cI, n3, .inl s11))] sz [.ref q0]) (va_Qi (fun r u => rv = r ∧ uv = u) (fun u t => zz_wo dC dI [(cI, .int), (cJ, .long), (cZ, .boolean)] (va_A [(q0, .inr (7, [.ref q1, .ref q2, .ref q3, .int s0, .int s1, .int s2, .int s3, .int s4, .int s5])), (q1, .inl (cI, n0, .inl s6)), (q2, .inl (cI, n1, .inl s7)), (q3, .inr (9, [.ref q4, .ref q5, .int s8, .int s9])), (q4, .inl (cI, n2, .inl s10)), (q5, .inl (cI, n3, .inl s11))] sz) (ce_X8 cI cJ cZ q0 q1 q2 q3 q4 q5 n0 n1 n2 n3 u) t) (va_A [(q0, .inr (7, [.ref q1, .ref q2, .ref q3, .int s0, .int s1, .int s2, .int s3, .int s4, .int s5])), (q1, .inl (cI, n0, .inl s6)), (q2, .inl (cI, n1, .inl s7)), (q3, .inr (9, [.ref q4, .ref q5, .int s8, .int s9])), (q4, .inl (cI, n2, .inl s10)), (q5, .inl (cI, n3, .inl s11))] sz)) 0 0 (va_A [(q0, .inr (7, [.ref q1, .ref q2, .ref q3, .int s0, .int s1, .int s2, .int s3, .int s4, .int s5])), (q1, .inl (cI, n0, .inl s6)), (q2, .inl (cI, n1, .inl s7)), (q3, .inr (9, [.ref q4, .ref q5, .int s8, .int s9])), (q4, .inl (cI, n2, .inl s10)), (q5, .inl (cI, n3, .inl s11))] sz) := by
  refine Met.ofW (cc := cX8_lookAtAll) (maxL := 3) (ret := (some .int)) (by decide) rfl ?_
  intro p e s m args below meth c s₁ B hml hv
  obtain ⟨rfl, hsz, hP, hK, hD0, hN⟩ := hv
  have hx := B.exec
  have hb := B.bytes
  have hr := B.returns
  have hts := atoms_spec (ws := wsX8_lookAtAll) B.pre
  have hown : s.vm.findClass RX8 = some m.cls := findClass_of_methodNamed B.named
  have hlocks := B.notSynchronized
  have hS0 : CallFix p m c cX8_lookAtAll 3 s #[.ref q0] wsX8_lookAtAll RX8 := ⟨hx, hb, hml, hown, hts⟩
  subst hsz
  have hD := hD0.self (sz := s.heap.size)
  generalize hAe : va_A [(q0, .inr (7, [.ref q1, .ref q2, .ref q3, .int s0, .int s1, .int s2, .int s3, .int s4, .int s5])), (q1, .inl (cI, n0, .inl s6)), (q2, .inl (cI, n1, .inl s7)), (q3, .inr (9, [.ref q4, .ref q5, .int s8, .int s9])), (q4, .inl (cI, n2, .inl s10)), (q5, .inl (cI, n3, .inl s11))] s.heap.size = A at hD ⊢
  have hA : ∀ q : Nat, s.heap.size ≤ q → A q := fun q h => by rw [← hAe]; exact Or.inr h
  have hS : va_S A s.heap s.heap [] := va_S.rf
  have hl := lv_entry ([.ref q0]) (n := 3) (Nat.le_of_ble_eq_true rfl)
  rw [lg_entry_eq]
  generalize (lg_sl ([.ref q0]) ++ List.replicate (3 - (lg_sl ([.ref q0])).length) Slot.unset).toArray = ls at hl ⊢
  have hl : lv_has ls 3 [(0, .ref q0)] := hl
  have inX8 := in_X8_lookAtAll_X8
  have f11 := hts (.fieldLink RX8 11 "RoomForms$Search" "rooms" "[I") (by decide +kernel)
  have f28 := hts (.fieldLink RX8 28 "RoomForms$Search" "base" "I") (by decide +kernel)
  have f32 := hts (.fieldLink RX8 32 "RoomForms$Search" "met" "I") (by decide +kernel)
  unfold m_X8_lookAtAll at hm
  refine lv_aload_n hx hb dX8_lookAtAll_0 rfl (lv_at hl 0 rfl) ?_
  refine lv_dup hx hb dX8_lookAtAll_1 rfl ?_
  refine va_get (D := (dC, dI)) (ci := 7) (v := .int s0) (C := RX8) (T := TX8) (N := 9) hx hb hts inX8 hown hK hP 0 rfl rfl 3 (by decide) f28 (fun _ h9 => h9) rfl dX8_lookAtAll_2 ?_
  refine lv_aload_n hx hb dX8_lookAtAll_5 rfl (lv_at hl 0 rfl) ?_
  refine va_get (D := (dC, dI)) (ci := 7) (v := .int s1) (C := RX8) (T := TX8) (N := 9) hx hb hts inX8 hown hK hP 0 rfl rfl 4 (by decide) f32 (fun _ h9 => h9) rfl dX8_lookAtAll_6 ?_
  refine lv_iadd hx hb dX8_lookAtAll_9 ?_
  refine va_put (D := (dC, dI)) (ci := 7) (v := .int (s0 + s1)) (ty := .int) (C := RX8) (T := TX8) (N := 9) hx hb hts inX8 tyX8 tyX8_ok nmX8 hown hK hP hD hS 0 rfl rfl 3 (by decide) f28 (fun _ h9 => h9) rfl (by decide +kernel) rfl rfl (Nat.le_of_ble_eq_true rfl) dX8_lookAtAll_10 (fun H locs hP hD hS => ?_)
  have hP : va_P (dC, dI) vwCl [(q0, .inr (7, [.ref q1, .ref q2, .ref q3, .int (s0 + s1), .int s1, .int s2, .int s3, .int s4, .int s5])), (q1, .inl (cI, n0, .inl s6)), (q2, .inl (cI, n1, .inl s7)), (q3, .inr (9, [.ref q4, .ref q5, .int s8, .int s9])), (q4, .inl (cI, n2, .inl s10)), (q5, .inl (cI, n3, .inl s11))] _ := hP
  have hD : va_D A [(q0, .inr (7, [.ref q1, .ref q2, .ref q3, .int (s0 + s1), .int s1, .int s2, .int s3, .int s4, .int s5])), (q1, .inl (cI, n0, .inl s6)), (q2, .inl (cI, n1, .inl s7)), (q3, .inr (9, [.ref q4, .ref q5, .int s8, .int s9])), (q4, .inl (cI, n2, .inl s10)), (q5, .inl (cI, n3, .inl s11))] := hD
  refine lv_aload_n hx hb dX8_lookAtAll_13 rfl (lv_at hl 0 rfl) ?_
  refine lv_iconst (v := 0) hx hb dX8_lookAtAll_14 (by decide) ?_
  refine va_put (D := (dC, dI)) (ci := 7) (v := .int ((0 : Int32))) (ty := .int) (C := RX8) (T := TX8) (N := 9) hx hb hts inX8 tyX8 tyX8_ok nmX8 hown hK hP hD hS 0 rfl rfl 4 (by decide) f32 (fun _ h9 => h9) rfl (by decide +kernel) rfl rfl (Nat.le_of_ble_eq_true rfl) dX8_lookAtAll_15 (fun H locs hP hD hS => ?_)
  have hP : va_P (dC, dI) vwCl [(q0, .inr (7, [.ref q1, .ref q2, .ref q3, .int (s0 + s1), .int ((0 : Int32)), .int s2, .int s3, .int s4, .int s5])), (q1, .inl (cI, n0, .inl s6)), (q2, .inl (cI, n1, .inl s7)), (q3, .inr (9, [.ref q4, .ref q5, .int s8, .int s9])), (q4, .inl (cI, n2, .inl s10)), (q5, .inl (cI, n3, .inl s11))] _ := hP
  have hD : va_D A [(q0, .inr (7, [.ref q1, .ref q2, .ref q3, .int (s0 + s1), .int ((0 : Int32)), .int s2, .int s3, .int s4, .int s5])), (q1, .inl (cI, n0, .inl s6)), (q2, .inl (cI, n1, .inl s7)), (q3, .inr (9, [.ref q4, .ref q5, .int s8, .int s9])), (q4, .inl (cI, n2, .inl s10)), (q5, .inl (cI, n3, .inl s11))] := hD
  refine lv_aload_n hx hb dX8_lookAtAll_18 rfl (lv_at hl 0 rfl) ?_
  refine lv_iconst (v := 0) hx hb dX8_lookAtAll_19 (by decide) ?_
  refine lv_iconst (v := 0) hx hb dX8_lookAtAll_20 (by decide) ?_
  refine lv_iconst (v := 0) hx hb dX8_lookAtAll_21 (by decide) ?_
  obtain ⟨⟨r_1, t_1_0, t_1_1, t_1_2, t_1_3, t_1_4, t_1_5, t_1_6, t_1_7, t_1_8, t_1_9, t_1_10, t_1_11⟩, hc_1, hm⟩ := zz_bind hm
  have hPc := hP.sub (ws' := [(q0, .inr (7, [.ref q1, .ref q2, .ref q3, .int (s0 + s1), .int ((0 : Int32)), .int s2, .int s3, .int s4, .int s5])), (q1, .inl (cI, n0, .inl s6)), (q2, .inl (cI, n1, .inl s7)), (q3, .inr (9, [.ref q4, .ref q5, .int s8, .int s9])), (q4, .inl (cI, n2, .inl s10)), (q5, .inl (cI, n3, .inl s11))]) [0, 1, 2, 3, 4, 5] rfl
  have hDc := hD.sub (ws' := [(q0, .inr (7, [.ref q1, .ref q2, .ref q3, .int (s0 + s1), .int ((0 : Int32)), .int s2, .int s3, .int s4, .int s5])), (q1, .inl (cI, n0, .inl s6)), (q2, .inl (cI, n1, .inl s7)), (q3, .inr (9, [.ref q4, .ref q5, .int s8, .int s9])), (q4, .inl (cI, n2, .inl s10)), (q5, .inl (cI, n3, .inl s11))]) [0, 1, 2, 3, 4, 5] (by decide) rfl
  have hFc := va_free (wc := [(q0, .inr (7, [.ref q1, .ref q2, .ref q3, .int (s0 + s1), .int ((0 : Int32)), .int s2, .int s3, .int s4, .int s5])), (q1, .inl (cI, n0, .inl s6)), (q2, .inl (cI, n1, .inl s7)), (q3, .inr (9, [.ref q4, .ref q5, .int s8, .int s9])), (q4, .inl (cI, n2, .inl s10)), (q5, .inl (cI, n3, .inl s11))]) hD hS hA [0, 1, 2, 3, 4, 5] rfl
  refine va_calli (va_runV (As := [.int ((0 : Int32)), .int ((0 : Int32)), .int ((0 : Int32))]) (rest := []) hS0 (c_X8_meet l dC dI cI cJ cZ K q0 q1 q2 q3 q4 q5 n0 n1 n2 n3 (s0 + s1) ((0 : Int32)) s2 s3 s4 s5 s6 s7 s8 s9 s10 s11 ((0 : Int32)) ((0 : Int32)) ((0 : Int32)) _ r_1 (t_1_0, t_1_1, t_1_2, t_1_3, t_1_4, t_1_5, t_1_6, t_1_7, t_1_8, t_1_9, t_1_10, t_1_11) hc_1) (cwV 3 hts gX8_lookAtAll_X8_meet rfl rfl rfl (by decide +kernel) ⟨Nat.le_of_ble_eq_true rfl, Nat.le_of_ble_eq_true rfl⟩) (zz_pv hK hPc hDc hN (va_recv hK hPc (ci := 7) (q0 := 0) rfl rfl)) rfl rfl hl.1 rfl (lv_room (Nat.le_of_ble_eq_true rfl)) dX8_lookAtAll_22 ⟨Nat.zero_le _, Nat.zero_le _⟩) hS (fun q _ h => hFc q h) hFc (fun r u t H1 locs ht hvm hw hB hz1 hk1 hS => ?_)
  obtain ⟨rfl, rfl⟩ := hw
  obtain ⟨hP1, hK1, hD1⟩ := hB
  rw [ht] at hP1
  obtain ⟨hP, hD⟩ := va_join (wr := []) (w1 := [(q0, .inr (7, [.ref q1, .ref q2, .ref q3, .int t_1_0, .int t_1_1, .int t_1_2, .int t_1_3, .int t_1_4, .int t_1_5])), (q1, .inl (cI, n0, .inl t_1_6)), (q2, .inl (cI, n1, .inl t_1_7)), (q3, .inr (9, [.ref q4, .ref q5, .int t_1_8, .int t_1_9])), (q4, .inl (cI, n2, .inl t_1_10)), (q5, .inl (cI, n3, .inl t_1_11))]) hP hD [0, 1, 2, 3, 4, 5] [] rfl rfl (by decide) (by decide) hk1 hFc hP1 hD1
  have hP : va_P (dC, dI) vwCl [(q0, .inr (7, [.ref q1, .ref q2, .ref q3, .int t_1_0, .int t_1_1, .int t_1_2, .int t_1_3, .int t_1_4, .int t_1_5])), (q1, .inl (cI, n0, .inl t_1_6)), (q2, .inl (cI, n1, .inl t_1_7)), (q3, .inr (9, [.ref q4, .ref q5, .int t_1_8, .int t_1_9])), (q4, .inl (cI, n2, .inl t_1_10)), (q5, .inl (cI, n3, .inl t_1_11))] _ := hP
  have hD : va_D A [(q0, .inr (7, [.ref q1, .ref q2, .ref q3, .int t_1_0, .int t_1_1, .int t_1_2, .int t_1_3, .int t_1_4, .int t_1_5])), (q1, .inl (cI, n0, .inl t_1_6)), (q2, .inl (cI, n1, .inl t_1_7)), (q3, .inr (9, [.ref q4, .ref q5, .int t_1_8, .int t_1_9])), (q4, .inl (cI, n2, .inl t_1_10)), (q5, .inl (cI, n3, .inl t_1_11))] := hD
  refine lv_pop hx hb dX8_lookAtAll_25 rfl ?_
  refine lv_iconst (v := 0) hx hb dX8_lookAtAll_26 (by decide) ?_
  refine lv_istore_n (lv' := [(1, .int ((0 : Int32))), (0, .ref q0)]) hx hb dX8_lookAtAll_27 rfl hl (by decide) rfl (fun ls hl => ?_)
  exact w_X8_lookAtAll_L28 dC dI cI cJ cZ K q0 q1 q2 q3 q4 q5 n0 n1 n2 n3 A rv uv hS0 hr hlocks hA hK hN K ((0 : Int32)) t_1_0 t_1_1 t_1_2 t_1_3 t_1_4 t_1_5 t_1_6 t_1_7 t_1_8 t_1_9 t_1_10 t_1_11 _ _ _ hm hP hD hS (lv_sub hl [1, 0] rfl)
abbrev rm_X8_leastWords : Room := { frames := 6, cells := 0, slots := 0, locals := 144 }
theorem in_X8_leastWords_X8 : ∀ w ∈ wsX80, w ∈ wsX8_leastWords := by decide +kernel
def m_X8_leastWords_L18 (K : Nat) (n0 : Nat) (n1 : Nat) (n2 : Nat) (n3 : Nat) : Nat → Int32 → Int32 → Int32 → Int32 → Int32 → Int32 → Int32 → Int32 → Int32 → Int32 → (Nat → Int32) → (Nat → Int32) → Int32 → Int32 → (Nat → Int32) → (Nat → Int32) → Option (Int32 × Int32 × Int32 × Int32 × Int32 × Int32 × Int32 × (Nat → Int32) × (Nat → Int32) × Int32 × Int32 × (Nat → Int32) × (Nat → Int32))
  | 0, _, _, _, _, _, _, _, _, _, _, _, _, _, _, _, _ => none
  | k + 1, x1, x2, x3, x4, s0, s1, s2, s3, s4, s5, s6, s7, s8, s9, s10, s11 =>
    if ((14 : Int32)) < x4 then some ((-1 : Int32), (s0, s1, s2, s3, s4, s5, s6, s7, s8, s9, s10, s11))
    else ((m_X8_lookAtAll K n0 n1 n2 n3 s0 s1 s2 s3 s4 x4 s6 s7 s8 s9 s10 s11).bind fun ⟨r_2, t_2_0, t_2_1, t_2_2, t_2_3, t_2_4, t_2_5, t_2_6, t_2_7, t_2_8, t_2_9, t_2_10, t_2_11⟩ => (if r_2 = 0 then some (x4, (t_2_0, t_2_1, t_2_2, t_2_3, t_2_4, t_2_5, t_2_6, t_2_7, t_2_8, t_2_9, t_2_10, t_2_11))
    else (if r_2 = ((2 : Int32)) then some ((-2 : Int32), (t_2_0, t_2_1, t_2_2, t_2_3, t_2_4, t_2_5, t_2_6, t_2_7, t_2_8, t_2_9, t_2_10, t_2_11))
    else m_X8_leastWords_L18 K n0 n1 n2 n3 k x1 x2 x3 (x4 + 1) t_2_0 t_2_1 t_2_2 t_2_3 t_2_4 t_2_5 t_2_6 t_2_7 t_2_8 t_2_9 t_2_10 t_2_11)))
theorem m_X8_leastWords_L18_s (K : Nat) (n0 : Nat) (n1 : Nat) (n2 : Nat) (n3 : Nat) (k : Nat) (x1 : Int32) (x2 : Int32) (x3 : Int32) (x4 : Int32) (s0 : Int32) (s1 : Int32) (s2 : Int32) (s3 : Int32) (s4 : Int32) (s5 : Int32) (s6 : Nat → Int32) (s7 : Nat → Int32) (s8 : Int32) (s9 : Int32) (s10 : Nat → Int32) (s11 : Nat → Int32) : m_X8_leastWords_L18 K n0 n1 n2 n3 (k + 1) x1 x2 x3 x4 s0 s1 s2 s3 s4 s5 s6 s7 s8 s9 s10 s11 =
    (if ((14 : Int32)) < x4 then some ((-1 : Int32), (s0, s1, s2, s3, s4, s5, s6, s7, s8, s9, s10, s11))
    else ((m_X8_lookAtAll K n0 n1 n2 n3 s0 s1 s2 s3 s4 x4 s6 s7 s8 s9 s10 s11).bind fun ⟨r_2, t_2_0, t_2_1, t_2_2, t_2_3, t_2_4, t_2_5, t_2_6, t_2_7, t_2_8, t_2_9, t_2_10, t_2_11⟩ => (if r_2 = 0 then some (x4, (t_2_0, t_2_1, t_2_2, t_2_3, t_2_4, t_2_5, t_2_6, t_2_7, t_2_8, t_2_9, t_2_10, t_2_11))
    else (if r_2 = ((2 : Int32)) then some ((-2 : Int32), (t_2_0, t_2_1, t_2_2, t_2_3, t_2_4, t_2_5, t_2_6, t_2_7, t_2_8, t_2_9, t_2_10, t_2_11))
    else m_X8_leastWords_L18 K n0 n1 n2 n3 k x1 x2 x3 (x4 + 1) t_2_0 t_2_1 t_2_2 t_2_3 t_2_4 t_2_5 t_2_6 t_2_7 t_2_8 t_2_9 t_2_10 t_2_11)))) := rfl
set_option maxHeartbeats 4000000 in
set_option maxRecDepth 100000 in
theorem w_X8_leastWords_L18 {p : Program} {l : Launch} {e : Env} {s : State} {m : MethodId} {args : Array Value} {below : List Frame} {meth : Method} {c : Code} (dC : Nat → ClassId) (dI : Nat → Nat → Nat) (cI cJ cZ : ClassId) (K : Nat) (q0 q1 q2 q3 q4 q5 : Nat) (n0 : Nat) (n1 : Nat) (n2 : Nat) (n3 : Nat) (A : Nat → Prop) (rv : Int32) (uv : Int32 × Int32 × Int32 × Int32 × Int32 × Int32 × (Nat → Int32) × (Nat → Int32) × Int32 × Int32 × (Nat → Int32) × (Nat → Int32)) (hS0 : CallFix p m c cX8_leastWords 6 s args wsX8_leastWords RX8) (hr : meth.sig.returnType = (some .int)) (hlocks : meth.locks = false) (hA : ∀ q : Nat, s.heap.size ≤ q → A q) (hK : va_K (dC, dI) vwCl [(cI, .int), (cJ, .long), (cZ, .boolean)] s) (hN : zz_nw s) : ∀ (k : Nat) (x1 : Int32) (x2 : Int32) (x3 : Int32) (x4 : Int32) (s0 : Int32) (s1 : Int32) (s2 : Int32) (s3 : Int32) (s4 : Int32) (s5 : Int32) (s6 : Nat → Int32) (s7 : Nat → Int32) (s8 : Int32) (s9 : Int32) (s10 : Nat → Int32) (s11 : Nat → Int32) (H : Heap) (locs : List Loc) (ls : Array Slot), m_X8_leastWords_L18 K n0 n1 n2 n3 k x1 x2 x3 x4 s0 s1 s2 s3 s4 s5 s6 s7 s8 s9 s10 s11 = some (rv, uv) → va_P (dC, dI) vwCl [(q0, .inr (7, [.ref q1, .ref q2, .ref q3, .int s0, .int s1, .int s2, .int s3, .int s4, .int s5])), (q1, .inl (cI, n0, .inl s6)), (q2, .inl (cI, n1, .inl s7)), (q3, .inr (9, [.ref q4, .ref q5, .int s8, .int s9])), (q4, .inl (cI, n2, .inl s10)), (q5, .inl (cI, n3, .inl s11))] H → va_D A [(q0, .inr (7, [.ref q1, .ref q2, .ref q3, .int s0, .int s1, .int s2, .int s3, .int s4, .int s5])), (q1, .inl (cI, n0, .inl s6)), (q2, .inl (cI, n1, .inl s7)), (q3, .inr (9, [.ref q4, .ref q5, .int s8, .int s9])), (q4, .inl (cI, n2, .inl s10)), (q5, .inl (cI, n3, .inl s11))] → va_S A s.heap H locs → lv_has ls 6 [(0, .ref q0), (1, .int x1), (2, .int x2), (3, .int x3), (4, .int x4)] → W p l e rm_X8_leastWords s m args below meth c H locs 0 0 (MQ below (va_Qi (fun r u => rv = r ∧ uv = u) (fun u t => zz_wo dC dI [(cI, .int), (cJ, .long), (cZ, .boolean)] A (ce_X8 cI cJ cZ q0 q1 q2 q3 q4 q5 n0 n1 n2 n3 u) t) A) args s 0 0 A) (F0 m 18 ls []) := by
  obtain ⟨hx, hb, hml, hown, hts⟩ := id hS0
  have inX8 := in_X8_leastWords_X8
  have f35 := hts (.fieldLink RX8 35 "RoomForms$Search" "form" "I") (by decide +kernel)
  have f38 := hts (.fieldLink RX8 38 "RoomForms$Search" "most" "I") (by decide +kernel)
  have f41 := hts (.fieldLink RX8 41 "RoomForms$Search" "live" "I") (by decide +kernel)
  have f44 := hts (.fieldLink RX8 44 "RoomForms$Search" "words" "I") (by decide +kernel)
  intro k
  induction k with
  | zero =>
    intro _ _ _ _ _ _ _ _ _ _ _ _ _ _ _ _ _ _ _ hm
    have hm9 : (none : Option (Int32 × Int32 × Int32 × Int32 × Int32 × Int32 × Int32 × (Nat → Int32) × (Nat → Int32) × Int32 × Int32 × (Nat → Int32) × (Nat → Int32))) = some _ := hm
    cases hm9
  | succ k ih =>
    intro x1 x2 x3 x4 s0 s1 s2 s3 s4 s5 s6 s7 s8 s9 s10 s11 H locs ls hm hP hD hS hl
    rw [m_X8_leastWords_L18_s] at hm
    refine lv_iload hx hb dX8_leastWords_18 (lv_at hl 4 rfl) ?_
    refine lv_bipush (v := 14) hx hb dX8_leastWords_20 (by decide) ?_
    refine lv_icmp_gt (tgt := 60) hx hb dX8_leastWords_22 (by decide) (fun c_1 => ?_) (fun c_1 => ?_)
    · replace hm := zz_t c_1 hm
      refine lv_iconst (v := (-1)) hx hb dX8_leastWords_60 (by decide) ?_
      have hm := Option.some.inj hm
      exact W.iret (v := (-1 : Int32)) hx hb hr (fun t ht hW => ⟨⟨(-1 : Int32), (s0, s1, s2, s3, s4, s5, s6, s7, s8, s9, s10, s11), rfl, ⟨(congrArg (·.1) hm).symm, (congrArg (·.2) hm).symm⟩, by rw [ht]; exact hP, va_K.moved hW.alike hK, hD⟩, hS.F ht⟩) hS.2.2 dX8_leastWords_61
    · replace hm := zz_f c_1 hm
      refine lv_aload_n hx hb dX8_leastWords_25 rfl (lv_at hl 0 rfl) ?_
      refine lv_iload hx hb dX8_leastWords_26 (lv_at hl 4 rfl) ?_
      refine va_put (D := (dC, dI)) (ci := 7) (v := .int x4) (ty := .int) (C := RX8) (T := TX8) (N := 9) hx hb hts inX8 tyX8 tyX8_ok nmX8 hown hK hP hD hS 0 rfl rfl 8 (by decide) f44 (fun _ h9 => h9) rfl (by decide +kernel) rfl rfl (Nat.le_of_ble_eq_true rfl) dX8_leastWords_28 (fun H locs hP hD hS => ?_)
      have hP : va_P (dC, dI) vwCl [(q0, .inr (7, [.ref q1, .ref q2, .ref q3, .int s0, .int s1, .int s2, .int s3, .int s4, .int x4])), (q1, .inl (cI, n0, .inl s6)), (q2, .inl (cI, n1, .inl s7)), (q3, .inr (9, [.ref q4, .ref q5, .int s8, .int s9])), (q4, .inl (cI, n2, .inl s10)), (q5, .inl (cI, n3, .inl s11))] _ := hP
      have hD : va_D A [(q0, .inr (7, [.ref q1, .ref q2, .ref q3, .int s0, .int s1, .int s2, .int s3, .int s4, .int x4])), (q1, .inl (cI, n0, .inl s6)), (q2, .inl (cI, n1, .inl s7)), (q3, .inr (9, [.ref q4, .ref q5, .int s8, .int s9])), (q4, .inl (cI, n2, .inl s10)), (q5, .inl (cI, n3, .inl s11))] := hD
      refine lv_aload_n hx hb dX8_leastWords_31 rfl (lv_at hl 0 rfl) ?_
      obtain ⟨⟨r_2, t_2_0, t_2_1, t_2_2, t_2_3, t_2_4, t_2_5, t_2_6, t_2_7, t_2_8, t_2_9, t_2_10, t_2_11⟩, hc_2, hm⟩ := zz_bind hm
      have hPc := hP.sub (ws' := [(q0, .inr (7, [.ref q1, .ref q2, .ref q3, .int s0, .int s1, .int s2, .int s3, .int s4, .int x4])), (q1, .inl (cI, n0, .inl s6)), (q2, .inl (cI, n1, .inl s7)), (q3, .inr (9, [.ref q4, .ref q5, .int s8, .int s9])), (q4, .inl (cI, n2, .inl s10)), (q5, .inl (cI, n3, .inl s11))]) [0, 1, 2, 3, 4, 5] rfl
      have hDc := hD.sub (ws' := [(q0, .inr (7, [.ref q1, .ref q2, .ref q3, .int s0, .int s1, .int s2, .int s3, .int s4, .int x4])), (q1, .inl (cI, n0, .inl s6)), (q2, .inl (cI, n1, .inl s7)), (q3, .inr (9, [.ref q4, .ref q5, .int s8, .int s9])), (q4, .inl (cI, n2, .inl s10)), (q5, .inl (cI, n3, .inl s11))]) [0, 1, 2, 3, 4, 5] (by decide) rfl
      have hFc := va_free (wc := [(q0, .inr (7, [.ref q1, .ref q2, .ref q3, .int s0, .int s1, .int s2, .int s3, .int s4, .int x4])), (q1, .inl (cI, n0, .inl s6)), (q2, .inl (cI, n1, .inl s7)), (q3, .inr (9, [.ref q4, .ref q5, .int s8, .int s9])), (q4, .inl (cI, n2, .inl s10)), (q5, .inl (cI, n3, .inl s11))]) hD hS hA [0, 1, 2, 3, 4, 5] rfl
      refine va_calli (va_runV (As := []) (rest := []) hS0 (c_X8_lookAtAll l dC dI cI cJ cZ K q0 q1 q2 q3 q4 q5 n0 n1 n2 n3 s0 s1 s2 s3 s4 x4 s6 s7 s8 s9 s10 s11 _ r_2 (t_2_0, t_2_1, t_2_2, t_2_3, t_2_4, t_2_5, t_2_6, t_2_7, t_2_8, t_2_9, t_2_10, t_2_11) hc_2) (cwV 0 hts gX8_leastWords_X8_lookAtAll rfl rfl rfl (by decide +kernel) ⟨Nat.le_of_ble_eq_true rfl, Nat.le_of_ble_eq_true rfl⟩) (zz_pv hK hPc hDc hN (va_recv hK hPc (ci := 7) (q0 := 0) rfl rfl)) rfl rfl hl.1 rfl (lv_room (Nat.le_of_ble_eq_true rfl)) dX8_leastWords_32 ⟨Nat.zero_le _, Nat.zero_le _⟩) hS (fun q _ h => hFc q h) hFc (fun r u t H1 locs ht hvm hw hB hz1 hk1 hS => ?_)
      obtain ⟨rfl, rfl⟩ := hw
      obtain ⟨hP1, hK1, hD1⟩ := hB
      rw [ht] at hP1
      obtain ⟨hP, hD⟩ := va_join (wr := []) (w1 := [(q0, .inr (7, [.ref q1, .ref q2, .ref q3, .int t_2_0, .int t_2_1, .int t_2_2, .int t_2_3, .int t_2_4, .int t_2_5])), (q1, .inl (cI, n0, .inl t_2_6)), (q2, .inl (cI, n1, .inl t_2_7)), (q3, .inr (9, [.ref q4, .ref q5, .int t_2_8, .int t_2_9])), (q4, .inl (cI, n2, .inl t_2_10)), (q5, .inl (cI, n3, .inl t_2_11))]) hP hD [0, 1, 2, 3, 4, 5] [] rfl rfl (by decide) (by decide) hk1 hFc hP1 hD1
      have hP : va_P (dC, dI) vwCl [(q0, .inr (7, [.ref q1, .ref q2, .ref q3, .int t_2_0, .int t_2_1, .int t_2_2, .int t_2_3, .int t_2_4, .int t_2_5])), (q1, .inl (cI, n0, .inl t_2_6)), (q2, .inl (cI, n1, .inl t_2_7)), (q3, .inr (9, [.ref q4, .ref q5, .int t_2_8, .int t_2_9])), (q4, .inl (cI, n2, .inl t_2_10)), (q5, .inl (cI, n3, .inl t_2_11))] _ := hP
      have hD : va_D A [(q0, .inr (7, [.ref q1, .ref q2, .ref q3, .int t_2_0, .int t_2_1, .int t_2_2, .int t_2_3, .int t_2_4, .int t_2_5])), (q1, .inl (cI, n0, .inl t_2_6)), (q2, .inl (cI, n1, .inl t_2_7)), (q3, .inr (9, [.ref q4, .ref q5, .int t_2_8, .int t_2_9])), (q4, .inl (cI, n2, .inl t_2_10)), (q5, .inl (cI, n3, .inl t_2_11))] := hD
      refine lv_istore (lv' := [(5, .int r_2), (0, .ref q0), (1, .int x1), (2, .int x2), (3, .int x3), (4, .int x4)]) hx hb dX8_leastWords_35 hl (by decide) rfl (fun ls hl => ?_)
      refine lv_iload hx hb dX8_leastWords_37 (lv_at hl 0 rfl) ?_
      refine lv_if_ne (tgt := 45) hx hb dX8_leastWords_39 (by decide) (fun c_3 => ?_) (fun c_3 => ?_)
      · replace hm := zz_f c_3 hm
        refine lv_iload hx hb dX8_leastWords_45 (lv_at hl 0 rfl) ?_
        refine lv_iconst (v := 2) hx hb dX8_leastWords_47 (by decide) ?_
        refine lv_icmp_ne (tgt := 54) hx hb dX8_leastWords_48 (by decide) (fun c_4 => ?_) (fun c_4 => ?_)
        · replace hm := zz_f c_4 hm
          refine lv_iinc (v := x4 + 1) (lv' := [(4, .int (x4 + 1)), (5, .int r_2), (0, .ref q0), (1, .int x1), (2, .int x2), (3, .int x3)]) hx hb dX8_leastWords_54 hl (k := 5) rfl rfl (by decide) rfl (fun ls hl => ?_)
          refine lv_goto (tgt := 18) hx hb dX8_leastWords_57 (by decide) ?_
          exact ih x1 x2 x3 (x4 + 1) t_2_0 t_2_1 t_2_2 t_2_3 t_2_4 t_2_5 t_2_6 t_2_7 t_2_8 t_2_9 t_2_10 t_2_11 _ _ _ hm hP hD hS (lv_sub hl [2, 3, 4, 5, 0] rfl)
        · replace hm := zz_t c_4 hm
          refine lv_bipush (v := (-2)) hx hb dX8_leastWords_51 (by decide) ?_
          have hm := Option.some.inj hm
          exact W.iret (v := (-2 : Int32)) hx hb hr (fun t ht hW => ⟨⟨(-2 : Int32), (t_2_0, t_2_1, t_2_2, t_2_3, t_2_4, t_2_5, t_2_6, t_2_7, t_2_8, t_2_9, t_2_10, t_2_11), rfl, ⟨(congrArg (·.1) hm).symm, (congrArg (·.2) hm).symm⟩, by rw [ht]; exact hP, va_K.moved hW.alike hK, hD⟩, hS.F ht⟩) hS.2.2 dX8_leastWords_53
      · replace hm := zz_t c_3 hm
        refine lv_iload hx hb dX8_leastWords_42 (lv_at hl 5 rfl) ?_
        have hm := Option.some.inj hm
        exact W.iret (v := x4) hx hb hr (fun t ht hW => ⟨⟨x4, (t_2_0, t_2_1, t_2_2, t_2_3, t_2_4, t_2_5, t_2_6, t_2_7, t_2_8, t_2_9, t_2_10, t_2_11), rfl, ⟨(congrArg (·.1) hm).symm, (congrArg (·.2) hm).symm⟩, by rw [ht]; exact hP, va_K.moved hW.alike hK, hD⟩, hS.F ht⟩) hS.2.2 dX8_leastWords_44
def m_X8_leastWords (K : Nat) (n0 : Nat) (n1 : Nat) (n2 : Nat) (n3 : Nat) (p1 : Int32) (p2 : Int32) (p3 : Int32) (s0 : Int32) (s1 : Int32) (s2 : Int32) (s3 : Int32) (s4 : Int32) (s5 : Int32) (s6 : Nat → Int32) (s7 : Nat → Int32) (s8 : Int32) (s9 : Int32) (s10 : Nat → Int32) (s11 : Nat → Int32) : Option (Int32 × Int32 × Int32 × Int32 × Int32 × Int32 × Int32 × (Nat → Int32) × (Nat → Int32) × Int32 × Int32 × (Nat → Int32) × (Nat → Int32)) :=
  m_X8_leastWords_L18 K n0 n1 n2 n3 K p1 p2 p3 p3 s0 s1 p1 p2 p3 s5 s6 s7 s8 s9 s10 s11
set_option maxHeartbeats 4000000 in
set_option maxRecDepth 100000 in
theorem c_X8_leastWords (l : Launch) (dC : Nat → ClassId) (dI : Nat → Nat → Nat) (cI cJ cZ : ClassId) (K : Nat) (q0 q1 q2 q3 q4 q5 : Nat) (n0 : Nat) (n1 : Nat) (n2 : Nat) (n3 : Nat) (s0 : Int32) (s1 : Int32) (s2 : Int32) (s3 : Int32) (s4 : Int32) (s5 : Int32) (s6 : Nat → Int32) (s7 : Nat → Int32) (s8 : Int32) (s9 : Int32) (s10 : Nat → Int32) (s11 : Nat → Int32) (p1 : Int32) (p2 : Int32) (p3 : Int32) (sz : Nat) (rv : Int32) (uv : Int32 × Int32 × Int32 × Int32 × Int32 × Int32 × (Nat → Int32) × (Nat → Int32) × Int32 × Int32 × (Nat → Int32) × (Nat → Int32)) (hm : m_X8_leastWords K n0 n1 n2 n3 p1 p2 p3 s0 s1 s2 s3 s4 s5 s6 s7 s8 s9 s10 s11 = some (rv, uv)) : Met l yX8_leastWords wsX8_leastWords rm_X8_leastWords (zz_pre dC dI [(cI, .int), (cJ, .long), (cZ, .boolean)] [(q0, .inr (7, [.ref q1, .ref q2, .ref q3, .int s0, .int s1, .int s2, .int s3, .int s4, .int s5])), (q1, .inl (cI, n0, .inl s6)), (q2, .inl (cI, n1, .inl s7)), (q3, .inr (9, [.ref q4, .ref q5, .int s8, .int s9])), (q4, .inl (cI, n2, .inl s10)), (q5, .inl (cI, n3, .inl s11))] sz [.ref q0, .int p1, .int p2, .int p3]) (va_Qi (fun r u => rv = r ∧ uv = u) (fun u t => zz_wo dC dI [(cI, .int), (cJ, .long), (cZ, .boolean)] (va_A [(q0, .inr (7, [.ref q1, .ref q2, .ref q3, .int s0, .int s1, .int s2, .int s3, .int s4, .int s5])), (q1, .inl (cI, n0, .inl s6)), (q2, .inl (cI, n1, .inl s7)), (q3, .inr (9, [.ref q4, .ref q5, .int s8, .int s9])), (q4, .inl (cI, n2, .inl s10)), (q5, .inl (cI, n3, .inl s11))] sz) (ce_X8 cI cJ cZ q0 q1 q2 q3 q4 q5 n0 n1 n2 n3 u) t) (va_A [(q0, .inr (7, [.ref q1, .ref q2, .ref q3, .int s0, .int s1, .int s2, .int s3, .int s4, .int s5])), (q1, .inl (cI, n0, .inl s6)), (q2, .inl (cI, n1, .inl s7)), (q3, .inr (9, [.ref q4, .ref q5, .int s8, .int s9])), (q4, .inl (cI, n2, .inl s10)), (q5, .inl (cI, n3, .inl s11))] sz)) 0 0 (va_A [(q0, .inr (7, [.ref q1, .ref q2, .ref q3, .int s0, .int s1, .int s2, .int s3, .int s4, .int s5])), (q1, .inl (cI, n0, .inl s6)), (q2, .inl (cI, n1, .inl s7)), (q3, .inr (9, [.ref q4, .ref q5, .int s8, .int s9])), (q4, .inl (cI, n2, .inl s10)), (q5, .inl (cI, n3, .inl s11))] sz) := by
  refine Met.ofW (cc := cX8_leastWords) (maxL := 6) (ret := (some .int)) (by decide) rfl ?_
  intro p e s m args below meth c s₁ B hml hv
  obtain ⟨rfl, hsz, hP, hK, hD0, hN⟩ := hv
  have hx := B.exec
  have hb := B.bytes
  have hr := B.returns
  have hts := atoms_spec (ws := wsX8_leastWords) B.pre
  have hown : s.vm.findClass RX8 = some m.cls := findClass_of_methodNamed B.named
  have hlocks := B.notSynchronized
  have hS0 : CallFix p m c cX8_leastWords 6 s #[.ref q0, .int p1, .int p2, .int p3] wsX8_leastWords RX8 := ⟨hx, hb, hml, hown, hts⟩
  subst hsz
  have hD := hD0.self (sz := s.heap.size)
  generalize hAe : va_A [(q0, .inr (7, [.ref q1, .ref q2, .ref q3, .int s0, .int s1, .int s2, .int s3, .int s4, .int s5])), (q1, .inl (cI, n0, .inl s6)), (q2, .inl (cI, n1, .inl s7)), (q3, .inr (9, [.ref q4, .ref q5, .int s8, .int s9])), (q4, .inl (cI, n2, .inl s10)), (q5, .inl (cI, n3, .inl s11))] s.heap.size = A at hD ⊢
  have hA : ∀ q : Nat, s.heap.size ≤ q → A q := fun q h => by rw [← hAe]; exact Or.inr h
  have hS : va_S A s.heap s.heap [] := va_S.rf
  have hl := lv_entry ([.ref q0, .int p1, .int p2, .int p3]) (n := 6) (Nat.le_of_ble_eq_true rfl)
  rw [lg_entry_eq]
  generalize (lg_sl ([.ref q0, .int p1, .int p2, .int p3]) ++ List.replicate (6 - (lg_sl ([.ref q0, .int p1, .int p2, .int p3])).length) Slot.unset).toArray = ls at hl ⊢
  have hl : lv_has ls 6 [(0, .ref q0), (1, .int p1), (2, .int p2), (3, .int p3)] := hl
  have inX8 := in_X8_leastWords_X8
  have f35 := hts (.fieldLink RX8 35 "RoomForms$Search" "form" "I") (by decide +kernel)
  have f38 := hts (.fieldLink RX8 38 "RoomForms$Search" "most" "I") (by decide +kernel)
  have f41 := hts (.fieldLink RX8 41 "RoomForms$Search" "live" "I") (by decide +kernel)
  have f44 := hts (.fieldLink RX8 44 "RoomForms$Search" "words" "I") (by decide +kernel)
  unfold m_X8_leastWords at hm
  refine lv_aload_n hx hb dX8_leastWords_0 rfl (lv_at hl 0 rfl) ?_
  refine lv_iload_n hx hb dX8_leastWords_1 rfl (lv_at hl 1 rfl) ?_
  refine va_put (D := (dC, dI)) (ci := 7) (v := .int p1) (ty := .int) (C := RX8) (T := TX8) (N := 9) hx hb hts inX8 tyX8 tyX8_ok nmX8 hown hK hP hD hS 0 rfl rfl 5 (by decide) f35 (fun _ h9 => h9) rfl (by decide +kernel) rfl rfl (Nat.le_of_ble_eq_true rfl) dX8_leastWords_2 (fun H locs hP hD hS => ?_)
  have hP : va_P (dC, dI) vwCl [(q0, .inr (7, [.ref q1, .ref q2, .ref q3, .int s0, .int s1, .int p1, .int s3, .int s4, .int s5])), (q1, .inl (cI, n0, .inl s6)), (q2, .inl (cI, n1, .inl s7)), (q3, .inr (9, [.ref q4, .ref q5, .int s8, .int s9])), (q4, .inl (cI, n2, .inl s10)), (q5, .inl (cI, n3, .inl s11))] _ := hP
  have hD : va_D A [(q0, .inr (7, [.ref q1, .ref q2, .ref q3, .int s0, .int s1, .int p1, .int s3, .int s4, .int s5])), (q1, .inl (cI, n0, .inl s6)), (q2, .inl (cI, n1, .inl s7)), (q3, .inr (9, [.ref q4, .ref q5, .int s8, .int s9])), (q4, .inl (cI, n2, .inl s10)), (q5, .inl (cI, n3, .inl s11))] := hD
  refine lv_aload_n hx hb dX8_leastWords_5 rfl (lv_at hl 0 rfl) ?_
  refine lv_iload_n hx hb dX8_leastWords_6 rfl (lv_at hl 2 rfl) ?_
  refine va_put (D := (dC, dI)) (ci := 7) (v := .int p2) (ty := .int) (C := RX8) (T := TX8) (N := 9) hx hb hts inX8 tyX8 tyX8_ok nmX8 hown hK hP hD hS 0 rfl rfl 6 (by decide) f38 (fun _ h9 => h9) rfl (by decide +kernel) rfl rfl (Nat.le_of_ble_eq_true rfl) dX8_leastWords_7 (fun H locs hP hD hS => ?_)
  have hP : va_P (dC, dI) vwCl [(q0, .inr (7, [.ref q1, .ref q2, .ref q3, .int s0, .int s1, .int p1, .int p2, .int s4, .int s5])), (q1, .inl (cI, n0, .inl s6)), (q2, .inl (cI, n1, .inl s7)), (q3, .inr (9, [.ref q4, .ref q5, .int s8, .int s9])), (q4, .inl (cI, n2, .inl s10)), (q5, .inl (cI, n3, .inl s11))] _ := hP
  have hD : va_D A [(q0, .inr (7, [.ref q1, .ref q2, .ref q3, .int s0, .int s1, .int p1, .int p2, .int s4, .int s5])), (q1, .inl (cI, n0, .inl s6)), (q2, .inl (cI, n1, .inl s7)), (q3, .inr (9, [.ref q4, .ref q5, .int s8, .int s9])), (q4, .inl (cI, n2, .inl s10)), (q5, .inl (cI, n3, .inl s11))] := hD
  refine lv_aload_n hx hb dX8_leastWords_10 rfl (lv_at hl 0 rfl) ?_
  refine lv_iload_n hx hb dX8_leastWords_11 rfl (lv_at hl 3 rfl) ?_
  refine va_put (D := (dC, dI)) (ci := 7) (v := .int p3) (ty := .int) (C := RX8) (T := TX8) (N := 9) hx hb hts inX8 tyX8 tyX8_ok nmX8 hown hK hP hD hS 0 rfl rfl 7 (by decide) f41 (fun _ h9 => h9) rfl (by decide +kernel) rfl rfl (Nat.le_of_ble_eq_true rfl) dX8_leastWords_12 (fun H locs hP hD hS => ?_)
  have hP : va_P (dC, dI) vwCl [(q0, .inr (7, [.ref q1, .ref q2, .ref q3, .int s0, .int s1, .int p1, .int p2, .int p3, .int s5])), (q1, .inl (cI, n0, .inl s6)), (q2, .inl (cI, n1, .inl s7)), (q3, .inr (9, [.ref q4, .ref q5, .int s8, .int s9])), (q4, .inl (cI, n2, .inl s10)), (q5, .inl (cI, n3, .inl s11))] _ := hP
  have hD : va_D A [(q0, .inr (7, [.ref q1, .ref q2, .ref q3, .int s0, .int s1, .int p1, .int p2, .int p3, .int s5])), (q1, .inl (cI, n0, .inl s6)), (q2, .inl (cI, n1, .inl s7)), (q3, .inr (9, [.ref q4, .ref q5, .int s8, .int s9])), (q4, .inl (cI, n2, .inl s10)), (q5, .inl (cI, n3, .inl s11))] := hD
  refine lv_iload_n hx hb dX8_leastWords_15 rfl (lv_at hl 3 rfl) ?_
  refine lv_istore (lv' := [(4, .int p3), (0, .ref q0), (1, .int p1), (2, .int p2), (3, .int p3)]) hx hb dX8_leastWords_16 hl (by decide) rfl (fun ls hl => ?_)
  exact w_X8_leastWords_L18 dC dI cI cJ cZ K q0 q1 q2 q3 q4 q5 n0 n1 n2 n3 A rv uv hS0 hr hlocks hA hK hN K p1 p2 p3 p3 s0 s1 p1 p2 p3 s5 s6 s7 s8 s9 s10 s11 _ _ _ hm hP hD hS (lv_sub hl [1, 2, 3, 4, 0] rfl)

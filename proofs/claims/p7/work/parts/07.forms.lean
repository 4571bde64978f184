abbrev rm_X1_spanOf : Room := { frames := 0, cells := 0, slots := 0, locals := 0 }
def m_X1_spanOf (K : Nat) (p1 : Int32) : Option (Int32 × Unit) :=
  some (p1, ())
set_option maxHeartbeats 4000000 in
set_option maxRecDepth 100000 in
theorem c_X1_spanOf (l : Launch) (dC : Nat → ClassId) (dI : Nat → Nat → Nat) (cI cJ cZ : ClassId) (K : Nat) (a0 : Nat) (p1 : Int32) (sz : Nat) (rv : Int32) (uv : Unit) (hm : m_X1_spanOf K p1 = some (rv, uv)) : Met l yX1_spanOf wsX1_spanOf rm_X1_spanOf (zz_pre dC dI [(cI, .int), (cJ, .long), (cZ, .boolean)] [] sz [.ref a0, .int p1]) (va_Qi (fun r u => rv = r ∧ uv = u) (fun u t => zz_wo dC dI [(cI, .int), (cJ, .long), (cZ, .boolean)] (va_A [] sz) (ce_no cI cJ cZ u) t) (va_A [] sz)) 0 0 (va_A [] sz) := by
  refine Met.ofW (cc := cX1_spanOf) (maxL := 2) (ret := (some .int)) (by decide) rfl ?_
  intro p e s m args below meth c s₁ B hml hv
  obtain ⟨rfl, hsz, hP, hK, hD0, hN⟩ := hv
  have hx := B.exec
  have hb := B.bytes
  have hr := B.returns
  have hts := atoms_spec (ws := wsX1_spanOf) B.pre
  have hown : s.vm.findClass RX1 = some m.cls := findClass_of_methodNamed B.named
  have hlocks := B.notSynchronized
  have hS0 : CallFix p m c cX1_spanOf 2 s #[.ref a0, .int p1] wsX1_spanOf RX1 := ⟨hx, hb, hml, hown, hts⟩
  subst hsz
  have hD := hD0.self (sz := s.heap.size)
  generalize hAe : va_A [] s.heap.size = A at hD ⊢
  have hA : ∀ q : Nat, s.heap.size ≤ q → A q := fun q h => by rw [← hAe]; exact Or.inr h
  have hS : va_S A s.heap s.heap [] := va_S.rf
  have hl := lv_entry ([.ref a0, .int p1]) (n := 2) (Nat.le_of_ble_eq_true rfl)
  rw [lg_entry_eq]
  generalize (lg_sl ([.ref a0, .int p1]) ++ List.replicate (2 - (lg_sl ([.ref a0, .int p1])).length) Slot.unset).toArray = ls at hl ⊢
  have hl : lv_has ls 2 [(0, .ref a0), (1, .int p1)] := hl
  unfold m_X1_spanOf at hm
  refine lv_iload_n hx hb dX1_spanOf_0 rfl (lv_at hl 1 rfl) ?_
  have hm := Option.some.inj hm
  exact W.iret (v := p1) hx hb hr (fun t ht hW => ⟨⟨p1, (), rfl, ⟨(congrArg (·.1) hm).symm, (congrArg (·.2) hm).symm⟩, by rw [ht]; exact hP, va_K.moved hW.alike hK, hD⟩, hS.F ht⟩) hS.2.2 dX1_spanOf_1
abbrev rm_X1_quickOnes : Room := { frames := 0, cells := 0, slots := 0, locals := 0 }
def m_X1_quickOnes (K : Nat) : Option (Int32 × Unit) :=
  some ((0 : Int32), ())
set_option maxHeartbeats 4000000 in
set_option maxRecDepth 100000 in
theorem c_X1_quickOnes (l : Launch) (dC : Nat → ClassId) (dI : Nat → Nat → Nat) (cI cJ cZ : ClassId) (K : Nat) (a0 : Nat) (sz : Nat) (rv : Int32) (uv : Unit) (hm : m_X1_quickOnes K  = some (rv, uv)) : Met l yX1_quickOnes wsX1_quickOnes rm_X1_quickOnes (zz_pre dC dI [(cI, .int), (cJ, .long), (cZ, .boolean)] [] sz [.ref a0]) (va_Qi (fun r u => rv = r ∧ uv = u) (fun u t => zz_wo dC dI [(cI, .int), (cJ, .long), (cZ, .boolean)] (va_A [] sz) (ce_no cI cJ cZ u) t) (va_A [] sz)) 0 0 (va_A [] sz) := by
  refine Met.ofW (cc := cX1_quickOnes) (maxL := 1) (ret := (some .int)) (by decide) rfl ?_
  intro p e s m args below meth c s₁ B hml hv
  obtain ⟨rfl, hsz, hP, hK, hD0, hN⟩ := hv
  have hx := B.exec
  have hb := B.bytes
  have hr := B.returns
  have hts := atoms_spec (ws := wsX1_quickOnes) B.pre
  have hown : s.vm.findClass RX1 = some m.cls := findClass_of_methodNamed B.named
  have hlocks := B.notSynchronized
  have hS0 : CallFix p m c cX1_quickOnes 1 s #[.ref a0] wsX1_quickOnes RX1 := ⟨hx, hb, hml, hown, hts⟩
  subst hsz
  have hD := hD0.self (sz := s.heap.size)
  generalize hAe : va_A [] s.heap.size = A at hD ⊢
  have hA : ∀ q : Nat, s.heap.size ≤ q → A q := fun q h => by rw [← hAe]; exact Or.inr h
  have hS : va_S A s.heap s.heap [] := va_S.rf
  have hl := lv_entry ([.ref a0]) (n := 1) (Nat.le_of_ble_eq_true rfl)
  rw [lg_entry_eq]
  generalize (lg_sl ([.ref a0]) ++ List.replicate (1 - (lg_sl ([.ref a0])).length) Slot.unset).toArray = ls at hl ⊢
  have hl : lv_has ls 1 [(0, .ref a0)] := hl
  unfold m_X1_quickOnes at hm
  refine lv_iconst (v := 0) hx hb dX1_quickOnes_0 (by decide) ?_
  have hm := Option.some.inj hm
  exact W.iret (v := (0 : Int32)) hx hb hr (fun t ht hW => ⟨⟨(0 : Int32), (), rfl, ⟨(congrArg (·.1) hm).symm, (congrArg (·.2) hm).symm⟩, by rw [ht]; exact hP, va_K.moved hW.alike hK, hD⟩, hS.F ht⟩) hS.2.2 dX1_quickOnes_1
abbrev rm_X1_freeParts : Room := { frames := 0, cells := 0, slots := 0, locals := 0 }
def m_X1_freeParts (K : Nat) : Option (Int32 × Unit) :=
  some ((0 : Int32), ())
set_option maxHeartbeats 4000000 in
set_option maxRecDepth 100000 in
theorem c_X1_freeParts (l : Launch) (dC : Nat → ClassId) (dI : Nat → Nat → Nat) (cI cJ cZ : ClassId) (K : Nat) (a0 : Nat) (sz : Nat) (rv : Int32) (uv : Unit) (hm : m_X1_freeParts K  = some (rv, uv)) : Met l yX1_freeParts wsX1_freeParts rm_X1_freeParts (zz_pre dC dI [(cI, .int), (cJ, .long), (cZ, .boolean)] [] sz [.ref a0]) (va_Qi (fun r u => rv = r ∧ uv = u) (fun u t => zz_wo dC dI [(cI, .int), (cJ, .long), (cZ, .boolean)] (va_A [] sz) (ce_no cI cJ cZ u) t) (va_A [] sz)) 0 0 (va_A [] sz) := by
  refine Met.ofW (cc := cX1_freeParts) (maxL := 1) (ret := (some .int)) (by decide) rfl ?_
  intro p e s m args below meth c s₁ B hml hv
  obtain ⟨rfl, hsz, hP, hK, hD0, hN⟩ := hv
  have hx := B.exec
  have hb := B.bytes
  have hr := B.returns
  have hts := atoms_spec (ws := wsX1_freeParts) B.pre
  have hown : s.vm.findClass RX1 = some m.cls := findClass_of_methodNamed B.named
  have hlocks := B.notSynchronized
  have hS0 : CallFix p m c cX1_freeParts 1 s #[.ref a0] wsX1_freeParts RX1 := ⟨hx, hb, hml, hown, hts⟩
  subst hsz
  have hD := hD0.self (sz := s.heap.size)
  generalize hAe : va_A [] s.heap.size = A at hD ⊢
  have hA : ∀ q : Nat, s.heap.size ≤ q → A q := fun q h => by rw [← hAe]; exact Or.inr h
  have hS : va_S A s.heap s.heap [] := va_S.rf
  have hl := lv_entry ([.ref a0]) (n := 1) (Nat.le_of_ble_eq_true rfl)
  rw [lg_entry_eq]
  generalize (lg_sl ([.ref a0]) ++ List.replicate (1 - (lg_sl ([.ref a0])).length) Slot.unset).toArray = ls at hl ⊢
  have hl : lv_has ls 1 [(0, .ref a0)] := hl
  unfold m_X1_freeParts at hm
  refine lv_iconst (v := 0) hx hb dX1_freeParts_0 (by decide) ?_
  have hm := Option.some.inj hm
  exact W.iret (v := (0 : Int32)) hx hb hr (fun t ht hW => ⟨⟨(0 : Int32), (), rfl, ⟨(congrArg (·.1) hm).symm, (congrArg (·.2) hm).symm⟩, by rw [ht]; exact hP, va_K.moved hW.alike hK, hD⟩, hS.F ht⟩) hS.2.2 dX1_freeParts_1
abbrev rm_X1_top : Room := { frames := 0, cells := 0, slots := 0, locals := 0 }
def m_X1_top (K : Nat) : Option (Int32 × Unit) :=
  some ((0 : Int32), ())
set_option maxHeartbeats 4000000 in
set_option maxRecDepth 100000 in
theorem c_X1_top (l : Launch) (dC : Nat → ClassId) (dI : Nat → Nat → Nat) (cI cJ cZ : ClassId) (K : Nat) (a0 : Nat) (sz : Nat) (rv : Int32) (uv : Unit) (hm : m_X1_top K  = some (rv, uv)) : Met l yX1_top wsX1_top rm_X1_top (zz_pre dC dI [(cI, .int), (cJ, .long), (cZ, .boolean)] [] sz [.ref a0]) (va_Qi (fun r u => rv = r ∧ uv = u) (fun u t => zz_wo dC dI [(cI, .int), (cJ, .long), (cZ, .boolean)] (va_A [] sz) (ce_no cI cJ cZ u) t) (va_A [] sz)) 0 0 (va_A [] sz) := by
  refine Met.ofW (cc := cX1_top) (maxL := 1) (ret := (some .int)) (by decide) rfl ?_
  intro p e s m args below meth c s₁ B hml hv
  obtain ⟨rfl, hsz, hP, hK, hD0, hN⟩ := hv
  have hx := B.exec
  have hb := B.bytes
  have hr := B.returns
  have hts := atoms_spec (ws := wsX1_top) B.pre
  have hown : s.vm.findClass RX1 = some m.cls := findClass_of_methodNamed B.named
  have hlocks := B.notSynchronized
  have hS0 : CallFix p m c cX1_top 1 s #[.ref a0] wsX1_top RX1 := ⟨hx, hb, hml, hown, hts⟩
  subst hsz
  have hD := hD0.self (sz := s.heap.size)
  generalize hAe : va_A [] s.heap.size = A at hD ⊢
  have hA : ∀ q : Nat, s.heap.size ≤ q → A q := fun q h => by rw [← hAe]; exact Or.inr h
  have hS : va_S A s.heap s.heap [] := va_S.rf
  have hl := lv_entry ([.ref a0]) (n := 1) (Nat.le_of_ble_eq_true rfl)
  rw [lg_entry_eq]
  generalize (lg_sl ([.ref a0]) ++ List.replicate (1 - (lg_sl ([.ref a0])).length) Slot.unset).toArray = ls at hl ⊢
  have hl : lv_has ls 1 [(0, .ref a0)] := hl
  unfold m_X1_top at hm
  refine lv_iconst (v := 0) hx hb dX1_top_0 (by decide) ?_
  have hm := Option.some.inj hm
  exact W.iret (v := (0 : Int32)) hx hb hr (fun t ht hW => ⟨⟨(0 : Int32), (), rfl, ⟨(congrArg (·.1) hm).symm, (congrArg (·.2) hm).symm⟩, by rw [ht]; exact hP, va_K.moved hW.alike hK, hD⟩, hS.F ht⟩) hS.2.2 dX1_top_1
abbrev rm_X1_placeInList : Room := { frames := 0, cells := 0, slots := 0, locals := 0 }
def m_X1_placeInList (K : Nat) (p1 : Int32) (p2 : Int32) : Option (Int32 × Unit) :=
  some ((-1 : Int32), ())
set_option maxHeartbeats 4000000 in
set_option maxRecDepth 100000 in
theorem c_X1_placeInList (l : Launch) (dC : Nat → ClassId) (dI : Nat → Nat → Nat) (cI cJ cZ : ClassId) (K : Nat) (a0 : Nat) (p1 : Int32) (p2 : Int32) (sz : Nat) (rv : Int32) (uv : Unit) (hm : m_X1_placeInList K p1 p2 = some (rv, uv)) : Met l yX1_placeInList wsX1_placeInList rm_X1_placeInList (zz_pre dC dI [(cI, .int), (cJ, .long), (cZ, .boolean)] [] sz [.ref a0, .int p1, .int p2]) (va_Qi (fun r u => rv = r ∧ uv = u) (fun u t => zz_wo dC dI [(cI, .int), (cJ, .long), (cZ, .boolean)] (va_A [] sz) (ce_no cI cJ cZ u) t) (va_A [] sz)) 0 0 (va_A [] sz) := by
  refine Met.ofW (cc := cX1_placeInList) (maxL := 3) (ret := (some .int)) (by decide) rfl ?_
  intro p e s m args below meth c s₁ B hml hv
  obtain ⟨rfl, hsz, hP, hK, hD0, hN⟩ := hv
  have hx := B.exec
  have hb := B.bytes
  have hr := B.returns
  have hts := atoms_spec (ws := wsX1_placeInList) B.pre
  have hown : s.vm.findClass RX1 = some m.cls := findClass_of_methodNamed B.named
  have hlocks := B.notSynchronized
  have hS0 : CallFix p m c cX1_placeInList 3 s #[.ref a0, .int p1, .int p2] wsX1_placeInList RX1 := ⟨hx, hb, hml, hown, hts⟩
  subst hsz
  have hD := hD0.self (sz := s.heap.size)
  generalize hAe : va_A [] s.heap.size = A at hD ⊢
  have hA : ∀ q : Nat, s.heap.size ≤ q → A q := fun q h => by rw [← hAe]; exact Or.inr h
  have hS : va_S A s.heap s.heap [] := va_S.rf
  have hl := lv_entry ([.ref a0, .int p1, .int p2]) (n := 3) (Nat.le_of_ble_eq_true rfl)
  rw [lg_entry_eq]
  generalize (lg_sl ([.ref a0, .int p1, .int p2]) ++ List.replicate (3 - (lg_sl ([.ref a0, .int p1, .int p2])).length) Slot.unset).toArray = ls at hl ⊢
  have hl : lv_has ls 3 [(0, .ref a0), (1, .int p1), (2, .int p2)] := hl
  unfold m_X1_placeInList at hm
  refine lv_iconst (v := (-1)) hx hb dX1_placeInList_0 (by decide) ?_
  have hm := Option.some.inj hm
  exact W.iret (v := (-1 : Int32)) hx hb hr (fun t ht hW => ⟨⟨(-1 : Int32), (), rfl, ⟨(congrArg (·.1) hm).symm, (congrArg (·.2) hm).symm⟩, by rw [ht]; exact hP, va_K.moved hW.alike hK, hD⟩, hS.F ht⟩) hS.2.2 dX1_placeInList_1
abbrev ce_X0 (cI cJ cZ : ClassId) (q0 q1 q2 q3 q4 q5 q6 q7 q8 q9 : Nat) (n0 : Nat) (n1 : Nat) (n2 : Nat) (n3 : Nat) (n4 : Nat) (n5 : Nat) (n6 : Nat) (k0 : Int32) (u : Int32 × Int32 × Int32 × Int32 × Int32 × (Nat → Int32) × (Nat → Int32) × (Nat → Int32) × (Nat → Int32) × (Nat → Int32) × Int32 × Int32 × (Nat → Int32) × (Nat → Int32)) : va_W := [(q0, .inr (0, [.ref q1, .int k0, .int u.1])), (q1, .inr (6, [.ref q2, .ref q3, .ref q4, .ref q5, .ref q6, .ref q7, .int u.2.1, .int u.2.2.1, .int u.2.2.2.1, .int u.2.2.2.2.1])), (q2, .inl (cI, n0, .inl u.2.2.2.2.2.1)), (q3, .inl (cI, n1, .inl u.2.2.2.2.2.2.1)), (q4, .inl (cI, n2, .inl u.2.2.2.2.2.2.2.1)), (q5, .inl (cI, n3, .inl u.2.2.2.2.2.2.2.2.1)), (q6, .inl (cI, n4, .inl u.2.2.2.2.2.2.2.2.2.1)), (q7, .inr (9, [.ref q8, .ref q9, .int u.2.2.2.2.2.2.2.2.2.2.1, .int u.2.2.2.2.2.2.2.2.2.2.2.1])), (q8, .inl (cI, n5, .inl u.2.2.2.2.2.2.2.2.2.2.2.2.1)), (q9, .inl (cI, n6, .inl u.2.2.2.2.2.2.2.2.2.2.2.2.2))]
abbrev rm_X0_begin : Room := { frames := 0, cells := 0, slots := 0, locals := 0 }
theorem in_X0_begin_X0 : ∀ w ∈ wsX00, w ∈ wsX0_begin := by decide +kernel
def m_X0_begin (K : Nat) (n0 : Nat) (n1 : Nat) (n2 : Nat) (n3 : Nat) (n4 : Nat) (n5 : Nat) (n6 : Nat) (k0 : Int32) (s0 : Int32) (s1 : Int32) (s2 : Int32) (s3 : Int32) (s4 : Int32) (s5 : Nat → Int32) (s6 : Nat → Int32) (s7 : Nat → Int32) (s8 : Nat → Int32) (s9 : Nat → Int32) (s10 : Int32) (s11 : Int32) (s12 : Nat → Int32) (s13 : Nat → Int32) : Option (Int32 × Int32 × Int32 × Int32 × Int32 × (Nat → Int32) × (Nat → Int32) × (Nat → Int32) × (Nat → Int32) × (Nat → Int32) × Int32 × Int32 × (Nat → Int32) × (Nat → Int32)) :=
  some (((0 : Int32), s1, s2, s3, s4, s5, s6, s7, s8, s9, s10, s11, s12, s13))
set_option maxHeartbeats 4000000 in
set_option maxRecDepth 100000 in
theorem c_X0_begin (l : Launch) (dC : Nat → ClassId) (dI : Nat → Nat → Nat) (cI cJ cZ : ClassId) (K : Nat) (q0 q1 q2 q3 q4 q5 q6 q7 q8 q9 : Nat) (n0 : Nat) (n1 : Nat) (n2 : Nat) (n3 : Nat) (n4 : Nat) (n5 : Nat) (n6 : Nat) (k0 : Int32) (s0 : Int32) (s1 : Int32) (s2 : Int32) (s3 : Int32) (s4 : Int32) (s5 : Nat → Int32) (s6 : Nat → Int32) (s7 : Nat → Int32) (s8 : Nat → Int32) (s9 : Nat → Int32) (s10 : Int32) (s11 : Int32) (s12 : Nat → Int32) (s13 : Nat → Int32) (sz : Nat) (uv : Int32 × Int32 × Int32 × Int32 × Int32 × (Nat → Int32) × (Nat → Int32) × (Nat → Int32) × (Nat → Int32) × (Nat → Int32) × Int32 × Int32 × (Nat → Int32) × (Nat → Int32)) (hm : m_X0_begin K n0 n1 n2 n3 n4 n5 n6 k0 s0 s1 s2 s3 s4 s5 s6 s7 s8 s9 s10 s11 s12 s13 = some uv) : Met l yX0_begin wsX0_begin rm_X0_begin (zz_pre dC dI [(cI, .int), (cJ, .long), (cZ, .boolean)] [(q0, .inr (0, [.ref q1, .int k0, .int s0])), (q1, .inr (6, [.ref q2, .ref q3, .ref q4, .ref q5, .ref q6, .ref q7, .int s1, .int s2, .int s3, .int s4])), (q2, .inl (cI, n0, .inl s5)), (q3, .inl (cI, n1, .inl s6)), (q4, .inl (cI, n2, .inl s7)), (q5, .inl (cI, n3, .inl s8)), (q6, .inl (cI, n4, .inl s9)), (q7, .inr (9, [.ref q8, .ref q9, .int s10, .int s11])), (q8, .inl (cI, n5, .inl s12)), (q9, .inl (cI, n6, .inl s13))] sz [.ref q0]) (va_Qv (fun u => uv = u) (fun u t => zz_wo dC dI [(cI, .int), (cJ, .long), (cZ, .boolean)] (va_A [(q0, .inr (0, [.ref q1, .int k0, .int s0])), (q1, .inr (6, [.ref q2, .ref q3, .ref q4, .ref q5, .ref q6, .ref q7, .int s1, .int s2, .int s3, .int s4])), (q2, .inl (cI, n0, .inl s5)), (q3, .inl (cI, n1, .inl s6)), (q4, .inl (cI, n2, .inl s7)), (q5, .inl (cI, n3, .inl s8)), (q6, .inl (cI, n4, .inl s9)), (q7, .inr (9, [.ref q8, .ref q9, .int s10, .int s11])), (q8, .inl (cI, n5, .inl s12)), (q9, .inl (cI, n6, .inl s13))] sz) (ce_X0 cI cJ cZ q0 q1 q2 q3 q4 q5 q6 q7 q8 q9 n0 n1 n2 n3 n4 n5 n6 k0 u) t) (va_A [(q0, .inr (0, [.ref q1, .int k0, .int s0])), (q1, .inr (6, [.ref q2, .ref q3, .ref q4, .ref q5, .ref q6, .ref q7, .int s1, .int s2, .int s3, .int s4])), (q2, .inl (cI, n0, .inl s5)), (q3, .inl (cI, n1, .inl s6)), (q4, .inl (cI, n2, .inl s7)), (q5, .inl (cI, n3, .inl s8)), (q6, .inl (cI, n4, .inl s9)), (q7, .inr (9, [.ref q8, .ref q9, .int s10, .int s11])), (q8, .inl (cI, n5, .inl s12)), (q9, .inl (cI, n6, .inl s13))] sz)) 0 0 (va_A [(q0, .inr (0, [.ref q1, .int k0, .int s0])), (q1, .inr (6, [.ref q2, .ref q3, .ref q4, .ref q5, .ref q6, .ref q7, .int s1, .int s2, .int s3, .int s4])), (q2, .inl (cI, n0, .inl s5)), (q3, .inl (cI, n1, .inl s6)), (q4, .inl (cI, n2, .inl s7)), (q5, .inl (cI, n3, .inl s8)), (q6, .inl (cI, n4, .inl s9)), (q7, .inr (9, [.ref q8, .ref q9, .int s10, .int s11])), (q8, .inl (cI, n5, .inl s12)), (q9, .inl (cI, n6, .inl s13))] sz) := by
  refine Met.ofW (cc := cX0_begin) (maxL := 1) (ret := none) (by decide) rfl ?_
  intro p e s m args below meth c s₁ B hml hv
  obtain ⟨rfl, hsz, hP, hK, hD0, hN⟩ := hv
  have hx := B.exec
  have hb := B.bytes
  have hr := B.returns
  have hts := atoms_spec (ws := wsX0_begin) B.pre
  have hown : s.vm.findClass RX0 = some m.cls := findClass_of_methodNamed B.named
  have hlocks := B.notSynchronized
  have hS0 : CallFix p m c cX0_begin 1 s #[.ref q0] wsX0_begin RX0 := ⟨hx, hb, hml, hown, hts⟩
  subst hsz
  have hD := hD0.self (sz := s.heap.size)
  generalize hAe : va_A [(q0, .inr (0, [.ref q1, .int k0, .int s0])), (q1, .inr (6, [.ref q2, .ref q3, .ref q4, .ref q5, .ref q6, .ref q7, .int s1, .int s2, .int s3, .int s4])), (q2, .inl (cI, n0, .inl s5)), (q3, .inl (cI, n1, .inl s6)), (q4, .inl (cI, n2, .inl s7)), (q5, .inl (cI, n3, .inl s8)), (q6, .inl (cI, n4, .inl s9)), (q7, .inr (9, [.ref q8, .ref q9, .int s10, .int s11])), (q8, .inl (cI, n5, .inl s12)), (q9, .inl (cI, n6, .inl s13))] s.heap.size = A at hD ⊢
  have hA : ∀ q : Nat, s.heap.size ≤ q → A q := fun q h => by rw [← hAe]; exact Or.inr h
  have hS : va_S A s.heap s.heap [] := va_S.rf
  have hl := lv_entry ([.ref q0]) (n := 1) (Nat.le_of_ble_eq_true rfl)
  rw [lg_entry_eq]
  generalize (lg_sl ([.ref q0]) ++ List.replicate (1 - (lg_sl ([.ref q0])).length) Slot.unset).toArray = ls at hl ⊢
  have hl : lv_has ls 1 [(0, .ref q0)] := hl
  have inX0 := in_X0_begin_X0
  have f9 := hts (.fieldLink RX0 9 "RoomForms$Fits" "lastEnd" "I") (by decide +kernel)
  unfold m_X0_begin at hm
  refine lv_aload_n hx hb dX0_begin_0 rfl (lv_at hl 0 rfl) ?_
  refine lv_iconst (v := 0) hx hb dX0_begin_1 (by decide) ?_
  refine va_put (D := (dC, dI)) (ci := 0) (v := .int ((0 : Int32))) (ty := .int) (C := RX0) (T := TX0) (N := 3) hx hb hts inX0 tyX0 tyX0_ok nmX0 hown hK hP hD hS 0 rfl rfl 2 (by decide) f9 (fun _ h9 => h9) rfl (by decide +kernel) rfl rfl (Nat.le_of_ble_eq_true rfl) dX0_begin_2 (fun H locs hP hD hS => ?_)
  have hP : va_P (dC, dI) vwCl [(q0, .inr (0, [.ref q1, .int k0, .int ((0 : Int32))])), (q1, .inr (6, [.ref q2, .ref q3, .ref q4, .ref q5, .ref q6, .ref q7, .int s1, .int s2, .int s3, .int s4])), (q2, .inl (cI, n0, .inl s5)), (q3, .inl (cI, n1, .inl s6)), (q4, .inl (cI, n2, .inl s7)), (q5, .inl (cI, n3, .inl s8)), (q6, .inl (cI, n4, .inl s9)), (q7, .inr (9, [.ref q8, .ref q9, .int s10, .int s11])), (q8, .inl (cI, n5, .inl s12)), (q9, .inl (cI, n6, .inl s13))] _ := hP
  have hD : va_D A [(q0, .inr (0, [.ref q1, .int k0, .int ((0 : Int32))])), (q1, .inr (6, [.ref q2, .ref q3, .ref q4, .ref q5, .ref q6, .ref q7, .int s1, .int s2, .int s3, .int s4])), (q2, .inl (cI, n0, .inl s5)), (q3, .inl (cI, n1, .inl s6)), (q4, .inl (cI, n2, .inl s7)), (q5, .inl (cI, n3, .inl s8)), (q6, .inl (cI, n4, .inl s9)), (q7, .inr (9, [.ref q8, .ref q9, .int s10, .int s11])), (q8, .inl (cI, n5, .inl s12)), (q9, .inl (cI, n6, .inl s13))] := hD
  have hm := Option.some.inj hm
  exact W.vret hx hb hr (fun t ht hW => ⟨⟨((0 : Int32), s1, s2, s3, s4, s5, s6, s7, s8, s9, s10, s11, s12, s13), rfl, hm.symm, by rw [ht]; exact hP, va_K.moved hW.alike hK, hD⟩, hS.F ht⟩) hS.2.2 dX0_begin_5
abbrev rm_X0_take : Room := { frames := 3, cells := 0, slots := 0, locals := 69 }
theorem in_X0_take_X0 : ∀ w ∈ wsX00, w ∈ wsX0_take := by decide +kernel
def m_X0_take (K : Nat) (n0 : Nat) (n1 : Nat) (n2 : Nat) (n3 : Nat) (n4 : Nat) (n5 : Nat) (n6 : Nat) (k0 : Int32) (p1 : Int32) (s0 : Int32) (s1 : Int32) (s2 : Int32) (s3 : Int32) (s4 : Int32) (s5 : Nat → Int32) (s6 : Nat → Int32) (s7 : Nat → Int32) (s8 : Nat → Int32) (s9 : Nat → Int32) (s10 : Int32) (s11 : Int32) (s12 : Nat → Int32) (s13 : Nat → Int32) : Option (Int32 × Int32 × Int32 × Int32 × Int32 × Int32 × (Nat → Int32) × (Nat → Int32) × (Nat → Int32) × (Nat → Int32) × (Nat → Int32) × Int32 × Int32 × (Nat → Int32) × (Nat → Int32)) :=
  (m_X7_listRuns K n0 n1 n2 n3 n4 n5 n6 s1 s2 s3 s4 s5 s6 s7 s8 s9 s10 s11 s12 s13).bind fun ⟨t_1_0, t_1_1, t_1_2, t_1_3, t_1_4, t_1_5, t_1_6, t_1_7, t_1_8, t_1_9, t_1_10, t_1_11, t_1_12⟩ => ((m_X10_find K n5 n6 k0 p1 s0 t_1_9 t_1_10 t_1_11 t_1_12).bind fun ⟨r_2, t_2_0, t_2_1, t_2_2, t_2_3⟩ => ((m_X10_looked K n5 n6 t_2_0 t_2_1 t_2_2 t_2_3).bind fun ⟨r_3, t_3_0, t_3_1, t_3_2, t_3_3⟩ => ((m_X7_addLooked K n0 n1 n2 n3 n4 n5 n6 r_3 t_1_0 t_1_1 t_1_2 t_1_3 t_1_4 t_1_5 t_1_6 t_1_7 t_1_8 t_3_0 t_3_1 t_3_2 t_3_3).bind fun ⟨t_4_0, t_4_1, t_4_2, t_4_3, t_4_4, t_4_5, t_4_6, t_4_7, t_4_8, t_4_9, t_4_10, t_4_11, t_4_12⟩ => (if r_2 = ((-1 : Int32)) then some (r_2, (s0, t_4_0, t_4_1, t_4_2, t_4_3, t_4_4, t_4_5, t_4_6, t_4_7, t_4_8, t_4_9, t_4_10, t_4_11, t_4_12))
  else some (r_2, (r_2 + p1, t_4_0, t_4_1, t_4_2, t_4_3, t_4_4, t_4_5, t_4_6, t_4_7, t_4_8, t_4_9, t_4_10, t_4_11, t_4_12))))))
set_option maxHeartbeats 4000000 in
set_option maxRecDepth 100000 in
theorem c_X0_take (l : Launch) (dC : Nat → ClassId) (dI : Nat → Nat → Nat) (cI cJ cZ : ClassId) (K : Nat) (q0 q1 q2 q3 q4 q5 q6 q7 q8 q9 : Nat) (n0 : Nat) (n1 : Nat) (n2 : Nat) (n3 : Nat) (n4 : Nat) (n5 : Nat) (n6 : Nat) (k0 : Int32) (s0 : Int32) (s1 : Int32) (s2 : Int32) (s3 : Int32) (s4 : Int32) (s5 : Nat → Int32) (s6 : Nat → Int32) (s7 : Nat → Int32) (s8 : Nat → Int32) (s9 : Nat → Int32) (s10 : Int32) (s11 : Int32) (s12 : Nat → Int32) (s13 : Nat → Int32) (p1 : Int32) (sz : Nat) (rv : Int32) (uv : Int32 × Int32 × Int32 × Int32 × Int32 × (Nat → Int32) × (Nat → Int32) × (Nat → Int32) × (Nat → Int32) × (Nat → Int32) × Int32 × Int32 × (Nat → Int32) × (Nat → Int32)) (hm : m_X0_take K n0 n1 n2 n3 n4 n5 n6 k0 p1 s0 s1 s2 s3 s4 s5 s6 s7 s8 s9 s10 s11 s12 s13 = some (rv, uv)) : Met l yX0_take wsX0_take rm_X0_take (zz_pre dC dI [(cI, .int), (cJ, .long), (cZ, .boolean)] [(q0, .inr (0, [.ref q1, .int k0, .int s0])), (q1, .inr (6, [.ref q2, .ref q3, .ref q4, .ref q5, .ref q6, .ref q7, .int s1, .int s2, .int s3, .int s4])), (q2, .inl (cI, n0, .inl s5)), (q3, .inl (cI, n1, .inl s6)), (q4, .inl (cI, n2, .inl s7)), (q5, .inl (cI, n3, .inl s8)), (q6, .inl (cI, n4, .inl s9)), (q7, .inr (9, [.ref q8, .ref q9, .int s10, .int s11])), (q8, .inl (cI, n5, .inl s12)), (q9, .inl (cI, n6, .inl s13))] sz [.ref q0, .int p1]) (va_Qi (fun r u => rv = r ∧ uv = u) (fun u t => zz_wo dC dI [(cI, .int), (cJ, .long), (cZ, .boolean)] (va_A [(q0, .inr (0, [.ref q1, .int k0, .int s0])), (q1, .inr (6, [.ref q2, .ref q3, .ref q4, .ref q5, .ref q6, .ref q7, .int s1, .int s2, .int s3, .int s4])), (q2, .inl (cI, n0, .inl s5)), (q3, .inl (cI, n1, .inl s6)), (q4, .inl (cI, n2, .inl s7)), (q5, .inl (cI, n3, .inl s8)), (q6, .inl (cI, n4, .inl s9)), (q7, .inr (9, [.ref q8, .ref q9, .int s10, .int s11])), (q8, .inl (cI, n5, .inl s12)), (q9, .inl (cI, n6, .inl s13))] sz) (ce_X0 cI cJ cZ q0 q1 q2 q3 q4 q5 q6 q7 q8 q9 n0 n1 n2 n3 n4 n5 n6 k0 u) t) (va_A [(q0, .inr (0, [.ref q1, .int k0, .int s0])), (q1, .inr (6, [.ref q2, .ref q3, .ref q4, .ref q5, .ref q6, .ref q7, .int s1, .int s2, .int s3, .int s4])), (q2, .inl (cI, n0, .inl s5)), (q3, .inl (cI, n1, .inl s6)), (q4, .inl (cI, n2, .inl s7)), (q5, .inl (cI, n3, .inl s8)), (q6, .inl (cI, n4, .inl s9)), (q7, .inr (9, [.ref q8, .ref q9, .int s10, .int s11])), (q8, .inl (cI, n5, .inl s12)), (q9, .inl (cI, n6, .inl s13))] sz)) 0 0 (va_A [(q0, .inr (0, [.ref q1, .int k0, .int s0])), (q1, .inr (6, [.ref q2, .ref q3, .ref q4, .ref q5, .ref q6, .ref q7, .int s1, .int s2, .int s3, .int s4])), (q2, .inl (cI, n0, .inl s5)), (q3, .inl (cI, n1, .inl s6)), (q4, .inl (cI, n2, .inl s7)), (q5, .inl (cI, n3, .inl s8)), (q6, .inl (cI, n4, .inl s9)), (q7, .inr (9, [.ref q8, .ref q9, .int s10, .int s11])), (q8, .inl (cI, n5, .inl s12)), (q9, .inl (cI, n6, .inl s13))] sz) := by
  refine Met.ofW (cc := cX0_take) (maxL := 4) (ret := (some .int)) (by decide) rfl ?_
  intro p e s m args below meth c s₁ B hml hv
  obtain ⟨rfl, hsz, hP, hK, hD0, hN⟩ := hv
  have hx := B.exec
  have hb := B.bytes
  have hr := B.returns
  have hts := atoms_spec (ws := wsX0_take) B.pre
  have hown : s.vm.findClass RX0 = some m.cls := findClass_of_methodNamed B.named
  have hlocks := B.notSynchronized
  have hS0 : CallFix p m c cX0_take 4 s #[.ref q0, .int p1] wsX0_take RX0 := ⟨hx, hb, hml, hown, hts⟩
  subst hsz
  have hD := hD0.self (sz := s.heap.size)
  generalize hAe : va_A [(q0, .inr (0, [.ref q1, .int k0, .int s0])), (q1, .inr (6, [.ref q2, .ref q3, .ref q4, .ref q5, .ref q6, .ref q7, .int s1, .int s2, .int s3, .int s4])), (q2, .inl (cI, n0, .inl s5)), (q3, .inl (cI, n1, .inl s6)), (q4, .inl (cI, n2, .inl s7)), (q5, .inl (cI, n3, .inl s8)), (q6, .inl (cI, n4, .inl s9)), (q7, .inr (9, [.ref q8, .ref q9, .int s10, .int s11])), (q8, .inl (cI, n5, .inl s12)), (q9, .inl (cI, n6, .inl s13))] s.heap.size = A at hD ⊢
  have hA : ∀ q : Nat, s.heap.size ≤ q → A q := fun q h => by rw [← hAe]; exact Or.inr h
  have hS : va_S A s.heap s.heap [] := va_S.rf
  have hl := lv_entry ([.ref q0, .int p1]) (n := 4) (Nat.le_of_ble_eq_true rfl)
  rw [lg_entry_eq]
  generalize (lg_sl ([.ref q0, .int p1]) ++ List.replicate (4 - (lg_sl ([.ref q0, .int p1])).length) Slot.unset).toArray = ls at hl ⊢
  have hl : lv_has ls 4 [(0, .ref q0), (1, .int p1)] := hl
  have inX0 := in_X0_take_X0
  have f9 := hts (.fieldLink RX0 9 "RoomForms$Fits" "lastEnd" "I") (by decide +kernel)
  have f15 := hts (.fieldLink RX0 15 "RoomForms$Fits" "number" "I") (by decide +kernel)
  have f18 := hts (.fieldLink RX0 18 "RoomForms$Fits" "room" "LRoomForms$Room;") (by decide +kernel)
  have sm0 := hts (.sameField "RoomForms$Fits" "RoomForms$Form" "room" "LRoomForms$Room;") (by decide +kernel)
  unfold m_X0_take at hm
  refine lv_aload_n hx hb dX0_take_0 rfl (lv_at hl 0 rfl) ?_
  refine va_get (D := (dC, dI)) (ci := 0) (v := .ref q1) (C := RX0) (T := TX0) (N := 3) hx hb hts inX0 hown hK hP 0 rfl rfl 0 (by decide) f18 (u_same sm0) rfl dX0_take_1 ?_
  obtain ⟨⟨t_1_0, t_1_1, t_1_2, t_1_3, t_1_4, t_1_5, t_1_6, t_1_7, t_1_8, t_1_9, t_1_10, t_1_11, t_1_12⟩, hc_1, hm⟩ := zz_bind hm
  have hPc := hP.sub (ws' := [(q1, .inr (6, [.ref q2, .ref q3, .ref q4, .ref q5, .ref q6, .ref q7, .int s1, .int s2, .int s3, .int s4])), (q2, .inl (cI, n0, .inl s5)), (q3, .inl (cI, n1, .inl s6)), (q4, .inl (cI, n2, .inl s7)), (q5, .inl (cI, n3, .inl s8)), (q6, .inl (cI, n4, .inl s9)), (q7, .inr (9, [.ref q8, .ref q9, .int s10, .int s11])), (q8, .inl (cI, n5, .inl s12)), (q9, .inl (cI, n6, .inl s13))]) [1, 2, 3, 4, 5, 6, 7, 8, 9] rfl
  have hDc := hD.sub (ws' := [(q1, .inr (6, [.ref q2, .ref q3, .ref q4, .ref q5, .ref q6, .ref q7, .int s1, .int s2, .int s3, .int s4])), (q2, .inl (cI, n0, .inl s5)), (q3, .inl (cI, n1, .inl s6)), (q4, .inl (cI, n2, .inl s7)), (q5, .inl (cI, n3, .inl s8)), (q6, .inl (cI, n4, .inl s9)), (q7, .inr (9, [.ref q8, .ref q9, .int s10, .int s11])), (q8, .inl (cI, n5, .inl s12)), (q9, .inl (cI, n6, .inl s13))]) [1, 2, 3, 4, 5, 6, 7, 8, 9] (by decide) rfl
  have hFc := va_free (wc := [(q1, .inr (6, [.ref q2, .ref q3, .ref q4, .ref q5, .ref q6, .ref q7, .int s1, .int s2, .int s3, .int s4])), (q2, .inl (cI, n0, .inl s5)), (q3, .inl (cI, n1, .inl s6)), (q4, .inl (cI, n2, .inl s7)), (q5, .inl (cI, n3, .inl s8)), (q6, .inl (cI, n4, .inl s9)), (q7, .inr (9, [.ref q8, .ref q9, .int s10, .int s11])), (q8, .inl (cI, n5, .inl s12)), (q9, .inl (cI, n6, .inl s13))]) hD hS hA [1, 2, 3, 4, 5, 6, 7, 8, 9] rfl
  refine va_callr (va_runV (As := []) (rest := []) hS0 (c_X7_listRuns l dC dI cI cJ cZ K q1 q2 q3 q4 q5 q6 q7 q8 q9 n0 n1 n2 n3 n4 n5 n6 s1 s2 s3 s4 s5 s6 s7 s8 s9 s10 s11 s12 s13 _ (t_1_0, t_1_1, t_1_2, t_1_3, t_1_4, t_1_5, t_1_6, t_1_7, t_1_8, t_1_9, t_1_10, t_1_11, t_1_12) hc_1) (cwV 0 hts gX0_take_X7_listRuns rfl rfl rfl (by decide +kernel) ⟨Nat.le_of_ble_eq_true rfl, Nat.le_of_ble_eq_true rfl⟩) (zz_pv hK hPc hDc hN (va_recv hK hPc (ci := 6) (q0 := 0) rfl rfl)) rfl rfl hl.1 rfl (lv_room (Nat.le_of_ble_eq_true rfl)) dX0_take_4 ⟨Nat.zero_le _, Nat.zero_le _⟩) hS (fun q _ h => hFc q h) hFc (fun u ra t H1 locs ht hvm hw hB hz1 hk1 hS => ?_)
  subst hw
  obtain ⟨rfl, hP1, hK1, hD1⟩ := hB
  rw [ht] at hP1
  obtain ⟨hP, hD⟩ := va_join (wr := [(q0, .inr (0, [.ref q1, .int k0, .int s0]))]) (w1 := [(q1, .inr (6, [.ref q2, .ref q3, .ref q4, .ref q5, .ref q6, .ref q7, .int t_1_0, .int t_1_1, .int t_1_2, .int t_1_3])), (q2, .inl (cI, n0, .inl t_1_4)), (q3, .inl (cI, n1, .inl t_1_5)), (q4, .inl (cI, n2, .inl t_1_6)), (q5, .inl (cI, n3, .inl t_1_7)), (q6, .inl (cI, n4, .inl t_1_8)), (q7, .inr (9, [.ref q8, .ref q9, .int t_1_9, .int t_1_10])), (q8, .inl (cI, n5, .inl t_1_11)), (q9, .inl (cI, n6, .inl t_1_12))]) hP hD [1, 2, 3, 4, 5, 6, 7, 8, 9] [0] rfl rfl (by decide) (by decide) hk1 hFc hP1 hD1
  have hP : va_P (dC, dI) vwCl [(q0, .inr (0, [.ref q1, .int k0, .int s0])), (q1, .inr (6, [.ref q2, .ref q3, .ref q4, .ref q5, .ref q6, .ref q7, .int t_1_0, .int t_1_1, .int t_1_2, .int t_1_3])), (q2, .inl (cI, n0, .inl t_1_4)), (q3, .inl (cI, n1, .inl t_1_5)), (q4, .inl (cI, n2, .inl t_1_6)), (q5, .inl (cI, n3, .inl t_1_7)), (q6, .inl (cI, n4, .inl t_1_8)), (q7, .inr (9, [.ref q8, .ref q9, .int t_1_9, .int t_1_10])), (q8, .inl (cI, n5, .inl t_1_11)), (q9, .inl (cI, n6, .inl t_1_12))] _ := hP
  have hD : va_D A [(q0, .inr (0, [.ref q1, .int k0, .int s0])), (q1, .inr (6, [.ref q2, .ref q3, .ref q4, .ref q5, .ref q6, .ref q7, .int t_1_0, .int t_1_1, .int t_1_2, .int t_1_3])), (q2, .inl (cI, n0, .inl t_1_4)), (q3, .inl (cI, n1, .inl t_1_5)), (q4, .inl (cI, n2, .inl t_1_6)), (q5, .inl (cI, n3, .inl t_1_7)), (q6, .inl (cI, n4, .inl t_1_8)), (q7, .inr (9, [.ref q8, .ref q9, .int t_1_9, .int t_1_10])), (q8, .inl (cI, n5, .inl t_1_11)), (q9, .inl (cI, n6, .inl t_1_12))] := hD
  refine lv_astore_n (lv' := [(2, .ref q7), (0, .ref q0), (1, .int p1)]) hx hb dX0_take_7 rfl hl (by decide) rfl (fun ls hl => ?_)
  refine lv_aload_n hx hb dX0_take_8 rfl (lv_at hl 0 rfl) ?_
  refine lv_aload_n hx hb dX0_take_9 rfl (lv_at hl 1 rfl) ?_
  refine va_get (D := (dC, dI)) (ci := 0) (v := .int k0) (C := RX0) (T := TX0) (N := 3) hx hb hts inX0 hown hK hP 0 rfl rfl 1 (by decide) f15 (fun _ h9 => h9) rfl dX0_take_10 ?_
  refine lv_iload_n hx hb dX0_take_13 rfl (lv_at hl 2 rfl) ?_
  refine lv_aload_n hx hb dX0_take_14 rfl (lv_at hl 1 rfl) ?_
  refine va_get (D := (dC, dI)) (ci := 0) (v := .int s0) (C := RX0) (T := TX0) (N := 3) hx hb hts inX0 hown hK hP 0 rfl rfl 2 (by decide) f9 (fun _ h9 => h9) rfl dX0_take_15 ?_
  obtain ⟨⟨r_2, t_2_0, t_2_1, t_2_2, t_2_3⟩, hc_2, hm⟩ := zz_bind hm
  have hPc := hP.sub (ws' := [(q7, .inr (9, [.ref q8, .ref q9, .int t_1_9, .int t_1_10])), (q8, .inl (cI, n5, .inl t_1_11)), (q9, .inl (cI, n6, .inl t_1_12))]) [7, 8, 9] rfl
  have hDc := hD.sub (ws' := [(q7, .inr (9, [.ref q8, .ref q9, .int t_1_9, .int t_1_10])), (q8, .inl (cI, n5, .inl t_1_11)), (q9, .inl (cI, n6, .inl t_1_12))]) [7, 8, 9] (by decide) rfl
  have hFc := va_free (wc := [(q7, .inr (9, [.ref q8, .ref q9, .int t_1_9, .int t_1_10])), (q8, .inl (cI, n5, .inl t_1_11)), (q9, .inl (cI, n6, .inl t_1_12))]) hD hS hA [7, 8, 9] rfl
  refine va_calli (va_runV (As := [.int k0, .int p1, .int s0]) (rest := []) hS0 (c_X10_find l dC dI cI cJ cZ K q7 q8 q9 n5 n6 t_1_9 t_1_10 t_1_11 t_1_12 k0 p1 s0 _ r_2 (t_2_0, t_2_1, t_2_2, t_2_3) hc_2) (cwV 3 hts gX0_take_X10_find rfl rfl rfl (by decide +kernel) ⟨Nat.le_of_ble_eq_true rfl, Nat.le_of_ble_eq_true rfl⟩) (zz_pv hK hPc hDc hN (va_recv hK hPc (ci := 9) (q0 := 0) rfl rfl)) rfl rfl hl.1 rfl (lv_room (Nat.le_of_ble_eq_true rfl)) dX0_take_18 ⟨Nat.zero_le _, Nat.zero_le _⟩) hS (fun q _ h => hFc q h) hFc (fun r u t H1 locs ht hvm hw hB hz1 hk1 hS => ?_)
  obtain ⟨rfl, rfl⟩ := hw
  obtain ⟨hP1, hK1, hD1⟩ := hB
  rw [ht] at hP1
  obtain ⟨hP, hD⟩ := va_join (wr := [(q0, .inr (0, [.ref q1, .int k0, .int s0])), (q1, .inr (6, [.ref q2, .ref q3, .ref q4, .ref q5, .ref q6, .ref q7, .int t_1_0, .int t_1_1, .int t_1_2, .int t_1_3])), (q2, .inl (cI, n0, .inl t_1_4)), (q3, .inl (cI, n1, .inl t_1_5)), (q4, .inl (cI, n2, .inl t_1_6)), (q5, .inl (cI, n3, .inl t_1_7)), (q6, .inl (cI, n4, .inl t_1_8))]) (w1 := [(q7, .inr (9, [.ref q8, .ref q9, .int t_2_0, .int t_2_1])), (q8, .inl (cI, n5, .inl t_2_2)), (q9, .inl (cI, n6, .inl t_2_3))]) hP hD [7, 8, 9] [0, 1, 2, 3, 4, 5, 6] rfl rfl (by decide) (by decide) hk1 hFc hP1 hD1
  have hP : va_P (dC, dI) vwCl [(q0, .inr (0, [.ref q1, .int k0, .int s0])), (q1, .inr (6, [.ref q2, .ref q3, .ref q4, .ref q5, .ref q6, .ref q7, .int t_1_0, .int t_1_1, .int t_1_2, .int t_1_3])), (q2, .inl (cI, n0, .inl t_1_4)), (q3, .inl (cI, n1, .inl t_1_5)), (q4, .inl (cI, n2, .inl t_1_6)), (q5, .inl (cI, n3, .inl t_1_7)), (q6, .inl (cI, n4, .inl t_1_8)), (q7, .inr (9, [.ref q8, .ref q9, .int t_2_0, .int t_2_1])), (q8, .inl (cI, n5, .inl t_2_2)), (q9, .inl (cI, n6, .inl t_2_3))] _ := hP
  have hD : va_D A [(q0, .inr (0, [.ref q1, .int k0, .int s0])), (q1, .inr (6, [.ref q2, .ref q3, .ref q4, .ref q5, .ref q6, .ref q7, .int t_1_0, .int t_1_1, .int t_1_2, .int t_1_3])), (q2, .inl (cI, n0, .inl t_1_4)), (q3, .inl (cI, n1, .inl t_1_5)), (q4, .inl (cI, n2, .inl t_1_6)), (q5, .inl (cI, n3, .inl t_1_7)), (q6, .inl (cI, n4, .inl t_1_8)), (q7, .inr (9, [.ref q8, .ref q9, .int t_2_0, .int t_2_1])), (q8, .inl (cI, n5, .inl t_2_2)), (q9, .inl (cI, n6, .inl t_2_3))] := hD
  refine lv_istore_n (lv' := [(3, .int r_2), (2, .ref q7), (0, .ref q0), (1, .int p1)]) hx hb dX0_take_21 rfl hl (by decide) rfl (fun ls hl => ?_)
  refine lv_aload_n hx hb dX0_take_22 rfl (lv_at hl 2 rfl) ?_
  refine va_get (D := (dC, dI)) (ci := 0) (v := .ref q1) (C := RX0) (T := TX0) (N := 3) hx hb hts inX0 hown hK hP 0 rfl rfl 0 (by decide) f18 (u_same sm0) rfl dX0_take_23 ?_
  refine lv_aload_n hx hb dX0_take_26 rfl (lv_at hl 1 rfl) ?_
  obtain ⟨⟨r_3, t_3_0, t_3_1, t_3_2, t_3_3⟩, hc_3, hm⟩ := zz_bind hm
  have hPc := hP.sub (ws' := [(q7, .inr (9, [.ref q8, .ref q9, .int t_2_0, .int t_2_1])), (q8, .inl (cI, n5, .inl t_2_2)), (q9, .inl (cI, n6, .inl t_2_3))]) [7, 8, 9] rfl
  have hDc := hD.sub (ws' := [(q7, .inr (9, [.ref q8, .ref q9, .int t_2_0, .int t_2_1])), (q8, .inl (cI, n5, .inl t_2_2)), (q9, .inl (cI, n6, .inl t_2_3))]) [7, 8, 9] (by decide) rfl
  have hFc := va_free (wc := [(q7, .inr (9, [.ref q8, .ref q9, .int t_2_0, .int t_2_1])), (q8, .inl (cI, n5, .inl t_2_2)), (q9, .inl (cI, n6, .inl t_2_3))]) hD hS hA [7, 8, 9] rfl
  refine va_calli (va_runV (As := []) (rest := [.ref q1]) hS0 (c_X10_looked l dC dI cI cJ cZ K q7 q8 q9 n5 n6 t_2_0 t_2_1 t_2_2 t_2_3 _ r_3 (t_3_0, t_3_1, t_3_2, t_3_3) hc_3) (cwV 0 hts gX0_take_X10_looked rfl rfl rfl (by decide +kernel) ⟨Nat.le_of_ble_eq_true rfl, Nat.le_of_ble_eq_true rfl⟩) (zz_pv hK hPc hDc hN (va_recv hK hPc (ci := 9) (q0 := 0) rfl rfl)) rfl rfl hl.1 rfl (lv_room (Nat.le_of_ble_eq_true rfl)) dX0_take_27 ⟨Nat.zero_le _, Nat.zero_le _⟩) hS (fun q _ h => hFc q h) hFc (fun r u t H1 locs ht hvm hw hB hz1 hk1 hS => ?_)
  obtain ⟨rfl, rfl⟩ := hw
  obtain ⟨hP1, hK1, hD1⟩ := hB
  rw [ht] at hP1
  obtain ⟨hP, hD⟩ := va_join (wr := [(q0, .inr (0, [.ref q1, .int k0, .int s0])), (q1, .inr (6, [.ref q2, .ref q3, .ref q4, .ref q5, .ref q6, .ref q7, .int t_1_0, .int t_1_1, .int t_1_2, .int t_1_3])), (q2, .inl (cI, n0, .inl t_1_4)), (q3, .inl (cI, n1, .inl t_1_5)), (q4, .inl (cI, n2, .inl t_1_6)), (q5, .inl (cI, n3, .inl t_1_7)), (q6, .inl (cI, n4, .inl t_1_8))]) (w1 := [(q7, .inr (9, [.ref q8, .ref q9, .int t_3_0, .int t_3_1])), (q8, .inl (cI, n5, .inl t_3_2)), (q9, .inl (cI, n6, .inl t_3_3))]) hP hD [7, 8, 9] [0, 1, 2, 3, 4, 5, 6] rfl rfl (by decide) (by decide) hk1 hFc hP1 hD1
  have hP : va_P (dC, dI) vwCl [(q0, .inr (0, [.ref q1, .int k0, .int s0])), (q1, .inr (6, [.ref q2, .ref q3, .ref q4, .ref q5, .ref q6, .ref q7, .int t_1_0, .int t_1_1, .int t_1_2, .int t_1_3])), (q2, .inl (cI, n0, .inl t_1_4)), (q3, .inl (cI, n1, .inl t_1_5)), (q4, .inl (cI, n2, .inl t_1_6)), (q5, .inl (cI, n3, .inl t_1_7)), (q6, .inl (cI, n4, .inl t_1_8)), (q7, .inr (9, [.ref q8, .ref q9, .int t_3_0, .int t_3_1])), (q8, .inl (cI, n5, .inl t_3_2)), (q9, .inl (cI, n6, .inl t_3_3))] _ := hP
  have hD : va_D A [(q0, .inr (0, [.ref q1, .int k0, .int s0])), (q1, .inr (6, [.ref q2, .ref q3, .ref q4, .ref q5, .ref q6, .ref q7, .int t_1_0, .int t_1_1, .int t_1_2, .int t_1_3])), (q2, .inl (cI, n0, .inl t_1_4)), (q3, .inl (cI, n1, .inl t_1_5)), (q4, .inl (cI, n2, .inl t_1_6)), (q5, .inl (cI, n3, .inl t_1_7)), (q6, .inl (cI, n4, .inl t_1_8)), (q7, .inr (9, [.ref q8, .ref q9, .int t_3_0, .int t_3_1])), (q8, .inl (cI, n5, .inl t_3_2)), (q9, .inl (cI, n6, .inl t_3_3))] := hD
  obtain ⟨⟨t_4_0, t_4_1, t_4_2, t_4_3, t_4_4, t_4_5, t_4_6, t_4_7, t_4_8, t_4_9, t_4_10, t_4_11, t_4_12⟩, hc_4, hm⟩ := zz_bind hm
  have hPc := hP.sub (ws' := [(q1, .inr (6, [.ref q2, .ref q3, .ref q4, .ref q5, .ref q6, .ref q7, .int t_1_0, .int t_1_1, .int t_1_2, .int t_1_3])), (q2, .inl (cI, n0, .inl t_1_4)), (q3, .inl (cI, n1, .inl t_1_5)), (q4, .inl (cI, n2, .inl t_1_6)), (q5, .inl (cI, n3, .inl t_1_7)), (q6, .inl (cI, n4, .inl t_1_8)), (q7, .inr (9, [.ref q8, .ref q9, .int t_3_0, .int t_3_1])), (q8, .inl (cI, n5, .inl t_3_2)), (q9, .inl (cI, n6, .inl t_3_3))]) [1, 2, 3, 4, 5, 6, 7, 8, 9] rfl
  have hDc := hD.sub (ws' := [(q1, .inr (6, [.ref q2, .ref q3, .ref q4, .ref q5, .ref q6, .ref q7, .int t_1_0, .int t_1_1, .int t_1_2, .int t_1_3])), (q2, .inl (cI, n0, .inl t_1_4)), (q3, .inl (cI, n1, .inl t_1_5)), (q4, .inl (cI, n2, .inl t_1_6)), (q5, .inl (cI, n3, .inl t_1_7)), (q6, .inl (cI, n4, .inl t_1_8)), (q7, .inr (9, [.ref q8, .ref q9, .int t_3_0, .int t_3_1])), (q8, .inl (cI, n5, .inl t_3_2)), (q9, .inl (cI, n6, .inl t_3_3))]) [1, 2, 3, 4, 5, 6, 7, 8, 9] (by decide) rfl
  have hFc := va_free (wc := [(q1, .inr (6, [.ref q2, .ref q3, .ref q4, .ref q5, .ref q6, .ref q7, .int t_1_0, .int t_1_1, .int t_1_2, .int t_1_3])), (q2, .inl (cI, n0, .inl t_1_4)), (q3, .inl (cI, n1, .inl t_1_5)), (q4, .inl (cI, n2, .inl t_1_6)), (q5, .inl (cI, n3, .inl t_1_7)), (q6, .inl (cI, n4, .inl t_1_8)), (q7, .inr (9, [.ref q8, .ref q9, .int t_3_0, .int t_3_1])), (q8, .inl (cI, n5, .inl t_3_2)), (q9, .inl (cI, n6, .inl t_3_3))]) hD hS hA [1, 2, 3, 4, 5, 6, 7, 8, 9] rfl
  refine va_callv (va_runV (As := [.int r_3]) (rest := []) hS0 (c_X7_addLooked l dC dI cI cJ cZ K q1 q2 q3 q4 q5 q6 q7 q8 q9 n0 n1 n2 n3 n4 n5 n6 t_1_0 t_1_1 t_1_2 t_1_3 t_1_4 t_1_5 t_1_6 t_1_7 t_1_8 t_3_0 t_3_1 t_3_2 t_3_3 r_3 _ (t_4_0, t_4_1, t_4_2, t_4_3, t_4_4, t_4_5, t_4_6, t_4_7, t_4_8, t_4_9, t_4_10, t_4_11, t_4_12) hc_4) (cwV 1 hts gX0_take_X7_addLooked rfl rfl rfl (by decide +kernel) ⟨Nat.le_of_ble_eq_true rfl, Nat.le_of_ble_eq_true rfl⟩) (zz_pv hK hPc hDc hN (va_recv hK hPc (ci := 6) (q0 := 0) rfl rfl)) rfl rfl hl.1 rfl (lv_room (Nat.le_of_ble_eq_true rfl)) dX0_take_30 ⟨Nat.zero_le _, Nat.zero_le _⟩) hS (fun q _ h => hFc q h) hFc (fun u t H1 locs ht hvm hw hB hz1 hk1 hS => ?_)
  subst hw
  obtain ⟨hP1, hK1, hD1⟩ := hB
  rw [ht] at hP1
  obtain ⟨hP, hD⟩ := va_join (wr := [(q0, .inr (0, [.ref q1, .int k0, .int s0]))]) (w1 := [(q1, .inr (6, [.ref q2, .ref q3, .ref q4, .ref q5, .ref q6, .ref q7, .int t_4_0, .int t_4_1, .int t_4_2, .int t_4_3])), (q2, .inl (cI, n0, .inl t_4_4)), (q3, .inl (cI, n1, .inl t_4_5)), (q4, .inl (cI, n2, .inl t_4_6)), (q5, .inl (cI, n3, .inl t_4_7)), (q6, .inl (cI, n4, .inl t_4_8)), (q7, .inr (9, [.ref q8, .ref q9, .int t_4_9, .int t_4_10])), (q8, .inl (cI, n5, .inl t_4_11)), (q9, .inl (cI, n6, .inl t_4_12))]) hP hD [1, 2, 3, 4, 5, 6, 7, 8, 9] [0] rfl rfl (by decide) (by decide) hk1 hFc hP1 hD1
  have hP : va_P (dC, dI) vwCl [(q0, .inr (0, [.ref q1, .int k0, .int s0])), (q1, .inr (6, [.ref q2, .ref q3, .ref q4, .ref q5, .ref q6, .ref q7, .int t_4_0, .int t_4_1, .int t_4_2, .int t_4_3])), (q2, .inl (cI, n0, .inl t_4_4)), (q3, .inl (cI, n1, .inl t_4_5)), (q4, .inl (cI, n2, .inl t_4_6)), (q5, .inl (cI, n3, .inl t_4_7)), (q6, .inl (cI, n4, .inl t_4_8)), (q7, .inr (9, [.ref q8, .ref q9, .int t_4_9, .int t_4_10])), (q8, .inl (cI, n5, .inl t_4_11)), (q9, .inl (cI, n6, .inl t_4_12))] _ := hP
  have hD : va_D A [(q0, .inr (0, [.ref q1, .int k0, .int s0])), (q1, .inr (6, [.ref q2, .ref q3, .ref q4, .ref q5, .ref q6, .ref q7, .int t_4_0, .int t_4_1, .int t_4_2, .int t_4_3])), (q2, .inl (cI, n0, .inl t_4_4)), (q3, .inl (cI, n1, .inl t_4_5)), (q4, .inl (cI, n2, .inl t_4_6)), (q5, .inl (cI, n3, .inl t_4_7)), (q6, .inl (cI, n4, .inl t_4_8)), (q7, .inr (9, [.ref q8, .ref q9, .int t_4_9, .int t_4_10])), (q8, .inl (cI, n5, .inl t_4_11)), (q9, .inl (cI, n6, .inl t_4_12))] := hD
  refine lv_iload_n hx hb dX0_take_33 rfl (lv_at hl 0 rfl) ?_
  refine lv_iconst (v := (-1)) hx hb dX0_take_34 (by decide) ?_
  refine lv_icmp_eq (tgt := 45) hx hb dX0_take_35 (by decide) (fun c_5 => ?_) (fun c_5 => ?_)
  · replace hm := zz_t c_5 hm
    refine lv_iload_n hx hb dX0_take_45 rfl (lv_at hl 0 rfl) ?_
    have hm := Option.some.inj hm
    exact W.iret (v := r_2) hx hb hr (fun t ht hW => ⟨⟨r_2, (s0, t_4_0, t_4_1, t_4_2, t_4_3, t_4_4, t_4_5, t_4_6, t_4_7, t_4_8, t_4_9, t_4_10, t_4_11, t_4_12), rfl, ⟨(congrArg (·.1) hm).symm, (congrArg (·.2) hm).symm⟩, by rw [ht]; exact hP, va_K.moved hW.alike hK, hD⟩, hS.F ht⟩) hS.2.2 dX0_take_46
  · replace hm := zz_f c_5 hm
    refine lv_aload_n hx hb dX0_take_38 rfl (lv_at hl 2 rfl) ?_
    refine lv_iload_n hx hb dX0_take_39 rfl (lv_at hl 0 rfl) ?_
    refine lv_iload_n hx hb dX0_take_40 rfl (lv_at hl 3 rfl) ?_
    refine lv_iadd hx hb dX0_take_41 ?_
    refine va_put (D := (dC, dI)) (ci := 0) (v := .int (r_2 + p1)) (ty := .int) (C := RX0) (T := TX0) (N := 3) hx hb hts inX0 tyX0 tyX0_ok nmX0 hown hK hP hD hS 0 rfl rfl 2 (by decide) f9 (fun _ h9 => h9) rfl (by decide +kernel) rfl rfl (Nat.le_of_ble_eq_true rfl) dX0_take_42 (fun H locs hP hD hS => ?_)
    have hP : va_P (dC, dI) vwCl [(q0, .inr (0, [.ref q1, .int k0, .int (r_2 + p1)])), (q1, .inr (6, [.ref q2, .ref q3, .ref q4, .ref q5, .ref q6, .ref q7, .int t_4_0, .int t_4_1, .int t_4_2, .int t_4_3])), (q2, .inl (cI, n0, .inl t_4_4)), (q3, .inl (cI, n1, .inl t_4_5)), (q4, .inl (cI, n2, .inl t_4_6)), (q5, .inl (cI, n3, .inl t_4_7)), (q6, .inl (cI, n4, .inl t_4_8)), (q7, .inr (9, [.ref q8, .ref q9, .int t_4_9, .int t_4_10])), (q8, .inl (cI, n5, .inl t_4_11)), (q9, .inl (cI, n6, .inl t_4_12))] _ := hP
    have hD : va_D A [(q0, .inr (0, [.ref q1, .int k0, .int (r_2 + p1)])), (q1, .inr (6, [.ref q2, .ref q3, .ref q4, .ref q5, .ref q6, .ref q7, .int t_4_0, .int t_4_1, .int t_4_2, .int t_4_3])), (q2, .inl (cI, n0, .inl t_4_4)), (q3, .inl (cI, n1, .inl t_4_5)), (q4, .inl (cI, n2, .inl t_4_6)), (q5, .inl (cI, n3, .inl t_4_7)), (q6, .inl (cI, n4, .inl t_4_8)), (q7, .inr (9, [.ref q8, .ref q9, .int t_4_9, .int t_4_10])), (q8, .inl (cI, n5, .inl t_4_11)), (q9, .inl (cI, n6, .inl t_4_12))] := hD
    refine lv_iload_n hx hb dX0_take_45 rfl (lv_at hl 0 rfl) ?_
    have hm := Option.some.inj hm
    exact W.iret (v := r_2) hx hb hr (fun t ht hW => ⟨⟨r_2, (r_2 + p1, t_4_0, t_4_1, t_4_2, t_4_3, t_4_4, t_4_5, t_4_6, t_4_7, t_4_8, t_4_9, t_4_10, t_4_11, t_4_12), rfl, ⟨(congrArg (·.1) hm).symm, (congrArg (·.2) hm).symm⟩, by rw [ht]; exact hP, va_K.moved hW.alike hK, hD⟩, hS.F ht⟩) hS.2.2 dX0_take_46
abbrev rm_X0_takeBack : Room := { frames := 0, cells := 0, slots := 0, locals := 0 }
def m_X0_takeBack (K : Nat) (n0 : Nat) (n1 : Nat) (n2 : Nat) (n3 : Nat) (n4 : Nat) (n5 : Nat) (n6 : Nat) (k0 : Int32) (p1 : Int32) (p2 : Int32) (s0 : Int32) (s1 : Int32) (s2 : Int32) (s3 : Int32) (s4 : Int32) (s5 : Nat → Int32) (s6 : Nat → Int32) (s7 : Nat → Int32) (s8 : Nat → Int32) (s9 : Nat → Int32) (s10 : Int32) (s11 : Int32) (s12 : Nat → Int32) (s13 : Nat → Int32) : Option (Int32 × Int32 × Int32 × Int32 × Int32 × (Nat → Int32) × (Nat → Int32) × (Nat → Int32) × (Nat → Int32) × (Nat → Int32) × Int32 × Int32 × (Nat → Int32) × (Nat → Int32)) :=
  some ((s0, s1, s2, s3, s4, s5, s6, s7, s8, s9, s10, s11, s12, s13))
set_option maxHeartbeats 4000000 in
set_option maxRecDepth 100000 in
theorem c_X0_takeBack (l : Launch) (dC : Nat → ClassId) (dI : Nat → Nat → Nat) (cI cJ cZ : ClassId) (K : Nat) (q0 q1 q2 q3 q4 q5 q6 q7 q8 q9 : Nat) (n0 : Nat) (n1 : Nat) (n2 : Nat) (n3 : Nat) (n4 : Nat) (n5 : Nat) (n6 : Nat) (k0 : Int32) (s0 : Int32) (s1 : Int32) (s2 : Int32) (s3 : Int32) (s4 : Int32) (s5 : Nat → Int32) (s6 : Nat → Int32) (s7 : Nat → Int32) (s8 : Nat → Int32) (s9 : Nat → Int32) (s10 : Int32) (s11 : Int32) (s12 : Nat → Int32) (s13 : Nat → Int32) (p1 : Int32) (p2 : Int32) (sz : Nat) (uv : Int32 × Int32 × Int32 × Int32 × Int32 × (Nat → Int32) × (Nat → Int32) × (Nat → Int32) × (Nat → Int32) × (Nat → Int32) × Int32 × Int32 × (Nat → Int32) × (Nat → Int32)) (hm : m_X0_takeBack K n0 n1 n2 n3 n4 n5 n6 k0 p1 p2 s0 s1 s2 s3 s4 s5 s6 s7 s8 s9 s10 s11 s12 s13 = some uv) : Met l yX0_takeBack wsX0_takeBack rm_X0_takeBack (zz_pre dC dI [(cI, .int), (cJ, .long), (cZ, .boolean)] [(q0, .inr (0, [.ref q1, .int k0, .int s0])), (q1, .inr (6, [.ref q2, .ref q3, .ref q4, .ref q5, .ref q6, .ref q7, .int s1, .int s2, .int s3, .int s4])), (q2, .inl (cI, n0, .inl s5)), (q3, .inl (cI, n1, .inl s6)), (q4, .inl (cI, n2, .inl s7)), (q5, .inl (cI, n3, .inl s8)), (q6, .inl (cI, n4, .inl s9)), (q7, .inr (9, [.ref q8, .ref q9, .int s10, .int s11])), (q8, .inl (cI, n5, .inl s12)), (q9, .inl (cI, n6, .inl s13))] sz [.ref q0, .int p1, .int p2]) (va_Qv (fun u => uv = u) (fun u t => zz_wo dC dI [(cI, .int), (cJ, .long), (cZ, .boolean)] (va_A [(q0, .inr (0, [.ref q1, .int k0, .int s0])), (q1, .inr (6, [.ref q2, .ref q3, .ref q4, .ref q5, .ref q6, .ref q7, .int s1, .int s2, .int s3, .int s4])), (q2, .inl (cI, n0, .inl s5)), (q3, .inl (cI, n1, .inl s6)), (q4, .inl (cI, n2, .inl s7)), (q5, .inl (cI, n3, .inl s8)), (q6, .inl (cI, n4, .inl s9)), (q7, .inr (9, [.ref q8, .ref q9, .int s10, .int s11])), (q8, .inl (cI, n5, .inl s12)), (q9, .inl (cI, n6, .inl s13))] sz) (ce_X0 cI cJ cZ q0 q1 q2 q3 q4 q5 q6 q7 q8 q9 n0 n1 n2 n3 n4 n5 n6 k0 u) t) (va_A [(q0, .inr (0, [.ref q1, .int k0, .int s0])), (q1, .inr (6, [.ref q2, .ref q3, .ref q4, .ref q5, .ref q6, .ref q7, .int s1, .int s2, .int s3, .int s4])), (q2, .inl (cI, n0, .inl s5)), (q3, .inl (cI, n1, .inl s6)), (q4, .inl (cI, n2, .inl s7)), (q5, .inl (cI, n3, .inl s8)), (q6, .inl (cI, n4, .inl s9)), (q7, .inr (9, [.ref q8, .ref q9, .int s10, .int s11])), (q8, .inl (cI, n5, .inl s12)), (q9, .inl (cI, n6, .inl s13))] sz)) 0 0 (va_A [(q0, .inr (0, [.ref q1, .int k0, .int s0])), (q1, .inr (6, [.ref q2, .ref q3, .ref q4, .ref q5, .ref q6, .ref q7, .int s1, .int s2, .int s3, .int s4])), (q2, .inl (cI, n0, .inl s5)), (q3, .inl (cI, n1, .inl s6)), (q4, .inl (cI, n2, .inl s7)), (q5, .inl (cI, n3, .inl s8)), (q6, .inl (cI, n4, .inl s9)), (q7, .inr (9, [.ref q8, .ref q9, .int s10, .int s11])), (q8, .inl (cI, n5, .inl s12)), (q9, .inl (cI, n6, .inl s13))] sz) := by
  refine Met.ofW (cc := cX0_takeBack) (maxL := 3) (ret := none) (by decide) rfl ?_
  intro p e s m args below meth c s₁ B hml hv
  obtain ⟨rfl, hsz, hP, hK, hD0, hN⟩ := hv
  have hx := B.exec
  have hb := B.bytes
  have hr := B.returns
  have hts := atoms_spec (ws := wsX0_takeBack) B.pre
  have hown : s.vm.findClass RX0 = some m.cls := findClass_of_methodNamed B.named
  have hlocks := B.notSynchronized
  have hS0 : CallFix p m c cX0_takeBack 3 s #[.ref q0, .int p1, .int p2] wsX0_takeBack RX0 := ⟨hx, hb, hml, hown, hts⟩
  subst hsz
  have hD := hD0.self (sz := s.heap.size)
  generalize hAe : va_A [(q0, .inr (0, [.ref q1, .int k0, .int s0])), (q1, .inr (6, [.ref q2, .ref q3, .ref q4, .ref q5, .ref q6, .ref q7, .int s1, .int s2, .int s3, .int s4])), (q2, .inl (cI, n0, .inl s5)), (q3, .inl (cI, n1, .inl s6)), (q4, .inl (cI, n2, .inl s7)), (q5, .inl (cI, n3, .inl s8)), (q6, .inl (cI, n4, .inl s9)), (q7, .inr (9, [.ref q8, .ref q9, .int s10, .int s11])), (q8, .inl (cI, n5, .inl s12)), (q9, .inl (cI, n6, .inl s13))] s.heap.size = A at hD ⊢
  have hA : ∀ q : Nat, s.heap.size ≤ q → A q := fun q h => by rw [← hAe]; exact Or.inr h
  have hS : va_S A s.heap s.heap [] := va_S.rf
  have hl := lv_entry ([.ref q0, .int p1, .int p2]) (n := 3) (Nat.le_of_ble_eq_true rfl)
  rw [lg_entry_eq]
  generalize (lg_sl ([.ref q0, .int p1, .int p2]) ++ List.replicate (3 - (lg_sl ([.ref q0, .int p1, .int p2])).length) Slot.unset).toArray = ls at hl ⊢
  have hl : lv_has ls 3 [(0, .ref q0), (1, .int p1), (2, .int p2)] := hl
  unfold m_X0_takeBack at hm
  have hm := Option.some.inj hm
  exact W.vret hx hb hr (fun t ht hW => ⟨⟨(s0, s1, s2, s3, s4, s5, s6, s7, s8, s9, s10, s11, s12, s13), rfl, hm.symm, by rw [ht]; exact hP, va_K.moved hW.alike hK, hD⟩, hS.F ht⟩) hS.2.2 dX0_takeBack_0
abbrev ce_X2 (cI cJ cZ : ClassId) (q0 q1 q2 q3 q4 q5 q6 q7 q8 q9 : Nat) (n0 : Nat) (n1 : Nat) (n2 : Nat) (n3 : Nat) (n4 : Nat) (n5 : Nat) (n6 : Nat) (u : Int32 × Int32 × Int32 × Int32 × Int32 × (Nat → Int32) × (Nat → Int32) × (Nat → Int32) × (Nat → Int32) × (Nat → Int32) × Int32 × Int32 × (Nat → Int32) × (Nat → Int32)) : va_W := [(q0, .inr (1, [.ref q1, .int u.1])), (q1, .inr (6, [.ref q2, .ref q3, .ref q4, .ref q5, .ref q6, .ref q7, .int u.2.1, .int u.2.2.1, .int u.2.2.2.1, .int u.2.2.2.2.1])), (q2, .inl (cI, n0, .inl u.2.2.2.2.2.1)), (q3, .inl (cI, n1, .inl u.2.2.2.2.2.2.1)), (q4, .inl (cI, n2, .inl u.2.2.2.2.2.2.2.1)), (q5, .inl (cI, n3, .inl u.2.2.2.2.2.2.2.2.1)), (q6, .inl (cI, n4, .inl u.2.2.2.2.2.2.2.2.2.1)), (q7, .inr (9, [.ref q8, .ref q9, .int u.2.2.2.2.2.2.2.2.2.2.1, .int u.2.2.2.2.2.2.2.2.2.2.2.1])), (q8, .inl (cI, n5, .inl u.2.2.2.2.2.2.2.2.2.2.2.2.1)), (q9, .inl (cI, n6, .inl u.2.2.2.2.2.2.2.2.2.2.2.2.2))]
abbrev rm_X2_begin : Room := { frames := 1, cells := 0, slots := 0, locals := 20 }
theorem in_X2_begin_X2 : ∀ w ∈ wsX20, w ∈ wsX2_begin := by decide +kernel
def m_X2_begin (K : Nat) (n0 : Nat) (n1 : Nat) (n2 : Nat) (n3 : Nat) (n4 : Nat) (n5 : Nat) (n6 : Nat) (s0 : Int32) (s1 : Int32) (s2 : Int32) (s3 : Int32) (s4 : Int32) (s5 : Nat → Int32) (s6 : Nat → Int32) (s7 : Nat → Int32) (s8 : Nat → Int32) (s9 : Nat → Int32) (s10 : Int32) (s11 : Int32) (s12 : Nat → Int32) (s13 : Nat → Int32) : Option (Int32 × Int32 × Int32 × Int32 × Int32 × (Nat → Int32) × (Nat → Int32) × (Nat → Int32) × (Nat → Int32) × (Nat → Int32) × Int32 × Int32 × (Nat → Int32) × (Nat → Int32)) :=
  (m_X7_words K n0 n1 n2 n3 n4 n5 n6 s1 s2 s3 s4 s5 s6 s7 s8 s9 s10 s11 s12 s13).bind fun ⟨r_1, t_1_0, t_1_1, t_1_2, t_1_3, t_1_4, t_1_5, t_1_6, t_1_7, t_1_8, t_1_9, t_1_10, t_1_11, t_1_12⟩ => some ((r_1 / ((4 : Int32)), t_1_0, t_1_1, t_1_2, t_1_3, t_1_4, t_1_5, t_1_6, t_1_7, t_1_8, t_1_9, t_1_10, t_1_11, t_1_12))
set_option maxHeartbeats 4000000 in
set_option maxRecDepth 100000 in
theorem c_X2_begin (l : Launch) (dC : Nat → ClassId) (dI : Nat → Nat → Nat) (cI cJ cZ : ClassId) (K : Nat) (q0 q1 q2 q3 q4 q5 q6 q7 q8 q9 : Nat) (n0 : Nat) (n1 : Nat) (n2 : Nat) (n3 : Nat) (n4 : Nat) (n5 : Nat) (n6 : Nat) (s0 : Int32) (s1 : Int32) (s2 : Int32) (s3 : Int32) (s4 : Int32) (s5 : Nat → Int32) (s6 : Nat → Int32) (s7 : Nat → Int32) (s8 : Nat → Int32) (s9 : Nat → Int32) (s10 : Int32) (s11 : Int32) (s12 : Nat → Int32) (s13 : Nat → Int32) (sz : Nat) (uv : Int32 × Int32 × Int32 × Int32 × Int32 × (Nat → Int32) × (Nat → Int32) × (Nat → Int32) × (Nat → Int32) × (Nat → Int32) × Int32 × Int32 × (Nat → Int32) × (Nat → Int32)) (hm : m_X2_begin K n0 n1 n2 n3 n4 n5 n6 s0 s1 s2 s3 s4 s5 s6 s7 s8 s9 s10 s11 s12 s13 = some uv) : Met l yX2_begin wsX2_begin rm_X2_begin (zz_pre dC dI [(cI, .int), (cJ, .long), (cZ, .boolean)] [(q0, .inr (1, [.ref q1, .int s0])), (q1, .inr (6, [.ref q2, .ref q3, .ref q4, .ref q5, .ref q6, .ref q7, .int s1, .int s2, .int s3, .int s4])), (q2, .inl (cI, n0, .inl s5)), (q3, .inl (cI, n1, .inl s6)), (q4, .inl (cI, n2, .inl s7)), (q5, .inl (cI, n3, .inl s8)), (q6, .inl (cI, n4, .inl s9)), (q7, .inr (9, [.ref q8, .ref q9, .int s10, .int s11])), (q8, .inl (cI, n5, .inl s12)), (q9, .inl (cI, n6, .inl s13))] sz [.ref q0]) (va_Qv (fun u => uv = u) (fun u t => zz_wo dC dI [(cI, .int), (cJ, .long), (cZ, .boolean)] (va_A [(q0, .inr (1, [.ref q1, .int s0])), (q1, .inr (6, [.ref q2, .ref q3, .ref q4, .ref q5, .ref q6, .ref q7, .int s1, .int s2, .int s3, .int s4])), (q2, .inl (cI, n0, .inl s5)), (q3, .inl (cI, n1, .inl s6)), (q4, .inl (cI, n2, .inl s7)), (q5, .inl (cI, n3, .inl s8)), (q6, .inl (cI, n4, .inl s9)), (q7, .inr (9, [.ref q8, .ref q9, .int s10, .int s11])), (q8, .inl (cI, n5, .inl s12)), (q9, .inl (cI, n6, .inl s13))] sz) (ce_X2 cI cJ cZ q0 q1 q2 q3 q4 q5 q6 q7 q8 q9 n0 n1 n2 n3 n4 n5 n6 u) t) (va_A [(q0, .inr (1, [.ref q1, .int s0])), (q1, .inr (6, [.ref q2, .ref q3, .ref q4, .ref q5, .ref q6, .ref q7, .int s1, .int s2, .int s3, .int s4])), (q2, .inl (cI, n0, .inl s5)), (q3, .inl (cI, n1, .inl s6)), (q4, .inl (cI, n2, .inl s7)), (q5, .inl (cI, n3, .inl s8)), (q6, .inl (cI, n4, .inl s9)), (q7, .inr (9, [.ref q8, .ref q9, .int s10, .int s11])), (q8, .inl (cI, n5, .inl s12)), (q9, .inl (cI, n6, .inl s13))] sz)) 0 0 (va_A [(q0, .inr (1, [.ref q1, .int s0])), (q1, .inr (6, [.ref q2, .ref q3, .ref q4, .ref q5, .ref q6, .ref q7, .int s1, .int s2, .int s3, .int s4])), (q2, .inl (cI, n0, .inl s5)), (q3, .inl (cI, n1, .inl s6)), (q4, .inl (cI, n2, .inl s7)), (q5, .inl (cI, n3, .inl s8)), (q6, .inl (cI, n4, .inl s9)), (q7, .inr (9, [.ref q8, .ref q9, .int s10, .int s11])), (q8, .inl (cI, n5, .inl s12)), (q9, .inl (cI, n6, .inl s13))] sz) := by
  refine Met.ofW (cc := cX2_begin) (maxL := 1) (ret := none) (by decide) rfl ?_
  intro p e s m args below meth c s₁ B hml hv
  obtain ⟨rfl, hsz, hP, hK, hD0, hN⟩ := hv
  have hx := B.exec
  have hb := B.bytes
  have hr := B.returns
  have hts := atoms_spec (ws := wsX2_begin) B.pre
  have hown : s.vm.findClass RX2 = some m.cls := findClass_of_methodNamed B.named
  have hlocks := B.notSynchronized
  have hS0 : CallFix p m c cX2_begin 1 s #[.ref q0] wsX2_begin RX2 := ⟨hx, hb, hml, hown, hts⟩
  subst hsz
  have hD := hD0.self (sz := s.heap.size)
  generalize hAe : va_A [(q0, .inr (1, [.ref q1, .int s0])), (q1, .inr (6, [.ref q2, .ref q3, .ref q4, .ref q5, .ref q6, .ref q7, .int s1, .int s2, .int s3, .int s4])), (q2, .inl (cI, n0, .inl s5)), (q3, .inl (cI, n1, .inl s6)), (q4, .inl (cI, n2, .inl s7)), (q5, .inl (cI, n3, .inl s8)), (q6, .inl (cI, n4, .inl s9)), (q7, .inr (9, [.ref q8, .ref q9, .int s10, .int s11])), (q8, .inl (cI, n5, .inl s12)), (q9, .inl (cI, n6, .inl s13))] s.heap.size = A at hD ⊢
  have hA : ∀ q : Nat, s.heap.size ≤ q → A q := fun q h => by rw [← hAe]; exact Or.inr h
  have hS : va_S A s.heap s.heap [] := va_S.rf
  have hl := lv_entry ([.ref q0]) (n := 1) (Nat.le_of_ble_eq_true rfl)
  rw [lg_entry_eq]
  generalize (lg_sl ([.ref q0]) ++ List.replicate (1 - (lg_sl ([.ref q0])).length) Slot.unset).toArray = ls at hl ⊢
  have hl : lv_has ls 1 [(0, .ref q0)] := hl
  have inX2 := in_X2_begin_X2
  have f9 := hts (.fieldLink RX2 9 "RoomForms$Grains" "grains" "I") (by decide +kernel)
  have f15 := hts (.fieldLink RX2 15 "RoomForms$Grains" "room" "LRoomForms$Room;") (by decide +kernel)
  have sm0 := hts (.sameField "RoomForms$Grains" "RoomForms$Form" "room" "LRoomForms$Room;") (by decide +kernel)
  unfold m_X2_begin at hm
  refine lv_aload_n hx hb dX2_begin_0 rfl (lv_at hl 0 rfl) ?_
  refine lv_aload_n hx hb dX2_begin_1 rfl (lv_at hl 0 rfl) ?_
  refine va_get (D := (dC, dI)) (ci := 1) (v := .ref q1) (C := RX2) (T := TX2) (N := 2) hx hb hts inX2 hown hK hP 0 rfl rfl 0 (by decide) f15 (u_same sm0) rfl dX2_begin_2 ?_
  obtain ⟨⟨r_1, t_1_0, t_1_1, t_1_2, t_1_3, t_1_4, t_1_5, t_1_6, t_1_7, t_1_8, t_1_9, t_1_10, t_1_11, t_1_12⟩, hc_1, hm⟩ := zz_bind hm
  have hPc := hP.sub (ws' := [(q1, .inr (6, [.ref q2, .ref q3, .ref q4, .ref q5, .ref q6, .ref q7, .int s1, .int s2, .int s3, .int s4])), (q2, .inl (cI, n0, .inl s5)), (q3, .inl (cI, n1, .inl s6)), (q4, .inl (cI, n2, .inl s7)), (q5, .inl (cI, n3, .inl s8)), (q6, .inl (cI, n4, .inl s9)), (q7, .inr (9, [.ref q8, .ref q9, .int s10, .int s11])), (q8, .inl (cI, n5, .inl s12)), (q9, .inl (cI, n6, .inl s13))]) [1, 2, 3, 4, 5, 6, 7, 8, 9] rfl
  have hDc := hD.sub (ws' := [(q1, .inr (6, [.ref q2, .ref q3, .ref q4, .ref q5, .ref q6, .ref q7, .int s1, .int s2, .int s3, .int s4])), (q2, .inl (cI, n0, .inl s5)), (q3, .inl (cI, n1, .inl s6)), (q4, .inl (cI, n2, .inl s7)), (q5, .inl (cI, n3, .inl s8)), (q6, .inl (cI, n4, .inl s9)), (q7, .inr (9, [.ref q8, .ref q9, .int s10, .int s11])), (q8, .inl (cI, n5, .inl s12)), (q9, .inl (cI, n6, .inl s13))]) [1, 2, 3, 4, 5, 6, 7, 8, 9] (by decide) rfl
  have hFc := va_free (wc := [(q1, .inr (6, [.ref q2, .ref q3, .ref q4, .ref q5, .ref q6, .ref q7, .int s1, .int s2, .int s3, .int s4])), (q2, .inl (cI, n0, .inl s5)), (q3, .inl (cI, n1, .inl s6)), (q4, .inl (cI, n2, .inl s7)), (q5, .inl (cI, n3, .inl s8)), (q6, .inl (cI, n4, .inl s9)), (q7, .inr (9, [.ref q8, .ref q9, .int s10, .int s11])), (q8, .inl (cI, n5, .inl s12)), (q9, .inl (cI, n6, .inl s13))]) hD hS hA [1, 2, 3, 4, 5, 6, 7, 8, 9] rfl
  refine va_calli (va_runV (As := []) (rest := [.ref q0]) hS0 (c_X7_words l dC dI cI cJ cZ K q1 q2 q3 q4 q5 q6 q7 q8 q9 n0 n1 n2 n3 n4 n5 n6 s1 s2 s3 s4 s5 s6 s7 s8 s9 s10 s11 s12 s13 _ r_1 (t_1_0, t_1_1, t_1_2, t_1_3, t_1_4, t_1_5, t_1_6, t_1_7, t_1_8, t_1_9, t_1_10, t_1_11, t_1_12) hc_1) (cwV 0 hts gX2_begin_X7_words rfl rfl rfl (by decide +kernel) ⟨Nat.le_of_ble_eq_true rfl, Nat.le_of_ble_eq_true rfl⟩) (zz_pv hK hPc hDc hN (va_recv hK hPc (ci := 6) (q0 := 0) rfl rfl)) rfl rfl hl.1 rfl (lv_room (Nat.le_of_ble_eq_true rfl)) dX2_begin_5 ⟨Nat.zero_le _, Nat.zero_le _⟩) hS (fun q _ h => hFc q h) hFc (fun r u t H1 locs ht hvm hw hB hz1 hk1 hS => ?_)
  obtain ⟨rfl, rfl⟩ := hw
  obtain ⟨hP1, hK1, hD1⟩ := hB
  rw [ht] at hP1
  obtain ⟨hP, hD⟩ := va_join (wr := [(q0, .inr (1, [.ref q1, .int s0]))]) (w1 := [(q1, .inr (6, [.ref q2, .ref q3, .ref q4, .ref q5, .ref q6, .ref q7, .int t_1_0, .int t_1_1, .int t_1_2, .int t_1_3])), (q2, .inl (cI, n0, .inl t_1_4)), (q3, .inl (cI, n1, .inl t_1_5)), (q4, .inl (cI, n2, .inl t_1_6)), (q5, .inl (cI, n3, .inl t_1_7)), (q6, .inl (cI, n4, .inl t_1_8)), (q7, .inr (9, [.ref q8, .ref q9, .int t_1_9, .int t_1_10])), (q8, .inl (cI, n5, .inl t_1_11)), (q9, .inl (cI, n6, .inl t_1_12))]) hP hD [1, 2, 3, 4, 5, 6, 7, 8, 9] [0] rfl rfl (by decide) (by decide) hk1 hFc hP1 hD1
  have hP : va_P (dC, dI) vwCl [(q0, .inr (1, [.ref q1, .int s0])), (q1, .inr (6, [.ref q2, .ref q3, .ref q4, .ref q5, .ref q6, .ref q7, .int t_1_0, .int t_1_1, .int t_1_2, .int t_1_3])), (q2, .inl (cI, n0, .inl t_1_4)), (q3, .inl (cI, n1, .inl t_1_5)), (q4, .inl (cI, n2, .inl t_1_6)), (q5, .inl (cI, n3, .inl t_1_7)), (q6, .inl (cI, n4, .inl t_1_8)), (q7, .inr (9, [.ref q8, .ref q9, .int t_1_9, .int t_1_10])), (q8, .inl (cI, n5, .inl t_1_11)), (q9, .inl (cI, n6, .inl t_1_12))] _ := hP
  have hD : va_D A [(q0, .inr (1, [.ref q1, .int s0])), (q1, .inr (6, [.ref q2, .ref q3, .ref q4, .ref q5, .ref q6, .ref q7, .int t_1_0, .int t_1_1, .int t_1_2, .int t_1_3])), (q2, .inl (cI, n0, .inl t_1_4)), (q3, .inl (cI, n1, .inl t_1_5)), (q4, .inl (cI, n2, .inl t_1_6)), (q5, .inl (cI, n3, .inl t_1_7)), (q6, .inl (cI, n4, .inl t_1_8)), (q7, .inr (9, [.ref q8, .ref q9, .int t_1_9, .int t_1_10])), (q8, .inl (cI, n5, .inl t_1_11)), (q9, .inl (cI, n6, .inl t_1_12))] := hD
  refine lv_iconst (v := 4) hx hb dX2_begin_8 (by decide) ?_
  refine lv_idiv hx hb dX2_begin_9 (by decide) ?_
  refine va_put (D := (dC, dI)) (ci := 1) (v := .int (r_1 / ((4 : Int32)))) (ty := .int) (C := RX2) (T := TX2) (N := 2) hx hb hts inX2 tyX2 tyX2_ok nmX2 hown hK hP hD hS 0 rfl rfl 1 (by decide) f9 (fun _ h9 => h9) rfl (by decide +kernel) rfl rfl (Nat.le_of_ble_eq_true rfl) dX2_begin_10 (fun H locs hP hD hS => ?_)
  have hP : va_P (dC, dI) vwCl [(q0, .inr (1, [.ref q1, .int (r_1 / ((4 : Int32)))])), (q1, .inr (6, [.ref q2, .ref q3, .ref q4, .ref q5, .ref q6, .ref q7, .int t_1_0, .int t_1_1, .int t_1_2, .int t_1_3])), (q2, .inl (cI, n0, .inl t_1_4)), (q3, .inl (cI, n1, .inl t_1_5)), (q4, .inl (cI, n2, .inl t_1_6)), (q5, .inl (cI, n3, .inl t_1_7)), (q6, .inl (cI, n4, .inl t_1_8)), (q7, .inr (9, [.ref q8, .ref q9, .int t_1_9, .int t_1_10])), (q8, .inl (cI, n5, .inl t_1_11)), (q9, .inl (cI, n6, .inl t_1_12))] _ := hP
  have hD : va_D A [(q0, .inr (1, [.ref q1, .int (r_1 / ((4 : Int32)))])), (q1, .inr (6, [.ref q2, .ref q3, .ref q4, .ref q5, .ref q6, .ref q7, .int t_1_0, .int t_1_1, .int t_1_2, .int t_1_3])), (q2, .inl (cI, n0, .inl t_1_4)), (q3, .inl (cI, n1, .inl t_1_5)), (q4, .inl (cI, n2, .inl t_1_6)), (q5, .inl (cI, n3, .inl t_1_7)), (q6, .inl (cI, n4, .inl t_1_8)), (q7, .inr (9, [.ref q8, .ref q9, .int t_1_9, .int t_1_10])), (q8, .inl (cI, n5, .inl t_1_11)), (q9, .inl (cI, n6, .inl t_1_12))] := hD
  have hm := Option.some.inj hm
  exact W.vret hx hb hr (fun t ht hW => ⟨⟨(r_1 / ((4 : Int32)), t_1_0, t_1_1, t_1_2, t_1_3, t_1_4, t_1_5, t_1_6, t_1_7, t_1_8, t_1_9, t_1_10, t_1_11, t_1_12), rfl, hm.symm, by rw [ht]; exact hP, va_K.moved hW.alike hK, hD⟩, hS.F ht⟩) hS.2.2 dX2_begin_13
abbrev rm_X2_spanOf : Room := { frames := 0, cells := 0, slots := 0, locals := 0 }
def m_X2_spanOf (K : Nat) (n0 : Nat) (n1 : Nat) (n2 : Nat) (n3 : Nat) (n4 : Nat) (n5 : Nat) (n6 : Nat) (p1 : Int32) (s0 : Int32) (s1 : Int32) (s2 : Int32) (s3 : Int32) (s4 : Int32) (s5 : Nat → Int32) (s6 : Nat → Int32) (s7 : Nat → Int32) (s8 : Nat → Int32) (s9 : Nat → Int32) (s10 : Int32) (s11 : Int32) (s12 : Nat → Int32) (s13 : Nat → Int32) : Option (Int32 × Int32 × Int32 × Int32 × Int32 × Int32 × (Nat → Int32) × (Nat → Int32) × (Nat → Int32) × (Nat → Int32) × (Nat → Int32) × Int32 × Int32 × (Nat → Int32) × (Nat → Int32)) :=
  some ((((p1 + ((4 : Int32))) - ((1 : Int32))) / ((4 : Int32))) * ((4 : Int32)), (s0, s1, s2, s3, s4, s5, s6, s7, s8, s9, s10, s11, s12, s13))
set_option maxHeartbeats 4000000 in
set_option maxRecDepth 100000 in
theorem c_X2_spanOf (l : Launch) (dC : Nat → ClassId) (dI : Nat → Nat → Nat) (cI cJ cZ : ClassId) (K : Nat) (q0 q1 q2 q3 q4 q5 q6 q7 q8 q9 : Nat) (n0 : Nat) (n1 : Nat) (n2 : Nat) (n3 : Nat) (n4 : Nat) (n5 : Nat) (n6 : Nat) (s0 : Int32) (s1 : Int32) (s2 : Int32) (s3 : Int32) (s4 : Int32) (s5 : Nat → Int32) (s6 : Nat → Int32) (s7 : Nat → Int32) (s8 : Nat → Int32) (s9 : Nat → Int32) (s10 : Int32) (s11 : Int32) (s12 : Nat → Int32) (s13 : Nat → Int32) (p1 : Int32) (sz : Nat) (rv : Int32) (uv : Int32 × Int32 × Int32 × Int32 × Int32 × (Nat → Int32) × (Nat → Int32) × (Nat → Int32) × (Nat → Int32) × (Nat → Int32) × Int32 × Int32 × (Nat → Int32) × (Nat → Int32)) (hm : m_X2_spanOf K n0 n1 n2 n3 n4 n5 n6 p1 s0 s1 s2 s3 s4 s5 s6 s7 s8 s9 s10 s11 s12 s13 = some (rv, uv)) : Met l yX2_spanOf wsX2_spanOf rm_X2_spanOf (zz_pre dC dI [(cI, .int), (cJ, .long), (cZ, .boolean)] [(q0, .inr (1, [.ref q1, .int s0])), (q1, .inr (6, [.ref q2, .ref q3, .ref q4, .ref q5, .ref q6, .ref q7, .int s1, .int s2, .int s3, .int s4])), (q2, .inl (cI, n0, .inl s5)), (q3, .inl (cI, n1, .inl s6)), (q4, .inl (cI, n2, .inl s7)), (q5, .inl (cI, n3, .inl s8)), (q6, .inl (cI, n4, .inl s9)), (q7, .inr (9, [.ref q8, .ref q9, .int s10, .int s11])), (q8, .inl (cI, n5, .inl s12)), (q9, .inl (cI, n6, .inl s13))] sz [.ref q0, .int p1]) (va_Qi (fun r u => rv = r ∧ uv = u) (fun u t => zz_wo dC dI [(cI, .int), (cJ, .long), (cZ, .boolean)] (va_A [(q0, .inr (1, [.ref q1, .int s0])), (q1, .inr (6, [.ref q2, .ref q3, .ref q4, .ref q5, .ref q6, .ref q7, .int s1, .int s2, .int s3, .int s4])), (q2, .inl (cI, n0, .inl s5)), (q3, .inl (cI, n1, .inl s6)), (q4, .inl (cI, n2, .inl s7)), (q5, .inl (cI, n3, .inl s8)), (q6, .inl (cI, n4, .inl s9)), (q7, .inr (9, [.ref q8, .ref q9, .int s10, .int s11])), (q8, .inl (cI, n5, .inl s12)), (q9, .inl (cI, n6, .inl s13))] sz) (ce_X2 cI cJ cZ q0 q1 q2 q3 q4 q5 q6 q7 q8 q9 n0 n1 n2 n3 n4 n5 n6 u) t) (va_A [(q0, .inr (1, [.ref q1, .int s0])), (q1, .inr (6, [.ref q2, .ref q3, .ref q4, .ref q5, .ref q6, .ref q7, .int s1, .int s2, .int s3, .int s4])), (q2, .inl (cI, n0, .inl s5)), (q3, .inl (cI, n1, .inl s6)), (q4, .inl (cI, n2, .inl s7)), (q5, .inl (cI, n3, .inl s8)), (q6, .inl (cI, n4, .inl s9)), (q7, .inr (9, [.ref q8, .ref q9, .int s10, .int s11])), (q8, .inl (cI, n5, .inl s12)), (q9, .inl (cI, n6, .inl s13))] sz)) 0 0 (va_A [(q0, .inr (1, [.ref q1, .int s0])), (q1, .inr (6, [.ref q2, .ref q3, .ref q4, .ref q5, .ref q6, .ref q7, .int s1, .int s2, .int s3, .int s4])), (q2, .inl (cI, n0, .inl s5)), (q3, .inl (cI, n1, .inl s6)), (q4, .inl (cI, n2, .inl s7)), (q5, .inl (cI, n3, .inl s8)), (q6, .inl (cI, n4, .inl s9)), (q7, .inr (9, [.ref q8, .ref q9, .int s10, .int s11])), (q8, .inl (cI, n5, .inl s12)), (q9, .inl (cI, n6, .inl s13))] sz) := by
  refine Met.ofW (cc := cX2_spanOf) (maxL := 2) (ret := (some .int)) (by decide) rfl ?_
  intro p e s m args below meth c s₁ B hml hv
  obtain ⟨rfl, hsz, hP, hK, hD0, hN⟩ := hv
  have hx := B.exec
  have hb := B.bytes
  have hr := B.returns
  have hts := atoms_spec (ws := wsX2_spanOf) B.pre
  have hown : s.vm.findClass RX2 = some m.cls := findClass_of_methodNamed B.named
  have hlocks := B.notSynchronized
  have hS0 : CallFix p m c cX2_spanOf 2 s #[.ref q0, .int p1] wsX2_spanOf RX2 := ⟨hx, hb, hml, hown, hts⟩
  subst hsz
  have hD := hD0.self (sz := s.heap.size)
  generalize hAe : va_A [(q0, .inr (1, [.ref q1, .int s0])), (q1, .inr (6, [.ref q2, .ref q3, .ref q4, .ref q5, .ref q6, .ref q7, .int s1, .int s2, .int s3, .int s4])), (q2, .inl (cI, n0, .inl s5)), (q3, .inl (cI, n1, .inl s6)), (q4, .inl (cI, n2, .inl s7)), (q5, .inl (cI, n3, .inl s8)), (q6, .inl (cI, n4, .inl s9)), (q7, .inr (9, [.ref q8, .ref q9, .int s10, .int s11])), (q8, .inl (cI, n5, .inl s12)), (q9, .inl (cI, n6, .inl s13))] s.heap.size = A at hD ⊢
  have hA : ∀ q : Nat, s.heap.size ≤ q → A q := fun q h => by rw [← hAe]; exact Or.inr h
  have hS : va_S A s.heap s.heap [] := va_S.rf
  have hl := lv_entry ([.ref q0, .int p1]) (n := 2) (Nat.le_of_ble_eq_true rfl)
  rw [lg_entry_eq]
  generalize (lg_sl ([.ref q0, .int p1]) ++ List.replicate (2 - (lg_sl ([.ref q0, .int p1])).length) Slot.unset).toArray = ls at hl ⊢
  have hl : lv_has ls 2 [(0, .ref q0), (1, .int p1)] := hl
  unfold m_X2_spanOf at hm
  refine lv_iload_n hx hb dX2_spanOf_0 rfl (lv_at hl 1 rfl) ?_
  refine lv_iconst (v := 4) hx hb dX2_spanOf_1 (by decide) ?_
  refine lv_iadd hx hb dX2_spanOf_2 ?_
  refine lv_iconst (v := 1) hx hb dX2_spanOf_3 (by decide) ?_
  refine lv_isub hx hb dX2_spanOf_4 ?_
  refine lv_iconst (v := 4) hx hb dX2_spanOf_5 (by decide) ?_
  refine lv_idiv hx hb dX2_spanOf_6 (by decide) ?_
  refine lv_iconst (v := 4) hx hb dX2_spanOf_7 (by decide) ?_
  refine lv_imul hx hb dX2_spanOf_8 ?_
  have hm := Option.some.inj hm
  exact W.iret (v := (((p1 + ((4 : Int32))) - ((1 : Int32))) / ((4 : Int32))) * ((4 : Int32))) hx hb hr (fun t ht hW => ⟨⟨(((p1 + ((4 : Int32))) - ((1 : Int32))) / ((4 : Int32))) * ((4 : Int32)), (s0, s1, s2, s3, s4, s5, s6, s7, s8, s9, s10, s11, s12, s13), rfl, ⟨(congrArg (·.1) hm).symm, (congrArg (·.2) hm).symm⟩, by rw [ht]; exact hP, va_K.moved hW.alike hK, hD⟩, hS.F ht⟩) hS.2.2 dX2_spanOf_9
abbrev rm_X2_areFree : Room := { frames := 1, cells := 0, slots := 0, locals := 21 }
theorem in_X2_areFree_X2 : ∀ w ∈ wsX20, w ∈ wsX2_areFree := by decide +kernel
def m_X2_areFree_L2 (K : Nat) (n0 : Nat) (n1 : Nat) (n2 : Nat) (n3 : Nat) (n4 : Nat) (n5 : Nat) (n6 : Nat) : Nat → Int32 → Int32 → Int32 → Int32 → Int32 → Int32 → Int32 → Int32 → (Nat → Int32) → (Nat → Int32) → (Nat → Int32) → (Nat → Int32) → (Nat → Int32) → Int32 → Int32 → (Nat → Int32) → (Nat → Int32) → Option (Int32 × Int32 × Int32 × Int32 × Int32 × Int32 × (Nat → Int32) × (Nat → Int32) × (Nat → Int32) × (Nat → Int32) × (Nat → Int32) × Int32 × Int32 × (Nat → Int32) × (Nat → Int32))
  | 0, _, _, _, _, _, _, _, _, _, _, _, _, _, _, _, _, _ => none
  | k + 1, x1, x2, x3, s0, s1, s2, s3, s4, s5, s6, s7, s8, s9, s10, s11, s12, s13 =>
    if (x1 + x2) ≤ x3 then some ((1 : Int32), (s0, s1, s2, s3, s4, s5, s6, s7, s8, s9, s10, s11, s12, s13))
    else ((m_X7_isFree K n0 n1 n2 n3 n4 n5 n6 (x3 * ((4 : Int32))) s1 s2 s3 s4 s5 s6 s7 s8 s9 s10 s11 s12 s13).bind fun ⟨r_2, t_2_0, t_2_1, t_2_2, t_2_3, t_2_4, t_2_5, t_2_6, t_2_7, t_2_8, t_2_9, t_2_10, t_2_11, t_2_12⟩ => (if r_2 = 0 then some ((0 : Int32), (s0, t_2_0, t_2_1, t_2_2, t_2_3, t_2_4, t_2_5, t_2_6, t_2_7, t_2_8, t_2_9, t_2_10, t_2_11, t_2_12))
    else m_X2_areFree_L2 K n0 n1 n2 n3 n4 n5 n6 k x1 x2 (x3 + 1) s0 t_2_0 t_2_1 t_2_2 t_2_3 t_2_4 t_2_5 t_2_6 t_2_7 t_2_8 t_2_9 t_2_10 t_2_11 t_2_12))
theorem m_X2_areFree_L2_s (K : Nat) (n0 : Nat) (n1 : Nat) (n2 : Nat) (n3 : Nat) (n4 : Nat) (n5 : Nat) (n6 : Nat) (k : Nat) (x1 : Int32) (x2 : Int32) (x3 : Int32) (s0 : Int32) (s1 : Int32) (s2 : Int32) (s3 : Int32) (s4 : Int32) (s5 : Nat → Int32) (s6 : Nat → Int32) (s7 : Nat → Int32) (s8 : Nat → Int32) (s9 : Nat → Int32) (s10 : Int32) (s11 : Int32) (s12 : Nat → Int32) (s13 : Nat → Int32) : m_X2_areFree_L2 K n0 n1 n2 n3 n4 n5 n6 (k + 1) x1 x2 x3 s0 s1 s2 s3 s4 s5 s6 s7 s8 s9 s10 s11 s12 s13 =
    (if (x1 + x2) ≤ x3 then some ((1 : Int32), (s0, s1, s2, s3, s4, s5, s6, s7, s8, s9, s10, s11, s12, s13))
    else ((m_X7_isFree K n0 n1 n2 n3 n4 n5 n6 (x3 * ((4 : Int32))) s1 s2 s3 s4 s5 s6 s7 s8 s9 s10 s11 s12 s13).bind fun ⟨r_2, t_2_0, t_2_1, t_2_2, t_2_3, t_2_4, t_2_5, t_2_6, t_2_7, t_2_8, t_2_9, t_2_10, t_2_11, t_2_12⟩ => (if r_2 = 0 then some ((0 : Int32), (s0, t_2_0, t_2_1, t_2_2, t_2_3, t_2_4, t_2_5, t_2_6, t_2_7, t_2_8, t_2_9, t_2_10, t_2_11, t_2_12))
    else m_X2_areFree_L2 K n0 n1 n2 n3 n4 n5 n6 k x1 x2 (x3 + 1) s0 t_2_0 t_2_1 t_2_2 t_2_3 t_2_4 t_2_5 t_2_6 t_2_7 t_2_8 t_2_9 t_2_10 t_2_11 t_2_12))) := rfl
set_option maxHeartbeats 4000000 in
set_option maxRecDepth 100000 in
theorem w_X2_areFree_L2 {p : Program} {l : Launch} {e : Env} {s : State} {m : MethodId} {args : Array Value} {below : List Frame} {meth : Method} {c : Code} (dC : Nat → ClassId) (dI : Nat → Nat → Nat) (cI cJ cZ : ClassId) (K : Nat) (q0 q1 q2 q3 q4 q5 q6 q7 q8 q9 : Nat) (n0 : Nat) (n1 : Nat) (n2 : Nat) (n3 : Nat) (n4 : Nat) (n5 : Nat) (n6 : Nat) (A : Nat → Prop) (rv : Int32) (uv : Int32 × Int32 × Int32 × Int32 × Int32 × (Nat → Int32) × (Nat → Int32) × (Nat → Int32) × (Nat → Int32) × (Nat → Int32) × Int32 × Int32 × (Nat → Int32) × (Nat → Int32)) (hS0 : CallFix p m c cX2_areFree 4 s args wsX2_areFree RX2) (hr : meth.sig.returnType = (some .boolean)) (hlocks : meth.locks = false) (hA : ∀ q : Nat, s.heap.size ≤ q → A q) (hK : va_K (dC, dI) vwCl [(cI, .int), (cJ, .long), (cZ, .boolean)] s) (hN : zz_nw s) : ∀ (k : Nat) (x1 : Int32) (x2 : Int32) (x3 : Int32) (s0 : Int32) (s1 : Int32) (s2 : Int32) (s3 : Int32) (s4 : Int32) (s5 : Nat → Int32) (s6 : Nat → Int32) (s7 : Nat → Int32) (s8 : Nat → Int32) (s9 : Nat → Int32) (s10 : Int32) (s11 : Int32) (s12 : Nat → Int32) (s13 : Nat → Int32) (H : Heap) (locs : List Loc) (ls : Array Slot), m_X2_areFree_L2 K n0 n1 n2 n3 n4 n5 n6 k x1 x2 x3 s0 s1 s2 s3 s4 s5 s6 s7 s8 s9 s10 s11 s12 s13 = some (rv, uv) → va_P (dC, dI) vwCl [(q0, .inr (1, [.ref q1, .int s0])), (q1, .inr (6, [.ref q2, .ref q3, .ref q4, .ref q5, .ref q6, .ref q7, .int s1, .int s2, .int s3, .int s4])), (q2, .inl (cI, n0, .inl s5)), (q3, .inl (cI, n1, .inl s6)), (q4, .inl (cI, n2, .inl s7)), (q5, .inl (cI, n3, .inl s8)), (q6, .inl (cI, n4, .inl s9)), (q7, .inr (9, [.ref q8, .ref q9, .int s10, .int s11])), (q8, .inl (cI, n5, .inl s12)), (q9, .inl (cI, n6, .inl s13))] H → va_D A [(q0, .inr (1, [.ref q1, .int s0])), (q1, .inr (6, [.ref q2, .ref q3, .ref q4, .ref q5, .ref q6, .ref q7, .int s1, .int s2, .int s3, .int s4])), (q2, .inl (cI, n0, .inl s5)), (q3, .inl (cI, n1, .inl s6)), (q4, .inl (cI, n2, .inl s7)), (q5, .inl (cI, n3, .inl s8)), (q6, .inl (cI, n4, .inl s9)), (q7, .inr (9, [.ref q8, .ref q9, .int s10, .int s11])), (q8, .inl (cI, n5, .inl s12)), (q9, .inl (cI, n6, .inl s13))] → va_S A s.heap H locs → lv_has ls 4 [(0, .ref q0), (1, .int x1), (2, .int x2), (3, .int x3)] → W p l e rm_X2_areFree s m args below meth c H locs 0 0 (MQ below (va_Qi (fun r u => rv = r ∧ uv = u) (fun u t => zz_wo dC dI [(cI, .int), (cJ, .long), (cZ, .boolean)] A (ce_X2 cI cJ cZ q0 q1 q2 q3 q4 q5 q6 q7 q8 q9 n0 n1 n2 n3 n4 n5 n6 u) t) A) args s 0 0 A) (F0 m 2 ls []) := by
  obtain ⟨hx, hb, hml, hown, hts⟩ := id hS0
  have inX2 := in_X2_areFree_X2
  have f15 := hts (.fieldLink RX2 15 "RoomForms$Grains" "room" "LRoomForms$Room;") (by decide +kernel)
  have sm0 := hts (.sameField "RoomForms$Grains" "RoomForms$Form" "room" "LRoomForms$Room;") (by decide +kernel)
  intro k
  induction k with
  | zero =>
    intro _ _ _ _ _ _ _ _ _ _ _ _ _ _ _ _ _ _ _ _ hm
    have hm9 : (none : Option (Int32 × Int32 × Int32 × Int32 × Int32 × Int32 × (Nat → Int32) × (Nat → Int32) × (Nat → Int32) × (Nat → Int32) × (Nat → Int32) × Int32 × Int32 × (Nat → Int32) × (Nat → Int32))) = some _ := hm
    cases hm9
  | succ k ih =>
    intro x1 x2 x3 s0 s1 s2 s3 s4 s5 s6 s7 s8 s9 s10 s11 s12 s13 H locs ls hm hP hD hS hl
    rw [m_X2_areFree_L2_s] at hm
    refine lv_iload_n hx hb dX2_areFree_2 rfl (lv_at hl 3 rfl) ?_
    refine lv_iload_n hx hb dX2_areFree_3 rfl (lv_at hl 1 rfl) ?_
    refine lv_iload_n hx hb dX2_areFree_4 rfl (lv_at hl 2 rfl) ?_
    refine lv_iadd hx hb dX2_areFree_5 ?_
    refine lv_icmp_ge (tgt := 30) hx hb dX2_areFree_6 (by decide) (fun c_1 => ?_) (fun c_1 => ?_)
    · replace hm := zz_t c_1 hm
      refine lv_iconst (v := 1) hx hb dX2_areFree_30 (by decide) ?_
      have hm := Option.some.inj hm
      exact W.zret (v := (1 : Int32)) (ty := .boolean) hx hb hr rfl (fun t ht hW => ⟨⟨(1 : Int32), (s0, s1, s2, s3, s4, s5, s6, s7, s8, s9, s10, s11, s12, s13), rfl, ⟨(congrArg (·.1) hm).symm, (congrArg (·.2) hm).symm⟩, by rw [ht]; exact hP, va_K.moved hW.alike hK, hD⟩, hS.F ht⟩) hS.2.2 dX2_areFree_31
    · replace hm := zz_f c_1 hm
      refine lv_aload_n hx hb dX2_areFree_9 rfl (lv_at hl 0 rfl) ?_
      refine va_get (D := (dC, dI)) (ci := 1) (v := .ref q1) (C := RX2) (T := TX2) (N := 2) hx hb hts inX2 hown hK hP 0 rfl rfl 0 (by decide) f15 (u_same sm0) rfl dX2_areFree_10 ?_
      refine lv_iload_n hx hb dX2_areFree_13 rfl (lv_at hl 3 rfl) ?_
      refine lv_iconst (v := 4) hx hb dX2_areFree_14 (by decide) ?_
      refine lv_imul hx hb dX2_areFree_15 ?_
      obtain ⟨⟨r_2, t_2_0, t_2_1, t_2_2, t_2_3, t_2_4, t_2_5, t_2_6, t_2_7, t_2_8, t_2_9, t_2_10, t_2_11, t_2_12⟩, hc_2, hm⟩ := zz_bind hm
      have hPc := hP.sub (ws' := [(q1, .inr (6, [.ref q2, .ref q3, .ref q4, .ref q5, .ref q6, .ref q7, .int s1, .int s2, .int s3, .int s4])), (q2, .inl (cI, n0, .inl s5)), (q3, .inl (cI, n1, .inl s6)), (q4, .inl (cI, n2, .inl s7)), (q5, .inl (cI, n3, .inl s8)), (q6, .inl (cI, n4, .inl s9)), (q7, .inr (9, [.ref q8, .ref q9, .int s10, .int s11])), (q8, .inl (cI, n5, .inl s12)), (q9, .inl (cI, n6, .inl s13))]) [1, 2, 3, 4, 5, 6, 7, 8, 9] rfl
      have hDc := hD.sub (ws' := [(q1, .inr (6, [.ref q2, .ref q3, .ref q4, .ref q5, .ref q6, .ref q7, .int s1, .int s2, .int s3, .int s4])), (q2, .inl (cI, n0, .inl s5)), (q3, .inl (cI, n1, .inl s6)), (q4, .inl (cI, n2, .inl s7)), (q5, .inl (cI, n3, .inl s8)), (q6, .inl (cI, n4, .inl s9)), (q7, .inr (9, [.ref q8, .ref q9, .int s10, .int s11])), (q8, .inl (cI, n5, .inl s12)), (q9, .inl (cI, n6, .inl s13))]) [1, 2, 3, 4, 5, 6, 7, 8, 9] (by decide) rfl
      have hFc := va_free (wc := [(q1, .inr (6, [.ref q2, .ref q3, .ref q4, .ref q5, .ref q6, .ref q7, .int s1, .int s2, .int s3, .int s4])), (q2, .inl (cI, n0, .inl s5)), (q3, .inl (cI, n1, .inl s6)), (q4, .inl (cI, n2, .inl s7)), (q5, .inl (cI, n3, .inl s8)), (q6, .inl (cI, n4, .inl s9)), (q7, .inr (9, [.ref q8, .ref q9, .int s10, .int s11])), (q8, .inl (cI, n5, .inl s12)), (q9, .inl (cI, n6, .inl s13))]) hD hS hA [1, 2, 3, 4, 5, 6, 7, 8, 9] rfl
      refine va_calli (va_runV (As := [.int (x3 * ((4 : Int32)))]) (rest := []) hS0 (c_X7_isFree l dC dI cI cJ cZ K q1 q2 q3 q4 q5 q6 q7 q8 q9 n0 n1 n2 n3 n4 n5 n6 s1 s2 s3 s4 s5 s6 s7 s8 s9 s10 s11 s12 s13 (x3 * ((4 : Int32))) _ r_2 (t_2_0, t_2_1, t_2_2, t_2_3, t_2_4, t_2_5, t_2_6, t_2_7, t_2_8, t_2_9, t_2_10, t_2_11, t_2_12) hc_2) (cwV 1 hts gX2_areFree_X7_isFree rfl rfl rfl (by decide +kernel) ⟨Nat.le_of_ble_eq_true rfl, Nat.le_of_ble_eq_true rfl⟩) (zz_pv hK hPc hDc hN (va_recv hK hPc (ci := 6) (q0 := 0) rfl rfl)) rfl rfl hl.1 rfl (lv_room (Nat.le_of_ble_eq_true rfl)) dX2_areFree_16 ⟨Nat.zero_le _, Nat.zero_le _⟩) hS (fun q _ h => hFc q h) hFc (fun r u t H1 locs ht hvm hw hB hz1 hk1 hS => ?_)
      obtain ⟨rfl, rfl⟩ := hw
      obtain ⟨hP1, hK1, hD1⟩ := hB
      rw [ht] at hP1
      obtain ⟨hP, hD⟩ := va_join (wr := [(q0, .inr (1, [.ref q1, .int s0]))]) (w1 := [(q1, .inr (6, [.ref q2, .ref q3, .ref q4, .ref q5, .ref q6, .ref q7, .int t_2_0, .int t_2_1, .int t_2_2, .int t_2_3])), (q2, .inl (cI, n0, .inl t_2_4)), (q3, .inl (cI, n1, .inl t_2_5)), (q4, .inl (cI, n2, .inl t_2_6)), (q5, .inl (cI, n3, .inl t_2_7)), (q6, .inl (cI, n4, .inl t_2_8)), (q7, .inr (9, [.ref q8, .ref q9, .int t_2_9, .int t_2_10])), (q8, .inl (cI, n5, .inl t_2_11)), (q9, .inl (cI, n6, .inl t_2_12))]) hP hD [1, 2, 3, 4, 5, 6, 7, 8, 9] [0] rfl rfl (by decide) (by decide) hk1 hFc hP1 hD1
      have hP : va_P (dC, dI) vwCl [(q0, .inr (1, [.ref q1, .int s0])), (q1, .inr (6, [.ref q2, .ref q3, .ref q4, .ref q5, .ref q6, .ref q7, .int t_2_0, .int t_2_1, .int t_2_2, .int t_2_3])), (q2, .inl (cI, n0, .inl t_2_4)), (q3, .inl (cI, n1, .inl t_2_5)), (q4, .inl (cI, n2, .inl t_2_6)), (q5, .inl (cI, n3, .inl t_2_7)), (q6, .inl (cI, n4, .inl t_2_8)), (q7, .inr (9, [.ref q8, .ref q9, .int t_2_9, .int t_2_10])), (q8, .inl (cI, n5, .inl t_2_11)), (q9, .inl (cI, n6, .inl t_2_12))] _ := hP
      have hD : va_D A [(q0, .inr (1, [.ref q1, .int s0])), (q1, .inr (6, [.ref q2, .ref q3, .ref q4, .ref q5, .ref q6, .ref q7, .int t_2_0, .int t_2_1, .int t_2_2, .int t_2_3])), (q2, .inl (cI, n0, .inl t_2_4)), (q3, .inl (cI, n1, .inl t_2_5)), (q4, .inl (cI, n2, .inl t_2_6)), (q5, .inl (cI, n3, .inl t_2_7)), (q6, .inl (cI, n4, .inl t_2_8)), (q7, .inr (9, [.ref q8, .ref q9, .int t_2_9, .int t_2_10])), (q8, .inl (cI, n5, .inl t_2_11)), (q9, .inl (cI, n6, .inl t_2_12))] := hD
      refine lv_if_ne (tgt := 24) hx hb dX2_areFree_19 (by decide) (fun c_3 => ?_) (fun c_3 => ?_)
      · replace hm := zz_f c_3 hm
        refine lv_iinc (v := x3 + 1) (lv' := [(3, .int (x3 + 1)), (0, .ref q0), (1, .int x1), (2, .int x2)]) hx hb dX2_areFree_24 hl (k := 3) rfl rfl (by decide) rfl (fun ls hl => ?_)
        refine lv_goto (tgt := 2) hx hb dX2_areFree_27 (by decide) ?_
        exact ih x1 x2 (x3 + 1) s0 t_2_0 t_2_1 t_2_2 t_2_3 t_2_4 t_2_5 t_2_6 t_2_7 t_2_8 t_2_9 t_2_10 t_2_11 t_2_12 _ _ _ hm hP hD hS (lv_sub hl [1, 2, 3, 0] rfl)
      · replace hm := zz_t c_3 hm
        refine lv_iconst (v := 0) hx hb dX2_areFree_22 (by decide) ?_
        have hm := Option.some.inj hm
        exact W.zret (v := (0 : Int32)) (ty := .boolean) hx hb hr rfl (fun t ht hW => ⟨⟨(0 : Int32), (s0, t_2_0, t_2_1, t_2_2, t_2_3, t_2_4, t_2_5, t_2_6, t_2_7, t_2_8, t_2_9, t_2_10, t_2_11, t_2_12), rfl, ⟨(congrArg (·.1) hm).symm, (congrArg (·.2) hm).symm⟩, by rw [ht]; exact hP, va_K.moved hW.alike hK, hD⟩, hS.F ht⟩) hS.2.2 dX2_areFree_23
def m_X2_areFree (K : Nat) (n0 : Nat) (n1 : Nat) (n2 : Nat) (n3 : Nat) (n4 : Nat) (n5 : Nat) (n6 : Nat) (p1 : Int32) (p2 : Int32) (s0 : Int32) (s1 : Int32) (s2 : Int32) (s3 : Int32) (s4 : Int32) (s5 : Nat → Int32) (s6 : Nat → Int32) (s7 : Nat → Int32) (s8 : Nat → Int32) (s9 : Nat → Int32) (s10 : Int32) (s11 : Int32) (s12 : Nat → Int32) (s13 : Nat → Int32) : Option (Int32 × Int32 × Int32 × Int32 × Int32 × Int32 × (Nat → Int32) × (Nat → Int32) × (Nat → Int32) × (Nat → Int32) × (Nat → Int32) × Int32 × Int32 × (Nat → Int32) × (Nat → Int32)) :=
  m_X2_areFree_L2 K n0 n1 n2 n3 n4 n5 n6 K p1 p2 p1 s0 s1 s2 s3 s4 s5 s6 s7 s8 s9 s10 s11 s12 s13
set_option maxHeartbeats 4000000 in
set_option maxRecDepth 100000 in
theorem c_X2_areFree (l : Launch) (dC : Nat → ClassId) (dI : Nat → Nat → Nat) (cI cJ cZ : ClassId) (K : Nat) (q0 q1 q2 q3 q4 q5 q6 q7 q8 q9 : Nat) (n0 : Nat) (n1 : Nat) (n2 : Nat) (n3 : Nat) (n4 : Nat) (n5 : Nat) (n6 : Nat) (s0 : Int32) (s1 : Int32) (s2 : Int32) (s3 : Int32) (s4 : Int32) (s5 : Nat → Int32) (s6 : Nat → Int32) (s7 : Nat → Int32) (s8 : Nat → Int32) (s9 : Nat → Int32) (s10 : Int32) (s11 : Int32) (s12 : Nat → Int32) (s13 : Nat → Int32) (p1 : Int32) (p2 : Int32) (sz : Nat) (rv : Int32) (uv : Int32 × Int32 × Int32 × Int32 × Int32 × (Nat → Int32) × (Nat → Int32) × (Nat → Int32) × (Nat → Int32) × (Nat → Int32) × Int32 × Int32 × (Nat → Int32) × (Nat → Int32)) (hm : m_X2_areFree K n0 n1 n2 n3 n4 n5 n6 p1 p2 s0 s1 s2 s3 s4 s5 s6 s7 s8 s9 s10 s11 s12 s13 = some (rv, uv)) : Met l yX2_areFree wsX2_areFree rm_X2_areFree (zz_pre dC dI [(cI, .int), (cJ, .long), (cZ, .boolean)] [(q0, .inr (1, [.ref q1, .int s0])), (q1, .inr (6, [.ref q2, .ref q3, .ref q4, .ref q5, .ref q6, .ref q7, .int s1, .int s2, .int s3, .int s4])), (q2, .inl (cI, n0, .inl s5)), (q3, .inl (cI, n1, .inl s6)), (q4, .inl (cI, n2, .inl s7)), (q5, .inl (cI, n3, .inl s8)), (q6, .inl (cI, n4, .inl s9)), (q7, .inr (9, [.ref q8, .ref q9, .int s10, .int s11])), (q8, .inl (cI, n5, .inl s12)), (q9, .inl (cI, n6, .inl s13))] sz [.ref q0, .int p1, .int p2]) (va_Qi (fun r u => rv = r ∧ uv = u) (fun u t => zz_wo dC dI [(cI, .int), (cJ, .long), (cZ, .boolean)] (va_A [(q0, .inr (1, [.ref q1, .int s0])), (q1, .inr (6, [.ref q2, .ref q3, .ref q4, .ref q5, .ref q6, .ref q7, .int s1, .int s2, .int s3, .int s4])), (q2, .inl (cI, n0, .inl s5)), (q3, .inl (cI, n1, .inl s6)), (q4, .inl (cI, n2, .inl s7)), (q5, .inl (cI, n3, .inl s8)), (q6, .inl (cI, n4, .inl s9)), (q7, .inr (9, [.ref q8, .ref q9, .int s10, .int s11])), (q8, .inl (cI, n5, .inl s12)), (q9, .inl (cI, n6, .inl s13))] sz) (ce_X2 cI cJ cZ q0 q1 q2 q3 q4 q5 q6 q7 q8 q9 n0 n1 n2 n3 n4 n5 n6 u) t) (va_A [(q0, .inr (1, [.ref q1, .int s0])), (q1, .inr (6, [.ref q2, .ref q3, .ref q4, .ref q5, .ref q6, .ref q7, .int s1, .int s2, .int s3, .int s4])), (q2, .inl (cI, n0, .inl s5)), (q3, .inl (cI, n1, .inl s6)), (q4, .inl (cI, n2, .inl s7)), (q5, .inl (cI, n3, .inl s8)), (q6, .inl (cI, n4, .inl s9)), (q7, .inr (9, [.ref q8, .ref q9, .int s10, .int s11])), (q8, .inl (cI, n5, .inl s12)), (q9, .inl (cI, n6, .inl s13))] sz)) 0 0 (va_A [(q0, .inr (1, [.ref q1, .int s0])), (q1, .inr (6, [.ref q2, .ref q3, .ref q4, .ref q5, .ref q6, .ref q7, .int s1, .int s2, .int s3, .int s4])), (q2, .inl (cI, n0, .inl s5)), (q3, .inl (cI, n1, .inl s6)), (q4, .inl (cI, n2, .inl s7)), (q5, .inl (cI, n3, .inl s8)), (q6, .inl (cI, n4, .inl s9)), (q7, .inr (9, [.ref q8, .ref q9, .int s10, .int s11])), (q8, .inl (cI, n5, .inl s12)), (q9, .inl (cI, n6, .inl s13))] sz) := by
  refine Met.ofW (cc := cX2_areFree) (maxL := 4) (ret := (some .boolean)) (by decide) rfl ?_
  intro p e s m args below meth c s₁ B hml hv
  obtain ⟨rfl, hsz, hP, hK, hD0, hN⟩ := hv
  have hx := B.exec
  have hb := B.bytes
  have hr := B.returns
  have hts := atoms_spec (ws := wsX2_areFree) B.pre
  have hown : s.vm.findClass RX2 = some m.cls := findClass_of_methodNamed B.named
  have hlocks := B.notSynchronized
  have hS0 : CallFix p m c cX2_areFree 4 s #[.ref q0, .int p1, .int p2] wsX2_areFree RX2 := ⟨hx, hb, hml, hown, hts⟩
  subst hsz
  have hD := hD0.self (sz := s.heap.size)
  generalize hAe : va_A [(q0, .inr (1, [.ref q1, .int s0])), (q1, .inr (6, [.ref q2, .ref q3, .ref q4, .ref q5, .ref q6, .ref q7, .int s1, .int s2, .int s3, .int s4])), (q2, .inl (cI, n0, .inl s5)), (q3, .inl (cI, n1, .inl s6)), (q4, .inl (cI, n2, .inl s7)), (q5, .inl (cI, n3, .inl s8)), (q6, .inl (cI, n4, .inl s9)), (q7, .inr (9, [.ref q8, .ref q9, .int s10, .int s11])), (q8, .inl (cI, n5, .inl s12)), (q9, .inl (cI, n6, .inl s13))] s.heap.size = A at hD ⊢
  have hA : ∀ q : Nat, s.heap.size ≤ q → A q := fun q h => by rw [← hAe]; exact Or.inr h
  have hS : va_S A s.heap s.heap [] := va_S.rf
  have hl := lv_entry ([.ref q0, .int p1, .int p2]) (n := 4) (Nat.le_of_ble_eq_true rfl)
  rw [lg_entry_eq]
  generalize (lg_sl ([.ref q0, .int p1, .int p2]) ++ List.replicate (4 - (lg_sl ([.ref q0, .int p1, .int p2])).length) Slot.unset).toArray = ls at hl ⊢
  have hl : lv_has ls 4 [(0, .ref q0), (1, .int p1), (2, .int p2)] := hl
  have inX2 := in_X2_areFree_X2
  have f15 := hts (.fieldLink RX2 15 "RoomForms$Grains" "room" "LRoomForms$Room;") (by decide +kernel)
  have sm0 := hts (.sameField "RoomForms$Grains" "RoomForms$Form" "room" "LRoomForms$Room;") (by decide +kernel)
  unfold m_X2_areFree at hm
  refine lv_iload_n hx hb dX2_areFree_0 rfl (lv_at hl 1 rfl) ?_
  refine lv_istore_n (lv' := [(3, .int p1), (0, .ref q0), (1, .int p1), (2, .int p2)]) hx hb dX2_areFree_1 rfl hl (by decide) rfl (fun ls hl => ?_)
  exact w_X2_areFree_L2 dC dI cI cJ cZ K q0 q1 q2 q3 q4 q5 q6 q7 q8 q9 n0 n1 n2 n3 n4 n5 n6 A rv uv hS0 hr hlocks hA hK hN K p1 p2 p1 s0 s1 s2 s3 s4 s5 s6 s7 s8 s9 s10 s11 s12 s13 _ _ _ hm hP hD hS (lv_sub hl [1, 2, 3, 0] rfl)
abbrev rm_X2_take : Room := { frames := 2, cells := 0, slots := 0, locals := 44 }
theorem in_X2_take_X2 : ∀ w ∈ wsX20, w ∈ wsX2_take := by decide +kernel
def m_X2_take_L17 (K : Nat) (n0 : Nat) (n1 : Nat) (n2 : Nat) (n3 : Nat) (n4 : Nat) (n5 : Nat) (n6 : Nat) : Nat → Int32 → Int32 → Int32 → Int32 → Int32 → Int32 → Int32 → Int32 → Int32 → (Nat → Int32) → (Nat → Int32) → (Nat → Int32) → (Nat → Int32) → (Nat → Int32) → Int32 → Int32 → (Nat → Int32) → (Nat → Int32) → Option (Int32 × Int32 × Int32 × Int32 × Int32 × Int32 × (Nat → Int32) × (Nat → Int32) × (Nat → Int32) × (Nat → Int32) × (Nat → Int32) × Int32 × Int32 × (Nat → Int32) × (Nat → Int32))
  | 0, _, _, _, _, _, _, _, _, _, _, _, _, _, _, _, _, _, _ => none
  | k + 1, x1, x2, x3, x4, s0, s1, s2, s3, s4, s5, s6, s7, s8, s9, s10, s11, s12, s13 =>
    if s0 < (x4 + x2) then some ((-1 : Int32), (s0, s1, s2, s3, s4, s5, s6, s7, s8, s9, s10, s11, s12, s13))
    else ((m_X7_addLooked K n0 n1 n2 n3 n4 n5 n6 ((1 : Int32)) s1 s2 s3 s4 s5 s6 s7 s8 s9 s10 s11 s12 s13).bind fun ⟨t_3_0, t_3_1, t_3_2, t_3_3, t_3_4, t_3_5, t_3_6, t_3_7, t_3_8, t_3_9, t_3_10, t_3_11, t_3_12⟩ => ((m_X2_areFree K n0 n1 n2 n3 n4 n5 n6 x4 x2 s0 t_3_0 t_3_1 t_3_2 t_3_3 t_3_4 t_3_5 t_3_6 t_3_7 t_3_8 t_3_9 t_3_10 t_3_11 t_3_12).bind fun ⟨r_4, t_4_0, t_4_1, t_4_2, t_4_3, t_4_4, t_4_5, t_4_6, t_4_7, t_4_8, t_4_9, t_4_10, t_4_11, t_4_12, t_4_13⟩ => (if r_4 = 0 then m_X2_take_L17 K n0 n1 n2 n3 n4 n5 n6 k x1 x2 x3 (x4 + x3) t_4_0 t_4_1 t_4_2 t_4_3 t_4_4 t_4_5 t_4_6 t_4_7 t_4_8 t_4_9 t_4_10 t_4_11 t_4_12 t_4_13
    else some (x4 * ((4 : Int32)), (t_4_0, t_4_1, t_4_2, t_4_3, t_4_4, t_4_5, t_4_6, t_4_7, t_4_8, t_4_9, t_4_10, t_4_11, t_4_12, t_4_13)))))
theorem m_X2_take_L17_s (K : Nat) (n0 : Nat) (n1 : Nat) (n2 : Nat) (n3 : Nat) (n4 : Nat) (n5 : Nat) (n6 : Nat) (k : Nat) (x1 : Int32) (x2 : Int32) (x3 : Int32) (x4 : Int32) (s0 : Int32) (s1 : Int32) (s2 : Int32) (s3 : Int32) (s4 : Int32) (s5 : Nat → Int32) (s6 : Nat → Int32) (s7 : Nat → Int32) (s8 : Nat → Int32) (s9 : Nat → Int32) (s10 : Int32) (s11 : Int32) (s12 : Nat → Int32) (s13 : Nat → Int32) : m_X2_take_L17 K n0 n1 n2 n3 n4 n5 n6 (k + 1) x1 x2 x3 x4 s0 s1 s2 s3 s4 s5 s6 s7 s8 s9 s10 s11 s12 s13 =
    (if s0 < (x4 + x2) then some ((-1 : Int32), (s0, s1, s2, s3, s4, s5, s6, s7, s8, s9, s10, s11, s12, s13))
    else ((m_X7_addLooked K n0 n1 n2 n3 n4 n5 n6 ((1 : Int32)) s1 s2 s3 s4 s5 s6 s7 s8 s9 s10 s11 s12 s13).bind fun ⟨t_3_0, t_3_1, t_3_2, t_3_3, t_3_4, t_3_5, t_3_6, t_3_7, t_3_8, t_3_9, t_3_10, t_3_11, t_3_12⟩ => ((m_X2_areFree K n0 n1 n2 n3 n4 n5 n6 x4 x2 s0 t_3_0 t_3_1 t_3_2 t_3_3 t_3_4 t_3_5 t_3_6 t_3_7 t_3_8 t_3_9 t_3_10 t_3_11 t_3_12).bind fun ⟨r_4, t_4_0, t_4_1, t_4_2, t_4_3, t_4_4, t_4_5, t_4_6, t_4_7, t_4_8, t_4_9, t_4_10, t_4_11, t_4_12, t_4_13⟩ => (if r_4 = 0 then m_X2_take_L17 K n0 n1 n2 n3 n4 n5 n6 k x1 x2 x3 (x4 + x3) t_4_0 t_4_1 t_4_2 t_4_3 t_4_4 t_4_5 t_4_6 t_4_7 t_4_8 t_4_9 t_4_10 t_4_11 t_4_12 t_4_13
    else some (x4 * ((4 : Int32)), (t_4_0, t_4_1, t_4_2, t_4_3, t_4_4, t_4_5, t_4_6, t_4_7, t_4_8, t_4_9, t_4_10, t_4_11, t_4_12, t_4_13)))))) := rfl
set_option maxHeartbeats 4000000 in
set_option maxRecDepth 100000 in
theorem w_X2_take_L17 {p : Program} {l : Launch} {e : Env} {s : State} {m : MethodId} {args : Array Value} {below : List Frame} {meth : Method} {c : Code} (dC : Nat → ClassId) (dI : Nat → Nat → Nat) (cI cJ cZ : ClassId) (K : Nat) (q0 q1 q2 q3 q4 q5 q6 q7 q8 q9 : Nat) (n0 : Nat) (n1 : Nat) (n2 : Nat) (n3 : Nat) (n4 : Nat) (n5 : Nat) (n6 : Nat) (A : Nat → Prop) (rv : Int32) (uv : Int32 × Int32 × Int32 × Int32 × Int32 × (Nat → Int32) × (Nat → Int32) × (Nat → Int32) × (Nat → Int32) × (Nat → Int32) × Int32 × Int32 × (Nat → Int32) × (Nat → Int32)) (hS0 : CallFix p m c cX2_take 5 s args wsX2_take RX2) (hr : meth.sig.returnType = (some .int)) (hlocks : meth.locks = false) (hA : ∀ q : Nat, s.heap.size ≤ q → A q) (hK : va_K (dC, dI) vwCl [(cI, .int), (cJ, .long), (cZ, .boolean)] s) (hN : zz_nw s) : ∀ (k : Nat) (x1 : Int32) (x2 : Int32) (x3 : Int32) (x4 : Int32) (s0 : Int32) (s1 : Int32) (s2 : Int32) (s3 : Int32) (s4 : Int32) (s5 : Nat → Int32) (s6 : Nat → Int32) (s7 : Nat → Int32) (s8 : Nat → Int32) (s9 : Nat → Int32) (s10 : Int32) (s11 : Int32) (s12 : Nat → Int32) (s13 : Nat → Int32) (H : Heap) (locs : List Loc) (ls : Array Slot), m_X2_take_L17 K n0 n1 n2 n3 n4 n5 n6 k x1 x2 x3 x4 s0 s1 s2 s3 s4 s5 s6 s7 s8 s9 s10 s11 s12 s13 = some (rv, uv) → va_P (dC, dI) vwCl [(q0, .inr (1, [.ref q1, .int s0])), (q1, .inr (6, [.ref q2, .ref q3, .ref q4, .ref q5, .ref q6, .ref q7, .int s1, .int s2, .int s3, .int s4])), (q2, .inl (cI, n0, .inl s5)), (q3, .inl (cI, n1, .inl s6)), (q4, .inl (cI, n2, .inl s7)), (q5, .inl (cI, n3, .inl s8)), (q6, .inl (cI, n4, .inl s9)), (q7, .inr (9, [.ref q8, .ref q9, .int s10, .int s11])), (q8, .inl (cI, n5, .inl s12)), (q9, .inl (cI, n6, .inl s13))] H → va_D A [(q0, .inr (1, [.ref q1, .int s0])), (q1, .inr (6, [.ref q2, .ref q3, .ref q4, .ref q5, .ref q6, .ref q7, .int s1, .int s2, .int s3, .int s4])), (q2, .inl (cI, n0, .inl s5)), (q3, .inl (cI, n1, .inl s6)), (q4, .inl (cI, n2, .inl s7)), (q5, .inl (cI, n3, .inl s8)), (q6, .inl (cI, n4, .inl s9)), (q7, .inr (9, [.ref q8, .ref q9, .int s10, .int s11])), (q8, .inl (cI, n5, .inl s12)), (q9, .inl (cI, n6, .inl s13))] → va_S A s.heap H locs → lv_has ls 5 [(0, .ref q0), (1, .int x1), (2, .int x2), (3, .int x3), (4, .int x4)] → W p l e rm_X2_take s m args below meth c H locs 0 0 (MQ below (va_Qi (fun r u => rv = r ∧ uv = u) (fun u t => zz_wo dC dI [(cI, .int), (cJ, .long), (cZ, .boolean)] A (ce_X2 cI cJ cZ q0 q1 q2 q3 q4 q5 q6 q7 q8 q9 n0 n1 n2 n3 n4 n5 n6 u) t) A) args s 0 0 A) (F0 m 17 ls []) := by
  obtain ⟨hx, hb, hml, hown, hts⟩ := id hS0
  have inX2 := in_X2_take_X2
  have f9 := hts (.fieldLink RX2 9 "RoomForms$Grains" "grains" "I") (by decide +kernel)
  have f15 := hts (.fieldLink RX2 15 "RoomForms$Grains" "room" "LRoomForms$Room;") (by decide +kernel)
  have sm0 := hts (.sameField "RoomForms$Grains" "RoomForms$Form" "room" "LRoomForms$Room;") (by decide +kernel)
  intro k
  induction k with
  | zero =>
    intro _ _ _ _ _ _ _ _ _ _ _ _ _ _ _ _ _ _ _ _ _ hm
    have hm9 : (none : Option (Int32 × Int32 × Int32 × Int32 × Int32 × Int32 × (Nat → Int32) × (Nat → Int32) × (Nat → Int32) × (Nat → Int32) × (Nat → Int32) × Int32 × Int32 × (Nat → Int32) × (Nat → Int32))) = some _ := hm
    cases hm9
  | succ k ih =>
    intro x1 x2 x3 x4 s0 s1 s2 s3 s4 s5 s6 s7 s8 s9 s10 s11 s12 s13 H locs ls hm hP hD hS hl
    rw [m_X2_take_L17_s] at hm
    refine lv_iload hx hb dX2_take_17 (lv_at hl 4 rfl) ?_
    refine lv_iload_n hx hb dX2_take_19 rfl (lv_at hl 2 rfl) ?_
    refine lv_iadd hx hb dX2_take_20 ?_
    refine lv_aload_n hx hb dX2_take_21 rfl (lv_at hl 0 rfl) ?_
    refine va_get (D := (dC, dI)) (ci := 1) (v := .int s0) (C := RX2) (T := TX2) (N := 2) hx hb hts inX2 hown hK hP 0 rfl rfl 1 (by decide) f9 (fun _ h9 => h9) rfl dX2_take_22 ?_
    refine lv_icmp_gt (tgt := 60) hx hb dX2_take_25 (by decide) (fun c_2 => ?_) (fun c_2 => ?_)
    · replace hm := zz_t c_2 hm
      refine lv_iconst (v := (-1)) hx hb dX2_take_60 (by decide) ?_
      have hm := Option.some.inj hm
      exact W.iret (v := (-1 : Int32)) hx hb hr (fun t ht hW => ⟨⟨(-1 : Int32), (s0, s1, s2, s3, s4, s5, s6, s7, s8, s9, s10, s11, s12, s13), rfl, ⟨(congrArg (·.1) hm).symm, (congrArg (·.2) hm).symm⟩, by rw [ht]; exact hP, va_K.moved hW.alike hK, hD⟩, hS.F ht⟩) hS.2.2 dX2_take_61
    · replace hm := zz_f c_2 hm
      refine lv_aload_n hx hb dX2_take_28 rfl (lv_at hl 0 rfl) ?_
      refine va_get (D := (dC, dI)) (ci := 1) (v := .ref q1) (C := RX2) (T := TX2) (N := 2) hx hb hts inX2 hown hK hP 0 rfl rfl 0 (by decide) f15 (u_same sm0) rfl dX2_take_29 ?_
      refine lv_iconst (v := 1) hx hb dX2_take_32 (by decide) ?_
      obtain ⟨⟨t_3_0, t_3_1, t_3_2, t_3_3, t_3_4, t_3_5, t_3_6, t_3_7, t_3_8, t_3_9, t_3_10, t_3_11, t_3_12⟩, hc_3, hm⟩ := zz_bind hm
      have hPc := hP.sub (ws' := [(q1, .inr (6, [.ref q2, .ref q3, .ref q4, .ref q5, .ref q6, .ref q7, .int s1, .int s2, .int s3, .int s4])), (q2, .inl (cI, n0, .inl s5)), (q3, .inl (cI, n1, .inl s6)), (q4, .inl (cI, n2, .inl s7)), (q5, .inl (cI, n3, .inl s8)), (q6, .inl (cI, n4, .inl s9)), (q7, .inr (9, [.ref q8, .ref q9, .int s10, .int s11])), (q8, .inl (cI, n5, .inl s12)), (q9, .inl (cI, n6, .inl s13))]) [1, 2, 3, 4, 5, 6, 7, 8, 9] rfl
      have hDc := hD.sub (ws' := [(q1, .inr (6, [.ref q2, .ref q3, .ref q4, .ref q5, .ref q6, .ref q7, .int s1, .int s2, .int s3, .int s4])), (q2, .inl (cI, n0, .inl s5)), (q3, .inl (cI, n1, .inl s6)), (q4, .inl (cI, n2, .inl s7)), (q5, .inl (cI, n3, .inl s8)), (q6, .inl (cI, n4, .inl s9)), (q7, .inr (9, [.ref q8, .ref q9, .int s10, .int s11])), (q8, .inl (cI, n5, .inl s12)), (q9, .inl (cI, n6, .inl s13))]) [1, 2, 3, 4, 5, 6, 7, 8, 9] (by decide) rfl
      have hFc := va_free (wc := [(q1, .inr (6, [.ref q2, .ref q3, .ref q4, .ref q5, .ref q6, .ref q7, .int s1, .int s2, .int s3, .int s4])), (q2, .inl (cI, n0, .inl s5)), (q3, .inl (cI, n1, .inl s6)), (q4, .inl (cI, n2, .inl s7)), (q5, .inl (cI, n3, .inl s8)), (q6, .inl (cI, n4, .inl s9)), (q7, .inr (9, [.ref q8, .ref q9, .int s10, .int s11])), (q8, .inl (cI, n5, .inl s12)), (q9, .inl (cI, n6, .inl s13))]) hD hS hA [1, 2, 3, 4, 5, 6, 7, 8, 9] rfl
      refine va_callv (va_runV (As := [.int ((1 : Int32))]) (rest := []) hS0 (c_X7_addLooked l dC dI cI cJ cZ K q1 q2 q3 q4 q5 q6 q7 q8 q9 n0 n1 n2 n3 n4 n5 n6 s1 s2 s3 s4 s5 s6 s7 s8 s9 s10 s11 s12 s13 ((1 : Int32)) _ (t_3_0, t_3_1, t_3_2, t_3_3, t_3_4, t_3_5, t_3_6, t_3_7, t_3_8, t_3_9, t_3_10, t_3_11, t_3_12) hc_3) (cwV 1 hts gX2_take_X7_addLooked rfl rfl rfl (by decide +kernel) ⟨Nat.le_of_ble_eq_true rfl, Nat.le_of_ble_eq_true rfl⟩) (zz_pv hK hPc hDc hN (va_recv hK hPc (ci := 6) (q0 := 0) rfl rfl)) rfl rfl hl.1 rfl (lv_room (Nat.le_of_ble_eq_true rfl)) dX2_take_33 ⟨Nat.zero_le _, Nat.zero_le _⟩) hS (fun q _ h => hFc q h) hFc (fun u t H1 locs ht hvm hw hB hz1 hk1 hS => ?_)
      subst hw
      obtain ⟨hP1, hK1, hD1⟩ := hB
      rw [ht] at hP1
      obtain ⟨hP, hD⟩ := va_join (wr := [(q0, .inr (1, [.ref q1, .int s0]))]) (w1 := [(q1, .inr (6, [.ref q2, .ref q3, .ref q4, .ref q5, .ref q6, .ref q7, .int t_3_0, .int t_3_1, .int t_3_2, .int t_3_3])), (q2, .inl (cI, n0, .inl t_3_4)), (q3, .inl (cI, n1, .inl t_3_5)), (q4, .inl (cI, n2, .inl t_3_6)), (q5, .inl (cI, n3, .inl t_3_7)), (q6, .inl (cI, n4, .inl t_3_8)), (q7, .inr (9, [.ref q8, .ref q9, .int t_3_9, .int t_3_10])), (q8, .inl (cI, n5, .inl t_3_11)), (q9, .inl (cI, n6, .inl t_3_12))]) hP hD [1, 2, 3, 4, 5, 6, 7, 8, 9] [0] rfl rfl (by decide) (by decide) hk1 hFc hP1 hD1
      have hP : va_P (dC, dI) vwCl [(q0, .inr (1, [.ref q1, .int s0])), (q1, .inr (6, [.ref q2, .ref q3, .ref q4, .ref q5, .ref q6, .ref q7, .int t_3_0, .int t_3_1, .int t_3_2, .int t_3_3])), (q2, .inl (cI, n0, .inl t_3_4)), (q3, .inl (cI, n1, .inl t_3_5)), (q4, .inl (cI, n2, .inl t_3_6)), (q5, .inl (cI, n3, .inl t_3_7)), (q6, .inl (cI, n4, .inl t_3_8)), (q7, .inr (9, [.ref q8, .ref q9, .int t_3_9, .int t_3_10])), (q8, .inl (cI, n5, .inl t_3_11)), (q9, .inl (cI, n6, .inl t_3_12))] _ := hP
      have hD : va_D A [(q0, .inr (1, [.ref q1, .int s0])), (q1, .inr (6, [.ref q2, .ref q3, .ref q4, .ref q5, .ref q6, .ref q7, .int t_3_0, .int t_3_1, .int t_3_2, .int t_3_3])), (q2, .inl (cI, n0, .inl t_3_4)), (q3, .inl (cI, n1, .inl t_3_5)), (q4, .inl (cI, n2, .inl t_3_6)), (q5, .inl (cI, n3, .inl t_3_7)), (q6, .inl (cI, n4, .inl t_3_8)), (q7, .inr (9, [.ref q8, .ref q9, .int t_3_9, .int t_3_10])), (q8, .inl (cI, n5, .inl t_3_11)), (q9, .inl (cI, n6, .inl t_3_12))] := hD
      refine lv_aload_n hx hb dX2_take_36 rfl (lv_at hl 0 rfl) ?_
      refine lv_iload hx hb dX2_take_37 (lv_at hl 4 rfl) ?_
      refine lv_iload_n hx hb dX2_take_39 rfl (lv_at hl 2 rfl) ?_
      obtain ⟨⟨r_4, t_4_0, t_4_1, t_4_2, t_4_3, t_4_4, t_4_5, t_4_6, t_4_7, t_4_8, t_4_9, t_4_10, t_4_11, t_4_12, t_4_13⟩, hc_4, hm⟩ := zz_bind hm
      have hPc := hP.sub (ws' := [(q0, .inr (1, [.ref q1, .int s0])), (q1, .inr (6, [.ref q2, .ref q3, .ref q4, .ref q5, .ref q6, .ref q7, .int t_3_0, .int t_3_1, .int t_3_2, .int t_3_3])), (q2, .inl (cI, n0, .inl t_3_4)), (q3, .inl (cI, n1, .inl t_3_5)), (q4, .inl (cI, n2, .inl t_3_6)), (q5, .inl (cI, n3, .inl t_3_7)), (q6, .inl (cI, n4, .inl t_3_8)), (q7, .inr (9, [.ref q8, .ref q9, .int t_3_9, .int t_3_10])), (q8, .inl (cI, n5, .inl t_3_11)), (q9, .inl (cI, n6, .inl t_3_12))]) [0, 1, 2, 3, 4, 5, 6, 7, 8, 9] rfl
      have hDc := hD.sub (ws' := [(q0, .inr (1, [.ref q1, .int s0])), (q1, .inr (6, [.ref q2, .ref q3, .ref q4, .ref q5, .ref q6, .ref q7, .int t_3_0, .int t_3_1, .int t_3_2, .int t_3_3])), (q2, .inl (cI, n0, .inl t_3_4)), (q3, .inl (cI, n1, .inl t_3_5)), (q4, .inl (cI, n2, .inl t_3_6)), (q5, .inl (cI, n3, .inl t_3_7)), (q6, .inl (cI, n4, .inl t_3_8)), (q7, .inr (9, [.ref q8, .ref q9, .int t_3_9, .int t_3_10])), (q8, .inl (cI, n5, .inl t_3_11)), (q9, .inl (cI, n6, .inl t_3_12))]) [0, 1, 2, 3, 4, 5, 6, 7, 8, 9] (by decide) rfl
      have hFc := va_free (wc := [(q0, .inr (1, [.ref q1, .int s0])), (q1, .inr (6, [.ref q2, .ref q3, .ref q4, .ref q5, .ref q6, .ref q7, .int t_3_0, .int t_3_1, .int t_3_2, .int t_3_3])), (q2, .inl (cI, n0, .inl t_3_4)), (q3, .inl (cI, n1, .inl t_3_5)), (q4, .inl (cI, n2, .inl t_3_6)), (q5, .inl (cI, n3, .inl t_3_7)), (q6, .inl (cI, n4, .inl t_3_8)), (q7, .inr (9, [.ref q8, .ref q9, .int t_3_9, .int t_3_10])), (q8, .inl (cI, n5, .inl t_3_11)), (q9, .inl (cI, n6, .inl t_3_12))]) hD hS hA [0, 1, 2, 3, 4, 5, 6, 7, 8, 9] rfl
      refine va_calli (va_runV (As := [.int x4, .int x2]) (rest := []) hS0 (c_X2_areFree l dC dI cI cJ cZ K q0 q1 q2 q3 q4 q5 q6 q7 q8 q9 n0 n1 n2 n3 n4 n5 n6 s0 t_3_0 t_3_1 t_3_2 t_3_3 t_3_4 t_3_5 t_3_6 t_3_7 t_3_8 t_3_9 t_3_10 t_3_11 t_3_12 x4 x2 _ r_4 (t_4_0, t_4_1, t_4_2, t_4_3, t_4_4, t_4_5, t_4_6, t_4_7, t_4_8, t_4_9, t_4_10, t_4_11, t_4_12, t_4_13) hc_4) (cwV 2 hts gX2_take_X2_areFree rfl rfl rfl (by decide +kernel) ⟨Nat.le_of_ble_eq_true rfl, Nat.le_of_ble_eq_true rfl⟩) (zz_pv hK hPc hDc hN (va_recv hK hPc (ci := 1) (q0 := 0) rfl rfl)) rfl rfl hl.1 rfl (lv_room (Nat.le_of_ble_eq_true rfl)) dX2_take_40 ⟨Nat.zero_le _, Nat.zero_le _⟩) hS (fun q _ h => hFc q h) hFc (fun r u t H1 locs ht hvm hw hB hz1 hk1 hS => ?_)
      obtain ⟨rfl, rfl⟩ := hw
      obtain ⟨hP1, hK1, hD1⟩ := hB
      rw [ht] at hP1
      obtain ⟨hP, hD⟩ := va_join (wr := []) (w1 := [(q0, .inr (1, [.ref q1, .int t_4_0])), (q1, .inr (6, [.ref q2, .ref q3, .ref q4, .ref q5, .ref q6, .ref q7, .int t_4_1, .int t_4_2, .int t_4_3, .int t_4_4])), (q2, .inl (cI, n0, .inl t_4_5)), (q3, .inl (cI, n1, .inl t_4_6)), (q4, .inl (cI, n2, .inl t_4_7)), (q5, .inl (cI, n3, .inl t_4_8)), (q6, .inl (cI, n4, .inl t_4_9)), (q7, .inr (9, [.ref q8, .ref q9, .int t_4_10, .int t_4_11])), (q8, .inl (cI, n5, .inl t_4_12)), (q9, .inl (cI, n6, .inl t_4_13))]) hP hD [0, 1, 2, 3, 4, 5, 6, 7, 8, 9] [] rfl rfl (by decide) (by decide) hk1 hFc hP1 hD1
      have hP : va_P (dC, dI) vwCl [(q0, .inr (1, [.ref q1, .int t_4_0])), (q1, .inr (6, [.ref q2, .ref q3, .ref q4, .ref q5, .ref q6, .ref q7, .int t_4_1, .int t_4_2, .int t_4_3, .int t_4_4])), (q2, .inl (cI, n0, .inl t_4_5)), (q3, .inl (cI, n1, .inl t_4_6)), (q4, .inl (cI, n2, .inl t_4_7)), (q5, .inl (cI, n3, .inl t_4_8)), (q6, .inl (cI, n4, .inl t_4_9)), (q7, .inr (9, [.ref q8, .ref q9, .int t_4_10, .int t_4_11])), (q8, .inl (cI, n5, .inl t_4_12)), (q9, .inl (cI, n6, .inl t_4_13))] _ := hP
      have hD : va_D A [(q0, .inr (1, [.ref q1, .int t_4_0])), (q1, .inr (6, [.ref q2, .ref q3, .ref q4, .ref q5, .ref q6, .ref q7, .int t_4_1, .int t_4_2, .int t_4_3, .int t_4_4])), (q2, .inl (cI, n0, .inl t_4_5)), (q3, .inl (cI, n1, .inl t_4_6)), (q4, .inl (cI, n2, .inl t_4_7)), (q5, .inl (cI, n3, .inl t_4_8)), (q6, .inl (cI, n4, .inl t_4_9)), (q7, .inr (9, [.ref q8, .ref q9, .int t_4_10, .int t_4_11])), (q8, .inl (cI, n5, .inl t_4_12)), (q9, .inl (cI, n6, .inl t_4_13))] := hD
      refine lv_if_eq (tgt := 51) hx hb dX2_take_43 (by decide) (fun c_5 => ?_) (fun c_5 => ?_)
      · replace hm := zz_t c_5 hm
        refine lv_iload hx hb dX2_take_51 (lv_at hl 4 rfl) ?_
        refine lv_iload_n hx hb dX2_take_53 rfl (lv_at hl 3 rfl) ?_
        refine lv_iadd hx hb dX2_take_54 ?_
        refine lv_istore (lv' := [(4, .int (x4 + x3)), (0, .ref q0), (1, .int x1), (2, .int x2), (3, .int x3)]) hx hb dX2_take_55 hl (by decide) rfl (fun ls hl => ?_)
        refine lv_goto (tgt := 17) hx hb dX2_take_57 (by decide) ?_
        exact ih x1 x2 x3 (x4 + x3) t_4_0 t_4_1 t_4_2 t_4_3 t_4_4 t_4_5 t_4_6 t_4_7 t_4_8 t_4_9 t_4_10 t_4_11 t_4_12 t_4_13 _ _ _ hm hP hD hS (lv_sub hl [1, 2, 3, 4, 0] rfl)
      · replace hm := zz_f c_5 hm
        refine lv_iload hx hb dX2_take_46 (lv_at hl 4 rfl) ?_
        refine lv_iconst (v := 4) hx hb dX2_take_48 (by decide) ?_
        refine lv_imul hx hb dX2_take_49 ?_
        have hm := Option.some.inj hm
        exact W.iret (v := x4 * ((4 : Int32))) hx hb hr (fun t ht hW => ⟨⟨x4 * ((4 : Int32)), (t_4_0, t_4_1, t_4_2, t_4_3, t_4_4, t_4_5, t_4_6, t_4_7, t_4_8, t_4_9, t_4_10, t_4_11, t_4_12, t_4_13), rfl, ⟨(congrArg (·.1) hm).symm, (congrArg (·.2) hm).symm⟩, by rw [ht]; exact hP, va_K.moved hW.alike hK, hD⟩, hS.F ht⟩) hS.2.2 dX2_take_50
def m_X2_take (K : Nat) (n0 : Nat) (n1 : Nat) (n2 : Nat) (n3 : Nat) (n4 : Nat) (n5 : Nat) (n6 : Nat) (p1 : Int32) (s0 : Int32) (s1 : Int32) (s2 : Int32) (s3 : Int32) (s4 : Int32) (s5 : Nat → Int32) (s6 : Nat → Int32) (s7 : Nat → Int32) (s8 : Nat → Int32) (s9 : Nat → Int32) (s10 : Int32) (s11 : Int32) (s12 : Nat → Int32) (s13 : Nat → Int32) : Option (Int32 × Int32 × Int32 × Int32 × Int32 × Int32 × (Nat → Int32) × (Nat → Int32) × (Nat → Int32) × (Nat → Int32) × (Nat → Int32) × Int32 × Int32 × (Nat → Int32) × (Nat → Int32)) :=
  (m_X11_powerFrom K (p1 / ((4 : Int32)))).bind fun ⟨r_1, _⟩ => m_X2_take_L17 K n0 n1 n2 n3 n4 n5 n6 K p1 (p1 / ((4 : Int32))) (zz_min r_1 ((8 : Int32))) ((0 : Int32)) s0 s1 s2 s3 s4 s5 s6 s7 s8 s9 s10 s11 s12 s13
set_option maxHeartbeats 4000000 in
set_option maxRecDepth 100000 in
theorem c_X2_take (l : Launch) (dC : Nat → ClassId) (dI : Nat → Nat → Nat) (cI cJ cZ : ClassId) (K : Nat) (q0 q1 q2 q3 q4 q5 q6 q7 q8 q9 : Nat) (n0 : Nat) (n1 : Nat) (n2 : Nat) (n3 : Nat) (n4 : Nat) (n5 : Nat) (n6 : Nat) (s0 : Int32) (s1 : Int32) (s2 : Int32) (s3 : Int32) (s4 : Int32) (s5 : Nat → Int32) (s6 : Nat → Int32) (s7 : Nat → Int32) (s8 : Nat → Int32) (s9 : Nat → Int32) (s10 : Int32) (s11 : Int32) (s12 : Nat → Int32) (s13 : Nat → Int32) (p1 : Int32) (sz : Nat) (rv : Int32) (uv : Int32 × Int32 × Int32 × Int32 × Int32 × (Nat → Int32) × (Nat → Int32) × (Nat → Int32) × (Nat → Int32) × (Nat → Int32) × Int32 × Int32 × (Nat → Int32) × (Nat → Int32)) (hm : m_X2_take K n0 n1 n2 n3 n4 n5 n6 p1 s0 s1 s2 s3 s4 s5 s6 s7 s8 s9 s10 s11 s12 s13 = some (rv, uv)) : Met l yX2_take wsX2_take rm_X2_take (zz_pre dC dI [(cI, .int), (cJ, .long), (cZ, .boolean)] [(q0, .inr (1, [.ref q1, .int s0])), (q1, .inr (6, [.ref q2, .ref q3, .ref q4, .ref q5, .ref q6, .ref q7, .int s1, .int s2, .int s3, .int s4])), (q2, .inl (cI, n0, .inl s5)), (q3, .inl (cI, n1, .inl s6)), (q4, .inl (cI, n2, .inl s7)), (q5, .inl (cI, n3, .inl s8)), (q6, .inl (cI, n4, .inl s9)), (q7, .inr (9, [.ref q8, .ref q9, .int s10, .int s11])), (q8, .inl (cI, n5, .inl s12)), (q9, .inl (cI, n6, .inl s13))] sz [.ref q0, .int p1]) (va_Qi (fun r u => rv = r ∧ uv = u) (fun u t => zz_wo dC dI [(cI, .int), (cJ, .long), (cZ, .boolean)] (va_A [(q0, .inr (1, [.ref q1, .int s0])), (q1, .inr (6, [.ref q2, .ref q3, .ref q4, .ref q5, .ref q6, .ref q7, .int s1, .int s2, .int s3, .int s4])), (q2, .inl (cI, n0, .inl s5)), (q3, .inl (cI, n1, .inl s6)), (q4, .inl (cI, n2, .inl s7)), (q5, .inl (cI, n3, .inl s8)), (q6, .inl (cI, n4, .inl s9)), (q7, .inr (9, [.ref q8, .ref q9, .int s10, .int s11])), (q8, .inl (cI, n5, .inl s12)), (q9, .inl (cI, n6, .inl s13))] sz) (ce_X2 cI cJ cZ q0 q1 q2 q3 q4 q5 q6 q7 q8 q9 n0 n1 n2 n3 n4 n5 n6 u) t) (va_A [(q0, .inr (1, [.ref q1, .int s0])), (q1, .inr (6, [.ref q2, .ref q3, .ref q4, .ref q5, .ref q6, .ref q7, .int s1, .int s2, .int s3, .int s4])), (q2, .inl (cI, n0, .inl s5)), (q3, .inl (cI, n1, .inl s6)), (q4, .inl (cI, n2, .inl s7)), (q5, .inl (cI, n3, .inl s8)), (q6, .inl (cI, n4, .inl s9)), (q7, .inr (9, [.ref q8, .ref q9, .int s10, .int s11])), (q8, .inl (cI, n5, .inl s12)), (q9, .inl (cI, n6, .inl s13))] sz)) 0 0 (va_A [(q0, .inr (1, [.ref q1, .int s0])), (q1, .inr (6, [.ref q2, .ref q3, .ref q4, .ref q5, .ref q6, .ref q7, .int s1, .int s2, .int s3, .int s4])), (q2, .inl (cI, n0, .inl s5)), (q3, .inl (cI, n1, .inl s6)), (q4, .inl (cI, n2, .inl s7)), (q5, .inl (cI, n3, .inl s8)), (q6, .inl (cI, n4, .inl s9)), (q7, .inr (9, [.ref q8, .ref q9, .int s10, .int s11])), (q8, .inl (cI, n5, .inl s12)), (q9, .inl (cI, n6, .inl s13))] sz) := by
  refine Met.ofW (cc := cX2_take) (maxL := 5) (ret := (some .int)) (by decide) rfl ?_
  intro p e s m args below meth c s₁ B hml hv
  obtain ⟨rfl, hsz, hP, hK, hD0, hN⟩ := hv
  have hx := B.exec
  have hb := B.bytes
  have hr := B.returns
  have hts := atoms_spec (ws := wsX2_take) B.pre
  have hown : s.vm.findClass RX2 = some m.cls := findClass_of_methodNamed B.named
  have hlocks := B.notSynchronized
  have hS0 : CallFix p m c cX2_take 5 s #[.ref q0, .int p1] wsX2_take RX2 := ⟨hx, hb, hml, hown, hts⟩
  subst hsz
  have hD := hD0.self (sz := s.heap.size)
  generalize hAe : va_A [(q0, .inr (1, [.ref q1, .int s0])), (q1, .inr (6, [.ref q2, .ref q3, .ref q4, .ref q5, .ref q6, .ref q7, .int s1, .int s2, .int s3, .int s4])), (q2, .inl (cI, n0, .inl s5)), (q3, .inl (cI, n1, .inl s6)), (q4, .inl (cI, n2, .inl s7)), (q5, .inl (cI, n3, .inl s8)), (q6, .inl (cI, n4, .inl s9)), (q7, .inr (9, [.ref q8, .ref q9, .int s10, .int s11])), (q8, .inl (cI, n5, .inl s12)), (q9, .inl (cI, n6, .inl s13))] s.heap.size = A at hD ⊢
  have hA : ∀ q : Nat, s.heap.size ≤ q → A q := fun q h => by rw [← hAe]; exact Or.inr h
  have hS : va_S A s.heap s.heap [] := va_S.rf
  have hl := lv_entry ([.ref q0, .int p1]) (n := 5) (Nat.le_of_ble_eq_true rfl)
  rw [lg_entry_eq]
  generalize (lg_sl ([.ref q0, .int p1]) ++ List.replicate (5 - (lg_sl ([.ref q0, .int p1])).length) Slot.unset).toArray = ls at hl ⊢
  have hl : lv_has ls 5 [(0, .ref q0), (1, .int p1)] := hl
  have inX2 := in_X2_take_X2
  have f9 := hts (.fieldLink RX2 9 "RoomForms$Grains" "grains" "I") (by decide +kernel)
  have f15 := hts (.fieldLink RX2 15 "RoomForms$Grains" "room" "LRoomForms$Room;") (by decide +kernel)
  have sm0 := hts (.sameField "RoomForms$Grains" "RoomForms$Form" "room" "LRoomForms$Room;") (by decide +kernel)
  unfold m_X2_take at hm
  refine lv_iload_n hx hb dX2_take_0 rfl (lv_at hl 1 rfl) ?_
  refine lv_iconst (v := 4) hx hb dX2_take_1 (by decide) ?_
  refine lv_idiv hx hb dX2_take_2 (by decide) ?_
  refine lv_istore_n (lv' := [(2, .int (p1 / ((4 : Int32)))), (0, .ref q0), (1, .int p1)]) hx hb dX2_take_3 rfl hl (by decide) rfl (fun ls hl => ?_)
  refine lv_iload_n hx hb dX2_take_4 rfl (lv_at hl 0 rfl) ?_
  obtain ⟨⟨r_1, _⟩, hc_1, hm⟩ := zz_bind hm
  have hPc := hP.sub (ws' := []) [] rfl
  have hDc := hD.sub (ws' := []) [] (by decide) rfl
  have hFc := va_free (wc := []) hD hS hA [] rfl
  refine va_calli (va_runSN (As := [.int (p1 / ((4 : Int32)))]) (rest := []) hS0 (c_X11_powerFrom l dC dI cI cJ cZ K (p1 / ((4 : Int32))) _ r_1 () hc_1) ⟨va_cnB 1 hts gX2_take_X11_powerFrom_n25 rfl rfl rfl hN.2.2.1 (hts (.initialized RX11) (by decide +kernel)) (by decide +kernel) ⟨Nat.le_of_ble_eq_true rfl, Nat.le_of_ble_eq_true rfl⟩, hts (.static yX11_powerFrom) (by decide +kernel), trivial⟩ (zz_ps hK hPc hDc hN) rfl rfl hl.1 rfl (lv_room (Nat.le_of_ble_eq_true rfl)) dX2_take_5 ⟨Nat.zero_le _, Nat.zero_le _⟩) hS (fun q _ h => hFc q h) hFc (fun r u t H1 locs ht hvm hw hB hz1 hk1 hS => ?_)
  obtain ⟨rfl, rfl⟩ := hw
  obtain ⟨hP1, hK1, hD1⟩ := hB
  rw [ht] at hP1
  obtain ⟨hP, hD⟩ := va_join (wr := [(q0, .inr (1, [.ref q1, .int s0])), (q1, .inr (6, [.ref q2, .ref q3, .ref q4, .ref q5, .ref q6, .ref q7, .int s1, .int s2, .int s3, .int s4])), (q2, .inl (cI, n0, .inl s5)), (q3, .inl (cI, n1, .inl s6)), (q4, .inl (cI, n2, .inl s7)), (q5, .inl (cI, n3, .inl s8)), (q6, .inl (cI, n4, .inl s9)), (q7, .inr (9, [.ref q8, .ref q9, .int s10, .int s11])), (q8, .inl (cI, n5, .inl s12)), (q9, .inl (cI, n6, .inl s13))]) (w1 := []) hP hD [] [0, 1, 2, 3, 4, 5, 6, 7, 8, 9] rfl rfl (by decide) (by decide) hk1 hFc hP1 hD1
  have hP : va_P (dC, dI) vwCl [(q0, .inr (1, [.ref q1, .int s0])), (q1, .inr (6, [.ref q2, .ref q3, .ref q4, .ref q5, .ref q6, .ref q7, .int s1, .int s2, .int s3, .int s4])), (q2, .inl (cI, n0, .inl s5)), (q3, .inl (cI, n1, .inl s6)), (q4, .inl (cI, n2, .inl s7)), (q5, .inl (cI, n3, .inl s8)), (q6, .inl (cI, n4, .inl s9)), (q7, .inr (9, [.ref q8, .ref q9, .int s10, .int s11])), (q8, .inl (cI, n5, .inl s12)), (q9, .inl (cI, n6, .inl s13))] _ := hP
  have hD : va_D A [(q0, .inr (1, [.ref q1, .int s0])), (q1, .inr (6, [.ref q2, .ref q3, .ref q4, .ref q5, .ref q6, .ref q7, .int s1, .int s2, .int s3, .int s4])), (q2, .inl (cI, n0, .inl s5)), (q3, .inl (cI, n1, .inl s6)), (q4, .inl (cI, n2, .inl s7)), (q5, .inl (cI, n3, .inl s8)), (q6, .inl (cI, n4, .inl s9)), (q7, .inr (9, [.ref q8, .ref q9, .int s10, .int s11])), (q8, .inl (cI, n5, .inl s12)), (q9, .inl (cI, n6, .inl s13))] := hD
  refine lv_bipush (v := 8) hx hb dX2_take_8 (by decide) ?_
  refine va_mmin hx hb (by rw [hml]; exact hl.1.symm) hown (hts (.methodLink RX2 29 Lib.Math.min.name) (by decide +kernel)) (hts (.static Lib.Math.min.name) (by decide +kernel)) (hts (.initialized "java/lang/Math") (by decide +kernel)) (hts (.code Lib.Math.min.name Lib.Math.min.code 2 (some .int)) (by decide +kernel)) (Nat.le_of_ble_eq_true rfl) (Nat.le_of_ble_eq_true rfl) (Nat.zero_le _) (Nat.zero_le _) dX2_take_10 ?_
  change W _ _ _ _ _ _ _ _ _ _ _ _ _ _ _ (F0 m 13 _ (.int (zz_min r_1 ((8 : Int32))) :: []))
  refine lv_istore_n (lv' := [(3, .int (zz_min r_1 ((8 : Int32)))), (2, .int (p1 / ((4 : Int32)))), (0, .ref q0), (1, .int p1)]) hx hb dX2_take_13 rfl hl (by decide) rfl (fun ls hl => ?_)
  refine lv_iconst (v := 0) hx hb dX2_take_14 (by decide) ?_
  refine lv_istore (lv' := [(4, .int ((0 : Int32))), (3, .int (zz_min r_1 ((8 : Int32)))), (2, .int (p1 / ((4 : Int32)))), (0, .ref q0), (1, .int p1)]) hx hb dX2_take_15 hl (by decide) rfl (fun ls hl => ?_)
  exact w_X2_take_L17 dC dI cI cJ cZ K q0 q1 q2 q3 q4 q5 q6 q7 q8 q9 n0 n1 n2 n3 n4 n5 n6 A rv uv hS0 hr hlocks hA hK hN K p1 (p1 / ((4 : Int32))) (zz_min r_1 ((8 : Int32))) ((0 : Int32)) s0 s1 s2 s3 s4 s5 s6 s7 s8 s9 s10 s11 s12 s13 _ _ _ hm hP hD hS (lv_sub hl [3, 4, 2, 1, 0] rfl)
abbrev rm_X2_takeBack : Room := { frames := 0, cells := 0, slots := 0, locals := 0 }
def m_X2_takeBack (K : Nat) (n0 : Nat) (n1 : Nat) (n2 : Nat) (n3 : Nat) (n4 : Nat) (n5 : Nat) (n6 : Nat) (p1 : Int32) (p2 : Int32) (s0 : Int32) (s1 : Int32) (s2 : Int32) (s3 : Int32) (s4 : Int32) (s5 : Nat → Int32) (s6 : Nat → Int32) (s7 : Nat → Int32) (s8 : Nat → Int32) (s9 : Nat → Int32) (s10 : Int32) (s11 : Int32) (s12 : Nat → Int32) (s13 : Nat → Int32) : Option (Int32 × Int32 × Int32 × Int32 × Int32 × (Nat → Int32) × (Nat → Int32) × (Nat → Int32) × (Nat → Int32) × (Nat → Int32) × Int32 × Int32 × (Nat → Int32) × (Nat → Int32)) :=
  some ((s0, s1, s2, s3, s4, s5, s6, s7, s8, s9, s10, s11, s12, s13))
set_option maxHeartbeats 4000000 in
set_option maxRecDepth 100000 in
theorem c_X2_takeBack (l : Launch) (dC : Nat → ClassId) (dI : Nat → Nat → Nat) (cI cJ cZ : ClassId) (K : Nat) (q0 q1 q2 q3 q4 q5 q6 q7 q8 q9 : Nat) (n0 : Nat) (n1 : Nat) (n2 : Nat) (n3 : Nat) (n4 : Nat) (n5 : Nat) (n6 : Nat) (s0 : Int32) (s1 : Int32) (s2 : Int32) (s3 : Int32) (s4 : Int32) (s5 : Nat → Int32) (s6 : Nat → Int32) (s7 : Nat → Int32) (s8 : Nat → Int32) (s9 : Nat → Int32) (s10 : Int32) (s11 : Int32) (s12 : Nat → Int32) (s13 : Nat → Int32) (p1 : Int32) (p2 : Int32) (sz : Nat) (uv : Int32 × Int32 × Int32 × Int32 × Int32 × (Nat → Int32) × (Nat → Int32) × (Nat → Int32) × (Nat → Int32) × (Nat → Int32) × Int32 × Int32 × (Nat → Int32) × (Nat → Int32)) (hm : m_X2_takeBack K n0 n1 n2 n3 n4 n5 n6 p1 p2 s0 s1 s2 s3 s4 s5 s6 s7 s8 s9 s10 s11 s12 s13 = some uv) : Met l yX2_takeBack wsX2_takeBack rm_X2_takeBack (zz_pre dC dI [(cI, .int), (cJ, .long), (cZ, .boolean)] [(q0, .inr (1, [.ref q1, .int s0])), (q1, .inr (6, [.ref q2, .ref q3, .ref q4, .ref q5, .ref q6, .ref q7, .int s1, .int s2, .int s3, .int s4])), (q2, .inl (cI, n0, .inl s5)), (q3, .inl (cI, n1, .inl s6)), (q4, .inl (cI, n2, .inl s7)), (q5, .inl (cI, n3, .inl s8)), (q6, .inl (cI, n4, .inl s9)), (q7, .inr (9, [.ref q8, .ref q9, .int s10, .int s11])), (q8, .inl (cI, n5, .inl s12)), (q9, .inl (cI, n6, .inl s13))] sz [.ref q0, .int p1, .int p2]) (va_Qv (fun u => uv = u) (fun u t => zz_wo dC dI [(cI, .int), (cJ, .long), (cZ, .boolean)] (va_A [(q0, .inr (1, [.ref q1, .int s0])), (q1, .inr (6, [.ref q2, .ref q3, .ref q4, .ref q5, .ref q6, .ref q7, .int s1, .int s2, .int s3, .int s4])), (q2, .inl (cI, n0, .inl s5)), (q3, .inl (cI, n1, .inl s6)), (q4, .inl (cI, n2, .inl s7)), (q5, .inl (cI, n3, .inl s8)), (q6, .inl (cI, n4, .inl s9)), (q7, .inr (9, [.ref q8, .ref q9, .int s10, .int s11])), (q8, .inl (cI, n5, .inl s12)), (q9, .inl (cI, n6, .inl s13))] sz) (ce_X2 cI cJ cZ q0 q1 q2 q3 q4 q5 q6 q7 q8 q9 n0 n1 n2 n3 n4 n5 n6 u) t) (va_A [(q0, .inr (1, [.ref q1, .int s0])), (q1, .inr (6, [.ref q2, .ref q3, .ref q4, .ref q5, .ref q6, .ref q7, .int s1, .int s2, .int s3, .int s4])), (q2, .inl (cI, n0, .inl s5)), (q3, .inl (cI, n1, .inl s6)), (q4, .inl (cI, n2, .inl s7)), (q5, .inl (cI, n3, .inl s8)), (q6, .inl (cI, n4, .inl s9)), (q7, .inr (9, [.ref q8, .ref q9, .int s10, .int s11])), (q8, .inl (cI, n5, .inl s12)), (q9, .inl (cI, n6, .inl s13))] sz)) 0 0 (va_A [(q0, .inr (1, [.ref q1, .int s0])), (q1, .inr (6, [.ref q2, .ref q3, .ref q4, .ref q5, .ref q6, .ref q7, .int s1, .int s2, .int s3, .int s4])), (q2, .inl (cI, n0, .inl s5)), (q3, .inl (cI, n1, .inl s6)), (q4, .inl (cI, n2, .inl s7)), (q5, .inl (cI, n3, .inl s8)), (q6, .inl (cI, n4, .inl s9)), (q7, .inr (9, [.ref q8, .ref q9, .int s10, .int s11])), (q8, .inl (cI, n5, .inl s12)), (q9, .inl (cI, n6, .inl s13))] sz) := by
  refine Met.ofW (cc := cX2_takeBack) (maxL := 3) (ret := none) (by decide) rfl ?_
  intro p e s m args below meth c s₁ B hml hv
  obtain ⟨rfl, hsz, hP, hK, hD0, hN⟩ := hv
  have hx := B.exec
  have hb := B.bytes
  have hr := B.returns
  have hts := atoms_spec (ws := wsX2_takeBack) B.pre
  have hown : s.vm.findClass RX2 = some m.cls := findClass_of_methodNamed B.named
  have hlocks := B.notSynchronized
  have hS0 : CallFix p m c cX2_takeBack 3 s #[.ref q0, .int p1, .int p2] wsX2_takeBack RX2 := ⟨hx, hb, hml, hown, hts⟩
  subst hsz
  have hD := hD0.self (sz := s.heap.size)
  generalize hAe : va_A [(q0, .inr (1, [.ref q1, .int s0])), (q1, .inr (6, [.ref q2, .ref q3, .ref q4, .ref q5, .ref q6, .ref q7, .int s1, .int s2, .int s3, .int s4])), (q2, .inl (cI, n0, .inl s5)), (q3, .inl (cI, n1, .inl s6)), (q4, .inl (cI, n2, .inl s7)), (q5, .inl (cI, n3, .inl s8)), (q6, .inl (cI, n4, .inl s9)), (q7, .inr (9, [.ref q8, .ref q9, .int s10, .int s11])), (q8, .inl (cI, n5, .inl s12)), (q9, .inl (cI, n6, .inl s13))] s.heap.size = A at hD ⊢
  have hA : ∀ q : Nat, s.heap.size ≤ q → A q := fun q h => by rw [← hAe]; exact Or.inr h
  have hS : va_S A s.heap s.heap [] := va_S.rf
  have hl := lv_entry ([.ref q0, .int p1, .int p2]) (n := 3) (Nat.le_of_ble_eq_true rfl)
  rw [lg_entry_eq]
  generalize (lg_sl ([.ref q0, .int p1, .int p2]) ++ List.replicate (3 - (lg_sl ([.ref q0, .int p1, .int p2])).length) Slot.unset).toArray = ls at hl ⊢
  have hl : lv_has ls 3 [(0, .ref q0), (1, .int p1), (2, .int p2)] := hl
  unfold m_X2_takeBack at hm
  have hm := Option.some.inj hm
  exact W.vret hx hb hr (fun t ht hW => ⟨⟨(s0, s1, s2, s3, s4, s5, s6, s7, s8, s9, s10, s11, s12, s13), rfl, hm.symm, by rw [ht]; exact hP, va_K.moved hW.alike hK, hD⟩, hS.F ht⟩) hS.2.2 dX2_takeBack_0
abbrev ce_X3 (cI cJ cZ : ClassId) (q0 q1 q2 q3 q4 q5 q6 q7 q8 q9 q10 : Nat) (n0 : Nat) (n1 : Nat) (n2 : Nat) (n3 : Nat) (n4 : Nat) (n5 : Nat) (n6 : Nat) (n7 : Nat) (u : Int32 × Int32 × Int32 × Int32 × Int32 × (Nat → Int32) × (Nat → Int32) × (Nat → Int32) × (Nat → Int32) × (Nat → Int32) × Int32 × Int32 × (Nat → Int32) × (Nat → Int32) × (Nat → Int32)) : va_W := [(q0, .inr (2, [.ref q1, .ref q10, .int u.1])), (q1, .inr (6, [.ref q2, .ref q3, .ref q4, .ref q5, .ref q6, .ref q7, .int u.2.1, .int u.2.2.1, .int u.2.2.2.1, .int u.2.2.2.2.1])), (q2, .inl (cI, n0, .inl u.2.2.2.2.2.1)), (q3, .inl (cI, n1, .inl u.2.2.2.2.2.2.1)), (q4, .inl (cI, n2, .inl u.2.2.2.2.2.2.2.1)), (q5, .inl (cI, n3, .inl u.2.2.2.2.2.2.2.2.1)), (q6, .inl (cI, n4, .inl u.2.2.2.2.2.2.2.2.2.1)), (q7, .inr (9, [.ref q8, .ref q9, .int u.2.2.2.2.2.2.2.2.2.2.1, .int u.2.2.2.2.2.2.2.2.2.2.2.1])), (q8, .inl (cI, n5, .inl u.2.2.2.2.2.2.2.2.2.2.2.2.1)), (q9, .inl (cI, n6, .inl u.2.2.2.2.2.2.2.2.2.2.2.2.2.1)), (q10, .inl (cI, n7, .inl u.2.2.2.2.2.2.2.2.2.2.2.2.2.2))]
abbrev rm_X3_begin : Room := { frames := 1, cells := 0, slots := 0, locals := 23 }
theorem in_X3_begin_X3 : ∀ w ∈ wsX30, w ∈ wsX3_begin := by decide +kernel
def m_X3_begin (K : Nat) (n0 : Nat) (n1 : Nat) (n2 : Nat) (n3 : Nat) (n4 : Nat) (n5 : Nat) (n6 : Nat) (n7 : Nat) (s0 : Int32) (s1 : Int32) (s2 : Int32) (s3 : Int32) (s4 : Int32) (s5 : Nat → Int32) (s6 : Nat → Int32) (s7 : Nat → Int32) (s8 : Nat → Int32) (s9 : Nat → Int32) (s10 : Int32) (s11 : Int32) (s12 : Nat → Int32) (s13 : Nat → Int32) (s14 : Nat → Int32) : Option (Int32 × Int32 × Int32 × Int32 × Int32 × (Nat → Int32) × (Nat → Int32) × (Nat → Int32) × (Nat → Int32) × (Nat → Int32) × Int32 × Int32 × (Nat → Int32) × (Nat → Int32) × (Nat → Int32)) :=
  (m_X7_words K n0 n1 n2 n3 n4 n5 n6 s1 s2 s3 s4 s5 s6 s7 s8 s9 s10 s11 s12 s13).bind fun ⟨r_1, t_1_0, t_1_1, t_1_2, t_1_3, t_1_4, t_1_5, t_1_6, t_1_7, t_1_8, t_1_9, t_1_10, t_1_11, t_1_12⟩ => ((m_X11_powerFrom K r_1).bind fun ⟨r_2, _⟩ => ((m_X7_words K n0 n1 n2 n3 n4 n5 n6 t_1_0 t_1_1 t_1_2 t_1_3 t_1_4 t_1_5 t_1_6 t_1_7 t_1_8 t_1_9 t_1_10 t_1_11 t_1_12).bind fun ⟨r_3, t_3_0, t_3_1, t_3_2, t_3_3, t_3_4, t_3_5, t_3_6, t_3_7, t_3_8, t_3_9, t_3_10, t_3_11, t_3_12⟩ => (if r_2 ≤ r_3 then (m_J7_fill_53178 K n7 ((0 : Int32)) s14).bind fun t_5_0 => (if ¬ (((0 : Int32)) < 0 ∨ n7 ≤ ((0 : Int32)).toNatClampNeg) then some ((r_2, t_3_0, t_3_1, t_3_2, t_3_3, t_3_4, t_3_5, t_3_6, t_3_7, t_3_8, t_3_9, t_3_10, t_3_11, t_3_12, upd t_5_0 ((0 : Int32)).toNatClampNeg r_2)) else none)
  else (m_J7_fill_53178 K n7 ((0 : Int32)) s14).bind fun t_7_0 => (if ¬ (((0 : Int32)) < 0 ∨ n7 ≤ ((0 : Int32)).toNatClampNeg) then some ((r_2 / ((2 : Int32)), t_3_0, t_3_1, t_3_2, t_3_3, t_3_4, t_3_5, t_3_6, t_3_7, t_3_8, t_3_9, t_3_10, t_3_11, t_3_12, upd t_7_0 ((0 : Int32)).toNatClampNeg (r_2 / ((2 : Int32))))) else none))))
set_option maxHeartbeats 4000000 in
set_option maxRecDepth 100000 in
theorem c_X3_begin (l : Launch) (dC : Nat → ClassId) (dI : Nat → Nat → Nat) (cI cJ cZ : ClassId) (K : Nat) (q0 q1 q2 q3 q4 q5 q6 q7 q8 q9 q10 : Nat) (n0 : Nat) (n1 : Nat) (n2 : Nat) (n3 : Nat) (n4 : Nat) (n5 : Nat) (n6 : Nat) (n7 : Nat) (s0 : Int32) (s1 : Int32) (s2 : Int32) (s3 : Int32) (s4 : Int32) (s5 : Nat → Int32) (s6 : Nat → Int32) (s7 : Nat → Int32) (s8 : Nat → Int32) (s9 : Nat → Int32) (s10 : Int32) (s11 : Int32) (s12 : Nat → Int32) (s13 : Nat → Int32) (s14 : Nat → Int32) (sz : Nat) (uv : Int32 × Int32 × Int32 × Int32 × Int32 × (Nat → Int32) × (Nat → Int32) × (Nat → Int32) × (Nat → Int32) × (Nat → Int32) × Int32 × Int32 × (Nat → Int32) × (Nat → Int32) × (Nat → Int32)) (hm : m_X3_begin K n0 n1 n2 n3 n4 n5 n6 n7 s0 s1 s2 s3 s4 s5 s6 s7 s8 s9 s10 s11 s12 s13 s14 = some uv) : Met l yX3_begin wsX3_begin rm_X3_begin (zz_pre dC dI [(cI, .int), (cJ, .long), (cZ, .boolean)] [(q0, .inr (2, [.ref q1, .ref q10, .int s0])), (q1, .inr (6, [.ref q2, .ref q3, .ref q4, .ref q5, .ref q6, .ref q7, .int s1, .int s2, .int s3, .int s4])), (q2, .inl (cI, n0, .inl s5)), (q3, .inl (cI, n1, .inl s6)), (q4, .inl (cI, n2, .inl s7)), (q5, .inl (cI, n3, .inl s8)), (q6, .inl (cI, n4, .inl s9)), (q7, .inr (9, [.ref q8, .ref q9, .int s10, .int s11])), (q8, .inl (cI, n5, .inl s12)), (q9, .inl (cI, n6, .inl s13)), (q10, .inl (cI, n7, .inl s14))] sz [.ref q0]) (va_Qv (fun u => uv = u) (fun u t => zz_wo dC dI [(cI, .int), (cJ, .long), (cZ, .boolean)] (va_A [(q0, .inr (2, [.ref q1, .ref q10, .int s0])), (q1, .inr (6, [.ref q2, .ref q3, .ref q4, .ref q5, .ref q6, .ref q7, .int s1, .int s2, .int s3, .int s4])), (q2, .inl (cI, n0, .inl s5)), (q3, .inl (cI, n1, .inl s6)), (q4, .inl (cI, n2, .inl s7)), (q5, .inl (cI, n3, .inl s8)), (q6, .inl (cI, n4, .inl s9)), (q7, .inr (9, [.ref q8, .ref q9, .int s10, .int s11])), (q8, .inl (cI, n5, .inl s12)), (q9, .inl (cI, n6, .inl s13)), (q10, .inl (cI, n7, .inl s14))] sz) (ce_X3 cI cJ cZ q0 q1 q2 q3 q4 q5 q6 q7 q8 q9 q10 n0 n1 n2 n3 n4 n5 n6 n7 u) t) (va_A [(q0, .inr (2, [.ref q1, .ref q10, .int s0])), (q1, .inr (6, [.ref q2, .ref q3, .ref q4, .ref q5, .ref q6, .ref q7, .int s1, .int s2, .int s3, .int s4])), (q2, .inl (cI, n0, .inl s5)), (q3, .inl (cI, n1, .inl s6)), (q4, .inl (cI, n2, .inl s7)), (q5, .inl (cI, n3, .inl s8)), (q6, .inl (cI, n4, .inl s9)), (q7, .inr (9, [.ref q8, .ref q9, .int s10, .int s11])), (q8, .inl (cI, n5, .inl s12)), (q9, .inl (cI, n6, .inl s13)), (q10, .inl (cI, n7, .inl s14))] sz)) 0 0 (va_A [(q0, .inr (2, [.ref q1, .ref q10, .int s0])), (q1, .inr (6, [.ref q2, .ref q3, .ref q4, .ref q5, .ref q6, .ref q7, .int s1, .int s2, .int s3, .int s4])), (q2, .inl (cI, n0, .inl s5)), (q3, .inl (cI, n1, .inl s6)), (q4, .inl (cI, n2, .inl s7)), (q5, .inl (cI, n3, .inl s8)), (q6, .inl (cI, n4, .inl s9)), (q7, .inr (9, [.ref q8, .ref q9, .int s10, .int s11])), (q8, .inl (cI, n5, .inl s12)), (q9, .inl (cI, n6, .inl s13)), (q10, .inl (cI, n7, .inl s14))] sz) := by
  refine Met.ofW (cc := cX3_begin) (maxL := 2) (ret := none) (by decide) rfl ?_
  intro p e s m args below meth c s₁ B hml hv
  obtain ⟨rfl, hsz, hP, hK, hD0, hN⟩ := hv
  have hx := B.exec
  have hb := B.bytes
  have hr := B.returns
  have hts := atoms_spec (ws := wsX3_begin) B.pre
  have hown : s.vm.findClass RX3 = some m.cls := findClass_of_methodNamed B.named
  have hlocks := B.notSynchronized
  have hS0 : CallFix p m c cX3_begin 2 s #[.ref q0] wsX3_begin RX3 := ⟨hx, hb, hml, hown, hts⟩
  subst hsz
  have hD := hD0.self (sz := s.heap.size)
  generalize hAe : va_A [(q0, .inr (2, [.ref q1, .ref q10, .int s0])), (q1, .inr (6, [.ref q2, .ref q3, .ref q4, .ref q5, .ref q6, .ref q7, .int s1, .int s2, .int s3, .int s4])), (q2, .inl (cI, n0, .inl s5)), (q3, .inl (cI, n1, .inl s6)), (q4, .inl (cI, n2, .inl s7)), (q5, .inl (cI, n3, .inl s8)), (q6, .inl (cI, n4, .inl s9)), (q7, .inr (9, [.ref q8, .ref q9, .int s10, .int s11])), (q8, .inl (cI, n5, .inl s12)), (q9, .inl (cI, n6, .inl s13)), (q10, .inl (cI, n7, .inl s14))] s.heap.size = A at hD ⊢
  have hA : ∀ q : Nat, s.heap.size ≤ q → A q := fun q h => by rw [← hAe]; exact Or.inr h
  have hS : va_S A s.heap s.heap [] := va_S.rf
  have hl := lv_entry ([.ref q0]) (n := 2) (Nat.le_of_ble_eq_true rfl)
  rw [lg_entry_eq]
  generalize (lg_sl ([.ref q0]) ++ List.replicate (2 - (lg_sl ([.ref q0])).length) Slot.unset).toArray = ls at hl ⊢
  have hl : lv_has ls 2 [(0, .ref q0)] := hl
  have inX3 := in_X3_begin_X3
  have f9 := hts (.fieldLink RX3 9 "RoomForms$Halves" "pieces" "[I") (by decide +kernel)
  have f15 := hts (.fieldLink RX3 15 "RoomForms$Halves" "whole" "I") (by decide +kernel)
  have f19 := hts (.fieldLink RX3 19 "RoomForms$Halves" "room" "LRoomForms$Room;") (by decide +kernel)
  have sm0 := hts (.sameField "RoomForms$Halves" "RoomForms$Form" "room" "LRoomForms$Room;") (by decide +kernel)
  unfold m_X3_begin at hm
  refine lv_aload_n hx hb dX3_begin_0 rfl (lv_at hl 0 rfl) ?_
  refine va_get (D := (dC, dI)) (ci := 2) (v := .ref q1) (C := RX3) (T := TX3) (N := 3) hx hb hts inX3 hown hK hP 0 rfl rfl 0 (by decide) f19 (u_same sm0) rfl dX3_begin_1 ?_
  obtain ⟨⟨r_1, t_1_0, t_1_1, t_1_2, t_1_3, t_1_4, t_1_5, t_1_6, t_1_7, t_1_8, t_1_9, t_1_10, t_1_11, t_1_12⟩, hc_1, hm⟩ := zz_bind hm
  have hPc := hP.sub (ws' := [(q1, .inr (6, [.ref q2, .ref q3, .ref q4, .ref q5, .ref q6, .ref q7, .int s1, .int s2, .int s3, .int s4])), (q2, .inl (cI, n0, .inl s5)), (q3, .inl (cI, n1, .inl s6)), (q4, .inl (cI, n2, .inl s7)), (q5, .inl (cI, n3, .inl s8)), (q6, .inl (cI, n4, .inl s9)), (q7, .inr (9, [.ref q8, .ref q9, .int s10, .int s11])), (q8, .inl (cI, n5, .inl s12)), (q9, .inl (cI, n6, .inl s13))]) [1, 2, 3, 4, 5, 6, 7, 8, 9] rfl
  have hDc := hD.sub (ws' := [(q1, .inr (6, [.ref q2, .ref q3, .ref q4, .ref q5, .ref q6, .ref q7, .int s1, .int s2, .int s3, .int s4])), (q2, .inl (cI, n0, .inl s5)), (q3, .inl (cI, n1, .inl s6)), (q4, .inl (cI, n2, .inl s7)), (q5, .inl (cI, n3, .inl s8)), (q6, .inl (cI, n4, .inl s9)), (q7, .inr (9, [.ref q8, .ref q9, .int s10, .int s11])), (q8, .inl (cI, n5, .inl s12)), (q9, .inl (cI, n6, .inl s13))]) [1, 2, 3, 4, 5, 6, 7, 8, 9] (by decide) rfl
  have hFc := va_free (wc := [(q1, .inr (6, [.ref q2, .ref q3, .ref q4, .ref q5, .ref q6, .ref q7, .int s1, .int s2, .int s3, .int s4])), (q2, .inl (cI, n0, .inl s5)), (q3, .inl (cI, n1, .inl s6)), (q4, .inl (cI, n2, .inl s7)), (q5, .inl (cI, n3, .inl s8)), (q6, .inl (cI, n4, .inl s9)), (q7, .inr (9, [.ref q8, .ref q9, .int s10, .int s11])), (q8, .inl (cI, n5, .inl s12)), (q9, .inl (cI, n6, .inl s13))]) hD hS hA [1, 2, 3, 4, 5, 6, 7, 8, 9] rfl
  refine va_calli (va_runV (As := []) (rest := []) hS0 (c_X7_words l dC dI cI cJ cZ K q1 q2 q3 q4 q5 q6 q7 q8 q9 n0 n1 n2 n3 n4 n5 n6 s1 s2 s3 s4 s5 s6 s7 s8 s9 s10 s11 s12 s13 _ r_1 (t_1_0, t_1_1, t_1_2, t_1_3, t_1_4, t_1_5, t_1_6, t_1_7, t_1_8, t_1_9, t_1_10, t_1_11, t_1_12) hc_1) (cwV 0 hts gX3_begin_X7_words rfl rfl rfl (by decide +kernel) ⟨Nat.le_of_ble_eq_true rfl, Nat.le_of_ble_eq_true rfl⟩) (zz_pv hK hPc hDc hN (va_recv hK hPc (ci := 6) (q0 := 0) rfl rfl)) rfl rfl hl.1 rfl (lv_room (Nat.le_of_ble_eq_true rfl)) dX3_begin_4 ⟨Nat.zero_le _, Nat.zero_le _⟩) hS (fun q _ h => hFc q h) hFc (fun r u t H1 locs ht hvm hw hB hz1 hk1 hS => ?_)
  obtain ⟨rfl, rfl⟩ := hw
  obtain ⟨hP1, hK1, hD1⟩ := hB
  rw [ht] at hP1
  obtain ⟨hP, hD⟩ := va_join (wr := [(q0, .inr (2, [.ref q1, .ref q10, .int s0])), (q10, .inl (cI, n7, .inl s14))]) (w1 := [(q1, .inr (6, [.ref q2, .ref q3, .ref q4, .ref q5, .ref q6, .ref q7, .int t_1_0, .int t_1_1, .int t_1_2, .int t_1_3])), (q2, .inl (cI, n0, .inl t_1_4)), (q3, .inl (cI, n1, .inl t_1_5)), (q4, .inl (cI, n2, .inl t_1_6)), (q5, .inl (cI, n3, .inl t_1_7)), (q6, .inl (cI, n4, .inl t_1_8)), (q7, .inr (9, [.ref q8, .ref q9, .int t_1_9, .int t_1_10])), (q8, .inl (cI, n5, .inl t_1_11)), (q9, .inl (cI, n6, .inl t_1_12))]) hP hD [1, 2, 3, 4, 5, 6, 7, 8, 9] [0, 10] rfl rfl (by decide) (by decide) hk1 hFc hP1 hD1
  have hP : va_P (dC, dI) vwCl [(q0, .inr (2, [.ref q1, .ref q10, .int s0])), (q10, .inl (cI, n7, .inl s14)), (q1, .inr (6, [.ref q2, .ref q3, .ref q4, .ref q5, .ref q6, .ref q7, .int t_1_0, .int t_1_1, .int t_1_2, .int t_1_3])), (q2, .inl (cI, n0, .inl t_1_4)), (q3, .inl (cI, n1, .inl t_1_5)), (q4, .inl (cI, n2, .inl t_1_6)), (q5, .inl (cI, n3, .inl t_1_7)), (q6, .inl (cI, n4, .inl t_1_8)), (q7, .inr (9, [.ref q8, .ref q9, .int t_1_9, .int t_1_10])), (q8, .inl (cI, n5, .inl t_1_11)), (q9, .inl (cI, n6, .inl t_1_12))] _ := hP
  have hD : va_D A [(q0, .inr (2, [.ref q1, .ref q10, .int s0])), (q10, .inl (cI, n7, .inl s14)), (q1, .inr (6, [.ref q2, .ref q3, .ref q4, .ref q5, .ref q6, .ref q7, .int t_1_0, .int t_1_1, .int t_1_2, .int t_1_3])), (q2, .inl (cI, n0, .inl t_1_4)), (q3, .inl (cI, n1, .inl t_1_5)), (q4, .inl (cI, n2, .inl t_1_6)), (q5, .inl (cI, n3, .inl t_1_7)), (q6, .inl (cI, n4, .inl t_1_8)), (q7, .inr (9, [.ref q8, .ref q9, .int t_1_9, .int t_1_10])), (q8, .inl (cI, n5, .inl t_1_11)), (q9, .inl (cI, n6, .inl t_1_12))] := hD
  obtain ⟨⟨r_2, _⟩, hc_2, hm⟩ := zz_bind hm
  have hPc := hP.sub (ws' := []) [] rfl
  have hDc := hD.sub (ws' := []) [] (by decide) rfl
  have hFc := va_free (wc := []) hD hS hA [] rfl
  refine va_calli (va_runSN (As := [.int r_1]) (rest := []) hS0 (c_X11_powerFrom l dC dI cI cJ cZ K r_1 _ r_2 () hc_2) ⟨va_cnB 1 hts gX3_begin_X11_powerFrom_n29 rfl rfl rfl hN.2.2.2.1 (hts (.initialized RX11) (by decide +kernel)) (by decide +kernel) ⟨Nat.le_of_ble_eq_true rfl, Nat.le_of_ble_eq_true rfl⟩, hts (.static yX11_powerFrom) (by decide +kernel), trivial⟩ (zz_ps hK hPc hDc hN) rfl rfl hl.1 rfl (lv_room (Nat.le_of_ble_eq_true rfl)) dX3_begin_7 ⟨Nat.zero_le _, Nat.zero_le _⟩) hS (fun q _ h => hFc q h) hFc (fun r u t H1 locs ht hvm hw hB hz1 hk1 hS => ?_)
  obtain ⟨rfl, rfl⟩ := hw
  obtain ⟨hP1, hK1, hD1⟩ := hB
  rw [ht] at hP1
  obtain ⟨hP, hD⟩ := va_join (wr := [(q0, .inr (2, [.ref q1, .ref q10, .int s0])), (q10, .inl (cI, n7, .inl s14)), (q1, .inr (6, [.ref q2, .ref q3, .ref q4, .ref q5, .ref q6, .ref q7, .int t_1_0, .int t_1_1, .int t_1_2, .int t_1_3])), (q2, .inl (cI, n0, .inl t_1_4)), (q3, .inl (cI, n1, .inl t_1_5)), (q4, .inl (cI, n2, .inl t_1_6)), (q5, .inl (cI, n3, .inl t_1_7)), (q6, .inl (cI, n4, .inl t_1_8)), (q7, .inr (9, [.ref q8, .ref q9, .int t_1_9, .int t_1_10])), (q8, .inl (cI, n5, .inl t_1_11)), (q9, .inl (cI, n6, .inl t_1_12))]) (w1 := []) hP hD [] [0, 1, 2, 3, 4, 5, 6, 7, 8, 9, 10] rfl rfl (by decide) (by decide) hk1 hFc hP1 hD1
  have hP : va_P (dC, dI) vwCl [(q0, .inr (2, [.ref q1, .ref q10, .int s0])), (q10, .inl (cI, n7, .inl s14)), (q1, .inr (6, [.ref q2, .ref q3, .ref q4, .ref q5, .ref q6, .ref q7, .int t_1_0, .int t_1_1, .int t_1_2, .int t_1_3])), (q2, .inl (cI, n0, .inl t_1_4)), (q3, .inl (cI, n1, .inl t_1_5)), (q4, .inl (cI, n2, .inl t_1_6)), (q5, .inl (cI, n3, .inl t_1_7)), (q6, .inl (cI, n4, .inl t_1_8)), (q7, .inr (9, [.ref q8, .ref q9, .int t_1_9, .int t_1_10])), (q8, .inl (cI, n5, .inl t_1_11)), (q9, .inl (cI, n6, .inl t_1_12))] _ := hP
  have hD : va_D A [(q0, .inr (2, [.ref q1, .ref q10, .int s0])), (q10, .inl (cI, n7, .inl s14)), (q1, .inr (6, [.ref q2, .ref q3, .ref q4, .ref q5, .ref q6, .ref q7, .int t_1_0, .int t_1_1, .int t_1_2, .int t_1_3])), (q2, .inl (cI, n0, .inl t_1_4)), (q3, .inl (cI, n1, .inl t_1_5)), (q4, .inl (cI, n2, .inl t_1_6)), (q5, .inl (cI, n3, .inl t_1_7)), (q6, .inl (cI, n4, .inl t_1_8)), (q7, .inr (9, [.ref q8, .ref q9, .int t_1_9, .int t_1_10])), (q8, .inl (cI, n5, .inl t_1_11)), (q9, .inl (cI, n6, .inl t_1_12))] := hD
  refine lv_istore_n (lv' := [(1, .int r_2), (0, .ref q0)]) hx hb dX3_begin_10 rfl hl (by decide) rfl (fun ls hl => ?_)
  refine lv_aload_n hx hb dX3_begin_11 rfl (lv_at hl 1 rfl) ?_
  refine lv_iload_n hx hb dX3_begin_12 rfl (lv_at hl 0 rfl) ?_
  refine lv_aload_n hx hb dX3_begin_13 rfl (lv_at hl 1 rfl) ?_
  refine va_get (D := (dC, dI)) (ci := 2) (v := .ref q1) (C := RX3) (T := TX3) (N := 3) hx hb hts inX3 hown hK hP 0 rfl rfl 0 (by decide) f19 (u_same sm0) rfl dX3_begin_14 ?_
  obtain ⟨⟨r_3, t_3_0, t_3_1, t_3_2, t_3_3, t_3_4, t_3_5, t_3_6, t_3_7, t_3_8, t_3_9, t_3_10, t_3_11, t_3_12⟩, hc_3, hm⟩ := zz_bind hm
  have hPc := hP.sub (ws' := [(q1, .inr (6, [.ref q2, .ref q3, .ref q4, .ref q5, .ref q6, .ref q7, .int t_1_0, .int t_1_1, .int t_1_2, .int t_1_3])), (q2, .inl (cI, n0, .inl t_1_4)), (q3, .inl (cI, n1, .inl t_1_5)), (q4, .inl (cI, n2, .inl t_1_6)), (q5, .inl (cI, n3, .inl t_1_7)), (q6, .inl (cI, n4, .inl t_1_8)), (q7, .inr (9, [.ref q8, .ref q9, .int t_1_9, .int t_1_10])), (q8, .inl (cI, n5, .inl t_1_11)), (q9, .inl (cI, n6, .inl t_1_12))]) [2, 3, 4, 5, 6, 7, 8, 9, 10] rfl
  have hDc := hD.sub (ws' := [(q1, .inr (6, [.ref q2, .ref q3, .ref q4, .ref q5, .ref q6, .ref q7, .int t_1_0, .int t_1_1, .int t_1_2, .int t_1_3])), (q2, .inl (cI, n0, .inl t_1_4)), (q3, .inl (cI, n1, .inl t_1_5)), (q4, .inl (cI, n2, .inl t_1_6)), (q5, .inl (cI, n3, .inl t_1_7)), (q6, .inl (cI, n4, .inl t_1_8)), (q7, .inr (9, [.ref q8, .ref q9, .int t_1_9, .int t_1_10])), (q8, .inl (cI, n5, .inl t_1_11)), (q9, .inl (cI, n6, .inl t_1_12))]) [2, 3, 4, 5, 6, 7, 8, 9, 10] (by decide) rfl
  have hFc := va_free (wc := [(q1, .inr (6, [.ref q2, .ref q3, .ref q4, .ref q5, .ref q6, .ref q7, .int t_1_0, .int t_1_1, .int t_1_2, .int t_1_3])), (q2, .inl (cI, n0, .inl t_1_4)), (q3, .inl (cI, n1, .inl t_1_5)), (q4, .inl (cI, n2, .inl t_1_6)), (q5, .inl (cI, n3, .inl t_1_7)), (q6, .inl (cI, n4, .inl t_1_8)), (q7, .inr (9, [.ref q8, .ref q9, .int t_1_9, .int t_1_10])), (q8, .inl (cI, n5, .inl t_1_11)), (q9, .inl (cI, n6, .inl t_1_12))]) hD hS hA [2, 3, 4, 5, 6, 7, 8, 9, 10] rfl
  refine va_calli (va_runV (As := []) (rest := [.int r_2, .ref q0]) hS0 (c_X7_words l dC dI cI cJ cZ K q1 q2 q3 q4 q5 q6 q7 q8 q9 n0 n1 n2 n3 n4 n5 n6 t_1_0 t_1_1 t_1_2 t_1_3 t_1_4 t_1_5 t_1_6 t_1_7 t_1_8 t_1_9 t_1_10 t_1_11 t_1_12 _ r_3 (t_3_0, t_3_1, t_3_2, t_3_3, t_3_4, t_3_5, t_3_6, t_3_7, t_3_8, t_3_9, t_3_10, t_3_11, t_3_12) hc_3) (cwV 0 hts gX3_begin_X7_words rfl rfl rfl (by decide +kernel) ⟨Nat.le_of_ble_eq_true rfl, Nat.le_of_ble_eq_true rfl⟩) (zz_pv hK hPc hDc hN (va_recv hK hPc (ci := 6) (q0 := 0) rfl rfl)) rfl rfl hl.1 rfl (lv_room (Nat.le_of_ble_eq_true rfl)) dX3_begin_17 ⟨Nat.zero_le _, Nat.zero_le _⟩) hS (fun q _ h => hFc q h) hFc (fun r u t H1 locs ht hvm hw hB hz1 hk1 hS => ?_)
  obtain ⟨rfl, rfl⟩ := hw
  obtain ⟨hP1, hK1, hD1⟩ := hB
  rw [ht] at hP1
  obtain ⟨hP, hD⟩ := va_join (wr := [(q0, .inr (2, [.ref q1, .ref q10, .int s0])), (q10, .inl (cI, n7, .inl s14))]) (w1 := [(q1, .inr (6, [.ref q2, .ref q3, .ref q4, .ref q5, .ref q6, .ref q7, .int t_3_0, .int t_3_1, .int t_3_2, .int t_3_3])), (q2, .inl (cI, n0, .inl t_3_4)), (q3, .inl (cI, n1, .inl t_3_5)), (q4, .inl (cI, n2, .inl t_3_6)), (q5, .inl (cI, n3, .inl t_3_7)), (q6, .inl (cI, n4, .inl t_3_8)), (q7, .inr (9, [.ref q8, .ref q9, .int t_3_9, .int t_3_10])), (q8, .inl (cI, n5, .inl t_3_11)), (q9, .inl (cI, n6, .inl t_3_12))]) hP hD [2, 3, 4, 5, 6, 7, 8, 9, 10] [0, 1] rfl rfl (by decide) (by decide) hk1 hFc hP1 hD1
  have hP : va_P (dC, dI) vwCl [(q0, .inr (2, [.ref q1, .ref q10, .int s0])), (q10, .inl (cI, n7, .inl s14)), (q1, .inr (6, [.ref q2, .ref q3, .ref q4, .ref q5, .ref q6, .ref q7, .int t_3_0, .int t_3_1, .int t_3_2, .int t_3_3])), (q2, .inl (cI, n0, .inl t_3_4)), (q3, .inl (cI, n1, .inl t_3_5)), (q4, .inl (cI, n2, .inl t_3_6)), (q5, .inl (cI, n3, .inl t_3_7)), (q6, .inl (cI, n4, .inl t_3_8)), (q7, .inr (9, [.ref q8, .ref q9, .int t_3_9, .int t_3_10])), (q8, .inl (cI, n5, .inl t_3_11)), (q9, .inl (cI, n6, .inl t_3_12))] _ := hP
  have hD : va_D A [(q0, .inr (2, [.ref q1, .ref q10, .int s0])), (q10, .inl (cI, n7, .inl s14)), (q1, .inr (6, [.ref q2, .ref q3, .ref q4, .ref q5, .ref q6, .ref q7, .int t_3_0, .int t_3_1, .int t_3_2, .int t_3_3])), (q2, .inl (cI, n0, .inl t_3_4)), (q3, .inl (cI, n1, .inl t_3_5)), (q4, .inl (cI, n2, .inl t_3_6)), (q5, .inl (cI, n3, .inl t_3_7)), (q6, .inl (cI, n4, .inl t_3_8)), (q7, .inr (9, [.ref q8, .ref q9, .int t_3_9, .int t_3_10])), (q8, .inl (cI, n5, .inl t_3_11)), (q9, .inl (cI, n6, .inl t_3_12))] := hD
  refine lv_icmp_le (tgt := 29) hx hb dX3_begin_20 (by decide) (fun c_4 => ?_) (fun c_4 => ?_)
  · replace hm := zz_t c_4 hm
    refine lv_iload_n hx hb dX3_begin_29 rfl (lv_at hl 0 rfl) ?_
    refine va_put (D := (dC, dI)) (ci := 2) (v := .int r_2) (ty := .int) (C := RX3) (T := TX3) (N := 3) hx hb hts inX3 tyX3 tyX3_ok nmX3 hown hK hP hD hS 0 rfl rfl 2 (by decide) f15 (fun _ h9 => h9) rfl (by decide +kernel) rfl rfl (Nat.le_of_ble_eq_true rfl) dX3_begin_30 (fun H locs hP hD hS => ?_)
    have hP : va_P (dC, dI) vwCl [(q0, .inr (2, [.ref q1, .ref q10, .int r_2])), (q10, .inl (cI, n7, .inl s14)), (q1, .inr (6, [.ref q2, .ref q3, .ref q4, .ref q5, .ref q6, .ref q7, .int t_3_0, .int t_3_1, .int t_3_2, .int t_3_3])), (q2, .inl (cI, n0, .inl t_3_4)), (q3, .inl (cI, n1, .inl t_3_5)), (q4, .inl (cI, n2, .inl t_3_6)), (q5, .inl (cI, n3, .inl t_3_7)), (q6, .inl (cI, n4, .inl t_3_8)), (q7, .inr (9, [.ref q8, .ref q9, .int t_3_9, .int t_3_10])), (q8, .inl (cI, n5, .inl t_3_11)), (q9, .inl (cI, n6, .inl t_3_12))] _ := hP
    have hD : va_D A [(q0, .inr (2, [.ref q1, .ref q10, .int r_2])), (q10, .inl (cI, n7, .inl s14)), (q1, .inr (6, [.ref q2, .ref q3, .ref q4, .ref q5, .ref q6, .ref q7, .int t_3_0, .int t_3_1, .int t_3_2, .int t_3_3])), (q2, .inl (cI, n0, .inl t_3_4)), (q3, .inl (cI, n1, .inl t_3_5)), (q4, .inl (cI, n2, .inl t_3_6)), (q5, .inl (cI, n3, .inl t_3_7)), (q6, .inl (cI, n4, .inl t_3_8)), (q7, .inr (9, [.ref q8, .ref q9, .int t_3_9, .int t_3_10])), (q8, .inl (cI, n5, .inl t_3_11)), (q9, .inl (cI, n6, .inl t_3_12))] := hD
    refine lv_aload_n hx hb dX3_begin_33 rfl (lv_at hl 1 rfl) ?_
    refine va_get (D := (dC, dI)) (ci := 2) (v := .ref q10) (C := RX3) (T := TX3) (N := 3) hx hb hts inX3 hown hK hP 0 rfl rfl 1 (by decide) f9 (fun _ h9 => h9) rfl dX3_begin_34 ?_
    refine lv_iconst (v := 0) hx hb dX3_begin_37 (by decide) ?_
    obtain ⟨t_5_0, hc_5, hm⟩ := zz_bind hm
    have hPc := hP.sub (ws' := [(q10, .inl (cI, n7, .inl s14))]) [1] rfl
    have hDc := hD.sub (ws' := [(q10, .inl (cI, n7, .inl s14))]) [1] (by decide) rfl
    have hFc := va_free (wc := [(q10, .inl (cI, n7, .inl s14))]) hD hS hA [1] rfl
    refine va_callv (va_runS (As := [.ref q10, .int ((0 : Int32))]) (rest := []) hS0 (c_J7_fill_53178 l dC dI cI cJ cZ K q10 n7 s14 ((0 : Int32)) _ t_5_0 hc_5) (va_cwS 2 hts gX3_begin_J7_fill_53178 rfl rfl rfl (by decide +kernel) ⟨Nat.le_of_ble_eq_true rfl, Nat.le_of_ble_eq_true rfl⟩) (zz_ps hK hPc hDc hN) rfl rfl hl.1 rfl (lv_room (Nat.le_of_ble_eq_true rfl)) dX3_begin_38 ⟨Nat.zero_le _, Nat.zero_le _⟩) hS (fun q _ h => hFc q h) hFc (fun u t H1 locs ht hvm hw hB hz1 hk1 hS => ?_)
    subst hw
    obtain ⟨hP1, hK1, hD1⟩ := hB
    rw [ht] at hP1
    obtain ⟨hP, hD⟩ := va_join (wr := [(q0, .inr (2, [.ref q1, .ref q10, .int r_2])), (q1, .inr (6, [.ref q2, .ref q3, .ref q4, .ref q5, .ref q6, .ref q7, .int t_3_0, .int t_3_1, .int t_3_2, .int t_3_3])), (q2, .inl (cI, n0, .inl t_3_4)), (q3, .inl (cI, n1, .inl t_3_5)), (q4, .inl (cI, n2, .inl t_3_6)), (q5, .inl (cI, n3, .inl t_3_7)), (q6, .inl (cI, n4, .inl t_3_8)), (q7, .inr (9, [.ref q8, .ref q9, .int t_3_9, .int t_3_10])), (q8, .inl (cI, n5, .inl t_3_11)), (q9, .inl (cI, n6, .inl t_3_12))]) (w1 := [(q10, .inl (cI, n7, .inl t_5_0))]) hP hD [1] [0, 2, 3, 4, 5, 6, 7, 8, 9, 10] rfl rfl (by decide) (by decide) hk1 hFc hP1 hD1
    have hP : va_P (dC, dI) vwCl [(q0, .inr (2, [.ref q1, .ref q10, .int r_2])), (q1, .inr (6, [.ref q2, .ref q3, .ref q4, .ref q5, .ref q6, .ref q7, .int t_3_0, .int t_3_1, .int t_3_2, .int t_3_3])), (q2, .inl (cI, n0, .inl t_3_4)), (q3, .inl (cI, n1, .inl t_3_5)), (q4, .inl (cI, n2, .inl t_3_6)), (q5, .inl (cI, n3, .inl t_3_7)), (q6, .inl (cI, n4, .inl t_3_8)), (q7, .inr (9, [.ref q8, .ref q9, .int t_3_9, .int t_3_10])), (q8, .inl (cI, n5, .inl t_3_11)), (q9, .inl (cI, n6, .inl t_3_12)), (q10, .inl (cI, n7, .inl t_5_0))] _ := hP
    have hD : va_D A [(q0, .inr (2, [.ref q1, .ref q10, .int r_2])), (q1, .inr (6, [.ref q2, .ref q3, .ref q4, .ref q5, .ref q6, .ref q7, .int t_3_0, .int t_3_1, .int t_3_2, .int t_3_3])), (q2, .inl (cI, n0, .inl t_3_4)), (q3, .inl (cI, n1, .inl t_3_5)), (q4, .inl (cI, n2, .inl t_3_6)), (q5, .inl (cI, n3, .inl t_3_7)), (q6, .inl (cI, n4, .inl t_3_8)), (q7, .inr (9, [.ref q8, .ref q9, .int t_3_9, .int t_3_10])), (q8, .inl (cI, n5, .inl t_3_11)), (q9, .inl (cI, n6, .inl t_3_12)), (q10, .inl (cI, n7, .inl t_5_0))] := hD
    refine lv_aload_n hx hb dX3_begin_41 rfl (lv_at hl 1 rfl) ?_
    refine va_get (D := (dC, dI)) (ci := 2) (v := .ref q10) (C := RX3) (T := TX3) (N := 3) hx hb hts inX3 hown hK hP 0 rfl rfl 1 (by decide) f9 (fun _ h9 => h9) rfl dX3_begin_42 ?_
    refine lv_iconst (v := 0) hx hb dX3_begin_45 (by decide) ?_
    refine lv_aload_n hx hb dX3_begin_46 rfl (lv_at hl 1 rfl) ?_
    refine va_get (D := (dC, dI)) (ci := 2) (v := .int r_2) (C := RX3) (T := TX3) (N := 3) hx hb hts inX3 hown hK hP 0 rfl rfl 2 (by decide) f15 (fun _ h9 => h9) rfl dX3_begin_47 ?_
    obtain ⟨hi_6, hm⟩ := zz_chk hm
    refine va_iast hx hb hK hP hD hS 10 0 rfl rfl (i := (0 : Int32)) hi_6 dX3_begin_50 (fun H locs hP hD hS => ?_)
    have hP : va_P (dC, dI) vwCl [(q0, .inr (2, [.ref q1, .ref q10, .int r_2])), (q1, .inr (6, [.ref q2, .ref q3, .ref q4, .ref q5, .ref q6, .ref q7, .int t_3_0, .int t_3_1, .int t_3_2, .int t_3_3])), (q2, .inl (cI, n0, .inl t_3_4)), (q3, .inl (cI, n1, .inl t_3_5)), (q4, .inl (cI, n2, .inl t_3_6)), (q5, .inl (cI, n3, .inl t_3_7)), (q6, .inl (cI, n4, .inl t_3_8)), (q7, .inr (9, [.ref q8, .ref q9, .int t_3_9, .int t_3_10])), (q8, .inl (cI, n5, .inl t_3_11)), (q9, .inl (cI, n6, .inl t_3_12)), (q10, .inl (cI, n7, .inl (upd t_5_0 ((0 : Int32)).toNatClampNeg r_2)))] _ := hP
    have hD : va_D A [(q0, .inr (2, [.ref q1, .ref q10, .int r_2])), (q1, .inr (6, [.ref q2, .ref q3, .ref q4, .ref q5, .ref q6, .ref q7, .int t_3_0, .int t_3_1, .int t_3_2, .int t_3_3])), (q2, .inl (cI, n0, .inl t_3_4)), (q3, .inl (cI, n1, .inl t_3_5)), (q4, .inl (cI, n2, .inl t_3_6)), (q5, .inl (cI, n3, .inl t_3_7)), (q6, .inl (cI, n4, .inl t_3_8)), (q7, .inr (9, [.ref q8, .ref q9, .int t_3_9, .int t_3_10])), (q8, .inl (cI, n5, .inl t_3_11)), (q9, .inl (cI, n6, .inl t_3_12)), (q10, .inl (cI, n7, .inl (upd t_5_0 ((0 : Int32)).toNatClampNeg r_2)))] := hD
    have hm := Option.some.inj hm
    exact W.vret hx hb hr (fun t ht hW => ⟨⟨(r_2, t_3_0, t_3_1, t_3_2, t_3_3, t_3_4, t_3_5, t_3_6, t_3_7, t_3_8, t_3_9, t_3_10, t_3_11, t_3_12, upd t_5_0 ((0 : Int32)).toNatClampNeg r_2), rfl, hm.symm, by rw [ht]; exact hP, va_K.moved hW.alike hK, hD⟩, hS.F ht⟩) hS.2.2 dX3_begin_51
  · replace hm := zz_f c_4 hm
    refine lv_iload_n hx hb dX3_begin_23 rfl (lv_at hl 0 rfl) ?_
    refine lv_iconst (v := 2) hx hb dX3_begin_24 (by decide) ?_
    refine lv_idiv hx hb dX3_begin_25 (by decide) ?_
    refine lv_goto (tgt := 30) hx hb dX3_begin_26 (by decide) ?_
    refine va_put (D := (dC, dI)) (ci := 2) (v := .int (r_2 / ((2 : Int32)))) (ty := .int) (C := RX3) (T := TX3) (N := 3) hx hb hts inX3 tyX3 tyX3_ok nmX3 hown hK hP hD hS 0 rfl rfl 2 (by decide) f15 (fun _ h9 => h9) rfl (by decide +kernel) rfl rfl (Nat.le_of_ble_eq_true rfl) dX3_begin_30 (fun H locs hP hD hS => ?_)
    have hP : va_P (dC, dI) vwCl [(q0, .inr (2, [.ref q1, .ref q10, .int (r_2 / ((2 : Int32)))])), (q10, .inl (cI, n7, .inl s14)), (q1, .inr (6, [.ref q2, .ref q3, .ref q4, .ref q5, .ref q6, .ref q7, .int t_3_0, .int t_3_1, .int t_3_2, .int t_3_3])), (q2, .inl (cI, n0, .inl t_3_4)), (q3, .inl (cI, n1, .inl t_3_5)), (q4, .inl (cI, n2, .inl t_3_6)), (q5, .inl (cI, n3, .inl t_3_7)), (q6, .inl (cI, n4, .inl t_3_8)), (q7, .inr (9, [.ref q8, .ref q9, .int t_3_9, .int t_3_10])), (q8, .inl (cI, n5, .inl t_3_11)), (q9, .inl (cI, n6, .inl t_3_12))] _ := hP
    have hD : va_D A [(q0, .inr (2, [.ref q1, .ref q10, .int (r_2 / ((2 : Int32)))])), (q10, .inl (cI, n7, .inl s14)), (q1, .inr (6, [.ref q2, .ref q3, .ref q4, .ref q5, .ref q6, .ref q7, .int t_3_0, .int t_3_1, .int t_3_2, .int t_3_3])), (q2, .inl (cI, n0, .inl t_3_4)), (q3, .inl (cI, n1, .inl t_3_5)), (q4, .inl (cI, n2, .inl t_3_6)), (q5, .inl (cI, n3, .inl t_3_7)), (q6, .inl (cI, n4, .inl t_3_8)), (q7, .inr (9, [.ref q8, .ref q9, .int t_3_9, .int t_3_10])), (q8, .inl (cI, n5, .inl t_3_11)), (q9, .inl (cI, n6, .inl t_3_12))] := hD
    refine lv_aload_n hx hb dX3_begin_33 rfl (lv_at hl 1 rfl) ?_
    refine va_get (D := (dC, dI)) (ci := 2) (v := .ref q10) (C := RX3) (T := TX3) (N := 3) hx hb hts inX3 hown hK hP 0 rfl rfl 1 (by decide) f9 (fun _ h9 => h9) rfl dX3_begin_34 ?_
    refine lv_iconst (v := 0) hx hb dX3_begin_37 (by decide) ?_
    obtain ⟨t_7_0, hc_7, hm⟩ := zz_bind hm
    have hPc := hP.sub (ws' := [(q10, .inl (cI, n7, .inl s14))]) [1] rfl
    have hDc := hD.sub (ws' := [(q10, .inl (cI, n7, .inl s14))]) [1] (by decide) rfl
    have hFc := va_free (wc := [(q10, .inl (cI, n7, .inl s14))]) hD hS hA [1] rfl
    refine va_callv (va_runS (As := [.ref q10, .int ((0 : Int32))]) (rest := []) hS0 (c_J7_fill_53178 l dC dI cI cJ cZ K q10 n7 s14 ((0 : Int32)) _ t_7_0 hc_7) (va_cwS 2 hts gX3_begin_J7_fill_53178 rfl rfl rfl (by decide +kernel) ⟨Nat.le_of_ble_eq_true rfl, Nat.le_of_ble_eq_true rfl⟩) (zz_ps hK hPc hDc hN) rfl rfl hl.1 rfl (lv_room (Nat.le_of_ble_eq_true rfl)) dX3_begin_38 ⟨Nat.zero_le _, Nat.zero_le _⟩) hS (fun q _ h => hFc q h) hFc (fun u t H1 locs ht hvm hw hB hz1 hk1 hS => ?_)
    subst hw
    obtain ⟨hP1, hK1, hD1⟩ := hB
    rw [ht] at hP1
    obtain ⟨hP, hD⟩ := va_join (wr := [(q0, .inr (2, [.ref q1, .ref q10, .int (r_2 / ((2 : Int32)))])), (q1, .inr (6, [.ref q2, .ref q3, .ref q4, .ref q5, .ref q6, .ref q7, .int t_3_0, .int t_3_1, .int t_3_2, .int t_3_3])), (q2, .inl (cI, n0, .inl t_3_4)), (q3, .inl (cI, n1, .inl t_3_5)), (q4, .inl (cI, n2, .inl t_3_6)), (q5, .inl (cI, n3, .inl t_3_7)), (q6, .inl (cI, n4, .inl t_3_8)), (q7, .inr (9, [.ref q8, .ref q9, .int t_3_9, .int t_3_10])), (q8, .inl (cI, n5, .inl t_3_11)), (q9, .inl (cI, n6, .inl t_3_12))]) (w1 := [(q10, .inl (cI, n7, .inl t_7_0))]) hP hD [1] [0, 2, 3, 4, 5, 6, 7, 8, 9, 10] rfl rfl (by decide) (by decide) hk1 hFc hP1 hD1
    have hP : va_P (dC, dI) vwCl [(q0, .inr (2, [.ref q1, .ref q10, .int (r_2 / ((2 : Int32)))])), (q1, .inr (6, [.ref q2, .ref q3, .ref q4, .ref q5, .ref q6, .ref q7, .int t_3_0, .int t_3_1, .int t_3_2, .int t_3_3])), (q2, .inl (cI, n0, .inl t_3_4)), (q3, .inl (cI, n1, .inl t_3_5)), (q4, .inl (cI, n2, .inl t_3_6)), (q5, .inl (cI, n3, .inl t_3_7)), (q6, .inl (cI, n4, .inl t_3_8)), (q7, .inr (9, [.ref q8, .ref q9, .int t_3_9, .int t_3_10])), (q8, .inl (cI, n5, .inl t_3_11)), (q9, .inl (cI, n6, .inl t_3_12)), (q10, .inl (cI, n7, .inl t_7_0))] _ := hP
    have hD : va_D A [(q0, .inr (2, [.ref q1, .ref q10, .int (r_2 / ((2 : Int32)))])), (q1, .inr (6, [.ref q2, .ref q3, .ref q4, .ref q5, .ref q6, .ref q7, .int t_3_0, .int t_3_1, .int t_3_2, .int t_3_3])), (q2, .inl (cI, n0, .inl t_3_4)), (q3, .inl (cI, n1, .inl t_3_5)), (q4, .inl (cI, n2, .inl t_3_6)), (q5, .inl (cI, n3, .inl t_3_7)), (q6, .inl (cI, n4, .inl t_3_8)), (q7, .inr (9, [.ref q8, .ref q9, .int t_3_9, .int t_3_10])), (q8, .inl (cI, n5, .inl t_3_11)), (q9, .inl (cI, n6, .inl t_3_12)), (q10, .inl (cI, n7, .inl t_7_0))] := hD
    refine lv_aload_n hx hb dX3_begin_41 rfl (lv_at hl 1 rfl) ?_
    refine va_get (D := (dC, dI)) (ci := 2) (v := .ref q10) (C := RX3) (T := TX3) (N := 3) hx hb hts inX3 hown hK hP 0 rfl rfl 1 (by decide) f9 (fun _ h9 => h9) rfl dX3_begin_42 ?_
    refine lv_iconst (v := 0) hx hb dX3_begin_45 (by decide) ?_
    refine lv_aload_n hx hb dX3_begin_46 rfl (lv_at hl 1 rfl) ?_
    refine va_get (D := (dC, dI)) (ci := 2) (v := .int (r_2 / ((2 : Int32)))) (C := RX3) (T := TX3) (N := 3) hx hb hts inX3 hown hK hP 0 rfl rfl 2 (by decide) f15 (fun _ h9 => h9) rfl dX3_begin_47 ?_
    obtain ⟨hi_8, hm⟩ := zz_chk hm
    refine va_iast hx hb hK hP hD hS 10 0 rfl rfl (i := (0 : Int32)) hi_8 dX3_begin_50 (fun H locs hP hD hS => ?_)
    have hP : va_P (dC, dI) vwCl [(q0, .inr (2, [.ref q1, .ref q10, .int (r_2 / ((2 : Int32)))])), (q1, .inr (6, [.ref q2, .ref q3, .ref q4, .ref q5, .ref q6, .ref q7, .int t_3_0, .int t_3_1, .int t_3_2, .int t_3_3])), (q2, .inl (cI, n0, .inl t_3_4)), (q3, .inl (cI, n1, .inl t_3_5)), (q4, .inl (cI, n2, .inl t_3_6)), (q5, .inl (cI, n3, .inl t_3_7)), (q6, .inl (cI, n4, .inl t_3_8)), (q7, .inr (9, [.ref q8, .ref q9, .int t_3_9, .int t_3_10])), (q8, .inl (cI, n5, .inl t_3_11)), (q9, .inl (cI, n6, .inl t_3_12)), (q10, .inl (cI, n7, .inl (upd t_7_0 ((0 : Int32)).toNatClampNeg (r_2 / ((2 : Int32))))))] _ := hP
    have hD : va_D A [(q0, .inr (2, [.ref q1, .ref q10, .int (r_2 / ((2 : Int32)))])), (q1, .inr (6, [.ref q2, .ref q3, .ref q4, .ref q5, .ref q6, .ref q7, .int t_3_0, .int t_3_1, .int t_3_2, .int t_3_3])), (q2, .inl (cI, n0, .inl t_3_4)), (q3, .inl (cI, n1, .inl t_3_5)), (q4, .inl (cI, n2, .inl t_3_6)), (q5, .inl (cI, n3, .inl t_3_7)), (q6, .inl (cI, n4, .inl t_3_8)), (q7, .inr (9, [.ref q8, .ref q9, .int t_3_9, .int t_3_10])), (q8, .inl (cI, n5, .inl t_3_11)), (q9, .inl (cI, n6, .inl t_3_12)), (q10, .inl (cI, n7, .inl (upd t_7_0 ((0 : Int32)).toNatClampNeg (r_2 / ((2 : Int32))))))] := hD
    have hm := Option.some.inj hm
    exact W.vret hx hb hr (fun t ht hW => ⟨⟨(r_2 / ((2 : Int32)), t_3_0, t_3_1, t_3_2, t_3_3, t_3_4, t_3_5, t_3_6, t_3_7, t_3_8, t_3_9, t_3_10, t_3_11, t_3_12, upd t_7_0 ((0 : Int32)).toNatClampNeg (r_2 / ((2 : Int32)))), rfl, hm.symm, by rw [ht]; exact hP, va_K.moved hW.alike hK, hD⟩, hS.F ht⟩) hS.2.2 dX3_begin_51
abbrev rm_X3_spanOf : Room := { frames := 1, cells := 0, slots := 0, locals := 21 }
def m_X3_spanOf (K : Nat) (n0 : Nat) (n1 : Nat) (n2 : Nat) (n3 : Nat) (n4 : Nat) (n5 : Nat) (n6 : Nat) (n7 : Nat) (p1 : Int32) (s0 : Int32) (s1 : Int32) (s2 : Int32) (s3 : Int32) (s4 : Int32) (s5 : Nat → Int32) (s6 : Nat → Int32) (s7 : Nat → Int32) (s8 : Nat → Int32) (s9 : Nat → Int32) (s10 : Int32) (s11 : Int32) (s12 : Nat → Int32) (s13 : Nat → Int32) (s14 : Nat → Int32) : Option (Int32 × Int32 × Int32 × Int32 × Int32 × Int32 × (Nat → Int32) × (Nat → Int32) × (Nat → Int32) × (Nat → Int32) × (Nat → Int32) × Int32 × Int32 × (Nat → Int32) × (Nat → Int32) × (Nat → Int32)) :=
  (m_X11_powerFrom K p1).bind fun ⟨r_1, _⟩ => some (r_1, (s0, s1, s2, s3, s4, s5, s6, s7, s8, s9, s10, s11, s12, s13, s14))
set_option maxHeartbeats 4000000 in
set_option maxRecDepth 100000 in
theorem c_X3_spanOf (l : Launch) (dC : Nat → ClassId) (dI : Nat → Nat → Nat) (cI cJ cZ : ClassId) (K : Nat) (q0 q1 q2 q3 q4 q5 q6 q7 q8 q9 q10 : Nat) (n0 : Nat) (n1 : Nat) (n2 : Nat) (n3 : Nat) (n4 : Nat) (n5 : Nat) (n6 : Nat) (n7 : Nat) (s0 : Int32) (s1 : Int32) (s2 : Int32) (s3 : Int32) (s4 : Int32) (s5 : Nat → Int32) (s6 : Nat → Int32) (s7 : Nat → Int32) (s8 : Nat → Int32) (s9 : Nat → Int32) (s10 : Int32) (s11 : Int32) (s12 : Nat → Int32) (s13 : Nat → Int32) (s14 : Nat → Int32) (p1 : Int32) (sz : Nat) (rv : Int32) (uv : Int32 × Int32 × Int32 × Int32 × Int32 × (Nat → Int32) × (Nat → Int32) × (Nat → Int32) × (Nat → Int32) × (Nat → Int32) × Int32 × Int32 × (Nat → Int32) × (Nat → Int32) × (Nat → Int32)) (hm : m_X3_spanOf K n0 n1 n2 n3 n4 n5 n6 n7 p1 s0 s1 s2 s3 s4 s5 s6 s7 s8 s9 s10 s11 s12 s13 s14 = some (rv, uv)) : Met l yX3_spanOf wsX3_spanOf rm_X3_spanOf (zz_pre dC dI [(cI, .int), (cJ, .long), (cZ, .boolean)] [(q0, .inr (2, [.ref q1, .ref q10, .int s0])), (q1, .inr (6, [.ref q2, .ref q3, .ref q4, .ref q5, .ref q6, .ref q7, .int s1, .int s2, .int s3, .int s4])), (q2, .inl (cI, n0, .inl s5)), (q3, .inl (cI, n1, .inl s6)), (q4, .inl (cI, n2, .inl s7)), (q5, .inl (cI, n3, .inl s8)), (q6, .inl (cI, n4, .inl s9)), (q7, .inr (9, [.ref q8, .ref q9, .int s10, .int s11])), (q8, .inl (cI, n5, .inl s12)), (q9, .inl (cI, n6, .inl s13)), (q10, .inl (cI, n7, .inl s14))] sz [.ref q0, .int p1]) (va_Qi (fun r u => rv = r ∧ uv = u) (fun u t => zz_wo dC dI [(cI, .int), (cJ, .long), (cZ, .boolean)] (va_A [(q0, .inr (2, [.ref q1, .ref q10, .int s0])), (q1, .inr (6, [.ref q2, .ref q3, .ref q4, .ref q5, .ref q6, .ref q7, .int s1, .int s2, .int s3, .int s4])), (q2, .inl (cI, n0, .inl s5)), (q3, .inl (cI, n1, .inl s6)), (q4, .inl (cI, n2, .inl s7)), (q5, .inl (cI, n3, .inl s8)), (q6, .inl (cI, n4, .inl s9)), (q7, .inr (9, [.ref q8, .ref q9, .int s10, .int s11])), (q8, .inl (cI, n5, .inl s12)), (q9, .inl (cI, n6, .inl s13)), (q10, .inl (cI, n7, .inl s14))] sz) (ce_X3 cI cJ cZ q0 q1 q2 q3 q4 q5 q6 q7 q8 q9 q10 n0 n1 n2 n3 n4 n5 n6 n7 u) t) (va_A [(q0, .inr (2, [.ref q1, .ref q10, .int s0])), (q1, .inr (6, [.ref q2, .ref q3, .ref q4, .ref q5, .ref q6, .ref q7, .int s1, .int s2, .int s3, .int s4])), (q2, .inl (cI, n0, .inl s5)), (q3, .inl (cI, n1, .inl s6)), (q4, .inl (cI, n2, .inl s7)), (q5, .inl (cI, n3, .inl s8)), (q6, .inl (cI, n4, .inl s9)), (q7, .inr (9, [.ref q8, .ref q9, .int s10, .int s11])), (q8, .inl (cI, n5, .inl s12)), (q9, .inl (cI, n6, .inl s13)), (q10, .inl (cI, n7, .inl s14))] sz)) 0 0 (va_A [(q0, .inr (2, [.ref q1, .ref q10, .int s0])), (q1, .inr (6, [.ref q2, .ref q3, .ref q4, .ref q5, .ref q6, .ref q7, .int s1, .int s2, .int s3, .int s4])), (q2, .inl (cI, n0, .inl s5)), (q3, .inl (cI, n1, .inl s6)), (q4, .inl (cI, n2, .inl s7)), (q5, .inl (cI, n3, .inl s8)), (q6, .inl (cI, n4, .inl s9)), (q7, .inr (9, [.ref q8, .ref q9, .int s10, .int s11])), (q8, .inl (cI, n5, .inl s12)), (q9, .inl (cI, n6, .inl s13)), (q10, .inl (cI, n7, .inl s14))] sz) := by
  refine Met.ofW (cc := cX3_spanOf) (maxL := 2) (ret := (some .int)) (by decide) rfl ?_
  intro p e s m args below meth c s₁ B hml hv
  obtain ⟨rfl, hsz, hP, hK, hD0, hN⟩ := hv
  have hx := B.exec
  have hb := B.bytes
  have hr := B.returns
  have hts := atoms_spec (ws := wsX3_spanOf) B.pre
  have hown : s.vm.findClass RX3 = some m.cls := findClass_of_methodNamed B.named
  have hlocks := B.notSynchronized
  have hS0 : CallFix p m c cX3_spanOf 2 s #[.ref q0, .int p1] wsX3_spanOf RX3 := ⟨hx, hb, hml, hown, hts⟩
  subst hsz
  have hD := hD0.self (sz := s.heap.size)
  generalize hAe : va_A [(q0, .inr (2, [.ref q1, .ref q10, .int s0])), (q1, .inr (6, [.ref q2, .ref q3, .ref q4, .ref q5, .ref q6, .ref q7, .int s1, .int s2, .int s3, .int s4])), (q2, .inl (cI, n0, .inl s5)), (q3, .inl (cI, n1, .inl s6)), (q4, .inl (cI, n2, .inl s7)), (q5, .inl (cI, n3, .inl s8)), (q6, .inl (cI, n4, .inl s9)), (q7, .inr (9, [.ref q8, .ref q9, .int s10, .int s11])), (q8, .inl (cI, n5, .inl s12)), (q9, .inl (cI, n6, .inl s13)), (q10, .inl (cI, n7, .inl s14))] s.heap.size = A at hD ⊢
  have hA : ∀ q : Nat, s.heap.size ≤ q → A q := fun q h => by rw [← hAe]; exact Or.inr h
  have hS : va_S A s.heap s.heap [] := va_S.rf
  have hl := lv_entry ([.ref q0, .int p1]) (n := 2) (Nat.le_of_ble_eq_true rfl)
  rw [lg_entry_eq]
  generalize (lg_sl ([.ref q0, .int p1]) ++ List.replicate (2 - (lg_sl ([.ref q0, .int p1])).length) Slot.unset).toArray = ls at hl ⊢
  have hl : lv_has ls 2 [(0, .ref q0), (1, .int p1)] := hl
  unfold m_X3_spanOf at hm
  refine lv_iload_n hx hb dX3_spanOf_0 rfl (lv_at hl 1 rfl) ?_
  obtain ⟨⟨r_1, _⟩, hc_1, hm⟩ := zz_bind hm
  have hPc := hP.sub (ws' := []) [] rfl
  have hDc := hD.sub (ws' := []) [] (by decide) rfl
  have hFc := va_free (wc := []) hD hS hA [] rfl
  refine va_calli (va_runSN (As := [.int p1]) (rest := []) hS0 (c_X11_powerFrom l dC dI cI cJ cZ K p1 _ r_1 () hc_1) ⟨va_cnB 1 hts gX3_spanOf_X11_powerFrom_n29 rfl rfl rfl hN.2.2.2.1 (hts (.initialized RX11) (by decide +kernel)) (by decide +kernel) ⟨Nat.le_of_ble_eq_true rfl, Nat.le_of_ble_eq_true rfl⟩, hts (.static yX11_powerFrom) (by decide +kernel), trivial⟩ (zz_ps hK hPc hDc hN) rfl rfl hl.1 rfl (lv_room (Nat.le_of_ble_eq_true rfl)) dX3_spanOf_1 ⟨Nat.zero_le _, Nat.zero_le _⟩) hS (fun q _ h => hFc q h) hFc (fun r u t H1 locs ht hvm hw hB hz1 hk1 hS => ?_)
  obtain ⟨rfl, rfl⟩ := hw
  obtain ⟨hP1, hK1, hD1⟩ := hB
  rw [ht] at hP1
  obtain ⟨hP, hD⟩ := va_join (wr := [(q0, .inr (2, [.ref q1, .ref q10, .int s0])), (q1, .inr (6, [.ref q2, .ref q3, .ref q4, .ref q5, .ref q6, .ref q7, .int s1, .int s2, .int s3, .int s4])), (q2, .inl (cI, n0, .inl s5)), (q3, .inl (cI, n1, .inl s6)), (q4, .inl (cI, n2, .inl s7)), (q5, .inl (cI, n3, .inl s8)), (q6, .inl (cI, n4, .inl s9)), (q7, .inr (9, [.ref q8, .ref q9, .int s10, .int s11])), (q8, .inl (cI, n5, .inl s12)), (q9, .inl (cI, n6, .inl s13)), (q10, .inl (cI, n7, .inl s14))]) (w1 := []) hP hD [] [0, 1, 2, 3, 4, 5, 6, 7, 8, 9, 10] rfl rfl (by decide) (by decide) hk1 hFc hP1 hD1
  have hP : va_P (dC, dI) vwCl [(q0, .inr (2, [.ref q1, .ref q10, .int s0])), (q1, .inr (6, [.ref q2, .ref q3, .ref q4, .ref q5, .ref q6, .ref q7, .int s1, .int s2, .int s3, .int s4])), (q2, .inl (cI, n0, .inl s5)), (q3, .inl (cI, n1, .inl s6)), (q4, .inl (cI, n2, .inl s7)), (q5, .inl (cI, n3, .inl s8)), (q6, .inl (cI, n4, .inl s9)), (q7, .inr (9, [.ref q8, .ref q9, .int s10, .int s11])), (q8, .inl (cI, n5, .inl s12)), (q9, .inl (cI, n6, .inl s13)), (q10, .inl (cI, n7, .inl s14))] _ := hP
  have hD : va_D A [(q0, .inr (2, [.ref q1, .ref q10, .int s0])), (q1, .inr (6, [.ref q2, .ref q3, .ref q4, .ref q5, .ref q6, .ref q7, .int s1, .int s2, .int s3, .int s4])), (q2, .inl (cI, n0, .inl s5)), (q3, .inl (cI, n1, .inl s6)), (q4, .inl (cI, n2, .inl s7)), (q5, .inl (cI, n3, .inl s8)), (q6, .inl (cI, n4, .inl s9)), (q7, .inr (9, [.ref q8, .ref q9, .int s10, .int s11])), (q8, .inl (cI, n5, .inl s12)), (q9, .inl (cI, n6, .inl s13)), (q10, .inl (cI, n7, .inl s14))] := hD
  have hm := Option.some.inj hm
  exact W.iret (v := r_1) hx hb hr (fun t ht hW => ⟨⟨r_1, (s0, s1, s2, s3, s4, s5, s6, s7, s8, s9, s10, s11, s12, s13, s14), rfl, ⟨(congrArg (·.1) hm).symm, (congrArg (·.2) hm).symm⟩, by rw [ht]; exact hP, va_K.moved hW.alike hK, hD⟩, hS.F ht⟩) hS.2.2 dX3_spanOf_4
abbrev rm_X3_freeParts : Room := { frames := 0, cells := 0, slots := 0, locals := 0 }
theorem in_X3_freeParts_X3 : ∀ w ∈ wsX30, w ∈ wsX3_freeParts := by decide +kernel
def m_X3_freeParts_L4 (K : Nat) (n0 : Nat) (n1 : Nat) (n2 : Nat) (n3 : Nat) (n4 : Nat) (n5 : Nat) (n6 : Nat) (n7 : Nat) : Nat → Int32 → Int32 → Int32 → Int32 → Int32 → Int32 → Int32 → (Nat → Int32) → (Nat → Int32) → (Nat → Int32) → (Nat → Int32) → (Nat → Int32) → Int32 → Int32 → (Nat → Int32) → (Nat → Int32) → (Nat → Int32) → Option (Int32 × Int32 × Int32 × Int32 × Int32 × Int32 × (Nat → Int32) × (Nat → Int32) × (Nat → Int32) × (Nat → Int32) × (Nat → Int32) × Int32 × Int32 × (Nat → Int32) × (Nat → Int32) × (Nat → Int32))
  | 0, _, _, _, _, _, _, _, _, _, _, _, _, _, _, _, _, _ => none
  | k + 1, x1, x2, s0, s1, s2, s3, s4, s5, s6, s7, s8, s9, s10, s11, s12, s13, s14 =>
    if s0 ≤ x2 then some (x1, (s0, s1, s2, s3, s4, s5, s6, s7, s8, s9, s10, s11, s12, s13, s14))
    else (if ¬ (x2 < 0 ∨ n7 ≤ x2.toNatClampNeg) then (if (s14 x2.toNatClampNeg) ≤ 0 then m_X3_freeParts_L4 K n0 n1 n2 n3 n4 n5 n6 n7 k x1 (x2 + 1) s0 s1 s2 s3 s4 s5 s6 s7 s8 s9 s10 s11 s12 s13 s14
    else m_X3_freeParts_L4 K n0 n1 n2 n3 n4 n5 n6 n7 k (x1 + 1) (x2 + 1) s0 s1 s2 s3 s4 s5 s6 s7 s8 s9 s10 s11 s12 s13 s14) else none)
theorem m_X3_freeParts_L4_s (K : Nat) (n0 : Nat) (n1 : Nat) (n2 : Nat) (n3 : Nat) (n4 : Nat) (n5 : Nat) (n6 : Nat) (n7 : Nat) (k : Nat) (x1 : Int32) (x2 : Int32) (s0 : Int32) (s1 : Int32) (s2 : Int32) (s3 : Int32) (s4 : Int32) (s5 : Nat → Int32) (s6 : Nat → Int32) (s7 : Nat → Int32) (s8 : Nat → Int32) (s9 : Nat → Int32) (s10 : Int32) (s11 : Int32) (s12 : Nat → Int32) (s13 : Nat → Int32) (s14 : Nat → Int32) : m_X3_freeParts_L4 K n0 n1 n2 n3 n4 n5 n6 n7 (k + 1) x1 x2 s0 s1 s2 s3 s4 s5 s6 s7 s8 s9 s10 s11 s12 s13 s14 =
    (if s0 ≤ x2 then some (x1, (s0, s1, s2, s3, s4, s5, s6, s7, s8, s9, s10, s11, s12, s13, s14))
    else (if ¬ (x2 < 0 ∨ n7 ≤ x2.toNatClampNeg) then (if (s14 x2.toNatClampNeg) ≤ 0 then m_X3_freeParts_L4 K n0 n1 n2 n3 n4 n5 n6 n7 k x1 (x2 + 1) s0 s1 s2 s3 s4 s5 s6 s7 s8 s9 s10 s11 s12 s13 s14
    else m_X3_freeParts_L4 K n0 n1 n2 n3 n4 n5 n6 n7 k (x1 + 1) (x2 + 1) s0 s1 s2 s3 s4 s5 s6 s7 s8 s9 s10 s11 s12 s13 s14) else none)) := rfl
set_option maxHeartbeats 4000000 in
set_option maxRecDepth 100000 in
theorem w_X3_freeParts_L4 {p : Program} {l : Launch} {e : Env} {s : State} {m : MethodId} {args : Array Value} {below : List Frame} {meth : Method} {c : Code} (dC : Nat → ClassId) (dI : Nat → Nat → Nat) (cI cJ cZ : ClassId) (K : Nat) (q0 q1 q2 q3 q4 q5 q6 q7 q8 q9 q10 : Nat) (n0 : Nat) (n1 : Nat) (n2 : Nat) (n3 : Nat) (n4 : Nat) (n5 : Nat) (n6 : Nat) (n7 : Nat) (A : Nat → Prop) (rv : Int32) (uv : Int32 × Int32 × Int32 × Int32 × Int32 × (Nat → Int32) × (Nat → Int32) × (Nat → Int32) × (Nat → Int32) × (Nat → Int32) × Int32 × Int32 × (Nat → Int32) × (Nat → Int32) × (Nat → Int32)) (hS0 : CallFix p m c cX3_freeParts 3 s args wsX3_freeParts RX3) (hr : meth.sig.returnType = (some .int)) (hlocks : meth.locks = false) (hA : ∀ q : Nat, s.heap.size ≤ q → A q) (hK : va_K (dC, dI) vwCl [(cI, .int), (cJ, .long), (cZ, .boolean)] s) (hN : zz_nw s) : ∀ (k : Nat) (x1 : Int32) (x2 : Int32) (s0 : Int32) (s1 : Int32) (s2 : Int32) (s3 : Int32) (s4 : Int32) (s5 : Nat → Int32) (s6 : Nat → Int32) (s7 : Nat → Int32) (s8 : Nat → Int32) (s9 : Nat → Int32) (s10 : Int32) (s11 : Int32) (s12 : Nat → Int32) (s13 : Nat → Int32) (s14 : Nat → Int32) (H : Heap) (locs : List Loc) (ls : Array Slot), m_X3_freeParts_L4 K n0 n1 n2 n3 n4 n5 n6 n7 k x1 x2 s0 s1 s2 s3 s4 s5 s6 s7 s8 s9 s10 s11 s12 s13 s14 = some (rv, uv) → va_P (dC, dI) vwCl [(q0, .inr (2, [.ref q1, .ref q10, .int s0])), (q1, .inr (6, [.ref q2, .ref q3, .ref q4, .ref q5, .ref q6, .ref q7, .int s1, .int s2, .int s3, .int s4])), (q2, .inl (cI, n0, .inl s5)), (q3, .inl (cI, n1, .inl s6)), (q4, .inl (cI, n2, .inl s7)), (q5, .inl (cI, n3, .inl s8)), (q6, .inl (cI, n4, .inl s9)), (q7, .inr (9, [.ref q8, .ref q9, .int s10, .int s11])), (q8, .inl (cI, n5, .inl s12)), (q9, .inl (cI, n6, .inl s13)), (q10, .inl (cI, n7, .inl s14))] H → va_D A [(q0, .inr (2, [.ref q1, .ref q10, .int s0])), (q1, .inr (6, [.ref q2, .ref q3, .ref q4, .ref q5, .ref q6, .ref q7, .int s1, .int s2, .int s3, .int s4])), (q2, .inl (cI, n0, .inl s5)), (q3, .inl (cI, n1, .inl s6)), (q4, .inl (cI, n2, .inl s7)), (q5, .inl (cI, n3, .inl s8)), (q6, .inl (cI, n4, .inl s9)), (q7, .inr (9, [.ref q8, .ref q9, .int s10, .int s11])), (q8, .inl (cI, n5, .inl s12)), (q9, .inl (cI, n6, .inl s13)), (q10, .inl (cI, n7, .inl s14))] → va_S A s.heap H locs → lv_has ls 3 [(0, .ref q0), (1, .int x1), (2, .int x2)] → W p l e rm_X3_freeParts s m args below meth c H locs 0 0 (MQ below (va_Qi (fun r u => rv = r ∧ uv = u) (fun u t => zz_wo dC dI [(cI, .int), (cJ, .long), (cZ, .boolean)] A (ce_X3 cI cJ cZ q0 q1 q2 q3 q4 q5 q6 q7 q8 q9 q10 n0 n1 n2 n3 n4 n5 n6 n7 u) t) A) args s 0 0 A) (F0 m 4 ls []) := by
  obtain ⟨hx, hb, hml, hown, hts⟩ := id hS0
  have inX3 := in_X3_freeParts_X3
  have f9 := hts (.fieldLink RX3 9 "RoomForms$Halves" "pieces" "[I") (by decide +kernel)
  have f15 := hts (.fieldLink RX3 15 "RoomForms$Halves" "whole" "I") (by decide +kernel)
  intro k
  induction k with
  | zero =>
    intro _ _ _ _ _ _ _ _ _ _ _ _ _ _ _ _ _ _ _ _ hm
    have hm9 : (none : Option (Int32 × Int32 × Int32 × Int32 × Int32 × Int32 × (Nat → Int32) × (Nat → Int32) × (Nat → Int32) × (Nat → Int32) × (Nat → Int32) × Int32 × Int32 × (Nat → Int32) × (Nat → Int32) × (Nat → Int32))) = some _ := hm
    cases hm9
  | succ k ih =>
    intro x1 x2 s0 s1 s2 s3 s4 s5 s6 s7 s8 s9 s10 s11 s12 s13 s14 H locs ls hm hP hD hS hl
    rw [m_X3_freeParts_L4_s] at hm
    refine lv_iload_n hx hb dX3_freeParts_4 rfl (lv_at hl 2 rfl) ?_
    refine lv_aload_n hx hb dX3_freeParts_5 rfl (lv_at hl 0 rfl) ?_
    refine va_get (D := (dC, dI)) (ci := 2) (v := .int s0) (C := RX3) (T := TX3) (N := 3) hx hb hts inX3 hown hK hP 0 rfl rfl 2 (by decide) f15 (fun _ h9 => h9) rfl dX3_freeParts_6 ?_
    refine lv_icmp_ge (tgt := 30) hx hb dX3_freeParts_9 (by decide) (fun c_1 => ?_) (fun c_1 => ?_)
    · replace hm := zz_t c_1 hm
      refine lv_iload_n hx hb dX3_freeParts_30 rfl (lv_at hl 1 rfl) ?_
      have hm := Option.some.inj hm
      exact W.iret (v := x1) hx hb hr (fun t ht hW => ⟨⟨x1, (s0, s1, s2, s3, s4, s5, s6, s7, s8, s9, s10, s11, s12, s13, s14), rfl, ⟨(congrArg (·.1) hm).symm, (congrArg (·.2) hm).symm⟩, by rw [ht]; exact hP, va_K.moved hW.alike hK, hD⟩, hS.F ht⟩) hS.2.2 dX3_freeParts_31
    · replace hm := zz_f c_1 hm
      refine lv_aload_n hx hb dX3_freeParts_12 rfl (lv_at hl 0 rfl) ?_
      refine va_get (D := (dC, dI)) (ci := 2) (v := .ref q10) (C := RX3) (T := TX3) (N := 3) hx hb hts inX3 hown hK hP 0 rfl rfl 1 (by decide) f9 (fun _ h9 => h9) rfl dX3_freeParts_13 ?_
      refine lv_iload_n hx hb dX3_freeParts_16 rfl (lv_at hl 2 rfl) ?_
      obtain ⟨hi_2, hm⟩ := zz_chk hm
      refine va_iald hx hb hK hP 10 0 rfl rfl (i := x2) hi_2 dX3_freeParts_17 ?_
      refine lv_if_le (tgt := 24) hx hb dX3_freeParts_18 (by decide) (fun c_3 => ?_) (fun c_3 => ?_)
      · replace hm := zz_t c_3 hm
        refine lv_iinc (v := x2 + 1) (lv' := [(2, .int (x2 + 1)), (0, .ref q0), (1, .int x1)]) hx hb dX3_freeParts_24 hl (k := 2) rfl rfl (by decide) rfl (fun ls hl => ?_)
        refine lv_goto (tgt := 4) hx hb dX3_freeParts_27 (by decide) ?_
        exact ih x1 (x2 + 1) s0 s1 s2 s3 s4 s5 s6 s7 s8 s9 s10 s11 s12 s13 s14 _ _ _ hm hP hD hS (lv_sub hl [1, 2, 0] rfl)
      · replace hm := zz_f c_3 hm
        refine lv_iinc (v := x1 + 1) (lv' := [(1, .int (x1 + 1)), (0, .ref q0), (2, .int x2)]) hx hb dX3_freeParts_21 hl (k := 1) rfl rfl (by decide) rfl (fun ls hl => ?_)
        refine lv_iinc (v := x2 + 1) (lv' := [(2, .int (x2 + 1)), (1, .int (x1 + 1)), (0, .ref q0)]) hx hb dX3_freeParts_24 hl (k := 2) rfl rfl (by decide) rfl (fun ls hl => ?_)
        refine lv_goto (tgt := 4) hx hb dX3_freeParts_27 (by decide) ?_
        exact ih (x1 + 1) (x2 + 1) s0 s1 s2 s3 s4 s5 s6 s7 s8 s9 s10 s11 s12 s13 s14 _ _ _ hm hP hD hS (lv_sub hl [2, 1, 0] rfl)
def m_X3_freeParts (K : Nat) (n0 : Nat) (n1 : Nat) (n2 : Nat) (n3 : Nat) (n4 : Nat) (n5 : Nat) (n6 : Nat) (n7 : Nat) (s0 : Int32) (s1 : Int32) (s2 : Int32) (s3 : Int32) (s4 : Int32) (s5 : Nat → Int32) (s6 : Nat → Int32) (s7 : Nat → Int32) (s8 : Nat → Int32) (s9 : Nat → Int32) (s10 : Int32) (s11 : Int32) (s12 : Nat → Int32) (s13 : Nat → Int32) (s14 : Nat → Int32) : Option (Int32 × Int32 × Int32 × Int32 × Int32 × Int32 × (Nat → Int32) × (Nat → Int32) × (Nat → Int32) × (Nat → Int32) × (Nat → Int32) × Int32 × Int32 × (Nat → Int32) × (Nat → Int32) × (Nat → Int32)) :=
  m_X3_freeParts_L4 K n0 n1 n2 n3 n4 n5 n6 n7 K ((0 : Int32)) ((0 : Int32)) s0 s1 s2 s3 s4 s5 s6 s7 s8 s9 s10 s11 s12 s13 s14
set_option maxHeartbeats 4000000 in
set_option maxRecDepth 100000 in
theorem c_X3_freeParts (l : Launch) (dC : Nat → ClassId) (dI : Nat → Nat → Nat) (cI cJ cZ : ClassId) (K : Nat) (q0 q1 q2 q3 q4 q5 q6 q7 q8 q9 q10 : Nat) (n0 : Nat) (n1 : Nat) (n2 : Nat) (n3 : Nat) (n4 : Nat) (n5 : Nat) (n6 : Nat) (n7 : Nat) (s0 : Int32) (s1 : Int32) (s2 : Int32) (s3 : Int32) (s4 : Int32) (s5 : Nat → Int32) (s6 : Nat → Int32) (s7 : Nat → Int32) (s8 : Nat → Int32) (s9 : Nat → Int32) (s10 : Int32) (s11 : Int32) (s12 : Nat → Int32) (s13 : Nat → Int32) (s14 : Nat → Int32) (sz : Nat) (rv : Int32) (uv : Int32 × Int32 × Int32 × Int32 × Int32 × (Nat → Int32) × (Nat → Int32) × (Nat → Int32) × (Nat → Int32) × (Nat → Int32) × Int32 × Int32 × (Nat → Int32) × (Nat → Int32) × (Nat → Int32)) (hm : m_X3_freeParts K n0 n1 n2 n3 n4 n5 n6 n7 s0 s1 s2 s3 s4 s5 s6 s7 s8 s9 s10 s11 s12 s13 s14 = some (rv, uv)) : Met l yX3_freeParts wsX3_freeParts rm_X3_freeParts (zz_pre dC dI [(cI, .int), (cJ, .long), (cZ, .boolean)] [(q0, .inr (2, [.ref q1, .ref q10, .int s0])), (q1, .inr (6, [.ref q2, .ref q3, .ref q4, .ref q5, .ref q6, .ref q7, .int s1, .int s2, .int s3, .int s4])), (q2, .inl (cI, n0, .inl s5)), (q3, .inl (cI, n1, .inl s6)), (q4, .inl (cI, n2, .inl s7)), (q5, .inl (cI, n3, .inl s8)), (q6, .inl (cI, n4, .inl s9)), (q7, .inr (9, [.ref q8, .ref q9, .int s10, .int s11])), (q8, .inl (cI, n5, .inl s12)), (q9, .inl (cI, n6, .inl s13)), (q10, .inl (cI, n7, .inl s14))] sz [.ref q0]) (va_Qi (fun r u => rv = r ∧ uv = u) (fun u t => zz_wo dC dI [(cI, .int), (cJ, .long), (cZ, .boolean)] (va_A [(q0, .inr (2, [.ref q1, .ref q10, .int s0])), (q1, .inr (6, [.ref q2, .ref q3, .ref q4, .ref q5, .ref q6, .ref q7, .int s1, .int s2, .int s3, .int s4])), (q2, .inl (cI, n0, .inl s5)), (q3, .inl (cI, n1, .inl s6)), (q4, .inl (cI, n2, .inl s7)), (q5, .inl (cI, n3, .inl s8)), (q6, .inl (cI, n4, .inl s9)), (q7, .inr (9, [.ref q8, .ref q9, .int s10, .int s11])), (q8, .inl (cI, n5, .inl s12)), (q9, .inl (cI, n6, .inl s13)), (q10, .inl (cI, n7, .inl s14))] sz) (ce_X3 cI cJ cZ q0 q1 q2 q3 q4 q5 q6 q7 q8 q9 q10 n0 n1 n2 n3 n4 n5 n6 n7 u) t) (va_A [(q0, .inr (2, [.ref q1, .ref q10, .int s0])), (q1, .inr (6, [.ref q2, .ref q3, .ref q4, .ref q5, .ref q6, .ref q7, .int s1, .int s2, .int s3, .int s4])), (q2, .inl (cI, n0, .inl s5)), (q3, .inl (cI, n1, .inl s6)), (q4, .inl (cI, n2, .inl s7)), (q5, .inl (cI, n3, .inl s8)), (q6, .inl (cI, n4, .inl s9)), (q7, .inr (9, [.ref q8, .ref q9, .int s10, .int s11])), (q8, .inl (cI, n5, .inl s12)), (q9, .inl (cI, n6, .inl s13)), (q10, .inl (cI, n7, .inl s14))] sz)) 0 0 (va_A [(q0, .inr (2, [.ref q1, .ref q10, .int s0])), (q1, .inr (6, [.ref q2, .ref q3, .ref q4, .ref q5, .ref q6, .ref q7, .int s1, .int s2, .int s3, .int s4])), (q2, .inl (cI, n0, .inl s5)), (q3, .inl (cI, n1, .inl s6)), (q4, .inl (cI, n2, .inl s7)), (q5, .inl (cI, n3, .inl s8)), (q6, .inl (cI, n4, .inl s9)), (q7, .inr (9, [.ref q8, .ref q9, .int s10, .int s11])), (q8, .inl (cI, n5, .inl s12)), (q9, .inl (cI, n6, .inl s13)), (q10, .inl (cI, n7, .inl s14))] sz) := by
  refine Met.ofW (cc := cX3_freeParts) (maxL := 3) (ret := (some .int)) (by decide) rfl ?_
  intro p e s m args below meth c s₁ B hml hv
  obtain ⟨rfl, hsz, hP, hK, hD0, hN⟩ := hv
  have hx := B.exec
  have hb := B.bytes
  have hr := B.returns
  have hts := atoms_spec (ws := wsX3_freeParts) B.pre
  have hown : s.vm.findClass RX3 = some m.cls := findClass_of_methodNamed B.named
  have hlocks := B.notSynchronized
  have hS0 : CallFix p m c cX3_freeParts 3 s #[.ref q0] wsX3_freeParts RX3 := ⟨hx, hb, hml, hown, hts⟩
  subst hsz
  have hD := hD0.self (sz := s.heap.size)
  generalize hAe : va_A [(q0, .inr (2, [.ref q1, .ref q10, .int s0])), (q1, .inr (6, [.ref q2, .ref q3, .ref q4, .ref q5, .ref q6, .ref q7, .int s1, .int s2, .int s3, .int s4])), (q2, .inl (cI, n0, .inl s5)), (q3, .inl (cI, n1, .inl s6)), (q4, .inl (cI, n2, .inl s7)), (q5, .inl (cI, n3, .inl s8)), (q6, .inl (cI, n4, .inl s9)), (q7, .inr (9, [.ref q8, .ref q9, .int s10, .int s11])), (q8, .inl (cI, n5, .inl s12)), (q9, .inl (cI, n6, .inl s13)), (q10, .inl (cI, n7, .inl s14))] s.heap.size = A at hD ⊢
  have hA : ∀ q : Nat, s.heap.size ≤ q → A q := fun q h => by rw [← hAe]; exact Or.inr h
  have hS : va_S A s.heap s.heap [] := va_S.rf
  have hl := lv_entry ([.ref q0]) (n := 3) (Nat.le_of_ble_eq_true rfl)
  rw [lg_entry_eq]
  generalize (lg_sl ([.ref q0]) ++ List.replicate (3 - (lg_sl ([.ref q0])).length) Slot.unset).toArray = ls at hl ⊢
  have hl : lv_has ls 3 [(0, .ref q0)] := hl
  have inX3 := in_X3_freeParts_X3
  have f9 := hts (.fieldLink RX3 9 "RoomForms$Halves" "pieces" "[I") (by decide +kernel)
  have f15 := hts (.fieldLink RX3 15 "RoomForms$Halves" "whole" "I") (by decide +kernel)
  unfold m_X3_freeParts at hm
  refine lv_iconst (v := 0) hx hb dX3_freeParts_0 (by decide) ?_
  refine lv_istore_n (lv' := [(1, .int ((0 : Int32))), (0, .ref q0)]) hx hb dX3_freeParts_1 rfl hl (by decide) rfl (fun ls hl => ?_)
  refine lv_iconst (v := 0) hx hb dX3_freeParts_2 (by decide) ?_
  refine lv_istore_n (lv' := [(2, .int ((0 : Int32))), (1, .int ((0 : Int32))), (0, .ref q0)]) hx hb dX3_freeParts_3 rfl hl (by decide) rfl (fun ls hl => ?_)
  exact w_X3_freeParts_L4 dC dI cI cJ cZ K q0 q1 q2 q3 q4 q5 q6 q7 q8 q9 q10 n0 n1 n2 n3 n4 n5 n6 n7 A rv uv hS0 hr hlocks hA hK hN K ((0 : Int32)) ((0 : Int32)) s0 s1 s2 s3 s4 s5 s6 s7 s8 s9 s10 s11 s12 s13 s14 _ _ _ hm hP hD hS (lv_sub hl [2, 1, 0] rfl)
abbrev rm_X3_smallestPiece : Room := { frames := 0, cells := 0, slots := 0, locals := 0 }
theorem in_X3_smallestPiece_X3 : ∀ w ∈ wsX30, w ∈ wsX3_smallestPiece := by decide +kernel
def m_X3_smallestPiece_L4 (K : Nat) (n0 : Nat) (n1 : Nat) (n2 : Nat) (n3 : Nat) (n4 : Nat) (n5 : Nat) (n6 : Nat) (n7 : Nat) : Nat → Int32 → Int32 → Int32 → Int32 → Int32 → Int32 → Int32 → Int32 → (Nat → Int32) → (Nat → Int32) → (Nat → Int32) → (Nat → Int32) → (Nat → Int32) → Int32 → Int32 → (Nat → Int32) → (Nat → Int32) → (Nat → Int32) → Option (Int32 × Int32 × Int32 × Int32 × Int32 × Int32 × (Nat → Int32) × (Nat → Int32) × (Nat → Int32) × (Nat → Int32) × (Nat → Int32) × Int32 × Int32 × (Nat → Int32) × (Nat → Int32) × (Nat → Int32))
  | 0, _, _, _, _, _, _, _, _, _, _, _, _, _, _, _, _, _, _ => none
  | k + 1, x1, x2, x3, s0, s1, s2, s3, s4, s5, s6, s7, s8, s9, s10, s11, s12, s13, s14 =>
    if s0 ≤ x3 then some (x2, (s0, s1, s2, s3, s4, s5, s6, s7, s8, s9, s10, s11, s12, s13, s14))
    else (if ¬ (x3 < 0 ∨ n7 ≤ x3.toNatClampNeg) then (if (s14 x3.toNatClampNeg) < x1 then m_X3_smallestPiece_L4 K n0 n1 n2 n3 n4 n5 n6 n7 k x1 x2 (x3 + 1) s0 s1 s2 s3 s4 s5 s6 s7 s8 s9 s10 s11 s12 s13 s14
    else (if x2 = ((-1 : Int32)) then m_X3_smallestPiece_L4 K n0 n1 n2 n3 n4 n5 n6 n7 k x1 x3 (x3 + 1) s0 s1 s2 s3 s4 s5 s6 s7 s8 s9 s10 s11 s12 s13 s14
    else (if ¬ (x3 < 0 ∨ n7 ≤ x3.toNatClampNeg) then (if ¬ (x2 < 0 ∨ n7 ≤ x2.toNatClampNeg) then (if (s14 x2.toNatClampNeg) ≤ (s14 x3.toNatClampNeg) then m_X3_smallestPiece_L4 K n0 n1 n2 n3 n4 n5 n6 n7 k x1 x2 (x3 + 1) s0 s1 s2 s3 s4 s5 s6 s7 s8 s9 s10 s11 s12 s13 s14
    else m_X3_smallestPiece_L4 K n0 n1 n2 n3 n4 n5 n6 n7 k x1 x3 (x3 + 1) s0 s1 s2 s3 s4 s5 s6 s7 s8 s9 s10 s11 s12 s13 s14) else none) else none))) else none)
theorem m_X3_smallestPiece_L4_s (K : Nat) (n0 : Nat) (n1 : Nat) (n2 : Nat) (n3 : Nat) (n4 : Nat) (n5 : Nat) (n6 : Nat) (n7 : Nat) (k : Nat) (x1 : Int32) (x2 : Int32) (x3 : Int32) (s0 : Int32) (s1 : Int32) (s2 : Int32) (s3 : Int32) (s4 : Int32) (s5 : Nat → Int32) (s6 : Nat → Int32) (s7 : Nat → Int32) (s8 : Nat → Int32) (s9 : Nat → Int32) (s10 : Int32) (s11 : Int32) (s12 : Nat → Int32) (s13 : Nat → Int32) (s14 : Nat → Int32) : m_X3_smallestPiece_L4 K n0 n1 n2 n3 n4 n5 n6 n7 (k + 1) x1 x2 x3 s0 s1 s2 s3 s4 s5 s6 s7 s8 s9 s10 s11 s12 s13 s14 =
    (if s0 ≤ x3 then some (x2, (s0, s1, s2, s3, s4, s5, s6, s7, s8, s9, s10, s11, s12, s13, s14))
    else (if ¬ (x3 < 0 ∨ n7 ≤ x3.toNatClampNeg) then (if (s14 x3.toNatClampNeg) < x1 then m_X3_smallestPiece_L4 K n0 n1 n2 n3 n4 n5 n6 n7 k x1 x2 (x3 + 1) s0 s1 s2 s3 s4 s5 s6 s7 s8 s9 s10 s11 s12 s13 s14
    else (if x2 = ((-1 : Int32)) then m_X3_smallestPiece_L4 K n0 n1 n2 n3 n4 n5 n6 n7 k x1 x3 (x3 + 1) s0 s1 s2 s3 s4 s5 s6 s7 s8 s9 s10 s11 s12 s13 s14
    else (if ¬ (x3 < 0 ∨ n7 ≤ x3.toNatClampNeg) then (if ¬ (x2 < 0 ∨ n7 ≤ x2.toNatClampNeg) then (if (s14 x2.toNatClampNeg) ≤ (s14 x3.toNatClampNeg) then m_X3_smallestPiece_L4 K n0 n1 n2 n3 n4 n5 n6 n7 k x1 x2 (x3 + 1) s0 s1 s2 s3 s4 s5 s6 s7 s8 s9 s10 s11 s12 s13 s14
    else m_X3_smallestPiece_L4 K n0 n1 n2 n3 n4 n5 n6 n7 k x1 x3 (x3 + 1) s0 s1 s2 s3 s4 s5 s6 s7 s8 s9 s10 s11 s12 s13 s14) else none) else none))) else none)) := rfl
set_option maxHeartbeats 4000000 in
set_option maxRecDepth 100000 in
theorem w_X3_smallestPiece_L4 {p : Program} {l : Launch} {e : Env} {s : State} {m : MethodId} {args : Array Value} {below : List Frame} {meth : Method} {c : Code} (dC : Nat → ClassId) (dI : Nat → Nat → Nat) (cI cJ cZ : ClassId) (K : Nat) (q0 q1 q2 q3 q4 q5 q6 q7 q8 q9 q10 : Nat) (n0 : Nat) (n1 : Nat) (n2 : Nat) (n3 : Nat) (n4 : Nat) (n5 : Nat) (n6 : Nat) (n7 : Nat) (A : Nat → Prop) (rv : Int32) (uv : Int32 × Int32 × Int32 × Int32 × Int32 × (Nat → Int32) × (Nat → Int32) × (Nat → Int32) × (Nat → Int32) × (Nat → Int32) × Int32 × Int32 × (Nat → Int32) × (Nat → Int32) × (Nat → Int32)) (hS0 : CallFix p m c cX3_smallestPiece 4 s args wsX3_smallestPiece RX3) (hr : meth.sig.returnType = (some .int)) (hlocks : meth.locks = false) (hA : ∀ q : Nat, s.heap.size ≤ q → A q) (hK : va_K (dC, dI) vwCl [(cI, .int), (cJ, .long), (cZ, .boolean)] s) (hN : zz_nw s) : ∀ (k : Nat) (x1 : Int32) (x2 : Int32) (x3 : Int32) (s0 : Int32) (s1 : Int32) (s2 : Int32) (s3 : Int32) (s4 : Int32) (s5 : Nat → Int32) (s6 : Nat → Int32) (s7 : Nat → Int32) (s8 : Nat → Int32) (s9 : Nat → Int32) (s10 : Int32) (s11 : Int32) (s12 : Nat → Int32) (s13 : Nat → Int32) (s14 : Nat → Int32) (H : Heap) (locs : List Loc) (ls : Array Slot), m_X3_smallestPiece_L4 K n0 n1 n2 n3 n4 n5 n6 n7 k x1 x2 x3 s0 s1 s2 s3 s4 s5 s6 s7 s8 s9 s10 s11 s12 s13 s14 = some (rv, uv) → va_P (dC, dI) vwCl [(q0, .inr (2, [.ref q1, .ref q10, .int s0])), (q1, .inr (6, [.ref q2, .ref q3, .ref q4, .ref q5, .ref q6, .ref q7, .int s1, .int s2, .int s3, .int s4])), (q2, .inl (cI, n0, .inl s5)), (q3, .inl (cI, n1, .inl s6)), (q4, .inl (cI, n2, .inl s7)), (q5, .inl (cI, n3, .inl s8)), (q6, .inl (cI, n4, .inl s9)), (q7, .inr (9, [.ref q8, .ref q9, .int s10, .int s11])), (q8, .inl (cI, n5, .inl s12)), (q9, .inl (cI, n6, .inl s13)), (q10, .inl (cI, n7, .inl s14))] H → va_D A [(q0, .inr (2, [.ref q1, .ref q10, .int s0])), (q1, .inr (6, [.ref q2, .ref q3, .ref q4, .ref q5, .ref q6, .ref q7, .int s1, .int s2, .int s3, .int s4])), (q2, .inl (cI, n0, .inl s5)), (q3, .inl (cI, n1, .inl s6)), (q4, .inl (cI, n2, .inl s7)), (q5, .inl (cI, n3, .inl s8)), (q6, .inl (cI, n4, .inl s9)), (q7, .inr (9, [.ref q8, .ref q9, .int s10, .int s11])), (q8, .inl (cI, n5, .inl s12)), (q9, .inl (cI, n6, .inl s13)), (q10, .inl (cI, n7, .inl s14))] → va_S A s.heap H locs → lv_has ls 4 [(0, .ref q0), (1, .int x1), (2, .int x2), (3, .int x3)] → W p l e rm_X3_smallestPiece s m args below meth c H locs 0 0 (MQ below (va_Qi (fun r u => rv = r ∧ uv = u) (fun u t => zz_wo dC dI [(cI, .int), (cJ, .long), (cZ, .boolean)] A (ce_X3 cI cJ cZ q0 q1 q2 q3 q4 q5 q6 q7 q8 q9 q10 n0 n1 n2 n3 n4 n5 n6 n7 u) t) A) args s 0 0 A) (F0 m 4 ls []) := by
  obtain ⟨hx, hb, hml, hown, hts⟩ := id hS0
  have inX3 := in_X3_smallestPiece_X3
  have f9 := hts (.fieldLink RX3 9 "RoomForms$Halves" "pieces" "[I") (by decide +kernel)
  have f15 := hts (.fieldLink RX3 15 "RoomForms$Halves" "whole" "I") (by decide +kernel)
  intro k
  induction k with
  | zero =>
    intro _ _ _ _ _ _ _ _ _ _ _ _ _ _ _ _ _ _ _ _ _ hm
    have hm9 : (none : Option (Int32 × Int32 × Int32 × Int32 × Int32 × Int32 × (Nat → Int32) × (Nat → Int32) × (Nat → Int32) × (Nat → Int32) × (Nat → Int32) × Int32 × Int32 × (Nat → Int32) × (Nat → Int32) × (Nat → Int32))) = some _ := hm
    cases hm9
  | succ k ih =>
    intro x1 x2 x3 s0 s1 s2 s3 s4 s5 s6 s7 s8 s9 s10 s11 s12 s13 s14 H locs ls hm hP hD hS hl
    rw [m_X3_smallestPiece_L4_s] at hm
    refine lv_iload_n hx hb dX3_smallestPiece_4 rfl (lv_at hl 3 rfl) ?_
    refine lv_aload_n hx hb dX3_smallestPiece_5 rfl (lv_at hl 0 rfl) ?_
    refine va_get (D := (dC, dI)) (ci := 2) (v := .int s0) (C := RX3) (T := TX3) (N := 3) hx hb hts inX3 hown hK hP 0 rfl rfl 2 (by decide) f15 (fun _ h9 => h9) rfl dX3_smallestPiece_6 ?_
    refine lv_icmp_ge (tgt := 50) hx hb dX3_smallestPiece_9 (by decide) (fun c_1 => ?_) (fun c_1 => ?_)
    · replace hm := zz_t c_1 hm
      refine lv_iload_n hx hb dX3_smallestPiece_50 rfl (lv_at hl 2 rfl) ?_
      have hm := Option.some.inj hm
      exact W.iret (v := x2) hx hb hr (fun t ht hW => ⟨⟨x2, (s0, s1, s2, s3, s4, s5, s6, s7, s8, s9, s10, s11, s12, s13, s14), rfl, ⟨(congrArg (·.1) hm).symm, (congrArg (·.2) hm).symm⟩, by rw [ht]; exact hP, va_K.moved hW.alike hK, hD⟩, hS.F ht⟩) hS.2.2 dX3_smallestPiece_51
    · replace hm := zz_f c_1 hm
      refine lv_aload_n hx hb dX3_smallestPiece_12 rfl (lv_at hl 0 rfl) ?_
      refine va_get (D := (dC, dI)) (ci := 2) (v := .ref q10) (C := RX3) (T := TX3) (N := 3) hx hb hts inX3 hown hK hP 0 rfl rfl 1 (by decide) f9 (fun _ h9 => h9) rfl dX3_smallestPiece_13 ?_
      refine lv_iload_n hx hb dX3_smallestPiece_16 rfl (lv_at hl 3 rfl) ?_
      obtain ⟨hi_2, hm⟩ := zz_chk hm
      refine va_iald hx hb hK hP 10 0 rfl rfl (i := x3) hi_2 dX3_smallestPiece_17 ?_
      refine lv_iload_n hx hb dX3_smallestPiece_18 rfl (lv_at hl 1 rfl) ?_
      refine lv_icmp_lt (tgt := 44) hx hb dX3_smallestPiece_19 (by decide) (fun c_3 => ?_) (fun c_3 => ?_)
      · replace hm := zz_t c_3 hm
        refine lv_iinc (v := x3 + 1) (lv' := [(3, .int (x3 + 1)), (0, .ref q0), (1, .int x1), (2, .int x2)]) hx hb dX3_smallestPiece_44 hl (k := 3) rfl rfl (by decide) rfl (fun ls hl => ?_)
        refine lv_goto (tgt := 4) hx hb dX3_smallestPiece_47 (by decide) ?_
        exact ih x1 x2 (x3 + 1) s0 s1 s2 s3 s4 s5 s6 s7 s8 s9 s10 s11 s12 s13 s14 _ _ _ hm hP hD hS (lv_sub hl [1, 2, 3, 0] rfl)
      · replace hm := zz_f c_3 hm
        refine lv_iload_n hx hb dX3_smallestPiece_22 rfl (lv_at hl 2 rfl) ?_
        refine lv_iconst (v := (-1)) hx hb dX3_smallestPiece_23 (by decide) ?_
        refine lv_icmp_eq (tgt := 42) hx hb dX3_smallestPiece_24 (by decide) (fun c_4 => ?_) (fun c_4 => ?_)
        · replace hm := zz_t c_4 hm
          refine lv_iload_n hx hb dX3_smallestPiece_42 rfl (lv_at hl 3 rfl) ?_
          refine lv_istore_n (lv' := [(2, .int x3), (0, .ref q0), (1, .int x1), (3, .int x3)]) hx hb dX3_smallestPiece_43 rfl hl (by decide) rfl (fun ls hl => ?_)
          refine lv_iinc (v := x3 + 1) (lv' := [(3, .int (x3 + 1)), (2, .int x3), (0, .ref q0), (1, .int x1)]) hx hb dX3_smallestPiece_44 hl (k := 3) rfl rfl (by decide) rfl (fun ls hl => ?_)
          refine lv_goto (tgt := 4) hx hb dX3_smallestPiece_47 (by decide) ?_
          exact ih x1 x3 (x3 + 1) s0 s1 s2 s3 s4 s5 s6 s7 s8 s9 s10 s11 s12 s13 s14 _ _ _ hm hP hD hS (lv_sub hl [2, 3, 1, 0] rfl)
        · replace hm := zz_f c_4 hm
          refine lv_aload_n hx hb dX3_smallestPiece_27 rfl (lv_at hl 0 rfl) ?_
          refine va_get (D := (dC, dI)) (ci := 2) (v := .ref q10) (C := RX3) (T := TX3) (N := 3) hx hb hts inX3 hown hK hP 0 rfl rfl 1 (by decide) f9 (fun _ h9 => h9) rfl dX3_smallestPiece_28 ?_
          refine lv_iload_n hx hb dX3_smallestPiece_31 rfl (lv_at hl 3 rfl) ?_
          obtain ⟨hi_5, hm⟩ := zz_chk hm
          refine va_iald hx hb hK hP 10 0 rfl rfl (i := x3) hi_5 dX3_smallestPiece_32 ?_
          refine lv_aload_n hx hb dX3_smallestPiece_33 rfl (lv_at hl 0 rfl) ?_
          refine va_get (D := (dC, dI)) (ci := 2) (v := .ref q10) (C := RX3) (T := TX3) (N := 3) hx hb hts inX3 hown hK hP 0 rfl rfl 1 (by decide) f9 (fun _ h9 => h9) rfl dX3_smallestPiece_34 ?_
          refine lv_iload_n hx hb dX3_smallestPiece_37 rfl (lv_at hl 2 rfl) ?_
          obtain ⟨hi_6, hm⟩ := zz_chk hm
          refine va_iald hx hb hK hP 10 0 rfl rfl (i := x2) hi_6 dX3_smallestPiece_38 ?_
          refine lv_icmp_ge (tgt := 44) hx hb dX3_smallestPiece_39 (by decide) (fun c_7 => ?_) (fun c_7 => ?_)
          · replace hm := zz_t c_7 hm
            refine lv_iinc (v := x3 + 1) (lv' := [(3, .int (x3 + 1)), (0, .ref q0), (1, .int x1), (2, .int x2)]) hx hb dX3_smallestPiece_44 hl (k := 3) rfl rfl (by decide) rfl (fun ls hl => ?_)
            refine lv_goto (tgt := 4) hx hb dX3_smallestPiece_47 (by decide) ?_
            exact ih x1 x2 (x3 + 1) s0 s1 s2 s3 s4 s5 s6 s7 s8 s9 s10 s11 s12 s13 s14 _ _ _ hm hP hD hS (lv_sub hl [1, 2, 3, 0] rfl)
          · replace hm := zz_f c_7 hm
            refine lv_iload_n hx hb dX3_smallestPiece_42 rfl (lv_at hl 3 rfl) ?_
            refine lv_istore_n (lv' := [(2, .int x3), (0, .ref q0), (1, .int x1), (3, .int x3)]) hx hb dX3_smallestPiece_43 rfl hl (by decide) rfl (fun ls hl => ?_)
            refine lv_iinc (v := x3 + 1) (lv' := [(3, .int (x3 + 1)), (2, .int x3), (0, .ref q0), (1, .int x1)]) hx hb dX3_smallestPiece_44 hl (k := 3) rfl rfl (by decide) rfl (fun ls hl => ?_)
            refine lv_goto (tgt := 4) hx hb dX3_smallestPiece_47 (by decide) ?_
            exact ih x1 x3 (x3 + 1) s0 s1 s2 s3 s4 s5 s6 s7 s8 s9 s10 s11 s12 s13 s14 _ _ _ hm hP hD hS (lv_sub hl [2, 3, 1, 0] rfl)
def m_X3_smallestPiece (K : Nat) (n0 : Nat) (n1 : Nat) (n2 : Nat) (n3 : Nat) (n4 : Nat) (n5 : Nat) (n6 : Nat) (n7 : Nat) (p1 : Int32) (s0 : Int32) (s1 : Int32) (s2 : Int32) (s3 : Int32) (s4 : Int32) (s5 : Nat → Int32) (s6 : Nat → Int32) (s7 : Nat → Int32) (s8 : Nat → Int32) (s9 : Nat → Int32) (s10 : Int32) (s11 : Int32) (s12 : Nat → Int32) (s13 : Nat → Int32) (s14 : Nat → Int32) : Option (Int32 × Int32 × Int32 × Int32 × Int32 × Int32 × (Nat → Int32) × (Nat → Int32) × (Nat → Int32) × (Nat → Int32) × (Nat → Int32) × Int32 × Int32 × (Nat → Int32) × (Nat → Int32) × (Nat → Int32)) :=
  m_X3_smallestPiece_L4 K n0 n1 n2 n3 n4 n5 n6 n7 K p1 ((-1 : Int32)) ((0 : Int32)) s0 s1 s2 s3 s4 s5 s6 s7 s8 s9 s10 s11 s12 s13 s14
set_option maxHeartbeats 4000000 in
set_option maxRecDepth 100000 in
theorem c_X3_smallestPiece (l : Launch) (dC : Nat → ClassId) (dI : Nat → Nat → Nat) (cI cJ cZ : ClassId) (K : Nat) (q0 q1 q2 q3 q4 q5 q6 q7 q8 q9 q10 : Nat) (n0 : Nat) (n1 : Nat) (n2 : Nat) (n3 : Nat) (n4 : Nat) (n5 : Nat) (n6 : Nat) (n7 : Nat) (s0 : Int32) (s1 : Int32) (s2 : Int32) (s3 : Int32) (s4 : Int32) (s5 : Nat → Int32) (s6 : Nat → Int32) (s7 : Nat → Int32) (s8 : Nat → Int32) (s9 : Nat → Int32) (s10 : Int32) (s11 : Int32) (s12 : Nat → Int32) (s13 : Nat → Int32) (s14 : Nat → Int32) (p1 : Int32) (sz : Nat) (rv : Int32) (uv : Int32 × Int32 × Int32 × Int32 × Int32 × (Nat → Int32) × (Nat → Int32) × (Nat → Int32) × (Nat → Int32) × (Nat → Int32) × Int32 × Int32 × (Nat → Int32) × (Nat → Int32) × (Nat → Int32)) (hm : m_X3_smallestPiece K n0 n1 n2 n3 n4 n5 n6 n7 p1 s0 s1 s2 s3 s4 s5 s6 s7 s8 s9 s10 s11 s12 s13 s14 = some (rv, uv)) : Met l yX3_smallestPiece wsX3_smallestPiece rm_X3_smallestPiece (zz_pre dC dI [(cI, .int), (cJ, .long), (cZ, .boolean)] [(q0, .inr (2, [.ref q1, .ref q10, .int s0])), (q1, .inr (6, [.ref q2, .ref q3, .ref q4, .ref q5, .ref q6, .ref q7, .int s1, .int s2, .int s3, .int s4])), (q2, .inl (cI, n0, .inl s5)), (q3, .inl (cI, n1, .inl s6)), (q4, .inl (cI, n2, .inl s7)), (q5, .inl (cI, n3, .inl s8)), (q6, .inl (cI, n4, .inl s9)), (q7, .inr (9, [.ref q8, .ref q9, .int s10, .int s11])), (q8, .inl (cI, n5, .inl s12)), (q9, .inl (cI, n6, .inl s13)), (q10, .inl (cI, n7, .inl s14))] sz [.ref q0, .int p1]) (va_Qi (fun r u => rv = r ∧ uv = u) (fun u t => zz_wo dC dI [(cI, .int), (cJ, .long), (cZ, .boolean)] (va_A [(q0, .inr (2, [.ref q1, .ref q10, .int s0])), (q1, .inr (6, [.ref q2, .ref q3, .ref q4, .ref q5, .ref q6, .ref q7, .int s1, .int s2, .int s3, .int s4])), (q2, .inl (cI, n0, .inl s5)), (q3, .inl (cI, n1, .inl s6)), (q4, .inl (cI, n2, .inl s7)), (q5, .inl (cI, n3, .inl s8)), (q6, .inl (cI, n4, .inl s9)), (q7, .inr (9, [.ref q8, .ref q9, .int s10, .int s11])), (q8, .inl (cI, n5, .inl s12)), (q9, .inl (cI, n6, .inl s13)), (q10, .inl (cI, n7, .inl s14))] sz) (ce_X3 cI cJ cZ q0 q1 q2 q3 q4 q5 q6 q7 q8 q9 q10 n0 n1 n2 n3 n4 n5 n6 n7 u) t) (va_A [(q0, .inr (2, [.ref q1, .ref q10, .int s0])), (q1, .inr (6, [.ref q2, .ref q3, .ref q4, .ref q5, .ref q6, .ref q7, .int s1, .int s2, .int s3, .int s4])), (q2, .inl (cI, n0, .inl s5)), (q3, .inl (cI, n1, .inl s6)), (q4, .inl (cI, n2, .inl s7)), (q5, .inl (cI, n3, .inl s8)), (q6, .inl (cI, n4, .inl s9)), (q7, .inr (9, [.ref q8, .ref q9, .int s10, .int s11])), (q8, .inl (cI, n5, .inl s12)), (q9, .inl (cI, n6, .inl s13)), (q10, .inl (cI, n7, .inl s14))] sz)) 0 0 (va_A [(q0, .inr (2, [.ref q1, .ref q10, .int s0])), (q1, .inr (6, [.ref q2, .ref q3, .ref q4, .ref q5, .ref q6, .ref q7, .int s1, .int s2, .int s3, .int s4])), (q2, .inl (cI, n0, .inl s5)), (q3, .inl (cI, n1, .inl s6)), (q4, .inl (cI, n2, .inl s7)), (q5, .inl (cI, n3, .inl s8)), (q6, .inl (cI, n4, .inl s9)), (q7, .inr (9, [.ref q8, .ref q9, .int s10, .int s11])), (q8, .inl (cI, n5, .inl s12)), (q9, .inl (cI, n6, .inl s13)), (q10, .inl (cI, n7, .inl s14))] sz) := by
  refine Met.ofW (cc := cX3_smallestPiece) (maxL := 4) (ret := (some .int)) (by decide) rfl ?_
  intro p e s m args below meth c s₁ B hml hv
  obtain ⟨rfl, hsz, hP, hK, hD0, hN⟩ := hv
  have hx := B.exec
  have hb := B.bytes
  have hr := B.returns
  have hts := atoms_spec (ws := wsX3_smallestPiece) B.pre
  have hown : s.vm.findClass RX3 = some m.cls := findClass_of_methodNamed B.named
  have hlocks := B.notSynchronized
  have hS0 : CallFix p m c cX3_smallestPiece 4 s #[.ref q0, .int p1] wsX3_smallestPiece RX3 := ⟨hx, hb, hml, hown, hts⟩
  subst hsz
  have hD := hD0.self (sz := s.heap.size)
  generalize hAe : va_A [(q0, .inr (2, [.ref q1, .ref q10, .int s0])), (q1, .inr (6, [.ref q2, .ref q3, .ref q4, .ref q5, .ref q6, .ref q7, .int s1, .int s2, .int s3, .int s4])), (q2, .inl (cI, n0, .inl s5)), (q3, .inl (cI, n1, .inl s6)), (q4, .inl (cI, n2, .inl s7)), (q5, .inl (cI, n3, .inl s8)), (q6, .inl (cI, n4, .inl s9)), (q7, .inr (9, [.ref q8, .ref q9, .int s10, .int s11])), (q8, .inl (cI, n5, .inl s12)), (q9, .inl (cI, n6, .inl s13)), (q10, .inl (cI, n7, .inl s14))] s.heap.size = A at hD ⊢
  have hA : ∀ q : Nat, s.heap.size ≤ q → A q := fun q h => by rw [← hAe]; exact Or.inr h
  have hS : va_S A s.heap s.heap [] := va_S.rf
  have hl := lv_entry ([.ref q0, .int p1]) (n := 4) (Nat.le_of_ble_eq_true rfl)
  rw [lg_entry_eq]
  generalize (lg_sl ([.ref q0, .int p1]) ++ List.replicate (4 - (lg_sl ([.ref q0, .int p1])).length) Slot.unset).toArray = ls at hl ⊢
  have hl : lv_has ls 4 [(0, .ref q0), (1, .int p1)] := hl
  have inX3 := in_X3_smallestPiece_X3
  have f9 := hts (.fieldLink RX3 9 "RoomForms$Halves" "pieces" "[I") (by decide +kernel)
  have f15 := hts (.fieldLink RX3 15 "RoomForms$Halves" "whole" "I") (by decide +kernel)
  unfold m_X3_smallestPiece at hm
  refine lv_iconst (v := (-1)) hx hb dX3_smallestPiece_0 (by decide) ?_
  refine lv_istore_n (lv' := [(2, .int ((-1 : Int32))), (0, .ref q0), (1, .int p1)]) hx hb dX3_smallestPiece_1 rfl hl (by decide) rfl (fun ls hl => ?_)
  refine lv_iconst (v := 0) hx hb dX3_smallestPiece_2 (by decide) ?_
  refine lv_istore_n (lv' := [(3, .int ((0 : Int32))), (2, .int ((-1 : Int32))), (0, .ref q0), (1, .int p1)]) hx hb dX3_smallestPiece_3 rfl hl (by decide) rfl (fun ls hl => ?_)
  exact w_X3_smallestPiece_L4 dC dI cI cJ cZ K q0 q1 q2 q3 q4 q5 q6 q7 q8 q9 q10 n0 n1 n2 n3 n4 n5 n6 n7 A rv uv hS0 hr hlocks hA hK hN K p1 ((-1 : Int32)) ((0 : Int32)) s0 s1 s2 s3 s4 s5 s6 s7 s8 s9 s10 s11 s12 s13 s14 _ _ _ hm hP hD hS (lv_sub hl [2, 3, 1, 0] rfl)
abbrev rm_X3_take : Room := { frames := 1, cells := 0, slots := 0, locals := 23 }
theorem in_X3_take_X3 : ∀ w ∈ wsX30, w ∈ wsX3_take := by decide +kernel
def m_X3_take_L33 (K : Nat) (n0 : Nat) (n1 : Nat) (n2 : Nat) (n3 : Nat) (n4 : Nat) (n5 : Nat) (n6 : Nat) (n7 : Nat) : Nat → Int32 → Int32 → Int32 → Int32 → Int32 → Int32 → Int32 → Int32 → (Nat → Int32) → (Nat → Int32) → (Nat → Int32) → (Nat → Int32) → (Nat → Int32) → Int32 → Int32 → (Nat → Int32) → (Nat → Int32) → (Nat → Int32) → Option (Int32 × Int32 × Int32 × Int32 × Int32 × Int32 × (Nat → Int32) × (Nat → Int32) × (Nat → Int32) × (Nat → Int32) × (Nat → Int32) × Int32 × Int32 × (Nat → Int32) × (Nat → Int32) × (Nat → Int32))
  | 0, _, _, _, _, _, _, _, _, _, _, _, _, _, _, _, _, _, _ => none
  | k + 1, x1, x2, x3, s0, s1, s2, s3, s4, s5, s6, s7, s8, s9, s10, s11, s12, s13, s14 =>
    if x3 < x1 then (if ¬ (x2 < 0 ∨ n7 ≤ x2.toNatClampNeg) then some (x2, (s0, s1, s2, s3, s4, s5, s6, s7, s8, s9, s10, s11, s12, s13, upd s14 x2.toNatClampNeg ((0 : Int32)))) else none)
    else (if x3 ≤ 0 then (if ¬ (x2 < 0 ∨ n7 ≤ x2.toNatClampNeg) then some (x2, (s0, s1, s2, s3, s4, s5, s6, s7, s8, s9, s10, s11, s12, s13, upd s14 x2.toNatClampNeg ((0 : Int32)))) else none)
    else (if s0 ≤ (x2 + x3) then (if ¬ (x2 < 0 ∨ n7 ≤ x2.toNatClampNeg) then some (x2, (s0, s1, s2, s3, s4, s5, s6, s7, s8, s9, s10, s11, s12, s13, upd s14 x2.toNatClampNeg ((0 : Int32)))) else none)
    else (if ¬ ((x2 + x3) < 0 ∨ n7 ≤ (x2 + x3).toNatClampNeg) then m_X3_take_L33 K n0 n1 n2 n3 n4 n5 n6 n7 k x1 x2 (x3 / ((2 : Int32))) s0 s1 s2 s3 s4 s5 s6 s7 s8 s9 s10 s11 s12 s13 (upd s14 (x2 + x3).toNatClampNeg x3) else none)))
theorem m_X3_take_L33_s (K : Nat) (n0 : Nat) (n1 : Nat) (n2 : Nat) (n3 : Nat) (n4 : Nat) (n5 : Nat) (n6 : Nat) (n7 : Nat) (k : Nat) (x1 : Int32) (x2 : Int32) (x3 : Int32) (s0 : Int32) (s1 : Int32) (s2 : Int32) (s3 : Int32) (s4 : Int32) (s5 : Nat → Int32) (s6 : Nat → Int32) (s7 : Nat → Int32) (s8 : Nat → Int32) (s9 : Nat → Int32) (s10 : Int32) (s11 : Int32) (s12 : Nat → Int32) (s13 : Nat → Int32) (s14 : Nat → Int32) : m_X3_take_L33 K n0 n1 n2 n3 n4 n5 n6 n7 (k + 1) x1 x2 x3 s0 s1 s2 s3 s4 s5 s6 s7 s8 s9 s10 s11 s12 s13 s14 =
    (if x3 < x1 then (if ¬ (x2 < 0 ∨ n7 ≤ x2.toNatClampNeg) then some (x2, (s0, s1, s2, s3, s4, s5, s6, s7, s8, s9, s10, s11, s12, s13, upd s14 x2.toNatClampNeg ((0 : Int32)))) else none)
    else (if x3 ≤ 0 then (if ¬ (x2 < 0 ∨ n7 ≤ x2.toNatClampNeg) then some (x2, (s0, s1, s2, s3, s4, s5, s6, s7, s8, s9, s10, s11, s12, s13, upd s14 x2.toNatClampNeg ((0 : Int32)))) else none)
    else (if s0 ≤ (x2 + x3) then (if ¬ (x2 < 0 ∨ n7 ≤ x2.toNatClampNeg) then some (x2, (s0, s1, s2, s3, s4, s5, s6, s7, s8, s9, s10, s11, s12, s13, upd s14 x2.toNatClampNeg ((0 : Int32)))) else none)
    else (if ¬ ((x2 + x3) < 0 ∨ n7 ≤ (x2 + x3).toNatClampNeg) then m_X3_take_L33 K n0 n1 n2 n3 n4 n5 n6 n7 k x1 x2 (x3 / ((2 : Int32))) s0 s1 s2 s3 s4 s5 s6 s7 s8 s9 s10 s11 s12 s13 (upd s14 (x2 + x3).toNatClampNeg x3) else none)))) := rfl
set_option maxHeartbeats 4000000 in
set_option maxRecDepth 100000 in
theorem w_X3_take_L33 {p : Program} {l : Launch} {e : Env} {s : State} {m : MethodId} {args : Array Value} {below : List Frame} {meth : Method} {c : Code} (dC : Nat → ClassId) (dI : Nat → Nat → Nat) (cI cJ cZ : ClassId) (K : Nat) (q0 q1 q2 q3 q4 q5 q6 q7 q8 q9 q10 : Nat) (n0 : Nat) (n1 : Nat) (n2 : Nat) (n3 : Nat) (n4 : Nat) (n5 : Nat) (n6 : Nat) (n7 : Nat) (A : Nat → Prop) (rv : Int32) (uv : Int32 × Int32 × Int32 × Int32 × Int32 × (Nat → Int32) × (Nat → Int32) × (Nat → Int32) × (Nat → Int32) × (Nat → Int32) × Int32 × Int32 × (Nat → Int32) × (Nat → Int32) × (Nat → Int32)) (hS0 : CallFix p m c cX3_take 4 s args wsX3_take RX3) (hr : meth.sig.returnType = (some .int)) (hlocks : meth.locks = false) (hA : ∀ q : Nat, s.heap.size ≤ q → A q) (hK : va_K (dC, dI) vwCl [(cI, .int), (cJ, .long), (cZ, .boolean)] s) (hN : zz_nw s) : ∀ (k : Nat) (x1 : Int32) (x2 : Int32) (x3 : Int32) (s0 : Int32) (s1 : Int32) (s2 : Int32) (s3 : Int32) (s4 : Int32) (s5 : Nat → Int32) (s6 : Nat → Int32) (s7 : Nat → Int32) (s8 : Nat → Int32) (s9 : Nat → Int32) (s10 : Int32) (s11 : Int32) (s12 : Nat → Int32) (s13 : Nat → Int32) (s14 : Nat → Int32) (H : Heap) (locs : List Loc) (ls : Array Slot), m_X3_take_L33 K n0 n1 n2 n3 n4 n5 n6 n7 k x1 x2 x3 s0 s1 s2 s3 s4 s5 s6 s7 s8 s9 s10 s11 s12 s13 s14 = some (rv, uv) → va_P (dC, dI) vwCl [(q0, .inr (2, [.ref q1, .ref q10, .int s0])), (q1, .inr (6, [.ref q2, .ref q3, .ref q4, .ref q5, .ref q6, .ref q7, .int s1, .int s2, .int s3, .int s4])), (q2, .inl (cI, n0, .inl s5)), (q3, .inl (cI, n1, .inl s6)), (q4, .inl (cI, n2, .inl s7)), (q5, .inl (cI, n3, .inl s8)), (q6, .inl (cI, n4, .inl s9)), (q7, .inr (9, [.ref q8, .ref q9, .int s10, .int s11])), (q8, .inl (cI, n5, .inl s12)), (q9, .inl (cI, n6, .inl s13)), (q10, .inl (cI, n7, .inl s14))] H → va_D A [(q0, .inr (2, [.ref q1, .ref q10, .int s0])), (q1, .inr (6, [.ref q2, .ref q3, .ref q4, .ref q5, .ref q6, .ref q7, .int s1, .int s2, .int s3, .int s4])), (q2, .inl (cI, n0, .inl s5)), (q3, .inl (cI, n1, .inl s6)), (q4, .inl (cI, n2, .inl s7)), (q5, .inl (cI, n3, .inl s8)), (q6, .inl (cI, n4, .inl s9)), (q7, .inr (9, [.ref q8, .ref q9, .int s10, .int s11])), (q8, .inl (cI, n5, .inl s12)), (q9, .inl (cI, n6, .inl s13)), (q10, .inl (cI, n7, .inl s14))] → va_S A s.heap H locs → lv_has ls 4 [(0, .ref q0), (1, .int x1), (2, .int x2), (3, .int x3)] → W p l e rm_X3_take s m args below meth c H locs 0 0 (MQ below (va_Qi (fun r u => rv = r ∧ uv = u) (fun u t => zz_wo dC dI [(cI, .int), (cJ, .long), (cZ, .boolean)] A (ce_X3 cI cJ cZ q0 q1 q2 q3 q4 q5 q6 q7 q8 q9 q10 n0 n1 n2 n3 n4 n5 n6 n7 u) t) A) args s 0 0 A) (F0 m 33 ls []) := by
  obtain ⟨hx, hb, hml, hown, hts⟩ := id hS0
  have inX3 := in_X3_take_X3
  have f9 := hts (.fieldLink RX3 9 "RoomForms$Halves" "pieces" "[I") (by decide +kernel)
  have f15 := hts (.fieldLink RX3 15 "RoomForms$Halves" "whole" "I") (by decide +kernel)
  have f19 := hts (.fieldLink RX3 19 "RoomForms$Halves" "room" "LRoomForms$Room;") (by decide +kernel)
  have sm0 := hts (.sameField "RoomForms$Halves" "RoomForms$Form" "room" "LRoomForms$Room;") (by decide +kernel)
  intro k
  induction k with
  | zero =>
    intro _ _ _ _ _ _ _ _ _ _ _ _ _ _ _ _ _ _ _ _ _ hm
    have hm9 : (none : Option (Int32 × Int32 × Int32 × Int32 × Int32 × Int32 × (Nat → Int32) × (Nat → Int32) × (Nat → Int32) × (Nat → Int32) × (Nat → Int32) × Int32 × Int32 × (Nat → Int32) × (Nat → Int32) × (Nat → Int32))) = some _ := hm
    cases hm9
  | succ k ih =>
    intro x1 x2 x3 s0 s1 s2 s3 s4 s5 s6 s7 s8 s9 s10 s11 s12 s13 s14 H locs ls hm hP hD hS hl
    rw [m_X3_take_L33_s] at hm
    refine lv_iload_n hx hb dX3_take_33 rfl (lv_at hl 3 rfl) ?_
    refine lv_iload_n hx hb dX3_take_34 rfl (lv_at hl 1 rfl) ?_
    refine lv_icmp_lt (tgt := 68) hx hb dX3_take_35 (by decide) (fun c_6 => ?_) (fun c_6 => ?_)
    · replace hm := zz_t c_6 hm
      refine lv_aload_n hx hb dX3_take_68 rfl (lv_at hl 0 rfl) ?_
      refine va_get (D := (dC, dI)) (ci := 2) (v := .ref q10) (C := RX3) (T := TX3) (N := 3) hx hb hts inX3 hown hK hP 0 rfl rfl 1 (by decide) f9 (fun _ h9 => h9) rfl dX3_take_69 ?_
      refine lv_iload_n hx hb dX3_take_72 rfl (lv_at hl 2 rfl) ?_
      refine lv_iconst (v := 0) hx hb dX3_take_73 (by decide) ?_
      obtain ⟨hi_7, hm⟩ := zz_chk hm
      refine va_iast hx hb hK hP hD hS 10 0 rfl rfl (i := x2) hi_7 dX3_take_74 (fun H locs hP hD hS => ?_)
      have hP : va_P (dC, dI) vwCl [(q0, .inr (2, [.ref q1, .ref q10, .int s0])), (q1, .inr (6, [.ref q2, .ref q3, .ref q4, .ref q5, .ref q6, .ref q7, .int s1, .int s2, .int s3, .int s4])), (q2, .inl (cI, n0, .inl s5)), (q3, .inl (cI, n1, .inl s6)), (q4, .inl (cI, n2, .inl s7)), (q5, .inl (cI, n3, .inl s8)), (q6, .inl (cI, n4, .inl s9)), (q7, .inr (9, [.ref q8, .ref q9, .int s10, .int s11])), (q8, .inl (cI, n5, .inl s12)), (q9, .inl (cI, n6, .inl s13)), (q10, .inl (cI, n7, .inl (upd s14 x2.toNatClampNeg ((0 : Int32)))))] _ := hP
      have hD : va_D A [(q0, .inr (2, [.ref q1, .ref q10, .int s0])), (q1, .inr (6, [.ref q2, .ref q3, .ref q4, .ref q5, .ref q6, .ref q7, .int s1, .int s2, .int s3, .int s4])), (q2, .inl (cI, n0, .inl s5)), (q3, .inl (cI, n1, .inl s6)), (q4, .inl (cI, n2, .inl s7)), (q5, .inl (cI, n3, .inl s8)), (q6, .inl (cI, n4, .inl s9)), (q7, .inr (9, [.ref q8, .ref q9, .int s10, .int s11])), (q8, .inl (cI, n5, .inl s12)), (q9, .inl (cI, n6, .inl s13)), (q10, .inl (cI, n7, .inl (upd s14 x2.toNatClampNeg ((0 : Int32)))))] := hD
      refine lv_iload_n hx hb dX3_take_75 rfl (lv_at hl 2 rfl) ?_
      have hm := Option.some.inj hm
      exact W.iret (v := x2) hx hb hr (fun t ht hW => ⟨⟨x2, (s0, s1, s2, s3, s4, s5, s6, s7, s8, s9, s10, s11, s12, s13, upd s14 x2.toNatClampNeg ((0 : Int32))), rfl, ⟨(congrArg (·.1) hm).symm, (congrArg (·.2) hm).symm⟩, by rw [ht]; exact hP, va_K.moved hW.alike hK, hD⟩, hS.F ht⟩) hS.2.2 dX3_take_76
    · replace hm := zz_f c_6 hm
      refine lv_iload_n hx hb dX3_take_38 rfl (lv_at hl 3 rfl) ?_
      refine lv_if_le (tgt := 68) hx hb dX3_take_39 (by decide) (fun c_8 => ?_) (fun c_8 => ?_)
      · replace hm := zz_t c_8 hm
        refine lv_aload_n hx hb dX3_take_68 rfl (lv_at hl 0 rfl) ?_
        refine va_get (D := (dC, dI)) (ci := 2) (v := .ref q10) (C := RX3) (T := TX3) (N := 3) hx hb hts inX3 hown hK hP 0 rfl rfl 1 (by decide) f9 (fun _ h9 => h9) rfl dX3_take_69 ?_
        refine lv_iload_n hx hb dX3_take_72 rfl (lv_at hl 2 rfl) ?_
        refine lv_iconst (v := 0) hx hb dX3_take_73 (by decide) ?_
        obtain ⟨hi_9, hm⟩ := zz_chk hm
        refine va_iast hx hb hK hP hD hS 10 0 rfl rfl (i := x2) hi_9 dX3_take_74 (fun H locs hP hD hS => ?_)
        have hP : va_P (dC, dI) vwCl [(q0, .inr (2, [.ref q1, .ref q10, .int s0])), (q1, .inr (6, [.ref q2, .ref q3, .ref q4, .ref q5, .ref q6, .ref q7, .int s1, .int s2, .int s3, .int s4])), (q2, .inl (cI, n0, .inl s5)), (q3, .inl (cI, n1, .inl s6)), (q4, .inl (cI, n2, .inl s7)), (q5, .inl (cI, n3, .inl s8)), (q6, .inl (cI, n4, .inl s9)), (q7, .inr (9, [.ref q8, .ref q9, .int s10, .int s11])), (q8, .inl (cI, n5, .inl s12)), (q9, .inl (cI, n6, .inl s13)), (q10, .inl (cI, n7, .inl (upd s14 x2.toNatClampNeg ((0 : Int32)))))] _ := hP
        have hD : va_D A [(q0, .inr (2, [.ref q1, .ref q10, .int s0])), (q1, .inr (6, [.ref q2, .ref q3, .ref q4, .ref q5, .ref q6, .ref q7, .int s1, .int s2, .int s3, .int s4])), (q2, .inl (cI, n0, .inl s5)), (q3, .inl (cI, n1, .inl s6)), (q4, .inl (cI, n2, .inl s7)), (q5, .inl (cI, n3, .inl s8)), (q6, .inl (cI, n4, .inl s9)), (q7, .inr (9, [.ref q8, .ref q9, .int s10, .int s11])), (q8, .inl (cI, n5, .inl s12)), (q9, .inl (cI, n6, .inl s13)), (q10, .inl (cI, n7, .inl (upd s14 x2.toNatClampNeg ((0 : Int32)))))] := hD
        refine lv_iload_n hx hb dX3_take_75 rfl (lv_at hl 2 rfl) ?_
        have hm := Option.some.inj hm
        exact W.iret (v := x2) hx hb hr (fun t ht hW => ⟨⟨x2, (s0, s1, s2, s3, s4, s5, s6, s7, s8, s9, s10, s11, s12, s13, upd s14 x2.toNatClampNeg ((0 : Int32))), rfl, ⟨(congrArg (·.1) hm).symm, (congrArg (·.2) hm).symm⟩, by rw [ht]; exact hP, va_K.moved hW.alike hK, hD⟩, hS.F ht⟩) hS.2.2 dX3_take_76
      · replace hm := zz_f c_8 hm
        refine lv_iload_n hx hb dX3_take_42 rfl (lv_at hl 2 rfl) ?_
        refine lv_iload_n hx hb dX3_take_43 rfl (lv_at hl 3 rfl) ?_
        refine lv_iadd hx hb dX3_take_44 ?_
        refine lv_aload_n hx hb dX3_take_45 rfl (lv_at hl 0 rfl) ?_
        refine va_get (D := (dC, dI)) (ci := 2) (v := .int s0) (C := RX3) (T := TX3) (N := 3) hx hb hts inX3 hown hK hP 0 rfl rfl 2 (by decide) f15 (fun _ h9 => h9) rfl dX3_take_46 ?_
        refine lv_icmp_ge (tgt := 68) hx hb dX3_take_49 (by decide) (fun c_10 => ?_) (fun c_10 => ?_)
        · replace hm := zz_t c_10 hm
          refine lv_aload_n hx hb dX3_take_68 rfl (lv_at hl 0 rfl) ?_
          refine va_get (D := (dC, dI)) (ci := 2) (v := .ref q10) (C := RX3) (T := TX3) (N := 3) hx hb hts inX3 hown hK hP 0 rfl rfl 1 (by decide) f9 (fun _ h9 => h9) rfl dX3_take_69 ?_
          refine lv_iload_n hx hb dX3_take_72 rfl (lv_at hl 2 rfl) ?_
          refine lv_iconst (v := 0) hx hb dX3_take_73 (by decide) ?_
          obtain ⟨hi_11, hm⟩ := zz_chk hm
          refine va_iast hx hb hK hP hD hS 10 0 rfl rfl (i := x2) hi_11 dX3_take_74 (fun H locs hP hD hS => ?_)
          have hP : va_P (dC, dI) vwCl [(q0, .inr (2, [.ref q1, .ref q10, .int s0])), (q1, .inr (6, [.ref q2, .ref q3, .ref q4, .ref q5, .ref q6, .ref q7, .int s1, .int s2, .int s3, .int s4])), (q2, .inl (cI, n0, .inl s5)), (q3, .inl (cI, n1, .inl s6)), (q4, .inl (cI, n2, .inl s7)), (q5, .inl (cI, n3, .inl s8)), (q6, .inl (cI, n4, .inl s9)), (q7, .inr (9, [.ref q8, .ref q9, .int s10, .int s11])), (q8, .inl (cI, n5, .inl s12)), (q9, .inl (cI, n6, .inl s13)), (q10, .inl (cI, n7, .inl (upd s14 x2.toNatClampNeg ((0 : Int32)))))] _ := hP
          have hD : va_D A [(q0, .inr (2, [.ref q1, .ref q10, .int s0])), (q1, .inr (6, [.ref q2, .ref q3, .ref q4, .ref q5, .ref q6, .ref q7, .int s1, .int s2, .int s3, .int s4])), (q2, .inl (cI, n0, .inl s5)), (q3, .inl (cI, n1, .inl s6)), (q4, .inl (cI, n2, .inl s7)), (q5, .inl (cI, n3, .inl s8)), (q6, .inl (cI, n4, .inl s9)), (q7, .inr (9, [.ref q8, .ref q9, .int s10, .int s11])), (q8, .inl (cI, n5, .inl s12)), (q9, .inl (cI, n6, .inl s13)), (q10, .inl (cI, n7, .inl (upd s14 x2.toNatClampNeg ((0 : Int32)))))] := hD
          refine lv_iload_n hx hb dX3_take_75 rfl (lv_at hl 2 rfl) ?_
          have hm := Option.some.inj hm
          exact W.iret (v := x2) hx hb hr (fun t ht hW => ⟨⟨x2, (s0, s1, s2, s3, s4, s5, s6, s7, s8, s9, s10, s11, s12, s13, upd s14 x2.toNatClampNeg ((0 : Int32))), rfl, ⟨(congrArg (·.1) hm).symm, (congrArg (·.2) hm).symm⟩, by rw [ht]; exact hP, va_K.moved hW.alike hK, hD⟩, hS.F ht⟩) hS.2.2 dX3_take_76
        · replace hm := zz_f c_10 hm
          refine lv_aload_n hx hb dX3_take_52 rfl (lv_at hl 0 rfl) ?_
          refine va_get (D := (dC, dI)) (ci := 2) (v := .ref q10) (C := RX3) (T := TX3) (N := 3) hx hb hts inX3 hown hK hP 0 rfl rfl 1 (by decide) f9 (fun _ h9 => h9) rfl dX3_take_53 ?_
          refine lv_iload_n hx hb dX3_take_56 rfl (lv_at hl 2 rfl) ?_
          refine lv_iload_n hx hb dX3_take_57 rfl (lv_at hl 3 rfl) ?_
          refine lv_iadd hx hb dX3_take_58 ?_
          refine lv_iload_n hx hb dX3_take_59 rfl (lv_at hl 3 rfl) ?_
          obtain ⟨hi_12, hm⟩ := zz_chk hm
          refine va_iast hx hb hK hP hD hS 10 0 rfl rfl (i := x2 + x3) hi_12 dX3_take_60 (fun H locs hP hD hS => ?_)
          have hP : va_P (dC, dI) vwCl [(q0, .inr (2, [.ref q1, .ref q10, .int s0])), (q1, .inr (6, [.ref q2, .ref q3, .ref q4, .ref q5, .ref q6, .ref q7, .int s1, .int s2, .int s3, .int s4])), (q2, .inl (cI, n0, .inl s5)), (q3, .inl (cI, n1, .inl s6)), (q4, .inl (cI, n2, .inl s7)), (q5, .inl (cI, n3, .inl s8)), (q6, .inl (cI, n4, .inl s9)), (q7, .inr (9, [.ref q8, .ref q9, .int s10, .int s11])), (q8, .inl (cI, n5, .inl s12)), (q9, .inl (cI, n6, .inl s13)), (q10, .inl (cI, n7, .inl (upd s14 (x2 + x3).toNatClampNeg x3)))] _ := hP
          have hD : va_D A [(q0, .inr (2, [.ref q1, .ref q10, .int s0])), (q1, .inr (6, [.ref q2, .ref q3, .ref q4, .ref q5, .ref q6, .ref q7, .int s1, .int s2, .int s3, .int s4])), (q2, .inl (cI, n0, .inl s5)), (q3, .inl (cI, n1, .inl s6)), (q4, .inl (cI, n2, .inl s7)), (q5, .inl (cI, n3, .inl s8)), (q6, .inl (cI, n4, .inl s9)), (q7, .inr (9, [.ref q8, .ref q9, .int s10, .int s11])), (q8, .inl (cI, n5, .inl s12)), (q9, .inl (cI, n6, .inl s13)), (q10, .inl (cI, n7, .inl (upd s14 (x2 + x3).toNatClampNeg x3)))] := hD
          refine lv_iload_n hx hb dX3_take_61 rfl (lv_at hl 3 rfl) ?_
          refine lv_iconst (v := 2) hx hb dX3_take_62 (by decide) ?_
          refine lv_idiv hx hb dX3_take_63 (by decide) ?_
          refine lv_istore_n (lv' := [(3, .int (x3 / ((2 : Int32)))), (0, .ref q0), (1, .int x1), (2, .int x2)]) hx hb dX3_take_64 rfl hl (by decide) rfl (fun ls hl => ?_)
          refine lv_goto (tgt := 33) hx hb dX3_take_65 (by decide) ?_
          exact ih x1 x2 (x3 / ((2 : Int32))) s0 s1 s2 s3 s4 s5 s6 s7 s8 s9 s10 s11 s12 s13 (upd s14 (x2 + x3).toNatClampNeg x3) _ _ _ hm hP hD hS (lv_sub hl [1, 2, 3, 0] rfl)
def m_X3_take (K : Nat) (n0 : Nat) (n1 : Nat) (n2 : Nat) (n3 : Nat) (n4 : Nat) (n5 : Nat) (n6 : Nat) (n7 : Nat) (p1 : Int32) (s0 : Int32) (s1 : Int32) (s2 : Int32) (s3 : Int32) (s4 : Int32) (s5 : Nat → Int32) (s6 : Nat → Int32) (s7 : Nat → Int32) (s8 : Nat → Int32) (s9 : Nat → Int32) (s10 : Int32) (s11 : Int32) (s12 : Nat → Int32) (s13 : Nat → Int32) (s14 : Nat → Int32) : Option (Int32 × Int32 × Int32 × Int32 × Int32 × Int32 × (Nat → Int32) × (Nat → Int32) × (Nat → Int32) × (Nat → Int32) × (Nat → Int32) × Int32 × Int32 × (Nat → Int32) × (Nat → Int32) × (Nat → Int32)) :=
  (m_X3_freeParts K n0 n1 n2 n3 n4 n5 n6 n7 s0 s1 s2 s3 s4 s5 s6 s7 s8 s9 s10 s11 s12 s13 s14).bind fun ⟨r_1, t_1_0, t_1_1, t_1_2, t_1_3, t_1_4, t_1_5, t_1_6, t_1_7, t_1_8, t_1_9, t_1_10, t_1_11, t_1_12, t_1_13, t_1_14⟩ => ((m_X7_addLooked K n0 n1 n2 n3 n4 n5 n6 r_1 t_1_1 t_1_2 t_1_3 t_1_4 t_1_5 t_1_6 t_1_7 t_1_8 t_1_9 t_1_10 t_1_11 t_1_12 t_1_13).bind fun ⟨t_2_0, t_2_1, t_2_2, t_2_3, t_2_4, t_2_5, t_2_6, t_2_7, t_2_8, t_2_9, t_2_10, t_2_11, t_2_12⟩ => ((m_X3_smallestPiece K n0 n1 n2 n3 n4 n5 n6 n7 p1 t_1_0 t_2_0 t_2_1 t_2_2 t_2_3 t_2_4 t_2_5 t_2_6 t_2_7 t_2_8 t_2_9 t_2_10 t_2_11 t_2_12 t_1_14).bind fun ⟨r_3, t_3_0, t_3_1, t_3_2, t_3_3, t_3_4, t_3_5, t_3_6, t_3_7, t_3_8, t_3_9, t_3_10, t_3_11, t_3_12, t_3_13, t_3_14⟩ => (if r_3 = ((-1 : Int32)) then some ((-1 : Int32), (t_3_0, t_3_1, t_3_2, t_3_3, t_3_4, t_3_5, t_3_6, t_3_7, t_3_8, t_3_9, t_3_10, t_3_11, t_3_12, t_3_13, t_3_14))
  else (if ¬ (r_3 < 0 ∨ n7 ≤ r_3.toNatClampNeg) then m_X3_take_L33 K n0 n1 n2 n3 n4 n5 n6 n7 K p1 r_3 ((t_3_14 r_3.toNatClampNeg) / ((2 : Int32))) t_3_0 t_3_1 t_3_2 t_3_3 t_3_4 t_3_5 t_3_6 t_3_7 t_3_8 t_3_9 t_3_10 t_3_11 t_3_12 t_3_13 t_3_14 else none))))
set_option maxHeartbeats 4000000 in
set_option maxRecDepth 100000 in
theorem c_X3_take (l : Launch) (dC : Nat → ClassId) (dI : Nat → Nat → Nat) (cI cJ cZ : ClassId) (K : Nat) (q0 q1 q2 q3 q4 q5 q6 q7 q8 q9 q10 : Nat) (n0 : Nat) (n1 : Nat) (n2 : Nat) (n3 : Nat) (n4 : Nat) (n5 : Nat) (n6 : Nat) (n7 : Nat) (s0 : Int32) (s1 : Int32) (s2 : Int32) (s3 : Int32) (s4 : Int32) (s5 : Nat → Int32) (s6 : Nat → Int32) (s7 : Nat → Int32) (s8 : Nat → Int32) (s9 : Nat → Int32) (s10 : Int32) (s11 : Int32) (s12 : Nat → Int32) (s13 : Nat → Int32) (s14 : Nat → Int32) (p1 : Int32) (sz : Nat) (rv : Int32) (uv : Int32 × Int32 × Int32 × Int32 × Int32 × (Nat → Int32) × (Nat → Int32) × (Nat → Int32) × (Nat → Int32) × (Nat → Int32) × Int32 × Int32 × (Nat → Int32) × (Nat → Int32) × (Nat → Int32)) (hm : m_X3_take K n0 n1 n2 n3 n4 n5 n6 n7 p1 s0 s1 s2 s3 s4 s5 s6 s7 s8 s9 s10 s11 s12 s13 s14 = some (rv, uv)) : Met l yX3_take wsX3_take rm_X3_take (zz_pre dC dI [(cI, .int), (cJ, .long), (cZ, .boolean)] [(q0, .inr (2, [.ref q1, .ref q10, .int s0])), (q1, .inr (6, [.ref q2, .ref q3, .ref q4, .ref q5, .ref q6, .ref q7, .int s1, .int s2, .int s3, .int s4])), (q2, .inl (cI, n0, .inl s5)), (q3, .inl (cI, n1, .inl s6)), (q4, .inl (cI, n2, .inl s7)), (q5, .inl (cI, n3, .inl s8)), (q6, .inl (cI, n4, .inl s9)), (q7, .inr (9, [.ref q8, .ref q9, .int s10, .int s11])), (q8, .inl (cI, n5, .inl s12)), (q9, .inl (cI, n6, .inl s13)), (q10, .inl (cI, n7, .inl s14))] sz [.ref q0, .int p1]) (va_Qi (fun r u => rv = r ∧ uv = u) (fun u t => zz_wo dC dI [(cI, .int), (cJ, .long), (cZ, .boolean)] (va_A [(q0, .inr (2, [.ref q1, .ref q10, .int s0])), (q1, .inr (6, [.ref q2, .ref q3, .ref q4, .ref q5, .ref q6, .ref q7, .int s1, .int s2, .int s3, .int s4])), (q2, .inl (cI, n0, .inl s5)), (q3, .inl (cI, n1, .inl s6)), (q4, .inl (cI, n2, .inl s7)), (q5, .inl (cI, n3, .inl s8)), (q6, .inl (cI, n4, .inl s9)), (q7, .inr (9, [.ref q8, .ref q9, .int s10, .int s11])), (q8, .inl (cI, n5, .inl s12)), (q9, .inl (cI, n6, .inl s13)), (q10, .inl (cI, n7, .inl s14))] sz) (ce_X3 cI cJ cZ q0 q1 q2 q3 q4 q5 q6 q7 q8 q9 q10 n0 n1 n2 n3 n4 n5 n6 n7 u) t) (va_A [(q0, .inr (2, [.ref q1, .ref q10, .int s0])), (q1, .inr (6, [.ref q2, .ref q3, .ref q4, .ref q5, .ref q6, .ref q7, .int s1, .int s2, .int s3, .int s4])), (q2, .inl (cI, n0, .inl s5)), (q3, .inl (cI, n1, .inl s6)), (q4, .inl (cI, n2, .inl s7)), (q5, .inl (cI, n3, .inl s8)), (q6, .inl (cI, n4, .inl s9)), (q7, .inr (9, [.ref q8, .ref q9, .int s10, .int s11])), (q8, .inl (cI, n5, .inl s12)), (q9, .inl (cI, n6, .inl s13)), (q10, .inl (cI, n7, .inl s14))] sz)) 0 0 (va_A [(q0, .inr (2, [.ref q1, .ref q10, .int s0])), (q1, .inr (6, [.ref q2, .ref q3, .ref q4, .ref q5, .ref q6, .ref q7, .int s1, .int s2, .int s3, .int s4])), (q2, .inl (cI, n0, .inl s5)), (q3, .inl (cI, n1, .inl s6)), (q4, .inl (cI, n2, .inl s7)), (q5, .inl (cI, n3, .inl s8)), (q6, .inl (cI, n4, .inl s9)), (q7, .inr (9, [.ref q8, .ref q9, .int s10, .int s11])), (q8, .inl (cI, n5, .inl s12)), (q9, .inl (cI, n6, .inl s13)), (q10, .inl (cI, n7, .inl s14))] sz) := by
  refine Met.ofW (cc := cX3_take) (maxL := 4) (ret := (some .int)) (by decide) rfl ?_
  intro p e s m args below meth c s₁ B hml hv
  obtain ⟨rfl, hsz, hP, hK, hD0, hN⟩ := hv
  have hx := B.exec
  have hb := B.bytes
  have hr := B.returns
  have hts := atoms_spec (ws := wsX3_take) B.pre
  have hown : s.vm.findClass RX3 = some m.cls := findClass_of_methodNamed B.named
  have hlocks := B.notSynchronized
  have hS0 : CallFix p m c cX3_take 4 s #[.ref q0, .int p1] wsX3_take RX3 := ⟨hx, hb, hml, hown, hts⟩
  subst hsz
  have hD := hD0.self (sz := s.heap.size)
  generalize hAe : va_A [(q0, .inr (2, [.ref q1, .ref q10, .int s0])), (q1, .inr (6, [.ref q2, .ref q3, .ref q4, .ref q5, .ref q6, .ref q7, .int s1, .int s2, .int s3, .int s4])), (q2, .inl (cI, n0, .inl s5)), (q3, .inl (cI, n1, .inl s6)), (q4, .inl (cI, n2, .inl s7)), (q5, .inl (cI, n3, .inl s8)), (q6, .inl (cI, n4, .inl s9)), (q7, .inr (9, [.ref q8, .ref q9, .int s10, .int s11])), (q8, .inl (cI, n5, .inl s12)), (q9, .inl (cI, n6, .inl s13)), (q10, .inl (cI, n7, .inl s14))] s.heap.size = A at hD ⊢
  have hA : ∀ q : Nat, s.heap.size ≤ q → A q := fun q h => by rw [← hAe]; exact Or.inr h
  have hS : va_S A s.heap s.heap [] := va_S.rf
  have hl := lv_entry ([.ref q0, .int p1]) (n := 4) (Nat.le_of_ble_eq_true rfl)
  rw [lg_entry_eq]
  generalize (lg_sl ([.ref q0, .int p1]) ++ List.replicate (4 - (lg_sl ([.ref q0, .int p1])).length) Slot.unset).toArray = ls at hl ⊢
  have hl : lv_has ls 4 [(0, .ref q0), (1, .int p1)] := hl
  have inX3 := in_X3_take_X3
  have f9 := hts (.fieldLink RX3 9 "RoomForms$Halves" "pieces" "[I") (by decide +kernel)
  have f15 := hts (.fieldLink RX3 15 "RoomForms$Halves" "whole" "I") (by decide +kernel)
  have f19 := hts (.fieldLink RX3 19 "RoomForms$Halves" "room" "LRoomForms$Room;") (by decide +kernel)
  have sm0 := hts (.sameField "RoomForms$Halves" "RoomForms$Form" "room" "LRoomForms$Room;") (by decide +kernel)
  unfold m_X3_take at hm
  refine lv_aload_n hx hb dX3_take_0 rfl (lv_at hl 0 rfl) ?_
  refine va_get (D := (dC, dI)) (ci := 2) (v := .ref q1) (C := RX3) (T := TX3) (N := 3) hx hb hts inX3 hown hK hP 0 rfl rfl 0 (by decide) f19 (u_same sm0) rfl dX3_take_1 ?_
  refine lv_aload_n hx hb dX3_take_4 rfl (lv_at hl 0 rfl) ?_
  obtain ⟨⟨r_1, t_1_0, t_1_1, t_1_2, t_1_3, t_1_4, t_1_5, t_1_6, t_1_7, t_1_8, t_1_9, t_1_10, t_1_11, t_1_12, t_1_13, t_1_14⟩, hc_1, hm⟩ := zz_bind hm
  have hPc := hP.sub (ws' := [(q0, .inr (2, [.ref q1, .ref q10, .int s0])), (q1, .inr (6, [.ref q2, .ref q3, .ref q4, .ref q5, .ref q6, .ref q7, .int s1, .int s2, .int s3, .int s4])), (q2, .inl (cI, n0, .inl s5)), (q3, .inl (cI, n1, .inl s6)), (q4, .inl (cI, n2, .inl s7)), (q5, .inl (cI, n3, .inl s8)), (q6, .inl (cI, n4, .inl s9)), (q7, .inr (9, [.ref q8, .ref q9, .int s10, .int s11])), (q8, .inl (cI, n5, .inl s12)), (q9, .inl (cI, n6, .inl s13)), (q10, .inl (cI, n7, .inl s14))]) [0, 1, 2, 3, 4, 5, 6, 7, 8, 9, 10] rfl
  have hDc := hD.sub (ws' := [(q0, .inr (2, [.ref q1, .ref q10, .int s0])), (q1, .inr (6, [.ref q2, .ref q3, .ref q4, .ref q5, .ref q6, .ref q7, .int s1, .int s2, .int s3, .int s4])), (q2, .inl (cI, n0, .inl s5)), (q3, .inl (cI, n1, .inl s6)), (q4, .inl (cI, n2, .inl s7)), (q5, .inl (cI, n3, .inl s8)), (q6, .inl (cI, n4, .inl s9)), (q7, .inr (9, [.ref q8, .ref q9, .int s10, .int s11])), (q8, .inl (cI, n5, .inl s12)), (q9, .inl (cI, n6, .inl s13)), (q10, .inl (cI, n7, .inl s14))]) [0, 1, 2, 3, 4, 5, 6, 7, 8, 9, 10] (by decide) rfl
  have hFc := va_free (wc := [(q0, .inr (2, [.ref q1, .ref q10, .int s0])), (q1, .inr (6, [.ref q2, .ref q3, .ref q4, .ref q5, .ref q6, .ref q7, .int s1, .int s2, .int s3, .int s4])), (q2, .inl (cI, n0, .inl s5)), (q3, .inl (cI, n1, .inl s6)), (q4, .inl (cI, n2, .inl s7)), (q5, .inl (cI, n3, .inl s8)), (q6, .inl (cI, n4, .inl s9)), (q7, .inr (9, [.ref q8, .ref q9, .int s10, .int s11])), (q8, .inl (cI, n5, .inl s12)), (q9, .inl (cI, n6, .inl s13)), (q10, .inl (cI, n7, .inl s14))]) hD hS hA [0, 1, 2, 3, 4, 5, 6, 7, 8, 9, 10] rfl
  refine va_calli (va_runV (As := []) (rest := [.ref q1]) hS0 (c_X3_freeParts l dC dI cI cJ cZ K q0 q1 q2 q3 q4 q5 q6 q7 q8 q9 q10 n0 n1 n2 n3 n4 n5 n6 n7 s0 s1 s2 s3 s4 s5 s6 s7 s8 s9 s10 s11 s12 s13 s14 _ r_1 (t_1_0, t_1_1, t_1_2, t_1_3, t_1_4, t_1_5, t_1_6, t_1_7, t_1_8, t_1_9, t_1_10, t_1_11, t_1_12, t_1_13, t_1_14) hc_1) (cwV 0 hts gX3_take_X3_freeParts rfl rfl rfl (by decide +kernel) ⟨Nat.le_of_ble_eq_true rfl, Nat.le_of_ble_eq_true rfl⟩) (zz_pv hK hPc hDc hN (va_recv hK hPc (ci := 2) (q0 := 0) rfl rfl)) rfl rfl hl.1 rfl (lv_room (Nat.le_of_ble_eq_true rfl)) dX3_take_5 ⟨Nat.zero_le _, Nat.zero_le _⟩) hS (fun q _ h => hFc q h) hFc (fun r u t H1 locs ht hvm hw hB hz1 hk1 hS => ?_)
  obtain ⟨rfl, rfl⟩ := hw
  obtain ⟨hP1, hK1, hD1⟩ := hB
  rw [ht] at hP1
  obtain ⟨hP, hD⟩ := va_join (wr := []) (w1 := [(q0, .inr (2, [.ref q1, .ref q10, .int t_1_0])), (q1, .inr (6, [.ref q2, .ref q3, .ref q4, .ref q5, .ref q6, .ref q7, .int t_1_1, .int t_1_2, .int t_1_3, .int t_1_4])), (q2, .inl (cI, n0, .inl t_1_5)), (q3, .inl (cI, n1, .inl t_1_6)), (q4, .inl (cI, n2, .inl t_1_7)), (q5, .inl (cI, n3, .inl t_1_8)), (q6, .inl (cI, n4, .inl t_1_9)), (q7, .inr (9, [.ref q8, .ref q9, .int t_1_10, .int t_1_11])), (q8, .inl (cI, n5, .inl t_1_12)), (q9, .inl (cI, n6, .inl t_1_13)), (q10, .inl (cI, n7, .inl t_1_14))]) hP hD [0, 1, 2, 3, 4, 5, 6, 7, 8, 9, 10] [] rfl rfl (by decide) (by decide) hk1 hFc hP1 hD1
  have hP : va_P (dC, dI) vwCl [(q0, .inr (2, [.ref q1, .ref q10, .int t_1_0])), (q1, .inr (6, [.ref q2, .ref q3, .ref q4, .ref q5, .ref q6, .ref q7, .int t_1_1, .int t_1_2, .int t_1_3, .int t_1_4])), (q2, .inl (cI, n0, .inl t_1_5)), (q3, .inl (cI, n1, .inl t_1_6)), (q4, .inl (cI, n2, .inl t_1_7)), (q5, .inl (cI, n3, .inl t_1_8)), (q6, .inl (cI, n4, .inl t_1_9)), (q7, .inr (9, [.ref q8, .ref q9, .int t_1_10, .int t_1_11])), (q8, .inl (cI, n5, .inl t_1_12)), (q9, .inl (cI, n6, .inl t_1_13)), (q10, .inl (cI, n7, .inl t_1_14))] _ := hP
  have hD : va_D A [(q0, .inr (2, [.ref q1, .ref q10, .int t_1_0])), (q1, .inr (6, [.ref q2, .ref q3, .ref q4, .ref q5, .ref q6, .ref q7, .int t_1_1, .int t_1_2, .int t_1_3, .int t_1_4])), (q2, .inl (cI, n0, .inl t_1_5)), (q3, .inl (cI, n1, .inl t_1_6)), (q4, .inl (cI, n2, .inl t_1_7)), (q5, .inl (cI, n3, .inl t_1_8)), (q6, .inl (cI, n4, .inl t_1_9)), (q7, .inr (9, [.ref q8, .ref q9, .int t_1_10, .int t_1_11])), (q8, .inl (cI, n5, .inl t_1_12)), (q9, .inl (cI, n6, .inl t_1_13)), (q10, .inl (cI, n7, .inl t_1_14))] := hD
  obtain ⟨⟨t_2_0, t_2_1, t_2_2, t_2_3, t_2_4, t_2_5, t_2_6, t_2_7, t_2_8, t_2_9, t_2_10, t_2_11, t_2_12⟩, hc_2, hm⟩ := zz_bind hm
  have hPc := hP.sub (ws' := [(q1, .inr (6, [.ref q2, .ref q3, .ref q4, .ref q5, .ref q6, .ref q7, .int t_1_1, .int t_1_2, .int t_1_3, .int t_1_4])), (q2, .inl (cI, n0, .inl t_1_5)), (q3, .inl (cI, n1, .inl t_1_6)), (q4, .inl (cI, n2, .inl t_1_7)), (q5, .inl (cI, n3, .inl t_1_8)), (q6, .inl (cI, n4, .inl t_1_9)), (q7, .inr (9, [.ref q8, .ref q9, .int t_1_10, .int t_1_11])), (q8, .inl (cI, n5, .inl t_1_12)), (q9, .inl (cI, n6, .inl t_1_13))]) [1, 2, 3, 4, 5, 6, 7, 8, 9] rfl
  have hDc := hD.sub (ws' := [(q1, .inr (6, [.ref q2, .ref q3, .ref q4, .ref q5, .ref q6, .ref q7, .int t_1_1, .int t_1_2, .int t_1_3, .int t_1_4])), (q2, .inl (cI, n0, .inl t_1_5)), (q3, .inl (cI, n1, .inl t_1_6)), (q4, .inl (cI, n2, .inl t_1_7)), (q5, .inl (cI, n3, .inl t_1_8)), (q6, .inl (cI, n4, .inl t_1_9)), (q7, .inr (9, [.ref q8, .ref q9, .int t_1_10, .int t_1_11])), (q8, .inl (cI, n5, .inl t_1_12)), (q9, .inl (cI, n6, .inl t_1_13))]) [1, 2, 3, 4, 5, 6, 7, 8, 9] (by decide) rfl
  have hFc := va_free (wc := [(q1, .inr (6, [.ref q2, .ref q3, .ref q4, .ref q5, .ref q6, .ref q7, .int t_1_1, .int t_1_2, .int t_1_3, .int t_1_4])), (q2, .inl (cI, n0, .inl t_1_5)), (q3, .inl (cI, n1, .inl t_1_6)), (q4, .inl (cI, n2, .inl t_1_7)), (q5, .inl (cI, n3, .inl t_1_8)), (q6, .inl (cI, n4, .inl t_1_9)), (q7, .inr (9, [.ref q8, .ref q9, .int t_1_10, .int t_1_11])), (q8, .inl (cI, n5, .inl t_1_12)), (q9, .inl (cI, n6, .inl t_1_13))]) hD hS hA [1, 2, 3, 4, 5, 6, 7, 8, 9] rfl
  refine va_callv (va_runV (As := [.int r_1]) (rest := []) hS0 (c_X7_addLooked l dC dI cI cJ cZ K q1 q2 q3 q4 q5 q6 q7 q8 q9 n0 n1 n2 n3 n4 n5 n6 t_1_1 t_1_2 t_1_3 t_1_4 t_1_5 t_1_6 t_1_7 t_1_8 t_1_9 t_1_10 t_1_11 t_1_12 t_1_13 r_1 _ (t_2_0, t_2_1, t_2_2, t_2_3, t_2_4, t_2_5, t_2_6, t_2_7, t_2_8, t_2_9, t_2_10, t_2_11, t_2_12) hc_2) (cwV 1 hts gX3_take_X7_addLooked rfl rfl rfl (by decide +kernel) ⟨Nat.le_of_ble_eq_true rfl, Nat.le_of_ble_eq_true rfl⟩) (zz_pv hK hPc hDc hN (va_recv hK hPc (ci := 6) (q0 := 0) rfl rfl)) rfl rfl hl.1 rfl (lv_room (Nat.le_of_ble_eq_true rfl)) dX3_take_8 ⟨Nat.zero_le _, Nat.zero_le _⟩) hS (fun q _ h => hFc q h) hFc (fun u t H1 locs ht hvm hw hB hz1 hk1 hS => ?_)
  subst hw
  obtain ⟨hP1, hK1, hD1⟩ := hB
  rw [ht] at hP1
  obtain ⟨hP, hD⟩ := va_join (wr := [(q0, .inr (2, [.ref q1, .ref q10, .int t_1_0])), (q10, .inl (cI, n7, .inl t_1_14))]) (w1 := [(q1, .inr (6, [.ref q2, .ref q3, .ref q4, .ref q5, .ref q6, .ref q7, .int t_2_0, .int t_2_1, .int t_2_2, .int t_2_3])), (q2, .inl (cI, n0, .inl t_2_4)), (q3, .inl (cI, n1, .inl t_2_5)), (q4, .inl (cI, n2, .inl t_2_6)), (q5, .inl (cI, n3, .inl t_2_7)), (q6, .inl (cI, n4, .inl t_2_8)), (q7, .inr (9, [.ref q8, .ref q9, .int t_2_9, .int t_2_10])), (q8, .inl (cI, n5, .inl t_2_11)), (q9, .inl (cI, n6, .inl t_2_12))]) hP hD [1, 2, 3, 4, 5, 6, 7, 8, 9] [0, 10] rfl rfl (by decide) (by decide) hk1 hFc hP1 hD1
  have hP : va_P (dC, dI) vwCl [(q0, .inr (2, [.ref q1, .ref q10, .int t_1_0])), (q10, .inl (cI, n7, .inl t_1_14)), (q1, .inr (6, [.ref q2, .ref q3, .ref q4, .ref q5, .ref q6, .ref q7, .int t_2_0, .int t_2_1, .int t_2_2, .int t_2_3])), (q2, .inl (cI, n0, .inl t_2_4)), (q3, .inl (cI, n1, .inl t_2_5)), (q4, .inl (cI, n2, .inl t_2_6)), (q5, .inl (cI, n3, .inl t_2_7)), (q6, .inl (cI, n4, .inl t_2_8)), (q7, .inr (9, [.ref q8, .ref q9, .int t_2_9, .int t_2_10])), (q8, .inl (cI, n5, .inl t_2_11)), (q9, .inl (cI, n6, .inl t_2_12))] _ := hP
  have hD : va_D A [(q0, .inr (2, [.ref q1, .ref q10, .int t_1_0])), (q10, .inl (cI, n7, .inl t_1_14)), (q1, .inr (6, [.ref q2, .ref q3, .ref q4, .ref q5, .ref q6, .ref q7, .int t_2_0, .int t_2_1, .int t_2_2, .int t_2_3])), (q2, .inl (cI, n0, .inl t_2_4)), (q3, .inl (cI, n1, .inl t_2_5)), (q4, .inl (cI, n2, .inl t_2_6)), (q5, .inl (cI, n3, .inl t_2_7)), (q6, .inl (cI, n4, .inl t_2_8)), (q7, .inr (9, [.ref q8, .ref q9, .int t_2_9, .int t_2_10])), (q8, .inl (cI, n5, .inl t_2_11)), (q9, .inl (cI, n6, .inl t_2_12))] := hD
  refine lv_aload_n hx hb dX3_take_11 rfl (lv_at hl 0 rfl) ?_
  refine lv_iload_n hx hb dX3_take_12 rfl (lv_at hl 1 rfl) ?_
  obtain ⟨⟨r_3, t_3_0, t_3_1, t_3_2, t_3_3, t_3_4, t_3_5, t_3_6, t_3_7, t_3_8, t_3_9, t_3_10, t_3_11, t_3_12, t_3_13, t_3_14⟩, hc_3, hm⟩ := zz_bind hm
  have hPc := hP.sub (ws' := [(q0, .inr (2, [.ref q1, .ref q10, .int t_1_0])), (q1, .inr (6, [.ref q2, .ref q3, .ref q4, .ref q5, .ref q6, .ref q7, .int t_2_0, .int t_2_1, .int t_2_2, .int t_2_3])), (q2, .inl (cI, n0, .inl t_2_4)), (q3, .inl (cI, n1, .inl t_2_5)), (q4, .inl (cI, n2, .inl t_2_6)), (q5, .inl (cI, n3, .inl t_2_7)), (q6, .inl (cI, n4, .inl t_2_8)), (q7, .inr (9, [.ref q8, .ref q9, .int t_2_9, .int t_2_10])), (q8, .inl (cI, n5, .inl t_2_11)), (q9, .inl (cI, n6, .inl t_2_12)), (q10, .inl (cI, n7, .inl t_1_14))]) [0, 2, 3, 4, 5, 6, 7, 8, 9, 10, 1] rfl
  have hDc := hD.sub (ws' := [(q0, .inr (2, [.ref q1, .ref q10, .int t_1_0])), (q1, .inr (6, [.ref q2, .ref q3, .ref q4, .ref q5, .ref q6, .ref q7, .int t_2_0, .int t_2_1, .int t_2_2, .int t_2_3])), (q2, .inl (cI, n0, .inl t_2_4)), (q3, .inl (cI, n1, .inl t_2_5)), (q4, .inl (cI, n2, .inl t_2_6)), (q5, .inl (cI, n3, .inl t_2_7)), (q6, .inl (cI, n4, .inl t_2_8)), (q7, .inr (9, [.ref q8, .ref q9, .int t_2_9, .int t_2_10])), (q8, .inl (cI, n5, .inl t_2_11)), (q9, .inl (cI, n6, .inl t_2_12)), (q10, .inl (cI, n7, .inl t_1_14))]) [0, 2, 3, 4, 5, 6, 7, 8, 9, 10, 1] (by decide) rfl
  have hFc := va_free (wc := [(q0, .inr (2, [.ref q1, .ref q10, .int t_1_0])), (q1, .inr (6, [.ref q2, .ref q3, .ref q4, .ref q5, .ref q6, .ref q7, .int t_2_0, .int t_2_1, .int t_2_2, .int t_2_3])), (q2, .inl (cI, n0, .inl t_2_4)), (q3, .inl (cI, n1, .inl t_2_5)), (q4, .inl (cI, n2, .inl t_2_6)), (q5, .inl (cI, n3, .inl t_2_7)), (q6, .inl (cI, n4, .inl t_2_8)), (q7, .inr (9, [.ref q8, .ref q9, .int t_2_9, .int t_2_10])), (q8, .inl (cI, n5, .inl t_2_11)), (q9, .inl (cI, n6, .inl t_2_12)), (q10, .inl (cI, n7, .inl t_1_14))]) hD hS hA [0, 2, 3, 4, 5, 6, 7, 8, 9, 10, 1] rfl
  refine va_calli (va_runV (As := [.int p1]) (rest := []) hS0 (c_X3_smallestPiece l dC dI cI cJ cZ K q0 q1 q2 q3 q4 q5 q6 q7 q8 q9 q10 n0 n1 n2 n3 n4 n5 n6 n7 t_1_0 t_2_0 t_2_1 t_2_2 t_2_3 t_2_4 t_2_5 t_2_6 t_2_7 t_2_8 t_2_9 t_2_10 t_2_11 t_2_12 t_1_14 p1 _ r_3 (t_3_0, t_3_1, t_3_2, t_3_3, t_3_4, t_3_5, t_3_6, t_3_7, t_3_8, t_3_9, t_3_10, t_3_11, t_3_12, t_3_13, t_3_14) hc_3) (cwV 1 hts gX3_take_X3_smallestPiece rfl rfl rfl (by decide +kernel) ⟨Nat.le_of_ble_eq_true rfl, Nat.le_of_ble_eq_true rfl⟩) (zz_pv hK hPc hDc hN (va_recv hK hPc (ci := 2) (q0 := 0) rfl rfl)) rfl rfl hl.1 rfl (lv_room (Nat.le_of_ble_eq_true rfl)) dX3_take_13 ⟨Nat.zero_le _, Nat.zero_le _⟩) hS (fun q _ h => hFc q h) hFc (fun r u t H1 locs ht hvm hw hB hz1 hk1 hS => ?_)
  obtain ⟨rfl, rfl⟩ := hw
  obtain ⟨hP1, hK1, hD1⟩ := hB
  rw [ht] at hP1
  obtain ⟨hP, hD⟩ := va_join (wr := []) (w1 := [(q0, .inr (2, [.ref q1, .ref q10, .int t_3_0])), (q1, .inr (6, [.ref q2, .ref q3, .ref q4, .ref q5, .ref q6, .ref q7, .int t_3_1, .int t_3_2, .int t_3_3, .int t_3_4])), (q2, .inl (cI, n0, .inl t_3_5)), (q3, .inl (cI, n1, .inl t_3_6)), (q4, .inl (cI, n2, .inl t_3_7)), (q5, .inl (cI, n3, .inl t_3_8)), (q6, .inl (cI, n4, .inl t_3_9)), (q7, .inr (9, [.ref q8, .ref q9, .int t_3_10, .int t_3_11])), (q8, .inl (cI, n5, .inl t_3_12)), (q9, .inl (cI, n6, .inl t_3_13)), (q10, .inl (cI, n7, .inl t_3_14))]) hP hD [0, 2, 3, 4, 5, 6, 7, 8, 9, 10, 1] [] rfl rfl (by decide) (by decide) hk1 hFc hP1 hD1
  have hP : va_P (dC, dI) vwCl [(q0, .inr (2, [.ref q1, .ref q10, .int t_3_0])), (q1, .inr (6, [.ref q2, .ref q3, .ref q4, .ref q5, .ref q6, .ref q7, .int t_3_1, .int t_3_2, .int t_3_3, .int t_3_4])), (q2, .inl (cI, n0, .inl t_3_5)), (q3, .inl (cI, n1, .inl t_3_6)), (q4, .inl (cI, n2, .inl t_3_7)), (q5, .inl (cI, n3, .inl t_3_8)), (q6, .inl (cI, n4, .inl t_3_9)), (q7, .inr (9, [.ref q8, .ref q9, .int t_3_10, .int t_3_11])), (q8, .inl (cI, n5, .inl t_3_12)), (q9, .inl (cI, n6, .inl t_3_13)), (q10, .inl (cI, n7, .inl t_3_14))] _ := hP
  have hD : va_D A [(q0, .inr (2, [.ref q1, .ref q10, .int t_3_0])), (q1, .inr (6, [.ref q2, .ref q3, .ref q4, .ref q5, .ref q6, .ref q7, .int t_3_1, .int t_3_2, .int t_3_3, .int t_3_4])), (q2, .inl (cI, n0, .inl t_3_5)), (q3, .inl (cI, n1, .inl t_3_6)), (q4, .inl (cI, n2, .inl t_3_7)), (q5, .inl (cI, n3, .inl t_3_8)), (q6, .inl (cI, n4, .inl t_3_9)), (q7, .inr (9, [.ref q8, .ref q9, .int t_3_10, .int t_3_11])), (q8, .inl (cI, n5, .inl t_3_12)), (q9, .inl (cI, n6, .inl t_3_13)), (q10, .inl (cI, n7, .inl t_3_14))] := hD
  refine lv_istore_n (lv' := [(2, .int r_3), (0, .ref q0), (1, .int p1)]) hx hb dX3_take_16 rfl hl (by decide) rfl (fun ls hl => ?_)
  refine lv_iload_n hx hb dX3_take_17 rfl (lv_at hl 0 rfl) ?_
  refine lv_iconst (v := (-1)) hx hb dX3_take_18 (by decide) ?_
  refine lv_icmp_ne (tgt := 24) hx hb dX3_take_19 (by decide) (fun c_4 => ?_) (fun c_4 => ?_)
  · replace hm := zz_f c_4 hm
    refine lv_aload_n hx hb dX3_take_24 rfl (lv_at hl 1 rfl) ?_
    refine va_get (D := (dC, dI)) (ci := 2) (v := .ref q10) (C := RX3) (T := TX3) (N := 3) hx hb hts inX3 hown hK hP 0 rfl rfl 1 (by decide) f9 (fun _ h9 => h9) rfl dX3_take_25 ?_
    refine lv_iload_n hx hb dX3_take_28 rfl (lv_at hl 0 rfl) ?_
    obtain ⟨hi_5, hm⟩ := zz_chk hm
    refine va_iald hx hb hK hP 10 0 rfl rfl (i := r_3) hi_5 dX3_take_29 ?_
    refine lv_iconst (v := 2) hx hb dX3_take_30 (by decide) ?_
    refine lv_idiv hx hb dX3_take_31 (by decide) ?_
    refine lv_istore_n (lv' := [(3, .int ((t_3_14 r_3.toNatClampNeg) / ((2 : Int32)))), (2, .int r_3), (0, .ref q0), (1, .int p1)]) hx hb dX3_take_32 rfl hl (by decide) rfl (fun ls hl => ?_)
    exact w_X3_take_L33 dC dI cI cJ cZ K q0 q1 q2 q3 q4 q5 q6 q7 q8 q9 q10 n0 n1 n2 n3 n4 n5 n6 n7 A rv uv hS0 hr hlocks hA hK hN K p1 r_3 ((t_3_14 r_3.toNatClampNeg) / ((2 : Int32))) t_3_0 t_3_1 t_3_2 t_3_3 t_3_4 t_3_5 t_3_6 t_3_7 t_3_8 t_3_9 t_3_10 t_3_11 t_3_12 t_3_13 t_3_14 _ _ _ hm hP hD hS (lv_sub hl [2, 3, 1, 0] rfl)
  · replace hm := zz_t c_4 hm
    refine lv_iconst (v := (-1)) hx hb dX3_take_22 (by decide) ?_
    have hm := Option.some.inj hm
    exact W.iret (v := (-1 : Int32)) hx hb hr (fun t ht hW => ⟨⟨(-1 : Int32), (t_3_0, t_3_1, t_3_2, t_3_3, t_3_4, t_3_5, t_3_6, t_3_7, t_3_8, t_3_9, t_3_10, t_3_11, t_3_12, t_3_13, t_3_14), rfl, ⟨(congrArg (·.1) hm).symm, (congrArg (·.2) hm).symm⟩, by rw [ht]; exact hP, va_K.moved hW.alike hK, hD⟩, hS.F ht⟩) hS.2.2 dX3_take_23
abbrev rm_X3_takeBack : Room := { frames := 1, cells := 0, slots := 0, locals := 21 }
theorem in_X3_takeBack_X3 : ∀ w ∈ wsX30, w ∈ wsX3_takeBack := by decide +kernel
def m_X3_takeBack_L18 (K : Nat) (n0 : Nat) (n1 : Nat) (n2 : Nat) (n3 : Nat) (n4 : Nat) (n5 : Nat) (n6 : Nat) (n7 : Nat) : Nat → Int32 → Int32 → Int32 → Int32 → Int32 → Int32 → Int32 → Int32 → Int32 → (Nat → Int32) → (Nat → Int32) → (Nat → Int32) → (Nat → Int32) → (Nat → Int32) → Int32 → Int32 → (Nat → Int32) → (Nat → Int32) → (Nat → Int32) → Option (Int32 × Int32 × Int32 × Int32 × Int32 × (Nat → Int32) × (Nat → Int32) × (Nat → Int32) × (Nat → Int32) × (Nat → Int32) × Int32 × Int32 × (Nat → Int32) × (Nat → Int32) × (Nat → Int32))
  | 0, _, _, _, _, _, _, _, _, _, _, _, _, _, _, _, _, _, _, _ => none
  | k + 1, x1, x2, x3, x4, s0, s1, s2, s3, s4, s5, s6, s7, s8, s9, s10, s11, s12, s13, s14 =>
    if x4 ≤ 0 then (if ¬ (x3 < 0 ∨ n7 ≤ x3.toNatClampNeg) then some ((s0, s1, s2, s3, s4, s5, s6, s7, s8, s9, s10, s11, s12, s13, upd s14 x3.toNatClampNeg x4)) else none)
    else (if s0 ≤ x4 then (if ¬ (x3 < 0 ∨ n7 ≤ x3.toNatClampNeg) then some ((s0, s1, s2, s3, s4, s5, s6, s7, s8, s9, s10, s11, s12, s13, upd s14 x3.toNatClampNeg x4)) else none)
    else (if s0 ≤ (x3 ^^^ x4) then (if ¬ (x3 < 0 ∨ n7 ≤ x3.toNatClampNeg) then some ((s0, s1, s2, s3, s4, s5, s6, s7, s8, s9, s10, s11, s12, s13, upd s14 x3.toNatClampNeg x4)) else none)
    else (if ¬ ((x3 ^^^ x4) < 0 ∨ n7 ≤ (x3 ^^^ x4).toNatClampNeg) then (if (s14 (x3 ^^^ x4).toNatClampNeg) = x4 then (if ¬ ((x3 ^^^ x4) < 0 ∨ n7 ≤ (x3 ^^^ x4).toNatClampNeg) then m_X3_takeBack_L18 K n0 n1 n2 n3 n4 n5 n6 n7 k x1 x2 (zz_min x3 (x3 ^^^ x4)) (x4 + x4) s0 s1 s2 s3 s4 s5 s6 s7 s8 s9 s10 s11 s12 s13 (upd s14 (x3 ^^^ x4).toNatClampNeg ((0 : Int32))) else none)
    else (if ¬ (x3 < 0 ∨ n7 ≤ x3.toNatClampNeg) then some ((s0, s1, s2, s3, s4, s5, s6, s7, s8, s9, s10, s11, s12, s13, upd s14 x3.toNatClampNeg x4)) else none)) else none)))
theorem m_X3_takeBack_L18_s (K : Nat) (n0 : Nat) (n1 : Nat) (n2 : Nat) (n3 : Nat) (n4 : Nat) (n5 : Nat) (n6 : Nat) (n7 : Nat) (k : Nat) (x1 : Int32) (x2 : Int32) (x3 : Int32) (x4 : Int32) (s0 : Int32) (s1 : Int32) (s2 : Int32) (s3 : Int32) (s4 : Int32) (s5 : Nat → Int32) (s6 : Nat → Int32) (s7 : Nat → Int32) (s8 : Nat → Int32) (s9 : Nat → Int32) (s10 : Int32) (s11 : Int32) (s12 : Nat → Int32) (s13 : Nat → Int32) (s14 : Nat → Int32) : m_X3_takeBack_L18 K n0 n1 n2 n3 n4 n5 n6 n7 (k + 1) x1 x2 x3 x4 s0 s1 s2 s3 s4 s5 s6 s7 s8 s9 s10 s11 s12 s13 s14 =
    (if x4 ≤ 0 then (if ¬ (x3 < 0 ∨ n7 ≤ x3.toNatClampNeg) then some ((s0, s1, s2, s3, s4, s5, s6, s7, s8, s9, s10, s11, s12, s13, upd s14 x3.toNatClampNeg x4)) else none)
    else (if s0 ≤ x4 then (if ¬ (x3 < 0 ∨ n7 ≤ x3.toNatClampNeg) then some ((s0, s1, s2, s3, s4, s5, s6, s7, s8, s9, s10, s11, s12, s13, upd s14 x3.toNatClampNeg x4)) else none)
    else (if s0 ≤ (x3 ^^^ x4) then (if ¬ (x3 < 0 ∨ n7 ≤ x3.toNatClampNeg) then some ((s0, s1, s2, s3, s4, s5, s6, s7, s8, s9, s10, s11, s12, s13, upd s14 x3.toNatClampNeg x4)) else none)
    else (if ¬ ((x3 ^^^ x4) < 0 ∨ n7 ≤ (x3 ^^^ x4).toNatClampNeg) then (if (s14 (x3 ^^^ x4).toNatClampNeg) = x4 then (if ¬ ((x3 ^^^ x4) < 0 ∨ n7 ≤ (x3 ^^^ x4).toNatClampNeg) then m_X3_takeBack_L18 K n0 n1 n2 n3 n4 n5 n6 n7 k x1 x2 (zz_min x3 (x3 ^^^ x4)) (x4 + x4) s0 s1 s2 s3 s4 s5 s6 s7 s8 s9 s10 s11 s12 s13 (upd s14 (x3 ^^^ x4).toNatClampNeg ((0 : Int32))) else none)
    else (if ¬ (x3 < 0 ∨ n7 ≤ x3.toNatClampNeg) then some ((s0, s1, s2, s3, s4, s5, s6, s7, s8, s9, s10, s11, s12, s13, upd s14 x3.toNatClampNeg x4)) else none)) else none)))) := rfl
set_option maxHeartbeats 4000000 in
set_option maxRecDepth 100000 in
theorem w_X3_takeBack_L18 {p : Program} {l : Launch} {e : Env} {s : State} {m : MethodId} {args : Array Value} {below : List Frame} {meth : Method} {c : Code} (dC : Nat → ClassId) (dI : Nat → Nat → Nat) (cI cJ cZ : ClassId) (K : Nat) (q0 q1 q2 q3 q4 q5 q6 q7 q8 q9 q10 : Nat) (n0 : Nat) (n1 : Nat) (n2 : Nat) (n3 : Nat) (n4 : Nat) (n5 : Nat) (n6 : Nat) (n7 : Nat) (A : Nat → Prop) (uv : Int32 × Int32 × Int32 × Int32 × Int32 × (Nat → Int32) × (Nat → Int32) × (Nat → Int32) × (Nat → Int32) × (Nat → Int32) × Int32 × Int32 × (Nat → Int32) × (Nat → Int32) × (Nat → Int32)) (hS0 : CallFix p m c cX3_takeBack 6 s args wsX3_takeBack RX3) (hr : meth.sig.returnType = none) (hlocks : meth.locks = false) (hA : ∀ q : Nat, s.heap.size ≤ q → A q) (hK : va_K (dC, dI) vwCl [(cI, .int), (cJ, .long), (cZ, .boolean)] s) (hN : zz_nw s) : ∀ (k : Nat) (x1 : Int32) (x2 : Int32) (x3 : Int32) (x4 : Int32) (s0 : Int32) (s1 : Int32) (s2 : Int32) (s3 : Int32) (s4 : Int32) (s5 : Nat → Int32) (s6 : Nat → Int32) (s7 : Nat → Int32) (s8 : Nat → Int32) (s9 : Nat → Int32) (s10 : Int32) (s11 : Int32) (s12 : Nat → Int32) (s13 : Nat → Int32) (s14 : Nat → Int32) (H : Heap) (locs : List Loc) (ls : Array Slot), m_X3_takeBack_L18 K n0 n1 n2 n3 n4 n5 n6 n7 k x1 x2 x3 x4 s0 s1 s2 s3 s4 s5 s6 s7 s8 s9 s10 s11 s12 s13 s14 = some uv → va_P (dC, dI) vwCl [(q0, .inr (2, [.ref q1, .ref q10, .int s0])), (q1, .inr (6, [.ref q2, .ref q3, .ref q4, .ref q5, .ref q6, .ref q7, .int s1, .int s2, .int s3, .int s4])), (q2, .inl (cI, n0, .inl s5)), (q3, .inl (cI, n1, .inl s6)), (q4, .inl (cI, n2, .inl s7)), (q5, .inl (cI, n3, .inl s8)), (q6, .inl (cI, n4, .inl s9)), (q7, .inr (9, [.ref q8, .ref q9, .int s10, .int s11])), (q8, .inl (cI, n5, .inl s12)), (q9, .inl (cI, n6, .inl s13)), (q10, .inl (cI, n7, .inl s14))] H → va_D A [(q0, .inr (2, [.ref q1, .ref q10, .int s0])), (q1, .inr (6, [.ref q2, .ref q3, .ref q4, .ref q5, .ref q6, .ref q7, .int s1, .int s2, .int s3, .int s4])), (q2, .inl (cI, n0, .inl s5)), (q3, .inl (cI, n1, .inl s6)), (q4, .inl (cI, n2, .inl s7)), (q5, .inl (cI, n3, .inl s8)), (q6, .inl (cI, n4, .inl s9)), (q7, .inr (9, [.ref q8, .ref q9, .int s10, .int s11])), (q8, .inl (cI, n5, .inl s12)), (q9, .inl (cI, n6, .inl s13)), (q10, .inl (cI, n7, .inl s14))] → va_S A s.heap H locs → lv_has ls 6 [(0, .ref q0), (1, .int x1), (2, .int x2), (3, .int x3), (4, .int x4)] → W p l e rm_X3_takeBack s m args below meth c H locs 0 0 (MQ below (va_Qv (fun u => uv = u) (fun u t => zz_wo dC dI [(cI, .int), (cJ, .long), (cZ, .boolean)] A (ce_X3 cI cJ cZ q0 q1 q2 q3 q4 q5 q6 q7 q8 q9 q10 n0 n1 n2 n3 n4 n5 n6 n7 u) t) A) args s 0 0 A) (F0 m 18 ls []) := by
  obtain ⟨hx, hb, hml, hown, hts⟩ := id hS0
  have inX3 := in_X3_takeBack_X3
  have f9 := hts (.fieldLink RX3 9 "RoomForms$Halves" "pieces" "[I") (by decide +kernel)
  have f15 := hts (.fieldLink RX3 15 "RoomForms$Halves" "whole" "I") (by decide +kernel)
  intro k
  induction k with
  | zero =>
    intro _ _ _ _ _ _ _ _ _ _ _ _ _ _ _ _ _ _ _ _ _ _ hm
    have hm9 : (none : Option (Int32 × Int32 × Int32 × Int32 × Int32 × (Nat → Int32) × (Nat → Int32) × (Nat → Int32) × (Nat → Int32) × (Nat → Int32) × Int32 × Int32 × (Nat → Int32) × (Nat → Int32) × (Nat → Int32))) = some _ := hm
    cases hm9
  | succ k ih =>
    intro x1 x2 x3 x4 s0 s1 s2 s3 s4 s5 s6 s7 s8 s9 s10 s11 s12 s13 s14 H locs ls hm hP hD hS hl
    rw [m_X3_takeBack_L18_s] at hm
    refine lv_iload hx hb dX3_takeBack_18 (lv_at hl 4 rfl) ?_
    refine lv_if_le (tgt := 87) hx hb dX3_takeBack_20 (by decide) (fun c_3 => ?_) (fun c_3 => ?_)
    · replace hm := zz_t c_3 hm
      refine lv_aload_n hx hb dX3_takeBack_87 rfl (lv_at hl 0 rfl) ?_
      refine va_get (D := (dC, dI)) (ci := 2) (v := .ref q10) (C := RX3) (T := TX3) (N := 3) hx hb hts inX3 hown hK hP 0 rfl rfl 1 (by decide) f9 (fun _ h9 => h9) rfl dX3_takeBack_88 ?_
      refine lv_iload_n hx hb dX3_takeBack_91 rfl (lv_at hl 3 rfl) ?_
      refine lv_iload hx hb dX3_takeBack_92 (lv_at hl 4 rfl) ?_
      obtain ⟨hi_4, hm⟩ := zz_chk hm
      refine va_iast hx hb hK hP hD hS 10 0 rfl rfl (i := x3) hi_4 dX3_takeBack_94 (fun H locs hP hD hS => ?_)
      have hP : va_P (dC, dI) vwCl [(q0, .inr (2, [.ref q1, .ref q10, .int s0])), (q1, .inr (6, [.ref q2, .ref q3, .ref q4, .ref q5, .ref q6, .ref q7, .int s1, .int s2, .int s3, .int s4])), (q2, .inl (cI, n0, .inl s5)), (q3, .inl (cI, n1, .inl s6)), (q4, .inl (cI, n2, .inl s7)), (q5, .inl (cI, n3, .inl s8)), (q6, .inl (cI, n4, .inl s9)), (q7, .inr (9, [.ref q8, .ref q9, .int s10, .int s11])), (q8, .inl (cI, n5, .inl s12)), (q9, .inl (cI, n6, .inl s13)), (q10, .inl (cI, n7, .inl (upd s14 x3.toNatClampNeg x4)))] _ := hP
      have hD : va_D A [(q0, .inr (2, [.ref q1, .ref q10, .int s0])), (q1, .inr (6, [.ref q2, .ref q3, .ref q4, .ref q5, .ref q6, .ref q7, .int s1, .int s2, .int s3, .int s4])), (q2, .inl (cI, n0, .inl s5)), (q3, .inl (cI, n1, .inl s6)), (q4, .inl (cI, n2, .inl s7)), (q5, .inl (cI, n3, .inl s8)), (q6, .inl (cI, n4, .inl s9)), (q7, .inr (9, [.ref q8, .ref q9, .int s10, .int s11])), (q8, .inl (cI, n5, .inl s12)), (q9, .inl (cI, n6, .inl s13)), (q10, .inl (cI, n7, .inl (upd s14 x3.toNatClampNeg x4)))] := hD
      have hm := Option.some.inj hm
      exact W.vret hx hb hr (fun t ht hW => ⟨⟨(s0, s1, s2, s3, s4, s5, s6, s7, s8, s9, s10, s11, s12, s13, upd s14 x3.toNatClampNeg x4), rfl, hm.symm, by rw [ht]; exact hP, va_K.moved hW.alike hK, hD⟩, hS.F ht⟩) hS.2.2 dX3_takeBack_95
    · replace hm := zz_f c_3 hm
      refine lv_iload hx hb dX3_takeBack_23 (lv_at hl 4 rfl) ?_
      refine lv_aload_n hx hb dX3_takeBack_25 rfl (lv_at hl 0 rfl) ?_
      refine va_get (D := (dC, dI)) (ci := 2) (v := .int s0) (C := RX3) (T := TX3) (N := 3) hx hb hts inX3 hown hK hP 0 rfl rfl 2 (by decide) f15 (fun _ h9 => h9) rfl dX3_takeBack_26 ?_
      refine lv_icmp_ge (tgt := 87) hx hb dX3_takeBack_29 (by decide) (fun c_5 => ?_) (fun c_5 => ?_)
      · replace hm := zz_t c_5 hm
        refine lv_aload_n hx hb dX3_takeBack_87 rfl (lv_at hl 0 rfl) ?_
        refine va_get (D := (dC, dI)) (ci := 2) (v := .ref q10) (C := RX3) (T := TX3) (N := 3) hx hb hts inX3 hown hK hP 0 rfl rfl 1 (by decide) f9 (fun _ h9 => h9) rfl dX3_takeBack_88 ?_
        refine lv_iload_n hx hb dX3_takeBack_91 rfl (lv_at hl 3 rfl) ?_
        refine lv_iload hx hb dX3_takeBack_92 (lv_at hl 4 rfl) ?_
        obtain ⟨hi_6, hm⟩ := zz_chk hm
        refine va_iast hx hb hK hP hD hS 10 0 rfl rfl (i := x3) hi_6 dX3_takeBack_94 (fun H locs hP hD hS => ?_)
        have hP : va_P (dC, dI) vwCl [(q0, .inr (2, [.ref q1, .ref q10, .int s0])), (q1, .inr (6, [.ref q2, .ref q3, .ref q4, .ref q5, .ref q6, .ref q7, .int s1, .int s2, .int s3, .int s4])), (q2, .inl (cI, n0, .inl s5)), (q3, .inl (cI, n1, .inl s6)), (q4, .inl (cI, n2, .inl s7)), (q5, .inl (cI, n3, .inl s8)), (q6, .inl (cI, n4, .inl s9)), (q7, .inr (9, [.ref q8, .ref q9, .int s10, .int s11])), (q8, .inl (cI, n5, .inl s12)), (q9, .inl (cI, n6, .inl s13)), (q10, .inl (cI, n7, .inl (upd s14 x3.toNatClampNeg x4)))] _ := hP
        have hD : va_D A [(q0, .inr (2, [.ref q1, .ref q10, .int s0])), (q1, .inr (6, [.ref q2, .ref q3, .ref q4, .ref q5, .ref q6, .ref q7, .int s1, .int s2, .int s3, .int s4])), (q2, .inl (cI, n0, .inl s5)), (q3, .inl (cI, n1, .inl s6)), (q4, .inl (cI, n2, .inl s7)), (q5, .inl (cI, n3, .inl s8)), (q6, .inl (cI, n4, .inl s9)), (q7, .inr (9, [.ref q8, .ref q9, .int s10, .int s11])), (q8, .inl (cI, n5, .inl s12)), (q9, .inl (cI, n6, .inl s13)), (q10, .inl (cI, n7, .inl (upd s14 x3.toNatClampNeg x4)))] := hD
        have hm := Option.some.inj hm
        exact W.vret hx hb hr (fun t ht hW => ⟨⟨(s0, s1, s2, s3, s4, s5, s6, s7, s8, s9, s10, s11, s12, s13, upd s14 x3.toNatClampNeg x4), rfl, hm.symm, by rw [ht]; exact hP, va_K.moved hW.alike hK, hD⟩, hS.F ht⟩) hS.2.2 dX3_takeBack_95
      · replace hm := zz_f c_5 hm
        refine lv_iload_n hx hb dX3_takeBack_32 rfl (lv_at hl 3 rfl) ?_
        refine lv_iload hx hb dX3_takeBack_33 (lv_at hl 4 rfl) ?_
        refine lv_ixor hx hb dX3_takeBack_35 ?_
        refine lv_istore (lv' := [(5, .int (x3 ^^^ x4)), (0, .ref q0), (1, .int x1), (2, .int x2), (3, .int x3), (4, .int x4)]) hx hb dX3_takeBack_36 hl (by decide) rfl (fun ls hl => ?_)
        refine lv_iload hx hb dX3_takeBack_38 (lv_at hl 0 rfl) ?_
        refine lv_aload_n hx hb dX3_takeBack_40 rfl (lv_at hl 1 rfl) ?_
        refine va_get (D := (dC, dI)) (ci := 2) (v := .int s0) (C := RX3) (T := TX3) (N := 3) hx hb hts inX3 hown hK hP 0 rfl rfl 2 (by decide) f15 (fun _ h9 => h9) rfl dX3_takeBack_41 ?_
        refine lv_icmp_ge (tgt := 87) hx hb dX3_takeBack_44 (by decide) (fun c_7 => ?_) (fun c_7 => ?_)
        · replace hm := zz_t c_7 hm
          refine lv_aload_n hx hb dX3_takeBack_87 rfl (lv_at hl 1 rfl) ?_
          refine va_get (D := (dC, dI)) (ci := 2) (v := .ref q10) (C := RX3) (T := TX3) (N := 3) hx hb hts inX3 hown hK hP 0 rfl rfl 1 (by decide) f9 (fun _ h9 => h9) rfl dX3_takeBack_88 ?_
          refine lv_iload_n hx hb dX3_takeBack_91 rfl (lv_at hl 4 rfl) ?_
          refine lv_iload hx hb dX3_takeBack_92 (lv_at hl 5 rfl) ?_
          obtain ⟨hi_8, hm⟩ := zz_chk hm
          refine va_iast hx hb hK hP hD hS 10 0 rfl rfl (i := x3) hi_8 dX3_takeBack_94 (fun H locs hP hD hS => ?_)
          have hP : va_P (dC, dI) vwCl [(q0, .inr (2, [.ref q1, .ref q10, .int s0])), (q1, .inr (6, [.ref q2, .ref q3, .ref q4, .ref q5, .ref q6, .ref q7, .int s1, .int s2, .int s3, .int s4])), (q2, .inl (cI, n0, .inl s5)), (q3, .inl (cI, n1, .inl s6)), (q4, .inl (cI, n2, .inl s7)), (q5, .inl (cI, n3, .inl s8)), (q6, .inl (cI, n4, .inl s9)), (q7, .inr (9, [.ref q8, .ref q9, .int s10, .int s11])), (q8, .inl (cI, n5, .inl s12)), (q9, .inl (cI, n6, .inl s13)), (q10, .inl (cI, n7, .inl (upd s14 x3.toNatClampNeg x4)))] _ := hP
          have hD : va_D A [(q0, .inr (2, [.ref q1, .ref q10, .int s0])), (q1, .inr (6, [.ref q2, .ref q3, .ref q4, .ref q5, .ref q6, .ref q7, .int s1, .int s2, .int s3, .int s4])), (q2, .inl (cI, n0, .inl s5)), (q3, .inl (cI, n1, .inl s6)), (q4, .inl (cI, n2, .inl s7)), (q5, .inl (cI, n3, .inl s8)), (q6, .inl (cI, n4, .inl s9)), (q7, .inr (9, [.ref q8, .ref q9, .int s10, .int s11])), (q8, .inl (cI, n5, .inl s12)), (q9, .inl (cI, n6, .inl s13)), (q10, .inl (cI, n7, .inl (upd s14 x3.toNatClampNeg x4)))] := hD
          have hm := Option.some.inj hm
          exact W.vret hx hb hr (fun t ht hW => ⟨⟨(s0, s1, s2, s3, s4, s5, s6, s7, s8, s9, s10, s11, s12, s13, upd s14 x3.toNatClampNeg x4), rfl, hm.symm, by rw [ht]; exact hP, va_K.moved hW.alike hK, hD⟩, hS.F ht⟩) hS.2.2 dX3_takeBack_95
        · replace hm := zz_f c_7 hm
          refine lv_aload_n hx hb dX3_takeBack_47 rfl (lv_at hl 1 rfl) ?_
          refine va_get (D := (dC, dI)) (ci := 2) (v := .ref q10) (C := RX3) (T := TX3) (N := 3) hx hb hts inX3 hown hK hP 0 rfl rfl 1 (by decide) f9 (fun _ h9 => h9) rfl dX3_takeBack_48 ?_
          refine lv_iload hx hb dX3_takeBack_51 (lv_at hl 0 rfl) ?_
          obtain ⟨hi_9, hm⟩ := zz_chk hm
          refine va_iald hx hb hK hP 10 0 rfl rfl (i := x3 ^^^ x4) hi_9 dX3_takeBack_53 ?_
          refine lv_iload hx hb dX3_takeBack_54 (lv_at hl 5 rfl) ?_
          refine lv_icmp_eq (tgt := 62) hx hb dX3_takeBack_56 (by decide) (fun c_10 => ?_) (fun c_10 => ?_)
          · replace hm := zz_t c_10 hm
            refine lv_aload_n hx hb dX3_takeBack_62 rfl (lv_at hl 1 rfl) ?_
            refine va_get (D := (dC, dI)) (ci := 2) (v := .ref q10) (C := RX3) (T := TX3) (N := 3) hx hb hts inX3 hown hK hP 0 rfl rfl 1 (by decide) f9 (fun _ h9 => h9) rfl dX3_takeBack_63 ?_
            refine lv_iload hx hb dX3_takeBack_66 (lv_at hl 0 rfl) ?_
            refine lv_iconst (v := 0) hx hb dX3_takeBack_68 (by decide) ?_
            obtain ⟨hi_11, hm⟩ := zz_chk hm
            refine va_iast hx hb hK hP hD hS 10 0 rfl rfl (i := x3 ^^^ x4) hi_11 dX3_takeBack_69 (fun H locs hP hD hS => ?_)
            have hP : va_P (dC, dI) vwCl [(q0, .inr (2, [.ref q1, .ref q10, .int s0])), (q1, .inr (6, [.ref q2, .ref q3, .ref q4, .ref q5, .ref q6, .ref q7, .int s1, .int s2, .int s3, .int s4])), (q2, .inl (cI, n0, .inl s5)), (q3, .inl (cI, n1, .inl s6)), (q4, .inl (cI, n2, .inl s7)), (q5, .inl (cI, n3, .inl s8)), (q6, .inl (cI, n4, .inl s9)), (q7, .inr (9, [.ref q8, .ref q9, .int s10, .int s11])), (q8, .inl (cI, n5, .inl s12)), (q9, .inl (cI, n6, .inl s13)), (q10, .inl (cI, n7, .inl (upd s14 (x3 ^^^ x4).toNatClampNeg ((0 : Int32)))))] _ := hP
            have hD : va_D A [(q0, .inr (2, [.ref q1, .ref q10, .int s0])), (q1, .inr (6, [.ref q2, .ref q3, .ref q4, .ref q5, .ref q6, .ref q7, .int s1, .int s2, .int s3, .int s4])), (q2, .inl (cI, n0, .inl s5)), (q3, .inl (cI, n1, .inl s6)), (q4, .inl (cI, n2, .inl s7)), (q5, .inl (cI, n3, .inl s8)), (q6, .inl (cI, n4, .inl s9)), (q7, .inr (9, [.ref q8, .ref q9, .int s10, .int s11])), (q8, .inl (cI, n5, .inl s12)), (q9, .inl (cI, n6, .inl s13)), (q10, .inl (cI, n7, .inl (upd s14 (x3 ^^^ x4).toNatClampNeg ((0 : Int32)))))] := hD
            refine lv_iload_n hx hb dX3_takeBack_70 rfl (lv_at hl 4 rfl) ?_
            refine lv_iload hx hb dX3_takeBack_71 (lv_at hl 0 rfl) ?_
            refine va_mmin hx hb (by rw [hml]; exact hl.1.symm) hown (hts (.methodLink RX3 49 Lib.Math.min.name) (by decide +kernel)) (hts (.static Lib.Math.min.name) (by decide +kernel)) (hts (.initialized "java/lang/Math") (by decide +kernel)) (hts (.code Lib.Math.min.name Lib.Math.min.code 2 (some .int)) (by decide +kernel)) (Nat.le_of_ble_eq_true rfl) (Nat.le_of_ble_eq_true rfl) (Nat.zero_le _) (Nat.zero_le _) dX3_takeBack_73 ?_
            change W _ _ _ _ _ _ _ _ _ _ _ _ _ _ _ (F0 m 76 _ (.int (zz_min x3 (x3 ^^^ x4)) :: []))
            refine lv_istore_n (lv' := [(3, .int (zz_min x3 (x3 ^^^ x4))), (5, .int (x3 ^^^ x4)), (0, .ref q0), (1, .int x1), (2, .int x2), (4, .int x4)]) hx hb dX3_takeBack_76 rfl hl (by decide) rfl (fun ls hl => ?_)
            refine lv_iload hx hb dX3_takeBack_77 (lv_at hl 5 rfl) ?_
            refine lv_iload hx hb dX3_takeBack_79 (lv_at hl 5 rfl) ?_
            refine lv_iadd hx hb dX3_takeBack_81 ?_
            refine lv_istore (lv' := [(4, .int (x4 + x4)), (3, .int (zz_min x3 (x3 ^^^ x4))), (5, .int (x3 ^^^ x4)), (0, .ref q0), (1, .int x1), (2, .int x2)]) hx hb dX3_takeBack_82 hl (by decide) rfl (fun ls hl => ?_)
            refine lv_goto (tgt := 18) hx hb dX3_takeBack_84 (by decide) ?_
            exact ih x1 x2 (zz_min x3 (x3 ^^^ x4)) (x4 + x4) s0 s1 s2 s3 s4 s5 s6 s7 s8 s9 s10 s11 s12 s13 (upd s14 (x3 ^^^ x4).toNatClampNeg ((0 : Int32))) _ _ _ hm hP hD hS (lv_sub hl [3, 4, 5, 1, 0] rfl)
          · replace hm := zz_f c_10 hm
            refine lv_goto (tgt := 87) hx hb dX3_takeBack_59 (by decide) ?_
            refine lv_aload_n hx hb dX3_takeBack_87 rfl (lv_at hl 1 rfl) ?_
            refine va_get (D := (dC, dI)) (ci := 2) (v := .ref q10) (C := RX3) (T := TX3) (N := 3) hx hb hts inX3 hown hK hP 0 rfl rfl 1 (by decide) f9 (fun _ h9 => h9) rfl dX3_takeBack_88 ?_
            refine lv_iload_n hx hb dX3_takeBack_91 rfl (lv_at hl 4 rfl) ?_
            refine lv_iload hx hb dX3_takeBack_92 (lv_at hl 5 rfl) ?_
            obtain ⟨hi_12, hm⟩ := zz_chk hm
            refine va_iast hx hb hK hP hD hS 10 0 rfl rfl (i := x3) hi_12 dX3_takeBack_94 (fun H locs hP hD hS => ?_)
            have hP : va_P (dC, dI) vwCl [(q0, .inr (2, [.ref q1, .ref q10, .int s0])), (q1, .inr (6, [.ref q2, .ref q3, .ref q4, .ref q5, .ref q6, .ref q7, .int s1, .int s2, .int s3, .int s4])), (q2, .inl (cI, n0, .inl s5)), (q3, .inl (cI, n1, .inl s6)), (q4, .inl (cI, n2, .inl s7)), (q5, .inl (cI, n3, .inl s8)), (q6, .inl (cI, n4, .inl s9)), (q7, .inr (9, [.ref q8, .ref q9, .int s10, .int s11])), (q8, .inl (cI, n5, .inl s12)), (q9, .inl (cI, n6, .inl s13)), (q10, .inl (cI, n7, .inl (upd s14 x3.toNatClampNeg x4)))] _ := hP
            have hD : va_D A [(q0, .inr (2, [.ref q1, .ref q10, .int s0])), (q1, .inr (6, [.ref q2, .ref q3, .ref q4, .ref q5, .ref q6, .ref q7, .int s1, .int s2, .int s3, .int s4])), (q2, .inl (cI, n0, .inl s5)), (q3, .inl (cI, n1, .inl s6)), (q4, .inl (cI, n2, .inl s7)), (q5, .inl (cI, n3, .inl s8)), (q6, .inl (cI, n4, .inl s9)), (q7, .inr (9, [.ref q8, .ref q9, .int s10, .int s11])), (q8, .inl (cI, n5, .inl s12)), (q9, .inl (cI, n6, .inl s13)), (q10, .inl (cI, n7, .inl (upd s14 x3.toNatClampNeg x4)))] := hD
            have hm := Option.some.inj hm
            exact W.vret hx hb hr (fun t ht hW => ⟨⟨(s0, s1, s2, s3, s4, s5, s6, s7, s8, s9, s10, s11, s12, s13, upd s14 x3.toNatClampNeg x4), rfl, hm.symm, by rw [ht]; exact hP, va_K.moved hW.alike hK, hD⟩, hS.F ht⟩) hS.2.2 dX3_takeBack_95
def m_X3_takeBack (K : Nat) (n0 : Nat) (n1 : Nat) (n2 : Nat) (n3 : Nat) (n4 : Nat) (n5 : Nat) (n6 : Nat) (n7 : Nat) (p1 : Int32) (p2 : Int32) (s0 : Int32) (s1 : Int32) (s2 : Int32) (s3 : Int32) (s4 : Int32) (s5 : Nat → Int32) (s6 : Nat → Int32) (s7 : Nat → Int32) (s8 : Nat → Int32) (s9 : Nat → Int32) (s10 : Int32) (s11 : Int32) (s12 : Nat → Int32) (s13 : Nat → Int32) (s14 : Nat → Int32) : Option (Int32 × Int32 × Int32 × Int32 × Int32 × (Nat → Int32) × (Nat → Int32) × (Nat → Int32) × (Nat → Int32) × (Nat → Int32) × Int32 × Int32 × (Nat → Int32) × (Nat → Int32) × (Nat → Int32)) :=
  if p1 < 0 then some ((s0, s1, s2, s3, s4, s5, s6, s7, s8, s9, s10, s11, s12, s13, s14))
  else (if p1 < s0 then m_X3_takeBack_L18 K n0 n1 n2 n3 n4 n5 n6 n7 K p1 p2 p1 p2 s0 s1 s2 s3 s4 s5 s6 s7 s8 s9 s10 s11 s12 s13 s14
  else some ((s0, s1, s2, s3, s4, s5, s6, s7, s8, s9, s10, s11, s12, s13, s14)))
set_option maxHeartbeats 4000000 in
set_option maxRecDepth 100000 in
theorem c_X3_takeBack (l : Launch) (dC : Nat → ClassId) (dI : Nat → Nat → Nat) (cI cJ cZ : ClassId) (K : Nat) (q0 q1 q2 q3 q4 q5 q6 q7 q8 q9 q10 : Nat) (n0 : Nat) (n1 : Nat) (n2 : Nat) (n3 : Nat) (n4 : Nat) (n5 : Nat) (n6 : Nat) (n7 : Nat) (s0 : Int32) (s1 : Int32) (s2 : Int32) (s3 : Int32) (s4 : Int32) (s5 : Nat → Int32) (s6 : Nat → Int32) (s7 : Nat → Int32) (s8 : Nat → Int32) (s9 : Nat → Int32) (s10 : Int32) (s11 : Int32) (s12 : Nat → Int32) (s13 : Nat → Int32) (s14 : Nat → Int32) (p1 : Int32) (p2 : Int32) (sz : Nat) (uv : Int32 × Int32 × Int32 × Int32 × Int32 × (Nat → Int32) × (Nat → Int32) × (Nat → Int32) × (Nat → Int32) × (Nat → Int32) × Int32 × Int32 × (Nat → Int32) × (Nat → Int32) × (Nat → Int32)) (hm : m_X3_takeBack K n0 n1 n2 n3 n4 n5 n6 n7 p1 p2 s0 s1 s2 s3 s4 s5 s6 s7 s8 s9 s10 s11 s12 s13 s14 = some uv) : Met l yX3_takeBack wsX3_takeBack rm_X3_takeBack (zz_pre dC dI [(cI, .int), (cJ, .long), (cZ, .boolean)] [(q0, .inr (2, [.ref q1, .ref q10, .int s0])), (q1, .inr (6, [.ref q2, .ref q3, .ref q4, .ref q5, .ref q6, .ref q7, .int s1, .int s2, .int s3, .int s4])), (q2, .inl (cI, n0, .inl s5)), (q3, .inl (cI, n1, .inl s6)), (q4, .inl (cI, n2, .inl s7)), (q5, .inl (cI, n3, .inl s8)), (q6, .inl (cI, n4, .inl s9)), (q7, .inr (9, [.ref q8, .ref q9, .int s10, .int s11])), (q8, .inl (cI, n5, .inl s12)), (q9, .inl (cI, n6, .inl s13)), (q10, .inl (cI, n7, .inl s14))] sz [.ref q0, .int p1, .int p2]) (va_Qv (fun u => uv = u) (fun u t => zz_wo dC dI [(cI, .int), (cJ, .long), (cZ, .boolean)] (va_A [(q0, .inr (2, [.ref q1, .ref q10, .int s0])), (q1, .inr (6, [.ref q2, .ref q3, .ref q4, .ref q5, .ref q6, .ref q7, .int s1, .int s2, .int s3, .int s4])), (q2, .inl (cI, n0, .inl s5)), (q3, .inl (cI, n1, .inl s6)), (q4, .inl (cI, n2, .inl s7)), (q5, .inl (cI, n3, .inl s8)), (q6, .inl (cI, n4, .inl s9)), (q7, .inr (9, [.ref q8, .ref q9, .int s10, .int s11])), (q8, .inl (cI, n5, .inl s12)), (q9, .inl (cI, n6, .inl s13)), (q10, .inl (cI, n7, .inl s14))] sz) (ce_X3 cI cJ cZ q0 q1 q2 q3 q4 q5 q6 q7 q8 q9 q10 n0 n1 n2 n3 n4 n5 n6 n7 u) t) (va_A [(q0, .inr (2, [.ref q1, .ref q10, .int s0])), (q1, .inr (6, [.ref q2, .ref q3, .ref q4, .ref q5, .ref q6, .ref q7, .int s1, .int s2, .int s3, .int s4])), (q2, .inl (cI, n0, .inl s5)), (q3, .inl (cI, n1, .inl s6)), (q4, .inl (cI, n2, .inl s7)), (q5, .inl (cI, n3, .inl s8)), (q6, .inl (cI, n4, .inl s9)), (q7, .inr (9, [.ref q8, .ref q9, .int s10, .int s11])), (q8, .inl (cI, n5, .inl s12)), (q9, .inl (cI, n6, .inl s13)), (q10, .inl (cI, n7, .inl s14))] sz)) 0 0 (va_A [(q0, .inr (2, [.ref q1, .ref q10, .int s0])), (q1, .inr (6, [.ref q2, .ref q3, .ref q4, .ref q5, .ref q6, .ref q7, .int s1, .int s2, .int s3, .int s4])), (q2, .inl (cI, n0, .inl s5)), (q3, .inl (cI, n1, .inl s6)), (q4, .inl (cI, n2, .inl s7)), (q5, .inl (cI, n3, .inl s8)), (q6, .inl (cI, n4, .inl s9)), (q7, .inr (9, [.ref q8, .ref q9, .int s10, .int s11])), (q8, .inl (cI, n5, .inl s12)), (q9, .inl (cI, n6, .inl s13)), (q10, .inl (cI, n7, .inl s14))] sz) := by
  refine Met.ofW (cc := cX3_takeBack) (maxL := 6) (ret := none) (by decide) rfl ?_
  intro p e s m args below meth c s₁ B hml hv
  obtain ⟨rfl, hsz, hP, hK, hD0, hN⟩ := hv
  have hx := B.exec
  have hb := B.bytes
  have hr := B.returns
  have hts := atoms_spec (ws := wsX3_takeBack) B.pre
  have hown : s.vm.findClass RX3 = some m.cls := findClass_of_methodNamed B.named
  have hlocks := B.notSynchronized
  have hS0 : CallFix p m c cX3_takeBack 6 s #[.ref q0, .int p1, .int p2] wsX3_takeBack RX3 := ⟨hx, hb, hml, hown, hts⟩
  subst hsz
  have hD := hD0.self (sz := s.heap.size)
  generalize hAe : va_A [(q0, .inr (2, [.ref q1, .ref q10, .int s0])), (q1, .inr (6, [.ref q2, .ref q3, .ref q4, .ref q5, .ref q6, .ref q7, .int s1, .int s2, .int s3, .int s4])), (q2, .inl (cI, n0, .inl s5)), (q3, .inl (cI, n1, .inl s6)), (q4, .inl (cI, n2, .inl s7)), (q5, .inl (cI, n3, .inl s8)), (q6, .inl (cI, n4, .inl s9)), (q7, .inr (9, [.ref q8, .ref q9, .int s10, .int s11])), (q8, .inl (cI, n5, .inl s12)), (q9, .inl (cI, n6, .inl s13)), (q10, .inl (cI, n7, .inl s14))] s.heap.size = A at hD ⊢
  have hA : ∀ q : Nat, s.heap.size ≤ q → A q := fun q h => by rw [← hAe]; exact Or.inr h
  have hS : va_S A s.heap s.heap [] := va_S.rf
  have hl := lv_entry ([.ref q0, .int p1, .int p2]) (n := 6) (Nat.le_of_ble_eq_true rfl)
  rw [lg_entry_eq]
  generalize (lg_sl ([.ref q0, .int p1, .int p2]) ++ List.replicate (6 - (lg_sl ([.ref q0, .int p1, .int p2])).length) Slot.unset).toArray = ls at hl ⊢
  have hl : lv_has ls 6 [(0, .ref q0), (1, .int p1), (2, .int p2)] := hl
  have inX3 := in_X3_takeBack_X3
  have f9 := hts (.fieldLink RX3 9 "RoomForms$Halves" "pieces" "[I") (by decide +kernel)
  have f15 := hts (.fieldLink RX3 15 "RoomForms$Halves" "whole" "I") (by decide +kernel)
  unfold m_X3_takeBack at hm
  refine lv_iload_n hx hb dX3_takeBack_0 rfl (lv_at hl 1 rfl) ?_
  refine lv_if_lt (tgt := 12) hx hb dX3_takeBack_1 (by decide) (fun c_1 => ?_) (fun c_1 => ?_)
  · replace hm := zz_t c_1 hm
    have hm := Option.some.inj hm
    exact W.vret hx hb hr (fun t ht hW => ⟨⟨(s0, s1, s2, s3, s4, s5, s6, s7, s8, s9, s10, s11, s12, s13, s14), rfl, hm.symm, by rw [ht]; exact hP, va_K.moved hW.alike hK, hD⟩, hS.F ht⟩) hS.2.2 dX3_takeBack_12
  · replace hm := zz_f c_1 hm
    refine lv_iload_n hx hb dX3_takeBack_4 rfl (lv_at hl 1 rfl) ?_
    refine lv_aload_n hx hb dX3_takeBack_5 rfl (lv_at hl 0 rfl) ?_
    refine va_get (D := (dC, dI)) (ci := 2) (v := .int s0) (C := RX3) (T := TX3) (N := 3) hx hb hts inX3 hown hK hP 0 rfl rfl 2 (by decide) f15 (fun _ h9 => h9) rfl dX3_takeBack_6 ?_
    refine lv_icmp_lt (tgt := 13) hx hb dX3_takeBack_9 (by decide) (fun c_2 => ?_) (fun c_2 => ?_)
    · replace hm := zz_t c_2 hm
      refine lv_iload_n hx hb dX3_takeBack_13 rfl (lv_at hl 1 rfl) ?_
      refine lv_istore_n (lv' := [(3, .int p1), (0, .ref q0), (1, .int p1), (2, .int p2)]) hx hb dX3_takeBack_14 rfl hl (by decide) rfl (fun ls hl => ?_)
      refine lv_iload_n hx hb dX3_takeBack_15 rfl (lv_at hl 3 rfl) ?_
      refine lv_istore (lv' := [(4, .int p2), (3, .int p1), (0, .ref q0), (1, .int p1), (2, .int p2)]) hx hb dX3_takeBack_16 hl (by decide) rfl (fun ls hl => ?_)
      exact w_X3_takeBack_L18 dC dI cI cJ cZ K q0 q1 q2 q3 q4 q5 q6 q7 q8 q9 q10 n0 n1 n2 n3 n4 n5 n6 n7 A uv hS0 hr hlocks hA hK hN K p1 p2 p1 p2 s0 s1 s2 s3 s4 s5 s6 s7 s8 s9 s10 s11 s12 s13 s14 _ _ _ hm hP hD hS (lv_sub hl [2, 3, 4, 1, 0] rfl)
    · replace hm := zz_f c_2 hm
      have hm := Option.some.inj hm
      exact W.vret hx hb hr (fun t ht hW => ⟨⟨(s0, s1, s2, s3, s4, s5, s6, s7, s8, s9, s10, s11, s12, s13, s14), rfl, hm.symm, by rw [ht]; exact hP, va_K.moved hW.alike hK, hD⟩, hS.F ht⟩) hS.2.2 dX3_takeBack_12

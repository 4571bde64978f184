/-- base for constructors -/
theorem zz_cI {dC : Nat → ClassId} {dI : Nat → Nat → Nat} {cI cJ cZ cA : ClassId} {s : State} (h : va_K (dC, dI) vwCl ([(cI, .int), (cJ, .long), (cZ, .boolean)] ++ [(cA, .int)]) s) : cI = cA := Option.some.inj ((show s.vm.findClass ("[" ++ FieldType.int.toString) = some cI from (h.2 0 (cI, .int) rfl).2).symm.trans (show s.vm.findClass ("[" ++ FieldType.int.toString) = some cA from (h.2 3 (cA, .int) rfl).2))
theorem zz_cJ {dC : Nat → ClassId} {dI : Nat → Nat → Nat} {cI cJ cZ cA : ClassId} {s : State} (h : va_K (dC, dI) vwCl ([(cI, .int), (cJ, .long), (cZ, .boolean)] ++ [(cA, .long)]) s) : cJ = cA := Option.some.inj ((show s.vm.findClass ("[" ++ FieldType.long.toString) = some cJ from (h.2 1 (cJ, .long) rfl).2).symm.trans (show s.vm.findClass ("[" ++ FieldType.long.toString) = some cA from (h.2 3 (cA, .long) rfl).2))
theorem zz_cZ {dC : Nat → ClassId} {dI : Nat → Nat → Nat} {cI cJ cZ cA : ClassId} {s : State} (h : va_K (dC, dI) vwCl ([(cI, .int), (cJ, .long), (cZ, .boolean)] ++ [(cA, .boolean)]) s) : cZ = cA := Option.some.inj ((show s.vm.findClass ("[" ++ FieldType.boolean.toString) = some cZ from (h.2 2 (cZ, .boolean) rfl).2).symm.trans (show s.vm.findClass ("[" ++ FieldType.boolean.toString) = some cA from (h.2 3 (cA, .boolean) rfl).2))

abbrev rm_ci_X10_512 : Room := { frames := 1, cells := 2, slots := 1024, locals := 21 }
theorem in_ci_X10_512_X10 : ∀ w ∈ wsX100, w ∈ wsX10_init := by decide +kernel
set_option maxHeartbeats 4000000 in
set_option maxRecDepth 100000 in
theorem ci_X10_512 (l : Launch) (dC : Nat → ClassId) (dI : Nat → Nat → Nat) (cI cJ cZ : ClassId) (q0 : Nat) (sz : Nat) : Met l yX10_init wsX10_init rm_ci_X10_512 (zz_pre dC dI [(cI, .int), (cJ, .long), (cZ, .boolean)] [(q0, .inr (9, [.null, .null, .int 0, .int 0]))] sz [.ref q0, .int ((512 : Int32))]) (va_Qv (fun _ : Unit => True) (fun _ t => ∃ b1 b2 : Nat, zz_wo dC dI [(cI, .int), (cJ, .long), (cZ, .boolean)] (va_A [(q0, .inr (9, [.null, .null, .int 0, .int 0]))] sz) [(q0, .inr (9, [.ref b1, .ref b2, .int ((0 : Int32)), .int ((0 : Int32))])), (b1, .inl (cI, 512, .inl (fun _ => 0))), (b2, .inl (cI, 512, .inl (fun _ => 0)))] t) (va_A [(q0, .inr (9, [.null, .null, .int 0, .int 0]))] sz)) 2 1024 (va_A [(q0, .inr (9, [.null, .null, .int 0, .int 0]))] sz) := by
  refine Met.ofW (cc := cX10_init) (maxL := 3) (ret := none) (by decide) rfl ?_
  intro p e s m args below meth c s₁ B hml hv
  obtain ⟨rfl, hsz, hP, hK, hD0, hN⟩ := hv
  have hx := B.exec
  have hb := B.bytes
  have hr := B.returns
  have hts := atoms_spec (ws := wsX10_init) B.pre
  have hown : s.vm.findClass RX10 = some m.cls := findClass_of_methodNamed B.named
  have hlocks := B.notSynchronized
  have hin : meth.name = "<init>" := (name_of_methodNamed B.named B.method).1
  have hS0 : CallFix p m c cX10_init 3 s #[.ref q0, .int ((512 : Int32))] wsX10_init RX10 := ⟨hx, hb, hml, hown, hts⟩
  subst hsz
  have hD := hD0.self (sz := s.heap.size)
  generalize hAe : va_A [(q0, .inr (9, [.null, .null, .int 0, .int 0]))] s.heap.size = A at hD ⊢
  have hA : ∀ q : Nat, s.heap.size ≤ q → A q := fun q h => by rw [← hAe]; exact Or.inr h
  have hS : va_S A s.heap s.heap [] := va_S.rf
  have hl := lv_entry ([.ref q0, .int ((512 : Int32))]) (n := 3) (Nat.le_of_ble_eq_true rfl)
  rw [lg_entry_eq]
  generalize (lg_sl ([.ref q0, .int ((512 : Int32))]) ++ List.replicate (3 - (lg_sl ([.ref q0, .int ((512 : Int32))])).length) Slot.unset).toArray = ls at hl ⊢
  have hl : lv_has ls 3 [(0, .ref q0), (1, .int ((512 : Int32)))] := hl
  have inX10 := in_ci_X10_512_X10
  have f9 := hts (.fieldLink RX10 9 "RoomForms$Stretches" "size" "I") (by decide +kernel)
  have f15 := hts (.fieldLink RX10 15 "RoomForms$Stretches" "looked" "I") (by decide +kernel)
  have f24 := hts (.fieldLink RX10 24 "RoomForms$Stretches" "places" "[I") (by decide +kernel)
  have f28 := hts (.fieldLink RX10 28 "RoomForms$Stretches" "words" "[I") (by decide +kernel)
  refine lv_aload_n hx hb dX10_init_0 rfl (lv_at hl 0 rfl) ?_
  refine W.objInit hx hb hown (hts (.methodLink RX10 3 objectInit) (by decide +kernel)) (hts (.instanceMethod objectInit) (by decide +kernel)) (hts (.code objectInit ⟨#[0xb1]⟩ 1 none) (by decide +kernel)) rfl (by rw [hml]; exact hl.1) rfl dX10_init_1 (Nat.le_of_ble_eq_true rfl) (Nat.le_of_ble_eq_true rfl) ?_
  refine W.eq (g2 := F0 m 4 ls []) rfl ?_
  refine lv_aload_n hx hb dX10_init_4 rfl (lv_at hl 0 rfl) ?_
  refine lv_iconst (v := 0) hx hb dX10_init_5 (by decide) ?_
  refine va_put (D := (dC, dI)) (ci := 9) (v := .int ((0 : Int32))) (ty := .int) (C := RX10) (T := TX10) (N := 4) hx hb hts inX10 tyX10 tyX10_ok nmX10 hown hK hP hD hS 0 rfl rfl 2 (by decide) f9 (fun _ h9 => h9) rfl (by decide +kernel) rfl rfl (Nat.le_of_ble_eq_true rfl) dX10_init_6 (fun H locs hP hD hS => ?_)
  have hP : va_P (dC, dI) vwCl [(q0, .inr (9, [.null, .null, .int ((0 : Int32)), .int 0]))] _ := hP
  have hD : va_D A [(q0, .inr (9, [.null, .null, .int ((0 : Int32)), .int 0]))] := hD
  refine lv_aload_n hx hb dX10_init_9 rfl (lv_at hl 0 rfl) ?_
  refine lv_iconst (v := 0) hx hb dX10_init_10 (by decide) ?_
  refine va_put (D := (dC, dI)) (ci := 9) (v := .int ((0 : Int32))) (ty := .int) (C := RX10) (T := TX10) (N := 4) hx hb hts inX10 tyX10 tyX10_ok nmX10 hown hK hP hD hS 0 rfl rfl 3 (by decide) f15 (fun _ h9 => h9) rfl (by decide +kernel) rfl rfl (Nat.le_of_ble_eq_true rfl) dX10_init_11 (fun H locs hP hD hS => ?_)
  have hP : va_P (dC, dI) vwCl [(q0, .inr (9, [.null, .null, .int ((0 : Int32)), .int ((0 : Int32))]))] _ := hP
  have hD : va_D A [(q0, .inr (9, [.null, .null, .int ((0 : Int32)), .int ((0 : Int32))]))] := hD
  refine lv_iload_n hx hb dX10_init_14 rfl (lv_at hl 1 rfl) ?_
  refine lv_iconst (v := 0) hx hb dX10_init_15 (by decide) ?_
  refine va_mmax hx hb (by rw [hml]; exact hl.1.symm) hown (hts (.methodLink RX10 18 Lib.Math.max.name) (by decide +kernel)) (hts (.static Lib.Math.max.name) (by decide +kernel)) (hts (.initialized "java/lang/Math") (by decide +kernel)) (hts (.code Lib.Math.max.name Lib.Math.max.code 2 (some .int)) (by decide +kernel)) (Nat.le_of_ble_eq_true rfl) (Nat.le_of_ble_eq_true rfl) (Nat.zero_le _) (Nat.zero_le _) dX10_init_16 ?_
  change W _ _ _ _ _ _ _ _ _ _ _ _ _ _ _ (F0 m 19 _ (.int (zz_max ((512 : Int32)) ((0 : Int32))) :: []))
  refine lv_istore_n (lv' := [(2, .int (zz_max ((512 : Int32)) ((0 : Int32)))), (0, .ref q0), (1, .int ((512 : Int32)))]) hx hb dX10_init_19 rfl hl (by decide) rfl (fun ls hl => ?_)
  refine lv_aload_n hx hb dX10_init_20 rfl (lv_at hl 1 rfl) ?_
  refine lv_iload_n hx hb dX10_init_21 rfl (lv_at hl 0 rfl) ?_
  refine va_newa (atype := .int) (a0 := (512, .inl (fun _ => 0))) (N' := 512) (ty := .int) hx hb (hts (.arrayClass .int) (by decide +kernel)) rfl hK hP hD hS hA (fun _ => rfl) (by decide) (by decide) (by decide) (Nat.le_of_ble_eq_true rfl) (Nat.le_of_ble_eq_true rfl) dX10_init_22 (fun b1 cA H hK9 hP hD hS => ?_)
  obtain rfl := zz_cI hK9
  have hP : va_P (dC, dI) vwCl [(q0, .inr (9, [.null, .null, .int ((0 : Int32)), .int ((0 : Int32))])), (b1, .inl (cI, 512, .inl (fun _ => 0)))] _ := hP
  have hD : va_D A [(q0, .inr (9, [.null, .null, .int ((0 : Int32)), .int ((0 : Int32))])), (b1, .inl (cI, 512, .inl (fun _ => 0)))] := hD
  refine W.widen (k := 1) (n := 512) (Nat.le_of_ble_eq_true rfl) (Nat.le_of_ble_eq_true rfl) ?_
  refine va_putF (D := (dC, dI)) (ci := 9) (v := .ref b1) (ty := (.array .int)) (C := RX10) (T := TX10) (N := 4) hx hb hts inX10 tyX10 tyX10_ok nmX10 hown hK hP hD hS 0 rfl rfl 0 (by decide) f24 (fun _ h9 => h9) rfl hin rfl (by decide +kernel) rfl rfl (Nat.le_of_ble_eq_true rfl) dX10_init_24 (fun H locs hP hD hS => ?_)
  have hP : va_P (dC, dI) vwCl [(q0, .inr (9, [.ref b1, .null, .int ((0 : Int32)), .int ((0 : Int32))])), (b1, .inl (cI, 512, .inl (fun _ => 0)))] _ := hP
  have hD : va_D A [(q0, .inr (9, [.ref b1, .null, .int ((0 : Int32)), .int ((0 : Int32))])), (b1, .inl (cI, 512, .inl (fun _ => 0)))] := hD
  refine lv_aload_n hx hb dX10_init_27 rfl (lv_at hl 1 rfl) ?_
  refine lv_iload_n hx hb dX10_init_28 rfl (lv_at hl 0 rfl) ?_
  refine va_newa (atype := .int) (a0 := (512, .inl (fun _ => 0))) (N' := 512) (ty := .int) hx hb (hts (.arrayClass .int) (by decide +kernel)) rfl hK hP hD hS hA (fun _ => rfl) (by decide) (by decide) (by decide) (Nat.le_of_ble_eq_true rfl) (Nat.le_of_ble_eq_true rfl) dX10_init_29 (fun b2 cA H hK9 hP hD hS => ?_)
  obtain rfl := zz_cI hK9
  have hP : va_P (dC, dI) vwCl [(q0, .inr (9, [.ref b1, .null, .int ((0 : Int32)), .int ((0 : Int32))])), (b1, .inl (cI, 512, .inl (fun _ => 0))), (b2, .inl (cI, 512, .inl (fun _ => 0)))] _ := hP
  have hD : va_D A [(q0, .inr (9, [.ref b1, .null, .int ((0 : Int32)), .int ((0 : Int32))])), (b1, .inl (cI, 512, .inl (fun _ => 0))), (b2, .inl (cI, 512, .inl (fun _ => 0)))] := hD
  refine W.widen (k := 2) (n := 1024) (Nat.le_of_ble_eq_true rfl) (Nat.le_of_ble_eq_true rfl) ?_
  refine va_putF (D := (dC, dI)) (ci := 9) (v := .ref b2) (ty := (.array .int)) (C := RX10) (T := TX10) (N := 4) hx hb hts inX10 tyX10 tyX10_ok nmX10 hown hK hP hD hS 0 rfl rfl 1 (by decide) f28 (fun _ h9 => h9) rfl hin rfl (by decide +kernel) rfl rfl (Nat.le_of_ble_eq_true rfl) dX10_init_31 (fun H locs hP hD hS => ?_)
  have hP : va_P (dC, dI) vwCl [(q0, .inr (9, [.ref b1, .ref b2, .int ((0 : Int32)), .int ((0 : Int32))])), (b1, .inl (cI, 512, .inl (fun _ => 0))), (b2, .inl (cI, 512, .inl (fun _ => 0)))] _ := hP
  have hD : va_D A [(q0, .inr (9, [.ref b1, .ref b2, .int ((0 : Int32)), .int ((0 : Int32))])), (b1, .inl (cI, 512, .inl (fun _ => 0))), (b2, .inl (cI, 512, .inl (fun _ => 0)))] := hD
  exact W.vret hx hb hr (fun t ht hW => ⟨⟨(), rfl, trivial, b1, b2, by rw [ht]; exact hP, va_K.moved hW.alike hK, hD⟩, hS.F ht⟩) hS.2.2 dX10_init_34
abbrev rm_ci_X10_201 : Room := { frames := 1, cells := 2, slots := 402, locals := 21 }
theorem in_ci_X10_201_X10 : ∀ w ∈ wsX100, w ∈ wsX10_init := by decide +kernel
set_option maxHeartbeats 4000000 in
set_option maxRecDepth 100000 in
theorem ci_X10_201 (l : Launch) (dC : Nat → ClassId) (dI : Nat → Nat → Nat) (cI cJ cZ : ClassId) (q0 : Nat) (sz : Nat) : Met l yX10_init wsX10_init rm_ci_X10_201 (zz_pre dC dI [(cI, .int), (cJ, .long), (cZ, .boolean)] [(q0, .inr (9, [.null, .null, .int 0, .int 0]))] sz [.ref q0, .int ((201 : Int32))]) (va_Qv (fun _ : Unit => True) (fun _ t => ∃ b1 b2 : Nat, zz_wo dC dI [(cI, .int), (cJ, .long), (cZ, .boolean)] (va_A [(q0, .inr (9, [.null, .null, .int 0, .int 0]))] sz) [(q0, .inr (9, [.ref b1, .ref b2, .int ((0 : Int32)), .int ((0 : Int32))])), (b1, .inl (cI, 201, .inl (fun _ => 0))), (b2, .inl (cI, 201, .inl (fun _ => 0)))] t) (va_A [(q0, .inr (9, [.null, .null, .int 0, .int 0]))] sz)) 2 402 (va_A [(q0, .inr (9, [.null, .null, .int 0, .int 0]))] sz) := by
  refine Met.ofW (cc := cX10_init) (maxL := 3) (ret := none) (by decide) rfl ?_
  intro p e s m args below meth c s₁ B hml hv
  obtain ⟨rfl, hsz, hP, hK, hD0, hN⟩ := hv
  have hx := B.exec
  have hb := B.bytes
  have hr := B.returns
  have hts := atoms_spec (ws := wsX10_init) B.pre
  have hown : s.vm.findClass RX10 = some m.cls := findClass_of_methodNamed B.named
  have hlocks := B.notSynchronized
  have hin : meth.name = "<init>" := (name_of_methodNamed B.named B.method).1
  have hS0 : CallFix p m c cX10_init 3 s #[.ref q0, .int ((201 : Int32))] wsX10_init RX10 := ⟨hx, hb, hml, hown, hts⟩
  subst hsz
  have hD := hD0.self (sz := s.heap.size)
  generalize hAe : va_A [(q0, .inr (9, [.null, .null, .int 0, .int 0]))] s.heap.size = A at hD ⊢
  have hA : ∀ q : Nat, s.heap.size ≤ q → A q := fun q h => by rw [← hAe]; exact Or.inr h
  have hS : va_S A s.heap s.heap [] := va_S.rf
  have hl := lv_entry ([.ref q0, .int ((201 : Int32))]) (n := 3) (Nat.le_of_ble_eq_true rfl)
  rw [lg_entry_eq]
  generalize (lg_sl ([.ref q0, .int ((201 : Int32))]) ++ List.replicate (3 - (lg_sl ([.ref q0, .int ((201 : Int32))])).length) Slot.unset).toArray = ls at hl ⊢
  have hl : lv_has ls 3 [(0, .ref q0), (1, .int ((201 : Int32)))] := hl
  have inX10 := in_ci_X10_201_X10
  have f9 := hts (.fieldLink RX10 9 "RoomForms$Stretches" "size" "I") (by decide +kernel)
  have f15 := hts (.fieldLink RX10 15 "RoomForms$Stretches" "looked" "I") (by decide +kernel)
  have f24 := hts (.fieldLink RX10 24 "RoomForms$Stretches" "places" "[I") (by decide +kernel)
  have f28 := hts (.fieldLink RX10 28 "RoomForms$Stretches" "words" "[I") (by decide +kernel)
  refine lv_aload_n hx hb dX10_init_0 rfl (lv_at hl 0 rfl) ?_
  refine W.objInit hx hb hown (hts (.methodLink RX10 3 objectInit) (by decide +kernel)) (hts (.instanceMethod objectInit) (by decide +kernel)) (hts (.code objectInit ⟨#[0xb1]⟩ 1 none) (by decide +kernel)) rfl (by rw [hml]; exact hl.1) rfl dX10_init_1 (Nat.le_of_ble_eq_true rfl) (Nat.le_of_ble_eq_true rfl) ?_
  refine W.eq (g2 := F0 m 4 ls []) rfl ?_
  refine lv_aload_n hx hb dX10_init_4 rfl (lv_at hl 0 rfl) ?_
  refine lv_iconst (v := 0) hx hb dX10_init_5 (by decide) ?_
  refine va_put (D := (dC, dI)) (ci := 9) (v := .int ((0 : Int32))) (ty := .int) (C := RX10) (T := TX10) (N := 4) hx hb hts inX10 tyX10 tyX10_ok nmX10 hown hK hP hD hS 0 rfl rfl 2 (by decide) f9 (fun _ h9 => h9) rfl (by decide +kernel) rfl rfl (Nat.le_of_ble_eq_true rfl) dX10_init_6 (fun H locs hP hD hS => ?_)
  have hP : va_P (dC, dI) vwCl [(q0, .inr (9, [.null, .null, .int ((0 : Int32)), .int 0]))] _ := hP
  have hD : va_D A [(q0, .inr (9, [.null, .null, .int ((0 : Int32)), .int 0]))] := hD
  refine lv_aload_n hx hb dX10_init_9 rfl (lv_at hl 0 rfl) ?_
  refine lv_iconst (v := 0) hx hb dX10_init_10 (by decide) ?_
  refine va_put (D := (dC, dI)) (ci := 9) (v := .int ((0 : Int32))) (ty := .int) (C := RX10) (T := TX10) (N := 4) hx hb hts inX10 tyX10 tyX10_ok nmX10 hown hK hP hD hS 0 rfl rfl 3 (by decide) f15 (fun _ h9 => h9) rfl (by decide +kernel) rfl rfl (Nat.le_of_ble_eq_true rfl) dX10_init_11 (fun H locs hP hD hS => ?_)
  have hP : va_P (dC, dI) vwCl [(q0, .inr (9, [.null, .null, .int ((0 : Int32)), .int ((0 : Int32))]))] _ := hP
  have hD : va_D A [(q0, .inr (9, [.null, .null, .int ((0 : Int32)), .int ((0 : Int32))]))] := hD
  refine lv_iload_n hx hb dX10_init_14 rfl (lv_at hl 1 rfl) ?_
  refine lv_iconst (v := 0) hx hb dX10_init_15 (by decide) ?_
  refine va_mmax hx hb (by rw [hml]; exact hl.1.symm) hown (hts (.methodLink RX10 18 Lib.Math.max.name) (by decide +kernel)) (hts (.static Lib.Math.max.name) (by decide +kernel)) (hts (.initialized "java/lang/Math") (by decide +kernel)) (hts (.code Lib.Math.max.name Lib.Math.max.code 2 (some .int)) (by decide +kernel)) (Nat.le_of_ble_eq_true rfl) (Nat.le_of_ble_eq_true rfl) (Nat.zero_le _) (Nat.zero_le _) dX10_init_16 ?_
  change W _ _ _ _ _ _ _ _ _ _ _ _ _ _ _ (F0 m 19 _ (.int (zz_max ((201 : Int32)) ((0 : Int32))) :: []))
  refine lv_istore_n (lv' := [(2, .int (zz_max ((201 : Int32)) ((0 : Int32)))), (0, .ref q0), (1, .int ((201 : Int32)))]) hx hb dX10_init_19 rfl hl (by decide) rfl (fun ls hl => ?_)
  refine lv_aload_n hx hb dX10_init_20 rfl (lv_at hl 1 rfl) ?_
  refine lv_iload_n hx hb dX10_init_21 rfl (lv_at hl 0 rfl) ?_
  refine va_newa (atype := .int) (a0 := (201, .inl (fun _ => 0))) (N' := 201) (ty := .int) hx hb (hts (.arrayClass .int) (by decide +kernel)) rfl hK hP hD hS hA (fun _ => rfl) (by decide) (by decide) (by decide) (Nat.le_of_ble_eq_true rfl) (Nat.le_of_ble_eq_true rfl) dX10_init_22 (fun b1 cA H hK9 hP hD hS => ?_)
  obtain rfl := zz_cI hK9
  have hP : va_P (dC, dI) vwCl [(q0, .inr (9, [.null, .null, .int ((0 : Int32)), .int ((0 : Int32))])), (b1, .inl (cI, 201, .inl (fun _ => 0)))] _ := hP
  have hD : va_D A [(q0, .inr (9, [.null, .null, .int ((0 : Int32)), .int ((0 : Int32))])), (b1, .inl (cI, 201, .inl (fun _ => 0)))] := hD
  refine W.widen (k := 1) (n := 201) (Nat.le_of_ble_eq_true rfl) (Nat.le_of_ble_eq_true rfl) ?_
  refine va_putF (D := (dC, dI)) (ci := 9) (v := .ref b1) (ty := (.array .int)) (C := RX10) (T := TX10) (N := 4) hx hb hts inX10 tyX10 tyX10_ok nmX10 hown hK hP hD hS 0 rfl rfl 0 (by decide) f24 (fun _ h9 => h9) rfl hin rfl (by decide +kernel) rfl rfl (Nat.le_of_ble_eq_true rfl) dX10_init_24 (fun H locs hP hD hS => ?_)
  have hP : va_P (dC, dI) vwCl [(q0, .inr (9, [.ref b1, .null, .int ((0 : Int32)), .int ((0 : Int32))])), (b1, .inl (cI, 201, .inl (fun _ => 0)))] _ := hP
  have hD : va_D A [(q0, .inr (9, [.ref b1, .null, .int ((0 : Int32)), .int ((0 : Int32))])), (b1, .inl (cI, 201, .inl (fun _ => 0)))] := hD
  refine lv_aload_n hx hb dX10_init_27 rfl (lv_at hl 1 rfl) ?_
  refine lv_iload_n hx hb dX10_init_28 rfl (lv_at hl 0 rfl) ?_
  refine va_newa (atype := .int) (a0 := (201, .inl (fun _ => 0))) (N' := 201) (ty := .int) hx hb (hts (.arrayClass .int) (by decide +kernel)) rfl hK hP hD hS hA (fun _ => rfl) (by decide) (by decide) (by decide) (Nat.le_of_ble_eq_true rfl) (Nat.le_of_ble_eq_true rfl) dX10_init_29 (fun b2 cA H hK9 hP hD hS => ?_)
  obtain rfl := zz_cI hK9
  have hP : va_P (dC, dI) vwCl [(q0, .inr (9, [.ref b1, .null, .int ((0 : Int32)), .int ((0 : Int32))])), (b1, .inl (cI, 201, .inl (fun _ => 0))), (b2, .inl (cI, 201, .inl (fun _ => 0)))] _ := hP
  have hD : va_D A [(q0, .inr (9, [.ref b1, .null, .int ((0 : Int32)), .int ((0 : Int32))])), (b1, .inl (cI, 201, .inl (fun _ => 0))), (b2, .inl (cI, 201, .inl (fun _ => 0)))] := hD
  refine W.widen (k := 2) (n := 402) (Nat.le_of_ble_eq_true rfl) (Nat.le_of_ble_eq_true rfl) ?_
  refine va_putF (D := (dC, dI)) (ci := 9) (v := .ref b2) (ty := (.array .int)) (C := RX10) (T := TX10) (N := 4) hx hb hts inX10 tyX10 tyX10_ok nmX10 hown hK hP hD hS 0 rfl rfl 1 (by decide) f28 (fun _ h9 => h9) rfl hin rfl (by decide +kernel) rfl rfl (Nat.le_of_ble_eq_true rfl) dX10_init_31 (fun H locs hP hD hS => ?_)
  have hP : va_P (dC, dI) vwCl [(q0, .inr (9, [.ref b1, .ref b2, .int ((0 : Int32)), .int ((0 : Int32))])), (b1, .inl (cI, 201, .inl (fun _ => 0))), (b2, .inl (cI, 201, .inl (fun _ => 0)))] _ := hP
  have hD : va_D A [(q0, .inr (9, [.ref b1, .ref b2, .int ((0 : Int32)), .int ((0 : Int32))])), (b1, .inl (cI, 201, .inl (fun _ => 0))), (b2, .inl (cI, 201, .inl (fun _ => 0)))] := hD
  exact W.vret hx hb hr (fun t ht hW => ⟨⟨(), rfl, trivial, b1, b2, by rw [ht]; exact hP, va_K.moved hW.alike hK, hD⟩, hS.F ht⟩) hS.2.2 dX10_init_34
abbrev rm_ci_X10_1024 : Room := { frames := 1, cells := 2, slots := 2048, locals := 21 }
theorem in_ci_X10_1024_X10 : ∀ w ∈ wsX100, w ∈ wsX10_init := by decide +kernel
set_option maxHeartbeats 4000000 in
set_option maxRecDepth 100000 in
theorem ci_X10_1024 (l : Launch) (dC : Nat → ClassId) (dI : Nat → Nat → Nat) (cI cJ cZ : ClassId) (q0 : Nat) (sz : Nat) : Met l yX10_init wsX10_init rm_ci_X10_1024 (zz_pre dC dI [(cI, .int), (cJ, .long), (cZ, .boolean)] [(q0, .inr (9, [.null, .null, .int 0, .int 0]))] sz [.ref q0, .int ((1024 : Int32))]) (va_Qv (fun _ : Unit => True) (fun _ t => ∃ b1 b2 : Nat, zz_wo dC dI [(cI, .int), (cJ, .long), (cZ, .boolean)] (va_A [(q0, .inr (9, [.null, .null, .int 0, .int 0]))] sz) [(q0, .inr (9, [.ref b1, .ref b2, .int ((0 : Int32)), .int ((0 : Int32))])), (b1, .inl (cI, 1024, .inl (fun _ => 0))), (b2, .inl (cI, 1024, .inl (fun _ => 0)))] t) (va_A [(q0, .inr (9, [.null, .null, .int 0, .int 0]))] sz)) 2 2048 (va_A [(q0, .inr (9, [.null, .null, .int 0, .int 0]))] sz) := by
  refine Met.ofW (cc := cX10_init) (maxL := 3) (ret := none) (by decide) rfl ?_
  intro p e s m args below meth c s₁ B hml hv
  obtain ⟨rfl, hsz, hP, hK, hD0, hN⟩ := hv
  have hx := B.exec
  have hb := B.bytes
  have hr := B.returns
  have hts := atoms_spec (ws := wsX10_init) B.pre
  have hown : s.vm.findClass RX10 = some m.cls := findClass_of_methodNamed B.named
  have hlocks := B.notSynchronized
  have hin : meth.name = "<init>" := (name_of_methodNamed B.named B.method).1
  have hS0 : CallFix p m c cX10_init 3 s #[.ref q0, .int ((1024 : Int32))] wsX10_init RX10 := ⟨hx, hb, hml, hown, hts⟩
  subst hsz
  have hD := hD0.self (sz := s.heap.size)
  generalize hAe : va_A [(q0, .inr (9, [.null, .null, .int 0, .int 0]))] s.heap.size = A at hD ⊢
  have hA : ∀ q : Nat, s.heap.size ≤ q → A q := fun q h => by rw [← hAe]; exact Or.inr h
  have hS : va_S A s.heap s.heap [] := va_S.rf
  have hl := lv_entry ([.ref q0, .int ((1024 : Int32))]) (n := 3) (Nat.le_of_ble_eq_true rfl)
  rw [lg_entry_eq]
  generalize (lg_sl ([.ref q0, .int ((1024 : Int32))]) ++ List.replicate (3 - (lg_sl ([.ref q0, .int ((1024 : Int32))])).length) Slot.unset).toArray = ls at hl ⊢
  have hl : lv_has ls 3 [(0, .ref q0), (1, .int ((1024 : Int32)))] := hl
  have inX10 := in_ci_X10_1024_X10
  have f9 := hts (.fieldLink RX10 9 "RoomForms$Stretches" "size" "I") (by decide +kernel)
  have f15 := hts (.fieldLink RX10 15 "RoomForms$Stretches" "looked" "I") (by decide +kernel)
  have f24 := hts (.fieldLink RX10 24 "RoomForms$Stretches" "places" "[I") (by decide +kernel)
  have f28 := hts (.fieldLink RX10 28 "RoomForms$Stretches" "words" "[I") (by decide +kernel)
  refine lv_aload_n hx hb dX10_init_0 rfl (lv_at hl 0 rfl) ?_
  refine W.objInit hx hb hown (hts (.methodLink RX10 3 objectInit) (by decide +kernel)) (hts (.instanceMethod objectInit) (by decide +kernel)) (hts (.code objectInit ⟨#[0xb1]⟩ 1 none) (by decide +kernel)) rfl (by rw [hml]; exact hl.1) rfl dX10_init_1 (Nat.le_of_ble_eq_true rfl) (Nat.le_of_ble_eq_true rfl) ?_
  refine W.eq (g2 := F0 m 4 ls []) rfl ?_
  refine lv_aload_n hx hb dX10_init_4 rfl (lv_at hl 0 rfl) ?_
  refine lv_iconst (v := 0) hx hb dX10_init_5 (by decide) ?_
  refine va_put (D := (dC, dI)) (ci := 9) (v := .int ((0 : Int32))) (ty := .int) (C := RX10) (T := TX10) (N := 4) hx hb hts inX10 tyX10 tyX10_ok nmX10 hown hK hP hD hS 0 rfl rfl 2 (by decide) f9 (fun _ h9 => h9) rfl (by decide +kernel) rfl rfl (Nat.le_of_ble_eq_true rfl) dX10_init_6 (fun H locs hP hD hS => ?_)
  have hP : va_P (dC, dI) vwCl [(q0, .inr (9, [.null, .null, .int ((0 : Int32)), .int 0]))] _ := hP
  have hD : va_D A [(q0, .inr (9, [.null, .null, .int ((0 : Int32)), .int 0]))] := hD
  refine lv_aload_n hx hb dX10_init_9 rfl (lv_at hl 0 rfl) ?_
  refine lv_iconst (v := 0) hx hb dX10_init_10 (by decide) ?_
  refine va_put (D := (dC, dI)) (ci := 9) (v := .int ((0 : Int32))) (ty := .int) (C := RX10) (T := TX10) (N := 4) hx hb hts inX10 tyX10 tyX10_ok nmX10 hown hK hP hD hS 0 rfl rfl 3 (by decide) f15 (fun _ h9 => h9) rfl (by decide +kernel) rfl rfl (Nat.le_of_ble_eq_true rfl) dX10_init_11 (fun H locs hP hD hS => ?_)
  have hP : va_P (dC, dI) vwCl [(q0, .inr (9, [.null, .null, .int ((0 : Int32)), .int ((0 : Int32))]))] _ := hP
  have hD : va_D A [(q0, .inr (9, [.null, .null, .int ((0 : Int32)), .int ((0 : Int32))]))] := hD
  refine lv_iload_n hx hb dX10_init_14 rfl (lv_at hl 1 rfl) ?_
  refine lv_iconst (v := 0) hx hb dX10_init_15 (by decide) ?_
  refine va_mmax hx hb (by rw [hml]; exact hl.1.symm) hown (hts (.methodLink RX10 18 Lib.Math.max.name) (by decide +kernel)) (hts (.static Lib.Math.max.name) (by decide +kernel)) (hts (.initialized "java/lang/Math") (by decide +kernel)) (hts (.code Lib.Math.max.name Lib.Math.max.code 2 (some .int)) (by decide +kernel)) (Nat.le_of_ble_eq_true rfl) (Nat.le_of_ble_eq_true rfl) (Nat.zero_le _) (Nat.zero_le _) dX10_init_16 ?_
  change W _ _ _ _ _ _ _ _ _ _ _ _ _ _ _ (F0 m 19 _ (.int (zz_max ((1024 : Int32)) ((0 : Int32))) :: []))
  refine lv_istore_n (lv' := [(2, .int (zz_max ((1024 : Int32)) ((0 : Int32)))), (0, .ref q0), (1, .int ((1024 : Int32)))]) hx hb dX10_init_19 rfl hl (by decide) rfl (fun ls hl => ?_)
  refine lv_aload_n hx hb dX10_init_20 rfl (lv_at hl 1 rfl) ?_
  refine lv_iload_n hx hb dX10_init_21 rfl (lv_at hl 0 rfl) ?_
  refine va_newa (atype := .int) (a0 := (1024, .inl (fun _ => 0))) (N' := 1024) (ty := .int) hx hb (hts (.arrayClass .int) (by decide +kernel)) rfl hK hP hD hS hA (fun _ => rfl) (by decide) (by decide) (by decide) (Nat.le_of_ble_eq_true rfl) (Nat.le_of_ble_eq_true rfl) dX10_init_22 (fun b1 cA H hK9 hP hD hS => ?_)
  obtain rfl := zz_cI hK9
  have hP : va_P (dC, dI) vwCl [(q0, .inr (9, [.null, .null, .int ((0 : Int32)), .int ((0 : Int32))])), (b1, .inl (cI, 1024, .inl (fun _ => 0)))] _ := hP
  have hD : va_D A [(q0, .inr (9, [.null, .null, .int ((0 : Int32)), .int ((0 : Int32))])), (b1, .inl (cI, 1024, .inl (fun _ => 0)))] := hD
  refine W.widen (k := 1) (n := 1024) (Nat.le_of_ble_eq_true rfl) (Nat.le_of_ble_eq_true rfl) ?_
  refine va_putF (D := (dC, dI)) (ci := 9) (v := .ref b1) (ty := (.array .int)) (C := RX10) (T := TX10) (N := 4) hx hb hts inX10 tyX10 tyX10_ok nmX10 hown hK hP hD hS 0 rfl rfl 0 (by decide) f24 (fun _ h9 => h9) rfl hin rfl (by decide +kernel) rfl rfl (Nat.le_of_ble_eq_true rfl) dX10_init_24 (fun H locs hP hD hS => ?_)
  have hP : va_P (dC, dI) vwCl [(q0, .inr (9, [.ref b1, .null, .int ((0 : Int32)), .int ((0 : Int32))])), (b1, .inl (cI, 1024, .inl (fun _ => 0)))] _ := hP
  have hD : va_D A [(q0, .inr (9, [.ref b1, .null, .int ((0 : Int32)), .int ((0 : Int32))])), (b1, .inl (cI, 1024, .inl (fun _ => 0)))] := hD
  refine lv_aload_n hx hb dX10_init_27 rfl (lv_at hl 1 rfl) ?_
  refine lv_iload_n hx hb dX10_init_28 rfl (lv_at hl 0 rfl) ?_
  refine va_newa (atype := .int) (a0 := (1024, .inl (fun _ => 0))) (N' := 1024) (ty := .int) hx hb (hts (.arrayClass .int) (by decide +kernel)) rfl hK hP hD hS hA (fun _ => rfl) (by decide) (by decide) (by decide) (Nat.le_of_ble_eq_true rfl) (Nat.le_of_ble_eq_true rfl) dX10_init_29 (fun b2 cA H hK9 hP hD hS => ?_)
  obtain rfl := zz_cI hK9
  have hP : va_P (dC, dI) vwCl [(q0, .inr (9, [.ref b1, .null, .int ((0 : Int32)), .int ((0 : Int32))])), (b1, .inl (cI, 1024, .inl (fun _ => 0))), (b2, .inl (cI, 1024, .inl (fun _ => 0)))] _ := hP
  have hD : va_D A [(q0, .inr (9, [.ref b1, .null, .int ((0 : Int32)), .int ((0 : Int32))])), (b1, .inl (cI, 1024, .inl (fun _ => 0))), (b2, .inl (cI, 1024, .inl (fun _ => 0)))] := hD
  refine W.widen (k := 2) (n := 2048) (Nat.le_of_ble_eq_true rfl) (Nat.le_of_ble_eq_true rfl) ?_
  refine va_putF (D := (dC, dI)) (ci := 9) (v := .ref b2) (ty := (.array .int)) (C := RX10) (T := TX10) (N := 4) hx hb hts inX10 tyX10 tyX10_ok nmX10 hown hK hP hD hS 0 rfl rfl 1 (by decide) f28 (fun _ h9 => h9) rfl hin rfl (by decide +kernel) rfl rfl (Nat.le_of_ble_eq_true rfl) dX10_init_31 (fun H locs hP hD hS => ?_)
  have hP : va_P (dC, dI) vwCl [(q0, .inr (9, [.ref b1, .ref b2, .int ((0 : Int32)), .int ((0 : Int32))])), (b1, .inl (cI, 1024, .inl (fun _ => 0))), (b2, .inl (cI, 1024, .inl (fun _ => 0)))] _ := hP
  have hD : va_D A [(q0, .inr (9, [.ref b1, .ref b2, .int ((0 : Int32)), .int ((0 : Int32))])), (b1, .inl (cI, 1024, .inl (fun _ => 0))), (b2, .inl (cI, 1024, .inl (fun _ => 0)))] := hD
  exact W.vret hx hb hr (fun t ht hW => ⟨⟨(), rfl, trivial, b1, b2, by rw [ht]; exact hP, va_K.moved hW.alike hK, hD⟩, hS.F ht⟩) hS.2.2 dX10_init_34
abbrev rm_ci_X10_14 : Room := { frames := 1, cells := 2, slots := 28, locals := 21 }
theorem in_ci_X10_14_X10 : ∀ w ∈ wsX100, w ∈ wsX10_init := by decide +kernel
set_option maxHeartbeats 4000000 in
set_option maxRecDepth 100000 in
theorem ci_X10_14 (l : Launch) (dC : Nat → ClassId) (dI : Nat → Nat → Nat) (cI cJ cZ : ClassId) (q0 : Nat) (sz : Nat) : Met l yX10_init wsX10_init rm_ci_X10_14 (zz_pre dC dI [(cI, .int), (cJ, .long), (cZ, .boolean)] [(q0, .inr (9, [.null, .null, .int 0, .int 0]))] sz [.ref q0, .int ((14 : Int32))]) (va_Qv (fun _ : Unit => True) (fun _ t => ∃ b1 b2 : Nat, zz_wo dC dI [(cI, .int), (cJ, .long), (cZ, .boolean)] (va_A [(q0, .inr (9, [.null, .null, .int 0, .int 0]))] sz) [(q0, .inr (9, [.ref b1, .ref b2, .int ((0 : Int32)), .int ((0 : Int32))])), (b1, .inl (cI, 14, .inl (fun _ => 0))), (b2, .inl (cI, 14, .inl (fun _ => 0)))] t) (va_A [(q0, .inr (9, [.null, .null, .int 0, .int 0]))] sz)) 2 28 (va_A [(q0, .inr (9, [.null, .null, .int 0, .int 0]))] sz) := by
  refine Met.ofW (cc := cX10_init) (maxL := 3) (ret := none) (by decide) rfl ?_
  intro p e s m args below meth c s₁ B hml hv
  obtain ⟨rfl, hsz, hP, hK, hD0, hN⟩ := hv
  have hx := B.exec
  have hb := B.bytes
  have hr := B.returns
  have hts := atoms_spec (ws := wsX10_init) B.pre
  have hown : s.vm.findClass RX10 = some m.cls := findClass_of_methodNamed B.named
  have hlocks := B.notSynchronized
  have hin : meth.name = "<init>" := (name_of_methodNamed B.named B.method).1
  have hS0 : CallFix p m c cX10_init 3 s #[.ref q0, .int ((14 : Int32))] wsX10_init RX10 := ⟨hx, hb, hml, hown, hts⟩
  subst hsz
  have hD := hD0.self (sz := s.heap.size)
  generalize hAe : va_A [(q0, .inr (9, [.null, .null, .int 0, .int 0]))] s.heap.size = A at hD ⊢
  have hA : ∀ q : Nat, s.heap.size ≤ q → A q := fun q h => by rw [← hAe]; exact Or.inr h
  have hS : va_S A s.heap s.heap [] := va_S.rf
  have hl := lv_entry ([.ref q0, .int ((14 : Int32))]) (n := 3) (Nat.le_of_ble_eq_true rfl)
  rw [lg_entry_eq]
  generalize (lg_sl ([.ref q0, .int ((14 : Int32))]) ++ List.replicate (3 - (lg_sl ([.ref q0, .int ((14 : Int32))])).length) Slot.unset).toArray = ls at hl ⊢
  have hl : lv_has ls 3 [(0, .ref q0), (1, .int ((14 : Int32)))] := hl
  have inX10 := in_ci_X10_14_X10
  have f9 := hts (.fieldLink RX10 9 "RoomForms$Stretches" "size" "I") (by decide +kernel)
  have f15 := hts (.fieldLink RX10 15 "RoomForms$Stretches" "looked" "I") (by decide +kernel)
  have f24 := hts (.fieldLink RX10 24 "RoomForms$Stretches" "places" "[I") (by decide +kernel)
  have f28 := hts (.fieldLink RX10 28 "RoomForms$Stretches" "words" "[I") (by decide +kernel)
  refine lv_aload_n hx hb dX10_init_0 rfl (lv_at hl 0 rfl) ?_
  refine W.objInit hx hb hown (hts (.methodLink RX10 3 objectInit) (by decide +kernel)) (hts (.instanceMethod objectInit) (by decide +kernel)) (hts (.code objectInit ⟨#[0xb1]⟩ 1 none) (by decide +kernel)) rfl (by rw [hml]; exact hl.1) rfl dX10_init_1 (Nat.le_of_ble_eq_true rfl) (Nat.le_of_ble_eq_true rfl) ?_
  refine W.eq (g2 := F0 m 4 ls []) rfl ?_
  refine lv_aload_n hx hb dX10_init_4 rfl (lv_at hl 0 rfl) ?_
  refine lv_iconst (v := 0) hx hb dX10_init_5 (by decide) ?_
  refine va_put (D := (dC, dI)) (ci := 9) (v := .int ((0 : Int32))) (ty := .int) (C := RX10) (T := TX10) (N := 4) hx hb hts inX10 tyX10 tyX10_ok nmX10 hown hK hP hD hS 0 rfl rfl 2 (by decide) f9 (fun _ h9 => h9) rfl (by decide +kernel) rfl rfl (Nat.le_of_ble_eq_true rfl) dX10_init_6 (fun H locs hP hD hS => ?_)
  have hP : va_P (dC, dI) vwCl [(q0, .inr (9, [.null, .null, .int ((0 : Int32)), .int 0]))] _ := hP
  have hD : va_D A [(q0, .inr (9, [.null, .null, .int ((0 : Int32)), .int 0]))] := hD
  refine lv_aload_n hx hb dX10_init_9 rfl (lv_at hl 0 rfl) ?_
  refine lv_iconst (v := 0) hx hb dX10_init_10 (by decide) ?_
  refine va_put (D := (dC, dI)) (ci := 9) (v := .int ((0 : Int32))) (ty := .int) (C := RX10) (T := TX10) (N := 4) hx hb hts inX10 tyX10 tyX10_ok nmX10 hown hK hP hD hS 0 rfl rfl 3 (by decide) f15 (fun _ h9 => h9) rfl (by decide +kernel) rfl rfl (Nat.le_of_ble_eq_true rfl) dX10_init_11 (fun H locs hP hD hS => ?_)
  have hP : va_P (dC, dI) vwCl [(q0, .inr (9, [.null, .null, .int ((0 : Int32)), .int ((0 : Int32))]))] _ := hP
  have hD : va_D A [(q0, .inr (9, [.null, .null, .int ((0 : Int32)), .int ((0 : Int32))]))] := hD
  refine lv_iload_n hx hb dX10_init_14 rfl (lv_at hl 1 rfl) ?_
  refine lv_iconst (v := 0) hx hb dX10_init_15 (by decide) ?_
  refine va_mmax hx hb (by rw [hml]; exact hl.1.symm) hown (hts (.methodLink RX10 18 Lib.Math.max.name) (by decide +kernel)) (hts (.static Lib.Math.max.name) (by decide +kernel)) (hts (.initialized "java/lang/Math") (by decide +kernel)) (hts (.code Lib.Math.max.name Lib.Math.max.code 2 (some .int)) (by decide +kernel)) (Nat.le_of_ble_eq_true rfl) (Nat.le_of_ble_eq_true rfl) (Nat.zero_le _) (Nat.zero_le _) dX10_init_16 ?_
  change W _ _ _ _ _ _ _ _ _ _ _ _ _ _ _ (F0 m 19 _ (.int (zz_max ((14 : Int32)) ((0 : Int32))) :: []))
  refine lv_istore_n (lv' := [(2, .int (zz_max ((14 : Int32)) ((0 : Int32)))), (0, .ref q0), (1, .int ((14 : Int32)))]) hx hb dX10_init_19 rfl hl (by decide) rfl (fun ls hl => ?_)
  refine lv_aload_n hx hb dX10_init_20 rfl (lv_at hl 1 rfl) ?_
  refine lv_iload_n hx hb dX10_init_21 rfl (lv_at hl 0 rfl) ?_
  refine va_newa (atype := .int) (a0 := (14, .inl (fun _ => 0))) (N' := 14) (ty := .int) hx hb (hts (.arrayClass .int) (by decide +kernel)) rfl hK hP hD hS hA (fun _ => rfl) (by decide) (by decide) (by decide) (Nat.le_of_ble_eq_true rfl) (Nat.le_of_ble_eq_true rfl) dX10_init_22 (fun b1 cA H hK9 hP hD hS => ?_)
  obtain rfl := zz_cI hK9
  have hP : va_P (dC, dI) vwCl [(q0, .inr (9, [.null, .null, .int ((0 : Int32)), .int ((0 : Int32))])), (b1, .inl (cI, 14, .inl (fun _ => 0)))] _ := hP
  have hD : va_D A [(q0, .inr (9, [.null, .null, .int ((0 : Int32)), .int ((0 : Int32))])), (b1, .inl (cI, 14, .inl (fun _ => 0)))] := hD
  refine W.widen (k := 1) (n := 14) (Nat.le_of_ble_eq_true rfl) (Nat.le_of_ble_eq_true rfl) ?_
  refine va_putF (D := (dC, dI)) (ci := 9) (v := .ref b1) (ty := (.array .int)) (C := RX10) (T := TX10) (N := 4) hx hb hts inX10 tyX10 tyX10_ok nmX10 hown hK hP hD hS 0 rfl rfl 0 (by decide) f24 (fun _ h9 => h9) rfl hin rfl (by decide +kernel) rfl rfl (Nat.le_of_ble_eq_true rfl) dX10_init_24 (fun H locs hP hD hS => ?_)
  have hP : va_P (dC, dI) vwCl [(q0, .inr (9, [.ref b1, .null, .int ((0 : Int32)), .int ((0 : Int32))])), (b1, .inl (cI, 14, .inl (fun _ => 0)))] _ := hP
  have hD : va_D A [(q0, .inr (9, [.ref b1, .null, .int ((0 : Int32)), .int ((0 : Int32))])), (b1, .inl (cI, 14, .inl (fun _ => 0)))] := hD
  refine lv_aload_n hx hb dX10_init_27 rfl (lv_at hl 1 rfl) ?_
  refine lv_iload_n hx hb dX10_init_28 rfl (lv_at hl 0 rfl) ?_
  refine va_newa (atype := .int) (a0 := (14, .inl (fun _ => 0))) (N' := 14) (ty := .int) hx hb (hts (.arrayClass .int) (by decide +kernel)) rfl hK hP hD hS hA (fun _ => rfl) (by decide) (by decide) (by decide) (Nat.le_of_ble_eq_true rfl) (Nat.le_of_ble_eq_true rfl) dX10_init_29 (fun b2 cA H hK9 hP hD hS => ?_)
  obtain rfl := zz_cI hK9
  have hP : va_P (dC, dI) vwCl [(q0, .inr (9, [.ref b1, .null, .int ((0 : Int32)), .int ((0 : Int32))])), (b1, .inl (cI, 14, .inl (fun _ => 0))), (b2, .inl (cI, 14, .inl (fun _ => 0)))] _ := hP
  have hD : va_D A [(q0, .inr (9, [.ref b1, .null, .int ((0 : Int32)), .int ((0 : Int32))])), (b1, .inl (cI, 14, .inl (fun _ => 0))), (b2, .inl (cI, 14, .inl (fun _ => 0)))] := hD
  refine W.widen (k := 2) (n := 28) (Nat.le_of_ble_eq_true rfl) (Nat.le_of_ble_eq_true rfl) ?_
  refine va_putF (D := (dC, dI)) (ci := 9) (v := .ref b2) (ty := (.array .int)) (C := RX10) (T := TX10) (N := 4) hx hb hts inX10 tyX10 tyX10_ok nmX10 hown hK hP hD hS 0 rfl rfl 1 (by decide) f28 (fun _ h9 => h9) rfl hin rfl (by decide +kernel) rfl rfl (Nat.le_of_ble_eq_true rfl) dX10_init_31 (fun H locs hP hD hS => ?_)
  have hP : va_P (dC, dI) vwCl [(q0, .inr (9, [.ref b1, .ref b2, .int ((0 : Int32)), .int ((0 : Int32))])), (b1, .inl (cI, 14, .inl (fun _ => 0))), (b2, .inl (cI, 14, .inl (fun _ => 0)))] _ := hP
  have hD : va_D A [(q0, .inr (9, [.ref b1, .ref b2, .int ((0 : Int32)), .int ((0 : Int32))])), (b1, .inl (cI, 14, .inl (fun _ => 0))), (b2, .inl (cI, 14, .inl (fun _ => 0)))] := hD
  exact W.vret hx hb hr (fun t ht hW => ⟨⟨(), rfl, trivial, b1, b2, by rw [ht]; exact hP, va_K.moved hW.alike hK, hD⟩, hS.F ht⟩) hS.2.2 dX10_init_34
abbrev rm_ci_X1_X0 : Room := { frames := 1, cells := 0, slots := 0, locals := 20 }
theorem in_ci_X1_X0_X0 : ∀ w ∈ wsX00, w ∈ wsX1_init := by decide +kernel
set_option maxHeartbeats 4000000 in
set_option maxRecDepth 100000 in
theorem ci_X1_X0 (l : Launch) (dC : Nat → ClassId) (dI : Nat → Nat → Nat) (cI cJ cZ : ClassId) (q0 : Nat) (a1 : Nat) (sz : Nat) : Met l yX1_init wsX1_init rm_ci_X1_X0 (zz_pre dC dI [(cI, .int), (cJ, .long), (cZ, .boolean)] [(q0, .inr (0, [.null, .int 0, .int 0]))] sz [.ref q0, .ref a1]) (va_Qv (fun _ : Unit => True) (fun _ t => zz_wo dC dI [(cI, .int), (cJ, .long), (cZ, .boolean)] (va_A [(q0, .inr (0, [.null, .int 0, .int 0]))] sz) [(q0, .inr (0, [.ref a1, .int 0, .int 0]))] t) (va_A [(q0, .inr (0, [.null, .int 0, .int 0]))] sz)) 0 0 (va_A [(q0, .inr (0, [.null, .int 0, .int 0]))] sz) := by
  refine Met.ofW (cc := cX1_init) (maxL := 2) (ret := none) (by decide) rfl ?_
  intro p e s m args below meth c s₁ B hml hv
  obtain ⟨rfl, hsz, hP, hK, hD0, hN⟩ := hv
  have hx := B.exec
  have hb := B.bytes
  have hr := B.returns
  have hts := atoms_spec (ws := wsX1_init) B.pre
  have hown : s.vm.findClass RX1 = some m.cls := findClass_of_methodNamed B.named
  have hlocks := B.notSynchronized
  have hin : meth.name = "<init>" := (name_of_methodNamed B.named B.method).1
  have hS0 : CallFix p m c cX1_init 2 s #[.ref q0, .ref a1] wsX1_init RX1 := ⟨hx, hb, hml, hown, hts⟩
  subst hsz
  have hD := hD0.self (sz := s.heap.size)
  generalize hAe : va_A [(q0, .inr (0, [.null, .int 0, .int 0]))] s.heap.size = A at hD ⊢
  have hA : ∀ q : Nat, s.heap.size ≤ q → A q := fun q h => by rw [← hAe]; exact Or.inr h
  have hS : va_S A s.heap s.heap [] := va_S.rf
  have hl := lv_entry ([.ref q0, .ref a1]) (n := 2) (Nat.le_of_ble_eq_true rfl)
  rw [lg_entry_eq]
  generalize (lg_sl ([.ref q0, .ref a1]) ++ List.replicate (2 - (lg_sl ([.ref q0, .ref a1])).length) Slot.unset).toArray = ls at hl ⊢
  have hl : lv_has ls 2 [(0, .ref q0), (1, .ref a1)] := hl
  have inX0 := in_ci_X1_X0_X0
  have f9 := hts (.fieldLink RX1 9 "RoomForms$Form" "room" "LRoomForms$Room;") (by decide +kernel)
  refine lv_aload_n hx hb dX1_init_0 rfl (lv_at hl 0 rfl) ?_
  refine W.objInit hx hb hown (hts (.methodLink RX1 3 objectInit) (by decide +kernel)) (hts (.instanceMethod objectInit) (by decide +kernel)) (hts (.code objectInit ⟨#[0xb1]⟩ 1 none) (by decide +kernel)) rfl (by rw [hml]; exact hl.1) rfl dX1_init_1 (Nat.le_of_ble_eq_true rfl) (Nat.le_of_ble_eq_true rfl) ?_
  refine W.eq (g2 := F0 m 4 ls []) rfl ?_
  refine lv_aload_n hx hb dX1_init_4 rfl (lv_at hl 0 rfl) ?_
  refine lv_aload_n hx hb dX1_init_5 rfl (lv_at hl 1 rfl) ?_
  refine va_putF (D := (dC, dI)) (ci := 0) (v := .ref a1) (ty := (.object "RoomForms$Room")) (C := RX0) (T := TX0) (N := 3) hx hb hts inX0 tyX0 tyX0_ok nmX0 hown hK hP hD hS 0 rfl rfl 0 (by decide) f9 (fun _ h9 => h9) rfl hin rfl (by decide +kernel) rfl rfl (Nat.le_of_ble_eq_true rfl) dX1_init_6 (fun H locs hP hD hS => ?_)
  have hP : va_P (dC, dI) vwCl [(q0, .inr (0, [.ref a1, .int 0, .int 0]))] _ := hP
  have hD : va_D A [(q0, .inr (0, [.ref a1, .int 0, .int 0]))] := hD
  exact W.vret hx hb hr (fun t ht hW => ⟨⟨(), rfl, trivial, by rw [ht]; exact hP, va_K.moved hW.alike hK, hD⟩, hS.F ht⟩) hS.2.2 dX1_init_9
abbrev rm_ci_X1_X2 : Room := { frames := 1, cells := 0, slots := 0, locals := 20 }
theorem in_ci_X1_X2_X2 : ∀ w ∈ wsX20, w ∈ wsX1_init := by decide +kernel
set_option maxHeartbeats 4000000 in
set_option maxRecDepth 100000 in
theorem ci_X1_X2 (l : Launch) (dC : Nat → ClassId) (dI : Nat → Nat → Nat) (cI cJ cZ : ClassId) (q0 : Nat) (a1 : Nat) (sz : Nat) : Met l yX1_init wsX1_init rm_ci_X1_X2 (zz_pre dC dI [(cI, .int), (cJ, .long), (cZ, .boolean)] [(q0, .inr (1, [.null, .int 0]))] sz [.ref q0, .ref a1]) (va_Qv (fun _ : Unit => True) (fun _ t => zz_wo dC dI [(cI, .int), (cJ, .long), (cZ, .boolean)] (va_A [(q0, .inr (1, [.null, .int 0]))] sz) [(q0, .inr (1, [.ref a1, .int 0]))] t) (va_A [(q0, .inr (1, [.null, .int 0]))] sz)) 0 0 (va_A [(q0, .inr (1, [.null, .int 0]))] sz) := by
  refine Met.ofW (cc := cX1_init) (maxL := 2) (ret := none) (by decide) rfl ?_
  intro p e s m args below meth c s₁ B hml hv
  obtain ⟨rfl, hsz, hP, hK, hD0, hN⟩ := hv
  have hx := B.exec
  have hb := B.bytes
  have hr := B.returns
  have hts := atoms_spec (ws := wsX1_init) B.pre
  have hown : s.vm.findClass RX1 = some m.cls := findClass_of_methodNamed B.named
  have hlocks := B.notSynchronized
  have hin : meth.name = "<init>" := (name_of_methodNamed B.named B.method).1
  have hS0 : CallFix p m c cX1_init 2 s #[.ref q0, .ref a1] wsX1_init RX1 := ⟨hx, hb, hml, hown, hts⟩
  subst hsz
  have hD := hD0.self (sz := s.heap.size)
  generalize hAe : va_A [(q0, .inr (1, [.null, .int 0]))] s.heap.size = A at hD ⊢
  have hA : ∀ q : Nat, s.heap.size ≤ q → A q := fun q h => by rw [← hAe]; exact Or.inr h
  have hS : va_S A s.heap s.heap [] := va_S.rf
  have hl := lv_entry ([.ref q0, .ref a1]) (n := 2) (Nat.le_of_ble_eq_true rfl)
  rw [lg_entry_eq]
  generalize (lg_sl ([.ref q0, .ref a1]) ++ List.replicate (2 - (lg_sl ([.ref q0, .ref a1])).length) Slot.unset).toArray = ls at hl ⊢
  have hl : lv_has ls 2 [(0, .ref q0), (1, .ref a1)] := hl
  have inX2 := in_ci_X1_X2_X2
  have f9 := hts (.fieldLink RX1 9 "RoomForms$Form" "room" "LRoomForms$Room;") (by decide +kernel)
  refine lv_aload_n hx hb dX1_init_0 rfl (lv_at hl 0 rfl) ?_
  refine W.objInit hx hb hown (hts (.methodLink RX1 3 objectInit) (by decide +kernel)) (hts (.instanceMethod objectInit) (by decide +kernel)) (hts (.code objectInit ⟨#[0xb1]⟩ 1 none) (by decide +kernel)) rfl (by rw [hml]; exact hl.1) rfl dX1_init_1 (Nat.le_of_ble_eq_true rfl) (Nat.le_of_ble_eq_true rfl) ?_
  refine W.eq (g2 := F0 m 4 ls []) rfl ?_
  refine lv_aload_n hx hb dX1_init_4 rfl (lv_at hl 0 rfl) ?_
  refine lv_aload_n hx hb dX1_init_5 rfl (lv_at hl 1 rfl) ?_
  refine va_putF (D := (dC, dI)) (ci := 1) (v := .ref a1) (ty := (.object "RoomForms$Room")) (C := RX2) (T := TX2) (N := 2) hx hb hts inX2 tyX2 tyX2_ok nmX2 hown hK hP hD hS 0 rfl rfl 0 (by decide) f9 (fun _ h9 => h9) rfl hin rfl (by decide +kernel) rfl rfl (Nat.le_of_ble_eq_true rfl) dX1_init_6 (fun H locs hP hD hS => ?_)
  have hP : va_P (dC, dI) vwCl [(q0, .inr (1, [.ref a1, .int 0]))] _ := hP
  have hD : va_D A [(q0, .inr (1, [.ref a1, .int 0]))] := hD
  exact W.vret hx hb hr (fun t ht hW => ⟨⟨(), rfl, trivial, by rw [ht]; exact hP, va_K.moved hW.alike hK, hD⟩, hS.F ht⟩) hS.2.2 dX1_init_9
abbrev rm_ci_X1_X3 : Room := { frames := 1, cells := 0, slots := 0, locals := 20 }
theorem in_ci_X1_X3_X3 : ∀ w ∈ wsX30, w ∈ wsX1_init := by decide +kernel
set_option maxHeartbeats 4000000 in
set_option maxRecDepth 100000 in
theorem ci_X1_X3 (l : Launch) (dC : Nat → ClassId) (dI : Nat → Nat → Nat) (cI cJ cZ : ClassId) (q0 : Nat) (a1 : Nat) (sz : Nat) : Met l yX1_init wsX1_init rm_ci_X1_X3 (zz_pre dC dI [(cI, .int), (cJ, .long), (cZ, .boolean)] [(q0, .inr (2, [.null, .null, .int 0]))] sz [.ref q0, .ref a1]) (va_Qv (fun _ : Unit => True) (fun _ t => zz_wo dC dI [(cI, .int), (cJ, .long), (cZ, .boolean)] (va_A [(q0, .inr (2, [.null, .null, .int 0]))] sz) [(q0, .inr (2, [.ref a1, .null, .int 0]))] t) (va_A [(q0, .inr (2, [.null, .null, .int 0]))] sz)) 0 0 (va_A [(q0, .inr (2, [.null, .null, .int 0]))] sz) := by
  refine Met.ofW (cc := cX1_init) (maxL := 2) (ret := none) (by decide) rfl ?_
  intro p e s m args below meth c s₁ B hml hv
  obtain ⟨rfl, hsz, hP, hK, hD0, hN⟩ := hv
  have hx := B.exec
  have hb := B.bytes
  have hr := B.returns
  have hts := atoms_spec (ws := wsX1_init) B.pre
  have hown : s.vm.findClass RX1 = some m.cls := findClass_of_methodNamed B.named
  have hlocks := B.notSynchronized
  have hin : meth.name = "<init>" := (name_of_methodNamed B.named B.method).1
  have hS0 : CallFix p m c cX1_init 2 s #[.ref q0, .ref a1] wsX1_init RX1 := ⟨hx, hb, hml, hown, hts⟩
  subst hsz
  have hD := hD0.self (sz := s.heap.size)
  generalize hAe : va_A [(q0, .inr (2, [.null, .null, .int 0]))] s.heap.size = A at hD ⊢
  have hA : ∀ q : Nat, s.heap.size ≤ q → A q := fun q h => by rw [← hAe]; exact Or.inr h
  have hS : va_S A s.heap s.heap [] := va_S.rf
  have hl := lv_entry ([.ref q0, .ref a1]) (n := 2) (Nat.le_of_ble_eq_true rfl)
  rw [lg_entry_eq]
  generalize (lg_sl ([.ref q0, .ref a1]) ++ List.replicate (2 - (lg_sl ([.ref q0, .ref a1])).length) Slot.unset).toArray = ls at hl ⊢
  have hl : lv_has ls 2 [(0, .ref q0), (1, .ref a1)] := hl
  have inX3 := in_ci_X1_X3_X3
  have f9 := hts (.fieldLink RX1 9 "RoomForms$Form" "room" "LRoomForms$Room;") (by decide +kernel)
  refine lv_aload_n hx hb dX1_init_0 rfl (lv_at hl 0 rfl) ?_
  refine W.objInit hx hb hown (hts (.methodLink RX1 3 objectInit) (by decide +kernel)) (hts (.instanceMethod objectInit) (by decide +kernel)) (hts (.code objectInit ⟨#[0xb1]⟩ 1 none) (by decide +kernel)) rfl (by rw [hml]; exact hl.1) rfl dX1_init_1 (Nat.le_of_ble_eq_true rfl) (Nat.le_of_ble_eq_true rfl) ?_
  refine W.eq (g2 := F0 m 4 ls []) rfl ?_
  refine lv_aload_n hx hb dX1_init_4 rfl (lv_at hl 0 rfl) ?_
  refine lv_aload_n hx hb dX1_init_5 rfl (lv_at hl 1 rfl) ?_
  refine va_putF (D := (dC, dI)) (ci := 2) (v := .ref a1) (ty := (.object "RoomForms$Room")) (C := RX3) (T := TX3) (N := 3) hx hb hts inX3 tyX3 tyX3_ok nmX3 hown hK hP hD hS 0 rfl rfl 0 (by decide) f9 (fun _ h9 => h9) rfl hin rfl (by decide +kernel) rfl rfl (Nat.le_of_ble_eq_true rfl) dX1_init_6 (fun H locs hP hD hS => ?_)
  have hP : va_P (dC, dI) vwCl [(q0, .inr (2, [.ref a1, .null, .int 0]))] _ := hP
  have hD : va_D A [(q0, .inr (2, [.ref a1, .null, .int 0]))] := hD
  exact W.vret hx hb hr (fun t ht hW => ⟨⟨(), rfl, trivial, by rw [ht]; exact hP, va_K.moved hW.alike hK, hD⟩, hS.F ht⟩) hS.2.2 dX1_init_9
abbrev rm_ci_X1_X4 : Room := { frames := 1, cells := 0, slots := 0, locals := 20 }
theorem in_ci_X1_X4_X4 : ∀ w ∈ wsX40, w ∈ wsX1_init := by decide +kernel
set_option maxHeartbeats 4000000 in
set_option maxRecDepth 100000 in
theorem ci_X1_X4 (l : Launch) (dC : Nat → ClassId) (dI : Nat → Nat → Nat) (cI cJ cZ : ClassId) (q0 : Nat) (a1 : Nat) (sz : Nat) : Met l yX1_init wsX1_init rm_ci_X1_X4 (zz_pre dC dI [(cI, .int), (cJ, .long), (cZ, .boolean)] [(q0, .inr (3, [.null, .null]))] sz [.ref q0, .ref a1]) (va_Qv (fun _ : Unit => True) (fun _ t => zz_wo dC dI [(cI, .int), (cJ, .long), (cZ, .boolean)] (va_A [(q0, .inr (3, [.null, .null]))] sz) [(q0, .inr (3, [.ref a1, .null]))] t) (va_A [(q0, .inr (3, [.null, .null]))] sz)) 0 0 (va_A [(q0, .inr (3, [.null, .null]))] sz) := by
  refine Met.ofW (cc := cX1_init) (maxL := 2) (ret := none) (by decide) rfl ?_
  intro p e s m args below meth c s₁ B hml hv
  obtain ⟨rfl, hsz, hP, hK, hD0, hN⟩ := hv
  have hx := B.exec
  have hb := B.bytes
  have hr := B.returns
  have hts := atoms_spec (ws := wsX1_init) B.pre
  have hown : s.vm.findClass RX1 = some m.cls := findClass_of_methodNamed B.named
  have hlocks := B.notSynchronized
  have hin : meth.name = "<init>" := (name_of_methodNamed B.named B.method).1
  have hS0 : CallFix p m c cX1_init 2 s #[.ref q0, .ref a1] wsX1_init RX1 := ⟨hx, hb, hml, hown, hts⟩
  subst hsz
  have hD := hD0.self (sz := s.heap.size)
  generalize hAe : va_A [(q0, .inr (3, [.null, .null]))] s.heap.size = A at hD ⊢
  have hA : ∀ q : Nat, s.heap.size ≤ q → A q := fun q h => by rw [← hAe]; exact Or.inr h
  have hS : va_S A s.heap s.heap [] := va_S.rf
  have hl := lv_entry ([.ref q0, .ref a1]) (n := 2) (Nat.le_of_ble_eq_true rfl)
  rw [lg_entry_eq]
  generalize (lg_sl ([.ref q0, .ref a1]) ++ List.replicate (2 - (lg_sl ([.ref q0, .ref a1])).length) Slot.unset).toArray = ls at hl ⊢
  have hl : lv_has ls 2 [(0, .ref q0), (1, .ref a1)] := hl
  have inX4 := in_ci_X1_X4_X4
  have f9 := hts (.fieldLink RX1 9 "RoomForms$Form" "room" "LRoomForms$Room;") (by decide +kernel)
  refine lv_aload_n hx hb dX1_init_0 rfl (lv_at hl 0 rfl) ?_
  refine W.objInit hx hb hown (hts (.methodLink RX1 3 objectInit) (by decide +kernel)) (hts (.instanceMethod objectInit) (by decide +kernel)) (hts (.code objectInit ⟨#[0xb1]⟩ 1 none) (by decide +kernel)) rfl (by rw [hml]; exact hl.1) rfl dX1_init_1 (Nat.le_of_ble_eq_true rfl) (Nat.le_of_ble_eq_true rfl) ?_
  refine W.eq (g2 := F0 m 4 ls []) rfl ?_
  refine lv_aload_n hx hb dX1_init_4 rfl (lv_at hl 0 rfl) ?_
  refine lv_aload_n hx hb dX1_init_5 rfl (lv_at hl 1 rfl) ?_
  refine va_putF (D := (dC, dI)) (ci := 3) (v := .ref a1) (ty := (.object "RoomForms$Room")) (C := RX4) (T := TX4) (N := 2) hx hb hts inX4 tyX4 tyX4_ok nmX4 hown hK hP hD hS 0 rfl rfl 0 (by decide) f9 (fun _ h9 => h9) rfl hin rfl (by decide +kernel) rfl rfl (Nat.le_of_ble_eq_true rfl) dX1_init_6 (fun H locs hP hD hS => ?_)
  have hP : va_P (dC, dI) vwCl [(q0, .inr (3, [.ref a1, .null]))] _ := hP
  have hD : va_D A [(q0, .inr (3, [.ref a1, .null]))] := hD
  exact W.vret hx hb hr (fun t ht hW => ⟨⟨(), rfl, trivial, by rw [ht]; exact hP, va_K.moved hW.alike hK, hD⟩, hS.F ht⟩) hS.2.2 dX1_init_9
abbrev rm_ci_X1_X5 : Room := { frames := 1, cells := 0, slots := 0, locals := 20 }
theorem in_ci_X1_X5_X5 : ∀ w ∈ wsX50, w ∈ wsX1_init := by decide +kernel
set_option maxHeartbeats 4000000 in
set_option maxRecDepth 100000 in
theorem ci_X1_X5 (l : Launch) (dC : Nat → ClassId) (dI : Nat → Nat → Nat) (cI cJ cZ : ClassId) (q0 : Nat) (a1 : Nat) (sz : Nat) : Met l yX1_init wsX1_init rm_ci_X1_X5 (zz_pre dC dI [(cI, .int), (cJ, .long), (cZ, .boolean)] [(q0, .inr (4, [.null, .null, .null, .int 0]))] sz [.ref q0, .ref a1]) (va_Qv (fun _ : Unit => True) (fun _ t => zz_wo dC dI [(cI, .int), (cJ, .long), (cZ, .boolean)] (va_A [(q0, .inr (4, [.null, .null, .null, .int 0]))] sz) [(q0, .inr (4, [.ref a1, .null, .null, .int 0]))] t) (va_A [(q0, .inr (4, [.null, .null, .null, .int 0]))] sz)) 0 0 (va_A [(q0, .inr (4, [.null, .null, .null, .int 0]))] sz) := by
  refine Met.ofW (cc := cX1_init) (maxL := 2) (ret := none) (by decide) rfl ?_
  intro p e s m args below meth c s₁ B hml hv
  obtain ⟨rfl, hsz, hP, hK, hD0, hN⟩ := hv
  have hx := B.exec
  have hb := B.bytes
  have hr := B.returns
  have hts := atoms_spec (ws := wsX1_init) B.pre
  have hown : s.vm.findClass RX1 = some m.cls := findClass_of_methodNamed B.named
  have hlocks := B.notSynchronized
  have hin : meth.name = "<init>" := (name_of_methodNamed B.named B.method).1
  have hS0 : CallFix p m c cX1_init 2 s #[.ref q0, .ref a1] wsX1_init RX1 := ⟨hx, hb, hml, hown, hts⟩
  subst hsz
  have hD := hD0.self (sz := s.heap.size)
  generalize hAe : va_A [(q0, .inr (4, [.null, .null, .null, .int 0]))] s.heap.size = A at hD ⊢
  have hA : ∀ q : Nat, s.heap.size ≤ q → A q := fun q h => by rw [← hAe]; exact Or.inr h
  have hS : va_S A s.heap s.heap [] := va_S.rf
  have hl := lv_entry ([.ref q0, .ref a1]) (n := 2) (Nat.le_of_ble_eq_true rfl)
  rw [lg_entry_eq]
  generalize (lg_sl ([.ref q0, .ref a1]) ++ List.replicate (2 - (lg_sl ([.ref q0, .ref a1])).length) Slot.unset).toArray = ls at hl ⊢
  have hl : lv_has ls 2 [(0, .ref q0), (1, .ref a1)] := hl
  have inX5 := in_ci_X1_X5_X5
  have f9 := hts (.fieldLink RX1 9 "RoomForms$Form" "room" "LRoomForms$Room;") (by decide +kernel)
  refine lv_aload_n hx hb dX1_init_0 rfl (lv_at hl 0 rfl) ?_
  refine W.objInit hx hb hown (hts (.methodLink RX1 3 objectInit) (by decide +kernel)) (hts (.instanceMethod objectInit) (by decide +kernel)) (hts (.code objectInit ⟨#[0xb1]⟩ 1 none) (by decide +kernel)) rfl (by rw [hml]; exact hl.1) rfl dX1_init_1 (Nat.le_of_ble_eq_true rfl) (Nat.le_of_ble_eq_true rfl) ?_
  refine W.eq (g2 := F0 m 4 ls []) rfl ?_
  refine lv_aload_n hx hb dX1_init_4 rfl (lv_at hl 0 rfl) ?_
  refine lv_aload_n hx hb dX1_init_5 rfl (lv_at hl 1 rfl) ?_
  refine va_putF (D := (dC, dI)) (ci := 4) (v := .ref a1) (ty := (.object "RoomForms$Room")) (C := RX5) (T := TX5) (N := 4) hx hb hts inX5 tyX5 tyX5_ok nmX5 hown hK hP hD hS 0 rfl rfl 0 (by decide) f9 (fun _ h9 => h9) rfl hin rfl (by decide +kernel) rfl rfl (Nat.le_of_ble_eq_true rfl) dX1_init_6 (fun H locs hP hD hS => ?_)
  have hP : va_P (dC, dI) vwCl [(q0, .inr (4, [.ref a1, .null, .null, .int 0]))] _ := hP
  have hD : va_D A [(q0, .inr (4, [.ref a1, .null, .null, .int 0]))] := hD
  exact W.vret hx hb hr (fun t ht hW => ⟨⟨(), rfl, trivial, by rw [ht]; exact hP, va_K.moved hW.alike hK, hD⟩, hS.F ht⟩) hS.2.2 dX1_init_9
abbrev rm_ci_X1_X6 : Room := { frames := 1, cells := 0, slots := 0, locals := 20 }
theorem in_ci_X1_X6_X6 : ∀ w ∈ wsX60, w ∈ wsX1_init := by decide +kernel
set_option maxHeartbeats 4000000 in
set_option maxRecDepth 100000 in
theorem ci_X1_X6 (l : Launch) (dC : Nat → ClassId) (dI : Nat → Nat → Nat) (cI cJ cZ : ClassId) (q0 : Nat) (a1 : Nat) (sz : Nat) : Met l yX1_init wsX1_init rm_ci_X1_X6 (zz_pre dC dI [(cI, .int), (cJ, .long), (cZ, .boolean)] [(q0, .inr (5, [.null, .null]))] sz [.ref q0, .ref a1]) (va_Qv (fun _ : Unit => True) (fun _ t => zz_wo dC dI [(cI, .int), (cJ, .long), (cZ, .boolean)] (va_A [(q0, .inr (5, [.null, .null]))] sz) [(q0, .inr (5, [.ref a1, .null]))] t) (va_A [(q0, .inr (5, [.null, .null]))] sz)) 0 0 (va_A [(q0, .inr (5, [.null, .null]))] sz) := by
  refine Met.ofW (cc := cX1_init) (maxL := 2) (ret := none) (by decide) rfl ?_
  intro p e s m args below meth c s₁ B hml hv
  obtain ⟨rfl, hsz, hP, hK, hD0, hN⟩ := hv
  have hx := B.exec
  have hb := B.bytes
  have hr := B.returns
  have hts := atoms_spec (ws := wsX1_init) B.pre
  have hown : s.vm.findClass RX1 = some m.cls := findClass_of_methodNamed B.named
  have hlocks := B.notSynchronized
  have hin : meth.name = "<init>" := (name_of_methodNamed B.named B.method).1
  have hS0 : CallFix p m c cX1_init 2 s #[.ref q0, .ref a1] wsX1_init RX1 := ⟨hx, hb, hml, hown, hts⟩
  subst hsz
  have hD := hD0.self (sz := s.heap.size)
  generalize hAe : va_A [(q0, .inr (5, [.null, .null]))] s.heap.size = A at hD ⊢
  have hA : ∀ q : Nat, s.heap.size ≤ q → A q := fun q h => by rw [← hAe]; exact Or.inr h
  have hS : va_S A s.heap s.heap [] := va_S.rf
  have hl := lv_entry ([.ref q0, .ref a1]) (n := 2) (Nat.le_of_ble_eq_true rfl)
  rw [lg_entry_eq]
  generalize (lg_sl ([.ref q0, .ref a1]) ++ List.replicate (2 - (lg_sl ([.ref q0, .ref a1])).length) Slot.unset).toArray = ls at hl ⊢
  have hl : lv_has ls 2 [(0, .ref q0), (1, .ref a1)] := hl
  have inX6 := in_ci_X1_X6_X6
  have f9 := hts (.fieldLink RX1 9 "RoomForms$Form" "room" "LRoomForms$Room;") (by decide +kernel)
  refine lv_aload_n hx hb dX1_init_0 rfl (lv_at hl 0 rfl) ?_
  refine W.objInit hx hb hown (hts (.methodLink RX1 3 objectInit) (by decide +kernel)) (hts (.instanceMethod objectInit) (by decide +kernel)) (hts (.code objectInit ⟨#[0xb1]⟩ 1 none) (by decide +kernel)) rfl (by rw [hml]; exact hl.1) rfl dX1_init_1 (Nat.le_of_ble_eq_true rfl) (Nat.le_of_ble_eq_true rfl) ?_
  refine W.eq (g2 := F0 m 4 ls []) rfl ?_
  refine lv_aload_n hx hb dX1_init_4 rfl (lv_at hl 0 rfl) ?_
  refine lv_aload_n hx hb dX1_init_5 rfl (lv_at hl 1 rfl) ?_
  refine va_putF (D := (dC, dI)) (ci := 5) (v := .ref a1) (ty := (.object "RoomForms$Room")) (C := RX6) (T := TX6) (N := 2) hx hb hts inX6 tyX6 tyX6_ok nmX6 hown hK hP hD hS 0 rfl rfl 0 (by decide) f9 (fun _ h9 => h9) rfl hin rfl (by decide +kernel) rfl rfl (Nat.le_of_ble_eq_true rfl) dX1_init_6 (fun H locs hP hD hS => ?_)
  have hP : va_P (dC, dI) vwCl [(q0, .inr (5, [.ref a1, .null]))] _ := hP
  have hD : va_D A [(q0, .inr (5, [.ref a1, .null]))] := hD
  exact W.vret hx hb hr (fun t ht hW => ⟨⟨(), rfl, trivial, by rw [ht]; exact hP, va_K.moved hW.alike hK, hD⟩, hS.F ht⟩) hS.2.2 dX1_init_9
abbrev rm_ci_X1_X9 : Room := { frames := 1, cells := 0, slots := 0, locals := 20 }
theorem in_ci_X1_X9_X9 : ∀ w ∈ wsX90, w ∈ wsX1_init := by decide +kernel
set_option maxHeartbeats 4000000 in
set_option maxRecDepth 100000 in
theorem ci_X1_X9 (l : Launch) (dC : Nat → ClassId) (dI : Nat → Nat → Nat) (cI cJ cZ : ClassId) (q0 : Nat) (a1 : Nat) (sz : Nat) : Met l yX1_init wsX1_init rm_ci_X1_X9 (zz_pre dC dI [(cI, .int), (cJ, .long), (cZ, .boolean)] [(q0, .inr (8, [.null, .int 0]))] sz [.ref q0, .ref a1]) (va_Qv (fun _ : Unit => True) (fun _ t => zz_wo dC dI [(cI, .int), (cJ, .long), (cZ, .boolean)] (va_A [(q0, .inr (8, [.null, .int 0]))] sz) [(q0, .inr (8, [.ref a1, .int 0]))] t) (va_A [(q0, .inr (8, [.null, .int 0]))] sz)) 0 0 (va_A [(q0, .inr (8, [.null, .int 0]))] sz) := by
  refine Met.ofW (cc := cX1_init) (maxL := 2) (ret := none) (by decide) rfl ?_
  intro p e s m args below meth c s₁ B hml hv
  obtain ⟨rfl, hsz, hP, hK, hD0, hN⟩ := hv
  have hx := B.exec
  have hb := B.bytes
  have hr := B.returns
  have hts := atoms_spec (ws := wsX1_init) B.pre
  have hown : s.vm.findClass RX1 = some m.cls := findClass_of_methodNamed B.named
  have hlocks := B.notSynchronized
  have hin : meth.name = "<init>" := (name_of_methodNamed B.named B.method).1
  have hS0 : CallFix p m c cX1_init 2 s #[.ref q0, .ref a1] wsX1_init RX1 := ⟨hx, hb, hml, hown, hts⟩
  subst hsz
  have hD := hD0.self (sz := s.heap.size)
  generalize hAe : va_A [(q0, .inr (8, [.null, .int 0]))] s.heap.size = A at hD ⊢
  have hA : ∀ q : Nat, s.heap.size ≤ q → A q := fun q h => by rw [← hAe]; exact Or.inr h
  have hS : va_S A s.heap s.heap [] := va_S.rf
  have hl := lv_entry ([.ref q0, .ref a1]) (n := 2) (Nat.le_of_ble_eq_true rfl)
  rw [lg_entry_eq]
  generalize (lg_sl ([.ref q0, .ref a1]) ++ List.replicate (2 - (lg_sl ([.ref q0, .ref a1])).length) Slot.unset).toArray = ls at hl ⊢
  have hl : lv_has ls 2 [(0, .ref q0), (1, .ref a1)] := hl
  have inX9 := in_ci_X1_X9_X9
  have f9 := hts (.fieldLink RX1 9 "RoomForms$Form" "room" "LRoomForms$Room;") (by decide +kernel)
  refine lv_aload_n hx hb dX1_init_0 rfl (lv_at hl 0 rfl) ?_
  refine W.objInit hx hb hown (hts (.methodLink RX1 3 objectInit) (by decide +kernel)) (hts (.instanceMethod objectInit) (by decide +kernel)) (hts (.code objectInit ⟨#[0xb1]⟩ 1 none) (by decide +kernel)) rfl (by rw [hml]; exact hl.1) rfl dX1_init_1 (Nat.le_of_ble_eq_true rfl) (Nat.le_of_ble_eq_true rfl) ?_
  refine W.eq (g2 := F0 m 4 ls []) rfl ?_
  refine lv_aload_n hx hb dX1_init_4 rfl (lv_at hl 0 rfl) ?_
  refine lv_aload_n hx hb dX1_init_5 rfl (lv_at hl 1 rfl) ?_
  refine va_putF (D := (dC, dI)) (ci := 8) (v := .ref a1) (ty := (.object "RoomForms$Room")) (C := RX9) (T := TX9) (N := 2) hx hb hts inX9 tyX9 tyX9_ok nmX9 hown hK hP hD hS 0 rfl rfl 0 (by decide) f9 (fun _ h9 => h9) rfl hin rfl (by decide +kernel) rfl rfl (Nat.le_of_ble_eq_true rfl) dX1_init_6 (fun H locs hP hD hS => ?_)
  have hP : va_P (dC, dI) vwCl [(q0, .inr (8, [.ref a1, .int 0]))] _ := hP
  have hD : va_D A [(q0, .inr (8, [.ref a1, .int 0]))] := hD
  exact W.vret hx hb hr (fun t ht hW => ⟨⟨(), rfl, trivial, by rw [ht]; exact hP, va_K.moved hW.alike hK, hD⟩, hS.F ht⟩) hS.2.2 dX1_init_9
abbrev rm_ci_X0 : Room := { frames := 2, cells := 0, slots := 0, locals := 41 }
theorem in_ci_X0_X0 : ∀ w ∈ wsX00, w ∈ wsX0_init := by decide +kernel
set_option maxHeartbeats 4000000 in
set_option maxRecDepth 100000 in
theorem ci_X0 (l : Launch) (dC : Nat → ClassId) (dI : Nat → Nat → Nat) (cI cJ cZ : ClassId) (q0 : Nat) (a1 : Nat) (p2 : Int32) (sz : Nat) : Met l yX0_init wsX0_init rm_ci_X0 (zz_pre dC dI [(cI, .int), (cJ, .long), (cZ, .boolean)] [(q0, .inr (0, [.null, .int 0, .int 0]))] sz [.ref q0, .ref a1, .int p2]) (va_Qv (fun _ : Unit => True) (fun _ t => zz_wo dC dI [(cI, .int), (cJ, .long), (cZ, .boolean)] (va_A [(q0, .inr (0, [.null, .int 0, .int 0]))] sz) [(q0, .inr (0, [.ref a1, .int p2, .int ((0 : Int32))]))] t) (va_A [(q0, .inr (0, [.null, .int 0, .int 0]))] sz)) 0 0 (va_A [(q0, .inr (0, [.null, .int 0, .int 0]))] sz) := by
  refine Met.ofW (cc := cX0_init) (maxL := 3) (ret := none) (by decide) rfl ?_
  intro p e s m args below meth c s₁ B hml hv
  obtain ⟨rfl, hsz, hP, hK, hD0, hN⟩ := hv
  have hx := B.exec
  have hb := B.bytes
  have hr := B.returns
  have hts := atoms_spec (ws := wsX0_init) B.pre
  have hown : s.vm.findClass RX0 = some m.cls := findClass_of_methodNamed B.named
  have hlocks := B.notSynchronized
  have hin : meth.name = "<init>" := (name_of_methodNamed B.named B.method).1
  have hS0 : CallFix p m c cX0_init 3 s #[.ref q0, .ref a1, .int p2] wsX0_init RX0 := ⟨hx, hb, hml, hown, hts⟩
  subst hsz
  have hD := hD0.self (sz := s.heap.size)
  generalize hAe : va_A [(q0, .inr (0, [.null, .int 0, .int 0]))] s.heap.size = A at hD ⊢
  have hA : ∀ q : Nat, s.heap.size ≤ q → A q := fun q h => by rw [← hAe]; exact Or.inr h
  have hS : va_S A s.heap s.heap [] := va_S.rf
  have hl := lv_entry ([.ref q0, .ref a1, .int p2]) (n := 3) (Nat.le_of_ble_eq_true rfl)
  rw [lg_entry_eq]
  generalize (lg_sl ([.ref q0, .ref a1, .int p2]) ++ List.replicate (3 - (lg_sl ([.ref q0, .ref a1, .int p2])).length) Slot.unset).toArray = ls at hl ⊢
  have hl : lv_has ls 3 [(0, .ref q0), (1, .ref a1), (2, .int p2)] := hl
  have inX0 := in_ci_X0_X0
  have f9 := hts (.fieldLink RX0 9 "RoomForms$Fits" "lastEnd" "I") (by decide +kernel)
  have f15 := hts (.fieldLink RX0 15 "RoomForms$Fits" "number" "I") (by decide +kernel)
  refine lv_aload_n hx hb dX0_init_0 rfl (lv_at hl 0 rfl) ?_
  refine lv_aload_n hx hb dX0_init_1 rfl (lv_at hl 1 rfl) ?_
  have hPc := hP.sub (ws' := [(q0, .inr (0, [.null, .int 0, .int 0]))]) [0] rfl
  have hDc := hD.sub (ws' := [(q0, .inr (0, [.null, .int 0, .int 0]))]) [0] (by decide) rfl
  have hFc := va_free (wc := [(q0, .inr (0, [.null, .int 0, .int 0]))]) hD hS hA [0] rfl
  refine va_callv (va_runI (As := [.ref a1]) (rest := []) hS0 (ci_X1_X0 l dC dI cI cJ cZ q0 a1 _) (cwI 1 hts gX0_init_X1_init rfl rfl rfl (hts (.initialized RX1) (by decide +kernel)) (hts (.methodLink RX0 3 yX1_init) (by decide +kernel)) (hts (.instanceMethod yX1_init) (by decide +kernel)) rfl (by decide +kernel) ⟨Nat.le_of_ble_eq_true rfl, Nat.le_of_ble_eq_true rfl⟩) (zz_ps hK hPc hDc hN) rfl rfl hl.1 rfl (lv_room (Nat.le_of_ble_eq_true rfl)) dX0_init_2 ⟨(Nat.le_of_ble_eq_true rfl), (Nat.le_of_ble_eq_true rfl)⟩) hS (fun q _ h => hFc q h) hFc (fun u t H1 locs ht hvm hw hB hz1 hk1 hS => ?_)
  obtain ⟨hP1, hK1, hD1⟩ := hB
  rw [ht] at hP1
  obtain ⟨hP, hD⟩ := va_join (wr := []) (w1 := [(q0, .inr (0, [.ref a1, .int 0, .int 0]))]) hP hD [0] [] rfl rfl (by decide) (by decide) hk1 hFc hP1 hD1
  have hP : va_P (dC, dI) vwCl [(q0, .inr (0, [.ref a1, .int 0, .int 0]))] _ := hP
  have hD : va_D A [(q0, .inr (0, [.ref a1, .int 0, .int 0]))] := hD
  refine W.widen (k := 0) (n := 0) (Nat.le_of_ble_eq_true rfl) (Nat.le_of_ble_eq_true rfl) ?_
  refine lv_aload_n hx hb dX0_init_5 rfl (lv_at hl 0 rfl) ?_
  refine lv_iconst (v := 0) hx hb dX0_init_6 (by decide) ?_
  refine va_put (D := (dC, dI)) (ci := 0) (v := .int ((0 : Int32))) (ty := .int) (C := RX0) (T := TX0) (N := 3) hx hb hts inX0 tyX0 tyX0_ok nmX0 hown hK hP hD hS 0 rfl rfl 2 (by decide) f9 (fun _ h9 => h9) rfl (by decide +kernel) rfl rfl (Nat.le_of_ble_eq_true rfl) dX0_init_7 (fun H locs hP hD hS => ?_)
  have hP : va_P (dC, dI) vwCl [(q0, .inr (0, [.ref a1, .int 0, .int ((0 : Int32))]))] _ := hP
  have hD : va_D A [(q0, .inr (0, [.ref a1, .int 0, .int ((0 : Int32))]))] := hD
  refine lv_aload_n hx hb dX0_init_10 rfl (lv_at hl 0 rfl) ?_
  refine lv_iload_n hx hb dX0_init_11 rfl (lv_at hl 2 rfl) ?_
  refine va_putF (D := (dC, dI)) (ci := 0) (v := .int p2) (ty := .int) (C := RX0) (T := TX0) (N := 3) hx hb hts inX0 tyX0 tyX0_ok nmX0 hown hK hP hD hS 0 rfl rfl 1 (by decide) f15 (fun _ h9 => h9) rfl hin rfl (by decide +kernel) rfl rfl (Nat.le_of_ble_eq_true rfl) dX0_init_12 (fun H locs hP hD hS => ?_)
  have hP : va_P (dC, dI) vwCl [(q0, .inr (0, [.ref a1, .int p2, .int ((0 : Int32))]))] _ := hP
  have hD : va_D A [(q0, .inr (0, [.ref a1, .int p2, .int ((0 : Int32))]))] := hD
  exact W.vret hx hb hr (fun t ht hW => ⟨⟨(), rfl, trivial, by rw [ht]; exact hP, va_K.moved hW.alike hK, hD⟩, hS.F ht⟩) hS.2.2 dX0_init_15
abbrev rm_ci_X2 : Room := { frames := 2, cells := 0, slots := 0, locals := 41 }
theorem in_ci_X2_X2 : ∀ w ∈ wsX20, w ∈ wsX2_init := by decide +kernel
set_option maxHeartbeats 4000000 in
set_option maxRecDepth 100000 in
theorem ci_X2 (l : Launch) (dC : Nat → ClassId) (dI : Nat → Nat → Nat) (cI cJ cZ : ClassId) (q0 : Nat) (a1 : Nat) (sz : Nat) : Met l yX2_init wsX2_init rm_ci_X2 (zz_pre dC dI [(cI, .int), (cJ, .long), (cZ, .boolean)] [(q0, .inr (1, [.null, .int 0]))] sz [.ref q0, .ref a1]) (va_Qv (fun _ : Unit => True) (fun _ t => zz_wo dC dI [(cI, .int), (cJ, .long), (cZ, .boolean)] (va_A [(q0, .inr (1, [.null, .int 0]))] sz) [(q0, .inr (1, [.ref a1, .int ((0 : Int32))]))] t) (va_A [(q0, .inr (1, [.null, .int 0]))] sz)) 0 0 (va_A [(q0, .inr (1, [.null, .int 0]))] sz) := by
  refine Met.ofW (cc := cX2_init) (maxL := 2) (ret := none) (by decide) rfl ?_
  intro p e s m args below meth c s₁ B hml hv
  obtain ⟨rfl, hsz, hP, hK, hD0, hN⟩ := hv
  have hx := B.exec
  have hb := B.bytes
  have hr := B.returns
  have hts := atoms_spec (ws := wsX2_init) B.pre
  have hown : s.vm.findClass RX2 = some m.cls := findClass_of_methodNamed B.named
  have hlocks := B.notSynchronized
  have hin : meth.name = "<init>" := (name_of_methodNamed B.named B.method).1
  have hS0 : CallFix p m c cX2_init 2 s #[.ref q0, .ref a1] wsX2_init RX2 := ⟨hx, hb, hml, hown, hts⟩
  subst hsz
  have hD := hD0.self (sz := s.heap.size)
  generalize hAe : va_A [(q0, .inr (1, [.null, .int 0]))] s.heap.size = A at hD ⊢
  have hA : ∀ q : Nat, s.heap.size ≤ q → A q := fun q h => by rw [← hAe]; exact Or.inr h
  have hS : va_S A s.heap s.heap [] := va_S.rf
  have hl := lv_entry ([.ref q0, .ref a1]) (n := 2) (Nat.le_of_ble_eq_true rfl)
  rw [lg_entry_eq]
  generalize (lg_sl ([.ref q0, .ref a1]) ++ List.replicate (2 - (lg_sl ([.ref q0, .ref a1])).length) Slot.unset).toArray = ls at hl ⊢
  have hl : lv_has ls 2 [(0, .ref q0), (1, .ref a1)] := hl
  have inX2 := in_ci_X2_X2
  have f9 := hts (.fieldLink RX2 9 "RoomForms$Grains" "grains" "I") (by decide +kernel)
  refine lv_aload_n hx hb dX2_init_0 rfl (lv_at hl 0 rfl) ?_
  refine lv_aload_n hx hb dX2_init_1 rfl (lv_at hl 1 rfl) ?_
  have hPc := hP.sub (ws' := [(q0, .inr (1, [.null, .int 0]))]) [0] rfl
  have hDc := hD.sub (ws' := [(q0, .inr (1, [.null, .int 0]))]) [0] (by decide) rfl
  have hFc := va_free (wc := [(q0, .inr (1, [.null, .int 0]))]) hD hS hA [0] rfl
  refine va_callv (va_runI (As := [.ref a1]) (rest := []) hS0 (ci_X1_X2 l dC dI cI cJ cZ q0 a1 _) (cwI 1 hts gX2_init_X1_init rfl rfl rfl (hts (.initialized RX1) (by decide +kernel)) (hts (.methodLink RX2 3 yX1_init) (by decide +kernel)) (hts (.instanceMethod yX1_init) (by decide +kernel)) rfl (by decide +kernel) ⟨Nat.le_of_ble_eq_true rfl, Nat.le_of_ble_eq_true rfl⟩) (zz_ps hK hPc hDc hN) rfl rfl hl.1 rfl (lv_room (Nat.le_of_ble_eq_true rfl)) dX2_init_2 ⟨(Nat.le_of_ble_eq_true rfl), (Nat.le_of_ble_eq_true rfl)⟩) hS (fun q _ h => hFc q h) hFc (fun u t H1 locs ht hvm hw hB hz1 hk1 hS => ?_)
  obtain ⟨hP1, hK1, hD1⟩ := hB
  rw [ht] at hP1
  obtain ⟨hP, hD⟩ := va_join (wr := []) (w1 := [(q0, .inr (1, [.ref a1, .int 0]))]) hP hD [0] [] rfl rfl (by decide) (by decide) hk1 hFc hP1 hD1
  have hP : va_P (dC, dI) vwCl [(q0, .inr (1, [.ref a1, .int 0]))] _ := hP
  have hD : va_D A [(q0, .inr (1, [.ref a1, .int 0]))] := hD
  refine W.widen (k := 0) (n := 0) (Nat.le_of_ble_eq_true rfl) (Nat.le_of_ble_eq_true rfl) ?_
  refine lv_aload_n hx hb dX2_init_5 rfl (lv_at hl 0 rfl) ?_
  refine lv_iconst (v := 0) hx hb dX2_init_6 (by decide) ?_
  refine va_put (D := (dC, dI)) (ci := 1) (v := .int ((0 : Int32))) (ty := .int) (C := RX2) (T := TX2) (N := 2) hx hb hts inX2 tyX2 tyX2_ok nmX2 hown hK hP hD hS 0 rfl rfl 1 (by decide) f9 (fun _ h9 => h9) rfl (by decide +kernel) rfl rfl (Nat.le_of_ble_eq_true rfl) dX2_init_7 (fun H locs hP hD hS => ?_)
  have hP : va_P (dC, dI) vwCl [(q0, .inr (1, [.ref a1, .int ((0 : Int32))]))] _ := hP
  have hD : va_D A [(q0, .inr (1, [.ref a1, .int ((0 : Int32))]))] := hD
  exact W.vret hx hb hr (fun t ht hW => ⟨⟨(), rfl, trivial, by rw [ht]; exact hP, va_K.moved hW.alike hK, hD⟩, hS.F ht⟩) hS.2.2 dX2_init_10
abbrev rm_ci_X3 : Room := { frames := 2, cells := 1, slots := 1024, locals := 41 }
theorem in_ci_X3_X3 : ∀ w ∈ wsX30, w ∈ wsX3_init := by decide +kernel
set_option maxHeartbeats 4000000 in
set_option maxRecDepth 100000 in
theorem ci_X3 (l : Launch) (dC : Nat → ClassId) (dI : Nat → Nat → Nat) (cI cJ cZ : ClassId) (q0 : Nat) (a1 : Nat) (sz : Nat) : Met l yX3_init wsX3_init rm_ci_X3 (zz_pre dC dI [(cI, .int), (cJ, .long), (cZ, .boolean)] [(q0, .inr (2, [.null, .null, .int 0]))] sz [.ref q0, .ref a1]) (va_Qv (fun _ : Unit => True) (fun _ t => ∃ b1 : Nat, zz_wo dC dI [(cI, .int), (cJ, .long), (cZ, .boolean)] (va_A [(q0, .inr (2, [.null, .null, .int 0]))] sz) [(q0, .inr (2, [.ref a1, .ref b1, .int ((0 : Int32))])), (b1, .inl (cI, 1024, .inl (fun _ => 0)))] t) (va_A [(q0, .inr (2, [.null, .null, .int 0]))] sz)) 1 1024 (va_A [(q0, .inr (2, [.null, .null, .int 0]))] sz) := by
  refine Met.ofW (cc := cX3_init) (maxL := 2) (ret := none) (by decide) rfl ?_
  intro p e s m args below meth c s₁ B hml hv
  obtain ⟨rfl, hsz, hP, hK, hD0, hN⟩ := hv
  have hx := B.exec
  have hb := B.bytes
  have hr := B.returns
  have hts := atoms_spec (ws := wsX3_init) B.pre
  have hown : s.vm.findClass RX3 = some m.cls := findClass_of_methodNamed B.named
  have hlocks := B.notSynchronized
  have hin : meth.name = "<init>" := (name_of_methodNamed B.named B.method).1
  have hS0 : CallFix p m c cX3_init 2 s #[.ref q0, .ref a1] wsX3_init RX3 := ⟨hx, hb, hml, hown, hts⟩
  subst hsz
  have hD := hD0.self (sz := s.heap.size)
  generalize hAe : va_A [(q0, .inr (2, [.null, .null, .int 0]))] s.heap.size = A at hD ⊢
  have hA : ∀ q : Nat, s.heap.size ≤ q → A q := fun q h => by rw [← hAe]; exact Or.inr h
  have hS : va_S A s.heap s.heap [] := va_S.rf
  have hl := lv_entry ([.ref q0, .ref a1]) (n := 2) (Nat.le_of_ble_eq_true rfl)
  rw [lg_entry_eq]
  generalize (lg_sl ([.ref q0, .ref a1]) ++ List.replicate (2 - (lg_sl ([.ref q0, .ref a1])).length) Slot.unset).toArray = ls at hl ⊢
  have hl : lv_has ls 2 [(0, .ref q0), (1, .ref a1)] := hl
  have inX3 := in_ci_X3_X3
  have f9 := hts (.fieldLink RX3 9 "RoomForms$Halves" "pieces" "[I") (by decide +kernel)
  have f15 := hts (.fieldLink RX3 15 "RoomForms$Halves" "whole" "I") (by decide +kernel)
  refine lv_aload_n hx hb dX3_init_0 rfl (lv_at hl 0 rfl) ?_
  refine lv_aload_n hx hb dX3_init_1 rfl (lv_at hl 1 rfl) ?_
  have hPc := hP.sub (ws' := [(q0, .inr (2, [.null, .null, .int 0]))]) [0] rfl
  have hDc := hD.sub (ws' := [(q0, .inr (2, [.null, .null, .int 0]))]) [0] (by decide) rfl
  have hFc := va_free (wc := [(q0, .inr (2, [.null, .null, .int 0]))]) hD hS hA [0] rfl
  refine va_callv (va_runI (As := [.ref a1]) (rest := []) hS0 (ci_X1_X3 l dC dI cI cJ cZ q0 a1 _) (cwI 1 hts gX3_init_X1_init rfl rfl rfl (hts (.initialized RX1) (by decide +kernel)) (hts (.methodLink RX3 3 yX1_init) (by decide +kernel)) (hts (.instanceMethod yX1_init) (by decide +kernel)) rfl (by decide +kernel) ⟨Nat.le_of_ble_eq_true rfl, Nat.le_of_ble_eq_true rfl⟩) (zz_ps hK hPc hDc hN) rfl rfl hl.1 rfl (lv_room (Nat.le_of_ble_eq_true rfl)) dX3_init_2 ⟨(Nat.le_of_ble_eq_true rfl), (Nat.le_of_ble_eq_true rfl)⟩) hS (fun q _ h => hFc q h) hFc (fun u t H1 locs ht hvm hw hB hz1 hk1 hS => ?_)
  obtain ⟨hP1, hK1, hD1⟩ := hB
  rw [ht] at hP1
  obtain ⟨hP, hD⟩ := va_join (wr := []) (w1 := [(q0, .inr (2, [.ref a1, .null, .int 0]))]) hP hD [0] [] rfl rfl (by decide) (by decide) hk1 hFc hP1 hD1
  have hP : va_P (dC, dI) vwCl [(q0, .inr (2, [.ref a1, .null, .int 0]))] _ := hP
  have hD : va_D A [(q0, .inr (2, [.ref a1, .null, .int 0]))] := hD
  refine W.widen (k := 0) (n := 0) (Nat.le_of_ble_eq_true rfl) (Nat.le_of_ble_eq_true rfl) ?_
  refine lv_aload_n hx hb dX3_init_5 rfl (lv_at hl 0 rfl) ?_
  refine lv_sipush (v := 1024) hx hb dX3_init_6 (by decide) ?_
  refine va_newa (atype := .int) (a0 := (1024, .inl (fun _ => 0))) (N' := 1024) (ty := .int) hx hb (hts (.arrayClass .int) (by decide +kernel)) rfl hK hP hD hS hA (fun _ => rfl) (by decide) (by decide) (by decide) (Nat.le_of_ble_eq_true rfl) (Nat.le_of_ble_eq_true rfl) dX3_init_9 (fun b1 cA H hK9 hP hD hS => ?_)
  obtain rfl := zz_cI hK9
  have hP : va_P (dC, dI) vwCl [(q0, .inr (2, [.ref a1, .null, .int 0])), (b1, .inl (cI, 1024, .inl (fun _ => 0)))] _ := hP
  have hD : va_D A [(q0, .inr (2, [.ref a1, .null, .int 0])), (b1, .inl (cI, 1024, .inl (fun _ => 0)))] := hD
  refine W.widen (k := 1) (n := 1024) (Nat.le_of_ble_eq_true rfl) (Nat.le_of_ble_eq_true rfl) ?_
  refine va_putF (D := (dC, dI)) (ci := 2) (v := .ref b1) (ty := (.array .int)) (C := RX3) (T := TX3) (N := 3) hx hb hts inX3 tyX3 tyX3_ok nmX3 hown hK hP hD hS 0 rfl rfl 1 (by decide) f9 (fun _ h9 => h9) rfl hin rfl (by decide +kernel) rfl rfl (Nat.le_of_ble_eq_true rfl) dX3_init_11 (fun H locs hP hD hS => ?_)
  have hP : va_P (dC, dI) vwCl [(q0, .inr (2, [.ref a1, .ref b1, .int 0])), (b1, .inl (cI, 1024, .inl (fun _ => 0)))] _ := hP
  have hD : va_D A [(q0, .inr (2, [.ref a1, .ref b1, .int 0])), (b1, .inl (cI, 1024, .inl (fun _ => 0)))] := hD
  refine lv_aload_n hx hb dX3_init_14 rfl (lv_at hl 0 rfl) ?_
  refine lv_iconst (v := 0) hx hb dX3_init_15 (by decide) ?_
  refine va_put (D := (dC, dI)) (ci := 2) (v := .int ((0 : Int32))) (ty := .int) (C := RX3) (T := TX3) (N := 3) hx hb hts inX3 tyX3 tyX3_ok nmX3 hown hK hP hD hS 0 rfl rfl 2 (by decide) f15 (fun _ h9 => h9) rfl (by decide +kernel) rfl rfl (Nat.le_of_ble_eq_true rfl) dX3_init_16 (fun H locs hP hD hS => ?_)
  have hP : va_P (dC, dI) vwCl [(q0, .inr (2, [.ref a1, .ref b1, .int ((0 : Int32))])), (b1, .inl (cI, 1024, .inl (fun _ => 0)))] _ := hP
  have hD : va_D A [(q0, .inr (2, [.ref a1, .ref b1, .int ((0 : Int32))])), (b1, .inl (cI, 1024, .inl (fun _ => 0)))] := hD
  exact W.vret hx hb hr (fun t ht hW => ⟨⟨(), rfl, trivial, b1, by rw [ht]; exact hP, va_K.moved hW.alike hK, hD⟩, hS.F ht⟩) hS.2.2 dX3_init_19
abbrev rm_ci_X4 : Room := { frames := 2, cells := 3, slots := 406, locals := 43 }
theorem in_ci_X4_X10 : ∀ w ∈ wsX100, w ∈ wsX4_init := by decide +kernel
theorem in_ci_X4_X4 : ∀ w ∈ wsX40, w ∈ wsX4_init := by decide +kernel
set_option maxHeartbeats 4000000 in
set_option maxRecDepth 100000 in
theorem ci_X4 (l : Launch) (dC : Nat → ClassId) (dI : Nat → Nat → Nat) (cI cJ cZ : ClassId) (q0 : Nat) (a1 : Nat) (sz : Nat) : Met l yX4_init wsX4_init rm_ci_X4 (zz_pre dC dI [(cI, .int), (cJ, .long), (cZ, .boolean)] [(q0, .inr (3, [.null, .null]))] sz [.ref q0, .ref a1]) (va_Qv (fun _ : Unit => True) (fun _ t => ∃ b1 b2 b3 : Nat, zz_wo dC dI [(cI, .int), (cJ, .long), (cZ, .boolean)] (va_A [(q0, .inr (3, [.null, .null]))] sz) [(q0, .inr (3, [.ref a1, .ref b1])), (b1, .inr (9, [.ref b2, .ref b3, .int ((0 : Int32)), .int ((0 : Int32))])), (b2, .inl (cI, 201, .inl (fun _ => 0))), (b3, .inl (cI, 201, .inl (fun _ => 0)))] t) (va_A [(q0, .inr (3, [.null, .null]))] sz)) 3 406 (va_A [(q0, .inr (3, [.null, .null]))] sz) := by
  refine Met.ofW (cc := cX4_init) (maxL := 2) (ret := none) (by decide) rfl ?_
  intro p e s m args below meth c s₁ B hml hv
  obtain ⟨rfl, hsz, hP, hK, hD0, hN⟩ := hv
  have hx := B.exec
  have hb := B.bytes
  have hr := B.returns
  have hts := atoms_spec (ws := wsX4_init) B.pre
  have hown : s.vm.findClass RX4 = some m.cls := findClass_of_methodNamed B.named
  have hlocks := B.notSynchronized
  have hin : meth.name = "<init>" := (name_of_methodNamed B.named B.method).1
  have hS0 : CallFix p m c cX4_init 2 s #[.ref q0, .ref a1] wsX4_init RX4 := ⟨hx, hb, hml, hown, hts⟩
  subst hsz
  have hD := hD0.self (sz := s.heap.size)
  generalize hAe : va_A [(q0, .inr (3, [.null, .null]))] s.heap.size = A at hD ⊢
  have hA : ∀ q : Nat, s.heap.size ≤ q → A q := fun q h => by rw [← hAe]; exact Or.inr h
  have hS : va_S A s.heap s.heap [] := va_S.rf
  have hl := lv_entry ([.ref q0, .ref a1]) (n := 2) (Nat.le_of_ble_eq_true rfl)
  rw [lg_entry_eq]
  generalize (lg_sl ([.ref q0, .ref a1]) ++ List.replicate (2 - (lg_sl ([.ref q0, .ref a1])).length) Slot.unset).toArray = ls at hl ⊢
  have hl : lv_has ls 2 [(0, .ref q0), (1, .ref a1)] := hl
  have inX10 := in_ci_X4_X10
  have inX4 := in_ci_X4_X4
  have f14 := hts (.fieldLink RX4 14 "RoomForms$Levels" "runs" "LRoomForms$Stretches;") (by decide +kernel)
  refine lv_aload_n hx hb dX4_init_0 rfl (lv_at hl 0 rfl) ?_
  refine lv_aload_n hx hb dX4_init_1 rfl (lv_at hl 1 rfl) ?_
  have hPc := hP.sub (ws' := [(q0, .inr (3, [.null, .null]))]) [0] rfl
  have hDc := hD.sub (ws' := [(q0, .inr (3, [.null, .null]))]) [0] (by decide) rfl
  have hFc := va_free (wc := [(q0, .inr (3, [.null, .null]))]) hD hS hA [0] rfl
  refine va_callv (va_runI (As := [.ref a1]) (rest := []) hS0 (ci_X1_X4 l dC dI cI cJ cZ q0 a1 _) (cwI 1 hts gX4_init_X1_init rfl rfl rfl (hts (.initialized RX1) (by decide +kernel)) (hts (.methodLink RX4 3 yX1_init) (by decide +kernel)) (hts (.instanceMethod yX1_init) (by decide +kernel)) rfl (by decide +kernel) ⟨Nat.le_of_ble_eq_true rfl, Nat.le_of_ble_eq_true rfl⟩) (zz_ps hK hPc hDc hN) rfl rfl hl.1 rfl (lv_room (Nat.le_of_ble_eq_true rfl)) dX4_init_2 ⟨(Nat.le_of_ble_eq_true rfl), (Nat.le_of_ble_eq_true rfl)⟩) hS (fun q _ h => hFc q h) hFc (fun u t H1 locs ht hvm hw hB hz1 hk1 hS => ?_)
  obtain ⟨hP1, hK1, hD1⟩ := hB
  rw [ht] at hP1
  obtain ⟨hP, hD⟩ := va_join (wr := []) (w1 := [(q0, .inr (3, [.ref a1, .null]))]) hP hD [0] [] rfl rfl (by decide) (by decide) hk1 hFc hP1 hD1
  have hP : va_P (dC, dI) vwCl [(q0, .inr (3, [.ref a1, .null]))] _ := hP
  have hD : va_D A [(q0, .inr (3, [.ref a1, .null]))] := hD
  refine W.widen (k := 0) (n := 0) (Nat.le_of_ble_eq_true rfl) (Nat.le_of_ble_eq_true rfl) ?_
  refine lv_aload_n hx hb dX4_init_5 rfl (lv_at hl 0 rfl) ?_
  refine va_new (ci := 9) (fs := [.null, .null, .int 0, .int 0]) (C := RX10) (T := TX10) (N := 4) hx hb hts inX10 tyX10 tyX10_ok hown (hts (.classLink RX4 9 RX10) (by decide +kernel)) (hts (.instantiable RX10 4) (by decide +kernel)) (hts (.initialized RX10) (by decide +kernel)) hK hP hD hS hA rfl (fun j hj => by rcases (show j = 0 ∨ j = 1 ∨ j = 2 ∨ j = 3 by omega) with rfl | rfl | rfl | rfl <;> rfl) (Nat.le_of_ble_eq_true rfl) (Nat.le_of_ble_eq_true rfl) dX4_init_6 (fun b1 H hP hD hS => ?_)
  have hP : va_P (dC, dI) vwCl [(q0, .inr (3, [.ref a1, .null])), (b1, .inr (9, [.null, .null, .int 0, .int 0]))] _ := hP
  have hD : va_D A [(q0, .inr (3, [.ref a1, .null])), (b1, .inr (9, [.null, .null, .int 0, .int 0]))] := hD
  refine W.widen (k := 1) (n := 4) (Nat.le_of_ble_eq_true rfl) (Nat.le_of_ble_eq_true rfl) ?_
  refine lv_dup hx hb dX4_init_9 rfl ?_
  refine lv_sipush (v := 201) hx hb dX4_init_10 (by decide) ?_
  have hPc := hP.sub (ws' := [(b1, .inr (9, [.null, .null, .int 0, .int 0]))]) [1] rfl
  have hDc := hD.sub (ws' := [(b1, .inr (9, [.null, .null, .int 0, .int 0]))]) [1] (by decide) rfl
  have hFc := va_free (wc := [(b1, .inr (9, [.null, .null, .int 0, .int 0]))]) hD hS hA [1] rfl
  refine va_callv (va_runI (As := [.int ((201 : Int32))]) (rest := [.ref b1, .ref q0]) hS0 (ci_X10_201 l dC dI cI cJ cZ b1 _) (cwI 1 hts gX4_init_X10_init rfl rfl rfl (hts (.initialized RX10) (by decide +kernel)) (hts (.methodLink RX4 11 yX10_init) (by decide +kernel)) (hts (.instanceMethod yX10_init) (by decide +kernel)) rfl (by decide +kernel) ⟨Nat.le_of_ble_eq_true rfl, Nat.le_of_ble_eq_true rfl⟩) (zz_ps hK hPc hDc hN) rfl rfl hl.1 rfl (lv_room (Nat.le_of_ble_eq_true rfl)) dX4_init_13 ⟨(Nat.le_of_ble_eq_true rfl), (Nat.le_of_ble_eq_true rfl)⟩) hS (fun q _ h => hFc q h) hFc (fun u t H1 locs ht hvm hw hB hz1 hk1 hS => ?_)
  obtain ⟨b2, b3, hP1, hK1, hD1⟩ := hB
  rw [ht] at hP1
  obtain ⟨hP, hD⟩ := va_join (wr := [(q0, .inr (3, [.ref a1, .null]))]) (w1 := [(b1, .inr (9, [.ref b2, .ref b3, .int ((0 : Int32)), .int ((0 : Int32))])), (b2, .inl (cI, 201, .inl (fun _ => 0))), (b3, .inl (cI, 201, .inl (fun _ => 0)))]) hP hD [1] [0] rfl rfl (by decide) (by decide) hk1 hFc hP1 hD1
  have hP : va_P (dC, dI) vwCl [(q0, .inr (3, [.ref a1, .null])), (b1, .inr (9, [.ref b2, .ref b3, .int ((0 : Int32)), .int ((0 : Int32))])), (b2, .inl (cI, 201, .inl (fun _ => 0))), (b3, .inl (cI, 201, .inl (fun _ => 0)))] _ := hP
  have hD : va_D A [(q0, .inr (3, [.ref a1, .null])), (b1, .inr (9, [.ref b2, .ref b3, .int ((0 : Int32)), .int ((0 : Int32))])), (b2, .inl (cI, 201, .inl (fun _ => 0))), (b3, .inl (cI, 201, .inl (fun _ => 0)))] := hD
  refine W.widen (k := 3) (n := 406) (Nat.le_of_ble_eq_true rfl) (Nat.le_of_ble_eq_true rfl) ?_
  refine va_putF (D := (dC, dI)) (ci := 3) (v := .ref b1) (ty := (.object "RoomForms$Stretches")) (C := RX4) (T := TX4) (N := 2) hx hb hts inX4 tyX4 tyX4_ok nmX4 hown hK hP hD hS 0 rfl rfl 1 (by decide) f14 (fun _ h9 => h9) rfl hin rfl (by decide +kernel) rfl rfl (Nat.le_of_ble_eq_true rfl) dX4_init_16 (fun H locs hP hD hS => ?_)
  have hP : va_P (dC, dI) vwCl [(q0, .inr (3, [.ref a1, .ref b1])), (b1, .inr (9, [.ref b2, .ref b3, .int ((0 : Int32)), .int ((0 : Int32))])), (b2, .inl (cI, 201, .inl (fun _ => 0))), (b3, .inl (cI, 201, .inl (fun _ => 0)))] _ := hP
  have hD : va_D A [(q0, .inr (3, [.ref a1, .ref b1])), (b1, .inr (9, [.ref b2, .ref b3, .int ((0 : Int32)), .int ((0 : Int32))])), (b2, .inl (cI, 201, .inl (fun _ => 0))), (b3, .inl (cI, 201, .inl (fun _ => 0)))] := hD
  exact W.vret hx hb hr (fun t ht hW => ⟨⟨(), rfl, trivial, b1, b2, b3, by rw [ht]; exact hP, va_K.moved hW.alike hK, hD⟩, hS.F ht⟩) hS.2.2 dX4_init_19
abbrev rm_ci_X5 : Room := { frames := 2, cells := 2, slots := 64, locals := 41 }
theorem in_ci_X5_X5 : ∀ w ∈ wsX50, w ∈ wsX5_init := by decide +kernel
set_option maxHeartbeats 4000000 in
set_option maxRecDepth 100000 in
theorem ci_X5 (l : Launch) (dC : Nat → ClassId) (dI : Nat → Nat → Nat) (cI cJ cZ : ClassId) (q0 : Nat) (a1 : Nat) (sz : Nat) : Met l yX5_init wsX5_init rm_ci_X5 (zz_pre dC dI [(cI, .int), (cJ, .long), (cZ, .boolean)] [(q0, .inr (4, [.null, .null, .null, .int 0]))] sz [.ref q0, .ref a1]) (va_Qv (fun _ : Unit => True) (fun _ t => ∃ b1 b2 : Nat, zz_wo dC dI [(cI, .int), (cJ, .long), (cZ, .boolean)] (va_A [(q0, .inr (4, [.null, .null, .null, .int 0]))] sz) [(q0, .inr (4, [.ref a1, .ref b1, .ref b2, .int ((0 : Int32))])), (b1, .inl (cI, 32, .inl (fun _ => 0))), (b2, .inl (cI, 32, .inl (fun _ => 0)))] t) (va_A [(q0, .inr (4, [.null, .null, .null, .int 0]))] sz)) 2 64 (va_A [(q0, .inr (4, [.null, .null, .null, .int 0]))] sz) := by
  refine Met.ofW (cc := cX5_init) (maxL := 2) (ret := none) (by decide) rfl ?_
  intro p e s m args below meth c s₁ B hml hv
  obtain ⟨rfl, hsz, hP, hK, hD0, hN⟩ := hv
  have hx := B.exec
  have hb := B.bytes
  have hr := B.returns
  have hts := atoms_spec (ws := wsX5_init) B.pre
  have hown : s.vm.findClass RX5 = some m.cls := findClass_of_methodNamed B.named
  have hlocks := B.notSynchronized
  have hin : meth.name = "<init>" := (name_of_methodNamed B.named B.method).1
  have hS0 : CallFix p m c cX5_init 2 s #[.ref q0, .ref a1] wsX5_init RX5 := ⟨hx, hb, hml, hown, hts⟩
  subst hsz
  have hD := hD0.self (sz := s.heap.size)
  generalize hAe : va_A [(q0, .inr (4, [.null, .null, .null, .int 0]))] s.heap.size = A at hD ⊢
  have hA : ∀ q : Nat, s.heap.size ≤ q → A q := fun q h => by rw [← hAe]; exact Or.inr h
  have hS : va_S A s.heap s.heap [] := va_S.rf
  have hl := lv_entry ([.ref q0, .ref a1]) (n := 2) (Nat.le_of_ble_eq_true rfl)
  rw [lg_entry_eq]
  generalize (lg_sl ([.ref q0, .ref a1]) ++ List.replicate (2 - (lg_sl ([.ref q0, .ref a1])).length) Slot.unset).toArray = ls at hl ⊢
  have hl : lv_has ls 2 [(0, .ref q0), (1, .ref a1)] := hl
  have inX5 := in_ci_X5_X5
  have f11 := hts (.fieldLink RX5 11 "RoomForms$Pages" "spans" "[I") (by decide +kernel)
  have f15 := hts (.fieldLink RX5 15 "RoomForms$Pages" "blocks" "[I") (by decide +kernel)
  have f18 := hts (.fieldLink RX5 18 "RoomForms$Pages" "pages" "I") (by decide +kernel)
  refine lv_aload_n hx hb dX5_init_0 rfl (lv_at hl 0 rfl) ?_
  refine lv_aload_n hx hb dX5_init_1 rfl (lv_at hl 1 rfl) ?_
  have hPc := hP.sub (ws' := [(q0, .inr (4, [.null, .null, .null, .int 0]))]) [0] rfl
  have hDc := hD.sub (ws' := [(q0, .inr (4, [.null, .null, .null, .int 0]))]) [0] (by decide) rfl
  have hFc := va_free (wc := [(q0, .inr (4, [.null, .null, .null, .int 0]))]) hD hS hA [0] rfl
  refine va_callv (va_runI (As := [.ref a1]) (rest := []) hS0 (ci_X1_X5 l dC dI cI cJ cZ q0 a1 _) (cwI 1 hts gX5_init_X1_init rfl rfl rfl (hts (.initialized RX1) (by decide +kernel)) (hts (.methodLink RX5 3 yX1_init) (by decide +kernel)) (hts (.instanceMethod yX1_init) (by decide +kernel)) rfl (by decide +kernel) ⟨Nat.le_of_ble_eq_true rfl, Nat.le_of_ble_eq_true rfl⟩) (zz_ps hK hPc hDc hN) rfl rfl hl.1 rfl (lv_room (Nat.le_of_ble_eq_true rfl)) dX5_init_2 ⟨(Nat.le_of_ble_eq_true rfl), (Nat.le_of_ble_eq_true rfl)⟩) hS (fun q _ h => hFc q h) hFc (fun u t H1 locs ht hvm hw hB hz1 hk1 hS => ?_)
  obtain ⟨hP1, hK1, hD1⟩ := hB
  rw [ht] at hP1
  obtain ⟨hP, hD⟩ := va_join (wr := []) (w1 := [(q0, .inr (4, [.ref a1, .null, .null, .int 0]))]) hP hD [0] [] rfl rfl (by decide) (by decide) hk1 hFc hP1 hD1
  have hP : va_P (dC, dI) vwCl [(q0, .inr (4, [.ref a1, .null, .null, .int 0]))] _ := hP
  have hD : va_D A [(q0, .inr (4, [.ref a1, .null, .null, .int 0]))] := hD
  refine W.widen (k := 0) (n := 0) (Nat.le_of_ble_eq_true rfl) (Nat.le_of_ble_eq_true rfl) ?_
  refine lv_aload_n hx hb dX5_init_5 rfl (lv_at hl 0 rfl) ?_
  refine lv_bipush (v := 32) hx hb dX5_init_6 (by decide) ?_
  refine va_newa (atype := .int) (a0 := (32, .inl (fun _ => 0))) (N' := 32) (ty := .int) hx hb (hts (.arrayClass .int) (by decide +kernel)) rfl hK hP hD hS hA (fun _ => rfl) (by decide) (by decide) (by decide) (Nat.le_of_ble_eq_true rfl) (Nat.le_of_ble_eq_true rfl) dX5_init_8 (fun b1 cA H hK9 hP hD hS => ?_)
  obtain rfl := zz_cI hK9
  have hP : va_P (dC, dI) vwCl [(q0, .inr (4, [.ref a1, .null, .null, .int 0])), (b1, .inl (cI, 32, .inl (fun _ => 0)))] _ := hP
  have hD : va_D A [(q0, .inr (4, [.ref a1, .null, .null, .int 0])), (b1, .inl (cI, 32, .inl (fun _ => 0)))] := hD
  refine W.widen (k := 1) (n := 32) (Nat.le_of_ble_eq_true rfl) (Nat.le_of_ble_eq_true rfl) ?_
  refine va_putF (D := (dC, dI)) (ci := 4) (v := .ref b1) (ty := (.array .int)) (C := RX5) (T := TX5) (N := 4) hx hb hts inX5 tyX5 tyX5_ok nmX5 hown hK hP hD hS 0 rfl rfl 1 (by decide) f11 (fun _ h9 => h9) rfl hin rfl (by decide +kernel) rfl rfl (Nat.le_of_ble_eq_true rfl) dX5_init_10 (fun H locs hP hD hS => ?_)
  have hP : va_P (dC, dI) vwCl [(q0, .inr (4, [.ref a1, .ref b1, .null, .int 0])), (b1, .inl (cI, 32, .inl (fun _ => 0)))] _ := hP
  have hD : va_D A [(q0, .inr (4, [.ref a1, .ref b1, .null, .int 0])), (b1, .inl (cI, 32, .inl (fun _ => 0)))] := hD
  refine lv_aload_n hx hb dX5_init_13 rfl (lv_at hl 0 rfl) ?_
  refine lv_bipush (v := 32) hx hb dX5_init_14 (by decide) ?_
  refine va_newa (atype := .int) (a0 := (32, .inl (fun _ => 0))) (N' := 32) (ty := .int) hx hb (hts (.arrayClass .int) (by decide +kernel)) rfl hK hP hD hS hA (fun _ => rfl) (by decide) (by decide) (by decide) (Nat.le_of_ble_eq_true rfl) (Nat.le_of_ble_eq_true rfl) dX5_init_16 (fun b2 cA H hK9 hP hD hS => ?_)
  obtain rfl := zz_cI hK9
  have hP : va_P (dC, dI) vwCl [(q0, .inr (4, [.ref a1, .ref b1, .null, .int 0])), (b1, .inl (cI, 32, .inl (fun _ => 0))), (b2, .inl (cI, 32, .inl (fun _ => 0)))] _ := hP
  have hD : va_D A [(q0, .inr (4, [.ref a1, .ref b1, .null, .int 0])), (b1, .inl (cI, 32, .inl (fun _ => 0))), (b2, .inl (cI, 32, .inl (fun _ => 0)))] := hD
  refine W.widen (k := 2) (n := 64) (Nat.le_of_ble_eq_true rfl) (Nat.le_of_ble_eq_true rfl) ?_
  refine va_putF (D := (dC, dI)) (ci := 4) (v := .ref b2) (ty := (.array .int)) (C := RX5) (T := TX5) (N := 4) hx hb hts inX5 tyX5 tyX5_ok nmX5 hown hK hP hD hS 0 rfl rfl 2 (by decide) f15 (fun _ h9 => h9) rfl hin rfl (by decide +kernel) rfl rfl (Nat.le_of_ble_eq_true rfl) dX5_init_18 (fun H locs hP hD hS => ?_)
  have hP : va_P (dC, dI) vwCl [(q0, .inr (4, [.ref a1, .ref b1, .ref b2, .int 0])), (b1, .inl (cI, 32, .inl (fun _ => 0))), (b2, .inl (cI, 32, .inl (fun _ => 0)))] _ := hP
  have hD : va_D A [(q0, .inr (4, [.ref a1, .ref b1, .ref b2, .int 0])), (b1, .inl (cI, 32, .inl (fun _ => 0))), (b2, .inl (cI, 32, .inl (fun _ => 0)))] := hD
  refine lv_aload_n hx hb dX5_init_21 rfl (lv_at hl 0 rfl) ?_
  refine lv_iconst (v := 0) hx hb dX5_init_22 (by decide) ?_
  refine va_put (D := (dC, dI)) (ci := 4) (v := .int ((0 : Int32))) (ty := .int) (C := RX5) (T := TX5) (N := 4) hx hb hts inX5 tyX5 tyX5_ok nmX5 hown hK hP hD hS 0 rfl rfl 3 (by decide) f18 (fun _ h9 => h9) rfl (by decide +kernel) rfl rfl (Nat.le_of_ble_eq_true rfl) dX5_init_23 (fun H locs hP hD hS => ?_)
  have hP : va_P (dC, dI) vwCl [(q0, .inr (4, [.ref a1, .ref b1, .ref b2, .int ((0 : Int32))])), (b1, .inl (cI, 32, .inl (fun _ => 0))), (b2, .inl (cI, 32, .inl (fun _ => 0)))] _ := hP
  have hD : va_D A [(q0, .inr (4, [.ref a1, .ref b1, .ref b2, .int ((0 : Int32))])), (b1, .inl (cI, 32, .inl (fun _ => 0))), (b2, .inl (cI, 32, .inl (fun _ => 0)))] := hD
  exact W.vret hx hb hr (fun t ht hW => ⟨⟨(), rfl, trivial, b1, b2, by rw [ht]; exact hP, va_K.moved hW.alike hK, hD⟩, hS.F ht⟩) hS.2.2 dX5_init_26
abbrev rm_ci_X6 : Room := { frames := 2, cells := 3, slots := 2052, locals := 43 }
theorem in_ci_X6_X10 : ∀ w ∈ wsX100, w ∈ wsX6_init := by decide +kernel
theorem in_ci_X6_X6 : ∀ w ∈ wsX60, w ∈ wsX6_init := by decide +kernel
set_option maxHeartbeats 4000000 in
set_option maxRecDepth 100000 in
theorem ci_X6 (l : Launch) (dC : Nat → ClassId) (dI : Nat → Nat → Nat) (cI cJ cZ : ClassId) (q0 : Nat) (a1 : Nat) (sz : Nat) : Met l yX6_init wsX6_init rm_ci_X6 (zz_pre dC dI [(cI, .int), (cJ, .long), (cZ, .boolean)] [(q0, .inr (5, [.null, .null]))] sz [.ref q0, .ref a1]) (va_Qv (fun _ : Unit => True) (fun _ t => ∃ b1 b2 b3 : Nat, zz_wo dC dI [(cI, .int), (cJ, .long), (cZ, .boolean)] (va_A [(q0, .inr (5, [.null, .null]))] sz) [(q0, .inr (5, [.ref a1, .ref b1])), (b1, .inr (9, [.ref b2, .ref b3, .int ((0 : Int32)), .int ((0 : Int32))])), (b2, .inl (cI, 1024, .inl (fun _ => 0))), (b3, .inl (cI, 1024, .inl (fun _ => 0)))] t) (va_A [(q0, .inr (5, [.null, .null]))] sz)) 3 2052 (va_A [(q0, .inr (5, [.null, .null]))] sz) := by
  refine Met.ofW (cc := cX6_init) (maxL := 2) (ret := none) (by decide) rfl ?_
  intro p e s m args below meth c s₁ B hml hv
  obtain ⟨rfl, hsz, hP, hK, hD0, hN⟩ := hv
  have hx := B.exec
  have hb := B.bytes
  have hr := B.returns
  have hts := atoms_spec (ws := wsX6_init) B.pre
  have hown : s.vm.findClass RX6 = some m.cls := findClass_of_methodNamed B.named
  have hlocks := B.notSynchronized
  have hin : meth.name = "<init>" := (name_of_methodNamed B.named B.method).1
  have hS0 : CallFix p m c cX6_init 2 s #[.ref q0, .ref a1] wsX6_init RX6 := ⟨hx, hb, hml, hown, hts⟩
  subst hsz
  have hD := hD0.self (sz := s.heap.size)
  generalize hAe : va_A [(q0, .inr (5, [.null, .null]))] s.heap.size = A at hD ⊢
  have hA : ∀ q : Nat, s.heap.size ≤ q → A q := fun q h => by rw [← hAe]; exact Or.inr h
  have hS : va_S A s.heap s.heap [] := va_S.rf
  have hl := lv_entry ([.ref q0, .ref a1]) (n := 2) (Nat.le_of_ble_eq_true rfl)
  rw [lg_entry_eq]
  generalize (lg_sl ([.ref q0, .ref a1]) ++ List.replicate (2 - (lg_sl ([.ref q0, .ref a1])).length) Slot.unset).toArray = ls at hl ⊢
  have hl : lv_has ls 2 [(0, .ref q0), (1, .ref a1)] := hl
  have inX10 := in_ci_X6_X10
  have inX6 := in_ci_X6_X6
  have f14 := hts (.fieldLink RX6 14 "RoomForms$Quick" "quick" "LRoomForms$Stretches;") (by decide +kernel)
  refine lv_aload_n hx hb dX6_init_0 rfl (lv_at hl 0 rfl) ?_
  refine lv_aload_n hx hb dX6_init_1 rfl (lv_at hl 1 rfl) ?_
  have hPc := hP.sub (ws' := [(q0, .inr (5, [.null, .null]))]) [0] rfl
  have hDc := hD.sub (ws' := [(q0, .inr (5, [.null, .null]))]) [0] (by decide) rfl
  have hFc := va_free (wc := [(q0, .inr (5, [.null, .null]))]) hD hS hA [0] rfl
  refine va_callv (va_runI (As := [.ref a1]) (rest := []) hS0 (ci_X1_X6 l dC dI cI cJ cZ q0 a1 _) (cwI 1 hts gX6_init_X1_init rfl rfl rfl (hts (.initialized RX1) (by decide +kernel)) (hts (.methodLink RX6 3 yX1_init) (by decide +kernel)) (hts (.instanceMethod yX1_init) (by decide +kernel)) rfl (by decide +kernel) ⟨Nat.le_of_ble_eq_true rfl, Nat.le_of_ble_eq_true rfl⟩) (zz_ps hK hPc hDc hN) rfl rfl hl.1 rfl (lv_room (Nat.le_of_ble_eq_true rfl)) dX6_init_2 ⟨(Nat.le_of_ble_eq_true rfl), (Nat.le_of_ble_eq_true rfl)⟩) hS (fun q _ h => hFc q h) hFc (fun u t H1 locs ht hvm hw hB hz1 hk1 hS => ?_)
  obtain ⟨hP1, hK1, hD1⟩ := hB
  rw [ht] at hP1
  obtain ⟨hP, hD⟩ := va_join (wr := []) (w1 := [(q0, .inr (5, [.ref a1, .null]))]) hP hD [0] [] rfl rfl (by decide) (by decide) hk1 hFc hP1 hD1
  have hP : va_P (dC, dI) vwCl [(q0, .inr (5, [.ref a1, .null]))] _ := hP
  have hD : va_D A [(q0, .inr (5, [.ref a1, .null]))] := hD
  refine W.widen (k := 0) (n := 0) (Nat.le_of_ble_eq_true rfl) (Nat.le_of_ble_eq_true rfl) ?_
  refine lv_aload_n hx hb dX6_init_5 rfl (lv_at hl 0 rfl) ?_
  refine va_new (ci := 9) (fs := [.null, .null, .int 0, .int 0]) (C := RX10) (T := TX10) (N := 4) hx hb hts inX10 tyX10 tyX10_ok hown (hts (.classLink RX6 9 RX10) (by decide +kernel)) (hts (.instantiable RX10 4) (by decide +kernel)) (hts (.initialized RX10) (by decide +kernel)) hK hP hD hS hA rfl (fun j hj => by rcases (show j = 0 ∨ j = 1 ∨ j = 2 ∨ j = 3 by omega) with rfl | rfl | rfl | rfl <;> rfl) (Nat.le_of_ble_eq_true rfl) (Nat.le_of_ble_eq_true rfl) dX6_init_6 (fun b1 H hP hD hS => ?_)
  have hP : va_P (dC, dI) vwCl [(q0, .inr (5, [.ref a1, .null])), (b1, .inr (9, [.null, .null, .int 0, .int 0]))] _ := hP
  have hD : va_D A [(q0, .inr (5, [.ref a1, .null])), (b1, .inr (9, [.null, .null, .int 0, .int 0]))] := hD
  refine W.widen (k := 1) (n := 4) (Nat.le_of_ble_eq_true rfl) (Nat.le_of_ble_eq_true rfl) ?_
  refine lv_dup hx hb dX6_init_9 rfl ?_
  refine lv_sipush (v := 1024) hx hb dX6_init_10 (by decide) ?_
  have hPc := hP.sub (ws' := [(b1, .inr (9, [.null, .null, .int 0, .int 0]))]) [1] rfl
  have hDc := hD.sub (ws' := [(b1, .inr (9, [.null, .null, .int 0, .int 0]))]) [1] (by decide) rfl
  have hFc := va_free (wc := [(b1, .inr (9, [.null, .null, .int 0, .int 0]))]) hD hS hA [1] rfl
  refine va_callv (va_runI (As := [.int ((1024 : Int32))]) (rest := [.ref b1, .ref q0]) hS0 (ci_X10_1024 l dC dI cI cJ cZ b1 _) (cwI 1 hts gX6_init_X10_init rfl rfl rfl (hts (.initialized RX10) (by decide +kernel)) (hts (.methodLink RX6 11 yX10_init) (by decide +kernel)) (hts (.instanceMethod yX10_init) (by decide +kernel)) rfl (by decide +kernel) ⟨Nat.le_of_ble_eq_true rfl, Nat.le_of_ble_eq_true rfl⟩) (zz_ps hK hPc hDc hN) rfl rfl hl.1 rfl (lv_room (Nat.le_of_ble_eq_true rfl)) dX6_init_13 ⟨(Nat.le_of_ble_eq_true rfl), (Nat.le_of_ble_eq_true rfl)⟩) hS (fun q _ h => hFc q h) hFc (fun u t H1 locs ht hvm hw hB hz1 hk1 hS => ?_)
  obtain ⟨b2, b3, hP1, hK1, hD1⟩ := hB
  rw [ht] at hP1
  obtain ⟨hP, hD⟩ := va_join (wr := [(q0, .inr (5, [.ref a1, .null]))]) (w1 := [(b1, .inr (9, [.ref b2, .ref b3, .int ((0 : Int32)), .int ((0 : Int32))])), (b2, .inl (cI, 1024, .inl (fun _ => 0))), (b3, .inl (cI, 1024, .inl (fun _ => 0)))]) hP hD [1] [0] rfl rfl (by decide) (by decide) hk1 hFc hP1 hD1
  have hP : va_P (dC, dI) vwCl [(q0, .inr (5, [.ref a1, .null])), (b1, .inr (9, [.ref b2, .ref b3, .int ((0 : Int32)), .int ((0 : Int32))])), (b2, .inl (cI, 1024, .inl (fun _ => 0))), (b3, .inl (cI, 1024, .inl (fun _ => 0)))] _ := hP
  have hD : va_D A [(q0, .inr (5, [.ref a1, .null])), (b1, .inr (9, [.ref b2, .ref b3, .int ((0 : Int32)), .int ((0 : Int32))])), (b2, .inl (cI, 1024, .inl (fun _ => 0))), (b3, .inl (cI, 1024, .inl (fun _ => 0)))] := hD
  refine W.widen (k := 3) (n := 2052) (Nat.le_of_ble_eq_true rfl) (Nat.le_of_ble_eq_true rfl) ?_
  refine va_putF (D := (dC, dI)) (ci := 5) (v := .ref b1) (ty := (.object "RoomForms$Stretches")) (C := RX6) (T := TX6) (N := 2) hx hb hts inX6 tyX6 tyX6_ok nmX6 hown hK hP hD hS 0 rfl rfl 1 (by decide) f14 (fun _ h9 => h9) rfl hin rfl (by decide +kernel) rfl rfl (Nat.le_of_ble_eq_true rfl) dX6_init_16 (fun H locs hP hD hS => ?_)
  have hP : va_P (dC, dI) vwCl [(q0, .inr (5, [.ref a1, .ref b1])), (b1, .inr (9, [.ref b2, .ref b3, .int ((0 : Int32)), .int ((0 : Int32))])), (b2, .inl (cI, 1024, .inl (fun _ => 0))), (b3, .inl (cI, 1024, .inl (fun _ => 0)))] _ := hP
  have hD : va_D A [(q0, .inr (5, [.ref a1, .ref b1])), (b1, .inr (9, [.ref b2, .ref b3, .int ((0 : Int32)), .int ((0 : Int32))])), (b2, .inl (cI, 1024, .inl (fun _ => 0))), (b3, .inl (cI, 1024, .inl (fun _ => 0)))] := hD
  exact W.vret hx hb hr (fun t ht hW => ⟨⟨(), rfl, trivial, b1, b2, b3, by rw [ht]; exact hP, va_K.moved hW.alike hK, hD⟩, hS.F ht⟩) hS.2.2 dX6_init_19
abbrev rm_ci_X9 : Room := { frames := 2, cells := 0, slots := 0, locals := 41 }
theorem in_ci_X9_X9 : ∀ w ∈ wsX90, w ∈ wsX9_init := by decide +kernel
set_option maxHeartbeats 4000000 in
set_option maxRecDepth 100000 in
theorem ci_X9 (l : Launch) (dC : Nat → ClassId) (dI : Nat → Nat → Nat) (cI cJ cZ : ClassId) (q0 : Nat) (a1 : Nat) (sz : Nat) : Met l yX9_init wsX9_init rm_ci_X9 (zz_pre dC dI [(cI, .int), (cJ, .long), (cZ, .boolean)] [(q0, .inr (8, [.null, .int 0]))] sz [.ref q0, .ref a1]) (va_Qv (fun _ : Unit => True) (fun _ t => zz_wo dC dI [(cI, .int), (cJ, .long), (cZ, .boolean)] (va_A [(q0, .inr (8, [.null, .int 0]))] sz) [(q0, .inr (8, [.ref a1, .int ((0 : Int32))]))] t) (va_A [(q0, .inr (8, [.null, .int 0]))] sz)) 0 0 (va_A [(q0, .inr (8, [.null, .int 0]))] sz) := by
  refine Met.ofW (cc := cX9_init) (maxL := 2) (ret := none) (by decide) rfl ?_
  intro p e s m args below meth c s₁ B hml hv
  obtain ⟨rfl, hsz, hP, hK, hD0, hN⟩ := hv
  have hx := B.exec
  have hb := B.bytes
  have hr := B.returns
  have hts := atoms_spec (ws := wsX9_init) B.pre
  have hown : s.vm.findClass RX9 = some m.cls := findClass_of_methodNamed B.named
  have hlocks := B.notSynchronized
  have hin : meth.name = "<init>" := (name_of_methodNamed B.named B.method).1
  have hS0 : CallFix p m c cX9_init 2 s #[.ref q0, .ref a1] wsX9_init RX9 := ⟨hx, hb, hml, hown, hts⟩
  subst hsz
  have hD := hD0.self (sz := s.heap.size)
  generalize hAe : va_A [(q0, .inr (8, [.null, .int 0]))] s.heap.size = A at hD ⊢
  have hA : ∀ q : Nat, s.heap.size ≤ q → A q := fun q h => by rw [← hAe]; exact Or.inr h
  have hS : va_S A s.heap s.heap [] := va_S.rf
  have hl := lv_entry ([.ref q0, .ref a1]) (n := 2) (Nat.le_of_ble_eq_true rfl)
  rw [lg_entry_eq]
  generalize (lg_sl ([.ref q0, .ref a1]) ++ List.replicate (2 - (lg_sl ([.ref q0, .ref a1])).length) Slot.unset).toArray = ls at hl ⊢
  have hl : lv_has ls 2 [(0, .ref q0), (1, .ref a1)] := hl
  have inX9 := in_ci_X9_X9
  have f9 := hts (.fieldLink RX9 9 "RoomForms$Stack" "top" "I") (by decide +kernel)
  refine lv_aload_n hx hb dX9_init_0 rfl (lv_at hl 0 rfl) ?_
  refine lv_aload_n hx hb dX9_init_1 rfl (lv_at hl 1 rfl) ?_
  have hPc := hP.sub (ws' := [(q0, .inr (8, [.null, .int 0]))]) [0] rfl
  have hDc := hD.sub (ws' := [(q0, .inr (8, [.null, .int 0]))]) [0] (by decide) rfl
  have hFc := va_free (wc := [(q0, .inr (8, [.null, .int 0]))]) hD hS hA [0] rfl
  refine va_callv (va_runI (As := [.ref a1]) (rest := []) hS0 (ci_X1_X9 l dC dI cI cJ cZ q0 a1 _) (cwI 1 hts gX9_init_X1_init rfl rfl rfl (hts (.initialized RX1) (by decide +kernel)) (hts (.methodLink RX9 3 yX1_init) (by decide +kernel)) (hts (.instanceMethod yX1_init) (by decide +kernel)) rfl (by decide +kernel) ⟨Nat.le_of_ble_eq_true rfl, Nat.le_of_ble_eq_true rfl⟩) (zz_ps hK hPc hDc hN) rfl rfl hl.1 rfl (lv_room (Nat.le_of_ble_eq_true rfl)) dX9_init_2 ⟨(Nat.le_of_ble_eq_true rfl), (Nat.le_of_ble_eq_true rfl)⟩) hS (fun q _ h => hFc q h) hFc (fun u t H1 locs ht hvm hw hB hz1 hk1 hS => ?_)
  obtain ⟨hP1, hK1, hD1⟩ := hB
  rw [ht] at hP1
  obtain ⟨hP, hD⟩ := va_join (wr := []) (w1 := [(q0, .inr (8, [.ref a1, .int 0]))]) hP hD [0] [] rfl rfl (by decide) (by decide) hk1 hFc hP1 hD1
  have hP : va_P (dC, dI) vwCl [(q0, .inr (8, [.ref a1, .int 0]))] _ := hP
  have hD : va_D A [(q0, .inr (8, [.ref a1, .int 0]))] := hD
  refine W.widen (k := 0) (n := 0) (Nat.le_of_ble_eq_true rfl) (Nat.le_of_ble_eq_true rfl) ?_
  refine lv_aload_n hx hb dX9_init_5 rfl (lv_at hl 0 rfl) ?_
  refine lv_iconst (v := 0) hx hb dX9_init_6 (by decide) ?_
  refine va_put (D := (dC, dI)) (ci := 8) (v := .int ((0 : Int32))) (ty := .int) (C := RX9) (T := TX9) (N := 2) hx hb hts inX9 tyX9 tyX9_ok nmX9 hown hK hP hD hS 0 rfl rfl 1 (by decide) f9 (fun _ h9 => h9) rfl (by decide +kernel) rfl rfl (Nat.le_of_ble_eq_true rfl) dX9_init_7 (fun H locs hP hD hS => ?_)
  have hP : va_P (dC, dI) vwCl [(q0, .inr (8, [.ref a1, .int ((0 : Int32))]))] _ := hP
  have hD : va_D A [(q0, .inr (8, [.ref a1, .int ((0 : Int32))]))] := hD
  exact W.vret hx hb hr (fun t ht hW => ⟨⟨(), rfl, trivial, by rw [ht]; exact hP, va_K.moved hW.alike hK, hD⟩, hS.F ht⟩) hS.2.2 dX9_init_10
abbrev rm_ci_X7 : Room := { frames := 2, cells := 8, slots := 2852, locals := 43 }
theorem in_ci_X7_X10 : ∀ w ∈ wsX100, w ∈ wsX7_init := by decide +kernel
theorem in_ci_X7_X7 : ∀ w ∈ wsX70, w ∈ wsX7_init := by decide +kernel
set_option maxHeartbeats 4000000 in
set_option maxRecDepth 100000 in
theorem ci_X7 (l : Launch) (dC : Nat → ClassId) (dI : Nat → Nat → Nat) (cI cJ cZ : ClassId) (q0 : Nat) (sz : Nat) : Met l yX7_init wsX7_init rm_ci_X7 (zz_pre dC dI [(cI, .int), (cJ, .long), (cZ, .boolean)] [(q0, .inr (6, [.null, .null, .null, .null, .null, .null, .int 0, .int 0, .int 0, .int 0]))] sz [.ref q0]) (va_Qv (fun _ : Unit => True) (fun _ t => ∃ b1 b2 b3 b4 b5 b6 b7 b8 : Nat, zz_wo dC dI [(cI, .int), (cJ, .long), (cZ, .boolean)] (va_A [(q0, .inr (6, [.null, .null, .null, .null, .null, .null, .int 0, .int 0, .int 0, .int 0]))] sz) [(q0, .inr (6, [.ref b1, .ref b2, .ref b3, .ref b4, .ref b5, .ref b6, .int ((0 : Int32)), .int ((0 : Int32)), .int ((0 : Int32)), .int ((0 : Int32))])), (b1, .inl (cI, 1024, .inl (fun _ => 0))), (b2, .inl (cI, 200, .inl (fun _ => 0))), (b3, .inl (cI, 200, .inl (fun _ => 0))), (b4, .inl (cI, 200, .inl (fun _ => 0))), (b5, .inl (cI, 200, .inl (fun _ => 0))), (b6, .inr (9, [.ref b7, .ref b8, .int ((0 : Int32)), .int ((0 : Int32))])), (b7, .inl (cI, 512, .inl (fun _ => 0))), (b8, .inl (cI, 512, .inl (fun _ => 0)))] t) (va_A [(q0, .inr (6, [.null, .null, .null, .null, .null, .null, .int 0, .int 0, .int 0, .int 0]))] sz)) 8 2852 (va_A [(q0, .inr (6, [.null, .null, .null, .null, .null, .null, .int 0, .int 0, .int 0, .int 0]))] sz) := by
  refine Met.ofW (cc := cX7_init) (maxL := 1) (ret := none) (by decide) rfl ?_
  intro p e s m args below meth c s₁ B hml hv
  obtain ⟨rfl, hsz, hP, hK, hD0, hN⟩ := hv
  have hx := B.exec
  have hb := B.bytes
  have hr := B.returns
  have hts := atoms_spec (ws := wsX7_init) B.pre
  have hown : s.vm.findClass RX7 = some m.cls := findClass_of_methodNamed B.named
  have hlocks := B.notSynchronized
  have hin : meth.name = "<init>" := (name_of_methodNamed B.named B.method).1
  have hS0 : CallFix p m c cX7_init 1 s #[.ref q0] wsX7_init RX7 := ⟨hx, hb, hml, hown, hts⟩
  subst hsz
  have hD := hD0.self (sz := s.heap.size)
  generalize hAe : va_A [(q0, .inr (6, [.null, .null, .null, .null, .null, .null, .int 0, .int 0, .int 0, .int 0]))] s.heap.size = A at hD ⊢
  have hA : ∀ q : Nat, s.heap.size ≤ q → A q := fun q h => by rw [← hAe]; exact Or.inr h
  have hS : va_S A s.heap s.heap [] := va_S.rf
  have hl := lv_entry ([.ref q0]) (n := 1) (Nat.le_of_ble_eq_true rfl)
  rw [lg_entry_eq]
  generalize (lg_sl ([.ref q0]) ++ List.replicate (1 - (lg_sl ([.ref q0])).length) Slot.unset).toArray = ls at hl ⊢
  have hl : lv_has ls 1 [(0, .ref q0)] := hl
  have inX10 := in_ci_X7_X10
  have inX7 := in_ci_X7_X7
  have f9 := hts (.fieldLink RX7 9 "RoomForms$Room" "owners" "[I") (by decide +kernel)
  have f15 := hts (.fieldLink RX7 15 "RoomForms$Room" "numbers" "[I") (by decide +kernel)
  have f18 := hts (.fieldLink RX7 18 "RoomForms$Room" "places" "[I") (by decide +kernel)
  have f21 := hts (.fieldLink RX7 21 "RoomForms$Room" "spans" "[I") (by decide +kernel)
  have f24 := hts (.fieldLink RX7 24 "RoomForms$Room" "asked" "[I") (by decide +kernel)
  have f32 := hts (.fieldLink RX7 32 "RoomForms$Room" "runs" "LRoomForms$Stretches;") (by decide +kernel)
  have f36 := hts (.fieldLink RX7 36 "RoomForms$Room" "words" "I") (by decide +kernel)
  have f40 := hts (.fieldLink RX7 40 "RoomForms$Room" "blocks" "I") (by decide +kernel)
  have f43 := hts (.fieldLink RX7 43 "RoomForms$Room" "given" "I") (by decide +kernel)
  have f46 := hts (.fieldLink RX7 46 "RoomForms$Room" "looked" "I") (by decide +kernel)
  refine lv_aload_n hx hb dX7_init_0 rfl (lv_at hl 0 rfl) ?_
  refine W.objInit hx hb hown (hts (.methodLink RX7 3 objectInit) (by decide +kernel)) (hts (.instanceMethod objectInit) (by decide +kernel)) (hts (.code objectInit ⟨#[0xb1]⟩ 1 none) (by decide +kernel)) rfl (by rw [hml]; exact hl.1) rfl dX7_init_1 (Nat.le_of_ble_eq_true rfl) (Nat.le_of_ble_eq_true rfl) ?_
  refine W.eq (g2 := F0 m 4 ls []) rfl ?_
  refine lv_aload_n hx hb dX7_init_4 rfl (lv_at hl 0 rfl) ?_
  refine lv_sipush (v := 1024) hx hb dX7_init_5 (by decide) ?_
  refine va_newa (atype := .int) (a0 := (1024, .inl (fun _ => 0))) (N' := 1024) (ty := .int) hx hb (hts (.arrayClass .int) (by decide +kernel)) rfl hK hP hD hS hA (fun _ => rfl) (by decide) (by decide) (by decide) (Nat.le_of_ble_eq_true rfl) (Nat.le_of_ble_eq_true rfl) dX7_init_8 (fun b1 cA H hK9 hP hD hS => ?_)
  obtain rfl := zz_cI hK9
  have hP : va_P (dC, dI) vwCl [(q0, .inr (6, [.null, .null, .null, .null, .null, .null, .int 0, .int 0, .int 0, .int 0])), (b1, .inl (cI, 1024, .inl (fun _ => 0)))] _ := hP
  have hD : va_D A [(q0, .inr (6, [.null, .null, .null, .null, .null, .null, .int 0, .int 0, .int 0, .int 0])), (b1, .inl (cI, 1024, .inl (fun _ => 0)))] := hD
  refine W.widen (k := 1) (n := 1024) (Nat.le_of_ble_eq_true rfl) (Nat.le_of_ble_eq_true rfl) ?_
  refine va_putF (D := (dC, dI)) (ci := 6) (v := .ref b1) (ty := (.array .int)) (C := RX7) (T := TX7) (N := 10) hx hb hts inX7 tyX7 tyX7_ok nmX7 hown hK hP hD hS 0 rfl rfl 0 (by decide) f9 (fun _ h9 => h9) rfl hin rfl (by decide +kernel) rfl rfl (Nat.le_of_ble_eq_true rfl) dX7_init_10 (fun H locs hP hD hS => ?_)
  have hP : va_P (dC, dI) vwCl [(q0, .inr (6, [.ref b1, .null, .null, .null, .null, .null, .int 0, .int 0, .int 0, .int 0])), (b1, .inl (cI, 1024, .inl (fun _ => 0)))] _ := hP
  have hD : va_D A [(q0, .inr (6, [.ref b1, .null, .null, .null, .null, .null, .int 0, .int 0, .int 0, .int 0])), (b1, .inl (cI, 1024, .inl (fun _ => 0)))] := hD
  refine lv_aload_n hx hb dX7_init_13 rfl (lv_at hl 0 rfl) ?_
  refine lv_sipush (v := 200) hx hb dX7_init_14 (by decide) ?_
  refine va_newa (atype := .int) (a0 := (200, .inl (fun _ => 0))) (N' := 200) (ty := .int) hx hb (hts (.arrayClass .int) (by decide +kernel)) rfl hK hP hD hS hA (fun _ => rfl) (by decide) (by decide) (by decide) (Nat.le_of_ble_eq_true rfl) (Nat.le_of_ble_eq_true rfl) dX7_init_17 (fun b2 cA H hK9 hP hD hS => ?_)
  obtain rfl := zz_cI hK9
  have hP : va_P (dC, dI) vwCl [(q0, .inr (6, [.ref b1, .null, .null, .null, .null, .null, .int 0, .int 0, .int 0, .int 0])), (b1, .inl (cI, 1024, .inl (fun _ => 0))), (b2, .inl (cI, 200, .inl (fun _ => 0)))] _ := hP
  have hD : va_D A [(q0, .inr (6, [.ref b1, .null, .null, .null, .null, .null, .int 0, .int 0, .int 0, .int 0])), (b1, .inl (cI, 1024, .inl (fun _ => 0))), (b2, .inl (cI, 200, .inl (fun _ => 0)))] := hD
  refine W.widen (k := 2) (n := 1224) (Nat.le_of_ble_eq_true rfl) (Nat.le_of_ble_eq_true rfl) ?_
  refine va_putF (D := (dC, dI)) (ci := 6) (v := .ref b2) (ty := (.array .int)) (C := RX7) (T := TX7) (N := 10) hx hb hts inX7 tyX7 tyX7_ok nmX7 hown hK hP hD hS 0 rfl rfl 1 (by decide) f15 (fun _ h9 => h9) rfl hin rfl (by decide +kernel) rfl rfl (Nat.le_of_ble_eq_true rfl) dX7_init_19 (fun H locs hP hD hS => ?_)
  have hP : va_P (dC, dI) vwCl [(q0, .inr (6, [.ref b1, .ref b2, .null, .null, .null, .null, .int 0, .int 0, .int 0, .int 0])), (b1, .inl (cI, 1024, .inl (fun _ => 0))), (b2, .inl (cI, 200, .inl (fun _ => 0)))] _ := hP
  have hD : va_D A [(q0, .inr (6, [.ref b1, .ref b2, .null, .null, .null, .null, .int 0, .int 0, .int 0, .int 0])), (b1, .inl (cI, 1024, .inl (fun _ => 0))), (b2, .inl (cI, 200, .inl (fun _ => 0)))] := hD
  refine lv_aload_n hx hb dX7_init_22 rfl (lv_at hl 0 rfl) ?_
  refine lv_sipush (v := 200) hx hb dX7_init_23 (by decide) ?_
  refine va_newa (atype := .int) (a0 := (200, .inl (fun _ => 0))) (N' := 200) (ty := .int) hx hb (hts (.arrayClass .int) (by decide +kernel)) rfl hK hP hD hS hA (fun _ => rfl) (by decide) (by decide) (by decide) (Nat.le_of_ble_eq_true rfl) (Nat.le_of_ble_eq_true rfl) dX7_init_26 (fun b3 cA H hK9 hP hD hS => ?_)
  obtain rfl := zz_cI hK9
  have hP : va_P (dC, dI) vwCl [(q0, .inr (6, [.ref b1, .ref b2, .null, .null, .null, .null, .int 0, .int 0, .int 0, .int 0])), (b1, .inl (cI, 1024, .inl (fun _ => 0))), (b2, .inl (cI, 200, .inl (fun _ => 0))), (b3, .inl (cI, 200, .inl (fun _ => 0)))] _ := hP
  have hD : va_D A [(q0, .inr (6, [.ref b1, .ref b2, .null, .null, .null, .null, .int 0, .int 0, .int 0, .int 0])), (b1, .inl (cI, 1024, .inl (fun _ => 0))), (b2, .inl (cI, 200, .inl (fun _ => 0))), (b3, .inl (cI, 200, .inl (fun _ => 0)))] := hD
  refine W.widen (k := 3) (n := 1424) (Nat.le_of_ble_eq_true rfl) (Nat.le_of_ble_eq_true rfl) ?_
  refine va_putF (D := (dC, dI)) (ci := 6) (v := .ref b3) (ty := (.array .int)) (C := RX7) (T := TX7) (N := 10) hx hb hts inX7 tyX7 tyX7_ok nmX7 hown hK hP hD hS 0 rfl rfl 2 (by decide) f18 (fun _ h9 => h9) rfl hin rfl (by decide +kernel) rfl rfl (Nat.le_of_ble_eq_true rfl) dX7_init_28 (fun H locs hP hD hS => ?_)
  have hP : va_P (dC, dI) vwCl [(q0, .inr (6, [.ref b1, .ref b2, .ref b3, .null, .null, .null, .int 0, .int 0, .int 0, .int 0])), (b1, .inl (cI, 1024, .inl (fun _ => 0))), (b2, .inl (cI, 200, .inl (fun _ => 0))), (b3, .inl (cI, 200, .inl (fun _ => 0)))] _ := hP
  have hD : va_D A [(q0, .inr (6, [.ref b1, .ref b2, .ref b3, .null, .null, .null, .int 0, .int 0, .int 0, .int 0])), (b1, .inl (cI, 1024, .inl (fun _ => 0))), (b2, .inl (cI, 200, .inl (fun _ => 0))), (b3, .inl (cI, 200, .inl (fun _ => 0)))] := hD
  refine lv_aload_n hx hb dX7_init_31 rfl (lv_at hl 0 rfl) ?_
  refine lv_sipush (v := 200) hx hb dX7_init_32 (by decide) ?_
  refine va_newa (atype := .int) (a0 := (200, .inl (fun _ => 0))) (N' := 200) (ty := .int) hx hb (hts (.arrayClass .int) (by decide +kernel)) rfl hK hP hD hS hA (fun _ => rfl) (by decide) (by decide) (by decide) (Nat.le_of_ble_eq_true rfl) (Nat.le_of_ble_eq_true rfl) dX7_init_35 (fun b4 cA H hK9 hP hD hS => ?_)
  obtain rfl := zz_cI hK9
  have hP : va_P (dC, dI) vwCl [(q0, .inr (6, [.ref b1, .ref b2, .ref b3, .null, .null, .null, .int 0, .int 0, .int 0, .int 0])), (b1, .inl (cI, 1024, .inl (fun _ => 0))), (b2, .inl (cI, 200, .inl (fun _ => 0))), (b3, .inl (cI, 200, .inl (fun _ => 0))), (b4, .inl (cI, 200, .inl (fun _ => 0)))] _ := hP
  have hD : va_D A [(q0, .inr (6, [.ref b1, .ref b2, .ref b3, .null, .null, .null, .int 0, .int 0, .int 0, .int 0])), (b1, .inl (cI, 1024, .inl (fun _ => 0))), (b2, .inl (cI, 200, .inl (fun _ => 0))), (b3, .inl (cI, 200, .inl (fun _ => 0))), (b4, .inl (cI, 200, .inl (fun _ => 0)))] := hD
  refine W.widen (k := 4) (n := 1624) (Nat.le_of_ble_eq_true rfl) (Nat.le_of_ble_eq_true rfl) ?_
  refine va_putF (D := (dC, dI)) (ci := 6) (v := .ref b4) (ty := (.array .int)) (C := RX7) (T := TX7) (N := 10) hx hb hts inX7 tyX7 tyX7_ok nmX7 hown hK hP hD hS 0 rfl rfl 3 (by decide) f21 (fun _ h9 => h9) rfl hin rfl (by decide +kernel) rfl rfl (Nat.le_of_ble_eq_true rfl) dX7_init_37 (fun H locs hP hD hS => ?_)
  have hP : va_P (dC, dI) vwCl [(q0, .inr (6, [.ref b1, .ref b2, .ref b3, .ref b4, .null, .null, .int 0, .int 0, .int 0, .int 0])), (b1, .inl (cI, 1024, .inl (fun _ => 0))), (b2, .inl (cI, 200, .inl (fun _ => 0))), (b3, .inl (cI, 200, .inl (fun _ => 0))), (b4, .inl (cI, 200, .inl (fun _ => 0)))] _ := hP
  have hD : va_D A [(q0, .inr (6, [.ref b1, .ref b2, .ref b3, .ref b4, .null, .null, .int 0, .int 0, .int 0, .int 0])), (b1, .inl (cI, 1024, .inl (fun _ => 0))), (b2, .inl (cI, 200, .inl (fun _ => 0))), (b3, .inl (cI, 200, .inl (fun _ => 0))), (b4, .inl (cI, 200, .inl (fun _ => 0)))] := hD
  refine lv_aload_n hx hb dX7_init_40 rfl (lv_at hl 0 rfl) ?_
  refine lv_sipush (v := 200) hx hb dX7_init_41 (by decide) ?_
  refine va_newa (atype := .int) (a0 := (200, .inl (fun _ => 0))) (N' := 200) (ty := .int) hx hb (hts (.arrayClass .int) (by decide +kernel)) rfl hK hP hD hS hA (fun _ => rfl) (by decide) (by decide) (by decide) (Nat.le_of_ble_eq_true rfl) (Nat.le_of_ble_eq_true rfl) dX7_init_44 (fun b5 cA H hK9 hP hD hS => ?_)
  obtain rfl := zz_cI hK9
  have hP : va_P (dC, dI) vwCl [(q0, .inr (6, [.ref b1, .ref b2, .ref b3, .ref b4, .null, .null, .int 0, .int 0, .int 0, .int 0])), (b1, .inl (cI, 1024, .inl (fun _ => 0))), (b2, .inl (cI, 200, .inl (fun _ => 0))), (b3, .inl (cI, 200, .inl (fun _ => 0))), (b4, .inl (cI, 200, .inl (fun _ => 0))), (b5, .inl (cI, 200, .inl (fun _ => 0)))] _ := hP
  have hD : va_D A [(q0, .inr (6, [.ref b1, .ref b2, .ref b3, .ref b4, .null, .null, .int 0, .int 0, .int 0, .int 0])), (b1, .inl (cI, 1024, .inl (fun _ => 0))), (b2, .inl (cI, 200, .inl (fun _ => 0))), (b3, .inl (cI, 200, .inl (fun _ => 0))), (b4, .inl (cI, 200, .inl (fun _ => 0))), (b5, .inl (cI, 200, .inl (fun _ => 0)))] := hD
  refine W.widen (k := 5) (n := 1824) (Nat.le_of_ble_eq_true rfl) (Nat.le_of_ble_eq_true rfl) ?_
  refine va_putF (D := (dC, dI)) (ci := 6) (v := .ref b5) (ty := (.array .int)) (C := RX7) (T := TX7) (N := 10) hx hb hts inX7 tyX7 tyX7_ok nmX7 hown hK hP hD hS 0 rfl rfl 4 (by decide) f24 (fun _ h9 => h9) rfl hin rfl (by decide +kernel) rfl rfl (Nat.le_of_ble_eq_true rfl) dX7_init_46 (fun H locs hP hD hS => ?_)
  have hP : va_P (dC, dI) vwCl [(q0, .inr (6, [.ref b1, .ref b2, .ref b3, .ref b4, .ref b5, .null, .int 0, .int 0, .int 0, .int 0])), (b1, .inl (cI, 1024, .inl (fun _ => 0))), (b2, .inl (cI, 200, .inl (fun _ => 0))), (b3, .inl (cI, 200, .inl (fun _ => 0))), (b4, .inl (cI, 200, .inl (fun _ => 0))), (b5, .inl (cI, 200, .inl (fun _ => 0)))] _ := hP
  have hD : va_D A [(q0, .inr (6, [.ref b1, .ref b2, .ref b3, .ref b4, .ref b5, .null, .int 0, .int 0, .int 0, .int 0])), (b1, .inl (cI, 1024, .inl (fun _ => 0))), (b2, .inl (cI, 200, .inl (fun _ => 0))), (b3, .inl (cI, 200, .inl (fun _ => 0))), (b4, .inl (cI, 200, .inl (fun _ => 0))), (b5, .inl (cI, 200, .inl (fun _ => 0)))] := hD
  refine lv_aload_n hx hb dX7_init_49 rfl (lv_at hl 0 rfl) ?_
  refine va_new (ci := 9) (fs := [.null, .null, .int 0, .int 0]) (C := RX10) (T := TX10) (N := 4) hx hb hts inX10 tyX10 tyX10_ok hown (hts (.classLink RX7 27 RX10) (by decide +kernel)) (hts (.instantiable RX10 4) (by decide +kernel)) (hts (.initialized RX10) (by decide +kernel)) hK hP hD hS hA rfl (fun j hj => by rcases (show j = 0 ∨ j = 1 ∨ j = 2 ∨ j = 3 by omega) with rfl | rfl | rfl | rfl <;> rfl) (Nat.le_of_ble_eq_true rfl) (Nat.le_of_ble_eq_true rfl) dX7_init_50 (fun b6 H hP hD hS => ?_)
  have hP : va_P (dC, dI) vwCl [(q0, .inr (6, [.ref b1, .ref b2, .ref b3, .ref b4, .ref b5, .null, .int 0, .int 0, .int 0, .int 0])), (b1, .inl (cI, 1024, .inl (fun _ => 0))), (b2, .inl (cI, 200, .inl (fun _ => 0))), (b3, .inl (cI, 200, .inl (fun _ => 0))), (b4, .inl (cI, 200, .inl (fun _ => 0))), (b5, .inl (cI, 200, .inl (fun _ => 0))), (b6, .inr (9, [.null, .null, .int 0, .int 0]))] _ := hP
  have hD : va_D A [(q0, .inr (6, [.ref b1, .ref b2, .ref b3, .ref b4, .ref b5, .null, .int 0, .int 0, .int 0, .int 0])), (b1, .inl (cI, 1024, .inl (fun _ => 0))), (b2, .inl (cI, 200, .inl (fun _ => 0))), (b3, .inl (cI, 200, .inl (fun _ => 0))), (b4, .inl (cI, 200, .inl (fun _ => 0))), (b5, .inl (cI, 200, .inl (fun _ => 0))), (b6, .inr (9, [.null, .null, .int 0, .int 0]))] := hD
  refine W.widen (k := 6) (n := 1828) (Nat.le_of_ble_eq_true rfl) (Nat.le_of_ble_eq_true rfl) ?_
  refine lv_dup hx hb dX7_init_53 rfl ?_
  refine lv_sipush (v := 512) hx hb dX7_init_54 (by decide) ?_
  have hPc := hP.sub (ws' := [(b6, .inr (9, [.null, .null, .int 0, .int 0]))]) [6] rfl
  have hDc := hD.sub (ws' := [(b6, .inr (9, [.null, .null, .int 0, .int 0]))]) [6] (by decide) rfl
  have hFc := va_free (wc := [(b6, .inr (9, [.null, .null, .int 0, .int 0]))]) hD hS hA [6] rfl
  refine va_callv (va_runI (As := [.int ((512 : Int32))]) (rest := [.ref b6, .ref q0]) hS0 (ci_X10_512 l dC dI cI cJ cZ b6 _) (cwI 1 hts gX7_init_X10_init rfl rfl rfl (hts (.initialized RX10) (by decide +kernel)) (hts (.methodLink RX7 29 yX10_init) (by decide +kernel)) (hts (.instanceMethod yX10_init) (by decide +kernel)) rfl (by decide +kernel) ⟨Nat.le_of_ble_eq_true rfl, Nat.le_of_ble_eq_true rfl⟩) (zz_ps hK hPc hDc hN) rfl rfl hl.1 rfl (lv_room (Nat.le_of_ble_eq_true rfl)) dX7_init_57 ⟨(Nat.le_of_ble_eq_true rfl), (Nat.le_of_ble_eq_true rfl)⟩) hS (fun q _ h => hFc q h) hFc (fun u t H1 locs ht hvm hw hB hz1 hk1 hS => ?_)
  obtain ⟨b7, b8, hP1, hK1, hD1⟩ := hB
  rw [ht] at hP1
  obtain ⟨hP, hD⟩ := va_join (wr := [(q0, .inr (6, [.ref b1, .ref b2, .ref b3, .ref b4, .ref b5, .null, .int 0, .int 0, .int 0, .int 0])), (b1, .inl (cI, 1024, .inl (fun _ => 0))), (b2, .inl (cI, 200, .inl (fun _ => 0))), (b3, .inl (cI, 200, .inl (fun _ => 0))), (b4, .inl (cI, 200, .inl (fun _ => 0))), (b5, .inl (cI, 200, .inl (fun _ => 0)))]) (w1 := [(b6, .inr (9, [.ref b7, .ref b8, .int ((0 : Int32)), .int ((0 : Int32))])), (b7, .inl (cI, 512, .inl (fun _ => 0))), (b8, .inl (cI, 512, .inl (fun _ => 0)))]) hP hD [6] [0, 1, 2, 3, 4, 5] rfl rfl (by decide) (by decide) hk1 hFc hP1 hD1
  have hP : va_P (dC, dI) vwCl [(q0, .inr (6, [.ref b1, .ref b2, .ref b3, .ref b4, .ref b5, .null, .int 0, .int 0, .int 0, .int 0])), (b1, .inl (cI, 1024, .inl (fun _ => 0))), (b2, .inl (cI, 200, .inl (fun _ => 0))), (b3, .inl (cI, 200, .inl (fun _ => 0))), (b4, .inl (cI, 200, .inl (fun _ => 0))), (b5, .inl (cI, 200, .inl (fun _ => 0))), (b6, .inr (9, [.ref b7, .ref b8, .int ((0 : Int32)), .int ((0 : Int32))])), (b7, .inl (cI, 512, .inl (fun _ => 0))), (b8, .inl (cI, 512, .inl (fun _ => 0)))] _ := hP
  have hD : va_D A [(q0, .inr (6, [.ref b1, .ref b2, .ref b3, .ref b4, .ref b5, .null, .int 0, .int 0, .int 0, .int 0])), (b1, .inl (cI, 1024, .inl (fun _ => 0))), (b2, .inl (cI, 200, .inl (fun _ => 0))), (b3, .inl (cI, 200, .inl (fun _ => 0))), (b4, .inl (cI, 200, .inl (fun _ => 0))), (b5, .inl (cI, 200, .inl (fun _ => 0))), (b6, .inr (9, [.ref b7, .ref b8, .int ((0 : Int32)), .int ((0 : Int32))])), (b7, .inl (cI, 512, .inl (fun _ => 0))), (b8, .inl (cI, 512, .inl (fun _ => 0)))] := hD
  refine W.widen (k := 8) (n := 2852) (Nat.le_of_ble_eq_true rfl) (Nat.le_of_ble_eq_true rfl) ?_
  refine va_putF (D := (dC, dI)) (ci := 6) (v := .ref b6) (ty := (.object "RoomForms$Stretches")) (C := RX7) (T := TX7) (N := 10) hx hb hts inX7 tyX7 tyX7_ok nmX7 hown hK hP hD hS 0 rfl rfl 5 (by decide) f32 (fun _ h9 => h9) rfl hin rfl (by decide +kernel) rfl rfl (Nat.le_of_ble_eq_true rfl) dX7_init_60 (fun H locs hP hD hS => ?_)
  have hP : va_P (dC, dI) vwCl [(q0, .inr (6, [.ref b1, .ref b2, .ref b3, .ref b4, .ref b5, .ref b6, .int 0, .int 0, .int 0, .int 0])), (b1, .inl (cI, 1024, .inl (fun _ => 0))), (b2, .inl (cI, 200, .inl (fun _ => 0))), (b3, .inl (cI, 200, .inl (fun _ => 0))), (b4, .inl (cI, 200, .inl (fun _ => 0))), (b5, .inl (cI, 200, .inl (fun _ => 0))), (b6, .inr (9, [.ref b7, .ref b8, .int ((0 : Int32)), .int ((0 : Int32))])), (b7, .inl (cI, 512, .inl (fun _ => 0))), (b8, .inl (cI, 512, .inl (fun _ => 0)))] _ := hP
  have hD : va_D A [(q0, .inr (6, [.ref b1, .ref b2, .ref b3, .ref b4, .ref b5, .ref b6, .int 0, .int 0, .int 0, .int 0])), (b1, .inl (cI, 1024, .inl (fun _ => 0))), (b2, .inl (cI, 200, .inl (fun _ => 0))), (b3, .inl (cI, 200, .inl (fun _ => 0))), (b4, .inl (cI, 200, .inl (fun _ => 0))), (b5, .inl (cI, 200, .inl (fun _ => 0))), (b6, .inr (9, [.ref b7, .ref b8, .int ((0 : Int32)), .int ((0 : Int32))])), (b7, .inl (cI, 512, .inl (fun _ => 0))), (b8, .inl (cI, 512, .inl (fun _ => 0)))] := hD
  refine lv_aload_n hx hb dX7_init_63 rfl (lv_at hl 0 rfl) ?_
  refine lv_iconst (v := 0) hx hb dX7_init_64 (by decide) ?_
  refine va_put (D := (dC, dI)) (ci := 6) (v := .int ((0 : Int32))) (ty := .int) (C := RX7) (T := TX7) (N := 10) hx hb hts inX7 tyX7 tyX7_ok nmX7 hown hK hP hD hS 0 rfl rfl 6 (by decide) f36 (fun _ h9 => h9) rfl (by decide +kernel) rfl rfl (Nat.le_of_ble_eq_true rfl) dX7_init_65 (fun H locs hP hD hS => ?_)
  have hP : va_P (dC, dI) vwCl [(q0, .inr (6, [.ref b1, .ref b2, .ref b3, .ref b4, .ref b5, .ref b6, .int ((0 : Int32)), .int 0, .int 0, .int 0])), (b1, .inl (cI, 1024, .inl (fun _ => 0))), (b2, .inl (cI, 200, .inl (fun _ => 0))), (b3, .inl (cI, 200, .inl (fun _ => 0))), (b4, .inl (cI, 200, .inl (fun _ => 0))), (b5, .inl (cI, 200, .inl (fun _ => 0))), (b6, .inr (9, [.ref b7, .ref b8, .int ((0 : Int32)), .int ((0 : Int32))])), (b7, .inl (cI, 512, .inl (fun _ => 0))), (b8, .inl (cI, 512, .inl (fun _ => 0)))] _ := hP
  have hD : va_D A [(q0, .inr (6, [.ref b1, .ref b2, .ref b3, .ref b4, .ref b5, .ref b6, .int ((0 : Int32)), .int 0, .int 0, .int 0])), (b1, .inl (cI, 1024, .inl (fun _ => 0))), (b2, .inl (cI, 200, .inl (fun _ => 0))), (b3, .inl (cI, 200, .inl (fun _ => 0))), (b4, .inl (cI, 200, .inl (fun _ => 0))), (b5, .inl (cI, 200, .inl (fun _ => 0))), (b6, .inr (9, [.ref b7, .ref b8, .int ((0 : Int32)), .int ((0 : Int32))])), (b7, .inl (cI, 512, .inl (fun _ => 0))), (b8, .inl (cI, 512, .inl (fun _ => 0)))] := hD
  refine lv_aload_n hx hb dX7_init_68 rfl (lv_at hl 0 rfl) ?_
  refine lv_iconst (v := 0) hx hb dX7_init_69 (by decide) ?_
  refine va_put (D := (dC, dI)) (ci := 6) (v := .int ((0 : Int32))) (ty := .int) (C := RX7) (T := TX7) (N := 10) hx hb hts inX7 tyX7 tyX7_ok nmX7 hown hK hP hD hS 0 rfl rfl 7 (by decide) f40 (fun _ h9 => h9) rfl (by decide +kernel) rfl rfl (Nat.le_of_ble_eq_true rfl) dX7_init_70 (fun H locs hP hD hS => ?_)
  have hP : va_P (dC, dI) vwCl [(q0, .inr (6, [.ref b1, .ref b2, .ref b3, .ref b4, .ref b5, .ref b6, .int ((0 : Int32)), .int ((0 : Int32)), .int 0, .int 0])), (b1, .inl (cI, 1024, .inl (fun _ => 0))), (b2, .inl (cI, 200, .inl (fun _ => 0))), (b3, .inl (cI, 200, .inl (fun _ => 0))), (b4, .inl (cI, 200, .inl (fun _ => 0))), (b5, .inl (cI, 200, .inl (fun _ => 0))), (b6, .inr (9, [.ref b7, .ref b8, .int ((0 : Int32)), .int ((0 : Int32))])), (b7, .inl (cI, 512, .inl (fun _ => 0))), (b8, .inl (cI, 512, .inl (fun _ => 0)))] _ := hP
  have hD : va_D A [(q0, .inr (6, [.ref b1, .ref b2, .ref b3, .ref b4, .ref b5, .ref b6, .int ((0 : Int32)), .int ((0 : Int32)), .int 0, .int 0])), (b1, .inl (cI, 1024, .inl (fun _ => 0))), (b2, .inl (cI, 200, .inl (fun _ => 0))), (b3, .inl (cI, 200, .inl (fun _ => 0))), (b4, .inl (cI, 200, .inl (fun _ => 0))), (b5, .inl (cI, 200, .inl (fun _ => 0))), (b6, .inr (9, [.ref b7, .ref b8, .int ((0 : Int32)), .int ((0 : Int32))])), (b7, .inl (cI, 512, .inl (fun _ => 0))), (b8, .inl (cI, 512, .inl (fun _ => 0)))] := hD
  refine lv_aload_n hx hb dX7_init_73 rfl (lv_at hl 0 rfl) ?_
  refine lv_iconst (v := 0) hx hb dX7_init_74 (by decide) ?_
  refine va_put (D := (dC, dI)) (ci := 6) (v := .int ((0 : Int32))) (ty := .int) (C := RX7) (T := TX7) (N := 10) hx hb hts inX7 tyX7 tyX7_ok nmX7 hown hK hP hD hS 0 rfl rfl 8 (by decide) f43 (fun _ h9 => h9) rfl (by decide +kernel) rfl rfl (Nat.le_of_ble_eq_true rfl) dX7_init_75 (fun H locs hP hD hS => ?_)
  have hP : va_P (dC, dI) vwCl [(q0, .inr (6, [.ref b1, .ref b2, .ref b3, .ref b4, .ref b5, .ref b6, .int ((0 : Int32)), .int ((0 : Int32)), .int ((0 : Int32)), .int 0])), (b1, .inl (cI, 1024, .inl (fun _ => 0))), (b2, .inl (cI, 200, .inl (fun _ => 0))), (b3, .inl (cI, 200, .inl (fun _ => 0))), (b4, .inl (cI, 200, .inl (fun _ => 0))), (b5, .inl (cI, 200, .inl (fun _ => 0))), (b6, .inr (9, [.ref b7, .ref b8, .int ((0 : Int32)), .int ((0 : Int32))])), (b7, .inl (cI, 512, .inl (fun _ => 0))), (b8, .inl (cI, 512, .inl (fun _ => 0)))] _ := hP
  have hD : va_D A [(q0, .inr (6, [.ref b1, .ref b2, .ref b3, .ref b4, .ref b5, .ref b6, .int ((0 : Int32)), .int ((0 : Int32)), .int ((0 : Int32)), .int 0])), (b1, .inl (cI, 1024, .inl (fun _ => 0))), (b2, .inl (cI, 200, .inl (fun _ => 0))), (b3, .inl (cI, 200, .inl (fun _ => 0))), (b4, .inl (cI, 200, .inl (fun _ => 0))), (b5, .inl (cI, 200, .inl (fun _ => 0))), (b6, .inr (9, [.ref b7, .ref b8, .int ((0 : Int32)), .int ((0 : Int32))])), (b7, .inl (cI, 512, .inl (fun _ => 0))), (b8, .inl (cI, 512, .inl (fun _ => 0)))] := hD
  refine lv_aload_n hx hb dX7_init_78 rfl (lv_at hl 0 rfl) ?_
  refine lv_iconst (v := 0) hx hb dX7_init_79 (by decide) ?_
  refine va_put (D := (dC, dI)) (ci := 6) (v := .int ((0 : Int32))) (ty := .int) (C := RX7) (T := TX7) (N := 10) hx hb hts inX7 tyX7 tyX7_ok nmX7 hown hK hP hD hS 0 rfl rfl 9 (by decide) f46 (fun _ h9 => h9) rfl (by decide +kernel) rfl rfl (Nat.le_of_ble_eq_true rfl) dX7_init_80 (fun H locs hP hD hS => ?_)
  have hP : va_P (dC, dI) vwCl [(q0, .inr (6, [.ref b1, .ref b2, .ref b3, .ref b4, .ref b5, .ref b6, .int ((0 : Int32)), .int ((0 : Int32)), .int ((0 : Int32)), .int ((0 : Int32))])), (b1, .inl (cI, 1024, .inl (fun _ => 0))), (b2, .inl (cI, 200, .inl (fun _ => 0))), (b3, .inl (cI, 200, .inl (fun _ => 0))), (b4, .inl (cI, 200, .inl (fun _ => 0))), (b5, .inl (cI, 200, .inl (fun _ => 0))), (b6, .inr (9, [.ref b7, .ref b8, .int ((0 : Int32)), .int ((0 : Int32))])), (b7, .inl (cI, 512, .inl (fun _ => 0))), (b8, .inl (cI, 512, .inl (fun _ => 0)))] _ := hP
  have hD : va_D A [(q0, .inr (6, [.ref b1, .ref b2, .ref b3, .ref b4, .ref b5, .ref b6, .int ((0 : Int32)), .int ((0 : Int32)), .int ((0 : Int32)), .int ((0 : Int32))])), (b1, .inl (cI, 1024, .inl (fun _ => 0))), (b2, .inl (cI, 200, .inl (fun _ => 0))), (b3, .inl (cI, 200, .inl (fun _ => 0))), (b4, .inl (cI, 200, .inl (fun _ => 0))), (b5, .inl (cI, 200, .inl (fun _ => 0))), (b6, .inr (9, [.ref b7, .ref b8, .int ((0 : Int32)), .int ((0 : Int32))])), (b7, .inl (cI, 512, .inl (fun _ => 0))), (b8, .inl (cI, 512, .inl (fun _ => 0)))] := hD
  exact W.vret hx hb hr (fun t ht hW => ⟨⟨(), rfl, trivial, b1, b2, b3, b4, b5, b6, b7, b8, by rw [ht]; exact hP, va_K.moved hW.alike hK, hD⟩, hS.F ht⟩) hS.2.2 dX7_init_83
abbrev rm_ci_X8 : Room := { frames := 2, cells := 5, slots := 52800, locals := 43 }
theorem in_ci_X8_X10 : ∀ w ∈ wsX100, w ∈ wsX8_init := by decide +kernel
theorem in_ci_X8_X8 : ∀ w ∈ wsX80, w ∈ wsX8_init := by decide +kernel
set_option maxHeartbeats 4000000 in
set_option maxRecDepth 100000 in
theorem ci_X8 (l : Launch) (dC : Nat → ClassId) (dI : Nat → Nat → Nat) (cI cJ cZ : ClassId) (q0 : Nat) (sz : Nat) : Met l yX8_init wsX8_init rm_ci_X8 (zz_pre dC dI [(cI, .int), (cJ, .long), (cZ, .boolean)] [(q0, .inr (7, [.null, .null, .null, .int 0, .int 0, .int 0, .int 0, .int 0, .int 0]))] sz [.ref q0]) (va_Qv (fun _ : Unit => True) (fun _ t => ∃ b1 b2 b3 b4 b5 : Nat, zz_wo dC dI [(cI, .int), (cJ, .long), (cZ, .boolean)] (va_A [(q0, .inr (7, [.null, .null, .null, .int 0, .int 0, .int 0, .int 0, .int 0, .int 0]))] sz) [(q0, .inr (7, [.ref b1, .ref b2, .ref b3, .int ((1 : Int32)), .int ((0 : Int32)), .int ((0 : Int32)), .int ((0 : Int32)), .int ((0 : Int32)), .int ((0 : Int32))])), (b1, .inl (cI, 20000, .inl (fun _ => 0))), (b2, .inl (cI, 32768, .inl (fun _ => 0))), (b3, .inr (9, [.ref b4, .ref b5, .int ((0 : Int32)), .int ((0 : Int32))])), (b4, .inl (cI, 14, .inl (fun _ => 0))), (b5, .inl (cI, 14, .inl (fun _ => 0)))] t) (va_A [(q0, .inr (7, [.null, .null, .null, .int 0, .int 0, .int 0, .int 0, .int 0, .int 0]))] sz)) 5 52800 (va_A [(q0, .inr (7, [.null, .null, .null, .int 0, .int 0, .int 0, .int 0, .int 0, .int 0]))] sz) := by
  refine Met.ofW (cc := cX8_init) (maxL := 1) (ret := none) (by decide) rfl ?_
  intro p e s m args below meth c s₁ B hml hv
  obtain ⟨rfl, hsz, hP, hK, hD0, hN⟩ := hv
  have hx := B.exec
  have hb := B.bytes
  have hr := B.returns
  have hts := atoms_spec (ws := wsX8_init) B.pre
  have hown : s.vm.findClass RX8 = some m.cls := findClass_of_methodNamed B.named
  have hlocks := B.notSynchronized
  have hin : meth.name = "<init>" := (name_of_methodNamed B.named B.method).1
  have hS0 : CallFix p m c cX8_init 1 s #[.ref q0] wsX8_init RX8 := ⟨hx, hb, hml, hown, hts⟩
  subst hsz
  have hD := hD0.self (sz := s.heap.size)
  generalize hAe : va_A [(q0, .inr (7, [.null, .null, .null, .int 0, .int 0, .int 0, .int 0, .int 0, .int 0]))] s.heap.size = A at hD ⊢
  have hA : ∀ q : Nat, s.heap.size ≤ q → A q := fun q h => by rw [← hAe]; exact Or.inr h
  have hS : va_S A s.heap s.heap [] := va_S.rf
  have hl := lv_entry ([.ref q0]) (n := 1) (Nat.le_of_ble_eq_true rfl)
  rw [lg_entry_eq]
  generalize (lg_sl ([.ref q0]) ++ List.replicate (1 - (lg_sl ([.ref q0])).length) Slot.unset).toArray = ls at hl ⊢
  have hl : lv_has ls 1 [(0, .ref q0)] := hl
  have inX10 := in_ci_X8_X10
  have inX8 := in_ci_X8_X8
  have f11 := hts (.fieldLink RX8 11 "RoomForms$Search" "rooms" "[I") (by decide +kernel)
  have f16 := hts (.fieldLink RX8 16 "RoomForms$Search" "slots" "[I") (by decide +kernel)
  have f24 := hts (.fieldLink RX8 24 "RoomForms$Search" "runs" "LRoomForms$Stretches;") (by decide +kernel)
  have f28 := hts (.fieldLink RX8 28 "RoomForms$Search" "base" "I") (by decide +kernel)
  have f32 := hts (.fieldLink RX8 32 "RoomForms$Search" "met" "I") (by decide +kernel)
  have f35 := hts (.fieldLink RX8 35 "RoomForms$Search" "form" "I") (by decide +kernel)
  have f38 := hts (.fieldLink RX8 38 "RoomForms$Search" "most" "I") (by decide +kernel)
  have f41 := hts (.fieldLink RX8 41 "RoomForms$Search" "live" "I") (by decide +kernel)
  have f44 := hts (.fieldLink RX8 44 "RoomForms$Search" "words" "I") (by decide +kernel)
  refine lv_aload_n hx hb dX8_init_0 rfl (lv_at hl 0 rfl) ?_
  refine W.objInit hx hb hown (hts (.methodLink RX8 5 objectInit) (by decide +kernel)) (hts (.instanceMethod objectInit) (by decide +kernel)) (hts (.code objectInit ⟨#[0xb1]⟩ 1 none) (by decide +kernel)) rfl (by rw [hml]; exact hl.1) rfl dX8_init_1 (Nat.le_of_ble_eq_true rfl) (Nat.le_of_ble_eq_true rfl) ?_
  refine W.eq (g2 := F0 m 4 ls []) rfl ?_
  refine lv_aload_n hx hb dX8_init_4 rfl (lv_at hl 0 rfl) ?_
  refine lv_sipush (v := 20000) hx hb dX8_init_5 (by decide) ?_
  refine va_newa (atype := .int) (a0 := (20000, .inl (fun _ => 0))) (N' := 20000) (ty := .int) hx hb (hts (.arrayClass .int) (by decide +kernel)) rfl hK hP hD hS hA (fun _ => rfl) (by decide) (by decide) (by decide) (Nat.le_of_ble_eq_true rfl) (Nat.le_of_ble_eq_true rfl) dX8_init_8 (fun b1 cA H hK9 hP hD hS => ?_)
  obtain rfl := zz_cI hK9
  have hP : va_P (dC, dI) vwCl [(q0, .inr (7, [.null, .null, .null, .int 0, .int 0, .int 0, .int 0, .int 0, .int 0])), (b1, .inl (cI, 20000, .inl (fun _ => 0)))] _ := hP
  have hD : va_D A [(q0, .inr (7, [.null, .null, .null, .int 0, .int 0, .int 0, .int 0, .int 0, .int 0])), (b1, .inl (cI, 20000, .inl (fun _ => 0)))] := hD
  refine W.widen (k := 1) (n := 20000) (Nat.le_of_ble_eq_true rfl) (Nat.le_of_ble_eq_true rfl) ?_
  refine va_putF (D := (dC, dI)) (ci := 7) (v := .ref b1) (ty := (.array .int)) (C := RX8) (T := TX8) (N := 9) hx hb hts inX8 tyX8 tyX8_ok nmX8 hown hK hP hD hS 0 rfl rfl 0 (by decide) f11 (fun _ h9 => h9) rfl hin rfl (by decide +kernel) rfl rfl (Nat.le_of_ble_eq_true rfl) dX8_init_10 (fun H locs hP hD hS => ?_)
  have hP : va_P (dC, dI) vwCl [(q0, .inr (7, [.ref b1, .null, .null, .int 0, .int 0, .int 0, .int 0, .int 0, .int 0])), (b1, .inl (cI, 20000, .inl (fun _ => 0)))] _ := hP
  have hD : va_D A [(q0, .inr (7, [.ref b1, .null, .null, .int 0, .int 0, .int 0, .int 0, .int 0, .int 0])), (b1, .inl (cI, 20000, .inl (fun _ => 0)))] := hD
  refine lv_aload_n hx hb dX8_init_13 rfl (lv_at hl 0 rfl) ?_
  refine lv_ldc (v := (32768)) hx hb hown (hts (.constant RX8 15 (32768)) (by decide +kernel)) dX8_init_14 ?_
  refine va_newa (atype := .int) (a0 := (32768, .inl (fun _ => 0))) (N' := 32768) (ty := .int) hx hb (hts (.arrayClass .int) (by decide +kernel)) rfl hK hP hD hS hA (fun _ => rfl) (by decide) (by decide) (by decide) (Nat.le_of_ble_eq_true rfl) (Nat.le_of_ble_eq_true rfl) dX8_init_16 (fun b2 cA H hK9 hP hD hS => ?_)
  obtain rfl := zz_cI hK9
  have hP : va_P (dC, dI) vwCl [(q0, .inr (7, [.ref b1, .null, .null, .int 0, .int 0, .int 0, .int 0, .int 0, .int 0])), (b1, .inl (cI, 20000, .inl (fun _ => 0))), (b2, .inl (cI, 32768, .inl (fun _ => 0)))] _ := hP
  have hD : va_D A [(q0, .inr (7, [.ref b1, .null, .null, .int 0, .int 0, .int 0, .int 0, .int 0, .int 0])), (b1, .inl (cI, 20000, .inl (fun _ => 0))), (b2, .inl (cI, 32768, .inl (fun _ => 0)))] := hD
  refine W.widen (k := 2) (n := 52768) (Nat.le_of_ble_eq_true rfl) (Nat.le_of_ble_eq_true rfl) ?_
  refine va_putF (D := (dC, dI)) (ci := 7) (v := .ref b2) (ty := (.array .int)) (C := RX8) (T := TX8) (N := 9) hx hb hts inX8 tyX8 tyX8_ok nmX8 hown hK hP hD hS 0 rfl rfl 1 (by decide) f16 (fun _ h9 => h9) rfl hin rfl (by decide +kernel) rfl rfl (Nat.le_of_ble_eq_true rfl) dX8_init_18 (fun H locs hP hD hS => ?_)
  have hP : va_P (dC, dI) vwCl [(q0, .inr (7, [.ref b1, .ref b2, .null, .int 0, .int 0, .int 0, .int 0, .int 0, .int 0])), (b1, .inl (cI, 20000, .inl (fun _ => 0))), (b2, .inl (cI, 32768, .inl (fun _ => 0)))] _ := hP
  have hD : va_D A [(q0, .inr (7, [.ref b1, .ref b2, .null, .int 0, .int 0, .int 0, .int 0, .int 0, .int 0])), (b1, .inl (cI, 20000, .inl (fun _ => 0))), (b2, .inl (cI, 32768, .inl (fun _ => 0)))] := hD
  refine lv_aload_n hx hb dX8_init_21 rfl (lv_at hl 0 rfl) ?_
  refine va_new (ci := 9) (fs := [.null, .null, .int 0, .int 0]) (C := RX10) (T := TX10) (N := 4) hx hb hts inX10 tyX10 tyX10_ok hown (hts (.classLink RX8 19 RX10) (by decide +kernel)) (hts (.instantiable RX10 4) (by decide +kernel)) (hts (.initialized RX10) (by decide +kernel)) hK hP hD hS hA rfl (fun j hj => by rcases (show j = 0 ∨ j = 1 ∨ j = 2 ∨ j = 3 by omega) with rfl | rfl | rfl | rfl <;> rfl) (Nat.le_of_ble_eq_true rfl) (Nat.le_of_ble_eq_true rfl) dX8_init_22 (fun b3 H hP hD hS => ?_)
  have hP : va_P (dC, dI) vwCl [(q0, .inr (7, [.ref b1, .ref b2, .null, .int 0, .int 0, .int 0, .int 0, .int 0, .int 0])), (b1, .inl (cI, 20000, .inl (fun _ => 0))), (b2, .inl (cI, 32768, .inl (fun _ => 0))), (b3, .inr (9, [.null, .null, .int 0, .int 0]))] _ := hP
  have hD : va_D A [(q0, .inr (7, [.ref b1, .ref b2, .null, .int 0, .int 0, .int 0, .int 0, .int 0, .int 0])), (b1, .inl (cI, 20000, .inl (fun _ => 0))), (b2, .inl (cI, 32768, .inl (fun _ => 0))), (b3, .inr (9, [.null, .null, .int 0, .int 0]))] := hD
  refine W.widen (k := 3) (n := 52772) (Nat.le_of_ble_eq_true rfl) (Nat.le_of_ble_eq_true rfl) ?_
  refine lv_dup hx hb dX8_init_25 rfl ?_
  refine lv_bipush (v := 14) hx hb dX8_init_26 (by decide) ?_
  have hPc := hP.sub (ws' := [(b3, .inr (9, [.null, .null, .int 0, .int 0]))]) [3] rfl
  have hDc := hD.sub (ws' := [(b3, .inr (9, [.null, .null, .int 0, .int 0]))]) [3] (by decide) rfl
  have hFc := va_free (wc := [(b3, .inr (9, [.null, .null, .int 0, .int 0]))]) hD hS hA [3] rfl
  refine va_callv (va_runI (As := [.int ((14 : Int32))]) (rest := [.ref b3, .ref q0]) hS0 (ci_X10_14 l dC dI cI cJ cZ b3 _) (cwI 1 hts gX8_init_X10_init rfl rfl rfl (hts (.initialized RX10) (by decide +kernel)) (hts (.methodLink RX8 21 yX10_init) (by decide +kernel)) (hts (.instanceMethod yX10_init) (by decide +kernel)) rfl (by decide +kernel) ⟨Nat.le_of_ble_eq_true rfl, Nat.le_of_ble_eq_true rfl⟩) (zz_ps hK hPc hDc hN) rfl rfl hl.1 rfl (lv_room (Nat.le_of_ble_eq_true rfl)) dX8_init_28 ⟨(Nat.le_of_ble_eq_true rfl), (Nat.le_of_ble_eq_true rfl)⟩) hS (fun q _ h => hFc q h) hFc (fun u t H1 locs ht hvm hw hB hz1 hk1 hS => ?_)
  obtain ⟨b4, b5, hP1, hK1, hD1⟩ := hB
  rw [ht] at hP1
  obtain ⟨hP, hD⟩ := va_join (wr := [(q0, .inr (7, [.ref b1, .ref b2, .null, .int 0, .int 0, .int 0, .int 0, .int 0, .int 0])), (b1, .inl (cI, 20000, .inl (fun _ => 0))), (b2, .inl (cI, 32768, .inl (fun _ => 0)))]) (w1 := [(b3, .inr (9, [.ref b4, .ref b5, .int ((0 : Int32)), .int ((0 : Int32))])), (b4, .inl (cI, 14, .inl (fun _ => 0))), (b5, .inl (cI, 14, .inl (fun _ => 0)))]) hP hD [3] [0, 1, 2] rfl rfl (by decide) (by decide) hk1 hFc hP1 hD1
  have hP : va_P (dC, dI) vwCl [(q0, .inr (7, [.ref b1, .ref b2, .null, .int 0, .int 0, .int 0, .int 0, .int 0, .int 0])), (b1, .inl (cI, 20000, .inl (fun _ => 0))), (b2, .inl (cI, 32768, .inl (fun _ => 0))), (b3, .inr (9, [.ref b4, .ref b5, .int ((0 : Int32)), .int ((0 : Int32))])), (b4, .inl (cI, 14, .inl (fun _ => 0))), (b5, .inl (cI, 14, .inl (fun _ => 0)))] _ := hP
  have hD : va_D A [(q0, .inr (7, [.ref b1, .ref b2, .null, .int 0, .int 0, .int 0, .int 0, .int 0, .int 0])), (b1, .inl (cI, 20000, .inl (fun _ => 0))), (b2, .inl (cI, 32768, .inl (fun _ => 0))), (b3, .inr (9, [.ref b4, .ref b5, .int ((0 : Int32)), .int ((0 : Int32))])), (b4, .inl (cI, 14, .inl (fun _ => 0))), (b5, .inl (cI, 14, .inl (fun _ => 0)))] := hD
  refine W.widen (k := 5) (n := 52800) (Nat.le_of_ble_eq_true rfl) (Nat.le_of_ble_eq_true rfl) ?_
  refine va_putF (D := (dC, dI)) (ci := 7) (v := .ref b3) (ty := (.object "RoomForms$Stretches")) (C := RX8) (T := TX8) (N := 9) hx hb hts inX8 tyX8 tyX8_ok nmX8 hown hK hP hD hS 0 rfl rfl 2 (by decide) f24 (fun _ h9 => h9) rfl hin rfl (by decide +kernel) rfl rfl (Nat.le_of_ble_eq_true rfl) dX8_init_31 (fun H locs hP hD hS => ?_)
  have hP : va_P (dC, dI) vwCl [(q0, .inr (7, [.ref b1, .ref b2, .ref b3, .int 0, .int 0, .int 0, .int 0, .int 0, .int 0])), (b1, .inl (cI, 20000, .inl (fun _ => 0))), (b2, .inl (cI, 32768, .inl (fun _ => 0))), (b3, .inr (9, [.ref b4, .ref b5, .int ((0 : Int32)), .int ((0 : Int32))])), (b4, .inl (cI, 14, .inl (fun _ => 0))), (b5, .inl (cI, 14, .inl (fun _ => 0)))] _ := hP
  have hD : va_D A [(q0, .inr (7, [.ref b1, .ref b2, .ref b3, .int 0, .int 0, .int 0, .int 0, .int 0, .int 0])), (b1, .inl (cI, 20000, .inl (fun _ => 0))), (b2, .inl (cI, 32768, .inl (fun _ => 0))), (b3, .inr (9, [.ref b4, .ref b5, .int ((0 : Int32)), .int ((0 : Int32))])), (b4, .inl (cI, 14, .inl (fun _ => 0))), (b5, .inl (cI, 14, .inl (fun _ => 0)))] := hD
  refine lv_aload_n hx hb dX8_init_34 rfl (lv_at hl 0 rfl) ?_
  refine lv_iconst (v := 1) hx hb dX8_init_35 (by decide) ?_
  refine va_put (D := (dC, dI)) (ci := 7) (v := .int ((1 : Int32))) (ty := .int) (C := RX8) (T := TX8) (N := 9) hx hb hts inX8 tyX8 tyX8_ok nmX8 hown hK hP hD hS 0 rfl rfl 3 (by decide) f28 (fun _ h9 => h9) rfl (by decide +kernel) rfl rfl (Nat.le_of_ble_eq_true rfl) dX8_init_36 (fun H locs hP hD hS => ?_)
  have hP : va_P (dC, dI) vwCl [(q0, .inr (7, [.ref b1, .ref b2, .ref b3, .int ((1 : Int32)), .int 0, .int 0, .int 0, .int 0, .int 0])), (b1, .inl (cI, 20000, .inl (fun _ => 0))), (b2, .inl (cI, 32768, .inl (fun _ => 0))), (b3, .inr (9, [.ref b4, .ref b5, .int ((0 : Int32)), .int ((0 : Int32))])), (b4, .inl (cI, 14, .inl (fun _ => 0))), (b5, .inl (cI, 14, .inl (fun _ => 0)))] _ := hP
  have hD : va_D A [(q0, .inr (7, [.ref b1, .ref b2, .ref b3, .int ((1 : Int32)), .int 0, .int 0, .int 0, .int 0, .int 0])), (b1, .inl (cI, 20000, .inl (fun _ => 0))), (b2, .inl (cI, 32768, .inl (fun _ => 0))), (b3, .inr (9, [.ref b4, .ref b5, .int ((0 : Int32)), .int ((0 : Int32))])), (b4, .inl (cI, 14, .inl (fun _ => 0))), (b5, .inl (cI, 14, .inl (fun _ => 0)))] := hD
  refine lv_aload_n hx hb dX8_init_39 rfl (lv_at hl 0 rfl) ?_
  refine lv_iconst (v := 0) hx hb dX8_init_40 (by decide) ?_
  refine va_put (D := (dC, dI)) (ci := 7) (v := .int ((0 : Int32))) (ty := .int) (C := RX8) (T := TX8) (N := 9) hx hb hts inX8 tyX8 tyX8_ok nmX8 hown hK hP hD hS 0 rfl rfl 4 (by decide) f32 (fun _ h9 => h9) rfl (by decide +kernel) rfl rfl (Nat.le_of_ble_eq_true rfl) dX8_init_41 (fun H locs hP hD hS => ?_)
  have hP : va_P (dC, dI) vwCl [(q0, .inr (7, [.ref b1, .ref b2, .ref b3, .int ((1 : Int32)), .int ((0 : Int32)), .int 0, .int 0, .int 0, .int 0])), (b1, .inl (cI, 20000, .inl (fun _ => 0))), (b2, .inl (cI, 32768, .inl (fun _ => 0))), (b3, .inr (9, [.ref b4, .ref b5, .int ((0 : Int32)), .int ((0 : Int32))])), (b4, .inl (cI, 14, .inl (fun _ => 0))), (b5, .inl (cI, 14, .inl (fun _ => 0)))] _ := hP
  have hD : va_D A [(q0, .inr (7, [.ref b1, .ref b2, .ref b3, .int ((1 : Int32)), .int ((0 : Int32)), .int 0, .int 0, .int 0, .int 0])), (b1, .inl (cI, 20000, .inl (fun _ => 0))), (b2, .inl (cI, 32768, .inl (fun _ => 0))), (b3, .inr (9, [.ref b4, .ref b5, .int ((0 : Int32)), .int ((0 : Int32))])), (b4, .inl (cI, 14, .inl (fun _ => 0))), (b5, .inl (cI, 14, .inl (fun _ => 0)))] := hD
  refine lv_aload_n hx hb dX8_init_44 rfl (lv_at hl 0 rfl) ?_
  refine lv_iconst (v := 0) hx hb dX8_init_45 (by decide) ?_
  refine va_put (D := (dC, dI)) (ci := 7) (v := .int ((0 : Int32))) (ty := .int) (C := RX8) (T := TX8) (N := 9) hx hb hts inX8 tyX8 tyX8_ok nmX8 hown hK hP hD hS 0 rfl rfl 5 (by decide) f35 (fun _ h9 => h9) rfl (by decide +kernel) rfl rfl (Nat.le_of_ble_eq_true rfl) dX8_init_46 (fun H locs hP hD hS => ?_)
  have hP : va_P (dC, dI) vwCl [(q0, .inr (7, [.ref b1, .ref b2, .ref b3, .int ((1 : Int32)), .int ((0 : Int32)), .int ((0 : Int32)), .int 0, .int 0, .int 0])), (b1, .inl (cI, 20000, .inl (fun _ => 0))), (b2, .inl (cI, 32768, .inl (fun _ => 0))), (b3, .inr (9, [.ref b4, .ref b5, .int ((0 : Int32)), .int ((0 : Int32))])), (b4, .inl (cI, 14, .inl (fun _ => 0))), (b5, .inl (cI, 14, .inl (fun _ => 0)))] _ := hP
  have hD : va_D A [(q0, .inr (7, [.ref b1, .ref b2, .ref b3, .int ((1 : Int32)), .int ((0 : Int32)), .int ((0 : Int32)), .int 0, .int 0, .int 0])), (b1, .inl (cI, 20000, .inl (fun _ => 0))), (b2, .inl (cI, 32768, .inl (fun _ => 0))), (b3, .inr (9, [.ref b4, .ref b5, .int ((0 : Int32)), .int ((0 : Int32))])), (b4, .inl (cI, 14, .inl (fun _ => 0))), (b5, .inl (cI, 14, .inl (fun _ => 0)))] := hD
  refine lv_aload_n hx hb dX8_init_49 rfl (lv_at hl 0 rfl) ?_
  refine lv_iconst (v := 0) hx hb dX8_init_50 (by decide) ?_
  refine va_put (D := (dC, dI)) (ci := 7) (v := .int ((0 : Int32))) (ty := .int) (C := RX8) (T := TX8) (N := 9) hx hb hts inX8 tyX8 tyX8_ok nmX8 hown hK hP hD hS 0 rfl rfl 6 (by decide) f38 (fun _ h9 => h9) rfl (by decide +kernel) rfl rfl (Nat.le_of_ble_eq_true rfl) dX8_init_51 (fun H locs hP hD hS => ?_)
  have hP : va_P (dC, dI) vwCl [(q0, .inr (7, [.ref b1, .ref b2, .ref b3, .int ((1 : Int32)), .int ((0 : Int32)), .int ((0 : Int32)), .int ((0 : Int32)), .int 0, .int 0])), (b1, .inl (cI, 20000, .inl (fun _ => 0))), (b2, .inl (cI, 32768, .inl (fun _ => 0))), (b3, .inr (9, [.ref b4, .ref b5, .int ((0 : Int32)), .int ((0 : Int32))])), (b4, .inl (cI, 14, .inl (fun _ => 0))), (b5, .inl (cI, 14, .inl (fun _ => 0)))] _ := hP
  have hD : va_D A [(q0, .inr (7, [.ref b1, .ref b2, .ref b3, .int ((1 : Int32)), .int ((0 : Int32)), .int ((0 : Int32)), .int ((0 : Int32)), .int 0, .int 0])), (b1, .inl (cI, 20000, .inl (fun _ => 0))), (b2, .inl (cI, 32768, .inl (fun _ => 0))), (b3, .inr (9, [.ref b4, .ref b5, .int ((0 : Int32)), .int ((0 : Int32))])), (b4, .inl (cI, 14, .inl (fun _ => 0))), (b5, .inl (cI, 14, .inl (fun _ => 0)))] := hD
  refine lv_aload_n hx hb dX8_init_54 rfl (lv_at hl 0 rfl) ?_
  refine lv_iconst (v := 0) hx hb dX8_init_55 (by decide) ?_
  refine va_put (D := (dC, dI)) (ci := 7) (v := .int ((0 : Int32))) (ty := .int) (C := RX8) (T := TX8) (N := 9) hx hb hts inX8 tyX8 tyX8_ok nmX8 hown hK hP hD hS 0 rfl rfl 7 (by decide) f41 (fun _ h9 => h9) rfl (by decide +kernel) rfl rfl (Nat.le_of_ble_eq_true rfl) dX8_init_56 (fun H locs hP hD hS => ?_)
  have hP : va_P (dC, dI) vwCl [(q0, .inr (7, [.ref b1, .ref b2, .ref b3, .int ((1 : Int32)), .int ((0 : Int32)), .int ((0 : Int32)), .int ((0 : Int32)), .int ((0 : Int32)), .int 0])), (b1, .inl (cI, 20000, .inl (fun _ => 0))), (b2, .inl (cI, 32768, .inl (fun _ => 0))), (b3, .inr (9, [.ref b4, .ref b5, .int ((0 : Int32)), .int ((0 : Int32))])), (b4, .inl (cI, 14, .inl (fun _ => 0))), (b5, .inl (cI, 14, .inl (fun _ => 0)))] _ := hP
  have hD : va_D A [(q0, .inr (7, [.ref b1, .ref b2, .ref b3, .int ((1 : Int32)), .int ((0 : Int32)), .int ((0 : Int32)), .int ((0 : Int32)), .int ((0 : Int32)), .int 0])), (b1, .inl (cI, 20000, .inl (fun _ => 0))), (b2, .inl (cI, 32768, .inl (fun _ => 0))), (b3, .inr (9, [.ref b4, .ref b5, .int ((0 : Int32)), .int ((0 : Int32))])), (b4, .inl (cI, 14, .inl (fun _ => 0))), (b5, .inl (cI, 14, .inl (fun _ => 0)))] := hD
  refine lv_aload_n hx hb dX8_init_59 rfl (lv_at hl 0 rfl) ?_
  refine lv_iconst (v := 0) hx hb dX8_init_60 (by decide) ?_
  refine va_put (D := (dC, dI)) (ci := 7) (v := .int ((0 : Int32))) (ty := .int) (C := RX8) (T := TX8) (N := 9) hx hb hts inX8 tyX8 tyX8_ok nmX8 hown hK hP hD hS 0 rfl rfl 8 (by decide) f44 (fun _ h9 => h9) rfl (by decide +kernel) rfl rfl (Nat.le_of_ble_eq_true rfl) dX8_init_61 (fun H locs hP hD hS => ?_)
  have hP : va_P (dC, dI) vwCl [(q0, .inr (7, [.ref b1, .ref b2, .ref b3, .int ((1 : Int32)), .int ((0 : Int32)), .int ((0 : Int32)), .int ((0 : Int32)), .int ((0 : Int32)), .int ((0 : Int32))])), (b1, .inl (cI, 20000, .inl (fun _ => 0))), (b2, .inl (cI, 32768, .inl (fun _ => 0))), (b3, .inr (9, [.ref b4, .ref b5, .int ((0 : Int32)), .int ((0 : Int32))])), (b4, .inl (cI, 14, .inl (fun _ => 0))), (b5, .inl (cI, 14, .inl (fun _ => 0)))] _ := hP
  have hD : va_D A [(q0, .inr (7, [.ref b1, .ref b2, .ref b3, .int ((1 : Int32)), .int ((0 : Int32)), .int ((0 : Int32)), .int ((0 : Int32)), .int ((0 : Int32)), .int ((0 : Int32))])), (b1, .inl (cI, 20000, .inl (fun _ => 0))), (b2, .inl (cI, 32768, .inl (fun _ => 0))), (b3, .inr (9, [.ref b4, .ref b5, .int ((0 : Int32)), .int ((0 : Int32))])), (b4, .inl (cI, 14, .inl (fun _ => 0))), (b5, .inl (cI, 14, .inl (fun _ => 0)))] := hD
  exact W.vret hx hb hr (fun t ht hW => ⟨⟨(), rfl, trivial, b1, b2, b3, b4, b5, by rw [ht]; exact hP, va_K.moved hW.alike hK, hD⟩, hS.F ht⟩) hS.2.2 dX8_init_64
abbrev rm_ci_X12 : Room := { frames := 1, cells := 17, slots := 145827, locals := 20 }
theorem in_ci_X12_X12 : ∀ w ∈ wsX120, w ∈ wsX12_init := by decide +kernel
set_option maxHeartbeats 4000000 in
set_option maxRecDepth 100000 in
theorem ci_X12 (l : Launch) (dC : Nat → ClassId) (dI : Nat → Nat → Nat) (cI cJ cZ : ClassId) (q0 : Nat) (sz : Nat) : Met l yX12_init wsX12_init rm_ci_X12 (zz_pre dC dI [(cI, .int), (cJ, .long), (cZ, .boolean)] [(q0, .inr (11, [.int 0, .int 0, .int 0, .int 0, .int 0, .int 0, .int 0, .int 0, .int 0, .int 0, .null, .null, .null, .null, .null, .null, .int 0, .null, .int 0, .null, .null, .null, .null, .null, .int 0, .null, .null, .int 0, .int 0, .null, .null, .int 0, .null, .int 0, .int 0, .int 0]))] sz [.ref q0]) (va_Qv (fun _ : Unit => True) (fun _ t => ∃ b1 b2 b3 b4 b5 b6 b7 b8 b9 b10 b11 b12 b13 b14 b15 b16 b17 : Nat, zz_wo dC dI [(cI, .int), (cJ, .long), (cZ, .boolean)] (va_A [(q0, .inr (11, [.int 0, .int 0, .int 0, .int 0, .int 0, .int 0, .int 0, .int 0, .int 0, .int 0, .null, .null, .null, .null, .null, .null, .int 0, .null, .int 0, .null, .null, .null, .null, .null, .int 0, .null, .null, .int 0, .int 0, .null, .null, .int 0, .null, .int 0, .int 0, .int 0]))] sz) [(q0, .inr (11, [.int 0, .int ((-1 : Int32)), .int 0, .int 0, .int 0, .int 0, .int 0, .int 0, .int 0, .int 0, .ref b1, .ref b2, .ref b3, .ref b4, .ref b5, .ref b6, .int 0, .ref b7, .int 0, .ref b8, .ref b9, .ref b10, .ref b11, .ref b12, .int 0, .ref b13, .ref b14, .int 0, .int 0, .ref b15, .ref b16, .int 0, .ref b17, .int 0, .int 0, .int 0])), (b1, .inl (cI, 1024, .inl (fun _ => 0))), (b2, .inl (cI, 200, .inl (fun _ => 0))), (b3, .inl (cI, 200, .inl (fun _ => 0))), (b4, .inl (cI, 200, .inl (fun _ => 0))), (b5, .inl (cI, 200, .inl (fun _ => 0))), (b6, .inl (cI, 1024, .inl (fun _ => 0))), (b7, .inl (cI, 32, .inl (fun _ => 0))), (b8, .inl (cI, 45056, .inl (fun _ => 0))), (b9, .inl (cI, 44, .inl (fun _ => 0))), (b10, .inl (cI, 1024, .inl (fun _ => 0))), (b11, .inl (cI, 1024, .inl (fun _ => 0))), (b12, .inl (cZ, 1024, .inl (fun _ => 0))), (b13, .inl (cI, 9216, .inl (fun _ => 0))), (b14, .inl (cI, 9, .inl (fun _ => 0))), (b15, .inl (cJ, 20000, .inr (.inl (fun _ => 0)))), (b16, .inl (cI, 65536, .inl (fun _ => 0))), (b17, .inl (cI, 14, .inl (fun _ => 0)))] t) (va_A [(q0, .inr (11, [.int 0, .int 0, .int 0, .int 0, .int 0, .int 0, .int 0, .int 0, .int 0, .int 0, .null, .null, .null, .null, .null, .null, .int 0, .null, .int 0, .null, .null, .null, .null, .null, .int 0, .null, .null, .int 0, .int 0, .null, .null, .int 0, .null, .int 0, .int 0, .int 0]))] sz)) 17 145827 (va_A [(q0, .inr (11, [.int 0, .int 0, .int 0, .int 0, .int 0, .int 0, .int 0, .int 0, .int 0, .int 0, .null, .null, .null, .null, .null, .null, .int 0, .null, .int 0, .null, .null, .null, .null, .null, .int 0, .null, .null, .int 0, .int 0, .null, .null, .int 0, .null, .int 0, .int 0, .int 0]))] sz) := by
  refine Met.ofW (cc := cX12_init) (maxL := 1) (ret := none) (by decide) rfl ?_
  intro p e s m args below meth c s₁ B hml hv
  obtain ⟨rfl, hsz, hP, hK, hD0, hN⟩ := hv
  have hx := B.exec
  have hb := B.bytes
  have hr := B.returns
  have hts := atoms_spec (ws := wsX12_init) B.pre
  have hown : s.vm.findClass RX12 = some m.cls := findClass_of_methodNamed B.named
  have hlocks := B.notSynchronized
  have hin : meth.name = "<init>" := (name_of_methodNamed B.named B.method).1
  have hS0 : CallFix p m c cX12_init 1 s #[.ref q0] wsX12_init RX12 := ⟨hx, hb, hml, hown, hts⟩
  subst hsz
  have hD := hD0.self (sz := s.heap.size)
  generalize hAe : va_A [(q0, .inr (11, [.int 0, .int 0, .int 0, .int 0, .int 0, .int 0, .int 0, .int 0, .int 0, .int 0, .null, .null, .null, .null, .null, .null, .int 0, .null, .int 0, .null, .null, .null, .null, .null, .int 0, .null, .null, .int 0, .int 0, .null, .null, .int 0, .null, .int 0, .int 0, .int 0]))] s.heap.size = A at hD ⊢
  have hA : ∀ q : Nat, s.heap.size ≤ q → A q := fun q h => by rw [← hAe]; exact Or.inr h
  have hS : va_S A s.heap s.heap [] := va_S.rf
  have hl := lv_entry ([.ref q0]) (n := 1) (Nat.le_of_ble_eq_true rfl)
  rw [lg_entry_eq]
  generalize (lg_sl ([.ref q0]) ++ List.replicate (1 - (lg_sl ([.ref q0])).length) Slot.unset).toArray = ls at hl ⊢
  have hl : lv_has ls 1 [(0, .ref q0)] := hl
  have inX12 := in_ci_X12_X12
  have f13 := hts (.fieldLink RX12 13 "RoomFormsModel" "form" "I") (by decide +kernel)
  have f16 := hts (.fieldLink RX12 16 "RoomFormsModel" "owner" "[I") (by decide +kernel)
  have f20 := hts (.fieldLink RX12 20 "RoomFormsModel" "number" "[I") (by decide +kernel)
  have f23 := hts (.fieldLink RX12 23 "RoomFormsModel" "place" "[I") (by decide +kernel)
  have f26 := hts (.fieldLink RX12 26 "RoomFormsModel" "span" "[I") (by decide +kernel)
  have f29 := hts (.fieldLink RX12 29 "RoomFormsModel" "asks" "[I") (by decide +kernel)
  have f32 := hts (.fieldLink RX12 32 "RoomFormsModel" "piece" "[I") (by decide +kernel)
  have f35 := hts (.fieldLink RX12 35 "RoomFormsModel" "page" "[I") (by decide +kernel)
  have f39 := hts (.fieldLink RX12 39 "RoomFormsModel" "list" "[I") (by decide +kernel)
  have f42 := hts (.fieldLink RX12 42 "RoomFormsModel" "listMany" "[I") (by decide +kernel)
  have f45 := hts (.fieldLink RX12 45 "RoomFormsModel" "stackPlace" "[I") (by decide +kernel)
  have f48 := hts (.fieldLink RX12 48 "RoomFormsModel" "stackSpan" "[I") (by decide +kernel)
  have f51 := hts (.fieldLink RX12 51 "RoomFormsModel" "isGone" "[Z") (by decide +kernel)
  have f55 := hts (.fieldLink RX12 55 "RoomFormsModel" "quick" "[I") (by decide +kernel)
  have f58 := hts (.fieldLink RX12 58 "RoomFormsModel" "quickMany" "[I") (by decide +kernel)
  have f61 := hts (.fieldLink RX12 61 "RoomFormsModel" "room" "[J") (by decide +kernel)
  have f66 := hts (.fieldLink RX12 66 "RoomFormsModel" "slots" "[I") (by decide +kernel)
  have f69 := hts (.fieldLink RX12 69 "RoomFormsModel" "has" "[I") (by decide +kernel)
  refine lv_aload_n hx hb dX12_init_0 rfl (lv_at hl 0 rfl) ?_
  refine W.objInit hx hb hown (hts (.methodLink RX12 7 objectInit) (by decide +kernel)) (hts (.instanceMethod objectInit) (by decide +kernel)) (hts (.code objectInit ⟨#[0xb1]⟩ 1 none) (by decide +kernel)) rfl (by rw [hml]; exact hl.1) rfl dX12_init_1 (Nat.le_of_ble_eq_true rfl) (Nat.le_of_ble_eq_true rfl) ?_
  refine W.eq (g2 := F0 m 4 ls []) rfl ?_
  refine lv_aload_n hx hb dX12_init_4 rfl (lv_at hl 0 rfl) ?_
  refine lv_iconst (v := (-1)) hx hb dX12_init_5 (by decide) ?_
  refine va_put (D := (dC, dI)) (ci := 11) (v := .int ((-1 : Int32))) (ty := .int) (C := RX12) (T := TX12) (N := 36) hx hb hts inX12 tyX12 tyX12_ok nmX12 hown hK hP hD hS 0 rfl rfl 1 (by decide) f13 (fun _ h9 => h9) rfl (by decide +kernel) rfl rfl (Nat.le_of_ble_eq_true rfl) dX12_init_6 (fun H locs hP hD hS => ?_)
  have hP : va_P (dC, dI) vwCl [(q0, .inr (11, [.int 0, .int ((-1 : Int32)), .int 0, .int 0, .int 0, .int 0, .int 0, .int 0, .int 0, .int 0, .null, .null, .null, .null, .null, .null, .int 0, .null, .int 0, .null, .null, .null, .null, .null, .int 0, .null, .null, .int 0, .int 0, .null, .null, .int 0, .null, .int 0, .int 0, .int 0]))] _ := hP
  have hD : va_D A [(q0, .inr (11, [.int 0, .int ((-1 : Int32)), .int 0, .int 0, .int 0, .int 0, .int 0, .int 0, .int 0, .int 0, .null, .null, .null, .null, .null, .null, .int 0, .null, .int 0, .null, .null, .null, .null, .null, .int 0, .null, .null, .int 0, .int 0, .null, .null, .int 0, .null, .int 0, .int 0, .int 0]))] := hD
  refine lv_aload_n hx hb dX12_init_9 rfl (lv_at hl 0 rfl) ?_
  refine lv_sipush (v := 1024) hx hb dX12_init_10 (by decide) ?_
  refine va_newa (atype := .int) (a0 := (1024, .inl (fun _ => 0))) (N' := 1024) (ty := .int) hx hb (hts (.arrayClass .int) (by decide +kernel)) rfl hK hP hD hS hA (fun _ => rfl) (by decide) (by decide) (by decide) (Nat.le_of_ble_eq_true rfl) (Nat.le_of_ble_eq_true rfl) dX12_init_13 (fun b1 cA H hK9 hP hD hS => ?_)
  obtain rfl := zz_cI hK9
  have hP : va_P (dC, dI) vwCl [(q0, .inr (11, [.int 0, .int ((-1 : Int32)), .int 0, .int 0, .int 0, .int 0, .int 0, .int 0, .int 0, .int 0, .null, .null, .null, .null, .null, .null, .int 0, .null, .int 0, .null, .null, .null, .null, .null, .int 0, .null, .null, .int 0, .int 0, .null, .null, .int 0, .null, .int 0, .int 0, .int 0])), (b1, .inl (cI, 1024, .inl (fun _ => 0)))] _ := hP
  have hD : va_D A [(q0, .inr (11, [.int 0, .int ((-1 : Int32)), .int 0, .int 0, .int 0, .int 0, .int 0, .int 0, .int 0, .int 0, .null, .null, .null, .null, .null, .null, .int 0, .null, .int 0, .null, .null, .null, .null, .null, .int 0, .null, .null, .int 0, .int 0, .null, .null, .int 0, .null, .int 0, .int 0, .int 0])), (b1, .inl (cI, 1024, .inl (fun _ => 0)))] := hD
  refine W.widen (k := 1) (n := 1024) (Nat.le_of_ble_eq_true rfl) (Nat.le_of_ble_eq_true rfl) ?_
  refine va_putF (D := (dC, dI)) (ci := 11) (v := .ref b1) (ty := (.array .int)) (C := RX12) (T := TX12) (N := 36) hx hb hts inX12 tyX12 tyX12_ok nmX12 hown hK hP hD hS 0 rfl rfl 10 (by decide) f16 (fun _ h9 => h9) rfl hin rfl (by decide +kernel) rfl rfl (Nat.le_of_ble_eq_true rfl) dX12_init_15 (fun H locs hP hD hS => ?_)
  have hP : va_P (dC, dI) vwCl [(q0, .inr (11, [.int 0, .int ((-1 : Int32)), .int 0, .int 0, .int 0, .int 0, .int 0, .int 0, .int 0, .int 0, .ref b1, .null, .null, .null, .null, .null, .int 0, .null, .int 0, .null, .null, .null, .null, .null, .int 0, .null, .null, .int 0, .int 0, .null, .null, .int 0, .null, .int 0, .int 0, .int 0])), (b1, .inl (cI, 1024, .inl (fun _ => 0)))] _ := hP
  have hD : va_D A [(q0, .inr (11, [.int 0, .int ((-1 : Int32)), .int 0, .int 0, .int 0, .int 0, .int 0, .int 0, .int 0, .int 0, .ref b1, .null, .null, .null, .null, .null, .int 0, .null, .int 0, .null, .null, .null, .null, .null, .int 0, .null, .null, .int 0, .int 0, .null, .null, .int 0, .null, .int 0, .int 0, .int 0])), (b1, .inl (cI, 1024, .inl (fun _ => 0)))] := hD
  refine lv_aload_n hx hb dX12_init_18 rfl (lv_at hl 0 rfl) ?_
  refine lv_sipush (v := 200) hx hb dX12_init_19 (by decide) ?_
  refine va_newa (atype := .int) (a0 := (200, .inl (fun _ => 0))) (N' := 200) (ty := .int) hx hb (hts (.arrayClass .int) (by decide +kernel)) rfl hK hP hD hS hA (fun _ => rfl) (by decide) (by decide) (by decide) (Nat.le_of_ble_eq_true rfl) (Nat.le_of_ble_eq_true rfl) dX12_init_22 (fun b2 cA H hK9 hP hD hS => ?_)
  obtain rfl := zz_cI hK9
  have hP : va_P (dC, dI) vwCl [(q0, .inr (11, [.int 0, .int ((-1 : Int32)), .int 0, .int 0, .int 0, .int 0, .int 0, .int 0, .int 0, .int 0, .ref b1, .null, .null, .null, .null, .null, .int 0, .null, .int 0, .null, .null, .null, .null, .null, .int 0, .null, .null, .int 0, .int 0, .null, .null, .int 0, .null, .int 0, .int 0, .int 0])), (b1, .inl (cI, 1024, .inl (fun _ => 0))), (b2, .inl (cI, 200, .inl (fun _ => 0)))] _ := hP
  have hD : va_D A [(q0, .inr (11, [.int 0, .int ((-1 : Int32)), .int 0, .int 0, .int 0, .int 0, .int 0, .int 0, .int 0, .int 0, .ref b1, .null, .null, .null, .null, .null, .int 0, .null, .int 0, .null, .null, .null, .null, .null, .int 0, .null, .null, .int 0, .int 0, .null, .null, .int 0, .null, .int 0, .int 0, .int 0])), (b1, .inl (cI, 1024, .inl (fun _ => 0))), (b2, .inl (cI, 200, .inl (fun _ => 0)))] := hD
  refine W.widen (k := 2) (n := 1224) (Nat.le_of_ble_eq_true rfl) (Nat.le_of_ble_eq_true rfl) ?_
  refine va_putF (D := (dC, dI)) (ci := 11) (v := .ref b2) (ty := (.array .int)) (C := RX12) (T := TX12) (N := 36) hx hb hts inX12 tyX12 tyX12_ok nmX12 hown hK hP hD hS 0 rfl rfl 11 (by decide) f20 (fun _ h9 => h9) rfl hin rfl (by decide +kernel) rfl rfl (Nat.le_of_ble_eq_true rfl) dX12_init_24 (fun H locs hP hD hS => ?_)
  have hP : va_P (dC, dI) vwCl [(q0, .inr (11, [.int 0, .int ((-1 : Int32)), .int 0, .int 0, .int 0, .int 0, .int 0, .int 0, .int 0, .int 0, .ref b1, .ref b2, .null, .null, .null, .null, .int 0, .null, .int 0, .null, .null, .null, .null, .null, .int 0, .null, .null, .int 0, .int 0, .null, .null, .int 0, .null, .int 0, .int 0, .int 0])), (b1, .inl (cI, 1024, .inl (fun _ => 0))), (b2, .inl (cI, 200, .inl (fun _ => 0)))] _ := hP
  have hD : va_D A [(q0, .inr (11, [.int 0, .int ((-1 : Int32)), .int 0, .int 0, .int 0, .int 0, .int 0, .int 0, .int 0, .int 0, .ref b1, .ref b2, .null, .null, .null, .null, .int 0, .null, .int 0, .null, .null, .null, .null, .null, .int 0, .null, .null, .int 0, .int 0, .null, .null, .int 0, .null, .int 0, .int 0, .int 0])), (b1, .inl (cI, 1024, .inl (fun _ => 0))), (b2, .inl (cI, 200, .inl (fun _ => 0)))] := hD
  refine lv_aload_n hx hb dX12_init_27 rfl (lv_at hl 0 rfl) ?_
  refine lv_sipush (v := 200) hx hb dX12_init_28 (by decide) ?_
  refine va_newa (atype := .int) (a0 := (200, .inl (fun _ => 0))) (N' := 200) (ty := .int) hx hb (hts (.arrayClass .int) (by decide +kernel)) rfl hK hP hD hS hA (fun _ => rfl) (by decide) (by decide) (by decide) (Nat.le_of_ble_eq_true rfl) (Nat.le_of_ble_eq_true rfl) dX12_init_31 (fun b3 cA H hK9 hP hD hS => ?_)
  obtain rfl := zz_cI hK9
  have hP : va_P (dC, dI) vwCl [(q0, .inr (11, [.int 0, .int ((-1 : Int32)), .int 0, .int 0, .int 0, .int 0, .int 0, .int 0, .int 0, .int 0, .ref b1, .ref b2, .null, .null, .null, .null, .int 0, .null, .int 0, .null, .null, .null, .null, .null, .int 0, .null, .null, .int 0, .int 0, .null, .null, .int 0, .null, .int 0, .int 0, .int 0])), (b1, .inl (cI, 1024, .inl (fun _ => 0))), (b2, .inl (cI, 200, .inl (fun _ => 0))), (b3, .inl (cI, 200, .inl (fun _ => 0)))] _ := hP
  have hD : va_D A [(q0, .inr (11, [.int 0, .int ((-1 : Int32)), .int 0, .int 0, .int 0, .int 0, .int 0, .int 0, .int 0, .int 0, .ref b1, .ref b2, .null, .null, .null, .null, .int 0, .null, .int 0, .null, .null, .null, .null, .null, .int 0, .null, .null, .int 0, .int 0, .null, .null, .int 0, .null, .int 0, .int 0, .int 0])), (b1, .inl (cI, 1024, .inl (fun _ => 0))), (b2, .inl (cI, 200, .inl (fun _ => 0))), (b3, .inl (cI, 200, .inl (fun _ => 0)))] := hD
  refine W.widen (k := 3) (n := 1424) (Nat.le_of_ble_eq_true rfl) (Nat.le_of_ble_eq_true rfl) ?_
  refine va_putF (D := (dC, dI)) (ci := 11) (v := .ref b3) (ty := (.array .int)) (C := RX12) (T := TX12) (N := 36) hx hb hts inX12 tyX12 tyX12_ok nmX12 hown hK hP hD hS 0 rfl rfl 12 (by decide) f23 (fun _ h9 => h9) rfl hin rfl (by decide +kernel) rfl rfl (Nat.le_of_ble_eq_true rfl) dX12_init_33 (fun H locs hP hD hS => ?_)
  have hP : va_P (dC, dI) vwCl [(q0, .inr (11, [.int 0, .int ((-1 : Int32)), .int 0, .int 0, .int 0, .int 0, .int 0, .int 0, .int 0, .int 0, .ref b1, .ref b2, .ref b3, .null, .null, .null, .int 0, .null, .int 0, .null, .null, .null, .null, .null, .int 0, .null, .null, .int 0, .int 0, .null, .null, .int 0, .null, .int 0, .int 0, .int 0])), (b1, .inl (cI, 1024, .inl (fun _ => 0))), (b2, .inl (cI, 200, .inl (fun _ => 0))), (b3, .inl (cI, 200, .inl (fun _ => 0)))] _ := hP
  have hD : va_D A [(q0, .inr (11, [.int 0, .int ((-1 : Int32)), .int 0, .int 0, .int 0, .int 0, .int 0, .int 0, .int 0, .int 0, .ref b1, .ref b2, .ref b3, .null, .null, .null, .int 0, .null, .int 0, .null, .null, .null, .null, .null, .int 0, .null, .null, .int 0, .int 0, .null, .null, .int 0, .null, .int 0, .int 0, .int 0])), (b1, .inl (cI, 1024, .inl (fun _ => 0))), (b2, .inl (cI, 200, .inl (fun _ => 0))), (b3, .inl (cI, 200, .inl (fun _ => 0)))] := hD
  refine lv_aload_n hx hb dX12_init_36 rfl (lv_at hl 0 rfl) ?_
  refine lv_sipush (v := 200) hx hb dX12_init_37 (by decide) ?_
  refine va_newa (atype := .int) (a0 := (200, .inl (fun _ => 0))) (N' := 200) (ty := .int) hx hb (hts (.arrayClass .int) (by decide +kernel)) rfl hK hP hD hS hA (fun _ => rfl) (by decide) (by decide) (by decide) (Nat.le_of_ble_eq_true rfl) (Nat.le_of_ble_eq_true rfl) dX12_init_40 (fun b4 cA H hK9 hP hD hS => ?_)
  obtain rfl := zz_cI hK9
  have hP : va_P (dC, dI) vwCl [(q0, .inr (11, [.int 0, .int ((-1 : Int32)), .int 0, .int 0, .int 0, .int 0, .int 0, .int 0, .int 0, .int 0, .ref b1, .ref b2, .ref b3, .null, .null, .null, .int 0, .null, .int 0, .null, .null, .null, .null, .null, .int 0, .null, .null, .int 0, .int 0, .null, .null, .int 0, .null, .int 0, .int 0, .int 0])), (b1, .inl (cI, 1024, .inl (fun _ => 0))), (b2, .inl (cI, 200, .inl (fun _ => 0))), (b3, .inl (cI, 200, .inl (fun _ => 0))), (b4, .inl (cI, 200, .inl (fun _ => 0)))] _ := hP
  have hD : va_D A [(q0, .inr (11, [.int 0, .int ((-1 : Int32)), .int 0, .int 0, .int 0, .int 0, .int 0, .int 0, .int 0, .int 0, .ref b1, .ref b2, .ref b3, .null, .null, .null, .int 0, .null, .int 0, .null, .null, .null, .null, .null, .int 0, .null, .null, .int 0, .int 0, .null, .null, .int 0, .null, .int 0, .int 0, .int 0])), (b1, .inl (cI, 1024, .inl (fun _ => 0))), (b2, .inl (cI, 200, .inl (fun _ => 0))), (b3, .inl (cI, 200, .inl (fun _ => 0))), (b4, .inl (cI, 200, .inl (fun _ => 0)))] := hD
  refine W.widen (k := 4) (n := 1624) (Nat.le_of_ble_eq_true rfl) (Nat.le_of_ble_eq_true rfl) ?_
  refine va_putF (D := (dC, dI)) (ci := 11) (v := .ref b4) (ty := (.array .int)) (C := RX12) (T := TX12) (N := 36) hx hb hts inX12 tyX12 tyX12_ok nmX12 hown hK hP hD hS 0 rfl rfl 13 (by decide) f26 (fun _ h9 => h9) rfl hin rfl (by decide +kernel) rfl rfl (Nat.le_of_ble_eq_true rfl) dX12_init_42 (fun H locs hP hD hS => ?_)
  have hP : va_P (dC, dI) vwCl [(q0, .inr (11, [.int 0, .int ((-1 : Int32)), .int 0, .int 0, .int 0, .int 0, .int 0, .int 0, .int 0, .int 0, .ref b1, .ref b2, .ref b3, .ref b4, .null, .null, .int 0, .null, .int 0, .null, .null, .null, .null, .null, .int 0, .null, .null, .int 0, .int 0, .null, .null, .int 0, .null, .int 0, .int 0, .int 0])), (b1, .inl (cI, 1024, .inl (fun _ => 0))), (b2, .inl (cI, 200, .inl (fun _ => 0))), (b3, .inl (cI, 200, .inl (fun _ => 0))), (b4, .inl (cI, 200, .inl (fun _ => 0)))] _ := hP
  have hD : va_D A [(q0, .inr (11, [.int 0, .int ((-1 : Int32)), .int 0, .int 0, .int 0, .int 0, .int 0, .int 0, .int 0, .int 0, .ref b1, .ref b2, .ref b3, .ref b4, .null, .null, .int 0, .null, .int 0, .null, .null, .null, .null, .null, .int 0, .null, .null, .int 0, .int 0, .null, .null, .int 0, .null, .int 0, .int 0, .int 0])), (b1, .inl (cI, 1024, .inl (fun _ => 0))), (b2, .inl (cI, 200, .inl (fun _ => 0))), (b3, .inl (cI, 200, .inl (fun _ => 0))), (b4, .inl (cI, 200, .inl (fun _ => 0)))] := hD
  refine lv_aload_n hx hb dX12_init_45 rfl (lv_at hl 0 rfl) ?_
  refine lv_sipush (v := 200) hx hb dX12_init_46 (by decide) ?_
  refine va_newa (atype := .int) (a0 := (200, .inl (fun _ => 0))) (N' := 200) (ty := .int) hx hb (hts (.arrayClass .int) (by decide +kernel)) rfl hK hP hD hS hA (fun _ => rfl) (by decide) (by decide) (by decide) (Nat.le_of_ble_eq_true rfl) (Nat.le_of_ble_eq_true rfl) dX12_init_49 (fun b5 cA H hK9 hP hD hS => ?_)
  obtain rfl := zz_cI hK9
  have hP : va_P (dC, dI) vwCl [(q0, .inr (11, [.int 0, .int ((-1 : Int32)), .int 0, .int 0, .int 0, .int 0, .int 0, .int 0, .int 0, .int 0, .ref b1, .ref b2, .ref b3, .ref b4, .null, .null, .int 0, .null, .int 0, .null, .null, .null, .null, .null, .int 0, .null, .null, .int 0, .int 0, .null, .null, .int 0, .null, .int 0, .int 0, .int 0])), (b1, .inl (cI, 1024, .inl (fun _ => 0))), (b2, .inl (cI, 200, .inl (fun _ => 0))), (b3, .inl (cI, 200, .inl (fun _ => 0))), (b4, .inl (cI, 200, .inl (fun _ => 0))), (b5, .inl (cI, 200, .inl (fun _ => 0)))] _ := hP
  have hD : va_D A [(q0, .inr (11, [.int 0, .int ((-1 : Int32)), .int 0, .int 0, .int 0, .int 0, .int 0, .int 0, .int 0, .int 0, .ref b1, .ref b2, .ref b3, .ref b4, .null, .null, .int 0, .null, .int 0, .null, .null, .null, .null, .null, .int 0, .null, .null, .int 0, .int 0, .null, .null, .int 0, .null, .int 0, .int 0, .int 0])), (b1, .inl (cI, 1024, .inl (fun _ => 0))), (b2, .inl (cI, 200, .inl (fun _ => 0))), (b3, .inl (cI, 200, .inl (fun _ => 0))), (b4, .inl (cI, 200, .inl (fun _ => 0))), (b5, .inl (cI, 200, .inl (fun _ => 0)))] := hD
  refine W.widen (k := 5) (n := 1824) (Nat.le_of_ble_eq_true rfl) (Nat.le_of_ble_eq_true rfl) ?_
  refine va_putF (D := (dC, dI)) (ci := 11) (v := .ref b5) (ty := (.array .int)) (C := RX12) (T := TX12) (N := 36) hx hb hts inX12 tyX12 tyX12_ok nmX12 hown hK hP hD hS 0 rfl rfl 14 (by decide) f29 (fun _ h9 => h9) rfl hin rfl (by decide +kernel) rfl rfl (Nat.le_of_ble_eq_true rfl) dX12_init_51 (fun H locs hP hD hS => ?_)
  have hP : va_P (dC, dI) vwCl [(q0, .inr (11, [.int 0, .int ((-1 : Int32)), .int 0, .int 0, .int 0, .int 0, .int 0, .int 0, .int 0, .int 0, .ref b1, .ref b2, .ref b3, .ref b4, .ref b5, .null, .int 0, .null, .int 0, .null, .null, .null, .null, .null, .int 0, .null, .null, .int 0, .int 0, .null, .null, .int 0, .null, .int 0, .int 0, .int 0])), (b1, .inl (cI, 1024, .inl (fun _ => 0))), (b2, .inl (cI, 200, .inl (fun _ => 0))), (b3, .inl (cI, 200, .inl (fun _ => 0))), (b4, .inl (cI, 200, .inl (fun _ => 0))), (b5, .inl (cI, 200, .inl (fun _ => 0)))] _ := hP
  have hD : va_D A [(q0, .inr (11, [.int 0, .int ((-1 : Int32)), .int 0, .int 0, .int 0, .int 0, .int 0, .int 0, .int 0, .int 0, .ref b1, .ref b2, .ref b3, .ref b4, .ref b5, .null, .int 0, .null, .int 0, .null, .null, .null, .null, .null, .int 0, .null, .null, .int 0, .int 0, .null, .null, .int 0, .null, .int 0, .int 0, .int 0])), (b1, .inl (cI, 1024, .inl (fun _ => 0))), (b2, .inl (cI, 200, .inl (fun _ => 0))), (b3, .inl (cI, 200, .inl (fun _ => 0))), (b4, .inl (cI, 200, .inl (fun _ => 0))), (b5, .inl (cI, 200, .inl (fun _ => 0)))] := hD
  refine lv_aload_n hx hb dX12_init_54 rfl (lv_at hl 0 rfl) ?_
  refine lv_sipush (v := 1024) hx hb dX12_init_55 (by decide) ?_
  refine va_newa (atype := .int) (a0 := (1024, .inl (fun _ => 0))) (N' := 1024) (ty := .int) hx hb (hts (.arrayClass .int) (by decide +kernel)) rfl hK hP hD hS hA (fun _ => rfl) (by decide) (by decide) (by decide) (Nat.le_of_ble_eq_true rfl) (Nat.le_of_ble_eq_true rfl) dX12_init_58 (fun b6 cA H hK9 hP hD hS => ?_)
  obtain rfl := zz_cI hK9
  have hP : va_P (dC, dI) vwCl [(q0, .inr (11, [.int 0, .int ((-1 : Int32)), .int 0, .int 0, .int 0, .int 0, .int 0, .int 0, .int 0, .int 0, .ref b1, .ref b2, .ref b3, .ref b4, .ref b5, .null, .int 0, .null, .int 0, .null, .null, .null, .null, .null, .int 0, .null, .null, .int 0, .int 0, .null, .null, .int 0, .null, .int 0, .int 0, .int 0])), (b1, .inl (cI, 1024, .inl (fun _ => 0))), (b2, .inl (cI, 200, .inl (fun _ => 0))), (b3, .inl (cI, 200, .inl (fun _ => 0))), (b4, .inl (cI, 200, .inl (fun _ => 0))), (b5, .inl (cI, 200, .inl (fun _ => 0))), (b6, .inl (cI, 1024, .inl (fun _ => 0)))] _ := hP
  have hD : va_D A [(q0, .inr (11, [.int 0, .int ((-1 : Int32)), .int 0, .int 0, .int 0, .int 0, .int 0, .int 0, .int 0, .int 0, .ref b1, .ref b2, .ref b3, .ref b4, .ref b5, .null, .int 0, .null, .int 0, .null, .null, .null, .null, .null, .int 0, .null, .null, .int 0, .int 0, .null, .null, .int 0, .null, .int 0, .int 0, .int 0])), (b1, .inl (cI, 1024, .inl (fun _ => 0))), (b2, .inl (cI, 200, .inl (fun _ => 0))), (b3, .inl (cI, 200, .inl (fun _ => 0))), (b4, .inl (cI, 200, .inl (fun _ => 0))), (b5, .inl (cI, 200, .inl (fun _ => 0))), (b6, .inl (cI, 1024, .inl (fun _ => 0)))] := hD
  refine W.widen (k := 6) (n := 2848) (Nat.le_of_ble_eq_true rfl) (Nat.le_of_ble_eq_true rfl) ?_
  refine va_putF (D := (dC, dI)) (ci := 11) (v := .ref b6) (ty := (.array .int)) (C := RX12) (T := TX12) (N := 36) hx hb hts inX12 tyX12 tyX12_ok nmX12 hown hK hP hD hS 0 rfl rfl 15 (by decide) f32 (fun _ h9 => h9) rfl hin rfl (by decide +kernel) rfl rfl (Nat.le_of_ble_eq_true rfl) dX12_init_60 (fun H locs hP hD hS => ?_)
  have hP : va_P (dC, dI) vwCl [(q0, .inr (11, [.int 0, .int ((-1 : Int32)), .int 0, .int 0, .int 0, .int 0, .int 0, .int 0, .int 0, .int 0, .ref b1, .ref b2, .ref b3, .ref b4, .ref b5, .ref b6, .int 0, .null, .int 0, .null, .null, .null, .null, .null, .int 0, .null, .null, .int 0, .int 0, .null, .null, .int 0, .null, .int 0, .int 0, .int 0])), (b1, .inl (cI, 1024, .inl (fun _ => 0))), (b2, .inl (cI, 200, .inl (fun _ => 0))), (b3, .inl (cI, 200, .inl (fun _ => 0))), (b4, .inl (cI, 200, .inl (fun _ => 0))), (b5, .inl (cI, 200, .inl (fun _ => 0))), (b6, .inl (cI, 1024, .inl (fun _ => 0)))] _ := hP
  have hD : va_D A [(q0, .inr (11, [.int 0, .int ((-1 : Int32)), .int 0, .int 0, .int 0, .int 0, .int 0, .int 0, .int 0, .int 0, .ref b1, .ref b2, .ref b3, .ref b4, .ref b5, .ref b6, .int 0, .null, .int 0, .null, .null, .null, .null, .null, .int 0, .null, .null, .int 0, .int 0, .null, .null, .int 0, .null, .int 0, .int 0, .int 0])), (b1, .inl (cI, 1024, .inl (fun _ => 0))), (b2, .inl (cI, 200, .inl (fun _ => 0))), (b3, .inl (cI, 200, .inl (fun _ => 0))), (b4, .inl (cI, 200, .inl (fun _ => 0))), (b5, .inl (cI, 200, .inl (fun _ => 0))), (b6, .inl (cI, 1024, .inl (fun _ => 0)))] := hD
  refine lv_aload_n hx hb dX12_init_63 rfl (lv_at hl 0 rfl) ?_
  refine lv_bipush (v := 32) hx hb dX12_init_64 (by decide) ?_
  refine va_newa (atype := .int) (a0 := (32, .inl (fun _ => 0))) (N' := 32) (ty := .int) hx hb (hts (.arrayClass .int) (by decide +kernel)) rfl hK hP hD hS hA (fun _ => rfl) (by decide) (by decide) (by decide) (Nat.le_of_ble_eq_true rfl) (Nat.le_of_ble_eq_true rfl) dX12_init_66 (fun b7 cA H hK9 hP hD hS => ?_)
  obtain rfl := zz_cI hK9
  have hP : va_P (dC, dI) vwCl [(q0, .inr (11, [.int 0, .int ((-1 : Int32)), .int 0, .int 0, .int 0, .int 0, .int 0, .int 0, .int 0, .int 0, .ref b1, .ref b2, .ref b3, .ref b4, .ref b5, .ref b6, .int 0, .null, .int 0, .null, .null, .null, .null, .null, .int 0, .null, .null, .int 0, .int 0, .null, .null, .int 0, .null, .int 0, .int 0, .int 0])), (b1, .inl (cI, 1024, .inl (fun _ => 0))), (b2, .inl (cI, 200, .inl (fun _ => 0))), (b3, .inl (cI, 200, .inl (fun _ => 0))), (b4, .inl (cI, 200, .inl (fun _ => 0))), (b5, .inl (cI, 200, .inl (fun _ => 0))), (b6, .inl (cI, 1024, .inl (fun _ => 0))), (b7, .inl (cI, 32, .inl (fun _ => 0)))] _ := hP
  have hD : va_D A [(q0, .inr (11, [.int 0, .int ((-1 : Int32)), .int 0, .int 0, .int 0, .int 0, .int 0, .int 0, .int 0, .int 0, .ref b1, .ref b2, .ref b3, .ref b4, .ref b5, .ref b6, .int 0, .null, .int 0, .null, .null, .null, .null, .null, .int 0, .null, .null, .int 0, .int 0, .null, .null, .int 0, .null, .int 0, .int 0, .int 0])), (b1, .inl (cI, 1024, .inl (fun _ => 0))), (b2, .inl (cI, 200, .inl (fun _ => 0))), (b3, .inl (cI, 200, .inl (fun _ => 0))), (b4, .inl (cI, 200, .inl (fun _ => 0))), (b5, .inl (cI, 200, .inl (fun _ => 0))), (b6, .inl (cI, 1024, .inl (fun _ => 0))), (b7, .inl (cI, 32, .inl (fun _ => 0)))] := hD
  refine W.widen (k := 7) (n := 2880) (Nat.le_of_ble_eq_true rfl) (Nat.le_of_ble_eq_true rfl) ?_
  refine va_putF (D := (dC, dI)) (ci := 11) (v := .ref b7) (ty := (.array .int)) (C := RX12) (T := TX12) (N := 36) hx hb hts inX12 tyX12 tyX12_ok nmX12 hown hK hP hD hS 0 rfl rfl 17 (by decide) f35 (fun _ h9 => h9) rfl hin rfl (by decide +kernel) rfl rfl (Nat.le_of_ble_eq_true rfl) dX12_init_68 (fun H locs hP hD hS => ?_)
  have hP : va_P (dC, dI) vwCl [(q0, .inr (11, [.int 0, .int ((-1 : Int32)), .int 0, .int 0, .int 0, .int 0, .int 0, .int 0, .int 0, .int 0, .ref b1, .ref b2, .ref b3, .ref b4, .ref b5, .ref b6, .int 0, .ref b7, .int 0, .null, .null, .null, .null, .null, .int 0, .null, .null, .int 0, .int 0, .null, .null, .int 0, .null, .int 0, .int 0, .int 0])), (b1, .inl (cI, 1024, .inl (fun _ => 0))), (b2, .inl (cI, 200, .inl (fun _ => 0))), (b3, .inl (cI, 200, .inl (fun _ => 0))), (b4, .inl (cI, 200, .inl (fun _ => 0))), (b5, .inl (cI, 200, .inl (fun _ => 0))), (b6, .inl (cI, 1024, .inl (fun _ => 0))), (b7, .inl (cI, 32, .inl (fun _ => 0)))] _ := hP
  have hD : va_D A [(q0, .inr (11, [.int 0, .int ((-1 : Int32)), .int 0, .int 0, .int 0, .int 0, .int 0, .int 0, .int 0, .int 0, .ref b1, .ref b2, .ref b3, .ref b4, .ref b5, .ref b6, .int 0, .ref b7, .int 0, .null, .null, .null, .null, .null, .int 0, .null, .null, .int 0, .int 0, .null, .null, .int 0, .null, .int 0, .int 0, .int 0])), (b1, .inl (cI, 1024, .inl (fun _ => 0))), (b2, .inl (cI, 200, .inl (fun _ => 0))), (b3, .inl (cI, 200, .inl (fun _ => 0))), (b4, .inl (cI, 200, .inl (fun _ => 0))), (b5, .inl (cI, 200, .inl (fun _ => 0))), (b6, .inl (cI, 1024, .inl (fun _ => 0))), (b7, .inl (cI, 32, .inl (fun _ => 0)))] := hD
  refine lv_aload_n hx hb dX12_init_71 rfl (lv_at hl 0 rfl) ?_
  refine lv_ldc (v := (45056)) hx hb hown (hts (.constant RX12 38 (45056)) (by decide +kernel)) dX12_init_72 ?_
  refine va_newa (atype := .int) (a0 := (45056, .inl (fun _ => 0))) (N' := 45056) (ty := .int) hx hb (hts (.arrayClass .int) (by decide +kernel)) rfl hK hP hD hS hA (fun _ => rfl) (by decide) (by decide) (by decide) (Nat.le_of_ble_eq_true rfl) (Nat.le_of_ble_eq_true rfl) dX12_init_74 (fun b8 cA H hK9 hP hD hS => ?_)
  obtain rfl := zz_cI hK9
  have hP : va_P (dC, dI) vwCl [(q0, .inr (11, [.int 0, .int ((-1 : Int32)), .int 0, .int 0, .int 0, .int 0, .int 0, .int 0, .int 0, .int 0, .ref b1, .ref b2, .ref b3, .ref b4, .ref b5, .ref b6, .int 0, .ref b7, .int 0, .null, .null, .null, .null, .null, .int 0, .null, .null, .int 0, .int 0, .null, .null, .int 0, .null, .int 0, .int 0, .int 0])), (b1, .inl (cI, 1024, .inl (fun _ => 0))), (b2, .inl (cI, 200, .inl (fun _ => 0))), (b3, .inl (cI, 200, .inl (fun _ => 0))), (b4, .inl (cI, 200, .inl (fun _ => 0))), (b5, .inl (cI, 200, .inl (fun _ => 0))), (b6, .inl (cI, 1024, .inl (fun _ => 0))), (b7, .inl (cI, 32, .inl (fun _ => 0))), (b8, .inl (cI, 45056, .inl (fun _ => 0)))] _ := hP
  have hD : va_D A [(q0, .inr (11, [.int 0, .int ((-1 : Int32)), .int 0, .int 0, .int 0, .int 0, .int 0, .int 0, .int 0, .int 0, .ref b1, .ref b2, .ref b3, .ref b4, .ref b5, .ref b6, .int 0, .ref b7, .int 0, .null, .null, .null, .null, .null, .int 0, .null, .null, .int 0, .int 0, .null, .null, .int 0, .null, .int 0, .int 0, .int 0])), (b1, .inl (cI, 1024, .inl (fun _ => 0))), (b2, .inl (cI, 200, .inl (fun _ => 0))), (b3, .inl (cI, 200, .inl (fun _ => 0))), (b4, .inl (cI, 200, .inl (fun _ => 0))), (b5, .inl (cI, 200, .inl (fun _ => 0))), (b6, .inl (cI, 1024, .inl (fun _ => 0))), (b7, .inl (cI, 32, .inl (fun _ => 0))), (b8, .inl (cI, 45056, .inl (fun _ => 0)))] := hD
  refine W.widen (k := 8) (n := 47936) (Nat.le_of_ble_eq_true rfl) (Nat.le_of_ble_eq_true rfl) ?_
  refine va_putF (D := (dC, dI)) (ci := 11) (v := .ref b8) (ty := (.array .int)) (C := RX12) (T := TX12) (N := 36) hx hb hts inX12 tyX12 tyX12_ok nmX12 hown hK hP hD hS 0 rfl rfl 19 (by decide) f39 (fun _ h9 => h9) rfl hin rfl (by decide +kernel) rfl rfl (Nat.le_of_ble_eq_true rfl) dX12_init_76 (fun H locs hP hD hS => ?_)
  have hP : va_P (dC, dI) vwCl [(q0, .inr (11, [.int 0, .int ((-1 : Int32)), .int 0, .int 0, .int 0, .int 0, .int 0, .int 0, .int 0, .int 0, .ref b1, .ref b2, .ref b3, .ref b4, .ref b5, .ref b6, .int 0, .ref b7, .int 0, .ref b8, .null, .null, .null, .null, .int 0, .null, .null, .int 0, .int 0, .null, .null, .int 0, .null, .int 0, .int 0, .int 0])), (b1, .inl (cI, 1024, .inl (fun _ => 0))), (b2, .inl (cI, 200, .inl (fun _ => 0))), (b3, .inl (cI, 200, .inl (fun _ => 0))), (b4, .inl (cI, 200, .inl (fun _ => 0))), (b5, .inl (cI, 200, .inl (fun _ => 0))), (b6, .inl (cI, 1024, .inl (fun _ => 0))), (b7, .inl (cI, 32, .inl (fun _ => 0))), (b8, .inl (cI, 45056, .inl (fun _ => 0)))] _ := hP
  have hD : va_D A [(q0, .inr (11, [.int 0, .int ((-1 : Int32)), .int 0, .int 0, .int 0, .int 0, .int 0, .int 0, .int 0, .int 0, .ref b1, .ref b2, .ref b3, .ref b4, .ref b5, .ref b6, .int 0, .ref b7, .int 0, .ref b8, .null, .null, .null, .null, .int 0, .null, .null, .int 0, .int 0, .null, .null, .int 0, .null, .int 0, .int 0, .int 0])), (b1, .inl (cI, 1024, .inl (fun _ => 0))), (b2, .inl (cI, 200, .inl (fun _ => 0))), (b3, .inl (cI, 200, .inl (fun _ => 0))), (b4, .inl (cI, 200, .inl (fun _ => 0))), (b5, .inl (cI, 200, .inl (fun _ => 0))), (b6, .inl (cI, 1024, .inl (fun _ => 0))), (b7, .inl (cI, 32, .inl (fun _ => 0))), (b8, .inl (cI, 45056, .inl (fun _ => 0)))] := hD
  refine lv_aload_n hx hb dX12_init_79 rfl (lv_at hl 0 rfl) ?_
  refine lv_bipush (v := 44) hx hb dX12_init_80 (by decide) ?_
  refine va_newa (atype := .int) (a0 := (44, .inl (fun _ => 0))) (N' := 44) (ty := .int) hx hb (hts (.arrayClass .int) (by decide +kernel)) rfl hK hP hD hS hA (fun _ => rfl) (by decide) (by decide) (by decide) (Nat.le_of_ble_eq_true rfl) (Nat.le_of_ble_eq_true rfl) dX12_init_82 (fun b9 cA H hK9 hP hD hS => ?_)
  obtain rfl := zz_cI hK9
  have hP : va_P (dC, dI) vwCl [(q0, .inr (11, [.int 0, .int ((-1 : Int32)), .int 0, .int 0, .int 0, .int 0, .int 0, .int 0, .int 0, .int 0, .ref b1, .ref b2, .ref b3, .ref b4, .ref b5, .ref b6, .int 0, .ref b7, .int 0, .ref b8, .null, .null, .null, .null, .int 0, .null, .null, .int 0, .int 0, .null, .null, .int 0, .null, .int 0, .int 0, .int 0])), (b1, .inl (cI, 1024, .inl (fun _ => 0))), (b2, .inl (cI, 200, .inl (fun _ => 0))), (b3, .inl (cI, 200, .inl (fun _ => 0))), (b4, .inl (cI, 200, .inl (fun _ => 0))), (b5, .inl (cI, 200, .inl (fun _ => 0))), (b6, .inl (cI, 1024, .inl (fun _ => 0))), (b7, .inl (cI, 32, .inl (fun _ => 0))), (b8, .inl (cI, 45056, .inl (fun _ => 0))), (b9, .inl (cI, 44, .inl (fun _ => 0)))] _ := hP
  have hD : va_D A [(q0, .inr (11, [.int 0, .int ((-1 : Int32)), .int 0, .int 0, .int 0, .int 0, .int 0, .int 0, .int 0, .int 0, .ref b1, .ref b2, .ref b3, .ref b4, .ref b5, .ref b6, .int 0, .ref b7, .int 0, .ref b8, .null, .null, .null, .null, .int 0, .null, .null, .int 0, .int 0, .null, .null, .int 0, .null, .int 0, .int 0, .int 0])), (b1, .inl (cI, 1024, .inl (fun _ => 0))), (b2, .inl (cI, 200, .inl (fun _ => 0))), (b3, .inl (cI, 200, .inl (fun _ => 0))), (b4, .inl (cI, 200, .inl (fun _ => 0))), (b5, .inl (cI, 200, .inl (fun _ => 0))), (b6, .inl (cI, 1024, .inl (fun _ => 0))), (b7, .inl (cI, 32, .inl (fun _ => 0))), (b8, .inl (cI, 45056, .inl (fun _ => 0))), (b9, .inl (cI, 44, .inl (fun _ => 0)))] := hD
  refine W.widen (k := 9) (n := 47980) (Nat.le_of_ble_eq_true rfl) (Nat.le_of_ble_eq_true rfl) ?_
  refine va_putF (D := (dC, dI)) (ci := 11) (v := .ref b9) (ty := (.array .int)) (C := RX12) (T := TX12) (N := 36) hx hb hts inX12 tyX12 tyX12_ok nmX12 hown hK hP hD hS 0 rfl rfl 20 (by decide) f42 (fun _ h9 => h9) rfl hin rfl (by decide +kernel) rfl rfl (Nat.le_of_ble_eq_true rfl) dX12_init_84 (fun H locs hP hD hS => ?_)
  have hP : va_P (dC, dI) vwCl [(q0, .inr (11, [.int 0, .int ((-1 : Int32)), .int 0, .int 0, .int 0, .int 0, .int 0, .int 0, .int 0, .int 0, .ref b1, .ref b2, .ref b3, .ref b4, .ref b5, .ref b6, .int 0, .ref b7, .int 0, .ref b8, .ref b9, .null, .null, .null, .int 0, .null, .null, .int 0, .int 0, .null, .null, .int 0, .null, .int 0, .int 0, .int 0])), (b1, .inl (cI, 1024, .inl (fun _ => 0))), (b2, .inl (cI, 200, .inl (fun _ => 0))), (b3, .inl (cI, 200, .inl (fun _ => 0))), (b4, .inl (cI, 200, .inl (fun _ => 0))), (b5, .inl (cI, 200, .inl (fun _ => 0))), (b6, .inl (cI, 1024, .inl (fun _ => 0))), (b7, .inl (cI, 32, .inl (fun _ => 0))), (b8, .inl (cI, 45056, .inl (fun _ => 0))), (b9, .inl (cI, 44, .inl (fun _ => 0)))] _ := hP
  have hD : va_D A [(q0, .inr (11, [.int 0, .int ((-1 : Int32)), .int 0, .int 0, .int 0, .int 0, .int 0, .int 0, .int 0, .int 0, .ref b1, .ref b2, .ref b3, .ref b4, .ref b5, .ref b6, .int 0, .ref b7, .int 0, .ref b8, .ref b9, .null, .null, .null, .int 0, .null, .null, .int 0, .int 0, .null, .null, .int 0, .null, .int 0, .int 0, .int 0])), (b1, .inl (cI, 1024, .inl (fun _ => 0))), (b2, .inl (cI, 200, .inl (fun _ => 0))), (b3, .inl (cI, 200, .inl (fun _ => 0))), (b4, .inl (cI, 200, .inl (fun _ => 0))), (b5, .inl (cI, 200, .inl (fun _ => 0))), (b6, .inl (cI, 1024, .inl (fun _ => 0))), (b7, .inl (cI, 32, .inl (fun _ => 0))), (b8, .inl (cI, 45056, .inl (fun _ => 0))), (b9, .inl (cI, 44, .inl (fun _ => 0)))] := hD
  refine lv_aload_n hx hb dX12_init_87 rfl (lv_at hl 0 rfl) ?_
  refine lv_sipush (v := 1024) hx hb dX12_init_88 (by decide) ?_
  refine va_newa (atype := .int) (a0 := (1024, .inl (fun _ => 0))) (N' := 1024) (ty := .int) hx hb (hts (.arrayClass .int) (by decide +kernel)) rfl hK hP hD hS hA (fun _ => rfl) (by decide) (by decide) (by decide) (Nat.le_of_ble_eq_true rfl) (Nat.le_of_ble_eq_true rfl) dX12_init_91 (fun b10 cA H hK9 hP hD hS => ?_)
  obtain rfl := zz_cI hK9
  have hP : va_P (dC, dI) vwCl [(q0, .inr (11, [.int 0, .int ((-1 : Int32)), .int 0, .int 0, .int 0, .int 0, .int 0, .int 0, .int 0, .int 0, .ref b1, .ref b2, .ref b3, .ref b4, .ref b5, .ref b6, .int 0, .ref b7, .int 0, .ref b8, .ref b9, .null, .null, .null, .int 0, .null, .null, .int 0, .int 0, .null, .null, .int 0, .null, .int 0, .int 0, .int 0])), (b1, .inl (cI, 1024, .inl (fun _ => 0))), (b2, .inl (cI, 200, .inl (fun _ => 0))), (b3, .inl (cI, 200, .inl (fun _ => 0))), (b4, .inl (cI, 200, .inl (fun _ => 0))), (b5, .inl (cI, 200, .inl (fun _ => 0))), (b6, .inl (cI, 1024, .inl (fun _ => 0))), (b7, .inl (cI, 32, .inl (fun _ => 0))), (b8, .inl (cI, 45056, .inl (fun _ => 0))), (b9, .inl (cI, 44, .inl (fun _ => 0))), (b10, .inl (cI, 1024, .inl (fun _ => 0)))] _ := hP
  have hD : va_D A [(q0, .inr (11, [.int 0, .int ((-1 : Int32)), .int 0, .int 0, .int 0, .int 0, .int 0, .int 0, .int 0, .int 0, .ref b1, .ref b2, .ref b3, .ref b4, .ref b5, .ref b6, .int 0, .ref b7, .int 0, .ref b8, .ref b9, .null, .null, .null, .int 0, .null, .null, .int 0, .int 0, .null, .null, .int 0, .null, .int 0, .int 0, .int 0])), (b1, .inl (cI, 1024, .inl (fun _ => 0))), (b2, .inl (cI, 200, .inl (fun _ => 0))), (b3, .inl (cI, 200, .inl (fun _ => 0))), (b4, .inl (cI, 200, .inl (fun _ => 0))), (b5, .inl (cI, 200, .inl (fun _ => 0))), (b6, .inl (cI, 1024, .inl (fun _ => 0))), (b7, .inl (cI, 32, .inl (fun _ => 0))), (b8, .inl (cI, 45056, .inl (fun _ => 0))), (b9, .inl (cI, 44, .inl (fun _ => 0))), (b10, .inl (cI, 1024, .inl (fun _ => 0)))] := hD
  refine W.widen (k := 10) (n := 49004) (Nat.le_of_ble_eq_true rfl) (Nat.le_of_ble_eq_true rfl) ?_
  refine va_putF (D := (dC, dI)) (ci := 11) (v := .ref b10) (ty := (.array .int)) (C := RX12) (T := TX12) (N := 36) hx hb hts inX12 tyX12 tyX12_ok nmX12 hown hK hP hD hS 0 rfl rfl 21 (by decide) f45 (fun _ h9 => h9) rfl hin rfl (by decide +kernel) rfl rfl (Nat.le_of_ble_eq_true rfl) dX12_init_93 (fun H locs hP hD hS => ?_)
  have hP : va_P (dC, dI) vwCl [(q0, .inr (11, [.int 0, .int ((-1 : Int32)), .int 0, .int 0, .int 0, .int 0, .int 0, .int 0, .int 0, .int 0, .ref b1, .ref b2, .ref b3, .ref b4, .ref b5, .ref b6, .int 0, .ref b7, .int 0, .ref b8, .ref b9, .ref b10, .null, .null, .int 0, .null, .null, .int 0, .int 0, .null, .null, .int 0, .null, .int 0, .int 0, .int 0])), (b1, .inl (cI, 1024, .inl (fun _ => 0))), (b2, .inl (cI, 200, .inl (fun _ => 0))), (b3, .inl (cI, 200, .inl (fun _ => 0))), (b4, .inl (cI, 200, .inl (fun _ => 0))), (b5, .inl (cI, 200, .inl (fun _ => 0))), (b6, .inl (cI, 1024, .inl (fun _ => 0))), (b7, .inl (cI, 32, .inl (fun _ => 0))), (b8, .inl (cI, 45056, .inl (fun _ => 0))), (b9, .inl (cI, 44, .inl (fun _ => 0))), (b10, .inl (cI, 1024, .inl (fun _ => 0)))] _ := hP
  have hD : va_D A [(q0, .inr (11, [.int 0, .int ((-1 : Int32)), .int 0, .int 0, .int 0, .int 0, .int 0, .int 0, .int 0, .int 0, .ref b1, .ref b2, .ref b3, .ref b4, .ref b5, .ref b6, .int 0, .ref b7, .int 0, .ref b8, .ref b9, .ref b10, .null, .null, .int 0, .null, .null, .int 0, .int 0, .null, .null, .int 0, .null, .int 0, .int 0, .int 0])), (b1, .inl (cI, 1024, .inl (fun _ => 0))), (b2, .inl (cI, 200, .inl (fun _ => 0))), (b3, .inl (cI, 200, .inl (fun _ => 0))), (b4, .inl (cI, 200, .inl (fun _ => 0))), (b5, .inl (cI, 200, .inl (fun _ => 0))), (b6, .inl (cI, 1024, .inl (fun _ => 0))), (b7, .inl (cI, 32, .inl (fun _ => 0))), (b8, .inl (cI, 45056, .inl (fun _ => 0))), (b9, .inl (cI, 44, .inl (fun _ => 0))), (b10, .inl (cI, 1024, .inl (fun _ => 0)))] := hD
  refine lv_aload_n hx hb dX12_init_96 rfl (lv_at hl 0 rfl) ?_
  refine lv_sipush (v := 1024) hx hb dX12_init_97 (by decide) ?_
  refine va_newa (atype := .int) (a0 := (1024, .inl (fun _ => 0))) (N' := 1024) (ty := .int) hx hb (hts (.arrayClass .int) (by decide +kernel)) rfl hK hP hD hS hA (fun _ => rfl) (by decide) (by decide) (by decide) (Nat.le_of_ble_eq_true rfl) (Nat.le_of_ble_eq_true rfl) dX12_init_100 (fun b11 cA H hK9 hP hD hS => ?_)
  obtain rfl := zz_cI hK9
  have hP : va_P (dC, dI) vwCl [(q0, .inr (11, [.int 0, .int ((-1 : Int32)), .int 0, .int 0, .int 0, .int 0, .int 0, .int 0, .int 0, .int 0, .ref b1, .ref b2, .ref b3, .ref b4, .ref b5, .ref b6, .int 0, .ref b7, .int 0, .ref b8, .ref b9, .ref b10, .null, .null, .int 0, .null, .null, .int 0, .int 0, .null, .null, .int 0, .null, .int 0, .int 0, .int 0])), (b1, .inl (cI, 1024, .inl (fun _ => 0))), (b2, .inl (cI, 200, .inl (fun _ => 0))), (b3, .inl (cI, 200, .inl (fun _ => 0))), (b4, .inl (cI, 200, .inl (fun _ => 0))), (b5, .inl (cI, 200, .inl (fun _ => 0))), (b6, .inl (cI, 1024, .inl (fun _ => 0))), (b7, .inl (cI, 32, .inl (fun _ => 0))), (b8, .inl (cI, 45056, .inl (fun _ => 0))), (b9, .inl (cI, 44, .inl (fun _ => 0))), (b10, .inl (cI, 1024, .inl (fun _ => 0))), (b11, .inl (cI, 1024, .inl (fun _ => 0)))] _ := hP
  have hD : va_D A [(q0, .inr (11, [.int 0, .int ((-1 : Int32)), .int 0, .int 0, .int 0, .int 0, .int 0, .int 0, .int 0, .int 0, .ref b1, .ref b2, .ref b3, .ref b4, .ref b5, .ref b6, .int 0, .ref b7, .int 0, .ref b8, .ref b9, .ref b10, .null, .null, .int 0, .null, .null, .int 0, .int 0, .null, .null, .int 0, .null, .int 0, .int 0, .int 0])), (b1, .inl (cI, 1024, .inl (fun _ => 0))), (b2, .inl (cI, 200, .inl (fun _ => 0))), (b3, .inl (cI, 200, .inl (fun _ => 0))), (b4, .inl (cI, 200, .inl (fun _ => 0))), (b5, .inl (cI, 200, .inl (fun _ => 0))), (b6, .inl (cI, 1024, .inl (fun _ => 0))), (b7, .inl (cI, 32, .inl (fun _ => 0))), (b8, .inl (cI, 45056, .inl (fun _ => 0))), (b9, .inl (cI, 44, .inl (fun _ => 0))), (b10, .inl (cI, 1024, .inl (fun _ => 0))), (b11, .inl (cI, 1024, .inl (fun _ => 0)))] := hD
  refine W.widen (k := 11) (n := 50028) (Nat.le_of_ble_eq_true rfl) (Nat.le_of_ble_eq_true rfl) ?_
  refine va_putF (D := (dC, dI)) (ci := 11) (v := .ref b11) (ty := (.array .int)) (C := RX12) (T := TX12) (N := 36) hx hb hts inX12 tyX12 tyX12_ok nmX12 hown hK hP hD hS 0 rfl rfl 22 (by decide) f48 (fun _ h9 => h9) rfl hin rfl (by decide +kernel) rfl rfl (Nat.le_of_ble_eq_true rfl) dX12_init_102 (fun H locs hP hD hS => ?_)
  have hP : va_P (dC, dI) vwCl [(q0, .inr (11, [.int 0, .int ((-1 : Int32)), .int 0, .int 0, .int 0, .int 0, .int 0, .int 0, .int 0, .int 0, .ref b1, .ref b2, .ref b3, .ref b4, .ref b5, .ref b6, .int 0, .ref b7, .int 0, .ref b8, .ref b9, .ref b10, .ref b11, .null, .int 0, .null, .null, .int 0, .int 0, .null, .null, .int 0, .null, .int 0, .int 0, .int 0])), (b1, .inl (cI, 1024, .inl (fun _ => 0))), (b2, .inl (cI, 200, .inl (fun _ => 0))), (b3, .inl (cI, 200, .inl (fun _ => 0))), (b4, .inl (cI, 200, .inl (fun _ => 0))), (b5, .inl (cI, 200, .inl (fun _ => 0))), (b6, .inl (cI, 1024, .inl (fun _ => 0))), (b7, .inl (cI, 32, .inl (fun _ => 0))), (b8, .inl (cI, 45056, .inl (fun _ => 0))), (b9, .inl (cI, 44, .inl (fun _ => 0))), (b10, .inl (cI, 1024, .inl (fun _ => 0))), (b11, .inl (cI, 1024, .inl (fun _ => 0)))] _ := hP
  have hD : va_D A [(q0, .inr (11, [.int 0, .int ((-1 : Int32)), .int 0, .int 0, .int 0, .int 0, .int 0, .int 0, .int 0, .int 0, .ref b1, .ref b2, .ref b3, .ref b4, .ref b5, .ref b6, .int 0, .ref b7, .int 0, .ref b8, .ref b9, .ref b10, .ref b11, .null, .int 0, .null, .null, .int 0, .int 0, .null, .null, .int 0, .null, .int 0, .int 0, .int 0])), (b1, .inl (cI, 1024, .inl (fun _ => 0))), (b2, .inl (cI, 200, .inl (fun _ => 0))), (b3, .inl (cI, 200, .inl (fun _ => 0))), (b4, .inl (cI, 200, .inl (fun _ => 0))), (b5, .inl (cI, 200, .inl (fun _ => 0))), (b6, .inl (cI, 1024, .inl (fun _ => 0))), (b7, .inl (cI, 32, .inl (fun _ => 0))), (b8, .inl (cI, 45056, .inl (fun _ => 0))), (b9, .inl (cI, 44, .inl (fun _ => 0))), (b10, .inl (cI, 1024, .inl (fun _ => 0))), (b11, .inl (cI, 1024, .inl (fun _ => 0)))] := hD
  refine lv_aload_n hx hb dX12_init_105 rfl (lv_at hl 0 rfl) ?_
  refine lv_sipush (v := 1024) hx hb dX12_init_106 (by decide) ?_
  refine va_newa (atype := .boolean) (a0 := (1024, .inl (fun _ => 0))) (N' := 1024) (ty := .boolean) hx hb (hts (.arrayClass .boolean) (by decide +kernel)) rfl hK hP hD hS hA (fun _ => rfl) (by decide) (by decide) (by decide) (Nat.le_of_ble_eq_true rfl) (Nat.le_of_ble_eq_true rfl) dX12_init_109 (fun b12 cA H hK9 hP hD hS => ?_)
  obtain rfl := zz_cZ hK9
  have hP : va_P (dC, dI) vwCl [(q0, .inr (11, [.int 0, .int ((-1 : Int32)), .int 0, .int 0, .int 0, .int 0, .int 0, .int 0, .int 0, .int 0, .ref b1, .ref b2, .ref b3, .ref b4, .ref b5, .ref b6, .int 0, .ref b7, .int 0, .ref b8, .ref b9, .ref b10, .ref b11, .null, .int 0, .null, .null, .int 0, .int 0, .null, .null, .int 0, .null, .int 0, .int 0, .int 0])), (b1, .inl (cI, 1024, .inl (fun _ => 0))), (b2, .inl (cI, 200, .inl (fun _ => 0))), (b3, .inl (cI, 200, .inl (fun _ => 0))), (b4, .inl (cI, 200, .inl (fun _ => 0))), (b5, .inl (cI, 200, .inl (fun _ => 0))), (b6, .inl (cI, 1024, .inl (fun _ => 0))), (b7, .inl (cI, 32, .inl (fun _ => 0))), (b8, .inl (cI, 45056, .inl (fun _ => 0))), (b9, .inl (cI, 44, .inl (fun _ => 0))), (b10, .inl (cI, 1024, .inl (fun _ => 0))), (b11, .inl (cI, 1024, .inl (fun _ => 0))), (b12, .inl (cZ, 1024, .inl (fun _ => 0)))] _ := hP
  have hD : va_D A [(q0, .inr (11, [.int 0, .int ((-1 : Int32)), .int 0, .int 0, .int 0, .int 0, .int 0, .int 0, .int 0, .int 0, .ref b1, .ref b2, .ref b3, .ref b4, .ref b5, .ref b6, .int 0, .ref b7, .int 0, .ref b8, .ref b9, .ref b10, .ref b11, .null, .int 0, .null, .null, .int 0, .int 0, .null, .null, .int 0, .null, .int 0, .int 0, .int 0])), (b1, .inl (cI, 1024, .inl (fun _ => 0))), (b2, .inl (cI, 200, .inl (fun _ => 0))), (b3, .inl (cI, 200, .inl (fun _ => 0))), (b4, .inl (cI, 200, .inl (fun _ => 0))), (b5, .inl (cI, 200, .inl (fun _ => 0))), (b6, .inl (cI, 1024, .inl (fun _ => 0))), (b7, .inl (cI, 32, .inl (fun _ => 0))), (b8, .inl (cI, 45056, .inl (fun _ => 0))), (b9, .inl (cI, 44, .inl (fun _ => 0))), (b10, .inl (cI, 1024, .inl (fun _ => 0))), (b11, .inl (cI, 1024, .inl (fun _ => 0))), (b12, .inl (cZ, 1024, .inl (fun _ => 0)))] := hD
  refine W.widen (k := 12) (n := 51052) (Nat.le_of_ble_eq_true rfl) (Nat.le_of_ble_eq_true rfl) ?_
  refine va_putF (D := (dC, dI)) (ci := 11) (v := .ref b12) (ty := (.array .boolean)) (C := RX12) (T := TX12) (N := 36) hx hb hts inX12 tyX12 tyX12_ok nmX12 hown hK hP hD hS 0 rfl rfl 23 (by decide) f51 (fun _ h9 => h9) rfl hin rfl (by decide +kernel) rfl rfl (Nat.le_of_ble_eq_true rfl) dX12_init_111 (fun H locs hP hD hS => ?_)
  have hP : va_P (dC, dI) vwCl [(q0, .inr (11, [.int 0, .int ((-1 : Int32)), .int 0, .int 0, .int 0, .int 0, .int 0, .int 0, .int 0, .int 0, .ref b1, .ref b2, .ref b3, .ref b4, .ref b5, .ref b6, .int 0, .ref b7, .int 0, .ref b8, .ref b9, .ref b10, .ref b11, .ref b12, .int 0, .null, .null, .int 0, .int 0, .null, .null, .int 0, .null, .int 0, .int 0, .int 0])), (b1, .inl (cI, 1024, .inl (fun _ => 0))), (b2, .inl (cI, 200, .inl (fun _ => 0))), (b3, .inl (cI, 200, .inl (fun _ => 0))), (b4, .inl (cI, 200, .inl (fun _ => 0))), (b5, .inl (cI, 200, .inl (fun _ => 0))), (b6, .inl (cI, 1024, .inl (fun _ => 0))), (b7, .inl (cI, 32, .inl (fun _ => 0))), (b8, .inl (cI, 45056, .inl (fun _ => 0))), (b9, .inl (cI, 44, .inl (fun _ => 0))), (b10, .inl (cI, 1024, .inl (fun _ => 0))), (b11, .inl (cI, 1024, .inl (fun _ => 0))), (b12, .inl (cZ, 1024, .inl (fun _ => 0)))] _ := hP
  have hD : va_D A [(q0, .inr (11, [.int 0, .int ((-1 : Int32)), .int 0, .int 0, .int 0, .int 0, .int 0, .int 0, .int 0, .int 0, .ref b1, .ref b2, .ref b3, .ref b4, .ref b5, .ref b6, .int 0, .ref b7, .int 0, .ref b8, .ref b9, .ref b10, .ref b11, .ref b12, .int 0, .null, .null, .int 0, .int 0, .null, .null, .int 0, .null, .int 0, .int 0, .int 0])), (b1, .inl (cI, 1024, .inl (fun _ => 0))), (b2, .inl (cI, 200, .inl (fun _ => 0))), (b3, .inl (cI, 200, .inl (fun _ => 0))), (b4, .inl (cI, 200, .inl (fun _ => 0))), (b5, .inl (cI, 200, .inl (fun _ => 0))), (b6, .inl (cI, 1024, .inl (fun _ => 0))), (b7, .inl (cI, 32, .inl (fun _ => 0))), (b8, .inl (cI, 45056, .inl (fun _ => 0))), (b9, .inl (cI, 44, .inl (fun _ => 0))), (b10, .inl (cI, 1024, .inl (fun _ => 0))), (b11, .inl (cI, 1024, .inl (fun _ => 0))), (b12, .inl (cZ, 1024, .inl (fun _ => 0)))] := hD
  refine lv_aload_n hx hb dX12_init_114 rfl (lv_at hl 0 rfl) ?_
  refine lv_sipush (v := 9216) hx hb dX12_init_115 (by decide) ?_
  refine va_newa (atype := .int) (a0 := (9216, .inl (fun _ => 0))) (N' := 9216) (ty := .int) hx hb (hts (.arrayClass .int) (by decide +kernel)) rfl hK hP hD hS hA (fun _ => rfl) (by decide) (by decide) (by decide) (Nat.le_of_ble_eq_true rfl) (Nat.le_of_ble_eq_true rfl) dX12_init_118 (fun b13 cA H hK9 hP hD hS => ?_)
  obtain rfl := zz_cI hK9
  have hP : va_P (dC, dI) vwCl [(q0, .inr (11, [.int 0, .int ((-1 : Int32)), .int 0, .int 0, .int 0, .int 0, .int 0, .int 0, .int 0, .int 0, .ref b1, .ref b2, .ref b3, .ref b4, .ref b5, .ref b6, .int 0, .ref b7, .int 0, .ref b8, .ref b9, .ref b10, .ref b11, .ref b12, .int 0, .null, .null, .int 0, .int 0, .null, .null, .int 0, .null, .int 0, .int 0, .int 0])), (b1, .inl (cI, 1024, .inl (fun _ => 0))), (b2, .inl (cI, 200, .inl (fun _ => 0))), (b3, .inl (cI, 200, .inl (fun _ => 0))), (b4, .inl (cI, 200, .inl (fun _ => 0))), (b5, .inl (cI, 200, .inl (fun _ => 0))), (b6, .inl (cI, 1024, .inl (fun _ => 0))), (b7, .inl (cI, 32, .inl (fun _ => 0))), (b8, .inl (cI, 45056, .inl (fun _ => 0))), (b9, .inl (cI, 44, .inl (fun _ => 0))), (b10, .inl (cI, 1024, .inl (fun _ => 0))), (b11, .inl (cI, 1024, .inl (fun _ => 0))), (b12, .inl (cZ, 1024, .inl (fun _ => 0))), (b13, .inl (cI, 9216, .inl (fun _ => 0)))] _ := hP
  have hD : va_D A [(q0, .inr (11, [.int 0, .int ((-1 : Int32)), .int 0, .int 0, .int 0, .int 0, .int 0, .int 0, .int 0, .int 0, .ref b1, .ref b2, .ref b3, .ref b4, .ref b5, .ref b6, .int 0, .ref b7, .int 0, .ref b8, .ref b9, .ref b10, .ref b11, .ref b12, .int 0, .null, .null, .int 0, .int 0, .null, .null, .int 0, .null, .int 0, .int 0, .int 0])), (b1, .inl (cI, 1024, .inl (fun _ => 0))), (b2, .inl (cI, 200, .inl (fun _ => 0))), (b3, .inl (cI, 200, .inl (fun _ => 0))), (b4, .inl (cI, 200, .inl (fun _ => 0))), (b5, .inl (cI, 200, .inl (fun _ => 0))), (b6, .inl (cI, 1024, .inl (fun _ => 0))), (b7, .inl (cI, 32, .inl (fun _ => 0))), (b8, .inl (cI, 45056, .inl (fun _ => 0))), (b9, .inl (cI, 44, .inl (fun _ => 0))), (b10, .inl (cI, 1024, .inl (fun _ => 0))), (b11, .inl (cI, 1024, .inl (fun _ => 0))), (b12, .inl (cZ, 1024, .inl (fun _ => 0))), (b13, .inl (cI, 9216, .inl (fun _ => 0)))] := hD
  refine W.widen (k := 13) (n := 60268) (Nat.le_of_ble_eq_true rfl) (Nat.le_of_ble_eq_true rfl) ?_
  refine va_putF (D := (dC, dI)) (ci := 11) (v := .ref b13) (ty := (.array .int)) (C := RX12) (T := TX12) (N := 36) hx hb hts inX12 tyX12 tyX12_ok nmX12 hown hK hP hD hS 0 rfl rfl 25 (by decide) f55 (fun _ h9 => h9) rfl hin rfl (by decide +kernel) rfl rfl (Nat.le_of_ble_eq_true rfl) dX12_init_120 (fun H locs hP hD hS => ?_)
  have hP : va_P (dC, dI) vwCl [(q0, .inr (11, [.int 0, .int ((-1 : Int32)), .int 0, .int 0, .int 0, .int 0, .int 0, .int 0, .int 0, .int 0, .ref b1, .ref b2, .ref b3, .ref b4, .ref b5, .ref b6, .int 0, .ref b7, .int 0, .ref b8, .ref b9, .ref b10, .ref b11, .ref b12, .int 0, .ref b13, .null, .int 0, .int 0, .null, .null, .int 0, .null, .int 0, .int 0, .int 0])), (b1, .inl (cI, 1024, .inl (fun _ => 0))), (b2, .inl (cI, 200, .inl (fun _ => 0))), (b3, .inl (cI, 200, .inl (fun _ => 0))), (b4, .inl (cI, 200, .inl (fun _ => 0))), (b5, .inl (cI, 200, .inl (fun _ => 0))), (b6, .inl (cI, 1024, .inl (fun _ => 0))), (b7, .inl (cI, 32, .inl (fun _ => 0))), (b8, .inl (cI, 45056, .inl (fun _ => 0))), (b9, .inl (cI, 44, .inl (fun _ => 0))), (b10, .inl (cI, 1024, .inl (fun _ => 0))), (b11, .inl (cI, 1024, .inl (fun _ => 0))), (b12, .inl (cZ, 1024, .inl (fun _ => 0))), (b13, .inl (cI, 9216, .inl (fun _ => 0)))] _ := hP
  have hD : va_D A [(q0, .inr (11, [.int 0, .int ((-1 : Int32)), .int 0, .int 0, .int 0, .int 0, .int 0, .int 0, .int 0, .int 0, .ref b1, .ref b2, .ref b3, .ref b4, .ref b5, .ref b6, .int 0, .ref b7, .int 0, .ref b8, .ref b9, .ref b10, .ref b11, .ref b12, .int 0, .ref b13, .null, .int 0, .int 0, .null, .null, .int 0, .null, .int 0, .int 0, .int 0])), (b1, .inl (cI, 1024, .inl (fun _ => 0))), (b2, .inl (cI, 200, .inl (fun _ => 0))), (b3, .inl (cI, 200, .inl (fun _ => 0))), (b4, .inl (cI, 200, .inl (fun _ => 0))), (b5, .inl (cI, 200, .inl (fun _ => 0))), (b6, .inl (cI, 1024, .inl (fun _ => 0))), (b7, .inl (cI, 32, .inl (fun _ => 0))), (b8, .inl (cI, 45056, .inl (fun _ => 0))), (b9, .inl (cI, 44, .inl (fun _ => 0))), (b10, .inl (cI, 1024, .inl (fun _ => 0))), (b11, .inl (cI, 1024, .inl (fun _ => 0))), (b12, .inl (cZ, 1024, .inl (fun _ => 0))), (b13, .inl (cI, 9216, .inl (fun _ => 0)))] := hD
  refine lv_aload_n hx hb dX12_init_123 rfl (lv_at hl 0 rfl) ?_
  refine lv_bipush (v := 9) hx hb dX12_init_124 (by decide) ?_
  refine va_newa (atype := .int) (a0 := (9, .inl (fun _ => 0))) (N' := 9) (ty := .int) hx hb (hts (.arrayClass .int) (by decide +kernel)) rfl hK hP hD hS hA (fun _ => rfl) (by decide) (by decide) (by decide) (Nat.le_of_ble_eq_true rfl) (Nat.le_of_ble_eq_true rfl) dX12_init_126 (fun b14 cA H hK9 hP hD hS => ?_)
  obtain rfl := zz_cI hK9
  have hP : va_P (dC, dI) vwCl [(q0, .inr (11, [.int 0, .int ((-1 : Int32)), .int 0, .int 0, .int 0, .int 0, .int 0, .int 0, .int 0, .int 0, .ref b1, .ref b2, .ref b3, .ref b4, .ref b5, .ref b6, .int 0, .ref b7, .int 0, .ref b8, .ref b9, .ref b10, .ref b11, .ref b12, .int 0, .ref b13, .null, .int 0, .int 0, .null, .null, .int 0, .null, .int 0, .int 0, .int 0])), (b1, .inl (cI, 1024, .inl (fun _ => 0))), (b2, .inl (cI, 200, .inl (fun _ => 0))), (b3, .inl (cI, 200, .inl (fun _ => 0))), (b4, .inl (cI, 200, .inl (fun _ => 0))), (b5, .inl (cI, 200, .inl (fun _ => 0))), (b6, .inl (cI, 1024, .inl (fun _ => 0))), (b7, .inl (cI, 32, .inl (fun _ => 0))), (b8, .inl (cI, 45056, .inl (fun _ => 0))), (b9, .inl (cI, 44, .inl (fun _ => 0))), (b10, .inl (cI, 1024, .inl (fun _ => 0))), (b11, .inl (cI, 1024, .inl (fun _ => 0))), (b12, .inl (cZ, 1024, .inl (fun _ => 0))), (b13, .inl (cI, 9216, .inl (fun _ => 0))), (b14, .inl (cI, 9, .inl (fun _ => 0)))] _ := hP
  have hD : va_D A [(q0, .inr (11, [.int 0, .int ((-1 : Int32)), .int 0, .int 0, .int 0, .int 0, .int 0, .int 0, .int 0, .int 0, .ref b1, .ref b2, .ref b3, .ref b4, .ref b5, .ref b6, .int 0, .ref b7, .int 0, .ref b8, .ref b9, .ref b10, .ref b11, .ref b12, .int 0, .ref b13, .null, .int 0, .int 0, .null, .null, .int 0, .null, .int 0, .int 0, .int 0])), (b1, .inl (cI, 1024, .inl (fun _ => 0))), (b2, .inl (cI, 200, .inl (fun _ => 0))), (b3, .inl (cI, 200, .inl (fun _ => 0))), (b4, .inl (cI, 200, .inl (fun _ => 0))), (b5, .inl (cI, 200, .inl (fun _ => 0))), (b6, .inl (cI, 1024, .inl (fun _ => 0))), (b7, .inl (cI, 32, .inl (fun _ => 0))), (b8, .inl (cI, 45056, .inl (fun _ => 0))), (b9, .inl (cI, 44, .inl (fun _ => 0))), (b10, .inl (cI, 1024, .inl (fun _ => 0))), (b11, .inl (cI, 1024, .inl (fun _ => 0))), (b12, .inl (cZ, 1024, .inl (fun _ => 0))), (b13, .inl (cI, 9216, .inl (fun _ => 0))), (b14, .inl (cI, 9, .inl (fun _ => 0)))] := hD
  refine W.widen (k := 14) (n := 60277) (Nat.le_of_ble_eq_true rfl) (Nat.le_of_ble_eq_true rfl) ?_
  refine va_putF (D := (dC, dI)) (ci := 11) (v := .ref b14) (ty := (.array .int)) (C := RX12) (T := TX12) (N := 36) hx hb hts inX12 tyX12 tyX12_ok nmX12 hown hK hP hD hS 0 rfl rfl 26 (by decide) f58 (fun _ h9 => h9) rfl hin rfl (by decide +kernel) rfl rfl (Nat.le_of_ble_eq_true rfl) dX12_init_128 (fun H locs hP hD hS => ?_)
  have hP : va_P (dC, dI) vwCl [(q0, .inr (11, [.int 0, .int ((-1 : Int32)), .int 0, .int 0, .int 0, .int 0, .int 0, .int 0, .int 0, .int 0, .ref b1, .ref b2, .ref b3, .ref b4, .ref b5, .ref b6, .int 0, .ref b7, .int 0, .ref b8, .ref b9, .ref b10, .ref b11, .ref b12, .int 0, .ref b13, .ref b14, .int 0, .int 0, .null, .null, .int 0, .null, .int 0, .int 0, .int 0])), (b1, .inl (cI, 1024, .inl (fun _ => 0))), (b2, .inl (cI, 200, .inl (fun _ => 0))), (b3, .inl (cI, 200, .inl (fun _ => 0))), (b4, .inl (cI, 200, .inl (fun _ => 0))), (b5, .inl (cI, 200, .inl (fun _ => 0))), (b6, .inl (cI, 1024, .inl (fun _ => 0))), (b7, .inl (cI, 32, .inl (fun _ => 0))), (b8, .inl (cI, 45056, .inl (fun _ => 0))), (b9, .inl (cI, 44, .inl (fun _ => 0))), (b10, .inl (cI, 1024, .inl (fun _ => 0))), (b11, .inl (cI, 1024, .inl (fun _ => 0))), (b12, .inl (cZ, 1024, .inl (fun _ => 0))), (b13, .inl (cI, 9216, .inl (fun _ => 0))), (b14, .inl (cI, 9, .inl (fun _ => 0)))] _ := hP
  have hD : va_D A [(q0, .inr (11, [.int 0, .int ((-1 : Int32)), .int 0, .int 0, .int 0, .int 0, .int 0, .int 0, .int 0, .int 0, .ref b1, .ref b2, .ref b3, .ref b4, .ref b5, .ref b6, .int 0, .ref b7, .int 0, .ref b8, .ref b9, .ref b10, .ref b11, .ref b12, .int 0, .ref b13, .ref b14, .int 0, .int 0, .null, .null, .int 0, .null, .int 0, .int 0, .int 0])), (b1, .inl (cI, 1024, .inl (fun _ => 0))), (b2, .inl (cI, 200, .inl (fun _ => 0))), (b3, .inl (cI, 200, .inl (fun _ => 0))), (b4, .inl (cI, 200, .inl (fun _ => 0))), (b5, .inl (cI, 200, .inl (fun _ => 0))), (b6, .inl (cI, 1024, .inl (fun _ => 0))), (b7, .inl (cI, 32, .inl (fun _ => 0))), (b8, .inl (cI, 45056, .inl (fun _ => 0))), (b9, .inl (cI, 44, .inl (fun _ => 0))), (b10, .inl (cI, 1024, .inl (fun _ => 0))), (b11, .inl (cI, 1024, .inl (fun _ => 0))), (b12, .inl (cZ, 1024, .inl (fun _ => 0))), (b13, .inl (cI, 9216, .inl (fun _ => 0))), (b14, .inl (cI, 9, .inl (fun _ => 0)))] := hD
  refine lv_aload_n hx hb dX12_init_131 rfl (lv_at hl 0 rfl) ?_
  refine lv_sipush (v := 20000) hx hb dX12_init_132 (by decide) ?_
  refine va_newa (atype := .long) (a0 := (20000, .inr (.inl (fun _ => 0)))) (N' := 20000) (ty := .long) hx hb (hts (.arrayClass .long) (by decide +kernel)) rfl hK hP hD hS hA (fun _ => rfl) (by decide) (by decide) (by decide) (Nat.le_of_ble_eq_true rfl) (Nat.le_of_ble_eq_true rfl) dX12_init_135 (fun b15 cA H hK9 hP hD hS => ?_)
  obtain rfl := zz_cJ hK9
  have hP : va_P (dC, dI) vwCl [(q0, .inr (11, [.int 0, .int ((-1 : Int32)), .int 0, .int 0, .int 0, .int 0, .int 0, .int 0, .int 0, .int 0, .ref b1, .ref b2, .ref b3, .ref b4, .ref b5, .ref b6, .int 0, .ref b7, .int 0, .ref b8, .ref b9, .ref b10, .ref b11, .ref b12, .int 0, .ref b13, .ref b14, .int 0, .int 0, .null, .null, .int 0, .null, .int 0, .int 0, .int 0])), (b1, .inl (cI, 1024, .inl (fun _ => 0))), (b2, .inl (cI, 200, .inl (fun _ => 0))), (b3, .inl (cI, 200, .inl (fun _ => 0))), (b4, .inl (cI, 200, .inl (fun _ => 0))), (b5, .inl (cI, 200, .inl (fun _ => 0))), (b6, .inl (cI, 1024, .inl (fun _ => 0))), (b7, .inl (cI, 32, .inl (fun _ => 0))), (b8, .inl (cI, 45056, .inl (fun _ => 0))), (b9, .inl (cI, 44, .inl (fun _ => 0))), (b10, .inl (cI, 1024, .inl (fun _ => 0))), (b11, .inl (cI, 1024, .inl (fun _ => 0))), (b12, .inl (cZ, 1024, .inl (fun _ => 0))), (b13, .inl (cI, 9216, .inl (fun _ => 0))), (b14, .inl (cI, 9, .inl (fun _ => 0))), (b15, .inl (cJ, 20000, .inr (.inl (fun _ => 0))))] _ := hP
  have hD : va_D A [(q0, .inr (11, [.int 0, .int ((-1 : Int32)), .int 0, .int 0, .int 0, .int 0, .int 0, .int 0, .int 0, .int 0, .ref b1, .ref b2, .ref b3, .ref b4, .ref b5, .ref b6, .int 0, .ref b7, .int 0, .ref b8, .ref b9, .ref b10, .ref b11, .ref b12, .int 0, .ref b13, .ref b14, .int 0, .int 0, .null, .null, .int 0, .null, .int 0, .int 0, .int 0])), (b1, .inl (cI, 1024, .inl (fun _ => 0))), (b2, .inl (cI, 200, .inl (fun _ => 0))), (b3, .inl (cI, 200, .inl (fun _ => 0))), (b4, .inl (cI, 200, .inl (fun _ => 0))), (b5, .inl (cI, 200, .inl (fun _ => 0))), (b6, .inl (cI, 1024, .inl (fun _ => 0))), (b7, .inl (cI, 32, .inl (fun _ => 0))), (b8, .inl (cI, 45056, .inl (fun _ => 0))), (b9, .inl (cI, 44, .inl (fun _ => 0))), (b10, .inl (cI, 1024, .inl (fun _ => 0))), (b11, .inl (cI, 1024, .inl (fun _ => 0))), (b12, .inl (cZ, 1024, .inl (fun _ => 0))), (b13, .inl (cI, 9216, .inl (fun _ => 0))), (b14, .inl (cI, 9, .inl (fun _ => 0))), (b15, .inl (cJ, 20000, .inr (.inl (fun _ => 0))))] := hD
  refine W.widen (k := 15) (n := 80277) (Nat.le_of_ble_eq_true rfl) (Nat.le_of_ble_eq_true rfl) ?_
  refine va_putF (D := (dC, dI)) (ci := 11) (v := .ref b15) (ty := (.array .long)) (C := RX12) (T := TX12) (N := 36) hx hb hts inX12 tyX12 tyX12_ok nmX12 hown hK hP hD hS 0 rfl rfl 29 (by decide) f61 (fun _ h9 => h9) rfl hin rfl (by decide +kernel) rfl rfl (Nat.le_of_ble_eq_true rfl) dX12_init_137 (fun H locs hP hD hS => ?_)
  have hP : va_P (dC, dI) vwCl [(q0, .inr (11, [.int 0, .int ((-1 : Int32)), .int 0, .int 0, .int 0, .int 0, .int 0, .int 0, .int 0, .int 0, .ref b1, .ref b2, .ref b3, .ref b4, .ref b5, .ref b6, .int 0, .ref b7, .int 0, .ref b8, .ref b9, .ref b10, .ref b11, .ref b12, .int 0, .ref b13, .ref b14, .int 0, .int 0, .ref b15, .null, .int 0, .null, .int 0, .int 0, .int 0])), (b1, .inl (cI, 1024, .inl (fun _ => 0))), (b2, .inl (cI, 200, .inl (fun _ => 0))), (b3, .inl (cI, 200, .inl (fun _ => 0))), (b4, .inl (cI, 200, .inl (fun _ => 0))), (b5, .inl (cI, 200, .inl (fun _ => 0))), (b6, .inl (cI, 1024, .inl (fun _ => 0))), (b7, .inl (cI, 32, .inl (fun _ => 0))), (b8, .inl (cI, 45056, .inl (fun _ => 0))), (b9, .inl (cI, 44, .inl (fun _ => 0))), (b10, .inl (cI, 1024, .inl (fun _ => 0))), (b11, .inl (cI, 1024, .inl (fun _ => 0))), (b12, .inl (cZ, 1024, .inl (fun _ => 0))), (b13, .inl (cI, 9216, .inl (fun _ => 0))), (b14, .inl (cI, 9, .inl (fun _ => 0))), (b15, .inl (cJ, 20000, .inr (.inl (fun _ => 0))))] _ := hP
  have hD : va_D A [(q0, .inr (11, [.int 0, .int ((-1 : Int32)), .int 0, .int 0, .int 0, .int 0, .int 0, .int 0, .int 0, .int 0, .ref b1, .ref b2, .ref b3, .ref b4, .ref b5, .ref b6, .int 0, .ref b7, .int 0, .ref b8, .ref b9, .ref b10, .ref b11, .ref b12, .int 0, .ref b13, .ref b14, .int 0, .int 0, .ref b15, .null, .int 0, .null, .int 0, .int 0, .int 0])), (b1, .inl (cI, 1024, .inl (fun _ => 0))), (b2, .inl (cI, 200, .inl (fun _ => 0))), (b3, .inl (cI, 200, .inl (fun _ => 0))), (b4, .inl (cI, 200, .inl (fun _ => 0))), (b5, .inl (cI, 200, .inl (fun _ => 0))), (b6, .inl (cI, 1024, .inl (fun _ => 0))), (b7, .inl (cI, 32, .inl (fun _ => 0))), (b8, .inl (cI, 45056, .inl (fun _ => 0))), (b9, .inl (cI, 44, .inl (fun _ => 0))), (b10, .inl (cI, 1024, .inl (fun _ => 0))), (b11, .inl (cI, 1024, .inl (fun _ => 0))), (b12, .inl (cZ, 1024, .inl (fun _ => 0))), (b13, .inl (cI, 9216, .inl (fun _ => 0))), (b14, .inl (cI, 9, .inl (fun _ => 0))), (b15, .inl (cJ, 20000, .inr (.inl (fun _ => 0))))] := hD
  refine lv_aload_n hx hb dX12_init_140 rfl (lv_at hl 0 rfl) ?_
  refine lv_ldc (v := (65536)) hx hb hown (hts (.constant RX12 65 (65536)) (by decide +kernel)) dX12_init_141 ?_
  refine va_newa (atype := .int) (a0 := (65536, .inl (fun _ => 0))) (N' := 65536) (ty := .int) hx hb (hts (.arrayClass .int) (by decide +kernel)) rfl hK hP hD hS hA (fun _ => rfl) (by decide) (by decide) (by decide) (Nat.le_of_ble_eq_true rfl) (Nat.le_of_ble_eq_true rfl) dX12_init_143 (fun b16 cA H hK9 hP hD hS => ?_)
  obtain rfl := zz_cI hK9
  have hP : va_P (dC, dI) vwCl [(q0, .inr (11, [.int 0, .int ((-1 : Int32)), .int 0, .int 0, .int 0, .int 0, .int 0, .int 0, .int 0, .int 0, .ref b1, .ref b2, .ref b3, .ref b4, .ref b5, .ref b6, .int 0, .ref b7, .int 0, .ref b8, .ref b9, .ref b10, .ref b11, .ref b12, .int 0, .ref b13, .ref b14, .int 0, .int 0, .ref b15, .null, .int 0, .null, .int 0, .int 0, .int 0])), (b1, .inl (cI, 1024, .inl (fun _ => 0))), (b2, .inl (cI, 200, .inl (fun _ => 0))), (b3, .inl (cI, 200, .inl (fun _ => 0))), (b4, .inl (cI, 200, .inl (fun _ => 0))), (b5, .inl (cI, 200, .inl (fun _ => 0))), (b6, .inl (cI, 1024, .inl (fun _ => 0))), (b7, .inl (cI, 32, .inl (fun _ => 0))), (b8, .inl (cI, 45056, .inl (fun _ => 0))), (b9, .inl (cI, 44, .inl (fun _ => 0))), (b10, .inl (cI, 1024, .inl (fun _ => 0))), (b11, .inl (cI, 1024, .inl (fun _ => 0))), (b12, .inl (cZ, 1024, .inl (fun _ => 0))), (b13, .inl (cI, 9216, .inl (fun _ => 0))), (b14, .inl (cI, 9, .inl (fun _ => 0))), (b15, .inl (cJ, 20000, .inr (.inl (fun _ => 0)))), (b16, .inl (cI, 65536, .inl (fun _ => 0)))] _ := hP
  have hD : va_D A [(q0, .inr (11, [.int 0, .int ((-1 : Int32)), .int 0, .int 0, .int 0, .int 0, .int 0, .int 0, .int 0, .int 0, .ref b1, .ref b2, .ref b3, .ref b4, .ref b5, .ref b6, .int 0, .ref b7, .int 0, .ref b8, .ref b9, .ref b10, .ref b11, .ref b12, .int 0, .ref b13, .ref b14, .int 0, .int 0, .ref b15, .null, .int 0, .null, .int 0, .int 0, .int 0])), (b1, .inl (cI, 1024, .inl (fun _ => 0))), (b2, .inl (cI, 200, .inl (fun _ => 0))), (b3, .inl (cI, 200, .inl (fun _ => 0))), (b4, .inl (cI, 200, .inl (fun _ => 0))), (b5, .inl (cI, 200, .inl (fun _ => 0))), (b6, .inl (cI, 1024, .inl (fun _ => 0))), (b7, .inl (cI, 32, .inl (fun _ => 0))), (b8, .inl (cI, 45056, .inl (fun _ => 0))), (b9, .inl (cI, 44, .inl (fun _ => 0))), (b10, .inl (cI, 1024, .inl (fun _ => 0))), (b11, .inl (cI, 1024, .inl (fun _ => 0))), (b12, .inl (cZ, 1024, .inl (fun _ => 0))), (b13, .inl (cI, 9216, .inl (fun _ => 0))), (b14, .inl (cI, 9, .inl (fun _ => 0))), (b15, .inl (cJ, 20000, .inr (.inl (fun _ => 0)))), (b16, .inl (cI, 65536, .inl (fun _ => 0)))] := hD
  refine W.widen (k := 16) (n := 145813) (Nat.le_of_ble_eq_true rfl) (Nat.le_of_ble_eq_true rfl) ?_
  refine va_putF (D := (dC, dI)) (ci := 11) (v := .ref b16) (ty := (.array .int)) (C := RX12) (T := TX12) (N := 36) hx hb hts inX12 tyX12 tyX12_ok nmX12 hown hK hP hD hS 0 rfl rfl 30 (by decide) f66 (fun _ h9 => h9) rfl hin rfl (by decide +kernel) rfl rfl (Nat.le_of_ble_eq_true rfl) dX12_init_145 (fun H locs hP hD hS => ?_)
  have hP : va_P (dC, dI) vwCl [(q0, .inr (11, [.int 0, .int ((-1 : Int32)), .int 0, .int 0, .int 0, .int 0, .int 0, .int 0, .int 0, .int 0, .ref b1, .ref b2, .ref b3, .ref b4, .ref b5, .ref b6, .int 0, .ref b7, .int 0, .ref b8, .ref b9, .ref b10, .ref b11, .ref b12, .int 0, .ref b13, .ref b14, .int 0, .int 0, .ref b15, .ref b16, .int 0, .null, .int 0, .int 0, .int 0])), (b1, .inl (cI, 1024, .inl (fun _ => 0))), (b2, .inl (cI, 200, .inl (fun _ => 0))), (b3, .inl (cI, 200, .inl (fun _ => 0))), (b4, .inl (cI, 200, .inl (fun _ => 0))), (b5, .inl (cI, 200, .inl (fun _ => 0))), (b6, .inl (cI, 1024, .inl (fun _ => 0))), (b7, .inl (cI, 32, .inl (fun _ => 0))), (b8, .inl (cI, 45056, .inl (fun _ => 0))), (b9, .inl (cI, 44, .inl (fun _ => 0))), (b10, .inl (cI, 1024, .inl (fun _ => 0))), (b11, .inl (cI, 1024, .inl (fun _ => 0))), (b12, .inl (cZ, 1024, .inl (fun _ => 0))), (b13, .inl (cI, 9216, .inl (fun _ => 0))), (b14, .inl (cI, 9, .inl (fun _ => 0))), (b15, .inl (cJ, 20000, .inr (.inl (fun _ => 0)))), (b16, .inl (cI, 65536, .inl (fun _ => 0)))] _ := hP
  have hD : va_D A [(q0, .inr (11, [.int 0, .int ((-1 : Int32)), .int 0, .int 0, .int 0, .int 0, .int 0, .int 0, .int 0, .int 0, .ref b1, .ref b2, .ref b3, .ref b4, .ref b5, .ref b6, .int 0, .ref b7, .int 0, .ref b8, .ref b9, .ref b10, .ref b11, .ref b12, .int 0, .ref b13, .ref b14, .int 0, .int 0, .ref b15, .ref b16, .int 0, .null, .int 0, .int 0, .int 0])), (b1, .inl (cI, 1024, .inl (fun _ => 0))), (b2, .inl (cI, 200, .inl (fun _ => 0))), (b3, .inl (cI, 200, .inl (fun _ => 0))), (b4, .inl (cI, 200, .inl (fun _ => 0))), (b5, .inl (cI, 200, .inl (fun _ => 0))), (b6, .inl (cI, 1024, .inl (fun _ => 0))), (b7, .inl (cI, 32, .inl (fun _ => 0))), (b8, .inl (cI, 45056, .inl (fun _ => 0))), (b9, .inl (cI, 44, .inl (fun _ => 0))), (b10, .inl (cI, 1024, .inl (fun _ => 0))), (b11, .inl (cI, 1024, .inl (fun _ => 0))), (b12, .inl (cZ, 1024, .inl (fun _ => 0))), (b13, .inl (cI, 9216, .inl (fun _ => 0))), (b14, .inl (cI, 9, .inl (fun _ => 0))), (b15, .inl (cJ, 20000, .inr (.inl (fun _ => 0)))), (b16, .inl (cI, 65536, .inl (fun _ => 0)))] := hD
  refine lv_aload_n hx hb dX12_init_148 rfl (lv_at hl 0 rfl) ?_
  refine lv_bipush (v := 14) hx hb dX12_init_149 (by decide) ?_
  refine va_newa (atype := .int) (a0 := (14, .inl (fun _ => 0))) (N' := 14) (ty := .int) hx hb (hts (.arrayClass .int) (by decide +kernel)) rfl hK hP hD hS hA (fun _ => rfl) (by decide) (by decide) (by decide) (Nat.le_of_ble_eq_true rfl) (Nat.le_of_ble_eq_true rfl) dX12_init_151 (fun b17 cA H hK9 hP hD hS => ?_)
  obtain rfl := zz_cI hK9
  have hP : va_P (dC, dI) vwCl [(q0, .inr (11, [.int 0, .int ((-1 : Int32)), .int 0, .int 0, .int 0, .int 0, .int 0, .int 0, .int 0, .int 0, .ref b1, .ref b2, .ref b3, .ref b4, .ref b5, .ref b6, .int 0, .ref b7, .int 0, .ref b8, .ref b9, .ref b10, .ref b11, .ref b12, .int 0, .ref b13, .ref b14, .int 0, .int 0, .ref b15, .ref b16, .int 0, .null, .int 0, .int 0, .int 0])), (b1, .inl (cI, 1024, .inl (fun _ => 0))), (b2, .inl (cI, 200, .inl (fun _ => 0))), (b3, .inl (cI, 200, .inl (fun _ => 0))), (b4, .inl (cI, 200, .inl (fun _ => 0))), (b5, .inl (cI, 200, .inl (fun _ => 0))), (b6, .inl (cI, 1024, .inl (fun _ => 0))), (b7, .inl (cI, 32, .inl (fun _ => 0))), (b8, .inl (cI, 45056, .inl (fun _ => 0))), (b9, .inl (cI, 44, .inl (fun _ => 0))), (b10, .inl (cI, 1024, .inl (fun _ => 0))), (b11, .inl (cI, 1024, .inl (fun _ => 0))), (b12, .inl (cZ, 1024, .inl (fun _ => 0))), (b13, .inl (cI, 9216, .inl (fun _ => 0))), (b14, .inl (cI, 9, .inl (fun _ => 0))), (b15, .inl (cJ, 20000, .inr (.inl (fun _ => 0)))), (b16, .inl (cI, 65536, .inl (fun _ => 0))), (b17, .inl (cI, 14, .inl (fun _ => 0)))] _ := hP
  have hD : va_D A [(q0, .inr (11, [.int 0, .int ((-1 : Int32)), .int 0, .int 0, .int 0, .int 0, .int 0, .int 0, .int 0, .int 0, .ref b1, .ref b2, .ref b3, .ref b4, .ref b5, .ref b6, .int 0, .ref b7, .int 0, .ref b8, .ref b9, .ref b10, .ref b11, .ref b12, .int 0, .ref b13, .ref b14, .int 0, .int 0, .ref b15, .ref b16, .int 0, .null, .int 0, .int 0, .int 0])), (b1, .inl (cI, 1024, .inl (fun _ => 0))), (b2, .inl (cI, 200, .inl (fun _ => 0))), (b3, .inl (cI, 200, .inl (fun _ => 0))), (b4, .inl (cI, 200, .inl (fun _ => 0))), (b5, .inl (cI, 200, .inl (fun _ => 0))), (b6, .inl (cI, 1024, .inl (fun _ => 0))), (b7, .inl (cI, 32, .inl (fun _ => 0))), (b8, .inl (cI, 45056, .inl (fun _ => 0))), (b9, .inl (cI, 44, .inl (fun _ => 0))), (b10, .inl (cI, 1024, .inl (fun _ => 0))), (b11, .inl (cI, 1024, .inl (fun _ => 0))), (b12, .inl (cZ, 1024, .inl (fun _ => 0))), (b13, .inl (cI, 9216, .inl (fun _ => 0))), (b14, .inl (cI, 9, .inl (fun _ => 0))), (b15, .inl (cJ, 20000, .inr (.inl (fun _ => 0)))), (b16, .inl (cI, 65536, .inl (fun _ => 0))), (b17, .inl (cI, 14, .inl (fun _ => 0)))] := hD
  refine W.widen (k := 17) (n := 145827) (Nat.le_of_ble_eq_true rfl) (Nat.le_of_ble_eq_true rfl) ?_
  refine va_putF (D := (dC, dI)) (ci := 11) (v := .ref b17) (ty := (.array .int)) (C := RX12) (T := TX12) (N := 36) hx hb hts inX12 tyX12 tyX12_ok nmX12 hown hK hP hD hS 0 rfl rfl 32 (by decide) f69 (fun _ h9 => h9) rfl hin rfl (by decide +kernel) rfl rfl (Nat.le_of_ble_eq_true rfl) dX12_init_153 (fun H locs hP hD hS => ?_)
  have hP : va_P (dC, dI) vwCl [(q0, .inr (11, [.int 0, .int ((-1 : Int32)), .int 0, .int 0, .int 0, .int 0, .int 0, .int 0, .int 0, .int 0, .ref b1, .ref b2, .ref b3, .ref b4, .ref b5, .ref b6, .int 0, .ref b7, .int 0, .ref b8, .ref b9, .ref b10, .ref b11, .ref b12, .int 0, .ref b13, .ref b14, .int 0, .int 0, .ref b15, .ref b16, .int 0, .ref b17, .int 0, .int 0, .int 0])), (b1, .inl (cI, 1024, .inl (fun _ => 0))), (b2, .inl (cI, 200, .inl (fun _ => 0))), (b3, .inl (cI, 200, .inl (fun _ => 0))), (b4, .inl (cI, 200, .inl (fun _ => 0))), (b5, .inl (cI, 200, .inl (fun _ => 0))), (b6, .inl (cI, 1024, .inl (fun _ => 0))), (b7, .inl (cI, 32, .inl (fun _ => 0))), (b8, .inl (cI, 45056, .inl (fun _ => 0))), (b9, .inl (cI, 44, .inl (fun _ => 0))), (b10, .inl (cI, 1024, .inl (fun _ => 0))), (b11, .inl (cI, 1024, .inl (fun _ => 0))), (b12, .inl (cZ, 1024, .inl (fun _ => 0))), (b13, .inl (cI, 9216, .inl (fun _ => 0))), (b14, .inl (cI, 9, .inl (fun _ => 0))), (b15, .inl (cJ, 20000, .inr (.inl (fun _ => 0)))), (b16, .inl (cI, 65536, .inl (fun _ => 0))), (b17, .inl (cI, 14, .inl (fun _ => 0)))] _ := hP
  have hD : va_D A [(q0, .inr (11, [.int 0, .int ((-1 : Int32)), .int 0, .int 0, .int 0, .int 0, .int 0, .int 0, .int 0, .int 0, .ref b1, .ref b2, .ref b3, .ref b4, .ref b5, .ref b6, .int 0, .ref b7, .int 0, .ref b8, .ref b9, .ref b10, .ref b11, .ref b12, .int 0, .ref b13, .ref b14, .int 0, .int 0, .ref b15, .ref b16, .int 0, .ref b17, .int 0, .int 0, .int 0])), (b1, .inl (cI, 1024, .inl (fun _ => 0))), (b2, .inl (cI, 200, .inl (fun _ => 0))), (b3, .inl (cI, 200, .inl (fun _ => 0))), (b4, .inl (cI, 200, .inl (fun _ => 0))), (b5, .inl (cI, 200, .inl (fun _ => 0))), (b6, .inl (cI, 1024, .inl (fun _ => 0))), (b7, .inl (cI, 32, .inl (fun _ => 0))), (b8, .inl (cI, 45056, .inl (fun _ => 0))), (b9, .inl (cI, 44, .inl (fun _ => 0))), (b10, .inl (cI, 1024, .inl (fun _ => 0))), (b11, .inl (cI, 1024, .inl (fun _ => 0))), (b12, .inl (cZ, 1024, .inl (fun _ => 0))), (b13, .inl (cI, 9216, .inl (fun _ => 0))), (b14, .inl (cI, 9, .inl (fun _ => 0))), (b15, .inl (cJ, 20000, .inr (.inl (fun _ => 0)))), (b16, .inl (cI, 65536, .inl (fun _ => 0))), (b17, .inl (cI, 14, .inl (fun _ => 0)))] := hD
  exact W.vret hx hb hr (fun t ht hW => ⟨⟨(), rfl, trivial, b1, b2, b3, b4, b5, b6, b7, b8, b9, b10, b11, b12, b13, b14, b15, b16, b17, by rw [ht]; exact hP, va_K.moved hW.alike hK, hD⟩, hS.F ht⟩) hS.2.2 dX12_init_156

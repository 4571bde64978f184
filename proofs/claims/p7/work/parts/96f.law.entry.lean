theorem zz_ao {C : String} {A : Array Value} {U : State} (h : (Cond.arrayOver (.object C)).before A U = true) : va_AO C U := by
  simpa [va_AO, Cond.before, Cond.holds, Cond.value] using h
theorem zz_str0 {A : Array Value} {s : State} {cls : String} {k a : Nat} (hr : s.resolvedAt? cls k = some (.string a)) : (Term.string cls k).eval A s none [] s = some (.ref a) := by
  unfold State.resolvedAt? at hr
  simp only [Term.eval]
  rcases h1 : s.vm.findClass cls with _ | c1
  · simp [h1] at hr
  · rcases h2 : s.vm.classes[c1]? with _ | k1
    · simp [h1, h2] at hr
    · simp [h1, h2] at hr
      simp [h2, hr]
theorem zz_str {args : Array Value} {s : State} {cls tx : String} {k : Nat} (h : (Cond.stringRef cls k tx).before args s = true) : ∃ a : Nat, vk_R cls k tx a s := by
  have h0 := h
  simp only [Cond.before, Cond.holds, Cond.value] at h0
  cases hc : s.vm.findClass cls with
  | none => simp [hc] at h0
  | some c =>
    cases hr : s.resolvedAt? cls k with
    | none => simp [hc, hr] at h0
    | some r =>
      cases r with
      | string a => exact ⟨a, vk_R.of h (zz_str0 hr)⟩
      | _ => simp [hc, hr] at h0
theorem zz_arr {args : Array Value} {s : State} {ty : FieldType} (h : (Cond.arrayClass ty).before args s = true) : ∃ cA : ClassId, ArrOfT s cA ty ∧ s.vm.findClass ("[" ++ ty.toString) = some cA := by
  obtain ⟨cA, k, comp, h1, h2, h3⟩ := Cond.arrayClass_spec h
  exact ⟨cA, fun n z => ⟨fun k h => (by cases h), k, h2, comp, h3⟩, h1⟩
set_option maxHeartbeats 4000000 in
theorem zz_known {s : State} {b : Nat} (hts : ∀ w ∈ lw_tbl, w.before #[Value.ref b] s = true) : ∃ (dC : Nat → ClassId) (dI : Nat → Nat → Nat) (cI cJ cZ : ClassId), va_K (dC, dI) vwCl [(cI, .int), (cJ, .long), (cZ, .boolean)] s := by
  obtain ⟨c0, i0, k0⟩ := u_known (C := RX0) (T := TX0) (N := 3) (n := 3) hts inX0 (hts (.instantiable RX0 3) (by decide +kernel))
  obtain ⟨c1, i1, k1⟩ := u_known (C := RX2) (T := TX2) (N := 2) (n := 2) hts inX2 (hts (.instantiable RX2 2) (by decide +kernel))
  obtain ⟨c2, i2, k2⟩ := u_known (C := RX3) (T := TX3) (N := 3) (n := 3) hts inX3 (hts (.instantiable RX3 3) (by decide +kernel))
  obtain ⟨c3, i3, k3⟩ := u_known (C := RX4) (T := TX4) (N := 2) (n := 2) hts inX4 (hts (.instantiable RX4 2) (by decide +kernel))
  obtain ⟨c4, i4, k4⟩ := u_known (C := RX5) (T := TX5) (N := 4) (n := 4) hts inX5 (hts (.instantiable RX5 4) (by decide +kernel))
  obtain ⟨c5, i5, k5⟩ := u_known (C := RX6) (T := TX6) (N := 2) (n := 2) hts inX6 (hts (.instantiable RX6 2) (by decide +kernel))
  obtain ⟨c6, i6, k6⟩ := u_known (C := RX7) (T := TX7) (N := 10) (n := 10) hts inX7 (hts (.instantiable RX7 10) (by decide +kernel))
  obtain ⟨c7, i7, k7⟩ := u_known (C := RX8) (T := TX8) (N := 9) (n := 9) hts inX8 (hts (.instantiable RX8 9) (by decide +kernel))
  obtain ⟨c8, i8, k8⟩ := u_known (C := RX9) (T := TX9) (N := 2) (n := 2) hts inX9 (hts (.instantiable RX9 2) (by decide +kernel))
  obtain ⟨c9, i9, k9⟩ := u_known (C := RX10) (T := TX10) (N := 4) (n := 4) hts inX10 (hts (.instantiable RX10 4) (by decide +kernel))
  obtain ⟨c10, i10, k10⟩ := u_known (C := RX11) (T := TX11) (N := 5) (n := 5) hts inX11 (hts (.instantiable RX11 5) (by decide +kernel))
  obtain ⟨c11, i11, k11⟩ := u_known (C := RX12) (T := TX12) (N := 36) (n := 36) hts inX12 (hts (.instantiable RX12 36) (by decide +kernel))
  obtain ⟨cI, aI, fI⟩ := zz_arr (ty := .int) (hts (.arrayClass .int) (by decide +kernel))
  obtain ⟨cJ, aJ, fJ⟩ := zz_arr (ty := .long) (hts (.arrayClass .long) (by decide +kernel))
  obtain ⟨cZ, aZ, fZ⟩ := zz_arr (ty := .boolean) (hts (.arrayClass .boolean) (by decide +kernel))
  refine ⟨fun k => if k = 0 then c0 else if k = 1 then c1 else if k = 2 then c2 else if k = 3 then c3 else if k = 4 then c4 else if k = 5 then c5 else if k = 6 then c6 else if k = 7 then c7 else if k = 8 then c8 else if k = 9 then c9 else if k = 10 then c10 else c11, fun k => if k = 0 then i0 else if k = 1 then i1 else if k = 2 then i2 else if k = 3 then i3 else if k = 4 then i4 else if k = 5 then i5 else if k = 6 then i6 else if k = 7 then i7 else if k = 8 then i8 else if k = 9 then i9 else if k = 10 then i10 else i11, cI, cJ, cZ, ?_, ?_⟩
  · intro k q hq
    match k, hq with
    | 0, hq => cases hq; exact k0
    | 1, hq => cases hq; exact k1
    | 2, hq => cases hq; exact k2
    | 3, hq => cases hq; exact k3
    | 4, hq => cases hq; exact k4
    | 5, hq => cases hq; exact k5
    | 6, hq => cases hq; exact k6
    | 7, hq => cases hq; exact k7
    | 8, hq => cases hq; exact k8
    | 9, hq => cases hq; exact k9
    | 10, hq => cases hq; exact k10
    | 11, hq => cases hq; exact k11
    | k + 12, hq => simp [vwCl] at hq
  · intro k q hq
    match k, hq with
    | 0, hq => cases hq; exact ⟨aI, fI⟩
    | 1, hq => cases hq; exact ⟨aJ, fJ⟩
    | 2, hq => cases hq; exact ⟨aZ, fZ⟩
    | k + 3, hq => simp at hq
set_option maxHeartbeats 4000000 in
theorem zz_words {s : State} {b : Nat} (hts : ∀ w ∈ lw_tbl, w.before #[Value.ref b] s = true) (hgv : (Jvm.Cond.and given_1 narrow_1).before #[Value.ref b] s = true) : zz_nw s := by
  have hf := flat_of_before _ hgv
  exact ⟨va_Nw.of rfl (hts (.methodLinkNest RX11 165 yX8_init "RoomForms") (by decide +kernel)), va_Nw.of rfl (hts (.methodLinkNest RX11 9 yX7_init "RoomForms") (by decide +kernel)), va_Nw.of rfl (hts (.methodLinkNest RX2 25 yX11_powerFrom "RoomForms") (by decide +kernel)), va_Nw.of rfl (hts (.methodLinkNest RX3 29 yX11_powerFrom "RoomForms") (by decide +kernel)), va_Nw.of rfl (hts (.methodLinkNest RX5 38 yX11_powerFrom "RoomForms") (by decide +kernel)), ⟨va_Nw.of rfl (hts (.castable "java/lang/IllegalArgumentException" "java/lang/IllegalArgumentException") (by decide +kernel)), va_Nw.of rfl (hts (.castable "java/lang/IllegalStateException" "java/lang/IllegalStateException") (by decide +kernel)), va_Nw.of rfl (hts (.castable "java/lang/IndexOutOfBoundsException" "java/lang/IndexOutOfBoundsException") (by decide +kernel)), va_Nw.of rfl (hts (.castable "java/lang/UnsupportedOperationException" "java/lang/UnsupportedOperationException") (by decide +kernel)), va_Nw.of rfl (hts (.castable "java/util/NoSuchElementException" "java/util/NoSuchElementException") (by decide +kernel)), va_Nw.of rfl (hts (.castable "RoomForms$Fits" "RoomForms$Form") (by decide +kernel)), va_Nw.of rfl (hts (.castable "RoomForms$Grains" "RoomForms$Form") (by decide +kernel)), va_Nw.of rfl (hts (.castable "RoomForms$Halves" "RoomForms$Form") (by decide +kernel)), va_Nw.of rfl (hts (.castable "RoomForms$Levels" "RoomForms$Form") (by decide +kernel)), va_Nw.of rfl (hts (.castable "RoomForms$Pages" "RoomForms$Form") (by decide +kernel)), va_Nw.of rfl (hts (.castable "RoomForms$Quick" "RoomForms$Form") (by decide +kernel)), va_Nw.of rfl (hts (.castable "RoomForms$Stack" "RoomForms$Form") (by decide +kernel)), va_Nw.of rfl (hts (.declares ⟨"RoomForms$Form", "begin", "()V"⟩) (by decide +kernel)), va_Nw.of rfl (hts (.declares ⟨"RoomForms$Form", "take", "(I)I"⟩) (by decide +kernel)), va_Nw.of rfl (hts (.declares ⟨"RoomForms$Form", "takeBack", "(II)V"⟩) (by decide +kernel)), va_Nw.of rfl (hts (.declares ⟨"java/lang/RuntimeException", "<init>", "(Ljava/lang/String;)V"⟩) (by decide +kernel)), va_Nw.of rfl (hts (.declares ⟨"java/lang/Exception", "<init>", "(Ljava/lang/String;)V"⟩) (by decide +kernel)), va_Nw.of rfl (hts (.declares ⟨"java/lang/Throwable", "<init>", "(Ljava/lang/String;)V"⟩) (by decide +kernel))⟩, zz_ao (hts (.arrayOver (.object "RoomForms$Form")) (by decide +kernel)), ⟨va_Nc.of (hf (.not (.castable "java/lang/IllegalArgumentException" "java/lang/IllegalStateException")) (by decide +kernel)), va_Nc.of (hf (.not (.castable "java/lang/IllegalArgumentException" "java/lang/IndexOutOfBoundsException")) (by decide +kernel)), va_Nc.of (hf (.not (.castable "java/lang/IllegalArgumentException" "java/lang/UnsupportedOperationException")) (by decide +kernel)), va_Nc.of (hf (.not (.castable "java/lang/IllegalArgumentException" "java/util/NoSuchElementException")) (by decide +kernel)), va_Nc.of (hf (.not (.castable "java/lang/IllegalStateException" "java/lang/IllegalArgumentException")) (by decide +kernel)), va_Nc.of (hf (.not (.castable "java/lang/IllegalStateException" "java/lang/IndexOutOfBoundsException")) (by decide +kernel)), va_Nc.of (hf (.not (.castable "java/lang/IllegalStateException" "java/lang/UnsupportedOperationException")) (by decide +kernel)), va_Nc.of (hf (.not (.castable "java/lang/IllegalStateException" "java/util/NoSuchElementException")) (by decide +kernel)), va_Nc.of (hf (.not (.castable "java/lang/IndexOutOfBoundsException" "java/lang/IllegalArgumentException")) (by decide +kernel)), va_Nc.of (hf (.not (.castable "java/lang/IndexOutOfBoundsException" "java/lang/IllegalStateException")) (by decide +kernel)), va_Nc.of (hf (.not (.castable "java/lang/IndexOutOfBoundsException" "java/lang/UnsupportedOperationException")) (by decide +kernel)), va_Nc.of (hf (.not (.castable "java/lang/IndexOutOfBoundsException" "java/util/NoSuchElementException")) (by decide +kernel)), va_Nc.of (hf (.not (.castable "java/lang/UnsupportedOperationException" "java/lang/IllegalArgumentException")) (by decide +kernel)), va_Nc.of (hf (.not (.castable "java/lang/UnsupportedOperationException" "java/lang/IllegalStateException")) (by decide +kernel)), va_Nc.of (hf (.not (.castable "java/lang/UnsupportedOperationException" "java/lang/IndexOutOfBoundsException")) (by decide +kernel)), va_Nc.of (hf (.not (.castable "java/lang/UnsupportedOperationException" "java/util/NoSuchElementException")) (by decide +kernel)), va_Nc.of (hf (.not (.castable "java/util/NoSuchElementException" "java/lang/IllegalArgumentException")) (by decide +kernel)), va_Nc.of (hf (.not (.castable "java/util/NoSuchElementException" "java/lang/IllegalStateException")) (by decide +kernel)), va_Nc.of (hf (.not (.castable "java/util/NoSuchElementException" "java/lang/IndexOutOfBoundsException")) (by decide +kernel)), va_Nc.of (hf (.not (.castable "java/util/NoSuchElementException" "java/lang/UnsupportedOperationException")) (by decide +kernel))⟩, ⟨zz_str (hts (.stringRef "RoomForms" 61 "a form is 0 to 9") (by decide +kernel)), zz_str (hts (.stringRef "RoomForms" 66 "a ROOM has 16 to 1024 words") (by decide +kernel)), zz_str (hts (.stringRef "RoomForms" 75 "1 to 1024 words can be asked") (by decide +kernel)), zz_str (hts (.stringRef "RoomForms" 86 "200 BLOCKS are there") (by decide +kernel)), zz_str (hts (.stringRef "RoomForms" 114 "what is 0 to 2") (by decide +kernel)), zz_str (hts (.stringRef "RoomForms" 122 "there is no such word") (by decide +kernel)), zz_str (hts (.stringRef "RoomForms" 127 "part is 0 or 1") (by decide +kernel)), zz_str (hts (.stringRef "RoomForms" 138 "there is no such RUN") (by decide +kernel)), zz_str (hts (.stringRef "RoomForms" 144 "a LIST is 0 to 43") (by decide +kernel)), zz_str (hts (.stringRef "RoomForms" 148 "form 7 alone has LISTS") (by decide +kernel)), zz_str (hts (.stringRef "RoomForms" 155 "there is no such RUN in the LIST") (by decide +kernel)), zz_str (hts (.stringRef "RoomForms" 157 "a form is 0 to 3 here") (by decide +kernel)), zz_str (hts (.stringRef "RoomForms" 159 "most is 1 to 4") (by decide +kernel)), zz_str (hts (.stringRef "RoomForms" 161 "live is 1 to 8, and most or more") (by decide +kernel)), zz_str (hts (.stringRef "RoomForms" 169 "what is 0 to 12") (by decide +kernel)), zz_str (hts (.stringRef "RoomForms" 206 "there is no ROOM") (by decide +kernel)), zz_str (hts (.stringRef "RoomForms" 214 "there is no such BLOCK") (by decide +kernel))⟩⟩
theorem zz_hU {s : State} {b : Nat} (hts : ∀ w ∈ lw_tbl, w.before #[Value.ref b] s = true) (hgv : (Jvm.Cond.and given_1 narrow_1).before #[Value.ref b] s = true) : vx_Zq Bundle.tN "UNASSIGNED_STACK" Bundle.steD (fun q : Nat => s.heap.size ≤ q) s s.heap := by
  have hf := flat_of_before _ hgv
  exact vx_Zqof (hts (.laysStatic Bundle.tN "UNASSIGNED_STACK" Bundle.steD) (by decide +kernel)) (hts (.initialized Bundle.tN) (by decide +kernel)) (hf (.isRef (.static Bundle.tN "UNASSIGNED_STACK" Bundle.steD)) (by decide +kernel)) (fun a h => Nat.not_le.mpr h)
theorem zz_hQ {s : State} {b : Nat} (hts : ∀ w ∈ lw_tbl, w.before #[Value.ref b] s = true) (hgv : (Jvm.Cond.and given_1 narrow_1).before #[Value.ref b] s = true) : vx_Zq Bundle.tN "SUPPRESSED_SENTINEL" Bundle.listD (fun q : Nat => s.heap.size ≤ q) s s.heap := by
  have hf := flat_of_before _ hgv
  exact vx_Zqof (hts (.laysStatic Bundle.tN "SUPPRESSED_SENTINEL" Bundle.listD) (by decide +kernel)) (hts (.initialized Bundle.tN) (by decide +kernel)) (hf (.isRef (.static Bundle.tN "SUPPRESSED_SENTINEL" Bundle.listD)) (by decide +kernel)) (fun a h => Nat.not_le.mpr h)

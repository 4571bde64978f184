abbrev ce_X7 (cI cJ cZ : ClassId) (q0 q1 q2 q3 q4 q5 q6 q7 q8 : Nat) (n0 : Nat) (n1 : Nat) (n2 : Nat) (n3 : Nat) (n4 : Nat) (n5 : Nat) (n6 : Nat) (u : Int32 × Int32 × Int32 × Int32 × (Nat → Int32) × (Nat → Int32) × (Nat → Int32) × (Nat → Int32) × (Nat → Int32) × Int32 × Int32 × (Nat → Int32) × (Nat → Int32)) : va_W := [(q0, .inr (6, [.ref q1, .ref q2, .ref q3, .ref q4, .ref q5, .ref q6, .int u.1, .int u.2.1, .int u.2.2.1, .int u.2.2.2.1])), (q1, .inl (cI, n0, .inl u.2.2.2.2.1)), (q2, .inl (cI, n1, .inl u.2.2.2.2.2.1)), (q3, .inl (cI, n2, .inl u.2.2.2.2.2.2.1)), (q4, .inl (cI, n3, .inl u.2.2.2.2.2.2.2.1)), (q5, .inl (cI, n4, .inl u.2.2.2.2.2.2.2.2.1)), (q6, .inr (9, [.ref q7, .ref q8, .int u.2.2.2.2.2.2.2.2.2.1, .int u.2.2.2.2.2.2.2.2.2.2.1])), (q7, .inl (cI, n5, .inl u.2.2.2.2.2.2.2.2.2.2.2.1)), (q8, .inl (cI, n6, .inl u.2.2.2.2.2.2.2.2.2.2.2.2))]
abbrev rm_X7_mark : Room := { frames := 1, cells := 0, slots := 0, locals := 21 }
theorem in_X7_mark_X7 : ∀ w ∈ wsX70, w ∈ wsX7_mark := by decide +kernel
def m_X7_mark_L19 (K : Nat) (n0 : Nat) (n1 : Nat) (n2 : Nat) (n3 : Nat) (n4 : Nat) (n5 : Nat) (n6 : Nat) : Nat → Int32 → Int32 → Int32 → Int32 → Int32 → Int32 → Int32 → Int32 → Int32 → (Nat → Int32) → (Nat → Int32) → (Nat → Int32) → (Nat → Int32) → (Nat → Int32) → Int32 → Int32 → (Nat → Int32) → (Nat → Int32) → Option (Int32 × Int32 × Int32 × Int32 × (Nat → Int32) × (Nat → Int32) × (Nat → Int32) × (Nat → Int32) × (Nat → Int32) × Int32 × Int32 × (Nat → Int32) × (Nat → Int32))
  | 0, _, _, _, _, _, _, _, _, _, _, _, _, _, _, _, _, _, _ => none
  | k + 1, x1, x2, x3, x4, x5, s0, s1, s2, s3, s4, s5, s6, s7, s8, s9, s10, s11, s12 =>
    if x4 ≤ x5 then some ((s0, s1, s2, s3, s4, s5, s6, s7, s8, s9, s10, s11, s12))
    else (if ¬ (x5 < 0 ∨ n0 ≤ x5.toNatClampNeg) then m_X7_mark_L19 K n0 n1 n2 n3 n4 n5 n6 k x1 x2 x3 x4 (x5 + 1) s0 s1 s2 s3 (upd s4 x5.toNatClampNeg x3) s5 s6 s7 s8 s9 s10 s11 s12 else none)
theorem m_X7_mark_L19_s (K : Nat) (n0 : Nat) (n1 : Nat) (n2 : Nat) (n3 : Nat) (n4 : Nat) (n5 : Nat) (n6 : Nat) (k : Nat) (x1 : Int32) (x2 : Int32) (x3 : Int32) (x4 : Int32) (x5 : Int32) (s0 : Int32) (s1 : Int32) (s2 : Int32) (s3 : Int32) (s4 : Nat → Int32) (s5 : Nat → Int32) (s6 : Nat → Int32) (s7 : Nat → Int32) (s8 : Nat → Int32) (s9 : Int32) (s10 : Int32) (s11 : Nat → Int32) (s12 : Nat → Int32) : m_X7_mark_L19 K n0 n1 n2 n3 n4 n5 n6 (k + 1) x1 x2 x3 x4 x5 s0 s1 s2 s3 s4 s5 s6 s7 s8 s9 s10 s11 s12 =
    (if x4 ≤ x5 then some ((s0, s1, s2, s3, s4, s5, s6, s7, s8, s9, s10, s11, s12))
    else (if ¬ (x5 < 0 ∨ n0 ≤ x5.toNatClampNeg) then m_X7_mark_L19 K n0 n1 n2 n3 n4 n5 n6 k x1 x2 x3 x4 (x5 + 1) s0 s1 s2 s3 (upd s4 x5.toNatClampNeg x3) s5 s6 s7 s8 s9 s10 s11 s12 else none)) := rfl
set_option maxHeartbeats 4000000 in
set_option maxRecDepth 100000 in
theorem w_X7_mark_L19 {p : Program} {l : Launch} {e : Env} {s : State} {m : MethodId} {args : Array Value} {below : List Frame} {meth : Method} {c : Code} (dC : Nat → ClassId) (dI : Nat → Nat → Nat) (cI cJ cZ : ClassId) (K : Nat) (q0 q1 q2 q3 q4 q5 q6 q7 q8 : Nat) (n0 : Nat) (n1 : Nat) (n2 : Nat) (n3 : Nat) (n4 : Nat) (n5 : Nat) (n6 : Nat) (A : Nat → Prop) (uv : Int32 × Int32 × Int32 × Int32 × (Nat → Int32) × (Nat → Int32) × (Nat → Int32) × (Nat → Int32) × (Nat → Int32) × Int32 × Int32 × (Nat → Int32) × (Nat → Int32)) (hS0 : CallFix p m c cX7_mark 6 s args wsX7_mark RX7) (hr : meth.sig.returnType = none) (hlocks : meth.locks = false) (hA : ∀ q : Nat, s.heap.size ≤ q → A q) (hK : va_K (dC, dI) vwCl [(cI, .int), (cJ, .long), (cZ, .boolean)] s) (hN : zz_nw s) : ∀ (k : Nat) (x1 : Int32) (x2 : Int32) (x3 : Int32) (x4 : Int32) (x5 : Int32) (s0 : Int32) (s1 : Int32) (s2 : Int32) (s3 : Int32) (s4 : Nat → Int32) (s5 : Nat → Int32) (s6 : Nat → Int32) (s7 : Nat → Int32) (s8 : Nat → Int32) (s9 : Int32) (s10 : Int32) (s11 : Nat → Int32) (s12 : Nat → Int32) (H : Heap) (locs : List Loc) (ls : Array Slot), m_X7_mark_L19 K n0 n1 n2 n3 n4 n5 n6 k x1 x2 x3 x4 x5 s0 s1 s2 s3 s4 s5 s6 s7 s8 s9 s10 s11 s12 = some uv → va_P (dC, dI) vwCl [(q0, .inr (6, [.ref q1, .ref q2, .ref q3, .ref q4, .ref q5, .ref q6, .int s0, .int s1, .int s2, .int s3])), (q1, .inl (cI, n0, .inl s4)), (q2, .inl (cI, n1, .inl s5)), (q3, .inl (cI, n2, .inl s6)), (q4, .inl (cI, n3, .inl s7)), (q5, .inl (cI, n4, .inl s8)), (q6, .inr (9, [.ref q7, .ref q8, .int s9, .int s10])), (q7, .inl (cI, n5, .inl s11)), (q8, .inl (cI, n6, .inl s12))] H → va_D A [(q0, .inr (6, [.ref q1, .ref q2, .ref q3, .ref q4, .ref q5, .ref q6, .int s0, .int s1, .int s2, .int s3])), (q1, .inl (cI, n0, .inl s4)), (q2, .inl (cI, n1, .inl s5)), (q3, .inl (cI, n2, .inl s6)), (q4, .inl (cI, n3, .inl s7)), (q5, .inl (cI, n4, .inl s8)), (q6, .inr (9, [.ref q7, .ref q8, .int s9, .int s10])), (q7, .inl (cI, n5, .inl s11)), (q8, .inl (cI, n6, .inl s12))] → va_S A s.heap H locs → lv_has ls 6 [(0, .ref q0), (1, .int x1), (2, .int x2), (3, .int x3), (4, .int x4), (5, .int x5)] → W p l e rm_X7_mark s m args below meth c H locs 0 0 (MQ below (va_Qv (fun u => uv = u) (fun u t => zz_wo dC dI [(cI, .int), (cJ, .long), (cZ, .boolean)] A (ce_X7 cI cJ cZ q0 q1 q2 q3 q4 q5 q6 q7 q8 n0 n1 n2 n3 n4 n5 n6 u) t) A) args s 0 0 A) (F0 m 19 ls []) := by
  obtain ⟨hx, hb, hml, hown, hts⟩ := id hS0
  have inX7 := in_X7_mark_X7
  have f9 := hts (.fieldLink RX7 9 "RoomForms$Room" "owners" "[I") (by decide +kernel)
  have f36 := hts (.fieldLink RX7 36 "RoomForms$Room" "words" "I") (by decide +kernel)
  intro k
  induction k with
  | zero =>
    intro _ _ _ _ _ _ _ _ _ _ _ _ _ _ _ _ _ _ _ _ _ hm
    have hm9 : (none : Option (Int32 × Int32 × Int32 × Int32 × (Nat → Int32) × (Nat → Int32) × (Nat → Int32) × (Nat → Int32) × (Nat → Int32) × Int32 × Int32 × (Nat → Int32) × (Nat → Int32))) = some _ := hm
    cases hm9
  | succ k ih =>
    intro x1 x2 x3 x4 x5 s0 s1 s2 s3 s4 s5 s6 s7 s8 s9 s10 s11 s12 H locs ls hm hP hD hS hl
    rw [m_X7_mark_L19_s] at hm
    refine lv_iload hx hb dX7_mark_19 (lv_at hl 5 rfl) ?_
    refine lv_iload hx hb dX7_mark_21 (lv_at hl 4 rfl) ?_
    refine lv_icmp_ge (tgt := 40) hx hb dX7_mark_23 (by decide) (fun c_1 => ?_) (fun c_1 => ?_)
    · replace hm := zz_t c_1 hm
      have hm := Option.some.inj hm
      exact W.vret hx hb hr (fun t ht hW => ⟨⟨(s0, s1, s2, s3, s4, s5, s6, s7, s8, s9, s10, s11, s12), rfl, hm.symm, by rw [ht]; exact hP, va_K.moved hW.alike hK, hD⟩, hS.F ht⟩) hS.2.2 dX7_mark_40
    · replace hm := zz_f c_1 hm
      refine lv_aload_n hx hb dX7_mark_26 rfl (lv_at hl 0 rfl) ?_
      refine va_get (D := (dC, dI)) (ci := 6) (v := .ref q1) (C := RX7) (T := TX7) (N := 10) hx hb hts inX7 hown hK hP 0 rfl rfl 0 (by decide) f9 (fun _ h9 => h9) rfl dX7_mark_27 ?_
      refine lv_iload hx hb dX7_mark_30 (lv_at hl 5 rfl) ?_
      refine lv_iload_n hx hb dX7_mark_32 rfl (lv_at hl 3 rfl) ?_
      obtain ⟨hi_2, hm⟩ := zz_chk hm
      refine va_iast hx hb hK hP hD hS 1 0 rfl rfl (i := x5) hi_2 dX7_mark_33 (fun H locs hP hD hS => ?_)
      have hP : va_P (dC, dI) vwCl [(q0, .inr (6, [.ref q1, .ref q2, .ref q3, .ref q4, .ref q5, .ref q6, .int s0, .int s1, .int s2, .int s3])), (q1, .inl (cI, n0, .inl (upd s4 x5.toNatClampNeg x3))), (q2, .inl (cI, n1, .inl s5)), (q3, .inl (cI, n2, .inl s6)), (q4, .inl (cI, n3, .inl s7)), (q5, .inl (cI, n4, .inl s8)), (q6, .inr (9, [.ref q7, .ref q8, .int s9, .int s10])), (q7, .inl (cI, n5, .inl s11)), (q8, .inl (cI, n6, .inl s12))] _ := hP
      have hD : va_D A [(q0, .inr (6, [.ref q1, .ref q2, .ref q3, .ref q4, .ref q5, .ref q6, .int s0, .int s1, .int s2, .int s3])), (q1, .inl (cI, n0, .inl (upd s4 x5.toNatClampNeg x3))), (q2, .inl (cI, n1, .inl s5)), (q3, .inl (cI, n2, .inl s6)), (q4, .inl (cI, n3, .inl s7)), (q5, .inl (cI, n4, .inl s8)), (q6, .inr (9, [.ref q7, .ref q8, .int s9, .int s10])), (q7, .inl (cI, n5, .inl s11)), (q8, .inl (cI, n6, .inl s12))] := hD
      refine lv_iinc (v := x5 + 1) (lv' := [(5, .int (x5 + 1)), (0, .ref q0), (1, .int x1), (2, .int x2), (3, .int x3), (4, .int x4)]) hx hb dX7_mark_34 hl (k := 5) rfl rfl (by decide) rfl (fun ls hl => ?_)
      refine lv_goto (tgt := 19) hx hb dX7_mark_37 (by decide) ?_
      exact ih x1 x2 x3 x4 (x5 + 1) s0 s1 s2 s3 (upd s4 x5.toNatClampNeg x3) s5 s6 s7 s8 s9 s10 s11 s12 _ _ _ hm hP hD hS (lv_sub hl [1, 2, 3, 4, 5, 0] rfl)
def m_X7_mark (K : Nat) (n0 : Nat) (n1 : Nat) (n2 : Nat) (n3 : Nat) (n4 : Nat) (n5 : Nat) (n6 : Nat) (p1 : Int32) (p2 : Int32) (p3 : Int32) (s0 : Int32) (s1 : Int32) (s2 : Int32) (s3 : Int32) (s4 : Nat → Int32) (s5 : Nat → Int32) (s6 : Nat → Int32) (s7 : Nat → Int32) (s8 : Nat → Int32) (s9 : Int32) (s10 : Int32) (s11 : Nat → Int32) (s12 : Nat → Int32) : Option (Int32 × Int32 × Int32 × Int32 × (Nat → Int32) × (Nat → Int32) × (Nat → Int32) × (Nat → Int32) × (Nat → Int32) × Int32 × Int32 × (Nat → Int32) × (Nat → Int32)) :=
  m_X7_mark_L19 K n0 n1 n2 n3 n4 n5 n6 K p1 p2 p3 (zz_min (p1 + p2) s0) (zz_max p1 ((0 : Int32))) s0 s1 s2 s3 s4 s5 s6 s7 s8 s9 s10 s11 s12
set_option maxHeartbeats 4000000 in
set_option maxRecDepth 100000 in
theorem c_X7_mark (l : Launch) (dC : Nat → ClassId) (dI : Nat → Nat → Nat) (cI cJ cZ : ClassId) (K : Nat) (q0 q1 q2 q3 q4 q5 q6 q7 q8 : Nat) (n0 : Nat) (n1 : Nat) (n2 : Nat) (n3 : Nat) (n4 : Nat) (n5 : Nat) (n6 : Nat) (s0 : Int32) (s1 : Int32) (s2 : Int32) (s3 : Int32) (s4 : Nat → Int32) (s5 : Nat → Int32) (s6 : Nat → Int32) (s7 : Nat → Int32) (s8 : Nat → Int32) (s9 : Int32) (s10 : Int32) (s11 : Nat → Int32) (s12 : Nat → Int32) (p1 : Int32) (p2 : Int32) (p3 : Int32) (sz : Nat) (uv : Int32 × Int32 × Int32 × Int32 × (Nat → Int32) × (Nat → Int32) × (Nat → Int32) × (Nat → Int32) × (Nat → Int32) × Int32 × Int32 × (Nat → Int32) × (Nat → Int32)) (hm : m_X7_mark K n0 n1 n2 n3 n4 n5 n6 p1 p2 p3 s0 s1 s2 s3 s4 s5 s6 s7 s8 s9 s10 s11 s12 = some uv) : Met l yX7_mark wsX7_mark rm_X7_mark (zz_pre dC dI [(cI, .int), (cJ, .long), (cZ, .boolean)] [(q0, .inr (6, [.ref q1, .ref q2, .ref q3, .ref q4, .ref q5, .ref q6, .int s0, .int s1, .int s2, .int s3])), (q1, .inl (cI, n0, .inl s4)), (q2, .inl (cI, n1, .inl s5)), (q3, .inl (cI, n2, .inl s6)), (q4, .inl (cI, n3, .inl s7)), (q5, .inl (cI, n4, .inl s8)), (q6, .inr (9, [.ref q7, .ref q8, .int s9, .int s10])), (q7, .inl (cI, n5, .inl s11)), (q8, .inl (cI, n6, .inl s12))] sz [.ref q0, .int p1, .int p2, .int p3]) (va_Qv (fun u => uv = u) (fun u t => zz_wo dC dI [(cI, .int), (cJ, .long), (cZ, .boolean)] (va_A [(q0, .inr (6, [.ref q1, .ref q2, .ref q3, .ref q4, .ref q5, .ref q6, .int s0, .int s1, .int s2, .int s3])), (q1, .inl (cI, n0, .inl s4)), (q2, .inl (cI, n1, .inl s5)), (q3, .inl (cI, n2, .inl s6)), (q4, .inl (cI, n3, .inl s7)), (q5, .inl (cI, n4, .inl s8)), (q6, .inr (9, [.ref q7, .ref q8, .int s9, .int s10])), (q7, .inl (cI, n5, .inl s11)), (q8, .inl (cI, n6, .inl s12))] sz) (ce_X7 cI cJ cZ q0 q1 q2 q3 q4 q5 q6 q7 q8 n0 n1 n2 n3 n4 n5 n6 u) t) (va_A [(q0, .inr (6, [.ref q1, .ref q2, .ref q3, .ref q4, .ref q5, .ref q6, .int s0, .int s1, .int s2, .int s3])), (q1, .inl (cI, n0, .inl s4)), (q2, .inl (cI, n1, .inl s5)), (q3, .inl (cI, n2, .inl s6)), (q4, .inl (cI, n3, .inl s7)), (q5, .inl (cI, n4, .inl s8)), (q6, .inr (9, [.ref q7, .ref q8, .int s9, .int s10])), (q7, .inl (cI, n5, .inl s11)), (q8, .inl (cI, n6, .inl s12))] sz)) 0 0 (va_A [(q0, .inr (6, [.ref q1, .ref q2, .ref q3, .ref q4, .ref q5, .ref q6, .int s0, .int s1, .int s2, .int s3])), (q1, .inl (cI, n0, .inl s4)), (q2, .inl (cI, n1, .inl s5)), (q3, .inl (cI, n2, .inl s6)), (q4, .inl (cI, n3, .inl s7)), (q5, .inl (cI, n4, .inl s8)), (q6, .inr (9, [.ref q7, .ref q8, .int s9, .int s10])), (q7, .inl (cI, n5, .inl s11)), (q8, .inl (cI, n6, .inl s12))] sz) := by
  refine Met.ofW (cc := cX7_mark) (maxL := 6) (ret := none) (by decide) rfl ?_
  intro p e s m args below meth c s₁ B hml hv
  obtain ⟨rfl, hsz, hP, hK, hD0, hN⟩ := hv
  have hx := B.exec
  have hb := B.bytes
  have hr := B.returns
  have hts := atoms_spec (ws := wsX7_mark) B.pre
  have hown : s.vm.findClass RX7 = some m.cls := findClass_of_methodNamed B.named
  have hlocks := B.notSynchronized
  have hS0 : CallFix p m c cX7_mark 6 s #[.ref q0, .int p1, .int p2, .int p3] wsX7_mark RX7 := ⟨hx, hb, hml, hown, hts⟩
  subst hsz
  have hD := hD0.self (sz := s.heap.size)
  generalize hAe : va_A [(q0, .inr (6, [.ref q1, .ref q2, .ref q3, .ref q4, .ref q5, .ref q6, .int s0, .int s1, .int s2, .int s3])), (q1, .inl (cI, n0, .inl s4)), (q2, .inl (cI, n1, .inl s5)), (q3, .inl (cI, n2, .inl s6)), (q4, .inl (cI, n3, .inl s7)), (q5, .inl (cI, n4, .inl s8)), (q6, .inr (9, [.ref q7, .ref q8, .int s9, .int s10])), (q7, .inl (cI, n5, .inl s11)), (q8, .inl (cI, n6, .inl s12))] s.heap.size = A at hD ⊢
  have hA : ∀ q : Nat, s.heap.size ≤ q → A q := fun q h => by rw [← hAe]; exact Or.inr h
  have hS : va_S A s.heap s.heap [] := va_S.rf
  have hl := lv_entry ([.ref q0, .int p1, .int p2, .int p3]) (n := 6) (Nat.le_of_ble_eq_true rfl)
  rw [lg_entry_eq]
  generalize (lg_sl ([.ref q0, .int p1, .int p2, .int p3]) ++ List.replicate (6 - (lg_sl ([.ref q0, .int p1, .int p2, .int p3])).length) Slot.unset).toArray = ls at hl ⊢
  have hl : lv_has ls 6 [(0, .ref q0), (1, .int p1), (2, .int p2), (3, .int p3)] := hl
  have inX7 := in_X7_mark_X7
  have f9 := hts (.fieldLink RX7 9 "RoomForms$Room" "owners" "[I") (by decide +kernel)
  have f36 := hts (.fieldLink RX7 36 "RoomForms$Room" "words" "I") (by decide +kernel)
  unfold m_X7_mark at hm
  refine lv_iload_n hx hb dX7_mark_0 rfl (lv_at hl 1 rfl) ?_
  refine lv_iload_n hx hb dX7_mark_1 rfl (lv_at hl 2 rfl) ?_
  refine lv_iadd hx hb dX7_mark_2 ?_
  refine lv_aload_n hx hb dX7_mark_3 rfl (lv_at hl 0 rfl) ?_
  refine va_get (D := (dC, dI)) (ci := 6) (v := .int s0) (C := RX7) (T := TX7) (N := 10) hx hb hts inX7 hown hK hP 0 rfl rfl 6 (by decide) f36 (fun _ h9 => h9) rfl dX7_mark_4 ?_
  refine va_mmin hx hb (by rw [hml]; exact hl.1.symm) hown (hts (.methodLink RX7 55 Lib.Math.min.name) (by decide +kernel)) (hts (.static Lib.Math.min.name) (by decide +kernel)) (hts (.initialized "java/lang/Math") (by decide +kernel)) (hts (.code Lib.Math.min.name Lib.Math.min.code 2 (some .int)) (by decide +kernel)) (Nat.le_of_ble_eq_true rfl) (Nat.le_of_ble_eq_true rfl) (Nat.zero_le _) (Nat.zero_le _) dX7_mark_7 ?_
  change W _ _ _ _ _ _ _ _ _ _ _ _ _ _ _ (F0 m 10 _ (.int (zz_min (p1 + p2) s0) :: []))
  refine lv_istore (lv' := [(4, .int (zz_min (p1 + p2) s0)), (0, .ref q0), (1, .int p1), (2, .int p2), (3, .int p3)]) hx hb dX7_mark_10 hl (by decide) rfl (fun ls hl => ?_)
  refine lv_iload_n hx hb dX7_mark_12 rfl (lv_at hl 2 rfl) ?_
  refine lv_iconst (v := 0) hx hb dX7_mark_13 (by decide) ?_
  refine va_mmax hx hb (by rw [hml]; exact hl.1.symm) hown (hts (.methodLink RX7 49 Lib.Math.max.name) (by decide +kernel)) (hts (.static Lib.Math.max.name) (by decide +kernel)) (hts (.initialized "java/lang/Math") (by decide +kernel)) (hts (.code Lib.Math.max.name Lib.Math.max.code 2 (some .int)) (by decide +kernel)) (Nat.le_of_ble_eq_true rfl) (Nat.le_of_ble_eq_true rfl) (Nat.zero_le _) (Nat.zero_le _) dX7_mark_14 ?_
  change W _ _ _ _ _ _ _ _ _ _ _ _ _ _ _ (F0 m 17 _ (.int (zz_max p1 ((0 : Int32))) :: []))
  refine lv_istore (lv' := [(5, .int (zz_max p1 ((0 : Int32)))), (4, .int (zz_min (p1 + p2) s0)), (0, .ref q0), (1, .int p1), (2, .int p2), (3, .int p3)]) hx hb dX7_mark_17 hl (by decide) rfl (fun ls hl => ?_)
  exact w_X7_mark_L19 dC dI cI cJ cZ K q0 q1 q2 q3 q4 q5 q6 q7 q8 n0 n1 n2 n3 n4 n5 n6 A uv hS0 hr hlocks hA hK hN K p1 p2 p3 (zz_min (p1 + p2) s0) (zz_max p1 ((0 : Int32))) s0 s1 s2 s3 s4 s5 s6 s7 s8 s9 s10 s11 s12 _ _ _ hm hP hD hS (lv_sub hl [2, 3, 4, 5, 1, 0] rfl)
abbrev rm_X7_isFree : Room := { frames := 0, cells := 0, slots := 0, locals := 0 }
theorem in_X7_isFree_X7 : ∀ w ∈ wsX70, w ∈ wsX7_isFree := by decide +kernel
def m_X7_isFree (K : Nat) (n0 : Nat) (n1 : Nat) (n2 : Nat) (n3 : Nat) (n4 : Nat) (n5 : Nat) (n6 : Nat) (p1 : Int32) (s0 : Int32) (s1 : Int32) (s2 : Int32) (s3 : Int32) (s4 : Nat → Int32) (s5 : Nat → Int32) (s6 : Nat → Int32) (s7 : Nat → Int32) (s8 : Nat → Int32) (s9 : Int32) (s10 : Int32) (s11 : Nat → Int32) (s12 : Nat → Int32) : Option (Int32 × Int32 × Int32 × Int32 × Int32 × (Nat → Int32) × (Nat → Int32) × (Nat → Int32) × (Nat → Int32) × (Nat → Int32) × Int32 × Int32 × (Nat → Int32) × (Nat → Int32)) :=
  if p1 < 0 then some ((0 : Int32), (s0, s1, s2, s3, s4, s5, s6, s7, s8, s9, s10, s11, s12))
  else (if s0 ≤ p1 then some ((0 : Int32), (s0, s1, s2, s3, s4, s5, s6, s7, s8, s9, s10, s11, s12))
  else (if ¬ (p1 < 0 ∨ n0 ≤ p1.toNatClampNeg) then (if (s4 p1.toNatClampNeg) = ((-1 : Int32)) then some ((1 : Int32), (s0, s1, s2, s3, s4, s5, s6, s7, s8, s9, s10, s11, s12))
  else some ((0 : Int32), (s0, s1, s2, s3, s4, s5, s6, s7, s8, s9, s10, s11, s12))) else none))
set_option maxHeartbeats 4000000 in
set_option maxRecDepth 100000 in
theorem c_X7_isFree (l : Launch) (dC : Nat → ClassId) (dI : Nat → Nat → Nat) (cI cJ cZ : ClassId) (K : Nat) (q0 q1 q2 q3 q4 q5 q6 q7 q8 : Nat) (n0 : Nat) (n1 : Nat) (n2 : Nat) (n3 : Nat) (n4 : Nat) (n5 : Nat) (n6 : Nat) (s0 : Int32) (s1 : Int32) (s2 : Int32) (s3 : Int32) (s4 : Nat → Int32) (s5 : Nat → Int32) (s6 : Nat → Int32) (s7 : Nat → Int32) (s8 : Nat → Int32) (s9 : Int32) (s10 : Int32) (s11 : Nat → Int32) (s12 : Nat → Int32) (p1 : Int32) (sz : Nat) (rv : Int32) (uv : Int32 × Int32 × Int32 × Int32 × (Nat → Int32) × (Nat → Int32) × (Nat → Int32) × (Nat → Int32) × (Nat → Int32) × Int32 × Int32 × (Nat → Int32) × (Nat → Int32)) (hm : m_X7_isFree K n0 n1 n2 n3 n4 n5 n6 p1 s0 s1 s2 s3 s4 s5 s6 s7 s8 s9 s10 s11 s12 = some (rv, uv)) : Met l yX7_isFree wsX7_isFree rm_X7_isFree (zz_pre dC dI [(cI, .int), (cJ, .long), (cZ, .boolean)] [(q0, .inr (6, [.ref q1, .ref q2, .ref q3, .ref q4, .ref q5, .ref q6, .int s0, .int s1, .int s2, .int s3])), (q1, .inl (cI, n0, .inl s4)), (q2, .inl (cI, n1, .inl s5)), (q3, .inl (cI, n2, .inl s6)), (q4, .inl (cI, n3, .inl s7)), (q5, .inl (cI, n4, .inl s8)), (q6, .inr (9, [.ref q7, .ref q8, .int s9, .int s10])), (q7, .inl (cI, n5, .inl s11)), (q8, .inl (cI, n6, .inl s12))] sz [.ref q0, .int p1]) (va_Qi (fun r u => rv = r ∧ uv = u) (fun u t => zz_wo dC dI [(cI, .int), (cJ, .long), (cZ, .boolean)] (va_A [(q0, .inr (6, [.ref q1, .ref q2, .ref q3, .ref q4, .ref q5, .ref q6, .int s0, .int s1, .int s2, .int s3])), (q1, .inl (cI, n0, .inl s4)), (q2, .inl (cI, n1, .inl s5)), (q3, .inl (cI, n2, .inl s6)), (q4, .inl (cI, n3, .inl s7)), (q5, .inl (cI, n4, .inl s8)), (q6, .inr (9, [.ref q7, .ref q8, .int s9, .int s10])), (q7, .inl (cI, n5, .inl s11)), (q8, .inl (cI, n6, .inl s12))] sz) (ce_X7 cI cJ cZ q0 q1 q2 q3 q4 q5 q6 q7 q8 n0 n1 n2 n3 n4 n5 n6 u) t) (va_A [(q0, .inr (6, [.ref q1, .ref q2, .ref q3, .ref q4, .ref q5, .ref q6, .int s0, .int s1, .int s2, .int s3])), (q1, .inl (cI, n0, .inl s4)), (q2, .inl (cI, n1, .inl s5)), (q3, .inl (cI, n2, .inl s6)), (q4, .inl (cI, n3, .inl s7)), (q5, .inl (cI, n4, .inl s8)), (q6, .inr (9, [.ref q7, .ref q8, .int s9, .int s10])), (q7, .inl (cI, n5, .inl s11)), (q8, .inl (cI, n6, .inl s12))] sz)) 0 0 (va_A [(q0, .inr (6, [.ref q1, .ref q2, .ref q3, .ref q4, .ref q5, .ref q6, .int s0, .int s1, .int s2, .int s3])), (q1, .inl (cI, n0, .inl s4)), (q2, .inl (cI, n1, .inl s5)), (q3, .inl (cI, n2, .inl s6)), (q4, .inl (cI, n3, .inl s7)), (q5, .inl (cI, n4, .inl s8)), (q6, .inr (9, [.ref q7, .ref q8, .int s9, .int s10])), (q7, .inl (cI, n5, .inl s11)), (q8, .inl (cI, n6, .inl s12))] sz) := by
  refine Met.ofW (cc := cX7_isFree) (maxL := 2) (ret := (some .boolean)) (by decide) rfl ?_
  intro p e s m args below meth c s₁ B hml hv
  obtain ⟨rfl, hsz, hP, hK, hD0, hN⟩ := hv
  have hx := B.exec
  have hb := B.bytes
  have hr := B.returns
  have hts := atoms_spec (ws := wsX7_isFree) B.pre
  have hown : s.vm.findClass RX7 = some m.cls := findClass_of_methodNamed B.named
  have hlocks := B.notSynchronized
  have hS0 : CallFix p m c cX7_isFree 2 s #[.ref q0, .int p1] wsX7_isFree RX7 := ⟨hx, hb, hml, hown, hts⟩
  subst hsz
  have hD := hD0.self (sz := s.heap.size)
  generalize hAe : va_A [(q0, .inr (6, [.ref q1, .ref q2, .ref q3, .ref q4, .ref q5, .ref q6, .int s0, .int s1, .int s2, .int s3])), (q1, .inl (cI, n0, .inl s4)), (q2, .inl (cI, n1, .inl s5)), (q3, .inl (cI, n2, .inl s6)), (q4, .inl (cI, n3, .inl s7)), (q5, .inl (cI, n4, .inl s8)), (q6, .inr (9, [.ref q7, .ref q8, .int s9, .int s10])), (q7, .inl (cI, n5, .inl s11)), (q8, .inl (cI, n6, .inl s12))] s.heap.size = A at hD ⊢
  have hA : ∀ q : Nat, s.heap.size ≤ q → A q := fun q h => by rw [← hAe]; exact Or.inr h
  have hS : va_S A s.heap s.heap [] := va_S.rf
  have hl := lv_entry ([.ref q0, .int p1]) (n := 2) (Nat.le_of_ble_eq_true rfl)
  rw [lg_entry_eq]
  generalize (lg_sl ([.ref q0, .int p1]) ++ List.replicate (2 - (lg_sl ([.ref q0, .int p1])).length) Slot.unset).toArray = ls at hl ⊢
  have hl : lv_has ls 2 [(0, .ref q0), (1, .int p1)] := hl
  have inX7 := in_X7_isFree_X7
  have f9 := hts (.fieldLink RX7 9 "RoomForms$Room" "owners" "[I") (by decide +kernel)
  have f36 := hts (.fieldLink RX7 36 "RoomForms$Room" "words" "I") (by decide +kernel)
  unfold m_X7_isFree at hm
  refine lv_iload_n hx hb dX7_isFree_0 rfl (lv_at hl 1 rfl) ?_
  refine lv_if_lt (tgt := 26) hx hb dX7_isFree_1 (by decide) (fun c_1 => ?_) (fun c_1 => ?_)
  · replace hm := zz_t c_1 hm
    refine lv_iconst (v := 0) hx hb dX7_isFree_26 (by decide) ?_
    have hm := Option.some.inj hm
    exact W.zret (v := (0 : Int32)) (ty := .boolean) hx hb hr rfl (fun t ht hW => ⟨⟨(0 : Int32), (s0, s1, s2, s3, s4, s5, s6, s7, s8, s9, s10, s11, s12), rfl, ⟨(congrArg (·.1) hm).symm, (congrArg (·.2) hm).symm⟩, by rw [ht]; exact hP, va_K.moved hW.alike hK, hD⟩, hS.F ht⟩) hS.2.2 dX7_isFree_27
  · replace hm := zz_f c_1 hm
    refine lv_iload_n hx hb dX7_isFree_4 rfl (lv_at hl 1 rfl) ?_
    refine lv_aload_n hx hb dX7_isFree_5 rfl (lv_at hl 0 rfl) ?_
    refine va_get (D := (dC, dI)) (ci := 6) (v := .int s0) (C := RX7) (T := TX7) (N := 10) hx hb hts inX7 hown hK hP 0 rfl rfl 6 (by decide) f36 (fun _ h9 => h9) rfl dX7_isFree_6 ?_
    refine lv_icmp_ge (tgt := 26) hx hb dX7_isFree_9 (by decide) (fun c_2 => ?_) (fun c_2 => ?_)
    · replace hm := zz_t c_2 hm
      refine lv_iconst (v := 0) hx hb dX7_isFree_26 (by decide) ?_
      have hm := Option.some.inj hm
      exact W.zret (v := (0 : Int32)) (ty := .boolean) hx hb hr rfl (fun t ht hW => ⟨⟨(0 : Int32), (s0, s1, s2, s3, s4, s5, s6, s7, s8, s9, s10, s11, s12), rfl, ⟨(congrArg (·.1) hm).symm, (congrArg (·.2) hm).symm⟩, by rw [ht]; exact hP, va_K.moved hW.alike hK, hD⟩, hS.F ht⟩) hS.2.2 dX7_isFree_27
    · replace hm := zz_f c_2 hm
      refine lv_aload_n hx hb dX7_isFree_12 rfl (lv_at hl 0 rfl) ?_
      refine va_get (D := (dC, dI)) (ci := 6) (v := .ref q1) (C := RX7) (T := TX7) (N := 10) hx hb hts inX7 hown hK hP 0 rfl rfl 0 (by decide) f9 (fun _ h9 => h9) rfl dX7_isFree_13 ?_
      refine lv_iload_n hx hb dX7_isFree_16 rfl (lv_at hl 1 rfl) ?_
      obtain ⟨hi_3, hm⟩ := zz_chk hm
      refine va_iald hx hb hK hP 1 0 rfl rfl (i := p1) hi_3 dX7_isFree_17 ?_
      refine lv_iconst (v := (-1)) hx hb dX7_isFree_18 (by decide) ?_
      refine lv_icmp_ne (tgt := 26) hx hb dX7_isFree_19 (by decide) (fun c_4 => ?_) (fun c_4 => ?_)
      · replace hm := zz_f c_4 hm
        refine lv_iconst (v := 0) hx hb dX7_isFree_26 (by decide) ?_
        have hm := Option.some.inj hm
        exact W.zret (v := (0 : Int32)) (ty := .boolean) hx hb hr rfl (fun t ht hW => ⟨⟨(0 : Int32), (s0, s1, s2, s3, s4, s5, s6, s7, s8, s9, s10, s11, s12), rfl, ⟨(congrArg (·.1) hm).symm, (congrArg (·.2) hm).symm⟩, by rw [ht]; exact hP, va_K.moved hW.alike hK, hD⟩, hS.F ht⟩) hS.2.2 dX7_isFree_27
      · replace hm := zz_t c_4 hm
        refine lv_iconst (v := 1) hx hb dX7_isFree_22 (by decide) ?_
        refine lv_goto (tgt := 27) hx hb dX7_isFree_23 (by decide) ?_
        have hm := Option.some.inj hm
        exact W.zret (v := (1 : Int32)) (ty := .boolean) hx hb hr rfl (fun t ht hW => ⟨⟨(1 : Int32), (s0, s1, s2, s3, s4, s5, s6, s7, s8, s9, s10, s11, s12), rfl, ⟨(congrArg (·.1) hm).symm, (congrArg (·.2) hm).symm⟩, by rw [ht]; exact hP, va_K.moved hW.alike hK, hD⟩, hS.F ht⟩) hS.2.2 dX7_isFree_27
abbrev rm_X7_empty : Room := { frames := 1, cells := 0, slots := 0, locals := 23 }
theorem in_X7_empty_X7 : ∀ w ∈ wsX70, w ∈ wsX7_empty := by decide +kernel
def m_X7_empty (K : Nat) (n0 : Nat) (n1 : Nat) (n2 : Nat) (n3 : Nat) (n4 : Nat) (n5 : Nat) (n6 : Nat) (p1 : Int32) (s0 : Int32) (s1 : Int32) (s2 : Int32) (s3 : Int32) (s4 : Nat → Int32) (s5 : Nat → Int32) (s6 : Nat → Int32) (s7 : Nat → Int32) (s8 : Nat → Int32) (s9 : Int32) (s10 : Int32) (s11 : Nat → Int32) (s12 : Nat → Int32) : Option (Int32 × Int32 × Int32 × Int32 × (Nat → Int32) × (Nat → Int32) × (Nat → Int32) × (Nat → Int32) × (Nat → Int32) × Int32 × Int32 × (Nat → Int32) × (Nat → Int32)) :=
  (m_J7_fill_53178 K n0 ((-1 : Int32)) s4).bind fun t_1_0 => some ((zz_min (zz_max p1 ((0 : Int32))) ((1024 : Int32)), (0 : Int32), (0 : Int32), (0 : Int32), t_1_0, s5, s6, s7, s8, s9, s10, s11, s12))
set_option maxHeartbeats 4000000 in
set_option maxRecDepth 100000 in
theorem c_X7_empty (l : Launch) (dC : Nat → ClassId) (dI : Nat → Nat → Nat) (cI cJ cZ : ClassId) (K : Nat) (q0 q1 q2 q3 q4 q5 q6 q7 q8 : Nat) (n0 : Nat) (n1 : Nat) (n2 : Nat) (n3 : Nat) (n4 : Nat) (n5 : Nat) (n6 : Nat) (s0 : Int32) (s1 : Int32) (s2 : Int32) (s3 : Int32) (s4 : Nat → Int32) (s5 : Nat → Int32) (s6 : Nat → Int32) (s7 : Nat → Int32) (s8 : Nat → Int32) (s9 : Int32) (s10 : Int32) (s11 : Nat → Int32) (s12 : Nat → Int32) (p1 : Int32) (sz : Nat) (uv : Int32 × Int32 × Int32 × Int32 × (Nat → Int32) × (Nat → Int32) × (Nat → Int32) × (Nat → Int32) × (Nat → Int32) × Int32 × Int32 × (Nat → Int32) × (Nat → Int32)) (hm : m_X7_empty K n0 n1 n2 n3 n4 n5 n6 p1 s0 s1 s2 s3 s4 s5 s6 s7 s8 s9 s10 s11 s12 = some uv) : Met l yX7_empty wsX7_empty rm_X7_empty (zz_pre dC dI [(cI, .int), (cJ, .long), (cZ, .boolean)] [(q0, .inr (6, [.ref q1, .ref q2, .ref q3, .ref q4, .ref q5, .ref q6, .int s0, .int s1, .int s2, .int s3])), (q1, .inl (cI, n0, .inl s4)), (q2, .inl (cI, n1, .inl s5)), (q3, .inl (cI, n2, .inl s6)), (q4, .inl (cI, n3, .inl s7)), (q5, .inl (cI, n4, .inl s8)), (q6, .inr (9, [.ref q7, .ref q8, .int s9, .int s10])), (q7, .inl (cI, n5, .inl s11)), (q8, .inl (cI, n6, .inl s12))] sz [.ref q0, .int p1]) (va_Qv (fun u => uv = u) (fun u t => zz_wo dC dI [(cI, .int), (cJ, .long), (cZ, .boolean)] (va_A [(q0, .inr (6, [.ref q1, .ref q2, .ref q3, .ref q4, .ref q5, .ref q6, .int s0, .int s1, .int s2, .int s3])), (q1, .inl (cI, n0, .inl s4)), (q2, .inl (cI, n1, .inl s5)), (q3, .inl (cI, n2, .inl s6)), (q4, .inl (cI, n3, .inl s7)), (q5, .inl (cI, n4, .inl s8)), (q6, .inr (9, [.ref q7, .ref q8, .int s9, .int s10])), (q7, .inl (cI, n5, .inl s11)), (q8, .inl (cI, n6, .inl s12))] sz) (ce_X7 cI cJ cZ q0 q1 q2 q3 q4 q5 q6 q7 q8 n0 n1 n2 n3 n4 n5 n6 u) t) (va_A [(q0, .inr (6, [.ref q1, .ref q2, .ref q3, .ref q4, .ref q5, .ref q6, .int s0, .int s1, .int s2, .int s3])), (q1, .inl (cI, n0, .inl s4)), (q2, .inl (cI, n1, .inl s5)), (q3, .inl (cI, n2, .inl s6)), (q4, .inl (cI, n3, .inl s7)), (q5, .inl (cI, n4, .inl s8)), (q6, .inr (9, [.ref q7, .ref q8, .int s9, .int s10])), (q7, .inl (cI, n5, .inl s11)), (q8, .inl (cI, n6, .inl s12))] sz)) 0 0 (va_A [(q0, .inr (6, [.ref q1, .ref q2, .ref q3, .ref q4, .ref q5, .ref q6, .int s0, .int s1, .int s2, .int s3])), (q1, .inl (cI, n0, .inl s4)), (q2, .inl (cI, n1, .inl s5)), (q3, .inl (cI, n2, .inl s6)), (q4, .inl (cI, n3, .inl s7)), (q5, .inl (cI, n4, .inl s8)), (q6, .inr (9, [.ref q7, .ref q8, .int s9, .int s10])), (q7, .inl (cI, n5, .inl s11)), (q8, .inl (cI, n6, .inl s12))] sz) := by
  refine Met.ofW (cc := cX7_empty) (maxL := 2) (ret := none) (by decide) rfl ?_
  intro p e s m args below meth c s₁ B hml hv
  obtain ⟨rfl, hsz, hP, hK, hD0, hN⟩ := hv
  have hx := B.exec
  have hb := B.bytes
  have hr := B.returns
  have hts := atoms_spec (ws := wsX7_empty) B.pre
  have hown : s.vm.findClass RX7 = some m.cls := findClass_of_methodNamed B.named
  have hlocks := B.notSynchronized
  have hS0 : CallFix p m c cX7_empty 2 s #[.ref q0, .int p1] wsX7_empty RX7 := ⟨hx, hb, hml, hown, hts⟩
  subst hsz
  have hD := hD0.self (sz := s.heap.size)
  generalize hAe : va_A [(q0, .inr (6, [.ref q1, .ref q2, .ref q3, .ref q4, .ref q5, .ref q6, .int s0, .int s1, .int s2, .int s3])), (q1, .inl (cI, n0, .inl s4)), (q2, .inl (cI, n1, .inl s5)), (q3, .inl (cI, n2, .inl s6)), (q4, .inl (cI, n3, .inl s7)), (q5, .inl (cI, n4, .inl s8)), (q6, .inr (9, [.ref q7, .ref q8, .int s9, .int s10])), (q7, .inl (cI, n5, .inl s11)), (q8, .inl (cI, n6, .inl s12))] s.heap.size = A at hD ⊢
  have hA : ∀ q : Nat, s.heap.size ≤ q → A q := fun q h => by rw [← hAe]; exact Or.inr h
  have hS : va_S A s.heap s.heap [] := va_S.rf
  have hl := lv_entry ([.ref q0, .int p1]) (n := 2) (Nat.le_of_ble_eq_true rfl)
  rw [lg_entry_eq]
  generalize (lg_sl ([.ref q0, .int p1]) ++ List.replicate (2 - (lg_sl ([.ref q0, .int p1])).length) Slot.unset).toArray = ls at hl ⊢
  have hl : lv_has ls 2 [(0, .ref q0), (1, .int p1)] := hl
  have inX7 := in_X7_empty_X7
  have f9 := hts (.fieldLink RX7 9 "RoomForms$Room" "owners" "[I") (by decide +kernel)
  have f36 := hts (.fieldLink RX7 36 "RoomForms$Room" "words" "I") (by decide +kernel)
  have f40 := hts (.fieldLink RX7 40 "RoomForms$Room" "blocks" "I") (by decide +kernel)
  have f43 := hts (.fieldLink RX7 43 "RoomForms$Room" "given" "I") (by decide +kernel)
  have f46 := hts (.fieldLink RX7 46 "RoomForms$Room" "looked" "I") (by decide +kernel)
  unfold m_X7_empty at hm
  refine lv_aload_n hx hb dX7_empty_0 rfl (lv_at hl 0 rfl) ?_
  refine lv_iload_n hx hb dX7_empty_1 rfl (lv_at hl 1 rfl) ?_
  refine lv_iconst (v := 0) hx hb dX7_empty_2 (by decide) ?_
  refine va_mmax hx hb (by rw [hml]; exact hl.1.symm) hown (hts (.methodLink RX7 49 Lib.Math.max.name) (by decide +kernel)) (hts (.static Lib.Math.max.name) (by decide +kernel)) (hts (.initialized "java/lang/Math") (by decide +kernel)) (hts (.code Lib.Math.max.name Lib.Math.max.code 2 (some .int)) (by decide +kernel)) (Nat.le_of_ble_eq_true rfl) (Nat.le_of_ble_eq_true rfl) (Nat.zero_le _) (Nat.zero_le _) dX7_empty_3 ?_
  change W _ _ _ _ _ _ _ _ _ _ _ _ _ _ _ (F0 m 6 _ (.int (zz_max p1 ((0 : Int32))) :: [.ref q0]))
  refine lv_sipush (v := 1024) hx hb dX7_empty_6 (by decide) ?_
  refine va_mmin hx hb (by rw [hml]; exact hl.1.symm) hown (hts (.methodLink RX7 55 Lib.Math.min.name) (by decide +kernel)) (hts (.static Lib.Math.min.name) (by decide +kernel)) (hts (.initialized "java/lang/Math") (by decide +kernel)) (hts (.code Lib.Math.min.name Lib.Math.min.code 2 (some .int)) (by decide +kernel)) (Nat.le_of_ble_eq_true rfl) (Nat.le_of_ble_eq_true rfl) (Nat.zero_le _) (Nat.zero_le _) dX7_empty_9 ?_
  change W _ _ _ _ _ _ _ _ _ _ _ _ _ _ _ (F0 m 12 _ (.int (zz_min (zz_max p1 ((0 : Int32))) ((1024 : Int32))) :: [.ref q0]))
  refine va_put (D := (dC, dI)) (ci := 6) (v := .int (zz_min (zz_max p1 ((0 : Int32))) ((1024 : Int32)))) (ty := .int) (C := RX7) (T := TX7) (N := 10) hx hb hts inX7 tyX7 tyX7_ok nmX7 hown hK hP hD hS 0 rfl rfl 6 (by decide) f36 (fun _ h9 => h9) rfl (by decide +kernel) rfl rfl (Nat.le_of_ble_eq_true rfl) dX7_empty_12 (fun H locs hP hD hS => ?_)
  have hP : va_P (dC, dI) vwCl [(q0, .inr (6, [.ref q1, .ref q2, .ref q3, .ref q4, .ref q5, .ref q6, .int (zz_min (zz_max p1 ((0 : Int32))) ((1024 : Int32))), .int s1, .int s2, .int s3])), (q1, .inl (cI, n0, .inl s4)), (q2, .inl (cI, n1, .inl s5)), (q3, .inl (cI, n2, .inl s6)), (q4, .inl (cI, n3, .inl s7)), (q5, .inl (cI, n4, .inl s8)), (q6, .inr (9, [.ref q7, .ref q8, .int s9, .int s10])), (q7, .inl (cI, n5, .inl s11)), (q8, .inl (cI, n6, .inl s12))] _ := hP
  have hD : va_D A [(q0, .inr (6, [.ref q1, .ref q2, .ref q3, .ref q4, .ref q5, .ref q6, .int (zz_min (zz_max p1 ((0 : Int32))) ((1024 : Int32))), .int s1, .int s2, .int s3])), (q1, .inl (cI, n0, .inl s4)), (q2, .inl (cI, n1, .inl s5)), (q3, .inl (cI, n2, .inl s6)), (q4, .inl (cI, n3, .inl s7)), (q5, .inl (cI, n4, .inl s8)), (q6, .inr (9, [.ref q7, .ref q8, .int s9, .int s10])), (q7, .inl (cI, n5, .inl s11)), (q8, .inl (cI, n6, .inl s12))] := hD
  refine lv_aload_n hx hb dX7_empty_15 rfl (lv_at hl 0 rfl) ?_
  refine lv_iconst (v := 0) hx hb dX7_empty_16 (by decide) ?_
  refine va_put (D := (dC, dI)) (ci := 6) (v := .int ((0 : Int32))) (ty := .int) (C := RX7) (T := TX7) (N := 10) hx hb hts inX7 tyX7 tyX7_ok nmX7 hown hK hP hD hS 0 rfl rfl 7 (by decide) f40 (fun _ h9 => h9) rfl (by decide +kernel) rfl rfl (Nat.le_of_ble_eq_true rfl) dX7_empty_17 (fun H locs hP hD hS => ?_)
  have hP : va_P (dC, dI) vwCl [(q0, .inr (6, [.ref q1, .ref q2, .ref q3, .ref q4, .ref q5, .ref q6, .int (zz_min (zz_max p1 ((0 : Int32))) ((1024 : Int32))), .int ((0 : Int32)), .int s2, .int s3])), (q1, .inl (cI, n0, .inl s4)), (q2, .inl (cI, n1, .inl s5)), (q3, .inl (cI, n2, .inl s6)), (q4, .inl (cI, n3, .inl s7)), (q5, .inl (cI, n4, .inl s8)), (q6, .inr (9, [.ref q7, .ref q8, .int s9, .int s10])), (q7, .inl (cI, n5, .inl s11)), (q8, .inl (cI, n6, .inl s12))] _ := hP
  have hD : va_D A [(q0, .inr (6, [.ref q1, .ref q2, .ref q3, .ref q4, .ref q5, .ref q6, .int (zz_min (zz_max p1 ((0 : Int32))) ((1024 : Int32))), .int ((0 : Int32)), .int s2, .int s3])), (q1, .inl (cI, n0, .inl s4)), (q2, .inl (cI, n1, .inl s5)), (q3, .inl (cI, n2, .inl s6)), (q4, .inl (cI, n3, .inl s7)), (q5, .inl (cI, n4, .inl s8)), (q6, .inr (9, [.ref q7, .ref q8, .int s9, .int s10])), (q7, .inl (cI, n5, .inl s11)), (q8, .inl (cI, n6, .inl s12))] := hD
  refine lv_aload_n hx hb dX7_empty_20 rfl (lv_at hl 0 rfl) ?_
  refine lv_iconst (v := 0) hx hb dX7_empty_21 (by decide) ?_
  refine va_put (D := (dC, dI)) (ci := 6) (v := .int ((0 : Int32))) (ty := .int) (C := RX7) (T := TX7) (N := 10) hx hb hts inX7 tyX7 tyX7_ok nmX7 hown hK hP hD hS 0 rfl rfl 8 (by decide) f43 (fun _ h9 => h9) rfl (by decide +kernel) rfl rfl (Nat.le_of_ble_eq_true rfl) dX7_empty_22 (fun H locs hP hD hS => ?_)
  have hP : va_P (dC, dI) vwCl [(q0, .inr (6, [.ref q1, .ref q2, .ref q3, .ref q4, .ref q5, .ref q6, .int (zz_min (zz_max p1 ((0 : Int32))) ((1024 : Int32))), .int ((0 : Int32)), .int ((0 : Int32)), .int s3])), (q1, .inl (cI, n0, .inl s4)), (q2, .inl (cI, n1, .inl s5)), (q3, .inl (cI, n2, .inl s6)), (q4, .inl (cI, n3, .inl s7)), (q5, .inl (cI, n4, .inl s8)), (q6, .inr (9, [.ref q7, .ref q8, .int s9, .int s10])), (q7, .inl (cI, n5, .inl s11)), (q8, .inl (cI, n6, .inl s12))] _ := hP
  have hD : va_D A [(q0, .inr (6, [.ref q1, .ref q2, .ref q3, .ref q4, .ref q5, .ref q6, .int (zz_min (zz_max p1 ((0 : Int32))) ((1024 : Int32))), .int ((0 : Int32)), .int ((0 : Int32)), .int s3])), (q1, .inl (cI, n0, .inl s4)), (q2, .inl (cI, n1, .inl s5)), (q3, .inl (cI, n2, .inl s6)), (q4, .inl (cI, n3, .inl s7)), (q5, .inl (cI, n4, .inl s8)), (q6, .inr (9, [.ref q7, .ref q8, .int s9, .int s10])), (q7, .inl (cI, n5, .inl s11)), (q8, .inl (cI, n6, .inl s12))] := hD
  refine lv_aload_n hx hb dX7_empty_25 rfl (lv_at hl 0 rfl) ?_
  refine lv_iconst (v := 0) hx hb dX7_empty_26 (by decide) ?_
  refine va_put (D := (dC, dI)) (ci := 6) (v := .int ((0 : Int32))) (ty := .int) (C := RX7) (T := TX7) (N := 10) hx hb hts inX7 tyX7 tyX7_ok nmX7 hown hK hP hD hS 0 rfl rfl 9 (by decide) f46 (fun _ h9 => h9) rfl (by decide +kernel) rfl rfl (Nat.le_of_ble_eq_true rfl) dX7_empty_27 (fun H locs hP hD hS => ?_)
  have hP : va_P (dC, dI) vwCl [(q0, .inr (6, [.ref q1, .ref q2, .ref q3, .ref q4, .ref q5, .ref q6, .int (zz_min (zz_max p1 ((0 : Int32))) ((1024 : Int32))), .int ((0 : Int32)), .int ((0 : Int32)), .int ((0 : Int32))])), (q1, .inl (cI, n0, .inl s4)), (q2, .inl (cI, n1, .inl s5)), (q3, .inl (cI, n2, .inl s6)), (q4, .inl (cI, n3, .inl s7)), (q5, .inl (cI, n4, .inl s8)), (q6, .inr (9, [.ref q7, .ref q8, .int s9, .int s10])), (q7, .inl (cI, n5, .inl s11)), (q8, .inl (cI, n6, .inl s12))] _ := hP
  have hD : va_D A [(q0, .inr (6, [.ref q1, .ref q2, .ref q3, .ref q4, .ref q5, .ref q6, .int (zz_min (zz_max p1 ((0 : Int32))) ((1024 : Int32))), .int ((0 : Int32)), .int ((0 : Int32)), .int ((0 : Int32))])), (q1, .inl (cI, n0, .inl s4)), (q2, .inl (cI, n1, .inl s5)), (q3, .inl (cI, n2, .inl s6)), (q4, .inl (cI, n3, .inl s7)), (q5, .inl (cI, n4, .inl s8)), (q6, .inr (9, [.ref q7, .ref q8, .int s9, .int s10])), (q7, .inl (cI, n5, .inl s11)), (q8, .inl (cI, n6, .inl s12))] := hD
  refine lv_aload_n hx hb dX7_empty_30 rfl (lv_at hl 0 rfl) ?_
  refine va_get (D := (dC, dI)) (ci := 6) (v := .ref q1) (C := RX7) (T := TX7) (N := 10) hx hb hts inX7 hown hK hP 0 rfl rfl 0 (by decide) f9 (fun _ h9 => h9) rfl dX7_empty_31 ?_
  refine lv_iconst (v := (-1)) hx hb dX7_empty_34 (by decide) ?_
  obtain ⟨t_1_0, hc_1, hm⟩ := zz_bind hm
  have hPc := hP.sub (ws' := [(q1, .inl (cI, n0, .inl s4))]) [1] rfl
  have hDc := hD.sub (ws' := [(q1, .inl (cI, n0, .inl s4))]) [1] (by decide) rfl
  have hFc := va_free (wc := [(q1, .inl (cI, n0, .inl s4))]) hD hS hA [1] rfl
  refine va_callv (va_runS (As := [.ref q1, .int ((-1 : Int32))]) (rest := []) hS0 (c_J7_fill_53178 l dC dI cI cJ cZ K q1 n0 s4 ((-1 : Int32)) _ t_1_0 hc_1) (va_cwS 2 hts gX7_empty_J7_fill_53178 rfl rfl rfl (by decide +kernel) ⟨Nat.le_of_ble_eq_true rfl, Nat.le_of_ble_eq_true rfl⟩) (zz_ps hK hPc hDc hN) rfl rfl hl.1 rfl (lv_room (Nat.le_of_ble_eq_true rfl)) dX7_empty_35 ⟨Nat.zero_le _, Nat.zero_le _⟩) hS (fun q _ h => hFc q h) hFc (fun u t H1 locs ht hvm hw hB hz1 hk1 hS => ?_)
  subst hw
  obtain ⟨hP1, hK1, hD1⟩ := hB
  rw [ht] at hP1
  obtain ⟨hP, hD⟩ := va_join (wr := [(q0, .inr (6, [.ref q1, .ref q2, .ref q3, .ref q4, .ref q5, .ref q6, .int (zz_min (zz_max p1 ((0 : Int32))) ((1024 : Int32))), .int ((0 : Int32)), .int ((0 : Int32)), .int ((0 : Int32))])), (q2, .inl (cI, n1, .inl s5)), (q3, .inl (cI, n2, .inl s6)), (q4, .inl (cI, n3, .inl s7)), (q5, .inl (cI, n4, .inl s8)), (q6, .inr (9, [.ref q7, .ref q8, .int s9, .int s10])), (q7, .inl (cI, n5, .inl s11)), (q8, .inl (cI, n6, .inl s12))]) (w1 := [(q1, .inl (cI, n0, .inl t_1_0))]) hP hD [1] [0, 2, 3, 4, 5, 6, 7, 8] rfl rfl (by decide) (by decide) hk1 hFc hP1 hD1
  have hP : va_P (dC, dI) vwCl [(q0, .inr (6, [.ref q1, .ref q2, .ref q3, .ref q4, .ref q5, .ref q6, .int (zz_min (zz_max p1 ((0 : Int32))) ((1024 : Int32))), .int ((0 : Int32)), .int ((0 : Int32)), .int ((0 : Int32))])), (q2, .inl (cI, n1, .inl s5)), (q3, .inl (cI, n2, .inl s6)), (q4, .inl (cI, n3, .inl s7)), (q5, .inl (cI, n4, .inl s8)), (q6, .inr (9, [.ref q7, .ref q8, .int s9, .int s10])), (q7, .inl (cI, n5, .inl s11)), (q8, .inl (cI, n6, .inl s12)), (q1, .inl (cI, n0, .inl t_1_0))] _ := hP
  have hD : va_D A [(q0, .inr (6, [.ref q1, .ref q2, .ref q3, .ref q4, .ref q5, .ref q6, .int (zz_min (zz_max p1 ((0 : Int32))) ((1024 : Int32))), .int ((0 : Int32)), .int ((0 : Int32)), .int ((0 : Int32))])), (q2, .inl (cI, n1, .inl s5)), (q3, .inl (cI, n2, .inl s6)), (q4, .inl (cI, n3, .inl s7)), (q5, .inl (cI, n4, .inl s8)), (q6, .inr (9, [.ref q7, .ref q8, .int s9, .int s10])), (q7, .inl (cI, n5, .inl s11)), (q8, .inl (cI, n6, .inl s12)), (q1, .inl (cI, n0, .inl t_1_0))] := hD
  have hP := hP.sub (ws' := [(q0, .inr (6, [.ref q1, .ref q2, .ref q3, .ref q4, .ref q5, .ref q6, .int (zz_min (zz_max p1 ((0 : Int32))) ((1024 : Int32))), .int ((0 : Int32)), .int ((0 : Int32)), .int ((0 : Int32))])), (q1, .inl (cI, n0, .inl t_1_0)), (q2, .inl (cI, n1, .inl s5)), (q3, .inl (cI, n2, .inl s6)), (q4, .inl (cI, n3, .inl s7)), (q5, .inl (cI, n4, .inl s8)), (q6, .inr (9, [.ref q7, .ref q8, .int s9, .int s10])), (q7, .inl (cI, n5, .inl s11)), (q8, .inl (cI, n6, .inl s12))]) [0, 8, 1, 2, 3, 4, 5, 6, 7] rfl
  have hD := hD.sub (ws' := [(q0, .inr (6, [.ref q1, .ref q2, .ref q3, .ref q4, .ref q5, .ref q6, .int (zz_min (zz_max p1 ((0 : Int32))) ((1024 : Int32))), .int ((0 : Int32)), .int ((0 : Int32)), .int ((0 : Int32))])), (q1, .inl (cI, n0, .inl t_1_0)), (q2, .inl (cI, n1, .inl s5)), (q3, .inl (cI, n2, .inl s6)), (q4, .inl (cI, n3, .inl s7)), (q5, .inl (cI, n4, .inl s8)), (q6, .inr (9, [.ref q7, .ref q8, .int s9, .int s10])), (q7, .inl (cI, n5, .inl s11)), (q8, .inl (cI, n6, .inl s12))]) [0, 8, 1, 2, 3, 4, 5, 6, 7] (by decide) rfl
  have hm := Option.some.inj hm
  exact W.vret hx hb hr (fun t ht hW => ⟨⟨(zz_min (zz_max p1 ((0 : Int32))) ((1024 : Int32)), (0 : Int32), (0 : Int32), (0 : Int32), t_1_0, s5, s6, s7, s8, s9, s10, s11, s12), rfl, hm.symm, by rw [ht]; exact hP, va_K.moved hW.alike hK, hD⟩, hS.F ht⟩) hS.2.2 dX7_empty_38
abbrev rm_X7_words : Room := { frames := 0, cells := 0, slots := 0, locals := 0 }
theorem in_X7_words_X7 : ∀ w ∈ wsX70, w ∈ wsX7_words := by decide +kernel
def m_X7_words (K : Nat) (n0 : Nat) (n1 : Nat) (n2 : Nat) (n3 : Nat) (n4 : Nat) (n5 : Nat) (n6 : Nat) (s0 : Int32) (s1 : Int32) (s2 : Int32) (s3 : Int32) (s4 : Nat → Int32) (s5 : Nat → Int32) (s6 : Nat → Int32) (s7 : Nat → Int32) (s8 : Nat → Int32) (s9 : Int32) (s10 : Int32) (s11 : Nat → Int32) (s12 : Nat → Int32) : Option (Int32 × Int32 × Int32 × Int32 × Int32 × (Nat → Int32) × (Nat → Int32) × (Nat → Int32) × (Nat → Int32) × (Nat → Int32) × Int32 × Int32 × (Nat → Int32) × (Nat → Int32)) :=
  some (s0, (s0, s1, s2, s3, s4, s5, s6, s7, s8, s9, s10, s11, s12))
set_option maxHeartbeats 4000000 in
set_option maxRecDepth 100000 in
theorem c_X7_words (l : Launch) (dC : Nat → ClassId) (dI : Nat → Nat → Nat) (cI cJ cZ : ClassId) (K : Nat) (q0 q1 q2 q3 q4 q5 q6 q7 q8 : Nat) (n0 : Nat) (n1 : Nat) (n2 : Nat) (n3 : Nat) (n4 : Nat) (n5 : Nat) (n6 : Nat) (s0 : Int32) (s1 : Int32) (s2 : Int32) (s3 : Int32) (s4 : Nat → Int32) (s5 : Nat → Int32) (s6 : Nat → Int32) (s7 : Nat → Int32) (s8 : Nat → Int32) (s9 : Int32) (s10 : Int32) (s11 : Nat → Int32) (s12 : Nat → Int32) (sz : Nat) (rv : Int32) (uv : Int32 × Int32 × Int32 × Int32 × (Nat → Int32) × (Nat → Int32) × (Nat → Int32) × (Nat → Int32) × (Nat → Int32) × Int32 × Int32 × (Nat → Int32) × (Nat → Int32)) (hm : m_X7_words K n0 n1 n2 n3 n4 n5 n6 s0 s1 s2 s3 s4 s5 s6 s7 s8 s9 s10 s11 s12 = some (rv, uv)) : Met l yX7_words wsX7_words rm_X7_words (zz_pre dC dI [(cI, .int), (cJ, .long), (cZ, .boolean)] [(q0, .inr (6, [.ref q1, .ref q2, .ref q3, .ref q4, .ref q5, .ref q6, .int s0, .int s1, .int s2, .int s3])), (q1, .inl (cI, n0, .inl s4)), (q2, .inl (cI, n1, .inl s5)), (q3, .inl (cI, n2, .inl s6)), (q4, .inl (cI, n3, .inl s7)), (q5, .inl (cI, n4, .inl s8)), (q6, .inr (9, [.ref q7, .ref q8, .int s9, .int s10])), (q7, .inl (cI, n5, .inl s11)), (q8, .inl (cI, n6, .inl s12))] sz [.ref q0]) (va_Qi (fun r u => rv = r ∧ uv = u) (fun u t => zz_wo dC dI [(cI, .int), (cJ, .long), (cZ, .boolean)] (va_A [(q0, .inr (6, [.ref q1, .ref q2, .ref q3, .ref q4, .ref q5, .ref q6, .int s0, .int s1, .int s2, .int s3])), (q1, .inl (cI, n0, .inl s4)), (q2, .inl (cI, n1, .inl s5)), (q3, .inl (cI, n2, .inl s6)), (q4, .inl (cI, n3, .inl s7)), (q5, .inl (cI, n4, .inl s8)), (q6, .inr (9, [.ref q7, .ref q8, .int s9, .int s10])), (q7, .inl (cI, n5, .inl s11)), (q8, .inl (cI, n6, .inl s12))] sz) (ce_X7 cI cJ cZ q0 q1 q2 q3 q4 q5 q6 q7 q8 n0 n1 n2 n3 n4 n5 n6 u) t) (va_A [(q0, .inr (6, [.ref q1, .ref q2, .ref q3, .ref q4, .ref q5, .ref q6, .int s0, .int s1, .int s2, .int s3])), (q1, .inl (cI, n0, .inl s4)), (q2, .inl (cI, n1, .inl s5)), (q3, .inl (cI, n2, .inl s6)), (q4, .inl (cI, n3, .inl s7)), (q5, .inl (cI, n4, .inl s8)), (q6, .inr (9, [.ref q7, .ref q8, .int s9, .int s10])), (q7, .inl (cI, n5, .inl s11)), (q8, .inl (cI, n6, .inl s12))] sz)) 0 0 (va_A [(q0, .inr (6, [.ref q1, .ref q2, .ref q3, .ref q4, .ref q5, .ref q6, .int s0, .int s1, .int s2, .int s3])), (q1, .inl (cI, n0, .inl s4)), (q2, .inl (cI, n1, .inl s5)), (q3, .inl (cI, n2, .inl s6)), (q4, .inl (cI, n3, .inl s7)), (q5, .inl (cI, n4, .inl s8)), (q6, .inr (9, [.ref q7, .ref q8, .int s9, .int s10])), (q7, .inl (cI, n5, .inl s11)), (q8, .inl (cI, n6, .inl s12))] sz) := by
  refine Met.ofW (cc := cX7_words) (maxL := 1) (ret := (some .int)) (by decide) rfl ?_
  intro p e s m args below meth c s₁ B hml hv
  obtain ⟨rfl, hsz, hP, hK, hD0, hN⟩ := hv
  have hx := B.exec
  have hb := B.bytes
  have hr := B.returns
  have hts := atoms_spec (ws := wsX7_words) B.pre
  have hown : s.vm.findClass RX7 = some m.cls := findClass_of_methodNamed B.named
  have hlocks := B.notSynchronized
  have hS0 : CallFix p m c cX7_words 1 s #[.ref q0] wsX7_words RX7 := ⟨hx, hb, hml, hown, hts⟩
  subst hsz
  have hD := hD0.self (sz := s.heap.size)
  generalize hAe : va_A [(q0, .inr (6, [.ref q1, .ref q2, .ref q3, .ref q4, .ref q5, .ref q6, .int s0, .int s1, .int s2, .int s3])), (q1, .inl (cI, n0, .inl s4)), (q2, .inl (cI, n1, .inl s5)), (q3, .inl (cI, n2, .inl s6)), (q4, .inl (cI, n3, .inl s7)), (q5, .inl (cI, n4, .inl s8)), (q6, .inr (9, [.ref q7, .ref q8, .int s9, .int s10])), (q7, .inl (cI, n5, .inl s11)), (q8, .inl (cI, n6, .inl s12))] s.heap.size = A at hD ⊢
  have hA : ∀ q : Nat, s.heap.size ≤ q → A q := fun q h => by rw [← hAe]; exact Or.inr h
  have hS : va_S A s.heap s.heap [] := va_S.rf
  have hl := lv_entry ([.ref q0]) (n := 1) (Nat.le_of_ble_eq_true rfl)
  rw [lg_entry_eq]
  generalize (lg_sl ([.ref q0]) ++ List.replicate (1 - (lg_sl ([.ref q0])).length) Slot.unset).toArray = ls at hl ⊢
  have hl : lv_has ls 1 [(0, .ref q0)] := hl
  have inX7 := in_X7_words_X7
  have f36 := hts (.fieldLink RX7 36 "RoomForms$Room" "words" "I") (by decide +kernel)
  unfold m_X7_words at hm
  refine lv_aload_n hx hb dX7_words_0 rfl (lv_at hl 0 rfl) ?_
  refine va_get (D := (dC, dI)) (ci := 6) (v := .int s0) (C := RX7) (T := TX7) (N := 10) hx hb hts inX7 hown hK hP 0 rfl rfl 6 (by decide) f36 (fun _ h9 => h9) rfl dX7_words_1 ?_
  have hm := Option.some.inj hm
  exact W.iret (v := s0) hx hb hr (fun t ht hW => ⟨⟨s0, (s0, s1, s2, s3, s4, s5, s6, s7, s8, s9, s10, s11, s12), rfl, ⟨(congrArg (·.1) hm).symm, (congrArg (·.2) hm).symm⟩, by rw [ht]; exact hP, va_K.moved hW.alike hK, hD⟩, hS.F ht⟩) hS.2.2 dX7_words_4
abbrev rm_X7_blocks : Room := { frames := 0, cells := 0, slots := 0, locals := 0 }
theorem in_X7_blocks_X7 : ∀ w ∈ wsX70, w ∈ wsX7_blocks := by decide +kernel
def m_X7_blocks (K : Nat) (n0 : Nat) (n1 : Nat) (n2 : Nat) (n3 : Nat) (n4 : Nat) (n5 : Nat) (n6 : Nat) (s0 : Int32) (s1 : Int32) (s2 : Int32) (s3 : Int32) (s4 : Nat → Int32) (s5 : Nat → Int32) (s6 : Nat → Int32) (s7 : Nat → Int32) (s8 : Nat → Int32) (s9 : Int32) (s10 : Int32) (s11 : Nat → Int32) (s12 : Nat → Int32) : Option (Int32 × Int32 × Int32 × Int32 × Int32 × (Nat → Int32) × (Nat → Int32) × (Nat → Int32) × (Nat → Int32) × (Nat → Int32) × Int32 × Int32 × (Nat → Int32) × (Nat → Int32)) :=
  some (s1, (s0, s1, s2, s3, s4, s5, s6, s7, s8, s9, s10, s11, s12))
set_option maxHeartbeats 4000000 in
set_option maxRecDepth 100000 in
theorem c_X7_blocks (l : Launch) (dC : Nat → ClassId) (dI : Nat → Nat → Nat) (cI cJ cZ : ClassId) (K : Nat) (q0 q1 q2 q3 q4 q5 q6 q7 q8 : Nat) (n0 : Nat) (n1 : Nat) (n2 : Nat) (n3 : Nat) (n4 : Nat) (n5 : Nat) (n6 : Nat) (s0 : Int32) (s1 : Int32) (s2 : Int32) (s3 : Int32) (s4 : Nat → Int32) (s5 : Nat → Int32) (s6 : Nat → Int32) (s7 : Nat → Int32) (s8 : Nat → Int32) (s9 : Int32) (s10 : Int32) (s11 : Nat → Int32) (s12 : Nat → Int32) (sz : Nat) (rv : Int32) (uv : Int32 × Int32 × Int32 × Int32 × (Nat → Int32) × (Nat → Int32) × (Nat → Int32) × (Nat → Int32) × (Nat → Int32) × Int32 × Int32 × (Nat → Int32) × (Nat → Int32)) (hm : m_X7_blocks K n0 n1 n2 n3 n4 n5 n6 s0 s1 s2 s3 s4 s5 s6 s7 s8 s9 s10 s11 s12 = some (rv, uv)) : Met l yX7_blocks wsX7_blocks rm_X7_blocks (zz_pre dC dI [(cI, .int), (cJ, .long), (cZ, .boolean)] [(q0, .inr (6, [.ref q1, .ref q2, .ref q3, .ref q4, .ref q5, .ref q6, .int s0, .int s1, .int s2, .int s3])), (q1, .inl (cI, n0, .inl s4)), (q2, .inl (cI, n1, .inl s5)), (q3, .inl (cI, n2, .inl s6)), (q4, .inl (cI, n3, .inl s7)), (q5, .inl (cI, n4, .inl s8)), (q6, .inr (9, [.ref q7, .ref q8, .int s9, .int s10])), (q7, .inl (cI, n5, .inl s11)), (q8, .inl (cI, n6, .inl s12))] sz [.ref q0]) (va_Qi (fun r u => rv = r ∧ uv = u) (fun u t => zz_wo dC dI [(cI, .int), (cJ, .long), (cZ, .boolean)] (va_A [(q0, .inr (6, [.ref q1, .ref q2, .ref q3, .ref q4, .ref q5, .ref q6, .int s0, .int s1, .int s2, .int s3])), (q1, .inl (cI, n0, .inl s4)), (q2, .inl (cI, n1, .inl s5)), (q3, .inl (cI, n2, .inl s6)), (q4, .inl (cI, n3, .inl s7)), (q5, .inl (cI, n4, .inl s8)), (q6, .inr (9, [.ref q7, .ref q8, .int s9, .int s10])), (q7, .inl (cI, n5, .inl s11)), (q8, .inl (cI, n6, .inl s12))] sz) (ce_X7 cI cJ cZ q0 q1 q2 q3 q4 q5 q6 q7 q8 n0 n1 n2 n3 n4 n5 n6 u) t) (va_A [(q0, .inr (6, [.ref q1, .ref q2, .ref q3, .ref q4, .ref q5, .ref q6, .int s0, .int s1, .int s2, .int s3])), (q1, .inl (cI, n0, .inl s4)), (q2, .inl (cI, n1, .inl s5)), (q3, .inl (cI, n2, .inl s6)), (q4, .inl (cI, n3, .inl s7)), (q5, .inl (cI, n4, .inl s8)), (q6, .inr (9, [.ref q7, .ref q8, .int s9, .int s10])), (q7, .inl (cI, n5, .inl s11)), (q8, .inl (cI, n6, .inl s12))] sz)) 0 0 (va_A [(q0, .inr (6, [.ref q1, .ref q2, .ref q3, .ref q4, .ref q5, .ref q6, .int s0, .int s1, .int s2, .int s3])), (q1, .inl (cI, n0, .inl s4)), (q2, .inl (cI, n1, .inl s5)), (q3, .inl (cI, n2, .inl s6)), (q4, .inl (cI, n3, .inl s7)), (q5, .inl (cI, n4, .inl s8)), (q6, .inr (9, [.ref q7, .ref q8, .int s9, .int s10])), (q7, .inl (cI, n5, .inl s11)), (q8, .inl (cI, n6, .inl s12))] sz) := by
  refine Met.ofW (cc := cX7_blocks) (maxL := 1) (ret := (some .int)) (by decide) rfl ?_
  intro p e s m args below meth c s₁ B hml hv
  obtain ⟨rfl, hsz, hP, hK, hD0, hN⟩ := hv
  have hx := B.exec
  have hb := B.bytes
  have hr := B.returns
  have hts := atoms_spec (ws := wsX7_blocks) B.pre
  have hown : s.vm.findClass RX7 = some m.cls := findClass_of_methodNamed B.named
  have hlocks := B.notSynchronized
  have hS0 : CallFix p m c cX7_blocks 1 s #[.ref q0] wsX7_blocks RX7 := ⟨hx, hb, hml, hown, hts⟩
  subst hsz
  have hD := hD0.self (sz := s.heap.size)
  generalize hAe : va_A [(q0, .inr (6, [.ref q1, .ref q2, .ref q3, .ref q4, .ref q5, .ref q6, .int s0, .int s1, .int s2, .int s3])), (q1, .inl (cI, n0, .inl s4)), (q2, .inl (cI, n1, .inl s5)), (q3, .inl (cI, n2, .inl s6)), (q4, .inl (cI, n3, .inl s7)), (q5, .inl (cI, n4, .inl s8)), (q6, .inr (9, [.ref q7, .ref q8, .int s9, .int s10])), (q7, .inl (cI, n5, .inl s11)), (q8, .inl (cI, n6, .inl s12))] s.heap.size = A at hD ⊢
  have hA : ∀ q : Nat, s.heap.size ≤ q → A q := fun q h => by rw [← hAe]; exact Or.inr h
  have hS : va_S A s.heap s.heap [] := va_S.rf
  have hl := lv_entry ([.ref q0]) (n := 1) (Nat.le_of_ble_eq_true rfl)
  rw [lg_entry_eq]
  generalize (lg_sl ([.ref q0]) ++ List.replicate (1 - (lg_sl ([.ref q0])).length) Slot.unset).toArray = ls at hl ⊢
  have hl : lv_has ls 1 [(0, .ref q0)] := hl
  have inX7 := in_X7_blocks_X7
  have f40 := hts (.fieldLink RX7 40 "RoomForms$Room" "blocks" "I") (by decide +kernel)
  unfold m_X7_blocks at hm
  refine lv_aload_n hx hb dX7_blocks_0 rfl (lv_at hl 0 rfl) ?_
  refine va_get (D := (dC, dI)) (ci := 6) (v := .int s1) (C := RX7) (T := TX7) (N := 10) hx hb hts inX7 hown hK hP 0 rfl rfl 7 (by decide) f40 (fun _ h9 => h9) rfl dX7_blocks_1 ?_
  have hm := Option.some.inj hm
  exact W.iret (v := s1) hx hb hr (fun t ht hW => ⟨⟨s1, (s0, s1, s2, s3, s4, s5, s6, s7, s8, s9, s10, s11, s12), rfl, ⟨(congrArg (·.1) hm).symm, (congrArg (·.2) hm).symm⟩, by rw [ht]; exact hP, va_K.moved hW.alike hK, hD⟩, hS.F ht⟩) hS.2.2 dX7_blocks_4
abbrev rm_X7_given : Room := { frames := 0, cells := 0, slots := 0, locals := 0 }
theorem in_X7_given_X7 : ∀ w ∈ wsX70, w ∈ wsX7_given := by decide +kernel
def m_X7_given (K : Nat) (n0 : Nat) (n1 : Nat) (n2 : Nat) (n3 : Nat) (n4 : Nat) (n5 : Nat) (n6 : Nat) (s0 : Int32) (s1 : Int32) (s2 : Int32) (s3 : Int32) (s4 : Nat → Int32) (s5 : Nat → Int32) (s6 : Nat → Int32) (s7 : Nat → Int32) (s8 : Nat → Int32) (s9 : Int32) (s10 : Int32) (s11 : Nat → Int32) (s12 : Nat → Int32) : Option (Int32 × Int32 × Int32 × Int32 × Int32 × (Nat → Int32) × (Nat → Int32) × (Nat → Int32) × (Nat → Int32) × (Nat → Int32) × Int32 × Int32 × (Nat → Int32) × (Nat → Int32)) :=
  some (s2, (s0, s1, s2, s3, s4, s5, s6, s7, s8, s9, s10, s11, s12))
set_option maxHeartbeats 4000000 in
set_option maxRecDepth 100000 in
theorem c_X7_given (l : Launch) (dC : Nat → ClassId) (dI : Nat → Nat → Nat) (cI cJ cZ : ClassId) (K : Nat) (q0 q1 q2 q3 q4 q5 q6 q7 q8 : Nat) (n0 : Nat) (n1 : Nat) (n2 : Nat) (n3 : Nat) (n4 : Nat) (n5 : Nat) (n6 : Nat) (s0 : Int32) (s1 : Int32) (s2 : Int32) (s3 : Int32) (s4 : Nat → Int32) (s5 : Nat → Int32) (s6 : Nat → Int32) (s7 : Nat → Int32) (s8 : Nat → Int32) (s9 : Int32) (s10 : Int32) (s11 : Nat → Int32) (s12 : Nat → Int32) (sz : Nat) (rv : Int32) (uv : Int32 × Int32 × Int32 × Int32 × (Nat → Int32) × (Nat → Int32) × (Nat → Int32) × (Nat → Int32) × (Nat → Int32) × Int32 × Int32 × (Nat → Int32) × (Nat → Int32)) (hm : m_X7_given K n0 n1 n2 n3 n4 n5 n6 s0 s1 s2 s3 s4 s5 s6 s7 s8 s9 s10 s11 s12 = some (rv, uv)) : Met l yX7_given wsX7_given rm_X7_given (zz_pre dC dI [(cI, .int), (cJ, .long), (cZ, .boolean)] [(q0, .inr (6, [.ref q1, .ref q2, .ref q3, .ref q4, .ref q5, .ref q6, .int s0, .int s1, .int s2, .int s3])), (q1, .inl (cI, n0, .inl s4)), (q2, .inl (cI, n1, .inl s5)), (q3, .inl (cI, n2, .inl s6)), (q4, .inl (cI, n3, .inl s7)), (q5, .inl (cI, n4, .inl s8)), (q6, .inr (9, [.ref q7, .ref q8, .int s9, .int s10])), (q7, .inl (cI, n5, .inl s11)), (q8, .inl (cI, n6, .inl s12))] sz [.ref q0]) (va_Qi (fun r u => rv = r ∧ uv = u) (fun u t => zz_wo dC dI [(cI, .int), (cJ, .long), (cZ, .boolean)] (va_A [(q0, .inr (6, [.ref q1, .ref q2, .ref q3, .ref q4, .ref q5, .ref q6, .int s0, .int s1, .int s2, .int s3])), (q1, .inl (cI, n0, .inl s4)), (q2, .inl (cI, n1, .inl s5)), (q3, .inl (cI, n2, .inl s6)), (q4, .inl (cI, n3, .inl s7)), (q5, .inl (cI, n4, .inl s8)), (q6, .inr (9, [.ref q7, .ref q8, .int s9, .int s10])), (q7, .inl (cI, n5, .inl s11)), (q8, .inl (cI, n6, .inl s12))] sz) (ce_X7 cI cJ cZ q0 q1 q2 q3 q4 q5 q6 q7 q8 n0 n1 n2 n3 n4 n5 n6 u) t) (va_A [(q0, .inr (6, [.ref q1, .ref q2, .ref q3, .ref q4, .ref q5, .ref q6, .int s0, .int s1, .int s2, .int s3])), (q1, .inl (cI, n0, .inl s4)), (q2, .inl (cI, n1, .inl s5)), (q3, .inl (cI, n2, .inl s6)), (q4, .inl (cI, n3, .inl s7)), (q5, .inl (cI, n4, .inl s8)), (q6, .inr (9, [.ref q7, .ref q8, .int s9, .int s10])), (q7, .inl (cI, n5, .inl s11)), (q8, .inl (cI, n6, .inl s12))] sz)) 0 0 (va_A [(q0, .inr (6, [.ref q1, .ref q2, .ref q3, .ref q4, .ref q5, .ref q6, .int s0, .int s1, .int s2, .int s3])), (q1, .inl (cI, n0, .inl s4)), (q2, .inl (cI, n1, .inl s5)), (q3, .inl (cI, n2, .inl s6)), (q4, .inl (cI, n3, .inl s7)), (q5, .inl (cI, n4, .inl s8)), (q6, .inr (9, [.ref q7, .ref q8, .int s9, .int s10])), (q7, .inl (cI, n5, .inl s11)), (q8, .inl (cI, n6, .inl s12))] sz) := by
  refine Met.ofW (cc := cX7_given) (maxL := 1) (ret := (some .int)) (by decide) rfl ?_
  intro p e s m args below meth c s₁ B hml hv
  obtain ⟨rfl, hsz, hP, hK, hD0, hN⟩ := hv
  have hx := B.exec
  have hb := B.bytes
  have hr := B.returns
  have hts := atoms_spec (ws := wsX7_given) B.pre
  have hown : s.vm.findClass RX7 = some m.cls := findClass_of_methodNamed B.named
  have hlocks := B.notSynchronized
  have hS0 : CallFix p m c cX7_given 1 s #[.ref q0] wsX7_given RX7 := ⟨hx, hb, hml, hown, hts⟩
  subst hsz
  have hD := hD0.self (sz := s.heap.size)
  generalize hAe : va_A [(q0, .inr (6, [.ref q1, .ref q2, .ref q3, .ref q4, .ref q5, .ref q6, .int s0, .int s1, .int s2, .int s3])), (q1, .inl (cI, n0, .inl s4)), (q2, .inl (cI, n1, .inl s5)), (q3, .inl (cI, n2, .inl s6)), (q4, .inl (cI, n3, .inl s7)), (q5, .inl (cI, n4, .inl s8)), (q6, .inr (9, [.ref q7, .ref q8, .int s9, .int s10])), (q7, .inl (cI, n5, .inl s11)), (q8, .inl (cI, n6, .inl s12))] s.heap.size = A at hD ⊢
  have hA : ∀ q : Nat, s.heap.size ≤ q → A q := fun q h => by rw [← hAe]; exact Or.inr h
  have hS : va_S A s.heap s.heap [] := va_S.rf
  have hl := lv_entry ([.ref q0]) (n := 1) (Nat.le_of_ble_eq_true rfl)
  rw [lg_entry_eq]
  generalize (lg_sl ([.ref q0]) ++ List.replicate (1 - (lg_sl ([.ref q0])).length) Slot.unset).toArray = ls at hl ⊢
  have hl : lv_has ls 1 [(0, .ref q0)] := hl
  have inX7 := in_X7_given_X7
  have f43 := hts (.fieldLink RX7 43 "RoomForms$Room" "given" "I") (by decide +kernel)
  unfold m_X7_given at hm
  refine lv_aload_n hx hb dX7_given_0 rfl (lv_at hl 0 rfl) ?_
  refine va_get (D := (dC, dI)) (ci := 6) (v := .int s2) (C := RX7) (T := TX7) (N := 10) hx hb hts inX7 hown hK hP 0 rfl rfl 8 (by decide) f43 (fun _ h9 => h9) rfl dX7_given_1 ?_
  have hm := Option.some.inj hm
  exact W.iret (v := s2) hx hb hr (fun t ht hW => ⟨⟨s2, (s0, s1, s2, s3, s4, s5, s6, s7, s8, s9, s10, s11, s12), rfl, ⟨(congrArg (·.1) hm).symm, (congrArg (·.2) hm).symm⟩, by rw [ht]; exact hP, va_K.moved hW.alike hK, hD⟩, hS.F ht⟩) hS.2.2 dX7_given_4
abbrev rm_X7_looked : Room := { frames := 0, cells := 0, slots := 0, locals := 0 }
theorem in_X7_looked_X7 : ∀ w ∈ wsX70, w ∈ wsX7_looked := by decide +kernel
def m_X7_looked (K : Nat) (n0 : Nat) (n1 : Nat) (n2 : Nat) (n3 : Nat) (n4 : Nat) (n5 : Nat) (n6 : Nat) (s0 : Int32) (s1 : Int32) (s2 : Int32) (s3 : Int32) (s4 : Nat → Int32) (s5 : Nat → Int32) (s6 : Nat → Int32) (s7 : Nat → Int32) (s8 : Nat → Int32) (s9 : Int32) (s10 : Int32) (s11 : Nat → Int32) (s12 : Nat → Int32) : Option (Int32 × Int32 × Int32 × Int32 × Int32 × (Nat → Int32) × (Nat → Int32) × (Nat → Int32) × (Nat → Int32) × (Nat → Int32) × Int32 × Int32 × (Nat → Int32) × (Nat → Int32)) :=
  some (s3, (s0, s1, s2, s3, s4, s5, s6, s7, s8, s9, s10, s11, s12))
set_option maxHeartbeats 4000000 in
set_option maxRecDepth 100000 in
theorem c_X7_looked (l : Launch) (dC : Nat → ClassId) (dI : Nat → Nat → Nat) (cI cJ cZ : ClassId) (K : Nat) (q0 q1 q2 q3 q4 q5 q6 q7 q8 : Nat) (n0 : Nat) (n1 : Nat) (n2 : Nat) (n3 : Nat) (n4 : Nat) (n5 : Nat) (n6 : Nat) (s0 : Int32) (s1 : Int32) (s2 : Int32) (s3 : Int32) (s4 : Nat → Int32) (s5 : Nat → Int32) (s6 : Nat → Int32) (s7 : Nat → Int32) (s8 : Nat → Int32) (s9 : Int32) (s10 : Int32) (s11 : Nat → Int32) (s12 : Nat → Int32) (sz : Nat) (rv : Int32) (uv : Int32 × Int32 × Int32 × Int32 × (Nat → Int32) × (Nat → Int32) × (Nat → Int32) × (Nat → Int32) × (Nat → Int32) × Int32 × Int32 × (Nat → Int32) × (Nat → Int32)) (hm : m_X7_looked K n0 n1 n2 n3 n4 n5 n6 s0 s1 s2 s3 s4 s5 s6 s7 s8 s9 s10 s11 s12 = some (rv, uv)) : Met l yX7_looked wsX7_looked rm_X7_looked (zz_pre dC dI [(cI, .int), (cJ, .long), (cZ, .boolean)] [(q0, .inr (6, [.ref q1, .ref q2, .ref q3, .ref q4, .ref q5, .ref q6, .int s0, .int s1, .int s2, .int s3])), (q1, .inl (cI, n0, .inl s4)), (q2, .inl (cI, n1, .inl s5)), (q3, .inl (cI, n2, .inl s6)), (q4, .inl (cI, n3, .inl s7)), (q5, .inl (cI, n4, .inl s8)), (q6, .inr (9, [.ref q7, .ref q8, .int s9, .int s10])), (q7, .inl (cI, n5, .inl s11)), (q8, .inl (cI, n6, .inl s12))] sz [.ref q0]) (va_Qi (fun r u => rv = r ∧ uv = u) (fun u t => zz_wo dC dI [(cI, .int), (cJ, .long), (cZ, .boolean)] (va_A [(q0, .inr (6, [.ref q1, .ref q2, .ref q3, .ref q4, .ref q5, .ref q6, .int s0, .int s1, .int s2, .int s3])), (q1, .inl (cI, n0, .inl s4)), (q2, .inl (cI, n1, .inl s5)), (q3, .inl (cI, n2, .inl s6)), (q4, .inl (cI, n3, .inl s7)), (q5, .inl (cI, n4, .inl s8)), (q6, .inr (9, [.ref q7, .ref q8, .int s9, .int s10])), (q7, .inl (cI, n5, .inl s11)), (q8, .inl (cI, n6, .inl s12))] sz) (ce_X7 cI cJ cZ q0 q1 q2 q3 q4 q5 q6 q7 q8 n0 n1 n2 n3 n4 n5 n6 u) t) (va_A [(q0, .inr (6, [.ref q1, .ref q2, .ref q3, .ref q4, .ref q5, .ref q6, .int s0, .int s1, .int s2, .int s3])), (q1, .inl (cI, n0, .inl s4)), (q2, .inl (cI, n1, .inl s5)), (q3, .inl (cI, n2, .inl s6)), (q4, .inl (cI, n3, .inl s7)), (q5, .inl (cI, n4, .inl s8)), (q6, .inr (9, [.ref q7, .ref q8, .int s9, .int s10])), (q7, .inl (cI, n5, .inl s11)), (q8, .inl (cI, n6, .inl s12))] sz)) 0 0 (va_A [(q0, .inr (6, [.ref q1, .ref q2, .ref q3, .ref q4, .ref q5, .ref q6, .int s0, .int s1, .int s2, .int s3])), (q1, .inl (cI, n0, .inl s4)), (q2, .inl (cI, n1, .inl s5)), (q3, .inl (cI, n2, .inl s6)), (q4, .inl (cI, n3, .inl s7)), (q5, .inl (cI, n4, .inl s8)), (q6, .inr (9, [.ref q7, .ref q8, .int s9, .int s10])), (q7, .inl (cI, n5, .inl s11)), (q8, .inl (cI, n6, .inl s12))] sz) := by
  refine Met.ofW (cc := cX7_looked) (maxL := 1) (ret := (some .int)) (by decide) rfl ?_
  intro p e s m args below meth c s₁ B hml hv
  obtain ⟨rfl, hsz, hP, hK, hD0, hN⟩ := hv
  have hx := B.exec
  have hb := B.bytes
  have hr := B.returns
  have hts := atoms_spec (ws := wsX7_looked) B.pre
  have hown : s.vm.findClass RX7 = some m.cls := findClass_of_methodNamed B.named
  have hlocks := B.notSynchronized
  have hS0 : CallFix p m c cX7_looked 1 s #[.ref q0] wsX7_looked RX7 := ⟨hx, hb, hml, hown, hts⟩
  subst hsz
  have hD := hD0.self (sz := s.heap.size)
  generalize hAe : va_A [(q0, .inr (6, [.ref q1, .ref q2, .ref q3, .ref q4, .ref q5, .ref q6, .int s0, .int s1, .int s2, .int s3])), (q1, .inl (cI, n0, .inl s4)), (q2, .inl (cI, n1, .inl s5)), (q3, .inl (cI, n2, .inl s6)), (q4, .inl (cI, n3, .inl s7)), (q5, .inl (cI, n4, .inl s8)), (q6, .inr (9, [.ref q7, .ref q8, .int s9, .int s10])), (q7, .inl (cI, n5, .inl s11)), (q8, .inl (cI, n6, .inl s12))] s.heap.size = A at hD ⊢
  have hA : ∀ q : Nat, s.heap.size ≤ q → A q := fun q h => by rw [← hAe]; exact Or.inr h
  have hS : va_S A s.heap s.heap [] := va_S.rf
  have hl := lv_entry ([.ref q0]) (n := 1) (Nat.le_of_ble_eq_true rfl)
  rw [lg_entry_eq]
  generalize (lg_sl ([.ref q0]) ++ List.replicate (1 - (lg_sl ([.ref q0])).length) Slot.unset).toArray = ls at hl ⊢
  have hl : lv_has ls 1 [(0, .ref q0)] := hl
  have inX7 := in_X7_looked_X7
  have f46 := hts (.fieldLink RX7 46 "RoomForms$Room" "looked" "I") (by decide +kernel)
  unfold m_X7_looked at hm
  refine lv_aload_n hx hb dX7_looked_0 rfl (lv_at hl 0 rfl) ?_
  refine va_get (D := (dC, dI)) (ci := 6) (v := .int s3) (C := RX7) (T := TX7) (N := 10) hx hb hts inX7 hown hK hP 0 rfl rfl 9 (by decide) f46 (fun _ h9 => h9) rfl dX7_looked_1 ?_
  have hm := Option.some.inj hm
  exact W.iret (v := s3) hx hb hr (fun t ht hW => ⟨⟨s3, (s0, s1, s2, s3, s4, s5, s6, s7, s8, s9, s10, s11, s12), rfl, ⟨(congrArg (·.1) hm).symm, (congrArg (·.2) hm).symm⟩, by rw [ht]; exact hP, va_K.moved hW.alike hK, hD⟩, hS.F ht⟩) hS.2.2 dX7_looked_4
abbrev rm_X7_addLooked : Room := { frames := 0, cells := 0, slots := 0, locals := 0 }
theorem in_X7_addLooked_X7 : ∀ w ∈ wsX70, w ∈ wsX7_addLooked := by decide +kernel
def m_X7_addLooked (K : Nat) (n0 : Nat) (n1 : Nat) (n2 : Nat) (n3 : Nat) (n4 : Nat) (n5 : Nat) (n6 : Nat) (p1 : Int32) (s0 : Int32) (s1 : Int32) (s2 : Int32) (s3 : Int32) (s4 : Nat → Int32) (s5 : Nat → Int32) (s6 : Nat → Int32) (s7 : Nat → Int32) (s8 : Nat → Int32) (s9 : Int32) (s10 : Int32) (s11 : Nat → Int32) (s12 : Nat → Int32) : Option (Int32 × Int32 × Int32 × Int32 × (Nat → Int32) × (Nat → Int32) × (Nat → Int32) × (Nat → Int32) × (Nat → Int32) × Int32 × Int32 × (Nat → Int32) × (Nat → Int32)) :=
  some ((s0, s1, s2, s3 + p1, s4, s5, s6, s7, s8, s9, s10, s11, s12))
set_option maxHeartbeats 4000000 in
set_option maxRecDepth 100000 in
theorem c_X7_addLooked (l : Launch) (dC : Nat → ClassId) (dI : Nat → Nat → Nat) (cI cJ cZ : ClassId) (K : Nat) (q0 q1 q2 q3 q4 q5 q6 q7 q8 : Nat) (n0 : Nat) (n1 : Nat) (n2 : Nat) (n3 : Nat) (n4 : Nat) (n5 : Nat) (n6 : Nat) (s0 : Int32) (s1 : Int32) (s2 : Int32) (s3 : Int32) (s4 : Nat → Int32) (s5 : Nat → Int32) (s6 : Nat → Int32) (s7 : Nat → Int32) (s8 : Nat → Int32) (s9 : Int32) (s10 : Int32) (s11 : Nat → Int32) (s12 : Nat → Int32) (p1 : Int32) (sz : Nat) (uv : Int32 × Int32 × Int32 × Int32 × (Nat → Int32) × (Nat → Int32) × (Nat → Int32) × (Nat → Int32) × (Nat → Int32) × Int32 × Int32 × (Nat → Int32) × (Nat → Int32)) (hm : m_X7_addLooked K n0 n1 n2 n3 n4 n5 n6 p1 s0 s1 s2 s3 s4 s5 s6 s7 s8 s9 s10 s11 s12 = some uv) : Met l yX7_addLooked wsX7_addLooked rm_X7_addLooked (zz_pre dC dI [(cI, .int), (cJ, .long), (cZ, .boolean)] [(q0, .inr (6, [.ref q1, .ref q2, .ref q3, .ref q4, .ref q5, .ref q6, .int s0, .int s1, .int s2, .int s3])), (q1, .inl (cI, n0, .inl s4)), (q2, .inl (cI, n1, .inl s5)), (q3, .inl (cI, n2, .inl s6)), (q4, .inl (cI, n3, .inl s7)), (q5, .inl (cI, n4, .inl s8)), (q6, .inr (9, [.ref q7, .ref q8, .int s9, .int s10])), (q7, .inl (cI, n5, .inl s11)), (q8, .inl (cI, n6, .inl s12))] sz [.ref q0, .int p1]) (va_Qv (fun u => uv = u) (fun u t => zz_wo dC dI [(cI, .int), (cJ, .long), (cZ, .boolean)] (va_A [(q0, .inr (6, [.ref q1, .ref q2, .ref q3, .ref q4, .ref q5, .ref q6, .int s0, .int s1, .int s2, .int s3])), (q1, .inl (cI, n0, .inl s4)), (q2, .inl (cI, n1, .inl s5)), (q3, .inl (cI, n2, .inl s6)), (q4, .inl (cI, n3, .inl s7)), (q5, .inl (cI, n4, .inl s8)), (q6, .inr (9, [.ref q7, .ref q8, .int s9, .int s10])), (q7, .inl (cI, n5, .inl s11)), (q8, .inl (cI, n6, .inl s12))] sz) (ce_X7 cI cJ cZ q0 q1 q2 q3 q4 q5 q6 q7 q8 n0 n1 n2 n3 n4 n5 n6 u) t) (va_A [(q0, .inr (6, [.ref q1, .ref q2, .ref q3, .ref q4, .ref q5, .ref q6, .int s0, .int s1, .int s2, .int s3])), (q1, .inl (cI, n0, .inl s4)), (q2, .inl (cI, n1, .inl s5)), (q3, .inl (cI, n2, .inl s6)), (q4, .inl (cI, n3, .inl s7)), (q5, .inl (cI, n4, .inl s8)), (q6, .inr (9, [.ref q7, .ref q8, .int s9, .int s10])), (q7, .inl (cI, n5, .inl s11)), (q8, .inl (cI, n6, .inl s12))] sz)) 0 0 (va_A [(q0, .inr (6, [.ref q1, .ref q2, .ref q3, .ref q4, .ref q5, .ref q6, .int s0, .int s1, .int s2, .int s3])), (q1, .inl (cI, n0, .inl s4)), (q2, .inl (cI, n1, .inl s5)), (q3, .inl (cI, n2, .inl s6)), (q4, .inl (cI, n3, .inl s7)), (q5, .inl (cI, n4, .inl s8)), (q6, .inr (9, [.ref q7, .ref q8, .int s9, .int s10])), (q7, .inl (cI, n5, .inl s11)), (q8, .inl (cI, n6, .inl s12))] sz) := by
  refine Met.ofW (cc := cX7_addLooked) (maxL := 2) (ret := none) (by decide) rfl ?_
  intro p e s m args below meth c s₁ B hml hv
  obtain ⟨rfl, hsz, hP, hK, hD0, hN⟩ := hv
  have hx := B.exec
  have hb := B.bytes
  have hr := B.returns
  have hts := atoms_spec (ws := wsX7_addLooked) B.pre
  have hown : s.vm.findClass RX7 = some m.cls := findClass_of_methodNamed B.named
  have hlocks := B.notSynchronized
  have hS0 : CallFix p m c cX7_addLooked 2 s #[.ref q0, .int p1] wsX7_addLooked RX7 := ⟨hx, hb, hml, hown, hts⟩
  subst hsz
  have hD := hD0.self (sz := s.heap.size)
  generalize hAe : va_A [(q0, .inr (6, [.ref q1, .ref q2, .ref q3, .ref q4, .ref q5, .ref q6, .int s0, .int s1, .int s2, .int s3])), (q1, .inl (cI, n0, .inl s4)), (q2, .inl (cI, n1, .inl s5)), (q3, .inl (cI, n2, .inl s6)), (q4, .inl (cI, n3, .inl s7)), (q5, .inl (cI, n4, .inl s8)), (q6, .inr (9, [.ref q7, .ref q8, .int s9, .int s10])), (q7, .inl (cI, n5, .inl s11)), (q8, .inl (cI, n6, .inl s12))] s.heap.size = A at hD ⊢
  have hA : ∀ q : Nat, s.heap.size ≤ q → A q := fun q h => by rw [← hAe]; exact Or.inr h
  have hS : va_S A s.heap s.heap [] := va_S.rf
  have hl := lv_entry ([.ref q0, .int p1]) (n := 2) (Nat.le_of_ble_eq_true rfl)
  rw [lg_entry_eq]
  generalize (lg_sl ([.ref q0, .int p1]) ++ List.replicate (2 - (lg_sl ([.ref q0, .int p1])).length) Slot.unset).toArray = ls at hl ⊢
  have hl : lv_has ls 2 [(0, .ref q0), (1, .int p1)] := hl
  have inX7 := in_X7_addLooked_X7
  have f46 := hts (.fieldLink RX7 46 "RoomForms$Room" "looked" "I") (by decide +kernel)
  unfold m_X7_addLooked at hm
  refine lv_aload_n hx hb dX7_addLooked_0 rfl (lv_at hl 0 rfl) ?_
  refine lv_dup hx hb dX7_addLooked_1 rfl ?_
  refine va_get (D := (dC, dI)) (ci := 6) (v := .int s3) (C := RX7) (T := TX7) (N := 10) hx hb hts inX7 hown hK hP 0 rfl rfl 9 (by decide) f46 (fun _ h9 => h9) rfl dX7_addLooked_2 ?_
  refine lv_iload_n hx hb dX7_addLooked_5 rfl (lv_at hl 1 rfl) ?_
  refine lv_iadd hx hb dX7_addLooked_6 ?_
  refine va_put (D := (dC, dI)) (ci := 6) (v := .int (s3 + p1)) (ty := .int) (C := RX7) (T := TX7) (N := 10) hx hb hts inX7 tyX7 tyX7_ok nmX7 hown hK hP hD hS 0 rfl rfl 9 (by decide) f46 (fun _ h9 => h9) rfl (by decide +kernel) rfl rfl (Nat.le_of_ble_eq_true rfl) dX7_addLooked_7 (fun H locs hP hD hS => ?_)
  have hP : va_P (dC, dI) vwCl [(q0, .inr (6, [.ref q1, .ref q2, .ref q3, .ref q4, .ref q5, .ref q6, .int s0, .int s1, .int s2, .int (s3 + p1)])), (q1, .inl (cI, n0, .inl s4)), (q2, .inl (cI, n1, .inl s5)), (q3, .inl (cI, n2, .inl s6)), (q4, .inl (cI, n3, .inl s7)), (q5, .inl (cI, n4, .inl s8)), (q6, .inr (9, [.ref q7, .ref q8, .int s9, .int s10])), (q7, .inl (cI, n5, .inl s11)), (q8, .inl (cI, n6, .inl s12))] _ := hP
  have hD : va_D A [(q0, .inr (6, [.ref q1, .ref q2, .ref q3, .ref q4, .ref q5, .ref q6, .int s0, .int s1, .int s2, .int (s3 + p1)])), (q1, .inl (cI, n0, .inl s4)), (q2, .inl (cI, n1, .inl s5)), (q3, .inl (cI, n2, .inl s6)), (q4, .inl (cI, n3, .inl s7)), (q5, .inl (cI, n4, .inl s8)), (q6, .inr (9, [.ref q7, .ref q8, .int s9, .int s10])), (q7, .inl (cI, n5, .inl s11)), (q8, .inl (cI, n6, .inl s12))] := hD
  have hm := Option.some.inj hm
  exact W.vret hx hb hr (fun t ht hW => ⟨⟨(s0, s1, s2, s3 + p1, s4, s5, s6, s7, s8, s9, s10, s11, s12), rfl, hm.symm, by rw [ht]; exact hP, va_K.moved hW.alike hK, hD⟩, hS.F ht⟩) hS.2.2 dX7_addLooked_10
abbrev rm_X7_settle : Room := { frames := 2, cells := 0, slots := 0, locals := 46 }
theorem in_X7_settle_X7 : ∀ w ∈ wsX70, w ∈ wsX7_settle := by decide +kernel
def m_X7_settle (K : Nat) (n0 : Nat) (n1 : Nat) (n2 : Nat) (n3 : Nat) (n4 : Nat) (n5 : Nat) (n6 : Nat) (p1 : Int32) (p2 : Int32) (p3 : Int32) (s0 : Int32) (s1 : Int32) (s2 : Int32) (s3 : Int32) (s4 : Nat → Int32) (s5 : Nat → Int32) (s6 : Nat → Int32) (s7 : Nat → Int32) (s8 : Nat → Int32) (s9 : Int32) (s10 : Int32) (s11 : Nat → Int32) (s12 : Nat → Int32) : Option (Int32 × Int32 × Int32 × Int32 × Int32 × (Nat → Int32) × (Nat → Int32) × (Nat → Int32) × (Nat → Int32) × (Nat → Int32) × Int32 × Int32 × (Nat → Int32) × (Nat → Int32)) :=
  if s1 < ((200 : Int32)) then (if ¬ (s1 < 0 ∨ n1 ≤ s1.toNatClampNeg) then (if ¬ (s1 < 0 ∨ n2 ≤ s1.toNatClampNeg) then (if ¬ (s1 < 0 ∨ n3 ≤ s1.toNatClampNeg) then (if ¬ (s1 < 0 ∨ n4 ≤ s1.toNatClampNeg) then (m_X7_mark K n0 n1 n2 n3 n4 n5 n6 p1 p2 s2 s0 (s1 + ((1 : Int32))) (s2 + ((1 : Int32))) s3 s4 (upd s5 s1.toNatClampNeg s2) (upd s6 s1.toNatClampNeg p1) (upd s7 s1.toNatClampNeg p2) (upd s8 s1.toNatClampNeg p3) s9 s10 s11 s12).bind fun ⟨t_6_0, t_6_1, t_6_2, t_6_3, t_6_4, t_6_5, t_6_6, t_6_7, t_6_8, t_6_9, t_6_10, t_6_11, t_6_12⟩ => some (s2, (t_6_0, t_6_1, t_6_2, t_6_3, t_6_4, t_6_5, t_6_6, t_6_7, t_6_8, t_6_9, t_6_10, t_6_11, t_6_12)) else none) else none) else none) else none)
  else some ((-1 : Int32), (s0, s1, s2, s3, s4, s5, s6, s7, s8, s9, s10, s11, s12))
set_option maxHeartbeats 4000000 in
set_option maxRecDepth 100000 in
theorem c_X7_settle (l : Launch) (dC : Nat → ClassId) (dI : Nat → Nat → Nat) (cI cJ cZ : ClassId) (K : Nat) (q0 q1 q2 q3 q4 q5 q6 q7 q8 : Nat) (n0 : Nat) (n1 : Nat) (n2 : Nat) (n3 : Nat) (n4 : Nat) (n5 : Nat) (n6 : Nat) (s0 : Int32) (s1 : Int32) (s2 : Int32) (s3 : Int32) (s4 : Nat → Int32) (s5 : Nat → Int32) (s6 : Nat → Int32) (s7 : Nat → Int32) (s8 : Nat → Int32) (s9 : Int32) (s10 : Int32) (s11 : Nat → Int32) (s12 : Nat → Int32) (p1 : Int32) (p2 : Int32) (p3 : Int32) (sz : Nat) (rv : Int32) (uv : Int32 × Int32 × Int32 × Int32 × (Nat → Int32) × (Nat → Int32) × (Nat → Int32) × (Nat → Int32) × (Nat → Int32) × Int32 × Int32 × (Nat → Int32) × (Nat → Int32)) (hm : m_X7_settle K n0 n1 n2 n3 n4 n5 n6 p1 p2 p3 s0 s1 s2 s3 s4 s5 s6 s7 s8 s9 s10 s11 s12 = some (rv, uv)) : Met l yX7_settle wsX7_settle rm_X7_settle (zz_pre dC dI [(cI, .int), (cJ, .long), (cZ, .boolean)] [(q0, .inr (6, [.ref q1, .ref q2, .ref q3, .ref q4, .ref q5, .ref q6, .int s0, .int s1, .int s2, .int s3])), (q1, .inl (cI, n0, .inl s4)), (q2, .inl (cI, n1, .inl s5)), (q3, .inl (cI, n2, .inl s6)), (q4, .inl (cI, n3, .inl s7)), (q5, .inl (cI, n4, .inl s8)), (q6, .inr (9, [.ref q7, .ref q8, .int s9, .int s10])), (q7, .inl (cI, n5, .inl s11)), (q8, .inl (cI, n6, .inl s12))] sz [.ref q0, .int p1, .int p2, .int p3]) (va_Qi (fun r u => rv = r ∧ uv = u) (fun u t => zz_wo dC dI [(cI, .int), (cJ, .long), (cZ, .boolean)] (va_A [(q0, .inr (6, [.ref q1, .ref q2, .ref q3, .ref q4, .ref q5, .ref q6, .int s0, .int s1, .int s2, .int s3])), (q1, .inl (cI, n0, .inl s4)), (q2, .inl (cI, n1, .inl s5)), (q3, .inl (cI, n2, .inl s6)), (q4, .inl (cI, n3, .inl s7)), (q5, .inl (cI, n4, .inl s8)), (q6, .inr (9, [.ref q7, .ref q8, .int s9, .int s10])), (q7, .inl (cI, n5, .inl s11)), (q8, .inl (cI, n6, .inl s12))] sz) (ce_X7 cI cJ cZ q0 q1 q2 q3 q4 q5 q6 q7 q8 n0 n1 n2 n3 n4 n5 n6 u) t) (va_A [(q0, .inr (6, [.ref q1, .ref q2, .ref q3, .ref q4, .ref q5, .ref q6, .int s0, .int s1, .int s2, .int s3])), (q1, .inl (cI, n0, .inl s4)), (q2, .inl (cI, n1, .inl s5)), (q3, .inl (cI, n2, .inl s6)), (q4, .inl (cI, n3, .inl s7)), (q5, .inl (cI, n4, .inl s8)), (q6, .inr (9, [.ref q7, .ref q8, .int s9, .int s10])), (q7, .inl (cI, n5, .inl s11)), (q8, .inl (cI, n6, .inl s12))] sz)) 0 0 (va_A [(q0, .inr (6, [.ref q1, .ref q2, .ref q3, .ref q4, .ref q5, .ref q6, .int s0, .int s1, .int s2, .int s3])), (q1, .inl (cI, n0, .inl s4)), (q2, .inl (cI, n1, .inl s5)), (q3, .inl (cI, n2, .inl s6)), (q4, .inl (cI, n3, .inl s7)), (q5, .inl (cI, n4, .inl s8)), (q6, .inr (9, [.ref q7, .ref q8, .int s9, .int s10])), (q7, .inl (cI, n5, .inl s11)), (q8, .inl (cI, n6, .inl s12))] sz) := by
  refine Met.ofW (cc := cX7_settle) (maxL := 5) (ret := (some .int)) (by decide) rfl ?_
  intro p e s m args below meth c s₁ B hml hv
  obtain ⟨rfl, hsz, hP, hK, hD0, hN⟩ := hv
  have hx := B.exec
  have hb := B.bytes
  have hr := B.returns
  have hts := atoms_spec (ws := wsX7_settle) B.pre
  have hown : s.vm.findClass RX7 = some m.cls := findClass_of_methodNamed B.named
  have hlocks := B.notSynchronized
  have hS0 : CallFix p m c cX7_settle 5 s #[.ref q0, .int p1, .int p2, .int p3] wsX7_settle RX7 := ⟨hx, hb, hml, hown, hts⟩
  subst hsz
  have hD := hD0.self (sz := s.heap.size)
  generalize hAe : va_A [(q0, .inr (6, [.ref q1, .ref q2, .ref q3, .ref q4, .ref q5, .ref q6, .int s0, .int s1, .int s2, .int s3])), (q1, .inl (cI, n0, .inl s4)), (q2, .inl (cI, n1, .inl s5)), (q3, .inl (cI, n2, .inl s6)), (q4, .inl (cI, n3, .inl s7)), (q5, .inl (cI, n4, .inl s8)), (q6, .inr (9, [.ref q7, .ref q8, .int s9, .int s10])), (q7, .inl (cI, n5, .inl s11)), (q8, .inl (cI, n6, .inl s12))] s.heap.size = A at hD ⊢
  have hA : ∀ q : Nat, s.heap.size ≤ q → A q := fun q h => by rw [← hAe]; exact Or.inr h
  have hS : va_S A s.heap s.heap [] := va_S.rf
  have hl := lv_entry ([.ref q0, .int p1, .int p2, .int p3]) (n := 5) (Nat.le_of_ble_eq_true rfl)
  rw [lg_entry_eq]
  generalize (lg_sl ([.ref q0, .int p1, .int p2, .int p3]) ++ List.replicate (5 - (lg_sl ([.ref q0, .int p1, .int p2, .int p3])).length) Slot.unset).toArray = ls at hl ⊢
  have hl : lv_has ls 5 [(0, .ref q0), (1, .int p1), (2, .int p2), (3, .int p3)] := hl
  have inX7 := in_X7_settle_X7
  have f15 := hts (.fieldLink RX7 15 "RoomForms$Room" "numbers" "[I") (by decide +kernel)
  have f18 := hts (.fieldLink RX7 18 "RoomForms$Room" "places" "[I") (by decide +kernel)
  have f21 := hts (.fieldLink RX7 21 "RoomForms$Room" "spans" "[I") (by decide +kernel)
  have f24 := hts (.fieldLink RX7 24 "RoomForms$Room" "asked" "[I") (by decide +kernel)
  have f40 := hts (.fieldLink RX7 40 "RoomForms$Room" "blocks" "I") (by decide +kernel)
  have f43 := hts (.fieldLink RX7 43 "RoomForms$Room" "given" "I") (by decide +kernel)
  unfold m_X7_settle at hm
  refine lv_aload_n hx hb dX7_settle_0 rfl (lv_at hl 0 rfl) ?_
  refine va_get (D := (dC, dI)) (ci := 6) (v := .int s1) (C := RX7) (T := TX7) (N := 10) hx hb hts inX7 hown hK hP 0 rfl rfl 7 (by decide) f40 (fun _ h9 => h9) rfl dX7_settle_1 ?_
  refine lv_sipush (v := 200) hx hb dX7_settle_4 (by decide) ?_
  refine lv_icmp_lt (tgt := 12) hx hb dX7_settle_7 (by decide) (fun c_1 => ?_) (fun c_1 => ?_)
  · replace hm := zz_t c_1 hm
    refine lv_aload_n hx hb dX7_settle_12 rfl (lv_at hl 0 rfl) ?_
    refine va_get (D := (dC, dI)) (ci := 6) (v := .int s2) (C := RX7) (T := TX7) (N := 10) hx hb hts inX7 hown hK hP 0 rfl rfl 8 (by decide) f43 (fun _ h9 => h9) rfl dX7_settle_13 ?_
    refine lv_istore (lv' := [(4, .int s2), (0, .ref q0), (1, .int p1), (2, .int p2), (3, .int p3)]) hx hb dX7_settle_16 hl (by decide) rfl (fun ls hl => ?_)
    refine lv_aload_n hx hb dX7_settle_18 rfl (lv_at hl 1 rfl) ?_
    refine va_get (D := (dC, dI)) (ci := 6) (v := .ref q2) (C := RX7) (T := TX7) (N := 10) hx hb hts inX7 hown hK hP 0 rfl rfl 1 (by decide) f15 (fun _ h9 => h9) rfl dX7_settle_19 ?_
    refine lv_aload_n hx hb dX7_settle_22 rfl (lv_at hl 1 rfl) ?_
    refine va_get (D := (dC, dI)) (ci := 6) (v := .int s1) (C := RX7) (T := TX7) (N := 10) hx hb hts inX7 hown hK hP 0 rfl rfl 7 (by decide) f40 (fun _ h9 => h9) rfl dX7_settle_23 ?_
    refine lv_iload hx hb dX7_settle_26 (lv_at hl 0 rfl) ?_
    obtain ⟨hi_2, hm⟩ := zz_chk hm
    refine va_iast hx hb hK hP hD hS 2 0 rfl rfl (i := s1) hi_2 dX7_settle_28 (fun H locs hP hD hS => ?_)
    have hP : va_P (dC, dI) vwCl [(q0, .inr (6, [.ref q1, .ref q2, .ref q3, .ref q4, .ref q5, .ref q6, .int s0, .int s1, .int s2, .int s3])), (q1, .inl (cI, n0, .inl s4)), (q2, .inl (cI, n1, .inl (upd s5 s1.toNatClampNeg s2))), (q3, .inl (cI, n2, .inl s6)), (q4, .inl (cI, n3, .inl s7)), (q5, .inl (cI, n4, .inl s8)), (q6, .inr (9, [.ref q7, .ref q8, .int s9, .int s10])), (q7, .inl (cI, n5, .inl s11)), (q8, .inl (cI, n6, .inl s12))] _ := hP
    have hD : va_D A [(q0, .inr (6, [.ref q1, .ref q2, .ref q3, .ref q4, .ref q5, .ref q6, .int s0, .int s1, .int s2, .int s3])), (q1, .inl (cI, n0, .inl s4)), (q2, .inl (cI, n1, .inl (upd s5 s1.toNatClampNeg s2))), (q3, .inl (cI, n2, .inl s6)), (q4, .inl (cI, n3, .inl s7)), (q5, .inl (cI, n4, .inl s8)), (q6, .inr (9, [.ref q7, .ref q8, .int s9, .int s10])), (q7, .inl (cI, n5, .inl s11)), (q8, .inl (cI, n6, .inl s12))] := hD
    refine lv_aload_n hx hb dX7_settle_29 rfl (lv_at hl 1 rfl) ?_
    refine va_get (D := (dC, dI)) (ci := 6) (v := .ref q3) (C := RX7) (T := TX7) (N := 10) hx hb hts inX7 hown hK hP 0 rfl rfl 2 (by decide) f18 (fun _ h9 => h9) rfl dX7_settle_30 ?_
    refine lv_aload_n hx hb dX7_settle_33 rfl (lv_at hl 1 rfl) ?_
    refine va_get (D := (dC, dI)) (ci := 6) (v := .int s1) (C := RX7) (T := TX7) (N := 10) hx hb hts inX7 hown hK hP 0 rfl rfl 7 (by decide) f40 (fun _ h9 => h9) rfl dX7_settle_34 ?_
    refine lv_iload_n hx hb dX7_settle_37 rfl (lv_at hl 2 rfl) ?_
    obtain ⟨hi_3, hm⟩ := zz_chk hm
    refine va_iast hx hb hK hP hD hS 3 0 rfl rfl (i := s1) hi_3 dX7_settle_38 (fun H locs hP hD hS => ?_)
    have hP : va_P (dC, dI) vwCl [(q0, .inr (6, [.ref q1, .ref q2, .ref q3, .ref q4, .ref q5, .ref q6, .int s0, .int s1, .int s2, .int s3])), (q1, .inl (cI, n0, .inl s4)), (q2, .inl (cI, n1, .inl (upd s5 s1.toNatClampNeg s2))), (q3, .inl (cI, n2, .inl (upd s6 s1.toNatClampNeg p1))), (q4, .inl (cI, n3, .inl s7)), (q5, .inl (cI, n4, .inl s8)), (q6, .inr (9, [.ref q7, .ref q8, .int s9, .int s10])), (q7, .inl (cI, n5, .inl s11)), (q8, .inl (cI, n6, .inl s12))] _ := hP
    have hD : va_D A [(q0, .inr (6, [.ref q1, .ref q2, .ref q3, .ref q4, .ref q5, .ref q6, .int s0, .int s1, .int s2, .int s3])), (q1, .inl (cI, n0, .inl s4)), (q2, .inl (cI, n1, .inl (upd s5 s1.toNatClampNeg s2))), (q3, .inl (cI, n2, .inl (upd s6 s1.toNatClampNeg p1))), (q4, .inl (cI, n3, .inl s7)), (q5, .inl (cI, n4, .inl s8)), (q6, .inr (9, [.ref q7, .ref q8, .int s9, .int s10])), (q7, .inl (cI, n5, .inl s11)), (q8, .inl (cI, n6, .inl s12))] := hD
    refine lv_aload_n hx hb dX7_settle_39 rfl (lv_at hl 1 rfl) ?_
    refine va_get (D := (dC, dI)) (ci := 6) (v := .ref q4) (C := RX7) (T := TX7) (N := 10) hx hb hts inX7 hown hK hP 0 rfl rfl 3 (by decide) f21 (fun _ h9 => h9) rfl dX7_settle_40 ?_
    refine lv_aload_n hx hb dX7_settle_43 rfl (lv_at hl 1 rfl) ?_
    refine va_get (D := (dC, dI)) (ci := 6) (v := .int s1) (C := RX7) (T := TX7) (N := 10) hx hb hts inX7 hown hK hP 0 rfl rfl 7 (by decide) f40 (fun _ h9 => h9) rfl dX7_settle_44 ?_
    refine lv_iload_n hx hb dX7_settle_47 rfl (lv_at hl 3 rfl) ?_
    obtain ⟨hi_4, hm⟩ := zz_chk hm
    refine va_iast hx hb hK hP hD hS 4 0 rfl rfl (i := s1) hi_4 dX7_settle_48 (fun H locs hP hD hS => ?_)
    have hP : va_P (dC, dI) vwCl [(q0, .inr (6, [.ref q1, .ref q2, .ref q3, .ref q4, .ref q5, .ref q6, .int s0, .int s1, .int s2, .int s3])), (q1, .inl (cI, n0, .inl s4)), (q2, .inl (cI, n1, .inl (upd s5 s1.toNatClampNeg s2))), (q3, .inl (cI, n2, .inl (upd s6 s1.toNatClampNeg p1))), (q4, .inl (cI, n3, .inl (upd s7 s1.toNatClampNeg p2))), (q5, .inl (cI, n4, .inl s8)), (q6, .inr (9, [.ref q7, .ref q8, .int s9, .int s10])), (q7, .inl (cI, n5, .inl s11)), (q8, .inl (cI, n6, .inl s12))] _ := hP
    have hD : va_D A [(q0, .inr (6, [.ref q1, .ref q2, .ref q3, .ref q4, .ref q5, .ref q6, .int s0, .int s1, .int s2, .int s3])), (q1, .inl (cI, n0, .inl s4)), (q2, .inl (cI, n1, .inl (upd s5 s1.toNatClampNeg s2))), (q3, .inl (cI, n2, .inl (upd s6 s1.toNatClampNeg p1))), (q4, .inl (cI, n3, .inl (upd s7 s1.toNatClampNeg p2))), (q5, .inl (cI, n4, .inl s8)), (q6, .inr (9, [.ref q7, .ref q8, .int s9, .int s10])), (q7, .inl (cI, n5, .inl s11)), (q8, .inl (cI, n6, .inl s12))] := hD
    refine lv_aload_n hx hb dX7_settle_49 rfl (lv_at hl 1 rfl) ?_
    refine va_get (D := (dC, dI)) (ci := 6) (v := .ref q5) (C := RX7) (T := TX7) (N := 10) hx hb hts inX7 hown hK hP 0 rfl rfl 4 (by decide) f24 (fun _ h9 => h9) rfl dX7_settle_50 ?_
    refine lv_aload_n hx hb dX7_settle_53 rfl (lv_at hl 1 rfl) ?_
    refine va_get (D := (dC, dI)) (ci := 6) (v := .int s1) (C := RX7) (T := TX7) (N := 10) hx hb hts inX7 hown hK hP 0 rfl rfl 7 (by decide) f40 (fun _ h9 => h9) rfl dX7_settle_54 ?_
    refine lv_iload_n hx hb dX7_settle_57 rfl (lv_at hl 4 rfl) ?_
    obtain ⟨hi_5, hm⟩ := zz_chk hm
    refine va_iast hx hb hK hP hD hS 5 0 rfl rfl (i := s1) hi_5 dX7_settle_58 (fun H locs hP hD hS => ?_)
    have hP : va_P (dC, dI) vwCl [(q0, .inr (6, [.ref q1, .ref q2, .ref q3, .ref q4, .ref q5, .ref q6, .int s0, .int s1, .int s2, .int s3])), (q1, .inl (cI, n0, .inl s4)), (q2, .inl (cI, n1, .inl (upd s5 s1.toNatClampNeg s2))), (q3, .inl (cI, n2, .inl (upd s6 s1.toNatClampNeg p1))), (q4, .inl (cI, n3, .inl (upd s7 s1.toNatClampNeg p2))), (q5, .inl (cI, n4, .inl (upd s8 s1.toNatClampNeg p3))), (q6, .inr (9, [.ref q7, .ref q8, .int s9, .int s10])), (q7, .inl (cI, n5, .inl s11)), (q8, .inl (cI, n6, .inl s12))] _ := hP
    have hD : va_D A [(q0, .inr (6, [.ref q1, .ref q2, .ref q3, .ref q4, .ref q5, .ref q6, .int s0, .int s1, .int s2, .int s3])), (q1, .inl (cI, n0, .inl s4)), (q2, .inl (cI, n1, .inl (upd s5 s1.toNatClampNeg s2))), (q3, .inl (cI, n2, .inl (upd s6 s1.toNatClampNeg p1))), (q4, .inl (cI, n3, .inl (upd s7 s1.toNatClampNeg p2))), (q5, .inl (cI, n4, .inl (upd s8 s1.toNatClampNeg p3))), (q6, .inr (9, [.ref q7, .ref q8, .int s9, .int s10])), (q7, .inl (cI, n5, .inl s11)), (q8, .inl (cI, n6, .inl s12))] := hD
    refine lv_aload_n hx hb dX7_settle_59 rfl (lv_at hl 1 rfl) ?_
    refine lv_dup hx hb dX7_settle_60 rfl ?_
    refine va_get (D := (dC, dI)) (ci := 6) (v := .int s1) (C := RX7) (T := TX7) (N := 10) hx hb hts inX7 hown hK hP 0 rfl rfl 7 (by decide) f40 (fun _ h9 => h9) rfl dX7_settle_61 ?_
    refine lv_iconst (v := 1) hx hb dX7_settle_64 (by decide) ?_
    refine lv_iadd hx hb dX7_settle_65 ?_
    refine va_put (D := (dC, dI)) (ci := 6) (v := .int (s1 + ((1 : Int32)))) (ty := .int) (C := RX7) (T := TX7) (N := 10) hx hb hts inX7 tyX7 tyX7_ok nmX7 hown hK hP hD hS 0 rfl rfl 7 (by decide) f40 (fun _ h9 => h9) rfl (by decide +kernel) rfl rfl (Nat.le_of_ble_eq_true rfl) dX7_settle_66 (fun H locs hP hD hS => ?_)
    have hP : va_P (dC, dI) vwCl [(q0, .inr (6, [.ref q1, .ref q2, .ref q3, .ref q4, .ref q5, .ref q6, .int s0, .int (s1 + ((1 : Int32))), .int s2, .int s3])), (q1, .inl (cI, n0, .inl s4)), (q2, .inl (cI, n1, .inl (upd s5 s1.toNatClampNeg s2))), (q3, .inl (cI, n2, .inl (upd s6 s1.toNatClampNeg p1))), (q4, .inl (cI, n3, .inl (upd s7 s1.toNatClampNeg p2))), (q5, .inl (cI, n4, .inl (upd s8 s1.toNatClampNeg p3))), (q6, .inr (9, [.ref q7, .ref q8, .int s9, .int s10])), (q7, .inl (cI, n5, .inl s11)), (q8, .inl (cI, n6, .inl s12))] _ := hP
    have hD : va_D A [(q0, .inr (6, [.ref q1, .ref q2, .ref q3, .ref q4, .ref q5, .ref q6, .int s0, .int (s1 + ((1 : Int32))), .int s2, .int s3])), (q1, .inl (cI, n0, .inl s4)), (q2, .inl (cI, n1, .inl (upd s5 s1.toNatClampNeg s2))), (q3, .inl (cI, n2, .inl (upd s6 s1.toNatClampNeg p1))), (q4, .inl (cI, n3, .inl (upd s7 s1.toNatClampNeg p2))), (q5, .inl (cI, n4, .inl (upd s8 s1.toNatClampNeg p3))), (q6, .inr (9, [.ref q7, .ref q8, .int s9, .int s10])), (q7, .inl (cI, n5, .inl s11)), (q8, .inl (cI, n6, .inl s12))] := hD
    refine lv_aload_n hx hb dX7_settle_69 rfl (lv_at hl 1 rfl) ?_
    refine lv_dup hx hb dX7_settle_70 rfl ?_
    refine va_get (D := (dC, dI)) (ci := 6) (v := .int s2) (C := RX7) (T := TX7) (N := 10) hx hb hts inX7 hown hK hP 0 rfl rfl 8 (by decide) f43 (fun _ h9 => h9) rfl dX7_settle_71 ?_
    refine lv_iconst (v := 1) hx hb dX7_settle_74 (by decide) ?_
    refine lv_iadd hx hb dX7_settle_75 ?_
    refine va_put (D := (dC, dI)) (ci := 6) (v := .int (s2 + ((1 : Int32)))) (ty := .int) (C := RX7) (T := TX7) (N := 10) hx hb hts inX7 tyX7 tyX7_ok nmX7 hown hK hP hD hS 0 rfl rfl 8 (by decide) f43 (fun _ h9 => h9) rfl (by decide +kernel) rfl rfl (Nat.le_of_ble_eq_true rfl) dX7_settle_76 (fun H locs hP hD hS => ?_)
    have hP : va_P (dC, dI) vwCl [(q0, .inr (6, [.ref q1, .ref q2, .ref q3, .ref q4, .ref q5, .ref q6, .int s0, .int (s1 + ((1 : Int32))), .int (s2 + ((1 : Int32))), .int s3])), (q1, .inl (cI, n0, .inl s4)), (q2, .inl (cI, n1, .inl (upd s5 s1.toNatClampNeg s2))), (q3, .inl (cI, n2, .inl (upd s6 s1.toNatClampNeg p1))), (q4, .inl (cI, n3, .inl (upd s7 s1.toNatClampNeg p2))), (q5, .inl (cI, n4, .inl (upd s8 s1.toNatClampNeg p3))), (q6, .inr (9, [.ref q7, .ref q8, .int s9, .int s10])), (q7, .inl (cI, n5, .inl s11)), (q8, .inl (cI, n6, .inl s12))] _ := hP
    have hD : va_D A [(q0, .inr (6, [.ref q1, .ref q2, .ref q3, .ref q4, .ref q5, .ref q6, .int s0, .int (s1 + ((1 : Int32))), .int (s2 + ((1 : Int32))), .int s3])), (q1, .inl (cI, n0, .inl s4)), (q2, .inl (cI, n1, .inl (upd s5 s1.toNatClampNeg s2))), (q3, .inl (cI, n2, .inl (upd s6 s1.toNatClampNeg p1))), (q4, .inl (cI, n3, .inl (upd s7 s1.toNatClampNeg p2))), (q5, .inl (cI, n4, .inl (upd s8 s1.toNatClampNeg p3))), (q6, .inr (9, [.ref q7, .ref q8, .int s9, .int s10])), (q7, .inl (cI, n5, .inl s11)), (q8, .inl (cI, n6, .inl s12))] := hD
    refine lv_aload_n hx hb dX7_settle_79 rfl (lv_at hl 1 rfl) ?_
    refine lv_iload_n hx hb dX7_settle_80 rfl (lv_at hl 2 rfl) ?_
    refine lv_iload_n hx hb dX7_settle_81 rfl (lv_at hl 3 rfl) ?_
    refine lv_iload hx hb dX7_settle_82 (lv_at hl 0 rfl) ?_
    obtain ⟨⟨t_6_0, t_6_1, t_6_2, t_6_3, t_6_4, t_6_5, t_6_6, t_6_7, t_6_8, t_6_9, t_6_10, t_6_11, t_6_12⟩, hc_6, hm⟩ := zz_bind hm
    have hPc := hP.sub (ws' := [(q0, .inr (6, [.ref q1, .ref q2, .ref q3, .ref q4, .ref q5, .ref q6, .int s0, .int (s1 + ((1 : Int32))), .int (s2 + ((1 : Int32))), .int s3])), (q1, .inl (cI, n0, .inl s4)), (q2, .inl (cI, n1, .inl (upd s5 s1.toNatClampNeg s2))), (q3, .inl (cI, n2, .inl (upd s6 s1.toNatClampNeg p1))), (q4, .inl (cI, n3, .inl (upd s7 s1.toNatClampNeg p2))), (q5, .inl (cI, n4, .inl (upd s8 s1.toNatClampNeg p3))), (q6, .inr (9, [.ref q7, .ref q8, .int s9, .int s10])), (q7, .inl (cI, n5, .inl s11)), (q8, .inl (cI, n6, .inl s12))]) [0, 1, 2, 3, 4, 5, 6, 7, 8] rfl
    have hDc := hD.sub (ws' := [(q0, .inr (6, [.ref q1, .ref q2, .ref q3, .ref q4, .ref q5, .ref q6, .int s0, .int (s1 + ((1 : Int32))), .int (s2 + ((1 : Int32))), .int s3])), (q1, .inl (cI, n0, .inl s4)), (q2, .inl (cI, n1, .inl (upd s5 s1.toNatClampNeg s2))), (q3, .inl (cI, n2, .inl (upd s6 s1.toNatClampNeg p1))), (q4, .inl (cI, n3, .inl (upd s7 s1.toNatClampNeg p2))), (q5, .inl (cI, n4, .inl (upd s8 s1.toNatClampNeg p3))), (q6, .inr (9, [.ref q7, .ref q8, .int s9, .int s10])), (q7, .inl (cI, n5, .inl s11)), (q8, .inl (cI, n6, .inl s12))]) [0, 1, 2, 3, 4, 5, 6, 7, 8] (by decide) rfl
    have hFc := va_free (wc := [(q0, .inr (6, [.ref q1, .ref q2, .ref q3, .ref q4, .ref q5, .ref q6, .int s0, .int (s1 + ((1 : Int32))), .int (s2 + ((1 : Int32))), .int s3])), (q1, .inl (cI, n0, .inl s4)), (q2, .inl (cI, n1, .inl (upd s5 s1.toNatClampNeg s2))), (q3, .inl (cI, n2, .inl (upd s6 s1.toNatClampNeg p1))), (q4, .inl (cI, n3, .inl (upd s7 s1.toNatClampNeg p2))), (q5, .inl (cI, n4, .inl (upd s8 s1.toNatClampNeg p3))), (q6, .inr (9, [.ref q7, .ref q8, .int s9, .int s10])), (q7, .inl (cI, n5, .inl s11)), (q8, .inl (cI, n6, .inl s12))]) hD hS hA [0, 1, 2, 3, 4, 5, 6, 7, 8] rfl
    refine va_callv (va_runV (As := [.int p1, .int p2, .int s2]) (rest := []) hS0 (c_X7_mark l dC dI cI cJ cZ K q0 q1 q2 q3 q4 q5 q6 q7 q8 n0 n1 n2 n3 n4 n5 n6 s0 (s1 + ((1 : Int32))) (s2 + ((1 : Int32))) s3 s4 (upd s5 s1.toNatClampNeg s2) (upd s6 s1.toNatClampNeg p1) (upd s7 s1.toNatClampNeg p2) (upd s8 s1.toNatClampNeg p3) s9 s10 s11 s12 p1 p2 s2 _ (t_6_0, t_6_1, t_6_2, t_6_3, t_6_4, t_6_5, t_6_6, t_6_7, t_6_8, t_6_9, t_6_10, t_6_11, t_6_12) hc_6) (cwV 3 hts gX7_settle_X7_mark rfl rfl rfl (by decide +kernel) ⟨Nat.le_of_ble_eq_true rfl, Nat.le_of_ble_eq_true rfl⟩) (zz_pv hK hPc hDc hN (va_recv hK hPc (ci := 6) (q0 := 0) rfl rfl)) rfl rfl hl.1 rfl (lv_room (Nat.le_of_ble_eq_true rfl)) dX7_settle_84 ⟨Nat.zero_le _, Nat.zero_le _⟩) hS (fun q _ h => hFc q h) hFc (fun u t H1 locs ht hvm hw hB hz1 hk1 hS => ?_)
    subst hw
    obtain ⟨hP1, hK1, hD1⟩ := hB
    rw [ht] at hP1
    obtain ⟨hP, hD⟩ := va_join (wr := []) (w1 := [(q0, .inr (6, [.ref q1, .ref q2, .ref q3, .ref q4, .ref q5, .ref q6, .int t_6_0, .int t_6_1, .int t_6_2, .int t_6_3])), (q1, .inl (cI, n0, .inl t_6_4)), (q2, .inl (cI, n1, .inl t_6_5)), (q3, .inl (cI, n2, .inl t_6_6)), (q4, .inl (cI, n3, .inl t_6_7)), (q5, .inl (cI, n4, .inl t_6_8)), (q6, .inr (9, [.ref q7, .ref q8, .int t_6_9, .int t_6_10])), (q7, .inl (cI, n5, .inl t_6_11)), (q8, .inl (cI, n6, .inl t_6_12))]) hP hD [0, 1, 2, 3, 4, 5, 6, 7, 8] [] rfl rfl (by decide) (by decide) hk1 hFc hP1 hD1
    have hP : va_P (dC, dI) vwCl [(q0, .inr (6, [.ref q1, .ref q2, .ref q3, .ref q4, .ref q5, .ref q6, .int t_6_0, .int t_6_1, .int t_6_2, .int t_6_3])), (q1, .inl (cI, n0, .inl t_6_4)), (q2, .inl (cI, n1, .inl t_6_5)), (q3, .inl (cI, n2, .inl t_6_6)), (q4, .inl (cI, n3, .inl t_6_7)), (q5, .inl (cI, n4, .inl t_6_8)), (q6, .inr (9, [.ref q7, .ref q8, .int t_6_9, .int t_6_10])), (q7, .inl (cI, n5, .inl t_6_11)), (q8, .inl (cI, n6, .inl t_6_12))] _ := hP
    have hD : va_D A [(q0, .inr (6, [.ref q1, .ref q2, .ref q3, .ref q4, .ref q5, .ref q6, .int t_6_0, .int t_6_1, .int t_6_2, .int t_6_3])), (q1, .inl (cI, n0, .inl t_6_4)), (q2, .inl (cI, n1, .inl t_6_5)), (q3, .inl (cI, n2, .inl t_6_6)), (q4, .inl (cI, n3, .inl t_6_7)), (q5, .inl (cI, n4, .inl t_6_8)), (q6, .inr (9, [.ref q7, .ref q8, .int t_6_9, .int t_6_10])), (q7, .inl (cI, n5, .inl t_6_11)), (q8, .inl (cI, n6, .inl t_6_12))] := hD
    refine lv_iload hx hb dX7_settle_87 (lv_at hl 0 rfl) ?_
    have hm := Option.some.inj hm
    exact W.iret (v := s2) hx hb hr (fun t ht hW => ⟨⟨s2, (t_6_0, t_6_1, t_6_2, t_6_3, t_6_4, t_6_5, t_6_6, t_6_7, t_6_8, t_6_9, t_6_10, t_6_11, t_6_12), rfl, ⟨(congrArg (·.1) hm).symm, (congrArg (·.2) hm).symm⟩, by rw [ht]; exact hP, va_K.moved hW.alike hK, hD⟩, hS.F ht⟩) hS.2.2 dX7_settle_89
  · replace hm := zz_f c_1 hm
    refine lv_iconst (v := (-1)) hx hb dX7_settle_10 (by decide) ?_
    have hm := Option.some.inj hm
    exact W.iret (v := (-1 : Int32)) hx hb hr (fun t ht hW => ⟨⟨(-1 : Int32), (s0, s1, s2, s3, s4, s5, s6, s7, s8, s9, s10, s11, s12), rfl, ⟨(congrArg (·.1) hm).symm, (congrArg (·.2) hm).symm⟩, by rw [ht]; exact hP, va_K.moved hW.alike hK, hD⟩, hS.F ht⟩) hS.2.2 dX7_settle_11
abbrev rm_X7_remove : Room := { frames := 2, cells := 0, slots := 0, locals := 46 }
theorem in_X7_remove_X7 : ∀ w ∈ wsX70, w ∈ wsX7_remove := by decide +kernel
def m_X7_remove (K : Nat) (n0 : Nat) (n1 : Nat) (n2 : Nat) (n3 : Nat) (n4 : Nat) (n5 : Nat) (n6 : Nat) (p1 : Int32) (s0 : Int32) (s1 : Int32) (s2 : Int32) (s3 : Int32) (s4 : Nat → Int32) (s5 : Nat → Int32) (s6 : Nat → Int32) (s7 : Nat → Int32) (s8 : Nat → Int32) (s9 : Int32) (s10 : Int32) (s11 : Nat → Int32) (s12 : Nat → Int32) : Option (Int32 × Int32 × Int32 × Int32 × (Nat → Int32) × (Nat → Int32) × (Nat → Int32) × (Nat → Int32) × (Nat → Int32) × Int32 × Int32 × (Nat → Int32) × (Nat → Int32)) :=
  if p1 < 0 then some ((s0, s1, s2, s3, s4, s5, s6, s7, s8, s9, s10, s11, s12))
  else (if p1 < s1 then (if ¬ (p1 < 0 ∨ n2 ≤ p1.toNatClampNeg) then (if ¬ (p1 < 0 ∨ n3 ≤ p1.toNatClampNeg) then (m_X7_mark K n0 n1 n2 n3 n4 n5 n6 (s6 p1.toNatClampNeg) (s7 p1.toNatClampNeg) ((-1 : Int32)) s0 s1 s2 s3 s4 s5 s6 s7 s8 s9 s10 s11 s12).bind fun ⟨t_5_0, t_5_1, t_5_2, t_5_3, t_5_4, t_5_5, t_5_6, t_5_7, t_5_8, t_5_9, t_5_10, t_5_11, t_5_12⟩ => (if ¬ ((t_5_1 - ((1 : Int32))) < 0 ∨ n1 ≤ (t_5_1 - ((1 : Int32))).toNatClampNeg) then (if ¬ (p1 < 0 ∨ n1 ≤ p1.toNatClampNeg) then (if ¬ ((t_5_1 - ((1 : Int32))) < 0 ∨ n2 ≤ (t_5_1 - ((1 : Int32))).toNatClampNeg) then (if ¬ (p1 < 0 ∨ n2 ≤ p1.toNatClampNeg) then (if ¬ ((t_5_1 - ((1 : Int32))) < 0 ∨ n3 ≤ (t_5_1 - ((1 : Int32))).toNatClampNeg) then (if ¬ (p1 < 0 ∨ n3 ≤ p1.toNatClampNeg) then (if ¬ ((t_5_1 - ((1 : Int32))) < 0 ∨ n4 ≤ (t_5_1 - ((1 : Int32))).toNatClampNeg) then (if ¬ (p1 < 0 ∨ n4 ≤ p1.toNatClampNeg) then some ((t_5_0, t_5_1 - ((1 : Int32)), t_5_2, t_5_3, t_5_4, upd t_5_5 p1.toNatClampNeg (t_5_5 (t_5_1 - ((1 : Int32))).toNatClampNeg), upd t_5_6 p1.toNatClampNeg (t_5_6 (t_5_1 - ((1 : Int32))).toNatClampNeg), upd t_5_7 p1.toNatClampNeg (t_5_7 (t_5_1 - ((1 : Int32))).toNatClampNeg), upd t_5_8 p1.toNatClampNeg (t_5_8 (t_5_1 - ((1 : Int32))).toNatClampNeg), t_5_9, t_5_10, t_5_11, t_5_12)) else none) else none) else none) else none) else none) else none) else none) else none) else none) else none)
  else some ((s0, s1, s2, s3, s4, s5, s6, s7, s8, s9, s10, s11, s12)))
set_option maxHeartbeats 4000000 in
set_option maxRecDepth 100000 in
theorem c_X7_remove (l : Launch) (dC : Nat → ClassId) (dI : Nat → Nat → Nat) (cI cJ cZ : ClassId) (K : Nat) (q0 q1 q2 q3 q4 q5 q6 q7 q8 : Nat) (n0 : Nat) (n1 : Nat) (n2 : Nat) (n3 : Nat) (n4 : Nat) (n5 : Nat) (n6 : Nat) (s0 : Int32) (s1 : Int32) (s2 : Int32) (s3 : Int32) (s4 : Nat → Int32) (s5 : Nat → Int32) (s6 : Nat → Int32) (s7 : Nat → Int32) (s8 : Nat → Int32) (s9 : Int32) (s10 : Int32) (s11 : Nat → Int32) (s12 : Nat → Int32) (p1 : Int32) (sz : Nat) (uv : Int32 × Int32 × Int32 × Int32 × (Nat → Int32) × (Nat → Int32) × (Nat → Int32) × (Nat → Int32) × (Nat → Int32) × Int32 × Int32 × (Nat → Int32) × (Nat → Int32)) (hm : m_X7_remove K n0 n1 n2 n3 n4 n5 n6 p1 s0 s1 s2 s3 s4 s5 s6 s7 s8 s9 s10 s11 s12 = some uv) : Met l yX7_remove wsX7_remove rm_X7_remove (zz_pre dC dI [(cI, .int), (cJ, .long), (cZ, .boolean)] [(q0, .inr (6, [.ref q1, .ref q2, .ref q3, .ref q4, .ref q5, .ref q6, .int s0, .int s1, .int s2, .int s3])), (q1, .inl (cI, n0, .inl s4)), (q2, .inl (cI, n1, .inl s5)), (q3, .inl (cI, n2, .inl s6)), (q4, .inl (cI, n3, .inl s7)), (q5, .inl (cI, n4, .inl s8)), (q6, .inr (9, [.ref q7, .ref q8, .int s9, .int s10])), (q7, .inl (cI, n5, .inl s11)), (q8, .inl (cI, n6, .inl s12))] sz [.ref q0, .int p1]) (va_Qv (fun u => uv = u) (fun u t => zz_wo dC dI [(cI, .int), (cJ, .long), (cZ, .boolean)] (va_A [(q0, .inr (6, [.ref q1, .ref q2, .ref q3, .ref q4, .ref q5, .ref q6, .int s0, .int s1, .int s2, .int s3])), (q1, .inl (cI, n0, .inl s4)), (q2, .inl (cI, n1, .inl s5)), (q3, .inl (cI, n2, .inl s6)), (q4, .inl (cI, n3, .inl s7)), (q5, .inl (cI, n4, .inl s8)), (q6, .inr (9, [.ref q7, .ref q8, .int s9, .int s10])), (q7, .inl (cI, n5, .inl s11)), (q8, .inl (cI, n6, .inl s12))] sz) (ce_X7 cI cJ cZ q0 q1 q2 q3 q4 q5 q6 q7 q8 n0 n1 n2 n3 n4 n5 n6 u) t) (va_A [(q0, .inr (6, [.ref q1, .ref q2, .ref q3, .ref q4, .ref q5, .ref q6, .int s0, .int s1, .int s2, .int s3])), (q1, .inl (cI, n0, .inl s4)), (q2, .inl (cI, n1, .inl s5)), (q3, .inl (cI, n2, .inl s6)), (q4, .inl (cI, n3, .inl s7)), (q5, .inl (cI, n4, .inl s8)), (q6, .inr (9, [.ref q7, .ref q8, .int s9, .int s10])), (q7, .inl (cI, n5, .inl s11)), (q8, .inl (cI, n6, .inl s12))] sz)) 0 0 (va_A [(q0, .inr (6, [.ref q1, .ref q2, .ref q3, .ref q4, .ref q5, .ref q6, .int s0, .int s1, .int s2, .int s3])), (q1, .inl (cI, n0, .inl s4)), (q2, .inl (cI, n1, .inl s5)), (q3, .inl (cI, n2, .inl s6)), (q4, .inl (cI, n3, .inl s7)), (q5, .inl (cI, n4, .inl s8)), (q6, .inr (9, [.ref q7, .ref q8, .int s9, .int s10])), (q7, .inl (cI, n5, .inl s11)), (q8, .inl (cI, n6, .inl s12))] sz) := by
  refine Met.ofW (cc := cX7_remove) (maxL := 2) (ret := none) (by decide) rfl ?_
  intro p e s m args below meth c s₁ B hml hv
  obtain ⟨rfl, hsz, hP, hK, hD0, hN⟩ := hv
  have hx := B.exec
  have hb := B.bytes
  have hr := B.returns
  have hts := atoms_spec (ws := wsX7_remove) B.pre
  have hown : s.vm.findClass RX7 = some m.cls := findClass_of_methodNamed B.named
  have hlocks := B.notSynchronized
  have hS0 : CallFix p m c cX7_remove 2 s #[.ref q0, .int p1] wsX7_remove RX7 := ⟨hx, hb, hml, hown, hts⟩
  subst hsz
  have hD := hD0.self (sz := s.heap.size)
  generalize hAe : va_A [(q0, .inr (6, [.ref q1, .ref q2, .ref q3, .ref q4, .ref q5, .ref q6, .int s0, .int s1, .int s2, .int s3])), (q1, .inl (cI, n0, .inl s4)), (q2, .inl (cI, n1, .inl s5)), (q3, .inl (cI, n2, .inl s6)), (q4, .inl (cI, n3, .inl s7)), (q5, .inl (cI, n4, .inl s8)), (q6, .inr (9, [.ref q7, .ref q8, .int s9, .int s10])), (q7, .inl (cI, n5, .inl s11)), (q8, .inl (cI, n6, .inl s12))] s.heap.size = A at hD ⊢
  have hA : ∀ q : Nat, s.heap.size ≤ q → A q := fun q h => by rw [← hAe]; exact Or.inr h
  have hS : va_S A s.heap s.heap [] := va_S.rf
  have hl := lv_entry ([.ref q0, .int p1]) (n := 2) (Nat.le_of_ble_eq_true rfl)
  rw [lg_entry_eq]
  generalize (lg_sl ([.ref q0, .int p1]) ++ List.replicate (2 - (lg_sl ([.ref q0, .int p1])).length) Slot.unset).toArray = ls at hl ⊢
  have hl : lv_has ls 2 [(0, .ref q0), (1, .int p1)] := hl
  have inX7 := in_X7_remove_X7
  have f15 := hts (.fieldLink RX7 15 "RoomForms$Room" "numbers" "[I") (by decide +kernel)
  have f18 := hts (.fieldLink RX7 18 "RoomForms$Room" "places" "[I") (by decide +kernel)
  have f21 := hts (.fieldLink RX7 21 "RoomForms$Room" "spans" "[I") (by decide +kernel)
  have f24 := hts (.fieldLink RX7 24 "RoomForms$Room" "asked" "[I") (by decide +kernel)
  have f40 := hts (.fieldLink RX7 40 "RoomForms$Room" "blocks" "I") (by decide +kernel)
  unfold m_X7_remove at hm
  refine lv_iload_n hx hb dX7_remove_0 rfl (lv_at hl 1 rfl) ?_
  refine lv_if_lt (tgt := 12) hx hb dX7_remove_1 (by decide) (fun c_1 => ?_) (fun c_1 => ?_)
  · replace hm := zz_t c_1 hm
    have hm := Option.some.inj hm
    exact W.vret hx hb hr (fun t ht hW => ⟨⟨(s0, s1, s2, s3, s4, s5, s6, s7, s8, s9, s10, s11, s12), rfl, hm.symm, by rw [ht]; exact hP, va_K.moved hW.alike hK, hD⟩, hS.F ht⟩) hS.2.2 dX7_remove_12
  · replace hm := zz_f c_1 hm
    refine lv_iload_n hx hb dX7_remove_4 rfl (lv_at hl 1 rfl) ?_
    refine lv_aload_n hx hb dX7_remove_5 rfl (lv_at hl 0 rfl) ?_
    refine va_get (D := (dC, dI)) (ci := 6) (v := .int s1) (C := RX7) (T := TX7) (N := 10) hx hb hts inX7 hown hK hP 0 rfl rfl 7 (by decide) f40 (fun _ h9 => h9) rfl dX7_remove_6 ?_
    refine lv_icmp_lt (tgt := 13) hx hb dX7_remove_9 (by decide) (fun c_2 => ?_) (fun c_2 => ?_)
    · replace hm := zz_t c_2 hm
      refine lv_aload_n hx hb dX7_remove_13 rfl (lv_at hl 0 rfl) ?_
      refine lv_aload_n hx hb dX7_remove_14 rfl (lv_at hl 0 rfl) ?_
      refine va_get (D := (dC, dI)) (ci := 6) (v := .ref q3) (C := RX7) (T := TX7) (N := 10) hx hb hts inX7 hown hK hP 0 rfl rfl 2 (by decide) f18 (fun _ h9 => h9) rfl dX7_remove_15 ?_
      refine lv_iload_n hx hb dX7_remove_18 rfl (lv_at hl 1 rfl) ?_
      obtain ⟨hi_3, hm⟩ := zz_chk hm
      refine va_iald hx hb hK hP 3 0 rfl rfl (i := p1) hi_3 dX7_remove_19 ?_
      refine lv_aload_n hx hb dX7_remove_20 rfl (lv_at hl 0 rfl) ?_
      refine va_get (D := (dC, dI)) (ci := 6) (v := .ref q4) (C := RX7) (T := TX7) (N := 10) hx hb hts inX7 hown hK hP 0 rfl rfl 3 (by decide) f21 (fun _ h9 => h9) rfl dX7_remove_21 ?_
      refine lv_iload_n hx hb dX7_remove_24 rfl (lv_at hl 1 rfl) ?_
      obtain ⟨hi_4, hm⟩ := zz_chk hm
      refine va_iald hx hb hK hP 4 0 rfl rfl (i := p1) hi_4 dX7_remove_25 ?_
      refine lv_iconst (v := (-1)) hx hb dX7_remove_26 (by decide) ?_
      obtain ⟨⟨t_5_0, t_5_1, t_5_2, t_5_3, t_5_4, t_5_5, t_5_6, t_5_7, t_5_8, t_5_9, t_5_10, t_5_11, t_5_12⟩, hc_5, hm⟩ := zz_bind hm
      have hPc := hP.sub (ws' := [(q0, .inr (6, [.ref q1, .ref q2, .ref q3, .ref q4, .ref q5, .ref q6, .int s0, .int s1, .int s2, .int s3])), (q1, .inl (cI, n0, .inl s4)), (q2, .inl (cI, n1, .inl s5)), (q3, .inl (cI, n2, .inl s6)), (q4, .inl (cI, n3, .inl s7)), (q5, .inl (cI, n4, .inl s8)), (q6, .inr (9, [.ref q7, .ref q8, .int s9, .int s10])), (q7, .inl (cI, n5, .inl s11)), (q8, .inl (cI, n6, .inl s12))]) [0, 1, 2, 3, 4, 5, 6, 7, 8] rfl
      have hDc := hD.sub (ws' := [(q0, .inr (6, [.ref q1, .ref q2, .ref q3, .ref q4, .ref q5, .ref q6, .int s0, .int s1, .int s2, .int s3])), (q1, .inl (cI, n0, .inl s4)), (q2, .inl (cI, n1, .inl s5)), (q3, .inl (cI, n2, .inl s6)), (q4, .inl (cI, n3, .inl s7)), (q5, .inl (cI, n4, .inl s8)), (q6, .inr (9, [.ref q7, .ref q8, .int s9, .int s10])), (q7, .inl (cI, n5, .inl s11)), (q8, .inl (cI, n6, .inl s12))]) [0, 1, 2, 3, 4, 5, 6, 7, 8] (by decide) rfl
      have hFc := va_free (wc := [(q0, .inr (6, [.ref q1, .ref q2, .ref q3, .ref q4, .ref q5, .ref q6, .int s0, .int s1, .int s2, .int s3])), (q1, .inl (cI, n0, .inl s4)), (q2, .inl (cI, n1, .inl s5)), (q3, .inl (cI, n2, .inl s6)), (q4, .inl (cI, n3, .inl s7)), (q5, .inl (cI, n4, .inl s8)), (q6, .inr (9, [.ref q7, .ref q8, .int s9, .int s10])), (q7, .inl (cI, n5, .inl s11)), (q8, .inl (cI, n6, .inl s12))]) hD hS hA [0, 1, 2, 3, 4, 5, 6, 7, 8] rfl
      refine va_callv (va_runV (As := [.int (s6 p1.toNatClampNeg), .int (s7 p1.toNatClampNeg), .int ((-1 : Int32))]) (rest := []) hS0 (c_X7_mark l dC dI cI cJ cZ K q0 q1 q2 q3 q4 q5 q6 q7 q8 n0 n1 n2 n3 n4 n5 n6 s0 s1 s2 s3 s4 s5 s6 s7 s8 s9 s10 s11 s12 (s6 p1.toNatClampNeg) (s7 p1.toNatClampNeg) ((-1 : Int32)) _ (t_5_0, t_5_1, t_5_2, t_5_3, t_5_4, t_5_5, t_5_6, t_5_7, t_5_8, t_5_9, t_5_10, t_5_11, t_5_12) hc_5) (cwV 3 hts gX7_remove_X7_mark rfl rfl rfl (by decide +kernel) ⟨Nat.le_of_ble_eq_true rfl, Nat.le_of_ble_eq_true rfl⟩) (zz_pv hK hPc hDc hN (va_recv hK hPc (ci := 6) (q0 := 0) rfl rfl)) rfl rfl hl.1 rfl (lv_room (Nat.le_of_ble_eq_true rfl)) dX7_remove_27 ⟨Nat.zero_le _, Nat.zero_le _⟩) hS (fun q _ h => hFc q h) hFc (fun u t H1 locs ht hvm hw hB hz1 hk1 hS => ?_)
      subst hw
      obtain ⟨hP1, hK1, hD1⟩ := hB
      rw [ht] at hP1
      obtain ⟨hP, hD⟩ := va_join (wr := []) (w1 := [(q0, .inr (6, [.ref q1, .ref q2, .ref q3, .ref q4, .ref q5, .ref q6, .int t_5_0, .int t_5_1, .int t_5_2, .int t_5_3])), (q1, .inl (cI, n0, .inl t_5_4)), (q2, .inl (cI, n1, .inl t_5_5)), (q3, .inl (cI, n2, .inl t_5_6)), (q4, .inl (cI, n3, .inl t_5_7)), (q5, .inl (cI, n4, .inl t_5_8)), (q6, .inr (9, [.ref q7, .ref q8, .int t_5_9, .int t_5_10])), (q7, .inl (cI, n5, .inl t_5_11)), (q8, .inl (cI, n6, .inl t_5_12))]) hP hD [0, 1, 2, 3, 4, 5, 6, 7, 8] [] rfl rfl (by decide) (by decide) hk1 hFc hP1 hD1
      have hP : va_P (dC, dI) vwCl [(q0, .inr (6, [.ref q1, .ref q2, .ref q3, .ref q4, .ref q5, .ref q6, .int t_5_0, .int t_5_1, .int t_5_2, .int t_5_3])), (q1, .inl (cI, n0, .inl t_5_4)), (q2, .inl (cI, n1, .inl t_5_5)), (q3, .inl (cI, n2, .inl t_5_6)), (q4, .inl (cI, n3, .inl t_5_7)), (q5, .inl (cI, n4, .inl t_5_8)), (q6, .inr (9, [.ref q7, .ref q8, .int t_5_9, .int t_5_10])), (q7, .inl (cI, n5, .inl t_5_11)), (q8, .inl (cI, n6, .inl t_5_12))] _ := hP
      have hD : va_D A [(q0, .inr (6, [.ref q1, .ref q2, .ref q3, .ref q4, .ref q5, .ref q6, .int t_5_0, .int t_5_1, .int t_5_2, .int t_5_3])), (q1, .inl (cI, n0, .inl t_5_4)), (q2, .inl (cI, n1, .inl t_5_5)), (q3, .inl (cI, n2, .inl t_5_6)), (q4, .inl (cI, n3, .inl t_5_7)), (q5, .inl (cI, n4, .inl t_5_8)), (q6, .inr (9, [.ref q7, .ref q8, .int t_5_9, .int t_5_10])), (q7, .inl (cI, n5, .inl t_5_11)), (q8, .inl (cI, n6, .inl t_5_12))] := hD
      refine lv_aload_n hx hb dX7_remove_30 rfl (lv_at hl 0 rfl) ?_
      refine lv_dup hx hb dX7_remove_31 rfl ?_
      refine va_get (D := (dC, dI)) (ci := 6) (v := .int t_5_1) (C := RX7) (T := TX7) (N := 10) hx hb hts inX7 hown hK hP 0 rfl rfl 7 (by decide) f40 (fun _ h9 => h9) rfl dX7_remove_32 ?_
      refine lv_iconst (v := 1) hx hb dX7_remove_35 (by decide) ?_
      refine lv_isub hx hb dX7_remove_36 ?_
      refine va_put (D := (dC, dI)) (ci := 6) (v := .int (t_5_1 - ((1 : Int32)))) (ty := .int) (C := RX7) (T := TX7) (N := 10) hx hb hts inX7 tyX7 tyX7_ok nmX7 hown hK hP hD hS 0 rfl rfl 7 (by decide) f40 (fun _ h9 => h9) rfl (by decide +kernel) rfl rfl (Nat.le_of_ble_eq_true rfl) dX7_remove_37 (fun H locs hP hD hS => ?_)
      have hP : va_P (dC, dI) vwCl [(q0, .inr (6, [.ref q1, .ref q2, .ref q3, .ref q4, .ref q5, .ref q6, .int t_5_0, .int (t_5_1 - ((1 : Int32))), .int t_5_2, .int t_5_3])), (q1, .inl (cI, n0, .inl t_5_4)), (q2, .inl (cI, n1, .inl t_5_5)), (q3, .inl (cI, n2, .inl t_5_6)), (q4, .inl (cI, n3, .inl t_5_7)), (q5, .inl (cI, n4, .inl t_5_8)), (q6, .inr (9, [.ref q7, .ref q8, .int t_5_9, .int t_5_10])), (q7, .inl (cI, n5, .inl t_5_11)), (q8, .inl (cI, n6, .inl t_5_12))] _ := hP
      have hD : va_D A [(q0, .inr (6, [.ref q1, .ref q2, .ref q3, .ref q4, .ref q5, .ref q6, .int t_5_0, .int (t_5_1 - ((1 : Int32))), .int t_5_2, .int t_5_3])), (q1, .inl (cI, n0, .inl t_5_4)), (q2, .inl (cI, n1, .inl t_5_5)), (q3, .inl (cI, n2, .inl t_5_6)), (q4, .inl (cI, n3, .inl t_5_7)), (q5, .inl (cI, n4, .inl t_5_8)), (q6, .inr (9, [.ref q7, .ref q8, .int t_5_9, .int t_5_10])), (q7, .inl (cI, n5, .inl t_5_11)), (q8, .inl (cI, n6, .inl t_5_12))] := hD
      refine lv_aload_n hx hb dX7_remove_40 rfl (lv_at hl 0 rfl) ?_
      refine va_get (D := (dC, dI)) (ci := 6) (v := .ref q2) (C := RX7) (T := TX7) (N := 10) hx hb hts inX7 hown hK hP 0 rfl rfl 1 (by decide) f15 (fun _ h9 => h9) rfl dX7_remove_41 ?_
      refine lv_iload_n hx hb dX7_remove_44 rfl (lv_at hl 1 rfl) ?_
      refine lv_aload_n hx hb dX7_remove_45 rfl (lv_at hl 0 rfl) ?_
      refine va_get (D := (dC, dI)) (ci := 6) (v := .ref q2) (C := RX7) (T := TX7) (N := 10) hx hb hts inX7 hown hK hP 0 rfl rfl 1 (by decide) f15 (fun _ h9 => h9) rfl dX7_remove_46 ?_
      refine lv_aload_n hx hb dX7_remove_49 rfl (lv_at hl 0 rfl) ?_
      refine va_get (D := (dC, dI)) (ci := 6) (v := .int (t_5_1 - ((1 : Int32)))) (C := RX7) (T := TX7) (N := 10) hx hb hts inX7 hown hK hP 0 rfl rfl 7 (by decide) f40 (fun _ h9 => h9) rfl dX7_remove_50 ?_
      obtain ⟨hi_6, hm⟩ := zz_chk hm
      refine va_iald hx hb hK hP 2 0 rfl rfl (i := t_5_1 - ((1 : Int32))) hi_6 dX7_remove_53 ?_
      obtain ⟨hi_7, hm⟩ := zz_chk hm
      refine va_iast hx hb hK hP hD hS 2 0 rfl rfl (i := p1) hi_7 dX7_remove_54 (fun H locs hP hD hS => ?_)
      have hP : va_P (dC, dI) vwCl [(q0, .inr (6, [.ref q1, .ref q2, .ref q3, .ref q4, .ref q5, .ref q6, .int t_5_0, .int (t_5_1 - ((1 : Int32))), .int t_5_2, .int t_5_3])), (q1, .inl (cI, n0, .inl t_5_4)), (q2, .inl (cI, n1, .inl (upd t_5_5 p1.toNatClampNeg (t_5_5 (t_5_1 - ((1 : Int32))).toNatClampNeg)))), (q3, .inl (cI, n2, .inl t_5_6)), (q4, .inl (cI, n3, .inl t_5_7)), (q5, .inl (cI, n4, .inl t_5_8)), (q6, .inr (9, [.ref q7, .ref q8, .int t_5_9, .int t_5_10])), (q7, .inl (cI, n5, .inl t_5_11)), (q8, .inl (cI, n6, .inl t_5_12))] _ := hP
      have hD : va_D A [(q0, .inr (6, [.ref q1, .ref q2, .ref q3, .ref q4, .ref q5, .ref q6, .int t_5_0, .int (t_5_1 - ((1 : Int32))), .int t_5_2, .int t_5_3])), (q1, .inl (cI, n0, .inl t_5_4)), (q2, .inl (cI, n1, .inl (upd t_5_5 p1.toNatClampNeg (t_5_5 (t_5_1 - ((1 : Int32))).toNatClampNeg)))), (q3, .inl (cI, n2, .inl t_5_6)), (q4, .inl (cI, n3, .inl t_5_7)), (q5, .inl (cI, n4, .inl t_5_8)), (q6, .inr (9, [.ref q7, .ref q8, .int t_5_9, .int t_5_10])), (q7, .inl (cI, n5, .inl t_5_11)), (q8, .inl (cI, n6, .inl t_5_12))] := hD
      refine lv_aload_n hx hb dX7_remove_55 rfl (lv_at hl 0 rfl) ?_
      refine va_get (D := (dC, dI)) (ci := 6) (v := .ref q3) (C := RX7) (T := TX7) (N := 10) hx hb hts inX7 hown hK hP 0 rfl rfl 2 (by decide) f18 (fun _ h9 => h9) rfl dX7_remove_56 ?_
      refine lv_iload_n hx hb dX7_remove_59 rfl (lv_at hl 1 rfl) ?_
      refine lv_aload_n hx hb dX7_remove_60 rfl (lv_at hl 0 rfl) ?_
      refine va_get (D := (dC, dI)) (ci := 6) (v := .ref q3) (C := RX7) (T := TX7) (N := 10) hx hb hts inX7 hown hK hP 0 rfl rfl 2 (by decide) f18 (fun _ h9 => h9) rfl dX7_remove_61 ?_
      refine lv_aload_n hx hb dX7_remove_64 rfl (lv_at hl 0 rfl) ?_
      refine va_get (D := (dC, dI)) (ci := 6) (v := .int (t_5_1 - ((1 : Int32)))) (C := RX7) (T := TX7) (N := 10) hx hb hts inX7 hown hK hP 0 rfl rfl 7 (by decide) f40 (fun _ h9 => h9) rfl dX7_remove_65 ?_
      obtain ⟨hi_8, hm⟩ := zz_chk hm
      refine va_iald hx hb hK hP 3 0 rfl rfl (i := t_5_1 - ((1 : Int32))) hi_8 dX7_remove_68 ?_
      obtain ⟨hi_9, hm⟩ := zz_chk hm
      refine va_iast hx hb hK hP hD hS 3 0 rfl rfl (i := p1) hi_9 dX7_remove_69 (fun H locs hP hD hS => ?_)
      have hP : va_P (dC, dI) vwCl [(q0, .inr (6, [.ref q1, .ref q2, .ref q3, .ref q4, .ref q5, .ref q6, .int t_5_0, .int (t_5_1 - ((1 : Int32))), .int t_5_2, .int t_5_3])), (q1, .inl (cI, n0, .inl t_5_4)), (q2, .inl (cI, n1, .inl (upd t_5_5 p1.toNatClampNeg (t_5_5 (t_5_1 - ((1 : Int32))).toNatClampNeg)))), (q3, .inl (cI, n2, .inl (upd t_5_6 p1.toNatClampNeg (t_5_6 (t_5_1 - ((1 : Int32))).toNatClampNeg)))), (q4, .inl (cI, n3, .inl t_5_7)), (q5, .inl (cI, n4, .inl t_5_8)), (q6, .inr (9, [.ref q7, .ref q8, .int t_5_9, .int t_5_10])), (q7, .inl (cI, n5, .inl t_5_11)), (q8, .inl (cI, n6, .inl t_5_12))] _ := hP
      have hD : va_D A [(q0, .inr (6, [.ref q1, .ref q2, .ref q3, .ref q4, .ref q5, .ref q6, .int t_5_0, .int (t_5_1 - ((1 : Int32))), .int t_5_2, .int t_5_3])), (q1, .inl (cI, n0, .inl t_5_4)), (q2, .inl (cI, n1, .inl (upd t_5_5 p1.toNatClampNeg (t_5_5 (t_5_1 - ((1 : Int32))).toNatClampNeg)))), (q3, .inl (cI, n2, .inl (upd t_5_6 p1.toNatClampNeg (t_5_6 (t_5_1 - ((1 : Int32))).toNatClampNeg)))), (q4, .inl (cI, n3, .inl t_5_7)), (q5, .inl (cI, n4, .inl t_5_8)), (q6, .inr (9, [.ref q7, .ref q8, .int t_5_9, .int t_5_10])), (q7, .inl (cI, n5, .inl t_5_11)), (q8, .inl (cI, n6, .inl t_5_12))] := hD
      refine lv_aload_n hx hb dX7_remove_70 rfl (lv_at hl 0 rfl) ?_
      refine va_get (D := (dC, dI)) (ci := 6) (v := .ref q4) (C := RX7) (T := TX7) (N := 10) hx hb hts inX7 hown hK hP 0 rfl rfl 3 (by decide) f21 (fun _ h9 => h9) rfl dX7_remove_71 ?_
      refine lv_iload_n hx hb dX7_remove_74 rfl (lv_at hl 1 rfl) ?_
      refine lv_aload_n hx hb dX7_remove_75 rfl (lv_at hl 0 rfl) ?_
      refine va_get (D := (dC, dI)) (ci := 6) (v := .ref q4) (C := RX7) (T := TX7) (N := 10) hx hb hts inX7 hown hK hP 0 rfl rfl 3 (by decide) f21 (fun _ h9 => h9) rfl dX7_remove_76 ?_
      refine lv_aload_n hx hb dX7_remove_79 rfl (lv_at hl 0 rfl) ?_
      refine va_get (D := (dC, dI)) (ci := 6) (v := .int (t_5_1 - ((1 : Int32)))) (C := RX7) (T := TX7) (N := 10) hx hb hts inX7 hown hK hP 0 rfl rfl 7 (by decide) f40 (fun _ h9 => h9) rfl dX7_remove_80 ?_
      obtain ⟨hi_10, hm⟩ := zz_chk hm
      refine va_iald hx hb hK hP 4 0 rfl rfl (i := t_5_1 - ((1 : Int32))) hi_10 dX7_remove_83 ?_
      obtain ⟨hi_11, hm⟩ := zz_chk hm
      refine va_iast hx hb hK hP hD hS 4 0 rfl rfl (i := p1) hi_11 dX7_remove_84 (fun H locs hP hD hS => ?_)
      have hP : va_P (dC, dI) vwCl [(q0, .inr (6, [.ref q1, .ref q2, .ref q3, .ref q4, .ref q5, .ref q6, .int t_5_0, .int (t_5_1 - ((1 : Int32))), .int t_5_2, .int t_5_3])), (q1, .inl (cI, n0, .inl t_5_4)), (q2, .inl (cI, n1, .inl (upd t_5_5 p1.toNatClampNeg (t_5_5 (t_5_1 - ((1 : Int32))).toNatClampNeg)))), (q3, .inl (cI, n2, .inl (upd t_5_6 p1.toNatClampNeg (t_5_6 (t_5_1 - ((1 : Int32))).toNatClampNeg)))), (q4, .inl (cI, n3, .inl (upd t_5_7 p1.toNatClampNeg (t_5_7 (t_5_1 - ((1 : Int32))).toNatClampNeg)))), (q5, .inl (cI, n4, .inl t_5_8)), (q6, .inr (9, [.ref q7, .ref q8, .int t_5_9, .int t_5_10])), (q7, .inl (cI, n5, .inl t_5_11)), (q8, .inl (cI, n6, .inl t_5_12))] _ := hP
      have hD : va_D A [(q0, .inr (6, [.ref q1, .ref q2, .ref q3, .ref q4, .ref q5, .ref q6, .int t_5_0, .int (t_5_1 - ((1 : Int32))), .int t_5_2, .int t_5_3])), (q1, .inl (cI, n0, .inl t_5_4)), (q2, .inl (cI, n1, .inl (upd t_5_5 p1.toNatClampNeg (t_5_5 (t_5_1 - ((1 : Int32))).toNatClampNeg)))), (q3, .inl (cI, n2, .inl (upd t_5_6 p1.toNatClampNeg (t_5_6 (t_5_1 - ((1 : Int32))).toNatClampNeg)))), (q4, .inl (cI, n3, .inl (upd t_5_7 p1.toNatClampNeg (t_5_7 (t_5_1 - ((1 : Int32))).toNatClampNeg)))), (q5, .inl (cI, n4, .inl t_5_8)), (q6, .inr (9, [.ref q7, .ref q8, .int t_5_9, .int t_5_10])), (q7, .inl (cI, n5, .inl t_5_11)), (q8, .inl (cI, n6, .inl t_5_12))] := hD
      refine lv_aload_n hx hb dX7_remove_85 rfl (lv_at hl 0 rfl) ?_
      refine va_get (D := (dC, dI)) (ci := 6) (v := .ref q5) (C := RX7) (T := TX7) (N := 10) hx hb hts inX7 hown hK hP 0 rfl rfl 4 (by decide) f24 (fun _ h9 => h9) rfl dX7_remove_86 ?_
      refine lv_iload_n hx hb dX7_remove_89 rfl (lv_at hl 1 rfl) ?_
      refine lv_aload_n hx hb dX7_remove_90 rfl (lv_at hl 0 rfl) ?_
      refine va_get (D := (dC, dI)) (ci := 6) (v := .ref q5) (C := RX7) (T := TX7) (N := 10) hx hb hts inX7 hown hK hP 0 rfl rfl 4 (by decide) f24 (fun _ h9 => h9) rfl dX7_remove_91 ?_
      refine lv_aload_n hx hb dX7_remove_94 rfl (lv_at hl 0 rfl) ?_
      refine va_get (D := (dC, dI)) (ci := 6) (v := .int (t_5_1 - ((1 : Int32)))) (C := RX7) (T := TX7) (N := 10) hx hb hts inX7 hown hK hP 0 rfl rfl 7 (by decide) f40 (fun _ h9 => h9) rfl dX7_remove_95 ?_
      obtain ⟨hi_12, hm⟩ := zz_chk hm
      refine va_iald hx hb hK hP 5 0 rfl rfl (i := t_5_1 - ((1 : Int32))) hi_12 dX7_remove_98 ?_
      obtain ⟨hi_13, hm⟩ := zz_chk hm
      refine va_iast hx hb hK hP hD hS 5 0 rfl rfl (i := p1) hi_13 dX7_remove_99 (fun H locs hP hD hS => ?_)
      have hP : va_P (dC, dI) vwCl [(q0, .inr (6, [.ref q1, .ref q2, .ref q3, .ref q4, .ref q5, .ref q6, .int t_5_0, .int (t_5_1 - ((1 : Int32))), .int t_5_2, .int t_5_3])), (q1, .inl (cI, n0, .inl t_5_4)), (q2, .inl (cI, n1, .inl (upd t_5_5 p1.toNatClampNeg (t_5_5 (t_5_1 - ((1 : Int32))).toNatClampNeg)))), (q3, .inl (cI, n2, .inl (upd t_5_6 p1.toNatClampNeg (t_5_6 (t_5_1 - ((1 : Int32))).toNatClampNeg)))), (q4, .inl (cI, n3, .inl (upd t_5_7 p1.toNatClampNeg (t_5_7 (t_5_1 - ((1 : Int32))).toNatClampNeg)))), (q5, .inl (cI, n4, .inl (upd t_5_8 p1.toNatClampNeg (t_5_8 (t_5_1 - ((1 : Int32))).toNatClampNeg)))), (q6, .inr (9, [.ref q7, .ref q8, .int t_5_9, .int t_5_10])), (q7, .inl (cI, n5, .inl t_5_11)), (q8, .inl (cI, n6, .inl t_5_12))] _ := hP
      have hD : va_D A [(q0, .inr (6, [.ref q1, .ref q2, .ref q3, .ref q4, .ref q5, .ref q6, .int t_5_0, .int (t_5_1 - ((1 : Int32))), .int t_5_2, .int t_5_3])), (q1, .inl (cI, n0, .inl t_5_4)), (q2, .inl (cI, n1, .inl (upd t_5_5 p1.toNatClampNeg (t_5_5 (t_5_1 - ((1 : Int32))).toNatClampNeg)))), (q3, .inl (cI, n2, .inl (upd t_5_6 p1.toNatClampNeg (t_5_6 (t_5_1 - ((1 : Int32))).toNatClampNeg)))), (q4, .inl (cI, n3, .inl (upd t_5_7 p1.toNatClampNeg (t_5_7 (t_5_1 - ((1 : Int32))).toNatClampNeg)))), (q5, .inl (cI, n4, .inl (upd t_5_8 p1.toNatClampNeg (t_5_8 (t_5_1 - ((1 : Int32))).toNatClampNeg)))), (q6, .inr (9, [.ref q7, .ref q8, .int t_5_9, .int t_5_10])), (q7, .inl (cI, n5, .inl t_5_11)), (q8, .inl (cI, n6, .inl t_5_12))] := hD
      have hm := Option.some.inj hm
      exact W.vret hx hb hr (fun t ht hW => ⟨⟨(t_5_0, t_5_1 - ((1 : Int32)), t_5_2, t_5_3, t_5_4, upd t_5_5 p1.toNatClampNeg (t_5_5 (t_5_1 - ((1 : Int32))).toNatClampNeg), upd t_5_6 p1.toNatClampNeg (t_5_6 (t_5_1 - ((1 : Int32))).toNatClampNeg), upd t_5_7 p1.toNatClampNeg (t_5_7 (t_5_1 - ((1 : Int32))).toNatClampNeg), upd t_5_8 p1.toNatClampNeg (t_5_8 (t_5_1 - ((1 : Int32))).toNatClampNeg), t_5_9, t_5_10, t_5_11, t_5_12), rfl, hm.symm, by rw [ht]; exact hP, va_K.moved hW.alike hK, hD⟩, hS.F ht⟩) hS.2.2 dX7_remove_100
    · replace hm := zz_f c_2 hm
      have hm := Option.some.inj hm
      exact W.vret hx hb hr (fun t ht hW => ⟨⟨(s0, s1, s2, s3, s4, s5, s6, s7, s8, s9, s10, s11, s12), rfl, hm.symm, by rw [ht]; exact hP, va_K.moved hW.alike hK, hD⟩, hS.F ht⟩) hS.2.2 dX7_remove_12
abbrev rm_X7_markQuick : Room := { frames := 2, cells := 0, slots := 0, locals := 46 }
def m_X7_markQuick (K : Nat) (n0 : Nat) (n1 : Nat) (n2 : Nat) (n3 : Nat) (n4 : Nat) (n5 : Nat) (n6 : Nat) (p1 : Int32) (p2 : Int32) (s0 : Int32) (s1 : Int32) (s2 : Int32) (s3 : Int32) (s4 : Nat → Int32) (s5 : Nat → Int32) (s6 : Nat → Int32) (s7 : Nat → Int32) (s8 : Nat → Int32) (s9 : Int32) (s10 : Int32) (s11 : Nat → Int32) (s12 : Nat → Int32) : Option (Int32 × Int32 × Int32 × Int32 × (Nat → Int32) × (Nat → Int32) × (Nat → Int32) × (Nat → Int32) × (Nat → Int32) × Int32 × Int32 × (Nat → Int32) × (Nat → Int32)) :=
  (m_X7_mark K n0 n1 n2 n3 n4 n5 n6 p1 p2 ((-2 : Int32)) s0 s1 s2 s3 s4 s5 s6 s7 s8 s9 s10 s11 s12).bind fun ⟨t_1_0, t_1_1, t_1_2, t_1_3, t_1_4, t_1_5, t_1_6, t_1_7, t_1_8, t_1_9, t_1_10, t_1_11, t_1_12⟩ => some ((t_1_0, t_1_1, t_1_2, t_1_3, t_1_4, t_1_5, t_1_6, t_1_7, t_1_8, t_1_9, t_1_10, t_1_11, t_1_12))
set_option maxHeartbeats 4000000 in
set_option maxRecDepth 100000 in
theorem c_X7_markQuick (l : Launch) (dC : Nat → ClassId) (dI : Nat → Nat → Nat) (cI cJ cZ : ClassId) (K : Nat) (q0 q1 q2 q3 q4 q5 q6 q7 q8 : Nat) (n0 : Nat) (n1 : Nat) (n2 : Nat) (n3 : Nat) (n4 : Nat) (n5 : Nat) (n6 : Nat) (s0 : Int32) (s1 : Int32) (s2 : Int32) (s3 : Int32) (s4 : Nat → Int32) (s5 : Nat → Int32) (s6 : Nat → Int32) (s7 : Nat → Int32) (s8 : Nat → Int32) (s9 : Int32) (s10 : Int32) (s11 : Nat → Int32) (s12 : Nat → Int32) (p1 : Int32) (p2 : Int32) (sz : Nat) (uv : Int32 × Int32 × Int32 × Int32 × (Nat → Int32) × (Nat → Int32) × (Nat → Int32) × (Nat → Int32) × (Nat → Int32) × Int32 × Int32 × (Nat → Int32) × (Nat → Int32)) (hm : m_X7_markQuick K n0 n1 n2 n3 n4 n5 n6 p1 p2 s0 s1 s2 s3 s4 s5 s6 s7 s8 s9 s10 s11 s12 = some uv) : Met l yX7_markQuick wsX7_markQuick rm_X7_markQuick (zz_pre dC dI [(cI, .int), (cJ, .long), (cZ, .boolean)] [(q0, .inr (6, [.ref q1, .ref q2, .ref q3, .ref q4, .ref q5, .ref q6, .int s0, .int s1, .int s2, .int s3])), (q1, .inl (cI, n0, .inl s4)), (q2, .inl (cI, n1, .inl s5)), (q3, .inl (cI, n2, .inl s6)), (q4, .inl (cI, n3, .inl s7)), (q5, .inl (cI, n4, .inl s8)), (q6, .inr (9, [.ref q7, .ref q8, .int s9, .int s10])), (q7, .inl (cI, n5, .inl s11)), (q8, .inl (cI, n6, .inl s12))] sz [.ref q0, .int p1, .int p2]) (va_Qv (fun u => uv = u) (fun u t => zz_wo dC dI [(cI, .int), (cJ, .long), (cZ, .boolean)] (va_A [(q0, .inr (6, [.ref q1, .ref q2, .ref q3, .ref q4, .ref q5, .ref q6, .int s0, .int s1, .int s2, .int s3])), (q1, .inl (cI, n0, .inl s4)), (q2, .inl (cI, n1, .inl s5)), (q3, .inl (cI, n2, .inl s6)), (q4, .inl (cI, n3, .inl s7)), (q5, .inl (cI, n4, .inl s8)), (q6, .inr (9, [.ref q7, .ref q8, .int s9, .int s10])), (q7, .inl (cI, n5, .inl s11)), (q8, .inl (cI, n6, .inl s12))] sz) (ce_X7 cI cJ cZ q0 q1 q2 q3 q4 q5 q6 q7 q8 n0 n1 n2 n3 n4 n5 n6 u) t) (va_A [(q0, .inr (6, [.ref q1, .ref q2, .ref q3, .ref q4, .ref q5, .ref q6, .int s0, .int s1, .int s2, .int s3])), (q1, .inl (cI, n0, .inl s4)), (q2, .inl (cI, n1, .inl s5)), (q3, .inl (cI, n2, .inl s6)), (q4, .inl (cI, n3, .inl s7)), (q5, .inl (cI, n4, .inl s8)), (q6, .inr (9, [.ref q7, .ref q8, .int s9, .int s10])), (q7, .inl (cI, n5, .inl s11)), (q8, .inl (cI, n6, .inl s12))] sz)) 0 0 (va_A [(q0, .inr (6, [.ref q1, .ref q2, .ref q3, .ref q4, .ref q5, .ref q6, .int s0, .int s1, .int s2, .int s3])), (q1, .inl (cI, n0, .inl s4)), (q2, .inl (cI, n1, .inl s5)), (q3, .inl (cI, n2, .inl s6)), (q4, .inl (cI, n3, .inl s7)), (q5, .inl (cI, n4, .inl s8)), (q6, .inr (9, [.ref q7, .ref q8, .int s9, .int s10])), (q7, .inl (cI, n5, .inl s11)), (q8, .inl (cI, n6, .inl s12))] sz) := by
  refine Met.ofW (cc := cX7_markQuick) (maxL := 3) (ret := none) (by decide) rfl ?_
  intro p e s m args below meth c s₁ B hml hv
  obtain ⟨rfl, hsz, hP, hK, hD0, hN⟩ := hv
  have hx := B.exec
  have hb := B.bytes
  have hr := B.returns
  have hts := atoms_spec (ws := wsX7_markQuick) B.pre
  have hown : s.vm.findClass RX7 = some m.cls := findClass_of_methodNamed B.named
  have hlocks := B.notSynchronized
  have hS0 : CallFix p m c cX7_markQuick 3 s #[.ref q0, .int p1, .int p2] wsX7_markQuick RX7 := ⟨hx, hb, hml, hown, hts⟩
  subst hsz
  have hD := hD0.self (sz := s.heap.size)
  generalize hAe : va_A [(q0, .inr (6, [.ref q1, .ref q2, .ref q3, .ref q4, .ref q5, .ref q6, .int s0, .int s1, .int s2, .int s3])), (q1, .inl (cI, n0, .inl s4)), (q2, .inl (cI, n1, .inl s5)), (q3, .inl (cI, n2, .inl s6)), (q4, .inl (cI, n3, .inl s7)), (q5, .inl (cI, n4, .inl s8)), (q6, .inr (9, [.ref q7, .ref q8, .int s9, .int s10])), (q7, .inl (cI, n5, .inl s11)), (q8, .inl (cI, n6, .inl s12))] s.heap.size = A at hD ⊢
  have hA : ∀ q : Nat, s.heap.size ≤ q → A q := fun q h => by rw [← hAe]; exact Or.inr h
  have hS : va_S A s.heap s.heap [] := va_S.rf
  have hl := lv_entry ([.ref q0, .int p1, .int p2]) (n := 3) (Nat.le_of_ble_eq_true rfl)
  rw [lg_entry_eq]
  generalize (lg_sl ([.ref q0, .int p1, .int p2]) ++ List.replicate (3 - (lg_sl ([.ref q0, .int p1, .int p2])).length) Slot.unset).toArray = ls at hl ⊢
  have hl : lv_has ls 3 [(0, .ref q0), (1, .int p1), (2, .int p2)] := hl
  unfold m_X7_markQuick at hm
  refine lv_aload_n hx hb dX7_markQuick_0 rfl (lv_at hl 0 rfl) ?_
  refine lv_iload_n hx hb dX7_markQuick_1 rfl (lv_at hl 1 rfl) ?_
  refine lv_iload_n hx hb dX7_markQuick_2 rfl (lv_at hl 2 rfl) ?_
  refine lv_bipush (v := (-2)) hx hb dX7_markQuick_3 (by decide) ?_
  obtain ⟨⟨t_1_0, t_1_1, t_1_2, t_1_3, t_1_4, t_1_5, t_1_6, t_1_7, t_1_8, t_1_9, t_1_10, t_1_11, t_1_12⟩, hc_1, hm⟩ := zz_bind hm
  have hPc := hP.sub (ws' := [(q0, .inr (6, [.ref q1, .ref q2, .ref q3, .ref q4, .ref q5, .ref q6, .int s0, .int s1, .int s2, .int s3])), (q1, .inl (cI, n0, .inl s4)), (q2, .inl (cI, n1, .inl s5)), (q3, .inl (cI, n2, .inl s6)), (q4, .inl (cI, n3, .inl s7)), (q5, .inl (cI, n4, .inl s8)), (q6, .inr (9, [.ref q7, .ref q8, .int s9, .int s10])), (q7, .inl (cI, n5, .inl s11)), (q8, .inl (cI, n6, .inl s12))]) [0, 1, 2, 3, 4, 5, 6, 7, 8] rfl
  have hDc := hD.sub (ws' := [(q0, .inr (6, [.ref q1, .ref q2, .ref q3, .ref q4, .ref q5, .ref q6, .int s0, .int s1, .int s2, .int s3])), (q1, .inl (cI, n0, .inl s4)), (q2, .inl (cI, n1, .inl s5)), (q3, .inl (cI, n2, .inl s6)), (q4, .inl (cI, n3, .inl s7)), (q5, .inl (cI, n4, .inl s8)), (q6, .inr (9, [.ref q7, .ref q8, .int s9, .int s10])), (q7, .inl (cI, n5, .inl s11)), (q8, .inl (cI, n6, .inl s12))]) [0, 1, 2, 3, 4, 5, 6, 7, 8] (by decide) rfl
  have hFc := va_free (wc := [(q0, .inr (6, [.ref q1, .ref q2, .ref q3, .ref q4, .ref q5, .ref q6, .int s0, .int s1, .int s2, .int s3])), (q1, .inl (cI, n0, .inl s4)), (q2, .inl (cI, n1, .inl s5)), (q3, .inl (cI, n2, .inl s6)), (q4, .inl (cI, n3, .inl s7)), (q5, .inl (cI, n4, .inl s8)), (q6, .inr (9, [.ref q7, .ref q8, .int s9, .int s10])), (q7, .inl (cI, n5, .inl s11)), (q8, .inl (cI, n6, .inl s12))]) hD hS hA [0, 1, 2, 3, 4, 5, 6, 7, 8] rfl
  refine va_callv (va_runV (As := [.int p1, .int p2, .int ((-2 : Int32))]) (rest := []) hS0 (c_X7_mark l dC dI cI cJ cZ K q0 q1 q2 q3 q4 q5 q6 q7 q8 n0 n1 n2 n3 n4 n5 n6 s0 s1 s2 s3 s4 s5 s6 s7 s8 s9 s10 s11 s12 p1 p2 ((-2 : Int32)) _ (t_1_0, t_1_1, t_1_2, t_1_3, t_1_4, t_1_5, t_1_6, t_1_7, t_1_8, t_1_9, t_1_10, t_1_11, t_1_12) hc_1) (cwV 3 hts gX7_markQuick_X7_mark rfl rfl rfl (by decide +kernel) ⟨Nat.le_of_ble_eq_true rfl, Nat.le_of_ble_eq_true rfl⟩) (zz_pv hK hPc hDc hN (va_recv hK hPc (ci := 6) (q0 := 0) rfl rfl)) rfl rfl hl.1 rfl (lv_room (Nat.le_of_ble_eq_true rfl)) dX7_markQuick_5 ⟨Nat.zero_le _, Nat.zero_le _⟩) hS (fun q _ h => hFc q h) hFc (fun u t H1 locs ht hvm hw hB hz1 hk1 hS => ?_)
  subst hw
  obtain ⟨hP1, hK1, hD1⟩ := hB
  rw [ht] at hP1
  obtain ⟨hP, hD⟩ := va_join (wr := []) (w1 := [(q0, .inr (6, [.ref q1, .ref q2, .ref q3, .ref q4, .ref q5, .ref q6, .int t_1_0, .int t_1_1, .int t_1_2, .int t_1_3])), (q1, .inl (cI, n0, .inl t_1_4)), (q2, .inl (cI, n1, .inl t_1_5)), (q3, .inl (cI, n2, .inl t_1_6)), (q4, .inl (cI, n3, .inl t_1_7)), (q5, .inl (cI, n4, .inl t_1_8)), (q6, .inr (9, [.ref q7, .ref q8, .int t_1_9, .int t_1_10])), (q7, .inl (cI, n5, .inl t_1_11)), (q8, .inl (cI, n6, .inl t_1_12))]) hP hD [0, 1, 2, 3, 4, 5, 6, 7, 8] [] rfl rfl (by decide) (by decide) hk1 hFc hP1 hD1
  have hP : va_P (dC, dI) vwCl [(q0, .inr (6, [.ref q1, .ref q2, .ref q3, .ref q4, .ref q5, .ref q6, .int t_1_0, .int t_1_1, .int t_1_2, .int t_1_3])), (q1, .inl (cI, n0, .inl t_1_4)), (q2, .inl (cI, n1, .inl t_1_5)), (q3, .inl (cI, n2, .inl t_1_6)), (q4, .inl (cI, n3, .inl t_1_7)), (q5, .inl (cI, n4, .inl t_1_8)), (q6, .inr (9, [.ref q7, .ref q8, .int t_1_9, .int t_1_10])), (q7, .inl (cI, n5, .inl t_1_11)), (q8, .inl (cI, n6, .inl t_1_12))] _ := hP
  have hD : va_D A [(q0, .inr (6, [.ref q1, .ref q2, .ref q3, .ref q4, .ref q5, .ref q6, .int t_1_0, .int t_1_1, .int t_1_2, .int t_1_3])), (q1, .inl (cI, n0, .inl t_1_4)), (q2, .inl (cI, n1, .inl t_1_5)), (q3, .inl (cI, n2, .inl t_1_6)), (q4, .inl (cI, n3, .inl t_1_7)), (q5, .inl (cI, n4, .inl t_1_8)), (q6, .inr (9, [.ref q7, .ref q8, .int t_1_9, .int t_1_10])), (q7, .inl (cI, n5, .inl t_1_11)), (q8, .inl (cI, n6, .inl t_1_12))] := hD
  have hm := Option.some.inj hm
  exact W.vret hx hb hr (fun t ht hW => ⟨⟨(t_1_0, t_1_1, t_1_2, t_1_3, t_1_4, t_1_5, t_1_6, t_1_7, t_1_8, t_1_9, t_1_10, t_1_11, t_1_12), rfl, hm.symm, by rw [ht]; exact hP, va_K.moved hW.alike hK, hD⟩, hS.F ht⟩) hS.2.2 dX7_markQuick_8
abbrev rm_X7_markFree : Room := { frames := 2, cells := 0, slots := 0, locals := 46 }
def m_X7_markFree (K : Nat) (n0 : Nat) (n1 : Nat) (n2 : Nat) (n3 : Nat) (n4 : Nat) (n5 : Nat) (n6 : Nat) (p1 : Int32) (p2 : Int32) (s0 : Int32) (s1 : Int32) (s2 : Int32) (s3 : Int32) (s4 : Nat → Int32) (s5 : Nat → Int32) (s6 : Nat → Int32) (s7 : Nat → Int32) (s8 : Nat → Int32) (s9 : Int32) (s10 : Int32) (s11 : Nat → Int32) (s12 : Nat → Int32) : Option (Int32 × Int32 × Int32 × Int32 × (Nat → Int32) × (Nat → Int32) × (Nat → Int32) × (Nat → Int32) × (Nat → Int32) × Int32 × Int32 × (Nat → Int32) × (Nat → Int32)) :=
  (m_X7_mark K n0 n1 n2 n3 n4 n5 n6 p1 p2 ((-1 : Int32)) s0 s1 s2 s3 s4 s5 s6 s7 s8 s9 s10 s11 s12).bind fun ⟨t_1_0, t_1_1, t_1_2, t_1_3, t_1_4, t_1_5, t_1_6, t_1_7, t_1_8, t_1_9, t_1_10, t_1_11, t_1_12⟩ => some ((t_1_0, t_1_1, t_1_2, t_1_3, t_1_4, t_1_5, t_1_6, t_1_7, t_1_8, t_1_9, t_1_10, t_1_11, t_1_12))
set_option maxHeartbeats 4000000 in
set_option maxRecDepth 100000 in
theorem c_X7_markFree (l : Launch) (dC : Nat → ClassId) (dI : Nat → Nat → Nat) (cI cJ cZ : ClassId) (K : Nat) (q0 q1 q2 q3 q4 q5 q6 q7 q8 : Nat) (n0 : Nat) (n1 : Nat) (n2 : Nat) (n3 : Nat) (n4 : Nat) (n5 : Nat) (n6 : Nat) (s0 : Int32) (s1 : Int32) (s2 : Int32) (s3 : Int32) (s4 : Nat → Int32) (s5 : Nat → Int32) (s6 : Nat → Int32) (s7 : Nat → Int32) (s8 : Nat → Int32) (s9 : Int32) (s10 : Int32) (s11 : Nat → Int32) (s12 : Nat → Int32) (p1 : Int32) (p2 : Int32) (sz : Nat) (uv : Int32 × Int32 × Int32 × Int32 × (Nat → Int32) × (Nat → Int32) × (Nat → Int32) × (Nat → Int32) × (Nat → Int32) × Int32 × Int32 × (Nat → Int32) × (Nat → Int32)) (hm : m_X7_markFree K n0 n1 n2 n3 n4 n5 n6 p1 p2 s0 s1 s2 s3 s4 s5 s6 s7 s8 s9 s10 s11 s12 = some uv) : Met l yX7_markFree wsX7_markFree rm_X7_markFree (zz_pre dC dI [(cI, .int), (cJ, .long), (cZ, .boolean)] [(q0, .inr (6, [.ref q1, .ref q2, .ref q3, .ref q4, .ref q5, .ref q6, .int s0, .int s1, .int s2, .int s3])), (q1, .inl (cI, n0, .inl s4)), (q2, .inl (cI, n1, .inl s5)), (q3, .inl (cI, n2, .inl s6)), (q4, .inl (cI, n3, .inl s7)), (q5, .inl (cI, n4, .inl s8)), (q6, .inr (9, [.ref q7, .ref q8, .int s9, .int s10])), (q7, .inl (cI, n5, .inl s11)), (q8, .inl (cI, n6, .inl s12))] sz [.ref q0, .int p1, .int p2]) (va_Qv (fun u => uv = u) (fun u t => zz_wo dC dI [(cI, .int), (cJ, .long), (cZ, .boolean)] (va_A [(q0, .inr (6, [.ref q1, .ref q2, .ref q3, .ref q4, .ref q5, .ref q6, .int s0, .int s1, .int s2, .int s3])), (q1, .inl (cI, n0, .inl s4)), (q2, .inl (cI, n1, .inl s5)), (q3, .inl (cI, n2, .inl s6)), (q4, .inl (cI, n3, .inl s7)), (q5, .inl (cI, n4, .inl s8)), (q6, .inr (9, [.ref q7, .ref q8, .int s9, .int s10])), (q7, .inl (cI, n5, .inl s11)), (q8, .inl (cI, n6, .inl s12))] sz) (ce_X7 cI cJ cZ q0 q1 q2 q3 q4 q5 q6 q7 q8 n0 n1 n2 n3 n4 n5 n6 u) t) (va_A [(q0, .inr (6, [.ref q1, .ref q2, .ref q3, .ref q4, .ref q5, .ref q6, .int s0, .int s1, .int s2, .int s3])), (q1, .inl (cI, n0, .inl s4)), (q2, .inl (cI, n1, .inl s5)), (q3, .inl (cI, n2, .inl s6)), (q4, .inl (cI, n3, .inl s7)), (q5, .inl (cI, n4, .inl s8)), (q6, .inr (9, [.ref q7, .ref q8, .int s9, .int s10])), (q7, .inl (cI, n5, .inl s11)), (q8, .inl (cI, n6, .inl s12))] sz)) 0 0 (va_A [(q0, .inr (6, [.ref q1, .ref q2, .ref q3, .ref q4, .ref q5, .ref q6, .int s0, .int s1, .int s2, .int s3])), (q1, .inl (cI, n0, .inl s4)), (q2, .inl (cI, n1, .inl s5)), (q3, .inl (cI, n2, .inl s6)), (q4, .inl (cI, n3, .inl s7)), (q5, .inl (cI, n4, .inl s8)), (q6, .inr (9, [.ref q7, .ref q8, .int s9, .int s10])), (q7, .inl (cI, n5, .inl s11)), (q8, .inl (cI, n6, .inl s12))] sz) := by
  refine Met.ofW (cc := cX7_markFree) (maxL := 3) (ret := none) (by decide) rfl ?_
  intro p e s m args below meth c s₁ B hml hv
  obtain ⟨rfl, hsz, hP, hK, hD0, hN⟩ := hv
  have hx := B.exec
  have hb := B.bytes
  have hr := B.returns
  have hts := atoms_spec (ws := wsX7_markFree) B.pre
  have hown : s.vm.findClass RX7 = some m.cls := findClass_of_methodNamed B.named
  have hlocks := B.notSynchronized
  have hS0 : CallFix p m c cX7_markFree 3 s #[.ref q0, .int p1, .int p2] wsX7_markFree RX7 := ⟨hx, hb, hml, hown, hts⟩
  subst hsz
  have hD := hD0.self (sz := s.heap.size)
  generalize hAe : va_A [(q0, .inr (6, [.ref q1, .ref q2, .ref q3, .ref q4, .ref q5, .ref q6, .int s0, .int s1, .int s2, .int s3])), (q1, .inl (cI, n0, .inl s4)), (q2, .inl (cI, n1, .inl s5)), (q3, .inl (cI, n2, .inl s6)), (q4, .inl (cI, n3, .inl s7)), (q5, .inl (cI, n4, .inl s8)), (q6, .inr (9, [.ref q7, .ref q8, .int s9, .int s10])), (q7, .inl (cI, n5, .inl s11)), (q8, .inl (cI, n6, .inl s12))] s.heap.size = A at hD ⊢
  have hA : ∀ q : Nat, s.heap.size ≤ q → A q := fun q h => by rw [← hAe]; exact Or.inr h
  have hS : va_S A s.heap s.heap [] := va_S.rf
  have hl := lv_entry ([.ref q0, .int p1, .int p2]) (n := 3) (Nat.le_of_ble_eq_true rfl)
  rw [lg_entry_eq]
  generalize (lg_sl ([.ref q0, .int p1, .int p2]) ++ List.replicate (3 - (lg_sl ([.ref q0, .int p1, .int p2])).length) Slot.unset).toArray = ls at hl ⊢
  have hl : lv_has ls 3 [(0, .ref q0), (1, .int p1), (2, .int p2)] := hl
  unfold m_X7_markFree at hm
  refine lv_aload_n hx hb dX7_markFree_0 rfl (lv_at hl 0 rfl) ?_
  refine lv_iload_n hx hb dX7_markFree_1 rfl (lv_at hl 1 rfl) ?_
  refine lv_iload_n hx hb dX7_markFree_2 rfl (lv_at hl 2 rfl) ?_
  refine lv_iconst (v := (-1)) hx hb dX7_markFree_3 (by decide) ?_
  obtain ⟨⟨t_1_0, t_1_1, t_1_2, t_1_3, t_1_4, t_1_5, t_1_6, t_1_7, t_1_8, t_1_9, t_1_10, t_1_11, t_1_12⟩, hc_1, hm⟩ := zz_bind hm
  have hPc := hP.sub (ws' := [(q0, .inr (6, [.ref q1, .ref q2, .ref q3, .ref q4, .ref q5, .ref q6, .int s0, .int s1, .int s2, .int s3])), (q1, .inl (cI, n0, .inl s4)), (q2, .inl (cI, n1, .inl s5)), (q3, .inl (cI, n2, .inl s6)), (q4, .inl (cI, n3, .inl s7)), (q5, .inl (cI, n4, .inl s8)), (q6, .inr (9, [.ref q7, .ref q8, .int s9, .int s10])), (q7, .inl (cI, n5, .inl s11)), (q8, .inl (cI, n6, .inl s12))]) [0, 1, 2, 3, 4, 5, 6, 7, 8] rfl
  have hDc := hD.sub (ws' := [(q0, .inr (6, [.ref q1, .ref q2, .ref q3, .ref q4, .ref q5, .ref q6, .int s0, .int s1, .int s2, .int s3])), (q1, .inl (cI, n0, .inl s4)), (q2, .inl (cI, n1, .inl s5)), (q3, .inl (cI, n2, .inl s6)), (q4, .inl (cI, n3, .inl s7)), (q5, .inl (cI, n4, .inl s8)), (q6, .inr (9, [.ref q7, .ref q8, .int s9, .int s10])), (q7, .inl (cI, n5, .inl s11)), (q8, .inl (cI, n6, .inl s12))]) [0, 1, 2, 3, 4, 5, 6, 7, 8] (by decide) rfl
  have hFc := va_free (wc := [(q0, .inr (6, [.ref q1, .ref q2, .ref q3, .ref q4, .ref q5, .ref q6, .int s0, .int s1, .int s2, .int s3])), (q1, .inl (cI, n0, .inl s4)), (q2, .inl (cI, n1, .inl s5)), (q3, .inl (cI, n2, .inl s6)), (q4, .inl (cI, n3, .inl s7)), (q5, .inl (cI, n4, .inl s8)), (q6, .inr (9, [.ref q7, .ref q8, .int s9, .int s10])), (q7, .inl (cI, n5, .inl s11)), (q8, .inl (cI, n6, .inl s12))]) hD hS hA [0, 1, 2, 3, 4, 5, 6, 7, 8] rfl
  refine va_callv (va_runV (As := [.int p1, .int p2, .int ((-1 : Int32))]) (rest := []) hS0 (c_X7_mark l dC dI cI cJ cZ K q0 q1 q2 q3 q4 q5 q6 q7 q8 n0 n1 n2 n3 n4 n5 n6 s0 s1 s2 s3 s4 s5 s6 s7 s8 s9 s10 s11 s12 p1 p2 ((-1 : Int32)) _ (t_1_0, t_1_1, t_1_2, t_1_3, t_1_4, t_1_5, t_1_6, t_1_7, t_1_8, t_1_9, t_1_10, t_1_11, t_1_12) hc_1) (cwV 3 hts gX7_markFree_X7_mark rfl rfl rfl (by decide +kernel) ⟨Nat.le_of_ble_eq_true rfl, Nat.le_of_ble_eq_true rfl⟩) (zz_pv hK hPc hDc hN (va_recv hK hPc (ci := 6) (q0 := 0) rfl rfl)) rfl rfl hl.1 rfl (lv_room (Nat.le_of_ble_eq_true rfl)) dX7_markFree_4 ⟨Nat.zero_le _, Nat.zero_le _⟩) hS (fun q _ h => hFc q h) hFc (fun u t H1 locs ht hvm hw hB hz1 hk1 hS => ?_)
  subst hw
  obtain ⟨hP1, hK1, hD1⟩ := hB
  rw [ht] at hP1
  obtain ⟨hP, hD⟩ := va_join (wr := []) (w1 := [(q0, .inr (6, [.ref q1, .ref q2, .ref q3, .ref q4, .ref q5, .ref q6, .int t_1_0, .int t_1_1, .int t_1_2, .int t_1_3])), (q1, .inl (cI, n0, .inl t_1_4)), (q2, .inl (cI, n1, .inl t_1_5)), (q3, .inl (cI, n2, .inl t_1_6)), (q4, .inl (cI, n3, .inl t_1_7)), (q5, .inl (cI, n4, .inl t_1_8)), (q6, .inr (9, [.ref q7, .ref q8, .int t_1_9, .int t_1_10])), (q7, .inl (cI, n5, .inl t_1_11)), (q8, .inl (cI, n6, .inl t_1_12))]) hP hD [0, 1, 2, 3, 4, 5, 6, 7, 8] [] rfl rfl (by decide) (by decide) hk1 hFc hP1 hD1
  have hP : va_P (dC, dI) vwCl [(q0, .inr (6, [.ref q1, .ref q2, .ref q3, .ref q4, .ref q5, .ref q6, .int t_1_0, .int t_1_1, .int t_1_2, .int t_1_3])), (q1, .inl (cI, n0, .inl t_1_4)), (q2, .inl (cI, n1, .inl t_1_5)), (q3, .inl (cI, n2, .inl t_1_6)), (q4, .inl (cI, n3, .inl t_1_7)), (q5, .inl (cI, n4, .inl t_1_8)), (q6, .inr (9, [.ref q7, .ref q8, .int t_1_9, .int t_1_10])), (q7, .inl (cI, n5, .inl t_1_11)), (q8, .inl (cI, n6, .inl t_1_12))] _ := hP
  have hD : va_D A [(q0, .inr (6, [.ref q1, .ref q2, .ref q3, .ref q4, .ref q5, .ref q6, .int t_1_0, .int t_1_1, .int t_1_2, .int t_1_3])), (q1, .inl (cI, n0, .inl t_1_4)), (q2, .inl (cI, n1, .inl t_1_5)), (q3, .inl (cI, n2, .inl t_1_6)), (q4, .inl (cI, n3, .inl t_1_7)), (q5, .inl (cI, n4, .inl t_1_8)), (q6, .inr (9, [.ref q7, .ref q8, .int t_1_9, .int t_1_10])), (q7, .inl (cI, n5, .inl t_1_11)), (q8, .inl (cI, n6, .inl t_1_12))] := hD
  have hm := Option.some.inj hm
  exact W.vret hx hb hr (fun t ht hW => ⟨⟨(t_1_0, t_1_1, t_1_2, t_1_3, t_1_4, t_1_5, t_1_6, t_1_7, t_1_8, t_1_9, t_1_10, t_1_11, t_1_12), rfl, hm.symm, by rw [ht]; exact hP, va_K.moved hW.alike hK, hD⟩, hS.F ht⟩) hS.2.2 dX7_markFree_7
abbrev rm_X7_slotOf : Room := { frames := 0, cells := 0, slots := 0, locals := 0 }
theorem in_X7_slotOf_X7 : ∀ w ∈ wsX70, w ∈ wsX7_slotOf := by decide +kernel
def m_X7_slotOf_L2 (K : Nat) (n0 : Nat) (n1 : Nat) (n2 : Nat) (n3 : Nat) (n4 : Nat) (n5 : Nat) (n6 : Nat) : Nat → Int32 → Int32 → Int32 → Int32 → Int32 → Int32 → (Nat → Int32) → (Nat → Int32) → (Nat → Int32) → (Nat → Int32) → (Nat → Int32) → Int32 → Int32 → (Nat → Int32) → (Nat → Int32) → Option (Int32 × Int32 × Int32 × Int32 × Int32 × (Nat → Int32) × (Nat → Int32) × (Nat → Int32) × (Nat → Int32) × (Nat → Int32) × Int32 × Int32 × (Nat → Int32) × (Nat → Int32))
  | 0, _, _, _, _, _, _, _, _, _, _, _, _, _, _, _ => none
  | k + 1, x1, x2, s0, s1, s2, s3, s4, s5, s6, s7, s8, s9, s10, s11, s12 =>
    if s1 ≤ x2 then some ((-1 : Int32), (s0, s1, s2, s3, s4, s5, s6, s7, s8, s9, s10, s11, s12))
    else (if ¬ (x2 < 0 ∨ n1 ≤ x2.toNatClampNeg) then (if (s5 x2.toNatClampNeg) = x1 then some (x2, (s0, s1, s2, s3, s4, s5, s6, s7, s8, s9, s10, s11, s12))
    else m_X7_slotOf_L2 K n0 n1 n2 n3 n4 n5 n6 k x1 (x2 + 1) s0 s1 s2 s3 s4 s5 s6 s7 s8 s9 s10 s11 s12) else none)
theorem m_X7_slotOf_L2_s (K : Nat) (n0 : Nat) (n1 : Nat) (n2 : Nat) (n3 : Nat) (n4 : Nat) (n5 : Nat) (n6 : Nat) (k : Nat) (x1 : Int32) (x2 : Int32) (s0 : Int32) (s1 : Int32) (s2 : Int32) (s3 : Int32) (s4 : Nat → Int32) (s5 : Nat → Int32) (s6 : Nat → Int32) (s7 : Nat → Int32) (s8 : Nat → Int32) (s9 : Int32) (s10 : Int32) (s11 : Nat → Int32) (s12 : Nat → Int32) : m_X7_slotOf_L2 K n0 n1 n2 n3 n4 n5 n6 (k + 1) x1 x2 s0 s1 s2 s3 s4 s5 s6 s7 s8 s9 s10 s11 s12 =
    (if s1 ≤ x2 then some ((-1 : Int32), (s0, s1, s2, s3, s4, s5, s6, s7, s8, s9, s10, s11, s12))
    else (if ¬ (x2 < 0 ∨ n1 ≤ x2.toNatClampNeg) then (if (s5 x2.toNatClampNeg) = x1 then some (x2, (s0, s1, s2, s3, s4, s5, s6, s7, s8, s9, s10, s11, s12))
    else m_X7_slotOf_L2 K n0 n1 n2 n3 n4 n5 n6 k x1 (x2 + 1) s0 s1 s2 s3 s4 s5 s6 s7 s8 s9 s10 s11 s12) else none)) := rfl
set_option maxHeartbeats 4000000 in
set_option maxRecDepth 100000 in
theorem w_X7_slotOf_L2 {p : Program} {l : Launch} {e : Env} {s : State} {m : MethodId} {args : Array Value} {below : List Frame} {meth : Method} {c : Code} (dC : Nat → ClassId) (dI : Nat → Nat → Nat) (cI cJ cZ : ClassId) (K : Nat) (q0 q1 q2 q3 q4 q5 q6 q7 q8 : Nat) (n0 : Nat) (n1 : Nat) (n2 : Nat) (n3 : Nat) (n4 : Nat) (n5 : Nat) (n6 : Nat) (A : Nat → Prop) (rv : Int32) (uv : Int32 × Int32 × Int32 × Int32 × (Nat → Int32) × (Nat → Int32) × (Nat → Int32) × (Nat → Int32) × (Nat → Int32) × Int32 × Int32 × (Nat → Int32) × (Nat → Int32)) (hS0 : CallFix p m c cX7_slotOf 3 s args wsX7_slotOf RX7) (hr : meth.sig.returnType = (some .int)) (hlocks : meth.locks = false) (hA : ∀ q : Nat, s.heap.size ≤ q → A q) (hK : va_K (dC, dI) vwCl [(cI, .int), (cJ, .long), (cZ, .boolean)] s) (hN : zz_nw s) : ∀ (k : Nat) (x1 : Int32) (x2 : Int32) (s0 : Int32) (s1 : Int32) (s2 : Int32) (s3 : Int32) (s4 : Nat → Int32) (s5 : Nat → Int32) (s6 : Nat → Int32) (s7 : Nat → Int32) (s8 : Nat → Int32) (s9 : Int32) (s10 : Int32) (s11 : Nat → Int32) (s12 : Nat → Int32) (H : Heap) (locs : List Loc) (ls : Array Slot), m_X7_slotOf_L2 K n0 n1 n2 n3 n4 n5 n6 k x1 x2 s0 s1 s2 s3 s4 s5 s6 s7 s8 s9 s10 s11 s12 = some (rv, uv) → va_P (dC, dI) vwCl [(q0, .inr (6, [.ref q1, .ref q2, .ref q3, .ref q4, .ref q5, .ref q6, .int s0, .int s1, .int s2, .int s3])), (q1, .inl (cI, n0, .inl s4)), (q2, .inl (cI, n1, .inl s5)), (q3, .inl (cI, n2, .inl s6)), (q4, .inl (cI, n3, .inl s7)), (q5, .inl (cI, n4, .inl s8)), (q6, .inr (9, [.ref q7, .ref q8, .int s9, .int s10])), (q7, .inl (cI, n5, .inl s11)), (q8, .inl (cI, n6, .inl s12))] H → va_D A [(q0, .inr (6, [.ref q1, .ref q2, .ref q3, .ref q4, .ref q5, .ref q6, .int s0, .int s1, .int s2, .int s3])), (q1, .inl (cI, n0, .inl s4)), (q2, .inl (cI, n1, .inl s5)), (q3, .inl (cI, n2, .inl s6)), (q4, .inl (cI, n3, .inl s7)), (q5, .inl (cI, n4, .inl s8)), (q6, .inr (9, [.ref q7, .ref q8, .int s9, .int s10])), (q7, .inl (cI, n5, .inl s11)), (q8, .inl (cI, n6, .inl s12))] → va_S A s.heap H locs → lv_has ls 3 [(0, .ref q0), (1, .int x1), (2, .int x2)] → W p l e rm_X7_slotOf s m args below meth c H locs 0 0 (MQ below (va_Qi (fun r u => rv = r ∧ uv = u) (fun u t => zz_wo dC dI [(cI, .int), (cJ, .long), (cZ, .boolean)] A (ce_X7 cI cJ cZ q0 q1 q2 q3 q4 q5 q6 q7 q8 n0 n1 n2 n3 n4 n5 n6 u) t) A) args s 0 0 A) (F0 m 2 ls []) := by
  obtain ⟨hx, hb, hml, hown, hts⟩ := id hS0
  have inX7 := in_X7_slotOf_X7
  have f15 := hts (.fieldLink RX7 15 "RoomForms$Room" "numbers" "[I") (by decide +kernel)
  have f40 := hts (.fieldLink RX7 40 "RoomForms$Room" "blocks" "I") (by decide +kernel)
  intro k
  induction k with
  | zero =>
    intro _ _ _ _ _ _ _ _ _ _ _ _ _ _ _ _ _ _ hm
    have hm9 : (none : Option (Int32 × Int32 × Int32 × Int32 × Int32 × (Nat → Int32) × (Nat → Int32) × (Nat → Int32) × (Nat → Int32) × (Nat → Int32) × Int32 × Int32 × (Nat → Int32) × (Nat → Int32))) = some _ := hm
    cases hm9
  | succ k ih =>
    intro x1 x2 s0 s1 s2 s3 s4 s5 s6 s7 s8 s9 s10 s11 s12 H locs ls hm hP hD hS hl
    rw [m_X7_slotOf_L2_s] at hm
    refine lv_iload_n hx hb dX7_slotOf_2 rfl (lv_at hl 2 rfl) ?_
    refine lv_aload_n hx hb dX7_slotOf_3 rfl (lv_at hl 0 rfl) ?_
    refine va_get (D := (dC, dI)) (ci := 6) (v := .int s1) (C := RX7) (T := TX7) (N := 10) hx hb hts inX7 hown hK hP 0 rfl rfl 7 (by decide) f40 (fun _ h9 => h9) rfl dX7_slotOf_4 ?_
    refine lv_icmp_ge (tgt := 28) hx hb dX7_slotOf_7 (by decide) (fun c_1 => ?_) (fun c_1 => ?_)
    · replace hm := zz_t c_1 hm
      refine lv_iconst (v := (-1)) hx hb dX7_slotOf_28 (by decide) ?_
      have hm := Option.some.inj hm
      exact W.iret (v := (-1 : Int32)) hx hb hr (fun t ht hW => ⟨⟨(-1 : Int32), (s0, s1, s2, s3, s4, s5, s6, s7, s8, s9, s10, s11, s12), rfl, ⟨(congrArg (·.1) hm).symm, (congrArg (·.2) hm).symm⟩, by rw [ht]; exact hP, va_K.moved hW.alike hK, hD⟩, hS.F ht⟩) hS.2.2 dX7_slotOf_29
    · replace hm := zz_f c_1 hm
      refine lv_aload_n hx hb dX7_slotOf_10 rfl (lv_at hl 0 rfl) ?_
      refine va_get (D := (dC, dI)) (ci := 6) (v := .ref q2) (C := RX7) (T := TX7) (N := 10) hx hb hts inX7 hown hK hP 0 rfl rfl 1 (by decide) f15 (fun _ h9 => h9) rfl dX7_slotOf_11 ?_
      refine lv_iload_n hx hb dX7_slotOf_14 rfl (lv_at hl 2 rfl) ?_
      obtain ⟨hi_2, hm⟩ := zz_chk hm
      refine va_iald hx hb hK hP 2 0 rfl rfl (i := x2) hi_2 dX7_slotOf_15 ?_
      refine lv_iload_n hx hb dX7_slotOf_16 rfl (lv_at hl 1 rfl) ?_
      refine lv_icmp_ne (tgt := 22) hx hb dX7_slotOf_17 (by decide) (fun c_3 => ?_) (fun c_3 => ?_)
      · replace hm := zz_f c_3 hm
        refine lv_iinc (v := x2 + 1) (lv' := [(2, .int (x2 + 1)), (0, .ref q0), (1, .int x1)]) hx hb dX7_slotOf_22 hl (k := 2) rfl rfl (by decide) rfl (fun ls hl => ?_)
        refine lv_goto (tgt := 2) hx hb dX7_slotOf_25 (by decide) ?_
        exact ih x1 (x2 + 1) s0 s1 s2 s3 s4 s5 s6 s7 s8 s9 s10 s11 s12 _ _ _ hm hP hD hS (lv_sub hl [1, 2, 0] rfl)
      · replace hm := zz_t c_3 hm
        refine lv_iload_n hx hb dX7_slotOf_20 rfl (lv_at hl 2 rfl) ?_
        have hm := Option.some.inj hm
        exact W.iret (v := x2) hx hb hr (fun t ht hW => ⟨⟨x2, (s0, s1, s2, s3, s4, s5, s6, s7, s8, s9, s10, s11, s12), rfl, ⟨(congrArg (·.1) hm).symm, (congrArg (·.2) hm).symm⟩, by rw [ht]; exact hP, va_K.moved hW.alike hK, hD⟩, hS.F ht⟩) hS.2.2 dX7_slotOf_21
def m_X7_slotOf (K : Nat) (n0 : Nat) (n1 : Nat) (n2 : Nat) (n3 : Nat) (n4 : Nat) (n5 : Nat) (n6 : Nat) (p1 : Int32) (s0 : Int32) (s1 : Int32) (s2 : Int32) (s3 : Int32) (s4 : Nat → Int32) (s5 : Nat → Int32) (s6 : Nat → Int32) (s7 : Nat → Int32) (s8 : Nat → Int32) (s9 : Int32) (s10 : Int32) (s11 : Nat → Int32) (s12 : Nat → Int32) : Option (Int32 × Int32 × Int32 × Int32 × Int32 × (Nat → Int32) × (Nat → Int32) × (Nat → Int32) × (Nat → Int32) × (Nat → Int32) × Int32 × Int32 × (Nat → Int32) × (Nat → Int32)) :=
  m_X7_slotOf_L2 K n0 n1 n2 n3 n4 n5 n6 K p1 ((0 : Int32)) s0 s1 s2 s3 s4 s5 s6 s7 s8 s9 s10 s11 s12
set_option maxHeartbeats 4000000 in
set_option maxRecDepth 100000 in
theorem c_X7_slotOf (l : Launch) (dC : Nat → ClassId) (dI : Nat → Nat → Nat) (cI cJ cZ : ClassId) (K : Nat) (q0 q1 q2 q3 q4 q5 q6 q7 q8 : Nat) (n0 : Nat) (n1 : Nat) (n2 : Nat) (n3 : Nat) (n4 : Nat) (n5 : Nat) (n6 : Nat) (s0 : Int32) (s1 : Int32) (s2 : Int32) (s3 : Int32) (s4 : Nat → Int32) (s5 : Nat → Int32) (s6 : Nat → Int32) (s7 : Nat → Int32) (s8 : Nat → Int32) (s9 : Int32) (s10 : Int32) (s11 : Nat → Int32) (s12 : Nat → Int32) (p1 : Int32) (sz : Nat) (rv : Int32) (uv : Int32 × Int32 × Int32 × Int32 × (Nat → Int32) × (Nat → Int32) × (Nat → Int32) × (Nat → Int32) × (Nat → Int32) × Int32 × Int32 × (Nat → Int32) × (Nat → Int32)) (hm : m_X7_slotOf K n0 n1 n2 n3 n4 n5 n6 p1 s0 s1 s2 s3 s4 s5 s6 s7 s8 s9 s10 s11 s12 = some (rv, uv)) : Met l yX7_slotOf wsX7_slotOf rm_X7_slotOf (zz_pre dC dI [(cI, .int), (cJ, .long), (cZ, .boolean)] [(q0, .inr (6, [.ref q1, .ref q2, .ref q3, .ref q4, .ref q5, .ref q6, .int s0, .int s1, .int s2, .int s3])), (q1, .inl (cI, n0, .inl s4)), (q2, .inl (cI, n1, .inl s5)), (q3, .inl (cI, n2, .inl s6)), (q4, .inl (cI, n3, .inl s7)), (q5, .inl (cI, n4, .inl s8)), (q6, .inr (9, [.ref q7, .ref q8, .int s9, .int s10])), (q7, .inl (cI, n5, .inl s11)), (q8, .inl (cI, n6, .inl s12))] sz [.ref q0, .int p1]) (va_Qi (fun r u => rv = r ∧ uv = u) (fun u t => zz_wo dC dI [(cI, .int), (cJ, .long), (cZ, .boolean)] (va_A [(q0, .inr (6, [.ref q1, .ref q2, .ref q3, .ref q4, .ref q5, .ref q6, .int s0, .int s1, .int s2, .int s3])), (q1, .inl (cI, n0, .inl s4)), (q2, .inl (cI, n1, .inl s5)), (q3, .inl (cI, n2, .inl s6)), (q4, .inl (cI, n3, .inl s7)), (q5, .inl (cI, n4, .inl s8)), (q6, .inr (9, [.ref q7, .ref q8, .int s9, .int s10])), (q7, .inl (cI, n5, .inl s11)), (q8, .inl (cI, n6, .inl s12))] sz) (ce_X7 cI cJ cZ q0 q1 q2 q3 q4 q5 q6 q7 q8 n0 n1 n2 n3 n4 n5 n6 u) t) (va_A [(q0, .inr (6, [.ref q1, .ref q2, .ref q3, .ref q4, .ref q5, .ref q6, .int s0, .int s1, .int s2, .int s3])), (q1, .inl (cI, n0, .inl s4)), (q2, .inl (cI, n1, .inl s5)), (q3, .inl (cI, n2, .inl s6)), (q4, .inl (cI, n3, .inl s7)), (q5, .inl (cI, n4, .inl s8)), (q6, .inr (9, [.ref q7, .ref q8, .int s9, .int s10])), (q7, .inl (cI, n5, .inl s11)), (q8, .inl (cI, n6, .inl s12))] sz)) 0 0 (va_A [(q0, .inr (6, [.ref q1, .ref q2, .ref q3, .ref q4, .ref q5, .ref q6, .int s0, .int s1, .int s2, .int s3])), (q1, .inl (cI, n0, .inl s4)), (q2, .inl (cI, n1, .inl s5)), (q3, .inl (cI, n2, .inl s6)), (q4, .inl (cI, n3, .inl s7)), (q5, .inl (cI, n4, .inl s8)), (q6, .inr (9, [.ref q7, .ref q8, .int s9, .int s10])), (q7, .inl (cI, n5, .inl s11)), (q8, .inl (cI, n6, .inl s12))] sz) := by
  refine Met.ofW (cc := cX7_slotOf) (maxL := 3) (ret := (some .int)) (by decide) rfl ?_
  intro p e s m args below meth c s₁ B hml hv
  obtain ⟨rfl, hsz, hP, hK, hD0, hN⟩ := hv
  have hx := B.exec
  have hb := B.bytes
  have hr := B.returns
  have hts := atoms_spec (ws := wsX7_slotOf) B.pre
  have hown : s.vm.findClass RX7 = some m.cls := findClass_of_methodNamed B.named
  have hlocks := B.notSynchronized
  have hS0 : CallFix p m c cX7_slotOf 3 s #[.ref q0, .int p1] wsX7_slotOf RX7 := ⟨hx, hb, hml, hown, hts⟩
  subst hsz
  have hD := hD0.self (sz := s.heap.size)
  generalize hAe : va_A [(q0, .inr (6, [.ref q1, .ref q2, .ref q3, .ref q4, .ref q5, .ref q6, .int s0, .int s1, .int s2, .int s3])), (q1, .inl (cI, n0, .inl s4)), (q2, .inl (cI, n1, .inl s5)), (q3, .inl (cI, n2, .inl s6)), (q4, .inl (cI, n3, .inl s7)), (q5, .inl (cI, n4, .inl s8)), (q6, .inr (9, [.ref q7, .ref q8, .int s9, .int s10])), (q7, .inl (cI, n5, .inl s11)), (q8, .inl (cI, n6, .inl s12))] s.heap.size = A at hD ⊢
  have hA : ∀ q : Nat, s.heap.size ≤ q → A q := fun q h => by rw [← hAe]; exact Or.inr h
  have hS : va_S A s.heap s.heap [] := va_S.rf
  have hl := lv_entry ([.ref q0, .int p1]) (n := 3) (Nat.le_of_ble_eq_true rfl)
  rw [lg_entry_eq]
  generalize (lg_sl ([.ref q0, .int p1]) ++ List.replicate (3 - (lg_sl ([.ref q0, .int p1])).length) Slot.unset).toArray = ls at hl ⊢
  have hl : lv_has ls 3 [(0, .ref q0), (1, .int p1)] := hl
  have inX7 := in_X7_slotOf_X7
  have f15 := hts (.fieldLink RX7 15 "RoomForms$Room" "numbers" "[I") (by decide +kernel)
  have f40 := hts (.fieldLink RX7 40 "RoomForms$Room" "blocks" "I") (by decide +kernel)
  unfold m_X7_slotOf at hm
  refine lv_iconst (v := 0) hx hb dX7_slotOf_0 (by decide) ?_
  refine lv_istore_n (lv' := [(2, .int ((0 : Int32))), (0, .ref q0), (1, .int p1)]) hx hb dX7_slotOf_1 rfl hl (by decide) rfl (fun ls hl => ?_)
  exact w_X7_slotOf_L2 dC dI cI cJ cZ K q0 q1 q2 q3 q4 q5 q6 q7 q8 n0 n1 n2 n3 n4 n5 n6 A rv uv hS0 hr hlocks hA hK hN K p1 ((0 : Int32)) s0 s1 s2 s3 s4 s5 s6 s7 s8 s9 s10 s11 s12 _ _ _ hm hP hD hS (lv_sub hl [1, 2, 0] rfl)
abbrev rm_X7_placeOf : Room := { frames := 0, cells := 0, slots := 0, locals := 0 }
theorem in_X7_placeOf_X7 : ∀ w ∈ wsX70, w ∈ wsX7_placeOf := by decide +kernel
def m_X7_placeOf (K : Nat) (n0 : Nat) (n1 : Nat) (n2 : Nat) (n3 : Nat) (n4 : Nat) (n5 : Nat) (n6 : Nat) (p1 : Int32) (s0 : Int32) (s1 : Int32) (s2 : Int32) (s3 : Int32) (s4 : Nat → Int32) (s5 : Nat → Int32) (s6 : Nat → Int32) (s7 : Nat → Int32) (s8 : Nat → Int32) (s9 : Int32) (s10 : Int32) (s11 : Nat → Int32) (s12 : Nat → Int32) : Option (Int32 × Int32 × Int32 × Int32 × Int32 × (Nat → Int32) × (Nat → Int32) × (Nat → Int32) × (Nat → Int32) × (Nat → Int32) × Int32 × Int32 × (Nat → Int32) × (Nat → Int32)) :=
  if p1 < 0 then some ((-1 : Int32), (s0, s1, s2, s3, s4, s5, s6, s7, s8, s9, s10, s11, s12))
  else (if p1 < s1 then (if ¬ (p1 < 0 ∨ n2 ≤ p1.toNatClampNeg) then some (s6 p1.toNatClampNeg, (s0, s1, s2, s3, s4, s5, s6, s7, s8, s9, s10, s11, s12)) else none)
  else some ((-1 : Int32), (s0, s1, s2, s3, s4, s5, s6, s7, s8, s9, s10, s11, s12)))
set_option maxHeartbeats 4000000 in
set_option maxRecDepth 100000 in
theorem c_X7_placeOf (l : Launch) (dC : Nat → ClassId) (dI : Nat → Nat → Nat) (cI cJ cZ : ClassId) (K : Nat) (q0 q1 q2 q3 q4 q5 q6 q7 q8 : Nat) (n0 : Nat) (n1 : Nat) (n2 : Nat) (n3 : Nat) (n4 : Nat) (n5 : Nat) (n6 : Nat) (s0 : Int32) (s1 : Int32) (s2 : Int32) (s3 : Int32) (s4 : Nat → Int32) (s5 : Nat → Int32) (s6 : Nat → Int32) (s7 : Nat → Int32) (s8 : Nat → Int32) (s9 : Int32) (s10 : Int32) (s11 : Nat → Int32) (s12 : Nat → Int32) (p1 : Int32) (sz : Nat) (rv : Int32) (uv : Int32 × Int32 × Int32 × Int32 × (Nat → Int32) × (Nat → Int32) × (Nat → Int32) × (Nat → Int32) × (Nat → Int32) × Int32 × Int32 × (Nat → Int32) × (Nat → Int32)) (hm : m_X7_placeOf K n0 n1 n2 n3 n4 n5 n6 p1 s0 s1 s2 s3 s4 s5 s6 s7 s8 s9 s10 s11 s12 = some (rv, uv)) : Met l yX7_placeOf wsX7_placeOf rm_X7_placeOf (zz_pre dC dI [(cI, .int), (cJ, .long), (cZ, .boolean)] [(q0, .inr (6, [.ref q1, .ref q2, .ref q3, .ref q4, .ref q5, .ref q6, .int s0, .int s1, .int s2, .int s3])), (q1, .inl (cI, n0, .inl s4)), (q2, .inl (cI, n1, .inl s5)), (q3, .inl (cI, n2, .inl s6)), (q4, .inl (cI, n3, .inl s7)), (q5, .inl (cI, n4, .inl s8)), (q6, .inr (9, [.ref q7, .ref q8, .int s9, .int s10])), (q7, .inl (cI, n5, .inl s11)), (q8, .inl (cI, n6, .inl s12))] sz [.ref q0, .int p1]) (va_Qi (fun r u => rv = r ∧ uv = u) (fun u t => zz_wo dC dI [(cI, .int), (cJ, .long), (cZ, .boolean)] (va_A [(q0, .inr (6, [.ref q1, .ref q2, .ref q3, .ref q4, .ref q5, .ref q6, .int s0, .int s1, .int s2, .int s3])), (q1, .inl (cI, n0, .inl s4)), (q2, .inl (cI, n1, .inl s5)), (q3, .inl (cI, n2, .inl s6)), (q4, .inl (cI, n3, .inl s7)), (q5, .inl (cI, n4, .inl s8)), (q6, .inr (9, [.ref q7, .ref q8, .int s9, .int s10])), (q7, .inl (cI, n5, .inl s11)), (q8, .inl (cI, n6, .inl s12))] sz) (ce_X7 cI cJ cZ q0 q1 q2 q3 q4 q5 q6 q7 q8 n0 n1 n2 n3 n4 n5 n6 u) t) (va_A [(q0, .inr (6, [.ref q1, .ref q2, .ref q3, .ref q4, .ref q5, .ref q6, .int s0, .int s1, .int s2, .int s3])), (q1, .inl (cI, n0, .inl s4)), (q2, .inl (cI, n1, .inl s5)), (q3, .inl (cI, n2, .inl s6)), (q4, .inl (cI, n3, .inl s7)), (q5, .inl (cI, n4, .inl s8)), (q6, .inr (9, [.ref q7, .ref q8, .int s9, .int s10])), (q7, .inl (cI, n5, .inl s11)), (q8, .inl (cI, n6, .inl s12))] sz)) 0 0 (va_A [(q0, .inr (6, [.ref q1, .ref q2, .ref q3, .ref q4, .ref q5, .ref q6, .int s0, .int s1, .int s2, .int s3])), (q1, .inl (cI, n0, .inl s4)), (q2, .inl (cI, n1, .inl s5)), (q3, .inl (cI, n2, .inl s6)), (q4, .inl (cI, n3, .inl s7)), (q5, .inl (cI, n4, .inl s8)), (q6, .inr (9, [.ref q7, .ref q8, .int s9, .int s10])), (q7, .inl (cI, n5, .inl s11)), (q8, .inl (cI, n6, .inl s12))] sz) := by
  refine Met.ofW (cc := cX7_placeOf) (maxL := 2) (ret := (some .int)) (by decide) rfl ?_
  intro p e s m args below meth c s₁ B hml hv
  obtain ⟨rfl, hsz, hP, hK, hD0, hN⟩ := hv
  have hx := B.exec
  have hb := B.bytes
  have hr := B.returns
  have hts := atoms_spec (ws := wsX7_placeOf) B.pre
  have hown : s.vm.findClass RX7 = some m.cls := findClass_of_methodNamed B.named
  have hlocks := B.notSynchronized
  have hS0 : CallFix p m c cX7_placeOf 2 s #[.ref q0, .int p1] wsX7_placeOf RX7 := ⟨hx, hb, hml, hown, hts⟩
  subst hsz
  have hD := hD0.self (sz := s.heap.size)
  generalize hAe : va_A [(q0, .inr (6, [.ref q1, .ref q2, .ref q3, .ref q4, .ref q5, .ref q6, .int s0, .int s1, .int s2, .int s3])), (q1, .inl (cI, n0, .inl s4)), (q2, .inl (cI, n1, .inl s5)), (q3, .inl (cI, n2, .inl s6)), (q4, .inl (cI, n3, .inl s7)), (q5, .inl (cI, n4, .inl s8)), (q6, .inr (9, [.ref q7, .ref q8, .int s9, .int s10])), (q7, .inl (cI, n5, .inl s11)), (q8, .inl (cI, n6, .inl s12))] s.heap.size = A at hD ⊢
  have hA : ∀ q : Nat, s.heap.size ≤ q → A q := fun q h => by rw [← hAe]; exact Or.inr h
  have hS : va_S A s.heap s.heap [] := va_S.rf
  have hl := lv_entry ([.ref q0, .int p1]) (n := 2) (Nat.le_of_ble_eq_true rfl)
  rw [lg_entry_eq]
  generalize (lg_sl ([.ref q0, .int p1]) ++ List.replicate (2 - (lg_sl ([.ref q0, .int p1])).length) Slot.unset).toArray = ls at hl ⊢
  have hl : lv_has ls 2 [(0, .ref q0), (1, .int p1)] := hl
  have inX7 := in_X7_placeOf_X7
  have f18 := hts (.fieldLink RX7 18 "RoomForms$Room" "places" "[I") (by decide +kernel)
  have f40 := hts (.fieldLink RX7 40 "RoomForms$Room" "blocks" "I") (by decide +kernel)
  unfold m_X7_placeOf at hm
  refine lv_iload_n hx hb dX7_placeOf_0 rfl (lv_at hl 1 rfl) ?_
  refine lv_if_lt (tgt := 12) hx hb dX7_placeOf_1 (by decide) (fun c_1 => ?_) (fun c_1 => ?_)
  · replace hm := zz_t c_1 hm
    refine lv_iconst (v := (-1)) hx hb dX7_placeOf_12 (by decide) ?_
    refine lv_goto (tgt := 22) hx hb dX7_placeOf_13 (by decide) ?_
    have hm := Option.some.inj hm
    exact W.iret (v := (-1 : Int32)) hx hb hr (fun t ht hW => ⟨⟨(-1 : Int32), (s0, s1, s2, s3, s4, s5, s6, s7, s8, s9, s10, s11, s12), rfl, ⟨(congrArg (·.1) hm).symm, (congrArg (·.2) hm).symm⟩, by rw [ht]; exact hP, va_K.moved hW.alike hK, hD⟩, hS.F ht⟩) hS.2.2 dX7_placeOf_22
  · replace hm := zz_f c_1 hm
    refine lv_iload_n hx hb dX7_placeOf_4 rfl (lv_at hl 1 rfl) ?_
    refine lv_aload_n hx hb dX7_placeOf_5 rfl (lv_at hl 0 rfl) ?_
    refine va_get (D := (dC, dI)) (ci := 6) (v := .int s1) (C := RX7) (T := TX7) (N := 10) hx hb hts inX7 hown hK hP 0 rfl rfl 7 (by decide) f40 (fun _ h9 => h9) rfl dX7_placeOf_6 ?_
    refine lv_icmp_lt (tgt := 16) hx hb dX7_placeOf_9 (by decide) (fun c_2 => ?_) (fun c_2 => ?_)
    · replace hm := zz_t c_2 hm
      refine lv_aload_n hx hb dX7_placeOf_16 rfl (lv_at hl 0 rfl) ?_
      refine va_get (D := (dC, dI)) (ci := 6) (v := .ref q3) (C := RX7) (T := TX7) (N := 10) hx hb hts inX7 hown hK hP 0 rfl rfl 2 (by decide) f18 (fun _ h9 => h9) rfl dX7_placeOf_17 ?_
      refine lv_iload_n hx hb dX7_placeOf_20 rfl (lv_at hl 1 rfl) ?_
      obtain ⟨hi_3, hm⟩ := zz_chk hm
      refine va_iald hx hb hK hP 3 0 rfl rfl (i := p1) hi_3 dX7_placeOf_21 ?_
      have hm := Option.some.inj hm
      exact W.iret (v := s6 p1.toNatClampNeg) hx hb hr (fun t ht hW => ⟨⟨s6 p1.toNatClampNeg, (s0, s1, s2, s3, s4, s5, s6, s7, s8, s9, s10, s11, s12), rfl, ⟨(congrArg (·.1) hm).symm, (congrArg (·.2) hm).symm⟩, by rw [ht]; exact hP, va_K.moved hW.alike hK, hD⟩, hS.F ht⟩) hS.2.2 dX7_placeOf_22
    · replace hm := zz_f c_2 hm
      refine lv_iconst (v := (-1)) hx hb dX7_placeOf_12 (by decide) ?_
      refine lv_goto (tgt := 22) hx hb dX7_placeOf_13 (by decide) ?_
      have hm := Option.some.inj hm
      exact W.iret (v := (-1 : Int32)) hx hb hr (fun t ht hW => ⟨⟨(-1 : Int32), (s0, s1, s2, s3, s4, s5, s6, s7, s8, s9, s10, s11, s12), rfl, ⟨(congrArg (·.1) hm).symm, (congrArg (·.2) hm).symm⟩, by rw [ht]; exact hP, va_K.moved hW.alike hK, hD⟩, hS.F ht⟩) hS.2.2 dX7_placeOf_22
abbrev rm_X7_spanOf : Room := { frames := 0, cells := 0, slots := 0, locals := 0 }
theorem in_X7_spanOf_X7 : ∀ w ∈ wsX70, w ∈ wsX7_spanOf := by decide +kernel
def m_X7_spanOf (K : Nat) (n0 : Nat) (n1 : Nat) (n2 : Nat) (n3 : Nat) (n4 : Nat) (n5 : Nat) (n6 : Nat) (p1 : Int32) (s0 : Int32) (s1 : Int32) (s2 : Int32) (s3 : Int32) (s4 : Nat → Int32) (s5 : Nat → Int32) (s6 : Nat → Int32) (s7 : Nat → Int32) (s8 : Nat → Int32) (s9 : Int32) (s10 : Int32) (s11 : Nat → Int32) (s12 : Nat → Int32) : Option (Int32 × Int32 × Int32 × Int32 × Int32 × (Nat → Int32) × (Nat → Int32) × (Nat → Int32) × (Nat → Int32) × (Nat → Int32) × Int32 × Int32 × (Nat → Int32) × (Nat → Int32)) :=
  if p1 < 0 then some ((0 : Int32), (s0, s1, s2, s3, s4, s5, s6, s7, s8, s9, s10, s11, s12))
  else (if p1 < s1 then (if ¬ (p1 < 0 ∨ n3 ≤ p1.toNatClampNeg) then some (s7 p1.toNatClampNeg, (s0, s1, s2, s3, s4, s5, s6, s7, s8, s9, s10, s11, s12)) else none)
  else some ((0 : Int32), (s0, s1, s2, s3, s4, s5, s6, s7, s8, s9, s10, s11, s12)))
set_option maxHeartbeats 4000000 in
set_option maxRecDepth 100000 in
theorem c_X7_spanOf (l : Launch) (dC : Nat → ClassId) (dI : Nat → Nat → Nat) (cI cJ cZ : ClassId) (K : Nat) (q0 q1 q2 q3 q4 q5 q6 q7 q8 : Nat) (n0 : Nat) (n1 : Nat) (n2 : Nat) (n3 : Nat) (n4 : Nat) (n5 : Nat) (n6 : Nat) (s0 : Int32) (s1 : Int32) (s2 : Int32) (s3 : Int32) (s4 : Nat → Int32) (s5 : Nat → Int32) (s6 : Nat → Int32) (s7 : Nat → Int32) (s8 : Nat → Int32) (s9 : Int32) (s10 : Int32) (s11 : Nat → Int32) (s12 : Nat → Int32) (p1 : Int32) (sz : Nat) (rv : Int32) (uv : Int32 × Int32 × Int32 × Int32 × (Nat → Int32) × (Nat → Int32) × (Nat → Int32) × (Nat → Int32) × (Nat → Int32) × Int32 × Int32 × (Nat → Int32) × (Nat → Int32)) (hm : m_X7_spanOf K n0 n1 n2 n3 n4 n5 n6 p1 s0 s1 s2 s3 s4 s5 s6 s7 s8 s9 s10 s11 s12 = some (rv, uv)) : Met l yX7_spanOf wsX7_spanOf rm_X7_spanOf (zz_pre dC dI [(cI, .int), (cJ, .long), (cZ, .boolean)] [(q0, .inr (6, [.ref q1, .ref q2, .ref q3, .ref q4, .ref q5, .ref q6, .int s0, .int s1, .int s2, .int s3])), (q1, .inl (cI, n0, .inl s4)), (q2, .inl (cI, n1, .inl s5)), (q3, .inl (cI, n2, .inl s6)), (q4, .inl (cI, n3, .inl s7)), (q5, .inl (cI, n4, .inl s8)), (q6, .inr (9, [.ref q7, .ref q8, .int s9, .int s10])), (q7, .inl (cI, n5, .inl s11)), (q8, .inl (cI, n6, .inl s12))] sz [.ref q0, .int p1]) (va_Qi (fun r u => rv = r ∧ uv = u) (fun u t => zz_wo dC dI [(cI, .int), (cJ, .long), (cZ, .boolean)] (va_A [(q0, .inr (6, [.ref q1, .ref q2, .ref q3, .ref q4, .ref q5, .ref q6, .int s0, .int s1, .int s2, .int s3])), (q1, .inl (cI, n0, .inl s4)), (q2, .inl (cI, n1, .inl s5)), (q3, .inl (cI, n2, .inl s6)), (q4, .inl (cI, n3, .inl s7)), (q5, .inl (cI, n4, .inl s8)), (q6, .inr (9, [.ref q7, .ref q8, .int s9, .int s10])), (q7, .inl (cI, n5, .inl s11)), (q8, .inl (cI, n6, .inl s12))] sz) (ce_X7 cI cJ cZ q0 q1 q2 q3 q4 q5 q6 q7 q8 n0 n1 n2 n3 n4 n5 n6 u) t) (va_A [(q0, .inr (6, [.ref q1, .ref q2, .ref q3, .ref q4, .ref q5, .ref q6, .int s0, .int s1, .int s2, .int s3])), (q1, .inl (cI, n0, .inl s4)), (q2, .inl (cI, n1, .inl s5)), (q3, .inl (cI, n2, .inl s6)), (q4, .inl (cI, n3, .inl s7)), (q5, .inl (cI, n4, .inl s8)), (q6, .inr (9, [.ref q7, .ref q8, .int s9, .int s10])), (q7, .inl (cI, n5, .inl s11)), (q8, .inl (cI, n6, .inl s12))] sz)) 0 0 (va_A [(q0, .inr (6, [.ref q1, .ref q2, .ref q3, .ref q4, .ref q5, .ref q6, .int s0, .int s1, .int s2, .int s3])), (q1, .inl (cI, n0, .inl s4)), (q2, .inl (cI, n1, .inl s5)), (q3, .inl (cI, n2, .inl s6)), (q4, .inl (cI, n3, .inl s7)), (q5, .inl (cI, n4, .inl s8)), (q6, .inr (9, [.ref q7, .ref q8, .int s9, .int s10])), (q7, .inl (cI, n5, .inl s11)), (q8, .inl (cI, n6, .inl s12))] sz) := by
  refine Met.ofW (cc := cX7_spanOf) (maxL := 2) (ret := (some .int)) (by decide) rfl ?_
  intro p e s m args below meth c s₁ B hml hv
  obtain ⟨rfl, hsz, hP, hK, hD0, hN⟩ := hv
  have hx := B.exec
  have hb := B.bytes
  have hr := B.returns
  have hts := atoms_spec (ws := wsX7_spanOf) B.pre
  have hown : s.vm.findClass RX7 = some m.cls := findClass_of_methodNamed B.named
  have hlocks := B.notSynchronized
  have hS0 : CallFix p m c cX7_spanOf 2 s #[.ref q0, .int p1] wsX7_spanOf RX7 := ⟨hx, hb, hml, hown, hts⟩
  subst hsz
  have hD := hD0.self (sz := s.heap.size)
  generalize hAe : va_A [(q0, .inr (6, [.ref q1, .ref q2, .ref q3, .ref q4, .ref q5, .ref q6, .int s0, .int s1, .int s2, .int s3])), (q1, .inl (cI, n0, .inl s4)), (q2, .inl (cI, n1, .inl s5)), (q3, .inl (cI, n2, .inl s6)), (q4, .inl (cI, n3, .inl s7)), (q5, .inl (cI, n4, .inl s8)), (q6, .inr (9, [.ref q7, .ref q8, .int s9, .int s10])), (q7, .inl (cI, n5, .inl s11)), (q8, .inl (cI, n6, .inl s12))] s.heap.size = A at hD ⊢
  have hA : ∀ q : Nat, s.heap.size ≤ q → A q := fun q h => by rw [← hAe]; exact Or.inr h
  have hS : va_S A s.heap s.heap [] := va_S.rf
  have hl := lv_entry ([.ref q0, .int p1]) (n := 2) (Nat.le_of_ble_eq_true rfl)
  rw [lg_entry_eq]
  generalize (lg_sl ([.ref q0, .int p1]) ++ List.replicate (2 - (lg_sl ([.ref q0, .int p1])).length) Slot.unset).toArray = ls at hl ⊢
  have hl : lv_has ls 2 [(0, .ref q0), (1, .int p1)] := hl
  have inX7 := in_X7_spanOf_X7
  have f21 := hts (.fieldLink RX7 21 "RoomForms$Room" "spans" "[I") (by decide +kernel)
  have f40 := hts (.fieldLink RX7 40 "RoomForms$Room" "blocks" "I") (by decide +kernel)
  unfold m_X7_spanOf at hm
  refine lv_iload_n hx hb dX7_spanOf_0 rfl (lv_at hl 1 rfl) ?_
  refine lv_if_lt (tgt := 12) hx hb dX7_spanOf_1 (by decide) (fun c_1 => ?_) (fun c_1 => ?_)
  · replace hm := zz_t c_1 hm
    refine lv_iconst (v := 0) hx hb dX7_spanOf_12 (by decide) ?_
    refine lv_goto (tgt := 22) hx hb dX7_spanOf_13 (by decide) ?_
    have hm := Option.some.inj hm
    exact W.iret (v := (0 : Int32)) hx hb hr (fun t ht hW => ⟨⟨(0 : Int32), (s0, s1, s2, s3, s4, s5, s6, s7, s8, s9, s10, s11, s12), rfl, ⟨(congrArg (·.1) hm).symm, (congrArg (·.2) hm).symm⟩, by rw [ht]; exact hP, va_K.moved hW.alike hK, hD⟩, hS.F ht⟩) hS.2.2 dX7_spanOf_22
  · replace hm := zz_f c_1 hm
    refine lv_iload_n hx hb dX7_spanOf_4 rfl (lv_at hl 1 rfl) ?_
    refine lv_aload_n hx hb dX7_spanOf_5 rfl (lv_at hl 0 rfl) ?_
    refine va_get (D := (dC, dI)) (ci := 6) (v := .int s1) (C := RX7) (T := TX7) (N := 10) hx hb hts inX7 hown hK hP 0 rfl rfl 7 (by decide) f40 (fun _ h9 => h9) rfl dX7_spanOf_6 ?_
    refine lv_icmp_lt (tgt := 16) hx hb dX7_spanOf_9 (by decide) (fun c_2 => ?_) (fun c_2 => ?_)
    · replace hm := zz_t c_2 hm
      refine lv_aload_n hx hb dX7_spanOf_16 rfl (lv_at hl 0 rfl) ?_
      refine va_get (D := (dC, dI)) (ci := 6) (v := .ref q4) (C := RX7) (T := TX7) (N := 10) hx hb hts inX7 hown hK hP 0 rfl rfl 3 (by decide) f21 (fun _ h9 => h9) rfl dX7_spanOf_17 ?_
      refine lv_iload_n hx hb dX7_spanOf_20 rfl (lv_at hl 1 rfl) ?_
      obtain ⟨hi_3, hm⟩ := zz_chk hm
      refine va_iald hx hb hK hP 4 0 rfl rfl (i := p1) hi_3 dX7_spanOf_21 ?_
      have hm := Option.some.inj hm
      exact W.iret (v := s7 p1.toNatClampNeg) hx hb hr (fun t ht hW => ⟨⟨s7 p1.toNatClampNeg, (s0, s1, s2, s3, s4, s5, s6, s7, s8, s9, s10, s11, s12), rfl, ⟨(congrArg (·.1) hm).symm, (congrArg (·.2) hm).symm⟩, by rw [ht]; exact hP, va_K.moved hW.alike hK, hD⟩, hS.F ht⟩) hS.2.2 dX7_spanOf_22
    · replace hm := zz_f c_2 hm
      refine lv_iconst (v := 0) hx hb dX7_spanOf_12 (by decide) ?_
      refine lv_goto (tgt := 22) hx hb dX7_spanOf_13 (by decide) ?_
      have hm := Option.some.inj hm
      exact W.iret (v := (0 : Int32)) hx hb hr (fun t ht hW => ⟨⟨(0 : Int32), (s0, s1, s2, s3, s4, s5, s6, s7, s8, s9, s10, s11, s12), rfl, ⟨(congrArg (·.1) hm).symm, (congrArg (·.2) hm).symm⟩, by rw [ht]; exact hP, va_K.moved hW.alike hK, hD⟩, hS.F ht⟩) hS.2.2 dX7_spanOf_22
abbrev rm_X7_askedOf : Room := { frames := 0, cells := 0, slots := 0, locals := 0 }
theorem in_X7_askedOf_X7 : ∀ w ∈ wsX70, w ∈ wsX7_askedOf := by decide +kernel
def m_X7_askedOf (K : Nat) (n0 : Nat) (n1 : Nat) (n2 : Nat) (n3 : Nat) (n4 : Nat) (n5 : Nat) (n6 : Nat) (p1 : Int32) (s0 : Int32) (s1 : Int32) (s2 : Int32) (s3 : Int32) (s4 : Nat → Int32) (s5 : Nat → Int32) (s6 : Nat → Int32) (s7 : Nat → Int32) (s8 : Nat → Int32) (s9 : Int32) (s10 : Int32) (s11 : Nat → Int32) (s12 : Nat → Int32) : Option (Int32 × Int32 × Int32 × Int32 × Int32 × (Nat → Int32) × (Nat → Int32) × (Nat → Int32) × (Nat → Int32) × (Nat → Int32) × Int32 × Int32 × (Nat → Int32) × (Nat → Int32)) :=
  if p1 < 0 then some ((0 : Int32), (s0, s1, s2, s3, s4, s5, s6, s7, s8, s9, s10, s11, s12))
  else (if p1 < s1 then (if ¬ (p1 < 0 ∨ n4 ≤ p1.toNatClampNeg) then some (s8 p1.toNatClampNeg, (s0, s1, s2, s3, s4, s5, s6, s7, s8, s9, s10, s11, s12)) else none)
  else some ((0 : Int32), (s0, s1, s2, s3, s4, s5, s6, s7, s8, s9, s10, s11, s12)))
set_option maxHeartbeats 4000000 in
set_option maxRecDepth 100000 in
theorem c_X7_askedOf (l : Launch) (dC : Nat → ClassId) (dI : Nat → Nat → Nat) (cI cJ cZ : ClassId) (K : Nat) (q0 q1 q2 q3 q4 q5 q6 q7 q8 : Nat) (n0 : Nat) (n1 : Nat) (n2 : Nat) (n3 : Nat) (n4 : Nat) (n5 : Nat) (n6 : Nat) (s0 : Int32) (s1 : Int32) (s2 : Int32) (s3 : Int32) (s4 : Nat → Int32) (s5 : Nat → Int32) (s6 : Nat → Int32) (s7 : Nat → Int32) (s8 : Nat → Int32) (s9 : Int32) (s10 : Int32) (s11 : Nat → Int32) (s12 : Nat → Int32) (p1 : Int32) (sz : Nat) (rv : Int32) (uv : Int32 × Int32 × Int32 × Int32 × (Nat → Int32) × (Nat → Int32) × (Nat → Int32) × (Nat → Int32) × (Nat → Int32) × Int32 × Int32 × (Nat → Int32) × (Nat → Int32)) (hm : m_X7_askedOf K n0 n1 n2 n3 n4 n5 n6 p1 s0 s1 s2 s3 s4 s5 s6 s7 s8 s9 s10 s11 s12 = some (rv, uv)) : Met l yX7_askedOf wsX7_askedOf rm_X7_askedOf (zz_pre dC dI [(cI, .int), (cJ, .long), (cZ, .boolean)] [(q0, .inr (6, [.ref q1, .ref q2, .ref q3, .ref q4, .ref q5, .ref q6, .int s0, .int s1, .int s2, .int s3])), (q1, .inl (cI, n0, .inl s4)), (q2, .inl (cI, n1, .inl s5)), (q3, .inl (cI, n2, .inl s6)), (q4, .inl (cI, n3, .inl s7)), (q5, .inl (cI, n4, .inl s8)), (q6, .inr (9, [.ref q7, .ref q8, .int s9, .int s10])), (q7, .inl (cI, n5, .inl s11)), (q8, .inl (cI, n6, .inl s12))] sz [.ref q0, .int p1]) (va_Qi (fun r u => rv = r ∧ uv = u) (fun u t => zz_wo dC dI [(cI, .int), (cJ, .long), (cZ, .boolean)] (va_A [(q0, .inr (6, [.ref q1, .ref q2, .ref q3, .ref q4, .ref q5, .ref q6, .int s0, .int s1, .int s2, .int s3])), (q1, .inl (cI, n0, .inl s4)), (q2, .inl (cI, n1, .inl s5)), (q3, .inl (cI, n2, .inl s6)), (q4, .inl (cI, n3, .inl s7)), (q5, .inl (cI, n4, .inl s8)), (q6, .inr (9, [.ref q7, .ref q8, .int s9, .int s10])), (q7, .inl (cI, n5, .inl s11)), (q8, .inl (cI, n6, .inl s12))] sz) (ce_X7 cI cJ cZ q0 q1 q2 q3 q4 q5 q6 q7 q8 n0 n1 n2 n3 n4 n5 n6 u) t) (va_A [(q0, .inr (6, [.ref q1, .ref q2, .ref q3, .ref q4, .ref q5, .ref q6, .int s0, .int s1, .int s2, .int s3])), (q1, .inl (cI, n0, .inl s4)), (q2, .inl (cI, n1, .inl s5)), (q3, .inl (cI, n2, .inl s6)), (q4, .inl (cI, n3, .inl s7)), (q5, .inl (cI, n4, .inl s8)), (q6, .inr (9, [.ref q7, .ref q8, .int s9, .int s10])), (q7, .inl (cI, n5, .inl s11)), (q8, .inl (cI, n6, .inl s12))] sz)) 0 0 (va_A [(q0, .inr (6, [.ref q1, .ref q2, .ref q3, .ref q4, .ref q5, .ref q6, .int s0, .int s1, .int s2, .int s3])), (q1, .inl (cI, n0, .inl s4)), (q2, .inl (cI, n1, .inl s5)), (q3, .inl (cI, n2, .inl s6)), (q4, .inl (cI, n3, .inl s7)), (q5, .inl (cI, n4, .inl s8)), (q6, .inr (9, [.ref q7, .ref q8, .int s9, .int s10])), (q7, .inl (cI, n5, .inl s11)), (q8, .inl (cI, n6, .inl s12))] sz) := by
  refine Met.ofW (cc := cX7_askedOf) (maxL := 2) (ret := (some .int)) (by decide) rfl ?_
  intro p e s m args below meth c s₁ B hml hv
  obtain ⟨rfl, hsz, hP, hK, hD0, hN⟩ := hv
  have hx := B.exec
  have hb := B.bytes
  have hr := B.returns
  have hts := atoms_spec (ws := wsX7_askedOf) B.pre
  have hown : s.vm.findClass RX7 = some m.cls := findClass_of_methodNamed B.named
  have hlocks := B.notSynchronized
  have hS0 : CallFix p m c cX7_askedOf 2 s #[.ref q0, .int p1] wsX7_askedOf RX7 := ⟨hx, hb, hml, hown, hts⟩
  subst hsz
  have hD := hD0.self (sz := s.heap.size)
  generalize hAe : va_A [(q0, .inr (6, [.ref q1, .ref q2, .ref q3, .ref q4, .ref q5, .ref q6, .int s0, .int s1, .int s2, .int s3])), (q1, .inl (cI, n0, .inl s4)), (q2, .inl (cI, n1, .inl s5)), (q3, .inl (cI, n2, .inl s6)), (q4, .inl (cI, n3, .inl s7)), (q5, .inl (cI, n4, .inl s8)), (q6, .inr (9, [.ref q7, .ref q8, .int s9, .int s10])), (q7, .inl (cI, n5, .inl s11)), (q8, .inl (cI, n6, .inl s12))] s.heap.size = A at hD ⊢
  have hA : ∀ q : Nat, s.heap.size ≤ q → A q := fun q h => by rw [← hAe]; exact Or.inr h
  have hS : va_S A s.heap s.heap [] := va_S.rf
  have hl := lv_entry ([.ref q0, .int p1]) (n := 2) (Nat.le_of_ble_eq_true rfl)
  rw [lg_entry_eq]
  generalize (lg_sl ([.ref q0, .int p1]) ++ List.replicate (2 - (lg_sl ([.ref q0, .int p1])).length) Slot.unset).toArray = ls at hl ⊢
  have hl : lv_has ls 2 [(0, .ref q0), (1, .int p1)] := hl
  have inX7 := in_X7_askedOf_X7
  have f24 := hts (.fieldLink RX7 24 "RoomForms$Room" "asked" "[I") (by decide +kernel)
  have f40 := hts (.fieldLink RX7 40 "RoomForms$Room" "blocks" "I") (by decide +kernel)
  unfold m_X7_askedOf at hm
  refine lv_iload_n hx hb dX7_askedOf_0 rfl (lv_at hl 1 rfl) ?_
  refine lv_if_lt (tgt := 12) hx hb dX7_askedOf_1 (by decide) (fun c_1 => ?_) (fun c_1 => ?_)
  · replace hm := zz_t c_1 hm
    refine lv_iconst (v := 0) hx hb dX7_askedOf_12 (by decide) ?_
    refine lv_goto (tgt := 22) hx hb dX7_askedOf_13 (by decide) ?_
    have hm := Option.some.inj hm
    exact W.iret (v := (0 : Int32)) hx hb hr (fun t ht hW => ⟨⟨(0 : Int32), (s0, s1, s2, s3, s4, s5, s6, s7, s8, s9, s10, s11, s12), rfl, ⟨(congrArg (·.1) hm).symm, (congrArg (·.2) hm).symm⟩, by rw [ht]; exact hP, va_K.moved hW.alike hK, hD⟩, hS.F ht⟩) hS.2.2 dX7_askedOf_22
  · replace hm := zz_f c_1 hm
    refine lv_iload_n hx hb dX7_askedOf_4 rfl (lv_at hl 1 rfl) ?_
    refine lv_aload_n hx hb dX7_askedOf_5 rfl (lv_at hl 0 rfl) ?_
    refine va_get (D := (dC, dI)) (ci := 6) (v := .int s1) (C := RX7) (T := TX7) (N := 10) hx hb hts inX7 hown hK hP 0 rfl rfl 7 (by decide) f40 (fun _ h9 => h9) rfl dX7_askedOf_6 ?_
    refine lv_icmp_lt (tgt := 16) hx hb dX7_askedOf_9 (by decide) (fun c_2 => ?_) (fun c_2 => ?_)
    · replace hm := zz_t c_2 hm
      refine lv_aload_n hx hb dX7_askedOf_16 rfl (lv_at hl 0 rfl) ?_
      refine va_get (D := (dC, dI)) (ci := 6) (v := .ref q5) (C := RX7) (T := TX7) (N := 10) hx hb hts inX7 hown hK hP 0 rfl rfl 4 (by decide) f24 (fun _ h9 => h9) rfl dX7_askedOf_17 ?_
      refine lv_iload_n hx hb dX7_askedOf_20 rfl (lv_at hl 1 rfl) ?_
      obtain ⟨hi_3, hm⟩ := zz_chk hm
      refine va_iald hx hb hK hP 5 0 rfl rfl (i := p1) hi_3 dX7_askedOf_21 ?_
      have hm := Option.some.inj hm
      exact W.iret (v := s8 p1.toNatClampNeg) hx hb hr (fun t ht hW => ⟨⟨s8 p1.toNatClampNeg, (s0, s1, s2, s3, s4, s5, s6, s7, s8, s9, s10, s11, s12), rfl, ⟨(congrArg (·.1) hm).symm, (congrArg (·.2) hm).symm⟩, by rw [ht]; exact hP, va_K.moved hW.alike hK, hD⟩, hS.F ht⟩) hS.2.2 dX7_askedOf_22
    · replace hm := zz_f c_2 hm
      refine lv_iconst (v := 0) hx hb dX7_askedOf_12 (by decide) ?_
      refine lv_goto (tgt := 22) hx hb dX7_askedOf_13 (by decide) ?_
      have hm := Option.some.inj hm
      exact W.iret (v := (0 : Int32)) hx hb hr (fun t ht hW => ⟨⟨(0 : Int32), (s0, s1, s2, s3, s4, s5, s6, s7, s8, s9, s10, s11, s12), rfl, ⟨(congrArg (·.1) hm).symm, (congrArg (·.2) hm).symm⟩, by rw [ht]; exact hP, va_K.moved hW.alike hK, hD⟩, hS.F ht⟩) hS.2.2 dX7_askedOf_22
abbrev rm_X7_blockAt : Room := { frames := 1, cells := 0, slots := 0, locals := 21 }
theorem in_X7_blockAt_X7 : ∀ w ∈ wsX70, w ∈ wsX7_blockAt := by decide +kernel
def m_X7_blockAt (K : Nat) (n0 : Nat) (n1 : Nat) (n2 : Nat) (n3 : Nat) (n4 : Nat) (n5 : Nat) (n6 : Nat) (p1 : Int32) (s0 : Int32) (s1 : Int32) (s2 : Int32) (s3 : Int32) (s4 : Nat → Int32) (s5 : Nat → Int32) (s6 : Nat → Int32) (s7 : Nat → Int32) (s8 : Nat → Int32) (s9 : Int32) (s10 : Int32) (s11 : Nat → Int32) (s12 : Nat → Int32) : Option (Int32 × Int32 × Int32 × Int32 × Int32 × (Nat → Int32) × (Nat → Int32) × (Nat → Int32) × (Nat → Int32) × (Nat → Int32) × Int32 × Int32 × (Nat → Int32) × (Nat → Int32)) :=
  if p1 < 0 then some ((-1 : Int32), (s0, s1, s2, s3, s4, s5, s6, s7, s8, s9, s10, s11, s12))
  else (if p1 < s0 then (if ¬ (p1 < 0 ∨ n0 ≤ p1.toNatClampNeg) then some (zz_max (s4 p1.toNatClampNeg) ((-1 : Int32)), (s0, s1, s2, s3, s4, s5, s6, s7, s8, s9, s10, s11, s12)) else none)
  else some ((-1 : Int32), (s0, s1, s2, s3, s4, s5, s6, s7, s8, s9, s10, s11, s12)))
set_option maxHeartbeats 4000000 in
set_option maxRecDepth 100000 in
theorem c_X7_blockAt (l : Launch) (dC : Nat → ClassId) (dI : Nat → Nat → Nat) (cI cJ cZ : ClassId) (K : Nat) (q0 q1 q2 q3 q4 q5 q6 q7 q8 : Nat) (n0 : Nat) (n1 : Nat) (n2 : Nat) (n3 : Nat) (n4 : Nat) (n5 : Nat) (n6 : Nat) (s0 : Int32) (s1 : Int32) (s2 : Int32) (s3 : Int32) (s4 : Nat → Int32) (s5 : Nat → Int32) (s6 : Nat → Int32) (s7 : Nat → Int32) (s8 : Nat → Int32) (s9 : Int32) (s10 : Int32) (s11 : Nat → Int32) (s12 : Nat → Int32) (p1 : Int32) (sz : Nat) (rv : Int32) (uv : Int32 × Int32 × Int32 × Int32 × (Nat → Int32) × (Nat → Int32) × (Nat → Int32) × (Nat → Int32) × (Nat → Int32) × Int32 × Int32 × (Nat → Int32) × (Nat → Int32)) (hm : m_X7_blockAt K n0 n1 n2 n3 n4 n5 n6 p1 s0 s1 s2 s3 s4 s5 s6 s7 s8 s9 s10 s11 s12 = some (rv, uv)) : Met l yX7_blockAt wsX7_blockAt rm_X7_blockAt (zz_pre dC dI [(cI, .int), (cJ, .long), (cZ, .boolean)] [(q0, .inr (6, [.ref q1, .ref q2, .ref q3, .ref q4, .ref q5, .ref q6, .int s0, .int s1, .int s2, .int s3])), (q1, .inl (cI, n0, .inl s4)), (q2, .inl (cI, n1, .inl s5)), (q3, .inl (cI, n2, .inl s6)), (q4, .inl (cI, n3, .inl s7)), (q5, .inl (cI, n4, .inl s8)), (q6, .inr (9, [.ref q7, .ref q8, .int s9, .int s10])), (q7, .inl (cI, n5, .inl s11)), (q8, .inl (cI, n6, .inl s12))] sz [.ref q0, .int p1]) (va_Qi (fun r u => rv = r ∧ uv = u) (fun u t => zz_wo dC dI [(cI, .int), (cJ, .long), (cZ, .boolean)] (va_A [(q0, .inr (6, [.ref q1, .ref q2, .ref q3, .ref q4, .ref q5, .ref q6, .int s0, .int s1, .int s2, .int s3])), (q1, .inl (cI, n0, .inl s4)), (q2, .inl (cI, n1, .inl s5)), (q3, .inl (cI, n2, .inl s6)), (q4, .inl (cI, n3, .inl s7)), (q5, .inl (cI, n4, .inl s8)), (q6, .inr (9, [.ref q7, .ref q8, .int s9, .int s10])), (q7, .inl (cI, n5, .inl s11)), (q8, .inl (cI, n6, .inl s12))] sz) (ce_X7 cI cJ cZ q0 q1 q2 q3 q4 q5 q6 q7 q8 n0 n1 n2 n3 n4 n5 n6 u) t) (va_A [(q0, .inr (6, [.ref q1, .ref q2, .ref q3, .ref q4, .ref q5, .ref q6, .int s0, .int s1, .int s2, .int s3])), (q1, .inl (cI, n0, .inl s4)), (q2, .inl (cI, n1, .inl s5)), (q3, .inl (cI, n2, .inl s6)), (q4, .inl (cI, n3, .inl s7)), (q5, .inl (cI, n4, .inl s8)), (q6, .inr (9, [.ref q7, .ref q8, .int s9, .int s10])), (q7, .inl (cI, n5, .inl s11)), (q8, .inl (cI, n6, .inl s12))] sz)) 0 0 (va_A [(q0, .inr (6, [.ref q1, .ref q2, .ref q3, .ref q4, .ref q5, .ref q6, .int s0, .int s1, .int s2, .int s3])), (q1, .inl (cI, n0, .inl s4)), (q2, .inl (cI, n1, .inl s5)), (q3, .inl (cI, n2, .inl s6)), (q4, .inl (cI, n3, .inl s7)), (q5, .inl (cI, n4, .inl s8)), (q6, .inr (9, [.ref q7, .ref q8, .int s9, .int s10])), (q7, .inl (cI, n5, .inl s11)), (q8, .inl (cI, n6, .inl s12))] sz) := by
  refine Met.ofW (cc := cX7_blockAt) (maxL := 2) (ret := (some .int)) (by decide) rfl ?_
  intro p e s m args below meth c s₁ B hml hv
  obtain ⟨rfl, hsz, hP, hK, hD0, hN⟩ := hv
  have hx := B.exec
  have hb := B.bytes
  have hr := B.returns
  have hts := atoms_spec (ws := wsX7_blockAt) B.pre
  have hown : s.vm.findClass RX7 = some m.cls := findClass_of_methodNamed B.named
  have hlocks := B.notSynchronized
  have hS0 : CallFix p m c cX7_blockAt 2 s #[.ref q0, .int p1] wsX7_blockAt RX7 := ⟨hx, hb, hml, hown, hts⟩
  subst hsz
  have hD := hD0.self (sz := s.heap.size)
  generalize hAe : va_A [(q0, .inr (6, [.ref q1, .ref q2, .ref q3, .ref q4, .ref q5, .ref q6, .int s0, .int s1, .int s2, .int s3])), (q1, .inl (cI, n0, .inl s4)), (q2, .inl (cI, n1, .inl s5)), (q3, .inl (cI, n2, .inl s6)), (q4, .inl (cI, n3, .inl s7)), (q5, .inl (cI, n4, .inl s8)), (q6, .inr (9, [.ref q7, .ref q8, .int s9, .int s10])), (q7, .inl (cI, n5, .inl s11)), (q8, .inl (cI, n6, .inl s12))] s.heap.size = A at hD ⊢
  have hA : ∀ q : Nat, s.heap.size ≤ q → A q := fun q h => by rw [← hAe]; exact Or.inr h
  have hS : va_S A s.heap s.heap [] := va_S.rf
  have hl := lv_entry ([.ref q0, .int p1]) (n := 2) (Nat.le_of_ble_eq_true rfl)
  rw [lg_entry_eq]
  generalize (lg_sl ([.ref q0, .int p1]) ++ List.replicate (2 - (lg_sl ([.ref q0, .int p1])).length) Slot.unset).toArray = ls at hl ⊢
  have hl : lv_has ls 2 [(0, .ref q0), (1, .int p1)] := hl
  have inX7 := in_X7_blockAt_X7
  have f9 := hts (.fieldLink RX7 9 "RoomForms$Room" "owners" "[I") (by decide +kernel)
  have f36 := hts (.fieldLink RX7 36 "RoomForms$Room" "words" "I") (by decide +kernel)
  unfold m_X7_blockAt at hm
  refine lv_iload_n hx hb dX7_blockAt_0 rfl (lv_at hl 1 rfl) ?_
  refine lv_if_lt (tgt := 12) hx hb dX7_blockAt_1 (by decide) (fun c_1 => ?_) (fun c_1 => ?_)
  · replace hm := zz_t c_1 hm
    refine lv_iconst (v := (-1)) hx hb dX7_blockAt_12 (by decide) ?_
    refine lv_goto (tgt := 26) hx hb dX7_blockAt_13 (by decide) ?_
    have hm := Option.some.inj hm
    exact W.iret (v := (-1 : Int32)) hx hb hr (fun t ht hW => ⟨⟨(-1 : Int32), (s0, s1, s2, s3, s4, s5, s6, s7, s8, s9, s10, s11, s12), rfl, ⟨(congrArg (·.1) hm).symm, (congrArg (·.2) hm).symm⟩, by rw [ht]; exact hP, va_K.moved hW.alike hK, hD⟩, hS.F ht⟩) hS.2.2 dX7_blockAt_26
  · replace hm := zz_f c_1 hm
    refine lv_iload_n hx hb dX7_blockAt_4 rfl (lv_at hl 1 rfl) ?_
    refine lv_aload_n hx hb dX7_blockAt_5 rfl (lv_at hl 0 rfl) ?_
    refine va_get (D := (dC, dI)) (ci := 6) (v := .int s0) (C := RX7) (T := TX7) (N := 10) hx hb hts inX7 hown hK hP 0 rfl rfl 6 (by decide) f36 (fun _ h9 => h9) rfl dX7_blockAt_6 ?_
    refine lv_icmp_lt (tgt := 16) hx hb dX7_blockAt_9 (by decide) (fun c_2 => ?_) (fun c_2 => ?_)
    · replace hm := zz_t c_2 hm
      refine lv_aload_n hx hb dX7_blockAt_16 rfl (lv_at hl 0 rfl) ?_
      refine va_get (D := (dC, dI)) (ci := 6) (v := .ref q1) (C := RX7) (T := TX7) (N := 10) hx hb hts inX7 hown hK hP 0 rfl rfl 0 (by decide) f9 (fun _ h9 => h9) rfl dX7_blockAt_17 ?_
      refine lv_iload_n hx hb dX7_blockAt_20 rfl (lv_at hl 1 rfl) ?_
      obtain ⟨hi_3, hm⟩ := zz_chk hm
      refine va_iald hx hb hK hP 1 0 rfl rfl (i := p1) hi_3 dX7_blockAt_21 ?_
      refine lv_iconst (v := (-1)) hx hb dX7_blockAt_22 (by decide) ?_
      refine va_mmax hx hb (by rw [hml]; exact hl.1.symm) hown (hts (.methodLink RX7 49 Lib.Math.max.name) (by decide +kernel)) (hts (.static Lib.Math.max.name) (by decide +kernel)) (hts (.initialized "java/lang/Math") (by decide +kernel)) (hts (.code Lib.Math.max.name Lib.Math.max.code 2 (some .int)) (by decide +kernel)) (Nat.le_of_ble_eq_true rfl) (Nat.le_of_ble_eq_true rfl) (Nat.zero_le _) (Nat.zero_le _) dX7_blockAt_23 ?_
      change W _ _ _ _ _ _ _ _ _ _ _ _ _ _ _ (F0 m 26 _ (.int (zz_max (s4 p1.toNatClampNeg) ((-1 : Int32))) :: []))
      have hm := Option.some.inj hm
      exact W.iret (v := zz_max (s4 p1.toNatClampNeg) ((-1 : Int32))) hx hb hr (fun t ht hW => ⟨⟨zz_max (s4 p1.toNatClampNeg) ((-1 : Int32)), (s0, s1, s2, s3, s4, s5, s6, s7, s8, s9, s10, s11, s12), rfl, ⟨(congrArg (·.1) hm).symm, (congrArg (·.2) hm).symm⟩, by rw [ht]; exact hP, va_K.moved hW.alike hK, hD⟩, hS.F ht⟩) hS.2.2 dX7_blockAt_26
    · replace hm := zz_f c_2 hm
      refine lv_iconst (v := (-1)) hx hb dX7_blockAt_12 (by decide) ?_
      refine lv_goto (tgt := 26) hx hb dX7_blockAt_13 (by decide) ?_
      have hm := Option.some.inj hm
      exact W.iret (v := (-1 : Int32)) hx hb hr (fun t ht hW => ⟨⟨(-1 : Int32), (s0, s1, s2, s3, s4, s5, s6, s7, s8, s9, s10, s11, s12), rfl, ⟨(congrArg (·.1) hm).symm, (congrArg (·.2) hm).symm⟩, by rw [ht]; exact hP, va_K.moved hW.alike hK, hD⟩, hS.F ht⟩) hS.2.2 dX7_blockAt_26
abbrev rm_X7_askedTogether : Room := { frames := 0, cells := 0, slots := 0, locals := 0 }
theorem in_X7_askedTogether_X7 : ∀ w ∈ wsX70, w ∈ wsX7_askedTogether := by decide +kernel
def m_X7_askedTogether_L4 (K : Nat) (n0 : Nat) (n1 : Nat) (n2 : Nat) (n3 : Nat) (n4 : Nat) (n5 : Nat) (n6 : Nat) : Nat → Int32 → Int32 → Int32 → Int32 → Int32 → Int32 → (Nat → Int32) → (Nat → Int32) → (Nat → Int32) → (Nat → Int32) → (Nat → Int32) → Int32 → Int32 → (Nat → Int32) → (Nat → Int32) → Option (Int32 × Int32 × Int32 × Int32 × Int32 × (Nat → Int32) × (Nat → Int32) × (Nat → Int32) × (Nat → Int32) × (Nat → Int32) × Int32 × Int32 × (Nat → Int32) × (Nat → Int32))
  | 0, _, _, _, _, _, _, _, _, _, _, _, _, _, _, _ => none
  | k + 1, x1, x2, s0, s1, s2, s3, s4, s5, s6, s7, s8, s9, s10, s11, s12 =>
    if s1 ≤ x2 then some (x1, (s0, s1, s2, s3, s4, s5, s6, s7, s8, s9, s10, s11, s12))
    else (if ¬ (x2 < 0 ∨ n4 ≤ x2.toNatClampNeg) then m_X7_askedTogether_L4 K n0 n1 n2 n3 n4 n5 n6 k (x1 + (s8 x2.toNatClampNeg)) (x2 + 1) s0 s1 s2 s3 s4 s5 s6 s7 s8 s9 s10 s11 s12 else none)
theorem m_X7_askedTogether_L4_s (K : Nat) (n0 : Nat) (n1 : Nat) (n2 : Nat) (n3 : Nat) (n4 : Nat) (n5 : Nat) (n6 : Nat) (k : Nat) (x1 : Int32) (x2 : Int32) (s0 : Int32) (s1 : Int32) (s2 : Int32) (s3 : Int32) (s4 : Nat → Int32) (s5 : Nat → Int32) (s6 : Nat → Int32) (s7 : Nat → Int32) (s8 : Nat → Int32) (s9 : Int32) (s10 : Int32) (s11 : Nat → Int32) (s12 : Nat → Int32) : m_X7_askedTogether_L4 K n0 n1 n2 n3 n4 n5 n6 (k + 1) x1 x2 s0 s1 s2 s3 s4 s5 s6 s7 s8 s9 s10 s11 s12 =
    (if s1 ≤ x2 then some (x1, (s0, s1, s2, s3, s4, s5, s6, s7, s8, s9, s10, s11, s12))
    else (if ¬ (x2 < 0 ∨ n4 ≤ x2.toNatClampNeg) then m_X7_askedTogether_L4 K n0 n1 n2 n3 n4 n5 n6 k (x1 + (s8 x2.toNatClampNeg)) (x2 + 1) s0 s1 s2 s3 s4 s5 s6 s7 s8 s9 s10 s11 s12 else none)) := rfl
set_option maxHeartbeats 4000000 in
set_option maxRecDepth 100000 in
theorem w_X7_askedTogether_L4 {p : Program} {l : Launch} {e : Env} {s : State} {m : MethodId} {args : Array Value} {below : List Frame} {meth : Method} {c : Code} (dC : Nat → ClassId) (dI : Nat → Nat → Nat) (cI cJ cZ : ClassId) (K : Nat) (q0 q1 q2 q3 q4 q5 q6 q7 q8 : Nat) (n0 : Nat) (n1 : Nat) (n2 : Nat) (n3 : Nat) (n4 : Nat) (n5 : Nat) (n6 : Nat) (A : Nat → Prop) (rv : Int32) (uv : Int32 × Int32 × Int32 × Int32 × (Nat → Int32) × (Nat → Int32) × (Nat → Int32) × (Nat → Int32) × (Nat → Int32) × Int32 × Int32 × (Nat → Int32) × (Nat → Int32)) (hS0 : CallFix p m c cX7_askedTogether 3 s args wsX7_askedTogether RX7) (hr : meth.sig.returnType = (some .int)) (hlocks : meth.locks = false) (hA : ∀ q : Nat, s.heap.size ≤ q → A q) (hK : va_K (dC, dI) vwCl [(cI, .int), (cJ, .long), (cZ, .boolean)] s) (hN : zz_nw s) : ∀ (k : Nat) (x1 : Int32) (x2 : Int32) (s0 : Int32) (s1 : Int32) (s2 : Int32) (s3 : Int32) (s4 : Nat → Int32) (s5 : Nat → Int32) (s6 : Nat → Int32) (s7 : Nat → Int32) (s8 : Nat → Int32) (s9 : Int32) (s10 : Int32) (s11 : Nat → Int32) (s12 : Nat → Int32) (H : Heap) (locs : List Loc) (ls : Array Slot), m_X7_askedTogether_L4 K n0 n1 n2 n3 n4 n5 n6 k x1 x2 s0 s1 s2 s3 s4 s5 s6 s7 s8 s9 s10 s11 s12 = some (rv, uv) → va_P (dC, dI) vwCl [(q0, .inr (6, [.ref q1, .ref q2, .ref q3, .ref q4, .ref q5, .ref q6, .int s0, .int s1, .int s2, .int s3])), (q1, .inl (cI, n0, .inl s4)), (q2, .inl (cI, n1, .inl s5)), (q3, .inl (cI, n2, .inl s6)), (q4, .inl (cI, n3, .inl s7)), (q5, .inl (cI, n4, .inl s8)), (q6, .inr (9, [.ref q7, .ref q8, .int s9, .int s10])), (q7, .inl (cI, n5, .inl s11)), (q8, .inl (cI, n6, .inl s12))] H → va_D A [(q0, .inr (6, [.ref q1, .ref q2, .ref q3, .ref q4, .ref q5, .ref q6, .int s0, .int s1, .int s2, .int s3])), (q1, .inl (cI, n0, .inl s4)), (q2, .inl (cI, n1, .inl s5)), (q3, .inl (cI, n2, .inl s6)), (q4, .inl (cI, n3, .inl s7)), (q5, .inl (cI, n4, .inl s8)), (q6, .inr (9, [.ref q7, .ref q8, .int s9, .int s10])), (q7, .inl (cI, n5, .inl s11)), (q8, .inl (cI, n6, .inl s12))] → va_S A s.heap H locs → lv_has ls 3 [(0, .ref q0), (1, .int x1), (2, .int x2)] → W p l e rm_X7_askedTogether s m args below meth c H locs 0 0 (MQ below (va_Qi (fun r u => rv = r ∧ uv = u) (fun u t => zz_wo dC dI [(cI, .int), (cJ, .long), (cZ, .boolean)] A (ce_X7 cI cJ cZ q0 q1 q2 q3 q4 q5 q6 q7 q8 n0 n1 n2 n3 n4 n5 n6 u) t) A) args s 0 0 A) (F0 m 4 ls []) := by
  obtain ⟨hx, hb, hml, hown, hts⟩ := id hS0
  have inX7 := in_X7_askedTogether_X7
  have f24 := hts (.fieldLink RX7 24 "RoomForms$Room" "asked" "[I") (by decide +kernel)
  have f40 := hts (.fieldLink RX7 40 "RoomForms$Room" "blocks" "I") (by decide +kernel)
  intro k
  induction k with
  | zero =>
    intro _ _ _ _ _ _ _ _ _ _ _ _ _ _ _ _ _ _ hm
    have hm9 : (none : Option (Int32 × Int32 × Int32 × Int32 × Int32 × (Nat → Int32) × (Nat → Int32) × (Nat → Int32) × (Nat → Int32) × (Nat → Int32) × Int32 × Int32 × (Nat → Int32) × (Nat → Int32))) = some _ := hm
    cases hm9
  | succ k ih =>
    intro x1 x2 s0 s1 s2 s3 s4 s5 s6 s7 s8 s9 s10 s11 s12 H locs ls hm hP hD hS hl
    rw [m_X7_askedTogether_L4_s] at hm
    refine lv_iload_n hx hb dX7_askedTogether_4 rfl (lv_at hl 2 rfl) ?_
    refine lv_aload_n hx hb dX7_askedTogether_5 rfl (lv_at hl 0 rfl) ?_
    refine va_get (D := (dC, dI)) (ci := 6) (v := .int s1) (C := RX7) (T := TX7) (N := 10) hx hb hts inX7 hown hK hP 0 rfl rfl 7 (by decide) f40 (fun _ h9 => h9) rfl dX7_askedTogether_6 ?_
    refine lv_icmp_ge (tgt := 27) hx hb dX7_askedTogether_9 (by decide) (fun c_1 => ?_) (fun c_1 => ?_)
    · replace hm := zz_t c_1 hm
      refine lv_iload_n hx hb dX7_askedTogether_27 rfl (lv_at hl 1 rfl) ?_
      have hm := Option.some.inj hm
      exact W.iret (v := x1) hx hb hr (fun t ht hW => ⟨⟨x1, (s0, s1, s2, s3, s4, s5, s6, s7, s8, s9, s10, s11, s12), rfl, ⟨(congrArg (·.1) hm).symm, (congrArg (·.2) hm).symm⟩, by rw [ht]; exact hP, va_K.moved hW.alike hK, hD⟩, hS.F ht⟩) hS.2.2 dX7_askedTogether_28
    · replace hm := zz_f c_1 hm
      refine lv_iload_n hx hb dX7_askedTogether_12 rfl (lv_at hl 1 rfl) ?_
      refine lv_aload_n hx hb dX7_askedTogether_13 rfl (lv_at hl 0 rfl) ?_
      refine va_get (D := (dC, dI)) (ci := 6) (v := .ref q5) (C := RX7) (T := TX7) (N := 10) hx hb hts inX7 hown hK hP 0 rfl rfl 4 (by decide) f24 (fun _ h9 => h9) rfl dX7_askedTogether_14 ?_
      refine lv_iload_n hx hb dX7_askedTogether_17 rfl (lv_at hl 2 rfl) ?_
      obtain ⟨hi_2, hm⟩ := zz_chk hm
      refine va_iald hx hb hK hP 5 0 rfl rfl (i := x2) hi_2 dX7_askedTogether_18 ?_
      refine lv_iadd hx hb dX7_askedTogether_19 ?_
      refine lv_istore_n (lv' := [(1, .int (x1 + (s8 x2.toNatClampNeg))), (0, .ref q0), (2, .int x2)]) hx hb dX7_askedTogether_20 rfl hl (by decide) rfl (fun ls hl => ?_)
      refine lv_iinc (v := x2 + 1) (lv' := [(2, .int (x2 + 1)), (1, .int (x1 + (s8 x2.toNatClampNeg))), (0, .ref q0)]) hx hb dX7_askedTogether_21 hl (k := 2) rfl rfl (by decide) rfl (fun ls hl => ?_)
      refine lv_goto (tgt := 4) hx hb dX7_askedTogether_24 (by decide) ?_
      exact ih (x1 + (s8 x2.toNatClampNeg)) (x2 + 1) s0 s1 s2 s3 s4 s5 s6 s7 s8 s9 s10 s11 s12 _ _ _ hm hP hD hS (lv_sub hl [2, 1, 0] rfl)
def m_X7_askedTogether (K : Nat) (n0 : Nat) (n1 : Nat) (n2 : Nat) (n3 : Nat) (n4 : Nat) (n5 : Nat) (n6 : Nat) (s0 : Int32) (s1 : Int32) (s2 : Int32) (s3 : Int32) (s4 : Nat → Int32) (s5 : Nat → Int32) (s6 : Nat → Int32) (s7 : Nat → Int32) (s8 : Nat → Int32) (s9 : Int32) (s10 : Int32) (s11 : Nat → Int32) (s12 : Nat → Int32) : Option (Int32 × Int32 × Int32 × Int32 × Int32 × (Nat → Int32) × (Nat → Int32) × (Nat → Int32) × (Nat → Int32) × (Nat → Int32) × Int32 × Int32 × (Nat → Int32) × (Nat → Int32)) :=
  m_X7_askedTogether_L4 K n0 n1 n2 n3 n4 n5 n6 K ((0 : Int32)) ((0 : Int32)) s0 s1 s2 s3 s4 s5 s6 s7 s8 s9 s10 s11 s12
set_option maxHeartbeats 4000000 in
set_option maxRecDepth 100000 in
theorem c_X7_askedTogether (l : Launch) (dC : Nat → ClassId) (dI : Nat → Nat → Nat) (cI cJ cZ : ClassId) (K : Nat) (q0 q1 q2 q3 q4 q5 q6 q7 q8 : Nat) (n0 : Nat) (n1 : Nat) (n2 : Nat) (n3 : Nat) (n4 : Nat) (n5 : Nat) (n6 : Nat) (s0 : Int32) (s1 : Int32) (s2 : Int32) (s3 : Int32) (s4 : Nat → Int32) (s5 : Nat → Int32) (s6 : Nat → Int32) (s7 : Nat → Int32) (s8 : Nat → Int32) (s9 : Int32) (s10 : Int32) (s11 : Nat → Int32) (s12 : Nat → Int32) (sz : Nat) (rv : Int32) (uv : Int32 × Int32 × Int32 × Int32 × (Nat → Int32) × (Nat → Int32) × (Nat → Int32) × (Nat → Int32) × (Nat → Int32) × Int32 × Int32 × (Nat → Int32) × (Nat → Int32)) (hm : m_X7_askedTogether K n0 n1 n2 n3 n4 n5 n6 s0 s1 s2 s3 s4 s5 s6 s7 s8 s9 s10 s11 s12 = some (rv, uv)) : Met l yX7_askedTogether wsX7_askedTogether rm_X7_askedTogether (zz_pre dC dI [(cI, .int), (cJ, .long), (cZ, .boolean)] [(q0, .inr (6, [.ref q1, .ref q2, .ref q3, .ref q4, .ref q5, .ref q6, .int s0, .int s1, .int s2, .int s3])), (q1, .inl (cI, n0, .inl s4)), (q2, .inl (cI, n1, .inl s5)), (q3, .inl (cI, n2, .inl s6)), (q4, .inl (cI, n3, .inl s7)), (q5, .inl (cI, n4, .inl s8)), (q6, .inr (9, [.ref q7, .ref q8, .int s9, .int s10])), (q7, .inl (cI, n5, .inl s11)), (q8, .inl (cI, n6, .inl s12))] sz [.ref q0]) (va_Qi (fun r u => rv = r ∧ uv = u) (fun u t => zz_wo dC dI [(cI, .int), (cJ, .long), (cZ, .boolean)] (va_A [(q0, .inr (6, [.ref q1, .ref q2, .ref q3, .ref q4, .ref q5, .ref q6, .int s0, .int s1, .int s2, .int s3])), (q1, .inl (cI, n0, .inl s4)), (q2, .inl (cI, n1, .inl s5)), (q3, .inl (cI, n2, .inl s6)), (q4, .inl (cI, n3, .inl s7)), (q5, .inl (cI, n4, .inl s8)), (q6, .inr (9, [.ref q7, .ref q8, .int s9, .int s10])), (q7, .inl (cI, n5, .inl s11)), (q8, .inl (cI, n6, .inl s12))] sz) (ce_X7 cI cJ cZ q0 q1 q2 q3 q4 q5 q6 q7 q8 n0 n1 n2 n3 n4 n5 n6 u) t) (va_A [(q0, .inr (6, [.ref q1, .ref q2, .ref q3, .ref q4, .ref q5, .ref q6, .int s0, .int s1, .int s2, .int s3])), (q1, .inl (cI, n0, .inl s4)), (q2, .inl (cI, n1, .inl s5)), (q3, .inl (cI, n2, .inl s6)), (q4, .inl (cI, n3, .inl s7)), (q5, .inl (cI, n4, .inl s8)), (q6, .inr (9, [.ref q7, .ref q8, .int s9, .int s10])), (q7, .inl (cI, n5, .inl s11)), (q8, .inl (cI, n6, .inl s12))] sz)) 0 0 (va_A [(q0, .inr (6, [.ref q1, .ref q2, .ref q3, .ref q4, .ref q5, .ref q6, .int s0, .int s1, .int s2, .int s3])), (q1, .inl (cI, n0, .inl s4)), (q2, .inl (cI, n1, .inl s5)), (q3, .inl (cI, n2, .inl s6)), (q4, .inl (cI, n3, .inl s7)), (q5, .inl (cI, n4, .inl s8)), (q6, .inr (9, [.ref q7, .ref q8, .int s9, .int s10])), (q7, .inl (cI, n5, .inl s11)), (q8, .inl (cI, n6, .inl s12))] sz) := by
  refine Met.ofW (cc := cX7_askedTogether) (maxL := 3) (ret := (some .int)) (by decide) rfl ?_
  intro p e s m args below meth c s₁ B hml hv
  obtain ⟨rfl, hsz, hP, hK, hD0, hN⟩ := hv
  have hx := B.exec
  have hb := B.bytes
  have hr := B.returns
  have hts := atoms_spec (ws := wsX7_askedTogether) B.pre
  have hown : s.vm.findClass RX7 = some m.cls := findClass_of_methodNamed B.named
  have hlocks := B.notSynchronized
  have hS0 : CallFix p m c cX7_askedTogether 3 s #[.ref q0] wsX7_askedTogether RX7 := ⟨hx, hb, hml, hown, hts⟩
  subst hsz
  have hD := hD0.self (sz := s.heap.size)
  generalize hAe : va_A [(q0, .inr (6, [.ref q1, .ref q2, .ref q3, .ref q4, .ref q5, .ref q6, .int s0, .int s1, .int s2, .int s3])), (q1, .inl (cI, n0, .inl s4)), (q2, .inl (cI, n1, .inl s5)), (q3, .inl (cI, n2, .inl s6)), (q4, .inl (cI, n3, .inl s7)), (q5, .inl (cI, n4, .inl s8)), (q6, .inr (9, [.ref q7, .ref q8, .int s9, .int s10])), (q7, .inl (cI, n5, .inl s11)), (q8, .inl (cI, n6, .inl s12))] s.heap.size = A at hD ⊢
  have hA : ∀ q : Nat, s.heap.size ≤ q → A q := fun q h => by rw [← hAe]; exact Or.inr h
  have hS : va_S A s.heap s.heap [] := va_S.rf
  have hl := lv_entry ([.ref q0]) (n := 3) (Nat.le_of_ble_eq_true rfl)
  rw [lg_entry_eq]
  generalize (lg_sl ([.ref q0]) ++ List.replicate (3 - (lg_sl ([.ref q0])).length) Slot.unset).toArray = ls at hl ⊢
  have hl : lv_has ls 3 [(0, .ref q0)] := hl
  have inX7 := in_X7_askedTogether_X7
  have f24 := hts (.fieldLink RX7 24 "RoomForms$Room" "asked" "[I") (by decide +kernel)
  have f40 := hts (.fieldLink RX7 40 "RoomForms$Room" "blocks" "I") (by decide +kernel)
  unfold m_X7_askedTogether at hm
  refine lv_iconst (v := 0) hx hb dX7_askedTogether_0 (by decide) ?_
  refine lv_istore_n (lv' := [(1, .int ((0 : Int32))), (0, .ref q0)]) hx hb dX7_askedTogether_1 rfl hl (by decide) rfl (fun ls hl => ?_)
  refine lv_iconst (v := 0) hx hb dX7_askedTogether_2 (by decide) ?_
  refine lv_istore_n (lv' := [(2, .int ((0 : Int32))), (1, .int ((0 : Int32))), (0, .ref q0)]) hx hb dX7_askedTogether_3 rfl hl (by decide) rfl (fun ls hl => ?_)
  exact w_X7_askedTogether_L4 dC dI cI cJ cZ K q0 q1 q2 q3 q4 q5 q6 q7 q8 n0 n1 n2 n3 n4 n5 n6 A rv uv hS0 hr hlocks hA hK hN K ((0 : Int32)) ((0 : Int32)) s0 s1 s2 s3 s4 s5 s6 s7 s8 s9 s10 s11 s12 _ _ _ hm hP hD hS (lv_sub hl [2, 1, 0] rfl)
abbrev rm_X7_spansTogether : Room := { frames := 0, cells := 0, slots := 0, locals := 0 }
theorem in_X7_spansTogether_X7 : ∀ w ∈ wsX70, w ∈ wsX7_spansTogether := by decide +kernel
def m_X7_spansTogether_L4 (K : Nat) (n0 : Nat) (n1 : Nat) (n2 : Nat) (n3 : Nat) (n4 : Nat) (n5 : Nat) (n6 : Nat) : Nat → Int32 → Int32 → Int32 → Int32 → Int32 → Int32 → (Nat → Int32) → (Nat → Int32) → (Nat → Int32) → (Nat → Int32) → (Nat → Int32) → Int32 → Int32 → (Nat → Int32) → (Nat → Int32) → Option (Int32 × Int32 × Int32 × Int32 × Int32 × (Nat → Int32) × (Nat → Int32) × (Nat → Int32) × (Nat → Int32) × (Nat → Int32) × Int32 × Int32 × (Nat → Int32) × (Nat → Int32))
  | 0, _, _, _, _, _, _, _, _, _, _, _, _, _, _, _ => none
  | k + 1, x1, x2, s0, s1, s2, s3, s4, s5, s6, s7, s8, s9, s10, s11, s12 =>
    if s1 ≤ x2 then some (x1, (s0, s1, s2, s3, s4, s5, s6, s7, s8, s9, s10, s11, s12))
    else (if ¬ (x2 < 0 ∨ n3 ≤ x2.toNatClampNeg) then m_X7_spansTogether_L4 K n0 n1 n2 n3 n4 n5 n6 k (x1 + (s7 x2.toNatClampNeg)) (x2 + 1) s0 s1 s2 s3 s4 s5 s6 s7 s8 s9 s10 s11 s12 else none)
theorem m_X7_spansTogether_L4_s (K : Nat) (n0 : Nat) (n1 : Nat) (n2 : Nat) (n3 : Nat) (n4 : Nat) (n5 : Nat) (n6 : Nat) (k : Nat) (x1 : Int32) (x2 : Int32) (s0 : Int32) (s1 : Int32) (s2 : Int32) (s3 : Int32) (s4 : Nat → Int32) (s5 : Nat → Int32) (s6 : Nat → Int32) (s7 : Nat → Int32) (s8 : Nat → Int32) (s9 : Int32) (s10 : Int32) (s11 : Nat → Int32) (s12 : Nat → Int32) : m_X7_spansTogether_L4 K n0 n1 n2 n3 n4 n5 n6 (k + 1) x1 x2 s0 s1 s2 s3 s4 s5 s6 s7 s8 s9 s10 s11 s12 =
    (if s1 ≤ x2 then some (x1, (s0, s1, s2, s3, s4, s5, s6, s7, s8, s9, s10, s11, s12))
    else (if ¬ (x2 < 0 ∨ n3 ≤ x2.toNatClampNeg) then m_X7_spansTogether_L4 K n0 n1 n2 n3 n4 n5 n6 k (x1 + (s7 x2.toNatClampNeg)) (x2 + 1) s0 s1 s2 s3 s4 s5 s6 s7 s8 s9 s10 s11 s12 else none)) := rfl
set_option maxHeartbeats 4000000 in
set_option maxRecDepth 100000 in
theorem w_X7_spansTogether_L4 {p : Program} {l : Launch} {e : Env} {s : State} {m : MethodId} {args : Array Value} {below : List Frame} {meth : Method} {c : Code} (dC : Nat → ClassId) (dI : Nat → Nat → Nat) (cI cJ cZ : ClassId) (K : Nat) (q0 q1 q2 q3 q4 q5 q6 q7 q8 : Nat) (n0 : Nat) (n1 : Nat) (n2 : Nat) (n3 : Nat) (n4 : Nat) (n5 : Nat) (n6 : Nat) (A : Nat → Prop) (rv : Int32) (uv : Int32 × Int32 × Int32 × Int32 × (Nat → Int32) × (Nat → Int32) × (Nat → Int32) × (Nat → Int32) × (Nat → Int32) × Int32 × Int32 × (Nat → Int32) × (Nat → Int32)) (hS0 : CallFix p m c cX7_spansTogether 3 s args wsX7_spansTogether RX7) (hr : meth.sig.returnType = (some .int)) (hlocks : meth.locks = false) (hA : ∀ q : Nat, s.heap.size ≤ q → A q) (hK : va_K (dC, dI) vwCl [(cI, .int), (cJ, .long), (cZ, .boolean)] s) (hN : zz_nw s) : ∀ (k : Nat) (x1 : Int32) (x2 : Int32) (s0 : Int32) (s1 : Int32) (s2 : Int32) (s3 : Int32) (s4 : Nat → Int32) (s5 : Nat → Int32) (s6 : Nat → Int32) (s7 : Nat → Int32) (s8 : Nat → Int32) (s9 : Int32) (s10 : Int32) (s11 : Nat → Int32) (s12 : Nat → Int32) (H : Heap) (locs : List Loc) (ls : Array Slot), m_X7_spansTogether_L4 K n0 n1 n2 n3 n4 n5 n6 k x1 x2 s0 s1 s2 s3 s4 s5 s6 s7 s8 s9 s10 s11 s12 = some (rv, uv) → va_P (dC, dI) vwCl [(q0, .inr (6, [.ref q1, .ref q2, .ref q3, .ref q4, .ref q5, .ref q6, .int s0, .int s1, .int s2, .int s3])), (q1, .inl (cI, n0, .inl s4)), (q2, .inl (cI, n1, .inl s5)), (q3, .inl (cI, n2, .inl s6)), (q4, .inl (cI, n3, .inl s7)), (q5, .inl (cI, n4, .inl s8)), (q6, .inr (9, [.ref q7, .ref q8, .int s9, .int s10])), (q7, .inl (cI, n5, .inl s11)), (q8, .inl (cI, n6, .inl s12))] H → va_D A [(q0, .inr (6, [.ref q1, .ref q2, .ref q3, .ref q4, .ref q5, .ref q6, .int s0, .int s1, .int s2, .int s3])), (q1, .inl (cI, n0, .inl s4)), (q2, .inl (cI, n1, .inl s5)), (q3, .inl (cI, n2, .inl s6)), (q4, .inl (cI, n3, .inl s7)), (q5, .inl (cI, n4, .inl s8)), (q6, .inr (9, [.ref q7, .ref q8, .int s9, .int s10])), (q7, .inl (cI, n5, .inl s11)), (q8, .inl (cI, n6, .inl s12))] → va_S A s.heap H locs → lv_has ls 3 [(0, .ref q0), (1, .int x1), (2, .int x2)] → W p l e rm_X7_spansTogether s m args below meth c H locs 0 0 (MQ below (va_Qi (fun r u => rv = r ∧ uv = u) (fun u t => zz_wo dC dI [(cI, .int), (cJ, .long), (cZ, .boolean)] A (ce_X7 cI cJ cZ q0 q1 q2 q3 q4 q5 q6 q7 q8 n0 n1 n2 n3 n4 n5 n6 u) t) A) args s 0 0 A) (F0 m 4 ls []) := by
  obtain ⟨hx, hb, hml, hown, hts⟩ := id hS0
  have inX7 := in_X7_spansTogether_X7
  have f21 := hts (.fieldLink RX7 21 "RoomForms$Room" "spans" "[I") (by decide +kernel)
  have f40 := hts (.fieldLink RX7 40 "RoomForms$Room" "blocks" "I") (by decide +kernel)
  intro k
  induction k with
  | zero =>
    intro _ _ _ _ _ _ _ _ _ _ _ _ _ _ _ _ _ _ hm
    have hm9 : (none : Option (Int32 × Int32 × Int32 × Int32 × Int32 × (Nat → Int32) × (Nat → Int32) × (Nat → Int32) × (Nat → Int32) × (Nat → Int32) × Int32 × Int32 × (Nat → Int32) × (Nat → Int32))) = some _ := hm
    cases hm9
  | succ k ih =>
    intro x1 x2 s0 s1 s2 s3 s4 s5 s6 s7 s8 s9 s10 s11 s12 H locs ls hm hP hD hS hl
    rw [m_X7_spansTogether_L4_s] at hm
    refine lv_iload_n hx hb dX7_spansTogether_4 rfl (lv_at hl 2 rfl) ?_
    refine lv_aload_n hx hb dX7_spansTogether_5 rfl (lv_at hl 0 rfl) ?_
    refine va_get (D := (dC, dI)) (ci := 6) (v := .int s1) (C := RX7) (T := TX7) (N := 10) hx hb hts inX7 hown hK hP 0 rfl rfl 7 (by decide) f40 (fun _ h9 => h9) rfl dX7_spansTogether_6 ?_
    refine lv_icmp_ge (tgt := 27) hx hb dX7_spansTogether_9 (by decide) (fun c_1 => ?_) (fun c_1 => ?_)
    · replace hm := zz_t c_1 hm
      refine lv_iload_n hx hb dX7_spansTogether_27 rfl (lv_at hl 1 rfl) ?_
      have hm := Option.some.inj hm
      exact W.iret (v := x1) hx hb hr (fun t ht hW => ⟨⟨x1, (s0, s1, s2, s3, s4, s5, s6, s7, s8, s9, s10, s11, s12), rfl, ⟨(congrArg (·.1) hm).symm, (congrArg (·.2) hm).symm⟩, by rw [ht]; exact hP, va_K.moved hW.alike hK, hD⟩, hS.F ht⟩) hS.2.2 dX7_spansTogether_28
    · replace hm := zz_f c_1 hm
      refine lv_iload_n hx hb dX7_spansTogether_12 rfl (lv_at hl 1 rfl) ?_
      refine lv_aload_n hx hb dX7_spansTogether_13 rfl (lv_at hl 0 rfl) ?_
      refine va_get (D := (dC, dI)) (ci := 6) (v := .ref q4) (C := RX7) (T := TX7) (N := 10) hx hb hts inX7 hown hK hP 0 rfl rfl 3 (by decide) f21 (fun _ h9 => h9) rfl dX7_spansTogether_14 ?_
      refine lv_iload_n hx hb dX7_spansTogether_17 rfl (lv_at hl 2 rfl) ?_
      obtain ⟨hi_2, hm⟩ := zz_chk hm
      refine va_iald hx hb hK hP 4 0 rfl rfl (i := x2) hi_2 dX7_spansTogether_18 ?_
      refine lv_iadd hx hb dX7_spansTogether_19 ?_
      refine lv_istore_n (lv' := [(1, .int (x1 + (s7 x2.toNatClampNeg))), (0, .ref q0), (2, .int x2)]) hx hb dX7_spansTogether_20 rfl hl (by decide) rfl (fun ls hl => ?_)
      refine lv_iinc (v := x2 + 1) (lv' := [(2, .int (x2 + 1)), (1, .int (x1 + (s7 x2.toNatClampNeg))), (0, .ref q0)]) hx hb dX7_spansTogether_21 hl (k := 2) rfl rfl (by decide) rfl (fun ls hl => ?_)
      refine lv_goto (tgt := 4) hx hb dX7_spansTogether_24 (by decide) ?_
      exact ih (x1 + (s7 x2.toNatClampNeg)) (x2 + 1) s0 s1 s2 s3 s4 s5 s6 s7 s8 s9 s10 s11 s12 _ _ _ hm hP hD hS (lv_sub hl [2, 1, 0] rfl)
def m_X7_spansTogether (K : Nat) (n0 : Nat) (n1 : Nat) (n2 : Nat) (n3 : Nat) (n4 : Nat) (n5 : Nat) (n6 : Nat) (s0 : Int32) (s1 : Int32) (s2 : Int32) (s3 : Int32) (s4 : Nat → Int32) (s5 : Nat → Int32) (s6 : Nat → Int32) (s7 : Nat → Int32) (s8 : Nat → Int32) (s9 : Int32) (s10 : Int32) (s11 : Nat → Int32) (s12 : Nat → Int32) : Option (Int32 × Int32 × Int32 × Int32 × Int32 × (Nat → Int32) × (Nat → Int32) × (Nat → Int32) × (Nat → Int32) × (Nat → Int32) × Int32 × Int32 × (Nat → Int32) × (Nat → Int32)) :=
  m_X7_spansTogether_L4 K n0 n1 n2 n3 n4 n5 n6 K ((0 : Int32)) ((0 : Int32)) s0 s1 s2 s3 s4 s5 s6 s7 s8 s9 s10 s11 s12
set_option maxHeartbeats 4000000 in
set_option maxRecDepth 100000 in
theorem c_X7_spansTogether (l : Launch) (dC : Nat → ClassId) (dI : Nat → Nat → Nat) (cI cJ cZ : ClassId) (K : Nat) (q0 q1 q2 q3 q4 q5 q6 q7 q8 : Nat) (n0 : Nat) (n1 : Nat) (n2 : Nat) (n3 : Nat) (n4 : Nat) (n5 : Nat) (n6 : Nat) (s0 : Int32) (s1 : Int32) (s2 : Int32) (s3 : Int32) (s4 : Nat → Int32) (s5 : Nat → Int32) (s6 : Nat → Int32) (s7 : Nat → Int32) (s8 : Nat → Int32) (s9 : Int32) (s10 : Int32) (s11 : Nat → Int32) (s12 : Nat → Int32) (sz : Nat) (rv : Int32) (uv : Int32 × Int32 × Int32 × Int32 × (Nat → Int32) × (Nat → Int32) × (Nat → Int32) × (Nat → Int32) × (Nat → Int32) × Int32 × Int32 × (Nat → Int32) × (Nat → Int32)) (hm : m_X7_spansTogether K n0 n1 n2 n3 n4 n5 n6 s0 s1 s2 s3 s4 s5 s6 s7 s8 s9 s10 s11 s12 = some (rv, uv)) : Met l yX7_spansTogether wsX7_spansTogether rm_X7_spansTogether (zz_pre dC dI [(cI, .int), (cJ, .long), (cZ, .boolean)] [(q0, .inr (6, [.ref q1, .ref q2, .ref q3, .ref q4, .ref q5, .ref q6, .int s0, .int s1, .int s2, .int s3])), (q1, .inl (cI, n0, .inl s4)), (q2, .inl (cI, n1, .inl s5)), (q3, .inl (cI, n2, .inl s6)), (q4, .inl (cI, n3, .inl s7)), (q5, .inl (cI, n4, .inl s8)), (q6, .inr (9, [.ref q7, .ref q8, .int s9, .int s10])), (q7, .inl (cI, n5, .inl s11)), (q8, .inl (cI, n6, .inl s12))] sz [.ref q0]) (va_Qi (fun r u => rv = r ∧ uv = u) (fun u t => zz_wo dC dI [(cI, .int), (cJ, .long), (cZ, .boolean)] (va_A [(q0, .inr (6, [.ref q1, .ref q2, .ref q3, .ref q4, .ref q5, .ref q6, .int s0, .int s1, .int s2, .int s3])), (q1, .inl (cI, n0, .inl s4)), (q2, .inl (cI, n1, .inl s5)), (q3, .inl (cI, n2, .inl s6)), (q4, .inl (cI, n3, .inl s7)), (q5, .inl (cI, n4, .inl s8)), (q6, .inr (9, [.ref q7, .ref q8, .int s9, .int s10])), (q7, .inl (cI, n5, .inl s11)), (q8, .inl (cI, n6, .inl s12))] sz) (ce_X7 cI cJ cZ q0 q1 q2 q3 q4 q5 q6 q7 q8 n0 n1 n2 n3 n4 n5 n6 u) t) (va_A [(q0, .inr (6, [.ref q1, .ref q2, .ref q3, .ref q4, .ref q5, .ref q6, .int s0, .int s1, .int s2, .int s3])), (q1, .inl (cI, n0, .inl s4)), (q2, .inl (cI, n1, .inl s5)), (q3, .inl (cI, n2, .inl s6)), (q4, .inl (cI, n3, .inl s7)), (q5, .inl (cI, n4, .inl s8)), (q6, .inr (9, [.ref q7, .ref q8, .int s9, .int s10])), (q7, .inl (cI, n5, .inl s11)), (q8, .inl (cI, n6, .inl s12))] sz)) 0 0 (va_A [(q0, .inr (6, [.ref q1, .ref q2, .ref q3, .ref q4, .ref q5, .ref q6, .int s0, .int s1, .int s2, .int s3])), (q1, .inl (cI, n0, .inl s4)), (q2, .inl (cI, n1, .inl s5)), (q3, .inl (cI, n2, .inl s6)), (q4, .inl (cI, n3, .inl s7)), (q5, .inl (cI, n4, .inl s8)), (q6, .inr (9, [.ref q7, .ref q8, .int s9, .int s10])), (q7, .inl (cI, n5, .inl s11)), (q8, .inl (cI, n6, .inl s12))] sz) := by
  refine Met.ofW (cc := cX7_spansTogether) (maxL := 3) (ret := (some .int)) (by decide) rfl ?_
  intro p e s m args below meth c s₁ B hml hv
  obtain ⟨rfl, hsz, hP, hK, hD0, hN⟩ := hv
  have hx := B.exec
  have hb := B.bytes
  have hr := B.returns
  have hts := atoms_spec (ws := wsX7_spansTogether) B.pre
  have hown : s.vm.findClass RX7 = some m.cls := findClass_of_methodNamed B.named
  have hlocks := B.notSynchronized
  have hS0 : CallFix p m c cX7_spansTogether 3 s #[.ref q0] wsX7_spansTogether RX7 := ⟨hx, hb, hml, hown, hts⟩
  subst hsz
  have hD := hD0.self (sz := s.heap.size)
  generalize hAe : va_A [(q0, .inr (6, [.ref q1, .ref q2, .ref q3, .ref q4, .ref q5, .ref q6, .int s0, .int s1, .int s2, .int s3])), (q1, .inl (cI, n0, .inl s4)), (q2, .inl (cI, n1, .inl s5)), (q3, .inl (cI, n2, .inl s6)), (q4, .inl (cI, n3, .inl s7)), (q5, .inl (cI, n4, .inl s8)), (q6, .inr (9, [.ref q7, .ref q8, .int s9, .int s10])), (q7, .inl (cI, n5, .inl s11)), (q8, .inl (cI, n6, .inl s12))] s.heap.size = A at hD ⊢
  have hA : ∀ q : Nat, s.heap.size ≤ q → A q := fun q h => by rw [← hAe]; exact Or.inr h
  have hS : va_S A s.heap s.heap [] := va_S.rf
  have hl := lv_entry ([.ref q0]) (n := 3) (Nat.le_of_ble_eq_true rfl)
  rw [lg_entry_eq]
  generalize (lg_sl ([.ref q0]) ++ List.replicate (3 - (lg_sl ([.ref q0])).length) Slot.unset).toArray = ls at hl ⊢
  have hl : lv_has ls 3 [(0, .ref q0)] := hl
  have inX7 := in_X7_spansTogether_X7
  have f21 := hts (.fieldLink RX7 21 "RoomForms$Room" "spans" "[I") (by decide +kernel)
  have f40 := hts (.fieldLink RX7 40 "RoomForms$Room" "blocks" "I") (by decide +kernel)
  unfold m_X7_spansTogether at hm
  refine lv_iconst (v := 0) hx hb dX7_spansTogether_0 (by decide) ?_
  refine lv_istore_n (lv' := [(1, .int ((0 : Int32))), (0, .ref q0)]) hx hb dX7_spansTogether_1 rfl hl (by decide) rfl (fun ls hl => ?_)
  refine lv_iconst (v := 0) hx hb dX7_spansTogether_2 (by decide) ?_
  refine lv_istore_n (lv' := [(2, .int ((0 : Int32))), (1, .int ((0 : Int32))), (0, .ref q0)]) hx hb dX7_spansTogether_3 rfl hl (by decide) rfl (fun ls hl => ?_)
  exact w_X7_spansTogether_L4 dC dI cI cJ cZ K q0 q1 q2 q3 q4 q5 q6 q7 q8 n0 n1 n2 n3 n4 n5 n6 A rv uv hS0 hr hlocks hA hK hN K ((0 : Int32)) ((0 : Int32)) s0 s1 s2 s3 s4 s5 s6 s7 s8 s9 s10 s11 s12 _ _ _ hm hP hD hS (lv_sub hl [2, 1, 0] rfl)
abbrev rm_X7_listRuns : Room := { frames := 1, cells := 0, slots := 0, locals := 22 }
theorem in_X7_listRuns_X7 : ∀ w ∈ wsX70, w ∈ wsX7_listRuns := by decide +kernel
def m_X7_listRuns_L11 (K : Nat) (n0 : Nat) (n1 : Nat) (n2 : Nat) (n3 : Nat) (n4 : Nat) (n5 : Nat) (n6 : Nat) : Nat → Int32 → Int32 → Int32 → Int32 → Int32 → Int32 → (Nat → Int32) → (Nat → Int32) → (Nat → Int32) → (Nat → Int32) → (Nat → Int32) → Int32 → Int32 → (Nat → Int32) → (Nat → Int32) → Option (Int32 × Int32 × Int32 × Int32 × (Nat → Int32) × (Nat → Int32) × (Nat → Int32) × (Nat → Int32) × (Nat → Int32) × Int32 × Int32 × (Nat → Int32) × (Nat → Int32))
  | 0, _, _, _, _, _, _, _, _, _, _, _, _, _, _, _ => none
  | k + 1, x1, x2, s0, s1, s2, s3, s4, s5, s6, s7, s8, s9, s10, s11, s12 =>
    if s0 < x2 then some ((s0, s1, s2, s3, s4, s5, s6, s7, s8, s9, s10, s11, s12))
    else ((m_X7_isFree K n0 n1 n2 n3 n4 n5 n6 x2 s0 s1 s2 s3 s4 s5 s6 s7 s8 s9 s10 s11 s12).bind fun ⟨r_3, t_3_0, t_3_1, t_3_2, t_3_3, t_3_4, t_3_5, t_3_6, t_3_7, t_3_8, t_3_9, t_3_10, t_3_11, t_3_12⟩ => (if r_3 = 0 then (if x2 ≤ x1 then m_X7_listRuns_L11 K n0 n1 n2 n3 n4 n5 n6 k (x2 + ((1 : Int32))) (x2 + 1) t_3_0 t_3_1 t_3_2 t_3_3 t_3_4 t_3_5 t_3_6 t_3_7 t_3_8 t_3_9 t_3_10 t_3_11 t_3_12
    else (m_X10_add K n5 n6 x1 (x2 - x1) t_3_9 t_3_10 t_3_11 t_3_12).bind fun ⟨t_6_0, t_6_1, t_6_2, t_6_3⟩ => m_X7_listRuns_L11 K n0 n1 n2 n3 n4 n5 n6 k (x2 + ((1 : Int32))) (x2 + 1) t_3_0 t_3_1 t_3_2 t_3_3 t_3_4 t_3_5 t_3_6 t_3_7 t_3_8 t_6_0 t_6_1 t_6_2 t_6_3)
    else m_X7_listRuns_L11 K n0 n1 n2 n3 n4 n5 n6 k x1 (x2 + 1) t_3_0 t_3_1 t_3_2 t_3_3 t_3_4 t_3_5 t_3_6 t_3_7 t_3_8 t_3_9 t_3_10 t_3_11 t_3_12))
theorem m_X7_listRuns_L11_s (K : Nat) (n0 : Nat) (n1 : Nat) (n2 : Nat) (n3 : Nat) (n4 : Nat) (n5 : Nat) (n6 : Nat) (k : Nat) (x1 : Int32) (x2 : Int32) (s0 : Int32) (s1 : Int32) (s2 : Int32) (s3 : Int32) (s4 : Nat → Int32) (s5 : Nat → Int32) (s6 : Nat → Int32) (s7 : Nat → Int32) (s8 : Nat → Int32) (s9 : Int32) (s10 : Int32) (s11 : Nat → Int32) (s12 : Nat → Int32) : m_X7_listRuns_L11 K n0 n1 n2 n3 n4 n5 n6 (k + 1) x1 x2 s0 s1 s2 s3 s4 s5 s6 s7 s8 s9 s10 s11 s12 =
    (if s0 < x2 then some ((s0, s1, s2, s3, s4, s5, s6, s7, s8, s9, s10, s11, s12))
    else ((m_X7_isFree K n0 n1 n2 n3 n4 n5 n6 x2 s0 s1 s2 s3 s4 s5 s6 s7 s8 s9 s10 s11 s12).bind fun ⟨r_3, t_3_0, t_3_1, t_3_2, t_3_3, t_3_4, t_3_5, t_3_6, t_3_7, t_3_8, t_3_9, t_3_10, t_3_11, t_3_12⟩ => (if r_3 = 0 then (if x2 ≤ x1 then m_X7_listRuns_L11 K n0 n1 n2 n3 n4 n5 n6 k (x2 + ((1 : Int32))) (x2 + 1) t_3_0 t_3_1 t_3_2 t_3_3 t_3_4 t_3_5 t_3_6 t_3_7 t_3_8 t_3_9 t_3_10 t_3_11 t_3_12
    else (m_X10_add K n5 n6 x1 (x2 - x1) t_3_9 t_3_10 t_3_11 t_3_12).bind fun ⟨t_6_0, t_6_1, t_6_2, t_6_3⟩ => m_X7_listRuns_L11 K n0 n1 n2 n3 n4 n5 n6 k (x2 + ((1 : Int32))) (x2 + 1) t_3_0 t_3_1 t_3_2 t_3_3 t_3_4 t_3_5 t_3_6 t_3_7 t_3_8 t_6_0 t_6_1 t_6_2 t_6_3)
    else m_X7_listRuns_L11 K n0 n1 n2 n3 n4 n5 n6 k x1 (x2 + 1) t_3_0 t_3_1 t_3_2 t_3_3 t_3_4 t_3_5 t_3_6 t_3_7 t_3_8 t_3_9 t_3_10 t_3_11 t_3_12))) := rfl
set_option maxHeartbeats 4000000 in
set_option maxRecDepth 100000 in
theorem w_X7_listRuns_L11 {p : Program} {l : Launch} {e : Env} {s : State} {m : MethodId} {args : Array Value} {below : List Frame} {meth : Method} {c : Code} (dC : Nat → ClassId) (dI : Nat → Nat → Nat) (cI cJ cZ : ClassId) (K : Nat) (q0 q1 q2 q3 q4 q5 q6 q7 q8 : Nat) (n0 : Nat) (n1 : Nat) (n2 : Nat) (n3 : Nat) (n4 : Nat) (n5 : Nat) (n6 : Nat) (A : Nat → Prop) (uv : Int32 × Int32 × Int32 × Int32 × (Nat → Int32) × (Nat → Int32) × (Nat → Int32) × (Nat → Int32) × (Nat → Int32) × Int32 × Int32 × (Nat → Int32) × (Nat → Int32)) (hS0 : CallFix p m c cX7_listRuns 3 s args wsX7_listRuns RX7) (hr : meth.sig.returnType = (some (.object "RoomForms$Stretches"))) (hlocks : meth.locks = false) (hA : ∀ q : Nat, s.heap.size ≤ q → A q) (hK : va_K (dC, dI) vwCl [(cI, .int), (cJ, .long), (cZ, .boolean)] s) (hN : zz_nw s) : ∀ (k : Nat) (x1 : Int32) (x2 : Int32) (s0 : Int32) (s1 : Int32) (s2 : Int32) (s3 : Int32) (s4 : Nat → Int32) (s5 : Nat → Int32) (s6 : Nat → Int32) (s7 : Nat → Int32) (s8 : Nat → Int32) (s9 : Int32) (s10 : Int32) (s11 : Nat → Int32) (s12 : Nat → Int32) (H : Heap) (locs : List Loc) (ls : Array Slot), m_X7_listRuns_L11 K n0 n1 n2 n3 n4 n5 n6 k x1 x2 s0 s1 s2 s3 s4 s5 s6 s7 s8 s9 s10 s11 s12 = some uv → va_P (dC, dI) vwCl [(q0, .inr (6, [.ref q1, .ref q2, .ref q3, .ref q4, .ref q5, .ref q6, .int s0, .int s1, .int s2, .int s3])), (q1, .inl (cI, n0, .inl s4)), (q2, .inl (cI, n1, .inl s5)), (q3, .inl (cI, n2, .inl s6)), (q4, .inl (cI, n3, .inl s7)), (q5, .inl (cI, n4, .inl s8)), (q6, .inr (9, [.ref q7, .ref q8, .int s9, .int s10])), (q7, .inl (cI, n5, .inl s11)), (q8, .inl (cI, n6, .inl s12))] H → va_D A [(q0, .inr (6, [.ref q1, .ref q2, .ref q3, .ref q4, .ref q5, .ref q6, .int s0, .int s1, .int s2, .int s3])), (q1, .inl (cI, n0, .inl s4)), (q2, .inl (cI, n1, .inl s5)), (q3, .inl (cI, n2, .inl s6)), (q4, .inl (cI, n3, .inl s7)), (q5, .inl (cI, n4, .inl s8)), (q6, .inr (9, [.ref q7, .ref q8, .int s9, .int s10])), (q7, .inl (cI, n5, .inl s11)), (q8, .inl (cI, n6, .inl s12))] → va_S A s.heap H locs → lv_has ls 3 [(0, .ref q0), (1, .int x1), (2, .int x2)] → W p l e rm_X7_listRuns s m args below meth c H locs 0 0 (MQ below (va_Qr (fun u => uv = u) (fun u ra t => q6 = ra ∧ zz_wo dC dI [(cI, .int), (cJ, .long), (cZ, .boolean)] A (ce_X7 cI cJ cZ q0 q1 q2 q3 q4 q5 q6 q7 q8 n0 n1 n2 n3 n4 n5 n6 u) t) A) args s 0 0 A) (F0 m 11 ls []) := by
  obtain ⟨hx, hb, hml, hown, hts⟩ := id hS0
  have inX7 := in_X7_listRuns_X7
  have f32 := hts (.fieldLink RX7 32 "RoomForms$Room" "runs" "LRoomForms$Stretches;") (by decide +kernel)
  have f36 := hts (.fieldLink RX7 36 "RoomForms$Room" "words" "I") (by decide +kernel)
  intro k
  induction k with
  | zero =>
    intro _ _ _ _ _ _ _ _ _ _ _ _ _ _ _ _ _ _ hm
    have hm9 : (none : Option (Int32 × Int32 × Int32 × Int32 × (Nat → Int32) × (Nat → Int32) × (Nat → Int32) × (Nat → Int32) × (Nat → Int32) × Int32 × Int32 × (Nat → Int32) × (Nat → Int32))) = some _ := hm
    cases hm9
  | succ k ih =>
    intro x1 x2 s0 s1 s2 s3 s4 s5 s6 s7 s8 s9 s10 s11 s12 H locs ls hm hP hD hS hl
    rw [m_X7_listRuns_L11_s] at hm
    refine lv_iload_n hx hb dX7_listRuns_11 rfl (lv_at hl 2 rfl) ?_
    refine lv_aload_n hx hb dX7_listRuns_12 rfl (lv_at hl 0 rfl) ?_
    refine va_get (D := (dC, dI)) (ci := 6) (v := .int s0) (C := RX7) (T := TX7) (N := 10) hx hb hts inX7 hown hK hP 0 rfl rfl 6 (by decide) f36 (fun _ h9 => h9) rfl dX7_listRuns_13 ?_
    refine lv_icmp_gt (tgt := 53) hx hb dX7_listRuns_16 (by decide) (fun c_2 => ?_) (fun c_2 => ?_)
    · replace hm := zz_t c_2 hm
      refine lv_aload_n hx hb dX7_listRuns_53 rfl (lv_at hl 0 rfl) ?_
      refine va_get (D := (dC, dI)) (ci := 6) (v := .ref q6) (C := RX7) (T := TX7) (N := 10) hx hb hts inX7 hown hK hP 0 rfl rfl 5 (by decide) f32 (fun _ h9 => h9) rfl dX7_listRuns_54 ?_
      have hm := Option.some.inj hm
      exact W.aret (v := .ref q6) hx hb hr (Or.inl ⟨_, rfl⟩) (Or.inr ⟨_, rfl⟩) (fun t ht hW => ⟨⟨(s0, s1, s2, s3, s4, s5, s6, s7, s8, s9, s10, s11, s12), q6, rfl, hm.symm, rfl, by rw [ht]; exact hP, va_K.moved hW.alike hK, hD⟩, hS.F ht⟩) hS.2.2 dX7_listRuns_57
    · replace hm := zz_f c_2 hm
      refine lv_aload_n hx hb dX7_listRuns_19 rfl (lv_at hl 0 rfl) ?_
      refine lv_iload_n hx hb dX7_listRuns_20 rfl (lv_at hl 2 rfl) ?_
      obtain ⟨⟨r_3, t_3_0, t_3_1, t_3_2, t_3_3, t_3_4, t_3_5, t_3_6, t_3_7, t_3_8, t_3_9, t_3_10, t_3_11, t_3_12⟩, hc_3, hm⟩ := zz_bind hm
      have hPc := hP.sub (ws' := [(q0, .inr (6, [.ref q1, .ref q2, .ref q3, .ref q4, .ref q5, .ref q6, .int s0, .int s1, .int s2, .int s3])), (q1, .inl (cI, n0, .inl s4)), (q2, .inl (cI, n1, .inl s5)), (q3, .inl (cI, n2, .inl s6)), (q4, .inl (cI, n3, .inl s7)), (q5, .inl (cI, n4, .inl s8)), (q6, .inr (9, [.ref q7, .ref q8, .int s9, .int s10])), (q7, .inl (cI, n5, .inl s11)), (q8, .inl (cI, n6, .inl s12))]) [0, 1, 2, 3, 4, 5, 6, 7, 8] rfl
      have hDc := hD.sub (ws' := [(q0, .inr (6, [.ref q1, .ref q2, .ref q3, .ref q4, .ref q5, .ref q6, .int s0, .int s1, .int s2, .int s3])), (q1, .inl (cI, n0, .inl s4)), (q2, .inl (cI, n1, .inl s5)), (q3, .inl (cI, n2, .inl s6)), (q4, .inl (cI, n3, .inl s7)), (q5, .inl (cI, n4, .inl s8)), (q6, .inr (9, [.ref q7, .ref q8, .int s9, .int s10])), (q7, .inl (cI, n5, .inl s11)), (q8, .inl (cI, n6, .inl s12))]) [0, 1, 2, 3, 4, 5, 6, 7, 8] (by decide) rfl
      have hFc := va_free (wc := [(q0, .inr (6, [.ref q1, .ref q2, .ref q3, .ref q4, .ref q5, .ref q6, .int s0, .int s1, .int s2, .int s3])), (q1, .inl (cI, n0, .inl s4)), (q2, .inl (cI, n1, .inl s5)), (q3, .inl (cI, n2, .inl s6)), (q4, .inl (cI, n3, .inl s7)), (q5, .inl (cI, n4, .inl s8)), (q6, .inr (9, [.ref q7, .ref q8, .int s9, .int s10])), (q7, .inl (cI, n5, .inl s11)), (q8, .inl (cI, n6, .inl s12))]) hD hS hA [0, 1, 2, 3, 4, 5, 6, 7, 8] rfl
      refine va_calli (va_runV (As := [.int x2]) (rest := []) hS0 (c_X7_isFree l dC dI cI cJ cZ K q0 q1 q2 q3 q4 q5 q6 q7 q8 n0 n1 n2 n3 n4 n5 n6 s0 s1 s2 s3 s4 s5 s6 s7 s8 s9 s10 s11 s12 x2 _ r_3 (t_3_0, t_3_1, t_3_2, t_3_3, t_3_4, t_3_5, t_3_6, t_3_7, t_3_8, t_3_9, t_3_10, t_3_11, t_3_12) hc_3) (cwV 1 hts gX7_listRuns_X7_isFree rfl rfl rfl (by decide +kernel) ⟨Nat.le_of_ble_eq_true rfl, Nat.le_of_ble_eq_true rfl⟩) (zz_pv hK hPc hDc hN (va_recv hK hPc (ci := 6) (q0 := 0) rfl rfl)) rfl rfl hl.1 rfl (lv_room (Nat.le_of_ble_eq_true rfl)) dX7_listRuns_21 ⟨Nat.zero_le _, Nat.zero_le _⟩) hS (fun q _ h => hFc q h) hFc (fun r u t H1 locs ht hvm hw hB hz1 hk1 hS => ?_)
      obtain ⟨rfl, rfl⟩ := hw
      obtain ⟨hP1, hK1, hD1⟩ := hB
      rw [ht] at hP1
      obtain ⟨hP, hD⟩ := va_join (wr := []) (w1 := [(q0, .inr (6, [.ref q1, .ref q2, .ref q3, .ref q4, .ref q5, .ref q6, .int t_3_0, .int t_3_1, .int t_3_2, .int t_3_3])), (q1, .inl (cI, n0, .inl t_3_4)), (q2, .inl (cI, n1, .inl t_3_5)), (q3, .inl (cI, n2, .inl t_3_6)), (q4, .inl (cI, n3, .inl t_3_7)), (q5, .inl (cI, n4, .inl t_3_8)), (q6, .inr (9, [.ref q7, .ref q8, .int t_3_9, .int t_3_10])), (q7, .inl (cI, n5, .inl t_3_11)), (q8, .inl (cI, n6, .inl t_3_12))]) hP hD [0, 1, 2, 3, 4, 5, 6, 7, 8] [] rfl rfl (by decide) (by decide) hk1 hFc hP1 hD1
      have hP : va_P (dC, dI) vwCl [(q0, .inr (6, [.ref q1, .ref q2, .ref q3, .ref q4, .ref q5, .ref q6, .int t_3_0, .int t_3_1, .int t_3_2, .int t_3_3])), (q1, .inl (cI, n0, .inl t_3_4)), (q2, .inl (cI, n1, .inl t_3_5)), (q3, .inl (cI, n2, .inl t_3_6)), (q4, .inl (cI, n3, .inl t_3_7)), (q5, .inl (cI, n4, .inl t_3_8)), (q6, .inr (9, [.ref q7, .ref q8, .int t_3_9, .int t_3_10])), (q7, .inl (cI, n5, .inl t_3_11)), (q8, .inl (cI, n6, .inl t_3_12))] _ := hP
      have hD : va_D A [(q0, .inr (6, [.ref q1, .ref q2, .ref q3, .ref q4, .ref q5, .ref q6, .int t_3_0, .int t_3_1, .int t_3_2, .int t_3_3])), (q1, .inl (cI, n0, .inl t_3_4)), (q2, .inl (cI, n1, .inl t_3_5)), (q3, .inl (cI, n2, .inl t_3_6)), (q4, .inl (cI, n3, .inl t_3_7)), (q5, .inl (cI, n4, .inl t_3_8)), (q6, .inr (9, [.ref q7, .ref q8, .int t_3_9, .int t_3_10])), (q7, .inl (cI, n5, .inl t_3_11)), (q8, .inl (cI, n6, .inl t_3_12))] := hD
      refine lv_if_ne (tgt := 47) hx hb dX7_listRuns_24 (by decide) (fun c_4 => ?_) (fun c_4 => ?_)
      · replace hm := zz_f c_4 hm
        refine lv_iinc (v := x2 + 1) (lv' := [(2, .int (x2 + 1)), (0, .ref q0), (1, .int x1)]) hx hb dX7_listRuns_47 hl (k := 2) rfl rfl (by decide) rfl (fun ls hl => ?_)
        refine lv_goto (tgt := 11) hx hb dX7_listRuns_50 (by decide) ?_
        exact ih x1 (x2 + 1) t_3_0 t_3_1 t_3_2 t_3_3 t_3_4 t_3_5 t_3_6 t_3_7 t_3_8 t_3_9 t_3_10 t_3_11 t_3_12 _ _ _ hm hP hD hS (lv_sub hl [1, 2, 0] rfl)
      · replace hm := zz_t c_4 hm
        refine lv_iload_n hx hb dX7_listRuns_27 rfl (lv_at hl 2 rfl) ?_
        refine lv_iload_n hx hb dX7_listRuns_28 rfl (lv_at hl 1 rfl) ?_
        refine lv_icmp_le (tgt := 43) hx hb dX7_listRuns_29 (by decide) (fun c_5 => ?_) (fun c_5 => ?_)
        · replace hm := zz_t c_5 hm
          refine lv_iload_n hx hb dX7_listRuns_43 rfl (lv_at hl 2 rfl) ?_
          refine lv_iconst (v := 1) hx hb dX7_listRuns_44 (by decide) ?_
          refine lv_iadd hx hb dX7_listRuns_45 ?_
          refine lv_istore_n (lv' := [(1, .int (x2 + ((1 : Int32)))), (0, .ref q0), (2, .int x2)]) hx hb dX7_listRuns_46 rfl hl (by decide) rfl (fun ls hl => ?_)
          refine lv_iinc (v := x2 + 1) (lv' := [(2, .int (x2 + 1)), (1, .int (x2 + ((1 : Int32)))), (0, .ref q0)]) hx hb dX7_listRuns_47 hl (k := 2) rfl rfl (by decide) rfl (fun ls hl => ?_)
          refine lv_goto (tgt := 11) hx hb dX7_listRuns_50 (by decide) ?_
          exact ih (x2 + ((1 : Int32))) (x2 + 1) t_3_0 t_3_1 t_3_2 t_3_3 t_3_4 t_3_5 t_3_6 t_3_7 t_3_8 t_3_9 t_3_10 t_3_11 t_3_12 _ _ _ hm hP hD hS (lv_sub hl [2, 1, 0] rfl)
        · replace hm := zz_f c_5 hm
          refine lv_aload_n hx hb dX7_listRuns_32 rfl (lv_at hl 0 rfl) ?_
          refine va_get (D := (dC, dI)) (ci := 6) (v := .ref q6) (C := RX7) (T := TX7) (N := 10) hx hb hts inX7 hown hK hP 0 rfl rfl 5 (by decide) f32 (fun _ h9 => h9) rfl dX7_listRuns_33 ?_
          refine lv_iload_n hx hb dX7_listRuns_36 rfl (lv_at hl 1 rfl) ?_
          refine lv_iload_n hx hb dX7_listRuns_37 rfl (lv_at hl 2 rfl) ?_
          refine lv_iload_n hx hb dX7_listRuns_38 rfl (lv_at hl 1 rfl) ?_
          refine lv_isub hx hb dX7_listRuns_39 ?_
          obtain ⟨⟨t_6_0, t_6_1, t_6_2, t_6_3⟩, hc_6, hm⟩ := zz_bind hm
          have hPc := hP.sub (ws' := [(q6, .inr (9, [.ref q7, .ref q8, .int t_3_9, .int t_3_10])), (q7, .inl (cI, n5, .inl t_3_11)), (q8, .inl (cI, n6, .inl t_3_12))]) [6, 7, 8] rfl
          have hDc := hD.sub (ws' := [(q6, .inr (9, [.ref q7, .ref q8, .int t_3_9, .int t_3_10])), (q7, .inl (cI, n5, .inl t_3_11)), (q8, .inl (cI, n6, .inl t_3_12))]) [6, 7, 8] (by decide) rfl
          have hFc := va_free (wc := [(q6, .inr (9, [.ref q7, .ref q8, .int t_3_9, .int t_3_10])), (q7, .inl (cI, n5, .inl t_3_11)), (q8, .inl (cI, n6, .inl t_3_12))]) hD hS hA [6, 7, 8] rfl
          refine va_callv (va_runV (As := [.int x1, .int (x2 - x1)]) (rest := []) hS0 (c_X10_add l dC dI cI cJ cZ K q6 q7 q8 n5 n6 t_3_9 t_3_10 t_3_11 t_3_12 x1 (x2 - x1) _ (t_6_0, t_6_1, t_6_2, t_6_3) hc_6) (cwV 2 hts gX7_listRuns_X10_add rfl rfl rfl (by decide +kernel) ⟨Nat.le_of_ble_eq_true rfl, Nat.le_of_ble_eq_true rfl⟩) (zz_pv hK hPc hDc hN (va_recv hK hPc (ci := 9) (q0 := 0) rfl rfl)) rfl rfl hl.1 rfl (lv_room (Nat.le_of_ble_eq_true rfl)) dX7_listRuns_40 ⟨Nat.zero_le _, Nat.zero_le _⟩) hS (fun q _ h => hFc q h) hFc (fun u t H1 locs ht hvm hw hB hz1 hk1 hS => ?_)
          subst hw
          obtain ⟨hP1, hK1, hD1⟩ := hB
          rw [ht] at hP1
          obtain ⟨hP, hD⟩ := va_join (wr := [(q0, .inr (6, [.ref q1, .ref q2, .ref q3, .ref q4, .ref q5, .ref q6, .int t_3_0, .int t_3_1, .int t_3_2, .int t_3_3])), (q1, .inl (cI, n0, .inl t_3_4)), (q2, .inl (cI, n1, .inl t_3_5)), (q3, .inl (cI, n2, .inl t_3_6)), (q4, .inl (cI, n3, .inl t_3_7)), (q5, .inl (cI, n4, .inl t_3_8))]) (w1 := [(q6, .inr (9, [.ref q7, .ref q8, .int t_6_0, .int t_6_1])), (q7, .inl (cI, n5, .inl t_6_2)), (q8, .inl (cI, n6, .inl t_6_3))]) hP hD [6, 7, 8] [0, 1, 2, 3, 4, 5] rfl rfl (by decide) (by decide) hk1 hFc hP1 hD1
          have hP : va_P (dC, dI) vwCl [(q0, .inr (6, [.ref q1, .ref q2, .ref q3, .ref q4, .ref q5, .ref q6, .int t_3_0, .int t_3_1, .int t_3_2, .int t_3_3])), (q1, .inl (cI, n0, .inl t_3_4)), (q2, .inl (cI, n1, .inl t_3_5)), (q3, .inl (cI, n2, .inl t_3_6)), (q4, .inl (cI, n3, .inl t_3_7)), (q5, .inl (cI, n4, .inl t_3_8)), (q6, .inr (9, [.ref q7, .ref q8, .int t_6_0, .int t_6_1])), (q7, .inl (cI, n5, .inl t_6_2)), (q8, .inl (cI, n6, .inl t_6_3))] _ := hP
          have hD : va_D A [(q0, .inr (6, [.ref q1, .ref q2, .ref q3, .ref q4, .ref q5, .ref q6, .int t_3_0, .int t_3_1, .int t_3_2, .int t_3_3])), (q1, .inl (cI, n0, .inl t_3_4)), (q2, .inl (cI, n1, .inl t_3_5)), (q3, .inl (cI, n2, .inl t_3_6)), (q4, .inl (cI, n3, .inl t_3_7)), (q5, .inl (cI, n4, .inl t_3_8)), (q6, .inr (9, [.ref q7, .ref q8, .int t_6_0, .int t_6_1])), (q7, .inl (cI, n5, .inl t_6_2)), (q8, .inl (cI, n6, .inl t_6_3))] := hD
          refine lv_iload_n hx hb dX7_listRuns_43 rfl (lv_at hl 2 rfl) ?_
          refine lv_iconst (v := 1) hx hb dX7_listRuns_44 (by decide) ?_
          refine lv_iadd hx hb dX7_listRuns_45 ?_
          refine lv_istore_n (lv' := [(1, .int (x2 + ((1 : Int32)))), (0, .ref q0), (2, .int x2)]) hx hb dX7_listRuns_46 rfl hl (by decide) rfl (fun ls hl => ?_)
          refine lv_iinc (v := x2 + 1) (lv' := [(2, .int (x2 + 1)), (1, .int (x2 + ((1 : Int32)))), (0, .ref q0)]) hx hb dX7_listRuns_47 hl (k := 2) rfl rfl (by decide) rfl (fun ls hl => ?_)
          refine lv_goto (tgt := 11) hx hb dX7_listRuns_50 (by decide) ?_
          exact ih (x2 + ((1 : Int32))) (x2 + 1) t_3_0 t_3_1 t_3_2 t_3_3 t_3_4 t_3_5 t_3_6 t_3_7 t_3_8 t_6_0 t_6_1 t_6_2 t_6_3 _ _ _ hm hP hD hS (lv_sub hl [2, 1, 0] rfl)
def m_X7_listRuns (K : Nat) (n0 : Nat) (n1 : Nat) (n2 : Nat) (n3 : Nat) (n4 : Nat) (n5 : Nat) (n6 : Nat) (s0 : Int32) (s1 : Int32) (s2 : Int32) (s3 : Int32) (s4 : Nat → Int32) (s5 : Nat → Int32) (s6 : Nat → Int32) (s7 : Nat → Int32) (s8 : Nat → Int32) (s9 : Int32) (s10 : Int32) (s11 : Nat → Int32) (s12 : Nat → Int32) : Option (Int32 × Int32 × Int32 × Int32 × (Nat → Int32) × (Nat → Int32) × (Nat → Int32) × (Nat → Int32) × (Nat → Int32) × Int32 × Int32 × (Nat → Int32) × (Nat → Int32)) :=
  (m_X10_clear K n5 n6 s9 s10 s11 s12).bind fun ⟨t_1_0, t_1_1, t_1_2, t_1_3⟩ => m_X7_listRuns_L11 K n0 n1 n2 n3 n4 n5 n6 K ((0 : Int32)) ((0 : Int32)) s0 s1 s2 s3 s4 s5 s6 s7 s8 t_1_0 t_1_1 t_1_2 t_1_3
set_option maxHeartbeats 4000000 in
set_option maxRecDepth 100000 in
theorem c_X7_listRuns (l : Launch) (dC : Nat → ClassId) (dI : Nat → Nat → Nat) (cI cJ cZ : ClassId) (K : Nat) (q0 q1 q2 q3 q4 q5 q6 q7 q8 : Nat) (n0 : Nat) (n1 : Nat) (n2 : Nat) (n3 : Nat) (n4 : Nat) (n5 : Nat) (n6 : Nat) (s0 : Int32) (s1 : Int32) (s2 : Int32) (s3 : Int32) (s4 : Nat → Int32) (s5 : Nat → Int32) (s6 : Nat → Int32) (s7 : Nat → Int32) (s8 : Nat → Int32) (s9 : Int32) (s10 : Int32) (s11 : Nat → Int32) (s12 : Nat → Int32) (sz : Nat) (uv : Int32 × Int32 × Int32 × Int32 × (Nat → Int32) × (Nat → Int32) × (Nat → Int32) × (Nat → Int32) × (Nat → Int32) × Int32 × Int32 × (Nat → Int32) × (Nat → Int32)) (hm : m_X7_listRuns K n0 n1 n2 n3 n4 n5 n6 s0 s1 s2 s3 s4 s5 s6 s7 s8 s9 s10 s11 s12 = some uv) : Met l yX7_listRuns wsX7_listRuns rm_X7_listRuns (zz_pre dC dI [(cI, .int), (cJ, .long), (cZ, .boolean)] [(q0, .inr (6, [.ref q1, .ref q2, .ref q3, .ref q4, .ref q5, .ref q6, .int s0, .int s1, .int s2, .int s3])), (q1, .inl (cI, n0, .inl s4)), (q2, .inl (cI, n1, .inl s5)), (q3, .inl (cI, n2, .inl s6)), (q4, .inl (cI, n3, .inl s7)), (q5, .inl (cI, n4, .inl s8)), (q6, .inr (9, [.ref q7, .ref q8, .int s9, .int s10])), (q7, .inl (cI, n5, .inl s11)), (q8, .inl (cI, n6, .inl s12))] sz [.ref q0]) (va_Qr (fun u => uv = u) (fun u ra t => q6 = ra ∧ zz_wo dC dI [(cI, .int), (cJ, .long), (cZ, .boolean)] (va_A [(q0, .inr (6, [.ref q1, .ref q2, .ref q3, .ref q4, .ref q5, .ref q6, .int s0, .int s1, .int s2, .int s3])), (q1, .inl (cI, n0, .inl s4)), (q2, .inl (cI, n1, .inl s5)), (q3, .inl (cI, n2, .inl s6)), (q4, .inl (cI, n3, .inl s7)), (q5, .inl (cI, n4, .inl s8)), (q6, .inr (9, [.ref q7, .ref q8, .int s9, .int s10])), (q7, .inl (cI, n5, .inl s11)), (q8, .inl (cI, n6, .inl s12))] sz) (ce_X7 cI cJ cZ q0 q1 q2 q3 q4 q5 q6 q7 q8 n0 n1 n2 n3 n4 n5 n6 u) t) (va_A [(q0, .inr (6, [.ref q1, .ref q2, .ref q3, .ref q4, .ref q5, .ref q6, .int s0, .int s1, .int s2, .int s3])), (q1, .inl (cI, n0, .inl s4)), (q2, .inl (cI, n1, .inl s5)), (q3, .inl (cI, n2, .inl s6)), (q4, .inl (cI, n3, .inl s7)), (q5, .inl (cI, n4, .inl s8)), (q6, .inr (9, [.ref q7, .ref q8, .int s9, .int s10])), (q7, .inl (cI, n5, .inl s11)), (q8, .inl (cI, n6, .inl s12))] sz)) 0 0 (va_A [(q0, .inr (6, [.ref q1, .ref q2, .ref q3, .ref q4, .ref q5, .ref q6, .int s0, .int s1, .int s2, .int s3])), (q1, .inl (cI, n0, .inl s4)), (q2, .inl (cI, n1, .inl s5)), (q3, .inl (cI, n2, .inl s6)), (q4, .inl (cI, n3, .inl s7)), (q5, .inl (cI, n4, .inl s8)), (q6, .inr (9, [.ref q7, .ref q8, .int s9, .int s10])), (q7, .inl (cI, n5, .inl s11)), (q8, .inl (cI, n6, .inl s12))] sz) := by
  refine Met.ofW (cc := cX7_listRuns) (maxL := 3) (ret := (some (.object "RoomForms$Stretches"))) (by decide) rfl ?_
  intro p e s m args below meth c s₁ B hml hv
  obtain ⟨rfl, hsz, hP, hK, hD0, hN⟩ := hv
  have hx := B.exec
  have hb := B.bytes
  have hr := B.returns
  have hts := atoms_spec (ws := wsX7_listRuns) B.pre
  have hown : s.vm.findClass RX7 = some m.cls := findClass_of_methodNamed B.named
  have hlocks := B.notSynchronized
  have hS0 : CallFix p m c cX7_listRuns 3 s #[.ref q0] wsX7_listRuns RX7 := ⟨hx, hb, hml, hown, hts⟩
  subst hsz
  have hD := hD0.self (sz := s.heap.size)
  generalize hAe : va_A [(q0, .inr (6, [.ref q1, .ref q2, .ref q3, .ref q4, .ref q5, .ref q6, .int s0, .int s1, .int s2, .int s3])), (q1, .inl (cI, n0, .inl s4)), (q2, .inl (cI, n1, .inl s5)), (q3, .inl (cI, n2, .inl s6)), (q4, .inl (cI, n3, .inl s7)), (q5, .inl (cI, n4, .inl s8)), (q6, .inr (9, [.ref q7, .ref q8, .int s9, .int s10])), (q7, .inl (cI, n5, .inl s11)), (q8, .inl (cI, n6, .inl s12))] s.heap.size = A at hD ⊢
  have hA : ∀ q : Nat, s.heap.size ≤ q → A q := fun q h => by rw [← hAe]; exact Or.inr h
  have hS : va_S A s.heap s.heap [] := va_S.rf
  have hl := lv_entry ([.ref q0]) (n := 3) (Nat.le_of_ble_eq_true rfl)
  rw [lg_entry_eq]
  generalize (lg_sl ([.ref q0]) ++ List.replicate (3 - (lg_sl ([.ref q0])).length) Slot.unset).toArray = ls at hl ⊢
  have hl : lv_has ls 3 [(0, .ref q0)] := hl
  have inX7 := in_X7_listRuns_X7
  have f32 := hts (.fieldLink RX7 32 "RoomForms$Room" "runs" "LRoomForms$Stretches;") (by decide +kernel)
  have f36 := hts (.fieldLink RX7 36 "RoomForms$Room" "words" "I") (by decide +kernel)
  unfold m_X7_listRuns at hm
  refine lv_aload_n hx hb dX7_listRuns_0 rfl (lv_at hl 0 rfl) ?_
  refine va_get (D := (dC, dI)) (ci := 6) (v := .ref q6) (C := RX7) (T := TX7) (N := 10) hx hb hts inX7 hown hK hP 0 rfl rfl 5 (by decide) f32 (fun _ h9 => h9) rfl dX7_listRuns_1 ?_
  obtain ⟨⟨t_1_0, t_1_1, t_1_2, t_1_3⟩, hc_1, hm⟩ := zz_bind hm
  have hPc := hP.sub (ws' := [(q6, .inr (9, [.ref q7, .ref q8, .int s9, .int s10])), (q7, .inl (cI, n5, .inl s11)), (q8, .inl (cI, n6, .inl s12))]) [6, 7, 8] rfl
  have hDc := hD.sub (ws' := [(q6, .inr (9, [.ref q7, .ref q8, .int s9, .int s10])), (q7, .inl (cI, n5, .inl s11)), (q8, .inl (cI, n6, .inl s12))]) [6, 7, 8] (by decide) rfl
  have hFc := va_free (wc := [(q6, .inr (9, [.ref q7, .ref q8, .int s9, .int s10])), (q7, .inl (cI, n5, .inl s11)), (q8, .inl (cI, n6, .inl s12))]) hD hS hA [6, 7, 8] rfl
  refine va_callv (va_runV (As := []) (rest := []) hS0 (c_X10_clear l dC dI cI cJ cZ K q6 q7 q8 n5 n6 s9 s10 s11 s12 _ (t_1_0, t_1_1, t_1_2, t_1_3) hc_1) (cwV 0 hts gX7_listRuns_X10_clear rfl rfl rfl (by decide +kernel) ⟨Nat.le_of_ble_eq_true rfl, Nat.le_of_ble_eq_true rfl⟩) (zz_pv hK hPc hDc hN (va_recv hK hPc (ci := 9) (q0 := 0) rfl rfl)) rfl rfl hl.1 rfl (lv_room (Nat.le_of_ble_eq_true rfl)) dX7_listRuns_4 ⟨Nat.zero_le _, Nat.zero_le _⟩) hS (fun q _ h => hFc q h) hFc (fun u t H1 locs ht hvm hw hB hz1 hk1 hS => ?_)
  subst hw
  obtain ⟨hP1, hK1, hD1⟩ := hB
  rw [ht] at hP1
  obtain ⟨hP, hD⟩ := va_join (wr := [(q0, .inr (6, [.ref q1, .ref q2, .ref q3, .ref q4, .ref q5, .ref q6, .int s0, .int s1, .int s2, .int s3])), (q1, .inl (cI, n0, .inl s4)), (q2, .inl (cI, n1, .inl s5)), (q3, .inl (cI, n2, .inl s6)), (q4, .inl (cI, n3, .inl s7)), (q5, .inl (cI, n4, .inl s8))]) (w1 := [(q6, .inr (9, [.ref q7, .ref q8, .int t_1_0, .int t_1_1])), (q7, .inl (cI, n5, .inl t_1_2)), (q8, .inl (cI, n6, .inl t_1_3))]) hP hD [6, 7, 8] [0, 1, 2, 3, 4, 5] rfl rfl (by decide) (by decide) hk1 hFc hP1 hD1
  have hP : va_P (dC, dI) vwCl [(q0, .inr (6, [.ref q1, .ref q2, .ref q3, .ref q4, .ref q5, .ref q6, .int s0, .int s1, .int s2, .int s3])), (q1, .inl (cI, n0, .inl s4)), (q2, .inl (cI, n1, .inl s5)), (q3, .inl (cI, n2, .inl s6)), (q4, .inl (cI, n3, .inl s7)), (q5, .inl (cI, n4, .inl s8)), (q6, .inr (9, [.ref q7, .ref q8, .int t_1_0, .int t_1_1])), (q7, .inl (cI, n5, .inl t_1_2)), (q8, .inl (cI, n6, .inl t_1_3))] _ := hP
  have hD : va_D A [(q0, .inr (6, [.ref q1, .ref q2, .ref q3, .ref q4, .ref q5, .ref q6, .int s0, .int s1, .int s2, .int s3])), (q1, .inl (cI, n0, .inl s4)), (q2, .inl (cI, n1, .inl s5)), (q3, .inl (cI, n2, .inl s6)), (q4, .inl (cI, n3, .inl s7)), (q5, .inl (cI, n4, .inl s8)), (q6, .inr (9, [.ref q7, .ref q8, .int t_1_0, .int t_1_1])), (q7, .inl (cI, n5, .inl t_1_2)), (q8, .inl (cI, n6, .inl t_1_3))] := hD
  refine lv_iconst (v := 0) hx hb dX7_listRuns_7 (by decide) ?_
  refine lv_istore_n (lv' := [(1, .int ((0 : Int32))), (0, .ref q0)]) hx hb dX7_listRuns_8 rfl hl (by decide) rfl (fun ls hl => ?_)
  refine lv_iconst (v := 0) hx hb dX7_listRuns_9 (by decide) ?_
  refine lv_istore_n (lv' := [(2, .int ((0 : Int32))), (1, .int ((0 : Int32))), (0, .ref q0)]) hx hb dX7_listRuns_10 rfl hl (by decide) rfl (fun ls hl => ?_)
  exact w_X7_listRuns_L11 dC dI cI cJ cZ K q0 q1 q2 q3 q4 q5 q6 q7 q8 n0 n1 n2 n3 n4 n5 n6 A uv hS0 hr hlocks hA hK hN K ((0 : Int32)) ((0 : Int32)) s0 s1 s2 s3 s4 s5 s6 s7 s8 t_1_0 t_1_1 t_1_2 t_1_3 _ _ _ hm hP hD hS (lv_sub hl [2, 1, 0] rfl)

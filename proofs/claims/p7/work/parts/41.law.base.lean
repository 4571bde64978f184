/-! worlds as lists side by side -/
theorem zz_Pl {D : va_G} {cl : List vw_C} {a b : va_W} {H : Heap} (h : va_P D cl (a ++ b) H) : va_P D cl a H := fun k q hk => h k q (by rw [List.getElem?_append_left (List.getElem?_eq_some_iff.mp hk).1]; exact hk)
theorem zz_Pr {D : va_G} {cl : List vw_C} {a b : va_W} {H : Heap} (h : va_P D cl (a ++ b) H) : va_P D cl b H := fun k q hk => h (a.length + k) q (by rw [List.getElem?_append_right (Nat.le_add_right _ _), Nat.add_sub_cancel_left]; exact hk)
theorem zz_gl {a b : va_W} {k : Nat} {q : Nat × va_E} (hk : a[k]? = some q) : (a ++ b)[k]? = some q := by rw [List.getElem?_append_left (List.getElem?_eq_some_iff.mp hk).1]; exact hk
theorem zz_gr {a b : va_W} {k : Nat} {q : Nat × va_E} (hk : b[k]? = some q) : (a ++ b)[a.length + k]? = some q := by rw [List.getElem?_append_right (Nat.le_add_right _ _), Nat.add_sub_cancel_left]; exact hk
theorem zz_Dl {A : Nat → Prop} {a b : va_W} (h : va_D A (a ++ b)) : va_D A a := ⟨fun i j p q hi hj e => h.1 i j p q (zz_gl hi) (zz_gl hj) e, fun k q hk => h.2 k q (zz_gl hk)⟩
theorem zz_Dr {A : Nat → Prop} {a b : va_W} (h : va_D A (a ++ b)) : va_D A b := ⟨fun i j p q hi hj e => Nat.add_left_cancel (h.1 _ _ p q (zz_gr hi) (zz_gr hj) e), fun k q hk => h.2 _ q (zz_gr hk)⟩
theorem zz_Dx {A : Nat → Prop} {a b : va_W} (h : va_D A (a ++ b)) (i j : Nat) (p q : Nat × va_E) (hi : a[i]? = some p) (hj : b[j]? = some q) : p.1 ≠ q.1 := fun e => by
  have h1 := h.1 _ _ p q (zz_gl hi) (zz_gr hj) e
  have h2 := (List.getElem?_eq_some_iff.mp hi).1
  omega
theorem zz_out {D : va_G} {cl : List vw_C} {wc wr : va_W} {H : Heap} (hP : va_P D cl wr H) (hx : ∀ (i j : Nat) (p q : Nat × va_E), wc[i]? = some p → wr[j]? = some q → p.1 ≠ q.1) (k : Nat) (q : Nat × va_E) (hk : wr[k]? = some q) : ¬ va_A wc H.size q.1 := fun h => by
  rcases h with ⟨i, e, hi⟩ | h
  · exact hx i k (q.1, e) q hi hk rfl
  · exact absurd (hP k q hk).lt (Nat.not_lt.mpr h)
theorem zz_freeW {A0 : Nat → Prop} {wc : va_W} {H0 H : Heap} {locs : List Loc} (hD : va_D A0 wc) (hS : va_S A0 H0 H locs) (hA : ∀ q, H0.size ≤ q → A0 q) : ∀ q, va_A wc H.size q → A0 q := fun q h => by
  rcases h with ⟨i, e, hi⟩ | h
  · exact hD.2 i _ hi
  · exact hA q (Nat.le_trans hS.1 h)
theorem zz_join0 {A0 : Nat → Prop} {D : va_G} {cl : List vw_C} {wc wr w1 : va_W} {H H1 : Heap} (hPr : va_P D cl wr H) (hDr : va_D A0 wr) (hx : ∀ (i j : Nat) (p q : Nat × va_E), wc[i]? = some p → wr[j]? = some q → p.1 ≠ q.1) (hk1 : ∀ q : Nat, q < H.size → ¬ va_A wc H.size q → H1[q]? = H[q]?) (hFc : ∀ q, va_A wc H.size q → A0 q) (hP1 : va_P D cl w1 H1) (hD1 : va_D (va_A wc H.size) w1) : va_P D cl wr H1 ∧ va_D A0 w1 ∧ (∀ (i j : Nat) (p q : Nat × va_E), w1[i]? = some p → wr[j]? = some q → p.1 ≠ q.1) :=
  ⟨hPr.kept (fun k q hk => hk1 q.1 (hPr k q hk).lt (zz_out hPr hx k q hk)), hD1.weaken (fun _ _ _ h => hFc _ h), fun i j p q hi hj e => zz_out hPr hx j q hj (by rw [← e]; exact hD1.2 i p hi)⟩
theorem zz_joinA {A0 : Nat → Prop} {D : va_G} {cl : List vw_C} {wc wr w1 : va_W} {H H1 : Heap} (hP : va_P D cl (wc ++ wr) H) (hD : va_D A0 (wc ++ wr)) (hk1 : ∀ q : Nat, q < H.size → ¬ va_A wc H.size q → H1[q]? = H[q]?) (hFc : ∀ q, va_A wc H.size q → A0 q) (hP1 : va_P D cl w1 H1) (hD1 : va_D (va_A wc H.size) w1) : va_P D cl (w1 ++ wr) H1 ∧ va_D A0 (w1 ++ wr) := by
  obtain ⟨h1, h2, h3⟩ := zz_join0 (zz_Pr hP) (zz_Dr hD) (zz_Dx hD) hk1 hFc hP1 hD1
  exact ⟨hP1.app h1, h2.app (zz_Dr hD) h3⟩
theorem zz_joinB {A0 : Nat → Prop} {D : va_G} {cl : List vw_C} {wc wr w1 : va_W} {H H1 : Heap} (hP : va_P D cl (wr ++ wc) H) (hD : va_D A0 (wr ++ wc)) (hk1 : ∀ q : Nat, q < H.size → ¬ va_A wc H.size q → H1[q]? = H[q]?) (hFc : ∀ q, va_A wc H.size q → A0 q) (hP1 : va_P D cl w1 H1) (hD1 : va_D (va_A wc H.size) w1) : va_P D cl (wr ++ w1) H1 ∧ va_D A0 (wr ++ w1) := by
  obtain ⟨h1, h2, h3⟩ := zz_join0 (zz_Pl hP) (zz_Dl hD) (fun i j p q hi hj e => zz_Dx hD j i q p hj hi e.symm) hk1 hFc hP1 hD1
  exact ⟨h1.app hP1, (zz_Dl hD).app h2 (fun i j p q hi hj e => h3 j i q p hj hi e.symm)⟩
/-! what a method of the class does to its world, as the law's methods need it -/
def zz_CXi (l : Launch) (y : MethodName) (ws : List Cond) (rm : Room) (dC : Nat → ClassId) (dI : Nat → Nat → Nat) (cI cJ cZ cF : ClassId) (x : Nat) (wX : va_W) (av : List Value) (mc ms : Nat) (Rn : Int32 → va_W → Prop) (Rx : String → va_W → Prop) : Prop :=
  ∀ sz : Nat, vx_Met l y ws rm (zz_prx dC dI [(cI, .int), (cJ, .long), (cZ, .boolean), (cF, .object "RoomForms$Form")] wX sz (.ref x :: av)) (va_Qi (fun r (u : va_W) => Rn r u) (fun u t => zz_wo dC dI [(cI, .int), (cJ, .long), (cZ, .boolean), (cF, .object "RoomForms$Form")] (va_A wX sz) u t) (va_A wX sz)) (vx_X (fun _ : va_W => True) (fun E u t => Rx E u ∧ zz_wo dC dI [(cI, .int), (cJ, .long), (cZ, .boolean), (cF, .object "RoomForms$Form")] (va_A wX sz) u t) (va_A wX sz)) mc ms (va_A wX sz)
def zz_CXv (l : Launch) (y : MethodName) (ws : List Cond) (rm : Room) (dC : Nat → ClassId) (dI : Nat → Nat → Nat) (cI cJ cZ cF : ClassId) (x : Nat) (wX : va_W) (av : List Value) (mc ms : Nat) (Rn : va_W → Prop) (Rx : String → va_W → Prop) : Prop :=
  ∀ sz : Nat, vx_Met l y ws rm (zz_prx dC dI [(cI, .int), (cJ, .long), (cZ, .boolean), (cF, .object "RoomForms$Form")] wX sz (.ref x :: av)) (va_Qv (fun (u : va_W) => Rn u) (fun u t => zz_wo dC dI [(cI, .int), (cJ, .long), (cZ, .boolean), (cF, .object "RoomForms$Form")] (va_A wX sz) u t) (va_A wX sz)) (vx_X (fun _ : va_W => True) (fun E u t => Rx E u ∧ zz_wo dC dI [(cI, .int), (cJ, .long), (cZ, .boolean), (cF, .object "RoomForms$Form")] (va_A wX sz) u t) (va_A wX sz)) mc ms (va_A wX sz)
theorem zz_recv {s : State} {H : Heap} {dC : Nat → ClassId} {dI : Nat → Nat → Nat} {tys : List (ClassId × FieldType)} {ws : va_W} {x : Nat} {fs : List Value} (hK : va_K (dC, dI) vwCl tys s) (hP : va_P (dC, dI) vwCl ws H) (h : ws[0]? = some (x, .inr (10, fs))) : ∃ cell : Cell, H[x]? = some cell ∧ cell.vm.isStatics = false ∧ s.vm.findClass RX11 = some cell.cls := va_recv hK hP (ci := 10) (q0 := 0) rfl h

/-! base: words of the contracts, rows for the model -/
def zz_nw (U : State) : Prop := va_Nw (.methodLinkNest RX11 165 yX8_init "RoomForms") U ∧ va_Nw (.methodLinkNest RX11 9 yX7_init "RoomForms") U ∧ va_Nw (.methodLinkNest RX2 25 yX11_powerFrom "RoomForms") U ∧ va_Nw (.methodLinkNest RX3 29 yX11_powerFrom "RoomForms") U ∧ va_Nw (.methodLinkNest RX5 38 yX11_powerFrom "RoomForms") U
theorem zz_nw.same {u U : State} (h : u.vm = U.vm) (q : zz_nw u) : zz_nw U := ⟨va_Nw.same rfl h q.1, va_Nw.same rfl h q.2.1, va_Nw.same rfl h q.2.2.1, va_Nw.same rfl h q.2.2.2.1, va_Nw.same rfl h q.2.2.2.2⟩
theorem zz_nw.warm {s U : State} (h : s.WarmedH U.vm) (q : zz_nw s) : zz_nw U := ⟨va_Nw.warmM h q.1, va_Nw.warmM h q.2.1, va_Nw.warmM h q.2.2.1, va_Nw.warmM h q.2.2.2.1, va_Nw.warmM h q.2.2.2.2⟩
abbrev zz_pre (dC : Nat → ClassId) (dI : Nat → Nat → Nat) (tys : List (ClassId × FieldType)) (ws : va_W) (sz : Nat) (av : List Value) : Array Value → State → Prop := va_Pc av (fun U => U.heap.size = sz ∧ va_P (dC, dI) vwCl ws U.heap ∧ va_K (dC, dI) vwCl tys U ∧ va_D (fun _ => True) ws ∧ zz_nw U)
abbrev zz_wo (dC : Nat → ClassId) (dI : Nat → Nat → Nat) (tys : List (ClassId × FieldType)) (A : Nat → Prop) (ws : va_W) (t : State) : Prop := va_P (dC, dI) vwCl ws t.heap ∧ va_K (dC, dI) vwCl tys t ∧ va_D A ws
theorem zz_t {α : Type} {c : Prop} {i : Decidable c} {a b r : α} (h : c) (e : @ite α c i a b = r) : a = r := by rw [if_pos h] at e; exact e
theorem zz_f {α : Type} {c : Prop} {i : Decidable c} {a b r : α} (h : ¬ c) (e : @ite α c i a b = r) : b = r := by rw [if_neg h] at e; exact e
theorem zz_chk {α : Type} {c : Prop} {i : Decidable c} {a : Option α} {r : α} (e : @ite (Option α) c i a none = some r) : c ∧ a = some r := by
  by_cases h : c
  · rw [if_pos h] at e; exact ⟨h, e⟩
  · rw [if_neg h] at e; cases e
theorem zz_bind {α β : Type} {x : Option α} {f : α → Option β} {r : β} (e : x.bind f = some r) : ∃ a, x = some a ∧ f a = some r := by
  cases x with
  | none => cases e
  | some a => exact ⟨a, rfl, e⟩
abbrev zz_max (x y : Int32) : Int32 := if x < y then y else x
abbrev zz_min (x y : Int32) : Int32 := if y < x then y else x
theorem zz_fb {dC : Nat → ClassId} {dI : Nat → Nat → Nat} {tys : List (ClassId × FieldType)} {ws : va_W} {sz : Nat} {av : List Value} : FrameBlind (zz_pre dC dI tys ws sz av) := fun a U g mk q => by
  obtain ⟨q0, q1, qP, qK, qD, qN⟩ := q
  exact ⟨q0, q1, qP, va_K.moved (u := U) (U := U.calling g mk a) (Vm.Alike.refl U.vm) qK, qD, zz_nw.same (u := U) (U := U.calling g mk a) rfl qN⟩
theorem zz_pv {s : State} {H : Heap} {C : String} {b : Nat} {As : List Value} {dC : Nat → ClassId} {dI : Nat → Nat → Nat} {tys : List (ClassId × FieldType)} {ws : va_W} {A : Nat → Prop} (hK : va_K (dC, dI) vwCl tys s) (hP : va_P (dC, dI) vwCl ws H) (hD : va_D A ws) (hN : zz_nw s) (hrec : ∃ cellB : Cell, H[b]? = some cellB ∧ cellB.vm.isStatics = false ∧ s.vm.findClass C = some cellB.cls) : PreV s H C b (zz_pre dC dI tys ws H.size (.ref b :: As)) As :=
  ⟨zz_fb, hrec, fun U hU hW => ⟨rfl, by rw [hU], by rw [hU]; exact hP, va_K.moved hW.alike hK, hD.weaken (fun _ _ _ _ => trivial), hN.warm hW⟩⟩
theorem zz_ps {s : State} {H : Heap} {As : List Value} {dC : Nat → ClassId} {dI : Nat → Nat → Nat} {tys : List (ClassId × FieldType)} {ws : va_W} {A : Nat → Prop} (hK : va_K (dC, dI) vwCl tys s) (hP : va_P (dC, dI) vwCl ws H) (hD : va_D A ws) (hN : zz_nw s) : PreS s H (zz_pre dC dI tys ws H.size As) As :=
  ⟨zz_fb, fun U hU hW => ⟨rfl, by rw [hU], by rw [hU]; exact hP, va_K.moved hW.alike hK, hD.weaken (fun _ _ _ _ => trivial), hN.warm hW⟩⟩

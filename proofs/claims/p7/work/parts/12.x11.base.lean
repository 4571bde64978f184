/-! base of RoomForms' own methods: they may throw -/
abbrev zz_prx (dC : Nat → ClassId) (dI : Nat → Nat → Nat) (tys : List (ClassId × FieldType)) (ws : va_W) (sz : Nat) (av : List Value) : Array Value → State → Prop := va_Pc av (fun U => U.heap.size = sz ∧ va_P (dC, dI) vwCl ws U.heap ∧ va_K (dC, dI) vwCl tys U ∧ va_D (fun _ => True) ws ∧ zz_nw U ∧ vx_Zq Bundle.tN "UNASSIGNED_STACK" Bundle.steD (va_A ws sz) U U.heap ∧ vx_Zq Bundle.tN "SUPPRESSED_SENTINEL" Bundle.listD (va_A ws sz) U U.heap)
theorem zz_fbx {dC : Nat → ClassId} {dI : Nat → Nat → Nat} {tys : List (ClassId × FieldType)} {ws : va_W} {sz : Nat} {av : List Value} : FrameBlind (zz_prx dC dI tys ws sz av) := fun a U g mk q => by
  obtain ⟨q0, q1, qP, qK, qD, qN, qU, qQ⟩ := q
  exact ⟨q0, q1, qP, va_K.moved (u := U) (U := U.calling g mk a) (Vm.Alike.refl U.vm) qK, qD, zz_nw.same (u := U) (U := U.calling g mk a) rfl qN, vx_Zq.moved (u := U) (U := U.calling g mk a) (Vm.Alike.refl U.vm) qU, vx_Zq.moved (u := U) (U := U.calling g mk a) (Vm.Alike.refl U.vm) qQ⟩
theorem zz_zq {C n d : String} {A B : Nat → Prop} {s U : State} {H : Heap} {locs : List Loc} (h : vx_Zq C n d A s s.heap) (hS : va_S A s.heap H locs) (hAB : ∀ q, B q → A q) (hU : U.heap = H) (hW : s.WarmedH U.vm) : vx_Zq C n d B U U.heap := by
  rw [hU]
  exact vx_Zq.moved hW.alike ((h.kept (H1 := H) (fun a h1 h2 => hS.2.1 a h1 h2)).narrow hAB)
theorem zz_pvx {s : State} {H : Heap} {C : String} {b : Nat} {As : List Value} {dC : Nat → ClassId} {dI : Nat → Nat → Nat} {tys : List (ClassId × FieldType)} {ws : va_W} {A : Nat → Prop} {locs : List Loc} {B : Nat → Prop} (hK : va_K (dC, dI) vwCl tys s) (hP : va_P (dC, dI) vwCl ws H) (hD : va_D B ws) (hN : zz_nw s) (hU : vx_Zq Bundle.tN "UNASSIGNED_STACK" Bundle.steD A s s.heap) (hQ : vx_Zq Bundle.tN "SUPPRESSED_SENTINEL" Bundle.listD A s s.heap) (hS : va_S A s.heap H locs) (hF : ∀ q, va_A ws H.size q → A q) (hrec : ∃ cellB : Cell, H[b]? = some cellB ∧ cellB.vm.isStatics = false ∧ s.vm.findClass C = some cellB.cls) : PreV s H C b (zz_prx dC dI tys ws H.size (.ref b :: As)) As :=
  ⟨zz_fbx, hrec, fun U hU1 hW => ⟨rfl, by rw [hU1], by rw [hU1]; exact hP, va_K.moved hW.alike hK, hD.weaken (fun _ _ _ _ => trivial), hN.warm hW, zz_zq hU hS hF hU1 hW, zz_zq hQ hS hF hU1 hW⟩⟩
abbrev rm_X11_about : Room := { frames := 7, cells := 2, slots := 12, locals := 112 }
abbrev rm_X11_at : Room := { frames := 7, cells := 1, slots := 6, locals := 110 }
abbrev rm_X11_back : Room := { frames := 7, cells := 2, slots := 12, locals := 112 }
abbrev rm_X11_count : Room := { frames := 6, cells := 1, slots := 6, locals := 90 }
abbrev rm_X11_countInForm : Room := { frames := 2, cells := 0, slots := 0, locals := 40 }
abbrev rm_X11_countInRoom : Room := { frames := 2, cells := 0, slots := 0, locals := 44 }
abbrev rm_X11_give : Room := { frames := 7, cells := 2, slots := 12, locals := 114 }
abbrev rm_X11_list : Room := { frames := 7, cells := 2, slots := 12, locals := 110 }
abbrev rm_X11_needBlock : Room := { frames := 6, cells := 1, slots := 6, locals := 90 }
abbrev rm_X11_needRoom : Room := { frames := 6, cells := 1, slots := 6, locals := 90 }
abbrev rm_X11_open : Room := { frames := 6, cells := 1, slots := 6, locals := 90 }
abbrev rm_X11_run : Room := { frames := 7, cells := 2, slots := 12, locals := 110 }
abbrev rm_X11_worst_S : Room := { frames := 7, cells := 1, slots := 6, locals := 169 }
abbrev rm_X11_worst_W : Room := { frames := 7, cells := 6, slots := 52809, locals := 169 }
abbrev rm_X11_worst_X : Room := { frames := 6, cells := 1, slots := 6, locals := 90 }

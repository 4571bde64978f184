/-! class and reference together, every form -/
def zz_JK (f : Int32) (P0 P1 P2 P3 P4 P5 P6 P7 P8 P9 : Prop) : Prop := (f = 0 → P0) ∧ (f = 1 → P1) ∧ (f = 2 → P2) ∧ (f = 3 → P3) ∧ (f = 4 → P4) ∧ (f = 5 → P5) ∧ (f = 6 → P6) ∧ (f = 7 → P7) ∧ (f = 8 → P8) ∧ (f = 9 → P9)
theorem zz_JK_m0 {x : Int32} {P0 P1 P2 P3 P4 P5 P6 P7 P8 P9 : Prop} (h : x = 0) (p : P0) : zz_JK x P0 P1 P2 P3 P4 P5 P6 P7 P8 P9 := by
  subst h
  exact ⟨fun _ => p, fun h => absurd h (by decide), fun h => absurd h (by decide), fun h => absurd h (by decide), fun h => absurd h (by decide), fun h => absurd h (by decide), fun h => absurd h (by decide), fun h => absurd h (by decide), fun h => absurd h (by decide), fun h => absurd h (by decide)⟩
theorem zz_JK_a0 {x : Int32} {P0 P1 P2 P3 P4 P5 P6 P7 P8 P9 : Prop} (h : zz_JK x P0 P1 P2 P3 P4 P5 P6 P7 P8 P9) (hx : x = 0) : P0 := h.1 hx
theorem zz_JK_m1 {x : Int32} {P0 P1 P2 P3 P4 P5 P6 P7 P8 P9 : Prop} (h : x = 1) (p : P1) : zz_JK x P0 P1 P2 P3 P4 P5 P6 P7 P8 P9 := by
  subst h
  exact ⟨fun h => absurd h (by decide), fun _ => p, fun h => absurd h (by decide), fun h => absurd h (by decide), fun h => absurd h (by decide), fun h => absurd h (by decide), fun h => absurd h (by decide), fun h => absurd h (by decide), fun h => absurd h (by decide), fun h => absurd h (by decide)⟩
theorem zz_JK_a1 {x : Int32} {P0 P1 P2 P3 P4 P5 P6 P7 P8 P9 : Prop} (h : zz_JK x P0 P1 P2 P3 P4 P5 P6 P7 P8 P9) (hx : x = 1) : P1 := h.2.1 hx
theorem zz_JK_m2 {x : Int32} {P0 P1 P2 P3 P4 P5 P6 P7 P8 P9 : Prop} (h : x = 2) (p : P2) : zz_JK x P0 P1 P2 P3 P4 P5 P6 P7 P8 P9 := by
  subst h
  exact ⟨fun h => absurd h (by decide), fun h => absurd h (by decide), fun _ => p, fun h => absurd h (by decide), fun h => absurd h (by decide), fun h => absurd h (by decide), fun h => absurd h (by decide), fun h => absurd h (by decide), fun h => absurd h (by decide), fun h => absurd h (by decide)⟩
theorem zz_JK_a2 {x : Int32} {P0 P1 P2 P3 P4 P5 P6 P7 P8 P9 : Prop} (h : zz_JK x P0 P1 P2 P3 P4 P5 P6 P7 P8 P9) (hx : x = 2) : P2 := h.2.2.1 hx
theorem zz_JK_m3 {x : Int32} {P0 P1 P2 P3 P4 P5 P6 P7 P8 P9 : Prop} (h : x = 3) (p : P3) : zz_JK x P0 P1 P2 P3 P4 P5 P6 P7 P8 P9 := by
  subst h
  exact ⟨fun h => absurd h (by decide), fun h => absurd h (by decide), fun h => absurd h (by decide), fun _ => p, fun h => absurd h (by decide), fun h => absurd h (by decide), fun h => absurd h (by decide), fun h => absurd h (by decide), fun h => absurd h (by decide), fun h => absurd h (by decide)⟩
theorem zz_JK_a3 {x : Int32} {P0 P1 P2 P3 P4 P5 P6 P7 P8 P9 : Prop} (h : zz_JK x P0 P1 P2 P3 P4 P5 P6 P7 P8 P9) (hx : x = 3) : P3 := h.2.2.2.1 hx
theorem zz_JK_m4 {x : Int32} {P0 P1 P2 P3 P4 P5 P6 P7 P8 P9 : Prop} (h : x = 4) (p : P4) : zz_JK x P0 P1 P2 P3 P4 P5 P6 P7 P8 P9 := by
  subst h
  exact ⟨fun h => absurd h (by decide), fun h => absurd h (by decide), fun h => absurd h (by decide), fun h => absurd h (by decide), fun _ => p, fun h => absurd h (by decide), fun h => absurd h (by decide), fun h => absurd h (by decide), fun h => absurd h (by decide), fun h => absurd h (by decide)⟩
theorem zz_JK_a4 {x : Int32} {P0 P1 P2 P3 P4 P5 P6 P7 P8 P9 : Prop} (h : zz_JK x P0 P1 P2 P3 P4 P5 P6 P7 P8 P9) (hx : x = 4) : P4 := h.2.2.2.2.1 hx
theorem zz_JK_m5 {x : Int32} {P0 P1 P2 P3 P4 P5 P6 P7 P8 P9 : Prop} (h : x = 5) (p : P5) : zz_JK x P0 P1 P2 P3 P4 P5 P6 P7 P8 P9 := by
  subst h
  exact ⟨fun h => absurd h (by decide), fun h => absurd h (by decide), fun h => absurd h (by decide), fun h => absurd h (by decide), fun h => absurd h (by decide), fun _ => p, fun h => absurd h (by decide), fun h => absurd h (by decide), fun h => absurd h (by decide), fun h => absurd h (by decide)⟩
theorem zz_JK_a5 {x : Int32} {P0 P1 P2 P3 P4 P5 P6 P7 P8 P9 : Prop} (h : zz_JK x P0 P1 P2 P3 P4 P5 P6 P7 P8 P9) (hx : x = 5) : P5 := h.2.2.2.2.2.1 hx
theorem zz_JK_m6 {x : Int32} {P0 P1 P2 P3 P4 P5 P6 P7 P8 P9 : Prop} (h : x = 6) (p : P6) : zz_JK x P0 P1 P2 P3 P4 P5 P6 P7 P8 P9 := by
  subst h
  exact ⟨fun h => absurd h (by decide), fun h => absurd h (by decide), fun h => absurd h (by decide), fun h => absurd h (by decide), fun h => absurd h (by decide), fun h => absurd h (by decide), fun _ => p, fun h => absurd h (by decide), fun h => absurd h (by decide), fun h => absurd h (by decide)⟩
theorem zz_JK_a6 {x : Int32} {P0 P1 P2 P3 P4 P5 P6 P7 P8 P9 : Prop} (h : zz_JK x P0 P1 P2 P3 P4 P5 P6 P7 P8 P9) (hx : x = 6) : P6 := h.2.2.2.2.2.2.1 hx
theorem zz_JK_m7 {x : Int32} {P0 P1 P2 P3 P4 P5 P6 P7 P8 P9 : Prop} (h : x = 7) (p : P7) : zz_JK x P0 P1 P2 P3 P4 P5 P6 P7 P8 P9 := by
  subst h
  exact ⟨fun h => absurd h (by decide), fun h => absurd h (by decide), fun h => absurd h (by decide), fun h => absurd h (by decide), fun h => absurd h (by decide), fun h => absurd h (by decide), fun h => absurd h (by decide), fun _ => p, fun h => absurd h (by decide), fun h => absurd h (by decide)⟩
theorem zz_JK_a7 {x : Int32} {P0 P1 P2 P3 P4 P5 P6 P7 P8 P9 : Prop} (h : zz_JK x P0 P1 P2 P3 P4 P5 P6 P7 P8 P9) (hx : x = 7) : P7 := h.2.2.2.2.2.2.2.1 hx
theorem zz_JK_m8 {x : Int32} {P0 P1 P2 P3 P4 P5 P6 P7 P8 P9 : Prop} (h : x = 8) (p : P8) : zz_JK x P0 P1 P2 P3 P4 P5 P6 P7 P8 P9 := by
  subst h
  exact ⟨fun h => absurd h (by decide), fun h => absurd h (by decide), fun h => absurd h (by decide), fun h => absurd h (by decide), fun h => absurd h (by decide), fun h => absurd h (by decide), fun h => absurd h (by decide), fun h => absurd h (by decide), fun _ => p, fun h => absurd h (by decide)⟩
theorem zz_JK_a8 {x : Int32} {P0 P1 P2 P3 P4 P5 P6 P7 P8 P9 : Prop} (h : zz_JK x P0 P1 P2 P3 P4 P5 P6 P7 P8 P9) (hx : x = 8) : P8 := h.2.2.2.2.2.2.2.2.1 hx
theorem zz_JK_m9 {x : Int32} {P0 P1 P2 P3 P4 P5 P6 P7 P8 P9 : Prop} (h : x = 9) (p : P9) : zz_JK x P0 P1 P2 P3 P4 P5 P6 P7 P8 P9 := by
  subst h
  exact ⟨fun h => absurd h (by decide), fun h => absurd h (by decide), fun h => absurd h (by decide), fun h => absurd h (by decide), fun h => absurd h (by decide), fun h => absurd h (by decide), fun h => absurd h (by decide), fun h => absurd h (by decide), fun h => absurd h (by decide), fun _ => p⟩
theorem zz_JK_a9 {x : Int32} {P0 P1 P2 P3 P4 P5 P6 P7 P8 P9 : Prop} (h : zz_JK x P0 P1 P2 P3 P4 P5 P6 P7 P8 P9) (hx : x = 9) : P9 := h.2.2.2.2.2.2.2.2.2 hx
theorem zz_JK_N {x : Int32} {P0 P1 P2 P3 P4 P5 P6 P7 P8 P9 : Prop} (h : x = -1) : zz_JK x P0 P1 P2 P3 P4 P5 P6 P7 P8 P9 := by
  subst h
  exact ⟨fun h => absurd h (by decide), fun h => absurd h (by decide), fun h => absurd h (by decide), fun h => absurd h (by decide), fun h => absurd h (by decide), fun h => absurd h (by decide), fun h => absurd h (by decide), fun h => absurd h (by decide), fun h => absurd h (by decide), fun h => absurd h (by decide)⟩
theorem zz_JK_9 {x : Int32} {P0 P1 P2 P3 P4 P5 P6 P7 P8 P9 Q : Prop} (h : zz_JK x P0 P1 P2 P3 P4 P5 P6 P7 P8 P9) (i : P9 → Q) : zz_JK x P0 P1 P2 P3 P4 P5 P6 P7 P8 Q := ⟨h.1, h.2.1, h.2.2.1, h.2.2.2.1, h.2.2.2.2.1, h.2.2.2.2.2.1, h.2.2.2.2.2.2.1, h.2.2.2.2.2.2.2.1, h.2.2.2.2.2.2.2.2.1, fun z => i (h.2.2.2.2.2.2.2.2.2 z)⟩
def IJ (t : Nat) (u : SX) (um : SM) : Prop := IM0 t um ∧ u.1 = um.2.1 ∧ (u.1 = (-1) ∨ zz_JA t u.2.1 u.2.2.1 u.2.2.2.1 u.2.2.2.2.2.1 u.2.2.2.2.2.2.1 u.2.2.2.2.2.2.2.1 u.2.2.2.2.2.2.2.2.1 u.2.2.2.2.2.2.2.2.2.1 um.2.2.1 um.2.2.2.1 um.2.2.2.2.1 um.2.2.2.2.2.2.2.2.2.2.2.2.2.2.2.2.2.2.2.1 um.2.2.2.2.2.2.2.2.2.2.2.2.2.2.2.2.2.2.2.2.1 um.2.2.2.2.2.2.2.2.2.2.2.2.2.2.2.2.2.2.2.2.2.1 um.2.2.2.2.2.2.2.2.2.2.2.2.2.2.2.2.2.2.2.2.2.2.1 um.2.2.2.2.2.2.2.2.2.2.2.2.2.2.2.2.2.2.2.2.2.2.2.1) ∧ zz_JK u.1 (zz_JE u.2.2.2.2.2.2.2.2.2.2.2.2.2.2.1 um.2.2.2.2.2.2.2.2.1) (zz_JE u.2.2.2.2.2.2.2.2.2.2.2.2.2.2.2.1 um.2.2.2.2.2.2.2.2.1) (zz_JE u.2.2.2.2.2.2.2.2.2.2.2.2.2.2.2.2.1 um.2.2.2.2.2.2.2.2.1) (zz_JE u.2.2.2.2.2.2.2.2.2.2.2.2.2.2.2.2.2.1 um.2.2.2.2.2.2.2.2.1) (zz_J4 u.2.1 u.2.2.2.2.2.2.2.2.2.2.2.2.2.2.2.2.2.2.1 um.2.2.2.2.2.2.2.2.2.2.1 u.2.2.2.2.2.2.2.2.2.2.2.2.2.2.2.2.2.2.2.1 um.2.2.2.2.2.2.2.2.2.2.2.2.2.2.2.2.2.2.2.2.2.2.2.2.1 um.2.2.2.2.2.2.2.2.2.2.2.2.2.2.2.2.2.2.2.1 um.2.2.2.2.2.2.2.2.2.2.2.2.2.2.2.2.2.2.2.2.1 um.2.2.2.2.2.2.2.2.2.2.2.2.2.2.2.2.2.2.2.2.2.1 um.2.2.2.2.2.2.2.2.2.2.2.2.2.2.2.2.2.2.2.2.2.2.1) (zz_J5 u.2.1 u.2.2.2.2.2.2.2.2.2.2.2.2.2.2.2.2.2.2.2.2.1 um.2.2.2.2.2.2.2.2.2.2.2.1 u.2.2.2.2.2.2.2.2.2.2.2.2.2.2.2.2.2.2.2.2.2.1 u.2.2.2.2.2.2.2.2.2.2.2.2.2.2.2.2.2.2.2.2.2.2.1 um.2.2.2.2.2.2.2.2.2.2.2.2.2.2.2.2.2.2.2.2.2.2.2.2.2.1 um.2.2.2.2.2.2.2.2.2.2.2.2.2.2.2.2.2.2.2.1 um.2.2.2.2.2.2.2.2.2.2.2.2.2.2.2.2.2.2.2.2.1 um.2.2.2.2.2.2.2.2.2.2.2.2.2.2.2.2.2.2.2.2.2.1 um.2.2.2.2.2.2.2.2.2.2.2.2.2.2.2.2.2.2.2.2.2.2.1) (zz_J6 u.2.1 u.2.2.2.2.2.2.2.2.2.2.2.2.2.2.2.2.2.2.2.2.2.2.2.1 um.2.2.2.2.2.2.2.2.2.2.2.2.2.2.2.2.2.2.2.1 um.2.2.2.2.2.2.2.2.2.2.2.2.2.2.2.2.2.2.2.2.1 um.2.2.2.2.2.2.2.2.2.2.2.2.2.2.2.2.2.2.2.2.2.1 um.2.2.2.2.2.2.2.2.2.2.2.2.2.2.2.2.2.2.2.2.2.2.1) (zz_JL u.2.1 u.2.2.2.2.2.2.2.2.2.2.2.2.2.2.2.2.2.2.2.2.2.2.2.2.1 u.2.2.2.2.2.2.2.2.2.2.2.2.2.2.2.2.2.2.2.2.2.2.2.2.2.2.1 u.2.2.2.2.2.2.2.2.2.2.2.2.2.2.2.2.2.2.2.2.2.2.2.2.2.2.2.1 um.2.2.2.2.2.2.2.2.2.2.2.2.2.2.2.2.2.2.2.2.2.2.2.2.2.2.1 um.2.2.2.2.2.2.2.2.2.2.2.2.2.2.2.2.2.2.2.2.2.2.2.2.2.2.2.1 um.2.2.2.2.2.2.2.2.2.2.2.2.2.2.2.2.2.2.2.1) (zz_J8 u.2.1 u.2.2.2.2.2.2.2.2.2.2.2.2.2.2.2.2.2.2.2.2.2.2.2.2.2.2.2.2.1 um.2.2.2.2.2.2.2.2.2.1 um.2.2.2.2.2.2.2.2.2.2.2.2.1 um.2.2.2.2.2.2.2.2.2.2.2.2.2.2.2.2.2.2.2.2.2.2.2.2.2.2.2.2.1 um.2.2.2.2.2.2.2.2.2.2.2.2.2.2.2.2.2.2.2.2.2.2.2.2.2.2.2.2.2.1 um.2.2.2.2.2.2.2.2.2.2.2.2.2.2.2.2.2.2.2.2.2.2.2.2.2.2.2.2.2.2.1 um.2.2.2.2.2.2.2.2.2.2.2.2.2.2.2.2.2.2.2.1 um.2.2.2.2.2.2.2.2.2.2.2.2.2.2.2.2.2.2.2.2.1 um.2.2.2.2.2.2.2.2.2.2.2.2.2.2.2.2.2.2.2.2.2.1 um.2.2.2.2.2.2.2.2.2.2.2.2.2.2.2.2.2.2.2.2.2.2.1) (zz_J9 t u.2.1 u.2.2.2.2.2.2.2.2.2.2.2.2.2.2.2.2.2.2.2.2.2.2.2.2.2.2.2.2.2.1 u.2.2.2.2.2.2.2.2.2.2.2.2.2.2.2.2.2.2.2.2.2.2.2.2.2.2.2.2.2.2.2.1 u.2.2.2.2.2.2.2.2.2.2.2.2.2.2.2.2.2.2.2.2.2.2.2.2.2.2.2.2.2.2.2.2 um.2.2.2.2.2.2.2.2.2.2.2.2.2.2.2.2.2.2.2.2.2.2.2.2.2.2.2.2.2.2.2.1 um.2.2.2.2.2.2.2.2.2.2.2.2.2.2.2.2.2.2.2.2.2.2.2.2.2.2.2.2.2.2.2.2.1 um.2.2.2.2.2.2.2.2.2.2.2.2.2.2.2.2.2.2.2.1)
theorem zz_JA_up {t : Nat} {w B g : Int32} {c nc pc sc ac : Nat → Int32} {w2 bl g2 : Int32} {o nu pl sp as : Nat → Int32} (h : zz_JA t w B g c nc pc sc ac w2 bl g2 o nu pl sp as) : zz_JA (t + 1) w B g c nc pc sc ac w2 bl g2 o nu pl sp as := by
  obtain ⟨e1, e2, e3, g1, g2, g3, g4, g5, g6, R, O⟩ := h
  exact ⟨e1, e2, e3, g1, g2, g3, g4, g5, by omega, R, O⟩
theorem zz_J9_up {t : Nat} {w n : Int32} {qp qw qk qm o : Nat → Int32} (h : zz_J9 t w n qp qw qk qm o) : zz_J9 (t + 1) w n qp qw qk qm o := by
  obtain ⟨a, b, c, e⟩ := h
  exact ⟨a, b, by omega, e⟩

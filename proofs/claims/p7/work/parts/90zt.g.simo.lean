/-! open, all forms: what both sides leave -/
theorem zz_us_op {w : Int} {o nu pl : Nat → Int32} {b : Nat} (ho : zz_op o 1024) (hw : 0 < w) (hw2 : w ≤ 1024) : ¬ zz_us w o nu pl b := fun ⟨_, u2, u3⟩ => by
  have := ho (pl b).toNatClampNeg (by rw [zz_tn]; omega)
  omega
theorem zz_RB_open {w : Int} {nc pc sc ac o nu pl sp as : Nat → Int32} (ho : zz_op o 1024) (hw : 0 < w) (hw2 : w ≤ 1024) : zz_RB w 0 0 nc pc sc ac o nu pl sp as := by
  refine ⟨fun i j hi => by omega, fun i hi => by omega, fun i hi => by omega, ⟨fun x hx h0 => ?_, fun b _ ub => absurd ub (zz_us_op ho hw hw2)⟩, fun b b' _ _ ub => absurd ub (zz_us_op ho hw hw2), fun v p s a => ⟨?_, ?_⟩⟩
  · have := ho x (by omega)
    omega
  · rintro ⟨i, hi, _⟩
    omega
  · rintro ⟨b, _, ub, _⟩
    exact absurd ub (zz_us_op ho hw hw2)
theorem zz_OC_open {w : Int} {c o nu : Nat → Int32} (hc : zz_fl c (-1) 1024) (ho : zz_op o 1024) (hw2 : w ≤ 1024) : zz_OC w c o nu := fun x hx => Or.inl ⟨ho x (by omega), by rw [hc x (by omega)]; decide⟩
theorem zz_F4_open {w W Wr : Int} {f g o nu pl sp : Nat → Int32} (h1 : zz_gpw w W) (h2 : zz_b4 f W) (h3 : zz_gpw w Wr) (h4 : zz_b4 g Wr) (ho : zz_op o 1024) (hw : 0 < w) (hw2 : w ≤ 1024) : W = Wr ∧ zz_F4 w W f g o nu pl sp := by
  have e := zz_gpw_uq h1 h3
  subst e
  have p0 := zz_p2_pos h1.1
  have wW := h1.2.1
  refine ⟨rfl, h1, fun x hx => ?_, fun x x1 x2 => h4.2 x (by omega) (by omega), ⟨fun x hx => ?_, fun x y hxy hy _ cy => absurd (h4.2 y (by omega) (by omega)) cy⟩, fun b _ ub => absurd ub (zz_us_op ho hw hw2)⟩
  · by_cases c : x = 0
    · rw [c, h2.1, h4.1]
    · rw [h2.2 x (by omega) (by omega), h4.2 x (by omega) (by omega)]
  · by_cases c : x = 0
    · subst c
      have e1 : (g 0).toInt = W := h4.1
      refine Or.inr ⟨by show zz_p2 (g 0).toInt; rw [e1]; exact h1.1, by show ((0 : Nat) : Int) + (g 0).toInt ≤ (W.toNat : Int); omega, fun y _ y2 => ?_⟩
      have y2 : (y : Int) < ((0 : Nat) : Int) + (g 0).toInt := y2
      exact ho y (by omega)
    · exact Or.inl (h4.2 x (by omega) (by omega))
theorem zz_F5_open {w pg : Int} {S K G o nu pl sp : Nat → Int32} (hp : pg = w / 32) (hS : zz_fl S 0 32) (hG : zz_zr G 32) (ho : zz_op o 1024) (hw : 0 < w) (hw2 : w ≤ 1024) : zz_F5 w pg S K G o nu pl sp := by
  refine ⟨hp, fun p hq => Or.inl ⟨by rw [hS p (by omega)]; decide, hG p (by omega), fun j hj => ho _ (by omega)⟩, fun b _ ub => absurd ub (zz_us_op ho hw hw2)⟩
theorem zz_F6_open {w : Int} {o nu pl sp : Nat → Int32} (ho : zz_op o 1024) (hw : 0 < w) (hw2 : w ≤ 1024) : zz_F6 w o nu pl sp := by
  refine ⟨fun x hx => ?_, fun b _ ub => absurd ub (zz_us_op ho hw hw2)⟩
  rw [ho x (by omega), ho (4 * (x / 4)) (by omega)]
theorem zz_F8_open {w top st : Int} {kp ks kg o nu pl sp : Nat → Int32} (ht : top = 0) (hs : st = 0) (ho : zz_op o 1024) (hw : 0 < w) (hw2 : w ≤ 1024) : zz_F8 w top st kp ks kg o nu pl sp := by
  subst ht hs
  refine ⟨by omega, by omega, by omega, fun _ => rfl, fun z => by omega, fun k hk => by omega, fun k hk => by omega, fun k hk => by omega, fun k hk => by omega, fun x _ hx => ho x (by omega)⟩
theorem zz_F9_open {w : Int} {o qk qm : Nat → Int32} (hq : zz_zr qm 9) (ho : zz_op o 1024) (hw2 : w ≤ 1024) : zz_F9 w o qk qm [] := by
  refine ⟨fun l hl => ?_, fun x hx => (by cases hx), List.nodup_nil, fun x hx => (by cases hx), fun y hy h2 => ?_⟩
  · have e : (qm l).toNatClampNeg = 0 := by rw [zz_tn, hq l (by omega)]; rfl
    rw [e]
    rfl
  · have := ho y (by omega)
    omega

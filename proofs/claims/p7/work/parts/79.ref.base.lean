def zz_row (n : Nat) (P : Nat → Int32 → Prop) (f : Nat → Int32) : Prop := ∀ j, j < n → P j (f j)
theorem zz_row_upd {n : Nat} {P : Nat → Int32 → Prop} {f : Nat → Int32} {i : Nat} {v : Int32} (h : zz_row n P f) (hv : P i v) : zz_row n P (upd f i v) := fun j hj => by
  unfold upd
  by_cases e : j = i
  · rw [if_pos e, e]; exact hv
  · rw [if_neg e]; exact h j hj
theorem zz_tnI (x : Int32) (h : 0 ≤ x.toInt) : (x.toNatClampNeg : Int) = x.toInt := by
  show ((x.toInt.toNat : Nat) : Int) = x.toInt
  omega
theorem zz_p1 (x : Int32) (h : x.toInt ≤ 1000000) : (x + ((1 : Int32))).toInt = x.toInt + 1 := by
  obtain ⟨k, f⟩ := zz_add x 1
  rw [show (1 : Int32).toInt = 1 from rfl] at f
  have g := zz_rg x
  have g2 := zz_rg (x + 1)
  omega
theorem zz_m1 (x : Int32) (h : 0 ≤ x.toInt) : (x - ((1 : Int32))).toInt = x.toInt - 1 := by
  obtain ⟨k, f⟩ := zz_sub x 1
  rw [show (1 : Int32).toInt = 1 from rfl] at f
  have g := zz_rg x
  have g2 := zz_rg (x - 1)
  omega
theorem zz_ltN {x : Int32} {n : Nat} (h0 : 0 ≤ x.toInt) (h1 : x.toInt < n) : x.toNatClampNeg < n := by
  show x.toInt.toNat < n
  omega
abbrev rwO (T : Nat) (j : Nat) (v : Int32) : Prop := -2 ≤ v.toInt ∧ v.toInt < 200
abbrev rwP (T : Nat) (j : Nat) (v : Int32) : Prop := 0 ≤ v.toInt ∧ v.toInt ≤ 1024
abbrev rwQ (T : Nat) (j : Nat) (v : Int32) : Prop := 0 ≤ v.toInt ∧ v.toInt + (j : Int) / 1024 ≤ 1024
abbrev rwT (T : Nat) (j : Nat) (v : Int32) : Prop := 0 ≤ v.toInt ∧ v.toInt ≤ 1024
abbrev rwL (T : Nat) (j : Nat) (v : Int32) : Prop := 0 ≤ v.toInt ∧ v.toInt ≤ (T : Int)
abbrev rwL1 (T : Nat) (j : Nat) (v : Int32) : Prop := 0 ≤ v.toInt ∧ v.toInt ≤ (T : Int) + 1
abbrev rwM (T : Nat) (j : Nat) (v : Int32) : Prop := 0 ≤ v.toInt ∧ v.toInt ≤ (T : Int)
abbrev rwM1 (T : Nat) (j : Nat) (v : Int32) : Prop := 0 ≤ v.toInt ∧ v.toInt ≤ (T : Int) + 1
abbrev rwH (T : Nat) (j : Nat) (v : Int32) : Prop := -1 ≤ v.toInt ∧ v.toInt ≤ 13
abbrev rwS (T : Nat) (j : Nat) (v : Int32) : Prop := 0 ≤ v.toInt ∧ v.toInt ≤ 1024
abbrev rwC (T : Nat) (j : Nat) (v : Int32) : Prop := 0 ≤ v.toInt ∧ (j : Int) + v.toInt ≤ 1024
abbrev rwV (T : Nat) (j : Nat) (v : Int32) : Prop := 0 ≤ v.toInt ∧ v.toInt ≤ 20000
theorem zz_wL1 {T : Nat} {f : Nat → Int32} (h : zz_row 44 (rwL T) f) : zz_row 44 (rwL1 T) f := fun j hj => ⟨(h j hj).1, by have := (h j hj).2; omega⟩
theorem zz_wM1 {T : Nat} {f : Nat → Int32} (h : zz_row 9 (rwM T) f) : zz_row 9 (rwM1 T) f := fun j hj => ⟨(h j hj).1, by have := (h j hj).2; omega⟩

/-! the pure layer: a model that gives an answer, and what holds of it -/
theorem zz_nemp {e : String} {L : List String} (h : e ∈ L) (hs : ∀ x ∈ L, ¬ x = "") : ¬ e = "" := hs e h
theorem zz_mem {e : String} {L M : List String} (h : e ∈ L) (hs : ∀ x ∈ L, x ∈ M) : e ∈ M := hs e h
def zz_ok {α : Type} (x : Option α) (P : α → Prop) : Prop := ∃ a, x = some a ∧ P a
theorem zz_ok_some {α : Type} {P : α → Prop} {a : α} (h : P a) : zz_ok (some a) P := ⟨a, rfl, h⟩
theorem zz_ok_ite {α : Type} {P : α → Prop} {c : Prop} {i : Decidable c} {x y : Option α} (h1 : c → zz_ok x P) (h2 : ¬ c → zz_ok y P) : zz_ok (@ite (Option α) c i x y) P := by
  by_cases h : c
  · rw [if_pos h]; exact h1 h
  · rw [if_neg h]; exact h2 h
theorem zz_ok_chk {α : Type} {P : α → Prop} {c : Prop} {i : Decidable c} {x : Option α} (h : c) (h1 : zz_ok x P) : zz_ok (@ite (Option α) c i x none) P := by
  rw [if_pos h]; exact h1
theorem zz_ok_bind {α β : Type} {Q : α → Prop} {P : β → Prop} {x : Option α} {f : α → Option β} (h : zz_ok x Q) (h1 : ∀ a, Q a → zz_ok (f a) P) : zz_ok (x.bind f) P := by
  obtain ⟨a, e, q⟩ := h
  rw [e]; exact h1 a q
theorem zz_ok.mono {α : Type} {P Q : α → Prop} {x : Option α} (h : zz_ok x P) (hPQ : ∀ a, P a → Q a) : zz_ok x Q := by
  obtain ⟨a, e, q⟩ := h
  exact ⟨a, e, hPQ a q⟩
theorem zz_rg (x : Int32) : -2147483648 ≤ x.toInt ∧ x.toInt ≤ 2147483647 := ⟨Int32.le_toInt x, Int32.toInt_le x⟩
theorem zz_bm (x : Int) : ∃ k : Int, x.bmod (2 ^ 32) = x + 4294967296 * k := by
  rw [Int.bmod_def]
  split
  · exact ⟨- (x / 4294967296), by omega⟩
  · exact ⟨- (x / 4294967296) - 1, by omega⟩
theorem zz_add (a b : Int32) : ∃ k : Int, (a + b).toInt = a.toInt + b.toInt + 4294967296 * k := by rw [Int32.toInt_add]; exact zz_bm _
theorem zz_sub (a b : Int32) : ∃ k : Int, (a - b).toInt = a.toInt - b.toInt + 4294967296 * k := by rw [Int32.toInt_sub]; exact zz_bm _
theorem zz_mul (a b : Int32) : ∃ k : Int, (a * b).toInt = a.toInt * b.toInt + 4294967296 * k := by rw [Int32.toInt_mul]; exact zz_bm _
theorem zz_dec {x y : Int32} (h : y = x + (-1)) : ∃ k : Int, y.toInt = x.toInt - 1 + 4294967296 * k := by
  obtain ⟨k, e⟩ := zz_add x (-1)
  rw [show (-1 : Int32).toInt = -1 from rfl] at e
  exact ⟨k, by rw [h, e]; omega⟩
theorem zz_divP (a b : Int32) (c : Nat) (hb : b.toInt = c) (hc : 0 < c) : 0 ≤ a.toInt → (a / b).toInt = a.toInt / c := fun h => by
  rw [Int32.toInt_div, hb, Int.tdiv_eq_ediv_of_nonneg h]
  have h1 := (zz_rg a).2
  have h2 : a.toInt / (c : Int) ≤ a.toInt := Int.ediv_le_self _ h
  have h3 : 0 ≤ a.toInt / (c : Int) := Int.ediv_nonneg h (by omega)
  exact Int.bmod_eq_of_le (by omega) (by omega)
theorem zz_divN (a b : Int32) (c : Nat) (hb : b.toInt = c) (hc : 0 < c) : a.toInt < 0 → (a / b).toInt ≤ 0 ∧ a.toInt ≤ (a / b).toInt := fun h => by
  have h0 := (zz_rg a).1
  have h1 : a.toInt.tdiv c = -((-a.toInt) / (c : Int)) := by
    rw [← Int.tdiv_eq_ediv_of_nonneg (by omega), Int.neg_tdiv, Int.neg_neg]
  have h2 : (-a.toInt) / (c : Int) ≤ -a.toInt := Int.ediv_le_self _ (by omega)
  have h3 : 0 ≤ (-a.toInt) / (c : Int) := Int.ediv_nonneg (by omega) (by omega)
  have h4 : (a / b).toInt = -((-a.toInt) / (c : Int)) := by
    rw [Int32.toInt_div, hb, h1]
    exact Int.bmod_eq_of_le (by omega) (by omega)
  rw [h4]
  omega
theorem zz_divB (a b : Int32) (c : Nat) (hb : b.toInt = c) (hc : 0 < c) : (a / b).toInt * c ≤ 2147483647 ∧ -2147483648 ≤ (a / b).toInt * c := by
  have hr := zz_rg a
  by_cases h : 0 ≤ a.toInt
  · rw [zz_divP a b c hb hc h]
    have h1 : a.toInt / (c : Int) * c ≤ a.toInt := Int.ediv_mul_le _ (by omega)
    have h2 : 0 ≤ a.toInt / (c : Int) := Int.ediv_nonneg h (by omega)
    have h3 : 0 ≤ a.toInt / (c : Int) * c := Int.mul_nonneg h2 (by omega)
    omega
  · have h1 : a.toInt.tdiv c = -((-a.toInt) / (c : Int)) := by
      rw [← Int.tdiv_eq_ediv_of_nonneg (by omega), Int.neg_tdiv, Int.neg_neg]
    have h2 : (-a.toInt) / (c : Int) ≤ -a.toInt := Int.ediv_le_self _ (by omega)
    have h3 : 0 ≤ (-a.toInt) / (c : Int) := Int.ediv_nonneg (by omega) (by omega)
    have h4 : (a / b).toInt = -((-a.toInt) / (c : Int)) := by
      rw [Int32.toInt_div, hb, h1]
      exact Int.bmod_eq_of_le (by omega) (by omega)
    have h5 : (-a.toInt) / (c : Int) * c ≤ -a.toInt := Int.ediv_mul_le _ (by omega)
    have h6 : 0 ≤ (-a.toInt) / (c : Int) * c := Int.mul_nonneg h3 (by omega)
    rw [h4, Int.neg_mul]
    omega
theorem zz_nI (n : Nat) (h : n < 2147483648) : (nI n).toInt = n := by
  unfold nI
  rw [Int32.toInt_ofNat']
  exact Int.bmod_eq_of_le (by show -((4294967296 : Int) / 2) ≤ _; omega) (by show _ < ((4294967296 : Int) + 1) / 2; omega)
theorem zz_maxF (a b : Int32) : a.toInt ≤ (zz_max a b).toInt ∧ b.toInt ≤ (zz_max a b).toInt ∧ ((zz_max a b).toInt = a.toInt ∨ (zz_max a b).toInt = b.toInt) := by
  show a.toInt ≤ (if a < b then b else a).toInt ∧ b.toInt ≤ (if a < b then b else a).toInt ∧ ((if a < b then b else a).toInt = a.toInt ∨ (if a < b then b else a).toInt = b.toInt)
  by_cases h : a < b
  · rw [if_pos h]; have := Int32.lt_iff_toInt_lt.mp h; omega
  · rw [if_neg h]; have : ¬ a.toInt < b.toInt := fun z => h (Int32.lt_iff_toInt_lt.mpr z); omega
theorem zz_minF (a b : Int32) : (zz_min a b).toInt ≤ a.toInt ∧ (zz_min a b).toInt ≤ b.toInt ∧ ((zz_min a b).toInt = a.toInt ∨ (zz_min a b).toInt = b.toInt) := by
  show (if b < a then b else a).toInt ≤ a.toInt ∧ (if b < a then b else a).toInt ≤ b.toInt ∧ ((if b < a then b else a).toInt = a.toInt ∨ (if b < a then b else a).toInt = b.toInt)
  by_cases h : b < a
  · rw [if_pos h]; have := Int32.lt_iff_toInt_lt.mp h; omega
  · rw [if_neg h]; have : ¬ b.toInt < a.toInt := fun z => h (Int32.lt_iff_toInt_lt.mpr z); omega
theorem zz_ix {x : Int32} {n : Nat} (h0 : 0 ≤ x.toInt) (h1 : x.toInt < n) : ¬ (x < 0 ∨ n ≤ x.toNatClampNeg) := by
  rintro (h | h)
  · have := Int32.lt_iff_toInt_lt.mp h
    rw [show (0 : Int32).toInt = 0 from rfl] at this; omega
  · have : n ≤ x.toInt.toNat := h
    omega
theorem zz_ne {x y : Int32} (h : x.toInt ≠ y.toInt) : ¬ x = y := fun e => h (by rw [e])
theorem zz_nn {x : Int32} (h : 0 ≤ x.toInt) : ¬ x < 0 := fun z => by
  have := Int32.lt_iff_toInt_lt.mp z
  rw [show (0 : Int32).toInt = 0 from rfl] at this; omega
theorem zz_cp {x y : Int32} {n : Nat} (h0 : 0 ≤ x.toInt) (h1 : 0 ≤ y.toInt) (h : x.toInt + y.toInt ≤ n) : x.toNatClampNeg + y.toNatClampNeg ≤ n := by
  show x.toInt.toNat + y.toInt.toNat ≤ n
  omega
theorem zz_01 {x : Int32} (h : x.toInt = 0 ∨ x.toInt = 1) : x = 0 ∨ x = 1 := h.imp (fun e => Int32.toInt_inj.mp e) (fun e => Int32.toInt_inj.mp e)
theorem zz_nle {x y : Int32} (h : ¬ x ≤ y) : y.toInt < x.toInt := Int.not_le.mp (fun z => h (Int32.le_iff_toInt_le.mpr z))
theorem zz_nlt {x y : Int32} (h : ¬ x < y) : y.toInt ≤ x.toInt := Int.not_lt.mp (fun z => h (Int32.lt_iff_toInt_lt.mpr z))
theorem zz_neq {x y : Int32} (h : ¬ x = y) : x.toInt ≠ y.toInt := fun e => h (Int32.toInt_inj.mp e)
theorem zz_toNat {x : Int32} (h : x.toBitVec.toNat < 2147483648) : x.toInt = x.toBitVec.toNat := by
  show x.toBitVec.toInt = _
  rw [BitVec.toInt_eq_toNat_cond]
  rw [if_pos (by omega)]
theorem zz_ofInt {x : Int32} (h : 0 ≤ x.toInt) : x.toBitVec.toNat < 2147483648 ∧ x.toInt = x.toBitVec.toNat := by
  have h1 : x.toInt = x.toBitVec.toInt := rfl
  rw [BitVec.toInt_eq_toNat_cond] at h1
  have h2 := x.toBitVec.isLt
  split at h1 <;> omega
theorem zz_xorF (a b : Int32) : 0 ≤ a.toInt → 0 ≤ b.toInt → 0 ≤ (a ^^^ b).toInt := fun ha hb => by
  have h1 := zz_ofInt ha
  have h2 := zz_ofInt hb
  have h3 : (a ^^^ b).toBitVec.toNat < 2 ^ 31 := by
    rw [Int32.toBitVec_xor, BitVec.toNat_xor]
    exact Nat.xor_lt_two_pow (by omega) (by omega)
  have h4 := zz_toNat (x := a ^^^ b) (by omega)
  omega
theorem zz_andF (a b : Int32) : 0 ≤ b.toInt → 0 ≤ (a &&& b).toInt ∧ (a &&& b).toInt ≤ b.toInt := fun hb => by
  have h2 := zz_ofInt hb
  have h3 : (a &&& b).toBitVec.toNat ≤ b.toBitVec.toNat := by
    rw [Int32.toBitVec_and, BitVec.toNat_and]
    exact Nat.and_le_right
  have h4 := zz_toNat (x := a &&& b) (by omega)
  omega
theorem zz_ushr1 (a : Int32) : 0 ≤ ((a.toUInt32 >>> ((1 : Int32).toUInt32 &&& Int32.toUInt32 31)).toInt32).toInt ∧ ((a.toUInt32 >>> ((1 : Int32).toUInt32 &&& Int32.toUInt32 31)).toInt32).toInt ≤ 2147483647 := by
  have h : ((a.toUInt32 >>> ((1 : Int32).toUInt32 &&& Int32.toUInt32 31)).toInt32).toBitVec.toNat = a.toUInt32.toNat >>> 1 := by
    show (a.toUInt32 >>> ((1 : Int32).toUInt32 &&& Int32.toUInt32 31)).toNat = _
    rw [UInt32.toNat_shiftRight]
    rfl
  have h1 := a.toUInt32.toNat_lt
  rw [Nat.shiftRight_eq_div_pow] at h
  have h2 := zz_toNat (x := (a.toUInt32 >>> ((1 : Int32).toUInt32 &&& Int32.toUInt32 31)).toInt32) (by rw [h]; omega)
  omega
theorem zz_ushr2 (a : Int32) : 0 ≤ ((a.toUInt32 >>> ((2 : Int32).toUInt32 &&& Int32.toUInt32 31)).toInt32).toInt ∧ ((a.toUInt32 >>> ((2 : Int32).toUInt32 &&& Int32.toUInt32 31)).toInt32).toInt ≤ 1073741823 := by
  have h : ((a.toUInt32 >>> ((2 : Int32).toUInt32 &&& Int32.toUInt32 31)).toInt32).toBitVec.toNat = a.toUInt32.toNat >>> 2 := by
    show (a.toUInt32 >>> ((2 : Int32).toUInt32 &&& Int32.toUInt32 31)).toNat = _
    rw [UInt32.toNat_shiftRight]
    rfl
  have h1 := a.toUInt32.toNat_lt
  rw [Nat.shiftRight_eq_div_pow] at h
  have h2 := zz_toNat (x := (a.toUInt32 >>> ((2 : Int32).toUInt32 &&& Int32.toUInt32 31)).toInt32) (by rw [h]; omega)
  omega
theorem zz_ushr4 (a : Int32) : 0 ≤ ((a.toUInt32 >>> ((4 : Int32).toUInt32 &&& Int32.toUInt32 31)).toInt32).toInt ∧ ((a.toUInt32 >>> ((4 : Int32).toUInt32 &&& Int32.toUInt32 31)).toInt32).toInt ≤ 268435455 := by
  have h : ((a.toUInt32 >>> ((4 : Int32).toUInt32 &&& Int32.toUInt32 31)).toInt32).toBitVec.toNat = a.toUInt32.toNat >>> 4 := by
    show (a.toUInt32 >>> ((4 : Int32).toUInt32 &&& Int32.toUInt32 31)).toNat = _
    rw [UInt32.toNat_shiftRight]
    rfl
  have h1 := a.toUInt32.toNat_lt
  rw [Nat.shiftRight_eq_div_pow] at h
  have h2 := zz_toNat (x := (a.toUInt32 >>> ((4 : Int32).toUInt32 &&& Int32.toUInt32 31)).toInt32) (by rw [h]; omega)
  omega
theorem zz_ushr8 (a : Int32) : 0 ≤ ((a.toUInt32 >>> ((8 : Int32).toUInt32 &&& Int32.toUInt32 31)).toInt32).toInt ∧ ((a.toUInt32 >>> ((8 : Int32).toUInt32 &&& Int32.toUInt32 31)).toInt32).toInt ≤ 16777215 := by
  have h : ((a.toUInt32 >>> ((8 : Int32).toUInt32 &&& Int32.toUInt32 31)).toInt32).toBitVec.toNat = a.toUInt32.toNat >>> 8 := by
    show (a.toUInt32 >>> ((8 : Int32).toUInt32 &&& Int32.toUInt32 31)).toNat = _
    rw [UInt32.toNat_shiftRight]
    rfl
  have h1 := a.toUInt32.toNat_lt
  rw [Nat.shiftRight_eq_div_pow] at h
  have h2 := zz_toNat (x := (a.toUInt32 >>> ((8 : Int32).toUInt32 &&& Int32.toUInt32 31)).toInt32) (by rw [h]; omega)
  omega
theorem zz_ushr14 (a : Int32) : 0 ≤ ((a.toUInt32 >>> ((14 : Int32).toUInt32 &&& Int32.toUInt32 31)).toInt32).toInt ∧ ((a.toUInt32 >>> ((14 : Int32).toUInt32 &&& Int32.toUInt32 31)).toInt32).toInt ≤ 262143 := by
  have h : ((a.toUInt32 >>> ((14 : Int32).toUInt32 &&& Int32.toUInt32 31)).toInt32).toBitVec.toNat = a.toUInt32.toNat >>> 14 := by
    show (a.toUInt32 >>> ((14 : Int32).toUInt32 &&& Int32.toUInt32 31)).toNat = _
    rw [UInt32.toNat_shiftRight]
    rfl
  have h1 := a.toUInt32.toNat_lt
  rw [Nat.shiftRight_eq_div_pow] at h
  have h2 := zz_toNat (x := (a.toUInt32 >>> ((14 : Int32).toUInt32 &&& Int32.toUInt32 31)).toInt32) (by rw [h]; omega)
  omega
theorem zz_ushr16 (a : Int32) : 0 ≤ ((a.toUInt32 >>> ((16 : Int32).toUInt32 &&& Int32.toUInt32 31)).toInt32).toInt ∧ ((a.toUInt32 >>> ((16 : Int32).toUInt32 &&& Int32.toUInt32 31)).toInt32).toInt ≤ 65535 := by
  have h : ((a.toUInt32 >>> ((16 : Int32).toUInt32 &&& Int32.toUInt32 31)).toInt32).toBitVec.toNat = a.toUInt32.toNat >>> 16 := by
    show (a.toUInt32 >>> ((16 : Int32).toUInt32 &&& Int32.toUInt32 31)).toNat = _
    rw [UInt32.toNat_shiftRight]
    rfl
  have h1 := a.toUInt32.toNat_lt
  rw [Nat.shiftRight_eq_div_pow] at h
  have h2 := zz_toNat (x := (a.toUInt32 >>> ((16 : Int32).toUInt32 &&& Int32.toUInt32 31)).toInt32) (by rw [h]; omega)
  omega
theorem zz_ushr17 (a : Int32) : 0 ≤ ((a.toUInt32 >>> ((17 : Int32).toUInt32 &&& Int32.toUInt32 31)).toInt32).toInt ∧ ((a.toUInt32 >>> ((17 : Int32).toUInt32 &&& Int32.toUInt32 31)).toInt32).toInt ≤ 32767 := by
  have h : ((a.toUInt32 >>> ((17 : Int32).toUInt32 &&& Int32.toUInt32 31)).toInt32).toBitVec.toNat = a.toUInt32.toNat >>> 17 := by
    show (a.toUInt32 >>> ((17 : Int32).toUInt32 &&& Int32.toUInt32 31)).toNat = _
    rw [UInt32.toNat_shiftRight]
    rfl
  have h1 := a.toUInt32.toNat_lt
  rw [Nat.shiftRight_eq_div_pow] at h
  have h2 := zz_toNat (x := (a.toUInt32 >>> ((17 : Int32).toUInt32 &&& Int32.toUInt32 31)).toInt32) (by rw [h]; omega)
  omega
theorem zz_ushr28 (a : Int32) : 0 ≤ ((a.toUInt32 >>> ((28 : Int32).toUInt32 &&& Int32.toUInt32 31)).toInt32).toInt ∧ ((a.toUInt32 >>> ((28 : Int32).toUInt32 &&& Int32.toUInt32 31)).toInt32).toInt ≤ 15 := by
  have h : ((a.toUInt32 >>> ((28 : Int32).toUInt32 &&& Int32.toUInt32 31)).toInt32).toBitVec.toNat = a.toUInt32.toNat >>> 28 := by
    show (a.toUInt32 >>> ((28 : Int32).toUInt32 &&& Int32.toUInt32 31)).toNat = _
    rw [UInt32.toNat_shiftRight]
    rfl
  have h1 := a.toUInt32.toNat_lt
  rw [Nat.shiftRight_eq_div_pow] at h
  have h2 := zz_toNat (x := (a.toUInt32 >>> ((28 : Int32).toUInt32 &&& Int32.toUInt32 31)).toInt32) (by rw [h]; omega)
  omega

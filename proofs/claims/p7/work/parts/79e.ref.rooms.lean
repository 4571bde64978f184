/-! rooms of worst -/
def zz_n64 (x : Int64) : Prop := 0 ≤ x.toInt
theorem zz_b64 (a : Int) (h0 : -9223372036854775808 ≤ a) (h1 : a ≤ 9223372036854775807) : a.bmod (2 ^ 64) = a := Int.bmod_eq_of_le (by omega) (by omega)
theorem zz_rg64 (x : Int64) : -9223372036854775808 ≤ x.toInt ∧ x.toInt ≤ 9223372036854775807 := ⟨Int64.le_toInt x, Int64.toInt_le x⟩
theorem zz_div64 {x c : Int64} {n : Nat} (hx : 0 ≤ x.toInt) (hc : c.toInt = n) (h0 : 0 < n) : (x / c).toInt = x.toInt / n := by
  have g := zz_rg64 x
  have h2 : x.toInt / (n : Int) ≤ x.toInt := Int.ediv_le_self _ hx
  have h3 : 0 ≤ x.toInt / (n : Int) := Int.ediv_nonneg hx (by omega)
  rw [Int64.toInt_div, hc, Int.tdiv_eq_ediv_of_nonneg hx]
  exact zz_b64 _ (by omega) (by omega)
theorem zz_md {x c : Int64} (n : Nat) (hx : zz_n64 x) (hc : c.toInt = n) (h0 : 0 < n) (h1 : n ≤ 65536) : 0 ≤ ((x - x / c * c).toInt32).toInt ∧ ((x - x / c * c).toInt32).toInt < n := by
  have hx : 0 ≤ x.toInt := hx
  have g := zz_rg64 x
  have d := zz_div64 hx hc h0
  have e1 : 0 ≤ x.toInt / (n : Int) * n := Int.mul_nonneg (Int.ediv_nonneg hx (by omega)) (by omega)
  have e2 : x.toInt / (n : Int) * n ≤ x.toInt := Int.ediv_mul_le _ (by omega)
  have m : (x / c * c).toInt = x.toInt / n * n := by
    rw [Int64.toInt_mul, d, hc]
    exact zz_b64 _ (by omega) (by omega)
  have e3 : x.toInt - x.toInt / n * n = x.toInt % n := by rw [Int.emod_def, Int.mul_comm]
  have e4 : 0 ≤ x.toInt % (n : Int) := Int.emod_nonneg _ (by omega)
  have e5 : x.toInt % (n : Int) < n := Int.emod_lt_of_pos _ (by omega)
  have s : (x - x / c * c).toInt = x.toInt % n := by
    rw [Int64.toInt_sub, m, e3]
    exact zz_b64 _ (by omega) (by omega)
  have t : ((x - x / c * c).toInt32).toInt = x.toInt % n := by
    rw [Int64.toInt_toInt32, s]
    exact Int.bmod_eq_of_le (by omega) (by omega)
  rw [t]
  exact ⟨e4, e5⟩
theorem zz_md15 (x : Int64) (h : zz_n64 x) : 0 ≤ ((x - x / ((15 : Int64)) * ((15 : Int64))).toInt32).toInt ∧ ((x - x / ((15 : Int64)) * ((15 : Int64))).toInt32).toInt < 15 := zz_md 15 h rfl (by decide) (by decide)
theorem zz_md16 (x : Int64) (h : zz_n64 x) : 0 ≤ ((x - x / ((16 : Int64)) * ((16 : Int64))).toInt32).toInt ∧ ((x - x / ((16 : Int64)) * ((16 : Int64))).toInt32).toInt < 16 := zz_md 16 h rfl (by decide) (by decide)
theorem zz_md65536 (x : Int64) (h : zz_n64 x) : 0 ≤ ((x - x / ((65536 : Int64)) * ((65536 : Int64))).toInt32).toInt ∧ ((x - x / ((65536 : Int64)) * ((65536 : Int64))).toInt32).toInt < 65536 := zz_md 65536 h rfl (by decide) (by decide)
theorem zz_n64_15 {x : Int64} (h : zz_n64 x) : zz_n64 (x / ((15 : Int64))) := by
  show 0 ≤ (x / ((15 : Int64))).toInt
  rw [zz_div64 (n := 15) h rfl (by decide)]
  exact Int.ediv_nonneg h (by decide)
theorem zz_n64_16 {x : Int64} (h : zz_n64 x) : zz_n64 (x / ((16 : Int64))) := by
  show 0 ≤ (x / ((16 : Int64))).toInt
  rw [zz_div64 (n := 16) h rfl (by decide)]
  exact Int.ediv_nonneg h (by decide)
def zz_rn5 (x : Int64) (k : Int) : Prop := 0 ≤ x.toInt ∧ x.toInt < 15 ^ (13 - k).toNat
theorem zz_pw : ∀ e : Nat, e < 15 → (0 : Int) < 15 ^ e ∧ (15 : Int) ^ e ≤ 29192926025390625 := by decide
theorem zz_rn5_step {x : Int64} {k k' : Int} {h : Int32} (hx : zz_rn5 x k) (h0 : 0 ≤ k) (h1 : k ≤ 13) (hk : k' = k - 1) (a1 : -1 ≤ h.toInt) (a2 : h.toInt ≤ 13) : zz_rn5 (((((15 : Int64)) * x) + (h.toInt64)) + ((1 : Int64))) k' := by
  obtain ⟨b1, b2⟩ := hx
  obtain ⟨e, he⟩ : ∃ e, e = (13 - k).toNat := ⟨_, rfl⟩
  rw [← he] at b2
  have p1 := zz_pw e (by omega)
  have p2 := zz_pw (e + 1) (by omega)
  have p3 : (15 : Int) ^ (e + 1) = 15 ^ e * 15 := Int.pow_succ _ _
  have s1 : ((15 : Int64) * x).toInt = 15 * x.toInt := by
    rw [Int64.toInt_mul, show (15 : Int64).toInt = 15 from rfl]
    exact zz_b64 _ (by omega) (by omega)
  have s2 : ((15 : Int64) * x + h.toInt64).toInt = 15 * x.toInt + h.toInt := by
    rw [Int64.toInt_add, s1, Int32.toInt_toInt64]
    exact zz_b64 _ (by omega) (by omega)
  have s3 : ((15 : Int64) * x + h.toInt64 + (1 : Int64)).toInt = 15 * x.toInt + h.toInt + 1 := by
    rw [Int64.toInt_add, s2, show (1 : Int64).toInt = 1 from rfl]
    exact zz_b64 _ (by omega) (by omega)
  refine ⟨by rw [s3]; omega, ?_⟩
  rw [s3, show (13 - k').toNat = e + 1 by omega, p3]
  omega
theorem zz_rn5_end {x : Int64} {k : Int} {h : Int32} (hx : zz_rn5 x k) (h0 : k = -1) (a1 : 0 ≤ h.toInt) (a2 : h.toInt ≤ 15) : zz_n64 ((((16 : Int64)) * x) + h.toInt64) := by
  obtain ⟨b1, b2⟩ := hx
  subst h0
  have p1 := zz_pw 14 (by omega)
  rw [show (13 - (-1 : Int)).toNat = 14 from rfl] at b2
  have s1 : ((16 : Int64) * x).toInt = 16 * x.toInt := by
    rw [Int64.toInt_mul, show (16 : Int64).toInt = 16 from rfl]
    exact zz_b64 _ (by omega) (by omega)
  have s2 : ((16 : Int64) * x + h.toInt64).toInt = 16 * x.toInt + h.toInt := by
    rw [Int64.toInt_add, s1, Int32.toInt_toInt64]
    exact zz_b64 _ (by omega) (by omega)
  show 0 ≤ ((16 : Int64) * x + h.toInt64).toInt
  rw [s2]
  omega
theorem zz_rn5_ini : zz_rn5 ((0 : Int64)) 13 := ⟨by decide, by decide⟩
theorem zz_and65535 (a : Int32) (ha : 0 ≤ a.toInt) : (a &&& ((65535 : Int32))).toInt = a.toInt % 65536 := by
  have h2 := zz_ofInt ha
  have h3 : (a &&& (65535 : Int32)).toBitVec.toNat = a.toBitVec.toNat % 65536 := by
    rw [Int32.toBitVec_and, BitVec.toNat_and]
    exact Nat.and_two_pow_sub_one_eq_mod _ 16
  have h4 := zz_toNat (x := a &&& (65535 : Int32)) (by omega)
  omega
def zz_rm (n : Int) (g : Nat → Int64) : Prop := ∀ j : Nat, (j : Int) < n → 0 ≤ (g j).toInt
theorem zz_rm_0 {n : Int} {g : Nat → Int64} (h : n ≤ 0) : zz_rm n g := fun j hj => by omega
theorem zz_rm_at {n : Int} {g : Nat → Int64} {i : Nat} (h : zz_rm n g) (hi : (i : Int) < n) : zz_n64 (g i) := h i hi
theorem zz_rm_upd {n n' : Int} {g : Nat → Int64} {i : Nat} {x : Int64} (h : zz_rm n g) (hx : zz_n64 x) (hi : (i : Int) = n) (hn : n' = n + 1) : zz_rm n' (vp_updL g i x) := fun j hj => by
  show 0 ≤ (if j = i then x else g j).toInt
  by_cases c : j = i
  · rw [if_pos c]; exact hx
  · rw [if_neg c]; exact h j (by omega)
def zz_sl (n : Int) (f : Nat → Int32) : Prop := (zz_cn (fun j => (f j).toInt ≠ 0) 65536 : Int) ≤ n
theorem zz_sl_upd {n n' : Int} {f : Nat → Int32} {i : Nat} {v : Int32} (h : zz_sl n f) (hi : i < 65536) (hn : n' = n + 1) : zz_sl n' (upd f i v) := by
  have := zz_cn_add (P := fun j => (upd f i v j).toInt ≠ 0) (Q := fun j => (f j).toInt ≠ 0) (b0 := i) 65536 (fun b hb z => by
    by_cases c : b = i
    · exact Or.inr c
    · refine Or.inl ?_
      have z : (upd f i v b).toInt ≠ 0 := z
      rw [zz_updE, if_neg c] at z
      exact z)
  rw [if_pos hi] at this
  have h : (zz_cn (fun j => (f j).toInt ≠ 0) 65536 : Int) ≤ n := h
  show (zz_cn (fun j => (upd f i v j).toInt ≠ 0) 65536 : Int) ≤ n'
  omega
def zz_zr (f : Nat → Int32) (x : Int) : Prop := ∀ j : Nat, (j : Int) < x → (f j).toInt = 0
theorem zz_zr_0 {f : Nat → Int32} {x : Int} (h : x ≤ 0) : zz_zr f x := fun j hj => by omega
theorem zz_zr_step {f : Nat → Int32} {x x' : Int} {i : Nat} {v : Int32} (h : zz_zr f x) (hi : (i : Int) = x) (hx : x' = x + 1) (hv : v.toInt = 0) : zz_zr (upd f i v) x' := fun j hj => by
  rw [zz_updE]
  by_cases c : j = i
  · rw [if_pos c]; exact hv
  · rw [if_neg c]; exact h j (by omega)
theorem zz_zr_sl {f : Nat → Int32} {x n : Int} (h : zz_zr f x) (hx : 65536 ≤ x) (hn : n = 0) : zz_sl n f := by
  have e : ∀ m, m ≤ 65536 → zz_cn (fun j => (f j).toInt ≠ 0) m = 0 := fun m => by
    induction m with
    | zero => exact fun _ => rfl
    | succ m ih => exact fun hm => by rw [zz_cn_n (fun z => z (h m (by omega)))]; exact ih (by omega)
  show (zz_cn (fun j => (f j).toInt ≠ 0) 65536 : Int) ≤ n
  rw [e 65536 (Nat.le_refl _)]
  omega
theorem zz_zr_row {T : Nat} {f : Nat → Int32} {x : Int} (h : zz_zr f x) (hx : 65536 ≤ x) : zz_row 65536 (rwV T) f := fun j hj => by
  have := h j (by omega)
  constructor <;> omega
def zz_dst (f : Nat → Int32) (x : Int) (k : Nat) : Prop := ∃ z : Nat, z < 65536 ∧ (f z).toInt = 0 ∧ ((z : Int) - x) % 65536 < (k : Int)
theorem zz_dst_no {f : Nat → Int32} {x : Int} (h : zz_dst f x 0) : False := by
  obtain ⟨z, _, _, h⟩ := h
  omega
theorem zz_dst_step {f : Nat → Int32} {x x' : Int} {k i : Nat} (h : zz_dst f x (k + 1)) (hf : (f i).toInt ≠ 0) (hi : (i : Int) = x) (hx : x' = (x + 1) % 65536) (h1 : x < 65536) : zz_dst f x' k := by
  obtain ⟨z, a1, a2, a3⟩ := h
  have : z ≠ i := fun e => hf (by rw [← e]; exact a2)
  exact ⟨z, a1, a2, by omega⟩
theorem zz_dst_ini {f : Nat → Int32} {n x : Int} {k : Nat} (h : zz_sl n f) (hn : n ≤ 20000) (hk : 65536 ≤ k) : zz_dst f x k := by
  by_cases c : ∃ z : Nat, z < 65536 ∧ (f z).toInt = 0
  · obtain ⟨z, a1, a2⟩ := c
    exact ⟨z, a1, a2, by omega⟩
  · exfalso
    have := zz_cn_full (P := fun j => (f j).toInt ≠ 0) 65536 (fun b hb z => c ⟨b, hb, z⟩)
    have h : (zz_cn (fun j => (f j).toInt ≠ 0) 65536 : Int) ≤ n := h
    omega
-- a new row
def zz_op (f : Nat → Int32) (x : Int) : Prop := ∀ j : Nat, (j : Int) < x → (f j).toInt = -1
theorem zz_op_0 {f : Nat → Int32} {x : Int} (h : x ≤ 0) : zz_op f x := fun j hj => by omega
theorem zz_op_step {f : Nat → Int32} {x x' : Int} {i : Nat} {v : Int32} (h : zz_op f x) (hi : (i : Int) = x) (hx : x' = x + 1) (hv : v.toInt = -1) : zz_op (upd f i v) x' := fun j hj => by
  rw [zz_updE]
  by_cases c : j = i
  · rw [if_pos c]; exact hv
  · rw [if_neg c]; exact h j (by omega)
def zz_JP (pl sp : Nat → Int32) : Prop := ∀ b, b < 200 → 0 ≤ (pl b).toInt ∧ 0 ≤ (sp b).toInt ∧ (pl b).toInt + (sp b).toInt ≤ 1024
theorem zz_JP_Z {f w bl : Int} {o nu pl sp li lm : Nat → Int32} (h : zz_Z f w bl o nu pl sp li lm) : zz_JP pl sp := h.1.1
theorem zz_open_Y {f w bl x : Int} {o nu pl sp : Nat → Int32} (hJ : zz_JP pl sp) (ho : zz_op o x) (hx : 1024 ≤ x) (hw : w ≤ 1024) (hb : bl = 0) : zz_Y f w bl o nu pl sp := by
  subst hb
  have hk : ∀ j, j < 1024 → (o j).toInt = -1 := fun j hj => ho j (by omega)
  have key : ∀ b : Nat, b < 200 → (pl b).toInt < w → (o (pl b).toNatClampNeg).toInt = -1 := fun b hb hp => hk _ (by have := hJ b hb; rw [zz_tn]; omega)
  refine ⟨hJ, ?_, fun h4 x hx hp => by have := hk x hx; omega, fun h7 b hb h1 h2 => by have := key b hb h1; omega⟩
  have : zz_cn (zz_us w o nu pl) 200 ≤ zz_cn (fun _ => False) 200 := zz_cn_mono 200 (fun b hb z => by have := key b hb z.2.1; have := z.2.2; omega)
  have e : ∀ n, zz_cn (fun _ => False) n = 0 := fun n => by
    induction n with
    | zero => rfl
    | succ n ih => rw [zz_cn_n (fun z => z)]; exact ih
  rw [e] at this
  omega
theorem zz_open_Z {f w bl x : Int} {o nu pl sp li lm : Nat → Int32} (hJ : zz_JP pl sp) (ho : zz_op o x) (hx : 1024 ≤ x) (hw : w ≤ 1024) (hb : bl = 0) (h7 : f ≠ 7) : zz_Z f w bl o nu pl sp li lm := ⟨zz_open_Y hJ ho hx hw hb, fun z => absurd z h7⟩
theorem zz_open_7 {f w bl x y : Int} {o nu pl sp li lm g m : Nat → Int32} {z v : Int32} (hT : zz_TLm li lm g m z v) (hJ : zz_JP pl sp) (ho : zz_op o x) (hm : zz_zr lm y) (hx : 1024 ≤ x) (hy : 44 ≤ y) (hw : w ≤ 1024) (hw1 : 1 ≤ w) (hb : bl = 0) (hz : z.toInt = 0) (hv : v.toInt = w) : zz_Z f w bl o nu pl sp g m := ⟨zz_open_Y hJ ho hx hw hb, fun _ => zz_L7_open (fun j hj => ho j (by omega)) hT (fun j hj => hm j (by omega)) hz hv hw1 hw⟩

/-! worst: wrappers for the class's methods -/
theorem zz_addE (a b : Int32) (h0 : 0 ≤ a.toInt) (h1 : 0 ≤ b.toInt) (h : a.toInt + b.toInt ≤ 1000000000) : (a + b).toInt = a.toInt + b.toInt := by
  obtain ⟨k, f⟩ := zz_add a b
  have g := zz_rg (a + b)
  omega
theorem zz_and32767 (a : Int32) (ha : 0 ≤ a.toInt) : (a &&& ((32767 : Int32))).toInt = a.toInt % 32768 := by
  have h2 := zz_ofInt ha
  have h3 : (a &&& (32767 : Int32)).toBitVec.toNat = a.toBitVec.toNat % 32768 := by
    rw [Int32.toBitVec_and, BitVec.toNat_and]
    exact Nat.and_two_pow_sub_one_eq_mod _ 15
  have h4 := zz_toNat (x := a &&& (32767 : Int32)) (by omega)
  omega
def zz_cw (n : Int) (c : Int32) : Prop := zz_wf n.toNat (zz_tb c) (zz_bb c)
def zz_c0 (f : Int) (c : Int32) : Prop := f = 1 ∨ zz_ee c = 0
theorem zz_tbe_c0 {f n : Int} {T B E : Int32} (h : zz_tbe n T B E) (he : f = 1 ∨ E.toInt = 0) : zz_c0 f (zz_mk T B E) := by
  obtain ⟨h0, h1, h2, h3, h4, h5, h6⟩ := h
  rcases he with he | he
  · exact Or.inl he
  · exact Or.inr (by rw [zz_mk_ee h0 h1 h2 h3 h4 h5]; exact he)
def zz_rpb (n : Int) (T : Int32) (pl wd : Nat → Int32) (sz b w : Int) : Prop := ∀ B : Nat → Bool, zz_rp n (zz_hb (zz_bt T) B) pl wd sz b w
def zz_rub (n : Int) (T : Int32) (pl wd : Nat → Int32) (sz : Int) : Prop := ∀ B : Nat → Bool, zz_ru n (zz_hb (zz_bt T) B) pl wd sz
/-- word x of T is not free, or there is none -/
def zz_sh (n : Int) (T x : Int32) : Prop := x.toInt = n ∨ zz_bt T x.toInt.toNat = true
theorem zz_sh_hf {n : Int} {T x : Int32} (h : zz_sh n T x) (h0 : 0 ≤ x.toInt) (h1 : x.toInt ≤ 14) (B : Nat → Bool) : x.toInt = n ∨ ∃ i : Nat, (i : Int) = x.toInt ∧ (zz_hb (zz_bt T) B i).toInt ≠ -1 := by
  rcases h with h | h
  · exact Or.inl h
  · exact Or.inr ⟨x.toInt.toNat, by omega, fun z => by
      have := (zz_hb_neg (t := zz_bt T) (b := B) (w := x.toInt.toNat) (by omega)).mp z
      rw [h] at this
      exact absurd this (by decide)⟩
theorem zz_sh_t {n : Int} {T x : Int32} (h0 : 0 ≤ x.toInt) (h1 : x.toInt ≤ 14) (h : (((T.toUInt32 >>> (x.toUInt32 &&& Int32.toUInt32 31)).toInt32) &&& ((1 : Int32))).toInt = 1) : zz_sh n T x := Or.inr ((zz_bt_test T x h0 (by omega)).1.mp h)
theorem zz_rpb_ini {n : Int} {T : Int32} {pl wd : Nat → Int32} {sz b w : Int} (hs : sz = 0) (hb : b = 0) (hw : w = 0) : zz_rpb n T pl wd sz b w := fun _ => zz_rp_ini hs hb hw
theorem zz_rpb_shut {n : Int} {T x : Int32} {pl wd : Nat → Int32} {sz b b' w' : Int} (h : zz_rpb n T pl wd sz b x.toInt) (hs : zz_sh n T x) (hb : x.toInt ≤ b) (hbw : b ≤ x.toInt) (hn : x.toInt ≤ n) (h0 : 0 ≤ x.toInt) (h1 : x.toInt ≤ 14) (hb' : b' = x.toInt + 1) (hw : w' = x.toInt + 1) : zz_rpb n T pl wd sz b' w' := fun B => zz_rp_shut (h B) hb hbw hn h0 (zz_sh_hf hs h0 h1 B) hb' hw
theorem zz_rpb_add {n : Int} {T x y z : Int32} {pl wd : Nat → Int32} {sz sz' b b' w' : Int} {k : Nat} (h : zz_rpb n T pl wd sz b x.toInt) (hs : zz_sh n T x) (hk : (k : Int) = sz) (hbw : b < x.toInt) (hb0 : 0 ≤ b) (hn : x.toInt ≤ n) (h1 : x.toInt ≤ 14) (hy : y.toInt = b) (hz : z.toInt = x.toInt - b) (hsz : sz' = sz + 1) (hb' : b' = x.toInt + 1) (hw : w' = x.toInt + 1) : zz_rpb n T (upd pl k y) (upd wd k z) sz' b' w' := fun B => zz_rp_add (h B) hk hbw hb0 hn (zz_sh_hf hs (by omega) h1 B) hy hz hsz hb' hw
theorem zz_rpb_free {n : Int} {T x : Int32} {pl wd : Nat → Int32} {sz b w' : Int} (h : zz_rpb n T pl wd sz b x.toInt) (h0 : 0 ≤ x.toInt) (h1 : x.toInt ≤ 14) (ht : (((T.toUInt32 >>> (x.toUInt32 &&& Int32.toUInt32 31)).toInt32) &&& ((1 : Int32))).toInt ≠ 1) (hw : w' = x.toInt + 1) : zz_rpb n T pl wd sz b w' := fun B => zz_rp_free (i := x.toInt.toNat) (h B) (by omega) ((zz_hb_neg (by omega)).mpr ((zz_bt_test T x h0 (by omega)).2.mp ht)) hw
theorem zz_rpb_end {n : Int} {T : Int32} {pl wd : Nat → Int32} {sz b w : Int} (h : zz_rpb n T pl wd sz b w) (hb : n ≤ b) (hn : 0 ≤ n) : zz_rub n T pl wd sz := fun B => zz_rp_end (h B) hb hn
theorem wf_J6_bitCount_0f7a4 (K : Nat) (hK : 1099511627776 ≤ K) (T : Nat) (hT : T ≤ 900) (p0 : Int32) (a0 : 0 ≤ p0.toInt) (a1 : p0.toInt < 16384) : zz_ok (m_J6_bitCount_0f7a4 K p0) (fun z => z.1.toInt = (zz_pcn p0.toInt.toNat 14 : Int)) := ⟨_, rfl, zz_bc p0 a0 a1⟩
theorem zz_tbe_cw {n : Int} {T B E : Int32} (h : zz_tbe n T B E) : zz_cw n ((T ||| (B <<< (((14 : Int32)) &&& 31))) ||| (E <<< (((28 : Int32)) &&& 31))) := (zz_tbe_cc h).2
theorem zz_tbe_c1 {f n : Int} {T B E : Int32} (h : zz_tbe n T B E) (he : f = 1 ∨ E.toInt = 0) : zz_c0 f ((T ||| (B <<< (((14 : Int32)) &&& 31))) ||| (E <<< (((28 : Int32)) &&& 31))) := zz_tbe_c0 h he
theorem zz_tbe_mt {n : Int} {T B E : Int32} {rm rm' : Nat → Int32} {met met' r : Int} (h : zz_tbe n T B E) (hm : zz_mt rm met rm' met' (zz_cc ((T ||| (B <<< (((14 : Int32)) &&& 31))) ||| (E <<< (((28 : Int32)) &&& 31)))) r) : zz_mt rm met rm' met' (zz_rv T B E) r := by
  rw [← (zz_tbe_cc h).1]
  exact hm

/-! worst: the class's room as one int, and its rows of slots -/
def zz_tb (c : Int32) (w : Nat) : Bool := zz_bt c w && decide (w < 14)
def zz_bb (c : Int32) (w : Nat) : Bool := zz_bt c (14 + w) && decide (w < 14)
def zz_ee (c : Int32) : Int := ((c.toBitVec.toNat / 268435456 : Nat) : Int)
def zz_cc (c : Int32) : Int := zz_cd (zz_hb (zz_tb c) (zz_bb c)) (zz_ee c)
theorem zz_ee_rg (c : Int32) : 0 ≤ zz_ee c ∧ zz_ee c < 16 := by
  have := c.toBitVec.isLt
  unfold zz_ee
  omega
theorem zz_lo14 {x : Int32} (h0 : 0 ≤ x.toInt) (h1 : x.toInt < 16384) {w : Nat} (hw : 14 ≤ w) : zz_bt x w = false := by
  obtain ⟨h2, h3⟩ := zz_ofInt h0
  show x.toBitVec.toNat.testBit w = false
  apply Nat.testBit_lt_two_pow
  have : 2 ^ 14 ≤ 2 ^ w := Nat.pow_le_pow_right (by decide) hw
  omega
theorem zz_lo4 {x : Int32} (h0 : 0 ≤ x.toInt) (h1 : x.toInt < 16) {w : Nat} (hw : 4 ≤ w) : zz_bt x w = false := by
  obtain ⟨h2, h3⟩ := zz_ofInt h0
  show x.toBitVec.toNat.testBit w = false
  apply Nat.testBit_lt_two_pow
  have : 2 ^ 4 ≤ 2 ^ w := Nat.pow_le_pow_right (by decide) hw
  omega
theorem zz_bt32 (x : Int32) {w : Nat} (hw : 32 ≤ w) : zz_bt x w = false := BitVec.getLsbD_of_ge _ _ hw
def zz_mk (T B E : Int32) : Int32 := ((T ||| (B <<< (((14 : Int32)) &&& 31))) ||| (E <<< (((28 : Int32)) &&& 31)))
theorem zz_mk_bt (T B E : Int32) {w : Nat} (hw : w < 32) : zz_bt (zz_mk T B E) w = ((zz_bt T w || (decide (14 ≤ w) && zz_bt B (w - 14))) || (decide (28 ≤ w) && zz_bt E (w - 28))) := by
  unfold zz_mk
  rw [zz_bt_or, zz_bt_or, zz_bt_shl B 14 w (by decide) (by decide) hw, zz_bt_shl E 28 w (by decide) (by decide) hw]
  rfl
theorem zz_mk_tb {T B E : Int32} (h0 : 0 ≤ T.toInt) (h1 : T.toInt < 16384) : zz_tb (zz_mk T B E) = zz_bt T := by
  funext w
  unfold zz_tb
  by_cases c : w < 14
  · rw [zz_mk_bt T B E (by omega)]
    simp [c, show ¬ 14 ≤ w by omega, show ¬ 28 ≤ w by omega]
  · rw [zz_lo14 h0 h1 (by omega)]
    simp [c]
theorem zz_mk_bb {T B E : Int32} (h0 : 0 ≤ T.toInt) (h1 : T.toInt < 16384) (h2 : 0 ≤ B.toInt) (h3 : B.toInt < 16384) : zz_bb (zz_mk T B E) = zz_bt B := by
  funext w
  unfold zz_bb
  by_cases c : w < 14
  · rw [zz_mk_bt T B E (by omega), zz_lo14 h0 h1 (by omega)]
    simp [c, show ¬ 28 ≤ 14 + w by omega]
  · rw [zz_lo14 h2 h3 (by omega)]
    simp [c]
theorem zz_mk_ee {T B E : Int32} (h0 : 0 ≤ T.toInt) (h1 : T.toInt < 16384) (h2 : 0 ≤ B.toInt) (h3 : B.toInt < 16384) (h4 : 0 ≤ E.toInt) (h5 : E.toInt < 16) : zz_ee (zz_mk T B E) = E.toInt := by
  obtain ⟨h6, h7⟩ := zz_ofInt h4
  have k : (zz_mk T B E).toBitVec.toNat / 268435456 = E.toBitVec.toNat := by
    apply Nat.eq_of_testBit_eq
    intro i
    rw [show (268435456 : Nat) = 2 ^ 28 from rfl, Nat.testBit_div_two_pow]
    show zz_bt (zz_mk T B E) (i + 28) = zz_bt E i
    by_cases c : i < 4
    · rw [zz_mk_bt T B E (by omega), zz_lo14 h0 h1 (by omega), zz_lo14 h2 h3 (by omega)]
      simp
    · rw [zz_bt32 _ (by omega), zz_lo4 h4 h5 (by omega)]
  unfold zz_ee
  rw [k]
  omega
theorem zz_mk_cc {T B E : Int32} (h0 : 0 ≤ T.toInt) (h1 : T.toInt < 16384) (h2 : 0 ≤ B.toInt) (h3 : B.toInt < 16384) (h4 : 0 ≤ E.toInt) (h5 : E.toInt < 16) : zz_cc (zz_mk T B E) = zz_cd (zz_hb (zz_bt T) (zz_bt B)) E.toInt := by
  unfold zz_cc
  rw [zz_mk_tb h0 h1, zz_mk_bb h0 h1 h2 h3, zz_mk_ee h0 h1 h2 h3 h4 h5]
theorem zz_m14 (w : Nat) : zz_bt ((16383 : Int32)) w = decide (w < 14) := by
  show (16383 : Nat).testBit w = _
  rw [show (16383 : Nat) = 2 ^ 14 - 1 from rfl, Nat.testBit_two_pow_sub_one]
theorem zz_un_t (c : Int32) : zz_bt (c &&& ((16383 : Int32))) = zz_tb c := by
  funext w
  rw [zz_bt_and, zz_m14]
  rfl
theorem zz_un_b (c : Int32) : zz_bt (((c.toUInt32 >>> (((14 : Int32)).toUInt32 &&& Int32.toUInt32 31)).toInt32) &&& ((16383 : Int32))) = zz_bb c := by
  funext w
  rw [zz_bt_and, zz_m14, zz_bt_shr c 14 w (by decide) (by decide)]
  rfl
theorem zz_un_e (c : Int32) : ((c.toUInt32 >>> (((28 : Int32)).toUInt32 &&& Int32.toUInt32 31)).toInt32).toInt = zz_ee c := by
  have h : ((c.toUInt32 >>> (((28 : Int32)).toUInt32 &&& Int32.toUInt32 31)).toInt32).toBitVec.toNat = c.toBitVec.toNat / 268435456 := by
    show (c.toUInt32 >>> (((28 : Int32)).toUInt32 &&& Int32.toUInt32 31)).toNat = _
    rw [UInt32.toNat_shiftRight, Nat.shiftRight_eq_div_pow]
    rfl
  have := c.toBitVec.isLt
  have h2 := zz_toNat (x := (c.toUInt32 >>> (((28 : Int32)).toUInt32 &&& Int32.toUInt32 31)).toInt32) (by omega)
  unfold zz_ee
  omega
theorem zz_cc_inj {n : Nat} {c d : Int32} (hc : zz_wf n (zz_tb c) (zz_bb c)) (hd : zz_wf n (zz_tb d) (zz_bb d)) (e : zz_cc c = zz_cc d) : c = d := by
  have rc := zz_ee_rg c
  have rd := zz_ee_rg d
  obtain ⟨e1, e2⟩ := zz_hb_inj hc hd rc.1 rc.2 rd.1 rd.2 e
  have k : c.toBitVec.toNat = d.toBitVec.toNat := by
    apply Nat.eq_of_testBit_eq
    intro i
    show zz_bt c i = zz_bt d i
    by_cases h1 : i < 14
    · have := (e2 i h1).1
      unfold zz_tb at this
      simpa [h1] using this
    · by_cases h2 : i < 28
      · have := (e2 (i - 14) (by omega)).2
        unfold zz_bb at this
        rw [show 14 + (i - 14) = i by omega] at this
        simpa [show i - 14 < 14 by omega] using this
      · have k2 : c.toBitVec.toNat / 268435456 = d.toBitVec.toNat / 268435456 := by unfold zz_ee at e1; omega
        have f := congrArg (fun x => Nat.testBit x (i - 28)) k2
        simp only [show (268435456 : Nat) = 2 ^ 28 from rfl, Nat.testBit_div_two_pow, show i - 28 + 28 = i by omega] at f
        exact f
  exact Int32.toBitVec_inj.mp (BitVec.eq_of_toNat_eq k)
-- rooms as a list, slots
def zz_cl (rm : Nat → Int32) (n : Int) : List Int := (List.range n.toNat).map (fun i => zz_cc (rm i))
theorem zz_cl_len (g : Nat → Int32) (n : Int) : (zz_cl g n).length = n.toNat := by simp [zz_cl]
theorem zz_cl_at {g : Nat → Int32} {n : Int} {i : Nat} (h : (i : Int) < n) : (zz_cl g n)[i]? = some (zz_cc (g i)) := by
  unfold zz_cl
  rw [List.getElem?_map, List.getElem?_range (by omega)]
  rfl
theorem zz_cl_mem {g : Nat → Int32} {n c : Int} : c ∈ zz_cl g n ↔ ∃ i : Nat, (i : Int) < n ∧ zz_cc (g i) = c := by
  unfold zz_cl
  rw [List.mem_map]
  constructor
  · rintro ⟨i, h, e⟩
    exact ⟨i, by have := List.mem_range.mp h; omega, e⟩
  · rintro ⟨i, h, e⟩
    exact ⟨i, List.mem_range.mpr (by omega), e⟩
theorem zz_cl_app {g : Nat → Int32} {n n' : Int} {i : Nat} {x : Int32} (hi : (i : Int) = n) (hn : n' = n + 1) : zz_cl (upd g i x) n' = zz_cl g n ++ [zz_cc x] := by
  unfold zz_cl
  rw [show n'.toNat = i + 1 by omega, show n.toNat = i by omega, List.range_succ, List.map_append]
  congr 1
  · apply List.map_congr_left
    intro a ha
    have := List.mem_range.mp ha
    rw [zz_updE, if_neg (by omega)]
  · show [zz_cc (upd g i x i)] = [zz_cc x]
    rw [zz_updE, if_pos rfl]
theorem zz_hsx (c : Int32) : ∃ x : Int, x = (((c * ((-1640531535 : Int32))).toUInt32 >>> (((17 : Int32)).toUInt32 &&& Int32.toUInt32 31)).toInt32).toInt := ⟨_, rfl⟩
noncomputable def zz_hs (c : Int32) : Int := Classical.choose (zz_hsx c)
theorem zz_hsE (c : Int32) : zz_hs c = (((c * ((-1640531535 : Int32))).toUInt32 >>> (((17 : Int32)).toUInt32 &&& Int32.toUInt32 31)).toInt32).toInt := Classical.choose_spec (zz_hsx c)
theorem zz_hs_rg (c : Int32) : 0 ≤ zz_hs c ∧ zz_hs c ≤ 32767 := by
  rw [zz_hsE]
  exact zz_ushr17 _
def zz_ic (n base met : Int) (rm sl : Nat → Int32) : Prop := (∀ i : Nat, (i : Int) < met → zz_wf n.toNat (zz_tb (rm i)) (zz_bb (rm i))) ∧ (∀ i : Nat, (i : Int) < met → ∃ d : Nat, d < 32768 ∧ (sl ((zz_hs (rm i) + d) % 32768).toNat).toInt = base + i ∧ ∀ j : Nat, j < d → base ≤ (sl ((zz_hs (rm i) + j) % 32768).toNat).toInt) ∧ (∀ s : Nat, s < 32768 → 0 ≤ (sl s).toInt ∧ (sl s).toInt < base + met) ∧ (zz_cn (fun s => base ≤ (sl s).toInt) 32768 : Int) ≤ met
theorem zz_ic_rg {n base met : Int} {rm sl : Nat → Int32} (h : zz_ic n base met rm sl) {s : Nat} (hs : s < 32768) : 0 ≤ (sl s).toInt ∧ (sl s).toInt < base + met := h.2.2.1 s hs
theorem zz_ic_new {n n' base base' met met' : Int} {rm sl : Nat → Int32} (h : zz_ic n base met rm sl) (hb : base' = base + met) (hm : met' = 0) : zz_ic n' base' met' rm sl := by
  refine ⟨fun i hi => by omega, fun i hi => by omega, fun s hs => by have := h.2.2.1 s hs; omega, ?_⟩
  have e : ∀ m, m ≤ 32768 → zz_cn (fun s => base' ≤ (sl s).toInt) m = 0 := fun m => by
    induction m with
    | zero => exact fun _ => rfl
    | succ m ih => exact fun hm => by rw [zz_cn_n (fun z => by have := h.2.2.1 m (by omega); omega)]; exact ih (by omega)
  rw [e 32768 (Nat.le_refl _)]
  omega
def zz_pp (base : Int) (rm sl : Nat → Int32) (c : Int32) (k x : Int) : Prop := x = (zz_hs c + k) % 32768 ∧ ∀ j : Nat, (j : Int) < k → base ≤ (sl ((zz_hs c + j) % 32768).toNat).toInt ∧ rm ((sl ((zz_hs c + j) % 32768).toNat).toInt - base).toNat ≠ c
theorem zz_pp_ini {base : Int} {rm sl : Nat → Int32} {c : Int32} {k x : Int} (hk : k = 0) (hx : x = zz_hs c) : zz_pp base rm sl c k x := by
  have := zz_hs_rg c
  exact ⟨by omega, fun j hj => by omega⟩
theorem zz_pp_step {base : Int} {rm sl : Nat → Int32} {c : Int32} {k k' x x' : Int} {i j : Nat} (h : zz_pp base rm sl c k x) (hi : (i : Int) = x) (hb : base ≤ (sl i).toInt) (hj : (j : Int) = (sl i).toInt - base) (hr : rm j ≠ c) (hk : k' = k + 1) (hx : x' = (x + 1) % 32768) : zz_pp base rm sl c k' x' := by
  obtain ⟨h1, h2⟩ := h
  refine ⟨by omega, fun a ha => ?_⟩
  by_cases e : (a : Int) = k
  · have e1 : ((zz_hs c + (a : Int)) % 32768).toNat = i := by omega
    rw [e1]
    exact ⟨hb, by rw [show ((sl i).toInt - base).toNat = j by omega]; exact hr⟩
  · exact h2 a (by omega)
theorem zz_pp_full {n base met : Int} {rm sl : Nat → Int32} {c : Int32} {k x : Int} (hI : zz_ic n base met rm sl) (h : zz_pp base rm sl c k x) (hk : 32768 ≤ k) (hm : met ≤ 20000) : False := by
  have hc := zz_hs_rg c
  have key : ∀ s, s < 32768 → base ≤ (sl s).toInt := fun s hs => by
    have := (h.2 (((s : Int) - zz_hs c) % 32768).toNat (by omega)).1
    rw [show ((zz_hs c + (((((s : Int) - zz_hs c) % 32768).toNat : Nat) : Int)) % 32768).toNat = s by omega] at this
    exact this
  have := zz_cn_full (P := fun s => base ≤ (sl s).toInt) 32768 key
  have := hI.2.2.2
  omega
theorem zz_pp_in {n base met : Int} {rm sl : Nat → Int32} {c : Int32} {i j : Nat} (hI : zz_ic n base met rm sl) (hi : i < 32768) (hj : (j : Int) = (sl i).toInt - base) (hr : rm j = c) : zz_cc c ∈ zz_cl rm met := zz_cl_mem.mpr ⟨j, by have := hI.2.2.1 i hi; omega, by rw [hr]⟩
theorem zz_pp_out {n base met : Int} {rm sl : Nat → Int32} {c : Int32} {k x : Int} {i : Nat} (hI : zz_ic n base met rm sl) (h : zz_pp base rm sl c k x) (hw : zz_wf n.toNat (zz_tb c) (zz_bb c)) (hi : (i : Int) = x) (hs : (sl i).toInt < base) (hk : 0 ≤ k) : zz_cc c ∉ zz_cl rm met := fun z => by
  obtain ⟨a, a1, a2⟩ := zz_cl_mem.mp z
  have e := zz_cc_inj (hI.1 a a1) hw a2
  obtain ⟨d, b1, b2, b3⟩ := hI.2.1 a a1
  rw [e] at b2 b3
  obtain ⟨h1, h2⟩ := h
  by_cases q : k ≤ (d : Int)
  · by_cases w : k = (d : Int)
    · rw [show ((zz_hs c + (d : Int)) % 32768).toNat = i by omega] at b2
      omega
    · have := b3 k.toNat (by omega)
      rw [show ((zz_hs c + ((k.toNat : Nat) : Int)) % 32768).toNat = i by omega] at this
      omega
  · have := (h2 d (by omega)).2
    rw [b2, show (base + (a : Int) - base).toNat = a by omega] at this
    exact this e
theorem zz_ic_add {n base met met' : Int} {rm sl : Nat → Int32} {c u : Int32} {k x : Int} {i m : Nat} (hI : zz_ic n base met rm sl) (h : zz_pp base rm sl c k x) (hw : zz_wf n.toNat (zz_tb c) (zz_bb c)) (hi : (i : Int) = x) (hi2 : i < 32768) (hs : (sl i).toInt < base) (hk : 0 ≤ k) (hk2 : k < 32768) (hm : (m : Int) = met) (hm' : met' = met + 1) (hu : u.toInt = base + met) (hb : 0 ≤ base) : zz_ic n base met' (upd rm m c) (upd sl i u) := by
  have nz : ∀ s, base ≤ (sl s).toInt → base ≤ (upd sl i u s).toInt := fun s hs1 => by
    rw [zz_updE]
    by_cases d : s = i
    · rw [if_pos d]; omega
    · rw [if_neg d]; exact hs1
  refine ⟨fun a ha => ?_, fun a ha => ?_, fun s hs1 => ?_, ?_⟩
  · rw [zz_updE]
    by_cases d : a = m
    · rw [if_pos d]; exact hw
    · rw [if_neg d]; exact hI.1 a (by omega)
  · rw [zz_updE]
    by_cases d : a = m
    · rw [if_pos d]
      refine ⟨k.toNat, by omega, ?_, fun j hj => nz _ (h.2 j (by omega)).1⟩
      have := h.1
      rw [show ((zz_hs c + ((k.toNat : Nat) : Int)) % 32768).toNat = i by omega, zz_updE, if_pos rfl]
      omega
    · rw [if_neg d]
      obtain ⟨da, b1, b2, b3⟩ := hI.2.1 a (by omega)
      refine ⟨da, b1, ?_, fun j hj => nz _ (b3 j hj)⟩
      rw [zz_updE]
      by_cases q : ((zz_hs (rm a) + (da : Int)) % 32768).toNat = i
      · rw [q] at b2; omega
      · rw [if_neg q]; exact b2
  · rw [zz_updE]
    by_cases d : s = i
    · rw [if_pos d]; have := hI.2.2.1 i hi2; omega
    · rw [if_neg d]; have := hI.2.2.1 s hs1; omega
  · have := zz_cn_add (P := fun s => base ≤ (upd sl i u s).toInt) (Q := fun s => base ≤ (sl s).toInt) (b0 := i) 32768 (fun s hs1 z => by
      by_cases d : s = i
      · exact Or.inr d
      · refine Or.inl ?_
        have z : base ≤ (upd sl i u s).toInt := z
        rw [zz_updE, if_neg d] at z
        exact z)
    rw [if_pos hi2] at this
    have := hI.2.2.2
    omega
/-- what meet does to the rooms -/
def zz_ml (L L' : List Int) (c r : Int) : Prop := (c ∈ L ∧ L' = L ∧ r = 1) ∨ (c ∉ L ∧ 20000 ≤ L.length ∧ r = 0) ∨ (c ∉ L ∧ L.length < 20000 ∧ L' = L ++ [c] ∧ r = 1)
def zz_mt (rm : Nat → Int32) (n : Int) (rm' : Nat → Int32) (n' c r : Int) : Prop := zz_ml (zz_cl rm n) (zz_cl rm' n') c r

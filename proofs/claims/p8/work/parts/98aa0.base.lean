/-! worst: what the reference's methods do, as facts -/
theorem zz_mdE {x c : Int64} (n : Nat) (hx : zz_n64 x) (hc : c.toInt = n) (h0 : 0 < n) (h1 : n ≤ 65536) : ((x - x / c * c).toInt32).toInt = x.toInt % n := by
  have hx : 0 ≤ x.toInt := hx
  have g := zz_rg64 x
  have d := zz_div64 hx hc h0
  have e1 : 0 ≤ x.toInt / (n : Int) * n := Int.mul_nonneg (Int.ediv_nonneg hx (by omega)) (by omega)
  have e2 : x.toInt / (n : Int) * n ≤ x.toInt := Int.ediv_mul_le _ (by omega)
  have m : (x / c * c).toInt = x.toInt / n * n := by
    rw [Int64.toInt_mul, d, hc]
    exact zz_b64 _ (by omega) (by omega)
  have e3 : x.toInt - x.toInt / n * n = x.toInt % n := by rw [Int.emod_def, Int.mul_comm]
  have e4 : 0 ≤ x.toInt % (n : Int) := Int.emod_nonneg _ (by omega)
  have e5 : x.toInt % (n : Int) < n := Int.emod_lt_of_pos _ (by omega)
  have s : (x - x / c * c).toInt = x.toInt % n := by
    rw [Int64.toInt_sub, m, e3]
    exact zz_b64 _ (by omega) (by omega)
  rw [Int64.toInt_toInt32, s]
  exact Int.bmod_eq_of_le (by omega) (by omega)
theorem zz_mdE16 (x : Int64) (h : zz_n64 x) : ((x - x / ((16 : Int64)) * ((16 : Int64))).toInt32).toInt = x.toInt % 16 := zz_mdE 16 h rfl (by decide) (by decide)
theorem zz_mdE65536 (x : Int64) (h : zz_n64 x) : ((x - x / ((65536 : Int64)) * ((65536 : Int64))).toInt32).toInt = x.toInt % 65536 := zz_mdE 65536 h rfl (by decide) (by decide)
-- roomNumber
def zz_vl (r : Int64) (h : Nat → Int32) (e : Int) : Prop := r.toInt = zz_cd h e
def zz_hx (x : Int64) (h : Nat → Int32) (k : Int) : Prop := x.toInt = zz_hd h (13 - k).toNat
theorem zz_hx_ini (h : Nat → Int32) : zz_hx ((0 : Int64)) h 13 := rfl
theorem zz_hx_step {x : Int64} {h : Nat → Int32} {k k' : Int} {i : Nat} (hh : zz_has h) (hx : zz_hx x h k) (h0 : 0 ≤ k) (h1 : k ≤ 13) (hi : (i : Int) = k) (hk : k' = k - 1) : zz_hx (((((15 : Int64)) * x) + ((h i).toInt64)) + ((1 : Int64))) h k' := by
  have hx : x.toInt = zz_hd h (13 - k).toNat := hx
  obtain ⟨e, he⟩ : ∃ e, e = (13 - k).toNat := ⟨_, rfl⟩
  rw [← he] at hx
  have b := zz_hd_rg hh e (by omega)
  have p1 := zz_pw e (by omega)
  have a := hh i (by omega)
  have s1 : ((15 : Int64) * x).toInt = 15 * x.toInt := by
    rw [Int64.toInt_mul, show (15 : Int64).toInt = 15 from rfl]
    exact zz_b64 _ (by omega) (by omega)
  have s2 : ((15 : Int64) * x + (h i).toInt64).toInt = 15 * x.toInt + (h i).toInt := by
    rw [Int64.toInt_add, s1, Int32.toInt_toInt64]
    exact zz_b64 _ (by omega) (by omega)
  have s3 : ((15 : Int64) * x + (h i).toInt64 + (1 : Int64)).toInt = 15 * x.toInt + (h i).toInt + 1 := by
    rw [Int64.toInt_add, s2, show (1 : Int64).toInt = 1 from rfl]
    exact zz_b64 _ (by omega) (by omega)
  show ((15 : Int64) * x + (h i).toInt64 + (1 : Int64)).toInt = zz_hd h (13 - k').toNat
  rw [s3, show (13 - k').toNat = e + 1 by omega, hx, show i = 13 - e by omega]
  show _ = 15 * zz_hd h e + ((h (13 - e)).toInt + 1)
  omega
theorem zz_hx_end {x : Int64} {h : Nat → Int32} {k : Int} {e : Int32} (hh : zz_has h) (hx : zz_hx x h k) (h0 : k = -1) (a1 : 0 ≤ e.toInt) (a2 : e.toInt ≤ 15) : zz_vl ((((16 : Int64)) * x) + e.toInt64) h e.toInt := by
  subst h0
  have hx : x.toInt = zz_hd h 14 := hx
  have b := zz_hd_rg hh 14 (Nat.le_refl _)
  have p1 := zz_pw 14 (by omega)
  have s1 : ((16 : Int64) * x).toInt = 16 * x.toInt := by
    rw [Int64.toInt_mul, show (16 : Int64).toInt = 16 from rfl]
    exact zz_b64 _ (by omega) (by omega)
  show ((16 : Int64) * x + e.toInt64).toInt = 16 * zz_hd h 14 + e.toInt
  rw [Int64.toInt_add, s1, Int32.toInt_toInt64, hx]
  exact zz_b64 _ (by omega) (by omega)
theorem zz_vl_n {r : Int64} {h : Nat → Int32} {e : Int} (hh : zz_has h) (hv : zz_vl r h e) (he : 0 ≤ e) : zz_n64 r := by
  have b := zz_hd_rg hh 14 (Nat.le_refl _)
  have hv : r.toInt = 16 * zz_hd h 14 + e := hv
  show 0 ≤ r.toInt
  omega
-- take
def zz_tk (h : Nat → Int32) (v : Int) (k : Int) : Prop := ∀ j : Nat, (j : Int) < k → h j = zz_hv v j
def zz_tw (x : Int64) (v : Int) (k : Int) : Prop := x.toInt = v / 16 / 15 ^ k.toNat
def zz_ak (s : Int32) (v : Int) (k : Int) : Prop := s.toInt = zz_as (zz_hv v) k.toNat
theorem zz_tw_ini {p : Int64} {v k : Int} (hp : zz_n64 p) (hv : v = p.toInt) (hk : k = 0) : zz_tw (p / ((16 : Int64))) v k := by
  subst hk
  show (p / (16 : Int64)).toInt = v / 16 / 1
  rw [zz_div64 (n := 16) hp rfl (by decide), hv]
  omega
theorem zz_tw_step {x : Int64} {v k k' : Int} (h : zz_tw x v k) (hx : zz_n64 x) (h0 : 0 ≤ k) (hk : k' = k + 1) : zz_tw (x / ((15 : Int64))) v k' := by
  have h : x.toInt = v / 16 / 15 ^ k.toNat := h
  show (x / (15 : Int64)).toInt = v / 16 / 15 ^ k'.toNat
  rw [zz_div64 (n := 15) hx rfl (by decide), h, show k'.toNat = k.toNat + 1 by omega, Int.pow_succ, Int.ediv_ediv_of_nonneg (Int.le_of_lt (Int.pow_pos (by decide)))]
  rfl
theorem zz_tk_ini {h : Nat → Int32} {v k : Int} (hk : k ≤ 0) : zz_tk h v k := fun j hj => by omega
theorem zz_tk_dig {x : Int64} {v k : Int} {u : Int32} {i : Nat} (h : zz_tw x v k) (hx : zz_n64 x) (hi : (i : Int) = k) (hu : u = ((x - x / ((15 : Int64)) * ((15 : Int64))).toInt32) - ((1 : Int32))) : u = zz_hv v i := by
  have h : x.toInt = v / 16 / 15 ^ k.toNat := h
  have e := zz_mdE (x := x) (c := 15) 15 hx rfl (by decide) (by decide)
  have b := zz_hv_rg v i
  have m1 : ((x - x / ((15 : Int64)) * ((15 : Int64))).toInt32).toInt = x.toInt % 15 := e
  have m2 : ((((x - x / ((15 : Int64)) * ((15 : Int64))).toInt32) - ((1 : Int32)))).toInt = x.toInt % 15 - 1 := by
    rw [zz_m1 _ (by omega), m1]
  apply Int32.toInt_inj.mp
  rw [hu, m2, h, show k.toNat = i by omega]
  unfold zz_hv
  rw [zz_ofI _ (by omega) (by omega)]
theorem zz_tk_step {h : Nat → Int32} {x : Int64} {v k k' : Int} {u : Int32} {i : Nat} (ht : zz_tk h v k) (h1 : zz_tw x v k) (hx : zz_n64 x) (hi : (i : Int) = k) (hk : k' = k + 1) (hu : u = ((x - x / ((15 : Int64)) * ((15 : Int64))).toInt32) - ((1 : Int32))) : zz_tk (upd h i u) v k' := fun j hj => by
  rw [zz_updE]
  by_cases c : j = i
  · rw [if_pos c, c]; exact zz_tk_dig h1 hx hi hu
  · rw [if_neg c]; exact ht j (by omega)
theorem zz_ak_ini {s : Int32} {v k : Int} (hs : s.toInt = 0) (hk : k = 0) : zz_ak s v k := by
  subst hk
  exact hs
theorem zz_ak_n {s : Int32} {h : Nat → Int32} {x : Int64} {v k k' : Int} {u : Int32} {i : Nat} (ha : zz_ak s v k) (h1 : zz_tw x v k) (hx : zz_n64 x) (hi : (i : Int) = k) (hk : k' = k + 1) (hu : u = ((x - x / ((15 : Int64)) * ((15 : Int64))).toInt32) - ((1 : Int32))) (hn : (upd h i u i).toInt < 0) : zz_ak s v k' := by
  have e := zz_tk_dig h1 hx hi hu
  rw [zz_updE, if_pos rfl, e] at hn
  have ha : s.toInt = zz_as (zz_hv v) k.toNat := ha
  show s.toInt = zz_as (zz_hv v) k'.toNat
  rw [show k'.toNat = i + 1 by omega]
  show s.toInt = zz_as (zz_hv v) i + _
  rw [if_pos hn, ha, show k.toNat = i by omega]
  omega
theorem zz_ak_y {s s' : Int32} {h : Nat → Int32} {x : Int64} {v k k' : Int} {u : Int32} {i : Nat} (ha : zz_ak s v k) (h1 : zz_tw x v k) (hx : zz_n64 x) (hi : (i : Int) = k) (hk : k' = k + 1) (hu : u = ((x - x / ((15 : Int64)) * ((15 : Int64))).toInt32) - ((1 : Int32))) (hn : 0 ≤ (upd h i u i).toInt) (hs : s'.toInt = s.toInt + 1) : zz_ak s' v k' := by
  have e := zz_tk_dig h1 hx hi hu
  rw [zz_updE, if_pos rfl, e] at hn
  have ha : s.toInt = zz_as (zz_hv v) k.toNat := ha
  show s'.toInt = zz_as (zz_hv v) k'.toNat
  rw [show k'.toNat = i + 1 by omega]
  show s'.toInt = zz_as (zz_hv v) i + _
  rw [if_neg (by omega), hs, ha, show k.toNat = i by omega]
-- rooms as a list
def zz_rl (g : Nat → Int64) (n : Int) : List Int := (List.range n.toNat).map (fun i => (g i).toInt)
theorem zz_rl_len (g : Nat → Int64) (n : Int) : (zz_rl g n).length = n.toNat := by simp [zz_rl]
theorem zz_rl_at {g : Nat → Int64} {n : Int} {i : Nat} (h : (i : Int) < n) : (zz_rl g n)[i]? = some (g i).toInt := by
  unfold zz_rl
  rw [List.getElem?_map, List.getElem?_range (by omega)]
  rfl
theorem zz_rl_mem {g : Nat → Int64} {n c : Int} : c ∈ zz_rl g n ↔ ∃ i : Nat, (i : Int) < n ∧ (g i).toInt = c := by
  unfold zz_rl
  rw [List.mem_map]
  constructor
  · rintro ⟨i, h, e⟩
    exact ⟨i, by have := List.mem_range.mp h; omega, e⟩
  · rintro ⟨i, h, e⟩
    exact ⟨i, List.mem_range.mpr (by omega), e⟩
theorem zz_rl_app {g : Nat → Int64} {n n' : Int} {i : Nat} {x : Int64} (hi : (i : Int) = n) (hn : n' = n + 1) : zz_rl (vp_updL g i x) n' = zz_rl g n ++ [x.toInt] := by
  unfold zz_rl
  rw [show n'.toNat = i + 1 by omega, show n.toNat = i by omega, List.range_succ, List.map_append]
  congr 1
  · apply List.map_congr_left
    intro a ha
    have := List.mem_range.mp ha
    show (if a = i then x else g a).toInt = (g a).toInt
    rw [if_neg (by omega)]
  · show [(if i = i then x else g i).toInt] = [x.toInt]
    rw [if_pos rfl]
def zz_hi (sl : Nat → Int32) (g : Nat → Int64) (n : Int) : Prop := (∀ i : Nat, (i : Int) < n → ∃ d : Nat, d < 65536 ∧ (sl (((g i).toInt + d) % 65536).toNat).toInt = i + 1 ∧ ∀ j : Nat, j < d → (sl (((g i).toInt + j) % 65536).toNat).toInt ≠ 0) ∧ ∀ s : Nat, s < 65536 → 0 ≤ (sl s).toInt ∧ (sl s).toInt ≤ n
theorem zz_hi_0 {sl : Nat → Int32} {g : Nat → Int64} {n x : Int} (h : zz_zr sl x) (hx : 65536 ≤ x) (hn : n = 0) : zz_hi sl g n := ⟨fun i hi => by omega, fun s hs => by have := h s (by omega); omega⟩
def zz_pb (sl : Nat → Int32) (g : Nat → Int64) (v x : Int) : Prop := ∃ d : Nat, x = (v + d) % 65536 ∧ ∀ j : Nat, j < d → (sl ((v + j) % 65536).toNat).toInt ≠ 0 ∧ (g ((sl ((v + j) % 65536).toNat).toInt - 1).toNat).toInt ≠ v
theorem zz_pb_ini {sl : Nat → Int32} {g : Nat → Int64} {v x : Int} (h : x = v % 65536) : zz_pb sl g v x := ⟨0, by omega, fun j hj => by omega⟩
theorem zz_pb_step {sl : Nat → Int32} {g : Nat → Int64} {v x x' : Int} {i j : Nat} (h : zz_pb sl g v x) (hi : (i : Int) = x) (hs : (sl i).toInt ≠ 0) (hj : (j : Int) = (sl i).toInt - 1) (hg : (g j).toInt ≠ v) (hx : x' = (x + 1) % 65536) : zz_pb sl g v x' := by
  obtain ⟨d, h1, h2⟩ := h
  refine ⟨d + 1, by omega, fun k hk => ?_⟩
  by_cases c : k = d
  · subst c
    rw [show ((v + (k : Int)) % 65536).toNat = i by omega]
    exact ⟨hs, by rw [show ((sl i).toInt - 1).toNat = j by omega]; exact hg⟩
  · exact h2 k (by omega)
theorem zz_pb_in {g : Nat → Int64} {sl : Nat → Int32} {n v : Int} {i j : Nat} (hh : zz_hi sl g n) (hi : i < 65536) (hs : 0 < (sl i).toInt) (hj : (j : Int) = (sl i).toInt - 1) (hg : (g j).toInt = v) : v ∈ zz_rl g n := zz_rl_mem.mpr ⟨j, by have := hh.2 i hi; omega, hg⟩
theorem zz_pb_out {g : Nat → Int64} {sl : Nat → Int32} {n v x : Int} {i : Nat} (hh : zz_hi sl g n) (h : zz_pb sl g v x) (hi : (i : Int) = x) (hs : (sl i).toInt = 0) : v ∉ zz_rl g n := fun z => by
  obtain ⟨a, a1, a2⟩ := zz_rl_mem.mp z
  obtain ⟨da, b1, b2, b3⟩ := hh.1 a a1
  obtain ⟨d, h1, h2⟩ := h
  rw [a2] at b2 b3
  by_cases c : d ≤ da
  · by_cases e : d = da
    · subst e
      rw [show ((v + (d : Int)) % 65536).toNat = i by omega] at b2
      omega
    · have := b3 d (by omega)
      rw [show ((v + (d : Int)) % 65536).toNat = i by omega] at this
      exact this hs
  · have := (h2 da (by omega)).2
    rw [b2, show ((a : Int) + 1 - 1).toNat = a by omega] at this
    exact this a2
theorem zz_hi_add {g : Nat → Int64} {sl : Nat → Int32} {n n' v x : Int} {i k : Nat} {w : Int64} {u : Int32} (hh : zz_hi sl g n) (h : zz_pb sl g v x) (hi : (i : Int) = x) (hs : (sl i).toInt = 0) (hk : (k : Int) = n) (hn : n' = n + 1) (hu : u.toInt = n + 1) (hw : w.toInt = v) : zz_hi (upd sl i u) (vp_updL g k w) n' := by
  obtain ⟨d, h1, h2⟩ := h
  have hd : d < 65536 := by
    refine Nat.lt_of_not_le fun z => ?_
    have := (h2 (d - 65536) (by omega)).1
    rw [show ((v + ((d - 65536 : Nat) : Int)) % 65536).toNat = i by omega] at this
    exact this hs
  have nz : ∀ s, (sl s).toInt ≠ 0 → (upd sl i u s).toInt ≠ 0 := fun s hs1 => by
    rw [zz_updE]
    by_cases c : s = i
    · rw [if_pos c]; omega
    · rw [if_neg c]; exact hs1
  refine ⟨fun a ha => ?_, fun s hs1 => ?_⟩
  · by_cases c : a = k
    · subst c
      have e : (vp_updL g a w a) = w := by show (if a = a then w else g a) = w; rw [if_pos rfl]
      rw [e, hw]
      refine ⟨d, hd, ?_, fun j hj => nz _ (h2 j hj).1⟩
      rw [show ((v + (d : Int)) % 65536).toNat = i by omega, zz_updE, if_pos rfl]
      omega
    · have e : (vp_updL g k w a) = g a := by show (if a = k then w else g a) = g a; rw [if_neg c]
      rw [e]
      obtain ⟨da, b1, b2, b3⟩ := hh.1 a (by omega)
      refine ⟨da, b1, ?_, fun j hj => nz _ (b3 j hj)⟩
      rw [zz_updE]
      by_cases c2 : (((g a).toInt + (da : Int)) % 65536).toNat = i
      · rw [c2] at b2; omega
      · rw [if_neg c2]; exact b2
  · rw [zz_updE]
    by_cases c : s = i
    · rw [if_pos c]
      have := hh.2 i (by omega)
      omega
    · rw [if_neg c]
      have := hh.2 s hs1
      omega
theorem zz_lgneq {x y : Int64} (h : (lg_cmp x y).toInt ≠ 0) : x.toInt ≠ y.toInt := fun e => by
  have e : x = y := Int64.toInt_inj.mp e
  subst e
  exact h (by unfold lg_cmp; rw [if_neg (by intro z; exact Int64.lt_irrefl z), if_pos rfl]; rfl)
theorem zz_lgeq {x y : Int64} (h : (lg_cmp x y).toInt = 0) : x.toInt = y.toInt := by
  unfold lg_cmp at h
  by_cases c : x > y
  · rw [if_pos c] at h; exact absurd h (by decide)
  · rw [if_neg c] at h
    by_cases d : x = y
    · rw [d]
    · rw [if_neg d] at h; exact absurd h (by decide)
/-- what come does to the rooms: c, the answer r -/
def zz_cm (g : Nat → Int64) (n : Int) (g' : Nat → Int64) (n' c r : Int) : Prop := (c ∈ zz_rl g n ∧ zz_rl g' n' = zz_rl g n ∧ r = 1) ∨ (c ∉ zz_rl g n ∧ 20000 ≤ n ∧ r = 0) ∨ (c ∉ zz_rl g n ∧ n < 20000 ∧ zz_rl g' n' = zz_rl g n ++ [c] ∧ r = 1)
theorem zz_cm_in {g : Nat → Int64} {sl : Nat → Int32} {n c r : Int} {i j : Nat} (hh : zz_hi sl g n) (hi : i < 65536) (hs : 0 < (sl i).toInt) (hj : (j : Int) = (sl i).toInt - 1) (hg : (g j).toInt = c) (hr : r = 1) : zz_cm g n g n c r := Or.inl ⟨zz_pb_in hh hi hs hj hg, rfl, hr⟩
theorem zz_cm_full {g : Nat → Int64} {sl : Nat → Int32} {n c r x : Int} {i : Nat} (hh : zz_hi sl g n) (h : zz_pb sl g c x) (hi : (i : Int) = x) (hs : (sl i).toInt = 0) (hn : 20000 ≤ n) (hr : r = 0) : zz_cm g n g n c r := Or.inr (Or.inl ⟨zz_pb_out hh h hi hs, hn, hr⟩)
theorem zz_cm_new {g : Nat → Int64} {sl : Nat → Int32} {n n' c r x : Int} {i k : Nat} {w : Int64} (hh : zz_hi sl g n) (h : zz_pb sl g c x) (hi : (i : Int) = x) (hs : (sl i).toInt = 0) (hn : n < 20000) (hr : r = 1) (hk : (k : Int) = n) (hn' : n' = n + 1) (hw : w.toInt = c) : zz_cm g n (vp_updL g k w) n' c r := Or.inr (Or.inr ⟨zz_pb_out hh h hi hs, hn, by rw [zz_rl_app hk hn', hw], hr⟩)
/-! worst: fits, and what the loops of holds go on with -/
theorem zz_ff_end {n : Int} {h : Nat → Int32} {a fr ah r : Int} (hr : r = -1) (hf : ah ≤ fr) : zz_ff n h a fr ah r := Or.inl ⟨hr, fun p h1 h2 => by omega⟩
theorem zz_ff_hit {n : Int} {h : Nat → Int32} {a fr ah r e : Int} (hs : zz_sq n h fr e) (hr : r = fr) (ha : 1 ≤ a) (he : fr + a ≤ e) (hf : fr < ah) : zz_ff n h a fr ah r := by
  subst hr
  refine Or.inr ⟨Int.le_refl _, hf, ⟨?_, fun x h1 h2 => hs.2.1 x h1 (by omega)⟩, fun p h1 h2 => by omega⟩
  have := hs.2.2.2
  omega
theorem zz_ff_step {n : Int} {h : Nat → Int32} {a fr fr' ah r e : Int} (hs : zz_sq n h fr e) (hr : zz_ff n h a fr' ah r) (he : e < fr + a) (hf : fr' = e + 1) (h0 : 0 ≤ fr) : zz_ff n h a fr ah r := by
  have key : ∀ p, fr ≤ p → p < fr' → ¬ zz_ft n h a p := fun p h1 h2 z => by
    obtain ⟨z1, z2⟩ := z
    have b := hs.1
    have := z2 e.toNat (by omega) (by omega)
    have c := hs.2.2.1
    omega
  have b := hs.1
  rcases hr with ⟨a1, a2⟩ | ⟨a1, a2, a3, a4⟩
  · exact Or.inl ⟨a1, fun p h1 h2 => by
      by_cases c : p < fr'
      · exact key p h1 c
      · exact a2 p (by omega) h2⟩
  · exact Or.inr ⟨by omega, a2, a3, fun p h1 h2 => by
      by_cases c : p < fr'
      · exact key p h1 c
      · exact a4 p (by omega) h2⟩
def zz_bi (b : Prop) (n : Int) (h : Nat → Int32) (a best size p : Int) : Prop := (best < 0 ∧ ∀ q u : Nat, zz_rn h n.toNat q u → (q : Int) < p → (u : Int) < a) ∨ (0 ≤ best ∧ best < p ∧ 0 ≤ size ∧ zz_rn h n.toNat best.toNat size.toNat ∧ a ≤ size ∧ ∀ q u : Nat, zz_rn h n.toNat q u → (q : Int) < p → a ≤ (u : Int) → (b ∧ size ≤ (u : Int) ∨ ¬ b ∧ (u : Int) ≤ size) ∧ ((u : Int) = size → best ≤ (q : Int)))
theorem zz_bi_ini {b : Prop} {n : Int} {h : Nat → Int32} {a best size p : Int} (hb : best < 0) (hp : p ≤ 0) : zz_bi b n h a best size p := Or.inl ⟨hb, fun q u _ hq => by omega⟩
theorem zz_rn_n1 {h : Nat → Int32} {W i : Nat} (hi : 0 ≤ (h i).toInt) (u : Nat) : ¬ zz_rn h W i u := fun z => by
  have := z.2.2.1 i (Nat.le_refl _) (by have := z.1; omega)
  omega
theorem zz_rn_n2 {h : Nat → Int32} {W i j : Nat} (hj : (h j).toInt = -1) (hi : i = j + 1) (u : Nat) : ¬ zz_rn h W i u := fun z => by
  have := z.2.2.2.1
  rw [show i - 1 = j by omega] at this
  omega
theorem zz_bi_no {b : Prop} {n : Int} {h : Nat → Int32} {a best size p p' : Int} {i : Nat} (hB : zz_bi b n h a best size p) (hn : ∀ u, ¬ zz_rn h n.toNat i u) (hi : (i : Int) = p) (hp : p' = p + 1) : zz_bi b n h a best size p' := by
  rcases hB with ⟨b1, b2⟩ | ⟨b1, b2, b3, b4, b5, b6⟩
  · refine Or.inl ⟨b1, fun q u hr hq => ?_⟩
    by_cases c : q = i
    · subst c; exact absurd hr (hn u)
    · exact b2 q u hr (by omega)
  · refine Or.inr ⟨b1, by omega, b3, b4, b5, fun q u hr hq hu => ?_⟩
    by_cases c : q = i
    · subst c; exact absurd hr (hn u)
    · exact b6 q u hr (by omega) hu
theorem zz_bi_small {b : Prop} {n : Int} {h : Nat → Int32} {a best size p p' s : Int} {i : Nat} (hB : zz_bi b n h a best size p) (hr0 : zz_rn h n.toNat i s.toNat) (h0 : 0 ≤ s) (hs : s < a) (hi : (i : Int) = p) (hp : p' = p + 1) : zz_bi b n h a best size p' := by
  rcases hB with ⟨b1, b2⟩ | ⟨b1, b2, b3, b4, b5, b6⟩
  · refine Or.inl ⟨b1, fun q u hr hq => ?_⟩
    by_cases c : q = i
    · subst c; have := zz_rn_uq hr0 hr; omega
    · exact b2 q u hr (by omega)
  · refine Or.inr ⟨b1, by omega, b3, b4, b5, fun q u hr hq hu => ?_⟩
    by_cases c : q = i
    · subst c; have := zz_rn_uq hr0 hr; omega
    · exact b6 q u hr (by omega) hu
theorem zz_bi_keep {b : Prop} {n : Int} {h : Nat → Int32} {a best size p p' s : Int} {i : Nat} (hB : zz_bi b n h a best size p) (hr0 : zz_rn h n.toNat i s.toNat) (h0 : 0 ≤ s) (hb : 0 ≤ best) (hs : (b ∧ size ≤ s) ∨ (¬ b ∧ s ≤ size)) (hi : (i : Int) = p) (hp : p' = p + 1) : zz_bi b n h a best size p' := by
  rcases hB with ⟨b1, b2⟩ | ⟨b1, b2, b3, b4, b5, b6⟩
  · omega
  · refine Or.inr ⟨b1, by omega, b3, b4, b5, fun q u hr hq hu => ?_⟩
    by_cases c : q = i
    · subst c
      have e := zz_rn_uq hr0 hr
      refine ⟨?_, fun _ => by omega⟩
      rcases hs with ⟨x, y⟩ | ⟨x, y⟩
      · exact Or.inl ⟨x, by omega⟩
      · exact Or.inr ⟨x, by omega⟩
    · exact b6 q u hr (by omega) hu
theorem zz_bi_new {b : Prop} {n : Int} {h : Nat → Int32} {a best size p p' s : Int} {i : Nat} (hB : zz_bi b n h a best size p) (hr0 : zz_rn h n.toNat i s.toNat) (h0 : 0 ≤ s) (ha : a ≤ s) (hs : best < 0 ∨ (b ∧ s < size) ∨ (¬ b ∧ size < s)) (hi : (i : Int) = p) (hp : p' = p + 1) : zz_bi b n h a p s p' := by
  refine Or.inr ⟨by omega, by omega, h0, by rw [show p.toNat = i by omega]; exact hr0, ha, fun q u hr hq hu => ?_⟩
  by_cases c : q = i
  · subst c
    have e := zz_rn_uq hr0 hr
    refine ⟨?_, fun _ => by omega⟩
    by_cases hb : b
    · exact Or.inl ⟨hb, by omega⟩
    · exact Or.inr ⟨hb, by omega⟩
  · rcases hB with ⟨b1, b2⟩ | ⟨b1, b2, b3, b4, b5, b6⟩
    · have := b2 q u hr (by omega); omega
    · have d := b6 q u hr (by omega) hu
      rcases hs with hs | ⟨x, y⟩ | ⟨x, y⟩
      · omega
      · refine ⟨Or.inl ⟨x, ?_⟩, fun z => ?_⟩ <;> rcases d.1 with ⟨_, d1⟩ | ⟨d1, _⟩ <;> first | omega | exact absurd x d1
      · refine ⟨Or.inr ⟨x, ?_⟩, fun z => ?_⟩ <;> rcases d.1 with ⟨d1, _⟩ | ⟨_, d1⟩ <;> first | omega | exact absurd d1 x
theorem zz_bi_end {b : Prop} {n : Int} {h : Nat → Int32} {a best size p : Int} (hB : zz_bi b n h a best size p) (hp : n ≤ p) (hb : -1 ≤ best) (hn : 0 ≤ n) : zz_bf b n h a best := by
  have key : ∀ q u : Nat, zz_rn h n.toNat q u → (q : Int) < p := fun q u hr => by
    have h1 := hr.1
    have h2 := hr.2.1
    omega
  rcases hB with ⟨b1, b2⟩ | ⟨b1, b2, b3, b4, b5, b6⟩
  · exact Or.inl ⟨by omega, fun q u hr => b2 q u hr (key q u hr)⟩
  · refine Or.inr ⟨b1, size.toNat, b4, by omega, fun q u hr hu => ?_⟩
    have d := b6 q u hr (key q u hr) hu
    refine ⟨?_, fun z => d.2 (by omega)⟩
    rcases d.1 with ⟨x, y⟩ | ⟨x, y⟩
    · exact Or.inl ⟨x, by omega⟩
    · exact Or.inr ⟨x, by omega⟩
theorem zz_bf_cg {b c : Prop} {n : Int} {h : Nat → Int32} {a r : Int} (e : b ↔ c) (hb : zz_bf b n h a r) : zz_bf c n h a r := by
  rw [← propext e]; exact hb
theorem zz_rn_of {n : Int} {h : Nat → Int32} {p e s : Int} {i : Nat} (hs : zz_sq n h p e) (hi : (i : Int) = p) (he : e = p + s) (h1 : (h i).toInt = -1) (h2 : i = 0 ∨ (h (i - 1)).toInt ≠ -1) (hn : p < n) : zz_rn h n.toNat i s.toNat ∧ 1 ≤ s := by
  obtain ⟨a1, a2, a3, a4⟩ := hs
  have s1 : 1 ≤ s := by
    refine Int.not_lt.mp fun z => ?_
    rcases a3 with a3 | a3
    · omega
    · rw [show e.toNat = i by omega] at a3; exact a3 h1
  refine ⟨⟨by omega, by omega, fun x x1 x2 => a2 x (by omega) (by omega), h2, ?_⟩, s1⟩
  rcases a3 with a3 | a3
  · exact Or.inl (by omega)
  · exact Or.inr (by rw [show i + s.toNat = e.toNat by omega]; exact a3)
-- the same has
theorem zz_ft_cg {n : Int} {h g : Nat → Int32} {a p : Int} (e : ∀ k : Nat, (k : Int) < n → h k = g k) (hf : zz_ft n h a p) : zz_ft n g a p := ⟨hf.1, fun x h1 h2 => by rw [← e x (by have := hf.1; omega)]; exact hf.2 x h1 h2⟩
theorem zz_ff_cg {n : Int} {h g : Nat → Int32} {a fr ah r : Int} (e : ∀ k : Nat, (k : Int) < n → h k = g k) (hf : zz_ff n h a fr ah r) : zz_ff n g a fr ah r := by
  have e' : ∀ k : Nat, (k : Int) < n → g k = h k := fun k hk => (e k hk).symm
  rcases hf with ⟨a1, a2⟩ | ⟨a1, a2, a3, a4⟩
  · exact Or.inl ⟨a1, fun p h1 h2 z => a2 p h1 h2 (zz_ft_cg e' z)⟩
  · exact Or.inr ⟨a1, a2, zz_ft_cg e a3, fun p h1 h2 z => a4 p h1 h2 (zz_ft_cg e' z)⟩
theorem zz_rn_cg {h g : Nat → Int32} {W q u : Nat} (e : ∀ k, k < W → h k = g k) (hr : zz_rn h W q u) : zz_rn g W q u := by
  obtain ⟨a1, a2, a3, a4, a5⟩ := hr
  refine ⟨a1, a2, fun x h1 h2 => by rw [← e x (by omega)]; exact a3 x h1 h2, ?_, ?_⟩
  · rcases a4 with a4 | a4
    · exact Or.inl a4
    · exact Or.inr (by rw [← e (q - 1) (by omega)]; exact a4)
  · by_cases c : q + u = W
    · exact Or.inl c
    · exact Or.inr (by rw [← e (q + u) (by omega)]; exact a5.resolve_left c)
theorem zz_bf_cg2 {b : Prop} {n : Int} {h g : Nat → Int32} {a r : Int} (e : ∀ k : Nat, (k : Int) < n → h k = g k) (hb : zz_bf b n h a r) : zz_bf b n g a r := by
  have e1 : ∀ k : Nat, k < n.toNat → h k = g k := fun k hk => e k (by omega)
  have e2 : ∀ k : Nat, k < n.toNat → g k = h k := fun k hk => (e1 k hk).symm
  rcases hb with ⟨a1, a2⟩ | ⟨a1, s, a2, a3, a4⟩
  · exact Or.inl ⟨a1, fun q u hr => a2 q u (zz_rn_cg e2 hr)⟩
  · exact Or.inr ⟨a1, s, zz_rn_cg e1 a2, a3, fun q u hr hu => a4 q u (zz_rn_cg e2 hr) hu⟩
theorem zz_pl_cg {f n : Int} {h g : Nat → Int32} {e e' a r : Int} (eh : ∀ k : Nat, (k : Int) < n → h k = g k) (ee : e = e') (hp : zz_pl f n h e a r) : zz_pl f n g e' a r := by
  subst ee
  rcases hp with ⟨f1, h1⟩ | ⟨f1, h1⟩ | ⟨f1, h1⟩ | ⟨f1, h1⟩
  · exact Or.inl ⟨f1, zz_ff_cg eh h1⟩
  · refine Or.inr (Or.inl ⟨f1, ?_⟩)
    rcases h1 with ⟨p1, h1⟩ | ⟨p1, h1⟩
    · exact Or.inl ⟨p1, zz_ff_cg eh h1⟩
    · exact Or.inr ⟨zz_ff_cg eh p1, zz_ff_cg eh h1⟩
  · exact Or.inr (Or.inr (Or.inl ⟨f1, zz_bf_cg2 eh h1⟩))
  · exact Or.inr (Or.inr (Or.inr ⟨f1, zz_bf_cg2 eh h1⟩))
-- what the loops go on with
def zz_rq (f m l n : Int) (g : Nat → Int64) (len i ph r : Int) : Prop := zz_res f m l n (zz_rl g len) i.toNat ph.toNat r
theorem zz_rq_ph {f m l n : Int} {g : Nat → Int64} {len i ph ph' r : Int} (h : zz_rq f m l n g len i ph r) (e : ph = ph') : zz_rq f m l n g len i ph' r := by rw [← e]; exact h
theorem zz_rq_end {f m l n : Int} {g : Nat → Int64} {len i ph r : Int} (h : len ≤ i) (hr : r = 1) : zz_rq f m l n g len i ph r := zz_res_end (by rw [zz_rl_len]; omega) hr
theorem zz_rq_next {f m l n : Int} {g : Nat → Int64} {len i i' ph r : Int} (h : zz_rq f m l n g len i' 1 r) (hi : 0 ≤ i) (hl : i < len) (hi' : i' = i + 1) (hp : m + n < ph) : zz_rq f m l n g len i ph r := by
  refine zz_res_next (by rw [zz_rl_len]; omega) (by omega) ?_
  have h : zz_res f m l n (zz_rl g len) i'.toNat (1 : Int).toNat r := h
  rw [show i'.toNat = i.toNat + 1 by omega] at h
  exact h
/-- c comes, and then the loop goes on -/
def zz_eq (f m l n : Int) (g : Nat → Int64) (len i ph c r : Int) : Prop := zz_ev f m l n (zz_rl g len) i.toNat ph.toNat c r
theorem zz_eq_0 {f m l n : Int} {g g' : Nat → Int64} {len len' i ph c c' r r0 : Int} (h : zz_cm g len g' len' c r0) (hr0 : r0 = 0) (hc : c = c') (hr : r = -1) (h0 : 0 ≤ len) : zz_eq f m l n g len i ph c' r := by
  subst hc
  subst hr0
  rcases h with ⟨_, _, h⟩ | ⟨h1, h2, _⟩ | ⟨_, _, _, h⟩
  · omega
  · exact Or.inr (Or.inl ⟨h1, by rw [zz_rl_len]; omega, hr⟩)
  · omega
theorem zz_eq_1 {f m l n : Int} {g g' : Nat → Int64} {len len' i ph ph' c c' r r0 : Int} (h : zz_cm g len g' len' c r0) (hr0 : r0 = 1) (hq : zz_rq f m l n g' len' i ph' r) (hc : c = c') (hp : ph' = ph + 1) (h0 : 0 ≤ ph) (hl : 0 ≤ len) : zz_eq f m l n g len i ph c' r := by
  subst hc
  subst hr0
  have hq : zz_res f m l n (zz_rl g' len') i.toNat ph'.toNat r := hq
  rw [show ph'.toNat = ph.toNat + 1 by omega] at hq
  rcases h with ⟨h1, h2, _⟩ | ⟨_, _, h⟩ | ⟨h1, h2, h3, _⟩
  · rw [h2] at hq; exact Or.inl ⟨h1, hq⟩
  · omega
  · rw [h3] at hq; exact Or.inr (Or.inr ⟨h1, by rw [zz_rl_len]; omega, hq⟩)
def zz_fe (f m l n : Int) (g : Nat → Int64) (len i ph : Int) (h : Nat → Int32) (lo hi e : Int) (p : Int32) (r : Int) : Prop := ∀ h' : Nat → Int32, zz_wr h h' lo hi p → zz_eq f m l n g len i ph (zz_cd h' (if f = 1 then hi else e)) r
theorem zz_fe_end {f m l n : Int} {g : Nat → Int64} {len i ph c : Int} {h : Nat → Int32} {lo hi e : Int} {p : Int32} {r : Int} (hq : zz_eq f m l n g len i ph c r) (hl : hi ≤ lo) (hc : c = zz_cd h (if f = 1 then hi else e)) : zz_fe f m l n g len i ph h lo hi e p r := fun h' hw => by
  have : zz_cd h' (if f = 1 then hi else e) = c := by
    rw [hc]
    exact zz_cd_cg (fun k _ => by rw [hw k, if_neg (by omega)]) rfl
  rw [this]; exact hq
theorem zz_fe_step {f m l n : Int} {g : Nat → Int64} {len i ph : Int} {h : Nat → Int32} {lo lo' hi e : Int} {p : Int32} {r : Int} {j : Nat} (hq : zz_fe f m l n g len i ph (upd h j p) lo' hi e p r) (hl : lo < hi) (hl' : lo' = lo + 1) (hj : (j : Int) = lo) : zz_fe f m l n g len i ph h lo hi e p r := fun h' hw => hq h' (fun x => by
  have := hw x
  rw [zz_updE]
  by_cases c : lo' ≤ (x : Int) ∧ (x : Int) < hi
  · rw [if_pos c]; rw [if_pos (by omega)] at this; exact this
  · rw [if_neg c]
    by_cases d : x = j
    · rw [if_pos d]; rw [if_pos (by omega)] at this; exact this
    · rw [if_neg d]; rw [if_neg (by omega)] at this; exact this)
def zz_ge (f m l n : Int) (g : Nat → Int64) (len i ph : Int) (h : Nat → Int32) (lo q e r : Int) : Prop := ∀ h' : Nat → Int32, (∀ k : Nat, h' k = if lo ≤ (k : Int) ∧ (k : Int) < n ∧ (h k).toInt = q then -1 else h k) → zz_eq f m l n g len i ph (zz_cd h' e) r
theorem zz_ge_end {f m l n : Int} {g : Nat → Int64} {len i ph c : Int} {h : Nat → Int32} {lo q e r : Int} (hq : zz_eq f m l n g len i ph c r) (hl : n ≤ lo) (hc : c = zz_cd h e) : zz_ge f m l n g len i ph h lo q e r := fun h' hw => by
  have : zz_cd h' e = c := by
    rw [hc]
    exact zz_cd_cg (fun k _ => by rw [hw k, if_neg (by omega)]) rfl
  rw [this]; exact hq
theorem zz_ge_y {f m l n : Int} {g : Nat → Int64} {len i ph : Int} {h : Nat → Int32} {lo lo' q e r : Int} {j : Nat} {v : Int32} (hq : zz_ge f m l n g len i ph (upd h j v) lo' q e r) (hv : v = -1) (hl : lo < n) (hl' : lo' = lo + 1) (hj : (j : Int) = lo) (hh : (h j).toInt = q) : zz_ge f m l n g len i ph h lo q e r := fun h' hw => hq h' (fun x => by
  have := hw x
  rw [zz_updE]
  by_cases d : x = j
  · subst d
    rw [if_pos rfl, if_neg (by omega)]
    rw [if_pos ⟨by omega, by omega, hh⟩] at this
    rw [this, hv]
  · rw [if_neg d]
    by_cases c : lo' ≤ (x : Int) ∧ (x : Int) < n ∧ (h x).toInt = q
    · rw [if_pos c]; rw [if_pos ⟨by omega, c.2.1, c.2.2⟩] at this; exact this
    · rw [if_neg c]; rw [if_neg (fun z => c ⟨by omega, z.2.1, z.2.2⟩)] at this; exact this)
theorem zz_ge_n {f m l n : Int} {g : Nat → Int64} {len i ph : Int} {h : Nat → Int32} {lo lo' q e r : Int} {j : Nat} (hq : zz_ge f m l n g len i ph h lo' q e r) (hl' : lo' = lo + 1) (hj : (j : Int) = lo) (hh : (h j).toInt ≠ q) : zz_ge f m l n g len i ph h lo q e r := fun h' hw => hq h' (fun x => by
  have := hw x
  by_cases c : lo' ≤ (x : Int) ∧ (x : Int) < n ∧ (h x).toInt = q
  · rw [if_pos c]; rw [if_pos ⟨by omega, c.2.1, c.2.2⟩] at this; exact this
  · rw [if_neg c]
    rw [if_neg (fun z => c ⟨by
      by_cases e : x = j
      · subst e; exact absurd z.2.2 hh
      · omega, z.2.1, z.2.2⟩)] at this
    exact this)
-- from one room on
def zz_ta (g : Nat → Int64) (i : Int) (h : Nat → Int32) (e : Int) : Prop := zz_tk h (g i.toNat).toInt 14 ∧ e = (g i.toNat).toInt % 16
theorem zz_rq_skip {f m l n : Int} {g : Nat → Int64} {len i ph ph' r : Int} {s : Int32} (hq : zz_rq f m l n g len i ph' r) (ha : zz_ak s (g i.toNat).toInt 14) (hi : 0 ≤ i) (hl : i < len) (hp : ph' = ph + 1) (h0 : 0 ≤ ph) (hm : ph ≤ m) (hn : 0 ≤ n) (hs : l < s.toInt + ph) : zz_rq f m l n g len i ph r := by
  have hq : zz_res f m l n (zz_rl g len) i.toNat ph'.toNat r := hq
  rw [show ph'.toNat = ph.toNat + 1 by omega] at hq
  refine zz_res_skip (zz_rl_at (by omega)) (by omega) ?_ hq
  unfold zz_evt
  rw [if_pos (by omega)]
  have ha : s.toInt = zz_as (zz_hv (g i.toNat).toInt) 14 := ha
  exact Or.inl ⟨by omega, rfl⟩
theorem zz_rq_fail {f m l n : Int} {g : Nat → Int64} {len i ph r e p : Int} {h : Nat → Int32} {s : Int32} (ha : zz_ak s (g i.toNat).toInt 14) (ht : zz_ta g i h e) (hpl : zz_pl f n h e ph p) (hi : 0 ≤ i) (hl : i < len) (h0 : 0 ≤ ph) (hm : ph ≤ m) (hn : 0 ≤ n) (hn2 : n ≤ 14) (hs : s.toInt + ph ≤ l) (hp : p < 0) (hr : r = 0) : zz_rq f m l n g len i ph r := by
  refine zz_res_fail (zz_rl_at (by omega)) (by omega) ?_ hr
  unfold zz_evt
  rw [if_pos (by omega)]
  have ha : s.toInt = zz_as (zz_hv (g i.toNat).toInt) 14 := ha
  refine Or.inr ⟨by omega, p, ?_, Or.inl ⟨hp, rfl⟩⟩
  rw [show ((ph.toNat : Nat) : Int) = ph by omega]
  exact zz_pl_cg (fun k hk => ht.1 k (by omega)) ht.2 hpl
theorem zz_rq_ask {f m l n : Int} {g : Nat → Int64} {len i ph r e p hi' : Int} {h : Nat → Int32} {s pI : Int32} (hq : zz_fe f m l n g len i ph h p hi' e pI r) (ha : zz_ak s (g i.toNat).toInt 14) (ht : zz_ta g i h e) (hpl : zz_pl f n h e ph p) (hi : 0 ≤ i) (hl : i < len) (h0 : 0 ≤ ph) (hm : ph ≤ m) (hn : 0 ≤ n) (hn2 : n ≤ 14) (hs : s.toInt + ph ≤ l) (hp : 0 ≤ p) (hpI : pI.toInt = p) (hhi : hi' = p + ph) : zz_rq f m l n g len i ph r := by
  subst hhi
  have ha : s.toInt = zz_as (zz_hv (g i.toNat).toInt) 14 := ha
  have hq := hq (fun k => if p ≤ (k : Int) ∧ (k : Int) < p + ph then pI else h k) (fun x => rfl)
  refine zz_res_come (zz_rl_at (by omega)) (by omega) (c := zz_cd (zz_fill (zz_hv (g i.toNat).toInt) p ph) (if f = 1 then p + ph else (g i.toNat).toInt % 16)) ?_ ?_
  · unfold zz_evt
    rw [if_pos (by omega)]
    refine Or.inr ⟨by omega, p, ?_, Or.inr ⟨hp, ?_⟩⟩
    · rw [show ((ph.toNat : Nat) : Int) = ph by omega]
      exact zz_pl_cg (fun k hk => ht.1 k (by omega)) ht.2 hpl
    · rw [show ((ph.toNat : Nat) : Int) = ph by omega]
  · have e1 : zz_cd (fun k => if p ≤ (k : Int) ∧ (k : Int) < p + ph then pI else h k) (if f = 1 then p + ph else e) = zz_cd (zz_fill (zz_hv (g i.toNat).toInt) p ph) (if f = 1 then p + ph else (g i.toNat).toInt % 16) := by
      refine zz_cd_cg (fun k hk => ?_) (by rw [ht.2])
      show (if p ≤ (k : Int) ∧ (k : Int) < p + ph then pI else h k) = (if p ≤ (k : Int) ∧ (k : Int) < p + ph then Int32.ofInt p else zz_hv (g i.toNat).toInt k)
      have e2 : pI = Int32.ofInt p := Int32.toInt_inj.mp (by have g9 := zz_rg pI; rw [zz_ofI _ (by omega) (by omega)]; exact hpI)
      rw [e2, ht.1 k (by omega)]
    rw [← e1]
    exact hq
theorem zz_rq_skip2 {f m l n : Int} {g : Nat → Int64} {len i ph ph' r e q : Int} {h : Nat → Int32} {j : Nat} (hq : zz_rq f m l n g len i ph' r) (ht : zz_ta g i h e) (hh : (h j).toInt ≠ q) (hj : (j : Int) = q) (hi : 0 ≤ i) (hl : i < len) (hp : ph' = ph + 1) (hpq : ph = m + 1 + q) (h0 : 0 ≤ m) (hqn : q < n) (hn : n ≤ 14) : zz_rq f m l n g len i ph r := by
  have hq : zz_res f m l n (zz_rl g len) i.toNat ph'.toNat r := hq
  rw [show ph'.toNat = ph.toNat + 1 by omega] at hq
  refine zz_res_skip (zz_rl_at (by omega)) (by omega) ?_ hq
  unfold zz_evt
  rw [if_neg (by omega)]
  rw [show (((ph.toNat : Nat) : Int) - m - 1) = q by omega, show q.toNat = j by omega, ← ht.1 j (by omega)]
  exact Or.inl ⟨hh, rfl⟩
theorem zz_rq_back {f m l n : Int} {g : Nat → Int64} {len i ph r e q : Int} {h : Nat → Int32} {j : Nat} (hq : zz_ge f m l n g len i ph h q q e r) (ht : zz_ta g i h e) (hh : (h j).toInt = q) (hj : (j : Int) = q) (hi : 0 ≤ i) (hl : i < len) (hpq : ph = m + 1 + q) (h0 : 0 ≤ m) (hqn : q < n) (hn : n ≤ 14) : zz_rq f m l n g len i ph r := by
  have hq := hq (fun k => if q ≤ (k : Int) ∧ (k : Int) < n ∧ (h k).toInt = q then -1 else h k) (fun x => rfl)
  refine zz_res_come (zz_rl_at (by omega)) (by omega) (c := zz_cd (zz_fre n (zz_hv (g i.toNat).toInt) q) ((g i.toNat).toInt % 16)) ?_ ?_
  · unfold zz_evt
    rw [if_neg (by omega)]
    rw [show (((ph.toNat : Nat) : Int) - m - 1) = q by omega, show q.toNat = j by omega, ← ht.1 j (by omega)]
    exact Or.inr ⟨hh, rfl⟩
  · have e1 : zz_cd (fun k => if q ≤ (k : Int) ∧ (k : Int) < n ∧ (h k).toInt = q then -1 else h k) e = zz_cd (zz_fre n (zz_hv (g i.toNat).toInt) q) ((g i.toNat).toInt % 16) := by
      refine zz_cd_cg (fun k hk => ?_) ht.2
      show _ = (if q ≤ (k : Int) ∧ (k : Int) < n ∧ (zz_hv (g i.toNat).toInt k).toInt = q then (-1 : Int32) else zz_hv (g i.toNat).toInt k)
      rw [← ht.1 k (by omega)]
    rw [← e1]
    exact hq
theorem zz_cd_em {h : Nat → Int32} {x e : Int} (ho : zz_op h x) (hx : 14 ≤ x) (he : e = 0) : zz_cd h e = zz_cd (fun _ => -1) 0 := zz_cd_cg (fun k hk => Int32.toInt_inj.mp (by rw [ho k (by omega)]; rfl)) he
theorem zz_first {f m l n : Int} {g g' : Nat → Int64} {len len' c c' r0 i r : Int} (hcm : zz_cm g len g' len' c r0) (hq : zz_rq f m l n g' len' i 1 r) (hlen : len = 0) (hi : i = 0) (hc : c = c') : zz_res f m l n [c'] 0 1 r := by
  subst hc
  subst hi
  subst hlen
  have e : zz_rl g 0 = [] := rfl
  rcases hcm with ⟨h1, _, _⟩ | ⟨_, h2, _⟩ | ⟨_, _, h3, _⟩
  · rw [e] at h1; exact absurd h1 (by simp)
  · omega
  · rw [e] at h3
    have hq : zz_res f m l n (zz_rl g' len') (0 : Int).toNat (1 : Int).toNat r := hq
    rw [h3] at hq
    exact hq
theorem zz_wor_end {f m l : Int} {d : Nat} {n r : Int} (hd : d = 0) (hr : r = -1) : zz_wor f m l d n r := by
  subst hd
  exact hr
theorem zz_wor_1 {f m l : Int} {d : Nat} {n r v : Int} (h : zz_res f m l n [zz_cd (fun _ => -1) 0] 0 1 v) (hd : 1 ≤ d) (hv : v = 1) (hr : r = n) : zz_wor f m l d n r := by
  obtain ⟨d, rfl⟩ : ∃ k, d = k + 1 := ⟨d - 1, by omega⟩
  exact ⟨v, h, Or.inl ⟨hv, hr⟩⟩
theorem zz_wor_m {f m l : Int} {d : Nat} {n r v : Int} (h : zz_res f m l n [zz_cd (fun _ => -1) 0] 0 1 v) (hd : 1 ≤ d) (hv : v = -1) (hr : r = -2) : zz_wor f m l d n r := by
  obtain ⟨d, rfl⟩ : ∃ k, d = k + 1 := ⟨d - 1, by omega⟩
  exact ⟨v, h, Or.inr (Or.inl ⟨hv, hr⟩)⟩
theorem zz_wor_0 {f m l : Int} {d d' : Nat} {n n' r v : Int} (h : zz_res f m l n [zz_cd (fun _ => -1) 0] 0 1 v) (h1 : zz_wor f m l d' n' r) (hd : d = d' + 1) (hv : v = 0) (hn : n' = n + 1) : zz_wor f m l d n r := by
  subst hd
  subst hn
  exact ⟨v, h, Or.inr (Or.inr ⟨hv, h1⟩)⟩
def zz_wq (t f m l r : Int) : Prop := t = 0 → zz_wor f m l (15 - l).toNat l r
theorem zz_pl_bf {f n : Int} {h : Nat → Int32} {e a r : Int} (hf : f = 2 ∨ f = 3) (hb : zz_bf (f = 2) n h a r) : zz_pl f n h e a r := by
  rcases hf with c | c
  · exact Or.inr (Or.inr (Or.inl ⟨c, zz_bf_cg ⟨fun _ => trivial, fun _ => c⟩ hb⟩))
  · exact Or.inr (Or.inr (Or.inr ⟨c, zz_bf_cg ⟨fun z => by omega, fun z => z.elim⟩ hb⟩))
/-! worst: what the class's finds answer, whatever runs are listed -/
def zz_q0 (pl wd : Nat → Int32) (sz a r : Int) : Prop := ∀ (n : Int) (h : Nat → Int32), 0 ≤ n → zz_ru n h pl wd sz → zz_ff n h a 0 n r
theorem zz_ru_lt {n : Int} {h pl wd : Nat → Int32} {sz : Int} (hu : zz_ru n h pl wd sz) {k : Nat} (hk : (k : Int) < sz) (hn : 0 ≤ n) : (pl k).toInt < n ∧ (pl k).toInt + (wd k).toInt ≤ n ∧ 0 ≤ (pl k).toInt ∧ 1 ≤ (wd k).toInt := by
  obtain ⟨b1, b2, b3⟩ := hu.1 k hk
  have e1 := b3.2.1
  have e2 := b3.1
  omega
theorem zz_q0_no {pl wd : Nat → Int32} {sz a r i : Int} (hf : zz_nf a wd i) (hi : sz ≤ i) (ha : 1 ≤ a) (hr : r = -1) : zz_q0 pl wd sz a r := fun n h hn hu => zz_ff_none hu hf (fun j j1 j2 => by omega) ha hr
theorem zz_q0_yes {pl wd : Nat → Int32} {sz a r i : Int} {k : Nat} (hf : zz_nf a wd i) (hk : (k : Int) = i) (hi : i < sz) (hw : a ≤ (wd k).toInt) (ha : 1 ≤ a) (hr : r = (pl k).toInt) : zz_q0 pl wd sz a r := fun n h hn hu => zz_ff_some hu hf hk hi hw ha hn (zz_ru_lt hu (by omega) hn).1 hr
def zz_q2 (pl wd : Nat → Int32) (sz a e r : Int) : Prop := ∀ (n : Int) (h : Nat → Int32), 0 ≤ n → zz_ru n h pl wd sz → zz_ff n h a 0 e r
theorem zz_q2_no {pl wd : Nat → Int32} {sz a e r i : Int} (hf : zz_nf a wd i) (hi : sz ≤ i) (ha : 1 ≤ a) (hr : r = -1) : zz_q2 pl wd sz a e r := fun n h hn hu => zz_ff_none hu hf (fun j j1 j2 => by omega) ha hr
theorem zz_q2_no2 {pl wd : Nat → Int32} {sz a e r i : Int} {k : Nat} (hf : zz_nf a wd i) (hk : (k : Int) = i) (hi : i < sz) (he : e ≤ (pl k).toInt) (ha : 1 ≤ a) (hr : r = -1) : zz_q2 pl wd sz a e r := fun n h hn hu => zz_ff_none hu hf (fun j j1 j2 => by
  by_cases c : j = k
  · rw [c]; exact he
  · have := hu.2.2 k j (by omega) j1
    have := zz_ru_lt hu (k := k) (by omega) hn
    omega) ha hr
theorem zz_q2_yes {pl wd : Nat → Int32} {sz a e r i : Int} {k : Nat} (hf : zz_nf a wd i) (hk : (k : Int) = i) (hi : i < sz) (he : (pl k).toInt < e) (hw : a ≤ (wd k).toInt) (ha : 1 ≤ a) (hr : r = (pl k).toInt) : zz_q2 pl wd sz a e r := fun n h hn hu => zz_ff_some hu hf hk hi hw ha hn he hr
def zz_q1 (pl wd : Nat → Int32) (sz a e r : Int) : Prop := ∀ (n : Int) (h : Nat → Int32), 0 ≤ n → zz_ru n h pl wd sz → ((0 ≤ r ∧ zz_ff n h a e n r) ∨ (zz_ff n h a e n (-1) ∧ zz_ff n h a 0 e r))
theorem zz_q1_no {pl wd : Nat → Int32} {sz a e r i : Int} (hf : zz_nx a e pl wd i) (h2 : zz_q2 pl wd sz a e r) (hi : sz ≤ i) (ha : 1 ≤ a) (he : 0 ≤ e) : zz_q1 pl wd sz a e r := fun n h hn hu => Or.inr ⟨zz_nx_none hu hf hi ha he rfl, h2 n h hn hu⟩
theorem zz_q1_yes {pl wd : Nat → Int32} {sz a e r i : Int} {k : Nat} (hf : zz_nx a e pl wd i) (hk : (k : Int) = i) (hi : i < sz) (hr1 : (pl k).toInt ≤ r) (hr2 : e ≤ r) (hr3 : r = (pl k).toInt ∨ r = e) (hw : r + a ≤ (pl k).toInt + (wd k).toInt) (ha : 1 ≤ a) (he : 0 ≤ e) : zz_q1 pl wd sz a e r := fun n h hn hu => Or.inl ⟨by omega, zz_nx_some hu hf hk hi hr1 hr2 hr3 hw ha hn he (Int.le_refl _)⟩
def zz_q3 (b : Prop) (pl wd : Nat → Int32) (sz a r : Int) : Prop := ∀ (n : Int) (h : Nat → Int32), 0 ≤ n → zz_ru n h pl wd sz → zz_bf b n h a r
def zz_po (pl : Nat → Int32) (best r : Int) : Prop := (best < 0 ∧ r = -1) ∨ (0 ≤ best ∧ r = (pl best.toNat).toInt)
theorem zz_q3_end {b : Prop} {pl wd : Nat → Int32} {sz a best i r : Int} (hb : zz_bk9 b a wd best i) (hp : zz_po pl best r) (hi : sz ≤ i) (hi2 : i ≤ sz) (hb2 : -1 ≤ best) : zz_q3 b pl wd sz a r := fun n h hn hu => zz_bk9_end hu hb hi hi2 (by
  rcases hp with ⟨c, d⟩ | ⟨c, d⟩
  · exact Or.inl ⟨by omega, d⟩
  · exact Or.inr ⟨c, d⟩)
def zz_q (f : Int) (pl wd : Nat → Int32) (sz e a r : Int) : Prop := ∀ (n : Int) (h : Nat → Int32), 0 ≤ n → zz_ru n h pl wd sz → zz_pl f n h e a r
theorem zz_q_0 {f : Int} {pl wd : Nat → Int32} {sz e a r : Int} (h : zz_q0 pl wd sz a r) (hf : f = 0) : zz_q f pl wd sz e a r := fun n g hn hu => Or.inl ⟨hf, h n g hn hu⟩
theorem zz_q_1 {f : Int} {pl wd : Nat → Int32} {sz e a r : Int} (h : zz_q1 pl wd sz a e r) (hf : f = 1) : zz_q f pl wd sz e a r := fun n g hn hu => Or.inr (Or.inl ⟨hf, h n g hn hu⟩)
theorem zz_q_2 {f : Int} {pl wd : Nat → Int32} {sz e a r : Int} (h : zz_q3 True pl wd sz a r) (hf : f = 2) : zz_q f pl wd sz e a r := fun n g hn hu => Or.inr (Or.inr (Or.inl ⟨hf, h n g hn hu⟩))
theorem zz_q_3 {f : Int} {pl wd : Nat → Int32} {sz e a r : Int} (h : zz_q3 False pl wd sz a r) (hf : f = 3) : zz_q f pl wd sz e a r := fun n g hn hu => Or.inr (Or.inr (Or.inr ⟨hf, h n g hn hu⟩))
theorem zz_bk9_best {b : Prop} {a : Int} {wd : Nat → Int32} {i i' : Int} {x y : Int32} {k : Nat} (h : zz_bk9 b a wd x.toInt i) (hk : (k : Int) = i) (hi : i' = i + 1) (ha : a ≤ (wd k).toInt) (hw : x.toInt = -1 ∨ (b ∧ (wd k).toInt < (wd x.toNatClampNeg).toInt) ∨ (¬ b ∧ (wd x.toNatClampNeg).toInt < (wd k).toInt)) (hy : y.toInt = i) : zz_bk9 b a wd y.toInt i' := by
  rw [hy]
  exact zz_bk9_new h hk hi ha hw
theorem zz_bk9_stay {b : Prop} {a : Int} {wd : Nat → Int32} {i i' : Int} {x : Int32} {k : Nat} (h : zz_bk9 b a wd x.toInt i) (hk : (k : Int) = i) (hi : i' = i + 1) (hw : (wd k).toInt < a ∨ (0 ≤ x.toInt ∧ (b ∧ (wd x.toNatClampNeg).toInt ≤ (wd k).toInt ∨ ¬ b ∧ (wd k).toInt ≤ (wd x.toNatClampNeg).toInt))) : zz_bk9 b a wd x.toInt i' := zz_bk9_keep h hk hi hw

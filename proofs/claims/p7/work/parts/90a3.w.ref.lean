/-! worst: what the reference's methods do, as facts -/
theorem zz_mdE {x c : Int64} (n : Nat) (hx : zz_n64 x) (hc : c.toInt = n) (h0 : 0 < n) (h1 : n ≤ 65536) : ((x - x / c * c).toInt32).toInt = x.toInt % n := by
  have hx : 0 ≤ x.toInt := hx
  have g := zz_rg64 x
  have d := zz_div64 hx hc h0
  have e1 : 0 ≤ x.toInt / (n : Int) * n := Int.mul_nonneg (Int.ediv_nonneg hx (by omega)) (by omega)
  have e2 : x.toInt / (n : Int) * n ≤ x.toInt := Int.ediv_mul_le _ (by omega)
  have m : (x / c * c).toInt = x.toInt / n * n := by
    rw [Int64.toInt_mul, d, hc]
    exact zz_b64 _ (by omega) (by omega)
  have e3 : x.toInt - x.toInt / n * n = x.toInt % n := by rw [Int.emod_def, Int.mul_comm]
  have e4 : 0 ≤ x.toInt % (n : Int) := Int.emod_nonneg _ (by omega)
  have e5 : x.toInt % (n : Int) < n := Int.emod_lt_of_pos _ (by omega)
  have s : (x - x / c * c).toInt = x.toInt % n := by
    rw [Int64.toInt_sub, m, e3]
    exact zz_b64 _ (by omega) (by omega)
  rw [Int64.toInt_toInt32, s]
  exact Int.bmod_eq_of_le (by omega) (by omega)
theorem zz_mdE16 (x : Int64) (h : zz_n64 x) : ((x - x / ((16 : Int64)) * ((16 : Int64))).toInt32).toInt = x.toInt % 16 := zz_mdE 16 h rfl (by decide) (by decide)
theorem zz_mdE65536 (x : Int64) (h : zz_n64 x) : ((x - x / ((65536 : Int64)) * ((65536 : Int64))).toInt32).toInt = x.toInt % 65536 := zz_mdE 65536 h rfl (by decide) (by decide)
-- roomNumber
def zz_vl (r : Int64) (h : Nat → Int32) (e : Int) : Prop := r.toInt = zz_cd h e
def zz_hx (x : Int64) (h : Nat → Int32) (k : Int) : Prop := x.toInt = zz_hd h (13 - k).toNat
theorem zz_hx_ini (h : Nat → Int32) : zz_hx ((0 : Int64)) h 13 := rfl
theorem zz_hx_step {x : Int64} {h : Nat → Int32} {k k' : Int} {i : Nat} (hh : zz_has h) (hx : zz_hx x h k) (h0 : 0 ≤ k) (h1 : k ≤ 13) (hi : (i : Int) = k) (hk : k' = k - 1) : zz_hx (((((15 : Int64)) * x) + ((h i).toInt64)) + ((1 : Int64))) h k' := by
  have hx : x.toInt = zz_hd h (13 - k).toNat := hx
  obtain ⟨e, he⟩ : ∃ e, e = (13 - k).toNat := ⟨_, rfl⟩
  rw [← he] at hx
  have b := zz_hd_rg hh e (by omega)
  have p1 := zz_pw e (by omega)
  have a := hh i (by omega)
  have s1 : ((15 : Int64) * x).toInt = 15 * x.toInt := by
    rw [Int64.toInt_mul, show (15 : Int64).toInt = 15 from rfl]
    exact zz_b64 _ (by omega) (by omega)
  have s2 : ((15 : Int64) * x + (h i).toInt64).toInt = 15 * x.toInt + (h i).toInt := by
    rw [Int64.toInt_add, s1, Int32.toInt_toInt64]
    exact zz_b64 _ (by omega) (by omega)
  have s3 : ((15 : Int64) * x + (h i).toInt64 + (1 : Int64)).toInt = 15 * x.toInt + (h i).toInt + 1 := by
    rw [Int64.toInt_add, s2, show (1 : Int64).toInt = 1 from rfl]
    exact zz_b64 _ (by omega) (by omega)
  show ((15 : Int64) * x + (h i).toInt64 + (1 : Int64)).toInt = zz_hd h (13 - k').toNat
  rw [s3, show (13 - k').toNat = e + 1 by omega, hx, show i = 13 - e by omega]
  show _ = 15 * zz_hd h e + ((h (13 - e)).toInt + 1)
  omega
theorem zz_hx_end {x : Int64} {h : Nat → Int32} {k : Int} {e : Int32} (hh : zz_has h) (hx : zz_hx x h k) (h0 : k = -1) (a1 : 0 ≤ e.toInt) (a2 : e.toInt ≤ 15) : zz_vl ((((16 : Int64)) * x) + e.toInt64) h e.toInt := by
  subst h0
  have hx : x.toInt = zz_hd h 14 := hx
  have b := zz_hd_rg hh 14 (Nat.le_refl _)
  have p1 := zz_pw 14 (by omega)
  have s1 : ((16 : Int64) * x).toInt = 16 * x.toInt := by
    rw [Int64.toInt_mul, show (16 : Int64).toInt = 16 from rfl]
    exact zz_b64 _ (by omega) (by omega)
  show ((16 : Int64) * x + e.toInt64).toInt = 16 * zz_hd h 14 + e.toInt
  rw [Int64.toInt_add, s1, Int32.toInt_toInt64, hx]
  exact zz_b64 _ (by omega) (by omega)
theorem zz_vl_n {r : Int64} {h : Nat → Int32} {e : Int} (hh : zz_has h) (hv : zz_vl r h e) (he : 0 ≤ e) : zz_n64 r := by
  have b := zz_hd_rg hh 14 (Nat.le_refl _)
  have hv : r.toInt = 16 * zz_hd h 14 + e := hv
  show 0 ≤ r.toInt
  omega
-- take
def zz_tk (h : Nat → Int32) (v : Int) (k : Int) : Prop := ∀ j : Nat, (j : Int) < k → h j = zz_hv v j
def zz_tw (x : Int64) (v : Int) (k : Int) : Prop := x.toInt = v / 16 / 15 ^ k.toNat
def zz_ak (s : Int32) (v : Int) (k : Int) : Prop := s.toInt = zz_as (zz_hv v) k.toNat
theorem zz_tw_ini {p : Int64} {v k : Int} (hp : zz_n64 p) (hv : v = p.toInt) (hk : k = 0) : zz_tw (p / ((16 : Int64))) v k := by
  subst hk
  show (p / (16 : Int64)).toInt = v / 16 / 1
  rw [zz_div64 (n := 16) hp rfl (by decide), hv]
  omega
theorem zz_tw_step {x : Int64} {v k k' : Int} (h : zz_tw x v k) (hx : zz_n64 x) (h0 : 0 ≤ k) (hk : k' = k + 1) : zz_tw (x / ((15 : Int64))) v k' := by
  have h : x.toInt = v / 16 / 15 ^ k.toNat := h
  show (x / (15 : Int64)).toInt = v / 16 / 15 ^ k'.toNat
  rw [zz_div64 (n := 15) hx rfl (by decide), h, show k'.toNat = k.toNat + 1 by omega, Int.pow_succ, Int.ediv_ediv_of_nonneg (Int.le_of_lt (Int.pow_pos (by decide)))]
  rfl
theorem zz_tk_ini {h : Nat → Int32} {v k : Int} (hk : k ≤ 0) : zz_tk h v k := fun j hj => by omega
theorem zz_tk_dig {x : Int64} {v k : Int} {u : Int32} {i : Nat} (h : zz_tw x v k) (hx : zz_n64 x) (hi : (i : Int) = k) (hu : u = ((x - x / ((15 : Int64)) * ((15 : Int64))).toInt32) - ((1 : Int32))) : u = zz_hv v i := by
  have h : x.toInt = v / 16 / 15 ^ k.toNat := h
  have e := zz_mdE (x := x) (c := 15) 15 hx rfl (by decide) (by decide)
  have b := zz_hv_rg v i
  have m1 : ((x - x / ((15 : Int64)) * ((15 : Int64))).toInt32).toInt = x.toInt % 15 := e
  have m2 : ((((x - x / ((15 : Int64)) * ((15 : Int64))).toInt32) - ((1 : Int32)))).toInt = x.toInt % 15 - 1 := by
    rw [zz_m1 _ (by omega), m1]
  apply Int32.toInt_inj.mp
  rw [hu, m2, h, show k.toNat = i by omega]
  unfold zz_hv
  rw [zz_ofI _ (by omega) (by omega)]
theorem zz_tk_step {h : Nat → Int32} {x : Int64} {v k k' : Int} {u : Int32} {i : Nat} (ht : zz_tk h v k) (h1 : zz_tw x v k) (hx : zz_n64 x) (hi : (i : Int) = k) (hk : k' = k + 1) (hu : u = ((x - x / ((15 : Int64)) * ((15 : Int64))).toInt32) - ((1 : Int32))) : zz_tk (upd h i u) v k' := fun j hj => by
  rw [zz_updE]
  by_cases c : j = i
  · rw [if_pos c, c]; exact zz_tk_dig h1 hx hi hu
  · rw [if_neg c]; exact ht j (by omega)
theorem zz_ak_ini {s : Int32} {v k : Int} (hs : s.toInt = 0) (hk : k = 0) : zz_ak s v k := by
  subst hk
  exact hs
theorem zz_ak_n {s : Int32} {h : Nat → Int32} {x : Int64} {v k k' : Int} {u : Int32} {i : Nat} (ha : zz_ak s v k) (h1 : zz_tw x v k) (hx : zz_n64 x) (hi : (i : Int) = k) (hk : k' = k + 1) (hu : u = ((x - x / ((15 : Int64)) * ((15 : Int64))).toInt32) - ((1 : Int32))) (hn : (upd h i u i).toInt < 0) : zz_ak s v k' := by
  have e := zz_tk_dig h1 hx hi hu
  rw [zz_updE, if_pos rfl, e] at hn
  have ha : s.toInt = zz_as (zz_hv v) k.toNat := ha
  show s.toInt = zz_as (zz_hv v) k'.toNat
  rw [show k'.toNat = i + 1 by omega]
  show s.toInt = zz_as (zz_hv v) i + _
  rw [if_pos hn, ha, show k.toNat = i by omega]
  omega
theorem zz_ak_y {s s' : Int32} {h : Nat → Int32} {x : Int64} {v k k' : Int} {u : Int32} {i : Nat} (ha : zz_ak s v k) (h1 : zz_tw x v k) (hx : zz_n64 x) (hi : (i : Int) = k) (hk : k' = k + 1) (hu : u = ((x - x / ((15 : Int64)) * ((15 : Int64))).toInt32) - ((1 : Int32))) (hn : 0 ≤ (upd h i u i).toInt) (hs : s'.toInt = s.toInt + 1) : zz_ak s' v k' := by
  have e := zz_tk_dig h1 hx hi hu
  rw [zz_updE, if_pos rfl, e] at hn
  have ha : s.toInt = zz_as (zz_hv v) k.toNat := ha
  show s'.toInt = zz_as (zz_hv v) k'.toNat
  rw [show k'.toNat = i + 1 by omega]
  show s'.toInt = zz_as (zz_hv v) i + _
  rw [if_neg (by omega), hs, ha, show k.toNat = i by omega]
-- rooms as a list
def zz_rl (g : Nat → Int64) (n : Int) : List Int := (List.range n.toNat).map (fun i => (g i).toInt)
theorem zz_rl_len (g : Nat → Int64) (n : Int) : (zz_rl g n).length = n.toNat := by simp [zz_rl]
theorem zz_rl_at {g : Nat → Int64} {n : Int} {i : Nat} (h : (i : Int) < n) : (zz_rl g n)[i]? = some (g i).toInt := by
  unfold zz_rl
  rw [List.getElem?_map, List.getElem?_range (by omega)]
  rfl
theorem zz_rl_mem {g : Nat → Int64} {n c : Int} : c ∈ zz_rl g n ↔ ∃ i : Nat, (i : Int) < n ∧ (g i).toInt = c := by
  unfold zz_rl
  rw [List.mem_map]
  constructor
  · rintro ⟨i, h, e⟩
    exact ⟨i, by have := List.mem_range.mp h; omega, e⟩
  · rintro ⟨i, h, e⟩
    exact ⟨i, List.mem_range.mpr (by omega), e⟩
theorem zz_rl_app {g : Nat → Int64} {n n' : Int} {i : Nat} {x : Int64} (hi : (i : Int) = n) (hn : n' = n + 1) : zz_rl (vp_updL g i x) n' = zz_rl g n ++ [x.toInt] := by
  unfold zz_rl
  rw [show n'.toNat = i + 1 by omega, show n.toNat = i by omega, List.range_succ, List.map_append]
  congr 1
  · apply List.map_congr_left
    intro a ha
    have := List.mem_range.mp ha
    show (if a = i then x else g a).toInt = (g a).toInt
    rw [if_neg (by omega)]
  · show [(if i = i then x else g i).toInt] = [x.toInt]
    rw [if_pos rfl]
def zz_hi (sl : Nat → Int32) (g : Nat → Int64) (n : Int) : Prop := (∀ i : Nat, (i : Int) < n → ∃ d : Nat, d < 65536 ∧ (sl (((g i).toInt + d) % 65536).toNat).toInt = i + 1 ∧ ∀ j : Nat, j < d → (sl (((g i).toInt + j) % 65536).toNat).toInt ≠ 0) ∧ ∀ s : Nat, s < 65536 → 0 ≤ (sl s).toInt ∧ (sl s).toInt ≤ n
theorem zz_hi_0 {sl : Nat → Int32} {g : Nat → Int64} {n x : Int} (h : zz_zr sl x) (hx : 65536 ≤ x) (hn : n = 0) : zz_hi sl g n := ⟨fun i hi => by omega, fun s hs => by have := h s (by omega); omega⟩
def zz_pb (sl : Nat → Int32) (g : Nat → Int64) (v x : Int) : Prop := ∃ d : Nat, x = (v + d) % 65536 ∧ ∀ j : Nat, j < d → (sl ((v + j) % 65536).toNat).toInt ≠ 0 ∧ (g ((sl ((v + j) % 65536).toNat).toInt - 1).toNat).toInt ≠ v
theorem zz_pb_ini {sl : Nat → Int32} {g : Nat → Int64} {v x : Int} (h : x = v % 65536) : zz_pb sl g v x := ⟨0, by omega, fun j hj => by omega⟩
theorem zz_pb_step {sl : Nat → Int32} {g : Nat → Int64} {v x x' : Int} {i j : Nat} (h : zz_pb sl g v x) (hi : (i : Int) = x) (hs : (sl i).toInt ≠ 0) (hj : (j : Int) = (sl i).toInt - 1) (hg : (g j).toInt ≠ v) (hx : x' = (x + 1) % 65536) : zz_pb sl g v x' := by
  obtain ⟨d, h1, h2⟩ := h
  refine ⟨d + 1, by omega, fun k hk => ?_⟩
  by_cases c : k = d
  · subst c
    rw [show ((v + (k : Int)) % 65536).toNat = i by omega]
    exact ⟨hs, by rw [show ((sl i).toInt - 1).toNat = j by omega]; exact hg⟩
  · exact h2 k (by omega)
theorem zz_pb_in {g : Nat → Int64} {sl : Nat → Int32} {n v : Int} {i j : Nat} (hh : zz_hi sl g n) (hi : i < 65536) (hs : 0 < (sl i).toInt) (hj : (j : Int) = (sl i).toInt - 1) (hg : (g j).toInt = v) : v ∈ zz_rl g n := zz_rl_mem.mpr ⟨j, by have := hh.2 i hi; omega, hg⟩
theorem zz_pb_out {g : Nat → Int64} {sl : Nat → Int32} {n v x : Int} {i : Nat} (hh : zz_hi sl g n) (h : zz_pb sl g v x) (hi : (i : Int) = x) (hs : (sl i).toInt = 0) : v ∉ zz_rl g n := fun z => by
  obtain ⟨a, a1, a2⟩ := zz_rl_mem.mp z
  obtain ⟨da, b1, b2, b3⟩ := hh.1 a a1
  obtain ⟨d, h1, h2⟩ := h
  rw [a2] at b2 b3
  by_cases c : d ≤ da
  · by_cases e : d = da
    · subst e
      rw [show ((v + (d : Int)) % 65536).toNat = i by omega] at b2
      omega
    · have := b3 d (by omega)
      rw [show ((v + (d : Int)) % 65536).toNat = i by omega] at this
      exact this hs
  · have := (h2 da (by omega)).2
    rw [b2, show ((a : Int) + 1 - 1).toNat = a by omega] at this
    exact this a2
theorem zz_hi_add {g : Nat → Int64} {sl : Nat → Int32} {n n' v x : Int} {i k : Nat} {w : Int64} {u : Int32} (hh : zz_hi sl g n) (h : zz_pb sl g v x) (hi : (i : Int) = x) (hs : (sl i).toInt = 0) (hk : (k : Int) = n) (hn : n' = n + 1) (hu : u.toInt = n + 1) (hw : w.toInt = v) : zz_hi (upd sl i u) (vp_updL g k w) n' := by
  obtain ⟨d, h1, h2⟩ := h
  have hd : d < 65536 := by
    refine Nat.lt_of_not_le fun z => ?_
    have := (h2 (d - 65536) (by omega)).1
    rw [show ((v + ((d - 65536 : Nat) : Int)) % 65536).toNat = i by omega] at this
    exact this hs
  have nz : ∀ s, (sl s).toInt ≠ 0 → (upd sl i u s).toInt ≠ 0 := fun s hs1 => by
    rw [zz_updE]
    by_cases c : s = i
    · rw [if_pos c]; omega
    · rw [if_neg c]; exact hs1
  refine ⟨fun a ha => ?_, fun s hs1 => ?_⟩
  · by_cases c : a = k
    · subst c
      have e : (vp_updL g a w a) = w := by show (if a = a then w else g a) = w; rw [if_pos rfl]
      rw [e, hw]
      refine ⟨d, hd, ?_, fun j hj => nz _ (h2 j hj).1⟩
      rw [show ((v + (d : Int)) % 65536).toNat = i by omega, zz_updE, if_pos rfl]
      omega
    · have e : (vp_updL g k w a) = g a := by show (if a = k then w else g a) = g a; rw [if_neg c]
      rw [e]
      obtain ⟨da, b1, b2, b3⟩ := hh.1 a (by omega)
      refine ⟨da, b1, ?_, fun j hj => nz _ (b3 j hj)⟩
      rw [zz_updE]
      by_cases c2 : (((g a).toInt + (da : Int)) % 65536).toNat = i
      · rw [c2] at b2; omega
      · rw [if_neg c2]; exact b2
  · rw [zz_updE]
    by_cases c : s = i
    · rw [if_pos c]
      have := hh.2 i (by omega)
      omega
    · rw [if_neg c]
      have := hh.2 s hs1
      omega
theorem zz_lgne {x y : Int64} (h : (lg_cmp x y).toInt ≠ 0) : x.toInt ≠ y.toInt := fun e => by
  have e : x = y := Int64.toInt_inj.mp e
  subst e
  exact h (by unfold lg_cmp; rw [if_neg (by intro z; exact Int64.lt_irrefl z), if_pos rfl]; rfl)
theorem zz_lgeq {x y : Int64} (h : (lg_cmp x y).toInt = 0) : x.toInt = y.toInt := by
  unfold lg_cmp at h
  by_cases c : x > y
  · rw [if_pos c] at h; exact absurd h (by decide)
  · rw [if_neg c] at h
    by_cases d : x = y
    · rw [d]
    · rw [if_neg d] at h; exact absurd h (by decide)
/-- what come does to the rooms: c, the answer r -/
def zz_cm (g : Nat → Int64) (n : Int) (g' : Nat → Int64) (n' c r : Int) : Prop := (c ∈ zz_rl g n ∧ zz_rl g' n' = zz_rl g n ∧ r = 1) ∨ (c ∉ zz_rl g n ∧ 20000 ≤ n ∧ r = 0) ∨ (c ∉ zz_rl g n ∧ n < 20000 ∧ zz_rl g' n' = zz_rl g n ++ [c] ∧ r = 1)
theorem zz_cm_in {g : Nat → Int64} {sl : Nat → Int32} {n c r : Int} {i j : Nat} (hh : zz_hi sl g n) (hi : i < 65536) (hs : 0 < (sl i).toInt) (hj : (j : Int) = (sl i).toInt - 1) (hg : (g j).toInt = c) (hr : r = 1) : zz_cm g n g n c r := Or.inl ⟨zz_pb_in hh hi hs hj hg, rfl, hr⟩
theorem zz_cm_full {g : Nat → Int64} {sl : Nat → Int32} {n c r x : Int} {i : Nat} (hh : zz_hi sl g n) (h : zz_pb sl g c x) (hi : (i : Int) = x) (hs : (sl i).toInt = 0) (hn : 20000 ≤ n) (hr : r = 0) : zz_cm g n g n c r := Or.inr (Or.inl ⟨zz_pb_out hh h hi hs, hn, hr⟩)
theorem zz_cm_new {g : Nat → Int64} {sl : Nat → Int32} {n n' c r x : Int} {i k : Nat} {w : Int64} (hh : zz_hi sl g n) (h : zz_pb sl g c x) (hi : (i : Int) = x) (hs : (sl i).toInt = 0) (hn : n < 20000) (hr : r = 1) (hk : (k : Int) = n) (hn' : n' = n + 1) (hw : w.toInt = c) : zz_cm g n (vp_updL g k w) n' c r := Or.inr (Or.inr ⟨zz_pb_out hh h hi hs, hn, by rw [zz_rl_app hk hn', hw], hr⟩)

/-! words of the class's takes, all forms -/
theorem zz_vs_or {w : Int} {pc wc : Nat → Int32} {n : Int} (h : zz_vs w pc wc n) (x : Int32) : x.toInt < 0 ∨ n ≤ x.toInt ∨ (0 ≤ (pc x.toNatClampNeg).toInt ∧ 1 ≤ (wc x.toNatClampNeg).toInt ∧ (pc x.toNatClampNeg).toInt + (wc x.toNatClampNeg).toInt ≤ w) := by
  by_cases a : x.toInt < 0
  · exact Or.inl a
  · by_cases b : n ≤ x.toInt
    · exact Or.inr (Or.inl b)
    · exact Or.inr (Or.inr (zz_vs_at h x (by omega) (by omega)))
theorem zz_ru_vs {n m sz : Int} {h pl wd : Nat → Int32} (hu : zz_ru n h pl wd sz) (hn : 0 ≤ n) (hm : n ≤ m) : zz_vs m pl wd sz := fun i hi => by
  obtain ⟨b1, b2, b3⟩ := hu.1 i hi
  have e1 := b3.1
  have e2 := b3.2.1
  omega
theorem zz_q_use {f n sz e a r : Int} {h pl wd : Nat → Int32} (hq : zz_q f pl wd sz e a r) (hu : zz_ru n h pl wd sz) (hn : 0 ≤ n) : zz_pl f n h e a r := hq n h hn hu
theorem zz_q_ff {n sz e a r f : Int} {h pl wd : Nat → Int32} (hq : zz_q f pl wd sz e a r) (hu : zz_ru n h pl wd sz) (hn : 0 ≤ n) (hf : f = 0) : zz_ff n h a 0 n r := by
  rcases hq n h hn hu with ⟨_, g⟩ | ⟨a1, _⟩ | ⟨a1, _⟩ | ⟨a1, _⟩
  · exact g
  · omega
  · omega
  · omega
-- form 6
def zz_g6 (c : Nat → Int32) (g s r : Int) : Prop := ∃ pw st : Int, zz_lpw (s / 4) pw ∧ ((pw ≤ 8 ∧ st = pw) ∨ (8 < pw ∧ st = 8)) ∧ zz_s4 (fun k => zz_fg c k (s / 4)) st (g - s / 4) 0 r
theorem zz_g6_mk {c : Nat → Int32} {g s r pw st nd z : Int} (h1 : zz_lpw nd pw) (h2 : zz_s4 (fun k => zz_fg c k nd) st (g - nd) z r) (hz : z = 0) (hn : nd = s / 4) (hs : (pw ≤ 8 ∧ st = pw) ∨ (8 < pw ∧ st = 8)) : zz_g6 c g s r := by
  subst hn
  subst hz
  exact ⟨pw, st, h1, hs, h2⟩
theorem zz_lpw_rg {n r : Int} (h : zz_lpw n r) : 1 ≤ r ∧ r ≤ 1024 ∧ n ≤ r ∧ (r = 1 ∨ r < 2 * n) := by
  obtain ⟨a, b, c⟩ := h
  unfold zz_p2 at a
  omega
theorem zz_lpw_p2 {n r : Int} (h : zz_lpw n r) : zz_p2 r := h.1
-- form 4
def zz_zp (h : Int) : Prop := h = 0 ∨ zz_p2 h
theorem zz_zp_half {h h' : Int} (h0 : zz_zp h) (e : h' = h / 2) : zz_zp h' := by
  unfold zz_zp zz_p2 at *
  omega
theorem zz_zp_p2 {h : Int} (h0 : zz_zp h) (h1 : 1 ≤ h) : zz_p2 h := by
  rcases h0 with a | a
  · omega
  · exact a
theorem zz_gpw_a {n r : Int} (h : zz_lpw n r) (hr : r ≤ n) : zz_gpw n r := by
  obtain ⟨a, b, c⟩ := h
  exact ⟨a, hr, by unfold zz_p2 at a; omega⟩
theorem zz_gpw_b {n r q : Int} (h : zz_lpw n r) (hr : n < r) (hq : q = r / 2) (h1 : 1 ≤ n) : zz_gpw n q := by
  obtain ⟨a, b, c⟩ := h
  unfold zz_p2 at a
  refine ⟨?_, ?_, ?_⟩
  · unfold zz_p2
    omega
  · omega
  · omega
def zz_b4 (f : Nat → Int32) (W : Int) : Prop := (f 0).toInt = W ∧ ∀ x : Nat, 0 < x → x < 1024 → (f x).toInt = 0
theorem zz_b4_mk {f : Nat → Int32} {W : Int} {v z : Int32} {i : Nat} (h : zz_fl f z 1024) (hz : z.toInt = 0) (hi : i = 0) (hv : v.toInt = W) : zz_b4 (upd f i v) W := by
  subst hi
  refine ⟨by rw [zz_updE, if_pos rfl]; exact hv, fun x h1 h2 => ?_⟩
  rw [zz_updE, if_neg (by omega), h x (by omega)]
  exact hz
theorem zz_smp_cg {f : Nat → Int32} {W W' s r : Int} (h : zz_smp f W s r) (hW : W' = W) : zz_smp f W' s r := by rw [hW]; exact h
def zz_P4 (f : Nat → Int32) (W : Int) : Prop := ∀ x : Nat, (x : Int) < W → (f x).toInt = 0 ∨ (zz_p2 (f x).toInt ∧ (x : Int) + (f x).toInt ≤ W)
theorem zz_P4_rg {f : Nat → Int32} {W s : Int} {r : Int32} (h : zz_P4 f W) (hm : zz_smp f W s r.toInt) (hs : 1 ≤ s) : r.toInt = -1 ∨ (0 ≤ r.toInt ∧ 1 ≤ (f r.toNatClampNeg).toInt ∧ (f r.toNatClampNeg).toInt ≤ 1024 ∧ r.toInt + (f r.toNatClampNeg).toInt ≤ W) := by
  rcases hm with ⟨a, _⟩ | ⟨a1, a2, a3, _⟩
  · exact Or.inl a
  · have a3 : s ≤ (f r.toNatClampNeg).toInt := a3
    have e := zz_tnI r a1
    rcases h r.toNatClampNeg (by omega) with c | ⟨c, d⟩
    · omega
    · unfold zz_p2 at c
      omega
theorem zz_P4_zp {f : Nat → Int32} {W s : Int} {r h' : Int32} (h : zz_P4 f W) (hm : zz_smp f W s r.toInt) (hr : 0 ≤ r.toInt) (e : h'.toInt = (f r.toNatClampNeg).toInt / 2) : zz_zp h'.toInt := by
  rcases hm with ⟨a, _⟩ | ⟨a1, a2, a3, _⟩
  · omega
  · have e2 := zz_tnI r a1
    rcases h r.toNatClampNeg (by omega) with c | ⟨c, d⟩
    · unfold zz_zp
      omega
    · exact zz_zp_half (Or.inr c) e
def zz_t4 (f f' : Nat → Int32) (W s r : Int) : Prop := zz_smp f W s r ∧ ((r = -1 ∧ f' = f) ∨ (0 ≤ r ∧ zz_shv f f' r ((f r.toNat).toInt / 2) s))
theorem zz_t4_n {f : Nat → Int32} {W s r r' : Int} (hm : zz_smp f W s r) (hr : r = -1) (hr' : r' = -1) : zz_t4 f f W s r' := ⟨by rw [hr', ← hr]; exact hm, Or.inl ⟨hr', rfl⟩⟩
theorem zz_t4_y {f f' : Nat → Int32} {W s q : Int} {r h : Int32} (hm : zz_smp f W s r.toInt) (hs : zz_shv f f' r.toInt h.toInt s) (hq : q = r.toInt) (hr : 0 ≤ r.toInt) (hh : h.toInt = (f r.toNatClampNeg).toInt / 2) : zz_t4 f f' W s q := by
  subst hq
  rw [hh] at hs
  exact ⟨hm, Or.inr ⟨hr, hs⟩⟩
set_option maxRecDepth 100000 in
theorem zz_xq1 : ∀ p, p < 1024 → p ^^^ 1 = zz_bud p 1 := by decide
set_option maxRecDepth 100000 in
theorem zz_xq2 : ∀ p, p < 1024 → p ^^^ 2 = zz_bud p 2 := by decide
set_option maxRecDepth 100000 in
theorem zz_xq4 : ∀ p, p < 1024 → p ^^^ 4 = zz_bud p 4 := by decide
set_option maxRecDepth 100000 in
theorem zz_xq8 : ∀ p, p < 1024 → p ^^^ 8 = zz_bud p 8 := by decide
set_option maxRecDepth 100000 in
theorem zz_xq16 : ∀ p, p < 1024 → p ^^^ 16 = zz_bud p 16 := by decide
set_option maxRecDepth 100000 in
theorem zz_xq32 : ∀ p, p < 1024 → p ^^^ 32 = zz_bud p 32 := by decide
set_option maxRecDepth 100000 in
theorem zz_xq64 : ∀ p, p < 1024 → p ^^^ 64 = zz_bud p 64 := by decide
set_option maxRecDepth 100000 in
theorem zz_xq128 : ∀ p, p < 1024 → p ^^^ 128 = zz_bud p 128 := by decide
set_option maxRecDepth 100000 in
theorem zz_xq256 : ∀ p, p < 1024 → p ^^^ 256 = zz_bud p 256 := by decide
set_option maxRecDepth 100000 in
theorem zz_xq512 : ∀ p, p < 1024 → p ^^^ 512 = zz_bud p 512 := by decide
theorem zz_xqq {s p : Nat} (hs : zz_p2 (s : Int)) (h : s < 1024) (hp : p < 1024) : p ^^^ s = zz_bud p s := by
  have c : s = 1 ∨ s = 2 ∨ s = 4 ∨ s = 8 ∨ s = 16 ∨ s = 32 ∨ s = 64 ∨ s = 128 ∨ s = 256 ∨ s = 512 := by unfold zz_p2 at hs; omega
  rcases c with c | c | c | c | c | c | c | c | c | c <;> subst c
  · exact zz_xq1 p hp
  · exact zz_xq2 p hp
  · exact zz_xq4 p hp
  · exact zz_xq8 p hp
  · exact zz_xq16 p hp
  · exact zz_xq32 p hp
  · exact zz_xq64 p hp
  · exact zz_xq128 p hp
  · exact zz_xq256 p hp
  · exact zz_xq512 p hp
theorem zz_xb (a b : Int32) (ha : 0 ≤ a.toInt) (ha2 : a.toInt < 1024) (hb : zz_p2 b.toInt) : 1024 ≤ b.toInt ∨ ((a ^^^ b).toInt = (zz_bud a.toInt.toNat b.toInt.toNat : Int) ∧ 0 ≤ (a ^^^ b).toInt ∧ (a ^^^ b).toInt < 2048) := by
  by_cases hq : 1024 ≤ b.toInt
  · exact Or.inl hq
  · right
    have hb0 : 1 ≤ b.toInt := by unfold zz_p2 at hb; omega
    have h1 := zz_ofInt ha
    have h2 := zz_ofInt (x := b) (by omega)
    have h0 := zz_xorF a b ha (by omega)
    have h4 := (zz_ofInt h0).2
    rw [Int32.toBitVec_xor, BitVec.toNat_xor] at h4
    have e := zz_xqq (s := b.toInt.toNat) (p := a.toInt.toNat) (by rw [Int.toNat_of_nonneg (by omega)]; exact hb) (by omega) (by omega)
    have e1 : a.toBitVec.toNat = a.toInt.toNat := by omega
    have e2 : b.toBitVec.toNat = b.toInt.toNat := by omega
    rw [e1, e2, e] at h4
    have e3 : zz_bud a.toInt.toNat b.toInt.toNat < 2048 := by unfold zz_bud; split <;> omega
    omega
-- form 5
def zz_s5 (n r : Int) : Prop := (n ≤ 32 ∧ zz_lpw n r) ∨ (32 < n ∧ r = (n + 31) / 32 * 32)
def zz_wk (s : Int) (f g : Nat → Int32) (a e : Int) : Prop := (s = 0 ∧ zz_wr f g a e 0) ∨ (s ≠ 0 ∧ zz_wr f g a e 1)
theorem zz_wk_nil {s a e : Int} {f : Nat → Int32} (h : e ≤ a) : zz_wk s f f a e := by
  by_cases c : s = 0
  · exact Or.inl ⟨c, zz_wr_nil h⟩
  · exact Or.inr ⟨c, zz_wr_nil h⟩
theorem zz_wk_step {s a a' e : Int} {f g : Nat → Int32} {i : Nat} {v : Int32} (h : zz_wk s (upd f i v) g a' e) (hv : (s = 0 ∧ v = 0) ∨ (s ≠ 0 ∧ v = 1)) (hi : (i : Int) = a) (ha : a' = a + 1) (hl : a < e) : zz_wk s f g a e := by
  rcases h with ⟨c, h⟩ | ⟨c, h⟩
  · rcases hv with ⟨_, d⟩ | ⟨d, _⟩
    · subst d
      exact Or.inl ⟨c, zz_wr_step h hi ha hl⟩
    · exact absurd c d
  · rcases hv with ⟨d, _⟩ | ⟨_, d⟩
    · exact absurd d c
    · subst d
      exact Or.inr ⟨c, zz_wr_step h hi ha hl⟩
theorem zz_wk_cg {s s' a e a' e' : Int} {f g : Nat → Int32} (h : zz_wk s f g a e) (hs : s' = s) (ha : a' = a) (he : e' = e) : zz_wk s' f g a' e' := by rw [hs, ha, he]; exact h
def zz_tr5 (S K S' K' : Nat → Int32) (pg n : Int) (s : Int32) (r : Int) : Prop := ∃ q : Int, zz_fr5 S pg n q ∧ ((q = -1 ∧ r = -1 ∧ S' = S ∧ K' = K) ∨ (0 ≤ q ∧ r = 32 * q ∧ zz_wr S S' q (q + n) s ∧ zz_wk s.toInt K K' q (q + n)))
theorem zz_tr5_n {S K : Nat → Int32} {pg n r : Int} {s : Int32} (h : zz_fr5 S pg n (-1)) (hr : r = -1) : zz_tr5 S K S K pg n s r := ⟨-1, h, Or.inl ⟨rfl, hr, rfl, rfl⟩⟩
theorem zz_tr5_y {S K S' K' : Nat → Int32} {pg n r q a e a' e' x : Int} {s : Int32} (h : zz_fr5 S pg n q) (hS : zz_wr S S' a e s) (hK : zz_wk x K K' a' e') (hx : x = s.toInt) (hq : 0 ≤ q) (hr : r = 32 * q) (ha : a = q) (he : e = q + n) (ha' : a' = q) (he' : e' = q + n) : zz_tr5 S K S' K' pg n s r := by
  subst ha he ha' he' hx
  exact ⟨_, h, Or.inr ⟨hq, hr, hS, hK⟩⟩
theorem zz_al_md {s x p : Int} (h : (s = 1 ∧ x % 1 = 0) ∨ (s = 2 ∧ x % 2 = 0) ∨ (s = 4 ∧ x % 4 = 0) ∨ (s = 8 ∧ x % 8 = 0) ∨ (s = 16 ∧ x % 16 = 0) ∨ (s = 32 ∧ x % 32 = 0)) : (x - 32 * p) % s = 0 := by
  rcases h with ⟨c, h⟩ | ⟨c, h⟩ | ⟨c, h⟩ | ⟨c, h⟩ | ⟨c, h⟩ | ⟨c, h⟩ <;> subst c <;> omega
def zz_ti5 (S c K K' : Nat → Int32) (pg s x r : Int) : Prop := zz_tp5 S (fun y => (c y.toNat).toInt = -1) pg s x r ∧ ((r = -1 ∧ K' = K) ∨ (0 ≤ r ∧ ∃ i : Nat, (i : Int) = r / 32 ∧ K' = upd K i ((K i) + ((1 : Int32)))))
theorem zz_ti5_end {S c K : Nat → Int32} {pg s x r : Int} (h : pg ≤ x) (hr : r = -1) : zz_ti5 S c K K pg s x r := ⟨zz_tp5_end h hr, Or.inl ⟨hr, rfl⟩⟩
theorem zz_ti5_skip {S c K K' : Nat → Int32} {pg s x x' r : Int} {i : Nat} (h : zz_ti5 S c K K' pg s x' r) (hi : (i : Int) = x) (hx : x' = x + 1) (hc : (S i).toInt ≠ s ∨ zz_fp5 (fun y => (c y.toNat).toInt = -1) x s (-1)) : zz_ti5 S c K K' pg s x r := ⟨zz_tp5_skip h.1 hi hx hc, h.2⟩
theorem zz_fp5_m {F : Int → Prop} {p s r : Int} (h : zz_fp5 F p s r) (hr : r = -1) : zz_fp5 F p s (-1) := by rw [← hr]; exact h
theorem zz_fp5_rg {F : Int → Prop} {p s r : Int} (h : zz_fp5 F p s r) : r = -1 ∨ (32 * p ≤ r ∧ r < 32 * p + 32) := by
  rcases h with ⟨a, _⟩ | ⟨j, j1, j2, j3, _⟩
  · exact Or.inl a
  · omega
theorem zz_ti5_hit {S c K : Nat → Int32} {pg s x r : Int} {i j : Nat} (hf : zz_fp5 (fun y => (c y.toNat).toInt = -1) x s r) (hi : (i : Int) = x) (hx : x < pg) (hs : (S i).toInt = s) (hr : r ≠ -1) (h0 : 0 ≤ x) (hj : (j : Int) = x) : zz_ti5 S c K (upd K j ((K j) + ((1 : Int32)))) pg s x r := by
  have := zz_fp5_rg hf
  exact ⟨zz_tp5_hit hi hx hs hf (by omega), Or.inr ⟨by omega, j, by omega, rfl⟩⟩
def zz_k5t (S K S' K' c : Nat → Int32) (pg : Int) (s : Int32) (r : Int) : Prop := (32 < s.toInt ∧ zz_tr5 S K S' K' pg (s.toInt / 32) s r) ∨ (s.toInt ≤ 32 ∧ 0 ≤ r ∧ S' = S ∧ zz_ti5 S c K K' pg s.toInt 0 r) ∨ (s.toInt ≤ 32 ∧ zz_ti5 S c K K pg s.toInt 0 (-1) ∧ zz_tr5 S K S' K' pg 1 s r)
theorem zz_tr5_cg {S K S' K' : Nat → Int32} {pg n n' r : Int} {s : Int32} (h : zz_tr5 S K S' K' pg n s r) (hn : n' = n) : zz_tr5 S K S' K' pg n' s r := by rw [hn]; exact h
theorem zz_ti5_K {S c K K' : Nat → Int32} {pg s x r : Int} (h : zz_ti5 S c K K' pg s x r) (hr : r = -1) : K' = K ∧ zz_ti5 S c K K pg s x (-1) := by
  rcases h.2 with ⟨_, e⟩ | ⟨e, _⟩
  · subst e
    rw [hr] at h
    exact ⟨rfl, h⟩
  · omega
def zz_tb5 (S K S' K' : Nat → Int32) (p s : Int) : Prop := ∃ i : Nat, (i : Int) = p / 32 ∧ ((((K i) - ((1 : Int32))).toInt ≤ 0 ∧ zz_wr S S' (p / 32) (p / 32 + (s + 31) / 32) 0 ∧ zz_wk 0 (upd K i ((K i) - ((1 : Int32)))) K' (p / 32) (p / 32 + (s + 31) / 32)) ∨ (0 < ((K i) - ((1 : Int32))).toInt ∧ S' = S ∧ K' = upd K i ((K i) - ((1 : Int32)))))
theorem zz_tb5_y {S K S' K' : Nat → Int32} {p s a e a' e' x : Int} {v : Int32} {i : Nat} (hS : zz_wr S S' a e v) (hK : zz_wk x (upd K i ((K i) - ((1 : Int32)))) K' a' e') (hv : v = 0) (hx : x = 0) (hi : (i : Int) = p / 32) (hc : ((upd K i ((K i) - ((1 : Int32)))) i).toInt ≤ 0) (ha : a = p / 32) (he : e = p / 32 + (s + 31) / 32) (ha' : a' = p / 32) (he' : e' = p / 32 + (s + 31) / 32) : zz_tb5 S K S' K' p s := by
  rw [zz_updE, if_pos rfl] at hc
  subst hv ha he ha' he' hx
  exact ⟨i, hi, Or.inl ⟨hc, hS, hK⟩⟩
-- form 9
def zz_tq (pc wc : Nat → Int32) (n : Int) (pc' wc' : Nat → Int32) (n' s x r : Int) : Prop := (r = -1 ∧ n' = n ∧ pc' = pc ∧ wc' = wc ∧ ∀ j : Nat, (j : Int) ≤ x → (wc j).toInt ≠ s) ∨ ∃ j : Nat, (j : Int) ≤ x ∧ (wc j).toInt = s ∧ r = (pc j).toInt ∧ n' = n - 1 ∧ zz_rmv pc pc' (j : Int) n ∧ zz_rmv wc wc' (j : Int) n ∧ ∀ i : Nat, j < i → (i : Int) ≤ x → (wc i).toInt ≠ s
theorem zz_tb5_n {S K : Nat → Int32} {p s : Int} {i : Nat} (hc : 0 < ((upd K i ((K i) - ((1 : Int32)))) i).toInt) (hi : (i : Int) = p / 32) : zz_tb5 S K S (upd K i ((K i) - ((1 : Int32)))) p s := ⟨i, hi, Or.inr ⟨by rw [zz_updE, if_pos rfl] at hc; exact hc, rfl, rfl⟩⟩
theorem zz_tq_no {pc wc : Nat → Int32} {n n' s x r : Int} (hx : x < 0) (hr : r = -1) (hn : n' = n) : zz_tq pc wc n pc wc n' s x r := Or.inl ⟨hr, hn, rfl, rfl, fun j hj => by omega⟩
theorem zz_tq_hit {pc wc pc' wc' : Nat → Int32} {n n' s x r x' x'' : Int} {j : Nat} (h1 : zz_rmv pc pc' x' n) (h2 : zz_rmv wc wc' x'' n) (hj : (j : Int) = x) (e1 : x' = x) (e2 : x'' = x) (hs : (wc j).toInt = s) (hr : r = (pc j).toInt) (hn : n' = n - 1) : zz_tq pc wc n pc' wc' n' s x r := by
  subst e1 e2
  rw [← hj] at h1 h2
  exact Or.inr ⟨j, by omega, hs, hr, hn, h1, h2, fun i h3 h4 => by omega⟩
theorem zz_tq_skip {pc wc pc' wc' : Nat → Int32} {n n' s x x' r : Int} {j : Nat} (h : zz_tq pc wc n pc' wc' n' s x' r) (hj : (j : Int) = x) (hx : x' = x - 1) (hs : (wc j).toInt ≠ s) : zz_tq pc wc n pc' wc' n' s x r := by
  rcases h with ⟨a1, a2, a3, a4, a5⟩ | ⟨i, a1, a2, a3, a4, a5, a6, a7⟩
  · exact Or.inl ⟨a1, a2, a3, a4, fun k hk => by
      by_cases c : k = j
      · rw [c]; exact hs
      · exact a5 k (by omega)⟩
  · exact Or.inr ⟨i, by omega, a2, a3, a4, a5, a6, fun k h1 h2 => by
      by_cases c : k = j
      · rw [c]; exact hs
      · exact a7 k h1 (by omega)⟩
theorem zz_tq_cg {pc wc pc' wc' : Nat → Int32} {n n' s x x' r : Int} (h : zz_tq pc wc n pc' wc' n' s x r) (hx : x' = x) : zz_tq pc wc n pc' wc' n' s x' r := by rw [hx]; exact h
/-- after nothing was found all is as it was -/
theorem zz_tq_m {pc wc pc' wc' : Nat → Int32} {n n' s x r w : Int} (h : zz_tq pc wc n pc' wc' n' s x r) (hv : zz_vs w pc wc n) (hr : r = -1) (hx : x < n) : pc' = pc ∧ wc' = wc ∧ n' = n ∧ zz_tq pc wc n pc wc n s x (-1) := by
  rcases h with ⟨a1, a2, a3, a4, a5⟩ | ⟨j, a1, a2, a3, _⟩
  · exact ⟨a3, a4, a2, Or.inl ⟨rfl, rfl, rfl, rfl, a5⟩⟩
  · have := hv j (by omega)
    omega
def zz_k9 (w : Int) (c c' pc wc : Nat → Int32) (n : Int) (pc' wc' : Nat → Int32) (n' s r : Int) : Prop := (0 ≤ r ∧ c' = c ∧ zz_tq pc wc n pc' wc' n' s (n - 1) r) ∨ (zz_tq pc wc n pc wc n s (n - 1) (-1) ∧ pc' = pc ∧ wc' = wc ∧ ((0 ≤ r ∧ c' = c ∧ n' = n ∧ zz_ff w c s 0 w r) ∨ (zz_ff w c s 0 w (-1) ∧ n' = 0 ∧ zz_W9p c c' pc wc 0 n ∧ zz_ff w c' s 0 w r)))
theorem zz_W9p_cg {c c' qp qw : Nat → Int32} {i i' n n' : Int} (h : zz_W9p c c' qp qw i n) (hi : i' = i) (hn : n' = n) : zz_W9p c c' qp qw i' n' := by rw [hi, hn]; exact h
theorem zz_ff_m {w a fr ah r : Int} {h : Nat → Int32} (hf : zz_ff w h a fr ah r) (hr : r = -1) : zz_ff w h a fr ah (-1) := by rw [← hr]; exact hf
theorem zz_isf_n2 {w : Int} {o : Nat → Int32} {p : Int32} {r : Int} (h : zz_isf w o p r) (hr : r = 0) (h0 : 0 ≤ p.toInt) (h1 : p.toInt < w) : (o p.toNatClampNeg).toInt ≠ -1 := by
  rcases h with ⟨a, _⟩ | ⟨_, a⟩
  · omega
  · rcases a with a | a | a
    · omega
    · omega
    · exact a
theorem zz_tnE {x : Int32} {y : Int} (h : 0 ≤ y) (e : x.toInt = y) : (x.toNatClampNeg : Int) = y := by
  have := zz_tnI x (by omega)
  omega
theorem zz_tnO (x : Int32) : x.toInt < 0 ∨ (x.toNatClampNeg : Int) = x.toInt := by
  by_cases c : x.toInt < 0
  · exact Or.inl c
  · exact Or.inr (zz_tnI x (by omega))
theorem zz_p2_up {a b c : Int} (ha : zz_p2 a) (hb : zz_p2 b) (h : a < b) (hc : c = 2 * a) : c ≤ b := by
  have := zz_p2_le ha hb h
  omega
theorem zz_k5_lt {S : Nat → Int32} {n k x : Int} (h : zz_k5 S n k x) : 0 ≤ k ∧ k < n ∧ k ≤ x := ⟨h.1, h.2.2.1, h.2.1⟩
/-- a span that form 5 has -/
def zz_s5s (s : Int) : Prop := (zz_p2 s ∧ s ≤ 32) ∨ (32 < s ∧ s % 32 = 0)
theorem zz_s5s_or {s : Int} (h : zz_s5s s) : (s = 1 ∨ s = 2 ∨ s = 4 ∨ s = 8 ∨ s = 16 ∨ s = 32) ∨ (32 < s ∧ s % 32 = 0) := by
  rcases h with ⟨a, b⟩ | a
  · unfold zz_p2 at a
    omega
  · exact Or.inr a
theorem zz_s5_s {n r : Int} (h : zz_s5 n r) (h1 : 1 ≤ n) (h2 : n ≤ 1024) : zz_s5s r ∧ 1 ≤ r ∧ r ≤ 1024 ∧ n ≤ r := by
  rcases h with ⟨a, b⟩ | ⟨a, b⟩
  · obtain ⟨b1, b2, b3⟩ := b
    have c := b1
    unfold zz_p2 at c
    exact ⟨Or.inl ⟨b1, by omega⟩, by omega, by omega, by omega⟩
  · exact ⟨Or.inr ⟨by omega, by omega⟩, by omega, by omega, by omega⟩
theorem zz_upi {f g : Nat → Int32} {i j : Nat} {v : Int32} (h : g = upd f i v) (e : i = j) : g = upd f j v := by rw [← e]; exact h
def zz_tb9 (c c' pc wc : Nat → Int32) (n : Int) (pc' wc' : Nat → Int32) (n' : Int) (p s : Int32) : Prop := (8 < s.toInt ∧ c' = c ∧ pc' = pc ∧ wc' = wc ∧ n' = n) ∨ (s.toInt ≤ 8 ∧ zz_wr c c' p.toInt (p.toInt + s.toInt) (-2) ∧ pc' = upd pc n.toNat p ∧ wc' = upd wc n.toNat s ∧ n' = n + 1)
theorem zz_k9_a {w : Int} {c pc wc pc' wc' : Nat → Int32} {n n' s x r r0 : Int} (h : zz_tq pc wc n pc' wc' n' s x r0) (hv : zz_vs w pc wc n) (hf : zz_ff w c s 0 w r) (hr0 : r0 = -1) (hx : x = n - 1) (hr : 0 ≤ r) : zz_k9 w c c pc wc n pc' wc' n' s r := by
  subst hx
  obtain ⟨a, b, d, g⟩ := zz_tq_m h hv hr0 (by omega)
  exact Or.inr ⟨g, a, b, Or.inl ⟨hr, rfl, d, hf⟩⟩
theorem zz_k9_b {w : Int} {c c' pc wc pc' wc' : Nat → Int32} {n n' n1 s x r r0 r1 z : Int} (h : zz_tq pc wc n pc' wc' n1 s x r0) (hv : zz_vs w pc wc n) (hf : zz_ff w c s 0 w r1) (hW : zz_W9p c c' pc' wc' z n1) (hf2 : zz_ff w c' s 0 w r) (hr0 : r0 = -1) (hr1 : r1 = -1) (hx : x = n - 1) (hn : n' = 0) (hz : z = 0 := by rfl) : zz_k9 w c c' pc wc n pc' wc' n' s r := by
  subst hx
  subst hz
  obtain ⟨a, b, d, g⟩ := zz_tq_m h hv hr0 (by omega)
  subst a b d hr1
  exact Or.inr ⟨g, rfl, rfl, Or.inr ⟨hf, hn, hW, hf2⟩⟩
-- RoomForms' methods
theorem zz_BE_n {e e2 : String} {p1 : Int32} {B r B' x : Int} {nc pc sc ac : Nat → Int32} {SM : Prop} {TB : Int32 → Int32 → Prop} (h : zz_nb nc p1 B e2 x) (hn : ¬ e2 = "") (he : e = e2) (hB : B' = B) (hS : SM) : zz_BE e p1 B nc pc sc ac r B' nc pc sc ac SM TB := by
  rcases h with ⟨a, b⟩ | ⟨a, _⟩
  · exact Or.inl ⟨he.trans a, b, hB, rfl, rfl, rfl, rfl, hS⟩
  · exact absurd a hn
theorem zz_BE_y {e e2 : String} {p1 x : Int32} {B r B' : Int} {nc pc sc ac nc' pc' sc' ac' : Nat → Int32} {SM : Prop} {TB : Int32 → Int32 → Prop} (h : zz_nb nc p1 B e2 x.toInt) (he2 : e2 = "") (he : e = "") (hr : r = (pc x.toNatClampNeg).toInt) (hB : B' = B - 1) (h1 : zz_mv nc nc' x.toInt B) (h2 : zz_mv pc pc' x.toInt B) (h3 : zz_mv sc sc' x.toInt B) (h4 : zz_mv ac ac' x.toInt B) (h5 : TB (pc x.toNatClampNeg) (sc x.toNatClampNeg)) : zz_BE e p1 B nc pc sc ac r B' nc' pc' sc' ac' SM TB := by
  rcases h with h | ⟨_, a1, a2, a3⟩
  · exact absurd (h.1.symm.trans he2) (by decide)
  · have ex := zz_tnI x a1
    exact Or.inr ⟨he, x.toNatClampNeg, by omega, a3, hr, hB, by rw [ex]; exact h1, by rw [ex]; exact h2, by rw [ex]; exact h3, by rw [ex]; exact h4, h5⟩
/-- about, of the class -/
def zz_AE (e : String) (p1 : Int32) (p2 r B : Int) (nc pc sc ac : Nat → Int32) : Prop := (e = "java/lang/IllegalArgumentException" ∧ (p2 < 0 ∨ 2 < p2)) ∨ (0 ≤ p2 ∧ p2 ≤ 2 ∧ ((e = "java/util/NoSuchElementException" ∧ zz_ns nc p1 B) ∨ (e = "" ∧ ∃ i : Nat, (i : Int) < B ∧ nc i = p1 ∧ ((p2 = 0 ∧ r = (pc i).toInt) ∨ (p2 = 1 ∧ r = (sc i).toInt) ∨ (p2 = 2 ∧ r = (ac i).toInt)))))
theorem zz_AE_n {e e2 : String} {p1 : Int32} {p2 r B x : Int} {nc pc sc ac : Nat → Int32} (h : zz_nb nc p1 B e2 x) (hn : ¬ e2 = "") (he : e = e2) (h0 : 0 ≤ p2) (h2 : p2 ≤ 2) : zz_AE e p1 p2 r B nc pc sc ac := by
  rcases h with ⟨a, b⟩ | ⟨a, _⟩
  · exact Or.inr ⟨h0, h2, Or.inl ⟨he.trans a, b⟩⟩
  · exact absurd a hn
theorem zz_AE_y {e e2 : String} {p1 x : Int32} {p2 r B : Int} {nc pc sc ac : Nat → Int32} (h : zz_nb nc p1 B e2 x.toInt) (he2 : e2 = "") (he : e = "") (hr : (p2 = 0 ∧ r = (pc x.toNatClampNeg).toInt) ∨ (p2 = 1 ∧ r = (sc x.toNatClampNeg).toInt) ∨ (p2 = 2 ∧ r = (ac x.toNatClampNeg).toInt)) : zz_AE e p1 p2 r B nc pc sc ac := by
  rcases h with h | ⟨_, a1, a2, a3⟩
  · exact absurd (h.1.symm.trans he2) (by decide)
  · have ex := zz_tnI x a1
    exact Or.inr ⟨by omega, by omega, Or.inr ⟨he, x.toNatClampNeg, by omega, a3, hr⟩⟩
/-- at, of the class -/
def zz_TE (e : String) (p1 : Int32) (r w : Int) (c : Nat → Int32) : Prop := (e = "java/lang/IllegalArgumentException" ∧ (p1.toInt < 0 ∨ w ≤ p1.toInt)) ∨ (e = "" ∧ 0 ≤ p1.toInt ∧ p1.toInt < w ∧ zz_bat c p1 r)
/-- run, of the class -/
def zz_RE (e : String) (p1 p2 r w : Int) (c : Nat → Int32) : Prop := (e = "java/lang/IllegalArgumentException" ∧ (p2 < 0 ∨ 1 < p2)) ∨ (0 ≤ p2 ∧ p2 ≤ 1 ∧ ∃ (pl wd : Nat → Int32) (n : Int), zz_ru w c pl wd n ∧ 0 ≤ n ∧ ((e = "java/lang/IndexOutOfBoundsException" ∧ (p1 < 0 ∨ n ≤ p1)) ∨ (e = "" ∧ 0 ≤ p1 ∧ p1 < n ∧ ((p2 = 0 ∧ r = (pl p1.toNat).toInt) ∨ (p2 = 1 ∧ r = (wd p1.toNat).toInt)))))
theorem zz_RE_n {e : String} {p1 p2 r w n : Int} {c pl wd : Nat → Int32} (h : zz_ru w c pl wd n) (hn : 0 ≤ n) (h0 : 0 ≤ p2) (h1 : p2 ≤ 1) (he : e = "java/lang/IndexOutOfBoundsException") (hp : p1 < 0 ∨ n ≤ p1) : zz_RE e p1 p2 r w c := Or.inr ⟨h0, h1, pl, wd, n, h, hn, Or.inl ⟨he, hp⟩⟩
theorem zz_RE_y {e : String} {p1 p2 r w n : Int} {c pl wd : Nat → Int32} (h : zz_ru w c pl wd n) (hn : 0 ≤ n) (h0 : 0 ≤ p2) (h1 : p2 ≤ 1) (he : e = "") (hp : 0 ≤ p1) (hp2 : p1 < n) (hr : (p2 = 0 ∧ r = (pl p1.toNat).toInt) ∨ (p2 = 1 ∧ r = (wd p1.toNat).toInt)) : zz_RE e p1 p2 r w c := Or.inr ⟨h0, h1, pl, wd, n, h, hn, Or.inr ⟨he, hp, hp2, hr⟩⟩
/-- an open of the class: SM all is as it was, BG what begin leaves -/
def zz_OE (e : String) (p1 p2 : Int) (SM : Prop) (f' w' B' g' : Int) (ow : Nat → Int32) (BG : Prop) : Prop := (e = "java/lang/IllegalArgumentException" ∧ (p1 < 0 ∨ 9 < p1 ∨ p2 < 16 ∨ 1024 < p2) ∧ SM) ∨ (e = "" ∧ 0 ≤ p1 ∧ p1 ≤ 9 ∧ 16 ≤ p2 ∧ p2 ≤ 1024 ∧ f' = p1 ∧ w' = p2 ∧ B' = 0 ∧ g' = 0 ∧ zz_fl ow (-1) 1024 ∧ BG)
/-- without a room -/
def zz_NE (e : String) (P : Prop) : Prop := (e = "java/lang/IllegalArgumentException" ∧ P) ∨ (e = "java/lang/IllegalStateException" ∧ ¬ P)
theorem zz_NE_s {e : String} {P : Prop} (h : zz_eis e) (hP : ¬ P) : zz_NE e P := Or.inr ⟨h, hP⟩
/-- blocks of form 4 and 5, of the class: what their places and spans are -/
def zz_B4 (pc sc : Nat → Int32) (B W : Int) : Prop := ∀ i : Nat, (i : Int) < B → zz_p2 (sc i).toInt ∧ 0 ≤ (pc i).toInt ∧ (pc i).toInt + (sc i).toInt ≤ W
theorem zz_B4_at {pc sc : Nat → Int32} {B W : Int} (h : zz_B4 pc sc B W) (x : Int32) (h0 : 0 ≤ x.toInt) (h1 : x.toInt < B) : zz_p2 (sc x.toNatClampNeg).toInt ∧ 1 ≤ (sc x.toNatClampNeg).toInt ∧ 0 ≤ (pc x.toNatClampNeg).toInt ∧ (pc x.toNatClampNeg).toInt + (sc x.toNatClampNeg).toInt ≤ W := by
  obtain ⟨a, b, c⟩ := h x.toNatClampNeg (by have := zz_tnI x h0; omega)
  exact ⟨a, (zz_p2_pos a).1, b, c⟩
def zz_B5 (pc sc : Nat → Int32) (B pg : Int) : Prop := ∀ i : Nat, (i : Int) < B → 0 ≤ (pc i).toInt ∧ 1 ≤ (sc i).toInt ∧ (pc i).toInt + (sc i).toInt ≤ 32 * pg ∧ ((pc i).toInt % 32 + (sc i).toInt ≤ 32 ∨ (pc i).toInt % 32 = 0) ∧ ((sc i).toInt ≤ 32 ∨ (sc i).toInt % 32 = 0)
theorem zz_B5_at {pc sc : Nat → Int32} {B pg : Int} (h : zz_B5 pc sc B pg) (x : Int32) (h0 : 0 ≤ x.toInt) (h1 : x.toInt < B) : 0 ≤ (pc x.toNatClampNeg).toInt ∧ 1 ≤ (sc x.toNatClampNeg).toInt ∧ (pc x.toNatClampNeg).toInt + (sc x.toNatClampNeg).toInt ≤ 32 * pg ∧ ((pc x.toNatClampNeg).toInt % 32 + (sc x.toNatClampNeg).toInt ≤ 32 ∨ (pc x.toNatClampNeg).toInt % 32 = 0) ∧ ((sc x.toNatClampNeg).toInt ≤ 32 ∨ (sc x.toNatClampNeg).toInt % 32 = 0) := h x.toNatClampNeg (by have := zz_tnI x h0; omega)
theorem zz_gpw_cg {n n' r : Int} (h : zz_gpw n r) (e : n' = n) : zz_gpw n' r := by rw [e]; exact h
theorem zz_ff_rg {n a fr ah r : Int} {h : Nat → Int32} (hf : zz_ff n h a fr ah r) (h0 : 0 ≤ fr) : r = -1 ∨ (0 ≤ r ∧ r + a ≤ n) := by
  rcases hf with ⟨a1, _⟩ | ⟨a1, a2, a3, _⟩
  · exact Or.inl a1
  · have := a3.1
    exact Or.inr ⟨by omega, by omega⟩
theorem zz_bf_rg {b : Prop} {n a r : Int} {h : Nat → Int32} (hf : zz_bf b n h a r) (hn : 0 ≤ n) : r = -1 ∨ (0 ≤ r ∧ r + a ≤ n) := by
  rcases hf with ⟨a1, _⟩ | ⟨a1, v, a2, a3, _⟩
  · exact Or.inl a1
  · have := a2.2.1
    exact Or.inr ⟨by omega, by omega⟩
theorem zz_pl_rg {f n e a r : Int} {h : Nat → Int32} (hp : zz_pl f n h e a r) (he : 0 ≤ e) (hn : 0 ≤ n) : r = -1 ∨ (0 ≤ r ∧ r + a ≤ n) := by
  rcases hp with ⟨_, g⟩ | ⟨_, g⟩ | ⟨_, g⟩ | ⟨_, g⟩
  · exact zz_ff_rg g (Int.le_refl _)
  · rcases g with ⟨_, g⟩ | ⟨_, g⟩
    · exact zz_ff_rg g he
    · exact zz_ff_rg g (Int.le_refl _)
  · exact zz_bf_rg g hn
  · exact zz_bf_rg g hn
theorem zz_g6_rg {c : Nat → Int32} {g s r : Int} (h : zz_g6 c g s r) (hs : 4 ≤ s) (h4 : s % 4 = 0) : r = -1 ∨ (0 ≤ r ∧ r + s ≤ 4 * g) := by
  obtain ⟨pw, st, h1, h2, h3⟩ := h
  have := zz_lpw_rg h1
  rcases h3 with ⟨a, _⟩ | ⟨j, j1, j2, _⟩
  · exact Or.inl a
  · have : 0 ≤ st * (j : Int) := Int.mul_nonneg (by omega) (Int.natCast_nonneg j)
    exact Or.inr ⟨by omega, by omega⟩
theorem zz_t4_rg {f f' : Nat → Int32} {W s r : Int} (h : zz_t4 f f' W s r) (hP : zz_P4 f W) (hs : 1 ≤ s) : r = -1 ∨ (0 ≤ r ∧ r + s ≤ W) := by
  rcases h.1 with ⟨a, _⟩ | ⟨a1, a2, a3, _⟩
  · exact Or.inl a
  · rcases hP r.toNat (by omega) with c | ⟨_, c⟩
    · omega
    · exact Or.inr ⟨a1, by omega⟩
theorem zz_k5t_rg {S K S' K' c : Nat → Int32} {pg r : Int} {s : Int32} (h : zz_k5t S K S' K' c pg s r) (hs : zz_s5s s.toInt) (h1 : 1 ≤ s.toInt) : r = -1 ∨ (0 ≤ r ∧ r + s.toInt ≤ 32 * pg) := by
  have hs := zz_s5s_or hs
  have key : ∀ n : Int, zz_tr5 S K S' K' pg n s r → s.toInt ≤ 32 * n → r = -1 ∨ (0 ≤ r ∧ r + s.toInt ≤ 32 * pg) := fun n ht hn => by
    obtain ⟨q, q1, q2⟩ := ht
    rcases q2 with ⟨_, b, _⟩ | ⟨b1, b2, _⟩
    · exact Or.inl b
    · rcases q1 with ⟨d, _⟩ | ⟨d1, d2, _⟩
      · omega
      · exact Or.inr ⟨by omega, by omega⟩
  rcases h with ⟨a, b⟩ | ⟨a, b, _, d⟩ | ⟨a, _, d⟩
  · exact key _ b (by omega)
  · rcases d.1 with ⟨e, _⟩ | ⟨p, p1, p2, p3, p4, p5, _⟩
    · exact Or.inl e
    · rcases p5 with ⟨e, _⟩ | ⟨j, j1, j2, j3, _⟩
      · exact Or.inl e
      · refine Or.inr ⟨b, ?_⟩
        have : (j : Int) + s.toInt ≤ 32 := by
          rcases hs with (e | e | e | e | e | e) | e
          · rw [e] at j2 ⊢; omega
          · rw [e] at j2 ⊢; omega
          · rw [e] at j2 ⊢; omega
          · rw [e] at j2 ⊢; omega
          · rw [e] at j2 ⊢; omega
          · rw [e] at j2 ⊢; omega
          · omega
        omega
  · exact key 1 d (by omega)
theorem zz_k9_rg {w n n' s r : Int} {c c' pc wc pc' wc' : Nat → Int32} (h : zz_k9 w c c' pc wc n pc' wc' n' s r) (hv : zz_vs w pc wc n) (hn : 0 ≤ n) (hr : -1 ≤ r) : r = -1 ∨ (0 ≤ r ∧ r + s ≤ w) := by
  rcases h with ⟨a, _, b⟩ | ⟨_, _, _, d⟩
  · rcases b with ⟨e, _⟩ | ⟨j, j1, j2, j3, _⟩
    · exact Or.inl e
    · have := hv j (by omega)
      exact Or.inr ⟨a, by omega⟩
  · rcases d with ⟨_, _, _, d⟩ | ⟨_, _, _, d⟩
    · exact zz_ff_rg d (Int.le_refl _)
    · exact zz_ff_rg d (Int.le_refl _)
theorem zz_k5t_c {S K K1 S' K' c : Nat → Int32} {pg n r r0 x : Int} {s : Int32} (h1 : zz_ti5 S c K K1 pg s.toInt x r0) (h2 : zz_tr5 S K1 S' K' pg n s r) (hr0 : r0 = -1) (hx : x = 0) (hn : n = 1) (hs : s.toInt ≤ 32) : zz_k5t S K S' K' c pg s r := by
  subst hx
  subst hn
  obtain ⟨e, g⟩ := zz_ti5_K h1 hr0
  subst e
  exact Or.inr (Or.inr ⟨hs, g, h2⟩)

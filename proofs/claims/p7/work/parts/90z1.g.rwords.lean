/-! words of the reference's finds, all forms -/
theorem zz_sq_mk {w : Int} {o : Nat → Int32} {a e : Int} (h : zz_bk o a e) (ha : a ≤ e) (hw : e ≤ w) (he : w ≤ e ∨ ∃ i : Nat, (i : Int) = e ∧ (o i).toInt ≠ -1) : zz_sq w o a e := by
  refine ⟨ha, h, ?_, Or.inl hw⟩
  rcases he with c | ⟨i, i1, i2⟩
  · exact Or.inl c
  · right
    rw [show e.toNat = i by omega]
    exact i2
/-- the run that runFrom came to: all of it -/
def zz_fs (w : Int) (o : Nat → Int32) (p sz : Int) : Prop := p = -1 ∨ zz_sq w o p (p + sz)
theorem zz_fs_rf {w fr p sz : Int} {o : Nat → Int32} (h : zz_rf w o fr p sz) : zz_fs w o p sz := by
  rcases h with ⟨a, _⟩ | ⟨_, _, _, _, a⟩
  · exact Or.inl a
  · exact Or.inr a
theorem zz_fs_at {w p sz : Int} {o : Nat → Int32} (h : zz_fs w o p sz) (hp : 0 ≤ p) : zz_sq w o p (p + sz) := by
  rcases h with a | a
  · omega
  · exact a
theorem zz_bj_at {b : Prop} {w n best size p sz : Int} {o : Nat → Int32} (h : zz_bj b w o n best size p sz) (hp : 0 ≤ p) : zz_bi b w o n best size p ∧ zz_rn o w.toNat p.toNat sz.toNat := by
  rcases h with ⟨a, _⟩ | ⟨_, a, c⟩
  · omega
  · exact ⟨a, c⟩
theorem zz_bj_small {b : Prop} {w n best size p sz p' sz' a : Int} {o : Nat → Int32} (h : zz_bj b w o n best size p sz) (hf : zz_rf w o a p' sz') (ha : a = p + sz) (h0 : 0 ≤ p) (hz : 0 ≤ sz) (hp : -1 ≤ p') (hw : 0 ≤ w) (hs : sz < n) : zz_bj b w o n best size p' sz' := by
  obtain ⟨h1, h2⟩ := zz_bj_at h h0
  exact zz_bj_next (zz_bi_small (i := p.toNat) h1 h2 hz hs (by omega) rfl) h2 hf ha h0 hz hp hw
theorem zz_bj_keep {b : Prop} {w n best size p sz p' sz' a : Int} {o : Nat → Int32} (h : zz_bj b w o n best size p sz) (hf : zz_rf w o a p' sz') (ha : a = p + sz) (h0 : 0 ≤ p) (hz : 0 ≤ sz) (hp : -1 ≤ p') (hw : 0 ≤ w) (hb : 0 ≤ best) (hs : (b ∧ size ≤ sz) ∨ (¬ b ∧ sz ≤ size)) : zz_bj b w o n best size p' sz' := by
  obtain ⟨h1, h2⟩ := zz_bj_at h h0
  exact zz_bj_next (zz_bi_keep (i := p.toNat) h1 h2 hz hb hs (by omega) rfl) h2 hf ha h0 hz hp hw
theorem zz_bj_new {b : Prop} {w n best size p sz p' sz' a : Int} {o : Nat → Int32} (h : zz_bj b w o n best size p sz) (hf : zz_rf w o a p' sz') (ha : a = p + sz) (h0 : 0 ≤ p) (hz : 0 ≤ sz) (hp : -1 ≤ p') (hw : 0 ≤ w) (hn : n ≤ sz) (hs : best < 0 ∨ (b ∧ sz < size) ∨ (¬ b ∧ size < sz)) : zz_bj b w o n p sz p' sz' := by
  obtain ⟨h1, h2⟩ := zz_bj_at h h0
  exact zz_bj_next (zz_bi_new (i := p.toNat) h1 h2 hz hn hs (by omega) rfl) h2 hf ha h0 hz hp hw
-- form 6: bits of n grains
def zz_g6r (o : Nat → Int32) (w n r : Int) : Prop := ∃ pw st : Int, zz_lpw n pw ∧ ((pw ≤ 8 ∧ st = pw) ∨ (8 < pw ∧ st = 8)) ∧ zz_s4 (fun k => zz_bk o (4 * k) (4 * k + 4 * n)) st (w / 4 - n) 0 r
theorem zz_g6r_mk {o : Nat → Int32} {w n r pw st z g : Int} (h1 : zz_lpw n pw) (h2 : zz_s4 (fun k => zz_bk o (4 * k) (4 * k + 4 * n)) st (g - n) z r) (hg : g = w / 4) (hz : z = 0) (hs : (pw ≤ 8 ∧ st = pw) ∨ (8 < pw ∧ st = 8)) : zz_g6r o w n r := by
  subst hz
  subst hg
  exact ⟨pw, st, h1, hs, h2⟩
theorem zz_ifr_cg {o : Nat → Int32} {a e a' e' r : Int} (h : zz_ifr o a e r) (ha : a' = a) (he : e' = e) : zz_ifr o a' e' r := by rw [ha, he]; exact h
theorem zz_bits_y {o : Nat → Int32} {a e r k n : Int} (h : zz_ifr o a e r) (hr : r ≠ 0) (ha : a = 4 * k) (he : e = 4 * k + 4 * n) : zz_bk o (4 * k) (4 * k + 4 * n) := by
  subst ha
  subst he
  exact zz_ifr_1 h hr
theorem zz_bits_n {o : Nat → Int32} {a e r k n : Int} (h : zz_ifr o a e r) (hr : r = 0) (ha : a = 4 * k) (he : e = 4 * k + 4 * n) : ¬ zz_bk o (4 * k) (4 * k + 4 * n) := by
  subst ha
  subst he
  exact zz_ifr_0 h hr
-- form 4
def zz_t4r (g g' : Nat → Int32) (w s r : Int) : Prop := zz_smp g w s r ∧ ((r = -1 ∧ g' = g) ∨ (0 ≤ r ∧ zz_sr (upd g r.toNat 0) g' r (g r.toNat).toInt s))
theorem zz_t4r_n {g : Nat → Int32} {w s r q : Int} (h : zz_smp g w s q) (hq : q = -1) (hr : r = -1) : zz_t4r g g w s r := ⟨by rw [hr, ← hq]; exact h, Or.inl ⟨hr, rfl⟩⟩
theorem zz_t4r_y {g g' : Nat → Int32} {w s q : Int} {r : Int32} (h : zz_smp g w s r.toInt) (hs : zz_sr (upd g r.toNatClampNeg ((0 : Int32))) g' r.toInt (g r.toNatClampNeg).toInt s) (hq : q = r.toInt) (hr : 0 ≤ r.toInt) : zz_t4r g g' w s q := by
  subst hq
  exact ⟨h, Or.inr ⟨hr, hs⟩⟩
-- form 8: sink, from entry x on
def zz_sk8 (st top p x : Int) (kp kg kg' : Nat → Int32) (st' top' : Int) : Prop := (∀ k : Nat, x ≤ (k : Int) → (k : Int) < st → ((kp k).toInt = p ∧ (kg' k).toInt ≠ 0) ∨ ((kp k).toInt ≠ p ∧ kg' k = kg k)) ∧ (∀ k : Nat, (k : Int) < x ∨ st ≤ (k : Int) → kg' k = kg k) ∧ zz_po8 st top kp kg' st' top'
theorem zz_sk8_end {st top p x st' top' : Int} {kp kg : Nat → Int32} (h : zz_po8 st top kp kg st' top') (hx : st ≤ x) : zz_sk8 st top p x kp kg kg st' top' := ⟨fun k h1 h2 => by omega, fun _ _ => rfl, h⟩
theorem zz_sk8_y {st top p x x' st' top' : Int} {kp kg kg' : Nat → Int32} {j : Nat} {v : Int32} (h : zz_sk8 st top p x' kp (upd kg j v) kg' st' top') (hj : (j : Int) = x) (hx : x' = x + 1) (hp : (kp j).toInt = p) (hl : x < st) (hv : v.toInt ≠ 0) : zz_sk8 st top p x kp kg kg' st' top' := by
  obtain ⟨h1, h2, h3⟩ := h
  refine ⟨fun k k1 k2 => ?_, fun k hk => ?_, h3⟩
  · by_cases c : k = j
    · subst c
      have e := h2 k (Or.inl (by omega))
      rw [zz_updE, if_pos rfl] at e
      exact Or.inl ⟨hp, by rw [e]; exact hv⟩
    · have e := h1 k (by omega) k2
      rw [zz_updE, if_neg c] at e
      exact e
  · by_cases c : k = j
    · subst c
      exfalso
      omega
    · have e := h2 k (by omega)
      rw [zz_updE, if_neg c] at e
      exact e
theorem zz_sk8_n {st top p x x' st' top' : Int} {kp kg kg' : Nat → Int32} {j : Nat} (h : zz_sk8 st top p x' kp kg kg' st' top') (hj : (j : Int) = x) (hx : x' = x + 1) (hp : (kp j).toInt ≠ p) : zz_sk8 st top p x kp kg kg' st' top' := by
  obtain ⟨h1, h2, h3⟩ := h
  refine ⟨fun k k1 k2 => ?_, fun k hk => h2 k (by omega), h3⟩
  by_cases c : k = j
  · subst c
    exact Or.inr ⟨hp, h2 k (Or.inl (by omega))⟩
  · exact h1 k (by omega) k2
-- form 4: join
theorem zz_bd (p s : Int32) (hp : 0 ≤ p.toInt) (hs : zz_p2 s.toInt) (hps : p.toInt + s.toInt ≤ 1024) : ((p / s).toInt % 2 = 0 ∧ (zz_bud p.toInt.toNat s.toInt.toNat : Int) = p.toInt + s.toInt) ∨ ((p / s).toInt % 2 = 1 ∧ s.toInt ≤ p.toInt ∧ (zz_bud p.toInt.toNat s.toInt.toNat : Int) = p.toInt - s.toInt) := by
  unfold zz_bud
  rcases hs with h | h | h | h | h | h | h | h | h | h | h
  · have f := zz_divP p s 1 h (by decide) hp
    rw [h, show ((1 : Int)).toNat = 1 from rfl]; split <;> omega
  · have f := zz_divP p s 2 h (by decide) hp
    rw [h, show ((2 : Int)).toNat = 2 from rfl]; split <;> omega
  · have f := zz_divP p s 4 h (by decide) hp
    rw [h, show ((4 : Int)).toNat = 4 from rfl]; split <;> omega
  · have f := zz_divP p s 8 h (by decide) hp
    rw [h, show ((8 : Int)).toNat = 8 from rfl]; split <;> omega
  · have f := zz_divP p s 16 h (by decide) hp
    rw [h, show ((16 : Int)).toNat = 16 from rfl]; split <;> omega
  · have f := zz_divP p s 32 h (by decide) hp
    rw [h, show ((32 : Int)).toNat = 32 from rfl]; split <;> omega
  · have f := zz_divP p s 64 h (by decide) hp
    rw [h, show ((64 : Int)).toNat = 64 from rfl]; split <;> omega
  · have f := zz_divP p s 128 h (by decide) hp
    rw [h, show ((128 : Int)).toNat = 128 from rfl]; split <;> omega
  · have f := zz_divP p s 256 h (by decide) hp
    rw [h, show ((256 : Int)).toNat = 256 from rfl]; split <;> omega
  · have f := zz_divP p s 512 h (by decide) hp
    rw [h, show ((512 : Int)).toNat = 512 from rfl]; split <;> omega
  · have f := zz_divP p s 1024 h (by decide) hp
    rw [h, show ((1024 : Int)).toNat = 1024 from rfl]; split <;> omega
def zz_z4 (g : Nat → Int32) (W : Int) : Prop := ∀ x : Nat, W ≤ (x : Int) → (x : Int) < 1024 → (g x).toInt = 0
theorem zz_z4_upd {g : Nat → Int32} {W : Int} {i : Nat} {v : Int32} (h : zz_z4 g W) (hi : (i : Int) < W) : zz_z4 (upd g i v) W := fun x h1 h2 => by
  rw [zz_updE, if_neg (by omega)]
  exact h x h1 h2
theorem zz_z4_lt {g : Nat → Int32} {W : Int} {i : Nat} (h : zz_z4 g W) (hi : (g i).toInt ≠ 0) (h2 : (i : Int) < 1024) : (i : Int) < W := by
  by_cases c : (i : Int) < W
  · exact c
  · exact absurd (h i (by omega) h2) hi
def zz_kp4 (g g' : Nat → Int32) (W : Int) : Prop := ∀ x : Nat, W ≤ (x : Int) → g' x = g x
theorem zz_kp4_1 {g : Nat → Int32} {W : Int} {i : Nat} {v : Int32} (hi : (i : Int) < W) : zz_kp4 g (upd g i v) W := fun x hx => by rw [zz_updE, if_neg (by omega)]
theorem zz_kp4_s {g g' : Nat → Int32} {W : Int} {i : Nat} {v : Int32} (h : zz_kp4 (upd g i v) g' W) (hi : (i : Int) < W) : zz_kp4 g g' W := fun x hx => by rw [h x hx, zz_updE, if_neg (by omega)]
theorem zz_P4_p2 {f : Nat → Int32} {W : Int} {x : Int32} (h : zz_P4 f W) (h0 : 0 ≤ x.toInt) (h1 : x.toInt < W) (hn : (f x.toNatClampNeg).toInt ≠ 0) : zz_p2 (f x.toNatClampNeg).toInt := by
  have e := zz_tnI x h0
  exact ((h x.toNatClampNeg (by omega)).resolve_left hn).1
-- form 5: the reference's pages G
def zz_cl5 (G G' o : Nat → Int32) (pg s r : Int) : Prop := (0 ≤ r ∧ G' = G ∧ zz_tp5 G (fun y => zz_bk o y (y + s)) pg s 0 r) ∨ (zz_tp5 G (fun y => zz_bk o y (y + s)) pg s 0 (-1) ∧ ∃ q : Int, zz_fr5 G pg 1 q ∧ ((q = -1 ∧ r = -1 ∧ G' = G) ∨ (0 ≤ q ∧ r = 32 * q ∧ ∃ (i : Nat) (v : Int32), (i : Int) = q ∧ v.toInt = s ∧ G' = upd G i v)))
/-- the first free page from x on -/
def zz_ne5 (G G' : Nat → Int32) (pg x : Int) (s : Int32) (r : Int) : Prop := (r = -1 ∧ G' = G ∧ ∀ p : Nat, x ≤ (p : Int) → (p : Int) < pg → (G p).toInt ≠ 0) ∨ ∃ i : Nat, x ≤ (i : Int) ∧ (i : Int) < pg ∧ (G i).toInt = 0 ∧ r = 32 * (i : Int) ∧ G' = upd G i s ∧ ∀ p : Nat, x ≤ (p : Int) → p < i → (G p).toInt ≠ 0
theorem zz_ne5_end {G : Nat → Int32} {pg x r : Int} {s : Int32} (h : pg ≤ x) (hr : r = -1) : zz_ne5 G G pg x s r := Or.inl ⟨hr, rfl, fun p h1 h2 => by omega⟩
theorem zz_ne5_hit {G : Nat → Int32} {pg x r : Int} {s : Int32} {i : Nat} (hi : (i : Int) = x) (hx : x < pg) (hz : (G i).toInt = 0) (hr : r = 32 * x) : zz_ne5 G (upd G i s) pg x s r := Or.inr ⟨i, by omega, by omega, hz, by omega, rfl, fun p h1 h2 => by omega⟩
theorem zz_ne5_next {G G' : Nat → Int32} {pg x x' r : Int} {s : Int32} {i : Nat} (h : zz_ne5 G G' pg x' s r) (hi : (i : Int) = x) (hx : x' = x + 1) (hz : (G i).toInt ≠ 0) : zz_ne5 G G' pg x s r := by
  rcases h with ⟨a1, a2, a3⟩ | ⟨j, a1, a2, a3, a4, a5, a6⟩
  · exact Or.inl ⟨a1, a2, fun p h1 h2 => by
      by_cases c : p = i
      · rw [c]; exact hz
      · exact a3 p (by omega) h2⟩
  · exact Or.inr ⟨j, by omega, a2, a3, a4, a5, fun p h1 h2 => by
      by_cases c : p = i
      · rw [c]; exact hz
      · exact a6 p (by omega) h2⟩
theorem zz_ne5_fr {G G' : Nat → Int32} {pg x r : Int} {s : Int32} (h : zz_ne5 G G' pg x s r) (hx : x = 0) : ∃ q : Int, zz_fr5 G pg 1 q ∧ ((q = -1 ∧ r = -1 ∧ G' = G) ∨ (0 ≤ q ∧ r = 32 * q ∧ ∃ (i : Nat) (v : Int32), (i : Int) = q ∧ v.toInt = s.toInt ∧ G' = upd G i v)) := by
  subst hx
  rcases h with ⟨a1, a2, a3⟩ | ⟨j, a1, a2, a3, a4, a5, a6⟩
  · exact ⟨-1, Or.inl ⟨rfl, fun q h1 h2 z => a3 q.toNat (by omega) (by omega) (z q.toNat (by omega) (by omega))⟩, Or.inl ⟨rfl, a1, a2⟩⟩
  · refine ⟨(j : Int), Or.inr ⟨by omega, by omega, fun p h1 h2 => ?_, fun q h1 h2 z => a6 q.toNat (by omega) (by omega) (z q.toNat (by omega) (by omega))⟩, Or.inr ⟨by omega, a4, j, s, rfl, rfl, a5⟩⟩
    have e : p = j := by omega
    rw [e]; exact a3
/-- classes, from page x on; y the place in it -/
def zz_ca5 (G G' o : Nat → Int32) (pg : Int) (s : Int32) (x r : Int) : Prop := (0 ≤ r ∧ G' = G ∧ zz_tp5 G (fun y => zz_bk o y (y + s.toInt)) pg s.toInt x r) ∨ (zz_tp5 G (fun y => zz_bk o y (y + s.toInt)) pg s.toInt x (-1) ∧ zz_ne5 G G' pg 0 s r)
theorem zz_ca5_end {G G' o : Nat → Int32} {pg x r : Int} {s : Int32} {z : Int} (h : zz_ne5 G G' pg z s r) (hz : z = 0) (hx : pg ≤ x) : zz_ca5 G G' o pg s x r := by
  subst hz
  exact Or.inr ⟨zz_tp5_end hx rfl, h⟩
theorem zz_ca5_skip {G G' o : Nat → Int32} {pg x x' r : Int} {s : Int32} {i : Nat} (h : zz_ca5 G G' o pg s x' r) (hi : (i : Int) = x) (hx : x' = x + 1) (hc : (G i).toInt ≠ s.toInt ∨ zz_fp5 (fun y => zz_bk o y (y + s.toInt)) x s.toInt (-1)) : zz_ca5 G G' o pg s x r := by
  rcases h with ⟨a, b, c⟩ | ⟨a, b⟩
  · exact Or.inl ⟨a, b, zz_tp5_skip c hi hx hc⟩
  · exact Or.inr ⟨zz_tp5_skip a hi hx hc, b⟩

/-! form 6: rows of bits -/
def zz_lpw (n r : Int) : Prop := zz_p2 r ∧ n ≤ r ∧ (r = 1 ∨ r < 2 * n)
theorem zz_lpw_uq {n r s : Int} (h1 : zz_lpw n r) (h2 : zz_lpw n s) : r = s := by
  obtain ⟨a1, a2, a3⟩ := h1
  obtain ⟨b1, b2, b3⟩ := h2
  unfold zz_p2 at a1 b1
  rcases a1 with a1 | a1 | a1 | a1 | a1 | a1 | a1 | a1 | a1 | a1 | a1 <;> omega
/-- the first of k, k + st, k + 2 st .. up to lim at which F holds; r four times it, or -1 -/
def zz_s4 (F : Int → Prop) (st lim k r : Int) : Prop := (r = -1 ∧ ∀ j : Nat, k + st * (j : Int) ≤ lim → ¬ F (k + st * (j : Int))) ∨ ∃ j : Nat, k + st * (j : Int) ≤ lim ∧ r = 4 * (k + st * (j : Int)) ∧ F (k + st * (j : Int)) ∧ ∀ i : Nat, i < j → ¬ F (k + st * (i : Int))
theorem zz_s4_end {F : Int → Prop} {st lim k r : Int} (h : lim < k) (hs : 0 ≤ st) (hr : r = -1) : zz_s4 F st lim k r := Or.inl ⟨hr, fun j hj => by
  have : 0 ≤ st * (j : Int) := Int.mul_nonneg hs (by omega)
  omega⟩
theorem zz_s4_hit {F : Int → Prop} {st lim k r : Int} (h : k ≤ lim) (hF : F k) (hr : r = 4 * k) : zz_s4 F st lim k r := Or.inr ⟨0, by rw [show st * ((0 : Nat) : Int) = 0 from Int.mul_zero st]; omega, by rw [show st * ((0 : Nat) : Int) = 0 from Int.mul_zero st]; omega, by rw [show st * ((0 : Nat) : Int) = 0 from Int.mul_zero st, Int.add_zero]; exact hF, fun i hi => by omega⟩
theorem zz_s4_next {F : Int → Prop} {st lim k k' r : Int} (h : zz_s4 F st lim k' r) (hk : k' = k + st) (hF : ¬ F k) : zz_s4 F st lim k r := by
  have e : ∀ j : Nat, k + st * ((j + 1 : Nat) : Int) = k' + st * (j : Int) := fun j => by
    rw [show ((j + 1 : Nat) : Int) = (j : Int) + 1 by omega, Int.mul_add, Int.mul_one, hk]
    omega
  have z : k + st * ((0 : Nat) : Int) = k := by rw [show st * ((0 : Nat) : Int) = 0 from Int.mul_zero st, Int.add_zero]
  rcases h with ⟨h1, h2⟩ | ⟨j, h1, h2, h3, h4⟩
  · refine Or.inl ⟨h1, fun j hj => ?_⟩
    cases j with
    | zero => rw [z]; exact hF
    | succ j => rw [e] at hj ⊢; exact h2 j hj
  · refine Or.inr ⟨j + 1, by rw [e]; exact h1, by rw [e]; exact h2, by rw [e]; exact h3, fun i hi => ?_⟩
    cases i with
    | zero => rw [z]; exact hF
    | succ i => rw [e]; exact h4 i (by omega)
theorem zz_s4_uq {F F' : Int → Prop} {st lim r s : Int} (h1 : zz_s4 F st lim 0 r) (h2 : zz_s4 F' st lim 0 s) (hs : 0 ≤ st) (hF : ∀ k, 0 ≤ k → k ≤ lim → (F k ↔ F' k)) : r = s := by
  have nn : ∀ j : Nat, 0 ≤ 0 + st * (j : Int) := fun j => by
    have : 0 ≤ st * (j : Int) := Int.mul_nonneg hs (by omega)
    omega
  rcases h1 with ⟨a1, a2⟩ | ⟨j, a1, a2, a3, a4⟩
  · rcases h2 with ⟨b1, b2⟩ | ⟨i, b1, b2, b3, b4⟩
    · omega
    · exact absurd ((hF _ (nn i) b1).mpr b3) (a2 i b1)
  · rcases h2 with ⟨b1, b2⟩ | ⟨i, b1, b2, b3, b4⟩
    · exact absurd ((hF _ (nn j) a1).mp a3) (b2 j a1)
    · rcases Nat.lt_trichotomy i j with c | c | c
      · exact absurd ((hF _ (nn i) b1).mpr b3) (a4 i c)
      · subst c; omega
      · exact absurd ((hF _ (nn j) a1).mp a3) (b4 j c)
/-- the reference's isFree -/
def zz_ifr (o : Nat → Int32) (a e r : Int) : Prop := (r = 1 ∧ zz_bk o a e) ∨ (r = 0 ∧ ¬ zz_bk o a e)
theorem zz_ifr_y {o : Nat → Int32} {a e r q : Int} (h : zz_bk o a q) (hq : e ≤ q) (hr : r = 1) : zz_ifr o a e r := Or.inl ⟨hr, fun x h1 h2 => h x h1 (by omega)⟩
theorem zz_ifr_n {o : Nat → Int32} {a e r : Int} {i : Nat} (h1 : a ≤ (i : Int)) (h2 : (i : Int) < e) (ho : (o i).toInt ≠ -1) (hr : r = 0) : zz_ifr o a e r := Or.inr ⟨hr, fun z => ho (z i h1 h2)⟩
theorem zz_bk_up {o : Nat → Int32} {a q q' : Int} {i : Nat} (h : zz_bk o a q) (hi : (i : Int) = q) (ho : (o i).toInt = -1) (hq : q' = q + 1) : zz_bk o a q' := fun x h1 h2 => by
  by_cases c : x = i
  · rw [c]; exact ho
  · exact h x h1 (by omega)
theorem zz_ifr_1 {o : Nat → Int32} {a e r : Int} (h : zz_ifr o a e r) (hr : r ≠ 0) : zz_bk o a e := by
  rcases h with h | h
  · exact h.2
  · exact absurd h.1 hr
theorem zz_ifr_0 {o : Nat → Int32} {a e r : Int} (h : zz_ifr o a e r) (hr : r = 0) : ¬ zz_bk o a e := by
  rcases h with h | h
  · omega
  · exact h.2
/-- the class's areFree: the first words of n grains from g on -/
def zz_fg (c : Nat → Int32) (g n : Int) : Prop := ∀ j : Nat, g ≤ (j : Int) → (j : Int) < g + n → (c (4 * j)).toInt = -1
def zz_fgr (c : Nat → Int32) (g n r : Int) : Prop := (r = 1 ∧ zz_fg c g n) ∨ (r = 0 ∧ ¬ zz_fg c g n)
def zz_fgp (c : Nat → Int32) (g q : Int) : Prop := ∀ j : Nat, g ≤ (j : Int) → (j : Int) < q → (c (4 * j)).toInt = -1
theorem zz_fgp_0 {c : Nat → Int32} {g q : Int} (h : q ≤ g) : zz_fgp c g q := fun j h1 h2 => by omega
theorem zz_fgp_step {c : Nat → Int32} {g q q' : Int} {i : Nat} (h : zz_fgp c g q) (hi : (i : Int) = 4 * q) (ho : (c i).toInt = -1) (hq : q' = q + 1) : zz_fgp c g q' := fun j h1 h2 => by
  by_cases d : (j : Int) = q
  · rw [show 4 * j = i by omega]; exact ho
  · exact h j h1 (by omega)
theorem zz_fgr_y {c : Nat → Int32} {g n q r : Int} (h : zz_fgp c g q) (hq : g + n ≤ q) (hr : r = 1) : zz_fgr c g n r := Or.inl ⟨hr, fun j h1 h2 => h j h1 (by omega)⟩
theorem zz_fgr_n {c : Nat → Int32} {g n q r : Int} {i : Nat} (h1 : g ≤ q) (h2 : q < g + n) (h0 : 0 ≤ q) (hi : (i : Int) = 4 * q) (ho : (c i).toInt ≠ -1) (hr : r = 0) : zz_fgr c g n r := Or.inr ⟨hr, fun z => ho (by have := z q.toNat (by omega) (by omega); rw [show 4 * q.toNat = i by omega] at this; exact this)⟩
theorem zz_fgr_1 {c : Nat → Int32} {g n r : Int} (h : zz_fgr c g n r) (hr : r ≠ 0) : zz_fg c g n := by
  rcases h with h | h
  · exact h.2
  · exact absurd h.1 hr
theorem zz_fgr_0 {c : Nat → Int32} {g n r : Int} (h : zz_fgr c g n r) (hr : r = 0) : ¬ zz_fg c g n := by
  rcases h with h | h
  · omega
  · exact h.2
/-- grains are taken and free as a whole; blocks stand on them -/
def zz_F6 (w : Int) (o nu pl sp : Nat → Int32) : Prop := (∀ x : Nat, (x : Int) < 4 * (w / 4) → ((o x).toInt = -1 ↔ (o (4 * (x / 4))).toInt = -1)) ∧ ∀ b : Nat, b < 200 → zz_us w o nu pl b → (pl b).toInt % 4 = 0 ∧ (sp b).toInt % 4 = 0
theorem zz_F6_fg {w : Int} {c o nu pl sp : Nat → Int32} {k n : Int} (h : zz_F6 w o nu pl sp) (he : zz_fe2 w c o) (h0 : 0 ≤ k) (hk : k ≤ w / 4 - n) : zz_fg c k n ↔ zz_bk o (4 * k) (4 * k + 4 * n) := by
  constructor
  · intro z x h1 h2
    have e := (h.1 x (by omega)).mpr
    refine e ((he _ (by omega)).mp (z (x / 4) (by omega) (by omega)))
  · intro z j h1 h2
    exact (he _ (by omega)).mpr (z (4 * j) (by omega) (by omega))
theorem zz_us_gv {w : Int} {o nu pl sp as o' nu' pl' sp' as' : Nat → Int32} {G x s a : Int32} (hg : zz_gv w o nu pl sp as o' nu' pl' sp' as' G x s a) (hs : 1 ≤ s.toInt) (hx : 0 ≤ x.toInt) : ∀ b : Nat, b < 200 → zz_us w o' nu' pl' b → (pl' b = x ∧ sp' b = s) ∨ (zz_us w o nu pl b ∧ pl' b = pl b ∧ sp' b = sp b) := fun j hj hu => by
  obtain ⟨b, b0, b1, bu, e1, e2, e3, e4, hwr⟩ := hg
  subst e1
  subst e2
  subst e3
  have eb := zz_tnI b b0
  by_cases c : j = b.toNatClampNeg
  · exact Or.inl ⟨by rw [zz_updE, if_pos c], by rw [zz_updE, if_pos c]⟩
  · refine Or.inr ⟨?_, by rw [zz_updE, if_neg c], by rw [zz_updE, if_neg c]⟩
    obtain ⟨u1, u2, u3⟩ := hu
    rw [zz_updE, if_neg c] at u1 u2 u3
    refine ⟨u1, u2, ?_⟩
    rw [hwr (pl j).toNatClampNeg] at u3
    by_cases d : x.toInt ≤ ((pl j).toNatClampNeg : Int) ∧ ((pl j).toNatClampNeg : Int) < x.toInt + s.toInt
    · rw [if_pos d] at u3
      omega
    · rw [if_neg d] at u3
      exact u3
theorem zz_us_bk {w : Int} {o nu pl sp o' : Nat → Int32} {b : Nat} {q : Int32} (hO : zz_OW w o nu pl sp) (hb : b < 200) (ub : zz_us w o nu pl b) (hwr : zz_wr o o' (pl b).toInt ((pl b).toInt + (sp b).toInt) q) (hq : q.toInt < 0) : ∀ j : Nat, zz_us w o' (upd nu b 0) pl j → j ≠ b ∧ zz_us w o nu pl j := fun j hj => by
  have jb : j ≠ b := fun c => by
    have := hj.1
    rw [c, zz_updE, if_pos rfl] at this
    exact absurd this (by decide)
  have k1 := hj.1
  rw [zz_updE, if_neg jb] at k1
  refine ⟨jb, k1, hj.2.1, ?_⟩
  have k3 := hj.2.2
  rw [hwr (pl j).toNatClampNeg] at k3
  by_cases c : (pl b).toInt ≤ ((pl j).toNatClampNeg : Int) ∧ ((pl j).toNatClampNeg : Int) < (pl b).toInt + (sp b).toInt
  · rw [if_pos c] at k3
    omega
  · rw [if_neg c] at k3
    exact k3
theorem zz_F6_give {w : Int} {o nu pl sp as o' nu' pl' sp' as' : Nat → Int32} {G x s a : Int32} (h : zz_F6 w o nu pl sp) (hg : zz_gv w o nu pl sp as o' nu' pl' sp' as' G x s a) (hx : 0 ≤ x.toInt) (hs : 1 ≤ s.toInt) (h4 : x.toInt % 4 = 0) (hs4 : s.toInt % 4 = 0) : zz_F6 w o' nu' pl' sp' := by
  have us := zz_us_gv hg hs hx
  obtain ⟨b, b0, b1, bu, e1, e2, e3, e4, hwr⟩ := hg
  refine ⟨fun y hy => ?_, fun j hj hu => ?_⟩
  · rw [hwr y, hwr (4 * (y / 4))]
    by_cases c : x.toInt ≤ (y : Int) ∧ (y : Int) < x.toInt + s.toInt
    · rw [if_pos c, if_pos (by omega)]
    · rw [if_neg c, if_neg (by omega)]
      exact h.1 y hy
  · rcases us j hj hu with ⟨c1, c2⟩ | ⟨c1, c2, c3⟩
    · rw [c1, c2]; exact ⟨h4, hs4⟩
    · rw [c2, c3]; exact h.2 j hj c1
theorem zz_F6_back {w : Int} {o nu pl sp o' : Nat → Int32} {b : Nat} {q : Int32} (h : zz_F6 w o nu pl sp) (hO : zz_OW w o nu pl sp) (hb : b < 200) (ub : zz_us w o nu pl b) (hwr : zz_wr o o' (pl b).toInt ((pl b).toInt + (sp b).toInt) q) (hq : q.toInt < 0) : zz_F6 w o' (upd nu b 0) pl sp := by
  have us := zz_us_bk hO hb ub hwr hq
  have k := h.2 b hb ub
  refine ⟨fun y hy => ?_, fun j hj hu => h.2 j hj (us j hu).2⟩
  rw [hwr y, hwr (4 * (y / 4))]
  by_cases c : (pl b).toInt ≤ (y : Int) ∧ (y : Int) < (pl b).toInt + (sp b).toInt
  · rw [if_pos c, if_pos (by omega)]
  · rw [if_neg c, if_neg (by omega)]
    exact h.1 y hy

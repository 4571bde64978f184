/-! form 4: halves of two -/
theorem zz_p2_half {q h : Int} (hq : zz_p2 q) (hh : zz_p2 h) (h1 : q ≤ h) (h2 : h < 2 * q) : q = h := by
  unfold zz_p2 at hq hh
  rcases hq with hq | hq | hq | hq | hq | hq | hq | hq | hq | hq | hq <;> omega
theorem zz_p2_div {h : Int} (hh : zz_p2 h) (h1 : 2 ≤ h) : zz_p2 (h / 2) ∧ 2 * (h / 2) = h := by
  unfold zz_p2 at hh ⊢
  rcases hh with hh | hh | hh | hh | hh | hh | hh | hh | hh | hh | hh <;> omega
theorem zz_p2_le {q h : Int} (hq : zz_p2 q) (hh : zz_p2 h) (h1 : q < h) : 2 * q ≤ h := by
  unfold zz_p2 at hq hh
  rcases hq with hq | hq | hq | hq | hq | hq | hq | hq | hq | hq | hq <;> omega
/-- the greatest power of two that is n or less -/
def zz_gpw (n r : Int) : Prop := zz_p2 r ∧ r ≤ n ∧ n < 2 * r
theorem zz_gpw_uq {n r s : Int} (h1 : zz_gpw n r) (h2 : zz_gpw n s) : r = s := by
  rcases Int.lt_trichotomy r s with c | c | c
  · have := zz_p2_le h1.1 h2.1 c
    have := h1.2.2
    have := h2.2.1
    omega
  · exact c
  · have := zz_p2_le h2.1 h1.1 c
    have := h2.2.2
    have := h1.2.1
    omega
-- the least piece with s words
def zz_smp (f : Nat → Int32) (W s r : Int) : Prop := (r = -1 ∧ ∀ x : Nat, (x : Int) < W → (f x).toInt < s) ∨ (0 ≤ r ∧ r < W ∧ s ≤ (f r.toNat).toInt ∧ ∀ x : Nat, (x : Int) < W → s ≤ (f x).toInt → (f r.toNat).toInt ≤ (f x).toInt ∧ ((f x).toInt = (f r.toNat).toInt → r ≤ (x : Int)))
theorem zz_smp_0 {f : Nat → Int32} {W s r : Int} (hW : W ≤ 0) (hr : r = -1) : zz_smp f W s r := Or.inl ⟨hr, fun x hx => by omega⟩
theorem zz_smp_keep {f : Nat → Int32} {W W' s : Int} {r : Int32} {i : Nat} (h : zz_smp f W s r.toInt) (hi : (i : Int) = W) (hW : W' = W + 1) (hk : (f i).toInt < s ∨ (0 ≤ r.toInt ∧ (f r.toNatClampNeg).toInt ≤ (f i).toInt)) : zz_smp f W' s r.toInt := by
  rcases h with ⟨h1, h2⟩ | ⟨h1, h2, h3, h4⟩
  · refine Or.inl ⟨h1, fun x hx => ?_⟩
    by_cases c : x = i
    · rw [c]; omega
    · exact h2 x (by omega)
  · refine Or.inr ⟨h1, by omega, h3, fun x hx hs => ?_⟩
    by_cases c : x = i
    · rw [c] at hs ⊢
      have hk : (f r.toInt.toNat).toInt ≤ (f i).toInt := by
        rcases hk with hk | hk
        · omega
        · exact hk.2
      exact ⟨hk, fun _ => by omega⟩
    · exact h4 x (by omega) hs
theorem zz_smp_new {f : Nat → Int32} {W W' s : Int} {r q : Int32} {i : Nat} (h : zz_smp f W s r.toInt) (hi : (i : Int) = W) (hW : W' = W + 1) (hs : s ≤ (f i).toInt) (hn : r.toInt = -1 ∨ (f i).toInt < (f r.toNatClampNeg).toInt) (hq : q.toInt = W) : zz_smp f W' s q.toInt := by
  refine Or.inr ⟨by omega, by omega, by rw [show q.toInt.toNat = i by omega]; exact hs, fun x hx hxs => ?_⟩
  rw [show q.toInt.toNat = i by omega]
  by_cases c : x = i
  · rw [c]; exact ⟨Int.le_refl _, fun _ => by omega⟩
  · rcases h with ⟨h1, h2⟩ | ⟨h1, h2, h3, h4⟩
    · have := h2 x (by omega)
      omega
    · have d := h4 x (by omega) hxs
      have hn : (f i).toInt < (f r.toInt.toNat).toInt := by
        rcases hn with hn | hn
        · omega
        · exact hn
      exact ⟨by omega, fun z => by omega⟩
theorem zz_smp_uq {f g : Nat → Int32} {W s r q : Int} (h1 : zz_smp f W s r) (h2 : zz_smp g W s q) (he : ∀ x : Nat, (x : Int) < W → (f x).toInt = (g x).toInt) : r = q := by
  rcases h1 with ⟨a1, a2⟩ | ⟨a1, a2, a3, a4⟩
  · rcases h2 with ⟨b1, b2⟩ | ⟨b1, b2, b3, b4⟩
    · omega
    · have := a2 q.toNat (by omega)
      rw [he q.toNat (by omega)] at this
      omega
  · rcases h2 with ⟨b1, b2⟩ | ⟨b1, b2, b3, b4⟩
    · have := b2 r.toNat (by omega)
      rw [← he r.toNat (by omega)] at this
      omega
    · have e1 := he r.toNat (by omega)
      have e2 := he q.toNat (by omega)
      have d1 := a4 q.toNat (by omega) (by omega)
      have d2 := b4 r.toNat (by omega) (by omega)
      have : r ≤ ((q.toNat : Nat) : Int) := d1.2 (by omega)
      have : q ≤ ((r.toNat : Nat) : Int) := d2.2 (by omega)
      omega
/-- beyond W all is 0: it makes no difference how far is looked -/
theorem zz_smp_ext {f : Nat → Int32} {W V s r : Int} (h : zz_smp f V s r) (hV : W ≤ V) (hz : ∀ x : Nat, W ≤ (x : Int) → (x : Int) < V → (f x).toInt = 0) (hs : 1 ≤ s) : zz_smp f W s r := by
  rcases h with ⟨h1, h2⟩ | ⟨h1, h2, h3, h4⟩
  · exact Or.inl ⟨h1, fun x hx => h2 x (by omega)⟩
  · refine Or.inr ⟨h1, ?_, h3, fun x hx => h4 x (by omega)⟩
    refine Int.not_le.mp fun z => ?_
    have := hz r.toNat (by omega) (by omega)
    omega
-- splitting: at p + q a piece of q words, for all powers q from s to h
def zz_shv (f f' : Nat → Int32) (p h s : Int) : Prop := ∀ x : Nat, ((x : Int) = p ∧ (f' x).toInt = 0) ∨ ((x : Int) ≠ p ∧ ∃ q, zz_p2 q ∧ s ≤ q ∧ q ≤ h ∧ (x : Int) = p + q ∧ (f' x).toInt = q) ∨ ((x : Int) ≠ p ∧ (∀ q, zz_p2 q → s ≤ q → q ≤ h → (x : Int) ≠ p + q) ∧ f' x = f x)
theorem zz_shv_end {f : Nat → Int32} {p h s : Int} {i : Nat} {v : Int32} (hi : (i : Int) = p) (hv : v.toInt = 0) (hh : h < s) : zz_shv f (upd f i v) p h s := fun x => by
  rw [zz_updE]
  by_cases c : x = i
  · rw [if_pos c]; exact Or.inl ⟨by omega, hv⟩
  · rw [if_neg c]; exact Or.inr (Or.inr ⟨by omega, fun q _ h1 h2 => by omega, rfl⟩)
theorem zz_shv_step {f f' : Nat → Int32} {p h h' s : Int} {i : Nat} {v : Int32} (hS : zz_shv (upd f i v) f' p h' s) (hh : zz_p2 h) (hs : s ≤ h) (hh' : h' = h / 2) (hi : (i : Int) = p + h) (hv : v.toInt = h) : zz_shv f f' p h s := fun x => by
  have hpos : 1 ≤ h := by unfold zz_p2 at hh; omega
  have g := hS x
  rw [zz_updE] at g
  rcases g with g | ⟨g1, q, g2, g3, g4, g5, g6⟩ | ⟨g1, g2, g3⟩
  · exact Or.inl g
  · exact Or.inr (Or.inl ⟨g1, q, g2, g3, by omega, g5, g6⟩)
  · by_cases c : x = i
    · rw [if_pos c] at g3
      exact Or.inr (Or.inl ⟨g1, h, hh, hs, Int.le_refl _, by omega, by rw [g3]; exact hv⟩)
    · rw [if_neg c] at g3
      refine Or.inr (Or.inr ⟨g1, fun q q1 q2 q3 q4 => ?_, g3⟩)
      by_cases d : q ≤ h'
      · exact g2 q q1 q2 d q4
      · have := zz_p2_half q1 hh q3 (by omega)
        omega
/-- the reference's: the piece at p is 0 already, size the words that are left to halve -/
def zz_sr (f f' : Nat → Int32) (p z s : Int) : Prop := ∀ x : Nat, (∃ q, zz_p2 q ∧ s ≤ q ∧ 2 * q ≤ z ∧ (x : Int) = p + q ∧ (f' x).toInt = q) ∨ ((∀ q, zz_p2 q → s ≤ q → 2 * q ≤ z → (x : Int) ≠ p + q) ∧ f' x = f x)
theorem zz_sr_end {f : Nat → Int32} {p z s : Int} (hz : z ≤ s) (hs : 1 ≤ s) : zz_sr f f p z s := fun x => Or.inr ⟨fun q _ h1 h2 => by omega, rfl⟩
theorem zz_sr_step {f f' : Nat → Int32} {p z z' s : Int} {i : Nat} {v : Int32} (h : zz_sr (upd f i v) f' p z' s) (hz : zz_p2 z) (hs : zz_p2 s) (hsz : s < z) (hz' : z' = z / 2) (hi : (i : Int) = p + z') (hv : v.toInt = z') : zz_sr f f' p z s := fun x => by
  have d := zz_p2_div hz (by unfold zz_p2 at hs; omega)
  have sl := zz_p2_le hs hz hsz
  have g := h x
  rw [zz_updE] at g
  rcases g with ⟨q, g2, g3, g4, g5, g6⟩ | ⟨g2, g3⟩
  · have qp : 1 ≤ q := by unfold zz_p2 at g2; omega
    exact Or.inl ⟨q, g2, g3, by omega, g5, g6⟩
  · by_cases c : x = i
    · rw [if_pos c] at g3
      exact Or.inl ⟨z', by rw [hz']; exact d.1, by omega, by omega, by omega, by rw [g3]; exact hv⟩
    · rw [if_neg c] at g3
      refine Or.inr ⟨fun q q1 q2 q3 q4 => ?_, g3⟩
      by_cases e : 2 * q ≤ z'
      · exact g2 q q1 q2 e q4
      · have := zz_p2_half q1 (h := z') (by rw [hz']; exact d.1) (by omega) (by omega)
        omega
-- joining
def zz_bud (p s : Nat) : Nat := if p / s % 2 = 0 then p + s else p - s
def zz_ja (W : Nat) : Nat → (Nat → Int) → Nat → Nat → Nat → Int
  | 0, A, p, s => fun x => if x = p then (s : Int) else A x
  | k + 1, A, p, s => if s < W ∧ zz_bud p s < W ∧ A (zz_bud p s) = (s : Int) then zz_ja W k (fun x => if x = zz_bud p s then 0 else A x) (min p (zz_bud p s)) (2 * s) else fun x => if x = p then (s : Int) else A x
theorem zz_ja_cg {W : Nat} : ∀ (k : Nat) (A B : Nat → Int) (p s : Nat), (∀ x, x < W → A x = B x) → ∀ x, x < W → zz_ja W k A p s x = zz_ja W k B p s x
  | 0, A, B, p, s, h, x, hx => by
    show (if x = p then (s : Int) else A x) = if x = p then (s : Int) else B x
    rw [h x hx]
  | k + 1, A, B, p, s, h, x, hx => by
    by_cases c : s < W ∧ zz_bud p s < W ∧ A (zz_bud p s) = (s : Int)
    · have c' : s < W ∧ zz_bud p s < W ∧ B (zz_bud p s) = (s : Int) := ⟨c.1, c.2.1, by rw [← h _ c.2.1]; exact c.2.2⟩
      show (if _ then _ else _ : Nat → Int) x = (if _ then _ else _ : Nat → Int) x
      rw [if_pos c, if_pos c']
      exact zz_ja_cg k _ _ _ _ (fun y hy => by
        show (if y = zz_bud p s then (0 : Int) else A y) = if y = zz_bud p s then (0 : Int) else B y
        rw [h y hy]) x hx
    · have c' : ¬ (s < W ∧ zz_bud p s < W ∧ B (zz_bud p s) = (s : Int)) := fun z => c ⟨z.1, z.2.1, by rw [h _ z.2.1]; exact z.2.2⟩
      show (if _ then _ else _ : Nat → Int) x = (if _ then _ else _ : Nat → Int) x
      rw [if_neg c, if_neg c']
      show (if x = p then (s : Int) else A x) = if x = p then (s : Int) else B x
      rw [h x hx]
/-- f' is f with the block p, s joined to its buddies (as far as W words) -/
def zz_jr (W : Int) (f f' : Nat → Int32) (p s : Int) : Prop := ∀ k : Nat, W ≤ s * ((2 ^ k : Nat) : Int) → ∀ x : Nat, (x : Int) < W → (f' x).toInt = zz_ja W.toNat k (fun y => (f y).toInt) p.toNat s.toNat x
theorem zz_jr_stop {W p s : Int} {f : Nat → Int32} {i : Nat} {v : Int32} (hi : (i : Int) = p) (hv : v.toInt = s) (hs : 1 ≤ s) (hc : W ≤ s ∨ ∃ j : Nat, (j : Int) = (zz_bud p.toNat s.toNat : Int) ∧ (W ≤ (j : Int) ∨ (f j).toInt ≠ s)) : zz_jr W f (upd f i v) p s := fun k _ x hx => by
  have e : ((upd f i v) x).toInt = if x = p.toNat then ((s.toNat : Nat) : Int) else (f x).toInt := by
    rw [zz_updE]
    by_cases c : x = i
    · rw [if_pos c, if_pos (by omega)]; omega
    · rw [if_neg c, if_neg (by omega)]
  rw [e]
  cases k with
  | zero => rfl
  | succ k =>
    have hn : ¬ (s.toNat < W.toNat ∧ zz_bud p.toNat s.toNat < W.toNat ∧ (fun y => (f y).toInt) (zz_bud p.toNat s.toNat) = ((s.toNat : Nat) : Int)) := by
      rintro ⟨z1, z2, z3⟩
      rcases hc with hc | ⟨j, j1, j2⟩
      · omega
      · have ej : zz_bud p.toNat s.toNat = j := by omega
        rw [ej] at z2 z3
        have z3 : (f j).toInt = ((s.toNat : Nat) : Int) := z3
        rcases j2 with j2 | j2 <;> omega
    show _ = (if _ then _ else _ : Nat → Int) x
    first | (rw [if_neg hn]; done) | (rw [if_neg hn]; rfl) | (simp only [if_neg hn])
theorem zz_jr_step {W p p' s s' : Int} {f f' : Nat → Int32} {j : Nat} {v : Int32} (h : zz_jr W (upd f j v) f' p' s') (hv : v.toInt = 0) (hs : 1 ≤ s) (hs' : s' = 2 * s) (hW : s < W) (hj : (j : Int) = (zz_bud p.toNat s.toNat : Int)) (hjW : (j : Int) < W) (hf : (f j).toInt = s) (hp : 0 ≤ p) (hp' : p' = min p (j : Int)) : zz_jr W f f' p s := fun k hk x hx => by
  cases k with
  | zero =>
    exfalso
    rw [show ((2 ^ 0 : Nat) : Int) = 1 from rfl] at hk
    omega
  | succ k =>
    have ej : zz_bud p.toNat s.toNat = j := by omega
    have g := h k (by
      rw [hs', Int.mul_assoc, Int.mul_left_comm]
      rw [show ((2 ^ (k + 1) : Nat) : Int) = 2 * ((2 ^ k : Nat) : Int) by rw [Nat.pow_succ]; omega] at hk
      exact hk) x hx
    rw [g]
    show _ = (if _ then _ else _ : Nat → Int) x
    rw [if_pos ⟨by omega, by rw [ej]; omega, by rw [ej]; show (f j).toInt = _; omega⟩, ej, show s'.toNat = 2 * s.toNat by omega, show p'.toNat = min p.toNat j by omega]
    congr 1
    funext y
    show ((upd f j v) y).toInt = if y = j then (0 : Int) else (f y).toInt
    rw [zz_updE]
    by_cases c : y = j
    · rw [if_pos c, if_pos c]; exact hv
    · rw [if_neg c, if_neg c]
/-- pieces: powers of two inside W, apart from one another, of free words -/
def zz_PI (W : Nat) (o : Nat → Int32) (A : Nat → Int) : Prop := (∀ x, x < W → A x = 0 ∨ (zz_p2 (A x) ∧ (x : Int) + A x ≤ (W : Int) ∧ ∀ y : Nat, (x : Int) ≤ (y : Int) → (y : Int) < (x : Int) + A x → (o y).toInt = -1)) ∧ ∀ x y, x < y → y < W → A x ≠ 0 → A y ≠ 0 → (x : Int) + A x ≤ (y : Int)
theorem zz_p2_pos {v : Int} (h : zz_p2 v) : 1 ≤ v ∧ v ≤ 1024 := by unfold zz_p2 at h; omega
/-- a free region that no piece touches may become a piece -/
theorem zz_PI_put {W : Nat} {o : Nat → Int32} {A : Nat → Int} {p s : Nat} (h : zz_PI W o A) (hs : zz_p2 (s : Int)) (hW : p + s ≤ W) (hf : ∀ y : Nat, p ≤ y → y < p + s → (o y).toInt = -1) (hd : ∀ x, x < W → A x ≠ 0 → (x : Int) + A x ≤ (p : Int) ∨ p + s ≤ x) : zz_PI W o (fun x => if x = p then (s : Int) else A x) := by
  have s1 := zz_p2_pos hs
  refine ⟨fun x hx => ?_, fun x y hxy hy hx0 hy0 => ?_⟩
  · show (if x = p then (s : Int) else A x) = 0 ∨ _
    by_cases c : x = p
    · right
      show zz_p2 (if x = p then (s : Int) else A x) ∧ (x : Int) + (if x = p then (s : Int) else A x) ≤ (W : Int) ∧ ∀ y : Nat, (x : Int) ≤ (y : Int) → (y : Int) < (x : Int) + (if x = p then (s : Int) else A x) → (o y).toInt = -1
      rw [if_pos c]
      exact ⟨hs, by omega, fun y h1 h2 => hf y (by omega) (by omega)⟩
    · show _ ∨ (zz_p2 (if x = p then (s : Int) else A x) ∧ (x : Int) + (if x = p then (s : Int) else A x) ≤ (W : Int) ∧ ∀ y : Nat, (x : Int) ≤ (y : Int) → (y : Int) < (x : Int) + (if x = p then (s : Int) else A x) → (o y).toInt = -1)
      rw [if_neg c]
      exact h.1 x hx
  · have hx0 : (if x = p then (s : Int) else A x) ≠ 0 := hx0
    have hy0 : (if y = p then (s : Int) else A y) ≠ 0 := hy0
    show (x : Int) + (if x = p then (s : Int) else A x) ≤ (y : Int)
    by_cases c : x = p
    · rw [if_pos c]
      rw [if_neg (by omega)] at hy0
      have e := h.1 y hy
      rcases e with e | e
      · exact absurd e hy0
      · have := zz_p2_pos e.1
        rcases hd y hy hy0 with d | d <;> omega
    · rw [if_neg c] at hx0 ⊢
      by_cases c2 : y = p
      · have e := h.1 x (by omega)
        rcases e with e | e
        · exact absurd e hx0
        · have := zz_p2_pos e.1
          rcases hd x (by omega) hx0 with d | d <;> omega
      · rw [if_neg c2] at hy0
        exact h.2 x y hxy hy hx0 hy0
theorem zz_ja_PI {W : Nat} {o : Nat → Int32} (hW2 : zz_p2 (W : Int)) : ∀ (k : Nat) (A : Nat → Int) (p s : Nat), zz_PI W o A → zz_p2 (s : Int) → p + s ≤ W → (∀ y : Nat, p ≤ y → y < p + s → (o y).toInt = -1) → (∀ x, x < W → A x ≠ 0 → (x : Int) + A x ≤ (p : Int) ∨ p + s ≤ x) → zz_PI W o (zz_ja W k A p s)
  | 0, A, p, s, h, hs, hW, hf, hd => zz_PI_put h hs hW hf hd
  | k + 1, A, p, s, h, hs, hW, hf, hd => by
    have s1 := zz_p2_pos hs
    by_cases c : s < W ∧ zz_bud p s < W ∧ A (zz_bud p s) = (s : Int)
    · show zz_PI W o (if _ then _ else _ : Nat → Int)
      rw [if_pos c]
      obtain ⟨c1, c2, c3⟩ := c
      have bf := (h.1 _ c2).resolve_left (by omega)
      rw [c3] at bf
      have adj : zz_bud p s = p + s ∨ (zz_bud p s = p - s ∧ s ≤ p) := by
        unfold zz_bud
        by_cases e : p / s % 2 = 0
        · rw [if_pos e]; exact Or.inl rfl
        · rw [if_neg e]
          refine Or.inr ⟨rfl, ?_⟩
          refine Nat.le_of_not_lt fun z => e ?_
          rw [Nat.div_eq_of_lt z]
      have m2 : zz_p2 ((2 * s : Nat) : Int) := by
        have := zz_p2_le hs hW2 (by omega)
        have hh := zz_p2_pos hW2
        have := hs
        unfold zz_p2 at this ⊢
        omega
      have ap : ∀ x, x < W → x ≠ zz_bud p s → A x ≠ 0 → (x : Int) + A x ≤ (zz_bud p s : Int) ∨ (zz_bud p s + s : Nat) ≤ x := fun x hx hne h0 => by
        rcases Nat.lt_or_gt_of_ne hne with d | d
        · exact Or.inl (h.2 x _ d c2 h0 (by omega))
        · have := h.2 _ x d hx (by omega) h0
          exact Or.inr (by omega)
      refine zz_ja_PI hW2 k _ _ _ ⟨fun x hx => ?_, fun x y hxy hy hx0 hy0 => ?_⟩ m2 ?_ (fun y h1 h2 => ?_) (fun x hx h0 => ?_)
      · by_cases d : x = zz_bud p s
        · left
          show (if x = zz_bud p s then (0 : Int) else A x) = 0
          rw [if_pos d]
        · show (if x = zz_bud p s then (0 : Int) else A x) = 0 ∨ (zz_p2 (if x = zz_bud p s then (0 : Int) else A x) ∧ (x : Int) + (if x = zz_bud p s then (0 : Int) else A x) ≤ (W : Int) ∧ ∀ y : Nat, (x : Int) ≤ (y : Int) → (y : Int) < (x : Int) + (if x = zz_bud p s then (0 : Int) else A x) → (o y).toInt = -1)
          rw [if_neg d]
          exact h.1 x hx
      · have hx0 : (if x = zz_bud p s then (0 : Int) else A x) ≠ 0 := hx0
        have hy0 : (if y = zz_bud p s then (0 : Int) else A y) ≠ 0 := hy0
        have dx : x ≠ zz_bud p s := fun e => hx0 (by rw [if_pos e])
        have dy : y ≠ zz_bud p s := fun e => hy0 (by rw [if_pos e])
        rw [if_neg dx] at hx0
        rw [if_neg dy] at hy0
        show (x : Int) + (if x = zz_bud p s then (0 : Int) else A x) ≤ (y : Int)
        rw [if_neg dx]
        exact h.2 x y hxy hy hx0 hy0
      · rcases adj with e | ⟨e, e2⟩
        · rw [e] at bf ⊢; omega
        · rw [e]; omega
      · rcases adj with e | ⟨e, e2⟩
        · by_cases d : y < p + s
          · exact hf y (by omega) d
          · exact bf.2.2 y (by omega) (by omega)
        · by_cases d : y < p
          · exact bf.2.2 y (by omega) (by omega)
          · exact hf y (by omega) (by omega)
      · have h0 : (if x = zz_bud p s then (0 : Int) else A x) ≠ 0 := h0
        have dx : x ≠ zz_bud p s := fun e => h0 (by rw [if_pos e])
        rw [if_neg dx] at h0
        show (x : Int) + (if x = zz_bud p s then (0 : Int) else A x) ≤ _ ∨ _
        rw [if_neg dx]
        have k1 := hd x hx h0
        have k2 := ap x hx dx h0
        have ax := (h.1 x hx).resolve_left h0
        have a1 := zz_p2_pos ax.1
        rcases adj with e | ⟨e, e2⟩
        · rw [e] at k2 ⊢
          omega
        · rw [e] at k2 ⊢
          omega
    · show zz_PI W o (if _ then _ else _ : Nat → Int)
      rw [if_neg c]
      exact zz_PI_put h hs hW hf hd
/-- form 4: the class's pieces f, the reference's g -/
def zz_F4 (w W : Int) (f g o nu pl sp : Nat → Int32) : Prop := zz_gpw w W ∧ (∀ x : Nat, (x : Int) < W → (f x).toInt = (g x).toInt) ∧ (∀ x : Nat, W ≤ (x : Int) → (x : Int) < 1024 → (g x).toInt = 0) ∧ zz_PI W.toNat o (fun x => (g x).toInt) ∧ ∀ b : Nat, b < 200 → zz_us w o nu pl b → zz_p2 (sp b).toInt ∧ (pl b).toInt + (sp b).toInt ≤ W
theorem zz_F4_give {w W : Int} {f g f' g1 g' o nu pl sp as o' nu' pl' sp' as' : Nat → Int32} {G x s a v0 : Int32} (h : zz_F4 w W f g o nu pl sp) (hw : 16 ≤ w) (hw2 : w ≤ 1024) (hg : zz_gv w o nu pl sp as o' nu' pl' sp' as' G x s a) (hx : 0 ≤ x.toInt) (hxW : x.toInt < W) (hs : zz_p2 s.toInt) (hsx : s.toInt ≤ (g x.toNatClampNeg).toInt) (hc : zz_shv f f' x.toInt ((f x.toNatClampNeg).toInt / 2) s.toInt) (hg1 : g1 = upd g x.toNatClampNeg v0) (hv0 : v0.toInt = 0) (hr : zz_sr g1 g' x.toInt (g x.toNatClampNeg).toInt s.toInt) : zz_F4 w W f' g' o' nu' pl' sp' := by
  obtain ⟨a1, a2, a3, a4, a5⟩ := h
  have us := zz_us_gv hg (by have := zz_p2_pos hs; omega) hx
  obtain ⟨b, b0, b1, bu, e1, e2, e3, e4, hwr⟩ := hg
  have ex := zz_tnI x hx
  have s1 := zz_p2_pos hs
  have W1 := zz_p2_pos a1.1
  obtain ⟨z1, z2, z3⟩ := (a4.1 x.toNatClampNeg (by omega)).resolve_left (show (g x.toNatClampNeg).toInt ≠ 0 by omega)
  have z1 : zz_p2 (g x.toNatClampNeg).toInt := z1
  have z2 : ((x.toNatClampNeg : Nat) : Int) + (g x.toNatClampNeg).toInt ≤ ((W.toNat : Nat) : Int) := z2
  have fx := a2 x.toNatClampNeg (by omega)
  -- one description of both
  have gd : ∀ y : Nat, ((y : Int) = x.toInt ∧ (g' y).toInt = 0) ∨ ((y : Int) ≠ x.toInt ∧ ∃ q, zz_p2 q ∧ s.toInt ≤ q ∧ 2 * q ≤ (g x.toNatClampNeg).toInt ∧ (y : Int) = x.toInt + q ∧ (g' y).toInt = q) ∨ ((y : Int) ≠ x.toInt ∧ (∀ q, zz_p2 q → s.toInt ≤ q → 2 * q ≤ (g x.toNatClampNeg).toInt → (y : Int) ≠ x.toInt + q) ∧ g' y = g y) := fun y => by
    have r := hr y
    rcases r with ⟨q, r1, r2, r3, r4, r5⟩ | ⟨r1, r2⟩
    · have := zz_p2_pos r1
      exact Or.inr (Or.inl ⟨by omega, q, r1, r2, r3, r4, r5⟩)
    · rw [hg1, zz_updE] at r2
      by_cases c : y = x.toNatClampNeg
      · rw [if_pos c] at r2
        exact Or.inl ⟨by omega, by rw [r2]; exact hv0⟩
      · rw [if_neg c] at r2
        exact Or.inr (Or.inr ⟨by omega, r1, r2⟩)
  have sep : ∀ y : Nat, (y : Int) < W → (g y).toInt ≠ 0 → (y : Int) ≠ x.toInt → (y : Int) + (g y).toInt ≤ x.toInt ∨ x.toInt + (g x.toNatClampNeg).toInt ≤ (y : Int) := fun y hy h0 hne => by
    rcases Nat.lt_or_gt_of_ne (show y ≠ x.toNatClampNeg by omega) with c | c
    · have := a4.2 y _ c (by omega) h0 (show (g x.toNatClampNeg).toInt ≠ 0 by omega)
      have : ((y : Nat) : Int) + (g y).toInt ≤ ((x.toNatClampNeg : Nat) : Int) := this
      omega
    · have := a4.2 _ y c (by omega) (show (g x.toNatClampNeg).toInt ≠ 0 by omega) h0
      have : ((x.toNatClampNeg : Nat) : Int) + (g x.toNatClampNeg).toInt ≤ (y : Int) := this
      omega
  refine ⟨a1, fun y hy => ?_, fun y h1 h2 => ?_, ⟨fun y hy => ?_, fun y z hyz hz h1 h2 => ?_⟩, fun j hj hu => ?_⟩
  · rcases gd y with ⟨d1, d2⟩ | ⟨d1, q, d2, d3, d4, d5, d6⟩ | ⟨d1, d2, d3⟩
    · rcases hc y with ⟨k1, k2⟩ | ⟨k1, _⟩ | ⟨k1, _⟩
      · omega
      · omega
      · omega
    · rcases hc y with ⟨k1, k2⟩ | ⟨k1, q', k2, k3, k4, k5, k6⟩ | ⟨k1, k2, k3⟩
      · omega
      · omega
      · exact absurd d5 (k2 q d2 d3 (by omega))
    · rcases hc y with ⟨k1, k2⟩ | ⟨k1, q', k2, k3, k4, k5, k6⟩ | ⟨k1, k2, k3⟩
      · omega
      · exact absurd k5 (d2 q' k2 k3 (by omega))
      · rw [k3, d3]; exact a2 y hy
  · rcases gd y with ⟨d1, d2⟩ | ⟨d1, q, d2, d3, d4, d5, d6⟩ | ⟨d1, d2, d3⟩
    · omega
    · have := zz_p2_pos d2
      omega
    · rw [d3]; exact a3 y h1 h2
  · show (g' y).toInt = 0 ∨ (zz_p2 (g' y).toInt ∧ (y : Int) + (g' y).toInt ≤ ((W.toNat : Nat) : Int) ∧ ∀ u : Nat, (y : Int) ≤ (u : Int) → (u : Int) < (y : Int) + (g' y).toInt → (o' u).toInt = -1)
    rcases gd y with ⟨d1, d2⟩ | ⟨d1, q, d2, d3, d4, d5, d6⟩ | ⟨d1, d2, d3⟩
    · exact Or.inl d2
    · right
      have := zz_p2_pos d2
      rw [d6]
      refine ⟨d2, by omega, fun u u1 u2 => ?_⟩
      rw [hwr u, if_neg (by omega)]
      exact z3 u (by omega) (by show (u : Int) < ((x.toNatClampNeg : Nat) : Int) + (g x.toNatClampNeg).toInt; omega)
    · rw [d3]
      by_cases c : (g y).toInt = 0
      · exact Or.inl c
      · right
        obtain ⟨k1, k2, k3⟩ := (a4.1 y hy).resolve_left c
        have k1 : zz_p2 (g y).toInt := k1
        have p1 := zz_p2_pos k1
        refine ⟨k1, k2, fun u u1 u2 => ?_⟩
        have sp := sep y (by omega) c d1
        rw [hwr u, if_neg (by omega)]
        exact k3 u u1 u2
  · have h1 : (g' y).toInt ≠ 0 := h1
    have h2 : (g' z).toInt ≠ 0 := h2
    show (y : Int) + (g' y).toInt ≤ (z : Int)
    have zlt : (z : Int) < W := by omega
    rcases gd y with ⟨d1, d2⟩ | ⟨d1, q, d2, d3, d4, d5, d6⟩ | ⟨d1, d2, d3⟩
    · exact absurd d2 h1
    · have qp := zz_p2_pos d2
      rcases gd z with ⟨k1, k2⟩ | ⟨k1, q', k2, k3, k4, k5, k6⟩ | ⟨k1, k2, k3⟩
      · exact absurd k2 h2
      · have := zz_p2_le d2 k2 (by omega)
        omega
      · rw [k3] at h2
        have sp := sep z zlt h2 k1
        have zp : 1 ≤ (g z).toInt := (zz_p2_pos ((a4.1 z hz).resolve_left h2).1).1
        omega
    · rw [d3] at h1 ⊢
      rcases gd z with ⟨k1, k2⟩ | ⟨k1, q', k2, k3, k4, k5, k6⟩ | ⟨k1, k2, k3⟩
      · exact absurd k2 h2
      · have qp := zz_p2_pos k2
        have sp := sep y (by omega) h1 d1
        omega
      · rw [k3] at h2
        exact a4.2 y z hyz hz h1 h2
  · rcases us j hj hu with ⟨c1, c2⟩ | ⟨c1, c2, c3⟩
    · rw [c1, c2]
      exact ⟨hs, by omega⟩
    · rw [c2, c3]; exact a5 j hj c1
theorem zz_F4_back {w W : Int} {f g f' g' o nu pl sp o' : Nat → Int32} {b : Nat} {q : Int32} (h : zz_F4 w W f g o nu pl sp) (hw : 16 ≤ w) (hw2 : w ≤ 1024) (hO : zz_OW w o nu pl sp) (hb : b < 200) (ub : zz_us w o nu pl b) (hwr : zz_wr o o' (pl b).toInt ((pl b).toInt + (sp b).toInt) q) (hq : q.toInt = -1) (hc : zz_jr W f f' (pl b).toInt (sp b).toInt) (hr : zz_jr W g g' (pl b).toInt (sp b).toInt) (hz : ∀ x : Nat, W ≤ (x : Int) → g' x = g x) : zz_F4 w W f' g' o' (upd nu b 0) pl sp := by
  obtain ⟨a1, a2, a3, a4, a5⟩ := h
  obtain ⟨p1, p2, p3, p4⟩ := hO.2 b hb ub
  obtain ⟨s1, s2⟩ := a5 b hb ub
  have W1 := zz_p2_pos a1.1
  have sp1 := zz_p2_pos s1
  have k10 : W ≤ (sp b).toInt * ((2 ^ 10 : Nat) : Int) := by
    rw [show ((2 ^ 10 : Nat) : Int) = 1024 from rfl]
    omega
  have fr : ∀ y : Nat, (o y).toInt = -1 → (o' y).toInt = -1 := fun y hy => by
    rw [hwr y]
    by_cases c : (pl b).toInt ≤ (y : Int) ∧ (y : Int) < (pl b).toInt + (sp b).toInt
    · rw [if_pos c]; exact hq
    · rw [if_neg c]; exact hy
  have PI' : zz_PI W.toNat o' (fun x => (g x).toInt) := ⟨fun x hx => by
    rcases a4.1 x hx with c | ⟨c1, c2, c3⟩
    · exact Or.inl c
    · exact Or.inr ⟨c1, c2, fun y h1 h2 => fr y (c3 y h1 h2)⟩, a4.2⟩
  have J := zz_ja_PI (W := W.toNat) (o := o') (by rw [show ((W.toNat : Nat) : Int) = W by omega]; exact a1.1) 10 (fun x => (g x).toInt) (pl b).toInt.toNat (sp b).toInt.toNat PI' (by rw [show (((sp b).toInt.toNat : Nat) : Int) = (sp b).toInt by omega]; exact s1) (by omega) (fun y h1 h2 => by rw [hwr y, if_pos (by omega)]; exact hq) (fun x hx h0 => by
    have h0 : (g x).toInt ≠ 0 := h0
    show (x : Int) + (g x).toInt ≤ _ ∨ _
    obtain ⟨c1, c2, c3⟩ := (a4.1 x hx).resolve_left h0
    have c1 : zz_p2 (g x).toInt := c1
    have c2 : (x : Int) + (g x).toInt ≤ ((W.toNat : Nat) : Int) := c2
    have g1 := zz_p2_pos c1
    by_cases d : (x : Int) + (g x).toInt ≤ (pl b).toInt
    · exact Or.inl (by omega)
    · by_cases e : (pl b).toInt + (sp b).toInt ≤ (x : Int)
      · exact Or.inr (by omega)
      · exfalso
        by_cases k : (pl b).toInt ≤ (x : Int)
        · have u1 := p4 x k (by omega)
          have u2 := c3 x (Int.le_refl _) (by show (x : Int) < (x : Int) + (g x).toInt; omega)
          omega
        · have u1 := p4 (pl b).toInt.toNat (by omega) (by omega)
          have u2 := c3 (pl b).toInt.toNat (by omega) (by show (((pl b).toInt.toNat : Nat) : Int) < (x : Int) + (g x).toInt; omega)
          omega)
  have ge : ∀ x : Nat, x < W.toNat → (g' x).toInt = zz_ja W.toNat 10 (fun y => (g y).toInt) (pl b).toInt.toNat (sp b).toInt.toNat x := fun x hx => hr 10 k10 x (by omega)
  refine ⟨a1, fun x hx => ?_, fun x h1 h2 => by rw [hz x h1]; exact a3 x h1 h2, ⟨fun x hx => ?_, fun x y hxy hy h1 h2 => ?_⟩, fun j hj hu => a5 j hj (zz_us_bk hO hb ub hwr (by omega) j hu).2⟩
  · rw [hc 10 k10 x hx, ge x (by omega)]
    exact zz_ja_cg 10 _ _ _ _ (fun y hy => a2 y (by omega)) x (by omega)
  · show (g' x).toInt = 0 ∨ (zz_p2 (g' x).toInt ∧ (x : Int) + (g' x).toInt ≤ ((W.toNat : Nat) : Int) ∧ ∀ y : Nat, (x : Int) ≤ (y : Int) → (y : Int) < (x : Int) + (g' x).toInt → (o' y).toInt = -1)
    rw [ge x hx]
    exact J.1 x hx
  · have h1 : (g' x).toInt ≠ 0 := h1
    have h2 : (g' y).toInt ≠ 0 := h2
    show (x : Int) + (g' x).toInt ≤ (y : Int)
    rw [ge x (by omega)] at h1 ⊢
    rw [ge y hy] at h2
    exact J.2 x y hxy hy h1 h2

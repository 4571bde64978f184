/-! form 9: quick rows -/
/-- words that were quick (or free) may have become free, no other changed -/
def zz_er2 (o o' : Nat → Int32) : Prop := ∀ x : Nat, o' x = o x ∨ (((o x).toInt = -2 ∨ (o x).toInt = -1) ∧ (o' x).toInt = -1)
theorem zz_er2_rf (o : Nat → Int32) : zz_er2 o o := fun _ => Or.inl rfl
theorem zz_er2_step {o o' : Nat → Int32} {i : Nat} {v : Int32} (h : zz_er2 (upd o i v) o') (hv : v.toInt = -1) (hi : (o i).toInt = -2 ∨ (o i).toInt = -1) : zz_er2 o o' := fun x => by
  have g := h x
  rw [zz_updE] at g
  by_cases c : x = i
  · rw [if_pos c] at g
    refine Or.inr ⟨by rw [c]; exact hi, ?_⟩
    rcases g with g | g
    · rw [g]; exact hv
    · exact g.2
  · rw [if_neg c] at g
    exact g
/-- all words of the quick ones in the reference's rows are quick, or free already -/
def zz_Q9 (o qk qm : Nat → Int32) (s : Int) : Prop := ∀ s' k' y : Nat, s ≤ (s' : Int) → 1 ≤ s' → s' ≤ 8 → (k' : Int) < (qm s').toInt → (qk (1024 * s' + k')).toInt ≤ (y : Int) → (y : Int) < (qk (1024 * s' + k')).toInt + (s' : Int) → (o y).toInt = -2 ∨ (o y).toInt = -1
theorem zz_Q9_upd {o qk qm : Nat → Int32} {s : Int} {i : Nat} {v : Int32} (h : zz_Q9 o qk qm s) (hv : v.toInt = -1) : zz_Q9 (upd o i v) qk qm s := fun s' k' y h0 h1 h2 h3 h4 h5 => by
  rw [zz_updE]
  by_cases c : y = i
  · rw [if_pos c]; exact Or.inr hv
  · rw [if_neg c]; exact h s' k' y h0 h1 h2 h3 h4 h5
theorem zz_Q9_next {o qk qm qm' : Nat → Int32} {s s' : Int} (h : zz_Q9 o qk qm s) (hs : s < s') (hm : ∀ j : Nat, s < (j : Int) → qm' j = qm j) : zz_Q9 o qk qm' s' := fun a k' y h0 h1 h2 h3 h4 h5 => h a k' y (by omega) h1 h2 (by rw [← hm a (by omega)]; exact h3) h4 h5
/-- what emptyQuick makes free from row s, entry k, word x on -/
def zz_E9 (o o' qk qm : Nat → Int32) (s k x : Int) : Prop := zz_er2 o o' ∧ ∀ s' k' y : Nat, 1 ≤ s' → s' ≤ 8 → (k' : Int) < (qm s').toInt → (qk (1024 * s' + k')).toInt ≤ (y : Int) → (y : Int) < (qk (1024 * s' + k')).toInt + (s' : Int) → (s < (s' : Int) ∨ ((s' : Int) = s ∧ (k < (k' : Int) ∨ ((k' : Int) = k ∧ (qk (1024 * s' + k')).toInt + x ≤ (y : Int))))) → (o' y).toInt = -1
theorem zz_E9_end {o qk qm : Nat → Int32} {s k x : Int} (hs : 9 ≤ s) : zz_E9 o o qk qm s k x := ⟨zz_er2_rf o, fun s' k' y h1 h2 _ _ _ h => by omega⟩
/-- the row is done: on to the next -/
theorem zz_E9_row {o o' qk qm qm' : Nat → Int32} {s s' k x : Int} (h : zz_E9 o o' qk qm' s' 0 0) (hs : s' = s + 1) (h0 : 0 ≤ s) (hk : (qm s.toNat).toInt ≤ k) (hm : ∀ j : Nat, (j : Int) ≠ s → qm' j = qm j) : zz_E9 o o' qk qm s k x := ⟨h.1, fun a k' y h1 h2 h3 h4 h5 h6 => by
  have hk' : (a : Int) = s → (k' : Int) < k := fun e => by rw [show s.toNat = a by omega] at hk; omega
  have as : s < (a : Int) := by
    rcases h6 with c | ⟨c, d⟩
    · exact c
    · have := hk' c
      rcases d with d | ⟨d, _⟩ <;> omega
  refine h.2 a k' y h1 h2 (by rw [hm a (by omega)]; exact h3) h4 h5 ?_
  by_cases c : s' < (a : Int)
  · exact Or.inl c
  · refine Or.inr ⟨by omega, ?_⟩
    by_cases d : 0 < (k' : Int)
    · exact Or.inl d
    · exact Or.inr ⟨by omega, by omega⟩⟩
/-- the entry is done: on to the next -/
theorem zz_E9_ent {o o' qk qm : Nat → Int32} {s k k' x : Int} (h : zz_E9 o o' qk qm s k' 0) (hk : k' = k + 1) (hx : s ≤ x) : zz_E9 o o' qk qm s k x := ⟨h.1, fun a b y h1 h2 h3 h4 h5 h6 => by
  refine h.2 a b y h1 h2 h3 h4 h5 ?_
  rcases h6 with c | ⟨c, d⟩
  · exact Or.inl c
  · refine Or.inr ⟨c, ?_⟩
    rcases d with d | ⟨d, e⟩
    · by_cases g : k' < (b : Int)
      · exact Or.inl g
      · exact Or.inr ⟨by omega, by omega⟩
    · omega⟩
/-- one word -/
theorem zz_E9_word {o o' qk qm : Nat → Int32} {s k x x' : Int} {i j : Nat} {v : Int32} (h : zz_E9 (upd o i v) o' qk qm s k x') (hx : x' = x + 1) (hv : v.toInt = -1) (hi : (i : Int) = (qk j).toInt + x) (hj : (j : Int) = 1024 * s + k) (ho : (o i).toInt = -2 ∨ (o i).toInt = -1) (h0 : 0 ≤ s) (hk : 0 ≤ k) : zz_E9 o o' qk qm s k x := ⟨zz_er2_step h.1 hv ho, fun a b y h1 h2 h3 h4 h5 h6 => by
  by_cases c : y = i ∧ (a : Int) = s ∧ (b : Int) = k
  · have g := h.1 i
    rw [zz_updE, if_pos rfl] at g
    rw [c.1]
    rcases g with g | g
    · rw [g]; exact hv
    · exact g.2
  · refine h.2 a b y h1 h2 h3 h4 h5 ?_
    rcases h6 with d | ⟨d, e⟩
    · exact Or.inl d
    · refine Or.inr ⟨d, ?_⟩
      rcases e with e | ⟨e, f⟩
      · exact Or.inl e
      · refine Or.inr ⟨e, ?_⟩
        have ej : 1024 * a + b = j := by omega
        rw [ej] at f ⊢
        by_cases g : y = i
        · exact absurd ⟨g, d, e⟩ c
        · omega⟩
theorem zz_E9_ini {o o' qk qm : Nat → Int32} {s : Int} (h : zz_E9 o o' qk qm s 0 0) (hs : s = 1) : zz_er2 o o' ∧ ∀ s' k' y : Nat, 1 ≤ s' → s' ≤ 8 → (k' : Int) < (qm s').toInt → (qk (1024 * s' + k')).toInt ≤ (y : Int) → (y : Int) < (qk (1024 * s' + k')).toInt + (s' : Int) → (o' y).toInt = -1 := ⟨h.1, fun a b y h1 h2 h3 h4 h5 => by
  refine h.2 a b y h1 h2 h3 h4 h5 ?_
  by_cases c : s < (a : Int)
  · exact Or.inl c
  · refine Or.inr ⟨by omega, ?_⟩
    by_cases d : 0 < (b : Int)
    · exact Or.inl d
    · exact Or.inr ⟨by omega, by omega⟩⟩
/-- the class's rows emptied: c' is c with the words of X's entries free -/
def zz_W9 (c c' : Nat → Int32) (X : List (Nat × Nat)) : Prop := ∀ y : Nat, ((∃ x ∈ X, x.1 ≤ y ∧ y < x.1 + x.2) ∧ (c' y).toInt = -1) ∨ ((¬ ∃ x ∈ X, x.1 ≤ y ∧ y < x.1 + x.2) ∧ c' y = c y)
/-- on the way: entries i .. n - 1 are still to come -/
def zz_W9p (c c' : Nat → Int32) (qp qw : Nat → Int32) (i n : Int) : Prop := zz_W9 c c' (zz_sg qp qw i.toNat (n - i).toNat)
theorem zz_W9p_end {c qp qw : Nat → Int32} {i n : Int} (h : n ≤ i) : zz_W9p c c qp qw i n := fun y => by
  refine Or.inr ⟨?_, rfl⟩
  rw [show (n - i).toNat = 0 by omega]
  rintro ⟨x, hx, _⟩
  exact absurd hx (List.not_mem_nil)
theorem zz_sg_low (pc wc : Nat → Int32) (a : Nat) : ∀ k, zz_sg pc wc a (k + 1) = zz_sg pc wc (a + 1) k ++ [((pc a).toNatClampNeg, (wc a).toNatClampNeg)] := fun k => by
  have := zz_sg_app pc wc a 1 k
  rw [show k + 1 = 1 + k by omega, this, zz_sg_s]
  rfl
theorem zz_W9p_step {c c1 c' qp qw : Nat → Int32} {i i' n p s : Int} {j : Nat} {v : Int32} (h : zz_W9p c1 c' qp qw i' n) (hw : zz_wr c c1 p (p + s) v) (hv : v.toInt = -1) (hj : (j : Int) = i) (hi : i' = i + 1) (hn : i < n) (hp : p = (qp j).toInt) (hs : s = (qw j).toInt) (hp0 : 0 ≤ p) (hs0 : 0 ≤ s) : zz_W9p c c' qp qw i n := fun y => by
  have e : zz_sg qp qw i.toNat (n - i).toNat = zz_sg qp qw i'.toNat (n - i').toNat ++ [((qp j).toNatClampNeg, (qw j).toNatClampNeg)] := by
    rw [show (n - i).toNat = (n - i').toNat + 1 by omega, zz_sg_low, show i.toNat + 1 = i'.toNat by omega, show i.toNat = j by omega]
  have g := h y
  rw [e]
  have ep := zz_tn (qp j)
  have es := zz_tn (qw j)
  rcases g with ⟨⟨x, x1, x2⟩, g2⟩ | ⟨g1, g2⟩
  · exact Or.inl ⟨⟨x, List.mem_append.mpr (Or.inl x1), x2⟩, g2⟩
  · rw [hw y] at g2
    by_cases d : p ≤ (y : Int) ∧ (y : Int) < p + s
    · rw [if_pos d] at g2
      refine Or.inl ⟨⟨_, List.mem_append.mpr (Or.inr (List.mem_singleton.mpr rfl)), ?_⟩, by rw [g2]; exact hv⟩
      show (qp j).toNatClampNeg ≤ y ∧ y < (qp j).toNatClampNeg + (qw j).toNatClampNeg
      omega
    · rw [if_neg d] at g2
      refine Or.inr ⟨?_, g2⟩
      rintro ⟨x, x1, x2⟩
      rcases List.mem_append.mp x1 with x1 | x1
      · exact g1 ⟨x, x1, x2⟩
      · rw [List.mem_singleton] at x1
        rw [x1] at x2
        have x2 : (qp j).toNatClampNeg ≤ y ∧ y < (qp j).toNatClampNeg + (qw j).toNatClampNeg := x2
        omega
/-- quick ones: X in their order, newest first -/
def zz_F9 (w : Int) (o qk qm : Nat → Int32) (X : List (Nat × Nat)) : Prop := zz_RX (fun v => v) 9 qk qm X ∧ (∀ x ∈ X, 1 ≤ x.2 ∧ x.2 ≤ 8 ∧ ((x.1 + x.2 : Nat) : Int) ≤ w ∧ ∀ y : Nat, x.1 ≤ y → y < x.1 + x.2 → (o y).toInt = -2) ∧ (X.map Prod.fst).Nodup ∧ (∀ x ∈ X, ∀ y ∈ X, x.1 < y.1 → x.1 + x.2 ≤ y.1) ∧ ∀ y : Nat, (y : Int) < w → (o y).toInt = -2 → ∃ x ∈ X, x.1 ≤ y ∧ y < x.1 + x.2
/-- an entry of the reference's row s is one of X -/
theorem zz_RX_ent {κ : Nat → Nat} {N : Nat} {li lm : Nat → Int32} {X : List (Nat × Nat)} {l k : Nat} (h : zz_RX κ N li lm X) (hl : l < N) (hk : k < (lm l).toNatClampNeg) : ∃ v, (X.filter (fun y => κ y.2 == l))[k]? = some ((li (1024 * l + k)).toNatClampNeg, v) ∧ ((li (1024 * l + k)).toNatClampNeg, v) ∈ X ∧ κ v = l := by
  have g := zz_rw_get li (lm l).toNatClampNeg (1024 * l) k hk
  rw [h l hl, List.getElem?_map] at g
  obtain ⟨y, hy, e⟩ := Option.map_eq_some_iff.mp g
  obtain ⟨m1, m2⟩ := List.mem_filter.mp (List.mem_of_getElem? hy)
  have m2 : κ y.2 = l := eq_of_beq m2
  have ey : y = ((li (1024 * l + k)).toNatClampNeg, y.2) := by rw [← e]
  rw [ey] at hy m1
  exact ⟨y.2, hy, m1, m2⟩
theorem zz_F9_Q {w : Int} {o qk qm : Nat → Int32} {X : List (Nat × Nat)} {s : Int} (h : zz_F9 w o qk qm X) (hq : ∀ j : Nat, j < 9216 → 0 ≤ (qk j).toInt) (hm : ∀ j : Nat, j < 9 → (qm j).toInt ≤ 1000) : zz_Q9 o qk qm s := fun s' k' y _ h1 h2 h3 h4 h5 => by
  have em := zz_tn (qm s')
  have := hm s' (by omega)
  obtain ⟨v, _, m1, m2⟩ := zz_RX_ent (l := s') (k := k') h.1 (by omega) (by omega)
  have m2 : v = s' := m2
  have e0 := hq (1024 * s' + k') (by omega)
  have e1 := zz_tn (qk (1024 * s' + k'))
  exact Or.inl ((h.2.1 _ m1).2.2.2 y (by show (qk (1024 * s' + k')).toNatClampNeg ≤ y; omega) (by show y < (qk (1024 * s' + k')).toNatClampNeg + v; omega))
/-- the quick one that a give takes -/
theorem zz_F9_hd {w : Int} {o qk qm : Nat → Int32} {X : List (Nat × Nat)} {n : Nat} (h : zz_F9 w o qk qm X) (hn : n < 9) : (0 < (qm n).toInt ∧ X.find? (fun x => x.2 == n) = some ((qk (1024 * n)).toNatClampNeg, n)) ∨ ((qm n).toInt ≤ 0 ∧ X.find? (fun x => x.2 == n) = none) := by
  have em := zz_tn (qm n)
  have R := h.1 n hn
  by_cases c : 0 < (qm n).toInt
  · obtain ⟨v, g1, g2, g3⟩ := zz_RX_ent (l := n) (k := 0) h.1 hn (by omega)
    refine Or.inl ⟨c, ?_⟩
    rw [← List.head?_filter, List.head?_eq_getElem?, g1]
    have g3 : v = n := g3
    rw [g3, Nat.add_zero]
  · refine Or.inr ⟨by omega, ?_⟩
    rw [show (qm n).toNatClampNeg = 0 by omega] at R
    have R2 : X.filter (fun x => x.2 == n) = [] := List.map_eq_nil_iff.mp R.symm
    rw [← List.head?_filter, R2]
    rfl
theorem zz_F9_big {w : Int} {o qk qm : Nat → Int32} {X : List (Nat × Nat)} {n : Nat} (h : zz_F9 w o qk qm X) (hn : 8 < n) : X.find? (fun x => x.2 == n) = none := by
  rw [List.find?_eq_none]
  intro x hx c
  have := (h.2.1 x hx).2.1
  have := eq_of_beq c
  omega
/-- taken: the entry goes, its words come to a block -/
theorem zz_F9_take {w : Int} {o o' qk qm qk' qm' : Nat → Int32} {X : List (Nat × Nat)} {p n : Nat} {b : Int32} (h : zz_F9 w o qk qm X) (hx : (p, n) ∈ X) (hR : zz_RX (fun v => v) 9 qk' qm' (X.filter (fun x => x.1 != p))) (hw : zz_wr o o' (p : Int) ((p : Int) + (n : Int)) b) (hb : 0 ≤ b.toInt) : zz_F9 w o' qk' qm' (X.filter (fun x => x.1 != p)) := by
  obtain ⟨a1, a2, a3, a4, a5⟩ := h
  have mem : ∀ x, x ∈ X.filter (fun x => x.1 != p) ↔ x ∈ X ∧ x.1 ≠ p := fun x => by rw [List.mem_filter]; simp
  have dis : ∀ x ∈ X, x.1 ≠ p → ∀ y : Nat, x.1 ≤ y → y < x.1 + x.2 → ¬ (p ≤ y ∧ y < p + n) := fun x h1 h2 y y1 y2 z => by
    rcases Nat.lt_or_gt_of_ne h2 with c | c
    · have := a4 x h1 (p, n) hx c
      have : x.1 + x.2 ≤ p := this
      omega
    · have := a4 (p, n) hx x h1 c
      have : p + n ≤ x.1 := this
      omega
  refine ⟨hR, fun x h1 => ?_, List.Sublist.nodup (List.Sublist.map _ List.filter_sublist) a3, fun x h1 y h2 => a4 x ((mem x).mp h1).1 y ((mem y).mp h2).1, fun y hy h2 => ?_⟩
  · obtain ⟨m1, m2⟩ := (mem x).mp h1
    obtain ⟨c1, c2, c3, c4⟩ := a2 x m1
    refine ⟨c1, c2, c3, fun y y1 y2 => ?_⟩
    rw [hw y, if_neg (fun z => dis x m1 m2 y y1 y2 (by omega))]
    exact c4 y y1 y2
  · rw [hw y] at h2
    by_cases c : (p : Int) ≤ (y : Int) ∧ (y : Int) < (p : Int) + (n : Int)
    · rw [if_pos c] at h2; omega
    · rw [if_neg c] at h2
      obtain ⟨x, x1, x2, x3⟩ := a5 y hy h2
      refine ⟨x, (mem x).mpr ⟨x1, fun e => c ?_⟩, x2, x3⟩
      have ex := zz_nd_uq a3 x1 hx e
      rw [ex] at x2 x3
      have x2 : p ≤ y := x2
      have x3 : y < p + n := x3
      omega
/-- a block comes to free words: quick ones stay as they are -/
theorem zz_F9_put {w : Int} {o o' qk qm : Nat → Int32} {X : List (Nat × Nat)} {p n : Int} {b : Int32} (h : zz_F9 w o qk qm X) (hw : zz_wr o o' p (p + n) b) (hf : ∀ y : Nat, p ≤ (y : Int) → (y : Int) < p + n → (o y).toInt ≠ -2) (hb : b.toInt ≠ -2) : zz_F9 w o' qk qm X := by
  obtain ⟨a1, a2, a3, a4, a5⟩ := h
  refine ⟨a1, fun x h1 => ?_, a3, a4, fun y hy h2 => ?_⟩
  · obtain ⟨c1, c2, c3, c4⟩ := a2 x h1
    refine ⟨c1, c2, c3, fun y y1 y2 => ?_⟩
    have := c4 y y1 y2
    rw [hw y, if_neg (fun z => hf y z.1 z.2 this)]
    exact this
  · rw [hw y] at h2
    by_cases c : p ≤ (y : Int) ∧ (y : Int) < p + n
    · rw [if_pos c] at h2; exact absurd h2 hb
    · rw [if_neg c] at h2
      exact a5 y hy h2
/-- a block goes, and becomes quick -/
theorem zz_F9_push {w : Int} {o o' qk qm qk' qm' : Nat → Int32} {X : List (Nat × Nat)} {p n : Nat} {q : Int32} (h : zz_F9 w o qk qm X) (hw : zz_wr o o' (p : Int) ((p : Int) + (n : Int)) q) (hq : q.toInt = -2) (hb : ∀ y : Nat, p ≤ y → y < p + n → 0 ≤ (o y).toInt) (h1 : 1 ≤ n) (h8 : n ≤ 8) (hp : ((p + n : Nat) : Int) ≤ w) (hR : zz_RX (fun v => v) 9 qk' qm' ((p, n) :: X)) : zz_F9 w o' qk' qm' ((p, n) :: X) := by
  obtain ⟨a1, a2, a3, a4, a5⟩ := h
  have dis : ∀ x ∈ X, ∀ y : Nat, x.1 ≤ y → y < x.1 + x.2 → ¬ (p ≤ y ∧ y < p + n) := fun x hx y y1 y2 z => by
    have e1 := (a2 x hx).2.2.2 y y1 y2
    have e2 := hb y z.1 z.2
    omega
  have pos : ∀ x ∈ X, x.1 + x.2 ≤ p ∨ p + n ≤ x.1 := fun x hx => by
    have e1 := (a2 x hx).1
    by_cases c : x.1 ≤ p
    · by_cases d : p < x.1 + x.2
      · exact (dis x hx p c d ⟨Nat.le_refl _, by omega⟩).elim
      · exact Or.inl (by omega)
    · by_cases d : x.1 < p + n
      · exact (dis x hx x.1 (Nat.le_refl _) (by omega) ⟨by omega, d⟩).elim
      · exact Or.inr (by omega)
  refine ⟨hR, fun x hx => ?_, ?_, fun x hx y hy c => ?_, fun y hy h2 => ?_⟩
  · rcases List.mem_cons.mp hx with e | hx
    · rw [e]
      refine ⟨h1, h8, hp, fun y y1 y2 => ?_⟩
      have y1 : p ≤ y := y1
      have y2 : y < p + n := y2
      rw [hw y, if_pos (by omega)]
      exact hq
    · obtain ⟨c1, c2, c3, c4⟩ := a2 x hx
      refine ⟨c1, c2, c3, fun y y1 y2 => ?_⟩
      rw [hw y, if_neg (fun z => dis x hx y y1 y2 (by omega))]
      exact c4 y y1 y2
  · rw [List.map_cons, List.nodup_cons]
    refine ⟨fun c => ?_, a3⟩
    obtain ⟨x, x1, x2⟩ := List.mem_map.mp c
    have x2 : x.1 = p := x2
    have e1 := (a2 x x1).1
    rcases pos x x1 with d | d <;> omega
  · rcases List.mem_cons.mp hx with e | hx
    · rcases List.mem_cons.mp hy with f | hy
      · rw [e, f] at c; exact absurd c (Nat.lt_irrefl _)
      · rw [e] at c ⊢
        have c : p < y.1 := c
        show p + n ≤ y.1
        have e1 := (a2 y hy).1
        rcases pos y hy with d | d <;> omega
    · rcases List.mem_cons.mp hy with f | hy
      · rw [f] at c ⊢
        have c : x.1 < p := c
        show x.1 + x.2 ≤ p
        rcases pos x hx with d | d <;> omega
      · exact a4 x hx y hy c
  · rw [hw y] at h2
    by_cases c : (p : Int) ≤ (y : Int) ∧ (y : Int) < (p : Int) + (n : Int)
    · exact ⟨(p, n), List.mem_cons_self, by show p ≤ y; omega, by show y < p + n; omega⟩
    · rw [if_neg c] at h2
      obtain ⟨x, x1, x2, x3⟩ := a5 y hy h2
      exact ⟨x, List.mem_cons_of_mem _ x1, x2, x3⟩
/-- all quick ones made free, on both sides -/
theorem zz_F9_empty {w : Int} {c c1 o o1 nu qk qm qm' : Nat → Int32} {X : List (Nat × Nat)} (h : zz_F9 w o qk qm X) (hq : ∀ j : Nat, j < 9216 → 0 ≤ (qk j).toInt) (hm0 : ∀ j : Nat, j < 9 → 0 ≤ (qm j).toInt ∧ (qm j).toInt ≤ 1000) (hO : zz_OC w c o nu) (hE : zz_er2 o o1 ∧ ∀ s' k' y : Nat, 1 ≤ s' → s' ≤ 8 → (k' : Int) < (qm s').toInt → (qk (1024 * s' + k')).toInt ≤ (y : Int) → (y : Int) < (qk (1024 * s' + k')).toInt + (s' : Int) → (o1 y).toInt = -1) (hW : zz_W9 c c1 X) (hm : ∀ s : Nat, 1 ≤ s → s ≤ 8 → (qm' s).toInt = 0) (hz : qm' 0 = qm 0) : zz_F9 w o1 qk qm' [] ∧ zz_OC w c1 o1 nu ∧ (∀ y : Nat, (y : Int) < w → ((0 ≤ (o y).toInt ∧ o1 y = o y) ∨ ((o y).toInt < 0 ∧ (o1 y).toInt = -1))) := by
  obtain ⟨a1, a2, a3, a4, a5⟩ := h
  have cov : ∀ y : Nat, (y : Int) < w → (o y).toInt = -2 → (o1 y).toInt = -1 := fun y hy h2 => by
    obtain ⟨x, x1, x2, x3⟩ := a5 y hy h2
    obtain ⟨c1', c2', c3', c4'⟩ := a2 x x1
    have R := a1 x.2 (by omega)
    have mf : x.1 ∈ (X.filter (fun z => z.2 == x.2)).map Prod.fst := List.mem_map.mpr ⟨x, List.mem_filter.mpr ⟨x1, by simp⟩, rfl⟩
    rw [← R] at mf
    obtain ⟨k, k1⟩ := List.mem_iff_getElem?.mp mf
    have kl : k < (qm x.2).toNatClampNeg := by
      have := (List.getElem?_eq_some_iff.mp k1).1
      rw [zz_rw_len] at this
      exact this
    rw [zz_rw_get qk _ _ _ kl] at k1
    have ek := Option.some.inj k1
    have em := zz_tn (qm x.2)
    have mb := hm0 x.2 (by omega)
    have q0 := hq (1024 * x.2 + k) (by omega)
    have eq := zz_tn (qk (1024 * x.2 + k))
    exact hE.2 x.2 k y c1' c2' (by omega) (by omega) (by omega)
  have ow : ∀ y : Nat, (y : Int) < w → ((0 ≤ (o y).toInt ∧ o1 y = o y) ∨ ((o y).toInt < 0 ∧ (o1 y).toInt = -1)) := fun y hy => by
    have e := hE.1 y
    rcases hO y hy with g | g | g
    · refine Or.inr ⟨by omega, ?_⟩
      rcases e with e | e
      · rw [e]; exact g.1
      · exact e.2
    · exact Or.inr ⟨by omega, cov y hy g.1⟩
    · refine Or.inl ⟨g.1, ?_⟩
      rcases e with e | e
      · exact e
      · omega
  refine ⟨⟨fun l hl => ?_, fun x hx => (by cases hx), List.nodup_nil, fun x hx => (by cases hx), fun y hy h2 => ?_⟩, fun y hy => ?_, ow⟩
  · by_cases c : l = 0
    · have R := a1 0 (by omega)
      have : X.filter (fun x => x.2 == 0) = [] := by
        rw [List.filter_eq_nil_iff]
        intro x hx d
        have := (a2 x hx).1
        have := eq_of_beq d
        omega
      rw [c, hz]
      rw [this] at R
      exact R
    · have := hm l (by omega) (by omega)
      rw [zz_tn, this]
      rfl
  · rcases ow y hy with g | g
    · rw [g.2] at h2; omega
    · omega
  · rcases hO y hy with g | g | g
    · left
      refine ⟨?_, ?_⟩
      · rcases ow y hy with k | k
        · omega
        · exact k.2
      · rcases hW y with ⟨_, k⟩ | ⟨_, k⟩
        · exact k
        · rw [k]; exact g.2
    · left
      refine ⟨cov y hy g.1, ?_⟩
      rcases hW y with ⟨_, k⟩ | ⟨k, _⟩
      · exact k
      · exact (k (a5 y hy g.1)).elim
    · right; right
      rcases ow y hy with k | k
      · rw [k.2]
        refine ⟨g.1, ?_⟩
        rcases hW y with ⟨⟨x, x1, x2, x3⟩, _⟩ | ⟨_, k2⟩
        · have := (a2 x x1).2.2.2 y x2 x3
          omega
        · rw [k2]; exact g.2
      · omega

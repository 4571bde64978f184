/-! form 7: the reference's walks over its lists -/
theorem zz_find_filter {α : Type} (p q : α → Bool) : ∀ X : List α, (X.filter p).find? q = X.find? (fun a => p a && q a)
  | [] => rfl
  | x :: X => by
    by_cases h : p x = true
    · rw [List.filter_cons_of_pos h]
      by_cases g : q x = true
      · rw [List.find?_cons_of_pos g, List.find?_cons_of_pos (by rw [h, g]; rfl)]
      · rw [List.find?_cons_of_neg g, List.find?_cons_of_neg (by rw [h, Bool.true_and]; exact g)]
        exact zz_find_filter p q X
    · rw [List.filter_cons_of_neg h, List.find?_cons_of_neg (by rw [Bool.and_eq_true]; exact fun z => h z.1)]
      exact zz_find_filter p q X
abbrev zz_R7 (li lm : Nat → Int32) (X : List (Nat × Nat)) : Prop := zz_RX zz_lo 44 li lm X
theorem zz_R7_ent {li lm o : Nat → Int32} {X : List (Nat × Nat)} {W l i : Nat} {k : Int} (h : zz_R7 li lm X) (hx : zz_XR o W X) (hl : l < 44) (hi : (i : Int) = 1024 * l + k) (hk : 0 ≤ k) (hlt : k < (lm l).toInt) : ∃ v, (X.filter (fun y => zz_lo y.2 == l))[k.toNat]? = some ((li i).toNatClampNeg, v) ∧ zz_rn o W (li i).toNatClampNeg v ∧ ((li i).toNatClampNeg, v) ∈ X ∧ zz_lo v = l := by
  have el := zz_tn (lm l)
  have g := zz_rw_get li (lm l).toNatClampNeg (1024 * l) k.toNat (by omega)
  rw [h l hl, List.getElem?_map, show 1024 * l + k.toNat = i by omega] at g
  obtain ⟨y, hy, e⟩ := Option.map_eq_some_iff.mp g
  obtain ⟨m1, m2⟩ := List.mem_filter.mp (List.mem_of_getElem? hy)
  have m2 := eq_of_beq m2
  have ey : y = ((li i).toNatClampNeg, y.2) := by rw [← e]
  rw [ey] at hy m1
  exact ⟨y.2, hy, hx.1 _ m1, m1, m2⟩
theorem zz_R7_len {li lm : Nat → Int32} {X : List (Nat × Nat)} {l : Nat} (h : zz_R7 li lm X) (hl : l < 44) : (X.filter (fun y => zz_lo y.2 == l)).length = (lm l).toNatClampNeg := by
  have := congrArg List.length (h l hl)
  rw [zz_rw_len, List.length_map] at this
  exact this.symm
theorem zz_fp1_ff (n : Nat) (X : List (Nat × Nat)) : X.find? (zz_fp1 n) = (X.filter (fun y => zz_lo y.2 == zz_lo n)).find? (fun y => decide (n ≤ y.2)) := by
  rw [zz_find_filter]
  rfl
def zz_l1 (w : Int) (o li lm : Nat → Int32) (n : Nat) (k x : Int) : Prop := ∀ X, zz_R7 li lm X → zz_XR o w.toNat X → (x < 0 ∧ ∀ y ∈ (X.filter (fun y => zz_lo y.2 == zz_lo n)).take k.toNat, y.2 < n) ∨ (0 ≤ x ∧ ∃ v, X.find? (zz_fp1 n) = some (x.toNat, v))
theorem zz_l1_0 {w k x : Int} {o li lm : Nat → Int32} {n : Nat} (hx : x < 0) (hk : k ≤ 0) : zz_l1 w o li lm n k x := fun X _ _ => Or.inl ⟨hx, fun y hy => by
  rw [show k.toNat = 0 by omega, List.take_zero] at hy
  cases hy⟩
theorem zz_l1_old {w k k' x : Int} {o li lm : Nat → Int32} {n : Nat} (h : zz_l1 w o li lm n k x) (hx : 0 ≤ x) : zz_l1 w o li lm n k' x := fun X h1 h2 => by
  rcases h X h1 h2 with c | c
  · omega
  · exact Or.inr c
theorem zz_l1_hit {w k k' x e : Int} {o li lm : Nat → Int32} {n l i : Nat} (h : zz_l1 w o li lm n k x) (hx : x < 0) (hs : zz_sq w o (li i).toInt e) (hl : (l : Int) = (zz_lo n : Int)) (hl2 : l < 44) (hi : (i : Int) = 1024 * l + k) (hk : 0 ≤ k) (hlt : k < (lm l).toInt) (hw : 0 ≤ w) (h0 : 0 ≤ (li i).toInt) (hn : (li i).toInt + (n : Int) ≤ e) : zz_l1 w o li lm n k' (li i).toInt := fun X h1 h2 => by
  have el : l = zz_lo n := by omega
  obtain ⟨v, g1, g2, g3, g4⟩ := zz_R7_ent h1 h2 hl2 hi hk hlt
  have ev := zz_sq_rn (p := (li i).toInt) g2 h0 hw hs
  refine Or.inr ⟨h0, v, ?_⟩
  rw [zz_fp1_ff, ← el]
  obtain ⟨b1, b2⟩ := List.getElem?_eq_some_iff.mp g1
  refine List.find?_eq_some_iff_append.mpr ⟨?_, (X.filter (fun y => zz_lo y.2 == l)).take k.toNat, (X.filter (fun y => zz_lo y.2 == l)).drop (k.toNat + 1), ?_, ?_⟩
  · exact decide_eq_true (show n ≤ v by omega)
  · have := List.take_append_drop k.toNat (X.filter (fun y => zz_lo y.2 == l))
    rw [List.drop_eq_getElem_cons b1, b2] at this
    exact this.symm
  · intro y hy
    rcases h X h1 h2 with c | c
    · have := c.2 y (by rw [← el]; exact hy)
      simp
      omega
    · omega
theorem zz_l1_next {w k k' x x' e : Int} {o li lm : Nat → Int32} {n l i : Nat} (h : zz_l1 w o li lm n k x) (hx : x < 0) (hs : zz_sq w o (li i).toInt e) (hl : (l : Int) = (zz_lo n : Int)) (hl2 : l < 44) (hi : (i : Int) = 1024 * l + k) (hk : 0 ≤ k) (hlt : k < (lm l).toInt) (hw : 0 ≤ w) (h0 : 0 ≤ (li i).toInt) (hn : e < (li i).toInt + (n : Int)) (hk' : k' = k + 1) (hx' : x' = x) : zz_l1 w o li lm n k' x' := fun X h1 h2 => by
  have el : l = zz_lo n := by omega
  obtain ⟨v, g1, g2, g3, g4⟩ := zz_R7_ent h1 h2 hl2 hi hk hlt
  have ev := zz_sq_rn (p := (li i).toInt) g2 h0 hw hs
  refine Or.inl ⟨by omega, fun y hy => ?_⟩
  rw [show k'.toNat = k.toNat + 1 by omega, List.take_succ, ← el, g1] at hy
  rcases List.mem_append.mp hy with c | c
  · rcases h X h1 h2 with d | d
    · exact d.2 y (by rw [← el]; exact c)
    · omega
  · have c : y ∈ [((li i).toNatClampNeg, v)] := c
    rw [List.mem_singleton] at c
    rw [c]
    show v < n
    omega
def zz_l2 (w : Int) (o li lm : Nat → Int32) (n : Nat) (m x : Int) : Prop := ∀ X, zz_R7 li lm X → zz_XR o w.toNat X → (x < 0 ∧ X.find? (zz_fp1 n) = none ∧ ∀ y ∈ X, zz_lo n < zz_lo y.2 → m ≤ (zz_lo y.2 : Int)) ∨ (0 ≤ x ∧ ∃ v, zz_pk n X (x.toNat, v))
theorem zz_l2_ini {w k x m : Int} {o li lm : Nat → Int32} {n l : Nat} (h : zz_l1 w o li lm n k x) (hl : (l : Int) = (zz_lo n : Int)) (hl2 : l < 44) (hk : 0 ≤ x ∨ (lm l).toInt ≤ k) (hm : m = (l : Int) + 1) : zz_l2 w o li lm n m x := fun X h1 h2 => by
  have el : l = zz_lo n := by omega
  rcases h X h1 h2 with c | ⟨c, v, d⟩
  · have L := zz_R7_len h1 hl2
    have e1 := zz_tn (lm l)
    refine Or.inl ⟨c.1, ?_, fun y hy hz => by omega⟩
    rw [zz_fp1_ff, List.find?_eq_none]
    intro y hy
    have := c.2 y (by rw [List.take_of_length_le (by rw [← el, L]; omega)]; exact hy)
    simp
    omega
  · exact Or.inr ⟨c, v, Or.inl d⟩
theorem zz_l2_old {w m m' x : Int} {o li lm : Nat → Int32} {n : Nat} (h : zz_l2 w o li lm n m x) (hx : 0 ≤ x) : zz_l2 w o li lm n m' x := fun X h1 h2 => by
  rcases h X h1 h2 with c | c
  · omega
  · exact Or.inr c
theorem zz_l2_none {w m m' x x' : Int} {o li lm : Nat → Int32} {n l : Nat} (h : zz_l2 w o li lm n m x) (hx : x < 0) (hl : (l : Int) = m) (hl2 : l < 44) (hz : (lm l).toInt = 0) (hm : m' = m + 1) (hx' : x' = x) : zz_l2 w o li lm n m' x' := fun X h1 h2 => by
  rcases h X h1 h2 with ⟨c1, c2, c3⟩ | c
  · refine Or.inl ⟨by omega, c2, fun y hy hz2 => ?_⟩
    have := c3 y hy hz2
    by_cases e : (zz_lo y.2 : Int) = m
    · exfalso
      have L := zz_R7_len h1 hl2
      have e1 := zz_tn (lm l)
      have M : y ∈ X.filter (fun y => zz_lo y.2 == l) := List.mem_filter.mpr ⟨hy, by rw [beq_iff_eq]; omega⟩
      have Z : X.filter (fun y => zz_lo y.2 == l) = [] := List.length_eq_zero_iff.mp (by rw [L]; omega)
      rw [Z] at M
      cases M
    · omega
  · omega
theorem zz_l2_hit {w m m' x : Int} {o li lm : Nat → Int32} {n l i : Nat} (h : zz_l2 w o li lm n m x) (hx : x < 0) (hl : (l : Int) = m) (hl2 : l < 44) (hln : (zz_lo n : Int) < m) (hi : (i : Int) = 1024 * l) (hz : 0 < (lm l).toInt) (h0 : 0 ≤ (li i).toInt) : zz_l2 w o li lm n m' (li i).toInt := fun X h1 h2 => by
  rcases h X h1 h2 with ⟨c1, c2, c3⟩ | c
  · obtain ⟨v, g1, g2, g3, g4⟩ := zz_R7_ent (k := 0) (i := i) h1 h2 hl2 (by omega) (Int.le_refl _) hz
    refine Or.inr ⟨h0, v, Or.inr ⟨c2, l, by omega, fun y hy hz2 => by have := c3 y hy hz2; omega, ?_⟩⟩
    rw [← List.head?_filter, List.head?_eq_getElem?]
    exact g1
  · omega
/-- the lists behind a give of n words -/
def zz_lx (w : Int) (o li lm g m : Nat → Int32) (n : Nat) (r : Int) : Prop := ∀ X, zz_R7 li lm X → zz_XR o w.toNat X → ∃ X', zz_gtk n X X' r ∧ zz_R7 g m X'
theorem zz_lx_no {w m x r : Int} {o li lm : Nat → Int32} {n : Nat} (h : zz_l2 w o li lm n m x) (hx : x < 0) (hm : 44 ≤ m) (hr : r = -1) (hw : w ≤ 1024) : zz_lx w o li lm li lm n r := fun X h1 h2 => by
  rcases h X h1 h2 with ⟨c1, c2, c3⟩ | c
  · refine ⟨X, Or.inl ⟨hr, ⟨c2, fun y hy hz => ?_⟩, rfl⟩, h1⟩
    have a1 := c3 y hy hz
    have a2 := (h2.1 y hy).2.1
    have := zz_lo_lt y.2 (by omega)
    omega
  · omega
theorem zz_lx_sz {w m x : Int} {o li lm : Nat → Int32} {n : Nat} {X : List (Nat × Nat)} {x' r : Int32} (h : zz_l2 w o li lm n m x) (h1 : zz_R7 li lm X) (h2 : zz_XR o w.toNat X) (hx : 0 ≤ x) (hx' : x'.toInt = x) (hr : zz_rn o w.toNat x'.toInt.toNat r.toInt.toNat) : zz_pk n X (x'.toNatClampNeg, r.toNatClampNeg) := by
  rcases h X h1 h2 with c | ⟨_, v, c⟩
  · omega
  · have e := h2.1 _ (zz_pk_mem c)
    rw [← hx'] at e c
    have e2 : v = r.toInt.toNat := zz_rn_uq hr e
    rw [e2] at c
    exact c
theorem zz_lx_a {w m x r : Int} {o li lm g mm : Nat → Int32} {n : Nat} {x' v : Int32} (h : zz_l2 w o li lm n m x) (hF : zz_FLm li lm g mm x' v) (hr : zz_rn o w.toNat x'.toInt.toNat v.toInt.toNat) (hm : ∀ j, j < 44 → 0 ≤ (lm j).toInt ∧ (lm j).toInt ≤ 1000) (hx : 0 ≤ x) (hx' : x'.toInt = x) (hv : v.toInt = (n : Int)) (hv2 : v.toInt ≤ 1024) (hr' : r = x) : zz_lx w o li lm g mm n r := fun X h1 h2 => by
  have pk := zz_lx_sz h h1 h2 hx hx' hr
  obtain ⟨j, b1, b2, b3, b4, b5⟩ := hF
  have ev := zz_tn v
  have ex : x'.toNatClampNeg = r.toNat := by rw [zz_tn]; omega
  rw [ex] at pk
  refine ⟨_, Or.inr ⟨by omega, _, pk, rfl⟩, ?_⟩
  rw [if_neg (by omega), List.nil_append, ← ex]
  exact zz_RX_from h1 b1 b2 b3 b4 b5 hm (zz_lo_lt _ (by omega)) h2.2.1
theorem zz_lx_b {w m x r : Int} {o li lm g mm g2 m2 : Nat → Int32} {n : Nat} {x' v x2 v2 : Int32} (h : zz_l2 w o li lm n m x) (hF : zz_FLm li lm g mm x' v) (hT : zz_TLm g mm g2 m2 x2 v2) (hr : zz_rn o w.toNat x'.toInt.toNat v.toInt.toNat) (hm : ∀ j, j < 44 → 0 ≤ (lm j).toInt ∧ (lm j).toInt ≤ 1000) (hm2 : ∀ j, j < 44 → 0 ≤ (mm j).toInt ∧ (mm j).toInt ≤ 1000) (hx : 0 ≤ x) (hx' : x'.toInt = x) (hv : (n : Int) < v.toInt) (hv2 : v.toInt ≤ 1024) (hx2 : x2.toInt = x + (n : Int)) (hv3 : v2.toInt = v.toInt - (n : Int)) (hr' : r = x) : zz_lx w o li lm g2 m2 n r := fun X h1 h2 => by
  have pk := zz_lx_sz h h1 h2 hx hx' hr
  obtain ⟨j, b1, b2, b3, b4, b5⟩ := hF
  have ev := zz_tn v
  have ev2 := zz_tn v2
  have ex : x'.toNatClampNeg = r.toNat := by rw [zz_tn]; omega
  rw [ex] at pk
  refine ⟨_, Or.inr ⟨by omega, _, pk, rfl⟩, ?_⟩
  rw [if_pos (by omega), ← ex]
  have R := zz_RX_from h1 b1 b2 b3 b4 b5 hm (zz_lo_lt _ (by omega)) h2.2.1
  have R2 := zz_RX_to (v := v2.toNatClampNeg) R hT.1 hT.2.1 hT.2.2 rfl hm2 (zz_lo_lt _ (by omega))
  rw [show x2.toNatClampNeg = x'.toNatClampNeg + n by rw [zz_tn, zz_tn]; omega, show v2.toNatClampNeg = v.toNatClampNeg - n by omega] at R2
  exact R2
-- joinRuns
theorem zz_tbB_no {p : Nat} : ∀ (X : List (Nat × Nat)) (b : Nat), (∀ x ∈ X, x.1 + x.2 ≠ p) → zz_tbB p X b = b
  | [], _, _ => rfl
  | x :: X, b, h => by
    show zz_tbB p X (if x.1 + x.2 = p then x.1 else b) = b
    rw [if_neg (h x List.mem_cons_self)]
    exact zz_tbB_no X b (fun y hy => h y (List.mem_cons_of_mem _ hy))
theorem zz_tbB_eq {p F : Nat} : ∀ (X : List (Nat × Nat)) (b : Nat), (∀ x ∈ X, x.1 + x.2 = p → x.1 = F) → (b = F ∨ ∃ x ∈ X, x.1 + x.2 = p) → zz_tbB p X b = F
  | [], b, _, h => by
    rcases h with h | ⟨x, h, _⟩
    · exact h
    · cases h
  | x :: X, b, h1, h2 => by
    show zz_tbB p X (if x.1 + x.2 = p then x.1 else b) = F
    refine zz_tbB_eq X _ (fun y hy => h1 y (List.mem_cons_of_mem _ hy)) ?_
    by_cases c : x.1 + x.2 = p
    · rw [if_pos c]; exact Or.inl (h1 x List.mem_cons_self c)
    · rw [if_neg c]
      rcases h2 with h2 | ⟨y, h2, h3⟩
      · exact Or.inl h2
      · rcases List.mem_cons.mp h2 with d | d
        · rw [d] at h3; exact absurd h3 c
        · exact Or.inr ⟨y, d, h3⟩
theorem zz_tbE_eq {p n F : Nat} : ∀ (X : List (Nat × Nat)) (e : Nat), (∀ x ∈ X, x.1 + x.2 ≠ p → x.1 = p + n → x.1 + x.2 = F) → (e = F ∨ ∃ x ∈ X, x.1 + x.2 ≠ p ∧ x.1 = p + n) → zz_tbE p n X e = F
  | [], e, _, h => by
    rcases h with h | ⟨x, h, _⟩
    · exact h
    · cases h
  | x :: X, e, h1, h2 => by
    show zz_tbE p n X (if x.1 + x.2 ≠ p ∧ x.1 = p + n then x.1 + x.2 else e) = F
    refine zz_tbE_eq X _ (fun y hy => h1 y (List.mem_cons_of_mem _ hy)) ?_
    by_cases c : x.1 + x.2 ≠ p ∧ x.1 = p + n
    · rw [if_pos c]; exact Or.inl (h1 x List.mem_cons_self c.1 c.2)
    · rw [if_neg c]
      rcases h2 with h2 | ⟨y, h2, h3⟩
      · exact Or.inl h2
      · rcases List.mem_cons.mp h2 with d | d
        · rw [d] at h3; exact absurd h3 c
        · exact Or.inr ⟨y, d, h3⟩
/-- X are the runs while p .. p + n - 1 were a block's, o is the owners' row without it -/
def zz_XJ (w : Int) (o : Nat → Int32) (p n : Int) (X : List (Nat × Nat)) : Prop := ∃ o0 : Nat → Int32, (∀ x : Nat, (x : Int) < p ∨ p + n ≤ (x : Int) → o0 x = o x) ∧ (∀ x : Nat, p ≤ (x : Int) → (x : Int) < p + n → (o0 x).toInt ≠ -1) ∧ zz_XR o0 w.toNat X
/-- the two runs beside a block that is given back -/
theorem zz_XJ_cut {w p n F r : Int} {o : Nat → Int32} {X : List (Nat × Nat)} (h : zz_XJ w o p n X) (hR : zz_rn o w.toNat F.toNat (p - F + n + r).toNat) (hF : 0 ≤ F) (hFp : F ≤ p) (hn : 1 ≤ n) (hr : 0 ≤ r) : (∀ x ∈ X, x.1 + x.2 = p.toNat → F < p ∧ x = (F.toNat, (p - F).toNat)) ∧ (F < p → (F.toNat, (p - F).toNat) ∈ X) ∧ (∀ x ∈ X, x.1 = p.toNat + n.toNat → 0 < r ∧ x = (p.toNat + n.toNat, r.toNat)) ∧ (0 < r → (p.toNat + n.toNat, r.toNat) ∈ X) ∧ (X.map Prod.fst).Nodup := by
  obtain ⟨o0, a1, a2, x1, x2, x3⟩ := h
  have C := zz_rn_cut (o0 := o0) (p := p.toNat) (n := n.toNat) hR (by omega) (by omega) (by omega) (fun y hy => a1 y (by omega)) (fun y h1 h2 => a2 y (by omega) (by omega))
  refine ⟨fun x hx e => ?_, fun c => x3 _ _ ((C _ _).mpr (Or.inr (Or.inl ⟨by omega, rfl, by omega⟩))), fun x hx e => ?_, fun c => x3 _ _ ((C _ _).mpr (Or.inr (Or.inr ⟨by omega, rfl, by omega⟩))), x2⟩
  · have rx := x1 x hx
    rcases (C x.1 x.2).mp rx with ⟨c1, c2⟩ | ⟨c1, c2, c3⟩ | ⟨c1, c2, c3⟩
    · exfalso
      rcases Nat.lt_or_ge x.1 F.toNat with d | d
      · have := zz_rn_sep hR c1 d
        have := c1.1
        omega
      · have := zz_rn_sep c1 hR (by omega)
        have := c1.1
        omega
    · exact ⟨by omega, Prod.ext c2 (by omega)⟩
    · have := rx.1
      omega
  · have rx := x1 x hx
    rcases (C x.1 x.2).mp rx with ⟨c1, c2⟩ | ⟨c1, c2, c3⟩ | ⟨c1, c2, c3⟩
    · exfalso
      rcases Nat.lt_or_ge x.1 F.toNat with d | d
      · omega
      · have := zz_rn_sep c1 hR (by omega)
        omega
    · have := rx.1
      omega
    · exact ⟨by omega, Prod.ext c2 (by omega)⟩
/-- one fromList that may be left out -/
def zz_frm (c : Prop) (p : Nat) (X X' : List (Nat × Nat)) : Prop := (c ∧ X' = X.filter (fun x => x.1 != p)) ∨ (¬ c ∧ X' = X)
theorem zz_frm_mem {c : Prop} {p : Nat} {X X' : List (Nat × Nat)} (h : zz_frm c p X X') {x : Nat × Nat} : x ∈ X' ↔ x ∈ X ∧ (c → x.1 ≠ p) := by
  rcases h with ⟨h1, h2⟩ | ⟨h1, h2⟩
  · rw [h2, List.mem_filter]
    simp [h1]
  · rw [h2]
    exact ⟨fun z => ⟨z, fun y => absurd y h1⟩, fun z => z.1⟩
theorem zz_btb_frm {p n F r : Nat} {X X1 X2 : List (Nat × Nat)} (k1 : ∀ x ∈ X, x.1 + x.2 = p → F < p ∧ x = (F, p - F)) (k2 : F < p → (F, p - F) ∈ X) (k3 : ∀ x ∈ X, x.1 = p + n → 0 < r ∧ x = (p + n, r)) (k4 : 0 < r → (p + n, r) ∈ X) (nd : (X.map Prod.fst).Nodup) (hF : F ≤ p) (hn : 1 ≤ n) (h1 : zz_frm (F < p) F X X1) (h2 : zz_frm (0 < r) (p + n) X1 X2) : zz_btb p n X = (F, p - F + n + r) :: X2 := by
  have eB : zz_tbB p X p = F := by
    by_cases c : F < p
    · exact zz_tbB_eq X p (fun x hx e => by rw [(k1 x hx e).2]) (Or.inr ⟨_, k2 c, by show F + (p - F) = p; omega⟩)
    · rw [zz_tbB_no X p (fun x hx e => c (k1 x hx e).1)]; omega
  have eE : zz_tbE p n X (p + n) = p + n + r := by
    refine zz_tbE_eq X _ (fun x hx _ e => by rw [(k3 x hx e).2]) ?_
    by_cases c : 0 < r
    · exact Or.inr ⟨_, k4 c, by show p + n + r ≠ p; omega, rfl⟩
    · exact Or.inl (by omega)
  have eX : X.filter (zz_kp p n) = X2 := by
    have f1 : X1 = X.filter (fun x => decide (F < p → x.1 ≠ F)) := by
      rcases h1 with ⟨c1, c2⟩ | ⟨c1, c2⟩
      · rw [c2]
        exact List.filter_congr (fun x _ => by rw [Bool.eq_iff_iff]; simp [c1])
      · rw [c2]
        exact (List.filter_eq_self.mpr (fun x _ => by simp [c1])).symm
    have f2 : X2 = X1.filter (fun x => decide (0 < r → x.1 ≠ p + n)) := by
      rcases h2 with ⟨c1, c2⟩ | ⟨c1, c2⟩
      · rw [c2]
        exact List.filter_congr (fun x _ => by rw [Bool.eq_iff_iff]; simp [c1])
      · rw [c2]
        exact (List.filter_eq_self.mpr (fun x _ => by simp [c1])).symm
    rw [f2, f1, List.filter_filter]
    refine List.filter_congr (fun x hx => ?_)
    rw [Bool.eq_iff_iff, zz_kp_t, Bool.and_eq_true, decide_eq_true_iff, decide_eq_true_iff]
    constructor
    · rintro ⟨c1, c2⟩
      refine ⟨fun _ => c2, fun c3 c4 => ?_⟩
      have := zz_nd_uq nd hx (k2 c3) c4
      rw [this] at c1
      exact c1 (show F + (p - F) = p by omega)
    · rintro ⟨c1, c2⟩
      refine ⟨fun c3 => ?_, fun c3 => ?_⟩
      · obtain ⟨d1, d2⟩ := k1 x hx c3
        exact c2 d1 (by rw [d2])
      · obtain ⟨d1, d2⟩ := k3 x hx c3
        exact c1 d1 c3
  unfold zz_btb
  rw [eB, eE, eX, show p + n + r - F = p - F + n + r by omega]
/-- the lists behind a back of p, n -/
def zz_jx (w : Int) (o li lm g m : Nat → Int32) (p n : Int) : Prop := ∀ X, zz_R7 li lm X → zz_XJ w o p n X → zz_R7 g m (zz_btb p.toNat n.toNat X)
/-- on the way: li lm the lists now, li0 lm0 as they were -/
def zz_j1 (li0 lm0 li lm : Nat → Int32) (c d : Prop) (F q : Int) : Prop := ∀ X, zz_R7 li0 lm0 X → (X.map Prod.fst).Nodup → ∃ X1 X2, zz_frm c F.toNat X X1 ∧ zz_frm d q.toNat X1 X2 ∧ (X2.map Prod.fst).Nodup ∧ zz_R7 li lm X2
theorem zz_j1_0 {li lm : Nat → Int32} {F q : Int} : zz_j1 li lm li lm False False F q := fun X h nd => ⟨X, X, Or.inr ⟨fun z => z, rfl⟩, Or.inr ⟨fun z => z, rfl⟩, nd, h⟩
theorem zz_frm_nd {c : Prop} {p : Nat} {X X' : List (Nat × Nat)} (h : zz_frm c p X X') (nd : (X.map Prod.fst).Nodup) : (X'.map Prod.fst).Nodup := by
  rcases h with ⟨_, h⟩ | ⟨_, h⟩
  · rw [h]; exact List.Sublist.nodup (List.Sublist.map _ List.filter_sublist) nd
  · rw [h]; exact nd
theorem zz_j1_L {li0 lm0 li lm g m : Nat → Int32} {F q : Int} {x v : Int32} (h : zz_j1 li0 lm0 li lm False False F q) (hF : zz_FLm li lm g m x v) (hm : ∀ j, j < 44 → 0 ≤ (lm j).toInt ∧ (lm j).toInt ≤ 1000) (hx : x.toInt = F) (hv : v.toInt ≤ 1024) : zz_j1 li0 lm0 g m True False F q := fun X h0 nd => by
  obtain ⟨X1, X2, a1, a2, a3, a4⟩ := h X h0 nd
  have e1 : X1 = X := by rcases a1 with ⟨c, _⟩ | ⟨_, c⟩; exact c.elim; exact c
  have e2 : X2 = X1 := by rcases a2 with ⟨c, _⟩ | ⟨_, c⟩; exact c.elim; exact c
  rw [e2, e1] at a3 a4
  obtain ⟨j, b1, b2, b3, b4, b5⟩ := hF
  have ev := zz_tn v
  have R := zz_RX_from a4 b1 b2 b3 b4 b5 hm (zz_lo_lt _ (by omega)) a3
  have ex : x.toNatClampNeg = F.toNat := by rw [zz_tn, hx]
  rw [ex] at R
  have f1 : zz_frm True F.toNat X (X.filter (fun x => x.1 != F.toNat)) := Or.inl ⟨trivial, rfl⟩
  exact ⟨_, _, f1, Or.inr ⟨fun z => z, rfl⟩, zz_frm_nd f1 nd, R⟩
theorem zz_j1_R {li0 lm0 li lm g m : Nat → Int32} {c : Prop} {F q : Int} {x v : Int32} (h : zz_j1 li0 lm0 li lm c False F q) (hF : zz_FLm li lm g m x v) (hm : ∀ j, j < 44 → 0 ≤ (lm j).toInt ∧ (lm j).toInt ≤ 1000) (hx : x.toInt = q) (hv : v.toInt ≤ 1024) : zz_j1 li0 lm0 g m c True F q := fun X h0 nd => by
  obtain ⟨X1, X2, a1, a2, a3, a4⟩ := h X h0 nd
  have e2 : X2 = X1 := by rcases a2 with ⟨c, _⟩ | ⟨_, c⟩; exact c.elim; exact c
  rw [e2] at a3 a4
  obtain ⟨j, b1, b2, b3, b4, b5⟩ := hF
  have ev := zz_tn v
  have R := zz_RX_from a4 b1 b2 b3 b4 b5 hm (zz_lo_lt _ (by omega)) a3
  have ex : x.toNatClampNeg = q.toNat := by rw [zz_tn, hx]
  rw [ex] at R
  have f1 : zz_frm True q.toNat X1 (X1.filter (fun x => x.1 != q.toNat)) := Or.inl ⟨trivial, rfl⟩
  exact ⟨_, _, a1, f1, zz_frm_nd f1 a3, R⟩
theorem zz_jx_mk {li lm li1 lm1 g m o : Nat → Int32} {c d : Prop} {w p n F r q : Int} {x v : Int32} (h : zz_j1 li lm li1 lm1 c d F q) (hT : zz_TLm li1 lm1 g m x v) (hm : ∀ j, j < 44 → 0 ≤ (lm1 j).toInt ∧ (lm1 j).toInt ≤ 1000) (hR : zz_rn o w.toNat F.toNat (p - F + n + r).toNat) (hc : c ↔ F < p) (hd : d ↔ 0 < r) (hF : 0 ≤ F) (hFp : F ≤ p) (hn : 1 ≤ n) (hr : 0 ≤ r) (hq : q = p + n) (hx : x.toInt = F) (hv : v.toInt = p - F + n + r) (hv2 : v.toInt ≤ 1024) : zz_jx w o li lm g m p n := fun X h0 hX => by
  obtain ⟨k1, k2, k3, k4, nd⟩ := zz_XJ_cut hX hR hF hFp hn hr
  obtain ⟨X1, X2, a1, a2, a3, a4⟩ := h X h0 nd
  have ev := zz_tn v
  have R := zz_RX_to (v := v.toNatClampNeg) a4 hT.1 hT.2.1 hT.2.2 rfl hm (zz_lo_lt _ (by omega))
  have a1' : zz_frm (F.toNat < p.toNat) F.toNat X X1 := by
    rcases a1 with ⟨b1, b2⟩ | ⟨b1, b2⟩
    · exact Or.inl ⟨by have := hc.mp b1; omega, b2⟩
    · exact Or.inr ⟨fun z => b1 (hc.mpr (by omega)), b2⟩
  have a2' : zz_frm (0 < r.toNat) (p.toNat + n.toNat) X1 X2 := by
    rw [show q.toNat = p.toNat + n.toNat by omega] at a2
    rcases a2 with ⟨b1, b2⟩ | ⟨b1, b2⟩
    · exact Or.inl ⟨by have := hd.mp b1; omega, b2⟩
    · exact Or.inr ⟨fun z => b1 (hd.mpr (by omega)), b2⟩
  rw [show (p - F).toNat = p.toNat - F.toNat by omega] at k1 k2
  rw [zz_btb_frm (F := F.toNat) (r := r.toNat) (fun x hx e => by obtain ⟨d1, d2⟩ := k1 x hx e; exact ⟨by omega, d2⟩) (fun z => k2 (by omega)) (fun x hx e => by obtain ⟨d1, d2⟩ := k3 x hx e; exact ⟨by omega, d2⟩) (fun z => k4 (by omega)) nd (by omega) (by omega) a1' a2']
  rw [show x.toNatClampNeg = F.toNat by rw [zz_tn, hx], show v.toNatClampNeg = p.toNat - F.toNat + n.toNat + r.toNat by omega] at R
  exact R

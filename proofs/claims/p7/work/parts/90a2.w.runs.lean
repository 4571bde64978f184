/-! worst: the class's listed runs, and what its finds answer -/
theorem zz_run_l {h : Nat → Int32} : ∀ x : Nat, (h x).toInt = -1 → ∃ q, q ≤ x ∧ (∀ y, q ≤ y → y ≤ x → (h y).toInt = -1) ∧ (q = 0 ∨ (h (q - 1)).toInt ≠ -1)
  | 0, hx => ⟨0, Nat.le_refl _, fun y _ h2 => by rw [show y = 0 by omega]; exact hx, Or.inl rfl⟩
  | x + 1, hx => by
    by_cases c : (h x).toInt = -1
    · obtain ⟨q, h1, h2, h3⟩ := zz_run_l x c
      refine ⟨q, by omega, fun y y1 y2 => ?_, h3⟩
      by_cases d : y = x + 1
      · rw [d]; exact hx
      · exact h2 y y1 (by omega)
    · exact ⟨x + 1, Nat.le_refl _, fun y y1 y2 => by rw [show y = x + 1 by omega]; exact hx, Or.inr c⟩
theorem zz_run_r {h : Nat → Int32} {W : Nat} : ∀ d x : Nat, x + d = W → ∃ e, x ≤ e ∧ e ≤ W ∧ (∀ y, x ≤ y → y < e → (h y).toInt = -1) ∧ (e = W ∨ (h e).toInt ≠ -1)
  | 0, x, hd => ⟨x, Nat.le_refl _, by omega, fun y y1 y2 => by omega, Or.inl (by omega)⟩
  | d + 1, x, hd => by
    by_cases c : (h x).toInt = -1
    · obtain ⟨e, h1, h2, h3, h4⟩ := zz_run_r (h := h) (W := W) d (x + 1) (by omega)
      refine ⟨e, by omega, h2, fun y y1 y2 => ?_, h4⟩
      by_cases g : y = x
      · rw [g]; exact c
      · exact h3 y (by omega) y2
    · exact ⟨x, Nat.le_refl _, by omega, fun y y1 y2 => by omega, Or.inr c⟩
theorem zz_run_ex {h : Nat → Int32} {W x : Nat} (hx : (h x).toInt = -1) (hw : x < W) : ∃ q u, zz_rn h W q u ∧ q ≤ x ∧ x < q + u := by
  obtain ⟨q, h1, h2, h3⟩ := zz_run_l x hx
  obtain ⟨e, g1, g2, g3, g4⟩ := zz_run_r (h := h) (W := W) (W - x) x (by omega)
  have e1 : x < e := by
    refine Nat.lt_of_not_le fun z => ?_
    rcases g4 with g4 | g4
    · omega
    · rw [show e = x by omega] at g4; exact g4 hx
  refine ⟨q, e - q, ⟨by omega, by omega, fun y y1 y2 => ?_, h3, ?_⟩, h1, by omega⟩
  · by_cases c : y ≤ x
    · exact h2 y y1 c
    · exact g3 y (by omega) (by omega)
  · rw [show q + (e - q) = e by omega]; exact g4
theorem zz_fit_run {n : Int} {h : Nat → Int32} {a p : Int} (hf : zz_ft n h a p) (hp : 0 ≤ p) (ha : 1 ≤ a) : ∃ q u : Nat, zz_rn h n.toNat q u ∧ (q : Int) ≤ p ∧ p + a ≤ (q : Int) + u := by
  obtain ⟨f1, f2⟩ := hf
  obtain ⟨q, u, h1, h2, h3⟩ := zz_run_ex (x := p.toNat) (W := n.toNat) (f2 p.toNat (by omega) (by omega)) (by omega)
  refine ⟨q, u, h1, by omega, Int.not_lt.mp fun z => ?_⟩
  rcases h1.2.2.2.2 with c | c
  · omega
  · exact c (f2 (q + u) (by omega) (by omega))
/-- the listed runs are those of h, by place -/
def zz_ru (n : Int) (h pl wd : Nat → Int32) (sz : Int) : Prop := (∀ i : Nat, (i : Int) < sz → 0 ≤ (pl i).toInt ∧ 0 ≤ (wd i).toInt ∧ zz_rn h n.toNat (pl i).toInt.toNat (wd i).toInt.toNat) ∧ (∀ q u : Nat, zz_rn h n.toNat q u → ∃ i : Nat, (i : Int) < sz ∧ (pl i).toInt = (q : Int) ∧ (wd i).toInt = (u : Int)) ∧ (∀ i j : Nat, i < j → (j : Int) < sz → (pl i).toInt + (wd i).toInt < (pl j).toInt)
/-- while they are listed: all that begin ahead of b -/
def zz_rp (n : Int) (h pl wd : Nat → Int32) (sz b w : Int) : Prop := (∀ i : Nat, (i : Int) < sz → 0 ≤ (pl i).toInt ∧ 0 ≤ (wd i).toInt ∧ (pl i).toInt + (wd i).toInt < b ∧ zz_rn h n.toNat (pl i).toInt.toNat (wd i).toInt.toNat) ∧ (∀ q u : Nat, zz_rn h n.toNat q u → (q : Int) < b → ∃ i : Nat, (i : Int) < sz ∧ (pl i).toInt = (q : Int) ∧ (wd i).toInt = (u : Int)) ∧ (∀ i j : Nat, i < j → (j : Int) < sz → (pl i).toInt + (wd i).toInt < (pl j).toInt) ∧ (∀ x : Nat, b ≤ (x : Int) → (x : Int) < w → (h x).toInt = -1) ∧ (b = 0 ∨ b = n + 1 ∨ (h (b - 1).toNat).toInt ≠ -1)
theorem zz_rp_ini {n : Int} {h pl wd : Nat → Int32} {sz b w : Int} (hs : sz = 0) (hb : b = 0) (hw : w = 0) : zz_rp n h pl wd sz b w := ⟨fun i hi => by omega, fun q u hr hq => by omega, fun i j _ hj => by omega, fun x h1 h2 => by omega, Or.inl hb⟩
theorem zz_rp_free {n : Int} {h pl wd : Nat → Int32} {sz b w w' : Int} {i : Nat} (hp : zz_rp n h pl wd sz b w) (hi : (i : Int) = w) (hf : (h i).toInt = -1) (hw : w' = w + 1) : zz_rp n h pl wd sz b w' := by
  obtain ⟨a1, a2, a3, a4, a5⟩ := hp
  refine ⟨a1, a2, a3, fun x h1 h2 => ?_, a5⟩
  by_cases c : x = i
  · rw [c]; exact hf
  · exact a4 x h1 (by omega)
theorem zz_rp_shut {n : Int} {h pl wd : Nat → Int32} {sz b w b' w' : Int} (hp : zz_rp n h pl wd sz b w) (hb : w ≤ b) (hbw : b ≤ w) (hn : w ≤ n) (h0 : 0 ≤ w) (hf : w = n ∨ ∃ i : Nat, (i : Int) = w ∧ (h i).toInt ≠ -1) (hb' : b' = w + 1) (hw : w' = w + 1) : zz_rp n h pl wd sz b' w' := by
  obtain ⟨a1, a2, a3, a4, a5⟩ := hp
  refine ⟨fun i hi => by have := a1 i hi; exact ⟨this.1, this.2.1, by omega, this.2.2.2⟩, fun q u hr hq => ?_, a3, fun x h1 h2 => by omega, ?_⟩
  · by_cases c : (q : Int) < b
    · exact a2 q u hr c
    · exfalso
      have r1 := hr.1
      have r2 := hr.2.1
      rcases hf with hf | ⟨i, e1, e2⟩
      · omega
      · have := hr.2.2.1 q (Nat.le_refl _) (by omega)
        rw [show q = i by omega] at this
        exact e2 this
  · rcases hf with hf | ⟨i, e1, e2⟩
    · exact Or.inr (Or.inl (by omega))
    · exact Or.inr (Or.inr (by rw [show (b' - 1).toNat = i by omega]; exact e2))
theorem zz_rp_add {n : Int} {h pl wd : Nat → Int32} {sz sz' b w b' w' : Int} {k : Nat} {x y : Int32} (hp : zz_rp n h pl wd sz b w) (hk : (k : Int) = sz) (hbw : b < w) (hb0 : 0 ≤ b) (hn : w ≤ n) (hf : w = n ∨ ∃ i : Nat, (i : Int) = w ∧ (h i).toInt ≠ -1) (hx : x.toInt = b) (hy : y.toInt = w - b) (hs : sz' = sz + 1) (hb' : b' = w + 1) (hw : w' = w + 1) : zz_rp n h (upd pl k x) (upd wd k y) sz' b' w' := by
  obtain ⟨a1, a2, a3, a4, a5⟩ := hp
  have R : zz_rn h n.toNat b.toNat (w - b).toNat := by
    refine ⟨by omega, by omega, fun z z1 z2 => a4 z (by omega) (by omega), ?_, ?_⟩
    · rcases a5 with c | c | c
      · exact Or.inl (by omega)
      · omega
      · by_cases d : b = 0
        · exact Or.inl (by omega)
        · exact Or.inr (by rw [show b.toNat - 1 = (b - 1).toNat by omega]; exact c)
    · rcases hf with c | ⟨i, e1, e2⟩
      · exact Or.inl (by omega)
      · exact Or.inr (by rw [show b.toNat + (w - b).toNat = i by omega]; exact e2)
  have px : ∀ i : Nat, (i : Int) < sz → upd pl k x i = pl i ∧ upd wd k y i = wd i := fun i hi => by
    rw [zz_updE, zz_updE, if_neg (by omega), if_neg (by omega)]; exact ⟨rfl, rfl⟩
  have pk : upd pl k x k = x ∧ upd wd k y k = y := by rw [zz_updE, zz_updE, if_pos rfl, if_pos rfl]; exact ⟨rfl, rfl⟩
  refine ⟨fun i hi => ?_, fun q u hr hq => ?_, fun i j hij hj => ?_, fun z z1 z2 => by omega, ?_⟩
  · by_cases c : i = k
    · rw [c, pk.1, pk.2]
      exact ⟨by omega, by omega, by omega, by rw [hx, hy]; exact R⟩
    · have q := px i (by omega)
      rw [q.1, q.2]
      have := a1 i (by omega)
      exact ⟨this.1, this.2.1, by omega, this.2.2.2⟩
  · by_cases c : (q : Int) < b
    · obtain ⟨i, i1, i2, i3⟩ := a2 q u hr c
      exact ⟨i, by omega, by rw [(px i i1).1]; exact i2, by rw [(px i i1).2]; exact i3⟩
    · by_cases d : (q : Int) = b
      · have e := zz_rn_uq (by rw [show b.toNat = q by omega] at R; exact R) hr
        exact ⟨k, by omega, by rw [pk.1]; omega, by rw [pk.2]; omega⟩
      · exfalso
        have r1 := hr.1
        have r2 := hr.2.1
        by_cases g : (q : Int) = w
        · rcases hf with hf | ⟨i, e1, e2⟩
          · omega
          · have := hr.2.2.1 q (Nat.le_refl _) (by omega)
            rw [show q = i by omega] at this
            exact e2 this
        · rcases hr.2.2.2.1 with c1 | c1
          · omega
          · exact c1 (a4 (q - 1) (by omega) (by omega))
  · by_cases c : j = k
    · have q := px i (by omega)
      rw [q.1, q.2, c, pk.1]
      have := a1 i (by omega)
      omega
    · have q := px i (by omega)
      have q2 := px j (by omega)
      rw [q.1, q.2, q2.1]
      exact a3 i j hij (by omega)
  · rcases hf with hf | ⟨i, e1, e2⟩
    · exact Or.inr (Or.inl (by omega))
    · exact Or.inr (Or.inr (by rw [show (b' - 1).toNat = i by omega]; exact e2))
theorem zz_rp_end {n : Int} {h pl wd : Nat → Int32} {sz b w : Int} (hp : zz_rp n h pl wd sz b w) (hb : n ≤ b) (hn : 0 ≤ n) : zz_ru n h pl wd sz := by
  obtain ⟨a1, a2, a3, a4, a5⟩ := hp
  exact ⟨fun i hi => by have := a1 i hi; exact ⟨this.1, this.2.1, this.2.2.2⟩, fun q u hr => a2 q u hr (by have := hr.1; have := hr.2.1; omega), a3⟩
-- finds
def zz_nf (a : Int) (wd : Nat → Int32) (i : Int) : Prop := ∀ j : Nat, (j : Int) < i → (wd j).toInt < a
theorem zz_nf_0 {a : Int} {wd : Nat → Int32} {i : Int} (h : i ≤ 0) : zz_nf a wd i := fun j hj => by omega
theorem zz_nf_step {a : Int} {wd : Nat → Int32} {i i' : Int} {k : Nat} (h : zz_nf a wd i) (hk : (k : Int) = i) (hw : (wd k).toInt < a) (hi : i' = i + 1) : zz_nf a wd i' := fun j hj => by
  by_cases c : j = k
  · rw [c]; exact hw
  · exact h j (by omega)
theorem zz_ff_none {n : Int} {h pl wd : Nat → Int32} {sz a ah r i : Int} (hu : zz_ru n h pl wd sz) (hf : zz_nf a wd i) (hi : ∀ j : Nat, (j : Int) < sz → i ≤ (j : Int) → ah ≤ (pl j).toInt) (ha : 1 ≤ a) (hr : r = -1) : zz_ff n h a 0 ah r := by
  refine Or.inl ⟨hr, fun p h1 h2 z => ?_⟩
  obtain ⟨q, u, g1, g2, g3⟩ := zz_fit_run z h1 ha
  obtain ⟨j, j1, j2, j3⟩ := hu.2.1 q u g1
  by_cases c : (j : Int) < i
  · have := hf j c; omega
  · have := hi j j1 (by omega); omega
theorem zz_ff_some {n : Int} {h pl wd : Nat → Int32} {sz a ah r i : Int} {k : Nat} (hu : zz_ru n h pl wd sz) (hf : zz_nf a wd i) (hk : (k : Int) = i) (hks : i < sz) (hw : a ≤ (wd k).toInt) (ha : 1 ≤ a) (hn : 0 ≤ n) (hah : (pl k).toInt < ah) (hr : r = (pl k).toInt) : zz_ff n h a 0 ah r := by
  subst hr
  obtain ⟨b1, b2, b3⟩ := hu.1 k (by omega)
  have e1 := b3.2.1
  refine Or.inr ⟨b1, hah, ⟨by omega, fun x x1 x2 => b3.2.2.1 x (by omega) (by omega)⟩, fun p h1 h2 z => ?_⟩
  obtain ⟨q, u, g1, g2, g3⟩ := zz_fit_run z h1 ha
  obtain ⟨j, j1, j2, j3⟩ := hu.2.1 q u g1
  by_cases c : (j : Int) < i
  · have := hf j c; omega
  · by_cases d : j = k
    · rw [d] at j2; omega
    · have := hu.2.2 k j (by omega) j1; omega
/-- of the first i, none has a words from e on -/
def zz_nx (a e : Int) (pl wd : Nat → Int32) (i : Int) : Prop := ∀ j : Nat, (j : Int) < i → (pl j).toInt + (wd j).toInt < e + a ∨ (wd j).toInt < a
theorem zz_nx_0 {a e : Int} {pl wd : Nat → Int32} {i : Int} (h : i ≤ 0) : zz_nx a e pl wd i := fun j hj => by omega
theorem zz_nx_step {a e : Int} {pl wd : Nat → Int32} {i i' : Int} {k : Nat} (h : zz_nx a e pl wd i) (hk : (k : Int) = i) (hw : (pl k).toInt + (wd k).toInt < e + a ∨ (wd k).toInt < a) (hi : i' = i + 1) : zz_nx a e pl wd i' := fun j hj => by
  by_cases c : j = k
  · rw [c]; exact hw
  · exact h j (by omega)
theorem zz_nx_none {n : Int} {h pl wd : Nat → Int32} {sz a e ah r i : Int} (hu : zz_ru n h pl wd sz) (hf : zz_nx a e pl wd i) (hi : sz ≤ i) (ha : 1 ≤ a) (he : 0 ≤ e) (hr : r = -1) : zz_ff n h a e ah r := by
  refine Or.inl ⟨hr, fun p h1 h2 z => ?_⟩
  obtain ⟨q, u, g1, g2, g3⟩ := zz_fit_run z (by omega) ha
  obtain ⟨j, j1, j2, j3⟩ := hu.2.1 q u g1
  have := hf j (by omega); omega
theorem zz_nx_some {n : Int} {h pl wd : Nat → Int32} {sz a e ah r i : Int} {k : Nat} (hu : zz_ru n h pl wd sz) (hf : zz_nx a e pl wd i) (hk : (k : Int) = i) (hks : i < sz) (hr1 : (pl k).toInt ≤ r) (hr2 : e ≤ r) (hr3 : r = (pl k).toInt ∨ r = e) (hw : r + a ≤ (pl k).toInt + (wd k).toInt) (ha : 1 ≤ a) (hn : 0 ≤ n) (he : 0 ≤ e) (hah : n ≤ ah) : zz_ff n h a e ah r := by
  obtain ⟨b1, b2, b3⟩ := hu.1 k (by omega)
  have e1 := b3.2.1
  refine Or.inr ⟨hr2, by omega, ⟨by omega, fun x x1 x2 => b3.2.2.1 x (by omega) (by omega)⟩, fun p h1 h2 z => ?_⟩
  obtain ⟨q, u, g1, g2, g3⟩ := zz_fit_run z (by omega) ha
  obtain ⟨j, j1, j2, j3⟩ := hu.2.1 q u g1
  by_cases c : (j : Int) < i
  · have := hf j c; omega
  · by_cases d : j = k
    · rw [d] at j2; omega
    · have := hu.2.2 k j (by omega) j1; omega
/-- the best of the first i -/
def zz_bk9 (b : Prop) (a : Int) (wd : Nat → Int32) (best i : Int) : Prop := (best = -1 ∧ ∀ j : Nat, (j : Int) < i → (wd j).toInt < a) ∨ (0 ≤ best ∧ best < i ∧ a ≤ (wd best.toNat).toInt ∧ ∀ j : Nat, (j : Int) < i → a ≤ (wd j).toInt → (b ∧ (wd best.toNat).toInt ≤ (wd j).toInt ∨ ¬ b ∧ (wd j).toInt ≤ (wd best.toNat).toInt) ∧ ((wd j).toInt = (wd best.toNat).toInt → best ≤ (j : Int)))
theorem zz_bk9_0 {b : Prop} {a : Int} {wd : Nat → Int32} {best i : Int} (hb : best = -1) (h : i ≤ 0) : zz_bk9 b a wd best i := Or.inl ⟨hb, fun j hj => by omega⟩
theorem zz_bk9_keep {b : Prop} {a : Int} {wd : Nat → Int32} {best i i' : Int} {k : Nat} (h : zz_bk9 b a wd best i) (hk : (k : Int) = i) (hi : i' = i + 1) (hw : (wd k).toInt < a ∨ (0 ≤ best ∧ (b ∧ (wd best.toNat).toInt ≤ (wd k).toInt ∨ ¬ b ∧ (wd k).toInt ≤ (wd best.toNat).toInt))) : zz_bk9 b a wd best i' := by
  rcases h with ⟨h1, h2⟩ | ⟨h1, h2, h3, h4⟩
  · refine Or.inl ⟨h1, fun j hj => ?_⟩
    by_cases c : j = k
    · rw [c]; rcases hw with hw | hw <;> omega
    · exact h2 j (by omega)
  · refine Or.inr ⟨h1, by omega, h3, fun j hj hja => ?_⟩
    by_cases c : j = k
    · subst c
      rcases hw with hw | hw
      · omega
      · exact ⟨hw.2, fun _ => by omega⟩
    · exact h4 j (by omega) hja
theorem zz_bk9_new {b : Prop} {a : Int} {wd : Nat → Int32} {best i i' : Int} {k : Nat} (h : zz_bk9 b a wd best i) (hk : (k : Int) = i) (hi : i' = i + 1) (ha : a ≤ (wd k).toInt) (hw : best = -1 ∨ (b ∧ (wd k).toInt < (wd best.toNat).toInt) ∨ (¬ b ∧ (wd best.toNat).toInt < (wd k).toInt)) : zz_bk9 b a wd i i' := by
  refine Or.inr ⟨by omega, by omega, by rw [show i.toNat = k by omega]; exact ha, fun j hj hja => ?_⟩
  rw [show i.toNat = k by omega]
  by_cases c : j = k
  · subst c
    refine ⟨?_, fun _ => by omega⟩
    by_cases hb : b
    · exact Or.inl ⟨hb, Int.le_refl _⟩
    · exact Or.inr ⟨hb, Int.le_refl _⟩
  · rcases h with ⟨h1, h2⟩ | ⟨h1, h2, h3, h4⟩
    · have := h2 j (by omega); omega
    · have d := h4 j (by omega) hja
      rcases hw with hw | ⟨x, y⟩ | ⟨x, y⟩
      · omega
      · refine ⟨Or.inl ⟨x, ?_⟩, fun z => ?_⟩ <;> rcases d.1 with ⟨_, d1⟩ | ⟨d1, _⟩ <;> first | omega | exact absurd x d1
      · refine ⟨Or.inr ⟨x, ?_⟩, fun z => ?_⟩ <;> rcases d.1 with ⟨d1, _⟩ | ⟨_, d1⟩ <;> first | omega | exact absurd d1 x
theorem zz_bk9_end {b : Prop} {n : Int} {h pl wd : Nat → Int32} {sz a best i r : Int} (hu : zz_ru n h pl wd sz) (hb : zz_bk9 b a wd best i) (hi : sz ≤ i) (hi2 : i ≤ sz) (hr : (best = -1 ∧ r = -1) ∨ (0 ≤ best ∧ r = (pl best.toNat).toInt)) : zz_bf b n h a r := by
  rcases hb with ⟨h1, h2⟩ | ⟨h1, h2, h3, h4⟩
  · refine Or.inl ⟨by omega, fun q u hq => ?_⟩
    obtain ⟨j, j1, j2, j3⟩ := hu.2.1 q u hq
    have := h2 j (by omega)
    omega
  · obtain ⟨b1, b2, b3⟩ := hu.1 best.toNat (by omega)
    have hr : r = (pl best.toNat).toInt := by omega
    subst hr
    refine Or.inr ⟨b1, _, b3, by omega, fun q u hq hua => ?_⟩
    obtain ⟨j, j1, j2, j3⟩ := hu.2.1 q u hq
    have d := h4 j (by omega) (by omega)
    refine ⟨?_, fun z => ?_⟩
    · rcases d.1 with ⟨x, y⟩ | ⟨x, y⟩
      · exact Or.inl ⟨x, by omega⟩
      · exact Or.inr ⟨x, by omega⟩
    · have e := d.2 (by omega)
      by_cases c : best.toNat = j
      · rw [c]; omega
      · have := hu.2.2 best.toNat j (by omega) j1
        omega

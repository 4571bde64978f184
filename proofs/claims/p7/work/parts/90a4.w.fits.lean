/-! worst: fits, and what the loops of holds go on with -/
theorem zz_ff_end {n : Int} {h : Nat → Int32} {a fr ah r : Int} (hr : r = -1) (hf : ah ≤ fr) : zz_ff n h a fr ah r := Or.inl ⟨hr, fun p h1 h2 => by omega⟩
theorem zz_ff_hit {n : Int} {h : Nat → Int32} {a fr ah r e : Int} (hs : zz_sq n h fr e) (hr : r = fr) (ha : 1 ≤ a) (he : fr + a ≤ e) (hf : fr < ah) : zz_ff n h a fr ah r := by
  subst hr
  refine Or.inr ⟨Int.le_refl _, hf, ⟨?_, fun x h1 h2 => hs.2.1 x h1 (by omega)⟩, fun p h1 h2 => by omega⟩
  have := hs.2.2.2
  omega
theorem zz_ff_step {n : Int} {h : Nat → Int32} {a fr fr' ah r e : Int} (hs : zz_sq n h fr e) (hr : zz_ff n h a fr' ah r) (he : e < fr + a) (hf : fr' = e + 1) (h0 : 0 ≤ fr) : zz_ff n h a fr ah r := by
  have key : ∀ p, fr ≤ p → p < fr' → ¬ zz_ft n h a p := fun p h1 h2 z => by
    obtain ⟨z1, z2⟩ := z
    have b := hs.1
    have := z2 e.toNat (by omega) (by omega)
    have c := hs.2.2.1
    omega
  have b := hs.1
  rcases hr with ⟨a1, a2⟩ | ⟨a1, a2, a3, a4⟩
  · exact Or.inl ⟨a1, fun p h1 h2 => by
      by_cases c : p < fr'
      · exact key p h1 c
      · exact a2 p (by omega) h2⟩
  · exact Or.inr ⟨by omega, a2, a3, fun p h1 h2 => by
      by_cases c : p < fr'
      · exact key p h1 c
      · exact a4 p (by omega) h2⟩
def zz_bi (b : Prop) (n : Int) (h : Nat → Int32) (a best size p : Int) : Prop := (best < 0 ∧ ∀ q u : Nat, zz_rn h n.toNat q u → (q : Int) < p → (u : Int) < a) ∨ (0 ≤ best ∧ best < p ∧ 0 ≤ size ∧ zz_rn h n.toNat best.toNat size.toNat ∧ a ≤ size ∧ ∀ q u : Nat, zz_rn h n.toNat q u → (q : Int) < p → a ≤ (u : Int) → (b ∧ size ≤ (u : Int) ∨ ¬ b ∧ (u : Int) ≤ size) ∧ ((u : Int) = size → best ≤ (q : Int)))
theorem zz_bi_ini {b : Prop} {n : Int} {h : Nat → Int32} {a best size p : Int} (hb : best < 0) (hp : p ≤ 0) : zz_bi b n h a best size p := Or.inl ⟨hb, fun q u _ hq => by omega⟩
theorem zz_rn_n1 {h : Nat → Int32} {W i : Nat} (hi : 0 ≤ (h i).toInt) (u : Nat) : ¬ zz_rn h W i u := fun z => by
  have := z.2.2.1 i (Nat.le_refl _) (by have := z.1; omega)
  omega
theorem zz_rn_n2 {h : Nat → Int32} {W i j : Nat} (hj : (h j).toInt = -1) (hi : i = j + 1) (u : Nat) : ¬ zz_rn h W i u := fun z => by
  have := z.2.2.2.1
  rw [show i - 1 = j by omega] at this
  omega
theorem zz_bi_no {b : Prop} {n : Int} {h : Nat → Int32} {a best size p p' : Int} {i : Nat} (hB : zz_bi b n h a best size p) (hn : ∀ u, ¬ zz_rn h n.toNat i u) (hi : (i : Int) = p) (hp : p' = p + 1) : zz_bi b n h a best size p' := by
  rcases hB with ⟨b1, b2⟩ | ⟨b1, b2, b3, b4, b5, b6⟩
  · refine Or.inl ⟨b1, fun q u hr hq => ?_⟩
    by_cases c : q = i
    · subst c; exact absurd hr (hn u)
    · exact b2 q u hr (by omega)
  · refine Or.inr ⟨b1, by omega, b3, b4, b5, fun q u hr hq hu => ?_⟩
    by_cases c : q = i
    · subst c; exact absurd hr (hn u)
    · exact b6 q u hr (by omega) hu
theorem zz_bi_small {b : Prop} {n : Int} {h : Nat → Int32} {a best size p p' s : Int} {i : Nat} (hB : zz_bi b n h a best size p) (hr0 : zz_rn h n.toNat i s.toNat) (h0 : 0 ≤ s) (hs : s < a) (hi : (i : Int) = p) (hp : p' = p + 1) : zz_bi b n h a best size p' := by
  rcases hB with ⟨b1, b2⟩ | ⟨b1, b2, b3, b4, b5, b6⟩
  · refine Or.inl ⟨b1, fun q u hr hq => ?_⟩
    by_cases c : q = i
    · subst c; have := zz_rn_uq hr0 hr; omega
    · exact b2 q u hr (by omega)
  · refine Or.inr ⟨b1, by omega, b3, b4, b5, fun q u hr hq hu => ?_⟩
    by_cases c : q = i
    · subst c; have := zz_rn_uq hr0 hr; omega
    · exact b6 q u hr (by omega) hu
theorem zz_bi_keep {b : Prop} {n : Int} {h : Nat → Int32} {a best size p p' s : Int} {i : Nat} (hB : zz_bi b n h a best size p) (hr0 : zz_rn h n.toNat i s.toNat) (h0 : 0 ≤ s) (hb : 0 ≤ best) (hs : (b ∧ size ≤ s) ∨ (¬ b ∧ s ≤ size)) (hi : (i : Int) = p) (hp : p' = p + 1) : zz_bi b n h a best size p' := by
  rcases hB with ⟨b1, b2⟩ | ⟨b1, b2, b3, b4, b5, b6⟩
  · omega
  · refine Or.inr ⟨b1, by omega, b3, b4, b5, fun q u hr hq hu => ?_⟩
    by_cases c : q = i
    · subst c
      have e := zz_rn_uq hr0 hr
      refine ⟨?_, fun _ => by omega⟩
      rcases hs with ⟨x, y⟩ | ⟨x, y⟩
      · exact Or.inl ⟨x, by omega⟩
      · exact Or.inr ⟨x, by omega⟩
    · exact b6 q u hr (by omega) hu
theorem zz_bi_new {b : Prop} {n : Int} {h : Nat → Int32} {a best size p p' s : Int} {i : Nat} (hB : zz_bi b n h a best size p) (hr0 : zz_rn h n.toNat i s.toNat) (h0 : 0 ≤ s) (ha : a ≤ s) (hs : best < 0 ∨ (b ∧ s < size) ∨ (¬ b ∧ size < s)) (hi : (i : Int) = p) (hp : p' = p + 1) : zz_bi b n h a p s p' := by
  refine Or.inr ⟨by omega, by omega, h0, by rw [show p.toNat = i by omega]; exact hr0, ha, fun q u hr hq hu => ?_⟩
  by_cases c : q = i
  · subst c
    have e := zz_rn_uq hr0 hr
    refine ⟨?_, fun _ => by omega⟩
    by_cases hb : b
    · exact Or.inl ⟨hb, by omega⟩
    · exact Or.inr ⟨hb, by omega⟩
  · rcases hB with ⟨b1, b2⟩ | ⟨b1, b2, b3, b4, b5, b6⟩
    · have := b2 q u hr (by omega); omega
    · have d := b6 q u hr (by omega) hu
      rcases hs with hs | ⟨x, y⟩ | ⟨x, y⟩
      · omega
      · refine ⟨Or.inl ⟨x, ?_⟩, fun z => ?_⟩ <;> rcases d.1 with ⟨_, d1⟩ | ⟨d1, _⟩ <;> first | omega | exact absurd x d1
      · refine ⟨Or.inr ⟨x, ?_⟩, fun z => ?_⟩ <;> rcases d.1 with ⟨d1, _⟩ | ⟨_, d1⟩ <;> first | omega | exact absurd d1 x
theorem zz_bi_end {b : Prop} {n : Int} {h : Nat → Int32} {a best size p : Int} (hB : zz_bi b n h a best size p) (hp : n ≤ p) (hb : -1 ≤ best) (hn : 0 ≤ n) : zz_bf b n h a best := by
  have key : ∀ q u : Nat, zz_rn h n.toNat q u → (q : Int) < p := fun q u hr => by
    have h1 := hr.1
    have h2 := hr.2.1
    omega
  rcases hB with ⟨b1, b2⟩ | ⟨b1, b2, b3, b4, b5, b6⟩
  · exact Or.inl ⟨by omega, fun q u hr => b2 q u hr (key q u hr)⟩
  · refine Or.inr ⟨b1, size.toNat, b4, by omega, fun q u hr hu => ?_⟩
    have d := b6 q u hr (key q u hr) hu
    refine ⟨?_, fun z => d.2 (by omega)⟩
    rcases d.1 with ⟨x, y⟩ | ⟨x, y⟩
    · exact Or.inl ⟨x, by omega⟩
    · exact Or.inr ⟨x, by omega⟩
theorem zz_bf_cg {b c : Prop} {n : Int} {h : Nat → Int32} {a r : Int} (e : b ↔ c) (hb : zz_bf b n h a r) : zz_bf c n h a r := by
  rw [← propext e]; exact hb
theorem zz_rn_of {n : Int} {h : Nat → Int32} {p e s : Int} {i : Nat} (hs : zz_sq n h p e) (hi : (i : Int) = p) (he : e = p + s) (h1 : (h i).toInt = -1) (h2 : i = 0 ∨ (h (i - 1)).toInt ≠ -1) (hn : p < n) : zz_rn h n.toNat i s.toNat ∧ 1 ≤ s := by
  obtain ⟨a1, a2, a3, a4⟩ := hs
  have s1 : 1 ≤ s := by
    refine Int.not_lt.mp fun z => ?_
    rcases a3 with a3 | a3
    · omega
    · rw [show e.toNat = i by omega] at a3; exact a3 h1
  refine ⟨⟨by omega, by omega, fun x x1 x2 => a2 x (by omega) (by omega), h2, ?_⟩, s1⟩
  rcases a3 with a3 | a3
  · exact Or.inl (by omega)
  · exact Or.inr (by rw [show i + s.toNat = e.toNat by omega]; exact a3)
-- the same has
theorem zz_ft_cg {n : Int} {h g : Nat → Int32} {a p : Int} (e : ∀ k : Nat, (k : Int) < n → h k = g k) (hf : zz_ft n h a p) : zz_ft n g a p := ⟨hf.1, fun x h1 h2 => by rw [← e x (by have := hf.1; omega)]; exact hf.2 x h1 h2⟩
theorem zz_ff_cg {n : Int} {h g : Nat → Int32} {a fr ah r : Int} (e : ∀ k : Nat, (k : Int) < n → h k = g k) (hf : zz_ff n h a fr ah r) : zz_ff n g a fr ah r := by
  have e' : ∀ k : Nat, (k : Int) < n → g k = h k := fun k hk => (e k hk).symm
  rcases hf with ⟨a1, a2⟩ | ⟨a1, a2, a3, a4⟩
  · exact Or.inl ⟨a1, fun p h1 h2 z => a2 p h1 h2 (zz_ft_cg e' z)⟩
  · exact Or.inr ⟨a1, a2, zz_ft_cg e a3, fun p h1 h2 z => a4 p h1 h2 (zz_ft_cg e' z)⟩
theorem zz_rn_cg {h g : Nat → Int32} {W q u : Nat} (e : ∀ k, k < W → h k = g k) (hr : zz_rn h W q u) : zz_rn g W q u := by
  obtain ⟨a1, a2, a3, a4, a5⟩ := hr
  refine ⟨a1, a2, fun x h1 h2 => by rw [← e x (by omega)]; exact a3 x h1 h2, ?_, ?_⟩
  · rcases a4 with a4 | a4
    · exact Or.inl a4
    · exact Or.inr (by rw [← e (q - 1) (by omega)]; exact a4)
  · by_cases c : q + u = W
    · exact Or.inl c
    · exact Or.inr (by rw [← e (q + u) (by omega)]; exact a5.resolve_left c)
theorem zz_bf_cg2 {b : Prop} {n : Int} {h g : Nat → Int32} {a r : Int} (e : ∀ k : Nat, (k : Int) < n → h k = g k) (hb : zz_bf b n h a r) : zz_bf b n g a r := by
  have e1 : ∀ k : Nat, k < n.toNat → h k = g k := fun k hk => e k (by omega)
  have e2 : ∀ k : Nat, k < n.toNat → g k = h k := fun k hk => (e1 k hk).symm
  rcases hb with ⟨a1, a2⟩ | ⟨a1, s, a2, a3, a4⟩
  · exact Or.inl ⟨a1, fun q u hr => a2 q u (zz_rn_cg e2 hr)⟩
  · exact Or.inr ⟨a1, s, zz_rn_cg e1 a2, a3, fun q u hr hu => a4 q u (zz_rn_cg e2 hr) hu⟩
theorem zz_pl_cg {f n : Int} {h g : Nat → Int32} {e e' a r : Int} (eh : ∀ k : Nat, (k : Int) < n → h k = g k) (ee : e = e') (hp : zz_pl f n h e a r) : zz_pl f n g e' a r := by
  subst ee
  rcases hp with ⟨f1, h1⟩ | ⟨f1, h1⟩ | ⟨f1, h1⟩ | ⟨f1, h1⟩
  · exact Or.inl ⟨f1, zz_ff_cg eh h1⟩
  · refine Or.inr (Or.inl ⟨f1, ?_⟩)
    rcases h1 with ⟨p1, h1⟩ | ⟨p1, h1⟩
    · exact Or.inl ⟨p1, zz_ff_cg eh h1⟩
    · exact Or.inr ⟨zz_ff_cg eh p1, zz_ff_cg eh h1⟩
  · exact Or.inr (Or.inr (Or.inl ⟨f1, zz_bf_cg2 eh h1⟩))
  · exact Or.inr (Or.inr (Or.inr ⟨f1, zz_bf_cg2 eh h1⟩))
-- what the loops go on with
def zz_rq (f m l n : Int) (g : Nat → Int64) (len i ph r : Int) : Prop := zz_res f m l n (zz_rl g len) i.toNat ph.toNat r
theorem zz_rq_ph {f m l n : Int} {g : Nat → Int64} {len i ph ph' r : Int} (h : zz_rq f m l n g len i ph r) (e : ph = ph') : zz_rq f m l n g len i ph' r := by rw [← e]; exact h
theorem zz_rq_end {f m l n : Int} {g : Nat → Int64} {len i ph r : Int} (h : len ≤ i) (hr : r = 1) : zz_rq f m l n g len i ph r := zz_res_end (by rw [zz_rl_len]; omega) hr
theorem zz_rq_next {f m l n : Int} {g : Nat → Int64} {len i i' ph r : Int} (h : zz_rq f m l n g len i' 1 r) (hi : 0 ≤ i) (hl : i < len) (hi' : i' = i + 1) (hp : m + n < ph) : zz_rq f m l n g len i ph r := by
  refine zz_res_next (by rw [zz_rl_len]; omega) (by omega) ?_
  have h : zz_res f m l n (zz_rl g len) i'.toNat (1 : Int).toNat r := h
  rw [show i'.toNat = i.toNat + 1 by omega] at h
  exact h
/-- c comes, and then the loop goes on -/
def zz_eq (f m l n : Int) (g : Nat → Int64) (len i ph c r : Int) : Prop := zz_ev f m l n (zz_rl g len) i.toNat ph.toNat c r
theorem zz_eq_0 {f m l n : Int} {g g' : Nat → Int64} {len len' i ph c c' r r0 : Int} (h : zz_cm g len g' len' c r0) (hr0 : r0 = 0) (hc : c = c') (hr : r = -1) (h0 : 0 ≤ len) : zz_eq f m l n g len i ph c' r := by
  subst hc
  subst hr0
  rcases h with ⟨_, _, h⟩ | ⟨h1, h2, _⟩ | ⟨_, _, _, h⟩
  · omega
  · exact Or.inr (Or.inl ⟨h1, by rw [zz_rl_len]; omega, hr⟩)
  · omega
theorem zz_eq_1 {f m l n : Int} {g g' : Nat → Int64} {len len' i ph ph' c c' r r0 : Int} (h : zz_cm g len g' len' c r0) (hr0 : r0 = 1) (hq : zz_rq f m l n g' len' i ph' r) (hc : c = c') (hp : ph' = ph + 1) (h0 : 0 ≤ ph) (hl : 0 ≤ len) : zz_eq f m l n g len i ph c' r := by
  subst hc
  subst hr0
  have hq : zz_res f m l n (zz_rl g' len') i.toNat ph'.toNat r := hq
  rw [show ph'.toNat = ph.toNat + 1 by omega] at hq
  rcases h with ⟨h1, h2, _⟩ | ⟨_, _, h⟩ | ⟨h1, h2, h3, _⟩
  · rw [h2] at hq; exact Or.inl ⟨h1, hq⟩
  · omega
  · rw [h3] at hq; exact Or.inr (Or.inr ⟨h1, by rw [zz_rl_len]; omega, hq⟩)
def zz_fe (f m l n : Int) (g : Nat → Int64) (len i ph : Int) (h : Nat → Int32) (lo hi e : Int) (p : Int32) (r : Int) : Prop := ∀ h' : Nat → Int32, zz_wr h h' lo hi p → zz_eq f m l n g len i ph (zz_cd h' (if f = 1 then hi else e)) r
theorem zz_fe_end {f m l n : Int} {g : Nat → Int64} {len i ph c : Int} {h : Nat → Int32} {lo hi e : Int} {p : Int32} {r : Int} (hq : zz_eq f m l n g len i ph c r) (hl : hi ≤ lo) (hc : c = zz_cd h (if f = 1 then hi else e)) : zz_fe f m l n g len i ph h lo hi e p r := fun h' hw => by
  have : zz_cd h' (if f = 1 then hi else e) = c := by
    rw [hc]
    exact zz_cd_cg (fun k _ => by rw [hw k, if_neg (by omega)]) rfl
  rw [this]; exact hq
theorem zz_fe_step {f m l n : Int} {g : Nat → Int64} {len i ph : Int} {h : Nat → Int32} {lo lo' hi e : Int} {p : Int32} {r : Int} {j : Nat} (hq : zz_fe f m l n g len i ph (upd h j p) lo' hi e p r) (hl : lo < hi) (hl' : lo' = lo + 1) (hj : (j : Int) = lo) : zz_fe f m l n g len i ph h lo hi e p r := fun h' hw => hq h' (fun x => by
  have := hw x
  rw [zz_updE]
  by_cases c : lo' ≤ (x : Int) ∧ (x : Int) < hi
  · rw [if_pos c]; rw [if_pos (by omega)] at this; exact this
  · rw [if_neg c]
    by_cases d : x = j
    · rw [if_pos d]; rw [if_pos (by omega)] at this; exact this
    · rw [if_neg d]; rw [if_neg (by omega)] at this; exact this)
def zz_ge (f m l n : Int) (g : Nat → Int64) (len i ph : Int) (h : Nat → Int32) (lo q e r : Int) : Prop := ∀ h' : Nat → Int32, (∀ k : Nat, h' k = if lo ≤ (k : Int) ∧ (k : Int) < n ∧ (h k).toInt = q then -1 else h k) → zz_eq f m l n g len i ph (zz_cd h' e) r
theorem zz_ge_end {f m l n : Int} {g : Nat → Int64} {len i ph c : Int} {h : Nat → Int32} {lo q e r : Int} (hq : zz_eq f m l n g len i ph c r) (hl : n ≤ lo) (hc : c = zz_cd h e) : zz_ge f m l n g len i ph h lo q e r := fun h' hw => by
  have : zz_cd h' e = c := by
    rw [hc]
    exact zz_cd_cg (fun k _ => by rw [hw k, if_neg (by omega)]) rfl
  rw [this]; exact hq
theorem zz_ge_y {f m l n : Int} {g : Nat → Int64} {len i ph : Int} {h : Nat → Int32} {lo lo' q e r : Int} {j : Nat} {v : Int32} (hq : zz_ge f m l n g len i ph (upd h j v) lo' q e r) (hv : v = -1) (hl : lo < n) (hl' : lo' = lo + 1) (hj : (j : Int) = lo) (hh : (h j).toInt = q) : zz_ge f m l n g len i ph h lo q e r := fun h' hw => hq h' (fun x => by
  have := hw x
  rw [zz_updE]
  by_cases d : x = j
  · subst d
    rw [if_pos rfl, if_neg (by omega)]
    rw [if_pos ⟨by omega, by omega, hh⟩] at this
    rw [this, hv]
  · rw [if_neg d]
    by_cases c : lo' ≤ (x : Int) ∧ (x : Int) < n ∧ (h x).toInt = q
    · rw [if_pos c]; rw [if_pos ⟨by omega, c.2.1, c.2.2⟩] at this; exact this
    · rw [if_neg c]; rw [if_neg (fun z => c ⟨by omega, z.2.1, z.2.2⟩)] at this; exact this)
theorem zz_ge_n {f m l n : Int} {g : Nat → Int64} {len i ph : Int} {h : Nat → Int32} {lo lo' q e r : Int} {j : Nat} (hq : zz_ge f m l n g len i ph h lo' q e r) (hl' : lo' = lo + 1) (hj : (j : Int) = lo) (hh : (h j).toInt ≠ q) : zz_ge f m l n g len i ph h lo q e r := fun h' hw => hq h' (fun x => by
  have := hw x
  by_cases c : lo' ≤ (x : Int) ∧ (x : Int) < n ∧ (h x).toInt = q
  · rw [if_pos c]; rw [if_pos ⟨by omega, c.2.1, c.2.2⟩] at this; exact this
  · rw [if_neg c]
    rw [if_neg (fun z => c ⟨by
      by_cases e : x = j
      · subst e; exact absurd z.2.2 hh
      · omega, z.2.1, z.2.2⟩)] at this
    exact this)
-- from one room on
def zz_ta (g : Nat → Int64) (i : Int) (h : Nat → Int32) (e : Int) : Prop := zz_tk h (g i.toNat).toInt 14 ∧ e = (g i.toNat).toInt % 16
theorem zz_rq_skip {f m l n : Int} {g : Nat → Int64} {len i ph ph' r : Int} {s : Int32} (hq : zz_rq f m l n g len i ph' r) (ha : zz_ak s (g i.toNat).toInt 14) (hi : 0 ≤ i) (hl : i < len) (hp : ph' = ph + 1) (h0 : 0 ≤ ph) (hm : ph ≤ m) (hn : 0 ≤ n) (hs : l < s.toInt + ph) : zz_rq f m l n g len i ph r := by
  have hq : zz_res f m l n (zz_rl g len) i.toNat ph'.toNat r := hq
  rw [show ph'.toNat = ph.toNat + 1 by omega] at hq
  refine zz_res_skip (zz_rl_at (by omega)) (by omega) ?_ hq
  unfold zz_evt
  rw [if_pos (by omega)]
  have ha : s.toInt = zz_as (zz_hv (g i.toNat).toInt) 14 := ha
  exact Or.inl ⟨by omega, rfl⟩
theorem zz_rq_fail {f m l n : Int} {g : Nat → Int64} {len i ph r e p : Int} {h : Nat → Int32} {s : Int32} (ha : zz_ak s (g i.toNat).toInt 14) (ht : zz_ta g i h e) (hpl : zz_pl f n h e ph p) (hi : 0 ≤ i) (hl : i < len) (h0 : 0 ≤ ph) (hm : ph ≤ m) (hn : 0 ≤ n) (hn2 : n ≤ 14) (hs : s.toInt + ph ≤ l) (hp : p < 0) (hr : r = 0) : zz_rq f m l n g len i ph r := by
  refine zz_res_fail (zz_rl_at (by omega)) (by omega) ?_ hr
  unfold zz_evt
  rw [if_pos (by omega)]
  have ha : s.toInt = zz_as (zz_hv (g i.toNat).toInt) 14 := ha
  refine Or.inr ⟨by omega, p, ?_, Or.inl ⟨hp, rfl⟩⟩
  rw [show ((ph.toNat : Nat) : Int) = ph by omega]
  exact zz_pl_cg (fun k hk => ht.1 k (by omega)) ht.2 hpl
theorem zz_rq_ask {f m l n : Int} {g : Nat → Int64} {len i ph r e p hi' : Int} {h : Nat → Int32} {s pI : Int32} (hq : zz_fe f m l n g len i ph h p hi' e pI r) (ha : zz_ak s (g i.toNat).toInt 14) (ht : zz_ta g i h e) (hpl : zz_pl f n h e ph p) (hi : 0 ≤ i) (hl : i < len) (h0 : 0 ≤ ph) (hm : ph ≤ m) (hn : 0 ≤ n) (hn2 : n ≤ 14) (hs : s.toInt + ph ≤ l) (hp : 0 ≤ p) (hpI : pI.toInt = p) (hhi : hi' = p + ph) : zz_rq f m l n g len i ph r := by
  subst hhi
  have ha : s.toInt = zz_as (zz_hv (g i.toNat).toInt) 14 := ha
  have hq := hq (fun k => if p ≤ (k : Int) ∧ (k : Int) < p + ph then pI else h k) (fun x => rfl)
  refine zz_res_come (zz_rl_at (by omega)) (by omega) (c := zz_cd (zz_fill (zz_hv (g i.toNat).toInt) p ph) (if f = 1 then p + ph else (g i.toNat).toInt % 16)) ?_ ?_
  · unfold zz_evt
    rw [if_pos (by omega)]
    refine Or.inr ⟨by omega, p, ?_, Or.inr ⟨hp, ?_⟩⟩
    · rw [show ((ph.toNat : Nat) : Int) = ph by omega]
      exact zz_pl_cg (fun k hk => ht.1 k (by omega)) ht.2 hpl
    · rw [show ((ph.toNat : Nat) : Int) = ph by omega]
  · have e1 : zz_cd (fun k => if p ≤ (k : Int) ∧ (k : Int) < p + ph then pI else h k) (if f = 1 then p + ph else e) = zz_cd (zz_fill (zz_hv (g i.toNat).toInt) p ph) (if f = 1 then p + ph else (g i.toNat).toInt % 16) := by
      refine zz_cd_cg (fun k hk => ?_) (by rw [ht.2])
      show (if p ≤ (k : Int) ∧ (k : Int) < p + ph then pI else h k) = (if p ≤ (k : Int) ∧ (k : Int) < p + ph then Int32.ofInt p else zz_hv (g i.toNat).toInt k)
      have e2 : pI = Int32.ofInt p := Int32.toInt_inj.mp (by have g9 := zz_rg pI; rw [zz_ofI _ (by omega) (by omega)]; exact hpI)
      rw [e2, ht.1 k (by omega)]
    rw [← e1]
    exact hq
theorem zz_rq_skip2 {f m l n : Int} {g : Nat → Int64} {len i ph ph' r e q : Int} {h : Nat → Int32} {j : Nat} (hq : zz_rq f m l n g len i ph' r) (ht : zz_ta g i h e) (hh : (h j).toInt ≠ q) (hj : (j : Int) = q) (hi : 0 ≤ i) (hl : i < len) (hp : ph' = ph + 1) (hpq : ph = m + 1 + q) (h0 : 0 ≤ m) (hqn : q < n) (hn : n ≤ 14) : zz_rq f m l n g len i ph r := by
  have hq : zz_res f m l n (zz_rl g len) i.toNat ph'.toNat r := hq
  rw [show ph'.toNat = ph.toNat + 1 by omega] at hq
  refine zz_res_skip (zz_rl_at (by omega)) (by omega) ?_ hq
  unfold zz_evt
  rw [if_neg (by omega)]
  rw [show (((ph.toNat : Nat) : Int) - m - 1) = q by omega, show q.toNat = j by omega, ← ht.1 j (by omega)]
  exact Or.inl ⟨hh, rfl⟩
theorem zz_rq_back {f m l n : Int} {g : Nat → Int64} {len i ph r e q : Int} {h : Nat → Int32} {j : Nat} (hq : zz_ge f m l n g len i ph h q q e r) (ht : zz_ta g i h e) (hh : (h j).toInt = q) (hj : (j : Int) = q) (hi : 0 ≤ i) (hl : i < len) (hpq : ph = m + 1 + q) (h0 : 0 ≤ m) (hqn : q < n) (hn : n ≤ 14) : zz_rq f m l n g len i ph r := by
  have hq := hq (fun k => if q ≤ (k : Int) ∧ (k : Int) < n ∧ (h k).toInt = q then -1 else h k) (fun x => rfl)
  refine zz_res_come (zz_rl_at (by omega)) (by omega) (c := zz_cd (zz_fre n (zz_hv (g i.toNat).toInt) q) ((g i.toNat).toInt % 16)) ?_ ?_
  · unfold zz_evt
    rw [if_neg (by omega)]
    rw [show (((ph.toNat : Nat) : Int) - m - 1) = q by omega, show q.toNat = j by omega, ← ht.1 j (by omega)]
    exact Or.inr ⟨hh, rfl⟩
  · have e1 : zz_cd (fun k => if q ≤ (k : Int) ∧ (k : Int) < n ∧ (h k).toInt = q then -1 else h k) e = zz_cd (zz_fre n (zz_hv (g i.toNat).toInt) q) ((g i.toNat).toInt % 16) := by
      refine zz_cd_cg (fun k hk => ?_) ht.2
      show _ = (if q ≤ (k : Int) ∧ (k : Int) < n ∧ (zz_hv (g i.toNat).toInt k).toInt = q then (-1 : Int32) else zz_hv (g i.toNat).toInt k)
      rw [← ht.1 k (by omega)]
    rw [← e1]
    exact hq
theorem zz_cd_em {h : Nat → Int32} {x e : Int} (ho : zz_op h x) (hx : 14 ≤ x) (he : e = 0) : zz_cd h e = zz_cd (fun _ => -1) 0 := zz_cd_cg (fun k hk => Int32.toInt_inj.mp (by rw [ho k (by omega)]; rfl)) he
theorem zz_first {f m l n : Int} {g g' : Nat → Int64} {len len' c c' r0 i r : Int} (hcm : zz_cm g len g' len' c r0) (hq : zz_rq f m l n g' len' i 1 r) (hlen : len = 0) (hi : i = 0) (hc : c = c') : zz_res f m l n [c'] 0 1 r := by
  subst hc
  subst hi
  subst hlen
  have e : zz_rl g 0 = [] := rfl
  rcases hcm with ⟨h1, _, _⟩ | ⟨_, h2, _⟩ | ⟨_, _, h3, _⟩
  · rw [e] at h1; exact absurd h1 (by simp)
  · omega
  · rw [e] at h3
    have hq : zz_res f m l n (zz_rl g' len') (0 : Int).toNat (1 : Int).toNat r := hq
    rw [h3] at hq
    exact hq
theorem zz_wor_end {f m l : Int} {d : Nat} {n r : Int} (hd : d = 0) (hr : r = -1) : zz_wor f m l d n r := by
  subst hd
  exact hr
theorem zz_wor_1 {f m l : Int} {d : Nat} {n r v : Int} (h : zz_res f m l n [zz_cd (fun _ => -1) 0] 0 1 v) (hd : 1 ≤ d) (hv : v = 1) (hr : r = n) : zz_wor f m l d n r := by
  obtain ⟨d, rfl⟩ : ∃ k, d = k + 1 := ⟨d - 1, by omega⟩
  exact ⟨v, h, Or.inl ⟨hv, hr⟩⟩
theorem zz_wor_m {f m l : Int} {d : Nat} {n r v : Int} (h : zz_res f m l n [zz_cd (fun _ => -1) 0] 0 1 v) (hd : 1 ≤ d) (hv : v = -1) (hr : r = -2) : zz_wor f m l d n r := by
  obtain ⟨d, rfl⟩ : ∃ k, d = k + 1 := ⟨d - 1, by omega⟩
  exact ⟨v, h, Or.inr (Or.inl ⟨hv, hr⟩)⟩
theorem zz_wor_0 {f m l : Int} {d d' : Nat} {n n' r v : Int} (h : zz_res f m l n [zz_cd (fun _ => -1) 0] 0 1 v) (h1 : zz_wor f m l d' n' r) (hd : d = d' + 1) (hv : v = 0) (hn : n' = n + 1) : zz_wor f m l d n r := by
  subst hd
  subst hn
  exact ⟨v, h, Or.inr (Or.inr ⟨hv, h1⟩)⟩
def zz_wq (t f m l r : Int) : Prop := t = 0 → zz_wor f m l (15 - l).toNat l r
theorem zz_pl_bf {f n : Int} {h : Nat → Int32} {e a r : Int} (hf : f = 2 ∨ f = 3) (hb : zz_bf (f = 2) n h a r) : zz_pl f n h e a r := by
  rcases hf with c | c
  · exact Or.inr (Or.inr (Or.inl ⟨c, zz_bf_cg ⟨fun _ => trivial, fun _ => c⟩ hb⟩))
  · exact Or.inr (Or.inr (Or.inr ⟨c, zz_bf_cg ⟨fun z => by omega, fun z => z.elim⟩ hb⟩))

/-! the pure facts: lists of form 7, runs, slots -/
def zz_lo (v : Nat) : Nat := if v < 2 then 0 else if v < 4 then 4 + 4 * (v - 2) / 2 else if v < 8 then 8 + 4 * (v - 4) / 4 else if v < 16 then 12 + 4 * (v - 8) / 8 else if v < 32 then 16 + 4 * (v - 16) / 16 else if v < 64 then 20 + 4 * (v - 32) / 32 else if v < 128 then 24 + 4 * (v - 64) / 64 else if v < 256 then 28 + 4 * (v - 128) / 128 else if v < 512 then 32 + 4 * (v - 256) / 256 else if v < 1024 then 36 + 4 * (v - 512) / 512 else 40
theorem zz_lo_step : ∀ v, v < 1024 → zz_lo v ≤ zz_lo (v + 1) := by decide +kernel
theorem zz_lo_lt : ∀ v, v < 1025 → zz_lo v < 44 := by decide +kernel
theorem zz_lo_mono (u : Nat) : ∀ d, u + d ≤ 1024 → zz_lo u ≤ zz_lo (u + d)
  | 0, _ => Nat.le_refl _
  | d + 1, h => Nat.le_trans (zz_lo_mono u d (by omega)) (zz_lo_step (u + d) (by omega))
theorem zz_lo_gt {u v : Nat} (h : zz_lo u < zz_lo v) (hu : u ≤ 1024) : u < v := by
  refine Nat.lt_of_not_le fun z => ?_
  obtain ⟨d, rfl⟩ := Nat.exists_eq_add_of_le z
  have := zz_lo_mono v d (by omega)
  omega
theorem zz_updE (f : Nat → Int32) (i : Nat) (v : Int32) (x : Nat) : upd f i v x = if x = i then v else f x := rfl
/-- the lists hold just S, each once -/
def zz_rep (f m : Nat → Int32) (S : Nat → Nat → Prop) : Prop := ∀ l : Nat, l < 44 → (∀ k : Nat, (k : Int) < (m l).toInt → ∃ p : Nat, (f (1024 * l + k)).toInt = (p : Int) ∧ S l p) ∧ (∀ p : Nat, S l p → ∃ k : Nat, (k : Int) < (m l).toInt ∧ (f (1024 * l + k)).toInt = (p : Int)) ∧ (∀ k k' : Nat, (k : Int) < (m l).toInt → (k' : Int) < (m l).toInt → (f (1024 * l + k)).toInt = (f (1024 * l + k')).toInt → k = k')
theorem zz_rep.cg {f m : Nat → Int32} {S S' : Nat → Nat → Prop} (h : zz_rep f m S) (hs : ∀ l p, l < 44 → (S l p ↔ S' l p)) : zz_rep f m S' := fun l hl => ⟨fun k hk => by
    obtain ⟨p, e, hp⟩ := (h l hl).1 k hk
    exact ⟨p, e, (hs l p hl).mp hp⟩, fun p hp => (h l hl).2.1 p ((hs l p hl).mpr hp), (h l hl).2.2⟩
def zz_TL (f g : Nat → Int32) (l k : Int) (p : Int32) : Prop := ∀ x : Nat, g x = if (x : Int) = 1024 * l then p else if 1024 * l < (x : Int) ∧ (x : Int) ≤ 1024 * l + k then f (x - 1) else f x
theorem zz_TL_nil {f : Nat → Int32} {l k : Int} {p : Int32} {i : Nat} (hk : k ≤ 0) (hi : (i : Int) = 1024 * l) : zz_TL f (upd f i p) l k p := fun x => by
  rw [zz_updE]
  by_cases h : x = i
  · rw [if_pos h, if_pos (by omega)]
  · rw [if_neg h, if_neg (by omega), if_neg (by omega)]
theorem zz_TL_step {f g : Nat → Int32} {l k k' : Int} {p : Int32} {i j : Nat} (hg : zz_TL (upd f i (f j)) g l k' p) (hk : 0 < k) (hk' : k' = k - 1) (hi : (i : Int) = 1024 * l + k) (hj : (j : Int) = 1024 * l + k - 1) : zz_TL f g l k p := fun x => by
  have h := hg x
  by_cases h0 : (x : Int) = 1024 * l
  · rw [if_pos h0] at h ⊢; exact h
  · rw [if_neg h0] at h ⊢
    by_cases h1 : 1024 * l < (x : Int) ∧ (x : Int) ≤ 1024 * l + k
    · rw [if_pos h1]
      by_cases h2 : 1024 * l < (x : Int) ∧ (x : Int) ≤ 1024 * l + k'
      · rw [if_pos h2, zz_updE, if_neg (by omega)] at h; exact h
      · rw [if_neg h2, zz_updE, if_pos (by omega)] at h
        rw [h, show j = x - 1 by omega]
    · rw [if_neg h1]
      rw [if_neg (by omega), zz_updE, if_neg (by omega)] at h; exact h
theorem zz_rep_to {f m g m' : Nat → Int32} {S : Nat → Nat → Prop} {l : Nat} {p : Int32} (h : zz_rep f m S) (hl : l < 44) (hp : 0 ≤ p.toInt) (hm : ∀ j, j < 44 → 0 ≤ (m j).toInt ∧ (m j).toInt ≤ 1000) (hg : zz_TL f g l (m l).toInt p) (h1 : (m' l).toInt = (m l).toInt + 1) (h2 : ∀ j, j ≠ l → m' j = m j) (hS : ¬ S l p.toInt.toNat) : zz_rep g m' (fun l' q => S l' q ∨ (l' = l ∧ (q : Int) = p.toInt)) := fun l' hl' => by
  by_cases e : l' = l
  · subst e
    have hg0 : g (1024 * l') = p := by rw [hg]; exact if_pos (by omega)
    have hgk : ∀ k : Nat, (k : Int) < (m l').toInt → g (1024 * l' + (k + 1)) = f (1024 * l' + k) := fun k hk => by
      rw [hg, if_neg (by omega), if_pos (by omega)]; rfl
    refine ⟨fun k hk => ?_, fun q hq => ?_, fun k k' hk hk' he => ?_⟩
    · cases k with
      | zero => exact ⟨p.toInt.toNat, by rw [Nat.add_zero, hg0]; omega, Or.inr ⟨rfl, by omega⟩⟩
      | succ k =>
        obtain ⟨q, e1, e2⟩ := (h l' hl').1 k (by omega)
        exact ⟨q, by rw [hgk k (by omega)]; exact e1, Or.inl e2⟩
    · rcases hq with hq | ⟨_, hq⟩
      · obtain ⟨k, e1, e2⟩ := (h l' hl').2.1 q hq
        exact ⟨k + 1, by omega, by rw [hgk k e1]; exact e2⟩
      · have := hm l' hl'
        exact ⟨0, by omega, by rw [Nat.add_zero, hg0]; omega⟩
    · have hz : ∀ k : Nat, (k : Int) < (m l').toInt → p.toInt ≠ (f (1024 * l' + k)).toInt := fun k hk hE => by
        obtain ⟨q, e1, e2⟩ := (h l' hl').1 k hk
        exact hS (by rw [show p.toInt.toNat = q by omega]; exact e2)
      cases k with
      | zero =>
        cases k' with
        | zero => rfl
        | succ k' => rw [hgk k' (by omega), Nat.add_zero, hg0] at he; exact absurd he (hz k' (by omega))
      | succ k =>
        cases k' with
        | zero => rw [hgk k (by omega), Nat.add_zero, hg0] at he; exact absurd he.symm (hz k (by omega))
        | succ k' =>
          rw [hgk k (by omega), hgk k' (by omega)] at he
          rw [(h l' hl').2.2 k k' (by omega) (by omega) he]
  · have hb := hm l hl
    have hb' := hm l' hl'
    have hgk : ∀ k : Nat, (k : Int) < (m l').toInt → g (1024 * l' + k) = f (1024 * l' + k) := fun k hk => by
      rw [hg, if_neg (by omega), if_neg (by omega)]
    rw [h2 l' e]
    refine ⟨fun k hk => ?_, fun q hq => ?_, fun k k' hk hk' he => ?_⟩
    · obtain ⟨q, e1, e2⟩ := (h l' hl').1 k hk
      exact ⟨q, by rw [hgk k hk]; exact e1, Or.inl e2⟩
    · rcases hq with hq | ⟨hq, _⟩
      · obtain ⟨k, e1, e2⟩ := (h l' hl').2.1 q hq
        exact ⟨k, e1, by rw [hgk k e1]; exact e2⟩
      · exact absurd hq e
    · rw [hgk k hk, hgk k' hk'] at he
      exact (h l' hl').2.2 k k' hk hk' he
def zz_FL (f g : Nat → Int32) (l j n : Int) : Prop := ∀ x : Nat, g x = if 1024 * l + j ≤ (x : Int) ∧ (x : Int) < 1024 * l + n then f (x + 1) else f x
theorem zz_FL_nil {f : Nat → Int32} {l j n : Int} (h : n ≤ j) : zz_FL f f l j n := fun x => by rw [if_neg (by omega)]
theorem zz_FL_step {f g : Nat → Int32} {l j j' n : Int} {i i' : Nat} (hg : zz_FL (upd f i (f i')) g l j' n) (hj : j < n) (hj' : j' = j + 1) (hi : (i : Int) = 1024 * l + j) (hi' : (i' : Int) = 1024 * l + j + 1) : zz_FL f g l j n := fun x => by
  have h := hg x
  by_cases h1 : 1024 * l + j ≤ (x : Int) ∧ (x : Int) < 1024 * l + n
  · rw [if_pos h1]
    by_cases h2 : 1024 * l + j' ≤ (x : Int) ∧ (x : Int) < 1024 * l + n
    · rw [if_pos h2, zz_updE, if_neg (by omega)] at h; exact h
    · rw [if_neg h2, zz_updE, if_pos (by omega)] at h
      rw [h, show i' = x + 1 by omega]
  · rw [if_neg h1]
    rw [if_neg (by omega), zz_updE, if_neg (by omega)] at h; exact h
theorem zz_rep_from {f m g m' : Nat → Int32} {S : Nat → Nat → Prop} {l j : Nat} {p : Int} (h : zz_rep f m S) (hl : l < 44) (hm : ∀ j, j < 44 → 0 ≤ (m j).toInt ∧ (m j).toInt ≤ 1000) (hj : (j : Int) < (m l).toInt) (hp : (f (1024 * l + j)).toInt = p) (hg : zz_FL f g l j ((m l).toInt - 1)) (h1 : (m' l).toInt = (m l).toInt - 1) (h2 : ∀ j, j ≠ l → m' j = m j) : zz_rep g m' (fun l' q => S l' q ∧ ¬ (l' = l ∧ (q : Int) = p)) := fun l' hl' => by
  by_cases e : l' = l
  · subst e
    have hgk : ∀ k : Nat, (k : Int) < (m l').toInt - 1 → ∃ k1 : Nat, (k1 : Int) < (m l').toInt ∧ k1 ≠ j ∧ g (1024 * l' + k) = f (1024 * l' + k1) ∧ (k1 = k ∧ k < j ∨ k1 = k + 1 ∧ j ≤ k) := fun k hk => by
      by_cases hc : k < j
      · exact ⟨k, by omega, by omega, by rw [hg, if_neg (by omega)], Or.inl ⟨rfl, hc⟩⟩
      · exact ⟨k + 1, by omega, by omega, by rw [hg, if_pos (by omega)]; rfl, Or.inr ⟨rfl, by omega⟩⟩
    refine ⟨fun k hk => ?_, fun q hq => ?_, fun k k' hk hk' he => ?_⟩
    · obtain ⟨k1, a1, a2, a3, a4⟩ := hgk k (by omega)
      obtain ⟨q, e1, e2⟩ := (h l' hl').1 k1 a1
      refine ⟨q, by rw [a3]; exact e1, e2, fun z => a2 ?_⟩
      exact (h l' hl').2.2 k1 j a1 hj (by omega)
    · obtain ⟨k1, e1, e2⟩ := (h l' hl').2.1 q hq.1
      have hne : k1 ≠ j := fun z => hq.2 ⟨rfl, by subst z; omega⟩
      by_cases hc : k1 < j
      · exact ⟨k1, by omega, by rw [hg, if_neg (by omega)]; exact e2⟩
      · obtain ⟨k2, rfl⟩ : ∃ k2, k1 = k2 + 1 := ⟨k1 - 1, by omega⟩
        exact ⟨k2, by omega, by rw [hg, if_pos (by omega)]; exact e2⟩
    · obtain ⟨k1, a1, a2, a3, a4⟩ := hgk k (by omega)
      obtain ⟨k2, b1, b2, b3, b4⟩ := hgk k' (by omega)
      rw [a3, b3] at he
      have := (h l' hl').2.2 k1 k2 a1 b1 he
      omega
  · have hb := hm l hl
    have hb' := hm l' hl'
    have hgk : ∀ k : Nat, (k : Int) < (m l').toInt → g (1024 * l' + k) = f (1024 * l' + k) := fun k hk => by
      rw [hg, if_neg (by omega)]
    rw [h2 l' e]
    refine ⟨fun k hk => ?_, fun q hq => ?_, fun k k' hk hk' he => ?_⟩
    · obtain ⟨q, e1, e2⟩ := (h l' hl').1 k hk
      exact ⟨q, by rw [hgk k hk]; exact e1, e2, fun z => e z.1⟩
    · obtain ⟨k, e1, e2⟩ := (h l' hl').2.1 q hq.1
      exact ⟨k, e1, by rw [hgk k e1]; exact e2⟩
    · rw [hgk k hk, hgk k' hk'] at he
      exact (h l' hl').2.2 k k' hk hk' he
/-- a run -/
def zz_rn (o : Nat → Int32) (W p v : Nat) : Prop := 1 ≤ v ∧ p + v ≤ W ∧ (∀ x, p ≤ x → x < p + v → (o x).toInt = -1) ∧ (p = 0 ∨ (o (p - 1)).toInt ≠ -1) ∧ (p + v = W ∨ (o (p + v)).toInt ≠ -1)
theorem zz_rn_uq {o : Nat → Int32} {W p v u : Nat} (h : zz_rn o W p v) (g : zz_rn o W p u) : u = v := by
  obtain ⟨a1, a2, a3, a4, a5⟩ := h
  obtain ⟨b1, b2, b3, b4, b5⟩ := g
  rcases Nat.lt_trichotomy u v with c | c | c
  · have := a3 (p + u) (by omega) (by omega); omega
  · exact c
  · have := b3 (p + v) (by omega) (by omega); omega
theorem zz_rn_sep {o : Nat → Int32} {W p v q u : Nat} (h : zz_rn o W p v) (g : zz_rn o W q u) (c : q < p) : q + u < p := by
  obtain ⟨a1, a2, a3, a4, a5⟩ := h
  obtain ⟨b1, b2, b3, b4, b5⟩ := g
  refine Nat.lt_of_not_le fun z => ?_
  have := b3 (p - 1) (by omega) (by omega); omega
theorem zz_rn_cut {o o0 : Nat → Int32} {W F V p n : Nat} (h : zz_rn o W F V) (hF : F ≤ p) (hn : 1 ≤ n) (hp : p + n ≤ F + V) (hout : ∀ x, x < p ∨ p + n ≤ x → o0 x = o x) (hin : ∀ x, p ≤ x → x < p + n → (o0 x).toInt ≠ -1) (q u : Nat) : zz_rn o0 W q u ↔ (zz_rn o W q u ∧ q ≠ F) ∨ (F < p ∧ q = F ∧ u = p - F) ∨ (p + n < F + V ∧ q = p + n ∧ u = F + V - (p + n)) := by
  have h' := h
  obtain ⟨a1, a2, a3, a4, a5⟩ := h
  constructor
  · rintro ⟨b1, b2, b3, b4, b5⟩
    by_cases c : q < p
    · have c1 : q + u ≤ p := by
        refine Nat.le_of_not_lt fun z => hin p (Nat.le_refl _) (by omega) (b3 p (by omega) (by omega))
      have o1 : ∀ x, x < p → (o0 x).toInt = (o x).toInt := fun x hx => by rw [hout x (Or.inl hx)]
      by_cases e : q = F
      · refine Or.inr (Or.inl ⟨by omega, e, ?_⟩)
        refine Nat.le_antisymm (by omega) (Nat.le_of_not_lt fun z => ?_)
        have e1 := a3 (q + u) (by omega) (by omega)
        have e2 := o1 (q + u) (by omega)
        omega
      · refine Or.inl ⟨⟨b1, b2, fun x h1 h2 => by rw [← o1 x (by omega)]; exact b3 x h1 h2, ?_, ?_⟩, e⟩
        · rcases Nat.eq_zero_or_pos q with z | z
          · exact Or.inl z
          · have := o1 (q - 1) (by omega); omega
        · by_cases d : q + u < p
          · have := o1 (q + u) d; omega
          · exfalso
            by_cases d1 : q < F
            · have e1 := b3 (F - 1) (by omega) (by omega)
              have e2 := o1 (F - 1) (by omega)
              omega
            · have e1 := a3 (q - 1) (by omega) (by omega)
              have e2 := o1 (q - 1) (by omega)
              omega
    · have c1 : p + n ≤ q := Nat.le_of_not_lt fun z => hin q (by omega) z (b3 q (Nat.le_refl _) (by omega))
      have o1 : ∀ x, p + n ≤ x → (o0 x).toInt = (o x).toInt := fun x hx => by rw [hout x (Or.inr hx)]
      by_cases e : q = p + n
      · have e0 := b3 q (Nat.le_refl _) (by omega)
        have e1 := o1 q (by omega)
        have d : p + n < F + V := by
          refine Nat.lt_of_not_le fun z => ?_
          rw [show q = F + V by omega] at e0 e1
          omega
        refine Or.inr (Or.inr ⟨d, e, ?_⟩)
        rcases Nat.lt_trichotomy (q + u) (F + V) with k | k | k
        · have f1 := a3 (q + u) (by omega) (by omega)
          have f2 := o1 (q + u) (by omega)
          omega
        · omega
        · have f1 := b3 (F + V) (by omega) (by omega)
          have f2 := o1 (F + V) (by omega)
          omega
      · refine Or.inl ⟨⟨b1, b2, fun x h1 h2 => by rw [← o1 x (by omega)]; exact b3 x h1 h2, ?_, ?_⟩, by omega⟩
        · have := o1 (q - 1) (by omega); omega
        · have := o1 (q + u) (by omega); omega
  · rintro (⟨g, hne⟩ | ⟨c, rfl, rfl⟩ | ⟨c, rfl, rfl⟩)
    · have g' := g
      obtain ⟨b1, b2, b3, b4, b5⟩ := g
      by_cases c : q < F
      · have s := zz_rn_sep h' g' c
        have o1 : ∀ x, x < p → (o0 x).toInt = (o x).toInt := fun x hx => by rw [hout x (Or.inl hx)]
        refine ⟨b1, b2, fun x h1 h2 => by rw [o1 x (by omega)]; exact b3 x h1 h2, ?_, ?_⟩
        · have := o1 (q - 1) (by omega); omega
        · have := o1 (q + u) (by omega); omega
      · have s := zz_rn_sep g' h' (by omega)
        have o1 : ∀ x, p + n ≤ x → (o0 x).toInt = (o x).toInt := fun x hx => by rw [hout x (Or.inr hx)]
        refine ⟨b1, b2, fun x h1 h2 => by rw [o1 x (by omega)]; exact b3 x h1 h2, ?_, ?_⟩
        · have := o1 (q - 1) (by omega); omega
        · have := o1 (q + u) (by omega); omega
    · have o1 : ∀ x, x < p → (o0 x).toInt = (o x).toInt := fun x hx => by rw [hout x (Or.inl hx)]
      refine ⟨by omega, by omega, fun x h1 h2 => by rw [o1 x (by omega)]; exact a3 x h1 (by omega), ?_, Or.inr ?_⟩
      · rcases Nat.eq_zero_or_pos q with z | z
        · exact Or.inl z
        · have := o1 (q - 1) (by omega); omega
      · rw [show q + (p - q) = p by omega]; exact hin p (Nat.le_refl _) (by omega)
    · have o1 : ∀ x, p + n ≤ x → (o0 x).toInt = (o x).toInt := fun x hx => by rw [hout x (Or.inr hx)]
      refine ⟨by omega, by omega, fun x h1 h2 => by rw [o1 x (by omega)]; exact a3 x (by omega) (by omega), Or.inr (hin _ (by omega) (by omega)), ?_⟩
      rw [show p + n + (F + V - (p + n)) = F + V by omega]
      have := o1 (F + V) (by omega); omega
def zz_S (o : Nat → Int32) (W l p : Nat) : Prop := ∃ v, zz_rn o W p v ∧ zz_lo v = l
theorem zz_S_cut {o o0 : Nat → Int32} {W F V p n : Nat} (h : zz_rn o W F V) (hF : F ≤ p) (hn : 1 ≤ n) (hp : p + n ≤ F + V) (hout : ∀ x, x < p ∨ p + n ≤ x → o0 x = o x) (hin : ∀ x, p ≤ x → x < p + n → (o0 x).toInt ≠ -1) (l q : Nat) : zz_S o0 W l q ↔ (zz_S o W l q ∧ ¬ (l = zz_lo V ∧ q = F)) ∨ (F < p ∧ q = F ∧ l = zz_lo (p - F)) ∨ (p + n < F + V ∧ q = p + n ∧ l = zz_lo (F + V - (p + n))) := by
  have C := zz_rn_cut h hF hn hp hout hin
  constructor
  · rintro ⟨u, g, rfl⟩
    rcases (C q u).mp g with ⟨g1, g2⟩ | ⟨c, rfl, rfl⟩ | ⟨c, rfl, rfl⟩
    · exact Or.inl ⟨⟨u, g1, rfl⟩, fun z => g2 z.2⟩
    · exact Or.inr (Or.inl ⟨c, rfl, rfl⟩)
    · exact Or.inr (Or.inr ⟨c, rfl, rfl⟩)
  · rintro (⟨⟨u, g, rfl⟩, hne⟩ | ⟨c, rfl, rfl⟩ | ⟨c, rfl, rfl⟩)
    · refine ⟨u, (C q u).mpr (Or.inl ⟨g, fun z => hne ⟨?_, z⟩⟩), rfl⟩
      subst z
      rw [zz_rn_uq h g]
    · exact ⟨_, (C _ _).mpr (Or.inr (Or.inl ⟨c, rfl, rfl⟩)), rfl⟩
    · exact ⟨_, (C _ _).mpr (Or.inr (Or.inr ⟨c, rfl, rfl⟩)), rfl⟩
theorem zz_S_no {o : Nat → Int32} {W l p : Nat} (hp : 1 ≤ p) (h : (o (p - 1)).toInt = -1) : ¬ zz_S o W l p := by
  rintro ⟨v, ⟨_, _, _, a4, _⟩, _⟩
  omega
theorem zz_S_no' {o : Nat → Int32} {W l p : Nat} (h : (o p).toInt ≠ -1) : ¬ zz_S o W l p := by
  rintro ⟨v, ⟨a1, _, a3, _, _⟩, _⟩
  exact h (a3 p (Nat.le_refl _) (by omega))
theorem zz_S_join {o o0 : Nat → Int32} {W F V p n : Nat} (h : zz_rn o W F V) (hF : F ≤ p) (hn : 1 ≤ n) (hp : p + n ≤ F + V) (hout : ∀ x, x < p ∨ p + n ≤ x → o0 x = o x) (hin : ∀ x, p ≤ x → x < p + n → (o0 x).toInt ≠ -1) (l q : Nat) : zz_S o W l q ↔ ((zz_S o0 W l q ∧ ¬ (F < p ∧ l = zz_lo (p - F) ∧ q = F)) ∧ ¬ (p + n < F + V ∧ l = zz_lo (F + V - (p + n)) ∧ q = p + n)) ∨ (l = zz_lo V ∧ q = F) := by
  have C := zz_S_cut h hF hn hp hout hin l q
  have N : ¬ zz_S o W l (p + n) := zz_S_no (by omega) (h.2.2.1 _ (by omega) (by omega))
  constructor
  · intro g
    by_cases e : l = zz_lo V ∧ q = F
    · exact Or.inr e
    · refine Or.inl ⟨⟨C.mpr (Or.inl ⟨g, e⟩), fun z => e ⟨?_, z.2.2⟩⟩, fun z => N (by rw [← z.2.2]; exact g)⟩
      obtain ⟨u, g1, g2⟩ := g
      rw [z.2.2] at g1
      rw [← g2, zz_rn_uq h g1]
  · rintro (⟨⟨g, n1⟩, n2⟩ | ⟨rfl, rfl⟩)
    · rcases C.mp g with ⟨g1, _⟩ | ⟨c, d, e⟩ | ⟨c, d, e⟩
      · exact g1
      · exact absurd ⟨c, e, d⟩ n1
      · exact absurd ⟨c, e, d⟩ n2
    · exact ⟨_, h, rfl⟩

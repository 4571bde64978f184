/-! RUNS as the reference walks over them -/
theorem zz_ff_skip {n : Int} {h : Nat → Int32} {a fr fr' ah r : Int} (hr : zz_ff n h a fr' ah r) (hf : fr ≤ fr') (ha : 1 ≤ a) (h0 : 0 ≤ fr) (hs : ∀ x : Nat, fr ≤ (x : Int) → (x : Int) < fr' → (h x).toInt ≠ -1) : zz_ff n h a fr ah r := by
  have key : ∀ p, fr ≤ p → p < fr' → ¬ zz_ft n h a p := fun p h1 h2 z => hs p.toNat (by omega) (by omega) (z.2 p.toNat (by omega) (by omega))
  rcases hr with ⟨a1, a2⟩ | ⟨a1, a2, a3, a4⟩
  · exact Or.inl ⟨a1, fun p h1 h2 => by
      by_cases c : p < fr'
      · exact key p h1 c
      · exact a2 p (by omega) h2⟩
  · exact Or.inr ⟨by omega, a2, a3, fun p h1 h2 => by
      by_cases c : p < fr'
      · exact key p h1 c
      · exact a4 p (by omega) h2⟩
/-- runFrom -/
def zz_rf (w : Int) (o : Nat → Int32) (fr r sz : Int) : Prop := (r = -1 ∧ ∀ x : Nat, fr ≤ (x : Int) → (x : Int) < w → (o x).toInt ≠ -1) ∨ (fr ≤ r ∧ 1 ≤ sz ∧ r + sz ≤ w ∧ (∀ x : Nat, fr ≤ (x : Int) → (x : Int) < r → (o x).toInt ≠ -1) ∧ zz_sq w o r (r + sz))
def zz_nfr (o : Nat → Int32) (a e : Int) : Prop := ∀ x : Nat, a ≤ (x : Int) → (x : Int) < e → (o x).toInt ≠ -1
theorem zz_nfr_0 {o : Nat → Int32} {a e : Int} (h : e ≤ a) : zz_nfr o a e := fun x h1 h2 => by omega
theorem zz_nfr_step {o : Nat → Int32} {a e e' : Int} {i : Nat} (h : zz_nfr o a e) (hi : (i : Int) = e) (ho : (o i).toInt ≠ -1) (he : e' = e + 1) : zz_nfr o a e' := fun x h1 h2 => by
  by_cases c : x = i
  · rw [c]; exact ho
  · exact h x h1 (by omega)
theorem zz_rf_no {w fr r sz e : Int} {o : Nat → Int32} (h : zz_nfr o fr e) (he : w ≤ e) (hr : r = -1) : zz_rf w o fr r sz := Or.inl ⟨hr, fun x h1 h2 => h x h1 (by omega)⟩
theorem zz_rf_yes {w fr r sz e : Int} {o : Nat → Int32} (h : zz_nfr o fr r) (hs : zz_sq w o r e) (hf : fr ≤ r) (h1 : 1 ≤ sz) (he : e = r + sz) (hw : r + sz ≤ w) : zz_rf w o fr r sz := Or.inr ⟨hf, h1, hw, h, by rw [← he]; exact hs⟩
/-- all free from a to q, and beyond q as far as e -/
theorem zz_sq_up {w : Int} {o : Nat → Int32} {a q e : Int} (h : zz_bk o a q) (hq : a ≤ q) (hs : zz_sq w o q e) (ha : a < q) (hw : q ≤ w) : zz_sq w o a e := by
  refine ⟨by have := hs.1; omega, fun x h1 h2 => ?_, hs.2.2.1, ?_⟩
  · by_cases c : (x : Int) < q
    · exact h x h1 c
    · exact hs.2.1 x (by omega) h2
  · have := hs.2.2.2
    have := hs.1
    omega
-- firstRun
def zz_fq (w : Int) (o : Nat → Int32) (n ah p r : Int) : Prop := (p = -1 ∧ r = -1) ∨ (0 ≤ p ∧ zz_ff w o n p ah r)
theorem zz_fq_none {w n ah p r : Int} {o : Nat → Int32} (hp : p = -1) (hr : r = -1) : zz_fq w o n ah p r := Or.inl ⟨hp, hr⟩
theorem zz_fq_end {w n ah p r : Int} {o : Nat → Int32} (hp : ah ≤ p) (h0 : 0 ≤ p) (hr : r = -1) : zz_fq w o n ah p r := Or.inr ⟨h0, zz_ff_end hr hp⟩
theorem zz_fq_hit {w n ah p r sz : Int} {o : Nat → Int32} (hs : zz_sq w o p (p + sz)) (h0 : 0 ≤ p) (hn : n ≤ sz) (h1 : 1 ≤ n) (hp : p < ah) (hr : r = p) : zz_fq w o n ah p r := Or.inr ⟨h0, zz_ff_hit hs hr h1 (by omega) hp⟩
theorem zz_sq_gap {w p sz p' sz' : Int} {o : Nat → Int32} (hs : zz_sq w o p (p + sz)) (hf : zz_rf w o (p + sz) p' sz') (h0 : 0 ≤ p) (hz : 0 ≤ sz) (hp : 0 ≤ p') : p + sz + 1 ≤ p' := by
  rcases hf with ⟨h, _⟩ | ⟨h1, h2, h3, h4, h5⟩
  · omega
  · rcases hs.2.2.1 with c | c
    · omega
    · by_cases d : p' = p + sz
      · exfalso
        have := h5.2.1 (p + sz).toNat (by omega) (by omega)
        exact c this
      · omega
theorem zz_fq_next {w n ah p r sz p' sz' a : Int} {o : Nat → Int32} (h : zz_fq w o n ah p' r) (hf : zz_rf w o a p' sz') (ha : a = p + sz) (hs : zz_sq w o p (p + sz)) (h0 : 0 ≤ p) (hz : 0 ≤ sz) (hn : sz < n) (h1 : 1 ≤ n) : zz_fq w o n ah p r := by
  subst ha
  refine Or.inr ⟨h0, ?_⟩
  rcases h with ⟨g1, g2⟩ | ⟨g1, g2⟩
  · refine zz_ff_step hs (Or.inl ⟨g2, fun q q1 q2 z => ?_⟩) (by omega) rfl h0
    rcases hf with ⟨_, hf⟩ | ⟨k1, _⟩
    · have e1 := z.1
      exact hf q.toNat (by omega) (by omega) (z.2 q.toNat (by omega) (by omega))
    · omega
  · have gp := zz_sq_gap hs hf h0 hz g1
    rcases hf with ⟨k1, _⟩ | ⟨k1, k2, k3, k4, k5⟩
    · omega
    · exact zz_ff_step hs (zz_ff_skip g2 gp h1 (by omega) (fun x x1 x2 => k4 x (by omega) x2)) (by omega) rfl h0
theorem zz_fq_top {w n fr ah p r sz : Int} {o : Nat → Int32} (h : zz_fq w o n ah p r) (hf : zz_rf w o fr p sz) (h0 : 0 ≤ fr) (h1 : 1 ≤ n) : zz_ff w o n fr ah r := by
  rcases h with ⟨g1, g2⟩ | ⟨g1, g2⟩
  · rcases hf with ⟨_, hf⟩ | ⟨k1, _⟩
    · refine Or.inl ⟨g2, fun q q1 q2 z => ?_⟩
      have e1 := z.1
      exact hf q.toNat (by omega) (by omega) (z.2 q.toNat (by omega) (by omega))
    · omega
  · rcases hf with ⟨k1, _⟩ | ⟨k1, k2, k3, k4, k5⟩
    · omega
    · exact zz_ff_skip g2 k1 h1 h0 k4
-- bestRun
/-- the run that runFrom found begins where it says -/
theorem zz_rf_rn {w fr r sz : Int} {o : Nat → Int32} (hf : zz_rf w o fr r sz) (hr : 0 ≤ r) (h0 : 0 ≤ fr) (hl : fr = 0 ∨ w ≤ fr ∨ (o fr.toNat).toInt ≠ -1) : zz_rn o w.toNat r.toNat sz.toNat := by
  rcases hf with ⟨k1, _⟩ | ⟨k1, k2, k3, k4, k5⟩
  · omega
  · have e := k5.2.1
    refine ⟨by omega, by omega, fun x h1 h2 => e x (by omega) (by omega), ?_, ?_⟩
    · by_cases c : r = 0
      · exact Or.inl (by omega)
      · right
        by_cases d : fr < r
        · exact k4 (r.toNat - 1) (by omega) (by omega)
        · exfalso
          rcases hl with hl | hl | hl
          · omega
          · omega
          · exact hl (e fr.toNat (by omega) (by omega))
    · rcases k5.2.2.1 with c | c
      · exact Or.inl (by omega)
      · right
        rw [show r.toNat + sz.toNat = (r + sz).toNat by omega]
        exact c
theorem zz_bi_skip {b : Prop} {n : Int} {h : Nat → Int32} {a best size p p' : Int} (hB : zz_bi b n h a best size p) (hn : ∀ q u : Nat, zz_rn h n.toNat q u → p ≤ (q : Int) → (q : Int) < p' → False) (hp : p ≤ p') : zz_bi b n h a best size p' := by
  rcases hB with ⟨b1, b2⟩ | ⟨b1, b2, b3, b4, b5, b6⟩
  · refine Or.inl ⟨b1, fun q u hr hq => ?_⟩
    by_cases c : (q : Int) < p
    · exact b2 q u hr c
    · exact (hn q u hr (by omega) hq).elim
  · refine Or.inr ⟨b1, by omega, b3, b4, b5, fun q u hr hq => ?_⟩
    by_cases c : (q : Int) < p
    · exact b6 q u hr c
    · exact (hn q u hr (by omega) hq).elim
/-- bestRun's state: p the run that is looked at next, -1: none is left -/
def zz_bj (b : Prop) (w : Int) (o : Nat → Int32) (n best size p sz : Int) : Prop := (p = -1 ∧ zz_bi b w o n best size w) ∨ (0 ≤ p ∧ zz_bi b w o n best size p ∧ zz_rn o w.toNat p.toNat sz.toNat)
theorem zz_bj_ini {b : Prop} {w n best size p sz fr : Int} {o : Nat → Int32} (hf : zz_rf w o fr p sz) (h0 : fr = 0) (hb : best = -1) (hp : -1 ≤ p) (hw : 0 ≤ w) : zz_bj b w o n best size p sz := by
  subst h0
  have i0 : zz_bi b w o n best size 0 := zz_bi_ini (by omega) (Int.le_refl _)
  by_cases c : p = -1
  · refine Or.inl ⟨c, zz_bi_skip i0 (fun q u hr h1 h2 => ?_) hw⟩
    rcases hf with ⟨_, hf⟩ | ⟨k1, _⟩
    · have r1 := hr.1
      have r2 := hr.2.1
      exact hf q (by omega) (by omega) (hr.2.2.1 q (Nat.le_refl _) (by omega))
    · omega
  · refine Or.inr ⟨by omega, zz_bi_skip i0 (fun q u hr h1 h2 => ?_) (by omega), zz_rf_rn hf (by omega) (Int.le_refl _) (Or.inl rfl)⟩
    rcases hf with ⟨k1, _⟩ | ⟨k1, k2, k3, k4, k5⟩
    · omega
    · have r1 := hr.1
      exact k4 q (by omega) (by omega) (hr.2.2.1 q (Nat.le_refl _) (by omega))
/-- from one run to the next -/
theorem zz_bj_next {b : Prop} {w n best' size' p sz p' sz' a : Int} {o : Nat → Int32} (hB : zz_bi b w o n best' size' (p + 1)) (hr : zz_rn o w.toNat p.toNat sz.toNat) (hf : zz_rf w o a p' sz') (ha : a = p + sz) (h0 : 0 ≤ p) (hz : 0 ≤ sz) (hp : -1 ≤ p') (hw : 0 ≤ w) : zz_bj b w o n best' size' p' sz' := by
  subst ha
  obtain ⟨q1, q2, q3, q4, q5⟩ := hr
  have gap : ∀ q u : Nat, zz_rn o w.toNat q u → p + 1 ≤ (q : Int) → (q : Int) < p + sz → False := fun q u hq h1 h2 => by
    rcases hq.2.2.2.1 with c | c
    · omega
    · exact c (q3 (q - 1) (by omega) (by omega))
  by_cases c : p' = -1
  · refine Or.inl ⟨c, zz_bi_skip hB (fun q u hq h1 h2 => ?_) (by omega)⟩
    rcases hf with ⟨_, hf⟩ | ⟨k1, _⟩
    · by_cases d : (q : Int) < p + sz
      · exact gap q u hq h1 d
      · have r1 := hq.1
        exact hf q (by omega) (by omega) (hq.2.2.1 q (Nat.le_refl _) (by omega))
    · omega
  · refine Or.inr ⟨by omega, zz_bi_skip hB (fun q u hq h1 h2 => ?_) ?_, zz_rf_rn hf (by omega) (by omega) ?_⟩
    · rcases hf with ⟨k1, _⟩ | ⟨k1, k2, k3, k4, k5⟩
      · omega
      · by_cases d : (q : Int) < p + sz
        · exact gap q u hq h1 d
        · have r1 := hq.1
          exact k4 q (by omega) (by omega) (hq.2.2.1 q (Nat.le_refl _) (by omega))
    · rcases hf with ⟨k1, _⟩ | ⟨k1, _⟩
      · omega
      · omega
    · rcases q5 with d | d
      · exact Or.inr (Or.inl (by omega))
      · right; right
        rw [show (p + sz).toNat = p.toNat + sz.toNat by omega]
        exact d
theorem zz_bj_end {b : Prop} {w n best size p sz : Int} {o : Nat → Int32} (h : zz_bj b w o n best size p sz) (hp : p = -1) (hb : -1 ≤ best) (hw : 0 ≤ w) : zz_bf b w o n best := by
  rcases h with ⟨_, h⟩ | ⟨h, _⟩
  · exact zz_bi_end h (Int.le_refl _) hb hw
  · omega
-- two rows of owners that are free at the same words
def zz_fe2 (w : Int) (c o : Nat → Int32) : Prop := ∀ x : Nat, (x : Int) < w → ((c x).toInt = -1 ↔ (o x).toInt = -1)
theorem zz_ft_fe {w : Int} {c o : Nat → Int32} {a p : Int} (h : zz_fe2 w c o) (hf : zz_ft w c a p) : zz_ft w o a p := ⟨hf.1, fun x h1 h2 => (h x (by have := hf.1; omega)).mp (hf.2 x h1 h2)⟩
theorem zz_fe2_sy {w : Int} {c o : Nat → Int32} (h : zz_fe2 w c o) : zz_fe2 w o c := fun x hx => (h x hx).symm
theorem zz_ff_fe {w : Int} {c o : Nat → Int32} {a fr ah r : Int} (h : zz_fe2 w c o) (hf : zz_ff w c a fr ah r) : zz_ff w o a fr ah r := by
  rcases hf with ⟨a1, a2⟩ | ⟨a1, a2, a3, a4⟩
  · exact Or.inl ⟨a1, fun p h1 h2 z => a2 p h1 h2 (zz_ft_fe (zz_fe2_sy h) z)⟩
  · exact Or.inr ⟨a1, a2, zz_ft_fe h a3, fun p h1 h2 z => a4 p h1 h2 (zz_ft_fe (zz_fe2_sy h) z)⟩
theorem zz_rn_fe {w : Int} {c o : Nat → Int32} {q u : Nat} (h : zz_fe2 w c o) (hr : zz_rn c w.toNat q u) : zz_rn o w.toNat q u := by
  obtain ⟨a1, a2, a3, a4, a5⟩ := hr
  refine ⟨a1, a2, fun x h1 h2 => (h x (by omega)).mp (a3 x h1 h2), ?_, ?_⟩
  · rcases a4 with d | d
    · exact Or.inl d
    · exact Or.inr (fun z => d ((h (q - 1) (by omega)).mpr z))
  · rcases a5 with d | d
    · exact Or.inl d
    · by_cases k : q + u = w.toNat
      · exact Or.inl k
      · exact Or.inr (fun z => d ((h (q + u) (by omega)).mpr z))
theorem zz_bf_fe {b : Prop} {w : Int} {c o : Nat → Int32} {a r : Int} (h : zz_fe2 w c o) (hf : zz_bf b w c a r) : zz_bf b w o a r := by
  have s := zz_fe2_sy h
  rcases hf with ⟨a1, a2⟩ | ⟨a1, v, a2, a3, a4⟩
  · exact Or.inl ⟨a1, fun q u hr => a2 q u (zz_rn_fe s hr)⟩
  · exact Or.inr ⟨a1, v, zz_rn_fe h a2, a3, fun q u hr => a4 q u (zz_rn_fe s hr)⟩
theorem zz_pl_fe {f w : Int} {c o : Nat → Int32} {e a r : Int} (h : zz_fe2 w c o) (hf : zz_pl f w c e a r) : zz_pl f w o e a r := by
  rcases hf with ⟨a1, a2⟩ | ⟨a1, a2⟩ | ⟨a1, a2⟩ | ⟨a1, a2⟩
  · exact Or.inl ⟨a1, zz_ff_fe h a2⟩
  · refine Or.inr (Or.inl ⟨a1, ?_⟩)
    rcases a2 with ⟨b1, b2⟩ | ⟨b1, b2⟩
    · exact Or.inl ⟨b1, zz_ff_fe h b2⟩
    · exact Or.inr ⟨zz_ff_fe h b1, zz_ff_fe h b2⟩
  · exact Or.inr (Or.inr (Or.inl ⟨a1, zz_bf_fe h a2⟩))
  · exact Or.inr (Or.inr (Or.inr ⟨a1, zz_bf_fe h a2⟩))
-- the k-th run
def zz_rk (w : Int) (o : Nat → Int32) (k p sz : Int) : Prop := ∀ (pl wd : Nat → Int32) (n : Int), 0 ≤ n → zz_ru w o pl wd n → (p = -1 ∧ n ≤ k) ∨ (0 ≤ p ∧ k < n ∧ (pl k.toNat).toInt = p ∧ (wd k.toNat).toInt = sz)
theorem zz_rk_0 {w p sz fr k : Int} {o : Nat → Int32} (hf : zz_rf w o fr p sz) (h0 : fr = 0) (hk : k = 0) (hp : -1 ≤ p) (hw : 0 ≤ w) : zz_rk w o k p sz := fun pl wd n hn hu => by
  subst h0
  subst hk
  by_cases c : p = -1
  · refine Or.inl ⟨c, Int.not_lt.mp fun z => ?_⟩
    obtain ⟨b1, b2, b3⟩ := hu.1 0 (by omega)
    rcases hf with ⟨_, hf⟩ | ⟨k1, _⟩
    · have r1 := b3.1
      have r2 := b3.2.1
      exact hf (pl 0).toInt.toNat (by omega) (by omega) (b3.2.2.1 _ (Nat.le_refl _) (by omega))
    · omega
  · have R := zz_rf_rn hf (by omega) (Int.le_refl _) (Or.inl rfl)
    obtain ⟨j, j1, j2, j3⟩ := hu.2.1 _ _ R
    rcases hf with ⟨k1, _⟩ | ⟨k1, k2, k3, k4, k5⟩
    · omega
    · have e : j = 0 := by
        by_cases d : j = 0
        · exact d
        · exfalso
          obtain ⟨b1, b2, b3⟩ := hu.1 0 (by omega)
          have := hu.2.2 0 j (by omega) j1
          have r1 := b3.1
          exact k4 (pl 0).toInt.toNat (by omega) (by omega) (b3.2.2.1 _ (Nat.le_refl _) (by omega))
      subst e
      exact Or.inr ⟨by omega, by omega, by show (pl 0).toInt = p; omega, by show (wd 0).toInt = sz; omega⟩
theorem zz_rk_next {w p sz p' sz' a k k' : Int} {o : Nat → Int32} (h : zz_rk w o k p sz) (hf : zz_rf w o a p' sz') (ha : a = p + sz) (h0 : 0 ≤ p) (hz : 0 ≤ sz) (hk : 0 ≤ k) (hk' : k' = k + 1) (hp : -1 ≤ p') (hw : 0 ≤ w) : zz_rk w o k' p' sz' := fun pl wd n hn hu => by
  subst ha
  rcases h pl wd n hn hu with ⟨c, _⟩ | ⟨_, c2, c3, c4⟩
  · omega
  · obtain ⟨b1, b2, b3⟩ := hu.1 k.toNat (by omega)
    have e5 := b3.2.2.2.2
    have e2 := b3.2.1
    have hl : p + sz = 0 ∨ w ≤ p + sz ∨ (o (p + sz).toNat).toInt ≠ -1 := by
      rcases e5 with d | d
      · exact Or.inr (Or.inl (by omega))
      · right; right
        rw [show (p + sz).toNat = (pl k.toNat).toInt.toNat + (wd k.toNat).toInt.toNat by omega]
        exact d
    by_cases c : p' = -1
    · refine Or.inl ⟨c, Int.not_lt.mp fun z => ?_⟩
      obtain ⟨d1, d2, d3⟩ := hu.1 k'.toNat (by omega)
      have := hu.2.2 k.toNat k'.toNat (by omega) (by omega)
      rcases hf with ⟨_, hf⟩ | ⟨k1, _⟩
      · have r1 := d3.1
        have r2 := d3.2.1
        exact hf (pl k'.toNat).toInt.toNat (by omega) (by omega) (d3.2.2.1 _ (Nat.le_refl _) (by omega))
      · omega
    · have R := zz_rf_rn hf (by omega) (by omega) hl
      obtain ⟨j, j1, j2, j3⟩ := hu.2.1 _ _ R
      rcases hf with ⟨k1, _⟩ | ⟨k1, k2, k3, k4, k5⟩
      · omega
      · have jk : k.toNat < j := by
          rcases Nat.lt_or_ge k.toNat j with d | d
          · exact d
          · exfalso
            have r1 := b3.1
            by_cases d2 : j = k.toNat
            · rw [d2] at j2; omega
            · have := hu.2.2 j k.toNat (by omega) (by omega)
              omega
        have e : j = k'.toNat := by
          by_cases d : j = k'.toNat
          · exact d
          · exfalso
            obtain ⟨d1, d2, d3⟩ := hu.1 k'.toNat (by omega)
            have z1 := hu.2.2 k.toNat k'.toNat (by omega) (by omega)
            have z2 := hu.2.2 k'.toNat j (by omega) j1
            have r1 := d3.1
            exact k4 (pl k'.toNat).toInt.toNat (by omega) (by omega) (d3.2.2.1 _ (Nat.le_refl _) (by omega))
        subst e
        exact Or.inr ⟨by omega, by omega, by omega, by omega⟩
theorem zz_rk_stay {w p sz p' sz' k k' : Int} {o : Nat → Int32} (h : zz_rk w o k p sz) (hp : p = -1) (hp' : p' = -1) (hk : k ≤ k') : zz_rk w o k' p' sz' := fun pl wd n hn hu => by
  rcases h pl wd n hn hu with ⟨_, c⟩ | ⟨c, _⟩
  · exact Or.inl ⟨hp', by omega⟩
  · omega

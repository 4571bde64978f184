/-! RUNS as the reference walks over them -/
theorem zz_ff_skip {n : Int} {h : Nat → Int32} {a fr fr' ah r : Int} (hr : zz_ff n h a fr' ah r) (hf : fr ≤ fr') (ha : 1 ≤ a) (h0 : 0 ≤ fr) (hs : ∀ x : Nat, fr ≤ (x : Int) → (x : Int) < fr' → (h x).toInt ≠ -1) : zz_ff n h a fr ah r := by
  have key : ∀ p, fr ≤ p → p < fr' → ¬ zz_ft n h a p := fun p h1 h2 z => hs p.toNat (by omega) (by omega) (z.2 p.toNat (by omega) (by omega))
  rcases hr with ⟨a1, a2⟩ | ⟨a1, a2, a3, a4⟩
  · exact Or.inl ⟨a1, fun p h1 h2 => by
      by_cases c : p < fr'
      · exact key p h1 c
      · exact a2 p (by omega) h2⟩
  · exact Or.inr ⟨by omega, a2, a3, fun p h1 h2 => by
      by_cases c : p < fr'
      · exact key p h1 c
      · exact a4 p (by omega) h2⟩
/-- runFrom -/
def zz_rf (w : Int) (o : Nat → Int32) (fr r sz : Int) : Prop := (r = -1 ∧ ∀ x : Nat, fr ≤ (x : Int) → (x : Int) < w → (o x).toInt ≠ -1) ∨ (fr ≤ r ∧ 1 ≤ sz ∧ r + sz ≤ w ∧ (∀ x : Nat, fr ≤ (x : Int) → (x : Int) < r → (o x).toInt ≠ -1) ∧ zz_sq w o r (r + sz))
def zz_nfr (o : Nat → Int32) (a e : Int) : Prop := ∀ x : Nat, a ≤ (x : Int) → (x : Int) < e → (o x).toInt ≠ -1
theorem zz_nfr_0 {o : Nat → Int32} {a e : Int} (h : e ≤ a) : zz_nfr o a e := fun x h1 h2 => by omega
theorem zz_nfr_step {o : Nat → Int32} {a e e' : Int} {i : Nat} (h : zz_nfr o a e) (hi : (i : Int) = e) (ho : (o i).toInt ≠ -1) (he : e' = e + 1) : zz_nfr o a e' := fun x h1 h2 => by
  by_cases c : x = i
  · rw [c]; exact ho
  · exact h x h1 (by omega)
theorem zz_rf_no {w fr r sz e : Int} {o : Nat → Int32} (h : zz_nfr o fr e) (he : w ≤ e) (hr : r = -1) : zz_rf w o fr r sz := Or.inl ⟨hr, fun x h1 h2 => h x h1 (by omega)⟩
theorem zz_rf_yes {w fr r sz e : Int} {o : Nat → Int32} (h : zz_nfr o fr r) (hs : zz_sq w o r e) (hf : fr ≤ r) (h1 : 1 ≤ sz) (he : e = r + sz) (hw : r + sz ≤ w) : zz_rf w o fr r sz := Or.inr ⟨hf, h1, hw, h, by rw [← he]; exact hs⟩
/-- all free from a to q, and beyond q as far as e -/
theorem zz_sq_up {w : Int} {o : Nat → Int32} {a q e : Int} (h : zz_bk o a q) (hq : a ≤ q) (hs : zz_sq w o q e) (ha : a < q) (hw : q ≤ w) : zz_sq w o a e := by
  refine ⟨by have := hs.1; omega, fun x h1 h2 => ?_, hs.2.2.1, ?_⟩
  · by_cases c : (x : Int) < q
    · exact h x h1 c
    · exact hs.2.1 x (by omega) h2
  · have := hs.2.2.2
    have := hs.1
    omega
-- firstRun
def zz_fq (w : Int) (o : Nat → Int32) (n ah p r : Int) : Prop := (p = -1 ∧ r = -1) ∨ (0 ≤ p ∧ zz_ff w o n p ah r)
theorem zz_fq_none {w n ah p r : Int} {o : Nat → Int32} (hp : p = -1) (hr : r = -1) : zz_fq w o n ah p r := Or.inl ⟨hp, hr⟩
theorem zz_fq_end {w n ah p r : Int} {o : Nat → Int32} (hp : ah ≤ p) (h0 : 0 ≤ p) (hr : r = -1) : zz_fq w o n ah p r := Or.inr ⟨h0, zz_ff_end hr hp⟩
theorem zz_fq_hit {w n ah p r sz : Int} {o : Nat → Int32} (hs : zz_sq w o p (p + sz)) (h0 : 0 ≤ p) (hn : n ≤ sz) (h1 : 1 ≤ n) (hp : p < ah) (hr : r = p) : zz_fq w o n ah p r := Or.inr ⟨h0, zz_ff_hit hs hr h1 (by omega) hp⟩
theorem zz_sq_gap {w p sz p' sz' : Int} {o : Nat → Int32} (hs : zz_sq w o p (p + sz)) (hf : zz_rf w o (p + sz) p' sz') (h0 : 0 ≤ p) (hz : 0 ≤ sz) (hp : 0 ≤ p') : p + sz + 1 ≤ p' := by
  rcases hf with ⟨h, _⟩ | ⟨h1, h2, h3, h4, h5⟩
  · omega
  · rcases hs.2.2.1 with c | c
    · omega
    · by_cases d : p' = p + sz
      · exfalso
        have := h5.2.1 (p + sz).toNat (by omega) (by omega)
        exact c this
      · omega
theorem zz_fq_next {w n ah p r sz p' sz' a : Int} {o : Nat → Int32} (h : zz_fq w o n ah p' r) (hf : zz_rf w o a p' sz') (ha : a = p + sz) (hs : zz_sq w o p (p + sz)) (h0 : 0 ≤ p) (hz : 0 ≤ sz) (hn : sz < n) (h1 : 1 ≤ n) : zz_fq w o n ah p r := by
  subst ha
  refine Or.inr ⟨h0, ?_⟩
  rcases h with ⟨g1, g2⟩ | ⟨g1, g2⟩
  · refine zz_ff_step hs (Or.inl ⟨g2, fun q q1 q2 z => ?_⟩) (by omega) rfl h0
    rcases hf with ⟨_, hf⟩ | ⟨k1, _⟩
    · have e1 := z.1
      exact hf q.toNat (by omega) (by omega) (z.2 q.toNat (by omega) (by omega))
    · omega
  · have gp := zz_sq_gap hs hf h0 hz g1
    rcases hf with ⟨k1, _⟩ | ⟨k1, k2, k3, k4, k5⟩
    · omega
    · exact zz_ff_step hs (zz_ff_skip g2 gp h1 (by omega) (fun x x1 x2 => k4 x (by omega) x2)) (by omega) rfl h0
theorem zz_fq_top {w n fr ah p r sz : Int} {o : Nat → Int32} (h : zz_fq w o n ah p r) (hf : zz_rf w o fr p sz) (h0 : 0 ≤ fr) (h1 : 1 ≤ n) : zz_ff w o n fr ah r := by
  rcases h with ⟨g1, g2⟩ | ⟨g1, g2⟩
  · rcases hf with ⟨_, hf⟩ | ⟨k1, _⟩
    · refine Or.inl ⟨g2, fun q q1 q2 z => ?_⟩
      have e1 := z.1
      exact hf q.toNat (by omega) (by omega) (z.2 q.toNat (by omega) (by omega))
    · omega
  · rcases hf with ⟨k1, _⟩ | ⟨k1, k2, k3, k4, k5⟩
    · omega
    · exact zz_ff_skip g2 k1 h1 h0 k4
-- bestRun
/-- the run that runFrom found begins where it says -/
theorem zz_rf_rn {w fr r sz : Int} {o : Nat → Int32} (hf : zz_rf w o fr r sz) (hr : 0 ≤ r) (h0 : 0 ≤ fr) (hl : fr = 0 ∨ w ≤ fr ∨ (o fr.toNat).toInt ≠ -1) : zz_rn o w.toNat r.toNat sz.toNat := by
  rcases hf with ⟨k1, _⟩ | ⟨k1, k2, k3, k4, k5⟩
  · omega
  · have e := k5.2.1
    refine ⟨by omega, by omega, fun x h1 h2 => e x (by omega) (by omega), ?_, ?_⟩
    · by_cases c : r = 0
      · exact Or.inl (by omega)
      · right
        by_cases d : fr < r
        · exact k4 (r.toNat - 1) (by omega) (by omega)
        · exfalso
          rcases hl with hl | hl | hl
          · omega
          · omega
          · exact hl (e fr.toNat (by omega) (by omega))
    · rcases k5.2.2.1 with c | c
      · exact Or.inl (by omega)
      · right
        rw [show r.toNat + sz.toNat = (r + sz).toNat by omega]
        exact c
theorem zz_bi_skip {b : Prop} {n : Int} {h : Nat → Int32} {a best size p p' : Int} (hB : zz_bi b n h a best size p) (hn : ∀ q u : Nat, zz_rn h n.toNat q u → p ≤ (q : Int) → (q : Int) < p' → False) (hp : p ≤ p') : zz_bi b n h a best size p' := by
  rcases hB with ⟨b1, b2⟩ | ⟨b1, b2, b3, b4, b5, b6⟩
  · refine Or.inl ⟨b1, fun q u hr hq => ?_⟩
    by_cases c : (q : Int) < p
    · exact b2 q u hr c
    · exact (hn q u hr (by omega) hq).elim
  · refine Or.inr ⟨b1, by omega, b3, b4, b5, fun q u hr hq => ?_⟩
    by_cases c : (q : Int) < p
    · exact b6 q u hr c
    · exact (hn q u hr (by omega) hq).elim
/-- bestRun's state: p the run that is looked at next, -1: none is left -/
def zz_bj (b : Prop) (w : Int) (o : Nat → Int32) (n best size p sz : Int) : Prop := (p = -1 ∧ zz_bi b w o n best size w) ∨ (0 ≤ p ∧ zz_bi b w o n best size p ∧ zz_rn o w.toNat p.toNat sz.toNat)
theorem zz_bj_ini {b : Prop} {w n best size p sz fr : Int} {o : Nat → Int32} (hf : zz_rf w o fr p sz) (h0 : fr = 0) (hb : best = -1) (hp : -1 ≤ p) (hw : 0 ≤ w) : zz_bj b w o n best size p sz := by
  subst h0
  have i0 : zz_bi b w o n best size 0 := zz_bi_ini (by omega) (Int.le_refl _)
  by_cases c : p = -1
  · refine Or.inl ⟨c, zz_bi_skip i0 (fun q u hr h1 h2 => ?_) hw⟩
    rcases hf with ⟨_, hf⟩ | ⟨k1, _⟩
    · have r1 := hr.1
      have r2 := hr.2.1
      exact hf q (by omega) (by omega) (hr.2.2.1 q (Nat.le_refl _) (by omega))
    · omega
  · refine Or.inr ⟨by omega, zz_bi_skip i0 (fun q u hr h1 h2 => ?_) (by omega), zz_rf_rn hf (by omega) (Int.le_refl _) (Or.inl rfl)⟩
    rcases hf with ⟨k1, _⟩ | ⟨k1, k2, k3, k4, k5⟩
    · omega
    · have r1 := hr.1
      exact k4 q (by omega) (by omega) (hr.2.2.1 q (Nat.le_refl _) (by omega))
/-- from one run to the next -/
theorem zz_bj_next {b : Prop} {w n best' size' p sz p' sz' a : Int} {o : Nat → Int32} (hB : zz_bi b w o n best' size' (p + 1)) (hr : zz_rn o w.toNat p.toNat sz.toNat) (hf : zz_rf w o a p' sz') (ha : a = p + sz) (h0 : 0 ≤ p) (hz : 0 ≤ sz) (hp : -1 ≤ p') (hw : 0 ≤ w) : zz_bj b w o n best' size' p' sz' := by
  subst ha
  obtain ⟨q1, q2, q3, q4, q5⟩ := hr
  have gap : ∀ q u : Nat, zz_rn o w.toNat q u → p + 1 ≤ (q : Int) → (q : Int) < p + sz → False := fun q u hq h1 h2 => by
    rcases hq.2.2.2.1 with c | c
    · omega
    · exact c (q3 (q - 1) (by omega) (by omega))
  by_cases c : p' = -1
  · refine Or.inl ⟨c, zz_bi_skip hB (fun q u hq h1 h2 => ?_) (by omega)⟩
    rcases hf with ⟨_, hf⟩ | ⟨k1, _⟩
    · by_cases d : (q : Int) < p + sz
      · exact gap q u hq h1 d
      · have r1 := hq.1
        exact hf q (by omega) (by omega) (hq.2.2.1 q (Nat.le_refl _) (by omega))
    · omega
  · refine Or.inr ⟨by omega, zz_bi_skip hB (fun q u hq h1 h2 => ?_) ?_, zz_rf_rn hf (by omega) (by omega) ?_⟩
    · rcases hf with ⟨k1, _⟩ | ⟨k1, k2, k3, k4, k5⟩
      · omega
      · by_cases d : (q : Int) < p + sz
        · exact gap q u hq h1 d
        · have r1 := hq.1
          exact k4 q (by omega) (by omega) (hq.2.2.1 q (Nat.le_refl _) (by omega))
    · rcases hf with ⟨k1, _⟩ | ⟨k1, _⟩
      · omega
      · omega
    · rcases q5 with d | d
      · exact Or.inr (Or.inl (by omega))
      · right; right
        rw [show (p + sz).toNat = p.toNat + sz.toNat by omega]
        exact d
theorem zz_bj_end {b : Prop} {w n best size p sz : Int} {o : Nat → Int32} (h : zz_bj b w o n best size p sz) (hp : p = -1) (hb : -1 ≤ best) (hw : 0 ≤ w) : zz_bf b w o n best := by
  rcases h with ⟨_, h⟩ | ⟨h, _⟩
  · exact zz_bi_end h (Int.le_refl _) hb hw
  · omega
-- two rows of owners that are free at the same words
def zz_fe2 (w : Int) (c o : Nat → Int32) : Prop := ∀ x : Nat, (x : Int) < w → ((c x).toInt = -1 ↔ (o x).toInt = -1)
theorem zz_ft_fe {w : Int} {c o : Nat → Int32} {a p : Int} (h : zz_fe2 w c o) (hf : zz_ft w c a p) : zz_ft w o a p := ⟨hf.1, fun x h1 h2 => (h x (by have := hf.1; omega)).mp (hf.2 x h1 h2)⟩
theorem zz_fe2_sy {w : Int} {c o : Nat → Int32} (h : zz_fe2 w c o) : zz_fe2 w o c := fun x hx => (h x hx).symm
theorem zz_ff_fe {w : Int} {c o : Nat → Int32} {a fr ah r : Int} (h : zz_fe2 w c o) (hf : zz_ff w c a fr ah r) : zz_ff w o a fr ah r := by
  rcases hf with ⟨a1, a2⟩ | ⟨a1, a2, a3, a4⟩
  · exact Or.inl ⟨a1, fun p h1 h2 z => a2 p h1 h2 (zz_ft_fe (zz_fe2_sy h) z)⟩
  · exact Or.inr ⟨a1, a2, zz_ft_fe h a3, fun p h1 h2 z => a4 p h1 h2 (zz_ft_fe (zz_fe2_sy h) z)⟩
theorem zz_rn_fe {w : Int} {c o : Nat → Int32} {q u : Nat} (h : zz_fe2 w c o) (hr : zz_rn c w.toNat q u) : zz_rn o w.toNat q u := by
  obtain ⟨a1, a2, a3, a4, a5⟩ := hr
  refine ⟨a1, a2, fun x h1 h2 => (h x (by omega)).mp (a3 x h1 h2), ?_, ?_⟩
  · rcases a4 with d | d
    · exact Or.inl d
    · exact Or.inr (fun z => d ((h (q - 1) (by omega)).mpr z))
  · rcases a5 with d | d
    · exact Or.inl d
    · by_cases k : q + u = w.toNat
      · exact Or.inl k
      · exact Or.inr (fun z => d ((h (q + u) (by omega)).mpr z))
theorem zz_bf_fe {b : Prop} {w : Int} {c o : Nat → Int32} {a r : Int} (h : zz_fe2 w c o) (hf : zz_bf b w c a r) : zz_bf b w o a r := by
  have s := zz_fe2_sy h
  rcases hf with ⟨a1, a2⟩ | ⟨a1, v, a2, a3, a4⟩
  · exact Or.inl ⟨a1, fun q u hr => a2 q u (zz_rn_fe s hr)⟩
  · exact Or.inr ⟨a1, v, zz_rn_fe h a2, a3, fun q u hr => a4 q u (zz_rn_fe s hr)⟩
theorem zz_pl_fe {f w : Int} {c o : Nat → Int32} {e a r : Int} (h : zz_fe2 w c o) (hf : zz_pl f w c e a r) : zz_pl f w o e a r := by
  rcases hf with ⟨a1, a2⟩ | ⟨a1, a2⟩ | ⟨a1, a2⟩ | ⟨a1, a2⟩
  · exact Or.inl ⟨a1, zz_ff_fe h a2⟩
  · refine Or.inr (Or.inl ⟨a1, ?_⟩)
    rcases a2 with ⟨b1, b2⟩ | ⟨b1, b2⟩
    · exact Or.inl ⟨b1, zz_ff_fe h b2⟩
    · exact Or.inr ⟨zz_ff_fe h b1, zz_ff_fe h b2⟩
  · exact Or.inr (Or.inr (Or.inl ⟨a1, zz_bf_fe h a2⟩))
  · exact Or.inr (Or.inr (Or.inr ⟨a1, zz_bf_fe h a2⟩))
-- the k-th run
def zz_rk (w : Int) (o : Nat → Int32) (k p sz : Int) : Prop := ∀ (pl wd : Nat → Int32) (n : Int), 0 ≤ n → zz_ru w o pl wd n → (p = -1 ∧ n ≤ k) ∨ (0 ≤ p ∧ k < n ∧ (pl k.toNat).toInt = p ∧ (wd k.toNat).toInt = sz)
theorem zz_rk_0 {w p sz fr k : Int} {o : Nat → Int32} (hf : zz_rf w o fr p sz) (h0 : fr = 0) (hk : k = 0) (hp : -1 ≤ p) (hw : 0 ≤ w) : zz_rk w o k p sz := fun pl wd n hn hu => by
  subst h0
  subst hk
  by_cases c : p = -1
  · refine Or.inl ⟨c, Int.not_lt.mp fun z => ?_⟩
    obtain ⟨b1, b2, b3⟩ := hu.1 0 (by omega)
    rcases hf with ⟨_, hf⟩ | ⟨k1, _⟩
    · have r1 := b3.1
      have r2 := b3.2.1
      exact hf (pl 0).toInt.toNat (by omega) (by omega) (b3.2.2.1 _ (Nat.le_refl _) (by omega))
    · omega
  · have R := zz_rf_rn hf (by omega) (Int.le_refl _) (Or.inl rfl)
    obtain ⟨j, j1, j2, j3⟩ := hu.2.1 _ _ R
    rcases hf with ⟨k1, _⟩ | ⟨k1, k2, k3, k4, k5⟩
    · omega
    · have e : j = 0 := by
        by_cases d : j = 0
        · exact d
        · exfalso
          obtain ⟨b1, b2, b3⟩ := hu.1 0 (by omega)
          have := hu.2.2 0 j (by omega) j1
          have r1 := b3.1
          exact k4 (pl 0).toInt.toNat (by omega) (by omega) (b3.2.2.1 _ (Nat.le_refl _) (by omega))
      subst e
      exact Or.inr ⟨by omega, by omega, by show (pl 0).toInt = p; omega, by show (wd 0).toInt = sz; omega⟩
theorem zz_rk_next {w p sz p' sz' a k k' : Int} {o : Nat → Int32} (h : zz_rk w o k p sz) (hf : zz_rf w o a p' sz') (ha : a = p + sz) (h0 : 0 ≤ p) (hz : 0 ≤ sz) (hk : 0 ≤ k) (hk' : k' = k + 1) (hp : -1 ≤ p') (hw : 0 ≤ w) : zz_rk w o k' p' sz' := fun pl wd n hn hu => by
  subst ha
  rcases h pl wd n hn hu with ⟨c, _⟩ | ⟨_, c2, c3, c4⟩
  · omega
  · obtain ⟨b1, b2, b3⟩ := hu.1 k.toNat (by omega)
    have e5 := b3.2.2.2.2
    have e2 := b3.2.1
    have hl : p + sz = 0 ∨ w ≤ p + sz ∨ (o (p + sz).toNat).toInt ≠ -1 := by
      rcases e5 with d | d
      · exact Or.inr (Or.inl (by omega))
      · right; right
        rw [show (p + sz).toNat = (pl k.toNat).toInt.toNat + (wd k.toNat).toInt.toNat by omega]
        exact d
    by_cases c : p' = -1
    · refine Or.inl ⟨c, Int.not_lt.mp fun z => ?_⟩
      obtain ⟨d1, d2, d3⟩ := hu.1 k'.toNat (by omega)
      have := hu.2.2 k.toNat k'.toNat (by omega) (by omega)
      rcases hf with ⟨_, hf⟩ | ⟨k1, _⟩
      · have r1 := d3.1
        have r2 := d3.2.1
        exact hf (pl k'.toNat).toInt.toNat (by omega) (by omega) (d3.2.2.1 _ (Nat.le_refl _) (by omega))
      · omega
    · have R := zz_rf_rn hf (by omega) (by omega) hl
      obtain ⟨j, j1, j2, j3⟩ := hu.2.1 _ _ R
      rcases hf with ⟨k1, _⟩ | ⟨k1, k2, k3, k4, k5⟩
      · omega
      · have jk : k.toNat < j := by
          rcases Nat.lt_or_ge k.toNat j with d | d
          · exact d
          · exfalso
            have r1 := b3.1
            by_cases d2 : j = k.toNat
            · rw [d2] at j2; omega
            · have := hu.2.2 j k.toNat (by omega) (by omega)
              omega
        have e : j = k'.toNat := by
          by_cases d : j = k'.toNat
          · exact d
          · exfalso
            obtain ⟨d1, d2, d3⟩ := hu.1 k'.toNat (by omega)
            have z1 := hu.2.2 k.toNat k'.toNat (by omega) (by omega)
            have z2 := hu.2.2 k'.toNat j (by omega) j1
            have r1 := d3.1
            exact k4 (pl k'.toNat).toInt.toNat (by omega) (by omega) (d3.2.2.1 _ (Nat.le_refl _) (by omega))
        subst e
        exact Or.inr ⟨by omega, by omega, by omega, by omega⟩
theorem zz_rk_stay {w p sz p' sz' k k' : Int} {o : Nat → Int32} (h : zz_rk w o k p sz) (hp : p = -1) (hp' : p' = -1) (hk : k ≤ k') : zz_rk w o k' p' sz' := fun pl wd n hn hu => by
  rcases h pl wd n hn hu with ⟨_, c⟩ | ⟨c, _⟩
  · exact Or.inl ⟨hp', by omega⟩
  · omega
/-! all forms: owners, and what give and back say whatever the form -/
/-- owners: c the class's (NUMBERS), o the reference's (slots) -/
def zz_OC (w : Int) (c o nu : Nat → Int32) : Prop := ∀ x : Nat, (x : Int) < w → ((o x).toInt = -1 ∧ (c x).toInt = -1) ∨ ((o x).toInt = -2 ∧ (c x).toInt = -2) ∨ (0 ≤ (o x).toInt ∧ 0 ≤ (c x).toInt ∧ (c x).toInt = (nu (o x).toNatClampNeg).toInt - 1)
theorem zz_OC_fe {w : Int} {c o nu : Nat → Int32} (h : zz_OC w c o nu) : zz_fe2 w c o := fun x hx => by
  rcases h x hx with a | a | a <;> omega
theorem zz_OC_give {w : Int} {c o nu pl sp c' o' nu' pl' sp' as as' : Nat → Int32} {G x s a : Int32} (h : zz_OC w c o nu) (hO : zz_OW w o nu pl sp) (hg : zz_gv w o nu pl sp as o' nu' pl' sp' as' G x s a) (hw : zz_wr c c' x.toInt (x.toInt + s.toInt) G) (hG : 0 ≤ G.toInt) (hG2 : G.toInt ≤ 100000) : zz_OC w c' o' nu' := fun y hy => by
  obtain ⟨b, b0, b1, bu, e1, e2, e3, e4, hwr⟩ := hg
  subst e1
  have G1 : (G + ((1 : Int32))).toInt = G.toInt + 1 := zz_p1 G (by omega)
  have eb := zz_tnI b b0
  by_cases c : x.toInt ≤ (y : Int) ∧ (y : Int) < x.toInt + s.toInt
  · rw [hwr y, hw y, if_pos c, if_pos c]
    exact Or.inr (Or.inr ⟨b0, hG, by rw [zz_updE, if_pos rfl]; omega⟩)
  · rw [hwr y, hw y, if_neg c, if_neg c]
    rcases h y hy with a | a | ⟨a1, a2, a3⟩
    · exact Or.inl a
    · exact Or.inr (Or.inl a)
    · refine Or.inr (Or.inr ⟨a1, a2, ?_⟩)
      obtain ⟨j, j1, j2, j3, _⟩ := hO.1 y hy a1
      have ej : (o y).toNatClampNeg = j := by rw [zz_tn]; omega
      rw [zz_updE, if_neg (fun z => bu (by rw [← z, ej]; exact j3))]
      exact a3
theorem zz_OC_back {w : Int} {c o nu pl sp c' o' : Nat → Int32} {b : Nat} {q : Int32} (h : zz_OC w c o nu) (hO : zz_OW w o nu pl sp) (hb : b < 200) (ub : zz_us w o nu pl b) (hwr : zz_wr o o' (pl b).toInt ((pl b).toInt + (sp b).toInt) q) (hw : zz_wr c c' (pl b).toInt ((pl b).toInt + (sp b).toInt) q) (hq : q.toInt = -1 ∨ q.toInt = -2) : zz_OC w c' o' (upd nu b 0) := fun y hy => by
  by_cases c : (pl b).toInt ≤ (y : Int) ∧ (y : Int) < (pl b).toInt + (sp b).toInt
  · rw [hwr y, hw y, if_pos c, if_pos c]
    rcases hq with hq | hq
    · exact Or.inl ⟨hq, hq⟩
    · exact Or.inr (Or.inl ⟨hq, hq⟩)
  · rw [hwr y, hw y, if_neg c, if_neg c]
    rcases h y hy with a | a | ⟨a1, a2, a3⟩
    · exact Or.inl a
    · exact Or.inr (Or.inl a)
    · refine Or.inr (Or.inr ⟨a1, a2, ?_⟩)
      obtain ⟨j, j1, j2, j3, j4, j5⟩ := hO.1 y hy a1
      have ej : (o y).toNatClampNeg = j := by rw [zz_tn]; omega
      rw [zz_updE, if_neg (fun z => c (by rw [← z, ej]; exact ⟨j4, j5⟩))]
      exact a3
/-- a give of the class: TK span place owners, what the FORM's take did -/
def zz_GE (e : String) (p1 : Int32) (r B : Int) (g : Int32) (nc pc sc ac : Nat → Int32) (B' g' : Int) (nc' pc' sc' ac' c' : Nat → Int32) (SM : Prop) (TK : Int32 → Int32 → (Nat → Int32) → Prop) : Prop :=
  (e = "java/lang/IllegalArgumentException" ∧ (p1.toInt < 1 ∨ 1024 < p1.toInt) ∧ B' = B ∧ g' = g.toInt ∧ nc' = nc ∧ pc' = pc ∧ sc' = sc ∧ ac' = ac ∧ SM) ∨
  (e = "java/lang/IndexOutOfBoundsException" ∧ 1 ≤ p1.toInt ∧ p1.toInt ≤ 1024 ∧ 200 ≤ B ∧ B' = B ∧ g' = g.toInt ∧ nc' = nc ∧ pc' = pc ∧ sc' = sc ∧ ac' = ac ∧ SM) ∨
  (e = "" ∧ 1 ≤ p1.toInt ∧ p1.toInt ≤ 1024 ∧ B < 200 ∧ ∃ (s x : Int32) (c1 : Nat → Int32), TK s x c1 ∧ ((x.toInt = -1 ∧ r = -1 ∧ B' = B ∧ g' = g.toInt ∧ nc' = nc ∧ pc' = pc ∧ sc' = sc ∧ ac' = ac ∧ c' = c1) ∨ (0 ≤ x.toInt ∧ r = g.toInt ∧ B' = B + 1 ∧ g' = g.toInt + 1 ∧ nc' = upd nc B.toNat g ∧ pc' = upd pc B.toNat x ∧ sc' = upd sc B.toNat s ∧ ac' = upd ac B.toNat p1 ∧ zz_wr c1 c' x.toInt (x.toInt + s.toInt) g)))
/-- a back of the class: TB place span, what became of owners and FORM -/
def zz_BE (e : String) (p1 : Int32) (B : Int) (nc pc sc ac : Nat → Int32) (r B' : Int) (nc' pc' sc' ac' : Nat → Int32) (SM : Prop) (TB : Int32 → Int32 → Prop) : Prop :=
  (e = "java/util/NoSuchElementException" ∧ zz_ns nc p1 B ∧ B' = B ∧ nc' = nc ∧ pc' = pc ∧ sc' = sc ∧ ac' = ac ∧ SM) ∨
  (e = "" ∧ ∃ i : Nat, (i : Int) < B ∧ nc i = p1 ∧ r = (pc i).toInt ∧ B' = B - 1 ∧ zz_mv nc nc' i B ∧ zz_mv pc pc' i B ∧ zz_mv sc sc' i B ∧ zz_mv ac ac' i B ∧ TB (pc i) (sc i))
/-- a give of the reference: FD span place owners, what find did -/
def zz_GF (th : Int) (p1 : Int32) (r w bl : Int) (g : Int32) (o nu pl sp as : Nat → Int32) (bl' g' : Int) (o' nu' pl' sp' as' : Nat → Int32) (SM : Prop) (FD : Int32 → Int32 → (Nat → Int32) → Prop) : Prop :=
  (th = 1 ∧ (p1.toInt < 1 ∨ 1024 < p1.toInt) ∧ bl' = bl ∧ g' = g.toInt ∧ o' = o ∧ nu' = nu ∧ pl' = pl ∧ sp' = sp ∧ as' = as ∧ SM) ∨
  (th = 3 ∧ 1 ≤ p1.toInt ∧ p1.toInt ≤ 1024 ∧ bl = 200 ∧ bl' = bl ∧ g' = g.toInt ∧ o' = o ∧ nu' = nu ∧ pl' = pl ∧ sp' = sp ∧ as' = as ∧ SM) ∨
  (th = 0 ∧ 1 ≤ p1.toInt ∧ p1.toInt ≤ 1024 ∧ bl ≠ 200 ∧ ∃ (s x : Int32) (o1 : Nat → Int32), FD s x o1 ∧ ((x.toInt < 0 ∧ r = -1 ∧ bl' = bl ∧ g' = g.toInt ∧ o' = o1 ∧ nu' = nu ∧ pl' = pl ∧ sp' = sp ∧ as' = as) ∨ (0 ≤ x.toInt ∧ r = g.toInt ∧ bl' = bl + 1 ∧ g' = g.toInt + 1 ∧ zz_gv w o1 nu pl sp as o' nu' pl' sp' as' g x s p1)))
/-- a back of the reference: q the owners' new value, TB what became of the FORM -/
def zz_BF (th : Int) (p1 : Int32) (w bl : Int) (o nu pl sp : Nat → Int32) (r bl' : Int) (o' nu' : Nat → Int32) (SM : Prop) (TB : Int32 → Int32 → Int32 → Prop) : Prop :=
  (th = 2 ∧ (p1.toInt < 0 ∨ zz_nk w o nu pl (p1 + ((1 : Int32))) 200) ∧ bl' = bl ∧ o' = o ∧ nu' = nu ∧ SM) ∨
  (th = 0 ∧ 0 ≤ p1.toInt ∧ ∃ (b : Nat) (q : Int32), b < 200 ∧ nu b = p1 + ((1 : Int32)) ∧ zz_us w o nu pl b ∧ r = (pl b).toInt ∧ bl' = bl - 1 ∧ (q.toInt = -1 ∨ q.toInt = -2) ∧ zz_wr o o' (pl b).toInt ((pl b).toInt + (sp b).toInt) q ∧ nu' = upd nu b 0 ∧ TB (pl b) (sp b) q)
/-- give: the two sides, once find and take are known to agree (hF: same span, same place, words that no block has, owners still in step) -/
theorem zz_GG_step {e : String} {p1 G Gr : Int32} {w B g r B' g' th r' bl bl' gr' : Int} {nc pc sc ac c nc' pc' sc' ac' c' o nu pl sp as o' nu' pl' sp' as' : Nat → Int32} {SMc SMr : Prop} {TK FD : Int32 → Int32 → (Nat → Int32) → Prop} (h : zz_RB w B g nc pc sc ac o nu pl sp as) (hOC : zz_OC w c o nu) (hc : zz_GE e p1 r B G nc pc sc ac B' g' nc' pc' sc' ac' c' SMc TK) (hr : zz_GF th p1 r' w bl Gr o nu pl sp as bl' gr' o' nu' pl' sp' as' SMr FD) (hSM : SMc → c' = c) (hF : ∀ s x c1 s' x' o1, 1 ≤ p1.toInt → p1.toInt ≤ 1024 → TK s x c1 → FD s' x' o1 → s = s' ∧ x = x' ∧ -1 ≤ x.toInt ∧ zz_RB w B g nc pc sc ac o1 nu pl sp as ∧ zz_OC w c1 o1 nu ∧ (0 ≤ x.toInt → 1 ≤ s.toInt ∧ x.toInt + s.toInt ≤ w ∧ ∀ y : Nat, x.toInt ≤ (y : Int) → (y : Int) < x.toInt + s.toInt → (o1 y).toInt < 0)) (hbl : bl = B) (hG : G.toInt = g) (hGr : Gr.toInt = g) (hg0 : 0 ≤ g) (hg1 : g ≤ 100000) (hB : 0 ≤ B) (hB2 : B ≤ 200) : zz_RB w B' g' nc' pc' sc' ac' o' nu' pl' sp' as' ∧ zz_OC w c' o' nu' ∧ bl' = B' ∧ gr' = g' ∧ g ≤ g' ∧ g' ≤ g + 1 ∧ 0 ≤ B' ∧ B' ≤ 200 ∧ ((e = "" ∧ th = 0 ∧ r = r') ∨ (e = "java/lang/IllegalArgumentException" ∧ th = 1) ∨ (e = "java/lang/IndexOutOfBoundsException" ∧ th = 3)) ∧ ((SMc ∧ SMr ∧ o' = o ∧ nu' = nu ∧ pl' = pl ∧ sp' = sp) ∨ (1 ≤ p1.toInt ∧ p1.toInt ≤ 1024 ∧ ∃ s x c1 o1, TK s x c1 ∧ FD s x o1 ∧ zz_RB w B g nc pc sc ac o1 nu pl sp as ∧ ((x.toInt = -1 ∧ o' = o1 ∧ c' = c1 ∧ nu' = nu ∧ pl' = pl ∧ sp' = sp) ∨ (0 ≤ x.toInt ∧ zz_gv w o1 nu pl sp as o' nu' pl' sp' as' G x s p1 ∧ zz_wr c1 c' x.toInt (x.toInt + s.toInt) G)))) := by
  have hGG : Gr = G := Int32.toInt_inj.mp (by omega)
  subst hGG
  rcases hc with ⟨a1, a2, a3, a4, a5, a6, a7, a8, a9⟩ | ⟨a1, a2, a2', a2'', a3, a4, a5, a6, a7, a8, a9⟩ | ⟨a1, a2, a3, a4, s, x, c1, tk, a5⟩
  · rcases hr with ⟨b1, b2, b3, b4, b5, b6, b7, b8, b9, b10⟩ | ⟨b1, b2, b2', _⟩ | ⟨b1, b2, b3, _⟩
    · have ec := hSM a9
      subst a5; subst a6; subst a7; subst a8; subst b5; subst b6; subst b7; subst b8; subst b9; subst ec
      rw [a3, a4, hG]
      exact ⟨h, hOC, by omega, by omega, by omega, by omega, hB, hB2, Or.inr (Or.inl ⟨a1, b1⟩), Or.inl ⟨a9, b10, rfl, rfl, rfl, rfl⟩⟩
    · omega
    · omega
  · rcases hr with ⟨b1, b2, _⟩ | ⟨b1, b2, b2', b2'', b3, b4, b5, b6, b7, b8, b9, b10⟩ | ⟨b1, b2, b3, b4, _⟩
    · omega
    · have ec := hSM a9
      subst a5; subst a6; subst a7; subst a8; subst b5; subst b6; subst b7; subst b8; subst b9; subst ec
      rw [a3, a4, hG]
      exact ⟨h, hOC, by omega, by omega, by omega, by omega, hB, hB2, Or.inr (Or.inr ⟨a1, b1⟩), Or.inl ⟨a9, b10, rfl, rfl, rfl, rfl⟩⟩
    · omega
  · rcases hr with ⟨b1, b2, _⟩ | ⟨b1, b2, b2', b2'', _⟩ | ⟨b1, b2, b3, b4, s', x', o1, fd, b5⟩
    · omega
    · omega
    · obtain ⟨es, ex, xm, hRB, hOC1, hfr⟩ := hF s x c1 s' x' o1 a2 a3 tk fd
      subst es
      subst ex
      rcases a5 with ⟨d1, d2, d3, d4, d5, d6, d7, d8, d9⟩ | ⟨d1, d2, d3, d4, d5, d6, d7, d8, d9⟩
      · rcases b5 with ⟨f1, f2, f3, f4, f5, f6, f7, f8, f9⟩ | ⟨f1, _⟩
        · subst d5; subst d6; subst d7; subst d8; subst d9; subst f5; subst f6; subst f7; subst f8; subst f9
          rw [d3, d4, hG]
          exact ⟨hRB, hOC1, by omega, by omega, by omega, by omega, hB, hB2, Or.inl ⟨a1, b1, by omega⟩, Or.inr ⟨a2, a3, s, x, _, _, tk, fd, hRB, Or.inl ⟨d1, rfl, rfl, rfl, rfl, rfl⟩⟩⟩
        · omega
      · rcases b5 with ⟨f1, _⟩ | ⟨f1, f2, f3, f4, f5⟩
        · omega
        · obtain ⟨h1, h2, h3⟩ := hfr d1
          have RB' := zz_RB_give hRB f5 hG hg0 hg1 d1 h1 h2 hB h3
          have OC' := zz_OC_give hOC1 hRB.2.2.2.1 f5 d9 (by omega) (by omega)
          subst d5; subst d6; subst d7; subst d8
          rw [d3, d4, hG]
          exact ⟨RB', OC', by omega, by omega, by omega, by omega, by omega, by omega, Or.inl ⟨a1, b1, by omega⟩, Or.inr ⟨a2, a3, s, x, _, _, tk, fd, hRB, Or.inr ⟨d1, f5, d9⟩⟩⟩
/-- back: the two sides (hW: the class's owners become what the reference's do) -/
theorem zz_BB_step {e : String} {p1 : Int32} {w B g r B' th r' bl bl' : Int} {nc pc sc ac c nc' pc' sc' ac' c' o nu pl sp as o' nu' : Nat → Int32} {SMc SMr : Prop} {TB : Int32 → Int32 → Prop} {TR : Int32 → Int32 → Int32 → Prop} (h : zz_RB w B g nc pc sc ac o nu pl sp as) (hOC : zz_OC w c o nu) (hc : zz_BE e p1 B nc pc sc ac r B' nc' pc' sc' ac' SMc TB) (hr : zz_BF th p1 w bl o nu pl sp r' bl' o' nu' SMr TR) (hSM : SMc → c' = c) (hW : ∀ p s q, TB p s → TR p s q → (q.toInt = -1 ∨ q.toInt = -2) → zz_wr c c' p.toInt (p.toInt + s.toInt) q) (hbl : bl = B) (hg1 : g ≤ 100000) (hB : 0 ≤ B) (hB2 : B ≤ 200) : zz_RB w B' g nc' pc' sc' ac' o' nu' pl sp as ∧ zz_OC w c' o' nu' ∧ bl' = B' ∧ 0 ≤ B' ∧ B' ≤ 200 ∧ ((e = "" ∧ th = 0 ∧ r = r') ∨ (e = "java/util/NoSuchElementException" ∧ th = 2)) ∧ ((SMc ∧ SMr ∧ o' = o ∧ nu' = nu) ∨ ∃ (b : Nat) (q : Int32), b < 200 ∧ zz_us w o nu pl b ∧ (q.toInt = -1 ∨ q.toInt = -2) ∧ zz_wr o o' (pl b).toInt ((pl b).toInt + (sp b).toInt) q ∧ zz_wr c c' (pl b).toInt ((pl b).toInt + (sp b).toInt) q ∧ nu' = upd nu b 0 ∧ TB (pl b) (sp b) ∧ TR (pl b) (sp b) q) := by
  have no := zz_RB_no (v := p1) h hg1
  rcases hc with ⟨a1, a2, a3, a4, a5, a6, a7, a8⟩ | ⟨a1, i, a2, a3, a4, a5, a6, a7, a8, a9, a10⟩
  · rcases hr with ⟨b1, b2, b3, b4, b5, b6⟩ | ⟨b1, b2, b, q, b3, b4, b5, _⟩
    · have ec := hSM a8
      subst a4; subst a5; subst a6; subst a7; subst b4; subst b5; subst ec
      rw [a3]
      exact ⟨h, hOC, by omega, hB, hB2, Or.inr ⟨a1, b1⟩, Or.inl ⟨a8, b6, rfl, rfl⟩⟩
    · exfalso
      rcases no.mp a2 with c | c
      · omega
      · exact c b (by omega) ⟨b4, b5⟩
  · rcases hr with ⟨b1, b2, _⟩ | ⟨b1, b2, b, q, b3, b4, b5, b6, b7, b8, b9, b10, b11⟩
    · exact absurd a3 (no.mpr b2 i a2)
    · have hi := h.2.1 i a2
      rw [a3] at hi
      have hnb : (nu b).toInt = (nc i).toInt + 1 := by rw [b4, zz_p1 p1 (by omega), a3]
      obtain ⟨RB', ep, es⟩ := zz_RB_back h a2 b3 b5 hnb b9 (by omega) a6 a7 a8 a9
      have ep2 : pc i = pl b := Int32.toInt_inj.mp ep
      have es2 : sc i = sp b := Int32.toInt_inj.mp es
      rw [ep2, es2] at a10
      have wc := hW _ _ _ a10 b11 b8
      have OC' := zz_OC_back hOC h.2.2.2.1 b3 b5 b9 wc b8
      subst b10
      rw [a5]
      exact ⟨RB', OC', by omega, by omega, by omega, Or.inl ⟨a1, b1, by omega⟩, Or.inr ⟨b, q, b3, b5, b8, b9, wc, rfl, a10, b11⟩⟩
/-! form 6: rows of bits -/
def zz_lpw (n r : Int) : Prop := zz_p2 r ∧ n ≤ r ∧ (r = 1 ∨ r < 2 * n)
theorem zz_lpw_uq {n r s : Int} (h1 : zz_lpw n r) (h2 : zz_lpw n s) : r = s := by
  obtain ⟨a1, a2, a3⟩ := h1
  obtain ⟨b1, b2, b3⟩ := h2
  unfold zz_p2 at a1 b1
  rcases a1 with a1 | a1 | a1 | a1 | a1 | a1 | a1 | a1 | a1 | a1 | a1 <;> omega
/-- the first of k, k + st, k + 2 st .. up to lim at which F holds; r four times it, or -1 -/
def zz_s4 (F : Int → Prop) (st lim k r : Int) : Prop := (r = -1 ∧ ∀ j : Nat, k + st * (j : Int) ≤ lim → ¬ F (k + st * (j : Int))) ∨ ∃ j : Nat, k + st * (j : Int) ≤ lim ∧ r = 4 * (k + st * (j : Int)) ∧ F (k + st * (j : Int)) ∧ ∀ i : Nat, i < j → ¬ F (k + st * (i : Int))
theorem zz_s4_end {F : Int → Prop} {st lim k r : Int} (h : lim < k) (hs : 0 ≤ st) (hr : r = -1) : zz_s4 F st lim k r := Or.inl ⟨hr, fun j hj => by
  have : 0 ≤ st * (j : Int) := Int.mul_nonneg hs (by omega)
  omega⟩
theorem zz_s4_hit {F : Int → Prop} {st lim k r : Int} (h : k ≤ lim) (hF : F k) (hr : r = 4 * k) : zz_s4 F st lim k r := Or.inr ⟨0, by rw [show st * ((0 : Nat) : Int) = 0 from Int.mul_zero st]; omega, by rw [show st * ((0 : Nat) : Int) = 0 from Int.mul_zero st]; omega, by rw [show st * ((0 : Nat) : Int) = 0 from Int.mul_zero st, Int.add_zero]; exact hF, fun i hi => by omega⟩
theorem zz_s4_next {F : Int → Prop} {st lim k k' r : Int} (h : zz_s4 F st lim k' r) (hk : k' = k + st) (hF : ¬ F k) : zz_s4 F st lim k r := by
  have e : ∀ j : Nat, k + st * ((j + 1 : Nat) : Int) = k' + st * (j : Int) := fun j => by
    rw [show ((j + 1 : Nat) : Int) = (j : Int) + 1 by omega, Int.mul_add, Int.mul_one, hk]
    omega
  have z : k + st * ((0 : Nat) : Int) = k := by rw [show st * ((0 : Nat) : Int) = 0 from Int.mul_zero st, Int.add_zero]
  rcases h with ⟨h1, h2⟩ | ⟨j, h1, h2, h3, h4⟩
  · refine Or.inl ⟨h1, fun j hj => ?_⟩
    cases j with
    | zero => rw [z]; exact hF
    | succ j => rw [e] at hj ⊢; exact h2 j hj
  · refine Or.inr ⟨j + 1, by rw [e]; exact h1, by rw [e]; exact h2, by rw [e]; exact h3, fun i hi => ?_⟩
    cases i with
    | zero => rw [z]; exact hF
    | succ i => rw [e]; exact h4 i (by omega)
theorem zz_s4_uq {F F' : Int → Prop} {st lim r s : Int} (h1 : zz_s4 F st lim 0 r) (h2 : zz_s4 F' st lim 0 s) (hs : 0 ≤ st) (hF : ∀ k, 0 ≤ k → k ≤ lim → (F k ↔ F' k)) : r = s := by
  have nn : ∀ j : Nat, 0 ≤ 0 + st * (j : Int) := fun j => by
    have : 0 ≤ st * (j : Int) := Int.mul_nonneg hs (by omega)
    omega
  rcases h1 with ⟨a1, a2⟩ | ⟨j, a1, a2, a3, a4⟩
  · rcases h2 with ⟨b1, b2⟩ | ⟨i, b1, b2, b3, b4⟩
    · omega
    · exact absurd ((hF _ (nn i) b1).mpr b3) (a2 i b1)
  · rcases h2 with ⟨b1, b2⟩ | ⟨i, b1, b2, b3, b4⟩
    · exact absurd ((hF _ (nn j) a1).mp a3) (b2 j a1)
    · rcases Nat.lt_trichotomy i j with c | c | c
      · exact absurd ((hF _ (nn i) b1).mpr b3) (a4 i c)
      · subst c; omega
      · exact absurd ((hF _ (nn j) a1).mp a3) (b4 j c)
/-- the reference's isFree -/
def zz_ifr (o : Nat → Int32) (a e r : Int) : Prop := (r = 1 ∧ zz_bk o a e) ∨ (r = 0 ∧ ¬ zz_bk o a e)
theorem zz_ifr_y {o : Nat → Int32} {a e r q : Int} (h : zz_bk o a q) (hq : e ≤ q) (hr : r = 1) : zz_ifr o a e r := Or.inl ⟨hr, fun x h1 h2 => h x h1 (by omega)⟩
theorem zz_ifr_n {o : Nat → Int32} {a e r : Int} {i : Nat} (h1 : a ≤ (i : Int)) (h2 : (i : Int) < e) (ho : (o i).toInt ≠ -1) (hr : r = 0) : zz_ifr o a e r := Or.inr ⟨hr, fun z => ho (z i h1 h2)⟩
theorem zz_bk_up {o : Nat → Int32} {a q q' : Int} {i : Nat} (h : zz_bk o a q) (hi : (i : Int) = q) (ho : (o i).toInt = -1) (hq : q' = q + 1) : zz_bk o a q' := fun x h1 h2 => by
  by_cases c : x = i
  · rw [c]; exact ho
  · exact h x h1 (by omega)
theorem zz_ifr_1 {o : Nat → Int32} {a e r : Int} (h : zz_ifr o a e r) (hr : r ≠ 0) : zz_bk o a e := by
  rcases h with h | h
  · exact h.2
  · exact absurd h.1 hr
theorem zz_ifr_0 {o : Nat → Int32} {a e r : Int} (h : zz_ifr o a e r) (hr : r = 0) : ¬ zz_bk o a e := by
  rcases h with h | h
  · omega
  · exact h.2
/-- the class's areFree: the first words of n grains from g on -/
def zz_fg (c : Nat → Int32) (g n : Int) : Prop := ∀ j : Nat, g ≤ (j : Int) → (j : Int) < g + n → (c (4 * j)).toInt = -1
def zz_fgr (c : Nat → Int32) (g n r : Int) : Prop := (r = 1 ∧ zz_fg c g n) ∨ (r = 0 ∧ ¬ zz_fg c g n)
def zz_fgp (c : Nat → Int32) (g q : Int) : Prop := ∀ j : Nat, g ≤ (j : Int) → (j : Int) < q → (c (4 * j)).toInt = -1
theorem zz_fgp_0 {c : Nat → Int32} {g q : Int} (h : q ≤ g) : zz_fgp c g q := fun j h1 h2 => by omega
theorem zz_fgp_step {c : Nat → Int32} {g q q' : Int} {i : Nat} (h : zz_fgp c g q) (hi : (i : Int) = 4 * q) (ho : (c i).toInt = -1) (hq : q' = q + 1) : zz_fgp c g q' := fun j h1 h2 => by
  by_cases d : (j : Int) = q
  · rw [show 4 * j = i by omega]; exact ho
  · exact h j h1 (by omega)
theorem zz_fgr_y {c : Nat → Int32} {g n q r : Int} (h : zz_fgp c g q) (hq : g + n ≤ q) (hr : r = 1) : zz_fgr c g n r := Or.inl ⟨hr, fun j h1 h2 => h j h1 (by omega)⟩
theorem zz_fgr_n {c : Nat → Int32} {g n q r : Int} {i : Nat} (h1 : g ≤ q) (h2 : q < g + n) (h0 : 0 ≤ q) (hi : (i : Int) = 4 * q) (ho : (c i).toInt ≠ -1) (hr : r = 0) : zz_fgr c g n r := Or.inr ⟨hr, fun z => ho (by have := z q.toNat (by omega) (by omega); rw [show 4 * q.toNat = i by omega] at this; exact this)⟩
theorem zz_fgr_1 {c : Nat → Int32} {g n r : Int} (h : zz_fgr c g n r) (hr : r ≠ 0) : zz_fg c g n := by
  rcases h with h | h
  · exact h.2
  · exact absurd h.1 hr
theorem zz_fgr_0 {c : Nat → Int32} {g n r : Int} (h : zz_fgr c g n r) (hr : r = 0) : ¬ zz_fg c g n := by
  rcases h with h | h
  · omega
  · exact h.2
/-- grains are taken and free as a whole; blocks stand on them -/
def zz_F6 (w : Int) (o nu pl sp : Nat → Int32) : Prop := (∀ x : Nat, (x : Int) < 4 * (w / 4) → ((o x).toInt = -1 ↔ (o (4 * (x / 4))).toInt = -1)) ∧ ∀ b : Nat, b < 200 → zz_us w o nu pl b → (pl b).toInt % 4 = 0 ∧ (sp b).toInt % 4 = 0
theorem zz_F6_fg {w : Int} {c o nu pl sp : Nat → Int32} {k n : Int} (h : zz_F6 w o nu pl sp) (he : zz_fe2 w c o) (h0 : 0 ≤ k) (hk : k ≤ w / 4 - n) : zz_fg c k n ↔ zz_bk o (4 * k) (4 * k + 4 * n) := by
  constructor
  · intro z x h1 h2
    have e := (h.1 x (by omega)).mpr
    refine e ((he _ (by omega)).mp (z (x / 4) (by omega) (by omega)))
  · intro z j h1 h2
    exact (he _ (by omega)).mpr (z (4 * j) (by omega) (by omega))
theorem zz_us_gv {w : Int} {o nu pl sp as o' nu' pl' sp' as' : Nat → Int32} {G x s a : Int32} (hg : zz_gv w o nu pl sp as o' nu' pl' sp' as' G x s a) (hs : 1 ≤ s.toInt) (hx : 0 ≤ x.toInt) : ∀ b : Nat, b < 200 → zz_us w o' nu' pl' b → (pl' b = x ∧ sp' b = s) ∨ (zz_us w o nu pl b ∧ pl' b = pl b ∧ sp' b = sp b) := fun j hj hu => by
  obtain ⟨b, b0, b1, bu, e1, e2, e3, e4, hwr⟩ := hg
  subst e1
  subst e2
  subst e3
  have eb := zz_tnI b b0
  by_cases c : j = b.toNatClampNeg
  · exact Or.inl ⟨by rw [zz_updE, if_pos c], by rw [zz_updE, if_pos c]⟩
  · refine Or.inr ⟨?_, by rw [zz_updE, if_neg c], by rw [zz_updE, if_neg c]⟩
    obtain ⟨u1, u2, u3⟩ := hu
    rw [zz_updE, if_neg c] at u1 u2 u3
    refine ⟨u1, u2, ?_⟩
    rw [hwr (pl j).toNatClampNeg] at u3
    by_cases d : x.toInt ≤ ((pl j).toNatClampNeg : Int) ∧ ((pl j).toNatClampNeg : Int) < x.toInt + s.toInt
    · rw [if_pos d] at u3
      omega
    · rw [if_neg d] at u3
      exact u3
theorem zz_us_bk {w : Int} {o nu pl sp o' : Nat → Int32} {b : Nat} {q : Int32} (hO : zz_OW w o nu pl sp) (hb : b < 200) (ub : zz_us w o nu pl b) (hwr : zz_wr o o' (pl b).toInt ((pl b).toInt + (sp b).toInt) q) (hq : q.toInt < 0) : ∀ j : Nat, zz_us w o' (upd nu b 0) pl j → j ≠ b ∧ zz_us w o nu pl j := fun j hj => by
  have jb : j ≠ b := fun c => by
    have := hj.1
    rw [c, zz_updE, if_pos rfl] at this
    exact absurd this (by decide)
  have k1 := hj.1
  rw [zz_updE, if_neg jb] at k1
  refine ⟨jb, k1, hj.2.1, ?_⟩
  have k3 := hj.2.2
  rw [hwr (pl j).toNatClampNeg] at k3
  by_cases c : (pl b).toInt ≤ ((pl j).toNatClampNeg : Int) ∧ ((pl j).toNatClampNeg : Int) < (pl b).toInt + (sp b).toInt
  · rw [if_pos c] at k3
    omega
  · rw [if_neg c] at k3
    exact k3
theorem zz_F6_give {w : Int} {o nu pl sp as o' nu' pl' sp' as' : Nat → Int32} {G x s a : Int32} (h : zz_F6 w o nu pl sp) (hg : zz_gv w o nu pl sp as o' nu' pl' sp' as' G x s a) (hx : 0 ≤ x.toInt) (hs : 1 ≤ s.toInt) (h4 : x.toInt % 4 = 0) (hs4 : s.toInt % 4 = 0) : zz_F6 w o' nu' pl' sp' := by
  have us := zz_us_gv hg hs hx
  obtain ⟨b, b0, b1, bu, e1, e2, e3, e4, hwr⟩ := hg
  refine ⟨fun y hy => ?_, fun j hj hu => ?_⟩
  · rw [hwr y, hwr (4 * (y / 4))]
    by_cases c : x.toInt ≤ (y : Int) ∧ (y : Int) < x.toInt + s.toInt
    · rw [if_pos c, if_pos (by omega)]
    · rw [if_neg c, if_neg (by omega)]
      exact h.1 y hy
  · rcases us j hj hu with ⟨c1, c2⟩ | ⟨c1, c2, c3⟩
    · rw [c1, c2]; exact ⟨h4, hs4⟩
    · rw [c2, c3]; exact h.2 j hj c1
theorem zz_F6_back {w : Int} {o nu pl sp o' : Nat → Int32} {b : Nat} {q : Int32} (h : zz_F6 w o nu pl sp) (hO : zz_OW w o nu pl sp) (hb : b < 200) (ub : zz_us w o nu pl b) (hwr : zz_wr o o' (pl b).toInt ((pl b).toInt + (sp b).toInt) q) (hq : q.toInt < 0) : zz_F6 w o' (upd nu b 0) pl sp := by
  have us := zz_us_bk hO hb ub hwr hq
  have k := h.2 b hb ub
  refine ⟨fun y hy => ?_, fun j hj hu => h.2 j hj (us j hu).2⟩
  rw [hwr y, hwr (4 * (y / 4))]
  by_cases c : (pl b).toInt ≤ (y : Int) ∧ (y : Int) < (pl b).toInt + (sp b).toInt
  · rw [if_pos c, if_pos (by omega)]
  · rw [if_neg c, if_neg (by omega)]
    exact h.1 y hy
/-! form 8: the stack -/
/-- where a top that may sink over free words comes to rest -/
def zz_tp (c : Nat → Int32) (top r : Int) : Prop := 0 ≤ r ∧ r ≤ top ∧ (∀ x : Nat, r ≤ (x : Int) → (x : Int) < top → (c x).toInt = -1) ∧ (r = 0 ∨ (c (r - 1).toNat).toInt ≠ -1)
theorem zz_tp_end {c : Nat → Int32} {top r : Int} (h0 : 0 ≤ top) (hr : r = top) (hc : top = 0 ∨ ∃ i : Nat, (i : Int) = top - 1 ∧ (c i).toInt ≠ -1) : zz_tp c top r := by
  refine ⟨by omega, by omega, fun x h1 h2 => by omega, ?_⟩
  rcases hc with hc | ⟨i, e, hc⟩
  · exact Or.inl (by omega)
  · exact Or.inr (by rw [show (r - 1).toNat = i by omega]; exact hc)
theorem zz_tp_step {c : Nat → Int32} {top top' r : Int} {i : Nat} (h : zz_tp c top' r) (ht : top' = top - 1) (hi : (i : Int) = top - 1) (hc : (c i).toInt = -1) : zz_tp c top r := by
  obtain ⟨a1, a2, a3, a4⟩ := h
  refine ⟨a1, by omega, fun x h1 h2 => ?_, a4⟩
  by_cases e : x = i
  · rw [e]; exact hc
  · exact a3 x h1 (by omega)
theorem zz_tp_uq {w : Int} {c o : Nat → Int32} {top r s : Int} (h1 : zz_tp c top r) (h2 : zz_tp o top s) (he : zz_fe2 w c o) (hw : top ≤ w) : r = s := by
  obtain ⟨a1, a2, a3, a4⟩ := h1
  obtain ⟨b1, b2, b3, b4⟩ := h2
  rcases Int.lt_trichotomy r s with c1 | c1 | c1
  · exfalso
    rcases b4 with d | d
    · omega
    · exact d ((he _ (by omega)).mp (a3 (s - 1).toNat (by omega) (by omega)))
  · exact c1
  · exfalso
    rcases a4 with d | d
    · omega
    · exact d ((he _ (by omega)).mpr (b3 (r - 1).toNat (by omega) (by omega)))
/-- the reference's stack: st entries (place kp, span ks, gone kg), without gaps, the last not gone -/
def zz_F8 (w top : Int) (st : Int) (kp ks kg o nu pl sp : Nat → Int32) : Prop := 0 ≤ st ∧ 0 ≤ top ∧ top ≤ w ∧ (st = 0 → top = 0) ∧ (0 < st → (kp 0).toInt = 0 ∧ (kp (st - 1).toNat).toInt + (ks (st - 1).toNat).toInt = top ∧ (kg (st - 1).toNat).toInt = 0) ∧ (∀ k : Nat, (k : Int) < st → 0 ≤ (kp k).toInt ∧ 1 ≤ (ks k).toInt ∧ (kp k).toInt + (ks k).toInt ≤ top) ∧ (∀ k : Nat, (k : Int) + 1 < st → (kp (k + 1)).toInt = (kp k).toInt + (ks k).toInt) ∧ (∀ k : Nat, (k : Int) < st → (kg k).toInt ≠ 0 → ∀ x : Nat, (kp k).toInt ≤ (x : Int) → (x : Int) < (kp k).toInt + (ks k).toInt → (o x).toInt = -1) ∧ (∀ k : Nat, (k : Int) < st → (kg k).toInt = 0 → ∃ b : Nat, b < 200 ∧ zz_us w o nu pl b ∧ (pl b).toInt = (kp k).toInt ∧ (sp b).toInt = (ks k).toInt) ∧ ∀ x : Nat, top ≤ (x : Int) → (x : Int) < w → (o x).toInt = -1
/-- sink: marked at p, then the gone ones at the end go -/
def zz_mk8 (st p : Int) (kp kg kg' : Nat → Int32) : Prop := ∀ k : Nat, (k : Int) < st → ((kp k).toInt = p ∧ (kg' k).toInt ≠ 0) ∨ ((kp k).toInt ≠ p ∧ kg' k = kg k)
def zz_mk8p (i p : Int) (kp kg kg' : Nat → Int32) : Prop := (∀ k : Nat, (k : Int) < i → ((kp k).toInt = p ∧ (kg' k).toInt ≠ 0) ∨ ((kp k).toInt ≠ p ∧ kg' k = kg k)) ∧ ∀ k : Nat, i ≤ (k : Int) → kg' k = kg k
theorem zz_mk8p_0 {i p : Int} {kp kg : Nat → Int32} (h : i ≤ 0) : zz_mk8p i p kp kg kg := ⟨fun k hk => by omega, fun k _ => rfl⟩
theorem zz_mk8p_y {i i' p : Int} {kp kg kg' : Nat → Int32} {j : Nat} {v : Int32} (h : zz_mk8p i p kp kg kg') (hj : (j : Int) = i) (hi : i' = i + 1) (hp : (kp j).toInt = p) (hv : v.toInt ≠ 0) : zz_mk8p i' p kp kg (upd kg' j v) := by
  refine ⟨fun k hk => ?_, fun k hk => ?_⟩
  · rw [zz_updE]
    by_cases c : k = j
    · rw [if_pos c, c]; exact Or.inl ⟨hp, hv⟩
    · rw [if_neg c]; exact h.1 k (by omega)
  · rw [zz_updE, if_neg (by omega)]
    exact h.2 k (by omega)
theorem zz_mk8p_n {i i' p : Int} {kp kg kg' : Nat → Int32} {j : Nat} (h : zz_mk8p i p kp kg kg') (hj : (j : Int) = i) (hi : i' = i + 1) (hp : (kp j).toInt ≠ p) : zz_mk8p i' p kp kg kg' := by
  refine ⟨fun k hk => ?_, fun k hk => h.2 k (by omega)⟩
  by_cases c : k = j
  · rw [c]; exact Or.inr ⟨hp, h.2 j (by omega)⟩
  · exact h.1 k (by omega)
theorem zz_mk8_mk {i st p : Int} {kp kg kg' : Nat → Int32} (h : zz_mk8p i p kp kg kg') (hi : st ≤ i) : zz_mk8 st p kp kg kg' := fun k hk => h.1 k (by omega)
def zz_po8 (st top : Int) (kp kg : Nat → Int32) (st' top' : Int) : Prop := 0 ≤ st' ∧ st' ≤ st ∧ (∀ k : Nat, st' ≤ (k : Int) → (k : Int) < st → (kg k).toInt ≠ 0) ∧ (st' = 0 ∨ (kg (st' - 1).toNat).toInt = 0) ∧ ((st' = st ∧ top' = top) ∨ (st' < st ∧ top' = (kp st'.toNat).toInt))
theorem zz_po8_end {st top st' top' : Int} {kp kg : Nat → Int32} (h0 : 0 ≤ st) (hs : st' = st) (ht : top' = top) (hg : st = 0 ∨ ∃ i : Nat, (i : Int) = st - 1 ∧ (kg i).toInt = 0) : zz_po8 st top kp kg st' top' := by
  refine ⟨by omega, by omega, fun k h1 h2 => by omega, ?_, Or.inl ⟨hs, ht⟩⟩
  rcases hg with hg | ⟨i, e, hg⟩
  · exact Or.inl (by omega)
  · exact Or.inr (by rw [show (st' - 1).toNat = i by omega]; exact hg)
theorem zz_po8_step {st st1 top top1 st' top' : Int} {kp kg : Nat → Int32} {i : Nat} (h : zz_po8 st1 top1 kp kg st' top') (hs : st1 = st - 1) (hi : (i : Int) = st - 1) (ht : top1 = (kp i).toInt) (hg : (kg i).toInt ≠ 0) : zz_po8 st top kp kg st' top' := by
  obtain ⟨a1, a2, a3, a4, a5⟩ := h
  refine ⟨a1, by omega, fun k h1 h2 => ?_, a4, Or.inr ⟨by omega, ?_⟩⟩
  · by_cases c : k = i
    · rw [c]; exact hg
    · exact a3 k h1 (by omega)
  · rcases a5 with ⟨b1, b2⟩ | ⟨b1, b2⟩
    · rw [b2, ht, show st'.toNat = i by omega]
    · exact b2
theorem zz_F8_give {w top st top' st' : Int} {kp ks kg kp' ks' kg' o nu pl sp as o' nu' pl' sp' as' : Nat → Int32} {G x s a z : Int32} (h : zz_F8 w top st kp ks kg o nu pl sp) (hO : zz_OW w o nu pl sp) (hg : zz_gv w o nu pl sp as o' nu' pl' sp' as' G x s a) (hG : 0 ≤ G.toInt) (hG2 : G.toInt ≤ 100000) (hx : x.toInt = top) (hs : 1 ≤ s.toInt) (hw : x.toInt + s.toInt ≤ w) (ht : top' = top + s.toInt) (hst : st' = st + 1) (e1 : kp' = upd kp st.toNat x) (e2 : ks' = upd ks st.toNat s) (e3 : kg' = upd kg st.toNat z) (hz : z.toInt = 0) : zz_F8 w top' st' kp' ks' kg' o' nu' pl' sp' := by
  obtain ⟨a0, a1, a2, a3, a4, a5, a6, a7, a8, a9⟩ := h
  obtain ⟨b, b0, b1, bu, f1, f2, f3, f4, hwr⟩ := hg
  have eb := zz_tnI b b0
  have G1 : (G + ((1 : Int32))).toInt = G.toInt + 1 := zz_p1 G (by omega)
  subst e1; subst e2; subst e3; subst f1; subst f2; subst f3
  have ob : ∀ k : Nat, (k : Int) < st → ∀ (f : Nat → Int32) (v : Int32), upd f st.toNat v k = f k := fun k hk f v => by rw [zz_updE, if_neg (by omega)]
  have on : ∀ (f : Nat → Int32) (v : Int32), upd f st.toNat v st.toNat = v := fun f v => by rw [zz_updE, if_pos rfl]
  have oo : ∀ y : Nat, (y : Int) < top → o' y = o y := fun y hy => by rw [hwr y, if_neg (by omega)]
  have ex := zz_tnI x (by omega)
  refine ⟨by omega, by omega, by omega, fun c => by omega, fun _ => ?_, fun k hk => ?_, fun k hk => ?_, fun k hk hg y h1 h2 => ?_, fun k hk hg => ?_, fun y h1 h2 => ?_⟩
  · rw [show (st' - 1).toNat = st.toNat by omega, on, on, on]
    refine ⟨?_, by omega, hz⟩
    by_cases c : st = 0
    · rw [show (0 : Nat) = st.toNat by omega, on]
      have := a3 c
      omega
    · rw [ob 0 (by omega)]
      exact (a4 (by omega)).1
  · by_cases c : (k : Int) < st
    · rw [ob k c, ob k c]
      have := a5 k c
      omega
    · rw [show k = st.toNat by omega, on, on]
      omega
  · by_cases c : (k : Int) + 1 < st
    · rw [ob (k + 1) (by omega), ob k (by omega), ob k (by omega)]
      exact a6 k c
    · rw [show k + 1 = st.toNat by omega, on, ob k (by omega), ob k (by omega)]
      have := (a4 (by omega)).2.1
      rw [show (st - 1).toNat = k by omega] at this
      omega
  · by_cases c : (k : Int) < st
    · rw [ob k c] at hg h1 h2
      rw [ob k c] at h2
      have := a5 k c
      rw [oo y (by omega)]
      exact a7 k c hg y h1 h2
    · rw [show k = st.toNat by omega, on] at hg
      exact absurd hz hg
  · by_cases c : (k : Int) < st
    · rw [ob k c] at hg ⊢
      rw [ob k c]
      obtain ⟨j, j1, j2, j3, j4⟩ := a8 k c hg
      have jb : j ≠ b.toNatClampNeg := fun e => bu (by rw [← e]; exact j2)
      have r5 := a5 k c
      refine ⟨j, j1, ⟨?_, ?_, ?_⟩, ?_, ?_⟩
      · rw [zz_updE, if_neg jb]; exact j2.1
      · rw [zz_updE, if_neg jb]; exact j2.2.1
      · rw [zz_updE, if_neg jb, oo _ (by rw [zz_tn]; omega)]; exact j2.2.2
      · rw [zz_updE, if_neg jb]; exact j3
      · rw [zz_updE, if_neg jb]; exact j4
    · rw [show k = st.toNat by omega, on, on]
      refine ⟨b.toNatClampNeg, by omega, ⟨by rw [zz_updE, if_pos rfl]; omega, by rw [zz_updE, if_pos rfl]; omega, ?_⟩, by rw [zz_updE, if_pos rfl], by rw [zz_updE, if_pos rfl]⟩
      rw [zz_updE, if_pos rfl, hwr x.toNatClampNeg, if_pos (by omega)]
      omega
  · rw [hwr y, if_neg (by omega)]
    exact a9 y (by omega) h2
theorem zz_F8_back {w top st top' st' : Int} {kp ks kg kg' o nu pl sp o' : Nat → Int32} {b : Nat} {q : Int32} (h : zz_F8 w top st kp ks kg o nu pl sp) (hO : zz_OW w o nu pl sp) (hb : b < 200) (ub : zz_us w o nu pl b) (hwr : zz_wr o o' (pl b).toInt ((pl b).toInt + (sp b).toInt) q) (hq : q.toInt = -1) (hm : zz_mk8 st (pl b).toInt kp kg kg') (hp : zz_po8 st top kp kg' st' top') : zz_F8 w top' st' kp ks kg' o' (upd nu b 0) pl sp ∧ zz_tp o' top top' := by
  obtain ⟨a0, a1, a2, a3, a4, a5, a6, a7, a8, a9⟩ := h
  obtain ⟨p1, p2, p3, p4⟩ := hO.2 b hb ub
  obtain ⟨c1, c2, c3, c4, c5⟩ := hp
  have ofr : ∀ y : Nat, (o y).toInt = -1 → (o' y).toInt = -1 := fun y hy => by
    rw [hwr y]
    by_cases d : (pl b).toInt ≤ (y : Int) ∧ (y : Int) < (pl b).toInt + (sp b).toInt
    · rw [if_pos d]; exact hq
    · rw [if_neg d]; exact hy
  -- where an entry ends its successors stand
  have mono : ∀ d k : Nat, ((k + d + 1 : Nat) : Int) < st → (kp k).toInt + (ks k).toInt ≤ (kp (k + d + 1)).toInt := fun d => by
    induction d with
    | zero => intro k hk; have := a6 k (by omega); rw [show k + 0 + 1 = k + 1 by omega]; omega
    | succ d ih =>
      intro k hk
      have i1 := ih k (by omega)
      have i2 := a6 (k + d + 1) (by omega)
      have i3 := a5 (k + d + 1) (by omega)
      rw [show k + (d + 1) + 1 = k + d + 1 + 1 by omega]
      omega
  have ltm : ∀ k l : Nat, k < l → (l : Int) < st → (kp k).toInt + (ks k).toInt ≤ (kp l).toInt := fun k l hkl hl => by
    have := mono (l - k - 1) k (by omega)
    rw [show k + (l - k - 1) + 1 = l by omega] at this
    exact this
  -- a marked entry is the block's own
  have gone : ∀ k : Nat, (k : Int) < st → (kg' k).toInt ≠ 0 → ∀ y : Nat, (kp k).toInt ≤ (y : Int) → (y : Int) < (kp k).toInt + (ks k).toInt → (o' y).toInt = -1 := fun k hk hg y h1 h2 => by
    rcases hm k hk with ⟨m1, m2⟩ | ⟨m1, m2⟩
    · by_cases g0 : (kg k).toInt = 0
      · obtain ⟨j, j1, j2, j3, j4⟩ := a8 k hk g0
        have r := (hO.2 j j1 j2).2.2.2 (pl b).toInt.toNat (by omega) (by have := (hO.2 j j1 j2).2.1; omega)
        have r2 := p4 (pl b).toInt.toNat (by omega) (by omega)
        have ej : j = b := by omega
        rw [ej] at j4
        rw [hwr y, if_pos (by omega)]
        exact hq
      · exact ofr y (a7 k hk g0 y h1 h2)
    · rw [m2] at hg
      exact ofr y (a7 k hk hg y h1 h2)
  have there : ∀ k : Nat, (k : Int) < st → (kg' k).toInt = 0 → ∃ j : Nat, j < 200 ∧ zz_us w o' (upd nu b 0) pl j ∧ (pl j).toInt = (kp k).toInt ∧ (sp j).toInt = (ks k).toInt := fun k hk hg => by
    rcases hm k hk with ⟨m1, m2⟩ | ⟨m1, m2⟩
    · exact absurd hg m2
    · rw [m2] at hg
      obtain ⟨j, j1, j2, j3, j4⟩ := a8 k hk hg
      have jb : j ≠ b := fun e => m1 (by rw [← j3, e])
      refine ⟨j, j1, ⟨by rw [zz_updE, if_neg jb]; exact j2.1, j2.2.1, ?_⟩, j3, j4⟩
      have e3 := j2.2.2
      rw [hwr (pl j).toNatClampNeg, if_neg (fun d => by have := p4 _ d.1 d.2; omega)]
      exact e3
  have top0 : st' < st → (kp st'.toNat).toInt = top' := fun d => by rcases c5 with ⟨d1, _⟩ | ⟨_, d2⟩ <;> omega
  have tl : top' ≤ top := by
    rcases c5 with ⟨d1, d2⟩ | ⟨d1, d2⟩
    · omega
    · have := a5 st'.toNat (by omega)
      omega
  -- every word from top' up is free
  have cov : ∀ d : Nat, (d : Int) ≤ st - st' → ∀ y : Nat, top' ≤ (y : Int) → (y : Int) < (if st' + (d : Int) = st then top else (kp (st' + (d : Int)).toNat).toInt) → (o' y).toInt = -1 := fun d => by
    induction d with
    | zero =>
      intro _ y h1 h2
      by_cases e : st' + ((0 : Nat) : Int) = st
      · rw [if_pos e] at h2
        rcases c5 with ⟨d1, d2⟩ | ⟨d1, d2⟩
        · omega
        · omega
      · rw [if_neg e, show (st' + ((0 : Nat) : Int)).toNat = st'.toNat by omega] at h2
        have := top0 (by omega)
        omega
    | succ d ih =>
      intro hd y h1 h2
      have i1 := ih (by omega)
      rw [if_neg (by omega)] at i1
      by_cases c : (y : Int) < (kp (st' + (d : Int)).toNat).toInt
      · exact i1 y h1 c
      · have e : (y : Int) < (kp (st' + (d : Int)).toNat).toInt + (ks (st' + (d : Int)).toNat).toInt := by
          by_cases e : st' + ((d + 1 : Nat) : Int) = st
          · rw [if_pos e] at h2
            have := (a4 (by omega)).2.1
            rw [show (st - 1).toNat = (st' + (d : Int)).toNat by omega] at this
            omega
          · rw [if_neg e] at h2
            have := a6 (st' + (d : Int)).toNat (by omega)
            rw [show (st' + (d : Int)).toNat + 1 = (st' + ((d + 1 : Nat) : Int)).toNat by omega] at this
            omega
        exact gone (st' + (d : Int)).toNat (by omega) (c3 _ (by omega) (by omega)) y (by omega) e
  have covA : ∀ y : Nat, top' ≤ (y : Int) → (y : Int) < top → (o' y).toInt = -1 := fun y h1 h2 => cov (st - st').toNat (by omega) y h1 (by rw [if_pos (by omega)]; exact h2)
  have prev : 0 < st' → (kp (st' - 1).toNat).toInt + (ks (st' - 1).toNat).toInt = top' := fun d => by
    rcases c5 with ⟨d1, d2⟩ | ⟨d1, d2⟩
    · have := (a4 (by omega)).2.1
      rw [d1, d2]
      exact this
    · have := a6 (st' - 1).toNat (by omega)
      rw [show (st' - 1).toNat + 1 = st'.toNat by omega] at this
      omega
  have kgz : 0 < st' → (kg' (st' - 1).toNat).toInt = 0 := fun d => by rcases c4 with e | e; omega; exact e
  have t0 : 0 ≤ top' := by
    by_cases d : st' < st
    · have := top0 d
      have := a5 st'.toNat (by omega)
      omega
    · rcases c5 with ⟨d1, d2⟩ | ⟨d1, d2⟩ <;> omega
  refine ⟨⟨c1, t0, by omega, fun d => ?_, fun d => ⟨(a4 (by omega)).1, prev d, kgz d⟩, fun k hk => ?_, fun k hk => a6 k (by omega), fun k hk => gone k (by omega), fun k hk => there k (by omega), fun y h1 h2 => ?_⟩, ⟨t0, tl, covA, ?_⟩⟩
  · by_cases e : st' < st
    · have e1 := top0 e
      have e2 := (a4 (by omega)).1
      rw [show st'.toNat = 0 by omega] at e1
      omega
    · rcases c5 with ⟨d1, d2⟩ | ⟨d1, d2⟩
      · have := a3 (by omega)
        omega
      · omega
  · have r := a5 k (by omega)
    refine ⟨r.1, r.2.1, ?_⟩
    by_cases e : (k : Int) = st' - 1
    · have := prev (by omega)
      rw [show (st' - 1).toNat = k by omega] at this
      omega
    · have m := ltm k (st' - 1).toNat (by omega) (by omega)
      have := prev (by omega)
      have := a5 (st' - 1).toNat (by omega)
      omega
  · by_cases d : (y : Int) < top
    · exact covA y h1 d
    · exact ofr y (a9 y (by omega) h2)
  · by_cases d : st' = 0
    · left
      by_cases e : st' < st
      · have e1 := top0 e
        have e2 := (a4 (by omega)).1
        rw [show st'.toNat = 0 by omega] at e1
        omega
      · rcases c5 with ⟨d1, d2⟩ | ⟨d1, d2⟩
        · have := a3 (by omega)
          omega
        · omega
    · right
      obtain ⟨j, j1, j2, j3, j4⟩ := there (st' - 1).toNat (by omega) (kgz (by omega))
      have pv := prev (by omega)
      have r5 := a5 (st' - 1).toNat (by omega)
      have RBo := (zz_us_bk hO hb ub hwr (by omega) j j2).2
      have w1 := (hO.2 j j1 RBo).2.2.2 (top' - 1).toNat (by omega) (by omega)
      have jb := (zz_us_bk hO hb ub hwr (by omega) j j2).1
      rw [hwr (top' - 1).toNat, if_neg (fun e => by have := p4 _ e.1 e.2; omega)]
      omega
/-! form 9: quick rows -/
/-- words that were quick (or free) may have become free, no other changed -/
def zz_er2 (o o' : Nat → Int32) : Prop := ∀ x : Nat, o' x = o x ∨ (((o x).toInt = -2 ∨ (o x).toInt = -1) ∧ (o' x).toInt = -1)
theorem zz_er2_rf (o : Nat → Int32) : zz_er2 o o := fun _ => Or.inl rfl
theorem zz_er2_step {o o' : Nat → Int32} {i : Nat} {v : Int32} (h : zz_er2 (upd o i v) o') (hv : v.toInt = -1) (hi : (o i).toInt = -2 ∨ (o i).toInt = -1) : zz_er2 o o' := fun x => by
  have g := h x
  rw [zz_updE] at g
  by_cases c : x = i
  · rw [if_pos c] at g
    refine Or.inr ⟨by rw [c]; exact hi, ?_⟩
    rcases g with g | g
    · rw [g]; exact hv
    · exact g.2
  · rw [if_neg c] at g
    exact g
/-- all words of the quick ones in the reference's rows are quick, or free already -/
def zz_Q9 (o qk qm : Nat → Int32) (s : Int) : Prop := ∀ s' k' y : Nat, s ≤ (s' : Int) → 1 ≤ s' → s' ≤ 8 → (k' : Int) < (qm s').toInt → (qk (1024 * s' + k')).toInt ≤ (y : Int) → (y : Int) < (qk (1024 * s' + k')).toInt + (s' : Int) → (o y).toInt = -2 ∨ (o y).toInt = -1
theorem zz_Q9_upd {o qk qm : Nat → Int32} {s : Int} {i : Nat} {v : Int32} (h : zz_Q9 o qk qm s) (hv : v.toInt = -1) : zz_Q9 (upd o i v) qk qm s := fun s' k' y h0 h1 h2 h3 h4 h5 => by
  rw [zz_updE]
  by_cases c : y = i
  · rw [if_pos c]; exact Or.inr hv
  · rw [if_neg c]; exact h s' k' y h0 h1 h2 h3 h4 h5
theorem zz_Q9_next {o qk qm qm' : Nat → Int32} {s s' : Int} (h : zz_Q9 o qk qm s) (hs : s < s') (hm : ∀ j : Nat, s < (j : Int) → qm' j = qm j) : zz_Q9 o qk qm' s' := fun a k' y h0 h1 h2 h3 h4 h5 => h a k' y (by omega) h1 h2 (by rw [← hm a (by omega)]; exact h3) h4 h5
/-- what emptyQuick makes free from row s, entry k, word x on -/
def zz_E9 (o o' qk qm : Nat → Int32) (s k x : Int) : Prop := zz_er2 o o' ∧ ∀ s' k' y : Nat, 1 ≤ s' → s' ≤ 8 → (k' : Int) < (qm s').toInt → (qk (1024 * s' + k')).toInt ≤ (y : Int) → (y : Int) < (qk (1024 * s' + k')).toInt + (s' : Int) → (s < (s' : Int) ∨ ((s' : Int) = s ∧ (k < (k' : Int) ∨ ((k' : Int) = k ∧ (qk (1024 * s' + k')).toInt + x ≤ (y : Int))))) → (o' y).toInt = -1
theorem zz_E9_end {o qk qm : Nat → Int32} {s k x : Int} (hs : 9 ≤ s) : zz_E9 o o qk qm s k x := ⟨zz_er2_rf o, fun s' k' y h1 h2 _ _ _ h => by omega⟩
/-- the row is done: on to the next -/
theorem zz_E9_row {o o' qk qm qm' : Nat → Int32} {s s' k x : Int} (h : zz_E9 o o' qk qm' s' 0 0) (hs : s' = s + 1) (h0 : 0 ≤ s) (hk : (qm s.toNat).toInt ≤ k) (hm : ∀ j : Nat, (j : Int) ≠ s → qm' j = qm j) : zz_E9 o o' qk qm s k x := ⟨h.1, fun a k' y h1 h2 h3 h4 h5 h6 => by
  have hk' : (a : Int) = s → (k' : Int) < k := fun e => by rw [show s.toNat = a by omega] at hk; omega
  have as : s < (a : Int) := by
    rcases h6 with c | ⟨c, d⟩
    · exact c
    · have := hk' c
      rcases d with d | ⟨d, _⟩ <;> omega
  refine h.2 a k' y h1 h2 (by rw [hm a (by omega)]; exact h3) h4 h5 ?_
  by_cases c : s' < (a : Int)
  · exact Or.inl c
  · refine Or.inr ⟨by omega, ?_⟩
    by_cases d : 0 < (k' : Int)
    · exact Or.inl d
    · exact Or.inr ⟨by omega, by omega⟩⟩
/-- the entry is done: on to the next -/
theorem zz_E9_ent {o o' qk qm : Nat → Int32} {s k k' x : Int} (h : zz_E9 o o' qk qm s k' 0) (hk : k' = k + 1) (hx : s ≤ x) : zz_E9 o o' qk qm s k x := ⟨h.1, fun a b y h1 h2 h3 h4 h5 h6 => by
  refine h.2 a b y h1 h2 h3 h4 h5 ?_
  rcases h6 with c | ⟨c, d⟩
  · exact Or.inl c
  · refine Or.inr ⟨c, ?_⟩
    rcases d with d | ⟨d, e⟩
    · by_cases g : k' < (b : Int)
      · exact Or.inl g
      · exact Or.inr ⟨by omega, by omega⟩
    · omega⟩
/-- one word -/
theorem zz_E9_word {o o' qk qm : Nat → Int32} {s k x x' : Int} {i j : Nat} {v : Int32} (h : zz_E9 (upd o i v) o' qk qm s k x') (hx : x' = x + 1) (hv : v.toInt = -1) (hi : (i : Int) = (qk j).toInt + x) (hj : (j : Int) = 1024 * s + k) (ho : (o i).toInt = -2 ∨ (o i).toInt = -1) (h0 : 0 ≤ s) (hk : 0 ≤ k) : zz_E9 o o' qk qm s k x := ⟨zz_er2_step h.1 hv ho, fun a b y h1 h2 h3 h4 h5 h6 => by
  by_cases c : y = i ∧ (a : Int) = s ∧ (b : Int) = k
  · have g := h.1 i
    rw [zz_updE, if_pos rfl] at g
    rw [c.1]
    rcases g with g | g
    · rw [g]; exact hv
    · exact g.2
  · refine h.2 a b y h1 h2 h3 h4 h5 ?_
    rcases h6 with d | ⟨d, e⟩
    · exact Or.inl d
    · refine Or.inr ⟨d, ?_⟩
      rcases e with e | ⟨e, f⟩
      · exact Or.inl e
      · refine Or.inr ⟨e, ?_⟩
        have ej : 1024 * a + b = j := by omega
        rw [ej] at f ⊢
        by_cases g : y = i
        · exact absurd ⟨g, d, e⟩ c
        · omega⟩
theorem zz_E9_ini {o o' qk qm : Nat → Int32} {s : Int} (h : zz_E9 o o' qk qm s 0 0) (hs : s = 1) : zz_er2 o o' ∧ ∀ s' k' y : Nat, 1 ≤ s' → s' ≤ 8 → (k' : Int) < (qm s').toInt → (qk (1024 * s' + k')).toInt ≤ (y : Int) → (y : Int) < (qk (1024 * s' + k')).toInt + (s' : Int) → (o' y).toInt = -1 := ⟨h.1, fun a b y h1 h2 h3 h4 h5 => by
  refine h.2 a b y h1 h2 h3 h4 h5 ?_
  by_cases c : s < (a : Int)
  · exact Or.inl c
  · refine Or.inr ⟨by omega, ?_⟩
    by_cases d : 0 < (b : Int)
    · exact Or.inl d
    · exact Or.inr ⟨by omega, by omega⟩⟩
/-- the class's rows emptied: c' is c with the words of X's entries free -/
def zz_W9 (c c' : Nat → Int32) (X : List (Nat × Nat)) : Prop := ∀ y : Nat, ((∃ x ∈ X, x.1 ≤ y ∧ y < x.1 + x.2) ∧ (c' y).toInt = -1) ∨ ((¬ ∃ x ∈ X, x.1 ≤ y ∧ y < x.1 + x.2) ∧ c' y = c y)
/-- on the way: entries i .. n - 1 are still to come -/
def zz_W9p (c c' : Nat → Int32) (qp qw : Nat → Int32) (i n : Int) : Prop := zz_W9 c c' (zz_sg qp qw i.toNat (n - i).toNat)
theorem zz_W9p_end {c qp qw : Nat → Int32} {i n : Int} (h : n ≤ i) : zz_W9p c c qp qw i n := fun y => by
  refine Or.inr ⟨?_, rfl⟩
  rw [show (n - i).toNat = 0 by omega]
  rintro ⟨x, hx, _⟩
  exact absurd hx (List.not_mem_nil)
theorem zz_sg_low (pc wc : Nat → Int32) (a : Nat) : ∀ k, zz_sg pc wc a (k + 1) = zz_sg pc wc (a + 1) k ++ [((pc a).toNatClampNeg, (wc a).toNatClampNeg)] := fun k => by
  have := zz_sg_app pc wc a 1 k
  rw [show k + 1 = 1 + k by omega, this, zz_sg_s]
  rfl
theorem zz_W9p_step {c c1 c' qp qw : Nat → Int32} {i i' n p s : Int} {j : Nat} {v : Int32} (h : zz_W9p c1 c' qp qw i' n) (hw : zz_wr c c1 p (p + s) v) (hv : v.toInt = -1) (hj : (j : Int) = i) (hi : i' = i + 1) (hn : i < n) (hp : p = (qp j).toInt) (hs : s = (qw j).toInt) (hp0 : 0 ≤ p) (hs0 : 0 ≤ s) : zz_W9p c c' qp qw i n := fun y => by
  have e : zz_sg qp qw i.toNat (n - i).toNat = zz_sg qp qw i'.toNat (n - i').toNat ++ [((qp j).toNatClampNeg, (qw j).toNatClampNeg)] := by
    rw [show (n - i).toNat = (n - i').toNat + 1 by omega, zz_sg_low, show i.toNat + 1 = i'.toNat by omega, show i.toNat = j by omega]
  have g := h y
  rw [e]
  have ep := zz_tn (qp j)
  have es := zz_tn (qw j)
  rcases g with ⟨⟨x, x1, x2⟩, g2⟩ | ⟨g1, g2⟩
  · exact Or.inl ⟨⟨x, List.mem_append.mpr (Or.inl x1), x2⟩, g2⟩
  · rw [hw y] at g2
    by_cases d : p ≤ (y : Int) ∧ (y : Int) < p + s
    · rw [if_pos d] at g2
      refine Or.inl ⟨⟨_, List.mem_append.mpr (Or.inr (List.mem_singleton.mpr rfl)), ?_⟩, by rw [g2]; exact hv⟩
      show (qp j).toNatClampNeg ≤ y ∧ y < (qp j).toNatClampNeg + (qw j).toNatClampNeg
      omega
    · rw [if_neg d] at g2
      refine Or.inr ⟨?_, g2⟩
      rintro ⟨x, x1, x2⟩
      rcases List.mem_append.mp x1 with x1 | x1
      · exact g1 ⟨x, x1, x2⟩
      · rw [List.mem_singleton] at x1
        rw [x1] at x2
        have x2 : (qp j).toNatClampNeg ≤ y ∧ y < (qp j).toNatClampNeg + (qw j).toNatClampNeg := x2
        omega
/-- quick ones: X in their order, newest first -/
def zz_F9 (w : Int) (o qk qm : Nat → Int32) (X : List (Nat × Nat)) : Prop := zz_RX (fun v => v) 9 qk qm X ∧ (∀ x ∈ X, 1 ≤ x.2 ∧ x.2 ≤ 8 ∧ ((x.1 + x.2 : Nat) : Int) ≤ w ∧ ∀ y : Nat, x.1 ≤ y → y < x.1 + x.2 → (o y).toInt = -2) ∧ (X.map Prod.fst).Nodup ∧ (∀ x ∈ X, ∀ y ∈ X, x.1 < y.1 → x.1 + x.2 ≤ y.1) ∧ ∀ y : Nat, (y : Int) < w → (o y).toInt = -2 → ∃ x ∈ X, x.1 ≤ y ∧ y < x.1 + x.2
/-- an entry of the reference's row s is one of X -/
theorem zz_RX_ent {κ : Nat → Nat} {N : Nat} {li lm : Nat → Int32} {X : List (Nat × Nat)} {l k : Nat} (h : zz_RX κ N li lm X) (hl : l < N) (hk : k < (lm l).toNatClampNeg) : ∃ v, (X.filter (fun y => κ y.2 == l))[k]? = some ((li (1024 * l + k)).toNatClampNeg, v) ∧ ((li (1024 * l + k)).toNatClampNeg, v) ∈ X ∧ κ v = l := by
  have g := zz_rw_get li (lm l).toNatClampNeg (1024 * l) k hk
  rw [h l hl, List.getElem?_map] at g
  obtain ⟨y, hy, e⟩ := Option.map_eq_some_iff.mp g
  obtain ⟨m1, m2⟩ := List.mem_filter.mp (List.mem_of_getElem? hy)
  have m2 : κ y.2 = l := eq_of_beq m2
  have ey : y = ((li (1024 * l + k)).toNatClampNeg, y.2) := by rw [← e]
  rw [ey] at hy m1
  exact ⟨y.2, hy, m1, m2⟩
theorem zz_F9_Q {w : Int} {o qk qm : Nat → Int32} {X : List (Nat × Nat)} {s : Int} (h : zz_F9 w o qk qm X) (hq : ∀ j : Nat, j < 9216 → 0 ≤ (qk j).toInt) (hm : ∀ j : Nat, j < 9 → (qm j).toInt ≤ 1000) : zz_Q9 o qk qm s := fun s' k' y _ h1 h2 h3 h4 h5 => by
  have em := zz_tn (qm s')
  have := hm s' (by omega)
  obtain ⟨v, _, m1, m2⟩ := zz_RX_ent (l := s') (k := k') h.1 (by omega) (by omega)
  have m2 : v = s' := m2
  have e0 := hq (1024 * s' + k') (by omega)
  have e1 := zz_tn (qk (1024 * s' + k'))
  exact Or.inl ((h.2.1 _ m1).2.2.2 y (by show (qk (1024 * s' + k')).toNatClampNeg ≤ y; omega) (by show y < (qk (1024 * s' + k')).toNatClampNeg + v; omega))
/-- the quick one that a give takes -/
theorem zz_F9_hd {w : Int} {o qk qm : Nat → Int32} {X : List (Nat × Nat)} {n : Nat} (h : zz_F9 w o qk qm X) (hn : n < 9) : (0 < (qm n).toInt ∧ X.find? (fun x => x.2 == n) = some ((qk (1024 * n)).toNatClampNeg, n)) ∨ ((qm n).toInt ≤ 0 ∧ X.find? (fun x => x.2 == n) = none) := by
  have em := zz_tn (qm n)
  have R := h.1 n hn
  by_cases c : 0 < (qm n).toInt
  · obtain ⟨v, g1, g2, g3⟩ := zz_RX_ent (l := n) (k := 0) h.1 hn (by omega)
    refine Or.inl ⟨c, ?_⟩
    rw [← List.head?_filter, List.head?_eq_getElem?, g1]
    have g3 : v = n := g3
    rw [g3, Nat.add_zero]
  · refine Or.inr ⟨by omega, ?_⟩
    rw [show (qm n).toNatClampNeg = 0 by omega] at R
    have R2 : X.filter (fun x => x.2 == n) = [] := List.map_eq_nil_iff.mp R.symm
    rw [← List.head?_filter, R2]
    rfl
theorem zz_F9_big {w : Int} {o qk qm : Nat → Int32} {X : List (Nat × Nat)} {n : Nat} (h : zz_F9 w o qk qm X) (hn : 8 < n) : X.find? (fun x => x.2 == n) = none := by
  rw [List.find?_eq_none]
  intro x hx c
  have := (h.2.1 x hx).2.1
  have := eq_of_beq c
  omega
/-- taken: the entry goes, its words come to a block -/
theorem zz_F9_take {w : Int} {o o' qk qm qk' qm' : Nat → Int32} {X : List (Nat × Nat)} {p n : Nat} {b : Int32} (h : zz_F9 w o qk qm X) (hx : (p, n) ∈ X) (hR : zz_RX (fun v => v) 9 qk' qm' (X.filter (fun x => x.1 != p))) (hw : zz_wr o o' (p : Int) ((p : Int) + (n : Int)) b) (hb : 0 ≤ b.toInt) : zz_F9 w o' qk' qm' (X.filter (fun x => x.1 != p)) := by
  obtain ⟨a1, a2, a3, a4, a5⟩ := h
  have mem : ∀ x, x ∈ X.filter (fun x => x.1 != p) ↔ x ∈ X ∧ x.1 ≠ p := fun x => by rw [List.mem_filter]; simp
  have dis : ∀ x ∈ X, x.1 ≠ p → ∀ y : Nat, x.1 ≤ y → y < x.1 + x.2 → ¬ (p ≤ y ∧ y < p + n) := fun x h1 h2 y y1 y2 z => by
    rcases Nat.lt_or_gt_of_ne h2 with c | c
    · have := a4 x h1 (p, n) hx c
      have : x.1 + x.2 ≤ p := this
      omega
    · have := a4 (p, n) hx x h1 c
      have : p + n ≤ x.1 := this
      omega
  refine ⟨hR, fun x h1 => ?_, List.Sublist.nodup (List.Sublist.map _ List.filter_sublist) a3, fun x h1 y h2 => a4 x ((mem x).mp h1).1 y ((mem y).mp h2).1, fun y hy h2 => ?_⟩
  · obtain ⟨m1, m2⟩ := (mem x).mp h1
    obtain ⟨c1, c2, c3, c4⟩ := a2 x m1
    refine ⟨c1, c2, c3, fun y y1 y2 => ?_⟩
    rw [hw y, if_neg (fun z => dis x m1 m2 y y1 y2 (by omega))]
    exact c4 y y1 y2
  · rw [hw y] at h2
    by_cases c : (p : Int) ≤ (y : Int) ∧ (y : Int) < (p : Int) + (n : Int)
    · rw [if_pos c] at h2; omega
    · rw [if_neg c] at h2
      obtain ⟨x, x1, x2, x3⟩ := a5 y hy h2
      refine ⟨x, (mem x).mpr ⟨x1, fun e => c ?_⟩, x2, x3⟩
      have ex := zz_nd_uq a3 x1 hx e
      rw [ex] at x2 x3
      have x2 : p ≤ y := x2
      have x3 : y < p + n := x3
      omega
/-- a block comes to free words: quick ones stay as they are -/
theorem zz_F9_put {w : Int} {o o' qk qm : Nat → Int32} {X : List (Nat × Nat)} {p n : Int} {b : Int32} (h : zz_F9 w o qk qm X) (hw : zz_wr o o' p (p + n) b) (hf : ∀ y : Nat, p ≤ (y : Int) → (y : Int) < p + n → (o y).toInt ≠ -2) (hb : b.toInt ≠ -2) : zz_F9 w o' qk qm X := by
  obtain ⟨a1, a2, a3, a4, a5⟩ := h
  refine ⟨a1, fun x h1 => ?_, a3, a4, fun y hy h2 => ?_⟩
  · obtain ⟨c1, c2, c3, c4⟩ := a2 x h1
    refine ⟨c1, c2, c3, fun y y1 y2 => ?_⟩
    have := c4 y y1 y2
    rw [hw y, if_neg (fun z => hf y z.1 z.2 this)]
    exact this
  · rw [hw y] at h2
    by_cases c : p ≤ (y : Int) ∧ (y : Int) < p + n
    · rw [if_pos c] at h2; exact absurd h2 hb
    · rw [if_neg c] at h2
      exact a5 y hy h2
/-- a block goes, and becomes quick -/
theorem zz_F9_push {w : Int} {o o' qk qm qk' qm' : Nat → Int32} {X : List (Nat × Nat)} {p n : Nat} {q : Int32} (h : zz_F9 w o qk qm X) (hw : zz_wr o o' (p : Int) ((p : Int) + (n : Int)) q) (hq : q.toInt = -2) (hb : ∀ y : Nat, p ≤ y → y < p + n → 0 ≤ (o y).toInt) (h1 : 1 ≤ n) (h8 : n ≤ 8) (hp : ((p + n : Nat) : Int) ≤ w) (hR : zz_RX (fun v => v) 9 qk' qm' ((p, n) :: X)) : zz_F9 w o' qk' qm' ((p, n) :: X) := by
  obtain ⟨a1, a2, a3, a4, a5⟩ := h
  have dis : ∀ x ∈ X, ∀ y : Nat, x.1 ≤ y → y < x.1 + x.2 → ¬ (p ≤ y ∧ y < p + n) := fun x hx y y1 y2 z => by
    have e1 := (a2 x hx).2.2.2 y y1 y2
    have e2 := hb y z.1 z.2
    omega
  have pos : ∀ x ∈ X, x.1 + x.2 ≤ p ∨ p + n ≤ x.1 := fun x hx => by
    have e1 := (a2 x hx).1
    by_cases c : x.1 ≤ p
    · by_cases d : p < x.1 + x.2
      · exact (dis x hx p c d ⟨Nat.le_refl _, by omega⟩).elim
      · exact Or.inl (by omega)
    · by_cases d : x.1 < p + n
      · exact (dis x hx x.1 (Nat.le_refl _) (by omega) ⟨by omega, d⟩).elim
      · exact Or.inr (by omega)
  refine ⟨hR, fun x hx => ?_, ?_, fun x hx y hy c => ?_, fun y hy h2 => ?_⟩
  · rcases List.mem_cons.mp hx with e | hx
    · rw [e]
      refine ⟨h1, h8, hp, fun y y1 y2 => ?_⟩
      have y1 : p ≤ y := y1
      have y2 : y < p + n := y2
      rw [hw y, if_pos (by omega)]
      exact hq
    · obtain ⟨c1, c2, c3, c4⟩ := a2 x hx
      refine ⟨c1, c2, c3, fun y y1 y2 => ?_⟩
      rw [hw y, if_neg (fun z => dis x hx y y1 y2 (by omega))]
      exact c4 y y1 y2
  · rw [List.map_cons, List.nodup_cons]
    refine ⟨fun c => ?_, a3⟩
    obtain ⟨x, x1, x2⟩ := List.mem_map.mp c
    have x2 : x.1 = p := x2
    have e1 := (a2 x x1).1
    rcases pos x x1 with d | d <;> omega
  · rcases List.mem_cons.mp hx with e | hx
    · rcases List.mem_cons.mp hy with f | hy
      · rw [e, f] at c; exact absurd c (Nat.lt_irrefl _)
      · rw [e] at c ⊢
        have c : p < y.1 := c
        show p + n ≤ y.1
        have e1 := (a2 y hy).1
        rcases pos y hy with d | d <;> omega
    · rcases List.mem_cons.mp hy with f | hy
      · rw [f] at c ⊢
        have c : x.1 < p := c
        show x.1 + x.2 ≤ p
        rcases pos x hx with d | d <;> omega
      · exact a4 x hx y hy c
  · rw [hw y] at h2
    by_cases c : (p : Int) ≤ (y : Int) ∧ (y : Int) < (p : Int) + (n : Int)
    · exact ⟨(p, n), List.mem_cons_self, by show p ≤ y; omega, by show y < p + n; omega⟩
    · rw [if_neg c] at h2
      obtain ⟨x, x1, x2, x3⟩ := a5 y hy h2
      exact ⟨x, List.mem_cons_of_mem _ x1, x2, x3⟩
/-- all quick ones made free, on both sides -/
theorem zz_F9_empty {w : Int} {c c1 o o1 nu qk qm qm' : Nat → Int32} {X : List (Nat × Nat)} (h : zz_F9 w o qk qm X) (hq : ∀ j : Nat, j < 9216 → 0 ≤ (qk j).toInt) (hm0 : ∀ j : Nat, j < 9 → 0 ≤ (qm j).toInt ∧ (qm j).toInt ≤ 1000) (hO : zz_OC w c o nu) (hE : zz_er2 o o1 ∧ ∀ s' k' y : Nat, 1 ≤ s' → s' ≤ 8 → (k' : Int) < (qm s').toInt → (qk (1024 * s' + k')).toInt ≤ (y : Int) → (y : Int) < (qk (1024 * s' + k')).toInt + (s' : Int) → (o1 y).toInt = -1) (hW : zz_W9 c c1 X) (hm : ∀ s : Nat, 1 ≤ s → s ≤ 8 → (qm' s).toInt = 0) (hz : qm' 0 = qm 0) : zz_F9 w o1 qk qm' [] ∧ zz_OC w c1 o1 nu ∧ (∀ y : Nat, (y : Int) < w → ((0 ≤ (o y).toInt ∧ o1 y = o y) ∨ ((o y).toInt < 0 ∧ (o1 y).toInt = -1))) := by
  obtain ⟨a1, a2, a3, a4, a5⟩ := h
  have cov : ∀ y : Nat, (y : Int) < w → (o y).toInt = -2 → (o1 y).toInt = -1 := fun y hy h2 => by
    obtain ⟨x, x1, x2, x3⟩ := a5 y hy h2
    obtain ⟨c1', c2', c3', c4'⟩ := a2 x x1
    have R := a1 x.2 (by omega)
    have mf : x.1 ∈ (X.filter (fun z => z.2 == x.2)).map Prod.fst := List.mem_map.mpr ⟨x, List.mem_filter.mpr ⟨x1, by simp⟩, rfl⟩
    rw [← R] at mf
    obtain ⟨k, k1⟩ := List.mem_iff_getElem?.mp mf
    have kl : k < (qm x.2).toNatClampNeg := by
      have := (List.getElem?_eq_some_iff.mp k1).1
      rw [zz_rw_len] at this
      exact this
    rw [zz_rw_get qk _ _ _ kl] at k1
    have ek := Option.some.inj k1
    have em := zz_tn (qm x.2)
    have mb := hm0 x.2 (by omega)
    have q0 := hq (1024 * x.2 + k) (by omega)
    have eq := zz_tn (qk (1024 * x.2 + k))
    exact hE.2 x.2 k y c1' c2' (by omega) (by omega) (by omega)
  have ow : ∀ y : Nat, (y : Int) < w → ((0 ≤ (o y).toInt ∧ o1 y = o y) ∨ ((o y).toInt < 0 ∧ (o1 y).toInt = -1)) := fun y hy => by
    have e := hE.1 y
    rcases hO y hy with g | g | g
    · refine Or.inr ⟨by omega, ?_⟩
      rcases e with e | e
      · rw [e]; exact g.1
      · exact e.2
    · exact Or.inr ⟨by omega, cov y hy g.1⟩
    · refine Or.inl ⟨g.1, ?_⟩
      rcases e with e | e
      · exact e
      · omega
  refine ⟨⟨fun l hl => ?_, fun x hx => (by cases hx), List.nodup_nil, fun x hx => (by cases hx), fun y hy h2 => ?_⟩, fun y hy => ?_, ow⟩
  · by_cases c : l = 0
    · have R := a1 0 (by omega)
      have : X.filter (fun x => x.2 == 0) = [] := by
        rw [List.filter_eq_nil_iff]
        intro x hx d
        have := (a2 x hx).1
        have := eq_of_beq d
        omega
      rw [c, hz]
      rw [this] at R
      exact R
    · have := hm l (by omega) (by omega)
      rw [zz_tn, this]
      rfl
  · rcases ow y hy with g | g
    · rw [g.2] at h2; omega
    · omega
  · rcases hO y hy with g | g | g
    · left
      refine ⟨?_, ?_⟩
      · rcases ow y hy with k | k
        · omega
        · exact k.2
      · rcases hW y with ⟨_, k⟩ | ⟨_, k⟩
        · exact k
        · rw [k]; exact g.2
    · left
      refine ⟨cov y hy g.1, ?_⟩
      rcases hW y with ⟨_, k⟩ | ⟨k, _⟩
      · exact k
      · exact (k (a5 y hy g.1)).elim
    · right; right
      rcases ow y hy with k | k
      · rw [k.2]
        refine ⟨g.1, ?_⟩
        rcases hW y with ⟨⟨x, x1, x2, x3⟩, _⟩ | ⟨_, k2⟩
        · have := (a2 x x1).2.2.2 y x2 x3
          omega
        · rw [k2]; exact g.2
      · omega
/-! form 4: halves of two -/
theorem zz_p2_half {q h : Int} (hq : zz_p2 q) (hh : zz_p2 h) (h1 : q ≤ h) (h2 : h < 2 * q) : q = h := by
  unfold zz_p2 at hq hh
  rcases hq with hq | hq | hq | hq | hq | hq | hq | hq | hq | hq | hq <;> omega
theorem zz_p2_div {h : Int} (hh : zz_p2 h) (h1 : 2 ≤ h) : zz_p2 (h / 2) ∧ 2 * (h / 2) = h := by
  unfold zz_p2 at hh ⊢
  rcases hh with hh | hh | hh | hh | hh | hh | hh | hh | hh | hh | hh <;> omega
theorem zz_p2_le {q h : Int} (hq : zz_p2 q) (hh : zz_p2 h) (h1 : q < h) : 2 * q ≤ h := by
  unfold zz_p2 at hq hh
  rcases hq with hq | hq | hq | hq | hq | hq | hq | hq | hq | hq | hq <;> omega
/-- the greatest power of two that is n or less -/
def zz_gpw (n r : Int) : Prop := zz_p2 r ∧ r ≤ n ∧ n < 2 * r
theorem zz_gpw_uq {n r s : Int} (h1 : zz_gpw n r) (h2 : zz_gpw n s) : r = s := by
  rcases Int.lt_trichotomy r s with c | c | c
  · have := zz_p2_le h1.1 h2.1 c
    have := h1.2.2
    have := h2.2.1
    omega
  · exact c
  · have := zz_p2_le h2.1 h1.1 c
    have := h2.2.2
    have := h1.2.1
    omega
-- the least piece with s words
def zz_smp (f : Nat → Int32) (W s r : Int) : Prop := (r = -1 ∧ ∀ x : Nat, (x : Int) < W → (f x).toInt < s) ∨ (0 ≤ r ∧ r < W ∧ s ≤ (f r.toNat).toInt ∧ ∀ x : Nat, (x : Int) < W → s ≤ (f x).toInt → (f r.toNat).toInt ≤ (f x).toInt ∧ ((f x).toInt = (f r.toNat).toInt → r ≤ (x : Int)))
theorem zz_smp_0 {f : Nat → Int32} {W s r : Int} (hW : W ≤ 0) (hr : r = -1) : zz_smp f W s r := Or.inl ⟨hr, fun x hx => by omega⟩
theorem zz_smp_keep {f : Nat → Int32} {W W' s : Int} {r : Int32} {i : Nat} (h : zz_smp f W s r.toInt) (hi : (i : Int) = W) (hW : W' = W + 1) (hk : (f i).toInt < s ∨ (0 ≤ r.toInt ∧ (f r.toNatClampNeg).toInt ≤ (f i).toInt)) : zz_smp f W' s r.toInt := by
  rcases h with ⟨h1, h2⟩ | ⟨h1, h2, h3, h4⟩
  · refine Or.inl ⟨h1, fun x hx => ?_⟩
    by_cases c : x = i
    · rw [c]; omega
    · exact h2 x (by omega)
  · refine Or.inr ⟨h1, by omega, h3, fun x hx hs => ?_⟩
    by_cases c : x = i
    · rw [c] at hs ⊢
      have hk : (f r.toInt.toNat).toInt ≤ (f i).toInt := by
        rcases hk with hk | hk
        · omega
        · exact hk.2
      exact ⟨hk, fun _ => by omega⟩
    · exact h4 x (by omega) hs
theorem zz_smp_new {f : Nat → Int32} {W W' s : Int} {r q : Int32} {i : Nat} (h : zz_smp f W s r.toInt) (hi : (i : Int) = W) (hW : W' = W + 1) (hs : s ≤ (f i).toInt) (hn : r.toInt = -1 ∨ (f i).toInt < (f r.toNatClampNeg).toInt) (hq : q.toInt = W) : zz_smp f W' s q.toInt := by
  refine Or.inr ⟨by omega, by omega, by rw [show q.toInt.toNat = i by omega]; exact hs, fun x hx hxs => ?_⟩
  rw [show q.toInt.toNat = i by omega]
  by_cases c : x = i
  · rw [c]; exact ⟨Int.le_refl _, fun _ => by omega⟩
  · rcases h with ⟨h1, h2⟩ | ⟨h1, h2, h3, h4⟩
    · have := h2 x (by omega)
      omega
    · have d := h4 x (by omega) hxs
      have hn : (f i).toInt < (f r.toInt.toNat).toInt := by
        rcases hn with hn | hn
        · omega
        · exact hn
      exact ⟨by omega, fun z => by omega⟩
theorem zz_smp_uq {f g : Nat → Int32} {W s r q : Int} (h1 : zz_smp f W s r) (h2 : zz_smp g W s q) (he : ∀ x : Nat, (x : Int) < W → (f x).toInt = (g x).toInt) : r = q := by
  rcases h1 with ⟨a1, a2⟩ | ⟨a1, a2, a3, a4⟩
  · rcases h2 with ⟨b1, b2⟩ | ⟨b1, b2, b3, b4⟩
    · omega
    · have := a2 q.toNat (by omega)
      rw [he q.toNat (by omega)] at this
      omega
  · rcases h2 with ⟨b1, b2⟩ | ⟨b1, b2, b3, b4⟩
    · have := b2 r.toNat (by omega)
      rw [← he r.toNat (by omega)] at this
      omega
    · have e1 := he r.toNat (by omega)
      have e2 := he q.toNat (by omega)
      have d1 := a4 q.toNat (by omega) (by omega)
      have d2 := b4 r.toNat (by omega) (by omega)
      have : r ≤ ((q.toNat : Nat) : Int) := d1.2 (by omega)
      have : q ≤ ((r.toNat : Nat) : Int) := d2.2 (by omega)
      omega
/-- beyond W all is 0: it makes no difference how far is looked -/
theorem zz_smp_ext {f : Nat → Int32} {W V s r : Int} (h : zz_smp f V s r) (hV : W ≤ V) (hz : ∀ x : Nat, W ≤ (x : Int) → (x : Int) < V → (f x).toInt = 0) (hs : 1 ≤ s) : zz_smp f W s r := by
  rcases h with ⟨h1, h2⟩ | ⟨h1, h2, h3, h4⟩
  · exact Or.inl ⟨h1, fun x hx => h2 x (by omega)⟩
  · refine Or.inr ⟨h1, ?_, h3, fun x hx => h4 x (by omega)⟩
    refine Int.not_le.mp fun z => ?_
    have := hz r.toNat (by omega) (by omega)
    omega
-- splitting: at p + q a piece of q words, for all powers q from s to h
def zz_shv (f f' : Nat → Int32) (p h s : Int) : Prop := ∀ x : Nat, ((x : Int) = p ∧ (f' x).toInt = 0) ∨ ((x : Int) ≠ p ∧ ∃ q, zz_p2 q ∧ s ≤ q ∧ q ≤ h ∧ (x : Int) = p + q ∧ (f' x).toInt = q) ∨ ((x : Int) ≠ p ∧ (∀ q, zz_p2 q → s ≤ q → q ≤ h → (x : Int) ≠ p + q) ∧ f' x = f x)
theorem zz_shv_end {f : Nat → Int32} {p h s : Int} {i : Nat} {v : Int32} (hi : (i : Int) = p) (hv : v.toInt = 0) (hh : h < s) : zz_shv f (upd f i v) p h s := fun x => by
  rw [zz_updE]
  by_cases c : x = i
  · rw [if_pos c]; exact Or.inl ⟨by omega, hv⟩
  · rw [if_neg c]; exact Or.inr (Or.inr ⟨by omega, fun q _ h1 h2 => by omega, rfl⟩)
theorem zz_shv_step {f f' : Nat → Int32} {p h h' s : Int} {i : Nat} {v : Int32} (hS : zz_shv (upd f i v) f' p h' s) (hh : zz_p2 h) (hs : s ≤ h) (hh' : h' = h / 2) (hi : (i : Int) = p + h) (hv : v.toInt = h) : zz_shv f f' p h s := fun x => by
  have hpos : 1 ≤ h := by unfold zz_p2 at hh; omega
  have g := hS x
  rw [zz_updE] at g
  rcases g with g | ⟨g1, q, g2, g3, g4, g5, g6⟩ | ⟨g1, g2, g3⟩
  · exact Or.inl g
  · exact Or.inr (Or.inl ⟨g1, q, g2, g3, by omega, g5, g6⟩)
  · by_cases c : x = i
    · rw [if_pos c] at g3
      exact Or.inr (Or.inl ⟨g1, h, hh, hs, Int.le_refl _, by omega, by rw [g3]; exact hv⟩)
    · rw [if_neg c] at g3
      refine Or.inr (Or.inr ⟨g1, fun q q1 q2 q3 q4 => ?_, g3⟩)
      by_cases d : q ≤ h'
      · exact g2 q q1 q2 d q4
      · have := zz_p2_half q1 hh q3 (by omega)
        omega
/-- the reference's: the piece at p is 0 already, size the words that are left to halve -/
def zz_sr (f f' : Nat → Int32) (p z s : Int) : Prop := ∀ x : Nat, (∃ q, zz_p2 q ∧ s ≤ q ∧ 2 * q ≤ z ∧ (x : Int) = p + q ∧ (f' x).toInt = q) ∨ ((∀ q, zz_p2 q → s ≤ q → 2 * q ≤ z → (x : Int) ≠ p + q) ∧ f' x = f x)
theorem zz_sr_end {f : Nat → Int32} {p z s : Int} (hz : z ≤ s) (hs : 1 ≤ s) : zz_sr f f p z s := fun x => Or.inr ⟨fun q _ h1 h2 => by omega, rfl⟩
theorem zz_sr_step {f f' : Nat → Int32} {p z z' s : Int} {i : Nat} {v : Int32} (h : zz_sr (upd f i v) f' p z' s) (hz : zz_p2 z) (hs : zz_p2 s) (hsz : s < z) (hz' : z' = z / 2) (hi : (i : Int) = p + z') (hv : v.toInt = z') : zz_sr f f' p z s := fun x => by
  have d := zz_p2_div hz (by unfold zz_p2 at hs; omega)
  have sl := zz_p2_le hs hz hsz
  have g := h x
  rw [zz_updE] at g
  rcases g with ⟨q, g2, g3, g4, g5, g6⟩ | ⟨g2, g3⟩
  · have qp : 1 ≤ q := by unfold zz_p2 at g2; omega
    exact Or.inl ⟨q, g2, g3, by omega, g5, g6⟩
  · by_cases c : x = i
    · rw [if_pos c] at g3
      exact Or.inl ⟨z', by rw [hz']; exact d.1, by omega, by omega, by omega, by rw [g3]; exact hv⟩
    · rw [if_neg c] at g3
      refine Or.inr ⟨fun q q1 q2 q3 q4 => ?_, g3⟩
      by_cases e : 2 * q ≤ z'
      · exact g2 q q1 q2 e q4
      · have := zz_p2_half q1 (h := z') (by rw [hz']; exact d.1) (by omega) (by omega)
        omega
-- joining
def zz_bud (p s : Nat) : Nat := if p / s % 2 = 0 then p + s else p - s
def zz_ja (W : Nat) : Nat → (Nat → Int) → Nat → Nat → Nat → Int
  | 0, A, p, s => fun x => if x = p then (s : Int) else A x
  | k + 1, A, p, s => if s < W ∧ zz_bud p s < W ∧ A (zz_bud p s) = (s : Int) then zz_ja W k (fun x => if x = zz_bud p s then 0 else A x) (min p (zz_bud p s)) (2 * s) else fun x => if x = p then (s : Int) else A x
theorem zz_ja_cg {W : Nat} : ∀ (k : Nat) (A B : Nat → Int) (p s : Nat), (∀ x, x < W → A x = B x) → ∀ x, x < W → zz_ja W k A p s x = zz_ja W k B p s x
  | 0, A, B, p, s, h, x, hx => by
    show (if x = p then (s : Int) else A x) = if x = p then (s : Int) else B x
    rw [h x hx]
  | k + 1, A, B, p, s, h, x, hx => by
    by_cases c : s < W ∧ zz_bud p s < W ∧ A (zz_bud p s) = (s : Int)
    · have c' : s < W ∧ zz_bud p s < W ∧ B (zz_bud p s) = (s : Int) := ⟨c.1, c.2.1, by rw [← h _ c.2.1]; exact c.2.2⟩
      show (if _ then _ else _ : Nat → Int) x = (if _ then _ else _ : Nat → Int) x
      rw [if_pos c, if_pos c']
      exact zz_ja_cg k _ _ _ _ (fun y hy => by
        show (if y = zz_bud p s then (0 : Int) else A y) = if y = zz_bud p s then (0 : Int) else B y
        rw [h y hy]) x hx
    · have c' : ¬ (s < W ∧ zz_bud p s < W ∧ B (zz_bud p s) = (s : Int)) := fun z => c ⟨z.1, z.2.1, by rw [h _ z.2.1]; exact z.2.2⟩
      show (if _ then _ else _ : Nat → Int) x = (if _ then _ else _ : Nat → Int) x
      rw [if_neg c, if_neg c']
      show (if x = p then (s : Int) else A x) = if x = p then (s : Int) else B x
      rw [h x hx]
/-- f' is f with the block p, s joined to its buddies (as far as W words) -/
def zz_jr (W : Int) (f f' : Nat → Int32) (p s : Int) : Prop := ∀ k : Nat, W ≤ s * ((2 ^ k : Nat) : Int) → ∀ x : Nat, (x : Int) < W → (f' x).toInt = zz_ja W.toNat k (fun y => (f y).toInt) p.toNat s.toNat x
theorem zz_jr_stop {W p s : Int} {f : Nat → Int32} {i : Nat} {v : Int32} (hi : (i : Int) = p) (hv : v.toInt = s) (hs : 1 ≤ s) (hc : W ≤ s ∨ ∃ j : Nat, (j : Int) = (zz_bud p.toNat s.toNat : Int) ∧ (W ≤ (j : Int) ∨ (f j).toInt ≠ s)) : zz_jr W f (upd f i v) p s := fun k _ x hx => by
  have e : ((upd f i v) x).toInt = if x = p.toNat then ((s.toNat : Nat) : Int) else (f x).toInt := by
    rw [zz_updE]
    by_cases c : x = i
    · rw [if_pos c, if_pos (by omega)]; omega
    · rw [if_neg c, if_neg (by omega)]
  rw [e]
  cases k with
  | zero => rfl
  | succ k =>
    have hn : ¬ (s.toNat < W.toNat ∧ zz_bud p.toNat s.toNat < W.toNat ∧ (fun y => (f y).toInt) (zz_bud p.toNat s.toNat) = ((s.toNat : Nat) : Int)) := by
      rintro ⟨z1, z2, z3⟩
      rcases hc with hc | ⟨j, j1, j2⟩
      · omega
      · have ej : zz_bud p.toNat s.toNat = j := by omega
        rw [ej] at z2 z3
        have z3 : (f j).toInt = ((s.toNat : Nat) : Int) := z3
        rcases j2 with j2 | j2 <;> omega
    show _ = (if _ then _ else _ : Nat → Int) x
    first | (rw [if_neg hn]; done) | (rw [if_neg hn]; rfl) | (simp only [if_neg hn])
theorem zz_jr_step {W p p' s s' : Int} {f f' : Nat → Int32} {j : Nat} {v : Int32} (h : zz_jr W (upd f j v) f' p' s') (hv : v.toInt = 0) (hs : 1 ≤ s) (hs' : s' = 2 * s) (hW : s < W) (hj : (j : Int) = (zz_bud p.toNat s.toNat : Int)) (hjW : (j : Int) < W) (hf : (f j).toInt = s) (hp : 0 ≤ p) (hp' : p' = min p (j : Int)) : zz_jr W f f' p s := fun k hk x hx => by
  cases k with
  | zero =>
    exfalso
    rw [show ((2 ^ 0 : Nat) : Int) = 1 from rfl] at hk
    omega
  | succ k =>
    have ej : zz_bud p.toNat s.toNat = j := by omega
    have g := h k (by
      rw [hs', Int.mul_assoc, Int.mul_left_comm]
      rw [show ((2 ^ (k + 1) : Nat) : Int) = 2 * ((2 ^ k : Nat) : Int) by rw [Nat.pow_succ]; omega] at hk
      exact hk) x hx
    rw [g]
    show _ = (if _ then _ else _ : Nat → Int) x
    rw [if_pos ⟨by omega, by rw [ej]; omega, by rw [ej]; show (f j).toInt = _; omega⟩, ej, show s'.toNat = 2 * s.toNat by omega, show p'.toNat = min p.toNat j by omega]
    congr 1
    funext y
    show ((upd f j v) y).toInt = if y = j then (0 : Int) else (f y).toInt
    rw [zz_updE]
    by_cases c : y = j
    · rw [if_pos c, if_pos c]; exact hv
    · rw [if_neg c, if_neg c]
/-- pieces: powers of two inside W, apart from one another, of free words -/
def zz_PI (W : Nat) (o : Nat → Int32) (A : Nat → Int) : Prop := (∀ x, x < W → A x = 0 ∨ (zz_p2 (A x) ∧ (x : Int) + A x ≤ (W : Int) ∧ ∀ y : Nat, (x : Int) ≤ (y : Int) → (y : Int) < (x : Int) + A x → (o y).toInt = -1)) ∧ ∀ x y, x < y → y < W → A x ≠ 0 → A y ≠ 0 → (x : Int) + A x ≤ (y : Int)
theorem zz_p2_pos {v : Int} (h : zz_p2 v) : 1 ≤ v ∧ v ≤ 1024 := by unfold zz_p2 at h; omega
/-- a free region that no piece touches may become a piece -/
theorem zz_PI_put {W : Nat} {o : Nat → Int32} {A : Nat → Int} {p s : Nat} (h : zz_PI W o A) (hs : zz_p2 (s : Int)) (hW : p + s ≤ W) (hf : ∀ y : Nat, p ≤ y → y < p + s → (o y).toInt = -1) (hd : ∀ x, x < W → A x ≠ 0 → (x : Int) + A x ≤ (p : Int) ∨ p + s ≤ x) : zz_PI W o (fun x => if x = p then (s : Int) else A x) := by
  have s1 := zz_p2_pos hs
  refine ⟨fun x hx => ?_, fun x y hxy hy hx0 hy0 => ?_⟩
  · show (if x = p then (s : Int) else A x) = 0 ∨ _
    by_cases c : x = p
    · right
      show zz_p2 (if x = p then (s : Int) else A x) ∧ (x : Int) + (if x = p then (s : Int) else A x) ≤ (W : Int) ∧ ∀ y : Nat, (x : Int) ≤ (y : Int) → (y : Int) < (x : Int) + (if x = p then (s : Int) else A x) → (o y).toInt = -1
      rw [if_pos c]
      exact ⟨hs, by omega, fun y h1 h2 => hf y (by omega) (by omega)⟩
    · show _ ∨ (zz_p2 (if x = p then (s : Int) else A x) ∧ (x : Int) + (if x = p then (s : Int) else A x) ≤ (W : Int) ∧ ∀ y : Nat, (x : Int) ≤ (y : Int) → (y : Int) < (x : Int) + (if x = p then (s : Int) else A x) → (o y).toInt = -1)
      rw [if_neg c]
      exact h.1 x hx
  · have hx0 : (if x = p then (s : Int) else A x) ≠ 0 := hx0
    have hy0 : (if y = p then (s : Int) else A y) ≠ 0 := hy0
    show (x : Int) + (if x = p then (s : Int) else A x) ≤ (y : Int)
    by_cases c : x = p
    · rw [if_pos c]
      rw [if_neg (by omega)] at hy0
      have e := h.1 y hy
      rcases e with e | e
      · exact absurd e hy0
      · have := zz_p2_pos e.1
        rcases hd y hy hy0 with d | d <;> omega
    · rw [if_neg c] at hx0 ⊢
      by_cases c2 : y = p
      · have e := h.1 x (by omega)
        rcases e with e | e
        · exact absurd e hx0
        · have := zz_p2_pos e.1
          rcases hd x (by omega) hx0 with d | d <;> omega
      · rw [if_neg c2] at hy0
        exact h.2 x y hxy hy hx0 hy0
theorem zz_ja_PI {W : Nat} {o : Nat → Int32} (hW2 : zz_p2 (W : Int)) : ∀ (k : Nat) (A : Nat → Int) (p s : Nat), zz_PI W o A → zz_p2 (s : Int) → p + s ≤ W → (∀ y : Nat, p ≤ y → y < p + s → (o y).toInt = -1) → (∀ x, x < W → A x ≠ 0 → (x : Int) + A x ≤ (p : Int) ∨ p + s ≤ x) → zz_PI W o (zz_ja W k A p s)
  | 0, A, p, s, h, hs, hW, hf, hd => zz_PI_put h hs hW hf hd
  | k + 1, A, p, s, h, hs, hW, hf, hd => by
    have s1 := zz_p2_pos hs
    by_cases c : s < W ∧ zz_bud p s < W ∧ A (zz_bud p s) = (s : Int)
    · show zz_PI W o (if _ then _ else _ : Nat → Int)
      rw [if_pos c]
      obtain ⟨c1, c2, c3⟩ := c
      have bf := (h.1 _ c2).resolve_left (by omega)
      rw [c3] at bf
      have adj : zz_bud p s = p + s ∨ (zz_bud p s = p - s ∧ s ≤ p) := by
        unfold zz_bud
        by_cases e : p / s % 2 = 0
        · rw [if_pos e]; exact Or.inl rfl
        · rw [if_neg e]
          refine Or.inr ⟨rfl, ?_⟩
          refine Nat.le_of_not_lt fun z => e ?_
          rw [Nat.div_eq_of_lt z]
      have m2 : zz_p2 ((2 * s : Nat) : Int) := by
        have := zz_p2_le hs hW2 (by omega)
        have hh := zz_p2_pos hW2
        have := hs
        unfold zz_p2 at this ⊢
        omega
      have ap : ∀ x, x < W → x ≠ zz_bud p s → A x ≠ 0 → (x : Int) + A x ≤ (zz_bud p s : Int) ∨ (zz_bud p s + s : Nat) ≤ x := fun x hx hne h0 => by
        rcases Nat.lt_or_gt_of_ne hne with d | d
        · exact Or.inl (h.2 x _ d c2 h0 (by omega))
        · have := h.2 _ x d hx (by omega) h0
          exact Or.inr (by omega)
      refine zz_ja_PI hW2 k _ _ _ ⟨fun x hx => ?_, fun x y hxy hy hx0 hy0 => ?_⟩ m2 ?_ (fun y h1 h2 => ?_) (fun x hx h0 => ?_)
      · by_cases d : x = zz_bud p s
        · left
          show (if x = zz_bud p s then (0 : Int) else A x) = 0
          rw [if_pos d]
        · show (if x = zz_bud p s then (0 : Int) else A x) = 0 ∨ (zz_p2 (if x = zz_bud p s then (0 : Int) else A x) ∧ (x : Int) + (if x = zz_bud p s then (0 : Int) else A x) ≤ (W : Int) ∧ ∀ y : Nat, (x : Int) ≤ (y : Int) → (y : Int) < (x : Int) + (if x = zz_bud p s then (0 : Int) else A x) → (o y).toInt = -1)
          rw [if_neg d]
          exact h.1 x hx
      · have hx0 : (if x = zz_bud p s then (0 : Int) else A x) ≠ 0 := hx0
        have hy0 : (if y = zz_bud p s then (0 : Int) else A y) ≠ 0 := hy0
        have dx : x ≠ zz_bud p s := fun e => hx0 (by rw [if_pos e])
        have dy : y ≠ zz_bud p s := fun e => hy0 (by rw [if_pos e])
        rw [if_neg dx] at hx0
        rw [if_neg dy] at hy0
        show (x : Int) + (if x = zz_bud p s then (0 : Int) else A x) ≤ (y : Int)
        rw [if_neg dx]
        exact h.2 x y hxy hy hx0 hy0
      · rcases adj with e | ⟨e, e2⟩
        · rw [e] at bf ⊢; omega
        · rw [e]; omega
      · rcases adj with e | ⟨e, e2⟩
        · by_cases d : y < p + s
          · exact hf y (by omega) d
          · exact bf.2.2 y (by omega) (by omega)
        · by_cases d : y < p
          · exact bf.2.2 y (by omega) (by omega)
          · exact hf y (by omega) (by omega)
      · have h0 : (if x = zz_bud p s then (0 : Int) else A x) ≠ 0 := h0
        have dx : x ≠ zz_bud p s := fun e => h0 (by rw [if_pos e])
        rw [if_neg dx] at h0
        show (x : Int) + (if x = zz_bud p s then (0 : Int) else A x) ≤ _ ∨ _
        rw [if_neg dx]
        have k1 := hd x hx h0
        have k2 := ap x hx dx h0
        have ax := (h.1 x hx).resolve_left h0
        have a1 := zz_p2_pos ax.1
        rcases adj with e | ⟨e, e2⟩
        · rw [e] at k2 ⊢
          omega
        · rw [e] at k2 ⊢
          omega
    · show zz_PI W o (if _ then _ else _ : Nat → Int)
      rw [if_neg c]
      exact zz_PI_put h hs hW hf hd
/-- form 4: the class's pieces f, the reference's g -/
def zz_F4 (w W : Int) (f g o nu pl sp : Nat → Int32) : Prop := zz_gpw w W ∧ (∀ x : Nat, (x : Int) < W → (f x).toInt = (g x).toInt) ∧ (∀ x : Nat, W ≤ (x : Int) → (x : Int) < 1024 → (g x).toInt = 0) ∧ zz_PI W.toNat o (fun x => (g x).toInt) ∧ ∀ b : Nat, b < 200 → zz_us w o nu pl b → zz_p2 (sp b).toInt ∧ (pl b).toInt + (sp b).toInt ≤ W
theorem zz_F4_give {w W : Int} {f g f' g1 g' o nu pl sp as o' nu' pl' sp' as' : Nat → Int32} {G x s a v0 : Int32} (h : zz_F4 w W f g o nu pl sp) (hw : 16 ≤ w) (hw2 : w ≤ 1024) (hg : zz_gv w o nu pl sp as o' nu' pl' sp' as' G x s a) (hx : 0 ≤ x.toInt) (hxW : x.toInt < W) (hs : zz_p2 s.toInt) (hsx : s.toInt ≤ (g x.toNatClampNeg).toInt) (hc : zz_shv f f' x.toInt ((f x.toNatClampNeg).toInt / 2) s.toInt) (hg1 : g1 = upd g x.toNatClampNeg v0) (hv0 : v0.toInt = 0) (hr : zz_sr g1 g' x.toInt (g x.toNatClampNeg).toInt s.toInt) : zz_F4 w W f' g' o' nu' pl' sp' := by
  obtain ⟨a1, a2, a3, a4, a5⟩ := h
  have us := zz_us_gv hg (by have := zz_p2_pos hs; omega) hx
  obtain ⟨b, b0, b1, bu, e1, e2, e3, e4, hwr⟩ := hg
  have ex := zz_tnI x hx
  have s1 := zz_p2_pos hs
  have W1 := zz_p2_pos a1.1
  obtain ⟨z1, z2, z3⟩ := (a4.1 x.toNatClampNeg (by omega)).resolve_left (show (g x.toNatClampNeg).toInt ≠ 0 by omega)
  have z1 : zz_p2 (g x.toNatClampNeg).toInt := z1
  have z2 : ((x.toNatClampNeg : Nat) : Int) + (g x.toNatClampNeg).toInt ≤ ((W.toNat : Nat) : Int) := z2
  have fx := a2 x.toNatClampNeg (by omega)
  -- one description of both
  have gd : ∀ y : Nat, ((y : Int) = x.toInt ∧ (g' y).toInt = 0) ∨ ((y : Int) ≠ x.toInt ∧ ∃ q, zz_p2 q ∧ s.toInt ≤ q ∧ 2 * q ≤ (g x.toNatClampNeg).toInt ∧ (y : Int) = x.toInt + q ∧ (g' y).toInt = q) ∨ ((y : Int) ≠ x.toInt ∧ (∀ q, zz_p2 q → s.toInt ≤ q → 2 * q ≤ (g x.toNatClampNeg).toInt → (y : Int) ≠ x.toInt + q) ∧ g' y = g y) := fun y => by
    have r := hr y
    rcases r with ⟨q, r1, r2, r3, r4, r5⟩ | ⟨r1, r2⟩
    · have := zz_p2_pos r1
      exact Or.inr (Or.inl ⟨by omega, q, r1, r2, r3, r4, r5⟩)
    · rw [hg1, zz_updE] at r2
      by_cases c : y = x.toNatClampNeg
      · rw [if_pos c] at r2
        exact Or.inl ⟨by omega, by rw [r2]; exact hv0⟩
      · rw [if_neg c] at r2
        exact Or.inr (Or.inr ⟨by omega, r1, r2⟩)
  have sep : ∀ y : Nat, (y : Int) < W → (g y).toInt ≠ 0 → (y : Int) ≠ x.toInt → (y : Int) + (g y).toInt ≤ x.toInt ∨ x.toInt + (g x.toNatClampNeg).toInt ≤ (y : Int) := fun y hy h0 hne => by
    rcases Nat.lt_or_gt_of_ne (show y ≠ x.toNatClampNeg by omega) with c | c
    · have := a4.2 y _ c (by omega) h0 (show (g x.toNatClampNeg).toInt ≠ 0 by omega)
      have : ((y : Nat) : Int) + (g y).toInt ≤ ((x.toNatClampNeg : Nat) : Int) := this
      omega
    · have := a4.2 _ y c (by omega) (show (g x.toNatClampNeg).toInt ≠ 0 by omega) h0
      have : ((x.toNatClampNeg : Nat) : Int) + (g x.toNatClampNeg).toInt ≤ (y : Int) := this
      omega
  refine ⟨a1, fun y hy => ?_, fun y h1 h2 => ?_, ⟨fun y hy => ?_, fun y z hyz hz h1 h2 => ?_⟩, fun j hj hu => ?_⟩
  · rcases gd y with ⟨d1, d2⟩ | ⟨d1, q, d2, d3, d4, d5, d6⟩ | ⟨d1, d2, d3⟩
    · rcases hc y with ⟨k1, k2⟩ | ⟨k1, _⟩ | ⟨k1, _⟩
      · omega
      · omega
      · omega
    · rcases hc y with ⟨k1, k2⟩ | ⟨k1, q', k2, k3, k4, k5, k6⟩ | ⟨k1, k2, k3⟩
      · omega
      · omega
      · exact absurd d5 (k2 q d2 d3 (by omega))
    · rcases hc y with ⟨k1, k2⟩ | ⟨k1, q', k2, k3, k4, k5, k6⟩ | ⟨k1, k2, k3⟩
      · omega
      · exact absurd k5 (d2 q' k2 k3 (by omega))
      · rw [k3, d3]; exact a2 y hy
  · rcases gd y with ⟨d1, d2⟩ | ⟨d1, q, d2, d3, d4, d5, d6⟩ | ⟨d1, d2, d3⟩
    · omega
    · have := zz_p2_pos d2
      omega
    · rw [d3]; exact a3 y h1 h2
  · show (g' y).toInt = 0 ∨ (zz_p2 (g' y).toInt ∧ (y : Int) + (g' y).toInt ≤ ((W.toNat : Nat) : Int) ∧ ∀ u : Nat, (y : Int) ≤ (u : Int) → (u : Int) < (y : Int) + (g' y).toInt → (o' u).toInt = -1)
    rcases gd y with ⟨d1, d2⟩ | ⟨d1, q, d2, d3, d4, d5, d6⟩ | ⟨d1, d2, d3⟩
    · exact Or.inl d2
    · right
      have := zz_p2_pos d2
      rw [d6]
      refine ⟨d2, by omega, fun u u1 u2 => ?_⟩
      rw [hwr u, if_neg (by omega)]
      exact z3 u (by omega) (by show (u : Int) < ((x.toNatClampNeg : Nat) : Int) + (g x.toNatClampNeg).toInt; omega)
    · rw [d3]
      by_cases c : (g y).toInt = 0
      · exact Or.inl c
      · right
        obtain ⟨k1, k2, k3⟩ := (a4.1 y hy).resolve_left c
        have k1 : zz_p2 (g y).toInt := k1
        have p1 := zz_p2_pos k1
        refine ⟨k1, k2, fun u u1 u2 => ?_⟩
        have sp := sep y (by omega) c d1
        rw [hwr u, if_neg (by omega)]
        exact k3 u u1 u2
  · have h1 : (g' y).toInt ≠ 0 := h1
    have h2 : (g' z).toInt ≠ 0 := h2
    show (y : Int) + (g' y).toInt ≤ (z : Int)
    have zlt : (z : Int) < W := by omega
    rcases gd y with ⟨d1, d2⟩ | ⟨d1, q, d2, d3, d4, d5, d6⟩ | ⟨d1, d2, d3⟩
    · exact absurd d2 h1
    · have qp := zz_p2_pos d2
      rcases gd z with ⟨k1, k2⟩ | ⟨k1, q', k2, k3, k4, k5, k6⟩ | ⟨k1, k2, k3⟩
      · exact absurd k2 h2
      · have := zz_p2_le d2 k2 (by omega)
        omega
      · rw [k3] at h2
        have sp := sep z zlt h2 k1
        have zp : 1 ≤ (g z).toInt := (zz_p2_pos ((a4.1 z hz).resolve_left h2).1).1
        omega
    · rw [d3] at h1 ⊢
      rcases gd z with ⟨k1, k2⟩ | ⟨k1, q', k2, k3, k4, k5, k6⟩ | ⟨k1, k2, k3⟩
      · exact absurd k2 h2
      · have qp := zz_p2_pos k2
        have sp := sep y (by omega) h1 d1
        omega
      · rw [k3] at h2
        exact a4.2 y z hyz hz h1 h2
  · rcases us j hj hu with ⟨c1, c2⟩ | ⟨c1, c2, c3⟩
    · rw [c1, c2]
      exact ⟨hs, by omega⟩
    · rw [c2, c3]; exact a5 j hj c1
theorem zz_F4_back {w W : Int} {f g f' g' o nu pl sp o' : Nat → Int32} {b : Nat} {q : Int32} (h : zz_F4 w W f g o nu pl sp) (hw : 16 ≤ w) (hw2 : w ≤ 1024) (hO : zz_OW w o nu pl sp) (hb : b < 200) (ub : zz_us w o nu pl b) (hwr : zz_wr o o' (pl b).toInt ((pl b).toInt + (sp b).toInt) q) (hq : q.toInt = -1) (hc : zz_jr W f f' (pl b).toInt (sp b).toInt) (hr : zz_jr W g g' (pl b).toInt (sp b).toInt) (hz : ∀ x : Nat, W ≤ (x : Int) → g' x = g x) : zz_F4 w W f' g' o' (upd nu b 0) pl sp := by
  obtain ⟨a1, a2, a3, a4, a5⟩ := h
  obtain ⟨p1, p2, p3, p4⟩ := hO.2 b hb ub
  obtain ⟨s1, s2⟩ := a5 b hb ub
  have W1 := zz_p2_pos a1.1
  have sp1 := zz_p2_pos s1
  have k10 : W ≤ (sp b).toInt * ((2 ^ 10 : Nat) : Int) := by
    rw [show ((2 ^ 10 : Nat) : Int) = 1024 from rfl]
    omega
  have fr : ∀ y : Nat, (o y).toInt = -1 → (o' y).toInt = -1 := fun y hy => by
    rw [hwr y]
    by_cases c : (pl b).toInt ≤ (y : Int) ∧ (y : Int) < (pl b).toInt + (sp b).toInt
    · rw [if_pos c]; exact hq
    · rw [if_neg c]; exact hy
  have PI' : zz_PI W.toNat o' (fun x => (g x).toInt) := ⟨fun x hx => by
    rcases a4.1 x hx with c | ⟨c1, c2, c3⟩
    · exact Or.inl c
    · exact Or.inr ⟨c1, c2, fun y h1 h2 => fr y (c3 y h1 h2)⟩, a4.2⟩
  have J := zz_ja_PI (W := W.toNat) (o := o') (by rw [show ((W.toNat : Nat) : Int) = W by omega]; exact a1.1) 10 (fun x => (g x).toInt) (pl b).toInt.toNat (sp b).toInt.toNat PI' (by rw [show (((sp b).toInt.toNat : Nat) : Int) = (sp b).toInt by omega]; exact s1) (by omega) (fun y h1 h2 => by rw [hwr y, if_pos (by omega)]; exact hq) (fun x hx h0 => by
    have h0 : (g x).toInt ≠ 0 := h0
    show (x : Int) + (g x).toInt ≤ _ ∨ _
    obtain ⟨c1, c2, c3⟩ := (a4.1 x hx).resolve_left h0
    have c1 : zz_p2 (g x).toInt := c1
    have c2 : (x : Int) + (g x).toInt ≤ ((W.toNat : Nat) : Int) := c2
    have g1 := zz_p2_pos c1
    by_cases d : (x : Int) + (g x).toInt ≤ (pl b).toInt
    · exact Or.inl (by omega)
    · by_cases e : (pl b).toInt + (sp b).toInt ≤ (x : Int)
      · exact Or.inr (by omega)
      · exfalso
        by_cases k : (pl b).toInt ≤ (x : Int)
        · have u1 := p4 x k (by omega)
          have u2 := c3 x (Int.le_refl _) (by show (x : Int) < (x : Int) + (g x).toInt; omega)
          omega
        · have u1 := p4 (pl b).toInt.toNat (by omega) (by omega)
          have u2 := c3 (pl b).toInt.toNat (by omega) (by show (((pl b).toInt.toNat : Nat) : Int) < (x : Int) + (g x).toInt; omega)
          omega)
  have ge : ∀ x : Nat, x < W.toNat → (g' x).toInt = zz_ja W.toNat 10 (fun y => (g y).toInt) (pl b).toInt.toNat (sp b).toInt.toNat x := fun x hx => hr 10 k10 x (by omega)
  refine ⟨a1, fun x hx => ?_, fun x h1 h2 => by rw [hz x h1]; exact a3 x h1 h2, ⟨fun x hx => ?_, fun x y hxy hy h1 h2 => ?_⟩, fun j hj hu => a5 j hj (zz_us_bk hO hb ub hwr (by omega) j hu).2⟩
  · rw [hc 10 k10 x hx, ge x (by omega)]
    exact zz_ja_cg 10 _ _ _ _ (fun y hy => a2 y (by omega)) x (by omega)
  · show (g' x).toInt = 0 ∨ (zz_p2 (g' x).toInt ∧ (x : Int) + (g' x).toInt ≤ ((W.toNat : Nat) : Int) ∧ ∀ y : Nat, (x : Int) ≤ (y : Int) → (y : Int) < (x : Int) + (g' x).toInt → (o' y).toInt = -1)
    rw [ge x hx]
    exact J.1 x hx
  · have h1 : (g' x).toInt ≠ 0 := h1
    have h2 : (g' y).toInt ≠ 0 := h2
    show (x : Int) + (g' x).toInt ≤ (y : Int)
    rw [ge x (by omega)] at h1 ⊢
    rw [ge y hy] at h2
    exact J.2 x y hxy hy h1 h2
/-! form 5: pages of classes -/
-- the first place of s words in page p: F says which of its places is free
def zz_fp5 (F : Int → Prop) (p s r : Int) : Prop := (r = -1 ∧ ∀ j : Nat, j < 32 → (j : Int) % s = 0 → ¬ F (32 * p + (j : Int))) ∨ (∃ j : Nat, j < 32 ∧ (j : Int) % s = 0 ∧ r = 32 * p + (j : Int) ∧ F r ∧ ∀ i : Nat, i < j → (i : Int) % s = 0 → ¬ F (32 * p + (i : Int)))
theorem zz_fp5_uq {F G : Int → Prop} {p s r q : Int} (h1 : zz_fp5 F p s r) (h2 : zz_fp5 G p s q) (hp : 0 ≤ p) (he : ∀ j : Nat, j < 32 → (j : Int) % s = 0 → (F (32 * p + (j : Int)) ↔ G (32 * p + (j : Int)))) : r = q := by
  rcases h1 with ⟨a1, a2⟩ | ⟨i, a1, a2, a3, a4, a5⟩
  · rcases h2 with ⟨b1, b2⟩ | ⟨j, b1, b2, b3, b4, b5⟩
    · omega
    · rw [b3] at b4
      exact absurd ((he j b1 b2).mpr b4) (a2 j b1 b2)
  · rcases h2 with ⟨b1, b2⟩ | ⟨j, b1, b2, b3, b4, b5⟩
    · rw [a3] at a4
      exact absurd ((he i a1 a2).mp a4) (b2 i a1 a2)
    · rcases Nat.lt_trichotomy i j with c | c | c
      · rw [a3] at a4
        exact absurd ((he i a1 a2).mp a4) (b5 i c a2)
      · rw [a3, b3, c]
      · rw [b3] at b4
        exact absurd ((he j b1 b2).mpr b4) (a5 j c b2)
/-- on the way: x the place that is looked at next -/
def zz_fq5 (F : Int → Prop) (p s x r : Int) : Prop := (r = -1 ∧ ∀ j : Nat, j < 32 → (j : Int) % s = 0 → x ≤ 32 * p + (j : Int) → ¬ F (32 * p + (j : Int))) ∨ (∃ j : Nat, j < 32 ∧ (j : Int) % s = 0 ∧ x ≤ 32 * p + (j : Int) ∧ r = 32 * p + (j : Int) ∧ F r ∧ ∀ i : Nat, i < j → (i : Int) % s = 0 → x ≤ 32 * p + (i : Int) → ¬ F (32 * p + (i : Int)))
theorem zz_fq5_end {F : Int → Prop} {p s x r : Int} (hx : 32 * p + 32 ≤ x) (hr : r = -1) : zz_fq5 F p s x r := Or.inl ⟨hr, fun j h1 _ h2 => by omega⟩
theorem zz_fq5_hit {F : Int → Prop} {p s x r : Int} (hF : F x) (h0 : 32 * p ≤ x) (h1 : x < 32 * p + 32) (hm : (x - 32 * p) % s = 0) (hr : r = x) : zz_fq5 F p s x r := by
  refine Or.inr ⟨(x - 32 * p).toNat, by omega, by rw [show (((x - 32 * p).toNat : Nat) : Int) = x - 32 * p by omega]; exact hm, by omega, by omega, by rw [hr]; exact hF, fun i hi _ h2 => by omega⟩
theorem zz_fq5_next {F : Int → Prop} {p s x x' r : Int} (h : zz_fq5 F p s x' r) (hx : x' = x + s) (hF : ¬ F x) (h0 : 32 * p ≤ x) (hs : 1 ≤ s) (hm : (x - 32 * p) % s = 0) : zz_fq5 F p s x r := by
  have key : ∀ j : Nat, (j : Int) % s = 0 → x ≤ 32 * p + (j : Int) → 32 * p + (j : Int) = x ∨ x' ≤ 32 * p + (j : Int) := fun j h1 h2 => by
    by_cases c : 32 * p + (j : Int) = x
    · exact Or.inl c
    · right
      have d : ((j : Int) - (x - 32 * p)) % s = 0 := by
        rw [Int.sub_emod, h1, hm]; simp
      have e := Int.ediv_mul_cancel (Int.dvd_of_emod_eq_zero d)
      have f : 0 < ((j : Int) - (x - 32 * p)) / s := by
        refine Int.not_le.mp fun z => ?_
        have : ((j : Int) - (x - 32 * p)) / s * s ≤ 0 := Int.mul_nonpos_of_nonpos_of_nonneg z (by omega)
        omega
      have g : s ≤ ((j : Int) - (x - 32 * p)) / s * s := by
        have g1 := Int.mul_le_mul_of_nonneg_right (a := 1) (b := ((j : Int) - (x - 32 * p)) / s) (c := s) (by omega) (by omega)
        rw [Int.one_mul] at g1
        exact g1
      omega
  rcases h with ⟨a1, a2⟩ | ⟨j, a1, a2, a3, a4, a5, a6⟩
  · refine Or.inl ⟨a1, fun j h1 h2 h3 => ?_⟩
    rcases key j h2 h3 with c | c
    · rw [c]; exact hF
    · exact a2 j h1 h2 c
  · refine Or.inr ⟨j, a1, a2, by omega, a4, a5, fun i hi h1 h2 => ?_⟩
    rcases key i h1 h2 with c | c
    · rw [c]; exact hF
    · exact a6 i hi h1 c
theorem zz_fq5_all {F : Int → Prop} {p s x r : Int} (h : zz_fq5 F p s x r) (hx : x = 32 * p) : zz_fp5 F p s r := by
  rcases h with ⟨a1, a2⟩ | ⟨j, a1, a2, a3, a4, a5, a6⟩
  · exact Or.inl ⟨a1, fun j h1 h2 => a2 j h1 h2 (by omega)⟩
  · exact Or.inr ⟨j, a1, a2, a4, a5, fun i hi h1 => a6 i hi h1 (by omega)⟩
-- the first page of class s with a place, from page x on
def zz_tp5 (S : Nat → Int32) (F : Int → Prop) (pg s x r : Int) : Prop := (r = -1 ∧ ∀ p : Nat, x ≤ (p : Int) → (p : Int) < pg → (S p).toInt = s → zz_fp5 F p s (-1)) ∨ (∃ p : Nat, x ≤ (p : Int) ∧ (p : Int) < pg ∧ (S p).toInt = s ∧ 0 ≤ r ∧ zz_fp5 F p s r ∧ ∀ q : Nat, x ≤ (q : Int) → q < p → (S q).toInt = s → zz_fp5 F q s (-1))
theorem zz_tp5_end {S : Nat → Int32} {F : Int → Prop} {pg s x r : Int} (h : pg ≤ x) (hr : r = -1) : zz_tp5 S F pg s x r := Or.inl ⟨hr, fun p h1 h2 => by omega⟩
theorem zz_tp5_skip {S : Nat → Int32} {F : Int → Prop} {pg s x x' r : Int} {i : Nat} (h : zz_tp5 S F pg s x' r) (hi : (i : Int) = x) (hx : x' = x + 1) (hc : (S i).toInt ≠ s ∨ zz_fp5 F x s (-1)) : zz_tp5 S F pg s x r := by
  have key : ∀ q : Nat, x ≤ (q : Int) → ¬ x' ≤ (q : Int) → (S q).toInt = s → zz_fp5 F q s (-1) := fun q h1 h2 h3 => by
    have e : q = i := by omega
    rcases hc with hc | hc
    · rw [e] at h3; exact absurd h3 hc
    · rw [show (q : Int) = x by omega]; exact hc
  rcases h with ⟨a1, a2⟩ | ⟨p, a1, a2, a3, a4, a5, a6⟩
  · refine Or.inl ⟨a1, fun q h1 h2 h3 => ?_⟩
    by_cases c : x' ≤ (q : Int)
    · exact a2 q c h2 h3
    · exact key q h1 c h3
  · refine Or.inr ⟨p, by omega, a2, a3, a4, a5, fun q h1 h2 h3 => ?_⟩
    by_cases c : x' ≤ (q : Int)
    · exact a6 q c h2 h3
    · exact key q h1 c h3
theorem zz_tp5_hit {S : Nat → Int32} {F : Int → Prop} {pg s x r : Int} {i : Nat} (hi : (i : Int) = x) (hx : x < pg) (hs : (S i).toInt = s) (hf : zz_fp5 F x s r) (hr : 0 ≤ r) : zz_tp5 S F pg s x r := Or.inr ⟨i, by omega, by omega, hs, hr, by rw [hi]; exact hf, fun q h1 h2 => by omega⟩
theorem zz_tp5_uq {S G : Nat → Int32} {F H : Int → Prop} {pg s r q : Int} (h1 : zz_tp5 S F pg s 0 r) (h2 : zz_tp5 G H pg s 0 q) (he : ∀ p : Nat, (p : Int) < pg → ((S p).toInt = s ↔ (G p).toInt = s)) (hF : ∀ p : Nat, (p : Int) < pg → (S p).toInt = s → ∀ j : Nat, j < 32 → (j : Int) % s = 0 → (F (32 * (p : Int) + (j : Int)) ↔ H (32 * (p : Int) + (j : Int)))) : r = q := by
  have tr : ∀ p : Nat, (p : Int) < pg → (S p).toInt = s → ∀ a b : Int, zz_fp5 F p s a → zz_fp5 H p s b → a = b := fun p hp hs a b ha hb => zz_fp5_uq ha hb (by omega) (hF p hp hs)
  rcases h1 with ⟨a1, a2⟩ | ⟨p, a1, a2, a3, a4, a5, a6⟩
  · rcases h2 with ⟨b1, b2⟩ | ⟨p', b1, b2, b3, b4, b5, b6⟩
    · omega
    · have s3 := (he p' b2).mpr b3
      have := tr p' b2 s3 _ _ (a2 p' b1 b2 s3) b5
      omega
  · rcases h2 with ⟨b1, b2⟩ | ⟨p', b1, b2, b3, b4, b5, b6⟩
    · have := tr p a2 a3 _ _ a5 (b2 p a1 a2 ((he p a2).mp a3))
      omega
    · rcases Nat.lt_trichotomy p p' with c | c | c
      · have := tr p a2 a3 _ _ a5 (b6 p a1 c ((he p a2).mp a3))
        omega
      · subst c
        exact tr p a2 a3 _ _ a5 b5
      · have s3 := (he p' b2).mpr b3
        have := tr p' b2 s3 _ _ (a6 p' b1 c s3) b5
        omega
-- the first row of n free pages; k of them stand ahead of page x
def zz_z5 (S : Nat → Int32) (a e : Int) : Prop := ∀ p : Nat, a ≤ (p : Int) → (p : Int) < e → (S p).toInt = 0
/-- ahead of page x no row of n ends, the last k are free and no more -/
def zz_k5 (S : Nat → Int32) (n k x : Int) : Prop := 0 ≤ k ∧ k ≤ x ∧ k < n ∧ zz_z5 S (x - k) x ∧ (k = x ∨ (S (x - k - 1).toNat).toInt ≠ 0) ∧ ∀ q : Int, 0 ≤ q → q + n ≤ x → ¬ zz_z5 S q (q + n)
def zz_fr5 (S : Nat → Int32) (pg n r : Int) : Prop := (r = -1 ∧ ∀ q : Int, 0 ≤ q → q + n ≤ pg → ¬ zz_z5 S q (q + n)) ∨ (0 ≤ r ∧ r + n ≤ pg ∧ zz_z5 S r (r + n) ∧ ∀ q : Int, 0 ≤ q → q < r → ¬ zz_z5 S q (q + n))
theorem zz_k5_0 {S : Nat → Int32} {n k x : Int} (hk : k = 0) (hx : x = 0) (hn : 1 ≤ n) : zz_k5 S n k x := ⟨by omega, by omega, by omega, fun p h1 h2 => by omega, Or.inl (by omega), fun q h1 h2 => by omega⟩
theorem zz_k5_free {S : Nat → Int32} {n k k' x x' : Int} {i : Nat} (h : zz_k5 S n k x) (hi : (i : Int) = x) (hz : (S i).toInt = 0) (hk : k' = k + 1) (hn : k' < n) (hx : x' = x + 1) : zz_k5 S n k' x' := by
  obtain ⟨a1, a2, a3, a4, a5, a6⟩ := h
  refine ⟨by omega, by omega, hn, fun p h1 h2 => ?_, ?_, fun q h1 h2 z => ?_⟩
  · by_cases c : p = i
    · rw [c]; exact hz
    · exact a4 p (by omega) (by omega)
  · rcases a5 with c | c
    · exact Or.inl (by omega)
    · exact Or.inr (by rw [show (x' - k' - 1).toNat = (x - k - 1).toNat by omega]; exact c)
  · by_cases c : q + n ≤ x
    · exact a6 q h1 c z
    · rcases a5 with d | d
      · omega
      · exact d (z (x - k - 1).toNat (by omega) (by omega))
theorem zz_k5_no {S : Nat → Int32} {n k k' x x' : Int} {i : Nat} (h : zz_k5 S n k x) (hi : (i : Int) = x) (hz : (S i).toInt ≠ 0) (hk : k' = 0) (hx : x' = x + 1) (hn : 1 ≤ n) : zz_k5 S n k' x' := by
  obtain ⟨a1, a2, a3, a4, a5, a6⟩ := h
  refine ⟨by omega, by omega, by omega, fun p h1 h2 => by omega, Or.inr (by rw [show (x' - k' - 1).toNat = i by omega]; exact hz), fun q h1 h2 z => ?_⟩
  by_cases c : q + n ≤ x
  · exact a6 q h1 c z
  · exact hz (z i (by omega) (by omega))
theorem zz_fr5_end {S : Nat → Int32} {n k x pg r : Int} (h : zz_k5 S n k x) (hx : pg ≤ x) (hr : r = -1) : zz_fr5 S pg n r := Or.inl ⟨hr, fun q h1 h2 => h.2.2.2.2.2 q h1 (by omega)⟩
theorem zz_fr5_hit {S : Nat → Int32} {n k x pg r : Int} {i : Nat} (h : zz_k5 S n k x) (hi : (i : Int) = x) (hz : (S i).toInt = 0) (hk : k + 1 = n) (hx : x < pg) (hr : r = x - n + 1) : zz_fr5 S pg n r := by
  obtain ⟨a1, a2, a3, a4, a5, a6⟩ := h
  refine Or.inr ⟨by omega, by omega, fun p h1 h2 => ?_, fun q h1 h2 z => ?_⟩
  · by_cases c : p = i
    · rw [c]; exact hz
    · exact a4 p (by omega) (by omega)
  · by_cases c : q + n ≤ x
    · exact a6 q h1 c z
    · rcases a5 with d | d
      · omega
      · exact d (z (x - k - 1).toNat (by omega) (by omega))
theorem zz_fr5_uq {S G : Nat → Int32} {pg n r q : Int} (h1 : zz_fr5 S pg n r) (h2 : zz_fr5 G pg n q) (he : ∀ p : Nat, (p : Int) < pg → ((S p).toInt = 0 ↔ (G p).toInt = 0)) : r = q := by
  have tr : ∀ a : Int, 0 ≤ a → a + n ≤ pg → (zz_z5 S a (a + n) ↔ zz_z5 G a (a + n)) := fun a ha hn => ⟨fun z p h1 h2 => (he p (by omega)).mp (z p h1 h2), fun z p h1 h2 => (he p (by omega)).mpr (z p h1 h2)⟩
  rcases h1 with ⟨a1, a2⟩ | ⟨a1, a2, a3, a4⟩
  · rcases h2 with ⟨b1, b2⟩ | ⟨b1, b2, b3, b4⟩
    · omega
    · exact absurd ((tr q b1 b2).mpr b3) (a2 q b1 b2)
  · rcases h2 with ⟨b1, b2⟩ | ⟨b1, b2, b3, b4⟩
    · exact absurd ((tr r a1 a2).mp a3) (b2 r a1 a2)
    · rcases Int.lt_trichotomy r q with c | c | c
      · exact absurd ((tr r a1 a2).mp a3) (b4 r a1 c)
      · exact c
      · exact absurd ((tr q b1 b2).mpr b3) (a4 q b1 c)
-- how many places of page p are taken
noncomputable def zz_c5 (o : Nat → Int32) (p : Nat) (s : Int) : Nat := zz_cn (fun j => (j : Int) % s = 0 ∧ (o (32 * p + j)).toInt ≠ -1) 32
theorem zz_c5_cg {o o' : Nat → Int32} {p : Nat} {s : Int} (h : ∀ j : Nat, j < 32 → (j : Int) % s = 0 → ((o' (32 * p + j)).toInt = -1 ↔ (o (32 * p + j)).toInt = -1)) : zz_c5 o' p s = zz_c5 o p s := by
  have h1 := zz_cn_mono (P := fun j => (j : Int) % s = 0 ∧ (o' (32 * p + j)).toInt ≠ -1) (Q := fun j => (j : Int) % s = 0 ∧ (o (32 * p + j)).toInt ≠ -1) 32 (fun b hb z => ⟨z.1, fun e => z.2 ((h b hb z.1).mpr e)⟩)
  have h2 := zz_cn_mono (P := fun j => (j : Int) % s = 0 ∧ (o (32 * p + j)).toInt ≠ -1) (Q := fun j => (j : Int) % s = 0 ∧ (o' (32 * p + j)).toInt ≠ -1) 32 (fun b hb z => ⟨z.1, fun e => z.2 ((h b hb z.1).mp e)⟩)
  unfold zz_c5
  omega
theorem zz_c5_more {o o' : Nat → Int32} {p j0 : Nat} {s : Int} (hj : j0 < 32) (hm : (j0 : Int) % s = 0) (h0 : (o (32 * p + j0)).toInt = -1) (h1 : (o' (32 * p + j0)).toInt ≠ -1) (h : ∀ j : Nat, j < 32 → j ≠ j0 → (j : Int) % s = 0 → ((o' (32 * p + j)).toInt = -1 ↔ (o (32 * p + j)).toInt = -1)) : zz_c5 o' p s = zz_c5 o p s + 1 := by
  have a := zz_cn_add (P := fun j => (j : Int) % s = 0 ∧ (o' (32 * p + j)).toInt ≠ -1) (Q := fun j => (j : Int) % s = 0 ∧ (o (32 * p + j)).toInt ≠ -1) (b0 := j0) 32 (fun b hb z => by
    by_cases c : b = j0
    · exact Or.inr c
    · exact Or.inl ⟨z.1, fun e => z.2 ((h b hb c z.1).mpr e)⟩)
  have b := zz_cn_sub (P := fun j => (j : Int) % s = 0 ∧ (o (32 * p + j)).toInt ≠ -1) (Q := fun j => (j : Int) % s = 0 ∧ (o' (32 * p + j)).toInt ≠ -1) (b0 := j0) ⟨hm, h1⟩ 32 (fun b hb z => by
    have c : b ≠ j0 := fun e => by rw [e] at z; exact z.2 h0
    exact ⟨⟨z.1, fun e => z.2 ((h b hb c z.1).mp e)⟩, c⟩)
  rw [if_pos hj] at a b
  unfold zz_c5
  omega
theorem zz_c5_0 {o : Nat → Int32} {p : Nat} {s : Int} : zz_c5 o p s = 0 ↔ ∀ j : Nat, j < 32 → (j : Int) % s = 0 → (o (32 * p + j)).toInt = -1 := by
  constructor
  · intro h j hj hm
    refine Classical.byContradiction fun c => ?_
    have b := zz_cn_sub (P := fun _ => False) (Q := fun j => (j : Int) % s = 0 ∧ (o (32 * p + j)).toInt ≠ -1) (b0 := j) ⟨hm, c⟩ 32 (fun b hb z => z.elim)
    rw [if_pos hj] at b
    unfold zz_c5 at h
    omega
  · intro h
    have a := zz_cn_mono (P := fun j => (j : Int) % s = 0 ∧ (o (32 * p + j)).toInt ≠ -1) (Q := fun _ => False) 32 (fun b hb z => z.2 (h b hb z.1))
    have e : ∀ n, zz_cn (fun _ => False) n = 0 := fun n => by
      induction n with
      | zero => rfl
      | succ n ih => rw [zz_cn_n (fun z => z)]; exact ih
    rw [e] at a
    unfold zz_c5
    omega
/-- a page of class s is free or taken by places -/
def zz_sl5 (o : Nat → Int32) (p : Nat) (s : Int) : Prop := ∀ j : Nat, j < 32 → ((o (32 * p + j)).toInt = -1 ↔ (o (32 * p + (j - j % s.toNat))).toInt = -1)
/-- form 5: spans S and blocks K of the class, pages G of the reference -/
def zz_F5 (w pg : Int) (S K G o nu pl sp : Nat → Int32) : Prop := pg = w / 32 ∧ (∀ p : Nat, (p : Int) < pg → ((S p).toInt = 0 ∧ (G p).toInt = 0 ∧ ∀ j : Nat, j < 32 → (o (32 * p + j)).toInt = -1) ∨ (zz_p2 (S p).toInt ∧ (S p).toInt ≤ 32 ∧ (G p).toInt = (S p).toInt ∧ (K p).toInt = (zz_c5 o p (S p).toInt : Int) ∧ zz_sl5 o p (S p).toInt) ∨ (32 < (S p).toInt ∧ (G p).toInt = 64 ∧ (K p).toInt = 1)) ∧ ∀ b : Nat, b < 200 → zz_us w o nu pl b → (zz_p2 (sp b).toInt ∧ (sp b).toInt ≤ 32 ∧ (pl b).toInt % (sp b).toInt = 0 ∧ (pl b).toInt / 32 < pg ∧ (S ((pl b).toInt / 32).toNat).toInt = (sp b).toInt) ∨ (32 < (sp b).toInt ∧ (pl b).toInt % 32 = 0 ∧ (sp b).toInt % 32 = 0 ∧ ((pl b).toInt + (sp b).toInt) / 32 ≤ pg ∧ ∀ p : Nat, (pl b).toInt / 32 ≤ (p : Int) → (p : Int) < ((pl b).toInt + (sp b).toInt) / 32 → (S p).toInt = (sp b).toInt)
theorem zz_F5_p {w pg : Int} {S K G o nu pl sp : Nat → Int32} {p : Nat} {s : Int} (h : zz_F5 w pg S K G o nu pl sp) (hp : (p : Int) < pg) (hs : 1 ≤ s) (hs2 : s ≤ 32) : ((S p).toInt = s ↔ (G p).toInt = s) ∧ ((S p).toInt = 0 ↔ (G p).toInt = 0) := by
  rcases h.2.1 p hp with ⟨a1, a2, _⟩ | ⟨a1, a2, a3, _⟩ | ⟨a1, a2, _⟩
  · omega
  · have := zz_p2_pos a1
    omega
  · omega
theorem zz_mod32 {s j : Nat} (hs : zz_p2 (s : Int)) (h32 : s ≤ 32) (hj : j < 32) : j - j % s + s ≤ 32 ∧ (j - j % s) % s = 0 ∧ ∀ i, i < s → (j - j % s + i) % s = i := by
  have : s = 1 ∨ s = 2 ∨ s = 4 ∨ s = 8 ∨ s = 16 ∨ s = 32 := by unfold zz_p2 at hs; omega
  rcases this with c | c | c | c | c | c <;> subst c <;> refine ⟨by omega, by omega, fun i hi => by omega⟩
/-- a place of page p is free in the class's eyes (its first word) if and only if it is in the reference's (all its words) -/
theorem zz_F5_fr {w pg : Int} {S K G c o nu pl sp : Nat → Int32} {p j : Nat} {s : Int} (h : zz_F5 w pg S K G o nu pl sp) (he : zz_fe2 w c o) (hp : (p : Int) < pg) (hs : (S p).toInt = s) (hs1 : 1 ≤ s) (hs2 : s ≤ 32) (hj : j < 32) (hm : (j : Int) % s = 0) : (c (32 * (p : Int) + (j : Int)).toNat).toInt = -1 ↔ zz_bk o (32 * (p : Int) + (j : Int)) (32 * (p : Int) + (j : Int) + s) := by
  have pgw := h.1
  rw [show (32 * (p : Int) + (j : Int)).toNat = 32 * p + j by omega]
  rcases h.2.1 p hp with ⟨a1, a2, _⟩ | ⟨a1, a2, a3, a4, a5⟩ | ⟨a1, a2, _⟩
  · omega
  · rw [hs] at a1 a5
    have m := zz_mod32 (s := s.toNat) (by rw [show ((s.toNat : Nat) : Int) = s by omega]; exact a1) (by omega) hj
    have jm : j % s.toNat = 0 := by
      have : ((j % s.toNat : Nat) : Int) = (j : Int) % s := by rw [Int.natCast_emod, show ((s.toNat : Nat) : Int) = s by omega]
      omega
    rw [jm, Nat.sub_zero] at m
    constructor
    · intro z x h1 h2
      have z2 := (he (32 * p + j) (by omega)).mp z
      have k := a5 (x - 32 * p) (by omega)
      have e1 := m.2.2 (x - 32 * p - j) (by omega)
      rw [show j + (x - 32 * p - j) = x - 32 * p by omega] at e1
      rw [e1, show 32 * p + (x - 32 * p) = x by omega, show 32 * p + (x - 32 * p - (x - 32 * p - j)) = 32 * p + j by omega] at k
      exact k.mpr z2
    · intro z
      exact (he (32 * p + j) (by omega)).mpr (z (32 * p + j) (by omega) (by omega))
  · omega
/-! form 5: what a give and a back leave -/
theorem zz_p32 {s : Int} (hs : zz_p2 s) (h : s ≤ 32) : s = 1 ∨ s = 2 ∨ s = 4 ∨ s = 8 ∨ s = 16 ∨ s = 32 := by unfold zz_p2 at hs; omega
/-- words of page p outside of a place j, s keep their owners: its count and its places -/
theorem zz_pg5 {o o' : Nat → Int32} {p j : Nat} {s x : Int} {v : Int32} (hs : zz_p2 s) (hs2 : s ≤ 32) (hj : j < 32) (hm : (j : Int) % s = 0) (hx : x = 32 * (p : Int) + (j : Int)) (hw : zz_wr o o' x (x + s) v) (hl : zz_sl5 o p s) : zz_sl5 o' p s ∧ ((∀ i : Nat, i < 32 → i ≠ j → (i : Int) % s = 0 → ((o' (32 * p + i)).toInt = -1 ↔ (o (32 * p + i)).toInt = -1))) := by
  have e : ∀ i : Nat, o' (32 * p + i) = if (j : Int) ≤ (i : Int) ∧ (i : Int) < (j : Int) + s then v else o (32 * p + i) := fun i => by
    rw [hw (32 * p + i)]
    by_cases c : (j : Int) ≤ (i : Int) ∧ (i : Int) < (j : Int) + s
    · rw [if_pos c, if_pos (by omega)]
    · rw [if_neg c, if_neg (by omega)]
  constructor
  · intro i hi
    rw [e i, e (i - i % s.toNat)]
    by_cases c : (j : Int) ≤ (i : Int) ∧ (i : Int) < (j : Int) + s
    · rw [if_pos c, if_pos (by rcases zz_p32 hs hs2 with d | d | d | d | d | d <;> subst d <;> simp at hm ⊢ <;> omega)]
    · rw [if_neg c, if_neg (by rcases zz_p32 hs hs2 with d | d | d | d | d | d <;> subst d <;> simp at hm ⊢ <;> omega)]
      exact hl i hi
  · intro i hi hne him
    rw [e i, if_neg (by rcases zz_p32 hs hs2 with d | d | d | d | d | d <;> subst d <;> omega)]
/-- a page that a change doesn't touch -/
theorem zz_pg5n {o o' : Nat → Int32} {p : Nat} {a z : Int} {v : Int32} {s : Int} (hw : zz_wr o o' a z v) (hn : z ≤ 32 * (p : Int) ∨ 32 * (p : Int) + 32 ≤ a) : (∀ i : Nat, i < 32 → o' (32 * p + i) = o (32 * p + i)) ∧ zz_c5 o' p s = zz_c5 o p s := by
  have e : ∀ i : Nat, i < 32 → o' (32 * p + i) = o (32 * p + i) := fun i hi => by rw [hw (32 * p + i), if_neg (by omega)]
  exact ⟨e, zz_c5_cg (fun i hi _ => by rw [e i hi])⟩
theorem zz_sl5n {o o' : Nat → Int32} {p : Nat} {s : Int} (h : zz_sl5 o p s) (he : ∀ i : Nat, i < 32 → o' (32 * p + i) = o (32 * p + i)) : zz_sl5 o' p s := fun i hi => by
  have : i - i % s.toNat < 32 := by omega
  rw [he i hi, he _ this]
  exact h i hi
/-- in a page of the class -/
theorem zz_F5_in {w pg : Int} {S K K' G o nu pl sp as o' nu' pl' sp' as' : Nat → Int32} {Gn x s a : Int32} {p j : Nat} (h : zz_F5 w pg S K G o nu pl sp) (hg : zz_gv w o nu pl sp as o' nu' pl' sp' as' Gn x s a) (hp : (p : Int) < pg) (hS : (S p).toInt = s.toInt) (hs2 : s.toInt ≤ 32) (hs1 : 1 ≤ s.toInt) (hj : j < 32) (hm : (j : Int) % s.toInt = 0) (hx : x.toInt = 32 * (p : Int) + (j : Int)) (hf : (o x.toNatClampNeg).toInt = -1) (hK1 : (K' p).toInt = (K p).toInt + 1) (hK2 : ∀ q : Nat, q ≠ p → K' q = K q) : zz_F5 w pg S K' G o' nu' pl' sp' := by
  have us := zz_us_gv hg hs1 (by omega)
  obtain ⟨b, b0, b1, bu, e1, e2, e3, e4, hwr⟩ := hg
  have ex := zz_tnI x (by omega)
  rcases h.2.1 p hp with ⟨a1, _⟩ | ⟨a1, a2, a3, a4, a5⟩ | ⟨a1, _⟩
  · omega
  · rw [hS] at a1 a2 a3 a4 a5
    obtain ⟨k1, k2⟩ := zz_pg5 a1 hs2 hj hm hx hwr a5
    have ef : x.toNatClampNeg = 32 * p + j := by omega
    rw [ef] at hf
    have cm := zz_c5_more (o := o) (o' := o') (p := p) (j0 := j) hj hm hf (by rw [hwr (32 * p + j), if_pos (by omega)]; omega) k2
    refine ⟨h.1, fun q hq => ?_, fun i hi hu => ?_⟩
    · by_cases c : q = p
      · subst c
        refine Or.inr (Or.inl ⟨by rw [hS]; exact a1, by rw [hS]; exact hs2, by rw [hS]; exact a3, ?_, by rw [hS]; exact k1⟩)
        rw [hK1, hS, cm]
        omega
      · have s1 : s.toInt ≤ 32 := hs2
        have js : (j : Int) + s.toInt ≤ 32 := by rcases zz_p32 a1 hs2 with d | d | d | d | d | d <;> rw [d] at hm ⊢ <;> omega
        obtain ⟨n1, n2⟩ := zz_pg5n (p := q) (s := (S q).toInt) hwr (by omega)
        rcases h.2.1 q hq with ⟨d1, d2, d3⟩ | ⟨d1, d2, d3, d4, d5⟩ | ⟨d1, d2, d3⟩
        · exact Or.inl ⟨d1, d2, fun i hi => by rw [n1 i hi]; exact d3 i hi⟩
        · exact Or.inr (Or.inl ⟨d1, d2, d3, by rw [hK2 q c, n2]; exact d4, zz_sl5n d5 n1⟩)
        · exact Or.inr (Or.inr ⟨d1, d2, by rw [hK2 q c]; exact d3⟩)
    · rcases us i hi hu with ⟨c1, c2⟩ | ⟨c1, c2, c3⟩
      · left
        rw [c1, c2]
        refine ⟨a1, hs2, ?_, by omega, by rw [show (x.toInt / 32).toNat = p by omega]; exact hS⟩
        rcases zz_p32 a1 hs2 with d | d | d | d | d | d <;> rw [d] at hm ⊢ <;> omega
      · rw [c2, c3]; exact h.2.2 i hi c1
  · omega
/-- in a new page -/
theorem zz_F5_new {w pg : Int} {S K G S' K' G' o nu pl sp as o' nu' pl' sp' as' : Nat → Int32} {Gn x s a : Int32} {p : Nat} (h : zz_F5 w pg S K G o nu pl sp) (hO : zz_OW w o nu pl sp) (hg : zz_gv w o nu pl sp as o' nu' pl' sp' as' Gn x s a) (hp : (p : Int) < pg) (hS : (S p).toInt = 0) (hs : zz_p2 s.toInt) (hs2 : s.toInt ≤ 32) (hx : x.toInt = 32 * (p : Int)) (hS1 : (S' p).toInt = s.toInt) (hS2 : ∀ q : Nat, q ≠ p → S' q = S q) (hK1 : (K' p).toInt = 1) (hK2 : ∀ q : Nat, q ≠ p → K' q = K q) (hG1 : (G' p).toInt = s.toInt) (hG2 : ∀ q : Nat, q ≠ p → G' q = G q) : zz_F5 w pg S' K' G' o' nu' pl' sp' := by
  have s1 := zz_p2_pos hs
  have us := zz_us_gv hg s1.1 (by omega)
  obtain ⟨b, b0, b1, bu, e1, e2, e3, e4, hwr⟩ := hg
  rcases h.2.1 p hp with ⟨a1, a2, a3⟩ | ⟨a1, _⟩ | ⟨a1, _⟩
  · have sl : zz_sl5 o p s.toInt := fun i hi => by
      have : i - i % s.toInt.toNat < 32 := by omega
      rw [a3 i hi, a3 _ this]
    obtain ⟨k1, k2⟩ := zz_pg5 (j := 0) hs hs2 (by omega) (by simp) (by omega) hwr sl
    have z0 : zz_c5 o p s.toInt = 0 := zz_c5_0.mpr (fun j hj _ => a3 j hj)
    have cm := zz_c5_more (o := o) (o' := o') (p := p) (j0 := 0) (s := s.toInt) (by omega) (by simp) (a3 0 (by omega)) (by rw [hwr (32 * p + 0), if_pos (by omega)]; omega) k2
    refine ⟨h.1, fun q hq => ?_, fun i hi hu => ?_⟩
    · by_cases c : q = p
      · subst c
        exact Or.inr (Or.inl ⟨by rw [hS1]; exact hs, by rw [hS1]; exact hs2, by rw [hG1, hS1], by rw [hK1, hS1, cm, z0]; rfl, by rw [hS1]; exact k1⟩)
      · obtain ⟨n1, n2⟩ := zz_pg5n (p := q) (s := (S q).toInt) hwr (by omega)
        rw [hS2 q c, hG2 q c, hK2 q c]
        rcases h.2.1 q hq with ⟨d1, d2, d3⟩ | ⟨d1, d2, d3, d4, d5⟩ | ⟨d1, d2, d3⟩
        · exact Or.inl ⟨d1, d2, fun i hi => by rw [n1 i hi]; exact d3 i hi⟩
        · exact Or.inr (Or.inl ⟨d1, d2, d3, by rw [n2]; exact d4, zz_sl5n d5 n1⟩)
        · exact Or.inr (Or.inr ⟨d1, d2, d3⟩)
    · rcases us i hi hu with ⟨c1, c2⟩ | ⟨c1, c2, c3⟩
      · left
        rw [c1, c2]
        refine ⟨hs, hs2, ?_, by omega, by rw [show (x.toInt / 32).toNat = p by omega]; exact hS1⟩
        rcases zz_p32 hs hs2 with d | d | d | d | d | d <;> rw [d] <;> omega
      · rw [c2, c3]
        have rg := hO.2 i hi c1
        rcases h.2.2 i hi c1 with ⟨d1, d2, d3, d4, d5⟩ | ⟨d1, d2, d3, d4, d5⟩
        · have := zz_p2_pos d1
          refine Or.inl ⟨d1, d2, d3, d4, ?_⟩
          rw [hS2 _ (fun e => by rw [e] at d5; omega)]
          exact d5
        · refine Or.inr ⟨d1, d2, d3, d4, fun q q1 q2 => ?_⟩
          have := d5 q q1 q2
          rw [hS2 q (fun e => by rw [e] at this; omega)]
          exact this
  · have := zz_p2_pos a1
    omega
  · omega
/-- a row of pages -/
theorem zz_F5_row {w pg : Int} {S K G S' K' G' o nu pl sp as o' nu' pl' sp' as' : Nat → Int32} {Gn x s a vS vK vG : Int32} {q n : Int} (h : zz_F5 w pg S K G o nu pl sp) (hO : zz_OW w o nu pl sp) (hg : zz_gv w o nu pl sp as o' nu' pl' sp' as' Gn x s a) (hq : 0 ≤ q) (hn : q + n ≤ pg) (hz : zz_z5 S q (q + n)) (hs : 32 < s.toInt) (hsn : s.toInt = 32 * n) (hx : x.toInt = 32 * q) (hS : zz_wr S S' q (q + n) vS) (hvS : vS.toInt = s.toInt) (hK : zz_wr K K' q (q + n) vK) (hvK : vK.toInt = 1) (hG : zz_wr G G' q (q + n) vG) (hvG : vG.toInt = 64) : zz_F5 w pg S' K' G' o' nu' pl' sp' := by
  have us := zz_us_gv hg (by omega) (by omega)
  obtain ⟨b, b0, b1, bu, e1, e2, e3, e4, hwr⟩ := hg
  refine ⟨h.1, fun p hp => ?_, fun i hi hu => ?_⟩
  · rw [hS p, hK p, hG p]
    by_cases c : q ≤ (p : Int) ∧ (p : Int) < q + n
    · rw [if_pos c, if_pos c, if_pos c]
      exact Or.inr (Or.inr ⟨by omega, hvG, hvK⟩)
    · rw [if_neg c, if_neg c, if_neg c]
      obtain ⟨n1, n2⟩ := zz_pg5n (p := p) (s := (S p).toInt) hwr (by omega)
      rcases h.2.1 p hp with ⟨d1, d2, d3⟩ | ⟨d1, d2, d3, d4, d5⟩ | ⟨d1, d2, d3⟩
      · exact Or.inl ⟨d1, d2, fun i hi => by rw [n1 i hi]; exact d3 i hi⟩
      · exact Or.inr (Or.inl ⟨d1, d2, d3, by rw [n2]; exact d4, zz_sl5n d5 n1⟩)
      · exact Or.inr (Or.inr ⟨d1, d2, d3⟩)
  · have key : ∀ p : Nat, (S p).toInt ≠ 0 → S' p = S p := fun p h0 => by
      rw [hS p]
      by_cases c : q ≤ (p : Int) ∧ (p : Int) < q + n
      · exact absurd (hz p c.1 c.2) h0
      · rw [if_neg c]
    rcases us i hi hu with ⟨c1, c2⟩ | ⟨c1, c2, c3⟩
    · right
      rw [c1, c2]
      refine ⟨hs, by omega, by omega, by omega, fun p h1 h2 => ?_⟩
      rw [hS p, if_pos (by omega)]
      exact hvS
    · rw [c2, c3]
      rcases h.2.2 i hi c1 with ⟨d1, d2, d3, d4, d5⟩ | ⟨d1, d2, d3, d4, d5⟩
      · have := zz_p2_pos d1
        exact Or.inl ⟨d1, d2, d3, d4, by rw [key _ (by omega)]; exact d5⟩
      · exact Or.inr ⟨d1, d2, d3, d4, fun p h1 h2 => by have := d5 p h1 h2; rw [key p (by omega)]; exact this⟩
/-- a small block goes; e: its page becomes free -/
theorem zz_F5_bk1 {w pg : Int} {S K G S' K' G' o nu pl sp o' : Nat → Int32} {b p : Nat} {q : Int32} (h : zz_F5 w pg S K G o nu pl sp) (hO : zz_OW w o nu pl sp) (hb : b < 200) (ub : zz_us w o nu pl b) (hwr : zz_wr o o' (pl b).toInt ((pl b).toInt + (sp b).toInt) q) (hq : q.toInt = -1) (hs : (sp b).toInt ≤ 32) (hp : (p : Int) = (pl b).toInt / 32) (hc : ((K p).toInt - 1 ≤ 0 ∧ (S' p).toInt = 0) ∨ (0 < (K p).toInt - 1 ∧ S' p = S p ∧ (K' p).toInt = (K p).toInt - 1)) (hS2 : ∀ i : Nat, i ≠ p → S' i = S i) (hK2 : ∀ i : Nat, i ≠ p → K' i = K i) (hr : (zz_bk o' (32 * (p : Int)) (32 * (p : Int) + 32) ∧ (G' p).toInt = 0) ∨ (¬ zz_bk o' (32 * (p : Int)) (32 * (p : Int) + 32) ∧ G' p = G p)) (hG2 : ∀ i : Nat, i ≠ p → G' i = G i) : zz_F5 w pg S' K' G' o' (upd nu b 0) pl sp := by
  obtain ⟨p1, p2, p3, p4⟩ := hO.2 b hb ub
  have us := zz_us_bk hO hb ub hwr (by omega)
  rcases h.2.2 b hb ub with ⟨b1, b2, b3, b4, b5⟩ | ⟨b1, _⟩
  · rw [← hp, show ((p : Int)).toNat = p by omega] at b5
    rcases h.2.1 p (by omega) with ⟨a1, _⟩ | ⟨a1, a2, a3, a4, a5⟩ | ⟨a1, _⟩
    · have := zz_p2_pos b1
      omega
    · rw [b5] at a1 a2 a3 a4 a5
      have sp1 := zz_p2_pos a1
      have jm : ((((pl b).toInt - 32 * (p : Int)).toNat : Nat) : Int) % (sp b).toInt = 0 := by
        rw [show ((((pl b).toInt - 32 * (p : Int)).toNat : Nat) : Int) = (pl b).toInt - 32 * (p : Int) by omega]
        rcases zz_p32 b1 b2 with d | d | d | d | d | d <;> rw [d] at b3 ⊢ <;> omega
      obtain ⟨k1, k2⟩ := zz_pg5 (j := ((pl b).toInt - 32 * (p : Int)).toNat) b1 b2 (by omega) jm (by omega) hwr a5
      have cm := zz_c5_more (o := o') (o' := o) (p := p) (j0 := ((pl b).toInt - 32 * (p : Int)).toNat) (s := (sp b).toInt) (by omega) jm (by rw [hwr _, if_pos (by omega)]; exact hq) (by rw [p4 _ (by omega) (by omega)]; omega) (fun i h1 h2 h3 => (k2 i h1 h2 h3).symm)
      have full : (zz_c5 o' p (sp b).toInt = 0) ↔ zz_bk o' (32 * (p : Int)) (32 * (p : Int) + 32) := by
        rw [zz_c5_0]
        constructor
        · intro z x h1 h2
          have e := k1 (x - 32 * p) (by omega)
          rw [show 32 * p + (x - 32 * p) = x by omega] at e
          refine e.mpr (z _ (by omega) ?_)
          rcases zz_p32 b1 b2 with d | d | d | d | d | d <;> rw [d] <;> simp <;> omega
        · intro z j hj _
          exact z (32 * p + j) (by omega) (by omega)
      have oth : ∀ i : Nat, (i : Int) < pg → i ≠ p → (∀ j : Nat, j < 32 → o' (32 * i + j) = o (32 * i + j)) ∧ zz_c5 o' i (S i).toInt = zz_c5 o i (S i).toInt := fun i hi hne => zz_pg5n hwr (by
        have : (pl b).toInt - 32 * (p : Int) + (sp b).toInt ≤ 32 := by rcases zz_p32 b1 b2 with d | d | d | d | d | d <;> rw [d] at b3 ⊢ <;> omega
        omega)
      have keep : ∀ j : Nat, j < 200 → zz_us w o' (upd nu b 0) pl j → (S' ((pl j).toInt / 32).toNat = S ((pl j).toInt / 32).toNat) ∧ (32 < (sp j).toInt → ∀ i : Nat, (pl j).toInt / 32 ≤ (i : Int) → (i : Int) < ((pl j).toInt + (sp j).toInt) / 32 → S' i = S i) := fun j hj hu => by
        obtain ⟨jb, uj⟩ := us j hu
        obtain ⟨q1, q2, q3, q4⟩ := hO.2 j hj uj
        constructor
        · by_cases c : ((pl j).toInt / 32).toNat = p
          · rw [c]
            rcases hc with ⟨c1, c2⟩ | ⟨c1, c2, _⟩
            · exfalso
              have z : zz_c5 o' p (sp b).toInt = 0 := by omega
              have bk := full.mp z
              have e1 := hu.2.2
              rw [bk _ (by rw [zz_tn]; omega) (by rw [zz_tn]; omega)] at e1
              omega
            · exact c2
          · exact hS2 _ c
        · intro big i h1 h2
          rcases h.2.2 j hj uj with ⟨_, d2, _⟩ | ⟨d1, d2, d3, d4, d5⟩
          · omega
          · have := d5 i h1 h2
            exact hS2 i (fun e => by rw [e] at this; omega)
      refine ⟨h.1, fun i hi => ?_, fun j hj hu => ?_⟩
      · by_cases c : i = p
        · subst c
          rcases hc with ⟨c1, c2⟩ | ⟨c1, c2, c3⟩
          · have bk := full.mp (by omega)
            rcases hr with ⟨r1, r2⟩ | ⟨r1, r2⟩
            · exact Or.inl ⟨c2, r2, fun j hj => r1 (32 * i + j) (by omega) (by omega)⟩
            · exact absurd bk r1
          · rcases hr with ⟨r1, r2⟩ | ⟨r1, r2⟩
            · have := full.mpr r1
              omega
            · rw [c2, r2]
              exact Or.inr (Or.inl ⟨by rw [b5]; exact a1, by rw [b5]; exact a2, by rw [b5]; exact a3, by rw [c3, b5]; omega, by rw [b5]; exact k1⟩)
        · obtain ⟨n1, n2⟩ := oth i hi c
          rw [hS2 i c, hG2 i c, hK2 i c]
          rcases h.2.1 i hi with ⟨d1, d2, d3⟩ | ⟨d1, d2, d3, d4, d5⟩ | ⟨d1, d2, d3⟩
          · exact Or.inl ⟨d1, d2, fun j hj => by rw [n1 j hj]; exact d3 j hj⟩
          · exact Or.inr (Or.inl ⟨d1, d2, d3, by rw [n2]; exact d4, zz_sl5n d5 n1⟩)
          · exact Or.inr (Or.inr ⟨d1, d2, d3⟩)
      · obtain ⟨_, uj⟩ := us j hu
        obtain ⟨s1, s2⟩ := keep j hj hu
        rcases h.2.2 j hj uj with ⟨d1, d2, d3, d4, d5⟩ | ⟨d1, d2, d3, d4, d5⟩
        · exact Or.inl ⟨d1, d2, d3, d4, by rw [s1]; exact d5⟩
        · exact Or.inr ⟨d1, d2, d3, d4, fun i h1 h2 => by rw [s2 d1 i h1 h2]; exact d5 i h1 h2⟩
    · omega
  · omega
/-- a block of whole pages goes -/
theorem zz_F5_bk2 {w pg : Int} {S K G S' K' G' o nu pl sp o' : Nat → Int32} {b : Nat} {q vS vG : Int32} (h : zz_F5 w pg S K G o nu pl sp) (hO : zz_OW w o nu pl sp) (hb : b < 200) (ub : zz_us w o nu pl b) (hwr : zz_wr o o' (pl b).toInt ((pl b).toInt + (sp b).toInt) q) (hq : q.toInt = -1) (hs : 32 < (sp b).toInt) (hS : zz_wr S S' ((pl b).toInt / 32) (((pl b).toInt + (sp b).toInt) / 32) vS) (hvS : vS.toInt = 0) (hK2 : ∀ i : Nat, ¬ ((pl b).toInt / 32 ≤ (i : Int) ∧ (i : Int) < ((pl b).toInt + (sp b).toInt) / 32) → K' i = K i) (hG : zz_wr G G' ((pl b).toInt / 32) (((pl b).toInt + (sp b).toInt) / 32) vG) (hvG : vG.toInt = 0) : zz_F5 w pg S' K' G' o' (upd nu b 0) pl sp := by
  obtain ⟨p1, p2, p3, p4⟩ := hO.2 b hb ub
  have us := zz_us_bk hO hb ub hwr (by omega)
  rcases h.2.2 b hb ub with ⟨_, b2, _⟩ | ⟨b1, b2, b3, b4, b5⟩
  · omega
  · refine ⟨h.1, fun i hi => ?_, fun j hj hu => ?_⟩
    · rw [hS i, hG i]
      by_cases c : (pl b).toInt / 32 ≤ (i : Int) ∧ (i : Int) < ((pl b).toInt + (sp b).toInt) / 32
      · rw [if_pos c, if_pos c]
        exact Or.inl ⟨hvS, hvG, fun j hj => by rw [hwr (32 * i + j), if_pos (by omega)]; exact hq⟩
      · rw [if_neg c, if_neg c, hK2 i c]
        obtain ⟨n1, n2⟩ := zz_pg5n (p := i) (s := (S i).toInt) hwr (by omega)
        rcases h.2.1 i hi with ⟨d1, d2, d3⟩ | ⟨d1, d2, d3, d4, d5⟩ | ⟨d1, d2, d3⟩
        · exact Or.inl ⟨d1, d2, fun j hj => by rw [n1 j hj]; exact d3 j hj⟩
        · exact Or.inr (Or.inl ⟨d1, d2, d3, by rw [n2]; exact d4, zz_sl5n d5 n1⟩)
        · exact Or.inr (Or.inr ⟨d1, d2, d3⟩)
    · obtain ⟨jb, uj⟩ := us j hu
      obtain ⟨q1, q2, q3, q4⟩ := hO.2 j hj uj
      -- a page of the block that goes has no word of another block
      have apart : ∀ y : Nat, (pl j).toInt ≤ (y : Int) → (y : Int) < (pl j).toInt + (sp j).toInt → ¬ ((pl b).toInt ≤ (y : Int) ∧ (y : Int) < (pl b).toInt + (sp b).toInt) := fun y h1 h2 z => by
        have e1 := q4 y h1 h2
        have e2 := p4 y z.1 z.2
        omega
      rcases h.2.2 j hj uj with ⟨d1, d2, d3, d4, d5⟩ | ⟨d1, d2, d3, d4, d5⟩
      · refine Or.inl ⟨d1, d2, d3, d4, ?_⟩
        have := apart (pl j).toInt.toNat (by omega) (by omega)
        rw [hS _, if_neg (by omega)]
        exact d5
      · refine Or.inr ⟨d1, d2, d3, d4, fun i h1 h2 => ?_⟩
        have := apart (32 * i) (by omega) (by omega)
        rw [hS i, if_neg (by omega)]
        exact d5 i h1 h2
/-! words of the class's takes, all forms -/
theorem zz_vs_or {w : Int} {pc wc : Nat → Int32} {n : Int} (h : zz_vs w pc wc n) (x : Int32) : x.toInt < 0 ∨ n ≤ x.toInt ∨ (0 ≤ (pc x.toNatClampNeg).toInt ∧ 1 ≤ (wc x.toNatClampNeg).toInt ∧ (pc x.toNatClampNeg).toInt + (wc x.toNatClampNeg).toInt ≤ w) := by
  by_cases a : x.toInt < 0
  · exact Or.inl a
  · by_cases b : n ≤ x.toInt
    · exact Or.inr (Or.inl b)
    · exact Or.inr (Or.inr (zz_vs_at h x (by omega) (by omega)))
theorem zz_ru_vs {n m sz : Int} {h pl wd : Nat → Int32} (hu : zz_ru n h pl wd sz) (hn : 0 ≤ n) (hm : n ≤ m) : zz_vs m pl wd sz := fun i hi => by
  obtain ⟨b1, b2, b3⟩ := hu.1 i hi
  have e1 := b3.1
  have e2 := b3.2.1
  omega
theorem zz_q_use {f n sz e a r : Int} {h pl wd : Nat → Int32} (hq : zz_q f pl wd sz e a r) (hu : zz_ru n h pl wd sz) (hn : 0 ≤ n) : zz_pl f n h e a r := hq n h hn hu
theorem zz_q_ff {n sz e a r f : Int} {h pl wd : Nat → Int32} (hq : zz_q f pl wd sz e a r) (hu : zz_ru n h pl wd sz) (hn : 0 ≤ n) (hf : f = 0) : zz_ff n h a 0 n r := by
  rcases hq n h hn hu with ⟨_, g⟩ | ⟨a1, _⟩ | ⟨a1, _⟩ | ⟨a1, _⟩
  · exact g
  · omega
  · omega
  · omega
-- form 6
def zz_g6 (c : Nat → Int32) (g s r : Int) : Prop := ∃ pw st : Int, zz_lpw (s / 4) pw ∧ ((pw ≤ 8 ∧ st = pw) ∨ (8 < pw ∧ st = 8)) ∧ zz_s4 (fun k => zz_fg c k (s / 4)) st (g - s / 4) 0 r
theorem zz_g6_mk {c : Nat → Int32} {g s r pw st nd z : Int} (h1 : zz_lpw nd pw) (h2 : zz_s4 (fun k => zz_fg c k nd) st (g - nd) z r) (hz : z = 0) (hn : nd = s / 4) (hs : (pw ≤ 8 ∧ st = pw) ∨ (8 < pw ∧ st = 8)) : zz_g6 c g s r := by
  subst hn
  subst hz
  exact ⟨pw, st, h1, hs, h2⟩
theorem zz_lpw_rg {n r : Int} (h : zz_lpw n r) : 1 ≤ r ∧ r ≤ 1024 ∧ n ≤ r ∧ (r = 1 ∨ r < 2 * n) := by
  obtain ⟨a, b, c⟩ := h
  unfold zz_p2 at a
  omega
theorem zz_lpw_p2 {n r : Int} (h : zz_lpw n r) : zz_p2 r := h.1
-- form 4
def zz_zp (h : Int) : Prop := h = 0 ∨ zz_p2 h
theorem zz_zp_half {h h' : Int} (h0 : zz_zp h) (e : h' = h / 2) : zz_zp h' := by
  unfold zz_zp zz_p2 at *
  omega
theorem zz_zp_p2 {h : Int} (h0 : zz_zp h) (h1 : 1 ≤ h) : zz_p2 h := by
  rcases h0 with a | a
  · omega
  · exact a
theorem zz_gpw_a {n r : Int} (h : zz_lpw n r) (hr : r ≤ n) : zz_gpw n r := by
  obtain ⟨a, b, c⟩ := h
  exact ⟨a, hr, by unfold zz_p2 at a; omega⟩
theorem zz_gpw_b {n r q : Int} (h : zz_lpw n r) (hr : n < r) (hq : q = r / 2) (h1 : 1 ≤ n) : zz_gpw n q := by
  obtain ⟨a, b, c⟩ := h
  unfold zz_p2 at a
  refine ⟨?_, ?_, ?_⟩
  · unfold zz_p2
    omega
  · omega
  · omega
def zz_b4 (f : Nat → Int32) (W : Int) : Prop := (f 0).toInt = W ∧ ∀ x : Nat, 0 < x → x < 1024 → (f x).toInt = 0
theorem zz_b4_mk {f : Nat → Int32} {W : Int} {v z : Int32} {i : Nat} (h : zz_fl f z 1024) (hz : z.toInt = 0) (hi : i = 0) (hv : v.toInt = W) : zz_b4 (upd f i v) W := by
  subst hi
  refine ⟨by rw [zz_updE, if_pos rfl]; exact hv, fun x h1 h2 => ?_⟩
  rw [zz_updE, if_neg (by omega), h x (by omega)]
  exact hz
theorem zz_smp_cg {f : Nat → Int32} {W W' s r : Int} (h : zz_smp f W s r) (hW : W' = W) : zz_smp f W' s r := by rw [hW]; exact h
def zz_P4 (f : Nat → Int32) (W : Int) : Prop := ∀ x : Nat, (x : Int) < W → (f x).toInt = 0 ∨ (zz_p2 (f x).toInt ∧ (x : Int) + (f x).toInt ≤ W)
theorem zz_P4_rg {f : Nat → Int32} {W s : Int} {r : Int32} (h : zz_P4 f W) (hm : zz_smp f W s r.toInt) (hs : 1 ≤ s) : r.toInt = -1 ∨ (0 ≤ r.toInt ∧ 1 ≤ (f r.toNatClampNeg).toInt ∧ (f r.toNatClampNeg).toInt ≤ 1024 ∧ r.toInt + (f r.toNatClampNeg).toInt ≤ W) := by
  rcases hm with ⟨a, _⟩ | ⟨a1, a2, a3, _⟩
  · exact Or.inl a
  · have a3 : s ≤ (f r.toNatClampNeg).toInt := a3
    have e := zz_tnI r a1
    rcases h r.toNatClampNeg (by omega) with c | ⟨c, d⟩
    · omega
    · unfold zz_p2 at c
      omega
theorem zz_P4_zp {f : Nat → Int32} {W s : Int} {r h' : Int32} (h : zz_P4 f W) (hm : zz_smp f W s r.toInt) (hr : 0 ≤ r.toInt) (e : h'.toInt = (f r.toNatClampNeg).toInt / 2) : zz_zp h'.toInt := by
  rcases hm with ⟨a, _⟩ | ⟨a1, a2, a3, _⟩
  · omega
  · have e2 := zz_tnI r a1
    rcases h r.toNatClampNeg (by omega) with c | ⟨c, d⟩
    · unfold zz_zp
      omega
    · exact zz_zp_half (Or.inr c) e
def zz_t4 (f f' : Nat → Int32) (W s r : Int) : Prop := zz_smp f W s r ∧ ((r = -1 ∧ f' = f) ∨ (0 ≤ r ∧ zz_shv f f' r ((f r.toNat).toInt / 2) s))
theorem zz_t4_n {f : Nat → Int32} {W s r r' : Int} (hm : zz_smp f W s r) (hr : r = -1) (hr' : r' = -1) : zz_t4 f f W s r' := ⟨by rw [hr', ← hr]; exact hm, Or.inl ⟨hr', rfl⟩⟩
theorem zz_t4_y {f f' : Nat → Int32} {W s q : Int} {r h : Int32} (hm : zz_smp f W s r.toInt) (hs : zz_shv f f' r.toInt h.toInt s) (hq : q = r.toInt) (hr : 0 ≤ r.toInt) (hh : h.toInt = (f r.toNatClampNeg).toInt / 2) : zz_t4 f f' W s q := by
  subst hq
  rw [hh] at hs
  exact ⟨hm, Or.inr ⟨hr, hs⟩⟩
set_option maxRecDepth 100000 in
theorem zz_xq1 : ∀ p, p < 1024 → p ^^^ 1 = zz_bud p 1 := by decide
set_option maxRecDepth 100000 in
theorem zz_xq2 : ∀ p, p < 1024 → p ^^^ 2 = zz_bud p 2 := by decide
set_option maxRecDepth 100000 in
theorem zz_xq4 : ∀ p, p < 1024 → p ^^^ 4 = zz_bud p 4 := by decide
set_option maxRecDepth 100000 in
theorem zz_xq8 : ∀ p, p < 1024 → p ^^^ 8 = zz_bud p 8 := by decide
set_option maxRecDepth 100000 in
theorem zz_xq16 : ∀ p, p < 1024 → p ^^^ 16 = zz_bud p 16 := by decide
set_option maxRecDepth 100000 in
theorem zz_xq32 : ∀ p, p < 1024 → p ^^^ 32 = zz_bud p 32 := by decide
set_option maxRecDepth 100000 in
theorem zz_xq64 : ∀ p, p < 1024 → p ^^^ 64 = zz_bud p 64 := by decide
set_option maxRecDepth 100000 in
theorem zz_xq128 : ∀ p, p < 1024 → p ^^^ 128 = zz_bud p 128 := by decide
set_option maxRecDepth 100000 in
theorem zz_xq256 : ∀ p, p < 1024 → p ^^^ 256 = zz_bud p 256 := by decide
set_option maxRecDepth 100000 in
theorem zz_xq512 : ∀ p, p < 1024 → p ^^^ 512 = zz_bud p 512 := by decide
theorem zz_xqq {s p : Nat} (hs : zz_p2 (s : Int)) (h : s < 1024) (hp : p < 1024) : p ^^^ s = zz_bud p s := by
  have c : s = 1 ∨ s = 2 ∨ s = 4 ∨ s = 8 ∨ s = 16 ∨ s = 32 ∨ s = 64 ∨ s = 128 ∨ s = 256 ∨ s = 512 := by unfold zz_p2 at hs; omega
  rcases c with c | c | c | c | c | c | c | c | c | c <;> subst c
  · exact zz_xq1 p hp
  · exact zz_xq2 p hp
  · exact zz_xq4 p hp
  · exact zz_xq8 p hp
  · exact zz_xq16 p hp
  · exact zz_xq32 p hp
  · exact zz_xq64 p hp
  · exact zz_xq128 p hp
  · exact zz_xq256 p hp
  · exact zz_xq512 p hp
theorem zz_xb (a b : Int32) (ha : 0 ≤ a.toInt) (ha2 : a.toInt < 1024) (hb : zz_p2 b.toInt) : 1024 ≤ b.toInt ∨ ((a ^^^ b).toInt = (zz_bud a.toInt.toNat b.toInt.toNat : Int) ∧ 0 ≤ (a ^^^ b).toInt ∧ (a ^^^ b).toInt < 2048) := by
  by_cases hq : 1024 ≤ b.toInt
  · exact Or.inl hq
  · right
    have hb0 : 1 ≤ b.toInt := by unfold zz_p2 at hb; omega
    have h1 := zz_ofInt ha
    have h2 := zz_ofInt (x := b) (by omega)
    have h0 := zz_xorF a b ha (by omega)
    have h4 := (zz_ofInt h0).2
    rw [Int32.toBitVec_xor, BitVec.toNat_xor] at h4
    have e := zz_xqq (s := b.toInt.toNat) (p := a.toInt.toNat) (by rw [Int.toNat_of_nonneg (by omega)]; exact hb) (by omega) (by omega)
    have e1 : a.toBitVec.toNat = a.toInt.toNat := by omega
    have e2 : b.toBitVec.toNat = b.toInt.toNat := by omega
    rw [e1, e2, e] at h4
    have e3 : zz_bud a.toInt.toNat b.toInt.toNat < 2048 := by unfold zz_bud; split <;> omega
    omega
-- form 5
def zz_s5 (n r : Int) : Prop := (n ≤ 32 ∧ zz_lpw n r) ∨ (32 < n ∧ r = (n + 31) / 32 * 32)
def zz_wk (s : Int) (f g : Nat → Int32) (a e : Int) : Prop := (s = 0 ∧ zz_wr f g a e 0) ∨ (s ≠ 0 ∧ zz_wr f g a e 1)
theorem zz_wk_nil {s a e : Int} {f : Nat → Int32} (h : e ≤ a) : zz_wk s f f a e := by
  by_cases c : s = 0
  · exact Or.inl ⟨c, zz_wr_nil h⟩
  · exact Or.inr ⟨c, zz_wr_nil h⟩
theorem zz_wk_step {s a a' e : Int} {f g : Nat → Int32} {i : Nat} {v : Int32} (h : zz_wk s (upd f i v) g a' e) (hv : (s = 0 ∧ v = 0) ∨ (s ≠ 0 ∧ v = 1)) (hi : (i : Int) = a) (ha : a' = a + 1) (hl : a < e) : zz_wk s f g a e := by
  rcases h with ⟨c, h⟩ | ⟨c, h⟩
  · rcases hv with ⟨_, d⟩ | ⟨d, _⟩
    · subst d
      exact Or.inl ⟨c, zz_wr_step h hi ha hl⟩
    · exact absurd c d
  · rcases hv with ⟨d, _⟩ | ⟨_, d⟩
    · exact absurd d c
    · subst d
      exact Or.inr ⟨c, zz_wr_step h hi ha hl⟩
theorem zz_wk_cg {s s' a e a' e' : Int} {f g : Nat → Int32} (h : zz_wk s f g a e) (hs : s' = s) (ha : a' = a) (he : e' = e) : zz_wk s' f g a' e' := by rw [hs, ha, he]; exact h
def zz_tr5 (S K S' K' : Nat → Int32) (pg n : Int) (s : Int32) (r : Int) : Prop := ∃ q : Int, zz_fr5 S pg n q ∧ ((q = -1 ∧ r = -1 ∧ S' = S ∧ K' = K) ∨ (0 ≤ q ∧ r = 32 * q ∧ zz_wr S S' q (q + n) s ∧ zz_wk s.toInt K K' q (q + n)))
theorem zz_tr5_n {S K : Nat → Int32} {pg n r : Int} {s : Int32} (h : zz_fr5 S pg n (-1)) (hr : r = -1) : zz_tr5 S K S K pg n s r := ⟨-1, h, Or.inl ⟨rfl, hr, rfl, rfl⟩⟩
theorem zz_tr5_y {S K S' K' : Nat → Int32} {pg n r q a e a' e' x : Int} {s : Int32} (h : zz_fr5 S pg n q) (hS : zz_wr S S' a e s) (hK : zz_wk x K K' a' e') (hx : x = s.toInt) (hq : 0 ≤ q) (hr : r = 32 * q) (ha : a = q) (he : e = q + n) (ha' : a' = q) (he' : e' = q + n) : zz_tr5 S K S' K' pg n s r := by
  subst ha he ha' he' hx
  exact ⟨_, h, Or.inr ⟨hq, hr, hS, hK⟩⟩
theorem zz_al_md {s x p : Int} (h : (s = 1 ∧ x % 1 = 0) ∨ (s = 2 ∧ x % 2 = 0) ∨ (s = 4 ∧ x % 4 = 0) ∨ (s = 8 ∧ x % 8 = 0) ∨ (s = 16 ∧ x % 16 = 0) ∨ (s = 32 ∧ x % 32 = 0)) : (x - 32 * p) % s = 0 := by
  rcases h with ⟨c, h⟩ | ⟨c, h⟩ | ⟨c, h⟩ | ⟨c, h⟩ | ⟨c, h⟩ | ⟨c, h⟩ <;> subst c <;> omega
def zz_ti5 (S c K K' : Nat → Int32) (pg s x r : Int) : Prop := zz_tp5 S (fun y => (c y.toNat).toInt = -1) pg s x r ∧ ((r = -1 ∧ K' = K) ∨ (0 ≤ r ∧ ∃ i : Nat, (i : Int) = r / 32 ∧ K' = upd K i ((K i) + ((1 : Int32)))))
theorem zz_ti5_end {S c K : Nat → Int32} {pg s x r : Int} (h : pg ≤ x) (hr : r = -1) : zz_ti5 S c K K pg s x r := ⟨zz_tp5_end h hr, Or.inl ⟨hr, rfl⟩⟩
theorem zz_ti5_skip {S c K K' : Nat → Int32} {pg s x x' r : Int} {i : Nat} (h : zz_ti5 S c K K' pg s x' r) (hi : (i : Int) = x) (hx : x' = x + 1) (hc : (S i).toInt ≠ s ∨ zz_fp5 (fun y => (c y.toNat).toInt = -1) x s (-1)) : zz_ti5 S c K K' pg s x r := ⟨zz_tp5_skip h.1 hi hx hc, h.2⟩
theorem zz_fp5_m {F : Int → Prop} {p s r : Int} (h : zz_fp5 F p s r) (hr : r = -1) : zz_fp5 F p s (-1) := by rw [← hr]; exact h
theorem zz_fp5_rg {F : Int → Prop} {p s r : Int} (h : zz_fp5 F p s r) : r = -1 ∨ (32 * p ≤ r ∧ r < 32 * p + 32) := by
  rcases h with ⟨a, _⟩ | ⟨j, j1, j2, j3, _⟩
  · exact Or.inl a
  · omega
theorem zz_ti5_hit {S c K : Nat → Int32} {pg s x r : Int} {i j : Nat} (hf : zz_fp5 (fun y => (c y.toNat).toInt = -1) x s r) (hi : (i : Int) = x) (hx : x < pg) (hs : (S i).toInt = s) (hr : r ≠ -1) (h0 : 0 ≤ x) (hj : (j : Int) = x) : zz_ti5 S c K (upd K j ((K j) + ((1 : Int32)))) pg s x r := by
  have := zz_fp5_rg hf
  exact ⟨zz_tp5_hit hi hx hs hf (by omega), Or.inr ⟨by omega, j, by omega, rfl⟩⟩
def zz_k5t (S K S' K' c : Nat → Int32) (pg : Int) (s : Int32) (r : Int) : Prop := (32 < s.toInt ∧ zz_tr5 S K S' K' pg (s.toInt / 32) s r) ∨ (s.toInt ≤ 32 ∧ 0 ≤ r ∧ S' = S ∧ zz_ti5 S c K K' pg s.toInt 0 r) ∨ (s.toInt ≤ 32 ∧ zz_ti5 S c K K pg s.toInt 0 (-1) ∧ zz_tr5 S K S' K' pg 1 s r)
theorem zz_tr5_cg {S K S' K' : Nat → Int32} {pg n n' r : Int} {s : Int32} (h : zz_tr5 S K S' K' pg n s r) (hn : n' = n) : zz_tr5 S K S' K' pg n' s r := by rw [hn]; exact h
theorem zz_ti5_K {S c K K' : Nat → Int32} {pg s x r : Int} (h : zz_ti5 S c K K' pg s x r) (hr : r = -1) : K' = K ∧ zz_ti5 S c K K pg s x (-1) := by
  rcases h.2 with ⟨_, e⟩ | ⟨e, _⟩
  · subst e
    rw [hr] at h
    exact ⟨rfl, h⟩
  · omega
def zz_tb5 (S K S' K' : Nat → Int32) (p s : Int) : Prop := ∃ i : Nat, (i : Int) = p / 32 ∧ ((((K i) - ((1 : Int32))).toInt ≤ 0 ∧ zz_wr S S' (p / 32) (p / 32 + (s + 31) / 32) 0 ∧ zz_wk 0 (upd K i ((K i) - ((1 : Int32)))) K' (p / 32) (p / 32 + (s + 31) / 32)) ∨ (0 < ((K i) - ((1 : Int32))).toInt ∧ S' = S ∧ K' = upd K i ((K i) - ((1 : Int32)))))
theorem zz_tb5_y {S K S' K' : Nat → Int32} {p s a e a' e' x : Int} {v : Int32} {i : Nat} (hS : zz_wr S S' a e v) (hK : zz_wk x (upd K i ((K i) - ((1 : Int32)))) K' a' e') (hv : v = 0) (hx : x = 0) (hi : (i : Int) = p / 32) (hc : ((upd K i ((K i) - ((1 : Int32)))) i).toInt ≤ 0) (ha : a = p / 32) (he : e = p / 32 + (s + 31) / 32) (ha' : a' = p / 32) (he' : e' = p / 32 + (s + 31) / 32) : zz_tb5 S K S' K' p s := by
  rw [zz_updE, if_pos rfl] at hc
  subst hv ha he ha' he' hx
  exact ⟨i, hi, Or.inl ⟨hc, hS, hK⟩⟩
-- form 9
def zz_tq (pc wc : Nat → Int32) (n : Int) (pc' wc' : Nat → Int32) (n' s x r : Int) : Prop := (r = -1 ∧ n' = n ∧ pc' = pc ∧ wc' = wc ∧ ∀ j : Nat, (j : Int) ≤ x → (wc j).toInt ≠ s) ∨ ∃ j : Nat, (j : Int) ≤ x ∧ (wc j).toInt = s ∧ r = (pc j).toInt ∧ n' = n - 1 ∧ zz_rmv pc pc' (j : Int) n ∧ zz_rmv wc wc' (j : Int) n ∧ ∀ i : Nat, j < i → (i : Int) ≤ x → (wc i).toInt ≠ s
theorem zz_tb5_n {S K : Nat → Int32} {p s : Int} {i : Nat} (hc : 0 < ((upd K i ((K i) - ((1 : Int32)))) i).toInt) (hi : (i : Int) = p / 32) : zz_tb5 S K S (upd K i ((K i) - ((1 : Int32)))) p s := ⟨i, hi, Or.inr ⟨by rw [zz_updE, if_pos rfl] at hc; exact hc, rfl, rfl⟩⟩
theorem zz_tq_no {pc wc : Nat → Int32} {n n' s x r : Int} (hx : x < 0) (hr : r = -1) (hn : n' = n) : zz_tq pc wc n pc wc n' s x r := Or.inl ⟨hr, hn, rfl, rfl, fun j hj => by omega⟩
theorem zz_tq_hit {pc wc pc' wc' : Nat → Int32} {n n' s x r x' x'' : Int} {j : Nat} (h1 : zz_rmv pc pc' x' n) (h2 : zz_rmv wc wc' x'' n) (hj : (j : Int) = x) (e1 : x' = x) (e2 : x'' = x) (hs : (wc j).toInt = s) (hr : r = (pc j).toInt) (hn : n' = n - 1) : zz_tq pc wc n pc' wc' n' s x r := by
  subst e1 e2
  rw [← hj] at h1 h2
  exact Or.inr ⟨j, by omega, hs, hr, hn, h1, h2, fun i h3 h4 => by omega⟩
theorem zz_tq_skip {pc wc pc' wc' : Nat → Int32} {n n' s x x' r : Int} {j : Nat} (h : zz_tq pc wc n pc' wc' n' s x' r) (hj : (j : Int) = x) (hx : x' = x - 1) (hs : (wc j).toInt ≠ s) : zz_tq pc wc n pc' wc' n' s x r := by
  rcases h with ⟨a1, a2, a3, a4, a5⟩ | ⟨i, a1, a2, a3, a4, a5, a6, a7⟩
  · exact Or.inl ⟨a1, a2, a3, a4, fun k hk => by
      by_cases c : k = j
      · rw [c]; exact hs
      · exact a5 k (by omega)⟩
  · exact Or.inr ⟨i, by omega, a2, a3, a4, a5, a6, fun k h1 h2 => by
      by_cases c : k = j
      · rw [c]; exact hs
      · exact a7 k h1 (by omega)⟩
theorem zz_tq_cg {pc wc pc' wc' : Nat → Int32} {n n' s x x' r : Int} (h : zz_tq pc wc n pc' wc' n' s x r) (hx : x' = x) : zz_tq pc wc n pc' wc' n' s x' r := by rw [hx]; exact h
/-- after nothing was found all is as it was -/
theorem zz_tq_m {pc wc pc' wc' : Nat → Int32} {n n' s x r w : Int} (h : zz_tq pc wc n pc' wc' n' s x r) (hv : zz_vs w pc wc n) (hr : r = -1) (hx : x < n) : pc' = pc ∧ wc' = wc ∧ n' = n ∧ zz_tq pc wc n pc wc n s x (-1) := by
  rcases h with ⟨a1, a2, a3, a4, a5⟩ | ⟨j, a1, a2, a3, _⟩
  · exact ⟨a3, a4, a2, Or.inl ⟨rfl, rfl, rfl, rfl, a5⟩⟩
  · have := hv j (by omega)
    omega
def zz_k9 (w : Int) (c c' pc wc : Nat → Int32) (n : Int) (pc' wc' : Nat → Int32) (n' s r : Int) : Prop := (0 ≤ r ∧ c' = c ∧ zz_tq pc wc n pc' wc' n' s (n - 1) r) ∨ (zz_tq pc wc n pc wc n s (n - 1) (-1) ∧ pc' = pc ∧ wc' = wc ∧ ((0 ≤ r ∧ c' = c ∧ n' = n ∧ zz_ff w c s 0 w r) ∨ (zz_ff w c s 0 w (-1) ∧ n' = 0 ∧ zz_W9p c c' pc wc 0 n ∧ zz_ff w c' s 0 w r)))
theorem zz_W9p_cg {c c' qp qw : Nat → Int32} {i i' n n' : Int} (h : zz_W9p c c' qp qw i n) (hi : i' = i) (hn : n' = n) : zz_W9p c c' qp qw i' n' := by rw [hi, hn]; exact h
theorem zz_ff_m {w a fr ah r : Int} {h : Nat → Int32} (hf : zz_ff w h a fr ah r) (hr : r = -1) : zz_ff w h a fr ah (-1) := by rw [← hr]; exact hf
theorem zz_isf_n2 {w : Int} {o : Nat → Int32} {p : Int32} {r : Int} (h : zz_isf w o p r) (hr : r = 0) (h0 : 0 ≤ p.toInt) (h1 : p.toInt < w) : (o p.toNatClampNeg).toInt ≠ -1 := by
  rcases h with ⟨a, _⟩ | ⟨_, a⟩
  · omega
  · rcases a with a | a | a
    · omega
    · omega
    · exact a
theorem zz_tnE {x : Int32} {y : Int} (h : 0 ≤ y) (e : x.toInt = y) : (x.toNatClampNeg : Int) = y := by
  have := zz_tnI x (by omega)
  omega
theorem zz_tnO (x : Int32) : x.toInt < 0 ∨ (x.toNatClampNeg : Int) = x.toInt := by
  by_cases c : x.toInt < 0
  · exact Or.inl c
  · exact Or.inr (zz_tnI x (by omega))
theorem zz_p2_up {a b c : Int} (ha : zz_p2 a) (hb : zz_p2 b) (h : a < b) (hc : c = 2 * a) : c ≤ b := by
  have := zz_p2_le ha hb h
  omega
theorem zz_k5_lt {S : Nat → Int32} {n k x : Int} (h : zz_k5 S n k x) : 0 ≤ k ∧ k < n ∧ k ≤ x := ⟨h.1, h.2.2.1, h.2.1⟩
/-- a span that form 5 has -/
def zz_s5s (s : Int) : Prop := (zz_p2 s ∧ s ≤ 32) ∨ (32 < s ∧ s % 32 = 0)
theorem zz_s5s_or {s : Int} (h : zz_s5s s) : (s = 1 ∨ s = 2 ∨ s = 4 ∨ s = 8 ∨ s = 16 ∨ s = 32) ∨ (32 < s ∧ s % 32 = 0) := by
  rcases h with ⟨a, b⟩ | a
  · unfold zz_p2 at a
    omega
  · exact Or.inr a
theorem zz_s5_s {n r : Int} (h : zz_s5 n r) (h1 : 1 ≤ n) (h2 : n ≤ 1024) : zz_s5s r ∧ 1 ≤ r ∧ r ≤ 1024 ∧ n ≤ r := by
  rcases h with ⟨a, b⟩ | ⟨a, b⟩
  · obtain ⟨b1, b2, b3⟩ := b
    have c := b1
    unfold zz_p2 at c
    exact ⟨Or.inl ⟨b1, by omega⟩, by omega, by omega, by omega⟩
  · exact ⟨Or.inr ⟨by omega, by omega⟩, by omega, by omega, by omega⟩
theorem zz_upi {f g : Nat → Int32} {i j : Nat} {v : Int32} (h : g = upd f i v) (e : i = j) : g = upd f j v := by rw [← e]; exact h
def zz_tb9 (c c' pc wc : Nat → Int32) (n : Int) (pc' wc' : Nat → Int32) (n' : Int) (p s : Int32) : Prop := (8 < s.toInt ∧ c' = c ∧ pc' = pc ∧ wc' = wc ∧ n' = n) ∨ (s.toInt ≤ 8 ∧ zz_wr c c' p.toInt (p.toInt + s.toInt) (-2) ∧ pc' = upd pc n.toNat p ∧ wc' = upd wc n.toNat s ∧ n' = n + 1)
theorem zz_k9_a {w : Int} {c pc wc pc' wc' : Nat → Int32} {n n' s x r r0 : Int} (h : zz_tq pc wc n pc' wc' n' s x r0) (hv : zz_vs w pc wc n) (hf : zz_ff w c s 0 w r) (hr0 : r0 = -1) (hx : x = n - 1) (hr : 0 ≤ r) : zz_k9 w c c pc wc n pc' wc' n' s r := by
  subst hx
  obtain ⟨a, b, d, g⟩ := zz_tq_m h hv hr0 (by omega)
  exact Or.inr ⟨g, a, b, Or.inl ⟨hr, rfl, d, hf⟩⟩
theorem zz_k9_b {w : Int} {c c' pc wc pc' wc' : Nat → Int32} {n n' n1 s x r r0 r1 z : Int} (h : zz_tq pc wc n pc' wc' n1 s x r0) (hv : zz_vs w pc wc n) (hf : zz_ff w c s 0 w r1) (hW : zz_W9p c c' pc' wc' z n1) (hf2 : zz_ff w c' s 0 w r) (hr0 : r0 = -1) (hr1 : r1 = -1) (hx : x = n - 1) (hn : n' = 0) (hz : z = 0 := by rfl) : zz_k9 w c c' pc wc n pc' wc' n' s r := by
  subst hx
  subst hz
  obtain ⟨a, b, d, g⟩ := zz_tq_m h hv hr0 (by omega)
  subst a b d hr1
  exact Or.inr ⟨g, rfl, rfl, Or.inr ⟨hf, hn, hW, hf2⟩⟩
-- RoomForms' methods
theorem zz_BE_n {e e2 : String} {p1 : Int32} {B r B' x : Int} {nc pc sc ac : Nat → Int32} {SM : Prop} {TB : Int32 → Int32 → Prop} (h : zz_nb nc p1 B e2 x) (hn : ¬ e2 = "") (he : e = e2) (hB : B' = B) (hS : SM) : zz_BE e p1 B nc pc sc ac r B' nc pc sc ac SM TB := by
  rcases h with ⟨a, b⟩ | ⟨a, _⟩
  · exact Or.inl ⟨he.trans a, b, hB, rfl, rfl, rfl, rfl, hS⟩
  · exact absurd a hn
theorem zz_BE_y {e e2 : String} {p1 x : Int32} {B r B' : Int} {nc pc sc ac nc' pc' sc' ac' : Nat → Int32} {SM : Prop} {TB : Int32 → Int32 → Prop} (h : zz_nb nc p1 B e2 x.toInt) (he2 : e2 = "") (he : e = "") (hr : r = (pc x.toNatClampNeg).toInt) (hB : B' = B - 1) (h1 : zz_mv nc nc' x.toInt B) (h2 : zz_mv pc pc' x.toInt B) (h3 : zz_mv sc sc' x.toInt B) (h4 : zz_mv ac ac' x.toInt B) (h5 : TB (pc x.toNatClampNeg) (sc x.toNatClampNeg)) : zz_BE e p1 B nc pc sc ac r B' nc' pc' sc' ac' SM TB := by
  rcases h with h | ⟨_, a1, a2, a3⟩
  · exact absurd (h.1.symm.trans he2) (by decide)
  · have ex := zz_tnI x a1
    exact Or.inr ⟨he, x.toNatClampNeg, by omega, a3, hr, hB, by rw [ex]; exact h1, by rw [ex]; exact h2, by rw [ex]; exact h3, by rw [ex]; exact h4, h5⟩
/-- about, of the class -/
def zz_AE (e : String) (p1 : Int32) (p2 r B : Int) (nc pc sc ac : Nat → Int32) : Prop := (e = "java/lang/IllegalArgumentException" ∧ (p2 < 0 ∨ 2 < p2)) ∨ (0 ≤ p2 ∧ p2 ≤ 2 ∧ ((e = "java/util/NoSuchElementException" ∧ zz_ns nc p1 B) ∨ (e = "" ∧ ∃ i : Nat, (i : Int) < B ∧ nc i = p1 ∧ ((p2 = 0 ∧ r = (pc i).toInt) ∨ (p2 = 1 ∧ r = (sc i).toInt) ∨ (p2 = 2 ∧ r = (ac i).toInt)))))
theorem zz_AE_n {e e2 : String} {p1 : Int32} {p2 r B x : Int} {nc pc sc ac : Nat → Int32} (h : zz_nb nc p1 B e2 x) (hn : ¬ e2 = "") (he : e = e2) (h0 : 0 ≤ p2) (h2 : p2 ≤ 2) : zz_AE e p1 p2 r B nc pc sc ac := by
  rcases h with ⟨a, b⟩ | ⟨a, _⟩
  · exact Or.inr ⟨h0, h2, Or.inl ⟨he.trans a, b⟩⟩
  · exact absurd a hn
theorem zz_AE_y {e e2 : String} {p1 x : Int32} {p2 r B : Int} {nc pc sc ac : Nat → Int32} (h : zz_nb nc p1 B e2 x.toInt) (he2 : e2 = "") (he : e = "") (hr : (p2 = 0 ∧ r = (pc x.toNatClampNeg).toInt) ∨ (p2 = 1 ∧ r = (sc x.toNatClampNeg).toInt) ∨ (p2 = 2 ∧ r = (ac x.toNatClampNeg).toInt)) : zz_AE e p1 p2 r B nc pc sc ac := by
  rcases h with h | ⟨_, a1, a2, a3⟩
  · exact absurd (h.1.symm.trans he2) (by decide)
  · have ex := zz_tnI x a1
    exact Or.inr ⟨by omega, by omega, Or.inr ⟨he, x.toNatClampNeg, by omega, a3, hr⟩⟩
/-- at, of the class -/
def zz_TE (e : String) (p1 : Int32) (r w : Int) (c : Nat → Int32) : Prop := (e = "java/lang/IllegalArgumentException" ∧ (p1.toInt < 0 ∨ w ≤ p1.toInt)) ∨ (e = "" ∧ 0 ≤ p1.toInt ∧ p1.toInt < w ∧ zz_bat c p1 r)
/-- run, of the class -/
def zz_RE (e : String) (p1 p2 r w : Int) (c : Nat → Int32) : Prop := (e = "java/lang/IllegalArgumentException" ∧ (p2 < 0 ∨ 1 < p2)) ∨ (0 ≤ p2 ∧ p2 ≤ 1 ∧ ∃ (pl wd : Nat → Int32) (n : Int), zz_ru w c pl wd n ∧ 0 ≤ n ∧ ((e = "java/lang/IndexOutOfBoundsException" ∧ (p1 < 0 ∨ n ≤ p1)) ∨ (e = "" ∧ 0 ≤ p1 ∧ p1 < n ∧ ((p2 = 0 ∧ r = (pl p1.toNat).toInt) ∨ (p2 = 1 ∧ r = (wd p1.toNat).toInt)))))
theorem zz_RE_n {e : String} {p1 p2 r w n : Int} {c pl wd : Nat → Int32} (h : zz_ru w c pl wd n) (hn : 0 ≤ n) (h0 : 0 ≤ p2) (h1 : p2 ≤ 1) (he : e = "java/lang/IndexOutOfBoundsException") (hp : p1 < 0 ∨ n ≤ p1) : zz_RE e p1 p2 r w c := Or.inr ⟨h0, h1, pl, wd, n, h, hn, Or.inl ⟨he, hp⟩⟩
theorem zz_RE_y {e : String} {p1 p2 r w n : Int} {c pl wd : Nat → Int32} (h : zz_ru w c pl wd n) (hn : 0 ≤ n) (h0 : 0 ≤ p2) (h1 : p2 ≤ 1) (he : e = "") (hp : 0 ≤ p1) (hp2 : p1 < n) (hr : (p2 = 0 ∧ r = (pl p1.toNat).toInt) ∨ (p2 = 1 ∧ r = (wd p1.toNat).toInt)) : zz_RE e p1 p2 r w c := Or.inr ⟨h0, h1, pl, wd, n, h, hn, Or.inr ⟨he, hp, hp2, hr⟩⟩
/-- an open of the class: SM all is as it was, BG what begin leaves -/
def zz_OE (e : String) (p1 p2 : Int) (SM : Prop) (f' w' B' g' : Int) (ow : Nat → Int32) (BG : Prop) : Prop := (e = "java/lang/IllegalArgumentException" ∧ (p1 < 0 ∨ 9 < p1 ∨ p2 < 16 ∨ 1024 < p2) ∧ SM) ∨ (e = "" ∧ 0 ≤ p1 ∧ p1 ≤ 9 ∧ 16 ≤ p2 ∧ p2 ≤ 1024 ∧ f' = p1 ∧ w' = p2 ∧ B' = 0 ∧ g' = 0 ∧ zz_fl ow (-1) 1024 ∧ BG)
/-- without a room -/
def zz_NE (e : String) (P : Prop) : Prop := (e = "java/lang/IllegalArgumentException" ∧ P) ∨ (e = "java/lang/IllegalStateException" ∧ ¬ P)
theorem zz_NE_s {e : String} {P : Prop} (h : zz_eis e) (hP : ¬ P) : zz_NE e P := Or.inr ⟨h, hP⟩
/-- blocks of form 4 and 5, of the class: what their places and spans are -/
def zz_B4 (pc sc : Nat → Int32) (B W : Int) : Prop := ∀ i : Nat, (i : Int) < B → zz_p2 (sc i).toInt ∧ 0 ≤ (pc i).toInt ∧ (pc i).toInt + (sc i).toInt ≤ W
theorem zz_B4_at {pc sc : Nat → Int32} {B W : Int} (h : zz_B4 pc sc B W) (x : Int32) (h0 : 0 ≤ x.toInt) (h1 : x.toInt < B) : zz_p2 (sc x.toNatClampNeg).toInt ∧ 1 ≤ (sc x.toNatClampNeg).toInt ∧ 0 ≤ (pc x.toNatClampNeg).toInt ∧ (pc x.toNatClampNeg).toInt + (sc x.toNatClampNeg).toInt ≤ W := by
  obtain ⟨a, b, c⟩ := h x.toNatClampNeg (by have := zz_tnI x h0; omega)
  exact ⟨a, (zz_p2_pos a).1, b, c⟩
def zz_B5 (pc sc : Nat → Int32) (B pg : Int) : Prop := ∀ i : Nat, (i : Int) < B → 0 ≤ (pc i).toInt ∧ 1 ≤ (sc i).toInt ∧ (pc i).toInt + (sc i).toInt ≤ 32 * pg ∧ ((pc i).toInt % 32 + (sc i).toInt ≤ 32 ∨ (pc i).toInt % 32 = 0) ∧ ((sc i).toInt ≤ 32 ∨ (sc i).toInt % 32 = 0)
theorem zz_B5_at {pc sc : Nat → Int32} {B pg : Int} (h : zz_B5 pc sc B pg) (x : Int32) (h0 : 0 ≤ x.toInt) (h1 : x.toInt < B) : 0 ≤ (pc x.toNatClampNeg).toInt ∧ 1 ≤ (sc x.toNatClampNeg).toInt ∧ (pc x.toNatClampNeg).toInt + (sc x.toNatClampNeg).toInt ≤ 32 * pg ∧ ((pc x.toNatClampNeg).toInt % 32 + (sc x.toNatClampNeg).toInt ≤ 32 ∨ (pc x.toNatClampNeg).toInt % 32 = 0) ∧ ((sc x.toNatClampNeg).toInt ≤ 32 ∨ (sc x.toNatClampNeg).toInt % 32 = 0) := h x.toNatClampNeg (by have := zz_tnI x h0; omega)
theorem zz_gpw_cg {n n' r : Int} (h : zz_gpw n r) (e : n' = n) : zz_gpw n' r := by rw [e]; exact h
theorem zz_ff_rg {n a fr ah r : Int} {h : Nat → Int32} (hf : zz_ff n h a fr ah r) (h0 : 0 ≤ fr) : r = -1 ∨ (0 ≤ r ∧ r + a ≤ n) := by
  rcases hf with ⟨a1, _⟩ | ⟨a1, a2, a3, _⟩
  · exact Or.inl a1
  · have := a3.1
    exact Or.inr ⟨by omega, by omega⟩
theorem zz_bf_rg {b : Prop} {n a r : Int} {h : Nat → Int32} (hf : zz_bf b n h a r) (hn : 0 ≤ n) : r = -1 ∨ (0 ≤ r ∧ r + a ≤ n) := by
  rcases hf with ⟨a1, _⟩ | ⟨a1, v, a2, a3, _⟩
  · exact Or.inl a1
  · have := a2.2.1
    exact Or.inr ⟨by omega, by omega⟩
theorem zz_pl_rg {f n e a r : Int} {h : Nat → Int32} (hp : zz_pl f n h e a r) (he : 0 ≤ e) (hn : 0 ≤ n) : r = -1 ∨ (0 ≤ r ∧ r + a ≤ n) := by
  rcases hp with ⟨_, g⟩ | ⟨_, g⟩ | ⟨_, g⟩ | ⟨_, g⟩
  · exact zz_ff_rg g (Int.le_refl _)
  · rcases g with ⟨_, g⟩ | ⟨_, g⟩
    · exact zz_ff_rg g he
    · exact zz_ff_rg g (Int.le_refl _)
  · exact zz_bf_rg g hn
  · exact zz_bf_rg g hn
theorem zz_g6_rg {c : Nat → Int32} {g s r : Int} (h : zz_g6 c g s r) (hs : 4 ≤ s) (h4 : s % 4 = 0) : r = -1 ∨ (0 ≤ r ∧ r + s ≤ 4 * g) := by
  obtain ⟨pw, st, h1, h2, h3⟩ := h
  have := zz_lpw_rg h1
  rcases h3 with ⟨a, _⟩ | ⟨j, j1, j2, _⟩
  · exact Or.inl a
  · have : 0 ≤ st * (j : Int) := Int.mul_nonneg (by omega) (Int.natCast_nonneg j)
    exact Or.inr ⟨by omega, by omega⟩
theorem zz_t4_rg {f f' : Nat → Int32} {W s r : Int} (h : zz_t4 f f' W s r) (hP : zz_P4 f W) (hs : 1 ≤ s) : r = -1 ∨ (0 ≤ r ∧ r + s ≤ W) := by
  rcases h.1 with ⟨a, _⟩ | ⟨a1, a2, a3, _⟩
  · exact Or.inl a
  · rcases hP r.toNat (by omega) with c | ⟨_, c⟩
    · omega
    · exact Or.inr ⟨a1, by omega⟩
theorem zz_k5t_rg {S K S' K' c : Nat → Int32} {pg r : Int} {s : Int32} (h : zz_k5t S K S' K' c pg s r) (hs : zz_s5s s.toInt) (h1 : 1 ≤ s.toInt) : r = -1 ∨ (0 ≤ r ∧ r + s.toInt ≤ 32 * pg) := by
  have hs := zz_s5s_or hs
  have key : ∀ n : Int, zz_tr5 S K S' K' pg n s r → s.toInt ≤ 32 * n → r = -1 ∨ (0 ≤ r ∧ r + s.toInt ≤ 32 * pg) := fun n ht hn => by
    obtain ⟨q, q1, q2⟩ := ht
    rcases q2 with ⟨_, b, _⟩ | ⟨b1, b2, _⟩
    · exact Or.inl b
    · rcases q1 with ⟨d, _⟩ | ⟨d1, d2, _⟩
      · omega
      · exact Or.inr ⟨by omega, by omega⟩
  rcases h with ⟨a, b⟩ | ⟨a, b, _, d⟩ | ⟨a, _, d⟩
  · exact key _ b (by omega)
  · rcases d.1 with ⟨e, _⟩ | ⟨p, p1, p2, p3, p4, p5, _⟩
    · exact Or.inl e
    · rcases p5 with ⟨e, _⟩ | ⟨j, j1, j2, j3, _⟩
      · exact Or.inl e
      · refine Or.inr ⟨b, ?_⟩
        have : (j : Int) + s.toInt ≤ 32 := by
          rcases hs with (e | e | e | e | e | e) | e
          · rw [e] at j2 ⊢; omega
          · rw [e] at j2 ⊢; omega
          · rw [e] at j2 ⊢; omega
          · rw [e] at j2 ⊢; omega
          · rw [e] at j2 ⊢; omega
          · rw [e] at j2 ⊢; omega
          · omega
        omega
  · exact key 1 d (by omega)
theorem zz_k9_rg {w n n' s r : Int} {c c' pc wc pc' wc' : Nat → Int32} (h : zz_k9 w c c' pc wc n pc' wc' n' s r) (hv : zz_vs w pc wc n) (hn : 0 ≤ n) (hr : -1 ≤ r) : r = -1 ∨ (0 ≤ r ∧ r + s ≤ w) := by
  rcases h with ⟨a, _, b⟩ | ⟨_, _, _, d⟩
  · rcases b with ⟨e, _⟩ | ⟨j, j1, j2, j3, _⟩
    · exact Or.inl e
    · have := hv j (by omega)
      exact Or.inr ⟨a, by omega⟩
  · rcases d with ⟨_, _, _, d⟩ | ⟨_, _, _, d⟩
    · exact zz_ff_rg d (Int.le_refl _)
    · exact zz_ff_rg d (Int.le_refl _)
theorem zz_k5t_c {S K K1 S' K' c : Nat → Int32} {pg n r r0 x : Int} {s : Int32} (h1 : zz_ti5 S c K K1 pg s.toInt x r0) (h2 : zz_tr5 S K1 S' K' pg n s r) (hr0 : r0 = -1) (hx : x = 0) (hn : n = 1) (hs : s.toInt ≤ 32) : zz_k5t S K S' K' c pg s r := by
  subst hx
  subst hn
  obtain ⟨e, g⟩ := zz_ti5_K h1 hr0
  subst e
  exact Or.inr (Or.inr ⟨hs, g, h2⟩)
/-! words of the reference's finds, all forms -/
theorem zz_sq_mk {w : Int} {o : Nat → Int32} {a e : Int} (h : zz_bk o a e) (ha : a ≤ e) (hw : e ≤ w) (he : w ≤ e ∨ ∃ i : Nat, (i : Int) = e ∧ (o i).toInt ≠ -1) : zz_sq w o a e := by
  refine ⟨ha, h, ?_, Or.inl hw⟩
  rcases he with c | ⟨i, i1, i2⟩
  · exact Or.inl c
  · right
    rw [show e.toNat = i by omega]
    exact i2
/-- the run that runFrom came to: all of it -/
def zz_fs (w : Int) (o : Nat → Int32) (p sz : Int) : Prop := p = -1 ∨ zz_sq w o p (p + sz)
theorem zz_fs_rf {w fr p sz : Int} {o : Nat → Int32} (h : zz_rf w o fr p sz) : zz_fs w o p sz := by
  rcases h with ⟨a, _⟩ | ⟨_, _, _, _, a⟩
  · exact Or.inl a
  · exact Or.inr a
theorem zz_fs_at {w p sz : Int} {o : Nat → Int32} (h : zz_fs w o p sz) (hp : 0 ≤ p) : zz_sq w o p (p + sz) := by
  rcases h with a | a
  · omega
  · exact a
theorem zz_bj_at {b : Prop} {w n best size p sz : Int} {o : Nat → Int32} (h : zz_bj b w o n best size p sz) (hp : 0 ≤ p) : zz_bi b w o n best size p ∧ zz_rn o w.toNat p.toNat sz.toNat := by
  rcases h with ⟨a, _⟩ | ⟨_, a, c⟩
  · omega
  · exact ⟨a, c⟩
theorem zz_bj_small {b : Prop} {w n best size p sz p' sz' a : Int} {o : Nat → Int32} (h : zz_bj b w o n best size p sz) (hf : zz_rf w o a p' sz') (ha : a = p + sz) (h0 : 0 ≤ p) (hz : 0 ≤ sz) (hp : -1 ≤ p') (hw : 0 ≤ w) (hs : sz < n) : zz_bj b w o n best size p' sz' := by
  obtain ⟨h1, h2⟩ := zz_bj_at h h0
  exact zz_bj_next (zz_bi_small (i := p.toNat) h1 h2 hz hs (by omega) rfl) h2 hf ha h0 hz hp hw
theorem zz_bj_keep {b : Prop} {w n best size p sz p' sz' a : Int} {o : Nat → Int32} (h : zz_bj b w o n best size p sz) (hf : zz_rf w o a p' sz') (ha : a = p + sz) (h0 : 0 ≤ p) (hz : 0 ≤ sz) (hp : -1 ≤ p') (hw : 0 ≤ w) (hb : 0 ≤ best) (hs : (b ∧ size ≤ sz) ∨ (¬ b ∧ sz ≤ size)) : zz_bj b w o n best size p' sz' := by
  obtain ⟨h1, h2⟩ := zz_bj_at h h0
  exact zz_bj_next (zz_bi_keep (i := p.toNat) h1 h2 hz hb hs (by omega) rfl) h2 hf ha h0 hz hp hw
theorem zz_bj_new {b : Prop} {w n best size p sz p' sz' a : Int} {o : Nat → Int32} (h : zz_bj b w o n best size p sz) (hf : zz_rf w o a p' sz') (ha : a = p + sz) (h0 : 0 ≤ p) (hz : 0 ≤ sz) (hp : -1 ≤ p') (hw : 0 ≤ w) (hn : n ≤ sz) (hs : best < 0 ∨ (b ∧ sz < size) ∨ (¬ b ∧ size < sz)) : zz_bj b w o n p sz p' sz' := by
  obtain ⟨h1, h2⟩ := zz_bj_at h h0
  exact zz_bj_next (zz_bi_new (i := p.toNat) h1 h2 hz hn hs (by omega) rfl) h2 hf ha h0 hz hp hw
-- form 6: bits of n grains
def zz_g6r (o : Nat → Int32) (w n r : Int) : Prop := ∃ pw st : Int, zz_lpw n pw ∧ ((pw ≤ 8 ∧ st = pw) ∨ (8 < pw ∧ st = 8)) ∧ zz_s4 (fun k => zz_bk o (4 * k) (4 * k + 4 * n)) st (w / 4 - n) 0 r
theorem zz_g6r_mk {o : Nat → Int32} {w n r pw st z g : Int} (h1 : zz_lpw n pw) (h2 : zz_s4 (fun k => zz_bk o (4 * k) (4 * k + 4 * n)) st (g - n) z r) (hg : g = w / 4) (hz : z = 0) (hs : (pw ≤ 8 ∧ st = pw) ∨ (8 < pw ∧ st = 8)) : zz_g6r o w n r := by
  subst hz
  subst hg
  exact ⟨pw, st, h1, hs, h2⟩
theorem zz_ifr_cg {o : Nat → Int32} {a e a' e' r : Int} (h : zz_ifr o a e r) (ha : a' = a) (he : e' = e) : zz_ifr o a' e' r := by rw [ha, he]; exact h
theorem zz_bits_y {o : Nat → Int32} {a e r k n : Int} (h : zz_ifr o a e r) (hr : r ≠ 0) (ha : a = 4 * k) (he : e = 4 * k + 4 * n) : zz_bk o (4 * k) (4 * k + 4 * n) := by
  subst ha
  subst he
  exact zz_ifr_1 h hr
theorem zz_bits_n {o : Nat → Int32} {a e r k n : Int} (h : zz_ifr o a e r) (hr : r = 0) (ha : a = 4 * k) (he : e = 4 * k + 4 * n) : ¬ zz_bk o (4 * k) (4 * k + 4 * n) := by
  subst ha
  subst he
  exact zz_ifr_0 h hr
-- form 4
def zz_t4r (g g' : Nat → Int32) (w s r : Int) : Prop := zz_smp g w s r ∧ ((r = -1 ∧ g' = g) ∨ (0 ≤ r ∧ zz_sr (upd g r.toNat 0) g' r (g r.toNat).toInt s))
theorem zz_t4r_n {g : Nat → Int32} {w s r q : Int} (h : zz_smp g w s q) (hq : q = -1) (hr : r = -1) : zz_t4r g g w s r := ⟨by rw [hr, ← hq]; exact h, Or.inl ⟨hr, rfl⟩⟩
theorem zz_t4r_y {g g' : Nat → Int32} {w s q : Int} {r : Int32} (h : zz_smp g w s r.toInt) (hs : zz_sr (upd g r.toNatClampNeg ((0 : Int32))) g' r.toInt (g r.toNatClampNeg).toInt s) (hq : q = r.toInt) (hr : 0 ≤ r.toInt) : zz_t4r g g' w s q := by
  subst hq
  exact ⟨h, Or.inr ⟨hr, hs⟩⟩
-- form 8: sink, from entry x on
def zz_sk8 (st top p x : Int) (kp kg kg' : Nat → Int32) (st' top' : Int) : Prop := (∀ k : Nat, x ≤ (k : Int) → (k : Int) < st → ((kp k).toInt = p ∧ (kg' k).toInt ≠ 0) ∨ ((kp k).toInt ≠ p ∧ kg' k = kg k)) ∧ (∀ k : Nat, (k : Int) < x ∨ st ≤ (k : Int) → kg' k = kg k) ∧ zz_po8 st top kp kg' st' top'
theorem zz_sk8_end {st top p x st' top' : Int} {kp kg : Nat → Int32} (h : zz_po8 st top kp kg st' top') (hx : st ≤ x) : zz_sk8 st top p x kp kg kg st' top' := ⟨fun k h1 h2 => by omega, fun _ _ => rfl, h⟩
theorem zz_sk8_y {st top p x x' st' top' : Int} {kp kg kg' : Nat → Int32} {j : Nat} {v : Int32} (h : zz_sk8 st top p x' kp (upd kg j v) kg' st' top') (hj : (j : Int) = x) (hx : x' = x + 1) (hp : (kp j).toInt = p) (hl : x < st) (hv : v.toInt ≠ 0) : zz_sk8 st top p x kp kg kg' st' top' := by
  obtain ⟨h1, h2, h3⟩ := h
  refine ⟨fun k k1 k2 => ?_, fun k hk => ?_, h3⟩
  · by_cases c : k = j
    · subst c
      have e := h2 k (Or.inl (by omega))
      rw [zz_updE, if_pos rfl] at e
      exact Or.inl ⟨hp, by rw [e]; exact hv⟩
    · have e := h1 k (by omega) k2
      rw [zz_updE, if_neg c] at e
      exact e
  · by_cases c : k = j
    · subst c
      exfalso
      omega
    · have e := h2 k (by omega)
      rw [zz_updE, if_neg c] at e
      exact e
theorem zz_sk8_n {st top p x x' st' top' : Int} {kp kg kg' : Nat → Int32} {j : Nat} (h : zz_sk8 st top p x' kp kg kg' st' top') (hj : (j : Int) = x) (hx : x' = x + 1) (hp : (kp j).toInt ≠ p) : zz_sk8 st top p x kp kg kg' st' top' := by
  obtain ⟨h1, h2, h3⟩ := h
  refine ⟨fun k k1 k2 => ?_, fun k hk => h2 k (by omega), h3⟩
  by_cases c : k = j
  · subst c
    exact Or.inr ⟨hp, h2 k (Or.inl (by omega))⟩
  · exact h1 k (by omega) k2
-- form 4: join
theorem zz_bd (p s : Int32) (hp : 0 ≤ p.toInt) (hs : zz_p2 s.toInt) (hps : p.toInt + s.toInt ≤ 1024) : ((p / s).toInt % 2 = 0 ∧ (zz_bud p.toInt.toNat s.toInt.toNat : Int) = p.toInt + s.toInt) ∨ ((p / s).toInt % 2 = 1 ∧ s.toInt ≤ p.toInt ∧ (zz_bud p.toInt.toNat s.toInt.toNat : Int) = p.toInt - s.toInt) := by
  unfold zz_bud
  rcases hs with h | h | h | h | h | h | h | h | h | h | h
  · have f := zz_divP p s 1 h (by decide) hp
    rw [h, show ((1 : Int)).toNat = 1 from rfl]; split <;> omega
  · have f := zz_divP p s 2 h (by decide) hp
    rw [h, show ((2 : Int)).toNat = 2 from rfl]; split <;> omega
  · have f := zz_divP p s 4 h (by decide) hp
    rw [h, show ((4 : Int)).toNat = 4 from rfl]; split <;> omega
  · have f := zz_divP p s 8 h (by decide) hp
    rw [h, show ((8 : Int)).toNat = 8 from rfl]; split <;> omega
  · have f := zz_divP p s 16 h (by decide) hp
    rw [h, show ((16 : Int)).toNat = 16 from rfl]; split <;> omega
  · have f := zz_divP p s 32 h (by decide) hp
    rw [h, show ((32 : Int)).toNat = 32 from rfl]; split <;> omega
  · have f := zz_divP p s 64 h (by decide) hp
    rw [h, show ((64 : Int)).toNat = 64 from rfl]; split <;> omega
  · have f := zz_divP p s 128 h (by decide) hp
    rw [h, show ((128 : Int)).toNat = 128 from rfl]; split <;> omega
  · have f := zz_divP p s 256 h (by decide) hp
    rw [h, show ((256 : Int)).toNat = 256 from rfl]; split <;> omega
  · have f := zz_divP p s 512 h (by decide) hp
    rw [h, show ((512 : Int)).toNat = 512 from rfl]; split <;> omega
  · have f := zz_divP p s 1024 h (by decide) hp
    rw [h, show ((1024 : Int)).toNat = 1024 from rfl]; split <;> omega
def zz_z4 (g : Nat → Int32) (W : Int) : Prop := ∀ x : Nat, W ≤ (x : Int) → (x : Int) < 1024 → (g x).toInt = 0
theorem zz_z4_upd {g : Nat → Int32} {W : Int} {i : Nat} {v : Int32} (h : zz_z4 g W) (hi : (i : Int) < W) : zz_z4 (upd g i v) W := fun x h1 h2 => by
  rw [zz_updE, if_neg (by omega)]
  exact h x h1 h2
theorem zz_z4_lt {g : Nat → Int32} {W : Int} {i : Nat} (h : zz_z4 g W) (hi : (g i).toInt ≠ 0) (h2 : (i : Int) < 1024) : (i : Int) < W := by
  by_cases c : (i : Int) < W
  · exact c
  · exact absurd (h i (by omega) h2) hi
def zz_kp4 (g g' : Nat → Int32) (W : Int) : Prop := ∀ x : Nat, W ≤ (x : Int) → g' x = g x
theorem zz_kp4_1 {g : Nat → Int32} {W : Int} {i : Nat} {v : Int32} (hi : (i : Int) < W) : zz_kp4 g (upd g i v) W := fun x hx => by rw [zz_updE, if_neg (by omega)]
theorem zz_kp4_s {g g' : Nat → Int32} {W : Int} {i : Nat} {v : Int32} (h : zz_kp4 (upd g i v) g' W) (hi : (i : Int) < W) : zz_kp4 g g' W := fun x hx => by rw [h x hx, zz_updE, if_neg (by omega)]
theorem zz_P4_p2 {f : Nat → Int32} {W : Int} {x : Int32} (h : zz_P4 f W) (h0 : 0 ≤ x.toInt) (h1 : x.toInt < W) (hn : (f x.toNatClampNeg).toInt ≠ 0) : zz_p2 (f x.toNatClampNeg).toInt := by
  have e := zz_tnI x h0
  exact ((h x.toNatClampNeg (by omega)).resolve_left hn).1
-- form 5: the reference's pages G
def zz_cl5 (G G' o : Nat → Int32) (pg s r : Int) : Prop := (0 ≤ r ∧ G' = G ∧ zz_tp5 G (fun y => zz_bk o y (y + s)) pg s 0 r) ∨ (zz_tp5 G (fun y => zz_bk o y (y + s)) pg s 0 (-1) ∧ ∃ q : Int, zz_fr5 G pg 1 q ∧ ((q = -1 ∧ r = -1 ∧ G' = G) ∨ (0 ≤ q ∧ r = 32 * q ∧ ∃ (i : Nat) (v : Int32), (i : Int) = q ∧ v.toInt = s ∧ G' = upd G i v)))
/-- the first free page from x on -/
def zz_ne5 (G G' : Nat → Int32) (pg x : Int) (s : Int32) (r : Int) : Prop := (r = -1 ∧ G' = G ∧ ∀ p : Nat, x ≤ (p : Int) → (p : Int) < pg → (G p).toInt ≠ 0) ∨ ∃ i : Nat, x ≤ (i : Int) ∧ (i : Int) < pg ∧ (G i).toInt = 0 ∧ r = 32 * (i : Int) ∧ G' = upd G i s ∧ ∀ p : Nat, x ≤ (p : Int) → p < i → (G p).toInt ≠ 0
theorem zz_ne5_end {G : Nat → Int32} {pg x r : Int} {s : Int32} (h : pg ≤ x) (hr : r = -1) : zz_ne5 G G pg x s r := Or.inl ⟨hr, rfl, fun p h1 h2 => by omega⟩
theorem zz_ne5_hit {G : Nat → Int32} {pg x r : Int} {s : Int32} {i : Nat} (hi : (i : Int) = x) (hx : x < pg) (hz : (G i).toInt = 0) (hr : r = 32 * x) : zz_ne5 G (upd G i s) pg x s r := Or.inr ⟨i, by omega, by omega, hz, by omega, rfl, fun p h1 h2 => by omega⟩
theorem zz_ne5_next {G G' : Nat → Int32} {pg x x' r : Int} {s : Int32} {i : Nat} (h : zz_ne5 G G' pg x' s r) (hi : (i : Int) = x) (hx : x' = x + 1) (hz : (G i).toInt ≠ 0) : zz_ne5 G G' pg x s r := by
  rcases h with ⟨a1, a2, a3⟩ | ⟨j, a1, a2, a3, a4, a5, a6⟩
  · exact Or.inl ⟨a1, a2, fun p h1 h2 => by
      by_cases c : p = i
      · rw [c]; exact hz
      · exact a3 p (by omega) h2⟩
  · exact Or.inr ⟨j, by omega, a2, a3, a4, a5, fun p h1 h2 => by
      by_cases c : p = i
      · rw [c]; exact hz
      · exact a6 p (by omega) h2⟩
theorem zz_ne5_fr {G G' : Nat → Int32} {pg x r : Int} {s : Int32} (h : zz_ne5 G G' pg x s r) (hx : x = 0) : ∃ q : Int, zz_fr5 G pg 1 q ∧ ((q = -1 ∧ r = -1 ∧ G' = G) ∨ (0 ≤ q ∧ r = 32 * q ∧ ∃ (i : Nat) (v : Int32), (i : Int) = q ∧ v.toInt = s.toInt ∧ G' = upd G i v)) := by
  subst hx
  rcases h with ⟨a1, a2, a3⟩ | ⟨j, a1, a2, a3, a4, a5, a6⟩
  · exact ⟨-1, Or.inl ⟨rfl, fun q h1 h2 z => a3 q.toNat (by omega) (by omega) (z q.toNat (by omega) (by omega))⟩, Or.inl ⟨rfl, a1, a2⟩⟩
  · refine ⟨(j : Int), Or.inr ⟨by omega, by omega, fun p h1 h2 => ?_, fun q h1 h2 z => a6 q.toNat (by omega) (by omega) (z q.toNat (by omega) (by omega))⟩, Or.inr ⟨by omega, a4, j, s, rfl, rfl, a5⟩⟩
    have e : p = j := by omega
    rw [e]; exact a3
/-- classes, from page x on; y the place in it -/
def zz_ca5 (G G' o : Nat → Int32) (pg : Int) (s : Int32) (x r : Int) : Prop := (0 ≤ r ∧ G' = G ∧ zz_tp5 G (fun y => zz_bk o y (y + s.toInt)) pg s.toInt x r) ∨ (zz_tp5 G (fun y => zz_bk o y (y + s.toInt)) pg s.toInt x (-1) ∧ zz_ne5 G G' pg 0 s r)
theorem zz_ca5_end {G G' o : Nat → Int32} {pg x r : Int} {s : Int32} {z : Int} (h : zz_ne5 G G' pg z s r) (hz : z = 0) (hx : pg ≤ x) : zz_ca5 G G' o pg s x r := by
  subst hz
  exact Or.inr ⟨zz_tp5_end hx rfl, h⟩
theorem zz_ca5_skip {G G' o : Nat → Int32} {pg x x' r : Int} {s : Int32} {i : Nat} (h : zz_ca5 G G' o pg s x' r) (hi : (i : Int) = x) (hx : x' = x + 1) (hc : (G i).toInt ≠ s.toInt ∨ zz_fp5 (fun y => zz_bk o y (y + s.toInt)) x s.toInt (-1)) : zz_ca5 G G' o pg s x r := by
  rcases h with ⟨a, b, c⟩ | ⟨a, b⟩
  · exact Or.inl ⟨a, b, zz_tp5_skip c hi hx hc⟩
  · exact Or.inr ⟨zz_tp5_skip a hi hx hc, b⟩
/-! words of the reference's pages, quick rows, find, give, back: all forms -/
-- form 5
def zz_nq5 (F : Int → Prop) (p s x : Int) : Prop := ∀ r, zz_fq5 F p s x r → zz_fp5 F p s r
theorem zz_nq5_0 {F : Int → Prop} {p s x : Int} (hx : x = 32 * p) : zz_nq5 F p s x := fun _ h => zz_fq5_all h hx
theorem zz_nq5_step {F : Int → Prop} {p s x x' : Int} (h : zz_nq5 F p s x) (hx : x' = x + s) (hF : ¬ F x) (h0 : 32 * p ≤ x) (hs : 1 ≤ s) (hm : (x - 32 * p) % s = 0) : zz_nq5 F p s x' := fun r g => h r (zz_fq5_next g hx hF h0 hs hm)
theorem zz_nq5_hit {F : Int → Prop} {p s x : Int} (h : zz_nq5 F p s x) (hF : F x) (h0 : 32 * p ≤ x) (h1 : x < 32 * p + 32) (hm : (x - 32 * p) % s = 0) : zz_fp5 F p s x := h x (zz_fq5_hit hF h0 h1 hm rfl)
theorem zz_nq5_m {F : Int → Prop} {p s x : Int} (h : zz_nq5 F p s x) (hx : 32 * p + 32 ≤ x) : zz_fp5 F p s (-1) := h (-1) (zz_fq5_end hx rfl)
theorem zz_ca5_hit {G o : Nat → Int32} {pg x r : Int} {s : Int32} {i : Nat} (hf : zz_fp5 (fun y => zz_bk o y (y + s.toInt)) x s.toInt r) (hi : (i : Int) = x) (hx : x < pg) (hs : (G i).toInt = s.toInt) (hr : 0 ≤ r) : zz_ca5 G G o pg s x r := Or.inl ⟨hr, rfl, zz_tp5_hit hi hx hs hf hr⟩
theorem zz_ca5_c {G G' o : Nat → Int32} {pg x r : Int} {s : Int32} (h : zz_ca5 G G' o pg s x r) (hx : x = 0) : zz_cl5 G G' o pg s.toInt r := by
  subst hx
  rcases h with h | ⟨h, g⟩
  · exact Or.inl h
  · exact Or.inr ⟨h, zz_ne5_fr g rfl⟩
/-- rowOfPages -/
def zz_rw5 (G G' : Nat → Int32) (pg n r : Int) : Prop := ∃ q : Int, zz_fr5 G pg n q ∧ ((q = -1 ∧ r = -1 ∧ G' = G) ∨ (0 ≤ q ∧ r = 32 * q ∧ zz_wr G G' q (q + n) 64))
theorem zz_rw5_n {G : Nat → Int32} {pg n r : Int} (h : zz_fr5 G pg n (-1)) (hr : r = -1) : zz_rw5 G G pg n r := ⟨-1, h, Or.inl ⟨rfl, hr, rfl⟩⟩
theorem zz_rw5_y {G G' : Nat → Int32} {pg n r q a e : Int} (h : zz_fr5 G pg n q) (hG : zz_wr G G' a e 64) (hq : 0 ≤ q) (hr : r = 32 * q) (ha : a = q) (he : e = q + n) : zz_rw5 G G' pg n r := by
  subst ha
  subst he
  exact ⟨a, h, Or.inr ⟨hq, hr, hG⟩⟩
theorem zz_rw5_cg {G G' : Nat → Int32} {pg n n' r : Int} (h : zz_rw5 G G' pg n r) (e : n' = n) : zz_rw5 G G' pg n' r := by rw [e]; exact h
/-- freePages -/
def zz_fb5 (G G' o : Nat → Int32) (p n : Int) : Prop := (n ≤ 32 ∧ ∃ i : Nat, (i : Int) = p / 32 ∧ ((zz_bk o (32 * (i : Int)) (32 * (i : Int) + 32) ∧ G' = upd G i 0) ∨ (¬ zz_bk o (32 * (i : Int)) (32 * (i : Int) + 32) ∧ G' = G))) ∨ (32 < n ∧ zz_wr G G' (p / 32) ((p + n) / 32) 0)
theorem zz_fb5_y {G o : Nat → Int32} {p n a e r : Int} {i : Nat} (h : zz_ifr o a e r) (hr : r ≠ 0) (hn : n ≤ 32) (hi : (i : Int) = p / 32) (ha : a = 32 * (i : Int)) (he : e = 32 * (i : Int) + 32) : zz_fb5 G (upd G i 0) o p n := by
  have := zz_ifr_1 h hr
  rw [ha, he] at this
  exact Or.inl ⟨hn, i, hi, Or.inl ⟨this, rfl⟩⟩
theorem zz_fb5_n {G o : Nat → Int32} {p n a e r : Int} {i : Nat} (h : zz_ifr o a e r) (hr : r = 0) (hn : n ≤ 32) (hi : (i : Int) = p / 32) (ha : a = 32 * (i : Int)) (he : e = 32 * (i : Int) + 32) : zz_fb5 G G o p n := by
  have := zz_ifr_0 h hr
  rw [ha, he] at this
  exact Or.inl ⟨hn, i, hi, Or.inr ⟨this, rfl⟩⟩
theorem zz_fb5_b {G G' o : Nat → Int32} {p n a e : Int} (h : zz_wr G G' a e 0) (hn : 32 < n) (ha : a = p / 32) (he : e = (p + n) / 32) : zz_fb5 G G' o p n := by
  subst ha
  subst he
  exact Or.inr ⟨hn, h⟩
-- form 9
theorem zz_Q9_at {o qk qm : Nat → Int32} {s a b c : Int} {i j m : Nat} (h : zz_Q9 o qk qm s) (hs : s = a) (h1 : 1 ≤ a) (h8 : a ≤ 8) (hj : (j : Int) = 1024 * a + b) (hm : (m : Int) = a) (hb : 0 ≤ b) (hq : b < (qm m).toInt) (hi : (i : Int) = (qk j).toInt + c) (h0 : 0 ≤ c) (hc : c < a) : (o i).toInt = -2 ∨ (o i).toInt = -1 := by
  have e : 1024 * m + b.toNat = j := by omega
  refine h m b.toNat i (by omega) (by omega) (by omega) (by omega) ?_ ?_
  · rw [e]; omega
  · rw [e]; omega
theorem zz_Q9_row {o qk qm : Nat → Int32} {s s' : Int} {i : Nat} {v : Int32} (h : zz_Q9 o qk qm s) (hi : (i : Int) = s) (hs : s' = s + 1) : zz_Q9 o qk (upd qm i v) s' := zz_Q9_next h (by omega) (fun j hj => by rw [zz_updE, if_neg (by omega)])
theorem zz_Q9_cg {o qk qm : Nat → Int32} {s s' : Int} (h : zz_Q9 o qk qm s) (hs : s' = s) : zz_Q9 o qk qm s' := by rw [hs]; exact h
theorem zz_E9_rowu {o o' qk qm : Nat → Int32} {s s' k x : Int} {i : Nat} {v : Int32} (h : zz_E9 o o' qk (upd qm i v) s' 0 0) (hi : (i : Int) = s) (hs : s' = s + 1) (hk : (qm i).toInt ≤ k) : zz_E9 o o' qk qm s k x := zz_E9_row h hs (by omega) (by rw [show s.toNat = i by omega]; exact hk) (fun j hj => by rw [zz_updE, if_neg (by omega)])
def zz_zq9 (qm qm' : Nat → Int32) (a : Int) : Prop := (∀ j : Nat, a ≤ (j : Int) → j < 9 → (qm' j).toInt = 0) ∧ ∀ j : Nat, (j : Int) < a → qm' j = qm j
theorem zz_zq9_end {qm : Nat → Int32} {a : Int} (ha : 9 ≤ a) : zz_zq9 qm qm a := ⟨fun j h1 h2 => by omega, fun _ _ => rfl⟩
theorem zz_zq9_row {qm qm' : Nat → Int32} {a a' : Int} {i : Nat} {v : Int32} (h : zz_zq9 (upd qm i v) qm' a') (hi : (i : Int) = a) (ha : a' = a + 1) (hv : v.toInt = 0) : zz_zq9 qm qm' a := by
  refine ⟨fun j h1 h2 => ?_, fun j hj => ?_⟩
  · by_cases c : j = i
    · subst c
      rw [h.2 j (by omega), zz_updE, if_pos rfl]
      exact hv
    · exact h.1 j (by omega) h2
  · rw [h.2 j (by omega), zz_updE, if_neg (by omega)]
/-- what quick does: the first of its row, or a first fit, or one after all quick ones became free -/
def zz_qr9 (w : Int) (o o' qk qk' qm qm' : Nat → Int32) (n r : Int) : Prop := (n ≤ 8 ∧ o' = o ∧ ∃ i : Nat, (i : Int) = n ∧ 0 < (qm i).toInt ∧ r = (qk (1024 * i)).toInt ∧ zz_FL qk qk' n 0 ((qm i).toInt - 1) ∧ (qm' i).toInt = (qm i).toInt - 1 ∧ ∀ j : Nat, j ≠ i → qm' j = qm j) ∨ ((8 < n ∨ (qm n.toNat).toInt ≤ 0) ∧ qk' = qk ∧ ((0 ≤ r ∧ o' = o ∧ qm' = qm ∧ zz_ff w o n 0 w r) ∨ (zz_ff w o n 0 w (-1) ∧ zz_E9 o o' qk qm 1 0 0 ∧ zz_zq9 qm qm' 1 ∧ zz_ff w o' n 0 w r)))
theorem zz_qr9_a {w : Int} {o qk qk' qm : Nat → Int32} {n a r q : Int} {i j : Nat} {v : Int32} (h : zz_FL qk qk' a 0 q) (ha : a = n) (hn : n ≤ 8) (hi : (i : Int) = n) (hq : 0 < (qm i).toInt) (hv : v.toInt = (qm i).toInt - 1) (hqq : q = v.toInt) (hj : (j : Int) = 1024 * n) (hr : r = (qk j).toInt) : zz_qr9 w o o qk qk' qm (upd qm i v) n r := by
  subst ha
  refine Or.inl ⟨hn, rfl, i, hi, hq, ?_, ?_, ?_, fun k hk => ?_⟩
  · rw [show 1024 * i = j by omega]; exact hr
  · rw [← hv, ← hqq]; exact h
  · rw [zz_updE, if_pos rfl]; exact hv
  · rw [zz_updE, if_neg hk]
theorem zz_qr9_b {w : Int} {o qk qm : Nat → Int32} {n r a : Int} (hf : zz_ff w o n a w r) (ha : a = 0) (hr : 0 ≤ r) (hc : 8 < n ∨ ∃ i : Nat, (i : Int) = n ∧ (qm i).toInt ≤ 0) : zz_qr9 w o o qk qk qm qm n r := by
  subst ha
  refine Or.inr ⟨?_, rfl, Or.inl ⟨hr, rfl, rfl, hf⟩⟩
  rcases hc with c | ⟨i, i1, i2⟩
  · exact Or.inl c
  · exact Or.inr (by rw [show n.toNat = i by omega]; exact i2)
theorem zz_qr9_c {w w' : Int} {o o' qk qm qm' : Nat → Int32} {n r r0 a b : Int} (hf : zz_ff w o n a w r0) (hr0 : r0 = -1) (hE : zz_E9 o o' qk qm 1 0 0) (hz : zz_zq9 qm qm' 1) (hg : zz_ff w o' n b w' r) (ha : a = 0) (hb : b = 0) (hw : w' = w) (hc : 8 < n ∨ ∃ i : Nat, (i : Int) = n ∧ (qm i).toInt ≤ 0) : zz_qr9 w o o' qk qk qm qm' n r := by
  subst ha hb hw hr0
  refine Or.inr ⟨?_, rfl, Or.inr ⟨hf, hE, hz, hg⟩⟩
  rcases hc with c | ⟨i, i1, i2⟩
  · exact Or.inl c
  · exact Or.inr (by rw [show n.toNat = i by omega]; exact i2)
-- find
/-- what must hold ahead of a call, by the form -/
def zz_PR (f w W : Int) (o g qk qm : Nat → Int32) : Prop := (f = 4 → zz_P4 g 1024 ∧ zz_p2 W ∧ zz_z4 g W) ∧ (f = 9 → zz_Q9 o qk qm 1)
def zz_FA (f w le tp pg : Int) (o o' g g' G G' li lm li' lm' qk qk' qm qm' : Nat → Int32) (n sp : Int32) (r : Int) : Prop :=
  (0 ≤ f ∧ f ≤ 3 ∧ o' = o ∧ sp = n ∧ zz_pl f w o le n.toInt r) ∨
  (f = 4 ∧ o' = o ∧ zz_lpw n.toInt sp.toInt ∧ zz_t4r g g' w sp.toInt r) ∨
  (f = 5 ∧ o' = o ∧ zz_s5 n.toInt sp.toInt ∧ ((sp.toInt ≤ 32 ∧ zz_ca5 G G' o pg sp 0 r) ∨ (32 < sp.toInt ∧ zz_rw5 G G' pg (sp.toInt / 32) r))) ∨
  (f = 6 ∧ o' = o ∧ sp.toInt = (n.toInt + 3) / 4 * 4 ∧ zz_g6r o w (sp.toInt / 4) r) ∨
  (f = 7 ∧ o' = o ∧ sp = n ∧ zz_lx w o li lm li' lm' n.toNatClampNeg r) ∨
  (f = 8 ∧ o' = o ∧ sp = n ∧ ((w < tp + n.toInt ∧ r = -1) ∨ (tp + n.toInt ≤ w ∧ r = tp))) ∨
  (f = 9 ∧ sp = n ∧ zz_qr9 w o o' qk qk' qm qm' n.toInt r)
theorem zz_FA_0 {f w le tp pg : Int} {o g g' G G' li lm li' lm' qk qk' qm qm' : Nat → Int32} {n : Int32} {r : Int} {a b c : Int} (h : zz_ff w o a b c r) (hf : f = 0) (ha : a = n.toInt) (hb : b = 0) (hc : c = w) : zz_FA f w le tp pg o o g g' G G' li lm li' lm' qk qk' qm qm' n n r := by
  subst ha hb hc
  exact Or.inl ⟨by omega, by omega, rfl, rfl, Or.inl ⟨hf, h⟩⟩
theorem zz_FA_1a {f w le tp pg : Int} {o g g' G G' li lm li' lm' qk qk' qm qm' : Nat → Int32} {n : Int32} {r : Int} {a b c : Int} (h : zz_ff w o a b c r) (hf : f = 1) (hr : 0 ≤ r) (ha : a = n.toInt) (hb : b = le) (hc : c = w) : zz_FA f w le tp pg o o g g' G G' li lm li' lm' qk qk' qm qm' n n r := by
  subst ha hb hc
  exact Or.inl ⟨by omega, by omega, rfl, rfl, Or.inr (Or.inl ⟨hf, Or.inl ⟨hr, h⟩⟩)⟩
theorem zz_FA_1b {f w le tp pg : Int} {o g g' G G' li lm li' lm' qk qk' qm qm' : Nat → Int32} {n : Int32} {r : Int} {a b c a' b' c' q : Int} (h : zz_ff w o a b c q) (h2 : zz_ff w o a' b' c' r) (hf : f = 1) (hq : q = -1) (ha : a = n.toInt) (hb : b = le) (hc : c = w) (ha' : a' = n.toInt) (hb' : b' = 0) (hc' : c' = le) : zz_FA f w le tp pg o o g g' G G' li lm li' lm' qk qk' qm qm' n n r := by
  subst ha hb hc hq hb' hc'
  rw [ha'] at h2
  exact Or.inl ⟨by omega, by omega, rfl, rfl, Or.inr (Or.inl ⟨hf, Or.inr ⟨h, h2⟩⟩)⟩
theorem zz_FA_23 {f w le tp pg : Int} {o g g' G G' li lm li' lm' qk qk' qm qm' : Nat → Int32} {n : Int32} {r : Int} {a : Int} (h : zz_bf (f = 2) w o a r) (hf : f = 2 ∨ f = 3) (ha : a = n.toInt) : zz_FA f w le tp pg o o g g' G G' li lm li' lm' qk qk' qm qm' n n r := by
  subst ha
  exact Or.inl ⟨by omega, by omega, rfl, rfl, zz_pl_bf hf h⟩
theorem zz_FA_4 {f w le tp pg : Int} {o g g' G G' li lm li' lm' qk qk' qm qm' : Nat → Int32} {n sp : Int32} {r : Int} (h : zz_lpw n.toInt sp.toInt) (h2 : zz_t4r g g' w sp.toInt r) (hf : f = 4) : zz_FA f w le tp pg o o g g' G G' li lm li' lm' qk qk' qm qm' n sp r := Or.inr (Or.inl ⟨hf, rfl, h, h2⟩)
theorem zz_FA_5a {f w le tp pg : Int} {o g g' G G' li lm li' lm' qk qk' qm qm' : Nat → Int32} {n sp : Int32} {r : Int} (h : zz_lpw n.toInt sp.toInt) (h2 : zz_ca5 G G' o pg sp 0 r) (hf : f = 5) (hn : n.toInt ≤ 32) (hs : sp.toInt ≤ 32) : zz_FA f w le tp pg o o g g' G G' li lm li' lm' qk qk' qm qm' n sp r := Or.inr (Or.inr (Or.inl ⟨hf, rfl, Or.inl ⟨hn, h⟩, Or.inl ⟨hs, h2⟩⟩))
theorem zz_FA_5b {f w le tp pg : Int} {o g g' G G' li lm li' lm' qk qk' qm qm' : Nat → Int32} {n sp : Int32} {r : Int} {m : Int} (h2 : zz_rw5 G G' pg m r) (hf : f = 5) (hn : 32 < n.toInt) (hs : sp.toInt = (n.toInt + 31) / 32 * 32) (hm : m = sp.toInt / 32) : zz_FA f w le tp pg o o g g' G G' li lm li' lm' qk qk' qm qm' n sp r := by
  subst hm
  exact Or.inr (Or.inr (Or.inl ⟨hf, rfl, Or.inr ⟨hn, hs⟩, Or.inr ⟨by omega, h2⟩⟩))
theorem zz_FA_6 {f w le tp pg : Int} {o g g' G G' li lm li' lm' qk qk' qm qm' : Nat → Int32} {n sp : Int32} {r : Int} {m : Int} (h2 : zz_g6r o w m r) (hf : f = 6) (hs : sp.toInt = (n.toInt + 3) / 4 * 4) (hm : m = sp.toInt / 4) : zz_FA f w le tp pg o o g g' G G' li lm li' lm' qk qk' qm qm' n sp r := by
  subst hm
  exact Or.inr (Or.inr (Or.inr (Or.inl ⟨hf, rfl, hs, h2⟩)))
theorem zz_FA_7 {f w le tp pg : Int} {o g g' G G' li lm li' lm' qk qk' qm qm' : Nat → Int32} {n : Int32} {r : Int} (h : zz_lx w o li lm li' lm' n.toNatClampNeg r) (hf : f = 7) : zz_FA f w le tp pg o o g g' G G' li lm li' lm' qk qk' qm qm' n n r := Or.inr (Or.inr (Or.inr (Or.inr (Or.inl ⟨hf, rfl, rfl, h⟩))))
theorem zz_FA_8 {f w le tp pg : Int} {o g g' G G' li lm li' lm' qk qk' qm qm' : Nat → Int32} {n : Int32} {r : Int} (h : (w < tp + n.toInt ∧ r = -1) ∨ (tp + n.toInt ≤ w ∧ r = tp)) (hf : f = 8) : zz_FA f w le tp pg o o g g' G G' li lm li' lm' qk qk' qm qm' n n r := Or.inr (Or.inr (Or.inr (Or.inr (Or.inr (Or.inl ⟨hf, rfl, rfl, h⟩)))))
theorem zz_FA_9 {f w le tp pg : Int} {o o' g g' G G' li lm li' lm' qk qk' qm qm' : Nat → Int32} {n : Int32} {r : Int} (h : zz_qr9 w o o' qk qk' qm qm' n.toInt r) (hf : f = 9) : zz_FA f w le tp pg o o' g g' G G' li lm li' lm' qk qk' qm qm' n n r := Or.inr (Or.inr (Or.inr (Or.inr (Or.inr (Or.inr ⟨hf, rfl, h⟩)))))
theorem zz_PR_4 {f w W : Int} {o g qk qm : Nat → Int32} (h : zz_PR f w W o g qk qm) (hf : f = 4) : zz_P4 g 1024 := (h.1 hf).1
theorem zz_PR_4p {f w W : Int} {o g qk qm : Nat → Int32} (h : zz_PR f w W o g qk qm) (hf : f = 4) : zz_p2 W := (h.1 hf).2.1
theorem zz_PR_4z {f w W : Int} {o g qk qm : Nat → Int32} (h : zz_PR f w W o g qk qm) (hf : f = 4) : zz_z4 g W := (h.1 hf).2.2
theorem zz_PR_9 {f w W : Int} {o g qk qm : Nat → Int32} (h : zz_PR f w W o g qk qm) (hf : f = 9) : zz_Q9 o qk qm 1 := h.2 hf
-- give: what it leaves of lastEnd and the stack
def zz_SK (f x n s : Int) (le le' tp tp' st st' : Int) (kp ks kg kp' ks' kg' : Nat → Int32) (xv sv : Int32) : Prop := le' = x + s ∧ ((f = 8 ∧ tp' = x + n ∧ st' = st + 1 ∧ kp' = upd kp st.toNat xv ∧ ks' = upd ks st.toNat sv ∧ kg' = upd kg st.toNat 0) ∨ (f ≠ 8 ∧ tp' = tp ∧ st' = st ∧ kp' = kp ∧ ks' = ks ∧ kg' = kg))
theorem zz_SK_8 {f x n s le le' tp tp' st st' : Int} {kp ks kg : Nat → Int32} {xv sv z : Int32} {i : Nat} (hl : le' = x + s) (hf : f = 8) (ht : tp' = x + n) (hs : st' = st + 1) (hi : (i : Int) = st) (hz : z = 0) : zz_SK f x n s le le' tp tp' st st' kp ks kg (upd kp i xv) (upd ks i sv) (upd kg i z) xv sv := by
  subst hz
  have e : st.toNat = i := by omega
  exact ⟨hl, Or.inl ⟨hf, ht, hs, by rw [e], by rw [e], by rw [e]⟩⟩
theorem zz_SK_n {f x n s le le' tp st : Int} {kp ks kg : Nat → Int32} {xv sv : Int32} (hl : le' = x + s) (hf : f ≠ 8) : zz_SK f x n s le le' tp tp st st kp ks kg kp ks kg xv sv := ⟨hl, Or.inr ⟨hf, rfl, rfl, rfl, rfl, rfl⟩⟩
-- back: what becomes of the form (q the owners' new value)
def zz_BA (f W pg : Int) (o' g g' G G' li lm li' lm' : Nat → Int32) (w tp tp' st st' : Int) (kp kg kg' qk qk' qm qm' : Nat → Int32) (p s q : Int32) : Prop :=
  (0 ≤ f ∧ f ≤ 3 ∧ q.toInt = -1) ∨ (f = 4 ∧ q.toInt = -1 ∧ zz_jr W g g' p.toInt s.toInt ∧ zz_kp4 g g' W) ∨ (f = 5 ∧ q.toInt = -1 ∧ zz_fb5 G G' o' p.toInt s.toInt) ∨ (f = 6 ∧ q.toInt = -1) ∨ (f = 7 ∧ q.toInt = -1 ∧ zz_jx w o' li lm li' lm' p.toInt s.toInt) ∨ (f = 8 ∧ q.toInt = -1 ∧ zz_sk8 st tp p.toInt 0 kp kg kg' st' tp') ∨ (f = 9 ∧ 8 < s.toInt ∧ q.toInt = -1 ∧ qk' = qk ∧ qm' = qm) ∨ (f = 9 ∧ s.toInt ≤ 8 ∧ q.toInt = -2 ∧ ∃ i : Nat, (i : Int) = s.toInt ∧ zz_TL qk qk' s.toInt (qm i).toInt p ∧ (qm' i).toInt = (qm i).toInt + 1 ∧ ∀ j : Nat, j ≠ i → qm' j = qm j)
def zz_TQ (qk qk' qm qm' : Nat → Int32) (p s : Int32) (k : Int) : Prop := ∃ i : Nat, (i : Int) = s.toInt ∧ zz_TL qk qk' s.toInt k p ∧ (qm' i).toInt = (qm i).toInt + 1 ∧ ∀ j : Nat, j ≠ i → qm' j = qm j
theorem zz_TQ_nil {qk qm : Nat → Int32} {p s v : Int32} {k : Int} {i j : Nat} (hk : k ≤ 0) (hj : (j : Int) = 1024 * s.toInt) (hi : (i : Int) = s.toInt) (hv : v.toInt = (qm i).toInt + 1) : zz_TQ qk (upd qk j p) qm (upd qm i v) p s k := ⟨i, hi, zz_TL_nil hk hj, by rw [zz_updE, if_pos rfl]; exact hv, fun a ha => by rw [zz_updE, if_neg ha]⟩
theorem zz_TQ_step {qk qk' qm qm' : Nat → Int32} {p s : Int32} {k k' : Int} {i j : Nat} (h : zz_TQ (upd qk i (qk j)) qk' qm qm' p s k') (hk : 0 < k) (hk' : k' = k - 1) (hi : (i : Int) = 1024 * s.toInt + k) (hj : (j : Int) = 1024 * s.toInt + k - 1) : zz_TQ qk qk' qm qm' p s k := by
  obtain ⟨a, a1, a2, a3, a4⟩ := h
  exact ⟨a, a1, zz_TL_step a2 hk hk' hi hj, a3, a4⟩
theorem zz_TQ_at {qk qk' qm qm' : Nat → Int32} {p s : Int32} {k : Int} {i : Nat} (h : zz_TQ qk qk' qm qm' p s k) (hi : (i : Int) = s.toInt) (hk : k = (qm i).toInt) : ∃ i : Nat, (i : Int) = s.toInt ∧ zz_TL qk qk' s.toInt (qm i).toInt p ∧ (qm' i).toInt = (qm i).toInt + 1 ∧ ∀ j : Nat, j ≠ i → qm' j = qm j := by
  obtain ⟨a, a1, a2, a3, a4⟩ := h
  have e : a = i := by omega
  subst e
  rw [hk] at a2
  exact ⟨a, a1, a2, a3, a4⟩
/-- the words that a back changes, from a on; P what became of the form -/
def zz_BL (x : Int) (o o' : Nat → Int32) (a e : Int) (P : Int32 → Prop) : Prop := ∃ q : Int32, ((x = 0 ∧ q = -1) ∨ (x ≠ 0 ∧ q = -2)) ∧ zz_wr o o' a e q ∧ P q
theorem zz_BL_0 {x a e : Int} {o : Nat → Int32} {P : Int32 → Prop} (hx : x = 0) (ha : e ≤ a) (hP : P (-1)) : zz_BL x o o a e P := ⟨-1, Or.inl ⟨hx, rfl⟩, zz_wr_nil ha, hP⟩
theorem zz_BL_1 {x a e : Int} {o : Nat → Int32} {P : Int32 → Prop} (hx : x ≠ 0) (ha : e ≤ a) (hP : P (-2)) : zz_BL x o o a e P := ⟨-2, Or.inr ⟨hx, rfl⟩, zz_wr_nil ha, hP⟩
theorem zz_BL_step {x a a' e : Int} {o o' : Nat → Int32} {P : Int32 → Prop} {i : Nat} {v : Int32} (h : zz_BL x (upd o i v) o' a' e P) (hv : (x = 0 ∧ v = -1) ∨ (x ≠ 0 ∧ v = -2)) (hi : (i : Int) = a) (ha : a' = a + 1) (he : a < e) : zz_BL x o o' a e P := by
  obtain ⟨q, q1, q2, q3⟩ := h
  have e : q = v := by
    rcases q1 with ⟨a, b⟩ | ⟨a, b⟩ <;> rcases hv with ⟨c, d⟩ | ⟨c, d⟩
    · rw [b, d]
    · exact absurd a c
    · exact absurd c a
    · rw [b, d]
  subst e
  exact ⟨q, q1, zz_wr_step q2 hi ha he, q3⟩
def zz_PL (f W : Int) (g : Nat → Int32) (p s : Int) : Prop := f = 4 → zz_p2 W ∧ zz_z4 g W ∧ p + s ≤ W
theorem zz_PL_p {f W p s : Int} {g : Nat → Int32} (h : zz_PL f W g p s) (hf : f = 4) : zz_p2 W := (h hf).1
theorem zz_PL_z {f W p s : Int} {g : Nat → Int32} (h : zz_PL f W g p s) (hf : f = 4) : zz_z4 g W := (h hf).2.1
theorem zz_PL_l {f W p s : Int} {g : Nat → Int32} (h : zz_PL f W g p s) (hf : f = 4) : p + s ≤ W := (h hf).2.2
def zz_PB (f w W : Int) (o nu pl sp g : Nat → Int32) : Prop := f = 4 → zz_p2 W ∧ zz_z4 g W ∧ ∀ b : Nat, b < 200 → zz_us w o nu pl b → (pl b).toInt + (sp b).toInt ≤ W
theorem zz_PB_L {f w W x : Int} {o nu pl sp g : Nat → Int32} {b v : Int32} (h : zz_PB f w W o nu pl sp g) (hb : zz_box w o nu pl v x) (hx : x = b.toInt) (h0 : 0 ≤ b.toInt) : zz_PL f W g (pl b.toNatClampNeg).toInt (sp b.toNatClampNeg).toInt := fun hf => by
  obtain ⟨h1, h2, h3⟩ := h hf
  rcases hb with ⟨c, _⟩ | ⟨_, c2, _, c4⟩
  · omega
  · have e : x.toNat = b.toNatClampNeg := by have := zz_tnI b h0; omega
    rw [e] at c4
    exact ⟨h1, h2, h3 _ (by omega) c4⟩
theorem zz_BF_n {th w bl r x : Int} {p1 : Int32} {o nu pl sp : Nat → Int32} {SM : Prop} {TB : Int32 → Int32 → Int32 → Prop} (h : zz_box w o nu pl (p1 + ((1 : Int32))) x) (hx : x < 0 ∨ p1.toInt < 0) (ht : th = 2) (hS : SM) : zz_BF th p1 w bl o nu pl sp r bl o nu SM TB := by
  refine Or.inl ⟨ht, ?_, rfl, rfl, rfl, hS⟩
  rcases hx with c | c
  · rcases h with ⟨_, h⟩ | ⟨h, _⟩
    · exact Or.inr h
    · omega
  · exact Or.inl c
theorem zz_BF_y {th w bl r bl' y : Int} {p1 x : Int32} {o nu pl sp o' nu' : Nat → Int32} {SM : Prop} {TB : Int32 → Int32 → Int32 → Prop} (h : zz_box w o nu pl (p1 + ((1 : Int32))) x.toInt) (hx : 0 ≤ x.toInt) (hp : 0 ≤ p1.toInt) (ht : th = 0) (hr : r = (pl x.toNatClampNeg).toInt) (hb : bl' = bl - 1) (hw : zz_BL y o o' (pl x.toNatClampNeg).toInt ((pl x.toNatClampNeg).toInt + (sp x.toNatClampNeg).toInt) (fun q => TB (pl x.toNatClampNeg) (sp x.toNatClampNeg) q)) (hn : nu' = upd nu x.toNatClampNeg 0) : zz_BF th p1 w bl o nu pl sp r bl' o' nu' SM TB := by
  obtain ⟨q, q1, q2, q3⟩ := hw
  rcases h with ⟨c, _⟩ | ⟨_, c2, c3, c4⟩
  · omega
  · have e : x.toInt.toNat = x.toNatClampNeg := by have := zz_tnI x hx; omega
    rw [e] at c3 c4
    refine Or.inr ⟨ht, hp, x.toNatClampNeg, q, by omega, c3, c4, hr, hb, ?_, q2, hn, q3⟩
    rcases q1 with ⟨_, d⟩ | ⟨_, d⟩
    · exact Or.inl (by rw [d]; decide)
    · exact Or.inr (by rw [d]; decide)
-- about, at, run
def zz_AF (th : Int) (p1 : Int32) (p2 r w : Int) (o nu pl sp as : Nat → Int32) : Prop := (th = 1 ∧ (p2 < 0 ∨ 2 < p2)) ∨ (0 ≤ p2 ∧ p2 ≤ 2 ∧ ((th = 3 ∧ (p1.toInt < 0 ∨ zz_nk w o nu pl (p1 + ((1 : Int32))) 200)) ∨ (th = 0 ∧ 0 ≤ p1.toInt ∧ ∃ b : Nat, b < 200 ∧ nu b = p1 + ((1 : Int32)) ∧ zz_us w o nu pl b ∧ ((p2 = 0 ∧ r = (pl b).toInt) ∨ (p2 = 1 ∧ r = (sp b).toInt) ∨ (p2 = 2 ∧ r = (as b).toInt)))))
theorem zz_AF_n {th p2 r w x : Int} {p1 : Int32} {o nu pl sp as : Nat → Int32} (h : zz_box w o nu pl (p1 + ((1 : Int32))) x) (hx : x < 0 ∨ p1.toInt < 0) (ht : th = 3) (h0 : 0 ≤ p2) (h2 : p2 ≤ 2) : zz_AF th p1 p2 r w o nu pl sp as := by
  refine Or.inr ⟨h0, h2, Or.inl ⟨ht, ?_⟩⟩
  rcases hx with c | c
  · rcases h with ⟨_, h⟩ | ⟨h, _⟩
    · exact Or.inr h
    · omega
  · exact Or.inl c
theorem zz_AF_y {th p2 r w : Int} {p1 x : Int32} {o nu pl sp as : Nat → Int32} (h : zz_box w o nu pl (p1 + ((1 : Int32))) x.toInt) (hx : 0 ≤ x.toInt) (hp : 0 ≤ p1.toInt) (ht : th = 0) (hr : (p2 = 0 ∧ r = (pl x.toNatClampNeg).toInt) ∨ (p2 = 1 ∧ r = (sp x.toNatClampNeg).toInt) ∨ (p2 = 2 ∧ r = (as x.toNatClampNeg).toInt)) : zz_AF th p1 p2 r w o nu pl sp as := by
  rcases h with ⟨c, _⟩ | ⟨_, c2, c3, c4⟩
  · omega
  · have e : x.toInt.toNat = x.toNatClampNeg := by have := zz_tnI x hx; omega
    rw [e] at c3 c4
    exact Or.inr ⟨by omega, by omega, Or.inr ⟨ht, hp, x.toNatClampNeg, by omega, c3, c4, hr⟩⟩
def zz_TF (th : Int) (p1 : Int32) (r : Int) (w : Int) (o nu : Nat → Int32) : Prop := (th = 1 ∧ (p1.toInt < 0 ∨ w ≤ p1.toInt)) ∨ (th = 0 ∧ 0 ≤ p1.toInt ∧ p1.toInt < w ∧ (((o p1.toNatClampNeg).toInt < 0 ∧ r = -1) ∨ (0 ≤ (o p1.toNatClampNeg).toInt ∧ r = ((nu (o p1.toNatClampNeg).toNatClampNeg) - ((1 : Int32))).toInt)))
/-- run, from run k on -/
def zz_RG (th i part r w : Int) (o : Nat → Int32) : Prop := (th = 3 ∧ (i < 0 ∨ (0 ≤ i ∧ ∃ sz, zz_rk w o i (-1) sz))) ∨ (th = 0 ∧ 0 ≤ i ∧ ∃ p sz, 0 ≤ p ∧ zz_rk w o i p sz ∧ ((part = 0 ∧ r = p) ∨ (part = 1 ∧ r = sz)))
theorem zz_RG_3 {th i part r w p sz k : Int} {o : Nat → Int32} (h : zz_rk w o k p sz) (ht : th = 3) (hp : p = -1) (hk : k ≤ i) (hi : 0 ≤ i) : zz_RG th i part r w o := Or.inl ⟨ht, Or.inr ⟨hi, sz, zz_rk_stay h hp rfl hk⟩⟩
theorem zz_RG_0 {th i part r w p sz k : Int} {o : Nat → Int32} (h : zz_rk w o k p sz) (ht : th = 0) (hp : 0 ≤ p) (hk : k = i) (hi : 0 ≤ i) (hr : (part = 0 ∧ r = p) ∨ (part = 1 ∧ r = sz)) : zz_RG th i part r w o := by
  subst hk
  exact Or.inr ⟨ht, hi, p, sz, hp, h, hr⟩
def zz_RF (th p1 p2 r w : Int) (o : Nat → Int32) : Prop := (th = 1 ∧ (p2 < 0 ∨ 1 < p2)) ∨ (0 ≤ p2 ∧ p2 ≤ 1 ∧ zz_RG th p1 p2 r w o)
/-- without a room, the reference -/
def zz_NF (th : Int) (P : Prop) : Prop := (th = 1 ∧ P) ∨ (th = 2 ∧ ¬ P)
-- open
def zz_OG (n W pg le tp st : Int) (g G qm : Nat → Int32) : Prop := zz_gpw n W ∧ zz_b4 g W ∧ pg = n / 32 ∧ le = 0 ∧ tp = 0 ∧ st = 0 ∧ zz_zr G 32 ∧ zz_zr qm 9
theorem zz_OG_mk {n W pg le tp st a b : Int} {g G qm : Nat → Int32} (h1 : zz_gpw n W) (h2 : zz_b4 g W) (h3 : pg = n / 32) (h4 : le = 0) (h5 : tp = 0) (h6 : st = 0) (h7 : zz_zr G a) (ha : 32 ≤ a) (h8 : zz_zr qm b) (hb : 9 ≤ b) : zz_OG n W pg le tp st g G qm := ⟨h1, h2, h3, h4, h5, h6, fun j hj => h7 j (by omega), fun j hj => h8 j (by omega)⟩
theorem zz_zr_le {f : Nat → Int32} {x y : Int} (h : zz_zr f x) (hy : y ≤ x) : zz_zr f y := fun j hj => h j (by omega)
theorem zz_b4_u {g : Nat → Int32} {W a : Int} {i : Nat} {v : Int32} (h : zz_zr g a) (ha : 1024 ≤ a) (hi : i = 0) (hv : v.toInt = W) : zz_b4 (upd g i v) W := by
  subst hi
  refine ⟨by rw [zz_updE, if_pos rfl]; exact hv, fun x h1 h2 => ?_⟩
  rw [zz_updE, if_neg (by omega)]
  exact h x (by omega)
def zz_OF (th p1 p2 : Int) (same : Prop) (f' w' bl' g' : Int) (o' li' lm' : Nat → Int32) (EX : Prop) : Prop := (th = 1 ∧ (p1 < 0 ∨ 9 < p1 ∨ p2 < 16 ∨ 1024 < p2) ∧ same) ∨ (th = 0 ∧ 0 ≤ p1 ∧ p1 ≤ 9 ∧ 16 ≤ p2 ∧ p2 ≤ 1024 ∧ f' = p1 ∧ w' = p2 ∧ bl' = 0 ∧ g' = 0 ∧ zz_op o' 1024 ∧ zz_RO f' w' li' lm' ∧ EX)
/-- what a give leaves of lastEnd and the stack, found or not -/
def zz_SX (f x n s : Int) (le le' tp tp' st st' : Int) (kp ks kg kp' ks' kg' : Nat → Int32) (xv sv : Int32) : Prop := (x < 0 ∧ le' = le ∧ tp' = tp ∧ st' = st ∧ kp' = kp ∧ ks' = ks ∧ kg' = kg) ∨ (0 ≤ x ∧ zz_SK f x n s le le' tp tp' st st' kp ks kg kp' ks' kg' xv sv)

/-! blocks -/
noncomputable def zz_cn (P : Nat → Prop) : Nat → Nat
  | 0 => 0
  | n + 1 => zz_cn P n + @ite Nat (P n) (Classical.propDecidable (P n)) 1 0
theorem zz_cn_y {P : Nat → Prop} {n : Nat} (h : P n) : zz_cn P (n + 1) = zz_cn P n + 1 := by
  show zz_cn P n + _ = _
  rw [if_pos h]
theorem zz_cn_n {P : Nat → Prop} {n : Nat} (h : ¬ P n) : zz_cn P (n + 1) = zz_cn P n := by
  show zz_cn P n + _ = _
  rw [if_neg h]
  exact Nat.add_zero _
theorem zz_cn_full {P : Nat → Prop} : ∀ n, (∀ b, b < n → P b) → zz_cn P n = n
  | 0, _ => rfl
  | n + 1, h => by rw [zz_cn_y (h n (by omega)), zz_cn_full n (fun b hb => h b (by omega))]
theorem zz_cn_mono {P Q : Nat → Prop} : ∀ n, (∀ b, b < n → P b → Q b) → zz_cn P n ≤ zz_cn Q n
  | 0, _ => Nat.le_refl _
  | n + 1, h => by
    have ih := zz_cn_mono n (fun b hb => h b (by omega))
    by_cases c : P n
    · rw [zz_cn_y c, zz_cn_y (h n (by omega) c)]; omega
    · rw [zz_cn_n c]
      by_cases d : Q n
      · rw [zz_cn_y d]; omega
      · rw [zz_cn_n d]; exact ih
theorem zz_cn_add {P Q : Nat → Prop} {b0 : Nat} : ∀ n, (∀ b, b < n → P b → Q b ∨ b = b0) → zz_cn P n ≤ zz_cn Q n + (if b0 < n then 1 else 0)
  | 0, _ => Nat.zero_le _
  | n + 1, h => by
    by_cases e : n = b0
    · have ih := zz_cn_mono (P := P) (Q := Q) n (fun b hb z => (h b (by omega) z).resolve_right (by omega))
      rw [if_pos (by omega)]
      have a1 : zz_cn P (n + 1) ≤ zz_cn P n + 1 := by
        by_cases c : P n
        · rw [zz_cn_y c]; omega
        · rw [zz_cn_n c]; omega
      have a2 : zz_cn Q n ≤ zz_cn Q (n + 1) := by
        by_cases c : Q n
        · rw [zz_cn_y c]; omega
        · rw [zz_cn_n c]; omega
      omega
    · have ih := zz_cn_add (P := P) (Q := Q) (b0 := b0) n (fun b hb => h b (by omega))
      rw [show (if b0 < n + 1 then 1 else 0) = (if b0 < n then 1 else 0) by by_cases c : b0 < n <;> simp [c] <;> omega]
      by_cases c : P n
      · rw [zz_cn_y c, zz_cn_y ((h n (by omega) c).resolve_right e)]; omega
      · rw [zz_cn_n c]
        by_cases d : Q n
        · rw [zz_cn_y d]; omega
        · rw [zz_cn_n d]; exact ih
theorem zz_cn_sub {P Q : Nat → Prop} {b0 : Nat} (hQ : Q b0) : ∀ n, (∀ b, b < n → P b → Q b ∧ b ≠ b0) → zz_cn P n + (if b0 < n then 1 else 0) ≤ zz_cn Q n
  | 0, _ => Nat.le_refl _
  | n + 1, h => by
    have ih := zz_cn_sub (P := P) hQ n (fun b hb => h b (by omega))
    by_cases e : n = b0
    · subst e
      rw [if_neg (by omega)] at ih
      rw [if_pos (by omega), zz_cn_n (fun z => (h n (by omega) z).2 rfl), zz_cn_y hQ]; omega
    · rw [show (if b0 < n + 1 then 1 else 0) = (if b0 < n then 1 else 0) by by_cases c : b0 < n <;> simp [c] <;> omega]
      by_cases c : P n
      · rw [zz_cn_y c, zz_cn_y (h n (by omega) c).1]; omega
      · rw [zz_cn_n c]
        by_cases d : Q n
        · rw [zz_cn_y d]; omega
        · rw [zz_cn_n d]; exact ih
def zz_us (w : Int) (o nu pl : Nat → Int32) (b : Nat) : Prop := 0 < (nu b).toInt ∧ (pl b).toInt < w ∧ (o (pl b).toNatClampNeg).toInt = (b : Int)
def zz_p2 (v : Int) : Prop := v = 1 ∨ v = 2 ∨ v = 4 ∨ v = 8 ∨ v = 16 ∨ v = 32 ∨ v = 64 ∨ v = 128 ∨ v = 256 ∨ v = 512 ∨ v = 1024
def zz_Y (f w bl : Int) (o nu pl sp : Nat → Int32) : Prop := (∀ b, b < 200 → 0 ≤ (pl b).toInt ∧ 0 ≤ (sp b).toInt ∧ (pl b).toInt + (sp b).toInt ≤ 1024) ∧ (zz_cn (zz_us w o nu pl) 200 : Int) ≤ bl ∧ (f = 4 → ∀ x, x < 1024 → 0 ≤ (o x).toInt → zz_p2 (sp (o x).toNatClampNeg).toInt) ∧ (f = 7 → ∀ b : Nat, b < 200 → (pl b).toInt < w → (o (pl b).toNatClampNeg).toInt = (b : Int) → 1 ≤ (sp b).toInt ∧ (pl b).toInt + (sp b).toInt ≤ w ∧ ∀ x : Nat, (pl b).toInt ≤ (x : Int) → (x : Int) < (pl b).toInt + (sp b).toInt → (o x).toInt = (b : Int))
def zz_Z (f w bl : Int) (o nu pl sp li lm : Nat → Int32) : Prop := zz_Y f w bl o nu pl sp ∧ (f = 7 → zz_L7 w o li lm)
def zz_G (f w bl : Int) (o nu pl sp li lm : Nat → Int32) (p n : Int) : Prop := zz_Y f w bl o nu pl sp ∧ 0 ≤ p ∧ 1 ≤ n ∧ p + n ≤ 1024 ∧ (f = 4 → zz_p2 n) ∧ (f = 7 → zz_G7 w o li lm p n)
def zz_F (f w bl : Int) (o nu pl sp li lm : Nat → Int32) (r n : Int) : Prop := (r < 0 → zz_Z f w bl o nu pl sp li lm) ∧ (0 ≤ r → zz_G f w bl o nu pl sp li lm r n)
theorem zz_F_a {f w bl : Int} {o nu pl sp li lm : Nat → Int32} {r n : Int} (h : zz_Z f w bl o nu pl sp li lm) (h7 : f ≠ 7) (h4 : f = 4 → zz_p2 n) (hr : r < 0 ∨ (0 ≤ r ∧ 1 ≤ n ∧ r + n ≤ 1024)) : zz_F f w bl o nu pl sp li lm r n := ⟨fun _ => h, fun z => ⟨h.1, z, by omega, by omega, h4, fun z => absurd z h7⟩⟩
theorem zz_F_7 {f w bl : Int} {o nu pl sp li lm g m : Nat → Int32} {r n : Int} (h : zz_Z f w bl o nu pl sp li lm) (hl : zz_lv w o li lm g m r n) (h7 : f = 7) (hw : w ≤ 1024) : zz_F f w bl o nu pl sp g m r n := ⟨fun z => by rw [(hl.1 z).1, (hl.1 z).2]; exact h, fun z => by
  have a := hl.2 z
  exact ⟨h.1, a.1, a.2.1, by have := a.2.2.1; omega, fun z => by omega, fun _ => a⟩⟩
def zz_er (o o' : Nat → Int32) : Prop := ∀ x, o' x = o x ∨ (o' x).toInt = -1
theorem zz_er_rf (o : Nat → Int32) : zz_er o o := fun _ => Or.inl rfl
theorem zz_er_step {o o' : Nat → Int32} {i : Nat} {v : Int32} (h : zz_er (upd o i v) o') (hv : v.toInt = -1) : zz_er o o' := fun x => by
  rcases h x with c | c
  · rw [zz_updE] at c
    by_cases e : x = i
    · rw [if_pos e] at c; exact Or.inr (by rw [c]; exact hv)
    · rw [if_neg e] at c; exact Or.inl c
  · exact Or.inr c
theorem zz_Z_er {f w bl : Int} {o o' nu pl sp li lm : Nat → Int32} (h : zz_Z f w bl o nu pl sp li lm) (he : zz_er o o') (h7 : f ≠ 7) : zz_Z f w bl o' nu pl sp li lm := by
  obtain ⟨⟨a1, a2, a3, a4⟩, a5⟩ := h
  refine ⟨⟨a1, ?_, fun h4 x hx hp => ?_, fun z => absurd z h7⟩, fun z => absurd z h7⟩
  · have := zz_cn_mono (P := zz_us w o' nu pl) (Q := zz_us w o nu pl) 200 (fun b hb z => ⟨z.1, z.2.1, by
      have := z.2.2
      rcases he (pl b).toNatClampNeg with c | c
      · rw [← c]; exact this
      · omega⟩)
    omega
  · rcases he x with c | c
    · rw [c] at hp ⊢; exact a3 h4 x hx hp
    · omega
-- give
def zz_wr (o o' : Nat → Int32) (a e : Int) (v : Int32) : Prop := ∀ x : Nat, o' x = if a ≤ (x : Int) ∧ (x : Int) < e then v else o x
theorem zz_wr_nil {o : Nat → Int32} {a e : Int} {v : Int32} (h : e ≤ a) : zz_wr o o a e v := fun x => by rw [if_neg (by omega)]
theorem zz_wr_step {o o' : Nat → Int32} {a a' e : Int} {v : Int32} {i : Nat} (h : zz_wr (upd o i v) o' a' e v) (hi : (i : Int) = a) (ha : a' = a + 1) (hl : a < e) : zz_wr o o' a e v := fun x => by
  have g := h x
  rw [zz_updE] at g
  by_cases c : a ≤ (x : Int) ∧ (x : Int) < e
  · rw [if_pos c]
    by_cases d : a' ≤ (x : Int) ∧ (x : Int) < e
    · rw [if_pos d] at g; exact g
    · rw [if_neg d, if_pos (by omega)] at g; exact g
  · rw [if_neg c]
    rw [if_neg (by omega), if_neg (by omega)] at g; exact g
theorem zz_give {f w bl bl' : Int} {o o' nu pl sp li lm : Nat → Int32} {p n : Int} {b v pp nn : Int32} (h : zz_G f w bl o nu pl sp li lm p n) (hw : zz_wr o o' p (p + n) b) (hb0 : 0 ≤ b.toInt) (hb : b.toInt < 200) (hp : pp.toInt = p) (hn : nn.toInt = n) (hbl : bl' = bl + 1) : zz_Z f w bl' o' (upd nu b.toNatClampNeg v) (upd pl b.toNatClampNeg pp) (upd sp b.toNatClampNeg nn) li lm := by
  obtain ⟨⟨a1, a2, a3, a4⟩, b1, b2, b3, b4, b5⟩ := h
  have eb := zz_tnI b hb0
  have oi : ∀ x : Nat, p ≤ (x : Int) → (x : Int) < p + n → o' x = b := fun x h1 h2 => by rw [hw, if_pos ⟨h1, h2⟩]
  have oo : ∀ x : Nat, ¬ (p ≤ (x : Int) ∧ (x : Int) < p + n) → o' x = o x := fun x h1 => by rw [hw, if_neg h1]
  refine ⟨⟨fun j hj => ?_, ?_, fun h4 x hx hpx => ?_, fun h7 j hj h1 h2 => ?_⟩, fun h7 => ?_⟩
  · rw [zz_updE, zz_updE]
    by_cases c : j = b.toNatClampNeg
    · rw [if_pos c, if_pos c]; omega
    · rw [if_neg c, if_neg c]; exact a1 j hj
  · have := zz_cn_add (P := zz_us w o' (upd nu b.toNatClampNeg v) (upd pl b.toNatClampNeg pp)) (Q := zz_us w o nu pl) (b0 := b.toNatClampNeg) 200 (fun j hj z => by
      by_cases c : j = b.toNatClampNeg
      · exact Or.inr c
      · refine Or.inl ?_
        obtain ⟨z1, z2, z3⟩ := z
        rw [zz_updE, if_neg c] at z1 z2 z3
        refine ⟨z1, z2, ?_⟩
        rw [← oo _ (fun y => by rw [oi _ y.1 y.2] at z3; omega)]; exact z3)
    rw [if_pos (by omega)] at this
    omega
  · rw [zz_updE]
    by_cases c : (o' x).toNatClampNeg = b.toNatClampNeg
    · rw [if_pos c, hn]; exact b4 h4
    · rw [if_neg c]
      have d : ¬ (p ≤ (x : Int) ∧ (x : Int) < p + n) := fun y => c (by rw [oi x y.1 y.2])
      rw [oo x d] at hpx ⊢
      exact a3 h4 x hx hpx
  · have g7 := b5 h7
    rw [zz_updE] at h1 h2 ⊢
    rw [zz_updE]
    by_cases c : j = b.toNatClampNeg
    · rw [if_pos c] at h1 h2 ⊢
      rw [if_pos c]
      have := g7.2.2.1
      exact ⟨by omega, by omega, fun x y1 y2 => by rw [oi x (by omega) (by omega)]; omega⟩
    · rw [if_neg c] at h1 h2 ⊢
      rw [if_neg c]
      have d : ¬ (p ≤ ((pl j).toNatClampNeg : Int) ∧ ((pl j).toNatClampNeg : Int) < p + n) := fun y => by rw [oi _ y.1 y.2] at h2; omega
      rw [oo _ d] at h2
      obtain ⟨c1, c2, c3⟩ := a4 h7 j hj h1 h2
      refine ⟨c1, c2, fun x y1 y2 => ?_⟩
      have e1 := c3 x y1 y2
      rw [oo x (fun y => by have := g7.2.2.2.1 x y.1 y.2; omega)]
      exact e1
  · have g7 := b5 h7
    exact g7.2.2.2.2 o' (fun x hx => oo x (by omega)) (fun x h1 h2 => by rw [oi x h1 h2]; omega)
def zz_al (w : Int) (o nu pl : Nat → Int32) (x : Int) : Prop := ∀ b : Nat, (b : Int) < x → zz_us w o nu pl b
theorem zz_al_nil {w : Int} {o nu pl : Nat → Int32} {x : Int} (h : x ≤ 0) : zz_al w o nu pl x := fun b hb => by omega
theorem zz_al_step {w : Int} {o nu pl : Nat → Int32} {x x' : Int} {i : Nat} (h : zz_al w o nu pl x) (hu : zz_us w o nu pl i) (hi : (i : Int) = x) (hx : x' = x + 1) : zz_al w o nu pl x' := fun b hb => by
  by_cases c : b = i
  · rw [c]; exact hu
  · exact h b (by omega)
theorem zz_al_lt {f w bl : Int} {o nu pl sp : Nat → Int32} {x : Int} (h : zz_al w o nu pl x) (hY : zz_Y f w bl o nu pl sp) (hb : bl < 200) : x < 200 := by
  refine Int.lt_of_not_ge fun z => ?_
  have := zz_cn_full (P := zz_us w o nu pl) 200 (fun b hb => h b (by omega))
  have := hY.2.1
  omega
def zz_it (w : Int) (o pl : Nat → Int32) (p r : Int32) : Prop := r.toInt = 0 ∨ ((pl p.toNatClampNeg).toInt < w ∧ (o (pl p.toNatClampNeg).toNatClampNeg).toInt = p.toInt)
theorem zz_it_0 {w : Int} {o pl : Nat → Int32} {p r : Int32} (h : r.toInt = 0) : zz_it w o pl p r := Or.inl h
theorem zz_it_1 {w : Int} {o pl : Nat → Int32} {p r : Int32} (h : (pl p.toNatClampNeg).toInt < w) (h1 : (o (pl p.toNatClampNeg).toNatClampNeg).toInt = p.toInt) : zz_it w o pl p r := Or.inr ⟨h, h1⟩
def zz_iu (w : Int) (o nu pl : Nat → Int32) (p r : Int32) : Prop := r.toInt = 0 ∨ zz_us w o nu pl p.toNatClampNeg
theorem zz_iu_0 {w : Int} {o nu pl : Nat → Int32} {p r : Int32} (h : r.toInt = 0) : zz_iu w o nu pl p r := Or.inl h
theorem zz_iu_1 {w : Int} {o nu pl : Nat → Int32} {p r r' : Int32} (h : zz_it w o pl p r') (h1 : r'.toInt ≠ 0) (hp : 0 ≤ p.toInt) (hn : 0 < (nu p.toNatClampNeg).toInt) : zz_iu w o nu pl p r := by
  have e := zz_tnI p hp
  rcases h with h | h
  · exact absurd h h1
  · exact Or.inr ⟨hn, h.1, by rw [h.2]; omega⟩
theorem zz_iu_us {w : Int} {o nu pl : Nat → Int32} {p r : Int32} (h : zz_iu w o nu pl p r) (h1 : r.toInt ≠ 0) : zz_us w o nu pl p.toNatClampNeg := h.resolve_left h1
def zz_bo (w : Int) (o nu pl : Nat → Int32) (r : Int32) : Prop := r.toInt < 0 ∨ zz_us w o nu pl r.toNatClampNeg
theorem zz_bo_0 {w : Int} {o nu pl : Nat → Int32} {r : Int32} (h : r.toInt < 0) : zz_bo w o nu pl r := Or.inl h
theorem zz_bo_1 {w : Int} {o nu pl : Nat → Int32} {r r' : Int32} (h : zz_iu w o nu pl r r') (h1 : r'.toInt ≠ 0) : zz_bo w o nu pl r := Or.inr (h.resolve_left h1)
-- back
def zz_B (f w bl : Int) (o nu pl sp li lm : Nat → Int32) (b p n q : Int32) (e : Int) : Prop := ∃ o0 : Nat → Int32, zz_Z f w bl o0 nu pl sp li lm ∧ 0 ≤ b.toInt ∧ b.toInt < 200 ∧ zz_us w o0 nu pl b.toNatClampNeg ∧ p = pl b.toNatClampNeg ∧ n = sp b.toNatClampNeg ∧ p.toInt ≤ e ∧ (∀ x : Nat, p.toInt ≤ (x : Int) → (x : Int) < e → (o x).toInt = -1 - q.toInt) ∧ (∀ x : Nat, ¬ (p.toInt ≤ (x : Int) ∧ (x : Int) < e) → o x = o0 x)
theorem zz_B_ini {f w bl : Int} {o nu pl sp li lm : Nat → Int32} {b q : Int32} {e : Int} (h : zz_Z f w bl o nu pl sp li lm) (hu : zz_bo w o nu pl b) (hb0 : 0 ≤ b.toInt) (hb : b.toInt < 200) (he : e = (pl b.toNatClampNeg).toInt) : zz_B f w bl o nu pl sp li lm b (pl b.toNatClampNeg) (sp b.toNatClampNeg) q e :=
  ⟨o, h, hb0, hb, hu.resolve_left (by omega), rfl, rfl, by omega, fun x h1 h2 => by omega, fun x _ => rfl⟩
theorem zz_B_step {f w bl : Int} {o nu pl sp li lm : Nat → Int32} {b p n q v : Int32} {e e' : Int} {i : Nat} (h : zz_B f w bl o nu pl sp li lm b p n q e) (hi : (i : Int) = e) (he : e' = e + 1) (hv : v.toInt = -1 - q.toInt) : zz_B f w bl (upd o i v) nu pl sp li lm b p n q e' := by
  obtain ⟨o0, a1, a2, a3, a4, a5, a6, a7, a8, a9⟩ := h
  refine ⟨o0, a1, a2, a3, a4, a5, a6, by omega, fun x h1 h2 => ?_, fun x hx => ?_⟩
  · rw [zz_updE]
    by_cases c : x = i
    · rw [if_pos c]; exact hv
    · rw [if_neg c]; exact a8 x h1 (by omega)
  · rw [zz_updE, if_neg (by omega)]; exact a9 x (by omega)
theorem zz_B_ps {f w bl : Int} {o nu pl sp li lm : Nat → Int32} {b p n q : Int32} {e : Int} (h : zz_B f w bl o nu pl sp li lm b p n q e) : 0 ≤ p.toInt ∧ 0 ≤ n.toInt ∧ p.toInt + n.toInt ≤ 1024 ∧ p.toInt < w ∧ 1 ≤ bl := by
  obtain ⟨o0, a1, a2, a3, a4, a5, a6, a7, a8, a9⟩ := h
  have eb := zz_tnI b a2
  have c := a1.1.1 b.toNatClampNeg (by omega)
  have d := zz_cn_sub (P := fun _ => False) (Q := zz_us w o0 nu pl) (b0 := b.toNatClampNeg) a4 200 (fun _ _ z => z.elim)
  rw [if_pos (by omega)] at d
  have d2 := a1.1.2.1
  have d3 := a4.2.1
  rw [a5, a6]
  exact ⟨c.1, c.2.1, c.2.2, d3, by omega⟩
theorem zz_B_p2 {f w bl : Int} {o nu pl sp li lm : Nat → Int32} {b p n q : Int32} {e : Int} (h : zz_B f w bl o nu pl sp li lm b p n q e) (h4 : f = 4) (hw : w ≤ 1024) : zz_p2 n.toInt := by
  have hp := zz_B_ps h
  obtain ⟨o0, a1, a2, a3, a4, a5, a6, a7, a8, a9⟩ := h
  have eb := zz_tnI b a2
  have c := a1.1.2.2.1 h4 (pl b.toNatClampNeg).toNatClampNeg (by rw [← a5, zz_tn]; omega) (by rw [a4.2.2]; omega)
  rw [a6]
  rw [show (o0 (pl b.toNatClampNeg).toNatClampNeg).toNatClampNeg = b.toNatClampNeg by rw [zz_tn, a4.2.2]; omega] at c
  exact c
theorem zz_B_Y {f w bl bl' : Int} {o nu pl sp li lm : Nat → Int32} {b p n q z : Int32} {e : Int} (h : zz_B f w bl o nu pl sp li lm b p n q e) (he : e = p.toInt + n.toInt) (hq : 0 ≤ q.toInt) (hbl : bl' = bl - 1) (hz : z.toInt = 0) : zz_Y f w bl' o (upd nu b.toNatClampNeg z) pl sp := by
  obtain ⟨o0, ⟨⟨c1, c2, c3, c4⟩, c5⟩, a2, a3, a4, a5, a6, a7, a8, a9⟩ := h
  have eb := zz_tnI b a2
  have key : ∀ x : Nat, 0 ≤ (o x).toInt → o x = o0 x := fun x hx => a9 x (fun y => by have := a8 x y.1 y.2; omega)
  refine ⟨c1, ?_, fun h4 x hx hp => ?_, fun h7 j hj h1 h2 => ?_⟩
  · have d := zz_cn_sub (P := zz_us w o (upd nu b.toNatClampNeg z) pl) (Q := zz_us w o0 nu pl) (b0 := b.toNatClampNeg) a4 200 (fun j hj y => by
      obtain ⟨y1, y2, y3⟩ := y
      rw [zz_updE] at y1
      by_cases c : j = b.toNatClampNeg
      · rw [if_pos c] at y1; omega
      · rw [if_neg c] at y1
        rw [key _ (by omega)] at y3
        exact ⟨⟨y1, y2, y3⟩, c⟩)
    rw [if_pos (by omega)] at d
    omega
  · have k := key x hp
    rw [k] at hp ⊢; exact c3 h4 x hx hp
  · have h2' := h2
    rw [key _ (by omega)] at h2
    obtain ⟨d1, d2, d3⟩ := c4 h7 j hj h1 h2
    have e4 := c4 h7 b.toNatClampNeg (by omega) a4.2.1 a4.2.2
    by_cases c : j = b.toNatClampNeg
    · exfalso
      have pp := c1 b.toNatClampNeg (by omega)
      have e1 := zz_tnI p (by rw [a5]; exact pp.1)
      have e2 := a8 p.toNatClampNeg (by omega) (by rw [a6] at he; omega)
      have e3 := a4.2.2
      rw [← a5] at e3
      have e5 : (o p.toNatClampNeg).toInt = (j : Int) := by rw [a5, ← c]; exact h2'
      omega
    · refine ⟨d1, d2, fun x y1 y2 => ?_⟩
      have e5 := d3 x y1 y2
      rw [a9 x (fun y => by
        have := e4.2.2 x (by rw [← a5]; exact y.1) (by rw [← a5, ← a6, ← he]; exact y.2)
        omega)]
      exact e5
theorem zz_B_H {f w bl : Int} {o nu pl sp li lm : Nat → Int32} {b p n q : Int32} {e : Int} (h : zz_B f w bl o nu pl sp li lm b p n q e) (he : e = p.toInt + n.toInt) (hq : q.toInt = 0) (h7 : f = 7) : zz_H w o li lm p.toInt n.toInt := by
  obtain ⟨o0, ⟨⟨c1, c2, c3, c4⟩, c5⟩, a2, a3, a4, a5, a6, a7, a8, a9⟩ := h
  have eb := zz_tnI b a2
  have e4 := c4 h7 b.toNatClampNeg (by omega) a4.2.1 a4.2.2
  rw [← a5, ← a6] at e4
  have pp := c1 b.toNatClampNeg (by omega)
  refine ⟨by rw [a5]; exact pp.1, e4.1, e4.2.1, fun x h1 h2 => by rw [a8 x h1 (by omega)]; omega, o0, c5 h7, fun x hx => (a9 x (by omega)).symm, fun x h1 h2 => by rw [e4.2.2 x h1 h2]; omega⟩
-- a new row
theorem zz_Y_open {f f' w w' bl' : Int} {o o' nu pl sp : Nat → Int32} (h : zz_Y f' w' bl' o' nu pl sp) (ho : ∀ x, x < 1024 → (o x).toInt = -1) (hw : w ≤ 1024) : zz_Y f w 0 o nu pl sp := by
  have key : ∀ b : Nat, b < 200 → (pl b).toInt < w → (o (pl b).toNatClampNeg).toInt = -1 := fun b hb hp => ho _ (by have := h.1 b hb; rw [zz_tn]; omega)
  refine ⟨h.1, ?_, fun h4 x hx hp => by have := ho x hx; omega, fun h7 b hb h1 h2 => by have := key b hb h1; omega⟩
  have : zz_cn (zz_us w o nu pl) 200 ≤ zz_cn (fun _ => False) 200 := zz_cn_mono 200 (fun b hb z => by have := key b hb z.2.1; have := z.2.2; omega)
  have e : ∀ n, zz_cn (fun _ => False) n = 0 := fun n => by
    induction n with
    | zero => rfl
    | succ n ih => rw [zz_cn_n (fun z => z)]; exact ih
  rw [e] at this
  omega
theorem zz_L7_open {o li lm g m : Nat → Int32} {z v : Int32} {w : Int} (ho : ∀ x, x < 1024 → (o x).toInt = -1) (hT : zz_TLm li lm g m z v) (hm : ∀ j, j < 44 → (lm j).toInt = 0) (hz : z.toInt = 0) (hv : v.toInt = w) (hw : 1 ≤ w) (hw2 : w ≤ 1024) : zz_L7 w o g m := by
  have h0 : zz_rep li lm (fun _ _ => False) := fun l hl => by
    have := hm l hl
    exact ⟨fun k hk => by omega, fun p hp => hp.elim, fun k k' hk => by omega⟩
  refine (zz_rep_toM h0 (by omega) (by omega) (fun j hj => by have := hm j hj; omega) hT (fun z => z)).cg fun l q _ => ?_
  have e : v.toNatClampNeg = w.toNat := by rw [zz_tn, hv]
  rw [e]
  constructor
  · rintro (c | ⟨c, d⟩)
    · exact c.elim
    · refine ⟨w.toNat, ⟨by omega, by omega, fun x h1 h2 => ho x (by omega), Or.inl (by omega), Or.inl (by omega)⟩, c.symm⟩
  · rintro ⟨u, ⟨b1, b2, b3, b4, b5⟩, c⟩
    have q0 : q = 0 := by
      rcases b4 with d | d
      · exact d
      · exact absurd (ho (q - 1) (by omega)) d
    subst q0
    have uw : u = w.toNat := by
      rcases b5 with d | d
      · omega
      · refine Nat.le_antisymm (by omega) (Nat.le_of_not_lt fun y => d (ho _ (by omega)))
    exact Or.inr ⟨by rw [← c, uw], by omega⟩

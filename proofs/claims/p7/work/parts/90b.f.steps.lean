/-! form 7: the class's walks over its stretches, step by step -/
def zz_vs (w : Int) (pc wc : Nat → Int32) (n : Int) : Prop := ∀ i : Nat, (i : Int) < n → 0 ≤ (pc i).toInt ∧ 1 ≤ (wc i).toInt ∧ (pc i).toInt + (wc i).toInt ≤ w
theorem zz_vs_at {w : Int} {pc wc : Nat → Int32} {n : Int} (h : zz_vs w pc wc n) (x : Int32) (h0 : 0 ≤ x.toInt) (h1 : x.toInt < n) : 0 ≤ (pc x.toNatClampNeg).toInt ∧ 1 ≤ (wc x.toNatClampNeg).toInt ∧ (pc x.toNatClampNeg).toInt + (wc x.toNatClampNeg).toInt ≤ w := h _ (by have := zz_tnI x h0; omega)
/-- a stretch is taken out -/
def zz_rmv (f g : Nat → Int32) (i n : Int) : Prop := ∀ x : Nat, g x = if i ≤ (x : Int) ∧ (x : Int) < n - 1 then f (x + 1) else f x
theorem zz_rmv_mk {f : Nat → Int32} {i n : Int} {a b c : Nat} (ha : (a : Int) = i + 1) (hb : (b : Int) = i) (hc : (c : Int) = n - 1 - i) : zz_rmv f (va_cpy f f a b c) i n := fun x => by
  show (if b ≤ x ∧ x < b + c then f (a + (x - b)) else f x) = _
  by_cases d : i ≤ (x : Int) ∧ (x : Int) < n - 1
  · rw [if_pos (by omega), if_pos d, show a + (x - b) = x + 1 by omega]
  · rw [if_neg (by omega), if_neg d]
theorem zz_vs_rm {w : Int} {pc wc pc' wc' : Nat → Int32} {n n' i : Int} (h : zz_vs w pc wc n) (h1 : zz_rmv pc pc' i n) (h2 : zz_rmv wc wc' i n) (hn : n' = n - 1) (hi : i < n) : zz_vs w pc' wc' n' := fun x hx => by
  rw [h1 x, h2 x]
  by_cases d : i ≤ (x : Int) ∧ (x : Int) < n - 1
  · rw [if_pos d, if_pos d]; exact h (x + 1) (by omega)
  · rw [if_neg d, if_neg d]; exact h x (by omega)
theorem zz_vs_add {w : Int} {pc wc : Nat → Int32} {n n' : Int} {k : Nat} {x y : Int32} (h : zz_vs w pc wc n) (hk : (k : Int) = n) (hn : n' = n + 1) (hx : 0 ≤ x.toInt) (hy : 1 ≤ y.toInt) (hxy : x.toInt + y.toInt ≤ w) : zz_vs w (upd pc k x) (upd wc k y) n' := fun i hi => by
  rw [zz_updE, zz_updE]
  by_cases c : i = k
  · rw [if_pos c, if_pos c]; exact ⟨hx, hy, hxy⟩
  · rw [if_neg c, if_neg c]; exact h i (by omega)
theorem zz_sg_rm {pc wc pc' wc' : Nat → Int32} {n i : Int} (h1 : zz_rmv pc pc' i n) (h2 : zz_rmv wc wc' i n) (hi : 0 ≤ i) (hn : i < n) : zz_sg pc wc 0 n.toNat = zz_sg pc wc (i + 1).toNat (n - 1 - i).toNat ++ ((pc i.toNat).toNatClampNeg, (wc i.toNat).toNatClampNeg) :: zz_sg pc wc 0 i.toNat ∧ zz_sg pc' wc' 0 (n - 1).toNat = zz_sg pc wc (i + 1).toNat (n - 1 - i).toNat ++ zz_sg pc wc 0 i.toNat ∧ zz_sg pc' wc' i.toNat (n - 1 - i).toNat = zz_sg pc wc (i + 1).toNat (n - 1 - i).toNat ∧ zz_sg pc' wc' 0 i.toNat = zz_sg pc wc 0 i.toNat := by
  have e1 : n.toNat = (i.toNat + 1) + (n - 1 - i).toNat := by omega
  have e2 : (n - 1).toNat = i.toNat + (n - 1 - i).toNat := by omega
  have a1 : zz_sg pc' wc' i.toNat (n - 1 - i).toNat = zz_sg pc wc (i + 1).toNat (n - 1 - i).toNat := zz_sg_sh _ (fun x hx => by
    have g1 := h1 (i.toNat + x)
    have g2 := h2 (i.toNat + x)
    rw [if_pos (by omega)] at g1 g2
    rw [g1, g2, show (i + 1).toNat + x = i.toNat + x + 1 by omega]
    exact ⟨rfl, rfl⟩)
  have a2 : zz_sg pc' wc' 0 i.toNat = zz_sg pc wc 0 i.toNat := zz_sg_sh _ (fun x hx => by
    have g1 := h1 (0 + x)
    have g2 := h2 (0 + x)
    rw [if_neg (by omega)] at g1 g2
    exact ⟨g1, g2⟩)
  refine ⟨?_, ?_, a1, a2⟩
  · rw [e1, zz_sg_app, zz_sg_top, Nat.zero_add, show i.toNat + 1 = (i + 1).toNat by omega]
  · rw [e2, zz_sg_app, Nat.zero_add, a1, a2]
theorem zz_sg_upd {pc wc : Nat → Int32} {k : Nat} {x y : Int32} : zz_sg (upd pc k x) (upd wc k y) 0 (k + 1) = (x.toNatClampNeg, y.toNatClampNeg) :: zz_sg pc wc 0 k := by
  rw [zz_sg_top, zz_updE, zz_updE, if_pos rfl, if_pos rfl, zz_sg_sh (pc := pc) (wc := wc) (b := 0) k (fun j hj => by
    rw [zz_updE, zz_updE, if_neg (by omega), if_neg (by omega)]
    exact ⟨rfl, rfl⟩)]
theorem zz_i1 {i : Int} {j : Nat} (hj : (j : Int) = i) : (i + 1).toNat = j + 1 := by omega
-- findInListOf
def zz_f1 (pc wc : Nat → Int32) (n : Nat) (i r : Int) : Prop := (r = -1 ∧ (zz_sg pc wc 0 (i + 1).toNat).find? (zz_fp1 n) = none) ∨ (0 ≤ r ∧ r ≤ i ∧ (zz_sg pc wc 0 (i + 1).toNat).find? (zz_fp1 n) = some ((pc r.toNat).toNatClampNeg, (wc r.toNat).toNatClampNeg))
theorem zz_f1_no {pc wc : Nat → Int32} {n : Nat} {i r : Int} (hi : i < 0) (hr : r = -1) : zz_f1 pc wc n i r := Or.inl ⟨hr, by rw [show (i + 1).toNat = 0 by omega]; rfl⟩
theorem zz_f1_skip {pc wc : Nat → Int32} {n j : Nat} {i i' r : Int} (h : zz_f1 pc wc n i' r) (hj : (j : Int) = i) (hi : i' = i - 1) (hp : (zz_lo (wc j).toNatClampNeg : Int) ≠ (zz_lo n : Int) ∨ ((wc j).toNatClampNeg : Int) < (n : Int)) : zz_f1 pc wc n i r := by
  unfold zz_f1 at h ⊢
  rw [zz_i1 hj, zz_sg_top, List.find?_cons_of_neg (by rw [zz_fp1_t]; rintro ⟨a, b⟩; have a : zz_lo (wc j).toNatClampNeg = zz_lo n := a; have b : n ≤ (wc j).toNatClampNeg := b; omega)]
  rw [show (i' + 1).toNat = j by omega] at h
  rcases h with h | ⟨h1, h2, h3⟩
  · exact Or.inl h
  · exact Or.inr ⟨h1, by omega, h3⟩
theorem zz_f1_hit {pc wc : Nat → Int32} {n j : Nat} {i r : Int} (hj : (j : Int) = i) (hr : r = i) (hp : (zz_lo (wc j).toNatClampNeg : Int) = (zz_lo n : Int)) (hq : (n : Int) ≤ ((wc j).toNatClampNeg : Int)) : zz_f1 pc wc n i r := by
  refine Or.inr ⟨by omega, by omega, ?_⟩
  rw [zz_i1 hj, zz_sg_top, List.find?_cons_of_pos (by rw [zz_fp1_t]; exact ⟨by show zz_lo (wc j).toNatClampNeg = zz_lo n; omega, by show n ≤ (wc j).toNatClampNeg; omega⟩), show r.toNat = j by omega]
-- firstOfLaterList
def zz_f2 (pc wc : Nat → Int32) (l f fl i r : Int) : Prop := (r = f ∧ ∀ y ∈ zz_sg pc wc 0 (i + 1).toNat, ¬ (l < (zz_lo y.2 : Int) ∧ (zz_lo y.2 : Int) < fl)) ∨ (0 ≤ r ∧ r ≤ i ∧ ∃ m : Nat, l < (m : Int) ∧ (m : Int) < fl ∧ (∀ y ∈ zz_sg pc wc 0 (i + 1).toNat, l < (zz_lo y.2 : Int) → m ≤ zz_lo y.2) ∧ (zz_sg pc wc 0 (i + 1).toNat).find? (fun y => zz_lo y.2 == m) = some ((pc r.toNat).toNatClampNeg, (wc r.toNat).toNatClampNeg))
theorem zz_f2_no {pc wc : Nat → Int32} {l f fl i r : Int} (hi : i < 0) (hr : r = f) : zz_f2 pc wc l f fl i r := Or.inl ⟨hr, fun y hy => by rw [show (i + 1).toNat = 0 by omega] at hy; cases hy⟩
theorem zz_f2_skip {pc wc : Nat → Int32} {j : Nat} {l f fl i i' r : Int} (h : zz_f2 pc wc l f fl i' r) (hj : (j : Int) = i) (hi : i' = i - 1) (hp : (zz_lo (wc j).toNatClampNeg : Int) ≤ l ∨ fl ≤ (zz_lo (wc j).toNatClampNeg : Int)) : zz_f2 pc wc l f fl i r := by
  unfold zz_f2 at h ⊢
  rw [zz_i1 hj, zz_sg_top]
  rw [show (i' + 1).toNat = j by omega] at h
  rcases h with ⟨h1, h2⟩ | ⟨h1, h2, m, h3, h4, h5, h6⟩
  · refine Or.inl ⟨h1, fun y hy => ?_⟩
    rcases List.mem_cons.mp hy with c | c
    · rw [c]; show ¬ (l < (zz_lo (wc j).toNatClampNeg : Int) ∧ (zz_lo (wc j).toNatClampNeg : Int) < fl); omega
    · exact h2 y c
  · refine Or.inr ⟨h1, by omega, m, h3, h4, fun y hy hl => ?_, ?_⟩
    · rcases List.mem_cons.mp hy with c | c
      · rw [c] at hl ⊢
        have hl : l < (zz_lo (wc j).toNatClampNeg : Int) := hl
        show m ≤ zz_lo (wc j).toNatClampNeg
        omega
      · exact h5 y c hl
    · rw [List.find?_cons_of_neg (by rw [beq_iff_eq]; show ¬ zz_lo (wc j).toNatClampNeg = m; omega)]
      exact h6
theorem zz_f2_new {pc wc : Nat → Int32} {j : Nat} {l f fl i i' r x y : Int} (h : zz_f2 pc wc l x y i' r) (hx : x = i) (hy : y = (zz_lo (wc j).toNatClampNeg : Int)) (hj : (j : Int) = i) (hi : i' = i - 1) (hp : l < (zz_lo (wc j).toNatClampNeg : Int)) (hq : (zz_lo (wc j).toNatClampNeg : Int) < fl) : zz_f2 pc wc l f fl i r := by
  unfold zz_f2 at h ⊢
  subst hx
  subst hy
  rw [zz_i1 hj, zz_sg_top]
  rw [show (i' + 1).toNat = j by omega] at h
  rcases h with ⟨h1, h2⟩ | ⟨h1, h2, m, h3, h4, h5, h6⟩
  · refine Or.inr ⟨by omega, by omega, zz_lo (wc j).toNatClampNeg, hp, hq, fun z hz hl => ?_, ?_⟩
    · rcases List.mem_cons.mp hz with c | c
      · rw [c]; exact Nat.le_refl _
      · have := h2 z c; omega
    · rw [List.find?_cons_of_pos (by rw [beq_iff_eq]), show r.toNat = j by omega]
  · refine Or.inr ⟨h1, by omega, m, h3, by omega, fun z hz hl => ?_, ?_⟩
    · rcases List.mem_cons.mp hz with c | c
      · rw [c]; show m ≤ zz_lo (wc j).toNatClampNeg; omega
      · exact h5 z c hl
    · rw [List.find?_cons_of_neg (by rw [beq_iff_eq]; show ¬ zz_lo (wc j).toNatClampNeg = m; omega)]
      exact h6
-- take
def zz_pki (pc wc : Nat → Int32) (sz : Int) (n : Nat) (i : Int) : Prop := 0 ≤ i ∧ i < sz ∧ zz_pk n (zz_sg pc wc 0 sz.toNat) ((pc i.toNat).toNatClampNeg, (wc i.toNat).toNatClampNeg)
theorem zz_pki_1 {pc wc : Nat → Int32} {sz i r : Int} {n : Nat} (h : zz_f1 pc wc n i r) (hi : i = sz - 1) (hr : r ≠ -1) : zz_pki pc wc sz n r := by
  rcases h with ⟨h, _⟩ | ⟨h1, h2, h3⟩
  · exact absurd h hr
  · rw [show (i + 1).toNat = sz.toNat by omega] at h3
    exact ⟨h1, by omega, Or.inl h3⟩
theorem zz_pki_2 {pc wc : Nat → Int32} {sz i r i2 r2 l f fl : Int} {n : Nat} (h : zz_f1 pc wc n i r) (hi : i = sz - 1) (hr : r = -1) (g : zz_f2 pc wc l f fl i2 r2) (hi2 : i2 = sz - 1) (hf : f = -1) (hr2 : r2 ≠ -1) (hl : l = (zz_lo n : Int)) : zz_pki pc wc sz n r2 := by
  rcases h with ⟨_, h⟩ | ⟨h1, _⟩
  · rcases g with ⟨g, _⟩ | ⟨g1, g2, m, g3, g4, g5, g6⟩
    · omega
    · rw [show (i + 1).toNat = sz.toNat by omega] at h
      rw [show (i2 + 1).toNat = sz.toNat by omega] at g5 g6
      exact ⟨g1, by omega, Or.inr ⟨h, m, by omega, fun y hy hz => g5 y hy (by omega), g6⟩⟩
  · omega
theorem zz_pki_n {w : Int} {pc wc : Nat → Int32} {sz i r i2 r2 l f fl : Int} {n : Nat} (hv : zz_vs w pc wc sz) (hw : w ≤ 1024) (h : zz_f1 pc wc n i r) (hi : i = sz - 1) (hr : r = -1) (g : zz_f2 pc wc l f fl i2 r2) (hi2 : i2 = sz - 1) (hfl : fl = 44) (hr2 : r2 = -1) (hl : l = (zz_lo n : Int)) (hs : 0 ≤ sz) : zz_pn n (zz_sg pc wc 0 sz.toNat) := by
  rcases h with ⟨_, h⟩ | ⟨h1, _⟩
  · rcases g with ⟨_, g⟩ | ⟨g1, _⟩
    · rw [show (i + 1).toNat = sz.toNat by omega] at h
      rw [show (i2 + 1).toNat = sz.toNat by omega] at g
      refine ⟨h, fun y hy hz => ?_⟩
      obtain ⟨k, k1, k2⟩ := zz_sg_mem _ hy
      have v := hv (0 + k) (by omega)
      have e : y.2 = (wc (0 + k)).toNatClampNeg := by rw [k2]
      have := zz_lo_lt y.2 (by rw [e, zz_tn]; omega)
      exact g y hy ⟨by omega, by omega⟩
    · omega
  · omega
def zz_ctk (pc wc : Nat → Int32) (sz : Int) (pc' wc' : Nat → Int32) (sz' : Int) (n : Nat) (r : Int) : Prop := ((zz_sg pc wc 0 sz.toNat).map Prod.fst).Nodup → zz_gtk n (zz_sg pc wc 0 sz.toNat) (zz_sg pc' wc' 0 sz'.toNat) r
theorem zz_ctk_no {pc wc : Nat → Int32} {sz sz' r : Int} {n : Nat} (h : zz_pn n (zz_sg pc wc 0 sz.toNat)) (hr : r = -1) (hs : sz' = sz) : zz_ctk pc wc sz pc wc sz' n r := fun _ => Or.inl ⟨hr, h, by rw [hs]⟩
theorem zz_pki_ge {pc wc : Nat → Int32} {sz : Int} {n : Nat} {x : Int32} (h : zz_pki pc wc sz n x.toInt) (hn : n ≤ 1024) : (n : Int) ≤ ((wc x.toNatClampNeg).toNatClampNeg : Int) := by
  have := zz_pk_ge h.2.2 hn
  have : n ≤ (wc x.toNatClampNeg).toNatClampNeg := this
  omega
theorem zz_ctk_a {pc wc pc1 wc1 : Nat → Int32} {sz sz' r : Int} {n : Nat} {x : Int32} (h : zz_pki pc wc sz n x.toInt) (h1 : zz_rmv pc pc1 x.toInt sz) (h2 : zz_rmv wc wc1 x.toInt sz) (hr : r = (pc x.toNatClampNeg).toInt) (hr0 : 0 ≤ r) (hs : sz' = sz - 1) (hw : (wc x.toNatClampNeg).toInt ≤ (n : Int)) : zz_ctk pc wc sz pc1 wc1 sz' n r := fun nd => by
  obtain ⟨b1, b2, b3⟩ := h
  obtain ⟨e1, e2, _, _⟩ := zz_sg_rm h1 h2 b1 b2
  have er : (pc x.toInt.toNat).toNatClampNeg = r.toNat := by rw [hr]; rfl
  have ew : (wc x.toInt.toNat).toNatClampNeg = (wc x.toNatClampNeg).toInt.toNat := rfl
  rw [er] at b3 e1
  refine Or.inr ⟨hr0, _, b3, ?_⟩
  rw [if_neg (by rw [ew]; omega), hs, e2, e1]
  rw [e1] at nd
  exact (zz_nd_cutX nd).symm
theorem zz_ctk_b {pc wc pc1 wc1 : Nat → Int32} {sz sz1 sz' r : Int} {n k : Nat} {x y z : Int32} (h : zz_pki pc wc sz n x.toInt) (h1 : zz_rmv pc pc1 x.toInt sz) (h2 : zz_rmv wc wc1 x.toInt sz) (hr : r = (pc x.toNatClampNeg).toInt) (hr0 : 0 ≤ r) (hs : sz1 = sz - 1) (hk : (k : Int) = sz1) (hs' : sz' = sz1 + 1) (hw : (n : Int) < (wc x.toNatClampNeg).toInt) (hy : y.toInt = r + (n : Int)) (hz : z.toInt = (wc x.toNatClampNeg).toInt - (n : Int)) : zz_ctk pc wc sz (upd pc1 k y) (upd wc1 k z) sz' n r := fun nd => by
  obtain ⟨b1, b2, b3⟩ := h
  obtain ⟨e1, e2, _, _⟩ := zz_sg_rm h1 h2 b1 b2
  have er : (pc x.toInt.toNat).toNatClampNeg = r.toNat := by rw [hr]; rfl
  have ew : (wc x.toInt.toNat).toNatClampNeg = (wc x.toNatClampNeg).toInt.toNat := rfl
  have ey : y.toNatClampNeg = r.toNat + n := by rw [zz_tn]; omega
  have ez : z.toNatClampNeg = (wc x.toInt.toNat).toNatClampNeg - n := by rw [ew, zz_tn]; omega
  rw [er] at b3 e1
  refine Or.inr ⟨hr0, _, b3, ?_⟩
  rw [if_pos (by rw [ew]; omega), show sz'.toNat = k + 1 by omega, zz_sg_upd, ey, ez, show k = (sz - 1).toNat by omega, e2, e1]
  rw [e1] at nd
  rw [zz_nd_cutX nd]
  rfl
theorem zz_f1_cg {pc wc : Nat → Int32} {n : Nat} {i i' r : Int} (h : zz_f1 pc wc n i r) (hi : i' = i) : zz_f1 pc wc n i' r := by rw [hi]; exact h
theorem zz_f2_cg {pc wc : Nat → Int32} {l f f' fl fl' i i' r : Int} (h : zz_f2 pc wc l f fl i r) (hf : f' = f) (hfl : fl' = fl) (hi : i' = i) : zz_f2 pc wc l f' fl' i' r := by rw [hf, hfl, hi]; exact h
def zz_bgn (w : Int) (pc wc : Nat → Int32) (n : Int) : Prop := n = 1 ∧ (pc 0).toInt = 0 ∧ (wc 0).toInt = w
theorem zz_bgn_mk {w n : Int} {pc wc : Nat → Int32} {k : Nat} {x y : Int32} (hk : (k : Int) = 0) (hn : n = 1) (hx : x.toInt = 0) (hy : y.toInt = w) : zz_bgn w (upd pc k x) (upd wc k y) n := by
  have e : k = 0 := by omega
  subst e
  exact ⟨hn, by rw [zz_updE, if_pos rfl]; exact hx, by rw [zz_updE, if_pos rfl]; exact hy⟩
-- the room's table
def zz_ct (w : Int) (pc sc : Nat → Int32) (B : Int) : Prop := ∀ i : Nat, (i : Int) < B → 0 ≤ (pc i).toInt ∧ 1 ≤ (sc i).toInt ∧ (pc i).toInt + (sc i).toInt ≤ w
theorem zz_ct_at {w : Int} {pc sc : Nat → Int32} {B : Int} (h : zz_ct w pc sc B) (x : Int32) (h0 : 0 ≤ x.toInt) (h1 : x.toInt < B) : 0 ≤ (pc x.toNatClampNeg).toInt ∧ 1 ≤ (sc x.toNatClampNeg).toInt ∧ (pc x.toNatClampNeg).toInt + (sc x.toNatClampNeg).toInt ≤ w := h _ (by have := zz_tnI x h0; omega)
theorem zz_wr_cg {o o' : Nat → Int32} {a e a' e' : Int} {v v' : Int32} (h : zz_wr o o' a e v) (ha : a' = a) (he : e' = e) (hv : v' = v) : zz_wr o o' a' e' v' := by rw [ha, he, hv]; exact h
def zz_ns (nc : Nat → Int32) (v : Int32) (k : Int) : Prop := ∀ i : Nat, (i : Int) < k → nc i ≠ v
theorem zz_ns_0 {nc : Nat → Int32} {v : Int32} {k : Int} (h : k ≤ 0) : zz_ns nc v k := fun i hi => by omega
theorem zz_ns_step {nc : Nat → Int32} {v : Int32} {k k' : Int} {j : Nat} (h : zz_ns nc v k) (hj : (j : Int) = k) (hv : (nc j).toInt ≠ v.toInt) (hk : k' = k + 1) : zz_ns nc v k' := fun i hi => by
  by_cases c : i = j
  · rw [c]; exact fun e => hv (by rw [e])
  · exact h i (by omega)
def zz_so (nc : Nat → Int32) (v : Int32) (B r : Int) : Prop := (r = -1 ∧ zz_ns nc v B) ∨ (0 ≤ r ∧ r < B ∧ nc r.toNat = v)
theorem zz_so_no {nc : Nat → Int32} {v : Int32} {B r k : Int} (h : zz_ns nc v k) (hk : B ≤ k) (hr : r = -1) : zz_so nc v B r := Or.inl ⟨hr, fun i hi => h i (by omega)⟩
theorem zz_so_yes {nc : Nat → Int32} {v : Int32} {B r : Int} {j : Nat} (hj : (j : Int) = r) (hv : (nc j).toInt = v.toInt) (hr : r < B) : zz_so nc v B r := Or.inr ⟨by omega, hr, by rw [show r.toNat = j by omega]; exact Int32.toInt_inj.mp hv⟩
def zz_mv (f g : Nat → Int32) (i n : Int) : Prop := g = upd f i.toNat (f (n - 1).toNat)
theorem zz_mv_mk {f : Nat → Int32} {i n : Int} {a b : Nat} (ha : (a : Int) = i) (hb : (b : Int) = n - 1) : zz_mv f (upd f a (f b)) i n := by
  unfold zz_mv
  rw [show i.toNat = a by omega, show (n - 1).toNat = b by omega]
-- takeBack
def zz_tF (pc wc : Nat → Int32) (n i p s : Int) : List (Nat × Nat) := zz_sg pc wc (i + 1).toNat (n - 1 - i).toNat ++ (zz_sg pc wc 0 (i + 1).toNat).filter (zz_kp p.toNat s.toNat)
theorem zz_kp_t {p n : Nat} {x : Nat × Nat} : zz_kp p n x = true ↔ x.1 + x.2 ≠ p ∧ x.1 ≠ p + n := by
  unfold zz_kp
  simp
theorem zz_tF_keep {pc wc : Nat → Int32} {n i i' p s : Int} {j : Nat} (hj : (j : Int) = i) (hi : i' = i - 1) (hn : i < n) (hk : zz_kp p.toNat s.toNat ((pc j).toNatClampNeg, (wc j).toNatClampNeg) = true) : zz_tF pc wc n i p s = zz_tF pc wc n i' p s := by
  unfold zz_tF
  rw [zz_i1 hj, zz_sg_top, List.filter_cons_of_pos hk, show (i' + 1).toNat = j by omega, show (n - 1 - i').toNat = 1 + (n - 1 - i).toNat by omega, zz_sg_app, zz_sg_s, List.append_assoc]
  rfl
theorem zz_tF_drop {pc wc pc' wc' : Nat → Int32} {n n' i i' p s : Int} {j : Nat} (h1 : zz_rmv pc pc' i n) (h2 : zz_rmv wc wc' i n) (hj : (j : Int) = i) (hi : i' = i - 1) (hn : i < n) (hn' : n' = n - 1) (hk : ¬ zz_kp p.toNat s.toNat ((pc j).toNatClampNeg, (wc j).toNatClampNeg) = true) : zz_tF pc wc n i p s = zz_tF pc' wc' n' i' p s := by
  obtain ⟨_, _, a1, a2⟩ := zz_sg_rm h1 h2 (by omega) hn
  unfold zz_tF
  rw [zz_i1 hj, zz_sg_top, List.filter_cons_of_neg hk, show (i' + 1).toNat = i.toNat by omega, show (n' - 1 - i').toNat = (n - 1 - i).toNat by omega, a1, a2, show (i + 1).toNat = j + 1 by omega, show i.toNat = j by omega]
def zz_tlen (pc wc : Nat → Int32) (n i p s : Int) : Prop := (zz_tF pc wc n i p s).length ≤ 200
theorem zz_tlen_keep {pc wc : Nat → Int32} {n i i' p s : Int} {j : Nat} (h : zz_tlen pc wc n i p s) (hj : (j : Int) = i) (hi : i' = i - 1) (hn : i < n) (hp : 0 ≤ p) (hs : 0 ≤ s) (h0 : 0 ≤ (pc j).toInt) (h1 : 0 ≤ (wc j).toInt) (k1 : (pc j).toInt + (wc j).toInt ≠ p) (k2 : (pc j).toInt ≠ p + s) : zz_tlen pc wc n i' p s := by
  unfold zz_tlen at h ⊢
  rw [← zz_tF_keep hj hi hn (zz_kp_t.mpr ⟨by show (pc j).toNatClampNeg + (wc j).toNatClampNeg ≠ p.toNat; rw [zz_tn, zz_tn]; omega, by show (pc j).toNatClampNeg ≠ p.toNat + s.toNat; rw [zz_tn]; omega⟩)]
  exact h
theorem zz_tlen_drop {pc wc pc' wc' : Nat → Int32} {n n' i i' p s : Int} {j : Nat} (h : zz_tlen pc wc n i p s) (h1 : zz_rmv pc pc' i n) (h2 : zz_rmv wc wc' i n) (hj : (j : Int) = i) (hi : i' = i - 1) (hn : i < n) (hn' : n' = n - 1) (hp : 0 ≤ p) (hs : 0 ≤ s) (h3 : 0 ≤ (pc j).toInt) (h4 : 0 ≤ (wc j).toInt) (hk : (pc j).toInt + (wc j).toInt = p ∨ (pc j).toInt = p + s) : zz_tlen pc' wc' n' i' p s := by
  unfold zz_tlen at h ⊢
  rw [← zz_tF_drop h1 h2 hj hi hn hn' (by rw [zz_kp_t]; rintro ⟨c1, c2⟩; have c1 : (pc j).toNatClampNeg + (wc j).toNatClampNeg ≠ p.toNat := c1; have c2 : (pc j).toNatClampNeg ≠ p.toNat + s.toNat := c2; rw [zz_tn, zz_tn] at c1; rw [zz_tn] at c2; omega)]
  exact h
theorem zz_tlen_end {pc wc : Nat → Int32} {n i p s : Int} (h : zz_tlen pc wc n i p s) (hi : i = -1) : n ≤ 200 := by
  unfold zz_tlen zz_tF at h
  rw [hi, List.length_append, zz_sg_len] at h
  omega
def zz_tpo (pc wc : Nat → Int32) (n i b e p s : Int) (pc' wc' : Nat → Int32) (n' : Int) : Prop := zz_sg pc' wc' 0 n'.toNat = (zz_tbB p.toNat (zz_sg pc wc 0 (i + 1).toNat) b.toNat, zz_tbE p.toNat s.toNat (zz_sg pc wc 0 (i + 1).toNat) e.toNat - zz_tbB p.toNat (zz_sg pc wc 0 (i + 1).toNat) b.toNat) :: zz_tF pc wc n i p s
theorem zz_tpo_end {pc wc : Nat → Int32} {n i b e p s n' : Int} {k : Nat} {x y : Int32} (hi : i = -1) (hk : (k : Int) = n) (hn' : n' = n + 1) (hx : x.toInt = b) (hy : y.toInt = e - b) (hb : 0 ≤ b) : zz_tpo pc wc n i b e p s (upd pc k x) (upd wc k y) n' := by
  unfold zz_tpo zz_tF
  rw [hi, show n'.toNat = k + 1 by omega, zz_sg_upd, show ((-1 : Int) + 1).toNat = 0 from rfl, show (n - 1 - (-1)).toNat = k by omega]
  have ex : x.toNatClampNeg = b.toNat := by rw [zz_tn, hx]
  have ey : y.toNatClampNeg = e.toNat - b.toNat := by rw [zz_tn]; omega
  rw [ex, ey]
  show (b.toNat, e.toNat - b.toNat) :: zz_sg pc wc 0 k = (b.toNat, e.toNat - b.toNat) :: (zz_sg pc wc 0 k ++ [])
  rw [List.append_nil]
theorem zz_tpo_keep {pc wc pc' wc' : Nat → Int32} {n i i' b e p s n' : Int} {j : Nat} (h : zz_tpo pc wc n i' b e p s pc' wc' n') (hj : (j : Int) = i) (hi : i' = i - 1) (hn : i < n) (hp : 0 ≤ p) (hs : 0 ≤ s) (h0 : 0 ≤ (pc j).toInt) (h1 : 0 ≤ (wc j).toInt) (k1 : (pc j).toInt + (wc j).toInt ≠ p) (k2 : (pc j).toInt ≠ p + s) : zz_tpo pc wc n i b e p s pc' wc' n' := by
  have c1 : (pc j).toNatClampNeg + (wc j).toNatClampNeg ≠ p.toNat := by rw [zz_tn, zz_tn]; omega
  have c2 : (pc j).toNatClampNeg ≠ p.toNat + s.toNat := by rw [zz_tn]; omega
  unfold zz_tpo at h ⊢
  rw [zz_tF_keep hj hi hn (zz_kp_t.mpr ⟨c1, c2⟩), h, zz_i1 hj, zz_sg_top, show (i' + 1).toNat = j by omega]
  show _ = (zz_tbB p.toNat (zz_sg pc wc 0 j) (if (pc j).toNatClampNeg + (wc j).toNatClampNeg = p.toNat then (pc j).toNatClampNeg else b.toNat), zz_tbE p.toNat s.toNat (zz_sg pc wc 0 j) (if (pc j).toNatClampNeg + (wc j).toNatClampNeg ≠ p.toNat ∧ (pc j).toNatClampNeg = p.toNat + s.toNat then (pc j).toNatClampNeg + (wc j).toNatClampNeg else e.toNat) - zz_tbB p.toNat (zz_sg pc wc 0 j) (if (pc j).toNatClampNeg + (wc j).toNatClampNeg = p.toNat then (pc j).toNatClampNeg else b.toNat)) :: _
  rw [if_neg c1, if_neg (fun z => c2 z.2)]
theorem zz_tpo_left {pc wc pc1 wc1 pc' wc' : Nat → Int32} {n n1 i i' b b1 e p s n' : Int} {j : Nat} (h : zz_tpo pc1 wc1 n1 i' b1 e p s pc' wc' n') (h1 : zz_rmv pc pc1 i n) (h2 : zz_rmv wc wc1 i n) (hj : (j : Int) = i) (hi : i' = i - 1) (hn : i < n) (hn1 : n1 = n - 1) (hp : 0 ≤ p) (hs : 0 ≤ s) (h3 : 0 ≤ (pc j).toInt) (h4 : 0 ≤ (wc j).toInt) (k1 : (pc j).toInt + (wc j).toInt = p) (hb : b1 = (pc j).toInt) : zz_tpo pc wc n i b e p s pc' wc' n' := by
  have c1 : (pc j).toNatClampNeg + (wc j).toNatClampNeg = p.toNat := by rw [zz_tn, zz_tn]; omega
  have a2 := (zz_sg_rm h1 h2 (by omega) hn).2.2.2
  unfold zz_tpo at h ⊢
  rw [zz_tF_drop h1 h2 hj hi hn hn1 (by rw [zz_kp_t]; exact fun z => z.1 c1), h, zz_i1 hj, zz_sg_top, show (i' + 1).toNat = i.toNat by omega, a2, show i.toNat = j by omega]
  show _ = (zz_tbB p.toNat (zz_sg pc wc 0 j) (if (pc j).toNatClampNeg + (wc j).toNatClampNeg = p.toNat then (pc j).toNatClampNeg else b.toNat), zz_tbE p.toNat s.toNat (zz_sg pc wc 0 j) (if (pc j).toNatClampNeg + (wc j).toNatClampNeg ≠ p.toNat ∧ (pc j).toNatClampNeg = p.toNat + s.toNat then (pc j).toNatClampNeg + (wc j).toNatClampNeg else e.toNat) - zz_tbB p.toNat (zz_sg pc wc 0 j) (if (pc j).toNatClampNeg + (wc j).toNatClampNeg = p.toNat then (pc j).toNatClampNeg else b.toNat)) :: _
  rw [if_pos c1, if_neg (fun z => z.1 c1), show b1.toNat = (pc j).toNatClampNeg by rw [zz_tn, hb]]
theorem zz_tpo_right {pc wc pc1 wc1 pc' wc' : Nat → Int32} {n n1 i i' b e e1 p s n' : Int} {j : Nat} (h : zz_tpo pc1 wc1 n1 i' b e1 p s pc' wc' n') (h1 : zz_rmv pc pc1 i n) (h2 : zz_rmv wc wc1 i n) (hj : (j : Int) = i) (hi : i' = i - 1) (hn : i < n) (hn1 : n1 = n - 1) (hp : 0 ≤ p) (hs : 0 ≤ s) (h3 : 0 ≤ (pc j).toInt) (h4 : 0 ≤ (wc j).toInt) (k1 : (pc j).toInt + (wc j).toInt ≠ p) (k2 : (pc j).toInt = p + s) (he : e1 = (pc j).toInt + (wc j).toInt) : zz_tpo pc wc n i b e p s pc' wc' n' := by
  have c1 : (pc j).toNatClampNeg + (wc j).toNatClampNeg ≠ p.toNat := by rw [zz_tn, zz_tn]; omega
  have c2 : (pc j).toNatClampNeg = p.toNat + s.toNat := by rw [zz_tn]; omega
  have a2 := (zz_sg_rm h1 h2 (by omega) hn).2.2.2
  unfold zz_tpo at h ⊢
  rw [zz_tF_drop h1 h2 hj hi hn hn1 (by rw [zz_kp_t]; exact fun z => z.2 c2), h, zz_i1 hj, zz_sg_top, show (i' + 1).toNat = i.toNat by omega, a2, show i.toNat = j by omega]
  show _ = (zz_tbB p.toNat (zz_sg pc wc 0 j) (if (pc j).toNatClampNeg + (wc j).toNatClampNeg = p.toNat then (pc j).toNatClampNeg else b.toNat), zz_tbE p.toNat s.toNat (zz_sg pc wc 0 j) (if (pc j).toNatClampNeg + (wc j).toNatClampNeg ≠ p.toNat ∧ (pc j).toNatClampNeg = p.toNat + s.toNat then (pc j).toNatClampNeg + (wc j).toNatClampNeg else e.toNat) - zz_tbB p.toNat (zz_sg pc wc 0 j) (if (pc j).toNatClampNeg + (wc j).toNatClampNeg = p.toNat then (pc j).toNatClampNeg else b.toNat)) :: _
  rw [if_neg c1, if_pos ⟨c1, c2⟩, show e1.toNat = (pc j).toNatClampNeg + (wc j).toNatClampNeg by rw [zz_tn, zz_tn]; omega]
/-- the whole of takeBack -/
def zz_ctb (pc wc : Nat → Int32) (n p s : Int) (pc' wc' : Nat → Int32) (n' : Int) : Prop := zz_sg pc' wc' 0 n'.toNat = zz_btb p.toNat s.toNat (zz_sg pc wc 0 n.toNat)
theorem zz_ctb_mk {pc wc : Nat → Int32} {n i b e p s n' : Int} {pc' wc' : Nat → Int32} (h : zz_tpo pc wc n i b e p s pc' wc' n') (hi : i = n - 1) (hb : b = p) (he : e = p + s) (hp : 0 ≤ p) (hs : 0 ≤ s) : zz_ctb pc wc n p s pc' wc' n' := by
  unfold zz_tpo zz_tF at h
  unfold zz_ctb zz_btb
  rw [h, show (i + 1).toNat = n.toNat by omega, show (n - 1 - i).toNat = 0 by omega, show b.toNat = p.toNat by omega, show e.toNat = p.toNat + s.toNat by omega]
  rfl
def zz_tln (pc wc : Nat → Int32) (n p s : Int) : Prop := ((zz_sg pc wc 0 n.toNat).filter (zz_kp p.toNat s.toNat)).length ≤ 200
theorem zz_tln_i {pc wc : Nat → Int32} {n i p s : Int} (h : zz_tln pc wc n p s) (hi : i = n - 1) : zz_tlen pc wc n i p s := by
  unfold zz_tlen zz_tF
  rw [show (i + 1).toNat = n.toNat by omega, show (n - 1 - i).toNat = 0 by omega]
  exact h
-- placeInList
def zz_pil (R : List (Nat × Nat)) (l : Nat) (d r : Int) : Prop := (0 ≤ d ∧ ∃ x : Nat × Nat, (R.filter (fun x => zz_lo x.2 == l))[d.toNat]? = some x ∧ r = (x.1 : Int)) ∨ ((d < 0 ∨ (R.filter (fun x => zz_lo x.2 == l))[d.toNat]? = none) ∧ r = -1)
def zz_pi (pc wc : Nat → Int32) (i l d r : Int) : Prop := zz_pil (zz_sg pc wc 0 (i + 1).toNat) l.toNat d r
theorem zz_pi_no {pc wc : Nat → Int32} {i l d r : Int} (hi : i < 0) (hr : r = -1) : zz_pi pc wc i l d r := by
  unfold zz_pi
  rw [show (i + 1).toNat = 0 by omega]
  exact Or.inr ⟨Or.inr rfl, hr⟩
theorem zz_pi_skip {pc wc : Nat → Int32} {i i' l d r : Int} {j : Nat} (h : zz_pi pc wc i' l d r) (hj : (j : Int) = i) (hi : i' = i - 1) (hl : 0 ≤ l) (hp : (zz_lo (wc j).toNatClampNeg : Int) ≠ l) : zz_pi pc wc i l d r := by
  unfold zz_pi zz_pil at h ⊢
  rw [zz_i1 hj, zz_sg_top, List.filter_cons_of_neg (by rw [beq_iff_eq]; show ¬ zz_lo (wc j).toNatClampNeg = l.toNat; omega)]
  rw [show (i' + 1).toNat = j by omega] at h
  exact h
theorem zz_pi_hit {pc wc : Nat → Int32} {i l d r : Int} {j : Nat} (hj : (j : Int) = i) (hl : 0 ≤ l) (hp : (zz_lo (wc j).toNatClampNeg : Int) = l) (hd : d = 0) (h0 : 0 ≤ (pc j).toInt) (hr : r = (pc j).toInt) : zz_pi pc wc i l d r := by
  unfold zz_pi zz_pil
  rw [zz_i1 hj, zz_sg_top, List.filter_cons_of_pos (by rw [beq_iff_eq]; show zz_lo (wc j).toNatClampNeg = l.toNat; omega)]
  refine Or.inl ⟨by omega, ((pc j).toNatClampNeg, (wc j).toNatClampNeg), by rw [hd]; rfl, ?_⟩
  show r = ((pc j).toNatClampNeg : Int)
  rw [zz_tn]
  omega
theorem zz_pi_next {pc wc : Nat → Int32} {i i' l d d' r : Int} {j : Nat} (h : zz_pi pc wc i' l d' r) (hj : (j : Int) = i) (hi : i' = i - 1) (hl : 0 ≤ l) (hp : (zz_lo (wc j).toNatClampNeg : Int) = l) (hd : d ≠ 0) (hd' : d' = d - 1) : zz_pi pc wc i l d r := by
  unfold zz_pi zz_pil at h ⊢
  rw [zz_i1 hj, zz_sg_top, List.filter_cons_of_pos (by rw [beq_iff_eq]; show zz_lo (wc j).toNatClampNeg = l.toNat; omega)]
  rw [show (i' + 1).toNat = j by omega] at h
  rcases h with ⟨h1, x, h2, h3⟩ | ⟨h1, h2⟩
  · exact Or.inl ⟨by omega, x, by rw [show d.toNat = d'.toNat + 1 by omega, List.getElem?_cons_succ]; exact h2, h3⟩
  · refine Or.inr ⟨?_, h2⟩
    rcases h1 with h1 | h1
    · exact Or.inl (by omega)
    · by_cases c : d < 0
      · exact Or.inl c
      · exact Or.inr (by rw [show d.toNat = d'.toNat + 1 by omega, List.getElem?_cons_succ]; exact h1)
theorem zz_pi_all {pc wc : Nat → Int32} {i l d r n : Int} (h : zz_pi pc wc i l d r) (hi : i = n - 1) : zz_pil (zz_sg pc wc 0 n.toNat) l.toNat d r := by
  unfold zz_pi at h
  rw [show (i + 1).toNat = n.toNat by omega] at h
  exact h

/-! slots, blocks, what a call leaves -/
def zz_L7 (w : Int) (o li lm : Nat → Int32) : Prop := zz_rep li lm (zz_S o w.toNat)
theorem zz_tn (x : Int32) : x.toNatClampNeg = x.toInt.toNat := rfl
def zz_sq (w : Int) (o : Nat → Int32) (a e : Int) : Prop := a ≤ e ∧ (∀ x : Nat, a ≤ (x : Int) → (x : Int) < e → (o x).toInt = -1) ∧ (w ≤ e ∨ (o e.toNat).toInt ≠ -1) ∧ (e ≤ w ∨ e = a)
theorem zz_sq_nilW {w : Int} {o : Nat → Int32} {a e : Int} (h : e = a) (hw : w ≤ a) : zz_sq w o a e := ⟨by omega, fun x h1 h2 => by omega, Or.inl (by omega), Or.inr h⟩
theorem zz_sq_nil {w : Int} {o : Nat → Int32} {a e : Int} {i : Nat} (ho : (o i).toInt ≠ -1) (h : e = a) (hi : (i : Int) = a) : zz_sq w o a e := ⟨by omega, fun x h1 h2 => by omega, Or.inr (by rw [show e.toNat = i by omega]; exact ho), Or.inr h⟩
theorem zz_sq_step {w : Int} {o : Nat → Int32} {a a' e e' : Int} {i : Nat} (hs : zz_sq w o a' e') (ho : (o i).toInt = -1) (he : e' = e) (ha : a' = a + 1) (hi : (i : Int) = a) (hw : a < w) : zz_sq w o a e := by
  subst he
  refine ⟨by have := hs.1; omega, fun x h1 h2 => ?_, hs.2.2.1, by have := hs.2.2.2; omega⟩
  by_cases c : x = i
  · rw [c]; exact ho
  · exact hs.2.1 x (by omega) h2
theorem zz_sq_rn {w : Int} {o : Nat → Int32} {p e : Int} {v : Nat} (hr : zz_rn o w.toNat p.toNat v) (hp : 0 ≤ p) (hw : 0 ≤ w) (hs : zz_sq w o p e) : e = p + v := by
  obtain ⟨a1, a2, a3, a4, a5⟩ := hr
  obtain ⟨b1, b2, b3, b4⟩ := hs
  rcases Int.lt_trichotomy e (p + v) with c | c | c
  · have := a3 e.toNat (by omega) (by omega); omega
  · exact c
  · have := b2 (p.toNat + v) (by omega) (by omega); omega
-- fromList, toList
def zz_inl (li lm : Nat → Int32) (p l k0 : Int32) : Prop := ∃ k : Nat, k0.toInt ≤ (k : Int) ∧ (k : Int) < (lm l.toNatClampNeg).toInt ∧ (li (1024 * l.toNatClampNeg + k)).toInt = p.toInt
theorem zz_inl_lt {li lm : Nat → Int32} {p l k0 : Int32} (h : zz_inl li lm p l k0) : k0.toInt < (lm l.toNatClampNeg).toInt := by obtain ⟨k, h1, h2, _⟩ := h; omega
theorem zz_inl_step {li lm : Nat → Int32} {p l k0 k1 : Int32} {i : Nat} (h : zz_inl li lm p l k0) (hne : (li i).toInt ≠ p.toInt) (hi : (i : Int) = 1024 * l.toInt + k0.toInt) (hl : 0 ≤ l.toInt) (h0 : 0 ≤ k0.toInt) (h1 : k1.toInt = k0.toInt + 1) : zz_inl li lm p l k1 := by
  obtain ⟨k, a1, a2, a3⟩ := h
  have e1 := zz_tnI l hl
  refine ⟨k, ?_, a2, a3⟩
  by_cases c : (k : Int) = k0.toInt
  · exfalso
    rw [show 1024 * l.toNatClampNeg + k = i by omega] at a3
    exact hne a3
  · omega
def zz_in (li lm : Nat → Int32) (p v : Int32) : Prop := ∃ k : Nat, (k : Int) < (lm (zz_lo v.toNatClampNeg)).toInt ∧ (li (1024 * zz_lo v.toNatClampNeg + k)).toInt = p.toInt
theorem zz_in_l {li lm : Nat → Int32} {p v l k : Int32} (h : zz_in li lm p v) (hl : l.toInt = (zz_lo v.toNatClampNeg : Int)) (hk : k.toInt = 0) : zz_inl li lm p l k := by
  obtain ⟨k, a1, a2⟩ := h
  have e1 := zz_tnI l (by omega)
  have e2 : l.toNatClampNeg = zz_lo v.toNatClampNeg := by omega
  exact ⟨k, by omega, by rw [e2]; exact a1, by rw [e2]; exact a2⟩
def zz_FLk (li lm g m : Nat → Int32) (p : Int32) (l : Nat) : Prop := ∃ j : Nat, (j : Int) < (lm l).toInt ∧ (li (1024 * l + j)).toInt = p.toInt ∧ zz_FL li g l j ((lm l).toInt - 1) ∧ (m l).toInt = (lm l).toInt - 1 ∧ ∀ j, j ≠ l → m j = lm j
theorem zz_FLk_mk {li lm g m : Nat → Int32} {p l k v : Int32} {i : Nat} (hF : zz_FL li g l.toInt k.toInt (upd lm l.toNatClampNeg v l.toNatClampNeg).toInt) (hm : m = upd lm l.toNatClampNeg v) (hp : (li i).toInt = p.toInt) (hi : (i : Int) = 1024 * l.toInt + k.toInt) (hl : 0 ≤ l.toInt) (hk : 0 ≤ k.toInt) (hlt : k.toInt < (lm l.toNatClampNeg).toInt) (hv : v.toInt = (lm l.toNatClampNeg).toInt - 1) : zz_FLk li lm g m p l.toNatClampNeg := by
  have e1 := zz_tnI l hl
  have e2 := zz_tnI k hk
  rw [zz_updE, if_pos rfl, hv] at hF
  refine ⟨k.toNatClampNeg, by omega, by rw [show 1024 * l.toNatClampNeg + k.toNatClampNeg = i by omega]; exact hp, by rw [e1, e2]; exact hF, by rw [hm, zz_updE, if_pos rfl]; exact hv, fun j hj => by rw [hm, zz_updE, if_neg hj]⟩
def zz_FLm (li lm g m : Nat → Int32) (p v : Int32) : Prop := zz_FLk li lm g m p (zz_lo v.toNatClampNeg)
theorem zz_FLm_mk {li lm g m : Nat → Int32} {p l v : Int32} (h : zz_FLk li lm g m p l.toNatClampNeg) (hl : l.toInt = (zz_lo v.toNatClampNeg : Int)) : zz_FLm li lm g m p v := by
  have e1 := zz_tnI l (by omega)
  have e2 : l.toNatClampNeg = zz_lo v.toNatClampNeg := by omega
  rw [e2] at h; exact h
def zz_TLm (li lm g m : Nat → Int32) (p v : Int32) : Prop := zz_TL li g (zz_lo v.toNatClampNeg : Int) (lm (zz_lo v.toNatClampNeg)).toInt p ∧ (m (zz_lo v.toNatClampNeg)).toInt = (lm (zz_lo v.toNatClampNeg)).toInt + 1 ∧ ∀ j, j ≠ zz_lo v.toNatClampNeg → m j = lm j
theorem zz_TLm_mk {li lm g m : Nat → Int32} {p v l u : Int32} (h : zz_TL li g l.toInt (lm l.toNatClampNeg).toInt p) (hm : m = upd lm l.toNatClampNeg u) (hl : l.toInt = (zz_lo v.toNatClampNeg : Int)) (hu : u.toInt = (lm l.toNatClampNeg).toInt + 1) : zz_TLm li lm g m p v := by
  have e1 := zz_tnI l (by omega)
  have e2 : l.toNatClampNeg = zz_lo v.toNatClampNeg := by omega
  rw [hl, e2] at h
  rw [e2] at hu hm
  exact ⟨h, by rw [hm, zz_updE, if_pos rfl]; exact hu, fun j hj => by rw [hm, zz_updE, if_neg hj]⟩
theorem zz_rep_toM {li lm g m : Nat → Int32} {S : Nat → Nat → Prop} {p v : Int32} (h : zz_rep li lm S) (hv : v.toInt ≤ 1024) (hp : 0 ≤ p.toInt) (hm : ∀ j, j < 44 → 0 ≤ (lm j).toInt ∧ (lm j).toInt ≤ 1000) (hT : zz_TLm li lm g m p v) (hS : ¬ S (zz_lo v.toNatClampNeg) p.toInt.toNat) : zz_rep g m (fun l' q => S l' q ∨ (l' = zz_lo v.toNatClampNeg ∧ (q : Int) = p.toInt)) :=
  zz_rep_to h (zz_lo_lt _ (by rw [zz_tn]; omega)) hp hm hT.1 hT.2.1 hT.2.2 hS
theorem zz_rep_fromM {li lm g m : Nat → Int32} {S : Nat → Nat → Prop} {p v : Int32} (h : zz_rep li lm S) (hv : v.toInt ≤ 1024) (hm : ∀ j, j < 44 → 0 ≤ (lm j).toInt ∧ (lm j).toInt ≤ 1000) (hT : zz_FLm li lm g m p v) : zz_rep g m (fun l' q => S l' q ∧ ¬ (l' = zz_lo v.toNatClampNeg ∧ (q : Int) = p.toInt)) := by
  obtain ⟨j, a1, a2, a3, a4, a5⟩ := hT
  exact zz_rep_from h (zz_lo_lt _ (by rw [zz_tn]; omega)) hm a1 a2 a3 a4 a5
theorem zz_rwL {T : Nat} {m : Nat → Int32} (hT : T ≤ 900) (h : zz_row 44 (rwL T) m) : ∀ j, j < 44 → 0 ≤ (m j).toInt ∧ (m j).toInt ≤ 1000 := fun j hj => by have := h j hj; omega
theorem zz_rwL1' {T : Nat} {m : Nat → Int32} (hT : T ≤ 900) (h : zz_row 44 (rwL1 T) m) : ∀ j, j < 44 → 0 ≤ (m j).toInt ∧ (m j).toInt ≤ 1000 := fun j hj => by have := h j hj; omega
-- levels
theorem zz_L7_ent {w : Int} {o li lm : Nat → Int32} {i l : Nat} {k : Int} (h : zz_L7 w o li lm) (hl : l < 44) (hi : (i : Int) = 1024 * l + k) (hk : 0 ≤ k) (hlt : k < (lm l).toInt) : ∃ v : Nat, 0 ≤ (li i).toInt ∧ zz_rn o w.toNat (li i).toInt.toNat v ∧ zz_lo v = l := by
  obtain ⟨p, e, v, h1, h2⟩ := (h l hl).1 k.toNat (by omega)
  rw [show 1024 * l + k.toNat = i by omega] at e
  exact ⟨v, by omega, by rw [show (li i).toInt.toNat = p by omega]; exact h1, h2⟩
theorem zz_L7_rg {w : Int} {o li lm : Nat → Int32} {i l : Nat} {k : Int} (h : zz_L7 w o li lm) (hl : l < 44) (hi : (i : Int) = 1024 * l + k) (hk : 0 ≤ k) (hlt : k < (lm l).toInt) (hw : w ≤ 1024) : 0 ≤ (li i).toInt ∧ (li i).toInt ≤ 1024 := by
  obtain ⟨v, a1, a2, _⟩ := zz_L7_ent h hl hi hk hlt
  have := a2.2.1
  omega
def zz_fd (w : Int) (o : Nat → Int32) (x n : Int32) : Prop := x.toInt < 0 ∨ (0 ≤ x.toInt ∧ ∃ v : Nat, zz_rn o w.toNat x.toInt.toNat v ∧ n.toInt ≤ (v : Int))
theorem zz_fd_a {w : Int} {o li lm : Nat → Int32} {i l : Nat} {k e : Int} {n : Int32} (h : zz_L7 w o li lm) (hs : zz_sq w o (li i).toInt e) (hl : l < 44) (hi : (i : Int) = 1024 * l + k) (hk : 0 ≤ k) (hlt : k < (lm l).toInt) (hw : 0 ≤ w) (hn : (li i).toInt + n.toInt ≤ e) : zz_fd w o (li i) n := by
  obtain ⟨v, a1, a2, _⟩ := zz_L7_ent h hl hi hk hlt
  have := zz_sq_rn a2 a1 hw hs
  exact Or.inr ⟨a1, v, a2, by omega⟩
theorem zz_fd_b {w : Int} {o li lm : Nat → Int32} {i l : Nat} {n : Int32} (h : zz_L7 w o li lm) (hl : l < 44) (hi : (i : Int) = 1024 * l) (hlt : 0 < (lm l).toInt) (hn : 0 ≤ n.toInt) (hn2 : n.toInt ≤ 1024) (hlo : (zz_lo n.toNatClampNeg : Int) < l) : zz_fd w o (li i) n := by
  obtain ⟨v, a1, a2, a3⟩ := zz_L7_ent (k := 0) (i := i) h hl (by omega) (Int.le_refl _) hlt
  have e := zz_tnI n hn
  have := zz_lo_gt (u := n.toNatClampNeg) (v := v) (by omega) (by omega)
  exact Or.inr ⟨a1, v, a2, by omega⟩
theorem zz_fd_v {w : Int} {o : Nat → Int32} {x n r : Int32} {e : Int} (h : zz_fd w o x n) (hs : zz_sq w o x.toInt e) (hx : 0 ≤ x.toInt) (hw : 0 ≤ w) (he : e = x.toInt + r.toInt) : zz_rn o w.toNat x.toInt.toNat r.toInt.toNat ∧ 1 ≤ r.toInt ∧ n.toInt ≤ r.toInt ∧ x.toInt + r.toInt ≤ w := by
  rcases h with h | ⟨_, v, a2, a3⟩
  · omega
  · have := zz_sq_rn a2 hx hw hs
    have b1 := a2.1
    have b2 := a2.2.1
    exact ⟨by rw [show r.toInt.toNat = v by omega]; exact a2, by omega, by omega, by omega⟩
theorem zz_rn_in {w : Int} {o li lm : Nat → Int32} {x r : Int32} (h : zz_L7 w o li lm) (hr : zz_rn o w.toNat x.toInt.toNat r.toInt.toNat) (hx : 0 ≤ x.toInt) (hr2 : r.toInt ≤ 1024) : zz_in li lm x r := by
  obtain ⟨k, a1, a2⟩ := (h (zz_lo r.toNatClampNeg) (zz_lo_lt _ (by rw [zz_tn]; omega))).2.1 x.toInt.toNat ⟨_, hr, rfl⟩
  exact ⟨k, a1, by omega⟩
def zz_G7 (w : Int) (o li lm : Nat → Int32) (p n : Int) : Prop := 0 ≤ p ∧ 1 ≤ n ∧ p + n ≤ w ∧ (∀ x : Nat, p ≤ (x : Int) → (x : Int) < p + n → (o x).toInt = -1) ∧ ∀ o' : Nat → Int32, (∀ x : Nat, (x : Int) < p ∨ p + n ≤ (x : Int) → o' x = o x) → (∀ x : Nat, p ≤ (x : Int) → (x : Int) < p + n → (o' x).toInt ≠ -1) → zz_L7 w o' li lm
theorem zz_G7_a {w : Int} {o li lm g m : Nat → Int32} {x n r : Int32} (h : zz_L7 w o li lm) (hF : zz_FLm li lm g m x r) (hr : zz_rn o w.toNat x.toInt.toNat r.toInt.toNat) (hm : ∀ j, j < 44 → 0 ≤ (lm j).toInt ∧ (lm j).toInt ≤ 1000) (hx : 0 ≤ x.toInt) (hw : 0 ≤ w) (hw2 : w ≤ 1024) (hn : 1 ≤ n.toInt) (hrn : r.toInt = n.toInt) : zz_G7 w o g m x.toInt n.toInt := by
  have b2 := hr.2.1
  refine ⟨hx, hn, by omega, fun y h1 h2 => hr.2.2.1 y (by omega) (by omega), fun o' ho hi => ?_⟩
  refine (zz_rep_fromM h (by omega) hm hF).cg fun l q hl => ?_
  have C := zz_S_cut (o0 := o') (p := x.toInt.toNat) (n := n.toInt.toNat) hr (Nat.le_refl _) (by omega) (by omega) (fun y hy => ho y (by omega)) (fun y h1 h2 => hi y (by omega) (by omega)) l q
  refine Iff.trans ?_ C.symm
  constructor
  · rintro ⟨g1, g2⟩
    exact Or.inl ⟨g1, fun z => g2 ⟨z.1, by omega⟩⟩
  · rintro (⟨g1, g2⟩ | ⟨c, _⟩ | ⟨c, _⟩)
    · exact ⟨g1, fun z => g2 ⟨z.1, by omega⟩⟩
    · omega
    · omega
theorem zz_G7_b {w : Int} {o li lm g m g2 m2 : Nat → Int32} {x n r x2 r2 : Int32} (h : zz_L7 w o li lm) (hF : zz_FLm li lm g m x r) (hT : zz_TLm g m g2 m2 x2 r2) (hr : zz_rn o w.toNat x.toInt.toNat r.toInt.toNat) (hm : ∀ j, j < 44 → 0 ≤ (lm j).toInt ∧ (lm j).toInt ≤ 1000) (hm2 : ∀ j, j < 44 → 0 ≤ (m j).toInt ∧ (m j).toInt ≤ 1000) (hx : 0 ≤ x.toInt) (hw : 0 ≤ w) (hw2 : w ≤ 1024) (hn : 1 ≤ n.toInt) (hrn : n.toInt < r.toInt) (e1 : x2.toInt = x.toInt + n.toInt) (e2 : r2.toInt = r.toInt - n.toInt) : zz_G7 w o g2 m2 x.toInt n.toInt := by
  have b2 := hr.2.1
  refine ⟨hx, hn, by omega, fun y h1 h2 => hr.2.2.1 y (by omega) (by omega), fun o' ho hi => ?_⟩
  have hno : ∀ l, ¬ zz_S o w.toNat l x2.toInt.toNat := fun l => zz_S_no (by omega) (hr.2.2.1 _ (by omega) (by omega))
  refine (zz_rep_toM (zz_rep_fromM h (by omega) hm hF) (by omega) (by omega) hm2 hT (fun z => hno _ z.1)).cg fun l q hl => ?_
  have C := zz_S_cut (o0 := o') (p := x.toInt.toNat) (n := n.toInt.toNat) hr (Nat.le_refl _) (by omega) (by omega) (fun y hy => ho y (by omega)) (fun y h1 h2 => hi y (by omega) (by omega)) l q
  refine Iff.trans ?_ C.symm
  have e3 : r2.toNatClampNeg = x.toInt.toNat + r.toInt.toNat - (x.toInt.toNat + n.toInt.toNat) := by rw [zz_tn]; omega
  rw [e3]
  constructor
  · rintro (⟨g1, g2⟩ | ⟨g1, g2⟩)
    · exact Or.inl ⟨g1, fun z => g2 ⟨z.1, by omega⟩⟩
    · exact Or.inr (Or.inr ⟨by omega, by omega, g1⟩)
  · rintro (⟨g1, g2⟩ | ⟨c, _⟩ | ⟨c, d, e⟩)
    · exact Or.inl ⟨g1, fun z => g2 ⟨z.1, by omega⟩⟩
    · omega
    · exact Or.inr ⟨e, by omega⟩
def zz_lv (w : Int) (o li lm g m : Nat → Int32) (r n : Int) : Prop := (r < 0 → g = li ∧ m = lm) ∧ (0 ≤ r → zz_G7 w o g m r n)
theorem zz_lv_no {w : Int} {o li lm : Nat → Int32} {r n : Int} (h : r < 0) : zz_lv w o li lm li lm r n := ⟨fun _ => ⟨rfl, rfl⟩, fun z => by omega⟩
theorem zz_lv_yes {w : Int} {o li lm g m : Nat → Int32} {r n : Int} (h : zz_G7 w o g m r n) : zz_lv w o li lm g m r n := ⟨fun z => by have := h.1; omega, fun _ => h⟩
-- joinRuns
def zz_H (w : Int) (o li lm : Nat → Int32) (p n : Int) : Prop := 0 ≤ p ∧ 1 ≤ n ∧ p + n ≤ w ∧ (∀ x : Nat, p ≤ (x : Int) → (x : Int) < p + n → (o x).toInt = -1) ∧ ∃ o0 : Nat → Int32, zz_L7 w o0 li lm ∧ (∀ x : Nat, (x : Int) < p ∨ p + n ≤ (x : Int) → o0 x = o x) ∧ (∀ x : Nat, p ≤ (x : Int) → (x : Int) < p + n → (o0 x).toInt ≠ -1)
def zz_bk (o : Nat → Int32) (a e : Int) : Prop := ∀ x : Nat, a ≤ (x : Int) → (x : Int) < e → (o x).toInt = -1
theorem zz_bk_step {o : Nat → Int32} {a a' e : Int} {i : Nat} (h : zz_bk o a e) (ho : (o i).toInt = -1) (hi : (i : Int) = a - 1) (ha : a' = a - 1) : zz_bk o a' e := fun x h1 h2 => by
  by_cases c : x = i
  · rw [c]; exact ho
  · exact h x (by omega) h2
theorem zz_bk_nil {o : Nat → Int32} {a e : Int} (h : e ≤ a) : zz_bk o a e := fun x h1 h2 => by omega
/-- what stands of the lists while two runs and a block are joined: a, b: the left and the right run are still there -/
def zz_Jn (a b : Prop) (w : Int) (o li lm : Nat → Int32) (p n F r : Int) : Prop := 0 ≤ F ∧ F ≤ p ∧ 1 ≤ n ∧ 0 ≤ r ∧ p + n + r ≤ w ∧ zz_rn o w.toNat F.toNat (p - F + n + r).toNat ∧ ∃ o0 : Nat → Int32, (∀ x : Nat, (x : Int) < p ∨ p + n ≤ (x : Int) → o0 x = o x) ∧ (∀ x : Nat, p ≤ (x : Int) → (x : Int) < p + n → (o0 x).toInt ≠ -1) ∧ zz_rep li lm (fun l q => (zz_S o0 w.toNat l q ∧ (a ∨ ¬ (F < p ∧ l = zz_lo (p - F).toNat ∧ (q : Int) = F))) ∧ (b ∨ ¬ (0 < r ∧ l = zz_lo r.toNat ∧ (q : Int) = p + n)))
theorem zz_J0 {w : Int} {o li lm : Nat → Int32} {p n F r e a : Int} (h : zz_H w o li lm p n) (hb : zz_bk o F p) (hF : 0 ≤ F) (hFp : F ≤ p) (hs : zz_sq w o a e) (ha : a = p + n) (he : e = p + n + r) (hst : F = 0 ∨ ∃ i : Nat, (i : Int) = F - 1 ∧ (o i).toInt ≠ -1) (hr : 0 ≤ r) (hrw : p + n + r ≤ w) : zz_Jn True True w o li lm p n F r := by
  subst ha
  obtain ⟨a1, a2, a3, a4, o0, a5, a6, a7⟩ := h
  refine ⟨hF, hFp, a2, hr, hrw, ⟨by omega, by omega, fun x h1 h2 => ?_, ?_, ?_⟩, o0, a6, a7, ?_⟩
  · by_cases c1 : (x : Int) < p
    · exact hb x (by omega) c1
    · by_cases c2 : (x : Int) < p + n
      · exact a4 x (by omega) c2
      · exact hs.2.1 x (by omega) (by omega)
  · rcases hst with c | ⟨i, c, d⟩
    · exact Or.inl (by omega)
    · exact Or.inr (by rw [show F.toNat - 1 = i by omega]; exact d)
  · rcases hs.2.2.1 with c | c
    · exact Or.inl (by omega)
    · exact Or.inr (by rw [show F.toNat + (p - F + n + r).toNat = e.toNat by omega]; exact c)
  · exact zz_rep.cg a5 fun l q _ => ⟨fun z => ⟨⟨z, Or.inl trivial⟩, Or.inl trivial⟩, fun z => z.1.1⟩
theorem zz_Jn_noL {b : Prop} {w : Int} {o li lm : Nat → Int32} {p n F r : Int} (h : zz_Jn True b w o li lm p n F r) (hF : p ≤ F) : zz_Jn False b w o li lm p n F r := by
  obtain ⟨a1, a2, a3, a4, a5, a6, o0, a7, a8, a9⟩ := h
  exact ⟨a1, a2, a3, a4, a5, a6, o0, a7, a8, a9.cg fun l q _ => ⟨fun z => ⟨⟨z.1.1, Or.inr (fun y => by omega)⟩, z.2⟩, fun z => ⟨⟨z.1.1, Or.inl trivial⟩, z.2⟩⟩⟩
theorem zz_Jn_noR {a : Prop} {w : Int} {o li lm : Nat → Int32} {p n F r : Int} (h : zz_Jn a True w o li lm p n F r) (hr : r ≤ 0) : zz_Jn a False w o li lm p n F r := by
  obtain ⟨a1, a2, a3, a4, a5, a6, o0, a7, a8, a9⟩ := h
  exact ⟨a1, a2, a3, a4, a5, a6, o0, a7, a8, a9.cg fun l q _ => ⟨fun z => ⟨z.1, Or.inr (fun y => by omega)⟩, fun z => ⟨z.1, Or.inl trivial⟩⟩⟩
theorem zz_Jn_inL {w : Int} {o li lm : Nat → Int32} {p n F r : Int} {x v : Int32} (h : zz_Jn True True w o li lm p n F r) (hF : F < p) (hx : x.toInt = F) (hv : v.toInt = p - F) (hw : w ≤ 1024) : zz_in li lm x v := by
  obtain ⟨a1, a2, a3, a4, a5, a6, o0, a7, a8, a9⟩ := h
  have C := zz_S_cut (o0 := o0) (p := p.toNat) (n := n.toNat) a6 (by omega) (by omega) (by omega) (fun y hy => a7 y (by omega)) (fun y h1 h2 => a8 y (by omega) (by omega)) (zz_lo v.toNatClampNeg) F.toNat
  have e : v.toNatClampNeg = p.toNat - F.toNat := by rw [zz_tn]; omega
  obtain ⟨k, b1, b2⟩ := (a9 (zz_lo v.toNatClampNeg) (zz_lo_lt _ (by rw [zz_tn]; omega))).2.1 F.toNat ⟨⟨C.mpr (Or.inr (Or.inl ⟨by omega, rfl, by rw [e]⟩)), Or.inl trivial⟩, Or.inl trivial⟩
  exact ⟨k, b1, by omega⟩
theorem zz_Jn_inR {a : Prop} {w : Int} {o li lm : Nat → Int32} {p n F r : Int} {x v : Int32} (h : zz_Jn a True w o li lm p n F r) (hr : 0 < r) (hx : x.toInt = p + n) (hv : v.toInt = r) (hw : w ≤ 1024) : zz_in li lm x v := by
  obtain ⟨a1, a2, a3, a4, a5, a6, o0, a7, a8, a9⟩ := h
  have C := zz_S_cut (o0 := o0) (p := p.toNat) (n := n.toNat) a6 (by omega) (by omega) (by omega) (fun y hy => a7 y (by omega)) (fun y h1 h2 => a8 y (by omega) (by omega)) (zz_lo v.toNatClampNeg) (p.toNat + n.toNat)
  have e : v.toNatClampNeg = F.toNat + (p - F + n + r).toNat - (p.toNat + n.toNat) := by rw [zz_tn]; omega
  obtain ⟨k, b1, b2⟩ := (a9 (zz_lo v.toNatClampNeg) (zz_lo_lt _ (by rw [zz_tn]; omega))).2.1 (p.toNat + n.toNat) ⟨⟨C.mpr (Or.inr (Or.inr ⟨by omega, rfl, by rw [e]⟩)), Or.inr (fun y => by omega)⟩, Or.inl trivial⟩
  exact ⟨k, b1, by omega⟩
theorem zz_Jn_L {b : Prop} {w : Int} {o li lm g m : Nat → Int32} {p n F r : Int} {x v : Int32} (h : zz_Jn True b w o li lm p n F r) (hT : zz_FLm li lm g m x v) (hm : ∀ j, j < 44 → 0 ≤ (lm j).toInt ∧ (lm j).toInt ≤ 1000) (hF : F < p) (hx : x.toInt = F) (hv : v.toInt = p - F) (hw : w ≤ 1024) : zz_Jn False b w o g m p n F r := by
  obtain ⟨a1, a2, a3, a4, a5, a6, o0, a7, a8, a9⟩ := h
  refine ⟨a1, a2, a3, a4, a5, a6, o0, a7, a8, (zz_rep_fromM a9 (by omega) hm hT).cg fun l q _ => ?_⟩
  have e : v.toNatClampNeg = (p - F).toNat := by rw [zz_tn]; omega
  rw [e]
  constructor
  · rintro ⟨z, y⟩
    exact ⟨⟨z.1.1, Or.inr (fun u => y ⟨u.2.1, by omega⟩)⟩, z.2⟩
  · rintro ⟨⟨z, y⟩, u⟩
    exact ⟨⟨⟨z, Or.inl trivial⟩, u⟩, fun s => y.elim id (fun y => y ⟨hF, s.1, by omega⟩)⟩
theorem zz_Jn_R {a : Prop} {w : Int} {o li lm g m : Nat → Int32} {p n F r : Int} {x v : Int32} (h : zz_Jn a True w o li lm p n F r) (hT : zz_FLm li lm g m x v) (hm : ∀ j, j < 44 → 0 ≤ (lm j).toInt ∧ (lm j).toInt ≤ 1000) (hr : 0 < r) (hx : x.toInt = p + n) (hv : v.toInt = r) (hw : w ≤ 1024) : zz_Jn a False w o g m p n F r := by
  obtain ⟨a1, a2, a3, a4, a5, a6, o0, a7, a8, a9⟩ := h
  refine ⟨a1, a2, a3, a4, a5, a6, o0, a7, a8, (zz_rep_fromM a9 (by omega) hm hT).cg fun l q _ => ?_⟩
  have e : v.toNatClampNeg = r.toNat := by rw [zz_tn]; omega
  rw [e]
  constructor
  · rintro ⟨z, y⟩
    exact ⟨z.1, Or.inr (fun u => y ⟨u.2.1, by omega⟩)⟩
  · rintro ⟨z, y⟩
    exact ⟨⟨z, Or.inl trivial⟩, fun s => y.elim id (fun y => y ⟨hr, s.1, by omega⟩)⟩
theorem zz_Jn_end {w : Int} {o li lm g m : Nat → Int32} {p n F r : Int} {x v : Int32} (h : zz_Jn False False w o li lm p n F r) (hT : zz_TLm li lm g m x v) (hm : ∀ j, j < 44 → 0 ≤ (lm j).toInt ∧ (lm j).toInt ≤ 1000) (hx : x.toInt = F) (hv : v.toInt = p - F + n + r) (hw : w ≤ 1024) : zz_L7 w o g m := by
  obtain ⟨a1, a2, a3, a4, a5, a6, o0, a7, a8, a9⟩ := h
  have C := fun l q => zz_S_join (o0 := o0) (p := p.toNat) (n := n.toNat) a6 (by omega) (by omega) (by omega) (fun y hy => a7 y (by omega)) (fun y h1 h2 => a8 y (by omega) (by omega)) l q
  have e : v.toNatClampNeg = (p - F + n + r).toNat := by rw [zz_tn]; omega
  have e1 : p.toNat - F.toNat = (p - F).toNat := by omega
  have e2 : F.toNat + (p - F + n + r).toNat - (p.toNat + n.toNat) = r.toNat := by omega
  have N : ∀ l, zz_S o0 w.toNat l F.toNat → F < p ∧ l = zz_lo (p - F).toNat := fun l z => by
    by_cases c : F < p
    · refine ⟨c, ?_⟩
      have D := zz_S_cut (o0 := o0) (p := p.toNat) (n := n.toNat) a6 (by omega) (by omega) (by omega) (fun y hy => a7 y (by omega)) (fun y h1 h2 => a8 y (by omega) (by omega)) l F.toNat
      rcases D.mp z with ⟨⟨u, g1, g2⟩, g3⟩ | ⟨_, _, g⟩ | ⟨_, g, _⟩
      · exact absurd ⟨by rw [← g2, zz_rn_uq a6 g1], rfl⟩ g3
      · rw [g, e1]
      · omega
    · exact absurd z (zz_S_no' (a8 F.toNat (by omega) (by omega)))
  refine (zz_rep_toM a9 (by omega) (by omega) hm hT ?_).cg fun l q _ => ?_
  · rintro ⟨⟨z, y⟩, _⟩
    rw [hx] at z y
    have := N _ z
    exact y.elim id (fun y => y ⟨this.1, this.2, by omega⟩)
  · refine Iff.trans ?_ (C l q).symm
    rw [e, e1, e2]
    constructor
    · rintro (⟨⟨z, y⟩, u⟩ | ⟨z, y⟩)
      · exact Or.inl ⟨⟨z, fun s => y.elim id (fun y => y ⟨by omega, s.2.1, by omega⟩)⟩, fun s => u.elim id (fun u => u ⟨by omega, s.2.1, by omega⟩)⟩
      · exact Or.inr ⟨z, by omega⟩
    · rintro (⟨⟨z, y⟩, u⟩ | ⟨z, y⟩)
      · exact Or.inl ⟨⟨z, Or.inr (fun s => y ⟨by omega, s.2.1, by omega⟩)⟩, Or.inr (fun s => u ⟨by omega, s.2.1, by omega⟩)⟩
      · exact Or.inr ⟨z, by omega⟩

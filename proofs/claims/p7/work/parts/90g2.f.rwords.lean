/-! words for the reference's methods in form 7 -/
def zz_itx (w : Int) (o pl : Nat → Int32) (p : Int32) (r : Int) : Prop := (r = 1 ∧ (pl p.toNatClampNeg).toInt < w ∧ (o (pl p.toNatClampNeg).toNatClampNeg).toInt = p.toInt) ∨ (r = 0 ∧ ((pl p.toNatClampNeg).toInt < w → (o (pl p.toNatClampNeg).toNatClampNeg).toInt ≠ p.toInt))
def zz_iux (w : Int) (o nu pl : Nat → Int32) (p : Int32) (r : Int) : Prop := (r = 1 ∧ zz_us w o nu pl p.toNatClampNeg) ∨ (r = 0 ∧ ¬ zz_us w o nu pl p.toNatClampNeg)
theorem zz_iux_0 {w r : Int} {o nu pl : Nat → Int32} {p : Int32} (hn : (nu p.toNatClampNeg).toInt ≤ 0) (hr : r = 0) : zz_iux w o nu pl p r := Or.inr ⟨hr, fun z => by have := z.1; omega⟩
theorem zz_iux_1 {w r r' : Int} {o nu pl : Nat → Int32} {p : Int32} (h : zz_itx w o pl p r') (hn : 0 < (nu p.toNatClampNeg).toInt) (hp : 0 ≤ p.toInt) (hr : r = r') : zz_iux w o nu pl p r := by
  have e := zz_tnI p hp
  rcases h with ⟨h1, h2, h3⟩ | ⟨h1, h2⟩
  · exact Or.inl ⟨by omega, hn, h2, by omega⟩
  · exact Or.inr ⟨by omega, fun z => h2 z.2.1 (by have := z.2.2; omega)⟩
theorem zz_iux_n {w r : Int} {o nu pl : Nat → Int32} {p : Int32} (h : zz_iux w o nu pl p r) (hr : r = 0) : ¬ zz_us w o nu pl p.toNatClampNeg := by
  rcases h with h | h
  · omega
  · exact h.2
theorem zz_iux_y {w r : Int} {o nu pl : Nat → Int32} {p : Int32} (h : zz_iux w o nu pl p r) (hr : r ≠ 0) : zz_us w o nu pl p.toNatClampNeg := by
  rcases h with h | h
  · exact h.2
  · exact absurd h.1 hr
theorem zz_iux_iu {w : Int} {o nu pl : Nat → Int32} {p r : Int32} (h : zz_iux w o nu pl p r.toInt) : zz_iu w o nu pl p r := by
  rcases h with h | h
  · exact Or.inr h.2
  · exact Or.inl h.1
/-- none of the first k slots is that of v -/
def zz_nk (w : Int) (o nu pl : Nat → Int32) (v : Int32) (k : Int) : Prop := ∀ b : Nat, (b : Int) < k → ¬ (nu b = v ∧ zz_us w o nu pl b)
theorem zz_nk_0 {w k : Int} {o nu pl : Nat → Int32} {v : Int32} (h : k ≤ 0) : zz_nk w o nu pl v k := fun b hb => by omega
theorem zz_nk_step {w k k' : Int} {o nu pl : Nat → Int32} {v : Int32} {j : Nat} (h : zz_nk w o nu pl v k) (hj : (j : Int) = k) (hk : k' = k + 1) (hn : ¬ (nu j = v ∧ zz_us w o nu pl j)) : zz_nk w o nu pl v k' := fun b hb => by
  by_cases c : b = j
  · rw [c]; exact hn
  · exact h b (by omega)
def zz_box (w : Int) (o nu pl : Nat → Int32) (v : Int32) (r : Int) : Prop := (r = -1 ∧ zz_nk w o nu pl v 200) ∨ (0 ≤ r ∧ r < 200 ∧ nu r.toNat = v ∧ zz_us w o nu pl r.toNat)
theorem zz_box_no {w r k : Int} {o nu pl : Nat → Int32} {v : Int32} (h : zz_nk w o nu pl v k) (hk : 200 ≤ k) (hr : r = -1) : zz_box w o nu pl v r := Or.inl ⟨hr, fun b hb => h b (by omega)⟩
theorem zz_box_yes {w r : Int} {o nu pl : Nat → Int32} {v x : Int32} (h : zz_us w o nu pl x.toNatClampNeg) (hv : (nu x.toNatClampNeg).toInt = v.toInt) (hr : r = x.toInt) (h0 : 0 ≤ x.toInt) (h1 : x.toInt < 200) : zz_box w o nu pl v r := by
  subst hr
  exact Or.inr ⟨h0, h1, Int32.toInt_inj.mp hv, h⟩
theorem zz_box_bo {w : Int} {o nu pl : Nat → Int32} {v r : Int32} (h : zz_box w o nu pl v r.toInt) : zz_bo w o nu pl r := by
  rcases h with h | h
  · exact Or.inl (by omega)
  · exact Or.inr h.2.2.2
/-- a block comes -/
def zz_gv (w : Int) (o nu pl sp as o' nu' pl' sp' as' : Nat → Int32) (g p s n : Int32) : Prop := ∃ b : Int32, 0 ≤ b.toInt ∧ b.toInt < 200 ∧ ¬ zz_us w o nu pl b.toNatClampNeg ∧ nu' = upd nu b.toNatClampNeg (g + ((1 : Int32))) ∧ pl' = upd pl b.toNatClampNeg p ∧ sp' = upd sp b.toNatClampNeg s ∧ as' = upd as b.toNatClampNeg n ∧ zz_wr o o' p.toInt (p.toInt + s.toInt) b
/-- a give in form 7 -/
def zz_GR (th : Int) (p1 : Int32) (r w bl : Int) (g : Int32) (o nu pl sp as li lm : Nat → Int32) (bl' g' : Int) (o' nu' pl' sp' as' li' lm' : Nat → Int32) : Prop :=
  (th = 1 ∧ (p1.toInt < 1 ∨ 1024 < p1.toInt) ∧ bl' = bl ∧ g' = g.toInt ∧ o' = o ∧ nu' = nu ∧ pl' = pl ∧ sp' = sp ∧ as' = as ∧ li' = li ∧ lm' = lm) ∨
  (th = 3 ∧ 1 ≤ p1.toInt ∧ p1.toInt ≤ 1024 ∧ bl = 200 ∧ bl' = bl ∧ g' = g.toInt ∧ o' = o ∧ nu' = nu ∧ pl' = pl ∧ sp' = sp ∧ as' = as ∧ li' = li ∧ lm' = lm) ∨
  (th = 0 ∧ 1 ≤ p1.toInt ∧ p1.toInt ≤ 1024 ∧ bl ≠ 200 ∧ ∃ x : Int32, zz_lx w o li lm li' lm' p1.toNatClampNeg x.toInt ∧ ((x.toInt < 0 ∧ r = -1 ∧ bl' = bl ∧ g' = g.toInt ∧ o' = o ∧ nu' = nu ∧ pl' = pl ∧ sp' = sp ∧ as' = as) ∨ (0 ≤ x.toInt ∧ r = g.toInt ∧ bl' = bl + 1 ∧ g' = g.toInt + 1 ∧ ∃ s : Int32, s.toInt = p1.toInt ∧ zz_gv w o nu pl sp as o' nu' pl' sp' as' g x s p1)))
/-- a back in form 7 -/
def zz_BR (th : Int) (p1 : Int32) (w bl : Int) (o nu pl sp li lm : Nat → Int32) (r bl' : Int) (o' nu' li' lm' : Nat → Int32) : Prop :=
  (th = 2 ∧ (p1.toInt < 0 ∨ zz_nk w o nu pl (p1 + ((1 : Int32))) 200) ∧ bl' = bl ∧ o' = o ∧ nu' = nu ∧ li' = li ∧ lm' = lm) ∨
  (th = 0 ∧ 0 ≤ p1.toInt ∧ ∃ b : Nat, b < 200 ∧ nu b = p1 + ((1 : Int32)) ∧ zz_us w o nu pl b ∧ r = (pl b).toInt ∧ bl' = bl - 1 ∧ zz_wr o o' (pl b).toInt ((pl b).toInt + (sp b).toInt) (-1) ∧ nu' = upd nu b 0 ∧ zz_jx w o' li lm li' lm' (pl b).toInt (sp b).toInt)
theorem zz_BR_n {th w bl r x : Int} {p1 : Int32} {o nu pl sp li lm : Nat → Int32} (h : zz_box w o nu pl (p1 + ((1 : Int32))) x) (hx : x < 0 ∨ p1.toInt < 0) (ht : th = 2) : zz_BR th p1 w bl o nu pl sp li lm r bl o nu li lm := by
  refine Or.inl ⟨ht, ?_, rfl, rfl, rfl, rfl, rfl⟩
  rcases h with h | h
  · exact Or.inr h.2
  · exact Or.inl (by omega)
theorem zz_BR_y {th w bl r bl' : Int} {p1 x : Int32} {o nu pl sp li lm o' nu' li' lm' : Nat → Int32} (h : zz_box w o nu pl (p1 + ((1 : Int32))) x.toInt) (hx : 0 ≤ x.toInt) (hp : 0 ≤ p1.toInt) (ht : th = 0) (hr : r = (pl x.toNatClampNeg).toInt) (hb : bl' = bl - 1) (hw : zz_wr o o' (pl x.toNatClampNeg).toInt ((pl x.toNatClampNeg).toInt + (sp x.toNatClampNeg).toInt) (-1)) (hn : nu' = upd nu x.toNatClampNeg 0) (hj : zz_jx w o' li lm li' lm' (pl x.toNatClampNeg).toInt (sp x.toNatClampNeg).toInt) : zz_BR th p1 w bl o nu pl sp li lm r bl' o' nu' li' lm' := by
  rcases h with h | ⟨a1, a2, a3, a4⟩
  · omega
  · exact Or.inr ⟨ht, hp, x.toNatClampNeg, by have := zz_tnI x hx; omega, a3, a4, hr, hb, hw, hn, hj⟩
theorem zz_jx_cg {w p p' n n' : Int} {o li lm g m : Nat → Int32} (h : zz_jx w o li lm g m p n) (hp : p' = p) (hn : n' = n) : zz_jx w o li lm g m p' n' := by rw [hp, hn]; exact h
def zz_RO (f w : Int) (li lm : Nat → Int32) : Prop := f = 7 → zz_R7 li lm [(0, w.toNat)]
theorem zz_RO_mk {f w y : Int} {li lm g m : Nat → Int32} {z v : Int32} (hT : zz_TLm li lm g m z v) (hm : zz_zr lm y) (hy : 44 ≤ y) (hw : w ≤ 1024) (hz : z.toInt = 0) (hv : v.toInt = w) : zz_RO f w g m := fun _ => by
  have R0 : zz_R7 li lm [] := fun l hl => by
    have := hm l (by omega)
    rw [zz_tn, this]
    rfl
  have ev := zz_tn v
  have R := zz_RX_to (v := v.toNatClampNeg) R0 hT.1 hT.2.1 hT.2.2 rfl (fun j hj => by have := hm j (by omega); omega) (zz_lo_lt _ (by omega))
  rw [show z.toNatClampNeg = 0 by rw [zz_tn, hz]; rfl, show v.toNatClampNeg = w.toNat by rw [zz_tn, hv]] at R
  exact R
theorem zz_RO_no {f w : Int} {li lm : Nat → Int32} (h : f ≠ 7) : zz_RO f w li lm := fun z => absurd z h
/-- an open -/
def zz_OR (th p1 p2 : Int) (same : Prop) (f' w' bl' g' : Int) (o' li' lm' : Nat → Int32) : Prop := (th = 1 ∧ (p1 < 0 ∨ 9 < p1 ∨ p2 < 16 ∨ 1024 < p2) ∧ same) ∨ (th = 0 ∧ 0 ≤ p1 ∧ p1 ≤ 9 ∧ 16 ≤ p2 ∧ p2 ≤ 1024 ∧ f' = p1 ∧ w' = p2 ∧ bl' = 0 ∧ g' = 0 ∧ zz_op o' 1024 ∧ zz_RO f' w' li' lm')
/-- a list -/
def zz_LR (th : Int) (p1 p2 : Int32) (f : Int) (li lm : Nat → Int32) (r : Int) : Prop := (th = 1 ∧ (p1.toInt < 0 ∨ 44 ≤ p1.toInt)) ∨ (0 ≤ p1.toInt ∧ p1.toInt < 44 ∧ ((th = 2 ∧ f < 0) ∨ (0 ≤ f ∧ ((th = 3 ∧ f ≠ 7) ∨ (f = 7 ∧ ((th = 4 ∧ (p2.toInt < 0 ∨ (lm p1.toNatClampNeg).toInt ≤ p2.toInt)) ∨ (th = 0 ∧ 0 ≤ p2.toInt ∧ p2.toInt < (lm p1.toNatClampNeg).toInt ∧ ∃ i : Nat, (i : Int) = 1024 * p1.toInt + p2.toInt ∧ r = (li i).toInt)))))))

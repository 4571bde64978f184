/-! all forms: owners, and what give and back say whatever the form -/
/-- owners: c the class's (NUMBERS), o the reference's (slots) -/
def zz_OC (w : Int) (c o nu : Nat → Int32) : Prop := ∀ x : Nat, (x : Int) < w → ((o x).toInt = -1 ∧ (c x).toInt = -1) ∨ ((o x).toInt = -2 ∧ (c x).toInt = -2) ∨ (0 ≤ (o x).toInt ∧ 0 ≤ (c x).toInt ∧ (c x).toInt = (nu (o x).toNatClampNeg).toInt - 1)
theorem zz_OC_fe {w : Int} {c o nu : Nat → Int32} (h : zz_OC w c o nu) : zz_fe2 w c o := fun x hx => by
  rcases h x hx with a | a | a <;> omega
theorem zz_OC_give {w : Int} {c o nu pl sp c' o' nu' pl' sp' as as' : Nat → Int32} {G x s a : Int32} (h : zz_OC w c o nu) (hO : zz_OW w o nu pl sp) (hg : zz_gv w o nu pl sp as o' nu' pl' sp' as' G x s a) (hw : zz_wr c c' x.toInt (x.toInt + s.toInt) G) (hG : 0 ≤ G.toInt) (hG2 : G.toInt ≤ 100000) : zz_OC w c' o' nu' := fun y hy => by
  obtain ⟨b, b0, b1, bu, e1, e2, e3, e4, hwr⟩ := hg
  subst e1
  have G1 : (G + ((1 : Int32))).toInt = G.toInt + 1 := zz_p1 G (by omega)
  have eb := zz_tnI b b0
  by_cases c : x.toInt ≤ (y : Int) ∧ (y : Int) < x.toInt + s.toInt
  · rw [hwr y, hw y, if_pos c, if_pos c]
    exact Or.inr (Or.inr ⟨b0, hG, by rw [zz_updE, if_pos rfl]; omega⟩)
  · rw [hwr y, hw y, if_neg c, if_neg c]
    rcases h y hy with a | a | ⟨a1, a2, a3⟩
    · exact Or.inl a
    · exact Or.inr (Or.inl a)
    · refine Or.inr (Or.inr ⟨a1, a2, ?_⟩)
      obtain ⟨j, j1, j2, j3, _⟩ := hO.1 y hy a1
      have ej : (o y).toNatClampNeg = j := by rw [zz_tn]; omega
      rw [zz_updE, if_neg (fun z => bu (by rw [← z, ej]; exact j3))]
      exact a3
theorem zz_OC_back {w : Int} {c o nu pl sp c' o' : Nat → Int32} {b : Nat} {q : Int32} (h : zz_OC w c o nu) (hO : zz_OW w o nu pl sp) (hb : b < 200) (ub : zz_us w o nu pl b) (hwr : zz_wr o o' (pl b).toInt ((pl b).toInt + (sp b).toInt) q) (hw : zz_wr c c' (pl b).toInt ((pl b).toInt + (sp b).toInt) q) (hq : q.toInt = -1 ∨ q.toInt = -2) : zz_OC w c' o' (upd nu b 0) := fun y hy => by
  by_cases c : (pl b).toInt ≤ (y : Int) ∧ (y : Int) < (pl b).toInt + (sp b).toInt
  · rw [hwr y, hw y, if_pos c, if_pos c]
    rcases hq with hq | hq
    · exact Or.inl ⟨hq, hq⟩
    · exact Or.inr (Or.inl ⟨hq, hq⟩)
  · rw [hwr y, hw y, if_neg c, if_neg c]
    rcases h y hy with a | a | ⟨a1, a2, a3⟩
    · exact Or.inl a
    · exact Or.inr (Or.inl a)
    · refine Or.inr (Or.inr ⟨a1, a2, ?_⟩)
      obtain ⟨j, j1, j2, j3, j4, j5⟩ := hO.1 y hy a1
      have ej : (o y).toNatClampNeg = j := by rw [zz_tn]; omega
      rw [zz_updE, if_neg (fun z => c (by rw [← z, ej]; exact ⟨j4, j5⟩))]
      exact a3
/-- a give of the class: TK span place owners, what the FORM's take did -/
def zz_GE (e : String) (p1 : Int32) (r B : Int) (g : Int32) (nc pc sc ac : Nat → Int32) (B' g' : Int) (nc' pc' sc' ac' c' : Nat → Int32) (SM : Prop) (TK : Int32 → Int32 → (Nat → Int32) → Prop) : Prop :=
  (e = "java/lang/IllegalArgumentException" ∧ (p1.toInt < 1 ∨ 1024 < p1.toInt) ∧ B' = B ∧ g' = g.toInt ∧ nc' = nc ∧ pc' = pc ∧ sc' = sc ∧ ac' = ac ∧ SM) ∨
  (e = "java/lang/IndexOutOfBoundsException" ∧ 1 ≤ p1.toInt ∧ p1.toInt ≤ 1024 ∧ 200 ≤ B ∧ B' = B ∧ g' = g.toInt ∧ nc' = nc ∧ pc' = pc ∧ sc' = sc ∧ ac' = ac ∧ SM) ∨
  (e = "" ∧ 1 ≤ p1.toInt ∧ p1.toInt ≤ 1024 ∧ B < 200 ∧ ∃ (s x : Int32) (c1 : Nat → Int32), TK s x c1 ∧ ((x.toInt = -1 ∧ r = -1 ∧ B' = B ∧ g' = g.toInt ∧ nc' = nc ∧ pc' = pc ∧ sc' = sc ∧ ac' = ac ∧ c' = c1) ∨ (0 ≤ x.toInt ∧ r = g.toInt ∧ B' = B + 1 ∧ g' = g.toInt + 1 ∧ nc' = upd nc B.toNat g ∧ pc' = upd pc B.toNat x ∧ sc' = upd sc B.toNat s ∧ ac' = upd ac B.toNat p1 ∧ zz_wr c1 c' x.toInt (x.toInt + s.toInt) g)))
/-- a back of the class: TB place span, what became of owners and FORM -/
def zz_BE (e : String) (p1 : Int32) (B : Int) (nc pc sc ac : Nat → Int32) (r B' : Int) (nc' pc' sc' ac' : Nat → Int32) (SM : Prop) (TB : Int32 → Int32 → Prop) : Prop :=
  (e = "java/util/NoSuchElementException" ∧ zz_ns nc p1 B ∧ B' = B ∧ nc' = nc ∧ pc' = pc ∧ sc' = sc ∧ ac' = ac ∧ SM) ∨
  (e = "" ∧ ∃ i : Nat, (i : Int) < B ∧ nc i = p1 ∧ r = (pc i).toInt ∧ B' = B - 1 ∧ zz_mv nc nc' i B ∧ zz_mv pc pc' i B ∧ zz_mv sc sc' i B ∧ zz_mv ac ac' i B ∧ TB (pc i) (sc i))
/-- a give of the reference: FD span place owners, what find did -/
def zz_GF (th : Int) (p1 : Int32) (r w bl : Int) (g : Int32) (o nu pl sp as : Nat → Int32) (bl' g' : Int) (o' nu' pl' sp' as' : Nat → Int32) (SM : Prop) (FD : Int32 → Int32 → (Nat → Int32) → Prop) : Prop :=
  (th = 1 ∧ (p1.toInt < 1 ∨ 1024 < p1.toInt) ∧ bl' = bl ∧ g' = g.toInt ∧ o' = o ∧ nu' = nu ∧ pl' = pl ∧ sp' = sp ∧ as' = as ∧ SM) ∨
  (th = 3 ∧ 1 ≤ p1.toInt ∧ p1.toInt ≤ 1024 ∧ bl = 200 ∧ bl' = bl ∧ g' = g.toInt ∧ o' = o ∧ nu' = nu ∧ pl' = pl ∧ sp' = sp ∧ as' = as ∧ SM) ∨
  (th = 0 ∧ 1 ≤ p1.toInt ∧ p1.toInt ≤ 1024 ∧ bl ≠ 200 ∧ ∃ (s x : Int32) (o1 : Nat → Int32), FD s x o1 ∧ ((x.toInt < 0 ∧ r = -1 ∧ bl' = bl ∧ g' = g.toInt ∧ o' = o1 ∧ nu' = nu ∧ pl' = pl ∧ sp' = sp ∧ as' = as) ∨ (0 ≤ x.toInt ∧ r = g.toInt ∧ bl' = bl + 1 ∧ g' = g.toInt + 1 ∧ zz_gv w o1 nu pl sp as o' nu' pl' sp' as' g x s p1)))
/-- a back of the reference: q the owners' new value, TB what became of the FORM -/
def zz_BF (th : Int) (p1 : Int32) (w bl : Int) (o nu pl sp : Nat → Int32) (r bl' : Int) (o' nu' : Nat → Int32) (SM : Prop) (TB : Int32 → Int32 → Int32 → Prop) : Prop :=
  (th = 2 ∧ (p1.toInt < 0 ∨ zz_nk w o nu pl (p1 + ((1 : Int32))) 200) ∧ bl' = bl ∧ o' = o ∧ nu' = nu ∧ SM) ∨
  (th = 0 ∧ 0 ≤ p1.toInt ∧ ∃ (b : Nat) (q : Int32), b < 200 ∧ nu b = p1 + ((1 : Int32)) ∧ zz_us w o nu pl b ∧ r = (pl b).toInt ∧ bl' = bl - 1 ∧ (q.toInt = -1 ∨ q.toInt = -2) ∧ zz_wr o o' (pl b).toInt ((pl b).toInt + (sp b).toInt) q ∧ nu' = upd nu b 0 ∧ TB (pl b) (sp b) q)
/-- give: the two sides, once find and take are known to agree (hF: same span, same place, words that no block has, owners still in step) -/
theorem zz_GG_step {e : String} {p1 G Gr : Int32} {w B g r B' g' th r' bl bl' gr' : Int} {nc pc sc ac c nc' pc' sc' ac' c' o nu pl sp as o' nu' pl' sp' as' : Nat → Int32} {SMc SMr : Prop} {TK FD : Int32 → Int32 → (Nat → Int32) → Prop} (h : zz_RB w B g nc pc sc ac o nu pl sp as) (hOC : zz_OC w c o nu) (hc : zz_GE e p1 r B G nc pc sc ac B' g' nc' pc' sc' ac' c' SMc TK) (hr : zz_GF th p1 r' w bl Gr o nu pl sp as bl' gr' o' nu' pl' sp' as' SMr FD) (hSM : SMc → c' = c) (hF : ∀ s x c1 s' x' o1, 1 ≤ p1.toInt → p1.toInt ≤ 1024 → TK s x c1 → FD s' x' o1 → s = s' ∧ x = x' ∧ -1 ≤ x.toInt ∧ zz_RB w B g nc pc sc ac o1 nu pl sp as ∧ zz_OC w c1 o1 nu ∧ (0 ≤ x.toInt → 1 ≤ s.toInt ∧ x.toInt + s.toInt ≤ w ∧ ∀ y : Nat, x.toInt ≤ (y : Int) → (y : Int) < x.toInt + s.toInt → (o1 y).toInt < 0)) (hbl : bl = B) (hG : G.toInt = g) (hGr : Gr.toInt = g) (hg0 : 0 ≤ g) (hg1 : g ≤ 100000) (hB : 0 ≤ B) (hB2 : B ≤ 200) : zz_RB w B' g' nc' pc' sc' ac' o' nu' pl' sp' as' ∧ zz_OC w c' o' nu' ∧ bl' = B' ∧ gr' = g' ∧ g ≤ g' ∧ g' ≤ g + 1 ∧ 0 ≤ B' ∧ B' ≤ 200 ∧ ((e = "" ∧ th = 0 ∧ r = r') ∨ (e = "java/lang/IllegalArgumentException" ∧ th = 1) ∨ (e = "java/lang/IndexOutOfBoundsException" ∧ th = 3)) ∧ ((SMc ∧ SMr ∧ o' = o ∧ nu' = nu ∧ pl' = pl ∧ sp' = sp) ∨ (1 ≤ p1.toInt ∧ p1.toInt ≤ 1024 ∧ ∃ s x c1 o1, TK s x c1 ∧ FD s x o1 ∧ zz_RB w B g nc pc sc ac o1 nu pl sp as ∧ ((x.toInt = -1 ∧ o' = o1 ∧ c' = c1 ∧ nu' = nu ∧ pl' = pl ∧ sp' = sp) ∨ (0 ≤ x.toInt ∧ zz_gv w o1 nu pl sp as o' nu' pl' sp' as' G x s p1 ∧ zz_wr c1 c' x.toInt (x.toInt + s.toInt) G)))) := by
  have hGG : Gr = G := Int32.toInt_inj.mp (by omega)
  subst hGG
  rcases hc with ⟨a1, a2, a3, a4, a5, a6, a7, a8, a9⟩ | ⟨a1, a2, a2', a2'', a3, a4, a5, a6, a7, a8, a9⟩ | ⟨a1, a2, a3, a4, s, x, c1, tk, a5⟩
  · rcases hr with ⟨b1, b2, b3, b4, b5, b6, b7, b8, b9, b10⟩ | ⟨b1, b2, b2', _⟩ | ⟨b1, b2, b3, _⟩
    · have ec := hSM a9
      subst a5; subst a6; subst a7; subst a8; subst b5; subst b6; subst b7; subst b8; subst b9; subst ec
      rw [a3, a4, hG]
      exact ⟨h, hOC, by omega, by omega, by omega, by omega, hB, hB2, Or.inr (Or.inl ⟨a1, b1⟩), Or.inl ⟨a9, b10, rfl, rfl, rfl, rfl⟩⟩
    · omega
    · omega
  · rcases hr with ⟨b1, b2, _⟩ | ⟨b1, b2, b2', b2'', b3, b4, b5, b6, b7, b8, b9, b10⟩ | ⟨b1, b2, b3, b4, _⟩
    · omega
    · have ec := hSM a9
      subst a5; subst a6; subst a7; subst a8; subst b5; subst b6; subst b7; subst b8; subst b9; subst ec
      rw [a3, a4, hG]
      exact ⟨h, hOC, by omega, by omega, by omega, by omega, hB, hB2, Or.inr (Or.inr ⟨a1, b1⟩), Or.inl ⟨a9, b10, rfl, rfl, rfl, rfl⟩⟩
    · omega
  · rcases hr with ⟨b1, b2, _⟩ | ⟨b1, b2, b2', b2'', _⟩ | ⟨b1, b2, b3, b4, s', x', o1, fd, b5⟩
    · omega
    · omega
    · obtain ⟨es, ex, xm, hRB, hOC1, hfr⟩ := hF s x c1 s' x' o1 a2 a3 tk fd
      subst es
      subst ex
      rcases a5 with ⟨d1, d2, d3, d4, d5, d6, d7, d8, d9⟩ | ⟨d1, d2, d3, d4, d5, d6, d7, d8, d9⟩
      · rcases b5 with ⟨f1, f2, f3, f4, f5, f6, f7, f8, f9⟩ | ⟨f1, _⟩
        · subst d5; subst d6; subst d7; subst d8; subst d9; subst f5; subst f6; subst f7; subst f8; subst f9
          rw [d3, d4, hG]
          exact ⟨hRB, hOC1, by omega, by omega, by omega, by omega, hB, hB2, Or.inl ⟨a1, b1, by omega⟩, Or.inr ⟨a2, a3, s, x, _, _, tk, fd, hRB, Or.inl ⟨d1, rfl, rfl, rfl, rfl, rfl⟩⟩⟩
        · omega
      · rcases b5 with ⟨f1, _⟩ | ⟨f1, f2, f3, f4, f5⟩
        · omega
        · obtain ⟨h1, h2, h3⟩ := hfr d1
          have RB' := zz_RB_give hRB f5 hG hg0 hg1 d1 h1 h2 hB h3
          have OC' := zz_OC_give hOC1 hRB.2.2.2.1 f5 d9 (by omega) (by omega)
          subst d5; subst d6; subst d7; subst d8
          rw [d3, d4, hG]
          exact ⟨RB', OC', by omega, by omega, by omega, by omega, by omega, by omega, Or.inl ⟨a1, b1, by omega⟩, Or.inr ⟨a2, a3, s, x, _, _, tk, fd, hRB, Or.inr ⟨d1, f5, d9⟩⟩⟩
/-- back: the two sides (hW: the class's owners become what the reference's do) -/
theorem zz_BB_step {e : String} {p1 : Int32} {w B g r B' th r' bl bl' : Int} {nc pc sc ac c nc' pc' sc' ac' c' o nu pl sp as o' nu' : Nat → Int32} {SMc SMr : Prop} {TB : Int32 → Int32 → Prop} {TR : Int32 → Int32 → Int32 → Prop} (h : zz_RB w B g nc pc sc ac o nu pl sp as) (hOC : zz_OC w c o nu) (hc : zz_BE e p1 B nc pc sc ac r B' nc' pc' sc' ac' SMc TB) (hr : zz_BF th p1 w bl o nu pl sp r' bl' o' nu' SMr TR) (hSM : SMc → c' = c) (hW : ∀ p s q, TB p s → TR p s q → (q.toInt = -1 ∨ q.toInt = -2) → zz_wr c c' p.toInt (p.toInt + s.toInt) q) (hbl : bl = B) (hg1 : g ≤ 100000) (hB : 0 ≤ B) (hB2 : B ≤ 200) : zz_RB w B' g nc' pc' sc' ac' o' nu' pl sp as ∧ zz_OC w c' o' nu' ∧ bl' = B' ∧ 0 ≤ B' ∧ B' ≤ 200 ∧ ((e = "" ∧ th = 0 ∧ r = r') ∨ (e = "java/util/NoSuchElementException" ∧ th = 2)) ∧ ((SMc ∧ SMr ∧ o' = o ∧ nu' = nu) ∨ ∃ (b : Nat) (q : Int32), b < 200 ∧ zz_us w o nu pl b ∧ (q.toInt = -1 ∨ q.toInt = -2) ∧ zz_wr o o' (pl b).toInt ((pl b).toInt + (sp b).toInt) q ∧ zz_wr c c' (pl b).toInt ((pl b).toInt + (sp b).toInt) q ∧ nu' = upd nu b 0 ∧ TB (pl b) (sp b) ∧ TR (pl b) (sp b) q) := by
  have no := zz_RB_no (v := p1) h hg1
  rcases hc with ⟨a1, a2, a3, a4, a5, a6, a7, a8⟩ | ⟨a1, i, a2, a3, a4, a5, a6, a7, a8, a9, a10⟩
  · rcases hr with ⟨b1, b2, b3, b4, b5, b6⟩ | ⟨b1, b2, b, q, b3, b4, b5, _⟩
    · have ec := hSM a8
      subst a4; subst a5; subst a6; subst a7; subst b4; subst b5; subst ec
      rw [a3]
      exact ⟨h, hOC, by omega, hB, hB2, Or.inr ⟨a1, b1⟩, Or.inl ⟨a8, b6, rfl, rfl⟩⟩
    · exfalso
      rcases no.mp a2 with c | c
      · omega
      · exact c b (by omega) ⟨b4, b5⟩
  · rcases hr with ⟨b1, b2, _⟩ | ⟨b1, b2, b, q, b3, b4, b5, b6, b7, b8, b9, b10, b11⟩
    · exact absurd a3 (no.mpr b2 i a2)
    · have hi := h.2.1 i a2
      rw [a3] at hi
      have hnb : (nu b).toInt = (nc i).toInt + 1 := by rw [b4, zz_p1 p1 (by omega), a3]
      obtain ⟨RB', ep, es⟩ := zz_RB_back h a2 b3 b5 hnb b9 (by omega) a6 a7 a8 a9
      have ep2 : pc i = pl b := Int32.toInt_inj.mp ep
      have es2 : sc i = sp b := Int32.toInt_inj.mp es
      rw [ep2, es2] at a10
      have wc := hW _ _ _ a10 b11 b8
      have OC' := zz_OC_back hOC h.2.2.2.1 b3 b5 b9 wc b8
      subst b10
      rw [a5]
      exact ⟨RB', OC', by omega, by omega, by omega, Or.inl ⟨a1, b1, by omega⟩, Or.inr ⟨b, q, b3, b5, b8, b9, wc, rfl, a10, b11⟩⟩

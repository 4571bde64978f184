/-! all forms: class and reference in step -/
theorem zz_ff_ft {n a fr ah r : Int} {h : Nat → Int32} (hf : zz_ff n h a fr ah r) (hr : 0 ≤ r) : zz_ft n h a r := by
  rcases hf with ⟨z, _⟩ | ⟨_, _, z, _⟩
  · omega
  · exact z
theorem zz_pl_ft {f n : Int} {h : Nat → Int32} {e a r : Int} (hp : zz_pl f n h e a r) (hr : 0 ≤ r) (hn : 0 ≤ n) : zz_ft n h a r := by
  have bf : ∀ b, zz_bf b n h a r → zz_ft n h a r := fun b z => by
    rcases z with ⟨z, _⟩ | ⟨_, s, z1, z2, _⟩
    · omega
    · have e1 := z1.2.1
      exact ⟨by omega, fun x x1 x2 => z1.2.2.1 x (by omega) (by omega)⟩
  rcases hp with ⟨_, h1⟩ | ⟨_, h1⟩ | ⟨_, h1⟩ | ⟨_, h1⟩
  · exact zz_ff_ft h1 hr
  · rcases h1 with ⟨_, h1⟩ | ⟨_, h1⟩
    · exact zz_ff_ft h1 hr
    · exact zz_ff_ft h1 hr
  · exact bf _ h1
  · exact bf _ h1
def zz_JA (t : Nat) (w B g : Int32) (c nc pc sc ac : Nat → Int32) (w2 bl g2 : Int32) (o nu pl sp as : Nat → Int32) : Prop := w = w2 ∧ B = bl ∧ g = g2 ∧ 16 ≤ w.toInt ∧ w.toInt ≤ 1024 ∧ 0 ≤ B.toInt ∧ B.toInt ≤ 200 ∧ 0 ≤ g.toInt ∧ g.toInt ≤ (t : Int) ∧ zz_RB w.toInt B.toInt g.toInt nc pc sc ac o nu pl sp as ∧ zz_OC w.toInt c o nu
/-- take and find agree -/
def zz_HF (w B g : Int) (nc pc sc ac nu pl sp as : Nat → Int32) (s x : Int32) (c1 : Nat → Int32) (s' x' : Int32) (o1 : Nat → Int32) : Prop := s = s' ∧ x = x' ∧ -1 ≤ x.toInt ∧ zz_RB w B g nc pc sc ac o1 nu pl sp as ∧ zz_OC w c1 o1 nu ∧ (0 ≤ x.toInt → 1 ≤ s.toInt ∧ x.toInt + s.toInt ≤ w ∧ ∀ y : Nat, x.toInt ≤ (y : Int) → (y : Int) < x.toInt + s.toInt → (o1 y).toInt < 0)
-- forms 0 to 3
def zz_JE (e le : Int32) : Prop := e = le ∧ 0 ≤ le.toInt ∧ le.toInt ≤ 1024
theorem zz_hF0 {f k w B g e le tp pg : Int} {nc pc sc ac c c1 o o1 nu pl sp as g4 g4' G G' li lm li' lm' qk qk' qm qm' : Nat → Int32} {p1 s x s' x' : Int32} {P Q : Prop} (hR : zz_RB w B g nc pc sc ac o nu pl sp as) (hO : zz_OC w c o nu) (hk : k = f) (hf3 : f ≤ 3) (he : e = le) (he0 : 0 ≤ e) (hw : 0 ≤ w) (h1 : 1 ≤ p1.toInt) (tk : s = p1 ∧ c1 = c ∧ zz_pl k w c e p1.toInt x.toInt ∧ P) (fd : zz_FA f w le tp pg o o1 g4 g4' G G' li lm li' lm' qk qk' qm qm' p1 s' x'.toInt ∧ Q) : zz_HF w B g nc pc sc ac nu pl sp as s x c1 s' x' o1 := by
  obtain ⟨t1, t2, t3, _⟩ := tk
  subst hk he t1 t2
  rcases fd.1 with ⟨_, _, b3, b4, b5⟩ | ⟨b, _⟩ | ⟨b, _⟩ | ⟨b, _⟩ | ⟨b, _⟩ | ⟨b, _⟩ | ⟨b, _⟩
  · subst b3 b4
    have e2 : x = x' := Int32.toInt_inj.mp (zz_pl_uq (zz_pl_fe (zz_OC_fe hO) t3) b5)
    subst e2
    refine ⟨rfl, rfl, ?_, hR, hO, fun h0 => ?_⟩
    · rcases zz_pl_rg b5 he0 hw with z | z
      · omega
      · omega
    · have ft := zz_pl_ft b5 h0 hw
      exact ⟨h1, ft.1, fun y y1 y2 => by rw [ft.2 y y1 y2]; decide⟩
  · omega
  · omega
  · omega
  · omega
  · omega
  · omega
theorem zz_gs0 {f k w tp tp' st st' : Int} {c c1 kp ks kg kp' ks' kg' : Nat → Int32} {p1 s x e e' le le' xv sv : Int32} {F : Prop} (hw : 0 ≤ w) (hw2 : w ≤ 1024) (hJ : zz_JE e le) (tk : s = p1 ∧ c1 = c ∧ zz_pl k w c e.toInt p1.toInt x.toInt ∧ (x.toInt = -1 ∨ e'.toInt = x.toInt + p1.toInt) ∧ (x.toInt ≠ -1 ∨ e'.toInt = e.toInt)) (fd : F ∧ zz_SX f x.toInt p1.toInt s.toInt le.toInt le'.toInt tp tp' st st' kp ks kg kp' ks' kg' xv sv) (hs : 1 ≤ p1.toInt) : zz_JE e' le' := by
  obtain ⟨t1, t2, t3, t4, t5⟩ := tk
  obtain ⟨j1, j2, j3⟩ := hJ
  subst t1
  have rg := zz_pl_rg t3 (by rw [j1]; exact j2) hw
  rcases fd.2 with ⟨a1, a2, _⟩ | ⟨a1, a2, _⟩
  · have : e'.toInt = le'.toInt := by rw [j1] at t5; omega
    exact ⟨Int32.toInt_inj.mp this, by omega, by omega⟩
  · have : e'.toInt = le'.toInt := by omega
    exact ⟨Int32.toInt_inj.mp this, by omega, by omega⟩
-- form 4
def zz_J4 (w W Wr : Int32) (f g o nu pl sp : Nat → Int32) : Prop := W = Wr ∧ zz_F4 w.toInt W.toInt f g o nu pl sp
theorem zz_hF4 {fn w B g W le tp pg : Int} {f f' nc pc sc ac c c1 o o1 nu pl sp as g4 g4' G G' li lm li' lm' qk qk' qm qm' : Nat → Int32} {p1 s x s' x' : Int32} {P Q : Prop} (hf : fn = 4) (hR : zz_RB w B g nc pc sc ac o nu pl sp as) (hO : zz_OC w c o nu) (hJ : zz_F4 w W f g4 o nu pl sp) (hw : w ≤ 1024) (h1 : 1 ≤ p1.toInt) (tk : zz_lpw p1.toInt s.toInt ∧ c1 = c ∧ P ∧ zz_t4 f f' W s.toInt x.toInt) (fd : zz_FA fn w le tp pg o o1 g4 g4' G G' li lm li' lm' qk qk' qm qm' p1 s' x'.toInt ∧ Q) : zz_HF w B g nc pc sc ac nu pl sp as s x c1 s' x' o1 := by
  subst hf
  obtain ⟨t1, t2, _, t3⟩ := tk
  subst t2
  obtain ⟨⟨j1, j2, j3⟩, j4, j5, j6, _⟩ := hJ
  rcases fd.1 with ⟨_, b, _⟩ | ⟨_, b1, b2, b3⟩ | ⟨b, _⟩ | ⟨b, _⟩ | ⟨b, _⟩ | ⟨b, _⟩ | ⟨b, _⟩
  · omega
  · subst b1
    have es : s = s' := Int32.toInt_inj.mp (zz_lpw_uq t1 b2)
    subst es
    have sr := zz_lpw_rg t1
    have m2 := zz_smp_ext b3.1 (W := W) j2 (fun x h1 h2 => j5 x h1 (by omega)) (by omega)
    have ex : x = x' := Int32.toInt_inj.mp (zz_smp_uq t3.1 m2 j4)
    subst ex
    refine ⟨rfl, rfl, ?_, hR, hO, fun h0 => ?_⟩
    · rcases m2 with ⟨z, _⟩ | ⟨z, _⟩
      · omega
      · omega
    · rcases m2 with ⟨z, _⟩ | ⟨z1, z2, z3, _⟩
      · omega
      · rcases j6.1 x.toInt.toNat (by omega) with a | ⟨a1, a2, a3⟩
        · have a : (g4 x.toInt.toNat).toInt = 0 := a
          omega
        · have a2 : (x.toInt.toNat : Int) + (g4 x.toInt.toNat).toInt ≤ (W.toNat : Int) := a2
          have p0 := zz_p2_pos j1
          refine ⟨by omega, by omega, fun y y1 y2 => ?_⟩
          have a4 := a3 y (by omega) (by show (y : Int) < (x.toInt.toNat : Int) + (g4 x.toInt.toNat).toInt; omega)
          rw [a4]; decide
  · omega
  · omega
  · omega
  · omega
  · omega
theorem zz_gs4 {fn w W le tp pg : Int} {f f' c c1 o o1 o' nu nu' pl pl' sp sp' as as' g4 g4' G G' li lm li' lm' qk qk' qm qm' : Nat → Int32} {Gn p1 s x : Int32} {P Q Z Z2 : Prop} (hf : fn = 4) (hJ : zz_F4 w W f g4 o nu pl sp) (hw : 16 ≤ w) (hw2 : w ≤ 1024) (h1 : 1 ≤ p1.toInt) (tk : zz_lpw p1.toInt s.toInt ∧ c1 = c ∧ P ∧ zz_t4 f f' W s.toInt x.toInt) (fd : zz_FA fn w le tp pg o o1 g4 g4' G G' li lm li' lm' qk qk' qm qm' p1 s x.toInt ∧ Q) (hz : (x.toInt = -1 ∧ o' = o1 ∧ Z ∧ nu' = nu ∧ pl' = pl ∧ sp' = sp) ∨ (0 ≤ x.toInt ∧ zz_gv w o1 nu pl sp as o' nu' pl' sp' as' Gn x s p1 ∧ Z2)) : zz_F4 w W f' g4' o' nu' pl' sp' := by
  subst hf
  obtain ⟨t1, _, _, t3⟩ := tk
  rcases fd.1 with ⟨_, b, _⟩ | ⟨_, b1, b2, b3⟩ | ⟨b, _⟩ | ⟨b, _⟩ | ⟨b, _⟩ | ⟨b, _⟩ | ⟨b, _⟩
  · omega
  · subst b1
    rcases hz with ⟨z1, z2, _, z3, z4, z5⟩ | ⟨z1, z2, _⟩
    · subst z2 z3 z4 z5
      rcases t3.2 with ⟨_, e1⟩ | ⟨e1, _⟩
      · rcases b3.2 with ⟨_, e2⟩ | ⟨e2, _⟩
        · subst e1 e2
          exact hJ
        · omega
      · omega
    · rcases t3.2 with ⟨e1, _⟩ | ⟨_, e1⟩
      · omega
      · rcases b3.2 with ⟨e2, _⟩ | ⟨_, e2⟩
        · omega
        · have ex : x.toInt.toNat = x.toNatClampNeg := by have := zz_tnI x z1; omega
          rw [ex] at e1 e2
          obtain ⟨c1, c2⟩ : x.toInt < W ∧ s.toInt ≤ (f x.toNatClampNeg).toInt := by
            rcases t3.1 with ⟨y, _⟩ | ⟨_, y2, y3, _⟩
            · omega
            · rw [ex] at y3
              exact ⟨y2, y3⟩
          have e3 := hJ.2.1 x.toNatClampNeg (by have := zz_tnI x z1; omega)
          exact zz_F4_give hJ hw hw2 z2 z1 c1 t1.1 (by rw [← e3]; exact c2) e1 rfl (by decide) e2
  · omega
  · omega
  · omega
  · omega
  · omega
-- form 6
def zz_J6 (w gr : Int32) (o nu pl sp : Nat → Int32) : Prop := gr.toInt = w.toInt / 4 ∧ zz_F6 w.toInt o nu pl sp
theorem zz_s4_m {F : Int → Prop} {st lim r : Int} (h : zz_s4 F st lim 0 r) (hs : 0 ≤ st) : r = -1 ∨ (0 ≤ r ∧ r % 4 = 0 ∧ r / 4 ≤ lim ∧ F (r / 4)) := by
  rcases h with ⟨a, _⟩ | ⟨j, j1, j2, j3, _⟩
  · exact Or.inl a
  · have : 0 ≤ st * (j : Int) := Int.mul_nonneg hs (Int.natCast_nonneg j)
    refine Or.inr ⟨by omega, by omega, by omega, ?_⟩
    rw [show r / 4 = 0 + st * (j : Int) by omega]
    exact j3
theorem zz_hF6 {fn w B g gr le tp pg : Int} {nc pc sc ac c c1 o o1 nu pl sp as g4 g4' G G' li lm li' lm' qk qk' qm qm' : Nat → Int32} {p1 s x s' x' : Int32} {P Q : Prop} (hf : fn = 6) (hR : zz_RB w B g nc pc sc ac o nu pl sp as) (hO : zz_OC w c o nu) (hJ : zz_F6 w o nu pl sp) (hg : gr = w / 4) (hw0 : 0 ≤ w) (h1 : 1 ≤ p1.toInt) (tk : s.toInt = (p1.toInt + 3) / 4 * 4 ∧ c1 = c ∧ P ∧ zz_g6 c gr s.toInt x.toInt) (fd : zz_FA fn w le tp pg o o1 g4 g4' G G' li lm li' lm' qk qk' qm qm' p1 s' x'.toInt ∧ Q) : zz_HF w B g nc pc sc ac nu pl sp as s x c1 s' x' o1 := by
  subst hf
  obtain ⟨t1, t2, _, pw, st, t3, t4, t5⟩ := tk
  subst t2 hg
  rcases fd.1 with ⟨_, b, _⟩ | ⟨b, _⟩ | ⟨b, _⟩ | ⟨_, b1, b2, pw2, st2, b3, b4, b5⟩ | ⟨b, _⟩ | ⟨b, _⟩ | ⟨b, _⟩
  · omega
  · omega
  · omega
  · subst b1
    have es : s = s' := Int32.toInt_inj.mp (by omega)
    subst es
    have ep := zz_lpw_uq t3 b3
    subst ep
    have er := zz_lpw_rg t3
    have est : st = st2 := by omega
    subst est
    have ex : x = x' := Int32.toInt_inj.mp (zz_s4_uq t5 b5 (by omega) (fun k k1 k2 => zz_F6_fg hJ (zz_OC_fe hO) k1 k2))
    subst ex
    have m := zz_s4_m b5 (by omega)
    refine ⟨rfl, rfl, by omega, hR, hO, fun h0 => ?_⟩
    rcases m with z | ⟨z1, z2, z3, z4⟩
    · omega
    · refine ⟨by omega, by omega, fun y y1 y2 => ?_⟩
      have z4 : zz_bk o1 (4 * (x.toInt / 4)) (4 * (x.toInt / 4) + 4 * (s.toInt / 4)) := z4
      rw [z4 y (by omega) (by omega)]; decide
  · omega
  · omega
  · omega
theorem zz_gs6 {fn w gr le tp pg : Int} {c c1 o o1 o' nu nu' pl pl' sp sp' as as' g4 g4' G G' li lm li' lm' qk qk' qm qm' : Nat → Int32} {Gn p1 s x : Int32} {P Q Z Z2 : Prop} (hf : fn = 6) (hJ : zz_F6 w o nu pl sp) (h1 : 1 ≤ p1.toInt) (tk : s.toInt = (p1.toInt + 3) / 4 * 4 ∧ c1 = c ∧ P ∧ zz_g6 c gr s.toInt x.toInt) (fd : zz_FA fn w le tp pg o o1 g4 g4' G G' li lm li' lm' qk qk' qm qm' p1 s x.toInt ∧ Q) (hz : (x.toInt = -1 ∧ o' = o1 ∧ Z ∧ nu' = nu ∧ pl' = pl ∧ sp' = sp) ∨ (0 ≤ x.toInt ∧ zz_gv w o1 nu pl sp as o' nu' pl' sp' as' Gn x s p1 ∧ Z2)) : zz_F6 w o' nu' pl' sp' := by
  subst hf
  obtain ⟨t1, _, _, pw, st, t3, t4, t5⟩ := tk
  have er := zz_lpw_rg t3
  rcases fd.1 with ⟨_, b, _⟩ | ⟨b, _⟩ | ⟨b, _⟩ | ⟨_, b1, _⟩ | ⟨b, _⟩ | ⟨b, _⟩ | ⟨b, _⟩
  · omega
  · omega
  · omega
  · subst b1
    rcases hz with ⟨z1, z2, _, z3, z4, z5⟩ | ⟨z1, z2, _⟩
    · subst z2 z3 z4 z5
      exact hJ
    · rcases zz_s4_m t5 (by omega) with y | ⟨_, y, _⟩
      · omega
      · exact zz_F6_give hJ z2 z1 (by omega) y (by omega)
  · omega
  · omega
  · omega
-- form 8
def zz_J8 (w tp tpr st : Int32) (kp ks kg o nu pl sp : Nat → Int32) : Prop := tp = tpr ∧ zz_F8 w.toInt tp.toInt st.toInt kp ks kg o nu pl sp
theorem zz_hF8 {fn w B g tc tp le pg : Int} {nc pc sc ac c c1 o o1 nu pl sp as g4 g4' G G' li lm li' lm' qk qk' qm qm' kp ks kg : Nat → Int32} {p1 s x s' x' : Int32} {st tn : Int} {Q : Prop} (hf : fn = 8) (hR : zz_RB w B g nc pc sc ac o nu pl sp as) (hO : zz_OC w c o nu) (hJ : zz_F8 w tc st kp ks kg o nu pl sp) (ht : tc = tp) (h1 : 1 ≤ p1.toInt) (tk : s = p1 ∧ c1 = c ∧ ((w - tc < p1.toInt ∧ x.toInt = -1 ∧ tn = tc) ∨ (p1.toInt ≤ w - tc ∧ x.toInt = tc ∧ tn = tc + p1.toInt))) (fd : zz_FA fn w le tp pg o o1 g4 g4' G G' li lm li' lm' qk qk' qm qm' p1 s' x'.toInt ∧ Q) : zz_HF w B g nc pc sc ac nu pl sp as s x c1 s' x' o1 := by
  subst hf
  obtain ⟨t1, t2, t3⟩ := tk
  subst t1 t2 ht
  rcases fd.1 with ⟨_, b, _⟩ | ⟨b, _⟩ | ⟨b, _⟩ | ⟨b, _⟩ | ⟨b, _⟩ | ⟨_, b1, b2, b3⟩ | ⟨b, _⟩
  · omega
  · omega
  · omega
  · omega
  · omega
  · subst b1 b2
    have ex : x = x' := Int32.toInt_inj.mp (by omega)
    subst ex
    have h0 := hJ.2.1
    have hu := hJ.2.2.2.2.2.2.2.2.2
    refine ⟨rfl, rfl, by omega, hR, hO, fun hx => ⟨h1, by omega, fun y y1 y2 => ?_⟩⟩
    rw [hu y (by omega) (by omega)]; decide
  · omega
theorem zz_gs8 {fn w tc tp tp' le le' pg st st' tn : Int} {c c1 o o1 o' nu nu' pl pl' sp sp' as as' g4 g4' G G' li lm li' lm' qk qk' qm qm' kp ks kg kp' ks' kg' : Nat → Int32} {Gn p1 s x : Int32} {Z Z2 : Prop} (hf : fn = 8) (hJ : zz_F8 w tc st kp ks kg o nu pl sp) (hO : zz_OW w o nu pl sp) (hG : 0 ≤ Gn.toInt) (hG2 : Gn.toInt ≤ 100000) (ht : tc = tp) (h1 : 1 ≤ p1.toInt) (tk : s = p1 ∧ c1 = c ∧ ((w - tc < p1.toInt ∧ x.toInt = -1 ∧ tn = tc) ∨ (p1.toInt ≤ w - tc ∧ x.toInt = tc ∧ tn = tc + p1.toInt))) (fd : zz_FA fn w le tp pg o o1 g4 g4' G G' li lm li' lm' qk qk' qm qm' p1 s x.toInt ∧ zz_SX fn x.toInt p1.toInt s.toInt le le' tp tp' st st' kp ks kg kp' ks' kg' x s) (hz : (x.toInt = -1 ∧ o' = o1 ∧ Z ∧ nu' = nu ∧ pl' = pl ∧ sp' = sp) ∨ (0 ≤ x.toInt ∧ zz_gv w o1 nu pl sp as o' nu' pl' sp' as' Gn x s p1 ∧ Z2)) : tn = tp' ∧ zz_F8 w tn st' kp' ks' kg' o' nu' pl' sp' := by
  subst hf
  obtain ⟨t1, _, t3⟩ := tk
  subst t1
  subst ht
  rcases fd.1 with ⟨_, b, _⟩ | ⟨b, _⟩ | ⟨b, _⟩ | ⟨b, _⟩ | ⟨b, _⟩ | ⟨_, b1, b2, b3⟩ | ⟨b, _⟩
  · omega
  · omega
  · omega
  · omega
  · omega
  · subst b1
    rcases hz with ⟨z1, z2, _, z3, z4, z5⟩ | ⟨z1, z2, _⟩
    · subst z2 z3 z4 z5
      rcases fd.2 with ⟨_, _, a2, a3, a4, a5, a6⟩ | ⟨a1, _⟩
      · subst a4 a5 a6
        have e1 : tn = tc := by
          rcases t3 with ⟨_, _, y⟩ | ⟨y1, y2, _⟩
          · exact y
          · have := hJ.2.1
            omega
        rw [a3, e1]
        exact ⟨a2.symm, hJ⟩
      · omega
    · rcases fd.2 with ⟨a1, _⟩ | ⟨_, _, a2⟩
      · omega
      · rcases a2 with ⟨_, a3, a4, a5, a6, a7⟩ | ⟨a2, _⟩
        · have e1 : x.toInt = tc ∧ tn = tc + s.toInt ∧ x.toInt + s.toInt ≤ w := by omega
          have e2 : tn = tp' := by omega
          exact ⟨e2, zz_F8_give hJ hO z2 hG hG2 e1.1 h1 e1.2.2 e1.2.1 a4 a5 a6 a7 (by decide)⟩
        · exact absurd rfl a2
  · omega
-- back: forms 0 to 8
theorem zz_qm1 {q : Int32} (h : q.toInt = -1) : q = -1 := Int32.toInt_inj.mp (by rw [h]; decide)
theorem zz_bW {f W pg : Int} {c c' o' g g' G G' li lm li' lm' kp kg kg' qk qk' qm qm' : Nat → Int32} {w tp tp' st st' : Int} {p s q : Int32} {P : Prop} (hf : f ≠ 9) (tb : zz_wr c c' p.toInt (p.toInt + s.toInt) (-1) ∧ P) (tr : zz_BA f W pg o' g g' G G' li lm li' lm' w tp tp' st st' kp kg kg' qk qk' qm qm' p s q) : zz_wr c c' p.toInt (p.toInt + s.toInt) q := by
  have e : q.toInt = -1 := by
    rcases tr with ⟨_, _, b⟩ | ⟨_, b, _⟩ | ⟨_, b, _⟩ | ⟨_, b⟩ | ⟨_, b, _⟩ | ⟨_, b, _⟩ | ⟨b, _⟩ | ⟨b, _⟩
    · exact b
    · exact b
    · exact b
    · exact b
    · exact b
    · exact b
    · exact absurd b hf
    · exact absurd b hf
  rw [zz_qm1 e]
  exact tb.1
theorem zz_bs4 {fn w W pg : Int} {f f' c c' o o' nu pl sp g g' G G' li lm li' lm' kp kg kg' qk qk' qm qm' : Nat → Int32} {tp tp' st st' : Int} {b : Nat} {q : Int32} {P : Prop} (hf : fn = 4) (hJ : zz_F4 w W f g o nu pl sp) (hw : 16 ≤ w) (hw2 : w ≤ 1024) (hO : zz_OW w o nu pl sp) (hb : b < 200) (ub : zz_us w o nu pl b) (hwr : zz_wr o o' (pl b).toInt ((pl b).toInt + (sp b).toInt) q) (tb : zz_wr c c' (pl b).toInt ((pl b).toInt + (sp b).toInt) (-1) ∧ P ∧ zz_jr W f f' (pl b).toInt (sp b).toInt) (tr : zz_BA fn W pg o' g g' G G' li lm li' lm' w tp tp' st st' kp kg kg' qk qk' qm qm' (pl b) (sp b) q) : zz_F4 w W f' g' o' (upd nu b 0) pl sp := by
  subst hf
  rcases tr with ⟨_, a, _⟩ | ⟨_, a, d1, d2⟩ | ⟨a, _⟩ | ⟨a, _⟩ | ⟨a, _⟩ | ⟨a, _⟩ | ⟨a, _⟩ | ⟨a, _⟩
  · omega
  · exact zz_F4_back hJ hw hw2 hO hb ub hwr a tb.2.2 d1 (fun x hx => d2 x hx)
  · omega
  · omega
  · omega
  · omega
  · omega
  · omega
theorem zz_bs6 {fn w W pg : Int} {o o' nu pl sp g g' G G' li lm li' lm' kp kg kg' qk qk' qm qm' : Nat → Int32} {tp tp' st st' : Int} {b : Nat} {q : Int32} (hf : fn = 6) (hJ : zz_F6 w o nu pl sp) (hO : zz_OW w o nu pl sp) (hb : b < 200) (ub : zz_us w o nu pl b) (hwr : zz_wr o o' (pl b).toInt ((pl b).toInt + (sp b).toInt) q) (tr : zz_BA fn W pg o' g g' G G' li lm li' lm' w tp tp' st st' kp kg kg' qk qk' qm qm' (pl b) (sp b) q) : zz_F6 w o' (upd nu b 0) pl sp := by
  subst hf
  rcases tr with ⟨_, a, _⟩ | ⟨a, _⟩ | ⟨a, _⟩ | ⟨_, a⟩ | ⟨a, _⟩ | ⟨a, _⟩ | ⟨a, _⟩ | ⟨a, _⟩
  · omega
  · omega
  · omega
  · exact zz_F6_back hJ hO hb ub hwr (by omega)
  · omega
  · omega
  · omega
  · omega
theorem zz_bs8 {fn w W pg tc tn : Int} {c c' o o' nu pl sp g g' G G' li lm li' lm' kp ks kg kg' qk qk' qm qm' : Nat → Int32} {tp tp' st st' : Int} {b : Nat} {q : Int32} (hf : fn = 8) (hJ : zz_F8 w tc st kp ks kg o nu pl sp) (ht : tc = tp) (hO : zz_OW w o nu pl sp) (hOC : zz_OC w c' o' (upd nu b 0)) (hb : b < 200) (ub : zz_us w o nu pl b) (hwr : zz_wr o o' (pl b).toInt ((pl b).toInt + (sp b).toInt) q) (tb : zz_wr c c' (pl b).toInt ((pl b).toInt + (sp b).toInt) (-1) ∧ zz_tp c' tc tn) (tr : zz_BA fn W pg o' g g' G G' li lm li' lm' w tp tp' st st' kp kg kg' qk qk' qm qm' (pl b) (sp b) q) : tn = tp' ∧ zz_F8 w tn st' kp ks kg' o' (upd nu b 0) pl sp := by
  subst hf
  subst ht
  rcases tr with ⟨_, a, _⟩ | ⟨a, _⟩ | ⟨a, _⟩ | ⟨a, _⟩ | ⟨a, _⟩ | ⟨_, a, d1, d2, d3⟩ | ⟨a, _⟩ | ⟨a, _⟩
  · omega
  · omega
  · omega
  · omega
  · omega
  · obtain ⟨k1, k2⟩ := zz_F8_back hJ hO hb ub hwr a (fun k hk => d1 k (by omega) hk) d3
    have e := zz_tp_uq tb.2 k2 (zz_OC_fe hOC) hJ.2.2.1
    subst e
    exact ⟨rfl, k1⟩
  · omega
  · omega
-- what the two sides want ahead of a call
theorem zz_RB_B {w B g : Int} {nc pc sc ac o nu pl sp as : Nat → Int32} (h : zz_RB w B g nc pc sc ac o nu pl sp as) {i : Nat} (hi : (i : Int) < B) : ∃ b : Nat, b < 200 ∧ zz_us w o nu pl b ∧ (pl b).toInt = (pc i).toInt ∧ (sp b).toInt = (sc i).toInt := by
  obtain ⟨b, b1, b2, _, b4, b5, _⟩ := (h.2.2.2.2.2 _ _ _ _).mp ⟨i, hi, rfl, rfl, rfl, rfl⟩
  exact ⟨b, b1, b2, b4, b5⟩
theorem zz_F4_B4 {w B g W : Int} {f g4 nc pc sc ac o nu pl sp as : Nat → Int32} (h : zz_RB w B g nc pc sc ac o nu pl sp as) (hJ : zz_F4 w W f g4 o nu pl sp) : zz_B4 pc sc B W := fun i hi => by
  obtain ⟨b, b1, b2, b3, b4⟩ := zz_RB_B h hi
  obtain ⟨c1, c2⟩ := hJ.2.2.2.2 b b1 b2
  have c3 := h.2.2.1 i hi
  rw [b4] at c1
  exact ⟨c1, c3.1, by omega⟩
theorem zz_F4_P4 {w W : Int} {f g4 o nu pl sp : Nat → Int32} (hJ : zz_F4 w W f g4 o nu pl sp) : zz_P4 f W ∧ zz_P4 g4 1024 ∧ zz_z4 g4 W := by
  obtain ⟨j1, j4, j5, j6, _⟩ := hJ
  have p0 := zz_p2_pos j1.1
  have key : ∀ x : Nat, (x : Int) < W → (g4 x).toInt = 0 ∨ (zz_p2 (g4 x).toInt ∧ (x : Int) + (g4 x).toInt ≤ W) := fun x hx => by
    rcases j6.1 x (by omega) with a | ⟨a1, a2, _⟩
    · exact Or.inl a
    · have a2 : (x : Int) + (g4 x).toInt ≤ (W.toNat : Int) := a2
      exact Or.inr ⟨a1, by omega⟩
  refine ⟨fun x hx => ?_, fun x hx => ?_, j5⟩
  · rw [j4 x hx]
    exact key x hx
  · by_cases c : (x : Int) < W
    · rcases key x c with a | ⟨a1, a2⟩
      · exact Or.inl a
      · exact Or.inr ⟨a1, by omega⟩
    · exact Or.inl (j5 x (by omega) hx)
theorem zz_PR_n {f w W : Int} {o g qk qm : Nat → Int32} (h4 : f ≠ 4) (h9 : f ≠ 9) : zz_PR f w W o g qk qm := ⟨fun z => absurd z h4, fun z => absurd z h9⟩
theorem zz_PB_n {f w W : Int} {o nu pl sp g : Nat → Int32} (h4 : f ≠ 4) : zz_PB f w W o nu pl sp g := fun z => absurd z h4
theorem zz_F4_PR {fn w W : Int} {f g4 o nu pl sp qk qm : Nat → Int32} (hf : fn = 4) (hJ : zz_F4 w W f g4 o nu pl sp) : zz_PR fn w W o g4 qk qm := ⟨fun _ => ⟨(zz_F4_P4 hJ).2.1, hJ.1.1, (zz_F4_P4 hJ).2.2⟩, fun z => by omega⟩
theorem zz_F4_PB {fn w W : Int} {f g4 o nu pl sp : Nat → Int32} (hJ : zz_F4 w W f g4 o nu pl sp) : zz_PB fn w W o nu pl sp g4 := fun _ => ⟨hJ.1.1, (zz_F4_P4 hJ).2.2, fun b b1 b2 => (hJ.2.2.2.2 b b1 b2).2⟩
-- about, at, run
theorem zz_AA {e : String} {p1 : Int32} {p2 r r' w B g th : Int} {nc pc sc ac o nu pl sp as : Nat → Int32} (h : zz_RB w B g nc pc sc ac o nu pl sp as) (hg : g ≤ 100000) (hc : zz_AE e p1 p2 r B nc pc sc ac) (hr : zz_AF th p1 p2 r' w o nu pl sp as) : (e = "" ∧ th = 0 ∧ r = r') ∨ (e = "java/lang/IllegalArgumentException" ∧ th = 1) ∨ (e = "java/util/NoSuchElementException" ∧ th = 3) := by
  have no := zz_RB_no (v := p1) h hg
  rcases hc with ⟨a1, a2⟩ | ⟨a1, a2, a3⟩
  · rcases hr with ⟨b1, _⟩ | ⟨b1, b2, _⟩
    · exact Or.inr (Or.inl ⟨a1, b1⟩)
    · omega
  · rcases hr with ⟨b1, b2⟩ | ⟨_, _, b3⟩
    · omega
    · rcases a3 with ⟨c1, c2⟩ | ⟨c1, i, c2, c3, c4⟩
      · rcases b3 with ⟨d1, _⟩ | ⟨d1, d2, b, d3, d4, d5, _⟩
        · exact Or.inr (Or.inr ⟨c1, d1⟩)
        · rcases no.mp c2 with z | z
          · omega
          · exact absurd ⟨d4, d5⟩ (z b (by omega))
      · rcases b3 with ⟨d1, d2⟩ | ⟨d1, d2, b, d3, d4, d5, d6⟩
        · exact absurd c3 (no.mpr d2 i c2)
        · refine Or.inl ⟨c1, d1, ?_⟩
          obtain ⟨b', b1', b2', b3', b4', b5', b6'⟩ := (h.2.2.2.2.2 _ _ _ _).mp ⟨i, c2, rfl, rfl, rfl, rfl⟩
          have ni := h.2.1 i c2
          have en : (nu b).toInt = (nc i).toInt + 1 := by
            rw [d4, c3]
            exact zz_p1 _ (by rw [← c3]; omega)
          have e : b = b' := h.2.2.2.2.1 b b' d3 b1' d5 b2' (Int32.toInt_inj.mp (by omega))
          subst e
          omega
theorem zz_TT {e : String} {p1 : Int32} {r r' w th : Int} {c o nu : Nat → Int32} (h : zz_OC w c o nu) (hc : zz_TE e p1 r w c) (hr : zz_TF th p1 r' w o nu) : (e = "" ∧ th = 0 ∧ r = r') ∨ (e = "java/lang/IllegalArgumentException" ∧ th = 1) := by
  rcases hc with ⟨a1, a2⟩ | ⟨a1, a2, a3, a4⟩
  · rcases hr with ⟨b1, _⟩ | ⟨_, b2, b3, _⟩
    · exact Or.inr ⟨a1, b1⟩
    · omega
  · rcases hr with ⟨_, b2⟩ | ⟨b1, _, _, b4⟩
    · omega
    · refine Or.inl ⟨a1, b1, ?_⟩
      have ex := zz_tnI p1 a2
      rcases h p1.toNatClampNeg (by omega) with ⟨c1, c2⟩ | ⟨c1, c2⟩ | ⟨c1, c2, c3⟩
      · rcases a4 with a | a <;> rcases b4 with b | b <;> omega
      · rcases a4 with a | a <;> rcases b4 with b | b <;> omega
      · rcases b4 with b | ⟨_, b⟩
        · omega
        · have m := zz_m1 (nu (o p1.toNatClampNeg).toNatClampNeg) (by omega)
          rcases a4 with ⟨_, a⟩ | a
          · rw [a, b, c3, m]
          · omega
theorem zz_rn_fe2 {w : Int} {c o : Nat → Int32} {pl wd : Nat → Int32} {n : Int} (h : zz_fe2 w c o) (hu : zz_ru w c pl wd n) : zz_ru w o pl wd n := by
  obtain ⟨u1, u2, u3⟩ := hu
  exact ⟨fun i hi => ⟨(u1 i hi).1, (u1 i hi).2.1, zz_rn_fe h (u1 i hi).2.2⟩, fun q u hq => u2 q u (zz_rn_fe (zz_fe2_sy h) hq), u3⟩
theorem zz_RR {e : String} {p1 p2 r r' w th : Int} {c o : Nat → Int32} (h : zz_fe2 w c o) (hc : zz_RE e p1 p2 r w c) (hr : zz_RF th p1 p2 r' w o) : (e = "" ∧ th = 0 ∧ r = r') ∨ (e = "java/lang/IllegalArgumentException" ∧ th = 1) ∨ (e = "java/lang/IndexOutOfBoundsException" ∧ th = 3) := by
  rcases hc with ⟨a1, a2⟩ | ⟨a1, a2, pl, wd, n, a3, a4, a5⟩
  · rcases hr with ⟨b1, _⟩ | ⟨b1, b2, _⟩
    · exact Or.inr (Or.inl ⟨a1, b1⟩)
    · omega
  · rcases hr with ⟨_, b2⟩ | ⟨_, _, b3⟩
    · omega
    · have hu := zz_rn_fe2 h a3
      rcases a5 with ⟨c1, c2⟩ | ⟨c1, c2, c3, c4⟩
      · rcases b3 with ⟨d1, _⟩ | ⟨d1, d2, p, sz, d3, d4, _⟩
        · exact Or.inr (Or.inr ⟨c1, d1⟩)
        · rcases d4 pl wd n a4 hu with ⟨z, _⟩ | ⟨_, z, _⟩
          · omega
          · omega
      · rcases b3 with ⟨d1, d2⟩ | ⟨d1, d2, p, sz, d3, d4, d5⟩
        · rcases d2 with d2 | ⟨d2, sz, d3⟩
          · omega
          · rcases d3 pl wd n a4 hu with ⟨_, z⟩ | ⟨z, _⟩
            · omega
            · omega
        · rcases d4 pl wd n a4 hu with ⟨z, _⟩ | ⟨_, z1, z2, z3⟩
          · omega
          · exact Or.inl ⟨c1, d1, by omega⟩
theorem zz_NN {e : String} {th : Int} {P : Prop} (hc : zz_NE e P) (hr : zz_NF th P) : (e = "java/lang/IllegalArgumentException" ∧ th = 1) ∨ (e = "java/lang/IllegalStateException" ∧ th = 2) := by
  rcases hc with ⟨a, b⟩ | ⟨a, b⟩
  · rcases hr with ⟨c, _⟩ | ⟨_, d⟩
    · exact Or.inl ⟨a, c⟩
    · exact absurd b d
  · rcases hr with ⟨_, d⟩ | ⟨c, _⟩
    · exact absurd d b
    · exact Or.inr ⟨a, c⟩

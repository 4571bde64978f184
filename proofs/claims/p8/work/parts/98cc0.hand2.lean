/-! all forms: class and reference in step -/
theorem zz_ff_ft {n a fr ah r : Int} {h : Nat → Int32} (hf : zz_ff n h a fr ah r) (hr : 0 ≤ r) : zz_ft n h a r := by
  rcases hf with ⟨z, _⟩ | ⟨_, _, z, _⟩
  · omega
  · exact z
theorem zz_pl_ft {f n : Int} {h : Nat → Int32} {e a r : Int} (hp : zz_pl f n h e a r) (hr : 0 ≤ r) (hn : 0 ≤ n) : zz_ft n h a r := by
  have bf : ∀ b, zz_bf b n h a r → zz_ft n h a r := fun b z => by
    rcases z with ⟨z, _⟩ | ⟨_, s, z1, z2, _⟩
    · omega
    · have e1 := z1.2.1
      exact ⟨by omega, fun x x1 x2 => z1.2.2.1 x (by omega) (by omega)⟩
  rcases hp with ⟨_, h1⟩ | ⟨_, h1⟩ | ⟨_, h1⟩ | ⟨_, h1⟩
  · exact zz_ff_ft h1 hr
  · rcases h1 with ⟨_, h1⟩ | ⟨_, h1⟩
    · exact zz_ff_ft h1 hr
    · exact zz_ff_ft h1 hr
  · exact bf _ h1
  · exact bf _ h1
def zz_JA (t : Nat) (w B g : Int32) (c nc pc sc ac : Nat → Int32) (w2 bl g2 : Int32) (o nu pl sp as : Nat → Int32) : Prop := w = w2 ∧ B = bl ∧ g = g2 ∧ 16 ≤ w.toInt ∧ w.toInt ≤ 1024 ∧ 0 ≤ B.toInt ∧ B.toInt ≤ 200 ∧ 0 ≤ g.toInt ∧ g.toInt ≤ (t : Int) ∧ zz_RB w.toInt B.toInt g.toInt nc pc sc ac o nu pl sp as ∧ zz_OC w.toInt c o nu
/-- take and find agree -/
def zz_HF (w B g : Int) (nc pc sc ac nu pl sp as : Nat → Int32) (s x : Int32) (c1 : Nat → Int32) (s' x' : Int32) (o1 : Nat → Int32) : Prop := s = s' ∧ x = x' ∧ -1 ≤ x.toInt ∧ zz_RB w B g nc pc sc ac o1 nu pl sp as ∧ zz_OC w c1 o1 nu ∧ (0 ≤ x.toInt → 1 ≤ s.toInt ∧ x.toInt + s.toInt ≤ w ∧ ∀ y : Nat, x.toInt ≤ (y : Int) → (y : Int) < x.toInt + s.toInt → (o1 y).toInt < 0)
-- forms 0 to 3
def zz_JE (e le : Int32) : Prop := e = le ∧ 0 ≤ le.toInt ∧ le.toInt ≤ 1024
theorem zz_hF0 {f k w B g e le tp pg : Int} {nc pc sc ac c c1 o o1 nu pl sp as g4 g4' G G' li lm li' lm' qk qk' qm qm' : Nat → Int32} {p1 s x s' x' : Int32} {P Q : Prop} (hR : zz_RB w B g nc pc sc ac o nu pl sp as) (hO : zz_OC w c o nu) (hk : k = f) (hf3 : f ≤ 3) (he : e = le) (he0 : 0 ≤ e) (hw : 0 ≤ w) (h1 : 1 ≤ p1.toInt) (tk : s = p1 ∧ c1 = c ∧ zz_pl k w c e p1.toInt x.toInt ∧ P) (fd : zz_FA f w le tp pg o o1 g4 g4' G G' li lm li' lm' qk qk' qm qm' p1 s' x'.toInt ∧ Q) : zz_HF w B g nc pc sc ac nu pl sp as s x c1 s' x' o1 := by
  obtain ⟨t1, t2, t3, _⟩ := tk
  subst hk he t1 t2
  rcases fd.1 with ⟨_, _, b3, b4, b5⟩ | ⟨b, _⟩ | ⟨b, _⟩ | ⟨b, _⟩ | ⟨b, _⟩ | ⟨b, _⟩ | ⟨b, _⟩
  · subst b3 b4
    have e2 : x = x' := Int32.toInt_inj.mp (zz_pl_uq (zz_pl_fe (zz_OC_fe hO) t3) b5)
    subst e2
    refine ⟨rfl, rfl, ?_, hR, hO, fun h0 => ?_⟩
    · rcases zz_pl_rg b5 he0 hw with z | z
      · omega
      · omega
    · have ft := zz_pl_ft b5 h0 hw
      exact ⟨h1, ft.1, fun y y1 y2 => by rw [ft.2 y y1 y2]; decide⟩
  · omega
  · omega
  · omega
  · omega
  · omega
  · omega
theorem zz_gs0 {f k w tp tp' st st' : Int} {c c1 kp ks kg kp' ks' kg' : Nat → Int32} {p1 s x e e' le le' xv sv : Int32} {F : Prop} (hw : 0 ≤ w) (hw2 : w ≤ 1024) (hJ : zz_JE e le) (tk : s = p1 ∧ c1 = c ∧ zz_pl k w c e.toInt p1.toInt x.toInt ∧ (x.toInt = -1 ∨ e'.toInt = x.toInt + p1.toInt) ∧ (x.toInt ≠ -1 ∨ e'.toInt = e.toInt)) (fd : F ∧ zz_SX f x.toInt p1.toInt s.toInt le.toInt le'.toInt tp tp' st st' kp ks kg kp' ks' kg' xv sv) (hs : 1 ≤ p1.toInt) : zz_JE e' le' := by
  obtain ⟨t1, t2, t3, t4, t5⟩ := tk
  obtain ⟨j1, j2, j3⟩ := hJ
  subst t1
  have rg := zz_pl_rg t3 (by rw [j1]; exact j2) hw
  rcases fd.2 with ⟨a1, a2, _⟩ | ⟨a1, a2, _⟩
  · have : e'.toInt = le'.toInt := by rw [j1] at t5; omega
    exact ⟨Int32.toInt_inj.mp this, by omega, by omega⟩
  · have : e'.toInt = le'.toInt := by omega
    exact ⟨Int32.toInt_inj.mp this, by omega, by omega⟩
-- form 4
def zz_J4 (w W Wr : Int32) (f g o nu pl sp : Nat → Int32) : Prop := W = Wr ∧ zz_F4 w.toInt W.toInt f g o nu pl sp
theorem zz_hF4 {fn w B g W le tp pg : Int} {f f' nc pc sc ac c c1 o o1 nu pl sp as g4 g4' G G' li lm li' lm' qk qk' qm qm' : Nat → Int32} {p1 s x s' x' : Int32} {P Q : Prop} (hf : fn = 4) (hR : zz_RB w B g nc pc sc ac o nu pl sp as) (hO : zz_OC w c o nu) (hJ : zz_F4 w W f g4 o nu pl sp) (hw : w ≤ 1024) (h1 : 1 ≤ p1.toInt) (tk : zz_lpw p1.toInt s.toInt ∧ c1 = c ∧ P ∧ zz_t4 f f' W s.toInt x.toInt) (fd : zz_FA fn w le tp pg o o1 g4 g4' G G' li lm li' lm' qk qk' qm qm' p1 s' x'.toInt ∧ Q) : zz_HF w B g nc pc sc ac nu pl sp as s x c1 s' x' o1 := by
  subst hf
  obtain ⟨t1, t2, _, t3⟩ := tk
  subst t2
  obtain ⟨⟨j1, j2, j3⟩, j4, j5, j6, _⟩ := hJ
  rcases fd.1 with ⟨_, b, _⟩ | ⟨_, b1, b2, b3⟩ | ⟨b, _⟩ | ⟨b, _⟩ | ⟨b, _⟩ | ⟨b, _⟩ | ⟨b, _⟩
  · omega
  · subst b1
    have es : s = s' := Int32.toInt_inj.mp (zz_lpw_uq t1 b2)
    subst es
    have sr := zz_lpw_rg t1
    have m2 := zz_smp_ext b3.1 (W := W) j2 (fun x h1 h2 => j5 x h1 (by omega)) (by omega)
    have ex : x = x' := Int32.toInt_inj.mp (zz_smp_uq t3.1 m2 j4)
    subst ex
    refine ⟨rfl, rfl, ?_, hR, hO, fun h0 => ?_⟩
    · rcases m2 with ⟨z, _⟩ | ⟨z, _⟩
      · omega
      · omega
    · rcases m2 with ⟨z, _⟩ | ⟨z1, z2, z3, _⟩
      · omega
      · rcases j6.1 x.toInt.toNat (by omega) with a | ⟨a1, a2, a3⟩
        · have a : (g4 x.toInt.toNat).toInt = 0 := a
          omega
        · have a2 : (x.toInt.toNat : Int) + (g4 x.toInt.toNat).toInt ≤ (W.toNat : Int) := a2
          have p0 := zz_p2_pos j1
          refine ⟨by omega, by omega, fun y y1 y2 => ?_⟩
          have a4 := a3 y (by omega) (by show (y : Int) < (x.toInt.toNat : Int) + (g4 x.toInt.toNat).toInt; omega)
          rw [a4]; decide
  · omega
  · omega
  · omega
  · omega
  · omega
theorem zz_gs4 {fn w W le tp pg : Int} {f f' c c1 o o1 o' nu nu' pl pl' sp sp' as as' g4 g4' G G' li lm li' lm' qk qk' qm qm' : Nat → Int32} {Gn p1 s x : Int32} {P Q Z Z2 : Prop} (hf : fn = 4) (hJ : zz_F4 w W f g4 o nu pl sp) (hw : 16 ≤ w) (hw2 : w ≤ 1024) (h1 : 1 ≤ p1.toInt) (tk : zz_lpw p1.toInt s.toInt ∧ c1 = c ∧ P ∧ zz_t4 f f' W s.toInt x.toInt) (fd : zz_FA fn w le tp pg o o1 g4 g4' G G' li lm li' lm' qk qk' qm qm' p1 s x.toInt ∧ Q) (hz : (x.toInt = -1 ∧ o' = o1 ∧ Z ∧ nu' = nu ∧ pl' = pl ∧ sp' = sp) ∨ (0 ≤ x.toInt ∧ zz_gv w o1 nu pl sp as o' nu' pl' sp' as' Gn x s p1 ∧ Z2)) : zz_F4 w W f' g4' o' nu' pl' sp' := by
  subst hf
  obtain ⟨t1, _, _, t3⟩ := tk
  rcases fd.1 with ⟨_, b, _⟩ | ⟨_, b1, b2, b3⟩ | ⟨b, _⟩ | ⟨b, _⟩ | ⟨b, _⟩ | ⟨b, _⟩ | ⟨b, _⟩
  · omega
  · subst b1
    rcases hz with ⟨z1, z2, _, z3, z4, z5⟩ | ⟨z1, z2, _⟩
    · subst z2 z3 z4 z5
      rcases t3.2 with ⟨_, e1⟩ | ⟨e1, _⟩
      · rcases b3.2 with ⟨_, e2⟩ | ⟨e2, _⟩
        · subst e1 e2
          exact hJ
        · omega
      · omega
    · rcases t3.2 with ⟨e1, _⟩ | ⟨_, e1⟩
      · omega
      · rcases b3.2 with ⟨e2, _⟩ | ⟨_, e2⟩
        · omega
        · have ex : x.toInt.toNat = x.toNatClampNeg := by have := zz_tnI x z1; omega
          rw [ex] at e1 e2
          obtain ⟨c1, c2⟩ : x.toInt < W ∧ s.toInt ≤ (f x.toNatClampNeg).toInt := by
            rcases t3.1 with ⟨y, _⟩ | ⟨_, y2, y3, _⟩
            · omega
            · rw [ex] at y3
              exact ⟨y2, y3⟩
          have e3 := hJ.2.1 x.toNatClampNeg (by have := zz_tnI x z1; omega)
          exact zz_F4_give hJ hw hw2 z2 z1 c1 t1.1 (by rw [← e3]; exact c2) e1 rfl (by decide) e2
  · omega
  · omega
  · omega
  · omega
  · omega
-- form 6
def zz_J6 (w gr : Int32) (o nu pl sp : Nat → Int32) : Prop := gr.toInt = w.toInt / 4 ∧ zz_F6 w.toInt o nu pl sp
theorem zz_s4_m {F : Int → Prop} {st lim r : Int} (h : zz_s4 F st lim 0 r) (hs : 0 ≤ st) : r = -1 ∨ (0 ≤ r ∧ r % 4 = 0 ∧ r / 4 ≤ lim ∧ F (r / 4)) := by
  rcases h with ⟨a, _⟩ | ⟨j, j1, j2, j3, _⟩
  · exact Or.inl a
  · have : 0 ≤ st * (j : Int) := Int.mul_nonneg hs (Int.natCast_nonneg j)
    refine Or.inr ⟨by omega, by omega, by omega, ?_⟩
    rw [show r / 4 = 0 + st * (j : Int) by omega]
    exact j3
theorem zz_hF6 {fn w B g gr le tp pg : Int} {nc pc sc ac c c1 o o1 nu pl sp as g4 g4' G G' li lm li' lm' qk qk' qm qm' : Nat → Int32} {p1 s x s' x' : Int32} {P Q : Prop} (hf : fn = 6) (hR : zz_RB w B g nc pc sc ac o nu pl sp as) (hO : zz_OC w c o nu) (hJ : zz_F6 w o nu pl sp) (hg : gr = w / 4) (hw0 : 0 ≤ w) (h1 : 1 ≤ p1.toInt) (tk : s.toInt = (p1.toInt + 3) / 4 * 4 ∧ c1 = c ∧ P ∧ zz_g6 c gr s.toInt x.toInt) (fd : zz_FA fn w le tp pg o o1 g4 g4' G G' li lm li' lm' qk qk' qm qm' p1 s' x'.toInt ∧ Q) : zz_HF w B g nc pc sc ac nu pl sp as s x c1 s' x' o1 := by
  subst hf
  obtain ⟨t1, t2, _, pw, st, t3, t4, t5⟩ := tk
  subst t2 hg
  rcases fd.1 with ⟨_, b, _⟩ | ⟨b, _⟩ | ⟨b, _⟩ | ⟨_, b1, b2, pw2, st2, b3, b4, b5⟩ | ⟨b, _⟩ | ⟨b, _⟩ | ⟨b, _⟩
  · omega
  · omega
  · omega
  · subst b1
    have es : s = s' := Int32.toInt_inj.mp (by omega)
    subst es
    have ep := zz_lpw_uq t3 b3
    subst ep
    have er := zz_lpw_rg t3
    have est : st = st2 := by omega
    subst est
    have ex : x = x' := Int32.toInt_inj.mp (zz_s4_uq t5 b5 (by omega) (fun k k1 k2 => zz_F6_fg hJ (zz_OC_fe hO) k1 k2))
    subst ex
    have m := zz_s4_m b5 (by omega)
    refine ⟨rfl, rfl, by omega, hR, hO, fun h0 => ?_⟩
    rcases m with z | ⟨z1, z2, z3, z4⟩
    · omega
    · refine ⟨by omega, by omega, fun y y1 y2 => ?_⟩
      have z4 : zz_bk o1 (4 * (x.toInt / 4)) (4 * (x.toInt / 4) + 4 * (s.toInt / 4)) := z4
      rw [z4 y (by omega) (by omega)]; decide
  · omega
  · omega
  · omega
theorem zz_gs6 {fn w gr le tp pg : Int} {c c1 o o1 o' nu nu' pl pl' sp sp' as as' g4 g4' G G' li lm li' lm' qk qk' qm qm' : Nat → Int32} {Gn p1 s x : Int32} {P Q Z Z2 : Prop} (hf : fn = 6) (hJ : zz_F6 w o nu pl sp) (h1 : 1 ≤ p1.toInt) (tk : s.toInt = (p1.toInt + 3) / 4 * 4 ∧ c1 = c ∧ P ∧ zz_g6 c gr s.toInt x.toInt) (fd : zz_FA fn w le tp pg o o1 g4 g4' G G' li lm li' lm' qk qk' qm qm' p1 s x.toInt ∧ Q) (hz : (x.toInt = -1 ∧ o' = o1 ∧ Z ∧ nu' = nu ∧ pl' = pl ∧ sp' = sp) ∨ (0 ≤ x.toInt ∧ zz_gv w o1 nu pl sp as o' nu' pl' sp' as' Gn x s p1 ∧ Z2)) : zz_F6 w o' nu' pl' sp' := by
  subst hf
  obtain ⟨t1, _, _, pw, st, t3, t4, t5⟩ := tk
  have er := zz_lpw_rg t3
  rcases fd.1 with ⟨_, b, _⟩ | ⟨b, _⟩ | ⟨b, _⟩ | ⟨_, b1, _⟩ | ⟨b, _⟩ | ⟨b, _⟩ | ⟨b, _⟩
  · omega
  · omega
  · omega
  · subst b1
    rcases hz with ⟨z1, z2, _, z3, z4, z5⟩ | ⟨z1, z2, _⟩
    · subst z2 z3 z4 z5
      exact hJ
    · rcases zz_s4_m t5 (by omega) with y | ⟨_, y, _⟩
      · omega
      · exact zz_F6_give hJ z2 z1 (by omega) y (by omega)
  · omega
  · omega
  · omega
-- form 8
def zz_J8 (w tp tpr st : Int32) (kp ks kg o nu pl sp : Nat → Int32) : Prop := tp = tpr ∧ zz_F8 w.toInt tp.toInt st.toInt kp ks kg o nu pl sp
theorem zz_hF8 {fn w B g tc tp le pg : Int} {nc pc sc ac c c1 o o1 nu pl sp as g4 g4' G G' li lm li' lm' qk qk' qm qm' kp ks kg : Nat → Int32} {p1 s x s' x' : Int32} {st tn : Int} {Q : Prop} (hf : fn = 8) (hR : zz_RB w B g nc pc sc ac o nu pl sp as) (hO : zz_OC w c o nu) (hJ : zz_F8 w tc st kp ks kg o nu pl sp) (ht : tc = tp) (h1 : 1 ≤ p1.toInt) (tk : s = p1 ∧ c1 = c ∧ ((w - tc < p1.toInt ∧ x.toInt = -1 ∧ tn = tc) ∨ (p1.toInt ≤ w - tc ∧ x.toInt = tc ∧ tn = tc + p1.toInt))) (fd : zz_FA fn w le tp pg o o1 g4 g4' G G' li lm li' lm' qk qk' qm qm' p1 s' x'.toInt ∧ Q) : zz_HF w B g nc pc sc ac nu pl sp as s x c1 s' x' o1 := by
  subst hf
  obtain ⟨t1, t2, t3⟩ := tk
  subst t1 t2 ht
  rcases fd.1 with ⟨_, b, _⟩ | ⟨b, _⟩ | ⟨b, _⟩ | ⟨b, _⟩ | ⟨b, _⟩ | ⟨_, b1, b2, b3⟩ | ⟨b, _⟩
  · omega
  · omega
  · omega
  · omega
  · omega
  · subst b1 b2
    have ex : x = x' := Int32.toInt_inj.mp (by omega)
    subst ex
    have h0 := hJ.2.1
    have hu := hJ.2.2.2.2.2.2.2.2.2
    refine ⟨rfl, rfl, by omega, hR, hO, fun hx => ⟨h1, by omega, fun y y1 y2 => ?_⟩⟩
    rw [hu y (by omega) (by omega)]; decide
  · omega
theorem zz_gs8 {fn w tc tp tp' le le' pg st st' tn : Int} {c c1 o o1 o' nu nu' pl pl' sp sp' as as' g4 g4' G G' li lm li' lm' qk qk' qm qm' kp ks kg kp' ks' kg' : Nat → Int32} {Gn p1 s x : Int32} {Z Z2 : Prop} (hf : fn = 8) (hJ : zz_F8 w tc st kp ks kg o nu pl sp) (hO : zz_OW w o nu pl sp) (hG : 0 ≤ Gn.toInt) (hG2 : Gn.toInt ≤ 100000) (ht : tc = tp) (h1 : 1 ≤ p1.toInt) (tk : s = p1 ∧ c1 = c ∧ ((w - tc < p1.toInt ∧ x.toInt = -1 ∧ tn = tc) ∨ (p1.toInt ≤ w - tc ∧ x.toInt = tc ∧ tn = tc + p1.toInt))) (fd : zz_FA fn w le tp pg o o1 g4 g4' G G' li lm li' lm' qk qk' qm qm' p1 s x.toInt ∧ zz_SX fn x.toInt p1.toInt s.toInt le le' tp tp' st st' kp ks kg kp' ks' kg' x s) (hz : (x.toInt = -1 ∧ o' = o1 ∧ Z ∧ nu' = nu ∧ pl' = pl ∧ sp' = sp) ∨ (0 ≤ x.toInt ∧ zz_gv w o1 nu pl sp as o' nu' pl' sp' as' Gn x s p1 ∧ Z2)) : tn = tp' ∧ zz_F8 w tn st' kp' ks' kg' o' nu' pl' sp' := by
  subst hf
  obtain ⟨t1, _, t3⟩ := tk
  subst t1
  subst ht
  rcases fd.1 with ⟨_, b, _⟩ | ⟨b, _⟩ | ⟨b, _⟩ | ⟨b, _⟩ | ⟨b, _⟩ | ⟨_, b1, b2, b3⟩ | ⟨b, _⟩
  · omega
  · omega
  · omega
  · omega
  · omega
  · subst b1
    rcases hz with ⟨z1, z2, _, z3, z4, z5⟩ | ⟨z1, z2, _⟩
    · subst z2 z3 z4 z5
      rcases fd.2 with ⟨_, _, a2, a3, a4, a5, a6⟩ | ⟨a1, _⟩
      · subst a4 a5 a6
        have e1 : tn = tc := by
          rcases t3 with ⟨_, _, y⟩ | ⟨y1, y2, _⟩
          · exact y
          · have := hJ.2.1
            omega
        rw [a3, e1]
        exact ⟨a2.symm, hJ⟩
      · omega
    · rcases fd.2 with ⟨a1, _⟩ | ⟨_, _, a2⟩
      · omega
      · rcases a2 with ⟨_, a3, a4, a5, a6, a7⟩ | ⟨a2, _⟩
        · have e1 : x.toInt = tc ∧ tn = tc + s.toInt ∧ x.toInt + s.toInt ≤ w := by omega
          have e2 : tn = tp' := by omega
          exact ⟨e2, zz_F8_give hJ hO z2 hG hG2 e1.1 h1 e1.2.2 e1.2.1 a4 a5 a6 a7 (by decide)⟩
        · exact absurd rfl a2
  · omega
-- back: forms 0 to 8
theorem zz_qm1 {q : Int32} (h : q.toInt = -1) : q = -1 := Int32.toInt_inj.mp (by rw [h]; decide)
theorem zz_bW {f W pg : Int} {c c' o' g g' G G' li lm li' lm' kp kg kg' qk qk' qm qm' : Nat → Int32} {w tp tp' st st' : Int} {p s q : Int32} {P : Prop} (hf : f ≠ 9) (tb : zz_wr c c' p.toInt (p.toInt + s.toInt) (-1) ∧ P) (tr : zz_BA f W pg o' g g' G G' li lm li' lm' w tp tp' st st' kp kg kg' qk qk' qm qm' p s q) : zz_wr c c' p.toInt (p.toInt + s.toInt) q := by
  have e : q.toInt = -1 := by
    rcases tr with ⟨_, _, b⟩ | ⟨_, b, _⟩ | ⟨_, b, _⟩ | ⟨_, b⟩ | ⟨_, b, _⟩ | ⟨_, b, _⟩ | ⟨b, _⟩ | ⟨b, _⟩
    · exact b
    · exact b
    · exact b
    · exact b
    · exact b
    · exact b
    · exact absurd b hf
    · exact absurd b hf
  rw [zz_qm1 e]
  exact tb.1
theorem zz_bs4 {fn w W pg : Int} {f f' c c' o o' nu pl sp g g' G G' li lm li' lm' kp kg kg' qk qk' qm qm' : Nat → Int32} {tp tp' st st' : Int} {b : Nat} {q : Int32} {P : Prop} (hf : fn = 4) (hJ : zz_F4 w W f g o nu pl sp) (hw : 16 ≤ w) (hw2 : w ≤ 1024) (hO : zz_OW w o nu pl sp) (hb : b < 200) (ub : zz_us w o nu pl b) (hwr : zz_wr o o' (pl b).toInt ((pl b).toInt + (sp b).toInt) q) (tb : zz_wr c c' (pl b).toInt ((pl b).toInt + (sp b).toInt) (-1) ∧ P ∧ zz_jr W f f' (pl b).toInt (sp b).toInt) (tr : zz_BA fn W pg o' g g' G G' li lm li' lm' w tp tp' st st' kp kg kg' qk qk' qm qm' (pl b) (sp b) q) : zz_F4 w W f' g' o' (upd nu b 0) pl sp := by
  subst hf
  rcases tr with ⟨_, a, _⟩ | ⟨_, a, d1, d2⟩ | ⟨a, _⟩ | ⟨a, _⟩ | ⟨a, _⟩ | ⟨a, _⟩ | ⟨a, _⟩ | ⟨a, _⟩
  · omega
  · exact zz_F4_back hJ hw hw2 hO hb ub hwr a tb.2.2 d1 (fun x hx => d2 x hx)
  · omega
  · omega
  · omega
  · omega
  · omega
  · omega
theorem zz_bs6 {fn w W pg : Int} {o o' nu pl sp g g' G G' li lm li' lm' kp kg kg' qk qk' qm qm' : Nat → Int32} {tp tp' st st' : Int} {b : Nat} {q : Int32} (hf : fn = 6) (hJ : zz_F6 w o nu pl sp) (hO : zz_OW w o nu pl sp) (hb : b < 200) (ub : zz_us w o nu pl b) (hwr : zz_wr o o' (pl b).toInt ((pl b).toInt + (sp b).toInt) q) (tr : zz_BA fn W pg o' g g' G G' li lm li' lm' w tp tp' st st' kp kg kg' qk qk' qm qm' (pl b) (sp b) q) : zz_F6 w o' (upd nu b 0) pl sp := by
  subst hf
  rcases tr with ⟨_, a, _⟩ | ⟨a, _⟩ | ⟨a, _⟩ | ⟨_, a⟩ | ⟨a, _⟩ | ⟨a, _⟩ | ⟨a, _⟩ | ⟨a, _⟩
  · omega
  · omega
  · omega
  · exact zz_F6_back hJ hO hb ub hwr (by omega)
  · omega
  · omega
  · omega
  · omega
theorem zz_bs8 {fn w W pg tc tn : Int} {c c' o o' nu pl sp g g' G G' li lm li' lm' kp ks kg kg' qk qk' qm qm' : Nat → Int32} {tp tp' st st' : Int} {b : Nat} {q : Int32} (hf : fn = 8) (hJ : zz_F8 w tc st kp ks kg o nu pl sp) (ht : tc = tp) (hO : zz_OW w o nu pl sp) (hOC : zz_OC w c' o' (upd nu b 0)) (hb : b < 200) (ub : zz_us w o nu pl b) (hwr : zz_wr o o' (pl b).toInt ((pl b).toInt + (sp b).toInt) q) (tb : zz_wr c c' (pl b).toInt ((pl b).toInt + (sp b).toInt) (-1) ∧ zz_tp c' tc tn) (tr : zz_BA fn W pg o' g g' G G' li lm li' lm' w tp tp' st st' kp kg kg' qk qk' qm qm' (pl b) (sp b) q) : tn = tp' ∧ zz_F8 w tn st' kp ks kg' o' (upd nu b 0) pl sp := by
  subst hf
  subst ht
  rcases tr with ⟨_, a, _⟩ | ⟨a, _⟩ | ⟨a, _⟩ | ⟨a, _⟩ | ⟨a, _⟩ | ⟨_, a, d1, d2, d3⟩ | ⟨a, _⟩ | ⟨a, _⟩
  · omega
  · omega
  · omega
  · omega
  · omega
  · obtain ⟨k1, k2⟩ := zz_F8_back hJ hO hb ub hwr a (fun k hk => d1 k (by omega) hk) d3
    have e := zz_tp_uq tb.2 k2 (zz_OC_fe hOC) hJ.2.2.1
    subst e
    exact ⟨rfl, k1⟩
  · omega
  · omega
-- what the two sides want ahead of a call
theorem zz_RB_B {w B g : Int} {nc pc sc ac o nu pl sp as : Nat → Int32} (h : zz_RB w B g nc pc sc ac o nu pl sp as) {i : Nat} (hi : (i : Int) < B) : ∃ b : Nat, b < 200 ∧ zz_us w o nu pl b ∧ (pl b).toInt = (pc i).toInt ∧ (sp b).toInt = (sc i).toInt := by
  obtain ⟨b, b1, b2, _, b4, b5, _⟩ := (h.2.2.2.2.2 _ _ _ _).mp ⟨i, hi, rfl, rfl, rfl, rfl⟩
  exact ⟨b, b1, b2, b4, b5⟩
theorem zz_F4_B4 {w B g W : Int} {f g4 nc pc sc ac o nu pl sp as : Nat → Int32} (h : zz_RB w B g nc pc sc ac o nu pl sp as) (hJ : zz_F4 w W f g4 o nu pl sp) : zz_B4 pc sc B W := fun i hi => by
  obtain ⟨b, b1, b2, b3, b4⟩ := zz_RB_B h hi
  obtain ⟨c1, c2⟩ := hJ.2.2.2.2 b b1 b2
  have c3 := h.2.2.1 i hi
  rw [b4] at c1
  exact ⟨c1, c3.1, by omega⟩
theorem zz_F4_P4 {w W : Int} {f g4 o nu pl sp : Nat → Int32} (hJ : zz_F4 w W f g4 o nu pl sp) : zz_P4 f W ∧ zz_P4 g4 1024 ∧ zz_z4 g4 W := by
  obtain ⟨j1, j4, j5, j6, _⟩ := hJ
  have p0 := zz_p2_pos j1.1
  have key : ∀ x : Nat, (x : Int) < W → (g4 x).toInt = 0 ∨ (zz_p2 (g4 x).toInt ∧ (x : Int) + (g4 x).toInt ≤ W) := fun x hx => by
    rcases j6.1 x (by omega) with a | ⟨a1, a2, _⟩
    · exact Or.inl a
    · have a2 : (x : Int) + (g4 x).toInt ≤ (W.toNat : Int) := a2
      exact Or.inr ⟨a1, by omega⟩
  refine ⟨fun x hx => ?_, fun x hx => ?_, j5⟩
  · rw [j4 x hx]
    exact key x hx
  · by_cases c : (x : Int) < W
    · rcases key x c with a | ⟨a1, a2⟩
      · exact Or.inl a
      · exact Or.inr ⟨a1, by omega⟩
    · exact Or.inl (j5 x (by omega) hx)
theorem zz_PR_n {f w W : Int} {o g qk qm : Nat → Int32} (h4 : f ≠ 4) (h9 : f ≠ 9) : zz_PR f w W o g qk qm := ⟨fun z => absurd z h4, fun z => absurd z h9⟩
theorem zz_PB_n {f w W : Int} {o nu pl sp g : Nat → Int32} (h4 : f ≠ 4) : zz_PB f w W o nu pl sp g := fun z => absurd z h4
theorem zz_F4_PR {fn w W : Int} {f g4 o nu pl sp qk qm : Nat → Int32} (hf : fn = 4) (hJ : zz_F4 w W f g4 o nu pl sp) : zz_PR fn w W o g4 qk qm := ⟨fun _ => ⟨(zz_F4_P4 hJ).2.1, hJ.1.1, (zz_F4_P4 hJ).2.2⟩, fun z => by omega⟩
theorem zz_F4_PB {fn w W : Int} {f g4 o nu pl sp : Nat → Int32} (hJ : zz_F4 w W f g4 o nu pl sp) : zz_PB fn w W o nu pl sp g4 := fun _ => ⟨hJ.1.1, (zz_F4_P4 hJ).2.2, fun b b1 b2 => (hJ.2.2.2.2 b b1 b2).2⟩
-- about, at, run
theorem zz_AA {e : String} {p1 : Int32} {p2 r r' w B g th : Int} {nc pc sc ac o nu pl sp as : Nat → Int32} (h : zz_RB w B g nc pc sc ac o nu pl sp as) (hg : g ≤ 100000) (hc : zz_AE e p1 p2 r B nc pc sc ac) (hr : zz_AF th p1 p2 r' w o nu pl sp as) : (e = "" ∧ th = 0 ∧ r = r') ∨ (e = "java/lang/IllegalArgumentException" ∧ th = 1) ∨ (e = "java/util/NoSuchElementException" ∧ th = 3) := by
  have no := zz_RB_no (v := p1) h hg
  rcases hc with ⟨a1, a2⟩ | ⟨a1, a2, a3⟩
  · rcases hr with ⟨b1, _⟩ | ⟨b1, b2, _⟩
    · exact Or.inr (Or.inl ⟨a1, b1⟩)
    · omega
  · rcases hr with ⟨b1, b2⟩ | ⟨_, _, b3⟩
    · omega
    · rcases a3 with ⟨c1, c2⟩ | ⟨c1, i, c2, c3, c4⟩
      · rcases b3 with ⟨d1, _⟩ | ⟨d1, d2, b, d3, d4, d5, _⟩
        · exact Or.inr (Or.inr ⟨c1, d1⟩)
        · rcases no.mp c2 with z | z
          · omega
          · exact absurd ⟨d4, d5⟩ (z b (by omega))
      · rcases b3 with ⟨d1, d2⟩ | ⟨d1, d2, b, d3, d4, d5, d6⟩
        · exact absurd c3 (no.mpr d2 i c2)
        · refine Or.inl ⟨c1, d1, ?_⟩
          obtain ⟨b', b1', b2', b3', b4', b5', b6'⟩ := (h.2.2.2.2.2 _ _ _ _).mp ⟨i, c2, rfl, rfl, rfl, rfl⟩
          have ni := h.2.1 i c2
          have en : (nu b).toInt = (nc i).toInt + 1 := by
            rw [d4, c3]
            exact zz_p1 _ (by rw [← c3]; omega)
          have e : b = b' := h.2.2.2.2.1 b b' d3 b1' d5 b2' (Int32.toInt_inj.mp (by omega))
          subst e
          omega
theorem zz_TT {e : String} {p1 : Int32} {r r' w th : Int} {c o nu : Nat → Int32} (h : zz_OC w c o nu) (hc : zz_TE e p1 r w c) (hr : zz_TF th p1 r' w o nu) : (e = "" ∧ th = 0 ∧ r = r') ∨ (e = "java/lang/IllegalArgumentException" ∧ th = 1) := by
  rcases hc with ⟨a1, a2⟩ | ⟨a1, a2, a3, a4⟩
  · rcases hr with ⟨b1, _⟩ | ⟨_, b2, b3, _⟩
    · exact Or.inr ⟨a1, b1⟩
    · omega
  · rcases hr with ⟨_, b2⟩ | ⟨b1, _, _, b4⟩
    · omega
    · refine Or.inl ⟨a1, b1, ?_⟩
      have ex := zz_tnI p1 a2
      rcases h p1.toNatClampNeg (by omega) with ⟨c1, c2⟩ | ⟨c1, c2⟩ | ⟨c1, c2, c3⟩
      · rcases a4 with a | a <;> rcases b4 with b | b <;> omega
      · rcases a4 with a | a <;> rcases b4 with b | b <;> omega
      · rcases b4 with b | ⟨_, b⟩
        · omega
        · have m := zz_m1 (nu (o p1.toNatClampNeg).toNatClampNeg) (by omega)
          rcases a4 with ⟨_, a⟩ | a
          · rw [a, b, c3, m]
          · omega
theorem zz_rn_fe2 {w : Int} {c o : Nat → Int32} {pl wd : Nat → Int32} {n : Int} (h : zz_fe2 w c o) (hu : zz_ru w c pl wd n) : zz_ru w o pl wd n := by
  obtain ⟨u1, u2, u3⟩ := hu
  exact ⟨fun i hi => ⟨(u1 i hi).1, (u1 i hi).2.1, zz_rn_fe h (u1 i hi).2.2⟩, fun q u hq => u2 q u (zz_rn_fe (zz_fe2_sy h) hq), u3⟩
theorem zz_RR {e : String} {p1 p2 r r' w th : Int} {c o : Nat → Int32} (h : zz_fe2 w c o) (hc : zz_RE e p1 p2 r w c) (hr : zz_RF th p1 p2 r' w o) : (e = "" ∧ th = 0 ∧ r = r') ∨ (e = "java/lang/IllegalArgumentException" ∧ th = 1) ∨ (e = "java/lang/IndexOutOfBoundsException" ∧ th = 3) := by
  rcases hc with ⟨a1, a2⟩ | ⟨a1, a2, pl, wd, n, a3, a4, a5⟩
  · rcases hr with ⟨b1, _⟩ | ⟨b1, b2, _⟩
    · exact Or.inr (Or.inl ⟨a1, b1⟩)
    · omega
  · rcases hr with ⟨_, b2⟩ | ⟨_, _, b3⟩
    · omega
    · have hu := zz_rn_fe2 h a3
      rcases a5 with ⟨c1, c2⟩ | ⟨c1, c2, c3, c4⟩
      · rcases b3 with ⟨d1, _⟩ | ⟨d1, d2, p, sz, d3, d4, _⟩
        · exact Or.inr (Or.inr ⟨c1, d1⟩)
        · rcases d4 pl wd n a4 hu with ⟨z, _⟩ | ⟨_, z, _⟩
          · omega
          · omega
      · rcases b3 with ⟨d1, d2⟩ | ⟨d1, d2, p, sz, d3, d4, d5⟩
        · rcases d2 with d2 | ⟨d2, sz, d3⟩
          · omega
          · rcases d3 pl wd n a4 hu with ⟨_, z⟩ | ⟨z, _⟩
            · omega
            · omega
        · rcases d4 pl wd n a4 hu with ⟨z, _⟩ | ⟨_, z1, z2, z3⟩
          · omega
          · exact Or.inl ⟨c1, d1, by omega⟩
theorem zz_NN {e : String} {th : Int} {P : Prop} (hc : zz_NE e P) (hr : zz_NF th P) : (e = "java/lang/IllegalArgumentException" ∧ th = 1) ∨ (e = "java/lang/IllegalStateException" ∧ th = 2) := by
  rcases hc with ⟨a, b⟩ | ⟨a, b⟩
  · rcases hr with ⟨c, _⟩ | ⟨_, d⟩
    · exact Or.inl ⟨a, c⟩
    · exact absurd b d
  · rcases hr with ⟨_, d⟩ | ⟨c, _⟩
    · exact absurd d b
    · exact Or.inr ⟨a, c⟩
/-! form 5: class and reference in step -/
def zz_J5 (w pg pgr : Int32) (S K G o nu pl sp : Nat → Int32) : Prop := pg = pgr ∧ zz_F5 w.toInt pg.toInt S K G o nu pl sp
theorem zz_s5_uq {n r s : Int} (h1 : zz_s5 n r) (h2 : zz_s5 n s) : r = s := by
  rcases h1 with ⟨a, b⟩ | ⟨a, b⟩
  · rcases h2 with ⟨_, d⟩ | ⟨c, _⟩
    · exact zz_lpw_uq b d
    · omega
  · rcases h2 with ⟨c, _⟩ | ⟨_, d⟩
    · omega
    · omega
theorem zz_wr_i {f g : Nat → Int32} {a e : Int} {v : Int32} {i : Nat} (h : zz_wr f g a e v) (h1 : a ≤ (i : Int)) (h2 : (i : Int) < e) : g i = v := by rw [h i, if_pos ⟨h1, h2⟩]
theorem zz_wr_o {f g : Nat → Int32} {a e : Int} {v : Int32} {i : Nat} (h : zz_wr f g a e v) (h1 : (i : Int) < a ∨ e ≤ (i : Int)) : g i = f i := by rw [h i, if_neg (by omega)]
theorem zz_cn_le9 (P : Nat → Prop) (n : Nat) : zz_cn P n ≤ n := by
  have h := zz_cn_mono (P := P) (Q := fun _ => True) n (fun _ _ _ => trivial)
  rw [zz_cn_full n (fun _ _ => trivial)] at h
  exact h
/-- what both sides did -/
def zz_C5 (S K G S' K' G' o : Nat → Int32) (pg s x : Int) : Prop :=
  (x = -1 ∧ S' = S ∧ K' = K ∧ G' = G) ∨
  (s ≤ 32 ∧ S' = S ∧ G' = G ∧ ∃ p j : Nat, (p : Int) < pg ∧ (S p).toInt = s ∧ j < 32 ∧ (j : Int) % s = 0 ∧ x = 32 * (p : Int) + (j : Int) ∧ zz_bk o x (x + s) ∧ K' p = (K p) + ((1 : Int32)) ∧ ∀ q : Nat, q ≠ p → K' q = K q) ∨
  (s ≤ 32 ∧ ∃ p : Nat, (p : Int) < pg ∧ (S p).toInt = 0 ∧ x = 32 * (p : Int) ∧ (S' p).toInt = s ∧ (∀ q : Nat, q ≠ p → S' q = S q) ∧ (K' p).toInt = 1 ∧ (∀ q : Nat, q ≠ p → K' q = K q) ∧ (G' p).toInt = s ∧ ∀ q : Nat, q ≠ p → G' q = G q) ∨
  (32 < s ∧ ∃ q n : Int, 0 ≤ q ∧ q + n ≤ pg ∧ zz_z5 S q (q + n) ∧ s = 32 * n ∧ x = 32 * q ∧ (∃ v : Int32, v.toInt = s ∧ zz_wr S S' q (q + n) v) ∧ zz_wr K K' q (q + n) 1 ∧ zz_wr G G' q (q + n) 64)
theorem zz_r5 {w pg x x' : Int} {S K G S' K' G' c o nu pl sp : Nat → Int32} {s : Int32} (hJ : zz_F5 w pg S K G o nu pl sp) (he : zz_fe2 w c o) (hs : zz_s5s s.toInt) (hk : zz_k5t S K S' K' c pg s x) (hr : (s.toInt ≤ 32 ∧ zz_ca5 G G' o pg s 0 x') ∨ (32 < s.toInt ∧ zz_rw5 G G' pg (s.toInt / 32) x')) : x = x' ∧ zz_C5 S K G S' K' G' o pg s.toInt x := by
  have hs1 : 1 ≤ s.toInt := by have := zz_s5s_or hs; omega
  have ez : ∀ p : Nat, (p : Int) < pg → ((S p).toInt = 0 ↔ (G p).toInt = 0) := fun p hp => (zz_F5_p (s := 1) hJ hp (by omega) (by omega)).2
  rcases hk with ⟨a1, q, q1, q2⟩ | ⟨a1, a2, a3, a4, a5⟩ | ⟨a1, a2, q, q1, q2⟩
  · rcases hr with ⟨b1, _⟩ | ⟨b1, r, r1, r2⟩
    · omega
    · have e := zz_fr5_uq q1 r1 ez
      subst e
      have hm : s.toInt = 32 * (s.toInt / 32) := by have := zz_s5s_or hs; omega
      rcases q2 with ⟨c1, c2, c3, c4⟩ | ⟨c1, c2, c3, c4⟩
      · rcases r2 with ⟨_, d2, d3⟩ | ⟨d1, _⟩
        · exact ⟨by omega, Or.inl ⟨c2, c3, c4, d3⟩⟩
        · omega
      · rcases r2 with ⟨d1, _⟩ | ⟨_, d2, d3⟩
        · omega
        · rcases q1 with ⟨f1, _⟩ | ⟨_, f2, f3, _⟩
          · omega
          · refine ⟨by omega, Or.inr (Or.inr (Or.inr ⟨a1, q, s.toInt / 32, c1, f2, f3, hm, c2, ⟨s, rfl, c3⟩, ?_, d3⟩))⟩
            rcases c4 with ⟨g, _⟩ | ⟨_, g⟩
            · omega
            · exact g
  · rcases hr with ⟨b1, b2⟩ | ⟨b1, _⟩
    · have key : ∀ r r' : Int, zz_tp5 S (fun y => (c y.toNat).toInt = -1) pg s.toInt 0 r → zz_tp5 G (fun y => zz_bk o y (y + s.toInt)) pg s.toInt 0 r' → r = r' := fun r r' z1 z2 => zz_tp5_uq z1 z2 (fun p hp => (zz_F5_p hJ hp hs1 a1).1) (fun p hp hS j hj hm => zz_F5_fr hJ he hp hS hs1 a1 hj hm)
      rcases b2 with ⟨d1, d2, d3⟩ | ⟨d1, _⟩
      · have e := key _ _ a4 d3
        refine ⟨e, Or.inr (Or.inl ⟨a1, a3, d2, ?_⟩)⟩
        rcases a4 with ⟨z, _⟩ | ⟨p, _, p2, p3, _, p5, _⟩
        · omega
        · rcases p5 with ⟨z, _⟩ | ⟨j, j1, j2, j3, j4, _⟩
          · omega
          · rcases a5 with ⟨z, _⟩ | ⟨_, i, i1, i2⟩
            · omega
            · have ei : i = p := by omega
              subst ei
              refine ⟨i, j, p2, p3, j1, j2, j3, ?_, by rw [i2, zz_updE, if_pos rfl], fun q hq => by rw [i2, zz_updE, if_neg hq]⟩
              have j4 : (c x.toNat).toInt = -1 := j4
              rw [j3] at j4 ⊢
              exact (zz_F5_fr hJ he p2 p3 hs1 a1 j1 j2).mp j4
      · have e := key _ _ a4 d1
        omega
    · omega
  · rcases hr with ⟨b1, b2⟩ | ⟨b1, _⟩
    · have key : ∀ r r' : Int, zz_tp5 S (fun y => (c y.toNat).toInt = -1) pg s.toInt 0 r → zz_tp5 G (fun y => zz_bk o y (y + s.toInt)) pg s.toInt 0 r' → r = r' := fun r r' z1 z2 => zz_tp5_uq z1 z2 (fun p hp => (zz_F5_p hJ hp hs1 a1).1) (fun p hp hS j hj hm => zz_F5_fr hJ he hp hS hs1 a1 hj hm)
      rcases b2 with ⟨d1, _, d3⟩ | ⟨_, d2⟩
      · have e := key _ _ a2.1 d3
        omega
      · obtain ⟨r, r1, r2⟩ := zz_ne5_fr d2 rfl
        have e := zz_fr5_uq q1 r1 ez
        subst e
        rcases q2 with ⟨c1, c2, c3, c4⟩ | ⟨c1, c2, c3, c4⟩
        · rcases r2 with ⟨_, d2, d3⟩ | ⟨d1, _⟩
          · exact ⟨by omega, Or.inl ⟨c2, c3, c4, d3⟩⟩
          · omega
        · rcases r2 with ⟨d1, _⟩ | ⟨_, d2, i, v, i1, i2, i3⟩
          · omega
          · rcases q1 with ⟨f1, _⟩ | ⟨_, f2, f3, _⟩
            · omega
            · have f3 := f3 i (by omega) (by omega)
              have c4 : zz_wr K K' q (q + 1) 1 := by
                rcases c4 with ⟨g, _⟩ | ⟨_, g⟩
                · omega
                · exact g
              refine ⟨by omega, Or.inr (Or.inr (Or.inl ⟨a1, i, by omega, f3, by omega, ?_, fun k hk => zz_wr_o c3 (by omega), ?_, fun k hk => zz_wr_o c4 (by omega), ?_, fun k hk => by rw [i3, zz_updE, if_neg hk]⟩))⟩
              · rw [zz_wr_i c3 (by omega) (by omega)]
              · rw [zz_wr_i c4 (by omega) (by omega)]; decide
              · rw [i3, zz_updE, if_pos rfl, i2]
    · omega
theorem zz_hF5 {fn w B g pg le tp : Int} {S K S' K' nc pc sc ac c c1 o o1 nu pl sp as g4 g4' G G' li lm li' lm' qk qk' qm qm' : Nat → Int32} {p1 s x s' x' : Int32} {P Q : Prop} (hf : fn = 5) (hR : zz_RB w B g nc pc sc ac o nu pl sp as) (hO : zz_OC w c o nu) (hJ : zz_F5 w pg S K G o nu pl sp) (h1 : 1 ≤ p1.toInt) (h2 : p1.toInt ≤ 1024) (tk : zz_s5 p1.toInt s.toInt ∧ c1 = c ∧ P ∧ zz_k5t S K S' K' c pg s x.toInt) (fd : zz_FA fn w le tp pg o o1 g4 g4' G G' li lm li' lm' qk qk' qm qm' p1 s' x'.toInt ∧ Q) : zz_HF w B g nc pc sc ac nu pl sp as s x c1 s' x' o1 := by
  subst hf
  obtain ⟨t1, t2, _, t3⟩ := tk
  subst t2
  obtain ⟨ss, s1, s2, _⟩ := zz_s5_s t1 h1 h2
  rcases fd.1 with ⟨_, b, _⟩ | ⟨b, _⟩ | ⟨_, b1, b2, b3⟩ | ⟨b, _⟩ | ⟨b, _⟩ | ⟨b, _⟩ | ⟨b, _⟩
  · omega
  · omega
  · subst b1
    have es : s = s' := Int32.toInt_inj.mp (zz_s5_uq t1 b2)
    subst es
    obtain ⟨e1, e2⟩ := zz_r5 hJ (zz_OC_fe hO) ss t3 b3
    have ex : x = x' := Int32.toInt_inj.mp e1
    subst ex
    have ep := hJ.1
    have fr : ∀ p : Nat, (p : Int) < pg → (S p).toInt = 0 → ∀ y : Nat, 32 * (p : Int) ≤ (y : Int) → (y : Int) < 32 * (p : Int) + 32 → (o1 y).toInt = -1 := fun p p1 p2 y y1 y2 => by
      rcases hJ.2.1 p p1 with ⟨_, _, z⟩ | ⟨z, _⟩ | ⟨z, _⟩
      · have := z (y - 32 * p) (by omega)
        rw [show 32 * p + (y - 32 * p) = y by omega] at this
        exact this
      · have := zz_p2_pos z
        omega
      · omega
    have rg := zz_k5t_rg t3 ss s1
    refine ⟨rfl, rfl, by omega, hR, hO, fun h0 => ?_⟩
    rcases e2 with ⟨z, _⟩ | ⟨z1, _, _, p, j, z2, z3, z4, z5, z6, z7, _⟩ | ⟨z1, p, z2, z3, z4, _⟩ | ⟨z1, q, n, z2, z3, z4, z5, z6, _⟩
    · omega
    · refine ⟨s1, ?_, fun y y1 y2 => by rw [z7 y y1 y2]; decide⟩
      have : (j : Int) + s.toInt ≤ 32 := by
        rcases zz_s5s_or ss with (e | e | e | e | e | e) | e
        · rw [e] at z5 ⊢; omega
        · rw [e] at z5 ⊢; omega
        · rw [e] at z5 ⊢; omega
        · rw [e] at z5 ⊢; omega
        · rw [e] at z5 ⊢; omega
        · rw [e] at z5 ⊢; omega
        · omega
      omega
    · refine ⟨s1, by omega, fun y y1 y2 => by rw [fr p z2 z3 y (by omega) (by omega)]; decide⟩
    · refine ⟨s1, by omega, fun y y1 y2 => ?_⟩
      have := fr (y / 32) (by omega) (z4 (y / 32) (by omega) (by omega)) y (by omega) (by omega)
      rw [this]; decide
  · omega
  · omega
  · omega
  · omega
theorem zz_gs5 {fn w pg le tp : Int} {S K S' K' c c1 o o1 o' nu nu' pl pl' sp sp' as as' g4 g4' G G' li lm li' lm' qk qk' qm qm' : Nat → Int32} {Gn p1 s x : Int32} {P Q Z Z2 : Prop} (hf : fn = 5) (hJ : zz_F5 w pg S K G o nu pl sp) (hO : zz_OW w o nu pl sp) (hC : zz_OC w c o nu) (h1 : 1 ≤ p1.toInt) (h2 : p1.toInt ≤ 1024) (tk : zz_s5 p1.toInt s.toInt ∧ c1 = c ∧ P ∧ zz_k5t S K S' K' c pg s x.toInt) (fd : zz_FA fn w le tp pg o o1 g4 g4' G G' li lm li' lm' qk qk' qm qm' p1 s x.toInt ∧ Q) (hz : (x.toInt = -1 ∧ o' = o1 ∧ Z ∧ nu' = nu ∧ pl' = pl ∧ sp' = sp) ∨ (0 ≤ x.toInt ∧ zz_gv w o1 nu pl sp as o' nu' pl' sp' as' Gn x s p1 ∧ Z2)) : zz_F5 w pg S' K' G' o' nu' pl' sp' := by
  subst hf
  obtain ⟨t1, _, _, t3⟩ := tk
  obtain ⟨ss, s1, s2, _⟩ := zz_s5_s t1 h1 h2
  rcases fd.1 with ⟨_, b, _⟩ | ⟨b, _⟩ | ⟨_, b1, b2, b3⟩ | ⟨b, _⟩ | ⟨b, _⟩ | ⟨b, _⟩ | ⟨b, _⟩
  · omega
  · omega
  · subst b1
    obtain ⟨_, e2⟩ := zz_r5 hJ (zz_OC_fe hC) ss t3 b3
    rcases hz with ⟨z1, z2, _, z3, z4, z5⟩ | ⟨z1, z2, _⟩
    · subst z2 z3 z4 z5
      rcases e2 with ⟨_, y1, y2, y3⟩ | ⟨_, _, _, p, j, _, _, _, _, y, _⟩ | ⟨_, p, _, _, y, _⟩ | ⟨_, q, n, y1, _, _, _, y2, _⟩
      · subst y1 y2 y3
        exact hJ
      · omega
      · omega
      · omega
    · rcases e2 with ⟨y, _⟩ | ⟨y1, y2, y3, p, j, y4, y5, y6, y7, y8, y9, y10, y11⟩ | ⟨y1, p, y4, y5, y6, y7, y8, y9, y10, y11, y12⟩ | ⟨y1, q, n, y2, y3, y4, y5, y6, ⟨v, y7, y8⟩, y9, y10⟩
      · omega
      · subst y2 y3
        have ex := zz_tnI x z1
        have kp : (K p).toInt + 1 = (K' p).toInt := by
          rw [y10]
          refine (zz_p1 _ ?_).symm
          rcases hJ.2.1 p y4 with ⟨z, _⟩ | ⟨_, _, _, z, _⟩ | ⟨z, _⟩
          · omega
          · rw [z]
            have : zz_c5 o1 p (S' p).toInt ≤ 32 := zz_cn_le9 _ _
            omega
          · omega
        exact zz_F5_in hJ z2 y4 y5 y1 s1 y6 y7 y8 (y9 _ (by omega) (by omega)) kp.symm y11
      · have p2 : zz_p2 s.toInt := by
          rcases ss with ⟨z, _⟩ | ⟨z, _⟩
          · exact z
          · omega
        exact zz_F5_new hJ hO z2 y4 y5 p2 y1 y6 y7 y8 y9 y10 y11 y12
      · exact zz_F5_row hJ hO z2 y2 y3 y4 y1 y5 y6 y8 y7 y9 (by decide) y10 (by decide)
  · omega
  · omega
  · omega
  · omega
theorem zz_bs5 {fn w W pg : Int} {S K S' K' c c' o o' nu pl sp g g' G G' li lm li' lm' kp kg kg' qk qk' qm qm' : Nat → Int32} {tp tp' st st' : Int} {b : Nat} {q : Int32} {P : Prop} (hf : fn = 5) (hJ : zz_F5 w pg S K G o nu pl sp) (hO : zz_OW w o nu pl sp) (hb : b < 200) (ub : zz_us w o nu pl b) (hwr : zz_wr o o' (pl b).toInt ((pl b).toInt + (sp b).toInt) q) (tb : zz_wr c c' (pl b).toInt ((pl b).toInt + (sp b).toInt) (-1) ∧ P ∧ zz_tb5 S K S' K' (pl b).toInt (sp b).toInt) (tr : zz_BA fn W pg o' g g' G G' li lm li' lm' w tp tp' st st' kp kg kg' qk qk' qm qm' (pl b) (sp b) q) : zz_F5 w pg S' K' G' o' (upd nu b 0) pl sp := by
  subst hf
  rcases tr with ⟨_, a, _⟩ | ⟨a, _⟩ | ⟨_, a, d⟩ | ⟨a, _⟩ | ⟨a, _⟩ | ⟨a, _⟩ | ⟨a, _⟩ | ⟨a, _⟩
  · omega
  · omega
  · obtain ⟨i, i1, i2⟩ := tb.2.2
    have p0 := (hO.2 b hb ub).1
    have s0 := (hO.2 b hb ub).2.1
    rcases hJ.2.2 b hb ub with ⟨e1, e2, e3, e4, e5⟩ | ⟨e1, e2, e3, e4, e5⟩
    · have ei : ((pl b).toInt / 32).toNat = i := by omega
      rw [ei] at e5
      have k0 : 0 ≤ (K i).toInt := by
        rcases hJ.2.1 i (by omega) with ⟨z, _⟩ | ⟨_, _, _, z, _⟩ | ⟨z, _⟩
        · omega
        · omega
        · omega
      have km := zz_m1 (K i) k0
      rcases d with ⟨_, j, j1, j2⟩ | ⟨d, _⟩
      · have ej : j = i := by omega
        subst ej
        have n1 : ((sp b).toInt + 31) / 32 = 1 := by omega
        refine zz_F5_bk1 (p := j) (S' := S') (K' := K') (G' := G') hJ hO hb ub hwr a e2 i1 ?_ ?_ ?_ ?_ ?_
        · rcases i2 with ⟨z1, z2, z3⟩ | ⟨z1, z2, z3⟩
          · exact Or.inl ⟨by omega, by rw [zz_wr_i z2 (by omega) (by omega)]; decide⟩
          · exact Or.inr ⟨by omega, by rw [z2], by rw [z3, zz_updE, if_pos rfl, km]⟩
        · intro k hk
          rcases i2 with ⟨z1, z2, z3⟩ | ⟨z1, z2, z3⟩
          · exact zz_wr_o z2 (by omega)
          · rw [z2]
        · intro k hk
          rcases i2 with ⟨z1, z2, z3⟩ | ⟨z1, z2, z3⟩
          · rcases z3 with ⟨_, z3⟩ | ⟨z3, _⟩
            · rw [zz_wr_o z3 (by omega), zz_updE, if_neg hk]
            · exact absurd rfl z3
          · rw [z3, zz_updE, if_neg hk]
        · rcases j2 with ⟨z1, z2⟩ | ⟨z1, z2⟩
          · exact Or.inl ⟨z1, by rw [z2, zz_updE, if_pos rfl]; decide⟩
          · exact Or.inr ⟨z1, by rw [z2]⟩
        · intro k hk
          rcases j2 with ⟨z1, z2⟩ | ⟨z1, z2⟩
          · rw [z2, zz_updE, if_neg hk]
          · rw [z2]
      · omega
    · have e6 := e5 i (by omega) (by omega)
      have k1 : (K i).toInt = 1 := by
        rcases hJ.2.1 i (by omega) with ⟨z, _⟩ | ⟨_, z, _⟩ | ⟨_, _, z⟩
        · omega
        · omega
        · exact z
      have km := zz_m1 (K i) (by omega)
      have ed : (pl b).toInt / 32 + ((sp b).toInt + 31) / 32 = ((pl b).toInt + (sp b).toInt) / 32 := by omega
      rcases d with ⟨d, _⟩ | ⟨_, d⟩
      · omega
      · rcases i2 with ⟨z1, z2, z3⟩ | ⟨z1, _⟩
        · rw [ed] at z2 z3
          refine zz_F5_bk2 hJ hO hb ub hwr a e1 z2 (by decide) (fun k hk => ?_) d (by decide)
          rcases z3 with ⟨_, z3⟩ | ⟨z3, _⟩
          · rw [z3 k, if_neg hk, zz_updE, if_neg (fun e => hk (by subst e; omega))]
          · exact absurd rfl z3
        · omega
  · omega
  · omega
  · omega
  · omega
  · omega
theorem zz_F5_B5 {w B g pg : Int} {S K G nc pc sc ac o nu pl sp as : Nat → Int32} (h : zz_RB w B g nc pc sc ac o nu pl sp as) (hJ : zz_F5 w pg S K G o nu pl sp) : zz_B5 pc sc B pg := fun i hi => by
  obtain ⟨b, b1, b2, b3, b4⟩ := zz_RB_B h hi
  have c3 := h.2.2.1 i hi
  rw [← b3, ← b4] at c3 ⊢
  rcases hJ.2.2 b b1 b2 with ⟨e1, e2, e3, e4, _⟩ | ⟨e1, e2, e3, e4, _⟩
  · have : (pl b).toInt % 32 + (sp b).toInt ≤ 32 := by
      rcases zz_p32 e1 e2 with e | e | e | e | e | e
      · rw [e] at e3 ⊢; omega
      · rw [e] at e3 ⊢; omega
      · rw [e] at e3 ⊢; omega
      · rw [e] at e3 ⊢; omega
      · rw [e] at e3 ⊢; omega
      · rw [e] at e3 ⊢; omega
    exact ⟨by omega, by omega, by omega, Or.inl this, Or.inl e2⟩
  · exact ⟨by omega, by omega, by omega, Or.inr e2, Or.inr e3⟩
/-! forms 7 and 9: class and reference in step -/
-- form 7
def zz_JL (w n : Int32) (lp lw li lm o : Nat → Int32) : Prop := zz_vs w.toInt lp lw n.toInt ∧ 0 ≤ n.toInt ∧ n.toInt ≤ 201 ∧ (∀ x : Nat, (x : Int) < w.toInt → -1 ≤ (o x).toInt) ∧ zz_R7 li lm (zz_sg lp lw 0 n.toInt.toNat) ∧ zz_XR o w.toInt.toNat (zz_sg lp lw 0 n.toInt.toNat)
theorem zz_hF7 {fn w B g n n' le tp pg : Int} {lp lw lp' lw' nc pc sc ac c c1 o o1 nu pl sp as g4 g4' G G' li lm li' lm' qk qk' qm qm' : Nat → Int32} {p1 s x s' x' : Int32} {Q : Prop} (hf : fn = 7) (hR : zz_RB w B g nc pc sc ac o nu pl sp as) (hO : zz_OC w c o nu) (hL : zz_R7 li lm (zz_sg lp lw 0 n.toNat)) (hX : zz_XR o w.toNat (zz_sg lp lw 0 n.toNat)) (hw : 0 ≤ w) (h1 : 1 ≤ p1.toInt) (h2 : p1.toInt ≤ 1024) (tk : s = p1 ∧ c1 = c ∧ zz_ctk lp lw n lp' lw' n' p1.toNatClampNeg x.toInt) (fd : zz_FA fn w le tp pg o o1 g4 g4' G G' li lm li' lm' qk qk' qm qm' p1 s' x'.toInt ∧ Q) : zz_HF w B g nc pc sc ac nu pl sp as s x c1 s' x' o1 := by
  subst hf
  obtain ⟨t1, t2, t3⟩ := tk
  subst t1 t2
  rcases fd.1 with ⟨_, b, _⟩ | ⟨b, _⟩ | ⟨b, _⟩ | ⟨b, _⟩ | ⟨_, b1, b2, b3⟩ | ⟨b, _⟩ | ⟨b, _⟩
  · omega
  · omega
  · omega
  · omega
  · subst b1 b2
    have en := zz_tnI s' (by omega)
    have k1 := t3 hX.2.1
    obtain ⟨X2, k2, _⟩ := b3 _ hL hX
    have ex : x = x' := Int32.toInt_inj.mp (zz_gtk_uq k1 k2).1
    subst ex
    refine ⟨rfl, rfl, ?_, hR, hO, fun h0 => ?_⟩
    · rcases k1 with ⟨z, _⟩ | ⟨z, _⟩
      · omega
      · omega
    · rcases k1 with ⟨z, _⟩ | ⟨_, v, d2, _⟩
      · omega
      · have rn : zz_rn o1 w.toNat x.toInt.toNat v := hX.1 _ (zz_pk_mem d2)
        have ge : s'.toNatClampNeg ≤ v := zz_pk_ge d2 (by omega)
        have q2 := rn.2.1
        exact ⟨h1, by omega, fun y y1 y2 => by rw [rn.2.2.1 y (by omega) (by omega)]; decide⟩
  · omega
  · omega
theorem zz_GE_GV {e : String} {p1 g : Int32} {r B B' g' : Int} {nc pc sc ac nc' pc' sc' ac' c c' lp lw lp' lw' : Nat → Int32} {n n' : Int32} {A : Prop} (h : zz_GE e p1 r B g nc pc sc ac B' g' nc' pc' sc' ac' c' (c' = c ∧ n' = n ∧ A ∧ lp' = lp ∧ lw' = lw) (fun (s x : Int32) (c1 : Nat → Int32) => s = p1 ∧ c1 = c ∧ zz_ctk lp lw n.toInt lp' lw' n'.toInt p1.toNatClampNeg x.toInt)) : zz_GV e p1 r B g nc pc sc ac lp lw n.toInt B' g' nc' pc' sc' ac' lp' lw' n'.toInt := by
  rcases h with ⟨a1, a2, a3, a4, a5, a6, a7, a8, _, s2, _, s4, s5⟩ | ⟨a1, a2, a2', a2'', a3, a4, a5, a6, a7, a8, _, s2, _, s4, s5⟩ | ⟨a1, a2, a3, a4, s, x, c1, ⟨t1, _, t3⟩, a5⟩
  · exact Or.inl ⟨a1, a2, a3, a4, a5, a6, a7, a8, s4, s5, by rw [s2]⟩
  · exact Or.inr (Or.inl ⟨a1, a2, a2', a2'', a3, a4, a5, a6, a7, a8, s4, s5, by rw [s2]⟩)
  · subst t1
    refine Or.inr (Or.inr ⟨a1, a2, a3, a4, x, t3, ?_⟩)
    rcases a5 with ⟨b1, b2, b3, b4, b5, b6, b7, b8, _⟩ | ⟨b1, b2, b3, b4, b5, b6, b7, b8, _⟩
    · exact Or.inl ⟨b1, b2, b3, b4, b5, b6, b7, b8⟩
    · exact Or.inr ⟨b1, b2, b3, b4, b5, b6, b7, b8⟩
theorem zz_GF_GR {th r w bl bl' g' : Int} {p1 g : Int32} {o nu pl sp as o' nu' pl' sp' as' li lm li' lm' : Nat → Int32} {SM : Prop} {FD : Int32 → Int32 → (Nat → Int32) → Prop} (h : zz_GF th p1 r w bl g o nu pl sp as bl' g' o' nu' pl' sp' as' SM FD) (hS : SM → li' = li ∧ lm' = lm) (hF : ∀ s x o1, FD s x o1 → o1 = o ∧ s = p1 ∧ zz_lx w o li lm li' lm' p1.toNatClampNeg x.toInt) : zz_GR th p1 r w bl g o nu pl sp as li lm bl' g' o' nu' pl' sp' as' li' lm' := by
  rcases h with ⟨a1, a2, a3, a4, a5, a6, a7, a8, a9, s1⟩ | ⟨a1, a2, a2', a2'', a3, a4, a5, a6, a7, a8, a9, s1⟩ | ⟨a1, a2, a3, a4, s, x, o1, fd, a5⟩
  · obtain ⟨s1, s2⟩ := hS s1
    exact Or.inl ⟨a1, a2, a3, a4, a5, a6, a7, a8, a9, s1, s2⟩
  · obtain ⟨s1, s2⟩ := hS s1
    exact Or.inr (Or.inl ⟨a1, a2, a2', a2'', a3, a4, a5, a6, a7, a8, a9, s1, s2⟩)
  · obtain ⟨f1, f2, f3⟩ := hF s x o1 fd
    subst f1 f2
    refine Or.inr (Or.inr ⟨a1, a2, a3, a4, x, f3, ?_⟩)
    rcases a5 with ⟨b1, b2, b3, b4, b5, b6, b7, b8, b9⟩ | ⟨b1, b2, b3, b4, b5⟩
    · exact Or.inl ⟨b1, b2, b3, b4, b5, b6, b7, b8, b9⟩
    · exact Or.inr ⟨b1, b2, b3, b4, s, rfl, b5⟩
theorem zz_FA_77 {w le tp pg : Int} {o o' g g' G G' li lm li' lm' qk qk' qm qm' : Nat → Int32} {n sp : Int32} {r : Int} {f : Int} (h : zz_FA f w le tp pg o o' g g' G G' li lm li' lm' qk qk' qm qm' n sp r) (hf : f = 7) : o' = o ∧ sp = n ∧ zz_lx w o li lm li' lm' n.toNatClampNeg r := by
  rcases h with ⟨_, b, _⟩ | ⟨b, _⟩ | ⟨b, _⟩ | ⟨b, _⟩ | ⟨_, b1, b2, b3⟩ | ⟨b, _⟩ | ⟨b, _⟩
  · omega
  · omega
  · omega
  · omega
  · exact ⟨b1, b2, b3⟩
  · omega
  · omega
theorem zz_BE_BK {e : String} {p1 : Int32} {r B B' : Int} {nc pc sc ac nc' pc' sc' ac' c c' lp lw lp' lw' : Nat → Int32} {n n' : Int32} {A : Prop} (h : zz_BE e p1 B nc pc sc ac r B' nc' pc' sc' ac' (c' = c ∧ n' = n ∧ A ∧ lp' = lp ∧ lw' = lw) (fun (p s : Int32) => zz_wr c c' p.toInt (p.toInt + s.toInt) (-1) ∧ zz_ctb lp lw n.toInt p.toInt s.toInt lp' lw' n'.toInt)) : zz_BK e p1 B nc pc sc ac lp lw n.toInt r B' nc' pc' sc' ac' lp' lw' n'.toInt := by
  rcases h with ⟨a1, a2, a3, a4, a5, a6, a7, _, s2, _, s4, s5⟩ | ⟨a1, i, a2, a3, a4, a5, a6, a7, a8, a9, _, a10⟩
  · exact Or.inl ⟨a1, a2, a3, a4, a5, a6, a7, s4, s5, by rw [s2]⟩
  · exact Or.inr ⟨a1, i, a2, a3, a4, a5, a6, a7, a8, a9, a10⟩
theorem zz_BF_BR {th r w bl bl' : Int} {p1 : Int32} {o nu pl sp o' nu' li lm li' lm' : Nat → Int32} {SM : Prop} {TB : Int32 → Int32 → Int32 → Prop} (h : zz_BF th p1 w bl o nu pl sp r bl' o' nu' SM TB) (hS : SM → li' = li ∧ lm' = lm) (hF : ∀ p s q, TB p s q → q.toInt = -1 ∧ zz_jx w o' li lm li' lm' p.toInt s.toInt) : zz_BR th p1 w bl o nu pl sp li lm r bl' o' nu' li' lm' := by
  rcases h with ⟨a1, a2, a3, a4, a5, s1⟩ | ⟨a1, a2, b, q, a3, a4, a5, a6, a7, _, a8, a9, a10⟩
  · obtain ⟨s1, s2⟩ := hS s1
    exact Or.inl ⟨a1, a2, a3, a4, a5, s1, s2⟩
  · obtain ⟨f1, f2⟩ := hF _ _ _ a10
    rw [zz_qm1 f1] at a8
    exact Or.inr ⟨a1, a2, b, a3, a4, a5, a6, a7, a8, a9, f2⟩
theorem zz_BA_77 {f W pg : Int} {o' g g' G G' li lm li' lm' kp kg kg' qk qk' qm qm' : Nat → Int32} {w tp tp' st st' : Int} {p s q : Int32} (tr : zz_BA f W pg o' g g' G G' li lm li' lm' w tp tp' st st' kp kg kg' qk qk' qm qm' p s q) (hf : f = 7) : q.toInt = -1 ∧ zz_jx w o' li lm li' lm' p.toInt s.toInt := by
  rcases tr with ⟨_, a, _⟩ | ⟨a, _⟩ | ⟨a, _⟩ | ⟨a, _⟩ | ⟨_, a, d⟩ | ⟨a, _⟩ | ⟨a, _⟩ | ⟨a, _⟩
  · omega
  · omega
  · omega
  · omega
  · exact ⟨a, d⟩
  · omega
  · omega
  · omega
-- form 9
def zz_J9 (t : Nat) (w n : Int32) (qp qw qk qm o : Nat → Int32) : Prop := zz_vs w.toInt qp qw n.toInt ∧ 0 ≤ n.toInt ∧ n.toInt ≤ (t : Int) ∧ zz_F9 w.toInt o qk qm (zz_sg qp qw 0 n.toInt.toNat)
theorem zz_tq_X {w n n' s x r : Int} {qp qw qp' qw' : Nat → Int32} (h : zz_tq qp qw n qp' qw' n' s x r) (hx : x = n - 1) (hv : zz_vs w qp qw n) (hn : 0 ≤ n) (h1 : 1 ≤ s) : (r = -1 ∧ n' = n ∧ qp' = qp ∧ qw' = qw ∧ (zz_sg qp qw 0 n.toNat).find? (fun y => y.2 == s.toNat) = none) ∨ (0 ≤ r ∧ (zz_sg qp qw 0 n.toNat).find? (fun y => y.2 == s.toNat) = some (r.toNat, s.toNat) ∧ (((zz_sg qp qw 0 n.toNat).map Prod.fst).Nodup → zz_sg qp' qw' 0 n'.toNat = (zz_sg qp qw 0 n.toNat).filter (fun y => y.1 != r.toNat)) ∧ n' = n - 1) := by
  subst hx
  have wn : ∀ j : Nat, (j : Int) < n → (((qw j).toNatClampNeg : Nat) : Int) = (qw j).toInt ∧ (((qp j).toNatClampNeg : Nat) : Int) = (qp j).toInt := fun j hj => by
    obtain ⟨v1, v2, _⟩ := hv j hj
    exact ⟨zz_tnI _ (by omega), zz_tnI _ v1⟩
  rcases h with ⟨a1, a2, a3, a4, a5⟩ | ⟨j, a1, a2, a3, a4, a5, a6, a7⟩
  · refine Or.inl ⟨a1, a2, a3, a4, List.find?_eq_none.mpr (fun y hy => ?_)⟩
    obtain ⟨i, i1, i2⟩ := zz_sg_mem _ hy
    rw [i2, Nat.zero_add]
    have w1 := a5 i (by omega)
    have w2 := (wn i (by omega)).1
    intro z
    have z : (qw i).toNatClampNeg = s.toNat := by simpa using z
    omega
  · obtain ⟨e1, e2, _, _⟩ := zz_sg_rm a5 a6 (by omega) (by omega)
    have w1 := wn j (by omega)
    have vj := hv j (by omega)
    rw [show ((j : Int)).toNat = j from Int.toNat_natCast j] at e1 e2
    have ep : (qp j).toNatClampNeg = r.toNat := by omega
    have ew : (qw j).toNatClampNeg = s.toNat := by omega
    rw [ep, ew] at e1
    refine Or.inr ⟨by omega, ?_, fun nd => ?_, a4⟩
    · rw [e1, List.find?_append, List.find?_eq_none.mpr (fun y hy => ?_)]
      · rw [List.find?_cons_of_pos (by simp)]
        rfl
      · obtain ⟨i, i1, i2⟩ := zz_sg_mem _ hy
        rw [i2]
        have w3 := a7 (((j : Int) + 1).toNat + i) (by omega) (by omega)
        have w2 := (wn (((j : Int) + 1).toNat + i) (by omega)).1
        intro z
        have z : (qw (((j : Int) + 1).toNat + i)).toNatClampNeg = s.toNat := by simpa using z
        omega
    · rw [a4, e2, e1]
      rw [e1] at nd
      exact (zz_nd_cutX nd).symm
theorem zz_RB_er {w B g : Int} {nc pc sc ac o o1 nu pl sp as : Nat → Int32} (h : zz_RB w B g nc pc sc ac o nu pl sp as) (he : ∀ y : Nat, (y : Int) < w → ((0 ≤ (o y).toInt ∧ o1 y = o y) ∨ ((o y).toInt < 0 ∧ (o1 y).toInt = -1))) (hw : 0 < w) : zz_RB w B g nc pc sc ac o1 nu pl sp as := by
  obtain ⟨c1, c2, c3, ⟨o2, o3⟩, n1, r1⟩ := h
  have us : ∀ b : Nat, zz_us w o1 nu pl b ↔ zz_us w o nu pl b := fun b => by
    unfold zz_us
    constructor
    · rintro ⟨u1, u2, u3⟩
      have ix : ((pl b).toNatClampNeg : Int) < w := by rw [zz_tn]; omega
      rcases he _ ix with ⟨_, e⟩ | ⟨_, e⟩
      · rw [e] at u3
        exact ⟨u1, u2, u3⟩
      · omega
    · rintro ⟨u1, u2, u3⟩
      have ix : ((pl b).toNatClampNeg : Int) < w := by rw [zz_tn]; omega
      rcases he _ ix with ⟨_, e⟩ | ⟨e, _⟩
      · rw [← e] at u3
        exact ⟨u1, u2, u3⟩
      · omega
  refine ⟨c1, c2, c3, ⟨fun x hx h0 => ?_, fun b hb ub => ?_⟩, fun b b' hb hb' ub ub' e => n1 b b' hb hb' ((us b).mp ub) ((us b').mp ub') e, fun v p s a => ?_⟩
  · rcases he x hx with ⟨_, e⟩ | ⟨_, e⟩
    · rw [e] at h0 ⊢
      obtain ⟨b, b1, b2, b3, b4, b5⟩ := o2 x hx h0
      exact ⟨b, b1, b2, (us b).mpr b3, b4, b5⟩
    · omega
  · obtain ⟨a1, a2, a3, a4⟩ := o3 b hb ((us b).mp ub)
    refine ⟨a1, a2, a3, fun x h1 h2 => ?_⟩
    have e0 := a4 x h1 h2
    rcases he x (by omega) with ⟨_, e⟩ | ⟨e, _⟩
    · rw [e]; exact e0
    · omega
  · rw [r1 v p s a]
    unfold zz_br
    constructor
    · rintro ⟨b, b1, b2, b3⟩
      exact ⟨b, b1, (us b).mpr b2, b3⟩
    · rintro ⟨b, b1, b2, b3⟩
      exact ⟨b, b1, (us b).mp b2, b3⟩
/-- take and find in form 9: what both did -/
def zz_C9 (w : Int) (c c1 o o1 nu qp qw qp' qw' qk qk' qm qm' : Nat → Int32) (n n' s x : Int) : Prop :=
  (0 ≤ x ∧ c1 = c ∧ o1 = o ∧ (x.toNat, s.toNat) ∈ zz_sg qp qw 0 n.toNat ∧ n' = n - 1 ∧ zz_sg qp' qw' 0 n'.toNat = (zz_sg qp qw 0 n.toNat).filter (fun y => y.1 != x.toNat) ∧ zz_RX (fun v => v) 9 qk' qm' ((zz_sg qp qw 0 n.toNat).filter (fun y => y.1 != x.toNat))) ∨
  (0 ≤ x ∧ c1 = c ∧ o1 = o ∧ n' = n ∧ qp' = qp ∧ qw' = qw ∧ qk' = qk ∧ qm' = qm ∧ zz_ft w o s x) ∨
  (-1 ≤ x ∧ n' = 0 ∧ zz_F9 w o1 qk' qm' [] ∧ zz_OC w c1 o1 nu ∧ (∀ y : Nat, (y : Int) < w → ((0 ≤ (o y).toInt ∧ o1 y = o y) ∨ ((o y).toInt < 0 ∧ (o1 y).toInt = -1))) ∧ (0 ≤ x → zz_ft w o1 s x))
theorem zz_r9 {w n n' x x' : Int} {c c1 o o1 nu qp qw qp' qw' qk qk' qm qm' : Nat → Int32} {s : Int32} (hO : zz_OC w c o nu) (hv : zz_vs w qp qw n) (hn : 0 ≤ n) (hJ : zz_F9 w o qk qm (zz_sg qp qw 0 n.toNat)) (hq : ∀ j : Nat, j < 9216 → 0 ≤ (qk j).toInt) (hm : ∀ j : Nat, j < 9 → 0 ≤ (qm j).toInt ∧ (qm j).toInt ≤ 1000) (h1 : 1 ≤ s.toInt) (hk : zz_k9 w c c1 qp qw n qp' qw' n' s.toInt x) (hr : zz_qr9 w o o1 qk qk' qm qm' s.toInt x') : x = x' ∧ zz_C9 w c c1 o o1 nu qp qw qp' qw' qk qk' qm qm' n n' s.toInt x := by
  have fe := zz_OC_fe hO
  rcases hk with ⟨a1, a2, a3⟩ | ⟨a3, a4, a5, a6⟩
  · rcases zz_tq_X a3 rfl hv hn h1 with ⟨z, _⟩ | ⟨_, f1, f2, f3⟩
    · omega
    · have mem := List.mem_of_find?_eq_some f1
      have s8 := (hJ.2.1 _ mem).2.1
      have s8 : s.toInt.toNat ≤ 8 := s8
      rcases zz_F9_hd (n := s.toInt.toNat) hJ (by omega) with ⟨g1, g2⟩ | ⟨_, g2⟩
      · rw [f1] at g2
        have g3 : x.toNat = (qk (1024 * s.toInt.toNat)).toNatClampNeg := by
          have := congrArg (fun z => z.map Prod.fst) g2
          simpa using this
        have g4 := zz_tnI (qk (1024 * s.toInt.toNat)) (hq _ (by omega))
        rcases hr with ⟨_, b1, i, i1, i2, i3, i4, i5, i6⟩ | ⟨b, _⟩
        · have ei : i = s.toInt.toNat := by omega
          rw [ei] at i2 i3 i4 i5 i6
          have ex : x = x' := by omega
          refine ⟨ex, Or.inl ⟨a1, a2, b1, mem, f3, f2 hJ.2.2.1, ?_⟩⟩
          have := zz_RX_from (κ := fun v => v) (N := 9) (L := s.toInt.toNat) (j := 0) (p := qk (1024 * s.toInt.toNat)) hJ.1 (by omega) rfl (by rw [show ((s.toInt.toNat : Nat) : Int) = s.toInt by omega]; exact i4) i5 i6 hm (by omega) hJ.2.2.1
          rw [← g3] at this
          exact this
        · rcases b with b | b
          · omega
          · omega
      · rw [f1] at g2
        cases g2
  · rcases zz_tq_X a3 rfl hv hn h1 with ⟨_, _, _, _, f1⟩ | ⟨z, _⟩
    · rcases hr with ⟨b0, _, i, i1, i2, _⟩ | ⟨_, b1, b2⟩
      · exfalso
        rcases zz_F9_hd (n := s.toInt.toNat) hJ (by omega) with ⟨_, g2⟩ | ⟨g1, _⟩
        · rw [f1] at g2
          cases g2
        · rw [show i = s.toInt.toNat by omega] at i2
          omega
      · rcases a6 with ⟨c1', c2, c3, c4⟩ | ⟨c1', c2, c3, c4⟩
        · have c5 := zz_ff_fe fe c4
          rcases b2 with ⟨d1, d2, d3, d4⟩ | ⟨d1, _⟩
          · have ex := zz_ff_uq c5 d4
            exact ⟨ex, Or.inr (Or.inl ⟨c1', c2, d2, c3, a4, a5, b1, d3, zz_ff_ft c5 c1'⟩)⟩
          · have ex := zz_ff_uq c5 d1
            omega
        · have c5 := zz_ff_fe fe c1'
          rcases b2 with ⟨d1, d2, d3, d4⟩ | ⟨d1, d2, d3, d4⟩
          · have ex := zz_ff_uq c5 d4
            omega
          · have W : zz_W9 c c1 (zz_sg qp qw 0 n.toNat) := by
              have c3 : zz_W9 c c1 (zz_sg qp qw (0 : Int).toNat (n - 0).toNat) := c3
              rw [show (0 : Int).toNat = 0 from rfl, show n - 0 = n by omega] at c3
              exact c3
            obtain ⟨k1, k2, k3⟩ := zz_F9_empty (qm' := qm') hJ hq hm hO (zz_E9_ini d2 rfl) W (fun j j1 j2 => d3.1 j (by omega) (by omega)) (d3.2 0 (by omega))
            have ex := zz_ff_uq (zz_ff_fe (zz_OC_fe k2) c4) d4
            subst b1
            have rg := zz_ff_rg d4 (Int.le_refl _)
            refine ⟨ex, Or.inr (Or.inr ⟨by omega, c2, k1, k2, k3, fun h0 => ?_⟩)⟩
            rw [ex] at h0 ⊢
            exact zz_ff_ft d4 h0
    · omega
theorem zz_FA_99 {w le tp pg : Int} {o o' g g' G G' li lm li' lm' qk qk' qm qm' : Nat → Int32} {n sp : Int32} {r : Int} {f : Int} (h : zz_FA f w le tp pg o o' g g' G G' li lm li' lm' qk qk' qm qm' n sp r) (hf : f = 9) : sp = n ∧ zz_qr9 w o o' qk qk' qm qm' n.toInt r := by
  rcases h with ⟨_, b, _⟩ | ⟨b, _⟩ | ⟨b, _⟩ | ⟨b, _⟩ | ⟨b, _⟩ | ⟨b, _⟩ | ⟨_, b1, b2⟩
  · omega
  · omega
  · omega
  · omega
  · omega
  · omega
  · exact ⟨b1, b2⟩
theorem zz_hF9 {fn w B g n n' le tp pg : Int} {qp qw qp' qw' nc pc sc ac c c1 o o1 nu pl sp as g4 g4' G G' li lm li' lm' qk qk' qm qm' : Nat → Int32} {p1 s x s' x' : Int32} {Q : Prop} (hf : fn = 9) (hR : zz_RB w B g nc pc sc ac o nu pl sp as) (hO : zz_OC w c o nu) (hv : zz_vs w qp qw n) (hn : 0 ≤ n) (hJ : zz_F9 w o qk qm (zz_sg qp qw 0 n.toNat)) (hq : ∀ j : Nat, j < 9216 → 0 ≤ (qk j).toInt) (hm : ∀ j : Nat, j < 9 → 0 ≤ (qm j).toInt ∧ (qm j).toInt ≤ 1000) (hw : 0 < w) (h1 : 1 ≤ p1.toInt) (tk : s = p1 ∧ zz_k9 w c c1 qp qw n qp' qw' n' p1.toInt x.toInt) (fd : zz_FA fn w le tp pg o o1 g4 g4' G G' li lm li' lm' qk qk' qm qm' p1 s' x'.toInt ∧ Q) : zz_HF w B g nc pc sc ac nu pl sp as s x c1 s' x' o1 := by
  subst hf
  obtain ⟨t1, t3⟩ := tk
  obtain ⟨b1, b2⟩ := zz_FA_99 fd.1 rfl
  subst t1 b1
  obtain ⟨ex, r9⟩ := zz_r9 hO hv hn hJ hq hm h1 t3 b2
  have ex : x = x' := Int32.toInt_inj.mp ex
  subst ex
  rcases r9 with ⟨z1, z2, z3, z4, _⟩ | ⟨z1, z2, z3, _, _, _, _, _, z4⟩ | ⟨z1, _, _, z2, z3, z4⟩
  · subst z2 z3
    obtain ⟨m1, m2, m3, m4⟩ := hJ.2.1 _ z4
    have m3 : ((x.toInt.toNat + s'.toInt.toNat : Nat) : Int) ≤ w := m3
    have m4 : ∀ y : Nat, x.toInt.toNat ≤ y → y < x.toInt.toNat + s'.toInt.toNat → (o1 y).toInt = -2 := m4
    exact ⟨rfl, rfl, by omega, hR, hO, fun _ => ⟨h1, by omega, fun y y1 y2 => by rw [m4 y (by omega) (by omega)]; decide⟩⟩
  · subst z2 z3
    exact ⟨rfl, rfl, by omega, hR, hO, fun _ => ⟨h1, z4.1, fun y y1 y2 => by rw [z4.2 y y1 y2]; decide⟩⟩
  · refine ⟨rfl, rfl, z1, zz_RB_er hR z3 hw, z2, fun h0 => ?_⟩
    have z5 := z4 h0
    exact ⟨h1, z5.1, fun y y1 y2 => by rw [z5.2 y y1 y2]; decide⟩
theorem zz_vs_sg {w n : Int} {qp qw : Nat → Int32} (h : ∀ y ∈ zz_sg qp qw 0 n.toNat, 1 ≤ y.2 ∧ ((y.1 + y.2 : Nat) : Int) ≤ w) (hp : ∀ j : Nat, (j : Int) < n → 0 ≤ (qp j).toInt) : zz_vs w qp qw n := fun i hi => by
  have hm := zz_sg_in qp qw 0 n.toNat i (by omega)
  rw [Nat.zero_add] at hm
  obtain ⟨a, b⟩ := h _ hm
  have a : 1 ≤ (qw i).toNatClampNeg := a
  have b : (((qp i).toNatClampNeg + (qw i).toNatClampNeg : Nat) : Int) ≤ w := b
  have c := hp i hi
  have d := zz_tnI (qp i) c
  have e : ((qw i).toNatClampNeg : Int) = (qw i).toInt := by
    rw [zz_tn] at a ⊢
    omega
  exact ⟨c, by omega, by omega⟩
theorem zz_k9_vs {w n n' s r : Int} {c c' pc wc pc' wc' : Nat → Int32} (h : zz_k9 w c c' pc wc n pc' wc' n' s r) (hv : zz_vs w pc wc n) (hn : 0 ≤ n) : zz_vs w pc' wc' n' := by
  rcases h with ⟨_, _, b⟩ | ⟨_, e1, e2, d⟩
  · rcases b with ⟨_, a2, a3, a4, _⟩ | ⟨j, j1, _, _, j4, j5, j6, _⟩
    · rw [a2, a3, a4]; exact hv
    · exact zz_vs_rm hv j5 j6 (by omega) (by omega)
  · rw [e1, e2]
    rcases d with ⟨_, _, a, _⟩ | ⟨_, a, _⟩
    · rw [a]; exact hv
    · rw [a]; exact fun i hi => by omega
theorem zz_tb9_vs {w n n' : Int} {c c' pc wc pc' wc' : Nat → Int32} {p s : Int32} (h : zz_tb9 c c' pc wc n pc' wc' n' p s) (hv : zz_vs w pc wc n) (hn : 0 ≤ n) (hp : 0 ≤ p.toInt) (hs : 1 ≤ s.toInt) (hw : p.toInt + s.toInt ≤ w) : zz_vs w pc' wc' n' := by
  rcases h with ⟨_, _, a2, a3, a4⟩ | ⟨_, _, a2, a3, a4⟩
  · rw [a2, a3, a4]; exact hv
  · rw [a2, a3, a4]
    intro i hi
    by_cases c : i = n.toNat
    · subst c
      rw [zz_updE, zz_updE, if_pos rfl, if_pos rfl]
      exact ⟨hp, hs, hw⟩
    · rw [zz_updE, zz_updE, if_neg c, if_neg c]
      exact hv i (by omega)
theorem zz_gs9 {fn w n n' le tp pg : Int} {qp qw qp' qw' c c1 o o1 o' nu nu' pl pl' sp sp' as as' g4 g4' G G' li lm li' lm' qk qk' qm qm' : Nat → Int32} {Gn p1 s x : Int32} {Q Z Z2 : Prop} (hf : fn = 9) (hO : zz_OC w c o nu) (hv : zz_vs w qp qw n) (hn : 0 ≤ n) (hJ : zz_F9 w o qk qm (zz_sg qp qw 0 n.toNat)) (hq : ∀ j : Nat, j < 9216 → 0 ≤ (qk j).toInt) (hm : ∀ j : Nat, j < 9 → 0 ≤ (qm j).toInt ∧ (qm j).toInt ≤ 1000) (h1 : 1 ≤ p1.toInt) (tk : s = p1 ∧ zz_k9 w c c1 qp qw n qp' qw' n' p1.toInt x.toInt) (fd : zz_FA fn w le tp pg o o1 g4 g4' G G' li lm li' lm' qk qk' qm qm' p1 s x.toInt ∧ Q) (hz : (x.toInt = -1 ∧ o' = o1 ∧ Z ∧ nu' = nu ∧ pl' = pl ∧ sp' = sp) ∨ (0 ≤ x.toInt ∧ zz_gv w o1 nu pl sp as o' nu' pl' sp' as' Gn x s p1 ∧ Z2)) : 0 ≤ n' ∧ n' ≤ n ∧ zz_F9 w o' qk' qm' (zz_sg qp' qw' 0 n'.toNat) := by
  subst hf
  obtain ⟨t1, t3⟩ := tk
  obtain ⟨b1, b2⟩ := zz_FA_99 fd.1 rfl
  subst t1
  obtain ⟨_, r9⟩ := zz_r9 hO hv hn hJ hq hm h1 t3 b2
  rcases r9 with ⟨z1, z2, z3, z4, z5, z6, z7⟩ | ⟨z1, z2, z3, z4, z5, z6, z7, z8, z9⟩ | ⟨z1, z2, z3, _, _, z4⟩
  · subst z3
    have n1 : 0 ≤ n' := by
      have := zz_sg_len qp qw 0 n.toNat
      have := List.length_pos_of_mem z4
      omega
    rcases hz with ⟨y, _⟩ | ⟨y1, ⟨b, b0, _, _, _, _, _, _, hwr⟩, _⟩
    · omega
    · refine ⟨n1, by omega, ?_⟩
      rw [z6]
      refine zz_F9_take hJ z4 z7 ?_ b0
      rw [show ((x.toInt.toNat : Nat) : Int) = x.toInt by omega, show ((s.toInt.toNat : Nat) : Int) = s.toInt by omega]
      exact hwr
  · subst z3 z5 z6 z7 z8
    rw [z4]
    rcases hz with ⟨y, _⟩ | ⟨y1, ⟨b, b0, _, _, _, _, _, _, hwr⟩, _⟩
    · omega
    · exact ⟨hn, Int.le_refl _, zz_F9_put hJ hwr (fun y y1 y2 => by rw [z9.2 y y1 y2]; decide) (by omega)⟩
  · rw [z2]
    refine ⟨by omega, by omega, ?_⟩
    show zz_F9 w o' qk' qm' []
    rcases hz with ⟨_, y1, _⟩ | ⟨y1, ⟨b, b0, _, _, _, _, _, _, hwr⟩, _⟩
    · rw [y1]; exact z3
    · have z5 := z4 y1
      exact zz_F9_put z3 hwr (fun y y1 y2 => by rw [z5.2 y y1 y2]; decide) (by omega)
theorem zz_bW9 {fn w n n' W pg : Int} {c c' qp qw qp' qw' o' g g' G G' li lm li' lm' kp kg kg' qk qk' qm qm' : Nat → Int32} {tp tp' st st' : Int} {p s q : Int32} (hf : fn = 9) (tb : ∃ c1 : Nat → Int32, zz_wr c c1 p.toInt (p.toInt + s.toInt) (-1) ∧ zz_tb9 c1 c' qp qw n qp' qw' n' p s) (tr : zz_BA fn W pg o' g g' G G' li lm li' lm' w tp tp' st st' kp kg kg' qk qk' qm qm' p s q) : zz_wr c c' p.toInt (p.toInt + s.toInt) q := by
  subst hf
  obtain ⟨c1, t1, t2⟩ := tb
  rcases tr with ⟨_, a, _⟩ | ⟨a, _⟩ | ⟨a, _⟩ | ⟨a, _⟩ | ⟨a, _⟩ | ⟨a, _⟩ | ⟨_, a1, a2, _⟩ | ⟨_, a1, a2, _⟩
  · omega
  · omega
  · omega
  · omega
  · omega
  · omega
  · rcases t2 with ⟨_, e, _⟩ | ⟨e, _⟩
    · rw [zz_qm1 a2, e]
      exact t1
    · omega
  · rcases t2 with ⟨e, _⟩ | ⟨_, e, _⟩
    · omega
    · have eq : q = -2 := Int32.toInt_inj.mp (by rw [a2]; decide)
      rw [eq]
      intro y
      rw [e y]
      by_cases cc : p.toInt ≤ (y : Int) ∧ (y : Int) < p.toInt + s.toInt
      · rw [if_pos cc, if_pos cc]
      · rw [if_neg cc, if_neg cc, t1 y, if_neg cc]
theorem zz_bs9 {fn w n n' W pg : Int} {c c' qp qw qp' qw' o o' nu pl sp g g' G G' li lm li' lm' kp kg kg' qk qk' qm qm' : Nat → Int32} {tp tp' st st' : Int} {b : Nat} {q : Int32} (hf : fn = 9) (hn : 0 ≤ n) (hJ : zz_F9 w o qk qm (zz_sg qp qw 0 n.toNat)) (hm : ∀ j : Nat, j < 9 → 0 ≤ (qm j).toInt ∧ (qm j).toInt ≤ 1000) (hO : zz_OW w o nu pl sp) (hb : b < 200) (ub : zz_us w o nu pl b) (hwr : zz_wr o o' (pl b).toInt ((pl b).toInt + (sp b).toInt) q) (tb : ∃ c1 : Nat → Int32, zz_wr c c1 (pl b).toInt ((pl b).toInt + (sp b).toInt) (-1) ∧ zz_tb9 c1 c' qp qw n qp' qw' n' (pl b) (sp b)) (tr : zz_BA fn W pg o' g g' G G' li lm li' lm' w tp tp' st st' kp kg kg' qk qk' qm qm' (pl b) (sp b) q) : 0 ≤ n' ∧ n' ≤ n + 1 ∧ zz_F9 w o' qk' qm' (zz_sg qp' qw' 0 n'.toNat) := by
  subst hf
  obtain ⟨c1, t1, t2⟩ := tb
  obtain ⟨o1, o2, o3, o4⟩ := hO.2 b hb ub
  rcases tr with ⟨_, a, _⟩ | ⟨a, _⟩ | ⟨a, _⟩ | ⟨a, _⟩ | ⟨a, _⟩ | ⟨a, _⟩ | ⟨_, a1, a2, a3, a4⟩ | ⟨_, a1, a2, i, i1, i2, i3, i4⟩
  · omega
  · omega
  · omega
  · omega
  · omega
  · omega
  · rcases t2 with ⟨_, _, e2, e3, e4⟩ | ⟨e, _⟩
    · subst a3 a4 e2 e3 e4
      exact ⟨hn, by omega, zz_F9_put hJ hwr (fun y y1 y2 => by rw [o4 y y1 y2]; omega) (by omega)⟩
    · omega
  · rcases t2 with ⟨e, _⟩ | ⟨_, _, e2, e3, e4⟩
    · omega
    · subst e2 e3 e4
      refine ⟨by omega, by omega, ?_⟩
      rw [show (n + 1).toNat = n.toNat + 1 by omega, zz_sg_upd]
      have ep := zz_tnI (pl b) o1
      have es := zz_tnI (sp b) (by omega)
      have ei : i = (sp b).toNatClampNeg := by omega
      subst ei
      have R := zz_RX_to (κ := fun v => v) (N := 9) (L := (sp b).toNatClampNeg) (v := (sp b).toNatClampNeg) (p := pl b) hJ.1 (by rw [es]; exact i2) i3 i4 rfl hm (by omega)
      refine zz_F9_push hJ (by rw [ep, es]; exact hwr) a2 (fun y y1 y2 => ?_) (by omega) (by omega) (by omega) R
      rw [o4 y (by omega) (by omega)]
      omega
theorem zz_F9_PR {fn w W : Int} {o g qk qm : Nat → Int32} {X : List (Nat × Nat)} (hf : fn = 9) (h : zz_F9 w o qk qm X) (hq : ∀ j : Nat, j < 9216 → 0 ≤ (qk j).toInt) (hm : ∀ j : Nat, j < 9 → 0 ≤ (qm j).toInt ∧ (qm j).toInt ≤ 1000) : zz_PR fn w W o g qk qm := ⟨fun z => by omega, fun _ => zz_F9_Q h hq (fun j hj => (hm j hj).2)⟩
/-! open, all forms: what both sides leave -/
theorem zz_us_op {w : Int} {o nu pl : Nat → Int32} {b : Nat} (ho : zz_op o 1024) (hw : 0 < w) (hw2 : w ≤ 1024) : ¬ zz_us w o nu pl b := fun ⟨_, u2, u3⟩ => by
  have := ho (pl b).toNatClampNeg (by rw [zz_tn]; omega)
  omega
theorem zz_RB_open {w : Int} {nc pc sc ac o nu pl sp as : Nat → Int32} (ho : zz_op o 1024) (hw : 0 < w) (hw2 : w ≤ 1024) : zz_RB w 0 0 nc pc sc ac o nu pl sp as := by
  refine ⟨fun i j hi => by omega, fun i hi => by omega, fun i hi => by omega, ⟨fun x hx h0 => ?_, fun b _ ub => absurd ub (zz_us_op ho hw hw2)⟩, fun b b' _ _ ub => absurd ub (zz_us_op ho hw hw2), fun v p s a => ⟨?_, ?_⟩⟩
  · have := ho x (by omega)
    omega
  · rintro ⟨i, hi, _⟩
    omega
  · rintro ⟨b, _, ub, _⟩
    exact absurd ub (zz_us_op ho hw hw2)
theorem zz_OC_open {w : Int} {c o nu : Nat → Int32} (hc : zz_fl c (-1) 1024) (ho : zz_op o 1024) (hw2 : w ≤ 1024) : zz_OC w c o nu := fun x hx => Or.inl ⟨ho x (by omega), by rw [hc x (by omega)]; decide⟩
theorem zz_F4_open {w W Wr : Int} {f g o nu pl sp : Nat → Int32} (h1 : zz_gpw w W) (h2 : zz_b4 f W) (h3 : zz_gpw w Wr) (h4 : zz_b4 g Wr) (ho : zz_op o 1024) (hw : 0 < w) (hw2 : w ≤ 1024) : W = Wr ∧ zz_F4 w W f g o nu pl sp := by
  have e := zz_gpw_uq h1 h3
  subst e
  have p0 := zz_p2_pos h1.1
  have wW := h1.2.1
  refine ⟨rfl, h1, fun x hx => ?_, fun x x1 x2 => h4.2 x (by omega) (by omega), ⟨fun x hx => ?_, fun x y hxy hy _ cy => absurd (h4.2 y (by omega) (by omega)) cy⟩, fun b _ ub => absurd ub (zz_us_op ho hw hw2)⟩
  · by_cases c : x = 0
    · rw [c, h2.1, h4.1]
    · rw [h2.2 x (by omega) (by omega), h4.2 x (by omega) (by omega)]
  · by_cases c : x = 0
    · subst c
      have e1 : (g 0).toInt = W := h4.1
      refine Or.inr ⟨by show zz_p2 (g 0).toInt; rw [e1]; exact h1.1, by show ((0 : Nat) : Int) + (g 0).toInt ≤ (W.toNat : Int); omega, fun y _ y2 => ?_⟩
      have y2 : (y : Int) < ((0 : Nat) : Int) + (g 0).toInt := y2
      exact ho y (by omega)
    · exact Or.inl (h4.2 x (by omega) (by omega))
theorem zz_F5_open {w pg : Int} {S K G o nu pl sp : Nat → Int32} (hp : pg = w / 32) (hS : zz_fl S 0 32) (hG : zz_zr G 32) (ho : zz_op o 1024) (hw : 0 < w) (hw2 : w ≤ 1024) : zz_F5 w pg S K G o nu pl sp := by
  refine ⟨hp, fun p hq => Or.inl ⟨by rw [hS p (by omega)]; decide, hG p (by omega), fun j hj => ho _ (by omega)⟩, fun b _ ub => absurd ub (zz_us_op ho hw hw2)⟩
theorem zz_F6_open {w : Int} {o nu pl sp : Nat → Int32} (ho : zz_op o 1024) (hw : 0 < w) (hw2 : w ≤ 1024) : zz_F6 w o nu pl sp := by
  refine ⟨fun x hx => ?_, fun b _ ub => absurd ub (zz_us_op ho hw hw2)⟩
  rw [ho x (by omega), ho (4 * (x / 4)) (by omega)]
theorem zz_F8_open {w top st : Int} {kp ks kg o nu pl sp : Nat → Int32} (ht : top = 0) (hs : st = 0) (ho : zz_op o 1024) (hw : 0 < w) (hw2 : w ≤ 1024) : zz_F8 w top st kp ks kg o nu pl sp := by
  subst ht hs
  refine ⟨by omega, by omega, by omega, fun _ => rfl, fun z => by omega, fun k hk => by omega, fun k hk => by omega, fun k hk => by omega, fun k hk => by omega, fun x _ hx => ho x (by omega)⟩
theorem zz_F9_open {w : Int} {o qk qm : Nat → Int32} (hq : zz_zr qm 9) (ho : zz_op o 1024) (hw2 : w ≤ 1024) : zz_F9 w o qk qm [] := by
  refine ⟨fun l hl => ?_, fun x hx => (by cases hx), List.nodup_nil, fun x hx => (by cases hx), fun y hy h2 => ?_⟩
  · have e : (qm l).toNatClampNeg = 0 := by rw [zz_tn, hq l (by omega)]; rfl
    rw [e]
    rfl
  · have := ho y (by omega)
    omega

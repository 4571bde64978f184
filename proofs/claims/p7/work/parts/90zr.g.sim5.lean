/-! form 5: class and reference in step -/
def zz_J5 (w pg pgr : Int32) (S K G o nu pl sp : Nat → Int32) : Prop := pg = pgr ∧ zz_F5 w.toInt pg.toInt S K G o nu pl sp
theorem zz_s5_uq {n r s : Int} (h1 : zz_s5 n r) (h2 : zz_s5 n s) : r = s := by
  rcases h1 with ⟨a, b⟩ | ⟨a, b⟩
  · rcases h2 with ⟨_, d⟩ | ⟨c, _⟩
    · exact zz_lpw_uq b d
    · omega
  · rcases h2 with ⟨c, _⟩ | ⟨_, d⟩
    · omega
    · omega
theorem zz_wr_i {f g : Nat → Int32} {a e : Int} {v : Int32} {i : Nat} (h : zz_wr f g a e v) (h1 : a ≤ (i : Int)) (h2 : (i : Int) < e) : g i = v := by rw [h i, if_pos ⟨h1, h2⟩]
theorem zz_wr_o {f g : Nat → Int32} {a e : Int} {v : Int32} {i : Nat} (h : zz_wr f g a e v) (h1 : (i : Int) < a ∨ e ≤ (i : Int)) : g i = f i := by rw [h i, if_neg (by omega)]
theorem zz_cn_le9 (P : Nat → Prop) (n : Nat) : zz_cn P n ≤ n := by
  have h := zz_cn_mono (P := P) (Q := fun _ => True) n (fun _ _ _ => trivial)
  rw [zz_cn_full n (fun _ _ => trivial)] at h
  exact h
/-- what both sides did -/
def zz_C5 (S K G S' K' G' o : Nat → Int32) (pg s x : Int) : Prop :=
  (x = -1 ∧ S' = S ∧ K' = K ∧ G' = G) ∨
  (s ≤ 32 ∧ S' = S ∧ G' = G ∧ ∃ p j : Nat, (p : Int) < pg ∧ (S p).toInt = s ∧ j < 32 ∧ (j : Int) % s = 0 ∧ x = 32 * (p : Int) + (j : Int) ∧ zz_bk o x (x + s) ∧ K' p = (K p) + ((1 : Int32)) ∧ ∀ q : Nat, q ≠ p → K' q = K q) ∨
  (s ≤ 32 ∧ ∃ p : Nat, (p : Int) < pg ∧ (S p).toInt = 0 ∧ x = 32 * (p : Int) ∧ (S' p).toInt = s ∧ (∀ q : Nat, q ≠ p → S' q = S q) ∧ (K' p).toInt = 1 ∧ (∀ q : Nat, q ≠ p → K' q = K q) ∧ (G' p).toInt = s ∧ ∀ q : Nat, q ≠ p → G' q = G q) ∨
  (32 < s ∧ ∃ q n : Int, 0 ≤ q ∧ q + n ≤ pg ∧ zz_z5 S q (q + n) ∧ s = 32 * n ∧ x = 32 * q ∧ (∃ v : Int32, v.toInt = s ∧ zz_wr S S' q (q + n) v) ∧ zz_wr K K' q (q + n) 1 ∧ zz_wr G G' q (q + n) 64)
theorem zz_r5 {w pg x x' : Int} {S K G S' K' G' c o nu pl sp : Nat → Int32} {s : Int32} (hJ : zz_F5 w pg S K G o nu pl sp) (he : zz_fe2 w c o) (hs : zz_s5s s.toInt) (hk : zz_k5t S K S' K' c pg s x) (hr : (s.toInt ≤ 32 ∧ zz_ca5 G G' o pg s 0 x') ∨ (32 < s.toInt ∧ zz_rw5 G G' pg (s.toInt / 32) x')) : x = x' ∧ zz_C5 S K G S' K' G' o pg s.toInt x := by
  have hs1 : 1 ≤ s.toInt := by have := zz_s5s_or hs; omega
  have ez : ∀ p : Nat, (p : Int) < pg → ((S p).toInt = 0 ↔ (G p).toInt = 0) := fun p hp => (zz_F5_p (s := 1) hJ hp (by omega) (by omega)).2
  rcases hk with ⟨a1, q, q1, q2⟩ | ⟨a1, a2, a3, a4, a5⟩ | ⟨a1, a2, q, q1, q2⟩
  · rcases hr with ⟨b1, _⟩ | ⟨b1, r, r1, r2⟩
    · omega
    · have e := zz_fr5_uq q1 r1 ez
      subst e
      have hm : s.toInt = 32 * (s.toInt / 32) := by have := zz_s5s_or hs; omega
      rcases q2 with ⟨c1, c2, c3, c4⟩ | ⟨c1, c2, c3, c4⟩
      · rcases r2 with ⟨_, d2, d3⟩ | ⟨d1, _⟩
        · exact ⟨by omega, Or.inl ⟨c2, c3, c4, d3⟩⟩
        · omega
      · rcases r2 with ⟨d1, _⟩ | ⟨_, d2, d3⟩
        · omega
        · rcases q1 with ⟨f1, _⟩ | ⟨_, f2, f3, _⟩
          · omega
          · refine ⟨by omega, Or.inr (Or.inr (Or.inr ⟨a1, q, s.toInt / 32, c1, f2, f3, hm, c2, ⟨s, rfl, c3⟩, ?_, d3⟩))⟩
            rcases c4 with ⟨g, _⟩ | ⟨_, g⟩
            · omega
            · exact g
  · rcases hr with ⟨b1, b2⟩ | ⟨b1, _⟩
    · have key : ∀ r r' : Int, zz_tp5 S (fun y => (c y.toNat).toInt = -1) pg s.toInt 0 r → zz_tp5 G (fun y => zz_bk o y (y + s.toInt)) pg s.toInt 0 r' → r = r' := fun r r' z1 z2 => zz_tp5_uq z1 z2 (fun p hp => (zz_F5_p hJ hp hs1 a1).1) (fun p hp hS j hj hm => zz_F5_fr hJ he hp hS hs1 a1 hj hm)
      rcases b2 with ⟨d1, d2, d3⟩ | ⟨d1, _⟩
      · have e := key _ _ a4 d3
        refine ⟨e, Or.inr (Or.inl ⟨a1, a3, d2, ?_⟩)⟩
        rcases a4 with ⟨z, _⟩ | ⟨p, _, p2, p3, _, p5, _⟩
        · omega
        · rcases p5 with ⟨z, _⟩ | ⟨j, j1, j2, j3, j4, _⟩
          · omega
          · rcases a5 with ⟨z, _⟩ | ⟨_, i, i1, i2⟩
            · omega
            · have ei : i = p := by omega
              subst ei
              refine ⟨i, j, p2, p3, j1, j2, j3, ?_, by rw [i2, zz_updE, if_pos rfl], fun q hq => by rw [i2, zz_updE, if_neg hq]⟩
              have j4 : (c x.toNat).toInt = -1 := j4
              rw [j3] at j4 ⊢
              exact (zz_F5_fr hJ he p2 p3 hs1 a1 j1 j2).mp j4
      · have e := key _ _ a4 d1
        omega
    · omega
  · rcases hr with ⟨b1, b2⟩ | ⟨b1, _⟩
    · have key : ∀ r r' : Int, zz_tp5 S (fun y => (c y.toNat).toInt = -1) pg s.toInt 0 r → zz_tp5 G (fun y => zz_bk o y (y + s.toInt)) pg s.toInt 0 r' → r = r' := fun r r' z1 z2 => zz_tp5_uq z1 z2 (fun p hp => (zz_F5_p hJ hp hs1 a1).1) (fun p hp hS j hj hm => zz_F5_fr hJ he hp hS hs1 a1 hj hm)
      rcases b2 with ⟨d1, _, d3⟩ | ⟨_, d2⟩
      · have e := key _ _ a2.1 d3
        omega
      · obtain ⟨r, r1, r2⟩ := zz_ne5_fr d2 rfl
        have e := zz_fr5_uq q1 r1 ez
        subst e
        rcases q2 with ⟨c1, c2, c3, c4⟩ | ⟨c1, c2, c3, c4⟩
        · rcases r2 with ⟨_, d2, d3⟩ | ⟨d1, _⟩
          · exact ⟨by omega, Or.inl ⟨c2, c3, c4, d3⟩⟩
          · omega
        · rcases r2 with ⟨d1, _⟩ | ⟨_, d2, i, v, i1, i2, i3⟩
          · omega
          · rcases q1 with ⟨f1, _⟩ | ⟨_, f2, f3, _⟩
            · omega
            · have f3 := f3 i (by omega) (by omega)
              have c4 : zz_wr K K' q (q + 1) 1 := by
                rcases c4 with ⟨g, _⟩ | ⟨_, g⟩
                · omega
                · exact g
              refine ⟨by omega, Or.inr (Or.inr (Or.inl ⟨a1, i, by omega, f3, by omega, ?_, fun k hk => zz_wr_o c3 (by omega), ?_, fun k hk => zz_wr_o c4 (by omega), ?_, fun k hk => by rw [i3, zz_updE, if_neg hk]⟩))⟩
              · rw [zz_wr_i c3 (by omega) (by omega)]
              · rw [zz_wr_i c4 (by omega) (by omega)]; decide
              · rw [i3, zz_updE, if_pos rfl, i2]
    · omega
theorem zz_hF5 {fn w B g pg le tp : Int} {S K S' K' nc pc sc ac c c1 o o1 nu pl sp as g4 g4' G G' li lm li' lm' qk qk' qm qm' : Nat → Int32} {p1 s x s' x' : Int32} {P Q : Prop} (hf : fn = 5) (hR : zz_RB w B g nc pc sc ac o nu pl sp as) (hO : zz_OC w c o nu) (hJ : zz_F5 w pg S K G o nu pl sp) (h1 : 1 ≤ p1.toInt) (h2 : p1.toInt ≤ 1024) (tk : zz_s5 p1.toInt s.toInt ∧ c1 = c ∧ P ∧ zz_k5t S K S' K' c pg s x.toInt) (fd : zz_FA fn w le tp pg o o1 g4 g4' G G' li lm li' lm' qk qk' qm qm' p1 s' x'.toInt ∧ Q) : zz_HF w B g nc pc sc ac nu pl sp as s x c1 s' x' o1 := by
  subst hf
  obtain ⟨t1, t2, _, t3⟩ := tk
  subst t2
  obtain ⟨ss, s1, s2, _⟩ := zz_s5_s t1 h1 h2
  rcases fd.1 with ⟨_, b, _⟩ | ⟨b, _⟩ | ⟨_, b1, b2, b3⟩ | ⟨b, _⟩ | ⟨b, _⟩ | ⟨b, _⟩ | ⟨b, _⟩
  · omega
  · omega
  · subst b1
    have es : s = s' := Int32.toInt_inj.mp (zz_s5_uq t1 b2)
    subst es
    obtain ⟨e1, e2⟩ := zz_r5 hJ (zz_OC_fe hO) ss t3 b3
    have ex : x = x' := Int32.toInt_inj.mp e1
    subst ex
    have ep := hJ.1
    have fr : ∀ p : Nat, (p : Int) < pg → (S p).toInt = 0 → ∀ y : Nat, 32 * (p : Int) ≤ (y : Int) → (y : Int) < 32 * (p : Int) + 32 → (o1 y).toInt = -1 := fun p p1 p2 y y1 y2 => by
      rcases hJ.2.1 p p1 with ⟨_, _, z⟩ | ⟨z, _⟩ | ⟨z, _⟩
      · have := z (y - 32 * p) (by omega)
        rw [show 32 * p + (y - 32 * p) = y by omega] at this
        exact this
      · have := zz_p2_pos z
        omega
      · omega
    have rg := zz_k5t_rg t3 ss s1
    refine ⟨rfl, rfl, by omega, hR, hO, fun h0 => ?_⟩
    rcases e2 with ⟨z, _⟩ | ⟨z1, _, _, p, j, z2, z3, z4, z5, z6, z7, _⟩ | ⟨z1, p, z2, z3, z4, _⟩ | ⟨z1, q, n, z2, z3, z4, z5, z6, _⟩
    · omega
    · refine ⟨s1, ?_, fun y y1 y2 => by rw [z7 y y1 y2]; decide⟩
      have : (j : Int) + s.toInt ≤ 32 := by
        rcases zz_s5s_or ss with (e | e | e | e | e | e) | e
        · rw [e] at z5 ⊢; omega
        · rw [e] at z5 ⊢; omega
        · rw [e] at z5 ⊢; omega
        · rw [e] at z5 ⊢; omega
        · rw [e] at z5 ⊢; omega
        · rw [e] at z5 ⊢; omega
        · omega
      omega
    · refine ⟨s1, by omega, fun y y1 y2 => by rw [fr p z2 z3 y (by omega) (by omega)]; decide⟩
    · refine ⟨s1, by omega, fun y y1 y2 => ?_⟩
      have := fr (y / 32) (by omega) (z4 (y / 32) (by omega) (by omega)) y (by omega) (by omega)
      rw [this]; decide
  · omega
  · omega
  · omega
  · omega
theorem zz_gs5 {fn w pg le tp : Int} {S K S' K' c c1 o o1 o' nu nu' pl pl' sp sp' as as' g4 g4' G G' li lm li' lm' qk qk' qm qm' : Nat → Int32} {Gn p1 s x : Int32} {P Q Z Z2 : Prop} (hf : fn = 5) (hJ : zz_F5 w pg S K G o nu pl sp) (hO : zz_OW w o nu pl sp) (hC : zz_OC w c o nu) (h1 : 1 ≤ p1.toInt) (h2 : p1.toInt ≤ 1024) (tk : zz_s5 p1.toInt s.toInt ∧ c1 = c ∧ P ∧ zz_k5t S K S' K' c pg s x.toInt) (fd : zz_FA fn w le tp pg o o1 g4 g4' G G' li lm li' lm' qk qk' qm qm' p1 s x.toInt ∧ Q) (hz : (x.toInt = -1 ∧ o' = o1 ∧ Z ∧ nu' = nu ∧ pl' = pl ∧ sp' = sp) ∨ (0 ≤ x.toInt ∧ zz_gv w o1 nu pl sp as o' nu' pl' sp' as' Gn x s p1 ∧ Z2)) : zz_F5 w pg S' K' G' o' nu' pl' sp' := by
  subst hf
  obtain ⟨t1, _, _, t3⟩ := tk
  obtain ⟨ss, s1, s2, _⟩ := zz_s5_s t1 h1 h2
  rcases fd.1 with ⟨_, b, _⟩ | ⟨b, _⟩ | ⟨_, b1, b2, b3⟩ | ⟨b, _⟩ | ⟨b, _⟩ | ⟨b, _⟩ | ⟨b, _⟩
  · omega
  · omega
  · subst b1
    obtain ⟨_, e2⟩ := zz_r5 hJ (zz_OC_fe hC) ss t3 b3
    rcases hz with ⟨z1, z2, _, z3, z4, z5⟩ | ⟨z1, z2, _⟩
    · subst z2 z3 z4 z5
      rcases e2 with ⟨_, y1, y2, y3⟩ | ⟨_, _, _, p, j, _, _, _, _, y, _⟩ | ⟨_, p, _, _, y, _⟩ | ⟨_, q, n, y1, _, _, _, y2, _⟩
      · subst y1 y2 y3
        exact hJ
      · omega
      · omega
      · omega
    · rcases e2 with ⟨y, _⟩ | ⟨y1, y2, y3, p, j, y4, y5, y6, y7, y8, y9, y10, y11⟩ | ⟨y1, p, y4, y5, y6, y7, y8, y9, y10, y11, y12⟩ | ⟨y1, q, n, y2, y3, y4, y5, y6, ⟨v, y7, y8⟩, y9, y10⟩
      · omega
      · subst y2 y3
        have ex := zz_tnI x z1
        have kp : (K p).toInt + 1 = (K' p).toInt := by
          rw [y10]
          refine (zz_p1 _ ?_).symm
          rcases hJ.2.1 p y4 with ⟨z, _⟩ | ⟨_, _, _, z, _⟩ | ⟨z, _⟩
          · omega
          · rw [z]
            have : zz_c5 o1 p (S' p).toInt ≤ 32 := zz_cn_le9 _ _
            omega
          · omega
        exact zz_F5_in hJ z2 y4 y5 y1 s1 y6 y7 y8 (y9 _ (by omega) (by omega)) kp.symm y11
      · have p2 : zz_p2 s.toInt := by
          rcases ss with ⟨z, _⟩ | ⟨z, _⟩
          · exact z
          · omega
        exact zz_F5_new hJ hO z2 y4 y5 p2 y1 y6 y7 y8 y9 y10 y11 y12
      · exact zz_F5_row hJ hO z2 y2 y3 y4 y1 y5 y6 y8 y7 y9 (by decide) y10 (by decide)
  · omega
  · omega
  · omega
  · omega
theorem zz_bs5 {fn w W pg : Int} {S K S' K' c c' o o' nu pl sp g g' G G' li lm li' lm' kp kg kg' qk qk' qm qm' : Nat → Int32} {tp tp' st st' : Int} {b : Nat} {q : Int32} {P : Prop} (hf : fn = 5) (hJ : zz_F5 w pg S K G o nu pl sp) (hO : zz_OW w o nu pl sp) (hb : b < 200) (ub : zz_us w o nu pl b) (hwr : zz_wr o o' (pl b).toInt ((pl b).toInt + (sp b).toInt) q) (tb : zz_wr c c' (pl b).toInt ((pl b).toInt + (sp b).toInt) (-1) ∧ P ∧ zz_tb5 S K S' K' (pl b).toInt (sp b).toInt) (tr : zz_BA fn W pg o' g g' G G' li lm li' lm' w tp tp' st st' kp kg kg' qk qk' qm qm' (pl b) (sp b) q) : zz_F5 w pg S' K' G' o' (upd nu b 0) pl sp := by
  subst hf
  rcases tr with ⟨_, a, _⟩ | ⟨a, _⟩ | ⟨_, a, d⟩ | ⟨a, _⟩ | ⟨a, _⟩ | ⟨a, _⟩ | ⟨a, _⟩ | ⟨a, _⟩
  · omega
  · omega
  · obtain ⟨i, i1, i2⟩ := tb.2.2
    have p0 := (hO.2 b hb ub).1
    have s0 := (hO.2 b hb ub).2.1
    rcases hJ.2.2 b hb ub with ⟨e1, e2, e3, e4, e5⟩ | ⟨e1, e2, e3, e4, e5⟩
    · have ei : ((pl b).toInt / 32).toNat = i := by omega
      rw [ei] at e5
      have k0 : 0 ≤ (K i).toInt := by
        rcases hJ.2.1 i (by omega) with ⟨z, _⟩ | ⟨_, _, _, z, _⟩ | ⟨z, _⟩
        · omega
        · omega
        · omega
      have km := zz_m1 (K i) k0
      rcases d with ⟨_, j, j1, j2⟩ | ⟨d, _⟩
      · have ej : j = i := by omega
        subst ej
        have n1 : ((sp b).toInt + 31) / 32 = 1 := by omega
        refine zz_F5_bk1 (p := j) (S' := S') (K' := K') (G' := G') hJ hO hb ub hwr a e2 i1 ?_ ?_ ?_ ?_ ?_
        · rcases i2 with ⟨z1, z2, z3⟩ | ⟨z1, z2, z3⟩
          · exact Or.inl ⟨by omega, by rw [zz_wr_i z2 (by omega) (by omega)]; decide⟩
          · exact Or.inr ⟨by omega, by rw [z2], by rw [z3, zz_updE, if_pos rfl, km]⟩
        · intro k hk
          rcases i2 with ⟨z1, z2, z3⟩ | ⟨z1, z2, z3⟩
          · exact zz_wr_o z2 (by omega)
          · rw [z2]
        · intro k hk
          rcases i2 with ⟨z1, z2, z3⟩ | ⟨z1, z2, z3⟩
          · rcases z3 with ⟨_, z3⟩ | ⟨z3, _⟩
            · rw [zz_wr_o z3 (by omega), zz_updE, if_neg hk]
            · exact absurd rfl z3
          · rw [z3, zz_updE, if_neg hk]
        · rcases j2 with ⟨z1, z2⟩ | ⟨z1, z2⟩
          · exact Or.inl ⟨z1, by rw [z2, zz_updE, if_pos rfl]; decide⟩
          · exact Or.inr ⟨z1, by rw [z2]⟩
        · intro k hk
          rcases j2 with ⟨z1, z2⟩ | ⟨z1, z2⟩
          · rw [z2, zz_updE, if_neg hk]
          · rw [z2]
      · omega
    · have e6 := e5 i (by omega) (by omega)
      have k1 : (K i).toInt = 1 := by
        rcases hJ.2.1 i (by omega) with ⟨z, _⟩ | ⟨_, z, _⟩ | ⟨_, _, z⟩
        · omega
        · omega
        · exact z
      have km := zz_m1 (K i) (by omega)
      have ed : (pl b).toInt / 32 + ((sp b).toInt + 31) / 32 = ((pl b).toInt + (sp b).toInt) / 32 := by omega
      rcases d with ⟨d, _⟩ | ⟨_, d⟩
      · omega
      · rcases i2 with ⟨z1, z2, z3⟩ | ⟨z1, _⟩
        · rw [ed] at z2 z3
          refine zz_F5_bk2 hJ hO hb ub hwr a e1 z2 (by decide) (fun k hk => ?_) d (by decide)
          rcases z3 with ⟨_, z3⟩ | ⟨z3, _⟩
          · rw [z3 k, if_neg hk, zz_updE, if_neg (fun e => hk (by subst e; omega))]
          · exact absurd rfl z3
        · omega
  · omega
  · omega
  · omega
  · omega
  · omega
theorem zz_F5_B5 {w B g pg : Int} {S K G nc pc sc ac o nu pl sp as : Nat → Int32} (h : zz_RB w B g nc pc sc ac o nu pl sp as) (hJ : zz_F5 w pg S K G o nu pl sp) : zz_B5 pc sc B pg := fun i hi => by
  obtain ⟨b, b1, b2, b3, b4⟩ := zz_RB_B h hi
  have c3 := h.2.2.1 i hi
  rw [← b3, ← b4] at c3 ⊢
  rcases hJ.2.2 b b1 b2 with ⟨e1, e2, e3, e4, _⟩ | ⟨e1, e2, e3, e4, _⟩
  · have : (pl b).toInt % 32 + (sp b).toInt ≤ 32 := by
      rcases zz_p32 e1 e2 with e | e | e | e | e | e
      · rw [e] at e3 ⊢; omega
      · rw [e] at e3 ⊢; omega
      · rw [e] at e3 ⊢; omega
      · rw [e] at e3 ⊢; omega
      · rw [e] at e3 ⊢; omega
      · rw [e] at e3 ⊢; omega
    exact ⟨by omega, by omega, by omega, Or.inl this, Or.inl e2⟩
  · exact ⟨by omega, by omega, by omega, Or.inr e2, Or.inr e3⟩

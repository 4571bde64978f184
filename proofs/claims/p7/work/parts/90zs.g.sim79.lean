/-! forms 7 and 9: class and reference in step -/
-- form 7
def zz_JL (w n : Int32) (lp lw li lm o : Nat → Int32) : Prop := zz_vs w.toInt lp lw n.toInt ∧ 0 ≤ n.toInt ∧ n.toInt ≤ 201 ∧ (∀ x : Nat, (x : Int) < w.toInt → -1 ≤ (o x).toInt) ∧ zz_R7 li lm (zz_sg lp lw 0 n.toInt.toNat) ∧ zz_XR o w.toInt.toNat (zz_sg lp lw 0 n.toInt.toNat)
theorem zz_hF7 {fn w B g n n' le tp pg : Int} {lp lw lp' lw' nc pc sc ac c c1 o o1 nu pl sp as g4 g4' G G' li lm li' lm' qk qk' qm qm' : Nat → Int32} {p1 s x s' x' : Int32} {Q : Prop} (hf : fn = 7) (hR : zz_RB w B g nc pc sc ac o nu pl sp as) (hO : zz_OC w c o nu) (hL : zz_R7 li lm (zz_sg lp lw 0 n.toNat)) (hX : zz_XR o w.toNat (zz_sg lp lw 0 n.toNat)) (hw : 0 ≤ w) (h1 : 1 ≤ p1.toInt) (h2 : p1.toInt ≤ 1024) (tk : s = p1 ∧ c1 = c ∧ zz_ctk lp lw n lp' lw' n' p1.toNatClampNeg x.toInt) (fd : zz_FA fn w le tp pg o o1 g4 g4' G G' li lm li' lm' qk qk' qm qm' p1 s' x'.toInt ∧ Q) : zz_HF w B g nc pc sc ac nu pl sp as s x c1 s' x' o1 := by
  subst hf
  obtain ⟨t1, t2, t3⟩ := tk
  subst t1 t2
  rcases fd.1 with ⟨_, b, _⟩ | ⟨b, _⟩ | ⟨b, _⟩ | ⟨b, _⟩ | ⟨_, b1, b2, b3⟩ | ⟨b, _⟩ | ⟨b, _⟩
  · omega
  · omega
  · omega
  · omega
  · subst b1 b2
    have en := zz_tnI s' (by omega)
    have k1 := t3 hX.2.1
    obtain ⟨X2, k2, _⟩ := b3 _ hL hX
    have ex : x = x' := Int32.toInt_inj.mp (zz_gtk_uq k1 k2).1
    subst ex
    refine ⟨rfl, rfl, ?_, hR, hO, fun h0 => ?_⟩
    · rcases k1 with ⟨z, _⟩ | ⟨z, _⟩
      · omega
      · omega
    · rcases k1 with ⟨z, _⟩ | ⟨_, v, d2, _⟩
      · omega
      · have rn : zz_rn o1 w.toNat x.toInt.toNat v := hX.1 _ (zz_pk_mem d2)
        have ge : s'.toNatClampNeg ≤ v := zz_pk_ge d2 (by omega)
        have q2 := rn.2.1
        exact ⟨h1, by omega, fun y y1 y2 => by rw [rn.2.2.1 y (by omega) (by omega)]; decide⟩
  · omega
  · omega
theorem zz_GE_GV {e : String} {p1 g : Int32} {r B B' g' : Int} {nc pc sc ac nc' pc' sc' ac' c c' lp lw lp' lw' : Nat → Int32} {n n' : Int32} {A : Prop} (h : zz_GE e p1 r B g nc pc sc ac B' g' nc' pc' sc' ac' c' (c' = c ∧ n' = n ∧ A ∧ lp' = lp ∧ lw' = lw) (fun (s x : Int32) (c1 : Nat → Int32) => s = p1 ∧ c1 = c ∧ zz_ctk lp lw n.toInt lp' lw' n'.toInt p1.toNatClampNeg x.toInt)) : zz_GV e p1 r B g nc pc sc ac lp lw n.toInt B' g' nc' pc' sc' ac' lp' lw' n'.toInt := by
  rcases h with ⟨a1, a2, a3, a4, a5, a6, a7, a8, _, s2, _, s4, s5⟩ | ⟨a1, a2, a2', a2'', a3, a4, a5, a6, a7, a8, _, s2, _, s4, s5⟩ | ⟨a1, a2, a3, a4, s, x, c1, ⟨t1, _, t3⟩, a5⟩
  · exact Or.inl ⟨a1, a2, a3, a4, a5, a6, a7, a8, s4, s5, by rw [s2]⟩
  · exact Or.inr (Or.inl ⟨a1, a2, a2', a2'', a3, a4, a5, a6, a7, a8, s4, s5, by rw [s2]⟩)
  · subst t1
    refine Or.inr (Or.inr ⟨a1, a2, a3, a4, x, t3, ?_⟩)
    rcases a5 with ⟨b1, b2, b3, b4, b5, b6, b7, b8, _⟩ | ⟨b1, b2, b3, b4, b5, b6, b7, b8, _⟩
    · exact Or.inl ⟨b1, b2, b3, b4, b5, b6, b7, b8⟩
    · exact Or.inr ⟨b1, b2, b3, b4, b5, b6, b7, b8⟩
theorem zz_GF_GR {th r w bl bl' g' : Int} {p1 g : Int32} {o nu pl sp as o' nu' pl' sp' as' li lm li' lm' : Nat → Int32} {SM : Prop} {FD : Int32 → Int32 → (Nat → Int32) → Prop} (h : zz_GF th p1 r w bl g o nu pl sp as bl' g' o' nu' pl' sp' as' SM FD) (hS : SM → li' = li ∧ lm' = lm) (hF : ∀ s x o1, FD s x o1 → o1 = o ∧ s = p1 ∧ zz_lx w o li lm li' lm' p1.toNatClampNeg x.toInt) : zz_GR th p1 r w bl g o nu pl sp as li lm bl' g' o' nu' pl' sp' as' li' lm' := by
  rcases h with ⟨a1, a2, a3, a4, a5, a6, a7, a8, a9, s1⟩ | ⟨a1, a2, a2', a2'', a3, a4, a5, a6, a7, a8, a9, s1⟩ | ⟨a1, a2, a3, a4, s, x, o1, fd, a5⟩
  · obtain ⟨s1, s2⟩ := hS s1
    exact Or.inl ⟨a1, a2, a3, a4, a5, a6, a7, a8, a9, s1, s2⟩
  · obtain ⟨s1, s2⟩ := hS s1
    exact Or.inr (Or.inl ⟨a1, a2, a2', a2'', a3, a4, a5, a6, a7, a8, a9, s1, s2⟩)
  · obtain ⟨f1, f2, f3⟩ := hF s x o1 fd
    subst f1 f2
    refine Or.inr (Or.inr ⟨a1, a2, a3, a4, x, f3, ?_⟩)
    rcases a5 with ⟨b1, b2, b3, b4, b5, b6, b7, b8, b9⟩ | ⟨b1, b2, b3, b4, b5⟩
    · exact Or.inl ⟨b1, b2, b3, b4, b5, b6, b7, b8, b9⟩
    · exact Or.inr ⟨b1, b2, b3, b4, s, rfl, b5⟩
theorem zz_FA_77 {w le tp pg : Int} {o o' g g' G G' li lm li' lm' qk qk' qm qm' : Nat → Int32} {n sp : Int32} {r : Int} {f : Int} (h : zz_FA f w le tp pg o o' g g' G G' li lm li' lm' qk qk' qm qm' n sp r) (hf : f = 7) : o' = o ∧ sp = n ∧ zz_lx w o li lm li' lm' n.toNatClampNeg r := by
  rcases h with ⟨_, b, _⟩ | ⟨b, _⟩ | ⟨b, _⟩ | ⟨b, _⟩ | ⟨_, b1, b2, b3⟩ | ⟨b, _⟩ | ⟨b, _⟩
  · omega
  · omega
  · omega
  · omega
  · exact ⟨b1, b2, b3⟩
  · omega
  · omega
theorem zz_BE_BK {e : String} {p1 : Int32} {r B B' : Int} {nc pc sc ac nc' pc' sc' ac' c c' lp lw lp' lw' : Nat → Int32} {n n' : Int32} {A : Prop} (h : zz_BE e p1 B nc pc sc ac r B' nc' pc' sc' ac' (c' = c ∧ n' = n ∧ A ∧ lp' = lp ∧ lw' = lw) (fun (p s : Int32) => zz_wr c c' p.toInt (p.toInt + s.toInt) (-1) ∧ zz_ctb lp lw n.toInt p.toInt s.toInt lp' lw' n'.toInt)) : zz_BK e p1 B nc pc sc ac lp lw n.toInt r B' nc' pc' sc' ac' lp' lw' n'.toInt := by
  rcases h with ⟨a1, a2, a3, a4, a5, a6, a7, _, s2, _, s4, s5⟩ | ⟨a1, i, a2, a3, a4, a5, a6, a7, a8, a9, _, a10⟩
  · exact Or.inl ⟨a1, a2, a3, a4, a5, a6, a7, s4, s5, by rw [s2]⟩
  · exact Or.inr ⟨a1, i, a2, a3, a4, a5, a6, a7, a8, a9, a10⟩
theorem zz_BF_BR {th r w bl bl' : Int} {p1 : Int32} {o nu pl sp o' nu' li lm li' lm' : Nat → Int32} {SM : Prop} {TB : Int32 → Int32 → Int32 → Prop} (h : zz_BF th p1 w bl o nu pl sp r bl' o' nu' SM TB) (hS : SM → li' = li ∧ lm' = lm) (hF : ∀ p s q, TB p s q → q.toInt = -1 ∧ zz_jx w o' li lm li' lm' p.toInt s.toInt) : zz_BR th p1 w bl o nu pl sp li lm r bl' o' nu' li' lm' := by
  rcases h with ⟨a1, a2, a3, a4, a5, s1⟩ | ⟨a1, a2, b, q, a3, a4, a5, a6, a7, _, a8, a9, a10⟩
  · obtain ⟨s1, s2⟩ := hS s1
    exact Or.inl ⟨a1, a2, a3, a4, a5, s1, s2⟩
  · obtain ⟨f1, f2⟩ := hF _ _ _ a10
    rw [zz_qm1 f1] at a8
    exact Or.inr ⟨a1, a2, b, a3, a4, a5, a6, a7, a8, a9, f2⟩
theorem zz_BA_77 {f W pg : Int} {o' g g' G G' li lm li' lm' kp kg kg' qk qk' qm qm' : Nat → Int32} {w tp tp' st st' : Int} {p s q : Int32} (tr : zz_BA f W pg o' g g' G G' li lm li' lm' w tp tp' st st' kp kg kg' qk qk' qm qm' p s q) (hf : f = 7) : q.toInt = -1 ∧ zz_jx w o' li lm li' lm' p.toInt s.toInt := by
  rcases tr with ⟨_, a, _⟩ | ⟨a, _⟩ | ⟨a, _⟩ | ⟨a, _⟩ | ⟨_, a, d⟩ | ⟨a, _⟩ | ⟨a, _⟩ | ⟨a, _⟩
  · omega
  · omega
  · omega
  · omega
  · exact ⟨a, d⟩
  · omega
  · omega
  · omega
-- form 9
def zz_J9 (t : Nat) (w n : Int32) (qp qw qk qm o : Nat → Int32) : Prop := zz_vs w.toInt qp qw n.toInt ∧ 0 ≤ n.toInt ∧ n.toInt ≤ (t : Int) ∧ zz_F9 w.toInt o qk qm (zz_sg qp qw 0 n.toInt.toNat)
theorem zz_tq_X {w n n' s x r : Int} {qp qw qp' qw' : Nat → Int32} (h : zz_tq qp qw n qp' qw' n' s x r) (hx : x = n - 1) (hv : zz_vs w qp qw n) (hn : 0 ≤ n) (h1 : 1 ≤ s) : (r = -1 ∧ n' = n ∧ qp' = qp ∧ qw' = qw ∧ (zz_sg qp qw 0 n.toNat).find? (fun y => y.2 == s.toNat) = none) ∨ (0 ≤ r ∧ (zz_sg qp qw 0 n.toNat).find? (fun y => y.2 == s.toNat) = some (r.toNat, s.toNat) ∧ (((zz_sg qp qw 0 n.toNat).map Prod.fst).Nodup → zz_sg qp' qw' 0 n'.toNat = (zz_sg qp qw 0 n.toNat).filter (fun y => y.1 != r.toNat)) ∧ n' = n - 1) := by
  subst hx
  have wn : ∀ j : Nat, (j : Int) < n → (((qw j).toNatClampNeg : Nat) : Int) = (qw j).toInt ∧ (((qp j).toNatClampNeg : Nat) : Int) = (qp j).toInt := fun j hj => by
    obtain ⟨v1, v2, _⟩ := hv j hj
    exact ⟨zz_tnI _ (by omega), zz_tnI _ v1⟩
  rcases h with ⟨a1, a2, a3, a4, a5⟩ | ⟨j, a1, a2, a3, a4, a5, a6, a7⟩
  · refine Or.inl ⟨a1, a2, a3, a4, List.find?_eq_none.mpr (fun y hy => ?_)⟩
    obtain ⟨i, i1, i2⟩ := zz_sg_mem _ hy
    rw [i2, Nat.zero_add]
    have w1 := a5 i (by omega)
    have w2 := (wn i (by omega)).1
    intro z
    have z : (qw i).toNatClampNeg = s.toNat := by simpa using z
    omega
  · obtain ⟨e1, e2, _, _⟩ := zz_sg_rm a5 a6 (by omega) (by omega)
    have w1 := wn j (by omega)
    have vj := hv j (by omega)
    rw [show ((j : Int)).toNat = j from Int.toNat_natCast j] at e1 e2
    have ep : (qp j).toNatClampNeg = r.toNat := by omega
    have ew : (qw j).toNatClampNeg = s.toNat := by omega
    rw [ep, ew] at e1
    refine Or.inr ⟨by omega, ?_, fun nd => ?_, a4⟩
    · rw [e1, List.find?_append, List.find?_eq_none.mpr (fun y hy => ?_)]
      · rw [List.find?_cons_of_pos (by simp)]
        rfl
      · obtain ⟨i, i1, i2⟩ := zz_sg_mem _ hy
        rw [i2]
        have w3 := a7 (((j : Int) + 1).toNat + i) (by omega) (by omega)
        have w2 := (wn (((j : Int) + 1).toNat + i) (by omega)).1
        intro z
        have z : (qw (((j : Int) + 1).toNat + i)).toNatClampNeg = s.toNat := by simpa using z
        omega
    · rw [a4, e2, e1]
      rw [e1] at nd
      exact (zz_nd_cutX nd).symm
theorem zz_RB_er {w B g : Int} {nc pc sc ac o o1 nu pl sp as : Nat → Int32} (h : zz_RB w B g nc pc sc ac o nu pl sp as) (he : ∀ y : Nat, (y : Int) < w → ((0 ≤ (o y).toInt ∧ o1 y = o y) ∨ ((o y).toInt < 0 ∧ (o1 y).toInt = -1))) (hw : 0 < w) : zz_RB w B g nc pc sc ac o1 nu pl sp as := by
  obtain ⟨c1, c2, c3, ⟨o2, o3⟩, n1, r1⟩ := h
  have us : ∀ b : Nat, zz_us w o1 nu pl b ↔ zz_us w o nu pl b := fun b => by
    unfold zz_us
    constructor
    · rintro ⟨u1, u2, u3⟩
      have ix : ((pl b).toNatClampNeg : Int) < w := by rw [zz_tn]; omega
      rcases he _ ix with ⟨_, e⟩ | ⟨_, e⟩
      · rw [e] at u3
        exact ⟨u1, u2, u3⟩
      · omega
    · rintro ⟨u1, u2, u3⟩
      have ix : ((pl b).toNatClampNeg : Int) < w := by rw [zz_tn]; omega
      rcases he _ ix with ⟨_, e⟩ | ⟨e, _⟩
      · rw [← e] at u3
        exact ⟨u1, u2, u3⟩
      · omega
  refine ⟨c1, c2, c3, ⟨fun x hx h0 => ?_, fun b hb ub => ?_⟩, fun b b' hb hb' ub ub' e => n1 b b' hb hb' ((us b).mp ub) ((us b').mp ub') e, fun v p s a => ?_⟩
  · rcases he x hx with ⟨_, e⟩ | ⟨_, e⟩
    · rw [e] at h0 ⊢
      obtain ⟨b, b1, b2, b3, b4, b5⟩ := o2 x hx h0
      exact ⟨b, b1, b2, (us b).mpr b3, b4, b5⟩
    · omega
  · obtain ⟨a1, a2, a3, a4⟩ := o3 b hb ((us b).mp ub)
    refine ⟨a1, a2, a3, fun x h1 h2 => ?_⟩
    have e0 := a4 x h1 h2
    rcases he x (by omega) with ⟨_, e⟩ | ⟨e, _⟩
    · rw [e]; exact e0
    · omega
  · rw [r1 v p s a]
    unfold zz_br
    constructor
    · rintro ⟨b, b1, b2, b3⟩
      exact ⟨b, b1, (us b).mpr b2, b3⟩
    · rintro ⟨b, b1, b2, b3⟩
      exact ⟨b, b1, (us b).mp b2, b3⟩
/-- take and find in form 9: what both did -/
def zz_C9 (w : Int) (c c1 o o1 nu qp qw qp' qw' qk qk' qm qm' : Nat → Int32) (n n' s x : Int) : Prop :=
  (0 ≤ x ∧ c1 = c ∧ o1 = o ∧ (x.toNat, s.toNat) ∈ zz_sg qp qw 0 n.toNat ∧ n' = n - 1 ∧ zz_sg qp' qw' 0 n'.toNat = (zz_sg qp qw 0 n.toNat).filter (fun y => y.1 != x.toNat) ∧ zz_RX (fun v => v) 9 qk' qm' ((zz_sg qp qw 0 n.toNat).filter (fun y => y.1 != x.toNat))) ∨
  (0 ≤ x ∧ c1 = c ∧ o1 = o ∧ n' = n ∧ qp' = qp ∧ qw' = qw ∧ qk' = qk ∧ qm' = qm ∧ zz_ft w o s x) ∨
  (-1 ≤ x ∧ n' = 0 ∧ zz_F9 w o1 qk' qm' [] ∧ zz_OC w c1 o1 nu ∧ (∀ y : Nat, (y : Int) < w → ((0 ≤ (o y).toInt ∧ o1 y = o y) ∨ ((o y).toInt < 0 ∧ (o1 y).toInt = -1))) ∧ (0 ≤ x → zz_ft w o1 s x))
theorem zz_r9 {w n n' x x' : Int} {c c1 o o1 nu qp qw qp' qw' qk qk' qm qm' : Nat → Int32} {s : Int32} (hO : zz_OC w c o nu) (hv : zz_vs w qp qw n) (hn : 0 ≤ n) (hJ : zz_F9 w o qk qm (zz_sg qp qw 0 n.toNat)) (hq : ∀ j : Nat, j < 9216 → 0 ≤ (qk j).toInt) (hm : ∀ j : Nat, j < 9 → 0 ≤ (qm j).toInt ∧ (qm j).toInt ≤ 1000) (h1 : 1 ≤ s.toInt) (hk : zz_k9 w c c1 qp qw n qp' qw' n' s.toInt x) (hr : zz_qr9 w o o1 qk qk' qm qm' s.toInt x') : x = x' ∧ zz_C9 w c c1 o o1 nu qp qw qp' qw' qk qk' qm qm' n n' s.toInt x := by
  have fe := zz_OC_fe hO
  rcases hk with ⟨a1, a2, a3⟩ | ⟨a3, a4, a5, a6⟩
  · rcases zz_tq_X a3 rfl hv hn h1 with ⟨z, _⟩ | ⟨_, f1, f2, f3⟩
    · omega
    · have mem := List.mem_of_find?_eq_some f1
      have s8 := (hJ.2.1 _ mem).2.1
      have s8 : s.toInt.toNat ≤ 8 := s8
      rcases zz_F9_hd (n := s.toInt.toNat) hJ (by omega) with ⟨g1, g2⟩ | ⟨_, g2⟩
      · rw [f1] at g2
        have g3 : x.toNat = (qk (1024 * s.toInt.toNat)).toNatClampNeg := by
          have := congrArg (fun z => z.map Prod.fst) g2
          simpa using this
        have g4 := zz_tnI (qk (1024 * s.toInt.toNat)) (hq _ (by omega))
        rcases hr with ⟨_, b1, i, i1, i2, i3, i4, i5, i6⟩ | ⟨b, _⟩
        · have ei : i = s.toInt.toNat := by omega
          rw [ei] at i2 i3 i4 i5 i6
          have ex : x = x' := by omega
          refine ⟨ex, Or.inl ⟨a1, a2, b1, mem, f3, f2 hJ.2.2.1, ?_⟩⟩
          have := zz_RX_from (κ := fun v => v) (N := 9) (L := s.toInt.toNat) (j := 0) (p := qk (1024 * s.toInt.toNat)) hJ.1 (by omega) rfl (by rw [show ((s.toInt.toNat : Nat) : Int) = s.toInt by omega]; exact i4) i5 i6 hm (by omega) hJ.2.2.1
          rw [← g3] at this
          exact this
        · rcases b with b | b
          · omega
          · omega
      · rw [f1] at g2
        cases g2
  · rcases zz_tq_X a3 rfl hv hn h1 with ⟨_, _, _, _, f1⟩ | ⟨z, _⟩
    · rcases hr with ⟨b0, _, i, i1, i2, _⟩ | ⟨_, b1, b2⟩
      · exfalso
        rcases zz_F9_hd (n := s.toInt.toNat) hJ (by omega) with ⟨_, g2⟩ | ⟨g1, _⟩
        · rw [f1] at g2
          cases g2
        · rw [show i = s.toInt.toNat by omega] at i2
          omega
      · rcases a6 with ⟨c1', c2, c3, c4⟩ | ⟨c1', c2, c3, c4⟩
        · have c5 := zz_ff_fe fe c4
          rcases b2 with ⟨d1, d2, d3, d4⟩ | ⟨d1, _⟩
          · have ex := zz_ff_uq c5 d4
            exact ⟨ex, Or.inr (Or.inl ⟨c1', c2, d2, c3, a4, a5, b1, d3, zz_ff_ft c5 c1'⟩)⟩
          · have ex := zz_ff_uq c5 d1
            omega
        · have c5 := zz_ff_fe fe c1'
          rcases b2 with ⟨d1, d2, d3, d4⟩ | ⟨d1, d2, d3, d4⟩
          · have ex := zz_ff_uq c5 d4
            omega
          · have W : zz_W9 c c1 (zz_sg qp qw 0 n.toNat) := by
              have c3 : zz_W9 c c1 (zz_sg qp qw (0 : Int).toNat (n - 0).toNat) := c3
              rw [show (0 : Int).toNat = 0 from rfl, show n - 0 = n by omega] at c3
              exact c3
            obtain ⟨k1, k2, k3⟩ := zz_F9_empty (qm' := qm') hJ hq hm hO (zz_E9_ini d2 rfl) W (fun j j1 j2 => d3.1 j (by omega) (by omega)) (d3.2 0 (by omega))
            have ex := zz_ff_uq (zz_ff_fe (zz_OC_fe k2) c4) d4
            subst b1
            have rg := zz_ff_rg d4 (Int.le_refl _)
            refine ⟨ex, Or.inr (Or.inr ⟨by omega, c2, k1, k2, k3, fun h0 => ?_⟩)⟩
            rw [ex] at h0 ⊢
            exact zz_ff_ft d4 h0
    · omega
theorem zz_FA_99 {w le tp pg : Int} {o o' g g' G G' li lm li' lm' qk qk' qm qm' : Nat → Int32} {n sp : Int32} {r : Int} {f : Int} (h : zz_FA f w le tp pg o o' g g' G G' li lm li' lm' qk qk' qm qm' n sp r) (hf : f = 9) : sp = n ∧ zz_qr9 w o o' qk qk' qm qm' n.toInt r := by
  rcases h with ⟨_, b, _⟩ | ⟨b, _⟩ | ⟨b, _⟩ | ⟨b, _⟩ | ⟨b, _⟩ | ⟨b, _⟩ | ⟨_, b1, b2⟩
  · omega
  · omega
  · omega
  · omega
  · omega
  · omega
  · exact ⟨b1, b2⟩
theorem zz_hF9 {fn w B g n n' le tp pg : Int} {qp qw qp' qw' nc pc sc ac c c1 o o1 nu pl sp as g4 g4' G G' li lm li' lm' qk qk' qm qm' : Nat → Int32} {p1 s x s' x' : Int32} {Q : Prop} (hf : fn = 9) (hR : zz_RB w B g nc pc sc ac o nu pl sp as) (hO : zz_OC w c o nu) (hv : zz_vs w qp qw n) (hn : 0 ≤ n) (hJ : zz_F9 w o qk qm (zz_sg qp qw 0 n.toNat)) (hq : ∀ j : Nat, j < 9216 → 0 ≤ (qk j).toInt) (hm : ∀ j : Nat, j < 9 → 0 ≤ (qm j).toInt ∧ (qm j).toInt ≤ 1000) (hw : 0 < w) (h1 : 1 ≤ p1.toInt) (tk : s = p1 ∧ zz_k9 w c c1 qp qw n qp' qw' n' p1.toInt x.toInt) (fd : zz_FA fn w le tp pg o o1 g4 g4' G G' li lm li' lm' qk qk' qm qm' p1 s' x'.toInt ∧ Q) : zz_HF w B g nc pc sc ac nu pl sp as s x c1 s' x' o1 := by
  subst hf
  obtain ⟨t1, t3⟩ := tk
  obtain ⟨b1, b2⟩ := zz_FA_99 fd.1 rfl
  subst t1 b1
  obtain ⟨ex, r9⟩ := zz_r9 hO hv hn hJ hq hm h1 t3 b2
  have ex : x = x' := Int32.toInt_inj.mp ex
  subst ex
  rcases r9 with ⟨z1, z2, z3, z4, _⟩ | ⟨z1, z2, z3, _, _, _, _, _, z4⟩ | ⟨z1, _, _, z2, z3, z4⟩
  · subst z2 z3
    obtain ⟨m1, m2, m3, m4⟩ := hJ.2.1 _ z4
    have m3 : ((x.toInt.toNat + s'.toInt.toNat : Nat) : Int) ≤ w := m3
    have m4 : ∀ y : Nat, x.toInt.toNat ≤ y → y < x.toInt.toNat + s'.toInt.toNat → (o1 y).toInt = -2 := m4
    exact ⟨rfl, rfl, by omega, hR, hO, fun _ => ⟨h1, by omega, fun y y1 y2 => by rw [m4 y (by omega) (by omega)]; decide⟩⟩
  · subst z2 z3
    exact ⟨rfl, rfl, by omega, hR, hO, fun _ => ⟨h1, z4.1, fun y y1 y2 => by rw [z4.2 y y1 y2]; decide⟩⟩
  · refine ⟨rfl, rfl, z1, zz_RB_er hR z3 hw, z2, fun h0 => ?_⟩
    have z5 := z4 h0
    exact ⟨h1, z5.1, fun y y1 y2 => by rw [z5.2 y y1 y2]; decide⟩
theorem zz_vs_sg {w n : Int} {qp qw : Nat → Int32} (h : ∀ y ∈ zz_sg qp qw 0 n.toNat, 1 ≤ y.2 ∧ ((y.1 + y.2 : Nat) : Int) ≤ w) (hp : ∀ j : Nat, (j : Int) < n → 0 ≤ (qp j).toInt) : zz_vs w qp qw n := fun i hi => by
  have hm := zz_sg_in qp qw 0 n.toNat i (by omega)
  rw [Nat.zero_add] at hm
  obtain ⟨a, b⟩ := h _ hm
  have a : 1 ≤ (qw i).toNatClampNeg := a
  have b : (((qp i).toNatClampNeg + (qw i).toNatClampNeg : Nat) : Int) ≤ w := b
  have c := hp i hi
  have d := zz_tnI (qp i) c
  have e : ((qw i).toNatClampNeg : Int) = (qw i).toInt := by
    rw [zz_tn] at a ⊢
    omega
  exact ⟨c, by omega, by omega⟩
theorem zz_k9_vs {w n n' s r : Int} {c c' pc wc pc' wc' : Nat → Int32} (h : zz_k9 w c c' pc wc n pc' wc' n' s r) (hv : zz_vs w pc wc n) (hn : 0 ≤ n) : zz_vs w pc' wc' n' := by
  rcases h with ⟨_, _, b⟩ | ⟨_, e1, e2, d⟩
  · rcases b with ⟨_, a2, a3, a4, _⟩ | ⟨j, j1, _, _, j4, j5, j6, _⟩
    · rw [a2, a3, a4]; exact hv
    · exact zz_vs_rm hv j5 j6 (by omega) (by omega)
  · rw [e1, e2]
    rcases d with ⟨_, _, a, _⟩ | ⟨_, a, _⟩
    · rw [a]; exact hv
    · rw [a]; exact fun i hi => by omega
theorem zz_tb9_vs {w n n' : Int} {c c' pc wc pc' wc' : Nat → Int32} {p s : Int32} (h : zz_tb9 c c' pc wc n pc' wc' n' p s) (hv : zz_vs w pc wc n) (hn : 0 ≤ n) (hp : 0 ≤ p.toInt) (hs : 1 ≤ s.toInt) (hw : p.toInt + s.toInt ≤ w) : zz_vs w pc' wc' n' := by
  rcases h with ⟨_, _, a2, a3, a4⟩ | ⟨_, _, a2, a3, a4⟩
  · rw [a2, a3, a4]; exact hv
  · rw [a2, a3, a4]
    intro i hi
    by_cases c : i = n.toNat
    · subst c
      rw [zz_updE, zz_updE, if_pos rfl, if_pos rfl]
      exact ⟨hp, hs, hw⟩
    · rw [zz_updE, zz_updE, if_neg c, if_neg c]
      exact hv i (by omega)
theorem zz_gs9 {fn w n n' le tp pg : Int} {qp qw qp' qw' c c1 o o1 o' nu nu' pl pl' sp sp' as as' g4 g4' G G' li lm li' lm' qk qk' qm qm' : Nat → Int32} {Gn p1 s x : Int32} {Q Z Z2 : Prop} (hf : fn = 9) (hO : zz_OC w c o nu) (hv : zz_vs w qp qw n) (hn : 0 ≤ n) (hJ : zz_F9 w o qk qm (zz_sg qp qw 0 n.toNat)) (hq : ∀ j : Nat, j < 9216 → 0 ≤ (qk j).toInt) (hm : ∀ j : Nat, j < 9 → 0 ≤ (qm j).toInt ∧ (qm j).toInt ≤ 1000) (h1 : 1 ≤ p1.toInt) (tk : s = p1 ∧ zz_k9 w c c1 qp qw n qp' qw' n' p1.toInt x.toInt) (fd : zz_FA fn w le tp pg o o1 g4 g4' G G' li lm li' lm' qk qk' qm qm' p1 s x.toInt ∧ Q) (hz : (x.toInt = -1 ∧ o' = o1 ∧ Z ∧ nu' = nu ∧ pl' = pl ∧ sp' = sp) ∨ (0 ≤ x.toInt ∧ zz_gv w o1 nu pl sp as o' nu' pl' sp' as' Gn x s p1 ∧ Z2)) : 0 ≤ n' ∧ n' ≤ n ∧ zz_F9 w o' qk' qm' (zz_sg qp' qw' 0 n'.toNat) := by
  subst hf
  obtain ⟨t1, t3⟩ := tk
  obtain ⟨b1, b2⟩ := zz_FA_99 fd.1 rfl
  subst t1
  obtain ⟨_, r9⟩ := zz_r9 hO hv hn hJ hq hm h1 t3 b2
  rcases r9 with ⟨z1, z2, z3, z4, z5, z6, z7⟩ | ⟨z1, z2, z3, z4, z5, z6, z7, z8, z9⟩ | ⟨z1, z2, z3, _, _, z4⟩
  · subst z3
    have n1 : 0 ≤ n' := by
      have := zz_sg_len qp qw 0 n.toNat
      have := List.length_pos_of_mem z4
      omega
    rcases hz with ⟨y, _⟩ | ⟨y1, ⟨b, b0, _, _, _, _, _, _, hwr⟩, _⟩
    · omega
    · refine ⟨n1, by omega, ?_⟩
      rw [z6]
      refine zz_F9_take hJ z4 z7 ?_ b0
      rw [show ((x.toInt.toNat : Nat) : Int) = x.toInt by omega, show ((s.toInt.toNat : Nat) : Int) = s.toInt by omega]
      exact hwr
  · subst z3 z5 z6 z7 z8
    rw [z4]
    rcases hz with ⟨y, _⟩ | ⟨y1, ⟨b, b0, _, _, _, _, _, _, hwr⟩, _⟩
    · omega
    · exact ⟨hn, Int.le_refl _, zz_F9_put hJ hwr (fun y y1 y2 => by rw [z9.2 y y1 y2]; decide) (by omega)⟩
  · rw [z2]
    refine ⟨by omega, by omega, ?_⟩
    show zz_F9 w o' qk' qm' []
    rcases hz with ⟨_, y1, _⟩ | ⟨y1, ⟨b, b0, _, _, _, _, _, _, hwr⟩, _⟩
    · rw [y1]; exact z3
    · have z5 := z4 y1
      exact zz_F9_put z3 hwr (fun y y1 y2 => by rw [z5.2 y y1 y2]; decide) (by omega)
theorem zz_bW9 {fn w n n' W pg : Int} {c c' qp qw qp' qw' o' g g' G G' li lm li' lm' kp kg kg' qk qk' qm qm' : Nat → Int32} {tp tp' st st' : Int} {p s q : Int32} (hf : fn = 9) (tb : ∃ c1 : Nat → Int32, zz_wr c c1 p.toInt (p.toInt + s.toInt) (-1) ∧ zz_tb9 c1 c' qp qw n qp' qw' n' p s) (tr : zz_BA fn W pg o' g g' G G' li lm li' lm' w tp tp' st st' kp kg kg' qk qk' qm qm' p s q) : zz_wr c c' p.toInt (p.toInt + s.toInt) q := by
  subst hf
  obtain ⟨c1, t1, t2⟩ := tb
  rcases tr with ⟨_, a, _⟩ | ⟨a, _⟩ | ⟨a, _⟩ | ⟨a, _⟩ | ⟨a, _⟩ | ⟨a, _⟩ | ⟨_, a1, a2, _⟩ | ⟨_, a1, a2, _⟩
  · omega
  · omega
  · omega
  · omega
  · omega
  · omega
  · rcases t2 with ⟨_, e, _⟩ | ⟨e, _⟩
    · rw [zz_qm1 a2, e]
      exact t1
    · omega
  · rcases t2 with ⟨e, _⟩ | ⟨_, e, _⟩
    · omega
    · have eq : q = -2 := Int32.toInt_inj.mp (by rw [a2]; decide)
      rw [eq]
      intro y
      rw [e y]
      by_cases cc : p.toInt ≤ (y : Int) ∧ (y : Int) < p.toInt + s.toInt
      · rw [if_pos cc, if_pos cc]
      · rw [if_neg cc, if_neg cc, t1 y, if_neg cc]
theorem zz_bs9 {fn w n n' W pg : Int} {c c' qp qw qp' qw' o o' nu pl sp g g' G G' li lm li' lm' kp kg kg' qk qk' qm qm' : Nat → Int32} {tp tp' st st' : Int} {b : Nat} {q : Int32} (hf : fn = 9) (hn : 0 ≤ n) (hJ : zz_F9 w o qk qm (zz_sg qp qw 0 n.toNat)) (hm : ∀ j : Nat, j < 9 → 0 ≤ (qm j).toInt ∧ (qm j).toInt ≤ 1000) (hO : zz_OW w o nu pl sp) (hb : b < 200) (ub : zz_us w o nu pl b) (hwr : zz_wr o o' (pl b).toInt ((pl b).toInt + (sp b).toInt) q) (tb : ∃ c1 : Nat → Int32, zz_wr c c1 (pl b).toInt ((pl b).toInt + (sp b).toInt) (-1) ∧ zz_tb9 c1 c' qp qw n qp' qw' n' (pl b) (sp b)) (tr : zz_BA fn W pg o' g g' G G' li lm li' lm' w tp tp' st st' kp kg kg' qk qk' qm qm' (pl b) (sp b) q) : 0 ≤ n' ∧ n' ≤ n + 1 ∧ zz_F9 w o' qk' qm' (zz_sg qp' qw' 0 n'.toNat) := by
  subst hf
  obtain ⟨c1, t1, t2⟩ := tb
  obtain ⟨o1, o2, o3, o4⟩ := hO.2 b hb ub
  rcases tr with ⟨_, a, _⟩ | ⟨a, _⟩ | ⟨a, _⟩ | ⟨a, _⟩ | ⟨a, _⟩ | ⟨a, _⟩ | ⟨_, a1, a2, a3, a4⟩ | ⟨_, a1, a2, i, i1, i2, i3, i4⟩
  · omega
  · omega
  · omega
  · omega
  · omega
  · omega
  · rcases t2 with ⟨_, _, e2, e3, e4⟩ | ⟨e, _⟩
    · subst a3 a4 e2 e3 e4
      exact ⟨hn, by omega, zz_F9_put hJ hwr (fun y y1 y2 => by rw [o4 y y1 y2]; omega) (by omega)⟩
    · omega
  · rcases t2 with ⟨e, _⟩ | ⟨_, _, e2, e3, e4⟩
    · omega
    · subst e2 e3 e4
      refine ⟨by omega, by omega, ?_⟩
      rw [show (n + 1).toNat = n.toNat + 1 by omega, zz_sg_upd]
      have ep := zz_tnI (pl b) o1
      have es := zz_tnI (sp b) (by omega)
      have ei : i = (sp b).toNatClampNeg := by omega
      subst ei
      have R := zz_RX_to (κ := fun v => v) (N := 9) (L := (sp b).toNatClampNeg) (v := (sp b).toNatClampNeg) (p := pl b) hJ.1 (by rw [es]; exact i2) i3 i4 rfl hm (by omega)
      refine zz_F9_push hJ (by rw [ep, es]; exact hwr) a2 (fun y y1 y2 => ?_) (by omega) (by omega) (by omega) R
      rw [o4 y (by omega) (by omega)]
      omega
theorem zz_F9_PR {fn w W : Int} {o g qk qm : Nat → Int32} {X : List (Nat × Nat)} (hf : fn = 9) (h : zz_F9 w o qk qm X) (hq : ∀ j : Nat, j < 9216 → 0 ≤ (qk j).toInt) (hm : ∀ j : Nat, j < 9 → 0 ≤ (qm j).toInt ∧ (qm j).toInt ≤ 1000) : zz_PR fn w W o g qk qm := ⟨fun z => by omega, fun _ => zz_F9_Q h hq (fun j hj => (hm j hj).2)⟩

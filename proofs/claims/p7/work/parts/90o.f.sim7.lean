/-! form 7: class and reference step together -/
theorem zz_php : ∀ (A B : List Nat), A.Nodup → (∀ x ∈ A, x ∈ B) → A.length ≤ B.length
  | [], B, _, _ => Nat.zero_le _
  | a :: A, B, nd, h => by
    rw [List.nodup_cons] at nd
    have ha := h a List.mem_cons_self
    have k := zz_php A (B.erase a) nd.2 (fun x hx => (List.mem_erase_of_ne (fun e => nd.1 (by rw [← e]; exact hx))).mpr (h x (List.mem_cons_of_mem _ hx)))
    rw [List.length_erase_of_mem ha] at k
    have := List.length_pos_of_mem ha
    rw [List.length_cons]
    omega
def zz_S7 (w B g : Int) (nc pc sc ac lp lw : Nat → Int32) (n : Int) (o nu pl sp as li lm : Nat → Int32) : Prop := zz_RB w B g nc pc sc ac o nu pl sp as ∧ zz_vs w lp lw n ∧ 0 ≤ n ∧ n ≤ 201 ∧ (∀ x : Nat, (x : Int) < w → -1 ≤ (o x).toInt) ∧ zz_R7 li lm (zz_sg lp lw 0 n.toNat) ∧ zz_XR o w.toNat (zz_sg lp lw 0 n.toNat)
theorem zz_S7_TN {w B g n : Int} {nc pc sc ac lp lw o nu pl sp as li lm : Nat → Int32} (h : zz_S7 w B g nc pc sc ac lp lw n o nu pl sp as li lm) (hw : 0 ≤ w) (hB : B ≤ 200) (v : Int32) : zz_TN v B nc pc sc lp lw n := fun i hi _ => by
  obtain ⟨⟨c1, c2, c3, ⟨o1, o2⟩, n1, r1⟩, v1, v2, v3, x1, r7, xr1, xr2, xr3⟩ := h
  have vi := c3 i hi
  unfold zz_tln
  have L : (((zz_sg lp lw 0 n.toNat).filter (zz_kp (pc i).toInt.toNat (sc i).toInt.toNat)).map (fun x => x.1 + x.2)).length ≤ (w.toNat :: (((zz_sg pc sc 0 B.toNat).map Prod.fst).erase (pc i).toInt.toNat)).length := by
    refine zz_php _ _ ?_ ?_
    · refine List.pairwise_map.mpr (List.Pairwise.imp_of_mem (fun {a b} ha hb hab => ?_) (List.Pairwise.filter _ (List.pairwise_map.mp xr2)))
      have ra := xr1 a (List.mem_filter.mp ha).1
      have rb := xr1 b (List.mem_filter.mp hb).1
      have a1 := ra.1
      have b1 := rb.1
      rcases Nat.lt_or_gt_of_ne hab with c | c
      · have := zz_rn_sep rb ra c
        omega
      · have := zz_rn_sep ra rb c
        omega
    · intro e he
      obtain ⟨x, hx, rfl⟩ := List.mem_map.mp he
      obtain ⟨hx1, hx2⟩ := List.mem_filter.mp hx
      have kp := (zz_kp_t.mp hx2).1
      obtain ⟨q1, q2, q3, q4, q5⟩ := xr1 x hx1
      by_cases c : x.1 + x.2 = w.toNat
      · rw [c]; exact List.mem_cons_self
      · refine List.mem_cons_of_mem _ ((List.mem_erase_of_ne kp).mpr ?_)
        have q6 := q5.resolve_left c
        have q7 := x1 (x.1 + x.2) (by omega)
        obtain ⟨b, b1, b2, b3, b4, b5⟩ := o1 (x.1 + x.2) (by omega) (by omega)
        have eb : (pl b).toInt = ((x.1 + x.2 : Nat) : Int) := by
          by_cases d : (pl b).toInt = ((x.1 + x.2 : Nat) : Int)
          · exact d
          · exfalso
            have z1 := (o2 b b1 b3).2.2.2 (x.1 + x.2 - 1) (by omega) (by omega)
            have z2 := q3 (x.1 + x.2 - 1) (by omega) (by omega)
            omega
        obtain ⟨k, k1, k2, k3, _⟩ := (r1 ((nu b).toInt - 1) _ _ _).mpr ⟨b, b1, b3, by omega, rfl, rfl, rfl⟩
        have m := zz_sg_in pc sc 0 B.toNat k (by omega)
        rw [Nat.zero_add] at m
        refine List.mem_map.mpr ⟨_, m, ?_⟩
        show (pc k).toNatClampNeg = x.1 + x.2
        rw [zz_tn]
        omega
  have m := zz_sg_in pc sc 0 B.toNat i (by omega)
  rw [Nat.zero_add] at m
  have mi : (pc i).toInt.toNat ∈ (zz_sg pc sc 0 B.toNat).map Prod.fst := List.mem_map.mpr ⟨_, m, rfl⟩
  rw [List.length_map, List.length_cons, List.length_erase_of_mem mi, List.length_map, zz_sg_len] at L
  omega
theorem zz_S7_give {e : String} {p1 G Gr : Int32} {w B g n r B' g' n' th r' bl bl' gr' : Int} {nc pc sc ac lp lw nc' pc' sc' ac' lp' lw' o nu pl sp as li lm o' nu' pl' sp' as' li' lm' : Nat → Int32} (h : zz_S7 w B g nc pc sc ac lp lw n o nu pl sp as li lm) (hc : zz_GV e p1 r B G nc pc sc ac lp lw n B' g' nc' pc' sc' ac' lp' lw' n') (hr : zz_GR th p1 r' w bl Gr o nu pl sp as li lm bl' gr' o' nu' pl' sp' as' li' lm') (hv : zz_vs w lp' lw' n') (hn0 : 0 ≤ n') (hn1 : n' ≤ 201) (hbl : bl = B) (hG : G.toInt = g) (hGr : Gr.toInt = g) (hg0 : 0 ≤ g) (hg1 : g ≤ 100000) (hB : 0 ≤ B) (hB2 : B ≤ 200) (hw0 : 0 ≤ w) (hw1 : w ≤ 1024) : zz_S7 w B' g' nc' pc' sc' ac' lp' lw' n' o' nu' pl' sp' as' li' lm' ∧ bl' = B' ∧ gr' = g' ∧ g ≤ g' ∧ g' ≤ g + 1 ∧ ((e = "" ∧ th = 0 ∧ r = r') ∨ (e = "java/lang/IllegalArgumentException" ∧ th = 1) ∨ (e = "java/lang/IndexOutOfBoundsException" ∧ th = 3)) := by
  have hGG : Gr = G := Int32.toInt_inj.mp (by omega)
  subst hGG
  rcases hc with ⟨a1, a2, a3, a4, a5, a6, a7, a8, a9, a10, a11⟩ | ⟨a1, a2, a2', a2'', a3, a4, a5, a6, a7, a8, a9, a10, a11⟩ | ⟨a1, a2, a3, a4, x, tx, a5⟩
  · rcases hr with ⟨b1, b2, b3, b4, b5, b6, b7, b8, b9, b10, b11⟩ | ⟨b1, b2, b2', _⟩ | ⟨b1, b2, b3, _⟩
    · subst a5; subst a6; subst a7; subst a8; subst a9; subst a10; subst b5; subst b6; subst b7; subst b8; subst b9; subst b10; subst b11
      rw [a3, a4, a11, hG]
      exact ⟨h, by omega, by omega, by omega, by omega, Or.inr (Or.inl ⟨a1, b1⟩)⟩
    · omega
    · omega
  · rcases hr with ⟨b1, b2, _⟩ | ⟨b1, b2, b2', b2'', b3, b4, b5, b6, b7, b8, b9, b10, b11⟩ | ⟨b1, b2, b3, b4, _⟩
    · omega
    · subst a5; subst a6; subst a7; subst a8; subst a9; subst a10; subst b5; subst b6; subst b7; subst b8; subst b9; subst b10; subst b11
      rw [a3, a4, a11, hG]
      exact ⟨h, by omega, by omega, by omega, by omega, Or.inr (Or.inr ⟨a1, b1⟩)⟩
    · omega
  · rcases hr with ⟨b1, b2, _⟩ | ⟨b1, b2, b2', b2'', _⟩ | ⟨b1, b2, b3, b4, y, ty, b5⟩
    · omega
    · omega
    · obtain ⟨hRB, v1, v2, v3, x1, r7, xr1, xr2, xr3⟩ := h
      have en := zz_tnI p1 (by omega)
      have tk := tx xr2
      obtain ⟨X2, tk2, R2⟩ := ty _ r7 ⟨xr1, xr2, xr3⟩
      obtain ⟨exy, eX⟩ := zz_gtk_uq tk tk2
      rw [← eX] at R2
      rcases tk with ⟨d1, d2, d3⟩ | ⟨d1, v, d2, d3⟩
      · rcases a5 with ⟨e1, e2, e3, e4, e5, e6, e7, e8⟩ | ⟨e1, _⟩
        · rcases b5 with ⟨f1, f2, f3, f4, f5, f6, f7, f8, f9⟩ | ⟨f1, _⟩
          · subst e5; subst e6; subst e7; subst e8; subst f5; subst f6; subst f7; subst f8; subst f9
            rw [e3, e4, hG]
            exact ⟨⟨hRB, hv, hn0, hn1, x1, R2, by rw [d3]; exact ⟨xr1, xr2, xr3⟩⟩, by omega, by omega, by omega, by omega, Or.inl ⟨a1, b1, by omega⟩⟩
          · omega
        · omega
      · rcases a5 with ⟨e1, _⟩ | ⟨e1, e2, e3, e4, e5, e6, e7, e8⟩
        · omega
        · rcases b5 with ⟨f1, _⟩ | ⟨f1, f2, f3, f4, s, f5, f6⟩
          · omega
          · have exy2 : y = x := Int32.toInt_inj.mp (by omega)
            have es : s = p1 := Int32.toInt_inj.mp (by omega)
            subst exy2
            subst es
            have rn := xr1 _ (zz_pk_mem d2)
            have ge := zz_pk_ge d2 (by omega)
            have rn : zz_rn o w.toNat y.toInt.toNat v := rn
            have ge : s.toNatClampNeg ≤ v := ge
            obtain ⟨q1, q2, q3, q4, q5⟩ := rn
            have fr : ∀ z : Nat, y.toInt ≤ (z : Int) → (z : Int) < y.toInt + s.toInt → (o z).toInt = -1 := fun z h1 h2 => q3 z (by omega) (by omega)
            have RB' := zz_RB_give hRB f6 hG hg0 hg1 (by omega) (by omega) (by omega) hB (fun z h1 h2 => by rw [fr z h1 h2]; decide)
            obtain ⟨b, bb0, bb1, _, _, _, _, _, hwr⟩ := f6
            have C := zz_rn_cut (o0 := o') (p := y.toInt.toNat) (n := s.toNatClampNeg) ⟨q1, q2, q3, q4, q5⟩ (Nat.le_refl _) (by omega) (by omega) (fun z hz => by rw [hwr z, if_neg (by omega)]) (fun z h1 h2 => by rw [hwr z, if_pos (by omega)]; omega)
            subst e5; subst e6; subst e7; subst e8
            rw [e3, e4, hG]
            have XR' : zz_XR o' w.toNat (zz_sg lp' lw' 0 n'.toNat) := by
              rw [d3]
              refine ⟨fun z hz => ?_, ?_, fun p u hp => ?_⟩
              · rcases List.mem_append.mp hz with c | c
                · by_cases cc : s.toNatClampNeg < v
                  · rw [if_pos cc, List.mem_singleton] at c
                    rw [c]
                    exact (C _ _).mpr (Or.inr (Or.inr ⟨by omega, rfl, by show v - s.toNatClampNeg = _; omega⟩))
                  · rw [if_neg cc] at c
                    cases c
                · obtain ⟨c1, c2⟩ := List.mem_filter.mp c
                  exact (C _ _).mpr (Or.inl ⟨xr1 z c1, by simpa using c2⟩)
              · have nf : ((List.filter (fun x => x.1 != y.toInt.toNat) (zz_sg lp lw 0 n.toNat)).map Prod.fst).Nodup := List.Sublist.nodup (List.Sublist.map _ List.filter_sublist) xr2
                by_cases cc : s.toNatClampNeg < v
                · rw [if_pos cc, List.singleton_append, List.map_cons, List.nodup_cons]
                  refine ⟨fun c => ?_, nf⟩
                  obtain ⟨z, z1, z2⟩ := List.mem_map.mp c
                  have rz := xr1 z (List.mem_filter.mp z1).1
                  have z2 : z.1 = y.toInt.toNat + s.toNatClampNeg := z2
                  have := zz_rn_sep rz ⟨q1, q2, q3, q4, q5⟩ (by omega)
                  omega
                · rw [if_neg cc, List.nil_append]
                  exact nf
              · rcases (C p u).mp hp with ⟨c1, c2⟩ | ⟨c1, _⟩ | ⟨c1, c2, c3⟩
                · exact List.mem_append.mpr (Or.inr (List.mem_filter.mpr ⟨xr3 p u c1, by simpa using c2⟩))
                · omega
                · refine List.mem_append.mpr (Or.inl ?_)
                  rw [if_pos (by omega), List.mem_singleton, c2, c3]
                  exact Prod.ext rfl (by show _ = v - s.toNatClampNeg; omega)
            refine ⟨⟨RB', hv, hn0, hn1, fun z hz => ?_, R2, XR'⟩, by omega, by omega, by omega, by omega, Or.inl ⟨a1, b1, by omega⟩⟩
            rw [hwr z]
            by_cases cz : y.toInt ≤ (z : Int) ∧ (z : Int) < y.toInt + s.toInt
            · rw [if_pos cz]; omega
            · rw [if_neg cz]; exact x1 z hz
theorem zz_S7_back {e : String} {p1 : Int32} {w B g n r B' n' th r' bl bl' : Int} {nc pc sc ac lp lw nc' pc' sc' ac' lp' lw' o nu pl sp as li lm o' nu' li' lm' : Nat → Int32} (h : zz_S7 w B g nc pc sc ac lp lw n o nu pl sp as li lm) (hc : zz_BK e p1 B nc pc sc ac lp lw n r B' nc' pc' sc' ac' lp' lw' n') (hr : zz_BR th p1 w bl o nu pl sp li lm r' bl' o' nu' li' lm') (hv : zz_vs w lp' lw' n') (hn0 : 0 ≤ n') (hn1 : n' ≤ 201) (hbl : bl = B) (hg1 : g ≤ 100000) (hw0 : 0 ≤ w) (hw1 : w ≤ 1024) : zz_S7 w B' g nc' pc' sc' ac' lp' lw' n' o' nu' pl sp as li' lm' ∧ bl' = B' ∧ ((e = "" ∧ th = 0 ∧ r = r') ∨ (e = "java/util/NoSuchElementException" ∧ th = 2)) := by
  have no := zz_RB_no (v := p1) h.1 hg1
  rcases hc with ⟨a1, a2, a3, a4, a5, a6, a7, a8, a9, a10⟩ | ⟨a1, i, a2, a3, a4, a5, a6, a7, a8, a9, a10⟩
  · rcases hr with ⟨b1, b2, b3, b4, b5, b6, b7⟩ | ⟨b1, b2, b, b3, b4, b5, _⟩
    · subst a4; subst a5; subst a6; subst a7; subst a8; subst a9; subst b4; subst b5; subst b6; subst b7
      rw [a3, a10]
      exact ⟨h, by omega, Or.inr ⟨a1, b1⟩⟩
    · exfalso
      rcases no.mp a2 with c | c
      · omega
      · exact c b (by omega) ⟨b4, b5⟩
  · rcases hr with ⟨b1, b2, _⟩ | ⟨b1, b2, b, b3, b4, b5, b6, b7, b8, b9, b10⟩
    · exact absurd a3 (no.mpr b2 i a2)
    · obtain ⟨hRB, v1, v2, v3, x1, r7, xr1, xr2, xr3⟩ := h
      have hi := hRB.2.1 i a2
      rw [a3] at hi
      have hnb : (nu b).toInt = (nc i).toInt + 1 := by rw [b4, zz_p1 p1 (by omega), a3]
      obtain ⟨RB', ep, es⟩ := zz_RB_back hRB a2 b3 b5 hnb b8 (by decide) a6 a7 a8 a9
      obtain ⟨p0, p1', p2, p3⟩ := hRB.2.2.2.1.2 b b3 b5
      subst b9
      rw [ep, es] at a10
      have XJ : zz_XJ w o' (pl b).toInt (sp b).toInt (zz_sg lp lw 0 n.toNat) := ⟨o, fun x hx => by rw [b8 x, if_neg (by omega)], fun x h1 h2 => by rw [p3 x h1 h2]; omega, xr1, xr2, xr3⟩
      have R2 := b10 _ r7 XJ
      have R2 : zz_R7 li' lm' (zz_sg lp' lw' 0 n'.toNat) := by rw [a10]; exact R2
      have of1 : ∀ x : Nat, (pl b).toInt ≤ (x : Int) → (x : Int) < (pl b).toInt + (sp b).toInt → (o' x).toInt = -1 := fun x h1 h2 => by rw [b8 x, if_pos ⟨h1, h2⟩]; decide
      obtain ⟨F, V, hF, F1, F2⟩ := zz_run_ex (h := o') (W := w.toNat) (x := (pl b).toInt.toNat) (of1 _ (by omega) (by omega)) (by omega)
      have F3 : (pl b).toInt + (sp b).toInt ≤ (F : Int) + (V : Int) := by
        refine Int.not_lt.mp fun z => ?_
        rcases hF.2.2.2.2 with c | c
        · omega
        · exact c (of1 (F + V) (by omega) (by omega))
      have eV : V = ((pl b).toInt - (F : Int) + (sp b).toInt + ((F : Int) + (V : Int) - (pl b).toInt - (sp b).toInt)).toNat := by omega
      obtain ⟨k1, k2, k3, k4, nd⟩ := zz_XJ_cut (F := (F : Int)) (r := (F : Int) + (V : Int) - (pl b).toInt - (sp b).toInt) XJ (by rw [← eV]; exact hF) (by omega) (by omega) p1' (by omega)
      have C := zz_rn_cut (o0 := o) (p := (pl b).toInt.toNat) (n := (sp b).toInt.toNat) hF (by omega) (by omega) (by omega) (fun y hy => by rw [b8 y, if_neg (by omega)]) (fun y h1 h2 => by rw [p3 y (by omega) (by omega)]; omega)
      have XR' : zz_XR o' w.toNat (zz_sg lp' lw' 0 n'.toNat) := by
        have f1 : ∃ X1, zz_frm (F < (pl b).toInt.toNat) F (zz_sg lp lw 0 n.toNat) X1 := by
          by_cases c : F < (pl b).toInt.toNat
          · exact ⟨_, Or.inl ⟨c, rfl⟩⟩
          · exact ⟨_, Or.inr ⟨c, rfl⟩⟩
        obtain ⟨X1, f1⟩ := f1
        have f2 : ∃ X2, zz_frm (0 < F + V - (pl b).toInt.toNat - (sp b).toInt.toNat) ((pl b).toInt.toNat + (sp b).toInt.toNat) X1 X2 := by
          by_cases c : 0 < F + V - (pl b).toInt.toNat - (sp b).toInt.toNat
          · exact ⟨_, Or.inl ⟨c, rfl⟩⟩
          · exact ⟨_, Or.inr ⟨c, rfl⟩⟩
        obtain ⟨X2, f2⟩ := f2
        rw [show ((pl b).toInt - (F : Int)).toNat = (pl b).toInt.toNat - F by omega, show (F : Int).toNat = F by omega] at k1 k2
        rw [show ((F : Int) + (V : Int) - (pl b).toInt - (sp b).toInt).toNat = F + V - (pl b).toInt.toNat - (sp b).toInt.toNat by omega] at k3 k4
        have T := zz_btb_frm (F := F) (r := F + V - (pl b).toInt.toNat - (sp b).toInt.toNat) (fun x hx e => by obtain ⟨d1, d2⟩ := k1 x hx e; exact ⟨by omega, d2⟩) (fun z => k2 (by omega)) (fun x hx e => by obtain ⟨d1, d2⟩ := k3 x hx e; exact ⟨by omega, d2⟩) (fun z => k4 (by omega)) nd (by omega) (by omega) f1 f2
        rw [show (pl b).toInt.toNat - F + (sp b).toInt.toNat + (F + V - (pl b).toInt.toNat - (sp b).toInt.toNat) = V by omega] at T
        unfold zz_ctb at a10
        rw [a10, T]
        have mem : ∀ y : Nat × Nat, y ∈ X2 ↔ (y ∈ zz_sg lp lw 0 n.toNat ∧ (F < (pl b).toInt.toNat → y.1 ≠ F)) ∧ (0 < F + V - (pl b).toInt.toNat - (sp b).toInt.toNat → y.1 ≠ (pl b).toInt.toNat + (sp b).toInt.toNat) := fun y => by rw [zz_frm_mem f2, zz_frm_mem f1]
        refine ⟨fun y hy => ?_, ?_, fun q u hq => ?_⟩
        · rcases List.mem_cons.mp hy with c | c
          · rw [c]; exact hF
          · obtain ⟨⟨d1, d2⟩, d3⟩ := (mem y).mp c
            rcases (C y.1 y.2).mp (xr1 y d1) with ⟨g1, g2⟩ | ⟨g1, g2, g3⟩ | ⟨g1, g2, g3⟩
            · exact g1
            · exact absurd g2 (d2 g1)
            · exact absurd g2 (d3 (by omega))
        · rw [List.map_cons, List.nodup_cons]
          refine ⟨fun c => ?_, zz_frm_nd f2 (zz_frm_nd f1 nd)⟩
          obtain ⟨y, y1, y2⟩ := List.mem_map.mp c
          have y2 : y.1 = F := y2
          obtain ⟨⟨d1, d2⟩, d3⟩ := (mem y).mp y1
          by_cases cF : F < (pl b).toInt.toNat
          · exact d2 cF y2
          · have ry := xr1 y d1
            have r1 := ry.1
            have z1 := ry.2.2.1 y.1 (Nat.le_refl _) (by omega)
            have z2 := p3 y.1 (by omega) (by omega)
            omega
        · by_cases cq : q = F
          · subst cq
            rw [zz_rn_uq hF hq]
            exact List.mem_cons_self
          · refine List.mem_cons_of_mem _ ((mem _).mpr ⟨⟨xr3 q u ((C q u).mpr (Or.inl ⟨hq, cq⟩)), fun _ => cq⟩, fun cr z => ?_⟩)
            have z : q = (pl b).toInt.toNat + (sp b).toInt.toNat := z
            have := zz_rn_sep hq hF (by omega)
            omega
      rw [a5]
      refine ⟨⟨RB', hv, hn0, hn1, fun x hx => ?_, R2, XR'⟩, by omega, Or.inl ⟨a1, b1, by omega⟩⟩
      rw [b8 x]
      by_cases c : (pl b).toInt ≤ (x : Int) ∧ (x : Int) < (pl b).toInt + (sp b).toInt
      · rw [if_pos c]; decide
      · rw [if_neg c]; exact x1 x hx
theorem zz_S7_open {w n : Int} {nc pc sc ac lp lw o nu pl sp as li lm : Nat → Int32} (hb : zz_bgn w lp lw n) (ho : zz_op o 1024) (hl : zz_R7 li lm [(0, w.toNat)]) (hw0 : 16 ≤ w) (hw1 : w ≤ 1024) : zz_S7 w 0 0 nc pc sc ac lp lw n o nu pl sp as li lm := by
  obtain ⟨b1, b2, b3⟩ := hb
  have no : ∀ b : Nat, ¬ zz_us w o nu pl b := fun b h => by
    have h2 := h.2.1
    have h3 := h.2.2
    have := zz_tn (pl b)
    rw [ho (pl b).toNatClampNeg (by omega)] at h3
    omega
  have eX : zz_sg lp lw 0 n.toNat = [(0, w.toNat)] := by
    rw [b1]
    show [((lp (0 + 0)).toNatClampNeg, (lw (0 + 0)).toNatClampNeg)] = _
    rw [Nat.add_zero, zz_tn, zz_tn, b2, b3]
    rfl
  have rn : zz_rn o w.toNat 0 w.toNat := ⟨by omega, by omega, fun x _ h2 => ho x (by omega), Or.inl rfl, Or.inl (by omega)⟩
  refine ⟨⟨fun i j hi => by omega, fun i hi => by omega, fun i hi => by omega, ⟨fun x hx hp => ?_, fun b hb hu => absurd hu (no b)⟩, fun b b' _ _ hu => absurd hu (no b), fun v p s a => ⟨?_, ?_⟩⟩, fun i hi => ?_, by omega, by omega, fun x hx => ?_, by rw [eX]; exact hl, ?_⟩
  · rw [ho x (by omega)] at hp
    omega
  · rintro ⟨i, hi, _⟩
    omega
  · rintro ⟨b, _, hu, _⟩
    exact absurd hu (no b)
  · have e : i = 0 := by omega
    rw [e, b2, b3]
    omega
  · rw [ho x (by omega)]
    decide
  · rw [eX]
    refine ⟨fun x hx => ?_, ?_, fun p v hp => ?_⟩
    · rw [List.mem_singleton] at hx
      rw [hx]
      exact rn
    · exact List.nodup_cons.mpr ⟨fun c => (by cases c), List.nodup_nil⟩
    · have e : p = 0 := by
        rcases hp.2.2.2.1 with c | c
        · exact c
        · have h1 := hp.1
          have h2 := hp.2.1
          exact absurd (ho (p - 1) (by omega)) c
      subst e
      rw [zz_rn_uq rn hp]
      exact List.mem_singleton.mpr rfl
theorem zz_S7_list {e : String} {p1 p2 : Int32} {w B g n r th r' : Int} {nc pc sc ac lp lw o nu pl sp as li lm : Nat → Int32} (h : zz_S7 w B g nc pc sc ac lp lw n o nu pl sp as li lm) (hc : zz_ls e p1.toInt p2.toInt (zz_sg lp lw 0 n.toNat) r) (hr : zz_LR th p1 p2 7 li lm r') (hL : zz_L7 w o li lm) (hw1 : w ≤ 1024) (hm : ∀ j, j < 44 → 0 ≤ (lm j).toInt) : (e = "" ∧ th = 0 ∧ r = r') ∨ (e = "java/lang/IllegalArgumentException" ∧ th = 1) ∨ (e = "java/lang/IndexOutOfBoundsException" ∧ th = 4) := by
  obtain ⟨hRB, v1, v2, v3, x1, r7, xr⟩ := h
  rcases hr with ⟨b1, b2⟩ | ⟨b1, b2, b3⟩
  · rcases hc with ⟨a1, a2⟩ | ⟨a1, a2, _⟩
    · exact Or.inr (Or.inl ⟨a1, b1⟩)
    · omega
  · rcases hc with ⟨a1, a2⟩ | ⟨a1, a2, a3⟩
    · omega
    · have el : p1.toNatClampNeg = p1.toInt.toNat := rfl
      have e1 := zz_tnI p1 b1
      have L := zz_R7_len (l := p1.toInt.toNat) r7 (by omega)
      have mm := hm p1.toInt.toNat (by omega)
      have el2 := zz_tn (lm p1.toInt.toNat)
      rcases b3 with ⟨_, b3⟩ | ⟨_, ⟨_, b3⟩ | ⟨_, b3⟩⟩
      · omega
      · exact absurd rfl b3
      · rw [el] at b3
        rcases b3 with ⟨b3, b4⟩ | ⟨b3, b4, b5, i, b6, b7⟩
        · have nn : p2.toInt < 0 ∨ ((zz_sg lp lw 0 n.toNat).filter (fun x => zz_lo x.2 == p1.toInt.toNat))[p2.toInt.toNat]? = none := by
            rcases b4 with c | c
            · exact Or.inl c
            · exact Or.inr (List.getElem?_eq_none (by rw [L]; omega))
          rcases a3 with ⟨a3, a4⟩ | ⟨a3, a4, a5⟩
          · exact Or.inr (Or.inr ⟨a3, b3⟩)
          · exfalso
            rcases a4 with ⟨c1, x, c2, c3⟩ | ⟨_, c2⟩
            · rcases nn with d | d
              · omega
              · rw [d] at c2
                cases c2
            · exact a5 c2
        · obtain ⟨v, g1, g2, g3, g4⟩ := zz_R7_ent (k := p2.toInt) (i := i) r7 xr (show p1.toInt.toNat < 44 by omega) (by omega) b4 b5
          have gi : 0 ≤ (li i).toInt := (zz_L7_rg (l := p1.toInt.toNat) (k := p2.toInt) hL (by omega) (by omega) b4 b5 hw1).1
          have ei : ((li i).toNatClampNeg : Int) = (li i).toInt := zz_tnI _ gi
          rcases a3 with ⟨a3, a4⟩ | ⟨a3, a4, a5⟩
          · exfalso
            rcases a4 with ⟨c1, x, c2, c3⟩ | ⟨c1, c2⟩
            · omega
            · rcases c1 with c1 | c1
              · omega
              · rw [g1] at c1
                cases c1
          · rcases a4 with ⟨c1, x, c2, c3⟩ | ⟨_, c2⟩
            · rw [g1] at c2
              have e2 := Option.some.inj c2
              rw [← e2] at c3
              have c3 : r = ((li i).toNatClampNeg : Int) := c3
              exact Or.inl ⟨a3, b3, by omega⟩
            · exact absurd c2 a5

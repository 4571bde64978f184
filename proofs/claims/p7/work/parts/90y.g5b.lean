/-! form 5: what a give and a back leave -/
theorem zz_p32 {s : Int} (hs : zz_p2 s) (h : s ≤ 32) : s = 1 ∨ s = 2 ∨ s = 4 ∨ s = 8 ∨ s = 16 ∨ s = 32 := by unfold zz_p2 at hs; omega
/-- words of page p outside of a place j, s keep their owners: its count and its places -/
theorem zz_pg5 {o o' : Nat → Int32} {p j : Nat} {s x : Int} {v : Int32} (hs : zz_p2 s) (hs2 : s ≤ 32) (hj : j < 32) (hm : (j : Int) % s = 0) (hx : x = 32 * (p : Int) + (j : Int)) (hw : zz_wr o o' x (x + s) v) (hl : zz_sl5 o p s) : zz_sl5 o' p s ∧ ((∀ i : Nat, i < 32 → i ≠ j → (i : Int) % s = 0 → ((o' (32 * p + i)).toInt = -1 ↔ (o (32 * p + i)).toInt = -1))) := by
  have e : ∀ i : Nat, o' (32 * p + i) = if (j : Int) ≤ (i : Int) ∧ (i : Int) < (j : Int) + s then v else o (32 * p + i) := fun i => by
    rw [hw (32 * p + i)]
    by_cases c : (j : Int) ≤ (i : Int) ∧ (i : Int) < (j : Int) + s
    · rw [if_pos c, if_pos (by omega)]
    · rw [if_neg c, if_neg (by omega)]
  constructor
  · intro i hi
    rw [e i, e (i - i % s.toNat)]
    by_cases c : (j : Int) ≤ (i : Int) ∧ (i : Int) < (j : Int) + s
    · rw [if_pos c, if_pos (by rcases zz_p32 hs hs2 with d | d | d | d | d | d <;> subst d <;> simp at hm ⊢ <;> omega)]
    · rw [if_neg c, if_neg (by rcases zz_p32 hs hs2 with d | d | d | d | d | d <;> subst d <;> simp at hm ⊢ <;> omega)]
      exact hl i hi
  · intro i hi hne him
    rw [e i, if_neg (by rcases zz_p32 hs hs2 with d | d | d | d | d | d <;> subst d <;> omega)]
/-- a page that a change doesn't touch -/
theorem zz_pg5n {o o' : Nat → Int32} {p : Nat} {a z : Int} {v : Int32} {s : Int} (hw : zz_wr o o' a z v) (hn : z ≤ 32 * (p : Int) ∨ 32 * (p : Int) + 32 ≤ a) : (∀ i : Nat, i < 32 → o' (32 * p + i) = o (32 * p + i)) ∧ zz_c5 o' p s = zz_c5 o p s := by
  have e : ∀ i : Nat, i < 32 → o' (32 * p + i) = o (32 * p + i) := fun i hi => by rw [hw (32 * p + i), if_neg (by omega)]
  exact ⟨e, zz_c5_cg (fun i hi _ => by rw [e i hi])⟩
theorem zz_sl5n {o o' : Nat → Int32} {p : Nat} {s : Int} (h : zz_sl5 o p s) (he : ∀ i : Nat, i < 32 → o' (32 * p + i) = o (32 * p + i)) : zz_sl5 o' p s := fun i hi => by
  have : i - i % s.toNat < 32 := by omega
  rw [he i hi, he _ this]
  exact h i hi
/-- in a page of the class -/
theorem zz_F5_in {w pg : Int} {S K K' G o nu pl sp as o' nu' pl' sp' as' : Nat → Int32} {Gn x s a : Int32} {p j : Nat} (h : zz_F5 w pg S K G o nu pl sp) (hg : zz_gv w o nu pl sp as o' nu' pl' sp' as' Gn x s a) (hp : (p : Int) < pg) (hS : (S p).toInt = s.toInt) (hs2 : s.toInt ≤ 32) (hs1 : 1 ≤ s.toInt) (hj : j < 32) (hm : (j : Int) % s.toInt = 0) (hx : x.toInt = 32 * (p : Int) + (j : Int)) (hf : (o x.toNatClampNeg).toInt = -1) (hK1 : (K' p).toInt = (K p).toInt + 1) (hK2 : ∀ q : Nat, q ≠ p → K' q = K q) : zz_F5 w pg S K' G o' nu' pl' sp' := by
  have us := zz_us_gv hg hs1 (by omega)
  obtain ⟨b, b0, b1, bu, e1, e2, e3, e4, hwr⟩ := hg
  have ex := zz_tnI x (by omega)
  rcases h.2.1 p hp with ⟨a1, _⟩ | ⟨a1, a2, a3, a4, a5⟩ | ⟨a1, _⟩
  · omega
  · rw [hS] at a1 a2 a3 a4 a5
    obtain ⟨k1, k2⟩ := zz_pg5 a1 hs2 hj hm hx hwr a5
    have ef : x.toNatClampNeg = 32 * p + j := by omega
    rw [ef] at hf
    have cm := zz_c5_more (o := o) (o' := o') (p := p) (j0 := j) hj hm hf (by rw [hwr (32 * p + j), if_pos (by omega)]; omega) k2
    refine ⟨h.1, fun q hq => ?_, fun i hi hu => ?_⟩
    · by_cases c : q = p
      · subst c
        refine Or.inr (Or.inl ⟨by rw [hS]; exact a1, by rw [hS]; exact hs2, by rw [hS]; exact a3, ?_, by rw [hS]; exact k1⟩)
        rw [hK1, hS, cm]
        omega
      · have s1 : s.toInt ≤ 32 := hs2
        have js : (j : Int) + s.toInt ≤ 32 := by rcases zz_p32 a1 hs2 with d | d | d | d | d | d <;> rw [d] at hm ⊢ <;> omega
        obtain ⟨n1, n2⟩ := zz_pg5n (p := q) (s := (S q).toInt) hwr (by omega)
        rcases h.2.1 q hq with ⟨d1, d2, d3⟩ | ⟨d1, d2, d3, d4, d5⟩ | ⟨d1, d2, d3⟩
        · exact Or.inl ⟨d1, d2, fun i hi => by rw [n1 i hi]; exact d3 i hi⟩
        · exact Or.inr (Or.inl ⟨d1, d2, d3, by rw [hK2 q c, n2]; exact d4, zz_sl5n d5 n1⟩)
        · exact Or.inr (Or.inr ⟨d1, d2, by rw [hK2 q c]; exact d3⟩)
    · rcases us i hi hu with ⟨c1, c2⟩ | ⟨c1, c2, c3⟩
      · left
        rw [c1, c2]
        refine ⟨a1, hs2, ?_, by omega, by rw [show (x.toInt / 32).toNat = p by omega]; exact hS⟩
        rcases zz_p32 a1 hs2 with d | d | d | d | d | d <;> rw [d] at hm ⊢ <;> omega
      · rw [c2, c3]; exact h.2.2 i hi c1
  · omega
/-- in a new page -/
theorem zz_F5_new {w pg : Int} {S K G S' K' G' o nu pl sp as o' nu' pl' sp' as' : Nat → Int32} {Gn x s a : Int32} {p : Nat} (h : zz_F5 w pg S K G o nu pl sp) (hO : zz_OW w o nu pl sp) (hg : zz_gv w o nu pl sp as o' nu' pl' sp' as' Gn x s a) (hp : (p : Int) < pg) (hS : (S p).toInt = 0) (hs : zz_p2 s.toInt) (hs2 : s.toInt ≤ 32) (hx : x.toInt = 32 * (p : Int)) (hS1 : (S' p).toInt = s.toInt) (hS2 : ∀ q : Nat, q ≠ p → S' q = S q) (hK1 : (K' p).toInt = 1) (hK2 : ∀ q : Nat, q ≠ p → K' q = K q) (hG1 : (G' p).toInt = s.toInt) (hG2 : ∀ q : Nat, q ≠ p → G' q = G q) : zz_F5 w pg S' K' G' o' nu' pl' sp' := by
  have s1 := zz_p2_pos hs
  have us := zz_us_gv hg s1.1 (by omega)
  obtain ⟨b, b0, b1, bu, e1, e2, e3, e4, hwr⟩ := hg
  rcases h.2.1 p hp with ⟨a1, a2, a3⟩ | ⟨a1, _⟩ | ⟨a1, _⟩
  · have sl : zz_sl5 o p s.toInt := fun i hi => by
      have : i - i % s.toInt.toNat < 32 := by omega
      rw [a3 i hi, a3 _ this]
    obtain ⟨k1, k2⟩ := zz_pg5 (j := 0) hs hs2 (by omega) (by simp) (by omega) hwr sl
    have z0 : zz_c5 o p s.toInt = 0 := zz_c5_0.mpr (fun j hj _ => a3 j hj)
    have cm := zz_c5_more (o := o) (o' := o') (p := p) (j0 := 0) (s := s.toInt) (by omega) (by simp) (a3 0 (by omega)) (by rw [hwr (32 * p + 0), if_pos (by omega)]; omega) k2
    refine ⟨h.1, fun q hq => ?_, fun i hi hu => ?_⟩
    · by_cases c : q = p
      · subst c
        exact Or.inr (Or.inl ⟨by rw [hS1]; exact hs, by rw [hS1]; exact hs2, by rw [hG1, hS1], by rw [hK1, hS1, cm, z0]; rfl, by rw [hS1]; exact k1⟩)
      · obtain ⟨n1, n2⟩ := zz_pg5n (p := q) (s := (S q).toInt) hwr (by omega)
        rw [hS2 q c, hG2 q c, hK2 q c]
        rcases h.2.1 q hq with ⟨d1, d2, d3⟩ | ⟨d1, d2, d3, d4, d5⟩ | ⟨d1, d2, d3⟩
        · exact Or.inl ⟨d1, d2, fun i hi => by rw [n1 i hi]; exact d3 i hi⟩
        · exact Or.inr (Or.inl ⟨d1, d2, d3, by rw [n2]; exact d4, zz_sl5n d5 n1⟩)
        · exact Or.inr (Or.inr ⟨d1, d2, d3⟩)
    · rcases us i hi hu with ⟨c1, c2⟩ | ⟨c1, c2, c3⟩
      · left
        rw [c1, c2]
        refine ⟨hs, hs2, ?_, by omega, by rw [show (x.toInt / 32).toNat = p by omega]; exact hS1⟩
        rcases zz_p32 hs hs2 with d | d | d | d | d | d <;> rw [d] <;> omega
      · rw [c2, c3]
        have rg := hO.2 i hi c1
        rcases h.2.2 i hi c1 with ⟨d1, d2, d3, d4, d5⟩ | ⟨d1, d2, d3, d4, d5⟩
        · have := zz_p2_pos d1
          refine Or.inl ⟨d1, d2, d3, d4, ?_⟩
          rw [hS2 _ (fun e => by rw [e] at d5; omega)]
          exact d5
        · refine Or.inr ⟨d1, d2, d3, d4, fun q q1 q2 => ?_⟩
          have := d5 q q1 q2
          rw [hS2 q (fun e => by rw [e] at this; omega)]
          exact this
  · have := zz_p2_pos a1
    omega
  · omega
/-- a row of pages -/
theorem zz_F5_row {w pg : Int} {S K G S' K' G' o nu pl sp as o' nu' pl' sp' as' : Nat → Int32} {Gn x s a vS vK vG : Int32} {q n : Int} (h : zz_F5 w pg S K G o nu pl sp) (hO : zz_OW w o nu pl sp) (hg : zz_gv w o nu pl sp as o' nu' pl' sp' as' Gn x s a) (hq : 0 ≤ q) (hn : q + n ≤ pg) (hz : zz_z5 S q (q + n)) (hs : 32 < s.toInt) (hsn : s.toInt = 32 * n) (hx : x.toInt = 32 * q) (hS : zz_wr S S' q (q + n) vS) (hvS : vS.toInt = s.toInt) (hK : zz_wr K K' q (q + n) vK) (hvK : vK.toInt = 1) (hG : zz_wr G G' q (q + n) vG) (hvG : vG.toInt = 64) : zz_F5 w pg S' K' G' o' nu' pl' sp' := by
  have us := zz_us_gv hg (by omega) (by omega)
  obtain ⟨b, b0, b1, bu, e1, e2, e3, e4, hwr⟩ := hg
  refine ⟨h.1, fun p hp => ?_, fun i hi hu => ?_⟩
  · rw [hS p, hK p, hG p]
    by_cases c : q ≤ (p : Int) ∧ (p : Int) < q + n
    · rw [if_pos c, if_pos c, if_pos c]
      exact Or.inr (Or.inr ⟨by omega, hvG, hvK⟩)
    · rw [if_neg c, if_neg c, if_neg c]
      obtain ⟨n1, n2⟩ := zz_pg5n (p := p) (s := (S p).toInt) hwr (by omega)
      rcases h.2.1 p hp with ⟨d1, d2, d3⟩ | ⟨d1, d2, d3, d4, d5⟩ | ⟨d1, d2, d3⟩
      · exact Or.inl ⟨d1, d2, fun i hi => by rw [n1 i hi]; exact d3 i hi⟩
      · exact Or.inr (Or.inl ⟨d1, d2, d3, by rw [n2]; exact d4, zz_sl5n d5 n1⟩)
      · exact Or.inr (Or.inr ⟨d1, d2, d3⟩)
  · have key : ∀ p : Nat, (S p).toInt ≠ 0 → S' p = S p := fun p h0 => by
      rw [hS p]
      by_cases c : q ≤ (p : Int) ∧ (p : Int) < q + n
      · exact absurd (hz p c.1 c.2) h0
      · rw [if_neg c]
    rcases us i hi hu with ⟨c1, c2⟩ | ⟨c1, c2, c3⟩
    · right
      rw [c1, c2]
      refine ⟨hs, by omega, by omega, by omega, fun p h1 h2 => ?_⟩
      rw [hS p, if_pos (by omega)]
      exact hvS
    · rw [c2, c3]
      rcases h.2.2 i hi c1 with ⟨d1, d2, d3, d4, d5⟩ | ⟨d1, d2, d3, d4, d5⟩
      · have := zz_p2_pos d1
        exact Or.inl ⟨d1, d2, d3, d4, by rw [key _ (by omega)]; exact d5⟩
      · exact Or.inr ⟨d1, d2, d3, d4, fun p h1 h2 => by have := d5 p h1 h2; rw [key p (by omega)]; exact this⟩
/-- a small block goes; e: its page becomes free -/
theorem zz_F5_bk1 {w pg : Int} {S K G S' K' G' o nu pl sp o' : Nat → Int32} {b p : Nat} {q : Int32} (h : zz_F5 w pg S K G o nu pl sp) (hO : zz_OW w o nu pl sp) (hb : b < 200) (ub : zz_us w o nu pl b) (hwr : zz_wr o o' (pl b).toInt ((pl b).toInt + (sp b).toInt) q) (hq : q.toInt = -1) (hs : (sp b).toInt ≤ 32) (hp : (p : Int) = (pl b).toInt / 32) (hc : ((K p).toInt - 1 ≤ 0 ∧ (S' p).toInt = 0) ∨ (0 < (K p).toInt - 1 ∧ S' p = S p ∧ (K' p).toInt = (K p).toInt - 1)) (hS2 : ∀ i : Nat, i ≠ p → S' i = S i) (hK2 : ∀ i : Nat, i ≠ p → K' i = K i) (hr : (zz_bk o' (32 * (p : Int)) (32 * (p : Int) + 32) ∧ (G' p).toInt = 0) ∨ (¬ zz_bk o' (32 * (p : Int)) (32 * (p : Int) + 32) ∧ G' p = G p)) (hG2 : ∀ i : Nat, i ≠ p → G' i = G i) : zz_F5 w pg S' K' G' o' (upd nu b 0) pl sp := by
  obtain ⟨p1, p2, p3, p4⟩ := hO.2 b hb ub
  have us := zz_us_bk hO hb ub hwr (by omega)
  rcases h.2.2 b hb ub with ⟨b1, b2, b3, b4, b5⟩ | ⟨b1, _⟩
  · rw [← hp, show ((p : Int)).toNat = p by omega] at b5
    rcases h.2.1 p (by omega) with ⟨a1, _⟩ | ⟨a1, a2, a3, a4, a5⟩ | ⟨a1, _⟩
    · have := zz_p2_pos b1
      omega
    · rw [b5] at a1 a2 a3 a4 a5
      have sp1 := zz_p2_pos a1
      have jm : ((((pl b).toInt - 32 * (p : Int)).toNat : Nat) : Int) % (sp b).toInt = 0 := by
        rw [show ((((pl b).toInt - 32 * (p : Int)).toNat : Nat) : Int) = (pl b).toInt - 32 * (p : Int) by omega]
        rcases zz_p32 b1 b2 with d | d | d | d | d | d <;> rw [d] at b3 ⊢ <;> omega
      obtain ⟨k1, k2⟩ := zz_pg5 (j := ((pl b).toInt - 32 * (p : Int)).toNat) b1 b2 (by omega) jm (by omega) hwr a5
      have cm := zz_c5_more (o := o') (o' := o) (p := p) (j0 := ((pl b).toInt - 32 * (p : Int)).toNat) (s := (sp b).toInt) (by omega) jm (by rw [hwr _, if_pos (by omega)]; exact hq) (by rw [p4 _ (by omega) (by omega)]; omega) (fun i h1 h2 h3 => (k2 i h1 h2 h3).symm)
      have full : (zz_c5 o' p (sp b).toInt = 0) ↔ zz_bk o' (32 * (p : Int)) (32 * (p : Int) + 32) := by
        rw [zz_c5_0]
        constructor
        · intro z x h1 h2
          have e := k1 (x - 32 * p) (by omega)
          rw [show 32 * p + (x - 32 * p) = x by omega] at e
          refine e.mpr (z _ (by omega) ?_)
          rcases zz_p32 b1 b2 with d | d | d | d | d | d <;> rw [d] <;> simp <;> omega
        · intro z j hj _
          exact z (32 * p + j) (by omega) (by omega)
      have oth : ∀ i : Nat, (i : Int) < pg → i ≠ p → (∀ j : Nat, j < 32 → o' (32 * i + j) = o (32 * i + j)) ∧ zz_c5 o' i (S i).toInt = zz_c5 o i (S i).toInt := fun i hi hne => zz_pg5n hwr (by
        have : (pl b).toInt - 32 * (p : Int) + (sp b).toInt ≤ 32 := by rcases zz_p32 b1 b2 with d | d | d | d | d | d <;> rw [d] at b3 ⊢ <;> omega
        omega)
      have keep : ∀ j : Nat, j < 200 → zz_us w o' (upd nu b 0) pl j → (S' ((pl j).toInt / 32).toNat = S ((pl j).toInt / 32).toNat) ∧ (32 < (sp j).toInt → ∀ i : Nat, (pl j).toInt / 32 ≤ (i : Int) → (i : Int) < ((pl j).toInt + (sp j).toInt) / 32 → S' i = S i) := fun j hj hu => by
        obtain ⟨jb, uj⟩ := us j hu
        obtain ⟨q1, q2, q3, q4⟩ := hO.2 j hj uj
        constructor
        · by_cases c : ((pl j).toInt / 32).toNat = p
          · rw [c]
            rcases hc with ⟨c1, c2⟩ | ⟨c1, c2, _⟩
            · exfalso
              have z : zz_c5 o' p (sp b).toInt = 0 := by omega
              have bk := full.mp z
              have e1 := hu.2.2
              rw [bk _ (by rw [zz_tn]; omega) (by rw [zz_tn]; omega)] at e1
              omega
            · exact c2
          · exact hS2 _ c
        · intro big i h1 h2
          rcases h.2.2 j hj uj with ⟨_, d2, _⟩ | ⟨d1, d2, d3, d4, d5⟩
          · omega
          · have := d5 i h1 h2
            exact hS2 i (fun e => by rw [e] at this; omega)
      refine ⟨h.1, fun i hi => ?_, fun j hj hu => ?_⟩
      · by_cases c : i = p
        · subst c
          rcases hc with ⟨c1, c2⟩ | ⟨c1, c2, c3⟩
          · have bk := full.mp (by omega)
            rcases hr with ⟨r1, r2⟩ | ⟨r1, r2⟩
            · exact Or.inl ⟨c2, r2, fun j hj => r1 (32 * i + j) (by omega) (by omega)⟩
            · exact absurd bk r1
          · rcases hr with ⟨r1, r2⟩ | ⟨r1, r2⟩
            · have := full.mpr r1
              omega
            · rw [c2, r2]
              exact Or.inr (Or.inl ⟨by rw [b5]; exact a1, by rw [b5]; exact a2, by rw [b5]; exact a3, by rw [c3, b5]; omega, by rw [b5]; exact k1⟩)
        · obtain ⟨n1, n2⟩ := oth i hi c
          rw [hS2 i c, hG2 i c, hK2 i c]
          rcases h.2.1 i hi with ⟨d1, d2, d3⟩ | ⟨d1, d2, d3, d4, d5⟩ | ⟨d1, d2, d3⟩
          · exact Or.inl ⟨d1, d2, fun j hj => by rw [n1 j hj]; exact d3 j hj⟩
          · exact Or.inr (Or.inl ⟨d1, d2, d3, by rw [n2]; exact d4, zz_sl5n d5 n1⟩)
          · exact Or.inr (Or.inr ⟨d1, d2, d3⟩)
      · obtain ⟨_, uj⟩ := us j hu
        obtain ⟨s1, s2⟩ := keep j hj hu
        rcases h.2.2 j hj uj with ⟨d1, d2, d3, d4, d5⟩ | ⟨d1, d2, d3, d4, d5⟩
        · exact Or.inl ⟨d1, d2, d3, d4, by rw [s1]; exact d5⟩
        · exact Or.inr ⟨d1, d2, d3, d4, fun i h1 h2 => by rw [s2 d1 i h1 h2]; exact d5 i h1 h2⟩
    · omega
  · omega
/-- a block of whole pages goes -/
theorem zz_F5_bk2 {w pg : Int} {S K G S' K' G' o nu pl sp o' : Nat → Int32} {b : Nat} {q vS vG : Int32} (h : zz_F5 w pg S K G o nu pl sp) (hO : zz_OW w o nu pl sp) (hb : b < 200) (ub : zz_us w o nu pl b) (hwr : zz_wr o o' (pl b).toInt ((pl b).toInt + (sp b).toInt) q) (hq : q.toInt = -1) (hs : 32 < (sp b).toInt) (hS : zz_wr S S' ((pl b).toInt / 32) (((pl b).toInt + (sp b).toInt) / 32) vS) (hvS : vS.toInt = 0) (hK2 : ∀ i : Nat, ¬ ((pl b).toInt / 32 ≤ (i : Int) ∧ (i : Int) < ((pl b).toInt + (sp b).toInt) / 32) → K' i = K i) (hG : zz_wr G G' ((pl b).toInt / 32) (((pl b).toInt + (sp b).toInt) / 32) vG) (hvG : vG.toInt = 0) : zz_F5 w pg S' K' G' o' (upd nu b 0) pl sp := by
  obtain ⟨p1, p2, p3, p4⟩ := hO.2 b hb ub
  have us := zz_us_bk hO hb ub hwr (by omega)
  rcases h.2.2 b hb ub with ⟨_, b2, _⟩ | ⟨b1, b2, b3, b4, b5⟩
  · omega
  · refine ⟨h.1, fun i hi => ?_, fun j hj hu => ?_⟩
    · rw [hS i, hG i]
      by_cases c : (pl b).toInt / 32 ≤ (i : Int) ∧ (i : Int) < ((pl b).toInt + (sp b).toInt) / 32
      · rw [if_pos c, if_pos c]
        exact Or.inl ⟨hvS, hvG, fun j hj => by rw [hwr (32 * i + j), if_pos (by omega)]; exact hq⟩
      · rw [if_neg c, if_neg c, hK2 i c]
        obtain ⟨n1, n2⟩ := zz_pg5n (p := i) (s := (S i).toInt) hwr (by omega)
        rcases h.2.1 i hi with ⟨d1, d2, d3⟩ | ⟨d1, d2, d3, d4, d5⟩ | ⟨d1, d2, d3⟩
        · exact Or.inl ⟨d1, d2, fun j hj => by rw [n1 j hj]; exact d3 j hj⟩
        · exact Or.inr (Or.inl ⟨d1, d2, d3, by rw [n2]; exact d4, zz_sl5n d5 n1⟩)
        · exact Or.inr (Or.inr ⟨d1, d2, d3⟩)
    · obtain ⟨jb, uj⟩ := us j hu
      obtain ⟨q1, q2, q3, q4⟩ := hO.2 j hj uj
      -- a page of the block that goes has no word of another block
      have apart : ∀ y : Nat, (pl j).toInt ≤ (y : Int) → (y : Int) < (pl j).toInt + (sp j).toInt → ¬ ((pl b).toInt ≤ (y : Int) ∧ (y : Int) < (pl b).toInt + (sp b).toInt) := fun y h1 h2 z => by
        have e1 := q4 y h1 h2
        have e2 := p4 y z.1 z.2
        omega
      rcases h.2.2 j hj uj with ⟨d1, d2, d3, d4, d5⟩ | ⟨d1, d2, d3, d4, d5⟩
      · refine Or.inl ⟨d1, d2, d3, d4, ?_⟩
        have := apart (pl j).toInt.toNat (by omega) (by omega)
        rw [hS _, if_neg (by omega)]
        exact d5
      · refine Or.inr ⟨d1, d2, d3, d4, fun i h1 h2 => ?_⟩
        have := apart (32 * i) (by omega) (by omega)
        rw [hS i, if_neg (by omega)]
        exact d5 i h1 h2

/-! the two tables of blocks -/
def zz_btc (B : Int) (nc pc sc ac : Nat → Int32) (v p s a : Int) : Prop := ∃ i : Nat, (i : Int) < B ∧ (nc i).toInt = v ∧ (pc i).toInt = p ∧ (sc i).toInt = s ∧ (ac i).toInt = a
def zz_br (w : Int) (o nu pl sp as : Nat → Int32) (v p s a : Int) : Prop := ∃ b : Nat, b < 200 ∧ zz_us w o nu pl b ∧ (nu b).toInt = v + 1 ∧ (pl b).toInt = p ∧ (sp b).toInt = s ∧ (as b).toInt = a
def zz_OW (w : Int) (o nu pl sp : Nat → Int32) : Prop := (∀ x : Nat, (x : Int) < w → 0 ≤ (o x).toInt → ∃ b : Nat, b < 200 ∧ (o x).toInt = (b : Int) ∧ zz_us w o nu pl b ∧ (pl b).toInt ≤ (x : Int) ∧ (x : Int) < (pl b).toInt + (sp b).toInt) ∧ ∀ b : Nat, b < 200 → zz_us w o nu pl b → 0 ≤ (pl b).toInt ∧ 1 ≤ (sp b).toInt ∧ (pl b).toInt + (sp b).toInt ≤ w ∧ ∀ x : Nat, (pl b).toInt ≤ (x : Int) → (x : Int) < (pl b).toInt + (sp b).toInt → (o x).toInt = (b : Int)
/-- class's table (B, nc, pc, sc, ac; g the next NUMBER) and reference's (o, nu, pl, sp, as) hold the same blocks -/
def zz_RB (w B g : Int) (nc pc sc ac o nu pl sp as : Nat → Int32) : Prop := (∀ i j : Nat, (i : Int) < B → (j : Int) < B → nc i = nc j → i = j) ∧ (∀ i : Nat, (i : Int) < B → 0 ≤ (nc i).toInt ∧ (nc i).toInt < g) ∧ zz_vs w pc sc B ∧ zz_OW w o nu pl sp ∧ (∀ b b' : Nat, b < 200 → b' < 200 → zz_us w o nu pl b → zz_us w o nu pl b' → nu b = nu b' → b = b') ∧ ∀ v p s a : Int, zz_btc B nc pc sc ac v p s a ↔ zz_br w o nu pl sp as v p s a
theorem zz_RB_give {w B g : Int} {nc pc sc ac o nu pl sp as o' nu' pl' sp' as' : Nat → Int32} {G x s a : Int32} (h : zz_RB w B g nc pc sc ac o nu pl sp as) (hg : zz_gv w o nu pl sp as o' nu' pl' sp' as' G x s a) (hG : G.toInt = g) (h0 : 0 ≤ g) (hg2 : g ≤ 100000) (hx : 0 ≤ x.toInt) (hs : 1 ≤ s.toInt) (hw : x.toInt + s.toInt ≤ w) (hB : 0 ≤ B) (hf : ∀ y : Nat, x.toInt ≤ (y : Int) → (y : Int) < x.toInt + s.toInt → (o y).toInt < 0) : zz_RB w (B + 1) (g + 1) (upd nc B.toNat G) (upd pc B.toNat x) (upd sc B.toNat s) (upd ac B.toNat a) o' nu' pl' sp' as' := by
  obtain ⟨c1, c2, c3, ⟨o1, o2⟩, n1, r1⟩ := h
  obtain ⟨b, b0, b1, bu, e1, e2, e3, e4, hwr⟩ := hg
  subst e1
  subst e2
  subst e3
  subst e4
  have eb := zz_tnI b b0
  have ex := zz_tnI x hx
  have oi : ∀ y : Nat, x.toInt ≤ (y : Int) → (y : Int) < x.toInt + s.toInt → o' y = b := fun y h1 h2 => by rw [hwr y, if_pos ⟨h1, h2⟩]
  have oo : ∀ y : Nat, ¬ (x.toInt ≤ (y : Int) ∧ (y : Int) < x.toInt + s.toInt) → o' y = o y := fun y h1 => by rw [hwr y, if_neg h1]
  have G1 : (G + ((1 : Int32))).toInt = g + 1 := by rw [zz_p1 G (by omega), hG]
  have ub : zz_us w o' (upd nu b.toNatClampNeg (G + ((1 : Int32)))) (upd pl b.toNatClampNeg x) b.toNatClampNeg := by
    refine ⟨by rw [zz_updE, if_pos rfl]; omega, by rw [zz_updE, if_pos rfl]; omega, ?_⟩
    rw [zz_updE, if_pos rfl, oi _ (by omega) (by omega)]
    omega
  have un : ∀ j : Nat, j ≠ b.toNatClampNeg → (zz_us w o' (upd nu b.toNatClampNeg (G + ((1 : Int32)))) (upd pl b.toNatClampNeg x) j ↔ zz_us w o nu pl j) := fun j hj => by
    unfold zz_us
    rw [zz_updE, zz_updE, if_neg hj, if_neg hj]
    by_cases c : x.toInt ≤ ((pl j).toNatClampNeg : Int) ∧ ((pl j).toNatClampNeg : Int) < x.toInt + s.toInt
    · have f := hf _ c.1 c.2
      rw [oi _ c.1 c.2]
      constructor
      · rintro ⟨_, _, z⟩
        exfalso
        omega
      · rintro ⟨_, _, z⟩
        exfalso
        omega
    · rw [oo _ c]
  have uB : ∀ (f : Nat → Int32) (v : Int32) (i : Nat), (i : Int) < B → upd f B.toNat v i = f i := fun f v i hi => by rw [zz_updE, if_neg (by omega)]
  have uN : ∀ (f : Nat → Int32) (v : Int32), upd f B.toNat v B.toNat = v := fun f v => by rw [zz_updE, if_pos rfl]
  have ue : ∀ (f : Nat → Int32) (v : Int32) (j : Nat), j ≠ b.toNatClampNeg → upd f b.toNatClampNeg v j = f j := fun f v j hj => by rw [zz_updE, if_neg hj]
  have uq : ∀ (f : Nat → Int32) (v : Int32), upd f b.toNatClampNeg v b.toNatClampNeg = v := fun f v => by rw [zz_updE, if_pos rfl]
  have le : ∀ i : Nat, (i : Int) < B + 1 → (i : Int) < B ∨ i = B.toNat := fun i hi => by omega
  refine ⟨fun i j hi hj e => ?_, fun i hi => ?_, zz_vs_add c3 (by omega) rfl hx hs hw, ⟨fun y hy hp => ?_, fun j hj hu => ?_⟩, fun j k hj hk uj uk e => ?_, fun v p s' a' => ⟨fun hh => ?_, fun hh => ?_⟩⟩
  · rcases le i hi with ci | ci <;> rcases le j hj with cj | cj
    · rw [uB _ _ _ ci, uB _ _ _ cj] at e; exact c1 i j ci cj e
    · rw [uB _ _ _ ci, cj, uN] at e
      have := c2 i ci
      rw [e] at this
      omega
    · rw [uB _ _ _ cj, ci, uN] at e
      have := c2 j cj
      rw [← e] at this
      omega
    · omega
  · rcases le i hi with ci | ci
    · rw [uB _ _ _ ci]
      have := c2 i ci
      omega
    · rw [ci, uN]
      omega
  · by_cases c : x.toInt ≤ (y : Int) ∧ (y : Int) < x.toInt + s.toInt
    · refine ⟨b.toNatClampNeg, by omega, by rw [oi y c.1 c.2]; omega, ub, ?_, ?_⟩
      · rw [uq]; omega
      · rw [uq, uq]; omega
    · rw [oo y c] at hp ⊢
      obtain ⟨j, j1, j2, j3, j4, j5⟩ := o1 y hy hp
      have jb : j ≠ b.toNatClampNeg := fun z => bu (by rw [← z]; exact j3)
      exact ⟨j, j1, j2, (un j jb).mpr j3, by rw [ue _ _ j jb]; exact j4, by rw [ue _ _ j jb, ue _ _ j jb]; exact j5⟩
  · by_cases jb : j = b.toNatClampNeg
    · rw [jb, uq, uq]
      exact ⟨hx, hs, hw, fun y h1 h2 => by rw [oi y h1 h2]; omega⟩
    · rw [ue _ _ j jb, ue _ _ j jb]
      obtain ⟨d1, d2, d3, d4⟩ := o2 j hj ((un j jb).mp hu)
      refine ⟨d1, d2, d3, fun y h1 h2 => ?_⟩
      have := d4 y h1 h2
      rw [oo y (fun z => by have := hf y z.1 z.2; omega)]
      exact this
  · by_cases jb : j = b.toNatClampNeg
    · by_cases kb : k = b.toNatClampNeg
      · rw [jb, kb]
      · exfalso
        rw [jb, uq, ue _ _ k kb] at e
        have uk2 := (un k kb).mp uk
        obtain ⟨i, i1, i2, _⟩ := (r1 ((nu k).toInt - 1) _ _ _).mpr ⟨k, hk, uk2, by omega, rfl, rfl, rfl⟩
        have := c2 i i1
        rw [← e] at i2
        omega
    · by_cases kb : k = b.toNatClampNeg
      · exfalso
        rw [kb, uq, ue _ _ j jb] at e
        have uj2 := (un j jb).mp uj
        obtain ⟨i, i1, i2, _⟩ := (r1 ((nu j).toInt - 1) _ _ _).mpr ⟨j, hj, uj2, by omega, rfl, rfl, rfl⟩
        have := c2 i i1
        rw [e] at i2
        omega
      · rw [ue _ _ j jb, ue _ _ k kb] at e
        exact n1 j k hj hk ((un j jb).mp uj) ((un k kb).mp uk) e
  · obtain ⟨i, i1, i2, i3, i4, i5⟩ := hh
    rcases le i i1 with ci | ci
    · rw [uB _ _ _ ci] at i2 i3 i4 i5
      obtain ⟨j, j1, j2, j3, j4, j5, j6⟩ := (r1 v p s' a').mp ⟨i, ci, i2, i3, i4, i5⟩
      have jb : j ≠ b.toNatClampNeg := fun z => bu (by rw [← z]; exact j2)
      exact ⟨j, j1, (un j jb).mpr j2, by rw [ue _ _ j jb]; exact j3, by rw [ue _ _ j jb]; exact j4, by rw [ue _ _ j jb]; exact j5, by rw [ue _ _ j jb]; exact j6⟩
    · rw [ci, uN] at i2 i3 i4 i5
      exact ⟨b.toNatClampNeg, by omega, ub, by rw [uq]; omega, by rw [uq]; exact i3, by rw [uq]; exact i4, by rw [uq]; exact i5⟩
  · obtain ⟨j, j1, j2, j3, j4, j5, j6⟩ := hh
    by_cases jb : j = b.toNatClampNeg
    · rw [jb, uq] at j3 j4 j5 j6
      exact ⟨B.toNat, by omega, by rw [uN]; omega, by rw [uN]; exact j4, by rw [uN]; exact j5, by rw [uN]; exact j6⟩
    · rw [ue _ _ j jb] at j3 j4 j5 j6
      obtain ⟨i, i1, i2, i3, i4, i5⟩ := (r1 v p s' a').mpr ⟨j, j1, (un j jb).mp j2, j3, j4, j5, j6⟩
      exact ⟨i, by omega, by rw [uB _ _ _ i1]; exact i2, by rw [uB _ _ _ i1]; exact i3, by rw [uB _ _ _ i1]; exact i4, by rw [uB _ _ _ i1]; exact i5⟩
theorem zz_mv_at {f g : Nat → Int32} {i : Nat} {n : Int} (h : zz_mv f g i n) (hi : (i : Int) < n) (k : Nat) (hk : (k : Int) < n - 1) : ∃ k' : Nat, (k' : Int) < n ∧ k' ≠ i ∧ g k = f k' ∧ (k' = if k = i then (n - 1).toNat else k) := by
  by_cases c : k = i
  · exact ⟨(n - 1).toNat, by omega, by omega, by rw [h, zz_updE, if_pos (by omega)], by rw [if_pos c]⟩
  · exact ⟨k, by omega, c, by rw [h, zz_updE, if_neg (by omega)], by rw [if_neg c]⟩
theorem zz_mv_to {f g : Nat → Int32} {i : Nat} {n : Int} (h : zz_mv f g i n) (hi : (i : Int) < n) (k' : Nat) (hk : (k' : Int) < n) (hne : k' ≠ i) : ∃ k : Nat, (k : Int) < n - 1 ∧ g k = f k' ∧ (k = if k' = (n - 1).toNat then i else k') := by
  by_cases c : k' = (n - 1).toNat
  · exact ⟨i, by omega, by rw [h, zz_updE, if_pos (by omega), c], by rw [if_pos c]⟩
  · exact ⟨k', by omega, by rw [h, zz_updE, if_neg (by omega)], by rw [if_neg c]⟩
theorem zz_RB_back {w B g : Int} {nc pc sc ac nc' pc' sc' ac' o nu pl sp as o' : Nat → Int32} {i b : Nat} {q : Int32} (h : zz_RB w B g nc pc sc ac o nu pl sp as) (hi : (i : Int) < B) (hb : b < 200) (ub : zz_us w o nu pl b) (hv : (nu b).toInt = (nc i).toInt + 1) (hwr : zz_wr o o' (pl b).toInt ((pl b).toInt + (sp b).toInt) q) (hq : q.toInt < 0) (m1 : zz_mv nc nc' i B) (m2 : zz_mv pc pc' i B) (m3 : zz_mv sc sc' i B) (m4 : zz_mv ac ac' i B) : zz_RB w (B - 1) g nc' pc' sc' ac' o' (upd nu b 0) pl sp as ∧ (pc i).toInt = (pl b).toInt ∧ (sc i).toInt = (sp b).toInt := by
  obtain ⟨c1, c2, c3, ⟨o1, o2⟩, n1, r1⟩ := h
  obtain ⟨j0, z1, z2, z3, z4, z5, z6⟩ := (r1 _ _ _ _).mp ⟨i, hi, rfl, rfl, rfl, rfl⟩
  have e0 : j0 = b := n1 j0 b z1 hb z2 ub (Int32.toInt_inj.mp (by omega))
  rw [e0] at z4 z5
  obtain ⟨p1, p2, p3, p4⟩ := o2 b hb ub
  have oi : ∀ y : Nat, (pl b).toInt ≤ (y : Int) → (y : Int) < (pl b).toInt + (sp b).toInt → o' y = q := fun y h1 h2 => by rw [hwr y, if_pos ⟨h1, h2⟩]
  have oo : ∀ y : Nat, ¬ ((pl b).toInt ≤ (y : Int) ∧ (y : Int) < (pl b).toInt + (sp b).toInt) → o' y = o y := fun y h1 => by rw [hwr y, if_neg h1]
  have uz : ∀ j : Nat, zz_us w o' (upd nu b 0) pl j → j ≠ b ∧ zz_us w o nu pl j := fun j hj => by
    have jb : j ≠ b := fun c => by
      have := hj.1
      rw [c, zz_updE, if_pos rfl] at this
      exact absurd this (by decide)
    have k1 := hj.1
    rw [zz_updE, if_neg jb] at k1
    refine ⟨jb, k1, hj.2.1, ?_⟩
    have k3 := hj.2.2
    by_cases c : (pl b).toInt ≤ ((pl j).toNatClampNeg : Int) ∧ ((pl j).toNatClampNeg : Int) < (pl b).toInt + (sp b).toInt
    · rw [oi _ c.1 c.2] at k3
      omega
    · rw [oo _ c] at k3
      exact k3
  have uy : ∀ j : Nat, j ≠ b → zz_us w o nu pl j → zz_us w o' (upd nu b 0) pl j := fun j jb hj => by
    refine ⟨by rw [zz_updE, if_neg jb]; exact hj.1, hj.2.1, ?_⟩
    rw [oo _ (fun c => by have := p4 _ c.1 c.2; have := hj.2.2; omega)]
    exact hj.2.2
  have cm : ∀ k : Nat, (k : Int) < B - 1 → ∃ k' : Nat, (k' : Int) < B ∧ k' ≠ i ∧ nc' k = nc k' ∧ pc' k = pc k' ∧ sc' k = sc k' ∧ ac' k = ac k' ∧ (k' = if k = i then (B - 1).toNat else k) := fun k hk => by
    obtain ⟨k1, a1, a2, a3, a4⟩ := zz_mv_at m1 hi k hk
    obtain ⟨k2, _, _, b3, b4⟩ := zz_mv_at m2 hi k hk
    obtain ⟨k3, _, _, d3, d4⟩ := zz_mv_at m3 hi k hk
    obtain ⟨k4, _, _, f3, f4⟩ := zz_mv_at m4 hi k hk
    rw [← a4] at b4 d4 f4
    rw [b4] at b3
    rw [d4] at d3
    rw [f4] at f3
    exact ⟨k1, a1, a2, a3, b3, d3, f3, a4⟩
  have ct : ∀ k' : Nat, (k' : Int) < B → k' ≠ i → ∃ k : Nat, (k : Int) < B - 1 ∧ nc' k = nc k' ∧ pc' k = pc k' ∧ sc' k = sc k' ∧ ac' k = ac k' := fun k' hk hne => by
    obtain ⟨k1, a1, a2, a3⟩ := zz_mv_to m1 hi k' hk hne
    obtain ⟨k2, _, b2, b3⟩ := zz_mv_to m2 hi k' hk hne
    obtain ⟨k3, _, d2, d3⟩ := zz_mv_to m3 hi k' hk hne
    obtain ⟨k4, _, f2, f3⟩ := zz_mv_to m4 hi k' hk hne
    rw [← a3] at b3 d3 f3
    rw [b3] at b2
    rw [d3] at d2
    rw [f3] at f2
    exact ⟨k1, a1, a2, b2, d2, f2⟩
  refine ⟨⟨fun k l hk hl e => ?_, fun k hk => ?_, fun k hk => ?_, ⟨fun y hy hp => ?_, fun j hj hu => ?_⟩, fun j k hj hk uj uk e => ?_, fun v p s' a' => ⟨fun hh => ?_, fun hh => ?_⟩⟩, by omega, by omega⟩
  · obtain ⟨k', a1, a2, a3, _, _, _, a4⟩ := cm k hk
    obtain ⟨l', b1, b2, b3, _, _, _, b4⟩ := cm l hl
    rw [a3, b3] at e
    have := c1 k' l' a1 b1 e
    by_cases ck : k = i
    · by_cases cl : l = i
      · omega
      · rw [if_pos ck] at a4
        rw [if_neg cl] at b4
        omega
    · by_cases cl : l = i
      · rw [if_neg ck] at a4
        rw [if_pos cl] at b4
        omega
      · rw [if_neg ck] at a4
        rw [if_neg cl] at b4
        omega
  · obtain ⟨k', a1, _, a3, _⟩ := cm k hk
    rw [a3]
    exact c2 k' a1
  · obtain ⟨k', a1, _, _, a4, a5, _⟩ := cm k hk
    rw [a4, a5]
    exact c3 k' a1
  · have ny : ¬ ((pl b).toInt ≤ (y : Int) ∧ (y : Int) < (pl b).toInt + (sp b).toInt) := fun c => by
      rw [oi y c.1 c.2] at hp
      omega
    rw [oo y ny] at hp ⊢
    obtain ⟨j, j1, j2, j3, j4, j5⟩ := o1 y hy hp
    exact ⟨j, j1, j2, uy j (fun c => ny (by rw [← c]; exact ⟨j4, j5⟩)) j3, j4, j5⟩
  · obtain ⟨jb, hj2⟩ := uz j hu
    obtain ⟨d1, d2, d3, d4⟩ := o2 j hj hj2
    refine ⟨d1, d2, d3, fun y h1 h2 => ?_⟩
    have := d4 y h1 h2
    rw [oo y (fun c => by have := p4 y c.1 c.2; omega)]
    exact this
  · obtain ⟨jb, uj2⟩ := uz j uj
    obtain ⟨kb, uk2⟩ := uz k uk
    rw [zz_updE, zz_updE, if_neg jb, if_neg kb] at e
    exact n1 j k hj hk uj2 uk2 e
  · obtain ⟨k, k1, k2, k3, k4, k5⟩ := hh
    obtain ⟨k', a1, a2, a3, a4, a5, a6, _⟩ := cm k k1
    rw [a3] at k2
    rw [a4] at k3
    rw [a5] at k4
    rw [a6] at k5
    obtain ⟨j, j1, j2, j3, j4, j5, j6⟩ := (r1 v p s' a').mp ⟨k', a1, k2, k3, k4, k5⟩
    have jb : j ≠ b := fun c => a2 (c1 k' i a1 hi (Int32.toInt_inj.mp (by rw [c] at j3; omega)))
    exact ⟨j, j1, uy j jb j2, by rw [zz_updE, if_neg jb]; exact j3, j4, j5, j6⟩
  · obtain ⟨j, j1, j2, j3, j4, j5, j6⟩ := hh
    obtain ⟨jb, j7⟩ := uz j j2
    rw [zz_updE, if_neg jb] at j3
    obtain ⟨k', k1, k2, k3, k4, k5⟩ := (r1 v p s' a').mpr ⟨j, j1, j7, j3, j4, j5, j6⟩
    have ki : k' ≠ i := fun c => jb (n1 j b j1 hb j7 ub (Int32.toInt_inj.mp (by rw [c] at k2; omega)))
    obtain ⟨k, a1, a2, a3, a4, a5⟩ := ct k' k1 ki
    exact ⟨k, a1, by rw [a2]; exact k2, by rw [a3]; exact k3, by rw [a4]; exact k4, by rw [a5]; exact k5⟩
/-- a NUMBER is there in both or in neither -/
theorem zz_RB_no {w B g : Int} {nc pc sc ac o nu pl sp as : Nat → Int32} {v : Int32} (h : zz_RB w B g nc pc sc ac o nu pl sp as) (hg : g ≤ 100000) : zz_ns nc v B ↔ (v.toInt < 0 ∨ zz_nk w o nu pl (v + ((1 : Int32))) 200) := by
  obtain ⟨c1, c2, c3, c4, n1, r1⟩ := h
  constructor
  · intro hn
    by_cases c : v.toInt < 0
    · exact Or.inl c
    · refine Or.inr fun b hb z => ?_
      obtain ⟨i, i1, i2, _⟩ := (r1 ((nu b).toInt - 1) _ _ _).mpr ⟨b, by omega, z.2, by omega, rfl, rfl, rfl⟩
      have k1 := c2 i i1
      have k2 := z.2.1
      obtain ⟨k, f⟩ := zz_add v 1
      rw [show (1 : Int32).toInt = 1 from rfl] at f
      have k3 := congrArg Int32.toInt z.1
      have k4 := zz_rg v
      have k5 := zz_rg (v + 1)
      exact hn i i1 (Int32.toInt_inj.mp (by omega))
  · intro hn i hi e
    have k1 := c2 i hi
    rw [e] at k1
    rcases hn with hn | hn
    · omega
    · obtain ⟨b, b1, b2, b3, _⟩ := (r1 _ _ _ _).mp ⟨i, hi, rfl, rfl, rfl, rfl⟩
      refine hn b (by omega) ⟨Int32.toInt_inj.mp ?_, b2⟩
      rw [b3, zz_p1 v (by omega), e]

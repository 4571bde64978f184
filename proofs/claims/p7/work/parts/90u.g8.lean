/-! form 8: the stack -/
/-- where a top that may sink over free words comes to rest -/
def zz_tp (c : Nat → Int32) (top r : Int) : Prop := 0 ≤ r ∧ r ≤ top ∧ (∀ x : Nat, r ≤ (x : Int) → (x : Int) < top → (c x).toInt = -1) ∧ (r = 0 ∨ (c (r - 1).toNat).toInt ≠ -1)
theorem zz_tp_end {c : Nat → Int32} {top r : Int} (h0 : 0 ≤ top) (hr : r = top) (hc : top = 0 ∨ ∃ i : Nat, (i : Int) = top - 1 ∧ (c i).toInt ≠ -1) : zz_tp c top r := by
  refine ⟨by omega, by omega, fun x h1 h2 => by omega, ?_⟩
  rcases hc with hc | ⟨i, e, hc⟩
  · exact Or.inl (by omega)
  · exact Or.inr (by rw [show (r - 1).toNat = i by omega]; exact hc)
theorem zz_tp_step {c : Nat → Int32} {top top' r : Int} {i : Nat} (h : zz_tp c top' r) (ht : top' = top - 1) (hi : (i : Int) = top - 1) (hc : (c i).toInt = -1) : zz_tp c top r := by
  obtain ⟨a1, a2, a3, a4⟩ := h
  refine ⟨a1, by omega, fun x h1 h2 => ?_, a4⟩
  by_cases e : x = i
  · rw [e]; exact hc
  · exact a3 x h1 (by omega)
theorem zz_tp_uq {w : Int} {c o : Nat → Int32} {top r s : Int} (h1 : zz_tp c top r) (h2 : zz_tp o top s) (he : zz_fe2 w c o) (hw : top ≤ w) : r = s := by
  obtain ⟨a1, a2, a3, a4⟩ := h1
  obtain ⟨b1, b2, b3, b4⟩ := h2
  rcases Int.lt_trichotomy r s with c1 | c1 | c1
  · exfalso
    rcases b4 with d | d
    · omega
    · exact d ((he _ (by omega)).mp (a3 (s - 1).toNat (by omega) (by omega)))
  · exact c1
  · exfalso
    rcases a4 with d | d
    · omega
    · exact d ((he _ (by omega)).mpr (b3 (r - 1).toNat (by omega) (by omega)))
/-- the reference's stack: st entries (place kp, span ks, gone kg), without gaps, the last not gone -/
def zz_F8 (w top : Int) (st : Int) (kp ks kg o nu pl sp : Nat → Int32) : Prop := 0 ≤ st ∧ 0 ≤ top ∧ top ≤ w ∧ (st = 0 → top = 0) ∧ (0 < st → (kp 0).toInt = 0 ∧ (kp (st - 1).toNat).toInt + (ks (st - 1).toNat).toInt = top ∧ (kg (st - 1).toNat).toInt = 0) ∧ (∀ k : Nat, (k : Int) < st → 0 ≤ (kp k).toInt ∧ 1 ≤ (ks k).toInt ∧ (kp k).toInt + (ks k).toInt ≤ top) ∧ (∀ k : Nat, (k : Int) + 1 < st → (kp (k + 1)).toInt = (kp k).toInt + (ks k).toInt) ∧ (∀ k : Nat, (k : Int) < st → (kg k).toInt ≠ 0 → ∀ x : Nat, (kp k).toInt ≤ (x : Int) → (x : Int) < (kp k).toInt + (ks k).toInt → (o x).toInt = -1) ∧ (∀ k : Nat, (k : Int) < st → (kg k).toInt = 0 → ∃ b : Nat, b < 200 ∧ zz_us w o nu pl b ∧ (pl b).toInt = (kp k).toInt ∧ (sp b).toInt = (ks k).toInt) ∧ ∀ x : Nat, top ≤ (x : Int) → (x : Int) < w → (o x).toInt = -1
/-- sink: marked at p, then the gone ones at the end go -/
def zz_mk8 (st p : Int) (kp kg kg' : Nat → Int32) : Prop := ∀ k : Nat, (k : Int) < st → ((kp k).toInt = p ∧ (kg' k).toInt ≠ 0) ∨ ((kp k).toInt ≠ p ∧ kg' k = kg k)
def zz_mk8p (i p : Int) (kp kg kg' : Nat → Int32) : Prop := (∀ k : Nat, (k : Int) < i → ((kp k).toInt = p ∧ (kg' k).toInt ≠ 0) ∨ ((kp k).toInt ≠ p ∧ kg' k = kg k)) ∧ ∀ k : Nat, i ≤ (k : Int) → kg' k = kg k
theorem zz_mk8p_0 {i p : Int} {kp kg : Nat → Int32} (h : i ≤ 0) : zz_mk8p i p kp kg kg := ⟨fun k hk => by omega, fun k _ => rfl⟩
theorem zz_mk8p_y {i i' p : Int} {kp kg kg' : Nat → Int32} {j : Nat} {v : Int32} (h : zz_mk8p i p kp kg kg') (hj : (j : Int) = i) (hi : i' = i + 1) (hp : (kp j).toInt = p) (hv : v.toInt ≠ 0) : zz_mk8p i' p kp kg (upd kg' j v) := by
  refine ⟨fun k hk => ?_, fun k hk => ?_⟩
  · rw [zz_updE]
    by_cases c : k = j
    · rw [if_pos c, c]; exact Or.inl ⟨hp, hv⟩
    · rw [if_neg c]; exact h.1 k (by omega)
  · rw [zz_updE, if_neg (by omega)]
    exact h.2 k (by omega)
theorem zz_mk8p_n {i i' p : Int} {kp kg kg' : Nat → Int32} {j : Nat} (h : zz_mk8p i p kp kg kg') (hj : (j : Int) = i) (hi : i' = i + 1) (hp : (kp j).toInt ≠ p) : zz_mk8p i' p kp kg kg' := by
  refine ⟨fun k hk => ?_, fun k hk => h.2 k (by omega)⟩
  by_cases c : k = j
  · rw [c]; exact Or.inr ⟨hp, h.2 j (by omega)⟩
  · exact h.1 k (by omega)
theorem zz_mk8_mk {i st p : Int} {kp kg kg' : Nat → Int32} (h : zz_mk8p i p kp kg kg') (hi : st ≤ i) : zz_mk8 st p kp kg kg' := fun k hk => h.1 k (by omega)
def zz_po8 (st top : Int) (kp kg : Nat → Int32) (st' top' : Int) : Prop := 0 ≤ st' ∧ st' ≤ st ∧ (∀ k : Nat, st' ≤ (k : Int) → (k : Int) < st → (kg k).toInt ≠ 0) ∧ (st' = 0 ∨ (kg (st' - 1).toNat).toInt = 0) ∧ ((st' = st ∧ top' = top) ∨ (st' < st ∧ top' = (kp st'.toNat).toInt))
theorem zz_po8_end {st top st' top' : Int} {kp kg : Nat → Int32} (h0 : 0 ≤ st) (hs : st' = st) (ht : top' = top) (hg : st = 0 ∨ ∃ i : Nat, (i : Int) = st - 1 ∧ (kg i).toInt = 0) : zz_po8 st top kp kg st' top' := by
  refine ⟨by omega, by omega, fun k h1 h2 => by omega, ?_, Or.inl ⟨hs, ht⟩⟩
  rcases hg with hg | ⟨i, e, hg⟩
  · exact Or.inl (by omega)
  · exact Or.inr (by rw [show (st' - 1).toNat = i by omega]; exact hg)
theorem zz_po8_step {st st1 top top1 st' top' : Int} {kp kg : Nat → Int32} {i : Nat} (h : zz_po8 st1 top1 kp kg st' top') (hs : st1 = st - 1) (hi : (i : Int) = st - 1) (ht : top1 = (kp i).toInt) (hg : (kg i).toInt ≠ 0) : zz_po8 st top kp kg st' top' := by
  obtain ⟨a1, a2, a3, a4, a5⟩ := h
  refine ⟨a1, by omega, fun k h1 h2 => ?_, a4, Or.inr ⟨by omega, ?_⟩⟩
  · by_cases c : k = i
    · rw [c]; exact hg
    · exact a3 k h1 (by omega)
  · rcases a5 with ⟨b1, b2⟩ | ⟨b1, b2⟩
    · rw [b2, ht, show st'.toNat = i by omega]
    · exact b2
theorem zz_F8_give {w top st top' st' : Int} {kp ks kg kp' ks' kg' o nu pl sp as o' nu' pl' sp' as' : Nat → Int32} {G x s a z : Int32} (h : zz_F8 w top st kp ks kg o nu pl sp) (hO : zz_OW w o nu pl sp) (hg : zz_gv w o nu pl sp as o' nu' pl' sp' as' G x s a) (hG : 0 ≤ G.toInt) (hG2 : G.toInt ≤ 100000) (hx : x.toInt = top) (hs : 1 ≤ s.toInt) (hw : x.toInt + s.toInt ≤ w) (ht : top' = top + s.toInt) (hst : st' = st + 1) (e1 : kp' = upd kp st.toNat x) (e2 : ks' = upd ks st.toNat s) (e3 : kg' = upd kg st.toNat z) (hz : z.toInt = 0) : zz_F8 w top' st' kp' ks' kg' o' nu' pl' sp' := by
  obtain ⟨a0, a1, a2, a3, a4, a5, a6, a7, a8, a9⟩ := h
  obtain ⟨b, b0, b1, bu, f1, f2, f3, f4, hwr⟩ := hg
  have eb := zz_tnI b b0
  have G1 : (G + ((1 : Int32))).toInt = G.toInt + 1 := zz_p1 G (by omega)
  subst e1; subst e2; subst e3; subst f1; subst f2; subst f3
  have ob : ∀ k : Nat, (k : Int) < st → ∀ (f : Nat → Int32) (v : Int32), upd f st.toNat v k = f k := fun k hk f v => by rw [zz_updE, if_neg (by omega)]
  have on : ∀ (f : Nat → Int32) (v : Int32), upd f st.toNat v st.toNat = v := fun f v => by rw [zz_updE, if_pos rfl]
  have oo : ∀ y : Nat, (y : Int) < top → o' y = o y := fun y hy => by rw [hwr y, if_neg (by omega)]
  have ex := zz_tnI x (by omega)
  refine ⟨by omega, by omega, by omega, fun c => by omega, fun _ => ?_, fun k hk => ?_, fun k hk => ?_, fun k hk hg y h1 h2 => ?_, fun k hk hg => ?_, fun y h1 h2 => ?_⟩
  · rw [show (st' - 1).toNat = st.toNat by omega, on, on, on]
    refine ⟨?_, by omega, hz⟩
    by_cases c : st = 0
    · rw [show (0 : Nat) = st.toNat by omega, on]
      have := a3 c
      omega
    · rw [ob 0 (by omega)]
      exact (a4 (by omega)).1
  · by_cases c : (k : Int) < st
    · rw [ob k c, ob k c]
      have := a5 k c
      omega
    · rw [show k = st.toNat by omega, on, on]
      omega
  · by_cases c : (k : Int) + 1 < st
    · rw [ob (k + 1) (by omega), ob k (by omega), ob k (by omega)]
      exact a6 k c
    · rw [show k + 1 = st.toNat by omega, on, ob k (by omega), ob k (by omega)]
      have := (a4 (by omega)).2.1
      rw [show (st - 1).toNat = k by omega] at this
      omega
  · by_cases c : (k : Int) < st
    · rw [ob k c] at hg h1 h2
      rw [ob k c] at h2
      have := a5 k c
      rw [oo y (by omega)]
      exact a7 k c hg y h1 h2
    · rw [show k = st.toNat by omega, on] at hg
      exact absurd hz hg
  · by_cases c : (k : Int) < st
    · rw [ob k c] at hg ⊢
      rw [ob k c]
      obtain ⟨j, j1, j2, j3, j4⟩ := a8 k c hg
      have jb : j ≠ b.toNatClampNeg := fun e => bu (by rw [← e]; exact j2)
      have r5 := a5 k c
      refine ⟨j, j1, ⟨?_, ?_, ?_⟩, ?_, ?_⟩
      · rw [zz_updE, if_neg jb]; exact j2.1
      · rw [zz_updE, if_neg jb]; exact j2.2.1
      · rw [zz_updE, if_neg jb, oo _ (by rw [zz_tn]; omega)]; exact j2.2.2
      · rw [zz_updE, if_neg jb]; exact j3
      · rw [zz_updE, if_neg jb]; exact j4
    · rw [show k = st.toNat by omega, on, on]
      refine ⟨b.toNatClampNeg, by omega, ⟨by rw [zz_updE, if_pos rfl]; omega, by rw [zz_updE, if_pos rfl]; omega, ?_⟩, by rw [zz_updE, if_pos rfl], by rw [zz_updE, if_pos rfl]⟩
      rw [zz_updE, if_pos rfl, hwr x.toNatClampNeg, if_pos (by omega)]
      omega
  · rw [hwr y, if_neg (by omega)]
    exact a9 y (by omega) h2
theorem zz_F8_back {w top st top' st' : Int} {kp ks kg kg' o nu pl sp o' : Nat → Int32} {b : Nat} {q : Int32} (h : zz_F8 w top st kp ks kg o nu pl sp) (hO : zz_OW w o nu pl sp) (hb : b < 200) (ub : zz_us w o nu pl b) (hwr : zz_wr o o' (pl b).toInt ((pl b).toInt + (sp b).toInt) q) (hq : q.toInt = -1) (hm : zz_mk8 st (pl b).toInt kp kg kg') (hp : zz_po8 st top kp kg' st' top') : zz_F8 w top' st' kp ks kg' o' (upd nu b 0) pl sp ∧ zz_tp o' top top' := by
  obtain ⟨a0, a1, a2, a3, a4, a5, a6, a7, a8, a9⟩ := h
  obtain ⟨p1, p2, p3, p4⟩ := hO.2 b hb ub
  obtain ⟨c1, c2, c3, c4, c5⟩ := hp
  have ofr : ∀ y : Nat, (o y).toInt = -1 → (o' y).toInt = -1 := fun y hy => by
    rw [hwr y]
    by_cases d : (pl b).toInt ≤ (y : Int) ∧ (y : Int) < (pl b).toInt + (sp b).toInt
    · rw [if_pos d]; exact hq
    · rw [if_neg d]; exact hy
  -- where an entry ends its successors stand
  have mono : ∀ d k : Nat, ((k + d + 1 : Nat) : Int) < st → (kp k).toInt + (ks k).toInt ≤ (kp (k + d + 1)).toInt := fun d => by
    induction d with
    | zero => intro k hk; have := a6 k (by omega); rw [show k + 0 + 1 = k + 1 by omega]; omega
    | succ d ih =>
      intro k hk
      have i1 := ih k (by omega)
      have i2 := a6 (k + d + 1) (by omega)
      have i3 := a5 (k + d + 1) (by omega)
      rw [show k + (d + 1) + 1 = k + d + 1 + 1 by omega]
      omega
  have ltm : ∀ k l : Nat, k < l → (l : Int) < st → (kp k).toInt + (ks k).toInt ≤ (kp l).toInt := fun k l hkl hl => by
    have := mono (l - k - 1) k (by omega)
    rw [show k + (l - k - 1) + 1 = l by omega] at this
    exact this
  -- a marked entry is the block's own
  have gone : ∀ k : Nat, (k : Int) < st → (kg' k).toInt ≠ 0 → ∀ y : Nat, (kp k).toInt ≤ (y : Int) → (y : Int) < (kp k).toInt + (ks k).toInt → (o' y).toInt = -1 := fun k hk hg y h1 h2 => by
    rcases hm k hk with ⟨m1, m2⟩ | ⟨m1, m2⟩
    · by_cases g0 : (kg k).toInt = 0
      · obtain ⟨j, j1, j2, j3, j4⟩ := a8 k hk g0
        have r := (hO.2 j j1 j2).2.2.2 (pl b).toInt.toNat (by omega) (by have := (hO.2 j j1 j2).2.1; omega)
        have r2 := p4 (pl b).toInt.toNat (by omega) (by omega)
        have ej : j = b := by omega
        rw [ej] at j4
        rw [hwr y, if_pos (by omega)]
        exact hq
      · exact ofr y (a7 k hk g0 y h1 h2)
    · rw [m2] at hg
      exact ofr y (a7 k hk hg y h1 h2)
  have there : ∀ k : Nat, (k : Int) < st → (kg' k).toInt = 0 → ∃ j : Nat, j < 200 ∧ zz_us w o' (upd nu b 0) pl j ∧ (pl j).toInt = (kp k).toInt ∧ (sp j).toInt = (ks k).toInt := fun k hk hg => by
    rcases hm k hk with ⟨m1, m2⟩ | ⟨m1, m2⟩
    · exact absurd hg m2
    · rw [m2] at hg
      obtain ⟨j, j1, j2, j3, j4⟩ := a8 k hk hg
      have jb : j ≠ b := fun e => m1 (by rw [← j3, e])
      refine ⟨j, j1, ⟨by rw [zz_updE, if_neg jb]; exact j2.1, j2.2.1, ?_⟩, j3, j4⟩
      have e3 := j2.2.2
      rw [hwr (pl j).toNatClampNeg, if_neg (fun d => by have := p4 _ d.1 d.2; omega)]
      exact e3
  have top0 : st' < st → (kp st'.toNat).toInt = top' := fun d => by rcases c5 with ⟨d1, _⟩ | ⟨_, d2⟩ <;> omega
  have tl : top' ≤ top := by
    rcases c5 with ⟨d1, d2⟩ | ⟨d1, d2⟩
    · omega
    · have := a5 st'.toNat (by omega)
      omega
  -- every word from top' up is free
  have cov : ∀ d : Nat, (d : Int) ≤ st - st' → ∀ y : Nat, top' ≤ (y : Int) → (y : Int) < (if st' + (d : Int) = st then top else (kp (st' + (d : Int)).toNat).toInt) → (o' y).toInt = -1 := fun d => by
    induction d with
    | zero =>
      intro _ y h1 h2
      by_cases e : st' + ((0 : Nat) : Int) = st
      · rw [if_pos e] at h2
        rcases c5 with ⟨d1, d2⟩ | ⟨d1, d2⟩
        · omega
        · omega
      · rw [if_neg e, show (st' + ((0 : Nat) : Int)).toNat = st'.toNat by omega] at h2
        have := top0 (by omega)
        omega
    | succ d ih =>
      intro hd y h1 h2
      have i1 := ih (by omega)
      rw [if_neg (by omega)] at i1
      by_cases c : (y : Int) < (kp (st' + (d : Int)).toNat).toInt
      · exact i1 y h1 c
      · have e : (y : Int) < (kp (st' + (d : Int)).toNat).toInt + (ks (st' + (d : Int)).toNat).toInt := by
          by_cases e : st' + ((d + 1 : Nat) : Int) = st
          · rw [if_pos e] at h2
            have := (a4 (by omega)).2.1
            rw [show (st - 1).toNat = (st' + (d : Int)).toNat by omega] at this
            omega
          · rw [if_neg e] at h2
            have := a6 (st' + (d : Int)).toNat (by omega)
            rw [show (st' + (d : Int)).toNat + 1 = (st' + ((d + 1 : Nat) : Int)).toNat by omega] at this
            omega
        exact gone (st' + (d : Int)).toNat (by omega) (c3 _ (by omega) (by omega)) y (by omega) e
  have covA : ∀ y : Nat, top' ≤ (y : Int) → (y : Int) < top → (o' y).toInt = -1 := fun y h1 h2 => cov (st - st').toNat (by omega) y h1 (by rw [if_pos (by omega)]; exact h2)
  have prev : 0 < st' → (kp (st' - 1).toNat).toInt + (ks (st' - 1).toNat).toInt = top' := fun d => by
    rcases c5 with ⟨d1, d2⟩ | ⟨d1, d2⟩
    · have := (a4 (by omega)).2.1
      rw [d1, d2]
      exact this
    · have := a6 (st' - 1).toNat (by omega)
      rw [show (st' - 1).toNat + 1 = st'.toNat by omega] at this
      omega
  have kgz : 0 < st' → (kg' (st' - 1).toNat).toInt = 0 := fun d => by rcases c4 with e | e; omega; exact e
  have t0 : 0 ≤ top' := by
    by_cases d : st' < st
    · have := top0 d
      have := a5 st'.toNat (by omega)
      omega
    · rcases c5 with ⟨d1, d2⟩ | ⟨d1, d2⟩ <;> omega
  refine ⟨⟨c1, t0, by omega, fun d => ?_, fun d => ⟨(a4 (by omega)).1, prev d, kgz d⟩, fun k hk => ?_, fun k hk => a6 k (by omega), fun k hk => gone k (by omega), fun k hk => there k (by omega), fun y h1 h2 => ?_⟩, ⟨t0, tl, covA, ?_⟩⟩
  · by_cases e : st' < st
    · have e1 := top0 e
      have e2 := (a4 (by omega)).1
      rw [show st'.toNat = 0 by omega] at e1
      omega
    · rcases c5 with ⟨d1, d2⟩ | ⟨d1, d2⟩
      · have := a3 (by omega)
        omega
      · omega
  · have r := a5 k (by omega)
    refine ⟨r.1, r.2.1, ?_⟩
    by_cases e : (k : Int) = st' - 1
    · have := prev (by omega)
      rw [show (st' - 1).toNat = k by omega] at this
      omega
    · have m := ltm k (st' - 1).toNat (by omega) (by omega)
      have := prev (by omega)
      have := a5 (st' - 1).toNat (by omega)
      omega
  · by_cases d : (y : Int) < top
    · exact covA y h1 d
    · exact ofr y (a9 y (by omega) h2)
  · by_cases d : st' = 0
    · left
      by_cases e : st' < st
      · have e1 := top0 e
        have e2 := (a4 (by omega)).1
        rw [show st'.toNat = 0 by omega] at e1
        omega
      · rcases c5 with ⟨d1, d2⟩ | ⟨d1, d2⟩
        · have := a3 (by omega)
          omega
        · omega
    · right
      obtain ⟨j, j1, j2, j3, j4⟩ := there (st' - 1).toNat (by omega) (kgz (by omega))
      have pv := prev (by omega)
      have r5 := a5 (st' - 1).toNat (by omega)
      have RBo := (zz_us_bk hO hb ub hwr (by omega) j j2).2
      have w1 := (hO.2 j j1 RBo).2.2.2 (top' - 1).toNat (by omega) (by omega)
      have jb := (zz_us_bk hO hb ub hwr (by omega) j j2).1
      rw [hwr (top' - 1).toNat, if_neg (fun e => by have := p4 _ e.1 e.2; omega)]
      omega

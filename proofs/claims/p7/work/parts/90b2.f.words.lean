/-! words for the class's methods -/
def zz_isf (w : Int) (o : Nat → Int32) (p : Int32) (r : Int) : Prop := (r = 1 ∧ 0 ≤ p.toInt ∧ p.toInt < w ∧ (o p.toNatClampNeg).toInt = -1) ∨ (r = 0 ∧ (p.toInt < 0 ∨ w ≤ p.toInt ∨ (o p.toNatClampNeg).toInt ≠ -1))
theorem zz_isf_y {w : Int} {o : Nat → Int32} {p : Int32} {r : Int} (h : zz_isf w o p r) (hr : r ≠ 0) : (o p.toNatClampNeg).toInt = -1 := by
  rcases h with h | h
  · exact h.2.2.2
  · exact absurd h.1 hr
theorem zz_isf_w {w : Int} {o : Nat → Int32} {p : Int32} {r : Int} (h : zz_isf w o p r) : r = 0 ∨ p.toInt < w := by
  rcases h with h | h
  · exact Or.inr h.2.2.1
  · exact Or.inl h.1
theorem zz_isf_n {w : Int} {o : Nat → Int32} {p : Int32} {r : Int} (h : zz_isf w o p r) (hr : r = 0) (h0 : 0 ≤ p.toInt) (h1 : p.toInt ≤ w) : p.toInt = w ∨ ∃ i : Nat, (i : Int) = p.toInt ∧ (o i).toInt ≠ -1 := by
  rcases h with h | h
  · omega
  · rcases h.2 with c | c | c
    · omega
    · exact Or.inl (by omega)
    · exact Or.inr ⟨p.toNatClampNeg, zz_tnI p h0, c⟩
def zz_bat (o : Nat → Int32) (p : Int32) (r : Int) : Prop := (0 ≤ (o p.toNatClampNeg).toInt ∧ r = (o p.toNatClampNeg).toInt) ∨ ((o p.toNatClampNeg).toInt < 0 ∧ r = -1)
def zz_fl (f : Nat → Int32) (v : Int32) (n : Int) : Prop := ∀ i : Nat, (i : Int) < n → f i = v
theorem zz_fl_0 {f : Nat → Int32} {v : Int32} {n : Int} (h : n ≤ 0) : zz_fl f v n := fun i hi => by omega
theorem zz_fl_step {f : Nat → Int32} {v : Int32} {n n' : Int} {j : Nat} (h : zz_fl f v n) (hj : (j : Int) = n) (hn : n' = n + 1) : zz_fl (upd f j v) v n' := fun i hi => by
  rw [zz_updE]
  by_cases c : i = j
  · rw [if_pos c]
  · rw [if_neg c]; exact h i (by omega)
theorem zz_fl_cg {f : Nat → Int32} {v : Int32} {n n' : Int} (h : zz_fl f v n) (hn : n' ≤ n) : zz_fl f v n' := fun i hi => h i (by omega)
theorem zz_pil_cg {R : List (Nat × Nat)} {l : Nat} {d d' r : Int} (h : zz_pil R l d r) (hd : d' = d) : zz_pil R l d' r := by rw [hd]; exact h
def zz_em (e : String) : Prop := e = ""
def zz_nb (nc : Nat → Int32) (v : Int32) (B : Int) (e : String) (r : Int) : Prop := (e = "java/util/NoSuchElementException" ∧ zz_ns nc v B) ∨ (e = "" ∧ 0 ≤ r ∧ r < B ∧ nc r.toNat = v)
theorem zz_nb_n {nc : Nat → Int32} {v : Int32} {B r r' : Int} (h : zz_so nc v B r') (hr : r' = -1) : zz_nb nc v B "java/util/NoSuchElementException" r := by
  rcases h with h | h
  · exact Or.inl ⟨rfl, h.2⟩
  · omega
theorem zz_nb_y {nc : Nat → Int32} {v : Int32} {B r : Int} (h : zz_so nc v B r) (hr : r ≠ -1) : zz_nb nc v B "" r := by
  rcases h with h | h
  · exact absurd h.1 hr
  · exact Or.inr ⟨rfl, h⟩
theorem zz_nb_rg {nc : Nat → Int32} {v : Int32} {B r : Int} {e : String} (h : zz_nb nc v B e r) (he : e = "") : 0 ≤ r ∧ r < B := by
  rcases h with h | h
  · exact absurd (h.1.symm.trans he) (by decide)
  · exact ⟨h.2.1, h.2.2.1⟩
def zz_ls (e : String) (l i : Int) (X : List (Nat × Nat)) (r : Int) : Prop := (e = "java/lang/IllegalArgumentException" ∧ (l < 0 ∨ 44 ≤ l)) ∨ (0 ≤ l ∧ l < 44 ∧ ((e = "java/lang/IndexOutOfBoundsException" ∧ zz_pil X l.toNat i (-1)) ∨ (e = "" ∧ zz_pil X l.toNat i r ∧ r ≠ -1)))
theorem zz_ls_1 {e : String} {l i r : Int} {X : List (Nat × Nat)} (he : e = "java/lang/IllegalArgumentException") (hl : l < 0 ∨ 44 ≤ l) : zz_ls e l i X r := Or.inl ⟨he, hl⟩
theorem zz_ls_2 {e : String} {l i r r' : Int} {X : List (Nat × Nat)} (he : e = "java/lang/IndexOutOfBoundsException") (h0 : 0 ≤ l) (h1 : l < 44) (h : zz_pil X l.toNat i r') (hr : r' = -1) : zz_ls e l i X r := Or.inr ⟨h0, h1, Or.inl ⟨he, by rw [← hr]; exact h⟩⟩
theorem zz_ls_3 {e : String} {l i r : Int} {X : List (Nat × Nat)} (he : e = "") (h0 : 0 ≤ l) (h1 : l < 44) (h : zz_pil X l.toNat i r) (hr : r ≠ -1) : zz_ls e l i X r := Or.inr ⟨h0, h1, Or.inr ⟨he, h, hr⟩⟩
theorem zz_vs_mv {w : Int} {pc wc pc' wc' : Nat → Int32} {n n' i : Int} (h : zz_vs w pc wc n) (h1 : zz_mv pc pc' i n) (h2 : zz_mv wc wc' i n) (hn : n' = n - 1) (hi : 0 ≤ i) (hi2 : i < n) : zz_vs w pc' wc' n' := fun x hx => by
  rw [h1, h2, zz_updE, zz_updE]
  by_cases c : x = i.toNat
  · rw [if_pos c, if_pos c]; exact h _ (by omega)
  · rw [if_neg c, if_neg c]; exact h x (by omega)
/-- a give in form 7: g the next NUMBER, lp lw n the LISTS' stretches -/
def zz_GV (e : String) (p1 : Int32) (r B : Int) (g : Int32) (nc pc sc ac lp lw : Nat → Int32) (n B' g' : Int) (nc' pc' sc' ac' lp' lw' : Nat → Int32) (n' : Int) : Prop :=
  (e = "java/lang/IllegalArgumentException" ∧ (p1.toInt < 1 ∨ 1024 < p1.toInt) ∧ B' = B ∧ g' = g.toInt ∧ nc' = nc ∧ pc' = pc ∧ sc' = sc ∧ ac' = ac ∧ lp' = lp ∧ lw' = lw ∧ n' = n) ∨
  (e = "java/lang/IndexOutOfBoundsException" ∧ 1 ≤ p1.toInt ∧ p1.toInt ≤ 1024 ∧ 200 ≤ B ∧ B' = B ∧ g' = g.toInt ∧ nc' = nc ∧ pc' = pc ∧ sc' = sc ∧ ac' = ac ∧ lp' = lp ∧ lw' = lw ∧ n' = n) ∨
  (e = "" ∧ 1 ≤ p1.toInt ∧ p1.toInt ≤ 1024 ∧ B < 200 ∧ ∃ x : Int32, zz_ctk lp lw n lp' lw' n' p1.toNatClampNeg x.toInt ∧ ((x.toInt = -1 ∧ r = -1 ∧ B' = B ∧ g' = g.toInt ∧ nc' = nc ∧ pc' = pc ∧ sc' = sc ∧ ac' = ac) ∨ (0 ≤ x.toInt ∧ r = g.toInt ∧ B' = B + 1 ∧ g' = g.toInt + 1 ∧ nc' = upd nc B.toNat g ∧ pc' = upd pc B.toNat x ∧ sc' = upd sc B.toNat p1 ∧ ac' = upd ac B.toNat p1)))
def zz_TN (v : Int32) (B : Int) (nc pc sc lp lw : Nat → Int32) (n : Int) : Prop := ∀ i : Nat, (i : Int) < B → nc i = v → zz_tln lp lw n (pc i).toInt (sc i).toInt
theorem zz_TN_at {v : Int32} {B n : Int} {nc pc sc lp lw : Nat → Int32} {e : String} {x : Int32} (h : zz_TN v B nc pc sc lp lw n) (hb : zz_nb nc v B e x.toInt) (he : e = "") : zz_tln lp lw n (pc x.toNatClampNeg).toInt (sc x.toNatClampNeg).toInt := by
  rcases hb with hb | ⟨_, h1, h2, h3⟩
  · exact absurd (hb.1.symm.trans he) (by decide)
  · exact h x.toInt.toNat (by omega) h3
/-- a back in form 7 -/
def zz_BK (e : String) (p1 : Int32) (B : Int) (nc pc sc ac lp lw : Nat → Int32) (n r B' : Int) (nc' pc' sc' ac' lp' lw' : Nat → Int32) (n' : Int) : Prop :=
  (e = "java/util/NoSuchElementException" ∧ zz_ns nc p1 B ∧ B' = B ∧ nc' = nc ∧ pc' = pc ∧ sc' = sc ∧ ac' = ac ∧ lp' = lp ∧ lw' = lw ∧ n' = n) ∨
  (e = "" ∧ ∃ i : Nat, (i : Int) < B ∧ nc i = p1 ∧ r = (pc i).toInt ∧ B' = B - 1 ∧ zz_mv nc nc' i B ∧ zz_mv pc pc' i B ∧ zz_mv sc sc' i B ∧ zz_mv ac ac' i B ∧ zz_ctb lp lw n (pc i).toInt (sc i).toInt lp' lw' n')
theorem zz_BK_n {e : String} {p1 : Int32} {B n r x : Int} {nc pc sc ac lp lw : Nat → Int32} (h : zz_nb nc p1 B e x) (he : ¬ e = "") : zz_BK e p1 B nc pc sc ac lp lw n r B nc pc sc ac lp lw n := by
  rcases h with h | h
  · exact Or.inl ⟨h.1, h.2, rfl, rfl, rfl, rfl, rfl, rfl, rfl, rfl⟩
  · exact absurd h.1 he
theorem zz_BK_y {e : String} {p1 x : Int32} {B n r B' n' : Int} {nc pc sc ac lp lw nc' pc' sc' ac' lp' lw' : Nat → Int32} {e2 : String} (h : zz_nb nc p1 B e2 x.toInt) (he2 : e2 = "") (he : e = "") (hr : r = (pc x.toNatClampNeg).toInt) (hB : B' = B - 1) (h1 : zz_mv nc nc' x.toInt B) (h2 : zz_mv pc pc' x.toInt B) (h3 : zz_mv sc sc' x.toInt B) (h4 : zz_mv ac ac' x.toInt B) (h5 : zz_ctb lp lw n (pc x.toNatClampNeg).toInt (sc x.toNatClampNeg).toInt lp' lw' n') : zz_BK e p1 B nc pc sc ac lp lw n r B' nc' pc' sc' ac' lp' lw' n' := by
  rcases h with h | ⟨_, a1, a2, a3⟩
  · exact absurd (h.1.symm.trans he2) (by decide)
  · have ex := zz_tnI x a1
    exact Or.inr ⟨he, x.toNatClampNeg, by omega, a3, hr, hB, by rw [ex]; exact h1, by rw [ex]; exact h2, by rw [ex]; exact h3, by rw [ex]; exact h4, h5⟩
/-- an open of form 7 -/
def zz_OP (e : String) (p1 p2 : Int) (same : Prop) (f' w' B' g' : Int) (ow lp lw : Nat → Int32) (n' : Int) : Prop := (e = "java/lang/IllegalArgumentException" ∧ (p1 < 0 ∨ 9 < p1 ∨ p2 < 16 ∨ 1024 < p2) ∧ same) ∨ (e = "" ∧ 0 ≤ p1 ∧ p1 ≤ 9 ∧ 16 ≤ p2 ∧ p2 ≤ 1024 ∧ f' = p1 ∧ w' = p2 ∧ B' = 0 ∧ g' = 0 ∧ zz_fl ow (-1) 1024 ∧ zz_bgn p2 lp lw n')
theorem zz_bgn_cg {w w' n : Int} {pc wc : Nat → Int32} (h : zz_bgn w pc wc n) (hw : w' = w) : zz_bgn w' pc wc n := by rw [hw]; exact h

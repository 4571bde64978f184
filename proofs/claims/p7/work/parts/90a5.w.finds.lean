/-! worst: what the class's finds answer, whatever runs are listed -/
def zz_q0 (pl wd : Nat → Int32) (sz a r : Int) : Prop := ∀ (n : Int) (h : Nat → Int32), 0 ≤ n → zz_ru n h pl wd sz → zz_ff n h a 0 n r
theorem zz_ru_lt {n : Int} {h pl wd : Nat → Int32} {sz : Int} (hu : zz_ru n h pl wd sz) {k : Nat} (hk : (k : Int) < sz) (hn : 0 ≤ n) : (pl k).toInt < n ∧ (pl k).toInt + (wd k).toInt ≤ n ∧ 0 ≤ (pl k).toInt ∧ 1 ≤ (wd k).toInt := by
  obtain ⟨b1, b2, b3⟩ := hu.1 k hk
  have e1 := b3.2.1
  have e2 := b3.1
  omega
theorem zz_q0_no {pl wd : Nat → Int32} {sz a r i : Int} (hf : zz_nf a wd i) (hi : sz ≤ i) (ha : 1 ≤ a) (hr : r = -1) : zz_q0 pl wd sz a r := fun n h hn hu => zz_ff_none hu hf (fun j j1 j2 => by omega) ha hr
theorem zz_q0_yes {pl wd : Nat → Int32} {sz a r i : Int} {k : Nat} (hf : zz_nf a wd i) (hk : (k : Int) = i) (hi : i < sz) (hw : a ≤ (wd k).toInt) (ha : 1 ≤ a) (hr : r = (pl k).toInt) : zz_q0 pl wd sz a r := fun n h hn hu => zz_ff_some hu hf hk hi hw ha hn (zz_ru_lt hu (by omega) hn).1 hr
def zz_q2 (pl wd : Nat → Int32) (sz a e r : Int) : Prop := ∀ (n : Int) (h : Nat → Int32), 0 ≤ n → zz_ru n h pl wd sz → zz_ff n h a 0 e r
theorem zz_q2_no {pl wd : Nat → Int32} {sz a e r i : Int} (hf : zz_nf a wd i) (hi : sz ≤ i) (ha : 1 ≤ a) (hr : r = -1) : zz_q2 pl wd sz a e r := fun n h hn hu => zz_ff_none hu hf (fun j j1 j2 => by omega) ha hr
theorem zz_q2_no2 {pl wd : Nat → Int32} {sz a e r i : Int} {k : Nat} (hf : zz_nf a wd i) (hk : (k : Int) = i) (hi : i < sz) (he : e ≤ (pl k).toInt) (ha : 1 ≤ a) (hr : r = -1) : zz_q2 pl wd sz a e r := fun n h hn hu => zz_ff_none hu hf (fun j j1 j2 => by
  by_cases c : j = k
  · rw [c]; exact he
  · have := hu.2.2 k j (by omega) j1
    have := zz_ru_lt hu (k := k) (by omega) hn
    omega) ha hr
theorem zz_q2_yes {pl wd : Nat → Int32} {sz a e r i : Int} {k : Nat} (hf : zz_nf a wd i) (hk : (k : Int) = i) (hi : i < sz) (he : (pl k).toInt < e) (hw : a ≤ (wd k).toInt) (ha : 1 ≤ a) (hr : r = (pl k).toInt) : zz_q2 pl wd sz a e r := fun n h hn hu => zz_ff_some hu hf hk hi hw ha hn he hr
def zz_q1 (pl wd : Nat → Int32) (sz a e r : Int) : Prop := ∀ (n : Int) (h : Nat → Int32), 0 ≤ n → zz_ru n h pl wd sz → ((0 ≤ r ∧ zz_ff n h a e n r) ∨ (zz_ff n h a e n (-1) ∧ zz_ff n h a 0 e r))
theorem zz_q1_no {pl wd : Nat → Int32} {sz a e r i : Int} (hf : zz_nx a e pl wd i) (h2 : zz_q2 pl wd sz a e r) (hi : sz ≤ i) (ha : 1 ≤ a) (he : 0 ≤ e) : zz_q1 pl wd sz a e r := fun n h hn hu => Or.inr ⟨zz_nx_none hu hf hi ha he rfl, h2 n h hn hu⟩
theorem zz_q1_yes {pl wd : Nat → Int32} {sz a e r i : Int} {k : Nat} (hf : zz_nx a e pl wd i) (hk : (k : Int) = i) (hi : i < sz) (hr1 : (pl k).toInt ≤ r) (hr2 : e ≤ r) (hr3 : r = (pl k).toInt ∨ r = e) (hw : r + a ≤ (pl k).toInt + (wd k).toInt) (ha : 1 ≤ a) (he : 0 ≤ e) : zz_q1 pl wd sz a e r := fun n h hn hu => Or.inl ⟨by omega, zz_nx_some hu hf hk hi hr1 hr2 hr3 hw ha hn he (Int.le_refl _)⟩
def zz_q3 (b : Prop) (pl wd : Nat → Int32) (sz a r : Int) : Prop := ∀ (n : Int) (h : Nat → Int32), 0 ≤ n → zz_ru n h pl wd sz → zz_bf b n h a r
def zz_po (pl : Nat → Int32) (best r : Int) : Prop := (best < 0 ∧ r = -1) ∨ (0 ≤ best ∧ r = (pl best.toNat).toInt)
theorem zz_q3_end {b : Prop} {pl wd : Nat → Int32} {sz a best i r : Int} (hb : zz_bk9 b a wd best i) (hp : zz_po pl best r) (hi : sz ≤ i) (hi2 : i ≤ sz) (hb2 : -1 ≤ best) : zz_q3 b pl wd sz a r := fun n h hn hu => zz_bk9_end hu hb hi hi2 (by
  rcases hp with ⟨c, d⟩ | ⟨c, d⟩
  · exact Or.inl ⟨by omega, d⟩
  · exact Or.inr ⟨c, d⟩)
def zz_q (f : Int) (pl wd : Nat → Int32) (sz e a r : Int) : Prop := ∀ (n : Int) (h : Nat → Int32), 0 ≤ n → zz_ru n h pl wd sz → zz_pl f n h e a r
theorem zz_q_0 {f : Int} {pl wd : Nat → Int32} {sz e a r : Int} (h : zz_q0 pl wd sz a r) (hf : f = 0) : zz_q f pl wd sz e a r := fun n g hn hu => Or.inl ⟨hf, h n g hn hu⟩
theorem zz_q_1 {f : Int} {pl wd : Nat → Int32} {sz e a r : Int} (h : zz_q1 pl wd sz a e r) (hf : f = 1) : zz_q f pl wd sz e a r := fun n g hn hu => Or.inr (Or.inl ⟨hf, h n g hn hu⟩)
theorem zz_q_2 {f : Int} {pl wd : Nat → Int32} {sz e a r : Int} (h : zz_q3 True pl wd sz a r) (hf : f = 2) : zz_q f pl wd sz e a r := fun n g hn hu => Or.inr (Or.inr (Or.inl ⟨hf, h n g hn hu⟩))
theorem zz_q_3 {f : Int} {pl wd : Nat → Int32} {sz e a r : Int} (h : zz_q3 False pl wd sz a r) (hf : f = 3) : zz_q f pl wd sz e a r := fun n g hn hu => Or.inr (Or.inr (Or.inr ⟨hf, h n g hn hu⟩))
theorem zz_bk9_best {b : Prop} {a : Int} {wd : Nat → Int32} {i i' : Int} {x y : Int32} {k : Nat} (h : zz_bk9 b a wd x.toInt i) (hk : (k : Int) = i) (hi : i' = i + 1) (ha : a ≤ (wd k).toInt) (hw : x.toInt = -1 ∨ (b ∧ (wd k).toInt < (wd x.toNatClampNeg).toInt) ∨ (¬ b ∧ (wd x.toNatClampNeg).toInt < (wd k).toInt)) (hy : y.toInt = i) : zz_bk9 b a wd y.toInt i' := by
  rw [hy]
  exact zz_bk9_new h hk hi ha hw
theorem zz_bk9_stay {b : Prop} {a : Int} {wd : Nat → Int32} {i i' : Int} {x : Int32} {k : Nat} (h : zz_bk9 b a wd x.toInt i) (hk : (k : Int) = i) (hi : i' = i + 1) (hw : (wd k).toInt < a ∨ (0 ≤ x.toInt ∧ (b ∧ (wd x.toNatClampNeg).toInt ≤ (wd k).toInt ∨ ¬ b ∧ (wd k).toInt ≤ (wd x.toNatClampNeg).toInt))) : zz_bk9 b a wd x.toInt i' := zz_bk9_keep h hk hi hw

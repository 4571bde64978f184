/-! words of the reference's pages, quick rows, find, give, back: all forms -/
-- form 5
def zz_nq5 (F : Int → Prop) (p s x : Int) : Prop := ∀ r, zz_fq5 F p s x r → zz_fp5 F p s r
theorem zz_nq5_0 {F : Int → Prop} {p s x : Int} (hx : x = 32 * p) : zz_nq5 F p s x := fun _ h => zz_fq5_all h hx
theorem zz_nq5_step {F : Int → Prop} {p s x x' : Int} (h : zz_nq5 F p s x) (hx : x' = x + s) (hF : ¬ F x) (h0 : 32 * p ≤ x) (hs : 1 ≤ s) (hm : (x - 32 * p) % s = 0) : zz_nq5 F p s x' := fun r g => h r (zz_fq5_next g hx hF h0 hs hm)
theorem zz_nq5_hit {F : Int → Prop} {p s x : Int} (h : zz_nq5 F p s x) (hF : F x) (h0 : 32 * p ≤ x) (h1 : x < 32 * p + 32) (hm : (x - 32 * p) % s = 0) : zz_fp5 F p s x := h x (zz_fq5_hit hF h0 h1 hm rfl)
theorem zz_nq5_m {F : Int → Prop} {p s x : Int} (h : zz_nq5 F p s x) (hx : 32 * p + 32 ≤ x) : zz_fp5 F p s (-1) := h (-1) (zz_fq5_end hx rfl)
theorem zz_ca5_hit {G o : Nat → Int32} {pg x r : Int} {s : Int32} {i : Nat} (hf : zz_fp5 (fun y => zz_bk o y (y + s.toInt)) x s.toInt r) (hi : (i : Int) = x) (hx : x < pg) (hs : (G i).toInt = s.toInt) (hr : 0 ≤ r) : zz_ca5 G G o pg s x r := Or.inl ⟨hr, rfl, zz_tp5_hit hi hx hs hf hr⟩
theorem zz_ca5_c {G G' o : Nat → Int32} {pg x r : Int} {s : Int32} (h : zz_ca5 G G' o pg s x r) (hx : x = 0) : zz_cl5 G G' o pg s.toInt r := by
  subst hx
  rcases h with h | ⟨h, g⟩
  · exact Or.inl h
  · exact Or.inr ⟨h, zz_ne5_fr g rfl⟩
/-- rowOfPages -/
def zz_rw5 (G G' : Nat → Int32) (pg n r : Int) : Prop := ∃ q : Int, zz_fr5 G pg n q ∧ ((q = -1 ∧ r = -1 ∧ G' = G) ∨ (0 ≤ q ∧ r = 32 * q ∧ zz_wr G G' q (q + n) 64))
theorem zz_rw5_n {G : Nat → Int32} {pg n r : Int} (h : zz_fr5 G pg n (-1)) (hr : r = -1) : zz_rw5 G G pg n r := ⟨-1, h, Or.inl ⟨rfl, hr, rfl⟩⟩
theorem zz_rw5_y {G G' : Nat → Int32} {pg n r q a e : Int} (h : zz_fr5 G pg n q) (hG : zz_wr G G' a e 64) (hq : 0 ≤ q) (hr : r = 32 * q) (ha : a = q) (he : e = q + n) : zz_rw5 G G' pg n r := by
  subst ha
  subst he
  exact ⟨a, h, Or.inr ⟨hq, hr, hG⟩⟩
theorem zz_rw5_cg {G G' : Nat → Int32} {pg n n' r : Int} (h : zz_rw5 G G' pg n r) (e : n' = n) : zz_rw5 G G' pg n' r := by rw [e]; exact h
/-- freePages -/
def zz_fb5 (G G' o : Nat → Int32) (p n : Int) : Prop := (n ≤ 32 ∧ ∃ i : Nat, (i : Int) = p / 32 ∧ ((zz_bk o (32 * (i : Int)) (32 * (i : Int) + 32) ∧ G' = upd G i 0) ∨ (¬ zz_bk o (32 * (i : Int)) (32 * (i : Int) + 32) ∧ G' = G))) ∨ (32 < n ∧ zz_wr G G' (p / 32) ((p + n) / 32) 0)
theorem zz_fb5_y {G o : Nat → Int32} {p n a e r : Int} {i : Nat} (h : zz_ifr o a e r) (hr : r ≠ 0) (hn : n ≤ 32) (hi : (i : Int) = p / 32) (ha : a = 32 * (i : Int)) (he : e = 32 * (i : Int) + 32) : zz_fb5 G (upd G i 0) o p n := by
  have := zz_ifr_1 h hr
  rw [ha, he] at this
  exact Or.inl ⟨hn, i, hi, Or.inl ⟨this, rfl⟩⟩
theorem zz_fb5_n {G o : Nat → Int32} {p n a e r : Int} {i : Nat} (h : zz_ifr o a e r) (hr : r = 0) (hn : n ≤ 32) (hi : (i : Int) = p / 32) (ha : a = 32 * (i : Int)) (he : e = 32 * (i : Int) + 32) : zz_fb5 G G o p n := by
  have := zz_ifr_0 h hr
  rw [ha, he] at this
  exact Or.inl ⟨hn, i, hi, Or.inr ⟨this, rfl⟩⟩
theorem zz_fb5_b {G G' o : Nat → Int32} {p n a e : Int} (h : zz_wr G G' a e 0) (hn : 32 < n) (ha : a = p / 32) (he : e = (p + n) / 32) : zz_fb5 G G' o p n := by
  subst ha
  subst he
  exact Or.inr ⟨hn, h⟩
-- form 9
theorem zz_Q9_at {o qk qm : Nat → Int32} {s a b c : Int} {i j m : Nat} (h : zz_Q9 o qk qm s) (hs : s = a) (h1 : 1 ≤ a) (h8 : a ≤ 8) (hj : (j : Int) = 1024 * a + b) (hm : (m : Int) = a) (hb : 0 ≤ b) (hq : b < (qm m).toInt) (hi : (i : Int) = (qk j).toInt + c) (h0 : 0 ≤ c) (hc : c < a) : (o i).toInt = -2 ∨ (o i).toInt = -1 := by
  have e : 1024 * m + b.toNat = j := by omega
  refine h m b.toNat i (by omega) (by omega) (by omega) (by omega) ?_ ?_
  · rw [e]; omega
  · rw [e]; omega
theorem zz_Q9_row {o qk qm : Nat → Int32} {s s' : Int} {i : Nat} {v : Int32} (h : zz_Q9 o qk qm s) (hi : (i : Int) = s) (hs : s' = s + 1) : zz_Q9 o qk (upd qm i v) s' := zz_Q9_next h (by omega) (fun j hj => by rw [zz_updE, if_neg (by omega)])
theorem zz_Q9_cg {o qk qm : Nat → Int32} {s s' : Int} (h : zz_Q9 o qk qm s) (hs : s' = s) : zz_Q9 o qk qm s' := by rw [hs]; exact h
theorem zz_E9_rowu {o o' qk qm : Nat → Int32} {s s' k x : Int} {i : Nat} {v : Int32} (h : zz_E9 o o' qk (upd qm i v) s' 0 0) (hi : (i : Int) = s) (hs : s' = s + 1) (hk : (qm i).toInt ≤ k) : zz_E9 o o' qk qm s k x := zz_E9_row h hs (by omega) (by rw [show s.toNat = i by omega]; exact hk) (fun j hj => by rw [zz_updE, if_neg (by omega)])
def zz_zq9 (qm qm' : Nat → Int32) (a : Int) : Prop := (∀ j : Nat, a ≤ (j : Int) → j < 9 → (qm' j).toInt = 0) ∧ ∀ j : Nat, (j : Int) < a → qm' j = qm j
theorem zz_zq9_end {qm : Nat → Int32} {a : Int} (ha : 9 ≤ a) : zz_zq9 qm qm a := ⟨fun j h1 h2 => by omega, fun _ _ => rfl⟩
theorem zz_zq9_row {qm qm' : Nat → Int32} {a a' : Int} {i : Nat} {v : Int32} (h : zz_zq9 (upd qm i v) qm' a') (hi : (i : Int) = a) (ha : a' = a + 1) (hv : v.toInt = 0) : zz_zq9 qm qm' a := by
  refine ⟨fun j h1 h2 => ?_, fun j hj => ?_⟩
  · by_cases c : j = i
    · subst c
      rw [h.2 j (by omega), zz_updE, if_pos rfl]
      exact hv
    · exact h.1 j (by omega) h2
  · rw [h.2 j (by omega), zz_updE, if_neg (by omega)]
/-- what quick does: the first of its row, or a first fit, or one after all quick ones became free -/
def zz_qr9 (w : Int) (o o' qk qk' qm qm' : Nat → Int32) (n r : Int) : Prop := (n ≤ 8 ∧ o' = o ∧ ∃ i : Nat, (i : Int) = n ∧ 0 < (qm i).toInt ∧ r = (qk (1024 * i)).toInt ∧ zz_FL qk qk' n 0 ((qm i).toInt - 1) ∧ (qm' i).toInt = (qm i).toInt - 1 ∧ ∀ j : Nat, j ≠ i → qm' j = qm j) ∨ ((8 < n ∨ (qm n.toNat).toInt ≤ 0) ∧ qk' = qk ∧ ((0 ≤ r ∧ o' = o ∧ qm' = qm ∧ zz_ff w o n 0 w r) ∨ (zz_ff w o n 0 w (-1) ∧ zz_E9 o o' qk qm 1 0 0 ∧ zz_zq9 qm qm' 1 ∧ zz_ff w o' n 0 w r)))
theorem zz_qr9_a {w : Int} {o qk qk' qm : Nat → Int32} {n a r q : Int} {i j : Nat} {v : Int32} (h : zz_FL qk qk' a 0 q) (ha : a = n) (hn : n ≤ 8) (hi : (i : Int) = n) (hq : 0 < (qm i).toInt) (hv : v.toInt = (qm i).toInt - 1) (hqq : q = v.toInt) (hj : (j : Int) = 1024 * n) (hr : r = (qk j).toInt) : zz_qr9 w o o qk qk' qm (upd qm i v) n r := by
  subst ha
  refine Or.inl ⟨hn, rfl, i, hi, hq, ?_, ?_, ?_, fun k hk => ?_⟩
  · rw [show 1024 * i = j by omega]; exact hr
  · rw [← hv, ← hqq]; exact h
  · rw [zz_updE, if_pos rfl]; exact hv
  · rw [zz_updE, if_neg hk]
theorem zz_qr9_b {w : Int} {o qk qm : Nat → Int32} {n r a : Int} (hf : zz_ff w o n a w r) (ha : a = 0) (hr : 0 ≤ r) (hc : 8 < n ∨ ∃ i : Nat, (i : Int) = n ∧ (qm i).toInt ≤ 0) : zz_qr9 w o o qk qk qm qm n r := by
  subst ha
  refine Or.inr ⟨?_, rfl, Or.inl ⟨hr, rfl, rfl, hf⟩⟩
  rcases hc with c | ⟨i, i1, i2⟩
  · exact Or.inl c
  · exact Or.inr (by rw [show n.toNat = i by omega]; exact i2)
theorem zz_qr9_c {w w' : Int} {o o' qk qm qm' : Nat → Int32} {n r r0 a b : Int} (hf : zz_ff w o n a w r0) (hr0 : r0 = -1) (hE : zz_E9 o o' qk qm 1 0 0) (hz : zz_zq9 qm qm' 1) (hg : zz_ff w o' n b w' r) (ha : a = 0) (hb : b = 0) (hw : w' = w) (hc : 8 < n ∨ ∃ i : Nat, (i : Int) = n ∧ (qm i).toInt ≤ 0) : zz_qr9 w o o' qk qk qm qm' n r := by
  subst ha hb hw hr0
  refine Or.inr ⟨?_, rfl, Or.inr ⟨hf, hE, hz, hg⟩⟩
  rcases hc with c | ⟨i, i1, i2⟩
  · exact Or.inl c
  · exact Or.inr (by rw [show n.toNat = i by omega]; exact i2)
-- find
/-- what must hold ahead of a call, by the form -/
def zz_PR (f w W : Int) (o g qk qm : Nat → Int32) : Prop := (f = 4 → zz_P4 g 1024 ∧ zz_p2 W ∧ zz_z4 g W) ∧ (f = 9 → zz_Q9 o qk qm 1)
def zz_FA (f w le tp pg : Int) (o o' g g' G G' li lm li' lm' qk qk' qm qm' : Nat → Int32) (n sp : Int32) (r : Int) : Prop :=
  (0 ≤ f ∧ f ≤ 3 ∧ o' = o ∧ sp = n ∧ zz_pl f w o le n.toInt r) ∨
  (f = 4 ∧ o' = o ∧ zz_lpw n.toInt sp.toInt ∧ zz_t4r g g' w sp.toInt r) ∨
  (f = 5 ∧ o' = o ∧ zz_s5 n.toInt sp.toInt ∧ ((sp.toInt ≤ 32 ∧ zz_ca5 G G' o pg sp 0 r) ∨ (32 < sp.toInt ∧ zz_rw5 G G' pg (sp.toInt / 32) r))) ∨
  (f = 6 ∧ o' = o ∧ sp.toInt = (n.toInt + 3) / 4 * 4 ∧ zz_g6r o w (sp.toInt / 4) r) ∨
  (f = 7 ∧ o' = o ∧ sp = n ∧ zz_lx w o li lm li' lm' n.toNatClampNeg r) ∨
  (f = 8 ∧ o' = o ∧ sp = n ∧ ((w < tp + n.toInt ∧ r = -1) ∨ (tp + n.toInt ≤ w ∧ r = tp))) ∨
  (f = 9 ∧ sp = n ∧ zz_qr9 w o o' qk qk' qm qm' n.toInt r)
theorem zz_FA_0 {f w le tp pg : Int} {o g g' G G' li lm li' lm' qk qk' qm qm' : Nat → Int32} {n : Int32} {r : Int} {a b c : Int} (h : zz_ff w o a b c r) (hf : f = 0) (ha : a = n.toInt) (hb : b = 0) (hc : c = w) : zz_FA f w le tp pg o o g g' G G' li lm li' lm' qk qk' qm qm' n n r := by
  subst ha hb hc
  exact Or.inl ⟨by omega, by omega, rfl, rfl, Or.inl ⟨hf, h⟩⟩
theorem zz_FA_1a {f w le tp pg : Int} {o g g' G G' li lm li' lm' qk qk' qm qm' : Nat → Int32} {n : Int32} {r : Int} {a b c : Int} (h : zz_ff w o a b c r) (hf : f = 1) (hr : 0 ≤ r) (ha : a = n.toInt) (hb : b = le) (hc : c = w) : zz_FA f w le tp pg o o g g' G G' li lm li' lm' qk qk' qm qm' n n r := by
  subst ha hb hc
  exact Or.inl ⟨by omega, by omega, rfl, rfl, Or.inr (Or.inl ⟨hf, Or.inl ⟨hr, h⟩⟩)⟩
theorem zz_FA_1b {f w le tp pg : Int} {o g g' G G' li lm li' lm' qk qk' qm qm' : Nat → Int32} {n : Int32} {r : Int} {a b c a' b' c' q : Int} (h : zz_ff w o a b c q) (h2 : zz_ff w o a' b' c' r) (hf : f = 1) (hq : q = -1) (ha : a = n.toInt) (hb : b = le) (hc : c = w) (ha' : a' = n.toInt) (hb' : b' = 0) (hc' : c' = le) : zz_FA f w le tp pg o o g g' G G' li lm li' lm' qk qk' qm qm' n n r := by
  subst ha hb hc hq hb' hc'
  rw [ha'] at h2
  exact Or.inl ⟨by omega, by omega, rfl, rfl, Or.inr (Or.inl ⟨hf, Or.inr ⟨h, h2⟩⟩)⟩
theorem zz_FA_23 {f w le tp pg : Int} {o g g' G G' li lm li' lm' qk qk' qm qm' : Nat → Int32} {n : Int32} {r : Int} {a : Int} (h : zz_bf (f = 2) w o a r) (hf : f = 2 ∨ f = 3) (ha : a = n.toInt) : zz_FA f w le tp pg o o g g' G G' li lm li' lm' qk qk' qm qm' n n r := by
  subst ha
  exact Or.inl ⟨by omega, by omega, rfl, rfl, zz_pl_bf hf h⟩
theorem zz_FA_4 {f w le tp pg : Int} {o g g' G G' li lm li' lm' qk qk' qm qm' : Nat → Int32} {n sp : Int32} {r : Int} (h : zz_lpw n.toInt sp.toInt) (h2 : zz_t4r g g' w sp.toInt r) (hf : f = 4) : zz_FA f w le tp pg o o g g' G G' li lm li' lm' qk qk' qm qm' n sp r := Or.inr (Or.inl ⟨hf, rfl, h, h2⟩)
theorem zz_FA_5a {f w le tp pg : Int} {o g g' G G' li lm li' lm' qk qk' qm qm' : Nat → Int32} {n sp : Int32} {r : Int} (h : zz_lpw n.toInt sp.toInt) (h2 : zz_ca5 G G' o pg sp 0 r) (hf : f = 5) (hn : n.toInt ≤ 32) (hs : sp.toInt ≤ 32) : zz_FA f w le tp pg o o g g' G G' li lm li' lm' qk qk' qm qm' n sp r := Or.inr (Or.inr (Or.inl ⟨hf, rfl, Or.inl ⟨hn, h⟩, Or.inl ⟨hs, h2⟩⟩))
theorem zz_FA_5b {f w le tp pg : Int} {o g g' G G' li lm li' lm' qk qk' qm qm' : Nat → Int32} {n sp : Int32} {r : Int} {m : Int} (h2 : zz_rw5 G G' pg m r) (hf : f = 5) (hn : 32 < n.toInt) (hs : sp.toInt = (n.toInt + 31) / 32 * 32) (hm : m = sp.toInt / 32) : zz_FA f w le tp pg o o g g' G G' li lm li' lm' qk qk' qm qm' n sp r := by
  subst hm
  exact Or.inr (Or.inr (Or.inl ⟨hf, rfl, Or.inr ⟨hn, hs⟩, Or.inr ⟨by omega, h2⟩⟩))
theorem zz_FA_6 {f w le tp pg : Int} {o g g' G G' li lm li' lm' qk qk' qm qm' : Nat → Int32} {n sp : Int32} {r : Int} {m : Int} (h2 : zz_g6r o w m r) (hf : f = 6) (hs : sp.toInt = (n.toInt + 3) / 4 * 4) (hm : m = sp.toInt / 4) : zz_FA f w le tp pg o o g g' G G' li lm li' lm' qk qk' qm qm' n sp r := by
  subst hm
  exact Or.inr (Or.inr (Or.inr (Or.inl ⟨hf, rfl, hs, h2⟩)))
theorem zz_FA_7 {f w le tp pg : Int} {o g g' G G' li lm li' lm' qk qk' qm qm' : Nat → Int32} {n : Int32} {r : Int} (h : zz_lx w o li lm li' lm' n.toNatClampNeg r) (hf : f = 7) : zz_FA f w le tp pg o o g g' G G' li lm li' lm' qk qk' qm qm' n n r := Or.inr (Or.inr (Or.inr (Or.inr (Or.inl ⟨hf, rfl, rfl, h⟩))))
theorem zz_FA_8 {f w le tp pg : Int} {o g g' G G' li lm li' lm' qk qk' qm qm' : Nat → Int32} {n : Int32} {r : Int} (h : (w < tp + n.toInt ∧ r = -1) ∨ (tp + n.toInt ≤ w ∧ r = tp)) (hf : f = 8) : zz_FA f w le tp pg o o g g' G G' li lm li' lm' qk qk' qm qm' n n r := Or.inr (Or.inr (Or.inr (Or.inr (Or.inr (Or.inl ⟨hf, rfl, rfl, h⟩)))))
theorem zz_FA_9 {f w le tp pg : Int} {o o' g g' G G' li lm li' lm' qk qk' qm qm' : Nat → Int32} {n : Int32} {r : Int} (h : zz_qr9 w o o' qk qk' qm qm' n.toInt r) (hf : f = 9) : zz_FA f w le tp pg o o' g g' G G' li lm li' lm' qk qk' qm qm' n n r := Or.inr (Or.inr (Or.inr (Or.inr (Or.inr (Or.inr ⟨hf, rfl, h⟩)))))
theorem zz_PR_4 {f w W : Int} {o g qk qm : Nat → Int32} (h : zz_PR f w W o g qk qm) (hf : f = 4) : zz_P4 g 1024 := (h.1 hf).1
theorem zz_PR_4p {f w W : Int} {o g qk qm : Nat → Int32} (h : zz_PR f w W o g qk qm) (hf : f = 4) : zz_p2 W := (h.1 hf).2.1
theorem zz_PR_4z {f w W : Int} {o g qk qm : Nat → Int32} (h : zz_PR f w W o g qk qm) (hf : f = 4) : zz_z4 g W := (h.1 hf).2.2
theorem zz_PR_9 {f w W : Int} {o g qk qm : Nat → Int32} (h : zz_PR f w W o g qk qm) (hf : f = 9) : zz_Q9 o qk qm 1 := h.2 hf
-- give: what it leaves of lastEnd and the stack
def zz_SK (f x n s : Int) (le le' tp tp' st st' : Int) (kp ks kg kp' ks' kg' : Nat → Int32) (xv sv : Int32) : Prop := le' = x + s ∧ ((f = 8 ∧ tp' = x + n ∧ st' = st + 1 ∧ kp' = upd kp st.toNat xv ∧ ks' = upd ks st.toNat sv ∧ kg' = upd kg st.toNat 0) ∨ (f ≠ 8 ∧ tp' = tp ∧ st' = st ∧ kp' = kp ∧ ks' = ks ∧ kg' = kg))
theorem zz_SK_8 {f x n s le le' tp tp' st st' : Int} {kp ks kg : Nat → Int32} {xv sv z : Int32} {i : Nat} (hl : le' = x + s) (hf : f = 8) (ht : tp' = x + n) (hs : st' = st + 1) (hi : (i : Int) = st) (hz : z = 0) : zz_SK f x n s le le' tp tp' st st' kp ks kg (upd kp i xv) (upd ks i sv) (upd kg i z) xv sv := by
  subst hz
  have e : st.toNat = i := by omega
  exact ⟨hl, Or.inl ⟨hf, ht, hs, by rw [e], by rw [e], by rw [e]⟩⟩
theorem zz_SK_n {f x n s le le' tp st : Int} {kp ks kg : Nat → Int32} {xv sv : Int32} (hl : le' = x + s) (hf : f ≠ 8) : zz_SK f x n s le le' tp tp st st kp ks kg kp ks kg xv sv := ⟨hl, Or.inr ⟨hf, rfl, rfl, rfl, rfl, rfl⟩⟩
-- back: what becomes of the form (q the owners' new value)
def zz_BA (f W pg : Int) (o' g g' G G' li lm li' lm' : Nat → Int32) (w tp tp' st st' : Int) (kp kg kg' qk qk' qm qm' : Nat → Int32) (p s q : Int32) : Prop :=
  (0 ≤ f ∧ f ≤ 3 ∧ q.toInt = -1) ∨ (f = 4 ∧ q.toInt = -1 ∧ zz_jr W g g' p.toInt s.toInt ∧ zz_kp4 g g' W) ∨ (f = 5 ∧ q.toInt = -1 ∧ zz_fb5 G G' o' p.toInt s.toInt) ∨ (f = 6 ∧ q.toInt = -1) ∨ (f = 7 ∧ q.toInt = -1 ∧ zz_jx w o' li lm li' lm' p.toInt s.toInt) ∨ (f = 8 ∧ q.toInt = -1 ∧ zz_sk8 st tp p.toInt 0 kp kg kg' st' tp') ∨ (f = 9 ∧ 8 < s.toInt ∧ q.toInt = -1 ∧ qk' = qk ∧ qm' = qm) ∨ (f = 9 ∧ s.toInt ≤ 8 ∧ q.toInt = -2 ∧ ∃ i : Nat, (i : Int) = s.toInt ∧ zz_TL qk qk' s.toInt (qm i).toInt p ∧ (qm' i).toInt = (qm i).toInt + 1 ∧ ∀ j : Nat, j ≠ i → qm' j = qm j)
def zz_TQ (qk qk' qm qm' : Nat → Int32) (p s : Int32) (k : Int) : Prop := ∃ i : Nat, (i : Int) = s.toInt ∧ zz_TL qk qk' s.toInt k p ∧ (qm' i).toInt = (qm i).toInt + 1 ∧ ∀ j : Nat, j ≠ i → qm' j = qm j
theorem zz_TQ_nil {qk qm : Nat → Int32} {p s v : Int32} {k : Int} {i j : Nat} (hk : k ≤ 0) (hj : (j : Int) = 1024 * s.toInt) (hi : (i : Int) = s.toInt) (hv : v.toInt = (qm i).toInt + 1) : zz_TQ qk (upd qk j p) qm (upd qm i v) p s k := ⟨i, hi, zz_TL_nil hk hj, by rw [zz_updE, if_pos rfl]; exact hv, fun a ha => by rw [zz_updE, if_neg ha]⟩
theorem zz_TQ_step {qk qk' qm qm' : Nat → Int32} {p s : Int32} {k k' : Int} {i j : Nat} (h : zz_TQ (upd qk i (qk j)) qk' qm qm' p s k') (hk : 0 < k) (hk' : k' = k - 1) (hi : (i : Int) = 1024 * s.toInt + k) (hj : (j : Int) = 1024 * s.toInt + k - 1) : zz_TQ qk qk' qm qm' p s k := by
  obtain ⟨a, a1, a2, a3, a4⟩ := h
  exact ⟨a, a1, zz_TL_step a2 hk hk' hi hj, a3, a4⟩
theorem zz_TQ_at {qk qk' qm qm' : Nat → Int32} {p s : Int32} {k : Int} {i : Nat} (h : zz_TQ qk qk' qm qm' p s k) (hi : (i : Int) = s.toInt) (hk : k = (qm i).toInt) : ∃ i : Nat, (i : Int) = s.toInt ∧ zz_TL qk qk' s.toInt (qm i).toInt p ∧ (qm' i).toInt = (qm i).toInt + 1 ∧ ∀ j : Nat, j ≠ i → qm' j = qm j := by
  obtain ⟨a, a1, a2, a3, a4⟩ := h
  have e : a = i := by omega
  subst e
  rw [hk] at a2
  exact ⟨a, a1, a2, a3, a4⟩
/-- the words that a back changes, from a on; P what became of the form -/
def zz_BL (x : Int) (o o' : Nat → Int32) (a e : Int) (P : Int32 → Prop) : Prop := ∃ q : Int32, ((x = 0 ∧ q = -1) ∨ (x ≠ 0 ∧ q = -2)) ∧ zz_wr o o' a e q ∧ P q
theorem zz_BL_0 {x a e : Int} {o : Nat → Int32} {P : Int32 → Prop} (hx : x = 0) (ha : e ≤ a) (hP : P (-1)) : zz_BL x o o a e P := ⟨-1, Or.inl ⟨hx, rfl⟩, zz_wr_nil ha, hP⟩
theorem zz_BL_1 {x a e : Int} {o : Nat → Int32} {P : Int32 → Prop} (hx : x ≠ 0) (ha : e ≤ a) (hP : P (-2)) : zz_BL x o o a e P := ⟨-2, Or.inr ⟨hx, rfl⟩, zz_wr_nil ha, hP⟩
theorem zz_BL_step {x a a' e : Int} {o o' : Nat → Int32} {P : Int32 → Prop} {i : Nat} {v : Int32} (h : zz_BL x (upd o i v) o' a' e P) (hv : (x = 0 ∧ v = -1) ∨ (x ≠ 0 ∧ v = -2)) (hi : (i : Int) = a) (ha : a' = a + 1) (he : a < e) : zz_BL x o o' a e P := by
  obtain ⟨q, q1, q2, q3⟩ := h
  have e : q = v := by
    rcases q1 with ⟨a, b⟩ | ⟨a, b⟩ <;> rcases hv with ⟨c, d⟩ | ⟨c, d⟩
    · rw [b, d]
    · exact absurd a c
    · exact absurd c a
    · rw [b, d]
  subst e
  exact ⟨q, q1, zz_wr_step q2 hi ha he, q3⟩
def zz_PL (f W : Int) (g : Nat → Int32) (p s : Int) : Prop := f = 4 → zz_p2 W ∧ zz_z4 g W ∧ p + s ≤ W
theorem zz_PL_p {f W p s : Int} {g : Nat → Int32} (h : zz_PL f W g p s) (hf : f = 4) : zz_p2 W := (h hf).1
theorem zz_PL_z {f W p s : Int} {g : Nat → Int32} (h : zz_PL f W g p s) (hf : f = 4) : zz_z4 g W := (h hf).2.1
theorem zz_PL_l {f W p s : Int} {g : Nat → Int32} (h : zz_PL f W g p s) (hf : f = 4) : p + s ≤ W := (h hf).2.2
def zz_PB (f w W : Int) (o nu pl sp g : Nat → Int32) : Prop := f = 4 → zz_p2 W ∧ zz_z4 g W ∧ ∀ b : Nat, b < 200 → zz_us w o nu pl b → (pl b).toInt + (sp b).toInt ≤ W
theorem zz_PB_L {f w W x : Int} {o nu pl sp g : Nat → Int32} {b v : Int32} (h : zz_PB f w W o nu pl sp g) (hb : zz_box w o nu pl v x) (hx : x = b.toInt) (h0 : 0 ≤ b.toInt) : zz_PL f W g (pl b.toNatClampNeg).toInt (sp b.toNatClampNeg).toInt := fun hf => by
  obtain ⟨h1, h2, h3⟩ := h hf
  rcases hb with ⟨c, _⟩ | ⟨_, c2, _, c4⟩
  · omega
  · have e : x.toNat = b.toNatClampNeg := by have := zz_tnI b h0; omega
    rw [e] at c4
    exact ⟨h1, h2, h3 _ (by omega) c4⟩
theorem zz_BF_n {th w bl r x : Int} {p1 : Int32} {o nu pl sp : Nat → Int32} {SM : Prop} {TB : Int32 → Int32 → Int32 → Prop} (h : zz_box w o nu pl (p1 + ((1 : Int32))) x) (hx : x < 0 ∨ p1.toInt < 0) (ht : th = 2) (hS : SM) : zz_BF th p1 w bl o nu pl sp r bl o nu SM TB := by
  refine Or.inl ⟨ht, ?_, rfl, rfl, rfl, hS⟩
  rcases hx with c | c
  · rcases h with ⟨_, h⟩ | ⟨h, _⟩
    · exact Or.inr h
    · omega
  · exact Or.inl c
theorem zz_BF_y {th w bl r bl' y : Int} {p1 x : Int32} {o nu pl sp o' nu' : Nat → Int32} {SM : Prop} {TB : Int32 → Int32 → Int32 → Prop} (h : zz_box w o nu pl (p1 + ((1 : Int32))) x.toInt) (hx : 0 ≤ x.toInt) (hp : 0 ≤ p1.toInt) (ht : th = 0) (hr : r = (pl x.toNatClampNeg).toInt) (hb : bl' = bl - 1) (hw : zz_BL y o o' (pl x.toNatClampNeg).toInt ((pl x.toNatClampNeg).toInt + (sp x.toNatClampNeg).toInt) (fun q => TB (pl x.toNatClampNeg) (sp x.toNatClampNeg) q)) (hn : nu' = upd nu x.toNatClampNeg 0) : zz_BF th p1 w bl o nu pl sp r bl' o' nu' SM TB := by
  obtain ⟨q, q1, q2, q3⟩ := hw
  rcases h with ⟨c, _⟩ | ⟨_, c2, c3, c4⟩
  · omega
  · have e : x.toInt.toNat = x.toNatClampNeg := by have := zz_tnI x hx; omega
    rw [e] at c3 c4
    refine Or.inr ⟨ht, hp, x.toNatClampNeg, q, by omega, c3, c4, hr, hb, ?_, q2, hn, q3⟩
    rcases q1 with ⟨_, d⟩ | ⟨_, d⟩
    · exact Or.inl (by rw [d]; decide)
    · exact Or.inr (by rw [d]; decide)
-- about, at, run
def zz_AF (th : Int) (p1 : Int32) (p2 r w : Int) (o nu pl sp as : Nat → Int32) : Prop := (th = 1 ∧ (p2 < 0 ∨ 2 < p2)) ∨ (0 ≤ p2 ∧ p2 ≤ 2 ∧ ((th = 3 ∧ (p1.toInt < 0 ∨ zz_nk w o nu pl (p1 + ((1 : Int32))) 200)) ∨ (th = 0 ∧ 0 ≤ p1.toInt ∧ ∃ b : Nat, b < 200 ∧ nu b = p1 + ((1 : Int32)) ∧ zz_us w o nu pl b ∧ ((p2 = 0 ∧ r = (pl b).toInt) ∨ (p2 = 1 ∧ r = (sp b).toInt) ∨ (p2 = 2 ∧ r = (as b).toInt)))))
theorem zz_AF_n {th p2 r w x : Int} {p1 : Int32} {o nu pl sp as : Nat → Int32} (h : zz_box w o nu pl (p1 + ((1 : Int32))) x) (hx : x < 0 ∨ p1.toInt < 0) (ht : th = 3) (h0 : 0 ≤ p2) (h2 : p2 ≤ 2) : zz_AF th p1 p2 r w o nu pl sp as := by
  refine Or.inr ⟨h0, h2, Or.inl ⟨ht, ?_⟩⟩
  rcases hx with c | c
  · rcases h with ⟨_, h⟩ | ⟨h, _⟩
    · exact Or.inr h
    · omega
  · exact Or.inl c
theorem zz_AF_y {th p2 r w : Int} {p1 x : Int32} {o nu pl sp as : Nat → Int32} (h : zz_box w o nu pl (p1 + ((1 : Int32))) x.toInt) (hx : 0 ≤ x.toInt) (hp : 0 ≤ p1.toInt) (ht : th = 0) (hr : (p2 = 0 ∧ r = (pl x.toNatClampNeg).toInt) ∨ (p2 = 1 ∧ r = (sp x.toNatClampNeg).toInt) ∨ (p2 = 2 ∧ r = (as x.toNatClampNeg).toInt)) : zz_AF th p1 p2 r w o nu pl sp as := by
  rcases h with ⟨c, _⟩ | ⟨_, c2, c3, c4⟩
  · omega
  · have e : x.toInt.toNat = x.toNatClampNeg := by have := zz_tnI x hx; omega
    rw [e] at c3 c4
    exact Or.inr ⟨by omega, by omega, Or.inr ⟨ht, hp, x.toNatClampNeg, by omega, c3, c4, hr⟩⟩
def zz_TF (th : Int) (p1 : Int32) (r : Int) (w : Int) (o nu : Nat → Int32) : Prop := (th = 1 ∧ (p1.toInt < 0 ∨ w ≤ p1.toInt)) ∨ (th = 0 ∧ 0 ≤ p1.toInt ∧ p1.toInt < w ∧ (((o p1.toNatClampNeg).toInt < 0 ∧ r = -1) ∨ (0 ≤ (o p1.toNatClampNeg).toInt ∧ r = ((nu (o p1.toNatClampNeg).toNatClampNeg) - ((1 : Int32))).toInt)))
/-- run, from run k on -/
def zz_RG (th i part r w : Int) (o : Nat → Int32) : Prop := (th = 3 ∧ (i < 0 ∨ (0 ≤ i ∧ ∃ sz, zz_rk w o i (-1) sz))) ∨ (th = 0 ∧ 0 ≤ i ∧ ∃ p sz, 0 ≤ p ∧ zz_rk w o i p sz ∧ ((part = 0 ∧ r = p) ∨ (part = 1 ∧ r = sz)))
theorem zz_RG_3 {th i part r w p sz k : Int} {o : Nat → Int32} (h : zz_rk w o k p sz) (ht : th = 3) (hp : p = -1) (hk : k ≤ i) (hi : 0 ≤ i) : zz_RG th i part r w o := Or.inl ⟨ht, Or.inr ⟨hi, sz, zz_rk_stay h hp rfl hk⟩⟩
theorem zz_RG_0 {th i part r w p sz k : Int} {o : Nat → Int32} (h : zz_rk w o k p sz) (ht : th = 0) (hp : 0 ≤ p) (hk : k = i) (hi : 0 ≤ i) (hr : (part = 0 ∧ r = p) ∨ (part = 1 ∧ r = sz)) : zz_RG th i part r w o := by
  subst hk
  exact Or.inr ⟨ht, hi, p, sz, hp, h, hr⟩
def zz_RF (th p1 p2 r w : Int) (o : Nat → Int32) : Prop := (th = 1 ∧ (p2 < 0 ∨ 1 < p2)) ∨ (0 ≤ p2 ∧ p2 ≤ 1 ∧ zz_RG th p1 p2 r w o)
/-- without a room, the reference -/
def zz_NF (th : Int) (P : Prop) : Prop := (th = 1 ∧ P) ∨ (th = 2 ∧ ¬ P)
-- open
def zz_OG (n W pg le tp st : Int) (g G qm : Nat → Int32) : Prop := zz_gpw n W ∧ zz_b4 g W ∧ pg = n / 32 ∧ le = 0 ∧ tp = 0 ∧ st = 0 ∧ zz_zr G 32 ∧ zz_zr qm 9
theorem zz_OG_mk {n W pg le tp st a b : Int} {g G qm : Nat → Int32} (h1 : zz_gpw n W) (h2 : zz_b4 g W) (h3 : pg = n / 32) (h4 : le = 0) (h5 : tp = 0) (h6 : st = 0) (h7 : zz_zr G a) (ha : 32 ≤ a) (h8 : zz_zr qm b) (hb : 9 ≤ b) : zz_OG n W pg le tp st g G qm := ⟨h1, h2, h3, h4, h5, h6, fun j hj => h7 j (by omega), fun j hj => h8 j (by omega)⟩
theorem zz_zr_le {f : Nat → Int32} {x y : Int} (h : zz_zr f x) (hy : y ≤ x) : zz_zr f y := fun j hj => h j (by omega)
theorem zz_b4_u {g : Nat → Int32} {W a : Int} {i : Nat} {v : Int32} (h : zz_zr g a) (ha : 1024 ≤ a) (hi : i = 0) (hv : v.toInt = W) : zz_b4 (upd g i v) W := by
  subst hi
  refine ⟨by rw [zz_updE, if_pos rfl]; exact hv, fun x h1 h2 => ?_⟩
  rw [zz_updE, if_neg (by omega)]
  exact h x (by omega)
def zz_OF (th p1 p2 : Int) (same : Prop) (f' w' bl' g' : Int) (o' li' lm' : Nat → Int32) (EX : Prop) : Prop := (th = 1 ∧ (p1 < 0 ∨ 9 < p1 ∨ p2 < 16 ∨ 1024 < p2) ∧ same) ∨ (th = 0 ∧ 0 ≤ p1 ∧ p1 ≤ 9 ∧ 16 ≤ p2 ∧ p2 ≤ 1024 ∧ f' = p1 ∧ w' = p2 ∧ bl' = 0 ∧ g' = 0 ∧ zz_op o' 1024 ∧ zz_RO f' w' li' lm' ∧ EX)
/-- what a give leaves of lastEnd and the stack, found or not -/
def zz_SX (f x n s : Int) (le le' tp tp' st st' : Int) (kp ks kg kp' ks' kg' : Nat → Int32) (xv sv : Int32) : Prop := (x < 0 ∧ le' = le ∧ tp' = tp ∧ st' = st ∧ kp' = kp ∧ ks' = ks ∧ kg' = kg) ∨ (0 ≤ x ∧ zz_SK f x n s le le' tp tp' st st' kp ks kg kp' ks' kg' xv sv)

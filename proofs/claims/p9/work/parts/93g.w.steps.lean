/-! worst: the class's steps -/
theorem zz_lo14' {x : Int32} (h : ∀ w, 14 ≤ w → zz_bt x w = false) : 0 ≤ x.toInt ∧ x.toInt < 16384 := by
  have k : x.toBitVec.toNat < 2 ^ 14 := Nat.lt_pow_two_of_testBit _ (fun i hi => h i hi)
  have := zz_toNat (x := x) (by omega)
  omega
theorem zz_msk (a p : Int32) (h0 : 1 ≤ a.toInt) (h1 : a.toInt ≤ 4) (h2 : 0 ≤ p.toInt) (h3 : p.toInt + a.toInt ≤ 14) (w : Nat) (hw : w < 32) : zz_bt (((((1 : Int32)) <<< (a &&& 31)) - ((1 : Int32))) <<< (p &&& 31)) w = (decide (p.toInt.toNat ≤ w) && decide (w < p.toInt.toNat + a.toInt.toNat)) := by
  rw [zz_bt_shl _ _ _ h2 (by omega) hw]
  have key : ∀ (c : Nat) (z : Int32), (∀ j, zz_bt z j = decide (j < c)) → (decide (p.toInt.toNat ≤ w) && zz_bt z (w - p.toInt.toNat)) = (decide (p.toInt.toNat ≤ w) && decide (w < p.toInt.toNat + c)) := fun c z hz => by
    rw [hz]
    generalize p.toInt.toNat = q
    by_cases d : q ≤ w
    · simp only [d, decide_true, Bool.true_and]
      congr 1
      exact propext ⟨fun _ => by omega, fun _ => by omega⟩
    · simp [d]
  have lit : ∀ (c v : Nat), v = 2 ^ c - 1 → v < 4294967296 → ∀ j, zz_bt (Int32.ofNat v) j = decide (j < c) := fun c v hv hl j => by
    show (BitVec.ofNat 32 v).toNat.testBit j = _
    rw [BitVec.toNat_ofNat, Nat.mod_eq_of_lt hl, hv, Nat.testBit_two_pow_sub_one]
  rcases (show a.toInt = 1 ∨ a.toInt = 2 ∨ a.toInt = 3 ∨ a.toInt = 4 by omega) with c | c | c | c
  · have e : a = 1 := Int32.toInt_inj.mp c
    rw [e, show ((((1 : Int32)) <<< ((1 : Int32) &&& 31)) - ((1 : Int32))) = Int32.ofNat 1 from by decide]
    exact key 1 _ (lit 1 1 rfl (by decide))
  · have e : a = 2 := Int32.toInt_inj.mp c
    rw [e, show ((((1 : Int32)) <<< ((2 : Int32) &&& 31)) - ((1 : Int32))) = Int32.ofNat 3 from by decide]
    exact key 2 _ (lit 2 3 rfl (by decide))
  · have e : a = 3 := Int32.toInt_inj.mp c
    rw [e, show ((((1 : Int32)) <<< ((3 : Int32) &&& 31)) - ((1 : Int32))) = Int32.ofNat 7 from by decide]
    exact key 3 _ (lit 3 7 rfl (by decide))
  · have e : a = 4 := Int32.toInt_inj.mp c
    rw [e, show ((((1 : Int32)) <<< ((4 : Int32) &&& 31)) - ((1 : Int32))) = Int32.ofNat 15 from by decide]
    exact key 4 _ (lit 4 15 rfl (by decide))
/-- the room of taken T, begins B, end E -/
def zz_rv (T B E : Int32) : Int := zz_cd (zz_hb (zz_bt T) (zz_bt B)) E.toInt
def zz_tbe (n : Int) (T B E : Int32) : Prop := 0 ≤ T.toInt ∧ T.toInt < 16384 ∧ 0 ≤ B.toInt ∧ B.toInt < 16384 ∧ 0 ≤ E.toInt ∧ E.toInt < 16 ∧ zz_wf n.toNat (zz_bt T) (zz_bt B)
theorem zz_tbe_cc {n : Int} {T B E : Int32} (h : zz_tbe n T B E) : zz_cc (zz_mk T B E) = zz_rv T B E ∧ zz_wf n.toNat (zz_tb (zz_mk T B E)) (zz_bb (zz_mk T B E)) := by
  obtain ⟨h0, h1, h2, h3, h4, h5, h6⟩ := h
  exact ⟨zz_mk_cc h0 h1 h2 h3 h4 h5, by rw [zz_mk_tb h0 h1, zz_mk_bb h0 h1 h2 h3]; exact h6⟩
theorem zz_rv_hv {n : Int} {T B E : Int32} (h : zz_tbe n T B E) : (∀ k : Nat, k < 14 → zz_hv (zz_rv T B E) k = zz_hb (zz_bt T) (zz_bt B) k) ∧ zz_rv T B E % 16 = E.toInt :=
  ⟨fun k hk => zz_hv_cd (zz_hb_has (n := 14)) h.2.2.2.2.1 h.2.2.2.2.2.1 hk, zz_ev_cd h.2.2.2.2.1 h.2.2.2.2.2.1⟩
theorem zz_as_pc {T : Int32} {b : Nat → Bool} (h0 : 0 ≤ T.toInt) : ∀ k, k ≤ 14 → zz_as (zz_hb (zz_bt T) b) k = (zz_pcn T.toInt.toNat k : Int)
  | 0, _ => rfl
  | k + 1, hk => by
    have ih := zz_as_pc (b := b) h0 k (by omega)
    show zz_as (zz_hb (zz_bt T) b) k + _ = ((zz_pcn T.toInt.toNat k + _ : Nat) : Int)
    have e : zz_bt T k = T.toInt.toNat.testBit k := by
      obtain ⟨h2, h3⟩ := zz_ofInt h0
      show T.toBitVec.toNat.testBit k = _
      rw [h3]
      rfl
    rw [ih, ← e]
    by_cases c : zz_bt T k = true
    · rw [if_neg (by rw [zz_hb_t (by omega) c]; omega), if_pos c]; omega
    · rw [if_pos (by rw [zz_hb_f (Bool.eq_false_iff.mpr c)]; decide), if_neg c]; omega
theorem zz_tbe_fill {n : Int} {T B E a p E' : Int32} (h : zz_tbe n T B E) (hn : n ≤ 14) (h0 : 1 ≤ a.toInt) (h1 : a.toInt ≤ 4) (h2 : 0 ≤ p.toInt) (h3 : p.toInt + a.toInt ≤ n) (hf : ∀ x : Nat, p.toInt ≤ (x : Int) → (x : Int) < p.toInt + a.toInt → (zz_hb (zz_bt T) (zz_bt B) x).toInt = -1) (h4 : 0 ≤ E'.toInt) (h5 : E'.toInt < 16) : zz_tbe n (T ||| (((((1 : Int32)) <<< (a &&& 31)) - ((1 : Int32))) <<< (p &&& 31))) (B ||| (((1 : Int32)) <<< (p &&& 31))) E' ∧ zz_rv (T ||| (((((1 : Int32)) <<< (a &&& 31)) - ((1 : Int32))) <<< (p &&& 31))) (B ||| (((1 : Int32)) <<< (p &&& 31))) E' = zz_cd (zz_fill (zz_hv (zz_rv T B E)) p.toInt a.toInt) E'.toInt := by
  have hv := zz_rv_hv h
  obtain ⟨g0, g1, g2, g3, g4, g5, g6⟩ := h
  have bT : ∀ w, zz_bt (T ||| (((((1 : Int32)) <<< (a &&& 31)) - ((1 : Int32))) <<< (p &&& 31))) w = (zz_bt T w || (decide (p.toInt.toNat ≤ w) && decide (w < p.toInt.toNat + a.toInt.toNat))) := fun w => by
    rw [zz_bt_or]
    by_cases c : w < 32
    · rw [zz_msk a p h0 h1 h2 (by omega) w c]
    · rw [zz_bt32 T (by omega), zz_bt32 (((((1 : Int32)) <<< (a &&& 31)) - ((1 : Int32))) <<< (p &&& 31)) (by omega), decide_eq_false (show ¬ w < p.toInt.toNat + a.toInt.toNat by omega), Bool.and_false]
  have bB : ∀ w, zz_bt (B ||| (((1 : Int32)) <<< (p &&& 31))) w = (zz_bt B w || decide (w = p.toInt.toNat)) := fun w => by
    rw [zz_bt_or]
    by_cases c : w < 32
    · rw [zz_bt_one p w h2 (by omega) c]
      congr 1
      rw [decide_eq_decide]
      constructor <;> intro _ <;> omega
    · rw [zz_bt32 (((1 : Int32)) <<< (p &&& 31)) (by omega), decide_eq_false (show ¬ w = p.toInt.toNat by omega)]
  obtain ⟨f1, f2⟩ := zz_hb_fill (p := p.toInt.toNat) (a := a.toInt.toNat) g6 (by omega) (by omega) (fun x x1 x2 => (zz_hb_neg (by omega)).mp (hf x (by omega) (by omega))) bT bB
  have rT := zz_lo14' (x := T ||| (((((1 : Int32)) <<< (a &&& 31)) - ((1 : Int32))) <<< (p &&& 31))) (fun w hw => by rw [bT, zz_lo14 g0 g1 hw, decide_eq_false (show ¬ w < p.toInt.toNat + a.toInt.toNat by omega)]; simp)
  have rB := zz_lo14' (x := B ||| (((1 : Int32)) <<< (p &&& 31))) (fun w hw => by rw [bB, zz_lo14 g2 g3 hw, decide_eq_false (show ¬ w = p.toInt.toNat by omega)]; rfl)
  refine ⟨⟨rT.1, rT.2, rB.1, rB.2, h4, h5, f1⟩, zz_cd_cg (fun k hk => ?_) rfl⟩
  rw [f2 (by omega) k hk]
  show (if ((p.toInt.toNat : Nat) : Int) ≤ (k : Int) ∧ (k : Int) < ((p.toInt.toNat : Nat) : Int) + ((a.toInt.toNat : Nat) : Int) then Int32.ofInt ((p.toInt.toNat : Nat) : Int) else zz_hb (zz_bt T) (zz_bt B) k) = (if p.toInt ≤ (k : Int) ∧ (k : Int) < p.toInt + a.toInt then Int32.ofInt p.toInt else zz_hv (zz_rv T B E) k)
  rw [hv.1 k hk, show ((p.toInt.toNat : Nat) : Int) = p.toInt by omega, show ((a.toInt.toNat : Nat) : Int) = a.toInt by omega]
-- lists
def zz_go (f m l n : Int) (rm : Nat → Int32) (met : Int) (rm' : Nat → Int32) (met' v ph ph' r : Int) : Prop := ∀ i : Nat, (zz_cl rm met)[i]? = some v → (r = 0 → (zz_cl rm' met')[i]? = some v ∧ ∀ o, zz_res f m l n (zz_cl rm' met') i ph'.toNat o → zz_res f m l n (zz_cl rm met) i ph.toNat o) ∧ (r = 1 → zz_res f m l n (zz_cl rm met) i ph.toNat 0) ∧ (r = 2 → zz_res f m l n (zz_cl rm met) i ph.toNat (-1))
theorem zz_mt_at {rm rm' : Nat → Int32} {met met' c r v : Int} {i : Nat} (h : zz_mt rm met rm' met' c r) (hr : r = 1) (hv : (zz_cl rm met)[i]? = some v) : (zz_cl rm' met')[i]? = some v := by
  rcases h with ⟨_, h, _⟩ | ⟨_, _, h⟩ | ⟨_, _, h, _⟩
  · rw [h]; exact hv
  · omega
  · rw [h, List.getElem?_append_left]
    · exact hv
    · exact (List.getElem?_eq_some_iff.mp hv).1
theorem zz_mt_ev {f m l n : Int} {rm rm' : Nat → Int32} {met met' c r o : Int} {i ph : Nat} (h : zz_mt rm met rm' met' c r) (hr : r = 1) (ho : zz_res f m l n (zz_cl rm' met') i (ph + 1) o) : zz_ev f m l n (zz_cl rm met) i ph c o := by
  rcases h with ⟨h1, h, _⟩ | ⟨_, _, h⟩ | ⟨h1, h2, h, _⟩
  · rw [h] at ho; exact Or.inl ⟨h1, ho⟩
  · omega
  · rw [h] at ho; exact Or.inr (Or.inr ⟨h1, h2, ho⟩)
theorem zz_mt_ev0 {f m l n : Int} {rm rm' : Nat → Int32} {met met' c r : Int} {i ph : Nat} (h : zz_mt rm met rm' met' c r) (hr : r = 0) : zz_ev f m l n (zz_cl rm met) i ph c (-1) := by
  rcases h with ⟨_, _, h⟩ | ⟨h1, h2, _⟩ | ⟨_, _, _, h⟩
  · omega
  · exact Or.inr (Or.inl ⟨h1, h2, rfl⟩)
  · omega
theorem zz_go_come {f m l n : Int} {rm rm1 rm' : Nat → Int32} {met met1 met' v ph ph1 ph' r c r0 : Int} (he : zz_evt f m l n v ph.toNat (some (some c))) (hm : zz_mt rm met rm1 met1 c r0) (hr0 : r0 = 1) (hg : zz_go f m l n rm1 met1 rm' met' v ph1 ph' r) (h1 : ph1 = ph + 1) (h0 : 0 ≤ ph) (hp : ph ≤ m + n) : zz_go f m l n rm met rm' met' v ph ph' r := fun i hi => by
  obtain ⟨g1, g2, g3⟩ := hg i (zz_mt_at hm hr0 hi)
  rw [show ph1.toNat = ph.toNat + 1 by omega] at g1 g2 g3
  refine ⟨fun hr => ⟨(g1 hr).1, fun o ho => ?_⟩, fun hr => ?_, fun hr => ?_⟩
  · exact zz_res_come hi (by omega) he (zz_mt_ev hm hr0 ((g1 hr).2 o ho))
  · exact zz_res_come hi (by omega) he (zz_mt_ev hm hr0 (g2 hr))
  · exact zz_res_come hi (by omega) he (zz_mt_ev hm hr0 (g3 hr))
theorem zz_go_full {f m l n : Int} {rm rm1 rm' : Nat → Int32} {met met1 met' v ph ph' r c r0 : Int} (he : zz_evt f m l n v ph.toNat (some (some c))) (hm : zz_mt rm met rm1 met1 c r0) (hr0 : r0 = 0) (hr : r = 2) (h0 : 0 ≤ ph) (hp : ph ≤ m + n) : zz_go f m l n rm met rm' met' v ph ph' r := fun i hi =>
  ⟨fun z => by omega, fun z => by omega, fun _ => zz_res_come hi (by omega) he (zz_mt_ev0 hm hr0)⟩
theorem zz_go_fail {f m l n : Int} {rm rm' : Nat → Int32} {met met' v ph ph' r : Int} (he : zz_evt f m l n v ph.toNat (some none)) (hr : r = 1) (h0 : 0 ≤ ph) (hp : ph ≤ m + n) : zz_go f m l n rm met rm' met' v ph ph' r := fun i hi =>
  ⟨fun z => by omega, fun _ => zz_res_fail hi (by omega) he rfl, fun z => by omega⟩
theorem zz_go_skip {f m l n : Int} {rm rm' : Nat → Int32} {met met' v ph ph1 ph' r : Int} (he : zz_evt f m l n v ph.toNat none) (hg : zz_go f m l n rm met rm' met' v ph1 ph' r) (h1 : ph1 = ph + 1) (h0 : 0 ≤ ph) (hp : ph ≤ m + n) : zz_go f m l n rm met rm' met' v ph ph' r := fun i hi => by
  obtain ⟨g1, g2, g3⟩ := hg i hi
  rw [show ph1.toNat = ph.toNat + 1 by omega] at g1 g2 g3
  exact ⟨fun hr => ⟨(g1 hr).1, fun o ho => zz_res_skip hi (by omega) he ((g1 hr).2 o ho)⟩, fun hr => zz_res_skip hi (by omega) he (g2 hr), fun hr => zz_res_skip hi (by omega) he (g3 hr)⟩
theorem zz_go_stay {f m l n : Int} {rm : Nat → Int32} {met v ph ph' r : Int} (e : ph = ph') (hr : r = 0) : zz_go f m l n rm met rm met v ph ph' r := fun i hi =>
  ⟨fun _ => ⟨hi, fun o ho => by rw [e]; exact ho⟩, fun z => by omega, fun z => by omega⟩
theorem zz_go_two {f m l n : Int} {rm rm1 rm' : Nat → Int32} {met met1 met' v ph ph1 ph' r0 r : Int} (h1 : zz_go f m l n rm met rm1 met1 v ph ph1 r0) (h2 : zz_go f m l n rm1 met1 rm' met' v ph1 ph' r) (hr0 : r0 = 0) : zz_go f m l n rm met rm' met' v ph ph' r := fun i hi => by
  obtain ⟨a1, a2⟩ := (h1 i hi).1 hr0
  obtain ⟨b1, b2, b3⟩ := h2 i a1
  exact ⟨fun hr => ⟨(b1 hr).1, fun o ho => a2 o ((b1 hr).2 o ho)⟩, fun hr => a2 _ (b2 hr), fun hr => a2 _ (b3 hr)⟩
theorem zz_go_one {f m l n : Int} {rm rm1 rm' : Nat → Int32} {met met1 met' v ph ph1 ph' r : Int} (h1 : zz_go f m l n rm met rm1 met1 v ph ph1 r) (hr : r ≠ 0) : zz_go f m l n rm met rm' met' v ph ph' r := fun i hi =>
  ⟨fun z => absurd z hr, (h1 i hi).2.1, (h1 i hi).2.2⟩
/-- asks that no longer fit are passed over -/
theorem zz_go_rest {f m l n : Int} {rm : Nat → Int32} {met v : Int} : ∀ (d : Nat) (ph ph' r : Int), ph + d = ph' → ph' = m + 1 → 0 ≤ ph → 0 ≤ n → (d = 0 ∨ l < zz_as (zz_hv v) 14 + ph) → r = 0 → zz_go f m l n rm met rm met v ph ph' r
  | 0, ph, ph', r, h1, _, _, _, _, hr => zz_go_stay (by omega) hr
  | d + 1, ph, ph', r, h1, h2, h3, h4, h5, hr => by
    refine zz_go_skip ?_ (zz_go_rest d (ph + 1) ph' r (by omega) h2 (by omega) h4 (by omega) hr) rfl h3 (by omega)
    unfold zz_evt
    rw [if_pos (by omega)]
    exact Or.inl ⟨by omega, rfl⟩

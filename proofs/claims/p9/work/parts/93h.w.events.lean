/-! worst: the class's events -/
theorem zz_pl_fit {f n : Int} {h : Nat → Int32} {e a r : Int} (hp : zz_pl f n h e a r) (hr : 0 ≤ r) (ha : 1 ≤ a) (hn : 0 ≤ n) : zz_ft n h a r := by
  have ff : ∀ fr ah, zz_ff n h a fr ah r → zz_ft n h a r := fun fr ah z => by
    rcases z with ⟨z, _⟩ | ⟨_, _, z, _⟩
    · omega
    · exact z
  have bf : ∀ b, zz_bf b n h a r → zz_ft n h a r := fun b z => by
    rcases z with ⟨z, _⟩ | ⟨_, s, z1, z2, _⟩
    · omega
    · have e1 := z1.2.1
      exact ⟨by omega, fun x x1 x2 => z1.2.2.1 x (by omega) (by omega)⟩
  rcases hp with ⟨_, h1⟩ | ⟨_, h1⟩ | ⟨_, h1⟩ | ⟨_, h1⟩
  · exact ff _ _ h1
  · rcases h1 with ⟨_, h1⟩ | ⟨_, h1⟩
    · exact ff _ _ h1
    · exact ff _ _ h1
  · exact bf _ h1
  · exact bf _ h1
theorem zz_evt_ask {f m l n : Int} {T B E a p c : Int32} {pl wd : Nat → Int32} {sz : Int} (h : zz_tbe n T B E) (hq : zz_q f pl wd sz E.toInt a.toInt p.toInt) (hu : zz_ru n (zz_hb (zz_bt T) (zz_bt B)) pl wd sz) (hc : c.toInt = (zz_pcn T.toInt.toNat 14 : Int)) (hn0 : 0 ≤ n) (hn : n ≤ 14) (h0 : 1 ≤ a.toInt) (hm : a.toInt ≤ m) (hl : c.toInt + a.toInt ≤ l) (hp : 0 ≤ p.toInt) : zz_ft n (zz_hb (zz_bt T) (zz_bt B)) a.toInt p.toInt ∧ zz_evt f m l n (zz_rv T B E) a.toInt.toNat (some (some (zz_cd (zz_fill (zz_hv (zz_rv T B E)) p.toInt a.toInt) (if f = 1 then p.toInt + a.toInt else E.toInt)))) := by
  have hv := zz_rv_hv h
  have pl1 := hq n _ hn0 hu
  refine ⟨zz_pl_fit pl1 hp h0 hn0, ?_⟩
  have ea : zz_as (zz_hv (zz_rv T B E)) 14 = c.toInt := by rw [zz_as_cg 14 hv.1, zz_as_pc h.1 14 (Nat.le_refl _), hc]
  unfold zz_evt
  rw [if_pos (by omega)]
  have e1 : ((a.toInt.toNat : Nat) : Int) = a.toInt := by omega
  rw [e1, ea, hv.2]
  exact Or.inr ⟨by omega, p.toInt, zz_pl_cg (fun k hk => (hv.1 k (by omega)).symm) rfl pl1, Or.inr ⟨hp, rfl⟩⟩
theorem zz_evt_none {f m l n : Int} {T B E a p c : Int32} {pl wd : Nat → Int32} {sz : Int} (h : zz_tbe n T B E) (hq : zz_q f pl wd sz E.toInt a.toInt p.toInt) (hu : zz_ru n (zz_hb (zz_bt T) (zz_bt B)) pl wd sz) (hc : c.toInt = (zz_pcn T.toInt.toNat 14 : Int)) (hn0 : 0 ≤ n) (hn : n ≤ 14) (h0 : 1 ≤ a.toInt) (hm : a.toInt ≤ m) (hl : c.toInt + a.toInt ≤ l) (hp : p.toInt < 0) : zz_evt f m l n (zz_rv T B E) a.toInt.toNat (some none) := by
  have hv := zz_rv_hv h
  have pl1 := hq n _ hn0 hu
  have ea : zz_as (zz_hv (zz_rv T B E)) 14 = c.toInt := by rw [zz_as_cg 14 hv.1, zz_as_pc h.1 14 (Nat.le_refl _), hc]
  unfold zz_evt
  rw [if_pos (by omega)]
  have e1 : ((a.toInt.toNat : Nat) : Int) = a.toInt := by omega
  rw [e1, ea, hv.2]
  exact Or.inr ⟨by omega, p.toInt, zz_pl_cg (fun k hk => (hv.1 k (by omega)).symm) rfl pl1, Or.inl ⟨hp, rfl⟩⟩
theorem zz_evt_nb {f m l n : Int} {T B E : Int32} {q : Int32} {ph : Int} (h : zz_tbe n T B E) (hb : zz_bt B q.toInt.toNat = false) (h0 : 0 ≤ q.toInt) (hq : q.toInt < n) (hn : n ≤ 14) (hm : 0 ≤ m) (hp : ph = m + 1 + q.toInt) : zz_evt f m l n (zz_rv T B E) ph.toNat none := by
  have hv := zz_rv_hv h
  have I := zz_hb_b h.2.2.2.2.2.2 (w := q.toInt.toNat) (by omega)
  unfold zz_evt
  rw [if_neg (by omega), show ((ph.toNat : Nat) : Int) - m - 1 = q.toInt by omega, hv.1 _ (by omega)]
  refine Or.inl ⟨fun z => ?_, rfl⟩
  have := I.mp (by omega)
  rw [hb] at this
  exact absurd this (by decide)
theorem zz_evt_b {f m l n : Int} {T B E : Int32} {q : Int32} {ph : Int} (h : zz_tbe n T B E) (hb : zz_bt B q.toInt.toNat = true) (h0 : 0 ≤ q.toInt) (hq : q.toInt < n) (hn : n ≤ 14) (hm : 0 ≤ m) (hp : ph = m + 1 + q.toInt) : zz_evt f m l n (zz_rv T B E) ph.toNat (some (some (zz_cd (zz_fre n (zz_hv (zz_rv T B E)) q.toInt) E.toInt))) := by
  have hv := zz_rv_hv h
  have I := zz_hb_b h.2.2.2.2.2.2 (w := q.toInt.toNat) (by omega)
  unfold zz_evt
  rw [if_neg (by omega), show ((ph.toNat : Nat) : Int) - m - 1 = q.toInt by omega, hv.1 _ (by omega), hv.2]
  exact Or.inr ⟨by have := I.mpr hb; omega, rfl⟩
-- the block's bits
def zz_bx (n : Int) (T B q : Int32) (x : Int32) (w : Int) : Prop := (∀ k : Nat, zz_bt x k = decide (q.toInt ≤ (k : Int) ∧ (k : Int) < w)) ∧ ∀ k : Nat, q.toInt < (k : Int) → (k : Int) < w → zz_bt T k = true ∧ zz_bt B k = false
theorem zz_bx_ini {n : Int} {T B q : Int32} {w : Int} (h0 : 0 ≤ q.toInt) (h1 : q.toInt < 14) (hw : w = q.toInt + 1) : zz_bx n T B q (((1 : Int32)) <<< (q &&& 31)) w := by
  refine ⟨fun k => ?_, fun k h1 h2 => by omega⟩
  by_cases c : k < 32
  · rw [zz_bt_one q k h0 (by omega) c, decide_eq_decide]
    constructor <;> intro _ <;> omega
  · rw [zz_bt32 _ (by omega), decide_eq_false (by omega)]
theorem zz_in_bt (T B : Int32) {k : Nat} (hk : k < 32) : zz_bt (T &&& (B ^^^ ((-1 : Int32)))) k = (zz_bt T k && !zz_bt B k) := by rw [zz_bt_and, zz_bt_not B k hk]
theorem zz_bx_step {n : Int} {T B q x y : Int32} {w : Int} (h : zz_bx n T B q x y.toInt) (hi : zz_bt (T &&& (B ^^^ ((-1 : Int32)))) y.toInt.toNat = true) (h0 : q.toInt < y.toInt) (hq : 0 ≤ q.toInt) (h1 : y.toInt < 14) (hw : w = y.toInt + 1) : zz_bx n T B q (x ||| (((1 : Int32)) <<< (y &&& 31))) w := by
  rw [zz_in_bt T B (by omega)] at hi
  refine ⟨fun k => ?_, fun k k1 k2 => ?_⟩
  · rw [zz_bt_or, h.1 k]
    by_cases c : k < 32
    · rw [zz_bt_one y k (by omega) (by omega) c, ← Bool.decide_or, decide_eq_decide]
      constructor <;> intro _ <;> omega
    · rw [zz_bt32 _ (by omega), decide_eq_false (by omega), decide_eq_false (by omega)]; rfl
  · by_cases c : (k : Int) = y.toInt
    · rw [show k = y.toInt.toNat by omega]
      simpa using hi
    · exact h.2 k k1 (by omega)
def zz_bxe (n : Int) (T B q r : Int32) : Prop := ∀ k : Nat, zz_bt r k = true ↔ zz_blk n.toNat (zz_bt T) (zz_bt B) q.toInt.toNat k
theorem zz_bx_end {n : Int} {T B q x y : Int32} (h : zz_bx n T B q x y.toInt) (he : n ≤ y.toInt ∨ zz_bt (T &&& (B ^^^ ((-1 : Int32)))) y.toInt.toNat = false) (h0 : q.toInt < y.toInt) (hq : 0 ≤ q.toInt) (h1 : y.toInt ≤ n) (hn : n ≤ 14) : zz_bxe n T B q x := fun k => by
  rw [h.1 k, decide_eq_true_iff]
  constructor
  · rintro ⟨k1, k2⟩
    exact ⟨by omega, by omega, fun z z1 z2 => h.2 z (by omega) (by omega)⟩
  · rintro ⟨k1, k2, k3⟩
    refine ⟨by omega, Int.not_le.mp fun z => ?_⟩
    rcases he with he | he
    · omega
    · have := k3 y.toInt.toNat (by omega) (by omega)
      rw [zz_in_bt T B (by omega), this.1, this.2] at he
      exact absurd he (by decide)
theorem zz_tbe_fre {n : Int} {T B E q r : Int32} (h : zz_tbe n T B E) (hn0 : 0 ≤ n) (hn : n ≤ 14) (hb : zz_bt B q.toInt.toNat = true) (h0 : 0 ≤ q.toInt) (hq : q.toInt < n) (hr : zz_bxe n T B q r) : zz_tbe n (T &&& (r ^^^ ((-1 : Int32)))) (B &&& ((((1 : Int32)) <<< (q &&& 31)) ^^^ ((-1 : Int32)))) E ∧ zz_rv (T &&& (r ^^^ ((-1 : Int32)))) (B &&& ((((1 : Int32)) <<< (q &&& 31)) ^^^ ((-1 : Int32)))) E = zz_cd (zz_fre n (zz_hv (zz_rv T B E)) q.toInt) E.toInt := by
  have hv := zz_rv_hv h
  obtain ⟨g0, g1, g2, g3, g4, g5, g6⟩ := h
  have bT : ∀ w, zz_bt (T &&& (r ^^^ ((-1 : Int32)))) w = (zz_bt T w && !zz_bt r w) := fun w => by
    by_cases c : w < 32
    · exact zz_in_bt T r c
    · rw [zz_bt_and, zz_bt32 T (by omega)]; rfl
  have bB : ∀ w, zz_bt (B &&& ((((1 : Int32)) <<< (q &&& 31)) ^^^ ((-1 : Int32)))) w = (zz_bt B w && !decide (w = q.toInt.toNat)) := fun w => by
    by_cases c : w < 32
    · rw [zz_in_bt B _ c, zz_bt_one q w h0 (by omega) c]
      congr 2
      rw [decide_eq_decide]
      constructor <;> intro _ <;> omega
    · rw [zz_bt_and, zz_bt32 B (by omega)]; rfl
  obtain ⟨f1, f2⟩ := zz_hb_fre (t' := zz_bt (T &&& (r ^^^ ((-1 : Int32))))) (q := q.toInt.toNat) g6 hb (by omega) (fun w => ⟨fun z => by rw [bT, (hr w).mpr z]; simp, fun z => by
    have : zz_bt r w = false := Bool.eq_false_iff.mpr fun y => z ((hr w).mp y)
    rw [bT, this]; simp⟩) bB
  have rT := zz_lo14' (x := T &&& (r ^^^ ((-1 : Int32)))) (fun w hw => by rw [bT, zz_lo14 g0 g1 hw]; rfl)
  have rB := zz_lo14' (x := B &&& ((((1 : Int32)) <<< (q &&& 31)) ^^^ ((-1 : Int32)))) (fun w hw => by rw [bB, zz_lo14 g2 g3 hw]; rfl)
  refine ⟨⟨rT.1, rT.2, rB.1, rB.2, g4, g5, f1⟩, zz_cd_cg (fun k hk => ?_) rfl⟩
  rw [f2 k hk]
  show (if ((q.toInt.toNat : Nat) : Int) ≤ (k : Int) ∧ (k : Int) < ((n.toNat : Nat) : Int) ∧ (zz_hb (zz_bt T) (zz_bt B) k).toInt = ((q.toInt.toNat : Nat) : Int) then (-1 : Int32) else zz_hb (zz_bt T) (zz_bt B) k) = (if q.toInt ≤ (k : Int) ∧ (k : Int) < n ∧ (zz_hv (zz_rv T B E) k).toInt = q.toInt then (-1 : Int32) else zz_hv (zz_rv T B E) k)
  rw [hv.1 k hk, show ((q.toInt.toNat : Nat) : Int) = q.toInt by omega, show ((n.toNat : Nat) : Int) = n by omega]
-- addRoom
def zz_ar (met : Int) (rm sl : Nat → Int32) (met' : Int) (rm' sl' : Nat → Int32) (c : Int32) (i : Nat) (base r : Int) : Prop := (met < 20000 ∧ r = 1 ∧ met' = met + 1 ∧ (∃ m : Nat, (m : Int) = met ∧ rm' = upd rm m c) ∧ ∃ u : Int32, u.toInt = base + met ∧ sl' = upd sl i u) ∨ (20000 ≤ met ∧ r = 0 ∧ met' = met ∧ rm' = rm ∧ sl' = sl)
theorem zz_ar_ic {n base met met' r k x : Int} {rm sl rm' sl' : Nat → Int32} {c : Int32} {i : Nat} (ha : zz_ar met rm sl met' rm' sl' c i base r) (hI : zz_ic n base met rm sl) (h : zz_pp base rm sl c k x) (hw : zz_wf n.toNat (zz_tb c) (zz_bb c)) (hi : (i : Int) = x) (hi2 : i < 32768) (hs : (sl i).toInt < base) (hk : 0 ≤ k) (hk2 : k < 32768) (hb : 0 ≤ base) : zz_ic n base met' rm' sl' := by
  rcases ha with ⟨_, _, h3, ⟨m, m1, m2⟩, u, u1, u2⟩ | ⟨_, _, h3, h4, h5⟩
  · rw [m2, u2]; exact zz_ic_add hI h hw hi hi2 hs hk hk2 m1 h3 u1 hb
  · rw [h3, h4, h5]; exact hI
theorem zz_ar_mt {n base met met' r k x : Int} {rm sl rm' sl' : Nat → Int32} {c : Int32} {i : Nat} (ha : zz_ar met rm sl met' rm' sl' c i base r) (hI : zz_ic n base met rm sl) (h : zz_pp base rm sl c k x) (hw : zz_wf n.toNat (zz_tb c) (zz_bb c)) (hi : (i : Int) = x) (hs : (sl i).toInt < base) (hk : 0 ≤ k) (hm : 0 ≤ met) : zz_mt rm met rm' met' (zz_cc c) r := by
  have no := zz_pp_out hI h hw hi hs hk
  rcases ha with ⟨h1, h2, h3, ⟨m, m1, m2⟩, _⟩ | ⟨h1, h2, h3, h4, _⟩
  · exact Or.inr (Or.inr ⟨no, by rw [zz_cl_len]; omega, by rw [m2]; exact zz_cl_app m1 h3, h2⟩)
  · exact Or.inr (Or.inl ⟨no, by rw [zz_cl_len]; omega, h2⟩)
def zz_e0 (f met : Int) (rm : Nat → Int32) : Prop := f = 1 ∨ ∀ i : Nat, (i : Int) < met → zz_ee (rm i) = 0
theorem zz_ar_e0 {f base met met' r : Int} {rm sl rm' sl' : Nat → Int32} {c : Int32} {i : Nat} (ha : zz_ar met rm sl met' rm' sl' c i base r) (h : zz_e0 f met rm) (hc : f = 1 ∨ zz_ee c = 0) : zz_e0 f met' rm' := by
  rcases h with h | h
  · exact Or.inl h
  · rcases hc with hc | hc
    · exact Or.inl hc
    · rcases ha with ⟨h1, h2, h3, ⟨m, m1, m2⟩, _⟩ | ⟨h1, h2, h3, h4, _⟩
      · refine Or.inr fun j hj => ?_
        rw [m2, zz_updE]
        by_cases d : j = m
        · rw [if_pos d]; exact hc
        · rw [if_neg d]; exact h j (by omega)
      · rw [h3, h4]; exact Or.inr h

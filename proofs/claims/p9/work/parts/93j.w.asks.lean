/-! worst: the class's asks and givings back, as steps of the search -/
theorem zz_as_rv {n : Int} {T B E : Int32} (h : zz_tbe n T B E) : zz_as (zz_hv (zz_rv T B E)) 14 = (zz_pcn T.toInt.toNat 14 : Int) := by
  rw [zz_as_cg 14 (zz_rv_hv h).1, zz_as_pc h.1 14 (Nat.le_refl _)]
theorem zz_ga_pl {f n : Int} {T B E a p : Int32} {pl wd : Nat → Int32} {sz : Int} (h : zz_tbe n T B E) (hq : zz_q f pl wd sz E.toInt a.toInt p.toInt) (hu : zz_rub n T pl wd sz) (hn0 : 0 ≤ n) (hn : n ≤ 14) : zz_pl f n (zz_hb (zz_bt T) (zz_bt B)) E.toInt a.toInt p.toInt ∧ zz_pl f n (zz_hv (zz_rv T B E)) (zz_rv T B E % 16) a.toInt p.toInt := by
  have hv := zz_rv_hv h
  have pl1 := hq n _ hn0 (hu (zz_bt B))
  exact ⟨pl1, zz_pl_cg (fun k hk => (hv.1 k (by omega)).symm) hv.2.symm pl1⟩
theorem zz_ga_tbe {f n : Int} {T B E a p E' : Int32} {pl wd : Nat → Int32} {sz : Int} (h : zz_tbe n T B E) (hq : zz_q f pl wd sz E.toInt a.toInt p.toInt) (hu : zz_rub n T pl wd sz) (hn0 : 0 ≤ n) (hn : n ≤ 14) (h0 : 1 ≤ a.toInt) (h1 : a.toInt ≤ 4) (hp : 0 ≤ p.toInt) (h4 : 0 ≤ E'.toInt) (h5 : E'.toInt < 16) : zz_tbe n (T ||| (((((1 : Int32)) <<< (a &&& 31)) - ((1 : Int32))) <<< (p &&& 31))) (B ||| (((1 : Int32)) <<< (p &&& 31))) E' ∧ zz_rv (T ||| (((((1 : Int32)) <<< (a &&& 31)) - ((1 : Int32))) <<< (p &&& 31))) (B ||| (((1 : Int32)) <<< (p &&& 31))) E' = zz_cd (zz_fill (zz_hv (zz_rv T B E)) p.toInt a.toInt) E'.toInt := by
  obtain ⟨f1, f2⟩ := zz_pl_fit (zz_ga_pl h hq hu hn0 hn).1 hp h0 hn0
  exact zz_tbe_fill h hn h0 h1 hp f1 f2 h4 h5
theorem zz_ga_p {f n : Int} {T B E a p : Int32} {pl wd : Nat → Int32} {sz : Int} (h : zz_tbe n T B E) (hq : zz_q f pl wd sz E.toInt a.toInt p.toInt) (hu : zz_rub n T pl wd sz) (hn0 : 0 ≤ n) (hn : n ≤ 14) (h0 : 1 ≤ a.toInt) (hp : 0 ≤ p.toInt) : p.toInt + a.toInt ≤ n := (zz_pl_fit (zz_ga_pl h hq hu hn0 hn).1 hp h0 hn0).1
theorem zz_ga_evt {f m l n : Int} {T B E a p E' : Int32} {pl wd : Nat → Int32} {sz : Int} (h : zz_tbe n T B E) (hq : zz_q f pl wd sz E.toInt a.toInt p.toInt) (hu : zz_rub n T pl wd sz) (hn0 : 0 ≤ n) (hn : n ≤ 14) (h0 : 1 ≤ a.toInt) (h1 : a.toInt ≤ 4) (hp : 0 ≤ p.toInt) (h4 : 0 ≤ E'.toInt) (h5 : E'.toInt < 16) (hm : a.toInt ≤ m) (hl : (zz_pcn T.toInt.toNat 14 : Int) + a.toInt ≤ l) (hE : (f = 1 ∧ E'.toInt = p.toInt + a.toInt) ∨ (f ≠ 1 ∧ E'.toInt = E.toInt)) : zz_evt f m l n (zz_rv T B E) a.toInt.toNat (some (some (zz_rv (T ||| (((((1 : Int32)) <<< (a &&& 31)) - ((1 : Int32))) <<< (p &&& 31))) (B ||| (((1 : Int32)) <<< (p &&& 31))) E'))) := by
  have hv := zz_rv_hv h
  have e2 : (if f = 1 then p.toInt + a.toInt else E.toInt) = E'.toInt := by
    rcases hE with ⟨x, y⟩ | ⟨x, y⟩
    · rw [if_pos x, y]
    · rw [if_neg x, y]
  rw [(zz_ga_tbe h hq hu hn0 hn h0 h1 hp h4 h5).2]
  unfold zz_evt
  rw [if_pos (by omega)]
  have e1 : ((a.toInt.toNat : Nat) : Int) = a.toInt := by omega
  rw [e1, zz_as_rv h]
  exact Or.inr ⟨by omega, p.toInt, (zz_ga_pl h hq hu hn0 hn).2, Or.inr ⟨hp, by rw [hv.2, e2]⟩⟩
theorem zz_ga_none {f m l n : Int} {T B E a p : Int32} {pl wd : Nat → Int32} {sz : Int} (h : zz_tbe n T B E) (hq : zz_q f pl wd sz E.toInt a.toInt p.toInt) (hu : zz_rub n T pl wd sz) (hn0 : 0 ≤ n) (hn : n ≤ 14) (h0 : 1 ≤ a.toInt) (hp : p.toInt < 0) (hm : a.toInt ≤ m) (hl : (zz_pcn T.toInt.toNat 14 : Int) + a.toInt ≤ l) : zz_evt f m l n (zz_rv T B E) a.toInt.toNat (some none) := by
  unfold zz_evt
  rw [if_pos (by omega)]
  have e1 : ((a.toInt.toNat : Nat) : Int) = a.toInt := by omega
  rw [e1, zz_as_rv h]
  exact Or.inr ⟨by omega, p.toInt, (zz_ga_pl h hq hu hn0 hn).2, Or.inl ⟨hp, rfl⟩⟩
theorem zz_ga_rest {f m l n : Int} {rm : Nat → Int32} {met ph ph' r : Int} {T B E : Int32} (h : zz_tbe n T B E) (h2 : ph' = m + 1) (h3 : 0 ≤ ph) (h3' : ph ≤ m + 1) (h4 : 0 ≤ n) (h5 : ph = m + 1 ∨ l < (zz_pcn T.toInt.toNat 14 : Int) + ph) (hr : r = 0) : zz_go f m l n rm met rm met (zz_rv T B E) ph ph' r := by
  have e := zz_as_rv h
  exact zz_go_rest (m + 1 - ph).toNat ph ph' r (by omega) h2 h3 h4 (by rw [e]; omega) hr
theorem zz_gb_evt {f m l n : Int} {T B E q r : Int32} {ph : Int} (h : zz_tbe n T B E) (hb : (((B.toUInt32 >>> (q.toUInt32 &&& Int32.toUInt32 31)).toInt32) &&& ((1 : Int32))).toInt = 1) (hr : zz_bxe n T B q r) (h0 : 0 ≤ q.toInt) (hq : q.toInt < n) (hn : n ≤ 14) (hm : 0 ≤ m) (hp : ph = m + 1 + q.toInt) : zz_tbe n (T &&& (r ^^^ ((-1 : Int32)))) (B &&& ((((1 : Int32)) <<< (q &&& 31)) ^^^ ((-1 : Int32)))) E ∧ zz_evt f m l n (zz_rv T B E) ph.toNat (some (some (zz_rv (T &&& (r ^^^ ((-1 : Int32)))) (B &&& ((((1 : Int32)) <<< (q &&& 31)) ^^^ ((-1 : Int32)))) E))) := by
  have hb' := (zz_bt_test B q h0 (by omega)).1.mp hb
  obtain ⟨x1, x2⟩ := zz_tbe_fre h (by omega) hn hb' h0 hq hr
  refine ⟨x1, ?_⟩
  rw [x2]
  exact zz_evt_b h hb' h0 hq hn hm hp
theorem zz_gb_none {f m l n : Int} {T B E q : Int32} {ph : Int} (h : zz_tbe n T B E) (hb : (((B.toUInt32 >>> (q.toUInt32 &&& Int32.toUInt32 31)).toInt32) &&& ((1 : Int32))).toInt ≠ 1) (h0 : 0 ≤ q.toInt) (hq : q.toInt < n) (hn : n ≤ 14) (hm : 0 ≤ m) (hp : ph = m + 1 + q.toInt) : zz_evt f m l n (zz_rv T B E) ph.toNat none := zz_evt_nb h ((zz_bt_test B q h0 (by omega)).2.mp hb) h0 hq hn hm hp
/-- a code apart -/
theorem zz_tbe_un {n : Int} {c : Int32} (h : zz_cw n c) : zz_tbe n (c &&& ((16383 : Int32))) (((c.toUInt32 >>> (((14 : Int32)).toUInt32 &&& Int32.toUInt32 31)).toInt32) &&& ((16383 : Int32))) ((c.toUInt32 >>> (((28 : Int32)).toUInt32 &&& Int32.toUInt32 31)).toInt32) ∧ zz_rv (c &&& ((16383 : Int32))) (((c.toUInt32 >>> (((14 : Int32)).toUInt32 &&& Int32.toUInt32 31)).toInt32) &&& ((16383 : Int32))) ((c.toUInt32 >>> (((28 : Int32)).toUInt32 &&& Int32.toUInt32 31)).toInt32) = zz_cc c := by
  have a1 := zz_andF c ((16383 : Int32)) (by decide)
  have a2 := zz_andF ((c.toUInt32 >>> (((14 : Int32)).toUInt32 &&& Int32.toUInt32 31)).toInt32) ((16383 : Int32)) (by decide)
  have e : (16383 : Int32).toInt = 16383 := rfl
  have r := zz_ee_rg c
  have e2 := zz_un_e c
  have h : zz_wf n.toNat (zz_tb c) (zz_bb c) := h
  refine ⟨⟨a1.1, by omega, a2.1, by omega, by omega, by omega, by rw [zz_un_t, zz_un_b]; exact h⟩, ?_⟩
  unfold zz_rv zz_cc
  rw [zz_un_t, zz_un_b, e2]
/-- where lookAtAll stands, at the room i -/
def zz_lk (f m l n : Int) (rm : Nat → Int32) (met i r : Int) : Prop := (r = 0 → zz_res f m l n (zz_cl rm met) i.toNat 1 1) ∧ (r = 1 → zz_res f m l n (zz_cl rm met) i.toNat 1 0) ∧ (r = 2 → zz_res f m l n (zz_cl rm met) i.toNat 1 (-1))
theorem zz_lk_end {f m l n : Int} {rm : Nat → Int32} {met i r : Int} (h : met ≤ i) (hr : r = 0) : zz_lk f m l n rm met i r := ⟨fun _ => zz_res_end (by rw [zz_cl_len]; omega) rfl, fun z => by omega, fun z => by omega⟩
theorem zz_lk_stop {f m l n : Int} {rm rm' : Nat → Int32} {met met' i r ph' : Int} {j : Nat} (h : zz_go f m l n rm met rm' met' (zz_cc (rm j)) 1 ph' r) (hj : (j : Int) = i) (hi : i < met) (hr : r ≠ 0) : zz_lk f m l n rm met i r := by
  obtain ⟨a1, a2, a3⟩ := h j (zz_cl_at (by omega))
  rw [show (j : Nat) = i.toNat by omega] at a2 a3
  exact ⟨fun z => absurd z hr, a2, a3⟩
theorem zz_lk_next {f m l n : Int} {rm rm' : Nat → Int32} {met met' i i' r r0 ph' : Int} {j : Nat} (h : zz_go f m l n rm met rm' met' (zz_cc (rm j)) 1 ph' r0) (hk : zz_lk f m l n rm' met' i' r) (hr0 : r0 = 0) (hj : (j : Int) = i) (hi : i < met) (hm : met ≤ met') (hi' : i' = i + 1) (hp : ph' = m + 1 + n) (hp0 : 0 ≤ m) (hn0 : 0 ≤ n) : zz_lk f m l n rm met i r := by
  obtain ⟨a1, a2⟩ := (h j (zz_cl_at (by omega))).1 hr0
  have step : ∀ o, zz_res f m l n (zz_cl rm' met') i'.toNat 1 o → zz_res f m l n (zz_cl rm met) i.toNat 1 o := fun o ho => by
    have := a2 o (zz_res_next (by rw [zz_cl_len]; omega) (by omega) (by rw [show j + 1 = i'.toNat by omega]; exact ho))
    rw [show (j : Nat) = i.toNat by omega] at this
    exact this
  exact ⟨fun z => step _ (hk.1 z), fun z => step _ (hk.2.1 z), fun z => step _ (hk.2.2 z)⟩
def zz_l0 (f m l n r : Int) : Prop := (r = 0 → zz_res f m l n [zz_cd (fun _ => -1) 0] 0 1 1) ∧ (r = 1 → zz_res f m l n [zz_cd (fun _ => -1) 0] 0 1 0) ∧ (r = 2 → zz_res f m l n [zz_cd (fun _ => -1) 0] 0 1 (-1))
theorem zz_bt0 : zz_bt ((0 : Int32)) = fun _ => false := by
  funext w
  show (0#32).getLsbD w = false
  simp
theorem zz_tbe_0 {n : Int} : zz_tbe n ((0 : Int32)) ((0 : Int32)) ((0 : Int32)) := by
  refine ⟨by decide, by decide, by decide, by decide, by decide, by decide, ?_⟩
  rw [zz_bt0]
  exact ⟨fun w => ⟨fun z => Bool.noConfusion z, fun z => Bool.noConfusion z⟩, fun w _ => rfl⟩
theorem zz_rv_0 : zz_rv ((0 : Int32)) ((0 : Int32)) ((0 : Int32)) = zz_cd (fun _ => -1) 0 := by
  unfold zz_rv
  rw [zz_bt0]
  exact zz_cd_cg (fun k _ => zz_hb_f rfl) rfl
theorem zz_l0_mk {f m l n : Int} {rm rm' : Nat → Int32} {met met' i r r0 : Int} (hm : zz_mt rm met rm' met' (zz_rv ((0 : Int32)) ((0 : Int32)) ((0 : Int32))) r0) (hk : zz_lk f m l n rm' met' i r) (h0 : met = 0) (hi : i = 0) : zz_l0 f m l n r := by
  subst h0
  subst hi
  rw [zz_rv_0] at hm
  have e : zz_cl rm 0 = [] := rfl
  have k : zz_cl rm' met' = [zz_cd (fun _ => -1) 0] := by
    rcases hm with ⟨h1, _, _⟩ | ⟨_, h2, _⟩ | ⟨_, _, h3, _⟩
    · rw [e] at h1; exact absurd h1 (by simp)
    · rw [e] at h2; exact absurd h2 (by decide)
    · rw [e] at h3; exact h3
  unfold zz_lk at hk
  rw [k] at hk
  exact hk
theorem zz_e0_0 {f met : Int} {rm : Nat → Int32} (h : met = 0) : zz_e0 f met rm := Or.inr fun i hi => by omega
theorem zz_e0_at {f met : Int} {rm : Nat → Int32} {i : Nat} (h : zz_e0 f met rm) (hi : (i : Int) < met) : zz_c0 f (rm i) := by
  rcases h with h | h
  · exact Or.inl h
  · exact Or.inr (h i hi)
theorem zz_ic_at {n base met : Int} {rm sl : Nat → Int32} {i : Nat} (h : zz_ic n base met rm sl) (hi : (i : Int) < met) : zz_cw n (rm i) := h.1 i hi
theorem zz_c0_e {f : Int} {c : Int32} (h : zz_c0 f c) : f = 1 ∨ ((c.toUInt32 >>> (((28 : Int32)).toUInt32 &&& Int32.toUInt32 31)).toInt32).toInt = 0 := by
  rw [zz_un_e]
  exact h
/-- what stands between two searches: no word of the words -/
def zz_icx (base met : Int) (rm sl : Nat → Int32) : Prop := ∃ n : Int, zz_ic n base met rm sl
theorem zz_icx_new {n' base base' met met' : Int} {rm sl : Nat → Int32} (h : zz_icx base met rm sl) (hb : base' = base + met) (hm : met' = 0) : zz_ic n' base' met' rm sl := by
  obtain ⟨n, h⟩ := h
  exact zz_ic_new h hb hm
theorem zz_go_ph {f m l n : Int} {rm rm' : Nat → Int32} {met met' v v' ph ph2 ph' r : Int} (h : zz_go f m l n rm met rm' met' v ph ph' r) (e : ph = ph2) (ev : v = v') : zz_go f m l n rm met rm' met' v' ph2 ph' r := by
  subst e
  subst ev
  exact h

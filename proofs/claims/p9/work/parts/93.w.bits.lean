/-! worst: a room as two rows of bits (a word is taken; a block begins there) -/
def zz_bg (b : Nat → Bool) : Nat → Nat
  | 0 => 0
  | w + 1 => if b (w + 1) = true then w + 1 else zz_bg b w
def zz_hb (t b : Nat → Bool) (w : Nat) : Int32 := if t w = true then Int32.ofInt (zz_bg b w : Int) else -1
def zz_wf (n : Nat) (t b : Nat → Bool) : Prop := (∀ w, (b w = true → t w = true) ∧ (t w = true → b w = false → 1 ≤ w ∧ t (w - 1) = true)) ∧ (∀ w, n ≤ w → t w = false)
theorem zz_bg_le (b : Nat → Bool) : ∀ w, zz_bg b w ≤ w
  | 0 => Nat.le_refl _
  | w + 1 => by
    show (if b (w + 1) = true then w + 1 else zz_bg b w) ≤ w + 1
    by_cases c : b (w + 1) = true
    · rw [if_pos c]; omega
    · rw [if_neg c]; have := zz_bg_le b w; omega
theorem zz_bg_no (b : Nat → Bool) : ∀ w y, zz_bg b w < y → y ≤ w → b y = false
  | 0, y, h1, h2 => by
    have : zz_bg b 0 = 0 := rfl
    omega
  | w + 1, y, h1, h2 => by
    have e : zz_bg b (w + 1) = (if b (w + 1) = true then w + 1 else zz_bg b w) := rfl
    rw [e] at h1
    by_cases c : b (w + 1) = true
    · rw [if_pos c] at h1; omega
    · rw [if_neg c] at h1
      by_cases d : y = w + 1
      · rw [d]; exact Bool.eq_false_iff.mpr c
      · exact zz_bg_no b w y h1 (by omega)
theorem zz_bg_eq {b : Nat → Bool} {x : Nat} (hx : b x = true) : ∀ w, x ≤ w → (∀ y, x < y → y ≤ w → b y = false) → zz_bg b w = x
  | 0, h1, h2 => by
    have : zz_bg b 0 = 0 := rfl
    omega
  | w + 1, h1, h2 => by
    show (if b (w + 1) = true then w + 1 else zz_bg b w) = x
    by_cases d : x = w + 1
    · rw [← d, if_pos hx]
    · rw [if_neg (by rw [h2 (w + 1) (by omega) (Nat.le_refl _)]; decide)]
      exact zz_bg_eq hx w (by omega) (fun y y1 y2 => h2 y y1 (by omega))
theorem zz_bg_cg {b c : Nat → Bool} : ∀ w, (∀ y, y ≤ w → b y = c y) → zz_bg b w = zz_bg c w
  | 0, _ => rfl
  | w + 1, h => by
    show (if b (w + 1) = true then w + 1 else zz_bg b w) = (if c (w + 1) = true then w + 1 else zz_bg c w)
    rw [h (w + 1) (Nat.le_refl _), zz_bg_cg w (fun y hy => h y (by omega))]
theorem zz_bg_tk {n : Nat} {t b : Nat → Bool} (h : zz_wf n t b) : ∀ w, t w = true → b (zz_bg b w) = true ∧ ∀ x, zz_bg b w ≤ x → x ≤ w → t x = true
  | 0, ht => by
    have e : zz_bg b 0 = 0 := rfl
    rw [e]
    refine ⟨?_, fun x h1 h2 => by rw [show x = 0 by omega]; exact ht⟩
    by_cases c : b 0 = true
    · exact c
    · have := ((h.1 0).2 ht (Bool.eq_false_iff.mpr c)).1; omega
  | w + 1, ht => by
    have e : zz_bg b (w + 1) = (if b (w + 1) = true then w + 1 else zz_bg b w) := rfl
    rw [e]
    by_cases c : b (w + 1) = true
    · rw [if_pos c]
      exact ⟨c, fun x h1 h2 => by rw [show x = w + 1 by omega]; exact ht⟩
    · rw [if_neg c]
      have p := ((h.1 (w + 1)).2 ht (Bool.eq_false_iff.mpr c)).2
      obtain ⟨i1, i2⟩ := zz_bg_tk h w p
      refine ⟨i1, fun x h1 h2 => ?_⟩
      by_cases d : x = w + 1
      · rw [d]; exact ht
      · exact i2 x h1 (by omega)
theorem zz_hb_t {t b : Nat → Bool} {w : Nat} (hw : w < 1000) (ht : t w = true) : (zz_hb t b w).toInt = zz_bg b w := by
  unfold zz_hb
  rw [if_pos ht]
  have := zz_bg_le b w
  exact zz_ofI _ (by omega) (by omega)
theorem zz_hb_f {t b : Nat → Bool} {w : Nat} (ht : t w = false) : zz_hb t b w = -1 := by
  unfold zz_hb
  rw [if_neg (by rw [ht]; decide)]
theorem zz_hb_neg {t b : Nat → Bool} {w : Nat} (hw : w < 1000) : (zz_hb t b w).toInt = -1 ↔ t w = false := by
  constructor
  · intro h
    by_cases c : t w = true
    · rw [zz_hb_t hw c] at h; omega
    · exact Bool.eq_false_iff.mpr c
  · intro h; rw [zz_hb_f h]; rfl
theorem zz_hb_has {n : Nat} {t b : Nat → Bool} : zz_has (zz_hb t b) := fun k hk => by
  by_cases c : t k = true
  · rw [zz_hb_t (by omega) c]; have := zz_bg_le b k; omega
  · rw [zz_hb_f (Bool.eq_false_iff.mpr c)]; decide
theorem zz_hb_b {n : Nat} {t b : Nat → Bool} (h : zz_wf n t b) {w : Nat} (hw : w < 1000) : (zz_hb t b w).toInt = (w : Int) ↔ b w = true := by
  constructor
  · intro e
    by_cases c : t w = true
    · rw [zz_hb_t hw c] at e
      have := (zz_bg_tk h w c).1
      rw [show zz_bg b w = w by omega] at this
      exact this
    · rw [zz_hb_f (Bool.eq_false_iff.mpr c)] at e
      have : (-1 : Int32).toInt = -1 := rfl
      omega
  · intro e
    rw [zz_hb_t hw ((h.1 w).1 e), zz_bg_eq e w (Nat.le_refl _) (fun y h1 h2 => by omega)]
theorem zz_hb_inj {n : Nat} {t b t' b' : Nat → Bool} {e e' : Int} (h : zz_wf n t b) (h' : zz_wf n t' b') (a1 : 0 ≤ e) (a2 : e < 16) (a3 : 0 ≤ e') (a4 : e' < 16) (hc : zz_cd (zz_hb t b) e = zz_cd (zz_hb t' b') e') : e = e' ∧ ∀ w, w < 14 → t w = t' w ∧ b w = b' w := by
  have ee := zz_ev_cd (h := zz_hb t b) a1 a2
  have ee' := zz_ev_cd (h := zz_hb t' b') a3 a4
  rw [hc] at ee
  refine ⟨by omega, fun w hw => ?_⟩
  have k : zz_hb t b w = zz_hb t' b' w := by
    rw [← zz_hv_cd (zz_hb_has (n := n)) a1 a2 hw, hc, zz_hv_cd (zz_hb_has (n := n)) a3 a4 hw]
  have n1 := zz_hb_neg (t := t) (b := b) (w := w) (by omega)
  have n2 := zz_hb_neg (t := t') (b := b') (w := w) (by omega)
  have m1 := zz_hb_b h (w := w) (by omega)
  have m2 := zz_hb_b h' (w := w) (by omega)
  rw [k] at n1 m1
  constructor
  · have : t w = false ↔ t' w = false := n1.symm.trans n2
    cases hx : t w <;> cases hy : t' w <;> simp_all
  · have : b w = true ↔ b' w = true := m1.symm.trans m2
    cases hx : b w <;> cases hy : b' w <;> simp_all
theorem zz_hb_fill {n : Nat} {t b t' b' : Nat → Bool} {p a : Nat} (h : zz_wf n t b) (hp : p + a ≤ n) (ha : 1 ≤ a) (hf : ∀ x, p ≤ x → x < p + a → t x = false) (ht : ∀ w, t' w = (t w || (decide (p ≤ w) && decide (w < p + a)))) (hb : ∀ w, b' w = (b w || decide (w = p))) : zz_wf n t' b' ∧ (n ≤ 14 → ∀ k, k < 14 → zz_hb t' b' k = zz_fill (zz_hb t b) p a k) := by
  have tin : ∀ w, p ≤ w → w < p + a → t' w = true := fun w h1 h2 => by rw [ht]; simp [h1, h2]
  have tout : ∀ w, ¬ (p ≤ w ∧ w < p + a) → t' w = t w := fun w h1 => by
    rw [ht]
    by_cases c : p ≤ w
    · have d : ¬ w < p + a := fun z => h1 ⟨c, z⟩
      simp [c, d]
    · simp [c]
  have bp : b' p = true := by rw [hb]; simp
  have bo : ∀ w, w ≠ p → b' w = b w := fun w hw => by rw [hb]; simp [hw]
  have bn : ∀ x, p ≤ x → x < p + a → b x = false := fun x h1 h2 => by
    refine Bool.eq_false_iff.mpr fun z => ?_
    have := (h.1 x).1 z
    rw [hf x h1 h2] at this
    exact absurd this (by decide)
  refine ⟨⟨fun w => ⟨fun z => ?_, fun z1 z2 => ?_⟩, fun w hw => ?_⟩, fun hn k hk => ?_⟩
  · by_cases c : w = p
    · rw [c]; exact tin p (Nat.le_refl _) (by omega)
    · rw [bo w c] at z
      rw [ht, (h.1 w).1 z]; rfl
  · have c : w ≠ p := fun c => by rw [c, bp] at z2; exact absurd z2 (by decide)
    rw [bo w c] at z2
    by_cases d : p ≤ w ∧ w < p + a
    · exact ⟨by omega, tin (w - 1) (by omega) (by omega)⟩
    · rw [tout w d] at z1
      have q := (h.1 w).2 z1 z2
      exact ⟨q.1, by rw [ht, q.2]; rfl⟩
  · rw [tout w (by omega)]; exact h.2 w hw
  · show _ = (if (p : Int) ≤ (k : Int) ∧ (k : Int) < (p : Int) + (a : Int) then Int32.ofInt p else zz_hb t b k)
    by_cases c : p ≤ k ∧ k < p + a
    · rw [if_pos (by omega)]
      have e : zz_bg b' k = p := zz_bg_eq bp k c.1 (fun y y1 y2 => by rw [bo y (by omega)]; exact bn y (by omega) (by omega))
      unfold zz_hb
      rw [if_pos (tin k c.1 c.2), e]
    · rw [if_neg (by omega)]
      unfold zz_hb
      rw [tout k c]
      by_cases d : t k = true
      · rw [if_pos d, if_pos d]
        have e : zz_bg b' k = zz_bg b k := by
          by_cases g : k < p
          · exact zz_bg_cg k (fun y hy => bo y (by omega))
          · obtain ⟨i1, i2⟩ := zz_bg_tk h k d
            have gp : p + a ≤ zz_bg b k := by
              refine Nat.le_of_not_lt fun z => ?_
              have := i2 (p + a - 1) (by omega) (by omega)
              rw [hf _ (by omega) (by omega)] at this
              exact absurd this (by decide)
            exact zz_bg_eq (by rw [bo _ (by omega)]; exact i1) k (zz_bg_le b k) (fun y y1 y2 => by rw [bo y (by omega)]; exact zz_bg_no b k y y1 y2)
        rw [e]
      · rw [if_neg d, if_neg d]
/-- the words of the block that begins at q -/
def zz_blk (n : Nat) (t b : Nat → Bool) (q w : Nat) : Prop := q ≤ w ∧ w < n ∧ ∀ x, q < x → x ≤ w → t x = true ∧ b x = false
theorem zz_blk_iff {n : Nat} {t b : Nat → Bool} {q w : Nat} (h : zz_wf n t b) (hq : b q = true) (hn : n ≤ 14) (hw : w < 14) : zz_blk n t b q w ↔ (q ≤ w ∧ w < n ∧ (zz_hb t b w).toInt = (q : Int)) := by
  have tq := (h.1 q).1 hq
  constructor
  · rintro ⟨h1, h2, h3⟩
    refine ⟨h1, h2, ?_⟩
    have tw : t w = true := by
      by_cases c : w = q
      · rw [c]; exact tq
      · exact (h3 w (by omega) (Nat.le_refl _)).1
    rw [zz_hb_t (by omega) tw, zz_bg_eq hq w h1 (fun y y1 y2 => (h3 y y1 y2).2)]
  · rintro ⟨h1, h2, h3⟩
    have tw : t w = true := by
      by_cases c : t w = true
      · exact c
      · rw [zz_hb_f (Bool.eq_false_iff.mpr c)] at h3
        have : (-1 : Int32).toInt = -1 := rfl
        omega
    rw [zz_hb_t (by omega) tw] at h3
    refine ⟨h1, h2, fun x x1 x2 => ⟨(zz_bg_tk h w tw).2 x (by omega) x2, zz_bg_no b w x (by omega) x2⟩⟩
theorem zz_hb_fre {n : Nat} {t b t' b' : Nat → Bool} {q : Nat} (h : zz_wf n t b) (hq : b q = true) (hn : n ≤ 14) (ht : ∀ w, (zz_blk n t b q w → t' w = false) ∧ (¬ zz_blk n t b q w → t' w = t w)) (hb : ∀ w, b' w = (b w && !decide (w = q))) : zz_wf n t' b' ∧ ∀ k, k < 14 → zz_hb t' b' k = zz_fre n (zz_hb t b) q k := by
  have bq : b' q = false := by rw [hb]; simp
  have bo : ∀ w, w ≠ q → b' w = b w := fun w hw => by rw [hb]; simp [hw]
  have tq := (h.1 q).1 hq
  have qn : q < n := Nat.lt_of_not_le fun z => by rw [h.2 q z] at tq; exact absurd tq (by decide)
  refine ⟨⟨fun w => ⟨fun z => ?_, fun z1 z2 => ?_⟩, fun w hw => ?_⟩, fun k hk => ?_⟩
  · have c : w ≠ q := fun c => by rw [c, bq] at z; exact absurd z (by decide)
    rw [bo w c] at z
    have nb : ¬ zz_blk n t b q w := fun y => by
      have y1 := y.1
      have := (y.2.2 w (by omega) (Nat.le_refl _)).2
      rw [z] at this
      exact absurd this (by decide)
    rw [(ht w).2 nb]; exact (h.1 w).1 z
  · have nb : ¬ zz_blk n t b q w := fun y => by rw [(ht w).1 y] at z1; exact absurd z1 (by decide)
    rw [(ht w).2 nb] at z1
    have c : w ≠ q := fun c => nb (by rw [c]; exact ⟨Nat.le_refl _, qn, fun x x1 x2 => by omega⟩)
    rw [bo w c] at z2
    have p := (h.1 w).2 z1 z2
    refine ⟨p.1, ?_⟩
    have nb2 : ¬ zz_blk n t b q (w - 1) := fun y => nb ⟨by have := y.1; omega, Nat.lt_of_not_le fun z => (by rw [h.2 w z] at z1; exact absurd z1 (by decide)), fun x x1 x2 => by
      by_cases d : x = w
      · rw [d]; exact ⟨z1, z2⟩
      · exact y.2.2 x x1 (by omega)⟩
    rw [(ht (w - 1)).2 nb2]; exact p.2
  · have nb : ¬ zz_blk n t b q w := fun y => by have := y.2.1; omega
    rw [(ht w).2 nb]; exact h.2 w hw
  · have I := zz_blk_iff h hq hn hk
    show _ = (if (q : Int) ≤ (k : Int) ∧ (k : Int) < (n : Int) ∧ (zz_hb t b k).toInt = (q : Int) then (-1 : Int32) else zz_hb t b k)
    by_cases c : zz_blk n t b q k
    · have := I.mp c
      rw [if_pos ⟨by omega, by omega, this.2.2⟩, zz_hb_f ((ht k).1 c)]
    · rw [if_neg (fun z => c (I.mpr ⟨by omega, by omega, z.2.2⟩))]
      have tk := (ht k).2 c
      unfold zz_hb
      rw [tk]
      by_cases d : t k = true
      · rw [if_pos d, if_pos d]
        obtain ⟨i1, i2⟩ := zz_bg_tk h k d
        have kn : k < n := Nat.lt_of_not_le fun z => by rw [h.2 k z] at d; exact absurd d (by decide)
        have ne : zz_bg b k ≠ q := fun e => c (I.mpr ⟨by have := zz_bg_le b k; omega, kn, by rw [zz_hb_t (by omega) d, e]⟩)
        have e : zz_bg b' k = zz_bg b k := zz_bg_eq (by rw [bo _ ne]; exact i1) k (zz_bg_le b k) (fun y y1 y2 => by rw [hb, zz_bg_no b k y y1 y2]; rfl)
        rw [e]
      · rw [if_neg d, if_neg d]

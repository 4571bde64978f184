/-! worst, as both sides do it: rooms as numbers, what a room leads to, in breadth -/
def zz_hd (h : Nat → Int32) : Nat → Int
  | 0 => 0
  | d + 1 => 15 * zz_hd h d + ((h (13 - d)).toInt + 1)
def zz_cd (h : Nat → Int32) (e : Int) : Int := 16 * zz_hd h 14 + e
def zz_hv (v : Int) (k : Nat) : Int32 := Int32.ofInt (v / 16 / 15 ^ k % 15 - 1)
theorem zz_hd_cg {h g : Nat → Int32} (e : ∀ k, k < 14 → h k = g k) : ∀ d, d ≤ 14 → zz_hd h d = zz_hd g d
  | 0, _ => rfl
  | d + 1, hd => by
    show 15 * zz_hd h d + ((h (13 - d)).toInt + 1) = 15 * zz_hd g d + ((g (13 - d)).toInt + 1)
    rw [zz_hd_cg e d (by omega), e (13 - d) (by omega)]
theorem zz_cd_cg {h g : Nat → Int32} {a b : Int} (e : ∀ k, k < 14 → h k = g k) (he : a = b) : zz_cd h a = zz_cd g b := by
  unfold zz_cd
  rw [zz_hd_cg e 14 (Nat.le_refl _), he]
def zz_has (h : Nat → Int32) : Prop := ∀ k, k < 14 → -1 ≤ (h k).toInt ∧ (h k).toInt ≤ 13
theorem zz_ofI (a : Int) (h0 : -2147483648 ≤ a) (h1 : a ≤ 2147483647) : (Int32.ofInt a).toInt = a := by
  rw [Int32.toInt_ofInt]
  exact Int.bmod_eq_of_le (by show -((4294967296 : Int) / 2) ≤ _; omega) (by show _ < ((4294967296 : Int) + 1) / 2; omega)
theorem zz_hv_rg (v : Int) (k : Nat) : -1 ≤ (zz_hv v k).toInt ∧ (zz_hv v k).toInt ≤ 13 := by
  have h0 := Int.emod_nonneg (v / 16 / 15 ^ k) (show (15 : Int) ≠ 0 by decide)
  have h1 := Int.emod_lt_of_pos (v / 16 / 15 ^ k) (show (0 : Int) < 15 by decide)
  unfold zz_hv
  rw [zz_ofI _ (by omega) (by omega)]
  omega
theorem zz_hd_rg {h : Nat → Int32} (hh : zz_has h) : ∀ d, d ≤ 14 → 0 ≤ zz_hd h d ∧ zz_hd h d < 15 ^ d
  | 0, _ => ⟨Int.le_refl _, by show (0 : Int) < 15 ^ 0; decide⟩
  | d + 1, hd => by
    have ih := zz_hd_rg hh d (by omega)
    have a := hh (13 - d) (by omega)
    have p3 : (15 : Int) ^ (d + 1) = 15 ^ d * 15 := Int.pow_succ _ _
    show 0 ≤ 15 * zz_hd h d + ((h (13 - d)).toInt + 1) ∧ 15 * zz_hd h d + ((h (13 - d)).toInt + 1) < 15 ^ (d + 1)
    rw [p3]
    omega
theorem zz_hd_dig {h : Nat → Int32} (hh : zz_has h) : ∀ d, d ≤ 14 → ∀ k, k < d → zz_hd h d / 15 ^ k % 15 = (h (14 - d + k)).toInt + 1
  | 0, _, k, hk => by omega
  | d + 1, hd, k, hk => by
    have a := hh (13 - d) (by omega)
    have e : zz_hd h (d + 1) = 15 * zz_hd h d + ((h (13 - d)).toInt + 1) := rfl
    cases k with
    | zero =>
      rw [e, show 14 - (d + 1) + 0 = 13 - d by omega]
      show (15 * zz_hd h d + ((h (13 - d)).toInt + 1)) / 1 % 15 = _
      omega
    | succ k =>
      have ih := zz_hd_dig hh d (by omega) k (by omega)
      rw [e, Int.pow_succ, Int.mul_comm (15 ^ k) 15, ← Int.ediv_ediv_of_nonneg (by decide : (0 : Int) ≤ 15), show (15 * zz_hd h d + ((h (13 - d)).toInt + 1)) / 15 = zz_hd h d by omega, ih, show 14 - d + k = 14 - (d + 1) + (k + 1) by omega]
theorem zz_hv_cd {h : Nat → Int32} {e : Int} (hh : zz_has h) (h0 : 0 ≤ e) (h1 : e < 16) {k : Nat} (hk : k < 14) : zz_hv (zz_cd h e) k = h k := by
  have d := zz_hd_dig hh 14 (Nat.le_refl _) k hk
  rw [show 14 - 14 + k = k by omega] at d
  apply Int32.toInt_inj.mp
  have a := hh k hk
  unfold zz_hv zz_cd
  rw [show (16 * zz_hd h 14 + e) / 16 = zz_hd h 14 by omega, d, zz_ofI _ (by omega) (by omega)]
  omega
theorem zz_ev_cd {h : Nat → Int32} {e : Int} (h0 : 0 ≤ e) (h1 : e < 16) : zz_cd h e % 16 = e := by
  unfold zz_cd
  omega
def zz_as (h : Nat → Int32) : Nat → Int
  | 0 => 0
  | k + 1 => zz_as h k + (if (h k).toInt < 0 then 0 else 1)
theorem zz_as_cg {h g : Nat → Int32} : ∀ n, (∀ k, k < n → h k = g k) → zz_as h n = zz_as g n
  | 0, _ => rfl
  | n + 1, e => by
    show zz_as h n + _ = zz_as g n + _
    rw [zz_as_cg n (fun k hk => e k (by omega)), e n (by omega)]
def zz_ft (n : Int) (h : Nat → Int32) (a p : Int) : Prop := p + a ≤ n ∧ ∀ x : Nat, p ≤ (x : Int) → (x : Int) < p + a → (h x).toInt = -1
/-- the first fit from `from` on, ahead of `ahead` -/
def zz_ff (n : Int) (h : Nat → Int32) (a fr ah r : Int) : Prop := (r = -1 ∧ ∀ p, fr ≤ p → p < ah → ¬ zz_ft n h a p) ∨ (fr ≤ r ∧ r < ah ∧ zz_ft n h a r ∧ ∀ p, fr ≤ p → p < r → ¬ zz_ft n h a p)
theorem zz_ff_uq {n : Int} {h : Nat → Int32} {a fr ah r s : Int} (h1 : zz_ff n h a fr ah r) (h2 : zz_ff n h a fr ah s) : r = s := by
  rcases h1 with ⟨a1, a2⟩ | ⟨a1, a2, a3, a4⟩
  · rcases h2 with ⟨b1, b2⟩ | ⟨b1, b2, b3, b4⟩
    · omega
    · exact absurd b3 (a2 s b1 b2)
  · rcases h2 with ⟨b1, b2⟩ | ⟨b1, b2, b3, b4⟩
    · exact absurd a3 (b2 r a1 a2)
    · rcases Int.lt_trichotomy r s with c | c | c
      · exact absurd a3 (b4 r a1 c)
      · exact c
      · exact absurd b3 (a4 s b1 c)
/-- the best (b = true: the least) run with a words, the first of such -/
def zz_bf (b : Prop) (n : Int) (h : Nat → Int32) (a r : Int) : Prop := (r = -1 ∧ ∀ q u : Nat, zz_rn h n.toNat q u → (u : Int) < a) ∨ (0 ≤ r ∧ ∃ s : Nat, zz_rn h n.toNat r.toNat s ∧ a ≤ (s : Int) ∧ ∀ q u : Nat, zz_rn h n.toNat q u → a ≤ (u : Int) → (b ∧ s ≤ u ∨ ¬ b ∧ u ≤ s) ∧ (u = s → r ≤ (q : Int)))
theorem zz_bf_uq {b : Prop} {n : Int} {h : Nat → Int32} {a r s : Int} (h1 : zz_bf b n h a r) (h2 : zz_bf b n h a s) : r = s := by
  rcases h1 with ⟨a1, a2⟩ | ⟨a1, u, a2, a3, a4⟩
  · rcases h2 with ⟨b1, b2⟩ | ⟨b1, w, b2, b3, b4⟩
    · omega
    · have := a2 _ _ b2; omega
  · rcases h2 with ⟨b1, b2⟩ | ⟨b1, w, b2, b3, b4⟩
    · have := b2 _ _ a2; omega
    · have c1 := a4 _ _ b2 b3
      have c2 := b4 _ _ a2 a3
      have e : w = u := by
        by_cases hb : b
        · have := c1.1; have := c2.1; simp only [hb, true_and, not_true_eq_false, false_and, or_false] at *; omega
        · have := c1.1; have := c2.1; simp only [hb, not_false_eq_true, true_and, false_and, false_or] at *; omega
      have d1 := c1.2 e
      have d2 := c2.2 e.symm
      omega
def zz_pl (f n : Int) (h : Nat → Int32) (e a r : Int) : Prop := (f = 0 ∧ zz_ff n h a 0 n r) ∨ (f = 1 ∧ ((0 ≤ r ∧ zz_ff n h a e n r) ∨ (zz_ff n h a e n (-1) ∧ zz_ff n h a 0 e r))) ∨ (f = 2 ∧ zz_bf True n h a r) ∨ (f = 3 ∧ zz_bf False n h a r)
theorem zz_pl_uq {f n : Int} {h : Nat → Int32} {e a r s : Int} (h1 : zz_pl f n h e a r) (h2 : zz_pl f n h e a s) : r = s := by
  rcases h1 with ⟨f1, h1⟩ | ⟨f1, h1⟩ | ⟨f1, h1⟩ | ⟨f1, h1⟩
  · rcases h2 with ⟨f2, h2⟩ | ⟨f2, h2⟩ | ⟨f2, h2⟩ | ⟨f2, h2⟩
    · exact zz_ff_uq h1 h2
    all_goals omega
  · rcases h2 with ⟨f2, h2⟩ | ⟨f2, h2⟩ | ⟨f2, h2⟩ | ⟨f2, h2⟩
    · omega
    · rcases h1 with ⟨p1, h1⟩ | ⟨p1, h1⟩
      · rcases h2 with ⟨p2, h2⟩ | ⟨p2, h2⟩
        · exact zz_ff_uq h1 h2
        · have := zz_ff_uq h1 p2; omega
      · rcases h2 with ⟨p2, h2⟩ | ⟨p2, h2⟩
        · have := zz_ff_uq p1 h2; omega
        · exact zz_ff_uq h1 h2
    all_goals omega
  · rcases h2 with ⟨f2, h2⟩ | ⟨f2, h2⟩ | ⟨f2, h2⟩ | ⟨f2, h2⟩
    · omega
    · omega
    · exact zz_bf_uq h1 h2
    · omega
  · rcases h2 with ⟨f2, h2⟩ | ⟨f2, h2⟩ | ⟨f2, h2⟩ | ⟨f2, h2⟩
    · omega
    · omega
    · omega
    · exact zz_bf_uq h1 h2
def zz_fill (h : Nat → Int32) (p a : Int) (k : Nat) : Int32 := if p ≤ (k : Int) ∧ (k : Int) < p + a then Int32.ofInt p else h k
def zz_fre (n : Int) (h : Nat → Int32) (q : Int) (k : Nat) : Int32 := if q ≤ (k : Int) ∧ (k : Int) < n ∧ (h k).toInt = q then -1 else h k
/-- what phase ph of a room (number v) does: x = none: nothing; some none: no place; some (some c): c comes -/
def zz_evt (f most live n v : Int) (ph : Nat) (x : Option (Option Int)) : Prop :=
  if (ph : Int) ≤ most then
    (live < zz_as (zz_hv v) 14 + ph ∧ x = none) ∨ (zz_as (zz_hv v) 14 + ph ≤ live ∧ ∃ p, zz_pl f n (zz_hv v) (v % 16) ph p ∧ ((p < 0 ∧ x = some none) ∨ (0 ≤ p ∧ x = some (some (zz_cd (zz_fill (zz_hv v) p ph) (if f = 1 then p + ph else v % 16))))))
  else
    ((zz_hv v (((ph : Int) - most - 1).toNat)).toInt ≠ (ph : Int) - most - 1 ∧ x = none) ∨ ((zz_hv v (((ph : Int) - most - 1).toNat)).toInt = (ph : Int) - most - 1 ∧ x = some (some (zz_cd (zz_fre n (zz_hv v) ((ph : Int) - most - 1)) (v % 16))))
theorem zz_evt_uq {f most live n v : Int} {ph : Nat} {x y : Option (Option Int)} (h1 : zz_evt f most live n v ph x) (h2 : zz_evt f most live n v ph y) : x = y := by
  unfold zz_evt at h1 h2
  by_cases c : (ph : Int) ≤ most
  · rw [if_pos c] at h1 h2
    rcases h1 with ⟨a1, rfl⟩ | ⟨a1, p, a2, a3⟩
    · rcases h2 with ⟨b1, rfl⟩ | ⟨b1, q, b2, b3⟩
      · rfl
      · omega
    · rcases h2 with ⟨b1, rfl⟩ | ⟨b1, q, b2, b3⟩
      · omega
      · have e := zz_pl_uq a2 b2
        subst e
        rcases a3 with ⟨a3, rfl⟩ | ⟨a3, rfl⟩ <;> rcases b3 with ⟨b3, rfl⟩ | ⟨b3, rfl⟩ <;> first | rfl | omega
  · rw [if_neg c] at h1 h2
    rcases h1 with ⟨a1, rfl⟩ | ⟨a1, rfl⟩ <;> rcases h2 with ⟨b1, rfl⟩ | ⟨b1, rfl⟩ <;> first | rfl | exact absurd b1 a1 | exact absurd a1 b1
/-- from the rooms L (numbers, in the order in which they came), at the room i, phase ph, the outcome is r, in k steps -/
def zz_rs (f most live n : Int) : Nat → List Int → Nat → Nat → Int → Prop
  | 0, _, _, _, _ => False
  | k + 1, L, i, ph, r => (L.length ≤ i ∧ r = 1) ∨ ∃ v, L[i]? = some v ∧ ((most + n < (ph : Int) ∧ zz_rs f most live n k L (i + 1) 1 r) ∨ ((ph : Int) ≤ most + n ∧ ∃ x, zz_evt f most live n v ph x ∧ ((x = none ∧ zz_rs f most live n k L i (ph + 1) r) ∨ (x = some none ∧ r = 0) ∨ ∃ c, x = some (some c) ∧ ((c ∈ L ∧ zz_rs f most live n k L i (ph + 1) r) ∨ (c ∉ L ∧ 20000 ≤ L.length ∧ r = -1) ∨ (c ∉ L ∧ L.length < 20000 ∧ zz_rs f most live n k (L ++ [c]) i (ph + 1) r)))))
theorem zz_rs_uq {f most live n : Int} : ∀ (k : Nat) (L : List Int) (i ph : Nat) (r : Int) (j : Nat) (s : Int), zz_rs f most live n k L i ph r → zz_rs f most live n j L i ph s → r = s := by
  intro k
  induction k with
  | zero => intro L i ph r j s h; exact h.elim
  | succ k ih =>
    intro L i ph r j s h1 h2
    cases j with
    | zero => exact h2.elim
    | succ j =>
      rcases h1 with ⟨a1, a2⟩ | ⟨v, a1, a2⟩
      · rcases h2 with ⟨b1, b2⟩ | ⟨w, b1, b2⟩
        · omega
        · rw [List.getElem?_eq_none a1] at b1; exact absurd b1 (by simp)
      · rcases h2 with ⟨b1, b2⟩ | ⟨w, b1, b2⟩
        · rw [List.getElem?_eq_none b1] at a1; exact absurd a1 (by simp)
        · have e : v = w := by rw [a1] at b1; exact Option.some.inj b1
          subst e
          rcases a2 with ⟨a2, a3⟩ | ⟨a2, x, a3, a4⟩
          · rcases b2 with ⟨b2, b3⟩ | ⟨b2, y, b3, b4⟩
            · exact ih _ _ _ _ _ _ a3 b3
            · omega
          · rcases b2 with ⟨b2, b3⟩ | ⟨b2, y, b3, b4⟩
            · omega
            · have e := zz_evt_uq a3 b3
              subst e
              rcases a4 with ⟨rfl, a4⟩ | ⟨rfl, a4⟩ | ⟨c, rfl, a4⟩
              · rcases b4 with ⟨_, b4⟩ | ⟨b4, _⟩ | ⟨d, b4, _⟩
                · exact ih _ _ _ _ _ _ a4 b4
                · exact absurd b4 (by simp)
                · exact absurd b4 (by simp)
              · rcases b4 with ⟨b4, _⟩ | ⟨_, b4⟩ | ⟨d, b4, _⟩
                · exact absurd b4 (by simp)
                · omega
                · exact absurd b4 (by simp)
              · rcases b4 with ⟨b4, _⟩ | ⟨b4, _⟩ | ⟨d, b5, b4⟩
                · exact absurd b4 (by simp)
                · exact absurd b4 (by simp)
                · have e : c = d := Option.some.inj (Option.some.inj b5)
                  subst e
                  rcases a4 with ⟨a4, a5⟩ | ⟨a4, a5, a6⟩ | ⟨a4, a5, a6⟩
                  · rcases b4 with ⟨b4, b5⟩ | ⟨b4, _, _⟩ | ⟨b4, _, _⟩
                    · exact ih _ _ _ _ _ _ a5 b5
                    · exact absurd a4 b4
                    · exact absurd a4 b4
                  · rcases b4 with ⟨b4, b5⟩ | ⟨b4, _, _⟩ | ⟨b4, _, _⟩
                    · exact absurd b4 a4
                    · omega
                    · omega
                  · rcases b4 with ⟨b4, b5⟩ | ⟨b4, _, _⟩ | ⟨b4, b5, b6⟩
                    · exact absurd b4 a4
                    · omega
                    · exact ih _ _ _ _ _ _ a6 b6
def zz_res (f most live n : Int) (L : List Int) (i ph : Nat) (r : Int) : Prop := ∃ k, zz_rs f most live n k L i ph r
theorem zz_res_uq {f most live n : Int} {L : List Int} {i ph : Nat} {r s : Int} (h1 : zz_res f most live n L i ph r) (h2 : zz_res f most live n L i ph s) : r = s := by
  obtain ⟨k, h1⟩ := h1
  obtain ⟨j, h2⟩ := h2
  exact zz_rs_uq k L i ph r j s h1 h2
theorem zz_res_end {f most live n : Int} {L : List Int} {i ph : Nat} {r : Int} (h : L.length ≤ i) (hr : r = 1) : zz_res f most live n L i ph r := ⟨1, Or.inl ⟨h, hr⟩⟩
theorem zz_res_next {f most live n : Int} {L : List Int} {i ph : Nat} {r : Int} (hi : i < L.length) (hp : most + n < (ph : Int)) (h : zz_res f most live n L (i + 1) 1 r) : zz_res f most live n L i ph r := by
  obtain ⟨k, h⟩ := h
  exact ⟨k + 1, Or.inr ⟨L[i], List.getElem?_eq_getElem hi, Or.inl ⟨hp, h⟩⟩⟩
theorem zz_res_skip {f most live n v : Int} {L : List Int} {i ph : Nat} {r : Int} (hv : L[i]? = some v) (hp : (ph : Int) ≤ most + n) (he : zz_evt f most live n v ph none) (h : zz_res f most live n L i (ph + 1) r) : zz_res f most live n L i ph r := by
  obtain ⟨k, h⟩ := h
  exact ⟨k + 1, Or.inr ⟨v, hv, Or.inr ⟨hp, none, he, Or.inl ⟨rfl, h⟩⟩⟩⟩
theorem zz_res_fail {f most live n v : Int} {L : List Int} {i ph : Nat} {r : Int} (hv : L[i]? = some v) (hp : (ph : Int) ≤ most + n) (he : zz_evt f most live n v ph (some none)) (hr : r = 0) : zz_res f most live n L i ph r :=
  ⟨1, Or.inr ⟨v, hv, Or.inr ⟨hp, some none, he, Or.inr (Or.inl ⟨rfl, hr⟩)⟩⟩⟩
/-- the room c comes -/
def zz_ev (f most live n : Int) (L : List Int) (i ph : Nat) (c r : Int) : Prop := (c ∈ L ∧ zz_res f most live n L i (ph + 1) r) ∨ (c ∉ L ∧ 20000 ≤ L.length ∧ r = -1) ∨ (c ∉ L ∧ L.length < 20000 ∧ zz_res f most live n (L ++ [c]) i (ph + 1) r)
theorem zz_res_come {f most live n v c : Int} {L : List Int} {i ph : Nat} {r : Int} (hv : L[i]? = some v) (hp : (ph : Int) ≤ most + n) (he : zz_evt f most live n v ph (some (some c))) (h : zz_ev f most live n L i ph c r) : zz_res f most live n L i ph r := by
  rcases h with ⟨h1, k, h⟩ | ⟨h1, h2, h⟩ | ⟨h1, h2, k, h⟩
  · exact ⟨k + 1, Or.inr ⟨v, hv, Or.inr ⟨hp, _, he, Or.inr (Or.inr ⟨c, rfl, Or.inl ⟨h1, h⟩⟩)⟩⟩⟩
  · exact ⟨1, Or.inr ⟨v, hv, Or.inr ⟨hp, _, he, Or.inr (Or.inr ⟨c, rfl, Or.inr (Or.inl ⟨h1, h2, h⟩)⟩)⟩⟩⟩
  · exact ⟨k + 1, Or.inr ⟨v, hv, Or.inr ⟨hp, _, he, Or.inr (Or.inr ⟨c, rfl, Or.inr (Or.inr ⟨h1, h2, h⟩)⟩)⟩⟩⟩
/-- worst's answer r, from n words on (d sizes are left) -/
def zz_wor (f most live : Int) : Nat → Int → Int → Prop
  | 0, _, r => r = -1
  | d + 1, n, r => ∃ v, zz_res f most live n [zz_cd (fun _ => -1) 0] 0 1 v ∧ ((v = 1 ∧ r = n) ∨ (v = -1 ∧ r = -2) ∨ (v = 0 ∧ zz_wor f most live d (n + 1) r))
theorem zz_wor_uq {f most live : Int} : ∀ (d : Nat) (n r s : Int), zz_wor f most live d n r → zz_wor f most live d n s → r = s
  | 0, _, r, s, h1, h2 => by
    have h1 : r = -1 := h1
    have h2 : s = -1 := h2
    omega
  | d + 1, n, r, s, ⟨v, a1, a2⟩, ⟨w, b1, b2⟩ => by
    have e := zz_res_uq a1 b1
    subst e
    rcases a2 with ⟨a2, a3⟩ | ⟨a2, a3⟩ | ⟨a2, a3⟩ <;> rcases b2 with ⟨b2, b3⟩ | ⟨b2, b3⟩ | ⟨b2, b3⟩ <;> first | omega | exact zz_wor_uq d _ _ _ a3 b3

/-! form 5: pages of classes -/
-- the first place of s words in page p: F says which of its places is free
def zz_fp5 (F : Int → Prop) (p s r : Int) : Prop := (r = -1 ∧ ∀ j : Nat, j < 32 → (j : Int) % s = 0 → ¬ F (32 * p + (j : Int))) ∨ (∃ j : Nat, j < 32 ∧ (j : Int) % s = 0 ∧ r = 32 * p + (j : Int) ∧ F r ∧ ∀ i : Nat, i < j → (i : Int) % s = 0 → ¬ F (32 * p + (i : Int)))
theorem zz_fp5_uq {F G : Int → Prop} {p s r q : Int} (h1 : zz_fp5 F p s r) (h2 : zz_fp5 G p s q) (hp : 0 ≤ p) (he : ∀ j : Nat, j < 32 → (j : Int) % s = 0 → (F (32 * p + (j : Int)) ↔ G (32 * p + (j : Int)))) : r = q := by
  rcases h1 with ⟨a1, a2⟩ | ⟨i, a1, a2, a3, a4, a5⟩
  · rcases h2 with ⟨b1, b2⟩ | ⟨j, b1, b2, b3, b4, b5⟩
    · omega
    · rw [b3] at b4
      exact absurd ((he j b1 b2).mpr b4) (a2 j b1 b2)
  · rcases h2 with ⟨b1, b2⟩ | ⟨j, b1, b2, b3, b4, b5⟩
    · rw [a3] at a4
      exact absurd ((he i a1 a2).mp a4) (b2 i a1 a2)
    · rcases Nat.lt_trichotomy i j with c | c | c
      · rw [a3] at a4
        exact absurd ((he i a1 a2).mp a4) (b5 i c a2)
      · rw [a3, b3, c]
      · rw [b3] at b4
        exact absurd ((he j b1 b2).mpr b4) (a5 j c b2)
/-- on the way: x the place that is looked at next -/
def zz_fq5 (F : Int → Prop) (p s x r : Int) : Prop := (r = -1 ∧ ∀ j : Nat, j < 32 → (j : Int) % s = 0 → x ≤ 32 * p + (j : Int) → ¬ F (32 * p + (j : Int))) ∨ (∃ j : Nat, j < 32 ∧ (j : Int) % s = 0 ∧ x ≤ 32 * p + (j : Int) ∧ r = 32 * p + (j : Int) ∧ F r ∧ ∀ i : Nat, i < j → (i : Int) % s = 0 → x ≤ 32 * p + (i : Int) → ¬ F (32 * p + (i : Int)))
theorem zz_fq5_end {F : Int → Prop} {p s x r : Int} (hx : 32 * p + 32 ≤ x) (hr : r = -1) : zz_fq5 F p s x r := Or.inl ⟨hr, fun j h1 _ h2 => by omega⟩
theorem zz_fq5_hit {F : Int → Prop} {p s x r : Int} (hF : F x) (h0 : 32 * p ≤ x) (h1 : x < 32 * p + 32) (hm : (x - 32 * p) % s = 0) (hr : r = x) : zz_fq5 F p s x r := by
  refine Or.inr ⟨(x - 32 * p).toNat, by omega, by rw [show (((x - 32 * p).toNat : Nat) : Int) = x - 32 * p by omega]; exact hm, by omega, by omega, by rw [hr]; exact hF, fun i hi _ h2 => by omega⟩
theorem zz_fq5_next {F : Int → Prop} {p s x x' r : Int} (h : zz_fq5 F p s x' r) (hx : x' = x + s) (hF : ¬ F x) (h0 : 32 * p ≤ x) (hs : 1 ≤ s) (hm : (x - 32 * p) % s = 0) : zz_fq5 F p s x r := by
  have key : ∀ j : Nat, (j : Int) % s = 0 → x ≤ 32 * p + (j : Int) → 32 * p + (j : Int) = x ∨ x' ≤ 32 * p + (j : Int) := fun j h1 h2 => by
    by_cases c : 32 * p + (j : Int) = x
    · exact Or.inl c
    · right
      have d : ((j : Int) - (x - 32 * p)) % s = 0 := by
        rw [Int.sub_emod, h1, hm]; simp
      have e := Int.ediv_mul_cancel (Int.dvd_of_emod_eq_zero d)
      have f : 0 < ((j : Int) - (x - 32 * p)) / s := by
        refine Int.not_le.mp fun z => ?_
        have : ((j : Int) - (x - 32 * p)) / s * s ≤ 0 := Int.mul_nonpos_of_nonpos_of_nonneg z (by omega)
        omega
      have g : s ≤ ((j : Int) - (x - 32 * p)) / s * s := by
        have g1 := Int.mul_le_mul_of_nonneg_right (a := 1) (b := ((j : Int) - (x - 32 * p)) / s) (c := s) (by omega) (by omega)
        rw [Int.one_mul] at g1
        exact g1
      omega
  rcases h with ⟨a1, a2⟩ | ⟨j, a1, a2, a3, a4, a5, a6⟩
  · refine Or.inl ⟨a1, fun j h1 h2 h3 => ?_⟩
    rcases key j h2 h3 with c | c
    · rw [c]; exact hF
    · exact a2 j h1 h2 c
  · refine Or.inr ⟨j, a1, a2, by omega, a4, a5, fun i hi h1 h2 => ?_⟩
    rcases key i h1 h2 with c | c
    · rw [c]; exact hF
    · exact a6 i hi h1 c
theorem zz_fq5_all {F : Int → Prop} {p s x r : Int} (h : zz_fq5 F p s x r) (hx : x = 32 * p) : zz_fp5 F p s r := by
  rcases h with ⟨a1, a2⟩ | ⟨j, a1, a2, a3, a4, a5, a6⟩
  · exact Or.inl ⟨a1, fun j h1 h2 => a2 j h1 h2 (by omega)⟩
  · exact Or.inr ⟨j, a1, a2, a4, a5, fun i hi h1 => a6 i hi h1 (by omega)⟩
-- the first page of class s with a place, from page x on
def zz_tp5 (S : Nat → Int32) (F : Int → Prop) (pg s x r : Int) : Prop := (r = -1 ∧ ∀ p : Nat, x ≤ (p : Int) → (p : Int) < pg → (S p).toInt = s → zz_fp5 F p s (-1)) ∨ (∃ p : Nat, x ≤ (p : Int) ∧ (p : Int) < pg ∧ (S p).toInt = s ∧ 0 ≤ r ∧ zz_fp5 F p s r ∧ ∀ q : Nat, x ≤ (q : Int) → q < p → (S q).toInt = s → zz_fp5 F q s (-1))
theorem zz_tp5_end {S : Nat → Int32} {F : Int → Prop} {pg s x r : Int} (h : pg ≤ x) (hr : r = -1) : zz_tp5 S F pg s x r := Or.inl ⟨hr, fun p h1 h2 => by omega⟩
theorem zz_tp5_skip {S : Nat → Int32} {F : Int → Prop} {pg s x x' r : Int} {i : Nat} (h : zz_tp5 S F pg s x' r) (hi : (i : Int) = x) (hx : x' = x + 1) (hc : (S i).toInt ≠ s ∨ zz_fp5 F x s (-1)) : zz_tp5 S F pg s x r := by
  have key : ∀ q : Nat, x ≤ (q : Int) → ¬ x' ≤ (q : Int) → (S q).toInt = s → zz_fp5 F q s (-1) := fun q h1 h2 h3 => by
    have e : q = i := by omega
    rcases hc with hc | hc
    · rw [e] at h3; exact absurd h3 hc
    · rw [show (q : Int) = x by omega]; exact hc
  rcases h with ⟨a1, a2⟩ | ⟨p, a1, a2, a3, a4, a5, a6⟩
  · refine Or.inl ⟨a1, fun q h1 h2 h3 => ?_⟩
    by_cases c : x' ≤ (q : Int)
    · exact a2 q c h2 h3
    · exact key q h1 c h3
  · refine Or.inr ⟨p, by omega, a2, a3, a4, a5, fun q h1 h2 h3 => ?_⟩
    by_cases c : x' ≤ (q : Int)
    · exact a6 q c h2 h3
    · exact key q h1 c h3
theorem zz_tp5_hit {S : Nat → Int32} {F : Int → Prop} {pg s x r : Int} {i : Nat} (hi : (i : Int) = x) (hx : x < pg) (hs : (S i).toInt = s) (hf : zz_fp5 F x s r) (hr : 0 ≤ r) : zz_tp5 S F pg s x r := Or.inr ⟨i, by omega, by omega, hs, hr, by rw [hi]; exact hf, fun q h1 h2 => by omega⟩
theorem zz_tp5_uq {S G : Nat → Int32} {F H : Int → Prop} {pg s r q : Int} (h1 : zz_tp5 S F pg s 0 r) (h2 : zz_tp5 G H pg s 0 q) (he : ∀ p : Nat, (p : Int) < pg → ((S p).toInt = s ↔ (G p).toInt = s)) (hF : ∀ p : Nat, (p : Int) < pg → (S p).toInt = s → ∀ j : Nat, j < 32 → (j : Int) % s = 0 → (F (32 * (p : Int) + (j : Int)) ↔ H (32 * (p : Int) + (j : Int)))) : r = q := by
  have tr : ∀ p : Nat, (p : Int) < pg → (S p).toInt = s → ∀ a b : Int, zz_fp5 F p s a → zz_fp5 H p s b → a = b := fun p hp hs a b ha hb => zz_fp5_uq ha hb (by omega) (hF p hp hs)
  rcases h1 with ⟨a1, a2⟩ | ⟨p, a1, a2, a3, a4, a5, a6⟩
  · rcases h2 with ⟨b1, b2⟩ | ⟨p', b1, b2, b3, b4, b5, b6⟩
    · omega
    · have s3 := (he p' b2).mpr b3
      have := tr p' b2 s3 _ _ (a2 p' b1 b2 s3) b5
      omega
  · rcases h2 with ⟨b1, b2⟩ | ⟨p', b1, b2, b3, b4, b5, b6⟩
    · have := tr p a2 a3 _ _ a5 (b2 p a1 a2 ((he p a2).mp a3))
      omega
    · rcases Nat.lt_trichotomy p p' with c | c | c
      · have := tr p a2 a3 _ _ a5 (b6 p a1 c ((he p a2).mp a3))
        omega
      · subst c
        exact tr p a2 a3 _ _ a5 b5
      · have s3 := (he p' b2).mpr b3
        have := tr p' b2 s3 _ _ (a6 p' b1 c s3) b5
        omega
-- the first row of n free pages; k of them stand ahead of page x
def zz_z5 (S : Nat → Int32) (a e : Int) : Prop := ∀ p : Nat, a ≤ (p : Int) → (p : Int) < e → (S p).toInt = 0
/-- ahead of page x no row of n ends, the last k are free and no more -/
def zz_k5 (S : Nat → Int32) (n k x : Int) : Prop := 0 ≤ k ∧ k ≤ x ∧ k < n ∧ zz_z5 S (x - k) x ∧ (k = x ∨ (S (x - k - 1).toNat).toInt ≠ 0) ∧ ∀ q : Int, 0 ≤ q → q + n ≤ x → ¬ zz_z5 S q (q + n)
def zz_fr5 (S : Nat → Int32) (pg n r : Int) : Prop := (r = -1 ∧ ∀ q : Int, 0 ≤ q → q + n ≤ pg → ¬ zz_z5 S q (q + n)) ∨ (0 ≤ r ∧ r + n ≤ pg ∧ zz_z5 S r (r + n) ∧ ∀ q : Int, 0 ≤ q → q < r → ¬ zz_z5 S q (q + n))
theorem zz_k5_0 {S : Nat → Int32} {n k x : Int} (hk : k = 0) (hx : x = 0) (hn : 1 ≤ n) : zz_k5 S n k x := ⟨by omega, by omega, by omega, fun p h1 h2 => by omega, Or.inl (by omega), fun q h1 h2 => by omega⟩
theorem zz_k5_free {S : Nat → Int32} {n k k' x x' : Int} {i : Nat} (h : zz_k5 S n k x) (hi : (i : Int) = x) (hz : (S i).toInt = 0) (hk : k' = k + 1) (hn : k' < n) (hx : x' = x + 1) : zz_k5 S n k' x' := by
  obtain ⟨a1, a2, a3, a4, a5, a6⟩ := h
  refine ⟨by omega, by omega, hn, fun p h1 h2 => ?_, ?_, fun q h1 h2 z => ?_⟩
  · by_cases c : p = i
    · rw [c]; exact hz
    · exact a4 p (by omega) (by omega)
  · rcases a5 with c | c
    · exact Or.inl (by omega)
    · exact Or.inr (by rw [show (x' - k' - 1).toNat = (x - k - 1).toNat by omega]; exact c)
  · by_cases c : q + n ≤ x
    · exact a6 q h1 c z
    · rcases a5 with d | d
      · omega
      · exact d (z (x - k - 1).toNat (by omega) (by omega))
theorem zz_k5_no {S : Nat → Int32} {n k k' x x' : Int} {i : Nat} (h : zz_k5 S n k x) (hi : (i : Int) = x) (hz : (S i).toInt ≠ 0) (hk : k' = 0) (hx : x' = x + 1) (hn : 1 ≤ n) : zz_k5 S n k' x' := by
  obtain ⟨a1, a2, a3, a4, a5, a6⟩ := h
  refine ⟨by omega, by omega, by omega, fun p h1 h2 => by omega, Or.inr (by rw [show (x' - k' - 1).toNat = i by omega]; exact hz), fun q h1 h2 z => ?_⟩
  by_cases c : q + n ≤ x
  · exact a6 q h1 c z
  · exact hz (z i (by omega) (by omega))
theorem zz_fr5_end {S : Nat → Int32} {n k x pg r : Int} (h : zz_k5 S n k x) (hx : pg ≤ x) (hr : r = -1) : zz_fr5 S pg n r := Or.inl ⟨hr, fun q h1 h2 => h.2.2.2.2.2 q h1 (by omega)⟩
theorem zz_fr5_hit {S : Nat → Int32} {n k x pg r : Int} {i : Nat} (h : zz_k5 S n k x) (hi : (i : Int) = x) (hz : (S i).toInt = 0) (hk : k + 1 = n) (hx : x < pg) (hr : r = x - n + 1) : zz_fr5 S pg n r := by
  obtain ⟨a1, a2, a3, a4, a5, a6⟩ := h
  refine Or.inr ⟨by omega, by omega, fun p h1 h2 => ?_, fun q h1 h2 z => ?_⟩
  · by_cases c : p = i
    · rw [c]; exact hz
    · exact a4 p (by omega) (by omega)
  · by_cases c : q + n ≤ x
    · exact a6 q h1 c z
    · rcases a5 with d | d
      · omega
      · exact d (z (x - k - 1).toNat (by omega) (by omega))
theorem zz_fr5_uq {S G : Nat → Int32} {pg n r q : Int} (h1 : zz_fr5 S pg n r) (h2 : zz_fr5 G pg n q) (he : ∀ p : Nat, (p : Int) < pg → ((S p).toInt = 0 ↔ (G p).toInt = 0)) : r = q := by
  have tr : ∀ a : Int, 0 ≤ a → a + n ≤ pg → (zz_z5 S a (a + n) ↔ zz_z5 G a (a + n)) := fun a ha hn => ⟨fun z p h1 h2 => (he p (by omega)).mp (z p h1 h2), fun z p h1 h2 => (he p (by omega)).mpr (z p h1 h2)⟩
  rcases h1 with ⟨a1, a2⟩ | ⟨a1, a2, a3, a4⟩
  · rcases h2 with ⟨b1, b2⟩ | ⟨b1, b2, b3, b4⟩
    · omega
    · exact absurd ((tr q b1 b2).mpr b3) (a2 q b1 b2)
  · rcases h2 with ⟨b1, b2⟩ | ⟨b1, b2, b3, b4⟩
    · exact absurd ((tr r a1 a2).mp a3) (b2 r a1 a2)
    · rcases Int.lt_trichotomy r q with c | c | c
      · exact absurd ((tr r a1 a2).mp a3) (b4 r a1 c)
      · exact c
      · exact absurd ((tr q b1 b2).mpr b3) (a4 q b1 c)
-- how many places of page p are taken
noncomputable def zz_c5 (o : Nat → Int32) (p : Nat) (s : Int) : Nat := zz_cn (fun j => (j : Int) % s = 0 ∧ (o (32 * p + j)).toInt ≠ -1) 32
theorem zz_c5_cg {o o' : Nat → Int32} {p : Nat} {s : Int} (h : ∀ j : Nat, j < 32 → (j : Int) % s = 0 → ((o' (32 * p + j)).toInt = -1 ↔ (o (32 * p + j)).toInt = -1)) : zz_c5 o' p s = zz_c5 o p s := by
  have h1 := zz_cn_mono (P := fun j => (j : Int) % s = 0 ∧ (o' (32 * p + j)).toInt ≠ -1) (Q := fun j => (j : Int) % s = 0 ∧ (o (32 * p + j)).toInt ≠ -1) 32 (fun b hb z => ⟨z.1, fun e => z.2 ((h b hb z.1).mpr e)⟩)
  have h2 := zz_cn_mono (P := fun j => (j : Int) % s = 0 ∧ (o (32 * p + j)).toInt ≠ -1) (Q := fun j => (j : Int) % s = 0 ∧ (o' (32 * p + j)).toInt ≠ -1) 32 (fun b hb z => ⟨z.1, fun e => z.2 ((h b hb z.1).mp e)⟩)
  unfold zz_c5
  omega
theorem zz_c5_more {o o' : Nat → Int32} {p j0 : Nat} {s : Int} (hj : j0 < 32) (hm : (j0 : Int) % s = 0) (h0 : (o (32 * p + j0)).toInt = -1) (h1 : (o' (32 * p + j0)).toInt ≠ -1) (h : ∀ j : Nat, j < 32 → j ≠ j0 → (j : Int) % s = 0 → ((o' (32 * p + j)).toInt = -1 ↔ (o (32 * p + j)).toInt = -1)) : zz_c5 o' p s = zz_c5 o p s + 1 := by
  have a := zz_cn_add (P := fun j => (j : Int) % s = 0 ∧ (o' (32 * p + j)).toInt ≠ -1) (Q := fun j => (j : Int) % s = 0 ∧ (o (32 * p + j)).toInt ≠ -1) (b0 := j0) 32 (fun b hb z => by
    by_cases c : b = j0
    · exact Or.inr c
    · exact Or.inl ⟨z.1, fun e => z.2 ((h b hb c z.1).mpr e)⟩)
  have b := zz_cn_sub (P := fun j => (j : Int) % s = 0 ∧ (o (32 * p + j)).toInt ≠ -1) (Q := fun j => (j : Int) % s = 0 ∧ (o' (32 * p + j)).toInt ≠ -1) (b0 := j0) ⟨hm, h1⟩ 32 (fun b hb z => by
    have c : b ≠ j0 := fun e => by rw [e] at z; exact z.2 h0
    exact ⟨⟨z.1, fun e => z.2 ((h b hb c z.1).mp e)⟩, c⟩)
  rw [if_pos hj] at a b
  unfold zz_c5
  omega
theorem zz_c5_0 {o : Nat → Int32} {p : Nat} {s : Int} : zz_c5 o p s = 0 ↔ ∀ j : Nat, j < 32 → (j : Int) % s = 0 → (o (32 * p + j)).toInt = -1 := by
  constructor
  · intro h j hj hm
    refine Classical.byContradiction fun c => ?_
    have b := zz_cn_sub (P := fun _ => False) (Q := fun j => (j : Int) % s = 0 ∧ (o (32 * p + j)).toInt ≠ -1) (b0 := j) ⟨hm, c⟩ 32 (fun b hb z => z.elim)
    rw [if_pos hj] at b
    unfold zz_c5 at h
    omega
  · intro h
    have a := zz_cn_mono (P := fun j => (j : Int) % s = 0 ∧ (o (32 * p + j)).toInt ≠ -1) (Q := fun _ => False) 32 (fun b hb z => z.2 (h b hb z.1))
    have e : ∀ n, zz_cn (fun _ => False) n = 0 := fun n => by
      induction n with
      | zero => rfl
      | succ n ih => rw [zz_cn_n (fun z => z)]; exact ih
    rw [e] at a
    unfold zz_c5
    omega
/-- a page of class s is free or taken by places -/
def zz_sl5 (o : Nat → Int32) (p : Nat) (s : Int) : Prop := ∀ j : Nat, j < 32 → ((o (32 * p + j)).toInt = -1 ↔ (o (32 * p + (j - j % s.toNat))).toInt = -1)
/-- form 5: spans S and blocks K of the class, pages G of the reference -/
def zz_F5 (w pg : Int) (S K G o nu pl sp : Nat → Int32) : Prop := pg = w / 32 ∧ (∀ p : Nat, (p : Int) < pg → ((S p).toInt = 0 ∧ (G p).toInt = 0 ∧ ∀ j : Nat, j < 32 → (o (32 * p + j)).toInt = -1) ∨ (zz_p2 (S p).toInt ∧ (S p).toInt ≤ 32 ∧ (G p).toInt = (S p).toInt ∧ (K p).toInt = (zz_c5 o p (S p).toInt : Int) ∧ zz_sl5 o p (S p).toInt) ∨ (32 < (S p).toInt ∧ (G p).toInt = 64 ∧ (K p).toInt = 1)) ∧ ∀ b : Nat, b < 200 → zz_us w o nu pl b → (zz_p2 (sp b).toInt ∧ (sp b).toInt ≤ 32 ∧ (pl b).toInt % (sp b).toInt = 0 ∧ (pl b).toInt / 32 < pg ∧ (S ((pl b).toInt / 32).toNat).toInt = (sp b).toInt) ∨ (32 < (sp b).toInt ∧ (pl b).toInt % 32 = 0 ∧ (sp b).toInt % 32 = 0 ∧ ((pl b).toInt + (sp b).toInt) / 32 ≤ pg ∧ ∀ p : Nat, (pl b).toInt / 32 ≤ (p : Int) → (p : Int) < ((pl b).toInt + (sp b).toInt) / 32 → (S p).toInt = (sp b).toInt)
theorem zz_F5_p {w pg : Int} {S K G o nu pl sp : Nat → Int32} {p : Nat} {s : Int} (h : zz_F5 w pg S K G o nu pl sp) (hp : (p : Int) < pg) (hs : 1 ≤ s) (hs2 : s ≤ 32) : ((S p).toInt = s ↔ (G p).toInt = s) ∧ ((S p).toInt = 0 ↔ (G p).toInt = 0) := by
  rcases h.2.1 p hp with ⟨a1, a2, _⟩ | ⟨a1, a2, a3, _⟩ | ⟨a1, a2, _⟩
  · omega
  · have := zz_p2_pos a1
    omega
  · omega
theorem zz_mod32 {s j : Nat} (hs : zz_p2 (s : Int)) (h32 : s ≤ 32) (hj : j < 32) : j - j % s + s ≤ 32 ∧ (j - j % s) % s = 0 ∧ ∀ i, i < s → (j - j % s + i) % s = i := by
  have : s = 1 ∨ s = 2 ∨ s = 4 ∨ s = 8 ∨ s = 16 ∨ s = 32 := by unfold zz_p2 at hs; omega
  rcases this with c | c | c | c | c | c <;> subst c <;> refine ⟨by omega, by omega, fun i hi => by omega⟩
/-- a place of page p is free in the class's eyes (its first word) if and only if it is in the reference's (all its words) -/
theorem zz_F5_fr {w pg : Int} {S K G c o nu pl sp : Nat → Int32} {p j : Nat} {s : Int} (h : zz_F5 w pg S K G o nu pl sp) (he : zz_fe2 w c o) (hp : (p : Int) < pg) (hs : (S p).toInt = s) (hs1 : 1 ≤ s) (hs2 : s ≤ 32) (hj : j < 32) (hm : (j : Int) % s = 0) : (c (32 * (p : Int) + (j : Int)).toNat).toInt = -1 ↔ zz_bk o (32 * (p : Int) + (j : Int)) (32 * (p : Int) + (j : Int) + s) := by
  have pgw := h.1
  rw [show (32 * (p : Int) + (j : Int)).toNat = 32 * p + j by omega]
  rcases h.2.1 p hp with ⟨a1, a2, _⟩ | ⟨a1, a2, a3, a4, a5⟩ | ⟨a1, a2, _⟩
  · omega
  · rw [hs] at a1 a5
    have m := zz_mod32 (s := s.toNat) (by rw [show ((s.toNat : Nat) : Int) = s by omega]; exact a1) (by omega) hj
    have jm : j % s.toNat = 0 := by
      have : ((j % s.toNat : Nat) : Int) = (j : Int) % s := by rw [Int.natCast_emod, show ((s.toNat : Nat) : Int) = s by omega]
      omega
    rw [jm, Nat.sub_zero] at m
    constructor
    · intro z x h1 h2
      have z2 := (he (32 * p + j) (by omega)).mp z
      have k := a5 (x - 32 * p) (by omega)
      have e1 := m.2.2 (x - 32 * p - j) (by omega)
      rw [show j + (x - 32 * p - j) = x - 32 * p by omega] at e1
      rw [e1, show 32 * p + (x - 32 * p) = x by omega, show 32 * p + (x - 32 * p - (x - 32 * p - j)) = 32 * p + j by omega] at k
      exact k.mpr z2
    · intro z
      exact (he (32 * p + j) (by omega)).mpr (z (32 * p + j) (by omega) (by omega))
  · omega

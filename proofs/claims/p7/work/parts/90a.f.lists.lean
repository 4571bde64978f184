/-! rows of lists, in their order; what a class's stretches say, newest first -/
def zz_sg (pc wc : Nat → Int32) (a : Nat) : Nat → List (Nat × Nat)
  | 0 => []
  | k + 1 => ((pc (a + k)).toNatClampNeg, (wc (a + k)).toNatClampNeg) :: zz_sg pc wc a k
theorem zz_sg_s (pc wc : Nat → Int32) (a k : Nat) : zz_sg pc wc a (k + 1) = ((pc (a + k)).toNatClampNeg, (wc (a + k)).toNatClampNeg) :: zz_sg pc wc a k := rfl
theorem zz_sg_top (pc wc : Nat → Int32) (j : Nat) : zz_sg pc wc 0 (j + 1) = ((pc j).toNatClampNeg, (wc j).toNatClampNeg) :: zz_sg pc wc 0 j := by
  rw [zz_sg_s, Nat.zero_add]
theorem zz_sg_app (pc wc : Nat → Int32) (a k : Nat) : ∀ j, zz_sg pc wc a (k + j) = zz_sg pc wc (a + k) j ++ zz_sg pc wc a k
  | 0 => rfl
  | j + 1 => by
    rw [show k + (j + 1) = (k + j) + 1 from rfl, zz_sg_s, zz_sg_s, zz_sg_app pc wc a k j, List.cons_append, Nat.add_assoc a k j]
theorem zz_sg_sh {pc wc pc' wc' : Nat → Int32} {a b : Nat} : ∀ k, (∀ x, x < k → pc' (a + x) = pc (b + x) ∧ wc' (a + x) = wc (b + x)) → zz_sg pc' wc' a k = zz_sg pc wc b k
  | 0, _ => rfl
  | k + 1, h => by
    rw [zz_sg_s, zz_sg_s, zz_sg_sh k (fun x hx => h x (by omega)), (h k (by omega)).1, (h k (by omega)).2]
theorem zz_sg_len (pc wc : Nat → Int32) (a : Nat) : ∀ k, (zz_sg pc wc a k).length = k
  | 0 => rfl
  | k + 1 => by rw [zz_sg_s, List.length_cons, zz_sg_len pc wc a k]
theorem zz_sg_in (pc wc : Nat → Int32) (a : Nat) : ∀ k i, i < k → ((pc (a + i)).toNatClampNeg, (wc (a + i)).toNatClampNeg) ∈ zz_sg pc wc a k
  | 0, i, h => by omega
  | k + 1, i, h => by
    rw [zz_sg_s]
    by_cases c : i = k
    · rw [c]; exact List.mem_cons_self
    · exact List.mem_cons_of_mem _ (zz_sg_in pc wc a k i (by omega))
theorem zz_sg_mem {pc wc : Nat → Int32} {a : Nat} {x : Nat × Nat} : ∀ k, x ∈ zz_sg pc wc a k → ∃ i, i < k ∧ x = ((pc (a + i)).toNatClampNeg, (wc (a + i)).toNatClampNeg)
  | 0, h => by cases h
  | k + 1, h => by
    rw [zz_sg_s] at h
    rcases List.mem_cons.mp h with h | h
    · exact ⟨k, by omega, h⟩
    · obtain ⟨i, h1, h2⟩ := zz_sg_mem k h
      exact ⟨i, by omega, h2⟩
def zz_rw (f : Nat → Int32) : Nat → Nat → List Nat
  | _, 0 => []
  | b, k + 1 => (f b).toNatClampNeg :: zz_rw f (b + 1) k
theorem zz_rw_s (f : Nat → Int32) (b k : Nat) : zz_rw f b (k + 1) = (f b).toNatClampNeg :: zz_rw f (b + 1) k := rfl
theorem zz_rw_sh {f f' : Nat → Int32} : ∀ k a b, (∀ x, x < k → f' (a + x) = f (b + x)) → zz_rw f' a k = zz_rw f b k
  | 0, _, _, _ => rfl
  | k + 1, a, b, h => by
    have h0 := h 0 (by omega)
    rw [Nat.add_zero, Nat.add_zero] at h0
    rw [zz_rw_s, zz_rw_s, h0, zz_rw_sh k (a + 1) (b + 1) (fun x hx => by
      have := h (x + 1) (by omega)
      rw [show a + 1 + x = a + (x + 1) by omega, show b + 1 + x = b + (x + 1) by omega]; exact this)]
theorem zz_rw_app (f : Nat → Int32) : ∀ k b j, zz_rw f b (k + j) = zz_rw f b k ++ zz_rw f (b + k) j
  | 0, b, j => by rw [Nat.zero_add, Nat.add_zero]; rfl
  | k + 1, b, j => by
    rw [show k + 1 + j = (k + j) + 1 by omega, zz_rw_s, zz_rw_s, zz_rw_app f k (b + 1) j, List.cons_append, show b + 1 + k = b + (k + 1) by omega]
theorem zz_rw_get (f : Nat → Int32) : ∀ k b i, i < k → (zz_rw f b k)[i]? = some (f (b + i)).toNatClampNeg
  | 0, b, i, h => by omega
  | k + 1, b, 0, _ => by rw [zz_rw_s, List.getElem?_cons_zero, Nat.add_zero]
  | k + 1, b, i + 1, h => by rw [zz_rw_s, List.getElem?_cons_succ, zz_rw_get f k (b + 1) i (by omega), show b + 1 + i = b + (i + 1) by omega]
theorem zz_rw_len (f : Nat → Int32) : ∀ k b, (zz_rw f b k).length = k
  | 0, _ => rfl
  | k + 1, b => by rw [zz_rw_s, List.length_cons, zz_rw_len f k]
theorem zz_rw_in (f : Nat → Int32) {k b i : Nat} (h : i < k) : (f (b + i)).toNatClampNeg ∈ zz_rw f b k := List.mem_of_getElem? (zz_rw_get f k b i h)
theorem zz_nd_uq {X : List (Nat × Nat)} (hn : (X.map Prod.fst).Nodup) {y z : Nat × Nat} (hy : y ∈ X) (hz : z ∈ X) (e : y.1 = z.1) : y = z := by
  induction X with
  | nil => cases hy
  | cons a X ih =>
    rw [List.map_cons, List.nodup_cons] at hn
    rcases List.mem_cons.mp hy with hy | hy
    · rcases List.mem_cons.mp hz with hz | hz
      · rw [hy, hz]
      · exact absurd (List.mem_map.mpr ⟨z, hz, by rw [← e, hy]⟩) hn.1
    · rcases List.mem_cons.mp hz with hz | hz
      · exact absurd (List.mem_map.mpr ⟨y, hy, by rw [e, hz]⟩) hn.1
      · exact ih hn.2 hy hz
theorem zz_nd_cut {A B : List Nat} {x : Nat} (hn : (A ++ x :: B).Nodup) : (A ++ x :: B).filter (fun y => y != x) = A ++ B := by
  obtain ⟨h1, h2, h3⟩ := List.nodup_append.mp hn
  rw [List.nodup_cons] at h2
  rw [List.filter_append, List.filter_cons_of_neg (by simp), List.filter_eq_self.mpr (fun a ha => by
    have := h3 a ha x List.mem_cons_self
    simp [this]), List.filter_eq_self.mpr (fun a ha => by
    have : a ≠ x := fun e => h2.1 (by rw [← e]; exact ha)
    simp [this])]
theorem zz_nd_cutX {A B : List (Nat × Nat)} {x : Nat × Nat} (hn : ((A ++ x :: B).map Prod.fst).Nodup) : (A ++ x :: B).filter (fun y => y.1 != x.1) = A ++ B := by
  rw [List.map_append, List.map_cons] at hn
  obtain ⟨h1, h2, h3⟩ := List.nodup_append.mp hn
  rw [List.nodup_cons] at h2
  rw [List.filter_append, List.filter_cons_of_neg (by simp), List.filter_eq_self.mpr (fun a ha => by
    have := h3 a.1 (List.mem_map.mpr ⟨a, ha, rfl⟩) x.1 List.mem_cons_self
    simp [this]), List.filter_eq_self.mpr (fun a ha => by
    have : a.1 ≠ x.1 := fun e => h2.1 (by rw [← e]; exact List.mem_map.mpr ⟨a, ha, rfl⟩)
    simp [this])]
/-- rows 0 .. N-1 hold, newest first, the places of X by key -/
def zz_RX (κ : Nat → Nat) (N : Nat) (li lm : Nat → Int32) (X : List (Nat × Nat)) : Prop := ∀ l, l < N → zz_rw li (1024 * l) (lm l).toNatClampNeg = (X.filter (fun x => κ x.2 == l)).map Prod.fst
theorem zz_RX_to {κ : Nat → Nat} {N L v : Nat} {li lm g m : Nat → Int32} {X : List (Nat × Nat)} {p : Int32} (h : zz_RX κ N li lm X) (a1 : zz_TL li g (L : Int) (lm L).toInt p) (a2 : (m L).toInt = (lm L).toInt + 1) (a3 : ∀ j, j ≠ L → m j = lm j) (hL : κ v = L) (hm : ∀ j, j < N → 0 ≤ (lm j).toInt ∧ (lm j).toInt ≤ 1000) (hN : L < N) : zz_RX κ N g m ((p.toNatClampNeg, v) :: X) := fun l hl => by
  have h0 := h l hl
  have ml := hm l hl
  have mL := hm L hN
  have el := zz_tn (lm l)
  by_cases e : l = L
  · rw [e] at h0 ml el ⊢
    have e1 : (m L).toNatClampNeg = (lm L).toNatClampNeg + 1 := by rw [zz_tn, zz_tn]; omega
    have g0 := a1 (1024 * L)
    rw [if_pos (by omega)] at g0
    rw [e1, List.filter_cons_of_pos (by simp [hL]), List.map_cons, ← h0, zz_rw_s, g0, zz_rw_sh _ _ (1024 * L) (fun x hx => by
      have ga := a1 (1024 * L + 1 + x)
      rw [if_neg (by omega), if_pos (by omega)] at ga
      rw [ga, show 1024 * L + 1 + x - 1 = 1024 * L + x by omega])]
  · rw [a3 l e, List.filter_cons_of_neg (by simp [hL]; omega), ← h0]
    refine zz_rw_sh _ _ _ (fun x hx => ?_)
    have ga := a1 (1024 * l + x)
    rw [if_neg (by omega), if_neg (by omega)] at ga
    exact ga
theorem zz_RX_from {κ : Nat → Nat} {N L j : Nat} {li lm g m : Nat → Int32} {X : List (Nat × Nat)} {p : Int32} (h : zz_RX κ N li lm X) (b1 : (j : Int) < (lm L).toInt) (b2 : (li (1024 * L + j)).toInt = p.toInt) (b3 : zz_FL li g L j ((lm L).toInt - 1)) (b4 : (m L).toInt = (lm L).toInt - 1) (b5 : ∀ j, j ≠ L → m j = lm j) (hm : ∀ j, j < N → 0 ≤ (lm j).toInt ∧ (lm j).toInt ≤ 1000) (hN : L < N) (hn : (X.map Prod.fst).Nodup) : zz_RX κ N g m (X.filter (fun x => x.1 != p.toNatClampNeg)) := fun l hl => by
  have h0 := h l hl
  have hL := h L hN
  have ml := hm l hl
  have mL := hm L hN
  have el := zz_tn (lm l)
  have eL := zz_tn (lm L)
  have ep : (li (1024 * L + j)).toNatClampNeg = p.toNatClampNeg := by rw [zz_tn, zz_tn, b2]
  have sw : ((X.filter (fun x => x.1 != p.toNatClampNeg)).filter (fun x => κ x.2 == l)).map Prod.fst = ((X.filter (fun x => κ x.2 == l)).map Prod.fst).filter (fun y => y != p.toNatClampNeg) := by
    rw [List.filter_map, List.filter_filter, List.filter_filter]
    congr 1
    refine List.filter_congr (fun x _ => ?_)
    show (κ x.2 == l && x.1 != p.toNatClampNeg) = (x.1 != p.toNatClampNeg && κ x.2 == l)
    exact Bool.and_comm _ _
  rw [sw, ← h0]
  by_cases e : l = L
  · rw [e] at h0 ml el ⊢
    have e1 : (lm L).toNatClampNeg = j + ((m L).toNatClampNeg - j + 1) := by rw [zz_tn, zz_tn]; omega
    have e2 : (m L).toNatClampNeg = j + ((m L).toNatClampNeg - j) := by rw [zz_tn]; omega
    have r1 : zz_rw li (1024 * L) (lm L).toNatClampNeg = zz_rw li (1024 * L) j ++ p.toNatClampNeg :: zz_rw li (1024 * L + j + 1) ((m L).toNatClampNeg - j) := by
      rw [e1, zz_rw_app, zz_rw_s, ep]
    have r2 : zz_rw g (1024 * L) (m L).toNatClampNeg = zz_rw li (1024 * L) j ++ zz_rw li (1024 * L + j + 1) ((m L).toNatClampNeg - j) := by
      rw [e2, zz_rw_app, ← e2, zz_rw_sh (f' := g) (f := li) j (1024 * L) (1024 * L) (fun x hx => by
        have ga := b3 (1024 * L + x)
        rw [if_neg (by omega)] at ga
        exact ga), zz_rw_sh (f' := g) (f := li) ((m L).toNatClampNeg - j) (1024 * L + j) (1024 * L + j + 1) (fun x hx => by
        have em := zz_tn (m L)
        have ga := b3 (1024 * L + j + x)
        rw [if_pos (by omega)] at ga
        rw [ga, show 1024 * L + j + x + 1 = 1024 * L + j + 1 + x by omega])]
    have nd : (zz_rw li (1024 * L) (lm L).toNatClampNeg).Nodup := by
      rw [h0]
      exact List.Sublist.nodup (List.Sublist.map _ List.filter_sublist) hn
    rw [r1] at nd
    rw [r1, r2, zz_nd_cut nd]
  · rw [b5 l e, zz_rw_sh (f' := g) (f := li) _ (1024 * l) (1024 * l) (fun x hx => by
      have ga := b3 (1024 * l + x)
      rw [if_neg (by omega)] at ga
      exact ga)]
    refine (List.filter_eq_self.mpr (fun a ha => ?_)).symm
    have hp : p.toNatClampNeg ∈ zz_rw li (1024 * L) (lm L).toNatClampNeg := by
      rw [← ep]; exact zz_rw_in li (by omega)
    rw [hL] at hp
    rw [h0] at ha
    obtain ⟨y, y1, y2⟩ := List.mem_map.mp hp
    obtain ⟨z, z1, z2⟩ := List.mem_map.mp ha
    obtain ⟨y3, y4⟩ := List.mem_filter.mp y1
    obtain ⟨z3, z4⟩ := List.mem_filter.mp z1
    have : a ≠ p.toNatClampNeg := fun c => by
      have := zz_nd_uq hn y3 z3 (by rw [y2, z2, c])
      rw [this] at y4
      have y5 := eq_of_beq y4
      have z5 := eq_of_beq z4
      omega
    simp [this]
/-- X are the runs of o, each once -/
def zz_XR (o : Nat → Int32) (W : Nat) (X : List (Nat × Nat)) : Prop := (∀ x ∈ X, zz_rn o W x.1 x.2) ∧ (X.map Prod.fst).Nodup ∧ ∀ p v, zz_rn o W p v → (p, v) ∈ X
-- which run is taken
def zz_fp1 (n : Nat) (x : Nat × Nat) : Bool := zz_lo x.2 == zz_lo n && decide (n ≤ x.2)
theorem zz_fp1_t {n : Nat} {x : Nat × Nat} : zz_fp1 n x = true ↔ zz_lo x.2 = zz_lo n ∧ n ≤ x.2 := by
  unfold zz_fp1
  rw [Bool.and_eq_true, beq_iff_eq, decide_eq_true_iff]
def zz_pk (n : Nat) (X : List (Nat × Nat)) (x : Nat × Nat) : Prop := X.find? (zz_fp1 n) = some x ∨ (X.find? (zz_fp1 n) = none ∧ ∃ m, zz_lo n < m ∧ (∀ y ∈ X, zz_lo n < zz_lo y.2 → m ≤ zz_lo y.2) ∧ X.find? (fun y => zz_lo y.2 == m) = some x)
def zz_pn (n : Nat) (X : List (Nat × Nat)) : Prop := X.find? (zz_fp1 n) = none ∧ ∀ y ∈ X, ¬ zz_lo n < zz_lo y.2
theorem zz_pk_mem {n : Nat} {X : List (Nat × Nat)} {x : Nat × Nat} (h : zz_pk n X x) : x ∈ X := by
  rcases h with h | ⟨_, m, _, _, h⟩
  · exact List.mem_of_find?_eq_some h
  · exact List.mem_of_find?_eq_some h
theorem zz_fbeq {m : Nat} {X : List (Nat × Nat)} {x : Nat × Nat} (h : X.find? (fun y => zz_lo y.2 == m) = some x) : zz_lo x.2 = m := by
  have e := List.find?_some h
  simpa using e
theorem zz_pk_ge {n : Nat} {X : List (Nat × Nat)} {x : Nat × Nat} (h : zz_pk n X x) (hn : n ≤ 1024) : n ≤ x.2 := by
  rcases h with h | ⟨_, m, h1, _, h⟩
  · exact (zz_fp1_t.mp (List.find?_some h)).2
  · have e := zz_fbeq h
    have := zz_lo_gt (u := n) (v := x.2) (by omega) hn
    omega
theorem zz_pk_uq {n : Nat} {X : List (Nat × Nat)} {x y : Nat × Nat} (h1 : zz_pk n X x) (h2 : zz_pk n X y) : x = y := by
  rcases h1 with h1 | ⟨h1, m, a1, a2, a3⟩
  · rcases h2 with h2 | ⟨h2, k, b1, b2, b3⟩
    · rw [h1] at h2; exact Option.some.inj h2
    · rw [h1] at h2; cases h2
  · rcases h2 with h2 | ⟨h2, k, b1, b2, b3⟩
    · rw [h1] at h2; cases h2
    · have e1 := zz_fbeq a3
      have e2 := zz_fbeq b3
      have c1 := a2 y (List.mem_of_find?_eq_some b3) (by omega)
      have c2 := b2 x (List.mem_of_find?_eq_some a3) (by omega)
      rw [show k = m by omega, a3] at b3
      exact Option.some.inj b3
theorem zz_pk_pn {n : Nat} {X : List (Nat × Nat)} {x : Nat × Nat} (h1 : zz_pk n X x) (h2 : zz_pn n X) : False := by
  rcases h1 with h1 | ⟨h1, m, a1, a2, a3⟩
  · rw [h2.1] at h1; cases h1
  · have e1 := zz_fbeq a3
    exact h2.2 x (List.mem_of_find?_eq_some a3) (by omega)
/-- what a give of n words makes of X, and the place that it takes (-1: none) -/
def zz_gtk (n : Nat) (X X' : List (Nat × Nat)) (r : Int) : Prop := (r = -1 ∧ zz_pn n X ∧ X' = X) ∨ (0 ≤ r ∧ ∃ v, zz_pk n X (r.toNat, v) ∧ X' = (if n < v then [(r.toNat + n, v - n)] else []) ++ X.filter (fun x => x.1 != r.toNat))
theorem zz_gtk_uq {n : Nat} {X X1 X2 : List (Nat × Nat)} {r s : Int} (h1 : zz_gtk n X X1 r) (h2 : zz_gtk n X X2 s) : r = s ∧ X1 = X2 := by
  rcases h1 with ⟨a1, a2, a3⟩ | ⟨a1, v, a2, a3⟩
  · rcases h2 with ⟨b1, b2, b3⟩ | ⟨b1, u, b2, b3⟩
    · exact ⟨by omega, by rw [a3, b3]⟩
    · exact (zz_pk_pn b2 a2).elim
  · rcases h2 with ⟨b1, b2, b3⟩ | ⟨b1, u, b2, b3⟩
    · exact (zz_pk_pn a2 b2).elim
    · have e := zz_pk_uq a2 b2
      have e1 : r.toNat = s.toNat := congrArg Prod.fst e
      have e2 : v = u := congrArg Prod.snd e
      exact ⟨by omega, by rw [a3, b3, e1, e2]⟩
/-- what a back of p, n makes of X -/
def zz_kp (p n : Nat) (x : Nat × Nat) : Bool := !(x.1 + x.2 == p) && !(x.1 == p + n)
def zz_tbB (p : Nat) : List (Nat × Nat) → Nat → Nat
  | [], b => b
  | x :: X, b => zz_tbB p X (if x.1 + x.2 = p then x.1 else b)
def zz_tbE (p n : Nat) : List (Nat × Nat) → Nat → Nat
  | [], e => e
  | x :: X, e => zz_tbE p n X (if x.1 + x.2 ≠ p ∧ x.1 = p + n then x.1 + x.2 else e)
def zz_btb (p n : Nat) (X : List (Nat × Nat)) : List (Nat × Nat) := (zz_tbB p X p, zz_tbE p n X (p + n) - zz_tbB p X p) :: X.filter (zz_kp p n)

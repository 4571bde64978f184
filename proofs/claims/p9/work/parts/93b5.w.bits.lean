/-! bitCount -/
theorem zz_bc_all (a : Nat) (ha : a < 128) (b : Nat) (hb : b < 128) : (zz_bcx (Int32.ofNat (128 * a + b))).toInt = (zz_pcn (128 * a + b) 14 : Int) := by
  rcases (show a / 8 = 0 ∨ a / 8 = 1 ∨ a / 8 = 2 ∨ a / 8 = 3 ∨ a / 8 = 4 ∨ a / 8 = 5 ∨ a / 8 = 6 ∨ a / 8 = 7 ∨ a / 8 = 8 ∨ a / 8 = 9 ∨ a / 8 = 10 ∨ a / 8 = 11 ∨ a / 8 = 12 ∨ a / 8 = 13 ∨ a / 8 = 14 ∨ a / 8 = 15 by omega) with h | h | h | h | h | h | h | h | h | h | h | h | h | h | h | h
  · have g := zz_bc_0 (a % 8) (by omega) b hb
    rw [show 0 + a % 8 = a by omega] at g
    exact g
  · have g := zz_bc_1 (a % 8) (by omega) b hb
    rw [show 8 + a % 8 = a by omega] at g
    exact g
  · have g := zz_bc_2 (a % 8) (by omega) b hb
    rw [show 16 + a % 8 = a by omega] at g
    exact g
  · have g := zz_bc_3 (a % 8) (by omega) b hb
    rw [show 24 + a % 8 = a by omega] at g
    exact g
  · have g := zz_bc_4 (a % 8) (by omega) b hb
    rw [show 32 + a % 8 = a by omega] at g
    exact g
  · have g := zz_bc_5 (a % 8) (by omega) b hb
    rw [show 40 + a % 8 = a by omega] at g
    exact g
  · have g := zz_bc_6 (a % 8) (by omega) b hb
    rw [show 48 + a % 8 = a by omega] at g
    exact g
  · have g := zz_bc_7 (a % 8) (by omega) b hb
    rw [show 56 + a % 8 = a by omega] at g
    exact g
  · have g := zz_bc_8 (a % 8) (by omega) b hb
    rw [show 64 + a % 8 = a by omega] at g
    exact g
  · have g := zz_bc_9 (a % 8) (by omega) b hb
    rw [show 72 + a % 8 = a by omega] at g
    exact g
  · have g := zz_bc_10 (a % 8) (by omega) b hb
    rw [show 80 + a % 8 = a by omega] at g
    exact g
  · have g := zz_bc_11 (a % 8) (by omega) b hb
    rw [show 88 + a % 8 = a by omega] at g
    exact g
  · have g := zz_bc_12 (a % 8) (by omega) b hb
    rw [show 96 + a % 8 = a by omega] at g
    exact g
  · have g := zz_bc_13 (a % 8) (by omega) b hb
    rw [show 104 + a % 8 = a by omega] at g
    exact g
  · have g := zz_bc_14 (a % 8) (by omega) b hb
    rw [show 112 + a % 8 = a by omega] at g
    exact g
  · have g := zz_bc_15 (a % 8) (by omega) b hb
    rw [show 120 + a % 8 = a by omega] at g
    exact g
theorem zz_bc (x : Int32) (h0 : 0 ≤ x.toInt) (h1 : x.toInt < 16384) : (zz_bcx x).toInt = (zz_pcn x.toInt.toNat 14 : Int) := by
  have := zz_bc_all (x.toInt.toNat / 128) (by omega) (x.toInt.toNat % 128) (by omega)
  rw [show 128 * (x.toInt.toNat / 128) + x.toInt.toNat % 128 = x.toInt.toNat by omega] at this
  have e : Int32.ofNat x.toInt.toNat = x := by
    apply Int32.toInt_inj.mp
    have := zz_nI x.toInt.toNat (by omega)
    show (nI x.toInt.toNat).toInt = _
    omega
  rw [e] at this
  exact this

/-! worst: the class's answer -/
def zz_wv (f m l : Int) : Prop := 0 ≤ f ∧ f ≤ 3 ∧ 1 ≤ m ∧ m ≤ 4 ∧ 1 ≤ l ∧ l ≤ 8 ∧ m ≤ l
def zz_wc (e : String) (f m l r : Int) : Prop := (e = "" ∧ zz_wv f m l ∧ zz_wor f m l (15 - l).toNat l r) ∨ (e = "java/lang/IllegalArgumentException" ∧ ¬ zz_wv f m l)
theorem zz_icx_0 : zz_icx ((1 : Int32)).toInt ((0 : Int32)).toInt (fun _ => 0) (fun _ => 0) := by
  refine ⟨1, fun i hi => ?_, fun i hi => ?_, fun s hs => ⟨by show 0 ≤ ((0 : Int32)).toInt; decide, by show ((0 : Int32)).toInt < ((1 : Int32)).toInt + ((0 : Int32)).toInt; decide⟩, ?_⟩
  · have : ((0 : Int32)).toInt = 0 := rfl
    omega
  · have : ((0 : Int32)).toInt = 0 := rfl
    omega
  · have e : ∀ m, zz_cn (fun s => ((1 : Int32)).toInt ≤ ((fun _ => 0 : Nat → Int32) s).toInt) m = 0 := fun m => by
      induction m with
      | zero => rfl
      | succ m ih => rw [zz_cn_n (fun z => absurd z (by show ¬ ((1 : Int32)).toInt ≤ ((0 : Int32)).toInt; decide))]; exact ih
    rw [e 32768]
    decide

/-! back in the forms that keep nothing, or no quick one -/
theorem zz_BA_same {f W pg : Int} {o' g G li lm kp kg qk qm : Nat → Int32} {w tp st : Int} {p s : Int32} (h0 : 0 ≤ f) (h9 : f ≤ 9) (n4 : f ≠ 4) (n5 : f ≠ 5) (n6 : f ≠ 6) (n7 : f ≠ 7) (n8 : f ≠ 8) (hs : f ≠ 9 ∨ 8 < s.toInt) : zz_BA f W pg o' g g G G li lm li lm w tp tp st st kp kg kg qk qk qm qm p s (-1) := by
  by_cases c : f ≤ 3
  · exact Or.inl ⟨h0, c, by decide⟩
  · have e : f = 9 := by omega
    exact Or.inr (Or.inr (Or.inr (Or.inr (Or.inr (Or.inr (Or.inl ⟨e, by omega, by decide, rfl, rfl⟩))))))

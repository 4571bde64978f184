theorem sim_wait (t : Nat) (u : SX) (um : SM) (h : IJ t u um) : IJ (t + 1) u um := by
  obtain ⟨h1, h2, h3, h4⟩ := h
  exact ⟨rs_wait t um h1, h2, h3.imp id zz_JA_up, zz_JK_9 h4 zz_J9_up⟩
theorem ref_safe : RefSafe 1099511627776 IJ := ⟨fun t u u1 um p1 p2 e => sim_open _ (Nat.le_refl _) t u u1 um p1 p2 e, fun t u u1 um p1 e r => sim_give _ (Nat.le_refl _) t u u1 um p1 e r, fun t u u1 um p1 e r => sim_back _ (Nat.le_refl _) t u u1 um p1 e r, fun t u u1 um p1 p2 e r => sim_about _ (Nat.le_refl _) t u u1 um p1 p2 e r, fun t u u1 um p1 e r => sim_at _ (Nat.le_refl _) t u u1 um p1 e r, fun t u u1 um p1 p2 e r => sim_run _ (Nat.le_refl _) t u u1 um p1 p2 e r, fun t u u1 um p1 p2 e r => sim_list _ (Nat.le_refl _) t u u1 um p1 p2 e r, fun t u um p1 p2 p3 => sim_worst _ (Nat.le_refl _) t u um p1 p2 p3, fun t u u1 um p1 e r => sim_count _ (Nat.le_refl _) t u u1 um p1 e r, sim_wait⟩
theorem ref_start : IJ 0 sx0 sm0 := ⟨ref_start0, rfl, Or.inl rfl, zz_JK_N rfl⟩

/-! what of both is alike, at the start -/
set_option maxRecDepth 1000000 in
theorem tp_fr : tpR fr_w := ⟨0, _, _, _, _, rfl, rfl, rfl, rfl, rfl, rfl, Nat.zero_le _, rfl, rfl, fun i hi => absurd hi (Nat.not_lt_zero i)⟩
set_option maxRecDepth 1000000 in
theorem yr_fr : yrR fr_w := ⟨_, _, 0, _, _, rfl, rfl, rfl, rfl, rfl, rfl, rfl, rfl, Nat.zero_le _, rfl, rfl, fun i hi => absurd hi (Nat.not_lt_zero i)⟩
set_option maxRecDepth 1000000 in
theorem m_fr : mR fr_w 1 := by
  refine ⟨⟨_, rfl, rfl⟩, rfl, rfl, ⟨_, _, rfl, rfl, fun i hi => match i, hi with
    | 0, _ => rfl
    | 1, _ => rfl
    | 2, _ => rfl
    | 3, _ => rfl
    | k + 4, hk => absurd hk (by omega)⟩, fun k hk ⟨KE, a, b⟩ => ?_⟩
  obtain rfl : KE = [0, 0] := at_arr a rfl
  rcases (show k = 0 ∨ k = 1 by omega) with rfl | rfl
  · exact absurd (by decide) b
  · exact absurd (by decide) b

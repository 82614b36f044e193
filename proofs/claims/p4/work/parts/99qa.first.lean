/-! the tape at the start -/
set_option maxRecDepth 1000000 in
theorem tp_fr : tpR fr_w := ⟨0, _, _, _, _, rfl, rfl, rfl, rfl, rfl, rfl, Nat.zero_le _, rfl, rfl, fun i hi => absurd hi (Nat.not_lt_zero i)⟩

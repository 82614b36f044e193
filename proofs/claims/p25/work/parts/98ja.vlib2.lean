/-! MORE STEPS: min, max. -/
section VG2
variable {pl pc : Nat} {lo : ex_L} {r : List Value} {w : ex_W} {x y : Int32}
theorem vg_min {z : Int32} {t : Option (Nat × Nat × Nat × Nat × Nat × Nat × Nat)} (hr : ex_cats r ≤ 8) (hz : (if y < x then y else x) = z) : ex_iv 1 (some (1, pl)) t pc lo (.int y :: .int x :: r) w = some (.inl ((pc + 3, lo, .int z :: r), w)) := by
  unfold ex_iv ex_int
  simp only [hr, and_self, if_true]
  rw [hz]
  rfl
theorem vg_max {z : Int32} {t : Option (Nat × Nat × Nat × Nat × Nat × Nat × Nat)} (hr : ex_cats r ≤ 8) (hz : (if x < y then y else x) = z) : ex_iv 1 (some (2, pl)) t pc lo (.int y :: .int x :: r) w = some (.inl ((pc + 3, lo, .int z :: r), w)) := by
  unfold ex_iv ex_int
  simp only [hr, and_self, if_true]
  rw [hz]
  rfl
end VG2

/-! arraycopy of a whole row. -/
theorem vg_cpy0 {pl pc a b m : Nat} {lo : ex_L} {r : List Value} {w : ex_W} {n : Int32} {f g : List Int32} {t : Option (Nat × Nat × Nat × Nat × Nat × Nat × Nat)} (hr : ex_cats r ≤ 8) (ha : ex_at w a = some (.inl (.int, f))) (hb : ex_at w b = some (.inl (.int, g))) (l1 : f.length = m) (l2 : g.length = m) (hn : Int32.toNatClampNeg n = m) (n0 : ¬ n < 0) : ex_iv 1 (some (3, pl)) t pc lo (.int n :: .int 0 :: .ref b :: .int 0 :: .ref a :: r) w = some (.inl ((pc + 3, lo, r), ex_put w b (.inl (.int, f)))) := by
  have e0 : Int32.toNatClampNeg 0 = 0 := by decide
  have z0 : ¬ (0 : Int32) < 0 := by decide
  have ec : ex_cpy f g 0 0 m = f := by
    unfold ex_cpy
    rw [List.take_zero, List.drop_zero, ← l1, List.take_length, List.nil_append, l1, show 0 + m = g.length by omega, List.drop_length, List.append_nil]
  unfold ex_iv ex_int
  simp only [ha, hb]
  rw [if_pos ⟨trivial, hr, trivial, trivial, z0, z0, n0, by rw [e0, hn]; omega, by rw [e0, hn]; omega⟩, e0, hn, ec]
  rfl

/-! what of both is alike, at the start -/
set_option maxRecDepth 1000000 in
theorem tp_fr : tpR fr_w := ⟨0, _, _, _, _, rfl, rfl, rfl, rfl, rfl, rfl, Nat.zero_le _, rfl, rfl, fun i hi => absurd hi (Nat.not_lt_zero i)⟩
set_option maxRecDepth 1000000 in
theorem yr_fr : yrR fr_w := ⟨_, _, 0, _, _, rfl, rfl, rfl, rfl, rfl, rfl, rfl, rfl, Nat.zero_le _, rfl, rfl, fun i hi => absurd hi (Nat.not_lt_zero i)⟩
set_option maxRecDepth 1000000 in
theorem sh_fr : sh_A fr_w := by
  intro j hj
  match j, hj with
  | 0, _ => exact ⟨_, _, _, _, _, _, _, rfl, rfl, rfl, rfl, rfl, rfl, rfl, rfl, rfl, rfl, rfl, rfl, Or.inl ⟨by decide, by decide⟩⟩
  | 1, _ => exact ⟨_, _, _, _, _, _, _, rfl, rfl, rfl, rfl, rfl, rfl, rfl, rfl, rfl, rfl, rfl, rfl, Or.inl ⟨by decide, by decide⟩⟩
  | 2, _ => exact ⟨_, _, _, _, _, _, _, rfl, rfl, rfl, rfl, rfl, rfl, rfl, rfl, rfl, rfl, rfl, rfl, Or.inl ⟨by decide, by decide⟩⟩
  | 3, _ => exact ⟨_, _, _, _, _, _, _, rfl, rfl, rfl, rfl, rfl, rfl, rfl, rfl, rfl, rfl, rfl, rfl, Or.inl ⟨by decide, by decide⟩⟩
set_option maxRecDepth 1000000 in
theorem to_fr : fd fr_w 0 13 = fd fr_w 59 33 := rfl
def tf_fr : Nat → Int32 := up (up (fun _ => 0) 0 12) 1 2
set_option maxRecDepth 1000000 in
theorem b_fr : bR fr_w 1 := by
  have e0 : ex_at fr_w 2 = some (.inl (.int, [1, 1, 1, 1])) := rfl
  have hst : ∃ ST, ex_at fr_w 60 = some (.inl (.int, ST)) ∧ ST.length = 288 ∧ (∀ j, j < 96 → ST.getD j 0 = if 61 ≤ j ∧ j < 78 then m4i else 0) := by
    refine ⟨_, rfl, rfl, ?_⟩
    decide +kernel
  obtain ⟨ST, h60, ls, hS⟩ := hst
  have hpg : ∃ PG, ex_at fr_w 3 = some (.inl (.int, PG)) ∧ PG.length = 17 ∧ ∀ j, j < 17 → PG.getD j 0 = m4i := by
    refine ⟨_, rfl, rfl, ?_⟩
    decide +kernel
  obtain ⟨PG, h3, lp, hPG⟩ := hpg
  have g : ∀ j, j < 96 → ¬ (61 ≤ j ∧ j < 78) → ST.getD j 0 = 0 := fun j hj hn => by rw [hS j hj, if_neg hn]
  refine ⟨tf_fr, up (up (fun k => if k = 0 then [1, 1, 1, 1] else if k = 2 then List.replicate 60 0 else if k = 3 then List.replicate 5 0 else List.replicate 4 0) 1 PG) 6 [], ST, [1, 1, 1, 1], 0, 0, 0, ⟨by decide, by decide, ⟨_, rfl, rfl⟩, ⟨rfl, fun k hk => match k, hk with
    | 0, _ => rfl
    | 1, _ => h3
    | 2, _ => rfl
    | 3, _ => rfl
    | 4, _ => rfl
    | 5, _ => rfl
    | k + 6, hk => absurd hk (by omega)⟩, ⟨_, rfl, rfl, rfl, rfl, rfl⟩, h60, rfl, ⟨⟨rfl, lp, rfl, rfl, rfl, rfl, ls, rfl⟩, ⟨rfl, rfl, g 78 (by omega) (by omega), g 79 (by omega) (by omega), g 80 (by omega) (by omega), rfl, g 0 (by omega) (by omega), rfl, g 81 (by omega) (by omega), rfl, g 87 (by omega) (by omega), by decide, by decide, by decide, by decide, by decide, by decide, by decide⟩, fun i hi => match i, hi with
    | 0, _ => rfl
    | 1, _ => rfl
    | 2, _ => rfl
    | 3, _ => rfl
    | k + 4, hk => absurd hk (by omega), fun i h1 h2 => ?_, fun i hi => absurd hi (Nat.not_lt_zero i), fun i hi => absurd hi (Nat.not_lt_zero i), fun i hi => absurd hi (Nat.not_lt_zero i)⟩⟩, [0, 0], [0, 0], rfl, rfl, rfl, rfl, fun k hk => rfl, fun k hk hK => ?_⟩
  · have e1 : ST.getD (61 + i) 0 = m4i := by rw [hS (61 + i) (by omega), if_pos (by omega)]
    have e2 : PG.getD i 0 = m4i := hPG i (by omega)
    show ST.getD (61 + i) 0 = PG.getD i 0 ∧ ((PG.getD i 0).toInt = -4 ∨ _)
    rw [e1, e2]
    exact ⟨rfl, Or.inl (by decide)⟩
  · rcases (show k = 0 ∨ k = 1 by omega) with rfl | rfl
    · exact absurd (by decide) hK
    · exact absurd (by decide) hK

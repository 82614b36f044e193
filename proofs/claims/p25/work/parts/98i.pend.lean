/-! end OF BOTH, by hand: where the tape's length is the same in both, it is so behind end. -/
theorem lgc_lt (a b : Int64) : ex_c0 .lt (lg_cmp a b) = decide (a.toInt < b.toInt) := by
  unfold lg_cmp
  by_cases h : a > b
  · have h1 : b.toInt < a.toInt := Int64.lt_iff_toInt_lt.mp h
    rw [if_pos h, decide_eq_false (show ¬ a.toInt < b.toInt by omega)]
    decide
  · rw [if_neg h]
    have h1 : ¬ b.toInt < a.toInt := fun q => h (Int64.lt_iff_toInt_lt.mpr q)
    by_cases h2 : a = b
    · rw [if_pos h2, decide_eq_false (by rw [h2]; omega)]
      decide
    · have h3 : ¬ a.toInt = b.toInt := fun q => h2 (Int64.toInt_inj.mp q)
      rw [if_neg h2, decide_eq_true (show a.toInt < b.toInt by omega)]
      decide
theorem lgc_gt (a b : Int64) : ex_c0 .gt (lg_cmp a b) = decide (b.toInt < a.toInt) := by
  unfold lg_cmp
  by_cases h : a > b
  · have h1 : b.toInt < a.toInt := Int64.lt_iff_toInt_lt.mp h
    rw [if_pos h, decide_eq_true h1]
    decide
  · rw [if_neg h]
    have h1 : ¬ b.toInt < a.toInt := fun q => h (Int64.lt_iff_toInt_lt.mpr q)
    rw [decide_eq_false h1]
    by_cases h2 : a = b
    · rw [if_pos h2]
      decide
    · rw [if_neg h2]
      decide
theorem kz_lt (x : Int32) : ex_c0 .lt x = decide (x.toInt < 0) := by
  rw [k0_k2, kc_lt]
  rfl
noncomputable def pe_n : ai_V := .inl (false, 0, 400, [(1, 0, 0)])
theorem pe_get {ρ : List Int} {w : ex_W} {I : ai_S} {p c k : Nat} {ch : Bool} {vs : List ai_V} {a : ai_V} (H : ai_g ρ w I [] [] w) (h : ex_at I.2.2.2 p = some (ch, some (.inr (.inr (c, vs))))) (hk : ex_at vs k = some a) : ∃ fs v, ex_at w p = some (.inr (.inr (c, fs))) ∧ ai_gl ρ vs (fs.map some) ∧ ex_at fs k = some v ∧ ai_gv ρ a (some v) := by
  rw [ex_at_eq] at h
  obtain ⟨x, h1, -, h3⟩ := H.2.2.2.2.2 p _ h
  obtain ⟨fs, rfl, h4⟩ := (h3 _ rfl).obj
  obtain ⟨v, h5, h6⟩ := ai_fld h4 hk
  exact ⟨fs, v, by rw [ex_at_eq]; exact h1, h4, by rw [ex_at_eq]; exact h5, h6⟩
theorem pe_end {cmp : Bool} {Is : List (ai_S × List ai_L)} {I : ai_S} {vs0 vs15 vs59 : List ai_V} {ch0 ch15 ch59 : Bool} {ρ : List Int} {w : ex_W} {vs : List Value}
    (i0 : ex_at I.2.2.2 0 = some (ch0, some (.inr (.inr (7, vs0))))) (j0 : ex_at vs0 0 = some (.inr (some (.ref 15))))
    (i15 : ex_at I.2.2.2 15 = some (ch15, some (.inr (.inr (5, vs15))))) (j15 : ex_at vs15 1 = some (.inl (false, 0, 400, [(0, 0, 0)])))
    (i59 : ex_at I.2.2.2 59 = some (ch59, some (.inr (.inr (8, vs59))))) (j59 : ex_at vs59 15 = some (.inl (false, 0, 400, [(0, 0, 0)])))
    (hl : I.1.length = 1) (hid : pr_in Is (I.1, [], [], I.2.2.2) = true)
    (hin : pr_in Is (I.1 ++ [pr_r false], [], [], ex_put (ex_put I.2.2.2 15 (true, some (.inr (.inr (5, ex_put vs15 1 pe_n))))) 59 (true, some (.inr (.inr (8, ex_put vs59 15 pe_n))))) = true)
    (H : ai_g ρ w I [] [] w) (hv : pr_ok [false] vs) : pr_T [] Is false cmp mt_5 mt_6 w vs := by
  match vs, hv with
  | [v], ⟨⟨z, hz⟩, _⟩ =>
    obtain ⟨x, rfl, rfl⟩ := ai_nzI hz
    obtain ⟨fs0, u0, a0, b0, c0, d0⟩ := pe_get H i0 j0
    obtain ⟨fs15, u15, a15, b15, c15, d15⟩ := pe_get H i15 j15
    obtain ⟨fs59, u59, a59, b59, c59, d59⟩ := pe_get H i59 j59
    cases (show some u0 = some (.ref 15) from d0)
    obtain ⟨L, rfl, g15⟩ := d15.int
    obtain ⟨L', rfl, g59⟩ := d59.int
    obtain ⟨y, y1, y2, y3⟩ := g15.2.2 _ List.mem_cons_self
    obtain ⟨y', y1', y2', y3'⟩ := g59.2.2 _ List.mem_cons_self
    obtain rfl : y = y' := Option.some.inj (y1.symm.trans y1')
    have y2 : (0 : Int) ≤ L.toInt - y := y2
    have y3 : L.toInt - y ≤ (0 : Int) := y3
    have y2' : (0 : Int) ≤ L'.toInt - y := y2'
    have y3' : L'.toInt - y ≤ (0 : Int) := y3'
    obtain rfl : L' = L := Int32.toInt_inj.mp (by omega)
    have l0 : (0 : Int) ≤ L'.toInt := g15.1
    have l4 : L'.toInt ≤ (400 : Int) := g15.2.1
    have e0 : (0 : Int64).toInt = 0 := by decide
    have bad : pr_I Is w := pr_in_g hid H.1 H.2.2.2
    by_cases c1 : x.toInt < 0
    · exact ⟨.int (Int32.ofInt (-1)), .int (Int32.ofInt (-1)), w, w, fs0, fs59, ⟨_, rfl⟩, ⟨_, rfl⟩, fun _ => rfl, a0, a59, ve_c1 a0 c0 a15 c15 (by rw [kz_lt]; exact decide_eq_true c1),
        ve_m1 (d := 38) a59 c59 (vi_1 (by rw [lgc_lt, Int32.toInt_toInt64, e0]; exact decide_eq_true c1)) (by decide), bad⟩
    · by_cases c2 : x.toInt ≤ L'.toInt
      · refine ⟨.int L', .int L', _, _, fs0, fs59, ⟨_, rfl⟩, ⟨_, rfl⟩, fun _ => rfl, a0, vg_at_o rfl a59, ve_c3 a0 c0 a15 c15 (by rw [kz_lt]; exact decide_eq_false c1) (by rw [kc_le]; exact decide_eq_true c2),
          ve_m2 (d := 38) (vg_at_o rfl a59) c59 (vi_3 (by rw [lgc_lt, Int32.toInt_toInt64, e0]; exact decide_eq_false c1) (by rw [lgc_gt, Int32.toInt_toInt64, Int32.toInt_toInt64]; exact decide_eq_false (by omega))) (by decide), ?_⟩
        obtain ⟨ρ1, p1, p2, p3⟩ := pr_add [false] [.int x] ρ I.1 ⟨⟨_, hz⟩, trivial⟩ H.1
        have q1 := p3.1
        rw [hl] at q1
        obtain ⟨x', ex', q2⟩ := q1.int
        cases ex'
        have hn : ai_gv ρ1 pe_n (some (.int x)) := ai_gv.ofI ⟨by show (0 : Int) ≤ x.toInt; omega, by show x.toInt ≤ (400 : Int); omega, q2.2.2⟩
        have k15 : ai_gc ρ1 (.inr (.inr (5, ex_put vs15 1 pe_n))) (.inr (.inr (5, ex_put fs15 1 (.int x)))) := ⟨rfl, by rw [ai_mput]; exact (b15.up p1).put hn⟩
        have k59 : ai_gc ρ1 (.inr (.inr (8, ex_put vs59 15 pe_n))) (.inr (.inr (8, ex_put fs59 15 (.int x)))) := ⟨rfl, by rw [ai_mput]; exact (b59.up p1).put hn⟩
        exact pr_in_g hin p2 (((H.2.2.2.up p1).put k15).put k59)
      · exact ⟨.int (Int32.ofInt (-1)), .int (Int32.ofInt (-1)), w, w, fs0, fs59, ⟨_, rfl⟩, ⟨_, rfl⟩, fun _ => rfl, a0, a59, ve_c2 a0 c0 a15 c15 (by rw [kz_lt]; exact decide_eq_false c1) (by rw [kc_le]; exact decide_eq_false c2),
          ve_m1 (d := 38) a59 c59 (vi_2 (by rw [lgc_lt, Int32.toInt_toInt64, e0]; exact decide_eq_false c1) (by rw [lgc_gt, Int32.toInt_toInt64, Int32.toInt_toInt64]; exact decide_eq_true (by omega))) (by decide), bad⟩

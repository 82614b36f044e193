/-! THE STATE OF BOTH: tell, rule. -/
section S5
variable {X : List Int32} {d t : Nat} {w : ex_W} {tf : Nat → Int32} {ta : Nat → List Int32} {ST WE : List Int32} {dn an wn : Nat} {x : Int32}
theorem yr_tell {gs0 fs50 : List Value} (t0 : 0 < t) (t6 : t + 6 < 15) (h0 : ex_at w 0 = some (.inr (.inr (7, gs0)))) (g9 : ex_at gs0 9 = some (.ref t)) (hT1 : ex_at w t = some (dT t tf)) (s16 : (tf 0).toInt ≤ 16) (h59 : ex_at w 59 = some (.inr (.inr (8, fs50)))) (f2 : ex_at fs50 2 = some (.int (tf 0))) (hy : yrR w) : ∃ r wx wm, Go X (d + 2) mt_39 (ex_ent mt_39 [.ref 0, .int x]) w (some (.int r), wx) ∧ Go X (d + 2) mt_40 (ex_ent mt_40 [.ref 59, .int x]) wx (some (.int r), wm) ∧ yrR wm := by
  obtain ⟨gs, fs5, n, l, l', a1, a2, a3, a4, a5, a6, a7, a8, a9, a10, a11, a12⟩ := id hy
  obtain rfl : gs0 = gs := by
    cases (show some (Sum.inr (Sum.inr (7, gs0))) = some (.inr (.inr (7, gs))) from h0.symm.trans a1)
    rfl
  obtain rfl : fs50 = fs5 := by
    cases (show some (Sum.inr (Sum.inr (8, fs50))) = some (.inr (.inr (8, fs5))) from h59.symm.trans a4)
    rfl
  have en : (nI n).toInt = (n : Int) := nI_toInt (by omega)
  have hc : Int32.toNatClampNeg (nI n) = n := nI_clamp (by omega)
  have ok : n < 12 → yrR (ex_put (ex_put (ex_put (ex_put w 33 (.inl (.int, ex_put l n x))) 0 (.inr (.inr (7, ex_put gs0 11 (.int (nI n + 1)))))) 63 (.inl (.int, ex_put l' n x))) 59 (.inr (.inr (8, ex_put fs50 6 (.int (nI n + 1)))))) := by
    intro hn
    refine ⟨_, _, n + 1, ex_put l n x, ex_put l' n x, vg_at_o rfl (vg_at_o rfl (vg_at_put (vg_at_o rfl a1))), vg_at_o rfl a2, by rw [nI_succ]; exact vg_at_put a3, vg_at_put (vg_at_o rfl (vg_at_o rfl (vg_at_o rfl a4))), vg_at_o rfl a5, by rw [nI_succ]; exact vg_at_put a6, vg_at_o rfl (vg_at_o rfl (vg_at_o rfl (vg_at_put a7))), vg_at_o rfl (vg_at_put (vg_at_o rfl (vg_at_o rfl a8))), by omega, by rw [rl_len]; exact a10, by rw [rl_len]; exact a11, fun i hi => ?_⟩
    by_cases e : i = n
    · rw [e, rl_x (by omega), rl_x (by omega)]
    · rw [rl_w e, rl_w e]
      exact a12 i (by omega)
  have i1 : n < 12 → ex_ix (nI n) l.length = true := fun hn => by rw [a10]; exact fp_ix hn (by decide)
  have i2 : n < 12 → ex_ix (nI n) l'.length = true := fun hn => by rw [a11]; exact fp_ix hn (by decide)
  by_cases c0 : x = 0
  · subst c0
    by_cases c1 : n < 12
    · have gx := stell_5 (X := X) (d := d + 2) a1 g9 a2 a3 a7 (by omega) (i1 c1)
      have gm := utell_5 (X := X) (d := d + 2) (w := ex_put (ex_put w 33 (.inl (.int, ex_put l n 0))) 0 (.inr (.inr (7, ex_put gs0 11 (.int (nI n + 1)))))) (vg_at_o rfl (vg_at_o rfl a4)) a5 a6 (vg_at_o rfl (vg_at_o rfl a8)) (by omega) (i2 c1)
      rw [hc] at gx gm
      exact ⟨_, _, _, gx, gm, ok c1⟩
    · exact ⟨_, w, w, stell_4 a1 g9 a2 a3 (by omega), utell_4 a4 a5 a6 (by omega), hy⟩
  · have c0' : ¬ x.toInt = 0 := fun e => c0 (Int32.toInt_inj.mp (e.trans (by decide)))
    rcases sc_num (X := X) (d := d + 1) (x := x) hT1 s16 with ⟨c1, g1⟩ | ⟨c1, g1⟩
    · by_cases c2 : n < 12
      · have gx := stell_3 (X := X) (d := d + 1) a1 g9 a2 a3 hT1 a7 c0' g1 (by omega) (i1 c2) (sh_beq (by omega)) (sh_beq (by omega))
        have k59 : ex_at (ex_put (ex_put w 33 (.inl (.int, ex_put l n x))) 0 (.inr (.inr (7, ex_put gs0 11 (.int (nI n + 1)))))) 59 = some (.inr (.inr (8, fs50))) := vg_at_o rfl (vg_at_o rfl a4)
        have gm := utell_3 (X := X) (d := d + 1) (x := x) k59 a5 a6 (vg_at_o rfl (vg_at_o rfl a8)) c0' ((su_num k59 f2).1 c1) (by omega) (i2 c2)
        rw [hc] at gx gm
        exact ⟨_, _, _, gx, gm, ok c2⟩
      · exact ⟨_, w, w, stell_2 a1 g9 a2 a3 hT1 c0' g1 (by omega), utell_2 a4 a5 a6 c0' ((su_num a4 f2).1 c1) (by omega), hy⟩
    · exact ⟨_, w, w, stell_1 a1 g9 hT1 c0' g1, utell_1 a4 c0' ((su_num a4 f2).2 c1), hy⟩
end S5

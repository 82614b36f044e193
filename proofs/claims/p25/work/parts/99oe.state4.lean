/-! THE STATE OF BOTH: stay; the year: tell, cut. -/
section S4
variable {X : List Int32} {d t : Nat} {w : ex_W} {tf : Nat → Int32} {ta : Nat → List Int32} {ST WE : List Int32} {dn an wn : Nat} {x y : Int32}
theorem st_stay (h : stR w t tf ta ST WE dn an wn) : sRes X (d + 2) mt_61 mt_62 [.int x, .int y] w t ST := by
  obtain ⟨t0, t6, ⟨gs, h0, g9⟩, hT, ⟨fs5, h59, f0, f2, f3, f4⟩, h60, h62, ⟨l0, l1, l2, l3, l4, l5, l6, l7⟩, hS, hW, hP, hD, hA, hV⟩ := id h
  obtain ⟨s1, s2, s3, s4, s5, s6, s7, s8, s9, s10, s11, s12, s13, s14, s15, s16, s17, s18⟩ := id hS
  have e87 : Int32.toNatClampNeg 87 = 87 := by decide
  have gK : ex_gd ST (Int32.toNatClampNeg 87) = nI wn := by rw [e87, ex_gd_eq]; exact s11
  have eK : (nI wn).toInt = (wn : Int) := nI_toInt (by omega)
  have i87 : ex_ix 87 ST.length = true := by rw [l6]; decide
  rcases sc_mat (X := X) (d := d + 1) (x := x) hT.1 s18 with ⟨c1, g1⟩ | ⟨c1, g1⟩
  · by_cases cy : 0 ≤ y.toInt ∧ y.toInt ≤ 4
    · by_cases c2 : wn = 4
      · exact ⟨_, w, w, tf, ta, ST, WE, dn, an, wn, sstay_4 h0 g9 hT.1 g1 cy.1 cy.2 (sta_w1 hT.1 (by rw [s10]; omega)), ustay_3 h59 f0 h60 ((su_mat h59 f3 s17 s18).1 c1) (sin_t rfl (l := 0) (h := 4) (by decide) (by decide) cy.1 cy.2) i87 (by rw [gK]; omega), h, fun _ _ _ => rfl, fun _ _ => rfl⟩
      · have c2 : wn < 4 := by omega
        have ga := taw_2 (X := X) (d := d + 1) (x := x) (y := y) hT.1 (hT.2 4 (by decide)) (hT.2 5 (by decide)) (by rw [s10]; omega) (by rw [s10, l4]; exact fp_ix (by omega) (by decide)) (sh_beq (by omega)) (sh_beq (by omega)) (by rw [s10, l5]; exact fp_ix (by omega) (by decide)) (sh_beq (by omega)) (sh_beq (by omega)) (sh_beq (by omega)) (sh_beq (by omega))
        rw [s10, nI_clamp (by omega), ← nI_succ] at ga
        have kT : tA (ex_put (ex_put (ex_put w (t + 1 + 4) (.inl (.int, ex_put (ta 4) wn x))) (t + 1 + 5) (.inl (.int, ex_put (ta 5) wn y))) t (dT t (up tf 7 (nI (wn + 1))))) t (up tf 7 (nI (wn + 1))) (up (up ta 4 (ex_put (ta 4) wn x)) 5 (ex_put (ta 5) wn y)) := ((hT.pa (k := 4) (by decide)).pa (k := 5) (by decide)).pt
        have fr : ∀ q, ¬ (t ≤ q ∧ q ≤ t + 6) → ex_at (ex_put (ex_put (ex_put w (t + 1 + 4) (.inl (.int, ex_put (ta 4) wn x))) (t + 1 + 5) (.inl (.int, ex_put (ta 5) wn y))) t (dT t (up tf 7 (nI (wn + 1))))) q = ex_at w q := fun q h1 => (vg_at_ne (sh_beq (fun e => h1 (by omega)))).trans ((vg_at_ne (sh_beq (fun e => h1 (by omega)))).trans (vg_at_ne (sh_beq (fun e => h1 (by omega)))))
        have k59 := (fr 59 (by omega)).trans h59
        have k60 := (fr 60 (by omega)).trans h60
        have gx := sstay_5 (X := X) (d := d + 1) h0 g9 hT.1 g1 cy.1 cy.2 ga ((fr 0 (by omega)).trans h0) g9 kT.1
        have e88 : (88 : Int32) + ((2 : Int32) * (ex_gd ST (Int32.toNatClampNeg 87))) = nI (88 + 2 * wn) := by
          rw [gK]
          match wn, c2 with
          | 0, _ => decide
          | 1, _ => decide
          | 2, _ => decide
          | 3, _ => decide
        have e89 : (88 : Int32) + ((2 : Int32) * (ex_gd ST (Int32.toNatClampNeg 87))) + 1 = nI (89 + 2 * wn) := by
          rw [e88, ← nI_succ]
          congr 1
          omega
        have q1 : Int32.toNatClampNeg (nI (88 + 2 * wn)) = 88 + 2 * wn := nI_clamp (by omega)
        have q2 : Int32.toNatClampNeg (nI (89 + 2 * wn)) = 89 + 2 * wn := nI_clamp (by omega)
        have hn1 : ex_gd (ex_put (ex_put ST (88 + 2 * wn) x) (89 + 2 * wn) y) 87 = nI wn := by rw [ex_gd_eq, rl_w (by omega), rl_w (by omega)]; exact s11
        have hn2 : ex_gd (ex_put (ex_put (ex_put ST (88 + 2 * wn) x) (89 + 2 * wn) y) 87 (nI (wn + 1))) 87 = nI (wn + 1) := by rw [ex_gd_eq, rl_x (by rw [rl_len, rl_len]; omega)]
        have gm := ustay_4 (X := X) (d := d + 1) (x := x) (y := y) k59 f0 k60 ((su_mat k59 f3 s17 s18).1 c1) (sin_t rfl (l := 0) (h := 4) (by decide) (by decide) cy.1 cy.2) i87 (by rw [gK]; omega) i87 (by rw [e88, l6]; exact fp_ix (by omega) (by decide)) (by rw [e89, rl_len, l6]; exact fp_ix (by omega) (by decide)) (by rw [rl_len, rl_len]; exact i87) (by rw [rl_len, rl_len]; exact i87) (by rw [rl_len, rl_len, rl_len]; exact i87)
        rw [e89, e88, q1, q2, e87, hn1, ← nI_succ, hn2] at gm
        have g2 : ∀ j, j ≠ 87 → j ≠ 89 + 2 * wn → j ≠ 88 + 2 * wn → (ex_put (ex_put (ex_put ST (88 + 2 * wn) x) (89 + 2 * wn) y) 87 (nI (wn + 1))).getD j 0 = ST.getD j 0 := fun j a b c => ((rl_w a).trans (rl_w b)).trans (rl_w c)
        refine ⟨_, _, _, up tf 7 (nI (wn + 1)), up (up ta 4 (ex_put (ta 4) wn x)) 5 (ex_put (ta 5) wn y), ex_put (ex_put (ex_put ST (88 + 2 * wn) x) (89 + 2 * wn) y) 87 (nI (wn + 1)), WE, dn, an, wn + 1, gx, gm, h.any (fun q h1 h2 => (vg_at_ne (sh_beq (fun e => h2 e.symm))).trans (fr q h1)) (kT.p60 t6) (vg_at_put k60) rfl rfl ⟨⟨l0, l1, l2, l3, by show (ex_put (ta 4) wn x).length = 4; rw [rl_len]; exact l4, by show (ex_put (ta 5) wn y).length = 4; rw [rl_len]; exact l5, by rw [rl_len, rl_len, rl_len]; exact l6, l7⟩, ⟨rfl, rfl, (g2 _ (by omega) (by omega) (by omega)).trans s3, (g2 _ (by omega) (by omega) (by omega)).trans s4, (g2 _ (by omega) (by omega) (by omega)).trans s5, s6, (g2 _ (by omega) (by omega) (by omega)).trans s7, s8, (g2 _ (by omega) (by omega) (by omega)).trans s9, rfl, rl_x (by rw [rl_len, rl_len]; omega), s12, s13, by omega, s15, s16, s17, s18⟩, hW, fun i i1 i2 => ⟨(g2 _ (by omega) (by omega) (by omega)).trans (hP i i1 i2).1, (hP i i1 i2).2⟩, fun i i1 => (g2 _ (by omega) (by omega) (by omega)).trans (hD i i1), fun i i1 => ⟨(g2 _ (by omega) (by omega) (by omega)).trans (hA i i1).1, (hA i i1).2⟩, fun i i1 => ?_⟩, fun q h1 h2 => (vg_at_ne (sh_beq (fun e => h2 e.symm))).trans (fr q h1), fun j hj => g2 j (by omega) (by omega) (by omega)⟩
        show (ex_put (ex_put (ex_put ST (88 + 2 * wn) x) (89 + 2 * wn) y) 87 (nI (wn + 1))).getD (88 + 2 * i) 0 = (ex_put (ta 4) wn x).getD i 0 ∧ (ex_put (ex_put (ex_put ST (88 + 2 * wn) x) (89 + 2 * wn) y) 87 (nI (wn + 1))).getD (89 + 2 * i) 0 = (ex_put (ta 5) wn y).getD i 0 ∧ 0 ≤ ((ex_put (ta 4) wn x).getD i 0).toInt
        by_cases hi : i = wn
        · subst hi
          rw [rl_x (DR := ta 4) (by omega), rl_x (DR := ta 5) (by omega), rl_w (by omega), rl_w (by omega), rl_x (by omega), rl_w (by omega), rl_x (by rw [rl_len]; omega)]
          exact ⟨rfl, rfl, c1.1⟩
        · rw [rl_w (DR := ta 4) hi, rl_w (DR := ta 5) hi, g2 _ (by omega) (by omega) (by omega), g2 _ (by omega) (by omega) (by omega)]
          exact hV i (by omega)
    · have gm := ustay_2 (X := X) (d := d + 1) (x := x) (y := y) h59 ((su_mat h59 f3 s17 s18).1 c1) (sin_f rfl (l := 0) (h := 4) (by decide) (by decide) cy)
      by_cases c3 : y.toInt < 0
      · exact ⟨_, w, w, tf, ta, ST, WE, dn, an, wn, sstay_2 h0 g9 hT.1 g1 c3, gm, h, fun _ _ _ => rfl, fun _ _ => rfl⟩
      · exact ⟨_, w, w, tf, ta, ST, WE, dn, an, wn, sstay_3 h0 g9 hT.1 g1 (by omega) (by omega), gm, h, fun _ _ _ => rfl, fun _ _ => rfl⟩
  · exact ⟨_, w, w, tf, ta, ST, WE, dn, an, wn, sstay_1 h0 g9 hT.1 g1, ustay_1 h59 ((su_mat h59 f3 s17 s18).2 c1), h, fun _ _ _ => rfl, fun _ _ => rfl⟩
/-- the year of both -/
def yrR (w : ex_W) : Prop := ∃ gs fs5 n l l', ex_at w 0 = some (.inr (.inr (7, gs))) ∧ ex_at gs 8 = some (.ref 33) ∧ ex_at gs 11 = some (.int (nI n)) ∧ ex_at w 59 = some (.inr (.inr (8, fs5))) ∧ ex_at fs5 5 = some (.ref 63) ∧ ex_at fs5 6 = some (.int (nI n)) ∧ ex_at w 33 = some (.inl (.int, l)) ∧ ex_at w 63 = some (.inl (.int, l')) ∧ n ≤ 12 ∧ l.length = 12 ∧ l'.length = 12 ∧ ∀ i, i < n → l'.getD i 0 = l.getD i 0
theorem yr_cut (h : yrR w) : ∃ r wx wm, Go X (d + 1) mt_41 (ex_ent mt_41 [.ref 0, .int x]) w (some (.int r), wx) ∧ Go X (d + 1) mt_42 (ex_ent mt_42 [.ref 59, .int x]) wx (some (.int r), wm) ∧ yrR wm := by
  obtain ⟨gs, fs5, n, l, l', a1, a2, a3, a4, a5, a6, a7, a8, a9, a10, a11, a12⟩ := id h
  have en : (nI n).toInt = (n : Int) := nI_toInt (by omega)
  have e64 : (Int32.toInt64 (nI n)).toInt = (n : Int) := by rw [Int32.toInt_toInt64]; exact en
  by_cases c1 : x.toInt < 0
  · exact ⟨_, w, w, scut_1 a1 a3 c1, ucut_1 a4 a6 (sin_f rfl (l := 0) (h := n) (by decide) e64 (by omega)), h⟩
  · by_cases c2 : x.toInt ≤ (nI n).toInt
    · have ex : x = nI x.toInt.toNat := tI_nI (by omega) (by omega)
      exact ⟨_, _, _, scut_3 a1 a3 (by omega) c2, ucut_2 (vg_at_o rfl a4) a6 (sin_t rfl (l := 0) (h := n) (by decide) e64 (by omega) (by omega)), _, _, x.toInt.toNat, l, l', vg_at_o rfl (vg_at_put a1), vg_at_o rfl a2, by rw [← ex]; exact vg_at_put a3, vg_at_put (vg_at_o rfl a4), vg_at_o rfl a5, by rw [← ex]; exact vg_at_put a6, vg_at_o rfl (vg_at_o rfl a7), vg_at_o rfl (vg_at_o rfl a8), by omega, a10, a11, fun i hi => a12 i (by omega)⟩
    · exact ⟨_, w, w, scut_2 a1 a3 (by omega) (by omega), ucut_1 a4 a6 (sin_f rfl (l := 0) (h := n) (by decide) e64 (by omega)), h⟩
end S4

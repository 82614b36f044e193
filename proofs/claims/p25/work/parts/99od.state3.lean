/-! THE STATE OF BOTH: ask, stay, day. -/
section S3
variable {X : List Int32} {d t : Nat} {w : ex_W} {tf : Nat → Int32} {ta : Nat → List Int32} {ST WE : List Int32} {dn an wn : Nat} {x y : Int32}
/-- told's cells and st written -/
theorem stR.any {w1 : ex_W} {tf' : Nat → Int32} {ta' : Nat → List Int32} {ST' : List Int32} {dn' an' wn' : Nat} (h : stR w t tf ta ST WE dn an wn) (hF : ∀ q, ¬ (t ≤ q ∧ q ≤ t + 6) → q ≠ 60 → ex_at w1 q = ex_at w q) (hT : tA w1 t tf' ta') (h60 : ex_at w1 60 = some (.inl (.int, ST'))) (e0 : tf' 0 = tf 0) (e1 : tf' 1 = tf 1) (hR : Rs tf' ta' ST' WE dn' an' wn') : stR w1 t tf' ta' ST' WE dn' an' wn' := by
  obtain ⟨t0, t6, ⟨gs, h0, g9⟩, -, ⟨fs5, h59, f0, f2, f3, f4⟩, -, h62, -⟩ := h
  exact ⟨t0, t6, ⟨gs, (hF 0 (by omega) (by omega)).trans h0, g9⟩, hT, ⟨fs5, (hF 59 (by omega) (by omega)).trans h59, f0, by rw [e0]; exact f2, by rw [e1]; exact f3, f4⟩, h60, (hF 62 (by omega) (by omega)).trans h62, hR⟩
theorem tA.pt {tf' : Nat → Int32} (h : tA w t tf ta) : tA (ex_put w t (dT t tf')) t tf' ta := ⟨vg_at_put h.1, fun k hk => vg_at_o (sh_beq (by omega)) (h.2 k hk)⟩
theorem tA.pa {k : Nat} (hk : k < 6) {l : List Int32} (h : tA w t tf ta) : tA (ex_put w (t + 1 + k) (.inl (.int, l))) t tf (up ta k l) := by
  refine ⟨vg_at_o (sh_beq (by omega)) h.1, fun j hj => ?_⟩
  by_cases e : j = k
  · rw [e, up_eq]
    exact vg_at_put (h.2 k hk)
  · rw [up_ne _ _ e]
    exact vg_at_o (sh_beq (by omega)) (h.2 j hj)
theorem tA.p60 {c : ex_E} (ht : t + 6 < 15) (h : tA w t tf ta) : tA (ex_put w 60 c) t tf ta := ⟨vg_at_o (sh_beq (by omega)) h.1, fun k hk => vg_at_o (sh_beq (by omega)) (h.2 k hk)⟩
theorem st_ask (h : stR w t tf ta ST WE dn an wn) : sRes X (d + 2) mt_45 mt_46 [.int x] w t ST := by
  obtain ⟨t0, t6, ⟨gs, h0, g9⟩, hT, ⟨fs5, h59, f0, f2, f3, f4⟩, h60, h62, ⟨l0, l1, l2, l3, l4, l5, l6, l7⟩, hS, hW, hP, hD, hA, hV⟩ := id h
  obtain ⟨s1, s2, s3, s4, s5, s6, s7, s8, s9, s10, s11, s12, s13, s14, s15, s16, s17, s18⟩ := id hS
  have s9' : ST.getD 81 0 = nI an := s9
  have e81 : Int32.toNatClampNeg 81 = 81 := by decide
  have gK : ex_gd ST (Int32.toNatClampNeg 81) = nI an := by rw [e81, ex_gd_eq]; exact s9
  have eK : (nI an).toInt = (an : Int) := nI_toInt (by omega)
  have i81 : ex_ix 81 ST.length = true := by rw [l6]; decide
  rcases sc_mat (X := X) (d := d + 1) (x := x) hT.1 s18 with ⟨c1, g1⟩ | ⟨c1, g1⟩
  · by_cases c2 : an = 5
    · exact ⟨_, w, w, tf, ta, ST, WE, dn, an, wn, sask_2 h0 g9 hT.1 g1 (taa_1 hT.1 (by rw [s8]; omega)), uask_2 h59 f0 h60 ((su_mat h59 f3 s17 s18).1 c1) i81 (by rw [gK]; omega), h, fun _ _ _ => rfl, fun _ _ => rfl⟩
    · have ex : x = nI x.toInt.toNat := tI_nI (by omega) (by omega)
      have ga := taa_2 (X := X) (d := d + 1) (x := x) hT.1 (hT.2 3 (by decide)) (by rw [s8]; omega) (by rw [s8, l3]; exact fp_ix (by omega) (by decide)) (sh_beq (by omega)) (sh_beq (by omega))
      rw [s8, nI_clamp (by omega), ← nI_succ] at ga
      have kT : tA (ex_put (ex_put w (t + 1 + 3) (.inl (.int, ex_put (ta 3) an x))) t (dT t (up tf 6 (nI (an + 1))))) t (up tf 6 (nI (an + 1))) (up ta 3 (ex_put (ta 3) an x)) := (hT.pa (k := 3) (by decide)).pt
      have k0 : ex_at (ex_put (ex_put w (t + 1 + 3) (.inl (.int, ex_put (ta 3) an x))) t (dT t (up tf 6 (nI (an + 1))))) 0 = some (.inr (.inr (7, gs))) := vg_at_o (sh_beq (by omega)) (vg_at_o (sh_beq (by omega)) h0)
      have k59 : ex_at (ex_put (ex_put w (t + 1 + 3) (.inl (.int, ex_put (ta 3) an x))) t (dT t (up tf 6 (nI (an + 1))))) 59 = some (.inr (.inr (8, fs5))) := vg_at_o (sh_beq (by omega)) (vg_at_o (sh_beq (by omega)) h59)
      have k60 : ex_at (ex_put (ex_put w (t + 1 + 3) (.inl (.int, ex_put (ta 3) an x))) t (dT t (up tf 6 (nI (an + 1))))) 60 = some (.inl (.int, ST)) := vg_at_o (sh_beq (by omega)) (vg_at_o (sh_beq (by omega)) h60)
      have gx := sask_3 (X := X) (d := d + 1) h0 g9 hT.1 g1 ga k0 g9 kT.1
      have eE : Int32.toNatClampNeg ((82 : Int32) + ex_gd ST (Int32.toNatClampNeg 81)) = 82 + an := by
        rw [gK, show (82 : Int32) + nI an = nI (82 + an) from nI_add 82 an]
        exact nI_clamp (by omega)
      have i82 : ex_ix ((82 : Int32) + ex_gd ST (Int32.toNatClampNeg 81)) ST.length = true := by
        rw [gK, show (82 : Int32) + nI an = nI (82 + an) from nI_add 82 an, l6]
        exact fp_ix (by omega) (by decide)
      have hn1 : ex_gd (ex_put ST (82 + an) x) 81 = nI an := by rw [ex_gd_eq, rl_w (by omega)]; exact s9
      have hn2 : ex_gd (ex_put (ex_put ST (82 + an) x) 81 (nI (an + 1))) 81 = nI (an + 1) := by rw [ex_gd_eq, rl_x (by rw [rl_len]; omega)]
      have gm := uask_3 (X := X) (d := d + 1) (x := x) k59 f0 k60 ((su_mat k59 f3 s17 s18).1 c1) i81 (by rw [gK]; omega) i81 i82 (by rw [rl_len]; exact i81) (by rw [rl_len]; exact i81) (by rw [rl_len, rl_len]; exact i81)
      rw [eE, e81, hn1, ← nI_succ, hn2] at gm
      have g2 : ∀ j, j ≠ 81 → j ≠ 82 + an → (ex_put (ex_put ST (82 + an) x) 81 (nI (an + 1))).getD j 0 = ST.getD j 0 := fun j a b => (rl_w a).trans (rl_w b)
      refine ⟨_, _, _, up tf 6 (nI (an + 1)), up ta 3 (ex_put (ta 3) an x), ex_put (ex_put ST (82 + an) x) 81 (nI (an + 1)), WE, dn, an + 1, wn, gx, gm, h.any ?_ (kT.p60 t6) (vg_at_put k60) rfl rfl ⟨⟨l0, l1, l2, by show (ex_put (ta 3) an x).length = 5; rw [rl_len]; exact l3, l4, l5, by rw [rl_len, rl_len]; exact l6, l7⟩, ⟨rfl, rfl, (g2 _ (by omega) (by omega)).trans s3, (g2 _ (by omega) (by omega)).trans s4, (g2 _ (by omega) (by omega)).trans s5, s6, (g2 _ (by omega) (by omega)).trans s7, rfl, rl_x (by rw [rl_len]; omega), s10, (g2 _ (by omega) (by omega)).trans s11, s12, by omega, s14, s15, s16, s17, s18⟩, hW, fun i i1 i2 => ⟨(g2 _ (by omega) (by omega)).trans (hP i i1 i2).1, (hP i i1 i2).2⟩, fun i i1 => (g2 _ (by omega) (by omega)).trans (hD i i1), fun i i1 => ?_, fun i i1 => ⟨(g2 _ (by omega) (by omega)).trans (hV i i1).1, (g2 _ (by omega) (by omega)).trans (hV i i1).2.1, (hV i i1).2.2⟩⟩, ?_, fun j hj => g2 j (by omega) (by omega)⟩
      · exact fun q h1 h2 => (vg_at_ne (sh_beq (fun e => h2 e.symm))).trans ((vg_at_ne (sh_beq (fun e => h1 (by omega)))).trans (vg_at_ne (sh_beq (fun e => h1 (by omega)))))
      · show (ex_put (ex_put ST (82 + an) x) 81 (nI (an + 1))).getD (82 + i) 0 = (ex_put (ta 3) an x).getD i 0 ∧ 0 ≤ ((ex_put (ta 3) an x).getD i 0).toInt
        by_cases hi : i = an
        · subst hi
          rw [rl_x (DR := ta 3) (by omega), rl_w (by omega), rl_x (by omega)]
          exact ⟨rfl, c1.1⟩
        · rw [rl_w (DR := ta 3) hi, g2 _ (by omega) (by omega)]
          exact hA i (by omega)
      · exact fun q h1 h2 => (vg_at_ne (sh_beq (fun e => h2 e.symm))).trans ((vg_at_ne (sh_beq (fun e => h1 (by omega)))).trans (vg_at_ne (sh_beq (fun e => h1 (by omega)))))
  · exact ⟨_, w, w, tf, ta, ST, WE, dn, an, wn, sask_1 h0 g9 hT.1 g1, uask_1 h59 ((su_mat h59 f3 s17 s18).2 c1), h, fun _ _ _ => rfl, fun _ _ => rfl⟩
theorem st_day (h : stR w t tf ta ST WE dn an wn) : ∃ r, Go X (d + 1) mt_13 (ex_ent mt_13 [.ref 0, .int x]) w (some (.int r), w) ∧ Go X (d + 1) mt_14 (ex_ent mt_14 [.ref 59, .int x]) w (some (.int r), w) := by
  obtain ⟨t0, t6, ⟨gs, h0, g9⟩, hT, ⟨fs5, h59, f0, f2, f3, f4⟩, h60, h62, ⟨l0, l1, l2, l3, l4, l5, l6, l7⟩, hS, hW, hP, hD, hA, hV⟩ := id h
  obtain ⟨s1, s2, s3, s4, s5, s6, s7, s8, s9, s10, s11, s12, s13, s14, s15, s16, s17, s18⟩ := id hS
  have e0 : Int32.toNatClampNeg 0 = 0 := by decide
  have gK : ex_gd ST (Int32.toNatClampNeg 0) = nI dn := by rw [e0, ex_gd_eq]; exact s7
  have eK : (nI dn).toInt = (dn : Int) := nI_toInt (by omega)
  have eT : (tf 5).toInt = (dn : Int) := by rw [s6]; exact eK
  have o1 : (1 : Int32).toInt = 1 := by decide
  have es : (nI dn - 1).toInt = (dn : Int) - 1 := by rw [tI_sub (by rw [eK, o1]; omega) (by rw [eK, o1]; omega), eK, o1]
  have i0 : ex_ix 0 ST.length = true := by rw [l6]; decide
  by_cases c1 : 0 ≤ x.toInt ∧ x.toInt < (dn : Int)
  · have ex : x = nI x.toInt.toNat := tI_nI (by omega) (by omega)
    have ec : Int32.toNatClampNeg x = x.toInt.toNat := by rw [ex, nI_clamp (by omega), ← ex]
    have e1 : (1 : Int32) + x = nI (1 + x.toInt.toNat) := by
      have := nI_add 1 x.toInt.toNat
      rw [← ex] at this
      exact this
    have ec2 : Int32.toNatClampNeg ((1 : Int32) + x) = 1 + x.toInt.toNat := by rw [e1]; exact nI_clamp (by omega)
    have gx := sday_3 (X := X) (d := d + 1) (x := x) h0 g9 hT.1 (hT.2 2 (by decide)) (by omega) (by omega) (by rw [ex, l2]; exact fp_ix (by omega) (by decide))
    have gm := uday_1 (X := X) (d := d) (x := x) h59 f0 h60 i0 (by rw [gK]; exact sin_t rfl (l := 0) (h := (dn : Int) - 1) (by decide) (by rw [Int32.toInt_toInt64]; exact es) c1.1 (by omega)) (by rw [e1, l6]; exact fp_ix (by omega) (by decide))
    rw [ec, ex_gd_eq] at gx
    rw [ec2, ex_gd_eq, show ST.getD (1 + x.toInt.toNat) 0 = (ta 2).getD x.toInt.toNat 0 from hD x.toInt.toNat (by omega)] at gm
    exact ⟨_, gx, gm⟩
  · have gm := uday_0 (X := X) (d := d) (x := x) h59 f0 h60 i0 (by rw [gK]; exact sin_f rfl (l := 0) (h := (dn : Int) - 1) (by decide) (by rw [Int32.toInt_toInt64]; exact es) (by omega))
    by_cases c2 : x.toInt < 0
    · exact ⟨_, sday_1 c2, gm⟩
    · exact ⟨_, sday_2 h0 g9 hT.1 (by omega) (by omega), gm⟩
end S3

/-! THE STATE OF BOTH: write, ask. -/
section S2
variable {X : List Int32} {d t : Nat} {w : ex_W} {tf : Nat → Int32} {ta : Nat → List Int32} {ST WE : List Int32} {dn an wn : Nat} {x y : Int32} {fs5 : List Value}
theorem sc_num (hT : ex_at w t = some (dT t tf)) (h16 : (tf 0).toInt ≤ 16) : ((1 ≤ x.toInt ∧ x.toInt ≤ (tf 0).toInt) ∧ Go X d mt_101 (ex_ent mt_101 [.ref t, .int x]) w (some (.int 1), w)) ∨ (¬ (1 ≤ x.toInt ∧ x.toInt ≤ (tf 0).toInt) ∧ Go X d mt_101 (ex_ent mt_101 [.ref t, .int x]) w (some (.int 0), w)) := by
  by_cases h1 : x.toInt < 1
  · exact Or.inr ⟨by omega, thn_1 hT h1⟩
  · by_cases h2 : x.toInt ≤ (tf 0).toInt
    · exact Or.inl ⟨⟨by omega, h2⟩, thn_4 hT (by omega) h2 (by omega)⟩
    · exact Or.inr ⟨by omega, thn_2 hT (by omega) (by omega)⟩
theorem sc_mat (hT : ex_at w t = some (dT t tf)) (h4 : (tf 1).toInt ≤ 4) : ((0 ≤ x.toInt ∧ x.toInt < (tf 1).toInt) ∧ Go X d mt_99 (ex_ent mt_99 [.ref t, .int x]) w (some (.int 1), w)) ∨ (¬ (0 ≤ x.toInt ∧ x.toInt < (tf 1).toInt) ∧ Go X d mt_99 (ex_ent mt_99 [.ref t, .int x]) w (some (.int 0), w)) := by
  by_cases h1 : x.toInt < 0
  · exact Or.inr ⟨by omega, thm_1 hT h1⟩
  · by_cases h2 : x.toInt < (tf 1).toInt
    · exact Or.inl ⟨⟨by omega, h2⟩, thm_4 hT (by omega) h2 (by omega)⟩
    · exact Or.inr ⟨by omega, thm_2 hT (by omega) (by omega)⟩
theorem su_num (h59 : ex_at w 59 = some (.inr (.inr (8, fs5)))) (f2 : ex_at fs5 2 = some (.int (tf 0))) : ((1 ≤ x.toInt ∧ x.toInt ≤ (tf 0).toInt) → Go X (d + 1) mt_102 (ex_ent mt_102 [.ref 59, .int x]) w (some (.int 1), w)) ∧ (¬ (1 ≤ x.toInt ∧ x.toInt ≤ (tf 0).toInt) → Go X (d + 1) mt_102 (ex_ent mt_102 [.ref 59, .int x]) w (some (.int 0), w)) :=
  ⟨fun h => unum_1 h59 f2 (sin_t rfl (l := 1) (h := (tf 0).toInt) (by decide) (by rw [Int32.toInt_toInt64]) h.1 h.2), fun h => unum_0 h59 f2 (sin_f rfl (l := 1) (h := (tf 0).toInt) (by decide) (by rw [Int32.toInt_toInt64]) h)⟩
theorem su_mat (h59 : ex_at w 59 = some (.inr (.inr (8, fs5)))) (f3 : ex_at fs5 3 = some (.int (tf 1))) (h1 : 1 ≤ (tf 1).toInt) (h4 : (tf 1).toInt ≤ 4) : ((0 ≤ x.toInt ∧ x.toInt < (tf 1).toInt) → Go X (d + 1) mt_100 (ex_ent mt_100 [.ref 59, .int x]) w (some (.int 1), w)) ∧ (¬ (0 ≤ x.toInt ∧ x.toInt < (tf 1).toInt) → Go X (d + 1) mt_100 (ex_ent mt_100 [.ref 59, .int x]) w (some (.int 0), w)) := by
  have e1 : (1 : Int32).toInt = 1 := by decide
  have es : (tf 1 - 1).toInt = (tf 1).toInt - 1 := by rw [tI_sub (by rw [e1]; omega) (by rw [e1]; omega), e1]
  exact ⟨fun h => umat_1 h59 f3 (sin_t rfl (l := 0) (h := (tf 1).toInt - 1) (by decide) (by rw [Int32.toInt_toInt64]; exact es) h.1 (by omega)), fun h => umat_0 h59 f3 (sin_f rfl (l := 0) (h := (tf 1).toInt - 1) (by decide) (by rw [Int32.toInt_toInt64]; exact es) (by omega))⟩
/-- a row of told and st written -/
theorem stR.puta {k : Nat} {l : List Int32} {ST' : List Int32} (h : stR w t tf ta ST WE dn an wn) (hk : k < 6) (hR : Rs tf (up ta k l) ST' WE dn an wn) : stR (ex_put (ex_put w (t + 1 + k) (.inl (.int, l))) 60 (.inl (.int, ST'))) t tf (up ta k l) ST' WE dn an wn := by
  obtain ⟨t0, t6, ⟨gs, h0, g9⟩, hT, ⟨fs5, h59, f0, f2, f3, f4⟩, h60, h62, -⟩ := h
  refine ⟨t0, t6, ⟨gs, vg_at_o rfl (vg_at_o (sh_beq (by omega)) h0), g9⟩, ⟨vg_at_o (sh_beq (by omega)) (vg_at_o (sh_beq (by omega)) hT.1), fun j hj => vg_at_o (sh_beq (by omega)) ?_⟩, ⟨fs5, vg_at_o rfl (vg_at_o (sh_beq (by omega)) h59), f0, f2, f3, f4⟩, vg_at_put (vg_at_o (sh_beq (by omega)) h60), vg_at_o rfl (vg_at_o (sh_beq (by omega)) h62), hR⟩
  by_cases e : j = k
  · rw [e, up_eq]
    exact vg_at_put (hT.2 k hk)
  · rw [up_ne _ _ e]
    exact vg_at_o (sh_beq (by omega)) (hT.2 j hj)
theorem st_write (h : stR w t tf ta ST WE dn an wn) : sRes X (d + 2) mt_25 mt_26 [.int x, .int y] w t ST := by
  obtain ⟨t0, t6, ⟨gs, h0, g9⟩, hT, ⟨fs5, h59, f0, f2, f3, f4⟩, h60, h62, ⟨l0, l1, l2, l3, l4, l5, l6, l7⟩, hS, hW, hP, hD, hA, hV⟩ := id h
  obtain ⟨s1, s2, s3, s4, s5, s6, s7, s8, s9, s10, s11, s12, s13, s14, s15, s16, s17, s18⟩ := id hS
  rcases sc_num (X := X) (d := d + 1) (x := x) hT.1 s16 with ⟨c1, g1⟩ | ⟨c1, g1⟩
  · have ex : x = nI x.toInt.toNat := tI_nI (by omega) (by omega)
    have ec : Int32.toNatClampNeg x = x.toInt.toNat := by rw [ex, nI_clamp (by omega), ← ex]
    have e61 : (61 : Int32) + x = nI (61 + x.toInt.toNat) := by
      have := nI_add 61 x.toInt.toNat
      rw [← ex] at this
      exact this
    have ec2 : Int32.toNatClampNeg ((61 : Int32) + x) = 61 + x.toInt.toNat := by rw [e61]; exact nI_clamp (by omega)
    have i1 : ex_ix x (ta 1).length = true := by rw [ex, l1]; exact fp_ix (by omega) (by decide)
    have i2 : ex_ix ((61 : Int32) + x) ST.length = true := by rw [e61, l6]; exact fp_ix (by omega) (by decide)
    have hpx := hP x.toInt.toNat (by omega) (by omega)
    have ok : (y.toInt = -4 ∨ (0 ≤ y.toInt ∧ y.toInt < (tf 1).toInt)) → stR (ex_put (ex_put w (t + 1 + 1) (.inl (.int, ex_put (ta 1) x.toInt.toNat y))) 60 (.inl (.int, ex_put ST (61 + x.toInt.toNat) y))) t tf (up ta 1 (ex_put (ta 1) x.toInt.toNat y)) (ex_put ST (61 + x.toInt.toNat) y) WE dn an wn := by
      intro hy
      refine h.puta (k := 1) (by decide) ⟨⟨l0, by show (ex_put (ta 1) x.toInt.toNat y).length = 17; rw [rl_len]; exact l1, l2, l3, l4, l5, by rw [rl_len]; exact l6, l7⟩, ⟨rfl, rfl, (rl_w (by omega)).trans s3, (rl_w (by omega)).trans s4, (rl_w (by omega)).trans s5, s6, (rl_w (by omega)).trans s7, s8, (rl_w (by omega)).trans s9, s10, (rl_w (by omega)).trans s11, s12, s13, s14, s15, s16, s17, s18⟩, hW, fun i i1 i2 => ?_, fun i i1 => (rl_w (by omega)).trans (hD i i1), fun i i1 => ⟨(rl_w (by omega)).trans (hA i i1).1, (hA i i1).2⟩, fun i i1 => ⟨(rl_w (by omega)).trans (hV i i1).1, (rl_w (by omega)).trans (hV i i1).2.1, (hV i i1).2.2⟩⟩
      show (ex_put ST (61 + x.toInt.toNat) y).getD (61 + i) 0 = (ex_put (ta 1) x.toInt.toNat y).getD i 0 ∧ (((ex_put (ta 1) x.toInt.toNat y).getD i 0).toInt = -4 ∨ (0 ≤ ((ex_put (ta 1) x.toInt.toNat y).getD i 0).toInt ∧ ((ex_put (ta 1) x.toInt.toNat y).getD i 0).toInt ≤ 3))
      by_cases e : i = x.toInt.toNat
      · rw [e, rl_x (by omega), rl_x (by omega)]
        exact ⟨rfl, by omega⟩
      · rw [rl_w (by omega), rl_w (by omega)]
        exact hP i i1 i2
    have fr : ∀ q, ¬ (t ≤ q ∧ q ≤ t + 6) → q ≠ 60 → ex_at (ex_put (ex_put w (t + 1 + 1) (.inl (.int, ex_put (ta 1) x.toInt.toNat y))) 60 (.inl (.int, ex_put ST (61 + x.toInt.toNat) y))) q = ex_at w q := fun q h1 h2 => (vg_at_ne (sh_beq (fun e => h2 e.symm))).trans (vg_at_ne (sh_beq (fun e => h1 (by omega))))
    have k59 : ex_at (ex_put w (t + 1 + 1) (.inl (.int, ex_put (ta 1) x.toInt.toNat y))) 59 = some (.inr (.inr (8, fs5))) := vg_at_o (sh_beq (by omega)) h59
    have k60 : ex_at (ex_put w (t + 1 + 1) (.inl (.int, ex_put (ta 1) x.toInt.toNat y))) 60 = some (.inl (.int, ST)) := vg_at_o (sh_beq (by omega)) h60
    by_cases c2 : y.toInt = -4
    · have gx := swrite_3 (X := X) (d := d + 1) h0 g9 hT.1 (hT.2 1 (by decide)) g1 c2 i1 i1 (sh_beq (by omega)) (sh_beq (by omega))
      have gm := uwrite_3 (X := X) (d := d + 1) k59 f0 k60 ((su_num k59 f2).1 c1) c2 i2 i2
      rw [ec, ex_gd_eq] at gx
      rw [ec2, ex_gd_eq, show ST.getD (61 + x.toInt.toNat) 0 = (ta 1).getD x.toInt.toNat 0 from hpx.1] at gm
      exact ⟨_, _, _, tf, _, _, WE, dn, an, wn, gx, gm, ok (Or.inl c2), fr, fun j hj => rl_w (by omega)⟩
    · rcases sc_mat (X := X) (d := d + 1) (x := y) hT.1 s18 with ⟨c3, g3⟩ | ⟨c3, g3⟩
      · have gx := swrite_4 (X := X) (d := d + 1) h0 g9 hT.1 (hT.2 1 (by decide)) g1 c2 g3 i1 i1 (sh_beq (by omega)) (sh_beq (by omega))
        have gm := uwrite_4 (X := X) (d := d + 1) k59 f0 k60 ((su_num k59 f2).1 c1) c2 ((su_mat k59 f3 s17 s18).1 c3) i2 i2
        rw [ec, ex_gd_eq] at gx
        rw [ec2, ex_gd_eq, show ST.getD (61 + x.toInt.toNat) 0 = (ta 1).getD x.toInt.toNat 0 from hpx.1] at gm
        exact ⟨_, _, _, tf, _, _, WE, dn, an, wn, gx, gm, ok (Or.inr c3), fr, fun j hj => rl_w (by omega)⟩
      · exact ⟨_, w, w, tf, ta, ST, WE, dn, an, wn, swrite_2 h0 g9 hT.1 g1 c2 g3, uwrite_2 h59 ((su_num h59 f2).1 c1) c2 ((su_mat h59 f3 s17 s18).2 c3), h, fun _ _ _ => rfl, fun _ _ => rfl⟩
  · exact ⟨_, w, w, tf, ta, ST, WE, dn, an, wn, swrite_1 h0 g9 hT.1 g1, uwrite_1 h59 ((su_num h59 f2).2 c1), h, fun _ _ _ => rfl, fun _ _ => rfl⟩
/-- answers -/
theorem st_page (h : stR w t tf ta ST WE dn an wn) : ∃ r, Go X (d + 2) mt_17 (ex_ent mt_17 [.ref 0, .int x]) w (some (.int r), w) ∧ Go X (d + 2) mt_18 (ex_ent mt_18 [.ref 59, .int x]) w (some (.int r), w) := by
  obtain ⟨t0, t6, ⟨gs, h0, g9⟩, hT, ⟨fs5, h59, f0, f2, f3, f4⟩, h60, h62, ⟨l0, l1, l2, l3, l4, l5, l6, l7⟩, hS, hW, hP, hD, hA, hV⟩ := id h
  obtain ⟨s1, s2, s3, s4, s5, s6, s7, s8, s9, s10, s11, s12, s13, s14, s15, s16, s17, s18⟩ := id hS
  rcases sc_num (X := X) (d := d + 1) (x := x) hT.1 s16 with ⟨c1, g1⟩ | ⟨c1, g1⟩
  · have ex : x = nI x.toInt.toNat := tI_nI (by omega) (by omega)
    have ec : Int32.toNatClampNeg x = x.toInt.toNat := by rw [ex, nI_clamp (by omega), ← ex]
    have e61 : (61 : Int32) + x = nI (61 + x.toInt.toNat) := by
      have := nI_add 61 x.toInt.toNat
      rw [← ex] at this
      exact this
    have ec2 : Int32.toNatClampNeg ((61 : Int32) + x) = 61 + x.toInt.toNat := by rw [e61]; exact nI_clamp (by omega)
    have gx := spage_1 (X := X) (d := d + 1) h0 g9 hT.1 (hT.2 1 (by decide)) g1 (by rw [ex, l1]; exact fp_ix (by omega) (by decide))
    have gm := upage_1 (X := X) (d := d + 1) h59 f0 h60 ((su_num h59 f2).1 c1) (by rw [e61, l6]; exact fp_ix (by omega) (by decide))
    rw [ec, ex_gd_eq] at gx
    rw [ec2, ex_gd_eq, show ST.getD (61 + x.toInt.toNat) 0 = (ta 1).getD x.toInt.toNat 0 from (hP x.toInt.toNat (by omega) (by omega)).1] at gm
    exact ⟨_, gx, gm⟩
  · exact ⟨_, spage_0 h0 g9 hT.1 g1, upage_0 h59 ((su_num h59 f2).2 c1)⟩
theorem st_weight (h : stR w t tf ta ST WE dn an wn) : ∃ r, Go X (d + 2) mt_15 (ex_ent mt_15 [.ref 0, .int x]) w (some (.int r), w) ∧ Go X (d + 2) mt_16 (ex_ent mt_16 [.ref 59, .int x]) w (some (.int r), w) := by
  obtain ⟨t0, t6, ⟨gs, h0, g9⟩, hT, ⟨fs5, h59, f0, f2, f3, f4⟩, h60, h62, ⟨l0, l1, l2, l3, l4, l5, l6, l7⟩, hS, hW, hP, hD, hA, hV⟩ := id h
  obtain ⟨s1, s2, s3, s4, s5, s6, s7, s8, s9, s10, s11, s12, s13, s14, s15, s16, s17, s18⟩ := id hS
  rcases sc_mat (X := X) (d := d + 1) (x := x) hT.1 s18 with ⟨c1, g1⟩ | ⟨c1, g1⟩
  · have ex : x = nI x.toInt.toNat := tI_nI (by omega) (by omega)
    have ec : Int32.toNatClampNeg x = x.toInt.toNat := by rw [ex, nI_clamp (by omega), ← ex]
    have gx := sweight_1 (X := X) (d := d + 1) h0 g9 hT.1 (hT.2 0 (by decide)) g1 (by rw [ex, l0]; exact fp_ix (by omega) (by decide))
    have gm := uweight_1 (X := X) (d := d + 1) h59 f4 h62 ((su_mat h59 f3 s17 s18).1 c1) (by rw [ex, l7]; exact fp_ix (by omega) (by decide))
    rw [ec, ex_gd_eq] at gx
    rw [ec, ex_gd_eq, hW x.toInt.toNat (by omega)] at gm
    exact ⟨_, gx, gm⟩
  · exact ⟨_, sweight_0 h0 g9 hT.1 g1, uweight_0 h59 ((su_mat h59 f3 s17 s18).2 c1)⟩
end S2

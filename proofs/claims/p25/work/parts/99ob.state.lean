/-! THE STATE OF BOTH: what told and st hold is the same. -/
def tA (w : ex_W) (t : Nat) (tf : Nat → Int32) (ta : Nat → List Int32) : Prop := ex_at w t = some (dT t tf) ∧ ∀ k, k < 6 → ex_at w (t + 1 + k) = some (.inl (.int, ta k))
def Rs (tf : Nat → Int32) (ta : Nat → List Int32) (ST WE : List Int32) (dn an wn : Nat) : Prop := ((ta 0).length = 4 ∧ (ta 1).length = 17 ∧ (ta 2).length = 60 ∧ (ta 3).length = 5 ∧ (ta 4).length = 4 ∧ (ta 5).length = 4 ∧ ST.length = 288 ∧ WE.length = 4) ∧ rlS tf (fun j => ST.getD j 0) (tf 0) (tf 1) dn an wn ∧ rlW ta WE ∧ rlP ta (fun j => ST.getD j 0) ∧ rlD ta (fun j => ST.getD j 0) dn ∧ rlA ta (fun j => ST.getD j 0) an ∧ rlV ta (fun j => ST.getD j 0) wn
def stR (w : ex_W) (t : Nat) (tf : Nat → Int32) (ta : Nat → List Int32) (ST WE : List Int32) (dn an wn : Nat) : Prop := 0 < t ∧ t + 6 < 15 ∧ (∃ gs, ex_at w 0 = some (.inr (.inr (7, gs))) ∧ ex_at gs 9 = some (.ref t)) ∧ tA w t tf ta ∧ (∃ fs5, ex_at w 59 = some (.inr (.inr (8, fs5))) ∧ ex_at fs5 0 = some (.ref 60) ∧ ex_at fs5 2 = some (.int (tf 0)) ∧ ex_at fs5 3 = some (.int (tf 1)) ∧ ex_at fs5 4 = some (.ref 62)) ∧ ex_at w 60 = some (.inl (.int, ST)) ∧ ex_at w 62 = some (.inl (.int, WE)) ∧ Rs tf ta ST WE dn an wn
/-- two calls that answer alike and leave the state alike -/
def sRes (X : List Int32) (D : Nat) (Mx Mm : ex_M) (vs : List Value) (w : ex_W) (t : Nat) (ST0 : List Int32) : Prop := ∃ r wx wm tf ta ST WE dn an wn, Go X D Mx (ex_ent Mx (.ref 0 :: vs)) w (some (.int r), wx) ∧ Go X D Mm (ex_ent Mm (.ref 59 :: vs)) wx (some (.int r), wm) ∧ stR wm t tf ta ST WE dn an wn ∧ (∀ q, ¬ (t ≤ q ∧ q ≤ t + 6) → q ≠ 60 → ex_at wm q = ex_at w q) ∧ ∀ j, 96 ≤ j → ST.getD j 0 = ST0.getD j 0
section ST
variable {X : List Int32} {d t : Nat} {w : ex_W} {tf : Nat → Int32} {ta : Nat → List Int32} {ST WE : List Int32} {dn an wn : Nat} {x : Int32}
theorem stR.put {tf' : Nat → Int32} {ST' : List Int32} {dn' an' wn' : Nat} (h : stR w t tf ta ST WE dn an wn) (e0 : tf' 0 = tf 0) (e1 : tf' 1 = tf 1) (hR : Rs tf' ta ST' WE dn' an' wn') : stR (ex_put (ex_put w t (dT t tf')) 60 (.inl (.int, ST'))) t tf' ta ST' WE dn' an' wn' := by
  obtain ⟨t0, t6, ⟨gs, h0, g9⟩, hT, ⟨fs5, h59, f0, f2, f3, f4⟩, h60, h62, -⟩ := h
  refine ⟨t0, t6, ⟨gs, vg_at_o rfl (vg_at_o (sh_beq (by omega)) h0), g9⟩, ⟨vg_at_o (sh_beq (by omega)) (vg_at_put hT.1), fun k hk => vg_at_o (sh_beq (by omega)) (vg_at_o (sh_beq (by omega)) (hT.2 k hk))⟩, ⟨fs5, vg_at_o rfl (vg_at_o (sh_beq (by omega)) h59), f0, by rw [e0]; exact f2, by rw [e1]; exact f3, f4⟩, vg_at_put (vg_at_o (sh_beq (by omega)) h60), vg_at_o rfl (vg_at_o (sh_beq (by omega)) h62), hR⟩
theorem sfr {c c' : ex_E} : ∀ q, ¬ (t ≤ q ∧ q ≤ t + 6) → q ≠ 60 → ex_at (ex_put (ex_put w t c) 60 c') q = ex_at w q := fun q h1 h2 => (vg_at_ne (sh_beq (fun e => h2 e.symm))).trans (vg_at_ne (sh_beq (fun e => h1 (by omega))))
theorem sin_t {a b c : Int64} {x : Int32} {l h : Int} (e : a = x.toInt64) (el : b.toInt = l) (eh : c.toInt = h) (h1 : l ≤ x.toInt) (h2 : x.toInt ≤ h) : Go X d mt_93 (ex_ent mt_93 [.long a, .long b, .long c]) w (some (.int 1), w) := by
  subst e
  exact vin_t (by rw [Int32.toInt_toInt64]; omega) (by rw [Int32.toInt_toInt64]; omega)
theorem sin_f {a b c : Int64} {x : Int32} {l h : Int} (e : a = x.toInt64) (el : b.toInt = l) (eh : c.toInt = h) (h1 : ¬ (l ≤ x.toInt ∧ x.toInt ≤ h)) : Go X d mt_93 (ex_ent mt_93 [.long a, .long b, .long c]) w (some (.int 0), w) := by
  subst e
  exact vin_f (by rw [Int32.toInt_toInt64]; omega)
theorem st_gap (h : stR w t tf ta ST WE dn an wn) : sRes X (d + 1) mt_19 mt_20 [.int x] w t ST := by
  obtain ⟨t0, t6, ⟨gs, h0, g9⟩, hT, ⟨fs5, h59, f0, f2, f3, f4⟩, h60, h62, ⟨l0, l1, l2, l3, l4, l5, l6, l7⟩, hS, hW, hP, hD, hA, hV⟩ := id h
  by_cases c1 : x.toInt < 0
  · exact ⟨_, w, w, tf, ta, ST, WE, dn, an, wn, sgap_1 c1, ugap_1 (sin_f rfl (l := 0) (h := 20) (by decide) (by decide) (by omega)), h, fun _ _ _ => rfl, fun _ _ => rfl⟩
  · by_cases c2 : x.toInt ≤ 20
    · have e78 : Int32.toNatClampNeg 78 = 78 := by decide
      have hix : ex_ix 78 ST.length = true := by rw [l6]; decide
      obtain ⟨s1, s2, s3, s4, s5, s6, s7, s8, s9, s10, s11, s12, s13, s14, s15, s16, s17, s18⟩ := hS
      have gm := ugap_2 (X := X) (d := d) (x := x) (w := ex_put w t (dT t (up tf 2 x))) (vg_at_o (sh_beq (by omega)) h59) f0 (vg_at_o (sh_beq (by omega)) h60) (sin_t rfl (l := 0) (h := 20) (by decide) (by decide) (by omega) c2) hix hix
      rw [e78, ex_gd_eq, show ST.getD 78 0 = tf 2 from s3] at gm
      refine ⟨_, _, _, up tf 2 x, ta, ex_put ST 78 x, WE, dn, an, wn, sgap_3 h0 g9 hT.1 (by omega) c2 (sh_beq (by omega)), gm, h.put rfl rfl ⟨⟨l0, l1, l2, l3, l4, l5, by rw [rl_len]; exact l6, l7⟩, ⟨rfl, rfl, rl_x (by omega), (rl_w (by omega)).trans s4, (rl_w (by omega)).trans s5, s6, (rl_w (by omega)).trans s7, s8, (rl_w (by omega)).trans s9, s10, (rl_w (by omega)).trans s11, s12, s13, s14, s15, s16, s17, s18⟩, hW, fun i i1 i2 => ⟨(rl_w (by omega)).trans (hP i i1 i2).1, (hP i i1 i2).2⟩, fun i i1 => (rl_w (by omega)).trans (hD i i1), fun i i1 => ⟨(rl_w (by omega)).trans (hA i i1).1, (hA i i1).2⟩, fun i i1 => ⟨(rl_w (by omega)).trans (hV i i1).1, (rl_w (by omega)).trans (hV i i1).2.1, (hV i i1).2.2⟩⟩, sfr, fun j hj => rl_w (by omega)⟩
    · exact ⟨_, w, w, tf, ta, ST, WE, dn, an, wn, sgap_2 (by omega) (by omega), ugap_1 (sin_f rfl (l := 0) (h := 20) (by decide) (by decide) (by omega)), h, fun _ _ _ => rfl, fun _ _ => rfl⟩
theorem st_near (h : stR w t tf ta ST WE dn an wn) : sRes X (d + 1) mt_21 mt_22 [.int x] w t ST := by
  obtain ⟨t0, t6, ⟨gs, h0, g9⟩, hT, ⟨fs5, h59, f0, f2, f3, f4⟩, h60, h62, ⟨l0, l1, l2, l3, l4, l5, l6, l7⟩, hS, hW, hP, hD, hA, hV⟩ := id h
  by_cases c1 : x.toInt < 0
  · exact ⟨_, w, w, tf, ta, ST, WE, dn, an, wn, snear_1 c1, unear_1 (sin_f rfl (l := 0) (h := 1) (by decide) (by decide) (by omega)), h, fun _ _ _ => rfl, fun _ _ => rfl⟩
  · by_cases c2 : x.toInt ≤ 1
    · have e79 : Int32.toNatClampNeg 79 = 79 := by decide
      have hix : ex_ix 79 ST.length = true := by rw [l6]; decide
      obtain ⟨s1, s2, s3, s4, s5, s6, s7, s8, s9, s10, s11, s12, s13, s14, s15, s16, s17, s18⟩ := hS
      have gm := unear_2 (X := X) (d := d) (x := x) (w := ex_put w t (dT t (up tf 3 x))) (vg_at_o (sh_beq (by omega)) h59) f0 (vg_at_o (sh_beq (by omega)) h60) (sin_t rfl (l := 0) (h := 1) (by decide) (by decide) (by omega) c2) hix hix
      rw [e79, ex_gd_eq, show ST.getD 79 0 = tf 3 from s4] at gm
      refine ⟨_, _, _, up tf 3 x, ta, ex_put ST 79 x, WE, dn, an, wn, snear_3 h0 g9 hT.1 (by omega) c2 (sh_beq (by omega)), gm, h.put rfl rfl ⟨⟨l0, l1, l2, l3, l4, l5, by rw [rl_len]; exact l6, l7⟩, ⟨rfl, rfl, (rl_w (by omega)).trans s3, rl_x (by omega), (rl_w (by omega)).trans s5, s6, (rl_w (by omega)).trans s7, s8, (rl_w (by omega)).trans s9, s10, (rl_w (by omega)).trans s11, s12, s13, s14, s15, s16, s17, s18⟩, hW, fun i i1 i2 => ⟨(rl_w (by omega)).trans (hP i i1 i2).1, (hP i i1 i2).2⟩, fun i i1 => (rl_w (by omega)).trans (hD i i1), fun i i1 => ⟨(rl_w (by omega)).trans (hA i i1).1, (hA i i1).2⟩, fun i i1 => ⟨(rl_w (by omega)).trans (hV i i1).1, (rl_w (by omega)).trans (hV i i1).2.1, (hV i i1).2.2⟩⟩, sfr, fun j hj => rl_w (by omega)⟩
    · exact ⟨_, w, w, tf, ta, ST, WE, dn, an, wn, snear_2 (by omega) (by omega), unear_1 (sin_f rfl (l := 0) (h := 1) (by decide) (by decide) (by omega)), h, fun _ _ _ => rfl, fun _ _ => rfl⟩
theorem st_book (h : stR w t tf ta ST WE dn an wn) : sRes X (d + 1) mt_23 mt_24 [.int x] w t ST := by
  obtain ⟨t0, t6, ⟨gs, h0, g9⟩, hT, ⟨fs5, h59, f0, f2, f3, f4⟩, h60, h62, ⟨l0, l1, l2, l3, l4, l5, l6, l7⟩, hS, hW, hP, hD, hA, hV⟩ := id h
  by_cases c1 : x.toInt < 0
  · exact ⟨_, w, w, tf, ta, ST, WE, dn, an, wn, sbook_1 c1, ubook_1 (sin_f rfl (l := 0) (h := 2) (by decide) (by decide) (by omega)), h, fun _ _ _ => rfl, fun _ _ => rfl⟩
  · by_cases c2 : x.toInt ≤ 2
    · have e80 : Int32.toNatClampNeg 80 = 80 := by decide
      have hix : ex_ix 80 ST.length = true := by rw [l6]; decide
      obtain ⟨s1, s2, s3, s4, s5, s6, s7, s8, s9, s10, s11, s12, s13, s14, s15, s16, s17, s18⟩ := hS
      have gm := ubook_2 (X := X) (d := d) (x := x) (w := ex_put w t (dT t (up tf 4 x))) (vg_at_o (sh_beq (by omega)) h59) f0 (vg_at_o (sh_beq (by omega)) h60) (sin_t rfl (l := 0) (h := 2) (by decide) (by decide) (by omega) c2) hix hix
      rw [e80, ex_gd_eq, show ST.getD 80 0 = tf 4 from s5] at gm
      refine ⟨_, _, _, up tf 4 x, ta, ex_put ST 80 x, WE, dn, an, wn, sbook_3 h0 g9 hT.1 (by omega) c2 (sh_beq (by omega)), gm, h.put rfl rfl ⟨⟨l0, l1, l2, l3, l4, l5, by rw [rl_len]; exact l6, l7⟩, ⟨rfl, rfl, (rl_w (by omega)).trans s3, (rl_w (by omega)).trans s4, rl_x (by omega), s6, (rl_w (by omega)).trans s7, s8, (rl_w (by omega)).trans s9, s10, (rl_w (by omega)).trans s11, s12, s13, s14, s15, s16, s17, s18⟩, hW, fun i i1 i2 => ⟨(rl_w (by omega)).trans (hP i i1 i2).1, (hP i i1 i2).2⟩, fun i i1 => (rl_w (by omega)).trans (hD i i1), fun i i1 => ⟨(rl_w (by omega)).trans (hA i i1).1, (hA i i1).2⟩, fun i i1 => ⟨(rl_w (by omega)).trans (hV i i1).1, (rl_w (by omega)).trans (hV i i1).2.1, (hV i i1).2.2⟩⟩, sfr, fun j hj => rl_w (by omega)⟩
    · exact ⟨_, w, w, tf, ta, ST, WE, dn, an, wn, sbook_2 (by omega) (by omega), ubook_1 (sin_f rfl (l := 0) (h := 2) (by decide) (by decide) (by omega)), h, fun _ _ _ => rfl, fun _ _ => rfl⟩
theorem st_undo (h : stR w t tf ta ST WE dn an wn) : sRes X (d + 1) mt_27 mt_28 [.int x] w t ST := by
  obtain ⟨t0, t6, ⟨gs, h0, g9⟩, hT, ⟨fs5, h59, f0, f2, f3, f4⟩, h60, h62, ⟨l0, l1, l2, l3, l4, l5, l6, l7⟩, hS, hW, hP, hD, hA, hV⟩ := id h
  obtain ⟨s1, s2, s3, s4, s5, s6, s7, s8, s9, s10, s11, s12, s13, s14, s15, s16, s17, s18⟩ := hS
  have e0 : Int32.toNatClampNeg 0 = 0 := by decide
  have hix : ex_ix 0 ST.length = true := by rw [l6]; decide
  have eK : (nI dn).toInt = (dn : Int) := nI_toInt (by omega)
  have eT : (tf 5).toInt = (dn : Int) := by rw [s6]; exact eK
  have eS : ex_gd ST (Int32.toNatClampNeg 0) = nI dn := by rw [e0, ex_gd_eq]; exact s7
  by_cases c1 : x.toInt < 0
  · exact ⟨_, w, w, tf, ta, ST, WE, dn, an, wn, sundo_1 h0 g9 hT.1 c1, uundo_1 h59 f0 h60 hix (by rw [eS]; exact sin_f rfl (l := 0) (h := dn) (by decide) (by rw [Int32.toInt_toInt64]; exact eK) (by omega)), h, fun _ _ _ => rfl, fun _ _ => rfl⟩
  · by_cases c2 : x.toInt ≤ (tf 5).toInt
    · have ex : x = nI x.toInt.toNat := tI_nI (by omega) (by omega)
      have gm := uundo_2 (X := X) (d := d) (x := x) (w := ex_put w t (dT t (up tf 5 x))) (vg_at_o (sh_beq (by omega)) h59) f0 (vg_at_o (sh_beq (by omega)) h60) hix (by rw [eS]; exact sin_t rfl (l := 0) (h := dn) (by decide) (by rw [Int32.toInt_toInt64]; exact eK) (by omega) (by omega)) hix hix
      rw [eS, e0, ← s6] at gm
      refine ⟨_, _, _, up tf 5 x, ta, ex_put ST 0 x, WE, x.toInt.toNat, an, wn, sundo_3 h0 g9 hT.1 (by omega) c2 (sh_beq (by omega)), gm, h.put rfl rfl ⟨⟨l0, l1, l2, l3, l4, l5, by rw [rl_len]; exact l6, l7⟩, ⟨rfl, rfl, (rl_w (by omega)).trans s3, (rl_w (by omega)).trans s4, (rl_w (by omega)).trans s5, ex, (rl_x (by omega)).trans ex, s8, (rl_w (by omega)).trans s9, s10, (rl_w (by omega)).trans s11, by omega, s13, s14, s15, s16, s17, s18⟩, hW, fun i i1 i2 => ⟨(rl_w (by omega)).trans (hP i i1 i2).1, (hP i i1 i2).2⟩, fun i i1 => (rl_w (by omega)).trans (hD i (by omega)), fun i i1 => ⟨(rl_w (by omega)).trans (hA i (by omega)).1, (hA i (by omega)).2⟩, fun i i1 => ⟨(rl_w (by omega)).trans (hV i i1).1, (rl_w (by omega)).trans (hV i i1).2.1, (hV i i1).2.2⟩⟩, sfr, fun j hj => rl_w (by omega)⟩
    · exact ⟨_, w, w, tf, ta, ST, WE, dn, an, wn, sundo_2 h0 g9 hT.1 (by omega) (by omega), uundo_1 h59 f0 h60 hix (by rw [eS]; exact sin_f rfl (l := 0) (h := dn) (by decide) (by rw [Int32.toInt_toInt64]; exact eK) (by omega)), h, fun _ _ _ => rfl, fun _ _ => rfl⟩
theorem st_drop (h : stR w t tf ta ST WE dn an wn) : sRes X (d + 1) mt_47 mt_48 [.int x] w t ST := by
  obtain ⟨t0, t6, ⟨gs, h0, g9⟩, hT, ⟨fs5, h59, f0, f2, f3, f4⟩, h60, h62, ⟨l0, l1, l2, l3, l4, l5, l6, l7⟩, hS, hW, hP, hD, hA, hV⟩ := id h
  obtain ⟨s1, s2, s3, s4, s5, s6, s7, s8, s9, s10, s11, s12, s13, s14, s15, s16, s17, s18⟩ := hS
  have e81 : Int32.toNatClampNeg 81 = 81 := by decide
  have hix : ex_ix 81 ST.length = true := by rw [l6]; decide
  have eK : (nI an).toInt = (an : Int) := nI_toInt (by omega)
  have eT : (tf 6).toInt = (an : Int) := by rw [s8]; exact eK
  have eS : ex_gd ST (Int32.toNatClampNeg 81) = nI an := by rw [e81, ex_gd_eq]; exact s9
  by_cases c1 : x.toInt < 0
  · exact ⟨_, w, w, tf, ta, ST, WE, dn, an, wn, sdrop_1 h0 g9 hT.1 c1, udrop_1 h59 f0 h60 hix (by rw [eS]; exact sin_f rfl (l := 0) (h := an) (by decide) (by rw [Int32.toInt_toInt64]; exact eK) (by omega)), h, fun _ _ _ => rfl, fun _ _ => rfl⟩
  · by_cases c2 : x.toInt ≤ (tf 6).toInt
    · have ex : x = nI x.toInt.toNat := tI_nI (by omega) (by omega)
      have gm := udrop_2 (X := X) (d := d) (x := x) (w := ex_put w t (dT t (up tf 6 x))) (vg_at_o (sh_beq (by omega)) h59) f0 (vg_at_o (sh_beq (by omega)) h60) hix (by rw [eS]; exact sin_t rfl (l := 0) (h := an) (by decide) (by rw [Int32.toInt_toInt64]; exact eK) (by omega) (by omega)) hix hix
      rw [eS, e81, ← s8] at gm
      refine ⟨_, _, _, up tf 6 x, ta, ex_put ST 81 x, WE, dn, x.toInt.toNat, wn, sdrop_3 h0 g9 hT.1 (by omega) c2 (sh_beq (by omega)), gm, h.put rfl rfl ⟨⟨l0, l1, l2, l3, l4, l5, by rw [rl_len]; exact l6, l7⟩, ⟨rfl, rfl, (rl_w (by omega)).trans s3, (rl_w (by omega)).trans s4, (rl_w (by omega)).trans s5, s6, (rl_w (by omega)).trans s7, ex, (rl_x (by omega)).trans ex, s10, (rl_w (by omega)).trans s11, s12, by omega, s14, s15, s16, s17, s18⟩, hW, fun i i1 i2 => ⟨(rl_w (by omega)).trans (hP i i1 i2).1, (hP i i1 i2).2⟩, fun i i1 => (rl_w (by omega)).trans (hD i (by omega)), fun i i1 => ⟨(rl_w (by omega)).trans (hA i (by omega)).1, (hA i (by omega)).2⟩, fun i i1 => ⟨(rl_w (by omega)).trans (hV i i1).1, (rl_w (by omega)).trans (hV i i1).2.1, (hV i i1).2.2⟩⟩, sfr, fun j hj => rl_w (by omega)⟩
    · exact ⟨_, w, w, tf, ta, ST, WE, dn, an, wn, sdrop_2 h0 g9 hT.1 (by omega) (by omega), udrop_1 h59 f0 h60 hix (by rw [eS]; exact sin_f rfl (l := 0) (h := an) (by decide) (by rw [Int32.toInt_toInt64]; exact eK) (by omega)), h, fun _ _ _ => rfl, fun _ _ => rfl⟩
theorem st_serve (h : stR w t tf ta ST WE dn an wn) : sRes X d mt_63 mt_64 [] w t ST := by
  obtain ⟨t0, t6, ⟨gs, h0, g9⟩, hT, ⟨fs5, h59, f0, f2, f3, f4⟩, h60, h62, ⟨l0, l1, l2, l3, l4, l5, l6, l7⟩, hS, hW, hP, hD, hA, hV⟩ := id h
  obtain ⟨s1, s2, s3, s4, s5, s6, s7, s8, s9, s10, s11, s12, s13, s14, s15, s16, s17, s18⟩ := hS
  have e87 : Int32.toNatClampNeg 87 = 87 := by decide
  have hix : ex_ix 87 ST.length = true := by rw [l6]; decide
  have gm := userve (X := X) (d := d) (w := ex_put w t (dT t (up tf 7 0))) (vg_at_o (sh_beq (by omega)) h59) f0 (vg_at_o (sh_beq (by omega)) h60) hix hix
  rw [e87, ex_gd_eq, show ST.getD 87 0 = nI wn from s11, ← s10] at gm
  exact ⟨_, _, _, up tf 7 0, ta, ex_put ST 87 0, WE, dn, an, 0, sserve h0 g9 hT.1 (sh_beq (by omega)), gm, h.put rfl rfl ⟨⟨l0, l1, l2, l3, l4, l5, by rw [rl_len]; exact l6, l7⟩, ⟨rfl, rfl, (rl_w (by omega)).trans s3, (rl_w (by omega)).trans s4, (rl_w (by omega)).trans s5, s6, (rl_w (by omega)).trans s7, s8, (rl_w (by omega)).trans s9, rfl, rl_x (by omega), s12, s13, by omega, s15, s16, s17, s18⟩, hW, fun i i1 i2 => ⟨(rl_w (by omega)).trans (hP i i1 i2).1, (hP i i1 i2).2⟩, fun i i1 => (rl_w (by omega)).trans (hD i i1), fun i i1 => ⟨(rl_w (by omega)).trans (hA i i1).1, (hA i i1).2⟩, fun i i1 => absurd i1 (Nat.not_lt_zero i)⟩, sfr, fun j hj => rl_w (by omega)⟩
end ST

/-! ring OF BOTH. -/
section RI
variable {X : List Int32} {d t : Nat} {w w' : ex_W} {tf : Nat → Int32} {ta : Nat → List Int32} {ST WE RW : List Int32} {dn an wn : Nat} {x : Int32}
/-- the state's cells stay, the reference's own numbers ahead of its tape stay -/
theorem stR.keep (h : stR w t tf ta ST WE dn an wn) (e0 : ex_at w' 0 = ex_at w 0) (eT : ∀ q, t ≤ q → q ≤ t + 6 → ex_at w' q = ex_at w q) (e59 : ∀ fs5, ex_at w 59 = some (.inr (.inr (8, fs5))) → ∃ fs5', ex_at w' 59 = some (.inr (.inr (8, fs5'))) ∧ ∀ i, i < 7 → ex_at fs5' i = ex_at fs5 i) (e60 : ex_at w' 60 = ex_at w 60) (e62 : ex_at w' 62 = ex_at w 62) : stR w' t tf ta ST WE dn an wn := by
  obtain ⟨t0, t6, ⟨gs, h0, g9⟩, hT, ⟨fs5, h59, f0, f2, f3, f4⟩, h60, h62, hR⟩ := h
  obtain ⟨fs5', k59, k7⟩ := e59 fs5 h59
  exact ⟨t0, t6, ⟨gs, e0.trans h0, g9⟩, hT.off eT, ⟨fs5', k59, (k7 0 (by decide)).trans f0, (k7 2 (by decide)).trans f2, (k7 3 (by decide)).trans f3, (k7 4 (by decide)).trans f4⟩, e60.trans h60, e62.trans h62, hR⟩
/-- what days need besides -/
def dyC (w : ex_W) : Prop := alC w ∧ (∀ gs, ex_at w 0 = some (.inr (.inr (7, gs))) → ex_at gs 1 = some (.ref 17)) ∧ (∀ fs5, ex_at w 59 = some (.inr (.inr (8, fs5))) → ex_at fs5 22 = some (.ref 67) ∧ ∃ mm, ex_at fs5 23 = some (.int mm)) ∧ (∃ RW, ex_at w 67 = some (.inl (.int, RW)) ∧ RW.length = 130) ∧ ∀ ST, ex_at w 60 = some (.inl (.int, ST)) → (0 ≤ (ST.getD 78 0).toInt ∧ (ST.getD 78 0).toInt ≤ 20) ∧ ∀ i, i < 60 → 0 ≤ (ST.getD (1 + i) 0).toInt ∧ (ST.getD (1 + i) 0).toInt ≤ 16
/-- the days told -/
def tD (ta : Nat → List Int32) : Nat → Int := fun i => ((ta 2).getD i 0).toInt
/-- the class's almanac, begun -/
theorem dy_begin {k : Nat} (h : stR w t tf ta ST WE dn an wn) (hC : dyC w) (hk : k ≤ 60) : ∃ w1, Go X (d + 1) mt_103 (ex_ent mt_103 [.ref 17, .ref t, .int (nI k)]) w (none, w1) ∧ alR w1 t dn (missR (tD ta) dn k) ∧ tA w1 t tf ta ∧ ∀ q, ¬ (17 ≤ q ∧ q ≤ 20) → ex_at w1 q = ex_at w q := by
  obtain ⟨t0, t6, -, hT, -, h60, -, ⟨l0, l1, l2, l3, l4, l5, l6, l7⟩, hS, hW, hP, hD, hA, hV⟩ := id h
  obtain ⟨s1, s2, s3, s4, s5, s6, s7, s8, s9, s10, s11, s12, s13, s14, s15, s16, s17, s18⟩ := id hS
  obtain ⟨c1, -, -, -, c5⟩ := hC
  obtain ⟨-, c6⟩ := c5 ST h60
  obtain ⟨w1, b1, b2, b3⟩ := al_begin (X := X) (d := d) (k := k) (D := tD ta) c1 t6 hT l2 s6 s12 hk (fun i hi => by
    have e := c6 i (by omega)
    rw [show ST.getD (1 + i) 0 = (ta 2).getD i 0 from hD i hi] at e
    exact ⟨rfl, e⟩)
  exact ⟨w1, b1, b2, hT.off (fun q a b => b3 q (by omega)), b3⟩
/-- a day is taken -/
def acc (mo g ne : Int) (D : Nat → Int) (dn : Nat) (x : Int) : Bool := decide (dn < 60) && (decide (x = 0) || (decide (1 ≤ x ∧ x ≤ mo) && okP D dn g ne x))
def m1i : Int32 := Int32.ofInt (-1)
def m2i : Int32 := (Int8.ofInt (-2)).toInt32
def m3i : Int32 := (Int8.ofInt (-3)).toInt32
/-- why it is not -/
def rfV (mo g ne : Int) (D : Nat → Int) (dn : Nat) (x : Int) : Int32 := if ¬ x = 0 ∧ ¬ (1 ≤ x ∧ x ≤ mo) then m1i else if ¬ x = 0 ∧ okP D dn g ne x = false then m2i else m3i
section AC
variable {mo g ne v : Int} {D : Nat → Int}
theorem acc_0 (h : dn < 60) : acc mo g ne D dn 0 = true := by
  unfold acc
  rw [decide_eq_true h, decide_eq_true rfl]
  rfl
theorem acc_t (h : dn < 60) (h1 : 1 ≤ v ∧ v ≤ mo) (h2 : okP D dn g ne v = true) : acc mo g ne D dn v = true := by
  unfold acc
  rw [decide_eq_true h, decide_eq_true h1, h2, Bool.true_and, Bool.true_and, Bool.or_true]
theorem acc_d (h : ¬ dn < 60) : acc mo g ne D dn v = false := by
  unfold acc
  rw [decide_eq_false h, Bool.false_and]
theorem acc_n (h0 : ¬ v = 0) (h1 : ¬ (1 ≤ v ∧ v ≤ mo)) : acc mo g ne D dn v = false := by
  unfold acc
  rw [decide_eq_false h0, decide_eq_false h1, Bool.false_and, Bool.false_or, Bool.and_false]
theorem acc_o (h0 : ¬ v = 0) (h1 : okP D dn g ne v = false) : acc mo g ne D dn v = false := by
  unfold acc
  rw [decide_eq_false h0, h1, Bool.and_false, Bool.false_or, Bool.and_false]
end AC
/-- ring of the reference alone -/
theorem ur_all {fs5 : List Value} {D : Nat → Int} {mo ma mm : Int32} (h59 : ex_at w 59 = some (.inr (.inr (8, fs5)))) (f0 : ex_at fs5 0 = some (.ref 60)) (f2 : ex_at fs5 2 = some (.int mo)) (f3 : ex_at fs5 3 = some (.int ma)) (f22 : ex_at fs5 22 = some (.ref 67)) (f23 : ex_at fs5 23 = some (.int mm)) (h60 : ex_at w 60 = some (.inl (.int, ST))) (ls : ST.length = 288) (h67 : ex_at w 67 = some (.inl (.int, RW))) (lr : RW.length = 130) (hn0 : ST.getD 0 0 = nI dn) (hdn : dn ≤ 60) (hD : ∀ i, i < dn → (ST.getD (1 + i) 0).toInt = D i ∧ 0 ≤ D i ∧ D i ≤ 16) (hg : 0 ≤ (ST.getD 78 0).toInt ∧ (ST.getD 78 0).toInt ≤ 20) (hmo : mo.toInt ≤ 16) (nz : ¬ ma = 0) : ∃ r wm fs5' RW', Go X (d + 2) mt_36 (ex_ent mt_36 [.ref 59, .int x]) w (some (.int r), wm) ∧ ex_at wm 59 = some (.inr (.inr (8, fs5'))) ∧ (∀ i, i ≠ 23 → ex_at fs5' i = ex_at fs5 i) ∧ (∃ m', ex_at fs5' 23 = some (.int m')) ∧ ex_at wm 67 = some (.inl (.int, RW')) ∧ RW'.length = 130 ∧ (∀ q, q ≠ 59 → q ≠ 60 → q ≠ 67 → ex_at wm q = ex_at w q) ∧ ((acc mo.toInt (ST.getD 78 0).toInt (ST.getD 79 0).toInt D dn x.toInt = true ∧ ex_at wm 60 = some (.inl (.int, ex_put (ex_put ST (1 + dn) x) 0 (nI (dn + 1)))) ∧ r = if x = 0 then m4i else mnV D dn ST ma x) ∨ (acc mo.toInt (ST.getD 78 0).toInt (ST.getD 79 0).toInt D dn x.toInt = false ∧ ex_at wm 60 = some (.inl (.int, ST)) ∧ r = rfV mo.toInt (ST.getD 78 0).toInt (ST.getD 79 0).toInt D dn x.toInt)) := by
  have e0 : Int32.toNatClampNeg 0 = 0 := by decide
  have eK : (nI dn).toInt = (dn : Int) := nI_toInt (by omega)
  have gK : ex_gd ST (Int32.toNatClampNeg 0) = nI dn := by rw [e0, ex_gd_eq]; exact hn0
  have i0 : ex_ix 0 ST.length = true := by rw [ls]; decide
  have e1d : (1 : Int32) + nI dn = nI (1 + dn) := nI_add 1 dn
  have hR16 : ∀ i, i < dn → 0 ≤ D i ∧ D i ≤ 16 := fun i hi => (hD i hi).2
  obtain ⟨RW', k1, k2, k3⟩ := rn_all (X := X) (d := d + 1) h59 f0 f22 f23 h60 ls h67 lr hn0 hdn
  have y59 : ex_at (ex_put (ex_put w 59 (.inr (.inr (8, ex_put fs5 23 (.int (nI dn)))))) 67 (.inl (.int, RW'))) 59 = some (.inr (.inr (8, ex_put fs5 23 (.int (nI dn))))) := vg_at_o rfl (vg_at_put h59)
  have y60 : ex_at (ex_put (ex_put w 59 (.inr (.inr (8, ex_put fs5 23 (.int (nI dn)))))) 67 (.inl (.int, RW'))) 60 = some (.inl (.int, ST)) := vg_at_o rfl (vg_at_o rfl h60)
  have y67 : ex_at (ex_put (ex_put w 59 (.inr (.inr (8, ex_put fs5 23 (.int (nI dn)))))) 67 (.inl (.int, RW'))) 67 = some (.inl (.int, RW')) := vg_at_put (vg_at_o rfl h67)
  have yF : ∀ q, q ≠ 59 → q ≠ 67 → ex_at (ex_put (ex_put w 59 (.inr (.inr (8, ex_put fs5 23 (.int (nI dn)))))) 67 (.inl (.int, RW'))) q = ex_at w q := fun q a b => (vg_at_ne (sh_beq (fun e => b e.symm))).trans (vg_at_ne (sh_beq (fun e => a e.symm)))
  have y5 : ∀ i, i ≠ 23 → ex_at (ex_put fs5 23 (.int (nI dn))) i = ex_at fs5 i := fun i hi => vg_at_ne (sh_beq (fun e => hi e.symm))
  have yR : rwR (ex_put (ex_put w 59 (.inr (.inr (8, ex_put fs5 23 (.int (nI dn)))))) 67 (.inl (.int, RW'))) dn D ST := ⟨_, RW', y59, vg_at_o rfl f0, vg_at_o rfl f22, vg_at_put f23, y60, y67, k1, ls, by omega, fun i hi => by rw [k2 i hi]; exact (hD i hi).1⟩
  obtain ⟨wy, hwy⟩ : ∃ wy : ex_W, wy = ex_put (ex_put w 59 (.inr (.inr (8, ex_put fs5 23 (.int (nI dn)))))) 67 (.inl (.int, RW')) := ⟨_, rfl⟩
  rw [← hwy] at k3 y59 y60 y67 yF yR
  -- refused behind rowNow
  have refd : ∀ r, Go X (d + 2) mt_36 (ex_ent mt_36 [.ref 59, .int x]) w (some (.int r), wy) → acc mo.toInt (ST.getD 78 0).toInt (ST.getD 79 0).toInt D dn x.toInt = false → r = rfV mo.toInt (ST.getD 78 0).toInt (ST.getD 79 0).toInt D dn x.toInt → ∃ r wm fs5' RW', Go X (d + 2) mt_36 (ex_ent mt_36 [.ref 59, .int x]) w (some (.int r), wm) ∧ ex_at wm 59 = some (.inr (.inr (8, fs5'))) ∧ (∀ i, i ≠ 23 → ex_at fs5' i = ex_at fs5 i) ∧ (∃ m', ex_at fs5' 23 = some (.int m')) ∧ ex_at wm 67 = some (.inl (.int, RW')) ∧ RW'.length = 130 ∧ (∀ q, q ≠ 59 → q ≠ 60 → q ≠ 67 → ex_at wm q = ex_at w q) ∧ ((acc mo.toInt (ST.getD 78 0).toInt (ST.getD 79 0).toInt D dn x.toInt = true ∧ ex_at wm 60 = some (.inl (.int, ex_put (ex_put ST (1 + dn) x) 0 (nI (dn + 1)))) ∧ r = if x = 0 then m4i else mnV D dn ST ma x) ∨ (acc mo.toInt (ST.getD 78 0).toInt (ST.getD 79 0).toInt D dn x.toInt = false ∧ ex_at wm 60 = some (.inl (.int, ST)) ∧ r = rfV mo.toInt (ST.getD 78 0).toInt (ST.getD 79 0).toInt D dn x.toInt)) := fun r gr ha hr => ⟨r, wy, _, RW', gr, y59, y5, ⟨_, vg_at_put f23⟩, y67, k1, fun q a _ b => yF q a b, Or.inr ⟨ha, y60, hr⟩⟩
  have i1d : dn < 60 → ex_ix ((1 : Int32) + ex_gd ST (Int32.toNatClampNeg 0)) ST.length = true := fun h => by rw [gK, e1d, ls]; exact fp_ix (by omega) (by decide)
  by_cases c0 : x = 0
  · subst c0
    have o0 : (0 : Int32).toInt = 0 := by decide
    by_cases c1 : dn < 60
    · have g := ur_6 (X := X) (d := d + 1) h59 k3 y59 (vg_at_o rfl f0) y60 i0 (by rw [gK, eK]; omega) i0 (i1d c1) (by rw [rl_len]; exact i0) (by rw [rl_len]; exact i0)
      rw [gK, e1d, nI_clamp (by omega), e0, ex_gd_eq, rl_w (by omega), hn0, ← nI_succ] at g
      exact ⟨_, _, _, RW', g, vg_at_o rfl y59, y5, ⟨_, vg_at_put f23⟩, vg_at_o rfl y67, k1, fun q a b c => (vg_at_ne (sh_beq (fun e => b e.symm))).trans (yF q a c), Or.inl ⟨by rw [o0]; exact acc_0 c1, vg_at_put y60, (if_pos rfl).symm⟩⟩
    · refine refd _ (ur_5 h59 k3 y59 (vg_at_o rfl f0) y60 i0 (by rw [gK, eK]; omega)) (acc_d c1) ?_
      unfold rfV
      rw [o0, if_neg (fun h => h.1 rfl), if_neg (fun h => h.1 rfl)]
      rfl
  · have c0' : ¬ x.toInt = 0 := fun e => c0 (Int32.toInt_inj.mp (e.trans (by decide)))
    by_cases n1 : 1 ≤ x.toInt ∧ x.toInt ≤ mo.toInt
    · have gn : Go X (d + 1) mt_102 (ex_ent mt_102 [.ref 59, .int x]) w (some (.int 1), w) := (su_num (tf := fun _ => mo) h59 f2).1 n1
      have may := mb_all (X := X) (d := d + 1) (n := x) yR (by omega) hg hR16
      by_cases c1 : okP D dn (ST.getD 78 0).toInt (ST.getD 79 0).toInt x.toInt = true
      · rw [c1] at may
        by_cases c2 : dn < 60
        · have eqm : mnV D dn (ex_put (ex_put ST (1 + dn) x) 0 (nI (dn + 1))) ma x = mnV D dn ST ma x := by
            unfold mnV
            rw [show (ex_put (ex_put ST (1 + dn) x) 0 (nI (dn + 1))).getD 80 0 = ST.getD 80 0 from (rl_w (by omega)).trans (rl_w (by omega)), show (ex_put (ex_put ST (1 + dn) x) 0 (nI (dn + 1))).getD 78 0 = ST.getD 78 0 from (rl_w (by omega)).trans (rl_w (by omega)), show (ex_put (ex_put ST (1 + dn) x) 0 (nI (dn + 1))).getD 79 0 = ST.getD 79 0 from (rl_w (by omega)).trans (rl_w (by omega)), show (ex_put (ex_put ST (1 + dn) x) 0 (nI (dn + 1))).getD (61 + x.toInt.toNat) 0 = ST.getD (61 + x.toInt.toNat) 0 from (rl_w (by omega)).trans (rl_w (by omega))]
          have hr2 : rwR (ex_put wy 60 (.inl (.int, ex_put (ex_put ST (1 + dn) x) 0 (nI (dn + 1))))) dn D (ex_put (ex_put ST (1 + dn) x) 0 (nI (dn + 1))) := by
            obtain ⟨u5, RWu, u1, u2, u3, u4, u6, u7, u8, u9, u10, u11⟩ := yR
            exact ⟨u5, RWu, vg_at_o rfl u1, u2, u3, u4, vg_at_put u6, vg_at_o rfl u7, u8, by rw [rl_len, rl_len]; exact u9, u10, u11⟩
          have gmn := mn_all (X := X) (d := d) (n := x) (ma := ma) hr2 (vg_at_o rfl y59) (vg_at_o rfl f3) nz (by omega) (by rw [show (ex_put (ex_put ST (1 + dn) x) 0 (nI (dn + 1))).getD 78 0 = ST.getD 78 0 from (rl_w (by omega)).trans (rl_w (by omega))]; exact hg) hR16
          rw [eqm] at gmn
          have g := ur_4 (X := X) (d := d + 1) (x := x) (v := mnV D dn ST ma x) h59 c0' gn k3 y59 (vg_at_o rfl f0) y60 (by omega) may i0 (by rw [gK, eK]; omega) i0 (i1d c2) (by rw [rl_len]; exact i0) (by rw [rl_len]; exact i0) c0' (by
            rw [gK, e1d, nI_clamp (by omega), e0, ex_gd_eq, rl_w (by omega), hn0, ← nI_succ]
            exact gmn)
          rw [gK, e1d, nI_clamp (by omega), e0, ex_gd_eq, rl_w (by omega), hn0, ← nI_succ] at g
          exact ⟨_, _, _, RW', g, vg_at_o rfl y59, y5, ⟨_, vg_at_put f23⟩, vg_at_o rfl y67, k1, fun q a b c => (vg_at_ne (sh_beq (fun e => b e.symm))).trans (yF q a c), Or.inl ⟨acc_t c2 n1 c1, vg_at_put y60, (if_neg c0).symm⟩⟩
        · refine refd _ (ur_3 h59 c0' gn k3 y59 (vg_at_o rfl f0) y60 (by omega) may i0 (by rw [gK, eK]; omega)) (acc_d c2) ?_
          unfold rfV
          rw [if_neg (fun h => h.2 n1), if_neg (fun h => by rw [c1] at h; exact absurd h.2 (by decide))]
          rfl
      · have c1' := Bool.eq_false_iff.mpr c1
        rw [c1'] at may
        refine refd _ (ur_2 h59 c0' gn k3 y59 (vg_at_o rfl f0) y60 (by omega) may) (acc_o c0' c1') ?_
        unfold rfV
        rw [if_neg (fun h => h.2 n1), if_pos ⟨c0', c1'⟩]
        rfl
    · have gn : Go X (d + 1) mt_102 (ex_ent mt_102 [.ref 59, .int x]) w (some (.int 0), w) := (su_num (tf := fun _ => mo) h59 f2).2 n1
      refine ⟨_, w, fs5, RW, ur_1 h59 c0' gn, h59, fun _ _ => rfl, ⟨mm, f23⟩, h67, lr, fun _ _ _ _ => rfl, Or.inr ⟨acc_n c0' n1, h60, ?_⟩⟩
      unfold rfV
      rw [if_pos ⟨c0', n1⟩]
      rfl
/-- refusal of the class -/
theorem rf_all {gs : List Value} {b : Int32} {D : Nat → Int} (h0 : ex_at w 0 = some (.inr (.inr (7, gs)))) (g1 : ex_at gs 1 = some (.ref 17)) (g9 : ex_at gs 9 = some (.ref t)) (hT1 : ex_at w t = some (dT t tf)) (s6 : tf 5 = nI dn) (hdn : dn ≤ 60) (s16 : (tf 0).toInt ≤ 16) (hb : ∀ j, j < 32 → bt b j = (decide (1 ≤ j ∧ (j : Int) ≤ (tf 0).toInt) && okP D dn (tf 2).toInt (tf 3).toInt j)) : ∃ y, Go X (d + 1) mt_111 (ex_ent mt_111 [.ref 0, .int x, .int b]) w (some (.int y), w) ∧ ((acc (tf 0).toInt (tf 2).toInt (tf 3).toInt D dn x.toInt = true ∧ y = 0) ∨ (acc (tf 0).toInt (tf 2).toInt (tf 3).toInt D dn x.toInt = false ∧ y = rfV (tf 0).toInt (tf 2).toInt (tf 3).toInt D dn x.toInt ∧ ¬ y.toInt = 0)) := by
  have eK : (nI dn).toInt = (dn : Int) := nI_toInt (by omega)
  by_cases c0 : x = 0
  · subst c0
    have o0 : (0 : Int32).toInt = 0 := by decide
    by_cases c1 : dn < 60
    · exact ⟨0, (rf_6 h0 g1 g9 hT1 (by rw [s6, eK]; omega)).up, Or.inl ⟨by rw [o0]; exact acc_0 c1, rfl⟩⟩
    · refine ⟨m3i, (rf_5 h0 g1 g9 hT1 (by rw [s6, eK]; omega)).up, Or.inr ⟨acc_d c1, ?_, by decide⟩⟩
      unfold rfV
      rw [o0, if_neg (fun h => h.1 rfl), if_neg (fun h => h.1 rfl)]
  · have c0' : ¬ x.toInt = 0 := fun e => c0 (Int32.toInt_inj.mp (e.trans (by decide)))
    rcases sc_num (X := X) (d := d) (x := x) hT1 s16 with ⟨n1, n2⟩ | ⟨n1, n2⟩
    · have ex : x = nI x.toInt.toNat := tI_nI (by omega) (by omega)
      have hz : (b &&& ((1 : Int32) <<< (x &&& 31))).toInt = 0 ↔ bt b x.toInt.toNat = false := by
        have := bt_z (b := b) (k := x.toInt.toNat) (by omega)
        rw [← ex] at this
        exact this
      have hbx : bt b x.toInt.toNat = okP D dn (tf 2).toInt (tf 3).toInt x.toInt := by
        rw [hb _ (by omega), decide_eq_true (show 1 ≤ x.toInt.toNat ∧ (x.toInt.toNat : Int) ≤ (tf 0).toInt by omega), Bool.true_and, show ((x.toInt.toNat : Nat) : Int) = x.toInt by omega]
      by_cases c1 : okP D dn (tf 2).toInt (tf 3).toInt x.toInt = true
      · have hbt : ¬ (b &&& ((1 : Int32) <<< (x &&& 31))).toInt = 0 := fun h => by
          have := hz.mp h
          rw [hbx, c1] at this
          exact absurd this (by decide)
        by_cases c2 : dn < 60
        · exact ⟨0, rf_4 h0 g1 g9 hT1 c0' n2 c0' hbt (by rw [s6, eK]; omega), Or.inl ⟨acc_t c2 n1 c1, rfl⟩⟩
        · refine ⟨m3i, rf_3 h0 g1 g9 hT1 c0' n2 c0' hbt (by rw [s6, eK]; omega), Or.inr ⟨acc_d c2, ?_, by decide⟩⟩
          unfold rfV
          rw [if_neg (fun h => h.2 n1), if_neg (fun h => by rw [c1] at h; exact absurd h.2 (by decide))]
      · have c1' := Bool.eq_false_iff.mpr c1
        refine ⟨m2i, rf_2 h0 g1 g9 hT1 c0' n2 c0' (hz.mpr (by rw [hbx]; exact c1')), Or.inr ⟨acc_o c0' c1', ?_, by decide⟩⟩
        unfold rfV
        rw [if_neg (fun h => h.2 n1), if_pos ⟨c0', c1'⟩]
    · refine ⟨m1i, rf_1 h0 g1 g9 hT1 c0' n2, Or.inr ⟨acc_n c0' n1, ?_, by decide⟩⟩
      unfold rfV
      rw [if_pos ⟨c0', n1⟩]
/-- addDay of the class -/
theorem ad_all (ht : t + 6 < 15) (hT : tA w t tf ta) (l2 : (ta 2).length = 60) (s6 : tf 5 = nI dn) (hdn : dn < 60) : ∃ w2, Go X d mt_112 (ex_ent mt_112 [.ref t, .int x]) w (some (.int 1), w2) ∧ tA w2 t (up tf 5 (nI (dn + 1))) (up ta 2 (ex_put (ta 2) dn x)) ∧ ∀ q, ¬ (t ≤ q ∧ q ≤ t + 6) → ex_at w2 q = ex_at w q := by
  have eK : (nI dn).toInt = (dn : Int) := nI_toInt (by omega)
  have ga := ad_1 (X := X) (d := d) (x := x) hT.1 (hT.2 2 (by decide)) (by rw [s6, eK]; omega) (by rw [s6, l2]; exact fp_ix (by omega) (by decide)) (sh_beq (by omega)) (sh_beq (by omega))
  rw [s6, nI_clamp (by omega), ← nI_succ] at ga
  have kT : tA (ex_put (ex_put w (t + 1 + 2) (.inl (.int, ex_put (ta 2) dn x))) t (dT t (up tf 5 (nI (dn + 1))))) t (up tf 5 (nI (dn + 1))) (up ta 2 (ex_put (ta 2) dn x)) := (hT.pa (k := 2) (by decide)).pt
  exact ⟨_, ga, kT, fun q hq => (vg_at_ne (sh_beq (fun e => hq (by omega)))).trans (vg_at_ne (sh_beq (fun e => hq (by omega))))⟩
/-- ring's answers -/
def rgA (tf : Nat → Int32) (ta : Nat → List Int32) (ST : List Int32) (dn : Nat) (x r r' : Int32) : Prop := r = r' ∨ ((1 ≤ x.toInt ∧ x.toInt ≤ (tf 0).toInt) ∧ ∃ b, r = mgV tf ta x b ∧ r' = mnV (tD ta) dn ST (tf 1) x ∧ ∀ j, j < 32 → bt b j = (decide (1 ≤ j ∧ (j : Int) ≤ (tf 0).toInt) && okP (tD ta) dn (tf 2).toInt (tf 3).toInt j))
/-- a day more in both -/
theorem Rs.day (hR : Rs tf ta ST WE dn an wn) (hdn : dn < 60) : Rs (up tf 5 (nI (dn + 1))) (up ta 2 (ex_put (ta 2) dn x)) (ex_put (ex_put ST (1 + dn) x) 0 (nI (dn + 1))) WE (dn + 1) an wn := by
  obtain ⟨⟨l0, l1, l2, l3, l4, l5, l6, l7⟩, hS, hW, hP, hD, hA, hV⟩ := hR
  obtain ⟨s1, s2, s3, s4, s5, s6, s7, s8, s9, s10, s11, s12, s13, s14, s15, s16, s17, s18⟩ := id hS
  have g2 : ∀ j, j ≠ 0 → j ≠ 1 + dn → (ex_put (ex_put ST (1 + dn) x) 0 (nI (dn + 1))).getD j 0 = ST.getD j 0 := fun j a b => (rl_w a).trans (rl_w b)
  refine ⟨⟨l0, l1, by show (ex_put (ta 2) dn x).length = 60; rw [rl_len]; exact l2, l3, l4, l5, by rw [rl_len, rl_len]; exact l6, l7⟩, ⟨rfl, rfl, (g2 _ (by omega) (by omega)).trans s3, (g2 _ (by omega) (by omega)).trans s4, (g2 _ (by omega) (by omega)).trans s5, rfl, rl_x (by rw [rl_len]; omega), s8, (g2 _ (by omega) (by omega)).trans s9, s10, (g2 _ (by omega) (by omega)).trans s11, by omega, s13, s14, s15, s16, s17, s18⟩, hW, fun i i1 i2 => ⟨(g2 _ (by omega) (by omega)).trans (hP i i1 i2).1, (hP i i1 i2).2⟩, fun i i1 => ?_, fun i i1 => ⟨(g2 _ (by omega) (by omega)).trans (hA i i1).1, (hA i i1).2⟩, fun i i1 => ⟨(g2 _ (by omega) (by omega)).trans (hV i i1).1, (g2 _ (by omega) (by omega)).trans (hV i i1).2.1, (hV i i1).2.2⟩⟩
  show (ex_put (ex_put ST (1 + dn) x) 0 (nI (dn + 1))).getD (1 + i) 0 = (ex_put (ta 2) dn x).getD i 0
  by_cases hi : i = dn
  · rw [hi, rl_x (DR := ta 2) (by omega), rl_w (by omega), rl_x (by omega)]
  · rw [rl_w (DR := ta 2) hi, g2 _ (by omega) (by omega)]
    exact hD i (by omega)
theorem st_ring (h : stR w t tf ta ST WE dn an wn) (hC : dyC w) : ∃ r r' wx wm tf' ta' ST' dn', Go X (d + 2) mt_35 (ex_ent mt_35 [.ref 0, .int x]) w (some (.int r), wx) ∧ Go X (d + 2) mt_36 (ex_ent mt_36 [.ref 59, .int x]) wx (some (.int r'), wm) ∧ stR wm t tf' ta' ST' WE dn' an wn ∧ (tf' 0 = tf 0 ∧ tf' 1 = tf 1 ∧ ta' 0 = ta 0) ∧ (∀ j, 96 ≤ j → ST'.getD j 0 = ST.getD j 0) ∧ rgA tf ta ST dn x r r' ∧ ∀ q, ¬ (t ≤ q ∧ q ≤ t + 6) → ¬ (17 ≤ q ∧ q ≤ 20) → q ≠ 59 → q ≠ 60 → q ≠ 67 → ex_at wm q = ex_at w q := by
  obtain ⟨t0, t6, ⟨gs, h0, g9⟩, hT, ⟨fs5, h59, f0, f2, f3, f4⟩, h60, h62, hR⟩ := id h
  obtain ⟨⟨l0, l1, l2, l3, l4, l5, l6, l7⟩, hS, hW, hP, hD, hA, hV⟩ := id hR
  obtain ⟨s1, s2, s3, s4, s5, s6, s7, s8, s9, s10, s11, s12, s13, s14, s15, s16, s17, s18⟩ := id hS
  obtain ⟨⟨fsA, vvA, mmA, RUA, LBA, LAA, a17, -⟩, g1, c3, ⟨RW0, h67, lr⟩, hrg⟩ := id hC
  obtain ⟨hg, hd⟩ := hrg ST h60
  have g1 := g1 gs h0
  obtain ⟨f22, mm, f23⟩ := c3 fs5 h59
  have nz : ¬ tf 1 = 0 := fun e => by
    rw [e] at s17
    exact absurd s17 (by decide)
  obtain ⟨w1, b1, b2, hT1, b3⟩ := dy_begin (X := X) (d := d) (k := 0) h hC (by omega)
  rw [nI_0] at b1
  have A1 : alR w1 t dn (tD ta) := b2.cg (fun i hi => if_pos (by omega))
  obtain ⟨b, q1, q2⟩ := fb_all (X := X) (d := d) A1 (by omega) hT1.1 ⟨s15, s16⟩
  obtain ⟨RU, LB, LA, k17, -⟩ := id A1
  have k0 := (b3 0 (by omega)).trans h0
  obtain ⟨y, y1, y2⟩ := rf_all (X := X) (d := d) (x := x) (D := tD ta) k0 g1 g9 hT1.1 s6 s12 s16 q2
  have e78 : (ST.getD 78 0).toInt = (tf 2).toInt := congrArg Int32.toInt s3
  have e79 : (ST.getD 79 0).toInt = (tf 3).toInt := congrArg Int32.toInt s4
  -- the reference behind the class
  have ref := fun (wx : ex_W) (e : ∀ q, 59 ≤ q → ex_at wx q = ex_at w q) => ur_all (X := X) (d := d) (w := wx) (x := x) (D := tD ta) (dn := dn) ((e 59 (by omega)).trans h59) f0 f2 f3 f22 f23 ((e 60 (by omega)).trans h60) l6 ((e 67 (by omega)).trans h67) lr s7 s12 (fun i hi => by
    have e' := hd i (by omega)
    have e2 : ST.getD (1 + i) 0 = (ta 2).getD i 0 := hD i hi
    rw [e2] at e' ⊢
    exact ⟨rfl, e'⟩) hg s16 nz
  rcases y2 with ⟨ha, rfl⟩ | ⟨ha, hy, hy0⟩
  · have hdn : dn < 60 := by
      by_cases c : dn < 60
      · exact c
      · rw [acc_d c] at ha
        exact absurd ha (by decide)
    obtain ⟨w2, a1, a2, a3⟩ := ad_all (X := X) (d := d + 1) (x := x) t6 hT1 l2 s6 hdn
    have n17 := (a3 17 (by omega)).trans k17
    have gx := rg_2 (X := X) (d := d + 1) h0 g1 g9 a17 b1 k0 g1 g9 k17 hT1.1 q1 y1 a1 ((a3 0 (by omega)).trans k0) g1 g9 n17 (mg_all n17 a2 l1 s16 s17)
    obtain ⟨r', wm, fs5', RW', m1, m2, m3, m4, m5, m6, m7, m8⟩ := ref w2 (fun q hq => (a3 q (by omega)).trans (b3 q (by omega)))
    rw [e78, e79] at m8
    rcases m8 with ⟨-, m9, m10⟩ | ⟨m9, -⟩
    · refine ⟨_, r', w2, wm, _, _, _, dn + 1, gx, m1, ⟨t0, t6, ⟨gs, (m7 0 (by omega) (by omega) (by omega)).trans ((a3 0 (by omega)).trans k0), g9⟩, a2.off (fun q a b => m7 q (by omega) (by omega) (by omega)), ⟨fs5', m2, (m3 0 (by omega)).trans f0, (m3 2 (by omega)).trans f2, (m3 3 (by omega)).trans f3, (m3 4 (by omega)).trans f4⟩, m9, (m7 62 (by omega) (by omega) (by omega)).trans ((a3 62 (by omega)).trans ((b3 62 (by omega)).trans h62)), hR.day hdn⟩, ⟨rfl, rfl, rfl⟩, fun j hj => (rl_w (by omega)).trans (rl_w (by omega)), ?_, fun q a b' c e f => (m7 q c e f).trans ((a3 q a).trans (b3 q b'))⟩
      by_cases c0 : x = 0
      · rw [if_pos c0] at m10
        refine Or.inl (Eq.trans ?_ m10.symm)
        rw [c0]
        exact if_neg (fun h => absurd h.1 (by decide))
      · rw [if_neg c0] at m10
        have c0' : ¬ x.toInt = 0 := fun e => c0 (Int32.toInt_inj.mp (e.trans (by decide)))
        refine Or.inr ⟨?_, b, rfl, m10, q2⟩
        by_cases n1 : 1 ≤ x.toInt ∧ x.toInt ≤ (tf 0).toInt
        · exact n1
        · rw [acc_n c0' n1] at ha
          exact absurd ha (by decide)
    · rw [ha] at m9
      exact absurd m9 (by decide)
  · obtain ⟨r', wm, fs5', RW', m1, m2, m3, m4, m5, m6, m7, m8⟩ := ref w1 (fun q hq => b3 q (by omega))
    rw [e78, e79] at m8
    rcases m8 with ⟨m9, -⟩ | ⟨-, m9, m10⟩
    · rw [ha] at m9
      exact absurd m9 (by decide)
    · exact ⟨y, r', w1, wm, tf, ta, ST, dn, rg_1 h0 g1 g9 a17 b1 k0 g1 g9 k17 q1 y1 hy0, m1, ⟨t0, t6, ⟨gs, (m7 0 (by omega) (by omega) (by omega)).trans k0, g9⟩, hT1.off (fun q a b => m7 q (by omega) (by omega) (by omega)), ⟨fs5', m2, (m3 0 (by omega)).trans f0, (m3 2 (by omega)).trans f2, (m3 3 (by omega)).trans f3, (m3 4 (by omega)).trans f4⟩, m9, (m7 62 (by omega) (by omega) (by omega)).trans ((b3 62 (by omega)).trans h62), hR⟩, ⟨rfl, rfl, rfl⟩, fun _ _ => rfl, Or.inl (hy.trans m10.symm), fun q a b' c e f => (m7 q c e f).trans (b3 q b')⟩
end RI

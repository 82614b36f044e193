/-! byRule OF BOTH: the rule followed. -/
/-- the rule's number for a matter -/
def fk (tf : Nat → Int32) (ST : List Int32) (R : Nat → Int) (m : Nat) (x : Int32) : Nat := fsN (fun k => okP R m (ST.getD 78 0).toInt (ST.getD 79 0).toInt k && decide ((mnV R m ST (tf 1) (nI k)).toInt = x.toInt)) (tf 0).toInt.toNat 1
/-- the days behind i matters -/
def sqR (tf : Nat → Int32) (ST : List Int32) (R : Nat → Int) (m : Nat) (A : Nat → Int32) : Nat → (Nat → Int)
  | 0 => R
  | i + 1 => up (sqR tf ST R m A i) (m + i) ((fk tf ST (sqR tf ST R m A i) (m + i) (A i) : Nat) : Int)
def sqK (tf : Nat → Int32) (ST : List Int32) (R : Nat → Int) (m : Nat) (A : Nat → Int32) (i : Nat) : Nat := fk tf ST (sqR tf ST R m A i) (m + i) (A i)
def smK (tf : Nat → Int32) (ST : List Int32) (R : Nat → Int) (m : Nat) (A : Nat → Int32) : Nat → Nat
  | 0 => 0
  | i + 1 => smK tf ST R m A i + sqK tf ST R m A i
section BY
variable {X : List Int32} {d t m n : Nat} {w wx : ex_W} {R : Nat → Int} {A : Nat → Int32} {x b e hg : Int32} {tf : Nat → Int32} {ta : Nat → List Int32} {ST WE RU : List Int32} {dn an wn : Nat} {fs5 gs : List Value}
theorem fk_le (h16 : (tf 0).toInt ≤ 16) : fk tf ST R m x ≤ 16 := by
  have h : fk tf ST R m x < 1 + (tf 0).toInt.toNat ∨ fk tf ST R m x = 0 := fsN_le _ _ _
  omega
theorem smK_le (h16 : (tf 0).toInt ≤ 16) : ∀ i, smK tf ST R m A i ≤ 16 * i
  | 0 => Nat.le_refl _
  | i + 1 => by
    have h1 := smK_le h16 i
    have h2 : sqK tf ST R m A i ≤ 16 := fk_le h16
    show smK tf ST R m A i + sqK tf ST R m A i ≤ _
    omega
theorem alR.o21 {c : ex_E} (h : alR w t m R) : alR (ex_put w 21 c) t m R := by
  obtain ⟨RUb, LBb, LAb, u1, u2, u3, u4, u5⟩ := h
  exact ⟨RUb, LBb, LAb, vg_at_o rfl u1, vg_at_o rfl u2, vg_at_o rfl u3, vg_at_o rfl u4, u5⟩
theorem sqR_lo : ∀ i s, s < m → sqR tf ST R m A i s = R s
  | 0, _, _ => rfl
  | i + 1, s, h => (up_ne _ _ (by omega)).trans (sqR_lo i s h)
/-- days taken back -/
theorem fb_loop1 {v : Int32} {k m' : Nat} {o1 : Option Value} (hk : k ≤ 5) : ∀ (r i : Nat) (w : ex_W), i + r = k → alR w t (m' + r) R → ex_at w 21 = some (.inr (.inr (2, pln (nI n) hg))) → ∃ w', Go X (d + 1) mt_126 (88, [some (.ref 21), some (.int v), some (.int (nI k)), some (.int 1), some (.int (nI i)), o1], []) w (none, w') ∧ ex_at w' 21 = some (.inr (.inr (2, pln (nI n) v))) ∧ alR w' t m' R ∧ ∀ q, ¬ (17 ≤ q ∧ q ≤ 21) → ex_at w' q = ex_at w q
  | 0, i, w, hi, hA, h21 => ⟨_, fb_e1 h21 (by rw [show i = k by omega]; exact Int.le_refl _), vg_at_put h21, alR.o21 hA, fun q hq => vg_at_ne (sh_beq (by omega))⟩
  | r + 1, i, w, hi, hA, h21 => by
    obtain ⟨w1, g1, g2, g3⟩ := al_back (X := X) (d := d) (m := m' + r) hA
    obtain ⟨RU, LB, LA, k17, -⟩ := id hA
    obtain ⟨w', k1, k2, kA, k3⟩ := fb_loop1 (v := v) (o1 := o1) hk r (i + 1) w1 (by omega) g2 ((g3 21 (by omega)).trans h21)
    rw [show some (Value.int (nI (i + 1))) = some (.int (nI i + 1)) by rw [nI_succ]] at k1
    exact ⟨w', fb_n1 h21 k17 (by rw [nI_toInt (by omega), nI_toInt (by omega)]; omega) g1 k1, k2, kA, fun q hq => (k3 q hq).trans (g3 q (by omega))⟩
theorem fb_loop0 {v : Int32} {k m' : Nat} {o1 : Option Value} (hk : k ≤ 5) : ∀ (r i : Nat) (w : ex_W), i + r = k → alR w t (m' + r) R → ex_at w 21 = some (.inr (.inr (2, pln (nI n) hg))) → ∃ w', Go X (d + 1) mt_126 (88, [some (.ref 21), some (.int v), some (.int (nI k)), some (.int 0), some (.int (nI i)), o1], []) w (none, w') ∧ ex_at w' 21 = some (.inr (.inr (2, pln (nI n) 1000))) ∧ alR w' t m' R ∧ ∀ q, ¬ (17 ≤ q ∧ q ≤ 21) → ex_at w' q = ex_at w q
  | 0, i, w, hi, hA, h21 => ⟨_, fb_e0 h21 (by rw [show i = k by omega]; exact Int.le_refl _), vg_at_put h21, alR.o21 hA, fun q hq => vg_at_ne (sh_beq (by omega))⟩
  | r + 1, i, w, hi, hA, h21 => by
    obtain ⟨w1, g1, g2, g3⟩ := al_back (X := X) (d := d) (m := m' + r) hA
    obtain ⟨RU, LB, LA, k17, -⟩ := id hA
    obtain ⟨w', k1, k2, kA, k3⟩ := fb_loop0 (v := v) (o1 := o1) hk r (i + 1) w1 (by omega) g2 ((g3 21 (by omega)).trans h21)
    rw [show some (Value.int (nI (i + 1))) = some (.int (nI i + 1)) by rw [nI_succ]] at k1
    exact ⟨w', fb_n0 h21 k17 (by rw [nI_toInt (by omega), nI_toInt (by omega)]; omega) g1 k1, k2, kA, fun q hq => (k3 q hq).trans (g3 q (by omega))⟩
/-- followRule -/
theorem fo_loop (hR : Rs tf ta ST WE dn an wn) (t6 : t + 6 < 15) (hn : n ≤ 5) (hm : m + n ≤ 128) (lr : RU.length = 5) (hru : ∀ s, s < n → RU.getD s 0 = A s) : ∀ (f i : Nat) (w : ex_W) (LB : List Int32) (o1 : Option Value), n - i ≤ f → i ≤ n → (∀ s, s < i → ¬ sqK tf ST R m A s = 0) → tA w t tf ta → alR w t (m + i) (sqR tf ST R m A i) → ex_at w 21 = some (.inr (.inr (2, pln (nI n) hg))) → ex_at w 22 = some (.inl (.int, RU)) → ex_at w 25 = some (.inl (.int, LB)) → LB.length = 5 → (∀ s, s < i → LB.getD s 0 = nI (sqK tf ST R m A s)) → ∃ j w' LB', j ≤ n ∧ (∀ s, s < j → ¬ sqK tf ST R m A s = 0) ∧ (j = n ∨ sqK tf ST R m A j = 0) ∧ Go X (d + 4) mt_126 (9, [some (.ref 21), some (.int (nI (smK tf ST R m A i))), some (.int (nI i)), some (.int 1), some (.int (nI i)), o1], []) w (none, w') ∧ ex_at w' 21 = some (.inr (.inr (2, pln (nI n) (if j = n then nI (smK tf ST R m A n) else 1000)))) ∧ ex_at w' 25 = some (.inl (.int, LB')) ∧ LB'.length = 5 ∧ (∀ s, s < j → LB'.getD s 0 = nI (sqK tf ST R m A s)) ∧ alR w' t m R ∧ ∀ q, ¬ (17 ≤ q ∧ q ≤ 21) → q ≠ 25 → ex_at w' q = ex_at w q := by
  obtain ⟨s1, s2, s3, s4, s5, s6, s7, s8, s9, s10, s11, s12, s13, s14, s15, s16, s17, s18⟩ := id hR.2.1
  have en : (nI n).toInt = (n : Int) := nI_toInt (by omega)
  have stop : ∀ (i : Nat) (w : ex_W) (LB : List Int32) (o1 : Option Value), i = n → (∀ s, s < i → ¬ sqK tf ST R m A s = 0) → alR w t (m + i) (sqR tf ST R m A i) → ex_at w 21 = some (.inr (.inr (2, pln (nI n) hg))) → ex_at w 25 = some (.inl (.int, LB)) → LB.length = 5 → (∀ s, s < i → LB.getD s 0 = nI (sqK tf ST R m A s)) → ∃ j w' LB', j ≤ n ∧ (∀ s, s < j → ¬ sqK tf ST R m A s = 0) ∧ (j = n ∨ sqK tf ST R m A j = 0) ∧ Go X (d + 4) mt_126 (9, [some (.ref 21), some (.int (nI (smK tf ST R m A i))), some (.int (nI i)), some (.int 1), some (.int (nI i)), o1], []) w (none, w') ∧ ex_at w' 21 = some (.inr (.inr (2, pln (nI n) (if j = n then nI (smK tf ST R m A n) else 1000)))) ∧ ex_at w' 25 = some (.inl (.int, LB')) ∧ LB'.length = 5 ∧ (∀ s, s < j → LB'.getD s 0 = nI (sqK tf ST R m A s)) ∧ alR w' t m R ∧ ∀ q, ¬ (17 ≤ q ∧ q ≤ 21) → q ≠ 25 → ex_at w' q = ex_at w q := by
    intro i w LB o1 hi hz hA h21 h25 hl hb
    subst hi
    obtain ⟨w', k1, k2, kA, k3⟩ := fb_loop1 (X := X) (d := d + 3) (n := i) (v := nI (smK tf ST R m A i)) (k := i) (m' := m) (o1 := o1) hn i 0 w (by omega) hA h21
    rw [nI_0] at k1
    exact ⟨i, w', LB, Nat.le_refl _, hz, Or.inl rfl, fo_x1 h21 (Int.le_refl _) (fb_s1 k1), by rw [if_pos rfl]; exact k2, (k3 25 (by omega)).trans h25, hl, hb, kA.cg (fun s hs => sqR_lo i s hs), fun q hq _ => k3 q hq⟩
  intro f
  induction f with
  | zero => exact fun i w LB o1 hf hi hz hT hA h21 h22 h25 hl hb => stop i w LB o1 (by omega) hz hA h21 h25 hl hb
  | succ f ih =>
    intro i w LB o1 hf hi hz hT hA h21 h22 h25 hl hb
    by_cases ei : i = n
    · exact stop i w LB o1 ei hz hA h21 h25 hl hb
    · have ein : (nI i).toInt = (i : Int) := nI_toInt (by omega)
      obtain ⟨bb, q2, q1⟩ := lf_all (X := X) (d := d) (x := A i) hA hT hR.1.2.1 ⟨s15, s16⟩ s17
      rw [fsN_both hR q2] at q1
      have q1' : Go X (d + 3) mt_109 (ex_ent mt_109 [.ref 17, .int (ex_gd RU (Int32.toNatClampNeg (nI i)))]) w (some (.int (nI (sqK tf ST R m A i))), w) := by
        rw [nI_clamp (by omega), ex_gd_eq, hru i (by omega)]
        exact q1
      obtain ⟨RUa, LBa, LAa, k17, -⟩ := id hA
      have hk16 : sqK tf ST R m A i ≤ 16 := fk_le s16
      have ek : (nI (sqK tf ST R m A i)).toInt = (sqK tf ST R m A i : Int) := nI_toInt (by omega)
      have ix : ex_ix (nI i) RU.length = true := by rw [lr]; exact fp_ix (by omega) (by decide)
      by_cases c : sqK tf ST R m A i = 0
      · obtain ⟨w', k1, k2, kA, k3⟩ := fb_loop0 (X := X) (d := d + 3) (n := n) (v := nI (smK tf ST R m A i)) (k := i) (m' := m) (o1 := some (.int (nI (sqK tf ST R m A i)))) (by omega) i 0 w (by omega) hA h21
        rw [nI_0] at k1
        refine ⟨i, w', LB, hi, hz, Or.inr c, fo_s h21 k17 h22 (by rw [ein, en]; omega) ix q1' (by rw [ek]; omega) ?_, by rw [if_neg ei]; exact k2, (k3 25 (by omega)).trans h25, hl, hb, kA.cg (fun s hs => sqR_lo i s hs), fun q hq _ => k3 q hq⟩
        have e1 : (nI i + 1).toInt = (i : Int) + 1 := by rw [← nI_succ, nI_toInt (by omega)]; omega
        by_cases c2 : i + 1 < n
        · exact fo_y h21 (by rw [e1, en]; omega) (fb_s0 k1)
        · exact fo_x0 h21 (by rw [e1, en]; omega) (fb_s0 k1)
      · have w25 : ex_at (ex_put w 25 (.inl (.int, ex_put LB i (nI (sqK tf ST R m A i))))) 25 = some (.inl (.int, ex_put LB i (nI (sqK tf ST R m A i)))) := vg_at_put h25
        have hA' : alR (ex_put w 25 (.inl (.int, ex_put LB i (nI (sqK tf ST R m A i))))) t (m + i) (sqR tf ST R m A i) := by
          obtain ⟨RUb, LBb, LAb, u1, u2, u3, u4, u5⟩ := hA
          exact ⟨RUb, LBb, LAb, vg_at_o rfl u1, vg_at_o rfl u2, vg_at_o rfl u3, vg_at_o rfl u4, u5⟩
        obtain ⟨w1, p1, p2, p3⟩ := al_pass (X := X) (d := d + 3) (x := nI (sqK tf ST R m A i)) hA' (by omega) (by rw [ek]; omega) (by rw [ek]; omega)
        rw [ek] at p2
        have F1 : ∀ q, ¬ (17 ≤ q ∧ q ≤ 20) → q ≠ 25 → ex_at w1 q = ex_at w q := fun q a c => (p3 q a).trans (vg_at_ne (sh_beq (fun e => c e.symm)))
        obtain ⟨j, w', LB', j1, j2, j3, j4, j5, j6, j7, j8, jA, j9⟩ := ih (i + 1) w1 (ex_put LB i (nI (sqK tf ST R m A i))) (some (.int (nI (sqK tf ST R m A i)))) (by omega) (by omega) (fun s hs => by
          by_cases e : s = i
          · rw [e]; exact c
          · exact hz s (by omega)) (hT.off (fun q a c => F1 q (by omega) (by omega))) p2 ((F1 21 (by omega) (by omega)).trans h21) ((F1 22 (by omega) (by omega)).trans h22) ((p3 25 (by omega)).trans w25) (by rw [rl_len]; exact hl) (fun s hs => by
          by_cases e : s = i
          · rw [e, rl_x (by omega)]
          · rw [rl_w e]
            exact hb s (by omega))
        have e2 : nI (smK tf ST R m A (i + 1)) = nI (smK tf ST R m A i) + nI (sqK tf ST R m A i) := (nI_add _ _).symm
        rw [e2, nI_succ] at j4
        refine ⟨j, w', LB', j1, j2, j3, fo_n h21 k17 h22 h25 (by rw [ein, en]; omega) ix q1' (by rw [ek]; omega) (by rw [hl]; exact fp_ix (by omega) (by decide)) (by rw [nI_clamp (by omega)]; exact p1) j4, j5, j6, j7, j8, jA, fun q a c => (j9 q a c).trans (F1 q (by omega) c)⟩
/-- findRuled -/
theorem fr_loop (h16 : 4 ≤ (tf 0).toInt ∧ (tf 0).toInt ≤ 16) (nz : ¬ tf 1 = 0) (hg' : 0 ≤ (ST.getD 78 0).toInt ∧ (ST.getD 78 0).toInt ≤ 20) (hn : n ≤ 5) (hm : m + n ≤ 129) (lr : RU.length = 5) (hru : ∀ s, s < n → RU.getD s 0 = A s) : ∀ (f i : Nat) (w : ex_W) (fs5 : List Value) (LB : List Int32) (o1 : Option Value), n - i ≤ f → i ≤ n → (∀ s, s < i → ¬ sqK tf ST R m A s = 0) → rwR w (m + i) (sqR tf ST R m A i) ST → (∀ s, s < m + i → 0 ≤ sqR tf ST R m A i s ∧ sqR tf ST R m A i s ≤ 16) → ex_at w 59 = some (.inr (.inr (8, fs5))) → ex_at fs5 2 = some (.int (tf 0)) → ex_at fs5 3 = some (.int (tf 1)) → ex_at fs5 24 = some (.ref 68) → ex_at fs5 25 = some (.ref 69) → ex_at fs5 26 = some (.int (nI (smK tf ST R m A i))) → ex_at w 68 = some (.inl (.int, RU)) → ex_at w 69 = some (.inl (.int, LB)) → LB.length = 5 → (∀ s, s < i → LB.getD s 0 = nI (sqK tf ST R m A s)) → ∃ j w' fs5' LB', j ≤ n ∧ (∀ s, s < j → ¬ sqK tf ST R m A s = 0) ∧ (j = n ∨ sqK tf ST R m A j = 0) ∧ Go X (d + 4) mt_127 (11, [some (.ref 59), some (.int (nI n)), some (.int (nI i)), o1], []) w (none, w') ∧ ex_at w' 59 = some (.inr (.inr (8, fs5'))) ∧ ex_at fs5' 26 = some (.int (if j = n then nI (smK tf ST R m A n) else 1000000)) ∧ (∀ q, q ≠ 23 → q ≠ 26 → ex_at fs5' q = ex_at fs5 q) ∧ ex_at w' 69 = some (.inl (.int, LB')) ∧ LB'.length = 5 ∧ (∀ s, s < j → LB'.getD s 0 = nI (sqK tf ST R m A s)) ∧ (∃ m2 R2, rwR w' m2 R2 ST) ∧ ∀ q, q ≠ 59 → q ≠ 67 → q ≠ 69 → ex_at w' q = ex_at w q := by
  have en : (nI n).toInt = (n : Int) := nI_toInt (by omega)
  have o4 : m4i.toInt = -4 := by decide
  intro f
  induction f with
  | zero =>
    intro i w fs5 LB o1 hf hi hz hr hR16 h59 f2 f3 f24 f25 f26 h68 h69 hl hb
    obtain rfl : i = n := by omega
    exact ⟨i, w, fs5, LB, Nat.le_refl _, hz, Or.inl rfl, fr_x (Int.le_refl _), h59, by rw [if_pos rfl]; exact f26, fun _ _ _ => rfl, h69, hl, hb, ⟨_, _, hr⟩, fun _ _ _ _ => rfl⟩
  | succ f ih =>
    intro i w fs5 LB o1 hf hi hz hr hR16 h59 f2 f3 f24 f25 f26 h68 h69 hl hb
    by_cases ei : i = n
    · subst ei
      exact ⟨i, w, fs5, LB, Nat.le_refl _, hz, Or.inl rfl, fr_x (Int.le_refl _), h59, by rw [if_pos rfl]; exact f26, fun _ _ _ => rfl, h69, hl, hb, ⟨_, _, hr⟩, fun _ _ _ _ => rfl⟩
    · have ein : (nI i).toInt = (i : Int) := nI_toInt (by omega)
      have hs := smK_le (ST := ST) (R := R) (m := m) (A := A) h16.2 i
      have es : (nI (smK tf ST R m A i)).toInt = (smK tf ST R m A i : Int) := nI_toInt (by omega)
      have q1 := cf_all (X := X) (d := d) (x := A i) hr h59 f2 f3 nz h16 hg' hR16
      have hk16 : sqK tf ST R m A i ≤ 16 := fk_le h16.2
      have q1' : Go X (d + 3) mt_110 (ex_ent mt_110 [.ref 59, .int (ex_gd RU (Int32.toNatClampNeg (nI i)))]) w (some (.int (if sqK tf ST R m A i = 0 then m4i else nI (sqK tf ST R m A i))), w) := by
        rw [nI_clamp (by omega), ex_gd_eq, hru i (by omega)]
        exact q1
      have ix : ex_ix (nI i) RU.length = true := by rw [lr]; exact fp_ix (by omega) (by decide)
      have ixl : ex_ix (nI i) LB.length = true := by rw [hl]; exact fp_ix (by omega) (by decide)
      have lt : (nI i).toInt < (nI n).toInt := by rw [ein, en]; omega
      have nb : ¬ (nI (smK tf ST R m A i)).toInt = 1000000 := by rw [es]; omega
      -- a world with the strokes and the number written
      have put : ∀ (u v : Int32), rwR (ex_put (ex_put w 59 (.inr (.inr (8, ex_put fs5 26 (.int u))))) 69 (.inl (.int, ex_put LB i v))) (m + i) (sqR tf ST R m A i) ST := fun u v => by
        obtain ⟨fs, RW, a1, a2, a3, a4, a5, a6, a7⟩ := hr
        obtain rfl := at_obj h59 a1
        exact ⟨_, RW, vg_at_o rfl (vg_at_put h59), vg_at_o rfl a2, vg_at_o rfl a3, vg_at_o rfl a4, vg_at_o rfl (vg_at_o rfl a5), vg_at_o rfl (vg_at_o rfl a6), a7⟩
      by_cases c : sqK tf ST R m A i = 0
      · rw [if_pos c] at q1'
        obtain ⟨w1, fs5', a1, a2, a3, a4, a5⟩ := rw_add (X := X) (d := d + 3) (x := m4i) (v := -4) (put 1000000 m4i) (vg_at_o rfl (vg_at_put h59)) (by omega) o4
        have f26' : ex_at fs5' 26 = some (.int 1000000) := (a4 26 (by omega)).trans (vg_at_put f26)
        have e1 : (nI i + 1).toInt = (i : Int) + 1 := by rw [← nI_succ, nI_toInt (by omega)]; omega
        refine ⟨i, w1, fs5', ex_put LB i m4i, hi, hz, Or.inr c, fr_s h59 f24 f25 f26 h68 h69 lt nb ix q1' o4 ixl (by rw [nI_clamp (by omega)]; exact a1) ?_, a3, by rw [if_neg ei]; exact f26', fun q b1 b2 => (a4 q b1).trans (vg_at_ne (sh_beq (fun e => b2 e.symm))), (a5 69 (by omega) (by omega)).trans (vg_at_put (vg_at_o rfl h69)), by rw [rl_len]; exact hl, fun s hs => by rw [rl_w (by omega)]; exact hb s hs, ⟨_, _, a2⟩, fun q b1 b2 b3 => (a5 q b1 b2).trans ((vg_at_ne (sh_beq (fun e => b3 e.symm))).trans (vg_at_ne (sh_beq (fun e => b1 e.symm))))⟩
        by_cases c2 : i + 1 < n
        · exact fr_y a3 f26' (by rw [e1, en]; omega) (by decide)
        · exact fr_x (by rw [e1, en]; omega)
      · rw [if_neg c] at q1'
        have ek : (nI (sqK tf ST R m A i)).toInt = (sqK tf ST R m A i : Int) := nI_toInt (by omega)
        have e2 : nI (smK tf ST R m A i) + nI (sqK tf ST R m A i) = nI (smK tf ST R m A (i + 1)) := nI_add _ _
        obtain ⟨w1, fs5', a1, a2, a3, a4, a5⟩ := rw_add (X := X) (d := d + 3) (x := nI (sqK tf ST R m A i)) (v := (sqK tf ST R m A i : Int)) (put (nI (smK tf ST R m A (i + 1))) (nI (sqK tf ST R m A i))) (vg_at_o rfl (vg_at_put h59)) (by omega) ek
        have F1 : ∀ q, q ≠ 59 → q ≠ 67 → q ≠ 69 → ex_at w1 q = ex_at w q := fun q b1 b2 b3 => (a5 q b1 b2).trans ((vg_at_ne (sh_beq (fun e => b3 e.symm))).trans (vg_at_ne (sh_beq (fun e => b1 e.symm))))
        have F5 : ∀ q, q ≠ 23 → q ≠ 26 → ex_at fs5' q = ex_at fs5 q := fun q b1 b2 => (a4 q b1).trans (vg_at_ne (sh_beq (fun e => b2 e.symm)))
        obtain ⟨j, w', fs5'', LB', j1, j2, j3, j4, j5, j6, j7, j8, j9, j10, jR, j11⟩ := ih (i + 1) w1 fs5' (ex_put LB i (nI (sqK tf ST R m A i))) (some (.int (nI (sqK tf ST R m A i)))) (by omega) (by omega) (fun s hs => by
          by_cases e : s = i
          · rw [e]; exact c
          · exact hz s (by omega)) a2 (fun s hs => by
          show 0 ≤ up (sqR tf ST R m A i) (m + i) ((sqK tf ST R m A i : Nat) : Int) s ∧ up (sqR tf ST R m A i) (m + i) ((sqK tf ST R m A i : Nat) : Int) s ≤ 16
          by_cases e : s = m + i
          · rw [e, up_eq]
            omega
          · rw [up_ne _ _ e]
            exact hR16 s (by omega)) a3 ((F5 2 (by omega) (by omega)).trans f2) ((F5 3 (by omega) (by omega)).trans f3) ((F5 24 (by omega) (by omega)).trans f24) ((F5 25 (by omega) (by omega)).trans f25) ((a4 26 (by omega)).trans (vg_at_put f26)) ((F1 68 (by omega) (by omega) (by omega)).trans h68) ((a5 69 (by omega) (by omega)).trans (vg_at_put (vg_at_o rfl h69))) (by rw [rl_len]; exact hl) (fun s hs => by
          by_cases e : s = i
          · rw [e, rl_x (by omega)]
          · rw [rl_w e]
            exact hb s (by omega))
        rw [nI_succ] at j4
        exact ⟨j, w', fs5'', LB', j1, j2, j3, fr_n h59 f24 f25 f26 h68 h69 lt nb ix q1' (by rw [ek]; omega) ixl (by rw [nI_clamp (by omega), e2]; exact a1) j4, j5, j6, fun q b1 b2 => (j7 q b1 b2).trans (F5 q b1 b2), j8, j9, j10, jR, fun q b1 b2 b3 => (j11 q b1 b2 b3).trans (F1 q b1 b2 b3)⟩
/-- takeAsked -/
theorem ta_loop (t6 : t + 6 < 15) (l3 : (ta 3).length = 5) (han : an ≤ 5) : ∀ (f i : Nat) (w : ex_W) (RU : List Int32), an - i ≤ f → i ≤ an → tA w t tf ta → ex_at w 21 = some (.inr (.inr (2, pln (nI an) hg))) → ex_at w 22 = some (.inl (.int, RU)) → RU.length = 5 → ∃ RU', RU'.length = 5 ∧ (∀ j, RU'.getD j 0 = if i ≤ j ∧ j < an then (ta 3).getD j 0 else RU.getD j 0) ∧ Go X d mt_119 (14, [some (.ref 21), some (.ref t), some (.int (nI i))], []) w (none, ex_put w 22 (.inl (.int, RU'))) := by
  have ea : (nI an).toInt = (an : Int) := nI_toInt (by omega)
  intro f
  induction f with
  | zero =>
    intro i w RU hf hi hT h21 h22 hl
    obtain rfl : i = an := by omega
    refine ⟨RU, hl, fun j => by rw [if_neg (by omega)], ?_⟩
    rw [fp_put_id h22]
    exact ta_x h21 (Int.le_refl _)
  | succ f ih =>
    intro i w RU hf hi hT h21 h22 hl
    by_cases ei : i = an
    · subst ei
      refine ⟨RU, hl, fun j => by rw [if_neg (by omega)], ?_⟩
      rw [fp_put_id h22]
      exact ta_x h21 (Int.le_refl _)
    · have ein : (nI i).toInt = (i : Int) := nI_toInt (by omega)
      obtain ⟨RU', k1, k2, k3⟩ := ih (i + 1) (ex_put w 22 (.inl (.int, ex_put RU i ((ta 3).getD i 0)))) (ex_put RU i ((ta 3).getD i 0)) (by omega) (by omega) (hT.off (fun q a c => vg_at_ne (sh_beq (by omega)))) (vg_at_o rfl h21) (vg_at_put h22) (by rw [rl_len]; exact hl)
      refine ⟨RU', k1, fun j => ?_, ?_⟩
      · rw [k2 j]
        by_cases q1 : i + 1 ≤ j ∧ j < an
        · rw [if_pos q1, if_pos (by omega)]
        · rw [if_neg q1]
          by_cases q2 : j = i
          · rw [q2, rl_x (by omega), if_pos (by omega)]
          · rw [rl_w q2, if_neg (by omega)]
      · rw [fp_put2, nI_succ] at k3
        refine ta_n h21 hT.1 h22 (hT.2 3 (by decide)) (by rw [ein, ea]; omega) (by rw [l3]; exact fp_ix (by omega) (by decide)) (by rw [hl]; exact fp_ix (by omega) (by decide)) (sh_beq (by omega)) (sh_beq (by omega)) ?_
        rw [nI_clamp (by omega), ex_gd_eq]
        exact k3
/-- wantedNow -/
theorem wn_loop (f0 : ex_at fs5 0 = some (.ref 60)) (f24 : ex_at fs5 24 = some (.ref 68)) (ls : ST.length = 288) (s9 : ST.getD 81 0 = nI an) (han : an ≤ 5) : ∀ (f i : Nat) (w : ex_W) (RU : List Int32), an - i ≤ f → i ≤ an → ex_at w 59 = some (.inr (.inr (8, fs5))) → ex_at w 60 = some (.inl (.int, ST)) → ex_at w 68 = some (.inl (.int, RU)) → RU.length = 5 → ∃ RU', RU'.length = 5 ∧ (∀ j, RU'.getD j 0 = if i ≤ j ∧ j < an then ST.getD (82 + j) 0 else RU.getD j 0) ∧ Go X d mt_123 (2, [some (.ref 59), some (.int (nI i))], []) w (none, ex_put w 68 (.inl (.int, RU'))) := by
  have ea : (nI an).toInt = (an : Int) := nI_toInt (by omega)
  have g81 : ex_gd ST (Int32.toNatClampNeg 81) = nI an := by rw [show Int32.toNatClampNeg 81 = 81 by decide, ex_gd_eq]; exact s9
  have i81 : ex_ix 81 ST.length = true := by rw [ls]; decide
  intro f
  induction f with
  | zero =>
    intro i w RU hf hi h59 h60 h68 hl
    obtain rfl : i = an := by omega
    refine ⟨RU, hl, fun j => by rw [if_neg (by omega)], ?_⟩
    rw [fp_put_id h68]
    exact wn_x h59 f0 h60 i81 (by rw [g81]; exact Int.le_refl _)
  | succ f ih =>
    intro i w RU hf hi h59 h60 h68 hl
    by_cases ei : i = an
    · subst ei
      refine ⟨RU, hl, fun j => by rw [if_neg (by omega)], ?_⟩
      rw [fp_put_id h68]
      exact wn_x h59 f0 h60 i81 (by rw [g81]; exact Int.le_refl _)
    · have ein : (nI i).toInt = (i : Int) := nI_toInt (by omega)
      have e82 : (82 : Int32) + nI i = nI (82 + i) := nI_add 82 i
      obtain ⟨RU', k1, k2, k3⟩ := ih (i + 1) (ex_put w 68 (.inl (.int, ex_put RU i (ST.getD (82 + i) 0)))) (ex_put RU i (ST.getD (82 + i) 0)) (by omega) (by omega) (vg_at_o rfl h59) (vg_at_o rfl h60) (vg_at_put h68) (by rw [rl_len]; exact hl)
      refine ⟨RU', k1, fun j => ?_, ?_⟩
      · rw [k2 j]
        by_cases q1 : i + 1 ≤ j ∧ j < an
        · rw [if_pos q1, if_pos (by omega)]
        · rw [if_neg q1]
          by_cases q2 : j = i
          · rw [q2, rl_x (by omega), if_pos (by omega)]
          · rw [rl_w q2, if_neg (by omega)]
      · rw [fp_put2, nI_succ] at k3
        refine wn_n h59 f0 f24 h60 h68 i81 (by rw [g81, ein, ea]; omega) (by rw [e82, ls]; exact fp_ix (by omega) (by decide)) (by rw [hl]; exact fp_ix (by omega) (by decide)) ?_
        rw [e82, nI_clamp (by omega), nI_clamp (by omega), ex_gd_eq]
        exact k3
theorem st_byRule (h : stR w t tf ta ST WE dn an wn) (hC : dyC w) (hg2 : ∀ gs, ex_at w 0 = some (.inr (.inr (7, gs))) → ex_at gs 2 = some (.ref 21)) (hp : ∃ g hg RU LB, ex_at w 21 = some (.inr (.inr (2, pln g hg))) ∧ ex_at w 22 = some (.inl (.int, RU)) ∧ RU.length = 5 ∧ ex_at w 25 = some (.inl (.int, LB)) ∧ LB.length = 5) (h24 : ∀ fs5, ex_at w 59 = some (.inr (.inr (8, fs5))) → ex_at fs5 24 = some (.ref 68) ∧ ex_at fs5 25 = some (.ref 69) ∧ ∃ v, ex_at fs5 26 = some (.int v)) (h68 : ∃ RU, ex_at w 68 = some (.inl (.int, RU)) ∧ RU.length = 5) (h69 : ∃ LB, ex_at w 69 = some (.inl (.int, LB)) ∧ LB.length = 5) : ∃ r wx wm, Go X (d + 5) mt_51 (ex_ent mt_51 [.ref 0, .int x]) w (some (.int r), wx) ∧ Go X (d + 5) mt_52 (ex_ent mt_52 [.ref 59, .int x]) wx (some (.int r), wm) := by
  obtain ⟨t0, t6, ⟨gs, h0, g9⟩, hT, ⟨fs5, h59, f0, f2, f3, f4⟩, h60, -, hR⟩ := id h
  obtain ⟨⟨l0, l1, l2, l3, l4, l5, l6, l7⟩, -⟩ := id hR
  obtain ⟨s1, s2, s3, s4, s5, s6, s7, s8, s9, s10, s11, s12, s13, s14, s15, s16, s17, s18⟩ := id hR.2.1
  obtain ⟨⟨fsA, vvA, mmA, RUA, LBA, LAA, a17, -⟩, g1, c3, ⟨RW0, h67, lw⟩, -⟩ := id hC
  have g1 := g1 gs h0
  have g2 := hg2 gs h0
  obtain ⟨f22, m23, f23⟩ := c3 fs5 h59
  obtain ⟨f24, f25, v26, f26⟩ := h24 fs5 h59
  obtain ⟨hgap, hR16⟩ := dy_rng h hC
  obtain ⟨gp, hg, RU, LB, h21, h22, lru, h25, llb⟩ := hp
  obtain ⟨RM, h68, lrm⟩ := h68
  obtain ⟨LM, h69, llm⟩ := h69
  have nz : ¬ tf 1 = 0 := fun e => by
    rw [e] at s17
    exact absurd s17 (by decide)
  have e10 : (10 : Int64).toInt = 10 := by decide
  have e14 : (14 : Int64).toInt = 14 := by decide
  have ean : (nI an).toInt = (an : Int) := nI_toInt (by omega)
  by_cases hx : x.toInt = 0 ∨ (10 ≤ x.toInt ∧ x.toInt ≤ 14)
  · have ga : ∀ (D : Nat) (w : ex_W), Go X D mt_118 (ex_ent mt_118 [.int x]) w (some (.int 1), w) := fun D w => by
      by_cases z : x.toInt = 0
      · exact ap_0 z
      · exact ap_3 z (by omega) (by omega)
    have gb : ∀ w : ex_W, Go X (d + 4) mt_122 (ex_ent mt_122 [.int x]) w (some (.int 1), w) := fun w => by
      by_cases z : x.toInt = 0
      · obtain rfl : x = 0 := Int32.toInt_inj.mp (z.trans (by decide))
        exact ip_0
      · exact ip_1 (d := d + 3) z (sin_t rfl (l := 10) (h := 14) e10 e14 (by omega) (by omega))
    -- the class
    obtain ⟨w1, b1, b2, hT1, b3⟩ := dy_begin (X := X) (d := d + 3) (k := 0) h hC (by omega)
    rw [nI_0] at b1
    have A1 : alR w1 t dn (tD ta) := b2.cg (fun i hi => if_pos (by omega))
    have i21 := (b3 21 (by omega)).trans h21
    have i22 := (b3 22 (by omega)).trans h22
    have emin : (if 5 < tf 6 then 5 else tf 6) = tf 6 := if_neg (fun q => by
      have q2 := Int32.lt_iff_toInt_lt.mp q
      rw [s8, ean, show (5 : Int32).toInt = 5 by decide] at q2
      omega)
    obtain ⟨RU', t1, t2, t3⟩ := ta_loop (X := X) (d := d + 4) (t := t) (tf := tf) (ta := ta) (hg := hg) t6 l3 s13 an 0 (ex_put w1 21 (.inr (.inr (2, pln (nI an) hg)))) RU (by omega) (by omega) (hT1.off (fun q a c => vg_at_ne (sh_beq (by omega)))) (vg_at_put i21) (vg_at_o rfl i22) lru
    rw [nI_0] at t3
    have gt : Go X (d + 4) mt_119 (ex_ent mt_119 [.ref 21, .ref t]) w1 (none, ex_put (ex_put w1 21 (.inr (.inr (2, pln (nI an) hg)))) 22 (.inl (.int, RU'))) := ta_0 i21 hT1.1 emin (sh_beq (by omega)) (by rw [s8]; exact t3)
    obtain ⟨w2, hw2⟩ : ∃ w2 : ex_W, w2 = ex_put (ex_put w1 21 (.inr (.inr (2, pln (nI an) hg)))) 22 (.inl (.int, RU')) := ⟨_, rfl⟩
    have F2 : ∀ q, q ≠ 21 → q ≠ 22 → ex_at w2 q = ex_at w1 q := fun q a c => by rw [hw2, vg_at_ne (sh_beq (fun e => c e.symm)), vg_at_ne (sh_beq (fun e => a e.symm))]
    have j21 : ex_at w2 21 = some (.inr (.inr (2, pln (nI an) hg))) := by rw [hw2]; exact vg_at_o rfl (vg_at_put i21)
    have j22 : ex_at w2 22 = some (.inl (.int, RU')) := by rw [hw2]; exact vg_at_put (vg_at_o rfl i22)
    rw [← hw2] at gt
    have A2 : alR w2 t (dn + 0) (sqR tf ST (tD ta) dn (fun s => (ta 3).getD s 0) 0) := by
      obtain ⟨RUb, LBb, LAb, u1, u2, u3, u4, u5⟩ := A1
      exact ⟨RUb, LBb, LAb, (F2 17 (by omega) (by omega)).trans u1, (F2 18 (by omega) (by omega)).trans u2, (F2 19 (by omega) (by omega)).trans u3, (F2 20 (by omega) (by omega)).trans u4, u5⟩
    have hT2 : tA w2 t tf ta := hT1.off (fun q a c => F2 q (by omega) (by omega))
    have k25 : ex_at w2 25 = some (.inl (.int, LB)) := (F2 25 (by omega) (by omega)).trans ((b3 25 (by omega)).trans h25)
    obtain ⟨j, w3, LB', y1, y2, y3, y4, y5, y6, y7, y8, -, y9⟩ := fo_loop (X := X) (d := d) (A := fun s => (ta 3).getD s 0) (R := tD ta) (m := dn) (n := an) (hg := hg) (RU := RU') hR t6 s13 (by omega) t1 (fun s hs => by rw [t2 s, if_pos (by omega)]) an 0 w2 LB none (by omega) (by omega) (fun s hs => absurd hs (Nat.not_lt_zero s)) hT2 A2 j21 j22 k25 llb (fun s hs => absurd hs (Nat.not_lt_zero s))
    have y4' : Go X (d + 4) mt_126 (ex_ent mt_126 [.ref 21]) w2 (none, w3) := fo_0 (by rw [show smK tf ST (tD ta) dn (fun s => (ta 3).getD s 0) 0 = 0 from rfl, nI_0] at y4; exact y4)
    have k0 : ∀ q, q < 17 → ex_at w3 q = ex_at w q := fun q hq => (y9 q (by omega) (by omega)).trans ((F2 q (by omega) (by omega)).trans (b3 q (by omega)))
    have F3 : ∀ q, 59 ≤ q → ex_at w3 q = ex_at w q := fun q hq => (y9 q (by omega) (by omega)).trans ((F2 q (by omega) (by omega)).trans (b3 q (by omega)))
    have gx : ∀ r, Go X (d + 4) mt_121 (ex_ent mt_121 [.ref 21, .int x]) w3 (some (.int r), w3) → Go X (d + 5) mt_51 (ex_ent mt_51 [.ref 0, .int x]) w (some (.int r), w3) := fun r gr => br_1 h0 g1 g2 g9 a17 h21 (ga _ w) b1 ((b3 0 (by omega)).trans h0) g1 g2 g9 i21 gt ((F2 0 (by omega) (by omega)).trans ((b3 0 (by omega)).trans h0)) g1 g2 g9 j21 y4' ((k0 0 (by omega)).trans h0) g1 g2 g9 y5 gr
    -- the reference
    obtain ⟨RM', n1, n2, n3⟩ := wn_loop (X := X) (d := d + 4) (fs5 := fs5) f0 f24 l6 s9 s13 an 0 w3 RM (by omega) (by omega) ((F3 59 (by omega)).trans h59) ((F3 60 (by omega)).trans h60) ((F3 68 (by omega)).trans h68) lrm
    rw [nI_0] at n3
    obtain ⟨w4, hw4⟩ : ∃ w4 : ex_W, w4 = ex_put w3 68 (.inl (.int, RM')) := ⟨_, rfl⟩
    have F4 : ∀ q, q ≠ 68 → ex_at w4 q = ex_at w3 q := fun q a => by rw [hw4, vg_at_ne (sh_beq (fun e => a e.symm))]
    have m68 : ex_at w4 68 = some (.inl (.int, RM')) := by rw [hw4]; exact vg_at_put ((F3 68 (by omega)).trans h68)
    rw [← hw4] at n3
    have G : ∀ q, 59 ≤ q → q ≠ 68 → ex_at w4 q = ex_at w q := fun q a c => (F4 q c).trans (F3 q a)
    obtain ⟨RW', p1, p2, p3⟩ := rn_all (X := X) (d := d + 3) (w := w4) ((G 59 (by omega) (by omega)).trans h59) f0 f22 f23 ((G 60 (by omega) (by omega)).trans h60) l6 ((G 67 (by omega) (by omega)).trans h67) lw s7 s12
    obtain ⟨w5, hw5⟩ : ∃ w5 : ex_W, w5 = ex_put (ex_put w4 59 (.inr (.inr (8, ex_put fs5 23 (.int (nI dn)))))) 67 (.inl (.int, RW')) := ⟨_, rfl⟩
    rw [← hw5] at p3
    have q59 : ex_at w5 59 = some (.inr (.inr (8, ex_put fs5 23 (.int (nI dn))))) := by rw [hw5]; exact vg_at_o rfl (vg_at_put ((G 59 (by omega) (by omega)).trans h59))
    have F5 : ∀ q, q ≠ 59 → q ≠ 67 → ex_at w5 q = ex_at w4 q := fun q a c => by rw [hw5, vg_at_ne (sh_beq (fun e => c e.symm)), vg_at_ne (sh_beq (fun e => a e.symm))]
    have q67 : ex_at w5 67 = some (.inl (.int, RW')) := by rw [hw5]; exact vg_at_put (vg_at_o rfl ((G 67 (by omega) (by omega)).trans h67))
    have qf : ∀ i, i ≠ 23 → i ≠ 26 → ex_at (ex_put (ex_put fs5 23 (.int (nI dn))) 26 (.int 0)) i = ex_at fs5 i := fun i a c => (vg_at_ne (sh_beq (fun e => c e.symm))).trans (vg_at_ne (sh_beq (fun e => a e.symm)))
    have i26 : ex_at (ex_put (ex_put fs5 23 (.int (nI dn))) 26 (.int 0)) 26 = some (.int 0) := vg_at_put (vg_at_o rfl f26)
    have r59 : ex_at (ex_put w5 59 (.inr (.inr (8, ex_put (ex_put fs5 23 (.int (nI dn))) 26 (.int 0))))) 59 = some (.inr (.inr (8, ex_put (ex_put fs5 23 (.int (nI dn))) 26 (.int 0)))) := vg_at_put q59
    have rR : rwR (ex_put w5 59 (.inr (.inr (8, ex_put (ex_put fs5 23 (.int (nI dn))) 26 (.int 0))))) (dn + 0) (sqR tf ST (tD ta) dn (fun s => (ta 3).getD s 0) 0) ST := ⟨_, RW', r59, (qf 0 (by omega) (by omega)).trans f0, (qf 22 (by omega) (by omega)).trans f22, vg_at_o rfl (vg_at_put f23), vg_at_o rfl ((F5 60 (by omega) (by omega)).trans ((G 60 (by omega) (by omega)).trans h60)), vg_at_o rfl q67, p1, l6, by omega, fun i hi => by rw [p2 i (by omega)]; exact congrArg Int32.toInt (hR.2.2.2.2.1 i (by omega))⟩
    obtain ⟨j', w6, fs6, LM', z1, z2, z3, z4, z5, z6, z7, z8, z9, z10, -, z11⟩ := fr_loop (X := X) (d := d) (A := fun s => (ta 3).getD s 0) (R := tD ta) (m := dn) (n := an) (RU := RM') ⟨s15, s16⟩ nz hgap s13 (by omega) n1 (fun s hs => by rw [n2 s, if_pos (by omega)]; exact (hR.2.2.2.2.2.1 s hs).1) an 0 (ex_put w5 59 (.inr (.inr (8, ex_put (ex_put fs5 23 (.int (nI dn))) 26 (.int 0))))) (ex_put (ex_put fs5 23 (.int (nI dn))) 26 (.int 0)) LM none (by omega) (by omega) (fun s hs => absurd hs (Nat.not_lt_zero s)) rR (fun s hs => hR16 s (by omega)) r59 ((qf 2 (by omega) (by omega)).trans f2) ((qf 3 (by omega) (by omega)).trans f3) ((qf 24 (by omega) (by omega)).trans f24) ((qf 25 (by omega) (by omega)).trans f25) (by rw [show smK tf ST (tD ta) dn (fun s => (ta 3).getD s 0) 0 = 0 from rfl, nI_0]; exact i26) (vg_at_o rfl ((F5 68 (by omega) (by omega)).trans m68)) (vg_at_o rfl ((F5 69 (by omega) (by omega)).trans ((G 69 (by omega) (by omega)).trans h69))) llm (fun s hs => absurd hs (Nat.not_lt_zero s))
    rw [nI_0] at z4
    have zf : Go X (d + 4) mt_127 (ex_ent mt_127 [.ref 59, .int (nI an)]) w4 (none, w6) := fr_0 ((G 59 (by omega) (by omega)).trans h59) f26 p3 q59 (vg_at_o rfl f26) z4
    have g81 : ex_gd ST (Int32.toNatClampNeg 81) = nI an := by rw [show Int32.toNatClampNeg 81 = 81 by decide, ex_gd_eq]; exact s9
    have i81 : ex_ix 81 ST.length = true := by rw [l6]; decide
    have z60 : ex_at w6 60 = some (.inl (.int, ST)) := (z11 60 (by omega) (by omega) (by omega)).trans (vg_at_o rfl ((F5 60 (by omega) (by omega)).trans ((G 60 (by omega) (by omega)).trans h60)))
    have gm : ∀ r, Go X (d + 4) mt_125 (ex_ent mt_125 [.ref 59, .int x]) w6 (some (.int r), w6) → Go X (d + 5) mt_52 (ex_ent mt_52 [.ref 59, .int x]) w3 (some (.int r), w6) := fun r gr => bm_1 ((F3 59 (by omega)).trans h59) (gb w3) (wn_0 n3) ((G 59 (by omega) (by omega)).trans h59) f0 ((G 60 (by omega) (by omega)).trans h60) i81 (by rw [g81]; exact zf) z5 gr
    have ej : j = j' := rd_one (n := an) (P := fun s => ¬ sqK tf ST (tD ta) dn (fun s => (ta 3).getD s 0) s = 0) y2 y1 (y3.imp id (fun q hh => hh q)) z2 z1 (z3.imp id (fun q hh => hh q))
    subst ej
    have hs := smK_le (ST := ST) (R := tD ta) (m := dn) (A := fun s => (ta 3).getD s 0) s16 an
    have e60 : ex_at fs6 0 = some (.ref 60) := (z7 0 (by omega) (by omega)).trans ((qf 0 (by omega) (by omega)).trans f0)
    have e625 : ex_at fs6 25 = some (.ref 69) := (z7 25 (by omega) (by omega)).trans ((qf 25 (by omega) (by omega)).trans f25)
    by_cases cj : j = an
    · rw [if_pos cj] at y5 z6
      have es : (nI (smK tf ST (tD ta) dn (fun s => (ta 3).getD s 0) an)).toInt = (smK tf ST (tD ta) dn (fun s => (ta 3).getD s 0) an : Int) := nI_toInt (by omega)
      by_cases z : x.toInt = 0
      · obtain rfl : x = 0 := Int32.toInt_inj.mp (z.trans (by decide))
        exact ⟨_, w3, w6, gx _ (aw_1 y5 (by rw [es]; omega)), gm _ (pt_1 z5 z6 (by rw [es]; omega))⟩
      · have o10 : (10 : Int32).toInt = 10 := by decide
        have e1 : (x - 10).toInt = x.toInt - 10 := by rw [tI_sub (by rw [o10]; omega) (by rw [o10]; omega), o10]
        have ex : x - 10 = nI (x.toInt - 10).toNat := tI_nI (by rw [e1]; omega) (by omega)
        by_cases c : x.toInt - 10 < (an : Int)
        · have ga' := aw_3 (X := X) (d := d + 4) y5 y6 (by rw [es]; omega) z (by rw [e1]; omega) (by rw [e1, ean]; exact c) (by rw [ex, y7]; exact fp_ix (by omega) (by decide))
          have gp' := pt_3 (X := X) (d := d + 4) z5 e60 e625 z6 z60 z8 (by rw [es]; omega) z i81 (by rw [e1, g81, ean]; exact c) (by rw [ex, z9]; exact fp_ix (by omega) (by decide))
          rw [ex, nI_clamp (by omega), ex_gd_eq, y8 _ (by omega)] at ga'
          rw [ex, nI_clamp (by omega), ex_gd_eq, z10 _ (by omega)] at gp'
          exact ⟨_, w3, w6, gx _ ga', gm _ gp'⟩
        · exact ⟨_, w3, w6, gx _ (aw_2 y5 (by rw [es]; omega) z (by rw [e1]; omega) (by rw [e1, ean]; omega)), gm _ (pt_2 z5 e60 z6 z60 (by rw [es]; omega) z i81 (by rw [e1, g81, ean]; omega))⟩
    · rw [if_neg cj] at y5 z6
      exact ⟨_, w3, w6, gx _ (aw_0 y5 (by decide)), gm _ (pt_0 z5 z6 (by decide))⟩
  · refine ⟨_, w, w, br_0 ?_, bm_0 h59 (ip_2 (d := d + 3) (by omega) (sin_f rfl (l := 10) (h := 14) e10 e14 (by omega)))⟩
    by_cases c : x.toInt < 10
    · exact ap_1 (by omega) c
    · exact ap_2 (by omega) (by omega) (by omega)
end BY

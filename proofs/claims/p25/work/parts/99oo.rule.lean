/-! THE STATE OF BOTH: rule. -/
theorem st_rule {X : List Int32} {d t : Nat} {w : ex_W} {tf : Nat → Int32} {ta : Nat → List Int32} {ST WE : List Int32} {dn an wn : Nat} {x : Int32} (h : stR w t tf ta ST WE dn an wn) : ∃ r, Go X d mt_11 (ex_ent mt_11 [.ref 0, .int x]) w (some (.int r), w) ∧ Go X d mt_12 (ex_ent mt_12 [.ref 59, .int x]) w (some (.int r), w) := by
  obtain ⟨t0, t6, ⟨gs, h0, g9⟩, hT, ⟨fs5, h59, f0, f2, f3, f4⟩, h60, h62, ⟨l0, l1, l2, l3, l4, l5, l6, l7⟩, hS, hW, hP, hD, hA, hV⟩ := id h
  obtain ⟨s1, s2, s3, s4, s5, s6, s7, s8, s9, s10, s11, s12, s13, s14, s15, s16, s17, s18⟩ := id hS
  by_cases c : 0 ≤ x.toInt ∧ x.toInt ≤ 5
  · have ex : x = nI x.toInt.toNat := tI_nI (by omega) (by omega)
    have hk : x.toInt.toNat < 6 := by omega
    generalize x.toInt.toNat = k at ex hk
    subst ex
    match k, hk with
    | 0, _ => exact ⟨_, srule_0 h0 g9 hT.1, urule_0 h59 f2⟩
    | 1, _ => exact ⟨_, srule_1 h0 g9 hT.1, urule_1 h59 f3⟩
    | 2, _ =>
      have gm := urule_2 (X := X) (d := d) h59 f0 h60 (by rw [l6]; decide)
      rw [show Int32.toNatClampNeg 78 = 78 by decide, ex_gd_eq, show ST.getD 78 0 = tf 2 from s3] at gm
      exact ⟨_, srule_2 h0 g9 hT.1, gm⟩
    | 3, _ =>
      have gm := urule_3 (X := X) (d := d) h59 f0 h60 (by rw [l6]; decide)
      rw [show Int32.toNatClampNeg 79 = 79 by decide, ex_gd_eq, show ST.getD 79 0 = tf 3 from s4] at gm
      exact ⟨_, srule_3 h0 g9 hT.1, gm⟩
    | 4, _ =>
      have gm := urule_4 (X := X) (d := d) h59 f0 h60 (by rw [l6]; decide)
      rw [show Int32.toNatClampNeg 80 = 80 by decide, ex_gd_eq, show ST.getD 80 0 = tf 4 from s5] at gm
      exact ⟨_, srule_4 h0 g9 hT.1, gm⟩
    | 5, _ =>
      have gm := urule_5 (X := X) (d := d) h59 f0 h60 (by rw [l6]; decide)
      rw [show Int32.toNatClampNeg 0 = 0 by decide, ex_gd_eq, show ST.getD 0 0 = nI dn from s7, ← s6] at gm
      exact ⟨_, srule_5 h0 g9 hT.1, gm⟩
  · exact ⟨_, srule_d (by omega), urule_d (by omega)⟩

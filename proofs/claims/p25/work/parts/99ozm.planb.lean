/-! plan OF BOTH: the call. -/
section PB
variable {X : List Int32} {d t : Nat} {w : ex_W} {x : Int32} {tf : Nat → Int32} {ta : Nat → List Int32} {ST WE : List Int32} {dn an wn : Nat}
theorem st_plan (h : stR w t tf ta ST WE dn an wn) (hC : dyC w) (hg2 : ∀ gs, ex_at w 0 = some (.inr (.inr (7, gs))) → ex_at gs 2 = some (.ref 21)) (hp : ∃ g hg RU LA LT LB, ex_at w 21 = some (.inr (.inr (2, pln g hg))) ∧ ex_at w 22 = some (.inl (.int, RU)) ∧ RU.length = 5 ∧ ex_at w 23 = some (.inl (.int, LA)) ∧ LA.length = 6 ∧ ex_at w 24 = some (.inl (.int, LT)) ∧ LT.length = 5 ∧ ex_at w 25 = some (.inl (.int, LB)) ∧ LB.length = 5) (h24 : ∀ fs5, ex_at w 59 = some (.inr (.inr (8, fs5))) → ex_at fs5 24 = some (.ref 68) ∧ ex_at fs5 25 = some (.ref 69) ∧ ∃ v, ex_at fs5 26 = some (.int v)) (h68 : ∃ RU, ex_at w 68 = some (.inl (.int, RU)) ∧ RU.length = 5) (h69 : ∃ LB, ex_at w 69 = some (.inl (.int, LB)) ∧ LB.length = 5) : ∃ r wx wm, Go X (d + 11) mt_49 (ex_ent mt_49 [.ref 0, .int x]) w (some (.int r), wx) ∧ Go X (d + 11) mt_50 (ex_ent mt_50 [.ref 59, .int x]) wx (some (.int r), wm) := by
  obtain ⟨t0, t6, ⟨gs, h0, g9⟩, hT, ⟨fs5, h59, f0, f2, f3, f4⟩, h60, -, hR⟩ := id h
  obtain ⟨⟨l0, l1, l2, l3, l4, l5, l6, l7⟩, -⟩ := id hR
  obtain ⟨s1, s2, s3, s4, s5, s6, s7, s8, s9, s10, s11, s12, s13, s14, s15, s16, s17, s18⟩ := id hR.2.1
  obtain ⟨⟨fsA, vvA, mmA, RUA, LBA, LAA, a17, -⟩, g1, c3, ⟨RW0, h67, lw⟩, -⟩ := id hC
  have g1 := g1 gs h0
  have g2 := hg2 gs h0
  obtain ⟨f22, m23, f23⟩ := c3 fs5 h59
  obtain ⟨f24, f25, v26, f26⟩ := h24 fs5 h59
  obtain ⟨hgap, hR16⟩ := dy_rng h hC
  obtain ⟨gp, hg, RU, LA, LT, LB, h21, h22, lru, h23, lla, h24', llt, h25, llb⟩ := hp
  obtain ⟨RM, h68, lrm⟩ := h68
  obtain ⟨LM, h69, llm⟩ := h69
  have nz : ¬ tf 1 = 0 := fun e => by
    rw [e] at s17
    exact absurd s17 (by decide)
  have e10 : (10 : Int64).toInt = 10 := by decide
  have e14 : (14 : Int64).toInt = 14 := by decide
  have ean : (nI an).toInt = (an : Int) := nI_toInt (by omega)
  by_cases hx : x.toInt = 0 ∨ (10 ≤ x.toInt ∧ x.toInt ≤ 14)
  · have ga : ∀ (D : Nat) (w : ex_W), Go X D mt_118 (ex_ent mt_118 [.int x]) w (some (.int 1), w) := fun D w => by
      by_cases z : x.toInt = 0
      · exact ap_0 z
      · exact ap_3 z (by omega) (by omega)
    have gb : ∀ w : ex_W, Go X (d + 10) mt_122 (ex_ent mt_122 [.int x]) w (some (.int 1), w) := fun w => by
      by_cases z : x.toInt = 0
      · obtain rfl : x = 0 := Int32.toInt_inj.mp (z.trans (by decide))
        exact ip_0
      · exact ip_1 (d := d + 9) z (sin_t rfl (l := 10) (h := 14) e10 e14 (by omega) (by omega))
    -- the class
    obtain ⟨w1, b1, b2, hT1, b3⟩ := dy_begin (X := X) (d := d + 9) (k := 0) h hC (by omega)
    rw [nI_0] at b1
    have A1 : alR w1 t dn (tD ta) := b2.cg (fun i hi => if_pos (by omega))
    have i21 := (b3 21 (by omega)).trans h21
    have i22 := (b3 22 (by omega)).trans h22
    have emin : (if 5 < tf 6 then 5 else tf 6) = tf 6 := if_neg (fun q => by
      have q2 := Int32.lt_iff_toInt_lt.mp q
      rw [s8, ean, show (5 : Int32).toInt = 5 by decide] at q2
      omega)
    obtain ⟨RU', t1, t2, t3⟩ := ta_loop (X := X) (d := d + 10) (t := t) (tf := tf) (ta := ta) (hg := hg) t6 l3 s13 an 0 (ex_put w1 21 (.inr (.inr (2, pln (nI an) hg)))) RU (by omega) (by omega) (hT1.off (fun q a c => vg_at_ne (sh_beq (by omega)))) (vg_at_put i21) (vg_at_o rfl i22) lru
    rw [nI_0] at t3
    have gt : Go X (d + 10) mt_119 (ex_ent mt_119 [.ref 21, .ref t]) w1 (none, ex_put (ex_put w1 21 (.inr (.inr (2, pln (nI an) hg)))) 22 (.inl (.int, RU'))) := ta_0 i21 hT1.1 emin (sh_beq (by omega)) (by rw [s8]; exact t3)
    obtain ⟨w2, hw2⟩ : ∃ w2 : ex_W, w2 = ex_put (ex_put w1 21 (.inr (.inr (2, pln (nI an) hg)))) 22 (.inl (.int, RU')) := ⟨_, rfl⟩
    have F2 : ∀ q, q ≠ 21 → q ≠ 22 → ex_at w2 q = ex_at w1 q := fun q a c => by rw [hw2, vg_at_ne (sh_beq (fun e => c e.symm)), vg_at_ne (sh_beq (fun e => a e.symm))]
    have j21 : ex_at w2 21 = some (.inr (.inr (2, pln (nI an) hg))) := by rw [hw2]; exact vg_at_o rfl (vg_at_put i21)
    have j22 : ex_at w2 22 = some (.inl (.int, RU')) := by rw [hw2]; exact vg_at_put (vg_at_o rfl i22)
    rw [← hw2] at gt
    have A2 : alR w2 t dn (tD ta) := by
      obtain ⟨RUb, LBb, LAb, u1, u2, u3, u4, u5⟩ := A1
      exact ⟨RUb, LBb, LAb, (F2 17 (by omega) (by omega)).trans u1, (F2 18 (by omega) (by omega)).trans u2, (F2 19 (by omega) (by omega)).trans u3, (F2 20 (by omega) (by omega)).trans u4, u5⟩
    have hT2 : tA w2 t tf ta := hT1.off (fun q a c => F2 q (by omega) (by omega))
    obtain ⟨w3, LA', y1, y2, y3, y4, y5⟩ := fc_all (X := X) (d := d) (A := fun s => (ta 3).getD s 0) (R0 := tD ta) (m0 := dn) (n := an) (hg := hg) (RU := RU') hR t6 s13 s12 t1 (fun s hs => by rw [t2 s, if_pos (by omega)]) hT2 A2 j21 j22 ((F2 23 (by omega) (by omega)).trans ((b3 23 (by omega)).trans h23)) lla ((F2 24 (by omega) (by omega)).trans ((b3 24 (by omega)).trans h24')) llt ((F2 25 (by omega) (by omega)).trans ((b3 25 (by omega)).trans h25)) llb
    have F3 : ∀ q, ¬ (17 ≤ q ∧ q ≤ 25) → ex_at w3 q = ex_at w q := fun q hq => (y5 q hq).trans ((F2 q (by omega) (by omega)).trans (b3 q (by omega)))
    obtain ⟨LT3, LB3, v21, v22, v23, v24, v24l, v24v, v25, v25l, v25v⟩ := y3
    have gx : ∀ r, Go X (d + 10) mt_121 (ex_ent mt_121 [.ref 21, .int x]) w3 (some (.int r), w3) → Go X (d + 11) mt_49 (ex_ent mt_49 [.ref 0, .int x]) w (some (.int r), w3) := fun r gr => pq_1 h0 g1 g2 g9 a17 h21 (ga _ w) b1 ((b3 0 (by omega)).trans h0) g1 g2 g9 i21 gt ((F2 0 (by omega) (by omega)).trans ((b3 0 (by omega)).trans h0)) g1 g2 g9 j21 y1 ((F3 0 (by omega)).trans h0) g1 g2 g9 v21 gr
    -- the reference
    obtain ⟨RM', n1, n2, n3⟩ := wn_loop (X := X) (d := d + 10) (fs5 := fs5) f0 f24 l6 s9 s13 an 0 w3 RM (by omega) (by omega) ((F3 59 (by omega)).trans h59) ((F3 60 (by omega)).trans h60) ((F3 68 (by omega)).trans h68) lrm
    rw [nI_0] at n3
    have F4 : ∀ q, ¬ (17 ≤ q ∧ q ≤ 25) → q ≠ 68 → ex_at (ex_put w3 68 (.inl (.int, RM'))) q = ex_at w q := fun q a c => (vg_at_ne (sh_beq (fun e => c e.symm))).trans (F3 q a)
    obtain ⟨w6, z1, z2⟩ := yp_fin (X := X) (d := d + 6) (A := fun s => (ta 3).getD s 0) (R := tD ta) (m0 := dn) (n := an) (RM := RM') s13 s12 ⟨s15, s16⟩ nz hgap l6 n1 (fun s hs => by rw [n2 s, if_pos (by omega)]; exact (hR.2.2.2.2.2.1 s hs).1) ((F4 59 (by omega) (by omega)).trans h59) f0 f2 f3 f22 f23 f24 f25 f26 ((F4 60 (by omega) (by omega)).trans h60) ((F4 67 (by omega) (by omega)).trans h67) lw (vg_at_put ((F3 68 (by omega)).trans h68)) ((F4 69 (by omega) (by omega)).trans h69) llm s7 (fun i hi => congrArg Int32.toInt (hR.2.2.2.2.1 i hi)) hR16
    obtain ⟨fs6, RW6, LB6, q59, q0, q2, q3, q22, q23, q24, q25, q26, q60, q67, q67l, q67v, q68, q69, q69l, q69v⟩ := z2
    have g81 : ex_gd ST (Int32.toNatClampNeg 81) = nI an := by rw [show Int32.toNatClampNeg 81 = 81 by decide, ex_gd_eq]; exact s9
    have i81 : ex_ix 81 ST.length = true := by rw [l6]; decide
    have gm : ∀ r, Go X (d + 10) mt_125 (ex_ent mt_125 [.ref 59, .int x]) w6 (some (.int r), w6) → Go X (d + 11) mt_50 (ex_ent mt_50 [.ref 59, .int x]) w3 (some (.int r), w6) := fun r gr => yq_1 ((F3 59 (by omega)).trans h59) (gb w3) (wn_0 n3) ((F4 59 (by omega) (by omega)).trans h59) f0 ((F4 60 (by omega) (by omega)).trans h60) i81 (by rw [g81]; exact z1) q59 gr
    have hB := pE_B (tl := plT tf ST (fun s => (ta 3).getD s 0)) (mo := (tf 0).toInt.toNat) (by omega) an (tD ta) dn 0 0 none (by omega) (fun q hq => by cases hq)
    generalize pE (plT tf ST (fun s => (ta 3).getD s 0)) (tf 0).toInt.toNat an (tD ta) dn 0 0 none = ac at v21 v25v q26 q69v hB
    cases ac with
    | none => exact ⟨_, w3, w6, gx _ (aw_0 v21 (by decide)), gm _ (pt_0 q59 q26 (by decide))⟩
    | some q =>
      have hq : q.1 ≤ 16 * (0 + an) := hB q rfl
      have v21 : ex_at w3 21 = some (.inr (.inr (2, pln (nI an) (nI q.1)))) := v21
      have q26 : ex_at fs6 26 = some (.int (nI q.1)) := q26
      have es : (nI q.1).toInt = (q.1 : Int) := nI_toInt (by omega)
      by_cases z : x.toInt = 0
      · obtain rfl : x = 0 := Int32.toInt_inj.mp (z.trans (by decide))
        exact ⟨_, w3, w6, gx _ (aw_1 v21 (by rw [es]; omega)), gm _ (pt_1 q59 q26 (by rw [es]; omega))⟩
      · have o10 : (10 : Int32).toInt = 10 := by decide
        have e1 : (x - 10).toInt = x.toInt - 10 := by rw [tI_sub (by rw [o10]; omega) (by rw [o10]; omega), o10]
        have ex : x - 10 = nI (x.toInt - 10).toNat := tI_nI (by rw [e1]; omega) (by omega)
        by_cases c : x.toInt - 10 < (an : Int)
        · have ga' := aw_3 (X := X) (d := d + 10) v21 v25 (by rw [es]; omega) z (by rw [e1]; omega) (by rw [e1, ean]; exact c) (by rw [ex, v25l]; exact fp_ix (by omega) (by decide))
          have gp' := pt_3 (X := X) (d := d + 10) q59 q0 q25 q26 q60 q69 (by rw [es]; omega) z i81 (by rw [e1, g81, ean]; exact c) (by rw [ex, q69l]; exact fp_ix (by omega) (by decide))
          rw [ex, nI_clamp (by omega), ex_gd_eq] at ga' gp'
          have eqv : LB3.getD (x.toInt - 10).toNat 0 = LB6.getD (x.toInt - 10).toNat 0 := Int32.toInt_inj.mp ((v25v q rfl _ (by omega)).trans (q69v q rfl _ (by omega)).symm)
          rw [eqv] at ga'
          exact ⟨_, w3, w6, gx _ ga', gm _ gp'⟩
        · exact ⟨_, w3, w6, gx _ (aw_2 v21 (by rw [es]; omega) z (by rw [e1]; omega) (by rw [e1, ean]; omega)), gm _ (pt_2 q59 q0 q26 q60 (by rw [es]; omega) z i81 (by rw [e1, g81, ean]; omega))⟩
  · refine ⟨_, w, w, pq_0 ?_, yq_0 h59 (ip_2 (d := d + 9) (by omega) (sin_f rfl (l := 10) (h := 14) e10 e14 (by omega)))⟩
    by_cases c : x.toInt < 10
    · exact ap_1 (by omega) c
    · exact ap_2 (by omega) (by omega) (by omega)
end PB

/-! LINES WITH A LOOP, of both. -/
/-- the reference will have failed at s, once it has asked for a stop -/
def rNo (u : Nat → Nat) (z : Nat → Int32) (mo ma ym : Int32) (n : Nat) (T : List Int32) (s : Nat) (w w' : ex_W) : Prop := rBd z mo ma ym n s w w' ∨ ∃ p dm dt tl hn hm DR DW, p ≤ n ∧ ¬ tk_k u n p = 2 ∧ s = tk_s u n p ∧ rGd u z mo ma ym dm dt tl hn hm n p T DR DW w w'
section LP
variable {X : List Int32} {d n dr : Nat} {u : Nat → Nat} {B T : List Int32} {z : Nat → Int32} {mo ma ym dm dt tl hn hm se fp : Int32} {w w0 w2 w20 : ex_W} {c : ex_E}
theorem rNo.tail {s : Nat} {o1 : Option Value} {w1 : ex_W} (hB : rB u n T) (h : rNo u z mo ma ym n T s w w1) (h66 : ex_at w 66 = some (.inl (.int, T))) : ∃ w', Go X (d + 2) mt_97 (123, [some (.ref 59), o1], []) w1 (none, w') ∧ rBd z mo ma ym n s w w' := by
  rcases h with ⟨⟨c, h59, hb⟩, hF⟩ | ⟨p, dm, dt, tl, hn, hm, DR, DW, hp, k2, rfl, ⟨c, h59, hc⟩, hA, hF⟩
  · exact rl_tailb h59 hb ((hF 66 (by decide) (by decide) (by decide)).trans h66) hF
  · exact (rl_tail hB hp h59 hc hA hF).2 k2

/-- rung: the reference fails at p -/
theorem rr_rung {p : Nat} {DR DW : List Int32} {o2 : Option Value} (hk : tk_k u n p < 4) (ho : ¬ okF u n p 0 16) (h59 : ex_at w 59 = some c) (hc : rOk u z mo ma ym dm dt tl hn hm n p c) (hA : rA w T DR DW) (hl : DR.length = 96) : ∃ w', Go X (d + 4) mt_198 (2, [some (.ref 59), some (.int 1), o2], []) w (none, w') ∧ rBd z mo ma ym n (tk_s u n p) w w' := by
  have hc' := hc
  obtain ⟨va, wa, hva, rfl⟩ := hc'
  have es : (nI ((tk_k u n p + 1) % 4)).toInt = (((tk_k u n p + 1) % 4 : Nat) : Int) := nI_toInt (by omega)
  have hix : ex_ix 0 DR.length = true := by rw [hl]; decide
  have bad5 : rBad z mo ma ym n (tk_s u n p) (rC z mo ma ym dm dt tl hn hm (nI n) (nI (tk_e u n p)) (nI (tk_s u n p)) (nI ((tk_k u n p + 1) % 4)) va 5 (nI (tk_s u n p))) := ⟨_, _, _, _, _, _, _, _, _, 5, by decide, rfl⟩
  rcases rf_look (X := X) (d := d + 2) (lw := 0) (hg := 16) (l := 0) (h := 16) (by decide) (by decide) hk h59 hc with ⟨ho', g⟩ | ⟨-, c', hb, ⟨po, fr, so, va', fa, rfl⟩, g⟩
  · exact absurd ho' ho
  · have hfa : 0 < Int32.toInt fa := by
      obtain ⟨dm', dt', tl', hn', hm', po', fr', so', va'', fa', hfa, e⟩ := hb
      cases e
      exact hfa
    have g2 := rf_nextb (X := X) (d := d + 3) (vg_at_put h59) hb (vg_at_o rfl hA.1)
    have R : rBd z mo ma ym n (tk_s u n p) w (ex_put w 59 (rC z mo ma ym dm dt tl hn hm (nI n) po fr so va' fa (nI (tk_s u n p)))) := ⟨⟨_, vg_at_put h59, hb⟩, rF.rf.p59⟩
    by_cases k1 : tk_k u n p = 1
    · by_cases hlim : Int32.toInt (ex_gd DR (Int32.toNatClampNeg 0)) < 60
      · by_cases s2 : Int32.toInt so = 2
        · exact ⟨_, rrg_f1 h59 hA.2.1 (by omega) hix hlim g (vg_at_put h59) (by omega) g2 (vg_at_put h59) s2 (rrg_x1 (vg_at_put h59) (by omega)), R⟩
        · exact ⟨_, rrg_f0 h59 hA.2.1 (by omega) hix hlim g (vg_at_put h59) (by omega) g2 (vg_at_put h59) s2 (rrg_x0 (vg_at_put h59) (by omega)), R⟩
      · exact ⟨_, rrg_e h59 hA.2.1 (by omega) hix (by omega) (rf_lookb (vg_at_put h59) bad5) (rf_nextb (vg_at_put h59) bad5 (vg_at_o rfl hA.1)) (by omega) (rrg_x1 (vg_at_put h59) (by decide)), ⟨_, vg_at_put h59, bad5⟩, rF.rf.p59⟩
    · by_cases s2 : Int32.toInt so = 2
      · exact ⟨_, rrg_c1 h59 (by omega) g (vg_at_put h59) (by omega) g2 (vg_at_put h59) s2 (rrg_x1 (vg_at_put h59) (by omega)), R⟩
      · exact ⟨_, rrg_c0 h59 (by omega) g (vg_at_put h59) (by omega) g2 (vg_at_put h59) s2 (rrg_x0 (vg_at_put h59) (by omega)), R⟩
/-- rung: the reference takes one -/
theorem rs_rung {p dn : Nat} {DR DW : List Int32} {o2 : Option Value} (hB : rB u n T) (hp : p ≤ n) (ho : okF u n p 0 16) (h59 : ex_at w 59 = some c) (hc : rOk u z mo ma ym dm dt tl hn hm n p c) (hA : rA w T DR DW) (hl : DR.length = 96) (hK : DR.getD 0 0 = nI dn) (hlim : dn < 60) : ∃ c' w' m, rAt u z mo ma ym dm dt tl (mx (nI (tk_v u n p)) hn) hm n (tk_e u n p) c' ∧ ex_at w' 59 = some c' ∧ rA w' T (ex_put (ex_put DR (1 + dn) (nI (tk_v u n p))) 0 (nI (dn + 1))) DW ∧ rF w w' ∧ (m = 0 ∨ m = 1) ∧ (tk_k u n (tk_e u n p) = 1 → m = 1) ∧ (tk_k u n (tk_e u n p) < 4 → ¬ tk_k u n (tk_e u n p) = 1 → m = 0) ∧ ∀ q, Go X (d + 4) mt_198 (2, [some (.ref 59), some (.int m), some (.int (nI (tk_v u n p)))], []) w' q → Go X (d + 4) mt_198 (2, [some (.ref 59), some (.int 1), o2], []) w q := by
  have k1 := ho.1
  have hc' := hc
  obtain ⟨va, wa, hva, rfl⟩ := hc'
  have es : (nI ((tk_k u n p + 1) % 4)).toInt = 2 := by rw [k1]; decide
  have e0 : Int32.toNatClampNeg 0 = 0 := by decide
  have gK : ex_gd DR 0 = nI dn := by rw [ex_gd_eq]; exact hK
  have eK : (nI dn).toInt = (dn : Int) := nI_toInt (by omega)
  have eE : Int32.toNatClampNeg ((1 : Int32) + ex_gd DR (Int32.toNatClampNeg 0)) = 1 + dn := by
    rw [e0, gK, show (1 : Int32) + nI dn = nI (1 + dn) from nI_add 1 dn]
    exact nI_clamp (by omega)
  have hD2 : ex_put (ex_put DR (Int32.toNatClampNeg ((1 : Int32) + ex_gd DR (Int32.toNatClampNeg 0))) (nI (tk_v u n p))) (Int32.toNatClampNeg 0) (ex_gd (ex_put DR (Int32.toNatClampNeg ((1 : Int32) + ex_gd DR (Int32.toNatClampNeg 0))) (nI (tk_v u n p))) (Int32.toNatClampNeg 0) + 1) = ex_put (ex_put DR (1 + dn) (nI (tk_v u n p))) 0 (nI (dn + 1)) := by
    rw [eE, e0, ex_gd_eq, rl_w (by omega), hK, ← nI_succ]
  have i1 : ex_ix 0 DR.length = true := by rw [hl]; decide
  have i2 : ex_ix ((1 : Int32) + ex_gd DR (Int32.toNatClampNeg 0)) DR.length = true := by
    rw [e0, gK, show (1 : Int32) + nI dn = nI (1 + dn) from nI_add 1 dn, hl]
    exact fp_ix (by omega) (by decide)
  have i3 : ex_ix 0 (ex_put DR (Int32.toNatClampNeg ((1 : Int32) + ex_gd DR (Int32.toNatClampNeg 0))) (nI (tk_v u n p))).length = true := by rw [rl_len]; exact i1
  have b3 : Int32.toInt (ex_gd DR (Int32.toNatClampNeg 0)) < 60 := by rw [e0, gK]; omega
  rcases rf_look (X := X) (d := d + 2) (lw := 0) (hg := 16) (l := 0) (h := 16) (by decide) (by decide) (by omega) h59 hc with ⟨-, g⟩ | ⟨ho', -⟩
  · have hd2 : ∃ c', rAt u z mo ma ym dm dt tl (mx (nI (tk_v u n p)) hn) hm n (tk_e u n p) c' ∧ Go X (d + 3) mt_96 (ex_ent mt_96 [.ref 59]) (ex_put (ex_put w 59 (rC z mo ma ym dm dt tl (mx (nI (tk_v u n p)) hn) hm (nI n) (nI (tk_e u n p)) (nI (tk_s u n p)) (nI ((tk_k u n p + 1) % 4)) va 0 wa)) 64 (.inl (.int, ex_put (ex_put DR (1 + dn) (nI (tk_v u n p))) 0 (nI (dn + 1))))) (none, ex_put (ex_put (ex_put w 59 (rC z mo ma ym dm dt tl (mx (nI (tk_v u n p)) hn) hm (nI n) (nI (tk_e u n p)) (nI (tk_s u n p)) (nI ((tk_k u n p + 1) % 4)) va 0 wa)) 64 (.inl (.int, ex_put (ex_put DR (1 + dn) (nI (tk_v u n p))) 0 (nI (dn + 1))))) 59 c') :=
      rf_next (X := X) (d := d + 2) hB hp (by omega) (vg_at_o rfl (vg_at_put h59)) (show rOk u z mo ma ym dm dt tl (mx (nI (tk_v u n p)) hn) hm n p _ from ⟨va, wa, hva, rfl⟩) (vg_at_o rfl (vg_at_o rfl hA.1))
    obtain ⟨c', r1, g2⟩ := hd2
    have h59b : ex_at (ex_put (ex_put (ex_put w 59 (rC z mo ma ym dm dt tl (mx (nI (tk_v u n p)) hn) hm (nI n) (nI (tk_e u n p)) (nI (tk_s u n p)) (nI ((tk_k u n p + 1) % 4)) va 0 wa)) 64 (.inl (.int, ex_put (ex_put DR (1 + dn) (nI (tk_v u n p))) 0 (nI (dn + 1))))) 59 c') 59 = some c' := vg_at_put (vg_at_o rfl (vg_at_put h59))
    obtain ⟨dm1, dt1, tl1, hn1, hm1, po1, fr1, so1, va1, fa1, wa1, hc1, hcase, -, -⟩ := r1.ex
    have es1 : tk_k u n (tk_e u n p) < 4 → so1.toInt = (((tk_k u n (tk_e u n p) + 1) % 4 : Nat) : Int) := by
      intro h4
      rcases hcase with ⟨-, -, -, -, -, -, -, e⟩ | ⟨h5, -⟩
      · rw [e]; exact nI_toInt (by omega)
      · omega
    have A2 : rA (ex_put (ex_put (ex_put w 59 (rC z mo ma ym dm dt tl (mx (nI (tk_v u n p)) hn) hm (nI n) (nI (tk_e u n p)) (nI (tk_s u n p)) (nI ((tk_k u n p + 1) % 4)) va 0 wa)) 64 (.inl (.int, ex_put (ex_put DR (1 + dn) (nI (tk_v u n p))) 0 (nI (dn + 1))))) 59 c') T (ex_put (ex_put DR (1 + dn) (nI (tk_v u n p))) 0 (nI (dn + 1))) DW := ((hA.p59).p64 _).p59
    have F2 : rF w (ex_put (ex_put (ex_put w 59 (rC z mo ma ym dm dt tl (mx (nI (tk_v u n p)) hn) hm (nI n) (nI (tk_e u n p)) (nI (tk_s u n p)) (nI ((tk_k u n p + 1) % 4)) va 0 wa)) 64 (.inl (.int, ex_put (ex_put DR (1 + dn) (nI (tk_v u n p))) 0 (nI (dn + 1))))) 59 c') := ((rF.rf.p59).p64).p59
    have h59d : ex_at (ex_put (ex_put (ex_put w 59 (rC z mo ma ym dm dt tl (mx (nI (tk_v u n p)) hn) hm (nI n) (nI (tk_e u n p)) (nI (tk_s u n p)) (nI ((tk_k u n p + 1) % 4)) va 0 wa)) 64 (.inl (.int, ex_put (ex_put DR (1 + dn) (nI (tk_v u n p))) 0 (nI (dn + 1))))) 59 c') 59 = some (rC z mo ma ym dm1 dt1 tl1 hn1 hm1 (nI n) po1 fr1 so1 va1 fa1 wa1) := by rw [← hc1]; exact h59b
    by_cases s2 : so1.toInt = 2
    · refine ⟨c', _, 1, r1, h59b, A2, F2, Or.inr rfl, fun _ => rfl, fun h4 h5 => by have := es1 h4; omega, fun q kk => ?_⟩
      by_cases hh : (nI (tk_v u n p)).toInt > hn.toInt
      · have em : mx (nI (tk_v u n p)) hn = nI (tk_v u n p) := if_pos hh
        rw [em] at g2 h59d kk
        exact rrg_dh1 h59 hA.2.1 es i1 b3 g hh i1 i2 i3 i3 (by rw [hD2]; exact g2) h59d s2 kk
      · have em : mx (nI (tk_v u n p)) hn = hn := if_neg hh
        rw [em] at g2 h59d kk
        exact rrg_dl1 h59 hA.2.1 es i1 b3 g (by omega) i1 i2 i3 i3 (by rw [hD2]; exact g2) h59d s2 kk
    · refine ⟨c', _, 0, r1, h59b, A2, F2, Or.inl rfl, fun h5 => by have := es1 (by omega); omega, fun _ _ => rfl, fun q kk => ?_⟩
      by_cases hh : (nI (tk_v u n p)).toInt > hn.toInt
      · have em : mx (nI (tk_v u n p)) hn = nI (tk_v u n p) := if_pos hh
        rw [em] at g2 h59d kk
        exact rrg_dh0 h59 hA.2.1 es i1 b3 g hh i1 i2 i3 i3 (by rw [hD2]; exact g2) h59d s2 kk
      · have em : mx (nI (tk_v u n p)) hn = hn := if_neg hh
        rw [em] at g2 h59d kk
        exact rrg_dl0 h59 hA.2.1 es i1 b3 g (by omega) i1 i2 i3 i3 (by rw [hD2]; exact g2) h59d s2 kk
  · exact absurd ho ho'
theorem lp_rung (hd : dr + 6 < 15) (hB : cB u n B) (hR : rB u n T) : ∀ (f p j : Nat) (w w2 : ex_W) (tf : Nat → Int32) (ta : Nat → List Int32) (hn hm : Int32) (DR DW : List Int32) (dn an wn : Nat) (o2 : Option Value) (c : ex_E), n - p ≤ f → p ≤ n → okF u n p 0 16 → j ≤ dn → ex_at w 15 = some (cT dr n 0 fp se (tk_e u n p) (nI 1) (nI (tk_s u n p)) (nI (tk_v u n p))) → cA w dr B tf ta → cF dr w0 w → ex_at w2 59 = some c → rOk u z mo ma ym dm dt tl hn hm n p c → rA w2 T DR DW → rF w20 w2 → Rl tf ta dm dt hn hm DR DW dn an wn → (∃ s w' w2', Go X (d + 5) mt_188 (10, [some (.ref 15), some (.int 1), some (.int (nI j))], []) w (some (.int 0), w') ∧ cBd dr n s w0 w' ∧ Go X (d + 4) mt_198 (2, [some (.ref 59), some (.int 1), o2], []) w2 (none, w2') ∧ rNo u z mo ma ym n T s w20 w2') ∨ (∃ p' w' w2' tf' ta' hn' hm' DR' DW' dn' an' wn', p ≤ p' ∧ p' ≤ n ∧ tk_k u n p' = 2 ∧ Go X (d + 5) mt_188 (10, [some (.ref 15), some (.int 1), some (.int (nI j))], []) w (some (.int 1), w') ∧ cGd dr n B se (tk_e u n p') tf' ta' w0 w' ∧ Go X (d + 4) mt_198 (2, [some (.ref 59), some (.int 1), o2], []) w2 (none, w2') ∧ rGd u z mo ma ym dm dt tl hn' hm' n p' T DR' DW' w20 w2' ∧ Rl tf' ta' dm dt hn' hm' DR' DW' dn' an' wn') := by
  intro f
  induction f with
  | zero =>
    intro p j w w2 tf ta hn hm DR DW dn an wn o2 c hf hp ho
    have h1 := tk_e_le u hp (by have := ho.1; omega)
    have h2 := tk_e_gt u (L := n) (p := p) (by have := ho.1; omega)
    omega
  | succ f ih =>
    intro p j w w2 tf ta hn hm DR DW dn an wn o2 c hf hp ho hj h15 hA hF h59 hc hA2 hF2 hRl
    obtain ⟨⟨l0, l1, l2, l3, l4, l5, l6, l7⟩, hS, -⟩ := id hRl
    obtain ⟨s1, s2, s3, s4, s5, s6, s7, s8, s9, s10, s11, s12, s13, s14, s15, s16, s17, s18⟩ := hS
    have hK : DR.getD 0 0 = nI dn := s7
    have hT : tf 5 = nI dn := s6
    have eK : (nI dn).toInt = (dn : Int) := nI_toInt (by omega)
    have ej : (nI j).toInt = (j : Int) := nI_toInt (by omega)
    have h1 := tk_e_le u hp (by have := ho.1; omega)
    have h2 := tk_e_gt u (L := n) (p := p) (by have := ho.1; omega)
    by_cases hlim : dn < 60
    · -- one more
      have ga := tad_2 (X := X) (d := d + 4) (x := nI (tk_v u n p)) hA.2.1 (hA.2.2 2 (by decide)) (by rw [hT]; omega) (by rw [hT, l2]; exact fp_ix (by omega) (by decide)) (sh_beq (by omega)) (sh_beq (by omega))
      rw [hT, nI_clamp (by omega), ← nI_succ] at ga
      have k15 := vg_at_o (x := dT dr (up tf 5 (nI (dn + 1)))) (sh_beq (show dr ≠ 15 by omega)) (vg_at_o (x := .inl (.int, ex_put (ta 2) dn (nI (tk_v u n p)))) (sh_beq (show dr + 1 + 2 ≠ 15 by omega)) h15)
      have kA := (hA.pa hd (k := 2) (by decide) (ex_put (ta 2) dn (nI (tk_v u n p)))).pt hd (up tf 5 (nI (dn + 1)))
      have kF := (hF.pt (k := dr + 1 + 2) (c := .inl (.int, ex_put (ta 2) dn (nI (tk_v u n p)))) (by omega) (by omega)).pt (k := dr) (c := dT dr (up tf 5 (nI (dn + 1)))) (Nat.le_refl _) (by omega)
      have hRl2 := hRl.day (v := tk_v u n p) ho.2.2 hlim
      obtain ⟨c', w2', m, r1, i59, iA, iF, hm01, hm1, hm0, go⟩ := rs_rung (X := X) (d := d) (o2 := o2) hR hp ho h59 hc hA2 l6 hK hlim
      rcases cf_more (X := X) (d := d + 2) (lw := 0) (hg := 16) (l := 0) (h := 16) (by decide) (by decide) hB h1 k15 kA.1 with ⟨k2, N', g⟩ | ⟨ho2, g⟩ | ⟨k2, ho2, cb, hcb, g⟩
      · right
        obtain rfl := hm0 (by omega) (by omega)
        rcases r1 with ⟨k4, hok⟩ | ⟨k4, -⟩
        · have hok' := hok
          obtain ⟨va', wa', hva', hc''⟩ := hok'
          refine ⟨tk_e u n p, _, _, _, _, _, _, _, _, _, _, _, by omega, h1, k2, trg_d_0 h15 hA.2.1 (by omega) ga k15 g (trg_b (vg_at_put k15) (by rw [← nI_succ, nI_toInt (by omega)]; omega) (trg_e1_0 (vg_at_put k15))), ⟨⟨fp, _, _, N', vg_at_put k15⟩, kA.p15 hd, kF.p15⟩, go _ (rrg_y (i59.trans (congrArg some hc''))), ⟨⟨c', i59, Or.inl ⟨k4, hok⟩⟩, iA, hF2.tr iF⟩, hRl2⟩
        · omega
      · obtain rfl := hm1 ho2.1
        have r2 : rOk u z mo ma ym dm dt tl (mx (nI (tk_v u n p)) hn) hm n (tk_e u n p) c' := by
          rcases r1 with ⟨-, hok⟩ | ⟨k4, -⟩
          · exact hok
          · have := ho2.1
            omega
        rcases ih (tk_e u n p) (j + 1) _ w2' _ _ _ _ _ _ _ _ _ (some (.int (nI (tk_v u n p)))) c' (by omega) h1 ho2 (by omega) (vg_at_put k15) (kA.p15 hd) kF.p15 i59 r2 iA (hF2.tr iF) hRl2 with ⟨s, w', w3', q1, q2, q3, q4⟩ | ⟨p', w', w3', tf', ta', hn', hm', DR', DW', dn', an', wn', q0, q1, q2, q3, q4, q5, q6, q7⟩
        · exact Or.inl ⟨s, w', w3', trg_d_1 h15 hA.2.1 (by omega) ga k15 g (by rw [← nI_succ]; exact q1), q2, go _ q3, q4⟩
        · exact Or.inr ⟨p', w', w3', tf', ta', hn', hm', DR', DW', dn', an', wn', by omega, q1, q2, trg_d_1 h15 hA.2.1 (by omega) ga k15 g (by rw [← nI_succ]; exact q3), q4, go _ q5, q6, q7⟩
      · left
        have hcb' := hcb
        obtain ⟨fa, se', P', K', S', N', hfa, rfl⟩ := hcb'
        have gc := trg_d_0 (i := nI j) h15 hA.2.1 (by omega) ga k15 g (trg_b (vg_at_put k15) (by rw [← nI_succ, nI_toInt (by omega)]; omega) (trg_e2_0 (vg_at_put k15) hfa))
        have CB : cBd dr n (tk_s u n (tk_e u n p)) w0 _ := ⟨⟨_, vg_at_put k15, hcb⟩, kF.p15⟩
        rcases r1 with ⟨k4, hok⟩ | ⟨k4, hb⟩
        · by_cases k1 : tk_k u n (tk_e u n p) = 1
          · obtain rfl := hm1 k1
            obtain ⟨w3, g3, h3⟩ := rr_rung (X := X) (d := d) (o2 := some (.int (nI (tk_v u n p)))) k4 ho2 i59 hok iA (by rw [rl_len, rl_len]; exact l6)
            exact ⟨_, _, w3, gc, CB, go _ g3, Or.inl (h3.tr (hF2.tr iF))⟩
          · obtain rfl := hm0 k4 k1
            have hok' := hok
            obtain ⟨va', wa', hva', hc''⟩ := hok'
            exact ⟨_, _, w2', gc, CB, go _ (rrg_y (i59.trans (congrArg some hc''))), Or.inr ⟨tk_e u n p, _, _, _, _, _, _, _, h1, k2, rfl, ⟨c', i59, Or.inl ⟨k4, hok⟩⟩, iA, hF2.tr iF⟩⟩
        · have hb' := hb
          obtain ⟨dm', dt', tl', hn', hm', po, fr, so, va', fa', hfa', hc''⟩ := hb'
          have i59' := i59
          rw [hc''] at i59'
          have R : rNo u z mo ma ym n T (tk_s u n (tk_e u n p)) w20 w2' := Or.inl ⟨⟨c', i59, hb⟩, hF2.tr iF⟩
          rcases hm01 with rfl | rfl
          · exact ⟨_, _, w2', gc, CB, go _ (rrg_x0 i59' (by omega)), R⟩
          · exact ⟨_, _, w2', gc, CB, go _ (rrg_x1 i59' (by omega)), R⟩
    · left
      have hc' := hc
      obtain ⟨va, wa, hva, rfl⟩ := hc'
      have k1 := ho.1
      have es : (nI ((tk_k u n p + 1) % 4)).toInt = 2 := by rw [k1]; decide
      have bad5 : rBad z mo ma ym n (tk_s u n p) (rC z mo ma ym dm dt tl hn hm (nI n) (nI (tk_e u n p)) (nI (tk_s u n p)) (nI ((tk_k u n p + 1) % 4)) va 5 (nI (tk_s u n p))) := ⟨_, _, _, _, _, _, _, _, _, 5, by decide, rfl⟩
      have b3 : Int32.toInt (ex_gd DR (Int32.toNatClampNeg 0)) ≥ 60 := by
        rw [show Int32.toNatClampNeg 0 = 0 by decide, ex_gd_eq, hK]
        omega
      refine ⟨tk_s u n p, _, _, trg_c h15 hA.2.1 (by omega) (tad_1 hA.2.1 (by rw [hT]; omega)) (sh_beq (by omega)), ⟨⟨_, vg_at_put h15, 5, _, _, _, _, _, by decide, rfl⟩, hF.p15⟩, rrg_e h59 hA2.2.1 es (by rw [l6]; decide) b3 (rf_lookb (vg_at_put h59) bad5) (rf_nextb (vg_at_put h59) bad5 (vg_at_o rfl hA2.1)) es (rrg_x1 (vg_at_put h59) (by decide)), Or.inl ⟨⟨_, vg_at_put h59, bad5⟩, hF2.p59⟩⟩
/-- ask: the reference fails at p -/
theorem rr_ask {p : Nat} {DR DW : List Int32} {o2 : Option Value} (hk : tk_k u n p < 4) (ho : ¬ okF u n p 0 3) (h59 : ex_at w 59 = some c) (hc : rOk u z mo ma ym dm dt tl hn hm n p c) (hA : rA w T DR DW) (hl : DR.length = 96) : ∃ w', Go X (d + 4) mt_199 (2, [some (.ref 59), some (.int 1), o2], []) w (none, w') ∧ rBd z mo ma ym n (tk_s u n p) w w' := by
  have hc' := hc
  obtain ⟨va, wa, hva, rfl⟩ := hc'
  have es : (nI ((tk_k u n p + 1) % 4)).toInt = (((tk_k u n p + 1) % 4 : Nat) : Int) := nI_toInt (by omega)
  have hix : ex_ix 81 DR.length = true := by rw [hl]; decide
  have bad5 : rBad z mo ma ym n (tk_s u n p) (rC z mo ma ym dm dt tl hn hm (nI n) (nI (tk_e u n p)) (nI (tk_s u n p)) (nI ((tk_k u n p + 1) % 4)) va 5 (nI (tk_s u n p))) := ⟨_, _, _, _, _, _, _, _, _, 5, by decide, rfl⟩
  rcases rf_look (X := X) (d := d + 2) (lw := 0) (hg := 3) (l := 0) (h := 3) (by decide) (by decide) hk h59 hc with ⟨ho', g⟩ | ⟨-, c', hb, ⟨po, fr, so, va', fa, rfl⟩, g⟩
  · exact absurd ho' ho
  · have hfa : 0 < Int32.toInt fa := by
      obtain ⟨dm', dt', tl', hn', hm', po', fr', so', va'', fa', hfa, e⟩ := hb
      cases e
      exact hfa
    have g2 := rf_nextb (X := X) (d := d + 3) (vg_at_put h59) hb (vg_at_o rfl hA.1)
    have R : rBd z mo ma ym n (tk_s u n p) w (ex_put w 59 (rC z mo ma ym dm dt tl hn hm (nI n) po fr so va' fa (nI (tk_s u n p)))) := ⟨⟨_, vg_at_put h59, hb⟩, rF.rf.p59⟩
    by_cases k1 : tk_k u n p = 1
    · by_cases hlim : Int32.toInt (ex_gd DR (Int32.toNatClampNeg 81)) < 5
      · by_cases s2 : Int32.toInt so = 2
        · exact ⟨_, rra_f1 h59 hA.2.1 (by omega) hix hlim g (vg_at_put h59) (by omega) g2 (vg_at_put h59) s2 (rra_x1 (vg_at_put h59) (by omega)), R⟩
        · exact ⟨_, rra_f0 h59 hA.2.1 (by omega) hix hlim g (vg_at_put h59) (by omega) g2 (vg_at_put h59) s2 (rra_x0 (vg_at_put h59) (by omega)), R⟩
      · exact ⟨_, rra_e h59 hA.2.1 (by omega) hix (by omega) (rf_lookb (vg_at_put h59) bad5) (rf_nextb (vg_at_put h59) bad5 (vg_at_o rfl hA.1)) (by omega) (rra_x1 (vg_at_put h59) (by decide)), ⟨_, vg_at_put h59, bad5⟩, rF.rf.p59⟩
    · by_cases s2 : Int32.toInt so = 2
      · exact ⟨_, rra_c1 h59 (by omega) g (vg_at_put h59) (by omega) g2 (vg_at_put h59) s2 (rra_x1 (vg_at_put h59) (by omega)), R⟩
      · exact ⟨_, rra_c0 h59 (by omega) g (vg_at_put h59) (by omega) g2 (vg_at_put h59) s2 (rra_x0 (vg_at_put h59) (by omega)), R⟩
/-- ask: the reference takes one -/
theorem rs_ask {p an : Nat} {DR DW : List Int32} {o2 : Option Value} (hB : rB u n T) (hp : p ≤ n) (ho : okF u n p 0 3) (h59 : ex_at w 59 = some c) (hc : rOk u z mo ma ym dm dt tl hn hm n p c) (hA : rA w T DR DW) (hl : DR.length = 96) (hK : DR.getD 81 0 = nI an) (hlim : an < 5) : ∃ c' w' m, rAt u z mo ma ym dm dt tl hn (mx (nI (tk_v u n p)) hm) n (tk_e u n p) c' ∧ ex_at w' 59 = some c' ∧ rA w' T (ex_put (ex_put DR (82 + an) (nI (tk_v u n p))) 81 (nI (an + 1))) DW ∧ rF w w' ∧ (m = 0 ∨ m = 1) ∧ (tk_k u n (tk_e u n p) = 1 → m = 1) ∧ (tk_k u n (tk_e u n p) < 4 → ¬ tk_k u n (tk_e u n p) = 1 → m = 0) ∧ ∀ q, Go X (d + 4) mt_199 (2, [some (.ref 59), some (.int m), some (.int (nI (tk_v u n p)))], []) w' q → Go X (d + 4) mt_199 (2, [some (.ref 59), some (.int 1), o2], []) w q := by
  have k1 := ho.1
  have hc' := hc
  obtain ⟨va, wa, hva, rfl⟩ := hc'
  have es : (nI ((tk_k u n p + 1) % 4)).toInt = 2 := by rw [k1]; decide
  have e0 : Int32.toNatClampNeg 81 = 81 := by decide
  have gK : ex_gd DR 81 = nI an := by rw [ex_gd_eq]; exact hK
  have eK : (nI an).toInt = (an : Int) := nI_toInt (by omega)
  have eE : Int32.toNatClampNeg ((82 : Int32) + ex_gd DR (Int32.toNatClampNeg 81)) = 82 + an := by
    rw [e0, gK, show (82 : Int32) + nI an = nI (82 + an) from nI_add 82 an]
    exact nI_clamp (by omega)
  have hD2 : ex_put (ex_put DR (Int32.toNatClampNeg ((82 : Int32) + ex_gd DR (Int32.toNatClampNeg 81))) (nI (tk_v u n p))) (Int32.toNatClampNeg 81) (ex_gd (ex_put DR (Int32.toNatClampNeg ((82 : Int32) + ex_gd DR (Int32.toNatClampNeg 81))) (nI (tk_v u n p))) (Int32.toNatClampNeg 81) + 1) = ex_put (ex_put DR (82 + an) (nI (tk_v u n p))) 81 (nI (an + 1)) := by
    rw [eE, e0, ex_gd_eq, rl_w (by omega), hK, ← nI_succ]
  have i1 : ex_ix 81 DR.length = true := by rw [hl]; decide
  have i2 : ex_ix ((82 : Int32) + ex_gd DR (Int32.toNatClampNeg 81)) DR.length = true := by
    rw [e0, gK, show (82 : Int32) + nI an = nI (82 + an) from nI_add 82 an, hl]
    exact fp_ix (by omega) (by decide)
  have i3 : ex_ix 81 (ex_put DR (Int32.toNatClampNeg ((82 : Int32) + ex_gd DR (Int32.toNatClampNeg 81))) (nI (tk_v u n p))).length = true := by rw [rl_len]; exact i1
  have b3 : Int32.toInt (ex_gd DR (Int32.toNatClampNeg 81)) < 5 := by rw [e0, gK]; omega
  rcases rf_look (X := X) (d := d + 2) (lw := 0) (hg := 3) (l := 0) (h := 3) (by decide) (by decide) (by omega) h59 hc with ⟨-, g⟩ | ⟨ho', -⟩
  · have hd2 : ∃ c', rAt u z mo ma ym dm dt tl hn (mx (nI (tk_v u n p)) hm) n (tk_e u n p) c' ∧ Go X (d + 3) mt_96 (ex_ent mt_96 [.ref 59]) (ex_put (ex_put w 59 (rC z mo ma ym dm dt tl hn (mx (nI (tk_v u n p)) hm) (nI n) (nI (tk_e u n p)) (nI (tk_s u n p)) (nI ((tk_k u n p + 1) % 4)) va 0 wa)) 64 (.inl (.int, ex_put (ex_put DR (82 + an) (nI (tk_v u n p))) 81 (nI (an + 1))))) (none, ex_put (ex_put (ex_put w 59 (rC z mo ma ym dm dt tl hn (mx (nI (tk_v u n p)) hm) (nI n) (nI (tk_e u n p)) (nI (tk_s u n p)) (nI ((tk_k u n p + 1) % 4)) va 0 wa)) 64 (.inl (.int, ex_put (ex_put DR (82 + an) (nI (tk_v u n p))) 81 (nI (an + 1))))) 59 c') :=
      rf_next (X := X) (d := d + 2) hB hp (by omega) (vg_at_o rfl (vg_at_put h59)) (show rOk u z mo ma ym dm dt tl hn (mx (nI (tk_v u n p)) hm) n p _ from ⟨va, wa, hva, rfl⟩) (vg_at_o rfl (vg_at_o rfl hA.1))
    obtain ⟨c', r1, g2⟩ := hd2
    have h59b : ex_at (ex_put (ex_put (ex_put w 59 (rC z mo ma ym dm dt tl hn (mx (nI (tk_v u n p)) hm) (nI n) (nI (tk_e u n p)) (nI (tk_s u n p)) (nI ((tk_k u n p + 1) % 4)) va 0 wa)) 64 (.inl (.int, ex_put (ex_put DR (82 + an) (nI (tk_v u n p))) 81 (nI (an + 1))))) 59 c') 59 = some c' := vg_at_put (vg_at_o rfl (vg_at_put h59))
    obtain ⟨dm1, dt1, tl1, hn1, hm1, po1, fr1, so1, va1, fa1, wa1, hc1, hcase, -, -⟩ := r1.ex
    have es1 : tk_k u n (tk_e u n p) < 4 → so1.toInt = (((tk_k u n (tk_e u n p) + 1) % 4 : Nat) : Int) := by
      intro h4
      rcases hcase with ⟨-, -, -, -, -, -, -, e⟩ | ⟨h5, -⟩
      · rw [e]; exact nI_toInt (by omega)
      · omega
    have A2 : rA (ex_put (ex_put (ex_put w 59 (rC z mo ma ym dm dt tl hn (mx (nI (tk_v u n p)) hm) (nI n) (nI (tk_e u n p)) (nI (tk_s u n p)) (nI ((tk_k u n p + 1) % 4)) va 0 wa)) 64 (.inl (.int, ex_put (ex_put DR (82 + an) (nI (tk_v u n p))) 81 (nI (an + 1))))) 59 c') T (ex_put (ex_put DR (82 + an) (nI (tk_v u n p))) 81 (nI (an + 1))) DW := ((hA.p59).p64 _).p59
    have F2 : rF w (ex_put (ex_put (ex_put w 59 (rC z mo ma ym dm dt tl hn (mx (nI (tk_v u n p)) hm) (nI n) (nI (tk_e u n p)) (nI (tk_s u n p)) (nI ((tk_k u n p + 1) % 4)) va 0 wa)) 64 (.inl (.int, ex_put (ex_put DR (82 + an) (nI (tk_v u n p))) 81 (nI (an + 1))))) 59 c') := ((rF.rf.p59).p64).p59
    have h59d : ex_at (ex_put (ex_put (ex_put w 59 (rC z mo ma ym dm dt tl hn (mx (nI (tk_v u n p)) hm) (nI n) (nI (tk_e u n p)) (nI (tk_s u n p)) (nI ((tk_k u n p + 1) % 4)) va 0 wa)) 64 (.inl (.int, ex_put (ex_put DR (82 + an) (nI (tk_v u n p))) 81 (nI (an + 1))))) 59 c') 59 = some (rC z mo ma ym dm1 dt1 tl1 hn1 hm1 (nI n) po1 fr1 so1 va1 fa1 wa1) := by rw [← hc1]; exact h59b
    by_cases s2 : so1.toInt = 2
    · refine ⟨c', _, 1, r1, h59b, A2, F2, Or.inr rfl, fun _ => rfl, fun h4 h5 => by have := es1 h4; omega, fun q kk => ?_⟩
      by_cases hh : (nI (tk_v u n p)).toInt > hm.toInt
      · have em : mx (nI (tk_v u n p)) hm = nI (tk_v u n p) := if_pos hh
        rw [em] at g2 h59d kk
        exact rra_dh1 h59 hA.2.1 es i1 b3 g hh i1 i2 i3 i3 (by rw [hD2]; exact g2) h59d s2 kk
      · have em : mx (nI (tk_v u n p)) hm = hm := if_neg hh
        rw [em] at g2 h59d kk
        exact rra_dl1 h59 hA.2.1 es i1 b3 g (by omega) i1 i2 i3 i3 (by rw [hD2]; exact g2) h59d s2 kk
    · refine ⟨c', _, 0, r1, h59b, A2, F2, Or.inl rfl, fun h5 => by have := es1 (by omega); omega, fun _ _ => rfl, fun q kk => ?_⟩
      by_cases hh : (nI (tk_v u n p)).toInt > hm.toInt
      · have em : mx (nI (tk_v u n p)) hm = nI (tk_v u n p) := if_pos hh
        rw [em] at g2 h59d kk
        exact rra_dh0 h59 hA.2.1 es i1 b3 g hh i1 i2 i3 i3 (by rw [hD2]; exact g2) h59d s2 kk
      · have em : mx (nI (tk_v u n p)) hm = hm := if_neg hh
        rw [em] at g2 h59d kk
        exact rra_dl0 h59 hA.2.1 es i1 b3 g (by omega) i1 i2 i3 i3 (by rw [hD2]; exact g2) h59d s2 kk
  · exact absurd ho ho'
theorem lp_ask (hd : dr + 6 < 15) (hB : cB u n B) (hR : rB u n T) : ∀ (f p j : Nat) (w w2 : ex_W) (tf : Nat → Int32) (ta : Nat → List Int32) (hn hm : Int32) (DR DW : List Int32) (dn an wn : Nat) (o2 : Option Value) (c : ex_E), n - p ≤ f → p ≤ n → okF u n p 0 3 → j ≤ an → ex_at w 15 = some (cT dr n 0 fp se (tk_e u n p) (nI 1) (nI (tk_s u n p)) (nI (tk_v u n p))) → cA w dr B tf ta → cF dr w0 w → ex_at w2 59 = some c → rOk u z mo ma ym dm dt tl hn hm n p c → rA w2 T DR DW → rF w20 w2 → Rl tf ta dm dt hn hm DR DW dn an wn → (∃ s w' w2', Go X (d + 5) mt_189 (9, [some (.ref 15), some (.int 1), some (.int (nI j))], []) w (some (.int 0), w') ∧ cBd dr n s w0 w' ∧ Go X (d + 4) mt_199 (2, [some (.ref 59), some (.int 1), o2], []) w2 (none, w2') ∧ rNo u z mo ma ym n T s w20 w2') ∨ (∃ p' w' w2' tf' ta' hn' hm' DR' DW' dn' an' wn', p ≤ p' ∧ p' ≤ n ∧ tk_k u n p' = 2 ∧ Go X (d + 5) mt_189 (9, [some (.ref 15), some (.int 1), some (.int (nI j))], []) w (some (.int 1), w') ∧ cGd dr n B se (tk_e u n p') tf' ta' w0 w' ∧ Go X (d + 4) mt_199 (2, [some (.ref 59), some (.int 1), o2], []) w2 (none, w2') ∧ rGd u z mo ma ym dm dt tl hn' hm' n p' T DR' DW' w20 w2' ∧ Rl tf' ta' dm dt hn' hm' DR' DW' dn' an' wn') := by
  intro f
  induction f with
  | zero =>
    intro p j w w2 tf ta hn hm DR DW dn an wn o2 c hf hp ho
    have h1 := tk_e_le u hp (by have := ho.1; omega)
    have h2 := tk_e_gt u (L := n) (p := p) (by have := ho.1; omega)
    omega
  | succ f ih =>
    intro p j w w2 tf ta hn hm DR DW dn an wn o2 c hf hp ho hj h15 hA hF h59 hc hA2 hF2 hRl
    obtain ⟨⟨l0, l1, l2, l3, l4, l5, l6, l7⟩, hS, -⟩ := id hRl
    obtain ⟨s1, s2, s3, s4, s5, s6, s7, s8, s9, s10, s11, s12, s13, s14, s15, s16, s17, s18⟩ := hS
    have hK : DR.getD 81 0 = nI an := s9
    have hT : tf 6 = nI an := s8
    have eK : (nI an).toInt = (an : Int) := nI_toInt (by omega)
    have ej : (nI j).toInt = (j : Int) := nI_toInt (by omega)
    have h1 := tk_e_le u hp (by have := ho.1; omega)
    have h2 := tk_e_gt u (L := n) (p := p) (by have := ho.1; omega)
    by_cases hlim : an < 5
    · -- one more
      have ga := taa_2 (X := X) (d := d + 4) (x := nI (tk_v u n p)) hA.2.1 (hA.2.2 3 (by decide)) (by rw [hT]; omega) (by rw [hT, l3]; exact fp_ix (by omega) (by decide)) (sh_beq (by omega)) (sh_beq (by omega))
      rw [hT, nI_clamp (by omega), ← nI_succ] at ga
      have k15 := vg_at_o (x := dT dr (up tf 6 (nI (an + 1)))) (sh_beq (show dr ≠ 15 by omega)) (vg_at_o (x := .inl (.int, ex_put (ta 3) an (nI (tk_v u n p)))) (sh_beq (show dr + 1 + 3 ≠ 15 by omega)) h15)
      have kA := (hA.pa hd (k := 3) (by decide) (ex_put (ta 3) an (nI (tk_v u n p)))).pt hd (up tf 6 (nI (an + 1)))
      have kF := (hF.pt (k := dr + 1 + 3) (c := .inl (.int, ex_put (ta 3) an (nI (tk_v u n p)))) (by omega) (by omega)).pt (k := dr) (c := dT dr (up tf 6 (nI (an + 1)))) (Nat.le_refl _) (by omega)
      have hRl2 := hRl.ask (v := tk_v u n p) ho.2.2 hlim
      obtain ⟨c', w2', m, r1, i59, iA, iF, hm01, hm1, hm0, go⟩ := rs_ask (X := X) (d := d) (o2 := o2) hR hp ho h59 hc hA2 l6 hK hlim
      rcases cf_more (X := X) (d := d + 2) (lw := 0) (hg := 3) (l := 0) (h := 3) (by decide) (by decide) hB h1 k15 kA.1 with ⟨k2, N', g⟩ | ⟨ho2, g⟩ | ⟨k2, ho2, cb, hcb, g⟩
      · right
        obtain rfl := hm0 (by omega) (by omega)
        rcases r1 with ⟨k4, hok⟩ | ⟨k4, -⟩
        · have hok' := hok
          obtain ⟨va', wa', hva', hc''⟩ := hok'
          refine ⟨tk_e u n p, _, _, _, _, _, _, _, _, _, _, _, by omega, h1, k2, tak_d_0 h15 hA.2.1 (by omega) ga k15 g (tak_b (vg_at_put k15) (by rw [← nI_succ, nI_toInt (by omega)]; omega) (tak_e1_0 (vg_at_put k15))), ⟨⟨fp, _, _, N', vg_at_put k15⟩, kA.p15 hd, kF.p15⟩, go _ (rra_y (i59.trans (congrArg some hc''))), ⟨⟨c', i59, Or.inl ⟨k4, hok⟩⟩, iA, hF2.tr iF⟩, hRl2⟩
        · omega
      · obtain rfl := hm1 ho2.1
        have r2 : rOk u z mo ma ym dm dt tl hn (mx (nI (tk_v u n p)) hm) n (tk_e u n p) c' := by
          rcases r1 with ⟨-, hok⟩ | ⟨k4, -⟩
          · exact hok
          · have := ho2.1
            omega
        rcases ih (tk_e u n p) (j + 1) _ w2' _ _ _ _ _ _ _ _ _ (some (.int (nI (tk_v u n p)))) c' (by omega) h1 ho2 (by omega) (vg_at_put k15) (kA.p15 hd) kF.p15 i59 r2 iA (hF2.tr iF) hRl2 with ⟨s, w', w3', q1, q2, q3, q4⟩ | ⟨p', w', w3', tf', ta', hn', hm', DR', DW', dn', an', wn', q0, q1, q2, q3, q4, q5, q6, q7⟩
        · exact Or.inl ⟨s, w', w3', tak_d_1 h15 hA.2.1 (by omega) ga k15 g (by rw [← nI_succ]; exact q1), q2, go _ q3, q4⟩
        · exact Or.inr ⟨p', w', w3', tf', ta', hn', hm', DR', DW', dn', an', wn', by omega, q1, q2, tak_d_1 h15 hA.2.1 (by omega) ga k15 g (by rw [← nI_succ]; exact q3), q4, go _ q5, q6, q7⟩
      · left
        have hcb' := hcb
        obtain ⟨fa, se', P', K', S', N', hfa, rfl⟩ := hcb'
        have gc := tak_d_0 (i := nI j) h15 hA.2.1 (by omega) ga k15 g (tak_b (vg_at_put k15) (by rw [← nI_succ, nI_toInt (by omega)]; omega) (tak_e2_0 (vg_at_put k15) hfa))
        have CB : cBd dr n (tk_s u n (tk_e u n p)) w0 _ := ⟨⟨_, vg_at_put k15, hcb⟩, kF.p15⟩
        rcases r1 with ⟨k4, hok⟩ | ⟨k4, hb⟩
        · by_cases k1 : tk_k u n (tk_e u n p) = 1
          · obtain rfl := hm1 k1
            obtain ⟨w3, g3, h3⟩ := rr_ask (X := X) (d := d) (o2 := some (.int (nI (tk_v u n p)))) k4 ho2 i59 hok iA (by rw [rl_len, rl_len]; exact l6)
            exact ⟨_, _, w3, gc, CB, go _ g3, Or.inl (h3.tr (hF2.tr iF))⟩
          · obtain rfl := hm0 k4 k1
            have hok' := hok
            obtain ⟨va', wa', hva', hc''⟩ := hok'
            exact ⟨_, _, w2', gc, CB, go _ (rra_y (i59.trans (congrArg some hc''))), Or.inr ⟨tk_e u n p, _, _, _, _, _, _, _, h1, k2, rfl, ⟨c', i59, Or.inl ⟨k4, hok⟩⟩, iA, hF2.tr iF⟩⟩
        · have hb' := hb
          obtain ⟨dm', dt', tl', hn', hm', po, fr, so, va', fa', hfa', hc''⟩ := hb'
          have i59' := i59
          rw [hc''] at i59'
          have R : rNo u z mo ma ym n T (tk_s u n (tk_e u n p)) w20 w2' := Or.inl ⟨⟨c', i59, hb⟩, hF2.tr iF⟩
          rcases hm01 with rfl | rfl
          · exact ⟨_, _, w2', gc, CB, go _ (rra_x0 i59' (by omega)), R⟩
          · exact ⟨_, _, w2', gc, CB, go _ (rra_x1 i59' (by omega)), R⟩
    · left
      have hc' := hc
      obtain ⟨va, wa, hva, rfl⟩ := hc'
      have k1 := ho.1
      have es : (nI ((tk_k u n p + 1) % 4)).toInt = 2 := by rw [k1]; decide
      have bad5 : rBad z mo ma ym n (tk_s u n p) (rC z mo ma ym dm dt tl hn hm (nI n) (nI (tk_e u n p)) (nI (tk_s u n p)) (nI ((tk_k u n p + 1) % 4)) va 5 (nI (tk_s u n p))) := ⟨_, _, _, _, _, _, _, _, _, 5, by decide, rfl⟩
      have b3 : Int32.toInt (ex_gd DR (Int32.toNatClampNeg 81)) ≥ 5 := by
        rw [show Int32.toNatClampNeg 81 = 81 by decide, ex_gd_eq, hK]
        omega
      refine ⟨tk_s u n p, _, _, tak_c h15 hA.2.1 (by omega) (taa_1 hA.2.1 (by rw [hT]; omega)) (sh_beq (by omega)), ⟨⟨_, vg_at_put h15, 5, _, _, _, _, _, by decide, rfl⟩, hF.p15⟩, rra_e h59 hA2.2.1 es (by rw [l6]; decide) b3 (rf_lookb (vg_at_put h59) bad5) (rf_nextb (vg_at_put h59) bad5 (vg_at_o rfl hA2.1)) es (rra_x1 (vg_at_put h59) (by decide)), Or.inl ⟨⟨_, vg_at_put h59, bad5⟩, hF2.p59⟩⟩
end LP

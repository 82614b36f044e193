/-! matters OF BOTH: the weights. -/
section LM
variable {X : List Int32} {d n dr : Nat} {u : Nat → Nat} {B T : List Int32} {z : Nat → Int32} {mo ma ym dm dt tl hn hm se fp : Int32} {w0 w20 : ex_W}
theorem lp_mat (hd : dr + 6 < 15) (hB : cB u n B) (hR : rB u n T) {mv : Nat} (m4 : mv ≤ 4) (hdt : dt = nI mv) {tf : Nat → Int32} (hma : tf 1 = nI mv) {DR : List Int32} {dn an wn : Nat} : ∀ (f p j : Nat) (w w2 : ex_W) (ta : Nat → List Int32) (DW : List Int32) (o2 : Option Value) (c : ex_E) (K S N : Int32), n - p < f → p ≤ n → j ≤ mv → ex_at w 15 = some (cT dr n 0 fp se p K S N) → cA w dr B tf ta → cF dr w0 w → ex_at w2 59 = some c → rAt u z mo ma ym dm dt tl hn hm n p c → rA w2 T DR DW → rF w20 w2 → Rl tf ta dm dt hn hm DR DW dn an wn → (∃ s w' w2', Go X (d + 5) mt_183 (32, [some (.ref 15), some (.int (nI j))], []) w (some (.int 0), w') ∧ cBd dr n s w0 w' ∧ Go X (d + 4) mt_195 (12, [some (.ref 59), some (.int (nI j)), o2], []) w2 (none, w2') ∧ rNo u z mo ma ym n T s w20 w2') ∨ (∃ p' w' w2' ta' DW', p ≤ p' ∧ p' ≤ n ∧ tk_k u n p' = 2 ∧ Go X (d + 5) mt_183 (32, [some (.ref 15), some (.int (nI j))], []) w (some (.int 1), w') ∧ cGd dr n B se (tk_e u n p') tf ta' w0 w' ∧ Go X (d + 4) mt_195 (12, [some (.ref 59), some (.int (nI j)), o2], []) w2 (none, w2') ∧ rGd u z mo ma ym dm dt tl hn hm n p' T DR DW' w20 w2' ∧ Rl tf ta' dm dt hn hm DR DW' dn an wn) := by
  intro f
  induction f with
  | zero =>
    intro p j w w2 ta DW o2 c K S N hf
    omega
  | succ f ih =>
    intro p j w w2 ta DW o2 c K S N hf hp hj h15 hA hF h59 hc hA2 hF2 hRl
    have em : (nI mv).toInt = (mv : Int) := nI_toInt (by omega)
    have ej : (nI j).toInt = (j : Int) := nI_toInt (by omega)
    have l0 := hRl.1.1
    have l7 := hRl.1.2.2.2.2.2.2.2
    -- the reference's state, if there is a token
    have two : tk_k u n p = 1 → ∃ va wa, (tk_k u n p = 1 → va = nI (tk_v u n p)) ∧ c = rC z mo ma ym dm dt tl hn hm (nI n) (nI (tk_e u n p)) (nI (tk_s u n p)) (nI ((tk_k u n p + 1) % 4)) va 0 wa := by
      intro k1
      rcases hc with ⟨-, hok⟩ | ⟨k4, -⟩
      · exact hok
      · omega
    have full : tk_k u n p = 1 → mv ≤ j → ∃ w2', Go X (d + 4) mt_195 (12, [some (.ref 59), some (.int (nI j)), o2], []) w2 (none, w2') ∧ rBd z mo ma ym n (tk_s u n p) w20 w2' := by
      intro k1 hjm
      obtain ⟨va, wa, hva, rfl⟩ := two k1
      have es : (nI ((tk_k u n p + 1) % 4)).toInt = 2 := by rw [k1]; decide
      have bad5 : rBad z mo ma ym n (tk_s u n p) (rC z mo ma ym dm dt tl hn hm (nI n) (nI (tk_e u n p)) (nI (tk_s u n p)) (nI ((tk_k u n p + 1) % 4)) va 5 (nI (tk_s u n p))) := ⟨_, _, _, _, _, _, _, _, _, 5, by decide, rfl⟩
      exact ⟨_, rmt_e h59 es (by rw [hdt]; omega) (rf_lookb (vg_at_put h59) bad5) (rf_nextb (vg_at_put h59) bad5 (vg_at_o rfl hA2.1)) (rmt_a (vg_at_put h59) (by decide)), ⟨_, vg_at_put h59, bad5⟩, hF2.p59⟩
    rcases cf_more (X := X) (d := d + 2) (lw := 1) (hg := 9) (l := 1) (h := 9) (by decide) (by decide) hB hp h15 hA.1 with ⟨k2, N', g⟩ | ⟨ho, g⟩ | ⟨k2, ho, cb, hcb, g⟩
    · right
      rcases hc with ⟨k4, hok⟩ | ⟨k4, -⟩
      · have hok' := hok
        obtain ⟨va, wa, hva, rfl⟩ := hok'
        exact ⟨p, _, w2, ta, DW, Nat.le_refl _, hp, k2, tmt_a h15 (by omega) g (tmt_e1 (vg_at_put h15)), ⟨⟨fp, _, _, N', vg_at_put h15⟩, hA.p15 hd, hF.p15⟩, rmt_b h59 (by rw [k2]; decide), ⟨⟨_, h59, Or.inl ⟨k4, hok⟩⟩, hA2, hF2⟩, hRl⟩
      · omega
    · have k1 := ho.1
      have h1 := tk_e_le u hp (by omega)
      have h2 := tk_e_gt u (L := n) (p := p) (by omega)
      have i15 := vg_at_put (x := cT dr n 0 fp se (tk_e u n p) (nI 1) (nI (tk_s u n p)) (nI (tk_v u n p))) h15
      have iA : cA _ dr B tf ta := hA.p15 hd (c := cT dr n 0 fp se (tk_e u n p) (nI 1) (nI (tk_s u n p)) (nI (tk_v u n p)))
      by_cases hjm : j < mv
      · obtain ⟨va, wa, hva, rfl⟩ := two k1
        have es : (nI ((tk_k u n p + 1) % 4)).toInt = 2 := by rw [k1]; decide
        have hok : rOk u z mo ma ym dm dt tl hn hm n p (rC z mo ma ym dm dt tl hn hm (nI n) (nI (tk_e u n p)) (nI (tk_s u n p)) (nI ((tk_k u n p + 1) % 4)) va 0 wa) := ⟨va, wa, hva, rfl⟩
        rcases rf_look (X := X) (d := d + 2) (lw := 1) (hg := 9) (l := 1) (h := 9) (by decide) (by decide) (by omega) h59 hok with ⟨-, gl⟩ | ⟨ho', -⟩
        · obtain ⟨c', r1, g2⟩ := rf_next (X := X) (d := d + 2) (w := ex_put w2 65 (.inl (.int, ex_put DW j (nI (tk_v u n p))))) hR hp (by omega) (vg_at_o rfl h59) hok (vg_at_o rfl hA2.1)
          have jF := (hF.p15 (c := cT dr n 0 fp se (tk_e u n p) (nI 1) (nI (tk_s u n p)) (nI (tk_v u n p)))).pt (k := dr + 1 + 0) (c := .inl (.int, ex_put (ta 0) j (nI (tk_v u n p)))) (by omega) (by omega)
          have j15 := vg_at_o (x := .inl (.int, ex_put (ta 0) j (nI (tk_v u n p)))) (sh_beq (show dr + 1 + 0 ≠ 15 by omega)) i15
          have gm : ∀ q, Go X (d + 5) mt_183 (32, [some (.ref 15), some (.int (nI (j + 1)))], []) (ex_put (ex_put w 15 (cT dr n 0 fp se (tk_e u n p) (nI 1) (nI (tk_s u n p)) (nI (tk_v u n p)))) (dr + 1 + 0) (.inl (.int, ex_put (ta 0) j (nI (tk_v u n p))))) q → Go X (d + 5) mt_183 (32, [some (.ref 15), some (.int (nI j))], []) w q := fun q kk => tmt_c h15 (by omega) g i15 iA.2.1 (iA.2.2 0 (by decide)) (by rw [hma]; omega) (by omega) (by rw [l0]; exact fp_ix (by omega) (by decide)) (sh_beq (by omega)) (sh_beq (by omega)) (by rw [nI_clamp (by omega), ← nI_succ]; exact kk)
          have gr : ∀ q, Go X (d + 4) mt_195 (12, [some (.ref 59), some (.int (nI (j + 1))), some (.int (nI (tk_v u n p)))], []) (ex_put (ex_put w2 65 (.inl (.int, ex_put DW j (nI (tk_v u n p))))) 59 c') q → Go X (d + 4) mt_195 (12, [some (.ref 59), some (.int (nI j)), o2], []) w2 q := fun q kk => rmt_c h59 hA2.2.2 es (by rw [hdt]; omega) gl (by rw [l7]; exact fp_ix (by omega) (by decide)) (by rw [nI_clamp (by omega)]; exact g2) (by rw [← nI_succ]; exact kk)
          rcases ih (tk_e u n p) (j + 1) _ _ _ _ (some (.int (nI (tk_v u n p)))) c' _ _ _ (by omega) h1 (by omega) j15 (iA.pa hd (k := 0) (by decide) _) jF (vg_at_put (vg_at_o rfl h59)) r1 ((hA2.p65 _).p59) ((hF2.p65).p59) (hRl.wgt (i := j) (v := tk_v u n p) (by omega)) with ⟨s, w', w3, q1, q2, q3, q4⟩ | ⟨p', w', w3, ta', DW', q0, q1, q2, q3, q4, q5, q6, q7⟩
          · exact Or.inl ⟨s, w', w3, gm _ q1, q2, gr _ q3, q4⟩
          · exact Or.inr ⟨p', w', w3, ta', DW', by omega, q1, q2, gm _ q3, q4, gr _ q5, q6, q7⟩
        · exact absurd ho ho'
      · obtain ⟨w3, g3, h3⟩ := full k1 (by omega)
        exact Or.inl ⟨tk_s u n p, _, w3, tmt_b h15 (by omega) g i15 iA.2.1 (by rw [hma]; omega) (sh_beq (by omega)), ⟨⟨_, vg_at_put i15, 5, _, _, _, _, _, by decide, rfl⟩, (hF.p15).p15⟩, g3, Or.inl h3⟩
    · left
      have hcb' := hcb
      obtain ⟨fa, se', P', K', S', N', hfa, rfl⟩ := hcb'
      have gc := tmt_a h15 (by omega) g (tmt_e2 (i := nI j) (vg_at_put h15) hfa)
      have CB : cBd dr n (tk_s u n p) w0 _ := ⟨⟨_, vg_at_put h15, hcb⟩, hF.p15⟩
      by_cases k1 : tk_k u n p = 1
      · by_cases hjm : j < mv
        · obtain ⟨va, wa, hva, rfl⟩ := two k1
          have es : (nI ((tk_k u n p + 1) % 4)).toInt = 2 := by rw [k1]; decide
          rcases rf_look (X := X) (d := d + 2) (lw := 1) (hg := 9) (l := 1) (h := 9) (by decide) (by decide) (by omega) h59 (show rOk u z mo ma ym dm dt tl hn hm n p _ from ⟨va, wa, hva, rfl⟩) with ⟨ho', -⟩ | ⟨-, c', hb, ⟨po, fr, so, va', fa', rfl⟩, g3⟩
          · exact absurd ho' ho
          · have hfa' : 0 < Int32.toInt fa' := by
              obtain ⟨dm', dt', tl', hn', hm', po', fr', so', va'', fa'', hfa'', e⟩ := hb
              cases e
              exact hfa''
            exact ⟨_, _, _, gc, CB, rmt_d h59 es (by rw [hdt]; omega) g3 (vg_at_put h59) (by omega) (rf_nextb (vg_at_put h59) hb (vg_at_o rfl hA2.1)) (rmt_a (vg_at_put h59) (by omega)), Or.inl ⟨⟨_, vg_at_put h59, hb⟩, hF2.p59⟩⟩
        · obtain ⟨w3, g3, h3⟩ := full k1 (by omega)
          exact ⟨_, _, w3, gc, CB, g3, Or.inl h3⟩
      · rcases hc with ⟨k4, hok⟩ | ⟨k4, hb⟩
        · have hok' := hok
          obtain ⟨va, wa, hva, rfl⟩ := hok'
          have es : (nI ((tk_k u n p + 1) % 4)).toInt = (((tk_k u n p + 1) % 4 : Nat) : Int) := nI_toInt (by omega)
          exact ⟨_, _, w2, gc, CB, rmt_b h59 (by omega), Or.inr ⟨p, _, _, _, _, _, _, _, hp, k2, rfl, ⟨_, h59, Or.inl ⟨k4, hok⟩⟩, hA2, hF2⟩⟩
        · have hb' := hb
          obtain ⟨dm', dt', tl', hn', hm', po, fr, so, va, fa', hfa', rfl⟩ := hb'
          exact ⟨_, _, w2, gc, CB, rmt_a h59 (by omega), Or.inl ⟨⟨_, h59, hb⟩, hF2⟩⟩
end LM

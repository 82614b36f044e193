/-! TOKENS OF BOTH. -/
theorem tI_add {a b : Int32} (h1 : -2147483648 ≤ a.toInt + b.toInt) (h2 : a.toInt + b.toInt ≤ 2147483647) : (a + b).toInt = a.toInt + b.toInt := (ai_wrapI (Int32.toInt_add a b)).2 ⟨h1, h2⟩
theorem tI_sub {a b : Int32} (h1 : -2147483648 ≤ a.toInt - b.toInt) (h2 : a.toInt - b.toInt ≤ 2147483647) : (a - b).toInt = a.toInt - b.toInt := (ai_wrapI (Int32.toInt_sub a b)).2 ⟨h1, h2⟩
theorem tI_mul {a b : Int32} (h1 : -2147483648 ≤ a.toInt * b.toInt) (h2 : a.toInt * b.toInt ≤ 2147483647) : (a * b).toInt = a.toInt * b.toInt := (ai_wrapI (Int32.toInt_mul a b)).2 ⟨h1, h2⟩
theorem tI_nI {x : Int32} {k : Nat} (h : x.toInt = (k : Int)) (hk : k < 2 ^ 31) : x = nI k := by
  apply Int32.toInt_inj.mp
  rw [nI_toInt hk, h]
theorem tI_dig {v a : Nat} (hv : v ≤ 9) (ha : 48 ≤ a) (hb : a < 256) : ((nI v * 10) + nI a) - 48 = nI (10 * v + (a - 48)) ∧ ((10 * nI v) + nI a) - 48 = nI (10 * v + (a - 48)) := by
  have e10 : (10 : Int32).toInt = 10 := by decide
  have e48 : (48 : Int32).toInt = 48 := by decide
  have ev : (nI v).toInt = (v : Int) := nI_toInt (by omega)
  have ea : (nI a).toInt = (a : Int) := nI_toInt (by omega)
  have m1 : (nI v * 10).toInt = (v : Int) * 10 := by rw [tI_mul (by rw [ev, e10]; omega) (by rw [ev, e10]; omega), ev, e10]
  have m2 : (10 * nI v).toInt = 10 * (v : Int) := by rw [tI_mul (by rw [ev, e10]; omega) (by rw [ev, e10]; omega), ev, e10]
  have s1 : (nI v * 10 + nI a).toInt = (v : Int) * 10 + a := by rw [tI_add (by rw [m1, ea]; omega) (by rw [m1, ea]; omega), m1, ea]
  have s2 : (10 * nI v + nI a).toInt = 10 * (v : Int) + a := by rw [tI_add (by rw [m2, ea]; omega) (by rw [m2, ea]; omega), m2, ea]
  refine ⟨tI_nI ?_ (by omega), tI_nI ?_ (by omega)⟩
  · rw [tI_sub (by rw [s1, e48]; omega) (by rw [s1, e48]; omega), s1, e48]
    omega
  · rw [tI_sub (by rw [s2, e48]; omega) (by rw [s2, e48]; omega), s2, e48]
    omega
theorem tI_nsub {a b : Nat} (h : b ≤ a) (ha : a < 2 ^ 31) : (nI a - nI b).toInt = ((a - b : Nat) : Int) := by
  have ea : (nI a).toInt = (a : Int) := nI_toInt ha
  have eb : (nI b).toInt = (b : Int) := nI_toInt (by omega)
  rw [tI_sub (by rw [ea, eb]; omega) (by rw [ea, eb]; omega), ea, eb]
  omega
/-- the class's bytes, the reference's numbers -/
def cB (u : Nat → Nat) (n : Nat) (B : List Int32) : Prop := B.length = 400 ∧ n ≤ 400 ∧ ∀ i, i < n → (u i < 128 ∧ (B.getD i 0).toInt = (u i : Int)) ∨ (128 ≤ u i ∧ (B.getD i 0).toInt = (u i : Int) - 256 ∧ u i < 256)
def rB (u : Nat → Nat) (n : Nat) (T : List Int32) : Prop := T.length = 400 ∧ n ≤ 400 ∧ ∀ i, i < n → u i < 256 ∧ T.getD i 0 = nI (u i)
abbrev cT (dr n : Nat) (fa fp se : Int32) (p : Nat) (K S N : Int32) : ex_E := .inr (.inr (5, tr dr (nI n) fa fp se (nI p) K S N))
section TK
variable {X : List Int32} {d n dr p : Nat} {u : Nat → Nat} {B T : List Int32} {w : ex_W} {fa fp se K S N : Int32} {o1 : Option Value} {q : Option Value × ex_W}
theorem ct_b {P : Int32} (hB : cB u n B) (h15 : ex_at w 15 = some (.inr (.inr (5, tr dr (nI n) fa fp se P K S N)))) (h16 : ex_at w 16 = some (.inl (.byte, B))) {i : Nat} (hi : i < n) : Go X d mt_178 (ex_ent mt_178 [.ref 15, .int (nI i)]) w (some (.int (B.getD i 0)), w) := by
  obtain ⟨h1, h2, h3⟩ := hB
  have ei : (nI i).toInt = (i : Int) := nI_toInt (by omega)
  have en : (nI n).toInt = (n : Int) := nI_toInt (by omega)
  have := tb_1 (X := X) (d := d) (i := nI i) h15 h16 (by omega) (by omega) (by omega) (by rw [h1]; exact fp_ix (by omega) (by decide))
  rw [fp_gd (by omega)] at this
  exact this
theorem ct_blank (hB : cB u n B) : ∀ (f p : Nat) (w : ex_W), n - p ≤ f → p ≤ n → ex_at w 15 = some (cT dr n fa fp se p K S N) → ex_at w 16 = some (.inl (.byte, B)) → Go X (d + 1) mt_155 (37, [some (.ref 15), o1], []) (ex_put w 15 (cT dr n fa fp se (tk_s u n p) K S N)) q → Go X (d + 1) mt_155 (0, [some (.ref 15), o1], []) w q := by
  have hn : n ≤ 400 := hB.2.1
  have en : (nI n).toInt = (n : Int) := nI_toInt (by omega)
  intro f
  induction f with
  | zero =>
    intro p w hf hp h15 h16 kk
    have ep : (nI p).toInt = (p : Int) := nI_toInt (by omega)
    have e : tk_s u n p = p := tk_rn_0 (Or.inl (by omega))
    rw [e, fp_put_id h15] at kk
    exact tn_a2 h15 h16 (by omega) kk
  | succ f ih =>
    intro p w hf hp h15 h16 kk
    have ep : (nI p).toInt = (p : Int) := nI_toInt (by omega)
    by_cases hpn : n ≤ p
    · have e : tk_s u n p = p := tk_rn_0 (Or.inl hpn)
      rw [e, fp_put_id h15] at kk
      exact tn_a2 h15 h16 (by omega) kk
    · have hb := hB.2.2 p (by omega)
      by_cases hs : tk_sp u p = true
      · have hu : u p = 32 := (tk_sp_iff u p).mp hs
        have e : tk_s u n p = tk_s u n (p + 1) := tk_rn_s (by omega) hs
        refine tn_a1 h15 h16 (by omega) (ct_b hB h15 h16 (by omega)) (by omega) ?_
        rw [← nI_succ]
        refine ih (p + 1) _ (by omega) (by omega) (vg_at_put h15) (vg_at_o rfl h16) ?_
        rw [fp_put2, ← e]
        exact kk
      · have hs : tk_sp u p = false := by simpa using hs
        have hu : ¬ u p = 32 := (tk_nt (tk_sp_iff u p)).mp hs
        have e : tk_s u n p = p := tk_rn_0 (Or.inr hs)
        rw [e, fp_put_id h15] at kk
        exact tn_a3 h15 h16 (by omega) (ct_b hB h15 h16 (by omega)) (by omega) kk
theorem ct_let (hB : cB u n B) : ∀ (f p : Nat) (w : ex_W), n - p ≤ f → p ≤ n → ex_at w 15 = some (cT dr n fa fp se p K S N) → ex_at w 16 = some (.inl (.byte, B)) → Go X (d + 1) mt_155 (136, [some (.ref 15), o1], []) (ex_put w 15 (cT dr n fa fp se (tk_rn (tk_le u) (n - p) p) K S N)) q → Go X (d + 1) mt_155 (98, [some (.ref 15), o1], []) w q := by
  have hn : n ≤ 400 := hB.2.1
  have en : (nI n).toInt = (n : Int) := nI_toInt (by omega)
  intro f
  induction f with
  | zero =>
    intro p w hf hp h15 h16 kk
    have ep : (nI p).toInt = (p : Int) := nI_toInt (by omega)
    rw [tk_rn_0 (Or.inl (by omega)), fp_put_id h15] at kk
    exact tn_c2 h15 h16 (by omega) kk
  | succ f ih =>
    intro p w hf hp h15 h16 kk
    have ep : (nI p).toInt = (p : Int) := nI_toInt (by omega)
    by_cases hpn : n ≤ p
    · rw [tk_rn_0 (Or.inl hpn), fp_put_id h15] at kk
      exact tn_c2 h15 h16 (by omega) kk
    · have hb := hB.2.2 p (by omega)
      by_cases hs : tk_le u p = true
      · have hu := (tk_le_iff u p).mp hs
        refine tn_c1 h15 h16 (by omega) (ct_b hB h15 h16 (by omega)) (tl_3 (by omega) (by omega)) ?_
        rw [← nI_succ]
        refine ih (p + 1) _ (by omega) (by omega) (vg_at_put h15) (vg_at_o rfl h16) ?_
        rw [fp_put2, ← tk_rn_s (by omega) hs]
        exact kk
      · have hs : tk_le u p = false := by simpa using hs
        have hu := (tk_nt (tk_le_iff u p)).mp hs
        rw [tk_rn_0 (Or.inr hs), fp_put_id h15] at kk
        refine tn_c3 h15 h16 (by omega) (ct_b hB h15 h16 (by omega)) ?_ kk
        by_cases h9 : (B.getD p 0).toInt < 97
        · exact tl_1 h9
        · exact tl_2 (by omega) (by omega)
/-- figures: three at most -/
theorem ct_fig (hB : cB u n B) {s g : Nat} (hg : g ≤ s + 3) (hgn : g ≤ n) (hfi : ∀ j, s ≤ j → j < g → tk_fi u j = true) (hout : g < n → g < s + 3 → tk_fi u g = false) : ∀ (f p : Nat) (w : ex_W) (N : Int32), g - p ≤ f → s ≤ p → p ≤ g → (p - s ≤ 2 → N = nI (tk_w u s (p - s))) → ex_at w 15 = some (cT dr n fa fp se p K (nI s) N) → ex_at w 16 = some (.inl (.byte, B)) → ∃ N', (g - s ≤ 2 → N' = nI (tk_w u s (g - s))) ∧ ∀ q, Go X (d + 1) mt_155 (233, [some (.ref 15), o1], []) (ex_put w 15 (cT dr n fa fp se g K (nI s) N')) q → Go X (d + 1) mt_155 (159, [some (.ref 15), o1], []) w q := by
  have hn : n ≤ 400 := hB.2.1
  have en : (nI n).toInt = (n : Int) := nI_toInt (by omega)
  have stop : ∀ (w : ex_W) (N : Int32), s ≤ g → ex_at w 15 = some (cT dr n fa fp se g K (nI s) N) → ex_at w 16 = some (.inl (.byte, B)) → ∀ q, Go X (d + 1) mt_155 (233, [some (.ref 15), o1], []) (ex_put w 15 (cT dr n fa fp se g K (nI s) N)) q → Go X (d + 1) mt_155 (159, [some (.ref 15), o1], []) w q := by
    intro w N hsg h15 h16 q kk
    rw [fp_put_id h15] at kk
    have eg : (nI g).toInt = (g : Int) := nI_toInt (by omega)
    have es := tI_nsub hsg (show g < 2 ^ 31 by omega)
    by_cases h1 : n ≤ g
    · exact tn_e2 h15 h16 (by omega) kk
    · by_cases h2 : s + 3 ≤ g
      · exact tn_e3 h15 h16 (by omega) (by omega) kk
      · have h3 := (tk_nt (tk_fi_iff u g)).mp (hout (by omega) (by omega))
        have hb := hB.2.2 g (by omega)
        refine tn_e4 h15 h16 (by omega) (by omega) (ct_b hB h15 h16 (by omega)) ?_ kk
        by_cases h9 : (B.getD g 0).toInt < 48
        · exact tf_1 h9
        · exact tf_2 (by omega) (by omega)
  intro f
  induction f with
  | zero =>
    intro p w N hf hsp hpg hN h15 h16
    obtain rfl : p = g := by omega
    exact ⟨N, hN, stop w N hsp h15 h16⟩
  | succ f ih =>
    intro p w N hf hsp hpg hN h15 h16
    by_cases hpe : p = g
    · subst hpe
      exact ⟨N, hN, stop w N hsp h15 h16⟩
    · have ep : (nI p).toInt = (p : Int) := nI_toInt (by omega)
      have es := tI_nsub hsp (show p < 2 ^ 31 by omega)
      have h3 := (tk_fi_iff u p).mp (hfi p hsp (by omega))
      have hb := hB.2.2 p (by omega)
      have hbp : B.getD p 0 = nI (u p) := tI_nI (by omega) (by omega)
      have hps : p - s ≤ 2 := by omega
      have hN1 : p + 1 - s ≤ 2 → ((nI (tk_w u s (p - s)) * 10) + nI (u p)) - 48 = nI (tk_w u s (p + 1 - s)) := by
        intro h2
        by_cases h0 : p = s
        · subst h0
          rw [show p - p = 0 by omega, show p + 1 - p = 1 by omega]
          have := (tI_dig (v := 0) (a := u p) (by omega) (by omega) (by omega)).1
          rw [show 10 * 0 + (u p - 48) = u p - 48 by omega] at this
          exact this
        · obtain rfl : p = s + 1 := by omega
          rw [show s + 1 - s = 1 by omega, show s + 1 + 1 - s = 2 by omega]
          have h4 := (tk_fi_iff u s).mp (hfi s (by omega) (by omega))
          exact (tI_dig (v := u s - 48) (a := u (s + 1)) (by omega) (by omega) (by omega)).1
      obtain ⟨N', j1, j2⟩ := ih (p + 1) (ex_put w 15 (cT dr n fa fp se (p + 1) K (nI s) (((nI (tk_w u s (p - s)) * 10) + nI (u p)) - 48))) _ (by omega) (by omega) (by omega) hN1 (vg_at_put h15) (vg_at_o rfl h16)
      refine ⟨N', j1, fun q kk => ?_⟩
      refine tn_e1 h15 h16 (by omega) (by omega) (ct_b hB h15 h16 (by omega)) (tf_3 (by omega) (by omega)) (ct_b hB h15 h16 (by omega)) ?_
      rw [← nI_succ, hbp, hN hps]
      refine j2 q ?_
      rw [fp_put2]
      exact kk
/-- nextToken -/
theorem ct_next (hB : cB u n B) (hp : p ≤ n) (h15 : ex_at w 15 = some (cT dr n 0 fp se p K S N)) (h16 : ex_at w 16 = some (.inl (.byte, B))) : (tk_k u n p = 4 ∧ ∃ P' K' N', Go X (d + 1) mt_155 (ex_ent mt_155 [.ref 15]) w (some (.int 0), ex_put w 15 (.inr (.inr (5, tr dr (nI n) 1 (nI (tk_s u n p)) se P' K' (nI (tk_s u n p)) N'))))) ∨ (tk_k u n p < 4 ∧ ∃ N', (tk_k u n p = 1 → N' = nI (tk_v u n p)) ∧ Go X (d + 1) mt_155 (ex_ent mt_155 [.ref 15]) w (some (.int 1), ex_put w 15 (cT dr n 0 fp se (tk_e u n p) (nI (tk_k u n p)) (nI (tk_s u n p)) N'))) := by
  have hn : n ≤ 400 := hB.2.1
  have en : (nI n).toInt = (n : Int) := nI_toInt (by omega)
  have hsn := tk_s_le u hp
  have go : ∀ q, Go X (d + 1) mt_155 (37, [some (.ref 15), none], []) (ex_put w 15 (cT dr n 0 fp se (tk_s u n p) K S N)) q → Go X (d + 1) mt_155 (ex_ent mt_155 [.ref 15]) w q := by
    intro q kk
    show Go _ _ _ (0, [some (.ref 15), none], []) _ _
    exact ct_blank hB n p w (by omega) hp h15 h16 kk
  have g15 : ex_at (ex_put w 15 (cT dr n 0 fp se (tk_s u n p) K S N)) 15 = some (cT dr n 0 fp se (tk_s u n p) K S N) := vg_at_put h15
  have g16 : ex_at (ex_put w 15 (cT dr n 0 fp se (tk_s u n p) K S N)) 16 = some (.inl (.byte, B)) := vg_at_o rfl h16
  have hc := tk_cases u n p
  have hle := tk_le_iff u (tk_s u n p)
  have hfi := tk_fi_iff u (tk_s u n p)
  have hf1 : ∀ j, tk_s u n p ≤ j → j < tk_f u n p → tk_fi u j = true := fun j a b => tk_rn_in _ _ _ j a b
  have hf2 : tk_f u n p < n → tk_fi u (tk_f u n p) = false := fun a => tk_rn_out _ _ _ (by unfold tk_f at a; omega)
  have hf3 := tk_f_le u hp
  have hfs : tk_s u n p ≤ tk_f u n p := tk_rn_ge _ _ _
  have hfg := tk_f_gt u (L := n) (p := p)
  have hlg := tk_l_gt u (L := n) (p := p)
  have e0 := tk_e0 (u := u) (L := n) (p := p)
  have e1 := tk_e1 (u := u) (L := n) (p := p)
  have e2 := tk_e2 (u := u) (L := n) (p := p)
  have e3 := tk_e3 (u := u) (L := n) (p := p)
  have hv : tk_v u n p = tk_w u (tk_s u n p) (tk_f u n p - tk_s u n p) := rfl
  have hl : tk_l u n p = tk_rn (tk_le u) (n - tk_s u n p) (tk_s u n p) := rfl
  have hf : tk_f u n p = tk_rn (tk_fi u) (n - tk_s u n p) (tk_s u n p) := rfl
  have hll := tk_l_le u hp
  generalize tk_v u n p = v at *
  generalize tk_k u n p = k at *
  generalize tk_e u n p = e at *
  generalize hs' : tk_s u n p = s at *
  generalize tk_f u n p = ff at *
  generalize tk_l u n p = ll at *
  have es : (nI s).toInt = (s : Int) := nI_toInt (by omega)
  rcases hc with ⟨a, rfl⟩ | ⟨a, b, rfl⟩ | ⟨a, b, c, rfl⟩ | ⟨a, b, c, c2, c3, rfl⟩ | ⟨a, b, c, c2, rfl⟩
  · right
    refine ⟨by omega, N, fun h => absurd h (by decide), go _ ?_⟩
    rw [e3 rfl]
    have := tn_b1 (X := X) (d := d + 1) (o1 := none) g15 g16 (by omega)
    rw [fp_put2] at this
    exact this
  · right
    have hb := hB.2.2 s a
    refine ⟨by omega, N, fun h => absurd h (by decide), go _ ?_⟩
    rw [e2 rfl]
    have := tn_b2 (X := X) (d := d) (o1 := none) g15 g16 (by omega) (ct_b hB (vg_at_put g15) (vg_at_o rfl g16) a) (by omega)
    rw [fp_put2, ← nI_succ] at this
    exact this
  · right
    have hb := hB.2.2 s a
    have hlt := hlg a c
    have el : (nI ll).toInt = (ll : Int) := nI_toInt (by omega)
    refine ⟨by omega, N, fun h => absurd h (by decide), go _ ?_⟩
    rw [e0 rfl]
    refine tn_b3 g15 g16 (by omega) (ct_b hB (vg_at_put g15) (vg_at_o rfl g16) a) (by omega) ?_
    rw [fp_put2]
    refine ct_let hB n s _ (by omega) (by omega) (vg_at_put h15) (vg_at_o rfl h16) ?_
    rw [fp_put2, ← hl]
    have := tn_d1 (X := X) (d := d + 1) (o1 := none) (w := ex_put w 15 (cT dr n 0 fp se ll 0 (nI s) N)) (vg_at_put h15) (vg_at_o rfl h16) (by omega)
    exact this
  · right
    have hb := hB.2.2 s a
    refine ⟨by omega, nI v, fun _ => rfl, go _ ?_⟩
    rw [e1 rfl]
    refine tn_b3 g15 g16 (by omega) (ct_b hB (vg_at_put g15) (vg_at_o rfl g16) a) (by omega) ?_
    rw [fp_put2]
    refine ct_let hB n s _ (by omega) (by omega) (vg_at_put h15) (vg_at_o rfl h16) ?_
    rw [fp_put2, tk_rn_0 (Or.inr c)]
    refine tn_d2 (w := ex_put w 15 (cT dr n 0 fp se s 0 (nI s) N)) (vg_at_put h15) (vg_at_o rfl h16) (by omega) ?_
    rw [fp_put2]
    obtain ⟨N', hN', k2⟩ := ct_fig (X := X) (d := d) (dr := dr) (fa := 0) (fp := fp) (se := se) (K := 1) (o1 := none) hB (s := s) (g := ff) (by omega) (by omega) hf1 (fun h _ => hf2 h) 3 s (ex_put w 15 (cT dr n 0 fp se s 1 (nI s) 0)) 0 (by omega) (by omega) (by omega) (fun _ => by rw [show s - s = 0 by omega]; rfl) (vg_at_put h15) (vg_at_o rfl h16)
    refine k2 _ ?_
    rw [fp_put2]
    have hg := hfg a c2
    have ef := tI_nsub hfs (show ff < 2 ^ 31 by omega)
    rw [hN' (by omega), ← hv]
    by_cases h1 : ff - s = 1
    · exact tn_f1 (w := ex_put w 15 (cT dr n 0 fp se ff 1 (nI s) (nI v))) (vg_at_put h15) (vg_at_o rfl h16) (by omega)
    · exact tn_f2 (w := ex_put w 15 (cT dr n 0 fp se ff 1 (nI s) (nI v))) (vg_at_put h15) (vg_at_o rfl h16) (by omega) (by omega)
  · left
    have hb := hB.2.2 s a
    have key : ∃ g, g = min ff (s + 3) ∧ g ≤ n ∧ s ≤ g ∧ ¬ g - s = 1 ∧ ¬ g - s = 2 := by
      refine ⟨min ff (s + 3), rfl, by omega, by omega, ?_⟩
      rcases c2 with c2 | c2
      · have : ff = s := by rw [hf]; exact tk_rn_0 (Or.inr c2)
        omega
      · omega
    obtain ⟨g, hg, hgn, hsg, g1, g2⟩ := key
    obtain ⟨N', -, k2⟩ := ct_fig (X := X) (d := d) (dr := dr) (fa := 0) (fp := fp) (se := se) (K := 1) (o1 := none) hB (s := s) (g := g) (by omega) (by omega) (fun j h1 h2 => hf1 j h1 (by omega)) (fun h h2 => (show g = ff by omega) ▸ hf2 (by omega)) 3 s (ex_put w 15 (cT dr n 0 fp se s 1 (nI s) 0)) 0 (by omega) (by omega) (by omega) (fun _ => by rw [show s - s = 0 by omega]; rfl) (vg_at_put h15) (vg_at_o rfl h16)
    have ef := tI_nsub hsg (show g < 2 ^ 31 by omega)
    refine ⟨rfl, nI g, 1, N', go _ ?_⟩
    refine tn_b3 g15 g16 (by omega) (ct_b hB (vg_at_put g15) (vg_at_o rfl g16) a) (by omega) ?_
    rw [fp_put2]
    refine ct_let hB n s _ (by omega) (by omega) (vg_at_put h15) (vg_at_o rfl h16) ?_
    rw [fp_put2, tk_rn_0 (Or.inr c)]
    refine tn_d2 (w := ex_put w 15 (cT dr n 0 fp se s 0 (nI s) N)) (vg_at_put h15) (vg_at_o rfl h16) (by omega) ?_
    rw [fp_put2]
    refine k2 _ ?_
    rw [fp_put2]
    have := tn_f3 (X := X) (d := d) (o1 := none) (w := ex_put w 15 (cT dr n 0 fp se g 1 (nI s) N')) (vg_at_put h15) (vg_at_o rfl h16) (by omega) (by omega)
    rw [fp_put2] at this
    exact this
end TK
/-! The reference's next. -/
abbrev rC (z : Nat → Int32) (mo ma ym dm dt tl hn hm tp po fr so va fa wa : Int32) : ex_E := .inr (.inr (8, nm z mo ma ym dm dt tl hn hm tp po fr so va fa wa))
section RK
variable {X : List Int32} {d n p : Nat} {u : Nat → Nat} {T : List Int32} {w : ex_W} {z : Nat → Int32} {mo ma ym dm dt tl hn hm fr so va wa : Int32} {q : Option Value × ex_W}
theorem rt_l {po fa : Int32} (hB : rB u n T) (h59 : ex_at w 59 = some (rC z mo ma ym dm dt tl hn hm (nI n) po fr so va fa wa)) (h66 : ex_at w 66 = some (.inl (.int, T))) {i : Nat} (hi : i < n) : Go X d mt_159 (ex_ent mt_159 [.ref 59, .int (nI i)]) w (some (.int (nI (u i))), w) := by
  obtain ⟨h1, h2, h3⟩ := hB
  have ei : (nI i).toInt = (i : Int) := nI_toInt (by omega)
  have en : (nI n).toInt = (n : Int) := nI_toInt (by omega)
  have := rl_1 (X := X) (d := d) (i := nI i) h59 h66 (by omega) (by rw [h1]; exact fp_ix (by omega) (by decide))
  rw [fp_gd (by omega), (h3 i hi).2] at this
  exact this
theorem rt_m {po fa : Int32} (hn4 : n ≤ 400) (h59 : ex_at w 59 = some (rC z mo ma ym dm dt tl hn hm (nI n) po fr so va fa wa)) (h66 : ex_at w 66 = some (.inl (.int, T))) {i : Nat} (hi : n ≤ i) (hi2 : i < 1000) : Go X d mt_159 (ex_ent mt_159 [.ref 59, .int (nI i)]) w (some (.int (Int32.ofInt (-1))), w) := by
  have ei : (nI i).toInt = (i : Int) := nI_toInt (by omega)
  have en : (nI n).toInt = (n : Int) := nI_toInt (by omega)
  exact rl_2 (X := X) (d := d) (i := nI i) h59 h66 (by omega)
theorem rm1 : (Int32.ofInt (-1)).toInt = -1 := by decide
theorem rin_t {a b c : Nat} {lb lc : Int64} (ha : a < 2 ^ 31) (eb : lb.toInt = (b : Int)) (ec : lc.toInt = (c : Int)) (h : b ≤ a ∧ a ≤ c) : Go X d mt_93 (ex_ent mt_93 [.long (nI a).toInt64, .long lb, .long lc]) w (some (.int 1), w) := by
  have ea : (nI a).toInt = (a : Int) := nI_toInt ha
  exact vin_t (by rw [Int32.toInt_toInt64]; omega) (by rw [Int32.toInt_toInt64]; omega)
theorem rin_f {x : Int32} {b c : Nat} {lb lc : Int64} (eb : lb.toInt = (b : Int)) (ec : lc.toInt = (c : Int)) (h : ¬ ((b : Int) ≤ x.toInt ∧ x.toInt ≤ (c : Int))) : Go X d mt_93 (ex_ent mt_93 [.long x.toInt64, .long lb, .long lc]) w (some (.int 0), w) := vin_f (by rw [Int32.toInt_toInt64]; omega)
theorem l97 : (97 : Int64).toInt = ((97 : Nat) : Int) := by decide
theorem l122 : (122 : Int64).toInt = ((122 : Nat) : Int) := by decide
theorem l48 : (48 : Int64).toInt = ((48 : Nat) : Int) := by decide
theorem l57 : (57 : Int64).toInt = ((57 : Nat) : Int) := by decide
theorem rt_blank {o1 : Option Value} (hB : rB u n T) : ∀ (f p : Nat) (w : ex_W), n - p ≤ f → p ≤ n → ex_at w 59 = some (rC z mo ma ym dm dt tl hn hm (nI n) (nI p) fr so va 0 wa) → ex_at w 66 = some (.inl (.int, T)) → Go X (d + 1) mt_96 (34, [some (.ref 59), o1], []) (ex_put w 59 (rC z mo ma ym dm dt tl hn hm (nI n) (nI (tk_s u n p)) fr so va 0 wa)) q → Go X (d + 1) mt_96 (8, [some (.ref 59), o1], []) w q := by
  have hn4 : n ≤ 400 := hB.2.1
  have at_n : ∀ (p : Nat) (w : ex_W), n ≤ p → p ≤ n → ex_at w 59 = some (rC z mo ma ym dm dt tl hn hm (nI n) (nI p) fr so va 0 wa) → ex_at w 66 = some (.inl (.int, T)) → Go X (d + 1) mt_96 (34, [some (.ref 59), o1], []) (ex_put w 59 (rC z mo ma ym dm dt tl hn hm (nI n) (nI (tk_s u n p)) fr so va 0 wa)) q → Go X (d + 1) mt_96 (8, [some (.ref 59), o1], []) w q := by
    intro p w h1 h2 h59 h66 kk
    have e : tk_s u n p = p := tk_rn_0 (Or.inl h1)
    rw [e, fp_put_id h59] at kk
    exact rx_a2 h59 h66 (rt_m hn4 h59 h66 h1 (by omega)) (by rw [rm1]; decide) kk
  intro f
  induction f with
  | zero =>
    intro p w hf hp h59 h66 kk
    exact at_n p w (by omega) hp h59 h66 kk
  | succ f ih =>
    intro p w hf hp h59 h66 kk
    by_cases hpn : n ≤ p
    · exact at_n p w hpn hp h59 h66 kk
    · have hb := (hB.2.2 p (by omega)).1
      have eu : (nI (u p)).toInt = (u p : Int) := nI_toInt (by omega)
      by_cases hs : tk_sp u p = true
      · have hu : u p = 32 := (tk_sp_iff u p).mp hs
        have e : tk_s u n p = tk_s u n (p + 1) := tk_rn_s (by omega) hs
        refine rx_a1 h59 h66 (rt_l hB h59 h66 (by omega)) (by omega) ?_
        rw [← nI_succ]
        refine ih (p + 1) _ (by omega) (by omega) (vg_at_put h59) (vg_at_o rfl h66) ?_
        rw [fp_put2, ← e]
        exact kk
      · have hs : tk_sp u p = false := by simpa using hs
        have hu : ¬ u p = 32 := (tk_nt (tk_sp_iff u p)).mp hs
        have e : tk_s u n p = p := tk_rn_0 (Or.inr hs)
        rw [e, fp_put_id h59] at kk
        exact rx_a2 h59 h66 (rt_l hB h59 h66 (by omega)) (by omega) kk
theorem rt_let {y : Int32} (hB : rB u n T) : ∀ (f p : Nat) (w : ex_W), n - p ≤ f → p ≤ n → ex_at w 59 = some (rC z mo ma ym dm dt tl hn hm (nI n) (nI p) fr so va 0 wa) → ex_at w 66 = some (.inl (.int, T)) → Go X (d + 1) mt_96 (82, [some (.ref 59), some (.int y)], []) w (none, ex_put w 59 (rC z mo ma ym dm dt tl hn hm (nI n) (nI (tk_rn (tk_le u) (n - p) p)) fr so va 0 wa)) := by
  have hn4 : n ≤ 400 := hB.2.1
  have at_n : ∀ (p : Nat) (w : ex_W), n ≤ p → p ≤ n → ex_at w 59 = some (rC z mo ma ym dm dt tl hn hm (nI n) (nI p) fr so va 0 wa) → ex_at w 66 = some (.inl (.int, T)) → Go X (d + 1) mt_96 (82, [some (.ref 59), some (.int y)], []) w (none, ex_put w 59 (rC z mo ma ym dm dt tl hn hm (nI n) (nI (tk_rn (tk_le u) (n - p) p)) fr so va 0 wa)) := by
    intro p w h1 h2 h59 h66
    rw [tk_rn_0 (Or.inl h1), fp_put_id h59]
    exact rx_c2 h59 h66 (rt_m hn4 h59 h66 h1 (by omega)) (rin_f l97 l122 (by rw [rm1]; omega))
  intro f
  induction f with
  | zero =>
    intro p w hf hp h59 h66
    exact at_n p w (by omega) hp h59 h66
  | succ f ih =>
    intro p w hf hp h59 h66
    by_cases hpn : n ≤ p
    · exact at_n p w hpn hp h59 h66
    · have hb := (hB.2.2 p (by omega)).1
      have eu : (nI (u p)).toInt = (u p : Int) := nI_toInt (by omega)
      by_cases hs : tk_le u p = true
      · have hu := (tk_le_iff u p).mp hs
        refine rx_c1 h59 h66 (rt_l hB h59 h66 (by omega)) (rin_t (by omega) l97 l122 (by omega)) ?_
        rw [← nI_succ]
        have := ih (p + 1) (ex_put w 59 (rC z mo ma ym dm dt tl hn hm (nI n) (nI (p + 1)) fr so va 0 wa)) (by omega) (by omega) (vg_at_put h59) (vg_at_o rfl h66)
        rw [fp_put2, ← tk_rn_s (by omega) hs] at this
        exact this
      · have hs : tk_le u p = false := by simpa using hs
        have hu := (tk_nt (tk_le_iff u p)).mp hs
        rw [tk_rn_0 (Or.inr hs), fp_put_id h59]
        exact rx_c2 h59 h66 (rt_l hB h59 h66 (by omega)) (rin_f l97 l122 (by omega))
/-- figures: what the first two tell -/
theorem rt_fig {y : Int32} {s : Nat} (hB : rB u n T) (hsn : s < n) (h0 : tk_fi u s = true) : ∀ (f p : Nat) (w : ex_W), n - p ≤ f → s ≤ p → p ≤ n → (∀ j, s ≤ j → j < p → tk_fi u j = true) → ex_at w 59 = some (rC z mo ma ym dm dt tl hn hm (nI n) (nI p) (nI s) so (nI (tk_w u s (p - s))) 0 wa) → ex_at w 66 = some (.inl (.int, T)) → Go X (d + 1) mt_96 (217, [some (.ref 59), some (.int y)], []) (ex_put w 59 (rC z mo ma ym dm dt tl hn hm (nI n) (nI (tk_rn (tk_fi u) (n - p) p)) (nI s) so (nI (tk_w u s (tk_rn (tk_fi u) (n - p) p - s))) 0 wa)) q → Go X (d + 1) mt_96 (140, [some (.ref 59), some (.int y)], []) w q := by
  have hn4 : n ≤ 400 := hB.2.1
  have at_n : ∀ (p : Nat) (w : ex_W), n ≤ p → p ≤ n → ex_at w 59 = some (rC z mo ma ym dm dt tl hn hm (nI n) (nI p) (nI s) so (nI (tk_w u s (p - s))) 0 wa) → ex_at w 66 = some (.inl (.int, T)) → Go X (d + 1) mt_96 (217, [some (.ref 59), some (.int y)], []) (ex_put w 59 (rC z mo ma ym dm dt tl hn hm (nI n) (nI (tk_rn (tk_fi u) (n - p) p)) (nI s) so (nI (tk_w u s (tk_rn (tk_fi u) (n - p) p - s))) 0 wa)) q → Go X (d + 1) mt_96 (140, [some (.ref 59), some (.int y)], []) w q := by
    intro p w h1 h2 h59 h66 kk
    rw [tk_rn_0 (Or.inl h1), fp_put_id h59] at kk
    exact rx_e3 h59 h66 (rt_m hn4 h59 h66 h1 (by omega)) (rin_f l48 l57 (by rw [rm1]; omega)) kk
  intro f
  induction f with
  | zero =>
    intro p w hf hsp hp hj h59 h66 kk
    exact at_n p w (by omega) hp h59 h66 kk
  | succ f ih =>
    intro p w hf hsp hp hj h59 h66 kk
    by_cases hpn : n ≤ p
    · exact at_n p w hpn hp h59 h66 kk
    · have hb := (hB.2.2 p (by omega)).1
      have eu : (nI (u p)).toInt = (u p : Int) := nI_toInt (by omega)
      by_cases hs : tk_fi u p = true
      · have hu := (tk_fi_iff u p).mp hs
        have ep := tI_nsub hsp (show p < 2 ^ 31 by omega)
        have hj' : ∀ j, s ≤ j → j < p + 1 → tk_fi u j = true := fun j a b => by
          by_cases h : j = p
          · rw [h]; exact hs
          · exact hj j a (by omega)
        rw [tk_rn_s (by omega) hs] at kk
        have step : ∀ v : Int32, v = nI (tk_w u s (p + 1 - s)) → Go X (d + 1) mt_96 (140, [some (.ref 59), some (.int y)], []) (ex_put w 59 (rC z mo ma ym dm dt tl hn hm (nI n) (nI (p + 1)) (nI s) so v 0 wa)) q := by
          intro v hv
          subst hv
          refine ih (p + 1) _ (by omega) (by omega) (by omega) hj' (vg_at_put h59) (vg_at_o rfl h66) ?_
          rw [fp_put2]
          exact kk
        by_cases h2 : p - s < 2
        · refine rx_e1 h59 h66 (rt_l hB h59 h66 (by omega)) (rin_t (by omega) l48 l57 (by omega)) (by omega) (rt_l hB h59 h66 (by omega)) ?_
          rw [← nI_succ]
          refine step _ ?_
          by_cases h3 : p = s
          · subst h3
            rw [show p - p = 0 by omega, show p + 1 - p = 1 by omega]
            have := (tI_dig (v := 0) (a := u p) (by omega) (by omega) (by omega)).2
            rw [show 10 * 0 + (u p - 48) = u p - 48 by omega] at this
            exact this
          · obtain rfl : p = s + 1 := by omega
            rw [show s + 1 - s = 1 by omega, show s + 1 + 1 - s = 2 by omega]
            have h4 := (tk_fi_iff u s).mp h0
            exact (tI_dig (v := u s - 48) (a := u (s + 1)) (by omega) (by omega) (by omega)).2
        · refine rx_e2 h59 h66 (rt_l hB h59 h66 (by omega)) (rin_t (by omega) l48 l57 (by omega)) (by omega) ?_
          rw [← nI_succ]
          refine step _ ?_
          obtain ⟨k, hk⟩ : ∃ k, p - s = k + 2 := ⟨p - s - 2, by omega⟩
          rw [hk, show p + 1 - s = k + 1 + 2 by omega]
          rfl
      · have hs : tk_fi u p = false := by simpa using hs
        have hu := (tk_nt (tk_fi_iff u p)).mp hs
        rw [tk_rn_0 (Or.inr hs), fp_put_id h59] at kk
        exact rx_e3 h59 h66 (rt_l hB h59 h66 (by omega)) (rin_f l48 l57 (by omega)) kk
/-- next -/
theorem rt_next (hB : rB u n T) (hp : p ≤ n) (h59 : ex_at w 59 = some (rC z mo ma ym dm dt tl hn hm (nI n) (nI p) fr so va 0 wa)) (h66 : ex_at w 66 = some (.inl (.int, T))) : (tk_k u n p = 4 ∧ ∃ po' so' va', Go X (d + 1) mt_96 (ex_ent mt_96 [.ref 59]) w (none, ex_put w 59 (rC z mo ma ym dm dt tl hn hm (nI n) po' (nI (tk_s u n p)) so' va' 1 (nI (tk_s u n p))))) ∨ (tk_k u n p < 4 ∧ ∃ va', (tk_k u n p = 1 → va' = nI (tk_v u n p)) ∧ Go X (d + 1) mt_96 (ex_ent mt_96 [.ref 59]) w (none, ex_put w 59 (rC z mo ma ym dm dt tl hn hm (nI n) (nI (tk_e u n p)) (nI (tk_s u n p)) (nI ((tk_k u n p + 1) % 4)) va' 0 wa))) := by
  have hn4 : n ≤ 400 := hB.2.1
  have hsn := tk_s_le u hp
  have go : ∀ q, Go X (d + 1) mt_96 (34, [some (.ref 59), none], []) (ex_put w 59 (rC z mo ma ym dm dt tl hn hm (nI n) (nI (tk_s u n p)) fr so va 0 wa)) q → Go X (d + 1) mt_96 (ex_ent mt_96 [.ref 59]) w q := by
    intro q kk
    exact rx_1 h59 h66 (rt_blank hB n p w (by omega) hp h59 h66 kk)
  have g59 : ex_at (ex_put w 59 (rC z mo ma ym dm dt tl hn hm (nI n) (nI (tk_s u n p)) fr so va 0 wa)) 59 = some (rC z mo ma ym dm dt tl hn hm (nI n) (nI (tk_s u n p)) fr so va 0 wa) := vg_at_put h59
  have g66 : ex_at (ex_put w 59 (rC z mo ma ym dm dt tl hn hm (nI n) (nI (tk_s u n p)) fr so va 0 wa)) 66 = some (.inl (.int, T)) := vg_at_o rfl h66
  have hc := tk_cases u n p
  have hle := tk_le_iff u (tk_s u n p)
  have hfi := tk_fi_iff u (tk_s u n p)
  have hle' := tk_nt (tk_le_iff u (tk_s u n p))
  have hfi' := tk_nt (tk_fi_iff u (tk_s u n p))
  have hf3 := tk_f_le u hp
  have hfs : tk_s u n p ≤ tk_f u n p := tk_rn_ge _ _ _
  have e0 := tk_e0 (u := u) (L := n) (p := p)
  have e1 := tk_e1 (u := u) (L := n) (p := p)
  have e2 := tk_e2 (u := u) (L := n) (p := p)
  have e3 := tk_e3 (u := u) (L := n) (p := p)
  have hv : tk_v u n p = tk_w u (tk_s u n p) (tk_f u n p - tk_s u n p) := rfl
  have hl : tk_l u n p = tk_rn (tk_le u) (n - tk_s u n p) (tk_s u n p) := rfl
  have hf : tk_f u n p = tk_rn (tk_fi u) (n - tk_s u n p) (tk_s u n p) := rfl
  generalize tk_v u n p = v at *
  generalize tk_k u n p = k at *
  generalize tk_e u n p = e at *
  generalize hs' : tk_s u n p = s at *
  generalize tk_f u n p = ff at *
  generalize tk_l u n p = ll at *
  have fig : ∀ q, s < n → tk_fi u s = true → tk_le u s = false → Go X (d + 1) mt_96 (217, [some (.ref 59), some (.int (nI (u s)))], []) (ex_put w 59 (rC z mo ma ym dm dt tl hn hm (nI n) (nI ff) (nI s) 2 (nI v) 0 wa)) q → Go X (d + 1) mt_96 (ex_ent mt_96 [.ref 59]) w q := by
    intro q a c2 c kk
    have hb := (hB.2.2 s a).1
    have eu : (nI (u s)).toInt = (u s : Int) := nI_toInt (by omega)
    have c1 := hle'.mp c
    have c3 := hfi.mp c2
    apply go
    refine rx_b3 g59 g66 (rt_l hB (vg_at_put g59) (vg_at_o rfl g66) a) (by omega) (rin_f l97 l122 (by omega)) (rin_t (by omega) l48 l57 (by omega)) ?_
    rw [fp_put2]
    refine rt_fig hB a c2 n s _ (by omega) (by omega) (by omega) (fun j h1 h2 => by omega) (by rw [show s - s = 0 by omega]; exact vg_at_put h59) (vg_at_o rfl h66) ?_
    rw [fp_put2, ← hf, ← hv]
    exact kk
  rcases hc with ⟨a, rfl⟩ | ⟨a, b, rfl⟩ | ⟨a, b, c, rfl⟩ | ⟨a, b, c, c2, c3, rfl⟩ | ⟨a, b, c, c2, rfl⟩
  · right
    refine ⟨by omega, va, fun h => absurd h (by decide), go _ ?_⟩
    rw [e3 rfl]
    have := rx_b1 (X := X) (d := d) (o1 := none) g59 g66 (rt_m hn4 (vg_at_put g59) (vg_at_o rfl g66) a (by omega)) (by rw [rm1]; decide)
    rw [fp_put2] at this
    exact this
  · right
    have hb := (hB.2.2 s a).1
    have eu : (nI (u s)).toInt = (u s : Int) := nI_toInt (by omega)
    refine ⟨by omega, va, fun h => absurd h (by decide), go _ ?_⟩
    rw [e2 rfl]
    have := rx_b4 (X := X) (d := d) (o1 := none) g59 g66 (rt_l hB (vg_at_put g59) (vg_at_o rfl g66) a) (by omega) (rin_f l97 l122 (by omega)) (rin_f l48 l57 (by omega)) (by omega)
    rw [fp_put2, ← nI_succ] at this
    exact this
  · right
    have hb := (hB.2.2 s a).1
    have eu : (nI (u s)).toInt = (u s : Int) := nI_toInt (by omega)
    have c1 := hle.mp c
    refine ⟨by omega, va, fun h => absurd h (by decide), go _ ?_⟩
    rw [e0 rfl]
    refine rx_b2 g59 g66 (rt_l hB (vg_at_put g59) (vg_at_o rfl g66) a) (by omega) (rin_t (by omega) l97 l122 (by omega)) ?_
    rw [fp_put2]
    have := rt_let (X := X) (d := d) (y := nI (u s)) hB n s (ex_put w 59 (rC z mo ma ym dm dt tl hn hm (nI n) (nI s) (nI s) 1 va 0 wa)) (by omega) (by omega) (vg_at_put h59) (vg_at_o rfl h66)
    rw [fp_put2, ← hl] at this
    exact this
  · right
    refine ⟨by omega, nI v, fun _ => rfl, fig _ a c2 c ?_⟩
    rw [e1 rfl]
    have ef := tI_nsub hfs (show ff < 2 ^ 31 by omega)
    exact rx_f1 (w := ex_put w 59 (rC z mo ma ym dm dt tl hn hm (nI n) (nI ff) (nI s) 2 (nI v) 0 wa)) (vg_at_put h59) (vg_at_o rfl h66) (by omega)
  · left
    have hb := (hB.2.2 s a).1
    have eu : (nI (u s)).toInt = (u s : Int) := nI_toInt (by omega)
    by_cases c4 : tk_fi u s = true
    · have c5 : s + 2 < ff := by
        rcases c2 with c2 | c2
        · rw [c2] at c4; cases c4
        · exact c2
      have ef := tI_nsub hfs (show ff < 2 ^ 31 by omega)
      refine ⟨rfl, nI ff, 2, nI v, fig _ a c4 c ?_⟩
      have := rx_f2 (X := X) (d := d) (y := nI (u s)) (w := ex_put w 59 (rC z mo ma ym dm dt tl hn hm (nI n) (nI ff) (nI s) 2 (nI v) 0 wa)) (vg_at_put h59) (vg_at_o rfl h66) (by omega)
      rw [fp_put2] at this
      exact this
    · have c4 : tk_fi u s = false := by simpa using c4
      have c1 := hle'.mp c
      have c6 := hfi'.mp c4
      refine ⟨rfl, nI s + 1, 3, va, go _ ?_⟩
      have := rx_b5 (X := X) (d := d) (o1 := none) g59 g66 (rt_l hB (vg_at_put g59) (vg_at_o rfl g66) a) (by omega) (rin_f l97 l122 (by omega)) (rin_f l48 l57 (by omega)) (by omega)
      rw [fp_put2] at this
      exact this
end RK

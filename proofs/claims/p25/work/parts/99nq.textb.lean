/-! THE TEXT OF BOTH: its first draft, its loop, its end. -/
def tf0 : Nat → Int32 := up (up (fun _ => 0) 0 12) 1 2
def m4 : Int32 := (Int8.ofInt (-4)).toInt32
theorem m4_i : m4.toInt = -4 := by decide
section TF
variable {X : List Int32} {d dr : Nat} {B T : List Int32} {w : ex_W} {tf : Nat → Int32} {ta : Nat → List Int32} {z : Nat → Int32} {mo ma ym dm dt tl hn hm tp po fr so va fa wa : Int32}
theorem tw_first (hd : dr + 6 < 15) (hA : cA w dr B tf ta) (l0 : (ta 0).length = 4) (l1 : (ta 1).length = 17) : ∃ w' L0 L1, Go X (d + 1) mt_154 (ex_ent mt_154 [.ref dr]) w (none, w') ∧ cA w' dr B tf0 (up (up ta 0 L0) 1 L1) ∧ L0.length = 4 ∧ L1.length = 17 ∧ (∀ j, j < 4 → L0.getD j 0 = 1) ∧ (∀ j, j < 17 → L1.getD j 0 = m4) ∧ cF dr w w' ∧ ex_at w' 15 = ex_at w 15 := by
  have hA1 := hA.pt hd tf0
  obtain ⟨L0, a1, a2, g1⟩ := sh_fill0 (X := X) (d := d) (c := dr + 1 + 0) (x := 1) (l := ta 0) (by omega) (hA1.2.2 0 (by decide))
  have hA2 := hA1.pa hd (k := 0) (by decide) L0
  obtain ⟨L1, b1, b2, g2⟩ := sh_fill0 (X := X) (d := d) (c := dr + 1 + 1) (x := m4) (l := ta 1) (by omega) (hA2.2.2 1 (by decide))
  have hA3 := hA2.pa hd (k := 1) (by decide) L1
  refine ⟨_, L0, L1, tmf hA.2.1 g1 hA2.2.1 g2, hA3, by omega, by omega, fun j hj => a2 j (by omega), fun j hj => b2 j (by omega), ((cF.rf.pt (k := dr) (c := dT dr tf0) (Nat.le_refl _) (by omega)).pt (k := dr + 1 + 0) (c := .inl (.int, L0)) (by omega) (by omega)).pt (k := dr + 1 + 1) (c := .inl (.int, L1)) (by omega) (by omega), ?_⟩
  rw [vg_at_ne (sh_beq (show dr + 1 + 1 ≠ 15 by omega)), vg_at_ne (sh_beq (show dr + 1 + 0 ≠ 15 by omega)), vg_at_ne (sh_beq (show dr ≠ 15 by omega))]
def fdv (j : Nat) : Int32 := if 61 ≤ j ∧ j < 78 then m4 else 0
theorem rw_fd1 : ∀ (f i : Nat) (w : ex_W) (DR : List Int32), 96 - i ≤ f → i ≤ 96 → DR.length = 96 → ex_at w 59 = some (rC z mo ma ym dm dt tl hn hm tp po fr so va fa wa) → ex_at w 64 = some (.inl (.int, DR)) → ∃ DR', DR'.length = 96 ∧ (∀ j, j < 96 → DR'.getD j 0 = if i ≤ j then fdv j else DR.getD j 0) ∧ ∀ q, Go X d mt_90 (40, [some (.ref 59), some (.int 0)], []) (ex_put w 64 (.inl (.int, DR'))) q → Go X d mt_90 (2, [some (.ref 59), some (.int (nI i))], []) w q := by
  have stop : ∀ (i : Nat) (w : ex_W) (DR : List Int32), i = 96 → DR.length = 96 → ex_at w 64 = some (.inl (.int, DR)) → ∃ DR', DR'.length = 96 ∧ (∀ j, j < 96 → DR'.getD j 0 = if i ≤ j then fdv j else DR.getD j 0) ∧ ∀ q, Go X d mt_90 (40, [some (.ref 59), some (.int 0)], []) (ex_put w 64 (.inl (.int, DR'))) q → Go X d mt_90 (2, [some (.ref 59), some (.int (nI i))], []) w q := by
    intro i w DR hi hl h64
    have ei : (nI i).toInt = (i : Int) := nI_toInt (by omega)
    refine ⟨DR, hl, fun j hj => by rw [if_neg (by omega)], fun q kk => ?_⟩
    rw [fp_put_id h64] at kk
    exact rfd_d (by omega) kk
  intro f
  induction f with
  | zero => exact fun i w DR hf hi hl _ h64 => stop i w DR (by omega) hl h64
  | succ f ih =>
    intro i w DR hf hi hl h59 h64
    by_cases h96 : i = 96
    · exact stop i w DR h96 hl h64
    · have ei : (nI i).toInt = (i : Int) := nI_toInt (by omega)
      have hix : ex_ix (nI i) DR.length = true := by rw [hl]; exact fp_ix (by omega) (by decide)
      have hc : Int32.toNatClampNeg (nI i) = i := nI_clamp (by omega)
      obtain ⟨DR', k1, k2, k3⟩ := ih (i + 1) (ex_put w 64 (.inl (.int, ex_put DR i (fdv i)))) (ex_put DR i (fdv i)) (by omega) (by omega) (by rw [rl_len]; exact hl) (vg_at_o rfl h59) (vg_at_put h64)
      refine ⟨DR', k1, fun j hj => ?_, fun q kk => ?_⟩
      · rw [k2 j hj]
        by_cases h1 : i + 1 ≤ j
        · rw [if_pos h1, if_pos (by omega)]
        · rw [if_neg h1]
          by_cases h2 : i = j
          · subst h2
            rw [rl_x (by omega), if_pos (by omega)]
          · rw [rl_w (fun e => h2 e.symm), if_neg (by omega)]
      · have k4 := k3 q (by rw [fp_put2]; exact kk)
        rw [nI_succ] at k4
        unfold fdv at k4
        by_cases h61 : i < 61
        · rw [if_neg (by omega)] at k4
          exact rfd_a h59 h64 (by omega) (by omega) hix (by rw [hc]; exact k4)
        · by_cases h78 : i < 78
          · rw [if_pos (by omega)] at k4
            exact rfd_b h59 h64 (by omega) (by omega) (by omega) hix (by rw [hc]; exact k4)
          · rw [if_neg (by omega)] at k4
            exact rfd_c h59 h64 (by omega) (by omega) (by omega) hix (by rw [hc]; exact k4)
theorem rw_fd2 : ∀ (f i : Nat) (w : ex_W) (DW : List Int32), 4 - i ≤ f → i ≤ 4 → DW.length = 4 → ex_at w 59 = some (rC z mo ma ym dm dt tl hn hm tp po fr so va fa wa) → ex_at w 65 = some (.inl (.int, DW)) → ∃ DW', DW'.length = 4 ∧ (∀ j, j < 4 → DW'.getD j 0 = if i ≤ j then 1 else DW.getD j 0) ∧ Go X d mt_90 (40, [some (.ref 59), some (.int (nI i))], []) w (none, ex_put (ex_put w 65 (.inl (.int, DW'))) 59 (rC z mo ma ym 12 2 0 0 m4 tp po fr so va fa wa)) := by
  have stop : ∀ (i : Nat) (w : ex_W) (DW : List Int32), i = 4 → DW.length = 4 → ex_at w 59 = some (rC z mo ma ym dm dt tl hn hm tp po fr so va fa wa) → ex_at w 65 = some (.inl (.int, DW)) → ∃ DW', DW'.length = 4 ∧ (∀ j, j < 4 → DW'.getD j 0 = if i ≤ j then 1 else DW.getD j 0) ∧ Go X d mt_90 (40, [some (.ref 59), some (.int (nI i))], []) w (none, ex_put (ex_put w 65 (.inl (.int, DW'))) 59 (rC z mo ma ym 12 2 0 0 m4 tp po fr so va fa wa)) := by
    intro i w DW hi hl h59 h65
    have ei : (nI i).toInt = (i : Int) := nI_toInt (by omega)
    refine ⟨DW, hl, fun j hj => by rw [if_neg (by omega)], ?_⟩
    rw [fp_put_id h65]
    exact rfd_f h59 (by omega)
  intro f
  induction f with
  | zero => exact fun i w DW hf hi hl h59 h65 => stop i w DW (by omega) hl h59 h65
  | succ f ih =>
    intro i w DW hf hi hl h59 h65
    by_cases h4 : i = 4
    · exact stop i w DW h4 hl h59 h65
    · have ei : (nI i).toInt = (i : Int) := nI_toInt (by omega)
      have hix : ex_ix (nI i) DW.length = true := by rw [hl]; exact fp_ix (by omega) (by decide)
      have hc : Int32.toNatClampNeg (nI i) = i := nI_clamp (by omega)
      obtain ⟨DW', k1, k2, k3⟩ := ih (i + 1) (ex_put w 65 (.inl (.int, ex_put DW i 1))) (ex_put DW i 1) (by omega) (by omega) (by rw [rl_len]; exact hl) (vg_at_o rfl h59) (vg_at_put h65)
      refine ⟨DW', k1, fun j hj => ?_, ?_⟩
      · rw [k2 j hj]
        by_cases h1 : i + 1 ≤ j
        · rw [if_pos h1, if_pos (by omega)]
        · rw [if_neg h1]
          by_cases h2 : i = j
          · subst h2
            rw [rl_x (by omega), if_pos (by omega)]
          · rw [rl_w (fun e => h2 e.symm), if_neg (by omega)]
      · rw [fp_put2, nI_succ] at k3
        exact rfd_e h59 h65 (by omega) hix (by rw [hc]; exact k3)
theorem rw_fd {DR DW : List Int32} (h59 : ex_at w 59 = some (rC z mo ma ym dm dt tl hn hm tp po fr so va fa wa)) (hA : rA w T DR DW) (l6 : DR.length = 96) (l7 : DW.length = 4) : ∃ DR' DW' w', DR'.length = 96 ∧ DW'.length = 4 ∧ (∀ j, j < 96 → DR'.getD j 0 = fdv j) ∧ (∀ j, j < 4 → DW'.getD j 0 = 1) ∧ Go X d mt_90 (ex_ent mt_90 [.ref 59]) w (none, w') ∧ ex_at w' 59 = some (rC z mo ma ym 12 2 0 0 m4 tp po fr so va fa wa) ∧ rA w' T DR' DW' ∧ rF w w' := by
  obtain ⟨DR', a1, a2, a3⟩ := rw_fd1 (X := X) (d := d) 96 0 w DR (by omega) (by omega) l6 h59 hA.2.1
  obtain ⟨DW', b1, b2, b3⟩ := rw_fd2 (X := X) (d := d) 4 0 (ex_put w 64 (.inl (.int, DR'))) DW (by omega) (by omega) l7 (vg_at_o rfl h59) (vg_at_o rfl hA.2.2)
  exact ⟨DR', DW', _, a1, b1, fun j hj => by rw [a2 j hj, if_pos (by omega)], fun j hj => by rw [b2 j hj, if_pos (by omega)], rfd_0 h59 (a3 _ b3), vg_at_put (vg_at_o rfl (vg_at_o rfl h59)), ((hA.p64 _).p65 _).p59, ((rF.rf.p64).p65).p59⟩
theorem rl_first {L0 L1 DR DW : List Int32} (hl : (ta 2).length = 60 ∧ (ta 3).length = 5 ∧ (ta 4).length = 4 ∧ (ta 5).length = 4) (h0 : L0.length = 4) (h1 : L1.length = 17) (v0 : ∀ j, j < 4 → L0.getD j 0 = 1) (v1 : ∀ j, j < 17 → L1.getD j 0 = m4) (l6 : DR.length = 96) (l7 : DW.length = 4) (vD : ∀ j, j < 96 → DR.getD j 0 = fdv j) (vW : ∀ j, j < 4 → DW.getD j 0 = 1) : Rl tf0 (up (up ta 0 L0) 1 L1) 12 2 0 m4 DR DW 0 0 0 := by
  have fd0 : ∀ j, j < 96 → (j < 61 ∨ 78 ≤ j) → DR.getD j 0 = 0 := fun j a b => by
    rw [vD j a]
    unfold fdv
    rw [if_neg (by omega)]
  refine ⟨⟨h0, h1, hl.1, hl.2.1, hl.2.2.1, hl.2.2.2, l6, l7⟩, ⟨rfl, rfl, fd0 78 (by omega) (by omega), fd0 79 (by omega) (by omega), fd0 80 (by omega) (by omega), rfl, fd0 0 (by omega) (by omega), rfl, fd0 81 (by omega) (by omega), rfl, fd0 87 (by omega) (by omega), by omega, by omega, by omega, by decide, by decide, by decide, by decide⟩, fun i hi => ?_, fun i i1 i2 => ?_, fun i hi => by omega, fun i hi => by omega, fun i hi => by omega, fun k hk => ?_, fun k hk => ?_⟩
  · show DW.getD i 0 = L0.getD i 0
    rw [vW i hi, v0 i hi]
  · show DR.getD (61 + i) 0 = L1.getD i 0 ∧ ((L1.getD i 0).toInt = -4 ∨ _)
    rw [vD _ (by omega), v1 i (by omega)]
    refine ⟨?_, Or.inl m4_i⟩
    unfold fdv
    rw [if_pos (by omega)]
  · show (0 : Int32).toInt ≤ k ↔ (∀ i, 1 ≤ i → i ≤ 16 → ¬ (L1.getD i 0).toInt = -4 → (i : Int) ≤ k) ∧ _
    have e0 : (0 : Int32).toInt = 0 := by decide
    rw [e0]
    exact ⟨fun _ => ⟨fun i i1 i2 i3 => absurd (by rw [v1 i (by omega)]; exact m4_i) i3, fun i hi => by omega⟩, fun _ => by omega⟩
  · show m4.toInt < k ↔ (∀ i, 1 ≤ i → i ≤ 16 → (L1.getD i 0).toInt < k) ∧ _
    rw [m4_i]
    exact ⟨fun _ => ⟨fun i i1 i2 => by rw [v1 i (by omega), m4_i]; omega, fun i hi => by omega, fun i hi => by omega⟩, fun _ => by omega⟩
/-- keepDraft -/
theorem rw_kd1 {DR : List Int32} (l6 : DR.length = 96) : ∀ (f i : Nat) (w : ex_W) (ST : List Int32), 96 - i ≤ f → i ≤ 96 → ST.length = 288 → ex_at w 59 = some (rC z mo ma ym dm dt tl hn hm tp po fr so va fa wa) → ex_at w 60 = some (.inl (.int, ST)) → ex_at w 64 = some (.inl (.int, DR)) → ∃ ST', ST'.length = 288 ∧ (∀ j, ST'.getD j 0 = if i ≤ j ∧ j < 96 then DR.getD j 0 else ST.getD j 0) ∧ ∀ q, Go X d mt_91 (44, [some (.ref 59), some (.int 0)], []) (ex_put (ex_put w 60 (.inl (.int, ST'))) 59 (rC z dm dt ym dm dt tl hn hm tp po fr so va fa wa)) q → Go X d mt_91 (2, [some (.ref 59), some (.int (nI i))], []) w q := by
  have stop : ∀ (i : Nat) (w : ex_W) (ST : List Int32), i = 96 → ST.length = 288 → ex_at w 59 = some (rC z mo ma ym dm dt tl hn hm tp po fr so va fa wa) → ex_at w 60 = some (.inl (.int, ST)) → ∃ ST', ST'.length = 288 ∧ (∀ j, ST'.getD j 0 = if i ≤ j ∧ j < 96 then DR.getD j 0 else ST.getD j 0) ∧ ∀ q, Go X d mt_91 (44, [some (.ref 59), some (.int 0)], []) (ex_put (ex_put w 60 (.inl (.int, ST'))) 59 (rC z dm dt ym dm dt tl hn hm tp po fr so va fa wa)) q → Go X d mt_91 (2, [some (.ref 59), some (.int (nI i))], []) w q := by
    intro i w ST hi hl h59 h60
    have ei : (nI i).toInt = (i : Int) := nI_toInt (by omega)
    refine ⟨ST, hl, fun j => by rw [if_neg (by omega)], fun q kk => ?_⟩
    rw [fp_put_id h60] at kk
    exact rkd_b h59 (by omega) kk
  intro f
  induction f with
  | zero => exact fun i w ST hf hi hl h59 h60 _ => stop i w ST (by omega) hl h59 h60
  | succ f ih =>
    intro i w ST hf hi hl h59 h60 h64
    by_cases h96 : i = 96
    · exact stop i w ST h96 hl h59 h60
    · have ei : (nI i).toInt = (i : Int) := nI_toInt (by omega)
      have hc : Int32.toNatClampNeg (nI i) = i := nI_clamp (by omega)
      have hgd : ex_gd DR (Int32.toNatClampNeg (nI i)) = DR.getD i 0 := fp_gd (by omega)
      obtain ⟨ST', k1, k2, k3⟩ := ih (i + 1) (ex_put w 60 (.inl (.int, ex_put ST i (DR.getD i 0)))) (ex_put ST i (DR.getD i 0)) (by omega) (by omega) (by rw [rl_len]; exact hl) (vg_at_o rfl h59) (vg_at_put h60) (vg_at_o rfl h64)
      refine ⟨ST', k1, fun j => ?_, fun q kk => ?_⟩
      · rw [k2 j]
        by_cases h1 : i + 1 ≤ j ∧ j < 96
        · rw [if_pos h1, if_pos (by omega)]
        · rw [if_neg h1]
          by_cases h2 : i = j
          · subst h2
            rw [rl_x (by omega), if_pos (by omega)]
          · rw [rl_w (fun e => h2 e.symm), if_neg (by omega)]
      · have k4 := k3 q (by rw [fp_put2]; exact kk)
        rw [nI_succ] at k4
        refine rkd_a h59 h60 h64 (by omega) (by rw [l6]; exact fp_ix (by omega) (by decide)) (by rw [hl]; exact fp_ix (by omega) (by decide)) ?_
        rw [hgd, hc]
        exact k4
theorem ke_0 {KE : List Int32} (lk : KE.length = 2) : (ex_put (ex_put KE (Int32.toNatClampNeg 0) (ex_nar .boolean 0)) (Int32.toNatClampNeg 1) (ex_nar .boolean 0)).length = 2 ∧ ∀ k, k < 2 → (ex_put (ex_put KE (Int32.toNatClampNeg 0) (ex_nar .boolean 0)) (Int32.toNatClampNeg 1) (ex_nar .boolean 0)).getD k 0 = 0 := by
  have e0 : Int32.toNatClampNeg 0 = 0 := by decide
  have e1 : Int32.toNatClampNeg 1 = 1 := by decide
  have en : ex_nar .boolean 0 = 0 := by decide
  rw [e0, e1, en]
  refine ⟨by rw [rl_len, rl_len]; exact lk, fun k hk => ?_⟩
  match k, hk with
  | 0, _ => rw [rl_w (by omega), rl_x (by omega)]
  | 1, _ => rw [rl_x (by rw [rl_len]; omega)]
theorem rw_kd2 {DW KE : List Int32} (l7 : DW.length = 4) (lk : KE.length = 2) : ∀ (f i : Nat) (w : ex_W) (WE : List Int32), 4 - i ≤ f → i ≤ 4 → WE.length = 4 → ex_at w 59 = some (rC z mo ma ym dm dt tl hn hm tp po fr so va fa wa) → ex_at w 62 = some (.inl (.int, WE)) → ex_at w 65 = some (.inl (.int, DW)) → ex_at w 61 = some (.inl (.boolean, KE)) → ∃ WE' KE', (WE'.length = 4 ∧ (KE'.length = 2 ∧ ∀ k, k < 2 → KE'.getD k 0 = 0)) ∧ (∀ j, j < 4 → WE'.getD j 0 = if i ≤ j then DW.getD j 0 else WE.getD j 0) ∧ Go X d mt_91 (44, [some (.ref 59), some (.int (nI i))], []) w (none, ex_put (ex_put (ex_put w 62 (.inl (.int, WE'))) 59 (rC z mo ma 0 dm dt tl hn hm tp po fr so va fa wa)) 61 (.inl (.boolean, KE'))) := by
  have stop : ∀ (i : Nat) (w : ex_W) (WE : List Int32), i = 4 → WE.length = 4 → ex_at w 59 = some (rC z mo ma ym dm dt tl hn hm tp po fr so va fa wa) → ex_at w 62 = some (.inl (.int, WE)) → ex_at w 61 = some (.inl (.boolean, KE)) → ∃ WE' KE', (WE'.length = 4 ∧ (KE'.length = 2 ∧ ∀ k, k < 2 → KE'.getD k 0 = 0)) ∧ (∀ j, j < 4 → WE'.getD j 0 = if i ≤ j then DW.getD j 0 else WE.getD j 0) ∧ Go X d mt_91 (44, [some (.ref 59), some (.int (nI i))], []) w (none, ex_put (ex_put (ex_put w 62 (.inl (.int, WE'))) 59 (rC z mo ma 0 dm dt tl hn hm tp po fr so va fa wa)) 61 (.inl (.boolean, KE'))) := by
    intro i w WE hi hl h59 h62 h61
    have ei : (nI i).toInt = (i : Int) := nI_toInt (by omega)
    refine ⟨WE, ex_put (ex_put KE (Int32.toNatClampNeg 0) (ex_nar .boolean 0)) (Int32.toNatClampNeg 1) (ex_nar .boolean 0), ⟨hl, ke_0 lk⟩, fun j hj => by rw [if_neg (by omega)], ?_⟩
    rw [fp_put_id h62]
    exact rkd_d h59 h61 (by omega) (by rw [lk]; decide) (by rw [rl_len, lk]; decide)
  intro f
  induction f with
  | zero => exact fun i w WE hf hi hl h59 h62 _ h61 => stop i w WE (by omega) hl h59 h62 h61
  | succ f ih =>
    intro i w WE hf hi hl h59 h62 h65 h61
    by_cases h4 : i = 4
    · exact stop i w WE h4 hl h59 h62 h61
    · have ei : (nI i).toInt = (i : Int) := nI_toInt (by omega)
      have hc : Int32.toNatClampNeg (nI i) = i := nI_clamp (by omega)
      have hgd : ex_gd DW (Int32.toNatClampNeg (nI i)) = DW.getD i 0 := fp_gd (by omega)
      obtain ⟨WE', KE', k1, k2, k3⟩ := ih (i + 1) (ex_put w 62 (.inl (.int, ex_put WE i (DW.getD i 0)))) (ex_put WE i (DW.getD i 0)) (by omega) (by omega) (by rw [rl_len]; exact hl) (vg_at_o rfl h59) (vg_at_put h62) (vg_at_o rfl h65) (vg_at_o rfl h61)
      refine ⟨WE', KE', k1, fun j hj => ?_, ?_⟩
      · rw [k2 j hj]
        by_cases h1 : i + 1 ≤ j
        · rw [if_pos h1, if_pos (by omega)]
        · rw [if_neg h1]
          by_cases h2 : i = j
          · subst h2
            rw [rl_x (by omega), if_pos (by omega)]
          · rw [rl_w (fun e => h2 e.symm), if_neg (by omega)]
      · rw [fp_put2, nI_succ] at k3
        refine rkd_c h59 h62 h65 (by omega) (by rw [l7]; exact fp_ix (by omega) (by decide)) (by rw [hl]; exact fp_ix (by omega) (by decide)) ?_
        rw [hgd, hc]
        exact k3
theorem rw_keep {DR DW ST WE KE : List Int32} (l6 : DR.length = 96) (l7 : DW.length = 4) (ls : ST.length = 288) (lw : WE.length = 4) (lk : KE.length = 2) (h59 : ex_at w 59 = some (rC z mo ma ym dm dt tl hn hm tp po fr so va fa wa)) (h60 : ex_at w 60 = some (.inl (.int, ST))) (h61 : ex_at w 61 = some (.inl (.boolean, KE))) (h62 : ex_at w 62 = some (.inl (.int, WE))) (h64 : ex_at w 64 = some (.inl (.int, DR))) (h65 : ex_at w 65 = some (.inl (.int, DW))) : ∃ ST' WE' KE' w', ST'.length = 288 ∧ WE'.length = 4 ∧ (∀ j, ST'.getD j 0 = if j < 96 then DR.getD j 0 else ST.getD j 0) ∧ (∀ j, j < 4 → WE'.getD j 0 = DW.getD j 0) ∧ Go X d mt_91 (ex_ent mt_91 [.ref 59]) w (none, w') ∧ ex_at w' 59 = some (rC z dm dt 0 dm dt tl hn hm tp po fr so va fa wa) ∧ ex_at w' 60 = some (.inl (.int, ST')) ∧ ex_at w' 61 = some (.inl (.boolean, KE')) ∧ ex_at w' 62 = some (.inl (.int, WE')) ∧ (∀ q, q ≠ 59 → q ≠ 60 → q ≠ 61 → q ≠ 62 → ex_at w' q = ex_at w q) ∧ (KE'.length = 2 ∧ ∀ k, k < 2 → KE'.getD k 0 = 0) := by
  obtain ⟨ST', a1, a2, a3⟩ := rw_kd1 (X := X) (d := d) l6 96 0 w ST (by omega) (by omega) ls h59 h60 h64
  obtain ⟨WE', KE', ⟨b1, b0⟩, b2, b3⟩ := rw_kd2 (X := X) (d := d) (KE := KE) l7 lk 4 0 (ex_put (ex_put w 60 (.inl (.int, ST'))) 59 (rC z dm dt ym dm dt tl hn hm tp po fr so va fa wa)) WE (by omega) (by omega) lw (vg_at_put (vg_at_o rfl h59)) (vg_at_o rfl (vg_at_o rfl h62)) (vg_at_o rfl (vg_at_o rfl h65)) (vg_at_o rfl (vg_at_o rfl h61))
  refine ⟨ST', WE', KE', _, a1, b1, fun j => ?_, fun j hj => by rw [b2 j hj, if_pos (by omega)], rkd_0 h59 (a3 _ b3), vg_at_o rfl (vg_at_put (vg_at_o rfl (vg_at_put (vg_at_o rfl h59)))), vg_at_o rfl (vg_at_o rfl (vg_at_o rfl (vg_at_o rfl (vg_at_put h60)))), vg_at_put (vg_at_o rfl (vg_at_o rfl (vg_at_o rfl (vg_at_o rfl h61)))), vg_at_o rfl (vg_at_o rfl (vg_at_put (vg_at_o rfl (vg_at_o rfl h62)))), fun q q1 q2 q3 q4 => ?_, b0⟩
  · rw [a2 j]
    by_cases h : j < 96
    · rw [if_pos ⟨by omega, h⟩, if_pos h]
    · rw [if_neg (fun e => h e.2), if_neg h]
  · rw [vg_at_ne (sh_beq (fun e => q3 e.symm)), vg_at_ne (sh_beq (fun e => q1 e.symm)), vg_at_ne (sh_beq (fun e => q4 e.symm)), vg_at_ne (sh_beq (fun e => q1 e.symm)), vg_at_ne (sh_beq (fun e => q2 e.symm))]
end TF
section TL
variable {X : List Int32} {d n dr : Nat} {u : Nat → Nat} {B T : List Int32} {z : Nat → Int32} {mo ma ym : Int32} {w0 w20 : ex_W}
/-- what becomes of the lines from p on -/
def txRes (X : List Int32) (d : Nat) (u : Nat → Nat) (B T : List Int32) (z : Nat → Int32) (mo ma ym : Int32) (dr n : Nat) (w0 w20 w w2 : ex_W) (j : Nat) : Prop := (∃ s v w' w2' dm dt tl hn hm po fr so va fa, Go X (d + 7) mt_94 (34, [some (.ref 15), some (.ref dr), some (.int (nI j))], []) w (some (.int v), w') ∧ cBd dr n s w0 w' ∧ Go X (d + 7) mt_8 (20, [some (.ref 59), some (.int (nI j))], []) w2 (some (.int (((Int8.ofInt (-10)).toInt32) - nI s)), w2') ∧ ex_at w2' 59 = some (rC z mo ma ym dm dt tl hn hm 0 po fr so va fa (nI s)) ∧ rF w20 w2') ∨ (∃ j' w' w3 tf ta dm dt tl hn hm DR DW dn an wn po fr so va wa fp se p K S N, Go X (d + 7) mt_94 (34, [some (.ref 15), some (.ref dr), some (.int (nI j))], []) w (some (.int (nI j')), w') ∧ ex_at w' 15 = some (cT dr n 0 fp se p K S N) ∧ cA w' dr B tf ta ∧ cF dr w0 w' ∧ ex_at w3 59 = some (rC z mo ma ym dm dt tl hn hm (nI n) po fr so va 0 wa) ∧ rA w3 T DR DW ∧ rF w20 w3 ∧ (∀ w4, Go X (d + 6) mt_91 (ex_ent mt_91 [.ref 59]) (ex_put w3 59 (rC z mo ma ym dm dt tl hn hm 0 po fr so va 0 wa)) (none, w4) → Go X (d + 7) mt_8 (20, [some (.ref 59), some (.int (nI j))], []) w2 (some (.int (nI j')), w4)) ∧ Rl tf ta dm dt hn hm DR DW dn an wn)
theorem tl_loop (hd : dr + 6 < 15) (hB : cB u n B) (hR : rB u n T) : ∀ (f p j : Nat) (w w2 : ex_W) (sv : Nat) (tf : Nat → Int32) (ta : Nat → List Int32) (dm dt hn hm : Int32) (DR DW : List Int32) (dn an wn : Nat) (c : ex_E) (fp K S N : Int32), n - p < f → p ≤ n → j ≤ p → ex_at w 15 = some (cT dr n 0 fp (nI sv) p K S N) → cA w dr B tf ta → cF dr w0 w → ex_at w2 59 = some c → rAt u z mo ma ym dm dt (nI sv) hn hm n p c → rA w2 T DR DW → rF w20 w2 → Rl tf ta dm dt hn hm DR DW dn an wn → sv < 32 → txRes X d u B T z mo ma ym dr n w0 w20 w w2 j := by
  have hn4 : n ≤ 400 := hB.2.1
  -- the reference has failed
  have rbad : ∀ (w2 : ex_W) (c : ex_E) (s i : Nat), ex_at w2 59 = some c → rBad z mo ma ym n s c → rF w20 w2 → ∃ w2' dm dt tl hn hm po fr so va fa, Go X (d + 7) mt_8 (20, [some (.ref 59), some (.int (nI i))], []) w2 (some (.int (((Int8.ofInt (-10)).toInt32) - nI s)), w2') ∧ ex_at w2' 59 = some (rC z mo ma ym dm dt tl hn hm 0 po fr so va fa (nI s)) ∧ rF w20 w2' := by
    intro w2 c s i h59 hb hF
    obtain ⟨dm, dt, tl, hn, hm, po, fr, so, va, fa, hfa, rfl⟩ := hb
    exact ⟨_, dm, dt, tl, hn, hm, po, fr, so, va, fa, rtx_a h59 (by omega) (rtx_d h59 (by omega) hfa), vg_at_put h59, hF.p59⟩
  intro f
  induction f with
  | zero =>
    intro p j w w2 sv tf ta dm dt hn hm DR DW dn an wn c fp K S N hf
    omega
  | succ f ih =>
    intro p j w w2 sv tf ta dm dt hn hm DR DW dn an wn c fp K S N hf hp hj h15 hA hF h59 hc hA2 hF2 hRl hsv
    have ej : (nI j).toInt = (j : Int) := nI_toInt (by omega)
    rcases ct_next (X := X) (d := d + 5) hB hp h15 hA.1 with ⟨k4, P', K', N', g⟩ | ⟨k4, N', hN, g⟩
    · left
      rcases hc with ⟨k5, -⟩ | ⟨-, hb⟩
      · omega
      · obtain ⟨w3, dm', dt', tl', hn', hm', po, fr, so, va, fa, r1, r2, r3⟩ := rbad w2 c _ j h59 hb hF2
        exact ⟨_, nI j, _, w3, dm', dt', tl', hn', hm', po, fr, so, va, fa, tri_a h15 (by omega) g (tri_e (vg_at_put h15) (by decide)), ⟨⟨_, vg_at_put h15, 1, _, P', K', _, N', by decide, rfl⟩, hF.p15⟩, r1, r2, r3⟩
    · have hok : rOk u z mo ma ym dm dt (nI sv) hn hm n p c := by
        rcases hc with ⟨-, h⟩ | ⟨k5, -⟩
        · exact h
        · omega
      have i15 := vg_at_put (x := cT dr n 0 fp (nI sv) (tk_e u n p) (nI (tk_k u n p)) (nI (tk_s u n p)) N') h15
      have iA : cA _ dr B tf ta := hA.p15 hd (c := cT dr n 0 fp (nI sv) (tk_e u n p) (nI (tk_k u n p)) (nI (tk_s u n p)) N')
      have iF := hF.p15 (c := cT dr n 0 fp (nI sv) (tk_e u n p) (nI (tk_k u n p)) (nI (tk_s u n p)) N')
      have ek : (nI (tk_k u n p)).toInt = (tk_k u n p : Int) := nI_toInt (by omega)
      by_cases k3 : tk_k u n p = 3
      · have hs : tk_s u n p = n := by
          have h1 := tk_s_le u hp
          rcases tk_cases u n p with ⟨a, -⟩ | ⟨a, b, k⟩ | ⟨a, b, c', k⟩ | ⟨a, b, c', e, f', k⟩ | ⟨a, b, c', e, k⟩ <;> omega
        obtain ⟨va, wa, hva, rfl⟩ := hok
        have es : (nI ((tk_k u n p + 1) % 4)).toInt = 0 := by rw [k3]; decide
        rcases tw_names (X := X) (d := d + 5) iA hRl with ⟨⟨n1, n2⟩, gn⟩ | ⟨n1, gn⟩
        · right
          exact ⟨j, _, w2, tf, ta, dm, dt, nI sv, hn, hm, DR, DW, dn, an, wn, _, _, _, va, wa, fp, nI sv, tk_e u n p, _, _, N', tri_b h15 (by omega) g i15 (by omega) (tri_f i15 iA.2.1 gn), i15, iA, iF, h59, hA2, hF2, fun w4 g4 => rtx_b h59 es (rtx_e h59 n1 n2 g4), hRl⟩
        · left
          have gc := tri_b h15 (by omega) g i15 (by omega) (tri_g (i := nI j) i15 iA.2.1 gn (sh_beq (by omega)))
          have CB : cBd dr n n w0 (ex_put (ex_put w 15 (cT dr n 0 fp (nI sv) (tk_e u n p) (nI (tk_k u n p)) (nI (tk_s u n p)) N')) 15 (.inr (.inr (5, tr dr (nI n) 6 (nI n) (nI sv) (nI (tk_e u n p)) (nI (tk_k u n p)) (nI (tk_s u n p)) N')))) := ⟨⟨_, vg_at_put i15, 6, _, _, _, _, _, by decide, rfl⟩, iF.p15⟩
          rw [hs] at h59
          by_cases n3 : hn.toInt ≤ dm.toInt
          · exact ⟨n, nI j, _, _, dm, dt, nI sv, hn, hm, _, _, _, va, 6, gc, CB, rtx_b h59 es (rtx_g h59 n3 (by omega)), vg_at_put h59, hF2.p59⟩
          · exact ⟨n, nI j, _, _, dm, dt, nI sv, hn, hm, _, _, _, va, 6, gc, CB, rtx_b h59 es (rtx_f h59 (by omega)), vg_at_put h59, hF2.p59⟩
      · have hok' := hok
        obtain ⟨va, wa, hva, hc'⟩ := hok'
        have h59' := h59
        rw [hc'] at h59'
        have es : (nI ((tk_k u n p + 1) % 4)).toInt = (((tk_k u n p + 1) % 4 : Nat) : Int) := nI_toInt (by omega)
        rcases ln_both (X := X) (d := d) hd hB hR hp (by omega) i15 iA h59 hok hA2 hRl hsv with ⟨s, w', w3, y1, y2, y3, y4⟩ | ⟨p', sv', tf', ta', dm', dt', hn', hm', DR', DW', dn', an', wn', w', w3, y1, y2, y3, y4, y5, y6, y7, y8⟩
        · left
          obtain ⟨⟨cb, cb1, cb2⟩, cb3⟩ := y2
          obtain ⟨⟨rb, rb1, rb2⟩, rb3⟩ := y4
          have cb2' := cb2
          obtain ⟨fa', se', P', K', S', N2, hfa, rfl⟩ := cb2'
          obtain ⟨w4, dm', dt', tl', hn', hm', po, fr, so, va', fa, r1, r2, r3⟩ := rbad w3 rb s (j + 1) rb1 rb2 (hF2.tr rb3)
          refine ⟨s, nI j, w', w4, dm', dt', tl', hn', hm', po, fr, so, va', fa, tri_c h15 (by omega) g i15 (by omega) y1 (tri_e cb1 hfa), ⟨⟨_, cb1, cb2⟩, fun q q1 q2 => (cb3 q q1 q2).trans (iF q q1 q2)⟩, rtx_c h59' (by omega) y3 (by rw [← nI_succ]; exact r1), r2, r3⟩
        · obtain ⟨⟨fp', K', S', N2, x1⟩, x2, x3⟩ := y5
          obtain ⟨⟨c', v1, v2⟩, v3, v4⟩ := y7
          have R := ih p' (j + 1) w' w3 sv' tf' ta' dm' dt' hn' hm' DR' DW' dn' an' wn' c' fp' K' S' N2 (by omega) y2 (by omega) x1 x2 (fun q q1 q2 => (x3 q q1 q2).trans (iF q q1 q2)) v1 v2 v3 (hF2.tr v4) y8 y3
          have gc : ∀ q, Go X (d + 7) mt_94 (34, [some (.ref 15), some (.ref dr), some (.int (nI (j + 1)))], []) w' q → Go X (d + 7) mt_94 (34, [some (.ref 15), some (.ref dr), some (.int (nI j))], []) w q := fun q kk => tri_d h15 (by omega) g i15 (by omega) y4 (by rw [← nI_succ]; exact kk)
          have gr : ∀ q, Go X (d + 7) mt_8 (20, [some (.ref 59), some (.int (nI (j + 1)))], []) w3 q → Go X (d + 7) mt_8 (20, [some (.ref 59), some (.int (nI j))], []) w2 q := fun q kk => rtx_c h59' (by omega) y6 (by rw [← nI_succ]; exact kk)
          rcases R with ⟨s, v, w5, w6, dm2, dt2, tl2, hn2, hm2, po, fr, so, va', fa, r1, r2, r3, r4, r5⟩ | ⟨j', w5, w6, tf2, ta2, dm2, dt2, tl2, hn2, hm2, DR2, DW2, dn2, an2, wn2, po, fr, so, va', wa', fp2, se2, p2, K2, S2, N3, r1, r2, r3, r4, r5, r6, r7, r8, r9⟩
          · exact Or.inl ⟨s, v, w5, w6, dm2, dt2, tl2, hn2, hm2, po, fr, so, va', fa, gc _ r1, r2, gr _ r3, r4, r5⟩
          · exact Or.inr ⟨j', w5, w6, tf2, ta2, dm2, dt2, tl2, hn2, hm2, DR2, DW2, dn2, an2, wn2, po, fr, so, va', wa', fp2, se2, p2, K2, S2, N3, gc _ r1, r2, r3, r4, r5, r6, r7, fun w4 g4 => gr _ (r8 w4 g4), r9⟩
end TL

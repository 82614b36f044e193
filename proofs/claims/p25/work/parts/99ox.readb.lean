/-! read OF BOTH: the reference, and both. -/
section RB
variable {X : List Int32} {d t a : Nat} {w : ex_W} {tf : Nat → Int32} {ta : Nat → List Int32} {ST WE : List Int32} {dn an wn n : Nat} {la le y g : Int32} {gs fs4 : List Value} {CL LN SZ CE : List Int32}
/-- the reference's own cells, for read -/
def r5 (fs : List Value) (mo ma : Int32) : Prop := ex_at fs 0 = some (.ref 60) ∧ ex_at fs 2 = some (.int mo) ∧ ex_at fs 3 = some (.int ma) ∧ ex_at fs 22 = some (.ref 67) ∧ (∃ m, ex_at fs 23 = some (.int m)) ∧ ex_at fs 30 = some (.ref 73) ∧ ex_at fs 31 = some (.ref 74) ∧ ex_at fs 32 = some (.ref 75) ∧ ∃ m, ex_at fs 33 = some (.int m)
theorem ue_loop {kk : Nat} {F : Nat → Int} {Z : Nat → Int32} (hF : F = rdF la.toInt le.toInt y.toInt g.toInt) (hZ : Z = rdZ CL g.toInt) (hk : kk < 4) (hn : n ≤ 20) (hR : Rs tf ta ST WE dn an wn) (s6 : tf 5 = nI dn) (hg : 0 ≤ (ST.getD 78 0).toInt ∧ (ST.getD 78 0).toInt ≤ 20) (hla : (la.toInt = -1 ∧ (LN.getD kk 0).toInt = -4) ∨ (0 ≤ la.toInt ∧ la.toInt ≤ 2 ∧ 0 ≤ le.toInt ∧ le.toInt ≤ 40 ∧ LN.getD kk 0 = la ∧ SZ.getD kk 0 = le ∧ ∀ j, j < le.toInt.toNat → CL.getD j 0 = CE.getD (40 * kk + j) 0)) (ln : LN.length = 4) (lz : SZ.length = 4) (lc : CE.length = 160) : ∀ (f i : Nat) (w : ex_W) (fs5 : List Value) (RW : List Int32) (o1 o2 : Option Value), n - i ≤ f → i ≤ n → dn + i ≤ 60 → (∀ s, s < dn + i → 0 ≤ dJ ta dn Z i s ∧ dJ ta dn Z i s ≤ 16) → ex_at w 59 = some (.inr (.inr (8, fs5))) → r5 fs5 (tf 0) (tf 1) → ex_at w 60 = some (.inl (.int, stJ ST dn Z i)) → ex_at w 67 = some (.inl (.int, RW)) → RW.length = 130 → ex_at w 73 = some (.inl (.int, LN)) → ex_at w 74 = some (.inl (.int, SZ)) → ex_at w 75 = some (.inl (.int, CE)) → ∃ j r w' fs5', i ≤ j ∧ j ≤ n ∧ dn + j ≤ 60 ∧ (∀ s, i ≤ s → s < j → rdG tf ta dn Z F s) ∧ Go X (d + 3) mt_78 (40, [some (.ref 59), some (.int (nI kk)), some (.int y), some (.int g), some (.int (nI n)), some (.int (nI dn)), some (.int 0), some (.int (nI i)), some (.int (nI i)), o1, none, o2], []) w (some (.int r), w') ∧ (∀ q, q ≠ 59 → q ≠ 60 → q ≠ 67 → ex_at w' q = ex_at w q) ∧ ex_at w' 59 = some (.inr (.inr (8, fs5'))) ∧ (∀ q, q ≠ 23 → q ≠ 33 → ex_at fs5' q = ex_at fs5 q) ∧ (((j = n ∨ ¬ F j = 0) ∧ r = nI j ∧ ex_at w' 60 = some (.inl (.int, stJ ST dn Z j)) ∧ ∃ b : Int32, ex_at fs5' 33 = some (.int b) ∧ b.toInt = if j = n then 0 else F j) ∨ (j < n ∧ F j = 0 ∧ ¬ rdG tf ta dn Z F j ∧ r = m20 - nI j ∧ ex_at w' 60 = some (.inl (.int, ex_put (stJ ST dn Z j) 0 (nI dn))) ∧ ex_at fs5' 33 = ex_at fs5 33)) := by
  have en : (nI n).toInt = (n : Int) := nI_toInt (by omega)
  have l6 : ST.length = 288 := hR.1.2.2.2.2.2.2.1
  obtain ⟨s1, s2, s3, s4, s5, -, s7, s8, s9, s10, s11, s12, s13, s14, s15, s16, s17, s18⟩ := id hR.2.1
  have nz : ¬ tf 1 = 0 := fun e => by
    rw [e] at s17
    exact absurd s17 (by decide)
  have ck : Int32.toNatClampNeg (nI kk) = kk := nI_clamp (by omega)
  have ixn : ex_ix (nI kk) LN.length = true := by rw [ln]; exact fp_ix hk (by decide)
  have ixz : ex_ix (nI kk) SZ.length = true := by rw [lz]; exact fp_ix hk (by decide)
  have en73 : ex_gd LN (Int32.toNatClampNeg (nI kk)) = LN.getD kk 0 := by rw [ck, ex_gd_eq]
  have en74 : ex_gd SZ (Int32.toNatClampNeg (nI kk)) = SZ.getD kk 0 := by rw [ck, ex_gd_eq]
  -- the end, a fault or none found
  have out : ∀ (i i' : Nat) (b : Int32) (w : ex_W) (fs5 : List Value) (o1 o2 : Option Value), i' ≤ 21 → (i' = n ∨ (i' < n ∧ ¬ b.toInt = 0) ∨ n < i') → ex_at w 59 = some (.inr (.inr (8, fs5))) → r5 fs5 (tf 0) (tf 1) → Go X (d + 3) mt_78 (40, [some (.ref 59), some (.int (nI kk)), some (.int y), some (.int g), some (.int (nI n)), some (.int (nI dn)), some (.int b), some (.int (nI i)), some (.int (nI i')), o1, none, o2], []) w (some (.int (nI i)), ex_put w 59 (.inr (.inr (8, ex_put fs5 33 (.int b))))) := by
    intro i i' b w fs5 o1 o2 h21 hc h59 h5
    obtain ⟨-, -, -, -, -, -, -, -, m, f33⟩ := h5
    have ei : (nI i').toInt = (i' : Int) := nI_toInt (by omega)
    by_cases c : i' < n
    · exact ue_2 h59 f33 (by rw [ei, en]; omega) (by omega)
    · exact ue_1 h59 f33 (by rw [ei, en]; omega)
  intro f
  induction f with
  | zero =>
    intro i w fs5 RW o1 o2 hf hi hd hr h59 h5 h60 h67 lr h73 h74 h75
    obtain rfl : i = n := by omega
    obtain ⟨-, -, -, -, -, -, -, -, m, f33⟩ := id h5
    exact ⟨i, nI i, _, _, Nat.le_refl _, Nat.le_refl _, hd, fun s h1 h2 => by omega, out i i 0 w fs5 o1 o2 (by omega) (Or.inl rfl) h59 h5, fun q h1 _ _ => vg_at_ne (sh_beq (fun e => h1 e.symm)), vg_at_put h59, fun q _ h2 => vg_at_ne (sh_beq (fun e => h2 e.symm)), Or.inl ⟨Or.inl rfl, rfl, vg_at_o rfl h60, 0, vg_at_put f33, by rw [if_pos rfl]; decide⟩⟩
  | succ f ih =>
    intro i w fs5 RW o1 o2 hf hi hd hr h59 h5 h60 h67 lr h73 h74 h75
    obtain ⟨f0, f2, f3, f22, ⟨m23, f23⟩, f30, f31, f32, m33, f33⟩ := id h5
    by_cases ei : i = n
    · subst ei
      exact ⟨i, nI i, _, _, Nat.le_refl _, Nat.le_refl _, hd, fun s h1 h2 => by omega, out i i 0 w fs5 o1 o2 (by omega) (Or.inl rfl) h59 h5, fun q h1 _ _ => vg_at_ne (sh_beq (fun e => h1 e.symm)), vg_at_put h59, fun q _ h2 => vg_at_ne (sh_beq (fun e => h2 e.symm)), Or.inl ⟨Or.inl rfl, rfl, vg_at_o rfl h60, 0, vg_at_put f33, by rw [if_pos rfl]; decide⟩⟩
    · have ein : (nI i).toInt = (i : Int) := nI_toInt (by omega)
      have lt : (nI i).toInt < (nI n).toInt := by rw [ein, en]; omega
      have ep : (Int32.toInt64 g + Int32.toInt64 (nI i)).toInt = g.toInt + i := by rw [a64, ein]
      -- a fault found at i
      have bad : ∀ (b : Int32) (o : Option Value), b.toInt = F i → ¬ F i = 0 → (∀ q, Go X (d + 3) mt_78 (40, [some (.ref 59), some (.int (nI kk)), some (.int y), some (.int g), some (.int (nI n)), some (.int (nI dn)), some (.int b), some (.int (nI i)), some (.int (nI i + 1)), o, none, o2], []) w q → Go X (d + 3) mt_78 (40, [some (.ref 59), some (.int (nI kk)), some (.int y), some (.int g), some (.int (nI n)), some (.int (nI dn)), some (.int 0), some (.int (nI i)), some (.int (nI i)), o1, none, o2], []) w q) → ∃ j r w' fs5', i ≤ j ∧ j ≤ n ∧ dn + j ≤ 60 ∧ (∀ s, i ≤ s → s < j → rdG tf ta dn Z F s) ∧ Go X (d + 3) mt_78 (40, [some (.ref 59), some (.int (nI kk)), some (.int y), some (.int g), some (.int (nI n)), some (.int (nI dn)), some (.int 0), some (.int (nI i)), some (.int (nI i)), o1, none, o2], []) w (some (.int r), w') ∧ (∀ q, q ≠ 59 → q ≠ 60 → q ≠ 67 → ex_at w' q = ex_at w q) ∧ ex_at w' 59 = some (.inr (.inr (8, fs5'))) ∧ (∀ q, q ≠ 23 → q ≠ 33 → ex_at fs5' q = ex_at fs5 q) ∧ (((j = n ∨ ¬ F j = 0) ∧ r = nI j ∧ ex_at w' 60 = some (.inl (.int, stJ ST dn Z j)) ∧ ∃ b : Int32, ex_at fs5' 33 = some (.int b) ∧ b.toInt = if j = n then 0 else F j) ∨ (j < n ∧ F j = 0 ∧ ¬ rdG tf ta dn Z F j ∧ r = m20 - nI j ∧ ex_at w' 60 = some (.inl (.int, ex_put (stJ ST dn Z j) 0 (nI dn))) ∧ ex_at fs5' 33 = ex_at fs5 33)) := by
        intro b o hb hF0 hgo
        have k := out i (i + 1) b w fs5 o o2 (by omega) (by omega) h59 h5
        rw [nI_succ] at k
        exact ⟨i, nI i, _, _, Nat.le_refl _, hi, hd, fun s h1 h2 => by omega, hgo _ k, fun q h1 _ _ => vg_at_ne (sh_beq (fun e => h1 e.symm)), vg_at_put h59, fun q _ h2 => vg_at_ne (sh_beq (fun e => h2 e.symm)), Or.inl ⟨Or.inr hF0, rfl, vg_at_o rfl h60, b, vg_at_put f33, by rw [if_neg ei]; exact hb⟩⟩
      have hFi : F i = rdF la.toInt le.toInt y.toInt g.toInt i := by rw [hF]
      rcases hla with ⟨q1, q2⟩ | ⟨q1, q1', q2, q3, q4, q5, q6⟩
      · have e : F i = 1 := by rw [hFi]; exact if_pos q1
        exact bad 1 _ (by rw [e]; decide) (by omega) (fun q kk' => ue_3 h59 f30 h73 lt ixn (by rw [en73]; exact q2) kk')
      · have ne : ¬ (LN.getD kk 0).toInt = -4 := by rw [q4]; omega
        by_cases c2 : la.toInt = y.toInt
        · by_cases c3 : g.toInt + i < 0
          · have e : F i = 2 := by
              rw [hFi]
              unfold rdF
              rw [if_neg (by omega), if_neg (fun h => h c2), if_neg (by omega)]
            exact bad 2 _ (by rw [e]; decide) (by omega) (fun q kk' => ue_5 h59 f30 h73 lt ixn (by rw [en73]; exact ne) ixn (by rw [en73, q4]; exact c2) ((lg_lt0 _ _).mpr (by rw [ep, e64_0]; exact c3)) kk')
          · have p0 : Int32.toInt (lg_cmp ((Int32.toInt64 (g)) + (Int32.toInt64 (nI i))) 0) ≥ 0 := by
              have := lg_lt0 ((Int32.toInt64 (g)) + (Int32.toInt64 (nI i))) 0
              rw [ep, e64_0] at this
              omega
            by_cases c4 : g.toInt + i < le.toInt
            · have e : F i = 0 := by
                rw [hFi]
                unfold rdF
                rw [if_neg (by omega), if_neg (fun h => h c2), if_pos (by omega)]
              have p1 : Int32.toInt (lg_cmp ((Int32.toInt64 (g)) + (Int32.toInt64 (nI i))) (Int32.toInt64 ((ex_gd SZ (Int32.toNatClampNeg (nI kk)))))) < 0 := by
                rw [lg_lt0, ep, en74, q5, Int32.toInt_toInt64]
                exact c4
              -- where the cell lies
              have hw := a32 (g := g) (i := i) (by omega)
              have eidx : (((40 : Int32) * nI kk) + g) + nI i = nI (40 * kk + (g.toInt + i).toNat) := by
                have eg : g = nI g.toInt.toNat ∨ g.toInt < 0 := by
                  by_cases c : 0 ≤ g.toInt
                  · exact Or.inl (tI_nI (by omega) (by omega))
                  · exact Or.inr (by omega)
                have e40 : (40 : Int32) * nI kk = nI (40 * kk) := by
                  match kk, hk with
                  | 0, _ => decide
                  | 1, _ => decide
                  | 2, _ => decide
                  | 3, _ => decide
                have t1 : (nI (40 * kk)).toInt = ((40 * kk : Nat) : Int) := nI_toInt (by omega)
                have hgb : -2147483648 ≤ g.toInt ∧ g.toInt ≤ 2147483647 := ai_okI g
                have t2 : (nI (40 * kk) + g).toInt = ((40 * kk : Nat) : Int) + g.toInt := by rw [tI_add (by rw [t1]; omega) (by rw [t1]; omega), t1]
                rw [e40]
                apply tI_nI
                · rw [tI_add (by rw [t2, ein]; omega) (by rw [t2, ein]; omega), t2, ein]
                  omega
                · omega
              have ixc : ex_ix ((((40 : Int32) * nI kk) + g) + nI i) CE.length = true := by rw [eidx, lc]; exact fp_ix (by omega) (by decide)
              have eZ : ex_gd CE (Int32.toNatClampNeg ((((40 : Int32) * nI kk) + g) + nI i)) = Z i := by
                rw [eidx, nI_clamp (by omega), ex_gd_eq, hZ]
                exact (q6 (g.toInt + i).toNat (by omega)).symm
              -- the day
              have hRi := Rs.days (Z := Z) hR s6 i hd
              have lsi : (stJ ST dn Z i).length = 288 := (stJ_len ST dn Z i).trans l6
              have e78 : (stJ ST dn Z i).getD 78 0 = ST.getD 78 0 := stJ_hi ST dn Z i 78 hd (by omega)
              have e79 : (stJ ST dn Z i).getD 79 0 = ST.getD 79 0 := stJ_hi ST dn Z i 79 hd (by omega)
              have s7i : (stJ ST dn Z i).getD 0 0 = nI (dn + i) := hRi.2.1.2.2.2.2.2.2.1
              have hDi : ∀ s, s < dn + i → ((stJ ST dn Z i).getD (1 + s) 0).toInt = dJ ta dn Z i s ∧ 0 ≤ dJ ta dn Z i s ∧ dJ ta dn Z i s ≤ 16 := fun s hs => ⟨congrArg Int32.toInt (hRi.2.2.2.2.1 s hs), hr s hs⟩
              obtain ⟨r1, w1, fs5', RW', m1, m2, m3, m4, m5, m6, m7, m8⟩ := ur_all (X := X) (d := d) (w := w) (x := Z i) (D := dJ ta dn Z i) (dn := dn + i) h59 f0 f2 f3 f22 f23 h60 lsi h67 lr s7i hd hDi (by rw [e78]; exact hg) s16 nz
              rw [e78, e79, show (ST.getD 78 0).toInt = (tf 2).toInt from congrArg Int32.toInt s3, show (ST.getD 79 0).toInt = (tf 3).toInt from congrArg Int32.toInt s4] at m8
              have i0 : ex_ix 0 (stJ ST dn Z i).length = true := by rw [lsi]; decide
              have e00 : Int32.toNatClampNeg 0 = 0 := by decide
              have g0 : ex_gd (stJ ST dn Z i) (Int32.toNatClampNeg 0) = nI (dn + i) := by rw [e00, ex_gd_eq]; exact s7i
              have edi : (nI (dn + i)).toInt = ((dn + i : Nat) : Int) := nI_toInt (by omega)
              have n0 : ex_at fs5' 0 = some (.ref 60) := (m3 0 (by omega)).trans f0
              have m1' : Go X (d + 2) mt_36 (ex_ent mt_36 [.ref 59, .int (ex_gd CE (Int32.toNatClampNeg ((((40 : Int32) * nI kk) + g) + nI i)))]) w (some (.int r1), w1) := by rw [eZ]; exact m1
              rcases m8 with ⟨ma, mb, -⟩ | ⟨ma, mb, -⟩
              · have hdn' : dn + i < 60 := by
                  by_cases c : dn + i < 60
                  · exact c
                  · rw [acc_d c] at ma
                    exact absurd ma (by decide)
                have xr : 0 ≤ (Z i).toInt ∧ (Z i).toInt ≤ 16 := by
                  by_cases c0 : (Z i).toInt = 0
                  · omega
                  · by_cases c1 : 1 ≤ (Z i).toInt ∧ (Z i).toInt ≤ (tf 0).toInt
                    · omega
                    · rw [acc_n c0 c1] at ma
                      exact absurd ma (by decide)
                have mb' : ex_at w1 60 = some (.inl (.int, stJ ST dn Z (i + 1))) := mb
                have l2 : (ta 2).length = 60 := hR.1.2.2.1
                obtain ⟨j, r, w', fs5'', j1, j2, j3, j4, j5, j6, j7, j8, j9⟩ := ih (i + 1) w1 fs5' RW' (some (.long (Int32.toInt64 g + Int32.toInt64 (nI i)))) (some (.int (ex_gd (stJ ST dn Z i) (Int32.toNatClampNeg 0)))) (by omega) (by omega) (by omega) (fun s hs => by
                  show 0 ≤ ((ex_put (dlJ (ta 2) dn Z i) (dn + i) (Z i)).getD s 0).toInt ∧ ((ex_put (dlJ (ta 2) dn Z i) (dn + i) (Z i)).getD s 0).toInt ≤ 16
                  by_cases c : s = dn + i
                  · rw [c, rl_x (by rw [dlJ_len, l2]; omega)]
                    exact xr
                  · rw [rl_w c]
                    exact hr s (by omega)) m2 ⟨n0, (m3 2 (by omega)).trans f2, (m3 3 (by omega)).trans f3, (m3 22 (by omega)).trans f22, m4, (m3 30 (by omega)).trans f30, (m3 31 (by omega)).trans f31, (m3 32 (by omega)).trans f32, m33, (m3 33 (by omega)).trans f33⟩ mb' m5 m6 ((m7 73 (by omega) (by omega) (by omega)).trans h73) ((m7 74 (by omega) (by omega) (by omega)).trans h74) ((m7 75 (by omega) (by omega) (by omega)).trans h75)
                rw [nI_succ] at j5
                have l1i : (stJ ST dn Z (i + 1)).length = 288 := (stJ_len ST dn Z (i + 1)).trans l6
                have g1 : ex_gd (stJ ST dn Z (i + 1)) (Int32.toNatClampNeg 0) = nI (dn + i + 1) := by
                  rw [e00, ex_gd_eq]
                  exact rl_x (by rw [rl_len, lsi]; omega)
                refine ⟨j, r, w', fs5'', by omega, j2, j3, fun s h1 h2 => ?_, ue_7 h59 f0 f30 f31 f32 h60 h73 h74 h75 lt ixn (by rw [en73]; exact ne) ixn (by rw [en73, q4]; exact c2) p0 ixz p1 i0 ixc m1' m2 n0 mb' (by rw [l1i]; decide) (by rw [g1, g0, edi, nI_toInt (by omega)]; omega) j5, fun q h1 h2 h3 => (j6 q h1 h2 h3).trans (m7 q h1 h2 h3), j7, fun q h1 h2 => (j8 q h1 h2).trans (m3 q h1), ?_⟩
                · by_cases c : s = i
                  · rw [c]
                    exact ⟨e, ma⟩
                  · exact j4 s (by omega) h2
                · rcases j9 with h | ⟨h1, h2, h3, h4, h5, h6⟩
                  · exact Or.inl h
                  · exact Or.inr ⟨h1, h2, h3, h4, h5, h6.trans (m3 33 (by omega))⟩
              · have k := ue_8 (X := X) (d := d + 2) (y := y) (o1 := o1) (o2 := o2) (e := nI dn) (v := nI i) h59 f0 f30 f31 f32 h60 h73 h74 h75 lt ixn (by rw [en73]; exact ne) ixn (by rw [en73, q4]; exact c2) p0 ixz p1 i0 ixc m1' m2 n0 mb i0 rfl i0
                rw [e00] at k
                refine ⟨i, _, _, fs5', Nat.le_refl _, hi, hd, fun s h1 h2 => by omega, k, fun q h1 h2 h3 => (vg_at_ne (sh_beq (fun e => h2 e.symm))).trans (m7 q h1 h2 h3), vg_at_o rfl m2, fun q h1 _ => m3 q h1, Or.inr ⟨by omega, e, fun h => ?_, rfl, vg_at_put mb, m3 33 (by omega)⟩⟩
                have h2 := h.2
                rw [ma] at h2
                exact absurd h2 (by decide)
            · have e : F i = 2 := by
                rw [hFi]
                unfold rdF
                rw [if_neg (by omega), if_neg (fun h => h c2), if_neg (by omega)]
              exact bad 2 _ (by rw [e]; decide) (by omega) (fun q kk' => ue_6 h59 f30 f31 h73 h74 lt ixn (by rw [en73]; exact ne) ixn (by rw [en73, q4]; exact c2) p0 ixz (by
                have := lg_lt0 ((Int32.toInt64 (g)) + (Int32.toInt64 (nI i))) (Int32.toInt64 (ex_gd SZ (Int32.toNatClampNeg (nI kk))))
                rw [ep, en74, q5, Int32.toInt_toInt64] at this
                rw [en74, q5]
                omega) kk')
        · have e : F i = 3 := by
            rw [hFi]
            unfold rdF
            rw [if_neg (by omega), if_pos c2]
          exact bad 3 _ (by rw [e]; decide) (by omega) (fun q kk' => ue_4 h59 f30 h73 lt ixn (by rw [en73]; exact ne) ixn (by rw [en73, q4]; exact c2) kk')
end RB
theorem up_id {α : Type} {f : Nat → α} {k : Nat} {v : α} (h : f k = v) : up f k v = f := by
  funext i
  by_cases e : i = k
  · rw [e, up_eq, h]
  · rw [up_ne _ _ e]
section RC
variable {t : Nat} {w : ex_W} {tf : Nat → Int32} {ta : Nat → List Int32} {ST WE : List Int32} {dn an wn : Nat} {k y g c : Int32}
theorem st_read (h : stR w t tf ta ST WE dn an wn) (hC : dyC w) (hs : sh_A w) (hc : sh_C w) (h13 : ∀ gs, ex_at w 0 = some (.inr (.inr (7, gs))) → ∃ m, ex_at gs 13 = some (.int m)) (h33 : ∀ fs5, ex_at w 59 = some (.inr (.inr (8, fs5))) → ∃ m, ex_at fs5 33 = some (.int m)) : ∃ r wx wm tf' ta' ST' dn', Go [] 39 mt_77 (ex_ent mt_77 [.ref 0, .int k, .int y, .int g, .int c]) w (some (.int r), wx) ∧ Go [] 39 mt_78 (ex_ent mt_78 [.ref 59, .int k, .int y, .int g, .int c]) wx (some (.int r), wm) ∧ stR wm t tf' ta' ST' WE dn' an wn ∧ (tf' 0 = tf 0 ∧ tf' 1 = tf 1 ∧ ta' 0 = ta 0) ∧ (∀ j, 96 ≤ j → ST'.getD j 0 = ST.getD j 0) ∧ ((fd wm 0 13 = fd w 0 13 ∧ fd wm 59 33 = fd w 59 33) ∨ fd wm 0 13 = fd wm 59 33) ∧ ∀ q, q ≠ 0 → ¬ (t ≤ q ∧ q ≤ t + 6) → ¬ (17 ≤ q ∧ q ≤ 20) → q ≠ 59 → q ≠ 60 → q ≠ 67 → ex_at wm q = ex_at w q := by
  obtain ⟨t0, t6, ⟨gs, h0, g9⟩, hT, ⟨fs5, h59, f0, f2, f3, f4⟩, h60, h62, hR⟩ := id h
  have l2 : (ta 2).length = 60 := hR.1.2.2.1
  obtain ⟨s1, s2, s3, s4, s5, s6, s7, s8, s9, s10, s11, s12, s13, s14, s15, s16, s17, s18⟩ := id hR.2.1
  obtain ⟨⟨fsA, vvA, mmA, RUA, LBA, LAA, a17, -⟩, g1, c3, ⟨RW0, h67, lr⟩, hrg⟩ := id hC
  obtain ⟨hg, hd⟩ := hrg ST h60
  have g1 := g1 gs h0
  obtain ⟨f22, m23, f23⟩ := c3 fs5 h59
  obtain ⟨m33, f33⟩ := h33 fs5 h59
  have e20 : (20 : Int64).toInt = 20 := by decide
  -- refused at once
  have bad : Go [] 39 mt_77 (ex_ent mt_77 [.ref 0, .int k, .int y, .int g, .int c]) w (some (.int (Int32.ofInt (-1))), w) → Go [] 39 mt_78 (ex_ent mt_78 [.ref 59, .int k, .int y, .int g, .int c]) w (some (.int (Int32.ofInt (-1))), w) → ∃ r wx wm tf' ta' ST' dn', Go [] 39 mt_77 (ex_ent mt_77 [.ref 0, .int k, .int y, .int g, .int c]) w (some (.int r), wx) ∧ Go [] 39 mt_78 (ex_ent mt_78 [.ref 59, .int k, .int y, .int g, .int c]) wx (some (.int r), wm) ∧ stR wm t tf' ta' ST' WE dn' an wn ∧ (tf' 0 = tf 0 ∧ tf' 1 = tf 1 ∧ ta' 0 = ta 0) ∧ (∀ j, 96 ≤ j → ST'.getD j 0 = ST.getD j 0) ∧ ((fd wm 0 13 = fd w 0 13 ∧ fd wm 59 33 = fd w 59 33) ∨ fd wm 0 13 = fd wm 59 33) ∧ ∀ q, q ≠ 0 → ¬ (t ≤ q ∧ q ≤ t + 6) → ¬ (17 ≤ q ∧ q ≤ 20) → q ≠ 59 → q ≠ 60 → q ≠ 67 → ex_at wm q = ex_at w q := fun ga gb => ⟨_, w, w, tf, ta, ST, dn, ga, gb, h, ⟨rfl, rfl, rfl⟩, fun _ _ => rfl, Or.inl ⟨rfl, rfl⟩, fun _ _ _ _ _ _ _ => rfl⟩
  by_cases hky : 0 ≤ k.toInt ∧ k.toInt ≤ 3 ∧ 0 ≤ y.toInt ∧ y.toInt ≤ 2
  · have gS : Go [] 38 mt_147 (ex_ent mt_147 [.int k, .int y]) w (some (.int 1), w) := vis_t (d := 37) hky
    by_cases hcc : 0 ≤ c.toInt ∧ c.toInt ≤ 20
    · have ek : k = nI k.toInt.toNat := tI_nI (by omega) (by omega)
      have ec : c = nI c.toInt.toNat := tI_nI (by omega) (by omega)
      have hk4 : k.toInt.toNat < 4 := by omega
      have hn20 : c.toInt.toNat ≤ 20 := by omega
      generalize k.toInt.toNat = kk at ek hk4
      generalize c.toInt.toNat = n at ec hn20
      subst ek
      subst ec
      obtain ⟨fs4, CL, LN, SZ, CE, la, le, p1, p2, p3, p4, p5, p6, p7, p8, p9, p10, p11, p12, p13⟩ := hs kk hk4
      obtain ⟨gs', fs5', j1, j2, j3, j4, j5, j6, j7⟩ := hc
      obtain rfl := at_obj h0 j1
      obtain rfl := at_obj h59 j4
      obtain ⟨w1, b1, b2, hT1, b3⟩ := dy_begin (X := []) (d := 37) (k := 0) h hC (by omega)
      rw [nI_0] at b1
      have F1 : ∀ q, ¬ (17 ≤ q ∧ q ≤ 20) → ex_at w1 q = ex_at w q := b3
      have ent : ∀ q, Go [] 39 mt_77 (70, [some (.ref 0), some (.int (nI kk)), some (.int y), some (.int g), some (.int (nI n)), some (.ref (51 + 2 * kk)), some (.int (nI dn)), some (.int 0), some (.int (nI 0)), some (.int (nI 0)), none], []) w1 q → Go [] 39 mt_77 (ex_ent mt_77 [.ref 0, .int (nI kk), .int y, .int g, .int (nI n)]) w q := by
        intro q kq
        rw [nI_0, ← s6] at kq
        have cn : Int32.toInt (nI n) ≥ 0 ∧ Int32.toInt (nI n) ≤ 20 := by rw [nI_toInt (by omega)]; omega
        match kk, hk4, kq with
        | 0, _, kq => exact qr_k0 h0 g1 j2 g9 j3 hT.1 a17 hky.2.2.1 hky.2.2.2 cn.1 cn.2 b1 kq
        | 1, _, kq => exact qr_k1 h0 g1 j2 g9 j3 hT.1 a17 hky.2.2.1 hky.2.2.2 cn.1 cn.2 b1 kq
        | 2, _, kq => exact qr_k2 h0 g1 j2 g9 j3 hT.1 a17 hky.2.2.1 hky.2.2.2 cn.1 cn.2 b1 kq
        | 3, _, kq => exact qr_k3 h0 g1 j2 g9 j3 hT.1 a17 hky.2.2.1 hky.2.2.2 cn.1 cn.2 b1 kq
      have hle : la.toInt = -1 ∨ (0 ≤ le.toInt ∧ le.toInt ≤ 40) := by
        rcases p13 with ⟨q, -⟩ | ⟨-, -, q1, q2, -⟩
        · exact Or.inl q
        · exact Or.inr ⟨q1, q2⟩
      have et : up tf 5 (nI (dn + 0)) = tf := up_id s6
      have ea : up ta 2 (dlJ (ta 2) dn (rdZ CL g.toInt) 0) = ta := up_id rfl
      have ap : 51 + 2 * kk + 1 = 52 + 2 * kk := by omega
      obtain ⟨j, r, wx, u1, u2, u3, u4, u5, u6, u7⟩ := re_loop (X := []) (d := 37) (k := nI kk) (n := n) (F := rdF la.toInt le.toInt y.toInt g.toInt) (Z := rdZ CL g.toInt) (a := 51 + 2 * kk) (e := 0) rfl rfl t0 t6 (by omega) hn20 s12 s6 s15 s16 l2 g1 g9 (h13 gs h0) (by rw [ap]; exact p2) p3 p4 p9 hle n 0 w1 none (by omega) (by omega) (by omega) ((F1 0 (by omega)).trans h0) ((F1 (51 + 2 * kk) (by omega)).trans p1) (by rw [ap]; exact (F1 (52 + 2 * kk) (by omega)).trans p5) (by rw [et, ea]; exact hT1) (b2.cg (fun i hi => if_pos (by omega)))
      have gx := ent _ u5
      have hi : ∀ q, 59 ≤ q → ex_at wx q = ex_at w q := fun q hq => (u6 q (by omega) (by omega) (by omega)).trans (F1 q (by omega))
      have hI := hi
      obtain ⟨j', r', wm, fs5m, v1, v2, v3, v4, v5, v6, v7, v8, v9⟩ := ue_loop (X := []) (d := 36) (kk := kk) (n := n) (F := rdF la.toInt le.toInt y.toInt g.toInt) (Z := rdZ CL g.toInt) rfl rfl hk4 hn20 hR s6 hg p13 p10 p11 p12 n 0 wx fs5 RW0 none none (by omega) (by omega) (by omega) (fun s hs => by
        have e := hd s (by omega)
        rw [show ST.getD (1 + s) 0 = (ta 2).getD s 0 from hR.2.2.2.2.1 s (by omega)] at e
        exact e) ((hi 59 (by omega)).trans h59) ⟨f0, f2, f3, f22, ⟨m23, f23⟩, j5, j6, j7, m33, f33⟩ ((hi 60 (by omega)).trans h60) ((hi 67 (by omega)).trans h67) lr ((hi 73 (by omega)).trans p6) ((hi 74 (by omega)).trans p7) ((hi 75 (by omega)).trans p8)
      have gm : Go [] 39 mt_78 (ex_ent mt_78 [.ref 59, .int (nI kk), .int y, .int g, .int (nI n)]) wx (some (.int r'), wm) := by
        refine um_3 (d := 38) ((hi 59 (by omega)).trans h59) f0 ((hi 60 (by omega)).trans h60) (vis_t (d := 37) hky) (sin_t rfl (l := 0) (h := 20) (by decide) e20 hcc.1 hcc.2) (by rw [hR.1.2.2.2.2.2.2.1]; decide) ?_
        rw [show Int32.toNatClampNeg 0 = 0 by decide, ex_gd_eq, show ST.getD 0 0 = nI dn from s7]
        rw [nI_0] at v5
        exact v5
      have ej : j = j' := rd_one (n := n) (P := rdG tf ta dn (rdZ CL g.toInt) (rdF la.toInt le.toInt y.toInt g.toInt)) (fun s hs => u4 s (by omega) hs) u2 (by
        rcases u7 with ⟨q, -⟩ | ⟨-, -, q, -⟩
        · rcases q with q | q
          · exact Or.inl q
          · exact Or.inr (fun hh => q hh.1)
        · exact Or.inr q) (fun s hs => v4 s (by omega) hs) v2 (by
        rcases v9 with ⟨q, -⟩ | ⟨-, -, q, -⟩
        · rcases q with q | q
          · exact Or.inl q
          · exact Or.inr (fun hh => q hh.1)
        · exact Or.inr q)
      subst ej
      have k62 : ex_at wm 62 = some (.inl (.int, WE)) := (v6 62 (by omega) (by omega) (by omega)).trans ((hi 62 (by omega)).trans h62)
      have FF : ∀ q, q ≠ 0 → ¬ (t ≤ q ∧ q ≤ t + 6) → ¬ (17 ≤ q ∧ q ≤ 20) → q ≠ 59 → q ≠ 60 → q ≠ 67 → ex_at wm q = ex_at w q := fun q a b c d e f => (v6 q d e f).trans ((u6 q a b c).trans (F1 q c))
      rcases u7 with ⟨q1, q2, q3, bb, q4, q5⟩ | ⟨q1, q2, q3, q4, q5, q6⟩
      · rcases v9 with ⟨z1, z2, z3, bm, z4, z5⟩ | ⟨z1, z2, -⟩
        · have ebb : bb = bm := Int32.toInt_inj.mp (q5.trans z5.symm)
          subst ebb
          have k0 := (v6 0 (by omega) (by omega) (by omega)).trans q4
          refine ⟨r, wx, wm, _, _, _, dn + j, gx, by rw [q2, ← z2]; exact gm, ⟨t0, t6, ⟨_, k0, vg_at_o rfl g9⟩, q3.off (fun q a b => v6 q (by omega) (by omega) (by omega)), ⟨fs5m, v7, (v8 0 (by omega) (by omega)).trans f0, (v8 2 (by omega) (by omega)).trans f2, (v8 3 (by omega) (by omega)).trans f3, (v8 4 (by omega) (by omega)).trans f4⟩, z3, k62, hR.days s6 j u3⟩, ⟨rfl, rfl, rfl⟩, fun q hq => stJ_hi _ _ _ j q u3 (by omega), Or.inr ?_, FF⟩
          obtain ⟨m13, g13⟩ := h13 gs h0
          exact (fd_obj k0 (vg_at_put g13)).trans (fd_obj v7 z4).symm
        · rcases q1 with q1 | q1
          · omega
          · exact absurd z2 q1
      · rcases v9 with ⟨z1, z2, -⟩ | ⟨z1, z2, z3, z4, z5, z6⟩
        · rcases z1 with z1 | z1
          · omega
          · exact absurd q2 z1
        · have k0 := (v6 0 (by omega) (by omega) (by omega)).trans q6
          have hRc := (hR.days (Z := rdZ CL g.toInt) s6 j u3).cut (n := dn) (by omega)
          rw [up_up] at hRc
          refine ⟨r, wx, wm, _, _, _, dn, gx, by rw [q4, ← z4]; exact gm, ⟨t0, t6, ⟨_, k0, g9⟩, q5.off (fun q a b => v6 q (by omega) (by omega) (by omega)), ⟨fs5m, v7, (v8 0 (by omega) (by omega)).trans f0, (v8 2 (by omega) (by omega)).trans f2, (v8 3 (by omega) (by omega)).trans f3, (v8 4 (by omega) (by omega)).trans f4⟩, z5, k62, hRc⟩, ⟨rfl, rfl, rfl⟩, fun q hq => (rl_w (by omega)).trans (stJ_hi _ _ _ j q u3 (by omega)), Or.inl ⟨fd_f h0 k0 rfl, fd_f h59 v7 z6⟩, FF⟩
    · refine bad ?_ (um_2 (d := 38) gS (sin_f rfl (l := 0) (h := 20) (by decide) e20 hcc))
      by_cases q5 : c.toInt < 0
      · exact qr_5 (by omega) (by omega) (by omega) (by omega) q5
      · exact qr_6 (by omega) (by omega) (by omega) (by omega) (by omega) (by omega)
  · refine bad ?_ (um_1 (d := 38) (vis_f (d := 37) hky))
    by_cases q1 : k.toInt < 0
    · exact qr_1 q1
    · by_cases q2 : k.toInt ≥ 4
      · exact qr_2 (by omega) q2
      · by_cases q3 : y.toInt < 0
        · exact qr_3 (by omega) (by omega) q3
        · exact qr_4 (by omega) (by omega) (by omega) (by omega)
end RC

/-! DAYS OF THE REFERENCE: rowNow, mayBe. -/
section RD
variable {X : List Int32} {d m : Nat} {w : ex_W} {R : Nat → Int} {ST RW : List Int32}
theorem rn_loop {fs5 : List Value} {dn : Nat} (f0 : ex_at fs5 0 = some (.ref 60)) (f22 : ex_at fs5 22 = some (.ref 67)) (f23 : ex_at fs5 23 = some (.int (nI dn))) (hdn : dn ≤ 60) (ls : ST.length = 288) : ∀ (f i : Nat) (w : ex_W) (RW : List Int32), dn - i ≤ f → i ≤ dn → RW.length = 130 → ex_at w 59 = some (.inr (.inr (8, fs5))) → ex_at w 60 = some (.inl (.int, ST)) → ex_at w 67 = some (.inl (.int, RW)) → ∃ RW', RW'.length = 130 ∧ (∀ j, RW'.getD j 0 = if i ≤ j ∧ j < dn then ST.getD (1 + j) 0 else RW.getD j 0) ∧ Go X d mt_105 (12, [some (.ref 59), some (.int (nI i))], []) w (none, ex_put w 67 (.inl (.int, RW'))) := by
  have stop : ∀ (i : Nat) (w : ex_W) (RW : List Int32), i = dn → RW.length = 130 → ex_at w 59 = some (.inr (.inr (8, fs5))) → ex_at w 67 = some (.inl (.int, RW)) → ∃ RW', RW'.length = 130 ∧ (∀ j, RW'.getD j 0 = if i ≤ j ∧ j < dn then ST.getD (1 + j) 0 else RW.getD j 0) ∧ Go X d mt_105 (12, [some (.ref 59), some (.int (nI i))], []) w (none, ex_put w 67 (.inl (.int, RW'))) := by
    intro i w RW hi hl h59 h67
    refine ⟨RW, hl, fun j => by rw [if_neg (by omega)], ?_⟩
    rw [fp_put_id h67, hi]
    exact rn_b h59 f23 (Int.le_refl _)
  intro f
  induction f with
  | zero => exact fun i w RW hf hi hl h59 _ h67 => stop i w RW (by omega) hl h59 h67
  | succ f ih =>
    intro i w RW hf hi hl h59 h60 h67
    by_cases e : i = dn
    · exact stop i w RW e hl h59 h67
    · have ei : (nI i).toInt = (i : Int) := nI_toInt (by omega)
      have ed : (nI dn).toInt = (dn : Int) := nI_toInt (by omega)
      have e1 : (1 : Int32) + nI i = nI (1 + i) := nI_add 1 i
      obtain ⟨RW', k1, k2, k3⟩ := ih (i + 1) (ex_put w 67 (.inl (.int, ex_put RW i (ST.getD (1 + i) 0)))) (ex_put RW i (ST.getD (1 + i) 0)) (by omega) (by omega) (by rw [rl_len]; exact hl) (vg_at_o rfl h59) (vg_at_o rfl h60) (vg_at_put h67)
      refine ⟨RW', k1, fun j => ?_, ?_⟩
      · rw [k2 j]
        by_cases h1 : i + 1 ≤ j ∧ j < dn
        · rw [if_pos h1, if_pos (by omega)]
        · rw [if_neg h1]
          by_cases h2 : j = i
          · rw [h2, rl_x (by omega), if_pos (by omega)]
          · rw [rl_w h2, if_neg (by omega)]
      · rw [fp_put2, nI_succ] at k3
        refine rn_a h59 f0 f22 f23 h60 h67 (by rw [ei, ed]; omega) (by rw [e1, ls]; exact fp_ix (by omega) (by decide)) (by rw [hl]; exact fp_ix (by omega) (by decide)) ?_
        rw [e1, nI_clamp (by omega), nI_clamp (by omega), ex_gd_eq]
        exact k3
theorem rn_all {fs5 : List Value} {dn : Nat} {mm : Int32} (h59 : ex_at w 59 = some (.inr (.inr (8, fs5)))) (f0 : ex_at fs5 0 = some (.ref 60)) (f22 : ex_at fs5 22 = some (.ref 67)) (f23 : ex_at fs5 23 = some (.int mm)) (h60 : ex_at w 60 = some (.inl (.int, ST))) (ls : ST.length = 288) (h67 : ex_at w 67 = some (.inl (.int, RW))) (lr : RW.length = 130) (hn : ST.getD 0 0 = nI dn) (hdn : dn ≤ 60) : ∃ RW', RW'.length = 130 ∧ (∀ j, j < dn → RW'.getD j 0 = ST.getD (1 + j) 0) ∧ Go X d mt_105 (ex_ent mt_105 [.ref 59]) w (none, ex_put (ex_put w 59 (.inr (.inr (8, ex_put fs5 23 (.int (nI dn)))))) 67 (.inl (.int, RW'))) := by
  obtain ⟨RW', k1, k2, k3⟩ := rn_loop (X := X) (d := d) (fs5 := ex_put fs5 23 (.int (nI dn))) (dn := dn) (ST := ST) (vg_at_o rfl f0) (vg_at_o rfl f22) (vg_at_put f23) hdn ls dn 0 (ex_put w 59 (.inr (.inr (8, ex_put fs5 23 (.int (nI dn)))))) RW (by omega) (by omega) lr (vg_at_put h59) (vg_at_o rfl h60) (vg_at_o rfl h67)
  refine ⟨RW', k1, fun j hj => by rw [k2 j, if_pos (by omega)], rn_0 h59 f0 f23 h60 (by rw [ls]; decide) ?_⟩
  rw [show Int32.toNatClampNeg 0 = 0 by decide, ex_gd_eq, hn]
  rw [nI_0] at k3
  exact k3
/-- what mayBe looks at: the row's days, the gap, near -/
def rwR (w : ex_W) (m : Nat) (R : Nat → Int) (ST : List Int32) : Prop := ∃ fs5 RW, ex_at w 59 = some (.inr (.inr (8, fs5))) ∧ ex_at fs5 0 = some (.ref 60) ∧ ex_at fs5 22 = some (.ref 67) ∧ ex_at fs5 23 = some (.int (nI m)) ∧ ex_at w 60 = some (.inl (.int, ST)) ∧ ex_at w 67 = some (.inl (.int, RW)) ∧ RW.length = 130 ∧ ST.length = 288 ∧ m ≤ 130 ∧ ∀ i, i < m → (RW.getD i 0).toInt = R i
theorem mb_loop {n y : Int32} {fs5 : List Value} {RW : List Int32} (h59 : ex_at w 59 = some (.inr (.inr (8, fs5)))) (f22 : ex_at fs5 22 = some (.ref 67)) (f23 : ex_at fs5 23 = some (.int (nI m))) (h67 : ex_at w 67 = some (.inl (.int, RW))) (lr : RW.length = 130) (hm : m ≤ 130) (hR : ∀ i, i < m → (RW.getD i 0).toInt = R i) : ∀ (f i : Nat) (e : Int32), m - i ≤ f → i ≤ m → (e = 0 ∨ e = 1) → ∃ e', (e' = 0 ∨ e' = 1) ∧ (e' = 1 ↔ (e = 1 ∧ ∀ s, i ≤ s → s < m → ¬ R s = n.toInt)) ∧ ∀ q, Go X d mt_113 (42, [some (.ref 59), some (.int n), some (.int y), some (.int e'), some (.int (nI m))], []) w q → Go X d mt_113 (42, [some (.ref 59), some (.int n), some (.int y), some (.int e), some (.int (nI i))], []) w q := by
  intro f
  induction f with
  | zero =>
    intro i e hf hi he
    obtain rfl : i = m := by omega
    exact ⟨e, he, ⟨fun h => ⟨h, fun s h1 h2 => by omega⟩, fun h => h.1⟩, fun q kk => kk⟩
  | succ f ih =>
    intro i e hf hi he
    by_cases c : i = m
    · subst c
      exact ⟨e, he, ⟨fun h => ⟨h, fun s h1 h2 => by omega⟩, fun h => h.1⟩, fun q kk => kk⟩
    · have ei : (nI i).toInt = (i : Int) := nI_toInt (by omega)
      have em : (nI m).toInt = (m : Int) := nI_toInt (by omega)
      have eg : ex_gd RW (Int32.toNatClampNeg (nI i)) = RW.getD i 0 := by rw [nI_clamp (by omega), ex_gd_eq]
      have ix : ex_ix (nI i) RW.length = true := by rw [lr]; exact fp_ix (by omega) (by decide)
      rcases he with rfl | rfl
      · obtain ⟨e', k1, k2, k3⟩ := ih (i + 1) 0 (by omega) (by omega) (Or.inl rfl)
        refine ⟨e', k1, ⟨fun h => absurd (k2.mp h).1 (by decide), fun h => absurd h.1 (by decide)⟩, fun q kk => mb_5 h59 f23 (by rw [ei, em]; omega) ?_⟩
        have := k3 q kk
        rw [nI_succ] at this
        exact this
      · by_cases cr : R i = n.toInt
        · obtain ⟨e', k1, k2, k3⟩ := ih (i + 1) 0 (by omega) (by omega) (Or.inl rfl)
          refine ⟨e', k1, ⟨fun h => absurd (k2.mp h).1 (by decide), fun h => absurd cr (h.2 i (by omega) (by omega))⟩, fun q kk => mb_3 h59 f22 f23 h67 (by rw [ei, em]; omega) ix (by rw [eg, hR i (by omega)]; exact cr) ?_⟩
          have := k3 q kk
          rw [nI_succ] at this
          exact this
        · obtain ⟨e', k1, k2, k3⟩ := ih (i + 1) 1 (by omega) (by omega) (Or.inr rfl)
          refine ⟨e', k1, ⟨fun h => ⟨rfl, fun s h1 h2 => ?_⟩, fun h => k2.mpr ⟨rfl, fun s h1 h2 => h.2 s (by omega) h2⟩⟩, fun q kk => mb_4 h59 f22 f23 h67 (by rw [ei, em]; omega) ix (by rw [eg, hR i (by omega)]; exact cr) ?_⟩
          · by_cases hs : s = i
            · rw [hs]; exact cr
            · exact (k2.mp h).2 s (by omega) h2
          · have := k3 q kk
            rw [nI_succ] at this
            exact this
def fl (b : Bool) : Int32 := match b with
  | true => 1
  | false => 0
theorem mb_all {n : Int32} (h : rwR w m R ST) (hn : 1 ≤ n.toInt ∧ n.toInt ≤ 16) (hg : 0 ≤ (ST.getD 78 0).toInt ∧ (ST.getD 78 0).toInt ≤ 20) (hR16 : ∀ i, i < m → 0 ≤ R i ∧ R i ≤ 16) : Go X d mt_113 (ex_ent mt_113 [.ref 59, .int n]) w (some (.int (fl (okP R m (ST.getD 78 0).toInt (ST.getD 79 0).toInt n.toInt))), w) := by
  obtain ⟨fs5, RW, h59, f0, f22, f23, h60, h67, lr, ls, hm, hR⟩ := h
  have em : (nI m).toInt = (m : Int) := nI_toInt (by omega)
  have o1 : (1 : Int32).toInt = 1 := by decide
  have e78 : ex_gd ST (Int32.toNatClampNeg 78) = ST.getD 78 0 := by rw [show Int32.toNatClampNeg 78 = 78 by decide, ex_gd_eq]
  have e79 : ex_gd ST (Int32.toNatClampNeg 79) = ST.getD 79 0 := by rw [show Int32.toNatClampNeg 79 = 79 by decide, ex_gd_eq]
  have i78 : ex_ix 78 ST.length = true := by rw [ls]; decide
  have i79 : ex_ix 79 ST.length = true := by rw [ls]; decide
  have es : 0 < m → nI m - 1 = nI (m - 1) := fun h0 => by
    apply Int32.toInt_inj.mp
    rw [tI_sub (by rw [em, o1]; omega) (by rw [em, o1]; omega), em, o1, nI_toInt (by omega)]
    omega
  -- behind the loop
  have out : ∀ (y e : Int32), (e = 0 ∨ e = 1) → (e = 1 ↔ okG R m m (ST.getD 78 0).toInt n.toInt = true) → Go X d mt_113 (42, [some (.ref 59), some (.int n), some (.int y), some (.int e), some (.int (nI m))], []) w (some (.int (fl (okP R m (ST.getD 78 0).toInt (ST.getD 79 0).toInt n.toInt))), w) := by
    intro y e he hG
    -- the day before
    have last : ∀ b : Int32, (b = 0 ∧ okN R m (ST.getD 79 0).toInt n.toInt = true) ∨ ((ST.getD 79 0).toInt = 1 ∧ 0 < m ∧ b.toInt = R (m - 1)) → Go X d mt_113 (113, [some (.ref 59), some (.int n), some (.int y), some (.int e), some (.int b)], []) w (some (.int (fl (okP R m (ST.getD 78 0).toInt (ST.getD 79 0).toInt n.toInt))), w) := by
      intro b hb
      rcases he with rfl | rfl
      · have hf : okP R m (ST.getD 78 0).toInt (ST.getD 79 0).toInt n.toInt = false := by
          unfold okP
          rw [show okG R m m (ST.getD 78 0).toInt n.toInt = false from Bool.eq_false_iff.mpr (fun h => absurd (hG.mpr h) (by decide)), Bool.false_and]
        rw [hf]
        exact mb_9
      · have hGt : okG R m m (ST.getD 78 0).toInt n.toInt = true := hG.mp rfl
        have hP : okP R m (ST.getD 78 0).toInt (ST.getD 79 0).toInt n.toInt = okN R m (ST.getD 79 0).toInt n.toInt := by
          unfold okP
          rw [hGt, Bool.true_and]
        rw [hP]
        rcases hb with ⟨rfl, hb⟩ | ⟨h1, h2, h3⟩
        · rw [hb]
          exact mb_a (by decide)
        · obtain ⟨r1, r2⟩ := hR16 (m - 1) (by omega)
          by_cases c0 : b.toInt = 0
          · rw [okN_t (fun h => by omega)]
            exact mb_a c0
          · have s1 : (n - b).toInt = n.toInt - b.toInt := tI_sub (by omega) (by omega)
            have s2 : (b - n).toInt = b.toInt - n.toInt := tI_sub (by omega) (by omega)
            by_cases c1 : n.toInt - b.toInt = 1
            · rw [okN_f ⟨h1, h2, by omega, Or.inr (by omega)⟩]
              exact mb_b c0 (by rw [s1]; exact c1)
            · by_cases c2 : b.toInt - n.toInt = 1
              · rw [okN_f ⟨h1, h2, by omega, Or.inl (by omega)⟩]
                exact mb_c c0 (by rw [s1]; exact c1) (by rw [s2]; exact c2)
              · rw [okN_t (fun h => by omega)]
                exact mb_d c0 (by rw [s1]; exact c1) (by rw [s2]; exact c2)
    by_cases m0 : m = 0
    · have k := last 0 (Or.inl ⟨rfl, okN_t (fun h => by omega)⟩)
      rcases he with rfl | rfl
      · exact mb_60 h59 f23 (Int.le_refl _) (by rw [em]; omega) k
      · exact mb_61 h59 f23 (Int.le_refl _) (by rw [em]; omega) k
    · by_cases n1 : (ST.getD 79 0).toInt = 1
      · have eg : ex_gd RW (Int32.toNatClampNeg (nI m - 1)) = RW.getD (m - 1) 0 := by rw [es (by omega), nI_clamp (by omega), ex_gd_eq]
        have ix : ex_ix (nI m - 1) RW.length = true := by rw [es (by omega), lr]; exact fp_ix (by omega) (by decide)
        have k := last (RW.getD (m - 1) 0) (Or.inr ⟨n1, by omega, hR (m - 1) (by omega)⟩)
        rcases he with rfl | rfl
        · exact mb_80 h59 f0 f22 f23 h60 h67 (Int.le_refl _) (by rw [em]; omega) i79 (by rw [e79]; exact n1) ix (by rw [eg]; exact k)
        · exact mb_81 h59 f0 f22 f23 h60 h67 (Int.le_refl _) (by rw [em]; omega) i79 (by rw [e79]; exact n1) ix (by rw [eg]; exact k)
      · have k := last 0 (Or.inl ⟨rfl, okN_t (fun h => n1 h.1)⟩)
        rcases he with rfl | rfl
        · exact mb_70 h59 f0 f23 h60 (Int.le_refl _) (by rw [em]; omega) i79 (by rw [e79]; exact n1) k
        · exact mb_71 h59 f0 f23 h60 (Int.le_refl _) (by rw [em]; omega) i79 (by rw [e79]; exact n1) k
  -- from lo on
  have go : ∀ (y : Int32) (lo : Nat), lo ≤ m → ((∀ s : Nat, (if (ST.getD 78 0).toInt = 0 then 0 else (m : Int) - (ST.getD 78 0).toInt + 1) ≤ (s : Int) → s < m → ¬ R s = n.toInt) ↔ ∀ s, lo ≤ s → s < m → ¬ R s = n.toInt) → Go X d mt_113 (42, [some (.ref 59), some (.int n), some (.int y), some (.int 1), some (.int (nI lo))], []) w (some (.int (fl (okP R m (ST.getD 78 0).toInt (ST.getD 79 0).toInt n.toInt))), w) := by
    intro y lo hlo hiff
    obtain ⟨e', k1, k2, k3⟩ := mb_loop (X := X) (d := d) (n := n) (y := y) h59 f22 f23 h67 lr hm hR m lo 1 (by omega) hlo (Or.inr rfl)
    refine k3 _ (out y e' k1 ⟨fun h => okG_t ((lst_gap R n.toInt m hg.1).mpr (hiff.mpr (k2.mp h).2)), fun h => k2.mpr ⟨rfl, hiff.mp ((lst_gap R n.toInt m hg.1).mp ?_)⟩⟩)
    by_cases hc : lst R n.toInt m = -1 ∨ (0 < (ST.getD 78 0).toInt ∧ (m : Int) - lst R n.toInt m ≥ (ST.getD 78 0).toInt)
    · exact hc
    · rw [okG_f hc] at h
      exact absurd h (by decide)
  by_cases g0 : (ST.getD 78 0).toInt = 0
  · refine mb_0 h59 f0 f23 h60 i78 (by rw [e78]; exact g0) ?_
    have k := go 0 0 (by omega) ⟨fun h s h1 h2 => h s (by rw [if_pos g0]; omega) h2, fun h s h1 h2 => h s (by omega) h2⟩
    rw [nI_0] at k
    exact k
  · have ea : ((nI m - ST.getD 78 0) + 1).toInt = (m : Int) - (ST.getD 78 0).toInt + 1 := by
      have e1 : (nI m - ST.getD 78 0).toInt = (m : Int) - (ST.getD 78 0).toInt := by rw [tI_sub (by rw [em]; omega) (by rw [em]; omega), em]
      rw [tI_add (by rw [e1, o1]; omega) (by rw [e1, o1]; omega), e1, o1]
    by_cases lo0 : (m : Int) - (ST.getD 78 0).toInt + 1 ≥ 0
    · have el : (nI m - ST.getD 78 0) + 1 = nI ((m : Int) - (ST.getD 78 0).toInt + 1).toNat := tI_nI (by rw [ea]; omega) (by omega)
      refine mb_1 h59 f0 f23 h60 i78 (by rw [e78]; exact g0) i78 (by rw [e78, ea]; exact lo0) ?_
      rw [e78, el]
      exact go _ _ (by omega) ⟨fun h s h1 h2 => h s (by rw [if_neg g0]; omega) h2, fun h s h1 h2 => h s (by rw [if_neg g0] at h1; omega) h2⟩
    · refine mb_2 h59 f0 f23 h60 i78 (by rw [e78]; exact g0) i78 (by rw [e78, ea]; omega) ?_
      have k := go ((nI m - ex_gd ST (Int32.toNatClampNeg 78)) + 1) 0 (by omega) ⟨fun h s h1 h2 => h s (by rw [if_neg g0]; omega) h2, fun h s h1 h2 => h s (by omega) h2⟩
      rw [nI_0] at k
      exact k
end RD

/-! DAYS OF THE CLASS: pass, begin, the bits of what is free. -/
def alR (w : ex_W) (t m : Nat) (R : Nat → Int) : Prop := ∃ RU LB LA, ex_at w 17 = some (.inr (.inr (0, al t (nI m)))) ∧ ex_at w 18 = some (.inl (.int, RU)) ∧ ex_at w 19 = some (.inl (.int, LB)) ∧ ex_at w 20 = some (.inl (.int, LA)) ∧ RU.length = 128 ∧ LB.length = 128 ∧ LA.length = 17 ∧ m ≤ 128 ∧ (∀ i, i < m → (RU.getD i 0).toInt = R i ∧ 0 ≤ R i ∧ R i ≤ 16) ∧ (∀ n : Nat, n ≤ 16 → (LA.getD n 0).toInt = lst R n m) ∧ ∀ i, i < m → (LB.getD i 0).toInt = lst R (R i) i
section CD
variable {X : List Int32} {d t m : Nat} {w : ex_W} {R : Nat → Int} {x : Int32} {tf : Nat → Int32} {ta : Nat → List Int32}
theorem al_pass (h : alR w t m R) (hm : m < 128) (h0 : 0 ≤ x.toInt) (h16 : x.toInt ≤ 16) : ∃ w', Go X d mt_115 (ex_ent mt_115 [.ref 17, .int x]) w (none, w') ∧ alR w' t (m + 1) (up R m x.toInt) ∧ ∀ q, ¬ (17 ≤ q ∧ q ≤ 20) → ex_at w' q = ex_at w q := by
  obtain ⟨RU, LB, LA, a1, a2, a3, a4, l1, l2, l3, l4, hR, hL, hB⟩ := h
  have em : (nI m).toInt = (m : Int) := nI_toInt (by omega)
  have cm : Int32.toNatClampNeg (nI m) = m := nI_clamp (by omega)
  have ex : x = nI x.toInt.toNat := tI_nI (by omega) (by omega)
  have cx : Int32.toNatClampNeg x = x.toInt.toNat := by rw [ex, nI_clamp (by omega), ← ex]
  have ixx : ex_ix x LA.length = true := by rw [ex, l3]; exact fp_ix (by omega) (by decide)
  have g := ps_1 (X := X) (d := d) a1 a2 a3 a4 (by omega) h0 h16 (by rw [l1]; exact fp_ix hm (by decide)) ixx (by rw [l2]; exact fp_ix hm (by decide)) ixx
  rw [cm, cx, ← nI_succ] at g
  refine ⟨_, g, ⟨_, _, _, vg_at_put (vg_at_o rfl (vg_at_o rfl (vg_at_o rfl a1))), vg_at_o rfl (vg_at_o rfl (vg_at_o rfl (vg_at_put a2))), vg_at_o rfl (vg_at_o rfl (vg_at_put (vg_at_o rfl a3))), vg_at_o rfl (vg_at_put (vg_at_o rfl (vg_at_o rfl a4))), by rw [rl_len]; exact l1, by rw [rl_len]; exact l2, by rw [rl_len]; exact l3, by omega, fun i hi => ?_, fun n hn => ?_, fun i hi => ?_⟩, fun q hq => ?_⟩
  · by_cases e : i = m
    · subst e
      rw [rl_x (by omega), up_eq]
      exact ⟨rfl, h0, h16⟩
    · rw [rl_w e, up_ne _ _ e]
      exact hR i (by omega)
  · have e : lst (up R m x.toInt) n (m + 1) = if x.toInt = (n : Int) then (m : Int) else lst R n m := by
      show (if up R m x.toInt m = (n : Int) then (m : Int) else lst (up R m x.toInt) n m) = _
      rw [up_eq, lst_cg m (fun i hi => up_ne R x.toInt (show i ≠ m by omega))]
    rw [e]
    by_cases c : x.toInt = (n : Int)
    · rw [if_pos c, show n = x.toInt.toNat by omega, rl_x (by omega)]
      exact em
    · rw [if_neg c, rl_w (by omega)]
      exact hL n hn
  · by_cases e : i = m
    · rw [e, rl_x (by omega), up_eq, lst_cg m (fun j hj => up_ne R x.toInt (show j ≠ m by omega)), ex_gd_eq, hL x.toInt.toNat (by omega), show ((x.toInt.toNat : Nat) : Int) = x.toInt by omega]
    · rw [rl_w e, up_ne _ _ e, lst_cg i (fun j hj => up_ne R x.toInt (show j ≠ m by omega))]
      exact hB i (by omega)
  · rw [vg_at_ne (sh_beq (by omega)), vg_at_ne (sh_beq (by omega)), vg_at_ne (sh_beq (by omega)), vg_at_ne (sh_beq (by omega))]
/-- the days as they went, the latest k missed -/
def missR (D : Nat → Int) (dn k : Nat) : Nat → Int := fun i => if (i : Int) < (dn : Int) - k then D i else 0
theorem alR.cg {R' : Nat → Int} (h : alR w t m R) (e : ∀ i, i < m → R i = R' i) : alR w t m R' := by
  obtain ⟨RU, LB, LA, a1, a2, a3, a4, l1, l2, l3, l4, hR, hL, hB⟩ := h
  exact ⟨RU, LB, LA, a1, a2, a3, a4, l1, l2, l3, l4, fun i hi => by rw [← e i hi]; exact hR i hi, fun n hn => by rw [← lst_cg m e]; exact hL n hn, fun i hi => by rw [← e i hi, ← lst_cg i (fun j hj => e j (by omega))]; exact hB i hi⟩
theorem al_loop {dn k : Nat} {D : Nat → Int} (ht : t + 6 < 15) (hT : tA w t tf ta) (l2 : (ta 2).length = 60) (h5 : tf 5 = nI dn) (hdn : dn ≤ 60) (hk : k ≤ 60) (hD : ∀ i, i < dn → ((ta 2).getD i 0).toInt = D i ∧ 0 ≤ D i ∧ D i ≤ 16) : ∀ (f i : Nat) (w1 : ex_W), dn - i ≤ f → i ≤ dn → (∀ q, ¬ (17 ≤ q ∧ q ≤ 20) → ex_at w1 q = ex_at w q) → alR w1 t i (missR D dn k) → ∃ w', Go X (d + 1) mt_103 (20, [some (.ref 17), some (.ref t), some (.int (nI k)), some (.int (nI i))], []) w1 (none, w') ∧ alR w' t dn (missR D dn k) ∧ ∀ q, ¬ (17 ≤ q ∧ q ≤ 20) → ex_at w' q = ex_at w q := by
  have stop : ∀ (i : Nat) (w1 : ex_W), i = dn → (∀ q, ¬ (17 ≤ q ∧ q ≤ 20) → ex_at w1 q = ex_at w q) → alR w1 t i (missR D dn k) → ∃ w', Go X (d + 1) mt_103 (20, [some (.ref 17), some (.ref t), some (.int (nI k)), some (.int (nI i))], []) w1 (none, w') ∧ alR w' t dn (missR D dn k) ∧ ∀ q, ¬ (17 ≤ q ∧ q ≤ 20) → ex_at w' q = ex_at w q := by
    intro i w1 hi hF hA
    subst hi
    obtain ⟨RU, LB, LA, a1, -⟩ := id hA
    exact ⟨w1, bg_e a1 ((hF t (by omega)).trans hT.1) (by rw [h5]; exact Int.le_refl _), hA, hF⟩
  intro f
  induction f with
  | zero => exact fun i w1 hf hi hF hA => stop i w1 (by omega) hF hA
  | succ f ih =>
    intro i w1 hf hi hF hA
    by_cases e : i = dn
    · exact stop i w1 e hF hA
    · have ei : (nI i).toInt = (i : Int) := nI_toInt (by omega)
      have ek : (nI k).toInt = (k : Int) := nI_toInt (by omega)
      have ed : (nI dn).toInt = (dn : Int) := nI_toInt (by omega)
      have es : (nI dn - nI k).toInt = (dn : Int) - k := by rw [tI_sub (by rw [ed, ek]; omega) (by rw [ed, ek]; omega), ed, ek]
      obtain ⟨RU, LB, LA, a1, -⟩ := id hA
      obtain ⟨d1, d2, d3⟩ := hD i (by omega)
      have k1 := (hF t (by omega)).trans hT.1
      have k3 := (hF (t + 1 + 2) (by omega)).trans (hT.2 2 (by decide))
      by_cases c : (i : Int) < (dn : Int) - k
      · obtain ⟨w2, p1, p2, p3⟩ := al_pass (X := X) (d := d) (x := (ta 2).getD i 0) hA (by omega) (by omega) (by omega)
        obtain ⟨w', g1, g2, g3⟩ := ih (i + 1) w2 (by omega) (by omega) (fun q hq => (p3 q hq).trans (hF q hq)) (p2.cg (fun j hj => by
          by_cases ej : j = i
          · rw [ej, up_eq, d1]
            exact (if_pos c).symm
          · rw [up_ne _ _ ej]))
        rw [nI_succ] at g1
        exact ⟨w', bg_d a1 k1 k3 (by rw [h5, ei, ed]; omega) (by rw [ei]; omega) (by rw [h5, es, ei]; exact c) (by rw [l2]; exact fp_ix (by omega) (by decide)) (by rw [nI_clamp (by omega), ex_gd_eq]; exact p1) g1, g2, g3⟩
      · obtain ⟨w2, p1, p2, p3⟩ := al_pass (X := X) (d := d) (x := 0) hA (by omega) (by decide) (by decide)
        obtain ⟨w', g1, g2, g3⟩ := ih (i + 1) w2 (by omega) (by omega) (fun q hq => (p3 q hq).trans (hF q hq)) (p2.cg (fun j hj => by
          by_cases ej : j = i
          · rw [ej, up_eq]
            exact (if_neg c).symm
          · rw [up_ne _ _ ej]))
        rw [nI_succ] at g1
        exact ⟨w', bg_m a1 k1 (by rw [h5, ei, ed]; omega) (by rw [ei]; omega) (by rw [h5, es, ei]; omega) p1 g1, g2, g3⟩
/-- what the almanac's cells are ahead of begin -/
def alC (w : ex_W) : Prop := ∃ fs vv mm RU LB LA, ex_at w 17 = some (.inr (.inr (0, fs))) ∧ fs.length = 5 ∧ ex_at fs 0 = some (.ref 18) ∧ ex_at fs 1 = some (.ref 19) ∧ ex_at fs 2 = some (.ref 20) ∧ ex_at fs 3 = some vv ∧ ex_at fs 4 = some (.int mm) ∧ ex_at w 18 = some (.inl (.int, RU)) ∧ ex_at w 19 = some (.inl (.int, LB)) ∧ ex_at w 20 = some (.inl (.int, LA)) ∧ RU.length = 128 ∧ LB.length = 128 ∧ LA.length = 17
theorem al_begin {dn k : Nat} {D : Nat → Int} (hC : alC w) (ht : t + 6 < 15) (hT : tA w t tf ta) (l2 : (ta 2).length = 60) (h5 : tf 5 = nI dn) (hdn : dn ≤ 60) (hk : k ≤ 60) (hD : ∀ i, i < dn → ((ta 2).getD i 0).toInt = D i ∧ 0 ≤ D i ∧ D i ≤ 16) : ∃ w', Go X (d + 1) mt_103 (ex_ent mt_103 [.ref 17, .ref t, .int (nI k)]) w (none, w') ∧ alR w' t dn (missR D dn k) ∧ ∀ q, ¬ (17 ≤ q ∧ q ≤ 20) → ex_at w' q = ex_at w q := by
  obtain ⟨fs, vv, mm, RU, LB, LA, a1, lf, f0, f1, f2, f3, f4, a2, a3, a4, l1, l2', l3⟩ := hC
  have efs : ex_put (ex_put fs 3 (.ref t)) 4 (.int 0) = al t (nI 0) := ex_ext (m := 5) (by rw [ex_put_eq, List.length_set, ex_put_eq, List.length_set]; exact lf) rfl (fun i hi => match i, hi with
    | 0, _ => vg_at_o rfl (vg_at_o rfl f0)
    | 1, _ => vg_at_o rfl (vg_at_o rfl f1)
    | 2, _ => vg_at_o rfl (vg_at_o rfl f2)
    | 3, _ => vg_at_o rfl (vg_at_put f3)
    | 4, _ => vg_at_put (vg_at_o rfl f4)
    | k + 5, hk => absurd hk (by omega))
  obtain ⟨LA1, b1, b2, g1⟩ := sh_fill0 (X := X) (d := d) (w := ex_put w 17 (.inr (.inr (0, ex_put (ex_put fs 3 (.ref t)) 4 (.int 0))))) (c := 20) (x := Int32.ofInt (-1)) (l := LA) (by omega) (vg_at_o rfl a4)
  have fr : ∀ q, ¬ (17 ≤ q ∧ q ≤ 20) → ex_at (ex_put (ex_put w 17 (.inr (.inr (0, ex_put (ex_put fs 3 (.ref t)) 4 (.int 0))))) 20 (.inl (.int, LA1))) q = ex_at w q := fun q hq => by rw [vg_at_ne (sh_beq (by omega)), vg_at_ne (sh_beq (by omega))]
  have hA : alR (ex_put (ex_put w 17 (.inr (.inr (0, ex_put (ex_put fs 3 (.ref t)) 4 (.int 0))))) 20 (.inl (.int, LA1))) t 0 (missR D dn k) := by
    refine ⟨RU, LB, LA1, ?_, vg_at_o rfl (vg_at_o rfl a2), vg_at_o rfl (vg_at_o rfl a3), vg_at_put (vg_at_o rfl a4), l1, l2', by omega, by omega, fun i hi => absurd hi (Nat.not_lt_zero i), fun n hn => ?_, fun i hi => absurd hi (Nat.not_lt_zero i)⟩
    · rw [efs]
      exact vg_at_o rfl (vg_at_put a1)
    · rw [b2 n (by omega)]
      show (Int32.ofInt (-1)).toInt = -1
      decide
  obtain ⟨w', g2, g3, g4⟩ := al_loop (X := X) (d := d) ht hT l2 h5 hdn hk hD dn 0 _ (by omega) (by omega) fr hA
  rw [nI_0] at g2
  exact ⟨w', bg_0 a1 f0 f1 f2 f3 f4 a4 g1 g2, g3, g4⟩
theorem bb_loop {y : Int32} {Y : Int} (hA : alR w t m R) (hT1 : ex_at w t = some (dT t tf)) (hmo : 4 ≤ (tf 0).toInt ∧ (tf 0).toInt ≤ 16) (hy : y.toInt = Y) (hY : 0 ≤ Y ∧ Y ≤ 1000) : ∀ (f k : Nat) (b : Int32), 17 - k ≤ f → 1 ≤ k → (k : Int) ≤ (tf 0).toInt + 1 → (∀ j, j < 32 → bt b j = (decide (1 ≤ j ∧ j < k) && okG R m Y (tf 2).toInt j)) → ∃ b', Go X d mt_163 (4, [some (.ref 17), some (.int y), some (.int b), some (.int (nI k))], []) w (some (.int b'), w) ∧ ∀ j, j < 32 → bt b' j = (decide (1 ≤ j ∧ (j : Int) ≤ (tf 0).toInt) && okG R m Y (tf 2).toInt j) := by
  obtain ⟨RU, LB, LA, a1, a2, a3, a4, l1, l2, l3, l4, hR, hL, hB⟩ := id hA
  have stop : ∀ (k : Nat) (b : Int32), 1 ≤ k → (k : Int) = (tf 0).toInt + 1 → (∀ j, j < 32 → bt b j = (decide (1 ≤ j ∧ j < k) && okG R m Y (tf 2).toInt j)) → ∃ b', Go X d mt_163 (4, [some (.ref 17), some (.int y), some (.int b), some (.int (nI k))], []) w (some (.int b'), w) ∧ ∀ j, j < 32 → bt b' j = (decide (1 ≤ j ∧ (j : Int) ≤ (tf 0).toInt) && okG R m Y (tf 2).toInt j) := by
    intro k b hk1 hk hb
    have ek : (nI k).toInt = (k : Int) := nI_toInt (by omega)
    refine ⟨b, bb_x a1 hT1 (by rw [ek]; omega), fun j hj => ?_⟩
    rw [hb j hj]
    congr 1
    exact decide_eq_decide.mpr (by omega)
  intro f
  induction f with
  | zero => exact fun k b hf hk1 hk hb => stop k b hk1 (by omega) hb
  | succ f ih =>
    intro k b hf hk1 hk hb
    by_cases e : (k : Int) = (tf 0).toInt + 1
    · exact stop k b hk1 e hb
    · have ek : (nI k).toInt = (k : Int) := nI_toInt (by omega)
      have ck : Int32.toNatClampNeg (nI k) = k := nI_clamp (by omega)
      have hl := hL k (by omega)
      have hlt := lst_lt R k m
      have eg : ex_gd LA (Int32.toNatClampNeg (nI k)) = LA.getD k 0 := by rw [ck, ex_gd_eq]
      have ix : ex_ix (nI k) LA.length = true := by rw [l3]; exact fp_ix (by omega) (by decide)
      have es : (y - LA.getD k 0).toInt = Y - lst R k m := by rw [tI_sub (by rw [hy, hl]; omega) (by rw [hy, hl]; omega), hy, hl]
      have more : okG R m Y (tf 2).toInt k = true → ∀ j, j < 32 → bt (b ||| ((1 : Int32) <<< (nI k &&& 31))) j = (decide (1 ≤ j ∧ j < k + 1) && okG R m Y (tf 2).toInt j) := by
        intro hok j hj
        rw [bt_or, hb j hj, bt_one k (by omega) j hj]
        by_cases ej : j = k
        · rw [ej, hok, decide_eq_true rfl, Bool.or_true, decide_eq_true (show 1 ≤ k ∧ k < k + 1 by omega)]
          rfl
        · rw [decide_eq_false ej, Bool.or_false]
          congr 1
          exact decide_eq_decide.mpr (by omega)
      have less : okG R m Y (tf 2).toInt k = false → ∀ j, j < 32 → bt b j = (decide (1 ≤ j ∧ j < k + 1) && okG R m Y (tf 2).toInt j) := by
        intro hok j hj
        rw [hb j hj]
        by_cases ej : j = k
        · rw [ej, hok, Bool.and_false, Bool.and_false]
        · congr 1
          exact decide_eq_decide.mpr (by omega)
      by_cases c1 : lst R k m = -1
      · obtain ⟨b', g1, g2⟩ := ih (k + 1) (b ||| ((1 : Int32) <<< (nI k &&& 31))) (by omega) (by omega) (by omega) (more (okG_t (Or.inl c1)))
        rw [nI_succ] at g1
        exact ⟨b', bb_1 a1 hT1 a4 (by rw [ek]; omega) (by rw [ek]; omega) ix (by rw [eg, hl]; exact c1) g1, g2⟩
      · by_cases c2 : (tf 2).toInt ≤ 0
        · obtain ⟨b', g1, g2⟩ := ih (k + 1) b (by omega) (by omega) (by omega) (less (okG_f (by omega)))
          rw [nI_succ] at g1
          exact ⟨b', bb_2 a1 hT1 a4 (by rw [ek]; omega) (by rw [ek]; omega) ix (by rw [eg, hl]; exact c1) c2 g1, g2⟩
        · by_cases c3 : Y - lst R k m < (tf 2).toInt
          · obtain ⟨b', g1, g2⟩ := ih (k + 1) b (by omega) (by omega) (by omega) (less (okG_f (by omega)))
            rw [nI_succ] at g1
            exact ⟨b', bb_3 a1 hT1 a4 (by rw [ek]; omega) (by rw [ek]; omega) ix (by rw [eg, hl]; exact c1) (by omega) ix (by rw [eg, es]; exact c3) g1, g2⟩
          · obtain ⟨b', g1, g2⟩ := ih (k + 1) (b ||| ((1 : Int32) <<< (nI k &&& 31))) (by omega) (by omega) (by omega) (more (okG_t (Or.inr ⟨by omega, by omega⟩)))
            rw [nI_succ] at g1
            exact ⟨b', bb_4 a1 hT1 a4 (by rw [ek]; omega) (by rw [ek]; omega) ix (by rw [eg, hl]; exact c1) (by omega) ix (by rw [eg, es]; omega) g1, g2⟩
theorem bb_all {y : Int32} {Y : Int} (hA : alR w t m R) (hT1 : ex_at w t = some (dT t tf)) (hmo : 4 ≤ (tf 0).toInt ∧ (tf 0).toInt ≤ 16) (hy : y.toInt = Y) (hY : 0 ≤ Y ∧ Y ≤ 1000) : ∃ b', Go X d mt_163 (ex_ent mt_163 [.ref 17, .int y]) w (some (.int b'), w) ∧ ∀ j, j < 32 → bt b' j = (decide (1 ≤ j ∧ (j : Int) ≤ (tf 0).toInt) && okG R m Y (tf 2).toInt j) := by
  obtain ⟨b', g1, g2⟩ := bb_loop (X := X) (d := d) hA hT1 hmo hy hY 16 1 0 (by omega) (by omega) (by omega) (fun j hj => by
    rw [bt_0 j hj, decide_eq_false (show ¬ (1 ≤ j ∧ j < 1) by omega), Bool.false_and])
  exact ⟨b', bb_0 g1, g2⟩
/-- what may be rung, as bits -/
theorem fb_all (hA : alR w t m R) (hm : m ≤ 128) (hT1 : ex_at w t = some (dT t tf)) (hmo : 4 ≤ (tf 0).toInt ∧ (tf 0).toInt ≤ 16) : ∃ b', Go X (d + 1) mt_104 (ex_ent mt_104 [.ref 17]) w (some (.int b'), w) ∧ ∀ j, j < 32 → bt b' j = (decide (1 ≤ j ∧ (j : Int) ≤ (tf 0).toInt) && okP R m (tf 2).toInt (tf 3).toInt j) := by
  obtain ⟨RU, LB, LA, a1, a2, a3, a4, l1, l2, l3, l4, hR, hL, hB⟩ := id hA
  have em : (nI m).toInt = (m : Int) := nI_toInt (by omega)
  obtain ⟨b, g1, g2⟩ := bb_all (X := X) (d := d) (y := nI m) (Y := m) hA hT1 hmo em (by omega)
  have same : (∀ j : Nat, okN R m (tf 3).toInt j = true) → ∀ j, j < 32 → bt b j = (decide (1 ≤ j ∧ (j : Int) ≤ (tf 0).toInt) && okP R m (tf 2).toInt (tf 3).toInt j) := by
    intro h j hj
    rw [g2 j hj]
    unfold okP
    rw [h j, Bool.and_true]
  by_cases c1 : m = 0
  · have hN : ∀ j : Nat, okN R m (tf 3).toInt j = true := fun j => okN_t (fun h => by omega)
    by_cases c2 : (tf 3).toInt = 1
    · exact ⟨b, fb_2 a1 hT1 g1 (by rw [em]; omega) c2, same hN⟩
    · exact ⟨b, fb_1 a1 hT1 g1 (by rw [em]; omega) c2, same hN⟩
  · have o1 : (1 : Int32).toInt = 1 := by decide
    have es : nI m - 1 = nI (m - 1) := by
      apply Int32.toInt_inj.mp
      rw [tI_sub (by rw [em, o1]; omega) (by rw [em, o1]; omega), em, o1, nI_toInt (by omega)]
      omega
    have ix : ex_ix (nI m - 1) RU.length = true := by rw [es, l1]; exact fp_ix (by omega) (by decide)
    have eg : ex_gd RU (Int32.toNatClampNeg (nI m - 1)) = RU.getD (m - 1) 0 := by rw [es, nI_clamp (by omega), ex_gd_eq]
    obtain ⟨r1, r2, r3⟩ := hR (m - 1) (by omega)
    by_cases c2 : (tf 3).toInt = 1
    · by_cases c3 : R (m - 1) ≤ 0
      · exact ⟨b, fb_4 a1 hT1 a2 g1 (by rw [em]; omega) ix c2 (by rw [eg, r1]; exact c3), same (fun j => okN_t (fun h => by omega))⟩
      · have g := fb_5 (X := X) (d := d) a1 hT1 a2 g1 (by rw [em]; omega) ix c2 (by rw [eg, r1]; omega)
        have er : RU.getD (m - 1) 0 = nI (R (m - 1)).toNat := tI_nI (by omega) (by omega)
        have ern : (nI (R (m - 1)).toNat).toInt = R (m - 1) := by rw [nI_toInt (by omega)]; omega
        have e1 : nI (R (m - 1)).toNat - 1 = nI ((R (m - 1)).toNat - 1) := by
          apply Int32.toInt_inj.mp
          rw [tI_sub (by rw [ern, o1]; omega) (by rw [ern, o1]; omega), ern, o1, nI_toInt (by omega)]
          omega
        have e2 : nI (R (m - 1)).toNat + 1 = nI ((R (m - 1)).toNat + 1) := (nI_succ _).symm
        rw [eg, er, e1, e2] at g
        refine ⟨_, g, fun j hj => ?_⟩
        rw [bt_and, bt_xor, bt_or, bt_one ((R (m - 1)).toNat - 1) (by omega) j hj, bt_one ((R (m - 1)).toNat + 1) (by omega) j hj, bt_m1 j hj, g2 j hj]
        unfold okP
        by_cases cj : j = (R (m - 1)).toNat - 1 ∨ j = (R (m - 1)).toNat + 1
        · rw [okN_f (m := m) (x := j) ⟨c2, by omega, by omega, by omega⟩, Bool.and_false, Bool.and_false]
          rcases cj with cj | cj
          · rw [decide_eq_true cj, Bool.true_or]
            exact Bool.and_false _
          · rw [decide_eq_true cj, Bool.or_true]
            exact Bool.and_false _
        · rw [okN_t (m := m) (x := j) (fun h => cj (by omega)), Bool.and_true, decide_eq_false (fun h => cj (Or.inl h)), decide_eq_false (fun h => cj (Or.inr h))]
          exact Bool.and_true _
    · exact ⟨b, fb_3 a1 hT1 a2 g1 (by rw [em]; omega) ix c2, same (fun j => okN_t (fun h => by omega))⟩
end CD

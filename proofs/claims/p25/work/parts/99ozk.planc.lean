/-! plan OF THE CLASS: floors, the search. -/
def flD (fz : Nat → Nat) : Nat → Nat → Nat
  | 0, _ => 0
  | r + 1, i => fz i + flD fz r (i + 1)
def flQ (k : Nat) : Nat := if k = 0 then 1000 else k
theorem flQ_le {k : Nat} (h : k ≤ 16) : flQ k ≤ 1000 := by
  unfold flQ
  split <;> omega
theorem flD_le {fz : Nat → Nat} (h : ∀ i, fz i ≤ 1000) : ∀ r i, flD fz r i ≤ 1000 * r
  | 0, _ => Nat.le_refl _
  | r + 1, i => by
    have h1 := h i
    have h2 := flD_le h r (i + 1)
    show fz i + flD fz r (i + 1) ≤ 1000 * (r + 1)
    omega
theorem bsv_le {K B : Nat} {a : pA} (h : pB B a) (hB : B ≤ K) : bsv K a ≤ K := by
  cases a with
  | none => exact Nat.le_refl _
  | some q => exact Nat.le_trans (h q rfl) hB
/-- the planner's cells in a search -/
def plS (w : ex_W) (n m0 : Nat) (RU LA : List Int32) (a : pA) (i : Nat) (R : Nat → Int) : Prop := ∃ LT LB, ex_at w 21 = some (.inr (.inr (2, pln (nI n) (nI (bsv 1000 a))))) ∧ ex_at w 22 = some (.inl (.int, RU)) ∧ ex_at w 23 = some (.inl (.int, LA)) ∧ ex_at w 24 = some (.inl (.int, LT)) ∧ LT.length = 5 ∧ (∀ j, j < i → (LT.getD j 0).toInt = R (m0 + j)) ∧ ex_at w 25 = some (.inl (.int, LB)) ∧ LB.length = 5 ∧ ∀ q, a = some q → ∀ j, j < n → (LB.getD j 0).toInt = q.2 (m0 + j)
section PC
variable {X : List Int32} {d t m n m0 : Nat} {w : ex_W} {R R0 : Nat → Int} {A : Nat → Int32} {x b mm : Int32} {tf : Nat → Int32} {ta : Nat → List Int32} {ST WE RU LA : List Int32} {dn an wn : Nat}
theorem ff_loop (h17 : ex_at w 17 = some (.inr (.inr (0, al t mm)))) (hT : tA w t tf ta) (l1 : (ta 1).length = 17) (h16 : (tf 0).toInt ≤ 16) (hma : 1 ≤ (tf 1).toInt) : ∀ c k, k + c = (tf 0).toInt.toNat + 1 → 1 ≤ k → Go X (d + 3) mt_167 (13, [some (.ref 17), some (.int x), some (.int b), some (.int (nI k))], []) w (some (.int (nI (flQ (fsN (flP tf ta b x) c k)))), w)
  | 0, k, hk, h1 => by
    have ek : (nI k).toInt = (k : Int) := nI_toInt (by omega)
    exact ff_x h17 hT.1 (by rw [ek]; omega)
  | c + 1, k, hk, h1 => by
    have ek : (nI k).toInt = (k : Int) := nI_toInt (by omega)
    have g : Go X (d + 2) mt_165 (ex_ent mt_165 [.ref 17, .int (nI k), .int x, .int b]) w (some (.int (fl (flP tf ta b x k))), w) := te_all (X := X) (d := d) (x := x) (b := b) (k := k) (by omega) h17 hT l1 h16 hma
    by_cases e : flP tf ta b x k = true
    · rw [show fsN (flP tf ta b x) (c + 1) k = k from if_pos e, show flQ k = k from if_neg (by omega)]
      rw [e] at g
      exact ff_y h17 hT.1 (by rw [ek]; omega) g
    · rw [show fsN (flP tf ta b x) (c + 1) k = fsN (flP tf ta b x) c (k + 1) from if_neg e]
      rw [Bool.eq_false_iff.mpr e] at g
      have ih := ff_loop h17 hT l1 h16 hma c (k + 1) (by omega) (by omega)
      rw [show some (Value.int (nI (k + 1))) = some (.int (nI k + 1)) by rw [nI_succ]] at ih
      exact ff_n h17 hT.1 (by rw [ek]; omega) g ih
theorem ff_all (hA : alR w t m R) (hm : m ≤ 124) (hT : tA w t tf ta) (l1 : (ta 1).length = 17) (hmo : 4 ≤ (tf 0).toInt ∧ (tf 0).toInt ≤ 16) (hma : 1 ≤ (tf 1).toInt) (hb : ∀ j, j < 32 → bt b j = (decide (1 ≤ j ∧ (j : Int) ≤ (tf 0).toInt) && okG R m (m + 4 : Nat) (tf 2).toInt j)) : Go X (d + 4) mt_167 (ex_ent mt_167 [.ref 17, .int x]) w (some (.int (nI (flQ (fsN (flP tf ta b x) (tf 0).toInt.toNat 1)))), w) := by
  obtain ⟨RU, LB, LA, k17, -⟩ := id hA
  have e4 : nI m + 4 = nI (m + 4) := nI_add m 4
  obtain ⟨b', g1, g2⟩ := bb_all (X := X) (d := d + 3) (y := nI m + 4) (Y := ((m + 4 : Nat) : Int)) hA hT.1 hmo (by rw [e4]; exact nI_toInt (by omega)) (by omega)
  have e : b' = b := bt_ext (fun j hj => by rw [g2 j hj, hb j hj])
  subst e
  exact ff_0 k17 g1 (ff_loop k17 hT l1 hmo.2 hma (tf 0).toInt.toNat 1 (by omega) (by omega))
/-- the floors, from the last one on -/
theorem fc_loop {fz : Nat → Nat} {hg : Int32} (hR : Rs tf ta ST WE dn an wn) (t6 : t + 6 < 15) (hm : m ≤ 124) (hn : n ≤ 5) (lr : RU.length = 5) (hru : ∀ s, s < n → RU.getD s 0 = A s) (hb : ∀ j, j < 32 → bt b j = (decide (1 ≤ j ∧ (j : Int) ≤ (tf 0).toInt) && okG R m (m + 4 : Nat) (tf 2).toInt j)) (hfl : ∀ i, i < n → fz i = flQ (fsN (flP tf ta b (A i)) (tf 0).toInt.toNat 1)) : ∀ (r : Nat) (x : Int32) (w : ex_W) (LA : List Int32), x.toInt = (r : Int) - 1 → r ≤ n → tA w t tf ta → alR w t m R → ex_at w 21 = some (.inr (.inr (2, pln (nI n) hg))) → ex_at w 22 = some (.inl (.int, RU)) → ex_at w 23 = some (.inl (.int, LA)) → LA.length = 6 → (∀ j, r ≤ j → j ≤ n → LA.getD j 0 = nI (flD fz (n - j) j)) → ∃ LA', LA'.length = 6 ∧ (∀ j, j ≤ n → LA'.getD j 0 = nI (flD fz (n - j) j)) ∧ ∀ q, (∀ y : Int32, y.toInt = -1 → Go X (d + 5) mt_120 (24, [some (.ref 21), some (.int y)], []) (ex_put w 23 (.inl (.int, LA'))) q) → Go X (d + 5) mt_120 (24, [some (.ref 21), some (.int x)], []) w q := by
  obtain ⟨s1, s2, s3, s4, s5, s6, s7, s8, s9, s10, s11, s12, s13, s14, s15, s16, s17, s18⟩ := id hR.2.1
  intro r
  induction r with
  | zero =>
    intro x w LA hx hr hT hA h21 h22 h23 ll hL
    refine ⟨LA, ll, fun j hj => hL j (Nat.zero_le j) hj, fun q kk => ?_⟩
    have k := kk x (by omega)
    rw [fp_put_id h23] at k
    exact k
  | succ r ih =>
    intro x w LA hx hr hT hA h21 h22 h23 ll hL
    obtain rfl : x = nI r := tI_nI (by omega) (by omega)
    have er : (nI r).toInt = (r : Int) := nI_toInt (by omega)
    have o1 : (Int32.ofInt (-1)).toInt = -1 := by decide
    obtain ⟨RUa, LBa, LAa, k17, -⟩ := id hA
    have g := ff_all (X := X) (d := d) (x := A r) hA hm hT hR.1.2.1 ⟨s15, s16⟩ s17 hb
    rw [← hfl r (by omega)] at g
    have e1 : nI r + 1 = nI (r + 1) := (nI_succ r).symm
    have eg : ex_gd LA (Int32.toNatClampNeg (nI r + 1)) = nI (flD fz (n - (r + 1)) (r + 1)) := by rw [e1, nI_clamp (by omega), ex_gd_eq]; exact hL (r + 1) (Nat.le_refl _) hr
    have es : ex_gd LA (Int32.toNatClampNeg (nI r + 1)) + nI (fz r) = nI (flD fz (n - r) r) := by
      rw [eg, nI_plus, show n - r = n - (r + 1) + 1 by omega]
      show nI _ = nI (fz r + flD fz (n - (r + 1)) (r + 1))
      rw [Nat.add_comm]
    obtain ⟨LA', q1, q2, q3⟩ := ih (nI r + Int32.ofInt (-1)) (ex_put w 23 (.inl (.int, ex_put LA r (nI (flD fz (n - r) r))))) (ex_put LA r (nI (flD fz (n - r) r))) (by rw [tI_add (by rw [er, o1]; omega) (by rw [er, o1]; omega), er, o1]; omega) (by omega) (hT.off (fun q a c => vg_at_ne (sh_beq (by omega)))) (by
      obtain ⟨RUb, LBb, LAb, u1, u2, u3, u4, u5⟩ := hA
      exact ⟨RUb, LBb, LAb, vg_at_o rfl u1, vg_at_o rfl u2, vg_at_o rfl u3, vg_at_o rfl u4, u5⟩) (vg_at_o rfl h21) (vg_at_o rfl h22) (vg_at_put h23) (by rw [rl_len]; exact ll) (fun j h1 h2 => by
      by_cases e : j = r
      · rw [e, rl_x (by omega)]
      · rw [rl_w e]
        exact hL j (by omega) h2)
    refine ⟨LA', q1, q2, fun q kk => ?_⟩
    have k := q3 q (fun y hy => by
      rw [fp_put2]
      exact kk y hy)
    refine fc_n h21 k17 h23 h22 (by rw [er]; omega) (by rw [e1, ll]; exact fp_ix (by omega) (by decide)) (by rw [lr]; exact fp_ix (by omega) (by decide)) (v := nI (fz r)) (by rw [nI_clamp (by omega), ex_gd_eq, hru r (by omega)]; exact g) (by rw [ll]; exact fp_ix (by omega) (by decide)) ?_
    rw [es, nI_clamp (by omega)]
    exact k
/-- bits and what tells -/
theorem plT_bt {k i : Nat} (hR : Rs tf ta ST WE dn an wn) (hb : ∀ j, j < 32 → bt b j = (decide (1 ≤ j ∧ (j : Int) ≤ (tf 0).toInt) && okP R m (tf 2).toInt (tf 3).toInt j)) (h1 : 1 ≤ k) (h2 : k ≤ (tf 0).toInt.toNat) : (bt b k && decide ((mgV tf ta (nI k) b).toInt = (A i).toInt)) = plT tf ST A R m i k := by
  obtain ⟨s1, s2, s3, s4, s5, s6, s7, s8, s9, s10, s11, s12, s13, s14, s15, s16, s17, s18⟩ := id hR.2.1
  have ej : (nI k).toInt = (k : Int) := nI_toInt (by omega)
  have e := mg_mn (tf := tf) (ta := ta) (ST := ST) (dn := m) (R := R) (x := nI k) (b := b) (by rw [ej]; omega) s16 s3 s4 s5 (by rw [ej]; exact (hR.2.2.2.1 k (by omega) (by omega)).1) hb
  unfold plT
  rw [e, hb k (by omega), decide_eq_true (show 1 ≤ k ∧ (k : Int) ≤ (tf 0).toInt by omega), Bool.true_and, show ST.getD 78 0 = tf 2 from s3, show ST.getD 79 0 = tf 3 from s4]
theorem zf_all {fz flF : Nat → Nat} (hR : Rs tf ta ST WE dn an wn) (t6 : t + 6 < 15) (hn : n ≤ 5) (hm : m0 + n ≤ 128) (lr : RU.length = 5) (hru : ∀ s, s < n → RU.getD s 0 = A s) (ll : LA.length = 6) (hla : ∀ j, j ≤ n → LA.getD j 0 = nI (flF j)) (hlb : ∀ j, flF j ≤ 6000) (hF : ∀ i, i < n → flF i = fz i + flF (i + 1)) (hF0 : flF n = 0) (hfl : ∀ (R : Nat → Int) (i k : Nat), i < n → (∀ j, j < m0 → R j = R0 j) → 1 ≤ k → k ≤ (tf 0).toInt.toNat → plT tf ST A R (m0 + i) i k = true → fz i ≤ k) : ∀ (f D : Nat) (w : ex_W) (R : Nat → Int) (i s : Nat) (a : pA), f + 4 ≤ D → i + f = n → s ≤ 16 * i → pB (16 * n) a → (f = 0 → s + flF i < bsv 1000 a) → tA w t tf ta → plS w n m0 RU LA a i R → alR w t (m0 + i) R → (∀ j, j < m0 → R j = R0 j) → ∃ w', Go X D mt_168 (ex_ent mt_168 [.ref 21, .int (nI i), .int (nI s)]) w (none, w') ∧ plS w' n m0 RU LA (pE (plT tf ST A) (tf 0).toInt.toNat f R (m0 + i) i s a) i R ∧ alR w' t (m0 + i) R ∧ ∀ q, ¬ (17 ≤ q ∧ q ≤ 25) → ex_at w' q = ex_at w q := by
  obtain ⟨s1, s2, s3, s4, s5, s6, s7, s8, s9, s10, s11, s12, s13, s14, s15, s16, s17, s18⟩ := id hR.2.1
  have en : (nI n).toInt = (n : Int) := nI_toInt (by omega)
  intro f
  induction f with
  | zero =>
    intro D w R i s a hD hi hs ha hlt hT hS hA hE
    obtain rfl : i = n := hi
    obtain ⟨LT, LB, p21, p22, p23, p24, p24l, p24v, p25, p25l, p25v⟩ := hS
    refine ⟨_, zf_l p21 p24 p25 (Int.le_refl _) p24l p25l, ?_, ?_, fun q hq => (vg_at_ne (sh_beq (by omega))).trans (vg_at_ne (sh_beq (by omega)))⟩
    · have eb : pE (plT tf ST A) (tf 0).toInt.toNat 0 R (m0 + i) i s a = some (s, R) := by
        show bett s R a = some (s, R)
        cases a with
        | none => rfl
        | some q =>
          have hlt : s + flF i < q.1 := hlt rfl
          exact if_pos (by omega)
      rw [eb]
      exact ⟨LT, LT, vg_at_o rfl (vg_at_put p21), vg_at_o rfl (vg_at_o rfl p22), vg_at_o rfl (vg_at_o rfl p23), vg_at_o rfl (vg_at_o rfl p24), p24l, p24v, vg_at_put (vg_at_o rfl p25), p24l, fun q hq j hj => by
        cases hq
        exact p24v j hj⟩
    · obtain ⟨RUb, LBb, LAb, u1, u2, u3, u4, u5⟩ := hA
      exact ⟨RUb, LBb, LAb, vg_at_o rfl (vg_at_o rfl u1), vg_at_o rfl (vg_at_o rfl u2), vg_at_o rfl (vg_at_o rfl u3), vg_at_o rfl (vg_at_o rfl u4), u5⟩
  | succ f ih =>
    intro D w R i s a hD hi hs ha hlt hT hS hA hE
    obtain ⟨d, rfl⟩ : ∃ d, D = d + 3 := ⟨D - 3, by omega⟩
    have ei : (nI i).toInt = (i : Int) := nI_toInt (by omega)
    have es : (nI s).toInt = (s : Int) := nI_toInt (by omega)
    have e1 : nI i + 1 = nI (i + 1) := (nI_succ i).symm
    obtain ⟨b, g1, hb⟩ := fb_all (X := X) (d := d + 1) hA (by omega) hT.1 ⟨s15, s16⟩
    obtain ⟨RUa, LBa, LAa, k17, -⟩ := id hA
    have i23 : ex_ix (nI i + 1) LA.length = true := by rw [e1, ll]; exact fp_ix (by omega) (by decide)
    have i22 : ex_ix (nI i) RU.length = true := by rw [lr]; exact fp_ix (by omega) (by decide)
    have loop : ∀ (c k : Nat) (w1 : ex_W) (a1 : pA), k + c = (tf 0).toInt.toNat + 1 → 1 ≤ k → pB (16 * n) a1 → tA w1 t tf ta → plS w1 n m0 RU LA a1 i R → alR w1 t (m0 + i) R → ∃ w', Go X (d + 3) mt_168 (53, [some (.ref 21), some (.int (nI i)), some (.int (nI s)), some (.int b), some (.int (tf 0)), some (.int (nI k))], []) w1 (none, w') ∧ plS w' n m0 RU LA (pL (fun k b => pE (plT tf ST A) (tf 0).toInt.toNat f (up R (m0 + i) (k : Int)) (m0 + i + 1) (i + 1) (s + k) b) (plT tf ST A R (m0 + i) i) c k a1) i R ∧ alR w' t (m0 + i) R ∧ ∀ q, ¬ (17 ≤ q ∧ q ≤ 25) → ex_at w' q = ex_at w1 q := by
      intro c
      induction c with
      | zero =>
        intro k w1 a1 hk h1 ha1 hT1 hS1 hA1
        exact ⟨w1, zf_x (by rw [nI_toInt (by omega)]; omega), hS1, hA1, fun _ _ => rfl⟩
      | succ c ihc =>
        intro k w1 a1 hk h1 ha1 hT1 hS1 hA1
        have ek : (nI k).toInt = (k : Int) := nI_toInt (by omega)
        obtain ⟨LT, LB, p21, p22, p23, p24, p24l, p24v, p25, p25l, p25v⟩ := id hS1
        obtain ⟨RUc, LBc, LAc, k171, -⟩ := id hA1
        have hbv := bsv_le (K := 1000) ha1 (by omega)
        have ev : (nI (bsv 1000 a1)).toInt = (bsv 1000 a1 : Int) := nI_toInt (by omega)
        have hl6 := hlb (i + 1)
        have esum : ((nI s + nI k) + ex_gd LA (Int32.toNatClampNeg (nI i + 1))).toInt = ((s + k + flF (i + 1) : Nat) : Int) := by
          rw [e1, nI_clamp (by omega), ex_gd_eq, hla (i + 1) (by omega), nI_plus, nI_plus]
          exact nI_toInt (by omega)
        have ltk : (nI k).toInt ≤ (tf 0).toInt := by rw [ek]; omega
        by_cases cut : bsv 1000 a1 ≤ s + k + flF (i + 1)
        · refine ⟨w1, zf_y p21 p23 ltk i23 (by rw [esum, ev]; omega), ?_, hA1, fun _ _ => rfl⟩
          have ep : pL (fun k b => pE (plT tf ST A) (tf 0).toInt.toNat f (up R (m0 + i) (k : Int)) (m0 + i + 1) (i + 1) (s + k) b) (plT tf ST A R (m0 + i) i) (c + 1) k a1 = a1 := pL_id (c + 1) k a1 (fun j h2 h3 h4 => pE_cut (n := n) (m0 := m0) (K := 1000) (R0 := R0) (fl := fz) (flF := flF) hF hF0 (by omega) (by omega) hfl f (up R (m0 + i) (j : Int)) (i + 1) (s + j) a1 (by omega) (fun j' hj' => by rw [up_ne _ _ (by omega)]; exact hE j' hj') (by omega) (by omega))
          rw [ep]
          exact hS1
        · have gt : Go X (d + 2) mt_165 (ex_ent mt_165 [.ref 17, .int (nI k), .int (ex_gd RU (Int32.toNatClampNeg (nI i))), .int b]) w1 (some (.int (fl (plT tf ST A R (m0 + i) i k))), w1) := by
            rw [nI_clamp (by omega), ex_gd_eq, hru i (by omega), ← plT_bt (A := A) (i := i) hR hb h1 (by omega)]
            exact te_all (X := X) (d := d) (x := A i) (b := b) (k := k) (by omega) k171 hT1 hR.1.2.1 s16 s17
          by_cases tt : plT tf ST A R (m0 + i) i k = true
          · rw [tt] at gt
            -- the number is tried
            have hT2 : tA (ex_put w1 24 (.inl (.int, ex_put LT i (nI k)))) t tf ta := hT1.off (fun q a c => vg_at_ne (sh_beq (by omega)))
            have hA2 : alR (ex_put w1 24 (.inl (.int, ex_put LT i (nI k)))) t (m0 + i) R := by
              obtain ⟨RUb, LBb, LAb, u1, u2, u3, u4, u5⟩ := hA1
              exact ⟨RUb, LBb, LAb, vg_at_o rfl u1, vg_at_o rfl u2, vg_at_o rfl u3, vg_at_o rfl u4, u5⟩
            obtain ⟨w2, z1, z2, z3⟩ := al_pass (X := X) (d := d + 2) (x := nI k) hA2 (by omega) (by rw [ek]; omega) (by rw [ek]; omega)
            rw [ek] at z2
            have S2 : plS w2 n m0 RU LA a1 (i + 1) (up R (m0 + i) (k : Int)) := ⟨ex_put LT i (nI k), LB, (z3 21 (by omega)).trans (vg_at_o rfl p21), (z3 22 (by omega)).trans (vg_at_o rfl p22), (z3 23 (by omega)).trans (vg_at_o rfl p23), (z3 24 (by omega)).trans (vg_at_put p24), by rw [rl_len]; exact p24l, fun j hj => by
              by_cases e : j = i
              · rw [e, rl_x (by omega), up_eq]
                exact ek
              · rw [rl_w e, up_ne _ _ (by omega)]
                exact p24v j (by omega), (z3 25 (by omega)).trans (vg_at_o rfl p25), p25l, p25v⟩
            obtain ⟨w3, y1, y2, y3, y4⟩ := ih (d + 2) w2 (up R (m0 + i) (k : Int)) (i + 1) (s + k) a1 (by omega) (by omega) (by omega) ha1 (fun _ => by omega) (hT2.off (fun q a c => z3 q (by omega))) S2 z2 (fun j hj => by rw [up_ne _ _ (by omega)]; exact hE j hj)
            obtain ⟨w4, b1, b2, b3⟩ := al_back (X := X) (d := d + 2) (m := m0 + i) y3
            have A4 : alR w4 t (m0 + i) R := b2.cg (fun j hj => up_ne _ _ (by omega))
            obtain ⟨LT3, LB3, v21, v22, v23, v24, v24l, v24v, v25, v25l, v25v⟩ := y2
            have S4 : plS w4 n m0 RU LA (pE (plT tf ST A) (tf 0).toInt.toNat f (up R (m0 + i) (k : Int)) (m0 + (i + 1)) (i + 1) (s + k) a1) i R := ⟨LT3, LB3, (b3 21 (by omega)).trans v21, (b3 22 (by omega)).trans v22, (b3 23 (by omega)).trans v23, (b3 24 (by omega)).trans v24, v24l, fun j hj => by
              rw [v24v j (by omega), up_ne _ _ (by omega)], (b3 25 (by omega)).trans v25, v25l, v25v⟩
            have F4 : ∀ q, ¬ (17 ≤ q ∧ q ≤ 25) → ex_at w4 q = ex_at w1 q := fun q hq => (b3 q (by omega)).trans ((y4 q hq).trans ((z3 q (by omega)).trans (vg_at_ne (sh_beq (by omega)))))
            have B4 : pB (16 * n) (pE (plT tf ST A) (tf 0).toInt.toNat f (up R (m0 + i) (k : Int)) (m0 + i + 1) (i + 1) (s + k) a1) := by
              have hbb := pE_B (tl := plT tf ST A) (mo := (tf 0).toInt.toNat) (by omega) f (up R (m0 + i) (k : Int)) (m0 + i + 1) (i + 1) (s + k) a1 (by omega) (by rw [show 16 * (i + 1 + f) = 16 * n by omega]; exact ha1)
              rw [show 16 * (i + 1 + f) = 16 * n by omega] at hbb
              exact hbb
            obtain ⟨w', x1, x2, x3, x4⟩ := ihc (k + 1) w4 _ (by omega) (by omega) B4 (hT1.off (fun q a c => F4 q (by omega))) S4 A4
            obtain ⟨RUd, LBd, LAd, k173, -⟩ := id y3
            refine ⟨w', zf_t (w1 := w2) (w2 := w3) (w3 := w4) p21 k171 p23 p22 p24 ltk i23 (by rw [esum, ev]; omega) i22 gt (by rw [p24l]; exact fp_ix (by omega) (by decide)) (by rw [nI_clamp (by omega)]; exact z1) (by rw [e1, nI_plus]; exact y1) v21 rfl k173 b1 (by rw [← nI_succ]; exact x1), ?_, x3, fun q hq => (x4 q hq).trans (F4 q hq)⟩
            show plS w' n m0 RU LA (pL _ _ c (k + 1) (if plT tf ST A R (m0 + i) i k = true then _ else a1)) i R
            rw [if_pos tt]
            exact x2
          · rw [Bool.eq_false_iff.mpr tt] at gt
            obtain ⟨w', x1, x2, x3, x4⟩ := ihc (k + 1) w1 a1 (by omega) (by omega) ha1 hT1 hS1 hA1
            refine ⟨w', zf_n p21 k171 p23 p22 ltk i23 (by rw [esum, ev]; omega) i22 gt (by rw [← nI_succ]; exact x1), ?_, x3, x4⟩
            show plS w' n m0 RU LA (pL _ _ c (k + 1) (if plT tf ST A R (m0 + i) i k = true then _ else a1)) i R
            rw [if_neg tt]
            exact x2
    obtain ⟨w', x1, x2, x3, x4⟩ := loop (tf 0).toInt.toNat 1 w a (by omega) (by omega) ha hT hS hA
    obtain ⟨LT, LB, p21, -⟩ := id hS
    exact ⟨w', zf_0 p21 k17 (by rw [ei, en]; omega) (by rw [ei]; omega) g1 (mu_1 k17 hT.1) x1, x2, x3, x4⟩
/-- findCheapest -/
theorem fc_all {hg : Int32} {LA LT LB : List Int32} (hR : Rs tf ta ST WE dn an wn) (t6 : t + 6 < 15) (hn : n ≤ 5) (hm : m0 ≤ 60) (lr : RU.length = 5) (hru : ∀ s, s < n → RU.getD s 0 = A s) (hT : tA w t tf ta) (hA : alR w t m0 R0) (h21 : ex_at w 21 = some (.inr (.inr (2, pln (nI n) hg)))) (h22 : ex_at w 22 = some (.inl (.int, RU))) (h23 : ex_at w 23 = some (.inl (.int, LA))) (ll : LA.length = 6) (h24 : ex_at w 24 = some (.inl (.int, LT))) (lt : LT.length = 5) (h25 : ex_at w 25 = some (.inl (.int, LB))) (lb : LB.length = 5) : ∃ w' LA', Go X (d + 10) mt_120 (ex_ent mt_120 [.ref 21]) w (none, w') ∧ LA'.length = 6 ∧ plS w' n m0 RU LA' (pE (plT tf ST A) (tf 0).toInt.toNat n R0 m0 0 0 none) 0 R0 ∧ alR w' t m0 R0 ∧ ∀ q, ¬ (17 ≤ q ∧ q ≤ 25) → ex_at w' q = ex_at w q := by
  obtain ⟨s1, s2, s3, s4, s5, s6, s7, s8, s9, s10, s11, s12, s13, s14, s15, s16, s17, s18⟩ := id hR.2.1
  have en : (nI n).toInt = (n : Int) := nI_toInt (by omega)
  have o1 : (1 : Int32).toInt = 1 := by decide
  obtain ⟨b, -, hb⟩ := bb_all (X := X) (d := d) (y := nI (m0 + 4)) (Y := ((m0 + 4 : Nat) : Int)) hA hT.1 ⟨s15, s16⟩ (nI_toInt (by omega)) (by omega)
  have h16 : ∀ i, fsN (flP tf ta b (A i)) (tf 0).toInt.toNat 1 ≤ 16 := fun i => by
    have := fsN_le (flP tf ta b (A i)) (tf 0).toInt.toNat 1
    omega
  have hf1 : ∀ i, flQ (fsN (flP tf ta b (A i)) (tf 0).toInt.toNat 1) ≤ 1000 := fun i => flQ_le (h16 i)
  have w1A : alR (ex_put (ex_put w 21 (.inr (.inr (2, pln (nI n) 1000)))) 23 (.inl (.int, ex_put LA n 0))) t m0 R0 := by
    obtain ⟨RUb, LBb, LAb, u1, u2, u3, u4, u5⟩ := hA
    exact ⟨RUb, LBb, LAb, vg_at_o rfl (vg_at_o rfl u1), vg_at_o rfl (vg_at_o rfl u2), vg_at_o rfl (vg_at_o rfl u3), vg_at_o rfl (vg_at_o rfl u4), u5⟩
  have w1T : tA (ex_put (ex_put w 21 (.inr (.inr (2, pln (nI n) 1000)))) 23 (.inl (.int, ex_put LA n 0))) t tf ta := hT.off (fun q a c => (vg_at_ne (sh_beq (by omega))).trans (vg_at_ne (sh_beq (by omega))))
  obtain ⟨LA', q1, q2, q3⟩ := fc_loop (X := X) (d := d + 5) (hg := 1000) (fz := fun i => flQ (fsN (flP tf ta b (A i)) (tf 0).toInt.toNat 1)) hR t6 (by omega) hn lr hru hb (fun _ _ => rfl) n (nI n - 1) (ex_put (ex_put w 21 (.inr (.inr (2, pln (nI n) 1000)))) 23 (.inl (.int, ex_put LA n 0))) (ex_put LA n 0) (by rw [tI_sub (by rw [en, o1]; omega) (by rw [en, o1]; omega), en, o1]) (Nat.le_refl _) w1T w1A (vg_at_o rfl (vg_at_put h21)) (vg_at_o rfl (vg_at_o rfl h22)) (vg_at_put (vg_at_o rfl h23)) (by rw [rl_len]; exact ll) (fun j h1 h2 => by
    obtain rfl : j = n := by omega
    rw [rl_x (by omega), Nat.sub_self]
    rfl)
  have w2A : alR (ex_put (ex_put (ex_put w 21 (.inr (.inr (2, pln (nI n) 1000)))) 23 (.inl (.int, ex_put LA n 0))) 23 (.inl (.int, LA'))) t (m0 + 0) R0 := by
    obtain ⟨RUb, LBb, LAb, u1, u2, u3, u4, u5⟩ := w1A
    exact ⟨RUb, LBb, LAb, vg_at_o rfl u1, vg_at_o rfl u2, vg_at_o rfl u3, vg_at_o rfl u4, u5⟩
  obtain ⟨w', g1, g2, g3, g4⟩ := zf_all (X := X) (LA := LA') (R0 := R0) (m0 := m0) (A := A) (fz := fun i => flQ (fsN (flP tf ta b (A i)) (tf 0).toInt.toNat 1)) (flF := fun j => if j ≤ n then flD (fun i => flQ (fsN (flP tf ta b (A i)) (tf 0).toInt.toNat 1)) (n - j) j else 0) hR t6 hn (by omega) lr hru q1 (fun j hj => by rw [if_pos hj]; exact q2 j hj) (fun j => by
    by_cases c : j ≤ n
    · rw [if_pos c]
      have := flD_le hf1 (n - j) j
      omega
    · rw [if_neg c]
      omega) (fun i hi => by
    rw [if_pos (by omega), if_pos (by omega), show n - i = n - (i + 1) + 1 by omega]
    rfl) (by
    rw [if_pos (Nat.le_refl n), Nat.sub_self]
    rfl) (fun R i k hi hE h1 h2 ht => by
    obtain ⟨z1, z2⟩ := fl_le (A := A) hR hb hE (by omega) ⟨h1, h2⟩ ht
    rw [show flQ (fsN (flP tf ta b (A i)) (tf 0).toInt.toNat 1) = fsN (flP tf ta b (A i)) (tf 0).toInt.toNat 1 from if_neg z1]
    exact z2) n (d + 9) (ex_put (ex_put (ex_put w 21 (.inr (.inr (2, pln (nI n) 1000)))) 23 (.inl (.int, ex_put LA n 0))) 23 (.inl (.int, LA'))) R0 0 0 none (by omega) (by omega) (by omega) (fun q hq => by cases hq) (fun h0 => by
    subst h0
    show 0 + (if 0 ≤ 0 then flD _ (0 - 0) 0 else 0) < 1000
    rw [if_pos (Nat.le_refl 0)]
    show 0 + 0 < 1000
    omega) (w1T.off (fun q a c => vg_at_ne (sh_beq (by omega)))) ⟨LT, LB, vg_at_o rfl (vg_at_o rfl (vg_at_put h21)), vg_at_o rfl (vg_at_o rfl (vg_at_o rfl h22)), vg_at_put (vg_at_put (vg_at_o rfl h23)), vg_at_o rfl (vg_at_o rfl (vg_at_o rfl h24)), lt, fun j hj => absurd hj (Nat.not_lt_zero j), vg_at_o rfl (vg_at_o rfl (vg_at_o rfl h25)), lb, fun q hq => by cases hq⟩ w2A (fun _ _ => rfl)
  rw [nI_0] at g1
  refine ⟨w', LA', fc_0 h21 h23 (by rw [ll]; exact fp_ix (by omega) (by decide)) (by
    rw [nI_clamp (by omega)]
    exact q3 _ (fun y hy => fc_x (by rw [hy]; decide) g1)), q1, g2, g3, fun q hq => (g4 q hq).trans ((vg_at_ne (sh_beq (by omega))).trans ((vg_at_ne (sh_beq (by omega))).trans (vg_at_ne (sh_beq (by omega)))))⟩
end PC

/-! plan OF THE REFERENCE: its loop goes all ways in their order. -/
/-- the reference's cells in a search: i days are tried -/
def rfS (w : ex_W) (tf : Nat → Int32) (ST RM : List Int32) (n m0 i : Nat) (R : Nat → Int) (a : pA) : Prop := ∃ fs5 RW LB, ex_at w 59 = some (.inr (.inr (8, fs5))) ∧ ex_at fs5 0 = some (.ref 60) ∧ ex_at fs5 2 = some (.int (tf 0)) ∧ ex_at fs5 3 = some (.int (tf 1)) ∧ ex_at fs5 22 = some (.ref 67) ∧ ex_at fs5 23 = some (.int (nI (m0 + i))) ∧ ex_at fs5 24 = some (.ref 68) ∧ ex_at fs5 25 = some (.ref 69) ∧ ex_at fs5 26 = some (.int (nI (bsv 1000000 a))) ∧ ex_at w 60 = some (.inl (.int, ST)) ∧ ex_at w 67 = some (.inl (.int, RW)) ∧ RW.length = 130 ∧ (∀ j, j < m0 + i → (RW.getD j 0).toInt = R j) ∧ ex_at w 68 = some (.inl (.int, RM)) ∧ ex_at w 69 = some (.inl (.int, LB)) ∧ LB.length = 5 ∧ ∀ q, a = some q → ∀ j, j < n → (LB.getD j 0).toInt = q.2 (m0 + j)
/-- the frame behind a level's end -/
def pfF (n m0 i : Nat) (R : Nat → Int) (s : Nat) : ex_F := match i with
  | 0 => (34, [some (.ref 59), some (.int (nI n)), some (.int (nI m0)), some (.int (Int32.ofInt (-1))), some (.int 0), some (.int (nI s))], [])
  | j + 1 => (34, [some (.ref 59), some (.int (nI n)), some (.int (nI m0)), some (.int (nI j)), some (.int (nI ((R (m0 + j)).toNat + 1))), some (.int (nI (s - (R (m0 + j)).toNat)))], [])
section PR
variable {X : List Int32} {d n m0 : Nat} {w : ex_W} {R : Nat → Int} {A : Nat → Int32} {x : Int32} {tf : Nat → Int32} {ST RM : List Int32} {a : pA} {q : Option Value × ex_W}
theorem rfS.rw {i : Nat} (h : rfS w tf ST RM n m0 i R a) (ls : ST.length = 288) (hm : m0 + i ≤ 130) : rwR w (m0 + i) R ST := by
  obtain ⟨fs5, RW, LB, h59, f0, f2, f3, f22, f23, f24, f25, f26, h60, h67, lr, hRW, -⟩ := h
  exact ⟨fs5, RW, h59, f0, f22, f23, h60, h67, lr, ls, hm, hRW⟩
theorem rfS.cg {i : Nat} {R' : Nat → Int} (h : rfS w tf ST RM n m0 i R a) (e : ∀ j, j < m0 + i → R j = R' j) : rfS w tf ST RM n m0 i R' a := by
  obtain ⟨fs5, RW, LB, h59, f0, f2, f3, f22, f23, f24, f25, f26, h60, h67, lr, hRW, k⟩ := h
  exact ⟨fs5, RW, LB, h59, f0, f2, f3, f22, f23, f24, f25, f26, h60, h67, lr, fun j hj => (hRW j hj).trans (e j hj), k⟩
theorem yt_all {fs : List Value} {RW LB : List Int32} {s b : Nat} {e : Int32} (h59 : ex_at w 59 = some (.inr (.inr (8, fs)))) (f22 : ex_at fs 22 = some (.ref 67)) (f25 : ex_at fs 25 = some (.ref 69)) (f26 : ex_at fs 26 = some (.int e)) (h67 : ex_at w 67 = some (.inl (.int, RW))) (lr : RW.length = 130) (h69 : ex_at w 69 = some (.inl (.int, LB))) (lb : LB.length = 5) (hn : n ≤ 5) (hb : b + n ≤ 130) : ∃ LB', LB'.length = 5 ∧ (∀ j, j < n → LB'.getD j 0 = RW.getD (b + j) 0) ∧ Go X d mt_169 (ex_ent mt_169 [.ref 59, .int (nI b), .int (nI n), .int (nI s)]) w (none, ex_put (ex_put w 59 (.inr (.inr (8, ex_put fs 26 (.int (nI s)))))) 69 (.inl (.int, LB'))) := by
  have en : (nI n).toInt = (n : Int) := nI_toInt (by omega)
  have loop : ∀ (c i : Nat) (w1 : ex_W) (L1 : List Int32), i + c = n → ex_at w1 59 = some (.inr (.inr (8, ex_put fs 26 (.int (nI s))))) → ex_at w1 67 = some (.inl (.int, RW)) → ex_at w1 69 = some (.inl (.int, L1)) → L1.length = 5 → (∀ j, j < i → L1.getD j 0 = RW.getD (b + j) 0) → ∃ LB', LB'.length = 5 ∧ (∀ j, j < n → LB'.getD j 0 = RW.getD (b + j) 0) ∧ Go X d mt_169 (8, [some (.ref 59), some (.int (nI b)), some (.int (nI n)), some (.int (nI s)), some (.int (nI i))], []) w1 (none, ex_put w1 69 (.inl (.int, LB'))) := by
    intro c
    induction c with
    | zero =>
      intro i w1 L1 hi k59 k67 k69 kl kv
      obtain rfl : i = n := by omega
      refine ⟨L1, kl, kv, ?_⟩
      rw [fp_put_id k69]
      exact yt_x (Int.le_refl _)
    | succ c ih =>
      intro i w1 L1 hi k59 k67 k69 kl kv
      have ei : (nI i).toInt = (i : Int) := nI_toInt (by omega)
      have eb : nI b + nI i = nI (b + i) := nI_add b i
      obtain ⟨LB', q1, q2, q3⟩ := ih (i + 1) (ex_put w1 69 (.inl (.int, ex_put L1 i (RW.getD (b + i) 0)))) (ex_put L1 i (RW.getD (b + i) 0)) (by omega) (vg_at_o rfl k59) (vg_at_o rfl k67) (vg_at_put k69) (by rw [rl_len]; exact kl) (fun j hj => by
        by_cases e : j = i
        · rw [e, rl_x (by omega)]
        · rw [rl_w e]
          exact kv j (by omega))
      refine ⟨LB', q1, q2, ?_⟩
      rw [fp_put2, nI_succ] at q3
      refine yt_n k59 (vg_at_o rfl f22) (vg_at_o rfl f25) k67 k69 (by rw [ei, en]; omega) (by rw [eb, lr]; exact fp_ix (by omega) (by decide)) (by rw [kl]; exact fp_ix (by omega) (by decide)) ?_
      rw [eb, nI_clamp (by omega), nI_clamp (by omega), ex_gd_eq]
      exact q3
  obtain ⟨LB', q1, q2, q3⟩ := loop n 0 (ex_put w 59 (.inr (.inr (8, ex_put fs 26 (.int (nI s)))))) LB (by omega) (vg_at_put h59) (vg_at_o rfl h67) (vg_at_o rfl h69) lb (fun j hj => absurd hj (Nat.not_lt_zero j))
  rw [nI_0] at q3
  exact ⟨LB', q1, q2, yt_0 h59 f26 q3⟩
/-- a level's end -/
theorem yp_pop {i k s : Nat} (hn : n ≤ 5) (hn0 : 0 < n) (hi : i < n) (hm : m0 + n ≤ 129) (hk : 1 ≤ k ∧ k ≤ 17) (hs : s ≤ 80) (hss : i = 0 ∨ (R (m0 + (i - 1))).toNat ≤ s) (h16 : 4 ≤ (tf 0).toInt ∧ (tf 0).toInt ≤ 16) (hB : pB (16 * n) a) (hR16 : ∀ j, j < m0 + i → 0 ≤ R j ∧ R j ≤ 16) (hS : rfS w tf ST RM n m0 i R a) (hc : (tf 0).toInt.toNat < k ∨ bsv 1000000 a ≤ s + k) : ∃ w', rfS w' tf ST RM n m0 (i - 1) R a ∧ ∀ q, Go X d mt_124 (pfF n m0 i R s) w' q → Go X d mt_124 (34, [some (.ref 59), some (.int (nI n)), some (.int (nI m0)), some (.int (nI i)), some (.int (nI k)), some (.int (nI s))], []) w q := by
  obtain ⟨fs5, RW, LB, h59, f0, f2, f3, f22, f23, f24, f25, f26, h60, h67, lr, hRW, h68, h69, lb, hLB⟩ := hS
  have en : (nI n).toInt = (n : Int) := nI_toInt (by omega)
  have ei : (nI i).toInt = (i : Int) := nI_toInt (by omega)
  have ek : (nI k).toInt = (k : Int) := nI_toInt (by omega)
  have hbv := bsv_le (K := 1000000) hB (by omega)
  have ev : (nI (bsv 1000000 a)).toInt = (bsv 1000000 a : Int) := nI_toInt (by omega)
  have esk : (nI s + nI k).toInt = ((s + k : Nat) : Int) := by rw [nI_plus]; exact nI_toInt (by omega)
  have m1 : (Int32.ofInt (-1)).toInt = -1 := by decide
  have back : ∀ v : Int32, v = nI (m0 + (i - 1)) → rfS (ex_put w 59 (.inr (.inr (8, ex_put fs5 23 (.int v))))) tf ST RM n m0 (i - 1) R a := fun v hv => by
    subst hv
    exact ⟨_, RW, LB, vg_at_put h59, vg_at_o rfl f0, vg_at_o rfl f2, vg_at_o rfl f3, vg_at_o rfl f22, vg_at_put f23, vg_at_o rfl f24, vg_at_o rfl f25, vg_at_o rfl f26, vg_at_o rfl h60, vg_at_o rfl h67, lr, fun j hj => hRW j (by omega), vg_at_o rfl h68, vg_at_o rfl h69, lb, hLB⟩
  cases i with
  | zero =>
    have e1 : nI 0 + Int32.ofInt (-1) = Int32.ofInt (-1) := by decide
    have e2 : nI s - 0 = nI s := nI_less (Nat.zero_le s)
    have e3 : nI m0 + 0 = nI (m0 + 0) := nI_add m0 0
    refine ⟨_, back (nI m0 + 0) e3, fun q g => ?_⟩
    by_cases c : (tf 0).toInt.toNat < k
    · refine yp_za h59 f2 f23 (by rw [en]; omega) (by rw [ei]; omega) (by rw [ek]; omega) (by rw [e1, m1]; omega) (by rw [e1, m1]; omega) (by rw [e1, m1]; omega) ?_
      rw [e1, e2]
      exact g
    · refine yp_zb h59 f2 f23 f26 (by rw [en]; omega) (by rw [ei]; omega) (by rw [ek]; omega) (by rw [esk, ev]; omega) (by rw [e1, m1]; omega) (by rw [e1, m1]; omega) (by rw [e1, m1]; omega) ?_
      rw [e1, e2]
      exact g
  | succ j =>
    have ej : (nI j).toInt = (j : Int) := nI_toInt (by omega)
    have e1 : nI (j + 1) + Int32.ofInt (-1) = nI j := by
      apply Int32.toInt_inj.mp
      rw [tI_add (by rw [ei, m1]; omega) (by rw [ei, m1]; omega), ei, m1, ej]
      omega
    have e3 : nI m0 + nI j = nI (m0 + j) := nI_add m0 j
    obtain ⟨r1, r2⟩ := hR16 (m0 + j) (by omega)
    have eg : ex_gd RW (Int32.toNatClampNeg (nI m0 + nI j)) = nI (R (m0 + j)).toNat := by
      rw [e3, nI_clamp (by omega), ex_gd_eq]
      exact tI_nI (by rw [hRW (m0 + j) (by omega)]; omega) (by omega)
    have hle : (R (m0 + j)).toNat ≤ s := by
      rcases hss with h | h
      · omega
      · exact h
    have e4 : nI s - nI (R (m0 + j)).toNat = nI (s - (R (m0 + j)).toNat) := nI_less hle
    have ix : ex_ix (nI m0 + nI j) RW.length = true := by rw [e3, lr]; exact fp_ix (by omega) (by decide)
    refine ⟨_, back (nI m0 + nI j) e3, fun q g => ?_⟩
    by_cases c : (tf 0).toInt.toNat < k
    · refine yp_ka h59 f2 f22 f23 h67 (by rw [en]; omega) (by rw [ei]; omega) (by rw [ek]; omega) (by rw [e1, ej]; omega) (by rw [e1, ej]; omega) (by rw [e1]; exact ix) (by rw [e1, ej]; omega) (by rw [e1]; exact ix) ?_
      rw [e1, eg, e4, ← nI_succ]
      exact g
    · refine yp_kb h59 f2 f22 f23 f26 h67 (by rw [en]; omega) (by rw [ei]; omega) (by rw [ek]; omega) (by rw [esk, ev]; omega) (by rw [e1, ej]; omega) (by rw [e1, ej]; omega) (by rw [e1]; exact ix) (by rw [e1, ej]; omega) (by rw [e1]; exact ix) ?_
      rw [e1, eg, e4, ← nI_succ]
      exact g
/-- one level, the deeper ones given -/
theorem yp_lvl {i f s : Nat} (hif : i + (f + 1) = n) (hn : n ≤ 5) (hm : m0 + n ≤ 129) (h16 : 4 ≤ (tf 0).toInt ∧ (tf 0).toInt ≤ 16) (nz : ¬ tf 1 = 0) (hg : 0 ≤ (ST.getD 78 0).toInt ∧ (ST.getD 78 0).toInt ≤ 20) (ls : ST.length = 288) (lm : RM.length = 5) (hrm : ∀ j, j < n → RM.getD j 0 = A j) (hs : s ≤ 16 * i) (hss : i = 0 ∨ (R (m0 + (i - 1))).toNat ≤ s) (hR16 : ∀ j, j < m0 + i → 0 ≤ R j ∧ R j ≤ 16)
  (deep : ∀ (k : Nat) (w : ex_W) (a : pA), 1 ≤ k → k ≤ (tf 0).toInt.toNat → pB (16 * n) a → rfS w tf ST RM n m0 i R a → s + k < bsv 1000000 a → Go X (d + 2) mt_166 (ex_ent mt_166 [.ref 59, .int (nI k), .int (A i)]) w (some (.int 1), w) → ∃ w', rfS w' tf ST RM n m0 i R (pE (plT tf ST A) (tf 0).toInt.toNat f (up R (m0 + i) (k : Int)) (m0 + i + 1) (i + 1) (s + k) a) ∧ ∀ q, Go X (d + 3) mt_124 (34, [some (.ref 59), some (.int (nI n)), some (.int (nI m0)), some (.int (nI i)), some (.int (nI (k + 1))), some (.int (nI s))], []) w' q → Go X (d + 3) mt_124 (34, [some (.ref 59), some (.int (nI n)), some (.int (nI m0)), some (.int (nI i)), some (.int (nI k)), some (.int (nI s))], []) w q) : ∀ (c k : Nat) (w : ex_W) (a : pA), k + c = (tf 0).toInt.toNat + 1 → 1 ≤ k → pB (16 * n) a → rfS w tf ST RM n m0 i R a → ∃ w', rfS w' tf ST RM n m0 (i - 1) R (pL (fun k b => pE (plT tf ST A) (tf 0).toInt.toNat f (up R (m0 + i) (k : Int)) (m0 + i + 1) (i + 1) (s + k) b) (plT tf ST A R (m0 + i) i) c k a) ∧ ∀ q, Go X (d + 3) mt_124 (pfF n m0 i R s) w' q → Go X (d + 3) mt_124 (34, [some (.ref 59), some (.int (nI n)), some (.int (nI m0)), some (.int (nI i)), some (.int (nI k)), some (.int (nI s))], []) w q := by
  intro c
  induction c with
  | zero =>
    intro k w a hk h1 hB hS
    exact yp_pop hn (by omega) (by omega) hm (by omega) (by omega) hss h16 hB hR16 hS (Or.inl (by omega))
  | succ c ih =>
    intro k w a hk h1 hB hS
    by_cases cut : bsv 1000000 a ≤ s + k
    · have ep : pL (fun k b => pE (plT tf ST A) (tf 0).toInt.toNat f (up R (m0 + i) (k : Int)) (m0 + i + 1) (i + 1) (s + k) b) (plT tf ST A R (m0 + i) i) (c + 1) k a = a := pL_id (c + 1) k a (fun j h2 h3 h4 => pE_cut (n := n) (m0 := m0) (K := 1000000) (R0 := R) (fl := fun _ => 0) (flF := fun _ => 0) (fun _ _ => rfl) rfl (by omega) (by omega) (fun _ _ _ _ _ _ _ _ => Nat.zero_le _) f (up R (m0 + i) (j : Int)) (i + 1) (s + j) a (by omega) (fun j' hj' => up_ne _ _ (by omega)) (by omega) (by show bsv 1000000 a ≤ s + j + 0; omega))
      rw [ep]
      exact yp_pop hn (by omega) (by omega) hm (by omega) (by omega) hss h16 hB hR16 hS (Or.inr cut)
    · have ek : (nI k).toInt = (k : Int) := nI_toInt (by omega)
      have hS' := hS
      obtain ⟨fs5, RW, LB, h59, f0, f2, f3, f22, f23, f24, f25, f26, h60, h67, lr, hRW, h68, h69, lb, hLB⟩ := hS'
      have gt : Go X (d + 2) mt_166 (ex_ent mt_166 [.ref 59, .int (nI k), .int (A i)]) w (some (.int (fl (plT tf ST A R (m0 + i) i k))), w) := ti_all (X := X) (d := d) (x := A i) (k := k) (by omega) (hS.rw ls (by omega)) h59 f3 nz hg hR16
      by_cases tt : plT tf ST A R (m0 + i) i k = true
      · have B4 : pB (16 * n) (pE (plT tf ST A) (tf 0).toInt.toNat f (up R (m0 + i) (k : Int)) (m0 + i + 1) (i + 1) (s + k) a) := by
          have hbb := pE_B (tl := plT tf ST A) (mo := (tf 0).toInt.toNat) (by omega) f (up R (m0 + i) (k : Int)) (m0 + i + 1) (i + 1) (s + k) a (by omega) (by rw [show 16 * (i + 1 + f) = 16 * n by omega]; exact hB)
          rw [show 16 * (i + 1 + f) = 16 * n by omega] at hbb
          exact hbb
        rw [tt] at gt
        obtain ⟨w1, z1, z2⟩ := deep k w a h1 (by omega) hB hS (by omega) gt
        obtain ⟨w2, z3, z4⟩ := ih (k + 1) w1 _ (by omega) (by omega) B4 z1
        refine ⟨w2, ?_, fun q g => z2 q (z4 q g)⟩
        show rfS w2 tf ST RM n m0 (i - 1) R (pL _ _ c (k + 1) (if plT tf ST A R (m0 + i) i k = true then _ else a))
        rw [if_pos tt]
        exact z3
      · rw [Bool.eq_false_iff.mpr tt] at gt
        obtain ⟨w2, z3, z4⟩ := ih (k + 1) w a (by omega) (by omega) hB hS
        have hbv := bsv_le (K := 1000000) hB (by omega)
        refine ⟨w2, ?_, fun q g => yp_n h59 f2 f24 f26 h68 (by rw [nI_toInt (by omega)]; omega) (by rw [nI_toInt (by omega)]; omega) (by rw [ek]; omega) (by rw [nI_plus, nI_toInt (by omega), nI_toInt (by omega)]; omega) (by rw [lm]; exact fp_ix (by omega) (by decide)) (by rw [nI_clamp (by omega), ex_gd_eq, hrm i (by omega)]; exact gt) (by rw [← nI_succ]; exact z4 q g)⟩
        show rfS w2 tf ST RM n m0 (i - 1) R (pL _ _ c (k + 1) (if plT tf ST A R (m0 + i) i k = true then _ else a))
        rw [if_neg tt]
        exact z3
theorem yp_all (hn : n ≤ 5) (hm : m0 + n ≤ 129) (h16 : 4 ≤ (tf 0).toInt ∧ (tf 0).toInt ≤ 16) (nz : ¬ tf 1 = 0) (hg : 0 ≤ (ST.getD 78 0).toInt ∧ (ST.getD 78 0).toInt ≤ 20) (ls : ST.length = 288) (lm : RM.length = 5) (hrm : ∀ j, j < n → RM.getD j 0 = A j) : ∀ (f i s : Nat) (R : Nat → Int) (c k : Nat) (w : ex_W) (a : pA), i + (f + 1) = n → s ≤ 16 * i → (i = 0 ∨ (R (m0 + (i - 1))).toNat ≤ s) → (∀ j, j < m0 + i → 0 ≤ R j ∧ R j ≤ 16) → k + c = (tf 0).toInt.toNat + 1 → 1 ≤ k → pB (16 * n) a → rfS w tf ST RM n m0 i R a → ∃ w', rfS w' tf ST RM n m0 (i - 1) R (pL (fun k b => pE (plT tf ST A) (tf 0).toInt.toNat f (up R (m0 + i) (k : Int)) (m0 + i + 1) (i + 1) (s + k) b) (plT tf ST A R (m0 + i) i) c k a) ∧ ∀ q, Go X (d + 3) mt_124 (pfF n m0 i R s) w' q → Go X (d + 3) mt_124 (34, [some (.ref 59), some (.int (nI n)), some (.int (nI m0)), some (.int (nI i)), some (.int (nI k)), some (.int (nI s))], []) w q := by
  -- the number is added
  have add : ∀ (i s k : Nat) (R : Nat → Int) (w : ex_W) (a : pA), i < n → 1 ≤ k → k ≤ 16 → rfS w tf ST RM n m0 i R a → ∃ w1 fs5, Go X (d + 2) mt_116 (ex_ent mt_116 [.ref 59, .int (nI k)]) w (none, w1) ∧ rfS w1 tf ST RM n m0 (i + 1) (up R (m0 + i) (k : Int)) a ∧ ex_at w 59 = some (.inr (.inr (8, fs5))) ∧ ex_at fs5 2 = some (.int (tf 0)) ∧ ex_at fs5 24 = some (.ref 68) ∧ ex_at fs5 26 = some (.int (nI (bsv 1000000 a))) ∧ ex_at w 68 = some (.inl (.int, RM)) := by
    intro i s k R w a hi h1 h2 hS
    have hw := hS.rw ls (by omega)
    obtain ⟨fs5, RW, LB, h59, f0, f2, f3, f22, f23, f24, f25, f26, h60, h67, lr, hRW, h68, h69, lb, hLB⟩ := hS
    obtain ⟨w1, fs5', a1, a2, a3, a4, a5⟩ := rw_add (X := X) (d := d + 2) (x := nI k) (v := (k : Int)) hw h59 (by omega) (nI_toInt (by omega))
    obtain ⟨fs, RW', k59, g0, g22, g23, g60, g67, gl, -, -, gR⟩ := a2
    obtain rfl := at_obj a3 k59
    exact ⟨w1, fs5, a1, ⟨fs5', RW', LB, a3, g0, (a4 2 (by omega)).trans f2, (a4 3 (by omega)).trans f3, g22, g23, (a4 24 (by omega)).trans f24, (a4 25 (by omega)).trans f25, (a4 26 (by omega)).trans f26, g60, g67, gl, gR, (a5 68 (by omega) (by omega)).trans h68, (a5 69 (by omega) (by omega)).trans h69, lb, hLB⟩, h59, f2, f24, f26, h68⟩
  intro f
  induction f with
  | zero =>
    intro i s R c k w a hif hs hss hR16 hk h1 hB hS
    refine yp_lvl hif hn hm h16 nz hg ls lm hrm hs hss hR16 ?_ c k w a hk h1 hB hS
    intro k w a h1 h2 hB hS hlt gt
    obtain ⟨w1, fs5, a1, hS1, h59, f2, f24, f26, h68⟩ := add i s k R w a (by omega) h1 (by omega) hS
    have en : (nI n).toInt = (n : Int) := nI_toInt (by omega)
    have ei : (nI i).toInt = (i : Int) := nI_toInt (by omega)
    have ek : (nI k).toInt = (k : Int) := nI_toInt (by omega)
    have o1 : (1 : Int32).toInt = 1 := by decide
    have hbv := bsv_le (K := 1000000) hB (by omega)
    obtain ⟨fs1, RW, LB, q59, g0, g2, g3, g22, g23, g24, g25, g26, q60, q67, lr, hRW, q68, q69, lb, hLB⟩ := hS1
    obtain ⟨LB', y1, y2, y3⟩ := yt_all (X := X) (d := d + 2) (n := n) (s := s + k) (b := m0) q59 g22 g25 g26 q67 lr q69 lb hn (by omega)
    have eb : pE (plT tf ST A) (tf 0).toInt.toNat 0 (up R (m0 + i) (k : Int)) (m0 + i + 1) (i + 1) (s + k) a = some (s + k, up R (m0 + i) (k : Int)) := by
      show bett (s + k) (up R (m0 + i) (k : Int)) a = _
      cases a with
      | none => rfl
      | some q => exact if_pos hlt
    have em : nI (m0 + (i + 1)) - 1 = nI (m0 + i) := nI_less (b := 1) (by omega)
    have w59 : ex_at (ex_put (ex_put w1 59 (.inr (.inr (8, ex_put fs1 26 (.int (nI (s + k))))))) 69 (.inl (.int, LB'))) 59 = some (.inr (.inr (8, ex_put fs1 26 (.int (nI (s + k)))))) := vg_at_o rfl (vg_at_put q59)
    refine ⟨_, ?_, fun q g => yp_l (w1 := w1) h59 f2 f24 f26 h68 (by rw [en]; omega) (by rw [ei]; omega) (by rw [ek]; omega) (by rw [nI_plus, nI_toInt (by omega), nI_toInt (by omega)]; omega) (by rw [lm]; exact fp_ix (by omega) (by decide)) (by rw [nI_clamp (by omega), ex_gd_eq, hrm i (by omega)]; exact gt) a1 q59 (by rw [tI_sub (by rw [en, o1]; omega) (by rw [en, o1]; omega), ei, en, o1]; omega) (by rw [nI_plus]; exact y3) w59 (vg_at_o rfl g23) (by
      rw [nI_plus, nI_less (by omega), show s + k - k = s by omega, em, ← nI_succ]
      exact g)⟩
    rw [eb]
    refine ⟨_, RW, LB', vg_at_put w59, vg_at_o rfl (vg_at_o rfl g0), vg_at_o rfl (vg_at_o rfl g2), vg_at_o rfl (vg_at_o rfl g3), vg_at_o rfl (vg_at_o rfl g22), vg_at_put (vg_at_o rfl g23), vg_at_o rfl (vg_at_o rfl g24), vg_at_o rfl (vg_at_o rfl g25), vg_at_o rfl (vg_at_put g26), vg_at_o rfl (vg_at_o rfl (vg_at_o rfl q60)), vg_at_o rfl (vg_at_o rfl (vg_at_o rfl q67)), lr, fun j hj => by rw [hRW j (by omega), up_ne _ _ (by omega)], vg_at_o rfl (vg_at_o rfl (vg_at_o rfl q68)), vg_at_o rfl (vg_at_put (vg_at_o rfl q69)), y1, fun q hq j hj => ?_⟩
    cases hq
    rw [y2 j hj, hRW (m0 + j) (by omega)]
  | succ f ihf =>
    intro i s R c k w a hif hs hss hR16 hk h1 hB hS
    refine yp_lvl hif hn hm h16 nz hg ls lm hrm hs hss hR16 ?_ c k w a hk h1 hB hS
    intro k w a h1 h2 hB hS hlt gt
    obtain ⟨w1, fs5, a1, hS1, h59, f2, f24, f26, h68⟩ := add i s k R w a (by omega) h1 (by omega) hS
    have en : (nI n).toInt = (n : Int) := nI_toInt (by omega)
    have ei : (nI i).toInt = (i : Int) := nI_toInt (by omega)
    have ek : (nI k).toInt = (k : Int) := nI_toInt (by omega)
    have o1 : (1 : Int32).toInt = 1 := by decide
    have hbv := bsv_le (K := 1000000) hB (by omega)
    have eu : (up R (m0 + i) (k : Int) (m0 + i)).toNat = k := by rw [up_eq]; rfl
    obtain ⟨w2, z1, z2⟩ := ihf (i + 1) (s + k) (up R (m0 + i) (k : Int)) (tf 0).toInt.toNat 1 w1 a (by omega) (by omega) (Or.inr (by show (up R (m0 + i) (k : Int) (m0 + i)).toNat ≤ s + k; rw [eu]; omega)) (fun j hj => by
      by_cases e : j = m0 + i
      · rw [e, up_eq]
        omega
      · rw [up_ne _ _ e]
        exact hR16 j (by omega)) (by omega) (by omega) hB hS1
    refine ⟨w2, rfS.cg (R := up R (m0 + i) (k : Int)) z1 (fun j hj => up_ne _ _ (by omega)), fun q g => yp_d (w1 := w1) h59 f2 f24 f26 h68 (by rw [en]; omega) (by rw [ei]; omega) (by rw [ek]; omega) (by rw [nI_plus, nI_toInt (by omega), nI_toInt (by omega)]; omega) (by rw [lm]; exact fp_ix (by omega) (by decide)) (by rw [nI_clamp (by omega), ex_gd_eq, hrm i (by omega)]; exact gt) a1 (by rw [tI_sub (by rw [en, o1]; omega) (by rw [en, o1]; omega), ei, en, o1]; omega) ?_⟩
    rw [nI_plus, ← nI_succ]
    refine z2 q ?_
    show Go X (d + 3) mt_124 (34, [some (.ref 59), some (.int (nI n)), some (.int (nI m0)), some (.int (nI i)), some (.int (nI ((up R (m0 + i) (k : Int) (m0 + i)).toNat + 1))), some (.int (nI (s + k - (up R (m0 + i) (k : Int) (m0 + i)).toNat)))], []) w2 q
    rw [eu, show s + k - k = s by omega]
    exact g
/-- findPlan -/
theorem yp_fin {fs5 : List Value} {RW LB : List Int32} {mm be : Int32} (hn : n ≤ 5) (hm : m0 ≤ 60) (h16 : 4 ≤ (tf 0).toInt ∧ (tf 0).toInt ≤ 16) (nz : ¬ tf 1 = 0) (hg : 0 ≤ (ST.getD 78 0).toInt ∧ (ST.getD 78 0).toInt ≤ 20) (ls : ST.length = 288) (lm : RM.length = 5) (hrm : ∀ j, j < n → RM.getD j 0 = A j) (h59 : ex_at w 59 = some (.inr (.inr (8, fs5)))) (f0 : ex_at fs5 0 = some (.ref 60)) (f2 : ex_at fs5 2 = some (.int (tf 0))) (f3 : ex_at fs5 3 = some (.int (tf 1))) (f22 : ex_at fs5 22 = some (.ref 67)) (f23 : ex_at fs5 23 = some (.int mm)) (f24 : ex_at fs5 24 = some (.ref 68)) (f25 : ex_at fs5 25 = some (.ref 69)) (f26 : ex_at fs5 26 = some (.int be)) (h60 : ex_at w 60 = some (.inl (.int, ST))) (h67 : ex_at w 67 = some (.inl (.int, RW))) (lr : RW.length = 130) (h68 : ex_at w 68 = some (.inl (.int, RM))) (h69 : ex_at w 69 = some (.inl (.int, LB))) (lb : LB.length = 5) (s7 : ST.getD 0 0 = nI m0) (hD : ∀ i, i < m0 → (ST.getD (1 + i) 0).toInt = R i) (hR16 : ∀ j, j < m0 → 0 ≤ R j ∧ R j ≤ 16) : ∃ w', Go X (d + 4) mt_124 (ex_ent mt_124 [.ref 59, .int (nI n)]) w (none, w') ∧ rfS w' tf ST RM n m0 0 R (pE (plT tf ST A) (tf 0).toInt.toNat n R m0 0 0 none) := by
  have en : (nI n).toInt = (n : Int) := nI_toInt (by omega)
  obtain ⟨RW', k1, k2, k3⟩ := rn_all (X := X) (d := d + 3) h59 f0 f22 f23 h60 ls h67 lr s7 hm
  have k59 : ex_at (ex_put (ex_put w 59 (.inr (.inr (8, ex_put fs5 23 (.int (nI m0)))))) 67 (.inl (.int, RW'))) 59 = some (.inr (.inr (8, ex_put fs5 23 (.int (nI m0))))) := vg_at_o rfl (vg_at_put h59)
  have S0 : rfS (ex_put (ex_put (ex_put w 59 (.inr (.inr (8, ex_put fs5 23 (.int (nI m0)))))) 67 (.inl (.int, RW'))) 59 (.inr (.inr (8, ex_put (ex_put fs5 23 (.int (nI m0))) 26 (.int 1000000))))) tf ST RM n m0 0 R none := ⟨_, RW', LB, vg_at_put k59, vg_at_o rfl (vg_at_o rfl f0), vg_at_o rfl (vg_at_o rfl f2), vg_at_o rfl (vg_at_o rfl f3), vg_at_o rfl (vg_at_o rfl f22), vg_at_o rfl (vg_at_put f23), vg_at_o rfl (vg_at_o rfl f24), vg_at_o rfl (vg_at_o rfl f25), vg_at_put (vg_at_o rfl f26), vg_at_o rfl (vg_at_o rfl (vg_at_o rfl h60)), vg_at_o rfl (vg_at_put (vg_at_o rfl h67)), k1, fun j hj => by
    rw [k2 j (by omega)]
    exact hD j (by omega), vg_at_o rfl (vg_at_o rfl (vg_at_o rfl h68)), vg_at_o rfl (vg_at_o rfl (vg_at_o rfl h69)), lb, fun q hq => by cases hq⟩
  cases n with
  | zero =>
    obtain ⟨fs1, RW1, LB1, q59, g0, g2, g3, g22, g23, g24, g25, g26, q60, q67, lr1, hRW, q68, q69, lb1, hLB⟩ := S0
    obtain ⟨LB', y1, y2, y3⟩ := yt_all (X := X) (d := d + 3) (n := 0) (s := 0) (b := m0) q59 g22 g25 g26 q67 lr1 q69 lb1 (by omega) (by omega)
    rw [nI_0] at y3
    refine ⟨_, yp_z h59 k3 k59 (vg_at_put f23) (vg_at_o rfl f26) (by rw [en]; rfl) y3 (by rw [en]; exact Int.le_refl _), ?_⟩
    exact ⟨_, RW1, LB', vg_at_o rfl (vg_at_put q59), vg_at_o rfl g0, vg_at_o rfl g2, vg_at_o rfl g3, vg_at_o rfl g22, vg_at_o rfl g23, vg_at_o rfl g24, vg_at_o rfl g25, vg_at_put g26, vg_at_o rfl (vg_at_o rfl q60), vg_at_o rfl (vg_at_o rfl q67), lr1, hRW, vg_at_o rfl (vg_at_o rfl q68), vg_at_put (vg_at_o rfl q69), y1, fun q hq j hj => absurd hj (Nat.not_lt_zero j)⟩
  | succ f =>
    obtain ⟨w', z1, z2⟩ := yp_all (X := X) (d := d + 1) hn (by omega) h16 nz hg ls lm hrm f 0 0 R (tf 0).toInt.toNat 1 _ none (by omega) (by omega) (Or.inl rfl) (fun j hj => hR16 j (by omega)) (by omega) (by omega) (fun q hq => by cases hq) S0
    have z3 := z2 (none, w') (yp_e (by rw [en]; omega) (by decide))
    rw [nI_0] at z3
    exact ⟨w', yp_0 h59 k3 k59 (vg_at_put f23) (vg_at_o rfl f26) (by rw [en]; omega) z3, z1⟩
end PR

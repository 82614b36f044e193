/-! WHAT DAYS ANSWER: may, means, cheap, ring. -/
theorem bt_z0 : ∀ k, k < 32 → ∀ j, j < 32 → bt ((0 : Int32) <<< (nI k &&& 31)) j = false := by decide +kernel
theorem bt_fl {c : Bool} {k j : Nat} (hk : k < 32) (hj : j < 32) : bt (fl c <<< (nI k &&& 31)) j = (c && decide (j = k)) := by
  cases c with
  | true => rw [Bool.true_and]; exact bt_one k hk j hj
  | false => rw [Bool.false_and]; exact bt_z0 k hk j hj
/-- the first from k on, of n -/
def fsN (p : Nat → Bool) : Nat → Nat → Nat
  | 0, _ => 0
  | n + 1, k => if p k = true then k else fsN p n (k + 1)
theorem fsN_cg {p q : Nat → Bool} : ∀ n k, (∀ j, k ≤ j → j < k + n → p j = q j) → fsN p n k = fsN q n k
  | 0, _, _ => rfl
  | n + 1, k, h => by
    show (if p k = true then k else fsN p n (k + 1)) = (if q k = true then k else fsN q n (k + 1))
    rw [h k (by omega) (by omega), fsN_cg n (k + 1) (fun j a b => h j (by omega) (by omega))]
theorem fsN_le (p : Nat → Bool) : ∀ n k, fsN p n k < k + n ∨ fsN p n k = 0
  | 0, _ => Or.inr rfl
  | n + 1, k => by
    show (if p k = true then k else fsN p n (k + 1)) < _ ∨ (if p k = true then k else fsN p n (k + 1)) = 0
    by_cases c : p k = true
    · rw [if_pos c]
      exact Or.inl (by omega)
    · rw [if_neg c]
      rcases fsN_le p n (k + 1) with h | h
      · exact Or.inl (by omega)
      · exact Or.inr h
theorem fsN_ge (p : Nat → Bool) : ∀ n k, k ≤ fsN p n k ∨ fsN p n k = 0
  | 0, _ => Or.inr rfl
  | n + 1, k => by
    show k ≤ (if p k = true then k else fsN p n (k + 1)) ∨ (if p k = true then k else fsN p n (k + 1)) = 0
    by_cases c : p k = true
    · rw [if_pos c]
      exact Or.inl (Nat.le_refl _)
    · rw [if_neg c]
      rcases fsN_ge p n (k + 1) with h | h
      · exact Or.inl (by omega)
      · exact Or.inr h
section AW
variable {X : List Int32} {d t m : Nat} {w wx : ex_W} {R : Nat → Int} {x b mm : Int32} {tf : Nat → Int32} {ta : Nat → List Int32} {ST WE : List Int32} {dn an wn : Nat} {fs5 : List Value}
/-- the reference's row, made -/
theorem dy_row (h : stR w t tf ta ST WE dn an wn) (hC : dyC w) (e : ∀ q, 59 ≤ q → ex_at wx q = ex_at w q) : ∃ wy fs5 fs5', Go X d mt_105 (ex_ent mt_105 [.ref 59]) wx (none, wy) ∧ rwR wy dn (tD ta) ST ∧ ex_at wx 59 = some (.inr (.inr (8, fs5))) ∧ ex_at wy 59 = some (.inr (.inr (8, fs5'))) ∧ (∀ i, i ≠ 23 → ex_at fs5' i = ex_at fs5 i) ∧ ex_at fs5 2 = some (.int (tf 0)) ∧ ex_at fs5 3 = some (.int (tf 1)) ∧ ∀ q, q ≠ 59 → q ≠ 67 → ex_at wy q = ex_at wx q := by
  obtain ⟨t0, t6, -, hT, ⟨fs5, h59, f0, f2, f3, f4⟩, h60, -, ⟨l0, l1, l2, l3, l4, l5, l6, l7⟩, hS, hW, hP, hD, hA, hV⟩ := id h
  obtain ⟨s1, s2, s3, s4, s5, s6, s7, s8, s9, s10, s11, s12, s13, s14, s15, s16, s17, s18⟩ := id hS
  obtain ⟨-, -, c3, ⟨RW, h67, lr⟩, -⟩ := hC
  obtain ⟨f22, mm, f23⟩ := c3 fs5 h59
  obtain ⟨RW', k1, k2, k3⟩ := rn_all (X := X) (d := d) (w := wx) ((e 59 (by omega)).trans h59) f0 f22 f23 ((e 60 (by omega)).trans h60) l6 ((e 67 (by omega)).trans h67) lr s7 s12
  refine ⟨_, fs5, _, k3, ⟨_, RW', vg_at_o rfl (vg_at_put ((e 59 (by omega)).trans h59)), vg_at_o rfl f0, vg_at_o rfl f22, vg_at_put f23, vg_at_o rfl (vg_at_o rfl ((e 60 (by omega)).trans h60)), vg_at_put (vg_at_o rfl ((e 67 (by omega)).trans h67)), k1, l6, by omega, fun i hi => ?_⟩, (e 59 (by omega)).trans h59, vg_at_o rfl (vg_at_put ((e 59 (by omega)).trans h59)), fun i hi => vg_at_ne (sh_beq (fun e => hi e.symm)), f2, f3, fun q a b => (vg_at_ne (sh_beq (fun e => b e.symm))).trans (vg_at_ne (sh_beq (fun e => a e.symm)))⟩
  rw [k2 i hi]
  exact congrArg Int32.toInt (hD i hi)
/-- what days are, out of the state -/
theorem dy_rng (h : stR w t tf ta ST WE dn an wn) (hC : dyC w) : (0 ≤ (ST.getD 78 0).toInt ∧ (ST.getD 78 0).toInt ≤ 20) ∧ ∀ i, i < dn → 0 ≤ tD ta i ∧ tD ta i ≤ 16 := by
  obtain ⟨-, -, -, -, -, h60, -, hR⟩ := id h
  obtain ⟨hg, hd⟩ := hC.2.2.2.2 ST h60
  have s12 : dn ≤ 60 := hR.2.1.2.2.2.2.2.2.2.2.2.2.2.1
  refine ⟨hg, fun i hi => ?_⟩
  have e := hd i (by omega)
  rw [show ST.getD (1 + i) 0 = (ta 2).getD i 0 from hR.2.2.2.2.1 i hi] at e
  exact e
/-- mayNow -/
theorem mw_loop {mo : Int32} (h : rwR w m R ST) (h59 : ex_at w 59 = some (.inr (.inr (8, fs5)))) (f2 : ex_at fs5 2 = some (.int mo)) (hmo : mo.toInt ≤ 16) (hg : 0 ≤ (ST.getD 78 0).toInt ∧ (ST.getD 78 0).toInt ≤ 20) (hR16 : ∀ i, i < m → 0 ≤ R i ∧ R i ≤ 16) : ∀ (f k : Nat) (b : Int32), mo.toInt.toNat + 1 - k ≤ f → 1 ≤ k → k ≤ 17 → (∀ j, j < 32 → bt b j = (decide (1 ≤ j ∧ j < k ∧ (j : Int) ≤ mo.toInt) && okP R m (ST.getD 78 0).toInt (ST.getD 79 0).toInt j)) → ∃ b', Go X (d + 1) mt_106 (4, [some (.ref 59), some (.int b), some (.int (nI k))], []) w (some (.int b'), w) ∧ ∀ j, j < 32 → bt b' j = (decide (1 ≤ j ∧ (j : Int) ≤ mo.toInt) && okP R m (ST.getD 78 0).toInt (ST.getD 79 0).toInt j) := by
  have stop : ∀ (k : Nat) (b : Int32), k ≤ 17 → mo.toInt < k → (∀ j, j < 32 → bt b j = (decide (1 ≤ j ∧ j < k ∧ (j : Int) ≤ mo.toInt) && okP R m (ST.getD 78 0).toInt (ST.getD 79 0).toInt j)) → ∃ b', Go X (d + 1) mt_106 (4, [some (.ref 59), some (.int b), some (.int (nI k))], []) w (some (.int b'), w) ∧ ∀ j, j < 32 → bt b' j = (decide (1 ≤ j ∧ (j : Int) ≤ mo.toInt) && okP R m (ST.getD 78 0).toInt (ST.getD 79 0).toInt j) := by
    intro k b hk hlt hb
    have ek : (nI k).toInt = (k : Int) := nI_toInt (by omega)
    refine ⟨b, my_b h59 f2 (by rw [ek]; omega), fun j hj => ?_⟩
    rw [hb j hj]
    congr 1
    exact decide_eq_decide.mpr (by omega)
  intro f
  induction f with
  | zero => exact fun k b hf h1 hk hb => stop k b hk (by omega) hb
  | succ f ih =>
    intro k b hf h1 hk hb
    by_cases e : mo.toInt < k
    · exact stop k b hk e hb
    · have ek : (nI k).toInt = (k : Int) := nI_toInt (by omega)
      have gm := mb_all (X := X) (d := d) (n := nI k) h (by rw [ek]; omega) hg hR16
      rw [ek] at gm
      obtain ⟨b', g1, g2⟩ := ih (k + 1) (b ||| (fl (okP R m (ST.getD 78 0).toInt (ST.getD 79 0).toInt k) <<< (nI k &&& 31))) (by omega) (by omega) (by omega) (fun j hj => by
        rw [bt_or, hb j hj, bt_fl (by omega) hj]
        by_cases ej : j = k
        · rw [ej, decide_eq_false (show ¬ (1 ≤ k ∧ k < k ∧ (k : Int) ≤ mo.toInt) by omega), Bool.false_and, Bool.false_or, decide_eq_true rfl, Bool.and_true, decide_eq_true (show 1 ≤ k ∧ k < k + 1 ∧ (k : Int) ≤ mo.toInt by omega), Bool.true_and]
        · rw [decide_eq_false ej, Bool.and_false, Bool.or_false]
          congr 1
          exact decide_eq_decide.mpr (by omega))
      rw [nI_succ] at g1
      exact ⟨b', my_a h59 f2 (by rw [ek]; omega) gm (fl_go _) g1, g2⟩
theorem mw_all {mo : Int32} (h : rwR w m R ST) (h59 : ex_at w 59 = some (.inr (.inr (8, fs5)))) (f2 : ex_at fs5 2 = some (.int mo)) (hmo : mo.toInt ≤ 16) (hg : 0 ≤ (ST.getD 78 0).toInt ∧ (ST.getD 78 0).toInt ≤ 20) (hR16 : ∀ i, i < m → 0 ≤ R i ∧ R i ≤ 16) : ∃ b', Go X (d + 1) mt_106 (ex_ent mt_106 [.ref 59]) w (some (.int b'), w) ∧ ∀ j, j < 32 → bt b' j = (decide (1 ≤ j ∧ (j : Int) ≤ mo.toInt) && okP R m (ST.getD 78 0).toInt (ST.getD 79 0).toInt j) := by
  obtain ⟨b', g1, g2⟩ := mw_loop (X := X) (d := d) h h59 f2 hmo hg hR16 17 1 0 (by omega) (by omega) (by omega) (fun j hj => by
    rw [bt_0 j hj, decide_eq_false (by omega), Bool.false_and])
  exact ⟨b', my_0 g1, g2⟩
/-- tells, leastFor of the class -/
theorem te_all {k : Nat} (hk : k < 32) (h17 : ex_at w 17 = some (.inr (.inr (0, al t mm)))) (hT : tA w t tf ta) (l1 : (ta 1).length = 17) (h16 : (tf 0).toInt ≤ 16) (hma : 1 ≤ (tf 1).toInt) : Go X (d + 2) mt_165 (ex_ent mt_165 [.ref 17, .int (nI k), .int x, .int b]) w (some (.int (fl (bt b k && decide ((mgV tf ta (nI k) b).toInt = x.toInt)))), w) := by
  have hz := bt_z (b := b) (k := k) hk
  by_cases c : bt b k = true
  · have nz : ¬ (b &&& ((1 : Int32) <<< (nI k &&& 31))).toInt = 0 := fun h => by
      rw [hz.mp h] at c
      exact absurd c (by decide)
    have g := mg_all (X := X) (d := d) (x := nI k) (b := b) h17 hT l1 h16 hma
    rw [c, Bool.true_and]
    by_cases e : (mgV tf ta (nI k) b).toInt = x.toInt
    · rw [decide_eq_true e]
      exact te_2 h17 nz g e
    · rw [decide_eq_false e]
      exact te_1 h17 nz g e
  · have c := Bool.eq_false_iff.mpr c
    rw [c, Bool.false_and]
    exact te_0 h17 (hz.mpr c)
theorem lf_loop (h17 : ex_at w 17 = some (.inr (.inr (0, al t mm)))) (hT : tA w t tf ta) (l1 : (ta 1).length = 17) (h16 : (tf 0).toInt ≤ 16) (hma : 1 ≤ (tf 1).toInt) : ∀ n k, k + n = (tf 0).toInt.toNat + 1 → 1 ≤ k → Go X (d + 3) mt_109 (7, [some (.ref 17), some (.int x), some (.int b), some (.int (nI k))], []) w (some (.int (nI (fsN (fun k => bt b k && decide ((mgV tf ta (nI k) b).toInt = x.toInt)) n k))), w)
  | 0, k, hk, h1 => by
    have ek : (nI k).toInt = (k : Int) := nI_toInt (by omega)
    rw [show fsN (fun k => bt b k && decide ((mgV tf ta (nI k) b).toInt = x.toInt)) 0 k = 0 from rfl, nI_0]
    exact lf_x h17 hT.1 (by rw [ek]; omega)
  | n + 1, k, hk, h1 => by
    have ek : (nI k).toInt = (k : Int) := nI_toInt (by omega)
    have g := te_all (X := X) (d := d) (x := x) (b := b) (k := k) (by omega) h17 hT l1 h16 hma
    show Go X (d + 3) mt_109 _ w (some (.int (nI (if (bt b k && decide ((mgV tf ta (nI k) b).toInt = x.toInt)) = true then k else fsN (fun k => bt b k && decide ((mgV tf ta (nI k) b).toInt = x.toInt)) n (k + 1)))), w)
    by_cases c : (bt b k && decide ((mgV tf ta (nI k) b).toInt = x.toInt)) = true
    · rw [if_pos c]
      rw [c] at g
      exact lf_y h17 hT.1 (by rw [ek]; omega) g
    · rw [if_neg c]
      rw [Bool.eq_false_iff.mpr c] at g
      have ih := lf_loop h17 hT l1 h16 hma n (k + 1) (by omega) (by omega)
      rw [show some (Value.int (nI (k + 1))) = some (.int (nI k + 1)) by rw [nI_succ]] at ih
      exact lf_n h17 hT.1 (by rw [ek]; omega) g ih
theorem lf_all (hA : alR w t m R) (hT : tA w t tf ta) (l1 : (ta 1).length = 17) (hmo : 4 ≤ (tf 0).toInt ∧ (tf 0).toInt ≤ 16) (hma : 1 ≤ (tf 1).toInt) : ∃ b, (∀ j, j < 32 → bt b j = (decide (1 ≤ j ∧ (j : Int) ≤ (tf 0).toInt) && okP R m (tf 2).toInt (tf 3).toInt j)) ∧ Go X (d + 3) mt_109 (ex_ent mt_109 [.ref 17, .int x]) w (some (.int (nI (fsN (fun k => bt b k && decide ((mgV tf ta (nI k) b).toInt = x.toInt)) (tf 0).toInt.toNat 1))), w) := by
  obtain ⟨RU, LB, LA, k17, -, -, -, -, -, -, l4, -⟩ := id hA
  obtain ⟨b, q1, q2⟩ := fb_all (X := X) (d := d + 1) hA l4 hT.1 hmo
  exact ⟨b, q2, lf_0 k17 q1 (lf_loop k17 hT l1 hmo.2 hma (tf 0).toInt.toNat 1 (by omega) (by omega))⟩
/-- tellsIt, cheapestFor of the reference -/
theorem ti_all {k : Nat} {ma : Int32} (hk : 1 ≤ k ∧ k ≤ 16) (h : rwR w m R ST) (h59 : ex_at w 59 = some (.inr (.inr (8, fs5)))) (f3 : ex_at fs5 3 = some (.int ma)) (nz : ¬ ma = 0) (hg : 0 ≤ (ST.getD 78 0).toInt ∧ (ST.getD 78 0).toInt ≤ 20) (hR16 : ∀ i, i < m → 0 ≤ R i ∧ R i ≤ 16) : Go X (d + 2) mt_166 (ex_ent mt_166 [.ref 59, .int (nI k), .int x]) w (some (.int (fl (okP R m (ST.getD 78 0).toInt (ST.getD 79 0).toInt k && decide ((mnV R m ST ma (nI k)).toInt = x.toInt)))), w) := by
  have ek : (nI k).toInt = (k : Int) := nI_toInt (by omega)
  have gm := mb_all (X := X) (d := d + 1) (n := nI k) h (by rw [ek]; omega) hg hR16
  rw [ek] at gm
  by_cases c : okP R m (ST.getD 78 0).toInt (ST.getD 79 0).toInt k = true
  · have g := mn_all (X := X) (d := d) (n := nI k) h h59 f3 nz (by rw [ek]; omega) hg hR16
    rw [c] at gm
    rw [c, Bool.true_and]
    by_cases e : (mnV R m ST ma (nI k)).toInt = x.toInt
    · rw [decide_eq_true e]
      exact zt_2 h59 gm g e
    · rw [decide_eq_false e]
      exact zt_1 h59 gm g e
  · have c := Bool.eq_false_iff.mpr c
    rw [c] at gm
    rw [c, Bool.false_and]
    exact zt_0 h59 gm
theorem cf_loop {mo ma : Int32} (h : rwR w m R ST) (h59 : ex_at w 59 = some (.inr (.inr (8, fs5)))) (f2 : ex_at fs5 2 = some (.int mo)) (f3 : ex_at fs5 3 = some (.int ma)) (nz : ¬ ma = 0) (hmo : 4 ≤ mo.toInt ∧ mo.toInt ≤ 16) (hg : 0 ≤ (ST.getD 78 0).toInt ∧ (ST.getD 78 0).toInt ≤ 20) (hR16 : ∀ i, i < m → 0 ≤ R i ∧ R i ≤ 16) : ∀ n k, k + n = mo.toInt.toNat + 1 → 1 ≤ k → Go X (d + 3) mt_110 (2, [some (.ref 59), some (.int x), some (.int (nI k))], []) w (some (.int (if fsN (fun k => okP R m (ST.getD 78 0).toInt (ST.getD 79 0).toInt k && decide ((mnV R m ST ma (nI k)).toInt = x.toInt)) n k = 0 then m4i else nI (fsN (fun k => okP R m (ST.getD 78 0).toInt (ST.getD 79 0).toInt k && decide ((mnV R m ST ma (nI k)).toInt = x.toInt)) n k))), w)
  | 0, k, hk, h1 => by
    have ek : (nI k).toInt = (k : Int) := nI_toInt (by omega)
    rw [if_pos (show fsN (fun k => okP R m (ST.getD 78 0).toInt (ST.getD 79 0).toInt k && decide ((mnV R m ST ma (nI k)).toInt = x.toInt)) 0 k = 0 from rfl)]
    exact cf_x h59 f2 (by rw [ek]; omega)
  | n + 1, k, hk, h1 => by
    have ek : (nI k).toInt = (k : Int) := nI_toInt (by omega)
    have g := ti_all (X := X) (d := d) (x := x) (k := k) (by omega) h h59 f3 nz hg hR16
    by_cases c : (okP R m (ST.getD 78 0).toInt (ST.getD 79 0).toInt k && decide ((mnV R m ST ma (nI k)).toInt = x.toInt)) = true
    · have ef : fsN (fun k => okP R m (ST.getD 78 0).toInt (ST.getD 79 0).toInt k && decide ((mnV R m ST ma (nI k)).toInt = x.toInt)) (n + 1) k = k := if_pos c
      rw [ef, if_neg (by omega)]
      rw [c] at g
      exact cf_y h59 f2 (by rw [ek]; omega) g
    · have ef : fsN (fun k => okP R m (ST.getD 78 0).toInt (ST.getD 79 0).toInt k && decide ((mnV R m ST ma (nI k)).toInt = x.toInt)) (n + 1) k = fsN (fun k => okP R m (ST.getD 78 0).toInt (ST.getD 79 0).toInt k && decide ((mnV R m ST ma (nI k)).toInt = x.toInt)) n (k + 1) := if_neg c
      rw [ef]
      rw [Bool.eq_false_iff.mpr c] at g
      have ih := cf_loop h h59 f2 f3 nz hmo hg hR16 n (k + 1) (by omega) (by omega)
      rw [show some (Value.int (nI (k + 1))) = some (.int (nI k + 1)) by rw [nI_succ]] at ih
      exact cf_n h59 f2 (by rw [ek]; omega) g ih
theorem cf_all {mo ma : Int32} (h : rwR w m R ST) (h59 : ex_at w 59 = some (.inr (.inr (8, fs5)))) (f2 : ex_at fs5 2 = some (.int mo)) (f3 : ex_at fs5 3 = some (.int ma)) (nz : ¬ ma = 0) (hmo : 4 ≤ mo.toInt ∧ mo.toInt ≤ 16) (hg : 0 ≤ (ST.getD 78 0).toInt ∧ (ST.getD 78 0).toInt ≤ 20) (hR16 : ∀ i, i < m → 0 ≤ R i ∧ R i ≤ 16) : Go X (d + 3) mt_110 (ex_ent mt_110 [.ref 59, .int x]) w (some (.int (if fsN (fun k => okP R m (ST.getD 78 0).toInt (ST.getD 79 0).toInt k && decide ((mnV R m ST ma (nI k)).toInt = x.toInt)) mo.toInt.toNat 1 = 0 then m4i else nI (fsN (fun k => okP R m (ST.getD 78 0).toInt (ST.getD 79 0).toInt k && decide ((mnV R m ST ma (nI k)).toInt = x.toInt)) mo.toInt.toNat 1))), w) :=
  cf_0 (cf_loop h h59 f2 f3 nz hmo hg hR16 mo.toInt.toNat 1 (by omega) (by omega))
/-- the first number of a matter is the same in both -/
theorem fsN_both (hR : Rs tf ta ST WE dn an wn) (hb : ∀ j, j < 32 → bt b j = (decide (1 ≤ j ∧ (j : Int) ≤ (tf 0).toInt) && okP R m (tf 2).toInt (tf 3).toInt j)) : fsN (fun k => bt b k && decide ((mgV tf ta (nI k) b).toInt = x.toInt)) (tf 0).toInt.toNat 1 = fsN (fun k => okP R m (ST.getD 78 0).toInt (ST.getD 79 0).toInt k && decide ((mnV R m ST (tf 1) (nI k)).toInt = x.toInt)) (tf 0).toInt.toNat 1 := by
  obtain ⟨s1, s2, s3, s4, s5, s6, s7, s8, s9, s10, s11, s12, s13, s14, s15, s16, s17, s18⟩ := id hR.2.1
  refine fsN_cg _ _ (fun j h1 h2 => ?_)
  have ej : (nI j).toInt = (j : Int) := nI_toInt (by omega)
  have e := mg_mn (tf := tf) (ta := ta) (ST := ST) (dn := m) (R := R) (x := nI j) (b := b) (by rw [ej]; omega) s16 s3 s4 s5 (by rw [ej]; exact (hR.2.2.2.1 j (by omega) (by omega)).1) hb
  show (bt b j && decide ((mgV tf ta (nI j) b).toInt = x.toInt)) = _
  rw [e, hb j (by omega), decide_eq_true (show 1 ≤ j ∧ (j : Int) ≤ (tf 0).toInt by omega), Bool.true_and, show ST.getD 78 0 = tf 2 from s3, show ST.getD 79 0 = tf 3 from s4]
/-- may -/
theorem st_may (h : stR w t tf ta ST WE dn an wn) (hC : dyC w) : ∃ r wx wm, Go X (d + 2) mt_29 (ex_ent mt_29 [.ref 0]) w (some (.int r), wx) ∧ Go X (d + 2) mt_30 (ex_ent mt_30 [.ref 59]) wx (some (.int r), wm) := by
  obtain ⟨t0, t6, ⟨gs, h0, g9⟩, hT, -, h60, -, hR⟩ := id h
  obtain ⟨s1, s2, s3, s4, s5, s6, s7, s8, s9, s10, s11, s12, s13, s14, s15, s16, s17, s18⟩ := id hR.2.1
  obtain ⟨⟨fsA, vvA, mmA, RUA, LBA, LAA, a17, -⟩, g1, -⟩ := id hC
  have g1 := g1 gs h0
  obtain ⟨hg, hR16⟩ := dy_rng h hC
  obtain ⟨w1, b1, b2, hT1, b3⟩ := dy_begin (X := X) (d := d) (k := 0) h hC (by omega)
  rw [nI_0] at b1
  have A1 : alR w1 t dn (tD ta) := b2.cg (fun i hi => if_pos (by omega))
  obtain ⟨b, q1, q2⟩ := fb_all (X := X) (d := d) A1 (by omega) hT1.1 ⟨s15, s16⟩
  obtain ⟨RU, LB, LA, k17, -⟩ := id A1
  obtain ⟨wy, fs5, fs5', y1, y2, y3, y4, y5, y6, y7, y8⟩ := dy_row (X := X) (d := d + 1) h hC (fun q hq => b3 q (by omega))
  obtain ⟨b', z1, z2⟩ := mw_all (X := X) (d := d) y2 y4 ((y5 2 (by omega)).trans y6) s16 hg hR16
  have e : b = b' := bt_ext (fun j hj => by rw [q2 j hj, z2 j hj, show ST.getD 78 0 = tf 2 from s3, show ST.getD 79 0 = tf 3 from s4])
  subst e
  exact ⟨b, w1, wy, my_c h0 g1 g9 a17 b1 ((b3 0 (by omega)).trans h0) g1 g9 k17 q1, my_m y3 y1 y4 z1⟩
/-- means -/
theorem st_means (h : stR w t tf ta ST WE dn an wn) (hC : dyC w) : ∃ r wx wm, Go X (d + 2) mt_31 (ex_ent mt_31 [.ref 0, .int x]) w (some (.int r), wx) ∧ Go X (d + 2) mt_32 (ex_ent mt_32 [.ref 59, .int x]) wx (some (.int r), wm) := by
  obtain ⟨t0, t6, ⟨gs, h0, g9⟩, hT, ⟨fs50, h59, f0, f2, f3, f4⟩, h60, -, hR⟩ := id h
  obtain ⟨s1, s2, s3, s4, s5, s6, s7, s8, s9, s10, s11, s12, s13, s14, s15, s16, s17, s18⟩ := id hR.2.1
  obtain ⟨⟨fsA, vvA, mmA, RUA, LBA, LAA, a17, -⟩, g1, -⟩ := id hC
  have g1 := g1 gs h0
  obtain ⟨hg, hR16⟩ := dy_rng h hC
  have nz : ¬ tf 1 = 0 := fun e => by
    rw [e] at s17
    exact absurd s17 (by decide)
  rcases sc_num (X := X) (d := d + 1) (x := x) hT.1 s16 with ⟨n1, n2⟩ | ⟨n1, n2⟩
  · obtain ⟨w1, b1, b2, hT1, b3⟩ := dy_begin (X := X) (d := d) (k := 0) h hC (by omega)
    rw [nI_0] at b1
    have A1 : alR w1 t dn (tD ta) := b2.cg (fun i hi => if_pos (by omega))
    obtain ⟨b, q1, q2⟩ := fb_all (X := X) (d := d) A1 (by omega) hT1.1 ⟨s15, s16⟩
    obtain ⟨RU, LB, LA, k17, -⟩ := id A1
    obtain ⟨wy, fs5, fs5', y1, y2, y3, y4, y5, y6, y7, y8⟩ := dy_row (X := X) (d := d + 1) h hC (fun q hq => b3 q (by omega))
    have gm := mn_all (X := X) (d := d) (n := x) (ma := tf 1) y2 y4 ((y5 3 (by omega)).trans y7) nz (by omega) hg hR16
    have gx := mg_all (X := X) (d := d) (x := x) (b := b) k17 hT1 hR.1.2.1 s16 s17
    rw [mg_mn (ST := ST) (dn := dn) (R := tD ta) n1 s16 s3 s4 s5 (hR.2.2.2.1 x.toInt.toNat (by omega) (by omega)).1 q2] at gx
    exact ⟨_, w1, wy, me_1 h0 g1 g9 hT.1 a17 n2 b1 ((b3 0 (by omega)).trans h0) g1 g9 k17 q1 gx, nm_1 y3 ((su_num y3 y6).1 n1) y1 y4 gm⟩
  · exact ⟨_, w, w, me_0 h0 g1 g9 hT.1 n2, nm_0 h59 ((su_num h59 f2).2 n1)⟩
/-- cheap -/
theorem st_cheap (h : stR w t tf ta ST WE dn an wn) (hC : dyC w) : ∃ r wx wm, Go X (d + 4) mt_33 (ex_ent mt_33 [.ref 0, .int x]) w (some (.int r), wx) ∧ Go X (d + 4) mt_34 (ex_ent mt_34 [.ref 59, .int x]) wx (some (.int r), wm) := by
  obtain ⟨t0, t6, ⟨gs, h0, g9⟩, hT, ⟨fs50, h59, f0, f2, f3, f4⟩, h60, -, hR⟩ := id h
  obtain ⟨s1, s2, s3, s4, s5, s6, s7, s8, s9, s10, s11, s12, s13, s14, s15, s16, s17, s18⟩ := id hR.2.1
  obtain ⟨⟨fsA, vvA, mmA, RUA, LBA, LAA, a17, -⟩, g1, -⟩ := id hC
  have g1 := g1 gs h0
  obtain ⟨hg, hR16⟩ := dy_rng h hC
  have nz : ¬ tf 1 = 0 := fun e => by
    rw [e] at s17
    exact absurd s17 (by decide)
  rcases sc_mat (X := X) (d := d + 3) (x := x) hT.1 s18 with ⟨n1, n2⟩ | ⟨n1, n2⟩
  · obtain ⟨w1, b1, b2, hT1, b3⟩ := dy_begin (X := X) (d := d + 2) (k := 0) h hC (by omega)
    rw [nI_0] at b1
    have A1 : alR w1 t dn (tD ta) := b2.cg (fun i hi => if_pos (by omega))
    obtain ⟨b, q2, q1⟩ := lf_all (X := X) (d := d) (x := x) A1 hT1 hR.1.2.1 ⟨s15, s16⟩ s17
    obtain ⟨RU, LB, LA, k17, -⟩ := id A1
    obtain ⟨wy, fs5, fs5', y1, y2, y3, y4, y5, y6, y7, y8⟩ := dy_row (X := X) (d := d + 3) h hC (fun q hq => b3 q (by omega))
    have gm := cf_all (X := X) (d := d) (x := x) y2 y4 ((y5 2 (by omega)).trans y6) ((y5 3 (by omega)).trans y7) nz ⟨s15, s16⟩ hg hR16
    rw [← fsN_both hR q2] at gm
    have hle := fsN_le (fun k => bt b k && decide ((mgV tf ta (nI k) b).toInt = x.toInt)) (tf 0).toInt.toNat 1
    generalize fsN (fun k => bt b k && decide ((mgV tf ta (nI k) b).toInt = x.toInt)) (tf 0).toInt.toNat 1 = j at gm q1 hle
    have gn := nc_1 (X := X) (d := d + 3) y3 ((su_mat y3 y7 s17 s18).1 n1) y1 y4 gm
    by_cases c : j = 0
    · rw [if_pos c] at gn
      rw [c, nI_0] at q1
      exact ⟨_, w1, wy, ch_1 h0 g1 g9 hT.1 a17 n2 b1 ((b3 0 (by omega)).trans h0) g1 g9 k17 q1, gn⟩
    · rw [if_neg c] at gn
      exact ⟨_, w1, wy, ch_2 h0 g1 g9 hT.1 a17 n2 b1 ((b3 0 (by omega)).trans h0) g1 g9 k17 q1 (by rw [nI_toInt (by omega)]; omega), gn⟩
  · exact ⟨_, w, w, ch_0 h0 g1 g9 hT.1 n2, nc_0 h59 ((su_mat h59 f3 s17 s18).2 n1)⟩
/-- ring's answers are alike -/
theorem rgA_eq {r r' : Int32} (hR : Rs tf ta ST WE dn an wn) (h : rgA tf ta ST dn x r r') : r = r' := by
  obtain ⟨s1, s2, s3, s4, s5, s6, s7, s8, s9, s10, s11, s12, s13, s14, s15, s16, s17, s18⟩ := id hR.2.1
  rcases h with h | ⟨n1, b, h1, h2, h3⟩
  · exact h
  · rw [h1, h2]
    exact mg_mn n1 s16 s3 s4 s5 (hR.2.2.2.1 x.toInt.toNat (by omega) (by omega)).1 h3
end AW

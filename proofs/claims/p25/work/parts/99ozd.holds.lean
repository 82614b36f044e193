/-! WHAT DAYS ANSWER: holds, reads. -/
section HO
variable {X : List Int32} {d t m : Nat} {w wx : ex_W} {R : Nat → Int} {x b mm : Int32} {tf : Nat → Int32} {ta : Nat → List Int32} {ST WE : List Int32} {dn an wn : Nat} {fs5 : List Value}
theorem le_loop (h17 : ex_at w 17 = some (.inr (.inr (0, al t mm)))) (hT1 : ex_at w t = some (dT t tf)) (h16 : (tf 0).toInt ≤ 16) : ∀ n k, k + n = (tf 0).toInt.toNat + 1 → 1 ≤ k → Go X d mt_114 (7, [some (.ref 17), some (.int b), some (.int (nI k))], []) w (some (.int (nI (fsN (bt b) n k))), w)
  | 0, k, hk, h1 => by
    have ek : (nI k).toInt = (k : Int) := nI_toInt (by omega)
    rw [show fsN (bt b) 0 k = 0 from rfl, nI_0]
    exact le_x h17 hT1 (by rw [ek]; omega)
  | n + 1, k, hk, h1 => by
    have ek : (nI k).toInt = (k : Int) := nI_toInt (by omega)
    have hz := bt_z (b := b) (k := k) (by omega)
    by_cases c : bt b k = true
    · rw [show fsN (bt b) (n + 1) k = k from if_pos c]
      exact le_y h17 hT1 (by rw [ek]; omega) (fun h => by
        rw [hz.mp h] at c
        exact absurd c (by decide))
    · rw [show fsN (bt b) (n + 1) k = fsN (bt b) n (k + 1) from if_neg c]
      have ih := le_loop h17 hT1 h16 n (k + 1) (by omega) (by omega)
      rw [show some (Value.int (nI (k + 1))) = some (.int (nI k + 1)) by rw [nI_succ]] at ih
      exact le_n h17 hT1 (by rw [ek]; omega) (hz.mpr (Bool.eq_false_iff.mpr c)) ih
theorem le_all (hA : alR w t m R) (hT1 : ex_at w t = some (dT t tf)) (hmo : 4 ≤ (tf 0).toInt ∧ (tf 0).toInt ≤ 16) : Go X (d + 2) mt_114 (ex_ent mt_114 [.ref 17]) w (some (.int (nI (fsN (fun j => okP R m (tf 2).toInt (tf 3).toInt j) (tf 0).toInt.toNat 1))), w) := by
  obtain ⟨RU, LB, LA, k17, -, -, -, -, -, -, l4, -⟩ := id hA
  obtain ⟨b, q1, q2⟩ := fb_all (X := X) (d := d) hA l4 hT1 hmo
  have e : fsN (bt b) (tf 0).toInt.toNat 1 = fsN (fun j => okP R m (tf 2).toInt (tf 3).toInt j) (tf 0).toInt.toNat 1 := fsN_cg _ _ (fun j h1 h2 => by
    rw [q2 j (by omega), decide_eq_true (show 1 ≤ j ∧ (j : Int) ≤ (tf 0).toInt by omega), Bool.true_and])
  rw [← e]
  exact le_0 k17 q1 (le_loop k17 hT1 hmo.2 (tf 0).toInt.toNat 1 (by omega) (by omega))
/-- how long the least number goes on -/
def hdN (mo : Nat) (g ne : Int) : Nat → (Nat → Int) → Nat → Nat
  | 0, _, _ => 0
  | n + 1, R, m => if fsN (fun j => okP R m g ne j) mo 1 = 0 then 0 else 1 + hdN mo g ne n (up R m ((fsN (fun j => okP R m g ne j) mo 1 : Nat) : Int)) (m + 1)
theorem ho_loop {gs : List Value} (g1 : ex_at gs 1 = some (.ref 17)) (g9 : ex_at gs 9 = some (.ref t)) (t6 : t + 6 < 15) (hmo : 4 ≤ (tf 0).toInt ∧ (tf 0).toInt ≤ 16) : ∀ (n i : Nat) (w : ex_W) (o1 : Option Value) (R : Nat → Int) (m : Nat), i + n = 61 → m + n ≤ 128 → ex_at w 0 = some (.inr (.inr (7, gs))) → ex_at w t = some (dT t tf) → alR w t m R → ∃ w', Go X (d + 3) mt_37 (14, [some (.ref 0), some (.int (nI i)), o1], []) w (some (.int (nI (i + hdN (tf 0).toInt.toNat (tf 2).toInt (tf 3).toInt n R m))), w') ∧ ∀ q, ¬ (17 ≤ q ∧ q ≤ 20) → ex_at w' q = ex_at w q
  | 0, i, w, o1, R, m, hi, hm, h0, hT1, hA => by
    obtain rfl : i = 61 := by omega
    exact ⟨w, ho_x (by rw [nI_toInt (by omega)]; decide), fun _ _ => rfl⟩
  | n + 1, i, w, o1, R, m, hi, hm, h0, hT1, hA => by
    have ei : (nI i).toInt = (i : Int) := nI_toInt (by omega)
    have g := le_all (X := X) (d := d) hA hT1 hmo
    obtain ⟨RU, LB, LA, k17, -⟩ := id hA
    have hle := fsN_le (fun j => okP R m (tf 2).toInt (tf 3).toInt j) (tf 0).toInt.toNat 1
    by_cases c : fsN (fun j => okP R m (tf 2).toInt (tf 3).toInt j) (tf 0).toInt.toNat 1 = 0
    · rw [show hdN (tf 0).toInt.toNat (tf 2).toInt (tf 3).toInt (n + 1) R m = 0 from if_pos c, Nat.add_zero]
      rw [c, nI_0] at g
      exact ⟨w, ho_e h0 g1 g9 k17 (by rw [ei]; omega) g, fun _ _ => rfl⟩
    · rw [show hdN (tf 0).toInt.toNat (tf 2).toInt (tf 3).toInt (n + 1) R m = 1 + hdN (tf 0).toInt.toNat (tf 2).toInt (tf 3).toInt n (up R m ((fsN (fun j => okP R m (tf 2).toInt (tf 3).toInt j) (tf 0).toInt.toNat 1 : Nat) : Int)) (m + 1) from if_neg c]
      generalize fsN (fun j => okP R m (tf 2).toInt (tf 3).toInt j) (tf 0).toInt.toNat 1 = k at g c hle
      have ek : (nI k).toInt = (k : Int) := nI_toInt (by omega)
      obtain ⟨w1, p1, p2, p3⟩ := al_pass (X := X) (d := d + 2) (x := nI k) hA (by omega) (by rw [ek]; omega) (by rw [ek]; omega)
      rw [ek] at p2
      obtain ⟨w', g2, g3⟩ := ho_loop g1 g9 t6 hmo n (i + 1) w1 (some (.int (nI k))) (up R m (k : Int)) (m + 1) (by omega) (by omega) ((p3 0 (by omega)).trans h0) ((p3 t (by omega)).trans hT1) p2
      rw [show some (Value.int (nI (i + 1))) = some (.int (nI i + 1)) by rw [nI_succ]] at g2
      refine ⟨w', ?_, fun q hq => (g3 q hq).trans (p3 q hq)⟩
      rw [show i + (1 + hdN (tf 0).toInt.toNat (tf 2).toInt (tf 3).toInt n (up R m (k : Int)) (m + 1)) = i + 1 + hdN (tf 0).toInt.toNat (tf 2).toInt (tf 3).toInt n (up R m (k : Int)) (m + 1) by omega]
      exact ho_n h0 g1 g9 k17 (by rw [ei]; omega) g (by rw [ek]; omega) p1 g2
/-- a day more in the reference's row -/
theorem rw_add {v : Int} (h : rwR w m R ST) (h59 : ex_at w 59 = some (.inr (.inr (8, fs5)))) (hm : m < 130) (hx : x.toInt = v) : ∃ w' fs5', Go X d mt_116 (ex_ent mt_116 [.ref 59, .int x]) w (none, w') ∧ rwR w' (m + 1) (up R m v) ST ∧ ex_at w' 59 = some (.inr (.inr (8, fs5'))) ∧ (∀ i, i ≠ 23 → ex_at fs5' i = ex_at fs5 i) ∧ ∀ q, q ≠ 59 → q ≠ 67 → ex_at w' q = ex_at w q := by
  obtain ⟨fs, RW, k59, f0, f22, f23, h60, h67, lr, ls, hm', hR⟩ := id h
  obtain rfl := at_obj h59 k59
  have g := ad_m (X := X) (d := d) (x := x) h59 f22 f23 h67 (by rw [lr]; exact fp_ix hm (by decide))
  rw [nI_clamp (by omega), ← nI_succ] at g
  refine ⟨_, _, g, ⟨_, ex_put RW m x, vg_at_put (vg_at_o rfl h59), vg_at_o rfl f0, vg_at_o rfl f22, vg_at_put f23, vg_at_o rfl (vg_at_o rfl h60), vg_at_o rfl (vg_at_put h67), by rw [rl_len]; exact lr, ls, by omega, fun i hi => ?_⟩, vg_at_put (vg_at_o rfl h59), fun i hi => vg_at_ne (sh_beq (fun e => hi e.symm)), fun q a c => (vg_at_ne (sh_beq (fun e => a e.symm))).trans (vg_at_ne (sh_beq (fun e => c e.symm)))⟩
  by_cases e : i = m
  · rw [e, rl_x (by omega), up_eq]
    exact hx
  · rw [rl_w e, up_ne _ _ e]
    exact hR i (by omega)
theorem hm_in {mo v : Int32} (h : rwR w m R ST) (h59 : ex_at w 59 = some (.inr (.inr (8, fs5)))) (f2 : ex_at fs5 2 = some (.int mo)) (hmo : 4 ≤ mo.toInt ∧ mo.toInt ≤ 16) (hg : 0 ≤ (ST.getD 78 0).toInt ∧ (ST.getD 78 0).toInt ≤ 20) (hR16 : ∀ i, i < m → 0 ≤ R i ∧ R i ≤ 16) : ∀ n k, k + n = mo.toInt.toNat + 1 → 1 ≤ k → ∀ q, Go X (d + 1) mt_38 (36, [some (.ref 59), some (.int v), some (.int 1), some (.int (nI (if fsN (fun j => okP R m (ST.getD 78 0).toInt (ST.getD 79 0).toInt j) n k = 0 then mo.toInt.toNat + 1 else fsN (fun j => okP R m (ST.getD 78 0).toInt (ST.getD 79 0).toInt j) n k)))], []) w q → Go X (d + 1) mt_38 (14, [some (.ref 59), some (.int v), some (.int 1), some (.int (nI k))], []) w q
  | 0, k, hk, h1, q, kk => by
    have ek : (nI k).toInt = (k : Int) := nI_toInt (by omega)
    rw [if_pos (show fsN (fun j => okP R m (ST.getD 78 0).toInt (ST.getD 79 0).toInt j) 0 k = 0 from rfl), show mo.toInt.toNat + 1 = k by omega] at kk
    exact hm_o h59 f2 (by rw [ek]; omega) kk
  | n + 1, k, hk, h1, q, kk => by
    have ek : (nI k).toInt = (k : Int) := nI_toInt (by omega)
    have gm := mb_all (X := X) (d := d) (n := nI k) h (by rw [ek]; omega) hg hR16
    rw [ek] at gm
    by_cases c : okP R m (ST.getD 78 0).toInt (ST.getD 79 0).toInt k = true
    · rw [show fsN (fun j => okP R m (ST.getD 78 0).toInt (ST.getD 79 0).toInt j) (n + 1) k = k from if_pos c, if_neg (by omega)] at kk
      rw [c] at gm
      exact hm_f h59 f2 (by rw [ek]; omega) gm kk
    · rw [show fsN (fun j => okP R m (ST.getD 78 0).toInt (ST.getD 79 0).toInt j) (n + 1) k = fsN (fun j => okP R m (ST.getD 78 0).toInt (ST.getD 79 0).toInt j) n (k + 1) from if_neg c] at kk
      rw [Bool.eq_false_iff.mpr c] at gm
      have ih := hm_in h h59 f2 hmo hg hR16 n (k + 1) (by omega) (by omega) q kk
      rw [show some (Value.int (nI (k + 1))) = some (.int (nI k + 1)) by rw [nI_succ]] at ih
      exact hm_n h59 f2 (by rw [ek]; omega) gm ih
theorem hm_loop {mo : Int32} (hmo : 4 ≤ mo.toInt ∧ mo.toInt ≤ 16) (hg : 0 ≤ (ST.getD 78 0).toInt ∧ (ST.getD 78 0).toInt ≤ 20) : ∀ (n i : Nat) (w : ex_W) (fs5 : List Value) (o1 : Option Value) (R : Nat → Int) (m : Nat), i + n = 61 → m + n ≤ 130 → ex_at w 59 = some (.inr (.inr (8, fs5))) → ex_at fs5 2 = some (.int mo) → rwR w m R ST → (∀ i, i < m → 0 ≤ R i ∧ R i ≤ 16) → ∃ w', Go X (d + 1) mt_38 (8, [some (.ref 59), some (.int (nI i)), some (.int 1), o1], []) w (some (.int (nI (i + hdN mo.toInt.toNat (ST.getD 78 0).toInt (ST.getD 79 0).toInt n R m))), w')
  | 0, i, w, fs5, o1, R, m, hi, hm, h59, f2, hr, hR16 => by
    obtain rfl : i = 61 := by omega
    have hle := fsN_le (fun j => okP R m (ST.getD 78 0).toInt (ST.getD 79 0).toInt j) mo.toInt.toNat 1
    refine ⟨w, hm_1 ?_⟩
    have k := hm_in (X := X) (d := d) (v := nI 61) hr h59 f2 hmo hg hR16 mo.toInt.toNat 1 (by omega) (by omega)
    refine k _ ?_
    by_cases c : fsN (fun j => okP R m (ST.getD 78 0).toInt (ST.getD 79 0).toInt j) mo.toInt.toNat 1 = 0
    · rw [if_pos c]
      exact hm_a h59 f2 (by rw [nI_toInt (by omega)]; omega) hm_x
    · rw [if_neg c]
      exact hm_b h59 f2 (by rw [nI_toInt (by omega)]; omega) (by decide) hm_x
  | n + 1, i, w, fs5, o1, R, m, hi, hm, h59, f2, hr, hR16 => by
    have ei : (nI i).toInt = (i : Int) := nI_toInt (by omega)
    have hle := fsN_le (fun j => okP R m (ST.getD 78 0).toInt (ST.getD 79 0).toInt j) mo.toInt.toNat 1
    have k := hm_in (X := X) (d := d) (v := nI i) hr h59 f2 hmo hg hR16 mo.toInt.toNat 1 (by omega) (by omega)
    by_cases c : fsN (fun j => okP R m (ST.getD 78 0).toInt (ST.getD 79 0).toInt j) mo.toInt.toNat 1 = 0
    · rw [show hdN mo.toInt.toNat (ST.getD 78 0).toInt (ST.getD 79 0).toInt (n + 1) R m = 0 from if_pos c, Nat.add_zero]
      refine ⟨w, hm_1 (k _ ?_)⟩
      rw [if_pos c]
      exact hm_a h59 f2 (by rw [nI_toInt (by omega)]; omega) hm_x
    · rw [show hdN mo.toInt.toNat (ST.getD 78 0).toInt (ST.getD 79 0).toInt (n + 1) R m = 1 + hdN mo.toInt.toNat (ST.getD 78 0).toInt (ST.getD 79 0).toInt n (up R m ((fsN (fun j => okP R m (ST.getD 78 0).toInt (ST.getD 79 0).toInt j) mo.toInt.toNat 1 : Nat) : Int)) (m + 1) from if_neg c]
      rw [if_neg c] at k
      generalize fsN (fun j => okP R m (ST.getD 78 0).toInt (ST.getD 79 0).toInt j) mo.toInt.toNat 1 = z at k c hle
      have ez : (nI z).toInt = (z : Int) := nI_toInt (by omega)
      obtain ⟨w1, fs5', a1, a2, a3, a4, -⟩ := rw_add (X := X) (d := d) (x := nI z) hr h59 (by omega) ez
      obtain ⟨w', g2⟩ := hm_loop hmo hg n (i + 1) w1 fs5' (some (.int (nI z))) (up R m (z : Int)) (m + 1) (by omega) (by omega) a3 ((a4 2 (by omega)).trans f2) a2 (fun j hj => by
        by_cases e : j = m
        · rw [e, up_eq]
          omega
        · rw [up_ne _ _ e]
          exact hR16 j (by omega))
      rw [show some (Value.int (nI (i + 1))) = some (.int (nI i + 1)) by rw [nI_succ]] at g2
      refine ⟨w', hm_1 (k _ ?_)⟩
      rw [show i + (1 + hdN mo.toInt.toNat (ST.getD 78 0).toInt (ST.getD 79 0).toInt n (up R m (z : Int)) (m + 1)) = i + 1 + hdN mo.toInt.toNat (ST.getD 78 0).toInt (ST.getD 79 0).toInt n (up R m (z : Int)) (m + 1) by omega]
      exact hm_c h59 f2 (by rw [ez]; omega) (by rw [ei]; omega) a1 g2
theorem st_holds (h : stR w t tf ta ST WE dn an wn) (hC : dyC w) : ∃ r wx wm, Go X (d + 3) mt_37 (ex_ent mt_37 [.ref 0]) w (some (.int r), wx) ∧ Go X (d + 3) mt_38 (ex_ent mt_38 [.ref 59]) wx (some (.int r), wm) := by
  obtain ⟨t0, t6, ⟨gs, h0, g9⟩, hT, -, h60, -, hR⟩ := id h
  obtain ⟨s1, s2, s3, s4, s5, s6, s7, s8, s9, s10, s11, s12, s13, s14, s15, s16, s17, s18⟩ := id hR.2.1
  obtain ⟨⟨fsA, vvA, mmA, RUA, LBA, LAA, a17, -⟩, g1, -⟩ := id hC
  have g1 := g1 gs h0
  obtain ⟨hg, hR16⟩ := dy_rng h hC
  obtain ⟨w1, b1, b2, hT1, b3⟩ := dy_begin (X := X) (d := d + 1) (k := 0) h hC (by omega)
  rw [nI_0] at b1
  have A1 : alR w1 t dn (tD ta) := b2.cg (fun i hi => if_pos (by omega))
  obtain ⟨wx, gx, gF⟩ := ho_loop (X := X) (d := d) g1 g9 t6 ⟨s15, s16⟩ 61 0 w1 none (tD ta) dn (by omega) (by omega) ((b3 0 (by omega)).trans h0) hT1.1 A1
  obtain ⟨wy, fs5, fs5', y1, y2, y3, y4, y5, y6, y7, y8⟩ := dy_row (X := X) (d := d + 2) h hC (fun q hq => (gF q (by omega)).trans (b3 q (by omega)))
  obtain ⟨wm, gm⟩ := hm_loop (X := X) (d := d + 2) (mo := tf 0) ⟨s15, s16⟩ hg 61 0 wy fs5' none (tD ta) dn (by omega) (by omega) y4 ((y5 2 (by omega)).trans y6) y2 hR16
  rw [show ST.getD 78 0 = tf 2 from s3, show ST.getD 79 0 = tf 3 from s4, nI_0] at gm
  rw [nI_0] at gx
  exact ⟨_, wx, wm, ho_0 h0 g1 g9 a17 b1 gx, hm_0 y3 y1 gm⟩
/-- rowMissed -/
theorem rm_loop {k : Nat} (f22 : ex_at fs5 22 = some (.ref 67)) (f23 : ex_at fs5 23 = some (.int (nI dn))) (hdn : dn ≤ 60) (hk : k ≤ 10) : ∀ (f i : Nat) (w : ex_W) (RW : List Int32), k - i ≤ f → i ≤ k → i ≤ dn → RW.length = 130 → ex_at w 59 = some (.inr (.inr (8, fs5))) → ex_at w 67 = some (.inl (.int, RW)) → ∃ RW', RW'.length = 130 ∧ (∀ j, j < dn → RW'.getD j 0 = if dn - k ≤ j ∧ j < dn - i then 0 else RW.getD j 0) ∧ Go X d mt_134 (6, [some (.ref 59), some (.int (nI k)), some (.int (nI i))], []) w (none, ex_put w 67 (.inl (.int, RW'))) := by
  have ek : (nI k).toInt = (k : Int) := nI_toInt (by omega)
  have ed : (nI dn).toInt = (dn : Int) := nI_toInt (by omega)
  have stop : ∀ (i : Nat) (w : ex_W) (RW : List Int32), (i = k ∨ (i < k ∧ i = dn)) → i ≤ k → i ≤ dn → RW.length = 130 → ex_at w 59 = some (.inr (.inr (8, fs5))) → ex_at w 67 = some (.inl (.int, RW)) → ∃ RW', RW'.length = 130 ∧ (∀ j, j < dn → RW'.getD j 0 = if dn - k ≤ j ∧ j < dn - i then 0 else RW.getD j 0) ∧ Go X d mt_134 (6, [some (.ref 59), some (.int (nI k)), some (.int (nI i))], []) w (none, ex_put w 67 (.inl (.int, RW'))) := by
    intro i w RW hi h1 h2 hl h59 h67
    have ei : (nI i).toInt = (i : Int) := nI_toInt (by omega)
    refine ⟨RW, hl, fun j hj => by rw [if_neg (by omega)], ?_⟩
    rw [fp_put_id h67]
    rcases hi with hi | ⟨hi, hi'⟩
    · exact rm_x (by rw [ei, ek]; omega)
    · exact rm_y h59 f23 (by rw [ei, ek]; omega) (by rw [ei, ed]; omega)
  intro f
  induction f with
  | zero => exact fun i w RW hf h1 h2 hl h59 h67 => stop i w RW (Or.inl (by omega)) h1 h2 hl h59 h67
  | succ f ih =>
    intro i w RW hf h1 h2 hl h59 h67
    by_cases c : i = k
    · exact stop i w RW (Or.inl c) h1 h2 hl h59 h67
    · by_cases c2 : i = dn
      · exact stop i w RW (Or.inr ⟨by omega, c2⟩) h1 h2 hl h59 h67
      · have ei : (nI i).toInt = (i : Int) := nI_toInt (by omega)
        have o1 : (1 : Int32).toInt = 1 := by decide
        have e1 : (nI dn - 1).toInt = (dn : Int) - 1 := by rw [tI_sub (by rw [ed, o1]; omega) (by rw [ed, o1]; omega), ed, o1]
        have ex : (nI dn - 1) - nI i = nI (dn - 1 - i) := tI_nI (by rw [tI_sub (by rw [e1, ei]; omega) (by rw [e1, ei]; omega), e1, ei]; omega) (by omega)
        obtain ⟨RW', k1, k2, k3⟩ := ih (i + 1) (ex_put w 67 (.inl (.int, ex_put RW (dn - 1 - i) 0))) (ex_put RW (dn - 1 - i) 0) (by omega) (by omega) (by omega) (by rw [rl_len]; exact hl) (vg_at_o rfl h59) (vg_at_put h67)
        refine ⟨RW', k1, fun j hj => ?_, ?_⟩
        · rw [k2 j hj]
          by_cases q1 : dn - k ≤ j ∧ j < dn - (i + 1)
          · rw [if_pos q1, if_pos (by omega)]
          · rw [if_neg q1]
            by_cases q2 : j = dn - 1 - i
            · rw [q2, rl_x (by omega), if_pos (by omega)]
            · rw [rl_w q2, if_neg (by omega)]
        · rw [fp_put2, nI_succ] at k3
          refine rm_n h59 f22 f23 h67 (by rw [ei, ek]; omega) (by rw [ei, ed]; omega) (by rw [ex, hl]; exact fp_ix (by omega) (by decide)) ?_
          rw [ex, nI_clamp (by omega)]
          exact k3
theorem dy_miss {k : Nat} (h : stR w t tf ta ST WE dn an wn) (hC : dyC w) (hk : k ≤ 10) (e : ∀ q, 59 ≤ q → ex_at wx q = ex_at w q) : ∃ wy fs5 fs5', Go X (d + 1) mt_134 (ex_ent mt_134 [.ref 59, .int (nI k)]) wx (none, wy) ∧ rwR wy dn (missR (tD ta) dn k) ST ∧ ex_at wx 59 = some (.inr (.inr (8, fs5))) ∧ ex_at wy 59 = some (.inr (.inr (8, fs5'))) ∧ (∀ i, i ≠ 23 → ex_at fs5' i = ex_at fs5 i) ∧ ex_at fs5 2 = some (.int (tf 0)) ∧ ex_at fs5 3 = some (.int (tf 1)) ∧ ∀ q, q ≠ 59 → q ≠ 67 → ex_at wy q = ex_at wx q := by
  obtain ⟨wy, fs5, fs5', y1, y2, y3, y4, y5, y6, y7, y8⟩ := dy_row (X := X) (d := d) h hC e
  have s12 : dn ≤ 60 := h.2.2.2.2.2.2.2.2.1.2.2.2.2.2.2.2.2.2.2.2.1
  obtain ⟨fs, RW, k59, f0, f22, f23, h60, h67, lr, ls, hm, hR⟩ := id y2
  obtain rfl := at_obj y4 k59
  obtain ⟨RW', k1, k2, k3⟩ := rm_loop (X := X) (d := d + 1) (dn := dn) (k := k) f22 f23 s12 hk k 0 wy RW (by omega) (by omega) (by omega) lr y4 h67
  rw [nI_0] at k3
  refine ⟨_, fs5, fs5', rm_0 y3 y1 k3, ⟨fs5', RW', vg_at_o rfl y4, f0, f22, f23, vg_at_o rfl h60, vg_at_put h67, k1, ls, hm, fun j hj => ?_⟩, y3, vg_at_o rfl y4, y5, y6, y7, fun q a b => (vg_at_ne (sh_beq (fun e => b e.symm))).trans (y8 q a b)⟩
  rw [k2 j hj]
  unfold missR
  by_cases c : (j : Int) < (dn : Int) - k
  · rw [if_pos c, if_neg (by omega)]
    exact hR j hj
  · rw [if_neg c, if_pos (by omega)]
    decide
theorem missR_rng {D : Nat → Int} {k : Nat} (h : ∀ i, i < dn → 0 ≤ D i ∧ D i ≤ 16) : ∀ i, i < dn → 0 ≤ missR D dn k i ∧ missR D dn k i ≤ 16 := fun i hi => by
  unfold missR
  by_cases c : (i : Int) < (dn : Int) - k
  · rw [if_pos c]
    exact h i hi
  · rw [if_neg c]
    omega
theorem st_reads {k : Int32} (h : stR w t tf ta ST WE dn an wn) (hC : dyC w) : ∃ r wx wm, Go X (d + 2) mt_57 (ex_ent mt_57 [.ref 0, .int k, .int x]) w (some (.int r), wx) ∧ Go X (d + 2) mt_58 (ex_ent mt_58 [.ref 59, .int k, .int x]) wx (some (.int r), wm) := by
  obtain ⟨t0, t6, ⟨gs, h0, g9⟩, hT, ⟨fs50, h59, f0, f2, f3, f4⟩, h60, -, hR⟩ := id h
  obtain ⟨s1, s2, s3, s4, s5, s6, s7, s8, s9, s10, s11, s12, s13, s14, s15, s16, s17, s18⟩ := id hR.2.1
  obtain ⟨⟨fsA, vvA, mmA, RUA, LBA, LAA, a17, -⟩, g1, -⟩ := id hC
  have g1 := g1 gs h0
  obtain ⟨hg, hR16⟩ := dy_rng h hC
  have nz : ¬ tf 1 = 0 := fun e => by
    rw [e] at s17
    exact absurd s17 (by decide)
  by_cases hk : 0 ≤ k.toInt ∧ k.toInt ≤ 10
  · have ek : k = nI k.toInt.toNat := tI_nI (by omega) (by omega)
    have hk10 : k.toInt.toNat ≤ 10 := by omega
    have gi : ∀ w : ex_W, Go X (d + 1) mt_93 (ex_ent mt_93 [.long (Int32.toInt64 k), .long 0, .long 10]) w (some (.int 1), w) := fun w => sin_t rfl (l := 0) (h := 10) (by decide) (by decide) hk.1 hk.2
    rcases sc_num (X := X) (d := d + 1) (x := x) hT.1 s16 with ⟨n1, n2⟩ | ⟨n1, n2⟩
    · obtain ⟨w1, b1, b2, hT1, b3⟩ := dy_begin (X := X) (d := d) (k := k.toInt.toNat) h hC (by omega)
      obtain ⟨b, q1, q2⟩ := fb_all (X := X) (d := d) b2 (by omega) hT1.1 ⟨s15, s16⟩
      obtain ⟨RU, LB, LA, k17, -⟩ := id b2
      obtain ⟨wy, fs5, fs5', y1, y2, y3, y4, y5, y6, y7, y8⟩ := dy_miss (X := X) (d := d) (k := k.toInt.toNat) h hC hk10 (fun q hq => b3 q (by omega))
      rw [← ek] at b1 y1
      have gm := mn_all (X := X) (d := d) (n := x) (ma := tf 1) y2 y4 ((y5 3 (by omega)).trans y7) nz (by omega) hg (missR_rng hR16)
      have gx := mg_all (X := X) (d := d) (x := x) (b := b) k17 hT1 hR.1.2.1 s16 s17
      rw [mg_mn (ST := ST) (dn := dn) (R := missR (tD ta) dn k.toInt.toNat) n1 s16 s3 s4 s5 (hR.2.2.2.1 x.toInt.toNat (by omega) (by omega)).1 q2] at gx
      exact ⟨_, w1, wy, zs_4 h0 g1 g9 hT.1 a17 hk.1 hk.2 n2 b1 ((b3 0 (by omega)).trans h0) g1 g9 k17 q1 gx, ns_3 y3 (gi w1) ((su_num y3 y6).1 n1) y1 y4 gm⟩
    · exact ⟨_, w, w, zs_3 h0 g1 g9 hT.1 hk.1 hk.2 n2, ns_2 h59 (gi w) ((su_num h59 f2).2 n1)⟩
  · have gi : Go X (d + 1) mt_93 (ex_ent mt_93 [.long (Int32.toInt64 k), .long 0, .long 10]) w (some (.int 0), w) := sin_f rfl (l := 0) (h := 10) (by decide) (by decide) hk
    by_cases c : k.toInt < 0
    · exact ⟨_, w, w, zs_1 c, ns_1 h59 gi⟩
    · exact ⟨_, w, w, zs_2 (by omega) (by omega), ns_1 h59 gi⟩
end HO

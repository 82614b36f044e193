/-! WHAT A NUMBER MEANS, in both. -/
def m4i : Int32 := (Int8.ofInt (-4)).toInt32
/-- bitCount -/
def bcf1 (x : Int32) : Int32 := x - ((((Int32.toUInt32 (x)) >>> ((Int32.toUInt32 (1)) &&& Int32.toUInt32 31)).toInt32) &&& 1431655765)
def bcf2 (x : Int32) : Int32 := (x &&& 858993459) + ((((Int32.toUInt32 (x)) >>> ((Int32.toUInt32 (2)) &&& Int32.toUInt32 31)).toInt32) &&& 858993459)
def bcf3 (x : Int32) : Int32 := (x + (((Int32.toUInt32 (x)) >>> ((Int32.toUInt32 (4)) &&& Int32.toUInt32 31)).toInt32)) &&& 252645135
def bcf4 (x : Int32) : Int32 := x + (((Int32.toUInt32 (x)) >>> ((Int32.toUInt32 (8)) &&& Int32.toUInt32 31)).toInt32)
def bcf5 (x : Int32) : Int32 := x + (((Int32.toUInt32 (x)) >>> ((Int32.toUInt32 (16)) &&& Int32.toUInt32 31)).toInt32)
def bcf (x : Int32) : Int32 := bcf5 (bcf4 (bcf3 (bcf2 (bcf1 x)))) &&& 63
section MN
variable {X : List Int32} {d t m : Nat} {w : ex_W} {R : Nat → Int} {x b : Int32} {tf : Nat → Int32} {ta : Nat → List Int32} {ST : List Int32}
theorem bc_all : Go X d mt_164 (ex_ent mt_164 [.int x]) w (some (.int (bcf x)), w) := by
  have k6 : Go X d mt_164 (48, [some (.int (bcf5 (bcf4 (bcf3 (bcf2 (bcf1 x))))))], []) w (some (.int (bcf x)), w) := bc_6
  have k5 : Go X d mt_164 (41, [some (.int (bcf4 (bcf3 (bcf2 (bcf1 x)))))], []) w (some (.int (bcf x)), w) := bc_5 k6
  have k4 : Go X d mt_164 (34, [some (.int (bcf3 (bcf2 (bcf1 x))))], []) w (some (.int (bcf x)), w) := bc_4 k5
  have k3 : Go X d mt_164 (24, [some (.int (bcf2 (bcf1 x)))], []) w (some (.int (bcf x)), w) := bc_3 k4
  have k2 : Go X d mt_164 (10, [some (.int (bcf1 x))], []) w (some (.int (bcf x)), w) := bc_2 k3
  exact bc_1 k2
/-- a number's remainder, as the machine writes it -/
def rm (v ma : Int32) : Int32 := v - v / ma * ma
def mgV (tf : Nat → Int32) (ta : Nat → List Int32) (x b : Int32) : Int32 := if 1 ≤ x.toInt ∧ x.toInt ≤ (tf 0).toInt then (if (tf 4).toInt = 0 then rm (x - 1) (tf 1) else if (tf 4).toInt = 2 then (ta 1).getD x.toInt.toNat 0 else if bt b x.toInt.toNat = true then rm (bcf (b &&& (((1 : Int32) <<< (x &&& 31)) - 1))) (tf 1) else m4i) else m4i
theorem mg_all {mm : Int32} (h17 : ex_at w 17 = some (.inr (.inr (0, al t mm)))) (hT : tA w t tf ta) (l1 : (ta 1).length = 17) (h16 : (tf 0).toInt ≤ 16) (hma : 1 ≤ (tf 1).toInt) : Go X (d + 1) mt_107 (ex_ent mt_107 [.ref 17, .int x, .int b]) w (some (.int (mgV tf ta x b)), w) := by
  have nz : ¬ tf 1 = 0 := fun e => by
    rw [e] at hma
    exact absurd hma (by decide)
  unfold mgV
  rcases sc_num (X := X) (d := d) (x := x) hT.1 h16 with ⟨c1, g1⟩ | ⟨c1, g1⟩
  · rw [if_pos c1]
    have ex : x = nI x.toInt.toNat := tI_nI (by omega) (by omega)
    have ec : Int32.toNatClampNeg x = x.toInt.toNat := by rw [ex, nI_clamp (by omega), ← ex]
    by_cases c2 : (tf 4).toInt = 0
    · rw [if_pos c2]
      exact mg_f h17 hT.1 g1 hma c2 nz
    · rw [if_neg c2]
      by_cases c3 : (tf 4).toInt = 2
      · rw [if_pos c3]
        have g := mg_p (X := X) (d := d) (b := b) h17 hT.1 (hT.2 1 (by decide)) g1 hma c2 c3 (by rw [ex, l1]; exact fp_ix (by omega) (by decide))
        rw [ec, ex_gd_eq] at g
        exact g
      · rw [if_neg c3]
        have hz : (b &&& ((1 : Int32) <<< (x &&& 31))).toInt = 0 ↔ bt b x.toInt.toNat = false := by
          have := bt_z (b := b) (k := x.toInt.toNat) (by omega)
          rw [← ex] at this
          exact this
        by_cases c4 : bt b x.toInt.toNat = true
        · rw [if_pos c4]
          exact mg_r h17 hT.1 g1 hma c2 c3 (fun h => by rw [hz.mp h] at c4; exact absurd c4 (by decide)) bc_all nz
        · rw [if_neg c4]
          exact mg_n h17 hT.1 g1 hma c2 c3 (hz.mpr (Bool.eq_false_iff.mpr c4))
  · rw [if_neg c1]
    exact mg_0 h17 hT.1 g1
/-- how many below k -/
def cnt (f : Nat → Bool) : Nat → Nat
  | 0 => 0
  | k + 1 => cnt f k + if 1 ≤ k ∧ f k = true then 1 else 0
theorem cnt_le (f : Nat → Bool) : ∀ k, cnt f k ≤ k
  | 0 => Nat.le_refl _
  | k + 1 => by
    have := cnt_le f k
    unfold cnt
    split <;> omega
def mnV (R : Nat → Int) (m : Nat) (ST : List Int32) (ma n : Int32) : Int32 := if (ST.getD 80 0).toInt = 0 then rm (n - 1) ma else if (ST.getD 80 0).toInt = 2 then ST.getD (61 + n.toInt.toNat) 0 else if okP R m (ST.getD 78 0).toInt (ST.getD 79 0).toInt n.toInt = true then rm (nI (cnt (fun k => okP R m (ST.getD 78 0).toInt (ST.getD 79 0).toInt k) n.toInt.toNat)) ma else m4i
theorem fl_go (v : Bool) : Go X d mt_135 (ex_ent mt_135 [.int (fl v)]) w (some (.int (fl v)), w) := match v with
  | true => fl_1
  | false => fl_0
theorem mn_loop {n ma : Int32} {fs5 : List Value} (h : rwR w m R ST) (h59 : ex_at w 59 = some (.inr (.inr (8, fs5)))) (f3 : ex_at fs5 3 = some (.int ma)) (nz : ¬ ma = 0) (hn : 1 ≤ n.toInt ∧ n.toInt ≤ 16) (hg : 0 ≤ (ST.getD 78 0).toInt ∧ (ST.getD 78 0).toInt ≤ 20) (hR16 : ∀ i, i < m → 0 ≤ R i ∧ R i ≤ 16) : ∀ (f k : Nat), n.toInt.toNat - k ≤ f → 1 ≤ k → k ≤ n.toInt.toNat → Go X (d + 1) mt_108 (55, [some (.ref 59), some (.int n), some (.int (nI (cnt (fun k => okP R m (ST.getD 78 0).toInt (ST.getD 79 0).toInt k) k))), some (.int (nI k))], []) w (some (.int (rm (nI (cnt (fun k => okP R m (ST.getD 78 0).toInt (ST.getD 79 0).toInt k) n.toInt.toNat)) ma)), w) := by
  have stop : ∀ k : Nat, k = n.toInt.toNat → Go X (d + 1) mt_108 (55, [some (.ref 59), some (.int n), some (.int (nI (cnt (fun k => okP R m (ST.getD 78 0).toInt (ST.getD 79 0).toInt k) k))), some (.int (nI k))], []) w (some (.int (rm (nI (cnt (fun k => okP R m (ST.getD 78 0).toInt (ST.getD 79 0).toInt k) n.toInt.toNat)) ma)), w) := by
    intro k hk
    rw [hk]
    exact mn_b h59 f3 (by rw [nI_toInt (by omega)]; omega) nz
  intro f
  induction f with
  | zero => exact fun k hf h1 hk => stop k (by omega)
  | succ f ih =>
    intro k hf h1 hk
    by_cases e : k = n.toInt.toNat
    · exact stop k e
    · have ek : (nI k).toInt = (k : Int) := nI_toInt (by omega)
      have g := ih (k + 1) (by omega) (by omega) (by omega)
      have gm := mb_all (X := X) (d := d) (n := nI k) h (by rw [ek]; omega) hg hR16
      rw [ek] at gm
      refine mn_a h59 f3 (by rw [ek]; omega) gm (fl_go _) ?_
      have hc : nI (cnt (fun k => okP R m (ST.getD 78 0).toInt (ST.getD 79 0).toInt k) k) + fl (okP R m (ST.getD 78 0).toInt (ST.getD 79 0).toInt k) = nI (cnt (fun k => okP R m (ST.getD 78 0).toInt (ST.getD 79 0).toInt k) (k + 1)) := by
        by_cases c : okP R m (ST.getD 78 0).toInt (ST.getD 79 0).toInt k = true
        · have : cnt (fun k => okP R m (ST.getD 78 0).toInt (ST.getD 79 0).toInt k) (k + 1) = cnt (fun k => okP R m (ST.getD 78 0).toInt (ST.getD 79 0).toInt k) k + 1 := by
            show _ + (if 1 ≤ k ∧ okP R m (ST.getD 78 0).toInt (ST.getD 79 0).toInt k = true then 1 else 0) = _
            rw [if_pos ⟨h1, c⟩]
          rw [this, c, nI_succ]
          rfl
        · have : cnt (fun k => okP R m (ST.getD 78 0).toInt (ST.getD 79 0).toInt k) (k + 1) = cnt (fun k => okP R m (ST.getD 78 0).toInt (ST.getD 79 0).toInt k) k + 0 := by
            show _ + (if 1 ≤ k ∧ okP R m (ST.getD 78 0).toInt (ST.getD 79 0).toInt k = true then 1 else 0) = _
            rw [if_neg (fun h => c h.2)]
          rw [this, Nat.add_zero, Bool.eq_false_iff.mpr c]
          exact nI_add _ 0
      rw [hc, ← nI_succ]
      exact g
theorem mn_all {n ma : Int32} {fs5 : List Value} (h : rwR w m R ST) (h59 : ex_at w 59 = some (.inr (.inr (8, fs5)))) (f3 : ex_at fs5 3 = some (.int ma)) (nz : ¬ ma = 0) (hn : 1 ≤ n.toInt ∧ n.toInt ≤ 16) (hg : 0 ≤ (ST.getD 78 0).toInt ∧ (ST.getD 78 0).toInt ≤ 20) (hR16 : ∀ i, i < m → 0 ≤ R i ∧ R i ≤ 16) : Go X (d + 1) mt_108 (ex_ent mt_108 [.ref 59, .int n]) w (some (.int (mnV R m ST ma n)), w) := by
  obtain ⟨fs5', RW, h59', f0, f22, f23, h60, h67, lr, ls, hm, hR⟩ := id h
  obtain rfl := at_obj h59 h59'
  have e80 : ex_gd ST (Int32.toNatClampNeg 80) = ST.getD 80 0 := by rw [show Int32.toNatClampNeg 80 = 80 by decide, ex_gd_eq]
  have i80 : ex_ix 80 ST.length = true := by rw [ls]; decide
  have ex : n = nI n.toInt.toNat := tI_nI (by omega) (by omega)
  have e61 : (61 : Int32) + n = nI (61 + n.toInt.toNat) := by
    have := nI_add 61 n.toInt.toNat
    rw [← ex] at this
    exact this
  unfold mnV
  by_cases c1 : (ST.getD 80 0).toInt = 0
  · rw [if_pos c1]
    exact mn_f h59 f0 f3 h60 i80 (by rw [e80]; exact c1) nz
  · rw [if_neg c1]
    by_cases c2 : (ST.getD 80 0).toInt = 2
    · rw [if_pos c2]
      have g := mn_p (X := X) (d := d + 1) (x := n) h59 f0 h60 i80 (by rw [e80]; exact c1) i80 (by rw [e80]; exact c2) (by rw [e61, ls]; exact fp_ix (by omega) (by decide))
      rw [e61, nI_clamp (by omega), ex_gd_eq] at g
      exact g
    · rw [if_neg c2]
      have gm := mb_all (X := X) (d := d) (n := n) h hn hg hR16
      by_cases c3 : okP R m (ST.getD 78 0).toInt (ST.getD 79 0).toInt n.toInt = true
      · rw [if_pos c3]
        rw [c3] at gm
        refine mn_1 h59 f0 h60 i80 (by rw [e80]; exact c1) i80 (by rw [e80]; exact c2) gm ?_
        have k := mn_loop (X := X) (d := d) h h59 f3 nz hn hg hR16 16 1 (by omega) (by omega) (by omega)
        have h1 : cnt (fun k => okP R m (ST.getD 78 0).toInt (ST.getD 79 0).toInt k) 1 = 0 := by
          show 0 + (if 1 ≤ 0 ∧ okP R m (ST.getD 78 0).toInt (ST.getD 79 0).toInt ((0 : Nat) : Int) = true then 1 else 0) = 0
          rw [if_neg (fun h => absurd h.1 (by decide))]
        rw [h1, nI_0] at k
        exact k
      · rw [if_neg c3]
        rw [Bool.eq_false_iff.mpr c3] at gm
        exact mn_0 h59 f0 h60 i80 (by rw [e80]; exact c1) i80 (by rw [e80]; exact c2) gm
end MN

/-! SHEETS OF BOTH: what they hold is the same. By hand. -/
section SH
variable {X : List Int32} {d : Nat} {w : ex_W}
theorem e64_0 : (0 : Int64).toInt = 0 := by decide
theorem vin_t {a b c : Int64} (h1 : b.toInt ≤ a.toInt) (h2 : a.toInt ≤ c.toInt) : Go X d mt_93 (ex_ent mt_93 [.long a, .long b, .long c]) w (some (.int 1), w) :=
  vi_3 (by rw [lgc_lt]; exact decide_eq_false (by omega)) (by rw [lgc_gt]; exact decide_eq_false (by omega))
theorem vin_f {a b c : Int64} (h : ¬ (b.toInt ≤ a.toInt ∧ a.toInt ≤ c.toInt)) : Go X d mt_93 (ex_ent mt_93 [.long a, .long b, .long c]) w (some (.int 0), w) := by
  by_cases h1 : a.toInt < b.toInt
  · exact vi_1 (by rw [lgc_lt]; exact decide_eq_true h1)
  · exact vi_2 (by rw [lgc_lt]; exact decide_eq_false h1) (by rw [lgc_gt]; exact decide_eq_true (by omega))
theorem vis_t {a b : Int32} (h : 0 ≤ a.toInt ∧ a.toInt ≤ 3 ∧ 0 ≤ b.toInt ∧ b.toInt ≤ 2) : Go X (d + 1) mt_147 (ex_ent mt_147 [.int a, .int b]) w (some (.int 1), w) := by
  have e3 : (3 : Int64).toInt = 3 := by decide
  have e2 : (2 : Int64).toInt = 2 := by decide
  exact si_3 (vin_t (by rw [e64_0, Int32.toInt_toInt64]; omega) (by rw [e3, Int32.toInt_toInt64]; omega)) (by decide) (vin_t (by rw [e64_0, Int32.toInt_toInt64]; omega) (by rw [e2, Int32.toInt_toInt64]; omega)) (by decide)
theorem vis_f {a b : Int32} (h : ¬ (0 ≤ a.toInt ∧ a.toInt ≤ 3 ∧ 0 ≤ b.toInt ∧ b.toInt ≤ 2)) : Go X (d + 1) mt_147 (ex_ent mt_147 [.int a, .int b]) w (some (.int 0), w) := by
  have e3 : (3 : Int64).toInt = 3 := by decide
  have e2 : (2 : Int64).toInt = 2 := by decide
  by_cases h1 : 0 ≤ a.toInt ∧ a.toInt ≤ 3
  · exact si_2 (vin_t (by rw [e64_0, Int32.toInt_toInt64]; omega) (by rw [e3, Int32.toInt_toInt64]; omega)) (by decide) (vin_f (by rw [e64_0, e2, Int32.toInt_toInt64]; omega)) (by decide)
  · exact si_1 (vin_f (by rw [e64_0, e3, Int32.toInt_toInt64]; omega)) (by decide)
/-- what a cell of a lane keeps -/
def sh_cv (la v : Int32) : Int32 := if la = 0 then v.toInt8.toInt32 else if la = 1 then v.toInt16.toInt32 else v
theorem kz_eq (x : Int32) : ex_c0 .eq x = decide (x.toInt = 0) := by
  rw [k0_k2, kc_eq]
  rfl
theorem kz_ne (x : Int32) : ex_c0 .ne x = decide (¬ x.toInt = 0) := by
  rw [k0_k2, kc_ne]
  rfl
theorem kz_ge (x : Int32) : ex_c0 .ge x = decide (0 ≤ x.toInt) := by
  rw [k0_k2, kc_ge]
  rfl
theorem sh_m1 : (Int32.ofInt (-1) : Int32).toInt = -1 := by decide
theorem sh_m4 : ((Int8.ofInt (-4)).toInt32).toInt = -4 := by decide
theorem sh_ix {i : Int32} {n : Nat} (h0 : 0 ≤ i.toInt) (h1 : i.toInt < n) : ex_ix i n = true := (ai_ixN h0 h1).1
/-- a sheet's cell is written -/
theorem sh_put {p c : Nat} {i v la le : Int32} {fs : List Value} {lc : List Int32} (hp : ex_at w p = some (.inr (.inr (4, fs)))) (f0 : ex_at fs 0 = some (.ref c)) (f1 : ex_at fs 1 = some (.int la)) (f2 : ex_at fs 2 = some (.int le)) (hc : ex_at w c = some (.inl (.int, lc))) (hn : Nat.beq c p = false) (ll : lc.length = 40) (a1 : 0 ≤ la.toInt) (a2 : la.toInt ≤ 2) (l4 : le.toInt ≤ 40) (i0 : 0 ≤ i.toInt) (i1 : i.toInt < le.toInt) : Go X d mt_149 (ex_ent mt_149 [.ref p, .int i, .int v]) w (none, ex_put w c (.inl (.int, ex_put lc i.toNatClampNeg (sh_cv la v)))) := by
  have b1 : ex_c0 .lt i = false := by rw [kz_lt]; exact decide_eq_false (by omega)
  have b2 : ex_c2 .ge i le = false := by rw [kc_ge]; exact decide_eq_false (by omega)
  have e40 : (40 : Int32).toInt = 40 := by decide
  have e1 : (1 : Int32).toInt = 1 := by decide
  have b3 : ex_c2 .lt i 40 = true := by rw [kc_lt, e40]; exact decide_eq_true (by omega)
  have ix : ex_ix i lc.length = true := sh_ix i0 (by omega)
  unfold sh_cv
  by_cases h0 : la = 0
  · rw [if_pos h0]
    exact sp_0 ix hp f0 f1 f2 hc b1 b2 b3 (by rw [h0]; decide) hn
  · have h0' : ¬ la.toInt = 0 := fun q => h0 (Int32.toInt_inj.mp q)
    rw [if_neg h0]
    by_cases h1 : la = 1
    · rw [if_pos h1]
      exact sp_1 ix hp f0 f1 f2 hc b1 b2 b3 (by rw [kz_ne]; exact decide_eq_true h0') (by rw [h1]; decide) hn
    · have h1' : ¬ la.toInt = 1 := fun q => h1 (Int32.toInt_inj.mp q)
      rw [if_neg h1]
      exact sp_2 ix hp f0 f1 f2 hc b1 b2 b3 (by rw [kz_ne]; exact decide_eq_true h0') (by rw [kc_ne, e1]; exact decide_eq_true h1') hn
/-- Arrays.fill -/
theorem sh_fill {c : Nat} {x : Int32} {n : Nat} (hn : n < 2 ^ 31) : ∀ (f i : Nat) (w : ex_W) (l : List Int32), n - i ≤ f → i ≤ n → l.length = n → ex_at w c = some (.inl (.int, l)) → ∃ l', l'.length = n ∧ (∀ j, j < n → l'.getD j 0 = if i ≤ j then x else l.getD j 0) ∧ Go X d mt_162 (5, [some (.ref c), some (.int x), some (.int (nI i)), some (.int (nI n))], []) w (none, ex_put w c (.inl (.int, l'))) := by
  intro f
  induction f with
  | zero =>
    intro i w l hf hi hl hc
    refine ⟨l, hl, fun j hj => by rw [if_neg (by omega)], ?_⟩
    rw [fp_put_id hc]
    exact sg_2 (by rw [kc_ge, nI_toInt (by omega), nI_toInt (by omega)]; exact decide_eq_true (by omega))
  | succ f ih =>
    intro i w l hf hi hl hc
    by_cases hin : n ≤ i
    · refine ⟨l, hl, fun j hj => by rw [if_neg (by omega)], ?_⟩
      rw [fp_put_id hc]
      exact sg_2 (by rw [kc_ge, nI_toInt (by omega), nI_toInt (by omega)]; exact decide_eq_true (by omega))
    · obtain ⟨l', g1, g2, g3⟩ := ih (i + 1) (ex_put w c (.inl (.int, ex_put l (nI i).toNatClampNeg x))) (ex_put l (nI i).toNatClampNeg x) (by omega) (by omega) (by rw [ex_put_eq, List.length_set]; exact hl) (vg_at_put hc)
      rw [fp_put2, nI_succ] at g3
      refine ⟨l', g1, fun j hj => ?_, sg_1 (by rw [hl]; exact fp_ix (by omega) hn) hc (by rw [kc_ge, nI_toInt (by omega), nI_toInt (by omega)]; exact decide_eq_false (by omega)) g3⟩
      rw [g2 j hj]
      by_cases h1 : i + 1 ≤ j
      · rw [if_pos h1, if_pos (by omega)]
      · rw [if_neg h1, nI_clamp (by omega), ex_put_eq, List.getD_eq_getElem?_getD, List.getElem?_set]
        by_cases h2 : i = j
        · rw [if_pos h2, if_pos (by omega), if_pos (by omega)]
          rfl
        · rw [if_neg h2, if_neg (by omega), List.getD_eq_getElem?_getD]
theorem sh_fill0 {c : Nat} {x : Int32} {l : List Int32} (hl : l.length < 2 ^ 31) (hc : ex_at w c = some (.inl (.int, l))) : ∃ l', l'.length = l.length ∧ (∀ j, j < l.length → l'.getD j 0 = x) ∧ Go X d mt_162 (ex_ent mt_162 [.ref c, .int x]) w (none, ex_put w c (.inl (.int, l'))) := by
  obtain ⟨l', g1, g2, g3⟩ := sh_fill (X := X) (d := d) (c := c) (x := x) hl l.length 0 w l (by omega) (by omega) rfl hc
  exact ⟨l', g1, fun j hj => by rw [g2 j hj, if_pos (by omega)], sg_0 hc g3⟩
/-- a sheet is new -/
theorem sh_new {p c : Nat} {x n la le : Int32} {fs : List Value} {lc : List Int32} (hp : ex_at w p = some (.inr (.inr (4, fs)))) (f0 : ex_at fs 0 = some (.ref c)) (f1 : ex_at fs 1 = some (.int la)) (f2 : ex_at fs 2 = some (.int le)) (hc : ex_at w c = some (.inl (.int, lc))) (hn : Nat.beq p c = false) (ll : lc.length = 40) (n0 : 0 ≤ n.toInt) (n4 : n.toInt ≤ 40) : ∃ l', l'.length = 40 ∧ (∀ j, j < 40 → l'.getD j 0 = 0) ∧ Go X (d + 1) mt_146 (ex_ent mt_146 [.ref p, .int x, .int n]) w (none, ex_put (ex_put w p (.inr (.inr (4, ex_put (ex_put fs 1 (.int x)) 2 (.int n))))) c (.inl (.int, l'))) := by
  have hc2 : ex_at (ex_put w p (.inr (.inr (4, ex_put (ex_put fs 1 (.int x)) 2 (.int n))))) c = some (.inl (.int, lc)) := vg_at_o hn hc
  obtain ⟨l', g1, g2, g3⟩ := sh_fill0 (X := X) (d := d) (x := 0) (by omega) hc2
  rw [ll] at g1 g2
  refine ⟨l', g1, g2, sm_1 hp f0 f1 f2 ?_ ?_ ?_⟩
  · have e40 : (40 : Int32).toInt = 40 := by decide
    rw [if_neg (fun q => by have := Int32.lt_iff_toInt_lt.mp q; omega)]
  · by_cases h : (0 : Int32) < n
    · rw [if_pos h]
    · rw [if_neg h]
      apply Int32.toInt_inj.mp
      have e0 : (0 : Int32).toInt = 0 := by decide
      have : ¬ (0 : Int32).toInt < n.toInt := fun q => h (Int32.lt_iff_toInt_lt.mpr q)
      omega
  · rw [fp_put2]
    exact g3
/-- sheet k of both -/
def sh_R (w : ex_W) (k : Nat) : Prop := ∃ (fs : List Value) (lc L73 L74 L75 : List Int32) (la le : Int32), ex_at w (51 + 2 * k) = some (.inr (.inr (4, fs))) ∧ ex_at fs 0 = some (.ref (52 + 2 * k)) ∧ ex_at fs 1 = some (.int la) ∧ ex_at fs 2 = some (.int le) ∧ ex_at w (52 + 2 * k) = some (.inl (.int, lc)) ∧ ex_at w 73 = some (.inl (.int, L73)) ∧ ex_at w 74 = some (.inl (.int, L74)) ∧ ex_at w 75 = some (.inl (.int, L75)) ∧ lc.length = 40 ∧ L73.length = 4 ∧ L74.length = 4 ∧ L75.length = 160 ∧ ((la.toInt = -1 ∧ (L73.getD k 0).toInt = -4) ∨ (0 ≤ la.toInt ∧ la.toInt ≤ 2 ∧ 0 ≤ le.toInt ∧ le.toInt ≤ 40 ∧ L73.getD k 0 = la ∧ L74.getD k 0 = le ∧ ∀ j, j < le.toInt.toNat → lc.getD j 0 = L75.getD (40 * k + j) 0))
theorem sh_R.same {w' : ex_W} {k : Nat} (h : sh_R w k) (e1 : ex_at w' (51 + 2 * k) = ex_at w (51 + 2 * k)) (e2 : ex_at w' (52 + 2 * k) = ex_at w (52 + 2 * k)) (e3 : ex_at w' 73 = ex_at w 73) (e4 : ex_at w' 74 = ex_at w 74) (e5 : ex_at w' 75 = ex_at w 75) : sh_R w' k := by
  obtain ⟨fs, lc, L73, L74, L75, la, le, h1, h2, h3, h4, h5, h6, h7, h8, h9⟩ := h
  exact ⟨fs, lc, L73, L74, L75, la, le, e1.trans h1, h2, h3, h4, e2.trans h5, e3.trans h6, e4.trans h7, e5.trans h8, h9⟩
/-- what stands around the sheets -/
def sh_C (w : ex_W) : Prop := ∃ fs0 fs59, ex_at w 0 = some (.inr (.inr (7, fs0))) ∧ ex_at fs0 7 = some (.ref 50) ∧ ex_at w 50 = some (.inr (.inl (4, [some 51, some 53, some 55, some 57]))) ∧ ex_at w 59 = some (.inr (.inr (8, fs59))) ∧ ex_at fs59 30 = some (.ref 73) ∧ ex_at fs59 31 = some (.ref 74) ∧ ex_at fs59 32 = some (.ref 75)
theorem sh_q {k : Nat} (h : k < 4) : ex_ix (nI k) ([some 51, some 53, some 55, some 57] : List (Option Nat)).length = true ∧ ex_at ([some 51, some 53, some 55, some 57] : List (Option Nat)) (nI k).toNatClampNeg = some (some (51 + 2 * k)) := by
  refine ⟨fp_ix (by show k < 4; exact h) (by show 4 < 2 ^ 31; decide), ?_⟩
  rw [nI_clamp (by omega)]
  match k, h with
  | 0, _ => rfl
  | 1, _ => rfl
  | 2, _ => rfl
  | 3, _ => rfl
theorem sh_kk {k : Int32} (h0 : 0 ≤ k.toInt) (h1 : k.toInt ≤ 3) : ∃ j : Nat, j < 4 ∧ k = nI j := ⟨k.toInt.toNat, by omega, by
  apply Int32.toInt_inj.mp
  rw [nI_toInt (by omega)]
  omega⟩
theorem sh_beq {a b : Nat} (h : a ≠ b) : Nat.beq a b = false := by
  cases h2 : Nat.beq a b with
  | false => rfl
  | true => exact absurd (Nat.eq_of_beq_eq_true h2) h
theorem sh_getD_put {l : List Int32} {a b : Nat} {x : Int32} (h : a < l.length) : (ex_put l a x).getD b 0 = if a = b then x else l.getD b 0 := by
  rw [ex_put_eq, List.getD_eq_getElem?_getD, List.getElem?_set]
  by_cases h2 : a = b
  · rw [if_pos h2, if_pos h, if_pos h2]
    rfl
  · rw [if_neg h2, if_neg h2, List.getD_eq_getElem?_getD]
/-- lay of both -/
theorem sh_lay {k i v : Int32} (C : sh_C w) (R : ∀ j, j < 4 → sh_R w j) : ∃ (r : Int32) (wx wm : ex_W), Go X (d + 2) mt_75 (ex_ent mt_75 [.ref 0, .int k, .int i, .int v]) w (some (.int r), wx) ∧ Go X (d + 2) mt_76 (ex_ent mt_76 [.ref 59, .int k, .int i, .int v]) wx (some (.int r), wm) ∧ ∀ j, j < 4 → sh_R wm j := by
  obtain ⟨fs0, fs59, h0, f07, h50, h59, f30, f31, f32⟩ := C
  have e4 : (4 : Int32).toInt = 4 := by decide
  by_cases hk : 0 ≤ k.toInt ∧ k.toInt ≤ 3
  · obtain ⟨kk, hkk, rfl⟩ := sh_kk hk.1 hk.2
    have ek : (nI kk).toInt = (kk : Int) := nI_toInt (by omega)
    obtain ⟨q1, q2⟩ := sh_q hkk
    have b1 : ex_c0 .lt (nI kk) = false := by rw [kz_lt]; exact decide_eq_false (by omega)
    have b2 : ex_c2 .lt (nI kk) 4 = true := by rw [kc_lt, e4]; exact decide_eq_true (by omega)
    obtain ⟨fs, lc, L73, L74, L75, la, le, h1, h2, h3, h4, h5, h6, h7, h8, n1, n2, n3, n4, hR⟩ := R kk hkk
    have i3 : ex_ix (nI kk) L73.length = true := by rw [n2]; exact fp_ix hkk (by decide)
    have i4 : ex_ix (nI kk) L74.length = true := by rw [n3]; exact fp_ix hkk (by decide)
    have g73 : ex_gd L73 (nI kk).toNatClampNeg = L73.getD kk 0 := fp_gd (by omega)
    have g74 : ex_gd L74 (nI kk).toNatClampNeg = L74.getD kk 0 := fp_gd (by omega)
    have is : Go X (d + 1) mt_147 (ex_ent mt_147 [.int (nI kk), .int 0]) w (some (.int 1), w) := vis_t ⟨hk.1, hk.2, by decide, by decide⟩
    rcases hR with ⟨hR1, hR2⟩ | ⟨a1, a2, l0, l4, r73, r74, rc⟩
    · refine ⟨(Int8.ofInt (-10)).toInt32 - 1, w, w, sl_c3 q1 q2 h0 f07 h50 h1 b1 b2 (sf_1 h1 h3 (by rw [kc_ne, sh_m1]; exact decide_eq_false (fun q => q hR1))) (by decide), ?_, R⟩
      have e : ((Int8.ofInt (-10)).toInt32 - 1 : Int32) = (Int8.ofInt (-11)).toInt32 := by decide
      rw [e]
      exact sl_m2 i3 h59 f30 h6 is (by decide) (by rw [g73, kc_ne, sh_m4]; exact decide_eq_false (fun q => q hR2))
    · have c1 : ex_c2 .ne la (Int32.ofInt (-1)) = true := by rw [kc_ne, sh_m1]; exact decide_eq_true (by omega)
      have c2 : ex_c2 .ne (ex_gd L73 (nI kk).toNatClampNeg) ((Int8.ofInt (-4)).toInt32) = true := by rw [g73, r73, kc_ne, sh_m4]; exact decide_eq_true (by omega)
      have e1 : (1 : Int32).toInt = 1 := by decide
      have es : (ex_gd L74 (nI kk).toNatClampNeg - 1).toInt = le.toInt - 1 := by
        rw [g74, r74]
        have h9 := (ai_wrapI (Int32.toInt_sub le 1)).2 ⟨by show (-2147483648 : Int) ≤ _; rw [e1]; omega, by show _ ≤ (2147483647 : Int); rw [e1]; omega⟩
        rw [h9, e1]
      by_cases hi : 0 ≤ i.toInt ∧ i.toInt < le.toInt
      · have hin : Go X (d + 1) mt_93 (ex_ent mt_93 [.long (i).toInt64, .long 0, .long (((ex_gd L74 (nI kk).toNatClampNeg) - 1)).toInt64]) (ex_put w (52 + 2 * kk) (.inl (.int, ex_put lc i.toNatClampNeg (sh_cv la v)))) (some (.int 1), (ex_put w (52 + 2 * kk) (.inl (.int, ex_put lc i.toNatClampNeg (sh_cv la v))))) := vin_t (by rw [e64_0, Int32.toInt_toInt64]; omega) (by rw [Int32.toInt_toInt64, Int32.toInt_toInt64, es]; omega)
        have is2 : Go X (d + 1) mt_147 (ex_ent mt_147 [.int (nI kk), .int 0]) (ex_put w (52 + 2 * kk) (.inl (.int, ex_put lc i.toNatClampNeg (sh_cv la v)))) (some (.int 1), (ex_put w (52 + 2 * kk) (.inl (.int, ex_put lc i.toNatClampNeg (sh_cv la v))))) := vis_t ⟨hk.1, hk.2, by decide, by decide⟩
        have ei : i = nI i.toInt.toNat := by
          apply Int32.toInt_inj.mp
          rw [nI_toInt (by omega)]
          omega
        have e40 : (40 * nI kk + i : Int32) = nI (40 * kk + i.toInt.toNat) := by
          rw [← nI_add, ← ei]
          congr 1
          match kk, hkk with
          | 0, _ => decide
          | 1, _ => decide
          | 2, _ => decide
          | 3, _ => decide
        have i5 : ex_ix (40 * nI kk + i) L75.length = true := by rw [e40, n4]; exact fp_ix (by omega) (by decide)
        have gc : Go X (d + 2) mt_75 (ex_ent mt_75 [.ref 0, .int (nI kk), .int i, .int v]) w (some (.int 1), ex_put w (52 + 2 * kk) (.inl (.int, ex_put lc i.toNatClampNeg (sh_cv la v)))) := sl_c4 q1 q2 h0 f07 h50 h1 b1 b2 (sf_4 h1 h3 h4 c1 (by rw [kz_lt]; exact decide_eq_false (by omega)) (by rw [kc_lt]; exact decide_eq_true hi.2)) (by decide) (sh_put h1 h2 h3 h4 h5 (sh_beq (by omega)) n1 a1 a2 l4 hi.1 hi.2)
        have hm : Go X (d + 2) mt_76 (ex_ent mt_76 [.ref 59, .int (nI kk), .int i, .int v]) (ex_put w (52 + 2 * kk) (.inl (.int, ex_put lc i.toNatClampNeg (sh_cv la v)))) (some (.int 1), ex_put (ex_put w (52 + 2 * kk) (.inl (.int, ex_put lc i.toNatClampNeg (sh_cv la v)))) 75 (.inl (.int, ex_put L75 (40 * nI kk + i).toNatClampNeg (sh_cv la v)))) := by
          have g59 := vg_at_o (x := .inl (.int, ex_put lc i.toNatClampNeg (sh_cv la v))) (sh_beq (a := 52 + 2 * kk) (b := 59) (by omega)) h59
          have g73' := vg_at_o (x := .inl (.int, ex_put lc i.toNatClampNeg (sh_cv la v))) (sh_beq (a := 52 + 2 * kk) (b := 73) (by omega)) h6
          have g74' := vg_at_o (x := .inl (.int, ex_put lc i.toNatClampNeg (sh_cv la v))) (sh_beq (a := 52 + 2 * kk) (b := 74) (by omega)) h7
          have g75' := vg_at_o (x := .inl (.int, ex_put lc i.toNatClampNeg (sh_cv la v))) (sh_beq (a := 52 + 2 * kk) (b := 75) (by omega)) h8
          have z0 : ∀ q : Prop, (¬ la = 0 → q) → la = 0 ∨ q := fun q h => by
            by_cases hq : la = 0
            · exact Or.inl hq
            · exact Or.inr (h hq)
          unfold sh_cv at g59 g73' g74' g75' hin is2 ⊢
          by_cases h00 : la = 0
          · rw [if_pos h00] at g59 g73' g74' g75' hin is2 ⊢
            exact sl_m4 i3 i4 i5 g59 f30 f31 f32 g73' g74' g75' is2 (by decide) c2 hin (by decide) (by rw [g73, r73, h00]; decide)
          · have h00' : ¬ la.toInt = 0 := fun q => h00 (Int32.toInt_inj.mp q)
            rw [if_neg h00] at g59 g73' g74' g75' hin is2 ⊢
            by_cases h01 : la = 1
            · rw [if_pos h01] at g59 g73' g74' g75' hin is2 ⊢
              exact sl_m5 i3 i4 i5 g59 f30 f31 f32 g73' g74' g75' is2 (by decide) c2 hin (by decide) (by rw [g73, r73, kz_ne]; exact decide_eq_true h00') (by rw [g73, r73, h01]; decide)
            · have h01' : ¬ la.toInt = 1 := fun q => h01 (Int32.toInt_inj.mp q)
              rw [if_neg h01] at g59 g73' g74' g75' hin is2 ⊢
              exact sl_m6 i3 i4 i5 g59 f30 f31 f32 g73' g74' g75' is2 (by decide) c2 hin (by decide) (by rw [g73, r73, kz_ne]; exact decide_eq_true h00') (by rw [g73, r73, kc_ne, e1]; exact decide_eq_true h01')
        refine ⟨1, _, _, gc, hm, fun j hj => ?_⟩
        have n75 : 40 * kk + i.toInt.toNat < L75.length := by omega
        have nlc : i.toInt.toNat < lc.length := by omega
        have ec : i.toNatClampNeg = i.toInt.toNat := rfl
        have ec2 : (40 * nI kk + i).toNatClampNeg = 40 * kk + i.toInt.toNat := by rw [e40, nI_clamp (by omega)]
        rw [ec, ec2]
        by_cases hjk : j = kk
        · subst hjk
          refine ⟨fs, ex_put lc i.toInt.toNat (sh_cv la v), L73, L74, ex_put L75 (40 * j + i.toInt.toNat) (sh_cv la v), la, le, ?_, h2, h3, h4, ?_, ?_, ?_, ?_, by rw [ex_put_eq, List.length_set]; exact n1, n2, n3, by rw [ex_put_eq, List.length_set]; exact n4, Or.inr ⟨a1, a2, l0, l4, r73, r74, fun m hm => ?_⟩⟩
          · exact vg_at_o (sh_beq (by omega)) (vg_at_o (sh_beq (by omega)) h1)
          · exact vg_at_o (sh_beq (by omega)) (vg_at_put h5)
          · exact vg_at_o (by decide) (vg_at_o (sh_beq (by omega)) h6)
          · exact vg_at_o (by decide) (vg_at_o (sh_beq (by omega)) h7)
          · exact vg_at_put (vg_at_o (sh_beq (by omega)) h8)
          · rw [sh_getD_put nlc, sh_getD_put n75]
            by_cases hm2 : i.toInt.toNat = m
            · rw [if_pos hm2, if_pos (by omega)]
            · rw [if_neg hm2, if_neg (by omega)]
              exact rc m hm
        · obtain ⟨fs', lc', M73, M74, M75, la', le', k1, k2, k3, k4, k5, k6, k7, k8, m1, m2, m3, m4, kR⟩ := R j hj
          cases (show some (.inl (.int, L73)) = some (Sum.inl (FieldType.int, M73)) from h6.symm.trans k6)
          cases (show some (.inl (.int, L74)) = some (Sum.inl (FieldType.int, M74)) from h7.symm.trans k7)
          cases (show some (.inl (.int, L75)) = some (Sum.inl (FieldType.int, M75)) from h8.symm.trans k8)
          refine ⟨fs', lc', L73, L74, ex_put L75 (40 * kk + i.toInt.toNat) (sh_cv la v), la', le', ?_, k2, k3, k4, ?_, ?_, ?_, ?_, m1, m2, m3, by rw [ex_put_eq, List.length_set]; exact m4, ?_⟩
          · exact vg_at_o (sh_beq (by omega)) (vg_at_o (sh_beq (by omega)) k1)
          · exact vg_at_o (sh_beq (by omega)) (vg_at_o (sh_beq (by omega)) k5)
          · exact vg_at_o (by decide) (vg_at_o (sh_beq (by omega)) h6)
          · exact vg_at_o (by decide) (vg_at_o (sh_beq (by omega)) h7)
          · exact vg_at_put (vg_at_o (sh_beq (by omega)) h8)
          · rcases kR with kR | ⟨b1', b2', b3', b4', b5', b6', b7'⟩
            · exact Or.inl kR
            · refine Or.inr ⟨b1', b2', b3', b4', b5', b6', fun m hm => ?_⟩
              rw [sh_getD_put n75, if_neg (by omega)]
              exact b7' m hm
      · refine ⟨(Int8.ofInt (-10)).toInt32 - 2, w, w, ?_, ?_, R⟩
        · by_cases hi0 : i.toInt < 0
          · exact sl_c3 q1 q2 h0 f07 h50 h1 b1 b2 (sf_2 h1 h3 c1 (by rw [kz_lt]; exact decide_eq_true hi0)) (by decide)
          · exact sl_c3 q1 q2 h0 f07 h50 h1 b1 b2 (sf_3 h1 h3 h4 c1 (by rw [kz_lt]; exact decide_eq_false hi0) (by rw [kc_lt]; exact decide_eq_false (by omega))) (by decide)
        · have e : ((Int8.ofInt (-10)).toInt32 - 2 : Int32) = (Int8.ofInt (-12)).toInt32 := by decide
          rw [e]
          exact sl_m3 i3 i4 h59 f30 f31 h6 h7 is (by decide) c2 (vin_f (by rw [e64_0, Int32.toInt_toInt64, Int32.toInt_toInt64, es]; omega)) (by decide)
  · refine ⟨Int32.ofInt (-1), w, w, ?_, sl_m1 (vis_f (by omega)) (by decide), R⟩
    by_cases hk0 : k.toInt < 0
    · exact sl_c1 (by rw [kz_lt]; exact decide_eq_true hk0)
    · exact sl_c2 (by rw [kz_lt]; exact decide_eq_false hk0) (by rw [kc_lt, e4]; exact decide_eq_false (by omega))
theorem sh_40 {kk : Nat} (h : kk < 4) : (40 * nI kk : Int32) = nI (40 * kk) := by
  match kk, h with
  | 0, _ => decide
  | 1, _ => decide
  | 2, _ => decide
  | 3, _ => decide
theorem sh_loop {kk : Nat} {x n : Int32} {fs : List Value} (hkk : kk < 4) (f32 : ex_at fs 32 = some (.ref 75)) : ∀ (f i : Nat) (w : ex_W) (l : List Int32), 40 - i ≤ f → i ≤ 40 → l.length = 160 → ex_at w 59 = some (.inr (.inr (8, fs))) → ex_at w 75 = some (.inl (.int, l)) → ∃ l', l'.length = 160 ∧ (∀ j, l'.getD j 0 = if 40 * kk + i ≤ j ∧ j < 40 * kk + 40 then 0 else l.getD j 0) ∧ Go X d mt_74 (40, [some (.ref 59), some (.int (nI kk)), some (.int x), some (.int n), some (.int (nI i))], []) w (some (.int 1), ex_put w 75 (.inl (.int, l'))) := by
  have e40 : (40 : Int32).toInt = 40 := by decide
  intro f
  induction f with
  | zero =>
    intro i w l hf hi hl h59 h75
    refine ⟨l, hl, fun j => by rw [if_neg (by omega)], ?_⟩
    rw [fp_put_id h75]
    exact ss_m6 (by rw [kc_ge, e40, nI_toInt (by omega)]; exact decide_eq_true (by omega))
  | succ f ih =>
    intro i w l hf hi hl h59 h75
    by_cases hin : 40 ≤ i
    · refine ⟨l, hl, fun j => by rw [if_neg (by omega)], ?_⟩
      rw [fp_put_id h75]
      exact ss_m6 (by rw [kc_ge, e40, nI_toInt (by omega)]; exact decide_eq_true (by omega))
    · have ea : (40 * nI kk + nI i : Int32) = nI (40 * kk + i) := by rw [sh_40 hkk, nI_add]
      obtain ⟨l', g1, g2, g3⟩ := ih (i + 1) (ex_put w 75 (.inl (.int, ex_put l (40 * nI kk + nI i).toNatClampNeg 0))) (ex_put l (40 * nI kk + nI i).toNatClampNeg 0) (by omega) (by omega) (by rw [ex_put_eq, List.length_set]; exact hl) (vg_at_o rfl h59) (vg_at_put h75)
      rw [fp_put2, nI_succ] at g3
      refine ⟨l', g1, fun j => ?_, ss_m5 (by rw [ea, hl]; exact fp_ix (by omega) (by decide)) h59 f32 h75 (by rw [kc_ge, e40, nI_toInt (by omega)]; exact decide_eq_false (by omega)) g3⟩
      rw [g2 j, ea, nI_clamp (by omega), sh_getD_put (by omega)]
      by_cases h1 : 40 * kk + (i + 1) ≤ j ∧ j < 40 * kk + 40
      · rw [if_pos h1, if_pos (by omega)]
      · rw [if_neg h1]
        by_cases h2 : 40 * kk + i = j
        · rw [if_pos h2, if_pos (by omega)]
        · rw [if_neg h2, if_neg (by omega)]
/-- sheet of both -/
theorem sh_sheet {k x n : Int32} (C : sh_C w) (R : ∀ j, j < 4 → sh_R w j) : ∃ (r : Int32) (wx wm : ex_W), Go X (d + 2) mt_73 (ex_ent mt_73 [.ref 0, .int k, .int x, .int n]) w (some (.int r), wx) ∧ Go X (d + 2) mt_74 (ex_ent mt_74 [.ref 59, .int k, .int x, .int n]) wx (some (.int r), wm) ∧ ∀ j, j < 4 → sh_R wm j := by
  obtain ⟨fs0, fs59, h0, f07, h50, h59, f30, f31, f32⟩ := C
  have e4 : (4 : Int32).toInt = 4 := by decide
  have e2 : (2 : Int32).toInt = 2 := by decide
  have e40 : (40 : Int32).toInt = 40 := by decide
  by_cases hk0 : k.toInt < 0
  · exact ⟨Int32.ofInt (-1), w, w, ss_c1 (by rw [kz_lt]; exact decide_eq_true hk0), ss_m1 (vis_f (by omega)) (by decide), R⟩
  have b1 : ex_c0 .lt k = false := by rw [kz_lt]; exact decide_eq_false hk0
  by_cases hk1 : 4 ≤ k.toInt
  · exact ⟨Int32.ofInt (-1), w, w, ss_c2 b1 (by rw [kc_ge, e4]; exact decide_eq_true hk1), ss_m1 (vis_f (by omega)) (by decide), R⟩
  have b2 : ex_c2 .ge k 4 = false := by rw [kc_ge, e4]; exact decide_eq_false hk1
  by_cases hx0 : x.toInt < 0
  · exact ⟨Int32.ofInt (-1), w, w, ss_c3 b1 b2 (by rw [kz_lt]; exact decide_eq_true hx0), ss_m1 (vis_f (by omega)) (by decide), R⟩
  have b3 : ex_c0 .lt x = false := by rw [kz_lt]; exact decide_eq_false hx0
  by_cases hx2 : 2 < x.toInt
  · exact ⟨Int32.ofInt (-1), w, w, ss_c4 b1 b2 b3 (by rw [kc_gt, e2]; exact decide_eq_true hx2), ss_m1 (vis_f (by omega)) (by decide), R⟩
  have b4 : ex_c2 .gt x 2 = false := by rw [kc_gt, e2]; exact decide_eq_false hx2
  have is : ∀ u : ex_W, Go X (d + 1) mt_147 (ex_ent mt_147 [.int k, .int x]) u (some (.int 1), u) := fun u => vis_t (by omega)
  by_cases hn4 : n.toInt ≤ 40
  case neg =>
    exact ⟨Int32.ofInt (-1), w, w, ss_c5 b1 b2 b3 b4 (by rw [kc_le, e40]; exact decide_eq_false hn4), ss_m2 (is w) (by decide) (by rw [kc_le, e40]; exact decide_eq_false hn4), R⟩
  have b5 : ex_c2 .le n 40 = true := by rw [kc_le, e40]; exact decide_eq_true hn4
  by_cases hn0 : 0 ≤ n.toInt
  case neg =>
    exact ⟨(Int8.ofInt (-14)).toInt32, w, w, ss_c6 b1 b2 b3 b4 b5 (by rw [kz_ge]; exact decide_eq_false hn0), ss_m3 (is w) (by decide) b5 (by rw [kz_ge]; exact decide_eq_false hn0), R⟩
  have b6 : ex_c0 .ge n = true := by rw [kz_ge]; exact decide_eq_true hn0
  obtain ⟨kk, hkk, rfl⟩ := sh_kk (k := k) (by omega) (by omega)
  obtain ⟨q1, q2⟩ := sh_q hkk
  obtain ⟨fs, lc, L73, L74, L75, la, le, h1, h2, h3, h4, h5, h6, h7, h8, n1, n2, n3, n4, hR⟩ := R kk hkk
  have i3 : ex_ix (nI kk) L73.length = true := by rw [n2]; exact fp_ix hkk (by decide)
  have i4 : ex_ix (nI kk) L74.length = true := by rw [n3]; exact fp_ix hkk (by decide)
  obtain ⟨l', g1, g2, g3⟩ := sh_new (X := X) (d := d) (x := x) (n := n) h1 h2 h3 h4 h5 (sh_beq (by omega)) n1 hn0 hn4
  have gc := ss_c7 q1 q2 h0 f07 h50 h1 b1 b2 b3 b4 b5 b6 g3
  -- the reference, behind it
  generalize hw1 : ex_put (ex_put w (51 + 2 * kk) (.inr (.inr (4, ex_put (ex_put fs 1 (.int x)) 2 (.int n))))) (52 + 2 * kk) (.inl (.int, l')) = w1 at gc
  have at1 : ∀ p y, p ≠ 51 + 2 * kk → p ≠ 52 + 2 * kk → ex_at w p = some y → ex_at w1 p = some y := by
    intro p y hp1 hp2 hy
    rw [← hw1]
    exact vg_at_o (sh_beq (fun q => hp2 q.symm)) (vg_at_o (sh_beq (fun q => hp1 q.symm)) hy)
  have a59 := at1 59 _ (by omega) (by omega) h59
  have a73 := at1 73 _ (by omega) (by omega) h6
  have a74 := at1 74 _ (by omega) (by omega) h7
  have a75 := at1 75 _ (by omega) (by omega) h8
  obtain ⟨m', m1, m2, m3⟩ := sh_loop (X := X) (d := d + 2) (x := x) (n := n) hkk f32 40 0 (ex_put (ex_put w1 73 (.inl (.int, ex_put L73 (nI kk).toNatClampNeg x))) 74 (.inl (.int, ex_put L74 (nI kk).toNatClampNeg n))) L75 (by omega) (by omega) n4 (vg_at_o rfl (vg_at_o rfl a59)) (vg_at_o rfl (vg_at_o rfl a75))
  have hm : Go X (d + 2) mt_74 (ex_ent mt_74 [.ref 59, .int (nI kk), .int x, .int n]) w1 (some (.int 1), _) := ss_m4 i3 i4 a59 f30 f31 a73 a74 (is w1) (by decide) b5 b6 m3
  refine ⟨1, w1, _, gc, hm, fun j hj => ?_⟩
  rw [nI_clamp (by omega)]
  have v73 : ex_at (ex_put (ex_put (ex_put w1 73 (.inl (.int, ex_put L73 kk x))) 74 (.inl (.int, ex_put L74 kk n))) 75 (.inl (.int, m'))) 73 = some (.inl (.int, ex_put L73 kk x)) := vg_at_o rfl (vg_at_o rfl (vg_at_put a73))
  have v74 : ex_at (ex_put (ex_put (ex_put w1 73 (.inl (.int, ex_put L73 kk x))) 74 (.inl (.int, ex_put L74 kk n))) 75 (.inl (.int, m'))) 74 = some (.inl (.int, ex_put L74 kk n)) := vg_at_o rfl (vg_at_put (vg_at_o rfl a74))
  have v75 : ex_at (ex_put (ex_put (ex_put w1 73 (.inl (.int, ex_put L73 kk x))) 74 (.inl (.int, ex_put L74 kk n))) 75 (.inl (.int, m'))) 75 = some (.inl (.int, m')) := vg_at_put (vg_at_o rfl (vg_at_o rfl a75))
  have vo : ∀ p y, p ≠ 73 → p ≠ 74 → p ≠ 75 → ex_at w1 p = some y → ex_at (ex_put (ex_put (ex_put w1 73 (.inl (.int, ex_put L73 kk x))) 74 (.inl (.int, ex_put L74 kk n))) 75 (.inl (.int, m'))) p = some y := fun p y p1 p2 p3 hy => vg_at_o (sh_beq (fun q => p3 q.symm)) (vg_at_o (sh_beq (fun q => p2 q.symm)) (vg_at_o (sh_beq (fun q => p1 q.symm)) hy))
  have l73 : (ex_put L73 kk x).length = 4 := by rw [ex_put_eq, List.length_set]; exact n2
  have l74 : (ex_put L74 kk n).length = 4 := by rw [ex_put_eq, List.length_set]; exact n3
  by_cases hjk : j = kk
  · subst hjk
    refine ⟨ex_put (ex_put fs 1 (.int x)) 2 (.int n), l', ex_put L73 j x, ex_put L74 j n, m', x, n, vo _ _ (by omega) (by omega) (by omega) ?_, vg_at_o rfl (vg_at_o rfl h2), vg_at_o rfl (vg_at_put h3), vg_at_put (vg_at_o rfl h4), vo _ _ (by omega) (by omega) (by omega) ?_, v73, v74, v75, g1, l73, l74, m1, Or.inr ⟨by omega, by omega, hn0, hn4, ?_, ?_, fun m hm2 => ?_⟩⟩
    · rw [← hw1]
      exact vg_at_o (sh_beq (by omega)) (vg_at_put h1)
    · rw [← hw1]
      exact vg_at_put (vg_at_o (sh_beq (by omega)) h5)
    · rw [sh_getD_put (by omega), if_pos rfl]
    · rw [sh_getD_put (by omega), if_pos rfl]
    · rw [g2 m (by omega), m2, if_pos (by omega)]
  · obtain ⟨fs', lc', M73, M74, M75, la', le', k1, k2, k3, k4, k5, k6, k7, k8, y1, y2, y3, y4, kR⟩ := R j hj
    cases (show some (.inl (.int, L73)) = some (Sum.inl (FieldType.int, M73)) from h6.symm.trans k6)
    cases (show some (.inl (.int, L74)) = some (Sum.inl (FieldType.int, M74)) from h7.symm.trans k7)
    cases (show some (.inl (.int, L75)) = some (Sum.inl (FieldType.int, M75)) from h8.symm.trans k8)
    refine ⟨fs', lc', ex_put L73 kk x, ex_put L74 kk n, m', la', le', vo _ _ (by omega) (by omega) (by omega) (at1 _ _ (by omega) (by omega) k1), k2, k3, k4, vo _ _ (by omega) (by omega) (by omega) (at1 _ _ (by omega) (by omega) k5), v73, v74, v75, y1, l73, l74, m1, ?_⟩
    rw [sh_getD_put (by omega), sh_getD_put (by omega), if_neg (fun q => hjk q.symm), if_neg (fun q => hjk q.symm)]
    rcases kR with kR | ⟨c1, c2, c3, c4, c5, c6, c7⟩
    · exact Or.inl kR
    · refine Or.inr ⟨c1, c2, c3, c4, c5, c6, fun m hm2 => ?_⟩
      rw [c7 m hm2, m2, if_neg (by omega)]
end SH

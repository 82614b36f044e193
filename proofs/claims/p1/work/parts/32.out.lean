/-! SINGLE METHODS ON THE FRESH OBJECTS, numbers out of their bounds: written by wip/symgen.py. -/
theorem c2_eq (x y : Int32) : ex_c2 .eq x y = decide (x.toInt = y.toInt) := by
  unfold ex_c2
  simp only [Int32.toInt_inj]
theorem c2_ne (x y : Int32) : ex_c2 .ne x y = decide (¬ x.toInt = y.toInt) := by
  unfold ex_c2
  simp only [Int32.toInt_inj]
theorem c2_lt (x y : Int32) : ex_c2 .lt x y = decide (x.toInt < y.toInt) := by
  unfold ex_c2
  simp only [Int32.lt_iff_toInt_lt]
theorem c2_ge (x y : Int32) : ex_c2 .ge x y = decide (y.toInt ≤ x.toInt) := by
  unfold ex_c2
  simp only [Int32.le_iff_toInt_le]
theorem c2_gt (x y : Int32) : ex_c2 .gt x y = decide (y.toInt < x.toInt) := by
  unfold ex_c2
  simp only [Int32.lt_iff_toInt_lt]
theorem c2_le (x y : Int32) : ex_c2 .le x y = decide (x.toInt ≤ y.toInt) := by
  unfold ex_c2
  simp only [Int32.le_iff_toInt_le]
theorem c0_c2 (c : Jvm.ClassFile.Cond) (x : Int32) : ex_c0 c x = ex_c2 c x 0 := by cases c <;> rfl
theorem c0_eq (x : Int32) : ex_c0 .eq x = decide (x.toInt = 0) := by rw [c0_c2, c2_eq]; rfl
theorem c0_ne (x : Int32) : ex_c0 .ne x = decide (¬ x.toInt = 0) := by rw [c0_c2, c2_ne]; rfl
theorem c0_lt (x : Int32) : ex_c0 .lt x = decide (x.toInt < 0) := by rw [c0_c2, c2_lt]; rfl
theorem c0_ge (x : Int32) : ex_c0 .ge x = decide (0 ≤ x.toInt) := by rw [c0_c2, c2_ge]; rfl
theorem c0_gt (x : Int32) : ex_c0 .gt x = decide (0 < x.toInt) := by rw [c0_c2, c2_gt]; rfl
theorem c0_le (x : Int32) : ex_c0 .le x = decide (x.toInt ≤ 0) := by rw [c0_c2, c2_le]; rfl
theorem cl_lt (x y : Int64) : ex_c0 .lt (lg_cmp x y) = decide (x.toInt < y.toInt) := by
  unfold lg_cmp
  simp only [Int64.lt_iff_toInt_lt, ← Int64.toInt_inj]
  rcases Int.lt_trichotomy x.toInt y.toInt with h | h | h
  · rw [if_neg (by omega), if_neg (by omega), decide_eq_true h]; decide
  · rw [if_neg (by omega), if_pos h, decide_eq_false (by omega)]; decide
  · rw [if_pos h, decide_eq_false (by omega)]; decide
theorem cl_gt (x y : Int64) : ex_c0 .gt (lg_cmp x y) = decide (y.toInt < x.toInt) := by
  unfold lg_cmp
  simp only [Int64.lt_iff_toInt_lt, ← Int64.toInt_inj]
  rcases Int.lt_trichotomy x.toInt y.toInt with h | h | h
  · rw [if_neg (by omega), if_neg (by omega), decide_eq_false (by omega)]; decide
  · rw [if_neg (by omega), if_pos h, decide_eq_false (by omega)]; decide
  · rw [if_pos h, decide_eq_true h]; decide
theorem ex_tsw_o {d lw hi : Int} {offs : Array Int} {pc : Nat} {lo : ex_L} {x : Int32} {r : List Value} {w : ex_W} (h : x.toInt < lw ∨ hi < x.toInt) (h0 : 0 ≤ (pc : Int) + d) : ex_tsw d lw hi offs pc lo (.int x :: r) w = some (.inl ((ex_tg pc d, lo, r), w)) := by
  unfold ex_tsw ex_jp
  simp [h, h0, ex_go]
/-- class and reference answer alike -/
def A2 (jx jm : ex_M) (as : List Value) : Prop := ∃ (v : Int32) (wx wm : ex_W) (fs : List Value), Go [] 39 jx (ex_ent jx (.ref 0 :: as)) fr_w (some (.int v), wx) ∧ ex_at wx 59 = some (.inr (.inr (8, fs))) ∧ Go [] 39 jm (ex_ent jm (.ref 59 :: as)) wx (some (.int v), wm)
noncomputable def ck2 (jx jm : ex_M) (n : Nat) (as : List Value) : Bool := match ex_run [] n 39 jx (ex_ent jx (.ref 0 :: as)) fr_w with
  | some (some (.int v), w1) => match ex_at w1 59 with
    | some (.inr (.inr (8, _))) => match ex_run [] n 39 jm (ex_ent jm (.ref 59 :: as)) w1 with
      | some (some (.int v2), _) => decide (v = v2)
      | _ => false
    | _ => false
  | _ => false
theorem ck2_of {jx jm : ex_M} {n : Nat} {as : List Value} (h : ck2 jx jm n as = true) : A2 jx jm as := by
  unfold ck2 at h
  split at h
  · next v w1 h1 =>
    split at h
    · next fs h2 =>
      split at h
      · next v2 w2 h3 =>
        obtain rfl : v = v2 := of_decide_eq_true h
        exact ⟨v, w1, w2, fs, Go.of h1, h2, Go.of h3⟩
      · cases h
    · cases h
  · cases h
def wq_0 : ex_W := [.inr (.inr (7, [.ref 15, .ref 17, .ref 21, .ref 26, .ref 32, .ref 35, .ref 34, .ref 50, .ref 33, .ref 1, .ref 8, .int 0, .int 0, .int 0])), .inr (.inr (6, [.ref 2, .ref 3, .ref 4, .ref 5, .ref 6, .ref 7, .int 12, .int 2, .int 0, .int 0, .int 0, .int 0, .int 0, .int 0])), .inl (.int, [1, 1, 1, 1]), .inl (.int, [(-4), (-4), (-4), (-4), (-4), (-4), (-4), (-4), (-4), (-4), (-4), (-4), (-4), (-4), (-4), (-4), (-4)]), .inl (.int, List.replicate 60 0), .inl (.int, [0, 0, 0, 0, 0]), .inl (.int, [0, 0, 0, 0]), .inl (.int, [0, 0, 0, 0]), .inr (.inr (6, [.ref 9, .ref 10, .ref 11, .ref 12, .ref 13, .ref 14, .int 12, .int 2, .int 0, .int 0, .int 0, .int 0, .int 0, .int 0])), .inl (.int, [1, 1, 1, 1]), .inl (.int, [(-4), (-4), (-4), (-4), (-4), (-4), (-4), (-4), (-4), (-4), (-4), (-4), (-4), (-4), (-4), (-4), (-4)]), .inl (.int, List.replicate 60 0), .inl (.int, [0, 0, 0, 0, 0]), .inl (.int, [0, 0, 0, 0]), .inl (.int, [0, 0, 0, 0]), .inr (.inr (5, [.ref 16, .int 0, .int 0, .int 0, .ref 8, .int 0, .int 0, .int 0, .int 0, .int 0])), .inl (.byte, List.replicate 400 0), .inr (.inr (0, [.ref 18, .ref 19, .ref 20, .ref 1, .int 0])), .inl (.int, List.replicate 128 0), .inl (.int, List.replicate 128 0), .inl (.int, [(-1), (-1), (-1), (-1), (-1), (-1), (-1), (-1), (-1), (-1), (-1), (-1), (-1), (-1), (-1), (-1), (-1)]), .inr (.inr (2, [.ref 17, .ref 22, .ref 23, .ref 24, .ref 25, .int 0, .int 0])), .inl (.int, [0, 0, 0, 0, 0]), .inl (.int, [0, 0, 0, 0, 0, 0]), .inl (.int, [0, 0, 0, 0, 0]), .inl (.int, [0, 0, 0, 0, 0]), .inr (.inr (1, [.ref 17, .ref 27, .ref 28, .ref 29, .ref 30, .ref 31, .int 0, .int 0])), .inl (.int, [0, 0, 0, 0]), .inl (.int, [0, 0, 0, 0]), .inl (.int, [0, 0, 0, 0]), .inl (.int, [0, 0, 0, 0]), .inl (.int, [0, 0, 0, 0]), .inr (.inr (3, [.int 0, .int 0, .int 0, .int 0, .int 0])), .inl (.int, [0, 0, 0, 0, 0, 0, 0, 0, 0, 0, 0, 0]), .inl (.boolean, [0, 0]), .inr (.inl (6, [some 36, some 43])), .inr (.inr (6, [.ref 37, .ref 38, .ref 39, .ref 40, .ref 41, .ref 42, .int 12, .int 2, .int 0, .int 0, .int 0, .int 0, .int 0, .int 0])), .inl (.int, [1, 1, 1, 1]), .inl (.int, [(-4), (-4), (-4), (-4), (-4), (-4), (-4), (-4), (-4), (-4), (-4), (-4), (-4), (-4), (-4), (-4), (-4)]), .inl (.int, List.replicate 60 0), .inl (.int, [0, 0, 0, 0, 0]), .inl (.int, [0, 0, 0, 0]), .inl (.int, [0, 0, 0, 0]), .inr (.inr (6, [.ref 44, .ref 45, .ref 46, .ref 47, .ref 48, .ref 49, .int 12, .int 2, .int 0, .int 0, .int 0, .int 0, .int 0, .int 0])), .inl (.int, [1, 1, 1, 1]), .inl (.int, [(-4), (-4), (-4), (-4), (-4), (-4), (-4), (-4), (-4), (-4), (-4), (-4), (-4), (-4), (-4), (-4), (-4)]), .inl (.int, List.replicate 60 0), .inl (.int, [0, 0, 0, 0, 0]), .inl (.int, [0, 0, 0, 0]), .inl (.int, [0, 0, 0, 0]), .inr (.inl (4, [some 51, some 53, some 55, some 57])), .inr (.inr (4, [.ref 52, .int (-1), .int 0])), .inl (.int, List.replicate 40 0), .inr (.inr (4, [.ref 54, .int (-1), .int 0])), .inl (.int, List.replicate 40 0), .inr (.inr (4, [.ref 56, .int (-1), .int 0])), .inl (.int, List.replicate 40 0), .inr (.inr (4, [.ref 58, .int (-1), .int 0])), .inl (.int, List.replicate 40 0), .inr (.inr (8, [.ref 60, .ref 61, .int 12, .int 2, .ref 62, .ref 63, .int 0, .ref 64, .int 12, .int 2, .ref 65, .int 0, .int 0, .int (-4), .ref 66, .int 0, .int 0, .int 0, .int 0, .int 0, .int 0, .int 0, .ref 67, .int 0, .ref 68, .ref 69, .int 0, .ref 70, .ref 71, .ref 72, .ref 73, .ref 74, .ref 75, .int 0])), .inl (.int, [0, 0, 0, 0, 0, 0, 0, 0, 0, 0, 0, 0, 0, 0, 0, 0, 0, 0, 0, 0, 0, 0, 0, 0, 0, 0, 0, 0, 0, 0, 0, 0, 0, 0, 0, 0, 0, 0, 0, 0, 0, 0, 0, 0, 0, 0, 0, 0, 0, 0, 0, 0, 0, 0, 0, 0, 0, 0, 0, 0, 0, (-4), (-4), (-4), (-4), (-4), (-4), (-4), (-4), (-4), (-4), (-4), (-4), (-4), (-4), (-4), (-4), (-4), 0, 0, 0, 0, 0, 0, 0, 0, 0, 0, 0, 0, 0, 0, 0, 0, 0, 0, 0, 0, 0, 0, 0, 0, 0, 0, 0, 0, 0, 0, 0, 0, 0, 0, 0, 0, 0, 0, 0, 0, 0, 0, 0, 0, 0, 0, 0, 0, 0, 0, 0, 0, 0, 0, 0, 0, 0, 0, 0, 0, 0, 0, 0, 0, 0, 0, 0, 0, 0, 0, 0, 0, 0, 0, 0, 0, 0, 0, 0, 0, 0, 0, 0, 0, 0, 0, 0, 0, 0, 0, 0, 0, 0, 0, 0, 0, 0, 0, 0, 0, 0, 0, 0, 0, 0, 0, 0, 0, 0, 0, 0, 0, 0, 0, 0, 0, 0, 0, 0, 0, 0, 0, 0, 0, 0, 0, 0, 0, 0, 0, 0, 0, 0, 0, 0, 0, 0, 0, 0, 0, 0, 0, 0, 0, 0, 0, 0, 0, 0, 0, 0, 0, 0, 0, 0, 0, 0, 0, 0, 0, 0, 0, 0, 0, 0, 0, 0, 0, 0, 0, 0, 0, 0, 0, 0, 0, 0, 0, 0, 0, 0, 0, 0, 0, 0, 0, 0, 0, 0, 0, 0, 0, 0, 0, 0, 0, 0, 0, 0, 0, 0, 0, 0, 0, 0, 0, 0, 0, 0, 0]), .inl (.boolean, [0, 0]), .inl (.int, [1, 1, 1, 1]), .inl (.int, [0, 0, 0, 0, 0, 0, 0, 0, 0, 0, 0, 0]), .inl (.int, [0, 0, 0, 0, 0, 0, 0, 0, 0, 0, 0, 0, 0, 0, 0, 0, 0, 0, 0, 0, 0, 0, 0, 0, 0, 0, 0, 0, 0, 0, 0, 0, 0, 0, 0, 0, 0, 0, 0, 0, 0, 0, 0, 0, 0, 0, 0, 0, 0, 0, 0, 0, 0, 0, 0, 0, 0, 0, 0, 0, 0, (-4), (-4), (-4), (-4), (-4), (-4), (-4), (-4), (-4), (-4), (-4), (-4), (-4), (-4), (-4), (-4), (-4), 0, 0, 0, 0, 0, 0, 0, 0, 0, 0, 0, 0, 0, 0, 0, 0, 0, 0]), .inl (.int, [1, 1, 1, 1]), .inl (.int, List.replicate 400 0), .inl (.int, List.replicate 130 0), .inl (.int, [0, 0, 0, 0, 0]), .inl (.int, [0, 0, 0, 0, 0]), .inl (.int, [0, 0, 0, 0, 0, 0, 0, 0, 0, 0, 0, 0, 0, 0, 0, 0, 0]), .inl (.int, [0, 0, 0, 0, 0]), .inl (.int, [0, 0, 0, 0, 0]), .inl (.int, [(-4), (-4), (-4), (-4)]), .inl (.int, [0, 0, 0, 0]), .inl (.int, List.replicate 160 0)]
set_option maxRecDepth 1000000 in
theorem kr_103_17_1_0_fr_w : ex_is (ex_run [] 229 38 mt_103 (ex_ent mt_103 [.ref 17, .ref 1, .int 0]) fr_w) none wq_0 = true := by decide +kernel
set_option maxRecDepth 1000000 in
theorem kr_104_17_wq_0 : ex_is (ex_run [] 342 38 mt_104 (ex_ent mt_104 [.ref 17]) wq_0) (some (.int 8190)) wq_0 = true := by decide +kernel
set_option maxRecDepth 1000000 in
theorem kr_147_0_0_fr_w : ex_is (ex_run [] 87 38 mt_147 (ex_ent mt_147 [.int 0, .int 0]) fr_w) (some (.int 1)) fr_w = true := by decide +kernel
set_option maxRecDepth 1000000 in
theorem kr_147_1_0_fr_w : ex_is (ex_run [] 87 38 mt_147 (ex_ent mt_147 [.int 1, .int 0]) fr_w) (some (.int 1)) fr_w = true := by decide +kernel
set_option maxRecDepth 1000000 in
theorem kr_147_2_0_fr_w : ex_is (ex_run [] 87 38 mt_147 (ex_ent mt_147 [.int 2, .int 0]) fr_w) (some (.int 1)) fr_w = true := by decide +kernel
set_option maxRecDepth 1000000 in
theorem kr_147_3_0_fr_w : ex_is (ex_run [] 87 38 mt_147 (ex_ent mt_147 [.int 3, .int 0]) fr_w) (some (.int 1)) fr_w = true := by decide +kernel
set_option maxRecDepth 100000 in
theorem ao_1_a (x1 : Int32) (g0 : x1.toInt < 0) : A2 mt_5 mt_6 [.int x1] := by
  refine ⟨(-1), fr_w, fr_w, _, ?_, rfl, ?_⟩
  · show Go [] 39 mt_5 (0, [some (.ref 0), some (.int x1), none], []) fr_w _
    refine Go.next (f' := (1, [some (.ref 0), some (.int x1), none], [.ref 0])) (w' := fr_w) ((ex_stp (ins := .aload_n 0) rfl).trans rfl) ?_
    refine Go.next (f' := (4, [some (.ref 0), some (.int x1), none], [.ref 15])) (w' := fr_w) ((ex_stp (ins := .getfield 24) rfl).trans rfl) ?_
    refine Go.next (f' := (7, [some (.ref 0), some (.int x1), none], [.int 0])) (w' := fr_w) ((ex_stp (ins := .getfield 81) rfl).trans rfl) ?_
    refine Go.next (f' := (8, [some (.ref 0), some (.int x1), some (.int 0)], [])) (w' := fr_w) ((ex_stp (ins := .istore_n 2) rfl).trans rfl) ?_
    refine Go.next (f' := (9, [some (.ref 0), some (.int x1), some (.int 0)], [.int x1])) (w' := fr_w) ((ex_stp (ins := .iload_n 1) rfl).trans rfl) ?_
    refine Go.next (f' := (17, [some (.ref 0), some (.int x1), some (.int 0)], [])) (w' := fr_w) ((ex_stp (ins := .ifCond .lt 8) rfl).trans (ex_b0_t (c := .lt) (off := 8) (pc := 9) (lo := [some (.ref 0), some (.int x1), some (.int 0)]) (x := x1) (r := []) (by rw [c0_lt]; exact decide_eq_true (by show x1.toInt < (0 : Int); omega)) (by decide))) ?_
    refine Go.next (f' := (18, [some (.ref 0), some (.int x1), some (.int 0)], [.int (-1)])) (w' := fr_w) ((ex_stp (ins := .iconst (-1)) rfl).trans rfl) ?_
    exact Go.ret ((ex_stp (ins := .ireturn) rfl).trans rfl)
  · show Go [] 39 mt_6 (0, [some (.ref 59), some (.int x1), none], []) fr_w _
    refine Go.next (f' := (1, [some (.ref 59), some (.int x1), none], [.int x1])) (w' := fr_w) ((ex_stp (ins := .iload_n 1) rfl).trans rfl) ?_
    refine Go.next (f' := (2, [some (.ref 59), some (.int x1), none], [.long (x1).toInt64])) (w' := fr_w) ((ex_stp (ins := .i2l) rfl).trans rfl) ?_
    refine Go.next (f' := (3, [some (.ref 59), some (.int x1), none], [.long 0, .long (x1).toInt64])) (w' := fr_w) ((ex_stp (ins := .lconst 0) rfl).trans rfl) ?_
    refine Go.next (f' := (4, [some (.ref 59), some (.int x1), none], [.ref 59, .long 0, .long (x1).toInt64])) (w' := fr_w) ((ex_stp (ins := .aload_n 0) rfl).trans rfl) ?_
    refine Go.next (f' := (7, [some (.ref 59), some (.int x1), none], [.int 0, .long 0, .long (x1).toInt64])) (w' := fr_w) ((ex_stp (ins := .getfield 90) rfl).trans rfl) ?_
    refine Go.next (f' := (8, [some (.ref 59), some (.int x1), none], [.long 0, .long 0, .long (x1).toInt64])) (w' := fr_w) ((ex_stp (ins := .i2l) rfl).trans rfl) ?_
    have h_1 : Go [] 38 mt_93 (ex_ent mt_93 [.long (x1).toInt64, .long 0, .long 0]) fr_w (some (.int 0), fr_w) := by
      show Go [] 38 mt_93 (0, [some (.long (x1).toInt64), none, some (.long 0), none, some (.long 0), none], []) fr_w _
      refine Go.next (f' := (1, [some (.long (x1).toInt64), none, some (.long 0), none, some (.long 0), none], [.long (x1).toInt64])) (w' := fr_w) ((ex_stp (ins := .lload_n 0) rfl).trans rfl) ?_
      refine Go.next (f' := (2, [some (.long (x1).toInt64), none, some (.long 0), none, some (.long 0), none], [.long 0, .long (x1).toInt64])) (w' := fr_w) ((ex_stp (ins := .lload_n 2) rfl).trans rfl) ?_
      refine Go.next (f' := (3, [some (.long (x1).toInt64), none, some (.long 0), none, some (.long 0), none], [.int (lg_cmp (x1).toInt64 0)])) (w' := fr_w) ((ex_stp (ins := .lcmp) rfl).trans rfl) ?_
      refine Go.next (f' := (17, [some (.long (x1).toInt64), none, some (.long 0), none, some (.long 0), none], [])) (w' := fr_w) ((ex_stp (ins := .ifCond .lt 14) rfl).trans (ex_b0_t (c := .lt) (off := 14) (pc := 3) (lo := [some (.long (x1).toInt64), none, some (.long 0), none, some (.long 0), none]) (x := (lg_cmp (x1).toInt64 0)) (r := []) (by rw [cl_lt]; exact decide_eq_true (by first | (rw [Int32.toInt_toInt64]; show x1.toInt < (0 : Int); omega) | omega)) (by decide))) ?_
      refine Go.next (f' := (18, [some (.long (x1).toInt64), none, some (.long 0), none, some (.long 0), none], [.int 0])) (w' := fr_w) ((ex_stp (ins := .iconst 0) rfl).trans rfl) ?_
      exact Go.ret ((ex_stp (ins := .ireturn) rfl).trans rfl)
    refine Go.call (d := 38) (cal := 93) (as := [.long (x1).toInt64, .long 0, .long 0]) (g := (11, [some (.ref 59), some (.int x1), none], [])) (M' := mt_93) (r := some (.int 0)) (w' := fr_w) ((ex_stp (ins := .invokestatic 95) rfl).trans rfl) rfl (Nat.le_of_ble_eq_true rfl) h_1 ?_
    show Go [] 39 mt_6 (11, [some (.ref 59), some (.int x1), none], [.int 0]) fr_w _
    refine Go.next (f' := (14, [some (.ref 59), some (.int x1), none], [])) (w' := fr_w) ((ex_stp (ins := .ifCond .ne 5) rfl).trans rfl) ?_
    refine Go.next (f' := (15, [some (.ref 59), some (.int x1), none], [.int (-1)])) (w' := fr_w) ((ex_stp (ins := .iconst (-1)) rfl).trans rfl) ?_
    exact Go.ret ((ex_stp (ins := .ireturn) rfl).trans rfl)
set_option maxRecDepth 100000 in
theorem ao_1_b (x1 : Int32) (g0 : 0 < x1.toInt) : A2 mt_5 mt_6 [.int x1] := by
  refine ⟨(-1), fr_w, fr_w, _, ?_, rfl, ?_⟩
  · show Go [] 39 mt_5 (0, [some (.ref 0), some (.int x1), none], []) fr_w _
    refine Go.next (f' := (1, [some (.ref 0), some (.int x1), none], [.ref 0])) (w' := fr_w) ((ex_stp (ins := .aload_n 0) rfl).trans rfl) ?_
    refine Go.next (f' := (4, [some (.ref 0), some (.int x1), none], [.ref 15])) (w' := fr_w) ((ex_stp (ins := .getfield 24) rfl).trans rfl) ?_
    refine Go.next (f' := (7, [some (.ref 0), some (.int x1), none], [.int 0])) (w' := fr_w) ((ex_stp (ins := .getfield 81) rfl).trans rfl) ?_
    refine Go.next (f' := (8, [some (.ref 0), some (.int x1), some (.int 0)], [])) (w' := fr_w) ((ex_stp (ins := .istore_n 2) rfl).trans rfl) ?_
    refine Go.next (f' := (9, [some (.ref 0), some (.int x1), some (.int 0)], [.int x1])) (w' := fr_w) ((ex_stp (ins := .iload_n 1) rfl).trans rfl) ?_
    refine Go.next (f' := (12, [some (.ref 0), some (.int x1), some (.int 0)], [])) (w' := fr_w) ((ex_stp (ins := .ifCond .lt 8) rfl).trans (ex_b0_f (c := .lt) (off := 8) (pc := 9) (lo := [some (.ref 0), some (.int x1), some (.int 0)]) (x := x1) (r := []) (by rw [c0_lt]; exact decide_eq_false (by show ¬ (x1.toInt < (0 : Int)); omega)) (by decide))) ?_
    refine Go.next (f' := (13, [some (.ref 0), some (.int x1), some (.int 0)], [.int x1])) (w' := fr_w) ((ex_stp (ins := .iload_n 1) rfl).trans rfl) ?_
    refine Go.next (f' := (14, [some (.ref 0), some (.int x1), some (.int 0)], [.int 0, .int x1])) (w' := fr_w) ((ex_stp (ins := .iload_n 2) rfl).trans rfl) ?_
    refine Go.next (f' := (17, [some (.ref 0), some (.int x1), some (.int 0)], [])) (w' := fr_w) ((ex_stp (ins := .if_icmp .le 5) rfl).trans (ex_b2_f (c := .le) (off := 5) (pc := 14) (lo := [some (.ref 0), some (.int x1), some (.int 0)]) (x := x1) (y := 0) (r := []) (by rw [c2_le]; exact decide_eq_false (by show ¬ (x1.toInt ≤ (0 : Int)); omega)) (by decide))) ?_
    refine Go.next (f' := (18, [some (.ref 0), some (.int x1), some (.int 0)], [.int (-1)])) (w' := fr_w) ((ex_stp (ins := .iconst (-1)) rfl).trans rfl) ?_
    exact Go.ret ((ex_stp (ins := .ireturn) rfl).trans rfl)
  · show Go [] 39 mt_6 (0, [some (.ref 59), some (.int x1), none], []) fr_w _
    refine Go.next (f' := (1, [some (.ref 59), some (.int x1), none], [.int x1])) (w' := fr_w) ((ex_stp (ins := .iload_n 1) rfl).trans rfl) ?_
    refine Go.next (f' := (2, [some (.ref 59), some (.int x1), none], [.long (x1).toInt64])) (w' := fr_w) ((ex_stp (ins := .i2l) rfl).trans rfl) ?_
    refine Go.next (f' := (3, [some (.ref 59), some (.int x1), none], [.long 0, .long (x1).toInt64])) (w' := fr_w) ((ex_stp (ins := .lconst 0) rfl).trans rfl) ?_
    refine Go.next (f' := (4, [some (.ref 59), some (.int x1), none], [.ref 59, .long 0, .long (x1).toInt64])) (w' := fr_w) ((ex_stp (ins := .aload_n 0) rfl).trans rfl) ?_
    refine Go.next (f' := (7, [some (.ref 59), some (.int x1), none], [.int 0, .long 0, .long (x1).toInt64])) (w' := fr_w) ((ex_stp (ins := .getfield 90) rfl).trans rfl) ?_
    refine Go.next (f' := (8, [some (.ref 59), some (.int x1), none], [.long 0, .long 0, .long (x1).toInt64])) (w' := fr_w) ((ex_stp (ins := .i2l) rfl).trans rfl) ?_
    have h_2 : Go [] 38 mt_93 (ex_ent mt_93 [.long (x1).toInt64, .long 0, .long 0]) fr_w (some (.int 0), fr_w) := by
      show Go [] 38 mt_93 (0, [some (.long (x1).toInt64), none, some (.long 0), none, some (.long 0), none], []) fr_w _
      refine Go.next (f' := (1, [some (.long (x1).toInt64), none, some (.long 0), none, some (.long 0), none], [.long (x1).toInt64])) (w' := fr_w) ((ex_stp (ins := .lload_n 0) rfl).trans rfl) ?_
      refine Go.next (f' := (2, [some (.long (x1).toInt64), none, some (.long 0), none, some (.long 0), none], [.long 0, .long (x1).toInt64])) (w' := fr_w) ((ex_stp (ins := .lload_n 2) rfl).trans rfl) ?_
      refine Go.next (f' := (3, [some (.long (x1).toInt64), none, some (.long 0), none, some (.long 0), none], [.int (lg_cmp (x1).toInt64 0)])) (w' := fr_w) ((ex_stp (ins := .lcmp) rfl).trans rfl) ?_
      refine Go.next (f' := (6, [some (.long (x1).toInt64), none, some (.long 0), none, some (.long 0), none], [])) (w' := fr_w) ((ex_stp (ins := .ifCond .lt 14) rfl).trans (ex_b0_f (c := .lt) (off := 14) (pc := 3) (lo := [some (.long (x1).toInt64), none, some (.long 0), none, some (.long 0), none]) (x := (lg_cmp (x1).toInt64 0)) (r := []) (by rw [cl_lt]; exact decide_eq_false (by first | (rw [Int32.toInt_toInt64]; show ¬ (x1.toInt < (0 : Int)); omega) | omega)) (by decide))) ?_
      refine Go.next (f' := (7, [some (.long (x1).toInt64), none, some (.long 0), none, some (.long 0), none], [.long (x1).toInt64])) (w' := fr_w) ((ex_stp (ins := .lload_n 0) rfl).trans rfl) ?_
      refine Go.next (f' := (9, [some (.long (x1).toInt64), none, some (.long 0), none, some (.long 0), none], [.long 0, .long (x1).toInt64])) (w' := fr_w) ((ex_stp (ins := .lload 4) rfl).trans rfl) ?_
      refine Go.next (f' := (10, [some (.long (x1).toInt64), none, some (.long 0), none, some (.long 0), none], [.int (lg_cmp (x1).toInt64 0)])) (w' := fr_w) ((ex_stp (ins := .lcmp) rfl).trans rfl) ?_
      refine Go.next (f' := (17, [some (.long (x1).toInt64), none, some (.long 0), none, some (.long 0), none], [])) (w' := fr_w) ((ex_stp (ins := .ifCond .gt 7) rfl).trans (ex_b0_t (c := .gt) (off := 7) (pc := 10) (lo := [some (.long (x1).toInt64), none, some (.long 0), none, some (.long 0), none]) (x := (lg_cmp (x1).toInt64 0)) (r := []) (by rw [cl_gt]; exact decide_eq_true (by first | (rw [Int32.toInt_toInt64]; show (0 : Int) < x1.toInt; omega) | omega)) (by decide))) ?_
      refine Go.next (f' := (18, [some (.long (x1).toInt64), none, some (.long 0), none, some (.long 0), none], [.int 0])) (w' := fr_w) ((ex_stp (ins := .iconst 0) rfl).trans rfl) ?_
      exact Go.ret ((ex_stp (ins := .ireturn) rfl).trans rfl)
    refine Go.call (d := 38) (cal := 93) (as := [.long (x1).toInt64, .long 0, .long 0]) (g := (11, [some (.ref 59), some (.int x1), none], [])) (M' := mt_93) (r := some (.int 0)) (w' := fr_w) ((ex_stp (ins := .invokestatic 95) rfl).trans rfl) rfl (Nat.le_of_ble_eq_true rfl) h_2 ?_
    show Go [] 39 mt_6 (11, [some (.ref 59), some (.int x1), none], [.int 0]) fr_w _
    refine Go.next (f' := (14, [some (.ref 59), some (.int x1), none], [])) (w' := fr_w) ((ex_stp (ins := .ifCond .ne 5) rfl).trans rfl) ?_
    refine Go.next (f' := (15, [some (.ref 59), some (.int x1), none], [.int (-1)])) (w' := fr_w) ((ex_stp (ins := .iconst (-1)) rfl).trans rfl) ?_
    exact Go.ret ((ex_stp (ins := .ireturn) rfl).trans rfl)
set_option maxRecDepth 100000 in
theorem ao_4_a (x1 : Int32) (g0 : x1.toInt < 0) : A2 mt_11 mt_12 [.int x1] := by
  refine ⟨(-1), fr_w, fr_w, _, ?_, rfl, ?_⟩
  · show Go [] 39 mt_11 (0, [some (.ref 0), some (.int x1)], []) fr_w _
    refine Go.next (f' := (1, [some (.ref 0), some (.int x1)], [.int x1])) (w' := fr_w) ((ex_stp (ins := .iload_n 1) rfl).trans rfl) ?_
    refine Go.next (f' := (88, [some (.ref 0), some (.int x1)], [])) (w' := fr_w) ((ex_stp (ins := .tableswitch 87 0 5 #[39, 47, 55, 63, 71, 79]) rfl).trans (ex_tsw_o (x := x1) (by show x1.toInt < 0 ∨ 5 < x1.toInt; omega) (by decide))) ?_
    refine Go.next (f' := (89, [some (.ref 0), some (.int x1)], [.int (-1)])) (w' := fr_w) ((ex_stp (ins := .iconst (-1)) rfl).trans rfl) ?_
    exact Go.ret ((ex_stp (ins := .ireturn) rfl).trans rfl)
  · show Go [] 39 mt_12 (0, [some (.ref 59), some (.int x1)], []) fr_w _
    refine Go.next (f' := (1, [some (.ref 59), some (.int x1)], [.int x1])) (w' := fr_w) ((ex_stp (ins := .iload_n 1) rfl).trans rfl) ?_
    refine Go.next (f' := (81, [some (.ref 59), some (.int x1)], [])) (w' := fr_w) ((ex_stp (ins := .tableswitch 80 0 5 #[39, 44, 49, 57, 65, 73]) rfl).trans (ex_tsw_o (x := x1) (by show x1.toInt < 0 ∨ 5 < x1.toInt; omega) (by decide))) ?_
    refine Go.next (f' := (82, [some (.ref 59), some (.int x1)], [.int (-1)])) (w' := fr_w) ((ex_stp (ins := .iconst (-1)) rfl).trans rfl) ?_
    exact Go.ret ((ex_stp (ins := .ireturn) rfl).trans rfl)
set_option maxRecDepth 100000 in
theorem ao_4_b (x1 : Int32) (g0 : 5 < x1.toInt) : A2 mt_11 mt_12 [.int x1] := by
  refine ⟨(-1), fr_w, fr_w, _, ?_, rfl, ?_⟩
  · show Go [] 39 mt_11 (0, [some (.ref 0), some (.int x1)], []) fr_w _
    refine Go.next (f' := (1, [some (.ref 0), some (.int x1)], [.int x1])) (w' := fr_w) ((ex_stp (ins := .iload_n 1) rfl).trans rfl) ?_
    refine Go.next (f' := (88, [some (.ref 0), some (.int x1)], [])) (w' := fr_w) ((ex_stp (ins := .tableswitch 87 0 5 #[39, 47, 55, 63, 71, 79]) rfl).trans (ex_tsw_o (x := x1) (by show x1.toInt < 0 ∨ 5 < x1.toInt; omega) (by decide))) ?_
    refine Go.next (f' := (89, [some (.ref 0), some (.int x1)], [.int (-1)])) (w' := fr_w) ((ex_stp (ins := .iconst (-1)) rfl).trans rfl) ?_
    exact Go.ret ((ex_stp (ins := .ireturn) rfl).trans rfl)
  · show Go [] 39 mt_12 (0, [some (.ref 59), some (.int x1)], []) fr_w _
    refine Go.next (f' := (1, [some (.ref 59), some (.int x1)], [.int x1])) (w' := fr_w) ((ex_stp (ins := .iload_n 1) rfl).trans rfl) ?_
    refine Go.next (f' := (81, [some (.ref 59), some (.int x1)], [])) (w' := fr_w) ((ex_stp (ins := .tableswitch 80 0 5 #[39, 44, 49, 57, 65, 73]) rfl).trans (ex_tsw_o (x := x1) (by show x1.toInt < 0 ∨ 5 < x1.toInt; omega) (by decide))) ?_
    refine Go.next (f' := (82, [some (.ref 59), some (.int x1)], [.int (-1)])) (w' := fr_w) ((ex_stp (ins := .iconst (-1)) rfl).trans rfl) ?_
    exact Go.ret ((ex_stp (ins := .ireturn) rfl).trans rfl)
set_option maxRecDepth 100000 in
theorem ao_5_a (x1 : Int32) (g0 : x1.toInt < 0) : A2 mt_13 mt_14 [.int x1] := by
  refine ⟨(-1), fr_w, fr_w, _, ?_, rfl, ?_⟩
  · show Go [] 39 mt_13 (0, [some (.ref 0), some (.int x1)], []) fr_w _
    refine Go.next (f' := (1, [some (.ref 0), some (.int x1)], [.int x1])) (w' := fr_w) ((ex_stp (ins := .iload_n 1) rfl).trans rfl) ?_
    refine Go.next (f' := (27, [some (.ref 0), some (.int x1)], [])) (w' := fr_w) ((ex_stp (ins := .ifCond .lt 26) rfl).trans (ex_b0_t (c := .lt) (off := 26) (pc := 1) (lo := [some (.ref 0), some (.int x1)]) (x := x1) (r := []) (by rw [c0_lt]; exact decide_eq_true (by show x1.toInt < (0 : Int); omega)) (by decide))) ?_
    refine Go.next (f' := (28, [some (.ref 0), some (.int x1)], [.int (-1)])) (w' := fr_w) ((ex_stp (ins := .iconst (-1)) rfl).trans rfl) ?_
    exact Go.ret ((ex_stp (ins := .ireturn) rfl).trans rfl)
  · show Go [] 39 mt_14 (0, [some (.ref 59), some (.int x1)], []) fr_w _
    refine Go.next (f' := (1, [some (.ref 59), some (.int x1)], [.int x1])) (w' := fr_w) ((ex_stp (ins := .iload_n 1) rfl).trans rfl) ?_
    refine Go.next (f' := (2, [some (.ref 59), some (.int x1)], [.long (x1).toInt64])) (w' := fr_w) ((ex_stp (ins := .i2l) rfl).trans rfl) ?_
    refine Go.next (f' := (3, [some (.ref 59), some (.int x1)], [.long 0, .long (x1).toInt64])) (w' := fr_w) ((ex_stp (ins := .lconst 0) rfl).trans rfl) ?_
    refine Go.next (f' := (4, [some (.ref 59), some (.int x1)], [.ref 59, .long 0, .long (x1).toInt64])) (w' := fr_w) ((ex_stp (ins := .aload_n 0) rfl).trans rfl) ?_
    refine Go.next (f' := (7, [some (.ref 59), some (.int x1)], [.ref 60, .long 0, .long (x1).toInt64])) (w' := fr_w) ((ex_stp (ins := .getfield 7) rfl).trans rfl) ?_
    refine Go.next (f' := (8, [some (.ref 59), some (.int x1)], [.int 0, .ref 60, .long 0, .long (x1).toInt64])) (w' := fr_w) ((ex_stp (ins := .iconst 0) rfl).trans rfl) ?_
    refine Go.next (f' := (9, [some (.ref 59), some (.int x1)], [.int 0, .long 0, .long (x1).toInt64])) (w' := fr_w) ((ex_stp (ins := .iaload) rfl).trans rfl) ?_
    refine Go.next (f' := (10, [some (.ref 59), some (.int x1)], [.int 1, .int 0, .long 0, .long (x1).toInt64])) (w' := fr_w) ((ex_stp (ins := .iconst 1) rfl).trans rfl) ?_
    refine Go.next (f' := (11, [some (.ref 59), some (.int x1)], [.int (-1), .long 0, .long (x1).toInt64])) (w' := fr_w) ((ex_stp (ins := .isub) rfl).trans rfl) ?_
    refine Go.next (f' := (12, [some (.ref 59), some (.int x1)], [.long (-1), .long 0, .long (x1).toInt64])) (w' := fr_w) ((ex_stp (ins := .i2l) rfl).trans rfl) ?_
    have h_3 : Go [] 38 mt_93 (ex_ent mt_93 [.long (x1).toInt64, .long 0, .long (-1)]) fr_w (some (.int 0), fr_w) := by
      show Go [] 38 mt_93 (0, [some (.long (x1).toInt64), none, some (.long 0), none, some (.long (-1)), none], []) fr_w _
      refine Go.next (f' := (1, [some (.long (x1).toInt64), none, some (.long 0), none, some (.long (-1)), none], [.long (x1).toInt64])) (w' := fr_w) ((ex_stp (ins := .lload_n 0) rfl).trans rfl) ?_
      refine Go.next (f' := (2, [some (.long (x1).toInt64), none, some (.long 0), none, some (.long (-1)), none], [.long 0, .long (x1).toInt64])) (w' := fr_w) ((ex_stp (ins := .lload_n 2) rfl).trans rfl) ?_
      refine Go.next (f' := (3, [some (.long (x1).toInt64), none, some (.long 0), none, some (.long (-1)), none], [.int (lg_cmp (x1).toInt64 0)])) (w' := fr_w) ((ex_stp (ins := .lcmp) rfl).trans rfl) ?_
      refine Go.next (f' := (17, [some (.long (x1).toInt64), none, some (.long 0), none, some (.long (-1)), none], [])) (w' := fr_w) ((ex_stp (ins := .ifCond .lt 14) rfl).trans (ex_b0_t (c := .lt) (off := 14) (pc := 3) (lo := [some (.long (x1).toInt64), none, some (.long 0), none, some (.long (-1)), none]) (x := (lg_cmp (x1).toInt64 0)) (r := []) (by rw [cl_lt]; exact decide_eq_true (by first | (rw [Int32.toInt_toInt64]; show x1.toInt < (0 : Int); omega) | omega)) (by decide))) ?_
      refine Go.next (f' := (18, [some (.long (x1).toInt64), none, some (.long 0), none, some (.long (-1)), none], [.int 0])) (w' := fr_w) ((ex_stp (ins := .iconst 0) rfl).trans rfl) ?_
      exact Go.ret ((ex_stp (ins := .ireturn) rfl).trans rfl)
    refine Go.call (d := 38) (cal := 93) (as := [.long (x1).toInt64, .long 0, .long (-1)]) (g := (15, [some (.ref 59), some (.int x1)], [])) (M' := mt_93) (r := some (.int 0)) (w' := fr_w) ((ex_stp (ins := .invokestatic 95) rfl).trans rfl) rfl (Nat.le_of_ble_eq_true rfl) h_3 ?_
    show Go [] 39 mt_14 (15, [some (.ref 59), some (.int x1)], [.int 0]) fr_w _
    refine Go.next (f' := (29, [some (.ref 59), some (.int x1)], [])) (w' := fr_w) ((ex_stp (ins := .ifCond .eq 14) rfl).trans rfl) ?_
    refine Go.next (f' := (30, [some (.ref 59), some (.int x1)], [.int (-1)])) (w' := fr_w) ((ex_stp (ins := .iconst (-1)) rfl).trans rfl) ?_
    exact Go.ret ((ex_stp (ins := .ireturn) rfl).trans rfl)
set_option maxRecDepth 100000 in
theorem ao_5_b (x1 : Int32) (g0 : 0 ≤ x1.toInt) : A2 mt_13 mt_14 [.int x1] := by
  refine ⟨(-1), fr_w, fr_w, _, ?_, rfl, ?_⟩
  · show Go [] 39 mt_13 (0, [some (.ref 0), some (.int x1)], []) fr_w _
    refine Go.next (f' := (1, [some (.ref 0), some (.int x1)], [.int x1])) (w' := fr_w) ((ex_stp (ins := .iload_n 1) rfl).trans rfl) ?_
    refine Go.next (f' := (4, [some (.ref 0), some (.int x1)], [])) (w' := fr_w) ((ex_stp (ins := .ifCond .lt 26) rfl).trans (ex_b0_f (c := .lt) (off := 26) (pc := 1) (lo := [some (.ref 0), some (.int x1)]) (x := x1) (r := []) (by rw [c0_lt]; exact decide_eq_false (by show ¬ (x1.toInt < (0 : Int)); omega)) (by decide))) ?_
    refine Go.next (f' := (5, [some (.ref 0), some (.int x1)], [.int x1])) (w' := fr_w) ((ex_stp (ins := .iload_n 1) rfl).trans rfl) ?_
    refine Go.next (f' := (6, [some (.ref 0), some (.int x1)], [.ref 0, .int x1])) (w' := fr_w) ((ex_stp (ins := .aload_n 0) rfl).trans rfl) ?_
    refine Go.next (f' := (9, [some (.ref 0), some (.int x1)], [.ref 1, .int x1])) (w' := fr_w) ((ex_stp (ins := .getfield 10) rfl).trans rfl) ?_
    refine Go.next (f' := (12, [some (.ref 0), some (.int x1)], [.int 0, .int x1])) (w' := fr_w) ((ex_stp (ins := .getfield 119) rfl).trans rfl) ?_
    refine Go.next (f' := (27, [some (.ref 0), some (.int x1)], [])) (w' := fr_w) ((ex_stp (ins := .if_icmp .ge 15) rfl).trans (ex_b2_t (c := .ge) (off := 15) (pc := 12) (lo := [some (.ref 0), some (.int x1)]) (x := x1) (y := 0) (r := []) (by rw [c2_ge]; exact decide_eq_true (by show (0 : Int) ≤ x1.toInt; omega)) (by decide))) ?_
    refine Go.next (f' := (28, [some (.ref 0), some (.int x1)], [.int (-1)])) (w' := fr_w) ((ex_stp (ins := .iconst (-1)) rfl).trans rfl) ?_
    exact Go.ret ((ex_stp (ins := .ireturn) rfl).trans rfl)
  · show Go [] 39 mt_14 (0, [some (.ref 59), some (.int x1)], []) fr_w _
    refine Go.next (f' := (1, [some (.ref 59), some (.int x1)], [.int x1])) (w' := fr_w) ((ex_stp (ins := .iload_n 1) rfl).trans rfl) ?_
    refine Go.next (f' := (2, [some (.ref 59), some (.int x1)], [.long (x1).toInt64])) (w' := fr_w) ((ex_stp (ins := .i2l) rfl).trans rfl) ?_
    refine Go.next (f' := (3, [some (.ref 59), some (.int x1)], [.long 0, .long (x1).toInt64])) (w' := fr_w) ((ex_stp (ins := .lconst 0) rfl).trans rfl) ?_
    refine Go.next (f' := (4, [some (.ref 59), some (.int x1)], [.ref 59, .long 0, .long (x1).toInt64])) (w' := fr_w) ((ex_stp (ins := .aload_n 0) rfl).trans rfl) ?_
    refine Go.next (f' := (7, [some (.ref 59), some (.int x1)], [.ref 60, .long 0, .long (x1).toInt64])) (w' := fr_w) ((ex_stp (ins := .getfield 7) rfl).trans rfl) ?_
    refine Go.next (f' := (8, [some (.ref 59), some (.int x1)], [.int 0, .ref 60, .long 0, .long (x1).toInt64])) (w' := fr_w) ((ex_stp (ins := .iconst 0) rfl).trans rfl) ?_
    refine Go.next (f' := (9, [some (.ref 59), some (.int x1)], [.int 0, .long 0, .long (x1).toInt64])) (w' := fr_w) ((ex_stp (ins := .iaload) rfl).trans rfl) ?_
    refine Go.next (f' := (10, [some (.ref 59), some (.int x1)], [.int 1, .int 0, .long 0, .long (x1).toInt64])) (w' := fr_w) ((ex_stp (ins := .iconst 1) rfl).trans rfl) ?_
    refine Go.next (f' := (11, [some (.ref 59), some (.int x1)], [.int (-1), .long 0, .long (x1).toInt64])) (w' := fr_w) ((ex_stp (ins := .isub) rfl).trans rfl) ?_
    refine Go.next (f' := (12, [some (.ref 59), some (.int x1)], [.long (-1), .long 0, .long (x1).toInt64])) (w' := fr_w) ((ex_stp (ins := .i2l) rfl).trans rfl) ?_
    have h_4 : Go [] 38 mt_93 (ex_ent mt_93 [.long (x1).toInt64, .long 0, .long (-1)]) fr_w (some (.int 0), fr_w) := by
      show Go [] 38 mt_93 (0, [some (.long (x1).toInt64), none, some (.long 0), none, some (.long (-1)), none], []) fr_w _
      refine Go.next (f' := (1, [some (.long (x1).toInt64), none, some (.long 0), none, some (.long (-1)), none], [.long (x1).toInt64])) (w' := fr_w) ((ex_stp (ins := .lload_n 0) rfl).trans rfl) ?_
      refine Go.next (f' := (2, [some (.long (x1).toInt64), none, some (.long 0), none, some (.long (-1)), none], [.long 0, .long (x1).toInt64])) (w' := fr_w) ((ex_stp (ins := .lload_n 2) rfl).trans rfl) ?_
      refine Go.next (f' := (3, [some (.long (x1).toInt64), none, some (.long 0), none, some (.long (-1)), none], [.int (lg_cmp (x1).toInt64 0)])) (w' := fr_w) ((ex_stp (ins := .lcmp) rfl).trans rfl) ?_
      refine Go.next (f' := (6, [some (.long (x1).toInt64), none, some (.long 0), none, some (.long (-1)), none], [])) (w' := fr_w) ((ex_stp (ins := .ifCond .lt 14) rfl).trans (ex_b0_f (c := .lt) (off := 14) (pc := 3) (lo := [some (.long (x1).toInt64), none, some (.long 0), none, some (.long (-1)), none]) (x := (lg_cmp (x1).toInt64 0)) (r := []) (by rw [cl_lt]; exact decide_eq_false (by first | (rw [Int32.toInt_toInt64]; show ¬ (x1.toInt < (0 : Int)); omega) | omega)) (by decide))) ?_
      refine Go.next (f' := (7, [some (.long (x1).toInt64), none, some (.long 0), none, some (.long (-1)), none], [.long (x1).toInt64])) (w' := fr_w) ((ex_stp (ins := .lload_n 0) rfl).trans rfl) ?_
      refine Go.next (f' := (9, [some (.long (x1).toInt64), none, some (.long 0), none, some (.long (-1)), none], [.long (-1), .long (x1).toInt64])) (w' := fr_w) ((ex_stp (ins := .lload 4) rfl).trans rfl) ?_
      refine Go.next (f' := (10, [some (.long (x1).toInt64), none, some (.long 0), none, some (.long (-1)), none], [.int (lg_cmp (x1).toInt64 (-1))])) (w' := fr_w) ((ex_stp (ins := .lcmp) rfl).trans rfl) ?_
      refine Go.next (f' := (17, [some (.long (x1).toInt64), none, some (.long 0), none, some (.long (-1)), none], [])) (w' := fr_w) ((ex_stp (ins := .ifCond .gt 7) rfl).trans (ex_b0_t (c := .gt) (off := 7) (pc := 10) (lo := [some (.long (x1).toInt64), none, some (.long 0), none, some (.long (-1)), none]) (x := (lg_cmp (x1).toInt64 (-1))) (r := []) (by rw [cl_gt]; exact decide_eq_true (by first | (rw [Int32.toInt_toInt64]; show ((-1) : Int) < x1.toInt; omega) | omega)) (by decide))) ?_
      refine Go.next (f' := (18, [some (.long (x1).toInt64), none, some (.long 0), none, some (.long (-1)), none], [.int 0])) (w' := fr_w) ((ex_stp (ins := .iconst 0) rfl).trans rfl) ?_
      exact Go.ret ((ex_stp (ins := .ireturn) rfl).trans rfl)
    refine Go.call (d := 38) (cal := 93) (as := [.long (x1).toInt64, .long 0, .long (-1)]) (g := (15, [some (.ref 59), some (.int x1)], [])) (M' := mt_93) (r := some (.int 0)) (w' := fr_w) ((ex_stp (ins := .invokestatic 95) rfl).trans rfl) rfl (Nat.le_of_ble_eq_true rfl) h_4 ?_
    show Go [] 39 mt_14 (15, [some (.ref 59), some (.int x1)], [.int 0]) fr_w _
    refine Go.next (f' := (29, [some (.ref 59), some (.int x1)], [])) (w' := fr_w) ((ex_stp (ins := .ifCond .eq 14) rfl).trans rfl) ?_
    refine Go.next (f' := (30, [some (.ref 59), some (.int x1)], [.int (-1)])) (w' := fr_w) ((ex_stp (ins := .iconst (-1)) rfl).trans rfl) ?_
    exact Go.ret ((ex_stp (ins := .ireturn) rfl).trans rfl)
set_option maxRecDepth 100000 in
theorem ao_6_a (x1 : Int32) (g0 : x1.toInt < 0) : A2 mt_15 mt_16 [.int x1] := by
  refine ⟨(-1), fr_w, fr_w, _, ?_, rfl, ?_⟩
  · show Go [] 39 mt_15 (0, [some (.ref 0), some (.int x1)], []) fr_w _
    refine Go.next (f' := (1, [some (.ref 0), some (.int x1)], [.ref 0])) (w' := fr_w) ((ex_stp (ins := .aload_n 0) rfl).trans rfl) ?_
    refine Go.next (f' := (4, [some (.ref 0), some (.int x1)], [.ref 1])) (w' := fr_w) ((ex_stp (ins := .getfield 10) rfl).trans rfl) ?_
    refine Go.next (f' := (5, [some (.ref 0), some (.int x1)], [.int x1, .ref 1])) (w' := fr_w) ((ex_stp (ins := .iload_n 1) rfl).trans rfl) ?_
    have h_5 : Go [] 38 mt_99 (ex_ent mt_99 [.ref 1, .int x1]) fr_w (some (.int 0), fr_w) := by
      show Go [] 38 mt_99 (0, [some (.ref 1), some (.int x1)], []) fr_w _
      refine Go.next (f' := (1, [some (.ref 1), some (.int x1)], [.int x1])) (w' := fr_w) ((ex_stp (ins := .iload_n 1) rfl).trans rfl) ?_
      refine Go.next (f' := (21, [some (.ref 1), some (.int x1)], [])) (w' := fr_w) ((ex_stp (ins := .ifCond .lt 20) rfl).trans (ex_b0_t (c := .lt) (off := 20) (pc := 1) (lo := [some (.ref 1), some (.int x1)]) (x := x1) (r := []) (by rw [c0_lt]; exact decide_eq_true (by show x1.toInt < (0 : Int); omega)) (by decide))) ?_
      refine Go.next (f' := (22, [some (.ref 1), some (.int x1)], [.int 0])) (w' := fr_w) ((ex_stp (ins := .iconst 0) rfl).trans rfl) ?_
      exact Go.ret ((ex_stp (ins := .ireturn) rfl).trans rfl)
    refine Go.call (d := 38) (cal := 99) (as := [.ref 1, .int x1]) (g := (8, [some (.ref 0), some (.int x1)], [])) (M' := mt_99) (r := some (.int 0)) (w' := fr_w) ((ex_stp (ins := .invokevirtual 125) rfl).trans rfl) rfl (Nat.le_of_ble_eq_true rfl) h_5 ?_
    show Go [] 39 mt_15 (8, [some (.ref 0), some (.int x1)], [.int 0]) fr_w _
    refine Go.next (f' := (23, [some (.ref 0), some (.int x1)], [])) (w' := fr_w) ((ex_stp (ins := .ifCond .eq 15) rfl).trans rfl) ?_
    refine Go.next (f' := (24, [some (.ref 0), some (.int x1)], [.int (-1)])) (w' := fr_w) ((ex_stp (ins := .iconst (-1)) rfl).trans rfl) ?_
    exact Go.ret ((ex_stp (ins := .ireturn) rfl).trans rfl)
  · show Go [] 39 mt_16 (0, [some (.ref 59), some (.int x1)], []) fr_w _
    refine Go.next (f' := (1, [some (.ref 59), some (.int x1)], [.ref 59])) (w' := fr_w) ((ex_stp (ins := .aload_n 0) rfl).trans rfl) ?_
    refine Go.next (f' := (2, [some (.ref 59), some (.int x1)], [.int x1, .ref 59])) (w' := fr_w) ((ex_stp (ins := .iload_n 1) rfl).trans rfl) ?_
    have h_6 : Go [] 38 mt_100 (ex_ent mt_100 [.ref 59, .int x1]) fr_w (some (.int 0), fr_w) := by
      show Go [] 38 mt_100 (0, [some (.ref 59), some (.int x1)], []) fr_w _
      refine Go.next (f' := (1, [some (.ref 59), some (.int x1)], [.int x1])) (w' := fr_w) ((ex_stp (ins := .iload_n 1) rfl).trans rfl) ?_
      refine Go.next (f' := (2, [some (.ref 59), some (.int x1)], [.long (x1).toInt64])) (w' := fr_w) ((ex_stp (ins := .i2l) rfl).trans rfl) ?_
      refine Go.next (f' := (3, [some (.ref 59), some (.int x1)], [.long 0, .long (x1).toInt64])) (w' := fr_w) ((ex_stp (ins := .lconst 0) rfl).trans rfl) ?_
      refine Go.next (f' := (4, [some (.ref 59), some (.int x1)], [.ref 59, .long 0, .long (x1).toInt64])) (w' := fr_w) ((ex_stp (ins := .aload_n 0) rfl).trans rfl) ?_
      refine Go.next (f' := (7, [some (.ref 59), some (.int x1)], [.int 2, .long 0, .long (x1).toInt64])) (w' := fr_w) ((ex_stp (ins := .getfield 84) rfl).trans rfl) ?_
      refine Go.next (f' := (8, [some (.ref 59), some (.int x1)], [.int 1, .int 2, .long 0, .long (x1).toInt64])) (w' := fr_w) ((ex_stp (ins := .iconst 1) rfl).trans rfl) ?_
      refine Go.next (f' := (9, [some (.ref 59), some (.int x1)], [.int 1, .long 0, .long (x1).toInt64])) (w' := fr_w) ((ex_stp (ins := .isub) rfl).trans rfl) ?_
      refine Go.next (f' := (10, [some (.ref 59), some (.int x1)], [.long 1, .long 0, .long (x1).toInt64])) (w' := fr_w) ((ex_stp (ins := .i2l) rfl).trans rfl) ?_
      have h_7 : Go [] 37 mt_93 (ex_ent mt_93 [.long (x1).toInt64, .long 0, .long 1]) fr_w (some (.int 0), fr_w) := by
        show Go [] 37 mt_93 (0, [some (.long (x1).toInt64), none, some (.long 0), none, some (.long 1), none], []) fr_w _
        refine Go.next (f' := (1, [some (.long (x1).toInt64), none, some (.long 0), none, some (.long 1), none], [.long (x1).toInt64])) (w' := fr_w) ((ex_stp (ins := .lload_n 0) rfl).trans rfl) ?_
        refine Go.next (f' := (2, [some (.long (x1).toInt64), none, some (.long 0), none, some (.long 1), none], [.long 0, .long (x1).toInt64])) (w' := fr_w) ((ex_stp (ins := .lload_n 2) rfl).trans rfl) ?_
        refine Go.next (f' := (3, [some (.long (x1).toInt64), none, some (.long 0), none, some (.long 1), none], [.int (lg_cmp (x1).toInt64 0)])) (w' := fr_w) ((ex_stp (ins := .lcmp) rfl).trans rfl) ?_
        refine Go.next (f' := (17, [some (.long (x1).toInt64), none, some (.long 0), none, some (.long 1), none], [])) (w' := fr_w) ((ex_stp (ins := .ifCond .lt 14) rfl).trans (ex_b0_t (c := .lt) (off := 14) (pc := 3) (lo := [some (.long (x1).toInt64), none, some (.long 0), none, some (.long 1), none]) (x := (lg_cmp (x1).toInt64 0)) (r := []) (by rw [cl_lt]; exact decide_eq_true (by first | (rw [Int32.toInt_toInt64]; show x1.toInt < (0 : Int); omega) | omega)) (by decide))) ?_
        refine Go.next (f' := (18, [some (.long (x1).toInt64), none, some (.long 0), none, some (.long 1), none], [.int 0])) (w' := fr_w) ((ex_stp (ins := .iconst 0) rfl).trans rfl) ?_
        exact Go.ret ((ex_stp (ins := .ireturn) rfl).trans rfl)
      refine Go.call (d := 37) (cal := 93) (as := [.long (x1).toInt64, .long 0, .long 1]) (g := (13, [some (.ref 59), some (.int x1)], [])) (M' := mt_93) (r := some (.int 0)) (w' := fr_w) ((ex_stp (ins := .invokestatic 95) rfl).trans rfl) rfl (Nat.le_of_ble_eq_true rfl) h_7 ?_
      show Go [] 38 mt_100 (13, [some (.ref 59), some (.int x1)], [.int 0]) fr_w _
      exact Go.ret ((ex_stp (ins := .ireturn) rfl).trans rfl)
    refine Go.call (d := 38) (cal := 100) (as := [.ref 59, .int x1]) (g := (5, [some (.ref 59), some (.int x1)], [])) (M' := mt_100) (r := some (.int 0)) (w' := fr_w) ((ex_stp (ins := .invokevirtual 183) rfl).trans rfl) rfl (Nat.le_of_ble_eq_true rfl) h_6 ?_
    show Go [] 39 mt_16 (5, [some (.ref 59), some (.int x1)], [.int 0]) fr_w _
    refine Go.next (f' := (17, [some (.ref 59), some (.int x1)], [])) (w' := fr_w) ((ex_stp (ins := .ifCond .eq 12) rfl).trans rfl) ?_
    refine Go.next (f' := (18, [some (.ref 59), some (.int x1)], [.int (-1)])) (w' := fr_w) ((ex_stp (ins := .iconst (-1)) rfl).trans rfl) ?_
    exact Go.ret ((ex_stp (ins := .ireturn) rfl).trans rfl)
set_option maxRecDepth 100000 in
theorem ao_6_b (x1 : Int32) (g0 : 1 < x1.toInt) : A2 mt_15 mt_16 [.int x1] := by
  refine ⟨(-1), fr_w, fr_w, _, ?_, rfl, ?_⟩
  · show Go [] 39 mt_15 (0, [some (.ref 0), some (.int x1)], []) fr_w _
    refine Go.next (f' := (1, [some (.ref 0), some (.int x1)], [.ref 0])) (w' := fr_w) ((ex_stp (ins := .aload_n 0) rfl).trans rfl) ?_
    refine Go.next (f' := (4, [some (.ref 0), some (.int x1)], [.ref 1])) (w' := fr_w) ((ex_stp (ins := .getfield 10) rfl).trans rfl) ?_
    refine Go.next (f' := (5, [some (.ref 0), some (.int x1)], [.int x1, .ref 1])) (w' := fr_w) ((ex_stp (ins := .iload_n 1) rfl).trans rfl) ?_
    have h_8 : Go [] 38 mt_99 (ex_ent mt_99 [.ref 1, .int x1]) fr_w (some (.int 0), fr_w) := by
      show Go [] 38 mt_99 (0, [some (.ref 1), some (.int x1)], []) fr_w _
      refine Go.next (f' := (1, [some (.ref 1), some (.int x1)], [.int x1])) (w' := fr_w) ((ex_stp (ins := .iload_n 1) rfl).trans rfl) ?_
      refine Go.next (f' := (4, [some (.ref 1), some (.int x1)], [])) (w' := fr_w) ((ex_stp (ins := .ifCond .lt 20) rfl).trans (ex_b0_f (c := .lt) (off := 20) (pc := 1) (lo := [some (.ref 1), some (.int x1)]) (x := x1) (r := []) (by rw [c0_lt]; exact decide_eq_false (by show ¬ (x1.toInt < (0 : Int)); omega)) (by decide))) ?_
      refine Go.next (f' := (5, [some (.ref 1), some (.int x1)], [.int x1])) (w' := fr_w) ((ex_stp (ins := .iload_n 1) rfl).trans rfl) ?_
      refine Go.next (f' := (6, [some (.ref 1), some (.int x1)], [.ref 1, .int x1])) (w' := fr_w) ((ex_stp (ins := .aload_n 0) rfl).trans rfl) ?_
      refine Go.next (f' := (9, [some (.ref 1), some (.int x1)], [.int 2, .int x1])) (w' := fr_w) ((ex_stp (ins := .getfield 37) rfl).trans rfl) ?_
      refine Go.next (f' := (21, [some (.ref 1), some (.int x1)], [])) (w' := fr_w) ((ex_stp (ins := .if_icmp .ge 12) rfl).trans (ex_b2_t (c := .ge) (off := 12) (pc := 9) (lo := [some (.ref 1), some (.int x1)]) (x := x1) (y := 2) (r := []) (by rw [c2_ge]; exact decide_eq_true (by show (2 : Int) ≤ x1.toInt; omega)) (by decide))) ?_
      refine Go.next (f' := (22, [some (.ref 1), some (.int x1)], [.int 0])) (w' := fr_w) ((ex_stp (ins := .iconst 0) rfl).trans rfl) ?_
      exact Go.ret ((ex_stp (ins := .ireturn) rfl).trans rfl)
    refine Go.call (d := 38) (cal := 99) (as := [.ref 1, .int x1]) (g := (8, [some (.ref 0), some (.int x1)], [])) (M' := mt_99) (r := some (.int 0)) (w' := fr_w) ((ex_stp (ins := .invokevirtual 125) rfl).trans rfl) rfl (Nat.le_of_ble_eq_true rfl) h_8 ?_
    show Go [] 39 mt_15 (8, [some (.ref 0), some (.int x1)], [.int 0]) fr_w _
    refine Go.next (f' := (23, [some (.ref 0), some (.int x1)], [])) (w' := fr_w) ((ex_stp (ins := .ifCond .eq 15) rfl).trans rfl) ?_
    refine Go.next (f' := (24, [some (.ref 0), some (.int x1)], [.int (-1)])) (w' := fr_w) ((ex_stp (ins := .iconst (-1)) rfl).trans rfl) ?_
    exact Go.ret ((ex_stp (ins := .ireturn) rfl).trans rfl)
  · show Go [] 39 mt_16 (0, [some (.ref 59), some (.int x1)], []) fr_w _
    refine Go.next (f' := (1, [some (.ref 59), some (.int x1)], [.ref 59])) (w' := fr_w) ((ex_stp (ins := .aload_n 0) rfl).trans rfl) ?_
    refine Go.next (f' := (2, [some (.ref 59), some (.int x1)], [.int x1, .ref 59])) (w' := fr_w) ((ex_stp (ins := .iload_n 1) rfl).trans rfl) ?_
    have h_9 : Go [] 38 mt_100 (ex_ent mt_100 [.ref 59, .int x1]) fr_w (some (.int 0), fr_w) := by
      show Go [] 38 mt_100 (0, [some (.ref 59), some (.int x1)], []) fr_w _
      refine Go.next (f' := (1, [some (.ref 59), some (.int x1)], [.int x1])) (w' := fr_w) ((ex_stp (ins := .iload_n 1) rfl).trans rfl) ?_
      refine Go.next (f' := (2, [some (.ref 59), some (.int x1)], [.long (x1).toInt64])) (w' := fr_w) ((ex_stp (ins := .i2l) rfl).trans rfl) ?_
      refine Go.next (f' := (3, [some (.ref 59), some (.int x1)], [.long 0, .long (x1).toInt64])) (w' := fr_w) ((ex_stp (ins := .lconst 0) rfl).trans rfl) ?_
      refine Go.next (f' := (4, [some (.ref 59), some (.int x1)], [.ref 59, .long 0, .long (x1).toInt64])) (w' := fr_w) ((ex_stp (ins := .aload_n 0) rfl).trans rfl) ?_
      refine Go.next (f' := (7, [some (.ref 59), some (.int x1)], [.int 2, .long 0, .long (x1).toInt64])) (w' := fr_w) ((ex_stp (ins := .getfield 84) rfl).trans rfl) ?_
      refine Go.next (f' := (8, [some (.ref 59), some (.int x1)], [.int 1, .int 2, .long 0, .long (x1).toInt64])) (w' := fr_w) ((ex_stp (ins := .iconst 1) rfl).trans rfl) ?_
      refine Go.next (f' := (9, [some (.ref 59), some (.int x1)], [.int 1, .long 0, .long (x1).toInt64])) (w' := fr_w) ((ex_stp (ins := .isub) rfl).trans rfl) ?_
      refine Go.next (f' := (10, [some (.ref 59), some (.int x1)], [.long 1, .long 0, .long (x1).toInt64])) (w' := fr_w) ((ex_stp (ins := .i2l) rfl).trans rfl) ?_
      have h_10 : Go [] 37 mt_93 (ex_ent mt_93 [.long (x1).toInt64, .long 0, .long 1]) fr_w (some (.int 0), fr_w) := by
        show Go [] 37 mt_93 (0, [some (.long (x1).toInt64), none, some (.long 0), none, some (.long 1), none], []) fr_w _
        refine Go.next (f' := (1, [some (.long (x1).toInt64), none, some (.long 0), none, some (.long 1), none], [.long (x1).toInt64])) (w' := fr_w) ((ex_stp (ins := .lload_n 0) rfl).trans rfl) ?_
        refine Go.next (f' := (2, [some (.long (x1).toInt64), none, some (.long 0), none, some (.long 1), none], [.long 0, .long (x1).toInt64])) (w' := fr_w) ((ex_stp (ins := .lload_n 2) rfl).trans rfl) ?_
        refine Go.next (f' := (3, [some (.long (x1).toInt64), none, some (.long 0), none, some (.long 1), none], [.int (lg_cmp (x1).toInt64 0)])) (w' := fr_w) ((ex_stp (ins := .lcmp) rfl).trans rfl) ?_
        refine Go.next (f' := (6, [some (.long (x1).toInt64), none, some (.long 0), none, some (.long 1), none], [])) (w' := fr_w) ((ex_stp (ins := .ifCond .lt 14) rfl).trans (ex_b0_f (c := .lt) (off := 14) (pc := 3) (lo := [some (.long (x1).toInt64), none, some (.long 0), none, some (.long 1), none]) (x := (lg_cmp (x1).toInt64 0)) (r := []) (by rw [cl_lt]; exact decide_eq_false (by first | (rw [Int32.toInt_toInt64]; show ¬ (x1.toInt < (0 : Int)); omega) | omega)) (by decide))) ?_
        refine Go.next (f' := (7, [some (.long (x1).toInt64), none, some (.long 0), none, some (.long 1), none], [.long (x1).toInt64])) (w' := fr_w) ((ex_stp (ins := .lload_n 0) rfl).trans rfl) ?_
        refine Go.next (f' := (9, [some (.long (x1).toInt64), none, some (.long 0), none, some (.long 1), none], [.long 1, .long (x1).toInt64])) (w' := fr_w) ((ex_stp (ins := .lload 4) rfl).trans rfl) ?_
        refine Go.next (f' := (10, [some (.long (x1).toInt64), none, some (.long 0), none, some (.long 1), none], [.int (lg_cmp (x1).toInt64 1)])) (w' := fr_w) ((ex_stp (ins := .lcmp) rfl).trans rfl) ?_
        refine Go.next (f' := (17, [some (.long (x1).toInt64), none, some (.long 0), none, some (.long 1), none], [])) (w' := fr_w) ((ex_stp (ins := .ifCond .gt 7) rfl).trans (ex_b0_t (c := .gt) (off := 7) (pc := 10) (lo := [some (.long (x1).toInt64), none, some (.long 0), none, some (.long 1), none]) (x := (lg_cmp (x1).toInt64 1)) (r := []) (by rw [cl_gt]; exact decide_eq_true (by first | (rw [Int32.toInt_toInt64]; show (1 : Int) < x1.toInt; omega) | omega)) (by decide))) ?_
        refine Go.next (f' := (18, [some (.long (x1).toInt64), none, some (.long 0), none, some (.long 1), none], [.int 0])) (w' := fr_w) ((ex_stp (ins := .iconst 0) rfl).trans rfl) ?_
        exact Go.ret ((ex_stp (ins := .ireturn) rfl).trans rfl)
      refine Go.call (d := 37) (cal := 93) (as := [.long (x1).toInt64, .long 0, .long 1]) (g := (13, [some (.ref 59), some (.int x1)], [])) (M' := mt_93) (r := some (.int 0)) (w' := fr_w) ((ex_stp (ins := .invokestatic 95) rfl).trans rfl) rfl (Nat.le_of_ble_eq_true rfl) h_10 ?_
      show Go [] 38 mt_100 (13, [some (.ref 59), some (.int x1)], [.int 0]) fr_w _
      exact Go.ret ((ex_stp (ins := .ireturn) rfl).trans rfl)
    refine Go.call (d := 38) (cal := 100) (as := [.ref 59, .int x1]) (g := (5, [some (.ref 59), some (.int x1)], [])) (M' := mt_100) (r := some (.int 0)) (w' := fr_w) ((ex_stp (ins := .invokevirtual 183) rfl).trans rfl) rfl (Nat.le_of_ble_eq_true rfl) h_9 ?_
    show Go [] 39 mt_16 (5, [some (.ref 59), some (.int x1)], [.int 0]) fr_w _
    refine Go.next (f' := (17, [some (.ref 59), some (.int x1)], [])) (w' := fr_w) ((ex_stp (ins := .ifCond .eq 12) rfl).trans rfl) ?_
    refine Go.next (f' := (18, [some (.ref 59), some (.int x1)], [.int (-1)])) (w' := fr_w) ((ex_stp (ins := .iconst (-1)) rfl).trans rfl) ?_
    exact Go.ret ((ex_stp (ins := .ireturn) rfl).trans rfl)
set_option maxRecDepth 100000 in
theorem ao_7_a (x1 : Int32) (g0 : x1.toInt < 1) : A2 mt_17 mt_18 [.int x1] := by
  refine ⟨(-1), fr_w, fr_w, _, ?_, rfl, ?_⟩
  · show Go [] 39 mt_17 (0, [some (.ref 0), some (.int x1)], []) fr_w _
    refine Go.next (f' := (1, [some (.ref 0), some (.int x1)], [.ref 0])) (w' := fr_w) ((ex_stp (ins := .aload_n 0) rfl).trans rfl) ?_
    refine Go.next (f' := (4, [some (.ref 0), some (.int x1)], [.ref 1])) (w' := fr_w) ((ex_stp (ins := .getfield 10) rfl).trans rfl) ?_
    refine Go.next (f' := (5, [some (.ref 0), some (.int x1)], [.int x1, .ref 1])) (w' := fr_w) ((ex_stp (ins := .iload_n 1) rfl).trans rfl) ?_
    have h_11 : Go [] 38 mt_101 (ex_ent mt_101 [.ref 1, .int x1]) fr_w (some (.int 0), fr_w) := by
      show Go [] 38 mt_101 (0, [some (.ref 1), some (.int x1)], []) fr_w _
      refine Go.next (f' := (1, [some (.ref 1), some (.int x1)], [.int x1])) (w' := fr_w) ((ex_stp (ins := .iload_n 1) rfl).trans rfl) ?_
      refine Go.next (f' := (2, [some (.ref 1), some (.int x1)], [.int 1, .int x1])) (w' := fr_w) ((ex_stp (ins := .iconst 1) rfl).trans rfl) ?_
      refine Go.next (f' := (23, [some (.ref 1), some (.int x1)], [])) (w' := fr_w) ((ex_stp (ins := .if_icmp .lt 21) rfl).trans (ex_b2_t (c := .lt) (off := 21) (pc := 2) (lo := [some (.ref 1), some (.int x1)]) (x := x1) (y := 1) (r := []) (by rw [c2_lt]; exact decide_eq_true (by show x1.toInt < (1 : Int); omega)) (by decide))) ?_
      refine Go.next (f' := (24, [some (.ref 1), some (.int x1)], [.int 0])) (w' := fr_w) ((ex_stp (ins := .iconst 0) rfl).trans rfl) ?_
      exact Go.ret ((ex_stp (ins := .ireturn) rfl).trans rfl)
    refine Go.call (d := 38) (cal := 101) (as := [.ref 1, .int x1]) (g := (8, [some (.ref 0), some (.int x1)], [])) (M' := mt_101) (r := some (.int 0)) (w' := fr_w) ((ex_stp (ins := .invokevirtual 132) rfl).trans rfl) rfl (Nat.le_of_ble_eq_true rfl) h_11 ?_
    show Go [] 39 mt_17 (8, [some (.ref 0), some (.int x1)], [.int 0]) fr_w _
    refine Go.next (f' := (23, [some (.ref 0), some (.int x1)], [])) (w' := fr_w) ((ex_stp (ins := .ifCond .eq 15) rfl).trans rfl) ?_
    refine Go.next (f' := (24, [some (.ref 0), some (.int x1)], [.int (-1)])) (w' := fr_w) ((ex_stp (ins := .iconst (-1)) rfl).trans rfl) ?_
    exact Go.ret ((ex_stp (ins := .ireturn) rfl).trans rfl)
  · show Go [] 39 mt_18 (0, [some (.ref 59), some (.int x1)], []) fr_w _
    refine Go.next (f' := (1, [some (.ref 59), some (.int x1)], [.ref 59])) (w' := fr_w) ((ex_stp (ins := .aload_n 0) rfl).trans rfl) ?_
    refine Go.next (f' := (2, [some (.ref 59), some (.int x1)], [.int x1, .ref 59])) (w' := fr_w) ((ex_stp (ins := .iload_n 1) rfl).trans rfl) ?_
    have h_12 : Go [] 38 mt_102 (ex_ent mt_102 [.ref 59, .int x1]) fr_w (some (.int 0), fr_w) := by
      show Go [] 38 mt_102 (0, [some (.ref 59), some (.int x1)], []) fr_w _
      refine Go.next (f' := (1, [some (.ref 59), some (.int x1)], [.int x1])) (w' := fr_w) ((ex_stp (ins := .iload_n 1) rfl).trans rfl) ?_
      refine Go.next (f' := (2, [some (.ref 59), some (.int x1)], [.long (x1).toInt64])) (w' := fr_w) ((ex_stp (ins := .i2l) rfl).trans rfl) ?_
      refine Go.next (f' := (3, [some (.ref 59), some (.int x1)], [.long 1, .long (x1).toInt64])) (w' := fr_w) ((ex_stp (ins := .lconst 1) rfl).trans rfl) ?_
      refine Go.next (f' := (4, [some (.ref 59), some (.int x1)], [.ref 59, .long 1, .long (x1).toInt64])) (w' := fr_w) ((ex_stp (ins := .aload_n 0) rfl).trans rfl) ?_
      refine Go.next (f' := (7, [some (.ref 59), some (.int x1)], [.int 12, .long 1, .long (x1).toInt64])) (w' := fr_w) ((ex_stp (ins := .getfield 81) rfl).trans rfl) ?_
      refine Go.next (f' := (8, [some (.ref 59), some (.int x1)], [.long 12, .long 1, .long (x1).toInt64])) (w' := fr_w) ((ex_stp (ins := .i2l) rfl).trans rfl) ?_
      have h_13 : Go [] 37 mt_93 (ex_ent mt_93 [.long (x1).toInt64, .long 1, .long 12]) fr_w (some (.int 0), fr_w) := by
        show Go [] 37 mt_93 (0, [some (.long (x1).toInt64), none, some (.long 1), none, some (.long 12), none], []) fr_w _
        refine Go.next (f' := (1, [some (.long (x1).toInt64), none, some (.long 1), none, some (.long 12), none], [.long (x1).toInt64])) (w' := fr_w) ((ex_stp (ins := .lload_n 0) rfl).trans rfl) ?_
        refine Go.next (f' := (2, [some (.long (x1).toInt64), none, some (.long 1), none, some (.long 12), none], [.long 1, .long (x1).toInt64])) (w' := fr_w) ((ex_stp (ins := .lload_n 2) rfl).trans rfl) ?_
        refine Go.next (f' := (3, [some (.long (x1).toInt64), none, some (.long 1), none, some (.long 12), none], [.int (lg_cmp (x1).toInt64 1)])) (w' := fr_w) ((ex_stp (ins := .lcmp) rfl).trans rfl) ?_
        refine Go.next (f' := (17, [some (.long (x1).toInt64), none, some (.long 1), none, some (.long 12), none], [])) (w' := fr_w) ((ex_stp (ins := .ifCond .lt 14) rfl).trans (ex_b0_t (c := .lt) (off := 14) (pc := 3) (lo := [some (.long (x1).toInt64), none, some (.long 1), none, some (.long 12), none]) (x := (lg_cmp (x1).toInt64 1)) (r := []) (by rw [cl_lt]; exact decide_eq_true (by first | (rw [Int32.toInt_toInt64]; show x1.toInt < (1 : Int); omega) | omega)) (by decide))) ?_
        refine Go.next (f' := (18, [some (.long (x1).toInt64), none, some (.long 1), none, some (.long 12), none], [.int 0])) (w' := fr_w) ((ex_stp (ins := .iconst 0) rfl).trans rfl) ?_
        exact Go.ret ((ex_stp (ins := .ireturn) rfl).trans rfl)
      refine Go.call (d := 37) (cal := 93) (as := [.long (x1).toInt64, .long 1, .long 12]) (g := (11, [some (.ref 59), some (.int x1)], [])) (M' := mt_93) (r := some (.int 0)) (w' := fr_w) ((ex_stp (ins := .invokestatic 95) rfl).trans rfl) rfl (Nat.le_of_ble_eq_true rfl) h_13 ?_
      show Go [] 38 mt_102 (11, [some (.ref 59), some (.int x1)], [.int 0]) fr_w _
      exact Go.ret ((ex_stp (ins := .ireturn) rfl).trans rfl)
    refine Go.call (d := 38) (cal := 102) (as := [.ref 59, .int x1]) (g := (5, [some (.ref 59), some (.int x1)], [])) (M' := mt_102) (r := some (.int 0)) (w' := fr_w) ((ex_stp (ins := .invokevirtual 187) rfl).trans rfl) rfl (Nat.le_of_ble_eq_true rfl) h_12 ?_
    show Go [] 39 mt_18 (5, [some (.ref 59), some (.int x1)], [.int 0]) fr_w _
    refine Go.next (f' := (20, [some (.ref 59), some (.int x1)], [])) (w' := fr_w) ((ex_stp (ins := .ifCond .eq 15) rfl).trans rfl) ?_
    refine Go.next (f' := (21, [some (.ref 59), some (.int x1)], [.int (-1)])) (w' := fr_w) ((ex_stp (ins := .iconst (-1)) rfl).trans rfl) ?_
    exact Go.ret ((ex_stp (ins := .ireturn) rfl).trans rfl)
set_option maxRecDepth 100000 in
theorem ao_7_b (x1 : Int32) (g0 : 12 < x1.toInt) : A2 mt_17 mt_18 [.int x1] := by
  refine ⟨(-1), fr_w, fr_w, _, ?_, rfl, ?_⟩
  · show Go [] 39 mt_17 (0, [some (.ref 0), some (.int x1)], []) fr_w _
    refine Go.next (f' := (1, [some (.ref 0), some (.int x1)], [.ref 0])) (w' := fr_w) ((ex_stp (ins := .aload_n 0) rfl).trans rfl) ?_
    refine Go.next (f' := (4, [some (.ref 0), some (.int x1)], [.ref 1])) (w' := fr_w) ((ex_stp (ins := .getfield 10) rfl).trans rfl) ?_
    refine Go.next (f' := (5, [some (.ref 0), some (.int x1)], [.int x1, .ref 1])) (w' := fr_w) ((ex_stp (ins := .iload_n 1) rfl).trans rfl) ?_
    have h_14 : Go [] 38 mt_101 (ex_ent mt_101 [.ref 1, .int x1]) fr_w (some (.int 0), fr_w) := by
      show Go [] 38 mt_101 (0, [some (.ref 1), some (.int x1)], []) fr_w _
      refine Go.next (f' := (1, [some (.ref 1), some (.int x1)], [.int x1])) (w' := fr_w) ((ex_stp (ins := .iload_n 1) rfl).trans rfl) ?_
      refine Go.next (f' := (2, [some (.ref 1), some (.int x1)], [.int 1, .int x1])) (w' := fr_w) ((ex_stp (ins := .iconst 1) rfl).trans rfl) ?_
      refine Go.next (f' := (5, [some (.ref 1), some (.int x1)], [])) (w' := fr_w) ((ex_stp (ins := .if_icmp .lt 21) rfl).trans (ex_b2_f (c := .lt) (off := 21) (pc := 2) (lo := [some (.ref 1), some (.int x1)]) (x := x1) (y := 1) (r := []) (by rw [c2_lt]; exact decide_eq_false (by show ¬ (x1.toInt < (1 : Int)); omega)) (by decide))) ?_
      refine Go.next (f' := (6, [some (.ref 1), some (.int x1)], [.int x1])) (w' := fr_w) ((ex_stp (ins := .iload_n 1) rfl).trans rfl) ?_
      refine Go.next (f' := (7, [some (.ref 1), some (.int x1)], [.ref 1, .int x1])) (w' := fr_w) ((ex_stp (ins := .aload_n 0) rfl).trans rfl) ?_
      refine Go.next (f' := (10, [some (.ref 1), some (.int x1)], [.int 12, .int x1])) (w' := fr_w) ((ex_stp (ins := .getfield 33) rfl).trans rfl) ?_
      refine Go.next (f' := (23, [some (.ref 1), some (.int x1)], [])) (w' := fr_w) ((ex_stp (ins := .if_icmp .gt 13) rfl).trans (ex_b2_t (c := .gt) (off := 13) (pc := 10) (lo := [some (.ref 1), some (.int x1)]) (x := x1) (y := 12) (r := []) (by rw [c2_gt]; exact decide_eq_true (by show (12 : Int) < x1.toInt; omega)) (by decide))) ?_
      refine Go.next (f' := (24, [some (.ref 1), some (.int x1)], [.int 0])) (w' := fr_w) ((ex_stp (ins := .iconst 0) rfl).trans rfl) ?_
      exact Go.ret ((ex_stp (ins := .ireturn) rfl).trans rfl)
    refine Go.call (d := 38) (cal := 101) (as := [.ref 1, .int x1]) (g := (8, [some (.ref 0), some (.int x1)], [])) (M' := mt_101) (r := some (.int 0)) (w' := fr_w) ((ex_stp (ins := .invokevirtual 132) rfl).trans rfl) rfl (Nat.le_of_ble_eq_true rfl) h_14 ?_
    show Go [] 39 mt_17 (8, [some (.ref 0), some (.int x1)], [.int 0]) fr_w _
    refine Go.next (f' := (23, [some (.ref 0), some (.int x1)], [])) (w' := fr_w) ((ex_stp (ins := .ifCond .eq 15) rfl).trans rfl) ?_
    refine Go.next (f' := (24, [some (.ref 0), some (.int x1)], [.int (-1)])) (w' := fr_w) ((ex_stp (ins := .iconst (-1)) rfl).trans rfl) ?_
    exact Go.ret ((ex_stp (ins := .ireturn) rfl).trans rfl)
  · show Go [] 39 mt_18 (0, [some (.ref 59), some (.int x1)], []) fr_w _
    refine Go.next (f' := (1, [some (.ref 59), some (.int x1)], [.ref 59])) (w' := fr_w) ((ex_stp (ins := .aload_n 0) rfl).trans rfl) ?_
    refine Go.next (f' := (2, [some (.ref 59), some (.int x1)], [.int x1, .ref 59])) (w' := fr_w) ((ex_stp (ins := .iload_n 1) rfl).trans rfl) ?_
    have h_15 : Go [] 38 mt_102 (ex_ent mt_102 [.ref 59, .int x1]) fr_w (some (.int 0), fr_w) := by
      show Go [] 38 mt_102 (0, [some (.ref 59), some (.int x1)], []) fr_w _
      refine Go.next (f' := (1, [some (.ref 59), some (.int x1)], [.int x1])) (w' := fr_w) ((ex_stp (ins := .iload_n 1) rfl).trans rfl) ?_
      refine Go.next (f' := (2, [some (.ref 59), some (.int x1)], [.long (x1).toInt64])) (w' := fr_w) ((ex_stp (ins := .i2l) rfl).trans rfl) ?_
      refine Go.next (f' := (3, [some (.ref 59), some (.int x1)], [.long 1, .long (x1).toInt64])) (w' := fr_w) ((ex_stp (ins := .lconst 1) rfl).trans rfl) ?_
      refine Go.next (f' := (4, [some (.ref 59), some (.int x1)], [.ref 59, .long 1, .long (x1).toInt64])) (w' := fr_w) ((ex_stp (ins := .aload_n 0) rfl).trans rfl) ?_
      refine Go.next (f' := (7, [some (.ref 59), some (.int x1)], [.int 12, .long 1, .long (x1).toInt64])) (w' := fr_w) ((ex_stp (ins := .getfield 81) rfl).trans rfl) ?_
      refine Go.next (f' := (8, [some (.ref 59), some (.int x1)], [.long 12, .long 1, .long (x1).toInt64])) (w' := fr_w) ((ex_stp (ins := .i2l) rfl).trans rfl) ?_
      have h_16 : Go [] 37 mt_93 (ex_ent mt_93 [.long (x1).toInt64, .long 1, .long 12]) fr_w (some (.int 0), fr_w) := by
        show Go [] 37 mt_93 (0, [some (.long (x1).toInt64), none, some (.long 1), none, some (.long 12), none], []) fr_w _
        refine Go.next (f' := (1, [some (.long (x1).toInt64), none, some (.long 1), none, some (.long 12), none], [.long (x1).toInt64])) (w' := fr_w) ((ex_stp (ins := .lload_n 0) rfl).trans rfl) ?_
        refine Go.next (f' := (2, [some (.long (x1).toInt64), none, some (.long 1), none, some (.long 12), none], [.long 1, .long (x1).toInt64])) (w' := fr_w) ((ex_stp (ins := .lload_n 2) rfl).trans rfl) ?_
        refine Go.next (f' := (3, [some (.long (x1).toInt64), none, some (.long 1), none, some (.long 12), none], [.int (lg_cmp (x1).toInt64 1)])) (w' := fr_w) ((ex_stp (ins := .lcmp) rfl).trans rfl) ?_
        refine Go.next (f' := (6, [some (.long (x1).toInt64), none, some (.long 1), none, some (.long 12), none], [])) (w' := fr_w) ((ex_stp (ins := .ifCond .lt 14) rfl).trans (ex_b0_f (c := .lt) (off := 14) (pc := 3) (lo := [some (.long (x1).toInt64), none, some (.long 1), none, some (.long 12), none]) (x := (lg_cmp (x1).toInt64 1)) (r := []) (by rw [cl_lt]; exact decide_eq_false (by first | (rw [Int32.toInt_toInt64]; show ¬ (x1.toInt < (1 : Int)); omega) | omega)) (by decide))) ?_
        refine Go.next (f' := (7, [some (.long (x1).toInt64), none, some (.long 1), none, some (.long 12), none], [.long (x1).toInt64])) (w' := fr_w) ((ex_stp (ins := .lload_n 0) rfl).trans rfl) ?_
        refine Go.next (f' := (9, [some (.long (x1).toInt64), none, some (.long 1), none, some (.long 12), none], [.long 12, .long (x1).toInt64])) (w' := fr_w) ((ex_stp (ins := .lload 4) rfl).trans rfl) ?_
        refine Go.next (f' := (10, [some (.long (x1).toInt64), none, some (.long 1), none, some (.long 12), none], [.int (lg_cmp (x1).toInt64 12)])) (w' := fr_w) ((ex_stp (ins := .lcmp) rfl).trans rfl) ?_
        refine Go.next (f' := (17, [some (.long (x1).toInt64), none, some (.long 1), none, some (.long 12), none], [])) (w' := fr_w) ((ex_stp (ins := .ifCond .gt 7) rfl).trans (ex_b0_t (c := .gt) (off := 7) (pc := 10) (lo := [some (.long (x1).toInt64), none, some (.long 1), none, some (.long 12), none]) (x := (lg_cmp (x1).toInt64 12)) (r := []) (by rw [cl_gt]; exact decide_eq_true (by first | (rw [Int32.toInt_toInt64]; show (12 : Int) < x1.toInt; omega) | omega)) (by decide))) ?_
        refine Go.next (f' := (18, [some (.long (x1).toInt64), none, some (.long 1), none, some (.long 12), none], [.int 0])) (w' := fr_w) ((ex_stp (ins := .iconst 0) rfl).trans rfl) ?_
        exact Go.ret ((ex_stp (ins := .ireturn) rfl).trans rfl)
      refine Go.call (d := 37) (cal := 93) (as := [.long (x1).toInt64, .long 1, .long 12]) (g := (11, [some (.ref 59), some (.int x1)], [])) (M' := mt_93) (r := some (.int 0)) (w' := fr_w) ((ex_stp (ins := .invokestatic 95) rfl).trans rfl) rfl (Nat.le_of_ble_eq_true rfl) h_16 ?_
      show Go [] 38 mt_102 (11, [some (.ref 59), some (.int x1)], [.int 0]) fr_w _
      exact Go.ret ((ex_stp (ins := .ireturn) rfl).trans rfl)
    refine Go.call (d := 38) (cal := 102) (as := [.ref 59, .int x1]) (g := (5, [some (.ref 59), some (.int x1)], [])) (M' := mt_102) (r := some (.int 0)) (w' := fr_w) ((ex_stp (ins := .invokevirtual 187) rfl).trans rfl) rfl (Nat.le_of_ble_eq_true rfl) h_15 ?_
    show Go [] 39 mt_18 (5, [some (.ref 59), some (.int x1)], [.int 0]) fr_w _
    refine Go.next (f' := (20, [some (.ref 59), some (.int x1)], [])) (w' := fr_w) ((ex_stp (ins := .ifCond .eq 15) rfl).trans rfl) ?_
    refine Go.next (f' := (21, [some (.ref 59), some (.int x1)], [.int (-1)])) (w' := fr_w) ((ex_stp (ins := .iconst (-1)) rfl).trans rfl) ?_
    exact Go.ret ((ex_stp (ins := .ireturn) rfl).trans rfl)
set_option maxRecDepth 100000 in
theorem ao_8_a (x1 : Int32) (g0 : x1.toInt < 0) : A2 mt_19 mt_20 [.int x1] := by
  refine ⟨(-1), fr_w, fr_w, _, ?_, rfl, ?_⟩
  · show Go [] 39 mt_19 (0, [some (.ref 0), some (.int x1), none], []) fr_w _
    refine Go.next (f' := (1, [some (.ref 0), some (.int x1), none], [.int x1])) (w' := fr_w) ((ex_stp (ins := .iload_n 1) rfl).trans rfl) ?_
    refine Go.next (f' := (10, [some (.ref 0), some (.int x1), none], [])) (w' := fr_w) ((ex_stp (ins := .ifCond .lt 9) rfl).trans (ex_b0_t (c := .lt) (off := 9) (pc := 1) (lo := [some (.ref 0), some (.int x1), none]) (x := x1) (r := []) (by rw [c0_lt]; exact decide_eq_true (by show x1.toInt < (0 : Int); omega)) (by decide))) ?_
    refine Go.next (f' := (11, [some (.ref 0), some (.int x1), none], [.int (-1)])) (w' := fr_w) ((ex_stp (ins := .iconst (-1)) rfl).trans rfl) ?_
    exact Go.ret ((ex_stp (ins := .ireturn) rfl).trans rfl)
  · show Go [] 39 mt_20 (0, [some (.ref 59), some (.int x1), none], []) fr_w _
    refine Go.next (f' := (1, [some (.ref 59), some (.int x1), none], [.int x1])) (w' := fr_w) ((ex_stp (ins := .iload_n 1) rfl).trans rfl) ?_
    refine Go.next (f' := (2, [some (.ref 59), some (.int x1), none], [.long (x1).toInt64])) (w' := fr_w) ((ex_stp (ins := .i2l) rfl).trans rfl) ?_
    refine Go.next (f' := (3, [some (.ref 59), some (.int x1), none], [.long 0, .long (x1).toInt64])) (w' := fr_w) ((ex_stp (ins := .lconst 0) rfl).trans rfl) ?_
    refine Go.next (f' := (6, [some (.ref 59), some (.int x1), none], [.long 20, .long 0, .long (x1).toInt64])) (w' := fr_w) ((ex_stp (ins := .ldc2_w 190) rfl).trans rfl) ?_
    have h_17 : Go [] 38 mt_93 (ex_ent mt_93 [.long (x1).toInt64, .long 0, .long 20]) fr_w (some (.int 0), fr_w) := by
      show Go [] 38 mt_93 (0, [some (.long (x1).toInt64), none, some (.long 0), none, some (.long 20), none], []) fr_w _
      refine Go.next (f' := (1, [some (.long (x1).toInt64), none, some (.long 0), none, some (.long 20), none], [.long (x1).toInt64])) (w' := fr_w) ((ex_stp (ins := .lload_n 0) rfl).trans rfl) ?_
      refine Go.next (f' := (2, [some (.long (x1).toInt64), none, some (.long 0), none, some (.long 20), none], [.long 0, .long (x1).toInt64])) (w' := fr_w) ((ex_stp (ins := .lload_n 2) rfl).trans rfl) ?_
      refine Go.next (f' := (3, [some (.long (x1).toInt64), none, some (.long 0), none, some (.long 20), none], [.int (lg_cmp (x1).toInt64 0)])) (w' := fr_w) ((ex_stp (ins := .lcmp) rfl).trans rfl) ?_
      refine Go.next (f' := (17, [some (.long (x1).toInt64), none, some (.long 0), none, some (.long 20), none], [])) (w' := fr_w) ((ex_stp (ins := .ifCond .lt 14) rfl).trans (ex_b0_t (c := .lt) (off := 14) (pc := 3) (lo := [some (.long (x1).toInt64), none, some (.long 0), none, some (.long 20), none]) (x := (lg_cmp (x1).toInt64 0)) (r := []) (by rw [cl_lt]; exact decide_eq_true (by first | (rw [Int32.toInt_toInt64]; show x1.toInt < (0 : Int); omega) | omega)) (by decide))) ?_
      refine Go.next (f' := (18, [some (.long (x1).toInt64), none, some (.long 0), none, some (.long 20), none], [.int 0])) (w' := fr_w) ((ex_stp (ins := .iconst 0) rfl).trans rfl) ?_
      exact Go.ret ((ex_stp (ins := .ireturn) rfl).trans rfl)
    refine Go.call (d := 38) (cal := 93) (as := [.long (x1).toInt64, .long 0, .long 20]) (g := (9, [some (.ref 59), some (.int x1), none], [])) (M' := mt_93) (r := some (.int 0)) (w' := fr_w) ((ex_stp (ins := .invokestatic 95) rfl).trans rfl) rfl (Nat.le_of_ble_eq_true rfl) h_17 ?_
    show Go [] 39 mt_20 (9, [some (.ref 59), some (.int x1), none], [.int 0]) fr_w _
    refine Go.next (f' := (12, [some (.ref 59), some (.int x1), none], [])) (w' := fr_w) ((ex_stp (ins := .ifCond .ne 5) rfl).trans rfl) ?_
    refine Go.next (f' := (13, [some (.ref 59), some (.int x1), none], [.int (-1)])) (w' := fr_w) ((ex_stp (ins := .iconst (-1)) rfl).trans rfl) ?_
    exact Go.ret ((ex_stp (ins := .ireturn) rfl).trans rfl)
set_option maxRecDepth 100000 in
theorem ao_8_b (x1 : Int32) (g0 : 20 < x1.toInt) : A2 mt_19 mt_20 [.int x1] := by
  refine ⟨(-1), fr_w, fr_w, _, ?_, rfl, ?_⟩
  · show Go [] 39 mt_19 (0, [some (.ref 0), some (.int x1), none], []) fr_w _
    refine Go.next (f' := (1, [some (.ref 0), some (.int x1), none], [.int x1])) (w' := fr_w) ((ex_stp (ins := .iload_n 1) rfl).trans rfl) ?_
    refine Go.next (f' := (4, [some (.ref 0), some (.int x1), none], [])) (w' := fr_w) ((ex_stp (ins := .ifCond .lt 9) rfl).trans (ex_b0_f (c := .lt) (off := 9) (pc := 1) (lo := [some (.ref 0), some (.int x1), none]) (x := x1) (r := []) (by rw [c0_lt]; exact decide_eq_false (by show ¬ (x1.toInt < (0 : Int)); omega)) (by decide))) ?_
    refine Go.next (f' := (5, [some (.ref 0), some (.int x1), none], [.int x1])) (w' := fr_w) ((ex_stp (ins := .iload_n 1) rfl).trans rfl) ?_
    refine Go.next (f' := (7, [some (.ref 0), some (.int x1), none], [.int 20, .int x1])) (w' := fr_w) ((ex_stp (ins := .bipush 20) rfl).trans rfl) ?_
    refine Go.next (f' := (10, [some (.ref 0), some (.int x1), none], [])) (w' := fr_w) ((ex_stp (ins := .if_icmp .le 5) rfl).trans (ex_b2_f (c := .le) (off := 5) (pc := 7) (lo := [some (.ref 0), some (.int x1), none]) (x := x1) (y := 20) (r := []) (by rw [c2_le]; exact decide_eq_false (by show ¬ (x1.toInt ≤ (20 : Int)); omega)) (by decide))) ?_
    refine Go.next (f' := (11, [some (.ref 0), some (.int x1), none], [.int (-1)])) (w' := fr_w) ((ex_stp (ins := .iconst (-1)) rfl).trans rfl) ?_
    exact Go.ret ((ex_stp (ins := .ireturn) rfl).trans rfl)
  · show Go [] 39 mt_20 (0, [some (.ref 59), some (.int x1), none], []) fr_w _
    refine Go.next (f' := (1, [some (.ref 59), some (.int x1), none], [.int x1])) (w' := fr_w) ((ex_stp (ins := .iload_n 1) rfl).trans rfl) ?_
    refine Go.next (f' := (2, [some (.ref 59), some (.int x1), none], [.long (x1).toInt64])) (w' := fr_w) ((ex_stp (ins := .i2l) rfl).trans rfl) ?_
    refine Go.next (f' := (3, [some (.ref 59), some (.int x1), none], [.long 0, .long (x1).toInt64])) (w' := fr_w) ((ex_stp (ins := .lconst 0) rfl).trans rfl) ?_
    refine Go.next (f' := (6, [some (.ref 59), some (.int x1), none], [.long 20, .long 0, .long (x1).toInt64])) (w' := fr_w) ((ex_stp (ins := .ldc2_w 190) rfl).trans rfl) ?_
    have h_18 : Go [] 38 mt_93 (ex_ent mt_93 [.long (x1).toInt64, .long 0, .long 20]) fr_w (some (.int 0), fr_w) := by
      show Go [] 38 mt_93 (0, [some (.long (x1).toInt64), none, some (.long 0), none, some (.long 20), none], []) fr_w _
      refine Go.next (f' := (1, [some (.long (x1).toInt64), none, some (.long 0), none, some (.long 20), none], [.long (x1).toInt64])) (w' := fr_w) ((ex_stp (ins := .lload_n 0) rfl).trans rfl) ?_
      refine Go.next (f' := (2, [some (.long (x1).toInt64), none, some (.long 0), none, some (.long 20), none], [.long 0, .long (x1).toInt64])) (w' := fr_w) ((ex_stp (ins := .lload_n 2) rfl).trans rfl) ?_
      refine Go.next (f' := (3, [some (.long (x1).toInt64), none, some (.long 0), none, some (.long 20), none], [.int (lg_cmp (x1).toInt64 0)])) (w' := fr_w) ((ex_stp (ins := .lcmp) rfl).trans rfl) ?_
      refine Go.next (f' := (6, [some (.long (x1).toInt64), none, some (.long 0), none, some (.long 20), none], [])) (w' := fr_w) ((ex_stp (ins := .ifCond .lt 14) rfl).trans (ex_b0_f (c := .lt) (off := 14) (pc := 3) (lo := [some (.long (x1).toInt64), none, some (.long 0), none, some (.long 20), none]) (x := (lg_cmp (x1).toInt64 0)) (r := []) (by rw [cl_lt]; exact decide_eq_false (by first | (rw [Int32.toInt_toInt64]; show ¬ (x1.toInt < (0 : Int)); omega) | omega)) (by decide))) ?_
      refine Go.next (f' := (7, [some (.long (x1).toInt64), none, some (.long 0), none, some (.long 20), none], [.long (x1).toInt64])) (w' := fr_w) ((ex_stp (ins := .lload_n 0) rfl).trans rfl) ?_
      refine Go.next (f' := (9, [some (.long (x1).toInt64), none, some (.long 0), none, some (.long 20), none], [.long 20, .long (x1).toInt64])) (w' := fr_w) ((ex_stp (ins := .lload 4) rfl).trans rfl) ?_
      refine Go.next (f' := (10, [some (.long (x1).toInt64), none, some (.long 0), none, some (.long 20), none], [.int (lg_cmp (x1).toInt64 20)])) (w' := fr_w) ((ex_stp (ins := .lcmp) rfl).trans rfl) ?_
      refine Go.next (f' := (17, [some (.long (x1).toInt64), none, some (.long 0), none, some (.long 20), none], [])) (w' := fr_w) ((ex_stp (ins := .ifCond .gt 7) rfl).trans (ex_b0_t (c := .gt) (off := 7) (pc := 10) (lo := [some (.long (x1).toInt64), none, some (.long 0), none, some (.long 20), none]) (x := (lg_cmp (x1).toInt64 20)) (r := []) (by rw [cl_gt]; exact decide_eq_true (by first | (rw [Int32.toInt_toInt64]; show (20 : Int) < x1.toInt; omega) | omega)) (by decide))) ?_
      refine Go.next (f' := (18, [some (.long (x1).toInt64), none, some (.long 0), none, some (.long 20), none], [.int 0])) (w' := fr_w) ((ex_stp (ins := .iconst 0) rfl).trans rfl) ?_
      exact Go.ret ((ex_stp (ins := .ireturn) rfl).trans rfl)
    refine Go.call (d := 38) (cal := 93) (as := [.long (x1).toInt64, .long 0, .long 20]) (g := (9, [some (.ref 59), some (.int x1), none], [])) (M' := mt_93) (r := some (.int 0)) (w' := fr_w) ((ex_stp (ins := .invokestatic 95) rfl).trans rfl) rfl (Nat.le_of_ble_eq_true rfl) h_18 ?_
    show Go [] 39 mt_20 (9, [some (.ref 59), some (.int x1), none], [.int 0]) fr_w _
    refine Go.next (f' := (12, [some (.ref 59), some (.int x1), none], [])) (w' := fr_w) ((ex_stp (ins := .ifCond .ne 5) rfl).trans rfl) ?_
    refine Go.next (f' := (13, [some (.ref 59), some (.int x1), none], [.int (-1)])) (w' := fr_w) ((ex_stp (ins := .iconst (-1)) rfl).trans rfl) ?_
    exact Go.ret ((ex_stp (ins := .ireturn) rfl).trans rfl)
set_option maxRecDepth 100000 in
theorem ao_9_a (x1 : Int32) (g0 : x1.toInt < 0) : A2 mt_21 mt_22 [.int x1] := by
  refine ⟨(-1), fr_w, fr_w, _, ?_, rfl, ?_⟩
  · show Go [] 39 mt_21 (0, [some (.ref 0), some (.int x1), none], []) fr_w _
    refine Go.next (f' := (1, [some (.ref 0), some (.int x1), none], [.int x1])) (w' := fr_w) ((ex_stp (ins := .iload_n 1) rfl).trans rfl) ?_
    refine Go.next (f' := (9, [some (.ref 0), some (.int x1), none], [])) (w' := fr_w) ((ex_stp (ins := .ifCond .lt 8) rfl).trans (ex_b0_t (c := .lt) (off := 8) (pc := 1) (lo := [some (.ref 0), some (.int x1), none]) (x := x1) (r := []) (by rw [c0_lt]; exact decide_eq_true (by show x1.toInt < (0 : Int); omega)) (by decide))) ?_
    refine Go.next (f' := (10, [some (.ref 0), some (.int x1), none], [.int (-1)])) (w' := fr_w) ((ex_stp (ins := .iconst (-1)) rfl).trans rfl) ?_
    exact Go.ret ((ex_stp (ins := .ireturn) rfl).trans rfl)
  · show Go [] 39 mt_22 (0, [some (.ref 59), some (.int x1), none], []) fr_w _
    refine Go.next (f' := (1, [some (.ref 59), some (.int x1), none], [.int x1])) (w' := fr_w) ((ex_stp (ins := .iload_n 1) rfl).trans rfl) ?_
    refine Go.next (f' := (2, [some (.ref 59), some (.int x1), none], [.long (x1).toInt64])) (w' := fr_w) ((ex_stp (ins := .i2l) rfl).trans rfl) ?_
    refine Go.next (f' := (3, [some (.ref 59), some (.int x1), none], [.long 0, .long (x1).toInt64])) (w' := fr_w) ((ex_stp (ins := .lconst 0) rfl).trans rfl) ?_
    refine Go.next (f' := (4, [some (.ref 59), some (.int x1), none], [.long 1, .long 0, .long (x1).toInt64])) (w' := fr_w) ((ex_stp (ins := .lconst 1) rfl).trans rfl) ?_
    have h_19 : Go [] 38 mt_93 (ex_ent mt_93 [.long (x1).toInt64, .long 0, .long 1]) fr_w (some (.int 0), fr_w) := by
      show Go [] 38 mt_93 (0, [some (.long (x1).toInt64), none, some (.long 0), none, some (.long 1), none], []) fr_w _
      refine Go.next (f' := (1, [some (.long (x1).toInt64), none, some (.long 0), none, some (.long 1), none], [.long (x1).toInt64])) (w' := fr_w) ((ex_stp (ins := .lload_n 0) rfl).trans rfl) ?_
      refine Go.next (f' := (2, [some (.long (x1).toInt64), none, some (.long 0), none, some (.long 1), none], [.long 0, .long (x1).toInt64])) (w' := fr_w) ((ex_stp (ins := .lload_n 2) rfl).trans rfl) ?_
      refine Go.next (f' := (3, [some (.long (x1).toInt64), none, some (.long 0), none, some (.long 1), none], [.int (lg_cmp (x1).toInt64 0)])) (w' := fr_w) ((ex_stp (ins := .lcmp) rfl).trans rfl) ?_
      refine Go.next (f' := (17, [some (.long (x1).toInt64), none, some (.long 0), none, some (.long 1), none], [])) (w' := fr_w) ((ex_stp (ins := .ifCond .lt 14) rfl).trans (ex_b0_t (c := .lt) (off := 14) (pc := 3) (lo := [some (.long (x1).toInt64), none, some (.long 0), none, some (.long 1), none]) (x := (lg_cmp (x1).toInt64 0)) (r := []) (by rw [cl_lt]; exact decide_eq_true (by first | (rw [Int32.toInt_toInt64]; show x1.toInt < (0 : Int); omega) | omega)) (by decide))) ?_
      refine Go.next (f' := (18, [some (.long (x1).toInt64), none, some (.long 0), none, some (.long 1), none], [.int 0])) (w' := fr_w) ((ex_stp (ins := .iconst 0) rfl).trans rfl) ?_
      exact Go.ret ((ex_stp (ins := .ireturn) rfl).trans rfl)
    refine Go.call (d := 38) (cal := 93) (as := [.long (x1).toInt64, .long 0, .long 1]) (g := (7, [some (.ref 59), some (.int x1), none], [])) (M' := mt_93) (r := some (.int 0)) (w' := fr_w) ((ex_stp (ins := .invokestatic 95) rfl).trans rfl) rfl (Nat.le_of_ble_eq_true rfl) h_19 ?_
    show Go [] 39 mt_22 (7, [some (.ref 59), some (.int x1), none], [.int 0]) fr_w _
    refine Go.next (f' := (10, [some (.ref 59), some (.int x1), none], [])) (w' := fr_w) ((ex_stp (ins := .ifCond .ne 5) rfl).trans rfl) ?_
    refine Go.next (f' := (11, [some (.ref 59), some (.int x1), none], [.int (-1)])) (w' := fr_w) ((ex_stp (ins := .iconst (-1)) rfl).trans rfl) ?_
    exact Go.ret ((ex_stp (ins := .ireturn) rfl).trans rfl)
set_option maxRecDepth 100000 in
theorem ao_9_b (x1 : Int32) (g0 : 1 < x1.toInt) : A2 mt_21 mt_22 [.int x1] := by
  refine ⟨(-1), fr_w, fr_w, _, ?_, rfl, ?_⟩
  · show Go [] 39 mt_21 (0, [some (.ref 0), some (.int x1), none], []) fr_w _
    refine Go.next (f' := (1, [some (.ref 0), some (.int x1), none], [.int x1])) (w' := fr_w) ((ex_stp (ins := .iload_n 1) rfl).trans rfl) ?_
    refine Go.next (f' := (4, [some (.ref 0), some (.int x1), none], [])) (w' := fr_w) ((ex_stp (ins := .ifCond .lt 8) rfl).trans (ex_b0_f (c := .lt) (off := 8) (pc := 1) (lo := [some (.ref 0), some (.int x1), none]) (x := x1) (r := []) (by rw [c0_lt]; exact decide_eq_false (by show ¬ (x1.toInt < (0 : Int)); omega)) (by decide))) ?_
    refine Go.next (f' := (5, [some (.ref 0), some (.int x1), none], [.int x1])) (w' := fr_w) ((ex_stp (ins := .iload_n 1) rfl).trans rfl) ?_
    refine Go.next (f' := (6, [some (.ref 0), some (.int x1), none], [.int 1, .int x1])) (w' := fr_w) ((ex_stp (ins := .iconst 1) rfl).trans rfl) ?_
    refine Go.next (f' := (9, [some (.ref 0), some (.int x1), none], [])) (w' := fr_w) ((ex_stp (ins := .if_icmp .le 5) rfl).trans (ex_b2_f (c := .le) (off := 5) (pc := 6) (lo := [some (.ref 0), some (.int x1), none]) (x := x1) (y := 1) (r := []) (by rw [c2_le]; exact decide_eq_false (by show ¬ (x1.toInt ≤ (1 : Int)); omega)) (by decide))) ?_
    refine Go.next (f' := (10, [some (.ref 0), some (.int x1), none], [.int (-1)])) (w' := fr_w) ((ex_stp (ins := .iconst (-1)) rfl).trans rfl) ?_
    exact Go.ret ((ex_stp (ins := .ireturn) rfl).trans rfl)
  · show Go [] 39 mt_22 (0, [some (.ref 59), some (.int x1), none], []) fr_w _
    refine Go.next (f' := (1, [some (.ref 59), some (.int x1), none], [.int x1])) (w' := fr_w) ((ex_stp (ins := .iload_n 1) rfl).trans rfl) ?_
    refine Go.next (f' := (2, [some (.ref 59), some (.int x1), none], [.long (x1).toInt64])) (w' := fr_w) ((ex_stp (ins := .i2l) rfl).trans rfl) ?_
    refine Go.next (f' := (3, [some (.ref 59), some (.int x1), none], [.long 0, .long (x1).toInt64])) (w' := fr_w) ((ex_stp (ins := .lconst 0) rfl).trans rfl) ?_
    refine Go.next (f' := (4, [some (.ref 59), some (.int x1), none], [.long 1, .long 0, .long (x1).toInt64])) (w' := fr_w) ((ex_stp (ins := .lconst 1) rfl).trans rfl) ?_
    have h_20 : Go [] 38 mt_93 (ex_ent mt_93 [.long (x1).toInt64, .long 0, .long 1]) fr_w (some (.int 0), fr_w) := by
      show Go [] 38 mt_93 (0, [some (.long (x1).toInt64), none, some (.long 0), none, some (.long 1), none], []) fr_w _
      refine Go.next (f' := (1, [some (.long (x1).toInt64), none, some (.long 0), none, some (.long 1), none], [.long (x1).toInt64])) (w' := fr_w) ((ex_stp (ins := .lload_n 0) rfl).trans rfl) ?_
      refine Go.next (f' := (2, [some (.long (x1).toInt64), none, some (.long 0), none, some (.long 1), none], [.long 0, .long (x1).toInt64])) (w' := fr_w) ((ex_stp (ins := .lload_n 2) rfl).trans rfl) ?_
      refine Go.next (f' := (3, [some (.long (x1).toInt64), none, some (.long 0), none, some (.long 1), none], [.int (lg_cmp (x1).toInt64 0)])) (w' := fr_w) ((ex_stp (ins := .lcmp) rfl).trans rfl) ?_
      refine Go.next (f' := (6, [some (.long (x1).toInt64), none, some (.long 0), none, some (.long 1), none], [])) (w' := fr_w) ((ex_stp (ins := .ifCond .lt 14) rfl).trans (ex_b0_f (c := .lt) (off := 14) (pc := 3) (lo := [some (.long (x1).toInt64), none, some (.long 0), none, some (.long 1), none]) (x := (lg_cmp (x1).toInt64 0)) (r := []) (by rw [cl_lt]; exact decide_eq_false (by first | (rw [Int32.toInt_toInt64]; show ¬ (x1.toInt < (0 : Int)); omega) | omega)) (by decide))) ?_
      refine Go.next (f' := (7, [some (.long (x1).toInt64), none, some (.long 0), none, some (.long 1), none], [.long (x1).toInt64])) (w' := fr_w) ((ex_stp (ins := .lload_n 0) rfl).trans rfl) ?_
      refine Go.next (f' := (9, [some (.long (x1).toInt64), none, some (.long 0), none, some (.long 1), none], [.long 1, .long (x1).toInt64])) (w' := fr_w) ((ex_stp (ins := .lload 4) rfl).trans rfl) ?_
      refine Go.next (f' := (10, [some (.long (x1).toInt64), none, some (.long 0), none, some (.long 1), none], [.int (lg_cmp (x1).toInt64 1)])) (w' := fr_w) ((ex_stp (ins := .lcmp) rfl).trans rfl) ?_
      refine Go.next (f' := (17, [some (.long (x1).toInt64), none, some (.long 0), none, some (.long 1), none], [])) (w' := fr_w) ((ex_stp (ins := .ifCond .gt 7) rfl).trans (ex_b0_t (c := .gt) (off := 7) (pc := 10) (lo := [some (.long (x1).toInt64), none, some (.long 0), none, some (.long 1), none]) (x := (lg_cmp (x1).toInt64 1)) (r := []) (by rw [cl_gt]; exact decide_eq_true (by first | (rw [Int32.toInt_toInt64]; show (1 : Int) < x1.toInt; omega) | omega)) (by decide))) ?_
      refine Go.next (f' := (18, [some (.long (x1).toInt64), none, some (.long 0), none, some (.long 1), none], [.int 0])) (w' := fr_w) ((ex_stp (ins := .iconst 0) rfl).trans rfl) ?_
      exact Go.ret ((ex_stp (ins := .ireturn) rfl).trans rfl)
    refine Go.call (d := 38) (cal := 93) (as := [.long (x1).toInt64, .long 0, .long 1]) (g := (7, [some (.ref 59), some (.int x1), none], [])) (M' := mt_93) (r := some (.int 0)) (w' := fr_w) ((ex_stp (ins := .invokestatic 95) rfl).trans rfl) rfl (Nat.le_of_ble_eq_true rfl) h_20 ?_
    show Go [] 39 mt_22 (7, [some (.ref 59), some (.int x1), none], [.int 0]) fr_w _
    refine Go.next (f' := (10, [some (.ref 59), some (.int x1), none], [])) (w' := fr_w) ((ex_stp (ins := .ifCond .ne 5) rfl).trans rfl) ?_
    refine Go.next (f' := (11, [some (.ref 59), some (.int x1), none], [.int (-1)])) (w' := fr_w) ((ex_stp (ins := .iconst (-1)) rfl).trans rfl) ?_
    exact Go.ret ((ex_stp (ins := .ireturn) rfl).trans rfl)
set_option maxRecDepth 100000 in
theorem ao_10_a (x1 : Int32) (g0 : x1.toInt < 0) : A2 mt_23 mt_24 [.int x1] := by
  refine ⟨(-1), fr_w, fr_w, _, ?_, rfl, ?_⟩
  · show Go [] 39 mt_23 (0, [some (.ref 0), some (.int x1), none], []) fr_w _
    refine Go.next (f' := (1, [some (.ref 0), some (.int x1), none], [.int x1])) (w' := fr_w) ((ex_stp (ins := .iload_n 1) rfl).trans rfl) ?_
    refine Go.next (f' := (9, [some (.ref 0), some (.int x1), none], [])) (w' := fr_w) ((ex_stp (ins := .ifCond .lt 8) rfl).trans (ex_b0_t (c := .lt) (off := 8) (pc := 1) (lo := [some (.ref 0), some (.int x1), none]) (x := x1) (r := []) (by rw [c0_lt]; exact decide_eq_true (by show x1.toInt < (0 : Int); omega)) (by decide))) ?_
    refine Go.next (f' := (10, [some (.ref 0), some (.int x1), none], [.int (-1)])) (w' := fr_w) ((ex_stp (ins := .iconst (-1)) rfl).trans rfl) ?_
    exact Go.ret ((ex_stp (ins := .ireturn) rfl).trans rfl)
  · show Go [] 39 mt_24 (0, [some (.ref 59), some (.int x1), none], []) fr_w _
    refine Go.next (f' := (1, [some (.ref 59), some (.int x1), none], [.int x1])) (w' := fr_w) ((ex_stp (ins := .iload_n 1) rfl).trans rfl) ?_
    refine Go.next (f' := (2, [some (.ref 59), some (.int x1), none], [.long (x1).toInt64])) (w' := fr_w) ((ex_stp (ins := .i2l) rfl).trans rfl) ?_
    refine Go.next (f' := (3, [some (.ref 59), some (.int x1), none], [.long 0, .long (x1).toInt64])) (w' := fr_w) ((ex_stp (ins := .lconst 0) rfl).trans rfl) ?_
    refine Go.next (f' := (6, [some (.ref 59), some (.int x1), none], [.long 2, .long 0, .long (x1).toInt64])) (w' := fr_w) ((ex_stp (ins := .ldc2_w 192) rfl).trans rfl) ?_
    have h_21 : Go [] 38 mt_93 (ex_ent mt_93 [.long (x1).toInt64, .long 0, .long 2]) fr_w (some (.int 0), fr_w) := by
      show Go [] 38 mt_93 (0, [some (.long (x1).toInt64), none, some (.long 0), none, some (.long 2), none], []) fr_w _
      refine Go.next (f' := (1, [some (.long (x1).toInt64), none, some (.long 0), none, some (.long 2), none], [.long (x1).toInt64])) (w' := fr_w) ((ex_stp (ins := .lload_n 0) rfl).trans rfl) ?_
      refine Go.next (f' := (2, [some (.long (x1).toInt64), none, some (.long 0), none, some (.long 2), none], [.long 0, .long (x1).toInt64])) (w' := fr_w) ((ex_stp (ins := .lload_n 2) rfl).trans rfl) ?_
      refine Go.next (f' := (3, [some (.long (x1).toInt64), none, some (.long 0), none, some (.long 2), none], [.int (lg_cmp (x1).toInt64 0)])) (w' := fr_w) ((ex_stp (ins := .lcmp) rfl).trans rfl) ?_
      refine Go.next (f' := (17, [some (.long (x1).toInt64), none, some (.long 0), none, some (.long 2), none], [])) (w' := fr_w) ((ex_stp (ins := .ifCond .lt 14) rfl).trans (ex_b0_t (c := .lt) (off := 14) (pc := 3) (lo := [some (.long (x1).toInt64), none, some (.long 0), none, some (.long 2), none]) (x := (lg_cmp (x1).toInt64 0)) (r := []) (by rw [cl_lt]; exact decide_eq_true (by first | (rw [Int32.toInt_toInt64]; show x1.toInt < (0 : Int); omega) | omega)) (by decide))) ?_
      refine Go.next (f' := (18, [some (.long (x1).toInt64), none, some (.long 0), none, some (.long 2), none], [.int 0])) (w' := fr_w) ((ex_stp (ins := .iconst 0) rfl).trans rfl) ?_
      exact Go.ret ((ex_stp (ins := .ireturn) rfl).trans rfl)
    refine Go.call (d := 38) (cal := 93) (as := [.long (x1).toInt64, .long 0, .long 2]) (g := (9, [some (.ref 59), some (.int x1), none], [])) (M' := mt_93) (r := some (.int 0)) (w' := fr_w) ((ex_stp (ins := .invokestatic 95) rfl).trans rfl) rfl (Nat.le_of_ble_eq_true rfl) h_21 ?_
    show Go [] 39 mt_24 (9, [some (.ref 59), some (.int x1), none], [.int 0]) fr_w _
    refine Go.next (f' := (12, [some (.ref 59), some (.int x1), none], [])) (w' := fr_w) ((ex_stp (ins := .ifCond .ne 5) rfl).trans rfl) ?_
    refine Go.next (f' := (13, [some (.ref 59), some (.int x1), none], [.int (-1)])) (w' := fr_w) ((ex_stp (ins := .iconst (-1)) rfl).trans rfl) ?_
    exact Go.ret ((ex_stp (ins := .ireturn) rfl).trans rfl)
set_option maxRecDepth 100000 in
theorem ao_10_b (x1 : Int32) (g0 : 2 < x1.toInt) : A2 mt_23 mt_24 [.int x1] := by
  refine ⟨(-1), fr_w, fr_w, _, ?_, rfl, ?_⟩
  · show Go [] 39 mt_23 (0, [some (.ref 0), some (.int x1), none], []) fr_w _
    refine Go.next (f' := (1, [some (.ref 0), some (.int x1), none], [.int x1])) (w' := fr_w) ((ex_stp (ins := .iload_n 1) rfl).trans rfl) ?_
    refine Go.next (f' := (4, [some (.ref 0), some (.int x1), none], [])) (w' := fr_w) ((ex_stp (ins := .ifCond .lt 8) rfl).trans (ex_b0_f (c := .lt) (off := 8) (pc := 1) (lo := [some (.ref 0), some (.int x1), none]) (x := x1) (r := []) (by rw [c0_lt]; exact decide_eq_false (by show ¬ (x1.toInt < (0 : Int)); omega)) (by decide))) ?_
    refine Go.next (f' := (5, [some (.ref 0), some (.int x1), none], [.int x1])) (w' := fr_w) ((ex_stp (ins := .iload_n 1) rfl).trans rfl) ?_
    refine Go.next (f' := (6, [some (.ref 0), some (.int x1), none], [.int 2, .int x1])) (w' := fr_w) ((ex_stp (ins := .iconst 2) rfl).trans rfl) ?_
    refine Go.next (f' := (9, [some (.ref 0), some (.int x1), none], [])) (w' := fr_w) ((ex_stp (ins := .if_icmp .le 5) rfl).trans (ex_b2_f (c := .le) (off := 5) (pc := 6) (lo := [some (.ref 0), some (.int x1), none]) (x := x1) (y := 2) (r := []) (by rw [c2_le]; exact decide_eq_false (by show ¬ (x1.toInt ≤ (2 : Int)); omega)) (by decide))) ?_
    refine Go.next (f' := (10, [some (.ref 0), some (.int x1), none], [.int (-1)])) (w' := fr_w) ((ex_stp (ins := .iconst (-1)) rfl).trans rfl) ?_
    exact Go.ret ((ex_stp (ins := .ireturn) rfl).trans rfl)
  · show Go [] 39 mt_24 (0, [some (.ref 59), some (.int x1), none], []) fr_w _
    refine Go.next (f' := (1, [some (.ref 59), some (.int x1), none], [.int x1])) (w' := fr_w) ((ex_stp (ins := .iload_n 1) rfl).trans rfl) ?_
    refine Go.next (f' := (2, [some (.ref 59), some (.int x1), none], [.long (x1).toInt64])) (w' := fr_w) ((ex_stp (ins := .i2l) rfl).trans rfl) ?_
    refine Go.next (f' := (3, [some (.ref 59), some (.int x1), none], [.long 0, .long (x1).toInt64])) (w' := fr_w) ((ex_stp (ins := .lconst 0) rfl).trans rfl) ?_
    refine Go.next (f' := (6, [some (.ref 59), some (.int x1), none], [.long 2, .long 0, .long (x1).toInt64])) (w' := fr_w) ((ex_stp (ins := .ldc2_w 192) rfl).trans rfl) ?_
    have h_22 : Go [] 38 mt_93 (ex_ent mt_93 [.long (x1).toInt64, .long 0, .long 2]) fr_w (some (.int 0), fr_w) := by
      show Go [] 38 mt_93 (0, [some (.long (x1).toInt64), none, some (.long 0), none, some (.long 2), none], []) fr_w _
      refine Go.next (f' := (1, [some (.long (x1).toInt64), none, some (.long 0), none, some (.long 2), none], [.long (x1).toInt64])) (w' := fr_w) ((ex_stp (ins := .lload_n 0) rfl).trans rfl) ?_
      refine Go.next (f' := (2, [some (.long (x1).toInt64), none, some (.long 0), none, some (.long 2), none], [.long 0, .long (x1).toInt64])) (w' := fr_w) ((ex_stp (ins := .lload_n 2) rfl).trans rfl) ?_
      refine Go.next (f' := (3, [some (.long (x1).toInt64), none, some (.long 0), none, some (.long 2), none], [.int (lg_cmp (x1).toInt64 0)])) (w' := fr_w) ((ex_stp (ins := .lcmp) rfl).trans rfl) ?_
      refine Go.next (f' := (6, [some (.long (x1).toInt64), none, some (.long 0), none, some (.long 2), none], [])) (w' := fr_w) ((ex_stp (ins := .ifCond .lt 14) rfl).trans (ex_b0_f (c := .lt) (off := 14) (pc := 3) (lo := [some (.long (x1).toInt64), none, some (.long 0), none, some (.long 2), none]) (x := (lg_cmp (x1).toInt64 0)) (r := []) (by rw [cl_lt]; exact decide_eq_false (by first | (rw [Int32.toInt_toInt64]; show ¬ (x1.toInt < (0 : Int)); omega) | omega)) (by decide))) ?_
      refine Go.next (f' := (7, [some (.long (x1).toInt64), none, some (.long 0), none, some (.long 2), none], [.long (x1).toInt64])) (w' := fr_w) ((ex_stp (ins := .lload_n 0) rfl).trans rfl) ?_
      refine Go.next (f' := (9, [some (.long (x1).toInt64), none, some (.long 0), none, some (.long 2), none], [.long 2, .long (x1).toInt64])) (w' := fr_w) ((ex_stp (ins := .lload 4) rfl).trans rfl) ?_
      refine Go.next (f' := (10, [some (.long (x1).toInt64), none, some (.long 0), none, some (.long 2), none], [.int (lg_cmp (x1).toInt64 2)])) (w' := fr_w) ((ex_stp (ins := .lcmp) rfl).trans rfl) ?_
      refine Go.next (f' := (17, [some (.long (x1).toInt64), none, some (.long 0), none, some (.long 2), none], [])) (w' := fr_w) ((ex_stp (ins := .ifCond .gt 7) rfl).trans (ex_b0_t (c := .gt) (off := 7) (pc := 10) (lo := [some (.long (x1).toInt64), none, some (.long 0), none, some (.long 2), none]) (x := (lg_cmp (x1).toInt64 2)) (r := []) (by rw [cl_gt]; exact decide_eq_true (by first | (rw [Int32.toInt_toInt64]; show (2 : Int) < x1.toInt; omega) | omega)) (by decide))) ?_
      refine Go.next (f' := (18, [some (.long (x1).toInt64), none, some (.long 0), none, some (.long 2), none], [.int 0])) (w' := fr_w) ((ex_stp (ins := .iconst 0) rfl).trans rfl) ?_
      exact Go.ret ((ex_stp (ins := .ireturn) rfl).trans rfl)
    refine Go.call (d := 38) (cal := 93) (as := [.long (x1).toInt64, .long 0, .long 2]) (g := (9, [some (.ref 59), some (.int x1), none], [])) (M' := mt_93) (r := some (.int 0)) (w' := fr_w) ((ex_stp (ins := .invokestatic 95) rfl).trans rfl) rfl (Nat.le_of_ble_eq_true rfl) h_22 ?_
    show Go [] 39 mt_24 (9, [some (.ref 59), some (.int x1), none], [.int 0]) fr_w _
    refine Go.next (f' := (12, [some (.ref 59), some (.int x1), none], [])) (w' := fr_w) ((ex_stp (ins := .ifCond .ne 5) rfl).trans rfl) ?_
    refine Go.next (f' := (13, [some (.ref 59), some (.int x1), none], [.int (-1)])) (w' := fr_w) ((ex_stp (ins := .iconst (-1)) rfl).trans rfl) ?_
    exact Go.ret ((ex_stp (ins := .ireturn) rfl).trans rfl)
set_option maxRecDepth 100000 in
theorem ao_11_a (x1 x2 : Int32) (g0 : x1.toInt < 1) : A2 mt_25 mt_26 [.int x1, .int x2] := by
  refine ⟨(-1), fr_w, fr_w, _, ?_, rfl, ?_⟩
  · show Go [] 39 mt_25 (0, [some (.ref 0), some (.int x1), some (.int x2), none], []) fr_w _
    refine Go.next (f' := (1, [some (.ref 0), some (.int x1), some (.int x2), none], [.ref 0])) (w' := fr_w) ((ex_stp (ins := .aload_n 0) rfl).trans rfl) ?_
    refine Go.next (f' := (4, [some (.ref 0), some (.int x1), some (.int x2), none], [.ref 1])) (w' := fr_w) ((ex_stp (ins := .getfield 10) rfl).trans rfl) ?_
    refine Go.next (f' := (5, [some (.ref 0), some (.int x1), some (.int x2), none], [.int x1, .ref 1])) (w' := fr_w) ((ex_stp (ins := .iload_n 1) rfl).trans rfl) ?_
    have h_23 : Go [] 38 mt_101 (ex_ent mt_101 [.ref 1, .int x1]) fr_w (some (.int 0), fr_w) := by
      show Go [] 38 mt_101 (0, [some (.ref 1), some (.int x1)], []) fr_w _
      refine Go.next (f' := (1, [some (.ref 1), some (.int x1)], [.int x1])) (w' := fr_w) ((ex_stp (ins := .iload_n 1) rfl).trans rfl) ?_
      refine Go.next (f' := (2, [some (.ref 1), some (.int x1)], [.int 1, .int x1])) (w' := fr_w) ((ex_stp (ins := .iconst 1) rfl).trans rfl) ?_
      refine Go.next (f' := (23, [some (.ref 1), some (.int x1)], [])) (w' := fr_w) ((ex_stp (ins := .if_icmp .lt 21) rfl).trans (ex_b2_t (c := .lt) (off := 21) (pc := 2) (lo := [some (.ref 1), some (.int x1)]) (x := x1) (y := 1) (r := []) (by rw [c2_lt]; exact decide_eq_true (by show x1.toInt < (1 : Int); omega)) (by decide))) ?_
      refine Go.next (f' := (24, [some (.ref 1), some (.int x1)], [.int 0])) (w' := fr_w) ((ex_stp (ins := .iconst 0) rfl).trans rfl) ?_
      exact Go.ret ((ex_stp (ins := .ireturn) rfl).trans rfl)
    refine Go.call (d := 38) (cal := 101) (as := [.ref 1, .int x1]) (g := (8, [some (.ref 0), some (.int x1), some (.int x2), none], [])) (M' := mt_101) (r := some (.int 0)) (w' := fr_w) ((ex_stp (ins := .invokevirtual 132) rfl).trans rfl) rfl (Nat.le_of_ble_eq_true rfl) h_23 ?_
    show Go [] 39 mt_25 (8, [some (.ref 0), some (.int x1), some (.int x2), none], [.int 0]) fr_w _
    refine Go.next (f' := (28, [some (.ref 0), some (.int x1), some (.int x2), none], [])) (w' := fr_w) ((ex_stp (ins := .ifCond .eq 20) rfl).trans rfl) ?_
    refine Go.next (f' := (29, [some (.ref 0), some (.int x1), some (.int x2), none], [.int (-1)])) (w' := fr_w) ((ex_stp (ins := .iconst (-1)) rfl).trans rfl) ?_
    exact Go.ret ((ex_stp (ins := .ireturn) rfl).trans rfl)
  · show Go [] 39 mt_26 (0, [some (.ref 59), some (.int x1), some (.int x2), none], []) fr_w _
    refine Go.next (f' := (1, [some (.ref 59), some (.int x1), some (.int x2), none], [.ref 59])) (w' := fr_w) ((ex_stp (ins := .aload_n 0) rfl).trans rfl) ?_
    refine Go.next (f' := (2, [some (.ref 59), some (.int x1), some (.int x2), none], [.int x1, .ref 59])) (w' := fr_w) ((ex_stp (ins := .iload_n 1) rfl).trans rfl) ?_
    have h_24 : Go [] 38 mt_102 (ex_ent mt_102 [.ref 59, .int x1]) fr_w (some (.int 0), fr_w) := by
      show Go [] 38 mt_102 (0, [some (.ref 59), some (.int x1)], []) fr_w _
      refine Go.next (f' := (1, [some (.ref 59), some (.int x1)], [.int x1])) (w' := fr_w) ((ex_stp (ins := .iload_n 1) rfl).trans rfl) ?_
      refine Go.next (f' := (2, [some (.ref 59), some (.int x1)], [.long (x1).toInt64])) (w' := fr_w) ((ex_stp (ins := .i2l) rfl).trans rfl) ?_
      refine Go.next (f' := (3, [some (.ref 59), some (.int x1)], [.long 1, .long (x1).toInt64])) (w' := fr_w) ((ex_stp (ins := .lconst 1) rfl).trans rfl) ?_
      refine Go.next (f' := (4, [some (.ref 59), some (.int x1)], [.ref 59, .long 1, .long (x1).toInt64])) (w' := fr_w) ((ex_stp (ins := .aload_n 0) rfl).trans rfl) ?_
      refine Go.next (f' := (7, [some (.ref 59), some (.int x1)], [.int 12, .long 1, .long (x1).toInt64])) (w' := fr_w) ((ex_stp (ins := .getfield 81) rfl).trans rfl) ?_
      refine Go.next (f' := (8, [some (.ref 59), some (.int x1)], [.long 12, .long 1, .long (x1).toInt64])) (w' := fr_w) ((ex_stp (ins := .i2l) rfl).trans rfl) ?_
      have h_25 : Go [] 37 mt_93 (ex_ent mt_93 [.long (x1).toInt64, .long 1, .long 12]) fr_w (some (.int 0), fr_w) := by
        show Go [] 37 mt_93 (0, [some (.long (x1).toInt64), none, some (.long 1), none, some (.long 12), none], []) fr_w _
        refine Go.next (f' := (1, [some (.long (x1).toInt64), none, some (.long 1), none, some (.long 12), none], [.long (x1).toInt64])) (w' := fr_w) ((ex_stp (ins := .lload_n 0) rfl).trans rfl) ?_
        refine Go.next (f' := (2, [some (.long (x1).toInt64), none, some (.long 1), none, some (.long 12), none], [.long 1, .long (x1).toInt64])) (w' := fr_w) ((ex_stp (ins := .lload_n 2) rfl).trans rfl) ?_
        refine Go.next (f' := (3, [some (.long (x1).toInt64), none, some (.long 1), none, some (.long 12), none], [.int (lg_cmp (x1).toInt64 1)])) (w' := fr_w) ((ex_stp (ins := .lcmp) rfl).trans rfl) ?_
        refine Go.next (f' := (17, [some (.long (x1).toInt64), none, some (.long 1), none, some (.long 12), none], [])) (w' := fr_w) ((ex_stp (ins := .ifCond .lt 14) rfl).trans (ex_b0_t (c := .lt) (off := 14) (pc := 3) (lo := [some (.long (x1).toInt64), none, some (.long 1), none, some (.long 12), none]) (x := (lg_cmp (x1).toInt64 1)) (r := []) (by rw [cl_lt]; exact decide_eq_true (by first | (rw [Int32.toInt_toInt64]; show x1.toInt < (1 : Int); omega) | omega)) (by decide))) ?_
        refine Go.next (f' := (18, [some (.long (x1).toInt64), none, some (.long 1), none, some (.long 12), none], [.int 0])) (w' := fr_w) ((ex_stp (ins := .iconst 0) rfl).trans rfl) ?_
        exact Go.ret ((ex_stp (ins := .ireturn) rfl).trans rfl)
      refine Go.call (d := 37) (cal := 93) (as := [.long (x1).toInt64, .long 1, .long 12]) (g := (11, [some (.ref 59), some (.int x1)], [])) (M' := mt_93) (r := some (.int 0)) (w' := fr_w) ((ex_stp (ins := .invokestatic 95) rfl).trans rfl) rfl (Nat.le_of_ble_eq_true rfl) h_25 ?_
      show Go [] 38 mt_102 (11, [some (.ref 59), some (.int x1)], [.int 0]) fr_w _
      exact Go.ret ((ex_stp (ins := .ireturn) rfl).trans rfl)
    refine Go.call (d := 38) (cal := 102) (as := [.ref 59, .int x1]) (g := (5, [some (.ref 59), some (.int x1), some (.int x2), none], [])) (M' := mt_102) (r := some (.int 0)) (w' := fr_w) ((ex_stp (ins := .invokevirtual 187) rfl).trans rfl) rfl (Nat.le_of_ble_eq_true rfl) h_24 ?_
    show Go [] 39 mt_26 (5, [some (.ref 59), some (.int x1), some (.int x2), none], [.int 0]) fr_w _
    refine Go.next (f' := (22, [some (.ref 59), some (.int x1), some (.int x2), none], [])) (w' := fr_w) ((ex_stp (ins := .ifCond .eq 17) rfl).trans rfl) ?_
    refine Go.next (f' := (23, [some (.ref 59), some (.int x1), some (.int x2), none], [.int (-1)])) (w' := fr_w) ((ex_stp (ins := .iconst (-1)) rfl).trans rfl) ?_
    exact Go.ret ((ex_stp (ins := .ireturn) rfl).trans rfl)
set_option maxRecDepth 100000 in
theorem ao_11_b (x1 x2 : Int32) (g0 : 12 < x1.toInt) : A2 mt_25 mt_26 [.int x1, .int x2] := by
  refine ⟨(-1), fr_w, fr_w, _, ?_, rfl, ?_⟩
  · show Go [] 39 mt_25 (0, [some (.ref 0), some (.int x1), some (.int x2), none], []) fr_w _
    refine Go.next (f' := (1, [some (.ref 0), some (.int x1), some (.int x2), none], [.ref 0])) (w' := fr_w) ((ex_stp (ins := .aload_n 0) rfl).trans rfl) ?_
    refine Go.next (f' := (4, [some (.ref 0), some (.int x1), some (.int x2), none], [.ref 1])) (w' := fr_w) ((ex_stp (ins := .getfield 10) rfl).trans rfl) ?_
    refine Go.next (f' := (5, [some (.ref 0), some (.int x1), some (.int x2), none], [.int x1, .ref 1])) (w' := fr_w) ((ex_stp (ins := .iload_n 1) rfl).trans rfl) ?_
    have h_26 : Go [] 38 mt_101 (ex_ent mt_101 [.ref 1, .int x1]) fr_w (some (.int 0), fr_w) := by
      show Go [] 38 mt_101 (0, [some (.ref 1), some (.int x1)], []) fr_w _
      refine Go.next (f' := (1, [some (.ref 1), some (.int x1)], [.int x1])) (w' := fr_w) ((ex_stp (ins := .iload_n 1) rfl).trans rfl) ?_
      refine Go.next (f' := (2, [some (.ref 1), some (.int x1)], [.int 1, .int x1])) (w' := fr_w) ((ex_stp (ins := .iconst 1) rfl).trans rfl) ?_
      refine Go.next (f' := (5, [some (.ref 1), some (.int x1)], [])) (w' := fr_w) ((ex_stp (ins := .if_icmp .lt 21) rfl).trans (ex_b2_f (c := .lt) (off := 21) (pc := 2) (lo := [some (.ref 1), some (.int x1)]) (x := x1) (y := 1) (r := []) (by rw [c2_lt]; exact decide_eq_false (by show ¬ (x1.toInt < (1 : Int)); omega)) (by decide))) ?_
      refine Go.next (f' := (6, [some (.ref 1), some (.int x1)], [.int x1])) (w' := fr_w) ((ex_stp (ins := .iload_n 1) rfl).trans rfl) ?_
      refine Go.next (f' := (7, [some (.ref 1), some (.int x1)], [.ref 1, .int x1])) (w' := fr_w) ((ex_stp (ins := .aload_n 0) rfl).trans rfl) ?_
      refine Go.next (f' := (10, [some (.ref 1), some (.int x1)], [.int 12, .int x1])) (w' := fr_w) ((ex_stp (ins := .getfield 33) rfl).trans rfl) ?_
      refine Go.next (f' := (23, [some (.ref 1), some (.int x1)], [])) (w' := fr_w) ((ex_stp (ins := .if_icmp .gt 13) rfl).trans (ex_b2_t (c := .gt) (off := 13) (pc := 10) (lo := [some (.ref 1), some (.int x1)]) (x := x1) (y := 12) (r := []) (by rw [c2_gt]; exact decide_eq_true (by show (12 : Int) < x1.toInt; omega)) (by decide))) ?_
      refine Go.next (f' := (24, [some (.ref 1), some (.int x1)], [.int 0])) (w' := fr_w) ((ex_stp (ins := .iconst 0) rfl).trans rfl) ?_
      exact Go.ret ((ex_stp (ins := .ireturn) rfl).trans rfl)
    refine Go.call (d := 38) (cal := 101) (as := [.ref 1, .int x1]) (g := (8, [some (.ref 0), some (.int x1), some (.int x2), none], [])) (M' := mt_101) (r := some (.int 0)) (w' := fr_w) ((ex_stp (ins := .invokevirtual 132) rfl).trans rfl) rfl (Nat.le_of_ble_eq_true rfl) h_26 ?_
    show Go [] 39 mt_25 (8, [some (.ref 0), some (.int x1), some (.int x2), none], [.int 0]) fr_w _
    refine Go.next (f' := (28, [some (.ref 0), some (.int x1), some (.int x2), none], [])) (w' := fr_w) ((ex_stp (ins := .ifCond .eq 20) rfl).trans rfl) ?_
    refine Go.next (f' := (29, [some (.ref 0), some (.int x1), some (.int x2), none], [.int (-1)])) (w' := fr_w) ((ex_stp (ins := .iconst (-1)) rfl).trans rfl) ?_
    exact Go.ret ((ex_stp (ins := .ireturn) rfl).trans rfl)
  · show Go [] 39 mt_26 (0, [some (.ref 59), some (.int x1), some (.int x2), none], []) fr_w _
    refine Go.next (f' := (1, [some (.ref 59), some (.int x1), some (.int x2), none], [.ref 59])) (w' := fr_w) ((ex_stp (ins := .aload_n 0) rfl).trans rfl) ?_
    refine Go.next (f' := (2, [some (.ref 59), some (.int x1), some (.int x2), none], [.int x1, .ref 59])) (w' := fr_w) ((ex_stp (ins := .iload_n 1) rfl).trans rfl) ?_
    have h_27 : Go [] 38 mt_102 (ex_ent mt_102 [.ref 59, .int x1]) fr_w (some (.int 0), fr_w) := by
      show Go [] 38 mt_102 (0, [some (.ref 59), some (.int x1)], []) fr_w _
      refine Go.next (f' := (1, [some (.ref 59), some (.int x1)], [.int x1])) (w' := fr_w) ((ex_stp (ins := .iload_n 1) rfl).trans rfl) ?_
      refine Go.next (f' := (2, [some (.ref 59), some (.int x1)], [.long (x1).toInt64])) (w' := fr_w) ((ex_stp (ins := .i2l) rfl).trans rfl) ?_
      refine Go.next (f' := (3, [some (.ref 59), some (.int x1)], [.long 1, .long (x1).toInt64])) (w' := fr_w) ((ex_stp (ins := .lconst 1) rfl).trans rfl) ?_
      refine Go.next (f' := (4, [some (.ref 59), some (.int x1)], [.ref 59, .long 1, .long (x1).toInt64])) (w' := fr_w) ((ex_stp (ins := .aload_n 0) rfl).trans rfl) ?_
      refine Go.next (f' := (7, [some (.ref 59), some (.int x1)], [.int 12, .long 1, .long (x1).toInt64])) (w' := fr_w) ((ex_stp (ins := .getfield 81) rfl).trans rfl) ?_
      refine Go.next (f' := (8, [some (.ref 59), some (.int x1)], [.long 12, .long 1, .long (x1).toInt64])) (w' := fr_w) ((ex_stp (ins := .i2l) rfl).trans rfl) ?_
      have h_28 : Go [] 37 mt_93 (ex_ent mt_93 [.long (x1).toInt64, .long 1, .long 12]) fr_w (some (.int 0), fr_w) := by
        show Go [] 37 mt_93 (0, [some (.long (x1).toInt64), none, some (.long 1), none, some (.long 12), none], []) fr_w _
        refine Go.next (f' := (1, [some (.long (x1).toInt64), none, some (.long 1), none, some (.long 12), none], [.long (x1).toInt64])) (w' := fr_w) ((ex_stp (ins := .lload_n 0) rfl).trans rfl) ?_
        refine Go.next (f' := (2, [some (.long (x1).toInt64), none, some (.long 1), none, some (.long 12), none], [.long 1, .long (x1).toInt64])) (w' := fr_w) ((ex_stp (ins := .lload_n 2) rfl).trans rfl) ?_
        refine Go.next (f' := (3, [some (.long (x1).toInt64), none, some (.long 1), none, some (.long 12), none], [.int (lg_cmp (x1).toInt64 1)])) (w' := fr_w) ((ex_stp (ins := .lcmp) rfl).trans rfl) ?_
        refine Go.next (f' := (6, [some (.long (x1).toInt64), none, some (.long 1), none, some (.long 12), none], [])) (w' := fr_w) ((ex_stp (ins := .ifCond .lt 14) rfl).trans (ex_b0_f (c := .lt) (off := 14) (pc := 3) (lo := [some (.long (x1).toInt64), none, some (.long 1), none, some (.long 12), none]) (x := (lg_cmp (x1).toInt64 1)) (r := []) (by rw [cl_lt]; exact decide_eq_false (by first | (rw [Int32.toInt_toInt64]; show ¬ (x1.toInt < (1 : Int)); omega) | omega)) (by decide))) ?_
        refine Go.next (f' := (7, [some (.long (x1).toInt64), none, some (.long 1), none, some (.long 12), none], [.long (x1).toInt64])) (w' := fr_w) ((ex_stp (ins := .lload_n 0) rfl).trans rfl) ?_
        refine Go.next (f' := (9, [some (.long (x1).toInt64), none, some (.long 1), none, some (.long 12), none], [.long 12, .long (x1).toInt64])) (w' := fr_w) ((ex_stp (ins := .lload 4) rfl).trans rfl) ?_
        refine Go.next (f' := (10, [some (.long (x1).toInt64), none, some (.long 1), none, some (.long 12), none], [.int (lg_cmp (x1).toInt64 12)])) (w' := fr_w) ((ex_stp (ins := .lcmp) rfl).trans rfl) ?_
        refine Go.next (f' := (17, [some (.long (x1).toInt64), none, some (.long 1), none, some (.long 12), none], [])) (w' := fr_w) ((ex_stp (ins := .ifCond .gt 7) rfl).trans (ex_b0_t (c := .gt) (off := 7) (pc := 10) (lo := [some (.long (x1).toInt64), none, some (.long 1), none, some (.long 12), none]) (x := (lg_cmp (x1).toInt64 12)) (r := []) (by rw [cl_gt]; exact decide_eq_true (by first | (rw [Int32.toInt_toInt64]; show (12 : Int) < x1.toInt; omega) | omega)) (by decide))) ?_
        refine Go.next (f' := (18, [some (.long (x1).toInt64), none, some (.long 1), none, some (.long 12), none], [.int 0])) (w' := fr_w) ((ex_stp (ins := .iconst 0) rfl).trans rfl) ?_
        exact Go.ret ((ex_stp (ins := .ireturn) rfl).trans rfl)
      refine Go.call (d := 37) (cal := 93) (as := [.long (x1).toInt64, .long 1, .long 12]) (g := (11, [some (.ref 59), some (.int x1)], [])) (M' := mt_93) (r := some (.int 0)) (w' := fr_w) ((ex_stp (ins := .invokestatic 95) rfl).trans rfl) rfl (Nat.le_of_ble_eq_true rfl) h_28 ?_
      show Go [] 38 mt_102 (11, [some (.ref 59), some (.int x1)], [.int 0]) fr_w _
      exact Go.ret ((ex_stp (ins := .ireturn) rfl).trans rfl)
    refine Go.call (d := 38) (cal := 102) (as := [.ref 59, .int x1]) (g := (5, [some (.ref 59), some (.int x1), some (.int x2), none], [])) (M' := mt_102) (r := some (.int 0)) (w' := fr_w) ((ex_stp (ins := .invokevirtual 187) rfl).trans rfl) rfl (Nat.le_of_ble_eq_true rfl) h_27 ?_
    show Go [] 39 mt_26 (5, [some (.ref 59), some (.int x1), some (.int x2), none], [.int 0]) fr_w _
    refine Go.next (f' := (22, [some (.ref 59), some (.int x1), some (.int x2), none], [])) (w' := fr_w) ((ex_stp (ins := .ifCond .eq 17) rfl).trans rfl) ?_
    refine Go.next (f' := (23, [some (.ref 59), some (.int x1), some (.int x2), none], [.int (-1)])) (w' := fr_w) ((ex_stp (ins := .iconst (-1)) rfl).trans rfl) ?_
    exact Go.ret ((ex_stp (ins := .ireturn) rfl).trans rfl)
set_option maxRecDepth 100000 in
theorem ao_11_c (x1 x2 : Int32) (g0 : 1 ≤ x1.toInt) (g1 : x1.toInt ≤ 12) (g2 : x2.toInt < -4) : A2 mt_25 mt_26 [.int x1, .int x2] := by
  refine ⟨(-1), fr_w, fr_w, _, ?_, rfl, ?_⟩
  · show Go [] 39 mt_25 (0, [some (.ref 0), some (.int x1), some (.int x2), none], []) fr_w _
    refine Go.next (f' := (1, [some (.ref 0), some (.int x1), some (.int x2), none], [.ref 0])) (w' := fr_w) ((ex_stp (ins := .aload_n 0) rfl).trans rfl) ?_
    refine Go.next (f' := (4, [some (.ref 0), some (.int x1), some (.int x2), none], [.ref 1])) (w' := fr_w) ((ex_stp (ins := .getfield 10) rfl).trans rfl) ?_
    refine Go.next (f' := (5, [some (.ref 0), some (.int x1), some (.int x2), none], [.int x1, .ref 1])) (w' := fr_w) ((ex_stp (ins := .iload_n 1) rfl).trans rfl) ?_
    have h_29 : Go [] 38 mt_101 (ex_ent mt_101 [.ref 1, .int x1]) fr_w (some (.int 1), fr_w) := by
      show Go [] 38 mt_101 (0, [some (.ref 1), some (.int x1)], []) fr_w _
      refine Go.next (f' := (1, [some (.ref 1), some (.int x1)], [.int x1])) (w' := fr_w) ((ex_stp (ins := .iload_n 1) rfl).trans rfl) ?_
      refine Go.next (f' := (2, [some (.ref 1), some (.int x1)], [.int 1, .int x1])) (w' := fr_w) ((ex_stp (ins := .iconst 1) rfl).trans rfl) ?_
      refine Go.next (f' := (5, [some (.ref 1), some (.int x1)], [])) (w' := fr_w) ((ex_stp (ins := .if_icmp .lt 21) rfl).trans (ex_b2_f (c := .lt) (off := 21) (pc := 2) (lo := [some (.ref 1), some (.int x1)]) (x := x1) (y := 1) (r := []) (by rw [c2_lt]; exact decide_eq_false (by show ¬ (x1.toInt < (1 : Int)); omega)) (by decide))) ?_
      refine Go.next (f' := (6, [some (.ref 1), some (.int x1)], [.int x1])) (w' := fr_w) ((ex_stp (ins := .iload_n 1) rfl).trans rfl) ?_
      refine Go.next (f' := (7, [some (.ref 1), some (.int x1)], [.ref 1, .int x1])) (w' := fr_w) ((ex_stp (ins := .aload_n 0) rfl).trans rfl) ?_
      refine Go.next (f' := (10, [some (.ref 1), some (.int x1)], [.int 12, .int x1])) (w' := fr_w) ((ex_stp (ins := .getfield 33) rfl).trans rfl) ?_
      refine Go.next (f' := (13, [some (.ref 1), some (.int x1)], [])) (w' := fr_w) ((ex_stp (ins := .if_icmp .gt 13) rfl).trans (ex_b2_f (c := .gt) (off := 13) (pc := 10) (lo := [some (.ref 1), some (.int x1)]) (x := x1) (y := 12) (r := []) (by rw [c2_gt]; exact decide_eq_false (by show ¬ ((12 : Int) < x1.toInt); omega)) (by decide))) ?_
      refine Go.next (f' := (14, [some (.ref 1), some (.int x1)], [.int x1])) (w' := fr_w) ((ex_stp (ins := .iload_n 1) rfl).trans rfl) ?_
      refine Go.next (f' := (16, [some (.ref 1), some (.int x1)], [.int 16, .int x1])) (w' := fr_w) ((ex_stp (ins := .bipush 16) rfl).trans rfl) ?_
      refine Go.next (f' := (19, [some (.ref 1), some (.int x1)], [])) (w' := fr_w) ((ex_stp (ins := .if_icmp .gt 7) rfl).trans (ex_b2_f (c := .gt) (off := 7) (pc := 16) (lo := [some (.ref 1), some (.int x1)]) (x := x1) (y := 16) (r := []) (by rw [c2_gt]; exact decide_eq_false (by show ¬ ((16 : Int) < x1.toInt); omega)) (by decide))) ?_
      refine Go.next (f' := (20, [some (.ref 1), some (.int x1)], [.int 1])) (w' := fr_w) ((ex_stp (ins := .iconst 1) rfl).trans rfl) ?_
      refine Go.next (f' := (24, [some (.ref 1), some (.int x1)], [.int 1])) (w' := fr_w) ((ex_stp (ins := .goto 4) rfl).trans rfl) ?_
      exact Go.ret ((ex_stp (ins := .ireturn) rfl).trans rfl)
    refine Go.call (d := 38) (cal := 101) (as := [.ref 1, .int x1]) (g := (8, [some (.ref 0), some (.int x1), some (.int x2), none], [])) (M' := mt_101) (r := some (.int 1)) (w' := fr_w) ((ex_stp (ins := .invokevirtual 132) rfl).trans rfl) rfl (Nat.le_of_ble_eq_true rfl) h_29 ?_
    show Go [] 39 mt_25 (8, [some (.ref 0), some (.int x1), some (.int x2), none], [.int 1]) fr_w _
    refine Go.next (f' := (11, [some (.ref 0), some (.int x1), some (.int x2), none], [])) (w' := fr_w) ((ex_stp (ins := .ifCond .eq 20) rfl).trans rfl) ?_
    refine Go.next (f' := (12, [some (.ref 0), some (.int x1), some (.int x2), none], [.int x2])) (w' := fr_w) ((ex_stp (ins := .iload_n 2) rfl).trans rfl) ?_
    refine Go.next (f' := (14, [some (.ref 0), some (.int x1), some (.int x2), none], [.int (-4), .int x2])) (w' := fr_w) ((ex_stp (ins := .bipush (-4)) rfl).trans rfl) ?_
    refine Go.next (f' := (17, [some (.ref 0), some (.int x1), some (.int x2), none], [])) (w' := fr_w) ((ex_stp (ins := .if_icmp .eq 16) rfl).trans (ex_b2_f (c := .eq) (off := 16) (pc := 14) (lo := [some (.ref 0), some (.int x1), some (.int x2), none]) (x := x2) (y := (-4)) (r := []) (by rw [c2_eq]; exact decide_eq_false (by show ¬ (x2.toInt = ((-4) : Int)); omega)) (by decide))) ?_
    refine Go.next (f' := (18, [some (.ref 0), some (.int x1), some (.int x2), none], [.ref 0])) (w' := fr_w) ((ex_stp (ins := .aload_n 0) rfl).trans rfl) ?_
    refine Go.next (f' := (21, [some (.ref 0), some (.int x1), some (.int x2), none], [.ref 1])) (w' := fr_w) ((ex_stp (ins := .getfield 10) rfl).trans rfl) ?_
    refine Go.next (f' := (22, [some (.ref 0), some (.int x1), some (.int x2), none], [.int x2, .ref 1])) (w' := fr_w) ((ex_stp (ins := .iload_n 2) rfl).trans rfl) ?_
    have h_30 : Go [] 38 mt_99 (ex_ent mt_99 [.ref 1, .int x2]) fr_w (some (.int 0), fr_w) := by
      show Go [] 38 mt_99 (0, [some (.ref 1), some (.int x2)], []) fr_w _
      refine Go.next (f' := (1, [some (.ref 1), some (.int x2)], [.int x2])) (w' := fr_w) ((ex_stp (ins := .iload_n 1) rfl).trans rfl) ?_
      refine Go.next (f' := (21, [some (.ref 1), some (.int x2)], [])) (w' := fr_w) ((ex_stp (ins := .ifCond .lt 20) rfl).trans (ex_b0_t (c := .lt) (off := 20) (pc := 1) (lo := [some (.ref 1), some (.int x2)]) (x := x2) (r := []) (by rw [c0_lt]; exact decide_eq_true (by show x2.toInt < (0 : Int); omega)) (by decide))) ?_
      refine Go.next (f' := (22, [some (.ref 1), some (.int x2)], [.int 0])) (w' := fr_w) ((ex_stp (ins := .iconst 0) rfl).trans rfl) ?_
      exact Go.ret ((ex_stp (ins := .ireturn) rfl).trans rfl)
    refine Go.call (d := 38) (cal := 99) (as := [.ref 1, .int x2]) (g := (25, [some (.ref 0), some (.int x1), some (.int x2), none], [])) (M' := mt_99) (r := some (.int 0)) (w' := fr_w) ((ex_stp (ins := .invokevirtual 125) rfl).trans rfl) rfl (Nat.le_of_ble_eq_true rfl) h_30 ?_
    show Go [] 39 mt_25 (25, [some (.ref 0), some (.int x1), some (.int x2), none], [.int 0]) fr_w _
    refine Go.next (f' := (28, [some (.ref 0), some (.int x1), some (.int x2), none], [])) (w' := fr_w) ((ex_stp (ins := .ifCond .ne 5) rfl).trans rfl) ?_
    refine Go.next (f' := (29, [some (.ref 0), some (.int x1), some (.int x2), none], [.int (-1)])) (w' := fr_w) ((ex_stp (ins := .iconst (-1)) rfl).trans rfl) ?_
    exact Go.ret ((ex_stp (ins := .ireturn) rfl).trans rfl)
  · show Go [] 39 mt_26 (0, [some (.ref 59), some (.int x1), some (.int x2), none], []) fr_w _
    refine Go.next (f' := (1, [some (.ref 59), some (.int x1), some (.int x2), none], [.ref 59])) (w' := fr_w) ((ex_stp (ins := .aload_n 0) rfl).trans rfl) ?_
    refine Go.next (f' := (2, [some (.ref 59), some (.int x1), some (.int x2), none], [.int x1, .ref 59])) (w' := fr_w) ((ex_stp (ins := .iload_n 1) rfl).trans rfl) ?_
    have h_31 : Go [] 38 mt_102 (ex_ent mt_102 [.ref 59, .int x1]) fr_w (some (.int 1), fr_w) := by
      show Go [] 38 mt_102 (0, [some (.ref 59), some (.int x1)], []) fr_w _
      refine Go.next (f' := (1, [some (.ref 59), some (.int x1)], [.int x1])) (w' := fr_w) ((ex_stp (ins := .iload_n 1) rfl).trans rfl) ?_
      refine Go.next (f' := (2, [some (.ref 59), some (.int x1)], [.long (x1).toInt64])) (w' := fr_w) ((ex_stp (ins := .i2l) rfl).trans rfl) ?_
      refine Go.next (f' := (3, [some (.ref 59), some (.int x1)], [.long 1, .long (x1).toInt64])) (w' := fr_w) ((ex_stp (ins := .lconst 1) rfl).trans rfl) ?_
      refine Go.next (f' := (4, [some (.ref 59), some (.int x1)], [.ref 59, .long 1, .long (x1).toInt64])) (w' := fr_w) ((ex_stp (ins := .aload_n 0) rfl).trans rfl) ?_
      refine Go.next (f' := (7, [some (.ref 59), some (.int x1)], [.int 12, .long 1, .long (x1).toInt64])) (w' := fr_w) ((ex_stp (ins := .getfield 81) rfl).trans rfl) ?_
      refine Go.next (f' := (8, [some (.ref 59), some (.int x1)], [.long 12, .long 1, .long (x1).toInt64])) (w' := fr_w) ((ex_stp (ins := .i2l) rfl).trans rfl) ?_
      have h_32 : Go [] 37 mt_93 (ex_ent mt_93 [.long (x1).toInt64, .long 1, .long 12]) fr_w (some (.int 1), fr_w) := by
        show Go [] 37 mt_93 (0, [some (.long (x1).toInt64), none, some (.long 1), none, some (.long 12), none], []) fr_w _
        refine Go.next (f' := (1, [some (.long (x1).toInt64), none, some (.long 1), none, some (.long 12), none], [.long (x1).toInt64])) (w' := fr_w) ((ex_stp (ins := .lload_n 0) rfl).trans rfl) ?_
        refine Go.next (f' := (2, [some (.long (x1).toInt64), none, some (.long 1), none, some (.long 12), none], [.long 1, .long (x1).toInt64])) (w' := fr_w) ((ex_stp (ins := .lload_n 2) rfl).trans rfl) ?_
        refine Go.next (f' := (3, [some (.long (x1).toInt64), none, some (.long 1), none, some (.long 12), none], [.int (lg_cmp (x1).toInt64 1)])) (w' := fr_w) ((ex_stp (ins := .lcmp) rfl).trans rfl) ?_
        refine Go.next (f' := (6, [some (.long (x1).toInt64), none, some (.long 1), none, some (.long 12), none], [])) (w' := fr_w) ((ex_stp (ins := .ifCond .lt 14) rfl).trans (ex_b0_f (c := .lt) (off := 14) (pc := 3) (lo := [some (.long (x1).toInt64), none, some (.long 1), none, some (.long 12), none]) (x := (lg_cmp (x1).toInt64 1)) (r := []) (by rw [cl_lt]; exact decide_eq_false (by first | (rw [Int32.toInt_toInt64]; show ¬ (x1.toInt < (1 : Int)); omega) | omega)) (by decide))) ?_
        refine Go.next (f' := (7, [some (.long (x1).toInt64), none, some (.long 1), none, some (.long 12), none], [.long (x1).toInt64])) (w' := fr_w) ((ex_stp (ins := .lload_n 0) rfl).trans rfl) ?_
        refine Go.next (f' := (9, [some (.long (x1).toInt64), none, some (.long 1), none, some (.long 12), none], [.long 12, .long (x1).toInt64])) (w' := fr_w) ((ex_stp (ins := .lload 4) rfl).trans rfl) ?_
        refine Go.next (f' := (10, [some (.long (x1).toInt64), none, some (.long 1), none, some (.long 12), none], [.int (lg_cmp (x1).toInt64 12)])) (w' := fr_w) ((ex_stp (ins := .lcmp) rfl).trans rfl) ?_
        refine Go.next (f' := (13, [some (.long (x1).toInt64), none, some (.long 1), none, some (.long 12), none], [])) (w' := fr_w) ((ex_stp (ins := .ifCond .gt 7) rfl).trans (ex_b0_f (c := .gt) (off := 7) (pc := 10) (lo := [some (.long (x1).toInt64), none, some (.long 1), none, some (.long 12), none]) (x := (lg_cmp (x1).toInt64 12)) (r := []) (by rw [cl_gt]; exact decide_eq_false (by first | (rw [Int32.toInt_toInt64]; show ¬ ((12 : Int) < x1.toInt); omega) | omega)) (by decide))) ?_
        refine Go.next (f' := (14, [some (.long (x1).toInt64), none, some (.long 1), none, some (.long 12), none], [.int 1])) (w' := fr_w) ((ex_stp (ins := .iconst 1) rfl).trans rfl) ?_
        refine Go.next (f' := (18, [some (.long (x1).toInt64), none, some (.long 1), none, some (.long 12), none], [.int 1])) (w' := fr_w) ((ex_stp (ins := .goto 4) rfl).trans rfl) ?_
        exact Go.ret ((ex_stp (ins := .ireturn) rfl).trans rfl)
      refine Go.call (d := 37) (cal := 93) (as := [.long (x1).toInt64, .long 1, .long 12]) (g := (11, [some (.ref 59), some (.int x1)], [])) (M' := mt_93) (r := some (.int 1)) (w' := fr_w) ((ex_stp (ins := .invokestatic 95) rfl).trans rfl) rfl (Nat.le_of_ble_eq_true rfl) h_32 ?_
      show Go [] 38 mt_102 (11, [some (.ref 59), some (.int x1)], [.int 1]) fr_w _
      exact Go.ret ((ex_stp (ins := .ireturn) rfl).trans rfl)
    refine Go.call (d := 38) (cal := 102) (as := [.ref 59, .int x1]) (g := (5, [some (.ref 59), some (.int x1), some (.int x2), none], [])) (M' := mt_102) (r := some (.int 1)) (w' := fr_w) ((ex_stp (ins := .invokevirtual 187) rfl).trans rfl) rfl (Nat.le_of_ble_eq_true rfl) h_31 ?_
    show Go [] 39 mt_26 (5, [some (.ref 59), some (.int x1), some (.int x2), none], [.int 1]) fr_w _
    refine Go.next (f' := (8, [some (.ref 59), some (.int x1), some (.int x2), none], [])) (w' := fr_w) ((ex_stp (ins := .ifCond .eq 17) rfl).trans rfl) ?_
    refine Go.next (f' := (9, [some (.ref 59), some (.int x1), some (.int x2), none], [.int x2])) (w' := fr_w) ((ex_stp (ins := .iload_n 2) rfl).trans rfl) ?_
    refine Go.next (f' := (11, [some (.ref 59), some (.int x1), some (.int x2), none], [.int (-4), .int x2])) (w' := fr_w) ((ex_stp (ins := .bipush (-4)) rfl).trans rfl) ?_
    refine Go.next (f' := (14, [some (.ref 59), some (.int x1), some (.int x2), none], [])) (w' := fr_w) ((ex_stp (ins := .if_icmp .eq 13) rfl).trans (ex_b2_f (c := .eq) (off := 13) (pc := 11) (lo := [some (.ref 59), some (.int x1), some (.int x2), none]) (x := x2) (y := (-4)) (r := []) (by rw [c2_eq]; exact decide_eq_false (by show ¬ (x2.toInt = ((-4) : Int)); omega)) (by decide))) ?_
    refine Go.next (f' := (15, [some (.ref 59), some (.int x1), some (.int x2), none], [.ref 59])) (w' := fr_w) ((ex_stp (ins := .aload_n 0) rfl).trans rfl) ?_
    refine Go.next (f' := (16, [some (.ref 59), some (.int x1), some (.int x2), none], [.int x2, .ref 59])) (w' := fr_w) ((ex_stp (ins := .iload_n 2) rfl).trans rfl) ?_
    have h_33 : Go [] 38 mt_100 (ex_ent mt_100 [.ref 59, .int x2]) fr_w (some (.int 0), fr_w) := by
      show Go [] 38 mt_100 (0, [some (.ref 59), some (.int x2)], []) fr_w _
      refine Go.next (f' := (1, [some (.ref 59), some (.int x2)], [.int x2])) (w' := fr_w) ((ex_stp (ins := .iload_n 1) rfl).trans rfl) ?_
      refine Go.next (f' := (2, [some (.ref 59), some (.int x2)], [.long (x2).toInt64])) (w' := fr_w) ((ex_stp (ins := .i2l) rfl).trans rfl) ?_
      refine Go.next (f' := (3, [some (.ref 59), some (.int x2)], [.long 0, .long (x2).toInt64])) (w' := fr_w) ((ex_stp (ins := .lconst 0) rfl).trans rfl) ?_
      refine Go.next (f' := (4, [some (.ref 59), some (.int x2)], [.ref 59, .long 0, .long (x2).toInt64])) (w' := fr_w) ((ex_stp (ins := .aload_n 0) rfl).trans rfl) ?_
      refine Go.next (f' := (7, [some (.ref 59), some (.int x2)], [.int 2, .long 0, .long (x2).toInt64])) (w' := fr_w) ((ex_stp (ins := .getfield 84) rfl).trans rfl) ?_
      refine Go.next (f' := (8, [some (.ref 59), some (.int x2)], [.int 1, .int 2, .long 0, .long (x2).toInt64])) (w' := fr_w) ((ex_stp (ins := .iconst 1) rfl).trans rfl) ?_
      refine Go.next (f' := (9, [some (.ref 59), some (.int x2)], [.int 1, .long 0, .long (x2).toInt64])) (w' := fr_w) ((ex_stp (ins := .isub) rfl).trans rfl) ?_
      refine Go.next (f' := (10, [some (.ref 59), some (.int x2)], [.long 1, .long 0, .long (x2).toInt64])) (w' := fr_w) ((ex_stp (ins := .i2l) rfl).trans rfl) ?_
      have h_34 : Go [] 37 mt_93 (ex_ent mt_93 [.long (x2).toInt64, .long 0, .long 1]) fr_w (some (.int 0), fr_w) := by
        show Go [] 37 mt_93 (0, [some (.long (x2).toInt64), none, some (.long 0), none, some (.long 1), none], []) fr_w _
        refine Go.next (f' := (1, [some (.long (x2).toInt64), none, some (.long 0), none, some (.long 1), none], [.long (x2).toInt64])) (w' := fr_w) ((ex_stp (ins := .lload_n 0) rfl).trans rfl) ?_
        refine Go.next (f' := (2, [some (.long (x2).toInt64), none, some (.long 0), none, some (.long 1), none], [.long 0, .long (x2).toInt64])) (w' := fr_w) ((ex_stp (ins := .lload_n 2) rfl).trans rfl) ?_
        refine Go.next (f' := (3, [some (.long (x2).toInt64), none, some (.long 0), none, some (.long 1), none], [.int (lg_cmp (x2).toInt64 0)])) (w' := fr_w) ((ex_stp (ins := .lcmp) rfl).trans rfl) ?_
        refine Go.next (f' := (17, [some (.long (x2).toInt64), none, some (.long 0), none, some (.long 1), none], [])) (w' := fr_w) ((ex_stp (ins := .ifCond .lt 14) rfl).trans (ex_b0_t (c := .lt) (off := 14) (pc := 3) (lo := [some (.long (x2).toInt64), none, some (.long 0), none, some (.long 1), none]) (x := (lg_cmp (x2).toInt64 0)) (r := []) (by rw [cl_lt]; exact decide_eq_true (by first | (rw [Int32.toInt_toInt64]; show x2.toInt < (0 : Int); omega) | omega)) (by decide))) ?_
        refine Go.next (f' := (18, [some (.long (x2).toInt64), none, some (.long 0), none, some (.long 1), none], [.int 0])) (w' := fr_w) ((ex_stp (ins := .iconst 0) rfl).trans rfl) ?_
        exact Go.ret ((ex_stp (ins := .ireturn) rfl).trans rfl)
      refine Go.call (d := 37) (cal := 93) (as := [.long (x2).toInt64, .long 0, .long 1]) (g := (13, [some (.ref 59), some (.int x2)], [])) (M' := mt_93) (r := some (.int 0)) (w' := fr_w) ((ex_stp (ins := .invokestatic 95) rfl).trans rfl) rfl (Nat.le_of_ble_eq_true rfl) h_34 ?_
      show Go [] 38 mt_100 (13, [some (.ref 59), some (.int x2)], [.int 0]) fr_w _
      exact Go.ret ((ex_stp (ins := .ireturn) rfl).trans rfl)
    refine Go.call (d := 38) (cal := 100) (as := [.ref 59, .int x2]) (g := (19, [some (.ref 59), some (.int x1), some (.int x2), none], [])) (M' := mt_100) (r := some (.int 0)) (w' := fr_w) ((ex_stp (ins := .invokevirtual 183) rfl).trans rfl) rfl (Nat.le_of_ble_eq_true rfl) h_33 ?_
    show Go [] 39 mt_26 (19, [some (.ref 59), some (.int x1), some (.int x2), none], [.int 0]) fr_w _
    refine Go.next (f' := (22, [some (.ref 59), some (.int x1), some (.int x2), none], [])) (w' := fr_w) ((ex_stp (ins := .ifCond .ne 5) rfl).trans rfl) ?_
    refine Go.next (f' := (23, [some (.ref 59), some (.int x1), some (.int x2), none], [.int (-1)])) (w' := fr_w) ((ex_stp (ins := .iconst (-1)) rfl).trans rfl) ?_
    exact Go.ret ((ex_stp (ins := .ireturn) rfl).trans rfl)
set_option maxRecDepth 100000 in
theorem ao_11_d (x1 x2 : Int32) (g0 : 1 ≤ x1.toInt) (g1 : x1.toInt ≤ 12) (g2 : -4 < x2.toInt) (g3 : x2.toInt < 0) : A2 mt_25 mt_26 [.int x1, .int x2] := by
  refine ⟨(-1), fr_w, fr_w, _, ?_, rfl, ?_⟩
  · show Go [] 39 mt_25 (0, [some (.ref 0), some (.int x1), some (.int x2), none], []) fr_w _
    refine Go.next (f' := (1, [some (.ref 0), some (.int x1), some (.int x2), none], [.ref 0])) (w' := fr_w) ((ex_stp (ins := .aload_n 0) rfl).trans rfl) ?_
    refine Go.next (f' := (4, [some (.ref 0), some (.int x1), some (.int x2), none], [.ref 1])) (w' := fr_w) ((ex_stp (ins := .getfield 10) rfl).trans rfl) ?_
    refine Go.next (f' := (5, [some (.ref 0), some (.int x1), some (.int x2), none], [.int x1, .ref 1])) (w' := fr_w) ((ex_stp (ins := .iload_n 1) rfl).trans rfl) ?_
    have h_35 : Go [] 38 mt_101 (ex_ent mt_101 [.ref 1, .int x1]) fr_w (some (.int 1), fr_w) := by
      show Go [] 38 mt_101 (0, [some (.ref 1), some (.int x1)], []) fr_w _
      refine Go.next (f' := (1, [some (.ref 1), some (.int x1)], [.int x1])) (w' := fr_w) ((ex_stp (ins := .iload_n 1) rfl).trans rfl) ?_
      refine Go.next (f' := (2, [some (.ref 1), some (.int x1)], [.int 1, .int x1])) (w' := fr_w) ((ex_stp (ins := .iconst 1) rfl).trans rfl) ?_
      refine Go.next (f' := (5, [some (.ref 1), some (.int x1)], [])) (w' := fr_w) ((ex_stp (ins := .if_icmp .lt 21) rfl).trans (ex_b2_f (c := .lt) (off := 21) (pc := 2) (lo := [some (.ref 1), some (.int x1)]) (x := x1) (y := 1) (r := []) (by rw [c2_lt]; exact decide_eq_false (by show ¬ (x1.toInt < (1 : Int)); omega)) (by decide))) ?_
      refine Go.next (f' := (6, [some (.ref 1), some (.int x1)], [.int x1])) (w' := fr_w) ((ex_stp (ins := .iload_n 1) rfl).trans rfl) ?_
      refine Go.next (f' := (7, [some (.ref 1), some (.int x1)], [.ref 1, .int x1])) (w' := fr_w) ((ex_stp (ins := .aload_n 0) rfl).trans rfl) ?_
      refine Go.next (f' := (10, [some (.ref 1), some (.int x1)], [.int 12, .int x1])) (w' := fr_w) ((ex_stp (ins := .getfield 33) rfl).trans rfl) ?_
      refine Go.next (f' := (13, [some (.ref 1), some (.int x1)], [])) (w' := fr_w) ((ex_stp (ins := .if_icmp .gt 13) rfl).trans (ex_b2_f (c := .gt) (off := 13) (pc := 10) (lo := [some (.ref 1), some (.int x1)]) (x := x1) (y := 12) (r := []) (by rw [c2_gt]; exact decide_eq_false (by show ¬ ((12 : Int) < x1.toInt); omega)) (by decide))) ?_
      refine Go.next (f' := (14, [some (.ref 1), some (.int x1)], [.int x1])) (w' := fr_w) ((ex_stp (ins := .iload_n 1) rfl).trans rfl) ?_
      refine Go.next (f' := (16, [some (.ref 1), some (.int x1)], [.int 16, .int x1])) (w' := fr_w) ((ex_stp (ins := .bipush 16) rfl).trans rfl) ?_
      refine Go.next (f' := (19, [some (.ref 1), some (.int x1)], [])) (w' := fr_w) ((ex_stp (ins := .if_icmp .gt 7) rfl).trans (ex_b2_f (c := .gt) (off := 7) (pc := 16) (lo := [some (.ref 1), some (.int x1)]) (x := x1) (y := 16) (r := []) (by rw [c2_gt]; exact decide_eq_false (by show ¬ ((16 : Int) < x1.toInt); omega)) (by decide))) ?_
      refine Go.next (f' := (20, [some (.ref 1), some (.int x1)], [.int 1])) (w' := fr_w) ((ex_stp (ins := .iconst 1) rfl).trans rfl) ?_
      refine Go.next (f' := (24, [some (.ref 1), some (.int x1)], [.int 1])) (w' := fr_w) ((ex_stp (ins := .goto 4) rfl).trans rfl) ?_
      exact Go.ret ((ex_stp (ins := .ireturn) rfl).trans rfl)
    refine Go.call (d := 38) (cal := 101) (as := [.ref 1, .int x1]) (g := (8, [some (.ref 0), some (.int x1), some (.int x2), none], [])) (M' := mt_101) (r := some (.int 1)) (w' := fr_w) ((ex_stp (ins := .invokevirtual 132) rfl).trans rfl) rfl (Nat.le_of_ble_eq_true rfl) h_35 ?_
    show Go [] 39 mt_25 (8, [some (.ref 0), some (.int x1), some (.int x2), none], [.int 1]) fr_w _
    refine Go.next (f' := (11, [some (.ref 0), some (.int x1), some (.int x2), none], [])) (w' := fr_w) ((ex_stp (ins := .ifCond .eq 20) rfl).trans rfl) ?_
    refine Go.next (f' := (12, [some (.ref 0), some (.int x1), some (.int x2), none], [.int x2])) (w' := fr_w) ((ex_stp (ins := .iload_n 2) rfl).trans rfl) ?_
    refine Go.next (f' := (14, [some (.ref 0), some (.int x1), some (.int x2), none], [.int (-4), .int x2])) (w' := fr_w) ((ex_stp (ins := .bipush (-4)) rfl).trans rfl) ?_
    refine Go.next (f' := (17, [some (.ref 0), some (.int x1), some (.int x2), none], [])) (w' := fr_w) ((ex_stp (ins := .if_icmp .eq 16) rfl).trans (ex_b2_f (c := .eq) (off := 16) (pc := 14) (lo := [some (.ref 0), some (.int x1), some (.int x2), none]) (x := x2) (y := (-4)) (r := []) (by rw [c2_eq]; exact decide_eq_false (by show ¬ (x2.toInt = ((-4) : Int)); omega)) (by decide))) ?_
    refine Go.next (f' := (18, [some (.ref 0), some (.int x1), some (.int x2), none], [.ref 0])) (w' := fr_w) ((ex_stp (ins := .aload_n 0) rfl).trans rfl) ?_
    refine Go.next (f' := (21, [some (.ref 0), some (.int x1), some (.int x2), none], [.ref 1])) (w' := fr_w) ((ex_stp (ins := .getfield 10) rfl).trans rfl) ?_
    refine Go.next (f' := (22, [some (.ref 0), some (.int x1), some (.int x2), none], [.int x2, .ref 1])) (w' := fr_w) ((ex_stp (ins := .iload_n 2) rfl).trans rfl) ?_
    have h_36 : Go [] 38 mt_99 (ex_ent mt_99 [.ref 1, .int x2]) fr_w (some (.int 0), fr_w) := by
      show Go [] 38 mt_99 (0, [some (.ref 1), some (.int x2)], []) fr_w _
      refine Go.next (f' := (1, [some (.ref 1), some (.int x2)], [.int x2])) (w' := fr_w) ((ex_stp (ins := .iload_n 1) rfl).trans rfl) ?_
      refine Go.next (f' := (21, [some (.ref 1), some (.int x2)], [])) (w' := fr_w) ((ex_stp (ins := .ifCond .lt 20) rfl).trans (ex_b0_t (c := .lt) (off := 20) (pc := 1) (lo := [some (.ref 1), some (.int x2)]) (x := x2) (r := []) (by rw [c0_lt]; exact decide_eq_true (by show x2.toInt < (0 : Int); omega)) (by decide))) ?_
      refine Go.next (f' := (22, [some (.ref 1), some (.int x2)], [.int 0])) (w' := fr_w) ((ex_stp (ins := .iconst 0) rfl).trans rfl) ?_
      exact Go.ret ((ex_stp (ins := .ireturn) rfl).trans rfl)
    refine Go.call (d := 38) (cal := 99) (as := [.ref 1, .int x2]) (g := (25, [some (.ref 0), some (.int x1), some (.int x2), none], [])) (M' := mt_99) (r := some (.int 0)) (w' := fr_w) ((ex_stp (ins := .invokevirtual 125) rfl).trans rfl) rfl (Nat.le_of_ble_eq_true rfl) h_36 ?_
    show Go [] 39 mt_25 (25, [some (.ref 0), some (.int x1), some (.int x2), none], [.int 0]) fr_w _
    refine Go.next (f' := (28, [some (.ref 0), some (.int x1), some (.int x2), none], [])) (w' := fr_w) ((ex_stp (ins := .ifCond .ne 5) rfl).trans rfl) ?_
    refine Go.next (f' := (29, [some (.ref 0), some (.int x1), some (.int x2), none], [.int (-1)])) (w' := fr_w) ((ex_stp (ins := .iconst (-1)) rfl).trans rfl) ?_
    exact Go.ret ((ex_stp (ins := .ireturn) rfl).trans rfl)
  · show Go [] 39 mt_26 (0, [some (.ref 59), some (.int x1), some (.int x2), none], []) fr_w _
    refine Go.next (f' := (1, [some (.ref 59), some (.int x1), some (.int x2), none], [.ref 59])) (w' := fr_w) ((ex_stp (ins := .aload_n 0) rfl).trans rfl) ?_
    refine Go.next (f' := (2, [some (.ref 59), some (.int x1), some (.int x2), none], [.int x1, .ref 59])) (w' := fr_w) ((ex_stp (ins := .iload_n 1) rfl).trans rfl) ?_
    have h_37 : Go [] 38 mt_102 (ex_ent mt_102 [.ref 59, .int x1]) fr_w (some (.int 1), fr_w) := by
      show Go [] 38 mt_102 (0, [some (.ref 59), some (.int x1)], []) fr_w _
      refine Go.next (f' := (1, [some (.ref 59), some (.int x1)], [.int x1])) (w' := fr_w) ((ex_stp (ins := .iload_n 1) rfl).trans rfl) ?_
      refine Go.next (f' := (2, [some (.ref 59), some (.int x1)], [.long (x1).toInt64])) (w' := fr_w) ((ex_stp (ins := .i2l) rfl).trans rfl) ?_
      refine Go.next (f' := (3, [some (.ref 59), some (.int x1)], [.long 1, .long (x1).toInt64])) (w' := fr_w) ((ex_stp (ins := .lconst 1) rfl).trans rfl) ?_
      refine Go.next (f' := (4, [some (.ref 59), some (.int x1)], [.ref 59, .long 1, .long (x1).toInt64])) (w' := fr_w) ((ex_stp (ins := .aload_n 0) rfl).trans rfl) ?_
      refine Go.next (f' := (7, [some (.ref 59), some (.int x1)], [.int 12, .long 1, .long (x1).toInt64])) (w' := fr_w) ((ex_stp (ins := .getfield 81) rfl).trans rfl) ?_
      refine Go.next (f' := (8, [some (.ref 59), some (.int x1)], [.long 12, .long 1, .long (x1).toInt64])) (w' := fr_w) ((ex_stp (ins := .i2l) rfl).trans rfl) ?_
      have h_38 : Go [] 37 mt_93 (ex_ent mt_93 [.long (x1).toInt64, .long 1, .long 12]) fr_w (some (.int 1), fr_w) := by
        show Go [] 37 mt_93 (0, [some (.long (x1).toInt64), none, some (.long 1), none, some (.long 12), none], []) fr_w _
        refine Go.next (f' := (1, [some (.long (x1).toInt64), none, some (.long 1), none, some (.long 12), none], [.long (x1).toInt64])) (w' := fr_w) ((ex_stp (ins := .lload_n 0) rfl).trans rfl) ?_
        refine Go.next (f' := (2, [some (.long (x1).toInt64), none, some (.long 1), none, some (.long 12), none], [.long 1, .long (x1).toInt64])) (w' := fr_w) ((ex_stp (ins := .lload_n 2) rfl).trans rfl) ?_
        refine Go.next (f' := (3, [some (.long (x1).toInt64), none, some (.long 1), none, some (.long 12), none], [.int (lg_cmp (x1).toInt64 1)])) (w' := fr_w) ((ex_stp (ins := .lcmp) rfl).trans rfl) ?_
        refine Go.next (f' := (6, [some (.long (x1).toInt64), none, some (.long 1), none, some (.long 12), none], [])) (w' := fr_w) ((ex_stp (ins := .ifCond .lt 14) rfl).trans (ex_b0_f (c := .lt) (off := 14) (pc := 3) (lo := [some (.long (x1).toInt64), none, some (.long 1), none, some (.long 12), none]) (x := (lg_cmp (x1).toInt64 1)) (r := []) (by rw [cl_lt]; exact decide_eq_false (by first | (rw [Int32.toInt_toInt64]; show ¬ (x1.toInt < (1 : Int)); omega) | omega)) (by decide))) ?_
        refine Go.next (f' := (7, [some (.long (x1).toInt64), none, some (.long 1), none, some (.long 12), none], [.long (x1).toInt64])) (w' := fr_w) ((ex_stp (ins := .lload_n 0) rfl).trans rfl) ?_
        refine Go.next (f' := (9, [some (.long (x1).toInt64), none, some (.long 1), none, some (.long 12), none], [.long 12, .long (x1).toInt64])) (w' := fr_w) ((ex_stp (ins := .lload 4) rfl).trans rfl) ?_
        refine Go.next (f' := (10, [some (.long (x1).toInt64), none, some (.long 1), none, some (.long 12), none], [.int (lg_cmp (x1).toInt64 12)])) (w' := fr_w) ((ex_stp (ins := .lcmp) rfl).trans rfl) ?_
        refine Go.next (f' := (13, [some (.long (x1).toInt64), none, some (.long 1), none, some (.long 12), none], [])) (w' := fr_w) ((ex_stp (ins := .ifCond .gt 7) rfl).trans (ex_b0_f (c := .gt) (off := 7) (pc := 10) (lo := [some (.long (x1).toInt64), none, some (.long 1), none, some (.long 12), none]) (x := (lg_cmp (x1).toInt64 12)) (r := []) (by rw [cl_gt]; exact decide_eq_false (by first | (rw [Int32.toInt_toInt64]; show ¬ ((12 : Int) < x1.toInt); omega) | omega)) (by decide))) ?_
        refine Go.next (f' := (14, [some (.long (x1).toInt64), none, some (.long 1), none, some (.long 12), none], [.int 1])) (w' := fr_w) ((ex_stp (ins := .iconst 1) rfl).trans rfl) ?_
        refine Go.next (f' := (18, [some (.long (x1).toInt64), none, some (.long 1), none, some (.long 12), none], [.int 1])) (w' := fr_w) ((ex_stp (ins := .goto 4) rfl).trans rfl) ?_
        exact Go.ret ((ex_stp (ins := .ireturn) rfl).trans rfl)
      refine Go.call (d := 37) (cal := 93) (as := [.long (x1).toInt64, .long 1, .long 12]) (g := (11, [some (.ref 59), some (.int x1)], [])) (M' := mt_93) (r := some (.int 1)) (w' := fr_w) ((ex_stp (ins := .invokestatic 95) rfl).trans rfl) rfl (Nat.le_of_ble_eq_true rfl) h_38 ?_
      show Go [] 38 mt_102 (11, [some (.ref 59), some (.int x1)], [.int 1]) fr_w _
      exact Go.ret ((ex_stp (ins := .ireturn) rfl).trans rfl)
    refine Go.call (d := 38) (cal := 102) (as := [.ref 59, .int x1]) (g := (5, [some (.ref 59), some (.int x1), some (.int x2), none], [])) (M' := mt_102) (r := some (.int 1)) (w' := fr_w) ((ex_stp (ins := .invokevirtual 187) rfl).trans rfl) rfl (Nat.le_of_ble_eq_true rfl) h_37 ?_
    show Go [] 39 mt_26 (5, [some (.ref 59), some (.int x1), some (.int x2), none], [.int 1]) fr_w _
    refine Go.next (f' := (8, [some (.ref 59), some (.int x1), some (.int x2), none], [])) (w' := fr_w) ((ex_stp (ins := .ifCond .eq 17) rfl).trans rfl) ?_
    refine Go.next (f' := (9, [some (.ref 59), some (.int x1), some (.int x2), none], [.int x2])) (w' := fr_w) ((ex_stp (ins := .iload_n 2) rfl).trans rfl) ?_
    refine Go.next (f' := (11, [some (.ref 59), some (.int x1), some (.int x2), none], [.int (-4), .int x2])) (w' := fr_w) ((ex_stp (ins := .bipush (-4)) rfl).trans rfl) ?_
    refine Go.next (f' := (14, [some (.ref 59), some (.int x1), some (.int x2), none], [])) (w' := fr_w) ((ex_stp (ins := .if_icmp .eq 13) rfl).trans (ex_b2_f (c := .eq) (off := 13) (pc := 11) (lo := [some (.ref 59), some (.int x1), some (.int x2), none]) (x := x2) (y := (-4)) (r := []) (by rw [c2_eq]; exact decide_eq_false (by show ¬ (x2.toInt = ((-4) : Int)); omega)) (by decide))) ?_
    refine Go.next (f' := (15, [some (.ref 59), some (.int x1), some (.int x2), none], [.ref 59])) (w' := fr_w) ((ex_stp (ins := .aload_n 0) rfl).trans rfl) ?_
    refine Go.next (f' := (16, [some (.ref 59), some (.int x1), some (.int x2), none], [.int x2, .ref 59])) (w' := fr_w) ((ex_stp (ins := .iload_n 2) rfl).trans rfl) ?_
    have h_39 : Go [] 38 mt_100 (ex_ent mt_100 [.ref 59, .int x2]) fr_w (some (.int 0), fr_w) := by
      show Go [] 38 mt_100 (0, [some (.ref 59), some (.int x2)], []) fr_w _
      refine Go.next (f' := (1, [some (.ref 59), some (.int x2)], [.int x2])) (w' := fr_w) ((ex_stp (ins := .iload_n 1) rfl).trans rfl) ?_
      refine Go.next (f' := (2, [some (.ref 59), some (.int x2)], [.long (x2).toInt64])) (w' := fr_w) ((ex_stp (ins := .i2l) rfl).trans rfl) ?_
      refine Go.next (f' := (3, [some (.ref 59), some (.int x2)], [.long 0, .long (x2).toInt64])) (w' := fr_w) ((ex_stp (ins := .lconst 0) rfl).trans rfl) ?_
      refine Go.next (f' := (4, [some (.ref 59), some (.int x2)], [.ref 59, .long 0, .long (x2).toInt64])) (w' := fr_w) ((ex_stp (ins := .aload_n 0) rfl).trans rfl) ?_
      refine Go.next (f' := (7, [some (.ref 59), some (.int x2)], [.int 2, .long 0, .long (x2).toInt64])) (w' := fr_w) ((ex_stp (ins := .getfield 84) rfl).trans rfl) ?_
      refine Go.next (f' := (8, [some (.ref 59), some (.int x2)], [.int 1, .int 2, .long 0, .long (x2).toInt64])) (w' := fr_w) ((ex_stp (ins := .iconst 1) rfl).trans rfl) ?_
      refine Go.next (f' := (9, [some (.ref 59), some (.int x2)], [.int 1, .long 0, .long (x2).toInt64])) (w' := fr_w) ((ex_stp (ins := .isub) rfl).trans rfl) ?_
      refine Go.next (f' := (10, [some (.ref 59), some (.int x2)], [.long 1, .long 0, .long (x2).toInt64])) (w' := fr_w) ((ex_stp (ins := .i2l) rfl).trans rfl) ?_
      have h_40 : Go [] 37 mt_93 (ex_ent mt_93 [.long (x2).toInt64, .long 0, .long 1]) fr_w (some (.int 0), fr_w) := by
        show Go [] 37 mt_93 (0, [some (.long (x2).toInt64), none, some (.long 0), none, some (.long 1), none], []) fr_w _
        refine Go.next (f' := (1, [some (.long (x2).toInt64), none, some (.long 0), none, some (.long 1), none], [.long (x2).toInt64])) (w' := fr_w) ((ex_stp (ins := .lload_n 0) rfl).trans rfl) ?_
        refine Go.next (f' := (2, [some (.long (x2).toInt64), none, some (.long 0), none, some (.long 1), none], [.long 0, .long (x2).toInt64])) (w' := fr_w) ((ex_stp (ins := .lload_n 2) rfl).trans rfl) ?_
        refine Go.next (f' := (3, [some (.long (x2).toInt64), none, some (.long 0), none, some (.long 1), none], [.int (lg_cmp (x2).toInt64 0)])) (w' := fr_w) ((ex_stp (ins := .lcmp) rfl).trans rfl) ?_
        refine Go.next (f' := (17, [some (.long (x2).toInt64), none, some (.long 0), none, some (.long 1), none], [])) (w' := fr_w) ((ex_stp (ins := .ifCond .lt 14) rfl).trans (ex_b0_t (c := .lt) (off := 14) (pc := 3) (lo := [some (.long (x2).toInt64), none, some (.long 0), none, some (.long 1), none]) (x := (lg_cmp (x2).toInt64 0)) (r := []) (by rw [cl_lt]; exact decide_eq_true (by first | (rw [Int32.toInt_toInt64]; show x2.toInt < (0 : Int); omega) | omega)) (by decide))) ?_
        refine Go.next (f' := (18, [some (.long (x2).toInt64), none, some (.long 0), none, some (.long 1), none], [.int 0])) (w' := fr_w) ((ex_stp (ins := .iconst 0) rfl).trans rfl) ?_
        exact Go.ret ((ex_stp (ins := .ireturn) rfl).trans rfl)
      refine Go.call (d := 37) (cal := 93) (as := [.long (x2).toInt64, .long 0, .long 1]) (g := (13, [some (.ref 59), some (.int x2)], [])) (M' := mt_93) (r := some (.int 0)) (w' := fr_w) ((ex_stp (ins := .invokestatic 95) rfl).trans rfl) rfl (Nat.le_of_ble_eq_true rfl) h_40 ?_
      show Go [] 38 mt_100 (13, [some (.ref 59), some (.int x2)], [.int 0]) fr_w _
      exact Go.ret ((ex_stp (ins := .ireturn) rfl).trans rfl)
    refine Go.call (d := 38) (cal := 100) (as := [.ref 59, .int x2]) (g := (19, [some (.ref 59), some (.int x1), some (.int x2), none], [])) (M' := mt_100) (r := some (.int 0)) (w' := fr_w) ((ex_stp (ins := .invokevirtual 183) rfl).trans rfl) rfl (Nat.le_of_ble_eq_true rfl) h_39 ?_
    show Go [] 39 mt_26 (19, [some (.ref 59), some (.int x1), some (.int x2), none], [.int 0]) fr_w _
    refine Go.next (f' := (22, [some (.ref 59), some (.int x1), some (.int x2), none], [])) (w' := fr_w) ((ex_stp (ins := .ifCond .ne 5) rfl).trans rfl) ?_
    refine Go.next (f' := (23, [some (.ref 59), some (.int x1), some (.int x2), none], [.int (-1)])) (w' := fr_w) ((ex_stp (ins := .iconst (-1)) rfl).trans rfl) ?_
    exact Go.ret ((ex_stp (ins := .ireturn) rfl).trans rfl)
set_option maxRecDepth 100000 in
theorem ao_11_e (x1 x2 : Int32) (g0 : 1 ≤ x1.toInt) (g1 : x1.toInt ≤ 12) (g2 : 1 < x2.toInt) : A2 mt_25 mt_26 [.int x1, .int x2] := by
  refine ⟨(-1), fr_w, fr_w, _, ?_, rfl, ?_⟩
  · show Go [] 39 mt_25 (0, [some (.ref 0), some (.int x1), some (.int x2), none], []) fr_w _
    refine Go.next (f' := (1, [some (.ref 0), some (.int x1), some (.int x2), none], [.ref 0])) (w' := fr_w) ((ex_stp (ins := .aload_n 0) rfl).trans rfl) ?_
    refine Go.next (f' := (4, [some (.ref 0), some (.int x1), some (.int x2), none], [.ref 1])) (w' := fr_w) ((ex_stp (ins := .getfield 10) rfl).trans rfl) ?_
    refine Go.next (f' := (5, [some (.ref 0), some (.int x1), some (.int x2), none], [.int x1, .ref 1])) (w' := fr_w) ((ex_stp (ins := .iload_n 1) rfl).trans rfl) ?_
    have h_41 : Go [] 38 mt_101 (ex_ent mt_101 [.ref 1, .int x1]) fr_w (some (.int 1), fr_w) := by
      show Go [] 38 mt_101 (0, [some (.ref 1), some (.int x1)], []) fr_w _
      refine Go.next (f' := (1, [some (.ref 1), some (.int x1)], [.int x1])) (w' := fr_w) ((ex_stp (ins := .iload_n 1) rfl).trans rfl) ?_
      refine Go.next (f' := (2, [some (.ref 1), some (.int x1)], [.int 1, .int x1])) (w' := fr_w) ((ex_stp (ins := .iconst 1) rfl).trans rfl) ?_
      refine Go.next (f' := (5, [some (.ref 1), some (.int x1)], [])) (w' := fr_w) ((ex_stp (ins := .if_icmp .lt 21) rfl).trans (ex_b2_f (c := .lt) (off := 21) (pc := 2) (lo := [some (.ref 1), some (.int x1)]) (x := x1) (y := 1) (r := []) (by rw [c2_lt]; exact decide_eq_false (by show ¬ (x1.toInt < (1 : Int)); omega)) (by decide))) ?_
      refine Go.next (f' := (6, [some (.ref 1), some (.int x1)], [.int x1])) (w' := fr_w) ((ex_stp (ins := .iload_n 1) rfl).trans rfl) ?_
      refine Go.next (f' := (7, [some (.ref 1), some (.int x1)], [.ref 1, .int x1])) (w' := fr_w) ((ex_stp (ins := .aload_n 0) rfl).trans rfl) ?_
      refine Go.next (f' := (10, [some (.ref 1), some (.int x1)], [.int 12, .int x1])) (w' := fr_w) ((ex_stp (ins := .getfield 33) rfl).trans rfl) ?_
      refine Go.next (f' := (13, [some (.ref 1), some (.int x1)], [])) (w' := fr_w) ((ex_stp (ins := .if_icmp .gt 13) rfl).trans (ex_b2_f (c := .gt) (off := 13) (pc := 10) (lo := [some (.ref 1), some (.int x1)]) (x := x1) (y := 12) (r := []) (by rw [c2_gt]; exact decide_eq_false (by show ¬ ((12 : Int) < x1.toInt); omega)) (by decide))) ?_
      refine Go.next (f' := (14, [some (.ref 1), some (.int x1)], [.int x1])) (w' := fr_w) ((ex_stp (ins := .iload_n 1) rfl).trans rfl) ?_
      refine Go.next (f' := (16, [some (.ref 1), some (.int x1)], [.int 16, .int x1])) (w' := fr_w) ((ex_stp (ins := .bipush 16) rfl).trans rfl) ?_
      refine Go.next (f' := (19, [some (.ref 1), some (.int x1)], [])) (w' := fr_w) ((ex_stp (ins := .if_icmp .gt 7) rfl).trans (ex_b2_f (c := .gt) (off := 7) (pc := 16) (lo := [some (.ref 1), some (.int x1)]) (x := x1) (y := 16) (r := []) (by rw [c2_gt]; exact decide_eq_false (by show ¬ ((16 : Int) < x1.toInt); omega)) (by decide))) ?_
      refine Go.next (f' := (20, [some (.ref 1), some (.int x1)], [.int 1])) (w' := fr_w) ((ex_stp (ins := .iconst 1) rfl).trans rfl) ?_
      refine Go.next (f' := (24, [some (.ref 1), some (.int x1)], [.int 1])) (w' := fr_w) ((ex_stp (ins := .goto 4) rfl).trans rfl) ?_
      exact Go.ret ((ex_stp (ins := .ireturn) rfl).trans rfl)
    refine Go.call (d := 38) (cal := 101) (as := [.ref 1, .int x1]) (g := (8, [some (.ref 0), some (.int x1), some (.int x2), none], [])) (M' := mt_101) (r := some (.int 1)) (w' := fr_w) ((ex_stp (ins := .invokevirtual 132) rfl).trans rfl) rfl (Nat.le_of_ble_eq_true rfl) h_41 ?_
    show Go [] 39 mt_25 (8, [some (.ref 0), some (.int x1), some (.int x2), none], [.int 1]) fr_w _
    refine Go.next (f' := (11, [some (.ref 0), some (.int x1), some (.int x2), none], [])) (w' := fr_w) ((ex_stp (ins := .ifCond .eq 20) rfl).trans rfl) ?_
    refine Go.next (f' := (12, [some (.ref 0), some (.int x1), some (.int x2), none], [.int x2])) (w' := fr_w) ((ex_stp (ins := .iload_n 2) rfl).trans rfl) ?_
    refine Go.next (f' := (14, [some (.ref 0), some (.int x1), some (.int x2), none], [.int (-4), .int x2])) (w' := fr_w) ((ex_stp (ins := .bipush (-4)) rfl).trans rfl) ?_
    refine Go.next (f' := (17, [some (.ref 0), some (.int x1), some (.int x2), none], [])) (w' := fr_w) ((ex_stp (ins := .if_icmp .eq 16) rfl).trans (ex_b2_f (c := .eq) (off := 16) (pc := 14) (lo := [some (.ref 0), some (.int x1), some (.int x2), none]) (x := x2) (y := (-4)) (r := []) (by rw [c2_eq]; exact decide_eq_false (by show ¬ (x2.toInt = ((-4) : Int)); omega)) (by decide))) ?_
    refine Go.next (f' := (18, [some (.ref 0), some (.int x1), some (.int x2), none], [.ref 0])) (w' := fr_w) ((ex_stp (ins := .aload_n 0) rfl).trans rfl) ?_
    refine Go.next (f' := (21, [some (.ref 0), some (.int x1), some (.int x2), none], [.ref 1])) (w' := fr_w) ((ex_stp (ins := .getfield 10) rfl).trans rfl) ?_
    refine Go.next (f' := (22, [some (.ref 0), some (.int x1), some (.int x2), none], [.int x2, .ref 1])) (w' := fr_w) ((ex_stp (ins := .iload_n 2) rfl).trans rfl) ?_
    have h_42 : Go [] 38 mt_99 (ex_ent mt_99 [.ref 1, .int x2]) fr_w (some (.int 0), fr_w) := by
      show Go [] 38 mt_99 (0, [some (.ref 1), some (.int x2)], []) fr_w _
      refine Go.next (f' := (1, [some (.ref 1), some (.int x2)], [.int x2])) (w' := fr_w) ((ex_stp (ins := .iload_n 1) rfl).trans rfl) ?_
      refine Go.next (f' := (4, [some (.ref 1), some (.int x2)], [])) (w' := fr_w) ((ex_stp (ins := .ifCond .lt 20) rfl).trans (ex_b0_f (c := .lt) (off := 20) (pc := 1) (lo := [some (.ref 1), some (.int x2)]) (x := x2) (r := []) (by rw [c0_lt]; exact decide_eq_false (by show ¬ (x2.toInt < (0 : Int)); omega)) (by decide))) ?_
      refine Go.next (f' := (5, [some (.ref 1), some (.int x2)], [.int x2])) (w' := fr_w) ((ex_stp (ins := .iload_n 1) rfl).trans rfl) ?_
      refine Go.next (f' := (6, [some (.ref 1), some (.int x2)], [.ref 1, .int x2])) (w' := fr_w) ((ex_stp (ins := .aload_n 0) rfl).trans rfl) ?_
      refine Go.next (f' := (9, [some (.ref 1), some (.int x2)], [.int 2, .int x2])) (w' := fr_w) ((ex_stp (ins := .getfield 37) rfl).trans rfl) ?_
      refine Go.next (f' := (21, [some (.ref 1), some (.int x2)], [])) (w' := fr_w) ((ex_stp (ins := .if_icmp .ge 12) rfl).trans (ex_b2_t (c := .ge) (off := 12) (pc := 9) (lo := [some (.ref 1), some (.int x2)]) (x := x2) (y := 2) (r := []) (by rw [c2_ge]; exact decide_eq_true (by show (2 : Int) ≤ x2.toInt; omega)) (by decide))) ?_
      refine Go.next (f' := (22, [some (.ref 1), some (.int x2)], [.int 0])) (w' := fr_w) ((ex_stp (ins := .iconst 0) rfl).trans rfl) ?_
      exact Go.ret ((ex_stp (ins := .ireturn) rfl).trans rfl)
    refine Go.call (d := 38) (cal := 99) (as := [.ref 1, .int x2]) (g := (25, [some (.ref 0), some (.int x1), some (.int x2), none], [])) (M' := mt_99) (r := some (.int 0)) (w' := fr_w) ((ex_stp (ins := .invokevirtual 125) rfl).trans rfl) rfl (Nat.le_of_ble_eq_true rfl) h_42 ?_
    show Go [] 39 mt_25 (25, [some (.ref 0), some (.int x1), some (.int x2), none], [.int 0]) fr_w _
    refine Go.next (f' := (28, [some (.ref 0), some (.int x1), some (.int x2), none], [])) (w' := fr_w) ((ex_stp (ins := .ifCond .ne 5) rfl).trans rfl) ?_
    refine Go.next (f' := (29, [some (.ref 0), some (.int x1), some (.int x2), none], [.int (-1)])) (w' := fr_w) ((ex_stp (ins := .iconst (-1)) rfl).trans rfl) ?_
    exact Go.ret ((ex_stp (ins := .ireturn) rfl).trans rfl)
  · show Go [] 39 mt_26 (0, [some (.ref 59), some (.int x1), some (.int x2), none], []) fr_w _
    refine Go.next (f' := (1, [some (.ref 59), some (.int x1), some (.int x2), none], [.ref 59])) (w' := fr_w) ((ex_stp (ins := .aload_n 0) rfl).trans rfl) ?_
    refine Go.next (f' := (2, [some (.ref 59), some (.int x1), some (.int x2), none], [.int x1, .ref 59])) (w' := fr_w) ((ex_stp (ins := .iload_n 1) rfl).trans rfl) ?_
    have h_43 : Go [] 38 mt_102 (ex_ent mt_102 [.ref 59, .int x1]) fr_w (some (.int 1), fr_w) := by
      show Go [] 38 mt_102 (0, [some (.ref 59), some (.int x1)], []) fr_w _
      refine Go.next (f' := (1, [some (.ref 59), some (.int x1)], [.int x1])) (w' := fr_w) ((ex_stp (ins := .iload_n 1) rfl).trans rfl) ?_
      refine Go.next (f' := (2, [some (.ref 59), some (.int x1)], [.long (x1).toInt64])) (w' := fr_w) ((ex_stp (ins := .i2l) rfl).trans rfl) ?_
      refine Go.next (f' := (3, [some (.ref 59), some (.int x1)], [.long 1, .long (x1).toInt64])) (w' := fr_w) ((ex_stp (ins := .lconst 1) rfl).trans rfl) ?_
      refine Go.next (f' := (4, [some (.ref 59), some (.int x1)], [.ref 59, .long 1, .long (x1).toInt64])) (w' := fr_w) ((ex_stp (ins := .aload_n 0) rfl).trans rfl) ?_
      refine Go.next (f' := (7, [some (.ref 59), some (.int x1)], [.int 12, .long 1, .long (x1).toInt64])) (w' := fr_w) ((ex_stp (ins := .getfield 81) rfl).trans rfl) ?_
      refine Go.next (f' := (8, [some (.ref 59), some (.int x1)], [.long 12, .long 1, .long (x1).toInt64])) (w' := fr_w) ((ex_stp (ins := .i2l) rfl).trans rfl) ?_
      have h_44 : Go [] 37 mt_93 (ex_ent mt_93 [.long (x1).toInt64, .long 1, .long 12]) fr_w (some (.int 1), fr_w) := by
        show Go [] 37 mt_93 (0, [some (.long (x1).toInt64), none, some (.long 1), none, some (.long 12), none], []) fr_w _
        refine Go.next (f' := (1, [some (.long (x1).toInt64), none, some (.long 1), none, some (.long 12), none], [.long (x1).toInt64])) (w' := fr_w) ((ex_stp (ins := .lload_n 0) rfl).trans rfl) ?_
        refine Go.next (f' := (2, [some (.long (x1).toInt64), none, some (.long 1), none, some (.long 12), none], [.long 1, .long (x1).toInt64])) (w' := fr_w) ((ex_stp (ins := .lload_n 2) rfl).trans rfl) ?_
        refine Go.next (f' := (3, [some (.long (x1).toInt64), none, some (.long 1), none, some (.long 12), none], [.int (lg_cmp (x1).toInt64 1)])) (w' := fr_w) ((ex_stp (ins := .lcmp) rfl).trans rfl) ?_
        refine Go.next (f' := (6, [some (.long (x1).toInt64), none, some (.long 1), none, some (.long 12), none], [])) (w' := fr_w) ((ex_stp (ins := .ifCond .lt 14) rfl).trans (ex_b0_f (c := .lt) (off := 14) (pc := 3) (lo := [some (.long (x1).toInt64), none, some (.long 1), none, some (.long 12), none]) (x := (lg_cmp (x1).toInt64 1)) (r := []) (by rw [cl_lt]; exact decide_eq_false (by first | (rw [Int32.toInt_toInt64]; show ¬ (x1.toInt < (1 : Int)); omega) | omega)) (by decide))) ?_
        refine Go.next (f' := (7, [some (.long (x1).toInt64), none, some (.long 1), none, some (.long 12), none], [.long (x1).toInt64])) (w' := fr_w) ((ex_stp (ins := .lload_n 0) rfl).trans rfl) ?_
        refine Go.next (f' := (9, [some (.long (x1).toInt64), none, some (.long 1), none, some (.long 12), none], [.long 12, .long (x1).toInt64])) (w' := fr_w) ((ex_stp (ins := .lload 4) rfl).trans rfl) ?_
        refine Go.next (f' := (10, [some (.long (x1).toInt64), none, some (.long 1), none, some (.long 12), none], [.int (lg_cmp (x1).toInt64 12)])) (w' := fr_w) ((ex_stp (ins := .lcmp) rfl).trans rfl) ?_
        refine Go.next (f' := (13, [some (.long (x1).toInt64), none, some (.long 1), none, some (.long 12), none], [])) (w' := fr_w) ((ex_stp (ins := .ifCond .gt 7) rfl).trans (ex_b0_f (c := .gt) (off := 7) (pc := 10) (lo := [some (.long (x1).toInt64), none, some (.long 1), none, some (.long 12), none]) (x := (lg_cmp (x1).toInt64 12)) (r := []) (by rw [cl_gt]; exact decide_eq_false (by first | (rw [Int32.toInt_toInt64]; show ¬ ((12 : Int) < x1.toInt); omega) | omega)) (by decide))) ?_
        refine Go.next (f' := (14, [some (.long (x1).toInt64), none, some (.long 1), none, some (.long 12), none], [.int 1])) (w' := fr_w) ((ex_stp (ins := .iconst 1) rfl).trans rfl) ?_
        refine Go.next (f' := (18, [some (.long (x1).toInt64), none, some (.long 1), none, some (.long 12), none], [.int 1])) (w' := fr_w) ((ex_stp (ins := .goto 4) rfl).trans rfl) ?_
        exact Go.ret ((ex_stp (ins := .ireturn) rfl).trans rfl)
      refine Go.call (d := 37) (cal := 93) (as := [.long (x1).toInt64, .long 1, .long 12]) (g := (11, [some (.ref 59), some (.int x1)], [])) (M' := mt_93) (r := some (.int 1)) (w' := fr_w) ((ex_stp (ins := .invokestatic 95) rfl).trans rfl) rfl (Nat.le_of_ble_eq_true rfl) h_44 ?_
      show Go [] 38 mt_102 (11, [some (.ref 59), some (.int x1)], [.int 1]) fr_w _
      exact Go.ret ((ex_stp (ins := .ireturn) rfl).trans rfl)
    refine Go.call (d := 38) (cal := 102) (as := [.ref 59, .int x1]) (g := (5, [some (.ref 59), some (.int x1), some (.int x2), none], [])) (M' := mt_102) (r := some (.int 1)) (w' := fr_w) ((ex_stp (ins := .invokevirtual 187) rfl).trans rfl) rfl (Nat.le_of_ble_eq_true rfl) h_43 ?_
    show Go [] 39 mt_26 (5, [some (.ref 59), some (.int x1), some (.int x2), none], [.int 1]) fr_w _
    refine Go.next (f' := (8, [some (.ref 59), some (.int x1), some (.int x2), none], [])) (w' := fr_w) ((ex_stp (ins := .ifCond .eq 17) rfl).trans rfl) ?_
    refine Go.next (f' := (9, [some (.ref 59), some (.int x1), some (.int x2), none], [.int x2])) (w' := fr_w) ((ex_stp (ins := .iload_n 2) rfl).trans rfl) ?_
    refine Go.next (f' := (11, [some (.ref 59), some (.int x1), some (.int x2), none], [.int (-4), .int x2])) (w' := fr_w) ((ex_stp (ins := .bipush (-4)) rfl).trans rfl) ?_
    refine Go.next (f' := (14, [some (.ref 59), some (.int x1), some (.int x2), none], [])) (w' := fr_w) ((ex_stp (ins := .if_icmp .eq 13) rfl).trans (ex_b2_f (c := .eq) (off := 13) (pc := 11) (lo := [some (.ref 59), some (.int x1), some (.int x2), none]) (x := x2) (y := (-4)) (r := []) (by rw [c2_eq]; exact decide_eq_false (by show ¬ (x2.toInt = ((-4) : Int)); omega)) (by decide))) ?_
    refine Go.next (f' := (15, [some (.ref 59), some (.int x1), some (.int x2), none], [.ref 59])) (w' := fr_w) ((ex_stp (ins := .aload_n 0) rfl).trans rfl) ?_
    refine Go.next (f' := (16, [some (.ref 59), some (.int x1), some (.int x2), none], [.int x2, .ref 59])) (w' := fr_w) ((ex_stp (ins := .iload_n 2) rfl).trans rfl) ?_
    have h_45 : Go [] 38 mt_100 (ex_ent mt_100 [.ref 59, .int x2]) fr_w (some (.int 0), fr_w) := by
      show Go [] 38 mt_100 (0, [some (.ref 59), some (.int x2)], []) fr_w _
      refine Go.next (f' := (1, [some (.ref 59), some (.int x2)], [.int x2])) (w' := fr_w) ((ex_stp (ins := .iload_n 1) rfl).trans rfl) ?_
      refine Go.next (f' := (2, [some (.ref 59), some (.int x2)], [.long (x2).toInt64])) (w' := fr_w) ((ex_stp (ins := .i2l) rfl).trans rfl) ?_
      refine Go.next (f' := (3, [some (.ref 59), some (.int x2)], [.long 0, .long (x2).toInt64])) (w' := fr_w) ((ex_stp (ins := .lconst 0) rfl).trans rfl) ?_
      refine Go.next (f' := (4, [some (.ref 59), some (.int x2)], [.ref 59, .long 0, .long (x2).toInt64])) (w' := fr_w) ((ex_stp (ins := .aload_n 0) rfl).trans rfl) ?_
      refine Go.next (f' := (7, [some (.ref 59), some (.int x2)], [.int 2, .long 0, .long (x2).toInt64])) (w' := fr_w) ((ex_stp (ins := .getfield 84) rfl).trans rfl) ?_
      refine Go.next (f' := (8, [some (.ref 59), some (.int x2)], [.int 1, .int 2, .long 0, .long (x2).toInt64])) (w' := fr_w) ((ex_stp (ins := .iconst 1) rfl).trans rfl) ?_
      refine Go.next (f' := (9, [some (.ref 59), some (.int x2)], [.int 1, .long 0, .long (x2).toInt64])) (w' := fr_w) ((ex_stp (ins := .isub) rfl).trans rfl) ?_
      refine Go.next (f' := (10, [some (.ref 59), some (.int x2)], [.long 1, .long 0, .long (x2).toInt64])) (w' := fr_w) ((ex_stp (ins := .i2l) rfl).trans rfl) ?_
      have h_46 : Go [] 37 mt_93 (ex_ent mt_93 [.long (x2).toInt64, .long 0, .long 1]) fr_w (some (.int 0), fr_w) := by
        show Go [] 37 mt_93 (0, [some (.long (x2).toInt64), none, some (.long 0), none, some (.long 1), none], []) fr_w _
        refine Go.next (f' := (1, [some (.long (x2).toInt64), none, some (.long 0), none, some (.long 1), none], [.long (x2).toInt64])) (w' := fr_w) ((ex_stp (ins := .lload_n 0) rfl).trans rfl) ?_
        refine Go.next (f' := (2, [some (.long (x2).toInt64), none, some (.long 0), none, some (.long 1), none], [.long 0, .long (x2).toInt64])) (w' := fr_w) ((ex_stp (ins := .lload_n 2) rfl).trans rfl) ?_
        refine Go.next (f' := (3, [some (.long (x2).toInt64), none, some (.long 0), none, some (.long 1), none], [.int (lg_cmp (x2).toInt64 0)])) (w' := fr_w) ((ex_stp (ins := .lcmp) rfl).trans rfl) ?_
        refine Go.next (f' := (6, [some (.long (x2).toInt64), none, some (.long 0), none, some (.long 1), none], [])) (w' := fr_w) ((ex_stp (ins := .ifCond .lt 14) rfl).trans (ex_b0_f (c := .lt) (off := 14) (pc := 3) (lo := [some (.long (x2).toInt64), none, some (.long 0), none, some (.long 1), none]) (x := (lg_cmp (x2).toInt64 0)) (r := []) (by rw [cl_lt]; exact decide_eq_false (by first | (rw [Int32.toInt_toInt64]; show ¬ (x2.toInt < (0 : Int)); omega) | omega)) (by decide))) ?_
        refine Go.next (f' := (7, [some (.long (x2).toInt64), none, some (.long 0), none, some (.long 1), none], [.long (x2).toInt64])) (w' := fr_w) ((ex_stp (ins := .lload_n 0) rfl).trans rfl) ?_
        refine Go.next (f' := (9, [some (.long (x2).toInt64), none, some (.long 0), none, some (.long 1), none], [.long 1, .long (x2).toInt64])) (w' := fr_w) ((ex_stp (ins := .lload 4) rfl).trans rfl) ?_
        refine Go.next (f' := (10, [some (.long (x2).toInt64), none, some (.long 0), none, some (.long 1), none], [.int (lg_cmp (x2).toInt64 1)])) (w' := fr_w) ((ex_stp (ins := .lcmp) rfl).trans rfl) ?_
        refine Go.next (f' := (17, [some (.long (x2).toInt64), none, some (.long 0), none, some (.long 1), none], [])) (w' := fr_w) ((ex_stp (ins := .ifCond .gt 7) rfl).trans (ex_b0_t (c := .gt) (off := 7) (pc := 10) (lo := [some (.long (x2).toInt64), none, some (.long 0), none, some (.long 1), none]) (x := (lg_cmp (x2).toInt64 1)) (r := []) (by rw [cl_gt]; exact decide_eq_true (by first | (rw [Int32.toInt_toInt64]; show (1 : Int) < x2.toInt; omega) | omega)) (by decide))) ?_
        refine Go.next (f' := (18, [some (.long (x2).toInt64), none, some (.long 0), none, some (.long 1), none], [.int 0])) (w' := fr_w) ((ex_stp (ins := .iconst 0) rfl).trans rfl) ?_
        exact Go.ret ((ex_stp (ins := .ireturn) rfl).trans rfl)
      refine Go.call (d := 37) (cal := 93) (as := [.long (x2).toInt64, .long 0, .long 1]) (g := (13, [some (.ref 59), some (.int x2)], [])) (M' := mt_93) (r := some (.int 0)) (w' := fr_w) ((ex_stp (ins := .invokestatic 95) rfl).trans rfl) rfl (Nat.le_of_ble_eq_true rfl) h_46 ?_
      show Go [] 38 mt_100 (13, [some (.ref 59), some (.int x2)], [.int 0]) fr_w _
      exact Go.ret ((ex_stp (ins := .ireturn) rfl).trans rfl)
    refine Go.call (d := 38) (cal := 100) (as := [.ref 59, .int x2]) (g := (19, [some (.ref 59), some (.int x1), some (.int x2), none], [])) (M' := mt_100) (r := some (.int 0)) (w' := fr_w) ((ex_stp (ins := .invokevirtual 183) rfl).trans rfl) rfl (Nat.le_of_ble_eq_true rfl) h_45 ?_
    show Go [] 39 mt_26 (19, [some (.ref 59), some (.int x1), some (.int x2), none], [.int 0]) fr_w _
    refine Go.next (f' := (22, [some (.ref 59), some (.int x1), some (.int x2), none], [])) (w' := fr_w) ((ex_stp (ins := .ifCond .ne 5) rfl).trans rfl) ?_
    refine Go.next (f' := (23, [some (.ref 59), some (.int x1), some (.int x2), none], [.int (-1)])) (w' := fr_w) ((ex_stp (ins := .iconst (-1)) rfl).trans rfl) ?_
    exact Go.ret ((ex_stp (ins := .ireturn) rfl).trans rfl)
set_option maxRecDepth 100000 in
theorem ao_12_a (x1 : Int32) (g0 : x1.toInt < 0) : A2 mt_27 mt_28 [.int x1] := by
  refine ⟨(-1), fr_w, fr_w, _, ?_, rfl, ?_⟩
  · show Go [] 39 mt_27 (0, [some (.ref 0), some (.int x1), none], []) fr_w _
    refine Go.next (f' := (1, [some (.ref 0), some (.int x1), none], [.ref 0])) (w' := fr_w) ((ex_stp (ins := .aload_n 0) rfl).trans rfl) ?_
    refine Go.next (f' := (4, [some (.ref 0), some (.int x1), none], [.ref 1])) (w' := fr_w) ((ex_stp (ins := .getfield 10) rfl).trans rfl) ?_
    refine Go.next (f' := (7, [some (.ref 0), some (.int x1), none], [.int 0])) (w' := fr_w) ((ex_stp (ins := .getfield 119) rfl).trans rfl) ?_
    refine Go.next (f' := (8, [some (.ref 0), some (.int x1), some (.int 0)], [])) (w' := fr_w) ((ex_stp (ins := .istore_n 2) rfl).trans rfl) ?_
    refine Go.next (f' := (9, [some (.ref 0), some (.int x1), some (.int 0)], [.int x1])) (w' := fr_w) ((ex_stp (ins := .iload_n 1) rfl).trans rfl) ?_
    refine Go.next (f' := (17, [some (.ref 0), some (.int x1), some (.int 0)], [])) (w' := fr_w) ((ex_stp (ins := .ifCond .lt 8) rfl).trans (ex_b0_t (c := .lt) (off := 8) (pc := 9) (lo := [some (.ref 0), some (.int x1), some (.int 0)]) (x := x1) (r := []) (by rw [c0_lt]; exact decide_eq_true (by show x1.toInt < (0 : Int); omega)) (by decide))) ?_
    refine Go.next (f' := (18, [some (.ref 0), some (.int x1), some (.int 0)], [.int (-1)])) (w' := fr_w) ((ex_stp (ins := .iconst (-1)) rfl).trans rfl) ?_
    exact Go.ret ((ex_stp (ins := .ireturn) rfl).trans rfl)
  · show Go [] 39 mt_28 (0, [some (.ref 59), some (.int x1), none], []) fr_w _
    refine Go.next (f' := (1, [some (.ref 59), some (.int x1), none], [.int x1])) (w' := fr_w) ((ex_stp (ins := .iload_n 1) rfl).trans rfl) ?_
    refine Go.next (f' := (2, [some (.ref 59), some (.int x1), none], [.long (x1).toInt64])) (w' := fr_w) ((ex_stp (ins := .i2l) rfl).trans rfl) ?_
    refine Go.next (f' := (3, [some (.ref 59), some (.int x1), none], [.long 0, .long (x1).toInt64])) (w' := fr_w) ((ex_stp (ins := .lconst 0) rfl).trans rfl) ?_
    refine Go.next (f' := (4, [some (.ref 59), some (.int x1), none], [.ref 59, .long 0, .long (x1).toInt64])) (w' := fr_w) ((ex_stp (ins := .aload_n 0) rfl).trans rfl) ?_
    refine Go.next (f' := (7, [some (.ref 59), some (.int x1), none], [.ref 60, .long 0, .long (x1).toInt64])) (w' := fr_w) ((ex_stp (ins := .getfield 7) rfl).trans rfl) ?_
    refine Go.next (f' := (8, [some (.ref 59), some (.int x1), none], [.int 0, .ref 60, .long 0, .long (x1).toInt64])) (w' := fr_w) ((ex_stp (ins := .iconst 0) rfl).trans rfl) ?_
    refine Go.next (f' := (9, [some (.ref 59), some (.int x1), none], [.int 0, .long 0, .long (x1).toInt64])) (w' := fr_w) ((ex_stp (ins := .iaload) rfl).trans rfl) ?_
    refine Go.next (f' := (10, [some (.ref 59), some (.int x1), none], [.long 0, .long 0, .long (x1).toInt64])) (w' := fr_w) ((ex_stp (ins := .i2l) rfl).trans rfl) ?_
    have h_47 : Go [] 38 mt_93 (ex_ent mt_93 [.long (x1).toInt64, .long 0, .long 0]) fr_w (some (.int 0), fr_w) := by
      show Go [] 38 mt_93 (0, [some (.long (x1).toInt64), none, some (.long 0), none, some (.long 0), none], []) fr_w _
      refine Go.next (f' := (1, [some (.long (x1).toInt64), none, some (.long 0), none, some (.long 0), none], [.long (x1).toInt64])) (w' := fr_w) ((ex_stp (ins := .lload_n 0) rfl).trans rfl) ?_
      refine Go.next (f' := (2, [some (.long (x1).toInt64), none, some (.long 0), none, some (.long 0), none], [.long 0, .long (x1).toInt64])) (w' := fr_w) ((ex_stp (ins := .lload_n 2) rfl).trans rfl) ?_
      refine Go.next (f' := (3, [some (.long (x1).toInt64), none, some (.long 0), none, some (.long 0), none], [.int (lg_cmp (x1).toInt64 0)])) (w' := fr_w) ((ex_stp (ins := .lcmp) rfl).trans rfl) ?_
      refine Go.next (f' := (17, [some (.long (x1).toInt64), none, some (.long 0), none, some (.long 0), none], [])) (w' := fr_w) ((ex_stp (ins := .ifCond .lt 14) rfl).trans (ex_b0_t (c := .lt) (off := 14) (pc := 3) (lo := [some (.long (x1).toInt64), none, some (.long 0), none, some (.long 0), none]) (x := (lg_cmp (x1).toInt64 0)) (r := []) (by rw [cl_lt]; exact decide_eq_true (by first | (rw [Int32.toInt_toInt64]; show x1.toInt < (0 : Int); omega) | omega)) (by decide))) ?_
      refine Go.next (f' := (18, [some (.long (x1).toInt64), none, some (.long 0), none, some (.long 0), none], [.int 0])) (w' := fr_w) ((ex_stp (ins := .iconst 0) rfl).trans rfl) ?_
      exact Go.ret ((ex_stp (ins := .ireturn) rfl).trans rfl)
    refine Go.call (d := 38) (cal := 93) (as := [.long (x1).toInt64, .long 0, .long 0]) (g := (13, [some (.ref 59), some (.int x1), none], [])) (M' := mt_93) (r := some (.int 0)) (w' := fr_w) ((ex_stp (ins := .invokestatic 95) rfl).trans rfl) rfl (Nat.le_of_ble_eq_true rfl) h_47 ?_
    show Go [] 39 mt_28 (13, [some (.ref 59), some (.int x1), none], [.int 0]) fr_w _
    refine Go.next (f' := (16, [some (.ref 59), some (.int x1), none], [])) (w' := fr_w) ((ex_stp (ins := .ifCond .ne 5) rfl).trans rfl) ?_
    refine Go.next (f' := (17, [some (.ref 59), some (.int x1), none], [.int (-1)])) (w' := fr_w) ((ex_stp (ins := .iconst (-1)) rfl).trans rfl) ?_
    exact Go.ret ((ex_stp (ins := .ireturn) rfl).trans rfl)
set_option maxRecDepth 100000 in
theorem ao_12_b (x1 : Int32) (g0 : 0 < x1.toInt) : A2 mt_27 mt_28 [.int x1] := by
  refine ⟨(-1), fr_w, fr_w, _, ?_, rfl, ?_⟩
  · show Go [] 39 mt_27 (0, [some (.ref 0), some (.int x1), none], []) fr_w _
    refine Go.next (f' := (1, [some (.ref 0), some (.int x1), none], [.ref 0])) (w' := fr_w) ((ex_stp (ins := .aload_n 0) rfl).trans rfl) ?_
    refine Go.next (f' := (4, [some (.ref 0), some (.int x1), none], [.ref 1])) (w' := fr_w) ((ex_stp (ins := .getfield 10) rfl).trans rfl) ?_
    refine Go.next (f' := (7, [some (.ref 0), some (.int x1), none], [.int 0])) (w' := fr_w) ((ex_stp (ins := .getfield 119) rfl).trans rfl) ?_
    refine Go.next (f' := (8, [some (.ref 0), some (.int x1), some (.int 0)], [])) (w' := fr_w) ((ex_stp (ins := .istore_n 2) rfl).trans rfl) ?_
    refine Go.next (f' := (9, [some (.ref 0), some (.int x1), some (.int 0)], [.int x1])) (w' := fr_w) ((ex_stp (ins := .iload_n 1) rfl).trans rfl) ?_
    refine Go.next (f' := (12, [some (.ref 0), some (.int x1), some (.int 0)], [])) (w' := fr_w) ((ex_stp (ins := .ifCond .lt 8) rfl).trans (ex_b0_f (c := .lt) (off := 8) (pc := 9) (lo := [some (.ref 0), some (.int x1), some (.int 0)]) (x := x1) (r := []) (by rw [c0_lt]; exact decide_eq_false (by show ¬ (x1.toInt < (0 : Int)); omega)) (by decide))) ?_
    refine Go.next (f' := (13, [some (.ref 0), some (.int x1), some (.int 0)], [.int x1])) (w' := fr_w) ((ex_stp (ins := .iload_n 1) rfl).trans rfl) ?_
    refine Go.next (f' := (14, [some (.ref 0), some (.int x1), some (.int 0)], [.int 0, .int x1])) (w' := fr_w) ((ex_stp (ins := .iload_n 2) rfl).trans rfl) ?_
    refine Go.next (f' := (17, [some (.ref 0), some (.int x1), some (.int 0)], [])) (w' := fr_w) ((ex_stp (ins := .if_icmp .le 5) rfl).trans (ex_b2_f (c := .le) (off := 5) (pc := 14) (lo := [some (.ref 0), some (.int x1), some (.int 0)]) (x := x1) (y := 0) (r := []) (by rw [c2_le]; exact decide_eq_false (by show ¬ (x1.toInt ≤ (0 : Int)); omega)) (by decide))) ?_
    refine Go.next (f' := (18, [some (.ref 0), some (.int x1), some (.int 0)], [.int (-1)])) (w' := fr_w) ((ex_stp (ins := .iconst (-1)) rfl).trans rfl) ?_
    exact Go.ret ((ex_stp (ins := .ireturn) rfl).trans rfl)
  · show Go [] 39 mt_28 (0, [some (.ref 59), some (.int x1), none], []) fr_w _
    refine Go.next (f' := (1, [some (.ref 59), some (.int x1), none], [.int x1])) (w' := fr_w) ((ex_stp (ins := .iload_n 1) rfl).trans rfl) ?_
    refine Go.next (f' := (2, [some (.ref 59), some (.int x1), none], [.long (x1).toInt64])) (w' := fr_w) ((ex_stp (ins := .i2l) rfl).trans rfl) ?_
    refine Go.next (f' := (3, [some (.ref 59), some (.int x1), none], [.long 0, .long (x1).toInt64])) (w' := fr_w) ((ex_stp (ins := .lconst 0) rfl).trans rfl) ?_
    refine Go.next (f' := (4, [some (.ref 59), some (.int x1), none], [.ref 59, .long 0, .long (x1).toInt64])) (w' := fr_w) ((ex_stp (ins := .aload_n 0) rfl).trans rfl) ?_
    refine Go.next (f' := (7, [some (.ref 59), some (.int x1), none], [.ref 60, .long 0, .long (x1).toInt64])) (w' := fr_w) ((ex_stp (ins := .getfield 7) rfl).trans rfl) ?_
    refine Go.next (f' := (8, [some (.ref 59), some (.int x1), none], [.int 0, .ref 60, .long 0, .long (x1).toInt64])) (w' := fr_w) ((ex_stp (ins := .iconst 0) rfl).trans rfl) ?_
    refine Go.next (f' := (9, [some (.ref 59), some (.int x1), none], [.int 0, .long 0, .long (x1).toInt64])) (w' := fr_w) ((ex_stp (ins := .iaload) rfl).trans rfl) ?_
    refine Go.next (f' := (10, [some (.ref 59), some (.int x1), none], [.long 0, .long 0, .long (x1).toInt64])) (w' := fr_w) ((ex_stp (ins := .i2l) rfl).trans rfl) ?_
    have h_48 : Go [] 38 mt_93 (ex_ent mt_93 [.long (x1).toInt64, .long 0, .long 0]) fr_w (some (.int 0), fr_w) := by
      show Go [] 38 mt_93 (0, [some (.long (x1).toInt64), none, some (.long 0), none, some (.long 0), none], []) fr_w _
      refine Go.next (f' := (1, [some (.long (x1).toInt64), none, some (.long 0), none, some (.long 0), none], [.long (x1).toInt64])) (w' := fr_w) ((ex_stp (ins := .lload_n 0) rfl).trans rfl) ?_
      refine Go.next (f' := (2, [some (.long (x1).toInt64), none, some (.long 0), none, some (.long 0), none], [.long 0, .long (x1).toInt64])) (w' := fr_w) ((ex_stp (ins := .lload_n 2) rfl).trans rfl) ?_
      refine Go.next (f' := (3, [some (.long (x1).toInt64), none, some (.long 0), none, some (.long 0), none], [.int (lg_cmp (x1).toInt64 0)])) (w' := fr_w) ((ex_stp (ins := .lcmp) rfl).trans rfl) ?_
      refine Go.next (f' := (6, [some (.long (x1).toInt64), none, some (.long 0), none, some (.long 0), none], [])) (w' := fr_w) ((ex_stp (ins := .ifCond .lt 14) rfl).trans (ex_b0_f (c := .lt) (off := 14) (pc := 3) (lo := [some (.long (x1).toInt64), none, some (.long 0), none, some (.long 0), none]) (x := (lg_cmp (x1).toInt64 0)) (r := []) (by rw [cl_lt]; exact decide_eq_false (by first | (rw [Int32.toInt_toInt64]; show ¬ (x1.toInt < (0 : Int)); omega) | omega)) (by decide))) ?_
      refine Go.next (f' := (7, [some (.long (x1).toInt64), none, some (.long 0), none, some (.long 0), none], [.long (x1).toInt64])) (w' := fr_w) ((ex_stp (ins := .lload_n 0) rfl).trans rfl) ?_
      refine Go.next (f' := (9, [some (.long (x1).toInt64), none, some (.long 0), none, some (.long 0), none], [.long 0, .long (x1).toInt64])) (w' := fr_w) ((ex_stp (ins := .lload 4) rfl).trans rfl) ?_
      refine Go.next (f' := (10, [some (.long (x1).toInt64), none, some (.long 0), none, some (.long 0), none], [.int (lg_cmp (x1).toInt64 0)])) (w' := fr_w) ((ex_stp (ins := .lcmp) rfl).trans rfl) ?_
      refine Go.next (f' := (17, [some (.long (x1).toInt64), none, some (.long 0), none, some (.long 0), none], [])) (w' := fr_w) ((ex_stp (ins := .ifCond .gt 7) rfl).trans (ex_b0_t (c := .gt) (off := 7) (pc := 10) (lo := [some (.long (x1).toInt64), none, some (.long 0), none, some (.long 0), none]) (x := (lg_cmp (x1).toInt64 0)) (r := []) (by rw [cl_gt]; exact decide_eq_true (by first | (rw [Int32.toInt_toInt64]; show (0 : Int) < x1.toInt; omega) | omega)) (by decide))) ?_
      refine Go.next (f' := (18, [some (.long (x1).toInt64), none, some (.long 0), none, some (.long 0), none], [.int 0])) (w' := fr_w) ((ex_stp (ins := .iconst 0) rfl).trans rfl) ?_
      exact Go.ret ((ex_stp (ins := .ireturn) rfl).trans rfl)
    refine Go.call (d := 38) (cal := 93) (as := [.long (x1).toInt64, .long 0, .long 0]) (g := (13, [some (.ref 59), some (.int x1), none], [])) (M' := mt_93) (r := some (.int 0)) (w' := fr_w) ((ex_stp (ins := .invokestatic 95) rfl).trans rfl) rfl (Nat.le_of_ble_eq_true rfl) h_48 ?_
    show Go [] 39 mt_28 (13, [some (.ref 59), some (.int x1), none], [.int 0]) fr_w _
    refine Go.next (f' := (16, [some (.ref 59), some (.int x1), none], [])) (w' := fr_w) ((ex_stp (ins := .ifCond .ne 5) rfl).trans rfl) ?_
    refine Go.next (f' := (17, [some (.ref 59), some (.int x1), none], [.int (-1)])) (w' := fr_w) ((ex_stp (ins := .iconst (-1)) rfl).trans rfl) ?_
    exact Go.ret ((ex_stp (ins := .ireturn) rfl).trans rfl)
set_option maxRecDepth 100000 in
theorem ao_14_a (x1 : Int32) (g0 : x1.toInt < 1) : A2 mt_31 mt_32 [.int x1] := by
  refine ⟨(-1), fr_w, fr_w, _, ?_, rfl, ?_⟩
  · show Go [] 39 mt_31 (0, [some (.ref 0), some (.int x1)], []) fr_w _
    refine Go.next (f' := (1, [some (.ref 0), some (.int x1)], [.ref 0])) (w' := fr_w) ((ex_stp (ins := .aload_n 0) rfl).trans rfl) ?_
    refine Go.next (f' := (4, [some (.ref 0), some (.int x1)], [.ref 1])) (w' := fr_w) ((ex_stp (ins := .getfield 10) rfl).trans rfl) ?_
    refine Go.next (f' := (5, [some (.ref 0), some (.int x1)], [.int x1, .ref 1])) (w' := fr_w) ((ex_stp (ins := .iload_n 1) rfl).trans rfl) ?_
    have h_49 : Go [] 38 mt_101 (ex_ent mt_101 [.ref 1, .int x1]) fr_w (some (.int 0), fr_w) := by
      show Go [] 38 mt_101 (0, [some (.ref 1), some (.int x1)], []) fr_w _
      refine Go.next (f' := (1, [some (.ref 1), some (.int x1)], [.int x1])) (w' := fr_w) ((ex_stp (ins := .iload_n 1) rfl).trans rfl) ?_
      refine Go.next (f' := (2, [some (.ref 1), some (.int x1)], [.int 1, .int x1])) (w' := fr_w) ((ex_stp (ins := .iconst 1) rfl).trans rfl) ?_
      refine Go.next (f' := (23, [some (.ref 1), some (.int x1)], [])) (w' := fr_w) ((ex_stp (ins := .if_icmp .lt 21) rfl).trans (ex_b2_t (c := .lt) (off := 21) (pc := 2) (lo := [some (.ref 1), some (.int x1)]) (x := x1) (y := 1) (r := []) (by rw [c2_lt]; exact decide_eq_true (by show x1.toInt < (1 : Int); omega)) (by decide))) ?_
      refine Go.next (f' := (24, [some (.ref 1), some (.int x1)], [.int 0])) (w' := fr_w) ((ex_stp (ins := .iconst 0) rfl).trans rfl) ?_
      exact Go.ret ((ex_stp (ins := .ireturn) rfl).trans rfl)
    refine Go.call (d := 38) (cal := 101) (as := [.ref 1, .int x1]) (g := (8, [some (.ref 0), some (.int x1)], [])) (M' := mt_101) (r := some (.int 0)) (w' := fr_w) ((ex_stp (ins := .invokevirtual 132) rfl).trans rfl) rfl (Nat.le_of_ble_eq_true rfl) h_49 ?_
    show Go [] 39 mt_31 (8, [some (.ref 0), some (.int x1)], [.int 0]) fr_w _
    refine Go.next (f' := (11, [some (.ref 0), some (.int x1)], [])) (w' := fr_w) ((ex_stp (ins := .ifCond .ne 5) rfl).trans rfl) ?_
    refine Go.next (f' := (12, [some (.ref 0), some (.int x1)], [.int (-1)])) (w' := fr_w) ((ex_stp (ins := .iconst (-1)) rfl).trans rfl) ?_
    exact Go.ret ((ex_stp (ins := .ireturn) rfl).trans rfl)
  · show Go [] 39 mt_32 (0, [some (.ref 59), some (.int x1)], []) fr_w _
    refine Go.next (f' := (1, [some (.ref 59), some (.int x1)], [.ref 59])) (w' := fr_w) ((ex_stp (ins := .aload_n 0) rfl).trans rfl) ?_
    refine Go.next (f' := (2, [some (.ref 59), some (.int x1)], [.int x1, .ref 59])) (w' := fr_w) ((ex_stp (ins := .iload_n 1) rfl).trans rfl) ?_
    have h_50 : Go [] 38 mt_102 (ex_ent mt_102 [.ref 59, .int x1]) fr_w (some (.int 0), fr_w) := by
      show Go [] 38 mt_102 (0, [some (.ref 59), some (.int x1)], []) fr_w _
      refine Go.next (f' := (1, [some (.ref 59), some (.int x1)], [.int x1])) (w' := fr_w) ((ex_stp (ins := .iload_n 1) rfl).trans rfl) ?_
      refine Go.next (f' := (2, [some (.ref 59), some (.int x1)], [.long (x1).toInt64])) (w' := fr_w) ((ex_stp (ins := .i2l) rfl).trans rfl) ?_
      refine Go.next (f' := (3, [some (.ref 59), some (.int x1)], [.long 1, .long (x1).toInt64])) (w' := fr_w) ((ex_stp (ins := .lconst 1) rfl).trans rfl) ?_
      refine Go.next (f' := (4, [some (.ref 59), some (.int x1)], [.ref 59, .long 1, .long (x1).toInt64])) (w' := fr_w) ((ex_stp (ins := .aload_n 0) rfl).trans rfl) ?_
      refine Go.next (f' := (7, [some (.ref 59), some (.int x1)], [.int 12, .long 1, .long (x1).toInt64])) (w' := fr_w) ((ex_stp (ins := .getfield 81) rfl).trans rfl) ?_
      refine Go.next (f' := (8, [some (.ref 59), some (.int x1)], [.long 12, .long 1, .long (x1).toInt64])) (w' := fr_w) ((ex_stp (ins := .i2l) rfl).trans rfl) ?_
      have h_51 : Go [] 37 mt_93 (ex_ent mt_93 [.long (x1).toInt64, .long 1, .long 12]) fr_w (some (.int 0), fr_w) := by
        show Go [] 37 mt_93 (0, [some (.long (x1).toInt64), none, some (.long 1), none, some (.long 12), none], []) fr_w _
        refine Go.next (f' := (1, [some (.long (x1).toInt64), none, some (.long 1), none, some (.long 12), none], [.long (x1).toInt64])) (w' := fr_w) ((ex_stp (ins := .lload_n 0) rfl).trans rfl) ?_
        refine Go.next (f' := (2, [some (.long (x1).toInt64), none, some (.long 1), none, some (.long 12), none], [.long 1, .long (x1).toInt64])) (w' := fr_w) ((ex_stp (ins := .lload_n 2) rfl).trans rfl) ?_
        refine Go.next (f' := (3, [some (.long (x1).toInt64), none, some (.long 1), none, some (.long 12), none], [.int (lg_cmp (x1).toInt64 1)])) (w' := fr_w) ((ex_stp (ins := .lcmp) rfl).trans rfl) ?_
        refine Go.next (f' := (17, [some (.long (x1).toInt64), none, some (.long 1), none, some (.long 12), none], [])) (w' := fr_w) ((ex_stp (ins := .ifCond .lt 14) rfl).trans (ex_b0_t (c := .lt) (off := 14) (pc := 3) (lo := [some (.long (x1).toInt64), none, some (.long 1), none, some (.long 12), none]) (x := (lg_cmp (x1).toInt64 1)) (r := []) (by rw [cl_lt]; exact decide_eq_true (by first | (rw [Int32.toInt_toInt64]; show x1.toInt < (1 : Int); omega) | omega)) (by decide))) ?_
        refine Go.next (f' := (18, [some (.long (x1).toInt64), none, some (.long 1), none, some (.long 12), none], [.int 0])) (w' := fr_w) ((ex_stp (ins := .iconst 0) rfl).trans rfl) ?_
        exact Go.ret ((ex_stp (ins := .ireturn) rfl).trans rfl)
      refine Go.call (d := 37) (cal := 93) (as := [.long (x1).toInt64, .long 1, .long 12]) (g := (11, [some (.ref 59), some (.int x1)], [])) (M' := mt_93) (r := some (.int 0)) (w' := fr_w) ((ex_stp (ins := .invokestatic 95) rfl).trans rfl) rfl (Nat.le_of_ble_eq_true rfl) h_51 ?_
      show Go [] 38 mt_102 (11, [some (.ref 59), some (.int x1)], [.int 0]) fr_w _
      exact Go.ret ((ex_stp (ins := .ireturn) rfl).trans rfl)
    refine Go.call (d := 38) (cal := 102) (as := [.ref 59, .int x1]) (g := (5, [some (.ref 59), some (.int x1)], [])) (M' := mt_102) (r := some (.int 0)) (w' := fr_w) ((ex_stp (ins := .invokevirtual 187) rfl).trans rfl) rfl (Nat.le_of_ble_eq_true rfl) h_50 ?_
    show Go [] 39 mt_32 (5, [some (.ref 59), some (.int x1)], [.int 0]) fr_w _
    refine Go.next (f' := (8, [some (.ref 59), some (.int x1)], [])) (w' := fr_w) ((ex_stp (ins := .ifCond .ne 5) rfl).trans rfl) ?_
    refine Go.next (f' := (9, [some (.ref 59), some (.int x1)], [.int (-1)])) (w' := fr_w) ((ex_stp (ins := .iconst (-1)) rfl).trans rfl) ?_
    exact Go.ret ((ex_stp (ins := .ireturn) rfl).trans rfl)
set_option maxRecDepth 100000 in
theorem ao_14_b (x1 : Int32) (g0 : 12 < x1.toInt) : A2 mt_31 mt_32 [.int x1] := by
  refine ⟨(-1), fr_w, fr_w, _, ?_, rfl, ?_⟩
  · show Go [] 39 mt_31 (0, [some (.ref 0), some (.int x1)], []) fr_w _
    refine Go.next (f' := (1, [some (.ref 0), some (.int x1)], [.ref 0])) (w' := fr_w) ((ex_stp (ins := .aload_n 0) rfl).trans rfl) ?_
    refine Go.next (f' := (4, [some (.ref 0), some (.int x1)], [.ref 1])) (w' := fr_w) ((ex_stp (ins := .getfield 10) rfl).trans rfl) ?_
    refine Go.next (f' := (5, [some (.ref 0), some (.int x1)], [.int x1, .ref 1])) (w' := fr_w) ((ex_stp (ins := .iload_n 1) rfl).trans rfl) ?_
    have h_52 : Go [] 38 mt_101 (ex_ent mt_101 [.ref 1, .int x1]) fr_w (some (.int 0), fr_w) := by
      show Go [] 38 mt_101 (0, [some (.ref 1), some (.int x1)], []) fr_w _
      refine Go.next (f' := (1, [some (.ref 1), some (.int x1)], [.int x1])) (w' := fr_w) ((ex_stp (ins := .iload_n 1) rfl).trans rfl) ?_
      refine Go.next (f' := (2, [some (.ref 1), some (.int x1)], [.int 1, .int x1])) (w' := fr_w) ((ex_stp (ins := .iconst 1) rfl).trans rfl) ?_
      refine Go.next (f' := (5, [some (.ref 1), some (.int x1)], [])) (w' := fr_w) ((ex_stp (ins := .if_icmp .lt 21) rfl).trans (ex_b2_f (c := .lt) (off := 21) (pc := 2) (lo := [some (.ref 1), some (.int x1)]) (x := x1) (y := 1) (r := []) (by rw [c2_lt]; exact decide_eq_false (by show ¬ (x1.toInt < (1 : Int)); omega)) (by decide))) ?_
      refine Go.next (f' := (6, [some (.ref 1), some (.int x1)], [.int x1])) (w' := fr_w) ((ex_stp (ins := .iload_n 1) rfl).trans rfl) ?_
      refine Go.next (f' := (7, [some (.ref 1), some (.int x1)], [.ref 1, .int x1])) (w' := fr_w) ((ex_stp (ins := .aload_n 0) rfl).trans rfl) ?_
      refine Go.next (f' := (10, [some (.ref 1), some (.int x1)], [.int 12, .int x1])) (w' := fr_w) ((ex_stp (ins := .getfield 33) rfl).trans rfl) ?_
      refine Go.next (f' := (23, [some (.ref 1), some (.int x1)], [])) (w' := fr_w) ((ex_stp (ins := .if_icmp .gt 13) rfl).trans (ex_b2_t (c := .gt) (off := 13) (pc := 10) (lo := [some (.ref 1), some (.int x1)]) (x := x1) (y := 12) (r := []) (by rw [c2_gt]; exact decide_eq_true (by show (12 : Int) < x1.toInt; omega)) (by decide))) ?_
      refine Go.next (f' := (24, [some (.ref 1), some (.int x1)], [.int 0])) (w' := fr_w) ((ex_stp (ins := .iconst 0) rfl).trans rfl) ?_
      exact Go.ret ((ex_stp (ins := .ireturn) rfl).trans rfl)
    refine Go.call (d := 38) (cal := 101) (as := [.ref 1, .int x1]) (g := (8, [some (.ref 0), some (.int x1)], [])) (M' := mt_101) (r := some (.int 0)) (w' := fr_w) ((ex_stp (ins := .invokevirtual 132) rfl).trans rfl) rfl (Nat.le_of_ble_eq_true rfl) h_52 ?_
    show Go [] 39 mt_31 (8, [some (.ref 0), some (.int x1)], [.int 0]) fr_w _
    refine Go.next (f' := (11, [some (.ref 0), some (.int x1)], [])) (w' := fr_w) ((ex_stp (ins := .ifCond .ne 5) rfl).trans rfl) ?_
    refine Go.next (f' := (12, [some (.ref 0), some (.int x1)], [.int (-1)])) (w' := fr_w) ((ex_stp (ins := .iconst (-1)) rfl).trans rfl) ?_
    exact Go.ret ((ex_stp (ins := .ireturn) rfl).trans rfl)
  · show Go [] 39 mt_32 (0, [some (.ref 59), some (.int x1)], []) fr_w _
    refine Go.next (f' := (1, [some (.ref 59), some (.int x1)], [.ref 59])) (w' := fr_w) ((ex_stp (ins := .aload_n 0) rfl).trans rfl) ?_
    refine Go.next (f' := (2, [some (.ref 59), some (.int x1)], [.int x1, .ref 59])) (w' := fr_w) ((ex_stp (ins := .iload_n 1) rfl).trans rfl) ?_
    have h_53 : Go [] 38 mt_102 (ex_ent mt_102 [.ref 59, .int x1]) fr_w (some (.int 0), fr_w) := by
      show Go [] 38 mt_102 (0, [some (.ref 59), some (.int x1)], []) fr_w _
      refine Go.next (f' := (1, [some (.ref 59), some (.int x1)], [.int x1])) (w' := fr_w) ((ex_stp (ins := .iload_n 1) rfl).trans rfl) ?_
      refine Go.next (f' := (2, [some (.ref 59), some (.int x1)], [.long (x1).toInt64])) (w' := fr_w) ((ex_stp (ins := .i2l) rfl).trans rfl) ?_
      refine Go.next (f' := (3, [some (.ref 59), some (.int x1)], [.long 1, .long (x1).toInt64])) (w' := fr_w) ((ex_stp (ins := .lconst 1) rfl).trans rfl) ?_
      refine Go.next (f' := (4, [some (.ref 59), some (.int x1)], [.ref 59, .long 1, .long (x1).toInt64])) (w' := fr_w) ((ex_stp (ins := .aload_n 0) rfl).trans rfl) ?_
      refine Go.next (f' := (7, [some (.ref 59), some (.int x1)], [.int 12, .long 1, .long (x1).toInt64])) (w' := fr_w) ((ex_stp (ins := .getfield 81) rfl).trans rfl) ?_
      refine Go.next (f' := (8, [some (.ref 59), some (.int x1)], [.long 12, .long 1, .long (x1).toInt64])) (w' := fr_w) ((ex_stp (ins := .i2l) rfl).trans rfl) ?_
      have h_54 : Go [] 37 mt_93 (ex_ent mt_93 [.long (x1).toInt64, .long 1, .long 12]) fr_w (some (.int 0), fr_w) := by
        show Go [] 37 mt_93 (0, [some (.long (x1).toInt64), none, some (.long 1), none, some (.long 12), none], []) fr_w _
        refine Go.next (f' := (1, [some (.long (x1).toInt64), none, some (.long 1), none, some (.long 12), none], [.long (x1).toInt64])) (w' := fr_w) ((ex_stp (ins := .lload_n 0) rfl).trans rfl) ?_
        refine Go.next (f' := (2, [some (.long (x1).toInt64), none, some (.long 1), none, some (.long 12), none], [.long 1, .long (x1).toInt64])) (w' := fr_w) ((ex_stp (ins := .lload_n 2) rfl).trans rfl) ?_
        refine Go.next (f' := (3, [some (.long (x1).toInt64), none, some (.long 1), none, some (.long 12), none], [.int (lg_cmp (x1).toInt64 1)])) (w' := fr_w) ((ex_stp (ins := .lcmp) rfl).trans rfl) ?_
        refine Go.next (f' := (6, [some (.long (x1).toInt64), none, some (.long 1), none, some (.long 12), none], [])) (w' := fr_w) ((ex_stp (ins := .ifCond .lt 14) rfl).trans (ex_b0_f (c := .lt) (off := 14) (pc := 3) (lo := [some (.long (x1).toInt64), none, some (.long 1), none, some (.long 12), none]) (x := (lg_cmp (x1).toInt64 1)) (r := []) (by rw [cl_lt]; exact decide_eq_false (by first | (rw [Int32.toInt_toInt64]; show ¬ (x1.toInt < (1 : Int)); omega) | omega)) (by decide))) ?_
        refine Go.next (f' := (7, [some (.long (x1).toInt64), none, some (.long 1), none, some (.long 12), none], [.long (x1).toInt64])) (w' := fr_w) ((ex_stp (ins := .lload_n 0) rfl).trans rfl) ?_
        refine Go.next (f' := (9, [some (.long (x1).toInt64), none, some (.long 1), none, some (.long 12), none], [.long 12, .long (x1).toInt64])) (w' := fr_w) ((ex_stp (ins := .lload 4) rfl).trans rfl) ?_
        refine Go.next (f' := (10, [some (.long (x1).toInt64), none, some (.long 1), none, some (.long 12), none], [.int (lg_cmp (x1).toInt64 12)])) (w' := fr_w) ((ex_stp (ins := .lcmp) rfl).trans rfl) ?_
        refine Go.next (f' := (17, [some (.long (x1).toInt64), none, some (.long 1), none, some (.long 12), none], [])) (w' := fr_w) ((ex_stp (ins := .ifCond .gt 7) rfl).trans (ex_b0_t (c := .gt) (off := 7) (pc := 10) (lo := [some (.long (x1).toInt64), none, some (.long 1), none, some (.long 12), none]) (x := (lg_cmp (x1).toInt64 12)) (r := []) (by rw [cl_gt]; exact decide_eq_true (by first | (rw [Int32.toInt_toInt64]; show (12 : Int) < x1.toInt; omega) | omega)) (by decide))) ?_
        refine Go.next (f' := (18, [some (.long (x1).toInt64), none, some (.long 1), none, some (.long 12), none], [.int 0])) (w' := fr_w) ((ex_stp (ins := .iconst 0) rfl).trans rfl) ?_
        exact Go.ret ((ex_stp (ins := .ireturn) rfl).trans rfl)
      refine Go.call (d := 37) (cal := 93) (as := [.long (x1).toInt64, .long 1, .long 12]) (g := (11, [some (.ref 59), some (.int x1)], [])) (M' := mt_93) (r := some (.int 0)) (w' := fr_w) ((ex_stp (ins := .invokestatic 95) rfl).trans rfl) rfl (Nat.le_of_ble_eq_true rfl) h_54 ?_
      show Go [] 38 mt_102 (11, [some (.ref 59), some (.int x1)], [.int 0]) fr_w _
      exact Go.ret ((ex_stp (ins := .ireturn) rfl).trans rfl)
    refine Go.call (d := 38) (cal := 102) (as := [.ref 59, .int x1]) (g := (5, [some (.ref 59), some (.int x1)], [])) (M' := mt_102) (r := some (.int 0)) (w' := fr_w) ((ex_stp (ins := .invokevirtual 187) rfl).trans rfl) rfl (Nat.le_of_ble_eq_true rfl) h_53 ?_
    show Go [] 39 mt_32 (5, [some (.ref 59), some (.int x1)], [.int 0]) fr_w _
    refine Go.next (f' := (8, [some (.ref 59), some (.int x1)], [])) (w' := fr_w) ((ex_stp (ins := .ifCond .ne 5) rfl).trans rfl) ?_
    refine Go.next (f' := (9, [some (.ref 59), some (.int x1)], [.int (-1)])) (w' := fr_w) ((ex_stp (ins := .iconst (-1)) rfl).trans rfl) ?_
    exact Go.ret ((ex_stp (ins := .ireturn) rfl).trans rfl)
set_option maxRecDepth 100000 in
theorem ao_15_a (x1 : Int32) (g0 : x1.toInt < 0) : A2 mt_33 mt_34 [.int x1] := by
  refine ⟨(-1), fr_w, fr_w, _, ?_, rfl, ?_⟩
  · show Go [] 39 mt_33 (0, [some (.ref 0), some (.int x1), none], []) fr_w _
    refine Go.next (f' := (1, [some (.ref 0), some (.int x1), none], [.ref 0])) (w' := fr_w) ((ex_stp (ins := .aload_n 0) rfl).trans rfl) ?_
    refine Go.next (f' := (4, [some (.ref 0), some (.int x1), none], [.ref 1])) (w' := fr_w) ((ex_stp (ins := .getfield 10) rfl).trans rfl) ?_
    refine Go.next (f' := (5, [some (.ref 0), some (.int x1), none], [.int x1, .ref 1])) (w' := fr_w) ((ex_stp (ins := .iload_n 1) rfl).trans rfl) ?_
    have h_55 : Go [] 38 mt_99 (ex_ent mt_99 [.ref 1, .int x1]) fr_w (some (.int 0), fr_w) := by
      show Go [] 38 mt_99 (0, [some (.ref 1), some (.int x1)], []) fr_w _
      refine Go.next (f' := (1, [some (.ref 1), some (.int x1)], [.int x1])) (w' := fr_w) ((ex_stp (ins := .iload_n 1) rfl).trans rfl) ?_
      refine Go.next (f' := (21, [some (.ref 1), some (.int x1)], [])) (w' := fr_w) ((ex_stp (ins := .ifCond .lt 20) rfl).trans (ex_b0_t (c := .lt) (off := 20) (pc := 1) (lo := [some (.ref 1), some (.int x1)]) (x := x1) (r := []) (by rw [c0_lt]; exact decide_eq_true (by show x1.toInt < (0 : Int); omega)) (by decide))) ?_
      refine Go.next (f' := (22, [some (.ref 1), some (.int x1)], [.int 0])) (w' := fr_w) ((ex_stp (ins := .iconst 0) rfl).trans rfl) ?_
      exact Go.ret ((ex_stp (ins := .ireturn) rfl).trans rfl)
    refine Go.call (d := 38) (cal := 99) (as := [.ref 1, .int x1]) (g := (8, [some (.ref 0), some (.int x1), none], [])) (M' := mt_99) (r := some (.int 0)) (w' := fr_w) ((ex_stp (ins := .invokevirtual 125) rfl).trans rfl) rfl (Nat.le_of_ble_eq_true rfl) h_55 ?_
    show Go [] 39 mt_33 (8, [some (.ref 0), some (.int x1), none], [.int 0]) fr_w _
    refine Go.next (f' := (11, [some (.ref 0), some (.int x1), none], [])) (w' := fr_w) ((ex_stp (ins := .ifCond .ne 5) rfl).trans rfl) ?_
    refine Go.next (f' := (12, [some (.ref 0), some (.int x1), none], [.int (-1)])) (w' := fr_w) ((ex_stp (ins := .iconst (-1)) rfl).trans rfl) ?_
    exact Go.ret ((ex_stp (ins := .ireturn) rfl).trans rfl)
  · show Go [] 39 mt_34 (0, [some (.ref 59), some (.int x1)], []) fr_w _
    refine Go.next (f' := (1, [some (.ref 59), some (.int x1)], [.ref 59])) (w' := fr_w) ((ex_stp (ins := .aload_n 0) rfl).trans rfl) ?_
    refine Go.next (f' := (2, [some (.ref 59), some (.int x1)], [.int x1, .ref 59])) (w' := fr_w) ((ex_stp (ins := .iload_n 1) rfl).trans rfl) ?_
    have h_56 : Go [] 38 mt_100 (ex_ent mt_100 [.ref 59, .int x1]) fr_w (some (.int 0), fr_w) := by
      show Go [] 38 mt_100 (0, [some (.ref 59), some (.int x1)], []) fr_w _
      refine Go.next (f' := (1, [some (.ref 59), some (.int x1)], [.int x1])) (w' := fr_w) ((ex_stp (ins := .iload_n 1) rfl).trans rfl) ?_
      refine Go.next (f' := (2, [some (.ref 59), some (.int x1)], [.long (x1).toInt64])) (w' := fr_w) ((ex_stp (ins := .i2l) rfl).trans rfl) ?_
      refine Go.next (f' := (3, [some (.ref 59), some (.int x1)], [.long 0, .long (x1).toInt64])) (w' := fr_w) ((ex_stp (ins := .lconst 0) rfl).trans rfl) ?_
      refine Go.next (f' := (4, [some (.ref 59), some (.int x1)], [.ref 59, .long 0, .long (x1).toInt64])) (w' := fr_w) ((ex_stp (ins := .aload_n 0) rfl).trans rfl) ?_
      refine Go.next (f' := (7, [some (.ref 59), some (.int x1)], [.int 2, .long 0, .long (x1).toInt64])) (w' := fr_w) ((ex_stp (ins := .getfield 84) rfl).trans rfl) ?_
      refine Go.next (f' := (8, [some (.ref 59), some (.int x1)], [.int 1, .int 2, .long 0, .long (x1).toInt64])) (w' := fr_w) ((ex_stp (ins := .iconst 1) rfl).trans rfl) ?_
      refine Go.next (f' := (9, [some (.ref 59), some (.int x1)], [.int 1, .long 0, .long (x1).toInt64])) (w' := fr_w) ((ex_stp (ins := .isub) rfl).trans rfl) ?_
      refine Go.next (f' := (10, [some (.ref 59), some (.int x1)], [.long 1, .long 0, .long (x1).toInt64])) (w' := fr_w) ((ex_stp (ins := .i2l) rfl).trans rfl) ?_
      have h_57 : Go [] 37 mt_93 (ex_ent mt_93 [.long (x1).toInt64, .long 0, .long 1]) fr_w (some (.int 0), fr_w) := by
        show Go [] 37 mt_93 (0, [some (.long (x1).toInt64), none, some (.long 0), none, some (.long 1), none], []) fr_w _
        refine Go.next (f' := (1, [some (.long (x1).toInt64), none, some (.long 0), none, some (.long 1), none], [.long (x1).toInt64])) (w' := fr_w) ((ex_stp (ins := .lload_n 0) rfl).trans rfl) ?_
        refine Go.next (f' := (2, [some (.long (x1).toInt64), none, some (.long 0), none, some (.long 1), none], [.long 0, .long (x1).toInt64])) (w' := fr_w) ((ex_stp (ins := .lload_n 2) rfl).trans rfl) ?_
        refine Go.next (f' := (3, [some (.long (x1).toInt64), none, some (.long 0), none, some (.long 1), none], [.int (lg_cmp (x1).toInt64 0)])) (w' := fr_w) ((ex_stp (ins := .lcmp) rfl).trans rfl) ?_
        refine Go.next (f' := (17, [some (.long (x1).toInt64), none, some (.long 0), none, some (.long 1), none], [])) (w' := fr_w) ((ex_stp (ins := .ifCond .lt 14) rfl).trans (ex_b0_t (c := .lt) (off := 14) (pc := 3) (lo := [some (.long (x1).toInt64), none, some (.long 0), none, some (.long 1), none]) (x := (lg_cmp (x1).toInt64 0)) (r := []) (by rw [cl_lt]; exact decide_eq_true (by first | (rw [Int32.toInt_toInt64]; show x1.toInt < (0 : Int); omega) | omega)) (by decide))) ?_
        refine Go.next (f' := (18, [some (.long (x1).toInt64), none, some (.long 0), none, some (.long 1), none], [.int 0])) (w' := fr_w) ((ex_stp (ins := .iconst 0) rfl).trans rfl) ?_
        exact Go.ret ((ex_stp (ins := .ireturn) rfl).trans rfl)
      refine Go.call (d := 37) (cal := 93) (as := [.long (x1).toInt64, .long 0, .long 1]) (g := (13, [some (.ref 59), some (.int x1)], [])) (M' := mt_93) (r := some (.int 0)) (w' := fr_w) ((ex_stp (ins := .invokestatic 95) rfl).trans rfl) rfl (Nat.le_of_ble_eq_true rfl) h_57 ?_
      show Go [] 38 mt_100 (13, [some (.ref 59), some (.int x1)], [.int 0]) fr_w _
      exact Go.ret ((ex_stp (ins := .ireturn) rfl).trans rfl)
    refine Go.call (d := 38) (cal := 100) (as := [.ref 59, .int x1]) (g := (5, [some (.ref 59), some (.int x1)], [])) (M' := mt_100) (r := some (.int 0)) (w' := fr_w) ((ex_stp (ins := .invokevirtual 183) rfl).trans rfl) rfl (Nat.le_of_ble_eq_true rfl) h_56 ?_
    show Go [] 39 mt_34 (5, [some (.ref 59), some (.int x1)], [.int 0]) fr_w _
    refine Go.next (f' := (8, [some (.ref 59), some (.int x1)], [])) (w' := fr_w) ((ex_stp (ins := .ifCond .ne 5) rfl).trans rfl) ?_
    refine Go.next (f' := (9, [some (.ref 59), some (.int x1)], [.int (-1)])) (w' := fr_w) ((ex_stp (ins := .iconst (-1)) rfl).trans rfl) ?_
    exact Go.ret ((ex_stp (ins := .ireturn) rfl).trans rfl)
set_option maxRecDepth 100000 in
theorem ao_15_b (x1 : Int32) (g0 : 1 < x1.toInt) : A2 mt_33 mt_34 [.int x1] := by
  refine ⟨(-1), fr_w, fr_w, _, ?_, rfl, ?_⟩
  · show Go [] 39 mt_33 (0, [some (.ref 0), some (.int x1), none], []) fr_w _
    refine Go.next (f' := (1, [some (.ref 0), some (.int x1), none], [.ref 0])) (w' := fr_w) ((ex_stp (ins := .aload_n 0) rfl).trans rfl) ?_
    refine Go.next (f' := (4, [some (.ref 0), some (.int x1), none], [.ref 1])) (w' := fr_w) ((ex_stp (ins := .getfield 10) rfl).trans rfl) ?_
    refine Go.next (f' := (5, [some (.ref 0), some (.int x1), none], [.int x1, .ref 1])) (w' := fr_w) ((ex_stp (ins := .iload_n 1) rfl).trans rfl) ?_
    have h_58 : Go [] 38 mt_99 (ex_ent mt_99 [.ref 1, .int x1]) fr_w (some (.int 0), fr_w) := by
      show Go [] 38 mt_99 (0, [some (.ref 1), some (.int x1)], []) fr_w _
      refine Go.next (f' := (1, [some (.ref 1), some (.int x1)], [.int x1])) (w' := fr_w) ((ex_stp (ins := .iload_n 1) rfl).trans rfl) ?_
      refine Go.next (f' := (4, [some (.ref 1), some (.int x1)], [])) (w' := fr_w) ((ex_stp (ins := .ifCond .lt 20) rfl).trans (ex_b0_f (c := .lt) (off := 20) (pc := 1) (lo := [some (.ref 1), some (.int x1)]) (x := x1) (r := []) (by rw [c0_lt]; exact decide_eq_false (by show ¬ (x1.toInt < (0 : Int)); omega)) (by decide))) ?_
      refine Go.next (f' := (5, [some (.ref 1), some (.int x1)], [.int x1])) (w' := fr_w) ((ex_stp (ins := .iload_n 1) rfl).trans rfl) ?_
      refine Go.next (f' := (6, [some (.ref 1), some (.int x1)], [.ref 1, .int x1])) (w' := fr_w) ((ex_stp (ins := .aload_n 0) rfl).trans rfl) ?_
      refine Go.next (f' := (9, [some (.ref 1), some (.int x1)], [.int 2, .int x1])) (w' := fr_w) ((ex_stp (ins := .getfield 37) rfl).trans rfl) ?_
      refine Go.next (f' := (21, [some (.ref 1), some (.int x1)], [])) (w' := fr_w) ((ex_stp (ins := .if_icmp .ge 12) rfl).trans (ex_b2_t (c := .ge) (off := 12) (pc := 9) (lo := [some (.ref 1), some (.int x1)]) (x := x1) (y := 2) (r := []) (by rw [c2_ge]; exact decide_eq_true (by show (2 : Int) ≤ x1.toInt; omega)) (by decide))) ?_
      refine Go.next (f' := (22, [some (.ref 1), some (.int x1)], [.int 0])) (w' := fr_w) ((ex_stp (ins := .iconst 0) rfl).trans rfl) ?_
      exact Go.ret ((ex_stp (ins := .ireturn) rfl).trans rfl)
    refine Go.call (d := 38) (cal := 99) (as := [.ref 1, .int x1]) (g := (8, [some (.ref 0), some (.int x1), none], [])) (M' := mt_99) (r := some (.int 0)) (w' := fr_w) ((ex_stp (ins := .invokevirtual 125) rfl).trans rfl) rfl (Nat.le_of_ble_eq_true rfl) h_58 ?_
    show Go [] 39 mt_33 (8, [some (.ref 0), some (.int x1), none], [.int 0]) fr_w _
    refine Go.next (f' := (11, [some (.ref 0), some (.int x1), none], [])) (w' := fr_w) ((ex_stp (ins := .ifCond .ne 5) rfl).trans rfl) ?_
    refine Go.next (f' := (12, [some (.ref 0), some (.int x1), none], [.int (-1)])) (w' := fr_w) ((ex_stp (ins := .iconst (-1)) rfl).trans rfl) ?_
    exact Go.ret ((ex_stp (ins := .ireturn) rfl).trans rfl)
  · show Go [] 39 mt_34 (0, [some (.ref 59), some (.int x1)], []) fr_w _
    refine Go.next (f' := (1, [some (.ref 59), some (.int x1)], [.ref 59])) (w' := fr_w) ((ex_stp (ins := .aload_n 0) rfl).trans rfl) ?_
    refine Go.next (f' := (2, [some (.ref 59), some (.int x1)], [.int x1, .ref 59])) (w' := fr_w) ((ex_stp (ins := .iload_n 1) rfl).trans rfl) ?_
    have h_59 : Go [] 38 mt_100 (ex_ent mt_100 [.ref 59, .int x1]) fr_w (some (.int 0), fr_w) := by
      show Go [] 38 mt_100 (0, [some (.ref 59), some (.int x1)], []) fr_w _
      refine Go.next (f' := (1, [some (.ref 59), some (.int x1)], [.int x1])) (w' := fr_w) ((ex_stp (ins := .iload_n 1) rfl).trans rfl) ?_
      refine Go.next (f' := (2, [some (.ref 59), some (.int x1)], [.long (x1).toInt64])) (w' := fr_w) ((ex_stp (ins := .i2l) rfl).trans rfl) ?_
      refine Go.next (f' := (3, [some (.ref 59), some (.int x1)], [.long 0, .long (x1).toInt64])) (w' := fr_w) ((ex_stp (ins := .lconst 0) rfl).trans rfl) ?_
      refine Go.next (f' := (4, [some (.ref 59), some (.int x1)], [.ref 59, .long 0, .long (x1).toInt64])) (w' := fr_w) ((ex_stp (ins := .aload_n 0) rfl).trans rfl) ?_
      refine Go.next (f' := (7, [some (.ref 59), some (.int x1)], [.int 2, .long 0, .long (x1).toInt64])) (w' := fr_w) ((ex_stp (ins := .getfield 84) rfl).trans rfl) ?_
      refine Go.next (f' := (8, [some (.ref 59), some (.int x1)], [.int 1, .int 2, .long 0, .long (x1).toInt64])) (w' := fr_w) ((ex_stp (ins := .iconst 1) rfl).trans rfl) ?_
      refine Go.next (f' := (9, [some (.ref 59), some (.int x1)], [.int 1, .long 0, .long (x1).toInt64])) (w' := fr_w) ((ex_stp (ins := .isub) rfl).trans rfl) ?_
      refine Go.next (f' := (10, [some (.ref 59), some (.int x1)], [.long 1, .long 0, .long (x1).toInt64])) (w' := fr_w) ((ex_stp (ins := .i2l) rfl).trans rfl) ?_
      have h_60 : Go [] 37 mt_93 (ex_ent mt_93 [.long (x1).toInt64, .long 0, .long 1]) fr_w (some (.int 0), fr_w) := by
        show Go [] 37 mt_93 (0, [some (.long (x1).toInt64), none, some (.long 0), none, some (.long 1), none], []) fr_w _
        refine Go.next (f' := (1, [some (.long (x1).toInt64), none, some (.long 0), none, some (.long 1), none], [.long (x1).toInt64])) (w' := fr_w) ((ex_stp (ins := .lload_n 0) rfl).trans rfl) ?_
        refine Go.next (f' := (2, [some (.long (x1).toInt64), none, some (.long 0), none, some (.long 1), none], [.long 0, .long (x1).toInt64])) (w' := fr_w) ((ex_stp (ins := .lload_n 2) rfl).trans rfl) ?_
        refine Go.next (f' := (3, [some (.long (x1).toInt64), none, some (.long 0), none, some (.long 1), none], [.int (lg_cmp (x1).toInt64 0)])) (w' := fr_w) ((ex_stp (ins := .lcmp) rfl).trans rfl) ?_
        refine Go.next (f' := (6, [some (.long (x1).toInt64), none, some (.long 0), none, some (.long 1), none], [])) (w' := fr_w) ((ex_stp (ins := .ifCond .lt 14) rfl).trans (ex_b0_f (c := .lt) (off := 14) (pc := 3) (lo := [some (.long (x1).toInt64), none, some (.long 0), none, some (.long 1), none]) (x := (lg_cmp (x1).toInt64 0)) (r := []) (by rw [cl_lt]; exact decide_eq_false (by first | (rw [Int32.toInt_toInt64]; show ¬ (x1.toInt < (0 : Int)); omega) | omega)) (by decide))) ?_
        refine Go.next (f' := (7, [some (.long (x1).toInt64), none, some (.long 0), none, some (.long 1), none], [.long (x1).toInt64])) (w' := fr_w) ((ex_stp (ins := .lload_n 0) rfl).trans rfl) ?_
        refine Go.next (f' := (9, [some (.long (x1).toInt64), none, some (.long 0), none, some (.long 1), none], [.long 1, .long (x1).toInt64])) (w' := fr_w) ((ex_stp (ins := .lload 4) rfl).trans rfl) ?_
        refine Go.next (f' := (10, [some (.long (x1).toInt64), none, some (.long 0), none, some (.long 1), none], [.int (lg_cmp (x1).toInt64 1)])) (w' := fr_w) ((ex_stp (ins := .lcmp) rfl).trans rfl) ?_
        refine Go.next (f' := (17, [some (.long (x1).toInt64), none, some (.long 0), none, some (.long 1), none], [])) (w' := fr_w) ((ex_stp (ins := .ifCond .gt 7) rfl).trans (ex_b0_t (c := .gt) (off := 7) (pc := 10) (lo := [some (.long (x1).toInt64), none, some (.long 0), none, some (.long 1), none]) (x := (lg_cmp (x1).toInt64 1)) (r := []) (by rw [cl_gt]; exact decide_eq_true (by first | (rw [Int32.toInt_toInt64]; show (1 : Int) < x1.toInt; omega) | omega)) (by decide))) ?_
        refine Go.next (f' := (18, [some (.long (x1).toInt64), none, some (.long 0), none, some (.long 1), none], [.int 0])) (w' := fr_w) ((ex_stp (ins := .iconst 0) rfl).trans rfl) ?_
        exact Go.ret ((ex_stp (ins := .ireturn) rfl).trans rfl)
      refine Go.call (d := 37) (cal := 93) (as := [.long (x1).toInt64, .long 0, .long 1]) (g := (13, [some (.ref 59), some (.int x1)], [])) (M' := mt_93) (r := some (.int 0)) (w' := fr_w) ((ex_stp (ins := .invokestatic 95) rfl).trans rfl) rfl (Nat.le_of_ble_eq_true rfl) h_60 ?_
      show Go [] 38 mt_100 (13, [some (.ref 59), some (.int x1)], [.int 0]) fr_w _
      exact Go.ret ((ex_stp (ins := .ireturn) rfl).trans rfl)
    refine Go.call (d := 38) (cal := 100) (as := [.ref 59, .int x1]) (g := (5, [some (.ref 59), some (.int x1)], [])) (M' := mt_100) (r := some (.int 0)) (w' := fr_w) ((ex_stp (ins := .invokevirtual 183) rfl).trans rfl) rfl (Nat.le_of_ble_eq_true rfl) h_59 ?_
    show Go [] 39 mt_34 (5, [some (.ref 59), some (.int x1)], [.int 0]) fr_w _
    refine Go.next (f' := (8, [some (.ref 59), some (.int x1)], [])) (w' := fr_w) ((ex_stp (ins := .ifCond .ne 5) rfl).trans rfl) ?_
    refine Go.next (f' := (9, [some (.ref 59), some (.int x1)], [.int (-1)])) (w' := fr_w) ((ex_stp (ins := .iconst (-1)) rfl).trans rfl) ?_
    exact Go.ret ((ex_stp (ins := .ireturn) rfl).trans rfl)
set_option maxRecDepth 100000 in
theorem ao_16_a (x1 : Int32) (g0 : x1.toInt < 0) : A2 mt_35 mt_36 [.int x1] := by
  refine ⟨(-1), wq_0, wq_0, _, ?_, rfl, ?_⟩
  · show Go [] 39 mt_35 (0, [some (.ref 0), some (.int x1), none, none], []) fr_w _
    refine Go.next (f' := (1, [some (.ref 0), some (.int x1), none, none], [.ref 0])) (w' := fr_w) ((ex_stp (ins := .aload_n 0) rfl).trans rfl) ?_
    refine Go.next (f' := (4, [some (.ref 0), some (.int x1), none, none], [.ref 17])) (w' := fr_w) ((ex_stp (ins := .getfield 31) rfl).trans rfl) ?_
    refine Go.next (f' := (5, [some (.ref 0), some (.int x1), none, none], [.ref 0, .ref 17])) (w' := fr_w) ((ex_stp (ins := .aload_n 0) rfl).trans rfl) ?_
    refine Go.next (f' := (8, [some (.ref 0), some (.int x1), none, none], [.ref 1, .ref 17])) (w' := fr_w) ((ex_stp (ins := .getfield 10) rfl).trans rfl) ?_
    refine Go.next (f' := (9, [some (.ref 0), some (.int x1), none, none], [.int 0, .ref 1, .ref 17])) (w' := fr_w) ((ex_stp (ins := .iconst 0) rfl).trans rfl) ?_
    have h_61 : Go [] 38 mt_103 (ex_ent mt_103 [.ref 17, .ref 1, .int 0]) fr_w (none, wq_0) := Go.of (ex_is_of kr_103_17_1_0_fr_w)
    refine Go.call (d := 38) (cal := 103) (as := [.ref 17, .ref 1, .int 0]) (g := (12, [some (.ref 0), some (.int x1), none, none], [])) (M' := mt_103) (r := none) (w' := wq_0) ((ex_stp (ins := .invokevirtual 138) rfl).trans rfl) rfl (Nat.le_of_ble_eq_true rfl) h_61 ?_
    show Go [] 39 mt_35 (12, [some (.ref 0), some (.int x1), none, none], []) wq_0 _
    refine Go.next (f' := (13, [some (.ref 0), some (.int x1), none, none], [.ref 0])) (w' := wq_0) ((ex_stp (ins := .aload_n 0) rfl).trans rfl) ?_
    refine Go.next (f' := (16, [some (.ref 0), some (.int x1), none, none], [.ref 17])) (w' := wq_0) ((ex_stp (ins := .getfield 31) rfl).trans rfl) ?_
    have h_62 : Go [] 38 mt_104 (ex_ent mt_104 [.ref 17]) wq_0 (some (.int 8190), wq_0) := Go.of (ex_is_of kr_104_17_wq_0)
    refine Go.call (d := 38) (cal := 104) (as := [.ref 17]) (g := (19, [some (.ref 0), some (.int x1), none, none], [])) (M' := mt_104) (r := some (.int 8190)) (w' := wq_0) ((ex_stp (ins := .invokevirtual 142) rfl).trans rfl) rfl (Nat.le_of_ble_eq_true rfl) h_62 ?_
    show Go [] 39 mt_35 (19, [some (.ref 0), some (.int x1), none, none], [.int 8190]) wq_0 _
    refine Go.next (f' := (20, [some (.ref 0), some (.int x1), some (.int 8190), none], [])) (w' := wq_0) ((ex_stp (ins := .istore_n 2) rfl).trans rfl) ?_
    refine Go.next (f' := (21, [some (.ref 0), some (.int x1), some (.int 8190), none], [.ref 0])) (w' := wq_0) ((ex_stp (ins := .aload_n 0) rfl).trans rfl) ?_
    refine Go.next (f' := (22, [some (.ref 0), some (.int x1), some (.int 8190), none], [.int x1, .ref 0])) (w' := wq_0) ((ex_stp (ins := .iload_n 1) rfl).trans rfl) ?_
    refine Go.next (f' := (23, [some (.ref 0), some (.int x1), some (.int 8190), none], [.int 8190, .int x1, .ref 0])) (w' := wq_0) ((ex_stp (ins := .iload_n 2) rfl).trans rfl) ?_
    have h_63 : Go [] 38 mt_111 (ex_ent mt_111 [.ref 0, .int x1, .int 8190]) wq_0 (some (.int (-1)), wq_0) := by
      show Go [] 38 mt_111 (0, [some (.ref 0), some (.int x1), some (.int 8190)], []) wq_0 _
      refine Go.next (f' := (1, [some (.ref 0), some (.int x1), some (.int 8190)], [.int x1])) (w' := wq_0) ((ex_stp (ins := .iload_n 1) rfl).trans rfl) ?_
      refine Go.next (f' := (4, [some (.ref 0), some (.int x1), some (.int 8190)], [])) (w' := wq_0) ((ex_stp (ins := .ifCond .eq 16) rfl).trans (ex_b0_f (c := .eq) (off := 16) (pc := 1) (lo := [some (.ref 0), some (.int x1), some (.int 8190)]) (x := x1) (r := []) (by rw [c0_eq]; exact decide_eq_false (by show ¬ (x1.toInt = (0 : Int)); omega)) (by decide))) ?_
      refine Go.next (f' := (5, [some (.ref 0), some (.int x1), some (.int 8190)], [.ref 0])) (w' := wq_0) ((ex_stp (ins := .aload_n 0) rfl).trans rfl) ?_
      refine Go.next (f' := (8, [some (.ref 0), some (.int x1), some (.int 8190)], [.ref 1])) (w' := wq_0) ((ex_stp (ins := .getfield 10) rfl).trans rfl) ?_
      refine Go.next (f' := (9, [some (.ref 0), some (.int x1), some (.int 8190)], [.int x1, .ref 1])) (w' := wq_0) ((ex_stp (ins := .iload_n 1) rfl).trans rfl) ?_
      have h_64 : Go [] 37 mt_101 (ex_ent mt_101 [.ref 1, .int x1]) wq_0 (some (.int 0), wq_0) := by
        show Go [] 37 mt_101 (0, [some (.ref 1), some (.int x1)], []) wq_0 _
        refine Go.next (f' := (1, [some (.ref 1), some (.int x1)], [.int x1])) (w' := wq_0) ((ex_stp (ins := .iload_n 1) rfl).trans rfl) ?_
        refine Go.next (f' := (2, [some (.ref 1), some (.int x1)], [.int 1, .int x1])) (w' := wq_0) ((ex_stp (ins := .iconst 1) rfl).trans rfl) ?_
        refine Go.next (f' := (23, [some (.ref 1), some (.int x1)], [])) (w' := wq_0) ((ex_stp (ins := .if_icmp .lt 21) rfl).trans (ex_b2_t (c := .lt) (off := 21) (pc := 2) (lo := [some (.ref 1), some (.int x1)]) (x := x1) (y := 1) (r := []) (by rw [c2_lt]; exact decide_eq_true (by show x1.toInt < (1 : Int); omega)) (by decide))) ?_
        refine Go.next (f' := (24, [some (.ref 1), some (.int x1)], [.int 0])) (w' := wq_0) ((ex_stp (ins := .iconst 0) rfl).trans rfl) ?_
        exact Go.ret ((ex_stp (ins := .ireturn) rfl).trans rfl)
      refine Go.call (d := 37) (cal := 101) (as := [.ref 1, .int x1]) (g := (12, [some (.ref 0), some (.int x1), some (.int 8190)], [])) (M' := mt_101) (r := some (.int 0)) (w' := wq_0) ((ex_stp (ins := .invokevirtual 132) rfl).trans rfl) rfl (Nat.le_of_ble_eq_true rfl) h_64 ?_
      show Go [] 38 mt_111 (12, [some (.ref 0), some (.int x1), some (.int 8190)], [.int 0]) wq_0 _
      refine Go.next (f' := (15, [some (.ref 0), some (.int x1), some (.int 8190)], [])) (w' := wq_0) ((ex_stp (ins := .ifCond .ne 5) rfl).trans rfl) ?_
      refine Go.next (f' := (16, [some (.ref 0), some (.int x1), some (.int 8190)], [.int (-1)])) (w' := wq_0) ((ex_stp (ins := .iconst (-1)) rfl).trans rfl) ?_
      exact Go.ret ((ex_stp (ins := .ireturn) rfl).trans rfl)
    refine Go.call (d := 38) (cal := 111) (as := [.ref 0, .int x1, .int 8190]) (g := (26, [some (.ref 0), some (.int x1), some (.int 8190), none], [])) (M' := mt_111) (r := some (.int (-1))) (w' := wq_0) ((ex_stp (ins := .invokevirtual 154) rfl).trans rfl) rfl (Nat.le_of_ble_eq_true rfl) h_63 ?_
    show Go [] 39 mt_35 (26, [some (.ref 0), some (.int x1), some (.int 8190), none], [.int (-1)]) wq_0 _
    refine Go.next (f' := (27, [some (.ref 0), some (.int x1), some (.int 8190), some (.int (-1))], [])) (w' := wq_0) ((ex_stp (ins := .istore_n 3) rfl).trans rfl) ?_
    refine Go.next (f' := (28, [some (.ref 0), some (.int x1), some (.int 8190), some (.int (-1))], [.int (-1)])) (w' := wq_0) ((ex_stp (ins := .iload_n 3) rfl).trans rfl) ?_
    refine Go.next (f' := (31, [some (.ref 0), some (.int x1), some (.int 8190), some (.int (-1))], [])) (w' := wq_0) ((ex_stp (ins := .ifCond .eq 5) rfl).trans rfl) ?_
    refine Go.next (f' := (32, [some (.ref 0), some (.int x1), some (.int 8190), some (.int (-1))], [.int (-1)])) (w' := wq_0) ((ex_stp (ins := .iload_n 3) rfl).trans rfl) ?_
    exact Go.ret ((ex_stp (ins := .ireturn) rfl).trans rfl)
  · show Go [] 39 mt_36 (0, [some (.ref 59), some (.int x1)], []) wq_0 _
    refine Go.next (f' := (1, [some (.ref 59), some (.int x1)], [.int x1])) (w' := wq_0) ((ex_stp (ins := .iload_n 1) rfl).trans rfl) ?_
    refine Go.next (f' := (4, [some (.ref 59), some (.int x1)], [])) (w' := wq_0) ((ex_stp (ins := .ifCond .eq 13) rfl).trans (ex_b0_f (c := .eq) (off := 13) (pc := 1) (lo := [some (.ref 59), some (.int x1)]) (x := x1) (r := []) (by rw [c0_eq]; exact decide_eq_false (by show ¬ (x1.toInt = (0 : Int)); omega)) (by decide))) ?_
    refine Go.next (f' := (5, [some (.ref 59), some (.int x1)], [.ref 59])) (w' := wq_0) ((ex_stp (ins := .aload_n 0) rfl).trans rfl) ?_
    refine Go.next (f' := (6, [some (.ref 59), some (.int x1)], [.int x1, .ref 59])) (w' := wq_0) ((ex_stp (ins := .iload_n 1) rfl).trans rfl) ?_
    have h_65 : Go [] 38 mt_102 (ex_ent mt_102 [.ref 59, .int x1]) wq_0 (some (.int 0), wq_0) := by
      show Go [] 38 mt_102 (0, [some (.ref 59), some (.int x1)], []) wq_0 _
      refine Go.next (f' := (1, [some (.ref 59), some (.int x1)], [.int x1])) (w' := wq_0) ((ex_stp (ins := .iload_n 1) rfl).trans rfl) ?_
      refine Go.next (f' := (2, [some (.ref 59), some (.int x1)], [.long (x1).toInt64])) (w' := wq_0) ((ex_stp (ins := .i2l) rfl).trans rfl) ?_
      refine Go.next (f' := (3, [some (.ref 59), some (.int x1)], [.long 1, .long (x1).toInt64])) (w' := wq_0) ((ex_stp (ins := .lconst 1) rfl).trans rfl) ?_
      refine Go.next (f' := (4, [some (.ref 59), some (.int x1)], [.ref 59, .long 1, .long (x1).toInt64])) (w' := wq_0) ((ex_stp (ins := .aload_n 0) rfl).trans rfl) ?_
      refine Go.next (f' := (7, [some (.ref 59), some (.int x1)], [.int 12, .long 1, .long (x1).toInt64])) (w' := wq_0) ((ex_stp (ins := .getfield 81) rfl).trans rfl) ?_
      refine Go.next (f' := (8, [some (.ref 59), some (.int x1)], [.long 12, .long 1, .long (x1).toInt64])) (w' := wq_0) ((ex_stp (ins := .i2l) rfl).trans rfl) ?_
      have h_66 : Go [] 37 mt_93 (ex_ent mt_93 [.long (x1).toInt64, .long 1, .long 12]) wq_0 (some (.int 0), wq_0) := by
        show Go [] 37 mt_93 (0, [some (.long (x1).toInt64), none, some (.long 1), none, some (.long 12), none], []) wq_0 _
        refine Go.next (f' := (1, [some (.long (x1).toInt64), none, some (.long 1), none, some (.long 12), none], [.long (x1).toInt64])) (w' := wq_0) ((ex_stp (ins := .lload_n 0) rfl).trans rfl) ?_
        refine Go.next (f' := (2, [some (.long (x1).toInt64), none, some (.long 1), none, some (.long 12), none], [.long 1, .long (x1).toInt64])) (w' := wq_0) ((ex_stp (ins := .lload_n 2) rfl).trans rfl) ?_
        refine Go.next (f' := (3, [some (.long (x1).toInt64), none, some (.long 1), none, some (.long 12), none], [.int (lg_cmp (x1).toInt64 1)])) (w' := wq_0) ((ex_stp (ins := .lcmp) rfl).trans rfl) ?_
        refine Go.next (f' := (17, [some (.long (x1).toInt64), none, some (.long 1), none, some (.long 12), none], [])) (w' := wq_0) ((ex_stp (ins := .ifCond .lt 14) rfl).trans (ex_b0_t (c := .lt) (off := 14) (pc := 3) (lo := [some (.long (x1).toInt64), none, some (.long 1), none, some (.long 12), none]) (x := (lg_cmp (x1).toInt64 1)) (r := []) (by rw [cl_lt]; exact decide_eq_true (by first | (rw [Int32.toInt_toInt64]; show x1.toInt < (1 : Int); omega) | omega)) (by decide))) ?_
        refine Go.next (f' := (18, [some (.long (x1).toInt64), none, some (.long 1), none, some (.long 12), none], [.int 0])) (w' := wq_0) ((ex_stp (ins := .iconst 0) rfl).trans rfl) ?_
        exact Go.ret ((ex_stp (ins := .ireturn) rfl).trans rfl)
      refine Go.call (d := 37) (cal := 93) (as := [.long (x1).toInt64, .long 1, .long 12]) (g := (11, [some (.ref 59), some (.int x1)], [])) (M' := mt_93) (r := some (.int 0)) (w' := wq_0) ((ex_stp (ins := .invokestatic 95) rfl).trans rfl) rfl (Nat.le_of_ble_eq_true rfl) h_66 ?_
      show Go [] 38 mt_102 (11, [some (.ref 59), some (.int x1)], [.int 0]) wq_0 _
      exact Go.ret ((ex_stp (ins := .ireturn) rfl).trans rfl)
    refine Go.call (d := 38) (cal := 102) (as := [.ref 59, .int x1]) (g := (9, [some (.ref 59), some (.int x1)], [])) (M' := mt_102) (r := some (.int 0)) (w' := wq_0) ((ex_stp (ins := .invokevirtual 187) rfl).trans rfl) rfl (Nat.le_of_ble_eq_true rfl) h_65 ?_
    show Go [] 39 mt_36 (9, [some (.ref 59), some (.int x1)], [.int 0]) wq_0 _
    refine Go.next (f' := (12, [some (.ref 59), some (.int x1)], [])) (w' := wq_0) ((ex_stp (ins := .ifCond .ne 5) rfl).trans rfl) ?_
    refine Go.next (f' := (13, [some (.ref 59), some (.int x1)], [.int (-1)])) (w' := wq_0) ((ex_stp (ins := .iconst (-1)) rfl).trans rfl) ?_
    exact Go.ret ((ex_stp (ins := .ireturn) rfl).trans rfl)
set_option maxRecDepth 100000 in
theorem ao_16_b (x1 : Int32) (g0 : 12 < x1.toInt) : A2 mt_35 mt_36 [.int x1] := by
  refine ⟨(-1), wq_0, wq_0, _, ?_, rfl, ?_⟩
  · show Go [] 39 mt_35 (0, [some (.ref 0), some (.int x1), none, none], []) fr_w _
    refine Go.next (f' := (1, [some (.ref 0), some (.int x1), none, none], [.ref 0])) (w' := fr_w) ((ex_stp (ins := .aload_n 0) rfl).trans rfl) ?_
    refine Go.next (f' := (4, [some (.ref 0), some (.int x1), none, none], [.ref 17])) (w' := fr_w) ((ex_stp (ins := .getfield 31) rfl).trans rfl) ?_
    refine Go.next (f' := (5, [some (.ref 0), some (.int x1), none, none], [.ref 0, .ref 17])) (w' := fr_w) ((ex_stp (ins := .aload_n 0) rfl).trans rfl) ?_
    refine Go.next (f' := (8, [some (.ref 0), some (.int x1), none, none], [.ref 1, .ref 17])) (w' := fr_w) ((ex_stp (ins := .getfield 10) rfl).trans rfl) ?_
    refine Go.next (f' := (9, [some (.ref 0), some (.int x1), none, none], [.int 0, .ref 1, .ref 17])) (w' := fr_w) ((ex_stp (ins := .iconst 0) rfl).trans rfl) ?_
    have h_67 : Go [] 38 mt_103 (ex_ent mt_103 [.ref 17, .ref 1, .int 0]) fr_w (none, wq_0) := Go.of (ex_is_of kr_103_17_1_0_fr_w)
    refine Go.call (d := 38) (cal := 103) (as := [.ref 17, .ref 1, .int 0]) (g := (12, [some (.ref 0), some (.int x1), none, none], [])) (M' := mt_103) (r := none) (w' := wq_0) ((ex_stp (ins := .invokevirtual 138) rfl).trans rfl) rfl (Nat.le_of_ble_eq_true rfl) h_67 ?_
    show Go [] 39 mt_35 (12, [some (.ref 0), some (.int x1), none, none], []) wq_0 _
    refine Go.next (f' := (13, [some (.ref 0), some (.int x1), none, none], [.ref 0])) (w' := wq_0) ((ex_stp (ins := .aload_n 0) rfl).trans rfl) ?_
    refine Go.next (f' := (16, [some (.ref 0), some (.int x1), none, none], [.ref 17])) (w' := wq_0) ((ex_stp (ins := .getfield 31) rfl).trans rfl) ?_
    have h_68 : Go [] 38 mt_104 (ex_ent mt_104 [.ref 17]) wq_0 (some (.int 8190), wq_0) := Go.of (ex_is_of kr_104_17_wq_0)
    refine Go.call (d := 38) (cal := 104) (as := [.ref 17]) (g := (19, [some (.ref 0), some (.int x1), none, none], [])) (M' := mt_104) (r := some (.int 8190)) (w' := wq_0) ((ex_stp (ins := .invokevirtual 142) rfl).trans rfl) rfl (Nat.le_of_ble_eq_true rfl) h_68 ?_
    show Go [] 39 mt_35 (19, [some (.ref 0), some (.int x1), none, none], [.int 8190]) wq_0 _
    refine Go.next (f' := (20, [some (.ref 0), some (.int x1), some (.int 8190), none], [])) (w' := wq_0) ((ex_stp (ins := .istore_n 2) rfl).trans rfl) ?_
    refine Go.next (f' := (21, [some (.ref 0), some (.int x1), some (.int 8190), none], [.ref 0])) (w' := wq_0) ((ex_stp (ins := .aload_n 0) rfl).trans rfl) ?_
    refine Go.next (f' := (22, [some (.ref 0), some (.int x1), some (.int 8190), none], [.int x1, .ref 0])) (w' := wq_0) ((ex_stp (ins := .iload_n 1) rfl).trans rfl) ?_
    refine Go.next (f' := (23, [some (.ref 0), some (.int x1), some (.int 8190), none], [.int 8190, .int x1, .ref 0])) (w' := wq_0) ((ex_stp (ins := .iload_n 2) rfl).trans rfl) ?_
    have h_69 : Go [] 38 mt_111 (ex_ent mt_111 [.ref 0, .int x1, .int 8190]) wq_0 (some (.int (-1)), wq_0) := by
      show Go [] 38 mt_111 (0, [some (.ref 0), some (.int x1), some (.int 8190)], []) wq_0 _
      refine Go.next (f' := (1, [some (.ref 0), some (.int x1), some (.int 8190)], [.int x1])) (w' := wq_0) ((ex_stp (ins := .iload_n 1) rfl).trans rfl) ?_
      refine Go.next (f' := (4, [some (.ref 0), some (.int x1), some (.int 8190)], [])) (w' := wq_0) ((ex_stp (ins := .ifCond .eq 16) rfl).trans (ex_b0_f (c := .eq) (off := 16) (pc := 1) (lo := [some (.ref 0), some (.int x1), some (.int 8190)]) (x := x1) (r := []) (by rw [c0_eq]; exact decide_eq_false (by show ¬ (x1.toInt = (0 : Int)); omega)) (by decide))) ?_
      refine Go.next (f' := (5, [some (.ref 0), some (.int x1), some (.int 8190)], [.ref 0])) (w' := wq_0) ((ex_stp (ins := .aload_n 0) rfl).trans rfl) ?_
      refine Go.next (f' := (8, [some (.ref 0), some (.int x1), some (.int 8190)], [.ref 1])) (w' := wq_0) ((ex_stp (ins := .getfield 10) rfl).trans rfl) ?_
      refine Go.next (f' := (9, [some (.ref 0), some (.int x1), some (.int 8190)], [.int x1, .ref 1])) (w' := wq_0) ((ex_stp (ins := .iload_n 1) rfl).trans rfl) ?_
      have h_70 : Go [] 37 mt_101 (ex_ent mt_101 [.ref 1, .int x1]) wq_0 (some (.int 0), wq_0) := by
        show Go [] 37 mt_101 (0, [some (.ref 1), some (.int x1)], []) wq_0 _
        refine Go.next (f' := (1, [some (.ref 1), some (.int x1)], [.int x1])) (w' := wq_0) ((ex_stp (ins := .iload_n 1) rfl).trans rfl) ?_
        refine Go.next (f' := (2, [some (.ref 1), some (.int x1)], [.int 1, .int x1])) (w' := wq_0) ((ex_stp (ins := .iconst 1) rfl).trans rfl) ?_
        refine Go.next (f' := (5, [some (.ref 1), some (.int x1)], [])) (w' := wq_0) ((ex_stp (ins := .if_icmp .lt 21) rfl).trans (ex_b2_f (c := .lt) (off := 21) (pc := 2) (lo := [some (.ref 1), some (.int x1)]) (x := x1) (y := 1) (r := []) (by rw [c2_lt]; exact decide_eq_false (by show ¬ (x1.toInt < (1 : Int)); omega)) (by decide))) ?_
        refine Go.next (f' := (6, [some (.ref 1), some (.int x1)], [.int x1])) (w' := wq_0) ((ex_stp (ins := .iload_n 1) rfl).trans rfl) ?_
        refine Go.next (f' := (7, [some (.ref 1), some (.int x1)], [.ref 1, .int x1])) (w' := wq_0) ((ex_stp (ins := .aload_n 0) rfl).trans rfl) ?_
        refine Go.next (f' := (10, [some (.ref 1), some (.int x1)], [.int 12, .int x1])) (w' := wq_0) ((ex_stp (ins := .getfield 33) rfl).trans rfl) ?_
        refine Go.next (f' := (23, [some (.ref 1), some (.int x1)], [])) (w' := wq_0) ((ex_stp (ins := .if_icmp .gt 13) rfl).trans (ex_b2_t (c := .gt) (off := 13) (pc := 10) (lo := [some (.ref 1), some (.int x1)]) (x := x1) (y := 12) (r := []) (by rw [c2_gt]; exact decide_eq_true (by show (12 : Int) < x1.toInt; omega)) (by decide))) ?_
        refine Go.next (f' := (24, [some (.ref 1), some (.int x1)], [.int 0])) (w' := wq_0) ((ex_stp (ins := .iconst 0) rfl).trans rfl) ?_
        exact Go.ret ((ex_stp (ins := .ireturn) rfl).trans rfl)
      refine Go.call (d := 37) (cal := 101) (as := [.ref 1, .int x1]) (g := (12, [some (.ref 0), some (.int x1), some (.int 8190)], [])) (M' := mt_101) (r := some (.int 0)) (w' := wq_0) ((ex_stp (ins := .invokevirtual 132) rfl).trans rfl) rfl (Nat.le_of_ble_eq_true rfl) h_70 ?_
      show Go [] 38 mt_111 (12, [some (.ref 0), some (.int x1), some (.int 8190)], [.int 0]) wq_0 _
      refine Go.next (f' := (15, [some (.ref 0), some (.int x1), some (.int 8190)], [])) (w' := wq_0) ((ex_stp (ins := .ifCond .ne 5) rfl).trans rfl) ?_
      refine Go.next (f' := (16, [some (.ref 0), some (.int x1), some (.int 8190)], [.int (-1)])) (w' := wq_0) ((ex_stp (ins := .iconst (-1)) rfl).trans rfl) ?_
      exact Go.ret ((ex_stp (ins := .ireturn) rfl).trans rfl)
    refine Go.call (d := 38) (cal := 111) (as := [.ref 0, .int x1, .int 8190]) (g := (26, [some (.ref 0), some (.int x1), some (.int 8190), none], [])) (M' := mt_111) (r := some (.int (-1))) (w' := wq_0) ((ex_stp (ins := .invokevirtual 154) rfl).trans rfl) rfl (Nat.le_of_ble_eq_true rfl) h_69 ?_
    show Go [] 39 mt_35 (26, [some (.ref 0), some (.int x1), some (.int 8190), none], [.int (-1)]) wq_0 _
    refine Go.next (f' := (27, [some (.ref 0), some (.int x1), some (.int 8190), some (.int (-1))], [])) (w' := wq_0) ((ex_stp (ins := .istore_n 3) rfl).trans rfl) ?_
    refine Go.next (f' := (28, [some (.ref 0), some (.int x1), some (.int 8190), some (.int (-1))], [.int (-1)])) (w' := wq_0) ((ex_stp (ins := .iload_n 3) rfl).trans rfl) ?_
    refine Go.next (f' := (31, [some (.ref 0), some (.int x1), some (.int 8190), some (.int (-1))], [])) (w' := wq_0) ((ex_stp (ins := .ifCond .eq 5) rfl).trans rfl) ?_
    refine Go.next (f' := (32, [some (.ref 0), some (.int x1), some (.int 8190), some (.int (-1))], [.int (-1)])) (w' := wq_0) ((ex_stp (ins := .iload_n 3) rfl).trans rfl) ?_
    exact Go.ret ((ex_stp (ins := .ireturn) rfl).trans rfl)
  · show Go [] 39 mt_36 (0, [some (.ref 59), some (.int x1)], []) wq_0 _
    refine Go.next (f' := (1, [some (.ref 59), some (.int x1)], [.int x1])) (w' := wq_0) ((ex_stp (ins := .iload_n 1) rfl).trans rfl) ?_
    refine Go.next (f' := (4, [some (.ref 59), some (.int x1)], [])) (w' := wq_0) ((ex_stp (ins := .ifCond .eq 13) rfl).trans (ex_b0_f (c := .eq) (off := 13) (pc := 1) (lo := [some (.ref 59), some (.int x1)]) (x := x1) (r := []) (by rw [c0_eq]; exact decide_eq_false (by show ¬ (x1.toInt = (0 : Int)); omega)) (by decide))) ?_
    refine Go.next (f' := (5, [some (.ref 59), some (.int x1)], [.ref 59])) (w' := wq_0) ((ex_stp (ins := .aload_n 0) rfl).trans rfl) ?_
    refine Go.next (f' := (6, [some (.ref 59), some (.int x1)], [.int x1, .ref 59])) (w' := wq_0) ((ex_stp (ins := .iload_n 1) rfl).trans rfl) ?_
    have h_71 : Go [] 38 mt_102 (ex_ent mt_102 [.ref 59, .int x1]) wq_0 (some (.int 0), wq_0) := by
      show Go [] 38 mt_102 (0, [some (.ref 59), some (.int x1)], []) wq_0 _
      refine Go.next (f' := (1, [some (.ref 59), some (.int x1)], [.int x1])) (w' := wq_0) ((ex_stp (ins := .iload_n 1) rfl).trans rfl) ?_
      refine Go.next (f' := (2, [some (.ref 59), some (.int x1)], [.long (x1).toInt64])) (w' := wq_0) ((ex_stp (ins := .i2l) rfl).trans rfl) ?_
      refine Go.next (f' := (3, [some (.ref 59), some (.int x1)], [.long 1, .long (x1).toInt64])) (w' := wq_0) ((ex_stp (ins := .lconst 1) rfl).trans rfl) ?_
      refine Go.next (f' := (4, [some (.ref 59), some (.int x1)], [.ref 59, .long 1, .long (x1).toInt64])) (w' := wq_0) ((ex_stp (ins := .aload_n 0) rfl).trans rfl) ?_
      refine Go.next (f' := (7, [some (.ref 59), some (.int x1)], [.int 12, .long 1, .long (x1).toInt64])) (w' := wq_0) ((ex_stp (ins := .getfield 81) rfl).trans rfl) ?_
      refine Go.next (f' := (8, [some (.ref 59), some (.int x1)], [.long 12, .long 1, .long (x1).toInt64])) (w' := wq_0) ((ex_stp (ins := .i2l) rfl).trans rfl) ?_
      have h_72 : Go [] 37 mt_93 (ex_ent mt_93 [.long (x1).toInt64, .long 1, .long 12]) wq_0 (some (.int 0), wq_0) := by
        show Go [] 37 mt_93 (0, [some (.long (x1).toInt64), none, some (.long 1), none, some (.long 12), none], []) wq_0 _
        refine Go.next (f' := (1, [some (.long (x1).toInt64), none, some (.long 1), none, some (.long 12), none], [.long (x1).toInt64])) (w' := wq_0) ((ex_stp (ins := .lload_n 0) rfl).trans rfl) ?_
        refine Go.next (f' := (2, [some (.long (x1).toInt64), none, some (.long 1), none, some (.long 12), none], [.long 1, .long (x1).toInt64])) (w' := wq_0) ((ex_stp (ins := .lload_n 2) rfl).trans rfl) ?_
        refine Go.next (f' := (3, [some (.long (x1).toInt64), none, some (.long 1), none, some (.long 12), none], [.int (lg_cmp (x1).toInt64 1)])) (w' := wq_0) ((ex_stp (ins := .lcmp) rfl).trans rfl) ?_
        refine Go.next (f' := (6, [some (.long (x1).toInt64), none, some (.long 1), none, some (.long 12), none], [])) (w' := wq_0) ((ex_stp (ins := .ifCond .lt 14) rfl).trans (ex_b0_f (c := .lt) (off := 14) (pc := 3) (lo := [some (.long (x1).toInt64), none, some (.long 1), none, some (.long 12), none]) (x := (lg_cmp (x1).toInt64 1)) (r := []) (by rw [cl_lt]; exact decide_eq_false (by first | (rw [Int32.toInt_toInt64]; show ¬ (x1.toInt < (1 : Int)); omega) | omega)) (by decide))) ?_
        refine Go.next (f' := (7, [some (.long (x1).toInt64), none, some (.long 1), none, some (.long 12), none], [.long (x1).toInt64])) (w' := wq_0) ((ex_stp (ins := .lload_n 0) rfl).trans rfl) ?_
        refine Go.next (f' := (9, [some (.long (x1).toInt64), none, some (.long 1), none, some (.long 12), none], [.long 12, .long (x1).toInt64])) (w' := wq_0) ((ex_stp (ins := .lload 4) rfl).trans rfl) ?_
        refine Go.next (f' := (10, [some (.long (x1).toInt64), none, some (.long 1), none, some (.long 12), none], [.int (lg_cmp (x1).toInt64 12)])) (w' := wq_0) ((ex_stp (ins := .lcmp) rfl).trans rfl) ?_
        refine Go.next (f' := (17, [some (.long (x1).toInt64), none, some (.long 1), none, some (.long 12), none], [])) (w' := wq_0) ((ex_stp (ins := .ifCond .gt 7) rfl).trans (ex_b0_t (c := .gt) (off := 7) (pc := 10) (lo := [some (.long (x1).toInt64), none, some (.long 1), none, some (.long 12), none]) (x := (lg_cmp (x1).toInt64 12)) (r := []) (by rw [cl_gt]; exact decide_eq_true (by first | (rw [Int32.toInt_toInt64]; show (12 : Int) < x1.toInt; omega) | omega)) (by decide))) ?_
        refine Go.next (f' := (18, [some (.long (x1).toInt64), none, some (.long 1), none, some (.long 12), none], [.int 0])) (w' := wq_0) ((ex_stp (ins := .iconst 0) rfl).trans rfl) ?_
        exact Go.ret ((ex_stp (ins := .ireturn) rfl).trans rfl)
      refine Go.call (d := 37) (cal := 93) (as := [.long (x1).toInt64, .long 1, .long 12]) (g := (11, [some (.ref 59), some (.int x1)], [])) (M' := mt_93) (r := some (.int 0)) (w' := wq_0) ((ex_stp (ins := .invokestatic 95) rfl).trans rfl) rfl (Nat.le_of_ble_eq_true rfl) h_72 ?_
      show Go [] 38 mt_102 (11, [some (.ref 59), some (.int x1)], [.int 0]) wq_0 _
      exact Go.ret ((ex_stp (ins := .ireturn) rfl).trans rfl)
    refine Go.call (d := 38) (cal := 102) (as := [.ref 59, .int x1]) (g := (9, [some (.ref 59), some (.int x1)], [])) (M' := mt_102) (r := some (.int 0)) (w' := wq_0) ((ex_stp (ins := .invokevirtual 187) rfl).trans rfl) rfl (Nat.le_of_ble_eq_true rfl) h_71 ?_
    show Go [] 39 mt_36 (9, [some (.ref 59), some (.int x1)], [.int 0]) wq_0 _
    refine Go.next (f' := (12, [some (.ref 59), some (.int x1)], [])) (w' := wq_0) ((ex_stp (ins := .ifCond .ne 5) rfl).trans rfl) ?_
    refine Go.next (f' := (13, [some (.ref 59), some (.int x1)], [.int (-1)])) (w' := wq_0) ((ex_stp (ins := .iconst (-1)) rfl).trans rfl) ?_
    exact Go.ret ((ex_stp (ins := .ireturn) rfl).trans rfl)
set_option maxRecDepth 100000 in
theorem ao_18_a (x1 : Int32) (g0 : x1.toInt < 0) : A2 mt_39 mt_40 [.int x1] := by
  refine ⟨(-1), fr_w, fr_w, _, ?_, rfl, ?_⟩
  · show Go [] 39 mt_39 (0, [some (.ref 0), some (.int x1)], []) fr_w _
    refine Go.next (f' := (1, [some (.ref 0), some (.int x1)], [.int x1])) (w' := fr_w) ((ex_stp (ins := .iload_n 1) rfl).trans rfl) ?_
    refine Go.next (f' := (4, [some (.ref 0), some (.int x1)], [])) (w' := fr_w) ((ex_stp (ins := .ifCond .eq 16) rfl).trans (ex_b0_f (c := .eq) (off := 16) (pc := 1) (lo := [some (.ref 0), some (.int x1)]) (x := x1) (r := []) (by rw [c0_eq]; exact decide_eq_false (by show ¬ (x1.toInt = (0 : Int)); omega)) (by decide))) ?_
    refine Go.next (f' := (5, [some (.ref 0), some (.int x1)], [.ref 0])) (w' := fr_w) ((ex_stp (ins := .aload_n 0) rfl).trans rfl) ?_
    refine Go.next (f' := (8, [some (.ref 0), some (.int x1)], [.ref 1])) (w' := fr_w) ((ex_stp (ins := .getfield 10) rfl).trans rfl) ?_
    refine Go.next (f' := (9, [some (.ref 0), some (.int x1)], [.int x1, .ref 1])) (w' := fr_w) ((ex_stp (ins := .iload_n 1) rfl).trans rfl) ?_
    have h_73 : Go [] 38 mt_101 (ex_ent mt_101 [.ref 1, .int x1]) fr_w (some (.int 0), fr_w) := by
      show Go [] 38 mt_101 (0, [some (.ref 1), some (.int x1)], []) fr_w _
      refine Go.next (f' := (1, [some (.ref 1), some (.int x1)], [.int x1])) (w' := fr_w) ((ex_stp (ins := .iload_n 1) rfl).trans rfl) ?_
      refine Go.next (f' := (2, [some (.ref 1), some (.int x1)], [.int 1, .int x1])) (w' := fr_w) ((ex_stp (ins := .iconst 1) rfl).trans rfl) ?_
      refine Go.next (f' := (23, [some (.ref 1), some (.int x1)], [])) (w' := fr_w) ((ex_stp (ins := .if_icmp .lt 21) rfl).trans (ex_b2_t (c := .lt) (off := 21) (pc := 2) (lo := [some (.ref 1), some (.int x1)]) (x := x1) (y := 1) (r := []) (by rw [c2_lt]; exact decide_eq_true (by show x1.toInt < (1 : Int); omega)) (by decide))) ?_
      refine Go.next (f' := (24, [some (.ref 1), some (.int x1)], [.int 0])) (w' := fr_w) ((ex_stp (ins := .iconst 0) rfl).trans rfl) ?_
      exact Go.ret ((ex_stp (ins := .ireturn) rfl).trans rfl)
    refine Go.call (d := 38) (cal := 101) (as := [.ref 1, .int x1]) (g := (12, [some (.ref 0), some (.int x1)], [])) (M' := mt_101) (r := some (.int 0)) (w' := fr_w) ((ex_stp (ins := .invokevirtual 132) rfl).trans rfl) rfl (Nat.le_of_ble_eq_true rfl) h_73 ?_
    show Go [] 39 mt_39 (12, [some (.ref 0), some (.int x1)], [.int 0]) fr_w _
    refine Go.next (f' := (15, [some (.ref 0), some (.int x1)], [])) (w' := fr_w) ((ex_stp (ins := .ifCond .ne 5) rfl).trans rfl) ?_
    refine Go.next (f' := (16, [some (.ref 0), some (.int x1)], [.int (-1)])) (w' := fr_w) ((ex_stp (ins := .iconst (-1)) rfl).trans rfl) ?_
    exact Go.ret ((ex_stp (ins := .ireturn) rfl).trans rfl)
  · show Go [] 39 mt_40 (0, [some (.ref 59), some (.int x1)], []) fr_w _
    refine Go.next (f' := (1, [some (.ref 59), some (.int x1)], [.int x1])) (w' := fr_w) ((ex_stp (ins := .iload_n 1) rfl).trans rfl) ?_
    refine Go.next (f' := (4, [some (.ref 59), some (.int x1)], [])) (w' := fr_w) ((ex_stp (ins := .ifCond .eq 13) rfl).trans (ex_b0_f (c := .eq) (off := 13) (pc := 1) (lo := [some (.ref 59), some (.int x1)]) (x := x1) (r := []) (by rw [c0_eq]; exact decide_eq_false (by show ¬ (x1.toInt = (0 : Int)); omega)) (by decide))) ?_
    refine Go.next (f' := (5, [some (.ref 59), some (.int x1)], [.ref 59])) (w' := fr_w) ((ex_stp (ins := .aload_n 0) rfl).trans rfl) ?_
    refine Go.next (f' := (6, [some (.ref 59), some (.int x1)], [.int x1, .ref 59])) (w' := fr_w) ((ex_stp (ins := .iload_n 1) rfl).trans rfl) ?_
    have h_74 : Go [] 38 mt_102 (ex_ent mt_102 [.ref 59, .int x1]) fr_w (some (.int 0), fr_w) := by
      show Go [] 38 mt_102 (0, [some (.ref 59), some (.int x1)], []) fr_w _
      refine Go.next (f' := (1, [some (.ref 59), some (.int x1)], [.int x1])) (w' := fr_w) ((ex_stp (ins := .iload_n 1) rfl).trans rfl) ?_
      refine Go.next (f' := (2, [some (.ref 59), some (.int x1)], [.long (x1).toInt64])) (w' := fr_w) ((ex_stp (ins := .i2l) rfl).trans rfl) ?_
      refine Go.next (f' := (3, [some (.ref 59), some (.int x1)], [.long 1, .long (x1).toInt64])) (w' := fr_w) ((ex_stp (ins := .lconst 1) rfl).trans rfl) ?_
      refine Go.next (f' := (4, [some (.ref 59), some (.int x1)], [.ref 59, .long 1, .long (x1).toInt64])) (w' := fr_w) ((ex_stp (ins := .aload_n 0) rfl).trans rfl) ?_
      refine Go.next (f' := (7, [some (.ref 59), some (.int x1)], [.int 12, .long 1, .long (x1).toInt64])) (w' := fr_w) ((ex_stp (ins := .getfield 81) rfl).trans rfl) ?_
      refine Go.next (f' := (8, [some (.ref 59), some (.int x1)], [.long 12, .long 1, .long (x1).toInt64])) (w' := fr_w) ((ex_stp (ins := .i2l) rfl).trans rfl) ?_
      have h_75 : Go [] 37 mt_93 (ex_ent mt_93 [.long (x1).toInt64, .long 1, .long 12]) fr_w (some (.int 0), fr_w) := by
        show Go [] 37 mt_93 (0, [some (.long (x1).toInt64), none, some (.long 1), none, some (.long 12), none], []) fr_w _
        refine Go.next (f' := (1, [some (.long (x1).toInt64), none, some (.long 1), none, some (.long 12), none], [.long (x1).toInt64])) (w' := fr_w) ((ex_stp (ins := .lload_n 0) rfl).trans rfl) ?_
        refine Go.next (f' := (2, [some (.long (x1).toInt64), none, some (.long 1), none, some (.long 12), none], [.long 1, .long (x1).toInt64])) (w' := fr_w) ((ex_stp (ins := .lload_n 2) rfl).trans rfl) ?_
        refine Go.next (f' := (3, [some (.long (x1).toInt64), none, some (.long 1), none, some (.long 12), none], [.int (lg_cmp (x1).toInt64 1)])) (w' := fr_w) ((ex_stp (ins := .lcmp) rfl).trans rfl) ?_
        refine Go.next (f' := (17, [some (.long (x1).toInt64), none, some (.long 1), none, some (.long 12), none], [])) (w' := fr_w) ((ex_stp (ins := .ifCond .lt 14) rfl).trans (ex_b0_t (c := .lt) (off := 14) (pc := 3) (lo := [some (.long (x1).toInt64), none, some (.long 1), none, some (.long 12), none]) (x := (lg_cmp (x1).toInt64 1)) (r := []) (by rw [cl_lt]; exact decide_eq_true (by first | (rw [Int32.toInt_toInt64]; show x1.toInt < (1 : Int); omega) | omega)) (by decide))) ?_
        refine Go.next (f' := (18, [some (.long (x1).toInt64), none, some (.long 1), none, some (.long 12), none], [.int 0])) (w' := fr_w) ((ex_stp (ins := .iconst 0) rfl).trans rfl) ?_
        exact Go.ret ((ex_stp (ins := .ireturn) rfl).trans rfl)
      refine Go.call (d := 37) (cal := 93) (as := [.long (x1).toInt64, .long 1, .long 12]) (g := (11, [some (.ref 59), some (.int x1)], [])) (M' := mt_93) (r := some (.int 0)) (w' := fr_w) ((ex_stp (ins := .invokestatic 95) rfl).trans rfl) rfl (Nat.le_of_ble_eq_true rfl) h_75 ?_
      show Go [] 38 mt_102 (11, [some (.ref 59), some (.int x1)], [.int 0]) fr_w _
      exact Go.ret ((ex_stp (ins := .ireturn) rfl).trans rfl)
    refine Go.call (d := 38) (cal := 102) (as := [.ref 59, .int x1]) (g := (9, [some (.ref 59), some (.int x1)], [])) (M' := mt_102) (r := some (.int 0)) (w' := fr_w) ((ex_stp (ins := .invokevirtual 187) rfl).trans rfl) rfl (Nat.le_of_ble_eq_true rfl) h_74 ?_
    show Go [] 39 mt_40 (9, [some (.ref 59), some (.int x1)], [.int 0]) fr_w _
    refine Go.next (f' := (12, [some (.ref 59), some (.int x1)], [])) (w' := fr_w) ((ex_stp (ins := .ifCond .ne 5) rfl).trans rfl) ?_
    refine Go.next (f' := (13, [some (.ref 59), some (.int x1)], [.int (-1)])) (w' := fr_w) ((ex_stp (ins := .iconst (-1)) rfl).trans rfl) ?_
    exact Go.ret ((ex_stp (ins := .ireturn) rfl).trans rfl)
set_option maxRecDepth 100000 in
theorem ao_18_b (x1 : Int32) (g0 : 12 < x1.toInt) : A2 mt_39 mt_40 [.int x1] := by
  refine ⟨(-1), fr_w, fr_w, _, ?_, rfl, ?_⟩
  · show Go [] 39 mt_39 (0, [some (.ref 0), some (.int x1)], []) fr_w _
    refine Go.next (f' := (1, [some (.ref 0), some (.int x1)], [.int x1])) (w' := fr_w) ((ex_stp (ins := .iload_n 1) rfl).trans rfl) ?_
    refine Go.next (f' := (4, [some (.ref 0), some (.int x1)], [])) (w' := fr_w) ((ex_stp (ins := .ifCond .eq 16) rfl).trans (ex_b0_f (c := .eq) (off := 16) (pc := 1) (lo := [some (.ref 0), some (.int x1)]) (x := x1) (r := []) (by rw [c0_eq]; exact decide_eq_false (by show ¬ (x1.toInt = (0 : Int)); omega)) (by decide))) ?_
    refine Go.next (f' := (5, [some (.ref 0), some (.int x1)], [.ref 0])) (w' := fr_w) ((ex_stp (ins := .aload_n 0) rfl).trans rfl) ?_
    refine Go.next (f' := (8, [some (.ref 0), some (.int x1)], [.ref 1])) (w' := fr_w) ((ex_stp (ins := .getfield 10) rfl).trans rfl) ?_
    refine Go.next (f' := (9, [some (.ref 0), some (.int x1)], [.int x1, .ref 1])) (w' := fr_w) ((ex_stp (ins := .iload_n 1) rfl).trans rfl) ?_
    have h_76 : Go [] 38 mt_101 (ex_ent mt_101 [.ref 1, .int x1]) fr_w (some (.int 0), fr_w) := by
      show Go [] 38 mt_101 (0, [some (.ref 1), some (.int x1)], []) fr_w _
      refine Go.next (f' := (1, [some (.ref 1), some (.int x1)], [.int x1])) (w' := fr_w) ((ex_stp (ins := .iload_n 1) rfl).trans rfl) ?_
      refine Go.next (f' := (2, [some (.ref 1), some (.int x1)], [.int 1, .int x1])) (w' := fr_w) ((ex_stp (ins := .iconst 1) rfl).trans rfl) ?_
      refine Go.next (f' := (5, [some (.ref 1), some (.int x1)], [])) (w' := fr_w) ((ex_stp (ins := .if_icmp .lt 21) rfl).trans (ex_b2_f (c := .lt) (off := 21) (pc := 2) (lo := [some (.ref 1), some (.int x1)]) (x := x1) (y := 1) (r := []) (by rw [c2_lt]; exact decide_eq_false (by show ¬ (x1.toInt < (1 : Int)); omega)) (by decide))) ?_
      refine Go.next (f' := (6, [some (.ref 1), some (.int x1)], [.int x1])) (w' := fr_w) ((ex_stp (ins := .iload_n 1) rfl).trans rfl) ?_
      refine Go.next (f' := (7, [some (.ref 1), some (.int x1)], [.ref 1, .int x1])) (w' := fr_w) ((ex_stp (ins := .aload_n 0) rfl).trans rfl) ?_
      refine Go.next (f' := (10, [some (.ref 1), some (.int x1)], [.int 12, .int x1])) (w' := fr_w) ((ex_stp (ins := .getfield 33) rfl).trans rfl) ?_
      refine Go.next (f' := (23, [some (.ref 1), some (.int x1)], [])) (w' := fr_w) ((ex_stp (ins := .if_icmp .gt 13) rfl).trans (ex_b2_t (c := .gt) (off := 13) (pc := 10) (lo := [some (.ref 1), some (.int x1)]) (x := x1) (y := 12) (r := []) (by rw [c2_gt]; exact decide_eq_true (by show (12 : Int) < x1.toInt; omega)) (by decide))) ?_
      refine Go.next (f' := (24, [some (.ref 1), some (.int x1)], [.int 0])) (w' := fr_w) ((ex_stp (ins := .iconst 0) rfl).trans rfl) ?_
      exact Go.ret ((ex_stp (ins := .ireturn) rfl).trans rfl)
    refine Go.call (d := 38) (cal := 101) (as := [.ref 1, .int x1]) (g := (12, [some (.ref 0), some (.int x1)], [])) (M' := mt_101) (r := some (.int 0)) (w' := fr_w) ((ex_stp (ins := .invokevirtual 132) rfl).trans rfl) rfl (Nat.le_of_ble_eq_true rfl) h_76 ?_
    show Go [] 39 mt_39 (12, [some (.ref 0), some (.int x1)], [.int 0]) fr_w _
    refine Go.next (f' := (15, [some (.ref 0), some (.int x1)], [])) (w' := fr_w) ((ex_stp (ins := .ifCond .ne 5) rfl).trans rfl) ?_
    refine Go.next (f' := (16, [some (.ref 0), some (.int x1)], [.int (-1)])) (w' := fr_w) ((ex_stp (ins := .iconst (-1)) rfl).trans rfl) ?_
    exact Go.ret ((ex_stp (ins := .ireturn) rfl).trans rfl)
  · show Go [] 39 mt_40 (0, [some (.ref 59), some (.int x1)], []) fr_w _
    refine Go.next (f' := (1, [some (.ref 59), some (.int x1)], [.int x1])) (w' := fr_w) ((ex_stp (ins := .iload_n 1) rfl).trans rfl) ?_
    refine Go.next (f' := (4, [some (.ref 59), some (.int x1)], [])) (w' := fr_w) ((ex_stp (ins := .ifCond .eq 13) rfl).trans (ex_b0_f (c := .eq) (off := 13) (pc := 1) (lo := [some (.ref 59), some (.int x1)]) (x := x1) (r := []) (by rw [c0_eq]; exact decide_eq_false (by show ¬ (x1.toInt = (0 : Int)); omega)) (by decide))) ?_
    refine Go.next (f' := (5, [some (.ref 59), some (.int x1)], [.ref 59])) (w' := fr_w) ((ex_stp (ins := .aload_n 0) rfl).trans rfl) ?_
    refine Go.next (f' := (6, [some (.ref 59), some (.int x1)], [.int x1, .ref 59])) (w' := fr_w) ((ex_stp (ins := .iload_n 1) rfl).trans rfl) ?_
    have h_77 : Go [] 38 mt_102 (ex_ent mt_102 [.ref 59, .int x1]) fr_w (some (.int 0), fr_w) := by
      show Go [] 38 mt_102 (0, [some (.ref 59), some (.int x1)], []) fr_w _
      refine Go.next (f' := (1, [some (.ref 59), some (.int x1)], [.int x1])) (w' := fr_w) ((ex_stp (ins := .iload_n 1) rfl).trans rfl) ?_
      refine Go.next (f' := (2, [some (.ref 59), some (.int x1)], [.long (x1).toInt64])) (w' := fr_w) ((ex_stp (ins := .i2l) rfl).trans rfl) ?_
      refine Go.next (f' := (3, [some (.ref 59), some (.int x1)], [.long 1, .long (x1).toInt64])) (w' := fr_w) ((ex_stp (ins := .lconst 1) rfl).trans rfl) ?_
      refine Go.next (f' := (4, [some (.ref 59), some (.int x1)], [.ref 59, .long 1, .long (x1).toInt64])) (w' := fr_w) ((ex_stp (ins := .aload_n 0) rfl).trans rfl) ?_
      refine Go.next (f' := (7, [some (.ref 59), some (.int x1)], [.int 12, .long 1, .long (x1).toInt64])) (w' := fr_w) ((ex_stp (ins := .getfield 81) rfl).trans rfl) ?_
      refine Go.next (f' := (8, [some (.ref 59), some (.int x1)], [.long 12, .long 1, .long (x1).toInt64])) (w' := fr_w) ((ex_stp (ins := .i2l) rfl).trans rfl) ?_
      have h_78 : Go [] 37 mt_93 (ex_ent mt_93 [.long (x1).toInt64, .long 1, .long 12]) fr_w (some (.int 0), fr_w) := by
        show Go [] 37 mt_93 (0, [some (.long (x1).toInt64), none, some (.long 1), none, some (.long 12), none], []) fr_w _
        refine Go.next (f' := (1, [some (.long (x1).toInt64), none, some (.long 1), none, some (.long 12), none], [.long (x1).toInt64])) (w' := fr_w) ((ex_stp (ins := .lload_n 0) rfl).trans rfl) ?_
        refine Go.next (f' := (2, [some (.long (x1).toInt64), none, some (.long 1), none, some (.long 12), none], [.long 1, .long (x1).toInt64])) (w' := fr_w) ((ex_stp (ins := .lload_n 2) rfl).trans rfl) ?_
        refine Go.next (f' := (3, [some (.long (x1).toInt64), none, some (.long 1), none, some (.long 12), none], [.int (lg_cmp (x1).toInt64 1)])) (w' := fr_w) ((ex_stp (ins := .lcmp) rfl).trans rfl) ?_
        refine Go.next (f' := (6, [some (.long (x1).toInt64), none, some (.long 1), none, some (.long 12), none], [])) (w' := fr_w) ((ex_stp (ins := .ifCond .lt 14) rfl).trans (ex_b0_f (c := .lt) (off := 14) (pc := 3) (lo := [some (.long (x1).toInt64), none, some (.long 1), none, some (.long 12), none]) (x := (lg_cmp (x1).toInt64 1)) (r := []) (by rw [cl_lt]; exact decide_eq_false (by first | (rw [Int32.toInt_toInt64]; show ¬ (x1.toInt < (1 : Int)); omega) | omega)) (by decide))) ?_
        refine Go.next (f' := (7, [some (.long (x1).toInt64), none, some (.long 1), none, some (.long 12), none], [.long (x1).toInt64])) (w' := fr_w) ((ex_stp (ins := .lload_n 0) rfl).trans rfl) ?_
        refine Go.next (f' := (9, [some (.long (x1).toInt64), none, some (.long 1), none, some (.long 12), none], [.long 12, .long (x1).toInt64])) (w' := fr_w) ((ex_stp (ins := .lload 4) rfl).trans rfl) ?_
        refine Go.next (f' := (10, [some (.long (x1).toInt64), none, some (.long 1), none, some (.long 12), none], [.int (lg_cmp (x1).toInt64 12)])) (w' := fr_w) ((ex_stp (ins := .lcmp) rfl).trans rfl) ?_
        refine Go.next (f' := (17, [some (.long (x1).toInt64), none, some (.long 1), none, some (.long 12), none], [])) (w' := fr_w) ((ex_stp (ins := .ifCond .gt 7) rfl).trans (ex_b0_t (c := .gt) (off := 7) (pc := 10) (lo := [some (.long (x1).toInt64), none, some (.long 1), none, some (.long 12), none]) (x := (lg_cmp (x1).toInt64 12)) (r := []) (by rw [cl_gt]; exact decide_eq_true (by first | (rw [Int32.toInt_toInt64]; show (12 : Int) < x1.toInt; omega) | omega)) (by decide))) ?_
        refine Go.next (f' := (18, [some (.long (x1).toInt64), none, some (.long 1), none, some (.long 12), none], [.int 0])) (w' := fr_w) ((ex_stp (ins := .iconst 0) rfl).trans rfl) ?_
        exact Go.ret ((ex_stp (ins := .ireturn) rfl).trans rfl)
      refine Go.call (d := 37) (cal := 93) (as := [.long (x1).toInt64, .long 1, .long 12]) (g := (11, [some (.ref 59), some (.int x1)], [])) (M' := mt_93) (r := some (.int 0)) (w' := fr_w) ((ex_stp (ins := .invokestatic 95) rfl).trans rfl) rfl (Nat.le_of_ble_eq_true rfl) h_78 ?_
      show Go [] 38 mt_102 (11, [some (.ref 59), some (.int x1)], [.int 0]) fr_w _
      exact Go.ret ((ex_stp (ins := .ireturn) rfl).trans rfl)
    refine Go.call (d := 38) (cal := 102) (as := [.ref 59, .int x1]) (g := (9, [some (.ref 59), some (.int x1)], [])) (M' := mt_102) (r := some (.int 0)) (w' := fr_w) ((ex_stp (ins := .invokevirtual 187) rfl).trans rfl) rfl (Nat.le_of_ble_eq_true rfl) h_77 ?_
    show Go [] 39 mt_40 (9, [some (.ref 59), some (.int x1)], [.int 0]) fr_w _
    refine Go.next (f' := (12, [some (.ref 59), some (.int x1)], [])) (w' := fr_w) ((ex_stp (ins := .ifCond .ne 5) rfl).trans rfl) ?_
    refine Go.next (f' := (13, [some (.ref 59), some (.int x1)], [.int (-1)])) (w' := fr_w) ((ex_stp (ins := .iconst (-1)) rfl).trans rfl) ?_
    exact Go.ret ((ex_stp (ins := .ireturn) rfl).trans rfl)
set_option maxRecDepth 100000 in
theorem ao_19_a (x1 : Int32) (g0 : x1.toInt < 0) : A2 mt_41 mt_42 [.int x1] := by
  refine ⟨(-1), fr_w, fr_w, _, ?_, rfl, ?_⟩
  · show Go [] 39 mt_41 (0, [some (.ref 0), some (.int x1), none], []) fr_w _
    refine Go.next (f' := (1, [some (.ref 0), some (.int x1), none], [.ref 0])) (w' := fr_w) ((ex_stp (ins := .aload_n 0) rfl).trans rfl) ?_
    refine Go.next (f' := (4, [some (.ref 0), some (.int x1), none], [.int 0])) (w' := fr_w) ((ex_stp (ins := .getfield 98) rfl).trans rfl) ?_
    refine Go.next (f' := (5, [some (.ref 0), some (.int x1), some (.int 0)], [])) (w' := fr_w) ((ex_stp (ins := .istore_n 2) rfl).trans rfl) ?_
    refine Go.next (f' := (6, [some (.ref 0), some (.int x1), some (.int 0)], [.int x1])) (w' := fr_w) ((ex_stp (ins := .iload_n 1) rfl).trans rfl) ?_
    refine Go.next (f' := (14, [some (.ref 0), some (.int x1), some (.int 0)], [])) (w' := fr_w) ((ex_stp (ins := .ifCond .lt 8) rfl).trans (ex_b0_t (c := .lt) (off := 8) (pc := 6) (lo := [some (.ref 0), some (.int x1), some (.int 0)]) (x := x1) (r := []) (by rw [c0_lt]; exact decide_eq_true (by show x1.toInt < (0 : Int); omega)) (by decide))) ?_
    refine Go.next (f' := (15, [some (.ref 0), some (.int x1), some (.int 0)], [.int (-1)])) (w' := fr_w) ((ex_stp (ins := .iconst (-1)) rfl).trans rfl) ?_
    exact Go.ret ((ex_stp (ins := .ireturn) rfl).trans rfl)
  · show Go [] 39 mt_42 (0, [some (.ref 59), some (.int x1), none], []) fr_w _
    refine Go.next (f' := (1, [some (.ref 59), some (.int x1), none], [.int x1])) (w' := fr_w) ((ex_stp (ins := .iload_n 1) rfl).trans rfl) ?_
    refine Go.next (f' := (2, [some (.ref 59), some (.int x1), none], [.long (x1).toInt64])) (w' := fr_w) ((ex_stp (ins := .i2l) rfl).trans rfl) ?_
    refine Go.next (f' := (3, [some (.ref 59), some (.int x1), none], [.long 0, .long (x1).toInt64])) (w' := fr_w) ((ex_stp (ins := .lconst 0) rfl).trans rfl) ?_
    refine Go.next (f' := (4, [some (.ref 59), some (.int x1), none], [.ref 59, .long 0, .long (x1).toInt64])) (w' := fr_w) ((ex_stp (ins := .aload_n 0) rfl).trans rfl) ?_
    refine Go.next (f' := (7, [some (.ref 59), some (.int x1), none], [.int 0, .long 0, .long (x1).toInt64])) (w' := fr_w) ((ex_stp (ins := .getfield 87) rfl).trans rfl) ?_
    refine Go.next (f' := (8, [some (.ref 59), some (.int x1), none], [.long 0, .long 0, .long (x1).toInt64])) (w' := fr_w) ((ex_stp (ins := .i2l) rfl).trans rfl) ?_
    have h_79 : Go [] 38 mt_93 (ex_ent mt_93 [.long (x1).toInt64, .long 0, .long 0]) fr_w (some (.int 0), fr_w) := by
      show Go [] 38 mt_93 (0, [some (.long (x1).toInt64), none, some (.long 0), none, some (.long 0), none], []) fr_w _
      refine Go.next (f' := (1, [some (.long (x1).toInt64), none, some (.long 0), none, some (.long 0), none], [.long (x1).toInt64])) (w' := fr_w) ((ex_stp (ins := .lload_n 0) rfl).trans rfl) ?_
      refine Go.next (f' := (2, [some (.long (x1).toInt64), none, some (.long 0), none, some (.long 0), none], [.long 0, .long (x1).toInt64])) (w' := fr_w) ((ex_stp (ins := .lload_n 2) rfl).trans rfl) ?_
      refine Go.next (f' := (3, [some (.long (x1).toInt64), none, some (.long 0), none, some (.long 0), none], [.int (lg_cmp (x1).toInt64 0)])) (w' := fr_w) ((ex_stp (ins := .lcmp) rfl).trans rfl) ?_
      refine Go.next (f' := (17, [some (.long (x1).toInt64), none, some (.long 0), none, some (.long 0), none], [])) (w' := fr_w) ((ex_stp (ins := .ifCond .lt 14) rfl).trans (ex_b0_t (c := .lt) (off := 14) (pc := 3) (lo := [some (.long (x1).toInt64), none, some (.long 0), none, some (.long 0), none]) (x := (lg_cmp (x1).toInt64 0)) (r := []) (by rw [cl_lt]; exact decide_eq_true (by first | (rw [Int32.toInt_toInt64]; show x1.toInt < (0 : Int); omega) | omega)) (by decide))) ?_
      refine Go.next (f' := (18, [some (.long (x1).toInt64), none, some (.long 0), none, some (.long 0), none], [.int 0])) (w' := fr_w) ((ex_stp (ins := .iconst 0) rfl).trans rfl) ?_
      exact Go.ret ((ex_stp (ins := .ireturn) rfl).trans rfl)
    refine Go.call (d := 38) (cal := 93) (as := [.long (x1).toInt64, .long 0, .long 0]) (g := (11, [some (.ref 59), some (.int x1), none], [])) (M' := mt_93) (r := some (.int 0)) (w' := fr_w) ((ex_stp (ins := .invokestatic 95) rfl).trans rfl) rfl (Nat.le_of_ble_eq_true rfl) h_79 ?_
    show Go [] 39 mt_42 (11, [some (.ref 59), some (.int x1), none], [.int 0]) fr_w _
    refine Go.next (f' := (14, [some (.ref 59), some (.int x1), none], [])) (w' := fr_w) ((ex_stp (ins := .ifCond .ne 5) rfl).trans rfl) ?_
    refine Go.next (f' := (15, [some (.ref 59), some (.int x1), none], [.int (-1)])) (w' := fr_w) ((ex_stp (ins := .iconst (-1)) rfl).trans rfl) ?_
    exact Go.ret ((ex_stp (ins := .ireturn) rfl).trans rfl)
set_option maxRecDepth 100000 in
theorem ao_19_b (x1 : Int32) (g0 : 0 < x1.toInt) : A2 mt_41 mt_42 [.int x1] := by
  refine ⟨(-1), fr_w, fr_w, _, ?_, rfl, ?_⟩
  · show Go [] 39 mt_41 (0, [some (.ref 0), some (.int x1), none], []) fr_w _
    refine Go.next (f' := (1, [some (.ref 0), some (.int x1), none], [.ref 0])) (w' := fr_w) ((ex_stp (ins := .aload_n 0) rfl).trans rfl) ?_
    refine Go.next (f' := (4, [some (.ref 0), some (.int x1), none], [.int 0])) (w' := fr_w) ((ex_stp (ins := .getfield 98) rfl).trans rfl) ?_
    refine Go.next (f' := (5, [some (.ref 0), some (.int x1), some (.int 0)], [])) (w' := fr_w) ((ex_stp (ins := .istore_n 2) rfl).trans rfl) ?_
    refine Go.next (f' := (6, [some (.ref 0), some (.int x1), some (.int 0)], [.int x1])) (w' := fr_w) ((ex_stp (ins := .iload_n 1) rfl).trans rfl) ?_
    refine Go.next (f' := (9, [some (.ref 0), some (.int x1), some (.int 0)], [])) (w' := fr_w) ((ex_stp (ins := .ifCond .lt 8) rfl).trans (ex_b0_f (c := .lt) (off := 8) (pc := 6) (lo := [some (.ref 0), some (.int x1), some (.int 0)]) (x := x1) (r := []) (by rw [c0_lt]; exact decide_eq_false (by show ¬ (x1.toInt < (0 : Int)); omega)) (by decide))) ?_
    refine Go.next (f' := (10, [some (.ref 0), some (.int x1), some (.int 0)], [.int x1])) (w' := fr_w) ((ex_stp (ins := .iload_n 1) rfl).trans rfl) ?_
    refine Go.next (f' := (11, [some (.ref 0), some (.int x1), some (.int 0)], [.int 0, .int x1])) (w' := fr_w) ((ex_stp (ins := .iload_n 2) rfl).trans rfl) ?_
    refine Go.next (f' := (14, [some (.ref 0), some (.int x1), some (.int 0)], [])) (w' := fr_w) ((ex_stp (ins := .if_icmp .le 5) rfl).trans (ex_b2_f (c := .le) (off := 5) (pc := 11) (lo := [some (.ref 0), some (.int x1), some (.int 0)]) (x := x1) (y := 0) (r := []) (by rw [c2_le]; exact decide_eq_false (by show ¬ (x1.toInt ≤ (0 : Int)); omega)) (by decide))) ?_
    refine Go.next (f' := (15, [some (.ref 0), some (.int x1), some (.int 0)], [.int (-1)])) (w' := fr_w) ((ex_stp (ins := .iconst (-1)) rfl).trans rfl) ?_
    exact Go.ret ((ex_stp (ins := .ireturn) rfl).trans rfl)
  · show Go [] 39 mt_42 (0, [some (.ref 59), some (.int x1), none], []) fr_w _
    refine Go.next (f' := (1, [some (.ref 59), some (.int x1), none], [.int x1])) (w' := fr_w) ((ex_stp (ins := .iload_n 1) rfl).trans rfl) ?_
    refine Go.next (f' := (2, [some (.ref 59), some (.int x1), none], [.long (x1).toInt64])) (w' := fr_w) ((ex_stp (ins := .i2l) rfl).trans rfl) ?_
    refine Go.next (f' := (3, [some (.ref 59), some (.int x1), none], [.long 0, .long (x1).toInt64])) (w' := fr_w) ((ex_stp (ins := .lconst 0) rfl).trans rfl) ?_
    refine Go.next (f' := (4, [some (.ref 59), some (.int x1), none], [.ref 59, .long 0, .long (x1).toInt64])) (w' := fr_w) ((ex_stp (ins := .aload_n 0) rfl).trans rfl) ?_
    refine Go.next (f' := (7, [some (.ref 59), some (.int x1), none], [.int 0, .long 0, .long (x1).toInt64])) (w' := fr_w) ((ex_stp (ins := .getfield 87) rfl).trans rfl) ?_
    refine Go.next (f' := (8, [some (.ref 59), some (.int x1), none], [.long 0, .long 0, .long (x1).toInt64])) (w' := fr_w) ((ex_stp (ins := .i2l) rfl).trans rfl) ?_
    have h_80 : Go [] 38 mt_93 (ex_ent mt_93 [.long (x1).toInt64, .long 0, .long 0]) fr_w (some (.int 0), fr_w) := by
      show Go [] 38 mt_93 (0, [some (.long (x1).toInt64), none, some (.long 0), none, some (.long 0), none], []) fr_w _
      refine Go.next (f' := (1, [some (.long (x1).toInt64), none, some (.long 0), none, some (.long 0), none], [.long (x1).toInt64])) (w' := fr_w) ((ex_stp (ins := .lload_n 0) rfl).trans rfl) ?_
      refine Go.next (f' := (2, [some (.long (x1).toInt64), none, some (.long 0), none, some (.long 0), none], [.long 0, .long (x1).toInt64])) (w' := fr_w) ((ex_stp (ins := .lload_n 2) rfl).trans rfl) ?_
      refine Go.next (f' := (3, [some (.long (x1).toInt64), none, some (.long 0), none, some (.long 0), none], [.int (lg_cmp (x1).toInt64 0)])) (w' := fr_w) ((ex_stp (ins := .lcmp) rfl).trans rfl) ?_
      refine Go.next (f' := (6, [some (.long (x1).toInt64), none, some (.long 0), none, some (.long 0), none], [])) (w' := fr_w) ((ex_stp (ins := .ifCond .lt 14) rfl).trans (ex_b0_f (c := .lt) (off := 14) (pc := 3) (lo := [some (.long (x1).toInt64), none, some (.long 0), none, some (.long 0), none]) (x := (lg_cmp (x1).toInt64 0)) (r := []) (by rw [cl_lt]; exact decide_eq_false (by first | (rw [Int32.toInt_toInt64]; show ¬ (x1.toInt < (0 : Int)); omega) | omega)) (by decide))) ?_
      refine Go.next (f' := (7, [some (.long (x1).toInt64), none, some (.long 0), none, some (.long 0), none], [.long (x1).toInt64])) (w' := fr_w) ((ex_stp (ins := .lload_n 0) rfl).trans rfl) ?_
      refine Go.next (f' := (9, [some (.long (x1).toInt64), none, some (.long 0), none, some (.long 0), none], [.long 0, .long (x1).toInt64])) (w' := fr_w) ((ex_stp (ins := .lload 4) rfl).trans rfl) ?_
      refine Go.next (f' := (10, [some (.long (x1).toInt64), none, some (.long 0), none, some (.long 0), none], [.int (lg_cmp (x1).toInt64 0)])) (w' := fr_w) ((ex_stp (ins := .lcmp) rfl).trans rfl) ?_
      refine Go.next (f' := (17, [some (.long (x1).toInt64), none, some (.long 0), none, some (.long 0), none], [])) (w' := fr_w) ((ex_stp (ins := .ifCond .gt 7) rfl).trans (ex_b0_t (c := .gt) (off := 7) (pc := 10) (lo := [some (.long (x1).toInt64), none, some (.long 0), none, some (.long 0), none]) (x := (lg_cmp (x1).toInt64 0)) (r := []) (by rw [cl_gt]; exact decide_eq_true (by first | (rw [Int32.toInt_toInt64]; show (0 : Int) < x1.toInt; omega) | omega)) (by decide))) ?_
      refine Go.next (f' := (18, [some (.long (x1).toInt64), none, some (.long 0), none, some (.long 0), none], [.int 0])) (w' := fr_w) ((ex_stp (ins := .iconst 0) rfl).trans rfl) ?_
      exact Go.ret ((ex_stp (ins := .ireturn) rfl).trans rfl)
    refine Go.call (d := 38) (cal := 93) (as := [.long (x1).toInt64, .long 0, .long 0]) (g := (11, [some (.ref 59), some (.int x1), none], [])) (M' := mt_93) (r := some (.int 0)) (w' := fr_w) ((ex_stp (ins := .invokestatic 95) rfl).trans rfl) rfl (Nat.le_of_ble_eq_true rfl) h_80 ?_
    show Go [] 39 mt_42 (11, [some (.ref 59), some (.int x1), none], [.int 0]) fr_w _
    refine Go.next (f' := (14, [some (.ref 59), some (.int x1), none], [])) (w' := fr_w) ((ex_stp (ins := .ifCond .ne 5) rfl).trans rfl) ?_
    refine Go.next (f' := (15, [some (.ref 59), some (.int x1), none], [.int (-1)])) (w' := fr_w) ((ex_stp (ins := .iconst (-1)) rfl).trans rfl) ?_
    exact Go.ret ((ex_stp (ins := .ireturn) rfl).trans rfl)
set_option maxRecDepth 100000 in
theorem ao_20_a (x1 : Int32) (g0 : x1.toInt < 0) : A2 mt_43 mt_44 [.int x1] := by
  refine ⟨(-1), fr_w, fr_w, _, ?_, rfl, ?_⟩
  · show Go [] 39 mt_43 (0, [some (.ref 0), some (.int x1), none, none, none, none], []) fr_w _
    refine Go.next (f' := (1, [some (.ref 0), some (.int x1), none, none, none, none], [.int x1])) (w' := fr_w) ((ex_stp (ins := .iload_n 1) rfl).trans rfl) ?_
    refine Go.next (f' := (9, [some (.ref 0), some (.int x1), none, none, none, none], [])) (w' := fr_w) ((ex_stp (ins := .ifCond .lt 8) rfl).trans (ex_b0_t (c := .lt) (off := 8) (pc := 1) (lo := [some (.ref 0), some (.int x1), none, none, none, none]) (x := x1) (r := []) (by rw [c0_lt]; exact decide_eq_true (by show x1.toInt < (0 : Int); omega)) (by decide))) ?_
    refine Go.next (f' := (10, [some (.ref 0), some (.int x1), none, none, none, none], [.int (-1)])) (w' := fr_w) ((ex_stp (ins := .iconst (-1)) rfl).trans rfl) ?_
    exact Go.ret ((ex_stp (ins := .ireturn) rfl).trans rfl)
  · show Go [] 39 mt_44 (0, [some (.ref 59), some (.int x1), none, none], []) fr_w _
    refine Go.next (f' := (1, [some (.ref 59), some (.int x1), none, none], [.int x1])) (w' := fr_w) ((ex_stp (ins := .iload_n 1) rfl).trans rfl) ?_
    refine Go.next (f' := (2, [some (.ref 59), some (.int x1), none, none], [.long (x1).toInt64])) (w' := fr_w) ((ex_stp (ins := .i2l) rfl).trans rfl) ?_
    refine Go.next (f' := (3, [some (.ref 59), some (.int x1), none, none], [.long 0, .long (x1).toInt64])) (w' := fr_w) ((ex_stp (ins := .lconst 0) rfl).trans rfl) ?_
    refine Go.next (f' := (4, [some (.ref 59), some (.int x1), none, none], [.long 1, .long 0, .long (x1).toInt64])) (w' := fr_w) ((ex_stp (ins := .lconst 1) rfl).trans rfl) ?_
    have h_81 : Go [] 38 mt_93 (ex_ent mt_93 [.long (x1).toInt64, .long 0, .long 1]) fr_w (some (.int 0), fr_w) := by
      show Go [] 38 mt_93 (0, [some (.long (x1).toInt64), none, some (.long 0), none, some (.long 1), none], []) fr_w _
      refine Go.next (f' := (1, [some (.long (x1).toInt64), none, some (.long 0), none, some (.long 1), none], [.long (x1).toInt64])) (w' := fr_w) ((ex_stp (ins := .lload_n 0) rfl).trans rfl) ?_
      refine Go.next (f' := (2, [some (.long (x1).toInt64), none, some (.long 0), none, some (.long 1), none], [.long 0, .long (x1).toInt64])) (w' := fr_w) ((ex_stp (ins := .lload_n 2) rfl).trans rfl) ?_
      refine Go.next (f' := (3, [some (.long (x1).toInt64), none, some (.long 0), none, some (.long 1), none], [.int (lg_cmp (x1).toInt64 0)])) (w' := fr_w) ((ex_stp (ins := .lcmp) rfl).trans rfl) ?_
      refine Go.next (f' := (17, [some (.long (x1).toInt64), none, some (.long 0), none, some (.long 1), none], [])) (w' := fr_w) ((ex_stp (ins := .ifCond .lt 14) rfl).trans (ex_b0_t (c := .lt) (off := 14) (pc := 3) (lo := [some (.long (x1).toInt64), none, some (.long 0), none, some (.long 1), none]) (x := (lg_cmp (x1).toInt64 0)) (r := []) (by rw [cl_lt]; exact decide_eq_true (by first | (rw [Int32.toInt_toInt64]; show x1.toInt < (0 : Int); omega) | omega)) (by decide))) ?_
      refine Go.next (f' := (18, [some (.long (x1).toInt64), none, some (.long 0), none, some (.long 1), none], [.int 0])) (w' := fr_w) ((ex_stp (ins := .iconst 0) rfl).trans rfl) ?_
      exact Go.ret ((ex_stp (ins := .ireturn) rfl).trans rfl)
    refine Go.call (d := 38) (cal := 93) (as := [.long (x1).toInt64, .long 0, .long 1]) (g := (7, [some (.ref 59), some (.int x1), none, none], [])) (M' := mt_93) (r := some (.int 0)) (w' := fr_w) ((ex_stp (ins := .invokestatic 95) rfl).trans rfl) rfl (Nat.le_of_ble_eq_true rfl) h_81 ?_
    show Go [] 39 mt_44 (7, [some (.ref 59), some (.int x1), none, none], [.int 0]) fr_w _
    refine Go.next (f' := (10, [some (.ref 59), some (.int x1), none, none], [])) (w' := fr_w) ((ex_stp (ins := .ifCond .ne 5) rfl).trans rfl) ?_
    refine Go.next (f' := (11, [some (.ref 59), some (.int x1), none, none], [.int (-1)])) (w' := fr_w) ((ex_stp (ins := .iconst (-1)) rfl).trans rfl) ?_
    exact Go.ret ((ex_stp (ins := .ireturn) rfl).trans rfl)
set_option maxRecDepth 100000 in
theorem ao_20_b (x1 : Int32) (g0 : 1 < x1.toInt) : A2 mt_43 mt_44 [.int x1] := by
  refine ⟨(-1), fr_w, fr_w, _, ?_, rfl, ?_⟩
  · show Go [] 39 mt_43 (0, [some (.ref 0), some (.int x1), none, none, none, none], []) fr_w _
    refine Go.next (f' := (1, [some (.ref 0), some (.int x1), none, none, none, none], [.int x1])) (w' := fr_w) ((ex_stp (ins := .iload_n 1) rfl).trans rfl) ?_
    refine Go.next (f' := (4, [some (.ref 0), some (.int x1), none, none, none, none], [])) (w' := fr_w) ((ex_stp (ins := .ifCond .lt 8) rfl).trans (ex_b0_f (c := .lt) (off := 8) (pc := 1) (lo := [some (.ref 0), some (.int x1), none, none, none, none]) (x := x1) (r := []) (by rw [c0_lt]; exact decide_eq_false (by show ¬ (x1.toInt < (0 : Int)); omega)) (by decide))) ?_
    refine Go.next (f' := (5, [some (.ref 0), some (.int x1), none, none, none, none], [.int x1])) (w' := fr_w) ((ex_stp (ins := .iload_n 1) rfl).trans rfl) ?_
    refine Go.next (f' := (6, [some (.ref 0), some (.int x1), none, none, none, none], [.int 1, .int x1])) (w' := fr_w) ((ex_stp (ins := .iconst 1) rfl).trans rfl) ?_
    refine Go.next (f' := (9, [some (.ref 0), some (.int x1), none, none, none, none], [])) (w' := fr_w) ((ex_stp (ins := .if_icmp .le 5) rfl).trans (ex_b2_f (c := .le) (off := 5) (pc := 6) (lo := [some (.ref 0), some (.int x1), none, none, none, none]) (x := x1) (y := 1) (r := []) (by rw [c2_le]; exact decide_eq_false (by show ¬ (x1.toInt ≤ (1 : Int)); omega)) (by decide))) ?_
    refine Go.next (f' := (10, [some (.ref 0), some (.int x1), none, none, none, none], [.int (-1)])) (w' := fr_w) ((ex_stp (ins := .iconst (-1)) rfl).trans rfl) ?_
    exact Go.ret ((ex_stp (ins := .ireturn) rfl).trans rfl)
  · show Go [] 39 mt_44 (0, [some (.ref 59), some (.int x1), none, none], []) fr_w _
    refine Go.next (f' := (1, [some (.ref 59), some (.int x1), none, none], [.int x1])) (w' := fr_w) ((ex_stp (ins := .iload_n 1) rfl).trans rfl) ?_
    refine Go.next (f' := (2, [some (.ref 59), some (.int x1), none, none], [.long (x1).toInt64])) (w' := fr_w) ((ex_stp (ins := .i2l) rfl).trans rfl) ?_
    refine Go.next (f' := (3, [some (.ref 59), some (.int x1), none, none], [.long 0, .long (x1).toInt64])) (w' := fr_w) ((ex_stp (ins := .lconst 0) rfl).trans rfl) ?_
    refine Go.next (f' := (4, [some (.ref 59), some (.int x1), none, none], [.long 1, .long 0, .long (x1).toInt64])) (w' := fr_w) ((ex_stp (ins := .lconst 1) rfl).trans rfl) ?_
    have h_82 : Go [] 38 mt_93 (ex_ent mt_93 [.long (x1).toInt64, .long 0, .long 1]) fr_w (some (.int 0), fr_w) := by
      show Go [] 38 mt_93 (0, [some (.long (x1).toInt64), none, some (.long 0), none, some (.long 1), none], []) fr_w _
      refine Go.next (f' := (1, [some (.long (x1).toInt64), none, some (.long 0), none, some (.long 1), none], [.long (x1).toInt64])) (w' := fr_w) ((ex_stp (ins := .lload_n 0) rfl).trans rfl) ?_
      refine Go.next (f' := (2, [some (.long (x1).toInt64), none, some (.long 0), none, some (.long 1), none], [.long 0, .long (x1).toInt64])) (w' := fr_w) ((ex_stp (ins := .lload_n 2) rfl).trans rfl) ?_
      refine Go.next (f' := (3, [some (.long (x1).toInt64), none, some (.long 0), none, some (.long 1), none], [.int (lg_cmp (x1).toInt64 0)])) (w' := fr_w) ((ex_stp (ins := .lcmp) rfl).trans rfl) ?_
      refine Go.next (f' := (6, [some (.long (x1).toInt64), none, some (.long 0), none, some (.long 1), none], [])) (w' := fr_w) ((ex_stp (ins := .ifCond .lt 14) rfl).trans (ex_b0_f (c := .lt) (off := 14) (pc := 3) (lo := [some (.long (x1).toInt64), none, some (.long 0), none, some (.long 1), none]) (x := (lg_cmp (x1).toInt64 0)) (r := []) (by rw [cl_lt]; exact decide_eq_false (by first | (rw [Int32.toInt_toInt64]; show ¬ (x1.toInt < (0 : Int)); omega) | omega)) (by decide))) ?_
      refine Go.next (f' := (7, [some (.long (x1).toInt64), none, some (.long 0), none, some (.long 1), none], [.long (x1).toInt64])) (w' := fr_w) ((ex_stp (ins := .lload_n 0) rfl).trans rfl) ?_
      refine Go.next (f' := (9, [some (.long (x1).toInt64), none, some (.long 0), none, some (.long 1), none], [.long 1, .long (x1).toInt64])) (w' := fr_w) ((ex_stp (ins := .lload 4) rfl).trans rfl) ?_
      refine Go.next (f' := (10, [some (.long (x1).toInt64), none, some (.long 0), none, some (.long 1), none], [.int (lg_cmp (x1).toInt64 1)])) (w' := fr_w) ((ex_stp (ins := .lcmp) rfl).trans rfl) ?_
      refine Go.next (f' := (17, [some (.long (x1).toInt64), none, some (.long 0), none, some (.long 1), none], [])) (w' := fr_w) ((ex_stp (ins := .ifCond .gt 7) rfl).trans (ex_b0_t (c := .gt) (off := 7) (pc := 10) (lo := [some (.long (x1).toInt64), none, some (.long 0), none, some (.long 1), none]) (x := (lg_cmp (x1).toInt64 1)) (r := []) (by rw [cl_gt]; exact decide_eq_true (by first | (rw [Int32.toInt_toInt64]; show (1 : Int) < x1.toInt; omega) | omega)) (by decide))) ?_
      refine Go.next (f' := (18, [some (.long (x1).toInt64), none, some (.long 0), none, some (.long 1), none], [.int 0])) (w' := fr_w) ((ex_stp (ins := .iconst 0) rfl).trans rfl) ?_
      exact Go.ret ((ex_stp (ins := .ireturn) rfl).trans rfl)
    refine Go.call (d := 38) (cal := 93) (as := [.long (x1).toInt64, .long 0, .long 1]) (g := (7, [some (.ref 59), some (.int x1), none, none], [])) (M' := mt_93) (r := some (.int 0)) (w' := fr_w) ((ex_stp (ins := .invokestatic 95) rfl).trans rfl) rfl (Nat.le_of_ble_eq_true rfl) h_82 ?_
    show Go [] 39 mt_44 (7, [some (.ref 59), some (.int x1), none, none], [.int 0]) fr_w _
    refine Go.next (f' := (10, [some (.ref 59), some (.int x1), none, none], [])) (w' := fr_w) ((ex_stp (ins := .ifCond .ne 5) rfl).trans rfl) ?_
    refine Go.next (f' := (11, [some (.ref 59), some (.int x1), none, none], [.int (-1)])) (w' := fr_w) ((ex_stp (ins := .iconst (-1)) rfl).trans rfl) ?_
    exact Go.ret ((ex_stp (ins := .ireturn) rfl).trans rfl)
set_option maxRecDepth 100000 in
theorem ao_21_a (x1 : Int32) (g0 : x1.toInt < 0) : A2 mt_45 mt_46 [.int x1] := by
  refine ⟨(-1), fr_w, fr_w, _, ?_, rfl, ?_⟩
  · show Go [] 39 mt_45 (0, [some (.ref 0), some (.int x1)], []) fr_w _
    refine Go.next (f' := (1, [some (.ref 0), some (.int x1)], [.ref 0])) (w' := fr_w) ((ex_stp (ins := .aload_n 0) rfl).trans rfl) ?_
    refine Go.next (f' := (4, [some (.ref 0), some (.int x1)], [.ref 1])) (w' := fr_w) ((ex_stp (ins := .getfield 10) rfl).trans rfl) ?_
    refine Go.next (f' := (5, [some (.ref 0), some (.int x1)], [.int x1, .ref 1])) (w' := fr_w) ((ex_stp (ins := .iload_n 1) rfl).trans rfl) ?_
    have h_83 : Go [] 38 mt_99 (ex_ent mt_99 [.ref 1, .int x1]) fr_w (some (.int 0), fr_w) := by
      show Go [] 38 mt_99 (0, [some (.ref 1), some (.int x1)], []) fr_w _
      refine Go.next (f' := (1, [some (.ref 1), some (.int x1)], [.int x1])) (w' := fr_w) ((ex_stp (ins := .iload_n 1) rfl).trans rfl) ?_
      refine Go.next (f' := (21, [some (.ref 1), some (.int x1)], [])) (w' := fr_w) ((ex_stp (ins := .ifCond .lt 20) rfl).trans (ex_b0_t (c := .lt) (off := 20) (pc := 1) (lo := [some (.ref 1), some (.int x1)]) (x := x1) (r := []) (by rw [c0_lt]; exact decide_eq_true (by show x1.toInt < (0 : Int); omega)) (by decide))) ?_
      refine Go.next (f' := (22, [some (.ref 1), some (.int x1)], [.int 0])) (w' := fr_w) ((ex_stp (ins := .iconst 0) rfl).trans rfl) ?_
      exact Go.ret ((ex_stp (ins := .ireturn) rfl).trans rfl)
    refine Go.call (d := 38) (cal := 99) (as := [.ref 1, .int x1]) (g := (8, [some (.ref 0), some (.int x1)], [])) (M' := mt_99) (r := some (.int 0)) (w' := fr_w) ((ex_stp (ins := .invokevirtual 125) rfl).trans rfl) rfl (Nat.le_of_ble_eq_true rfl) h_83 ?_
    show Go [] 39 mt_45 (8, [some (.ref 0), some (.int x1)], [.int 0]) fr_w _
    refine Go.next (f' := (11, [some (.ref 0), some (.int x1)], [])) (w' := fr_w) ((ex_stp (ins := .ifCond .ne 5) rfl).trans rfl) ?_
    refine Go.next (f' := (12, [some (.ref 0), some (.int x1)], [.int (-1)])) (w' := fr_w) ((ex_stp (ins := .iconst (-1)) rfl).trans rfl) ?_
    exact Go.ret ((ex_stp (ins := .ireturn) rfl).trans rfl)
  · show Go [] 39 mt_46 (0, [some (.ref 59), some (.int x1)], []) fr_w _
    refine Go.next (f' := (1, [some (.ref 59), some (.int x1)], [.ref 59])) (w' := fr_w) ((ex_stp (ins := .aload_n 0) rfl).trans rfl) ?_
    refine Go.next (f' := (2, [some (.ref 59), some (.int x1)], [.int x1, .ref 59])) (w' := fr_w) ((ex_stp (ins := .iload_n 1) rfl).trans rfl) ?_
    have h_84 : Go [] 38 mt_100 (ex_ent mt_100 [.ref 59, .int x1]) fr_w (some (.int 0), fr_w) := by
      show Go [] 38 mt_100 (0, [some (.ref 59), some (.int x1)], []) fr_w _
      refine Go.next (f' := (1, [some (.ref 59), some (.int x1)], [.int x1])) (w' := fr_w) ((ex_stp (ins := .iload_n 1) rfl).trans rfl) ?_
      refine Go.next (f' := (2, [some (.ref 59), some (.int x1)], [.long (x1).toInt64])) (w' := fr_w) ((ex_stp (ins := .i2l) rfl).trans rfl) ?_
      refine Go.next (f' := (3, [some (.ref 59), some (.int x1)], [.long 0, .long (x1).toInt64])) (w' := fr_w) ((ex_stp (ins := .lconst 0) rfl).trans rfl) ?_
      refine Go.next (f' := (4, [some (.ref 59), some (.int x1)], [.ref 59, .long 0, .long (x1).toInt64])) (w' := fr_w) ((ex_stp (ins := .aload_n 0) rfl).trans rfl) ?_
      refine Go.next (f' := (7, [some (.ref 59), some (.int x1)], [.int 2, .long 0, .long (x1).toInt64])) (w' := fr_w) ((ex_stp (ins := .getfield 84) rfl).trans rfl) ?_
      refine Go.next (f' := (8, [some (.ref 59), some (.int x1)], [.int 1, .int 2, .long 0, .long (x1).toInt64])) (w' := fr_w) ((ex_stp (ins := .iconst 1) rfl).trans rfl) ?_
      refine Go.next (f' := (9, [some (.ref 59), some (.int x1)], [.int 1, .long 0, .long (x1).toInt64])) (w' := fr_w) ((ex_stp (ins := .isub) rfl).trans rfl) ?_
      refine Go.next (f' := (10, [some (.ref 59), some (.int x1)], [.long 1, .long 0, .long (x1).toInt64])) (w' := fr_w) ((ex_stp (ins := .i2l) rfl).trans rfl) ?_
      have h_85 : Go [] 37 mt_93 (ex_ent mt_93 [.long (x1).toInt64, .long 0, .long 1]) fr_w (some (.int 0), fr_w) := by
        show Go [] 37 mt_93 (0, [some (.long (x1).toInt64), none, some (.long 0), none, some (.long 1), none], []) fr_w _
        refine Go.next (f' := (1, [some (.long (x1).toInt64), none, some (.long 0), none, some (.long 1), none], [.long (x1).toInt64])) (w' := fr_w) ((ex_stp (ins := .lload_n 0) rfl).trans rfl) ?_
        refine Go.next (f' := (2, [some (.long (x1).toInt64), none, some (.long 0), none, some (.long 1), none], [.long 0, .long (x1).toInt64])) (w' := fr_w) ((ex_stp (ins := .lload_n 2) rfl).trans rfl) ?_
        refine Go.next (f' := (3, [some (.long (x1).toInt64), none, some (.long 0), none, some (.long 1), none], [.int (lg_cmp (x1).toInt64 0)])) (w' := fr_w) ((ex_stp (ins := .lcmp) rfl).trans rfl) ?_
        refine Go.next (f' := (17, [some (.long (x1).toInt64), none, some (.long 0), none, some (.long 1), none], [])) (w' := fr_w) ((ex_stp (ins := .ifCond .lt 14) rfl).trans (ex_b0_t (c := .lt) (off := 14) (pc := 3) (lo := [some (.long (x1).toInt64), none, some (.long 0), none, some (.long 1), none]) (x := (lg_cmp (x1).toInt64 0)) (r := []) (by rw [cl_lt]; exact decide_eq_true (by first | (rw [Int32.toInt_toInt64]; show x1.toInt < (0 : Int); omega) | omega)) (by decide))) ?_
        refine Go.next (f' := (18, [some (.long (x1).toInt64), none, some (.long 0), none, some (.long 1), none], [.int 0])) (w' := fr_w) ((ex_stp (ins := .iconst 0) rfl).trans rfl) ?_
        exact Go.ret ((ex_stp (ins := .ireturn) rfl).trans rfl)
      refine Go.call (d := 37) (cal := 93) (as := [.long (x1).toInt64, .long 0, .long 1]) (g := (13, [some (.ref 59), some (.int x1)], [])) (M' := mt_93) (r := some (.int 0)) (w' := fr_w) ((ex_stp (ins := .invokestatic 95) rfl).trans rfl) rfl (Nat.le_of_ble_eq_true rfl) h_85 ?_
      show Go [] 38 mt_100 (13, [some (.ref 59), some (.int x1)], [.int 0]) fr_w _
      exact Go.ret ((ex_stp (ins := .ireturn) rfl).trans rfl)
    refine Go.call (d := 38) (cal := 100) (as := [.ref 59, .int x1]) (g := (5, [some (.ref 59), some (.int x1)], [])) (M' := mt_100) (r := some (.int 0)) (w' := fr_w) ((ex_stp (ins := .invokevirtual 183) rfl).trans rfl) rfl (Nat.le_of_ble_eq_true rfl) h_84 ?_
    show Go [] 39 mt_46 (5, [some (.ref 59), some (.int x1)], [.int 0]) fr_w _
    refine Go.next (f' := (8, [some (.ref 59), some (.int x1)], [])) (w' := fr_w) ((ex_stp (ins := .ifCond .ne 5) rfl).trans rfl) ?_
    refine Go.next (f' := (9, [some (.ref 59), some (.int x1)], [.int (-1)])) (w' := fr_w) ((ex_stp (ins := .iconst (-1)) rfl).trans rfl) ?_
    exact Go.ret ((ex_stp (ins := .ireturn) rfl).trans rfl)
set_option maxRecDepth 100000 in
theorem ao_21_b (x1 : Int32) (g0 : 1 < x1.toInt) : A2 mt_45 mt_46 [.int x1] := by
  refine ⟨(-1), fr_w, fr_w, _, ?_, rfl, ?_⟩
  · show Go [] 39 mt_45 (0, [some (.ref 0), some (.int x1)], []) fr_w _
    refine Go.next (f' := (1, [some (.ref 0), some (.int x1)], [.ref 0])) (w' := fr_w) ((ex_stp (ins := .aload_n 0) rfl).trans rfl) ?_
    refine Go.next (f' := (4, [some (.ref 0), some (.int x1)], [.ref 1])) (w' := fr_w) ((ex_stp (ins := .getfield 10) rfl).trans rfl) ?_
    refine Go.next (f' := (5, [some (.ref 0), some (.int x1)], [.int x1, .ref 1])) (w' := fr_w) ((ex_stp (ins := .iload_n 1) rfl).trans rfl) ?_
    have h_86 : Go [] 38 mt_99 (ex_ent mt_99 [.ref 1, .int x1]) fr_w (some (.int 0), fr_w) := by
      show Go [] 38 mt_99 (0, [some (.ref 1), some (.int x1)], []) fr_w _
      refine Go.next (f' := (1, [some (.ref 1), some (.int x1)], [.int x1])) (w' := fr_w) ((ex_stp (ins := .iload_n 1) rfl).trans rfl) ?_
      refine Go.next (f' := (4, [some (.ref 1), some (.int x1)], [])) (w' := fr_w) ((ex_stp (ins := .ifCond .lt 20) rfl).trans (ex_b0_f (c := .lt) (off := 20) (pc := 1) (lo := [some (.ref 1), some (.int x1)]) (x := x1) (r := []) (by rw [c0_lt]; exact decide_eq_false (by show ¬ (x1.toInt < (0 : Int)); omega)) (by decide))) ?_
      refine Go.next (f' := (5, [some (.ref 1), some (.int x1)], [.int x1])) (w' := fr_w) ((ex_stp (ins := .iload_n 1) rfl).trans rfl) ?_
      refine Go.next (f' := (6, [some (.ref 1), some (.int x1)], [.ref 1, .int x1])) (w' := fr_w) ((ex_stp (ins := .aload_n 0) rfl).trans rfl) ?_
      refine Go.next (f' := (9, [some (.ref 1), some (.int x1)], [.int 2, .int x1])) (w' := fr_w) ((ex_stp (ins := .getfield 37) rfl).trans rfl) ?_
      refine Go.next (f' := (21, [some (.ref 1), some (.int x1)], [])) (w' := fr_w) ((ex_stp (ins := .if_icmp .ge 12) rfl).trans (ex_b2_t (c := .ge) (off := 12) (pc := 9) (lo := [some (.ref 1), some (.int x1)]) (x := x1) (y := 2) (r := []) (by rw [c2_ge]; exact decide_eq_true (by show (2 : Int) ≤ x1.toInt; omega)) (by decide))) ?_
      refine Go.next (f' := (22, [some (.ref 1), some (.int x1)], [.int 0])) (w' := fr_w) ((ex_stp (ins := .iconst 0) rfl).trans rfl) ?_
      exact Go.ret ((ex_stp (ins := .ireturn) rfl).trans rfl)
    refine Go.call (d := 38) (cal := 99) (as := [.ref 1, .int x1]) (g := (8, [some (.ref 0), some (.int x1)], [])) (M' := mt_99) (r := some (.int 0)) (w' := fr_w) ((ex_stp (ins := .invokevirtual 125) rfl).trans rfl) rfl (Nat.le_of_ble_eq_true rfl) h_86 ?_
    show Go [] 39 mt_45 (8, [some (.ref 0), some (.int x1)], [.int 0]) fr_w _
    refine Go.next (f' := (11, [some (.ref 0), some (.int x1)], [])) (w' := fr_w) ((ex_stp (ins := .ifCond .ne 5) rfl).trans rfl) ?_
    refine Go.next (f' := (12, [some (.ref 0), some (.int x1)], [.int (-1)])) (w' := fr_w) ((ex_stp (ins := .iconst (-1)) rfl).trans rfl) ?_
    exact Go.ret ((ex_stp (ins := .ireturn) rfl).trans rfl)
  · show Go [] 39 mt_46 (0, [some (.ref 59), some (.int x1)], []) fr_w _
    refine Go.next (f' := (1, [some (.ref 59), some (.int x1)], [.ref 59])) (w' := fr_w) ((ex_stp (ins := .aload_n 0) rfl).trans rfl) ?_
    refine Go.next (f' := (2, [some (.ref 59), some (.int x1)], [.int x1, .ref 59])) (w' := fr_w) ((ex_stp (ins := .iload_n 1) rfl).trans rfl) ?_
    have h_87 : Go [] 38 mt_100 (ex_ent mt_100 [.ref 59, .int x1]) fr_w (some (.int 0), fr_w) := by
      show Go [] 38 mt_100 (0, [some (.ref 59), some (.int x1)], []) fr_w _
      refine Go.next (f' := (1, [some (.ref 59), some (.int x1)], [.int x1])) (w' := fr_w) ((ex_stp (ins := .iload_n 1) rfl).trans rfl) ?_
      refine Go.next (f' := (2, [some (.ref 59), some (.int x1)], [.long (x1).toInt64])) (w' := fr_w) ((ex_stp (ins := .i2l) rfl).trans rfl) ?_
      refine Go.next (f' := (3, [some (.ref 59), some (.int x1)], [.long 0, .long (x1).toInt64])) (w' := fr_w) ((ex_stp (ins := .lconst 0) rfl).trans rfl) ?_
      refine Go.next (f' := (4, [some (.ref 59), some (.int x1)], [.ref 59, .long 0, .long (x1).toInt64])) (w' := fr_w) ((ex_stp (ins := .aload_n 0) rfl).trans rfl) ?_
      refine Go.next (f' := (7, [some (.ref 59), some (.int x1)], [.int 2, .long 0, .long (x1).toInt64])) (w' := fr_w) ((ex_stp (ins := .getfield 84) rfl).trans rfl) ?_
      refine Go.next (f' := (8, [some (.ref 59), some (.int x1)], [.int 1, .int 2, .long 0, .long (x1).toInt64])) (w' := fr_w) ((ex_stp (ins := .iconst 1) rfl).trans rfl) ?_
      refine Go.next (f' := (9, [some (.ref 59), some (.int x1)], [.int 1, .long 0, .long (x1).toInt64])) (w' := fr_w) ((ex_stp (ins := .isub) rfl).trans rfl) ?_
      refine Go.next (f' := (10, [some (.ref 59), some (.int x1)], [.long 1, .long 0, .long (x1).toInt64])) (w' := fr_w) ((ex_stp (ins := .i2l) rfl).trans rfl) ?_
      have h_88 : Go [] 37 mt_93 (ex_ent mt_93 [.long (x1).toInt64, .long 0, .long 1]) fr_w (some (.int 0), fr_w) := by
        show Go [] 37 mt_93 (0, [some (.long (x1).toInt64), none, some (.long 0), none, some (.long 1), none], []) fr_w _
        refine Go.next (f' := (1, [some (.long (x1).toInt64), none, some (.long 0), none, some (.long 1), none], [.long (x1).toInt64])) (w' := fr_w) ((ex_stp (ins := .lload_n 0) rfl).trans rfl) ?_
        refine Go.next (f' := (2, [some (.long (x1).toInt64), none, some (.long 0), none, some (.long 1), none], [.long 0, .long (x1).toInt64])) (w' := fr_w) ((ex_stp (ins := .lload_n 2) rfl).trans rfl) ?_
        refine Go.next (f' := (3, [some (.long (x1).toInt64), none, some (.long 0), none, some (.long 1), none], [.int (lg_cmp (x1).toInt64 0)])) (w' := fr_w) ((ex_stp (ins := .lcmp) rfl).trans rfl) ?_
        refine Go.next (f' := (6, [some (.long (x1).toInt64), none, some (.long 0), none, some (.long 1), none], [])) (w' := fr_w) ((ex_stp (ins := .ifCond .lt 14) rfl).trans (ex_b0_f (c := .lt) (off := 14) (pc := 3) (lo := [some (.long (x1).toInt64), none, some (.long 0), none, some (.long 1), none]) (x := (lg_cmp (x1).toInt64 0)) (r := []) (by rw [cl_lt]; exact decide_eq_false (by first | (rw [Int32.toInt_toInt64]; show ¬ (x1.toInt < (0 : Int)); omega) | omega)) (by decide))) ?_
        refine Go.next (f' := (7, [some (.long (x1).toInt64), none, some (.long 0), none, some (.long 1), none], [.long (x1).toInt64])) (w' := fr_w) ((ex_stp (ins := .lload_n 0) rfl).trans rfl) ?_
        refine Go.next (f' := (9, [some (.long (x1).toInt64), none, some (.long 0), none, some (.long 1), none], [.long 1, .long (x1).toInt64])) (w' := fr_w) ((ex_stp (ins := .lload 4) rfl).trans rfl) ?_
        refine Go.next (f' := (10, [some (.long (x1).toInt64), none, some (.long 0), none, some (.long 1), none], [.int (lg_cmp (x1).toInt64 1)])) (w' := fr_w) ((ex_stp (ins := .lcmp) rfl).trans rfl) ?_
        refine Go.next (f' := (17, [some (.long (x1).toInt64), none, some (.long 0), none, some (.long 1), none], [])) (w' := fr_w) ((ex_stp (ins := .ifCond .gt 7) rfl).trans (ex_b0_t (c := .gt) (off := 7) (pc := 10) (lo := [some (.long (x1).toInt64), none, some (.long 0), none, some (.long 1), none]) (x := (lg_cmp (x1).toInt64 1)) (r := []) (by rw [cl_gt]; exact decide_eq_true (by first | (rw [Int32.toInt_toInt64]; show (1 : Int) < x1.toInt; omega) | omega)) (by decide))) ?_
        refine Go.next (f' := (18, [some (.long (x1).toInt64), none, some (.long 0), none, some (.long 1), none], [.int 0])) (w' := fr_w) ((ex_stp (ins := .iconst 0) rfl).trans rfl) ?_
        exact Go.ret ((ex_stp (ins := .ireturn) rfl).trans rfl)
      refine Go.call (d := 37) (cal := 93) (as := [.long (x1).toInt64, .long 0, .long 1]) (g := (13, [some (.ref 59), some (.int x1)], [])) (M' := mt_93) (r := some (.int 0)) (w' := fr_w) ((ex_stp (ins := .invokestatic 95) rfl).trans rfl) rfl (Nat.le_of_ble_eq_true rfl) h_88 ?_
      show Go [] 38 mt_100 (13, [some (.ref 59), some (.int x1)], [.int 0]) fr_w _
      exact Go.ret ((ex_stp (ins := .ireturn) rfl).trans rfl)
    refine Go.call (d := 38) (cal := 100) (as := [.ref 59, .int x1]) (g := (5, [some (.ref 59), some (.int x1)], [])) (M' := mt_100) (r := some (.int 0)) (w' := fr_w) ((ex_stp (ins := .invokevirtual 183) rfl).trans rfl) rfl (Nat.le_of_ble_eq_true rfl) h_87 ?_
    show Go [] 39 mt_46 (5, [some (.ref 59), some (.int x1)], [.int 0]) fr_w _
    refine Go.next (f' := (8, [some (.ref 59), some (.int x1)], [])) (w' := fr_w) ((ex_stp (ins := .ifCond .ne 5) rfl).trans rfl) ?_
    refine Go.next (f' := (9, [some (.ref 59), some (.int x1)], [.int (-1)])) (w' := fr_w) ((ex_stp (ins := .iconst (-1)) rfl).trans rfl) ?_
    exact Go.ret ((ex_stp (ins := .ireturn) rfl).trans rfl)
set_option maxRecDepth 100000 in
theorem ao_22_a (x1 : Int32) (g0 : x1.toInt < 0) : A2 mt_47 mt_48 [.int x1] := by
  refine ⟨(-1), fr_w, fr_w, _, ?_, rfl, ?_⟩
  · show Go [] 39 mt_47 (0, [some (.ref 0), some (.int x1), none], []) fr_w _
    refine Go.next (f' := (1, [some (.ref 0), some (.int x1), none], [.ref 0])) (w' := fr_w) ((ex_stp (ins := .aload_n 0) rfl).trans rfl) ?_
    refine Go.next (f' := (4, [some (.ref 0), some (.int x1), none], [.ref 1])) (w' := fr_w) ((ex_stp (ins := .getfield 10) rfl).trans rfl) ?_
    refine Go.next (f' := (7, [some (.ref 0), some (.int x1), none], [.int 0])) (w' := fr_w) ((ex_stp (ins := .getfield 170) rfl).trans rfl) ?_
    refine Go.next (f' := (8, [some (.ref 0), some (.int x1), some (.int 0)], [])) (w' := fr_w) ((ex_stp (ins := .istore_n 2) rfl).trans rfl) ?_
    refine Go.next (f' := (9, [some (.ref 0), some (.int x1), some (.int 0)], [.int x1])) (w' := fr_w) ((ex_stp (ins := .iload_n 1) rfl).trans rfl) ?_
    refine Go.next (f' := (17, [some (.ref 0), some (.int x1), some (.int 0)], [])) (w' := fr_w) ((ex_stp (ins := .ifCond .lt 8) rfl).trans (ex_b0_t (c := .lt) (off := 8) (pc := 9) (lo := [some (.ref 0), some (.int x1), some (.int 0)]) (x := x1) (r := []) (by rw [c0_lt]; exact decide_eq_true (by show x1.toInt < (0 : Int); omega)) (by decide))) ?_
    refine Go.next (f' := (18, [some (.ref 0), some (.int x1), some (.int 0)], [.int (-1)])) (w' := fr_w) ((ex_stp (ins := .iconst (-1)) rfl).trans rfl) ?_
    exact Go.ret ((ex_stp (ins := .ireturn) rfl).trans rfl)
  · show Go [] 39 mt_48 (0, [some (.ref 59), some (.int x1), none], []) fr_w _
    refine Go.next (f' := (1, [some (.ref 59), some (.int x1), none], [.int x1])) (w' := fr_w) ((ex_stp (ins := .iload_n 1) rfl).trans rfl) ?_
    refine Go.next (f' := (2, [some (.ref 59), some (.int x1), none], [.long (x1).toInt64])) (w' := fr_w) ((ex_stp (ins := .i2l) rfl).trans rfl) ?_
    refine Go.next (f' := (3, [some (.ref 59), some (.int x1), none], [.long 0, .long (x1).toInt64])) (w' := fr_w) ((ex_stp (ins := .lconst 0) rfl).trans rfl) ?_
    refine Go.next (f' := (4, [some (.ref 59), some (.int x1), none], [.ref 59, .long 0, .long (x1).toInt64])) (w' := fr_w) ((ex_stp (ins := .aload_n 0) rfl).trans rfl) ?_
    refine Go.next (f' := (7, [some (.ref 59), some (.int x1), none], [.ref 60, .long 0, .long (x1).toInt64])) (w' := fr_w) ((ex_stp (ins := .getfield 7) rfl).trans rfl) ?_
    refine Go.next (f' := (9, [some (.ref 59), some (.int x1), none], [.int 81, .ref 60, .long 0, .long (x1).toInt64])) (w' := fr_w) ((ex_stp (ins := .bipush 81) rfl).trans rfl) ?_
    refine Go.next (f' := (10, [some (.ref 59), some (.int x1), none], [.int 0, .long 0, .long (x1).toInt64])) (w' := fr_w) ((ex_stp (ins := .iaload) rfl).trans rfl) ?_
    refine Go.next (f' := (11, [some (.ref 59), some (.int x1), none], [.long 0, .long 0, .long (x1).toInt64])) (w' := fr_w) ((ex_stp (ins := .i2l) rfl).trans rfl) ?_
    have h_89 : Go [] 38 mt_93 (ex_ent mt_93 [.long (x1).toInt64, .long 0, .long 0]) fr_w (some (.int 0), fr_w) := by
      show Go [] 38 mt_93 (0, [some (.long (x1).toInt64), none, some (.long 0), none, some (.long 0), none], []) fr_w _
      refine Go.next (f' := (1, [some (.long (x1).toInt64), none, some (.long 0), none, some (.long 0), none], [.long (x1).toInt64])) (w' := fr_w) ((ex_stp (ins := .lload_n 0) rfl).trans rfl) ?_
      refine Go.next (f' := (2, [some (.long (x1).toInt64), none, some (.long 0), none, some (.long 0), none], [.long 0, .long (x1).toInt64])) (w' := fr_w) ((ex_stp (ins := .lload_n 2) rfl).trans rfl) ?_
      refine Go.next (f' := (3, [some (.long (x1).toInt64), none, some (.long 0), none, some (.long 0), none], [.int (lg_cmp (x1).toInt64 0)])) (w' := fr_w) ((ex_stp (ins := .lcmp) rfl).trans rfl) ?_
      refine Go.next (f' := (17, [some (.long (x1).toInt64), none, some (.long 0), none, some (.long 0), none], [])) (w' := fr_w) ((ex_stp (ins := .ifCond .lt 14) rfl).trans (ex_b0_t (c := .lt) (off := 14) (pc := 3) (lo := [some (.long (x1).toInt64), none, some (.long 0), none, some (.long 0), none]) (x := (lg_cmp (x1).toInt64 0)) (r := []) (by rw [cl_lt]; exact decide_eq_true (by first | (rw [Int32.toInt_toInt64]; show x1.toInt < (0 : Int); omega) | omega)) (by decide))) ?_
      refine Go.next (f' := (18, [some (.long (x1).toInt64), none, some (.long 0), none, some (.long 0), none], [.int 0])) (w' := fr_w) ((ex_stp (ins := .iconst 0) rfl).trans rfl) ?_
      exact Go.ret ((ex_stp (ins := .ireturn) rfl).trans rfl)
    refine Go.call (d := 38) (cal := 93) (as := [.long (x1).toInt64, .long 0, .long 0]) (g := (14, [some (.ref 59), some (.int x1), none], [])) (M' := mt_93) (r := some (.int 0)) (w' := fr_w) ((ex_stp (ins := .invokestatic 95) rfl).trans rfl) rfl (Nat.le_of_ble_eq_true rfl) h_89 ?_
    show Go [] 39 mt_48 (14, [some (.ref 59), some (.int x1), none], [.int 0]) fr_w _
    refine Go.next (f' := (17, [some (.ref 59), some (.int x1), none], [])) (w' := fr_w) ((ex_stp (ins := .ifCond .ne 5) rfl).trans rfl) ?_
    refine Go.next (f' := (18, [some (.ref 59), some (.int x1), none], [.int (-1)])) (w' := fr_w) ((ex_stp (ins := .iconst (-1)) rfl).trans rfl) ?_
    exact Go.ret ((ex_stp (ins := .ireturn) rfl).trans rfl)
set_option maxRecDepth 100000 in
theorem ao_22_b (x1 : Int32) (g0 : 0 < x1.toInt) : A2 mt_47 mt_48 [.int x1] := by
  refine ⟨(-1), fr_w, fr_w, _, ?_, rfl, ?_⟩
  · show Go [] 39 mt_47 (0, [some (.ref 0), some (.int x1), none], []) fr_w _
    refine Go.next (f' := (1, [some (.ref 0), some (.int x1), none], [.ref 0])) (w' := fr_w) ((ex_stp (ins := .aload_n 0) rfl).trans rfl) ?_
    refine Go.next (f' := (4, [some (.ref 0), some (.int x1), none], [.ref 1])) (w' := fr_w) ((ex_stp (ins := .getfield 10) rfl).trans rfl) ?_
    refine Go.next (f' := (7, [some (.ref 0), some (.int x1), none], [.int 0])) (w' := fr_w) ((ex_stp (ins := .getfield 170) rfl).trans rfl) ?_
    refine Go.next (f' := (8, [some (.ref 0), some (.int x1), some (.int 0)], [])) (w' := fr_w) ((ex_stp (ins := .istore_n 2) rfl).trans rfl) ?_
    refine Go.next (f' := (9, [some (.ref 0), some (.int x1), some (.int 0)], [.int x1])) (w' := fr_w) ((ex_stp (ins := .iload_n 1) rfl).trans rfl) ?_
    refine Go.next (f' := (12, [some (.ref 0), some (.int x1), some (.int 0)], [])) (w' := fr_w) ((ex_stp (ins := .ifCond .lt 8) rfl).trans (ex_b0_f (c := .lt) (off := 8) (pc := 9) (lo := [some (.ref 0), some (.int x1), some (.int 0)]) (x := x1) (r := []) (by rw [c0_lt]; exact decide_eq_false (by show ¬ (x1.toInt < (0 : Int)); omega)) (by decide))) ?_
    refine Go.next (f' := (13, [some (.ref 0), some (.int x1), some (.int 0)], [.int x1])) (w' := fr_w) ((ex_stp (ins := .iload_n 1) rfl).trans rfl) ?_
    refine Go.next (f' := (14, [some (.ref 0), some (.int x1), some (.int 0)], [.int 0, .int x1])) (w' := fr_w) ((ex_stp (ins := .iload_n 2) rfl).trans rfl) ?_
    refine Go.next (f' := (17, [some (.ref 0), some (.int x1), some (.int 0)], [])) (w' := fr_w) ((ex_stp (ins := .if_icmp .le 5) rfl).trans (ex_b2_f (c := .le) (off := 5) (pc := 14) (lo := [some (.ref 0), some (.int x1), some (.int 0)]) (x := x1) (y := 0) (r := []) (by rw [c2_le]; exact decide_eq_false (by show ¬ (x1.toInt ≤ (0 : Int)); omega)) (by decide))) ?_
    refine Go.next (f' := (18, [some (.ref 0), some (.int x1), some (.int 0)], [.int (-1)])) (w' := fr_w) ((ex_stp (ins := .iconst (-1)) rfl).trans rfl) ?_
    exact Go.ret ((ex_stp (ins := .ireturn) rfl).trans rfl)
  · show Go [] 39 mt_48 (0, [some (.ref 59), some (.int x1), none], []) fr_w _
    refine Go.next (f' := (1, [some (.ref 59), some (.int x1), none], [.int x1])) (w' := fr_w) ((ex_stp (ins := .iload_n 1) rfl).trans rfl) ?_
    refine Go.next (f' := (2, [some (.ref 59), some (.int x1), none], [.long (x1).toInt64])) (w' := fr_w) ((ex_stp (ins := .i2l) rfl).trans rfl) ?_
    refine Go.next (f' := (3, [some (.ref 59), some (.int x1), none], [.long 0, .long (x1).toInt64])) (w' := fr_w) ((ex_stp (ins := .lconst 0) rfl).trans rfl) ?_
    refine Go.next (f' := (4, [some (.ref 59), some (.int x1), none], [.ref 59, .long 0, .long (x1).toInt64])) (w' := fr_w) ((ex_stp (ins := .aload_n 0) rfl).trans rfl) ?_
    refine Go.next (f' := (7, [some (.ref 59), some (.int x1), none], [.ref 60, .long 0, .long (x1).toInt64])) (w' := fr_w) ((ex_stp (ins := .getfield 7) rfl).trans rfl) ?_
    refine Go.next (f' := (9, [some (.ref 59), some (.int x1), none], [.int 81, .ref 60, .long 0, .long (x1).toInt64])) (w' := fr_w) ((ex_stp (ins := .bipush 81) rfl).trans rfl) ?_
    refine Go.next (f' := (10, [some (.ref 59), some (.int x1), none], [.int 0, .long 0, .long (x1).toInt64])) (w' := fr_w) ((ex_stp (ins := .iaload) rfl).trans rfl) ?_
    refine Go.next (f' := (11, [some (.ref 59), some (.int x1), none], [.long 0, .long 0, .long (x1).toInt64])) (w' := fr_w) ((ex_stp (ins := .i2l) rfl).trans rfl) ?_
    have h_90 : Go [] 38 mt_93 (ex_ent mt_93 [.long (x1).toInt64, .long 0, .long 0]) fr_w (some (.int 0), fr_w) := by
      show Go [] 38 mt_93 (0, [some (.long (x1).toInt64), none, some (.long 0), none, some (.long 0), none], []) fr_w _
      refine Go.next (f' := (1, [some (.long (x1).toInt64), none, some (.long 0), none, some (.long 0), none], [.long (x1).toInt64])) (w' := fr_w) ((ex_stp (ins := .lload_n 0) rfl).trans rfl) ?_
      refine Go.next (f' := (2, [some (.long (x1).toInt64), none, some (.long 0), none, some (.long 0), none], [.long 0, .long (x1).toInt64])) (w' := fr_w) ((ex_stp (ins := .lload_n 2) rfl).trans rfl) ?_
      refine Go.next (f' := (3, [some (.long (x1).toInt64), none, some (.long 0), none, some (.long 0), none], [.int (lg_cmp (x1).toInt64 0)])) (w' := fr_w) ((ex_stp (ins := .lcmp) rfl).trans rfl) ?_
      refine Go.next (f' := (6, [some (.long (x1).toInt64), none, some (.long 0), none, some (.long 0), none], [])) (w' := fr_w) ((ex_stp (ins := .ifCond .lt 14) rfl).trans (ex_b0_f (c := .lt) (off := 14) (pc := 3) (lo := [some (.long (x1).toInt64), none, some (.long 0), none, some (.long 0), none]) (x := (lg_cmp (x1).toInt64 0)) (r := []) (by rw [cl_lt]; exact decide_eq_false (by first | (rw [Int32.toInt_toInt64]; show ¬ (x1.toInt < (0 : Int)); omega) | omega)) (by decide))) ?_
      refine Go.next (f' := (7, [some (.long (x1).toInt64), none, some (.long 0), none, some (.long 0), none], [.long (x1).toInt64])) (w' := fr_w) ((ex_stp (ins := .lload_n 0) rfl).trans rfl) ?_
      refine Go.next (f' := (9, [some (.long (x1).toInt64), none, some (.long 0), none, some (.long 0), none], [.long 0, .long (x1).toInt64])) (w' := fr_w) ((ex_stp (ins := .lload 4) rfl).trans rfl) ?_
      refine Go.next (f' := (10, [some (.long (x1).toInt64), none, some (.long 0), none, some (.long 0), none], [.int (lg_cmp (x1).toInt64 0)])) (w' := fr_w) ((ex_stp (ins := .lcmp) rfl).trans rfl) ?_
      refine Go.next (f' := (17, [some (.long (x1).toInt64), none, some (.long 0), none, some (.long 0), none], [])) (w' := fr_w) ((ex_stp (ins := .ifCond .gt 7) rfl).trans (ex_b0_t (c := .gt) (off := 7) (pc := 10) (lo := [some (.long (x1).toInt64), none, some (.long 0), none, some (.long 0), none]) (x := (lg_cmp (x1).toInt64 0)) (r := []) (by rw [cl_gt]; exact decide_eq_true (by first | (rw [Int32.toInt_toInt64]; show (0 : Int) < x1.toInt; omega) | omega)) (by decide))) ?_
      refine Go.next (f' := (18, [some (.long (x1).toInt64), none, some (.long 0), none, some (.long 0), none], [.int 0])) (w' := fr_w) ((ex_stp (ins := .iconst 0) rfl).trans rfl) ?_
      exact Go.ret ((ex_stp (ins := .ireturn) rfl).trans rfl)
    refine Go.call (d := 38) (cal := 93) (as := [.long (x1).toInt64, .long 0, .long 0]) (g := (14, [some (.ref 59), some (.int x1), none], [])) (M' := mt_93) (r := some (.int 0)) (w' := fr_w) ((ex_stp (ins := .invokestatic 95) rfl).trans rfl) rfl (Nat.le_of_ble_eq_true rfl) h_90 ?_
    show Go [] 39 mt_48 (14, [some (.ref 59), some (.int x1), none], [.int 0]) fr_w _
    refine Go.next (f' := (17, [some (.ref 59), some (.int x1), none], [])) (w' := fr_w) ((ex_stp (ins := .ifCond .ne 5) rfl).trans rfl) ?_
    refine Go.next (f' := (18, [some (.ref 59), some (.int x1), none], [.int (-1)])) (w' := fr_w) ((ex_stp (ins := .iconst (-1)) rfl).trans rfl) ?_
    exact Go.ret ((ex_stp (ins := .ireturn) rfl).trans rfl)
set_option maxRecDepth 100000 in
theorem ao_23_a (x1 : Int32) (g0 : x1.toInt < 0) : A2 mt_49 mt_50 [.int x1] := by
  refine ⟨(-1), fr_w, fr_w, _, ?_, rfl, ?_⟩
  · show Go [] 39 mt_49 (0, [some (.ref 0), some (.int x1)], []) fr_w _
    refine Go.next (f' := (1, [some (.ref 0), some (.int x1)], [.int x1])) (w' := fr_w) ((ex_stp (ins := .iload_n 1) rfl).trans rfl) ?_
    have h_91 : Go [] 38 mt_118 (ex_ent mt_118 [.int x1]) fr_w (some (.int 0), fr_w) := by
      show Go [] 38 mt_118 (0, [some (.int x1)], []) fr_w _
      refine Go.next (f' := (1, [some (.int x1)], [.int x1])) (w' := fr_w) ((ex_stp (ins := .iload_n 0) rfl).trans rfl) ?_
      refine Go.next (f' := (4, [some (.int x1)], [])) (w' := fr_w) ((ex_stp (ins := .ifCond .eq 15) rfl).trans (ex_b0_f (c := .eq) (off := 15) (pc := 1) (lo := [some (.int x1)]) (x := x1) (r := []) (by rw [c0_eq]; exact decide_eq_false (by show ¬ (x1.toInt = (0 : Int)); omega)) (by decide))) ?_
      refine Go.next (f' := (5, [some (.int x1)], [.int x1])) (w' := fr_w) ((ex_stp (ins := .iload_n 0) rfl).trans rfl) ?_
      refine Go.next (f' := (7, [some (.int x1)], [.int 10, .int x1])) (w' := fr_w) ((ex_stp (ins := .bipush 10) rfl).trans rfl) ?_
      refine Go.next (f' := (20, [some (.int x1)], [])) (w' := fr_w) ((ex_stp (ins := .if_icmp .lt 13) rfl).trans (ex_b2_t (c := .lt) (off := 13) (pc := 7) (lo := [some (.int x1)]) (x := x1) (y := 10) (r := []) (by rw [c2_lt]; exact decide_eq_true (by show x1.toInt < (10 : Int); omega)) (by decide))) ?_
      refine Go.next (f' := (21, [some (.int x1)], [.int 0])) (w' := fr_w) ((ex_stp (ins := .iconst 0) rfl).trans rfl) ?_
      exact Go.ret ((ex_stp (ins := .ireturn) rfl).trans rfl)
    refine Go.call (d := 38) (cal := 118) (as := [.int x1]) (g := (4, [some (.ref 0), some (.int x1)], [])) (M' := mt_118) (r := some (.int 0)) (w' := fr_w) ((ex_stp (ins := .invokestatic 173) rfl).trans rfl) rfl (Nat.le_of_ble_eq_true rfl) h_91 ?_
    show Go [] 39 mt_49 (4, [some (.ref 0), some (.int x1)], [.int 0]) fr_w _
    refine Go.next (f' := (7, [some (.ref 0), some (.int x1)], [])) (w' := fr_w) ((ex_stp (ins := .ifCond .ne 5) rfl).trans rfl) ?_
    refine Go.next (f' := (8, [some (.ref 0), some (.int x1)], [.int (-1)])) (w' := fr_w) ((ex_stp (ins := .iconst (-1)) rfl).trans rfl) ?_
    exact Go.ret ((ex_stp (ins := .ireturn) rfl).trans rfl)
  · show Go [] 39 mt_50 (0, [some (.ref 59), some (.int x1)], []) fr_w _
    refine Go.next (f' := (1, [some (.ref 59), some (.int x1)], [.int x1])) (w' := fr_w) ((ex_stp (ins := .iload_n 1) rfl).trans rfl) ?_
    have h_92 : Go [] 38 mt_122 (ex_ent mt_122 [.int x1]) fr_w (some (.int 0), fr_w) := by
      show Go [] 38 mt_122 (0, [some (.int x1)], []) fr_w _
      refine Go.next (f' := (1, [some (.int x1)], [.int x1])) (w' := fr_w) ((ex_stp (ins := .iload_n 0) rfl).trans rfl) ?_
      refine Go.next (f' := (4, [some (.int x1)], [])) (w' := fr_w) ((ex_stp (ins := .ifCond .eq 17) rfl).trans (ex_b0_f (c := .eq) (off := 17) (pc := 1) (lo := [some (.int x1)]) (x := x1) (r := []) (by rw [c0_eq]; exact decide_eq_false (by show ¬ (x1.toInt = (0 : Int)); omega)) (by decide))) ?_
      refine Go.next (f' := (5, [some (.int x1)], [.int x1])) (w' := fr_w) ((ex_stp (ins := .iload_n 0) rfl).trans rfl) ?_
      refine Go.next (f' := (6, [some (.int x1)], [.long (x1).toInt64])) (w' := fr_w) ((ex_stp (ins := .i2l) rfl).trans rfl) ?_
      refine Go.next (f' := (9, [some (.int x1)], [.long 10, .long (x1).toInt64])) (w' := fr_w) ((ex_stp (ins := .ldc2_w 231) rfl).trans rfl) ?_
      refine Go.next (f' := (12, [some (.int x1)], [.long 14, .long 10, .long (x1).toInt64])) (w' := fr_w) ((ex_stp (ins := .ldc2_w 233) rfl).trans rfl) ?_
      have h_93 : Go [] 37 mt_93 (ex_ent mt_93 [.long (x1).toInt64, .long 10, .long 14]) fr_w (some (.int 0), fr_w) := by
        show Go [] 37 mt_93 (0, [some (.long (x1).toInt64), none, some (.long 10), none, some (.long 14), none], []) fr_w _
        refine Go.next (f' := (1, [some (.long (x1).toInt64), none, some (.long 10), none, some (.long 14), none], [.long (x1).toInt64])) (w' := fr_w) ((ex_stp (ins := .lload_n 0) rfl).trans rfl) ?_
        refine Go.next (f' := (2, [some (.long (x1).toInt64), none, some (.long 10), none, some (.long 14), none], [.long 10, .long (x1).toInt64])) (w' := fr_w) ((ex_stp (ins := .lload_n 2) rfl).trans rfl) ?_
        refine Go.next (f' := (3, [some (.long (x1).toInt64), none, some (.long 10), none, some (.long 14), none], [.int (lg_cmp (x1).toInt64 10)])) (w' := fr_w) ((ex_stp (ins := .lcmp) rfl).trans rfl) ?_
        refine Go.next (f' := (17, [some (.long (x1).toInt64), none, some (.long 10), none, some (.long 14), none], [])) (w' := fr_w) ((ex_stp (ins := .ifCond .lt 14) rfl).trans (ex_b0_t (c := .lt) (off := 14) (pc := 3) (lo := [some (.long (x1).toInt64), none, some (.long 10), none, some (.long 14), none]) (x := (lg_cmp (x1).toInt64 10)) (r := []) (by rw [cl_lt]; exact decide_eq_true (by first | (rw [Int32.toInt_toInt64]; show x1.toInt < (10 : Int); omega) | omega)) (by decide))) ?_
        refine Go.next (f' := (18, [some (.long (x1).toInt64), none, some (.long 10), none, some (.long 14), none], [.int 0])) (w' := fr_w) ((ex_stp (ins := .iconst 0) rfl).trans rfl) ?_
        exact Go.ret ((ex_stp (ins := .ireturn) rfl).trans rfl)
      refine Go.call (d := 37) (cal := 93) (as := [.long (x1).toInt64, .long 10, .long 14]) (g := (15, [some (.int x1)], [])) (M' := mt_93) (r := some (.int 0)) (w' := fr_w) ((ex_stp (ins := .invokestatic 95) rfl).trans rfl) rfl (Nat.le_of_ble_eq_true rfl) h_93 ?_
      show Go [] 38 mt_122 (15, [some (.int x1)], [.int 0]) fr_w _
      refine Go.next (f' := (22, [some (.int x1)], [])) (w' := fr_w) ((ex_stp (ins := .ifCond .eq 7) rfl).trans rfl) ?_
      refine Go.next (f' := (23, [some (.int x1)], [.int 0])) (w' := fr_w) ((ex_stp (ins := .iconst 0) rfl).trans rfl) ?_
      exact Go.ret ((ex_stp (ins := .ireturn) rfl).trans rfl)
    refine Go.call (d := 38) (cal := 122) (as := [.int x1]) (g := (4, [some (.ref 59), some (.int x1)], [])) (M' := mt_122) (r := some (.int 0)) (w' := fr_w) ((ex_stp (ins := .invokestatic 235) rfl).trans rfl) rfl (Nat.le_of_ble_eq_true rfl) h_92 ?_
    show Go [] 39 mt_50 (4, [some (.ref 59), some (.int x1)], [.int 0]) fr_w _
    refine Go.next (f' := (7, [some (.ref 59), some (.int x1)], [])) (w' := fr_w) ((ex_stp (ins := .ifCond .ne 5) rfl).trans rfl) ?_
    refine Go.next (f' := (8, [some (.ref 59), some (.int x1)], [.int (-1)])) (w' := fr_w) ((ex_stp (ins := .iconst (-1)) rfl).trans rfl) ?_
    exact Go.ret ((ex_stp (ins := .ireturn) rfl).trans rfl)
set_option maxRecDepth 100000 in
theorem ao_23_b (x1 : Int32) (g0 : 0 < x1.toInt) (g1 : x1.toInt < 10) : A2 mt_49 mt_50 [.int x1] := by
  refine ⟨(-1), fr_w, fr_w, _, ?_, rfl, ?_⟩
  · show Go [] 39 mt_49 (0, [some (.ref 0), some (.int x1)], []) fr_w _
    refine Go.next (f' := (1, [some (.ref 0), some (.int x1)], [.int x1])) (w' := fr_w) ((ex_stp (ins := .iload_n 1) rfl).trans rfl) ?_
    have h_94 : Go [] 38 mt_118 (ex_ent mt_118 [.int x1]) fr_w (some (.int 0), fr_w) := by
      show Go [] 38 mt_118 (0, [some (.int x1)], []) fr_w _
      refine Go.next (f' := (1, [some (.int x1)], [.int x1])) (w' := fr_w) ((ex_stp (ins := .iload_n 0) rfl).trans rfl) ?_
      refine Go.next (f' := (4, [some (.int x1)], [])) (w' := fr_w) ((ex_stp (ins := .ifCond .eq 15) rfl).trans (ex_b0_f (c := .eq) (off := 15) (pc := 1) (lo := [some (.int x1)]) (x := x1) (r := []) (by rw [c0_eq]; exact decide_eq_false (by show ¬ (x1.toInt = (0 : Int)); omega)) (by decide))) ?_
      refine Go.next (f' := (5, [some (.int x1)], [.int x1])) (w' := fr_w) ((ex_stp (ins := .iload_n 0) rfl).trans rfl) ?_
      refine Go.next (f' := (7, [some (.int x1)], [.int 10, .int x1])) (w' := fr_w) ((ex_stp (ins := .bipush 10) rfl).trans rfl) ?_
      refine Go.next (f' := (20, [some (.int x1)], [])) (w' := fr_w) ((ex_stp (ins := .if_icmp .lt 13) rfl).trans (ex_b2_t (c := .lt) (off := 13) (pc := 7) (lo := [some (.int x1)]) (x := x1) (y := 10) (r := []) (by rw [c2_lt]; exact decide_eq_true (by show x1.toInt < (10 : Int); omega)) (by decide))) ?_
      refine Go.next (f' := (21, [some (.int x1)], [.int 0])) (w' := fr_w) ((ex_stp (ins := .iconst 0) rfl).trans rfl) ?_
      exact Go.ret ((ex_stp (ins := .ireturn) rfl).trans rfl)
    refine Go.call (d := 38) (cal := 118) (as := [.int x1]) (g := (4, [some (.ref 0), some (.int x1)], [])) (M' := mt_118) (r := some (.int 0)) (w' := fr_w) ((ex_stp (ins := .invokestatic 173) rfl).trans rfl) rfl (Nat.le_of_ble_eq_true rfl) h_94 ?_
    show Go [] 39 mt_49 (4, [some (.ref 0), some (.int x1)], [.int 0]) fr_w _
    refine Go.next (f' := (7, [some (.ref 0), some (.int x1)], [])) (w' := fr_w) ((ex_stp (ins := .ifCond .ne 5) rfl).trans rfl) ?_
    refine Go.next (f' := (8, [some (.ref 0), some (.int x1)], [.int (-1)])) (w' := fr_w) ((ex_stp (ins := .iconst (-1)) rfl).trans rfl) ?_
    exact Go.ret ((ex_stp (ins := .ireturn) rfl).trans rfl)
  · show Go [] 39 mt_50 (0, [some (.ref 59), some (.int x1)], []) fr_w _
    refine Go.next (f' := (1, [some (.ref 59), some (.int x1)], [.int x1])) (w' := fr_w) ((ex_stp (ins := .iload_n 1) rfl).trans rfl) ?_
    have h_95 : Go [] 38 mt_122 (ex_ent mt_122 [.int x1]) fr_w (some (.int 0), fr_w) := by
      show Go [] 38 mt_122 (0, [some (.int x1)], []) fr_w _
      refine Go.next (f' := (1, [some (.int x1)], [.int x1])) (w' := fr_w) ((ex_stp (ins := .iload_n 0) rfl).trans rfl) ?_
      refine Go.next (f' := (4, [some (.int x1)], [])) (w' := fr_w) ((ex_stp (ins := .ifCond .eq 17) rfl).trans (ex_b0_f (c := .eq) (off := 17) (pc := 1) (lo := [some (.int x1)]) (x := x1) (r := []) (by rw [c0_eq]; exact decide_eq_false (by show ¬ (x1.toInt = (0 : Int)); omega)) (by decide))) ?_
      refine Go.next (f' := (5, [some (.int x1)], [.int x1])) (w' := fr_w) ((ex_stp (ins := .iload_n 0) rfl).trans rfl) ?_
      refine Go.next (f' := (6, [some (.int x1)], [.long (x1).toInt64])) (w' := fr_w) ((ex_stp (ins := .i2l) rfl).trans rfl) ?_
      refine Go.next (f' := (9, [some (.int x1)], [.long 10, .long (x1).toInt64])) (w' := fr_w) ((ex_stp (ins := .ldc2_w 231) rfl).trans rfl) ?_
      refine Go.next (f' := (12, [some (.int x1)], [.long 14, .long 10, .long (x1).toInt64])) (w' := fr_w) ((ex_stp (ins := .ldc2_w 233) rfl).trans rfl) ?_
      have h_96 : Go [] 37 mt_93 (ex_ent mt_93 [.long (x1).toInt64, .long 10, .long 14]) fr_w (some (.int 0), fr_w) := by
        show Go [] 37 mt_93 (0, [some (.long (x1).toInt64), none, some (.long 10), none, some (.long 14), none], []) fr_w _
        refine Go.next (f' := (1, [some (.long (x1).toInt64), none, some (.long 10), none, some (.long 14), none], [.long (x1).toInt64])) (w' := fr_w) ((ex_stp (ins := .lload_n 0) rfl).trans rfl) ?_
        refine Go.next (f' := (2, [some (.long (x1).toInt64), none, some (.long 10), none, some (.long 14), none], [.long 10, .long (x1).toInt64])) (w' := fr_w) ((ex_stp (ins := .lload_n 2) rfl).trans rfl) ?_
        refine Go.next (f' := (3, [some (.long (x1).toInt64), none, some (.long 10), none, some (.long 14), none], [.int (lg_cmp (x1).toInt64 10)])) (w' := fr_w) ((ex_stp (ins := .lcmp) rfl).trans rfl) ?_
        refine Go.next (f' := (17, [some (.long (x1).toInt64), none, some (.long 10), none, some (.long 14), none], [])) (w' := fr_w) ((ex_stp (ins := .ifCond .lt 14) rfl).trans (ex_b0_t (c := .lt) (off := 14) (pc := 3) (lo := [some (.long (x1).toInt64), none, some (.long 10), none, some (.long 14), none]) (x := (lg_cmp (x1).toInt64 10)) (r := []) (by rw [cl_lt]; exact decide_eq_true (by first | (rw [Int32.toInt_toInt64]; show x1.toInt < (10 : Int); omega) | omega)) (by decide))) ?_
        refine Go.next (f' := (18, [some (.long (x1).toInt64), none, some (.long 10), none, some (.long 14), none], [.int 0])) (w' := fr_w) ((ex_stp (ins := .iconst 0) rfl).trans rfl) ?_
        exact Go.ret ((ex_stp (ins := .ireturn) rfl).trans rfl)
      refine Go.call (d := 37) (cal := 93) (as := [.long (x1).toInt64, .long 10, .long 14]) (g := (15, [some (.int x1)], [])) (M' := mt_93) (r := some (.int 0)) (w' := fr_w) ((ex_stp (ins := .invokestatic 95) rfl).trans rfl) rfl (Nat.le_of_ble_eq_true rfl) h_96 ?_
      show Go [] 38 mt_122 (15, [some (.int x1)], [.int 0]) fr_w _
      refine Go.next (f' := (22, [some (.int x1)], [])) (w' := fr_w) ((ex_stp (ins := .ifCond .eq 7) rfl).trans rfl) ?_
      refine Go.next (f' := (23, [some (.int x1)], [.int 0])) (w' := fr_w) ((ex_stp (ins := .iconst 0) rfl).trans rfl) ?_
      exact Go.ret ((ex_stp (ins := .ireturn) rfl).trans rfl)
    refine Go.call (d := 38) (cal := 122) (as := [.int x1]) (g := (4, [some (.ref 59), some (.int x1)], [])) (M' := mt_122) (r := some (.int 0)) (w' := fr_w) ((ex_stp (ins := .invokestatic 235) rfl).trans rfl) rfl (Nat.le_of_ble_eq_true rfl) h_95 ?_
    show Go [] 39 mt_50 (4, [some (.ref 59), some (.int x1)], [.int 0]) fr_w _
    refine Go.next (f' := (7, [some (.ref 59), some (.int x1)], [])) (w' := fr_w) ((ex_stp (ins := .ifCond .ne 5) rfl).trans rfl) ?_
    refine Go.next (f' := (8, [some (.ref 59), some (.int x1)], [.int (-1)])) (w' := fr_w) ((ex_stp (ins := .iconst (-1)) rfl).trans rfl) ?_
    exact Go.ret ((ex_stp (ins := .ireturn) rfl).trans rfl)
set_option maxRecDepth 100000 in
theorem ao_23_c (x1 : Int32) (g0 : 14 < x1.toInt) : A2 mt_49 mt_50 [.int x1] := by
  refine ⟨(-1), fr_w, fr_w, _, ?_, rfl, ?_⟩
  · show Go [] 39 mt_49 (0, [some (.ref 0), some (.int x1)], []) fr_w _
    refine Go.next (f' := (1, [some (.ref 0), some (.int x1)], [.int x1])) (w' := fr_w) ((ex_stp (ins := .iload_n 1) rfl).trans rfl) ?_
    have h_97 : Go [] 38 mt_118 (ex_ent mt_118 [.int x1]) fr_w (some (.int 0), fr_w) := by
      show Go [] 38 mt_118 (0, [some (.int x1)], []) fr_w _
      refine Go.next (f' := (1, [some (.int x1)], [.int x1])) (w' := fr_w) ((ex_stp (ins := .iload_n 0) rfl).trans rfl) ?_
      refine Go.next (f' := (4, [some (.int x1)], [])) (w' := fr_w) ((ex_stp (ins := .ifCond .eq 15) rfl).trans (ex_b0_f (c := .eq) (off := 15) (pc := 1) (lo := [some (.int x1)]) (x := x1) (r := []) (by rw [c0_eq]; exact decide_eq_false (by show ¬ (x1.toInt = (0 : Int)); omega)) (by decide))) ?_
      refine Go.next (f' := (5, [some (.int x1)], [.int x1])) (w' := fr_w) ((ex_stp (ins := .iload_n 0) rfl).trans rfl) ?_
      refine Go.next (f' := (7, [some (.int x1)], [.int 10, .int x1])) (w' := fr_w) ((ex_stp (ins := .bipush 10) rfl).trans rfl) ?_
      refine Go.next (f' := (10, [some (.int x1)], [])) (w' := fr_w) ((ex_stp (ins := .if_icmp .lt 13) rfl).trans (ex_b2_f (c := .lt) (off := 13) (pc := 7) (lo := [some (.int x1)]) (x := x1) (y := 10) (r := []) (by rw [c2_lt]; exact decide_eq_false (by show ¬ (x1.toInt < (10 : Int)); omega)) (by decide))) ?_
      refine Go.next (f' := (11, [some (.int x1)], [.int x1])) (w' := fr_w) ((ex_stp (ins := .iload_n 0) rfl).trans rfl) ?_
      refine Go.next (f' := (13, [some (.int x1)], [.int 15, .int x1])) (w' := fr_w) ((ex_stp (ins := .bipush 15) rfl).trans rfl) ?_
      refine Go.next (f' := (20, [some (.int x1)], [])) (w' := fr_w) ((ex_stp (ins := .if_icmp .ge 7) rfl).trans (ex_b2_t (c := .ge) (off := 7) (pc := 13) (lo := [some (.int x1)]) (x := x1) (y := 15) (r := []) (by rw [c2_ge]; exact decide_eq_true (by show (15 : Int) ≤ x1.toInt; omega)) (by decide))) ?_
      refine Go.next (f' := (21, [some (.int x1)], [.int 0])) (w' := fr_w) ((ex_stp (ins := .iconst 0) rfl).trans rfl) ?_
      exact Go.ret ((ex_stp (ins := .ireturn) rfl).trans rfl)
    refine Go.call (d := 38) (cal := 118) (as := [.int x1]) (g := (4, [some (.ref 0), some (.int x1)], [])) (M' := mt_118) (r := some (.int 0)) (w' := fr_w) ((ex_stp (ins := .invokestatic 173) rfl).trans rfl) rfl (Nat.le_of_ble_eq_true rfl) h_97 ?_
    show Go [] 39 mt_49 (4, [some (.ref 0), some (.int x1)], [.int 0]) fr_w _
    refine Go.next (f' := (7, [some (.ref 0), some (.int x1)], [])) (w' := fr_w) ((ex_stp (ins := .ifCond .ne 5) rfl).trans rfl) ?_
    refine Go.next (f' := (8, [some (.ref 0), some (.int x1)], [.int (-1)])) (w' := fr_w) ((ex_stp (ins := .iconst (-1)) rfl).trans rfl) ?_
    exact Go.ret ((ex_stp (ins := .ireturn) rfl).trans rfl)
  · show Go [] 39 mt_50 (0, [some (.ref 59), some (.int x1)], []) fr_w _
    refine Go.next (f' := (1, [some (.ref 59), some (.int x1)], [.int x1])) (w' := fr_w) ((ex_stp (ins := .iload_n 1) rfl).trans rfl) ?_
    have h_98 : Go [] 38 mt_122 (ex_ent mt_122 [.int x1]) fr_w (some (.int 0), fr_w) := by
      show Go [] 38 mt_122 (0, [some (.int x1)], []) fr_w _
      refine Go.next (f' := (1, [some (.int x1)], [.int x1])) (w' := fr_w) ((ex_stp (ins := .iload_n 0) rfl).trans rfl) ?_
      refine Go.next (f' := (4, [some (.int x1)], [])) (w' := fr_w) ((ex_stp (ins := .ifCond .eq 17) rfl).trans (ex_b0_f (c := .eq) (off := 17) (pc := 1) (lo := [some (.int x1)]) (x := x1) (r := []) (by rw [c0_eq]; exact decide_eq_false (by show ¬ (x1.toInt = (0 : Int)); omega)) (by decide))) ?_
      refine Go.next (f' := (5, [some (.int x1)], [.int x1])) (w' := fr_w) ((ex_stp (ins := .iload_n 0) rfl).trans rfl) ?_
      refine Go.next (f' := (6, [some (.int x1)], [.long (x1).toInt64])) (w' := fr_w) ((ex_stp (ins := .i2l) rfl).trans rfl) ?_
      refine Go.next (f' := (9, [some (.int x1)], [.long 10, .long (x1).toInt64])) (w' := fr_w) ((ex_stp (ins := .ldc2_w 231) rfl).trans rfl) ?_
      refine Go.next (f' := (12, [some (.int x1)], [.long 14, .long 10, .long (x1).toInt64])) (w' := fr_w) ((ex_stp (ins := .ldc2_w 233) rfl).trans rfl) ?_
      have h_99 : Go [] 37 mt_93 (ex_ent mt_93 [.long (x1).toInt64, .long 10, .long 14]) fr_w (some (.int 0), fr_w) := by
        show Go [] 37 mt_93 (0, [some (.long (x1).toInt64), none, some (.long 10), none, some (.long 14), none], []) fr_w _
        refine Go.next (f' := (1, [some (.long (x1).toInt64), none, some (.long 10), none, some (.long 14), none], [.long (x1).toInt64])) (w' := fr_w) ((ex_stp (ins := .lload_n 0) rfl).trans rfl) ?_
        refine Go.next (f' := (2, [some (.long (x1).toInt64), none, some (.long 10), none, some (.long 14), none], [.long 10, .long (x1).toInt64])) (w' := fr_w) ((ex_stp (ins := .lload_n 2) rfl).trans rfl) ?_
        refine Go.next (f' := (3, [some (.long (x1).toInt64), none, some (.long 10), none, some (.long 14), none], [.int (lg_cmp (x1).toInt64 10)])) (w' := fr_w) ((ex_stp (ins := .lcmp) rfl).trans rfl) ?_
        refine Go.next (f' := (6, [some (.long (x1).toInt64), none, some (.long 10), none, some (.long 14), none], [])) (w' := fr_w) ((ex_stp (ins := .ifCond .lt 14) rfl).trans (ex_b0_f (c := .lt) (off := 14) (pc := 3) (lo := [some (.long (x1).toInt64), none, some (.long 10), none, some (.long 14), none]) (x := (lg_cmp (x1).toInt64 10)) (r := []) (by rw [cl_lt]; exact decide_eq_false (by first | (rw [Int32.toInt_toInt64]; show ¬ (x1.toInt < (10 : Int)); omega) | omega)) (by decide))) ?_
        refine Go.next (f' := (7, [some (.long (x1).toInt64), none, some (.long 10), none, some (.long 14), none], [.long (x1).toInt64])) (w' := fr_w) ((ex_stp (ins := .lload_n 0) rfl).trans rfl) ?_
        refine Go.next (f' := (9, [some (.long (x1).toInt64), none, some (.long 10), none, some (.long 14), none], [.long 14, .long (x1).toInt64])) (w' := fr_w) ((ex_stp (ins := .lload 4) rfl).trans rfl) ?_
        refine Go.next (f' := (10, [some (.long (x1).toInt64), none, some (.long 10), none, some (.long 14), none], [.int (lg_cmp (x1).toInt64 14)])) (w' := fr_w) ((ex_stp (ins := .lcmp) rfl).trans rfl) ?_
        refine Go.next (f' := (17, [some (.long (x1).toInt64), none, some (.long 10), none, some (.long 14), none], [])) (w' := fr_w) ((ex_stp (ins := .ifCond .gt 7) rfl).trans (ex_b0_t (c := .gt) (off := 7) (pc := 10) (lo := [some (.long (x1).toInt64), none, some (.long 10), none, some (.long 14), none]) (x := (lg_cmp (x1).toInt64 14)) (r := []) (by rw [cl_gt]; exact decide_eq_true (by first | (rw [Int32.toInt_toInt64]; show (14 : Int) < x1.toInt; omega) | omega)) (by decide))) ?_
        refine Go.next (f' := (18, [some (.long (x1).toInt64), none, some (.long 10), none, some (.long 14), none], [.int 0])) (w' := fr_w) ((ex_stp (ins := .iconst 0) rfl).trans rfl) ?_
        exact Go.ret ((ex_stp (ins := .ireturn) rfl).trans rfl)
      refine Go.call (d := 37) (cal := 93) (as := [.long (x1).toInt64, .long 10, .long 14]) (g := (15, [some (.int x1)], [])) (M' := mt_93) (r := some (.int 0)) (w' := fr_w) ((ex_stp (ins := .invokestatic 95) rfl).trans rfl) rfl (Nat.le_of_ble_eq_true rfl) h_99 ?_
      show Go [] 38 mt_122 (15, [some (.int x1)], [.int 0]) fr_w _
      refine Go.next (f' := (22, [some (.int x1)], [])) (w' := fr_w) ((ex_stp (ins := .ifCond .eq 7) rfl).trans rfl) ?_
      refine Go.next (f' := (23, [some (.int x1)], [.int 0])) (w' := fr_w) ((ex_stp (ins := .iconst 0) rfl).trans rfl) ?_
      exact Go.ret ((ex_stp (ins := .ireturn) rfl).trans rfl)
    refine Go.call (d := 38) (cal := 122) (as := [.int x1]) (g := (4, [some (.ref 59), some (.int x1)], [])) (M' := mt_122) (r := some (.int 0)) (w' := fr_w) ((ex_stp (ins := .invokestatic 235) rfl).trans rfl) rfl (Nat.le_of_ble_eq_true rfl) h_98 ?_
    show Go [] 39 mt_50 (4, [some (.ref 59), some (.int x1)], [.int 0]) fr_w _
    refine Go.next (f' := (7, [some (.ref 59), some (.int x1)], [])) (w' := fr_w) ((ex_stp (ins := .ifCond .ne 5) rfl).trans rfl) ?_
    refine Go.next (f' := (8, [some (.ref 59), some (.int x1)], [.int (-1)])) (w' := fr_w) ((ex_stp (ins := .iconst (-1)) rfl).trans rfl) ?_
    exact Go.ret ((ex_stp (ins := .ireturn) rfl).trans rfl)
set_option maxRecDepth 100000 in
theorem ao_24_a (x1 : Int32) (g0 : x1.toInt < 0) : A2 mt_51 mt_52 [.int x1] := by
  refine ⟨(-1), fr_w, fr_w, _, ?_, rfl, ?_⟩
  · show Go [] 39 mt_51 (0, [some (.ref 0), some (.int x1)], []) fr_w _
    refine Go.next (f' := (1, [some (.ref 0), some (.int x1)], [.int x1])) (w' := fr_w) ((ex_stp (ins := .iload_n 1) rfl).trans rfl) ?_
    have h_100 : Go [] 38 mt_118 (ex_ent mt_118 [.int x1]) fr_w (some (.int 0), fr_w) := by
      show Go [] 38 mt_118 (0, [some (.int x1)], []) fr_w _
      refine Go.next (f' := (1, [some (.int x1)], [.int x1])) (w' := fr_w) ((ex_stp (ins := .iload_n 0) rfl).trans rfl) ?_
      refine Go.next (f' := (4, [some (.int x1)], [])) (w' := fr_w) ((ex_stp (ins := .ifCond .eq 15) rfl).trans (ex_b0_f (c := .eq) (off := 15) (pc := 1) (lo := [some (.int x1)]) (x := x1) (r := []) (by rw [c0_eq]; exact decide_eq_false (by show ¬ (x1.toInt = (0 : Int)); omega)) (by decide))) ?_
      refine Go.next (f' := (5, [some (.int x1)], [.int x1])) (w' := fr_w) ((ex_stp (ins := .iload_n 0) rfl).trans rfl) ?_
      refine Go.next (f' := (7, [some (.int x1)], [.int 10, .int x1])) (w' := fr_w) ((ex_stp (ins := .bipush 10) rfl).trans rfl) ?_
      refine Go.next (f' := (20, [some (.int x1)], [])) (w' := fr_w) ((ex_stp (ins := .if_icmp .lt 13) rfl).trans (ex_b2_t (c := .lt) (off := 13) (pc := 7) (lo := [some (.int x1)]) (x := x1) (y := 10) (r := []) (by rw [c2_lt]; exact decide_eq_true (by show x1.toInt < (10 : Int); omega)) (by decide))) ?_
      refine Go.next (f' := (21, [some (.int x1)], [.int 0])) (w' := fr_w) ((ex_stp (ins := .iconst 0) rfl).trans rfl) ?_
      exact Go.ret ((ex_stp (ins := .ireturn) rfl).trans rfl)
    refine Go.call (d := 38) (cal := 118) (as := [.int x1]) (g := (4, [some (.ref 0), some (.int x1)], [])) (M' := mt_118) (r := some (.int 0)) (w' := fr_w) ((ex_stp (ins := .invokestatic 173) rfl).trans rfl) rfl (Nat.le_of_ble_eq_true rfl) h_100 ?_
    show Go [] 39 mt_51 (4, [some (.ref 0), some (.int x1)], [.int 0]) fr_w _
    refine Go.next (f' := (7, [some (.ref 0), some (.int x1)], [])) (w' := fr_w) ((ex_stp (ins := .ifCond .ne 5) rfl).trans rfl) ?_
    refine Go.next (f' := (8, [some (.ref 0), some (.int x1)], [.int (-1)])) (w' := fr_w) ((ex_stp (ins := .iconst (-1)) rfl).trans rfl) ?_
    exact Go.ret ((ex_stp (ins := .ireturn) rfl).trans rfl)
  · show Go [] 39 mt_52 (0, [some (.ref 59), some (.int x1)], []) fr_w _
    refine Go.next (f' := (1, [some (.ref 59), some (.int x1)], [.int x1])) (w' := fr_w) ((ex_stp (ins := .iload_n 1) rfl).trans rfl) ?_
    have h_101 : Go [] 38 mt_122 (ex_ent mt_122 [.int x1]) fr_w (some (.int 0), fr_w) := by
      show Go [] 38 mt_122 (0, [some (.int x1)], []) fr_w _
      refine Go.next (f' := (1, [some (.int x1)], [.int x1])) (w' := fr_w) ((ex_stp (ins := .iload_n 0) rfl).trans rfl) ?_
      refine Go.next (f' := (4, [some (.int x1)], [])) (w' := fr_w) ((ex_stp (ins := .ifCond .eq 17) rfl).trans (ex_b0_f (c := .eq) (off := 17) (pc := 1) (lo := [some (.int x1)]) (x := x1) (r := []) (by rw [c0_eq]; exact decide_eq_false (by show ¬ (x1.toInt = (0 : Int)); omega)) (by decide))) ?_
      refine Go.next (f' := (5, [some (.int x1)], [.int x1])) (w' := fr_w) ((ex_stp (ins := .iload_n 0) rfl).trans rfl) ?_
      refine Go.next (f' := (6, [some (.int x1)], [.long (x1).toInt64])) (w' := fr_w) ((ex_stp (ins := .i2l) rfl).trans rfl) ?_
      refine Go.next (f' := (9, [some (.int x1)], [.long 10, .long (x1).toInt64])) (w' := fr_w) ((ex_stp (ins := .ldc2_w 231) rfl).trans rfl) ?_
      refine Go.next (f' := (12, [some (.int x1)], [.long 14, .long 10, .long (x1).toInt64])) (w' := fr_w) ((ex_stp (ins := .ldc2_w 233) rfl).trans rfl) ?_
      have h_102 : Go [] 37 mt_93 (ex_ent mt_93 [.long (x1).toInt64, .long 10, .long 14]) fr_w (some (.int 0), fr_w) := by
        show Go [] 37 mt_93 (0, [some (.long (x1).toInt64), none, some (.long 10), none, some (.long 14), none], []) fr_w _
        refine Go.next (f' := (1, [some (.long (x1).toInt64), none, some (.long 10), none, some (.long 14), none], [.long (x1).toInt64])) (w' := fr_w) ((ex_stp (ins := .lload_n 0) rfl).trans rfl) ?_
        refine Go.next (f' := (2, [some (.long (x1).toInt64), none, some (.long 10), none, some (.long 14), none], [.long 10, .long (x1).toInt64])) (w' := fr_w) ((ex_stp (ins := .lload_n 2) rfl).trans rfl) ?_
        refine Go.next (f' := (3, [some (.long (x1).toInt64), none, some (.long 10), none, some (.long 14), none], [.int (lg_cmp (x1).toInt64 10)])) (w' := fr_w) ((ex_stp (ins := .lcmp) rfl).trans rfl) ?_
        refine Go.next (f' := (17, [some (.long (x1).toInt64), none, some (.long 10), none, some (.long 14), none], [])) (w' := fr_w) ((ex_stp (ins := .ifCond .lt 14) rfl).trans (ex_b0_t (c := .lt) (off := 14) (pc := 3) (lo := [some (.long (x1).toInt64), none, some (.long 10), none, some (.long 14), none]) (x := (lg_cmp (x1).toInt64 10)) (r := []) (by rw [cl_lt]; exact decide_eq_true (by first | (rw [Int32.toInt_toInt64]; show x1.toInt < (10 : Int); omega) | omega)) (by decide))) ?_
        refine Go.next (f' := (18, [some (.long (x1).toInt64), none, some (.long 10), none, some (.long 14), none], [.int 0])) (w' := fr_w) ((ex_stp (ins := .iconst 0) rfl).trans rfl) ?_
        exact Go.ret ((ex_stp (ins := .ireturn) rfl).trans rfl)
      refine Go.call (d := 37) (cal := 93) (as := [.long (x1).toInt64, .long 10, .long 14]) (g := (15, [some (.int x1)], [])) (M' := mt_93) (r := some (.int 0)) (w' := fr_w) ((ex_stp (ins := .invokestatic 95) rfl).trans rfl) rfl (Nat.le_of_ble_eq_true rfl) h_102 ?_
      show Go [] 38 mt_122 (15, [some (.int x1)], [.int 0]) fr_w _
      refine Go.next (f' := (22, [some (.int x1)], [])) (w' := fr_w) ((ex_stp (ins := .ifCond .eq 7) rfl).trans rfl) ?_
      refine Go.next (f' := (23, [some (.int x1)], [.int 0])) (w' := fr_w) ((ex_stp (ins := .iconst 0) rfl).trans rfl) ?_
      exact Go.ret ((ex_stp (ins := .ireturn) rfl).trans rfl)
    refine Go.call (d := 38) (cal := 122) (as := [.int x1]) (g := (4, [some (.ref 59), some (.int x1)], [])) (M' := mt_122) (r := some (.int 0)) (w' := fr_w) ((ex_stp (ins := .invokestatic 235) rfl).trans rfl) rfl (Nat.le_of_ble_eq_true rfl) h_101 ?_
    show Go [] 39 mt_52 (4, [some (.ref 59), some (.int x1)], [.int 0]) fr_w _
    refine Go.next (f' := (7, [some (.ref 59), some (.int x1)], [])) (w' := fr_w) ((ex_stp (ins := .ifCond .ne 5) rfl).trans rfl) ?_
    refine Go.next (f' := (8, [some (.ref 59), some (.int x1)], [.int (-1)])) (w' := fr_w) ((ex_stp (ins := .iconst (-1)) rfl).trans rfl) ?_
    exact Go.ret ((ex_stp (ins := .ireturn) rfl).trans rfl)
set_option maxRecDepth 100000 in
theorem ao_24_b (x1 : Int32) (g0 : 0 < x1.toInt) (g1 : x1.toInt < 10) : A2 mt_51 mt_52 [.int x1] := by
  refine ⟨(-1), fr_w, fr_w, _, ?_, rfl, ?_⟩
  · show Go [] 39 mt_51 (0, [some (.ref 0), some (.int x1)], []) fr_w _
    refine Go.next (f' := (1, [some (.ref 0), some (.int x1)], [.int x1])) (w' := fr_w) ((ex_stp (ins := .iload_n 1) rfl).trans rfl) ?_
    have h_103 : Go [] 38 mt_118 (ex_ent mt_118 [.int x1]) fr_w (some (.int 0), fr_w) := by
      show Go [] 38 mt_118 (0, [some (.int x1)], []) fr_w _
      refine Go.next (f' := (1, [some (.int x1)], [.int x1])) (w' := fr_w) ((ex_stp (ins := .iload_n 0) rfl).trans rfl) ?_
      refine Go.next (f' := (4, [some (.int x1)], [])) (w' := fr_w) ((ex_stp (ins := .ifCond .eq 15) rfl).trans (ex_b0_f (c := .eq) (off := 15) (pc := 1) (lo := [some (.int x1)]) (x := x1) (r := []) (by rw [c0_eq]; exact decide_eq_false (by show ¬ (x1.toInt = (0 : Int)); omega)) (by decide))) ?_
      refine Go.next (f' := (5, [some (.int x1)], [.int x1])) (w' := fr_w) ((ex_stp (ins := .iload_n 0) rfl).trans rfl) ?_
      refine Go.next (f' := (7, [some (.int x1)], [.int 10, .int x1])) (w' := fr_w) ((ex_stp (ins := .bipush 10) rfl).trans rfl) ?_
      refine Go.next (f' := (20, [some (.int x1)], [])) (w' := fr_w) ((ex_stp (ins := .if_icmp .lt 13) rfl).trans (ex_b2_t (c := .lt) (off := 13) (pc := 7) (lo := [some (.int x1)]) (x := x1) (y := 10) (r := []) (by rw [c2_lt]; exact decide_eq_true (by show x1.toInt < (10 : Int); omega)) (by decide))) ?_
      refine Go.next (f' := (21, [some (.int x1)], [.int 0])) (w' := fr_w) ((ex_stp (ins := .iconst 0) rfl).trans rfl) ?_
      exact Go.ret ((ex_stp (ins := .ireturn) rfl).trans rfl)
    refine Go.call (d := 38) (cal := 118) (as := [.int x1]) (g := (4, [some (.ref 0), some (.int x1)], [])) (M' := mt_118) (r := some (.int 0)) (w' := fr_w) ((ex_stp (ins := .invokestatic 173) rfl).trans rfl) rfl (Nat.le_of_ble_eq_true rfl) h_103 ?_
    show Go [] 39 mt_51 (4, [some (.ref 0), some (.int x1)], [.int 0]) fr_w _
    refine Go.next (f' := (7, [some (.ref 0), some (.int x1)], [])) (w' := fr_w) ((ex_stp (ins := .ifCond .ne 5) rfl).trans rfl) ?_
    refine Go.next (f' := (8, [some (.ref 0), some (.int x1)], [.int (-1)])) (w' := fr_w) ((ex_stp (ins := .iconst (-1)) rfl).trans rfl) ?_
    exact Go.ret ((ex_stp (ins := .ireturn) rfl).trans rfl)
  · show Go [] 39 mt_52 (0, [some (.ref 59), some (.int x1)], []) fr_w _
    refine Go.next (f' := (1, [some (.ref 59), some (.int x1)], [.int x1])) (w' := fr_w) ((ex_stp (ins := .iload_n 1) rfl).trans rfl) ?_
    have h_104 : Go [] 38 mt_122 (ex_ent mt_122 [.int x1]) fr_w (some (.int 0), fr_w) := by
      show Go [] 38 mt_122 (0, [some (.int x1)], []) fr_w _
      refine Go.next (f' := (1, [some (.int x1)], [.int x1])) (w' := fr_w) ((ex_stp (ins := .iload_n 0) rfl).trans rfl) ?_
      refine Go.next (f' := (4, [some (.int x1)], [])) (w' := fr_w) ((ex_stp (ins := .ifCond .eq 17) rfl).trans (ex_b0_f (c := .eq) (off := 17) (pc := 1) (lo := [some (.int x1)]) (x := x1) (r := []) (by rw [c0_eq]; exact decide_eq_false (by show ¬ (x1.toInt = (0 : Int)); omega)) (by decide))) ?_
      refine Go.next (f' := (5, [some (.int x1)], [.int x1])) (w' := fr_w) ((ex_stp (ins := .iload_n 0) rfl).trans rfl) ?_
      refine Go.next (f' := (6, [some (.int x1)], [.long (x1).toInt64])) (w' := fr_w) ((ex_stp (ins := .i2l) rfl).trans rfl) ?_
      refine Go.next (f' := (9, [some (.int x1)], [.long 10, .long (x1).toInt64])) (w' := fr_w) ((ex_stp (ins := .ldc2_w 231) rfl).trans rfl) ?_
      refine Go.next (f' := (12, [some (.int x1)], [.long 14, .long 10, .long (x1).toInt64])) (w' := fr_w) ((ex_stp (ins := .ldc2_w 233) rfl).trans rfl) ?_
      have h_105 : Go [] 37 mt_93 (ex_ent mt_93 [.long (x1).toInt64, .long 10, .long 14]) fr_w (some (.int 0), fr_w) := by
        show Go [] 37 mt_93 (0, [some (.long (x1).toInt64), none, some (.long 10), none, some (.long 14), none], []) fr_w _
        refine Go.next (f' := (1, [some (.long (x1).toInt64), none, some (.long 10), none, some (.long 14), none], [.long (x1).toInt64])) (w' := fr_w) ((ex_stp (ins := .lload_n 0) rfl).trans rfl) ?_
        refine Go.next (f' := (2, [some (.long (x1).toInt64), none, some (.long 10), none, some (.long 14), none], [.long 10, .long (x1).toInt64])) (w' := fr_w) ((ex_stp (ins := .lload_n 2) rfl).trans rfl) ?_
        refine Go.next (f' := (3, [some (.long (x1).toInt64), none, some (.long 10), none, some (.long 14), none], [.int (lg_cmp (x1).toInt64 10)])) (w' := fr_w) ((ex_stp (ins := .lcmp) rfl).trans rfl) ?_
        refine Go.next (f' := (17, [some (.long (x1).toInt64), none, some (.long 10), none, some (.long 14), none], [])) (w' := fr_w) ((ex_stp (ins := .ifCond .lt 14) rfl).trans (ex_b0_t (c := .lt) (off := 14) (pc := 3) (lo := [some (.long (x1).toInt64), none, some (.long 10), none, some (.long 14), none]) (x := (lg_cmp (x1).toInt64 10)) (r := []) (by rw [cl_lt]; exact decide_eq_true (by first | (rw [Int32.toInt_toInt64]; show x1.toInt < (10 : Int); omega) | omega)) (by decide))) ?_
        refine Go.next (f' := (18, [some (.long (x1).toInt64), none, some (.long 10), none, some (.long 14), none], [.int 0])) (w' := fr_w) ((ex_stp (ins := .iconst 0) rfl).trans rfl) ?_
        exact Go.ret ((ex_stp (ins := .ireturn) rfl).trans rfl)
      refine Go.call (d := 37) (cal := 93) (as := [.long (x1).toInt64, .long 10, .long 14]) (g := (15, [some (.int x1)], [])) (M' := mt_93) (r := some (.int 0)) (w' := fr_w) ((ex_stp (ins := .invokestatic 95) rfl).trans rfl) rfl (Nat.le_of_ble_eq_true rfl) h_105 ?_
      show Go [] 38 mt_122 (15, [some (.int x1)], [.int 0]) fr_w _
      refine Go.next (f' := (22, [some (.int x1)], [])) (w' := fr_w) ((ex_stp (ins := .ifCond .eq 7) rfl).trans rfl) ?_
      refine Go.next (f' := (23, [some (.int x1)], [.int 0])) (w' := fr_w) ((ex_stp (ins := .iconst 0) rfl).trans rfl) ?_
      exact Go.ret ((ex_stp (ins := .ireturn) rfl).trans rfl)
    refine Go.call (d := 38) (cal := 122) (as := [.int x1]) (g := (4, [some (.ref 59), some (.int x1)], [])) (M' := mt_122) (r := some (.int 0)) (w' := fr_w) ((ex_stp (ins := .invokestatic 235) rfl).trans rfl) rfl (Nat.le_of_ble_eq_true rfl) h_104 ?_
    show Go [] 39 mt_52 (4, [some (.ref 59), some (.int x1)], [.int 0]) fr_w _
    refine Go.next (f' := (7, [some (.ref 59), some (.int x1)], [])) (w' := fr_w) ((ex_stp (ins := .ifCond .ne 5) rfl).trans rfl) ?_
    refine Go.next (f' := (8, [some (.ref 59), some (.int x1)], [.int (-1)])) (w' := fr_w) ((ex_stp (ins := .iconst (-1)) rfl).trans rfl) ?_
    exact Go.ret ((ex_stp (ins := .ireturn) rfl).trans rfl)
set_option maxRecDepth 100000 in
theorem ao_24_c (x1 : Int32) (g0 : 14 < x1.toInt) : A2 mt_51 mt_52 [.int x1] := by
  refine ⟨(-1), fr_w, fr_w, _, ?_, rfl, ?_⟩
  · show Go [] 39 mt_51 (0, [some (.ref 0), some (.int x1)], []) fr_w _
    refine Go.next (f' := (1, [some (.ref 0), some (.int x1)], [.int x1])) (w' := fr_w) ((ex_stp (ins := .iload_n 1) rfl).trans rfl) ?_
    have h_106 : Go [] 38 mt_118 (ex_ent mt_118 [.int x1]) fr_w (some (.int 0), fr_w) := by
      show Go [] 38 mt_118 (0, [some (.int x1)], []) fr_w _
      refine Go.next (f' := (1, [some (.int x1)], [.int x1])) (w' := fr_w) ((ex_stp (ins := .iload_n 0) rfl).trans rfl) ?_
      refine Go.next (f' := (4, [some (.int x1)], [])) (w' := fr_w) ((ex_stp (ins := .ifCond .eq 15) rfl).trans (ex_b0_f (c := .eq) (off := 15) (pc := 1) (lo := [some (.int x1)]) (x := x1) (r := []) (by rw [c0_eq]; exact decide_eq_false (by show ¬ (x1.toInt = (0 : Int)); omega)) (by decide))) ?_
      refine Go.next (f' := (5, [some (.int x1)], [.int x1])) (w' := fr_w) ((ex_stp (ins := .iload_n 0) rfl).trans rfl) ?_
      refine Go.next (f' := (7, [some (.int x1)], [.int 10, .int x1])) (w' := fr_w) ((ex_stp (ins := .bipush 10) rfl).trans rfl) ?_
      refine Go.next (f' := (10, [some (.int x1)], [])) (w' := fr_w) ((ex_stp (ins := .if_icmp .lt 13) rfl).trans (ex_b2_f (c := .lt) (off := 13) (pc := 7) (lo := [some (.int x1)]) (x := x1) (y := 10) (r := []) (by rw [c2_lt]; exact decide_eq_false (by show ¬ (x1.toInt < (10 : Int)); omega)) (by decide))) ?_
      refine Go.next (f' := (11, [some (.int x1)], [.int x1])) (w' := fr_w) ((ex_stp (ins := .iload_n 0) rfl).trans rfl) ?_
      refine Go.next (f' := (13, [some (.int x1)], [.int 15, .int x1])) (w' := fr_w) ((ex_stp (ins := .bipush 15) rfl).trans rfl) ?_
      refine Go.next (f' := (20, [some (.int x1)], [])) (w' := fr_w) ((ex_stp (ins := .if_icmp .ge 7) rfl).trans (ex_b2_t (c := .ge) (off := 7) (pc := 13) (lo := [some (.int x1)]) (x := x1) (y := 15) (r := []) (by rw [c2_ge]; exact decide_eq_true (by show (15 : Int) ≤ x1.toInt; omega)) (by decide))) ?_
      refine Go.next (f' := (21, [some (.int x1)], [.int 0])) (w' := fr_w) ((ex_stp (ins := .iconst 0) rfl).trans rfl) ?_
      exact Go.ret ((ex_stp (ins := .ireturn) rfl).trans rfl)
    refine Go.call (d := 38) (cal := 118) (as := [.int x1]) (g := (4, [some (.ref 0), some (.int x1)], [])) (M' := mt_118) (r := some (.int 0)) (w' := fr_w) ((ex_stp (ins := .invokestatic 173) rfl).trans rfl) rfl (Nat.le_of_ble_eq_true rfl) h_106 ?_
    show Go [] 39 mt_51 (4, [some (.ref 0), some (.int x1)], [.int 0]) fr_w _
    refine Go.next (f' := (7, [some (.ref 0), some (.int x1)], [])) (w' := fr_w) ((ex_stp (ins := .ifCond .ne 5) rfl).trans rfl) ?_
    refine Go.next (f' := (8, [some (.ref 0), some (.int x1)], [.int (-1)])) (w' := fr_w) ((ex_stp (ins := .iconst (-1)) rfl).trans rfl) ?_
    exact Go.ret ((ex_stp (ins := .ireturn) rfl).trans rfl)
  · show Go [] 39 mt_52 (0, [some (.ref 59), some (.int x1)], []) fr_w _
    refine Go.next (f' := (1, [some (.ref 59), some (.int x1)], [.int x1])) (w' := fr_w) ((ex_stp (ins := .iload_n 1) rfl).trans rfl) ?_
    have h_107 : Go [] 38 mt_122 (ex_ent mt_122 [.int x1]) fr_w (some (.int 0), fr_w) := by
      show Go [] 38 mt_122 (0, [some (.int x1)], []) fr_w _
      refine Go.next (f' := (1, [some (.int x1)], [.int x1])) (w' := fr_w) ((ex_stp (ins := .iload_n 0) rfl).trans rfl) ?_
      refine Go.next (f' := (4, [some (.int x1)], [])) (w' := fr_w) ((ex_stp (ins := .ifCond .eq 17) rfl).trans (ex_b0_f (c := .eq) (off := 17) (pc := 1) (lo := [some (.int x1)]) (x := x1) (r := []) (by rw [c0_eq]; exact decide_eq_false (by show ¬ (x1.toInt = (0 : Int)); omega)) (by decide))) ?_
      refine Go.next (f' := (5, [some (.int x1)], [.int x1])) (w' := fr_w) ((ex_stp (ins := .iload_n 0) rfl).trans rfl) ?_
      refine Go.next (f' := (6, [some (.int x1)], [.long (x1).toInt64])) (w' := fr_w) ((ex_stp (ins := .i2l) rfl).trans rfl) ?_
      refine Go.next (f' := (9, [some (.int x1)], [.long 10, .long (x1).toInt64])) (w' := fr_w) ((ex_stp (ins := .ldc2_w 231) rfl).trans rfl) ?_
      refine Go.next (f' := (12, [some (.int x1)], [.long 14, .long 10, .long (x1).toInt64])) (w' := fr_w) ((ex_stp (ins := .ldc2_w 233) rfl).trans rfl) ?_
      have h_108 : Go [] 37 mt_93 (ex_ent mt_93 [.long (x1).toInt64, .long 10, .long 14]) fr_w (some (.int 0), fr_w) := by
        show Go [] 37 mt_93 (0, [some (.long (x1).toInt64), none, some (.long 10), none, some (.long 14), none], []) fr_w _
        refine Go.next (f' := (1, [some (.long (x1).toInt64), none, some (.long 10), none, some (.long 14), none], [.long (x1).toInt64])) (w' := fr_w) ((ex_stp (ins := .lload_n 0) rfl).trans rfl) ?_
        refine Go.next (f' := (2, [some (.long (x1).toInt64), none, some (.long 10), none, some (.long 14), none], [.long 10, .long (x1).toInt64])) (w' := fr_w) ((ex_stp (ins := .lload_n 2) rfl).trans rfl) ?_
        refine Go.next (f' := (3, [some (.long (x1).toInt64), none, some (.long 10), none, some (.long 14), none], [.int (lg_cmp (x1).toInt64 10)])) (w' := fr_w) ((ex_stp (ins := .lcmp) rfl).trans rfl) ?_
        refine Go.next (f' := (6, [some (.long (x1).toInt64), none, some (.long 10), none, some (.long 14), none], [])) (w' := fr_w) ((ex_stp (ins := .ifCond .lt 14) rfl).trans (ex_b0_f (c := .lt) (off := 14) (pc := 3) (lo := [some (.long (x1).toInt64), none, some (.long 10), none, some (.long 14), none]) (x := (lg_cmp (x1).toInt64 10)) (r := []) (by rw [cl_lt]; exact decide_eq_false (by first | (rw [Int32.toInt_toInt64]; show ¬ (x1.toInt < (10 : Int)); omega) | omega)) (by decide))) ?_
        refine Go.next (f' := (7, [some (.long (x1).toInt64), none, some (.long 10), none, some (.long 14), none], [.long (x1).toInt64])) (w' := fr_w) ((ex_stp (ins := .lload_n 0) rfl).trans rfl) ?_
        refine Go.next (f' := (9, [some (.long (x1).toInt64), none, some (.long 10), none, some (.long 14), none], [.long 14, .long (x1).toInt64])) (w' := fr_w) ((ex_stp (ins := .lload 4) rfl).trans rfl) ?_
        refine Go.next (f' := (10, [some (.long (x1).toInt64), none, some (.long 10), none, some (.long 14), none], [.int (lg_cmp (x1).toInt64 14)])) (w' := fr_w) ((ex_stp (ins := .lcmp) rfl).trans rfl) ?_
        refine Go.next (f' := (17, [some (.long (x1).toInt64), none, some (.long 10), none, some (.long 14), none], [])) (w' := fr_w) ((ex_stp (ins := .ifCond .gt 7) rfl).trans (ex_b0_t (c := .gt) (off := 7) (pc := 10) (lo := [some (.long (x1).toInt64), none, some (.long 10), none, some (.long 14), none]) (x := (lg_cmp (x1).toInt64 14)) (r := []) (by rw [cl_gt]; exact decide_eq_true (by first | (rw [Int32.toInt_toInt64]; show (14 : Int) < x1.toInt; omega) | omega)) (by decide))) ?_
        refine Go.next (f' := (18, [some (.long (x1).toInt64), none, some (.long 10), none, some (.long 14), none], [.int 0])) (w' := fr_w) ((ex_stp (ins := .iconst 0) rfl).trans rfl) ?_
        exact Go.ret ((ex_stp (ins := .ireturn) rfl).trans rfl)
      refine Go.call (d := 37) (cal := 93) (as := [.long (x1).toInt64, .long 10, .long 14]) (g := (15, [some (.int x1)], [])) (M' := mt_93) (r := some (.int 0)) (w' := fr_w) ((ex_stp (ins := .invokestatic 95) rfl).trans rfl) rfl (Nat.le_of_ble_eq_true rfl) h_108 ?_
      show Go [] 38 mt_122 (15, [some (.int x1)], [.int 0]) fr_w _
      refine Go.next (f' := (22, [some (.int x1)], [])) (w' := fr_w) ((ex_stp (ins := .ifCond .eq 7) rfl).trans rfl) ?_
      refine Go.next (f' := (23, [some (.int x1)], [.int 0])) (w' := fr_w) ((ex_stp (ins := .iconst 0) rfl).trans rfl) ?_
      exact Go.ret ((ex_stp (ins := .ireturn) rfl).trans rfl)
    refine Go.call (d := 38) (cal := 122) (as := [.int x1]) (g := (4, [some (.ref 59), some (.int x1)], [])) (M' := mt_122) (r := some (.int 0)) (w' := fr_w) ((ex_stp (ins := .invokestatic 235) rfl).trans rfl) rfl (Nat.le_of_ble_eq_true rfl) h_107 ?_
    show Go [] 39 mt_52 (4, [some (.ref 59), some (.int x1)], [.int 0]) fr_w _
    refine Go.next (f' := (7, [some (.ref 59), some (.int x1)], [])) (w' := fr_w) ((ex_stp (ins := .ifCond .ne 5) rfl).trans rfl) ?_
    refine Go.next (f' := (8, [some (.ref 59), some (.int x1)], [.int (-1)])) (w' := fr_w) ((ex_stp (ins := .iconst (-1)) rfl).trans rfl) ?_
    exact Go.ret ((ex_stp (ins := .ireturn) rfl).trans rfl)
set_option maxRecDepth 100000 in
theorem ao_25_a (x1 x2 : Int32) (g0 : x1.toInt < 1) : A2 mt_53 mt_54 [.int x1, .int x2] := by
  refine ⟨(-1), fr_w, fr_w, _, ?_, rfl, ?_⟩
  · show Go [] 39 mt_53 (0, [some (.ref 0), some (.int x1), some (.int x2), none, none, none, none, none], []) fr_w _
    refine Go.next (f' := (1, [some (.ref 0), some (.int x1), some (.int x2), none, none, none, none, none], [.int x1])) (w' := fr_w) ((ex_stp (ins := .iload_n 1) rfl).trans rfl) ?_
    refine Go.next (f' := (2, [some (.ref 0), some (.int x1), some (.int x2), none, none, none, none, none], [.int 1, .int x1])) (w' := fr_w) ((ex_stp (ins := .iconst 1) rfl).trans rfl) ?_
    refine Go.next (f' := (19, [some (.ref 0), some (.int x1), some (.int x2), none, none, none, none, none], [])) (w' := fr_w) ((ex_stp (ins := .if_icmp .lt 17) rfl).trans (ex_b2_t (c := .lt) (off := 17) (pc := 2) (lo := [some (.ref 0), some (.int x1), some (.int x2), none, none, none, none, none]) (x := x1) (y := 1) (r := []) (by rw [c2_lt]; exact decide_eq_true (by show x1.toInt < (1 : Int); omega)) (by decide))) ?_
    refine Go.next (f' := (20, [some (.ref 0), some (.int x1), some (.int x2), none, none, none, none, none], [.int (-1)])) (w' := fr_w) ((ex_stp (ins := .iconst (-1)) rfl).trans rfl) ?_
    exact Go.ret ((ex_stp (ins := .ireturn) rfl).trans rfl)
  · show Go [] 39 mt_54 (0, [some (.ref 59), some (.int x1), some (.int x2), none, none, none, none, none, none, none], []) fr_w _
    refine Go.next (f' := (1, [some (.ref 59), some (.int x1), some (.int x2), none, none, none, none, none, none, none], [.int x1])) (w' := fr_w) ((ex_stp (ins := .iload_n 1) rfl).trans rfl) ?_
    refine Go.next (f' := (2, [some (.ref 59), some (.int x1), some (.int x2), none, none, none, none, none, none, none], [.long (x1).toInt64])) (w' := fr_w) ((ex_stp (ins := .i2l) rfl).trans rfl) ?_
    refine Go.next (f' := (3, [some (.ref 59), some (.int x1), some (.int x2), none, none, none, none, none, none, none], [.long 1, .long (x1).toInt64])) (w' := fr_w) ((ex_stp (ins := .lconst 1) rfl).trans rfl) ?_
    refine Go.next (f' := (6, [some (.ref 59), some (.int x1), some (.int x2), none, none, none, none, none, none, none], [.long 3, .long 1, .long (x1).toInt64])) (w' := fr_w) ((ex_stp (ins := .ldc2_w 250) rfl).trans rfl) ?_
    have h_109 : Go [] 38 mt_93 (ex_ent mt_93 [.long (x1).toInt64, .long 1, .long 3]) fr_w (some (.int 0), fr_w) := by
      show Go [] 38 mt_93 (0, [some (.long (x1).toInt64), none, some (.long 1), none, some (.long 3), none], []) fr_w _
      refine Go.next (f' := (1, [some (.long (x1).toInt64), none, some (.long 1), none, some (.long 3), none], [.long (x1).toInt64])) (w' := fr_w) ((ex_stp (ins := .lload_n 0) rfl).trans rfl) ?_
      refine Go.next (f' := (2, [some (.long (x1).toInt64), none, some (.long 1), none, some (.long 3), none], [.long 1, .long (x1).toInt64])) (w' := fr_w) ((ex_stp (ins := .lload_n 2) rfl).trans rfl) ?_
      refine Go.next (f' := (3, [some (.long (x1).toInt64), none, some (.long 1), none, some (.long 3), none], [.int (lg_cmp (x1).toInt64 1)])) (w' := fr_w) ((ex_stp (ins := .lcmp) rfl).trans rfl) ?_
      refine Go.next (f' := (17, [some (.long (x1).toInt64), none, some (.long 1), none, some (.long 3), none], [])) (w' := fr_w) ((ex_stp (ins := .ifCond .lt 14) rfl).trans (ex_b0_t (c := .lt) (off := 14) (pc := 3) (lo := [some (.long (x1).toInt64), none, some (.long 1), none, some (.long 3), none]) (x := (lg_cmp (x1).toInt64 1)) (r := []) (by rw [cl_lt]; exact decide_eq_true (by first | (rw [Int32.toInt_toInt64]; show x1.toInt < (1 : Int); omega) | omega)) (by decide))) ?_
      refine Go.next (f' := (18, [some (.long (x1).toInt64), none, some (.long 1), none, some (.long 3), none], [.int 0])) (w' := fr_w) ((ex_stp (ins := .iconst 0) rfl).trans rfl) ?_
      exact Go.ret ((ex_stp (ins := .ireturn) rfl).trans rfl)
    refine Go.call (d := 38) (cal := 93) (as := [.long (x1).toInt64, .long 1, .long 3]) (g := (9, [some (.ref 59), some (.int x1), some (.int x2), none, none, none, none, none, none, none], [])) (M' := mt_93) (r := some (.int 0)) (w' := fr_w) ((ex_stp (ins := .invokestatic 95) rfl).trans rfl) rfl (Nat.le_of_ble_eq_true rfl) h_109 ?_
    show Go [] 39 mt_54 (9, [some (.ref 59), some (.int x1), some (.int x2), none, none, none, none, none, none, none], [.int 0]) fr_w _
    refine Go.next (f' := (22, [some (.ref 59), some (.int x1), some (.int x2), none, none, none, none, none, none, none], [])) (w' := fr_w) ((ex_stp (ins := .ifCond .eq 13) rfl).trans rfl) ?_
    refine Go.next (f' := (23, [some (.ref 59), some (.int x1), some (.int x2), none, none, none, none, none, none, none], [.int (-1)])) (w' := fr_w) ((ex_stp (ins := .iconst (-1)) rfl).trans rfl) ?_
    exact Go.ret ((ex_stp (ins := .ireturn) rfl).trans rfl)
set_option maxRecDepth 100000 in
theorem ao_25_b (x1 x2 : Int32) (g0 : 3 < x1.toInt) : A2 mt_53 mt_54 [.int x1, .int x2] := by
  refine ⟨(-1), fr_w, fr_w, _, ?_, rfl, ?_⟩
  · show Go [] 39 mt_53 (0, [some (.ref 0), some (.int x1), some (.int x2), none, none, none, none, none], []) fr_w _
    refine Go.next (f' := (1, [some (.ref 0), some (.int x1), some (.int x2), none, none, none, none, none], [.int x1])) (w' := fr_w) ((ex_stp (ins := .iload_n 1) rfl).trans rfl) ?_
    refine Go.next (f' := (2, [some (.ref 0), some (.int x1), some (.int x2), none, none, none, none, none], [.int 1, .int x1])) (w' := fr_w) ((ex_stp (ins := .iconst 1) rfl).trans rfl) ?_
    refine Go.next (f' := (5, [some (.ref 0), some (.int x1), some (.int x2), none, none, none, none, none], [])) (w' := fr_w) ((ex_stp (ins := .if_icmp .lt 17) rfl).trans (ex_b2_f (c := .lt) (off := 17) (pc := 2) (lo := [some (.ref 0), some (.int x1), some (.int x2), none, none, none, none, none]) (x := x1) (y := 1) (r := []) (by rw [c2_lt]; exact decide_eq_false (by show ¬ (x1.toInt < (1 : Int)); omega)) (by decide))) ?_
    refine Go.next (f' := (6, [some (.ref 0), some (.int x1), some (.int x2), none, none, none, none, none], [.int x1])) (w' := fr_w) ((ex_stp (ins := .iload_n 1) rfl).trans rfl) ?_
    refine Go.next (f' := (7, [some (.ref 0), some (.int x1), some (.int x2), none, none, none, none, none], [.int 3, .int x1])) (w' := fr_w) ((ex_stp (ins := .iconst 3) rfl).trans rfl) ?_
    refine Go.next (f' := (19, [some (.ref 0), some (.int x1), some (.int x2), none, none, none, none, none], [])) (w' := fr_w) ((ex_stp (ins := .if_icmp .gt 12) rfl).trans (ex_b2_t (c := .gt) (off := 12) (pc := 7) (lo := [some (.ref 0), some (.int x1), some (.int x2), none, none, none, none, none]) (x := x1) (y := 3) (r := []) (by rw [c2_gt]; exact decide_eq_true (by show (3 : Int) < x1.toInt; omega)) (by decide))) ?_
    refine Go.next (f' := (20, [some (.ref 0), some (.int x1), some (.int x2), none, none, none, none, none], [.int (-1)])) (w' := fr_w) ((ex_stp (ins := .iconst (-1)) rfl).trans rfl) ?_
    exact Go.ret ((ex_stp (ins := .ireturn) rfl).trans rfl)
  · show Go [] 39 mt_54 (0, [some (.ref 59), some (.int x1), some (.int x2), none, none, none, none, none, none, none], []) fr_w _
    refine Go.next (f' := (1, [some (.ref 59), some (.int x1), some (.int x2), none, none, none, none, none, none, none], [.int x1])) (w' := fr_w) ((ex_stp (ins := .iload_n 1) rfl).trans rfl) ?_
    refine Go.next (f' := (2, [some (.ref 59), some (.int x1), some (.int x2), none, none, none, none, none, none, none], [.long (x1).toInt64])) (w' := fr_w) ((ex_stp (ins := .i2l) rfl).trans rfl) ?_
    refine Go.next (f' := (3, [some (.ref 59), some (.int x1), some (.int x2), none, none, none, none, none, none, none], [.long 1, .long (x1).toInt64])) (w' := fr_w) ((ex_stp (ins := .lconst 1) rfl).trans rfl) ?_
    refine Go.next (f' := (6, [some (.ref 59), some (.int x1), some (.int x2), none, none, none, none, none, none, none], [.long 3, .long 1, .long (x1).toInt64])) (w' := fr_w) ((ex_stp (ins := .ldc2_w 250) rfl).trans rfl) ?_
    have h_110 : Go [] 38 mt_93 (ex_ent mt_93 [.long (x1).toInt64, .long 1, .long 3]) fr_w (some (.int 0), fr_w) := by
      show Go [] 38 mt_93 (0, [some (.long (x1).toInt64), none, some (.long 1), none, some (.long 3), none], []) fr_w _
      refine Go.next (f' := (1, [some (.long (x1).toInt64), none, some (.long 1), none, some (.long 3), none], [.long (x1).toInt64])) (w' := fr_w) ((ex_stp (ins := .lload_n 0) rfl).trans rfl) ?_
      refine Go.next (f' := (2, [some (.long (x1).toInt64), none, some (.long 1), none, some (.long 3), none], [.long 1, .long (x1).toInt64])) (w' := fr_w) ((ex_stp (ins := .lload_n 2) rfl).trans rfl) ?_
      refine Go.next (f' := (3, [some (.long (x1).toInt64), none, some (.long 1), none, some (.long 3), none], [.int (lg_cmp (x1).toInt64 1)])) (w' := fr_w) ((ex_stp (ins := .lcmp) rfl).trans rfl) ?_
      refine Go.next (f' := (6, [some (.long (x1).toInt64), none, some (.long 1), none, some (.long 3), none], [])) (w' := fr_w) ((ex_stp (ins := .ifCond .lt 14) rfl).trans (ex_b0_f (c := .lt) (off := 14) (pc := 3) (lo := [some (.long (x1).toInt64), none, some (.long 1), none, some (.long 3), none]) (x := (lg_cmp (x1).toInt64 1)) (r := []) (by rw [cl_lt]; exact decide_eq_false (by first | (rw [Int32.toInt_toInt64]; show ¬ (x1.toInt < (1 : Int)); omega) | omega)) (by decide))) ?_
      refine Go.next (f' := (7, [some (.long (x1).toInt64), none, some (.long 1), none, some (.long 3), none], [.long (x1).toInt64])) (w' := fr_w) ((ex_stp (ins := .lload_n 0) rfl).trans rfl) ?_
      refine Go.next (f' := (9, [some (.long (x1).toInt64), none, some (.long 1), none, some (.long 3), none], [.long 3, .long (x1).toInt64])) (w' := fr_w) ((ex_stp (ins := .lload 4) rfl).trans rfl) ?_
      refine Go.next (f' := (10, [some (.long (x1).toInt64), none, some (.long 1), none, some (.long 3), none], [.int (lg_cmp (x1).toInt64 3)])) (w' := fr_w) ((ex_stp (ins := .lcmp) rfl).trans rfl) ?_
      refine Go.next (f' := (17, [some (.long (x1).toInt64), none, some (.long 1), none, some (.long 3), none], [])) (w' := fr_w) ((ex_stp (ins := .ifCond .gt 7) rfl).trans (ex_b0_t (c := .gt) (off := 7) (pc := 10) (lo := [some (.long (x1).toInt64), none, some (.long 1), none, some (.long 3), none]) (x := (lg_cmp (x1).toInt64 3)) (r := []) (by rw [cl_gt]; exact decide_eq_true (by first | (rw [Int32.toInt_toInt64]; show (3 : Int) < x1.toInt; omega) | omega)) (by decide))) ?_
      refine Go.next (f' := (18, [some (.long (x1).toInt64), none, some (.long 1), none, some (.long 3), none], [.int 0])) (w' := fr_w) ((ex_stp (ins := .iconst 0) rfl).trans rfl) ?_
      exact Go.ret ((ex_stp (ins := .ireturn) rfl).trans rfl)
    refine Go.call (d := 38) (cal := 93) (as := [.long (x1).toInt64, .long 1, .long 3]) (g := (9, [some (.ref 59), some (.int x1), some (.int x2), none, none, none, none, none, none, none], [])) (M' := mt_93) (r := some (.int 0)) (w' := fr_w) ((ex_stp (ins := .invokestatic 95) rfl).trans rfl) rfl (Nat.le_of_ble_eq_true rfl) h_110 ?_
    show Go [] 39 mt_54 (9, [some (.ref 59), some (.int x1), some (.int x2), none, none, none, none, none, none, none], [.int 0]) fr_w _
    refine Go.next (f' := (22, [some (.ref 59), some (.int x1), some (.int x2), none, none, none, none, none, none, none], [])) (w' := fr_w) ((ex_stp (ins := .ifCond .eq 13) rfl).trans rfl) ?_
    refine Go.next (f' := (23, [some (.ref 59), some (.int x1), some (.int x2), none, none, none, none, none, none, none], [.int (-1)])) (w' := fr_w) ((ex_stp (ins := .iconst (-1)) rfl).trans rfl) ?_
    exact Go.ret ((ex_stp (ins := .ireturn) rfl).trans rfl)
set_option maxRecDepth 100000 in
theorem ao_25_c (x1 x2 : Int32) (g0 : 1 ≤ x1.toInt) (g1 : x1.toInt ≤ 3) (g2 : x2.toInt < 0) : A2 mt_53 mt_54 [.int x1, .int x2] := by
  refine ⟨(-1), fr_w, fr_w, _, ?_, rfl, ?_⟩
  · show Go [] 39 mt_53 (0, [some (.ref 0), some (.int x1), some (.int x2), none, none, none, none, none], []) fr_w _
    refine Go.next (f' := (1, [some (.ref 0), some (.int x1), some (.int x2), none, none, none, none, none], [.int x1])) (w' := fr_w) ((ex_stp (ins := .iload_n 1) rfl).trans rfl) ?_
    refine Go.next (f' := (2, [some (.ref 0), some (.int x1), some (.int x2), none, none, none, none, none], [.int 1, .int x1])) (w' := fr_w) ((ex_stp (ins := .iconst 1) rfl).trans rfl) ?_
    refine Go.next (f' := (5, [some (.ref 0), some (.int x1), some (.int x2), none, none, none, none, none], [])) (w' := fr_w) ((ex_stp (ins := .if_icmp .lt 17) rfl).trans (ex_b2_f (c := .lt) (off := 17) (pc := 2) (lo := [some (.ref 0), some (.int x1), some (.int x2), none, none, none, none, none]) (x := x1) (y := 1) (r := []) (by rw [c2_lt]; exact decide_eq_false (by show ¬ (x1.toInt < (1 : Int)); omega)) (by decide))) ?_
    refine Go.next (f' := (6, [some (.ref 0), some (.int x1), some (.int x2), none, none, none, none, none], [.int x1])) (w' := fr_w) ((ex_stp (ins := .iload_n 1) rfl).trans rfl) ?_
    refine Go.next (f' := (7, [some (.ref 0), some (.int x1), some (.int x2), none, none, none, none, none], [.int 3, .int x1])) (w' := fr_w) ((ex_stp (ins := .iconst 3) rfl).trans rfl) ?_
    refine Go.next (f' := (10, [some (.ref 0), some (.int x1), some (.int x2), none, none, none, none, none], [])) (w' := fr_w) ((ex_stp (ins := .if_icmp .gt 12) rfl).trans (ex_b2_f (c := .gt) (off := 12) (pc := 7) (lo := [some (.ref 0), some (.int x1), some (.int x2), none, none, none, none, none]) (x := x1) (y := 3) (r := []) (by rw [c2_gt]; exact decide_eq_false (by show ¬ ((3 : Int) < x1.toInt); omega)) (by decide))) ?_
    refine Go.next (f' := (11, [some (.ref 0), some (.int x1), some (.int x2), none, none, none, none, none], [.int x2])) (w' := fr_w) ((ex_stp (ins := .iload_n 2) rfl).trans rfl) ?_
    refine Go.next (f' := (19, [some (.ref 0), some (.int x1), some (.int x2), none, none, none, none, none], [])) (w' := fr_w) ((ex_stp (ins := .ifCond .lt 8) rfl).trans (ex_b0_t (c := .lt) (off := 8) (pc := 11) (lo := [some (.ref 0), some (.int x1), some (.int x2), none, none, none, none, none]) (x := x2) (r := []) (by rw [c0_lt]; exact decide_eq_true (by show x2.toInt < (0 : Int); omega)) (by decide))) ?_
    refine Go.next (f' := (20, [some (.ref 0), some (.int x1), some (.int x2), none, none, none, none, none], [.int (-1)])) (w' := fr_w) ((ex_stp (ins := .iconst (-1)) rfl).trans rfl) ?_
    exact Go.ret ((ex_stp (ins := .ireturn) rfl).trans rfl)
  · show Go [] 39 mt_54 (0, [some (.ref 59), some (.int x1), some (.int x2), none, none, none, none, none, none, none], []) fr_w _
    refine Go.next (f' := (1, [some (.ref 59), some (.int x1), some (.int x2), none, none, none, none, none, none, none], [.int x1])) (w' := fr_w) ((ex_stp (ins := .iload_n 1) rfl).trans rfl) ?_
    refine Go.next (f' := (2, [some (.ref 59), some (.int x1), some (.int x2), none, none, none, none, none, none, none], [.long (x1).toInt64])) (w' := fr_w) ((ex_stp (ins := .i2l) rfl).trans rfl) ?_
    refine Go.next (f' := (3, [some (.ref 59), some (.int x1), some (.int x2), none, none, none, none, none, none, none], [.long 1, .long (x1).toInt64])) (w' := fr_w) ((ex_stp (ins := .lconst 1) rfl).trans rfl) ?_
    refine Go.next (f' := (6, [some (.ref 59), some (.int x1), some (.int x2), none, none, none, none, none, none, none], [.long 3, .long 1, .long (x1).toInt64])) (w' := fr_w) ((ex_stp (ins := .ldc2_w 250) rfl).trans rfl) ?_
    have h_111 : Go [] 38 mt_93 (ex_ent mt_93 [.long (x1).toInt64, .long 1, .long 3]) fr_w (some (.int 1), fr_w) := by
      show Go [] 38 mt_93 (0, [some (.long (x1).toInt64), none, some (.long 1), none, some (.long 3), none], []) fr_w _
      refine Go.next (f' := (1, [some (.long (x1).toInt64), none, some (.long 1), none, some (.long 3), none], [.long (x1).toInt64])) (w' := fr_w) ((ex_stp (ins := .lload_n 0) rfl).trans rfl) ?_
      refine Go.next (f' := (2, [some (.long (x1).toInt64), none, some (.long 1), none, some (.long 3), none], [.long 1, .long (x1).toInt64])) (w' := fr_w) ((ex_stp (ins := .lload_n 2) rfl).trans rfl) ?_
      refine Go.next (f' := (3, [some (.long (x1).toInt64), none, some (.long 1), none, some (.long 3), none], [.int (lg_cmp (x1).toInt64 1)])) (w' := fr_w) ((ex_stp (ins := .lcmp) rfl).trans rfl) ?_
      refine Go.next (f' := (6, [some (.long (x1).toInt64), none, some (.long 1), none, some (.long 3), none], [])) (w' := fr_w) ((ex_stp (ins := .ifCond .lt 14) rfl).trans (ex_b0_f (c := .lt) (off := 14) (pc := 3) (lo := [some (.long (x1).toInt64), none, some (.long 1), none, some (.long 3), none]) (x := (lg_cmp (x1).toInt64 1)) (r := []) (by rw [cl_lt]; exact decide_eq_false (by first | (rw [Int32.toInt_toInt64]; show ¬ (x1.toInt < (1 : Int)); omega) | omega)) (by decide))) ?_
      refine Go.next (f' := (7, [some (.long (x1).toInt64), none, some (.long 1), none, some (.long 3), none], [.long (x1).toInt64])) (w' := fr_w) ((ex_stp (ins := .lload_n 0) rfl).trans rfl) ?_
      refine Go.next (f' := (9, [some (.long (x1).toInt64), none, some (.long 1), none, some (.long 3), none], [.long 3, .long (x1).toInt64])) (w' := fr_w) ((ex_stp (ins := .lload 4) rfl).trans rfl) ?_
      refine Go.next (f' := (10, [some (.long (x1).toInt64), none, some (.long 1), none, some (.long 3), none], [.int (lg_cmp (x1).toInt64 3)])) (w' := fr_w) ((ex_stp (ins := .lcmp) rfl).trans rfl) ?_
      refine Go.next (f' := (13, [some (.long (x1).toInt64), none, some (.long 1), none, some (.long 3), none], [])) (w' := fr_w) ((ex_stp (ins := .ifCond .gt 7) rfl).trans (ex_b0_f (c := .gt) (off := 7) (pc := 10) (lo := [some (.long (x1).toInt64), none, some (.long 1), none, some (.long 3), none]) (x := (lg_cmp (x1).toInt64 3)) (r := []) (by rw [cl_gt]; exact decide_eq_false (by first | (rw [Int32.toInt_toInt64]; show ¬ ((3 : Int) < x1.toInt); omega) | omega)) (by decide))) ?_
      refine Go.next (f' := (14, [some (.long (x1).toInt64), none, some (.long 1), none, some (.long 3), none], [.int 1])) (w' := fr_w) ((ex_stp (ins := .iconst 1) rfl).trans rfl) ?_
      refine Go.next (f' := (18, [some (.long (x1).toInt64), none, some (.long 1), none, some (.long 3), none], [.int 1])) (w' := fr_w) ((ex_stp (ins := .goto 4) rfl).trans rfl) ?_
      exact Go.ret ((ex_stp (ins := .ireturn) rfl).trans rfl)
    refine Go.call (d := 38) (cal := 93) (as := [.long (x1).toInt64, .long 1, .long 3]) (g := (9, [some (.ref 59), some (.int x1), some (.int x2), none, none, none, none, none, none, none], [])) (M' := mt_93) (r := some (.int 1)) (w' := fr_w) ((ex_stp (ins := .invokestatic 95) rfl).trans rfl) rfl (Nat.le_of_ble_eq_true rfl) h_111 ?_
    show Go [] 39 mt_54 (9, [some (.ref 59), some (.int x1), some (.int x2), none, none, none, none, none, none, none], [.int 1]) fr_w _
    refine Go.next (f' := (12, [some (.ref 59), some (.int x1), some (.int x2), none, none, none, none, none, none, none], [])) (w' := fr_w) ((ex_stp (ins := .ifCond .eq 13) rfl).trans rfl) ?_
    refine Go.next (f' := (13, [some (.ref 59), some (.int x1), some (.int x2), none, none, none, none, none, none, none], [.int x2])) (w' := fr_w) ((ex_stp (ins := .iload_n 2) rfl).trans rfl) ?_
    refine Go.next (f' := (14, [some (.ref 59), some (.int x1), some (.int x2), none, none, none, none, none, none, none], [.long (x2).toInt64])) (w' := fr_w) ((ex_stp (ins := .i2l) rfl).trans rfl) ?_
    refine Go.next (f' := (15, [some (.ref 59), some (.int x1), some (.int x2), none, none, none, none, none, none, none], [.long 0, .long (x2).toInt64])) (w' := fr_w) ((ex_stp (ins := .lconst 0) rfl).trans rfl) ?_
    refine Go.next (f' := (16, [some (.ref 59), some (.int x1), some (.int x2), none, none, none, none, none, none, none], [.long 1, .long 0, .long (x2).toInt64])) (w' := fr_w) ((ex_stp (ins := .lconst 1) rfl).trans rfl) ?_
    have h_112 : Go [] 38 mt_93 (ex_ent mt_93 [.long (x2).toInt64, .long 0, .long 1]) fr_w (some (.int 0), fr_w) := by
      show Go [] 38 mt_93 (0, [some (.long (x2).toInt64), none, some (.long 0), none, some (.long 1), none], []) fr_w _
      refine Go.next (f' := (1, [some (.long (x2).toInt64), none, some (.long 0), none, some (.long 1), none], [.long (x2).toInt64])) (w' := fr_w) ((ex_stp (ins := .lload_n 0) rfl).trans rfl) ?_
      refine Go.next (f' := (2, [some (.long (x2).toInt64), none, some (.long 0), none, some (.long 1), none], [.long 0, .long (x2).toInt64])) (w' := fr_w) ((ex_stp (ins := .lload_n 2) rfl).trans rfl) ?_
      refine Go.next (f' := (3, [some (.long (x2).toInt64), none, some (.long 0), none, some (.long 1), none], [.int (lg_cmp (x2).toInt64 0)])) (w' := fr_w) ((ex_stp (ins := .lcmp) rfl).trans rfl) ?_
      refine Go.next (f' := (17, [some (.long (x2).toInt64), none, some (.long 0), none, some (.long 1), none], [])) (w' := fr_w) ((ex_stp (ins := .ifCond .lt 14) rfl).trans (ex_b0_t (c := .lt) (off := 14) (pc := 3) (lo := [some (.long (x2).toInt64), none, some (.long 0), none, some (.long 1), none]) (x := (lg_cmp (x2).toInt64 0)) (r := []) (by rw [cl_lt]; exact decide_eq_true (by first | (rw [Int32.toInt_toInt64]; show x2.toInt < (0 : Int); omega) | omega)) (by decide))) ?_
      refine Go.next (f' := (18, [some (.long (x2).toInt64), none, some (.long 0), none, some (.long 1), none], [.int 0])) (w' := fr_w) ((ex_stp (ins := .iconst 0) rfl).trans rfl) ?_
      exact Go.ret ((ex_stp (ins := .ireturn) rfl).trans rfl)
    refine Go.call (d := 38) (cal := 93) (as := [.long (x2).toInt64, .long 0, .long 1]) (g := (19, [some (.ref 59), some (.int x1), some (.int x2), none, none, none, none, none, none, none], [])) (M' := mt_93) (r := some (.int 0)) (w' := fr_w) ((ex_stp (ins := .invokestatic 95) rfl).trans rfl) rfl (Nat.le_of_ble_eq_true rfl) h_112 ?_
    show Go [] 39 mt_54 (19, [some (.ref 59), some (.int x1), some (.int x2), none, none, none, none, none, none, none], [.int 0]) fr_w _
    refine Go.next (f' := (22, [some (.ref 59), some (.int x1), some (.int x2), none, none, none, none, none, none, none], [])) (w' := fr_w) ((ex_stp (ins := .ifCond .ne 5) rfl).trans rfl) ?_
    refine Go.next (f' := (23, [some (.ref 59), some (.int x1), some (.int x2), none, none, none, none, none, none, none], [.int (-1)])) (w' := fr_w) ((ex_stp (ins := .iconst (-1)) rfl).trans rfl) ?_
    exact Go.ret ((ex_stp (ins := .ireturn) rfl).trans rfl)
set_option maxRecDepth 100000 in
theorem ao_25_d (x1 x2 : Int32) (g0 : 1 ≤ x1.toInt) (g1 : x1.toInt ≤ 3) (g2 : 1 < x2.toInt) : A2 mt_53 mt_54 [.int x1, .int x2] := by
  refine ⟨(-1), fr_w, fr_w, _, ?_, rfl, ?_⟩
  · show Go [] 39 mt_53 (0, [some (.ref 0), some (.int x1), some (.int x2), none, none, none, none, none], []) fr_w _
    refine Go.next (f' := (1, [some (.ref 0), some (.int x1), some (.int x2), none, none, none, none, none], [.int x1])) (w' := fr_w) ((ex_stp (ins := .iload_n 1) rfl).trans rfl) ?_
    refine Go.next (f' := (2, [some (.ref 0), some (.int x1), some (.int x2), none, none, none, none, none], [.int 1, .int x1])) (w' := fr_w) ((ex_stp (ins := .iconst 1) rfl).trans rfl) ?_
    refine Go.next (f' := (5, [some (.ref 0), some (.int x1), some (.int x2), none, none, none, none, none], [])) (w' := fr_w) ((ex_stp (ins := .if_icmp .lt 17) rfl).trans (ex_b2_f (c := .lt) (off := 17) (pc := 2) (lo := [some (.ref 0), some (.int x1), some (.int x2), none, none, none, none, none]) (x := x1) (y := 1) (r := []) (by rw [c2_lt]; exact decide_eq_false (by show ¬ (x1.toInt < (1 : Int)); omega)) (by decide))) ?_
    refine Go.next (f' := (6, [some (.ref 0), some (.int x1), some (.int x2), none, none, none, none, none], [.int x1])) (w' := fr_w) ((ex_stp (ins := .iload_n 1) rfl).trans rfl) ?_
    refine Go.next (f' := (7, [some (.ref 0), some (.int x1), some (.int x2), none, none, none, none, none], [.int 3, .int x1])) (w' := fr_w) ((ex_stp (ins := .iconst 3) rfl).trans rfl) ?_
    refine Go.next (f' := (10, [some (.ref 0), some (.int x1), some (.int x2), none, none, none, none, none], [])) (w' := fr_w) ((ex_stp (ins := .if_icmp .gt 12) rfl).trans (ex_b2_f (c := .gt) (off := 12) (pc := 7) (lo := [some (.ref 0), some (.int x1), some (.int x2), none, none, none, none, none]) (x := x1) (y := 3) (r := []) (by rw [c2_gt]; exact decide_eq_false (by show ¬ ((3 : Int) < x1.toInt); omega)) (by decide))) ?_
    refine Go.next (f' := (11, [some (.ref 0), some (.int x1), some (.int x2), none, none, none, none, none], [.int x2])) (w' := fr_w) ((ex_stp (ins := .iload_n 2) rfl).trans rfl) ?_
    refine Go.next (f' := (14, [some (.ref 0), some (.int x1), some (.int x2), none, none, none, none, none], [])) (w' := fr_w) ((ex_stp (ins := .ifCond .lt 8) rfl).trans (ex_b0_f (c := .lt) (off := 8) (pc := 11) (lo := [some (.ref 0), some (.int x1), some (.int x2), none, none, none, none, none]) (x := x2) (r := []) (by rw [c0_lt]; exact decide_eq_false (by show ¬ (x2.toInt < (0 : Int)); omega)) (by decide))) ?_
    refine Go.next (f' := (15, [some (.ref 0), some (.int x1), some (.int x2), none, none, none, none, none], [.int x2])) (w' := fr_w) ((ex_stp (ins := .iload_n 2) rfl).trans rfl) ?_
    refine Go.next (f' := (16, [some (.ref 0), some (.int x1), some (.int x2), none, none, none, none, none], [.int 1, .int x2])) (w' := fr_w) ((ex_stp (ins := .iconst 1) rfl).trans rfl) ?_
    refine Go.next (f' := (19, [some (.ref 0), some (.int x1), some (.int x2), none, none, none, none, none], [])) (w' := fr_w) ((ex_stp (ins := .if_icmp .le 5) rfl).trans (ex_b2_f (c := .le) (off := 5) (pc := 16) (lo := [some (.ref 0), some (.int x1), some (.int x2), none, none, none, none, none]) (x := x2) (y := 1) (r := []) (by rw [c2_le]; exact decide_eq_false (by show ¬ (x2.toInt ≤ (1 : Int)); omega)) (by decide))) ?_
    refine Go.next (f' := (20, [some (.ref 0), some (.int x1), some (.int x2), none, none, none, none, none], [.int (-1)])) (w' := fr_w) ((ex_stp (ins := .iconst (-1)) rfl).trans rfl) ?_
    exact Go.ret ((ex_stp (ins := .ireturn) rfl).trans rfl)
  · show Go [] 39 mt_54 (0, [some (.ref 59), some (.int x1), some (.int x2), none, none, none, none, none, none, none], []) fr_w _
    refine Go.next (f' := (1, [some (.ref 59), some (.int x1), some (.int x2), none, none, none, none, none, none, none], [.int x1])) (w' := fr_w) ((ex_stp (ins := .iload_n 1) rfl).trans rfl) ?_
    refine Go.next (f' := (2, [some (.ref 59), some (.int x1), some (.int x2), none, none, none, none, none, none, none], [.long (x1).toInt64])) (w' := fr_w) ((ex_stp (ins := .i2l) rfl).trans rfl) ?_
    refine Go.next (f' := (3, [some (.ref 59), some (.int x1), some (.int x2), none, none, none, none, none, none, none], [.long 1, .long (x1).toInt64])) (w' := fr_w) ((ex_stp (ins := .lconst 1) rfl).trans rfl) ?_
    refine Go.next (f' := (6, [some (.ref 59), some (.int x1), some (.int x2), none, none, none, none, none, none, none], [.long 3, .long 1, .long (x1).toInt64])) (w' := fr_w) ((ex_stp (ins := .ldc2_w 250) rfl).trans rfl) ?_
    have h_113 : Go [] 38 mt_93 (ex_ent mt_93 [.long (x1).toInt64, .long 1, .long 3]) fr_w (some (.int 1), fr_w) := by
      show Go [] 38 mt_93 (0, [some (.long (x1).toInt64), none, some (.long 1), none, some (.long 3), none], []) fr_w _
      refine Go.next (f' := (1, [some (.long (x1).toInt64), none, some (.long 1), none, some (.long 3), none], [.long (x1).toInt64])) (w' := fr_w) ((ex_stp (ins := .lload_n 0) rfl).trans rfl) ?_
      refine Go.next (f' := (2, [some (.long (x1).toInt64), none, some (.long 1), none, some (.long 3), none], [.long 1, .long (x1).toInt64])) (w' := fr_w) ((ex_stp (ins := .lload_n 2) rfl).trans rfl) ?_
      refine Go.next (f' := (3, [some (.long (x1).toInt64), none, some (.long 1), none, some (.long 3), none], [.int (lg_cmp (x1).toInt64 1)])) (w' := fr_w) ((ex_stp (ins := .lcmp) rfl).trans rfl) ?_
      refine Go.next (f' := (6, [some (.long (x1).toInt64), none, some (.long 1), none, some (.long 3), none], [])) (w' := fr_w) ((ex_stp (ins := .ifCond .lt 14) rfl).trans (ex_b0_f (c := .lt) (off := 14) (pc := 3) (lo := [some (.long (x1).toInt64), none, some (.long 1), none, some (.long 3), none]) (x := (lg_cmp (x1).toInt64 1)) (r := []) (by rw [cl_lt]; exact decide_eq_false (by first | (rw [Int32.toInt_toInt64]; show ¬ (x1.toInt < (1 : Int)); omega) | omega)) (by decide))) ?_
      refine Go.next (f' := (7, [some (.long (x1).toInt64), none, some (.long 1), none, some (.long 3), none], [.long (x1).toInt64])) (w' := fr_w) ((ex_stp (ins := .lload_n 0) rfl).trans rfl) ?_
      refine Go.next (f' := (9, [some (.long (x1).toInt64), none, some (.long 1), none, some (.long 3), none], [.long 3, .long (x1).toInt64])) (w' := fr_w) ((ex_stp (ins := .lload 4) rfl).trans rfl) ?_
      refine Go.next (f' := (10, [some (.long (x1).toInt64), none, some (.long 1), none, some (.long 3), none], [.int (lg_cmp (x1).toInt64 3)])) (w' := fr_w) ((ex_stp (ins := .lcmp) rfl).trans rfl) ?_
      refine Go.next (f' := (13, [some (.long (x1).toInt64), none, some (.long 1), none, some (.long 3), none], [])) (w' := fr_w) ((ex_stp (ins := .ifCond .gt 7) rfl).trans (ex_b0_f (c := .gt) (off := 7) (pc := 10) (lo := [some (.long (x1).toInt64), none, some (.long 1), none, some (.long 3), none]) (x := (lg_cmp (x1).toInt64 3)) (r := []) (by rw [cl_gt]; exact decide_eq_false (by first | (rw [Int32.toInt_toInt64]; show ¬ ((3 : Int) < x1.toInt); omega) | omega)) (by decide))) ?_
      refine Go.next (f' := (14, [some (.long (x1).toInt64), none, some (.long 1), none, some (.long 3), none], [.int 1])) (w' := fr_w) ((ex_stp (ins := .iconst 1) rfl).trans rfl) ?_
      refine Go.next (f' := (18, [some (.long (x1).toInt64), none, some (.long 1), none, some (.long 3), none], [.int 1])) (w' := fr_w) ((ex_stp (ins := .goto 4) rfl).trans rfl) ?_
      exact Go.ret ((ex_stp (ins := .ireturn) rfl).trans rfl)
    refine Go.call (d := 38) (cal := 93) (as := [.long (x1).toInt64, .long 1, .long 3]) (g := (9, [some (.ref 59), some (.int x1), some (.int x2), none, none, none, none, none, none, none], [])) (M' := mt_93) (r := some (.int 1)) (w' := fr_w) ((ex_stp (ins := .invokestatic 95) rfl).trans rfl) rfl (Nat.le_of_ble_eq_true rfl) h_113 ?_
    show Go [] 39 mt_54 (9, [some (.ref 59), some (.int x1), some (.int x2), none, none, none, none, none, none, none], [.int 1]) fr_w _
    refine Go.next (f' := (12, [some (.ref 59), some (.int x1), some (.int x2), none, none, none, none, none, none, none], [])) (w' := fr_w) ((ex_stp (ins := .ifCond .eq 13) rfl).trans rfl) ?_
    refine Go.next (f' := (13, [some (.ref 59), some (.int x1), some (.int x2), none, none, none, none, none, none, none], [.int x2])) (w' := fr_w) ((ex_stp (ins := .iload_n 2) rfl).trans rfl) ?_
    refine Go.next (f' := (14, [some (.ref 59), some (.int x1), some (.int x2), none, none, none, none, none, none, none], [.long (x2).toInt64])) (w' := fr_w) ((ex_stp (ins := .i2l) rfl).trans rfl) ?_
    refine Go.next (f' := (15, [some (.ref 59), some (.int x1), some (.int x2), none, none, none, none, none, none, none], [.long 0, .long (x2).toInt64])) (w' := fr_w) ((ex_stp (ins := .lconst 0) rfl).trans rfl) ?_
    refine Go.next (f' := (16, [some (.ref 59), some (.int x1), some (.int x2), none, none, none, none, none, none, none], [.long 1, .long 0, .long (x2).toInt64])) (w' := fr_w) ((ex_stp (ins := .lconst 1) rfl).trans rfl) ?_
    have h_114 : Go [] 38 mt_93 (ex_ent mt_93 [.long (x2).toInt64, .long 0, .long 1]) fr_w (some (.int 0), fr_w) := by
      show Go [] 38 mt_93 (0, [some (.long (x2).toInt64), none, some (.long 0), none, some (.long 1), none], []) fr_w _
      refine Go.next (f' := (1, [some (.long (x2).toInt64), none, some (.long 0), none, some (.long 1), none], [.long (x2).toInt64])) (w' := fr_w) ((ex_stp (ins := .lload_n 0) rfl).trans rfl) ?_
      refine Go.next (f' := (2, [some (.long (x2).toInt64), none, some (.long 0), none, some (.long 1), none], [.long 0, .long (x2).toInt64])) (w' := fr_w) ((ex_stp (ins := .lload_n 2) rfl).trans rfl) ?_
      refine Go.next (f' := (3, [some (.long (x2).toInt64), none, some (.long 0), none, some (.long 1), none], [.int (lg_cmp (x2).toInt64 0)])) (w' := fr_w) ((ex_stp (ins := .lcmp) rfl).trans rfl) ?_
      refine Go.next (f' := (6, [some (.long (x2).toInt64), none, some (.long 0), none, some (.long 1), none], [])) (w' := fr_w) ((ex_stp (ins := .ifCond .lt 14) rfl).trans (ex_b0_f (c := .lt) (off := 14) (pc := 3) (lo := [some (.long (x2).toInt64), none, some (.long 0), none, some (.long 1), none]) (x := (lg_cmp (x2).toInt64 0)) (r := []) (by rw [cl_lt]; exact decide_eq_false (by first | (rw [Int32.toInt_toInt64]; show ¬ (x2.toInt < (0 : Int)); omega) | omega)) (by decide))) ?_
      refine Go.next (f' := (7, [some (.long (x2).toInt64), none, some (.long 0), none, some (.long 1), none], [.long (x2).toInt64])) (w' := fr_w) ((ex_stp (ins := .lload_n 0) rfl).trans rfl) ?_
      refine Go.next (f' := (9, [some (.long (x2).toInt64), none, some (.long 0), none, some (.long 1), none], [.long 1, .long (x2).toInt64])) (w' := fr_w) ((ex_stp (ins := .lload 4) rfl).trans rfl) ?_
      refine Go.next (f' := (10, [some (.long (x2).toInt64), none, some (.long 0), none, some (.long 1), none], [.int (lg_cmp (x2).toInt64 1)])) (w' := fr_w) ((ex_stp (ins := .lcmp) rfl).trans rfl) ?_
      refine Go.next (f' := (17, [some (.long (x2).toInt64), none, some (.long 0), none, some (.long 1), none], [])) (w' := fr_w) ((ex_stp (ins := .ifCond .gt 7) rfl).trans (ex_b0_t (c := .gt) (off := 7) (pc := 10) (lo := [some (.long (x2).toInt64), none, some (.long 0), none, some (.long 1), none]) (x := (lg_cmp (x2).toInt64 1)) (r := []) (by rw [cl_gt]; exact decide_eq_true (by first | (rw [Int32.toInt_toInt64]; show (1 : Int) < x2.toInt; omega) | omega)) (by decide))) ?_
      refine Go.next (f' := (18, [some (.long (x2).toInt64), none, some (.long 0), none, some (.long 1), none], [.int 0])) (w' := fr_w) ((ex_stp (ins := .iconst 0) rfl).trans rfl) ?_
      exact Go.ret ((ex_stp (ins := .ireturn) rfl).trans rfl)
    refine Go.call (d := 38) (cal := 93) (as := [.long (x2).toInt64, .long 0, .long 1]) (g := (19, [some (.ref 59), some (.int x1), some (.int x2), none, none, none, none, none, none, none], [])) (M' := mt_93) (r := some (.int 0)) (w' := fr_w) ((ex_stp (ins := .invokestatic 95) rfl).trans rfl) rfl (Nat.le_of_ble_eq_true rfl) h_114 ?_
    show Go [] 39 mt_54 (19, [some (.ref 59), some (.int x1), some (.int x2), none, none, none, none, none, none, none], [.int 0]) fr_w _
    refine Go.next (f' := (22, [some (.ref 59), some (.int x1), some (.int x2), none, none, none, none, none, none, none], [])) (w' := fr_w) ((ex_stp (ins := .ifCond .ne 5) rfl).trans rfl) ?_
    refine Go.next (f' := (23, [some (.ref 59), some (.int x1), some (.int x2), none, none, none, none, none, none, none], [.int (-1)])) (w' := fr_w) ((ex_stp (ins := .iconst (-1)) rfl).trans rfl) ?_
    exact Go.ret ((ex_stp (ins := .ireturn) rfl).trans rfl)
set_option maxRecDepth 100000 in
theorem ao_27_a (x1 x2 : Int32) (g0 : x1.toInt < 0) : A2 mt_57 mt_58 [.int x1, .int x2] := by
  refine ⟨(-1), fr_w, fr_w, _, ?_, rfl, ?_⟩
  · show Go [] 39 mt_57 (0, [some (.ref 0), some (.int x1), some (.int x2)], []) fr_w _
    refine Go.next (f' := (1, [some (.ref 0), some (.int x1), some (.int x2)], [.int x1])) (w' := fr_w) ((ex_stp (ins := .iload_n 1) rfl).trans rfl) ?_
    refine Go.next (f' := (21, [some (.ref 0), some (.int x1), some (.int x2)], [])) (w' := fr_w) ((ex_stp (ins := .ifCond .lt 20) rfl).trans (ex_b0_t (c := .lt) (off := 20) (pc := 1) (lo := [some (.ref 0), some (.int x1), some (.int x2)]) (x := x1) (r := []) (by rw [c0_lt]; exact decide_eq_true (by show x1.toInt < (0 : Int); omega)) (by decide))) ?_
    refine Go.next (f' := (22, [some (.ref 0), some (.int x1), some (.int x2)], [.int (-1)])) (w' := fr_w) ((ex_stp (ins := .iconst (-1)) rfl).trans rfl) ?_
    exact Go.ret ((ex_stp (ins := .ireturn) rfl).trans rfl)
  · show Go [] 39 mt_58 (0, [some (.ref 59), some (.int x1), some (.int x2)], []) fr_w _
    refine Go.next (f' := (1, [some (.ref 59), some (.int x1), some (.int x2)], [.int x1])) (w' := fr_w) ((ex_stp (ins := .iload_n 1) rfl).trans rfl) ?_
    refine Go.next (f' := (2, [some (.ref 59), some (.int x1), some (.int x2)], [.long (x1).toInt64])) (w' := fr_w) ((ex_stp (ins := .i2l) rfl).trans rfl) ?_
    refine Go.next (f' := (3, [some (.ref 59), some (.int x1), some (.int x2)], [.long 0, .long (x1).toInt64])) (w' := fr_w) ((ex_stp (ins := .lconst 0) rfl).trans rfl) ?_
    refine Go.next (f' := (6, [some (.ref 59), some (.int x1), some (.int x2)], [.long 10, .long 0, .long (x1).toInt64])) (w' := fr_w) ((ex_stp (ins := .ldc2_w 231) rfl).trans rfl) ?_
    have h_115 : Go [] 38 mt_93 (ex_ent mt_93 [.long (x1).toInt64, .long 0, .long 10]) fr_w (some (.int 0), fr_w) := by
      show Go [] 38 mt_93 (0, [some (.long (x1).toInt64), none, some (.long 0), none, some (.long 10), none], []) fr_w _
      refine Go.next (f' := (1, [some (.long (x1).toInt64), none, some (.long 0), none, some (.long 10), none], [.long (x1).toInt64])) (w' := fr_w) ((ex_stp (ins := .lload_n 0) rfl).trans rfl) ?_
      refine Go.next (f' := (2, [some (.long (x1).toInt64), none, some (.long 0), none, some (.long 10), none], [.long 0, .long (x1).toInt64])) (w' := fr_w) ((ex_stp (ins := .lload_n 2) rfl).trans rfl) ?_
      refine Go.next (f' := (3, [some (.long (x1).toInt64), none, some (.long 0), none, some (.long 10), none], [.int (lg_cmp (x1).toInt64 0)])) (w' := fr_w) ((ex_stp (ins := .lcmp) rfl).trans rfl) ?_
      refine Go.next (f' := (17, [some (.long (x1).toInt64), none, some (.long 0), none, some (.long 10), none], [])) (w' := fr_w) ((ex_stp (ins := .ifCond .lt 14) rfl).trans (ex_b0_t (c := .lt) (off := 14) (pc := 3) (lo := [some (.long (x1).toInt64), none, some (.long 0), none, some (.long 10), none]) (x := (lg_cmp (x1).toInt64 0)) (r := []) (by rw [cl_lt]; exact decide_eq_true (by first | (rw [Int32.toInt_toInt64]; show x1.toInt < (0 : Int); omega) | omega)) (by decide))) ?_
      refine Go.next (f' := (18, [some (.long (x1).toInt64), none, some (.long 0), none, some (.long 10), none], [.int 0])) (w' := fr_w) ((ex_stp (ins := .iconst 0) rfl).trans rfl) ?_
      exact Go.ret ((ex_stp (ins := .ireturn) rfl).trans rfl)
    refine Go.call (d := 38) (cal := 93) (as := [.long (x1).toInt64, .long 0, .long 10]) (g := (9, [some (.ref 59), some (.int x1), some (.int x2)], [])) (M' := mt_93) (r := some (.int 0)) (w' := fr_w) ((ex_stp (ins := .invokestatic 95) rfl).trans rfl) rfl (Nat.le_of_ble_eq_true rfl) h_115 ?_
    show Go [] 39 mt_58 (9, [some (.ref 59), some (.int x1), some (.int x2)], [.int 0]) fr_w _
    refine Go.next (f' := (20, [some (.ref 59), some (.int x1), some (.int x2)], [])) (w' := fr_w) ((ex_stp (ins := .ifCond .eq 11) rfl).trans rfl) ?_
    refine Go.next (f' := (21, [some (.ref 59), some (.int x1), some (.int x2)], [.int (-1)])) (w' := fr_w) ((ex_stp (ins := .iconst (-1)) rfl).trans rfl) ?_
    exact Go.ret ((ex_stp (ins := .ireturn) rfl).trans rfl)
set_option maxRecDepth 100000 in
theorem ao_27_b (x1 x2 : Int32) (g0 : 10 < x1.toInt) : A2 mt_57 mt_58 [.int x1, .int x2] := by
  refine ⟨(-1), fr_w, fr_w, _, ?_, rfl, ?_⟩
  · show Go [] 39 mt_57 (0, [some (.ref 0), some (.int x1), some (.int x2)], []) fr_w _
    refine Go.next (f' := (1, [some (.ref 0), some (.int x1), some (.int x2)], [.int x1])) (w' := fr_w) ((ex_stp (ins := .iload_n 1) rfl).trans rfl) ?_
    refine Go.next (f' := (4, [some (.ref 0), some (.int x1), some (.int x2)], [])) (w' := fr_w) ((ex_stp (ins := .ifCond .lt 20) rfl).trans (ex_b0_f (c := .lt) (off := 20) (pc := 1) (lo := [some (.ref 0), some (.int x1), some (.int x2)]) (x := x1) (r := []) (by rw [c0_lt]; exact decide_eq_false (by show ¬ (x1.toInt < (0 : Int)); omega)) (by decide))) ?_
    refine Go.next (f' := (5, [some (.ref 0), some (.int x1), some (.int x2)], [.int x1])) (w' := fr_w) ((ex_stp (ins := .iload_n 1) rfl).trans rfl) ?_
    refine Go.next (f' := (7, [some (.ref 0), some (.int x1), some (.int x2)], [.int 10, .int x1])) (w' := fr_w) ((ex_stp (ins := .bipush 10) rfl).trans rfl) ?_
    refine Go.next (f' := (21, [some (.ref 0), some (.int x1), some (.int x2)], [])) (w' := fr_w) ((ex_stp (ins := .if_icmp .gt 14) rfl).trans (ex_b2_t (c := .gt) (off := 14) (pc := 7) (lo := [some (.ref 0), some (.int x1), some (.int x2)]) (x := x1) (y := 10) (r := []) (by rw [c2_gt]; exact decide_eq_true (by show (10 : Int) < x1.toInt; omega)) (by decide))) ?_
    refine Go.next (f' := (22, [some (.ref 0), some (.int x1), some (.int x2)], [.int (-1)])) (w' := fr_w) ((ex_stp (ins := .iconst (-1)) rfl).trans rfl) ?_
    exact Go.ret ((ex_stp (ins := .ireturn) rfl).trans rfl)
  · show Go [] 39 mt_58 (0, [some (.ref 59), some (.int x1), some (.int x2)], []) fr_w _
    refine Go.next (f' := (1, [some (.ref 59), some (.int x1), some (.int x2)], [.int x1])) (w' := fr_w) ((ex_stp (ins := .iload_n 1) rfl).trans rfl) ?_
    refine Go.next (f' := (2, [some (.ref 59), some (.int x1), some (.int x2)], [.long (x1).toInt64])) (w' := fr_w) ((ex_stp (ins := .i2l) rfl).trans rfl) ?_
    refine Go.next (f' := (3, [some (.ref 59), some (.int x1), some (.int x2)], [.long 0, .long (x1).toInt64])) (w' := fr_w) ((ex_stp (ins := .lconst 0) rfl).trans rfl) ?_
    refine Go.next (f' := (6, [some (.ref 59), some (.int x1), some (.int x2)], [.long 10, .long 0, .long (x1).toInt64])) (w' := fr_w) ((ex_stp (ins := .ldc2_w 231) rfl).trans rfl) ?_
    have h_116 : Go [] 38 mt_93 (ex_ent mt_93 [.long (x1).toInt64, .long 0, .long 10]) fr_w (some (.int 0), fr_w) := by
      show Go [] 38 mt_93 (0, [some (.long (x1).toInt64), none, some (.long 0), none, some (.long 10), none], []) fr_w _
      refine Go.next (f' := (1, [some (.long (x1).toInt64), none, some (.long 0), none, some (.long 10), none], [.long (x1).toInt64])) (w' := fr_w) ((ex_stp (ins := .lload_n 0) rfl).trans rfl) ?_
      refine Go.next (f' := (2, [some (.long (x1).toInt64), none, some (.long 0), none, some (.long 10), none], [.long 0, .long (x1).toInt64])) (w' := fr_w) ((ex_stp (ins := .lload_n 2) rfl).trans rfl) ?_
      refine Go.next (f' := (3, [some (.long (x1).toInt64), none, some (.long 0), none, some (.long 10), none], [.int (lg_cmp (x1).toInt64 0)])) (w' := fr_w) ((ex_stp (ins := .lcmp) rfl).trans rfl) ?_
      refine Go.next (f' := (6, [some (.long (x1).toInt64), none, some (.long 0), none, some (.long 10), none], [])) (w' := fr_w) ((ex_stp (ins := .ifCond .lt 14) rfl).trans (ex_b0_f (c := .lt) (off := 14) (pc := 3) (lo := [some (.long (x1).toInt64), none, some (.long 0), none, some (.long 10), none]) (x := (lg_cmp (x1).toInt64 0)) (r := []) (by rw [cl_lt]; exact decide_eq_false (by first | (rw [Int32.toInt_toInt64]; show ¬ (x1.toInt < (0 : Int)); omega) | omega)) (by decide))) ?_
      refine Go.next (f' := (7, [some (.long (x1).toInt64), none, some (.long 0), none, some (.long 10), none], [.long (x1).toInt64])) (w' := fr_w) ((ex_stp (ins := .lload_n 0) rfl).trans rfl) ?_
      refine Go.next (f' := (9, [some (.long (x1).toInt64), none, some (.long 0), none, some (.long 10), none], [.long 10, .long (x1).toInt64])) (w' := fr_w) ((ex_stp (ins := .lload 4) rfl).trans rfl) ?_
      refine Go.next (f' := (10, [some (.long (x1).toInt64), none, some (.long 0), none, some (.long 10), none], [.int (lg_cmp (x1).toInt64 10)])) (w' := fr_w) ((ex_stp (ins := .lcmp) rfl).trans rfl) ?_
      refine Go.next (f' := (17, [some (.long (x1).toInt64), none, some (.long 0), none, some (.long 10), none], [])) (w' := fr_w) ((ex_stp (ins := .ifCond .gt 7) rfl).trans (ex_b0_t (c := .gt) (off := 7) (pc := 10) (lo := [some (.long (x1).toInt64), none, some (.long 0), none, some (.long 10), none]) (x := (lg_cmp (x1).toInt64 10)) (r := []) (by rw [cl_gt]; exact decide_eq_true (by first | (rw [Int32.toInt_toInt64]; show (10 : Int) < x1.toInt; omega) | omega)) (by decide))) ?_
      refine Go.next (f' := (18, [some (.long (x1).toInt64), none, some (.long 0), none, some (.long 10), none], [.int 0])) (w' := fr_w) ((ex_stp (ins := .iconst 0) rfl).trans rfl) ?_
      exact Go.ret ((ex_stp (ins := .ireturn) rfl).trans rfl)
    refine Go.call (d := 38) (cal := 93) (as := [.long (x1).toInt64, .long 0, .long 10]) (g := (9, [some (.ref 59), some (.int x1), some (.int x2)], [])) (M' := mt_93) (r := some (.int 0)) (w' := fr_w) ((ex_stp (ins := .invokestatic 95) rfl).trans rfl) rfl (Nat.le_of_ble_eq_true rfl) h_116 ?_
    show Go [] 39 mt_58 (9, [some (.ref 59), some (.int x1), some (.int x2)], [.int 0]) fr_w _
    refine Go.next (f' := (20, [some (.ref 59), some (.int x1), some (.int x2)], [])) (w' := fr_w) ((ex_stp (ins := .ifCond .eq 11) rfl).trans rfl) ?_
    refine Go.next (f' := (21, [some (.ref 59), some (.int x1), some (.int x2)], [.int (-1)])) (w' := fr_w) ((ex_stp (ins := .iconst (-1)) rfl).trans rfl) ?_
    exact Go.ret ((ex_stp (ins := .ireturn) rfl).trans rfl)
set_option maxRecDepth 100000 in
theorem ao_27_c (x1 x2 : Int32) (g0 : 0 ≤ x1.toInt) (g1 : x1.toInt ≤ 10) (g2 : x2.toInt < 1) : A2 mt_57 mt_58 [.int x1, .int x2] := by
  refine ⟨(-1), fr_w, fr_w, _, ?_, rfl, ?_⟩
  · show Go [] 39 mt_57 (0, [some (.ref 0), some (.int x1), some (.int x2)], []) fr_w _
    refine Go.next (f' := (1, [some (.ref 0), some (.int x1), some (.int x2)], [.int x1])) (w' := fr_w) ((ex_stp (ins := .iload_n 1) rfl).trans rfl) ?_
    refine Go.next (f' := (4, [some (.ref 0), some (.int x1), some (.int x2)], [])) (w' := fr_w) ((ex_stp (ins := .ifCond .lt 20) rfl).trans (ex_b0_f (c := .lt) (off := 20) (pc := 1) (lo := [some (.ref 0), some (.int x1), some (.int x2)]) (x := x1) (r := []) (by rw [c0_lt]; exact decide_eq_false (by show ¬ (x1.toInt < (0 : Int)); omega)) (by decide))) ?_
    refine Go.next (f' := (5, [some (.ref 0), some (.int x1), some (.int x2)], [.int x1])) (w' := fr_w) ((ex_stp (ins := .iload_n 1) rfl).trans rfl) ?_
    refine Go.next (f' := (7, [some (.ref 0), some (.int x1), some (.int x2)], [.int 10, .int x1])) (w' := fr_w) ((ex_stp (ins := .bipush 10) rfl).trans rfl) ?_
    refine Go.next (f' := (10, [some (.ref 0), some (.int x1), some (.int x2)], [])) (w' := fr_w) ((ex_stp (ins := .if_icmp .gt 14) rfl).trans (ex_b2_f (c := .gt) (off := 14) (pc := 7) (lo := [some (.ref 0), some (.int x1), some (.int x2)]) (x := x1) (y := 10) (r := []) (by rw [c2_gt]; exact decide_eq_false (by show ¬ ((10 : Int) < x1.toInt); omega)) (by decide))) ?_
    refine Go.next (f' := (11, [some (.ref 0), some (.int x1), some (.int x2)], [.ref 0])) (w' := fr_w) ((ex_stp (ins := .aload_n 0) rfl).trans rfl) ?_
    refine Go.next (f' := (14, [some (.ref 0), some (.int x1), some (.int x2)], [.ref 1])) (w' := fr_w) ((ex_stp (ins := .getfield 10) rfl).trans rfl) ?_
    refine Go.next (f' := (15, [some (.ref 0), some (.int x1), some (.int x2)], [.int x2, .ref 1])) (w' := fr_w) ((ex_stp (ins := .iload_n 2) rfl).trans rfl) ?_
    have h_117 : Go [] 38 mt_101 (ex_ent mt_101 [.ref 1, .int x2]) fr_w (some (.int 0), fr_w) := by
      show Go [] 38 mt_101 (0, [some (.ref 1), some (.int x2)], []) fr_w _
      refine Go.next (f' := (1, [some (.ref 1), some (.int x2)], [.int x2])) (w' := fr_w) ((ex_stp (ins := .iload_n 1) rfl).trans rfl) ?_
      refine Go.next (f' := (2, [some (.ref 1), some (.int x2)], [.int 1, .int x2])) (w' := fr_w) ((ex_stp (ins := .iconst 1) rfl).trans rfl) ?_
      refine Go.next (f' := (23, [some (.ref 1), some (.int x2)], [])) (w' := fr_w) ((ex_stp (ins := .if_icmp .lt 21) rfl).trans (ex_b2_t (c := .lt) (off := 21) (pc := 2) (lo := [some (.ref 1), some (.int x2)]) (x := x2) (y := 1) (r := []) (by rw [c2_lt]; exact decide_eq_true (by show x2.toInt < (1 : Int); omega)) (by decide))) ?_
      refine Go.next (f' := (24, [some (.ref 1), some (.int x2)], [.int 0])) (w' := fr_w) ((ex_stp (ins := .iconst 0) rfl).trans rfl) ?_
      exact Go.ret ((ex_stp (ins := .ireturn) rfl).trans rfl)
    refine Go.call (d := 38) (cal := 101) (as := [.ref 1, .int x2]) (g := (18, [some (.ref 0), some (.int x1), some (.int x2)], [])) (M' := mt_101) (r := some (.int 0)) (w' := fr_w) ((ex_stp (ins := .invokevirtual 132) rfl).trans rfl) rfl (Nat.le_of_ble_eq_true rfl) h_117 ?_
    show Go [] 39 mt_57 (18, [some (.ref 0), some (.int x1), some (.int x2)], [.int 0]) fr_w _
    refine Go.next (f' := (21, [some (.ref 0), some (.int x1), some (.int x2)], [])) (w' := fr_w) ((ex_stp (ins := .ifCond .ne 5) rfl).trans rfl) ?_
    refine Go.next (f' := (22, [some (.ref 0), some (.int x1), some (.int x2)], [.int (-1)])) (w' := fr_w) ((ex_stp (ins := .iconst (-1)) rfl).trans rfl) ?_
    exact Go.ret ((ex_stp (ins := .ireturn) rfl).trans rfl)
  · show Go [] 39 mt_58 (0, [some (.ref 59), some (.int x1), some (.int x2)], []) fr_w _
    refine Go.next (f' := (1, [some (.ref 59), some (.int x1), some (.int x2)], [.int x1])) (w' := fr_w) ((ex_stp (ins := .iload_n 1) rfl).trans rfl) ?_
    refine Go.next (f' := (2, [some (.ref 59), some (.int x1), some (.int x2)], [.long (x1).toInt64])) (w' := fr_w) ((ex_stp (ins := .i2l) rfl).trans rfl) ?_
    refine Go.next (f' := (3, [some (.ref 59), some (.int x1), some (.int x2)], [.long 0, .long (x1).toInt64])) (w' := fr_w) ((ex_stp (ins := .lconst 0) rfl).trans rfl) ?_
    refine Go.next (f' := (6, [some (.ref 59), some (.int x1), some (.int x2)], [.long 10, .long 0, .long (x1).toInt64])) (w' := fr_w) ((ex_stp (ins := .ldc2_w 231) rfl).trans rfl) ?_
    have h_118 : Go [] 38 mt_93 (ex_ent mt_93 [.long (x1).toInt64, .long 0, .long 10]) fr_w (some (.int 1), fr_w) := by
      show Go [] 38 mt_93 (0, [some (.long (x1).toInt64), none, some (.long 0), none, some (.long 10), none], []) fr_w _
      refine Go.next (f' := (1, [some (.long (x1).toInt64), none, some (.long 0), none, some (.long 10), none], [.long (x1).toInt64])) (w' := fr_w) ((ex_stp (ins := .lload_n 0) rfl).trans rfl) ?_
      refine Go.next (f' := (2, [some (.long (x1).toInt64), none, some (.long 0), none, some (.long 10), none], [.long 0, .long (x1).toInt64])) (w' := fr_w) ((ex_stp (ins := .lload_n 2) rfl).trans rfl) ?_
      refine Go.next (f' := (3, [some (.long (x1).toInt64), none, some (.long 0), none, some (.long 10), none], [.int (lg_cmp (x1).toInt64 0)])) (w' := fr_w) ((ex_stp (ins := .lcmp) rfl).trans rfl) ?_
      refine Go.next (f' := (6, [some (.long (x1).toInt64), none, some (.long 0), none, some (.long 10), none], [])) (w' := fr_w) ((ex_stp (ins := .ifCond .lt 14) rfl).trans (ex_b0_f (c := .lt) (off := 14) (pc := 3) (lo := [some (.long (x1).toInt64), none, some (.long 0), none, some (.long 10), none]) (x := (lg_cmp (x1).toInt64 0)) (r := []) (by rw [cl_lt]; exact decide_eq_false (by first | (rw [Int32.toInt_toInt64]; show ¬ (x1.toInt < (0 : Int)); omega) | omega)) (by decide))) ?_
      refine Go.next (f' := (7, [some (.long (x1).toInt64), none, some (.long 0), none, some (.long 10), none], [.long (x1).toInt64])) (w' := fr_w) ((ex_stp (ins := .lload_n 0) rfl).trans rfl) ?_
      refine Go.next (f' := (9, [some (.long (x1).toInt64), none, some (.long 0), none, some (.long 10), none], [.long 10, .long (x1).toInt64])) (w' := fr_w) ((ex_stp (ins := .lload 4) rfl).trans rfl) ?_
      refine Go.next (f' := (10, [some (.long (x1).toInt64), none, some (.long 0), none, some (.long 10), none], [.int (lg_cmp (x1).toInt64 10)])) (w' := fr_w) ((ex_stp (ins := .lcmp) rfl).trans rfl) ?_
      refine Go.next (f' := (13, [some (.long (x1).toInt64), none, some (.long 0), none, some (.long 10), none], [])) (w' := fr_w) ((ex_stp (ins := .ifCond .gt 7) rfl).trans (ex_b0_f (c := .gt) (off := 7) (pc := 10) (lo := [some (.long (x1).toInt64), none, some (.long 0), none, some (.long 10), none]) (x := (lg_cmp (x1).toInt64 10)) (r := []) (by rw [cl_gt]; exact decide_eq_false (by first | (rw [Int32.toInt_toInt64]; show ¬ ((10 : Int) < x1.toInt); omega) | omega)) (by decide))) ?_
      refine Go.next (f' := (14, [some (.long (x1).toInt64), none, some (.long 0), none, some (.long 10), none], [.int 1])) (w' := fr_w) ((ex_stp (ins := .iconst 1) rfl).trans rfl) ?_
      refine Go.next (f' := (18, [some (.long (x1).toInt64), none, some (.long 0), none, some (.long 10), none], [.int 1])) (w' := fr_w) ((ex_stp (ins := .goto 4) rfl).trans rfl) ?_
      exact Go.ret ((ex_stp (ins := .ireturn) rfl).trans rfl)
    refine Go.call (d := 38) (cal := 93) (as := [.long (x1).toInt64, .long 0, .long 10]) (g := (9, [some (.ref 59), some (.int x1), some (.int x2)], [])) (M' := mt_93) (r := some (.int 1)) (w' := fr_w) ((ex_stp (ins := .invokestatic 95) rfl).trans rfl) rfl (Nat.le_of_ble_eq_true rfl) h_118 ?_
    show Go [] 39 mt_58 (9, [some (.ref 59), some (.int x1), some (.int x2)], [.int 1]) fr_w _
    refine Go.next (f' := (12, [some (.ref 59), some (.int x1), some (.int x2)], [])) (w' := fr_w) ((ex_stp (ins := .ifCond .eq 11) rfl).trans rfl) ?_
    refine Go.next (f' := (13, [some (.ref 59), some (.int x1), some (.int x2)], [.ref 59])) (w' := fr_w) ((ex_stp (ins := .aload_n 0) rfl).trans rfl) ?_
    refine Go.next (f' := (14, [some (.ref 59), some (.int x1), some (.int x2)], [.int x2, .ref 59])) (w' := fr_w) ((ex_stp (ins := .iload_n 2) rfl).trans rfl) ?_
    have h_119 : Go [] 38 mt_102 (ex_ent mt_102 [.ref 59, .int x2]) fr_w (some (.int 0), fr_w) := by
      show Go [] 38 mt_102 (0, [some (.ref 59), some (.int x2)], []) fr_w _
      refine Go.next (f' := (1, [some (.ref 59), some (.int x2)], [.int x2])) (w' := fr_w) ((ex_stp (ins := .iload_n 1) rfl).trans rfl) ?_
      refine Go.next (f' := (2, [some (.ref 59), some (.int x2)], [.long (x2).toInt64])) (w' := fr_w) ((ex_stp (ins := .i2l) rfl).trans rfl) ?_
      refine Go.next (f' := (3, [some (.ref 59), some (.int x2)], [.long 1, .long (x2).toInt64])) (w' := fr_w) ((ex_stp (ins := .lconst 1) rfl).trans rfl) ?_
      refine Go.next (f' := (4, [some (.ref 59), some (.int x2)], [.ref 59, .long 1, .long (x2).toInt64])) (w' := fr_w) ((ex_stp (ins := .aload_n 0) rfl).trans rfl) ?_
      refine Go.next (f' := (7, [some (.ref 59), some (.int x2)], [.int 12, .long 1, .long (x2).toInt64])) (w' := fr_w) ((ex_stp (ins := .getfield 81) rfl).trans rfl) ?_
      refine Go.next (f' := (8, [some (.ref 59), some (.int x2)], [.long 12, .long 1, .long (x2).toInt64])) (w' := fr_w) ((ex_stp (ins := .i2l) rfl).trans rfl) ?_
      have h_120 : Go [] 37 mt_93 (ex_ent mt_93 [.long (x2).toInt64, .long 1, .long 12]) fr_w (some (.int 0), fr_w) := by
        show Go [] 37 mt_93 (0, [some (.long (x2).toInt64), none, some (.long 1), none, some (.long 12), none], []) fr_w _
        refine Go.next (f' := (1, [some (.long (x2).toInt64), none, some (.long 1), none, some (.long 12), none], [.long (x2).toInt64])) (w' := fr_w) ((ex_stp (ins := .lload_n 0) rfl).trans rfl) ?_
        refine Go.next (f' := (2, [some (.long (x2).toInt64), none, some (.long 1), none, some (.long 12), none], [.long 1, .long (x2).toInt64])) (w' := fr_w) ((ex_stp (ins := .lload_n 2) rfl).trans rfl) ?_
        refine Go.next (f' := (3, [some (.long (x2).toInt64), none, some (.long 1), none, some (.long 12), none], [.int (lg_cmp (x2).toInt64 1)])) (w' := fr_w) ((ex_stp (ins := .lcmp) rfl).trans rfl) ?_
        refine Go.next (f' := (17, [some (.long (x2).toInt64), none, some (.long 1), none, some (.long 12), none], [])) (w' := fr_w) ((ex_stp (ins := .ifCond .lt 14) rfl).trans (ex_b0_t (c := .lt) (off := 14) (pc := 3) (lo := [some (.long (x2).toInt64), none, some (.long 1), none, some (.long 12), none]) (x := (lg_cmp (x2).toInt64 1)) (r := []) (by rw [cl_lt]; exact decide_eq_true (by first | (rw [Int32.toInt_toInt64]; show x2.toInt < (1 : Int); omega) | omega)) (by decide))) ?_
        refine Go.next (f' := (18, [some (.long (x2).toInt64), none, some (.long 1), none, some (.long 12), none], [.int 0])) (w' := fr_w) ((ex_stp (ins := .iconst 0) rfl).trans rfl) ?_
        exact Go.ret ((ex_stp (ins := .ireturn) rfl).trans rfl)
      refine Go.call (d := 37) (cal := 93) (as := [.long (x2).toInt64, .long 1, .long 12]) (g := (11, [some (.ref 59), some (.int x2)], [])) (M' := mt_93) (r := some (.int 0)) (w' := fr_w) ((ex_stp (ins := .invokestatic 95) rfl).trans rfl) rfl (Nat.le_of_ble_eq_true rfl) h_120 ?_
      show Go [] 38 mt_102 (11, [some (.ref 59), some (.int x2)], [.int 0]) fr_w _
      exact Go.ret ((ex_stp (ins := .ireturn) rfl).trans rfl)
    refine Go.call (d := 38) (cal := 102) (as := [.ref 59, .int x2]) (g := (17, [some (.ref 59), some (.int x1), some (.int x2)], [])) (M' := mt_102) (r := some (.int 0)) (w' := fr_w) ((ex_stp (ins := .invokevirtual 187) rfl).trans rfl) rfl (Nat.le_of_ble_eq_true rfl) h_119 ?_
    show Go [] 39 mt_58 (17, [some (.ref 59), some (.int x1), some (.int x2)], [.int 0]) fr_w _
    refine Go.next (f' := (20, [some (.ref 59), some (.int x1), some (.int x2)], [])) (w' := fr_w) ((ex_stp (ins := .ifCond .ne 5) rfl).trans rfl) ?_
    refine Go.next (f' := (21, [some (.ref 59), some (.int x1), some (.int x2)], [.int (-1)])) (w' := fr_w) ((ex_stp (ins := .iconst (-1)) rfl).trans rfl) ?_
    exact Go.ret ((ex_stp (ins := .ireturn) rfl).trans rfl)
set_option maxRecDepth 100000 in
theorem ao_27_d (x1 x2 : Int32) (g0 : 0 ≤ x1.toInt) (g1 : x1.toInt ≤ 10) (g2 : 12 < x2.toInt) : A2 mt_57 mt_58 [.int x1, .int x2] := by
  refine ⟨(-1), fr_w, fr_w, _, ?_, rfl, ?_⟩
  · show Go [] 39 mt_57 (0, [some (.ref 0), some (.int x1), some (.int x2)], []) fr_w _
    refine Go.next (f' := (1, [some (.ref 0), some (.int x1), some (.int x2)], [.int x1])) (w' := fr_w) ((ex_stp (ins := .iload_n 1) rfl).trans rfl) ?_
    refine Go.next (f' := (4, [some (.ref 0), some (.int x1), some (.int x2)], [])) (w' := fr_w) ((ex_stp (ins := .ifCond .lt 20) rfl).trans (ex_b0_f (c := .lt) (off := 20) (pc := 1) (lo := [some (.ref 0), some (.int x1), some (.int x2)]) (x := x1) (r := []) (by rw [c0_lt]; exact decide_eq_false (by show ¬ (x1.toInt < (0 : Int)); omega)) (by decide))) ?_
    refine Go.next (f' := (5, [some (.ref 0), some (.int x1), some (.int x2)], [.int x1])) (w' := fr_w) ((ex_stp (ins := .iload_n 1) rfl).trans rfl) ?_
    refine Go.next (f' := (7, [some (.ref 0), some (.int x1), some (.int x2)], [.int 10, .int x1])) (w' := fr_w) ((ex_stp (ins := .bipush 10) rfl).trans rfl) ?_
    refine Go.next (f' := (10, [some (.ref 0), some (.int x1), some (.int x2)], [])) (w' := fr_w) ((ex_stp (ins := .if_icmp .gt 14) rfl).trans (ex_b2_f (c := .gt) (off := 14) (pc := 7) (lo := [some (.ref 0), some (.int x1), some (.int x2)]) (x := x1) (y := 10) (r := []) (by rw [c2_gt]; exact decide_eq_false (by show ¬ ((10 : Int) < x1.toInt); omega)) (by decide))) ?_
    refine Go.next (f' := (11, [some (.ref 0), some (.int x1), some (.int x2)], [.ref 0])) (w' := fr_w) ((ex_stp (ins := .aload_n 0) rfl).trans rfl) ?_
    refine Go.next (f' := (14, [some (.ref 0), some (.int x1), some (.int x2)], [.ref 1])) (w' := fr_w) ((ex_stp (ins := .getfield 10) rfl).trans rfl) ?_
    refine Go.next (f' := (15, [some (.ref 0), some (.int x1), some (.int x2)], [.int x2, .ref 1])) (w' := fr_w) ((ex_stp (ins := .iload_n 2) rfl).trans rfl) ?_
    have h_121 : Go [] 38 mt_101 (ex_ent mt_101 [.ref 1, .int x2]) fr_w (some (.int 0), fr_w) := by
      show Go [] 38 mt_101 (0, [some (.ref 1), some (.int x2)], []) fr_w _
      refine Go.next (f' := (1, [some (.ref 1), some (.int x2)], [.int x2])) (w' := fr_w) ((ex_stp (ins := .iload_n 1) rfl).trans rfl) ?_
      refine Go.next (f' := (2, [some (.ref 1), some (.int x2)], [.int 1, .int x2])) (w' := fr_w) ((ex_stp (ins := .iconst 1) rfl).trans rfl) ?_
      refine Go.next (f' := (5, [some (.ref 1), some (.int x2)], [])) (w' := fr_w) ((ex_stp (ins := .if_icmp .lt 21) rfl).trans (ex_b2_f (c := .lt) (off := 21) (pc := 2) (lo := [some (.ref 1), some (.int x2)]) (x := x2) (y := 1) (r := []) (by rw [c2_lt]; exact decide_eq_false (by show ¬ (x2.toInt < (1 : Int)); omega)) (by decide))) ?_
      refine Go.next (f' := (6, [some (.ref 1), some (.int x2)], [.int x2])) (w' := fr_w) ((ex_stp (ins := .iload_n 1) rfl).trans rfl) ?_
      refine Go.next (f' := (7, [some (.ref 1), some (.int x2)], [.ref 1, .int x2])) (w' := fr_w) ((ex_stp (ins := .aload_n 0) rfl).trans rfl) ?_
      refine Go.next (f' := (10, [some (.ref 1), some (.int x2)], [.int 12, .int x2])) (w' := fr_w) ((ex_stp (ins := .getfield 33) rfl).trans rfl) ?_
      refine Go.next (f' := (23, [some (.ref 1), some (.int x2)], [])) (w' := fr_w) ((ex_stp (ins := .if_icmp .gt 13) rfl).trans (ex_b2_t (c := .gt) (off := 13) (pc := 10) (lo := [some (.ref 1), some (.int x2)]) (x := x2) (y := 12) (r := []) (by rw [c2_gt]; exact decide_eq_true (by show (12 : Int) < x2.toInt; omega)) (by decide))) ?_
      refine Go.next (f' := (24, [some (.ref 1), some (.int x2)], [.int 0])) (w' := fr_w) ((ex_stp (ins := .iconst 0) rfl).trans rfl) ?_
      exact Go.ret ((ex_stp (ins := .ireturn) rfl).trans rfl)
    refine Go.call (d := 38) (cal := 101) (as := [.ref 1, .int x2]) (g := (18, [some (.ref 0), some (.int x1), some (.int x2)], [])) (M' := mt_101) (r := some (.int 0)) (w' := fr_w) ((ex_stp (ins := .invokevirtual 132) rfl).trans rfl) rfl (Nat.le_of_ble_eq_true rfl) h_121 ?_
    show Go [] 39 mt_57 (18, [some (.ref 0), some (.int x1), some (.int x2)], [.int 0]) fr_w _
    refine Go.next (f' := (21, [some (.ref 0), some (.int x1), some (.int x2)], [])) (w' := fr_w) ((ex_stp (ins := .ifCond .ne 5) rfl).trans rfl) ?_
    refine Go.next (f' := (22, [some (.ref 0), some (.int x1), some (.int x2)], [.int (-1)])) (w' := fr_w) ((ex_stp (ins := .iconst (-1)) rfl).trans rfl) ?_
    exact Go.ret ((ex_stp (ins := .ireturn) rfl).trans rfl)
  · show Go [] 39 mt_58 (0, [some (.ref 59), some (.int x1), some (.int x2)], []) fr_w _
    refine Go.next (f' := (1, [some (.ref 59), some (.int x1), some (.int x2)], [.int x1])) (w' := fr_w) ((ex_stp (ins := .iload_n 1) rfl).trans rfl) ?_
    refine Go.next (f' := (2, [some (.ref 59), some (.int x1), some (.int x2)], [.long (x1).toInt64])) (w' := fr_w) ((ex_stp (ins := .i2l) rfl).trans rfl) ?_
    refine Go.next (f' := (3, [some (.ref 59), some (.int x1), some (.int x2)], [.long 0, .long (x1).toInt64])) (w' := fr_w) ((ex_stp (ins := .lconst 0) rfl).trans rfl) ?_
    refine Go.next (f' := (6, [some (.ref 59), some (.int x1), some (.int x2)], [.long 10, .long 0, .long (x1).toInt64])) (w' := fr_w) ((ex_stp (ins := .ldc2_w 231) rfl).trans rfl) ?_
    have h_122 : Go [] 38 mt_93 (ex_ent mt_93 [.long (x1).toInt64, .long 0, .long 10]) fr_w (some (.int 1), fr_w) := by
      show Go [] 38 mt_93 (0, [some (.long (x1).toInt64), none, some (.long 0), none, some (.long 10), none], []) fr_w _
      refine Go.next (f' := (1, [some (.long (x1).toInt64), none, some (.long 0), none, some (.long 10), none], [.long (x1).toInt64])) (w' := fr_w) ((ex_stp (ins := .lload_n 0) rfl).trans rfl) ?_
      refine Go.next (f' := (2, [some (.long (x1).toInt64), none, some (.long 0), none, some (.long 10), none], [.long 0, .long (x1).toInt64])) (w' := fr_w) ((ex_stp (ins := .lload_n 2) rfl).trans rfl) ?_
      refine Go.next (f' := (3, [some (.long (x1).toInt64), none, some (.long 0), none, some (.long 10), none], [.int (lg_cmp (x1).toInt64 0)])) (w' := fr_w) ((ex_stp (ins := .lcmp) rfl).trans rfl) ?_
      refine Go.next (f' := (6, [some (.long (x1).toInt64), none, some (.long 0), none, some (.long 10), none], [])) (w' := fr_w) ((ex_stp (ins := .ifCond .lt 14) rfl).trans (ex_b0_f (c := .lt) (off := 14) (pc := 3) (lo := [some (.long (x1).toInt64), none, some (.long 0), none, some (.long 10), none]) (x := (lg_cmp (x1).toInt64 0)) (r := []) (by rw [cl_lt]; exact decide_eq_false (by first | (rw [Int32.toInt_toInt64]; show ¬ (x1.toInt < (0 : Int)); omega) | omega)) (by decide))) ?_
      refine Go.next (f' := (7, [some (.long (x1).toInt64), none, some (.long 0), none, some (.long 10), none], [.long (x1).toInt64])) (w' := fr_w) ((ex_stp (ins := .lload_n 0) rfl).trans rfl) ?_
      refine Go.next (f' := (9, [some (.long (x1).toInt64), none, some (.long 0), none, some (.long 10), none], [.long 10, .long (x1).toInt64])) (w' := fr_w) ((ex_stp (ins := .lload 4) rfl).trans rfl) ?_
      refine Go.next (f' := (10, [some (.long (x1).toInt64), none, some (.long 0), none, some (.long 10), none], [.int (lg_cmp (x1).toInt64 10)])) (w' := fr_w) ((ex_stp (ins := .lcmp) rfl).trans rfl) ?_
      refine Go.next (f' := (13, [some (.long (x1).toInt64), none, some (.long 0), none, some (.long 10), none], [])) (w' := fr_w) ((ex_stp (ins := .ifCond .gt 7) rfl).trans (ex_b0_f (c := .gt) (off := 7) (pc := 10) (lo := [some (.long (x1).toInt64), none, some (.long 0), none, some (.long 10), none]) (x := (lg_cmp (x1).toInt64 10)) (r := []) (by rw [cl_gt]; exact decide_eq_false (by first | (rw [Int32.toInt_toInt64]; show ¬ ((10 : Int) < x1.toInt); omega) | omega)) (by decide))) ?_
      refine Go.next (f' := (14, [some (.long (x1).toInt64), none, some (.long 0), none, some (.long 10), none], [.int 1])) (w' := fr_w) ((ex_stp (ins := .iconst 1) rfl).trans rfl) ?_
      refine Go.next (f' := (18, [some (.long (x1).toInt64), none, some (.long 0), none, some (.long 10), none], [.int 1])) (w' := fr_w) ((ex_stp (ins := .goto 4) rfl).trans rfl) ?_
      exact Go.ret ((ex_stp (ins := .ireturn) rfl).trans rfl)
    refine Go.call (d := 38) (cal := 93) (as := [.long (x1).toInt64, .long 0, .long 10]) (g := (9, [some (.ref 59), some (.int x1), some (.int x2)], [])) (M' := mt_93) (r := some (.int 1)) (w' := fr_w) ((ex_stp (ins := .invokestatic 95) rfl).trans rfl) rfl (Nat.le_of_ble_eq_true rfl) h_122 ?_
    show Go [] 39 mt_58 (9, [some (.ref 59), some (.int x1), some (.int x2)], [.int 1]) fr_w _
    refine Go.next (f' := (12, [some (.ref 59), some (.int x1), some (.int x2)], [])) (w' := fr_w) ((ex_stp (ins := .ifCond .eq 11) rfl).trans rfl) ?_
    refine Go.next (f' := (13, [some (.ref 59), some (.int x1), some (.int x2)], [.ref 59])) (w' := fr_w) ((ex_stp (ins := .aload_n 0) rfl).trans rfl) ?_
    refine Go.next (f' := (14, [some (.ref 59), some (.int x1), some (.int x2)], [.int x2, .ref 59])) (w' := fr_w) ((ex_stp (ins := .iload_n 2) rfl).trans rfl) ?_
    have h_123 : Go [] 38 mt_102 (ex_ent mt_102 [.ref 59, .int x2]) fr_w (some (.int 0), fr_w) := by
      show Go [] 38 mt_102 (0, [some (.ref 59), some (.int x2)], []) fr_w _
      refine Go.next (f' := (1, [some (.ref 59), some (.int x2)], [.int x2])) (w' := fr_w) ((ex_stp (ins := .iload_n 1) rfl).trans rfl) ?_
      refine Go.next (f' := (2, [some (.ref 59), some (.int x2)], [.long (x2).toInt64])) (w' := fr_w) ((ex_stp (ins := .i2l) rfl).trans rfl) ?_
      refine Go.next (f' := (3, [some (.ref 59), some (.int x2)], [.long 1, .long (x2).toInt64])) (w' := fr_w) ((ex_stp (ins := .lconst 1) rfl).trans rfl) ?_
      refine Go.next (f' := (4, [some (.ref 59), some (.int x2)], [.ref 59, .long 1, .long (x2).toInt64])) (w' := fr_w) ((ex_stp (ins := .aload_n 0) rfl).trans rfl) ?_
      refine Go.next (f' := (7, [some (.ref 59), some (.int x2)], [.int 12, .long 1, .long (x2).toInt64])) (w' := fr_w) ((ex_stp (ins := .getfield 81) rfl).trans rfl) ?_
      refine Go.next (f' := (8, [some (.ref 59), some (.int x2)], [.long 12, .long 1, .long (x2).toInt64])) (w' := fr_w) ((ex_stp (ins := .i2l) rfl).trans rfl) ?_
      have h_124 : Go [] 37 mt_93 (ex_ent mt_93 [.long (x2).toInt64, .long 1, .long 12]) fr_w (some (.int 0), fr_w) := by
        show Go [] 37 mt_93 (0, [some (.long (x2).toInt64), none, some (.long 1), none, some (.long 12), none], []) fr_w _
        refine Go.next (f' := (1, [some (.long (x2).toInt64), none, some (.long 1), none, some (.long 12), none], [.long (x2).toInt64])) (w' := fr_w) ((ex_stp (ins := .lload_n 0) rfl).trans rfl) ?_
        refine Go.next (f' := (2, [some (.long (x2).toInt64), none, some (.long 1), none, some (.long 12), none], [.long 1, .long (x2).toInt64])) (w' := fr_w) ((ex_stp (ins := .lload_n 2) rfl).trans rfl) ?_
        refine Go.next (f' := (3, [some (.long (x2).toInt64), none, some (.long 1), none, some (.long 12), none], [.int (lg_cmp (x2).toInt64 1)])) (w' := fr_w) ((ex_stp (ins := .lcmp) rfl).trans rfl) ?_
        refine Go.next (f' := (6, [some (.long (x2).toInt64), none, some (.long 1), none, some (.long 12), none], [])) (w' := fr_w) ((ex_stp (ins := .ifCond .lt 14) rfl).trans (ex_b0_f (c := .lt) (off := 14) (pc := 3) (lo := [some (.long (x2).toInt64), none, some (.long 1), none, some (.long 12), none]) (x := (lg_cmp (x2).toInt64 1)) (r := []) (by rw [cl_lt]; exact decide_eq_false (by first | (rw [Int32.toInt_toInt64]; show ¬ (x2.toInt < (1 : Int)); omega) | omega)) (by decide))) ?_
        refine Go.next (f' := (7, [some (.long (x2).toInt64), none, some (.long 1), none, some (.long 12), none], [.long (x2).toInt64])) (w' := fr_w) ((ex_stp (ins := .lload_n 0) rfl).trans rfl) ?_
        refine Go.next (f' := (9, [some (.long (x2).toInt64), none, some (.long 1), none, some (.long 12), none], [.long 12, .long (x2).toInt64])) (w' := fr_w) ((ex_stp (ins := .lload 4) rfl).trans rfl) ?_
        refine Go.next (f' := (10, [some (.long (x2).toInt64), none, some (.long 1), none, some (.long 12), none], [.int (lg_cmp (x2).toInt64 12)])) (w' := fr_w) ((ex_stp (ins := .lcmp) rfl).trans rfl) ?_
        refine Go.next (f' := (17, [some (.long (x2).toInt64), none, some (.long 1), none, some (.long 12), none], [])) (w' := fr_w) ((ex_stp (ins := .ifCond .gt 7) rfl).trans (ex_b0_t (c := .gt) (off := 7) (pc := 10) (lo := [some (.long (x2).toInt64), none, some (.long 1), none, some (.long 12), none]) (x := (lg_cmp (x2).toInt64 12)) (r := []) (by rw [cl_gt]; exact decide_eq_true (by first | (rw [Int32.toInt_toInt64]; show (12 : Int) < x2.toInt; omega) | omega)) (by decide))) ?_
        refine Go.next (f' := (18, [some (.long (x2).toInt64), none, some (.long 1), none, some (.long 12), none], [.int 0])) (w' := fr_w) ((ex_stp (ins := .iconst 0) rfl).trans rfl) ?_
        exact Go.ret ((ex_stp (ins := .ireturn) rfl).trans rfl)
      refine Go.call (d := 37) (cal := 93) (as := [.long (x2).toInt64, .long 1, .long 12]) (g := (11, [some (.ref 59), some (.int x2)], [])) (M' := mt_93) (r := some (.int 0)) (w' := fr_w) ((ex_stp (ins := .invokestatic 95) rfl).trans rfl) rfl (Nat.le_of_ble_eq_true rfl) h_124 ?_
      show Go [] 38 mt_102 (11, [some (.ref 59), some (.int x2)], [.int 0]) fr_w _
      exact Go.ret ((ex_stp (ins := .ireturn) rfl).trans rfl)
    refine Go.call (d := 38) (cal := 102) (as := [.ref 59, .int x2]) (g := (17, [some (.ref 59), some (.int x1), some (.int x2)], [])) (M' := mt_102) (r := some (.int 0)) (w' := fr_w) ((ex_stp (ins := .invokevirtual 187) rfl).trans rfl) rfl (Nat.le_of_ble_eq_true rfl) h_123 ?_
    show Go [] 39 mt_58 (17, [some (.ref 59), some (.int x1), some (.int x2)], [.int 0]) fr_w _
    refine Go.next (f' := (20, [some (.ref 59), some (.int x1), some (.int x2)], [])) (w' := fr_w) ((ex_stp (ins := .ifCond .ne 5) rfl).trans rfl) ?_
    refine Go.next (f' := (21, [some (.ref 59), some (.int x1), some (.int x2)], [.int (-1)])) (w' := fr_w) ((ex_stp (ins := .iconst (-1)) rfl).trans rfl) ?_
    exact Go.ret ((ex_stp (ins := .ireturn) rfl).trans rfl)
set_option maxRecDepth 100000 in
theorem ao_28_a (x1 : Int32) (g0 : x1.toInt < 0) : A2 mt_59 mt_60 [.int x1] := by
  refine ⟨(-1), fr_w, fr_w, _, ?_, rfl, ?_⟩
  · show Go [] 39 mt_59 (0, [some (.ref 0), some (.int x1), none, none, none, none, none, none], []) fr_w _
    refine Go.next (f' := (1, [some (.ref 0), some (.int x1), none, none, none, none, none, none], [.int x1])) (w' := fr_w) ((ex_stp (ins := .iload_n 1) rfl).trans rfl) ?_
    refine Go.next (f' := (10, [some (.ref 0), some (.int x1), none, none, none, none, none, none], [])) (w' := fr_w) ((ex_stp (ins := .ifCond .lt 9) rfl).trans (ex_b0_t (c := .lt) (off := 9) (pc := 1) (lo := [some (.ref 0), some (.int x1), none, none, none, none, none, none]) (x := x1) (r := []) (by rw [c0_lt]; exact decide_eq_true (by show x1.toInt < (0 : Int); omega)) (by decide))) ?_
    refine Go.next (f' := (11, [some (.ref 0), some (.int x1), none, none, none, none, none, none], [.int (-1)])) (w' := fr_w) ((ex_stp (ins := .iconst (-1)) rfl).trans rfl) ?_
    exact Go.ret ((ex_stp (ins := .ireturn) rfl).trans rfl)
  · show Go [] 39 mt_60 (0, [some (.ref 59), some (.int x1), none, none, none], []) fr_w _
    refine Go.next (f' := (1, [some (.ref 59), some (.int x1), none, none, none], [.int x1])) (w' := fr_w) ((ex_stp (ins := .iload_n 1) rfl).trans rfl) ?_
    refine Go.next (f' := (2, [some (.ref 59), some (.int x1), none, none, none], [.long (x1).toInt64])) (w' := fr_w) ((ex_stp (ins := .i2l) rfl).trans rfl) ?_
    refine Go.next (f' := (3, [some (.ref 59), some (.int x1), none, none, none], [.long 0, .long (x1).toInt64])) (w' := fr_w) ((ex_stp (ins := .lconst 0) rfl).trans rfl) ?_
    refine Go.next (f' := (6, [some (.ref 59), some (.int x1), none, none, none], [.long 10, .long 0, .long (x1).toInt64])) (w' := fr_w) ((ex_stp (ins := .ldc2_w 231) rfl).trans rfl) ?_
    have h_125 : Go [] 38 mt_93 (ex_ent mt_93 [.long (x1).toInt64, .long 0, .long 10]) fr_w (some (.int 0), fr_w) := by
      show Go [] 38 mt_93 (0, [some (.long (x1).toInt64), none, some (.long 0), none, some (.long 10), none], []) fr_w _
      refine Go.next (f' := (1, [some (.long (x1).toInt64), none, some (.long 0), none, some (.long 10), none], [.long (x1).toInt64])) (w' := fr_w) ((ex_stp (ins := .lload_n 0) rfl).trans rfl) ?_
      refine Go.next (f' := (2, [some (.long (x1).toInt64), none, some (.long 0), none, some (.long 10), none], [.long 0, .long (x1).toInt64])) (w' := fr_w) ((ex_stp (ins := .lload_n 2) rfl).trans rfl) ?_
      refine Go.next (f' := (3, [some (.long (x1).toInt64), none, some (.long 0), none, some (.long 10), none], [.int (lg_cmp (x1).toInt64 0)])) (w' := fr_w) ((ex_stp (ins := .lcmp) rfl).trans rfl) ?_
      refine Go.next (f' := (17, [some (.long (x1).toInt64), none, some (.long 0), none, some (.long 10), none], [])) (w' := fr_w) ((ex_stp (ins := .ifCond .lt 14) rfl).trans (ex_b0_t (c := .lt) (off := 14) (pc := 3) (lo := [some (.long (x1).toInt64), none, some (.long 0), none, some (.long 10), none]) (x := (lg_cmp (x1).toInt64 0)) (r := []) (by rw [cl_lt]; exact decide_eq_true (by first | (rw [Int32.toInt_toInt64]; show x1.toInt < (0 : Int); omega) | omega)) (by decide))) ?_
      refine Go.next (f' := (18, [some (.long (x1).toInt64), none, some (.long 0), none, some (.long 10), none], [.int 0])) (w' := fr_w) ((ex_stp (ins := .iconst 0) rfl).trans rfl) ?_
      exact Go.ret ((ex_stp (ins := .ireturn) rfl).trans rfl)
    refine Go.call (d := 38) (cal := 93) (as := [.long (x1).toInt64, .long 0, .long 10]) (g := (9, [some (.ref 59), some (.int x1), none, none, none], [])) (M' := mt_93) (r := some (.int 0)) (w' := fr_w) ((ex_stp (ins := .invokestatic 95) rfl).trans rfl) rfl (Nat.le_of_ble_eq_true rfl) h_125 ?_
    show Go [] 39 mt_60 (9, [some (.ref 59), some (.int x1), none, none, none], [.int 0]) fr_w _
    refine Go.next (f' := (12, [some (.ref 59), some (.int x1), none, none, none], [])) (w' := fr_w) ((ex_stp (ins := .ifCond .ne 5) rfl).trans rfl) ?_
    refine Go.next (f' := (13, [some (.ref 59), some (.int x1), none, none, none], [.int (-1)])) (w' := fr_w) ((ex_stp (ins := .iconst (-1)) rfl).trans rfl) ?_
    exact Go.ret ((ex_stp (ins := .ireturn) rfl).trans rfl)
set_option maxRecDepth 100000 in
theorem ao_28_b (x1 : Int32) (g0 : 10 < x1.toInt) : A2 mt_59 mt_60 [.int x1] := by
  refine ⟨(-1), fr_w, fr_w, _, ?_, rfl, ?_⟩
  · show Go [] 39 mt_59 (0, [some (.ref 0), some (.int x1), none, none, none, none, none, none], []) fr_w _
    refine Go.next (f' := (1, [some (.ref 0), some (.int x1), none, none, none, none, none, none], [.int x1])) (w' := fr_w) ((ex_stp (ins := .iload_n 1) rfl).trans rfl) ?_
    refine Go.next (f' := (4, [some (.ref 0), some (.int x1), none, none, none, none, none, none], [])) (w' := fr_w) ((ex_stp (ins := .ifCond .lt 9) rfl).trans (ex_b0_f (c := .lt) (off := 9) (pc := 1) (lo := [some (.ref 0), some (.int x1), none, none, none, none, none, none]) (x := x1) (r := []) (by rw [c0_lt]; exact decide_eq_false (by show ¬ (x1.toInt < (0 : Int)); omega)) (by decide))) ?_
    refine Go.next (f' := (5, [some (.ref 0), some (.int x1), none, none, none, none, none, none], [.int x1])) (w' := fr_w) ((ex_stp (ins := .iload_n 1) rfl).trans rfl) ?_
    refine Go.next (f' := (7, [some (.ref 0), some (.int x1), none, none, none, none, none, none], [.int 10, .int x1])) (w' := fr_w) ((ex_stp (ins := .bipush 10) rfl).trans rfl) ?_
    refine Go.next (f' := (10, [some (.ref 0), some (.int x1), none, none, none, none, none, none], [])) (w' := fr_w) ((ex_stp (ins := .if_icmp .le 5) rfl).trans (ex_b2_f (c := .le) (off := 5) (pc := 7) (lo := [some (.ref 0), some (.int x1), none, none, none, none, none, none]) (x := x1) (y := 10) (r := []) (by rw [c2_le]; exact decide_eq_false (by show ¬ (x1.toInt ≤ (10 : Int)); omega)) (by decide))) ?_
    refine Go.next (f' := (11, [some (.ref 0), some (.int x1), none, none, none, none, none, none], [.int (-1)])) (w' := fr_w) ((ex_stp (ins := .iconst (-1)) rfl).trans rfl) ?_
    exact Go.ret ((ex_stp (ins := .ireturn) rfl).trans rfl)
  · show Go [] 39 mt_60 (0, [some (.ref 59), some (.int x1), none, none, none], []) fr_w _
    refine Go.next (f' := (1, [some (.ref 59), some (.int x1), none, none, none], [.int x1])) (w' := fr_w) ((ex_stp (ins := .iload_n 1) rfl).trans rfl) ?_
    refine Go.next (f' := (2, [some (.ref 59), some (.int x1), none, none, none], [.long (x1).toInt64])) (w' := fr_w) ((ex_stp (ins := .i2l) rfl).trans rfl) ?_
    refine Go.next (f' := (3, [some (.ref 59), some (.int x1), none, none, none], [.long 0, .long (x1).toInt64])) (w' := fr_w) ((ex_stp (ins := .lconst 0) rfl).trans rfl) ?_
    refine Go.next (f' := (6, [some (.ref 59), some (.int x1), none, none, none], [.long 10, .long 0, .long (x1).toInt64])) (w' := fr_w) ((ex_stp (ins := .ldc2_w 231) rfl).trans rfl) ?_
    have h_126 : Go [] 38 mt_93 (ex_ent mt_93 [.long (x1).toInt64, .long 0, .long 10]) fr_w (some (.int 0), fr_w) := by
      show Go [] 38 mt_93 (0, [some (.long (x1).toInt64), none, some (.long 0), none, some (.long 10), none], []) fr_w _
      refine Go.next (f' := (1, [some (.long (x1).toInt64), none, some (.long 0), none, some (.long 10), none], [.long (x1).toInt64])) (w' := fr_w) ((ex_stp (ins := .lload_n 0) rfl).trans rfl) ?_
      refine Go.next (f' := (2, [some (.long (x1).toInt64), none, some (.long 0), none, some (.long 10), none], [.long 0, .long (x1).toInt64])) (w' := fr_w) ((ex_stp (ins := .lload_n 2) rfl).trans rfl) ?_
      refine Go.next (f' := (3, [some (.long (x1).toInt64), none, some (.long 0), none, some (.long 10), none], [.int (lg_cmp (x1).toInt64 0)])) (w' := fr_w) ((ex_stp (ins := .lcmp) rfl).trans rfl) ?_
      refine Go.next (f' := (6, [some (.long (x1).toInt64), none, some (.long 0), none, some (.long 10), none], [])) (w' := fr_w) ((ex_stp (ins := .ifCond .lt 14) rfl).trans (ex_b0_f (c := .lt) (off := 14) (pc := 3) (lo := [some (.long (x1).toInt64), none, some (.long 0), none, some (.long 10), none]) (x := (lg_cmp (x1).toInt64 0)) (r := []) (by rw [cl_lt]; exact decide_eq_false (by first | (rw [Int32.toInt_toInt64]; show ¬ (x1.toInt < (0 : Int)); omega) | omega)) (by decide))) ?_
      refine Go.next (f' := (7, [some (.long (x1).toInt64), none, some (.long 0), none, some (.long 10), none], [.long (x1).toInt64])) (w' := fr_w) ((ex_stp (ins := .lload_n 0) rfl).trans rfl) ?_
      refine Go.next (f' := (9, [some (.long (x1).toInt64), none, some (.long 0), none, some (.long 10), none], [.long 10, .long (x1).toInt64])) (w' := fr_w) ((ex_stp (ins := .lload 4) rfl).trans rfl) ?_
      refine Go.next (f' := (10, [some (.long (x1).toInt64), none, some (.long 0), none, some (.long 10), none], [.int (lg_cmp (x1).toInt64 10)])) (w' := fr_w) ((ex_stp (ins := .lcmp) rfl).trans rfl) ?_
      refine Go.next (f' := (17, [some (.long (x1).toInt64), none, some (.long 0), none, some (.long 10), none], [])) (w' := fr_w) ((ex_stp (ins := .ifCond .gt 7) rfl).trans (ex_b0_t (c := .gt) (off := 7) (pc := 10) (lo := [some (.long (x1).toInt64), none, some (.long 0), none, some (.long 10), none]) (x := (lg_cmp (x1).toInt64 10)) (r := []) (by rw [cl_gt]; exact decide_eq_true (by first | (rw [Int32.toInt_toInt64]; show (10 : Int) < x1.toInt; omega) | omega)) (by decide))) ?_
      refine Go.next (f' := (18, [some (.long (x1).toInt64), none, some (.long 0), none, some (.long 10), none], [.int 0])) (w' := fr_w) ((ex_stp (ins := .iconst 0) rfl).trans rfl) ?_
      exact Go.ret ((ex_stp (ins := .ireturn) rfl).trans rfl)
    refine Go.call (d := 38) (cal := 93) (as := [.long (x1).toInt64, .long 0, .long 10]) (g := (9, [some (.ref 59), some (.int x1), none, none, none], [])) (M' := mt_93) (r := some (.int 0)) (w' := fr_w) ((ex_stp (ins := .invokestatic 95) rfl).trans rfl) rfl (Nat.le_of_ble_eq_true rfl) h_126 ?_
    show Go [] 39 mt_60 (9, [some (.ref 59), some (.int x1), none, none, none], [.int 0]) fr_w _
    refine Go.next (f' := (12, [some (.ref 59), some (.int x1), none, none, none], [])) (w' := fr_w) ((ex_stp (ins := .ifCond .ne 5) rfl).trans rfl) ?_
    refine Go.next (f' := (13, [some (.ref 59), some (.int x1), none, none, none], [.int (-1)])) (w' := fr_w) ((ex_stp (ins := .iconst (-1)) rfl).trans rfl) ?_
    exact Go.ret ((ex_stp (ins := .ireturn) rfl).trans rfl)
set_option maxRecDepth 100000 in
theorem ao_29_a (x1 x2 : Int32) (g0 : x1.toInt < 0) : A2 mt_61 mt_62 [.int x1, .int x2] := by
  refine ⟨(-1), fr_w, fr_w, _, ?_, rfl, ?_⟩
  · show Go [] 39 mt_61 (0, [some (.ref 0), some (.int x1), some (.int x2)], []) fr_w _
    refine Go.next (f' := (1, [some (.ref 0), some (.int x1), some (.int x2)], [.ref 0])) (w' := fr_w) ((ex_stp (ins := .aload_n 0) rfl).trans rfl) ?_
    refine Go.next (f' := (4, [some (.ref 0), some (.int x1), some (.int x2)], [.ref 1])) (w' := fr_w) ((ex_stp (ins := .getfield 10) rfl).trans rfl) ?_
    refine Go.next (f' := (5, [some (.ref 0), some (.int x1), some (.int x2)], [.int x1, .ref 1])) (w' := fr_w) ((ex_stp (ins := .iload_n 1) rfl).trans rfl) ?_
    have h_127 : Go [] 38 mt_99 (ex_ent mt_99 [.ref 1, .int x1]) fr_w (some (.int 0), fr_w) := by
      show Go [] 38 mt_99 (0, [some (.ref 1), some (.int x1)], []) fr_w _
      refine Go.next (f' := (1, [some (.ref 1), some (.int x1)], [.int x1])) (w' := fr_w) ((ex_stp (ins := .iload_n 1) rfl).trans rfl) ?_
      refine Go.next (f' := (21, [some (.ref 1), some (.int x1)], [])) (w' := fr_w) ((ex_stp (ins := .ifCond .lt 20) rfl).trans (ex_b0_t (c := .lt) (off := 20) (pc := 1) (lo := [some (.ref 1), some (.int x1)]) (x := x1) (r := []) (by rw [c0_lt]; exact decide_eq_true (by show x1.toInt < (0 : Int); omega)) (by decide))) ?_
      refine Go.next (f' := (22, [some (.ref 1), some (.int x1)], [.int 0])) (w' := fr_w) ((ex_stp (ins := .iconst 0) rfl).trans rfl) ?_
      exact Go.ret ((ex_stp (ins := .ireturn) rfl).trans rfl)
    refine Go.call (d := 38) (cal := 99) (as := [.ref 1, .int x1]) (g := (8, [some (.ref 0), some (.int x1), some (.int x2)], [])) (M' := mt_99) (r := some (.int 0)) (w' := fr_w) ((ex_stp (ins := .invokevirtual 125) rfl).trans rfl) rfl (Nat.le_of_ble_eq_true rfl) h_127 ?_
    show Go [] 39 mt_61 (8, [some (.ref 0), some (.int x1), some (.int x2)], [.int 0]) fr_w _
    refine Go.next (f' := (20, [some (.ref 0), some (.int x1), some (.int x2)], [])) (w' := fr_w) ((ex_stp (ins := .ifCond .eq 12) rfl).trans rfl) ?_
    refine Go.next (f' := (21, [some (.ref 0), some (.int x1), some (.int x2)], [.int (-1)])) (w' := fr_w) ((ex_stp (ins := .iconst (-1)) rfl).trans rfl) ?_
    exact Go.ret ((ex_stp (ins := .ireturn) rfl).trans rfl)
  · show Go [] 39 mt_62 (0, [some (.ref 59), some (.int x1), some (.int x2), none], []) fr_w _
    refine Go.next (f' := (1, [some (.ref 59), some (.int x1), some (.int x2), none], [.ref 59])) (w' := fr_w) ((ex_stp (ins := .aload_n 0) rfl).trans rfl) ?_
    refine Go.next (f' := (2, [some (.ref 59), some (.int x1), some (.int x2), none], [.int x1, .ref 59])) (w' := fr_w) ((ex_stp (ins := .iload_n 1) rfl).trans rfl) ?_
    have h_128 : Go [] 38 mt_100 (ex_ent mt_100 [.ref 59, .int x1]) fr_w (some (.int 0), fr_w) := by
      show Go [] 38 mt_100 (0, [some (.ref 59), some (.int x1)], []) fr_w _
      refine Go.next (f' := (1, [some (.ref 59), some (.int x1)], [.int x1])) (w' := fr_w) ((ex_stp (ins := .iload_n 1) rfl).trans rfl) ?_
      refine Go.next (f' := (2, [some (.ref 59), some (.int x1)], [.long (x1).toInt64])) (w' := fr_w) ((ex_stp (ins := .i2l) rfl).trans rfl) ?_
      refine Go.next (f' := (3, [some (.ref 59), some (.int x1)], [.long 0, .long (x1).toInt64])) (w' := fr_w) ((ex_stp (ins := .lconst 0) rfl).trans rfl) ?_
      refine Go.next (f' := (4, [some (.ref 59), some (.int x1)], [.ref 59, .long 0, .long (x1).toInt64])) (w' := fr_w) ((ex_stp (ins := .aload_n 0) rfl).trans rfl) ?_
      refine Go.next (f' := (7, [some (.ref 59), some (.int x1)], [.int 2, .long 0, .long (x1).toInt64])) (w' := fr_w) ((ex_stp (ins := .getfield 84) rfl).trans rfl) ?_
      refine Go.next (f' := (8, [some (.ref 59), some (.int x1)], [.int 1, .int 2, .long 0, .long (x1).toInt64])) (w' := fr_w) ((ex_stp (ins := .iconst 1) rfl).trans rfl) ?_
      refine Go.next (f' := (9, [some (.ref 59), some (.int x1)], [.int 1, .long 0, .long (x1).toInt64])) (w' := fr_w) ((ex_stp (ins := .isub) rfl).trans rfl) ?_
      refine Go.next (f' := (10, [some (.ref 59), some (.int x1)], [.long 1, .long 0, .long (x1).toInt64])) (w' := fr_w) ((ex_stp (ins := .i2l) rfl).trans rfl) ?_
      have h_129 : Go [] 37 mt_93 (ex_ent mt_93 [.long (x1).toInt64, .long 0, .long 1]) fr_w (some (.int 0), fr_w) := by
        show Go [] 37 mt_93 (0, [some (.long (x1).toInt64), none, some (.long 0), none, some (.long 1), none], []) fr_w _
        refine Go.next (f' := (1, [some (.long (x1).toInt64), none, some (.long 0), none, some (.long 1), none], [.long (x1).toInt64])) (w' := fr_w) ((ex_stp (ins := .lload_n 0) rfl).trans rfl) ?_
        refine Go.next (f' := (2, [some (.long (x1).toInt64), none, some (.long 0), none, some (.long 1), none], [.long 0, .long (x1).toInt64])) (w' := fr_w) ((ex_stp (ins := .lload_n 2) rfl).trans rfl) ?_
        refine Go.next (f' := (3, [some (.long (x1).toInt64), none, some (.long 0), none, some (.long 1), none], [.int (lg_cmp (x1).toInt64 0)])) (w' := fr_w) ((ex_stp (ins := .lcmp) rfl).trans rfl) ?_
        refine Go.next (f' := (17, [some (.long (x1).toInt64), none, some (.long 0), none, some (.long 1), none], [])) (w' := fr_w) ((ex_stp (ins := .ifCond .lt 14) rfl).trans (ex_b0_t (c := .lt) (off := 14) (pc := 3) (lo := [some (.long (x1).toInt64), none, some (.long 0), none, some (.long 1), none]) (x := (lg_cmp (x1).toInt64 0)) (r := []) (by rw [cl_lt]; exact decide_eq_true (by first | (rw [Int32.toInt_toInt64]; show x1.toInt < (0 : Int); omega) | omega)) (by decide))) ?_
        refine Go.next (f' := (18, [some (.long (x1).toInt64), none, some (.long 0), none, some (.long 1), none], [.int 0])) (w' := fr_w) ((ex_stp (ins := .iconst 0) rfl).trans rfl) ?_
        exact Go.ret ((ex_stp (ins := .ireturn) rfl).trans rfl)
      refine Go.call (d := 37) (cal := 93) (as := [.long (x1).toInt64, .long 0, .long 1]) (g := (13, [some (.ref 59), some (.int x1)], [])) (M' := mt_93) (r := some (.int 0)) (w' := fr_w) ((ex_stp (ins := .invokestatic 95) rfl).trans rfl) rfl (Nat.le_of_ble_eq_true rfl) h_129 ?_
      show Go [] 38 mt_100 (13, [some (.ref 59), some (.int x1)], [.int 0]) fr_w _
      exact Go.ret ((ex_stp (ins := .ireturn) rfl).trans rfl)
    refine Go.call (d := 38) (cal := 100) (as := [.ref 59, .int x1]) (g := (5, [some (.ref 59), some (.int x1), some (.int x2), none], [])) (M' := mt_100) (r := some (.int 0)) (w' := fr_w) ((ex_stp (ins := .invokevirtual 183) rfl).trans rfl) rfl (Nat.le_of_ble_eq_true rfl) h_128 ?_
    show Go [] 39 mt_62 (5, [some (.ref 59), some (.int x1), some (.int x2), none], [.int 0]) fr_w _
    refine Go.next (f' := (20, [some (.ref 59), some (.int x1), some (.int x2), none], [])) (w' := fr_w) ((ex_stp (ins := .ifCond .eq 15) rfl).trans rfl) ?_
    refine Go.next (f' := (21, [some (.ref 59), some (.int x1), some (.int x2), none], [.int (-1)])) (w' := fr_w) ((ex_stp (ins := .iconst (-1)) rfl).trans rfl) ?_
    exact Go.ret ((ex_stp (ins := .ireturn) rfl).trans rfl)
set_option maxRecDepth 100000 in
theorem ao_29_b (x1 x2 : Int32) (g0 : 1 < x1.toInt) : A2 mt_61 mt_62 [.int x1, .int x2] := by
  refine ⟨(-1), fr_w, fr_w, _, ?_, rfl, ?_⟩
  · show Go [] 39 mt_61 (0, [some (.ref 0), some (.int x1), some (.int x2)], []) fr_w _
    refine Go.next (f' := (1, [some (.ref 0), some (.int x1), some (.int x2)], [.ref 0])) (w' := fr_w) ((ex_stp (ins := .aload_n 0) rfl).trans rfl) ?_
    refine Go.next (f' := (4, [some (.ref 0), some (.int x1), some (.int x2)], [.ref 1])) (w' := fr_w) ((ex_stp (ins := .getfield 10) rfl).trans rfl) ?_
    refine Go.next (f' := (5, [some (.ref 0), some (.int x1), some (.int x2)], [.int x1, .ref 1])) (w' := fr_w) ((ex_stp (ins := .iload_n 1) rfl).trans rfl) ?_
    have h_130 : Go [] 38 mt_99 (ex_ent mt_99 [.ref 1, .int x1]) fr_w (some (.int 0), fr_w) := by
      show Go [] 38 mt_99 (0, [some (.ref 1), some (.int x1)], []) fr_w _
      refine Go.next (f' := (1, [some (.ref 1), some (.int x1)], [.int x1])) (w' := fr_w) ((ex_stp (ins := .iload_n 1) rfl).trans rfl) ?_
      refine Go.next (f' := (4, [some (.ref 1), some (.int x1)], [])) (w' := fr_w) ((ex_stp (ins := .ifCond .lt 20) rfl).trans (ex_b0_f (c := .lt) (off := 20) (pc := 1) (lo := [some (.ref 1), some (.int x1)]) (x := x1) (r := []) (by rw [c0_lt]; exact decide_eq_false (by show ¬ (x1.toInt < (0 : Int)); omega)) (by decide))) ?_
      refine Go.next (f' := (5, [some (.ref 1), some (.int x1)], [.int x1])) (w' := fr_w) ((ex_stp (ins := .iload_n 1) rfl).trans rfl) ?_
      refine Go.next (f' := (6, [some (.ref 1), some (.int x1)], [.ref 1, .int x1])) (w' := fr_w) ((ex_stp (ins := .aload_n 0) rfl).trans rfl) ?_
      refine Go.next (f' := (9, [some (.ref 1), some (.int x1)], [.int 2, .int x1])) (w' := fr_w) ((ex_stp (ins := .getfield 37) rfl).trans rfl) ?_
      refine Go.next (f' := (21, [some (.ref 1), some (.int x1)], [])) (w' := fr_w) ((ex_stp (ins := .if_icmp .ge 12) rfl).trans (ex_b2_t (c := .ge) (off := 12) (pc := 9) (lo := [some (.ref 1), some (.int x1)]) (x := x1) (y := 2) (r := []) (by rw [c2_ge]; exact decide_eq_true (by show (2 : Int) ≤ x1.toInt; omega)) (by decide))) ?_
      refine Go.next (f' := (22, [some (.ref 1), some (.int x1)], [.int 0])) (w' := fr_w) ((ex_stp (ins := .iconst 0) rfl).trans rfl) ?_
      exact Go.ret ((ex_stp (ins := .ireturn) rfl).trans rfl)
    refine Go.call (d := 38) (cal := 99) (as := [.ref 1, .int x1]) (g := (8, [some (.ref 0), some (.int x1), some (.int x2)], [])) (M' := mt_99) (r := some (.int 0)) (w' := fr_w) ((ex_stp (ins := .invokevirtual 125) rfl).trans rfl) rfl (Nat.le_of_ble_eq_true rfl) h_130 ?_
    show Go [] 39 mt_61 (8, [some (.ref 0), some (.int x1), some (.int x2)], [.int 0]) fr_w _
    refine Go.next (f' := (20, [some (.ref 0), some (.int x1), some (.int x2)], [])) (w' := fr_w) ((ex_stp (ins := .ifCond .eq 12) rfl).trans rfl) ?_
    refine Go.next (f' := (21, [some (.ref 0), some (.int x1), some (.int x2)], [.int (-1)])) (w' := fr_w) ((ex_stp (ins := .iconst (-1)) rfl).trans rfl) ?_
    exact Go.ret ((ex_stp (ins := .ireturn) rfl).trans rfl)
  · show Go [] 39 mt_62 (0, [some (.ref 59), some (.int x1), some (.int x2), none], []) fr_w _
    refine Go.next (f' := (1, [some (.ref 59), some (.int x1), some (.int x2), none], [.ref 59])) (w' := fr_w) ((ex_stp (ins := .aload_n 0) rfl).trans rfl) ?_
    refine Go.next (f' := (2, [some (.ref 59), some (.int x1), some (.int x2), none], [.int x1, .ref 59])) (w' := fr_w) ((ex_stp (ins := .iload_n 1) rfl).trans rfl) ?_
    have h_131 : Go [] 38 mt_100 (ex_ent mt_100 [.ref 59, .int x1]) fr_w (some (.int 0), fr_w) := by
      show Go [] 38 mt_100 (0, [some (.ref 59), some (.int x1)], []) fr_w _
      refine Go.next (f' := (1, [some (.ref 59), some (.int x1)], [.int x1])) (w' := fr_w) ((ex_stp (ins := .iload_n 1) rfl).trans rfl) ?_
      refine Go.next (f' := (2, [some (.ref 59), some (.int x1)], [.long (x1).toInt64])) (w' := fr_w) ((ex_stp (ins := .i2l) rfl).trans rfl) ?_
      refine Go.next (f' := (3, [some (.ref 59), some (.int x1)], [.long 0, .long (x1).toInt64])) (w' := fr_w) ((ex_stp (ins := .lconst 0) rfl).trans rfl) ?_
      refine Go.next (f' := (4, [some (.ref 59), some (.int x1)], [.ref 59, .long 0, .long (x1).toInt64])) (w' := fr_w) ((ex_stp (ins := .aload_n 0) rfl).trans rfl) ?_
      refine Go.next (f' := (7, [some (.ref 59), some (.int x1)], [.int 2, .long 0, .long (x1).toInt64])) (w' := fr_w) ((ex_stp (ins := .getfield 84) rfl).trans rfl) ?_
      refine Go.next (f' := (8, [some (.ref 59), some (.int x1)], [.int 1, .int 2, .long 0, .long (x1).toInt64])) (w' := fr_w) ((ex_stp (ins := .iconst 1) rfl).trans rfl) ?_
      refine Go.next (f' := (9, [some (.ref 59), some (.int x1)], [.int 1, .long 0, .long (x1).toInt64])) (w' := fr_w) ((ex_stp (ins := .isub) rfl).trans rfl) ?_
      refine Go.next (f' := (10, [some (.ref 59), some (.int x1)], [.long 1, .long 0, .long (x1).toInt64])) (w' := fr_w) ((ex_stp (ins := .i2l) rfl).trans rfl) ?_
      have h_132 : Go [] 37 mt_93 (ex_ent mt_93 [.long (x1).toInt64, .long 0, .long 1]) fr_w (some (.int 0), fr_w) := by
        show Go [] 37 mt_93 (0, [some (.long (x1).toInt64), none, some (.long 0), none, some (.long 1), none], []) fr_w _
        refine Go.next (f' := (1, [some (.long (x1).toInt64), none, some (.long 0), none, some (.long 1), none], [.long (x1).toInt64])) (w' := fr_w) ((ex_stp (ins := .lload_n 0) rfl).trans rfl) ?_
        refine Go.next (f' := (2, [some (.long (x1).toInt64), none, some (.long 0), none, some (.long 1), none], [.long 0, .long (x1).toInt64])) (w' := fr_w) ((ex_stp (ins := .lload_n 2) rfl).trans rfl) ?_
        refine Go.next (f' := (3, [some (.long (x1).toInt64), none, some (.long 0), none, some (.long 1), none], [.int (lg_cmp (x1).toInt64 0)])) (w' := fr_w) ((ex_stp (ins := .lcmp) rfl).trans rfl) ?_
        refine Go.next (f' := (6, [some (.long (x1).toInt64), none, some (.long 0), none, some (.long 1), none], [])) (w' := fr_w) ((ex_stp (ins := .ifCond .lt 14) rfl).trans (ex_b0_f (c := .lt) (off := 14) (pc := 3) (lo := [some (.long (x1).toInt64), none, some (.long 0), none, some (.long 1), none]) (x := (lg_cmp (x1).toInt64 0)) (r := []) (by rw [cl_lt]; exact decide_eq_false (by first | (rw [Int32.toInt_toInt64]; show ¬ (x1.toInt < (0 : Int)); omega) | omega)) (by decide))) ?_
        refine Go.next (f' := (7, [some (.long (x1).toInt64), none, some (.long 0), none, some (.long 1), none], [.long (x1).toInt64])) (w' := fr_w) ((ex_stp (ins := .lload_n 0) rfl).trans rfl) ?_
        refine Go.next (f' := (9, [some (.long (x1).toInt64), none, some (.long 0), none, some (.long 1), none], [.long 1, .long (x1).toInt64])) (w' := fr_w) ((ex_stp (ins := .lload 4) rfl).trans rfl) ?_
        refine Go.next (f' := (10, [some (.long (x1).toInt64), none, some (.long 0), none, some (.long 1), none], [.int (lg_cmp (x1).toInt64 1)])) (w' := fr_w) ((ex_stp (ins := .lcmp) rfl).trans rfl) ?_
        refine Go.next (f' := (17, [some (.long (x1).toInt64), none, some (.long 0), none, some (.long 1), none], [])) (w' := fr_w) ((ex_stp (ins := .ifCond .gt 7) rfl).trans (ex_b0_t (c := .gt) (off := 7) (pc := 10) (lo := [some (.long (x1).toInt64), none, some (.long 0), none, some (.long 1), none]) (x := (lg_cmp (x1).toInt64 1)) (r := []) (by rw [cl_gt]; exact decide_eq_true (by first | (rw [Int32.toInt_toInt64]; show (1 : Int) < x1.toInt; omega) | omega)) (by decide))) ?_
        refine Go.next (f' := (18, [some (.long (x1).toInt64), none, some (.long 0), none, some (.long 1), none], [.int 0])) (w' := fr_w) ((ex_stp (ins := .iconst 0) rfl).trans rfl) ?_
        exact Go.ret ((ex_stp (ins := .ireturn) rfl).trans rfl)
      refine Go.call (d := 37) (cal := 93) (as := [.long (x1).toInt64, .long 0, .long 1]) (g := (13, [some (.ref 59), some (.int x1)], [])) (M' := mt_93) (r := some (.int 0)) (w' := fr_w) ((ex_stp (ins := .invokestatic 95) rfl).trans rfl) rfl (Nat.le_of_ble_eq_true rfl) h_132 ?_
      show Go [] 38 mt_100 (13, [some (.ref 59), some (.int x1)], [.int 0]) fr_w _
      exact Go.ret ((ex_stp (ins := .ireturn) rfl).trans rfl)
    refine Go.call (d := 38) (cal := 100) (as := [.ref 59, .int x1]) (g := (5, [some (.ref 59), some (.int x1), some (.int x2), none], [])) (M' := mt_100) (r := some (.int 0)) (w' := fr_w) ((ex_stp (ins := .invokevirtual 183) rfl).trans rfl) rfl (Nat.le_of_ble_eq_true rfl) h_131 ?_
    show Go [] 39 mt_62 (5, [some (.ref 59), some (.int x1), some (.int x2), none], [.int 0]) fr_w _
    refine Go.next (f' := (20, [some (.ref 59), some (.int x1), some (.int x2), none], [])) (w' := fr_w) ((ex_stp (ins := .ifCond .eq 15) rfl).trans rfl) ?_
    refine Go.next (f' := (21, [some (.ref 59), some (.int x1), some (.int x2), none], [.int (-1)])) (w' := fr_w) ((ex_stp (ins := .iconst (-1)) rfl).trans rfl) ?_
    exact Go.ret ((ex_stp (ins := .ireturn) rfl).trans rfl)
set_option maxRecDepth 100000 in
theorem ao_29_c (x1 x2 : Int32) (g0 : 0 ≤ x1.toInt) (g1 : x1.toInt ≤ 1) (g2 : x2.toInt < 0) : A2 mt_61 mt_62 [.int x1, .int x2] := by
  refine ⟨(-1), fr_w, fr_w, _, ?_, rfl, ?_⟩
  · show Go [] 39 mt_61 (0, [some (.ref 0), some (.int x1), some (.int x2)], []) fr_w _
    refine Go.next (f' := (1, [some (.ref 0), some (.int x1), some (.int x2)], [.ref 0])) (w' := fr_w) ((ex_stp (ins := .aload_n 0) rfl).trans rfl) ?_
    refine Go.next (f' := (4, [some (.ref 0), some (.int x1), some (.int x2)], [.ref 1])) (w' := fr_w) ((ex_stp (ins := .getfield 10) rfl).trans rfl) ?_
    refine Go.next (f' := (5, [some (.ref 0), some (.int x1), some (.int x2)], [.int x1, .ref 1])) (w' := fr_w) ((ex_stp (ins := .iload_n 1) rfl).trans rfl) ?_
    have h_133 : Go [] 38 mt_99 (ex_ent mt_99 [.ref 1, .int x1]) fr_w (some (.int 1), fr_w) := by
      show Go [] 38 mt_99 (0, [some (.ref 1), some (.int x1)], []) fr_w _
      refine Go.next (f' := (1, [some (.ref 1), some (.int x1)], [.int x1])) (w' := fr_w) ((ex_stp (ins := .iload_n 1) rfl).trans rfl) ?_
      refine Go.next (f' := (4, [some (.ref 1), some (.int x1)], [])) (w' := fr_w) ((ex_stp (ins := .ifCond .lt 20) rfl).trans (ex_b0_f (c := .lt) (off := 20) (pc := 1) (lo := [some (.ref 1), some (.int x1)]) (x := x1) (r := []) (by rw [c0_lt]; exact decide_eq_false (by show ¬ (x1.toInt < (0 : Int)); omega)) (by decide))) ?_
      refine Go.next (f' := (5, [some (.ref 1), some (.int x1)], [.int x1])) (w' := fr_w) ((ex_stp (ins := .iload_n 1) rfl).trans rfl) ?_
      refine Go.next (f' := (6, [some (.ref 1), some (.int x1)], [.ref 1, .int x1])) (w' := fr_w) ((ex_stp (ins := .aload_n 0) rfl).trans rfl) ?_
      refine Go.next (f' := (9, [some (.ref 1), some (.int x1)], [.int 2, .int x1])) (w' := fr_w) ((ex_stp (ins := .getfield 37) rfl).trans rfl) ?_
      refine Go.next (f' := (12, [some (.ref 1), some (.int x1)], [])) (w' := fr_w) ((ex_stp (ins := .if_icmp .ge 12) rfl).trans (ex_b2_f (c := .ge) (off := 12) (pc := 9) (lo := [some (.ref 1), some (.int x1)]) (x := x1) (y := 2) (r := []) (by rw [c2_ge]; exact decide_eq_false (by show ¬ ((2 : Int) ≤ x1.toInt); omega)) (by decide))) ?_
      refine Go.next (f' := (13, [some (.ref 1), some (.int x1)], [.int x1])) (w' := fr_w) ((ex_stp (ins := .iload_n 1) rfl).trans rfl) ?_
      refine Go.next (f' := (14, [some (.ref 1), some (.int x1)], [.int 4, .int x1])) (w' := fr_w) ((ex_stp (ins := .iconst 4) rfl).trans rfl) ?_
      refine Go.next (f' := (17, [some (.ref 1), some (.int x1)], [])) (w' := fr_w) ((ex_stp (ins := .if_icmp .ge 7) rfl).trans (ex_b2_f (c := .ge) (off := 7) (pc := 14) (lo := [some (.ref 1), some (.int x1)]) (x := x1) (y := 4) (r := []) (by rw [c2_ge]; exact decide_eq_false (by show ¬ ((4 : Int) ≤ x1.toInt); omega)) (by decide))) ?_
      refine Go.next (f' := (18, [some (.ref 1), some (.int x1)], [.int 1])) (w' := fr_w) ((ex_stp (ins := .iconst 1) rfl).trans rfl) ?_
      refine Go.next (f' := (22, [some (.ref 1), some (.int x1)], [.int 1])) (w' := fr_w) ((ex_stp (ins := .goto 4) rfl).trans rfl) ?_
      exact Go.ret ((ex_stp (ins := .ireturn) rfl).trans rfl)
    refine Go.call (d := 38) (cal := 99) (as := [.ref 1, .int x1]) (g := (8, [some (.ref 0), some (.int x1), some (.int x2)], [])) (M' := mt_99) (r := some (.int 1)) (w' := fr_w) ((ex_stp (ins := .invokevirtual 125) rfl).trans rfl) rfl (Nat.le_of_ble_eq_true rfl) h_133 ?_
    show Go [] 39 mt_61 (8, [some (.ref 0), some (.int x1), some (.int x2)], [.int 1]) fr_w _
    refine Go.next (f' := (11, [some (.ref 0), some (.int x1), some (.int x2)], [])) (w' := fr_w) ((ex_stp (ins := .ifCond .eq 12) rfl).trans rfl) ?_
    refine Go.next (f' := (12, [some (.ref 0), some (.int x1), some (.int x2)], [.int x2])) (w' := fr_w) ((ex_stp (ins := .iload_n 2) rfl).trans rfl) ?_
    refine Go.next (f' := (20, [some (.ref 0), some (.int x1), some (.int x2)], [])) (w' := fr_w) ((ex_stp (ins := .ifCond .lt 8) rfl).trans (ex_b0_t (c := .lt) (off := 8) (pc := 12) (lo := [some (.ref 0), some (.int x1), some (.int x2)]) (x := x2) (r := []) (by rw [c0_lt]; exact decide_eq_true (by show x2.toInt < (0 : Int); omega)) (by decide))) ?_
    refine Go.next (f' := (21, [some (.ref 0), some (.int x1), some (.int x2)], [.int (-1)])) (w' := fr_w) ((ex_stp (ins := .iconst (-1)) rfl).trans rfl) ?_
    exact Go.ret ((ex_stp (ins := .ireturn) rfl).trans rfl)
  · show Go [] 39 mt_62 (0, [some (.ref 59), some (.int x1), some (.int x2), none], []) fr_w _
    refine Go.next (f' := (1, [some (.ref 59), some (.int x1), some (.int x2), none], [.ref 59])) (w' := fr_w) ((ex_stp (ins := .aload_n 0) rfl).trans rfl) ?_
    refine Go.next (f' := (2, [some (.ref 59), some (.int x1), some (.int x2), none], [.int x1, .ref 59])) (w' := fr_w) ((ex_stp (ins := .iload_n 1) rfl).trans rfl) ?_
    have h_134 : Go [] 38 mt_100 (ex_ent mt_100 [.ref 59, .int x1]) fr_w (some (.int 1), fr_w) := by
      show Go [] 38 mt_100 (0, [some (.ref 59), some (.int x1)], []) fr_w _
      refine Go.next (f' := (1, [some (.ref 59), some (.int x1)], [.int x1])) (w' := fr_w) ((ex_stp (ins := .iload_n 1) rfl).trans rfl) ?_
      refine Go.next (f' := (2, [some (.ref 59), some (.int x1)], [.long (x1).toInt64])) (w' := fr_w) ((ex_stp (ins := .i2l) rfl).trans rfl) ?_
      refine Go.next (f' := (3, [some (.ref 59), some (.int x1)], [.long 0, .long (x1).toInt64])) (w' := fr_w) ((ex_stp (ins := .lconst 0) rfl).trans rfl) ?_
      refine Go.next (f' := (4, [some (.ref 59), some (.int x1)], [.ref 59, .long 0, .long (x1).toInt64])) (w' := fr_w) ((ex_stp (ins := .aload_n 0) rfl).trans rfl) ?_
      refine Go.next (f' := (7, [some (.ref 59), some (.int x1)], [.int 2, .long 0, .long (x1).toInt64])) (w' := fr_w) ((ex_stp (ins := .getfield 84) rfl).trans rfl) ?_
      refine Go.next (f' := (8, [some (.ref 59), some (.int x1)], [.int 1, .int 2, .long 0, .long (x1).toInt64])) (w' := fr_w) ((ex_stp (ins := .iconst 1) rfl).trans rfl) ?_
      refine Go.next (f' := (9, [some (.ref 59), some (.int x1)], [.int 1, .long 0, .long (x1).toInt64])) (w' := fr_w) ((ex_stp (ins := .isub) rfl).trans rfl) ?_
      refine Go.next (f' := (10, [some (.ref 59), some (.int x1)], [.long 1, .long 0, .long (x1).toInt64])) (w' := fr_w) ((ex_stp (ins := .i2l) rfl).trans rfl) ?_
      have h_135 : Go [] 37 mt_93 (ex_ent mt_93 [.long (x1).toInt64, .long 0, .long 1]) fr_w (some (.int 1), fr_w) := by
        show Go [] 37 mt_93 (0, [some (.long (x1).toInt64), none, some (.long 0), none, some (.long 1), none], []) fr_w _
        refine Go.next (f' := (1, [some (.long (x1).toInt64), none, some (.long 0), none, some (.long 1), none], [.long (x1).toInt64])) (w' := fr_w) ((ex_stp (ins := .lload_n 0) rfl).trans rfl) ?_
        refine Go.next (f' := (2, [some (.long (x1).toInt64), none, some (.long 0), none, some (.long 1), none], [.long 0, .long (x1).toInt64])) (w' := fr_w) ((ex_stp (ins := .lload_n 2) rfl).trans rfl) ?_
        refine Go.next (f' := (3, [some (.long (x1).toInt64), none, some (.long 0), none, some (.long 1), none], [.int (lg_cmp (x1).toInt64 0)])) (w' := fr_w) ((ex_stp (ins := .lcmp) rfl).trans rfl) ?_
        refine Go.next (f' := (6, [some (.long (x1).toInt64), none, some (.long 0), none, some (.long 1), none], [])) (w' := fr_w) ((ex_stp (ins := .ifCond .lt 14) rfl).trans (ex_b0_f (c := .lt) (off := 14) (pc := 3) (lo := [some (.long (x1).toInt64), none, some (.long 0), none, some (.long 1), none]) (x := (lg_cmp (x1).toInt64 0)) (r := []) (by rw [cl_lt]; exact decide_eq_false (by first | (rw [Int32.toInt_toInt64]; show ¬ (x1.toInt < (0 : Int)); omega) | omega)) (by decide))) ?_
        refine Go.next (f' := (7, [some (.long (x1).toInt64), none, some (.long 0), none, some (.long 1), none], [.long (x1).toInt64])) (w' := fr_w) ((ex_stp (ins := .lload_n 0) rfl).trans rfl) ?_
        refine Go.next (f' := (9, [some (.long (x1).toInt64), none, some (.long 0), none, some (.long 1), none], [.long 1, .long (x1).toInt64])) (w' := fr_w) ((ex_stp (ins := .lload 4) rfl).trans rfl) ?_
        refine Go.next (f' := (10, [some (.long (x1).toInt64), none, some (.long 0), none, some (.long 1), none], [.int (lg_cmp (x1).toInt64 1)])) (w' := fr_w) ((ex_stp (ins := .lcmp) rfl).trans rfl) ?_
        refine Go.next (f' := (13, [some (.long (x1).toInt64), none, some (.long 0), none, some (.long 1), none], [])) (w' := fr_w) ((ex_stp (ins := .ifCond .gt 7) rfl).trans (ex_b0_f (c := .gt) (off := 7) (pc := 10) (lo := [some (.long (x1).toInt64), none, some (.long 0), none, some (.long 1), none]) (x := (lg_cmp (x1).toInt64 1)) (r := []) (by rw [cl_gt]; exact decide_eq_false (by first | (rw [Int32.toInt_toInt64]; show ¬ ((1 : Int) < x1.toInt); omega) | omega)) (by decide))) ?_
        refine Go.next (f' := (14, [some (.long (x1).toInt64), none, some (.long 0), none, some (.long 1), none], [.int 1])) (w' := fr_w) ((ex_stp (ins := .iconst 1) rfl).trans rfl) ?_
        refine Go.next (f' := (18, [some (.long (x1).toInt64), none, some (.long 0), none, some (.long 1), none], [.int 1])) (w' := fr_w) ((ex_stp (ins := .goto 4) rfl).trans rfl) ?_
        exact Go.ret ((ex_stp (ins := .ireturn) rfl).trans rfl)
      refine Go.call (d := 37) (cal := 93) (as := [.long (x1).toInt64, .long 0, .long 1]) (g := (13, [some (.ref 59), some (.int x1)], [])) (M' := mt_93) (r := some (.int 1)) (w' := fr_w) ((ex_stp (ins := .invokestatic 95) rfl).trans rfl) rfl (Nat.le_of_ble_eq_true rfl) h_135 ?_
      show Go [] 38 mt_100 (13, [some (.ref 59), some (.int x1)], [.int 1]) fr_w _
      exact Go.ret ((ex_stp (ins := .ireturn) rfl).trans rfl)
    refine Go.call (d := 38) (cal := 100) (as := [.ref 59, .int x1]) (g := (5, [some (.ref 59), some (.int x1), some (.int x2), none], [])) (M' := mt_100) (r := some (.int 1)) (w' := fr_w) ((ex_stp (ins := .invokevirtual 183) rfl).trans rfl) rfl (Nat.le_of_ble_eq_true rfl) h_134 ?_
    show Go [] 39 mt_62 (5, [some (.ref 59), some (.int x1), some (.int x2), none], [.int 1]) fr_w _
    refine Go.next (f' := (8, [some (.ref 59), some (.int x1), some (.int x2), none], [])) (w' := fr_w) ((ex_stp (ins := .ifCond .eq 15) rfl).trans rfl) ?_
    refine Go.next (f' := (9, [some (.ref 59), some (.int x1), some (.int x2), none], [.int x2])) (w' := fr_w) ((ex_stp (ins := .iload_n 2) rfl).trans rfl) ?_
    refine Go.next (f' := (10, [some (.ref 59), some (.int x1), some (.int x2), none], [.long (x2).toInt64])) (w' := fr_w) ((ex_stp (ins := .i2l) rfl).trans rfl) ?_
    refine Go.next (f' := (11, [some (.ref 59), some (.int x1), some (.int x2), none], [.long 0, .long (x2).toInt64])) (w' := fr_w) ((ex_stp (ins := .lconst 0) rfl).trans rfl) ?_
    refine Go.next (f' := (14, [some (.ref 59), some (.int x1), some (.int x2), none], [.long 4, .long 0, .long (x2).toInt64])) (w' := fr_w) ((ex_stp (ins := .ldc2_w 252) rfl).trans rfl) ?_
    have h_136 : Go [] 38 mt_93 (ex_ent mt_93 [.long (x2).toInt64, .long 0, .long 4]) fr_w (some (.int 0), fr_w) := by
      show Go [] 38 mt_93 (0, [some (.long (x2).toInt64), none, some (.long 0), none, some (.long 4), none], []) fr_w _
      refine Go.next (f' := (1, [some (.long (x2).toInt64), none, some (.long 0), none, some (.long 4), none], [.long (x2).toInt64])) (w' := fr_w) ((ex_stp (ins := .lload_n 0) rfl).trans rfl) ?_
      refine Go.next (f' := (2, [some (.long (x2).toInt64), none, some (.long 0), none, some (.long 4), none], [.long 0, .long (x2).toInt64])) (w' := fr_w) ((ex_stp (ins := .lload_n 2) rfl).trans rfl) ?_
      refine Go.next (f' := (3, [some (.long (x2).toInt64), none, some (.long 0), none, some (.long 4), none], [.int (lg_cmp (x2).toInt64 0)])) (w' := fr_w) ((ex_stp (ins := .lcmp) rfl).trans rfl) ?_
      refine Go.next (f' := (17, [some (.long (x2).toInt64), none, some (.long 0), none, some (.long 4), none], [])) (w' := fr_w) ((ex_stp (ins := .ifCond .lt 14) rfl).trans (ex_b0_t (c := .lt) (off := 14) (pc := 3) (lo := [some (.long (x2).toInt64), none, some (.long 0), none, some (.long 4), none]) (x := (lg_cmp (x2).toInt64 0)) (r := []) (by rw [cl_lt]; exact decide_eq_true (by first | (rw [Int32.toInt_toInt64]; show x2.toInt < (0 : Int); omega) | omega)) (by decide))) ?_
      refine Go.next (f' := (18, [some (.long (x2).toInt64), none, some (.long 0), none, some (.long 4), none], [.int 0])) (w' := fr_w) ((ex_stp (ins := .iconst 0) rfl).trans rfl) ?_
      exact Go.ret ((ex_stp (ins := .ireturn) rfl).trans rfl)
    refine Go.call (d := 38) (cal := 93) (as := [.long (x2).toInt64, .long 0, .long 4]) (g := (17, [some (.ref 59), some (.int x1), some (.int x2), none], [])) (M' := mt_93) (r := some (.int 0)) (w' := fr_w) ((ex_stp (ins := .invokestatic 95) rfl).trans rfl) rfl (Nat.le_of_ble_eq_true rfl) h_136 ?_
    show Go [] 39 mt_62 (17, [some (.ref 59), some (.int x1), some (.int x2), none], [.int 0]) fr_w _
    refine Go.next (f' := (20, [some (.ref 59), some (.int x1), some (.int x2), none], [])) (w' := fr_w) ((ex_stp (ins := .ifCond .ne 5) rfl).trans rfl) ?_
    refine Go.next (f' := (21, [some (.ref 59), some (.int x1), some (.int x2), none], [.int (-1)])) (w' := fr_w) ((ex_stp (ins := .iconst (-1)) rfl).trans rfl) ?_
    exact Go.ret ((ex_stp (ins := .ireturn) rfl).trans rfl)
set_option maxRecDepth 100000 in
theorem ao_29_d (x1 x2 : Int32) (g0 : 0 ≤ x1.toInt) (g1 : x1.toInt ≤ 1) (g2 : 4 < x2.toInt) : A2 mt_61 mt_62 [.int x1, .int x2] := by
  refine ⟨(-1), fr_w, fr_w, _, ?_, rfl, ?_⟩
  · show Go [] 39 mt_61 (0, [some (.ref 0), some (.int x1), some (.int x2)], []) fr_w _
    refine Go.next (f' := (1, [some (.ref 0), some (.int x1), some (.int x2)], [.ref 0])) (w' := fr_w) ((ex_stp (ins := .aload_n 0) rfl).trans rfl) ?_
    refine Go.next (f' := (4, [some (.ref 0), some (.int x1), some (.int x2)], [.ref 1])) (w' := fr_w) ((ex_stp (ins := .getfield 10) rfl).trans rfl) ?_
    refine Go.next (f' := (5, [some (.ref 0), some (.int x1), some (.int x2)], [.int x1, .ref 1])) (w' := fr_w) ((ex_stp (ins := .iload_n 1) rfl).trans rfl) ?_
    have h_137 : Go [] 38 mt_99 (ex_ent mt_99 [.ref 1, .int x1]) fr_w (some (.int 1), fr_w) := by
      show Go [] 38 mt_99 (0, [some (.ref 1), some (.int x1)], []) fr_w _
      refine Go.next (f' := (1, [some (.ref 1), some (.int x1)], [.int x1])) (w' := fr_w) ((ex_stp (ins := .iload_n 1) rfl).trans rfl) ?_
      refine Go.next (f' := (4, [some (.ref 1), some (.int x1)], [])) (w' := fr_w) ((ex_stp (ins := .ifCond .lt 20) rfl).trans (ex_b0_f (c := .lt) (off := 20) (pc := 1) (lo := [some (.ref 1), some (.int x1)]) (x := x1) (r := []) (by rw [c0_lt]; exact decide_eq_false (by show ¬ (x1.toInt < (0 : Int)); omega)) (by decide))) ?_
      refine Go.next (f' := (5, [some (.ref 1), some (.int x1)], [.int x1])) (w' := fr_w) ((ex_stp (ins := .iload_n 1) rfl).trans rfl) ?_
      refine Go.next (f' := (6, [some (.ref 1), some (.int x1)], [.ref 1, .int x1])) (w' := fr_w) ((ex_stp (ins := .aload_n 0) rfl).trans rfl) ?_
      refine Go.next (f' := (9, [some (.ref 1), some (.int x1)], [.int 2, .int x1])) (w' := fr_w) ((ex_stp (ins := .getfield 37) rfl).trans rfl) ?_
      refine Go.next (f' := (12, [some (.ref 1), some (.int x1)], [])) (w' := fr_w) ((ex_stp (ins := .if_icmp .ge 12) rfl).trans (ex_b2_f (c := .ge) (off := 12) (pc := 9) (lo := [some (.ref 1), some (.int x1)]) (x := x1) (y := 2) (r := []) (by rw [c2_ge]; exact decide_eq_false (by show ¬ ((2 : Int) ≤ x1.toInt); omega)) (by decide))) ?_
      refine Go.next (f' := (13, [some (.ref 1), some (.int x1)], [.int x1])) (w' := fr_w) ((ex_stp (ins := .iload_n 1) rfl).trans rfl) ?_
      refine Go.next (f' := (14, [some (.ref 1), some (.int x1)], [.int 4, .int x1])) (w' := fr_w) ((ex_stp (ins := .iconst 4) rfl).trans rfl) ?_
      refine Go.next (f' := (17, [some (.ref 1), some (.int x1)], [])) (w' := fr_w) ((ex_stp (ins := .if_icmp .ge 7) rfl).trans (ex_b2_f (c := .ge) (off := 7) (pc := 14) (lo := [some (.ref 1), some (.int x1)]) (x := x1) (y := 4) (r := []) (by rw [c2_ge]; exact decide_eq_false (by show ¬ ((4 : Int) ≤ x1.toInt); omega)) (by decide))) ?_
      refine Go.next (f' := (18, [some (.ref 1), some (.int x1)], [.int 1])) (w' := fr_w) ((ex_stp (ins := .iconst 1) rfl).trans rfl) ?_
      refine Go.next (f' := (22, [some (.ref 1), some (.int x1)], [.int 1])) (w' := fr_w) ((ex_stp (ins := .goto 4) rfl).trans rfl) ?_
      exact Go.ret ((ex_stp (ins := .ireturn) rfl).trans rfl)
    refine Go.call (d := 38) (cal := 99) (as := [.ref 1, .int x1]) (g := (8, [some (.ref 0), some (.int x1), some (.int x2)], [])) (M' := mt_99) (r := some (.int 1)) (w' := fr_w) ((ex_stp (ins := .invokevirtual 125) rfl).trans rfl) rfl (Nat.le_of_ble_eq_true rfl) h_137 ?_
    show Go [] 39 mt_61 (8, [some (.ref 0), some (.int x1), some (.int x2)], [.int 1]) fr_w _
    refine Go.next (f' := (11, [some (.ref 0), some (.int x1), some (.int x2)], [])) (w' := fr_w) ((ex_stp (ins := .ifCond .eq 12) rfl).trans rfl) ?_
    refine Go.next (f' := (12, [some (.ref 0), some (.int x1), some (.int x2)], [.int x2])) (w' := fr_w) ((ex_stp (ins := .iload_n 2) rfl).trans rfl) ?_
    refine Go.next (f' := (15, [some (.ref 0), some (.int x1), some (.int x2)], [])) (w' := fr_w) ((ex_stp (ins := .ifCond .lt 8) rfl).trans (ex_b0_f (c := .lt) (off := 8) (pc := 12) (lo := [some (.ref 0), some (.int x1), some (.int x2)]) (x := x2) (r := []) (by rw [c0_lt]; exact decide_eq_false (by show ¬ (x2.toInt < (0 : Int)); omega)) (by decide))) ?_
    refine Go.next (f' := (16, [some (.ref 0), some (.int x1), some (.int x2)], [.int x2])) (w' := fr_w) ((ex_stp (ins := .iload_n 2) rfl).trans rfl) ?_
    refine Go.next (f' := (17, [some (.ref 0), some (.int x1), some (.int x2)], [.int 4, .int x2])) (w' := fr_w) ((ex_stp (ins := .iconst 4) rfl).trans rfl) ?_
    refine Go.next (f' := (20, [some (.ref 0), some (.int x1), some (.int x2)], [])) (w' := fr_w) ((ex_stp (ins := .if_icmp .le 5) rfl).trans (ex_b2_f (c := .le) (off := 5) (pc := 17) (lo := [some (.ref 0), some (.int x1), some (.int x2)]) (x := x2) (y := 4) (r := []) (by rw [c2_le]; exact decide_eq_false (by show ¬ (x2.toInt ≤ (4 : Int)); omega)) (by decide))) ?_
    refine Go.next (f' := (21, [some (.ref 0), some (.int x1), some (.int x2)], [.int (-1)])) (w' := fr_w) ((ex_stp (ins := .iconst (-1)) rfl).trans rfl) ?_
    exact Go.ret ((ex_stp (ins := .ireturn) rfl).trans rfl)
  · show Go [] 39 mt_62 (0, [some (.ref 59), some (.int x1), some (.int x2), none], []) fr_w _
    refine Go.next (f' := (1, [some (.ref 59), some (.int x1), some (.int x2), none], [.ref 59])) (w' := fr_w) ((ex_stp (ins := .aload_n 0) rfl).trans rfl) ?_
    refine Go.next (f' := (2, [some (.ref 59), some (.int x1), some (.int x2), none], [.int x1, .ref 59])) (w' := fr_w) ((ex_stp (ins := .iload_n 1) rfl).trans rfl) ?_
    have h_138 : Go [] 38 mt_100 (ex_ent mt_100 [.ref 59, .int x1]) fr_w (some (.int 1), fr_w) := by
      show Go [] 38 mt_100 (0, [some (.ref 59), some (.int x1)], []) fr_w _
      refine Go.next (f' := (1, [some (.ref 59), some (.int x1)], [.int x1])) (w' := fr_w) ((ex_stp (ins := .iload_n 1) rfl).trans rfl) ?_
      refine Go.next (f' := (2, [some (.ref 59), some (.int x1)], [.long (x1).toInt64])) (w' := fr_w) ((ex_stp (ins := .i2l) rfl).trans rfl) ?_
      refine Go.next (f' := (3, [some (.ref 59), some (.int x1)], [.long 0, .long (x1).toInt64])) (w' := fr_w) ((ex_stp (ins := .lconst 0) rfl).trans rfl) ?_
      refine Go.next (f' := (4, [some (.ref 59), some (.int x1)], [.ref 59, .long 0, .long (x1).toInt64])) (w' := fr_w) ((ex_stp (ins := .aload_n 0) rfl).trans rfl) ?_
      refine Go.next (f' := (7, [some (.ref 59), some (.int x1)], [.int 2, .long 0, .long (x1).toInt64])) (w' := fr_w) ((ex_stp (ins := .getfield 84) rfl).trans rfl) ?_
      refine Go.next (f' := (8, [some (.ref 59), some (.int x1)], [.int 1, .int 2, .long 0, .long (x1).toInt64])) (w' := fr_w) ((ex_stp (ins := .iconst 1) rfl).trans rfl) ?_
      refine Go.next (f' := (9, [some (.ref 59), some (.int x1)], [.int 1, .long 0, .long (x1).toInt64])) (w' := fr_w) ((ex_stp (ins := .isub) rfl).trans rfl) ?_
      refine Go.next (f' := (10, [some (.ref 59), some (.int x1)], [.long 1, .long 0, .long (x1).toInt64])) (w' := fr_w) ((ex_stp (ins := .i2l) rfl).trans rfl) ?_
      have h_139 : Go [] 37 mt_93 (ex_ent mt_93 [.long (x1).toInt64, .long 0, .long 1]) fr_w (some (.int 1), fr_w) := by
        show Go [] 37 mt_93 (0, [some (.long (x1).toInt64), none, some (.long 0), none, some (.long 1), none], []) fr_w _
        refine Go.next (f' := (1, [some (.long (x1).toInt64), none, some (.long 0), none, some (.long 1), none], [.long (x1).toInt64])) (w' := fr_w) ((ex_stp (ins := .lload_n 0) rfl).trans rfl) ?_
        refine Go.next (f' := (2, [some (.long (x1).toInt64), none, some (.long 0), none, some (.long 1), none], [.long 0, .long (x1).toInt64])) (w' := fr_w) ((ex_stp (ins := .lload_n 2) rfl).trans rfl) ?_
        refine Go.next (f' := (3, [some (.long (x1).toInt64), none, some (.long 0), none, some (.long 1), none], [.int (lg_cmp (x1).toInt64 0)])) (w' := fr_w) ((ex_stp (ins := .lcmp) rfl).trans rfl) ?_
        refine Go.next (f' := (6, [some (.long (x1).toInt64), none, some (.long 0), none, some (.long 1), none], [])) (w' := fr_w) ((ex_stp (ins := .ifCond .lt 14) rfl).trans (ex_b0_f (c := .lt) (off := 14) (pc := 3) (lo := [some (.long (x1).toInt64), none, some (.long 0), none, some (.long 1), none]) (x := (lg_cmp (x1).toInt64 0)) (r := []) (by rw [cl_lt]; exact decide_eq_false (by first | (rw [Int32.toInt_toInt64]; show ¬ (x1.toInt < (0 : Int)); omega) | omega)) (by decide))) ?_
        refine Go.next (f' := (7, [some (.long (x1).toInt64), none, some (.long 0), none, some (.long 1), none], [.long (x1).toInt64])) (w' := fr_w) ((ex_stp (ins := .lload_n 0) rfl).trans rfl) ?_
        refine Go.next (f' := (9, [some (.long (x1).toInt64), none, some (.long 0), none, some (.long 1), none], [.long 1, .long (x1).toInt64])) (w' := fr_w) ((ex_stp (ins := .lload 4) rfl).trans rfl) ?_
        refine Go.next (f' := (10, [some (.long (x1).toInt64), none, some (.long 0), none, some (.long 1), none], [.int (lg_cmp (x1).toInt64 1)])) (w' := fr_w) ((ex_stp (ins := .lcmp) rfl).trans rfl) ?_
        refine Go.next (f' := (13, [some (.long (x1).toInt64), none, some (.long 0), none, some (.long 1), none], [])) (w' := fr_w) ((ex_stp (ins := .ifCond .gt 7) rfl).trans (ex_b0_f (c := .gt) (off := 7) (pc := 10) (lo := [some (.long (x1).toInt64), none, some (.long 0), none, some (.long 1), none]) (x := (lg_cmp (x1).toInt64 1)) (r := []) (by rw [cl_gt]; exact decide_eq_false (by first | (rw [Int32.toInt_toInt64]; show ¬ ((1 : Int) < x1.toInt); omega) | omega)) (by decide))) ?_
        refine Go.next (f' := (14, [some (.long (x1).toInt64), none, some (.long 0), none, some (.long 1), none], [.int 1])) (w' := fr_w) ((ex_stp (ins := .iconst 1) rfl).trans rfl) ?_
        refine Go.next (f' := (18, [some (.long (x1).toInt64), none, some (.long 0), none, some (.long 1), none], [.int 1])) (w' := fr_w) ((ex_stp (ins := .goto 4) rfl).trans rfl) ?_
        exact Go.ret ((ex_stp (ins := .ireturn) rfl).trans rfl)
      refine Go.call (d := 37) (cal := 93) (as := [.long (x1).toInt64, .long 0, .long 1]) (g := (13, [some (.ref 59), some (.int x1)], [])) (M' := mt_93) (r := some (.int 1)) (w' := fr_w) ((ex_stp (ins := .invokestatic 95) rfl).trans rfl) rfl (Nat.le_of_ble_eq_true rfl) h_139 ?_
      show Go [] 38 mt_100 (13, [some (.ref 59), some (.int x1)], [.int 1]) fr_w _
      exact Go.ret ((ex_stp (ins := .ireturn) rfl).trans rfl)
    refine Go.call (d := 38) (cal := 100) (as := [.ref 59, .int x1]) (g := (5, [some (.ref 59), some (.int x1), some (.int x2), none], [])) (M' := mt_100) (r := some (.int 1)) (w' := fr_w) ((ex_stp (ins := .invokevirtual 183) rfl).trans rfl) rfl (Nat.le_of_ble_eq_true rfl) h_138 ?_
    show Go [] 39 mt_62 (5, [some (.ref 59), some (.int x1), some (.int x2), none], [.int 1]) fr_w _
    refine Go.next (f' := (8, [some (.ref 59), some (.int x1), some (.int x2), none], [])) (w' := fr_w) ((ex_stp (ins := .ifCond .eq 15) rfl).trans rfl) ?_
    refine Go.next (f' := (9, [some (.ref 59), some (.int x1), some (.int x2), none], [.int x2])) (w' := fr_w) ((ex_stp (ins := .iload_n 2) rfl).trans rfl) ?_
    refine Go.next (f' := (10, [some (.ref 59), some (.int x1), some (.int x2), none], [.long (x2).toInt64])) (w' := fr_w) ((ex_stp (ins := .i2l) rfl).trans rfl) ?_
    refine Go.next (f' := (11, [some (.ref 59), some (.int x1), some (.int x2), none], [.long 0, .long (x2).toInt64])) (w' := fr_w) ((ex_stp (ins := .lconst 0) rfl).trans rfl) ?_
    refine Go.next (f' := (14, [some (.ref 59), some (.int x1), some (.int x2), none], [.long 4, .long 0, .long (x2).toInt64])) (w' := fr_w) ((ex_stp (ins := .ldc2_w 252) rfl).trans rfl) ?_
    have h_140 : Go [] 38 mt_93 (ex_ent mt_93 [.long (x2).toInt64, .long 0, .long 4]) fr_w (some (.int 0), fr_w) := by
      show Go [] 38 mt_93 (0, [some (.long (x2).toInt64), none, some (.long 0), none, some (.long 4), none], []) fr_w _
      refine Go.next (f' := (1, [some (.long (x2).toInt64), none, some (.long 0), none, some (.long 4), none], [.long (x2).toInt64])) (w' := fr_w) ((ex_stp (ins := .lload_n 0) rfl).trans rfl) ?_
      refine Go.next (f' := (2, [some (.long (x2).toInt64), none, some (.long 0), none, some (.long 4), none], [.long 0, .long (x2).toInt64])) (w' := fr_w) ((ex_stp (ins := .lload_n 2) rfl).trans rfl) ?_
      refine Go.next (f' := (3, [some (.long (x2).toInt64), none, some (.long 0), none, some (.long 4), none], [.int (lg_cmp (x2).toInt64 0)])) (w' := fr_w) ((ex_stp (ins := .lcmp) rfl).trans rfl) ?_
      refine Go.next (f' := (6, [some (.long (x2).toInt64), none, some (.long 0), none, some (.long 4), none], [])) (w' := fr_w) ((ex_stp (ins := .ifCond .lt 14) rfl).trans (ex_b0_f (c := .lt) (off := 14) (pc := 3) (lo := [some (.long (x2).toInt64), none, some (.long 0), none, some (.long 4), none]) (x := (lg_cmp (x2).toInt64 0)) (r := []) (by rw [cl_lt]; exact decide_eq_false (by first | (rw [Int32.toInt_toInt64]; show ¬ (x2.toInt < (0 : Int)); omega) | omega)) (by decide))) ?_
      refine Go.next (f' := (7, [some (.long (x2).toInt64), none, some (.long 0), none, some (.long 4), none], [.long (x2).toInt64])) (w' := fr_w) ((ex_stp (ins := .lload_n 0) rfl).trans rfl) ?_
      refine Go.next (f' := (9, [some (.long (x2).toInt64), none, some (.long 0), none, some (.long 4), none], [.long 4, .long (x2).toInt64])) (w' := fr_w) ((ex_stp (ins := .lload 4) rfl).trans rfl) ?_
      refine Go.next (f' := (10, [some (.long (x2).toInt64), none, some (.long 0), none, some (.long 4), none], [.int (lg_cmp (x2).toInt64 4)])) (w' := fr_w) ((ex_stp (ins := .lcmp) rfl).trans rfl) ?_
      refine Go.next (f' := (17, [some (.long (x2).toInt64), none, some (.long 0), none, some (.long 4), none], [])) (w' := fr_w) ((ex_stp (ins := .ifCond .gt 7) rfl).trans (ex_b0_t (c := .gt) (off := 7) (pc := 10) (lo := [some (.long (x2).toInt64), none, some (.long 0), none, some (.long 4), none]) (x := (lg_cmp (x2).toInt64 4)) (r := []) (by rw [cl_gt]; exact decide_eq_true (by first | (rw [Int32.toInt_toInt64]; show (4 : Int) < x2.toInt; omega) | omega)) (by decide))) ?_
      refine Go.next (f' := (18, [some (.long (x2).toInt64), none, some (.long 0), none, some (.long 4), none], [.int 0])) (w' := fr_w) ((ex_stp (ins := .iconst 0) rfl).trans rfl) ?_
      exact Go.ret ((ex_stp (ins := .ireturn) rfl).trans rfl)
    refine Go.call (d := 38) (cal := 93) (as := [.long (x2).toInt64, .long 0, .long 4]) (g := (17, [some (.ref 59), some (.int x1), some (.int x2), none], [])) (M' := mt_93) (r := some (.int 0)) (w' := fr_w) ((ex_stp (ins := .invokestatic 95) rfl).trans rfl) rfl (Nat.le_of_ble_eq_true rfl) h_140 ?_
    show Go [] 39 mt_62 (17, [some (.ref 59), some (.int x1), some (.int x2), none], [.int 0]) fr_w _
    refine Go.next (f' := (20, [some (.ref 59), some (.int x1), some (.int x2), none], [])) (w' := fr_w) ((ex_stp (ins := .ifCond .ne 5) rfl).trans rfl) ?_
    refine Go.next (f' := (21, [some (.ref 59), some (.int x1), some (.int x2), none], [.int (-1)])) (w' := fr_w) ((ex_stp (ins := .iconst (-1)) rfl).trans rfl) ?_
    exact Go.ret ((ex_stp (ins := .ireturn) rfl).trans rfl)
set_option maxRecDepth 100000 in
theorem ao_31_a (x1 : Int32) (g0 : x1.toInt < 0) : A2 mt_65 mt_66 [.int x1] := by
  refine ⟨(-1), fr_w, fr_w, _, ?_, rfl, ?_⟩
  · show Go [] 39 mt_65 (0, [some (.ref 0), some (.int x1), none, none], []) fr_w _
    refine Go.next (f' := (1, [some (.ref 0), some (.int x1), none, none], [.int x1])) (w' := fr_w) ((ex_stp (ins := .iload_n 1) rfl).trans rfl) ?_
    refine Go.next (f' := (3, [some (.ref 0), some (.int x1), none, none], [.int 10, .int x1])) (w' := fr_w) ((ex_stp (ins := .bipush 10) rfl).trans rfl) ?_
    refine Go.next (f' := (16, [some (.ref 0), some (.int x1), none, none], [])) (w' := fr_w) ((ex_stp (ins := .if_icmp .lt 13) rfl).trans (ex_b2_t (c := .lt) (off := 13) (pc := 3) (lo := [some (.ref 0), some (.int x1), none, none]) (x := x1) (y := 10) (r := []) (by rw [c2_lt]; exact decide_eq_true (by show x1.toInt < (10 : Int); omega)) (by decide))) ?_
    refine Go.next (f' := (17, [some (.ref 0), some (.int x1), none, none], [.int 0])) (w' := fr_w) ((ex_stp (ins := .iconst 0) rfl).trans rfl) ?_
    refine Go.next (f' := (18, [some (.ref 0), some (.int x1), some (.int 0), none], [])) (w' := fr_w) ((ex_stp (ins := .istore_n 2) rfl).trans rfl) ?_
    refine Go.next (f' := (19, [some (.ref 0), some (.int x1), some (.int 0), none], [.int x1])) (w' := fr_w) ((ex_stp (ins := .iload_n 1) rfl).trans rfl) ?_
    refine Go.next (f' := (21, [some (.ref 0), some (.int x1), some (.int 0), none], [.int 20, .int x1])) (w' := fr_w) ((ex_stp (ins := .bipush 20) rfl).trans rfl) ?_
    refine Go.next (f' := (34, [some (.ref 0), some (.int x1), some (.int 0), none], [])) (w' := fr_w) ((ex_stp (ins := .if_icmp .lt 13) rfl).trans (ex_b2_t (c := .lt) (off := 13) (pc := 21) (lo := [some (.ref 0), some (.int x1), some (.int 0), none]) (x := x1) (y := 20) (r := []) (by rw [c2_lt]; exact decide_eq_true (by show x1.toInt < (20 : Int); omega)) (by decide))) ?_
    refine Go.next (f' := (35, [some (.ref 0), some (.int x1), some (.int 0), none], [.int 0])) (w' := fr_w) ((ex_stp (ins := .iconst 0) rfl).trans rfl) ?_
    refine Go.next (f' := (36, [some (.ref 0), some (.int x1), some (.int 0), some (.int 0)], [])) (w' := fr_w) ((ex_stp (ins := .istore_n 3) rfl).trans rfl) ?_
    refine Go.next (f' := (37, [some (.ref 0), some (.int x1), some (.int 0), some (.int 0)], [.int x1])) (w' := fr_w) ((ex_stp (ins := .iload_n 1) rfl).trans rfl) ?_
    refine Go.next (f' := (40, [some (.ref 0), some (.int x1), some (.int 0), some (.int 0)], [])) (w' := fr_w) ((ex_stp (ins := .ifCond .eq 13) rfl).trans (ex_b0_f (c := .eq) (off := 13) (pc := 37) (lo := [some (.ref 0), some (.int x1), some (.int 0), some (.int 0)]) (x := x1) (r := []) (by rw [c0_eq]; exact decide_eq_false (by show ¬ (x1.toInt = (0 : Int)); omega)) (by decide))) ?_
    refine Go.next (f' := (41, [some (.ref 0), some (.int x1), some (.int 0), some (.int 0)], [.int 0])) (w' := fr_w) ((ex_stp (ins := .iload_n 2) rfl).trans rfl) ?_
    refine Go.next (f' := (44, [some (.ref 0), some (.int x1), some (.int 0), some (.int 0)], [])) (w' := fr_w) ((ex_stp (ins := .ifCond .ne 9) rfl).trans rfl) ?_
    refine Go.next (f' := (45, [some (.ref 0), some (.int x1), some (.int 0), some (.int 0)], [.int 0])) (w' := fr_w) ((ex_stp (ins := .iload_n 3) rfl).trans rfl) ?_
    refine Go.next (f' := (48, [some (.ref 0), some (.int x1), some (.int 0), some (.int 0)], [])) (w' := fr_w) ((ex_stp (ins := .ifCond .ne 5) rfl).trans rfl) ?_
    refine Go.next (f' := (49, [some (.ref 0), some (.int x1), some (.int 0), some (.int 0)], [.int (-1)])) (w' := fr_w) ((ex_stp (ins := .iconst (-1)) rfl).trans rfl) ?_
    exact Go.ret ((ex_stp (ins := .ireturn) rfl).trans rfl)
  · show Go [] 39 mt_66 (0, [some (.ref 59), some (.int x1), none, none, none], []) fr_w _
    refine Go.next (f' := (1, [some (.ref 59), some (.int x1), none, none, none], [.int x1])) (w' := fr_w) ((ex_stp (ins := .iload_n 1) rfl).trans rfl) ?_
    refine Go.next (f' := (4, [some (.ref 59), some (.int x1), none, none, none], [])) (w' := fr_w) ((ex_stp (ins := .ifCond .eq 33) rfl).trans (ex_b0_f (c := .eq) (off := 33) (pc := 1) (lo := [some (.ref 59), some (.int x1), none, none, none]) (x := x1) (r := []) (by rw [c0_eq]; exact decide_eq_false (by show ¬ (x1.toInt = (0 : Int)); omega)) (by decide))) ?_
    refine Go.next (f' := (5, [some (.ref 59), some (.int x1), none, none, none], [.int x1])) (w' := fr_w) ((ex_stp (ins := .iload_n 1) rfl).trans rfl) ?_
    refine Go.next (f' := (6, [some (.ref 59), some (.int x1), none, none, none], [.long (x1).toInt64])) (w' := fr_w) ((ex_stp (ins := .i2l) rfl).trans rfl) ?_
    refine Go.next (f' := (9, [some (.ref 59), some (.int x1), none, none, none], [.long 10, .long (x1).toInt64])) (w' := fr_w) ((ex_stp (ins := .ldc2_w 231) rfl).trans rfl) ?_
    refine Go.next (f' := (12, [some (.ref 59), some (.int x1), none, none, none], [.long 13, .long 10, .long (x1).toInt64])) (w' := fr_w) ((ex_stp (ins := .ldc2_w 269) rfl).trans rfl) ?_
    have h_141 : Go [] 38 mt_93 (ex_ent mt_93 [.long (x1).toInt64, .long 10, .long 13]) fr_w (some (.int 0), fr_w) := by
      show Go [] 38 mt_93 (0, [some (.long (x1).toInt64), none, some (.long 10), none, some (.long 13), none], []) fr_w _
      refine Go.next (f' := (1, [some (.long (x1).toInt64), none, some (.long 10), none, some (.long 13), none], [.long (x1).toInt64])) (w' := fr_w) ((ex_stp (ins := .lload_n 0) rfl).trans rfl) ?_
      refine Go.next (f' := (2, [some (.long (x1).toInt64), none, some (.long 10), none, some (.long 13), none], [.long 10, .long (x1).toInt64])) (w' := fr_w) ((ex_stp (ins := .lload_n 2) rfl).trans rfl) ?_
      refine Go.next (f' := (3, [some (.long (x1).toInt64), none, some (.long 10), none, some (.long 13), none], [.int (lg_cmp (x1).toInt64 10)])) (w' := fr_w) ((ex_stp (ins := .lcmp) rfl).trans rfl) ?_
      refine Go.next (f' := (17, [some (.long (x1).toInt64), none, some (.long 10), none, some (.long 13), none], [])) (w' := fr_w) ((ex_stp (ins := .ifCond .lt 14) rfl).trans (ex_b0_t (c := .lt) (off := 14) (pc := 3) (lo := [some (.long (x1).toInt64), none, some (.long 10), none, some (.long 13), none]) (x := (lg_cmp (x1).toInt64 10)) (r := []) (by rw [cl_lt]; exact decide_eq_true (by first | (rw [Int32.toInt_toInt64]; show x1.toInt < (10 : Int); omega) | omega)) (by decide))) ?_
      refine Go.next (f' := (18, [some (.long (x1).toInt64), none, some (.long 10), none, some (.long 13), none], [.int 0])) (w' := fr_w) ((ex_stp (ins := .iconst 0) rfl).trans rfl) ?_
      exact Go.ret ((ex_stp (ins := .ireturn) rfl).trans rfl)
    refine Go.call (d := 38) (cal := 93) (as := [.long (x1).toInt64, .long 10, .long 13]) (g := (15, [some (.ref 59), some (.int x1), none, none, none], [])) (M' := mt_93) (r := some (.int 0)) (w' := fr_w) ((ex_stp (ins := .invokestatic 95) rfl).trans rfl) rfl (Nat.le_of_ble_eq_true rfl) h_141 ?_
    show Go [] 39 mt_66 (15, [some (.ref 59), some (.int x1), none, none, none], [.int 0]) fr_w _
    refine Go.next (f' := (18, [some (.ref 59), some (.int x1), none, none, none], [])) (w' := fr_w) ((ex_stp (ins := .ifCond .ne 19) rfl).trans rfl) ?_
    refine Go.next (f' := (19, [some (.ref 59), some (.int x1), none, none, none], [.int x1])) (w' := fr_w) ((ex_stp (ins := .iload_n 1) rfl).trans rfl) ?_
    refine Go.next (f' := (20, [some (.ref 59), some (.int x1), none, none, none], [.long (x1).toInt64])) (w' := fr_w) ((ex_stp (ins := .i2l) rfl).trans rfl) ?_
    refine Go.next (f' := (23, [some (.ref 59), some (.int x1), none, none, none], [.long 20, .long (x1).toInt64])) (w' := fr_w) ((ex_stp (ins := .ldc2_w 190) rfl).trans rfl) ?_
    refine Go.next (f' := (26, [some (.ref 59), some (.int x1), none, none, none], [.long 23, .long 20, .long (x1).toInt64])) (w' := fr_w) ((ex_stp (ins := .ldc2_w 271) rfl).trans rfl) ?_
    have h_142 : Go [] 38 mt_93 (ex_ent mt_93 [.long (x1).toInt64, .long 20, .long 23]) fr_w (some (.int 0), fr_w) := by
      show Go [] 38 mt_93 (0, [some (.long (x1).toInt64), none, some (.long 20), none, some (.long 23), none], []) fr_w _
      refine Go.next (f' := (1, [some (.long (x1).toInt64), none, some (.long 20), none, some (.long 23), none], [.long (x1).toInt64])) (w' := fr_w) ((ex_stp (ins := .lload_n 0) rfl).trans rfl) ?_
      refine Go.next (f' := (2, [some (.long (x1).toInt64), none, some (.long 20), none, some (.long 23), none], [.long 20, .long (x1).toInt64])) (w' := fr_w) ((ex_stp (ins := .lload_n 2) rfl).trans rfl) ?_
      refine Go.next (f' := (3, [some (.long (x1).toInt64), none, some (.long 20), none, some (.long 23), none], [.int (lg_cmp (x1).toInt64 20)])) (w' := fr_w) ((ex_stp (ins := .lcmp) rfl).trans rfl) ?_
      refine Go.next (f' := (17, [some (.long (x1).toInt64), none, some (.long 20), none, some (.long 23), none], [])) (w' := fr_w) ((ex_stp (ins := .ifCond .lt 14) rfl).trans (ex_b0_t (c := .lt) (off := 14) (pc := 3) (lo := [some (.long (x1).toInt64), none, some (.long 20), none, some (.long 23), none]) (x := (lg_cmp (x1).toInt64 20)) (r := []) (by rw [cl_lt]; exact decide_eq_true (by first | (rw [Int32.toInt_toInt64]; show x1.toInt < (20 : Int); omega) | omega)) (by decide))) ?_
      refine Go.next (f' := (18, [some (.long (x1).toInt64), none, some (.long 20), none, some (.long 23), none], [.int 0])) (w' := fr_w) ((ex_stp (ins := .iconst 0) rfl).trans rfl) ?_
      exact Go.ret ((ex_stp (ins := .ireturn) rfl).trans rfl)
    refine Go.call (d := 38) (cal := 93) (as := [.long (x1).toInt64, .long 20, .long 23]) (g := (29, [some (.ref 59), some (.int x1), none, none, none], [])) (M' := mt_93) (r := some (.int 0)) (w' := fr_w) ((ex_stp (ins := .invokestatic 95) rfl).trans rfl) rfl (Nat.le_of_ble_eq_true rfl) h_142 ?_
    show Go [] 39 mt_66 (29, [some (.ref 59), some (.int x1), none, none, none], [.int 0]) fr_w _
    refine Go.next (f' := (32, [some (.ref 59), some (.int x1), none, none, none], [])) (w' := fr_w) ((ex_stp (ins := .ifCond .ne 5) rfl).trans rfl) ?_
    refine Go.next (f' := (33, [some (.ref 59), some (.int x1), none, none, none], [.int (-1)])) (w' := fr_w) ((ex_stp (ins := .iconst (-1)) rfl).trans rfl) ?_
    exact Go.ret ((ex_stp (ins := .ireturn) rfl).trans rfl)
set_option maxRecDepth 100000 in
theorem ao_31_b (x1 : Int32) (g0 : 0 < x1.toInt) (g1 : x1.toInt < 10) : A2 mt_65 mt_66 [.int x1] := by
  refine ⟨(-1), fr_w, fr_w, _, ?_, rfl, ?_⟩
  · show Go [] 39 mt_65 (0, [some (.ref 0), some (.int x1), none, none], []) fr_w _
    refine Go.next (f' := (1, [some (.ref 0), some (.int x1), none, none], [.int x1])) (w' := fr_w) ((ex_stp (ins := .iload_n 1) rfl).trans rfl) ?_
    refine Go.next (f' := (3, [some (.ref 0), some (.int x1), none, none], [.int 10, .int x1])) (w' := fr_w) ((ex_stp (ins := .bipush 10) rfl).trans rfl) ?_
    refine Go.next (f' := (16, [some (.ref 0), some (.int x1), none, none], [])) (w' := fr_w) ((ex_stp (ins := .if_icmp .lt 13) rfl).trans (ex_b2_t (c := .lt) (off := 13) (pc := 3) (lo := [some (.ref 0), some (.int x1), none, none]) (x := x1) (y := 10) (r := []) (by rw [c2_lt]; exact decide_eq_true (by show x1.toInt < (10 : Int); omega)) (by decide))) ?_
    refine Go.next (f' := (17, [some (.ref 0), some (.int x1), none, none], [.int 0])) (w' := fr_w) ((ex_stp (ins := .iconst 0) rfl).trans rfl) ?_
    refine Go.next (f' := (18, [some (.ref 0), some (.int x1), some (.int 0), none], [])) (w' := fr_w) ((ex_stp (ins := .istore_n 2) rfl).trans rfl) ?_
    refine Go.next (f' := (19, [some (.ref 0), some (.int x1), some (.int 0), none], [.int x1])) (w' := fr_w) ((ex_stp (ins := .iload_n 1) rfl).trans rfl) ?_
    refine Go.next (f' := (21, [some (.ref 0), some (.int x1), some (.int 0), none], [.int 20, .int x1])) (w' := fr_w) ((ex_stp (ins := .bipush 20) rfl).trans rfl) ?_
    refine Go.next (f' := (34, [some (.ref 0), some (.int x1), some (.int 0), none], [])) (w' := fr_w) ((ex_stp (ins := .if_icmp .lt 13) rfl).trans (ex_b2_t (c := .lt) (off := 13) (pc := 21) (lo := [some (.ref 0), some (.int x1), some (.int 0), none]) (x := x1) (y := 20) (r := []) (by rw [c2_lt]; exact decide_eq_true (by show x1.toInt < (20 : Int); omega)) (by decide))) ?_
    refine Go.next (f' := (35, [some (.ref 0), some (.int x1), some (.int 0), none], [.int 0])) (w' := fr_w) ((ex_stp (ins := .iconst 0) rfl).trans rfl) ?_
    refine Go.next (f' := (36, [some (.ref 0), some (.int x1), some (.int 0), some (.int 0)], [])) (w' := fr_w) ((ex_stp (ins := .istore_n 3) rfl).trans rfl) ?_
    refine Go.next (f' := (37, [some (.ref 0), some (.int x1), some (.int 0), some (.int 0)], [.int x1])) (w' := fr_w) ((ex_stp (ins := .iload_n 1) rfl).trans rfl) ?_
    refine Go.next (f' := (40, [some (.ref 0), some (.int x1), some (.int 0), some (.int 0)], [])) (w' := fr_w) ((ex_stp (ins := .ifCond .eq 13) rfl).trans (ex_b0_f (c := .eq) (off := 13) (pc := 37) (lo := [some (.ref 0), some (.int x1), some (.int 0), some (.int 0)]) (x := x1) (r := []) (by rw [c0_eq]; exact decide_eq_false (by show ¬ (x1.toInt = (0 : Int)); omega)) (by decide))) ?_
    refine Go.next (f' := (41, [some (.ref 0), some (.int x1), some (.int 0), some (.int 0)], [.int 0])) (w' := fr_w) ((ex_stp (ins := .iload_n 2) rfl).trans rfl) ?_
    refine Go.next (f' := (44, [some (.ref 0), some (.int x1), some (.int 0), some (.int 0)], [])) (w' := fr_w) ((ex_stp (ins := .ifCond .ne 9) rfl).trans rfl) ?_
    refine Go.next (f' := (45, [some (.ref 0), some (.int x1), some (.int 0), some (.int 0)], [.int 0])) (w' := fr_w) ((ex_stp (ins := .iload_n 3) rfl).trans rfl) ?_
    refine Go.next (f' := (48, [some (.ref 0), some (.int x1), some (.int 0), some (.int 0)], [])) (w' := fr_w) ((ex_stp (ins := .ifCond .ne 5) rfl).trans rfl) ?_
    refine Go.next (f' := (49, [some (.ref 0), some (.int x1), some (.int 0), some (.int 0)], [.int (-1)])) (w' := fr_w) ((ex_stp (ins := .iconst (-1)) rfl).trans rfl) ?_
    exact Go.ret ((ex_stp (ins := .ireturn) rfl).trans rfl)
  · show Go [] 39 mt_66 (0, [some (.ref 59), some (.int x1), none, none, none], []) fr_w _
    refine Go.next (f' := (1, [some (.ref 59), some (.int x1), none, none, none], [.int x1])) (w' := fr_w) ((ex_stp (ins := .iload_n 1) rfl).trans rfl) ?_
    refine Go.next (f' := (4, [some (.ref 59), some (.int x1), none, none, none], [])) (w' := fr_w) ((ex_stp (ins := .ifCond .eq 33) rfl).trans (ex_b0_f (c := .eq) (off := 33) (pc := 1) (lo := [some (.ref 59), some (.int x1), none, none, none]) (x := x1) (r := []) (by rw [c0_eq]; exact decide_eq_false (by show ¬ (x1.toInt = (0 : Int)); omega)) (by decide))) ?_
    refine Go.next (f' := (5, [some (.ref 59), some (.int x1), none, none, none], [.int x1])) (w' := fr_w) ((ex_stp (ins := .iload_n 1) rfl).trans rfl) ?_
    refine Go.next (f' := (6, [some (.ref 59), some (.int x1), none, none, none], [.long (x1).toInt64])) (w' := fr_w) ((ex_stp (ins := .i2l) rfl).trans rfl) ?_
    refine Go.next (f' := (9, [some (.ref 59), some (.int x1), none, none, none], [.long 10, .long (x1).toInt64])) (w' := fr_w) ((ex_stp (ins := .ldc2_w 231) rfl).trans rfl) ?_
    refine Go.next (f' := (12, [some (.ref 59), some (.int x1), none, none, none], [.long 13, .long 10, .long (x1).toInt64])) (w' := fr_w) ((ex_stp (ins := .ldc2_w 269) rfl).trans rfl) ?_
    have h_143 : Go [] 38 mt_93 (ex_ent mt_93 [.long (x1).toInt64, .long 10, .long 13]) fr_w (some (.int 0), fr_w) := by
      show Go [] 38 mt_93 (0, [some (.long (x1).toInt64), none, some (.long 10), none, some (.long 13), none], []) fr_w _
      refine Go.next (f' := (1, [some (.long (x1).toInt64), none, some (.long 10), none, some (.long 13), none], [.long (x1).toInt64])) (w' := fr_w) ((ex_stp (ins := .lload_n 0) rfl).trans rfl) ?_
      refine Go.next (f' := (2, [some (.long (x1).toInt64), none, some (.long 10), none, some (.long 13), none], [.long 10, .long (x1).toInt64])) (w' := fr_w) ((ex_stp (ins := .lload_n 2) rfl).trans rfl) ?_
      refine Go.next (f' := (3, [some (.long (x1).toInt64), none, some (.long 10), none, some (.long 13), none], [.int (lg_cmp (x1).toInt64 10)])) (w' := fr_w) ((ex_stp (ins := .lcmp) rfl).trans rfl) ?_
      refine Go.next (f' := (17, [some (.long (x1).toInt64), none, some (.long 10), none, some (.long 13), none], [])) (w' := fr_w) ((ex_stp (ins := .ifCond .lt 14) rfl).trans (ex_b0_t (c := .lt) (off := 14) (pc := 3) (lo := [some (.long (x1).toInt64), none, some (.long 10), none, some (.long 13), none]) (x := (lg_cmp (x1).toInt64 10)) (r := []) (by rw [cl_lt]; exact decide_eq_true (by first | (rw [Int32.toInt_toInt64]; show x1.toInt < (10 : Int); omega) | omega)) (by decide))) ?_
      refine Go.next (f' := (18, [some (.long (x1).toInt64), none, some (.long 10), none, some (.long 13), none], [.int 0])) (w' := fr_w) ((ex_stp (ins := .iconst 0) rfl).trans rfl) ?_
      exact Go.ret ((ex_stp (ins := .ireturn) rfl).trans rfl)
    refine Go.call (d := 38) (cal := 93) (as := [.long (x1).toInt64, .long 10, .long 13]) (g := (15, [some (.ref 59), some (.int x1), none, none, none], [])) (M' := mt_93) (r := some (.int 0)) (w' := fr_w) ((ex_stp (ins := .invokestatic 95) rfl).trans rfl) rfl (Nat.le_of_ble_eq_true rfl) h_143 ?_
    show Go [] 39 mt_66 (15, [some (.ref 59), some (.int x1), none, none, none], [.int 0]) fr_w _
    refine Go.next (f' := (18, [some (.ref 59), some (.int x1), none, none, none], [])) (w' := fr_w) ((ex_stp (ins := .ifCond .ne 19) rfl).trans rfl) ?_
    refine Go.next (f' := (19, [some (.ref 59), some (.int x1), none, none, none], [.int x1])) (w' := fr_w) ((ex_stp (ins := .iload_n 1) rfl).trans rfl) ?_
    refine Go.next (f' := (20, [some (.ref 59), some (.int x1), none, none, none], [.long (x1).toInt64])) (w' := fr_w) ((ex_stp (ins := .i2l) rfl).trans rfl) ?_
    refine Go.next (f' := (23, [some (.ref 59), some (.int x1), none, none, none], [.long 20, .long (x1).toInt64])) (w' := fr_w) ((ex_stp (ins := .ldc2_w 190) rfl).trans rfl) ?_
    refine Go.next (f' := (26, [some (.ref 59), some (.int x1), none, none, none], [.long 23, .long 20, .long (x1).toInt64])) (w' := fr_w) ((ex_stp (ins := .ldc2_w 271) rfl).trans rfl) ?_
    have h_144 : Go [] 38 mt_93 (ex_ent mt_93 [.long (x1).toInt64, .long 20, .long 23]) fr_w (some (.int 0), fr_w) := by
      show Go [] 38 mt_93 (0, [some (.long (x1).toInt64), none, some (.long 20), none, some (.long 23), none], []) fr_w _
      refine Go.next (f' := (1, [some (.long (x1).toInt64), none, some (.long 20), none, some (.long 23), none], [.long (x1).toInt64])) (w' := fr_w) ((ex_stp (ins := .lload_n 0) rfl).trans rfl) ?_
      refine Go.next (f' := (2, [some (.long (x1).toInt64), none, some (.long 20), none, some (.long 23), none], [.long 20, .long (x1).toInt64])) (w' := fr_w) ((ex_stp (ins := .lload_n 2) rfl).trans rfl) ?_
      refine Go.next (f' := (3, [some (.long (x1).toInt64), none, some (.long 20), none, some (.long 23), none], [.int (lg_cmp (x1).toInt64 20)])) (w' := fr_w) ((ex_stp (ins := .lcmp) rfl).trans rfl) ?_
      refine Go.next (f' := (17, [some (.long (x1).toInt64), none, some (.long 20), none, some (.long 23), none], [])) (w' := fr_w) ((ex_stp (ins := .ifCond .lt 14) rfl).trans (ex_b0_t (c := .lt) (off := 14) (pc := 3) (lo := [some (.long (x1).toInt64), none, some (.long 20), none, some (.long 23), none]) (x := (lg_cmp (x1).toInt64 20)) (r := []) (by rw [cl_lt]; exact decide_eq_true (by first | (rw [Int32.toInt_toInt64]; show x1.toInt < (20 : Int); omega) | omega)) (by decide))) ?_
      refine Go.next (f' := (18, [some (.long (x1).toInt64), none, some (.long 20), none, some (.long 23), none], [.int 0])) (w' := fr_w) ((ex_stp (ins := .iconst 0) rfl).trans rfl) ?_
      exact Go.ret ((ex_stp (ins := .ireturn) rfl).trans rfl)
    refine Go.call (d := 38) (cal := 93) (as := [.long (x1).toInt64, .long 20, .long 23]) (g := (29, [some (.ref 59), some (.int x1), none, none, none], [])) (M' := mt_93) (r := some (.int 0)) (w' := fr_w) ((ex_stp (ins := .invokestatic 95) rfl).trans rfl) rfl (Nat.le_of_ble_eq_true rfl) h_144 ?_
    show Go [] 39 mt_66 (29, [some (.ref 59), some (.int x1), none, none, none], [.int 0]) fr_w _
    refine Go.next (f' := (32, [some (.ref 59), some (.int x1), none, none, none], [])) (w' := fr_w) ((ex_stp (ins := .ifCond .ne 5) rfl).trans rfl) ?_
    refine Go.next (f' := (33, [some (.ref 59), some (.int x1), none, none, none], [.int (-1)])) (w' := fr_w) ((ex_stp (ins := .iconst (-1)) rfl).trans rfl) ?_
    exact Go.ret ((ex_stp (ins := .ireturn) rfl).trans rfl)
set_option maxRecDepth 100000 in
theorem ao_31_c (x1 : Int32) (g0 : 13 < x1.toInt) (g1 : x1.toInt < 20) : A2 mt_65 mt_66 [.int x1] := by
  refine ⟨(-1), fr_w, fr_w, _, ?_, rfl, ?_⟩
  · show Go [] 39 mt_65 (0, [some (.ref 0), some (.int x1), none, none], []) fr_w _
    refine Go.next (f' := (1, [some (.ref 0), some (.int x1), none, none], [.int x1])) (w' := fr_w) ((ex_stp (ins := .iload_n 1) rfl).trans rfl) ?_
    refine Go.next (f' := (3, [some (.ref 0), some (.int x1), none, none], [.int 10, .int x1])) (w' := fr_w) ((ex_stp (ins := .bipush 10) rfl).trans rfl) ?_
    refine Go.next (f' := (6, [some (.ref 0), some (.int x1), none, none], [])) (w' := fr_w) ((ex_stp (ins := .if_icmp .lt 13) rfl).trans (ex_b2_f (c := .lt) (off := 13) (pc := 3) (lo := [some (.ref 0), some (.int x1), none, none]) (x := x1) (y := 10) (r := []) (by rw [c2_lt]; exact decide_eq_false (by show ¬ (x1.toInt < (10 : Int)); omega)) (by decide))) ?_
    refine Go.next (f' := (7, [some (.ref 0), some (.int x1), none, none], [.int x1])) (w' := fr_w) ((ex_stp (ins := .iload_n 1) rfl).trans rfl) ?_
    refine Go.next (f' := (9, [some (.ref 0), some (.int x1), none, none], [.int 14, .int x1])) (w' := fr_w) ((ex_stp (ins := .bipush 14) rfl).trans rfl) ?_
    refine Go.next (f' := (16, [some (.ref 0), some (.int x1), none, none], [])) (w' := fr_w) ((ex_stp (ins := .if_icmp .ge 7) rfl).trans (ex_b2_t (c := .ge) (off := 7) (pc := 9) (lo := [some (.ref 0), some (.int x1), none, none]) (x := x1) (y := 14) (r := []) (by rw [c2_ge]; exact decide_eq_true (by show (14 : Int) ≤ x1.toInt; omega)) (by decide))) ?_
    refine Go.next (f' := (17, [some (.ref 0), some (.int x1), none, none], [.int 0])) (w' := fr_w) ((ex_stp (ins := .iconst 0) rfl).trans rfl) ?_
    refine Go.next (f' := (18, [some (.ref 0), some (.int x1), some (.int 0), none], [])) (w' := fr_w) ((ex_stp (ins := .istore_n 2) rfl).trans rfl) ?_
    refine Go.next (f' := (19, [some (.ref 0), some (.int x1), some (.int 0), none], [.int x1])) (w' := fr_w) ((ex_stp (ins := .iload_n 1) rfl).trans rfl) ?_
    refine Go.next (f' := (21, [some (.ref 0), some (.int x1), some (.int 0), none], [.int 20, .int x1])) (w' := fr_w) ((ex_stp (ins := .bipush 20) rfl).trans rfl) ?_
    refine Go.next (f' := (34, [some (.ref 0), some (.int x1), some (.int 0), none], [])) (w' := fr_w) ((ex_stp (ins := .if_icmp .lt 13) rfl).trans (ex_b2_t (c := .lt) (off := 13) (pc := 21) (lo := [some (.ref 0), some (.int x1), some (.int 0), none]) (x := x1) (y := 20) (r := []) (by rw [c2_lt]; exact decide_eq_true (by show x1.toInt < (20 : Int); omega)) (by decide))) ?_
    refine Go.next (f' := (35, [some (.ref 0), some (.int x1), some (.int 0), none], [.int 0])) (w' := fr_w) ((ex_stp (ins := .iconst 0) rfl).trans rfl) ?_
    refine Go.next (f' := (36, [some (.ref 0), some (.int x1), some (.int 0), some (.int 0)], [])) (w' := fr_w) ((ex_stp (ins := .istore_n 3) rfl).trans rfl) ?_
    refine Go.next (f' := (37, [some (.ref 0), some (.int x1), some (.int 0), some (.int 0)], [.int x1])) (w' := fr_w) ((ex_stp (ins := .iload_n 1) rfl).trans rfl) ?_
    refine Go.next (f' := (40, [some (.ref 0), some (.int x1), some (.int 0), some (.int 0)], [])) (w' := fr_w) ((ex_stp (ins := .ifCond .eq 13) rfl).trans (ex_b0_f (c := .eq) (off := 13) (pc := 37) (lo := [some (.ref 0), some (.int x1), some (.int 0), some (.int 0)]) (x := x1) (r := []) (by rw [c0_eq]; exact decide_eq_false (by show ¬ (x1.toInt = (0 : Int)); omega)) (by decide))) ?_
    refine Go.next (f' := (41, [some (.ref 0), some (.int x1), some (.int 0), some (.int 0)], [.int 0])) (w' := fr_w) ((ex_stp (ins := .iload_n 2) rfl).trans rfl) ?_
    refine Go.next (f' := (44, [some (.ref 0), some (.int x1), some (.int 0), some (.int 0)], [])) (w' := fr_w) ((ex_stp (ins := .ifCond .ne 9) rfl).trans rfl) ?_
    refine Go.next (f' := (45, [some (.ref 0), some (.int x1), some (.int 0), some (.int 0)], [.int 0])) (w' := fr_w) ((ex_stp (ins := .iload_n 3) rfl).trans rfl) ?_
    refine Go.next (f' := (48, [some (.ref 0), some (.int x1), some (.int 0), some (.int 0)], [])) (w' := fr_w) ((ex_stp (ins := .ifCond .ne 5) rfl).trans rfl) ?_
    refine Go.next (f' := (49, [some (.ref 0), some (.int x1), some (.int 0), some (.int 0)], [.int (-1)])) (w' := fr_w) ((ex_stp (ins := .iconst (-1)) rfl).trans rfl) ?_
    exact Go.ret ((ex_stp (ins := .ireturn) rfl).trans rfl)
  · show Go [] 39 mt_66 (0, [some (.ref 59), some (.int x1), none, none, none], []) fr_w _
    refine Go.next (f' := (1, [some (.ref 59), some (.int x1), none, none, none], [.int x1])) (w' := fr_w) ((ex_stp (ins := .iload_n 1) rfl).trans rfl) ?_
    refine Go.next (f' := (4, [some (.ref 59), some (.int x1), none, none, none], [])) (w' := fr_w) ((ex_stp (ins := .ifCond .eq 33) rfl).trans (ex_b0_f (c := .eq) (off := 33) (pc := 1) (lo := [some (.ref 59), some (.int x1), none, none, none]) (x := x1) (r := []) (by rw [c0_eq]; exact decide_eq_false (by show ¬ (x1.toInt = (0 : Int)); omega)) (by decide))) ?_
    refine Go.next (f' := (5, [some (.ref 59), some (.int x1), none, none, none], [.int x1])) (w' := fr_w) ((ex_stp (ins := .iload_n 1) rfl).trans rfl) ?_
    refine Go.next (f' := (6, [some (.ref 59), some (.int x1), none, none, none], [.long (x1).toInt64])) (w' := fr_w) ((ex_stp (ins := .i2l) rfl).trans rfl) ?_
    refine Go.next (f' := (9, [some (.ref 59), some (.int x1), none, none, none], [.long 10, .long (x1).toInt64])) (w' := fr_w) ((ex_stp (ins := .ldc2_w 231) rfl).trans rfl) ?_
    refine Go.next (f' := (12, [some (.ref 59), some (.int x1), none, none, none], [.long 13, .long 10, .long (x1).toInt64])) (w' := fr_w) ((ex_stp (ins := .ldc2_w 269) rfl).trans rfl) ?_
    have h_145 : Go [] 38 mt_93 (ex_ent mt_93 [.long (x1).toInt64, .long 10, .long 13]) fr_w (some (.int 0), fr_w) := by
      show Go [] 38 mt_93 (0, [some (.long (x1).toInt64), none, some (.long 10), none, some (.long 13), none], []) fr_w _
      refine Go.next (f' := (1, [some (.long (x1).toInt64), none, some (.long 10), none, some (.long 13), none], [.long (x1).toInt64])) (w' := fr_w) ((ex_stp (ins := .lload_n 0) rfl).trans rfl) ?_
      refine Go.next (f' := (2, [some (.long (x1).toInt64), none, some (.long 10), none, some (.long 13), none], [.long 10, .long (x1).toInt64])) (w' := fr_w) ((ex_stp (ins := .lload_n 2) rfl).trans rfl) ?_
      refine Go.next (f' := (3, [some (.long (x1).toInt64), none, some (.long 10), none, some (.long 13), none], [.int (lg_cmp (x1).toInt64 10)])) (w' := fr_w) ((ex_stp (ins := .lcmp) rfl).trans rfl) ?_
      refine Go.next (f' := (6, [some (.long (x1).toInt64), none, some (.long 10), none, some (.long 13), none], [])) (w' := fr_w) ((ex_stp (ins := .ifCond .lt 14) rfl).trans (ex_b0_f (c := .lt) (off := 14) (pc := 3) (lo := [some (.long (x1).toInt64), none, some (.long 10), none, some (.long 13), none]) (x := (lg_cmp (x1).toInt64 10)) (r := []) (by rw [cl_lt]; exact decide_eq_false (by first | (rw [Int32.toInt_toInt64]; show ¬ (x1.toInt < (10 : Int)); omega) | omega)) (by decide))) ?_
      refine Go.next (f' := (7, [some (.long (x1).toInt64), none, some (.long 10), none, some (.long 13), none], [.long (x1).toInt64])) (w' := fr_w) ((ex_stp (ins := .lload_n 0) rfl).trans rfl) ?_
      refine Go.next (f' := (9, [some (.long (x1).toInt64), none, some (.long 10), none, some (.long 13), none], [.long 13, .long (x1).toInt64])) (w' := fr_w) ((ex_stp (ins := .lload 4) rfl).trans rfl) ?_
      refine Go.next (f' := (10, [some (.long (x1).toInt64), none, some (.long 10), none, some (.long 13), none], [.int (lg_cmp (x1).toInt64 13)])) (w' := fr_w) ((ex_stp (ins := .lcmp) rfl).trans rfl) ?_
      refine Go.next (f' := (17, [some (.long (x1).toInt64), none, some (.long 10), none, some (.long 13), none], [])) (w' := fr_w) ((ex_stp (ins := .ifCond .gt 7) rfl).trans (ex_b0_t (c := .gt) (off := 7) (pc := 10) (lo := [some (.long (x1).toInt64), none, some (.long 10), none, some (.long 13), none]) (x := (lg_cmp (x1).toInt64 13)) (r := []) (by rw [cl_gt]; exact decide_eq_true (by first | (rw [Int32.toInt_toInt64]; show (13 : Int) < x1.toInt; omega) | omega)) (by decide))) ?_
      refine Go.next (f' := (18, [some (.long (x1).toInt64), none, some (.long 10), none, some (.long 13), none], [.int 0])) (w' := fr_w) ((ex_stp (ins := .iconst 0) rfl).trans rfl) ?_
      exact Go.ret ((ex_stp (ins := .ireturn) rfl).trans rfl)
    refine Go.call (d := 38) (cal := 93) (as := [.long (x1).toInt64, .long 10, .long 13]) (g := (15, [some (.ref 59), some (.int x1), none, none, none], [])) (M' := mt_93) (r := some (.int 0)) (w' := fr_w) ((ex_stp (ins := .invokestatic 95) rfl).trans rfl) rfl (Nat.le_of_ble_eq_true rfl) h_145 ?_
    show Go [] 39 mt_66 (15, [some (.ref 59), some (.int x1), none, none, none], [.int 0]) fr_w _
    refine Go.next (f' := (18, [some (.ref 59), some (.int x1), none, none, none], [])) (w' := fr_w) ((ex_stp (ins := .ifCond .ne 19) rfl).trans rfl) ?_
    refine Go.next (f' := (19, [some (.ref 59), some (.int x1), none, none, none], [.int x1])) (w' := fr_w) ((ex_stp (ins := .iload_n 1) rfl).trans rfl) ?_
    refine Go.next (f' := (20, [some (.ref 59), some (.int x1), none, none, none], [.long (x1).toInt64])) (w' := fr_w) ((ex_stp (ins := .i2l) rfl).trans rfl) ?_
    refine Go.next (f' := (23, [some (.ref 59), some (.int x1), none, none, none], [.long 20, .long (x1).toInt64])) (w' := fr_w) ((ex_stp (ins := .ldc2_w 190) rfl).trans rfl) ?_
    refine Go.next (f' := (26, [some (.ref 59), some (.int x1), none, none, none], [.long 23, .long 20, .long (x1).toInt64])) (w' := fr_w) ((ex_stp (ins := .ldc2_w 271) rfl).trans rfl) ?_
    have h_146 : Go [] 38 mt_93 (ex_ent mt_93 [.long (x1).toInt64, .long 20, .long 23]) fr_w (some (.int 0), fr_w) := by
      show Go [] 38 mt_93 (0, [some (.long (x1).toInt64), none, some (.long 20), none, some (.long 23), none], []) fr_w _
      refine Go.next (f' := (1, [some (.long (x1).toInt64), none, some (.long 20), none, some (.long 23), none], [.long (x1).toInt64])) (w' := fr_w) ((ex_stp (ins := .lload_n 0) rfl).trans rfl) ?_
      refine Go.next (f' := (2, [some (.long (x1).toInt64), none, some (.long 20), none, some (.long 23), none], [.long 20, .long (x1).toInt64])) (w' := fr_w) ((ex_stp (ins := .lload_n 2) rfl).trans rfl) ?_
      refine Go.next (f' := (3, [some (.long (x1).toInt64), none, some (.long 20), none, some (.long 23), none], [.int (lg_cmp (x1).toInt64 20)])) (w' := fr_w) ((ex_stp (ins := .lcmp) rfl).trans rfl) ?_
      refine Go.next (f' := (17, [some (.long (x1).toInt64), none, some (.long 20), none, some (.long 23), none], [])) (w' := fr_w) ((ex_stp (ins := .ifCond .lt 14) rfl).trans (ex_b0_t (c := .lt) (off := 14) (pc := 3) (lo := [some (.long (x1).toInt64), none, some (.long 20), none, some (.long 23), none]) (x := (lg_cmp (x1).toInt64 20)) (r := []) (by rw [cl_lt]; exact decide_eq_true (by first | (rw [Int32.toInt_toInt64]; show x1.toInt < (20 : Int); omega) | omega)) (by decide))) ?_
      refine Go.next (f' := (18, [some (.long (x1).toInt64), none, some (.long 20), none, some (.long 23), none], [.int 0])) (w' := fr_w) ((ex_stp (ins := .iconst 0) rfl).trans rfl) ?_
      exact Go.ret ((ex_stp (ins := .ireturn) rfl).trans rfl)
    refine Go.call (d := 38) (cal := 93) (as := [.long (x1).toInt64, .long 20, .long 23]) (g := (29, [some (.ref 59), some (.int x1), none, none, none], [])) (M' := mt_93) (r := some (.int 0)) (w' := fr_w) ((ex_stp (ins := .invokestatic 95) rfl).trans rfl) rfl (Nat.le_of_ble_eq_true rfl) h_146 ?_
    show Go [] 39 mt_66 (29, [some (.ref 59), some (.int x1), none, none, none], [.int 0]) fr_w _
    refine Go.next (f' := (32, [some (.ref 59), some (.int x1), none, none, none], [])) (w' := fr_w) ((ex_stp (ins := .ifCond .ne 5) rfl).trans rfl) ?_
    refine Go.next (f' := (33, [some (.ref 59), some (.int x1), none, none, none], [.int (-1)])) (w' := fr_w) ((ex_stp (ins := .iconst (-1)) rfl).trans rfl) ?_
    exact Go.ret ((ex_stp (ins := .ireturn) rfl).trans rfl)
set_option maxRecDepth 100000 in
theorem ao_31_d (x1 : Int32) (g0 : 23 < x1.toInt) : A2 mt_65 mt_66 [.int x1] := by
  refine ⟨(-1), fr_w, fr_w, _, ?_, rfl, ?_⟩
  · show Go [] 39 mt_65 (0, [some (.ref 0), some (.int x1), none, none], []) fr_w _
    refine Go.next (f' := (1, [some (.ref 0), some (.int x1), none, none], [.int x1])) (w' := fr_w) ((ex_stp (ins := .iload_n 1) rfl).trans rfl) ?_
    refine Go.next (f' := (3, [some (.ref 0), some (.int x1), none, none], [.int 10, .int x1])) (w' := fr_w) ((ex_stp (ins := .bipush 10) rfl).trans rfl) ?_
    refine Go.next (f' := (6, [some (.ref 0), some (.int x1), none, none], [])) (w' := fr_w) ((ex_stp (ins := .if_icmp .lt 13) rfl).trans (ex_b2_f (c := .lt) (off := 13) (pc := 3) (lo := [some (.ref 0), some (.int x1), none, none]) (x := x1) (y := 10) (r := []) (by rw [c2_lt]; exact decide_eq_false (by show ¬ (x1.toInt < (10 : Int)); omega)) (by decide))) ?_
    refine Go.next (f' := (7, [some (.ref 0), some (.int x1), none, none], [.int x1])) (w' := fr_w) ((ex_stp (ins := .iload_n 1) rfl).trans rfl) ?_
    refine Go.next (f' := (9, [some (.ref 0), some (.int x1), none, none], [.int 14, .int x1])) (w' := fr_w) ((ex_stp (ins := .bipush 14) rfl).trans rfl) ?_
    refine Go.next (f' := (16, [some (.ref 0), some (.int x1), none, none], [])) (w' := fr_w) ((ex_stp (ins := .if_icmp .ge 7) rfl).trans (ex_b2_t (c := .ge) (off := 7) (pc := 9) (lo := [some (.ref 0), some (.int x1), none, none]) (x := x1) (y := 14) (r := []) (by rw [c2_ge]; exact decide_eq_true (by show (14 : Int) ≤ x1.toInt; omega)) (by decide))) ?_
    refine Go.next (f' := (17, [some (.ref 0), some (.int x1), none, none], [.int 0])) (w' := fr_w) ((ex_stp (ins := .iconst 0) rfl).trans rfl) ?_
    refine Go.next (f' := (18, [some (.ref 0), some (.int x1), some (.int 0), none], [])) (w' := fr_w) ((ex_stp (ins := .istore_n 2) rfl).trans rfl) ?_
    refine Go.next (f' := (19, [some (.ref 0), some (.int x1), some (.int 0), none], [.int x1])) (w' := fr_w) ((ex_stp (ins := .iload_n 1) rfl).trans rfl) ?_
    refine Go.next (f' := (21, [some (.ref 0), some (.int x1), some (.int 0), none], [.int 20, .int x1])) (w' := fr_w) ((ex_stp (ins := .bipush 20) rfl).trans rfl) ?_
    refine Go.next (f' := (24, [some (.ref 0), some (.int x1), some (.int 0), none], [])) (w' := fr_w) ((ex_stp (ins := .if_icmp .lt 13) rfl).trans (ex_b2_f (c := .lt) (off := 13) (pc := 21) (lo := [some (.ref 0), some (.int x1), some (.int 0), none]) (x := x1) (y := 20) (r := []) (by rw [c2_lt]; exact decide_eq_false (by show ¬ (x1.toInt < (20 : Int)); omega)) (by decide))) ?_
    refine Go.next (f' := (25, [some (.ref 0), some (.int x1), some (.int 0), none], [.int x1])) (w' := fr_w) ((ex_stp (ins := .iload_n 1) rfl).trans rfl) ?_
    refine Go.next (f' := (27, [some (.ref 0), some (.int x1), some (.int 0), none], [.int 24, .int x1])) (w' := fr_w) ((ex_stp (ins := .bipush 24) rfl).trans rfl) ?_
    refine Go.next (f' := (34, [some (.ref 0), some (.int x1), some (.int 0), none], [])) (w' := fr_w) ((ex_stp (ins := .if_icmp .ge 7) rfl).trans (ex_b2_t (c := .ge) (off := 7) (pc := 27) (lo := [some (.ref 0), some (.int x1), some (.int 0), none]) (x := x1) (y := 24) (r := []) (by rw [c2_ge]; exact decide_eq_true (by show (24 : Int) ≤ x1.toInt; omega)) (by decide))) ?_
    refine Go.next (f' := (35, [some (.ref 0), some (.int x1), some (.int 0), none], [.int 0])) (w' := fr_w) ((ex_stp (ins := .iconst 0) rfl).trans rfl) ?_
    refine Go.next (f' := (36, [some (.ref 0), some (.int x1), some (.int 0), some (.int 0)], [])) (w' := fr_w) ((ex_stp (ins := .istore_n 3) rfl).trans rfl) ?_
    refine Go.next (f' := (37, [some (.ref 0), some (.int x1), some (.int 0), some (.int 0)], [.int x1])) (w' := fr_w) ((ex_stp (ins := .iload_n 1) rfl).trans rfl) ?_
    refine Go.next (f' := (40, [some (.ref 0), some (.int x1), some (.int 0), some (.int 0)], [])) (w' := fr_w) ((ex_stp (ins := .ifCond .eq 13) rfl).trans (ex_b0_f (c := .eq) (off := 13) (pc := 37) (lo := [some (.ref 0), some (.int x1), some (.int 0), some (.int 0)]) (x := x1) (r := []) (by rw [c0_eq]; exact decide_eq_false (by show ¬ (x1.toInt = (0 : Int)); omega)) (by decide))) ?_
    refine Go.next (f' := (41, [some (.ref 0), some (.int x1), some (.int 0), some (.int 0)], [.int 0])) (w' := fr_w) ((ex_stp (ins := .iload_n 2) rfl).trans rfl) ?_
    refine Go.next (f' := (44, [some (.ref 0), some (.int x1), some (.int 0), some (.int 0)], [])) (w' := fr_w) ((ex_stp (ins := .ifCond .ne 9) rfl).trans rfl) ?_
    refine Go.next (f' := (45, [some (.ref 0), some (.int x1), some (.int 0), some (.int 0)], [.int 0])) (w' := fr_w) ((ex_stp (ins := .iload_n 3) rfl).trans rfl) ?_
    refine Go.next (f' := (48, [some (.ref 0), some (.int x1), some (.int 0), some (.int 0)], [])) (w' := fr_w) ((ex_stp (ins := .ifCond .ne 5) rfl).trans rfl) ?_
    refine Go.next (f' := (49, [some (.ref 0), some (.int x1), some (.int 0), some (.int 0)], [.int (-1)])) (w' := fr_w) ((ex_stp (ins := .iconst (-1)) rfl).trans rfl) ?_
    exact Go.ret ((ex_stp (ins := .ireturn) rfl).trans rfl)
  · show Go [] 39 mt_66 (0, [some (.ref 59), some (.int x1), none, none, none], []) fr_w _
    refine Go.next (f' := (1, [some (.ref 59), some (.int x1), none, none, none], [.int x1])) (w' := fr_w) ((ex_stp (ins := .iload_n 1) rfl).trans rfl) ?_
    refine Go.next (f' := (4, [some (.ref 59), some (.int x1), none, none, none], [])) (w' := fr_w) ((ex_stp (ins := .ifCond .eq 33) rfl).trans (ex_b0_f (c := .eq) (off := 33) (pc := 1) (lo := [some (.ref 59), some (.int x1), none, none, none]) (x := x1) (r := []) (by rw [c0_eq]; exact decide_eq_false (by show ¬ (x1.toInt = (0 : Int)); omega)) (by decide))) ?_
    refine Go.next (f' := (5, [some (.ref 59), some (.int x1), none, none, none], [.int x1])) (w' := fr_w) ((ex_stp (ins := .iload_n 1) rfl).trans rfl) ?_
    refine Go.next (f' := (6, [some (.ref 59), some (.int x1), none, none, none], [.long (x1).toInt64])) (w' := fr_w) ((ex_stp (ins := .i2l) rfl).trans rfl) ?_
    refine Go.next (f' := (9, [some (.ref 59), some (.int x1), none, none, none], [.long 10, .long (x1).toInt64])) (w' := fr_w) ((ex_stp (ins := .ldc2_w 231) rfl).trans rfl) ?_
    refine Go.next (f' := (12, [some (.ref 59), some (.int x1), none, none, none], [.long 13, .long 10, .long (x1).toInt64])) (w' := fr_w) ((ex_stp (ins := .ldc2_w 269) rfl).trans rfl) ?_
    have h_147 : Go [] 38 mt_93 (ex_ent mt_93 [.long (x1).toInt64, .long 10, .long 13]) fr_w (some (.int 0), fr_w) := by
      show Go [] 38 mt_93 (0, [some (.long (x1).toInt64), none, some (.long 10), none, some (.long 13), none], []) fr_w _
      refine Go.next (f' := (1, [some (.long (x1).toInt64), none, some (.long 10), none, some (.long 13), none], [.long (x1).toInt64])) (w' := fr_w) ((ex_stp (ins := .lload_n 0) rfl).trans rfl) ?_
      refine Go.next (f' := (2, [some (.long (x1).toInt64), none, some (.long 10), none, some (.long 13), none], [.long 10, .long (x1).toInt64])) (w' := fr_w) ((ex_stp (ins := .lload_n 2) rfl).trans rfl) ?_
      refine Go.next (f' := (3, [some (.long (x1).toInt64), none, some (.long 10), none, some (.long 13), none], [.int (lg_cmp (x1).toInt64 10)])) (w' := fr_w) ((ex_stp (ins := .lcmp) rfl).trans rfl) ?_
      refine Go.next (f' := (6, [some (.long (x1).toInt64), none, some (.long 10), none, some (.long 13), none], [])) (w' := fr_w) ((ex_stp (ins := .ifCond .lt 14) rfl).trans (ex_b0_f (c := .lt) (off := 14) (pc := 3) (lo := [some (.long (x1).toInt64), none, some (.long 10), none, some (.long 13), none]) (x := (lg_cmp (x1).toInt64 10)) (r := []) (by rw [cl_lt]; exact decide_eq_false (by first | (rw [Int32.toInt_toInt64]; show ¬ (x1.toInt < (10 : Int)); omega) | omega)) (by decide))) ?_
      refine Go.next (f' := (7, [some (.long (x1).toInt64), none, some (.long 10), none, some (.long 13), none], [.long (x1).toInt64])) (w' := fr_w) ((ex_stp (ins := .lload_n 0) rfl).trans rfl) ?_
      refine Go.next (f' := (9, [some (.long (x1).toInt64), none, some (.long 10), none, some (.long 13), none], [.long 13, .long (x1).toInt64])) (w' := fr_w) ((ex_stp (ins := .lload 4) rfl).trans rfl) ?_
      refine Go.next (f' := (10, [some (.long (x1).toInt64), none, some (.long 10), none, some (.long 13), none], [.int (lg_cmp (x1).toInt64 13)])) (w' := fr_w) ((ex_stp (ins := .lcmp) rfl).trans rfl) ?_
      refine Go.next (f' := (17, [some (.long (x1).toInt64), none, some (.long 10), none, some (.long 13), none], [])) (w' := fr_w) ((ex_stp (ins := .ifCond .gt 7) rfl).trans (ex_b0_t (c := .gt) (off := 7) (pc := 10) (lo := [some (.long (x1).toInt64), none, some (.long 10), none, some (.long 13), none]) (x := (lg_cmp (x1).toInt64 13)) (r := []) (by rw [cl_gt]; exact decide_eq_true (by first | (rw [Int32.toInt_toInt64]; show (13 : Int) < x1.toInt; omega) | omega)) (by decide))) ?_
      refine Go.next (f' := (18, [some (.long (x1).toInt64), none, some (.long 10), none, some (.long 13), none], [.int 0])) (w' := fr_w) ((ex_stp (ins := .iconst 0) rfl).trans rfl) ?_
      exact Go.ret ((ex_stp (ins := .ireturn) rfl).trans rfl)
    refine Go.call (d := 38) (cal := 93) (as := [.long (x1).toInt64, .long 10, .long 13]) (g := (15, [some (.ref 59), some (.int x1), none, none, none], [])) (M' := mt_93) (r := some (.int 0)) (w' := fr_w) ((ex_stp (ins := .invokestatic 95) rfl).trans rfl) rfl (Nat.le_of_ble_eq_true rfl) h_147 ?_
    show Go [] 39 mt_66 (15, [some (.ref 59), some (.int x1), none, none, none], [.int 0]) fr_w _
    refine Go.next (f' := (18, [some (.ref 59), some (.int x1), none, none, none], [])) (w' := fr_w) ((ex_stp (ins := .ifCond .ne 19) rfl).trans rfl) ?_
    refine Go.next (f' := (19, [some (.ref 59), some (.int x1), none, none, none], [.int x1])) (w' := fr_w) ((ex_stp (ins := .iload_n 1) rfl).trans rfl) ?_
    refine Go.next (f' := (20, [some (.ref 59), some (.int x1), none, none, none], [.long (x1).toInt64])) (w' := fr_w) ((ex_stp (ins := .i2l) rfl).trans rfl) ?_
    refine Go.next (f' := (23, [some (.ref 59), some (.int x1), none, none, none], [.long 20, .long (x1).toInt64])) (w' := fr_w) ((ex_stp (ins := .ldc2_w 190) rfl).trans rfl) ?_
    refine Go.next (f' := (26, [some (.ref 59), some (.int x1), none, none, none], [.long 23, .long 20, .long (x1).toInt64])) (w' := fr_w) ((ex_stp (ins := .ldc2_w 271) rfl).trans rfl) ?_
    have h_148 : Go [] 38 mt_93 (ex_ent mt_93 [.long (x1).toInt64, .long 20, .long 23]) fr_w (some (.int 0), fr_w) := by
      show Go [] 38 mt_93 (0, [some (.long (x1).toInt64), none, some (.long 20), none, some (.long 23), none], []) fr_w _
      refine Go.next (f' := (1, [some (.long (x1).toInt64), none, some (.long 20), none, some (.long 23), none], [.long (x1).toInt64])) (w' := fr_w) ((ex_stp (ins := .lload_n 0) rfl).trans rfl) ?_
      refine Go.next (f' := (2, [some (.long (x1).toInt64), none, some (.long 20), none, some (.long 23), none], [.long 20, .long (x1).toInt64])) (w' := fr_w) ((ex_stp (ins := .lload_n 2) rfl).trans rfl) ?_
      refine Go.next (f' := (3, [some (.long (x1).toInt64), none, some (.long 20), none, some (.long 23), none], [.int (lg_cmp (x1).toInt64 20)])) (w' := fr_w) ((ex_stp (ins := .lcmp) rfl).trans rfl) ?_
      refine Go.next (f' := (6, [some (.long (x1).toInt64), none, some (.long 20), none, some (.long 23), none], [])) (w' := fr_w) ((ex_stp (ins := .ifCond .lt 14) rfl).trans (ex_b0_f (c := .lt) (off := 14) (pc := 3) (lo := [some (.long (x1).toInt64), none, some (.long 20), none, some (.long 23), none]) (x := (lg_cmp (x1).toInt64 20)) (r := []) (by rw [cl_lt]; exact decide_eq_false (by first | (rw [Int32.toInt_toInt64]; show ¬ (x1.toInt < (20 : Int)); omega) | omega)) (by decide))) ?_
      refine Go.next (f' := (7, [some (.long (x1).toInt64), none, some (.long 20), none, some (.long 23), none], [.long (x1).toInt64])) (w' := fr_w) ((ex_stp (ins := .lload_n 0) rfl).trans rfl) ?_
      refine Go.next (f' := (9, [some (.long (x1).toInt64), none, some (.long 20), none, some (.long 23), none], [.long 23, .long (x1).toInt64])) (w' := fr_w) ((ex_stp (ins := .lload 4) rfl).trans rfl) ?_
      refine Go.next (f' := (10, [some (.long (x1).toInt64), none, some (.long 20), none, some (.long 23), none], [.int (lg_cmp (x1).toInt64 23)])) (w' := fr_w) ((ex_stp (ins := .lcmp) rfl).trans rfl) ?_
      refine Go.next (f' := (17, [some (.long (x1).toInt64), none, some (.long 20), none, some (.long 23), none], [])) (w' := fr_w) ((ex_stp (ins := .ifCond .gt 7) rfl).trans (ex_b0_t (c := .gt) (off := 7) (pc := 10) (lo := [some (.long (x1).toInt64), none, some (.long 20), none, some (.long 23), none]) (x := (lg_cmp (x1).toInt64 23)) (r := []) (by rw [cl_gt]; exact decide_eq_true (by first | (rw [Int32.toInt_toInt64]; show (23 : Int) < x1.toInt; omega) | omega)) (by decide))) ?_
      refine Go.next (f' := (18, [some (.long (x1).toInt64), none, some (.long 20), none, some (.long 23), none], [.int 0])) (w' := fr_w) ((ex_stp (ins := .iconst 0) rfl).trans rfl) ?_
      exact Go.ret ((ex_stp (ins := .ireturn) rfl).trans rfl)
    refine Go.call (d := 38) (cal := 93) (as := [.long (x1).toInt64, .long 20, .long 23]) (g := (29, [some (.ref 59), some (.int x1), none, none, none], [])) (M' := mt_93) (r := some (.int 0)) (w' := fr_w) ((ex_stp (ins := .invokestatic 95) rfl).trans rfl) rfl (Nat.le_of_ble_eq_true rfl) h_148 ?_
    show Go [] 39 mt_66 (29, [some (.ref 59), some (.int x1), none, none, none], [.int 0]) fr_w _
    refine Go.next (f' := (32, [some (.ref 59), some (.int x1), none, none, none], [])) (w' := fr_w) ((ex_stp (ins := .ifCond .ne 5) rfl).trans rfl) ?_
    refine Go.next (f' := (33, [some (.ref 59), some (.int x1), none, none, none], [.int (-1)])) (w' := fr_w) ((ex_stp (ins := .iconst (-1)) rfl).trans rfl) ?_
    exact Go.ret ((ex_stp (ins := .ireturn) rfl).trans rfl)
set_option maxRecDepth 100000 in
theorem ao_32_a (x1 x2 x3 : Int32) (g0 : x1.toInt < 1) : A2 mt_67 mt_68 [.int x1, .int x2, .int x3] := by
  refine ⟨(-1), fr_w, fr_w, _, ?_, rfl, ?_⟩
  · show Go [] 39 mt_67 (0, [some (.ref 0), some (.int x1), some (.int x2), some (.int x3)], []) fr_w _
    refine Go.next (f' := (1, [some (.ref 0), some (.int x1), some (.int x2), some (.int x3)], [.int x1])) (w' := fr_w) ((ex_stp (ins := .iload_n 1) rfl).trans rfl) ?_
    refine Go.next (f' := (2, [some (.ref 0), some (.int x1), some (.int x2), some (.int x3)], [.int 1, .int x1])) (w' := fr_w) ((ex_stp (ins := .iconst 1) rfl).trans rfl) ?_
    refine Go.next (f' := (30, [some (.ref 0), some (.int x1), some (.int x2), some (.int x3)], [])) (w' := fr_w) ((ex_stp (ins := .if_icmp .lt 28) rfl).trans (ex_b2_t (c := .lt) (off := 28) (pc := 2) (lo := [some (.ref 0), some (.int x1), some (.int x2), some (.int x3)]) (x := x1) (y := 1) (r := []) (by rw [c2_lt]; exact decide_eq_true (by show x1.toInt < (1 : Int); omega)) (by decide))) ?_
    refine Go.next (f' := (31, [some (.ref 0), some (.int x1), some (.int x2), some (.int x3)], [.int (-1)])) (w' := fr_w) ((ex_stp (ins := .iconst (-1)) rfl).trans rfl) ?_
    exact Go.ret ((ex_stp (ins := .ireturn) rfl).trans rfl)
  · show Go [] 39 mt_68 (0, [some (.ref 59), some (.int x1), some (.int x2), some (.int x3), none, none, none, none, none, none, none, none], []) fr_w _
    refine Go.next (f' := (1, [some (.ref 59), some (.int x1), some (.int x2), some (.int x3), none, none, none, none, none, none, none, none], [.int x1])) (w' := fr_w) ((ex_stp (ins := .iload_n 1) rfl).trans rfl) ?_
    refine Go.next (f' := (2, [some (.ref 59), some (.int x1), some (.int x2), some (.int x3), none, none, none, none, none, none, none, none], [.long (x1).toInt64])) (w' := fr_w) ((ex_stp (ins := .i2l) rfl).trans rfl) ?_
    refine Go.next (f' := (3, [some (.ref 59), some (.int x1), some (.int x2), some (.int x3), none, none, none, none, none, none, none, none], [.long 1, .long (x1).toInt64])) (w' := fr_w) ((ex_stp (ins := .lconst 1) rfl).trans rfl) ?_
    refine Go.next (f' := (6, [some (.ref 59), some (.int x1), some (.int x2), some (.int x3), none, none, none, none, none, none, none, none], [.long 6, .long 1, .long (x1).toInt64])) (w' := fr_w) ((ex_stp (ins := .ldc2_w 276) rfl).trans rfl) ?_
    have h_149 : Go [] 38 mt_93 (ex_ent mt_93 [.long (x1).toInt64, .long 1, .long 6]) fr_w (some (.int 0), fr_w) := by
      show Go [] 38 mt_93 (0, [some (.long (x1).toInt64), none, some (.long 1), none, some (.long 6), none], []) fr_w _
      refine Go.next (f' := (1, [some (.long (x1).toInt64), none, some (.long 1), none, some (.long 6), none], [.long (x1).toInt64])) (w' := fr_w) ((ex_stp (ins := .lload_n 0) rfl).trans rfl) ?_
      refine Go.next (f' := (2, [some (.long (x1).toInt64), none, some (.long 1), none, some (.long 6), none], [.long 1, .long (x1).toInt64])) (w' := fr_w) ((ex_stp (ins := .lload_n 2) rfl).trans rfl) ?_
      refine Go.next (f' := (3, [some (.long (x1).toInt64), none, some (.long 1), none, some (.long 6), none], [.int (lg_cmp (x1).toInt64 1)])) (w' := fr_w) ((ex_stp (ins := .lcmp) rfl).trans rfl) ?_
      refine Go.next (f' := (17, [some (.long (x1).toInt64), none, some (.long 1), none, some (.long 6), none], [])) (w' := fr_w) ((ex_stp (ins := .ifCond .lt 14) rfl).trans (ex_b0_t (c := .lt) (off := 14) (pc := 3) (lo := [some (.long (x1).toInt64), none, some (.long 1), none, some (.long 6), none]) (x := (lg_cmp (x1).toInt64 1)) (r := []) (by rw [cl_lt]; exact decide_eq_true (by first | (rw [Int32.toInt_toInt64]; show x1.toInt < (1 : Int); omega) | omega)) (by decide))) ?_
      refine Go.next (f' := (18, [some (.long (x1).toInt64), none, some (.long 1), none, some (.long 6), none], [.int 0])) (w' := fr_w) ((ex_stp (ins := .iconst 0) rfl).trans rfl) ?_
      exact Go.ret ((ex_stp (ins := .ireturn) rfl).trans rfl)
    refine Go.call (d := 38) (cal := 93) (as := [.long (x1).toInt64, .long 1, .long 6]) (g := (9, [some (.ref 59), some (.int x1), some (.int x2), some (.int x3), none, none, none, none, none, none, none, none], [])) (M' := mt_93) (r := some (.int 0)) (w' := fr_w) ((ex_stp (ins := .invokestatic 95) rfl).trans rfl) rfl (Nat.le_of_ble_eq_true rfl) h_149 ?_
    show Go [] 39 mt_68 (9, [some (.ref 59), some (.int x1), some (.int x2), some (.int x3), none, none, none, none, none, none, none, none], [.int 0]) fr_w _
    refine Go.next (f' := (36, [some (.ref 59), some (.int x1), some (.int x2), some (.int x3), none, none, none, none, none, none, none, none], [])) (w' := fr_w) ((ex_stp (ins := .ifCond .eq 27) rfl).trans rfl) ?_
    refine Go.next (f' := (37, [some (.ref 59), some (.int x1), some (.int x2), some (.int x3), none, none, none, none, none, none, none, none], [.int (-1)])) (w' := fr_w) ((ex_stp (ins := .iconst (-1)) rfl).trans rfl) ?_
    exact Go.ret ((ex_stp (ins := .ireturn) rfl).trans rfl)
set_option maxRecDepth 100000 in
theorem ao_32_b (x1 x2 x3 : Int32) (g0 : 6 < x1.toInt) : A2 mt_67 mt_68 [.int x1, .int x2, .int x3] := by
  refine ⟨(-1), fr_w, fr_w, _, ?_, rfl, ?_⟩
  · show Go [] 39 mt_67 (0, [some (.ref 0), some (.int x1), some (.int x2), some (.int x3)], []) fr_w _
    refine Go.next (f' := (1, [some (.ref 0), some (.int x1), some (.int x2), some (.int x3)], [.int x1])) (w' := fr_w) ((ex_stp (ins := .iload_n 1) rfl).trans rfl) ?_
    refine Go.next (f' := (2, [some (.ref 0), some (.int x1), some (.int x2), some (.int x3)], [.int 1, .int x1])) (w' := fr_w) ((ex_stp (ins := .iconst 1) rfl).trans rfl) ?_
    refine Go.next (f' := (5, [some (.ref 0), some (.int x1), some (.int x2), some (.int x3)], [])) (w' := fr_w) ((ex_stp (ins := .if_icmp .lt 28) rfl).trans (ex_b2_f (c := .lt) (off := 28) (pc := 2) (lo := [some (.ref 0), some (.int x1), some (.int x2), some (.int x3)]) (x := x1) (y := 1) (r := []) (by rw [c2_lt]; exact decide_eq_false (by show ¬ (x1.toInt < (1 : Int)); omega)) (by decide))) ?_
    refine Go.next (f' := (6, [some (.ref 0), some (.int x1), some (.int x2), some (.int x3)], [.int x1])) (w' := fr_w) ((ex_stp (ins := .iload_n 1) rfl).trans rfl) ?_
    refine Go.next (f' := (8, [some (.ref 0), some (.int x1), some (.int x2), some (.int x3)], [.int 6, .int x1])) (w' := fr_w) ((ex_stp (ins := .bipush 6) rfl).trans rfl) ?_
    refine Go.next (f' := (30, [some (.ref 0), some (.int x1), some (.int x2), some (.int x3)], [])) (w' := fr_w) ((ex_stp (ins := .if_icmp .gt 22) rfl).trans (ex_b2_t (c := .gt) (off := 22) (pc := 8) (lo := [some (.ref 0), some (.int x1), some (.int x2), some (.int x3)]) (x := x1) (y := 6) (r := []) (by rw [c2_gt]; exact decide_eq_true (by show (6 : Int) < x1.toInt; omega)) (by decide))) ?_
    refine Go.next (f' := (31, [some (.ref 0), some (.int x1), some (.int x2), some (.int x3)], [.int (-1)])) (w' := fr_w) ((ex_stp (ins := .iconst (-1)) rfl).trans rfl) ?_
    exact Go.ret ((ex_stp (ins := .ireturn) rfl).trans rfl)
  · show Go [] 39 mt_68 (0, [some (.ref 59), some (.int x1), some (.int x2), some (.int x3), none, none, none, none, none, none, none, none], []) fr_w _
    refine Go.next (f' := (1, [some (.ref 59), some (.int x1), some (.int x2), some (.int x3), none, none, none, none, none, none, none, none], [.int x1])) (w' := fr_w) ((ex_stp (ins := .iload_n 1) rfl).trans rfl) ?_
    refine Go.next (f' := (2, [some (.ref 59), some (.int x1), some (.int x2), some (.int x3), none, none, none, none, none, none, none, none], [.long (x1).toInt64])) (w' := fr_w) ((ex_stp (ins := .i2l) rfl).trans rfl) ?_
    refine Go.next (f' := (3, [some (.ref 59), some (.int x1), some (.int x2), some (.int x3), none, none, none, none, none, none, none, none], [.long 1, .long (x1).toInt64])) (w' := fr_w) ((ex_stp (ins := .lconst 1) rfl).trans rfl) ?_
    refine Go.next (f' := (6, [some (.ref 59), some (.int x1), some (.int x2), some (.int x3), none, none, none, none, none, none, none, none], [.long 6, .long 1, .long (x1).toInt64])) (w' := fr_w) ((ex_stp (ins := .ldc2_w 276) rfl).trans rfl) ?_
    have h_150 : Go [] 38 mt_93 (ex_ent mt_93 [.long (x1).toInt64, .long 1, .long 6]) fr_w (some (.int 0), fr_w) := by
      show Go [] 38 mt_93 (0, [some (.long (x1).toInt64), none, some (.long 1), none, some (.long 6), none], []) fr_w _
      refine Go.next (f' := (1, [some (.long (x1).toInt64), none, some (.long 1), none, some (.long 6), none], [.long (x1).toInt64])) (w' := fr_w) ((ex_stp (ins := .lload_n 0) rfl).trans rfl) ?_
      refine Go.next (f' := (2, [some (.long (x1).toInt64), none, some (.long 1), none, some (.long 6), none], [.long 1, .long (x1).toInt64])) (w' := fr_w) ((ex_stp (ins := .lload_n 2) rfl).trans rfl) ?_
      refine Go.next (f' := (3, [some (.long (x1).toInt64), none, some (.long 1), none, some (.long 6), none], [.int (lg_cmp (x1).toInt64 1)])) (w' := fr_w) ((ex_stp (ins := .lcmp) rfl).trans rfl) ?_
      refine Go.next (f' := (6, [some (.long (x1).toInt64), none, some (.long 1), none, some (.long 6), none], [])) (w' := fr_w) ((ex_stp (ins := .ifCond .lt 14) rfl).trans (ex_b0_f (c := .lt) (off := 14) (pc := 3) (lo := [some (.long (x1).toInt64), none, some (.long 1), none, some (.long 6), none]) (x := (lg_cmp (x1).toInt64 1)) (r := []) (by rw [cl_lt]; exact decide_eq_false (by first | (rw [Int32.toInt_toInt64]; show ¬ (x1.toInt < (1 : Int)); omega) | omega)) (by decide))) ?_
      refine Go.next (f' := (7, [some (.long (x1).toInt64), none, some (.long 1), none, some (.long 6), none], [.long (x1).toInt64])) (w' := fr_w) ((ex_stp (ins := .lload_n 0) rfl).trans rfl) ?_
      refine Go.next (f' := (9, [some (.long (x1).toInt64), none, some (.long 1), none, some (.long 6), none], [.long 6, .long (x1).toInt64])) (w' := fr_w) ((ex_stp (ins := .lload 4) rfl).trans rfl) ?_
      refine Go.next (f' := (10, [some (.long (x1).toInt64), none, some (.long 1), none, some (.long 6), none], [.int (lg_cmp (x1).toInt64 6)])) (w' := fr_w) ((ex_stp (ins := .lcmp) rfl).trans rfl) ?_
      refine Go.next (f' := (17, [some (.long (x1).toInt64), none, some (.long 1), none, some (.long 6), none], [])) (w' := fr_w) ((ex_stp (ins := .ifCond .gt 7) rfl).trans (ex_b0_t (c := .gt) (off := 7) (pc := 10) (lo := [some (.long (x1).toInt64), none, some (.long 1), none, some (.long 6), none]) (x := (lg_cmp (x1).toInt64 6)) (r := []) (by rw [cl_gt]; exact decide_eq_true (by first | (rw [Int32.toInt_toInt64]; show (6 : Int) < x1.toInt; omega) | omega)) (by decide))) ?_
      refine Go.next (f' := (18, [some (.long (x1).toInt64), none, some (.long 1), none, some (.long 6), none], [.int 0])) (w' := fr_w) ((ex_stp (ins := .iconst 0) rfl).trans rfl) ?_
      exact Go.ret ((ex_stp (ins := .ireturn) rfl).trans rfl)
    refine Go.call (d := 38) (cal := 93) (as := [.long (x1).toInt64, .long 1, .long 6]) (g := (9, [some (.ref 59), some (.int x1), some (.int x2), some (.int x3), none, none, none, none, none, none, none, none], [])) (M' := mt_93) (r := some (.int 0)) (w' := fr_w) ((ex_stp (ins := .invokestatic 95) rfl).trans rfl) rfl (Nat.le_of_ble_eq_true rfl) h_150 ?_
    show Go [] 39 mt_68 (9, [some (.ref 59), some (.int x1), some (.int x2), some (.int x3), none, none, none, none, none, none, none, none], [.int 0]) fr_w _
    refine Go.next (f' := (36, [some (.ref 59), some (.int x1), some (.int x2), some (.int x3), none, none, none, none, none, none, none, none], [])) (w' := fr_w) ((ex_stp (ins := .ifCond .eq 27) rfl).trans rfl) ?_
    refine Go.next (f' := (37, [some (.ref 59), some (.int x1), some (.int x2), some (.int x3), none, none, none, none, none, none, none, none], [.int (-1)])) (w' := fr_w) ((ex_stp (ins := .iconst (-1)) rfl).trans rfl) ?_
    exact Go.ret ((ex_stp (ins := .ireturn) rfl).trans rfl)
set_option maxRecDepth 100000 in
theorem ao_32_c (x1 x2 x3 : Int32) (g0 : 1 ≤ x1.toInt) (g1 : x1.toInt ≤ 6) (g2 : x2.toInt < 0) : A2 mt_67 mt_68 [.int x1, .int x2, .int x3] := by
  refine ⟨(-1), fr_w, fr_w, _, ?_, rfl, ?_⟩
  · show Go [] 39 mt_67 (0, [some (.ref 0), some (.int x1), some (.int x2), some (.int x3)], []) fr_w _
    refine Go.next (f' := (1, [some (.ref 0), some (.int x1), some (.int x2), some (.int x3)], [.int x1])) (w' := fr_w) ((ex_stp (ins := .iload_n 1) rfl).trans rfl) ?_
    refine Go.next (f' := (2, [some (.ref 0), some (.int x1), some (.int x2), some (.int x3)], [.int 1, .int x1])) (w' := fr_w) ((ex_stp (ins := .iconst 1) rfl).trans rfl) ?_
    refine Go.next (f' := (5, [some (.ref 0), some (.int x1), some (.int x2), some (.int x3)], [])) (w' := fr_w) ((ex_stp (ins := .if_icmp .lt 28) rfl).trans (ex_b2_f (c := .lt) (off := 28) (pc := 2) (lo := [some (.ref 0), some (.int x1), some (.int x2), some (.int x3)]) (x := x1) (y := 1) (r := []) (by rw [c2_lt]; exact decide_eq_false (by show ¬ (x1.toInt < (1 : Int)); omega)) (by decide))) ?_
    refine Go.next (f' := (6, [some (.ref 0), some (.int x1), some (.int x2), some (.int x3)], [.int x1])) (w' := fr_w) ((ex_stp (ins := .iload_n 1) rfl).trans rfl) ?_
    refine Go.next (f' := (8, [some (.ref 0), some (.int x1), some (.int x2), some (.int x3)], [.int 6, .int x1])) (w' := fr_w) ((ex_stp (ins := .bipush 6) rfl).trans rfl) ?_
    refine Go.next (f' := (11, [some (.ref 0), some (.int x1), some (.int x2), some (.int x3)], [])) (w' := fr_w) ((ex_stp (ins := .if_icmp .gt 22) rfl).trans (ex_b2_f (c := .gt) (off := 22) (pc := 8) (lo := [some (.ref 0), some (.int x1), some (.int x2), some (.int x3)]) (x := x1) (y := 6) (r := []) (by rw [c2_gt]; exact decide_eq_false (by show ¬ ((6 : Int) < x1.toInt); omega)) (by decide))) ?_
    refine Go.next (f' := (12, [some (.ref 0), some (.int x1), some (.int x2), some (.int x3)], [.int x2])) (w' := fr_w) ((ex_stp (ins := .iload_n 2) rfl).trans rfl) ?_
    refine Go.next (f' := (30, [some (.ref 0), some (.int x1), some (.int x2), some (.int x3)], [])) (w' := fr_w) ((ex_stp (ins := .ifCond .lt 18) rfl).trans (ex_b0_t (c := .lt) (off := 18) (pc := 12) (lo := [some (.ref 0), some (.int x1), some (.int x2), some (.int x3)]) (x := x2) (r := []) (by rw [c0_lt]; exact decide_eq_true (by show x2.toInt < (0 : Int); omega)) (by decide))) ?_
    refine Go.next (f' := (31, [some (.ref 0), some (.int x1), some (.int x2), some (.int x3)], [.int (-1)])) (w' := fr_w) ((ex_stp (ins := .iconst (-1)) rfl).trans rfl) ?_
    exact Go.ret ((ex_stp (ins := .ireturn) rfl).trans rfl)
  · show Go [] 39 mt_68 (0, [some (.ref 59), some (.int x1), some (.int x2), some (.int x3), none, none, none, none, none, none, none, none], []) fr_w _
    refine Go.next (f' := (1, [some (.ref 59), some (.int x1), some (.int x2), some (.int x3), none, none, none, none, none, none, none, none], [.int x1])) (w' := fr_w) ((ex_stp (ins := .iload_n 1) rfl).trans rfl) ?_
    refine Go.next (f' := (2, [some (.ref 59), some (.int x1), some (.int x2), some (.int x3), none, none, none, none, none, none, none, none], [.long (x1).toInt64])) (w' := fr_w) ((ex_stp (ins := .i2l) rfl).trans rfl) ?_
    refine Go.next (f' := (3, [some (.ref 59), some (.int x1), some (.int x2), some (.int x3), none, none, none, none, none, none, none, none], [.long 1, .long (x1).toInt64])) (w' := fr_w) ((ex_stp (ins := .lconst 1) rfl).trans rfl) ?_
    refine Go.next (f' := (6, [some (.ref 59), some (.int x1), some (.int x2), some (.int x3), none, none, none, none, none, none, none, none], [.long 6, .long 1, .long (x1).toInt64])) (w' := fr_w) ((ex_stp (ins := .ldc2_w 276) rfl).trans rfl) ?_
    have h_151 : Go [] 38 mt_93 (ex_ent mt_93 [.long (x1).toInt64, .long 1, .long 6]) fr_w (some (.int 1), fr_w) := by
      show Go [] 38 mt_93 (0, [some (.long (x1).toInt64), none, some (.long 1), none, some (.long 6), none], []) fr_w _
      refine Go.next (f' := (1, [some (.long (x1).toInt64), none, some (.long 1), none, some (.long 6), none], [.long (x1).toInt64])) (w' := fr_w) ((ex_stp (ins := .lload_n 0) rfl).trans rfl) ?_
      refine Go.next (f' := (2, [some (.long (x1).toInt64), none, some (.long 1), none, some (.long 6), none], [.long 1, .long (x1).toInt64])) (w' := fr_w) ((ex_stp (ins := .lload_n 2) rfl).trans rfl) ?_
      refine Go.next (f' := (3, [some (.long (x1).toInt64), none, some (.long 1), none, some (.long 6), none], [.int (lg_cmp (x1).toInt64 1)])) (w' := fr_w) ((ex_stp (ins := .lcmp) rfl).trans rfl) ?_
      refine Go.next (f' := (6, [some (.long (x1).toInt64), none, some (.long 1), none, some (.long 6), none], [])) (w' := fr_w) ((ex_stp (ins := .ifCond .lt 14) rfl).trans (ex_b0_f (c := .lt) (off := 14) (pc := 3) (lo := [some (.long (x1).toInt64), none, some (.long 1), none, some (.long 6), none]) (x := (lg_cmp (x1).toInt64 1)) (r := []) (by rw [cl_lt]; exact decide_eq_false (by first | (rw [Int32.toInt_toInt64]; show ¬ (x1.toInt < (1 : Int)); omega) | omega)) (by decide))) ?_
      refine Go.next (f' := (7, [some (.long (x1).toInt64), none, some (.long 1), none, some (.long 6), none], [.long (x1).toInt64])) (w' := fr_w) ((ex_stp (ins := .lload_n 0) rfl).trans rfl) ?_
      refine Go.next (f' := (9, [some (.long (x1).toInt64), none, some (.long 1), none, some (.long 6), none], [.long 6, .long (x1).toInt64])) (w' := fr_w) ((ex_stp (ins := .lload 4) rfl).trans rfl) ?_
      refine Go.next (f' := (10, [some (.long (x1).toInt64), none, some (.long 1), none, some (.long 6), none], [.int (lg_cmp (x1).toInt64 6)])) (w' := fr_w) ((ex_stp (ins := .lcmp) rfl).trans rfl) ?_
      refine Go.next (f' := (13, [some (.long (x1).toInt64), none, some (.long 1), none, some (.long 6), none], [])) (w' := fr_w) ((ex_stp (ins := .ifCond .gt 7) rfl).trans (ex_b0_f (c := .gt) (off := 7) (pc := 10) (lo := [some (.long (x1).toInt64), none, some (.long 1), none, some (.long 6), none]) (x := (lg_cmp (x1).toInt64 6)) (r := []) (by rw [cl_gt]; exact decide_eq_false (by first | (rw [Int32.toInt_toInt64]; show ¬ ((6 : Int) < x1.toInt); omega) | omega)) (by decide))) ?_
      refine Go.next (f' := (14, [some (.long (x1).toInt64), none, some (.long 1), none, some (.long 6), none], [.int 1])) (w' := fr_w) ((ex_stp (ins := .iconst 1) rfl).trans rfl) ?_
      refine Go.next (f' := (18, [some (.long (x1).toInt64), none, some (.long 1), none, some (.long 6), none], [.int 1])) (w' := fr_w) ((ex_stp (ins := .goto 4) rfl).trans rfl) ?_
      exact Go.ret ((ex_stp (ins := .ireturn) rfl).trans rfl)
    refine Go.call (d := 38) (cal := 93) (as := [.long (x1).toInt64, .long 1, .long 6]) (g := (9, [some (.ref 59), some (.int x1), some (.int x2), some (.int x3), none, none, none, none, none, none, none, none], [])) (M' := mt_93) (r := some (.int 1)) (w' := fr_w) ((ex_stp (ins := .invokestatic 95) rfl).trans rfl) rfl (Nat.le_of_ble_eq_true rfl) h_151 ?_
    show Go [] 39 mt_68 (9, [some (.ref 59), some (.int x1), some (.int x2), some (.int x3), none, none, none, none, none, none, none, none], [.int 1]) fr_w _
    refine Go.next (f' := (12, [some (.ref 59), some (.int x1), some (.int x2), some (.int x3), none, none, none, none, none, none, none, none], [])) (w' := fr_w) ((ex_stp (ins := .ifCond .eq 27) rfl).trans rfl) ?_
    refine Go.next (f' := (13, [some (.ref 59), some (.int x1), some (.int x2), some (.int x3), none, none, none, none, none, none, none, none], [.int x2])) (w' := fr_w) ((ex_stp (ins := .iload_n 2) rfl).trans rfl) ?_
    refine Go.next (f' := (14, [some (.ref 59), some (.int x1), some (.int x2), some (.int x3), none, none, none, none, none, none, none, none], [.long (x2).toInt64])) (w' := fr_w) ((ex_stp (ins := .i2l) rfl).trans rfl) ?_
    refine Go.next (f' := (15, [some (.ref 59), some (.int x1), some (.int x2), some (.int x3), none, none, none, none, none, none, none, none], [.long 0, .long (x2).toInt64])) (w' := fr_w) ((ex_stp (ins := .lconst 0) rfl).trans rfl) ?_
    refine Go.next (f' := (18, [some (.ref 59), some (.int x1), some (.int x2), some (.int x3), none, none, none, none, none, none, none, none], [.long 100, .long 0, .long (x2).toInt64])) (w' := fr_w) ((ex_stp (ins := .ldc2_w 278) rfl).trans rfl) ?_
    have h_152 : Go [] 38 mt_93 (ex_ent mt_93 [.long (x2).toInt64, .long 0, .long 100]) fr_w (some (.int 0), fr_w) := by
      show Go [] 38 mt_93 (0, [some (.long (x2).toInt64), none, some (.long 0), none, some (.long 100), none], []) fr_w _
      refine Go.next (f' := (1, [some (.long (x2).toInt64), none, some (.long 0), none, some (.long 100), none], [.long (x2).toInt64])) (w' := fr_w) ((ex_stp (ins := .lload_n 0) rfl).trans rfl) ?_
      refine Go.next (f' := (2, [some (.long (x2).toInt64), none, some (.long 0), none, some (.long 100), none], [.long 0, .long (x2).toInt64])) (w' := fr_w) ((ex_stp (ins := .lload_n 2) rfl).trans rfl) ?_
      refine Go.next (f' := (3, [some (.long (x2).toInt64), none, some (.long 0), none, some (.long 100), none], [.int (lg_cmp (x2).toInt64 0)])) (w' := fr_w) ((ex_stp (ins := .lcmp) rfl).trans rfl) ?_
      refine Go.next (f' := (17, [some (.long (x2).toInt64), none, some (.long 0), none, some (.long 100), none], [])) (w' := fr_w) ((ex_stp (ins := .ifCond .lt 14) rfl).trans (ex_b0_t (c := .lt) (off := 14) (pc := 3) (lo := [some (.long (x2).toInt64), none, some (.long 0), none, some (.long 100), none]) (x := (lg_cmp (x2).toInt64 0)) (r := []) (by rw [cl_lt]; exact decide_eq_true (by first | (rw [Int32.toInt_toInt64]; show x2.toInt < (0 : Int); omega) | omega)) (by decide))) ?_
      refine Go.next (f' := (18, [some (.long (x2).toInt64), none, some (.long 0), none, some (.long 100), none], [.int 0])) (w' := fr_w) ((ex_stp (ins := .iconst 0) rfl).trans rfl) ?_
      exact Go.ret ((ex_stp (ins := .ireturn) rfl).trans rfl)
    refine Go.call (d := 38) (cal := 93) (as := [.long (x2).toInt64, .long 0, .long 100]) (g := (21, [some (.ref 59), some (.int x1), some (.int x2), some (.int x3), none, none, none, none, none, none, none, none], [])) (M' := mt_93) (r := some (.int 0)) (w' := fr_w) ((ex_stp (ins := .invokestatic 95) rfl).trans rfl) rfl (Nat.le_of_ble_eq_true rfl) h_152 ?_
    show Go [] 39 mt_68 (21, [some (.ref 59), some (.int x1), some (.int x2), some (.int x3), none, none, none, none, none, none, none, none], [.int 0]) fr_w _
    refine Go.next (f' := (36, [some (.ref 59), some (.int x1), some (.int x2), some (.int x3), none, none, none, none, none, none, none, none], [])) (w' := fr_w) ((ex_stp (ins := .ifCond .eq 15) rfl).trans rfl) ?_
    refine Go.next (f' := (37, [some (.ref 59), some (.int x1), some (.int x2), some (.int x3), none, none, none, none, none, none, none, none], [.int (-1)])) (w' := fr_w) ((ex_stp (ins := .iconst (-1)) rfl).trans rfl) ?_
    exact Go.ret ((ex_stp (ins := .ireturn) rfl).trans rfl)
set_option maxRecDepth 100000 in
theorem ao_32_d (x1 x2 x3 : Int32) (g0 : 1 ≤ x1.toInt) (g1 : x1.toInt ≤ 6) (g2 : 100 < x2.toInt) : A2 mt_67 mt_68 [.int x1, .int x2, .int x3] := by
  refine ⟨(-1), fr_w, fr_w, _, ?_, rfl, ?_⟩
  · show Go [] 39 mt_67 (0, [some (.ref 0), some (.int x1), some (.int x2), some (.int x3)], []) fr_w _
    refine Go.next (f' := (1, [some (.ref 0), some (.int x1), some (.int x2), some (.int x3)], [.int x1])) (w' := fr_w) ((ex_stp (ins := .iload_n 1) rfl).trans rfl) ?_
    refine Go.next (f' := (2, [some (.ref 0), some (.int x1), some (.int x2), some (.int x3)], [.int 1, .int x1])) (w' := fr_w) ((ex_stp (ins := .iconst 1) rfl).trans rfl) ?_
    refine Go.next (f' := (5, [some (.ref 0), some (.int x1), some (.int x2), some (.int x3)], [])) (w' := fr_w) ((ex_stp (ins := .if_icmp .lt 28) rfl).trans (ex_b2_f (c := .lt) (off := 28) (pc := 2) (lo := [some (.ref 0), some (.int x1), some (.int x2), some (.int x3)]) (x := x1) (y := 1) (r := []) (by rw [c2_lt]; exact decide_eq_false (by show ¬ (x1.toInt < (1 : Int)); omega)) (by decide))) ?_
    refine Go.next (f' := (6, [some (.ref 0), some (.int x1), some (.int x2), some (.int x3)], [.int x1])) (w' := fr_w) ((ex_stp (ins := .iload_n 1) rfl).trans rfl) ?_
    refine Go.next (f' := (8, [some (.ref 0), some (.int x1), some (.int x2), some (.int x3)], [.int 6, .int x1])) (w' := fr_w) ((ex_stp (ins := .bipush 6) rfl).trans rfl) ?_
    refine Go.next (f' := (11, [some (.ref 0), some (.int x1), some (.int x2), some (.int x3)], [])) (w' := fr_w) ((ex_stp (ins := .if_icmp .gt 22) rfl).trans (ex_b2_f (c := .gt) (off := 22) (pc := 8) (lo := [some (.ref 0), some (.int x1), some (.int x2), some (.int x3)]) (x := x1) (y := 6) (r := []) (by rw [c2_gt]; exact decide_eq_false (by show ¬ ((6 : Int) < x1.toInt); omega)) (by decide))) ?_
    refine Go.next (f' := (12, [some (.ref 0), some (.int x1), some (.int x2), some (.int x3)], [.int x2])) (w' := fr_w) ((ex_stp (ins := .iload_n 2) rfl).trans rfl) ?_
    refine Go.next (f' := (15, [some (.ref 0), some (.int x1), some (.int x2), some (.int x3)], [])) (w' := fr_w) ((ex_stp (ins := .ifCond .lt 18) rfl).trans (ex_b0_f (c := .lt) (off := 18) (pc := 12) (lo := [some (.ref 0), some (.int x1), some (.int x2), some (.int x3)]) (x := x2) (r := []) (by rw [c0_lt]; exact decide_eq_false (by show ¬ (x2.toInt < (0 : Int)); omega)) (by decide))) ?_
    refine Go.next (f' := (16, [some (.ref 0), some (.int x1), some (.int x2), some (.int x3)], [.int x2])) (w' := fr_w) ((ex_stp (ins := .iload_n 2) rfl).trans rfl) ?_
    refine Go.next (f' := (18, [some (.ref 0), some (.int x1), some (.int x2), some (.int x3)], [.int 100, .int x2])) (w' := fr_w) ((ex_stp (ins := .bipush 100) rfl).trans rfl) ?_
    refine Go.next (f' := (30, [some (.ref 0), some (.int x1), some (.int x2), some (.int x3)], [])) (w' := fr_w) ((ex_stp (ins := .if_icmp .gt 12) rfl).trans (ex_b2_t (c := .gt) (off := 12) (pc := 18) (lo := [some (.ref 0), some (.int x1), some (.int x2), some (.int x3)]) (x := x2) (y := 100) (r := []) (by rw [c2_gt]; exact decide_eq_true (by show (100 : Int) < x2.toInt; omega)) (by decide))) ?_
    refine Go.next (f' := (31, [some (.ref 0), some (.int x1), some (.int x2), some (.int x3)], [.int (-1)])) (w' := fr_w) ((ex_stp (ins := .iconst (-1)) rfl).trans rfl) ?_
    exact Go.ret ((ex_stp (ins := .ireturn) rfl).trans rfl)
  · show Go [] 39 mt_68 (0, [some (.ref 59), some (.int x1), some (.int x2), some (.int x3), none, none, none, none, none, none, none, none], []) fr_w _
    refine Go.next (f' := (1, [some (.ref 59), some (.int x1), some (.int x2), some (.int x3), none, none, none, none, none, none, none, none], [.int x1])) (w' := fr_w) ((ex_stp (ins := .iload_n 1) rfl).trans rfl) ?_
    refine Go.next (f' := (2, [some (.ref 59), some (.int x1), some (.int x2), some (.int x3), none, none, none, none, none, none, none, none], [.long (x1).toInt64])) (w' := fr_w) ((ex_stp (ins := .i2l) rfl).trans rfl) ?_
    refine Go.next (f' := (3, [some (.ref 59), some (.int x1), some (.int x2), some (.int x3), none, none, none, none, none, none, none, none], [.long 1, .long (x1).toInt64])) (w' := fr_w) ((ex_stp (ins := .lconst 1) rfl).trans rfl) ?_
    refine Go.next (f' := (6, [some (.ref 59), some (.int x1), some (.int x2), some (.int x3), none, none, none, none, none, none, none, none], [.long 6, .long 1, .long (x1).toInt64])) (w' := fr_w) ((ex_stp (ins := .ldc2_w 276) rfl).trans rfl) ?_
    have h_153 : Go [] 38 mt_93 (ex_ent mt_93 [.long (x1).toInt64, .long 1, .long 6]) fr_w (some (.int 1), fr_w) := by
      show Go [] 38 mt_93 (0, [some (.long (x1).toInt64), none, some (.long 1), none, some (.long 6), none], []) fr_w _
      refine Go.next (f' := (1, [some (.long (x1).toInt64), none, some (.long 1), none, some (.long 6), none], [.long (x1).toInt64])) (w' := fr_w) ((ex_stp (ins := .lload_n 0) rfl).trans rfl) ?_
      refine Go.next (f' := (2, [some (.long (x1).toInt64), none, some (.long 1), none, some (.long 6), none], [.long 1, .long (x1).toInt64])) (w' := fr_w) ((ex_stp (ins := .lload_n 2) rfl).trans rfl) ?_
      refine Go.next (f' := (3, [some (.long (x1).toInt64), none, some (.long 1), none, some (.long 6), none], [.int (lg_cmp (x1).toInt64 1)])) (w' := fr_w) ((ex_stp (ins := .lcmp) rfl).trans rfl) ?_
      refine Go.next (f' := (6, [some (.long (x1).toInt64), none, some (.long 1), none, some (.long 6), none], [])) (w' := fr_w) ((ex_stp (ins := .ifCond .lt 14) rfl).trans (ex_b0_f (c := .lt) (off := 14) (pc := 3) (lo := [some (.long (x1).toInt64), none, some (.long 1), none, some (.long 6), none]) (x := (lg_cmp (x1).toInt64 1)) (r := []) (by rw [cl_lt]; exact decide_eq_false (by first | (rw [Int32.toInt_toInt64]; show ¬ (x1.toInt < (1 : Int)); omega) | omega)) (by decide))) ?_
      refine Go.next (f' := (7, [some (.long (x1).toInt64), none, some (.long 1), none, some (.long 6), none], [.long (x1).toInt64])) (w' := fr_w) ((ex_stp (ins := .lload_n 0) rfl).trans rfl) ?_
      refine Go.next (f' := (9, [some (.long (x1).toInt64), none, some (.long 1), none, some (.long 6), none], [.long 6, .long (x1).toInt64])) (w' := fr_w) ((ex_stp (ins := .lload 4) rfl).trans rfl) ?_
      refine Go.next (f' := (10, [some (.long (x1).toInt64), none, some (.long 1), none, some (.long 6), none], [.int (lg_cmp (x1).toInt64 6)])) (w' := fr_w) ((ex_stp (ins := .lcmp) rfl).trans rfl) ?_
      refine Go.next (f' := (13, [some (.long (x1).toInt64), none, some (.long 1), none, some (.long 6), none], [])) (w' := fr_w) ((ex_stp (ins := .ifCond .gt 7) rfl).trans (ex_b0_f (c := .gt) (off := 7) (pc := 10) (lo := [some (.long (x1).toInt64), none, some (.long 1), none, some (.long 6), none]) (x := (lg_cmp (x1).toInt64 6)) (r := []) (by rw [cl_gt]; exact decide_eq_false (by first | (rw [Int32.toInt_toInt64]; show ¬ ((6 : Int) < x1.toInt); omega) | omega)) (by decide))) ?_
      refine Go.next (f' := (14, [some (.long (x1).toInt64), none, some (.long 1), none, some (.long 6), none], [.int 1])) (w' := fr_w) ((ex_stp (ins := .iconst 1) rfl).trans rfl) ?_
      refine Go.next (f' := (18, [some (.long (x1).toInt64), none, some (.long 1), none, some (.long 6), none], [.int 1])) (w' := fr_w) ((ex_stp (ins := .goto 4) rfl).trans rfl) ?_
      exact Go.ret ((ex_stp (ins := .ireturn) rfl).trans rfl)
    refine Go.call (d := 38) (cal := 93) (as := [.long (x1).toInt64, .long 1, .long 6]) (g := (9, [some (.ref 59), some (.int x1), some (.int x2), some (.int x3), none, none, none, none, none, none, none, none], [])) (M' := mt_93) (r := some (.int 1)) (w' := fr_w) ((ex_stp (ins := .invokestatic 95) rfl).trans rfl) rfl (Nat.le_of_ble_eq_true rfl) h_153 ?_
    show Go [] 39 mt_68 (9, [some (.ref 59), some (.int x1), some (.int x2), some (.int x3), none, none, none, none, none, none, none, none], [.int 1]) fr_w _
    refine Go.next (f' := (12, [some (.ref 59), some (.int x1), some (.int x2), some (.int x3), none, none, none, none, none, none, none, none], [])) (w' := fr_w) ((ex_stp (ins := .ifCond .eq 27) rfl).trans rfl) ?_
    refine Go.next (f' := (13, [some (.ref 59), some (.int x1), some (.int x2), some (.int x3), none, none, none, none, none, none, none, none], [.int x2])) (w' := fr_w) ((ex_stp (ins := .iload_n 2) rfl).trans rfl) ?_
    refine Go.next (f' := (14, [some (.ref 59), some (.int x1), some (.int x2), some (.int x3), none, none, none, none, none, none, none, none], [.long (x2).toInt64])) (w' := fr_w) ((ex_stp (ins := .i2l) rfl).trans rfl) ?_
    refine Go.next (f' := (15, [some (.ref 59), some (.int x1), some (.int x2), some (.int x3), none, none, none, none, none, none, none, none], [.long 0, .long (x2).toInt64])) (w' := fr_w) ((ex_stp (ins := .lconst 0) rfl).trans rfl) ?_
    refine Go.next (f' := (18, [some (.ref 59), some (.int x1), some (.int x2), some (.int x3), none, none, none, none, none, none, none, none], [.long 100, .long 0, .long (x2).toInt64])) (w' := fr_w) ((ex_stp (ins := .ldc2_w 278) rfl).trans rfl) ?_
    have h_154 : Go [] 38 mt_93 (ex_ent mt_93 [.long (x2).toInt64, .long 0, .long 100]) fr_w (some (.int 0), fr_w) := by
      show Go [] 38 mt_93 (0, [some (.long (x2).toInt64), none, some (.long 0), none, some (.long 100), none], []) fr_w _
      refine Go.next (f' := (1, [some (.long (x2).toInt64), none, some (.long 0), none, some (.long 100), none], [.long (x2).toInt64])) (w' := fr_w) ((ex_stp (ins := .lload_n 0) rfl).trans rfl) ?_
      refine Go.next (f' := (2, [some (.long (x2).toInt64), none, some (.long 0), none, some (.long 100), none], [.long 0, .long (x2).toInt64])) (w' := fr_w) ((ex_stp (ins := .lload_n 2) rfl).trans rfl) ?_
      refine Go.next (f' := (3, [some (.long (x2).toInt64), none, some (.long 0), none, some (.long 100), none], [.int (lg_cmp (x2).toInt64 0)])) (w' := fr_w) ((ex_stp (ins := .lcmp) rfl).trans rfl) ?_
      refine Go.next (f' := (6, [some (.long (x2).toInt64), none, some (.long 0), none, some (.long 100), none], [])) (w' := fr_w) ((ex_stp (ins := .ifCond .lt 14) rfl).trans (ex_b0_f (c := .lt) (off := 14) (pc := 3) (lo := [some (.long (x2).toInt64), none, some (.long 0), none, some (.long 100), none]) (x := (lg_cmp (x2).toInt64 0)) (r := []) (by rw [cl_lt]; exact decide_eq_false (by first | (rw [Int32.toInt_toInt64]; show ¬ (x2.toInt < (0 : Int)); omega) | omega)) (by decide))) ?_
      refine Go.next (f' := (7, [some (.long (x2).toInt64), none, some (.long 0), none, some (.long 100), none], [.long (x2).toInt64])) (w' := fr_w) ((ex_stp (ins := .lload_n 0) rfl).trans rfl) ?_
      refine Go.next (f' := (9, [some (.long (x2).toInt64), none, some (.long 0), none, some (.long 100), none], [.long 100, .long (x2).toInt64])) (w' := fr_w) ((ex_stp (ins := .lload 4) rfl).trans rfl) ?_
      refine Go.next (f' := (10, [some (.long (x2).toInt64), none, some (.long 0), none, some (.long 100), none], [.int (lg_cmp (x2).toInt64 100)])) (w' := fr_w) ((ex_stp (ins := .lcmp) rfl).trans rfl) ?_
      refine Go.next (f' := (17, [some (.long (x2).toInt64), none, some (.long 0), none, some (.long 100), none], [])) (w' := fr_w) ((ex_stp (ins := .ifCond .gt 7) rfl).trans (ex_b0_t (c := .gt) (off := 7) (pc := 10) (lo := [some (.long (x2).toInt64), none, some (.long 0), none, some (.long 100), none]) (x := (lg_cmp (x2).toInt64 100)) (r := []) (by rw [cl_gt]; exact decide_eq_true (by first | (rw [Int32.toInt_toInt64]; show (100 : Int) < x2.toInt; omega) | omega)) (by decide))) ?_
      refine Go.next (f' := (18, [some (.long (x2).toInt64), none, some (.long 0), none, some (.long 100), none], [.int 0])) (w' := fr_w) ((ex_stp (ins := .iconst 0) rfl).trans rfl) ?_
      exact Go.ret ((ex_stp (ins := .ireturn) rfl).trans rfl)
    refine Go.call (d := 38) (cal := 93) (as := [.long (x2).toInt64, .long 0, .long 100]) (g := (21, [some (.ref 59), some (.int x1), some (.int x2), some (.int x3), none, none, none, none, none, none, none, none], [])) (M' := mt_93) (r := some (.int 0)) (w' := fr_w) ((ex_stp (ins := .invokestatic 95) rfl).trans rfl) rfl (Nat.le_of_ble_eq_true rfl) h_154 ?_
    show Go [] 39 mt_68 (21, [some (.ref 59), some (.int x1), some (.int x2), some (.int x3), none, none, none, none, none, none, none, none], [.int 0]) fr_w _
    refine Go.next (f' := (36, [some (.ref 59), some (.int x1), some (.int x2), some (.int x3), none, none, none, none, none, none, none, none], [])) (w' := fr_w) ((ex_stp (ins := .ifCond .eq 15) rfl).trans rfl) ?_
    refine Go.next (f' := (37, [some (.ref 59), some (.int x1), some (.int x2), some (.int x3), none, none, none, none, none, none, none, none], [.int (-1)])) (w' := fr_w) ((ex_stp (ins := .iconst (-1)) rfl).trans rfl) ?_
    exact Go.ret ((ex_stp (ins := .ireturn) rfl).trans rfl)
set_option maxRecDepth 100000 in
theorem ao_32_e (x1 x2 x3 : Int32) (g0 : 1 ≤ x1.toInt) (g1 : x1.toInt ≤ 6) (g2 : 0 ≤ x2.toInt) (g3 : x2.toInt ≤ 100) (g4 : x3.toInt < 0) : A2 mt_67 mt_68 [.int x1, .int x2, .int x3] := by
  refine ⟨(-1), fr_w, fr_w, _, ?_, rfl, ?_⟩
  · show Go [] 39 mt_67 (0, [some (.ref 0), some (.int x1), some (.int x2), some (.int x3)], []) fr_w _
    refine Go.next (f' := (1, [some (.ref 0), some (.int x1), some (.int x2), some (.int x3)], [.int x1])) (w' := fr_w) ((ex_stp (ins := .iload_n 1) rfl).trans rfl) ?_
    refine Go.next (f' := (2, [some (.ref 0), some (.int x1), some (.int x2), some (.int x3)], [.int 1, .int x1])) (w' := fr_w) ((ex_stp (ins := .iconst 1) rfl).trans rfl) ?_
    refine Go.next (f' := (5, [some (.ref 0), some (.int x1), some (.int x2), some (.int x3)], [])) (w' := fr_w) ((ex_stp (ins := .if_icmp .lt 28) rfl).trans (ex_b2_f (c := .lt) (off := 28) (pc := 2) (lo := [some (.ref 0), some (.int x1), some (.int x2), some (.int x3)]) (x := x1) (y := 1) (r := []) (by rw [c2_lt]; exact decide_eq_false (by show ¬ (x1.toInt < (1 : Int)); omega)) (by decide))) ?_
    refine Go.next (f' := (6, [some (.ref 0), some (.int x1), some (.int x2), some (.int x3)], [.int x1])) (w' := fr_w) ((ex_stp (ins := .iload_n 1) rfl).trans rfl) ?_
    refine Go.next (f' := (8, [some (.ref 0), some (.int x1), some (.int x2), some (.int x3)], [.int 6, .int x1])) (w' := fr_w) ((ex_stp (ins := .bipush 6) rfl).trans rfl) ?_
    refine Go.next (f' := (11, [some (.ref 0), some (.int x1), some (.int x2), some (.int x3)], [])) (w' := fr_w) ((ex_stp (ins := .if_icmp .gt 22) rfl).trans (ex_b2_f (c := .gt) (off := 22) (pc := 8) (lo := [some (.ref 0), some (.int x1), some (.int x2), some (.int x3)]) (x := x1) (y := 6) (r := []) (by rw [c2_gt]; exact decide_eq_false (by show ¬ ((6 : Int) < x1.toInt); omega)) (by decide))) ?_
    refine Go.next (f' := (12, [some (.ref 0), some (.int x1), some (.int x2), some (.int x3)], [.int x2])) (w' := fr_w) ((ex_stp (ins := .iload_n 2) rfl).trans rfl) ?_
    refine Go.next (f' := (15, [some (.ref 0), some (.int x1), some (.int x2), some (.int x3)], [])) (w' := fr_w) ((ex_stp (ins := .ifCond .lt 18) rfl).trans (ex_b0_f (c := .lt) (off := 18) (pc := 12) (lo := [some (.ref 0), some (.int x1), some (.int x2), some (.int x3)]) (x := x2) (r := []) (by rw [c0_lt]; exact decide_eq_false (by show ¬ (x2.toInt < (0 : Int)); omega)) (by decide))) ?_
    refine Go.next (f' := (16, [some (.ref 0), some (.int x1), some (.int x2), some (.int x3)], [.int x2])) (w' := fr_w) ((ex_stp (ins := .iload_n 2) rfl).trans rfl) ?_
    refine Go.next (f' := (18, [some (.ref 0), some (.int x1), some (.int x2), some (.int x3)], [.int 100, .int x2])) (w' := fr_w) ((ex_stp (ins := .bipush 100) rfl).trans rfl) ?_
    refine Go.next (f' := (21, [some (.ref 0), some (.int x1), some (.int x2), some (.int x3)], [])) (w' := fr_w) ((ex_stp (ins := .if_icmp .gt 12) rfl).trans (ex_b2_f (c := .gt) (off := 12) (pc := 18) (lo := [some (.ref 0), some (.int x1), some (.int x2), some (.int x3)]) (x := x2) (y := 100) (r := []) (by rw [c2_gt]; exact decide_eq_false (by show ¬ ((100 : Int) < x2.toInt); omega)) (by decide))) ?_
    refine Go.next (f' := (22, [some (.ref 0), some (.int x1), some (.int x2), some (.int x3)], [.int x3])) (w' := fr_w) ((ex_stp (ins := .iload_n 3) rfl).trans rfl) ?_
    refine Go.next (f' := (30, [some (.ref 0), some (.int x1), some (.int x2), some (.int x3)], [])) (w' := fr_w) ((ex_stp (ins := .ifCond .lt 8) rfl).trans (ex_b0_t (c := .lt) (off := 8) (pc := 22) (lo := [some (.ref 0), some (.int x1), some (.int x2), some (.int x3)]) (x := x3) (r := []) (by rw [c0_lt]; exact decide_eq_true (by show x3.toInt < (0 : Int); omega)) (by decide))) ?_
    refine Go.next (f' := (31, [some (.ref 0), some (.int x1), some (.int x2), some (.int x3)], [.int (-1)])) (w' := fr_w) ((ex_stp (ins := .iconst (-1)) rfl).trans rfl) ?_
    exact Go.ret ((ex_stp (ins := .ireturn) rfl).trans rfl)
  · show Go [] 39 mt_68 (0, [some (.ref 59), some (.int x1), some (.int x2), some (.int x3), none, none, none, none, none, none, none, none], []) fr_w _
    refine Go.next (f' := (1, [some (.ref 59), some (.int x1), some (.int x2), some (.int x3), none, none, none, none, none, none, none, none], [.int x1])) (w' := fr_w) ((ex_stp (ins := .iload_n 1) rfl).trans rfl) ?_
    refine Go.next (f' := (2, [some (.ref 59), some (.int x1), some (.int x2), some (.int x3), none, none, none, none, none, none, none, none], [.long (x1).toInt64])) (w' := fr_w) ((ex_stp (ins := .i2l) rfl).trans rfl) ?_
    refine Go.next (f' := (3, [some (.ref 59), some (.int x1), some (.int x2), some (.int x3), none, none, none, none, none, none, none, none], [.long 1, .long (x1).toInt64])) (w' := fr_w) ((ex_stp (ins := .lconst 1) rfl).trans rfl) ?_
    refine Go.next (f' := (6, [some (.ref 59), some (.int x1), some (.int x2), some (.int x3), none, none, none, none, none, none, none, none], [.long 6, .long 1, .long (x1).toInt64])) (w' := fr_w) ((ex_stp (ins := .ldc2_w 276) rfl).trans rfl) ?_
    have h_155 : Go [] 38 mt_93 (ex_ent mt_93 [.long (x1).toInt64, .long 1, .long 6]) fr_w (some (.int 1), fr_w) := by
      show Go [] 38 mt_93 (0, [some (.long (x1).toInt64), none, some (.long 1), none, some (.long 6), none], []) fr_w _
      refine Go.next (f' := (1, [some (.long (x1).toInt64), none, some (.long 1), none, some (.long 6), none], [.long (x1).toInt64])) (w' := fr_w) ((ex_stp (ins := .lload_n 0) rfl).trans rfl) ?_
      refine Go.next (f' := (2, [some (.long (x1).toInt64), none, some (.long 1), none, some (.long 6), none], [.long 1, .long (x1).toInt64])) (w' := fr_w) ((ex_stp (ins := .lload_n 2) rfl).trans rfl) ?_
      refine Go.next (f' := (3, [some (.long (x1).toInt64), none, some (.long 1), none, some (.long 6), none], [.int (lg_cmp (x1).toInt64 1)])) (w' := fr_w) ((ex_stp (ins := .lcmp) rfl).trans rfl) ?_
      refine Go.next (f' := (6, [some (.long (x1).toInt64), none, some (.long 1), none, some (.long 6), none], [])) (w' := fr_w) ((ex_stp (ins := .ifCond .lt 14) rfl).trans (ex_b0_f (c := .lt) (off := 14) (pc := 3) (lo := [some (.long (x1).toInt64), none, some (.long 1), none, some (.long 6), none]) (x := (lg_cmp (x1).toInt64 1)) (r := []) (by rw [cl_lt]; exact decide_eq_false (by first | (rw [Int32.toInt_toInt64]; show ¬ (x1.toInt < (1 : Int)); omega) | omega)) (by decide))) ?_
      refine Go.next (f' := (7, [some (.long (x1).toInt64), none, some (.long 1), none, some (.long 6), none], [.long (x1).toInt64])) (w' := fr_w) ((ex_stp (ins := .lload_n 0) rfl).trans rfl) ?_
      refine Go.next (f' := (9, [some (.long (x1).toInt64), none, some (.long 1), none, some (.long 6), none], [.long 6, .long (x1).toInt64])) (w' := fr_w) ((ex_stp (ins := .lload 4) rfl).trans rfl) ?_
      refine Go.next (f' := (10, [some (.long (x1).toInt64), none, some (.long 1), none, some (.long 6), none], [.int (lg_cmp (x1).toInt64 6)])) (w' := fr_w) ((ex_stp (ins := .lcmp) rfl).trans rfl) ?_
      refine Go.next (f' := (13, [some (.long (x1).toInt64), none, some (.long 1), none, some (.long 6), none], [])) (w' := fr_w) ((ex_stp (ins := .ifCond .gt 7) rfl).trans (ex_b0_f (c := .gt) (off := 7) (pc := 10) (lo := [some (.long (x1).toInt64), none, some (.long 1), none, some (.long 6), none]) (x := (lg_cmp (x1).toInt64 6)) (r := []) (by rw [cl_gt]; exact decide_eq_false (by first | (rw [Int32.toInt_toInt64]; show ¬ ((6 : Int) < x1.toInt); omega) | omega)) (by decide))) ?_
      refine Go.next (f' := (14, [some (.long (x1).toInt64), none, some (.long 1), none, some (.long 6), none], [.int 1])) (w' := fr_w) ((ex_stp (ins := .iconst 1) rfl).trans rfl) ?_
      refine Go.next (f' := (18, [some (.long (x1).toInt64), none, some (.long 1), none, some (.long 6), none], [.int 1])) (w' := fr_w) ((ex_stp (ins := .goto 4) rfl).trans rfl) ?_
      exact Go.ret ((ex_stp (ins := .ireturn) rfl).trans rfl)
    refine Go.call (d := 38) (cal := 93) (as := [.long (x1).toInt64, .long 1, .long 6]) (g := (9, [some (.ref 59), some (.int x1), some (.int x2), some (.int x3), none, none, none, none, none, none, none, none], [])) (M' := mt_93) (r := some (.int 1)) (w' := fr_w) ((ex_stp (ins := .invokestatic 95) rfl).trans rfl) rfl (Nat.le_of_ble_eq_true rfl) h_155 ?_
    show Go [] 39 mt_68 (9, [some (.ref 59), some (.int x1), some (.int x2), some (.int x3), none, none, none, none, none, none, none, none], [.int 1]) fr_w _
    refine Go.next (f' := (12, [some (.ref 59), some (.int x1), some (.int x2), some (.int x3), none, none, none, none, none, none, none, none], [])) (w' := fr_w) ((ex_stp (ins := .ifCond .eq 27) rfl).trans rfl) ?_
    refine Go.next (f' := (13, [some (.ref 59), some (.int x1), some (.int x2), some (.int x3), none, none, none, none, none, none, none, none], [.int x2])) (w' := fr_w) ((ex_stp (ins := .iload_n 2) rfl).trans rfl) ?_
    refine Go.next (f' := (14, [some (.ref 59), some (.int x1), some (.int x2), some (.int x3), none, none, none, none, none, none, none, none], [.long (x2).toInt64])) (w' := fr_w) ((ex_stp (ins := .i2l) rfl).trans rfl) ?_
    refine Go.next (f' := (15, [some (.ref 59), some (.int x1), some (.int x2), some (.int x3), none, none, none, none, none, none, none, none], [.long 0, .long (x2).toInt64])) (w' := fr_w) ((ex_stp (ins := .lconst 0) rfl).trans rfl) ?_
    refine Go.next (f' := (18, [some (.ref 59), some (.int x1), some (.int x2), some (.int x3), none, none, none, none, none, none, none, none], [.long 100, .long 0, .long (x2).toInt64])) (w' := fr_w) ((ex_stp (ins := .ldc2_w 278) rfl).trans rfl) ?_
    have h_156 : Go [] 38 mt_93 (ex_ent mt_93 [.long (x2).toInt64, .long 0, .long 100]) fr_w (some (.int 1), fr_w) := by
      show Go [] 38 mt_93 (0, [some (.long (x2).toInt64), none, some (.long 0), none, some (.long 100), none], []) fr_w _
      refine Go.next (f' := (1, [some (.long (x2).toInt64), none, some (.long 0), none, some (.long 100), none], [.long (x2).toInt64])) (w' := fr_w) ((ex_stp (ins := .lload_n 0) rfl).trans rfl) ?_
      refine Go.next (f' := (2, [some (.long (x2).toInt64), none, some (.long 0), none, some (.long 100), none], [.long 0, .long (x2).toInt64])) (w' := fr_w) ((ex_stp (ins := .lload_n 2) rfl).trans rfl) ?_
      refine Go.next (f' := (3, [some (.long (x2).toInt64), none, some (.long 0), none, some (.long 100), none], [.int (lg_cmp (x2).toInt64 0)])) (w' := fr_w) ((ex_stp (ins := .lcmp) rfl).trans rfl) ?_
      refine Go.next (f' := (6, [some (.long (x2).toInt64), none, some (.long 0), none, some (.long 100), none], [])) (w' := fr_w) ((ex_stp (ins := .ifCond .lt 14) rfl).trans (ex_b0_f (c := .lt) (off := 14) (pc := 3) (lo := [some (.long (x2).toInt64), none, some (.long 0), none, some (.long 100), none]) (x := (lg_cmp (x2).toInt64 0)) (r := []) (by rw [cl_lt]; exact decide_eq_false (by first | (rw [Int32.toInt_toInt64]; show ¬ (x2.toInt < (0 : Int)); omega) | omega)) (by decide))) ?_
      refine Go.next (f' := (7, [some (.long (x2).toInt64), none, some (.long 0), none, some (.long 100), none], [.long (x2).toInt64])) (w' := fr_w) ((ex_stp (ins := .lload_n 0) rfl).trans rfl) ?_
      refine Go.next (f' := (9, [some (.long (x2).toInt64), none, some (.long 0), none, some (.long 100), none], [.long 100, .long (x2).toInt64])) (w' := fr_w) ((ex_stp (ins := .lload 4) rfl).trans rfl) ?_
      refine Go.next (f' := (10, [some (.long (x2).toInt64), none, some (.long 0), none, some (.long 100), none], [.int (lg_cmp (x2).toInt64 100)])) (w' := fr_w) ((ex_stp (ins := .lcmp) rfl).trans rfl) ?_
      refine Go.next (f' := (13, [some (.long (x2).toInt64), none, some (.long 0), none, some (.long 100), none], [])) (w' := fr_w) ((ex_stp (ins := .ifCond .gt 7) rfl).trans (ex_b0_f (c := .gt) (off := 7) (pc := 10) (lo := [some (.long (x2).toInt64), none, some (.long 0), none, some (.long 100), none]) (x := (lg_cmp (x2).toInt64 100)) (r := []) (by rw [cl_gt]; exact decide_eq_false (by first | (rw [Int32.toInt_toInt64]; show ¬ ((100 : Int) < x2.toInt); omega) | omega)) (by decide))) ?_
      refine Go.next (f' := (14, [some (.long (x2).toInt64), none, some (.long 0), none, some (.long 100), none], [.int 1])) (w' := fr_w) ((ex_stp (ins := .iconst 1) rfl).trans rfl) ?_
      refine Go.next (f' := (18, [some (.long (x2).toInt64), none, some (.long 0), none, some (.long 100), none], [.int 1])) (w' := fr_w) ((ex_stp (ins := .goto 4) rfl).trans rfl) ?_
      exact Go.ret ((ex_stp (ins := .ireturn) rfl).trans rfl)
    refine Go.call (d := 38) (cal := 93) (as := [.long (x2).toInt64, .long 0, .long 100]) (g := (21, [some (.ref 59), some (.int x1), some (.int x2), some (.int x3), none, none, none, none, none, none, none, none], [])) (M' := mt_93) (r := some (.int 1)) (w' := fr_w) ((ex_stp (ins := .invokestatic 95) rfl).trans rfl) rfl (Nat.le_of_ble_eq_true rfl) h_156 ?_
    show Go [] 39 mt_68 (21, [some (.ref 59), some (.int x1), some (.int x2), some (.int x3), none, none, none, none, none, none, none, none], [.int 1]) fr_w _
    refine Go.next (f' := (24, [some (.ref 59), some (.int x1), some (.int x2), some (.int x3), none, none, none, none, none, none, none, none], [])) (w' := fr_w) ((ex_stp (ins := .ifCond .eq 15) rfl).trans rfl) ?_
    refine Go.next (f' := (25, [some (.ref 59), some (.int x1), some (.int x2), some (.int x3), none, none, none, none, none, none, none, none], [.int x3])) (w' := fr_w) ((ex_stp (ins := .iload_n 3) rfl).trans rfl) ?_
    refine Go.next (f' := (26, [some (.ref 59), some (.int x1), some (.int x2), some (.int x3), none, none, none, none, none, none, none, none], [.long (x3).toInt64])) (w' := fr_w) ((ex_stp (ins := .i2l) rfl).trans rfl) ?_
    refine Go.next (f' := (27, [some (.ref 59), some (.int x1), some (.int x2), some (.int x3), none, none, none, none, none, none, none, none], [.long 0, .long (x3).toInt64])) (w' := fr_w) ((ex_stp (ins := .lconst 0) rfl).trans rfl) ?_
    refine Go.next (f' := (30, [some (.ref 59), some (.int x1), some (.int x2), some (.int x3), none, none, none, none, none, none, none, none], [.long 2, .long 0, .long (x3).toInt64])) (w' := fr_w) ((ex_stp (ins := .ldc2_w 192) rfl).trans rfl) ?_
    have h_157 : Go [] 38 mt_93 (ex_ent mt_93 [.long (x3).toInt64, .long 0, .long 2]) fr_w (some (.int 0), fr_w) := by
      show Go [] 38 mt_93 (0, [some (.long (x3).toInt64), none, some (.long 0), none, some (.long 2), none], []) fr_w _
      refine Go.next (f' := (1, [some (.long (x3).toInt64), none, some (.long 0), none, some (.long 2), none], [.long (x3).toInt64])) (w' := fr_w) ((ex_stp (ins := .lload_n 0) rfl).trans rfl) ?_
      refine Go.next (f' := (2, [some (.long (x3).toInt64), none, some (.long 0), none, some (.long 2), none], [.long 0, .long (x3).toInt64])) (w' := fr_w) ((ex_stp (ins := .lload_n 2) rfl).trans rfl) ?_
      refine Go.next (f' := (3, [some (.long (x3).toInt64), none, some (.long 0), none, some (.long 2), none], [.int (lg_cmp (x3).toInt64 0)])) (w' := fr_w) ((ex_stp (ins := .lcmp) rfl).trans rfl) ?_
      refine Go.next (f' := (17, [some (.long (x3).toInt64), none, some (.long 0), none, some (.long 2), none], [])) (w' := fr_w) ((ex_stp (ins := .ifCond .lt 14) rfl).trans (ex_b0_t (c := .lt) (off := 14) (pc := 3) (lo := [some (.long (x3).toInt64), none, some (.long 0), none, some (.long 2), none]) (x := (lg_cmp (x3).toInt64 0)) (r := []) (by rw [cl_lt]; exact decide_eq_true (by first | (rw [Int32.toInt_toInt64]; show x3.toInt < (0 : Int); omega) | omega)) (by decide))) ?_
      refine Go.next (f' := (18, [some (.long (x3).toInt64), none, some (.long 0), none, some (.long 2), none], [.int 0])) (w' := fr_w) ((ex_stp (ins := .iconst 0) rfl).trans rfl) ?_
      exact Go.ret ((ex_stp (ins := .ireturn) rfl).trans rfl)
    refine Go.call (d := 38) (cal := 93) (as := [.long (x3).toInt64, .long 0, .long 2]) (g := (33, [some (.ref 59), some (.int x1), some (.int x2), some (.int x3), none, none, none, none, none, none, none, none], [])) (M' := mt_93) (r := some (.int 0)) (w' := fr_w) ((ex_stp (ins := .invokestatic 95) rfl).trans rfl) rfl (Nat.le_of_ble_eq_true rfl) h_157 ?_
    show Go [] 39 mt_68 (33, [some (.ref 59), some (.int x1), some (.int x2), some (.int x3), none, none, none, none, none, none, none, none], [.int 0]) fr_w _
    refine Go.next (f' := (36, [some (.ref 59), some (.int x1), some (.int x2), some (.int x3), none, none, none, none, none, none, none, none], [])) (w' := fr_w) ((ex_stp (ins := .ifCond .ne 5) rfl).trans rfl) ?_
    refine Go.next (f' := (37, [some (.ref 59), some (.int x1), some (.int x2), some (.int x3), none, none, none, none, none, none, none, none], [.int (-1)])) (w' := fr_w) ((ex_stp (ins := .iconst (-1)) rfl).trans rfl) ?_
    exact Go.ret ((ex_stp (ins := .ireturn) rfl).trans rfl)
set_option maxRecDepth 100000 in
theorem ao_32_f (x1 x2 x3 : Int32) (g0 : 1 ≤ x1.toInt) (g1 : x1.toInt ≤ 6) (g2 : 0 ≤ x2.toInt) (g3 : x2.toInt ≤ 100) (g4 : 2 < x3.toInt) : A2 mt_67 mt_68 [.int x1, .int x2, .int x3] := by
  refine ⟨(-1), fr_w, fr_w, _, ?_, rfl, ?_⟩
  · show Go [] 39 mt_67 (0, [some (.ref 0), some (.int x1), some (.int x2), some (.int x3)], []) fr_w _
    refine Go.next (f' := (1, [some (.ref 0), some (.int x1), some (.int x2), some (.int x3)], [.int x1])) (w' := fr_w) ((ex_stp (ins := .iload_n 1) rfl).trans rfl) ?_
    refine Go.next (f' := (2, [some (.ref 0), some (.int x1), some (.int x2), some (.int x3)], [.int 1, .int x1])) (w' := fr_w) ((ex_stp (ins := .iconst 1) rfl).trans rfl) ?_
    refine Go.next (f' := (5, [some (.ref 0), some (.int x1), some (.int x2), some (.int x3)], [])) (w' := fr_w) ((ex_stp (ins := .if_icmp .lt 28) rfl).trans (ex_b2_f (c := .lt) (off := 28) (pc := 2) (lo := [some (.ref 0), some (.int x1), some (.int x2), some (.int x3)]) (x := x1) (y := 1) (r := []) (by rw [c2_lt]; exact decide_eq_false (by show ¬ (x1.toInt < (1 : Int)); omega)) (by decide))) ?_
    refine Go.next (f' := (6, [some (.ref 0), some (.int x1), some (.int x2), some (.int x3)], [.int x1])) (w' := fr_w) ((ex_stp (ins := .iload_n 1) rfl).trans rfl) ?_
    refine Go.next (f' := (8, [some (.ref 0), some (.int x1), some (.int x2), some (.int x3)], [.int 6, .int x1])) (w' := fr_w) ((ex_stp (ins := .bipush 6) rfl).trans rfl) ?_
    refine Go.next (f' := (11, [some (.ref 0), some (.int x1), some (.int x2), some (.int x3)], [])) (w' := fr_w) ((ex_stp (ins := .if_icmp .gt 22) rfl).trans (ex_b2_f (c := .gt) (off := 22) (pc := 8) (lo := [some (.ref 0), some (.int x1), some (.int x2), some (.int x3)]) (x := x1) (y := 6) (r := []) (by rw [c2_gt]; exact decide_eq_false (by show ¬ ((6 : Int) < x1.toInt); omega)) (by decide))) ?_
    refine Go.next (f' := (12, [some (.ref 0), some (.int x1), some (.int x2), some (.int x3)], [.int x2])) (w' := fr_w) ((ex_stp (ins := .iload_n 2) rfl).trans rfl) ?_
    refine Go.next (f' := (15, [some (.ref 0), some (.int x1), some (.int x2), some (.int x3)], [])) (w' := fr_w) ((ex_stp (ins := .ifCond .lt 18) rfl).trans (ex_b0_f (c := .lt) (off := 18) (pc := 12) (lo := [some (.ref 0), some (.int x1), some (.int x2), some (.int x3)]) (x := x2) (r := []) (by rw [c0_lt]; exact decide_eq_false (by show ¬ (x2.toInt < (0 : Int)); omega)) (by decide))) ?_
    refine Go.next (f' := (16, [some (.ref 0), some (.int x1), some (.int x2), some (.int x3)], [.int x2])) (w' := fr_w) ((ex_stp (ins := .iload_n 2) rfl).trans rfl) ?_
    refine Go.next (f' := (18, [some (.ref 0), some (.int x1), some (.int x2), some (.int x3)], [.int 100, .int x2])) (w' := fr_w) ((ex_stp (ins := .bipush 100) rfl).trans rfl) ?_
    refine Go.next (f' := (21, [some (.ref 0), some (.int x1), some (.int x2), some (.int x3)], [])) (w' := fr_w) ((ex_stp (ins := .if_icmp .gt 12) rfl).trans (ex_b2_f (c := .gt) (off := 12) (pc := 18) (lo := [some (.ref 0), some (.int x1), some (.int x2), some (.int x3)]) (x := x2) (y := 100) (r := []) (by rw [c2_gt]; exact decide_eq_false (by show ¬ ((100 : Int) < x2.toInt); omega)) (by decide))) ?_
    refine Go.next (f' := (22, [some (.ref 0), some (.int x1), some (.int x2), some (.int x3)], [.int x3])) (w' := fr_w) ((ex_stp (ins := .iload_n 3) rfl).trans rfl) ?_
    refine Go.next (f' := (25, [some (.ref 0), some (.int x1), some (.int x2), some (.int x3)], [])) (w' := fr_w) ((ex_stp (ins := .ifCond .lt 8) rfl).trans (ex_b0_f (c := .lt) (off := 8) (pc := 22) (lo := [some (.ref 0), some (.int x1), some (.int x2), some (.int x3)]) (x := x3) (r := []) (by rw [c0_lt]; exact decide_eq_false (by show ¬ (x3.toInt < (0 : Int)); omega)) (by decide))) ?_
    refine Go.next (f' := (26, [some (.ref 0), some (.int x1), some (.int x2), some (.int x3)], [.int x3])) (w' := fr_w) ((ex_stp (ins := .iload_n 3) rfl).trans rfl) ?_
    refine Go.next (f' := (27, [some (.ref 0), some (.int x1), some (.int x2), some (.int x3)], [.int 2, .int x3])) (w' := fr_w) ((ex_stp (ins := .iconst 2) rfl).trans rfl) ?_
    refine Go.next (f' := (30, [some (.ref 0), some (.int x1), some (.int x2), some (.int x3)], [])) (w' := fr_w) ((ex_stp (ins := .if_icmp .le 5) rfl).trans (ex_b2_f (c := .le) (off := 5) (pc := 27) (lo := [some (.ref 0), some (.int x1), some (.int x2), some (.int x3)]) (x := x3) (y := 2) (r := []) (by rw [c2_le]; exact decide_eq_false (by show ¬ (x3.toInt ≤ (2 : Int)); omega)) (by decide))) ?_
    refine Go.next (f' := (31, [some (.ref 0), some (.int x1), some (.int x2), some (.int x3)], [.int (-1)])) (w' := fr_w) ((ex_stp (ins := .iconst (-1)) rfl).trans rfl) ?_
    exact Go.ret ((ex_stp (ins := .ireturn) rfl).trans rfl)
  · show Go [] 39 mt_68 (0, [some (.ref 59), some (.int x1), some (.int x2), some (.int x3), none, none, none, none, none, none, none, none], []) fr_w _
    refine Go.next (f' := (1, [some (.ref 59), some (.int x1), some (.int x2), some (.int x3), none, none, none, none, none, none, none, none], [.int x1])) (w' := fr_w) ((ex_stp (ins := .iload_n 1) rfl).trans rfl) ?_
    refine Go.next (f' := (2, [some (.ref 59), some (.int x1), some (.int x2), some (.int x3), none, none, none, none, none, none, none, none], [.long (x1).toInt64])) (w' := fr_w) ((ex_stp (ins := .i2l) rfl).trans rfl) ?_
    refine Go.next (f' := (3, [some (.ref 59), some (.int x1), some (.int x2), some (.int x3), none, none, none, none, none, none, none, none], [.long 1, .long (x1).toInt64])) (w' := fr_w) ((ex_stp (ins := .lconst 1) rfl).trans rfl) ?_
    refine Go.next (f' := (6, [some (.ref 59), some (.int x1), some (.int x2), some (.int x3), none, none, none, none, none, none, none, none], [.long 6, .long 1, .long (x1).toInt64])) (w' := fr_w) ((ex_stp (ins := .ldc2_w 276) rfl).trans rfl) ?_
    have h_158 : Go [] 38 mt_93 (ex_ent mt_93 [.long (x1).toInt64, .long 1, .long 6]) fr_w (some (.int 1), fr_w) := by
      show Go [] 38 mt_93 (0, [some (.long (x1).toInt64), none, some (.long 1), none, some (.long 6), none], []) fr_w _
      refine Go.next (f' := (1, [some (.long (x1).toInt64), none, some (.long 1), none, some (.long 6), none], [.long (x1).toInt64])) (w' := fr_w) ((ex_stp (ins := .lload_n 0) rfl).trans rfl) ?_
      refine Go.next (f' := (2, [some (.long (x1).toInt64), none, some (.long 1), none, some (.long 6), none], [.long 1, .long (x1).toInt64])) (w' := fr_w) ((ex_stp (ins := .lload_n 2) rfl).trans rfl) ?_
      refine Go.next (f' := (3, [some (.long (x1).toInt64), none, some (.long 1), none, some (.long 6), none], [.int (lg_cmp (x1).toInt64 1)])) (w' := fr_w) ((ex_stp (ins := .lcmp) rfl).trans rfl) ?_
      refine Go.next (f' := (6, [some (.long (x1).toInt64), none, some (.long 1), none, some (.long 6), none], [])) (w' := fr_w) ((ex_stp (ins := .ifCond .lt 14) rfl).trans (ex_b0_f (c := .lt) (off := 14) (pc := 3) (lo := [some (.long (x1).toInt64), none, some (.long 1), none, some (.long 6), none]) (x := (lg_cmp (x1).toInt64 1)) (r := []) (by rw [cl_lt]; exact decide_eq_false (by first | (rw [Int32.toInt_toInt64]; show ¬ (x1.toInt < (1 : Int)); omega) | omega)) (by decide))) ?_
      refine Go.next (f' := (7, [some (.long (x1).toInt64), none, some (.long 1), none, some (.long 6), none], [.long (x1).toInt64])) (w' := fr_w) ((ex_stp (ins := .lload_n 0) rfl).trans rfl) ?_
      refine Go.next (f' := (9, [some (.long (x1).toInt64), none, some (.long 1), none, some (.long 6), none], [.long 6, .long (x1).toInt64])) (w' := fr_w) ((ex_stp (ins := .lload 4) rfl).trans rfl) ?_
      refine Go.next (f' := (10, [some (.long (x1).toInt64), none, some (.long 1), none, some (.long 6), none], [.int (lg_cmp (x1).toInt64 6)])) (w' := fr_w) ((ex_stp (ins := .lcmp) rfl).trans rfl) ?_
      refine Go.next (f' := (13, [some (.long (x1).toInt64), none, some (.long 1), none, some (.long 6), none], [])) (w' := fr_w) ((ex_stp (ins := .ifCond .gt 7) rfl).trans (ex_b0_f (c := .gt) (off := 7) (pc := 10) (lo := [some (.long (x1).toInt64), none, some (.long 1), none, some (.long 6), none]) (x := (lg_cmp (x1).toInt64 6)) (r := []) (by rw [cl_gt]; exact decide_eq_false (by first | (rw [Int32.toInt_toInt64]; show ¬ ((6 : Int) < x1.toInt); omega) | omega)) (by decide))) ?_
      refine Go.next (f' := (14, [some (.long (x1).toInt64), none, some (.long 1), none, some (.long 6), none], [.int 1])) (w' := fr_w) ((ex_stp (ins := .iconst 1) rfl).trans rfl) ?_
      refine Go.next (f' := (18, [some (.long (x1).toInt64), none, some (.long 1), none, some (.long 6), none], [.int 1])) (w' := fr_w) ((ex_stp (ins := .goto 4) rfl).trans rfl) ?_
      exact Go.ret ((ex_stp (ins := .ireturn) rfl).trans rfl)
    refine Go.call (d := 38) (cal := 93) (as := [.long (x1).toInt64, .long 1, .long 6]) (g := (9, [some (.ref 59), some (.int x1), some (.int x2), some (.int x3), none, none, none, none, none, none, none, none], [])) (M' := mt_93) (r := some (.int 1)) (w' := fr_w) ((ex_stp (ins := .invokestatic 95) rfl).trans rfl) rfl (Nat.le_of_ble_eq_true rfl) h_158 ?_
    show Go [] 39 mt_68 (9, [some (.ref 59), some (.int x1), some (.int x2), some (.int x3), none, none, none, none, none, none, none, none], [.int 1]) fr_w _
    refine Go.next (f' := (12, [some (.ref 59), some (.int x1), some (.int x2), some (.int x3), none, none, none, none, none, none, none, none], [])) (w' := fr_w) ((ex_stp (ins := .ifCond .eq 27) rfl).trans rfl) ?_
    refine Go.next (f' := (13, [some (.ref 59), some (.int x1), some (.int x2), some (.int x3), none, none, none, none, none, none, none, none], [.int x2])) (w' := fr_w) ((ex_stp (ins := .iload_n 2) rfl).trans rfl) ?_
    refine Go.next (f' := (14, [some (.ref 59), some (.int x1), some (.int x2), some (.int x3), none, none, none, none, none, none, none, none], [.long (x2).toInt64])) (w' := fr_w) ((ex_stp (ins := .i2l) rfl).trans rfl) ?_
    refine Go.next (f' := (15, [some (.ref 59), some (.int x1), some (.int x2), some (.int x3), none, none, none, none, none, none, none, none], [.long 0, .long (x2).toInt64])) (w' := fr_w) ((ex_stp (ins := .lconst 0) rfl).trans rfl) ?_
    refine Go.next (f' := (18, [some (.ref 59), some (.int x1), some (.int x2), some (.int x3), none, none, none, none, none, none, none, none], [.long 100, .long 0, .long (x2).toInt64])) (w' := fr_w) ((ex_stp (ins := .ldc2_w 278) rfl).trans rfl) ?_
    have h_159 : Go [] 38 mt_93 (ex_ent mt_93 [.long (x2).toInt64, .long 0, .long 100]) fr_w (some (.int 1), fr_w) := by
      show Go [] 38 mt_93 (0, [some (.long (x2).toInt64), none, some (.long 0), none, some (.long 100), none], []) fr_w _
      refine Go.next (f' := (1, [some (.long (x2).toInt64), none, some (.long 0), none, some (.long 100), none], [.long (x2).toInt64])) (w' := fr_w) ((ex_stp (ins := .lload_n 0) rfl).trans rfl) ?_
      refine Go.next (f' := (2, [some (.long (x2).toInt64), none, some (.long 0), none, some (.long 100), none], [.long 0, .long (x2).toInt64])) (w' := fr_w) ((ex_stp (ins := .lload_n 2) rfl).trans rfl) ?_
      refine Go.next (f' := (3, [some (.long (x2).toInt64), none, some (.long 0), none, some (.long 100), none], [.int (lg_cmp (x2).toInt64 0)])) (w' := fr_w) ((ex_stp (ins := .lcmp) rfl).trans rfl) ?_
      refine Go.next (f' := (6, [some (.long (x2).toInt64), none, some (.long 0), none, some (.long 100), none], [])) (w' := fr_w) ((ex_stp (ins := .ifCond .lt 14) rfl).trans (ex_b0_f (c := .lt) (off := 14) (pc := 3) (lo := [some (.long (x2).toInt64), none, some (.long 0), none, some (.long 100), none]) (x := (lg_cmp (x2).toInt64 0)) (r := []) (by rw [cl_lt]; exact decide_eq_false (by first | (rw [Int32.toInt_toInt64]; show ¬ (x2.toInt < (0 : Int)); omega) | omega)) (by decide))) ?_
      refine Go.next (f' := (7, [some (.long (x2).toInt64), none, some (.long 0), none, some (.long 100), none], [.long (x2).toInt64])) (w' := fr_w) ((ex_stp (ins := .lload_n 0) rfl).trans rfl) ?_
      refine Go.next (f' := (9, [some (.long (x2).toInt64), none, some (.long 0), none, some (.long 100), none], [.long 100, .long (x2).toInt64])) (w' := fr_w) ((ex_stp (ins := .lload 4) rfl).trans rfl) ?_
      refine Go.next (f' := (10, [some (.long (x2).toInt64), none, some (.long 0), none, some (.long 100), none], [.int (lg_cmp (x2).toInt64 100)])) (w' := fr_w) ((ex_stp (ins := .lcmp) rfl).trans rfl) ?_
      refine Go.next (f' := (13, [some (.long (x2).toInt64), none, some (.long 0), none, some (.long 100), none], [])) (w' := fr_w) ((ex_stp (ins := .ifCond .gt 7) rfl).trans (ex_b0_f (c := .gt) (off := 7) (pc := 10) (lo := [some (.long (x2).toInt64), none, some (.long 0), none, some (.long 100), none]) (x := (lg_cmp (x2).toInt64 100)) (r := []) (by rw [cl_gt]; exact decide_eq_false (by first | (rw [Int32.toInt_toInt64]; show ¬ ((100 : Int) < x2.toInt); omega) | omega)) (by decide))) ?_
      refine Go.next (f' := (14, [some (.long (x2).toInt64), none, some (.long 0), none, some (.long 100), none], [.int 1])) (w' := fr_w) ((ex_stp (ins := .iconst 1) rfl).trans rfl) ?_
      refine Go.next (f' := (18, [some (.long (x2).toInt64), none, some (.long 0), none, some (.long 100), none], [.int 1])) (w' := fr_w) ((ex_stp (ins := .goto 4) rfl).trans rfl) ?_
      exact Go.ret ((ex_stp (ins := .ireturn) rfl).trans rfl)
    refine Go.call (d := 38) (cal := 93) (as := [.long (x2).toInt64, .long 0, .long 100]) (g := (21, [some (.ref 59), some (.int x1), some (.int x2), some (.int x3), none, none, none, none, none, none, none, none], [])) (M' := mt_93) (r := some (.int 1)) (w' := fr_w) ((ex_stp (ins := .invokestatic 95) rfl).trans rfl) rfl (Nat.le_of_ble_eq_true rfl) h_159 ?_
    show Go [] 39 mt_68 (21, [some (.ref 59), some (.int x1), some (.int x2), some (.int x3), none, none, none, none, none, none, none, none], [.int 1]) fr_w _
    refine Go.next (f' := (24, [some (.ref 59), some (.int x1), some (.int x2), some (.int x3), none, none, none, none, none, none, none, none], [])) (w' := fr_w) ((ex_stp (ins := .ifCond .eq 15) rfl).trans rfl) ?_
    refine Go.next (f' := (25, [some (.ref 59), some (.int x1), some (.int x2), some (.int x3), none, none, none, none, none, none, none, none], [.int x3])) (w' := fr_w) ((ex_stp (ins := .iload_n 3) rfl).trans rfl) ?_
    refine Go.next (f' := (26, [some (.ref 59), some (.int x1), some (.int x2), some (.int x3), none, none, none, none, none, none, none, none], [.long (x3).toInt64])) (w' := fr_w) ((ex_stp (ins := .i2l) rfl).trans rfl) ?_
    refine Go.next (f' := (27, [some (.ref 59), some (.int x1), some (.int x2), some (.int x3), none, none, none, none, none, none, none, none], [.long 0, .long (x3).toInt64])) (w' := fr_w) ((ex_stp (ins := .lconst 0) rfl).trans rfl) ?_
    refine Go.next (f' := (30, [some (.ref 59), some (.int x1), some (.int x2), some (.int x3), none, none, none, none, none, none, none, none], [.long 2, .long 0, .long (x3).toInt64])) (w' := fr_w) ((ex_stp (ins := .ldc2_w 192) rfl).trans rfl) ?_
    have h_160 : Go [] 38 mt_93 (ex_ent mt_93 [.long (x3).toInt64, .long 0, .long 2]) fr_w (some (.int 0), fr_w) := by
      show Go [] 38 mt_93 (0, [some (.long (x3).toInt64), none, some (.long 0), none, some (.long 2), none], []) fr_w _
      refine Go.next (f' := (1, [some (.long (x3).toInt64), none, some (.long 0), none, some (.long 2), none], [.long (x3).toInt64])) (w' := fr_w) ((ex_stp (ins := .lload_n 0) rfl).trans rfl) ?_
      refine Go.next (f' := (2, [some (.long (x3).toInt64), none, some (.long 0), none, some (.long 2), none], [.long 0, .long (x3).toInt64])) (w' := fr_w) ((ex_stp (ins := .lload_n 2) rfl).trans rfl) ?_
      refine Go.next (f' := (3, [some (.long (x3).toInt64), none, some (.long 0), none, some (.long 2), none], [.int (lg_cmp (x3).toInt64 0)])) (w' := fr_w) ((ex_stp (ins := .lcmp) rfl).trans rfl) ?_
      refine Go.next (f' := (6, [some (.long (x3).toInt64), none, some (.long 0), none, some (.long 2), none], [])) (w' := fr_w) ((ex_stp (ins := .ifCond .lt 14) rfl).trans (ex_b0_f (c := .lt) (off := 14) (pc := 3) (lo := [some (.long (x3).toInt64), none, some (.long 0), none, some (.long 2), none]) (x := (lg_cmp (x3).toInt64 0)) (r := []) (by rw [cl_lt]; exact decide_eq_false (by first | (rw [Int32.toInt_toInt64]; show ¬ (x3.toInt < (0 : Int)); omega) | omega)) (by decide))) ?_
      refine Go.next (f' := (7, [some (.long (x3).toInt64), none, some (.long 0), none, some (.long 2), none], [.long (x3).toInt64])) (w' := fr_w) ((ex_stp (ins := .lload_n 0) rfl).trans rfl) ?_
      refine Go.next (f' := (9, [some (.long (x3).toInt64), none, some (.long 0), none, some (.long 2), none], [.long 2, .long (x3).toInt64])) (w' := fr_w) ((ex_stp (ins := .lload 4) rfl).trans rfl) ?_
      refine Go.next (f' := (10, [some (.long (x3).toInt64), none, some (.long 0), none, some (.long 2), none], [.int (lg_cmp (x3).toInt64 2)])) (w' := fr_w) ((ex_stp (ins := .lcmp) rfl).trans rfl) ?_
      refine Go.next (f' := (17, [some (.long (x3).toInt64), none, some (.long 0), none, some (.long 2), none], [])) (w' := fr_w) ((ex_stp (ins := .ifCond .gt 7) rfl).trans (ex_b0_t (c := .gt) (off := 7) (pc := 10) (lo := [some (.long (x3).toInt64), none, some (.long 0), none, some (.long 2), none]) (x := (lg_cmp (x3).toInt64 2)) (r := []) (by rw [cl_gt]; exact decide_eq_true (by first | (rw [Int32.toInt_toInt64]; show (2 : Int) < x3.toInt; omega) | omega)) (by decide))) ?_
      refine Go.next (f' := (18, [some (.long (x3).toInt64), none, some (.long 0), none, some (.long 2), none], [.int 0])) (w' := fr_w) ((ex_stp (ins := .iconst 0) rfl).trans rfl) ?_
      exact Go.ret ((ex_stp (ins := .ireturn) rfl).trans rfl)
    refine Go.call (d := 38) (cal := 93) (as := [.long (x3).toInt64, .long 0, .long 2]) (g := (33, [some (.ref 59), some (.int x1), some (.int x2), some (.int x3), none, none, none, none, none, none, none, none], [])) (M' := mt_93) (r := some (.int 0)) (w' := fr_w) ((ex_stp (ins := .invokestatic 95) rfl).trans rfl) rfl (Nat.le_of_ble_eq_true rfl) h_160 ?_
    show Go [] 39 mt_68 (33, [some (.ref 59), some (.int x1), some (.int x2), some (.int x3), none, none, none, none, none, none, none, none], [.int 0]) fr_w _
    refine Go.next (f' := (36, [some (.ref 59), some (.int x1), some (.int x2), some (.int x3), none, none, none, none, none, none, none, none], [])) (w' := fr_w) ((ex_stp (ins := .ifCond .ne 5) rfl).trans rfl) ?_
    refine Go.next (f' := (37, [some (.ref 59), some (.int x1), some (.int x2), some (.int x3), none, none, none, none, none, none, none, none], [.int (-1)])) (w' := fr_w) ((ex_stp (ins := .iconst (-1)) rfl).trans rfl) ?_
    exact Go.ret ((ex_stp (ins := .ireturn) rfl).trans rfl)
set_option maxRecDepth 100000 in
theorem ao_33_a (x1 : Int32) (g0 : x1.toInt < 0) : A2 mt_69 mt_70 [.int x1] := by
  refine ⟨(-1), fr_w, fr_w, _, ?_, rfl, ?_⟩
  · show Go [] 39 mt_69 (0, [some (.ref 0), some (.int x1), none], []) fr_w _
    refine Go.next (f' := (1, [some (.ref 0), some (.int x1), none], [.int x1])) (w' := fr_w) ((ex_stp (ins := .iload_n 1) rfl).trans rfl) ?_
    refine Go.next (f' := (9, [some (.ref 0), some (.int x1), none], [])) (w' := fr_w) ((ex_stp (ins := .ifCond .lt 8) rfl).trans (ex_b0_t (c := .lt) (off := 8) (pc := 1) (lo := [some (.ref 0), some (.int x1), none]) (x := x1) (r := []) (by rw [c0_lt]; exact decide_eq_true (by show x1.toInt < (0 : Int); omega)) (by decide))) ?_
    refine Go.next (f' := (10, [some (.ref 0), some (.int x1), none], [.int (-1)])) (w' := fr_w) ((ex_stp (ins := .iconst (-1)) rfl).trans rfl) ?_
    exact Go.ret ((ex_stp (ins := .ireturn) rfl).trans rfl)
  · show Go [] 39 mt_70 (0, [some (.ref 59), some (.int x1), none], []) fr_w _
    refine Go.next (f' := (1, [some (.ref 59), some (.int x1), none], [.int x1])) (w' := fr_w) ((ex_stp (ins := .iload_n 1) rfl).trans rfl) ?_
    refine Go.next (f' := (2, [some (.ref 59), some (.int x1), none], [.long (x1).toInt64])) (w' := fr_w) ((ex_stp (ins := .i2l) rfl).trans rfl) ?_
    refine Go.next (f' := (3, [some (.ref 59), some (.int x1), none], [.long 0, .long (x1).toInt64])) (w' := fr_w) ((ex_stp (ins := .lconst 0) rfl).trans rfl) ?_
    refine Go.next (f' := (4, [some (.ref 59), some (.int x1), none], [.long 1, .long 0, .long (x1).toInt64])) (w' := fr_w) ((ex_stp (ins := .lconst 1) rfl).trans rfl) ?_
    have h_161 : Go [] 38 mt_93 (ex_ent mt_93 [.long (x1).toInt64, .long 0, .long 1]) fr_w (some (.int 0), fr_w) := by
      show Go [] 38 mt_93 (0, [some (.long (x1).toInt64), none, some (.long 0), none, some (.long 1), none], []) fr_w _
      refine Go.next (f' := (1, [some (.long (x1).toInt64), none, some (.long 0), none, some (.long 1), none], [.long (x1).toInt64])) (w' := fr_w) ((ex_stp (ins := .lload_n 0) rfl).trans rfl) ?_
      refine Go.next (f' := (2, [some (.long (x1).toInt64), none, some (.long 0), none, some (.long 1), none], [.long 0, .long (x1).toInt64])) (w' := fr_w) ((ex_stp (ins := .lload_n 2) rfl).trans rfl) ?_
      refine Go.next (f' := (3, [some (.long (x1).toInt64), none, some (.long 0), none, some (.long 1), none], [.int (lg_cmp (x1).toInt64 0)])) (w' := fr_w) ((ex_stp (ins := .lcmp) rfl).trans rfl) ?_
      refine Go.next (f' := (17, [some (.long (x1).toInt64), none, some (.long 0), none, some (.long 1), none], [])) (w' := fr_w) ((ex_stp (ins := .ifCond .lt 14) rfl).trans (ex_b0_t (c := .lt) (off := 14) (pc := 3) (lo := [some (.long (x1).toInt64), none, some (.long 0), none, some (.long 1), none]) (x := (lg_cmp (x1).toInt64 0)) (r := []) (by rw [cl_lt]; exact decide_eq_true (by first | (rw [Int32.toInt_toInt64]; show x1.toInt < (0 : Int); omega) | omega)) (by decide))) ?_
      refine Go.next (f' := (18, [some (.long (x1).toInt64), none, some (.long 0), none, some (.long 1), none], [.int 0])) (w' := fr_w) ((ex_stp (ins := .iconst 0) rfl).trans rfl) ?_
      exact Go.ret ((ex_stp (ins := .ireturn) rfl).trans rfl)
    refine Go.call (d := 38) (cal := 93) (as := [.long (x1).toInt64, .long 0, .long 1]) (g := (7, [some (.ref 59), some (.int x1), none], [])) (M' := mt_93) (r := some (.int 0)) (w' := fr_w) ((ex_stp (ins := .invokestatic 95) rfl).trans rfl) rfl (Nat.le_of_ble_eq_true rfl) h_161 ?_
    show Go [] 39 mt_70 (7, [some (.ref 59), some (.int x1), none], [.int 0]) fr_w _
    refine Go.next (f' := (10, [some (.ref 59), some (.int x1), none], [])) (w' := fr_w) ((ex_stp (ins := .ifCond .ne 5) rfl).trans rfl) ?_
    refine Go.next (f' := (11, [some (.ref 59), some (.int x1), none], [.int (-1)])) (w' := fr_w) ((ex_stp (ins := .iconst (-1)) rfl).trans rfl) ?_
    exact Go.ret ((ex_stp (ins := .ireturn) rfl).trans rfl)
set_option maxRecDepth 100000 in
theorem ao_33_b (x1 : Int32) (g0 : 1 < x1.toInt) : A2 mt_69 mt_70 [.int x1] := by
  refine ⟨(-1), fr_w, fr_w, _, ?_, rfl, ?_⟩
  · show Go [] 39 mt_69 (0, [some (.ref 0), some (.int x1), none], []) fr_w _
    refine Go.next (f' := (1, [some (.ref 0), some (.int x1), none], [.int x1])) (w' := fr_w) ((ex_stp (ins := .iload_n 1) rfl).trans rfl) ?_
    refine Go.next (f' := (4, [some (.ref 0), some (.int x1), none], [])) (w' := fr_w) ((ex_stp (ins := .ifCond .lt 8) rfl).trans (ex_b0_f (c := .lt) (off := 8) (pc := 1) (lo := [some (.ref 0), some (.int x1), none]) (x := x1) (r := []) (by rw [c0_lt]; exact decide_eq_false (by show ¬ (x1.toInt < (0 : Int)); omega)) (by decide))) ?_
    refine Go.next (f' := (5, [some (.ref 0), some (.int x1), none], [.int x1])) (w' := fr_w) ((ex_stp (ins := .iload_n 1) rfl).trans rfl) ?_
    refine Go.next (f' := (6, [some (.ref 0), some (.int x1), none], [.int 2, .int x1])) (w' := fr_w) ((ex_stp (ins := .iconst 2) rfl).trans rfl) ?_
    refine Go.next (f' := (9, [some (.ref 0), some (.int x1), none], [])) (w' := fr_w) ((ex_stp (ins := .if_icmp .lt 5) rfl).trans (ex_b2_f (c := .lt) (off := 5) (pc := 6) (lo := [some (.ref 0), some (.int x1), none]) (x := x1) (y := 2) (r := []) (by rw [c2_lt]; exact decide_eq_false (by show ¬ (x1.toInt < (2 : Int)); omega)) (by decide))) ?_
    refine Go.next (f' := (10, [some (.ref 0), some (.int x1), none], [.int (-1)])) (w' := fr_w) ((ex_stp (ins := .iconst (-1)) rfl).trans rfl) ?_
    exact Go.ret ((ex_stp (ins := .ireturn) rfl).trans rfl)
  · show Go [] 39 mt_70 (0, [some (.ref 59), some (.int x1), none], []) fr_w _
    refine Go.next (f' := (1, [some (.ref 59), some (.int x1), none], [.int x1])) (w' := fr_w) ((ex_stp (ins := .iload_n 1) rfl).trans rfl) ?_
    refine Go.next (f' := (2, [some (.ref 59), some (.int x1), none], [.long (x1).toInt64])) (w' := fr_w) ((ex_stp (ins := .i2l) rfl).trans rfl) ?_
    refine Go.next (f' := (3, [some (.ref 59), some (.int x1), none], [.long 0, .long (x1).toInt64])) (w' := fr_w) ((ex_stp (ins := .lconst 0) rfl).trans rfl) ?_
    refine Go.next (f' := (4, [some (.ref 59), some (.int x1), none], [.long 1, .long 0, .long (x1).toInt64])) (w' := fr_w) ((ex_stp (ins := .lconst 1) rfl).trans rfl) ?_
    have h_162 : Go [] 38 mt_93 (ex_ent mt_93 [.long (x1).toInt64, .long 0, .long 1]) fr_w (some (.int 0), fr_w) := by
      show Go [] 38 mt_93 (0, [some (.long (x1).toInt64), none, some (.long 0), none, some (.long 1), none], []) fr_w _
      refine Go.next (f' := (1, [some (.long (x1).toInt64), none, some (.long 0), none, some (.long 1), none], [.long (x1).toInt64])) (w' := fr_w) ((ex_stp (ins := .lload_n 0) rfl).trans rfl) ?_
      refine Go.next (f' := (2, [some (.long (x1).toInt64), none, some (.long 0), none, some (.long 1), none], [.long 0, .long (x1).toInt64])) (w' := fr_w) ((ex_stp (ins := .lload_n 2) rfl).trans rfl) ?_
      refine Go.next (f' := (3, [some (.long (x1).toInt64), none, some (.long 0), none, some (.long 1), none], [.int (lg_cmp (x1).toInt64 0)])) (w' := fr_w) ((ex_stp (ins := .lcmp) rfl).trans rfl) ?_
      refine Go.next (f' := (6, [some (.long (x1).toInt64), none, some (.long 0), none, some (.long 1), none], [])) (w' := fr_w) ((ex_stp (ins := .ifCond .lt 14) rfl).trans (ex_b0_f (c := .lt) (off := 14) (pc := 3) (lo := [some (.long (x1).toInt64), none, some (.long 0), none, some (.long 1), none]) (x := (lg_cmp (x1).toInt64 0)) (r := []) (by rw [cl_lt]; exact decide_eq_false (by first | (rw [Int32.toInt_toInt64]; show ¬ (x1.toInt < (0 : Int)); omega) | omega)) (by decide))) ?_
      refine Go.next (f' := (7, [some (.long (x1).toInt64), none, some (.long 0), none, some (.long 1), none], [.long (x1).toInt64])) (w' := fr_w) ((ex_stp (ins := .lload_n 0) rfl).trans rfl) ?_
      refine Go.next (f' := (9, [some (.long (x1).toInt64), none, some (.long 0), none, some (.long 1), none], [.long 1, .long (x1).toInt64])) (w' := fr_w) ((ex_stp (ins := .lload 4) rfl).trans rfl) ?_
      refine Go.next (f' := (10, [some (.long (x1).toInt64), none, some (.long 0), none, some (.long 1), none], [.int (lg_cmp (x1).toInt64 1)])) (w' := fr_w) ((ex_stp (ins := .lcmp) rfl).trans rfl) ?_
      refine Go.next (f' := (17, [some (.long (x1).toInt64), none, some (.long 0), none, some (.long 1), none], [])) (w' := fr_w) ((ex_stp (ins := .ifCond .gt 7) rfl).trans (ex_b0_t (c := .gt) (off := 7) (pc := 10) (lo := [some (.long (x1).toInt64), none, some (.long 0), none, some (.long 1), none]) (x := (lg_cmp (x1).toInt64 1)) (r := []) (by rw [cl_gt]; exact decide_eq_true (by first | (rw [Int32.toInt_toInt64]; show (1 : Int) < x1.toInt; omega) | omega)) (by decide))) ?_
      refine Go.next (f' := (18, [some (.long (x1).toInt64), none, some (.long 0), none, some (.long 1), none], [.int 0])) (w' := fr_w) ((ex_stp (ins := .iconst 0) rfl).trans rfl) ?_
      exact Go.ret ((ex_stp (ins := .ireturn) rfl).trans rfl)
    refine Go.call (d := 38) (cal := 93) (as := [.long (x1).toInt64, .long 0, .long 1]) (g := (7, [some (.ref 59), some (.int x1), none], [])) (M' := mt_93) (r := some (.int 0)) (w' := fr_w) ((ex_stp (ins := .invokestatic 95) rfl).trans rfl) rfl (Nat.le_of_ble_eq_true rfl) h_162 ?_
    show Go [] 39 mt_70 (7, [some (.ref 59), some (.int x1), none], [.int 0]) fr_w _
    refine Go.next (f' := (10, [some (.ref 59), some (.int x1), none], [])) (w' := fr_w) ((ex_stp (ins := .ifCond .ne 5) rfl).trans rfl) ?_
    refine Go.next (f' := (11, [some (.ref 59), some (.int x1), none], [.int (-1)])) (w' := fr_w) ((ex_stp (ins := .iconst (-1)) rfl).trans rfl) ?_
    exact Go.ret ((ex_stp (ins := .ireturn) rfl).trans rfl)
set_option maxRecDepth 100000 in
theorem ao_34_a (x1 : Int32) (g0 : x1.toInt < 0) : A2 mt_71 mt_72 [.int x1] := by
  refine ⟨(-1), fr_w, fr_w, _, ?_, rfl, ?_⟩
  · show Go [] 39 mt_71 (0, [some (.ref 0), some (.int x1)], []) fr_w _
    refine Go.next (f' := (1, [some (.ref 0), some (.int x1)], [.int x1])) (w' := fr_w) ((ex_stp (ins := .iload_n 1) rfl).trans rfl) ?_
    refine Go.next (f' := (9, [some (.ref 0), some (.int x1)], [])) (w' := fr_w) ((ex_stp (ins := .ifCond .lt 8) rfl).trans (ex_b0_t (c := .lt) (off := 8) (pc := 1) (lo := [some (.ref 0), some (.int x1)]) (x := x1) (r := []) (by rw [c0_lt]; exact decide_eq_true (by show x1.toInt < (0 : Int); omega)) (by decide))) ?_
    refine Go.next (f' := (10, [some (.ref 0), some (.int x1)], [.int (-1)])) (w' := fr_w) ((ex_stp (ins := .iconst (-1)) rfl).trans rfl) ?_
    exact Go.ret ((ex_stp (ins := .ireturn) rfl).trans rfl)
  · show Go [] 39 mt_72 (0, [some (.ref 59), some (.int x1)], []) fr_w _
    refine Go.next (f' := (1, [some (.ref 59), some (.int x1)], [.int x1])) (w' := fr_w) ((ex_stp (ins := .iload_n 1) rfl).trans rfl) ?_
    refine Go.next (f' := (2, [some (.ref 59), some (.int x1)], [.long (x1).toInt64])) (w' := fr_w) ((ex_stp (ins := .i2l) rfl).trans rfl) ?_
    refine Go.next (f' := (3, [some (.ref 59), some (.int x1)], [.long 0, .long (x1).toInt64])) (w' := fr_w) ((ex_stp (ins := .lconst 0) rfl).trans rfl) ?_
    refine Go.next (f' := (4, [some (.ref 59), some (.int x1)], [.long 1, .long 0, .long (x1).toInt64])) (w' := fr_w) ((ex_stp (ins := .lconst 1) rfl).trans rfl) ?_
    have h_163 : Go [] 38 mt_93 (ex_ent mt_93 [.long (x1).toInt64, .long 0, .long 1]) fr_w (some (.int 0), fr_w) := by
      show Go [] 38 mt_93 (0, [some (.long (x1).toInt64), none, some (.long 0), none, some (.long 1), none], []) fr_w _
      refine Go.next (f' := (1, [some (.long (x1).toInt64), none, some (.long 0), none, some (.long 1), none], [.long (x1).toInt64])) (w' := fr_w) ((ex_stp (ins := .lload_n 0) rfl).trans rfl) ?_
      refine Go.next (f' := (2, [some (.long (x1).toInt64), none, some (.long 0), none, some (.long 1), none], [.long 0, .long (x1).toInt64])) (w' := fr_w) ((ex_stp (ins := .lload_n 2) rfl).trans rfl) ?_
      refine Go.next (f' := (3, [some (.long (x1).toInt64), none, some (.long 0), none, some (.long 1), none], [.int (lg_cmp (x1).toInt64 0)])) (w' := fr_w) ((ex_stp (ins := .lcmp) rfl).trans rfl) ?_
      refine Go.next (f' := (17, [some (.long (x1).toInt64), none, some (.long 0), none, some (.long 1), none], [])) (w' := fr_w) ((ex_stp (ins := .ifCond .lt 14) rfl).trans (ex_b0_t (c := .lt) (off := 14) (pc := 3) (lo := [some (.long (x1).toInt64), none, some (.long 0), none, some (.long 1), none]) (x := (lg_cmp (x1).toInt64 0)) (r := []) (by rw [cl_lt]; exact decide_eq_true (by first | (rw [Int32.toInt_toInt64]; show x1.toInt < (0 : Int); omega) | omega)) (by decide))) ?_
      refine Go.next (f' := (18, [some (.long (x1).toInt64), none, some (.long 0), none, some (.long 1), none], [.int 0])) (w' := fr_w) ((ex_stp (ins := .iconst 0) rfl).trans rfl) ?_
      exact Go.ret ((ex_stp (ins := .ireturn) rfl).trans rfl)
    refine Go.call (d := 38) (cal := 93) (as := [.long (x1).toInt64, .long 0, .long 1]) (g := (7, [some (.ref 59), some (.int x1)], [])) (M' := mt_93) (r := some (.int 0)) (w' := fr_w) ((ex_stp (ins := .invokestatic 95) rfl).trans rfl) rfl (Nat.le_of_ble_eq_true rfl) h_163 ?_
    show Go [] 39 mt_72 (7, [some (.ref 59), some (.int x1)], [.int 0]) fr_w _
    refine Go.next (f' := (10, [some (.ref 59), some (.int x1)], [])) (w' := fr_w) ((ex_stp (ins := .ifCond .ne 5) rfl).trans rfl) ?_
    refine Go.next (f' := (11, [some (.ref 59), some (.int x1)], [.int (-1)])) (w' := fr_w) ((ex_stp (ins := .iconst (-1)) rfl).trans rfl) ?_
    exact Go.ret ((ex_stp (ins := .ireturn) rfl).trans rfl)
set_option maxRecDepth 100000 in
theorem ao_34_b (x1 : Int32) (g0 : 1 < x1.toInt) : A2 mt_71 mt_72 [.int x1] := by
  refine ⟨(-1), fr_w, fr_w, _, ?_, rfl, ?_⟩
  · show Go [] 39 mt_71 (0, [some (.ref 0), some (.int x1)], []) fr_w _
    refine Go.next (f' := (1, [some (.ref 0), some (.int x1)], [.int x1])) (w' := fr_w) ((ex_stp (ins := .iload_n 1) rfl).trans rfl) ?_
    refine Go.next (f' := (4, [some (.ref 0), some (.int x1)], [])) (w' := fr_w) ((ex_stp (ins := .ifCond .lt 8) rfl).trans (ex_b0_f (c := .lt) (off := 8) (pc := 1) (lo := [some (.ref 0), some (.int x1)]) (x := x1) (r := []) (by rw [c0_lt]; exact decide_eq_false (by show ¬ (x1.toInt < (0 : Int)); omega)) (by decide))) ?_
    refine Go.next (f' := (5, [some (.ref 0), some (.int x1)], [.int x1])) (w' := fr_w) ((ex_stp (ins := .iload_n 1) rfl).trans rfl) ?_
    refine Go.next (f' := (6, [some (.ref 0), some (.int x1)], [.int 2, .int x1])) (w' := fr_w) ((ex_stp (ins := .iconst 2) rfl).trans rfl) ?_
    refine Go.next (f' := (9, [some (.ref 0), some (.int x1)], [])) (w' := fr_w) ((ex_stp (ins := .if_icmp .lt 5) rfl).trans (ex_b2_f (c := .lt) (off := 5) (pc := 6) (lo := [some (.ref 0), some (.int x1)]) (x := x1) (y := 2) (r := []) (by rw [c2_lt]; exact decide_eq_false (by show ¬ (x1.toInt < (2 : Int)); omega)) (by decide))) ?_
    refine Go.next (f' := (10, [some (.ref 0), some (.int x1)], [.int (-1)])) (w' := fr_w) ((ex_stp (ins := .iconst (-1)) rfl).trans rfl) ?_
    exact Go.ret ((ex_stp (ins := .ireturn) rfl).trans rfl)
  · show Go [] 39 mt_72 (0, [some (.ref 59), some (.int x1)], []) fr_w _
    refine Go.next (f' := (1, [some (.ref 59), some (.int x1)], [.int x1])) (w' := fr_w) ((ex_stp (ins := .iload_n 1) rfl).trans rfl) ?_
    refine Go.next (f' := (2, [some (.ref 59), some (.int x1)], [.long (x1).toInt64])) (w' := fr_w) ((ex_stp (ins := .i2l) rfl).trans rfl) ?_
    refine Go.next (f' := (3, [some (.ref 59), some (.int x1)], [.long 0, .long (x1).toInt64])) (w' := fr_w) ((ex_stp (ins := .lconst 0) rfl).trans rfl) ?_
    refine Go.next (f' := (4, [some (.ref 59), some (.int x1)], [.long 1, .long 0, .long (x1).toInt64])) (w' := fr_w) ((ex_stp (ins := .lconst 1) rfl).trans rfl) ?_
    have h_164 : Go [] 38 mt_93 (ex_ent mt_93 [.long (x1).toInt64, .long 0, .long 1]) fr_w (some (.int 0), fr_w) := by
      show Go [] 38 mt_93 (0, [some (.long (x1).toInt64), none, some (.long 0), none, some (.long 1), none], []) fr_w _
      refine Go.next (f' := (1, [some (.long (x1).toInt64), none, some (.long 0), none, some (.long 1), none], [.long (x1).toInt64])) (w' := fr_w) ((ex_stp (ins := .lload_n 0) rfl).trans rfl) ?_
      refine Go.next (f' := (2, [some (.long (x1).toInt64), none, some (.long 0), none, some (.long 1), none], [.long 0, .long (x1).toInt64])) (w' := fr_w) ((ex_stp (ins := .lload_n 2) rfl).trans rfl) ?_
      refine Go.next (f' := (3, [some (.long (x1).toInt64), none, some (.long 0), none, some (.long 1), none], [.int (lg_cmp (x1).toInt64 0)])) (w' := fr_w) ((ex_stp (ins := .lcmp) rfl).trans rfl) ?_
      refine Go.next (f' := (6, [some (.long (x1).toInt64), none, some (.long 0), none, some (.long 1), none], [])) (w' := fr_w) ((ex_stp (ins := .ifCond .lt 14) rfl).trans (ex_b0_f (c := .lt) (off := 14) (pc := 3) (lo := [some (.long (x1).toInt64), none, some (.long 0), none, some (.long 1), none]) (x := (lg_cmp (x1).toInt64 0)) (r := []) (by rw [cl_lt]; exact decide_eq_false (by first | (rw [Int32.toInt_toInt64]; show ¬ (x1.toInt < (0 : Int)); omega) | omega)) (by decide))) ?_
      refine Go.next (f' := (7, [some (.long (x1).toInt64), none, some (.long 0), none, some (.long 1), none], [.long (x1).toInt64])) (w' := fr_w) ((ex_stp (ins := .lload_n 0) rfl).trans rfl) ?_
      refine Go.next (f' := (9, [some (.long (x1).toInt64), none, some (.long 0), none, some (.long 1), none], [.long 1, .long (x1).toInt64])) (w' := fr_w) ((ex_stp (ins := .lload 4) rfl).trans rfl) ?_
      refine Go.next (f' := (10, [some (.long (x1).toInt64), none, some (.long 0), none, some (.long 1), none], [.int (lg_cmp (x1).toInt64 1)])) (w' := fr_w) ((ex_stp (ins := .lcmp) rfl).trans rfl) ?_
      refine Go.next (f' := (17, [some (.long (x1).toInt64), none, some (.long 0), none, some (.long 1), none], [])) (w' := fr_w) ((ex_stp (ins := .ifCond .gt 7) rfl).trans (ex_b0_t (c := .gt) (off := 7) (pc := 10) (lo := [some (.long (x1).toInt64), none, some (.long 0), none, some (.long 1), none]) (x := (lg_cmp (x1).toInt64 1)) (r := []) (by rw [cl_gt]; exact decide_eq_true (by first | (rw [Int32.toInt_toInt64]; show (1 : Int) < x1.toInt; omega) | omega)) (by decide))) ?_
      refine Go.next (f' := (18, [some (.long (x1).toInt64), none, some (.long 0), none, some (.long 1), none], [.int 0])) (w' := fr_w) ((ex_stp (ins := .iconst 0) rfl).trans rfl) ?_
      exact Go.ret ((ex_stp (ins := .ireturn) rfl).trans rfl)
    refine Go.call (d := 38) (cal := 93) (as := [.long (x1).toInt64, .long 0, .long 1]) (g := (7, [some (.ref 59), some (.int x1)], [])) (M' := mt_93) (r := some (.int 0)) (w' := fr_w) ((ex_stp (ins := .invokestatic 95) rfl).trans rfl) rfl (Nat.le_of_ble_eq_true rfl) h_164 ?_
    show Go [] 39 mt_72 (7, [some (.ref 59), some (.int x1)], [.int 0]) fr_w _
    refine Go.next (f' := (10, [some (.ref 59), some (.int x1)], [])) (w' := fr_w) ((ex_stp (ins := .ifCond .ne 5) rfl).trans rfl) ?_
    refine Go.next (f' := (11, [some (.ref 59), some (.int x1)], [.int (-1)])) (w' := fr_w) ((ex_stp (ins := .iconst (-1)) rfl).trans rfl) ?_
    exact Go.ret ((ex_stp (ins := .ireturn) rfl).trans rfl)
set_option maxRecDepth 100000 in
theorem ao_35_a (x1 x2 x3 : Int32) (g0 : x1.toInt < 0) : A2 mt_73 mt_74 [.int x1, .int x2, .int x3] := by
  refine ⟨(-1), fr_w, fr_w, _, ?_, rfl, ?_⟩
  · show Go [] 39 mt_73 (0, [some (.ref 0), some (.int x1), some (.int x2), some (.int x3)], []) fr_w _
    refine Go.next (f' := (1, [some (.ref 0), some (.int x1), some (.int x2), some (.int x3)], [.int x1])) (w' := fr_w) ((ex_stp (ins := .iload_n 1) rfl).trans rfl) ?_
    refine Go.next (f' := (24, [some (.ref 0), some (.int x1), some (.int x2), some (.int x3)], [])) (w' := fr_w) ((ex_stp (ins := .ifCond .lt 23) rfl).trans (ex_b0_t (c := .lt) (off := 23) (pc := 1) (lo := [some (.ref 0), some (.int x1), some (.int x2), some (.int x3)]) (x := x1) (r := []) (by rw [c0_lt]; exact decide_eq_true (by show x1.toInt < (0 : Int); omega)) (by decide))) ?_
    refine Go.next (f' := (25, [some (.ref 0), some (.int x1), some (.int x2), some (.int x3)], [.int (-1)])) (w' := fr_w) ((ex_stp (ins := .iconst (-1)) rfl).trans rfl) ?_
    exact Go.ret ((ex_stp (ins := .ireturn) rfl).trans rfl)
  · show Go [] 39 mt_74 (0, [some (.ref 59), some (.int x1), some (.int x2), some (.int x3), none], []) fr_w _
    refine Go.next (f' := (1, [some (.ref 59), some (.int x1), some (.int x2), some (.int x3), none], [.int x1])) (w' := fr_w) ((ex_stp (ins := .iload_n 1) rfl).trans rfl) ?_
    refine Go.next (f' := (2, [some (.ref 59), some (.int x1), some (.int x2), some (.int x3), none], [.int x2, .int x1])) (w' := fr_w) ((ex_stp (ins := .iload_n 2) rfl).trans rfl) ?_
    have h_165 : Go [] 38 mt_147 (ex_ent mt_147 [.int x1, .int x2]) fr_w (some (.int 0), fr_w) := by
      show Go [] 38 mt_147 (0, [some (.int x1), some (.int x2)], []) fr_w _
      refine Go.next (f' := (1, [some (.int x1), some (.int x2)], [.int x1])) (w' := fr_w) ((ex_stp (ins := .iload_n 0) rfl).trans rfl) ?_
      refine Go.next (f' := (2, [some (.int x1), some (.int x2)], [.long (x1).toInt64])) (w' := fr_w) ((ex_stp (ins := .i2l) rfl).trans rfl) ?_
      refine Go.next (f' := (3, [some (.int x1), some (.int x2)], [.long 0, .long (x1).toInt64])) (w' := fr_w) ((ex_stp (ins := .lconst 0) rfl).trans rfl) ?_
      refine Go.next (f' := (6, [some (.int x1), some (.int x2)], [.long 3, .long 0, .long (x1).toInt64])) (w' := fr_w) ((ex_stp (ins := .ldc2_w 250) rfl).trans rfl) ?_
      have h_166 : Go [] 37 mt_93 (ex_ent mt_93 [.long (x1).toInt64, .long 0, .long 3]) fr_w (some (.int 0), fr_w) := by
        show Go [] 37 mt_93 (0, [some (.long (x1).toInt64), none, some (.long 0), none, some (.long 3), none], []) fr_w _
        refine Go.next (f' := (1, [some (.long (x1).toInt64), none, some (.long 0), none, some (.long 3), none], [.long (x1).toInt64])) (w' := fr_w) ((ex_stp (ins := .lload_n 0) rfl).trans rfl) ?_
        refine Go.next (f' := (2, [some (.long (x1).toInt64), none, some (.long 0), none, some (.long 3), none], [.long 0, .long (x1).toInt64])) (w' := fr_w) ((ex_stp (ins := .lload_n 2) rfl).trans rfl) ?_
        refine Go.next (f' := (3, [some (.long (x1).toInt64), none, some (.long 0), none, some (.long 3), none], [.int (lg_cmp (x1).toInt64 0)])) (w' := fr_w) ((ex_stp (ins := .lcmp) rfl).trans rfl) ?_
        refine Go.next (f' := (17, [some (.long (x1).toInt64), none, some (.long 0), none, some (.long 3), none], [])) (w' := fr_w) ((ex_stp (ins := .ifCond .lt 14) rfl).trans (ex_b0_t (c := .lt) (off := 14) (pc := 3) (lo := [some (.long (x1).toInt64), none, some (.long 0), none, some (.long 3), none]) (x := (lg_cmp (x1).toInt64 0)) (r := []) (by rw [cl_lt]; exact decide_eq_true (by first | (rw [Int32.toInt_toInt64]; show x1.toInt < (0 : Int); omega) | omega)) (by decide))) ?_
        refine Go.next (f' := (18, [some (.long (x1).toInt64), none, some (.long 0), none, some (.long 3), none], [.int 0])) (w' := fr_w) ((ex_stp (ins := .iconst 0) rfl).trans rfl) ?_
        exact Go.ret ((ex_stp (ins := .ireturn) rfl).trans rfl)
      refine Go.call (d := 37) (cal := 93) (as := [.long (x1).toInt64, .long 0, .long 3]) (g := (9, [some (.int x1), some (.int x2)], [])) (M' := mt_93) (r := some (.int 0)) (w' := fr_w) ((ex_stp (ins := .invokestatic 95) rfl).trans rfl) rfl (Nat.le_of_ble_eq_true rfl) h_166 ?_
      show Go [] 38 mt_147 (9, [some (.int x1), some (.int x2)], [.int 0]) fr_w _
      refine Go.next (f' := (28, [some (.int x1), some (.int x2)], [])) (w' := fr_w) ((ex_stp (ins := .ifCond .eq 19) rfl).trans rfl) ?_
      refine Go.next (f' := (29, [some (.int x1), some (.int x2)], [.int 0])) (w' := fr_w) ((ex_stp (ins := .iconst 0) rfl).trans rfl) ?_
      exact Go.ret ((ex_stp (ins := .ireturn) rfl).trans rfl)
    refine Go.call (d := 38) (cal := 147) (as := [.int x1, .int x2]) (g := (5, [some (.ref 59), some (.int x1), some (.int x2), some (.int x3), none], [])) (M' := mt_147) (r := some (.int 0)) (w' := fr_w) ((ex_stp (ins := .invokestatic 287) rfl).trans rfl) rfl (Nat.le_of_ble_eq_true rfl) h_165 ?_
    show Go [] 39 mt_74 (5, [some (.ref 59), some (.int x1), some (.int x2), some (.int x3), none], [.int 0]) fr_w _
    refine Go.next (f' := (14, [some (.ref 59), some (.int x1), some (.int x2), some (.int x3), none], [])) (w' := fr_w) ((ex_stp (ins := .ifCond .eq 9) rfl).trans rfl) ?_
    refine Go.next (f' := (15, [some (.ref 59), some (.int x1), some (.int x2), some (.int x3), none], [.int (-1)])) (w' := fr_w) ((ex_stp (ins := .iconst (-1)) rfl).trans rfl) ?_
    exact Go.ret ((ex_stp (ins := .ireturn) rfl).trans rfl)
set_option maxRecDepth 100000 in
theorem ao_35_b (x1 x2 x3 : Int32) (g0 : 3 < x1.toInt) : A2 mt_73 mt_74 [.int x1, .int x2, .int x3] := by
  refine ⟨(-1), fr_w, fr_w, _, ?_, rfl, ?_⟩
  · show Go [] 39 mt_73 (0, [some (.ref 0), some (.int x1), some (.int x2), some (.int x3)], []) fr_w _
    refine Go.next (f' := (1, [some (.ref 0), some (.int x1), some (.int x2), some (.int x3)], [.int x1])) (w' := fr_w) ((ex_stp (ins := .iload_n 1) rfl).trans rfl) ?_
    refine Go.next (f' := (4, [some (.ref 0), some (.int x1), some (.int x2), some (.int x3)], [])) (w' := fr_w) ((ex_stp (ins := .ifCond .lt 23) rfl).trans (ex_b0_f (c := .lt) (off := 23) (pc := 1) (lo := [some (.ref 0), some (.int x1), some (.int x2), some (.int x3)]) (x := x1) (r := []) (by rw [c0_lt]; exact decide_eq_false (by show ¬ (x1.toInt < (0 : Int)); omega)) (by decide))) ?_
    refine Go.next (f' := (5, [some (.ref 0), some (.int x1), some (.int x2), some (.int x3)], [.int x1])) (w' := fr_w) ((ex_stp (ins := .iload_n 1) rfl).trans rfl) ?_
    refine Go.next (f' := (6, [some (.ref 0), some (.int x1), some (.int x2), some (.int x3)], [.int 4, .int x1])) (w' := fr_w) ((ex_stp (ins := .iconst 4) rfl).trans rfl) ?_
    refine Go.next (f' := (24, [some (.ref 0), some (.int x1), some (.int x2), some (.int x3)], [])) (w' := fr_w) ((ex_stp (ins := .if_icmp .ge 18) rfl).trans (ex_b2_t (c := .ge) (off := 18) (pc := 6) (lo := [some (.ref 0), some (.int x1), some (.int x2), some (.int x3)]) (x := x1) (y := 4) (r := []) (by rw [c2_ge]; exact decide_eq_true (by show (4 : Int) ≤ x1.toInt; omega)) (by decide))) ?_
    refine Go.next (f' := (25, [some (.ref 0), some (.int x1), some (.int x2), some (.int x3)], [.int (-1)])) (w' := fr_w) ((ex_stp (ins := .iconst (-1)) rfl).trans rfl) ?_
    exact Go.ret ((ex_stp (ins := .ireturn) rfl).trans rfl)
  · show Go [] 39 mt_74 (0, [some (.ref 59), some (.int x1), some (.int x2), some (.int x3), none], []) fr_w _
    refine Go.next (f' := (1, [some (.ref 59), some (.int x1), some (.int x2), some (.int x3), none], [.int x1])) (w' := fr_w) ((ex_stp (ins := .iload_n 1) rfl).trans rfl) ?_
    refine Go.next (f' := (2, [some (.ref 59), some (.int x1), some (.int x2), some (.int x3), none], [.int x2, .int x1])) (w' := fr_w) ((ex_stp (ins := .iload_n 2) rfl).trans rfl) ?_
    have h_167 : Go [] 38 mt_147 (ex_ent mt_147 [.int x1, .int x2]) fr_w (some (.int 0), fr_w) := by
      show Go [] 38 mt_147 (0, [some (.int x1), some (.int x2)], []) fr_w _
      refine Go.next (f' := (1, [some (.int x1), some (.int x2)], [.int x1])) (w' := fr_w) ((ex_stp (ins := .iload_n 0) rfl).trans rfl) ?_
      refine Go.next (f' := (2, [some (.int x1), some (.int x2)], [.long (x1).toInt64])) (w' := fr_w) ((ex_stp (ins := .i2l) rfl).trans rfl) ?_
      refine Go.next (f' := (3, [some (.int x1), some (.int x2)], [.long 0, .long (x1).toInt64])) (w' := fr_w) ((ex_stp (ins := .lconst 0) rfl).trans rfl) ?_
      refine Go.next (f' := (6, [some (.int x1), some (.int x2)], [.long 3, .long 0, .long (x1).toInt64])) (w' := fr_w) ((ex_stp (ins := .ldc2_w 250) rfl).trans rfl) ?_
      have h_168 : Go [] 37 mt_93 (ex_ent mt_93 [.long (x1).toInt64, .long 0, .long 3]) fr_w (some (.int 0), fr_w) := by
        show Go [] 37 mt_93 (0, [some (.long (x1).toInt64), none, some (.long 0), none, some (.long 3), none], []) fr_w _
        refine Go.next (f' := (1, [some (.long (x1).toInt64), none, some (.long 0), none, some (.long 3), none], [.long (x1).toInt64])) (w' := fr_w) ((ex_stp (ins := .lload_n 0) rfl).trans rfl) ?_
        refine Go.next (f' := (2, [some (.long (x1).toInt64), none, some (.long 0), none, some (.long 3), none], [.long 0, .long (x1).toInt64])) (w' := fr_w) ((ex_stp (ins := .lload_n 2) rfl).trans rfl) ?_
        refine Go.next (f' := (3, [some (.long (x1).toInt64), none, some (.long 0), none, some (.long 3), none], [.int (lg_cmp (x1).toInt64 0)])) (w' := fr_w) ((ex_stp (ins := .lcmp) rfl).trans rfl) ?_
        refine Go.next (f' := (6, [some (.long (x1).toInt64), none, some (.long 0), none, some (.long 3), none], [])) (w' := fr_w) ((ex_stp (ins := .ifCond .lt 14) rfl).trans (ex_b0_f (c := .lt) (off := 14) (pc := 3) (lo := [some (.long (x1).toInt64), none, some (.long 0), none, some (.long 3), none]) (x := (lg_cmp (x1).toInt64 0)) (r := []) (by rw [cl_lt]; exact decide_eq_false (by first | (rw [Int32.toInt_toInt64]; show ¬ (x1.toInt < (0 : Int)); omega) | omega)) (by decide))) ?_
        refine Go.next (f' := (7, [some (.long (x1).toInt64), none, some (.long 0), none, some (.long 3), none], [.long (x1).toInt64])) (w' := fr_w) ((ex_stp (ins := .lload_n 0) rfl).trans rfl) ?_
        refine Go.next (f' := (9, [some (.long (x1).toInt64), none, some (.long 0), none, some (.long 3), none], [.long 3, .long (x1).toInt64])) (w' := fr_w) ((ex_stp (ins := .lload 4) rfl).trans rfl) ?_
        refine Go.next (f' := (10, [some (.long (x1).toInt64), none, some (.long 0), none, some (.long 3), none], [.int (lg_cmp (x1).toInt64 3)])) (w' := fr_w) ((ex_stp (ins := .lcmp) rfl).trans rfl) ?_
        refine Go.next (f' := (17, [some (.long (x1).toInt64), none, some (.long 0), none, some (.long 3), none], [])) (w' := fr_w) ((ex_stp (ins := .ifCond .gt 7) rfl).trans (ex_b0_t (c := .gt) (off := 7) (pc := 10) (lo := [some (.long (x1).toInt64), none, some (.long 0), none, some (.long 3), none]) (x := (lg_cmp (x1).toInt64 3)) (r := []) (by rw [cl_gt]; exact decide_eq_true (by first | (rw [Int32.toInt_toInt64]; show (3 : Int) < x1.toInt; omega) | omega)) (by decide))) ?_
        refine Go.next (f' := (18, [some (.long (x1).toInt64), none, some (.long 0), none, some (.long 3), none], [.int 0])) (w' := fr_w) ((ex_stp (ins := .iconst 0) rfl).trans rfl) ?_
        exact Go.ret ((ex_stp (ins := .ireturn) rfl).trans rfl)
      refine Go.call (d := 37) (cal := 93) (as := [.long (x1).toInt64, .long 0, .long 3]) (g := (9, [some (.int x1), some (.int x2)], [])) (M' := mt_93) (r := some (.int 0)) (w' := fr_w) ((ex_stp (ins := .invokestatic 95) rfl).trans rfl) rfl (Nat.le_of_ble_eq_true rfl) h_168 ?_
      show Go [] 38 mt_147 (9, [some (.int x1), some (.int x2)], [.int 0]) fr_w _
      refine Go.next (f' := (28, [some (.int x1), some (.int x2)], [])) (w' := fr_w) ((ex_stp (ins := .ifCond .eq 19) rfl).trans rfl) ?_
      refine Go.next (f' := (29, [some (.int x1), some (.int x2)], [.int 0])) (w' := fr_w) ((ex_stp (ins := .iconst 0) rfl).trans rfl) ?_
      exact Go.ret ((ex_stp (ins := .ireturn) rfl).trans rfl)
    refine Go.call (d := 38) (cal := 147) (as := [.int x1, .int x2]) (g := (5, [some (.ref 59), some (.int x1), some (.int x2), some (.int x3), none], [])) (M' := mt_147) (r := some (.int 0)) (w' := fr_w) ((ex_stp (ins := .invokestatic 287) rfl).trans rfl) rfl (Nat.le_of_ble_eq_true rfl) h_167 ?_
    show Go [] 39 mt_74 (5, [some (.ref 59), some (.int x1), some (.int x2), some (.int x3), none], [.int 0]) fr_w _
    refine Go.next (f' := (14, [some (.ref 59), some (.int x1), some (.int x2), some (.int x3), none], [])) (w' := fr_w) ((ex_stp (ins := .ifCond .eq 9) rfl).trans rfl) ?_
    refine Go.next (f' := (15, [some (.ref 59), some (.int x1), some (.int x2), some (.int x3), none], [.int (-1)])) (w' := fr_w) ((ex_stp (ins := .iconst (-1)) rfl).trans rfl) ?_
    exact Go.ret ((ex_stp (ins := .ireturn) rfl).trans rfl)
set_option maxRecDepth 100000 in
theorem ao_35_c (x1 x2 x3 : Int32) (g0 : 0 ≤ x1.toInt) (g1 : x1.toInt ≤ 3) (g2 : x2.toInt < 0) : A2 mt_73 mt_74 [.int x1, .int x2, .int x3] := by
  refine ⟨(-1), fr_w, fr_w, _, ?_, rfl, ?_⟩
  · show Go [] 39 mt_73 (0, [some (.ref 0), some (.int x1), some (.int x2), some (.int x3)], []) fr_w _
    refine Go.next (f' := (1, [some (.ref 0), some (.int x1), some (.int x2), some (.int x3)], [.int x1])) (w' := fr_w) ((ex_stp (ins := .iload_n 1) rfl).trans rfl) ?_
    refine Go.next (f' := (4, [some (.ref 0), some (.int x1), some (.int x2), some (.int x3)], [])) (w' := fr_w) ((ex_stp (ins := .ifCond .lt 23) rfl).trans (ex_b0_f (c := .lt) (off := 23) (pc := 1) (lo := [some (.ref 0), some (.int x1), some (.int x2), some (.int x3)]) (x := x1) (r := []) (by rw [c0_lt]; exact decide_eq_false (by show ¬ (x1.toInt < (0 : Int)); omega)) (by decide))) ?_
    refine Go.next (f' := (5, [some (.ref 0), some (.int x1), some (.int x2), some (.int x3)], [.int x1])) (w' := fr_w) ((ex_stp (ins := .iload_n 1) rfl).trans rfl) ?_
    refine Go.next (f' := (6, [some (.ref 0), some (.int x1), some (.int x2), some (.int x3)], [.int 4, .int x1])) (w' := fr_w) ((ex_stp (ins := .iconst 4) rfl).trans rfl) ?_
    refine Go.next (f' := (9, [some (.ref 0), some (.int x1), some (.int x2), some (.int x3)], [])) (w' := fr_w) ((ex_stp (ins := .if_icmp .ge 18) rfl).trans (ex_b2_f (c := .ge) (off := 18) (pc := 6) (lo := [some (.ref 0), some (.int x1), some (.int x2), some (.int x3)]) (x := x1) (y := 4) (r := []) (by rw [c2_ge]; exact decide_eq_false (by show ¬ ((4 : Int) ≤ x1.toInt); omega)) (by decide))) ?_
    refine Go.next (f' := (10, [some (.ref 0), some (.int x1), some (.int x2), some (.int x3)], [.int x2])) (w' := fr_w) ((ex_stp (ins := .iload_n 2) rfl).trans rfl) ?_
    refine Go.next (f' := (24, [some (.ref 0), some (.int x1), some (.int x2), some (.int x3)], [])) (w' := fr_w) ((ex_stp (ins := .ifCond .lt 14) rfl).trans (ex_b0_t (c := .lt) (off := 14) (pc := 10) (lo := [some (.ref 0), some (.int x1), some (.int x2), some (.int x3)]) (x := x2) (r := []) (by rw [c0_lt]; exact decide_eq_true (by show x2.toInt < (0 : Int); omega)) (by decide))) ?_
    refine Go.next (f' := (25, [some (.ref 0), some (.int x1), some (.int x2), some (.int x3)], [.int (-1)])) (w' := fr_w) ((ex_stp (ins := .iconst (-1)) rfl).trans rfl) ?_
    exact Go.ret ((ex_stp (ins := .ireturn) rfl).trans rfl)
  · show Go [] 39 mt_74 (0, [some (.ref 59), some (.int x1), some (.int x2), some (.int x3), none], []) fr_w _
    refine Go.next (f' := (1, [some (.ref 59), some (.int x1), some (.int x2), some (.int x3), none], [.int x1])) (w' := fr_w) ((ex_stp (ins := .iload_n 1) rfl).trans rfl) ?_
    refine Go.next (f' := (2, [some (.ref 59), some (.int x1), some (.int x2), some (.int x3), none], [.int x2, .int x1])) (w' := fr_w) ((ex_stp (ins := .iload_n 2) rfl).trans rfl) ?_
    have h_169 : Go [] 38 mt_147 (ex_ent mt_147 [.int x1, .int x2]) fr_w (some (.int 0), fr_w) := by
      show Go [] 38 mt_147 (0, [some (.int x1), some (.int x2)], []) fr_w _
      refine Go.next (f' := (1, [some (.int x1), some (.int x2)], [.int x1])) (w' := fr_w) ((ex_stp (ins := .iload_n 0) rfl).trans rfl) ?_
      refine Go.next (f' := (2, [some (.int x1), some (.int x2)], [.long (x1).toInt64])) (w' := fr_w) ((ex_stp (ins := .i2l) rfl).trans rfl) ?_
      refine Go.next (f' := (3, [some (.int x1), some (.int x2)], [.long 0, .long (x1).toInt64])) (w' := fr_w) ((ex_stp (ins := .lconst 0) rfl).trans rfl) ?_
      refine Go.next (f' := (6, [some (.int x1), some (.int x2)], [.long 3, .long 0, .long (x1).toInt64])) (w' := fr_w) ((ex_stp (ins := .ldc2_w 250) rfl).trans rfl) ?_
      have h_170 : Go [] 37 mt_93 (ex_ent mt_93 [.long (x1).toInt64, .long 0, .long 3]) fr_w (some (.int 1), fr_w) := by
        show Go [] 37 mt_93 (0, [some (.long (x1).toInt64), none, some (.long 0), none, some (.long 3), none], []) fr_w _
        refine Go.next (f' := (1, [some (.long (x1).toInt64), none, some (.long 0), none, some (.long 3), none], [.long (x1).toInt64])) (w' := fr_w) ((ex_stp (ins := .lload_n 0) rfl).trans rfl) ?_
        refine Go.next (f' := (2, [some (.long (x1).toInt64), none, some (.long 0), none, some (.long 3), none], [.long 0, .long (x1).toInt64])) (w' := fr_w) ((ex_stp (ins := .lload_n 2) rfl).trans rfl) ?_
        refine Go.next (f' := (3, [some (.long (x1).toInt64), none, some (.long 0), none, some (.long 3), none], [.int (lg_cmp (x1).toInt64 0)])) (w' := fr_w) ((ex_stp (ins := .lcmp) rfl).trans rfl) ?_
        refine Go.next (f' := (6, [some (.long (x1).toInt64), none, some (.long 0), none, some (.long 3), none], [])) (w' := fr_w) ((ex_stp (ins := .ifCond .lt 14) rfl).trans (ex_b0_f (c := .lt) (off := 14) (pc := 3) (lo := [some (.long (x1).toInt64), none, some (.long 0), none, some (.long 3), none]) (x := (lg_cmp (x1).toInt64 0)) (r := []) (by rw [cl_lt]; exact decide_eq_false (by first | (rw [Int32.toInt_toInt64]; show ¬ (x1.toInt < (0 : Int)); omega) | omega)) (by decide))) ?_
        refine Go.next (f' := (7, [some (.long (x1).toInt64), none, some (.long 0), none, some (.long 3), none], [.long (x1).toInt64])) (w' := fr_w) ((ex_stp (ins := .lload_n 0) rfl).trans rfl) ?_
        refine Go.next (f' := (9, [some (.long (x1).toInt64), none, some (.long 0), none, some (.long 3), none], [.long 3, .long (x1).toInt64])) (w' := fr_w) ((ex_stp (ins := .lload 4) rfl).trans rfl) ?_
        refine Go.next (f' := (10, [some (.long (x1).toInt64), none, some (.long 0), none, some (.long 3), none], [.int (lg_cmp (x1).toInt64 3)])) (w' := fr_w) ((ex_stp (ins := .lcmp) rfl).trans rfl) ?_
        refine Go.next (f' := (13, [some (.long (x1).toInt64), none, some (.long 0), none, some (.long 3), none], [])) (w' := fr_w) ((ex_stp (ins := .ifCond .gt 7) rfl).trans (ex_b0_f (c := .gt) (off := 7) (pc := 10) (lo := [some (.long (x1).toInt64), none, some (.long 0), none, some (.long 3), none]) (x := (lg_cmp (x1).toInt64 3)) (r := []) (by rw [cl_gt]; exact decide_eq_false (by first | (rw [Int32.toInt_toInt64]; show ¬ ((3 : Int) < x1.toInt); omega) | omega)) (by decide))) ?_
        refine Go.next (f' := (14, [some (.long (x1).toInt64), none, some (.long 0), none, some (.long 3), none], [.int 1])) (w' := fr_w) ((ex_stp (ins := .iconst 1) rfl).trans rfl) ?_
        refine Go.next (f' := (18, [some (.long (x1).toInt64), none, some (.long 0), none, some (.long 3), none], [.int 1])) (w' := fr_w) ((ex_stp (ins := .goto 4) rfl).trans rfl) ?_
        exact Go.ret ((ex_stp (ins := .ireturn) rfl).trans rfl)
      refine Go.call (d := 37) (cal := 93) (as := [.long (x1).toInt64, .long 0, .long 3]) (g := (9, [some (.int x1), some (.int x2)], [])) (M' := mt_93) (r := some (.int 1)) (w' := fr_w) ((ex_stp (ins := .invokestatic 95) rfl).trans rfl) rfl (Nat.le_of_ble_eq_true rfl) h_170 ?_
      show Go [] 38 mt_147 (9, [some (.int x1), some (.int x2)], [.int 1]) fr_w _
      refine Go.next (f' := (12, [some (.int x1), some (.int x2)], [])) (w' := fr_w) ((ex_stp (ins := .ifCond .eq 19) rfl).trans rfl) ?_
      refine Go.next (f' := (13, [some (.int x1), some (.int x2)], [.int x2])) (w' := fr_w) ((ex_stp (ins := .iload_n 1) rfl).trans rfl) ?_
      refine Go.next (f' := (14, [some (.int x1), some (.int x2)], [.long (x2).toInt64])) (w' := fr_w) ((ex_stp (ins := .i2l) rfl).trans rfl) ?_
      refine Go.next (f' := (15, [some (.int x1), some (.int x2)], [.long 0, .long (x2).toInt64])) (w' := fr_w) ((ex_stp (ins := .lconst 0) rfl).trans rfl) ?_
      refine Go.next (f' := (18, [some (.int x1), some (.int x2)], [.long 2, .long 0, .long (x2).toInt64])) (w' := fr_w) ((ex_stp (ins := .ldc2_w 192) rfl).trans rfl) ?_
      have h_171 : Go [] 37 mt_93 (ex_ent mt_93 [.long (x2).toInt64, .long 0, .long 2]) fr_w (some (.int 0), fr_w) := by
        show Go [] 37 mt_93 (0, [some (.long (x2).toInt64), none, some (.long 0), none, some (.long 2), none], []) fr_w _
        refine Go.next (f' := (1, [some (.long (x2).toInt64), none, some (.long 0), none, some (.long 2), none], [.long (x2).toInt64])) (w' := fr_w) ((ex_stp (ins := .lload_n 0) rfl).trans rfl) ?_
        refine Go.next (f' := (2, [some (.long (x2).toInt64), none, some (.long 0), none, some (.long 2), none], [.long 0, .long (x2).toInt64])) (w' := fr_w) ((ex_stp (ins := .lload_n 2) rfl).trans rfl) ?_
        refine Go.next (f' := (3, [some (.long (x2).toInt64), none, some (.long 0), none, some (.long 2), none], [.int (lg_cmp (x2).toInt64 0)])) (w' := fr_w) ((ex_stp (ins := .lcmp) rfl).trans rfl) ?_
        refine Go.next (f' := (17, [some (.long (x2).toInt64), none, some (.long 0), none, some (.long 2), none], [])) (w' := fr_w) ((ex_stp (ins := .ifCond .lt 14) rfl).trans (ex_b0_t (c := .lt) (off := 14) (pc := 3) (lo := [some (.long (x2).toInt64), none, some (.long 0), none, some (.long 2), none]) (x := (lg_cmp (x2).toInt64 0)) (r := []) (by rw [cl_lt]; exact decide_eq_true (by first | (rw [Int32.toInt_toInt64]; show x2.toInt < (0 : Int); omega) | omega)) (by decide))) ?_
        refine Go.next (f' := (18, [some (.long (x2).toInt64), none, some (.long 0), none, some (.long 2), none], [.int 0])) (w' := fr_w) ((ex_stp (ins := .iconst 0) rfl).trans rfl) ?_
        exact Go.ret ((ex_stp (ins := .ireturn) rfl).trans rfl)
      refine Go.call (d := 37) (cal := 93) (as := [.long (x2).toInt64, .long 0, .long 2]) (g := (21, [some (.int x1), some (.int x2)], [])) (M' := mt_93) (r := some (.int 0)) (w' := fr_w) ((ex_stp (ins := .invokestatic 95) rfl).trans rfl) rfl (Nat.le_of_ble_eq_true rfl) h_171 ?_
      show Go [] 38 mt_147 (21, [some (.int x1), some (.int x2)], [.int 0]) fr_w _
      refine Go.next (f' := (28, [some (.int x1), some (.int x2)], [])) (w' := fr_w) ((ex_stp (ins := .ifCond .eq 7) rfl).trans rfl) ?_
      refine Go.next (f' := (29, [some (.int x1), some (.int x2)], [.int 0])) (w' := fr_w) ((ex_stp (ins := .iconst 0) rfl).trans rfl) ?_
      exact Go.ret ((ex_stp (ins := .ireturn) rfl).trans rfl)
    refine Go.call (d := 38) (cal := 147) (as := [.int x1, .int x2]) (g := (5, [some (.ref 59), some (.int x1), some (.int x2), some (.int x3), none], [])) (M' := mt_147) (r := some (.int 0)) (w' := fr_w) ((ex_stp (ins := .invokestatic 287) rfl).trans rfl) rfl (Nat.le_of_ble_eq_true rfl) h_169 ?_
    show Go [] 39 mt_74 (5, [some (.ref 59), some (.int x1), some (.int x2), some (.int x3), none], [.int 0]) fr_w _
    refine Go.next (f' := (14, [some (.ref 59), some (.int x1), some (.int x2), some (.int x3), none], [])) (w' := fr_w) ((ex_stp (ins := .ifCond .eq 9) rfl).trans rfl) ?_
    refine Go.next (f' := (15, [some (.ref 59), some (.int x1), some (.int x2), some (.int x3), none], [.int (-1)])) (w' := fr_w) ((ex_stp (ins := .iconst (-1)) rfl).trans rfl) ?_
    exact Go.ret ((ex_stp (ins := .ireturn) rfl).trans rfl)
set_option maxRecDepth 100000 in
theorem ao_35_d (x1 x2 x3 : Int32) (g0 : 0 ≤ x1.toInt) (g1 : x1.toInt ≤ 3) (g2 : 2 < x2.toInt) : A2 mt_73 mt_74 [.int x1, .int x2, .int x3] := by
  refine ⟨(-1), fr_w, fr_w, _, ?_, rfl, ?_⟩
  · show Go [] 39 mt_73 (0, [some (.ref 0), some (.int x1), some (.int x2), some (.int x3)], []) fr_w _
    refine Go.next (f' := (1, [some (.ref 0), some (.int x1), some (.int x2), some (.int x3)], [.int x1])) (w' := fr_w) ((ex_stp (ins := .iload_n 1) rfl).trans rfl) ?_
    refine Go.next (f' := (4, [some (.ref 0), some (.int x1), some (.int x2), some (.int x3)], [])) (w' := fr_w) ((ex_stp (ins := .ifCond .lt 23) rfl).trans (ex_b0_f (c := .lt) (off := 23) (pc := 1) (lo := [some (.ref 0), some (.int x1), some (.int x2), some (.int x3)]) (x := x1) (r := []) (by rw [c0_lt]; exact decide_eq_false (by show ¬ (x1.toInt < (0 : Int)); omega)) (by decide))) ?_
    refine Go.next (f' := (5, [some (.ref 0), some (.int x1), some (.int x2), some (.int x3)], [.int x1])) (w' := fr_w) ((ex_stp (ins := .iload_n 1) rfl).trans rfl) ?_
    refine Go.next (f' := (6, [some (.ref 0), some (.int x1), some (.int x2), some (.int x3)], [.int 4, .int x1])) (w' := fr_w) ((ex_stp (ins := .iconst 4) rfl).trans rfl) ?_
    refine Go.next (f' := (9, [some (.ref 0), some (.int x1), some (.int x2), some (.int x3)], [])) (w' := fr_w) ((ex_stp (ins := .if_icmp .ge 18) rfl).trans (ex_b2_f (c := .ge) (off := 18) (pc := 6) (lo := [some (.ref 0), some (.int x1), some (.int x2), some (.int x3)]) (x := x1) (y := 4) (r := []) (by rw [c2_ge]; exact decide_eq_false (by show ¬ ((4 : Int) ≤ x1.toInt); omega)) (by decide))) ?_
    refine Go.next (f' := (10, [some (.ref 0), some (.int x1), some (.int x2), some (.int x3)], [.int x2])) (w' := fr_w) ((ex_stp (ins := .iload_n 2) rfl).trans rfl) ?_
    refine Go.next (f' := (13, [some (.ref 0), some (.int x1), some (.int x2), some (.int x3)], [])) (w' := fr_w) ((ex_stp (ins := .ifCond .lt 14) rfl).trans (ex_b0_f (c := .lt) (off := 14) (pc := 10) (lo := [some (.ref 0), some (.int x1), some (.int x2), some (.int x3)]) (x := x2) (r := []) (by rw [c0_lt]; exact decide_eq_false (by show ¬ (x2.toInt < (0 : Int)); omega)) (by decide))) ?_
    refine Go.next (f' := (14, [some (.ref 0), some (.int x1), some (.int x2), some (.int x3)], [.int x2])) (w' := fr_w) ((ex_stp (ins := .iload_n 2) rfl).trans rfl) ?_
    refine Go.next (f' := (15, [some (.ref 0), some (.int x1), some (.int x2), some (.int x3)], [.int 2, .int x2])) (w' := fr_w) ((ex_stp (ins := .iconst 2) rfl).trans rfl) ?_
    refine Go.next (f' := (24, [some (.ref 0), some (.int x1), some (.int x2), some (.int x3)], [])) (w' := fr_w) ((ex_stp (ins := .if_icmp .gt 9) rfl).trans (ex_b2_t (c := .gt) (off := 9) (pc := 15) (lo := [some (.ref 0), some (.int x1), some (.int x2), some (.int x3)]) (x := x2) (y := 2) (r := []) (by rw [c2_gt]; exact decide_eq_true (by show (2 : Int) < x2.toInt; omega)) (by decide))) ?_
    refine Go.next (f' := (25, [some (.ref 0), some (.int x1), some (.int x2), some (.int x3)], [.int (-1)])) (w' := fr_w) ((ex_stp (ins := .iconst (-1)) rfl).trans rfl) ?_
    exact Go.ret ((ex_stp (ins := .ireturn) rfl).trans rfl)
  · show Go [] 39 mt_74 (0, [some (.ref 59), some (.int x1), some (.int x2), some (.int x3), none], []) fr_w _
    refine Go.next (f' := (1, [some (.ref 59), some (.int x1), some (.int x2), some (.int x3), none], [.int x1])) (w' := fr_w) ((ex_stp (ins := .iload_n 1) rfl).trans rfl) ?_
    refine Go.next (f' := (2, [some (.ref 59), some (.int x1), some (.int x2), some (.int x3), none], [.int x2, .int x1])) (w' := fr_w) ((ex_stp (ins := .iload_n 2) rfl).trans rfl) ?_
    have h_172 : Go [] 38 mt_147 (ex_ent mt_147 [.int x1, .int x2]) fr_w (some (.int 0), fr_w) := by
      show Go [] 38 mt_147 (0, [some (.int x1), some (.int x2)], []) fr_w _
      refine Go.next (f' := (1, [some (.int x1), some (.int x2)], [.int x1])) (w' := fr_w) ((ex_stp (ins := .iload_n 0) rfl).trans rfl) ?_
      refine Go.next (f' := (2, [some (.int x1), some (.int x2)], [.long (x1).toInt64])) (w' := fr_w) ((ex_stp (ins := .i2l) rfl).trans rfl) ?_
      refine Go.next (f' := (3, [some (.int x1), some (.int x2)], [.long 0, .long (x1).toInt64])) (w' := fr_w) ((ex_stp (ins := .lconst 0) rfl).trans rfl) ?_
      refine Go.next (f' := (6, [some (.int x1), some (.int x2)], [.long 3, .long 0, .long (x1).toInt64])) (w' := fr_w) ((ex_stp (ins := .ldc2_w 250) rfl).trans rfl) ?_
      have h_173 : Go [] 37 mt_93 (ex_ent mt_93 [.long (x1).toInt64, .long 0, .long 3]) fr_w (some (.int 1), fr_w) := by
        show Go [] 37 mt_93 (0, [some (.long (x1).toInt64), none, some (.long 0), none, some (.long 3), none], []) fr_w _
        refine Go.next (f' := (1, [some (.long (x1).toInt64), none, some (.long 0), none, some (.long 3), none], [.long (x1).toInt64])) (w' := fr_w) ((ex_stp (ins := .lload_n 0) rfl).trans rfl) ?_
        refine Go.next (f' := (2, [some (.long (x1).toInt64), none, some (.long 0), none, some (.long 3), none], [.long 0, .long (x1).toInt64])) (w' := fr_w) ((ex_stp (ins := .lload_n 2) rfl).trans rfl) ?_
        refine Go.next (f' := (3, [some (.long (x1).toInt64), none, some (.long 0), none, some (.long 3), none], [.int (lg_cmp (x1).toInt64 0)])) (w' := fr_w) ((ex_stp (ins := .lcmp) rfl).trans rfl) ?_
        refine Go.next (f' := (6, [some (.long (x1).toInt64), none, some (.long 0), none, some (.long 3), none], [])) (w' := fr_w) ((ex_stp (ins := .ifCond .lt 14) rfl).trans (ex_b0_f (c := .lt) (off := 14) (pc := 3) (lo := [some (.long (x1).toInt64), none, some (.long 0), none, some (.long 3), none]) (x := (lg_cmp (x1).toInt64 0)) (r := []) (by rw [cl_lt]; exact decide_eq_false (by first | (rw [Int32.toInt_toInt64]; show ¬ (x1.toInt < (0 : Int)); omega) | omega)) (by decide))) ?_
        refine Go.next (f' := (7, [some (.long (x1).toInt64), none, some (.long 0), none, some (.long 3), none], [.long (x1).toInt64])) (w' := fr_w) ((ex_stp (ins := .lload_n 0) rfl).trans rfl) ?_
        refine Go.next (f' := (9, [some (.long (x1).toInt64), none, some (.long 0), none, some (.long 3), none], [.long 3, .long (x1).toInt64])) (w' := fr_w) ((ex_stp (ins := .lload 4) rfl).trans rfl) ?_
        refine Go.next (f' := (10, [some (.long (x1).toInt64), none, some (.long 0), none, some (.long 3), none], [.int (lg_cmp (x1).toInt64 3)])) (w' := fr_w) ((ex_stp (ins := .lcmp) rfl).trans rfl) ?_
        refine Go.next (f' := (13, [some (.long (x1).toInt64), none, some (.long 0), none, some (.long 3), none], [])) (w' := fr_w) ((ex_stp (ins := .ifCond .gt 7) rfl).trans (ex_b0_f (c := .gt) (off := 7) (pc := 10) (lo := [some (.long (x1).toInt64), none, some (.long 0), none, some (.long 3), none]) (x := (lg_cmp (x1).toInt64 3)) (r := []) (by rw [cl_gt]; exact decide_eq_false (by first | (rw [Int32.toInt_toInt64]; show ¬ ((3 : Int) < x1.toInt); omega) | omega)) (by decide))) ?_
        refine Go.next (f' := (14, [some (.long (x1).toInt64), none, some (.long 0), none, some (.long 3), none], [.int 1])) (w' := fr_w) ((ex_stp (ins := .iconst 1) rfl).trans rfl) ?_
        refine Go.next (f' := (18, [some (.long (x1).toInt64), none, some (.long 0), none, some (.long 3), none], [.int 1])) (w' := fr_w) ((ex_stp (ins := .goto 4) rfl).trans rfl) ?_
        exact Go.ret ((ex_stp (ins := .ireturn) rfl).trans rfl)
      refine Go.call (d := 37) (cal := 93) (as := [.long (x1).toInt64, .long 0, .long 3]) (g := (9, [some (.int x1), some (.int x2)], [])) (M' := mt_93) (r := some (.int 1)) (w' := fr_w) ((ex_stp (ins := .invokestatic 95) rfl).trans rfl) rfl (Nat.le_of_ble_eq_true rfl) h_173 ?_
      show Go [] 38 mt_147 (9, [some (.int x1), some (.int x2)], [.int 1]) fr_w _
      refine Go.next (f' := (12, [some (.int x1), some (.int x2)], [])) (w' := fr_w) ((ex_stp (ins := .ifCond .eq 19) rfl).trans rfl) ?_
      refine Go.next (f' := (13, [some (.int x1), some (.int x2)], [.int x2])) (w' := fr_w) ((ex_stp (ins := .iload_n 1) rfl).trans rfl) ?_
      refine Go.next (f' := (14, [some (.int x1), some (.int x2)], [.long (x2).toInt64])) (w' := fr_w) ((ex_stp (ins := .i2l) rfl).trans rfl) ?_
      refine Go.next (f' := (15, [some (.int x1), some (.int x2)], [.long 0, .long (x2).toInt64])) (w' := fr_w) ((ex_stp (ins := .lconst 0) rfl).trans rfl) ?_
      refine Go.next (f' := (18, [some (.int x1), some (.int x2)], [.long 2, .long 0, .long (x2).toInt64])) (w' := fr_w) ((ex_stp (ins := .ldc2_w 192) rfl).trans rfl) ?_
      have h_174 : Go [] 37 mt_93 (ex_ent mt_93 [.long (x2).toInt64, .long 0, .long 2]) fr_w (some (.int 0), fr_w) := by
        show Go [] 37 mt_93 (0, [some (.long (x2).toInt64), none, some (.long 0), none, some (.long 2), none], []) fr_w _
        refine Go.next (f' := (1, [some (.long (x2).toInt64), none, some (.long 0), none, some (.long 2), none], [.long (x2).toInt64])) (w' := fr_w) ((ex_stp (ins := .lload_n 0) rfl).trans rfl) ?_
        refine Go.next (f' := (2, [some (.long (x2).toInt64), none, some (.long 0), none, some (.long 2), none], [.long 0, .long (x2).toInt64])) (w' := fr_w) ((ex_stp (ins := .lload_n 2) rfl).trans rfl) ?_
        refine Go.next (f' := (3, [some (.long (x2).toInt64), none, some (.long 0), none, some (.long 2), none], [.int (lg_cmp (x2).toInt64 0)])) (w' := fr_w) ((ex_stp (ins := .lcmp) rfl).trans rfl) ?_
        refine Go.next (f' := (6, [some (.long (x2).toInt64), none, some (.long 0), none, some (.long 2), none], [])) (w' := fr_w) ((ex_stp (ins := .ifCond .lt 14) rfl).trans (ex_b0_f (c := .lt) (off := 14) (pc := 3) (lo := [some (.long (x2).toInt64), none, some (.long 0), none, some (.long 2), none]) (x := (lg_cmp (x2).toInt64 0)) (r := []) (by rw [cl_lt]; exact decide_eq_false (by first | (rw [Int32.toInt_toInt64]; show ¬ (x2.toInt < (0 : Int)); omega) | omega)) (by decide))) ?_
        refine Go.next (f' := (7, [some (.long (x2).toInt64), none, some (.long 0), none, some (.long 2), none], [.long (x2).toInt64])) (w' := fr_w) ((ex_stp (ins := .lload_n 0) rfl).trans rfl) ?_
        refine Go.next (f' := (9, [some (.long (x2).toInt64), none, some (.long 0), none, some (.long 2), none], [.long 2, .long (x2).toInt64])) (w' := fr_w) ((ex_stp (ins := .lload 4) rfl).trans rfl) ?_
        refine Go.next (f' := (10, [some (.long (x2).toInt64), none, some (.long 0), none, some (.long 2), none], [.int (lg_cmp (x2).toInt64 2)])) (w' := fr_w) ((ex_stp (ins := .lcmp) rfl).trans rfl) ?_
        refine Go.next (f' := (17, [some (.long (x2).toInt64), none, some (.long 0), none, some (.long 2), none], [])) (w' := fr_w) ((ex_stp (ins := .ifCond .gt 7) rfl).trans (ex_b0_t (c := .gt) (off := 7) (pc := 10) (lo := [some (.long (x2).toInt64), none, some (.long 0), none, some (.long 2), none]) (x := (lg_cmp (x2).toInt64 2)) (r := []) (by rw [cl_gt]; exact decide_eq_true (by first | (rw [Int32.toInt_toInt64]; show (2 : Int) < x2.toInt; omega) | omega)) (by decide))) ?_
        refine Go.next (f' := (18, [some (.long (x2).toInt64), none, some (.long 0), none, some (.long 2), none], [.int 0])) (w' := fr_w) ((ex_stp (ins := .iconst 0) rfl).trans rfl) ?_
        exact Go.ret ((ex_stp (ins := .ireturn) rfl).trans rfl)
      refine Go.call (d := 37) (cal := 93) (as := [.long (x2).toInt64, .long 0, .long 2]) (g := (21, [some (.int x1), some (.int x2)], [])) (M' := mt_93) (r := some (.int 0)) (w' := fr_w) ((ex_stp (ins := .invokestatic 95) rfl).trans rfl) rfl (Nat.le_of_ble_eq_true rfl) h_174 ?_
      show Go [] 38 mt_147 (21, [some (.int x1), some (.int x2)], [.int 0]) fr_w _
      refine Go.next (f' := (28, [some (.int x1), some (.int x2)], [])) (w' := fr_w) ((ex_stp (ins := .ifCond .eq 7) rfl).trans rfl) ?_
      refine Go.next (f' := (29, [some (.int x1), some (.int x2)], [.int 0])) (w' := fr_w) ((ex_stp (ins := .iconst 0) rfl).trans rfl) ?_
      exact Go.ret ((ex_stp (ins := .ireturn) rfl).trans rfl)
    refine Go.call (d := 38) (cal := 147) (as := [.int x1, .int x2]) (g := (5, [some (.ref 59), some (.int x1), some (.int x2), some (.int x3), none], [])) (M' := mt_147) (r := some (.int 0)) (w' := fr_w) ((ex_stp (ins := .invokestatic 287) rfl).trans rfl) rfl (Nat.le_of_ble_eq_true rfl) h_172 ?_
    show Go [] 39 mt_74 (5, [some (.ref 59), some (.int x1), some (.int x2), some (.int x3), none], [.int 0]) fr_w _
    refine Go.next (f' := (14, [some (.ref 59), some (.int x1), some (.int x2), some (.int x3), none], [])) (w' := fr_w) ((ex_stp (ins := .ifCond .eq 9) rfl).trans rfl) ?_
    refine Go.next (f' := (15, [some (.ref 59), some (.int x1), some (.int x2), some (.int x3), none], [.int (-1)])) (w' := fr_w) ((ex_stp (ins := .iconst (-1)) rfl).trans rfl) ?_
    exact Go.ret ((ex_stp (ins := .ireturn) rfl).trans rfl)
set_option maxRecDepth 100000 in
theorem ao_35_e (x1 x2 x3 : Int32) (g0 : 0 ≤ x1.toInt) (g1 : x1.toInt ≤ 3) (g2 : 0 ≤ x2.toInt) (g3 : x2.toInt ≤ 2) (g4 : 40 < x3.toInt) : A2 mt_73 mt_74 [.int x1, .int x2, .int x3] := by
  refine ⟨(-1), fr_w, fr_w, _, ?_, rfl, ?_⟩
  · show Go [] 39 mt_73 (0, [some (.ref 0), some (.int x1), some (.int x2), some (.int x3)], []) fr_w _
    refine Go.next (f' := (1, [some (.ref 0), some (.int x1), some (.int x2), some (.int x3)], [.int x1])) (w' := fr_w) ((ex_stp (ins := .iload_n 1) rfl).trans rfl) ?_
    refine Go.next (f' := (4, [some (.ref 0), some (.int x1), some (.int x2), some (.int x3)], [])) (w' := fr_w) ((ex_stp (ins := .ifCond .lt 23) rfl).trans (ex_b0_f (c := .lt) (off := 23) (pc := 1) (lo := [some (.ref 0), some (.int x1), some (.int x2), some (.int x3)]) (x := x1) (r := []) (by rw [c0_lt]; exact decide_eq_false (by show ¬ (x1.toInt < (0 : Int)); omega)) (by decide))) ?_
    refine Go.next (f' := (5, [some (.ref 0), some (.int x1), some (.int x2), some (.int x3)], [.int x1])) (w' := fr_w) ((ex_stp (ins := .iload_n 1) rfl).trans rfl) ?_
    refine Go.next (f' := (6, [some (.ref 0), some (.int x1), some (.int x2), some (.int x3)], [.int 4, .int x1])) (w' := fr_w) ((ex_stp (ins := .iconst 4) rfl).trans rfl) ?_
    refine Go.next (f' := (9, [some (.ref 0), some (.int x1), some (.int x2), some (.int x3)], [])) (w' := fr_w) ((ex_stp (ins := .if_icmp .ge 18) rfl).trans (ex_b2_f (c := .ge) (off := 18) (pc := 6) (lo := [some (.ref 0), some (.int x1), some (.int x2), some (.int x3)]) (x := x1) (y := 4) (r := []) (by rw [c2_ge]; exact decide_eq_false (by show ¬ ((4 : Int) ≤ x1.toInt); omega)) (by decide))) ?_
    refine Go.next (f' := (10, [some (.ref 0), some (.int x1), some (.int x2), some (.int x3)], [.int x2])) (w' := fr_w) ((ex_stp (ins := .iload_n 2) rfl).trans rfl) ?_
    refine Go.next (f' := (13, [some (.ref 0), some (.int x1), some (.int x2), some (.int x3)], [])) (w' := fr_w) ((ex_stp (ins := .ifCond .lt 14) rfl).trans (ex_b0_f (c := .lt) (off := 14) (pc := 10) (lo := [some (.ref 0), some (.int x1), some (.int x2), some (.int x3)]) (x := x2) (r := []) (by rw [c0_lt]; exact decide_eq_false (by show ¬ (x2.toInt < (0 : Int)); omega)) (by decide))) ?_
    refine Go.next (f' := (14, [some (.ref 0), some (.int x1), some (.int x2), some (.int x3)], [.int x2])) (w' := fr_w) ((ex_stp (ins := .iload_n 2) rfl).trans rfl) ?_
    refine Go.next (f' := (15, [some (.ref 0), some (.int x1), some (.int x2), some (.int x3)], [.int 2, .int x2])) (w' := fr_w) ((ex_stp (ins := .iconst 2) rfl).trans rfl) ?_
    refine Go.next (f' := (18, [some (.ref 0), some (.int x1), some (.int x2), some (.int x3)], [])) (w' := fr_w) ((ex_stp (ins := .if_icmp .gt 9) rfl).trans (ex_b2_f (c := .gt) (off := 9) (pc := 15) (lo := [some (.ref 0), some (.int x1), some (.int x2), some (.int x3)]) (x := x2) (y := 2) (r := []) (by rw [c2_gt]; exact decide_eq_false (by show ¬ ((2 : Int) < x2.toInt); omega)) (by decide))) ?_
    refine Go.next (f' := (19, [some (.ref 0), some (.int x1), some (.int x2), some (.int x3)], [.int x3])) (w' := fr_w) ((ex_stp (ins := .iload_n 3) rfl).trans rfl) ?_
    refine Go.next (f' := (21, [some (.ref 0), some (.int x1), some (.int x2), some (.int x3)], [.int 40, .int x3])) (w' := fr_w) ((ex_stp (ins := .bipush 40) rfl).trans rfl) ?_
    refine Go.next (f' := (24, [some (.ref 0), some (.int x1), some (.int x2), some (.int x3)], [])) (w' := fr_w) ((ex_stp (ins := .if_icmp .le 5) rfl).trans (ex_b2_f (c := .le) (off := 5) (pc := 21) (lo := [some (.ref 0), some (.int x1), some (.int x2), some (.int x3)]) (x := x3) (y := 40) (r := []) (by rw [c2_le]; exact decide_eq_false (by show ¬ (x3.toInt ≤ (40 : Int)); omega)) (by decide))) ?_
    refine Go.next (f' := (25, [some (.ref 0), some (.int x1), some (.int x2), some (.int x3)], [.int (-1)])) (w' := fr_w) ((ex_stp (ins := .iconst (-1)) rfl).trans rfl) ?_
    exact Go.ret ((ex_stp (ins := .ireturn) rfl).trans rfl)
  · show Go [] 39 mt_74 (0, [some (.ref 59), some (.int x1), some (.int x2), some (.int x3), none], []) fr_w _
    refine Go.next (f' := (1, [some (.ref 59), some (.int x1), some (.int x2), some (.int x3), none], [.int x1])) (w' := fr_w) ((ex_stp (ins := .iload_n 1) rfl).trans rfl) ?_
    refine Go.next (f' := (2, [some (.ref 59), some (.int x1), some (.int x2), some (.int x3), none], [.int x2, .int x1])) (w' := fr_w) ((ex_stp (ins := .iload_n 2) rfl).trans rfl) ?_
    have h_175 : Go [] 38 mt_147 (ex_ent mt_147 [.int x1, .int x2]) fr_w (some (.int 1), fr_w) := by
      show Go [] 38 mt_147 (0, [some (.int x1), some (.int x2)], []) fr_w _
      refine Go.next (f' := (1, [some (.int x1), some (.int x2)], [.int x1])) (w' := fr_w) ((ex_stp (ins := .iload_n 0) rfl).trans rfl) ?_
      refine Go.next (f' := (2, [some (.int x1), some (.int x2)], [.long (x1).toInt64])) (w' := fr_w) ((ex_stp (ins := .i2l) rfl).trans rfl) ?_
      refine Go.next (f' := (3, [some (.int x1), some (.int x2)], [.long 0, .long (x1).toInt64])) (w' := fr_w) ((ex_stp (ins := .lconst 0) rfl).trans rfl) ?_
      refine Go.next (f' := (6, [some (.int x1), some (.int x2)], [.long 3, .long 0, .long (x1).toInt64])) (w' := fr_w) ((ex_stp (ins := .ldc2_w 250) rfl).trans rfl) ?_
      have h_176 : Go [] 37 mt_93 (ex_ent mt_93 [.long (x1).toInt64, .long 0, .long 3]) fr_w (some (.int 1), fr_w) := by
        show Go [] 37 mt_93 (0, [some (.long (x1).toInt64), none, some (.long 0), none, some (.long 3), none], []) fr_w _
        refine Go.next (f' := (1, [some (.long (x1).toInt64), none, some (.long 0), none, some (.long 3), none], [.long (x1).toInt64])) (w' := fr_w) ((ex_stp (ins := .lload_n 0) rfl).trans rfl) ?_
        refine Go.next (f' := (2, [some (.long (x1).toInt64), none, some (.long 0), none, some (.long 3), none], [.long 0, .long (x1).toInt64])) (w' := fr_w) ((ex_stp (ins := .lload_n 2) rfl).trans rfl) ?_
        refine Go.next (f' := (3, [some (.long (x1).toInt64), none, some (.long 0), none, some (.long 3), none], [.int (lg_cmp (x1).toInt64 0)])) (w' := fr_w) ((ex_stp (ins := .lcmp) rfl).trans rfl) ?_
        refine Go.next (f' := (6, [some (.long (x1).toInt64), none, some (.long 0), none, some (.long 3), none], [])) (w' := fr_w) ((ex_stp (ins := .ifCond .lt 14) rfl).trans (ex_b0_f (c := .lt) (off := 14) (pc := 3) (lo := [some (.long (x1).toInt64), none, some (.long 0), none, some (.long 3), none]) (x := (lg_cmp (x1).toInt64 0)) (r := []) (by rw [cl_lt]; exact decide_eq_false (by first | (rw [Int32.toInt_toInt64]; show ¬ (x1.toInt < (0 : Int)); omega) | omega)) (by decide))) ?_
        refine Go.next (f' := (7, [some (.long (x1).toInt64), none, some (.long 0), none, some (.long 3), none], [.long (x1).toInt64])) (w' := fr_w) ((ex_stp (ins := .lload_n 0) rfl).trans rfl) ?_
        refine Go.next (f' := (9, [some (.long (x1).toInt64), none, some (.long 0), none, some (.long 3), none], [.long 3, .long (x1).toInt64])) (w' := fr_w) ((ex_stp (ins := .lload 4) rfl).trans rfl) ?_
        refine Go.next (f' := (10, [some (.long (x1).toInt64), none, some (.long 0), none, some (.long 3), none], [.int (lg_cmp (x1).toInt64 3)])) (w' := fr_w) ((ex_stp (ins := .lcmp) rfl).trans rfl) ?_
        refine Go.next (f' := (13, [some (.long (x1).toInt64), none, some (.long 0), none, some (.long 3), none], [])) (w' := fr_w) ((ex_stp (ins := .ifCond .gt 7) rfl).trans (ex_b0_f (c := .gt) (off := 7) (pc := 10) (lo := [some (.long (x1).toInt64), none, some (.long 0), none, some (.long 3), none]) (x := (lg_cmp (x1).toInt64 3)) (r := []) (by rw [cl_gt]; exact decide_eq_false (by first | (rw [Int32.toInt_toInt64]; show ¬ ((3 : Int) < x1.toInt); omega) | omega)) (by decide))) ?_
        refine Go.next (f' := (14, [some (.long (x1).toInt64), none, some (.long 0), none, some (.long 3), none], [.int 1])) (w' := fr_w) ((ex_stp (ins := .iconst 1) rfl).trans rfl) ?_
        refine Go.next (f' := (18, [some (.long (x1).toInt64), none, some (.long 0), none, some (.long 3), none], [.int 1])) (w' := fr_w) ((ex_stp (ins := .goto 4) rfl).trans rfl) ?_
        exact Go.ret ((ex_stp (ins := .ireturn) rfl).trans rfl)
      refine Go.call (d := 37) (cal := 93) (as := [.long (x1).toInt64, .long 0, .long 3]) (g := (9, [some (.int x1), some (.int x2)], [])) (M' := mt_93) (r := some (.int 1)) (w' := fr_w) ((ex_stp (ins := .invokestatic 95) rfl).trans rfl) rfl (Nat.le_of_ble_eq_true rfl) h_176 ?_
      show Go [] 38 mt_147 (9, [some (.int x1), some (.int x2)], [.int 1]) fr_w _
      refine Go.next (f' := (12, [some (.int x1), some (.int x2)], [])) (w' := fr_w) ((ex_stp (ins := .ifCond .eq 19) rfl).trans rfl) ?_
      refine Go.next (f' := (13, [some (.int x1), some (.int x2)], [.int x2])) (w' := fr_w) ((ex_stp (ins := .iload_n 1) rfl).trans rfl) ?_
      refine Go.next (f' := (14, [some (.int x1), some (.int x2)], [.long (x2).toInt64])) (w' := fr_w) ((ex_stp (ins := .i2l) rfl).trans rfl) ?_
      refine Go.next (f' := (15, [some (.int x1), some (.int x2)], [.long 0, .long (x2).toInt64])) (w' := fr_w) ((ex_stp (ins := .lconst 0) rfl).trans rfl) ?_
      refine Go.next (f' := (18, [some (.int x1), some (.int x2)], [.long 2, .long 0, .long (x2).toInt64])) (w' := fr_w) ((ex_stp (ins := .ldc2_w 192) rfl).trans rfl) ?_
      have h_177 : Go [] 37 mt_93 (ex_ent mt_93 [.long (x2).toInt64, .long 0, .long 2]) fr_w (some (.int 1), fr_w) := by
        show Go [] 37 mt_93 (0, [some (.long (x2).toInt64), none, some (.long 0), none, some (.long 2), none], []) fr_w _
        refine Go.next (f' := (1, [some (.long (x2).toInt64), none, some (.long 0), none, some (.long 2), none], [.long (x2).toInt64])) (w' := fr_w) ((ex_stp (ins := .lload_n 0) rfl).trans rfl) ?_
        refine Go.next (f' := (2, [some (.long (x2).toInt64), none, some (.long 0), none, some (.long 2), none], [.long 0, .long (x2).toInt64])) (w' := fr_w) ((ex_stp (ins := .lload_n 2) rfl).trans rfl) ?_
        refine Go.next (f' := (3, [some (.long (x2).toInt64), none, some (.long 0), none, some (.long 2), none], [.int (lg_cmp (x2).toInt64 0)])) (w' := fr_w) ((ex_stp (ins := .lcmp) rfl).trans rfl) ?_
        refine Go.next (f' := (6, [some (.long (x2).toInt64), none, some (.long 0), none, some (.long 2), none], [])) (w' := fr_w) ((ex_stp (ins := .ifCond .lt 14) rfl).trans (ex_b0_f (c := .lt) (off := 14) (pc := 3) (lo := [some (.long (x2).toInt64), none, some (.long 0), none, some (.long 2), none]) (x := (lg_cmp (x2).toInt64 0)) (r := []) (by rw [cl_lt]; exact decide_eq_false (by first | (rw [Int32.toInt_toInt64]; show ¬ (x2.toInt < (0 : Int)); omega) | omega)) (by decide))) ?_
        refine Go.next (f' := (7, [some (.long (x2).toInt64), none, some (.long 0), none, some (.long 2), none], [.long (x2).toInt64])) (w' := fr_w) ((ex_stp (ins := .lload_n 0) rfl).trans rfl) ?_
        refine Go.next (f' := (9, [some (.long (x2).toInt64), none, some (.long 0), none, some (.long 2), none], [.long 2, .long (x2).toInt64])) (w' := fr_w) ((ex_stp (ins := .lload 4) rfl).trans rfl) ?_
        refine Go.next (f' := (10, [some (.long (x2).toInt64), none, some (.long 0), none, some (.long 2), none], [.int (lg_cmp (x2).toInt64 2)])) (w' := fr_w) ((ex_stp (ins := .lcmp) rfl).trans rfl) ?_
        refine Go.next (f' := (13, [some (.long (x2).toInt64), none, some (.long 0), none, some (.long 2), none], [])) (w' := fr_w) ((ex_stp (ins := .ifCond .gt 7) rfl).trans (ex_b0_f (c := .gt) (off := 7) (pc := 10) (lo := [some (.long (x2).toInt64), none, some (.long 0), none, some (.long 2), none]) (x := (lg_cmp (x2).toInt64 2)) (r := []) (by rw [cl_gt]; exact decide_eq_false (by first | (rw [Int32.toInt_toInt64]; show ¬ ((2 : Int) < x2.toInt); omega) | omega)) (by decide))) ?_
        refine Go.next (f' := (14, [some (.long (x2).toInt64), none, some (.long 0), none, some (.long 2), none], [.int 1])) (w' := fr_w) ((ex_stp (ins := .iconst 1) rfl).trans rfl) ?_
        refine Go.next (f' := (18, [some (.long (x2).toInt64), none, some (.long 0), none, some (.long 2), none], [.int 1])) (w' := fr_w) ((ex_stp (ins := .goto 4) rfl).trans rfl) ?_
        exact Go.ret ((ex_stp (ins := .ireturn) rfl).trans rfl)
      refine Go.call (d := 37) (cal := 93) (as := [.long (x2).toInt64, .long 0, .long 2]) (g := (21, [some (.int x1), some (.int x2)], [])) (M' := mt_93) (r := some (.int 1)) (w' := fr_w) ((ex_stp (ins := .invokestatic 95) rfl).trans rfl) rfl (Nat.le_of_ble_eq_true rfl) h_177 ?_
      show Go [] 38 mt_147 (21, [some (.int x1), some (.int x2)], [.int 1]) fr_w _
      refine Go.next (f' := (24, [some (.int x1), some (.int x2)], [])) (w' := fr_w) ((ex_stp (ins := .ifCond .eq 7) rfl).trans rfl) ?_
      refine Go.next (f' := (25, [some (.int x1), some (.int x2)], [.int 1])) (w' := fr_w) ((ex_stp (ins := .iconst 1) rfl).trans rfl) ?_
      refine Go.next (f' := (29, [some (.int x1), some (.int x2)], [.int 1])) (w' := fr_w) ((ex_stp (ins := .goto 4) rfl).trans rfl) ?_
      exact Go.ret ((ex_stp (ins := .ireturn) rfl).trans rfl)
    refine Go.call (d := 38) (cal := 147) (as := [.int x1, .int x2]) (g := (5, [some (.ref 59), some (.int x1), some (.int x2), some (.int x3), none], [])) (M' := mt_147) (r := some (.int 1)) (w' := fr_w) ((ex_stp (ins := .invokestatic 287) rfl).trans rfl) rfl (Nat.le_of_ble_eq_true rfl) h_175 ?_
    show Go [] 39 mt_74 (5, [some (.ref 59), some (.int x1), some (.int x2), some (.int x3), none], [.int 1]) fr_w _
    refine Go.next (f' := (8, [some (.ref 59), some (.int x1), some (.int x2), some (.int x3), none], [])) (w' := fr_w) ((ex_stp (ins := .ifCond .eq 9) rfl).trans rfl) ?_
    refine Go.next (f' := (9, [some (.ref 59), some (.int x1), some (.int x2), some (.int x3), none], [.int x3])) (w' := fr_w) ((ex_stp (ins := .iload_n 3) rfl).trans rfl) ?_
    refine Go.next (f' := (11, [some (.ref 59), some (.int x1), some (.int x2), some (.int x3), none], [.int 40, .int x3])) (w' := fr_w) ((ex_stp (ins := .bipush 40) rfl).trans rfl) ?_
    refine Go.next (f' := (14, [some (.ref 59), some (.int x1), some (.int x2), some (.int x3), none], [])) (w' := fr_w) ((ex_stp (ins := .if_icmp .le 5) rfl).trans (ex_b2_f (c := .le) (off := 5) (pc := 11) (lo := [some (.ref 59), some (.int x1), some (.int x2), some (.int x3), none]) (x := x3) (y := 40) (r := []) (by rw [c2_le]; exact decide_eq_false (by show ¬ (x3.toInt ≤ (40 : Int)); omega)) (by decide))) ?_
    refine Go.next (f' := (15, [some (.ref 59), some (.int x1), some (.int x2), some (.int x3), none], [.int (-1)])) (w' := fr_w) ((ex_stp (ins := .iconst (-1)) rfl).trans rfl) ?_
    exact Go.ret ((ex_stp (ins := .ireturn) rfl).trans rfl)
set_option maxRecDepth 100000 in
theorem ao_35_f (x1 x2 x3 : Int32) (g0 : 0 ≤ x1.toInt) (g1 : x1.toInt ≤ 3) (g2 : 0 ≤ x2.toInt) (g3 : x2.toInt ≤ 2) (g4 : x3.toInt < 0) : A2 mt_73 mt_74 [.int x1, .int x2, .int x3] := by
  refine ⟨(-14), fr_w, fr_w, _, ?_, rfl, ?_⟩
  · show Go [] 39 mt_73 (0, [some (.ref 0), some (.int x1), some (.int x2), some (.int x3)], []) fr_w _
    refine Go.next (f' := (1, [some (.ref 0), some (.int x1), some (.int x2), some (.int x3)], [.int x1])) (w' := fr_w) ((ex_stp (ins := .iload_n 1) rfl).trans rfl) ?_
    refine Go.next (f' := (4, [some (.ref 0), some (.int x1), some (.int x2), some (.int x3)], [])) (w' := fr_w) ((ex_stp (ins := .ifCond .lt 23) rfl).trans (ex_b0_f (c := .lt) (off := 23) (pc := 1) (lo := [some (.ref 0), some (.int x1), some (.int x2), some (.int x3)]) (x := x1) (r := []) (by rw [c0_lt]; exact decide_eq_false (by show ¬ (x1.toInt < (0 : Int)); omega)) (by decide))) ?_
    refine Go.next (f' := (5, [some (.ref 0), some (.int x1), some (.int x2), some (.int x3)], [.int x1])) (w' := fr_w) ((ex_stp (ins := .iload_n 1) rfl).trans rfl) ?_
    refine Go.next (f' := (6, [some (.ref 0), some (.int x1), some (.int x2), some (.int x3)], [.int 4, .int x1])) (w' := fr_w) ((ex_stp (ins := .iconst 4) rfl).trans rfl) ?_
    refine Go.next (f' := (9, [some (.ref 0), some (.int x1), some (.int x2), some (.int x3)], [])) (w' := fr_w) ((ex_stp (ins := .if_icmp .ge 18) rfl).trans (ex_b2_f (c := .ge) (off := 18) (pc := 6) (lo := [some (.ref 0), some (.int x1), some (.int x2), some (.int x3)]) (x := x1) (y := 4) (r := []) (by rw [c2_ge]; exact decide_eq_false (by show ¬ ((4 : Int) ≤ x1.toInt); omega)) (by decide))) ?_
    refine Go.next (f' := (10, [some (.ref 0), some (.int x1), some (.int x2), some (.int x3)], [.int x2])) (w' := fr_w) ((ex_stp (ins := .iload_n 2) rfl).trans rfl) ?_
    refine Go.next (f' := (13, [some (.ref 0), some (.int x1), some (.int x2), some (.int x3)], [])) (w' := fr_w) ((ex_stp (ins := .ifCond .lt 14) rfl).trans (ex_b0_f (c := .lt) (off := 14) (pc := 10) (lo := [some (.ref 0), some (.int x1), some (.int x2), some (.int x3)]) (x := x2) (r := []) (by rw [c0_lt]; exact decide_eq_false (by show ¬ (x2.toInt < (0 : Int)); omega)) (by decide))) ?_
    refine Go.next (f' := (14, [some (.ref 0), some (.int x1), some (.int x2), some (.int x3)], [.int x2])) (w' := fr_w) ((ex_stp (ins := .iload_n 2) rfl).trans rfl) ?_
    refine Go.next (f' := (15, [some (.ref 0), some (.int x1), some (.int x2), some (.int x3)], [.int 2, .int x2])) (w' := fr_w) ((ex_stp (ins := .iconst 2) rfl).trans rfl) ?_
    refine Go.next (f' := (18, [some (.ref 0), some (.int x1), some (.int x2), some (.int x3)], [])) (w' := fr_w) ((ex_stp (ins := .if_icmp .gt 9) rfl).trans (ex_b2_f (c := .gt) (off := 9) (pc := 15) (lo := [some (.ref 0), some (.int x1), some (.int x2), some (.int x3)]) (x := x2) (y := 2) (r := []) (by rw [c2_gt]; exact decide_eq_false (by show ¬ ((2 : Int) < x2.toInt); omega)) (by decide))) ?_
    refine Go.next (f' := (19, [some (.ref 0), some (.int x1), some (.int x2), some (.int x3)], [.int x3])) (w' := fr_w) ((ex_stp (ins := .iload_n 3) rfl).trans rfl) ?_
    refine Go.next (f' := (21, [some (.ref 0), some (.int x1), some (.int x2), some (.int x3)], [.int 40, .int x3])) (w' := fr_w) ((ex_stp (ins := .bipush 40) rfl).trans rfl) ?_
    refine Go.next (f' := (26, [some (.ref 0), some (.int x1), some (.int x2), some (.int x3)], [])) (w' := fr_w) ((ex_stp (ins := .if_icmp .le 5) rfl).trans (ex_b2_t (c := .le) (off := 5) (pc := 21) (lo := [some (.ref 0), some (.int x1), some (.int x2), some (.int x3)]) (x := x3) (y := 40) (r := []) (by rw [c2_le]; exact decide_eq_true (by show x3.toInt ≤ (40 : Int); omega)) (by decide))) ?_
    refine Go.next (f' := (27, [some (.ref 0), some (.int x1), some (.int x2), some (.int x3)], [.int x3])) (w' := fr_w) ((ex_stp (ins := .iload_n 3) rfl).trans rfl) ?_
    refine Go.next (f' := (30, [some (.ref 0), some (.int x1), some (.int x2), some (.int x3)], [])) (w' := fr_w) ((ex_stp (ins := .ifCond .ge 6) rfl).trans (ex_b0_f (c := .ge) (off := 6) (pc := 27) (lo := [some (.ref 0), some (.int x1), some (.int x2), some (.int x3)]) (x := x3) (r := []) (by rw [c0_ge]; exact decide_eq_false (by show ¬ ((0 : Int) ≤ x3.toInt); omega)) (by decide))) ?_
    refine Go.next (f' := (32, [some (.ref 0), some (.int x1), some (.int x2), some (.int x3)], [.int (-14)])) (w' := fr_w) ((ex_stp (ins := .bipush (-14)) rfl).trans rfl) ?_
    exact Go.ret ((ex_stp (ins := .ireturn) rfl).trans rfl)
  · show Go [] 39 mt_74 (0, [some (.ref 59), some (.int x1), some (.int x2), some (.int x3), none], []) fr_w _
    refine Go.next (f' := (1, [some (.ref 59), some (.int x1), some (.int x2), some (.int x3), none], [.int x1])) (w' := fr_w) ((ex_stp (ins := .iload_n 1) rfl).trans rfl) ?_
    refine Go.next (f' := (2, [some (.ref 59), some (.int x1), some (.int x2), some (.int x3), none], [.int x2, .int x1])) (w' := fr_w) ((ex_stp (ins := .iload_n 2) rfl).trans rfl) ?_
    have h_178 : Go [] 38 mt_147 (ex_ent mt_147 [.int x1, .int x2]) fr_w (some (.int 1), fr_w) := by
      show Go [] 38 mt_147 (0, [some (.int x1), some (.int x2)], []) fr_w _
      refine Go.next (f' := (1, [some (.int x1), some (.int x2)], [.int x1])) (w' := fr_w) ((ex_stp (ins := .iload_n 0) rfl).trans rfl) ?_
      refine Go.next (f' := (2, [some (.int x1), some (.int x2)], [.long (x1).toInt64])) (w' := fr_w) ((ex_stp (ins := .i2l) rfl).trans rfl) ?_
      refine Go.next (f' := (3, [some (.int x1), some (.int x2)], [.long 0, .long (x1).toInt64])) (w' := fr_w) ((ex_stp (ins := .lconst 0) rfl).trans rfl) ?_
      refine Go.next (f' := (6, [some (.int x1), some (.int x2)], [.long 3, .long 0, .long (x1).toInt64])) (w' := fr_w) ((ex_stp (ins := .ldc2_w 250) rfl).trans rfl) ?_
      have h_179 : Go [] 37 mt_93 (ex_ent mt_93 [.long (x1).toInt64, .long 0, .long 3]) fr_w (some (.int 1), fr_w) := by
        show Go [] 37 mt_93 (0, [some (.long (x1).toInt64), none, some (.long 0), none, some (.long 3), none], []) fr_w _
        refine Go.next (f' := (1, [some (.long (x1).toInt64), none, some (.long 0), none, some (.long 3), none], [.long (x1).toInt64])) (w' := fr_w) ((ex_stp (ins := .lload_n 0) rfl).trans rfl) ?_
        refine Go.next (f' := (2, [some (.long (x1).toInt64), none, some (.long 0), none, some (.long 3), none], [.long 0, .long (x1).toInt64])) (w' := fr_w) ((ex_stp (ins := .lload_n 2) rfl).trans rfl) ?_
        refine Go.next (f' := (3, [some (.long (x1).toInt64), none, some (.long 0), none, some (.long 3), none], [.int (lg_cmp (x1).toInt64 0)])) (w' := fr_w) ((ex_stp (ins := .lcmp) rfl).trans rfl) ?_
        refine Go.next (f' := (6, [some (.long (x1).toInt64), none, some (.long 0), none, some (.long 3), none], [])) (w' := fr_w) ((ex_stp (ins := .ifCond .lt 14) rfl).trans (ex_b0_f (c := .lt) (off := 14) (pc := 3) (lo := [some (.long (x1).toInt64), none, some (.long 0), none, some (.long 3), none]) (x := (lg_cmp (x1).toInt64 0)) (r := []) (by rw [cl_lt]; exact decide_eq_false (by first | (rw [Int32.toInt_toInt64]; show ¬ (x1.toInt < (0 : Int)); omega) | omega)) (by decide))) ?_
        refine Go.next (f' := (7, [some (.long (x1).toInt64), none, some (.long 0), none, some (.long 3), none], [.long (x1).toInt64])) (w' := fr_w) ((ex_stp (ins := .lload_n 0) rfl).trans rfl) ?_
        refine Go.next (f' := (9, [some (.long (x1).toInt64), none, some (.long 0), none, some (.long 3), none], [.long 3, .long (x1).toInt64])) (w' := fr_w) ((ex_stp (ins := .lload 4) rfl).trans rfl) ?_
        refine Go.next (f' := (10, [some (.long (x1).toInt64), none, some (.long 0), none, some (.long 3), none], [.int (lg_cmp (x1).toInt64 3)])) (w' := fr_w) ((ex_stp (ins := .lcmp) rfl).trans rfl) ?_
        refine Go.next (f' := (13, [some (.long (x1).toInt64), none, some (.long 0), none, some (.long 3), none], [])) (w' := fr_w) ((ex_stp (ins := .ifCond .gt 7) rfl).trans (ex_b0_f (c := .gt) (off := 7) (pc := 10) (lo := [some (.long (x1).toInt64), none, some (.long 0), none, some (.long 3), none]) (x := (lg_cmp (x1).toInt64 3)) (r := []) (by rw [cl_gt]; exact decide_eq_false (by first | (rw [Int32.toInt_toInt64]; show ¬ ((3 : Int) < x1.toInt); omega) | omega)) (by decide))) ?_
        refine Go.next (f' := (14, [some (.long (x1).toInt64), none, some (.long 0), none, some (.long 3), none], [.int 1])) (w' := fr_w) ((ex_stp (ins := .iconst 1) rfl).trans rfl) ?_
        refine Go.next (f' := (18, [some (.long (x1).toInt64), none, some (.long 0), none, some (.long 3), none], [.int 1])) (w' := fr_w) ((ex_stp (ins := .goto 4) rfl).trans rfl) ?_
        exact Go.ret ((ex_stp (ins := .ireturn) rfl).trans rfl)
      refine Go.call (d := 37) (cal := 93) (as := [.long (x1).toInt64, .long 0, .long 3]) (g := (9, [some (.int x1), some (.int x2)], [])) (M' := mt_93) (r := some (.int 1)) (w' := fr_w) ((ex_stp (ins := .invokestatic 95) rfl).trans rfl) rfl (Nat.le_of_ble_eq_true rfl) h_179 ?_
      show Go [] 38 mt_147 (9, [some (.int x1), some (.int x2)], [.int 1]) fr_w _
      refine Go.next (f' := (12, [some (.int x1), some (.int x2)], [])) (w' := fr_w) ((ex_stp (ins := .ifCond .eq 19) rfl).trans rfl) ?_
      refine Go.next (f' := (13, [some (.int x1), some (.int x2)], [.int x2])) (w' := fr_w) ((ex_stp (ins := .iload_n 1) rfl).trans rfl) ?_
      refine Go.next (f' := (14, [some (.int x1), some (.int x2)], [.long (x2).toInt64])) (w' := fr_w) ((ex_stp (ins := .i2l) rfl).trans rfl) ?_
      refine Go.next (f' := (15, [some (.int x1), some (.int x2)], [.long 0, .long (x2).toInt64])) (w' := fr_w) ((ex_stp (ins := .lconst 0) rfl).trans rfl) ?_
      refine Go.next (f' := (18, [some (.int x1), some (.int x2)], [.long 2, .long 0, .long (x2).toInt64])) (w' := fr_w) ((ex_stp (ins := .ldc2_w 192) rfl).trans rfl) ?_
      have h_180 : Go [] 37 mt_93 (ex_ent mt_93 [.long (x2).toInt64, .long 0, .long 2]) fr_w (some (.int 1), fr_w) := by
        show Go [] 37 mt_93 (0, [some (.long (x2).toInt64), none, some (.long 0), none, some (.long 2), none], []) fr_w _
        refine Go.next (f' := (1, [some (.long (x2).toInt64), none, some (.long 0), none, some (.long 2), none], [.long (x2).toInt64])) (w' := fr_w) ((ex_stp (ins := .lload_n 0) rfl).trans rfl) ?_
        refine Go.next (f' := (2, [some (.long (x2).toInt64), none, some (.long 0), none, some (.long 2), none], [.long 0, .long (x2).toInt64])) (w' := fr_w) ((ex_stp (ins := .lload_n 2) rfl).trans rfl) ?_
        refine Go.next (f' := (3, [some (.long (x2).toInt64), none, some (.long 0), none, some (.long 2), none], [.int (lg_cmp (x2).toInt64 0)])) (w' := fr_w) ((ex_stp (ins := .lcmp) rfl).trans rfl) ?_
        refine Go.next (f' := (6, [some (.long (x2).toInt64), none, some (.long 0), none, some (.long 2), none], [])) (w' := fr_w) ((ex_stp (ins := .ifCond .lt 14) rfl).trans (ex_b0_f (c := .lt) (off := 14) (pc := 3) (lo := [some (.long (x2).toInt64), none, some (.long 0), none, some (.long 2), none]) (x := (lg_cmp (x2).toInt64 0)) (r := []) (by rw [cl_lt]; exact decide_eq_false (by first | (rw [Int32.toInt_toInt64]; show ¬ (x2.toInt < (0 : Int)); omega) | omega)) (by decide))) ?_
        refine Go.next (f' := (7, [some (.long (x2).toInt64), none, some (.long 0), none, some (.long 2), none], [.long (x2).toInt64])) (w' := fr_w) ((ex_stp (ins := .lload_n 0) rfl).trans rfl) ?_
        refine Go.next (f' := (9, [some (.long (x2).toInt64), none, some (.long 0), none, some (.long 2), none], [.long 2, .long (x2).toInt64])) (w' := fr_w) ((ex_stp (ins := .lload 4) rfl).trans rfl) ?_
        refine Go.next (f' := (10, [some (.long (x2).toInt64), none, some (.long 0), none, some (.long 2), none], [.int (lg_cmp (x2).toInt64 2)])) (w' := fr_w) ((ex_stp (ins := .lcmp) rfl).trans rfl) ?_
        refine Go.next (f' := (13, [some (.long (x2).toInt64), none, some (.long 0), none, some (.long 2), none], [])) (w' := fr_w) ((ex_stp (ins := .ifCond .gt 7) rfl).trans (ex_b0_f (c := .gt) (off := 7) (pc := 10) (lo := [some (.long (x2).toInt64), none, some (.long 0), none, some (.long 2), none]) (x := (lg_cmp (x2).toInt64 2)) (r := []) (by rw [cl_gt]; exact decide_eq_false (by first | (rw [Int32.toInt_toInt64]; show ¬ ((2 : Int) < x2.toInt); omega) | omega)) (by decide))) ?_
        refine Go.next (f' := (14, [some (.long (x2).toInt64), none, some (.long 0), none, some (.long 2), none], [.int 1])) (w' := fr_w) ((ex_stp (ins := .iconst 1) rfl).trans rfl) ?_
        refine Go.next (f' := (18, [some (.long (x2).toInt64), none, some (.long 0), none, some (.long 2), none], [.int 1])) (w' := fr_w) ((ex_stp (ins := .goto 4) rfl).trans rfl) ?_
        exact Go.ret ((ex_stp (ins := .ireturn) rfl).trans rfl)
      refine Go.call (d := 37) (cal := 93) (as := [.long (x2).toInt64, .long 0, .long 2]) (g := (21, [some (.int x1), some (.int x2)], [])) (M' := mt_93) (r := some (.int 1)) (w' := fr_w) ((ex_stp (ins := .invokestatic 95) rfl).trans rfl) rfl (Nat.le_of_ble_eq_true rfl) h_180 ?_
      show Go [] 38 mt_147 (21, [some (.int x1), some (.int x2)], [.int 1]) fr_w _
      refine Go.next (f' := (24, [some (.int x1), some (.int x2)], [])) (w' := fr_w) ((ex_stp (ins := .ifCond .eq 7) rfl).trans rfl) ?_
      refine Go.next (f' := (25, [some (.int x1), some (.int x2)], [.int 1])) (w' := fr_w) ((ex_stp (ins := .iconst 1) rfl).trans rfl) ?_
      refine Go.next (f' := (29, [some (.int x1), some (.int x2)], [.int 1])) (w' := fr_w) ((ex_stp (ins := .goto 4) rfl).trans rfl) ?_
      exact Go.ret ((ex_stp (ins := .ireturn) rfl).trans rfl)
    refine Go.call (d := 38) (cal := 147) (as := [.int x1, .int x2]) (g := (5, [some (.ref 59), some (.int x1), some (.int x2), some (.int x3), none], [])) (M' := mt_147) (r := some (.int 1)) (w' := fr_w) ((ex_stp (ins := .invokestatic 287) rfl).trans rfl) rfl (Nat.le_of_ble_eq_true rfl) h_178 ?_
    show Go [] 39 mt_74 (5, [some (.ref 59), some (.int x1), some (.int x2), some (.int x3), none], [.int 1]) fr_w _
    refine Go.next (f' := (8, [some (.ref 59), some (.int x1), some (.int x2), some (.int x3), none], [])) (w' := fr_w) ((ex_stp (ins := .ifCond .eq 9) rfl).trans rfl) ?_
    refine Go.next (f' := (9, [some (.ref 59), some (.int x1), some (.int x2), some (.int x3), none], [.int x3])) (w' := fr_w) ((ex_stp (ins := .iload_n 3) rfl).trans rfl) ?_
    refine Go.next (f' := (11, [some (.ref 59), some (.int x1), some (.int x2), some (.int x3), none], [.int 40, .int x3])) (w' := fr_w) ((ex_stp (ins := .bipush 40) rfl).trans rfl) ?_
    refine Go.next (f' := (16, [some (.ref 59), some (.int x1), some (.int x2), some (.int x3), none], [])) (w' := fr_w) ((ex_stp (ins := .if_icmp .le 5) rfl).trans (ex_b2_t (c := .le) (off := 5) (pc := 11) (lo := [some (.ref 59), some (.int x1), some (.int x2), some (.int x3), none]) (x := x3) (y := 40) (r := []) (by rw [c2_le]; exact decide_eq_true (by show x3.toInt ≤ (40 : Int); omega)) (by decide))) ?_
    refine Go.next (f' := (17, [some (.ref 59), some (.int x1), some (.int x2), some (.int x3), none], [.int x3])) (w' := fr_w) ((ex_stp (ins := .iload_n 3) rfl).trans rfl) ?_
    refine Go.next (f' := (20, [some (.ref 59), some (.int x1), some (.int x2), some (.int x3), none], [])) (w' := fr_w) ((ex_stp (ins := .ifCond .ge 6) rfl).trans (ex_b0_f (c := .ge) (off := 6) (pc := 17) (lo := [some (.ref 59), some (.int x1), some (.int x2), some (.int x3), none]) (x := x3) (r := []) (by rw [c0_ge]; exact decide_eq_false (by show ¬ ((0 : Int) ≤ x3.toInt); omega)) (by decide))) ?_
    refine Go.next (f' := (22, [some (.ref 59), some (.int x1), some (.int x2), some (.int x3), none], [.int (-14)])) (w' := fr_w) ((ex_stp (ins := .bipush (-14)) rfl).trans rfl) ?_
    exact Go.ret ((ex_stp (ins := .ireturn) rfl).trans rfl)
set_option maxRecDepth 100000 in
theorem ao_36_a (x1 x2 x3 : Int32) (g0 : x1.toInt < 0) : A2 mt_75 mt_76 [.int x1, .int x2, .int x3] := by
  refine ⟨(-1), fr_w, fr_w, _, ?_, rfl, ?_⟩
  · show Go [] 39 mt_75 (0, [some (.ref 0), some (.int x1), some (.int x2), some (.int x3), none], []) fr_w _
    refine Go.next (f' := (1, [some (.ref 0), some (.int x1), some (.int x2), some (.int x3), none], [.int x1])) (w' := fr_w) ((ex_stp (ins := .iload_n 1) rfl).trans rfl) ?_
    refine Go.next (f' := (9, [some (.ref 0), some (.int x1), some (.int x2), some (.int x3), none], [])) (w' := fr_w) ((ex_stp (ins := .ifCond .lt 8) rfl).trans (ex_b0_t (c := .lt) (off := 8) (pc := 1) (lo := [some (.ref 0), some (.int x1), some (.int x2), some (.int x3), none]) (x := x1) (r := []) (by rw [c0_lt]; exact decide_eq_true (by show x1.toInt < (0 : Int); omega)) (by decide))) ?_
    refine Go.next (f' := (10, [some (.ref 0), some (.int x1), some (.int x2), some (.int x3), none], [.int (-1)])) (w' := fr_w) ((ex_stp (ins := .iconst (-1)) rfl).trans rfl) ?_
    exact Go.ret ((ex_stp (ins := .ireturn) rfl).trans rfl)
  · show Go [] 39 mt_76 (0, [some (.ref 59), some (.int x1), some (.int x2), some (.int x3)], []) fr_w _
    refine Go.next (f' := (1, [some (.ref 59), some (.int x1), some (.int x2), some (.int x3)], [.int x1])) (w' := fr_w) ((ex_stp (ins := .iload_n 1) rfl).trans rfl) ?_
    refine Go.next (f' := (2, [some (.ref 59), some (.int x1), some (.int x2), some (.int x3)], [.int 0, .int x1])) (w' := fr_w) ((ex_stp (ins := .iconst 0) rfl).trans rfl) ?_
    have h_181 : Go [] 38 mt_147 (ex_ent mt_147 [.int x1, .int 0]) fr_w (some (.int 0), fr_w) := by
      show Go [] 38 mt_147 (0, [some (.int x1), some (.int 0)], []) fr_w _
      refine Go.next (f' := (1, [some (.int x1), some (.int 0)], [.int x1])) (w' := fr_w) ((ex_stp (ins := .iload_n 0) rfl).trans rfl) ?_
      refine Go.next (f' := (2, [some (.int x1), some (.int 0)], [.long (x1).toInt64])) (w' := fr_w) ((ex_stp (ins := .i2l) rfl).trans rfl) ?_
      refine Go.next (f' := (3, [some (.int x1), some (.int 0)], [.long 0, .long (x1).toInt64])) (w' := fr_w) ((ex_stp (ins := .lconst 0) rfl).trans rfl) ?_
      refine Go.next (f' := (6, [some (.int x1), some (.int 0)], [.long 3, .long 0, .long (x1).toInt64])) (w' := fr_w) ((ex_stp (ins := .ldc2_w 250) rfl).trans rfl) ?_
      have h_182 : Go [] 37 mt_93 (ex_ent mt_93 [.long (x1).toInt64, .long 0, .long 3]) fr_w (some (.int 0), fr_w) := by
        show Go [] 37 mt_93 (0, [some (.long (x1).toInt64), none, some (.long 0), none, some (.long 3), none], []) fr_w _
        refine Go.next (f' := (1, [some (.long (x1).toInt64), none, some (.long 0), none, some (.long 3), none], [.long (x1).toInt64])) (w' := fr_w) ((ex_stp (ins := .lload_n 0) rfl).trans rfl) ?_
        refine Go.next (f' := (2, [some (.long (x1).toInt64), none, some (.long 0), none, some (.long 3), none], [.long 0, .long (x1).toInt64])) (w' := fr_w) ((ex_stp (ins := .lload_n 2) rfl).trans rfl) ?_
        refine Go.next (f' := (3, [some (.long (x1).toInt64), none, some (.long 0), none, some (.long 3), none], [.int (lg_cmp (x1).toInt64 0)])) (w' := fr_w) ((ex_stp (ins := .lcmp) rfl).trans rfl) ?_
        refine Go.next (f' := (17, [some (.long (x1).toInt64), none, some (.long 0), none, some (.long 3), none], [])) (w' := fr_w) ((ex_stp (ins := .ifCond .lt 14) rfl).trans (ex_b0_t (c := .lt) (off := 14) (pc := 3) (lo := [some (.long (x1).toInt64), none, some (.long 0), none, some (.long 3), none]) (x := (lg_cmp (x1).toInt64 0)) (r := []) (by rw [cl_lt]; exact decide_eq_true (by first | (rw [Int32.toInt_toInt64]; show x1.toInt < (0 : Int); omega) | omega)) (by decide))) ?_
        refine Go.next (f' := (18, [some (.long (x1).toInt64), none, some (.long 0), none, some (.long 3), none], [.int 0])) (w' := fr_w) ((ex_stp (ins := .iconst 0) rfl).trans rfl) ?_
        exact Go.ret ((ex_stp (ins := .ireturn) rfl).trans rfl)
      refine Go.call (d := 37) (cal := 93) (as := [.long (x1).toInt64, .long 0, .long 3]) (g := (9, [some (.int x1), some (.int 0)], [])) (M' := mt_93) (r := some (.int 0)) (w' := fr_w) ((ex_stp (ins := .invokestatic 95) rfl).trans rfl) rfl (Nat.le_of_ble_eq_true rfl) h_182 ?_
      show Go [] 38 mt_147 (9, [some (.int x1), some (.int 0)], [.int 0]) fr_w _
      refine Go.next (f' := (28, [some (.int x1), some (.int 0)], [])) (w' := fr_w) ((ex_stp (ins := .ifCond .eq 19) rfl).trans rfl) ?_
      refine Go.next (f' := (29, [some (.int x1), some (.int 0)], [.int 0])) (w' := fr_w) ((ex_stp (ins := .iconst 0) rfl).trans rfl) ?_
      exact Go.ret ((ex_stp (ins := .ireturn) rfl).trans rfl)
    refine Go.call (d := 38) (cal := 147) (as := [.int x1, .int 0]) (g := (5, [some (.ref 59), some (.int x1), some (.int x2), some (.int x3)], [])) (M' := mt_147) (r := some (.int 0)) (w' := fr_w) ((ex_stp (ins := .invokestatic 287) rfl).trans rfl) rfl (Nat.le_of_ble_eq_true rfl) h_181 ?_
    show Go [] 39 mt_76 (5, [some (.ref 59), some (.int x1), some (.int x2), some (.int x3)], [.int 0]) fr_w _
    refine Go.next (f' := (8, [some (.ref 59), some (.int x1), some (.int x2), some (.int x3)], [])) (w' := fr_w) ((ex_stp (ins := .ifCond .ne 5) rfl).trans rfl) ?_
    refine Go.next (f' := (9, [some (.ref 59), some (.int x1), some (.int x2), some (.int x3)], [.int (-1)])) (w' := fr_w) ((ex_stp (ins := .iconst (-1)) rfl).trans rfl) ?_
    exact Go.ret ((ex_stp (ins := .ireturn) rfl).trans rfl)
set_option maxRecDepth 100000 in
theorem ao_36_b (x1 x2 x3 : Int32) (g0 : 3 < x1.toInt) : A2 mt_75 mt_76 [.int x1, .int x2, .int x3] := by
  refine ⟨(-1), fr_w, fr_w, _, ?_, rfl, ?_⟩
  · show Go [] 39 mt_75 (0, [some (.ref 0), some (.int x1), some (.int x2), some (.int x3), none], []) fr_w _
    refine Go.next (f' := (1, [some (.ref 0), some (.int x1), some (.int x2), some (.int x3), none], [.int x1])) (w' := fr_w) ((ex_stp (ins := .iload_n 1) rfl).trans rfl) ?_
    refine Go.next (f' := (4, [some (.ref 0), some (.int x1), some (.int x2), some (.int x3), none], [])) (w' := fr_w) ((ex_stp (ins := .ifCond .lt 8) rfl).trans (ex_b0_f (c := .lt) (off := 8) (pc := 1) (lo := [some (.ref 0), some (.int x1), some (.int x2), some (.int x3), none]) (x := x1) (r := []) (by rw [c0_lt]; exact decide_eq_false (by show ¬ (x1.toInt < (0 : Int)); omega)) (by decide))) ?_
    refine Go.next (f' := (5, [some (.ref 0), some (.int x1), some (.int x2), some (.int x3), none], [.int x1])) (w' := fr_w) ((ex_stp (ins := .iload_n 1) rfl).trans rfl) ?_
    refine Go.next (f' := (6, [some (.ref 0), some (.int x1), some (.int x2), some (.int x3), none], [.int 4, .int x1])) (w' := fr_w) ((ex_stp (ins := .iconst 4) rfl).trans rfl) ?_
    refine Go.next (f' := (9, [some (.ref 0), some (.int x1), some (.int x2), some (.int x3), none], [])) (w' := fr_w) ((ex_stp (ins := .if_icmp .lt 5) rfl).trans (ex_b2_f (c := .lt) (off := 5) (pc := 6) (lo := [some (.ref 0), some (.int x1), some (.int x2), some (.int x3), none]) (x := x1) (y := 4) (r := []) (by rw [c2_lt]; exact decide_eq_false (by show ¬ (x1.toInt < (4 : Int)); omega)) (by decide))) ?_
    refine Go.next (f' := (10, [some (.ref 0), some (.int x1), some (.int x2), some (.int x3), none], [.int (-1)])) (w' := fr_w) ((ex_stp (ins := .iconst (-1)) rfl).trans rfl) ?_
    exact Go.ret ((ex_stp (ins := .ireturn) rfl).trans rfl)
  · show Go [] 39 mt_76 (0, [some (.ref 59), some (.int x1), some (.int x2), some (.int x3)], []) fr_w _
    refine Go.next (f' := (1, [some (.ref 59), some (.int x1), some (.int x2), some (.int x3)], [.int x1])) (w' := fr_w) ((ex_stp (ins := .iload_n 1) rfl).trans rfl) ?_
    refine Go.next (f' := (2, [some (.ref 59), some (.int x1), some (.int x2), some (.int x3)], [.int 0, .int x1])) (w' := fr_w) ((ex_stp (ins := .iconst 0) rfl).trans rfl) ?_
    have h_183 : Go [] 38 mt_147 (ex_ent mt_147 [.int x1, .int 0]) fr_w (some (.int 0), fr_w) := by
      show Go [] 38 mt_147 (0, [some (.int x1), some (.int 0)], []) fr_w _
      refine Go.next (f' := (1, [some (.int x1), some (.int 0)], [.int x1])) (w' := fr_w) ((ex_stp (ins := .iload_n 0) rfl).trans rfl) ?_
      refine Go.next (f' := (2, [some (.int x1), some (.int 0)], [.long (x1).toInt64])) (w' := fr_w) ((ex_stp (ins := .i2l) rfl).trans rfl) ?_
      refine Go.next (f' := (3, [some (.int x1), some (.int 0)], [.long 0, .long (x1).toInt64])) (w' := fr_w) ((ex_stp (ins := .lconst 0) rfl).trans rfl) ?_
      refine Go.next (f' := (6, [some (.int x1), some (.int 0)], [.long 3, .long 0, .long (x1).toInt64])) (w' := fr_w) ((ex_stp (ins := .ldc2_w 250) rfl).trans rfl) ?_
      have h_184 : Go [] 37 mt_93 (ex_ent mt_93 [.long (x1).toInt64, .long 0, .long 3]) fr_w (some (.int 0), fr_w) := by
        show Go [] 37 mt_93 (0, [some (.long (x1).toInt64), none, some (.long 0), none, some (.long 3), none], []) fr_w _
        refine Go.next (f' := (1, [some (.long (x1).toInt64), none, some (.long 0), none, some (.long 3), none], [.long (x1).toInt64])) (w' := fr_w) ((ex_stp (ins := .lload_n 0) rfl).trans rfl) ?_
        refine Go.next (f' := (2, [some (.long (x1).toInt64), none, some (.long 0), none, some (.long 3), none], [.long 0, .long (x1).toInt64])) (w' := fr_w) ((ex_stp (ins := .lload_n 2) rfl).trans rfl) ?_
        refine Go.next (f' := (3, [some (.long (x1).toInt64), none, some (.long 0), none, some (.long 3), none], [.int (lg_cmp (x1).toInt64 0)])) (w' := fr_w) ((ex_stp (ins := .lcmp) rfl).trans rfl) ?_
        refine Go.next (f' := (6, [some (.long (x1).toInt64), none, some (.long 0), none, some (.long 3), none], [])) (w' := fr_w) ((ex_stp (ins := .ifCond .lt 14) rfl).trans (ex_b0_f (c := .lt) (off := 14) (pc := 3) (lo := [some (.long (x1).toInt64), none, some (.long 0), none, some (.long 3), none]) (x := (lg_cmp (x1).toInt64 0)) (r := []) (by rw [cl_lt]; exact decide_eq_false (by first | (rw [Int32.toInt_toInt64]; show ¬ (x1.toInt < (0 : Int)); omega) | omega)) (by decide))) ?_
        refine Go.next (f' := (7, [some (.long (x1).toInt64), none, some (.long 0), none, some (.long 3), none], [.long (x1).toInt64])) (w' := fr_w) ((ex_stp (ins := .lload_n 0) rfl).trans rfl) ?_
        refine Go.next (f' := (9, [some (.long (x1).toInt64), none, some (.long 0), none, some (.long 3), none], [.long 3, .long (x1).toInt64])) (w' := fr_w) ((ex_stp (ins := .lload 4) rfl).trans rfl) ?_
        refine Go.next (f' := (10, [some (.long (x1).toInt64), none, some (.long 0), none, some (.long 3), none], [.int (lg_cmp (x1).toInt64 3)])) (w' := fr_w) ((ex_stp (ins := .lcmp) rfl).trans rfl) ?_
        refine Go.next (f' := (17, [some (.long (x1).toInt64), none, some (.long 0), none, some (.long 3), none], [])) (w' := fr_w) ((ex_stp (ins := .ifCond .gt 7) rfl).trans (ex_b0_t (c := .gt) (off := 7) (pc := 10) (lo := [some (.long (x1).toInt64), none, some (.long 0), none, some (.long 3), none]) (x := (lg_cmp (x1).toInt64 3)) (r := []) (by rw [cl_gt]; exact decide_eq_true (by first | (rw [Int32.toInt_toInt64]; show (3 : Int) < x1.toInt; omega) | omega)) (by decide))) ?_
        refine Go.next (f' := (18, [some (.long (x1).toInt64), none, some (.long 0), none, some (.long 3), none], [.int 0])) (w' := fr_w) ((ex_stp (ins := .iconst 0) rfl).trans rfl) ?_
        exact Go.ret ((ex_stp (ins := .ireturn) rfl).trans rfl)
      refine Go.call (d := 37) (cal := 93) (as := [.long (x1).toInt64, .long 0, .long 3]) (g := (9, [some (.int x1), some (.int 0)], [])) (M' := mt_93) (r := some (.int 0)) (w' := fr_w) ((ex_stp (ins := .invokestatic 95) rfl).trans rfl) rfl (Nat.le_of_ble_eq_true rfl) h_184 ?_
      show Go [] 38 mt_147 (9, [some (.int x1), some (.int 0)], [.int 0]) fr_w _
      refine Go.next (f' := (28, [some (.int x1), some (.int 0)], [])) (w' := fr_w) ((ex_stp (ins := .ifCond .eq 19) rfl).trans rfl) ?_
      refine Go.next (f' := (29, [some (.int x1), some (.int 0)], [.int 0])) (w' := fr_w) ((ex_stp (ins := .iconst 0) rfl).trans rfl) ?_
      exact Go.ret ((ex_stp (ins := .ireturn) rfl).trans rfl)
    refine Go.call (d := 38) (cal := 147) (as := [.int x1, .int 0]) (g := (5, [some (.ref 59), some (.int x1), some (.int x2), some (.int x3)], [])) (M' := mt_147) (r := some (.int 0)) (w' := fr_w) ((ex_stp (ins := .invokestatic 287) rfl).trans rfl) rfl (Nat.le_of_ble_eq_true rfl) h_183 ?_
    show Go [] 39 mt_76 (5, [some (.ref 59), some (.int x1), some (.int x2), some (.int x3)], [.int 0]) fr_w _
    refine Go.next (f' := (8, [some (.ref 59), some (.int x1), some (.int x2), some (.int x3)], [])) (w' := fr_w) ((ex_stp (ins := .ifCond .ne 5) rfl).trans rfl) ?_
    refine Go.next (f' := (9, [some (.ref 59), some (.int x1), some (.int x2), some (.int x3)], [.int (-1)])) (w' := fr_w) ((ex_stp (ins := .iconst (-1)) rfl).trans rfl) ?_
    exact Go.ret ((ex_stp (ins := .ireturn) rfl).trans rfl)
set_option maxRecDepth 100000 in
theorem ao_36_k0 (x2 x3 : Int32)  : A2 mt_75 mt_76 [.int 0, .int x2, .int x3] := by
  refine ⟨(-11), fr_w, fr_w, _, ?_, rfl, ?_⟩
  · show Go [] 39 mt_75 (0, [some (.ref 0), some (.int 0), some (.int x2), some (.int x3), none], []) fr_w _
    refine Go.next (f' := (1, [some (.ref 0), some (.int 0), some (.int x2), some (.int x3), none], [.int 0])) (w' := fr_w) ((ex_stp (ins := .iload_n 1) rfl).trans rfl) ?_
    refine Go.next (f' := (4, [some (.ref 0), some (.int 0), some (.int x2), some (.int x3), none], [])) (w' := fr_w) ((ex_stp (ins := .ifCond .lt 8) rfl).trans rfl) ?_
    refine Go.next (f' := (5, [some (.ref 0), some (.int 0), some (.int x2), some (.int x3), none], [.int 0])) (w' := fr_w) ((ex_stp (ins := .iload_n 1) rfl).trans rfl) ?_
    refine Go.next (f' := (6, [some (.ref 0), some (.int 0), some (.int x2), some (.int x3), none], [.int 4, .int 0])) (w' := fr_w) ((ex_stp (ins := .iconst 4) rfl).trans rfl) ?_
    refine Go.next (f' := (11, [some (.ref 0), some (.int 0), some (.int x2), some (.int x3), none], [])) (w' := fr_w) ((ex_stp (ins := .if_icmp .lt 5) rfl).trans rfl) ?_
    refine Go.next (f' := (12, [some (.ref 0), some (.int 0), some (.int x2), some (.int x3), none], [.ref 0])) (w' := fr_w) ((ex_stp (ins := .aload_n 0) rfl).trans rfl) ?_
    refine Go.next (f' := (15, [some (.ref 0), some (.int 0), some (.int x2), some (.int x3), none], [.ref 50])) (w' := fr_w) ((ex_stp (ins := .getfield 72) rfl).trans rfl) ?_
    refine Go.next (f' := (16, [some (.ref 0), some (.int 0), some (.int x2), some (.int x3), none], [.int 0, .ref 50])) (w' := fr_w) ((ex_stp (ins := .iload_n 1) rfl).trans rfl) ?_
    refine Go.next (f' := (17, [some (.ref 0), some (.int 0), some (.int x2), some (.int x3), none], [.ref 51])) (w' := fr_w) ((ex_stp (ins := .aaload) rfl).trans rfl) ?_
    refine Go.next (f' := (18, [some (.ref 0), some (.int 0), some (.int x2), some (.int x3), none], [.int x2, .ref 51])) (w' := fr_w) ((ex_stp (ins := .iload_n 2) rfl).trans rfl) ?_
    have h_185 : Go [] 38 mt_148 (ex_ent mt_148 [.ref 51, .int x2]) fr_w (some (.int 1), fr_w) := by
      show Go [] 38 mt_148 (0, [some (.ref 51), some (.int x2)], []) fr_w _
      refine Go.next (f' := (1, [some (.ref 51), some (.int x2)], [.ref 51])) (w' := fr_w) ((ex_stp (ins := .aload_n 0) rfl).trans rfl) ?_
      refine Go.next (f' := (4, [some (.ref 51), some (.int x2)], [.int (-1)])) (w' := fr_w) ((ex_stp (ins := .getfield 15) rfl).trans rfl) ?_
      refine Go.next (f' := (5, [some (.ref 51), some (.int x2)], [.int (-1), .int (-1)])) (w' := fr_w) ((ex_stp (ins := .iconst (-1)) rfl).trans rfl) ?_
      refine Go.next (f' := (8, [some (.ref 51), some (.int x2)], [])) (w' := fr_w) ((ex_stp (ins := .if_icmp .ne 5) rfl).trans rfl) ?_
      refine Go.next (f' := (9, [some (.ref 51), some (.int x2)], [.int 1])) (w' := fr_w) ((ex_stp (ins := .iconst 1) rfl).trans rfl) ?_
      exact Go.ret ((ex_stp (ins := .ireturn) rfl).trans rfl)
    refine Go.call (d := 38) (cal := 148) (as := [.ref 51, .int x2]) (g := (21, [some (.ref 0), some (.int 0), some (.int x2), some (.int x3), none], [])) (M' := mt_148) (r := some (.int 1)) (w' := fr_w) ((ex_stp (ins := .invokevirtual 246) rfl).trans rfl) rfl (Nat.le_of_ble_eq_true rfl) h_185 ?_
    show Go [] 39 mt_75 (21, [some (.ref 0), some (.int 0), some (.int x2), some (.int x3), none], [.int 1]) fr_w _
    refine Go.next (f' := (23, [some (.ref 0), some (.int 0), some (.int x2), some (.int x3), some (.int 1)], [])) (w' := fr_w) ((ex_stp (ins := .istore 4) rfl).trans rfl) ?_
    refine Go.next (f' := (25, [some (.ref 0), some (.int 0), some (.int x2), some (.int x3), some (.int 1)], [.int 1])) (w' := fr_w) ((ex_stp (ins := .iload 4) rfl).trans rfl) ?_
    refine Go.next (f' := (28, [some (.ref 0), some (.int 0), some (.int x2), some (.int x3), some (.int 1)], [])) (w' := fr_w) ((ex_stp (ins := .ifCond .eq 9) rfl).trans rfl) ?_
    refine Go.next (f' := (30, [some (.ref 0), some (.int 0), some (.int x2), some (.int x3), some (.int 1)], [.int (-10)])) (w' := fr_w) ((ex_stp (ins := .bipush (-10)) rfl).trans rfl) ?_
    refine Go.next (f' := (32, [some (.ref 0), some (.int 0), some (.int x2), some (.int x3), some (.int 1)], [.int 1, .int (-10)])) (w' := fr_w) ((ex_stp (ins := .iload 4) rfl).trans rfl) ?_
    refine Go.next (f' := (33, [some (.ref 0), some (.int 0), some (.int x2), some (.int x3), some (.int 1)], [.int (-11)])) (w' := fr_w) ((ex_stp (ins := .isub) rfl).trans rfl) ?_
    exact Go.ret ((ex_stp (ins := .ireturn) rfl).trans rfl)
  · show Go [] 39 mt_76 (0, [some (.ref 59), some (.int 0), some (.int x2), some (.int x3)], []) fr_w _
    refine Go.next (f' := (1, [some (.ref 59), some (.int 0), some (.int x2), some (.int x3)], [.int 0])) (w' := fr_w) ((ex_stp (ins := .iload_n 1) rfl).trans rfl) ?_
    refine Go.next (f' := (2, [some (.ref 59), some (.int 0), some (.int x2), some (.int x3)], [.int 0, .int 0])) (w' := fr_w) ((ex_stp (ins := .iconst 0) rfl).trans rfl) ?_
    have h_186 : Go [] 38 mt_147 (ex_ent mt_147 [.int 0, .int 0]) fr_w (some (.int 1), fr_w) := Go.of (ex_is_of kr_147_0_0_fr_w)
    refine Go.call (d := 38) (cal := 147) (as := [.int 0, .int 0]) (g := (5, [some (.ref 59), some (.int 0), some (.int x2), some (.int x3)], [])) (M' := mt_147) (r := some (.int 1)) (w' := fr_w) ((ex_stp (ins := .invokestatic 287) rfl).trans rfl) rfl (Nat.le_of_ble_eq_true rfl) h_186 ?_
    show Go [] 39 mt_76 (5, [some (.ref 59), some (.int 0), some (.int x2), some (.int x3)], [.int 1]) fr_w _
    refine Go.next (f' := (10, [some (.ref 59), some (.int 0), some (.int x2), some (.int x3)], [])) (w' := fr_w) ((ex_stp (ins := .ifCond .ne 5) rfl).trans rfl) ?_
    refine Go.next (f' := (11, [some (.ref 59), some (.int 0), some (.int x2), some (.int x3)], [.ref 59])) (w' := fr_w) ((ex_stp (ins := .aload_n 0) rfl).trans rfl) ?_
    refine Go.next (f' := (14, [some (.ref 59), some (.int 0), some (.int x2), some (.int x3)], [.ref 73])) (w' := fr_w) ((ex_stp (ins := .getfield 50) rfl).trans rfl) ?_
    refine Go.next (f' := (15, [some (.ref 59), some (.int 0), some (.int x2), some (.int x3)], [.int 0, .ref 73])) (w' := fr_w) ((ex_stp (ins := .iload_n 1) rfl).trans rfl) ?_
    refine Go.next (f' := (16, [some (.ref 59), some (.int 0), some (.int x2), some (.int x3)], [.int (-4)])) (w' := fr_w) ((ex_stp (ins := .iaload) rfl).trans rfl) ?_
    refine Go.next (f' := (18, [some (.ref 59), some (.int 0), some (.int x2), some (.int x3)], [.int (-4), .int (-4)])) (w' := fr_w) ((ex_stp (ins := .bipush (-4)) rfl).trans rfl) ?_
    refine Go.next (f' := (21, [some (.ref 59), some (.int 0), some (.int x2), some (.int x3)], [])) (w' := fr_w) ((ex_stp (ins := .if_icmp .ne 6) rfl).trans rfl) ?_
    refine Go.next (f' := (23, [some (.ref 59), some (.int 0), some (.int x2), some (.int x3)], [.int (-11)])) (w' := fr_w) ((ex_stp (ins := .bipush (-11)) rfl).trans rfl) ?_
    exact Go.ret ((ex_stp (ins := .ireturn) rfl).trans rfl)
set_option maxRecDepth 100000 in
theorem ao_36_k1 (x2 x3 : Int32)  : A2 mt_75 mt_76 [.int 1, .int x2, .int x3] := by
  refine ⟨(-11), fr_w, fr_w, _, ?_, rfl, ?_⟩
  · show Go [] 39 mt_75 (0, [some (.ref 0), some (.int 1), some (.int x2), some (.int x3), none], []) fr_w _
    refine Go.next (f' := (1, [some (.ref 0), some (.int 1), some (.int x2), some (.int x3), none], [.int 1])) (w' := fr_w) ((ex_stp (ins := .iload_n 1) rfl).trans rfl) ?_
    refine Go.next (f' := (4, [some (.ref 0), some (.int 1), some (.int x2), some (.int x3), none], [])) (w' := fr_w) ((ex_stp (ins := .ifCond .lt 8) rfl).trans rfl) ?_
    refine Go.next (f' := (5, [some (.ref 0), some (.int 1), some (.int x2), some (.int x3), none], [.int 1])) (w' := fr_w) ((ex_stp (ins := .iload_n 1) rfl).trans rfl) ?_
    refine Go.next (f' := (6, [some (.ref 0), some (.int 1), some (.int x2), some (.int x3), none], [.int 4, .int 1])) (w' := fr_w) ((ex_stp (ins := .iconst 4) rfl).trans rfl) ?_
    refine Go.next (f' := (11, [some (.ref 0), some (.int 1), some (.int x2), some (.int x3), none], [])) (w' := fr_w) ((ex_stp (ins := .if_icmp .lt 5) rfl).trans rfl) ?_
    refine Go.next (f' := (12, [some (.ref 0), some (.int 1), some (.int x2), some (.int x3), none], [.ref 0])) (w' := fr_w) ((ex_stp (ins := .aload_n 0) rfl).trans rfl) ?_
    refine Go.next (f' := (15, [some (.ref 0), some (.int 1), some (.int x2), some (.int x3), none], [.ref 50])) (w' := fr_w) ((ex_stp (ins := .getfield 72) rfl).trans rfl) ?_
    refine Go.next (f' := (16, [some (.ref 0), some (.int 1), some (.int x2), some (.int x3), none], [.int 1, .ref 50])) (w' := fr_w) ((ex_stp (ins := .iload_n 1) rfl).trans rfl) ?_
    refine Go.next (f' := (17, [some (.ref 0), some (.int 1), some (.int x2), some (.int x3), none], [.ref 53])) (w' := fr_w) ((ex_stp (ins := .aaload) rfl).trans rfl) ?_
    refine Go.next (f' := (18, [some (.ref 0), some (.int 1), some (.int x2), some (.int x3), none], [.int x2, .ref 53])) (w' := fr_w) ((ex_stp (ins := .iload_n 2) rfl).trans rfl) ?_
    have h_187 : Go [] 38 mt_148 (ex_ent mt_148 [.ref 53, .int x2]) fr_w (some (.int 1), fr_w) := by
      show Go [] 38 mt_148 (0, [some (.ref 53), some (.int x2)], []) fr_w _
      refine Go.next (f' := (1, [some (.ref 53), some (.int x2)], [.ref 53])) (w' := fr_w) ((ex_stp (ins := .aload_n 0) rfl).trans rfl) ?_
      refine Go.next (f' := (4, [some (.ref 53), some (.int x2)], [.int (-1)])) (w' := fr_w) ((ex_stp (ins := .getfield 15) rfl).trans rfl) ?_
      refine Go.next (f' := (5, [some (.ref 53), some (.int x2)], [.int (-1), .int (-1)])) (w' := fr_w) ((ex_stp (ins := .iconst (-1)) rfl).trans rfl) ?_
      refine Go.next (f' := (8, [some (.ref 53), some (.int x2)], [])) (w' := fr_w) ((ex_stp (ins := .if_icmp .ne 5) rfl).trans rfl) ?_
      refine Go.next (f' := (9, [some (.ref 53), some (.int x2)], [.int 1])) (w' := fr_w) ((ex_stp (ins := .iconst 1) rfl).trans rfl) ?_
      exact Go.ret ((ex_stp (ins := .ireturn) rfl).trans rfl)
    refine Go.call (d := 38) (cal := 148) (as := [.ref 53, .int x2]) (g := (21, [some (.ref 0), some (.int 1), some (.int x2), some (.int x3), none], [])) (M' := mt_148) (r := some (.int 1)) (w' := fr_w) ((ex_stp (ins := .invokevirtual 246) rfl).trans rfl) rfl (Nat.le_of_ble_eq_true rfl) h_187 ?_
    show Go [] 39 mt_75 (21, [some (.ref 0), some (.int 1), some (.int x2), some (.int x3), none], [.int 1]) fr_w _
    refine Go.next (f' := (23, [some (.ref 0), some (.int 1), some (.int x2), some (.int x3), some (.int 1)], [])) (w' := fr_w) ((ex_stp (ins := .istore 4) rfl).trans rfl) ?_
    refine Go.next (f' := (25, [some (.ref 0), some (.int 1), some (.int x2), some (.int x3), some (.int 1)], [.int 1])) (w' := fr_w) ((ex_stp (ins := .iload 4) rfl).trans rfl) ?_
    refine Go.next (f' := (28, [some (.ref 0), some (.int 1), some (.int x2), some (.int x3), some (.int 1)], [])) (w' := fr_w) ((ex_stp (ins := .ifCond .eq 9) rfl).trans rfl) ?_
    refine Go.next (f' := (30, [some (.ref 0), some (.int 1), some (.int x2), some (.int x3), some (.int 1)], [.int (-10)])) (w' := fr_w) ((ex_stp (ins := .bipush (-10)) rfl).trans rfl) ?_
    refine Go.next (f' := (32, [some (.ref 0), some (.int 1), some (.int x2), some (.int x3), some (.int 1)], [.int 1, .int (-10)])) (w' := fr_w) ((ex_stp (ins := .iload 4) rfl).trans rfl) ?_
    refine Go.next (f' := (33, [some (.ref 0), some (.int 1), some (.int x2), some (.int x3), some (.int 1)], [.int (-11)])) (w' := fr_w) ((ex_stp (ins := .isub) rfl).trans rfl) ?_
    exact Go.ret ((ex_stp (ins := .ireturn) rfl).trans rfl)
  · show Go [] 39 mt_76 (0, [some (.ref 59), some (.int 1), some (.int x2), some (.int x3)], []) fr_w _
    refine Go.next (f' := (1, [some (.ref 59), some (.int 1), some (.int x2), some (.int x3)], [.int 1])) (w' := fr_w) ((ex_stp (ins := .iload_n 1) rfl).trans rfl) ?_
    refine Go.next (f' := (2, [some (.ref 59), some (.int 1), some (.int x2), some (.int x3)], [.int 0, .int 1])) (w' := fr_w) ((ex_stp (ins := .iconst 0) rfl).trans rfl) ?_
    have h_188 : Go [] 38 mt_147 (ex_ent mt_147 [.int 1, .int 0]) fr_w (some (.int 1), fr_w) := Go.of (ex_is_of kr_147_1_0_fr_w)
    refine Go.call (d := 38) (cal := 147) (as := [.int 1, .int 0]) (g := (5, [some (.ref 59), some (.int 1), some (.int x2), some (.int x3)], [])) (M' := mt_147) (r := some (.int 1)) (w' := fr_w) ((ex_stp (ins := .invokestatic 287) rfl).trans rfl) rfl (Nat.le_of_ble_eq_true rfl) h_188 ?_
    show Go [] 39 mt_76 (5, [some (.ref 59), some (.int 1), some (.int x2), some (.int x3)], [.int 1]) fr_w _
    refine Go.next (f' := (10, [some (.ref 59), some (.int 1), some (.int x2), some (.int x3)], [])) (w' := fr_w) ((ex_stp (ins := .ifCond .ne 5) rfl).trans rfl) ?_
    refine Go.next (f' := (11, [some (.ref 59), some (.int 1), some (.int x2), some (.int x3)], [.ref 59])) (w' := fr_w) ((ex_stp (ins := .aload_n 0) rfl).trans rfl) ?_
    refine Go.next (f' := (14, [some (.ref 59), some (.int 1), some (.int x2), some (.int x3)], [.ref 73])) (w' := fr_w) ((ex_stp (ins := .getfield 50) rfl).trans rfl) ?_
    refine Go.next (f' := (15, [some (.ref 59), some (.int 1), some (.int x2), some (.int x3)], [.int 1, .ref 73])) (w' := fr_w) ((ex_stp (ins := .iload_n 1) rfl).trans rfl) ?_
    refine Go.next (f' := (16, [some (.ref 59), some (.int 1), some (.int x2), some (.int x3)], [.int (-4)])) (w' := fr_w) ((ex_stp (ins := .iaload) rfl).trans rfl) ?_
    refine Go.next (f' := (18, [some (.ref 59), some (.int 1), some (.int x2), some (.int x3)], [.int (-4), .int (-4)])) (w' := fr_w) ((ex_stp (ins := .bipush (-4)) rfl).trans rfl) ?_
    refine Go.next (f' := (21, [some (.ref 59), some (.int 1), some (.int x2), some (.int x3)], [])) (w' := fr_w) ((ex_stp (ins := .if_icmp .ne 6) rfl).trans rfl) ?_
    refine Go.next (f' := (23, [some (.ref 59), some (.int 1), some (.int x2), some (.int x3)], [.int (-11)])) (w' := fr_w) ((ex_stp (ins := .bipush (-11)) rfl).trans rfl) ?_
    exact Go.ret ((ex_stp (ins := .ireturn) rfl).trans rfl)
set_option maxRecDepth 100000 in
theorem ao_36_k2 (x2 x3 : Int32)  : A2 mt_75 mt_76 [.int 2, .int x2, .int x3] := by
  refine ⟨(-11), fr_w, fr_w, _, ?_, rfl, ?_⟩
  · show Go [] 39 mt_75 (0, [some (.ref 0), some (.int 2), some (.int x2), some (.int x3), none], []) fr_w _
    refine Go.next (f' := (1, [some (.ref 0), some (.int 2), some (.int x2), some (.int x3), none], [.int 2])) (w' := fr_w) ((ex_stp (ins := .iload_n 1) rfl).trans rfl) ?_
    refine Go.next (f' := (4, [some (.ref 0), some (.int 2), some (.int x2), some (.int x3), none], [])) (w' := fr_w) ((ex_stp (ins := .ifCond .lt 8) rfl).trans rfl) ?_
    refine Go.next (f' := (5, [some (.ref 0), some (.int 2), some (.int x2), some (.int x3), none], [.int 2])) (w' := fr_w) ((ex_stp (ins := .iload_n 1) rfl).trans rfl) ?_
    refine Go.next (f' := (6, [some (.ref 0), some (.int 2), some (.int x2), some (.int x3), none], [.int 4, .int 2])) (w' := fr_w) ((ex_stp (ins := .iconst 4) rfl).trans rfl) ?_
    refine Go.next (f' := (11, [some (.ref 0), some (.int 2), some (.int x2), some (.int x3), none], [])) (w' := fr_w) ((ex_stp (ins := .if_icmp .lt 5) rfl).trans rfl) ?_
    refine Go.next (f' := (12, [some (.ref 0), some (.int 2), some (.int x2), some (.int x3), none], [.ref 0])) (w' := fr_w) ((ex_stp (ins := .aload_n 0) rfl).trans rfl) ?_
    refine Go.next (f' := (15, [some (.ref 0), some (.int 2), some (.int x2), some (.int x3), none], [.ref 50])) (w' := fr_w) ((ex_stp (ins := .getfield 72) rfl).trans rfl) ?_
    refine Go.next (f' := (16, [some (.ref 0), some (.int 2), some (.int x2), some (.int x3), none], [.int 2, .ref 50])) (w' := fr_w) ((ex_stp (ins := .iload_n 1) rfl).trans rfl) ?_
    refine Go.next (f' := (17, [some (.ref 0), some (.int 2), some (.int x2), some (.int x3), none], [.ref 55])) (w' := fr_w) ((ex_stp (ins := .aaload) rfl).trans rfl) ?_
    refine Go.next (f' := (18, [some (.ref 0), some (.int 2), some (.int x2), some (.int x3), none], [.int x2, .ref 55])) (w' := fr_w) ((ex_stp (ins := .iload_n 2) rfl).trans rfl) ?_
    have h_189 : Go [] 38 mt_148 (ex_ent mt_148 [.ref 55, .int x2]) fr_w (some (.int 1), fr_w) := by
      show Go [] 38 mt_148 (0, [some (.ref 55), some (.int x2)], []) fr_w _
      refine Go.next (f' := (1, [some (.ref 55), some (.int x2)], [.ref 55])) (w' := fr_w) ((ex_stp (ins := .aload_n 0) rfl).trans rfl) ?_
      refine Go.next (f' := (4, [some (.ref 55), some (.int x2)], [.int (-1)])) (w' := fr_w) ((ex_stp (ins := .getfield 15) rfl).trans rfl) ?_
      refine Go.next (f' := (5, [some (.ref 55), some (.int x2)], [.int (-1), .int (-1)])) (w' := fr_w) ((ex_stp (ins := .iconst (-1)) rfl).trans rfl) ?_
      refine Go.next (f' := (8, [some (.ref 55), some (.int x2)], [])) (w' := fr_w) ((ex_stp (ins := .if_icmp .ne 5) rfl).trans rfl) ?_
      refine Go.next (f' := (9, [some (.ref 55), some (.int x2)], [.int 1])) (w' := fr_w) ((ex_stp (ins := .iconst 1) rfl).trans rfl) ?_
      exact Go.ret ((ex_stp (ins := .ireturn) rfl).trans rfl)
    refine Go.call (d := 38) (cal := 148) (as := [.ref 55, .int x2]) (g := (21, [some (.ref 0), some (.int 2), some (.int x2), some (.int x3), none], [])) (M' := mt_148) (r := some (.int 1)) (w' := fr_w) ((ex_stp (ins := .invokevirtual 246) rfl).trans rfl) rfl (Nat.le_of_ble_eq_true rfl) h_189 ?_
    show Go [] 39 mt_75 (21, [some (.ref 0), some (.int 2), some (.int x2), some (.int x3), none], [.int 1]) fr_w _
    refine Go.next (f' := (23, [some (.ref 0), some (.int 2), some (.int x2), some (.int x3), some (.int 1)], [])) (w' := fr_w) ((ex_stp (ins := .istore 4) rfl).trans rfl) ?_
    refine Go.next (f' := (25, [some (.ref 0), some (.int 2), some (.int x2), some (.int x3), some (.int 1)], [.int 1])) (w' := fr_w) ((ex_stp (ins := .iload 4) rfl).trans rfl) ?_
    refine Go.next (f' := (28, [some (.ref 0), some (.int 2), some (.int x2), some (.int x3), some (.int 1)], [])) (w' := fr_w) ((ex_stp (ins := .ifCond .eq 9) rfl).trans rfl) ?_
    refine Go.next (f' := (30, [some (.ref 0), some (.int 2), some (.int x2), some (.int x3), some (.int 1)], [.int (-10)])) (w' := fr_w) ((ex_stp (ins := .bipush (-10)) rfl).trans rfl) ?_
    refine Go.next (f' := (32, [some (.ref 0), some (.int 2), some (.int x2), some (.int x3), some (.int 1)], [.int 1, .int (-10)])) (w' := fr_w) ((ex_stp (ins := .iload 4) rfl).trans rfl) ?_
    refine Go.next (f' := (33, [some (.ref 0), some (.int 2), some (.int x2), some (.int x3), some (.int 1)], [.int (-11)])) (w' := fr_w) ((ex_stp (ins := .isub) rfl).trans rfl) ?_
    exact Go.ret ((ex_stp (ins := .ireturn) rfl).trans rfl)
  · show Go [] 39 mt_76 (0, [some (.ref 59), some (.int 2), some (.int x2), some (.int x3)], []) fr_w _
    refine Go.next (f' := (1, [some (.ref 59), some (.int 2), some (.int x2), some (.int x3)], [.int 2])) (w' := fr_w) ((ex_stp (ins := .iload_n 1) rfl).trans rfl) ?_
    refine Go.next (f' := (2, [some (.ref 59), some (.int 2), some (.int x2), some (.int x3)], [.int 0, .int 2])) (w' := fr_w) ((ex_stp (ins := .iconst 0) rfl).trans rfl) ?_
    have h_190 : Go [] 38 mt_147 (ex_ent mt_147 [.int 2, .int 0]) fr_w (some (.int 1), fr_w) := Go.of (ex_is_of kr_147_2_0_fr_w)
    refine Go.call (d := 38) (cal := 147) (as := [.int 2, .int 0]) (g := (5, [some (.ref 59), some (.int 2), some (.int x2), some (.int x3)], [])) (M' := mt_147) (r := some (.int 1)) (w' := fr_w) ((ex_stp (ins := .invokestatic 287) rfl).trans rfl) rfl (Nat.le_of_ble_eq_true rfl) h_190 ?_
    show Go [] 39 mt_76 (5, [some (.ref 59), some (.int 2), some (.int x2), some (.int x3)], [.int 1]) fr_w _
    refine Go.next (f' := (10, [some (.ref 59), some (.int 2), some (.int x2), some (.int x3)], [])) (w' := fr_w) ((ex_stp (ins := .ifCond .ne 5) rfl).trans rfl) ?_
    refine Go.next (f' := (11, [some (.ref 59), some (.int 2), some (.int x2), some (.int x3)], [.ref 59])) (w' := fr_w) ((ex_stp (ins := .aload_n 0) rfl).trans rfl) ?_
    refine Go.next (f' := (14, [some (.ref 59), some (.int 2), some (.int x2), some (.int x3)], [.ref 73])) (w' := fr_w) ((ex_stp (ins := .getfield 50) rfl).trans rfl) ?_
    refine Go.next (f' := (15, [some (.ref 59), some (.int 2), some (.int x2), some (.int x3)], [.int 2, .ref 73])) (w' := fr_w) ((ex_stp (ins := .iload_n 1) rfl).trans rfl) ?_
    refine Go.next (f' := (16, [some (.ref 59), some (.int 2), some (.int x2), some (.int x3)], [.int (-4)])) (w' := fr_w) ((ex_stp (ins := .iaload) rfl).trans rfl) ?_
    refine Go.next (f' := (18, [some (.ref 59), some (.int 2), some (.int x2), some (.int x3)], [.int (-4), .int (-4)])) (w' := fr_w) ((ex_stp (ins := .bipush (-4)) rfl).trans rfl) ?_
    refine Go.next (f' := (21, [some (.ref 59), some (.int 2), some (.int x2), some (.int x3)], [])) (w' := fr_w) ((ex_stp (ins := .if_icmp .ne 6) rfl).trans rfl) ?_
    refine Go.next (f' := (23, [some (.ref 59), some (.int 2), some (.int x2), some (.int x3)], [.int (-11)])) (w' := fr_w) ((ex_stp (ins := .bipush (-11)) rfl).trans rfl) ?_
    exact Go.ret ((ex_stp (ins := .ireturn) rfl).trans rfl)
set_option maxRecDepth 100000 in
theorem ao_36_k3 (x2 x3 : Int32)  : A2 mt_75 mt_76 [.int 3, .int x2, .int x3] := by
  refine ⟨(-11), fr_w, fr_w, _, ?_, rfl, ?_⟩
  · show Go [] 39 mt_75 (0, [some (.ref 0), some (.int 3), some (.int x2), some (.int x3), none], []) fr_w _
    refine Go.next (f' := (1, [some (.ref 0), some (.int 3), some (.int x2), some (.int x3), none], [.int 3])) (w' := fr_w) ((ex_stp (ins := .iload_n 1) rfl).trans rfl) ?_
    refine Go.next (f' := (4, [some (.ref 0), some (.int 3), some (.int x2), some (.int x3), none], [])) (w' := fr_w) ((ex_stp (ins := .ifCond .lt 8) rfl).trans rfl) ?_
    refine Go.next (f' := (5, [some (.ref 0), some (.int 3), some (.int x2), some (.int x3), none], [.int 3])) (w' := fr_w) ((ex_stp (ins := .iload_n 1) rfl).trans rfl) ?_
    refine Go.next (f' := (6, [some (.ref 0), some (.int 3), some (.int x2), some (.int x3), none], [.int 4, .int 3])) (w' := fr_w) ((ex_stp (ins := .iconst 4) rfl).trans rfl) ?_
    refine Go.next (f' := (11, [some (.ref 0), some (.int 3), some (.int x2), some (.int x3), none], [])) (w' := fr_w) ((ex_stp (ins := .if_icmp .lt 5) rfl).trans rfl) ?_
    refine Go.next (f' := (12, [some (.ref 0), some (.int 3), some (.int x2), some (.int x3), none], [.ref 0])) (w' := fr_w) ((ex_stp (ins := .aload_n 0) rfl).trans rfl) ?_
    refine Go.next (f' := (15, [some (.ref 0), some (.int 3), some (.int x2), some (.int x3), none], [.ref 50])) (w' := fr_w) ((ex_stp (ins := .getfield 72) rfl).trans rfl) ?_
    refine Go.next (f' := (16, [some (.ref 0), some (.int 3), some (.int x2), some (.int x3), none], [.int 3, .ref 50])) (w' := fr_w) ((ex_stp (ins := .iload_n 1) rfl).trans rfl) ?_
    refine Go.next (f' := (17, [some (.ref 0), some (.int 3), some (.int x2), some (.int x3), none], [.ref 57])) (w' := fr_w) ((ex_stp (ins := .aaload) rfl).trans rfl) ?_
    refine Go.next (f' := (18, [some (.ref 0), some (.int 3), some (.int x2), some (.int x3), none], [.int x2, .ref 57])) (w' := fr_w) ((ex_stp (ins := .iload_n 2) rfl).trans rfl) ?_
    have h_191 : Go [] 38 mt_148 (ex_ent mt_148 [.ref 57, .int x2]) fr_w (some (.int 1), fr_w) := by
      show Go [] 38 mt_148 (0, [some (.ref 57), some (.int x2)], []) fr_w _
      refine Go.next (f' := (1, [some (.ref 57), some (.int x2)], [.ref 57])) (w' := fr_w) ((ex_stp (ins := .aload_n 0) rfl).trans rfl) ?_
      refine Go.next (f' := (4, [some (.ref 57), some (.int x2)], [.int (-1)])) (w' := fr_w) ((ex_stp (ins := .getfield 15) rfl).trans rfl) ?_
      refine Go.next (f' := (5, [some (.ref 57), some (.int x2)], [.int (-1), .int (-1)])) (w' := fr_w) ((ex_stp (ins := .iconst (-1)) rfl).trans rfl) ?_
      refine Go.next (f' := (8, [some (.ref 57), some (.int x2)], [])) (w' := fr_w) ((ex_stp (ins := .if_icmp .ne 5) rfl).trans rfl) ?_
      refine Go.next (f' := (9, [some (.ref 57), some (.int x2)], [.int 1])) (w' := fr_w) ((ex_stp (ins := .iconst 1) rfl).trans rfl) ?_
      exact Go.ret ((ex_stp (ins := .ireturn) rfl).trans rfl)
    refine Go.call (d := 38) (cal := 148) (as := [.ref 57, .int x2]) (g := (21, [some (.ref 0), some (.int 3), some (.int x2), some (.int x3), none], [])) (M' := mt_148) (r := some (.int 1)) (w' := fr_w) ((ex_stp (ins := .invokevirtual 246) rfl).trans rfl) rfl (Nat.le_of_ble_eq_true rfl) h_191 ?_
    show Go [] 39 mt_75 (21, [some (.ref 0), some (.int 3), some (.int x2), some (.int x3), none], [.int 1]) fr_w _
    refine Go.next (f' := (23, [some (.ref 0), some (.int 3), some (.int x2), some (.int x3), some (.int 1)], [])) (w' := fr_w) ((ex_stp (ins := .istore 4) rfl).trans rfl) ?_
    refine Go.next (f' := (25, [some (.ref 0), some (.int 3), some (.int x2), some (.int x3), some (.int 1)], [.int 1])) (w' := fr_w) ((ex_stp (ins := .iload 4) rfl).trans rfl) ?_
    refine Go.next (f' := (28, [some (.ref 0), some (.int 3), some (.int x2), some (.int x3), some (.int 1)], [])) (w' := fr_w) ((ex_stp (ins := .ifCond .eq 9) rfl).trans rfl) ?_
    refine Go.next (f' := (30, [some (.ref 0), some (.int 3), some (.int x2), some (.int x3), some (.int 1)], [.int (-10)])) (w' := fr_w) ((ex_stp (ins := .bipush (-10)) rfl).trans rfl) ?_
    refine Go.next (f' := (32, [some (.ref 0), some (.int 3), some (.int x2), some (.int x3), some (.int 1)], [.int 1, .int (-10)])) (w' := fr_w) ((ex_stp (ins := .iload 4) rfl).trans rfl) ?_
    refine Go.next (f' := (33, [some (.ref 0), some (.int 3), some (.int x2), some (.int x3), some (.int 1)], [.int (-11)])) (w' := fr_w) ((ex_stp (ins := .isub) rfl).trans rfl) ?_
    exact Go.ret ((ex_stp (ins := .ireturn) rfl).trans rfl)
  · show Go [] 39 mt_76 (0, [some (.ref 59), some (.int 3), some (.int x2), some (.int x3)], []) fr_w _
    refine Go.next (f' := (1, [some (.ref 59), some (.int 3), some (.int x2), some (.int x3)], [.int 3])) (w' := fr_w) ((ex_stp (ins := .iload_n 1) rfl).trans rfl) ?_
    refine Go.next (f' := (2, [some (.ref 59), some (.int 3), some (.int x2), some (.int x3)], [.int 0, .int 3])) (w' := fr_w) ((ex_stp (ins := .iconst 0) rfl).trans rfl) ?_
    have h_192 : Go [] 38 mt_147 (ex_ent mt_147 [.int 3, .int 0]) fr_w (some (.int 1), fr_w) := Go.of (ex_is_of kr_147_3_0_fr_w)
    refine Go.call (d := 38) (cal := 147) (as := [.int 3, .int 0]) (g := (5, [some (.ref 59), some (.int 3), some (.int x2), some (.int x3)], [])) (M' := mt_147) (r := some (.int 1)) (w' := fr_w) ((ex_stp (ins := .invokestatic 287) rfl).trans rfl) rfl (Nat.le_of_ble_eq_true rfl) h_192 ?_
    show Go [] 39 mt_76 (5, [some (.ref 59), some (.int 3), some (.int x2), some (.int x3)], [.int 1]) fr_w _
    refine Go.next (f' := (10, [some (.ref 59), some (.int 3), some (.int x2), some (.int x3)], [])) (w' := fr_w) ((ex_stp (ins := .ifCond .ne 5) rfl).trans rfl) ?_
    refine Go.next (f' := (11, [some (.ref 59), some (.int 3), some (.int x2), some (.int x3)], [.ref 59])) (w' := fr_w) ((ex_stp (ins := .aload_n 0) rfl).trans rfl) ?_
    refine Go.next (f' := (14, [some (.ref 59), some (.int 3), some (.int x2), some (.int x3)], [.ref 73])) (w' := fr_w) ((ex_stp (ins := .getfield 50) rfl).trans rfl) ?_
    refine Go.next (f' := (15, [some (.ref 59), some (.int 3), some (.int x2), some (.int x3)], [.int 3, .ref 73])) (w' := fr_w) ((ex_stp (ins := .iload_n 1) rfl).trans rfl) ?_
    refine Go.next (f' := (16, [some (.ref 59), some (.int 3), some (.int x2), some (.int x3)], [.int (-4)])) (w' := fr_w) ((ex_stp (ins := .iaload) rfl).trans rfl) ?_
    refine Go.next (f' := (18, [some (.ref 59), some (.int 3), some (.int x2), some (.int x3)], [.int (-4), .int (-4)])) (w' := fr_w) ((ex_stp (ins := .bipush (-4)) rfl).trans rfl) ?_
    refine Go.next (f' := (21, [some (.ref 59), some (.int 3), some (.int x2), some (.int x3)], [])) (w' := fr_w) ((ex_stp (ins := .if_icmp .ne 6) rfl).trans rfl) ?_
    refine Go.next (f' := (23, [some (.ref 59), some (.int 3), some (.int x2), some (.int x3)], [.int (-11)])) (w' := fr_w) ((ex_stp (ins := .bipush (-11)) rfl).trans rfl) ?_
    exact Go.ret ((ex_stp (ins := .ireturn) rfl).trans rfl)
set_option maxRecDepth 100000 in
theorem ao_37_a (x1 x2 x3 x4 : Int32) (g0 : x1.toInt < 0) : A2 mt_77 mt_78 [.int x1, .int x2, .int x3, .int x4] := by
  refine ⟨(-1), fr_w, fr_w, _, ?_, rfl, ?_⟩
  · show Go [] 39 mt_77 (0, [some (.ref 0), some (.int x1), some (.int x2), some (.int x3), some (.int x4), none, none, none, none, none, none], []) fr_w _
    refine Go.next (f' := (1, [some (.ref 0), some (.int x1), some (.int x2), some (.int x3), some (.int x4), none, none, none, none, none, none], [.int x1])) (w' := fr_w) ((ex_stp (ins := .iload_n 1) rfl).trans rfl) ?_
    refine Go.next (f' := (30, [some (.ref 0), some (.int x1), some (.int x2), some (.int x3), some (.int x4), none, none, none, none, none, none], [])) (w' := fr_w) ((ex_stp (ins := .ifCond .lt 29) rfl).trans (ex_b0_t (c := .lt) (off := 29) (pc := 1) (lo := [some (.ref 0), some (.int x1), some (.int x2), some (.int x3), some (.int x4), none, none, none, none, none, none]) (x := x1) (r := []) (by rw [c0_lt]; exact decide_eq_true (by show x1.toInt < (0 : Int); omega)) (by decide))) ?_
    refine Go.next (f' := (31, [some (.ref 0), some (.int x1), some (.int x2), some (.int x3), some (.int x4), none, none, none, none, none, none], [.int (-1)])) (w' := fr_w) ((ex_stp (ins := .iconst (-1)) rfl).trans rfl) ?_
    exact Go.ret ((ex_stp (ins := .ireturn) rfl).trans rfl)
  · show Go [] 39 mt_78 (0, [some (.ref 59), some (.int x1), some (.int x2), some (.int x3), some (.int x4), none, none, none, none, none, none, none], []) fr_w _
    refine Go.next (f' := (1, [some (.ref 59), some (.int x1), some (.int x2), some (.int x3), some (.int x4), none, none, none, none, none, none, none], [.int x1])) (w' := fr_w) ((ex_stp (ins := .iload_n 1) rfl).trans rfl) ?_
    refine Go.next (f' := (2, [some (.ref 59), some (.int x1), some (.int x2), some (.int x3), some (.int x4), none, none, none, none, none, none, none], [.int x2, .int x1])) (w' := fr_w) ((ex_stp (ins := .iload_n 2) rfl).trans rfl) ?_
    have h_193 : Go [] 38 mt_147 (ex_ent mt_147 [.int x1, .int x2]) fr_w (some (.int 0), fr_w) := by
      show Go [] 38 mt_147 (0, [some (.int x1), some (.int x2)], []) fr_w _
      refine Go.next (f' := (1, [some (.int x1), some (.int x2)], [.int x1])) (w' := fr_w) ((ex_stp (ins := .iload_n 0) rfl).trans rfl) ?_
      refine Go.next (f' := (2, [some (.int x1), some (.int x2)], [.long (x1).toInt64])) (w' := fr_w) ((ex_stp (ins := .i2l) rfl).trans rfl) ?_
      refine Go.next (f' := (3, [some (.int x1), some (.int x2)], [.long 0, .long (x1).toInt64])) (w' := fr_w) ((ex_stp (ins := .lconst 0) rfl).trans rfl) ?_
      refine Go.next (f' := (6, [some (.int x1), some (.int x2)], [.long 3, .long 0, .long (x1).toInt64])) (w' := fr_w) ((ex_stp (ins := .ldc2_w 250) rfl).trans rfl) ?_
      have h_194 : Go [] 37 mt_93 (ex_ent mt_93 [.long (x1).toInt64, .long 0, .long 3]) fr_w (some (.int 0), fr_w) := by
        show Go [] 37 mt_93 (0, [some (.long (x1).toInt64), none, some (.long 0), none, some (.long 3), none], []) fr_w _
        refine Go.next (f' := (1, [some (.long (x1).toInt64), none, some (.long 0), none, some (.long 3), none], [.long (x1).toInt64])) (w' := fr_w) ((ex_stp (ins := .lload_n 0) rfl).trans rfl) ?_
        refine Go.next (f' := (2, [some (.long (x1).toInt64), none, some (.long 0), none, some (.long 3), none], [.long 0, .long (x1).toInt64])) (w' := fr_w) ((ex_stp (ins := .lload_n 2) rfl).trans rfl) ?_
        refine Go.next (f' := (3, [some (.long (x1).toInt64), none, some (.long 0), none, some (.long 3), none], [.int (lg_cmp (x1).toInt64 0)])) (w' := fr_w) ((ex_stp (ins := .lcmp) rfl).trans rfl) ?_
        refine Go.next (f' := (17, [some (.long (x1).toInt64), none, some (.long 0), none, some (.long 3), none], [])) (w' := fr_w) ((ex_stp (ins := .ifCond .lt 14) rfl).trans (ex_b0_t (c := .lt) (off := 14) (pc := 3) (lo := [some (.long (x1).toInt64), none, some (.long 0), none, some (.long 3), none]) (x := (lg_cmp (x1).toInt64 0)) (r := []) (by rw [cl_lt]; exact decide_eq_true (by first | (rw [Int32.toInt_toInt64]; show x1.toInt < (0 : Int); omega) | omega)) (by decide))) ?_
        refine Go.next (f' := (18, [some (.long (x1).toInt64), none, some (.long 0), none, some (.long 3), none], [.int 0])) (w' := fr_w) ((ex_stp (ins := .iconst 0) rfl).trans rfl) ?_
        exact Go.ret ((ex_stp (ins := .ireturn) rfl).trans rfl)
      refine Go.call (d := 37) (cal := 93) (as := [.long (x1).toInt64, .long 0, .long 3]) (g := (9, [some (.int x1), some (.int x2)], [])) (M' := mt_93) (r := some (.int 0)) (w' := fr_w) ((ex_stp (ins := .invokestatic 95) rfl).trans rfl) rfl (Nat.le_of_ble_eq_true rfl) h_194 ?_
      show Go [] 38 mt_147 (9, [some (.int x1), some (.int x2)], [.int 0]) fr_w _
      refine Go.next (f' := (28, [some (.int x1), some (.int x2)], [])) (w' := fr_w) ((ex_stp (ins := .ifCond .eq 19) rfl).trans rfl) ?_
      refine Go.next (f' := (29, [some (.int x1), some (.int x2)], [.int 0])) (w' := fr_w) ((ex_stp (ins := .iconst 0) rfl).trans rfl) ?_
      exact Go.ret ((ex_stp (ins := .ireturn) rfl).trans rfl)
    refine Go.call (d := 38) (cal := 147) (as := [.int x1, .int x2]) (g := (5, [some (.ref 59), some (.int x1), some (.int x2), some (.int x3), some (.int x4), none, none, none, none, none, none, none], [])) (M' := mt_147) (r := some (.int 0)) (w' := fr_w) ((ex_stp (ins := .invokestatic 287) rfl).trans rfl) rfl (Nat.le_of_ble_eq_true rfl) h_193 ?_
    show Go [] 39 mt_78 (5, [some (.ref 59), some (.int x1), some (.int x2), some (.int x3), some (.int x4), none, none, none, none, none, none, none], [.int 0]) fr_w _
    refine Go.next (f' := (21, [some (.ref 59), some (.int x1), some (.int x2), some (.int x3), some (.int x4), none, none, none, none, none, none, none], [])) (w' := fr_w) ((ex_stp (ins := .ifCond .eq 16) rfl).trans rfl) ?_
    refine Go.next (f' := (22, [some (.ref 59), some (.int x1), some (.int x2), some (.int x3), some (.int x4), none, none, none, none, none, none, none], [.int (-1)])) (w' := fr_w) ((ex_stp (ins := .iconst (-1)) rfl).trans rfl) ?_
    exact Go.ret ((ex_stp (ins := .ireturn) rfl).trans rfl)
set_option maxRecDepth 100000 in
theorem ao_37_b (x1 x2 x3 x4 : Int32) (g0 : 3 < x1.toInt) : A2 mt_77 mt_78 [.int x1, .int x2, .int x3, .int x4] := by
  refine ⟨(-1), fr_w, fr_w, _, ?_, rfl, ?_⟩
  · show Go [] 39 mt_77 (0, [some (.ref 0), some (.int x1), some (.int x2), some (.int x3), some (.int x4), none, none, none, none, none, none], []) fr_w _
    refine Go.next (f' := (1, [some (.ref 0), some (.int x1), some (.int x2), some (.int x3), some (.int x4), none, none, none, none, none, none], [.int x1])) (w' := fr_w) ((ex_stp (ins := .iload_n 1) rfl).trans rfl) ?_
    refine Go.next (f' := (4, [some (.ref 0), some (.int x1), some (.int x2), some (.int x3), some (.int x4), none, none, none, none, none, none], [])) (w' := fr_w) ((ex_stp (ins := .ifCond .lt 29) rfl).trans (ex_b0_f (c := .lt) (off := 29) (pc := 1) (lo := [some (.ref 0), some (.int x1), some (.int x2), some (.int x3), some (.int x4), none, none, none, none, none, none]) (x := x1) (r := []) (by rw [c0_lt]; exact decide_eq_false (by show ¬ (x1.toInt < (0 : Int)); omega)) (by decide))) ?_
    refine Go.next (f' := (5, [some (.ref 0), some (.int x1), some (.int x2), some (.int x3), some (.int x4), none, none, none, none, none, none], [.int x1])) (w' := fr_w) ((ex_stp (ins := .iload_n 1) rfl).trans rfl) ?_
    refine Go.next (f' := (6, [some (.ref 0), some (.int x1), some (.int x2), some (.int x3), some (.int x4), none, none, none, none, none, none], [.int 4, .int x1])) (w' := fr_w) ((ex_stp (ins := .iconst 4) rfl).trans rfl) ?_
    refine Go.next (f' := (30, [some (.ref 0), some (.int x1), some (.int x2), some (.int x3), some (.int x4), none, none, none, none, none, none], [])) (w' := fr_w) ((ex_stp (ins := .if_icmp .ge 24) rfl).trans (ex_b2_t (c := .ge) (off := 24) (pc := 6) (lo := [some (.ref 0), some (.int x1), some (.int x2), some (.int x3), some (.int x4), none, none, none, none, none, none]) (x := x1) (y := 4) (r := []) (by rw [c2_ge]; exact decide_eq_true (by show (4 : Int) ≤ x1.toInt; omega)) (by decide))) ?_
    refine Go.next (f' := (31, [some (.ref 0), some (.int x1), some (.int x2), some (.int x3), some (.int x4), none, none, none, none, none, none], [.int (-1)])) (w' := fr_w) ((ex_stp (ins := .iconst (-1)) rfl).trans rfl) ?_
    exact Go.ret ((ex_stp (ins := .ireturn) rfl).trans rfl)
  · show Go [] 39 mt_78 (0, [some (.ref 59), some (.int x1), some (.int x2), some (.int x3), some (.int x4), none, none, none, none, none, none, none], []) fr_w _
    refine Go.next (f' := (1, [some (.ref 59), some (.int x1), some (.int x2), some (.int x3), some (.int x4), none, none, none, none, none, none, none], [.int x1])) (w' := fr_w) ((ex_stp (ins := .iload_n 1) rfl).trans rfl) ?_
    refine Go.next (f' := (2, [some (.ref 59), some (.int x1), some (.int x2), some (.int x3), some (.int x4), none, none, none, none, none, none, none], [.int x2, .int x1])) (w' := fr_w) ((ex_stp (ins := .iload_n 2) rfl).trans rfl) ?_
    have h_195 : Go [] 38 mt_147 (ex_ent mt_147 [.int x1, .int x2]) fr_w (some (.int 0), fr_w) := by
      show Go [] 38 mt_147 (0, [some (.int x1), some (.int x2)], []) fr_w _
      refine Go.next (f' := (1, [some (.int x1), some (.int x2)], [.int x1])) (w' := fr_w) ((ex_stp (ins := .iload_n 0) rfl).trans rfl) ?_
      refine Go.next (f' := (2, [some (.int x1), some (.int x2)], [.long (x1).toInt64])) (w' := fr_w) ((ex_stp (ins := .i2l) rfl).trans rfl) ?_
      refine Go.next (f' := (3, [some (.int x1), some (.int x2)], [.long 0, .long (x1).toInt64])) (w' := fr_w) ((ex_stp (ins := .lconst 0) rfl).trans rfl) ?_
      refine Go.next (f' := (6, [some (.int x1), some (.int x2)], [.long 3, .long 0, .long (x1).toInt64])) (w' := fr_w) ((ex_stp (ins := .ldc2_w 250) rfl).trans rfl) ?_
      have h_196 : Go [] 37 mt_93 (ex_ent mt_93 [.long (x1).toInt64, .long 0, .long 3]) fr_w (some (.int 0), fr_w) := by
        show Go [] 37 mt_93 (0, [some (.long (x1).toInt64), none, some (.long 0), none, some (.long 3), none], []) fr_w _
        refine Go.next (f' := (1, [some (.long (x1).toInt64), none, some (.long 0), none, some (.long 3), none], [.long (x1).toInt64])) (w' := fr_w) ((ex_stp (ins := .lload_n 0) rfl).trans rfl) ?_
        refine Go.next (f' := (2, [some (.long (x1).toInt64), none, some (.long 0), none, some (.long 3), none], [.long 0, .long (x1).toInt64])) (w' := fr_w) ((ex_stp (ins := .lload_n 2) rfl).trans rfl) ?_
        refine Go.next (f' := (3, [some (.long (x1).toInt64), none, some (.long 0), none, some (.long 3), none], [.int (lg_cmp (x1).toInt64 0)])) (w' := fr_w) ((ex_stp (ins := .lcmp) rfl).trans rfl) ?_
        refine Go.next (f' := (6, [some (.long (x1).toInt64), none, some (.long 0), none, some (.long 3), none], [])) (w' := fr_w) ((ex_stp (ins := .ifCond .lt 14) rfl).trans (ex_b0_f (c := .lt) (off := 14) (pc := 3) (lo := [some (.long (x1).toInt64), none, some (.long 0), none, some (.long 3), none]) (x := (lg_cmp (x1).toInt64 0)) (r := []) (by rw [cl_lt]; exact decide_eq_false (by first | (rw [Int32.toInt_toInt64]; show ¬ (x1.toInt < (0 : Int)); omega) | omega)) (by decide))) ?_
        refine Go.next (f' := (7, [some (.long (x1).toInt64), none, some (.long 0), none, some (.long 3), none], [.long (x1).toInt64])) (w' := fr_w) ((ex_stp (ins := .lload_n 0) rfl).trans rfl) ?_
        refine Go.next (f' := (9, [some (.long (x1).toInt64), none, some (.long 0), none, some (.long 3), none], [.long 3, .long (x1).toInt64])) (w' := fr_w) ((ex_stp (ins := .lload 4) rfl).trans rfl) ?_
        refine Go.next (f' := (10, [some (.long (x1).toInt64), none, some (.long 0), none, some (.long 3), none], [.int (lg_cmp (x1).toInt64 3)])) (w' := fr_w) ((ex_stp (ins := .lcmp) rfl).trans rfl) ?_
        refine Go.next (f' := (17, [some (.long (x1).toInt64), none, some (.long 0), none, some (.long 3), none], [])) (w' := fr_w) ((ex_stp (ins := .ifCond .gt 7) rfl).trans (ex_b0_t (c := .gt) (off := 7) (pc := 10) (lo := [some (.long (x1).toInt64), none, some (.long 0), none, some (.long 3), none]) (x := (lg_cmp (x1).toInt64 3)) (r := []) (by rw [cl_gt]; exact decide_eq_true (by first | (rw [Int32.toInt_toInt64]; show (3 : Int) < x1.toInt; omega) | omega)) (by decide))) ?_
        refine Go.next (f' := (18, [some (.long (x1).toInt64), none, some (.long 0), none, some (.long 3), none], [.int 0])) (w' := fr_w) ((ex_stp (ins := .iconst 0) rfl).trans rfl) ?_
        exact Go.ret ((ex_stp (ins := .ireturn) rfl).trans rfl)
      refine Go.call (d := 37) (cal := 93) (as := [.long (x1).toInt64, .long 0, .long 3]) (g := (9, [some (.int x1), some (.int x2)], [])) (M' := mt_93) (r := some (.int 0)) (w' := fr_w) ((ex_stp (ins := .invokestatic 95) rfl).trans rfl) rfl (Nat.le_of_ble_eq_true rfl) h_196 ?_
      show Go [] 38 mt_147 (9, [some (.int x1), some (.int x2)], [.int 0]) fr_w _
      refine Go.next (f' := (28, [some (.int x1), some (.int x2)], [])) (w' := fr_w) ((ex_stp (ins := .ifCond .eq 19) rfl).trans rfl) ?_
      refine Go.next (f' := (29, [some (.int x1), some (.int x2)], [.int 0])) (w' := fr_w) ((ex_stp (ins := .iconst 0) rfl).trans rfl) ?_
      exact Go.ret ((ex_stp (ins := .ireturn) rfl).trans rfl)
    refine Go.call (d := 38) (cal := 147) (as := [.int x1, .int x2]) (g := (5, [some (.ref 59), some (.int x1), some (.int x2), some (.int x3), some (.int x4), none, none, none, none, none, none, none], [])) (M' := mt_147) (r := some (.int 0)) (w' := fr_w) ((ex_stp (ins := .invokestatic 287) rfl).trans rfl) rfl (Nat.le_of_ble_eq_true rfl) h_195 ?_
    show Go [] 39 mt_78 (5, [some (.ref 59), some (.int x1), some (.int x2), some (.int x3), some (.int x4), none, none, none, none, none, none, none], [.int 0]) fr_w _
    refine Go.next (f' := (21, [some (.ref 59), some (.int x1), some (.int x2), some (.int x3), some (.int x4), none, none, none, none, none, none, none], [])) (w' := fr_w) ((ex_stp (ins := .ifCond .eq 16) rfl).trans rfl) ?_
    refine Go.next (f' := (22, [some (.ref 59), some (.int x1), some (.int x2), some (.int x3), some (.int x4), none, none, none, none, none, none, none], [.int (-1)])) (w' := fr_w) ((ex_stp (ins := .iconst (-1)) rfl).trans rfl) ?_
    exact Go.ret ((ex_stp (ins := .ireturn) rfl).trans rfl)
set_option maxRecDepth 100000 in
theorem ao_37_c (x1 x2 x3 x4 : Int32) (g0 : 0 ≤ x1.toInt) (g1 : x1.toInt ≤ 3) (g2 : x2.toInt < 0) : A2 mt_77 mt_78 [.int x1, .int x2, .int x3, .int x4] := by
  refine ⟨(-1), fr_w, fr_w, _, ?_, rfl, ?_⟩
  · show Go [] 39 mt_77 (0, [some (.ref 0), some (.int x1), some (.int x2), some (.int x3), some (.int x4), none, none, none, none, none, none], []) fr_w _
    refine Go.next (f' := (1, [some (.ref 0), some (.int x1), some (.int x2), some (.int x3), some (.int x4), none, none, none, none, none, none], [.int x1])) (w' := fr_w) ((ex_stp (ins := .iload_n 1) rfl).trans rfl) ?_
    refine Go.next (f' := (4, [some (.ref 0), some (.int x1), some (.int x2), some (.int x3), some (.int x4), none, none, none, none, none, none], [])) (w' := fr_w) ((ex_stp (ins := .ifCond .lt 29) rfl).trans (ex_b0_f (c := .lt) (off := 29) (pc := 1) (lo := [some (.ref 0), some (.int x1), some (.int x2), some (.int x3), some (.int x4), none, none, none, none, none, none]) (x := x1) (r := []) (by rw [c0_lt]; exact decide_eq_false (by show ¬ (x1.toInt < (0 : Int)); omega)) (by decide))) ?_
    refine Go.next (f' := (5, [some (.ref 0), some (.int x1), some (.int x2), some (.int x3), some (.int x4), none, none, none, none, none, none], [.int x1])) (w' := fr_w) ((ex_stp (ins := .iload_n 1) rfl).trans rfl) ?_
    refine Go.next (f' := (6, [some (.ref 0), some (.int x1), some (.int x2), some (.int x3), some (.int x4), none, none, none, none, none, none], [.int 4, .int x1])) (w' := fr_w) ((ex_stp (ins := .iconst 4) rfl).trans rfl) ?_
    refine Go.next (f' := (9, [some (.ref 0), some (.int x1), some (.int x2), some (.int x3), some (.int x4), none, none, none, none, none, none], [])) (w' := fr_w) ((ex_stp (ins := .if_icmp .ge 24) rfl).trans (ex_b2_f (c := .ge) (off := 24) (pc := 6) (lo := [some (.ref 0), some (.int x1), some (.int x2), some (.int x3), some (.int x4), none, none, none, none, none, none]) (x := x1) (y := 4) (r := []) (by rw [c2_ge]; exact decide_eq_false (by show ¬ ((4 : Int) ≤ x1.toInt); omega)) (by decide))) ?_
    refine Go.next (f' := (10, [some (.ref 0), some (.int x1), some (.int x2), some (.int x3), some (.int x4), none, none, none, none, none, none], [.int x2])) (w' := fr_w) ((ex_stp (ins := .iload_n 2) rfl).trans rfl) ?_
    refine Go.next (f' := (30, [some (.ref 0), some (.int x1), some (.int x2), some (.int x3), some (.int x4), none, none, none, none, none, none], [])) (w' := fr_w) ((ex_stp (ins := .ifCond .lt 20) rfl).trans (ex_b0_t (c := .lt) (off := 20) (pc := 10) (lo := [some (.ref 0), some (.int x1), some (.int x2), some (.int x3), some (.int x4), none, none, none, none, none, none]) (x := x2) (r := []) (by rw [c0_lt]; exact decide_eq_true (by show x2.toInt < (0 : Int); omega)) (by decide))) ?_
    refine Go.next (f' := (31, [some (.ref 0), some (.int x1), some (.int x2), some (.int x3), some (.int x4), none, none, none, none, none, none], [.int (-1)])) (w' := fr_w) ((ex_stp (ins := .iconst (-1)) rfl).trans rfl) ?_
    exact Go.ret ((ex_stp (ins := .ireturn) rfl).trans rfl)
  · show Go [] 39 mt_78 (0, [some (.ref 59), some (.int x1), some (.int x2), some (.int x3), some (.int x4), none, none, none, none, none, none, none], []) fr_w _
    refine Go.next (f' := (1, [some (.ref 59), some (.int x1), some (.int x2), some (.int x3), some (.int x4), none, none, none, none, none, none, none], [.int x1])) (w' := fr_w) ((ex_stp (ins := .iload_n 1) rfl).trans rfl) ?_
    refine Go.next (f' := (2, [some (.ref 59), some (.int x1), some (.int x2), some (.int x3), some (.int x4), none, none, none, none, none, none, none], [.int x2, .int x1])) (w' := fr_w) ((ex_stp (ins := .iload_n 2) rfl).trans rfl) ?_
    have h_197 : Go [] 38 mt_147 (ex_ent mt_147 [.int x1, .int x2]) fr_w (some (.int 0), fr_w) := by
      show Go [] 38 mt_147 (0, [some (.int x1), some (.int x2)], []) fr_w _
      refine Go.next (f' := (1, [some (.int x1), some (.int x2)], [.int x1])) (w' := fr_w) ((ex_stp (ins := .iload_n 0) rfl).trans rfl) ?_
      refine Go.next (f' := (2, [some (.int x1), some (.int x2)], [.long (x1).toInt64])) (w' := fr_w) ((ex_stp (ins := .i2l) rfl).trans rfl) ?_
      refine Go.next (f' := (3, [some (.int x1), some (.int x2)], [.long 0, .long (x1).toInt64])) (w' := fr_w) ((ex_stp (ins := .lconst 0) rfl).trans rfl) ?_
      refine Go.next (f' := (6, [some (.int x1), some (.int x2)], [.long 3, .long 0, .long (x1).toInt64])) (w' := fr_w) ((ex_stp (ins := .ldc2_w 250) rfl).trans rfl) ?_
      have h_198 : Go [] 37 mt_93 (ex_ent mt_93 [.long (x1).toInt64, .long 0, .long 3]) fr_w (some (.int 1), fr_w) := by
        show Go [] 37 mt_93 (0, [some (.long (x1).toInt64), none, some (.long 0), none, some (.long 3), none], []) fr_w _
        refine Go.next (f' := (1, [some (.long (x1).toInt64), none, some (.long 0), none, some (.long 3), none], [.long (x1).toInt64])) (w' := fr_w) ((ex_stp (ins := .lload_n 0) rfl).trans rfl) ?_
        refine Go.next (f' := (2, [some (.long (x1).toInt64), none, some (.long 0), none, some (.long 3), none], [.long 0, .long (x1).toInt64])) (w' := fr_w) ((ex_stp (ins := .lload_n 2) rfl).trans rfl) ?_
        refine Go.next (f' := (3, [some (.long (x1).toInt64), none, some (.long 0), none, some (.long 3), none], [.int (lg_cmp (x1).toInt64 0)])) (w' := fr_w) ((ex_stp (ins := .lcmp) rfl).trans rfl) ?_
        refine Go.next (f' := (6, [some (.long (x1).toInt64), none, some (.long 0), none, some (.long 3), none], [])) (w' := fr_w) ((ex_stp (ins := .ifCond .lt 14) rfl).trans (ex_b0_f (c := .lt) (off := 14) (pc := 3) (lo := [some (.long (x1).toInt64), none, some (.long 0), none, some (.long 3), none]) (x := (lg_cmp (x1).toInt64 0)) (r := []) (by rw [cl_lt]; exact decide_eq_false (by first | (rw [Int32.toInt_toInt64]; show ¬ (x1.toInt < (0 : Int)); omega) | omega)) (by decide))) ?_
        refine Go.next (f' := (7, [some (.long (x1).toInt64), none, some (.long 0), none, some (.long 3), none], [.long (x1).toInt64])) (w' := fr_w) ((ex_stp (ins := .lload_n 0) rfl).trans rfl) ?_
        refine Go.next (f' := (9, [some (.long (x1).toInt64), none, some (.long 0), none, some (.long 3), none], [.long 3, .long (x1).toInt64])) (w' := fr_w) ((ex_stp (ins := .lload 4) rfl).trans rfl) ?_
        refine Go.next (f' := (10, [some (.long (x1).toInt64), none, some (.long 0), none, some (.long 3), none], [.int (lg_cmp (x1).toInt64 3)])) (w' := fr_w) ((ex_stp (ins := .lcmp) rfl).trans rfl) ?_
        refine Go.next (f' := (13, [some (.long (x1).toInt64), none, some (.long 0), none, some (.long 3), none], [])) (w' := fr_w) ((ex_stp (ins := .ifCond .gt 7) rfl).trans (ex_b0_f (c := .gt) (off := 7) (pc := 10) (lo := [some (.long (x1).toInt64), none, some (.long 0), none, some (.long 3), none]) (x := (lg_cmp (x1).toInt64 3)) (r := []) (by rw [cl_gt]; exact decide_eq_false (by first | (rw [Int32.toInt_toInt64]; show ¬ ((3 : Int) < x1.toInt); omega) | omega)) (by decide))) ?_
        refine Go.next (f' := (14, [some (.long (x1).toInt64), none, some (.long 0), none, some (.long 3), none], [.int 1])) (w' := fr_w) ((ex_stp (ins := .iconst 1) rfl).trans rfl) ?_
        refine Go.next (f' := (18, [some (.long (x1).toInt64), none, some (.long 0), none, some (.long 3), none], [.int 1])) (w' := fr_w) ((ex_stp (ins := .goto 4) rfl).trans rfl) ?_
        exact Go.ret ((ex_stp (ins := .ireturn) rfl).trans rfl)
      refine Go.call (d := 37) (cal := 93) (as := [.long (x1).toInt64, .long 0, .long 3]) (g := (9, [some (.int x1), some (.int x2)], [])) (M' := mt_93) (r := some (.int 1)) (w' := fr_w) ((ex_stp (ins := .invokestatic 95) rfl).trans rfl) rfl (Nat.le_of_ble_eq_true rfl) h_198 ?_
      show Go [] 38 mt_147 (9, [some (.int x1), some (.int x2)], [.int 1]) fr_w _
      refine Go.next (f' := (12, [some (.int x1), some (.int x2)], [])) (w' := fr_w) ((ex_stp (ins := .ifCond .eq 19) rfl).trans rfl) ?_
      refine Go.next (f' := (13, [some (.int x1), some (.int x2)], [.int x2])) (w' := fr_w) ((ex_stp (ins := .iload_n 1) rfl).trans rfl) ?_
      refine Go.next (f' := (14, [some (.int x1), some (.int x2)], [.long (x2).toInt64])) (w' := fr_w) ((ex_stp (ins := .i2l) rfl).trans rfl) ?_
      refine Go.next (f' := (15, [some (.int x1), some (.int x2)], [.long 0, .long (x2).toInt64])) (w' := fr_w) ((ex_stp (ins := .lconst 0) rfl).trans rfl) ?_
      refine Go.next (f' := (18, [some (.int x1), some (.int x2)], [.long 2, .long 0, .long (x2).toInt64])) (w' := fr_w) ((ex_stp (ins := .ldc2_w 192) rfl).trans rfl) ?_
      have h_199 : Go [] 37 mt_93 (ex_ent mt_93 [.long (x2).toInt64, .long 0, .long 2]) fr_w (some (.int 0), fr_w) := by
        show Go [] 37 mt_93 (0, [some (.long (x2).toInt64), none, some (.long 0), none, some (.long 2), none], []) fr_w _
        refine Go.next (f' := (1, [some (.long (x2).toInt64), none, some (.long 0), none, some (.long 2), none], [.long (x2).toInt64])) (w' := fr_w) ((ex_stp (ins := .lload_n 0) rfl).trans rfl) ?_
        refine Go.next (f' := (2, [some (.long (x2).toInt64), none, some (.long 0), none, some (.long 2), none], [.long 0, .long (x2).toInt64])) (w' := fr_w) ((ex_stp (ins := .lload_n 2) rfl).trans rfl) ?_
        refine Go.next (f' := (3, [some (.long (x2).toInt64), none, some (.long 0), none, some (.long 2), none], [.int (lg_cmp (x2).toInt64 0)])) (w' := fr_w) ((ex_stp (ins := .lcmp) rfl).trans rfl) ?_
        refine Go.next (f' := (17, [some (.long (x2).toInt64), none, some (.long 0), none, some (.long 2), none], [])) (w' := fr_w) ((ex_stp (ins := .ifCond .lt 14) rfl).trans (ex_b0_t (c := .lt) (off := 14) (pc := 3) (lo := [some (.long (x2).toInt64), none, some (.long 0), none, some (.long 2), none]) (x := (lg_cmp (x2).toInt64 0)) (r := []) (by rw [cl_lt]; exact decide_eq_true (by first | (rw [Int32.toInt_toInt64]; show x2.toInt < (0 : Int); omega) | omega)) (by decide))) ?_
        refine Go.next (f' := (18, [some (.long (x2).toInt64), none, some (.long 0), none, some (.long 2), none], [.int 0])) (w' := fr_w) ((ex_stp (ins := .iconst 0) rfl).trans rfl) ?_
        exact Go.ret ((ex_stp (ins := .ireturn) rfl).trans rfl)
      refine Go.call (d := 37) (cal := 93) (as := [.long (x2).toInt64, .long 0, .long 2]) (g := (21, [some (.int x1), some (.int x2)], [])) (M' := mt_93) (r := some (.int 0)) (w' := fr_w) ((ex_stp (ins := .invokestatic 95) rfl).trans rfl) rfl (Nat.le_of_ble_eq_true rfl) h_199 ?_
      show Go [] 38 mt_147 (21, [some (.int x1), some (.int x2)], [.int 0]) fr_w _
      refine Go.next (f' := (28, [some (.int x1), some (.int x2)], [])) (w' := fr_w) ((ex_stp (ins := .ifCond .eq 7) rfl).trans rfl) ?_
      refine Go.next (f' := (29, [some (.int x1), some (.int x2)], [.int 0])) (w' := fr_w) ((ex_stp (ins := .iconst 0) rfl).trans rfl) ?_
      exact Go.ret ((ex_stp (ins := .ireturn) rfl).trans rfl)
    refine Go.call (d := 38) (cal := 147) (as := [.int x1, .int x2]) (g := (5, [some (.ref 59), some (.int x1), some (.int x2), some (.int x3), some (.int x4), none, none, none, none, none, none, none], [])) (M' := mt_147) (r := some (.int 0)) (w' := fr_w) ((ex_stp (ins := .invokestatic 287) rfl).trans rfl) rfl (Nat.le_of_ble_eq_true rfl) h_197 ?_
    show Go [] 39 mt_78 (5, [some (.ref 59), some (.int x1), some (.int x2), some (.int x3), some (.int x4), none, none, none, none, none, none, none], [.int 0]) fr_w _
    refine Go.next (f' := (21, [some (.ref 59), some (.int x1), some (.int x2), some (.int x3), some (.int x4), none, none, none, none, none, none, none], [])) (w' := fr_w) ((ex_stp (ins := .ifCond .eq 16) rfl).trans rfl) ?_
    refine Go.next (f' := (22, [some (.ref 59), some (.int x1), some (.int x2), some (.int x3), some (.int x4), none, none, none, none, none, none, none], [.int (-1)])) (w' := fr_w) ((ex_stp (ins := .iconst (-1)) rfl).trans rfl) ?_
    exact Go.ret ((ex_stp (ins := .ireturn) rfl).trans rfl)
set_option maxRecDepth 100000 in
theorem ao_37_d (x1 x2 x3 x4 : Int32) (g0 : 0 ≤ x1.toInt) (g1 : x1.toInt ≤ 3) (g2 : 2 < x2.toInt) : A2 mt_77 mt_78 [.int x1, .int x2, .int x3, .int x4] := by
  refine ⟨(-1), fr_w, fr_w, _, ?_, rfl, ?_⟩
  · show Go [] 39 mt_77 (0, [some (.ref 0), some (.int x1), some (.int x2), some (.int x3), some (.int x4), none, none, none, none, none, none], []) fr_w _
    refine Go.next (f' := (1, [some (.ref 0), some (.int x1), some (.int x2), some (.int x3), some (.int x4), none, none, none, none, none, none], [.int x1])) (w' := fr_w) ((ex_stp (ins := .iload_n 1) rfl).trans rfl) ?_
    refine Go.next (f' := (4, [some (.ref 0), some (.int x1), some (.int x2), some (.int x3), some (.int x4), none, none, none, none, none, none], [])) (w' := fr_w) ((ex_stp (ins := .ifCond .lt 29) rfl).trans (ex_b0_f (c := .lt) (off := 29) (pc := 1) (lo := [some (.ref 0), some (.int x1), some (.int x2), some (.int x3), some (.int x4), none, none, none, none, none, none]) (x := x1) (r := []) (by rw [c0_lt]; exact decide_eq_false (by show ¬ (x1.toInt < (0 : Int)); omega)) (by decide))) ?_
    refine Go.next (f' := (5, [some (.ref 0), some (.int x1), some (.int x2), some (.int x3), some (.int x4), none, none, none, none, none, none], [.int x1])) (w' := fr_w) ((ex_stp (ins := .iload_n 1) rfl).trans rfl) ?_
    refine Go.next (f' := (6, [some (.ref 0), some (.int x1), some (.int x2), some (.int x3), some (.int x4), none, none, none, none, none, none], [.int 4, .int x1])) (w' := fr_w) ((ex_stp (ins := .iconst 4) rfl).trans rfl) ?_
    refine Go.next (f' := (9, [some (.ref 0), some (.int x1), some (.int x2), some (.int x3), some (.int x4), none, none, none, none, none, none], [])) (w' := fr_w) ((ex_stp (ins := .if_icmp .ge 24) rfl).trans (ex_b2_f (c := .ge) (off := 24) (pc := 6) (lo := [some (.ref 0), some (.int x1), some (.int x2), some (.int x3), some (.int x4), none, none, none, none, none, none]) (x := x1) (y := 4) (r := []) (by rw [c2_ge]; exact decide_eq_false (by show ¬ ((4 : Int) ≤ x1.toInt); omega)) (by decide))) ?_
    refine Go.next (f' := (10, [some (.ref 0), some (.int x1), some (.int x2), some (.int x3), some (.int x4), none, none, none, none, none, none], [.int x2])) (w' := fr_w) ((ex_stp (ins := .iload_n 2) rfl).trans rfl) ?_
    refine Go.next (f' := (13, [some (.ref 0), some (.int x1), some (.int x2), some (.int x3), some (.int x4), none, none, none, none, none, none], [])) (w' := fr_w) ((ex_stp (ins := .ifCond .lt 20) rfl).trans (ex_b0_f (c := .lt) (off := 20) (pc := 10) (lo := [some (.ref 0), some (.int x1), some (.int x2), some (.int x3), some (.int x4), none, none, none, none, none, none]) (x := x2) (r := []) (by rw [c0_lt]; exact decide_eq_false (by show ¬ (x2.toInt < (0 : Int)); omega)) (by decide))) ?_
    refine Go.next (f' := (14, [some (.ref 0), some (.int x1), some (.int x2), some (.int x3), some (.int x4), none, none, none, none, none, none], [.int x2])) (w' := fr_w) ((ex_stp (ins := .iload_n 2) rfl).trans rfl) ?_
    refine Go.next (f' := (15, [some (.ref 0), some (.int x1), some (.int x2), some (.int x3), some (.int x4), none, none, none, none, none, none], [.int 2, .int x2])) (w' := fr_w) ((ex_stp (ins := .iconst 2) rfl).trans rfl) ?_
    refine Go.next (f' := (30, [some (.ref 0), some (.int x1), some (.int x2), some (.int x3), some (.int x4), none, none, none, none, none, none], [])) (w' := fr_w) ((ex_stp (ins := .if_icmp .gt 15) rfl).trans (ex_b2_t (c := .gt) (off := 15) (pc := 15) (lo := [some (.ref 0), some (.int x1), some (.int x2), some (.int x3), some (.int x4), none, none, none, none, none, none]) (x := x2) (y := 2) (r := []) (by rw [c2_gt]; exact decide_eq_true (by show (2 : Int) < x2.toInt; omega)) (by decide))) ?_
    refine Go.next (f' := (31, [some (.ref 0), some (.int x1), some (.int x2), some (.int x3), some (.int x4), none, none, none, none, none, none], [.int (-1)])) (w' := fr_w) ((ex_stp (ins := .iconst (-1)) rfl).trans rfl) ?_
    exact Go.ret ((ex_stp (ins := .ireturn) rfl).trans rfl)
  · show Go [] 39 mt_78 (0, [some (.ref 59), some (.int x1), some (.int x2), some (.int x3), some (.int x4), none, none, none, none, none, none, none], []) fr_w _
    refine Go.next (f' := (1, [some (.ref 59), some (.int x1), some (.int x2), some (.int x3), some (.int x4), none, none, none, none, none, none, none], [.int x1])) (w' := fr_w) ((ex_stp (ins := .iload_n 1) rfl).trans rfl) ?_
    refine Go.next (f' := (2, [some (.ref 59), some (.int x1), some (.int x2), some (.int x3), some (.int x4), none, none, none, none, none, none, none], [.int x2, .int x1])) (w' := fr_w) ((ex_stp (ins := .iload_n 2) rfl).trans rfl) ?_
    have h_200 : Go [] 38 mt_147 (ex_ent mt_147 [.int x1, .int x2]) fr_w (some (.int 0), fr_w) := by
      show Go [] 38 mt_147 (0, [some (.int x1), some (.int x2)], []) fr_w _
      refine Go.next (f' := (1, [some (.int x1), some (.int x2)], [.int x1])) (w' := fr_w) ((ex_stp (ins := .iload_n 0) rfl).trans rfl) ?_
      refine Go.next (f' := (2, [some (.int x1), some (.int x2)], [.long (x1).toInt64])) (w' := fr_w) ((ex_stp (ins := .i2l) rfl).trans rfl) ?_
      refine Go.next (f' := (3, [some (.int x1), some (.int x2)], [.long 0, .long (x1).toInt64])) (w' := fr_w) ((ex_stp (ins := .lconst 0) rfl).trans rfl) ?_
      refine Go.next (f' := (6, [some (.int x1), some (.int x2)], [.long 3, .long 0, .long (x1).toInt64])) (w' := fr_w) ((ex_stp (ins := .ldc2_w 250) rfl).trans rfl) ?_
      have h_201 : Go [] 37 mt_93 (ex_ent mt_93 [.long (x1).toInt64, .long 0, .long 3]) fr_w (some (.int 1), fr_w) := by
        show Go [] 37 mt_93 (0, [some (.long (x1).toInt64), none, some (.long 0), none, some (.long 3), none], []) fr_w _
        refine Go.next (f' := (1, [some (.long (x1).toInt64), none, some (.long 0), none, some (.long 3), none], [.long (x1).toInt64])) (w' := fr_w) ((ex_stp (ins := .lload_n 0) rfl).trans rfl) ?_
        refine Go.next (f' := (2, [some (.long (x1).toInt64), none, some (.long 0), none, some (.long 3), none], [.long 0, .long (x1).toInt64])) (w' := fr_w) ((ex_stp (ins := .lload_n 2) rfl).trans rfl) ?_
        refine Go.next (f' := (3, [some (.long (x1).toInt64), none, some (.long 0), none, some (.long 3), none], [.int (lg_cmp (x1).toInt64 0)])) (w' := fr_w) ((ex_stp (ins := .lcmp) rfl).trans rfl) ?_
        refine Go.next (f' := (6, [some (.long (x1).toInt64), none, some (.long 0), none, some (.long 3), none], [])) (w' := fr_w) ((ex_stp (ins := .ifCond .lt 14) rfl).trans (ex_b0_f (c := .lt) (off := 14) (pc := 3) (lo := [some (.long (x1).toInt64), none, some (.long 0), none, some (.long 3), none]) (x := (lg_cmp (x1).toInt64 0)) (r := []) (by rw [cl_lt]; exact decide_eq_false (by first | (rw [Int32.toInt_toInt64]; show ¬ (x1.toInt < (0 : Int)); omega) | omega)) (by decide))) ?_
        refine Go.next (f' := (7, [some (.long (x1).toInt64), none, some (.long 0), none, some (.long 3), none], [.long (x1).toInt64])) (w' := fr_w) ((ex_stp (ins := .lload_n 0) rfl).trans rfl) ?_
        refine Go.next (f' := (9, [some (.long (x1).toInt64), none, some (.long 0), none, some (.long 3), none], [.long 3, .long (x1).toInt64])) (w' := fr_w) ((ex_stp (ins := .lload 4) rfl).trans rfl) ?_
        refine Go.next (f' := (10, [some (.long (x1).toInt64), none, some (.long 0), none, some (.long 3), none], [.int (lg_cmp (x1).toInt64 3)])) (w' := fr_w) ((ex_stp (ins := .lcmp) rfl).trans rfl) ?_
        refine Go.next (f' := (13, [some (.long (x1).toInt64), none, some (.long 0), none, some (.long 3), none], [])) (w' := fr_w) ((ex_stp (ins := .ifCond .gt 7) rfl).trans (ex_b0_f (c := .gt) (off := 7) (pc := 10) (lo := [some (.long (x1).toInt64), none, some (.long 0), none, some (.long 3), none]) (x := (lg_cmp (x1).toInt64 3)) (r := []) (by rw [cl_gt]; exact decide_eq_false (by first | (rw [Int32.toInt_toInt64]; show ¬ ((3 : Int) < x1.toInt); omega) | omega)) (by decide))) ?_
        refine Go.next (f' := (14, [some (.long (x1).toInt64), none, some (.long 0), none, some (.long 3), none], [.int 1])) (w' := fr_w) ((ex_stp (ins := .iconst 1) rfl).trans rfl) ?_
        refine Go.next (f' := (18, [some (.long (x1).toInt64), none, some (.long 0), none, some (.long 3), none], [.int 1])) (w' := fr_w) ((ex_stp (ins := .goto 4) rfl).trans rfl) ?_
        exact Go.ret ((ex_stp (ins := .ireturn) rfl).trans rfl)
      refine Go.call (d := 37) (cal := 93) (as := [.long (x1).toInt64, .long 0, .long 3]) (g := (9, [some (.int x1), some (.int x2)], [])) (M' := mt_93) (r := some (.int 1)) (w' := fr_w) ((ex_stp (ins := .invokestatic 95) rfl).trans rfl) rfl (Nat.le_of_ble_eq_true rfl) h_201 ?_
      show Go [] 38 mt_147 (9, [some (.int x1), some (.int x2)], [.int 1]) fr_w _
      refine Go.next (f' := (12, [some (.int x1), some (.int x2)], [])) (w' := fr_w) ((ex_stp (ins := .ifCond .eq 19) rfl).trans rfl) ?_
      refine Go.next (f' := (13, [some (.int x1), some (.int x2)], [.int x2])) (w' := fr_w) ((ex_stp (ins := .iload_n 1) rfl).trans rfl) ?_
      refine Go.next (f' := (14, [some (.int x1), some (.int x2)], [.long (x2).toInt64])) (w' := fr_w) ((ex_stp (ins := .i2l) rfl).trans rfl) ?_
      refine Go.next (f' := (15, [some (.int x1), some (.int x2)], [.long 0, .long (x2).toInt64])) (w' := fr_w) ((ex_stp (ins := .lconst 0) rfl).trans rfl) ?_
      refine Go.next (f' := (18, [some (.int x1), some (.int x2)], [.long 2, .long 0, .long (x2).toInt64])) (w' := fr_w) ((ex_stp (ins := .ldc2_w 192) rfl).trans rfl) ?_
      have h_202 : Go [] 37 mt_93 (ex_ent mt_93 [.long (x2).toInt64, .long 0, .long 2]) fr_w (some (.int 0), fr_w) := by
        show Go [] 37 mt_93 (0, [some (.long (x2).toInt64), none, some (.long 0), none, some (.long 2), none], []) fr_w _
        refine Go.next (f' := (1, [some (.long (x2).toInt64), none, some (.long 0), none, some (.long 2), none], [.long (x2).toInt64])) (w' := fr_w) ((ex_stp (ins := .lload_n 0) rfl).trans rfl) ?_
        refine Go.next (f' := (2, [some (.long (x2).toInt64), none, some (.long 0), none, some (.long 2), none], [.long 0, .long (x2).toInt64])) (w' := fr_w) ((ex_stp (ins := .lload_n 2) rfl).trans rfl) ?_
        refine Go.next (f' := (3, [some (.long (x2).toInt64), none, some (.long 0), none, some (.long 2), none], [.int (lg_cmp (x2).toInt64 0)])) (w' := fr_w) ((ex_stp (ins := .lcmp) rfl).trans rfl) ?_
        refine Go.next (f' := (6, [some (.long (x2).toInt64), none, some (.long 0), none, some (.long 2), none], [])) (w' := fr_w) ((ex_stp (ins := .ifCond .lt 14) rfl).trans (ex_b0_f (c := .lt) (off := 14) (pc := 3) (lo := [some (.long (x2).toInt64), none, some (.long 0), none, some (.long 2), none]) (x := (lg_cmp (x2).toInt64 0)) (r := []) (by rw [cl_lt]; exact decide_eq_false (by first | (rw [Int32.toInt_toInt64]; show ¬ (x2.toInt < (0 : Int)); omega) | omega)) (by decide))) ?_
        refine Go.next (f' := (7, [some (.long (x2).toInt64), none, some (.long 0), none, some (.long 2), none], [.long (x2).toInt64])) (w' := fr_w) ((ex_stp (ins := .lload_n 0) rfl).trans rfl) ?_
        refine Go.next (f' := (9, [some (.long (x2).toInt64), none, some (.long 0), none, some (.long 2), none], [.long 2, .long (x2).toInt64])) (w' := fr_w) ((ex_stp (ins := .lload 4) rfl).trans rfl) ?_
        refine Go.next (f' := (10, [some (.long (x2).toInt64), none, some (.long 0), none, some (.long 2), none], [.int (lg_cmp (x2).toInt64 2)])) (w' := fr_w) ((ex_stp (ins := .lcmp) rfl).trans rfl) ?_
        refine Go.next (f' := (17, [some (.long (x2).toInt64), none, some (.long 0), none, some (.long 2), none], [])) (w' := fr_w) ((ex_stp (ins := .ifCond .gt 7) rfl).trans (ex_b0_t (c := .gt) (off := 7) (pc := 10) (lo := [some (.long (x2).toInt64), none, some (.long 0), none, some (.long 2), none]) (x := (lg_cmp (x2).toInt64 2)) (r := []) (by rw [cl_gt]; exact decide_eq_true (by first | (rw [Int32.toInt_toInt64]; show (2 : Int) < x2.toInt; omega) | omega)) (by decide))) ?_
        refine Go.next (f' := (18, [some (.long (x2).toInt64), none, some (.long 0), none, some (.long 2), none], [.int 0])) (w' := fr_w) ((ex_stp (ins := .iconst 0) rfl).trans rfl) ?_
        exact Go.ret ((ex_stp (ins := .ireturn) rfl).trans rfl)
      refine Go.call (d := 37) (cal := 93) (as := [.long (x2).toInt64, .long 0, .long 2]) (g := (21, [some (.int x1), some (.int x2)], [])) (M' := mt_93) (r := some (.int 0)) (w' := fr_w) ((ex_stp (ins := .invokestatic 95) rfl).trans rfl) rfl (Nat.le_of_ble_eq_true rfl) h_202 ?_
      show Go [] 38 mt_147 (21, [some (.int x1), some (.int x2)], [.int 0]) fr_w _
      refine Go.next (f' := (28, [some (.int x1), some (.int x2)], [])) (w' := fr_w) ((ex_stp (ins := .ifCond .eq 7) rfl).trans rfl) ?_
      refine Go.next (f' := (29, [some (.int x1), some (.int x2)], [.int 0])) (w' := fr_w) ((ex_stp (ins := .iconst 0) rfl).trans rfl) ?_
      exact Go.ret ((ex_stp (ins := .ireturn) rfl).trans rfl)
    refine Go.call (d := 38) (cal := 147) (as := [.int x1, .int x2]) (g := (5, [some (.ref 59), some (.int x1), some (.int x2), some (.int x3), some (.int x4), none, none, none, none, none, none, none], [])) (M' := mt_147) (r := some (.int 0)) (w' := fr_w) ((ex_stp (ins := .invokestatic 287) rfl).trans rfl) rfl (Nat.le_of_ble_eq_true rfl) h_200 ?_
    show Go [] 39 mt_78 (5, [some (.ref 59), some (.int x1), some (.int x2), some (.int x3), some (.int x4), none, none, none, none, none, none, none], [.int 0]) fr_w _
    refine Go.next (f' := (21, [some (.ref 59), some (.int x1), some (.int x2), some (.int x3), some (.int x4), none, none, none, none, none, none, none], [])) (w' := fr_w) ((ex_stp (ins := .ifCond .eq 16) rfl).trans rfl) ?_
    refine Go.next (f' := (22, [some (.ref 59), some (.int x1), some (.int x2), some (.int x3), some (.int x4), none, none, none, none, none, none, none], [.int (-1)])) (w' := fr_w) ((ex_stp (ins := .iconst (-1)) rfl).trans rfl) ?_
    exact Go.ret ((ex_stp (ins := .ireturn) rfl).trans rfl)
set_option maxRecDepth 100000 in
theorem ao_37_e (x1 x2 x3 x4 : Int32) (g0 : 0 ≤ x1.toInt) (g1 : x1.toInt ≤ 3) (g2 : 0 ≤ x2.toInt) (g3 : x2.toInt ≤ 2) (g4 : x4.toInt < 0) : A2 mt_77 mt_78 [.int x1, .int x2, .int x3, .int x4] := by
  refine ⟨(-1), fr_w, fr_w, _, ?_, rfl, ?_⟩
  · show Go [] 39 mt_77 (0, [some (.ref 0), some (.int x1), some (.int x2), some (.int x3), some (.int x4), none, none, none, none, none, none], []) fr_w _
    refine Go.next (f' := (1, [some (.ref 0), some (.int x1), some (.int x2), some (.int x3), some (.int x4), none, none, none, none, none, none], [.int x1])) (w' := fr_w) ((ex_stp (ins := .iload_n 1) rfl).trans rfl) ?_
    refine Go.next (f' := (4, [some (.ref 0), some (.int x1), some (.int x2), some (.int x3), some (.int x4), none, none, none, none, none, none], [])) (w' := fr_w) ((ex_stp (ins := .ifCond .lt 29) rfl).trans (ex_b0_f (c := .lt) (off := 29) (pc := 1) (lo := [some (.ref 0), some (.int x1), some (.int x2), some (.int x3), some (.int x4), none, none, none, none, none, none]) (x := x1) (r := []) (by rw [c0_lt]; exact decide_eq_false (by show ¬ (x1.toInt < (0 : Int)); omega)) (by decide))) ?_
    refine Go.next (f' := (5, [some (.ref 0), some (.int x1), some (.int x2), some (.int x3), some (.int x4), none, none, none, none, none, none], [.int x1])) (w' := fr_w) ((ex_stp (ins := .iload_n 1) rfl).trans rfl) ?_
    refine Go.next (f' := (6, [some (.ref 0), some (.int x1), some (.int x2), some (.int x3), some (.int x4), none, none, none, none, none, none], [.int 4, .int x1])) (w' := fr_w) ((ex_stp (ins := .iconst 4) rfl).trans rfl) ?_
    refine Go.next (f' := (9, [some (.ref 0), some (.int x1), some (.int x2), some (.int x3), some (.int x4), none, none, none, none, none, none], [])) (w' := fr_w) ((ex_stp (ins := .if_icmp .ge 24) rfl).trans (ex_b2_f (c := .ge) (off := 24) (pc := 6) (lo := [some (.ref 0), some (.int x1), some (.int x2), some (.int x3), some (.int x4), none, none, none, none, none, none]) (x := x1) (y := 4) (r := []) (by rw [c2_ge]; exact decide_eq_false (by show ¬ ((4 : Int) ≤ x1.toInt); omega)) (by decide))) ?_
    refine Go.next (f' := (10, [some (.ref 0), some (.int x1), some (.int x2), some (.int x3), some (.int x4), none, none, none, none, none, none], [.int x2])) (w' := fr_w) ((ex_stp (ins := .iload_n 2) rfl).trans rfl) ?_
    refine Go.next (f' := (13, [some (.ref 0), some (.int x1), some (.int x2), some (.int x3), some (.int x4), none, none, none, none, none, none], [])) (w' := fr_w) ((ex_stp (ins := .ifCond .lt 20) rfl).trans (ex_b0_f (c := .lt) (off := 20) (pc := 10) (lo := [some (.ref 0), some (.int x1), some (.int x2), some (.int x3), some (.int x4), none, none, none, none, none, none]) (x := x2) (r := []) (by rw [c0_lt]; exact decide_eq_false (by show ¬ (x2.toInt < (0 : Int)); omega)) (by decide))) ?_
    refine Go.next (f' := (14, [some (.ref 0), some (.int x1), some (.int x2), some (.int x3), some (.int x4), none, none, none, none, none, none], [.int x2])) (w' := fr_w) ((ex_stp (ins := .iload_n 2) rfl).trans rfl) ?_
    refine Go.next (f' := (15, [some (.ref 0), some (.int x1), some (.int x2), some (.int x3), some (.int x4), none, none, none, none, none, none], [.int 2, .int x2])) (w' := fr_w) ((ex_stp (ins := .iconst 2) rfl).trans rfl) ?_
    refine Go.next (f' := (18, [some (.ref 0), some (.int x1), some (.int x2), some (.int x3), some (.int x4), none, none, none, none, none, none], [])) (w' := fr_w) ((ex_stp (ins := .if_icmp .gt 15) rfl).trans (ex_b2_f (c := .gt) (off := 15) (pc := 15) (lo := [some (.ref 0), some (.int x1), some (.int x2), some (.int x3), some (.int x4), none, none, none, none, none, none]) (x := x2) (y := 2) (r := []) (by rw [c2_gt]; exact decide_eq_false (by show ¬ ((2 : Int) < x2.toInt); omega)) (by decide))) ?_
    refine Go.next (f' := (20, [some (.ref 0), some (.int x1), some (.int x2), some (.int x3), some (.int x4), none, none, none, none, none, none], [.int x4])) (w' := fr_w) ((ex_stp (ins := .iload 4) rfl).trans rfl) ?_
    refine Go.next (f' := (30, [some (.ref 0), some (.int x1), some (.int x2), some (.int x3), some (.int x4), none, none, none, none, none, none], [])) (w' := fr_w) ((ex_stp (ins := .ifCond .lt 10) rfl).trans (ex_b0_t (c := .lt) (off := 10) (pc := 20) (lo := [some (.ref 0), some (.int x1), some (.int x2), some (.int x3), some (.int x4), none, none, none, none, none, none]) (x := x4) (r := []) (by rw [c0_lt]; exact decide_eq_true (by show x4.toInt < (0 : Int); omega)) (by decide))) ?_
    refine Go.next (f' := (31, [some (.ref 0), some (.int x1), some (.int x2), some (.int x3), some (.int x4), none, none, none, none, none, none], [.int (-1)])) (w' := fr_w) ((ex_stp (ins := .iconst (-1)) rfl).trans rfl) ?_
    exact Go.ret ((ex_stp (ins := .ireturn) rfl).trans rfl)
  · show Go [] 39 mt_78 (0, [some (.ref 59), some (.int x1), some (.int x2), some (.int x3), some (.int x4), none, none, none, none, none, none, none], []) fr_w _
    refine Go.next (f' := (1, [some (.ref 59), some (.int x1), some (.int x2), some (.int x3), some (.int x4), none, none, none, none, none, none, none], [.int x1])) (w' := fr_w) ((ex_stp (ins := .iload_n 1) rfl).trans rfl) ?_
    refine Go.next (f' := (2, [some (.ref 59), some (.int x1), some (.int x2), some (.int x3), some (.int x4), none, none, none, none, none, none, none], [.int x2, .int x1])) (w' := fr_w) ((ex_stp (ins := .iload_n 2) rfl).trans rfl) ?_
    have h_203 : Go [] 38 mt_147 (ex_ent mt_147 [.int x1, .int x2]) fr_w (some (.int 1), fr_w) := by
      show Go [] 38 mt_147 (0, [some (.int x1), some (.int x2)], []) fr_w _
      refine Go.next (f' := (1, [some (.int x1), some (.int x2)], [.int x1])) (w' := fr_w) ((ex_stp (ins := .iload_n 0) rfl).trans rfl) ?_
      refine Go.next (f' := (2, [some (.int x1), some (.int x2)], [.long (x1).toInt64])) (w' := fr_w) ((ex_stp (ins := .i2l) rfl).trans rfl) ?_
      refine Go.next (f' := (3, [some (.int x1), some (.int x2)], [.long 0, .long (x1).toInt64])) (w' := fr_w) ((ex_stp (ins := .lconst 0) rfl).trans rfl) ?_
      refine Go.next (f' := (6, [some (.int x1), some (.int x2)], [.long 3, .long 0, .long (x1).toInt64])) (w' := fr_w) ((ex_stp (ins := .ldc2_w 250) rfl).trans rfl) ?_
      have h_204 : Go [] 37 mt_93 (ex_ent mt_93 [.long (x1).toInt64, .long 0, .long 3]) fr_w (some (.int 1), fr_w) := by
        show Go [] 37 mt_93 (0, [some (.long (x1).toInt64), none, some (.long 0), none, some (.long 3), none], []) fr_w _
        refine Go.next (f' := (1, [some (.long (x1).toInt64), none, some (.long 0), none, some (.long 3), none], [.long (x1).toInt64])) (w' := fr_w) ((ex_stp (ins := .lload_n 0) rfl).trans rfl) ?_
        refine Go.next (f' := (2, [some (.long (x1).toInt64), none, some (.long 0), none, some (.long 3), none], [.long 0, .long (x1).toInt64])) (w' := fr_w) ((ex_stp (ins := .lload_n 2) rfl).trans rfl) ?_
        refine Go.next (f' := (3, [some (.long (x1).toInt64), none, some (.long 0), none, some (.long 3), none], [.int (lg_cmp (x1).toInt64 0)])) (w' := fr_w) ((ex_stp (ins := .lcmp) rfl).trans rfl) ?_
        refine Go.next (f' := (6, [some (.long (x1).toInt64), none, some (.long 0), none, some (.long 3), none], [])) (w' := fr_w) ((ex_stp (ins := .ifCond .lt 14) rfl).trans (ex_b0_f (c := .lt) (off := 14) (pc := 3) (lo := [some (.long (x1).toInt64), none, some (.long 0), none, some (.long 3), none]) (x := (lg_cmp (x1).toInt64 0)) (r := []) (by rw [cl_lt]; exact decide_eq_false (by first | (rw [Int32.toInt_toInt64]; show ¬ (x1.toInt < (0 : Int)); omega) | omega)) (by decide))) ?_
        refine Go.next (f' := (7, [some (.long (x1).toInt64), none, some (.long 0), none, some (.long 3), none], [.long (x1).toInt64])) (w' := fr_w) ((ex_stp (ins := .lload_n 0) rfl).trans rfl) ?_
        refine Go.next (f' := (9, [some (.long (x1).toInt64), none, some (.long 0), none, some (.long 3), none], [.long 3, .long (x1).toInt64])) (w' := fr_w) ((ex_stp (ins := .lload 4) rfl).trans rfl) ?_
        refine Go.next (f' := (10, [some (.long (x1).toInt64), none, some (.long 0), none, some (.long 3), none], [.int (lg_cmp (x1).toInt64 3)])) (w' := fr_w) ((ex_stp (ins := .lcmp) rfl).trans rfl) ?_
        refine Go.next (f' := (13, [some (.long (x1).toInt64), none, some (.long 0), none, some (.long 3), none], [])) (w' := fr_w) ((ex_stp (ins := .ifCond .gt 7) rfl).trans (ex_b0_f (c := .gt) (off := 7) (pc := 10) (lo := [some (.long (x1).toInt64), none, some (.long 0), none, some (.long 3), none]) (x := (lg_cmp (x1).toInt64 3)) (r := []) (by rw [cl_gt]; exact decide_eq_false (by first | (rw [Int32.toInt_toInt64]; show ¬ ((3 : Int) < x1.toInt); omega) | omega)) (by decide))) ?_
        refine Go.next (f' := (14, [some (.long (x1).toInt64), none, some (.long 0), none, some (.long 3), none], [.int 1])) (w' := fr_w) ((ex_stp (ins := .iconst 1) rfl).trans rfl) ?_
        refine Go.next (f' := (18, [some (.long (x1).toInt64), none, some (.long 0), none, some (.long 3), none], [.int 1])) (w' := fr_w) ((ex_stp (ins := .goto 4) rfl).trans rfl) ?_
        exact Go.ret ((ex_stp (ins := .ireturn) rfl).trans rfl)
      refine Go.call (d := 37) (cal := 93) (as := [.long (x1).toInt64, .long 0, .long 3]) (g := (9, [some (.int x1), some (.int x2)], [])) (M' := mt_93) (r := some (.int 1)) (w' := fr_w) ((ex_stp (ins := .invokestatic 95) rfl).trans rfl) rfl (Nat.le_of_ble_eq_true rfl) h_204 ?_
      show Go [] 38 mt_147 (9, [some (.int x1), some (.int x2)], [.int 1]) fr_w _
      refine Go.next (f' := (12, [some (.int x1), some (.int x2)], [])) (w' := fr_w) ((ex_stp (ins := .ifCond .eq 19) rfl).trans rfl) ?_
      refine Go.next (f' := (13, [some (.int x1), some (.int x2)], [.int x2])) (w' := fr_w) ((ex_stp (ins := .iload_n 1) rfl).trans rfl) ?_
      refine Go.next (f' := (14, [some (.int x1), some (.int x2)], [.long (x2).toInt64])) (w' := fr_w) ((ex_stp (ins := .i2l) rfl).trans rfl) ?_
      refine Go.next (f' := (15, [some (.int x1), some (.int x2)], [.long 0, .long (x2).toInt64])) (w' := fr_w) ((ex_stp (ins := .lconst 0) rfl).trans rfl) ?_
      refine Go.next (f' := (18, [some (.int x1), some (.int x2)], [.long 2, .long 0, .long (x2).toInt64])) (w' := fr_w) ((ex_stp (ins := .ldc2_w 192) rfl).trans rfl) ?_
      have h_205 : Go [] 37 mt_93 (ex_ent mt_93 [.long (x2).toInt64, .long 0, .long 2]) fr_w (some (.int 1), fr_w) := by
        show Go [] 37 mt_93 (0, [some (.long (x2).toInt64), none, some (.long 0), none, some (.long 2), none], []) fr_w _
        refine Go.next (f' := (1, [some (.long (x2).toInt64), none, some (.long 0), none, some (.long 2), none], [.long (x2).toInt64])) (w' := fr_w) ((ex_stp (ins := .lload_n 0) rfl).trans rfl) ?_
        refine Go.next (f' := (2, [some (.long (x2).toInt64), none, some (.long 0), none, some (.long 2), none], [.long 0, .long (x2).toInt64])) (w' := fr_w) ((ex_stp (ins := .lload_n 2) rfl).trans rfl) ?_
        refine Go.next (f' := (3, [some (.long (x2).toInt64), none, some (.long 0), none, some (.long 2), none], [.int (lg_cmp (x2).toInt64 0)])) (w' := fr_w) ((ex_stp (ins := .lcmp) rfl).trans rfl) ?_
        refine Go.next (f' := (6, [some (.long (x2).toInt64), none, some (.long 0), none, some (.long 2), none], [])) (w' := fr_w) ((ex_stp (ins := .ifCond .lt 14) rfl).trans (ex_b0_f (c := .lt) (off := 14) (pc := 3) (lo := [some (.long (x2).toInt64), none, some (.long 0), none, some (.long 2), none]) (x := (lg_cmp (x2).toInt64 0)) (r := []) (by rw [cl_lt]; exact decide_eq_false (by first | (rw [Int32.toInt_toInt64]; show ¬ (x2.toInt < (0 : Int)); omega) | omega)) (by decide))) ?_
        refine Go.next (f' := (7, [some (.long (x2).toInt64), none, some (.long 0), none, some (.long 2), none], [.long (x2).toInt64])) (w' := fr_w) ((ex_stp (ins := .lload_n 0) rfl).trans rfl) ?_
        refine Go.next (f' := (9, [some (.long (x2).toInt64), none, some (.long 0), none, some (.long 2), none], [.long 2, .long (x2).toInt64])) (w' := fr_w) ((ex_stp (ins := .lload 4) rfl).trans rfl) ?_
        refine Go.next (f' := (10, [some (.long (x2).toInt64), none, some (.long 0), none, some (.long 2), none], [.int (lg_cmp (x2).toInt64 2)])) (w' := fr_w) ((ex_stp (ins := .lcmp) rfl).trans rfl) ?_
        refine Go.next (f' := (13, [some (.long (x2).toInt64), none, some (.long 0), none, some (.long 2), none], [])) (w' := fr_w) ((ex_stp (ins := .ifCond .gt 7) rfl).trans (ex_b0_f (c := .gt) (off := 7) (pc := 10) (lo := [some (.long (x2).toInt64), none, some (.long 0), none, some (.long 2), none]) (x := (lg_cmp (x2).toInt64 2)) (r := []) (by rw [cl_gt]; exact decide_eq_false (by first | (rw [Int32.toInt_toInt64]; show ¬ ((2 : Int) < x2.toInt); omega) | omega)) (by decide))) ?_
        refine Go.next (f' := (14, [some (.long (x2).toInt64), none, some (.long 0), none, some (.long 2), none], [.int 1])) (w' := fr_w) ((ex_stp (ins := .iconst 1) rfl).trans rfl) ?_
        refine Go.next (f' := (18, [some (.long (x2).toInt64), none, some (.long 0), none, some (.long 2), none], [.int 1])) (w' := fr_w) ((ex_stp (ins := .goto 4) rfl).trans rfl) ?_
        exact Go.ret ((ex_stp (ins := .ireturn) rfl).trans rfl)
      refine Go.call (d := 37) (cal := 93) (as := [.long (x2).toInt64, .long 0, .long 2]) (g := (21, [some (.int x1), some (.int x2)], [])) (M' := mt_93) (r := some (.int 1)) (w' := fr_w) ((ex_stp (ins := .invokestatic 95) rfl).trans rfl) rfl (Nat.le_of_ble_eq_true rfl) h_205 ?_
      show Go [] 38 mt_147 (21, [some (.int x1), some (.int x2)], [.int 1]) fr_w _
      refine Go.next (f' := (24, [some (.int x1), some (.int x2)], [])) (w' := fr_w) ((ex_stp (ins := .ifCond .eq 7) rfl).trans rfl) ?_
      refine Go.next (f' := (25, [some (.int x1), some (.int x2)], [.int 1])) (w' := fr_w) ((ex_stp (ins := .iconst 1) rfl).trans rfl) ?_
      refine Go.next (f' := (29, [some (.int x1), some (.int x2)], [.int 1])) (w' := fr_w) ((ex_stp (ins := .goto 4) rfl).trans rfl) ?_
      exact Go.ret ((ex_stp (ins := .ireturn) rfl).trans rfl)
    refine Go.call (d := 38) (cal := 147) (as := [.int x1, .int x2]) (g := (5, [some (.ref 59), some (.int x1), some (.int x2), some (.int x3), some (.int x4), none, none, none, none, none, none, none], [])) (M' := mt_147) (r := some (.int 1)) (w' := fr_w) ((ex_stp (ins := .invokestatic 287) rfl).trans rfl) rfl (Nat.le_of_ble_eq_true rfl) h_203 ?_
    show Go [] 39 mt_78 (5, [some (.ref 59), some (.int x1), some (.int x2), some (.int x3), some (.int x4), none, none, none, none, none, none, none], [.int 1]) fr_w _
    refine Go.next (f' := (8, [some (.ref 59), some (.int x1), some (.int x2), some (.int x3), some (.int x4), none, none, none, none, none, none, none], [])) (w' := fr_w) ((ex_stp (ins := .ifCond .eq 16) rfl).trans rfl) ?_
    refine Go.next (f' := (10, [some (.ref 59), some (.int x1), some (.int x2), some (.int x3), some (.int x4), none, none, none, none, none, none, none], [.int x4])) (w' := fr_w) ((ex_stp (ins := .iload 4) rfl).trans rfl) ?_
    refine Go.next (f' := (11, [some (.ref 59), some (.int x1), some (.int x2), some (.int x3), some (.int x4), none, none, none, none, none, none, none], [.long (x4).toInt64])) (w' := fr_w) ((ex_stp (ins := .i2l) rfl).trans rfl) ?_
    refine Go.next (f' := (12, [some (.ref 59), some (.int x1), some (.int x2), some (.int x3), some (.int x4), none, none, none, none, none, none, none], [.long 0, .long (x4).toInt64])) (w' := fr_w) ((ex_stp (ins := .lconst 0) rfl).trans rfl) ?_
    refine Go.next (f' := (15, [some (.ref 59), some (.int x1), some (.int x2), some (.int x3), some (.int x4), none, none, none, none, none, none, none], [.long 20, .long 0, .long (x4).toInt64])) (w' := fr_w) ((ex_stp (ins := .ldc2_w 190) rfl).trans rfl) ?_
    have h_206 : Go [] 38 mt_93 (ex_ent mt_93 [.long (x4).toInt64, .long 0, .long 20]) fr_w (some (.int 0), fr_w) := by
      show Go [] 38 mt_93 (0, [some (.long (x4).toInt64), none, some (.long 0), none, some (.long 20), none], []) fr_w _
      refine Go.next (f' := (1, [some (.long (x4).toInt64), none, some (.long 0), none, some (.long 20), none], [.long (x4).toInt64])) (w' := fr_w) ((ex_stp (ins := .lload_n 0) rfl).trans rfl) ?_
      refine Go.next (f' := (2, [some (.long (x4).toInt64), none, some (.long 0), none, some (.long 20), none], [.long 0, .long (x4).toInt64])) (w' := fr_w) ((ex_stp (ins := .lload_n 2) rfl).trans rfl) ?_
      refine Go.next (f' := (3, [some (.long (x4).toInt64), none, some (.long 0), none, some (.long 20), none], [.int (lg_cmp (x4).toInt64 0)])) (w' := fr_w) ((ex_stp (ins := .lcmp) rfl).trans rfl) ?_
      refine Go.next (f' := (17, [some (.long (x4).toInt64), none, some (.long 0), none, some (.long 20), none], [])) (w' := fr_w) ((ex_stp (ins := .ifCond .lt 14) rfl).trans (ex_b0_t (c := .lt) (off := 14) (pc := 3) (lo := [some (.long (x4).toInt64), none, some (.long 0), none, some (.long 20), none]) (x := (lg_cmp (x4).toInt64 0)) (r := []) (by rw [cl_lt]; exact decide_eq_true (by first | (rw [Int32.toInt_toInt64]; show x4.toInt < (0 : Int); omega) | omega)) (by decide))) ?_
      refine Go.next (f' := (18, [some (.long (x4).toInt64), none, some (.long 0), none, some (.long 20), none], [.int 0])) (w' := fr_w) ((ex_stp (ins := .iconst 0) rfl).trans rfl) ?_
      exact Go.ret ((ex_stp (ins := .ireturn) rfl).trans rfl)
    refine Go.call (d := 38) (cal := 93) (as := [.long (x4).toInt64, .long 0, .long 20]) (g := (18, [some (.ref 59), some (.int x1), some (.int x2), some (.int x3), some (.int x4), none, none, none, none, none, none, none], [])) (M' := mt_93) (r := some (.int 0)) (w' := fr_w) ((ex_stp (ins := .invokestatic 95) rfl).trans rfl) rfl (Nat.le_of_ble_eq_true rfl) h_206 ?_
    show Go [] 39 mt_78 (18, [some (.ref 59), some (.int x1), some (.int x2), some (.int x3), some (.int x4), none, none, none, none, none, none, none], [.int 0]) fr_w _
    refine Go.next (f' := (21, [some (.ref 59), some (.int x1), some (.int x2), some (.int x3), some (.int x4), none, none, none, none, none, none, none], [])) (w' := fr_w) ((ex_stp (ins := .ifCond .ne 5) rfl).trans rfl) ?_
    refine Go.next (f' := (22, [some (.ref 59), some (.int x1), some (.int x2), some (.int x3), some (.int x4), none, none, none, none, none, none, none], [.int (-1)])) (w' := fr_w) ((ex_stp (ins := .iconst (-1)) rfl).trans rfl) ?_
    exact Go.ret ((ex_stp (ins := .ireturn) rfl).trans rfl)
set_option maxRecDepth 100000 in
theorem ao_37_f (x1 x2 x3 x4 : Int32) (g0 : 0 ≤ x1.toInt) (g1 : x1.toInt ≤ 3) (g2 : 0 ≤ x2.toInt) (g3 : x2.toInt ≤ 2) (g4 : 20 < x4.toInt) : A2 mt_77 mt_78 [.int x1, .int x2, .int x3, .int x4] := by
  refine ⟨(-1), fr_w, fr_w, _, ?_, rfl, ?_⟩
  · show Go [] 39 mt_77 (0, [some (.ref 0), some (.int x1), some (.int x2), some (.int x3), some (.int x4), none, none, none, none, none, none], []) fr_w _
    refine Go.next (f' := (1, [some (.ref 0), some (.int x1), some (.int x2), some (.int x3), some (.int x4), none, none, none, none, none, none], [.int x1])) (w' := fr_w) ((ex_stp (ins := .iload_n 1) rfl).trans rfl) ?_
    refine Go.next (f' := (4, [some (.ref 0), some (.int x1), some (.int x2), some (.int x3), some (.int x4), none, none, none, none, none, none], [])) (w' := fr_w) ((ex_stp (ins := .ifCond .lt 29) rfl).trans (ex_b0_f (c := .lt) (off := 29) (pc := 1) (lo := [some (.ref 0), some (.int x1), some (.int x2), some (.int x3), some (.int x4), none, none, none, none, none, none]) (x := x1) (r := []) (by rw [c0_lt]; exact decide_eq_false (by show ¬ (x1.toInt < (0 : Int)); omega)) (by decide))) ?_
    refine Go.next (f' := (5, [some (.ref 0), some (.int x1), some (.int x2), some (.int x3), some (.int x4), none, none, none, none, none, none], [.int x1])) (w' := fr_w) ((ex_stp (ins := .iload_n 1) rfl).trans rfl) ?_
    refine Go.next (f' := (6, [some (.ref 0), some (.int x1), some (.int x2), some (.int x3), some (.int x4), none, none, none, none, none, none], [.int 4, .int x1])) (w' := fr_w) ((ex_stp (ins := .iconst 4) rfl).trans rfl) ?_
    refine Go.next (f' := (9, [some (.ref 0), some (.int x1), some (.int x2), some (.int x3), some (.int x4), none, none, none, none, none, none], [])) (w' := fr_w) ((ex_stp (ins := .if_icmp .ge 24) rfl).trans (ex_b2_f (c := .ge) (off := 24) (pc := 6) (lo := [some (.ref 0), some (.int x1), some (.int x2), some (.int x3), some (.int x4), none, none, none, none, none, none]) (x := x1) (y := 4) (r := []) (by rw [c2_ge]; exact decide_eq_false (by show ¬ ((4 : Int) ≤ x1.toInt); omega)) (by decide))) ?_
    refine Go.next (f' := (10, [some (.ref 0), some (.int x1), some (.int x2), some (.int x3), some (.int x4), none, none, none, none, none, none], [.int x2])) (w' := fr_w) ((ex_stp (ins := .iload_n 2) rfl).trans rfl) ?_
    refine Go.next (f' := (13, [some (.ref 0), some (.int x1), some (.int x2), some (.int x3), some (.int x4), none, none, none, none, none, none], [])) (w' := fr_w) ((ex_stp (ins := .ifCond .lt 20) rfl).trans (ex_b0_f (c := .lt) (off := 20) (pc := 10) (lo := [some (.ref 0), some (.int x1), some (.int x2), some (.int x3), some (.int x4), none, none, none, none, none, none]) (x := x2) (r := []) (by rw [c0_lt]; exact decide_eq_false (by show ¬ (x2.toInt < (0 : Int)); omega)) (by decide))) ?_
    refine Go.next (f' := (14, [some (.ref 0), some (.int x1), some (.int x2), some (.int x3), some (.int x4), none, none, none, none, none, none], [.int x2])) (w' := fr_w) ((ex_stp (ins := .iload_n 2) rfl).trans rfl) ?_
    refine Go.next (f' := (15, [some (.ref 0), some (.int x1), some (.int x2), some (.int x3), some (.int x4), none, none, none, none, none, none], [.int 2, .int x2])) (w' := fr_w) ((ex_stp (ins := .iconst 2) rfl).trans rfl) ?_
    refine Go.next (f' := (18, [some (.ref 0), some (.int x1), some (.int x2), some (.int x3), some (.int x4), none, none, none, none, none, none], [])) (w' := fr_w) ((ex_stp (ins := .if_icmp .gt 15) rfl).trans (ex_b2_f (c := .gt) (off := 15) (pc := 15) (lo := [some (.ref 0), some (.int x1), some (.int x2), some (.int x3), some (.int x4), none, none, none, none, none, none]) (x := x2) (y := 2) (r := []) (by rw [c2_gt]; exact decide_eq_false (by show ¬ ((2 : Int) < x2.toInt); omega)) (by decide))) ?_
    refine Go.next (f' := (20, [some (.ref 0), some (.int x1), some (.int x2), some (.int x3), some (.int x4), none, none, none, none, none, none], [.int x4])) (w' := fr_w) ((ex_stp (ins := .iload 4) rfl).trans rfl) ?_
    refine Go.next (f' := (23, [some (.ref 0), some (.int x1), some (.int x2), some (.int x3), some (.int x4), none, none, none, none, none, none], [])) (w' := fr_w) ((ex_stp (ins := .ifCond .lt 10) rfl).trans (ex_b0_f (c := .lt) (off := 10) (pc := 20) (lo := [some (.ref 0), some (.int x1), some (.int x2), some (.int x3), some (.int x4), none, none, none, none, none, none]) (x := x4) (r := []) (by rw [c0_lt]; exact decide_eq_false (by show ¬ (x4.toInt < (0 : Int)); omega)) (by decide))) ?_
    refine Go.next (f' := (25, [some (.ref 0), some (.int x1), some (.int x2), some (.int x3), some (.int x4), none, none, none, none, none, none], [.int x4])) (w' := fr_w) ((ex_stp (ins := .iload 4) rfl).trans rfl) ?_
    refine Go.next (f' := (27, [some (.ref 0), some (.int x1), some (.int x2), some (.int x3), some (.int x4), none, none, none, none, none, none], [.int 20, .int x4])) (w' := fr_w) ((ex_stp (ins := .bipush 20) rfl).trans rfl) ?_
    refine Go.next (f' := (30, [some (.ref 0), some (.int x1), some (.int x2), some (.int x3), some (.int x4), none, none, none, none, none, none], [])) (w' := fr_w) ((ex_stp (ins := .if_icmp .le 5) rfl).trans (ex_b2_f (c := .le) (off := 5) (pc := 27) (lo := [some (.ref 0), some (.int x1), some (.int x2), some (.int x3), some (.int x4), none, none, none, none, none, none]) (x := x4) (y := 20) (r := []) (by rw [c2_le]; exact decide_eq_false (by show ¬ (x4.toInt ≤ (20 : Int)); omega)) (by decide))) ?_
    refine Go.next (f' := (31, [some (.ref 0), some (.int x1), some (.int x2), some (.int x3), some (.int x4), none, none, none, none, none, none], [.int (-1)])) (w' := fr_w) ((ex_stp (ins := .iconst (-1)) rfl).trans rfl) ?_
    exact Go.ret ((ex_stp (ins := .ireturn) rfl).trans rfl)
  · show Go [] 39 mt_78 (0, [some (.ref 59), some (.int x1), some (.int x2), some (.int x3), some (.int x4), none, none, none, none, none, none, none], []) fr_w _
    refine Go.next (f' := (1, [some (.ref 59), some (.int x1), some (.int x2), some (.int x3), some (.int x4), none, none, none, none, none, none, none], [.int x1])) (w' := fr_w) ((ex_stp (ins := .iload_n 1) rfl).trans rfl) ?_
    refine Go.next (f' := (2, [some (.ref 59), some (.int x1), some (.int x2), some (.int x3), some (.int x4), none, none, none, none, none, none, none], [.int x2, .int x1])) (w' := fr_w) ((ex_stp (ins := .iload_n 2) rfl).trans rfl) ?_
    have h_207 : Go [] 38 mt_147 (ex_ent mt_147 [.int x1, .int x2]) fr_w (some (.int 1), fr_w) := by
      show Go [] 38 mt_147 (0, [some (.int x1), some (.int x2)], []) fr_w _
      refine Go.next (f' := (1, [some (.int x1), some (.int x2)], [.int x1])) (w' := fr_w) ((ex_stp (ins := .iload_n 0) rfl).trans rfl) ?_
      refine Go.next (f' := (2, [some (.int x1), some (.int x2)], [.long (x1).toInt64])) (w' := fr_w) ((ex_stp (ins := .i2l) rfl).trans rfl) ?_
      refine Go.next (f' := (3, [some (.int x1), some (.int x2)], [.long 0, .long (x1).toInt64])) (w' := fr_w) ((ex_stp (ins := .lconst 0) rfl).trans rfl) ?_
      refine Go.next (f' := (6, [some (.int x1), some (.int x2)], [.long 3, .long 0, .long (x1).toInt64])) (w' := fr_w) ((ex_stp (ins := .ldc2_w 250) rfl).trans rfl) ?_
      have h_208 : Go [] 37 mt_93 (ex_ent mt_93 [.long (x1).toInt64, .long 0, .long 3]) fr_w (some (.int 1), fr_w) := by
        show Go [] 37 mt_93 (0, [some (.long (x1).toInt64), none, some (.long 0), none, some (.long 3), none], []) fr_w _
        refine Go.next (f' := (1, [some (.long (x1).toInt64), none, some (.long 0), none, some (.long 3), none], [.long (x1).toInt64])) (w' := fr_w) ((ex_stp (ins := .lload_n 0) rfl).trans rfl) ?_
        refine Go.next (f' := (2, [some (.long (x1).toInt64), none, some (.long 0), none, some (.long 3), none], [.long 0, .long (x1).toInt64])) (w' := fr_w) ((ex_stp (ins := .lload_n 2) rfl).trans rfl) ?_
        refine Go.next (f' := (3, [some (.long (x1).toInt64), none, some (.long 0), none, some (.long 3), none], [.int (lg_cmp (x1).toInt64 0)])) (w' := fr_w) ((ex_stp (ins := .lcmp) rfl).trans rfl) ?_
        refine Go.next (f' := (6, [some (.long (x1).toInt64), none, some (.long 0), none, some (.long 3), none], [])) (w' := fr_w) ((ex_stp (ins := .ifCond .lt 14) rfl).trans (ex_b0_f (c := .lt) (off := 14) (pc := 3) (lo := [some (.long (x1).toInt64), none, some (.long 0), none, some (.long 3), none]) (x := (lg_cmp (x1).toInt64 0)) (r := []) (by rw [cl_lt]; exact decide_eq_false (by first | (rw [Int32.toInt_toInt64]; show ¬ (x1.toInt < (0 : Int)); omega) | omega)) (by decide))) ?_
        refine Go.next (f' := (7, [some (.long (x1).toInt64), none, some (.long 0), none, some (.long 3), none], [.long (x1).toInt64])) (w' := fr_w) ((ex_stp (ins := .lload_n 0) rfl).trans rfl) ?_
        refine Go.next (f' := (9, [some (.long (x1).toInt64), none, some (.long 0), none, some (.long 3), none], [.long 3, .long (x1).toInt64])) (w' := fr_w) ((ex_stp (ins := .lload 4) rfl).trans rfl) ?_
        refine Go.next (f' := (10, [some (.long (x1).toInt64), none, some (.long 0), none, some (.long 3), none], [.int (lg_cmp (x1).toInt64 3)])) (w' := fr_w) ((ex_stp (ins := .lcmp) rfl).trans rfl) ?_
        refine Go.next (f' := (13, [some (.long (x1).toInt64), none, some (.long 0), none, some (.long 3), none], [])) (w' := fr_w) ((ex_stp (ins := .ifCond .gt 7) rfl).trans (ex_b0_f (c := .gt) (off := 7) (pc := 10) (lo := [some (.long (x1).toInt64), none, some (.long 0), none, some (.long 3), none]) (x := (lg_cmp (x1).toInt64 3)) (r := []) (by rw [cl_gt]; exact decide_eq_false (by first | (rw [Int32.toInt_toInt64]; show ¬ ((3 : Int) < x1.toInt); omega) | omega)) (by decide))) ?_
        refine Go.next (f' := (14, [some (.long (x1).toInt64), none, some (.long 0), none, some (.long 3), none], [.int 1])) (w' := fr_w) ((ex_stp (ins := .iconst 1) rfl).trans rfl) ?_
        refine Go.next (f' := (18, [some (.long (x1).toInt64), none, some (.long 0), none, some (.long 3), none], [.int 1])) (w' := fr_w) ((ex_stp (ins := .goto 4) rfl).trans rfl) ?_
        exact Go.ret ((ex_stp (ins := .ireturn) rfl).trans rfl)
      refine Go.call (d := 37) (cal := 93) (as := [.long (x1).toInt64, .long 0, .long 3]) (g := (9, [some (.int x1), some (.int x2)], [])) (M' := mt_93) (r := some (.int 1)) (w' := fr_w) ((ex_stp (ins := .invokestatic 95) rfl).trans rfl) rfl (Nat.le_of_ble_eq_true rfl) h_208 ?_
      show Go [] 38 mt_147 (9, [some (.int x1), some (.int x2)], [.int 1]) fr_w _
      refine Go.next (f' := (12, [some (.int x1), some (.int x2)], [])) (w' := fr_w) ((ex_stp (ins := .ifCond .eq 19) rfl).trans rfl) ?_
      refine Go.next (f' := (13, [some (.int x1), some (.int x2)], [.int x2])) (w' := fr_w) ((ex_stp (ins := .iload_n 1) rfl).trans rfl) ?_
      refine Go.next (f' := (14, [some (.int x1), some (.int x2)], [.long (x2).toInt64])) (w' := fr_w) ((ex_stp (ins := .i2l) rfl).trans rfl) ?_
      refine Go.next (f' := (15, [some (.int x1), some (.int x2)], [.long 0, .long (x2).toInt64])) (w' := fr_w) ((ex_stp (ins := .lconst 0) rfl).trans rfl) ?_
      refine Go.next (f' := (18, [some (.int x1), some (.int x2)], [.long 2, .long 0, .long (x2).toInt64])) (w' := fr_w) ((ex_stp (ins := .ldc2_w 192) rfl).trans rfl) ?_
      have h_209 : Go [] 37 mt_93 (ex_ent mt_93 [.long (x2).toInt64, .long 0, .long 2]) fr_w (some (.int 1), fr_w) := by
        show Go [] 37 mt_93 (0, [some (.long (x2).toInt64), none, some (.long 0), none, some (.long 2), none], []) fr_w _
        refine Go.next (f' := (1, [some (.long (x2).toInt64), none, some (.long 0), none, some (.long 2), none], [.long (x2).toInt64])) (w' := fr_w) ((ex_stp (ins := .lload_n 0) rfl).trans rfl) ?_
        refine Go.next (f' := (2, [some (.long (x2).toInt64), none, some (.long 0), none, some (.long 2), none], [.long 0, .long (x2).toInt64])) (w' := fr_w) ((ex_stp (ins := .lload_n 2) rfl).trans rfl) ?_
        refine Go.next (f' := (3, [some (.long (x2).toInt64), none, some (.long 0), none, some (.long 2), none], [.int (lg_cmp (x2).toInt64 0)])) (w' := fr_w) ((ex_stp (ins := .lcmp) rfl).trans rfl) ?_
        refine Go.next (f' := (6, [some (.long (x2).toInt64), none, some (.long 0), none, some (.long 2), none], [])) (w' := fr_w) ((ex_stp (ins := .ifCond .lt 14) rfl).trans (ex_b0_f (c := .lt) (off := 14) (pc := 3) (lo := [some (.long (x2).toInt64), none, some (.long 0), none, some (.long 2), none]) (x := (lg_cmp (x2).toInt64 0)) (r := []) (by rw [cl_lt]; exact decide_eq_false (by first | (rw [Int32.toInt_toInt64]; show ¬ (x2.toInt < (0 : Int)); omega) | omega)) (by decide))) ?_
        refine Go.next (f' := (7, [some (.long (x2).toInt64), none, some (.long 0), none, some (.long 2), none], [.long (x2).toInt64])) (w' := fr_w) ((ex_stp (ins := .lload_n 0) rfl).trans rfl) ?_
        refine Go.next (f' := (9, [some (.long (x2).toInt64), none, some (.long 0), none, some (.long 2), none], [.long 2, .long (x2).toInt64])) (w' := fr_w) ((ex_stp (ins := .lload 4) rfl).trans rfl) ?_
        refine Go.next (f' := (10, [some (.long (x2).toInt64), none, some (.long 0), none, some (.long 2), none], [.int (lg_cmp (x2).toInt64 2)])) (w' := fr_w) ((ex_stp (ins := .lcmp) rfl).trans rfl) ?_
        refine Go.next (f' := (13, [some (.long (x2).toInt64), none, some (.long 0), none, some (.long 2), none], [])) (w' := fr_w) ((ex_stp (ins := .ifCond .gt 7) rfl).trans (ex_b0_f (c := .gt) (off := 7) (pc := 10) (lo := [some (.long (x2).toInt64), none, some (.long 0), none, some (.long 2), none]) (x := (lg_cmp (x2).toInt64 2)) (r := []) (by rw [cl_gt]; exact decide_eq_false (by first | (rw [Int32.toInt_toInt64]; show ¬ ((2 : Int) < x2.toInt); omega) | omega)) (by decide))) ?_
        refine Go.next (f' := (14, [some (.long (x2).toInt64), none, some (.long 0), none, some (.long 2), none], [.int 1])) (w' := fr_w) ((ex_stp (ins := .iconst 1) rfl).trans rfl) ?_
        refine Go.next (f' := (18, [some (.long (x2).toInt64), none, some (.long 0), none, some (.long 2), none], [.int 1])) (w' := fr_w) ((ex_stp (ins := .goto 4) rfl).trans rfl) ?_
        exact Go.ret ((ex_stp (ins := .ireturn) rfl).trans rfl)
      refine Go.call (d := 37) (cal := 93) (as := [.long (x2).toInt64, .long 0, .long 2]) (g := (21, [some (.int x1), some (.int x2)], [])) (M' := mt_93) (r := some (.int 1)) (w' := fr_w) ((ex_stp (ins := .invokestatic 95) rfl).trans rfl) rfl (Nat.le_of_ble_eq_true rfl) h_209 ?_
      show Go [] 38 mt_147 (21, [some (.int x1), some (.int x2)], [.int 1]) fr_w _
      refine Go.next (f' := (24, [some (.int x1), some (.int x2)], [])) (w' := fr_w) ((ex_stp (ins := .ifCond .eq 7) rfl).trans rfl) ?_
      refine Go.next (f' := (25, [some (.int x1), some (.int x2)], [.int 1])) (w' := fr_w) ((ex_stp (ins := .iconst 1) rfl).trans rfl) ?_
      refine Go.next (f' := (29, [some (.int x1), some (.int x2)], [.int 1])) (w' := fr_w) ((ex_stp (ins := .goto 4) rfl).trans rfl) ?_
      exact Go.ret ((ex_stp (ins := .ireturn) rfl).trans rfl)
    refine Go.call (d := 38) (cal := 147) (as := [.int x1, .int x2]) (g := (5, [some (.ref 59), some (.int x1), some (.int x2), some (.int x3), some (.int x4), none, none, none, none, none, none, none], [])) (M' := mt_147) (r := some (.int 1)) (w' := fr_w) ((ex_stp (ins := .invokestatic 287) rfl).trans rfl) rfl (Nat.le_of_ble_eq_true rfl) h_207 ?_
    show Go [] 39 mt_78 (5, [some (.ref 59), some (.int x1), some (.int x2), some (.int x3), some (.int x4), none, none, none, none, none, none, none], [.int 1]) fr_w _
    refine Go.next (f' := (8, [some (.ref 59), some (.int x1), some (.int x2), some (.int x3), some (.int x4), none, none, none, none, none, none, none], [])) (w' := fr_w) ((ex_stp (ins := .ifCond .eq 16) rfl).trans rfl) ?_
    refine Go.next (f' := (10, [some (.ref 59), some (.int x1), some (.int x2), some (.int x3), some (.int x4), none, none, none, none, none, none, none], [.int x4])) (w' := fr_w) ((ex_stp (ins := .iload 4) rfl).trans rfl) ?_
    refine Go.next (f' := (11, [some (.ref 59), some (.int x1), some (.int x2), some (.int x3), some (.int x4), none, none, none, none, none, none, none], [.long (x4).toInt64])) (w' := fr_w) ((ex_stp (ins := .i2l) rfl).trans rfl) ?_
    refine Go.next (f' := (12, [some (.ref 59), some (.int x1), some (.int x2), some (.int x3), some (.int x4), none, none, none, none, none, none, none], [.long 0, .long (x4).toInt64])) (w' := fr_w) ((ex_stp (ins := .lconst 0) rfl).trans rfl) ?_
    refine Go.next (f' := (15, [some (.ref 59), some (.int x1), some (.int x2), some (.int x3), some (.int x4), none, none, none, none, none, none, none], [.long 20, .long 0, .long (x4).toInt64])) (w' := fr_w) ((ex_stp (ins := .ldc2_w 190) rfl).trans rfl) ?_
    have h_210 : Go [] 38 mt_93 (ex_ent mt_93 [.long (x4).toInt64, .long 0, .long 20]) fr_w (some (.int 0), fr_w) := by
      show Go [] 38 mt_93 (0, [some (.long (x4).toInt64), none, some (.long 0), none, some (.long 20), none], []) fr_w _
      refine Go.next (f' := (1, [some (.long (x4).toInt64), none, some (.long 0), none, some (.long 20), none], [.long (x4).toInt64])) (w' := fr_w) ((ex_stp (ins := .lload_n 0) rfl).trans rfl) ?_
      refine Go.next (f' := (2, [some (.long (x4).toInt64), none, some (.long 0), none, some (.long 20), none], [.long 0, .long (x4).toInt64])) (w' := fr_w) ((ex_stp (ins := .lload_n 2) rfl).trans rfl) ?_
      refine Go.next (f' := (3, [some (.long (x4).toInt64), none, some (.long 0), none, some (.long 20), none], [.int (lg_cmp (x4).toInt64 0)])) (w' := fr_w) ((ex_stp (ins := .lcmp) rfl).trans rfl) ?_
      refine Go.next (f' := (6, [some (.long (x4).toInt64), none, some (.long 0), none, some (.long 20), none], [])) (w' := fr_w) ((ex_stp (ins := .ifCond .lt 14) rfl).trans (ex_b0_f (c := .lt) (off := 14) (pc := 3) (lo := [some (.long (x4).toInt64), none, some (.long 0), none, some (.long 20), none]) (x := (lg_cmp (x4).toInt64 0)) (r := []) (by rw [cl_lt]; exact decide_eq_false (by first | (rw [Int32.toInt_toInt64]; show ¬ (x4.toInt < (0 : Int)); omega) | omega)) (by decide))) ?_
      refine Go.next (f' := (7, [some (.long (x4).toInt64), none, some (.long 0), none, some (.long 20), none], [.long (x4).toInt64])) (w' := fr_w) ((ex_stp (ins := .lload_n 0) rfl).trans rfl) ?_
      refine Go.next (f' := (9, [some (.long (x4).toInt64), none, some (.long 0), none, some (.long 20), none], [.long 20, .long (x4).toInt64])) (w' := fr_w) ((ex_stp (ins := .lload 4) rfl).trans rfl) ?_
      refine Go.next (f' := (10, [some (.long (x4).toInt64), none, some (.long 0), none, some (.long 20), none], [.int (lg_cmp (x4).toInt64 20)])) (w' := fr_w) ((ex_stp (ins := .lcmp) rfl).trans rfl) ?_
      refine Go.next (f' := (17, [some (.long (x4).toInt64), none, some (.long 0), none, some (.long 20), none], [])) (w' := fr_w) ((ex_stp (ins := .ifCond .gt 7) rfl).trans (ex_b0_t (c := .gt) (off := 7) (pc := 10) (lo := [some (.long (x4).toInt64), none, some (.long 0), none, some (.long 20), none]) (x := (lg_cmp (x4).toInt64 20)) (r := []) (by rw [cl_gt]; exact decide_eq_true (by first | (rw [Int32.toInt_toInt64]; show (20 : Int) < x4.toInt; omega) | omega)) (by decide))) ?_
      refine Go.next (f' := (18, [some (.long (x4).toInt64), none, some (.long 0), none, some (.long 20), none], [.int 0])) (w' := fr_w) ((ex_stp (ins := .iconst 0) rfl).trans rfl) ?_
      exact Go.ret ((ex_stp (ins := .ireturn) rfl).trans rfl)
    refine Go.call (d := 38) (cal := 93) (as := [.long (x4).toInt64, .long 0, .long 20]) (g := (18, [some (.ref 59), some (.int x1), some (.int x2), some (.int x3), some (.int x4), none, none, none, none, none, none, none], [])) (M' := mt_93) (r := some (.int 0)) (w' := fr_w) ((ex_stp (ins := .invokestatic 95) rfl).trans rfl) rfl (Nat.le_of_ble_eq_true rfl) h_210 ?_
    show Go [] 39 mt_78 (18, [some (.ref 59), some (.int x1), some (.int x2), some (.int x3), some (.int x4), none, none, none, none, none, none, none], [.int 0]) fr_w _
    refine Go.next (f' := (21, [some (.ref 59), some (.int x1), some (.int x2), some (.int x3), some (.int x4), none, none, none, none, none, none, none], [])) (w' := fr_w) ((ex_stp (ins := .ifCond .ne 5) rfl).trans rfl) ?_
    refine Go.next (f' := (22, [some (.ref 59), some (.int x1), some (.int x2), some (.int x3), some (.int x4), none, none, none, none, none, none, none], [.int (-1)])) (w' := fr_w) ((ex_stp (ins := .iconst (-1)) rfl).trans rfl) ?_
    exact Go.ret ((ex_stp (ins := .ireturn) rfl).trans rfl)
set_option maxRecDepth 100000 in
theorem ao_39_a (x1 : Int32) (g0 : x1.toInt < 0) : A2 mt_81 mt_82 [.int x1] := by
  refine ⟨(-1), fr_w, fr_w, _, ?_, rfl, ?_⟩
  · show Go [] 39 mt_81 (0, [some (.ref 0), some (.int x1)], []) fr_w _
    refine Go.next (f' := (1, [some (.ref 0), some (.int x1)], [.int x1])) (w' := fr_w) ((ex_stp (ins := .iload_n 1) rfl).trans rfl) ?_
    refine Go.next (f' := (138, [some (.ref 0), some (.int x1)], [])) (w' := fr_w) ((ex_stp (ins := .tableswitch 137 0 6 #[43, 48, 56, 64, 94, 102, 129]) rfl).trans (ex_tsw_o (x := x1) (by show x1.toInt < 0 ∨ 6 < x1.toInt; omega) (by decide))) ?_
    refine Go.next (f' := (139, [some (.ref 0), some (.int x1)], [.int (-1)])) (w' := fr_w) ((ex_stp (ins := .iconst (-1)) rfl).trans rfl) ?_
    exact Go.ret ((ex_stp (ins := .ireturn) rfl).trans rfl)
  · show Go [] 39 mt_82 (0, [some (.ref 59), some (.int x1), none, none], []) fr_w _
    refine Go.next (f' := (1, [some (.ref 59), some (.int x1), none, none], [.int 0])) (w' := fr_w) ((ex_stp (ins := .iconst 0) rfl).trans rfl) ?_
    refine Go.next (f' := (2, [some (.ref 59), some (.int x1), some (.int 0), none], [])) (w' := fr_w) ((ex_stp (ins := .istore_n 2) rfl).trans rfl) ?_
    refine Go.next (f' := (3, [some (.ref 59), some (.int x1), some (.int 0), none], [.int 0])) (w' := fr_w) ((ex_stp (ins := .iconst 0) rfl).trans rfl) ?_
    refine Go.next (f' := (4, [some (.ref 59), some (.int x1), some (.int 0), some (.int 0)], [])) (w' := fr_w) ((ex_stp (ins := .istore_n 3) rfl).trans rfl) ?_
    refine Go.next (f' := (5, [some (.ref 59), some (.int x1), some (.int 0), some (.int 0)], [.int 0])) (w' := fr_w) ((ex_stp (ins := .iload_n 3) rfl).trans rfl) ?_
    refine Go.next (f' := (6, [some (.ref 59), some (.int x1), some (.int 0), some (.int 0)], [.ref 59, .int 0])) (w' := fr_w) ((ex_stp (ins := .aload_n 0) rfl).trans rfl) ?_
    refine Go.next (f' := (9, [some (.ref 59), some (.int x1), some (.int 0), some (.int 0)], [.ref 60, .int 0])) (w' := fr_w) ((ex_stp (ins := .getfield 7) rfl).trans rfl) ?_
    refine Go.next (f' := (10, [some (.ref 59), some (.int x1), some (.int 0), some (.int 0)], [.int 0, .ref 60, .int 0])) (w' := fr_w) ((ex_stp (ins := .iconst 0) rfl).trans rfl) ?_
    refine Go.next (f' := (11, [some (.ref 59), some (.int x1), some (.int 0), some (.int 0)], [.int 0, .int 0])) (w' := fr_w) ((ex_stp (ins := .iaload) rfl).trans rfl) ?_
    refine Go.next (f' := (31, [some (.ref 59), some (.int x1), some (.int 0), some (.int 0)], [])) (w' := fr_w) ((ex_stp (ins := .if_icmp .ge 20) rfl).trans rfl) ?_
    refine Go.next (f' := (32, [some (.ref 59), some (.int x1), some (.int 0), some (.int 0)], [.int x1])) (w' := fr_w) ((ex_stp (ins := .iload_n 1) rfl).trans rfl) ?_
    refine Go.next (f' := (147, [some (.ref 59), some (.int x1), some (.int 0), some (.int 0)], [])) (w' := fr_w) ((ex_stp (ins := .tableswitch 115 0 6 #[44, 49, 57, 65, 85, 90, 113]) rfl).trans (ex_tsw_o (x := x1) (by show x1.toInt < 0 ∨ 6 < x1.toInt; omega) (by decide))) ?_
    refine Go.next (f' := (148, [some (.ref 59), some (.int x1), some (.int 0), some (.int 0)], [.int (-1)])) (w' := fr_w) ((ex_stp (ins := .iconst (-1)) rfl).trans rfl) ?_
    exact Go.ret ((ex_stp (ins := .ireturn) rfl).trans rfl)
set_option maxRecDepth 100000 in
theorem ao_39_b (x1 : Int32) (g0 : 6 < x1.toInt) : A2 mt_81 mt_82 [.int x1] := by
  refine ⟨(-1), fr_w, fr_w, _, ?_, rfl, ?_⟩
  · show Go [] 39 mt_81 (0, [some (.ref 0), some (.int x1)], []) fr_w _
    refine Go.next (f' := (1, [some (.ref 0), some (.int x1)], [.int x1])) (w' := fr_w) ((ex_stp (ins := .iload_n 1) rfl).trans rfl) ?_
    refine Go.next (f' := (138, [some (.ref 0), some (.int x1)], [])) (w' := fr_w) ((ex_stp (ins := .tableswitch 137 0 6 #[43, 48, 56, 64, 94, 102, 129]) rfl).trans (ex_tsw_o (x := x1) (by show x1.toInt < 0 ∨ 6 < x1.toInt; omega) (by decide))) ?_
    refine Go.next (f' := (139, [some (.ref 0), some (.int x1)], [.int (-1)])) (w' := fr_w) ((ex_stp (ins := .iconst (-1)) rfl).trans rfl) ?_
    exact Go.ret ((ex_stp (ins := .ireturn) rfl).trans rfl)
  · show Go [] 39 mt_82 (0, [some (.ref 59), some (.int x1), none, none], []) fr_w _
    refine Go.next (f' := (1, [some (.ref 59), some (.int x1), none, none], [.int 0])) (w' := fr_w) ((ex_stp (ins := .iconst 0) rfl).trans rfl) ?_
    refine Go.next (f' := (2, [some (.ref 59), some (.int x1), some (.int 0), none], [])) (w' := fr_w) ((ex_stp (ins := .istore_n 2) rfl).trans rfl) ?_
    refine Go.next (f' := (3, [some (.ref 59), some (.int x1), some (.int 0), none], [.int 0])) (w' := fr_w) ((ex_stp (ins := .iconst 0) rfl).trans rfl) ?_
    refine Go.next (f' := (4, [some (.ref 59), some (.int x1), some (.int 0), some (.int 0)], [])) (w' := fr_w) ((ex_stp (ins := .istore_n 3) rfl).trans rfl) ?_
    refine Go.next (f' := (5, [some (.ref 59), some (.int x1), some (.int 0), some (.int 0)], [.int 0])) (w' := fr_w) ((ex_stp (ins := .iload_n 3) rfl).trans rfl) ?_
    refine Go.next (f' := (6, [some (.ref 59), some (.int x1), some (.int 0), some (.int 0)], [.ref 59, .int 0])) (w' := fr_w) ((ex_stp (ins := .aload_n 0) rfl).trans rfl) ?_
    refine Go.next (f' := (9, [some (.ref 59), some (.int x1), some (.int 0), some (.int 0)], [.ref 60, .int 0])) (w' := fr_w) ((ex_stp (ins := .getfield 7) rfl).trans rfl) ?_
    refine Go.next (f' := (10, [some (.ref 59), some (.int x1), some (.int 0), some (.int 0)], [.int 0, .ref 60, .int 0])) (w' := fr_w) ((ex_stp (ins := .iconst 0) rfl).trans rfl) ?_
    refine Go.next (f' := (11, [some (.ref 59), some (.int x1), some (.int 0), some (.int 0)], [.int 0, .int 0])) (w' := fr_w) ((ex_stp (ins := .iaload) rfl).trans rfl) ?_
    refine Go.next (f' := (31, [some (.ref 59), some (.int x1), some (.int 0), some (.int 0)], [])) (w' := fr_w) ((ex_stp (ins := .if_icmp .ge 20) rfl).trans rfl) ?_
    refine Go.next (f' := (32, [some (.ref 59), some (.int x1), some (.int 0), some (.int 0)], [.int x1])) (w' := fr_w) ((ex_stp (ins := .iload_n 1) rfl).trans rfl) ?_
    refine Go.next (f' := (147, [some (.ref 59), some (.int x1), some (.int 0), some (.int 0)], [])) (w' := fr_w) ((ex_stp (ins := .tableswitch 115 0 6 #[44, 49, 57, 65, 85, 90, 113]) rfl).trans (ex_tsw_o (x := x1) (by show x1.toInt < 0 ∨ 6 < x1.toInt; omega) (by decide))) ?_
    refine Go.next (f' := (148, [some (.ref 59), some (.int x1), some (.int 0), some (.int 0)], [.int (-1)])) (w' := fr_w) ((ex_stp (ins := .iconst (-1)) rfl).trans rfl) ?_
    exact Go.ret ((ex_stp (ins := .ireturn) rfl).trans rfl)

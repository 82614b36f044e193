/-! keep, back. Written by wip/vg/imgen.py. -/
set_option maxRecDepth 100000 in
theorem ikeep_1 {X : List Int32} {d : Nat} {x : Int32} {w : ex_W} (b1 : Int32.toInt (x) < 0)   : Go X d mt_69 (ex_ent mt_69 [.ref 0, .int x]) w (some (.int (Int32.ofInt (-1))), w) := by
  show Go _ _ _ (0, [some (.ref 0), some (.int x), none], []) _ _
  refine Go.next (f' := (1, [some (.ref 0), some (.int x), none], [.int x])) (w' := w) ((ex_stp (ins := .iload_n 1) rfl).trans rfl) ?_
  refine Go.next (f' := (9, [some (.ref 0), some (.int x), none], [])) (w' := w) ((ex_stp (ins := .ifCond .lt 8) rfl).trans (vg_ib0t (c := .lt) (off := 8) (pc := 1) (lo := [some (.ref 0), some (.int x), none]) (r := []) (w := w) (x := x) (kq_lt_t b1) (by decide))) ?_
  refine Go.next (f' := (10, [some (.ref 0), some (.int x), none], [.int (Int32.ofInt (-1))])) (w' := w) ((ex_stp (ins := .iconst (-1)) rfl).trans rfl) ?_
  exact Go.ret ((ex_stp (ins := .ireturn) rfl).trans (vg_retI rfl))

set_option maxRecDepth 100000 in
theorem ikeep_2 {X : List Int32} {d : Nat} {x : Int32} {w : ex_W} (b1 : Int32.toInt (x) ≥ 0) (b2 : Int32.toInt (x) ≥ 2)   : Go X d mt_69 (ex_ent mt_69 [.ref 0, .int x]) w (some (.int (Int32.ofInt (-1))), w) := by
  show Go _ _ _ (0, [some (.ref 0), some (.int x), none], []) _ _
  refine Go.next (f' := (1, [some (.ref 0), some (.int x), none], [.int x])) (w' := w) ((ex_stp (ins := .iload_n 1) rfl).trans rfl) ?_
  refine Go.next (f' := (4, [some (.ref 0), some (.int x), none], [])) (w' := w) ((ex_stp (ins := .ifCond .lt 8) rfl).trans (vg_ib0f (c := .lt) (off := 8) (pc := 1) (lo := [some (.ref 0), some (.int x), none]) (r := []) (w := w) (x := x) (kq_lt_f b1) (by decide))) ?_
  refine Go.next (f' := (5, [some (.ref 0), some (.int x), none], [.int x])) (w' := w) ((ex_stp (ins := .iload_n 1) rfl).trans rfl) ?_
  refine Go.next (f' := (6, [some (.ref 0), some (.int x), none], [.int 2, .int x])) (w' := w) ((ex_stp (ins := .iconst 2) rfl).trans rfl) ?_
  refine Go.next (f' := (9, [some (.ref 0), some (.int x), none], [])) (w' := w) ((ex_stp (ins := .if_icmp .lt 5) rfl).trans (vg_ib2f (c := .lt) (off := 5) (pc := 6) (lo := [some (.ref 0), some (.int x), none]) (r := []) (w := w) (x := x) (y := 2) (kn_lt_f (c := 2) (by decide) b2) (by decide))) ?_
  refine Go.next (f' := (10, [some (.ref 0), some (.int x), none], [.int (Int32.ofInt (-1))])) (w' := w) ((ex_stp (ins := .iconst (-1)) rfl).trans rfl) ?_
  exact Go.ret ((ex_stp (ins := .ireturn) rfl).trans (vg_retI rfl))

set_option maxRecDepth 100000 in
theorem iback_1 {X : List Int32} {d : Nat} {x : Int32} {w : ex_W} (b1 : Int32.toInt (x) < 0)   : Go X d mt_71 (ex_ent mt_71 [.ref 0, .int x]) w (some (.int (Int32.ofInt (-1))), w) := by
  show Go _ _ _ (0, [some (.ref 0), some (.int x)], []) _ _
  refine Go.next (f' := (1, [some (.ref 0), some (.int x)], [.int x])) (w' := w) ((ex_stp (ins := .iload_n 1) rfl).trans rfl) ?_
  refine Go.next (f' := (9, [some (.ref 0), some (.int x)], [])) (w' := w) ((ex_stp (ins := .ifCond .lt 8) rfl).trans (vg_ib0t (c := .lt) (off := 8) (pc := 1) (lo := [some (.ref 0), some (.int x)]) (r := []) (w := w) (x := x) (kq_lt_t b1) (by decide))) ?_
  refine Go.next (f' := (10, [some (.ref 0), some (.int x)], [.int (Int32.ofInt (-1))])) (w' := w) ((ex_stp (ins := .iconst (-1)) rfl).trans rfl) ?_
  exact Go.ret ((ex_stp (ins := .ireturn) rfl).trans (vg_retI rfl))

set_option maxRecDepth 100000 in
theorem iback_2 {X : List Int32} {d : Nat} {x : Int32} {w : ex_W} (b1 : Int32.toInt (x) ≥ 0) (b2 : Int32.toInt (x) ≥ 2)   : Go X d mt_71 (ex_ent mt_71 [.ref 0, .int x]) w (some (.int (Int32.ofInt (-1))), w) := by
  show Go _ _ _ (0, [some (.ref 0), some (.int x)], []) _ _
  refine Go.next (f' := (1, [some (.ref 0), some (.int x)], [.int x])) (w' := w) ((ex_stp (ins := .iload_n 1) rfl).trans rfl) ?_
  refine Go.next (f' := (4, [some (.ref 0), some (.int x)], [])) (w' := w) ((ex_stp (ins := .ifCond .lt 8) rfl).trans (vg_ib0f (c := .lt) (off := 8) (pc := 1) (lo := [some (.ref 0), some (.int x)]) (r := []) (w := w) (x := x) (kq_lt_f b1) (by decide))) ?_
  refine Go.next (f' := (5, [some (.ref 0), some (.int x)], [.int x])) (w' := w) ((ex_stp (ins := .iload_n 1) rfl).trans rfl) ?_
  refine Go.next (f' := (6, [some (.ref 0), some (.int x)], [.int 2, .int x])) (w' := w) ((ex_stp (ins := .iconst 2) rfl).trans rfl) ?_
  refine Go.next (f' := (9, [some (.ref 0), some (.int x)], [])) (w' := w) ((ex_stp (ins := .if_icmp .lt 5) rfl).trans (vg_ib2f (c := .lt) (off := 5) (pc := 6) (lo := [some (.ref 0), some (.int x)]) (r := []) (w := w) (x := x) (y := 2) (kn_lt_f (c := 2) (by decide) b2) (by decide))) ?_
  refine Go.next (f' := (10, [some (.ref 0), some (.int x)], [.int (Int32.ofInt (-1))])) (w' := w) ((ex_stp (ins := .iconst (-1)) rfl).trans rfl) ?_
  exact Go.ret ((ex_stp (ins := .ireturn) rfl).trans (vg_retI rfl))

set_option maxRecDepth 100000 in
theorem jkeep_1 {X : List Int32} {d : Nat} {x : Int32} {w : ex_W} (c1 : Go X d mt_93 (ex_ent mt_93 [.long (Int32.toInt64 (x)), .long 0, .long 1]) w (some (.int 0), w))   : Go X (d + 1) mt_70 (ex_ent mt_70 [.ref 59, .int x]) w (some (.int (Int32.ofInt (-1))), w) := by
  show Go _ _ _ (0, [some (.ref 59), some (.int x), none], []) _ _
  refine Go.next (f' := (1, [some (.ref 59), some (.int x), none], [.int x])) (w' := w) ((ex_stp (ins := .iload_n 1) rfl).trans rfl) ?_
  refine Go.next (f' := (2, [some (.ref 59), some (.int x), none], [.long (Int32.toInt64 (x))])) (w' := w) ((ex_stp (ins := .i2l) rfl).trans rfl) ?_
  refine Go.next (f' := (3, [some (.ref 59), some (.int x), none], [.long 0, .long (Int32.toInt64 (x))])) (w' := w) ((ex_stp (ins := .lconst 0) rfl).trans rfl) ?_
  refine Go.next (f' := (4, [some (.ref 59), some (.int x), none], [.long 1, .long 0, .long (Int32.toInt64 (x))])) (w' := w) ((ex_stp (ins := .lconst 1) rfl).trans rfl) ?_
  refine Go.call (cal := 93) (as := [.long (Int32.toInt64 (x)), .long 0, .long 1]) (g := (7, [some (.ref 59), some (.int x), none], [])) (M' := mt_93) (r := some (.int 0)) (w' := w) ((ex_stp (ins := .invokestatic 95) rfl).trans (vg_cl1 (cal := 93) (n := 3) (rc := 0) (p1 := 1088) (p2 := 1089) (p3 := 76) (pc := 4) (lo := [some (.ref 59), some (.int x), none]) (st := [.long 1, .long 0, .long (Int32.toInt64 (x))]) (w := w) (Nat.le_of_ble_eq_true rfl) (Nat.le_of_ble_eq_true rfl))) rfl (Nat.le_of_ble_eq_true rfl) c1 ?_
  show Go _ _ _ (7, [some (.ref 59), some (.int x), none], [.int 0]) _ _
  refine Go.next (f' := (10, [some (.ref 59), some (.int x), none], [])) (w' := w) ((ex_stp (ins := .ifCond .ne 5) rfl).trans (vg_ib0f (c := .ne) (off := 5) (pc := 7) (lo := [some (.ref 59), some (.int x), none]) (r := []) (w := w) (x := 0) (by decide) (by decide))) ?_
  refine Go.next (f' := (11, [some (.ref 59), some (.int x), none], [.int (Int32.ofInt (-1))])) (w' := w) ((ex_stp (ins := .iconst (-1)) rfl).trans rfl) ?_
  exact Go.ret ((ex_stp (ins := .ireturn) rfl).trans (vg_retI rfl))

set_option maxRecDepth 100000 in
theorem jback_1 {X : List Int32} {d : Nat} {x : Int32} {w : ex_W} (c1 : Go X d mt_93 (ex_ent mt_93 [.long (Int32.toInt64 (x)), .long 0, .long 1]) w (some (.int 0), w))   : Go X (d + 1) mt_72 (ex_ent mt_72 [.ref 59, .int x]) w (some (.int (Int32.ofInt (-1))), w) := by
  show Go _ _ _ (0, [some (.ref 59), some (.int x)], []) _ _
  refine Go.next (f' := (1, [some (.ref 59), some (.int x)], [.int x])) (w' := w) ((ex_stp (ins := .iload_n 1) rfl).trans rfl) ?_
  refine Go.next (f' := (2, [some (.ref 59), some (.int x)], [.long (Int32.toInt64 (x))])) (w' := w) ((ex_stp (ins := .i2l) rfl).trans rfl) ?_
  refine Go.next (f' := (3, [some (.ref 59), some (.int x)], [.long 0, .long (Int32.toInt64 (x))])) (w' := w) ((ex_stp (ins := .lconst 0) rfl).trans rfl) ?_
  refine Go.next (f' := (4, [some (.ref 59), some (.int x)], [.long 1, .long 0, .long (Int32.toInt64 (x))])) (w' := w) ((ex_stp (ins := .lconst 1) rfl).trans rfl) ?_
  refine Go.call (cal := 93) (as := [.long (Int32.toInt64 (x)), .long 0, .long 1]) (g := (7, [some (.ref 59), some (.int x)], [])) (M' := mt_93) (r := some (.int 0)) (w' := w) ((ex_stp (ins := .invokestatic 95) rfl).trans (vg_cl1 (cal := 93) (n := 3) (rc := 0) (p1 := 1088) (p2 := 1089) (p3 := 76) (pc := 4) (lo := [some (.ref 59), some (.int x)]) (st := [.long 1, .long 0, .long (Int32.toInt64 (x))]) (w := w) (Nat.le_of_ble_eq_true rfl) (Nat.le_of_ble_eq_true rfl))) rfl (Nat.le_of_ble_eq_true rfl) c1 ?_
  show Go _ _ _ (7, [some (.ref 59), some (.int x)], [.int 0]) _ _
  refine Go.next (f' := (10, [some (.ref 59), some (.int x)], [])) (w' := w) ((ex_stp (ins := .ifCond .ne 5) rfl).trans (vg_ib0f (c := .ne) (off := 5) (pc := 7) (lo := [some (.ref 59), some (.int x)]) (r := []) (w := w) (x := 0) (by decide) (by decide))) ?_
  refine Go.next (f' := (11, [some (.ref 59), some (.int x)], [.int (Int32.ofInt (-1))])) (w' := w) ((ex_stp (ins := .iconst (-1)) rfl).trans rfl) ?_
  exact Go.ret ((ex_stp (ins := .ireturn) rfl).trans (vg_retI rfl))

set_option maxRecDepth 100000 in
theorem jflag_0 {X : List Int32} {d : Nat} {w : ex_W}    : Go X d mt_135 (ex_ent mt_135 [.int 0]) w (some (.int 0), w) := by
  show Go _ _ _ (0, [some (.int 0)], []) _ _
  refine Go.next (f' := (1, [some (.int 0)], [.int 0])) (w' := w) ((ex_stp (ins := .iload_n 0) rfl).trans rfl) ?_
  refine Go.next (f' := (8, [some (.int 0)], [])) (w' := w) ((ex_stp (ins := .ifCond .eq 7) rfl).trans (vg_ib0t (c := .eq) (off := 7) (pc := 1) (lo := [some (.int 0)]) (r := []) (w := w) (x := 0) (by decide) (by decide))) ?_
  refine Go.next (f' := (9, [some (.int 0)], [.int 0])) (w' := w) ((ex_stp (ins := .iconst 0) rfl).trans rfl) ?_
  exact Go.ret ((ex_stp (ins := .ireturn) rfl).trans (vg_retI rfl))

set_option maxRecDepth 100000 in
theorem jflag_1 {X : List Int32} {d : Nat} {w : ex_W}    : Go X d mt_135 (ex_ent mt_135 [.int 1]) w (some (.int 1), w) := by
  show Go _ _ _ (0, [some (.int 1)], []) _ _
  refine Go.next (f' := (1, [some (.int 1)], [.int 1])) (w' := w) ((ex_stp (ins := .iload_n 0) rfl).trans rfl) ?_
  refine Go.next (f' := (4, [some (.int 1)], [])) (w' := w) ((ex_stp (ins := .ifCond .eq 7) rfl).trans (vg_ib0f (c := .eq) (off := 7) (pc := 1) (lo := [some (.int 1)]) (r := []) (w := w) (x := 1) (by decide) (by decide))) ?_
  refine Go.next (f' := (5, [some (.int 1)], [.int 1])) (w' := w) ((ex_stp (ins := .iconst 1) rfl).trans rfl) ?_
  refine Go.next (f' := (9, [some (.int 1)], [.int 1])) (w' := w) ((ex_stp (ins := .goto 4) rfl).trans rfl) ?_
  exact Go.ret ((ex_stp (ins := .ireturn) rfl).trans (vg_retI rfl))

set_option maxRecDepth 100000 in
theorem ikeep_3_0 {X : List Int32} {d : Nat} {t : Nat} {KE : List Int32} {w w1 : ex_W} {fs fs9 : List Value} (h0 : ex_at w 0 = some (.inr (.inr (7, fs)))) (f0_5 : ex_at fs 5 = some (.ref 35)) (f0_6 : ex_at fs 6 = some (.ref 34)) (f0_9 : ex_at fs 9 = some (.ref t)) (h34 : ex_at w 34 = some (.inl (.boolean, KE))) (h35 : ex_at w 35 = some (.inr (.inl (6, [some 36, some 43])))) (h36 : ex_at w 36 = some (.inr (.inr (6, fs9)))) (i1 : ex_ix 0 KE.length = true) (b2 : Int32.toInt (ex_gd KE (Int32.toNatClampNeg (0))) = 0) (c3 : Go X d mt_144 (ex_ent mt_144 [.ref 36, .ref t]) w (none, w1)) (h0_1 : ex_at w1 0 = some (.inr (.inr (7, fs)))) (f0_5_1 : ex_at fs 5 = some (.ref 35)) (f0_6_1 : ex_at fs 6 = some (.ref 34)) (f0_9_1 : ex_at fs 9 = some (.ref t)) (h34_1 : ex_at w1 34 = some (.inl (.boolean, KE))) (i4 : ex_ix 0 KE.length = true)   : Go X (d + 1) mt_69 (ex_ent mt_69 [.ref 0, .int 0]) w (some (.int 0), (ex_put w1 34 (.inl (.boolean, (ex_put KE (Int32.toNatClampNeg (0)) (ex_nar .boolean 1)))))) := by
  show Go _ _ _ (0, [some (.ref 0), some (.int 0), none], []) _ _
  refine Go.next (f' := (1, [some (.ref 0), some (.int 0), none], [.int 0])) (w' := w) ((ex_stp (ins := .iload_n 1) rfl).trans rfl) ?_
  refine Go.next (f' := (4, [some (.ref 0), some (.int 0), none], [])) (w' := w) ((ex_stp (ins := .ifCond .lt 8) rfl).trans (vg_ib0f (c := .lt) (off := 8) (pc := 1) (lo := [some (.ref 0), some (.int 0), none]) (r := []) (w := w) (x := 0) (by decide) (by decide))) ?_
  refine Go.next (f' := (5, [some (.ref 0), some (.int 0), none], [.int 0])) (w' := w) ((ex_stp (ins := .iload_n 1) rfl).trans rfl) ?_
  refine Go.next (f' := (6, [some (.ref 0), some (.int 0), none], [.int 2, .int 0])) (w' := w) ((ex_stp (ins := .iconst 2) rfl).trans rfl) ?_
  refine Go.next (f' := (11, [some (.ref 0), some (.int 0), none], [])) (w' := w) ((ex_stp (ins := .if_icmp .lt 5) rfl).trans (vg_ib2t (c := .lt) (off := 5) (pc := 6) (lo := [some (.ref 0), some (.int 0), none]) (r := []) (w := w) (x := 0) (y := 2) (by decide) (by decide))) ?_
  refine Go.next (f' := (12, [some (.ref 0), some (.int 0), none], [.ref 0])) (w' := w) ((ex_stp (ins := .aload_n 0) rfl).trans rfl) ?_
  refine Go.next (f' := (15, [some (.ref 0), some (.int 0), none], [.ref 34])) (w' := w) ((ex_stp (ins := .getfield 62) rfl).trans (vg_get (ci := 7) (k := 6) (pl := 359) (pc := 12) (lo := [some (.ref 0), some (.int 0), none]) (r := []) (fs := fs) (v := .ref 34) h0 f0_6)) ?_
  refine Go.next (f' := (16, [some (.ref 0), some (.int 0), none], [.int 0, .ref 34])) (w' := w) ((ex_stp (ins := .iload_n 1) rfl).trans rfl) ?_
  refine Go.next (f' := (17, [some (.ref 0), some (.int 0), none], [.int (ex_gd KE (Int32.toNatClampNeg (0)))])) (w' := w) ((ex_stp (ins := .baload) rfl).trans (vg_ald (by_ := true) (isL := false) (X := X) (pc := 16) (lo := [some (.ref 0), some (.int 0), none]) (r := []) (i := 0) (l := KE) h34 rfl i1)) ?_
  refine Go.next (f' := (24, [some (.ref 0), some (.int 0), none], [])) (w' := w) ((ex_stp (ins := .ifCond .eq 7) rfl).trans (vg_ib0t (c := .eq) (off := 7) (pc := 17) (lo := [some (.ref 0), some (.int 0), none]) (r := []) (w := w) (x := (ex_gd KE (Int32.toNatClampNeg (0)))) (kq_eq_t b2) (by decide))) ?_
  refine Go.next (f' := (25, [some (.ref 0), some (.int 0), none], [.int 0])) (w' := w) ((ex_stp (ins := .iconst 0) rfl).trans rfl) ?_
  refine Go.next (f' := (26, [some (.ref 0), some (.int 0), some (.int 0)], [])) (w' := w) ((ex_stp (ins := .istore_n 2) rfl).trans rfl) ?_
  refine Go.next (f' := (27, [some (.ref 0), some (.int 0), some (.int 0)], [.ref 0])) (w' := w) ((ex_stp (ins := .aload_n 0) rfl).trans rfl) ?_
  refine Go.next (f' := (30, [some (.ref 0), some (.int 0), some (.int 0)], [.ref 35])) (w' := w) ((ex_stp (ins := .getfield 66) rfl).trans (vg_get (ci := 7) (k := 5) (pl := 358) (pc := 27) (lo := [some (.ref 0), some (.int 0), some (.int 0)]) (r := []) (fs := fs) (v := .ref 35) h0 f0_5)) ?_
  refine Go.next (f' := (31, [some (.ref 0), some (.int 0), some (.int 0)], [.int 0, .ref 35])) (w' := w) ((ex_stp (ins := .iload_n 1) rfl).trans rfl) ?_
  refine Go.next (f' := (32, [some (.ref 0), some (.int 0), some (.int 0)], [.ref 36])) (w' := w) ((ex_stp (ins := .aaload) rfl).trans (vg_alq (ci := 6) (k := 36) (pc := 31) (lo := [some (.ref 0), some (.int 0), some (.int 0)]) (r := []) (i := 0) h35 (by decide) (by decide) rfl)) ?_
  refine Go.next (f' := (33, [some (.ref 0), some (.int 0), some (.int 0)], [.ref 0, .ref 36])) (w' := w) ((ex_stp (ins := .aload_n 0) rfl).trans rfl) ?_
  refine Go.next (f' := (36, [some (.ref 0), some (.int 0), some (.int 0)], [.ref t, .ref 36])) (w' := w) ((ex_stp (ins := .getfield 10) rfl).trans (vg_get (ci := 7) (k := 9) (pl := 362) (pc := 33) (lo := [some (.ref 0), some (.int 0), some (.int 0)]) (r := [.ref 36]) (fs := fs) (v := .ref t) h0 f0_9)) ?_
  refine Go.call (cal := 144) (as := [.ref 36, .ref t]) (g := (39, [some (.ref 0), some (.int 0), some (.int 0)], [])) (M' := mt_144) (r := none) (w' := w1) ((ex_stp (ins := .invokevirtual 239) rfl).trans (vg_cl0 (cal := 144) (n := 2) (rc := 6) (p1 := 901) (p2 := 902) (p3 := 903) (fs := fs9) (tl := [.ref t]) (pc := 36) (lo := [some (.ref 0), some (.int 0), some (.int 0)]) (st := [.ref t, .ref 36]) (Nat.le_of_ble_eq_true rfl) (Nat.le_of_ble_eq_true rfl) rfl h36)) rfl (Nat.le_of_ble_eq_true rfl) c3 ?_
  show Go _ _ _ (39, [some (.ref 0), some (.int 0), some (.int 0)], []) _ _
  refine Go.next (f' := (40, [some (.ref 0), some (.int 0), some (.int 0)], [.ref 0])) (w' := w1) ((ex_stp (ins := .aload_n 0) rfl).trans rfl) ?_
  refine Go.next (f' := (43, [some (.ref 0), some (.int 0), some (.int 0)], [.ref 34])) (w' := w1) ((ex_stp (ins := .getfield 62) rfl).trans (vg_get (ci := 7) (k := 6) (pl := 359) (pc := 40) (lo := [some (.ref 0), some (.int 0), some (.int 0)]) (r := []) (fs := fs) (v := .ref 34) h0_1 f0_6_1)) ?_
  refine Go.next (f' := (44, [some (.ref 0), some (.int 0), some (.int 0)], [.int 0, .ref 34])) (w' := w1) ((ex_stp (ins := .iload_n 1) rfl).trans rfl) ?_
  refine Go.next (f' := (45, [some (.ref 0), some (.int 0), some (.int 0)], [.int 1, .int 0, .ref 34])) (w' := w1) ((ex_stp (ins := .iconst 1) rfl).trans rfl) ?_
  refine Go.next (f' := (46, [some (.ref 0), some (.int 0), some (.int 0)], [])) (w' := (ex_put w1 34 (.inl (.boolean, (ex_put KE (Int32.toNatClampNeg (0)) (ex_nar .boolean 1)))))) ((ex_stp (ins := .bastore) rfl).trans (vg_ast (by_ := true) (pc := 45) (lo := [some (.ref 0), some (.int 0), some (.int 0)]) (r := []) (i := 0) (x := 1) (l := KE) (w := w1) h34_1 rfl i4)) ?_
  refine Go.next (f' := (47, [some (.ref 0), some (.int 0), some (.int 0)], [.int 0])) (w' := (ex_put w1 34 (.inl (.boolean, (ex_put KE (Int32.toNatClampNeg (0)) (ex_nar .boolean 1)))))) ((ex_stp (ins := .iload_n 2) rfl).trans rfl) ?_
  exact Go.ret ((ex_stp (ins := .ireturn) rfl).trans (vg_retI rfl))

set_option maxRecDepth 100000 in
theorem ikeep_3_1 {X : List Int32} {d : Nat} {t : Nat} {KE : List Int32} {w w1 : ex_W} {fs fs9 : List Value} (h0 : ex_at w 0 = some (.inr (.inr (7, fs)))) (f0_5 : ex_at fs 5 = some (.ref 35)) (f0_6 : ex_at fs 6 = some (.ref 34)) (f0_9 : ex_at fs 9 = some (.ref t)) (h34 : ex_at w 34 = some (.inl (.boolean, KE))) (h35 : ex_at w 35 = some (.inr (.inl (6, [some 36, some 43])))) (h36 : ex_at w 36 = some (.inr (.inr (6, fs9)))) (i1 : ex_ix 0 KE.length = true) (b2 : ¬ Int32.toInt (ex_gd KE (Int32.toNatClampNeg (0))) = 0) (c3 : Go X d mt_144 (ex_ent mt_144 [.ref 36, .ref t]) w (none, w1)) (h0_1 : ex_at w1 0 = some (.inr (.inr (7, fs)))) (f0_5_1 : ex_at fs 5 = some (.ref 35)) (f0_6_1 : ex_at fs 6 = some (.ref 34)) (f0_9_1 : ex_at fs 9 = some (.ref t)) (h34_1 : ex_at w1 34 = some (.inl (.boolean, KE))) (i4 : ex_ix 0 KE.length = true)   : Go X (d + 1) mt_69 (ex_ent mt_69 [.ref 0, .int 0]) w (some (.int 1), (ex_put w1 34 (.inl (.boolean, (ex_put KE (Int32.toNatClampNeg (0)) (ex_nar .boolean 1)))))) := by
  show Go _ _ _ (0, [some (.ref 0), some (.int 0), none], []) _ _
  refine Go.next (f' := (1, [some (.ref 0), some (.int 0), none], [.int 0])) (w' := w) ((ex_stp (ins := .iload_n 1) rfl).trans rfl) ?_
  refine Go.next (f' := (4, [some (.ref 0), some (.int 0), none], [])) (w' := w) ((ex_stp (ins := .ifCond .lt 8) rfl).trans (vg_ib0f (c := .lt) (off := 8) (pc := 1) (lo := [some (.ref 0), some (.int 0), none]) (r := []) (w := w) (x := 0) (by decide) (by decide))) ?_
  refine Go.next (f' := (5, [some (.ref 0), some (.int 0), none], [.int 0])) (w' := w) ((ex_stp (ins := .iload_n 1) rfl).trans rfl) ?_
  refine Go.next (f' := (6, [some (.ref 0), some (.int 0), none], [.int 2, .int 0])) (w' := w) ((ex_stp (ins := .iconst 2) rfl).trans rfl) ?_
  refine Go.next (f' := (11, [some (.ref 0), some (.int 0), none], [])) (w' := w) ((ex_stp (ins := .if_icmp .lt 5) rfl).trans (vg_ib2t (c := .lt) (off := 5) (pc := 6) (lo := [some (.ref 0), some (.int 0), none]) (r := []) (w := w) (x := 0) (y := 2) (by decide) (by decide))) ?_
  refine Go.next (f' := (12, [some (.ref 0), some (.int 0), none], [.ref 0])) (w' := w) ((ex_stp (ins := .aload_n 0) rfl).trans rfl) ?_
  refine Go.next (f' := (15, [some (.ref 0), some (.int 0), none], [.ref 34])) (w' := w) ((ex_stp (ins := .getfield 62) rfl).trans (vg_get (ci := 7) (k := 6) (pl := 359) (pc := 12) (lo := [some (.ref 0), some (.int 0), none]) (r := []) (fs := fs) (v := .ref 34) h0 f0_6)) ?_
  refine Go.next (f' := (16, [some (.ref 0), some (.int 0), none], [.int 0, .ref 34])) (w' := w) ((ex_stp (ins := .iload_n 1) rfl).trans rfl) ?_
  refine Go.next (f' := (17, [some (.ref 0), some (.int 0), none], [.int (ex_gd KE (Int32.toNatClampNeg (0)))])) (w' := w) ((ex_stp (ins := .baload) rfl).trans (vg_ald (by_ := true) (isL := false) (X := X) (pc := 16) (lo := [some (.ref 0), some (.int 0), none]) (r := []) (i := 0) (l := KE) h34 rfl i1)) ?_
  refine Go.next (f' := (20, [some (.ref 0), some (.int 0), none], [])) (w' := w) ((ex_stp (ins := .ifCond .eq 7) rfl).trans (vg_ib0f (c := .eq) (off := 7) (pc := 17) (lo := [some (.ref 0), some (.int 0), none]) (r := []) (w := w) (x := (ex_gd KE (Int32.toNatClampNeg (0)))) (kq_eq_f b2) (by decide))) ?_
  refine Go.next (f' := (21, [some (.ref 0), some (.int 0), none], [.int 1])) (w' := w) ((ex_stp (ins := .iconst 1) rfl).trans rfl) ?_
  refine Go.next (f' := (25, [some (.ref 0), some (.int 0), none], [.int 1])) (w' := w) ((ex_stp (ins := .goto 4) rfl).trans rfl) ?_
  refine Go.next (f' := (26, [some (.ref 0), some (.int 0), some (.int 1)], [])) (w' := w) ((ex_stp (ins := .istore_n 2) rfl).trans rfl) ?_
  refine Go.next (f' := (27, [some (.ref 0), some (.int 0), some (.int 1)], [.ref 0])) (w' := w) ((ex_stp (ins := .aload_n 0) rfl).trans rfl) ?_
  refine Go.next (f' := (30, [some (.ref 0), some (.int 0), some (.int 1)], [.ref 35])) (w' := w) ((ex_stp (ins := .getfield 66) rfl).trans (vg_get (ci := 7) (k := 5) (pl := 358) (pc := 27) (lo := [some (.ref 0), some (.int 0), some (.int 1)]) (r := []) (fs := fs) (v := .ref 35) h0 f0_5)) ?_
  refine Go.next (f' := (31, [some (.ref 0), some (.int 0), some (.int 1)], [.int 0, .ref 35])) (w' := w) ((ex_stp (ins := .iload_n 1) rfl).trans rfl) ?_
  refine Go.next (f' := (32, [some (.ref 0), some (.int 0), some (.int 1)], [.ref 36])) (w' := w) ((ex_stp (ins := .aaload) rfl).trans (vg_alq (ci := 6) (k := 36) (pc := 31) (lo := [some (.ref 0), some (.int 0), some (.int 1)]) (r := []) (i := 0) h35 (by decide) (by decide) rfl)) ?_
  refine Go.next (f' := (33, [some (.ref 0), some (.int 0), some (.int 1)], [.ref 0, .ref 36])) (w' := w) ((ex_stp (ins := .aload_n 0) rfl).trans rfl) ?_
  refine Go.next (f' := (36, [some (.ref 0), some (.int 0), some (.int 1)], [.ref t, .ref 36])) (w' := w) ((ex_stp (ins := .getfield 10) rfl).trans (vg_get (ci := 7) (k := 9) (pl := 362) (pc := 33) (lo := [some (.ref 0), some (.int 0), some (.int 1)]) (r := [.ref 36]) (fs := fs) (v := .ref t) h0 f0_9)) ?_
  refine Go.call (cal := 144) (as := [.ref 36, .ref t]) (g := (39, [some (.ref 0), some (.int 0), some (.int 1)], [])) (M' := mt_144) (r := none) (w' := w1) ((ex_stp (ins := .invokevirtual 239) rfl).trans (vg_cl0 (cal := 144) (n := 2) (rc := 6) (p1 := 901) (p2 := 902) (p3 := 903) (fs := fs9) (tl := [.ref t]) (pc := 36) (lo := [some (.ref 0), some (.int 0), some (.int 1)]) (st := [.ref t, .ref 36]) (Nat.le_of_ble_eq_true rfl) (Nat.le_of_ble_eq_true rfl) rfl h36)) rfl (Nat.le_of_ble_eq_true rfl) c3 ?_
  show Go _ _ _ (39, [some (.ref 0), some (.int 0), some (.int 1)], []) _ _
  refine Go.next (f' := (40, [some (.ref 0), some (.int 0), some (.int 1)], [.ref 0])) (w' := w1) ((ex_stp (ins := .aload_n 0) rfl).trans rfl) ?_
  refine Go.next (f' := (43, [some (.ref 0), some (.int 0), some (.int 1)], [.ref 34])) (w' := w1) ((ex_stp (ins := .getfield 62) rfl).trans (vg_get (ci := 7) (k := 6) (pl := 359) (pc := 40) (lo := [some (.ref 0), some (.int 0), some (.int 1)]) (r := []) (fs := fs) (v := .ref 34) h0_1 f0_6_1)) ?_
  refine Go.next (f' := (44, [some (.ref 0), some (.int 0), some (.int 1)], [.int 0, .ref 34])) (w' := w1) ((ex_stp (ins := .iload_n 1) rfl).trans rfl) ?_
  refine Go.next (f' := (45, [some (.ref 0), some (.int 0), some (.int 1)], [.int 1, .int 0, .ref 34])) (w' := w1) ((ex_stp (ins := .iconst 1) rfl).trans rfl) ?_
  refine Go.next (f' := (46, [some (.ref 0), some (.int 0), some (.int 1)], [])) (w' := (ex_put w1 34 (.inl (.boolean, (ex_put KE (Int32.toNatClampNeg (0)) (ex_nar .boolean 1)))))) ((ex_stp (ins := .bastore) rfl).trans (vg_ast (by_ := true) (pc := 45) (lo := [some (.ref 0), some (.int 0), some (.int 1)]) (r := []) (i := 0) (x := 1) (l := KE) (w := w1) h34_1 rfl i4)) ?_
  refine Go.next (f' := (47, [some (.ref 0), some (.int 0), some (.int 1)], [.int 1])) (w' := (ex_put w1 34 (.inl (.boolean, (ex_put KE (Int32.toNatClampNeg (0)) (ex_nar .boolean 1)))))) ((ex_stp (ins := .iload_n 2) rfl).trans rfl) ?_
  exact Go.ret ((ex_stp (ins := .ireturn) rfl).trans (vg_retI rfl))

set_option maxRecDepth 100000 in
theorem iback_3_n {X : List Int32} {d : Nat} {t : Nat} {KE : List Int32} {w : ex_W} {fs : List Value} (h0 : ex_at w 0 = some (.inr (.inr (7, fs)))) (f0_5 : ex_at fs 5 = some (.ref 35)) (f0_6 : ex_at fs 6 = some (.ref 34)) (f0_9 : ex_at fs 9 = some (.ref t)) (h34 : ex_at w 34 = some (.inl (.boolean, KE))) (i1 : ex_ix 0 KE.length = true) (b2 : Int32.toInt (ex_gd KE (Int32.toNatClampNeg (0))) = 0)   : Go X d mt_71 (ex_ent mt_71 [.ref 0, .int 0]) w (some (.int ((Int8.ofInt (-2)).toInt32)), w) := by
  show Go _ _ _ (0, [some (.ref 0), some (.int 0)], []) _ _
  refine Go.next (f' := (1, [some (.ref 0), some (.int 0)], [.int 0])) (w' := w) ((ex_stp (ins := .iload_n 1) rfl).trans rfl) ?_
  refine Go.next (f' := (4, [some (.ref 0), some (.int 0)], [])) (w' := w) ((ex_stp (ins := .ifCond .lt 8) rfl).trans (vg_ib0f (c := .lt) (off := 8) (pc := 1) (lo := [some (.ref 0), some (.int 0)]) (r := []) (w := w) (x := 0) (by decide) (by decide))) ?_
  refine Go.next (f' := (5, [some (.ref 0), some (.int 0)], [.int 0])) (w' := w) ((ex_stp (ins := .iload_n 1) rfl).trans rfl) ?_
  refine Go.next (f' := (6, [some (.ref 0), some (.int 0)], [.int 2, .int 0])) (w' := w) ((ex_stp (ins := .iconst 2) rfl).trans rfl) ?_
  refine Go.next (f' := (11, [some (.ref 0), some (.int 0)], [])) (w' := w) ((ex_stp (ins := .if_icmp .lt 5) rfl).trans (vg_ib2t (c := .lt) (off := 5) (pc := 6) (lo := [some (.ref 0), some (.int 0)]) (r := []) (w := w) (x := 0) (y := 2) (by decide) (by decide))) ?_
  refine Go.next (f' := (12, [some (.ref 0), some (.int 0)], [.ref 0])) (w' := w) ((ex_stp (ins := .aload_n 0) rfl).trans rfl) ?_
  refine Go.next (f' := (15, [some (.ref 0), some (.int 0)], [.ref 34])) (w' := w) ((ex_stp (ins := .getfield 62) rfl).trans (vg_get (ci := 7) (k := 6) (pl := 359) (pc := 12) (lo := [some (.ref 0), some (.int 0)]) (r := []) (fs := fs) (v := .ref 34) h0 f0_6)) ?_
  refine Go.next (f' := (16, [some (.ref 0), some (.int 0)], [.int 0, .ref 34])) (w' := w) ((ex_stp (ins := .iload_n 1) rfl).trans rfl) ?_
  refine Go.next (f' := (17, [some (.ref 0), some (.int 0)], [.int (ex_gd KE (Int32.toNatClampNeg (0)))])) (w' := w) ((ex_stp (ins := .baload) rfl).trans (vg_ald (by_ := true) (isL := false) (X := X) (pc := 16) (lo := [some (.ref 0), some (.int 0)]) (r := []) (i := 0) (l := KE) h34 rfl i1)) ?_
  refine Go.next (f' := (20, [some (.ref 0), some (.int 0)], [])) (w' := w) ((ex_stp (ins := .ifCond .ne 6) rfl).trans (vg_ib0f (c := .ne) (off := 6) (pc := 17) (lo := [some (.ref 0), some (.int 0)]) (r := []) (w := w) (x := (ex_gd KE (Int32.toNatClampNeg (0)))) (kq_ne_f b2) (by decide))) ?_
  refine Go.next (f' := (22, [some (.ref 0), some (.int 0)], [.int ((Int8.ofInt (-2)).toInt32)])) (w' := w) ((ex_stp (ins := .bipush (-2)) rfl).trans rfl) ?_
  exact Go.ret ((ex_stp (ins := .ireturn) rfl).trans (vg_retI rfl))

set_option maxRecDepth 100000 in
theorem iback_3_y {X : List Int32} {d : Nat} {t : Nat} {mo ma ga ne bo dc ac wc : Int32} {KE : List Int32} {w w1 : ex_W} {fs fs9 : List Value} (h0 : ex_at w 0 = some (.inr (.inr (7, fs)))) (f0_5 : ex_at fs 5 = some (.ref 35)) (f0_6 : ex_at fs 6 = some (.ref 34)) (f0_9 : ex_at fs 9 = some (.ref t)) (h34 : ex_at w 34 = some (.inl (.boolean, KE))) (h35 : ex_at w 35 = some (.inr (.inl (6, [some 36, some 43])))) (ht : ex_at w t = some (.inr (.inr (6, fs9)))) (i1 : ex_ix 0 KE.length = true) (b2 : ¬ Int32.toInt (ex_gd KE (Int32.toNatClampNeg (0))) = 0) (c3 : Go X d mt_144 (ex_ent mt_144 [.ref t, .ref 36]) w (none, w1)) (h0_1 : ex_at w1 0 = some (.inr (.inr (7, fs)))) (f0_5_1 : ex_at fs 5 = some (.ref 35)) (f0_6_1 : ex_at fs 6 = some (.ref 34)) (f0_9_1 : ex_at fs 9 = some (.ref t)) (ht_1 : ex_at w1 t = some (.inr (.inr (6, td t mo ma ga ne bo dc ac wc))))   : Go X (d + 1) mt_71 (ex_ent mt_71 [.ref 0, .int 0]) w (some (.int dc), w1) := by
  show Go _ _ _ (0, [some (.ref 0), some (.int 0)], []) _ _
  refine Go.next (f' := (1, [some (.ref 0), some (.int 0)], [.int 0])) (w' := w) ((ex_stp (ins := .iload_n 1) rfl).trans rfl) ?_
  refine Go.next (f' := (4, [some (.ref 0), some (.int 0)], [])) (w' := w) ((ex_stp (ins := .ifCond .lt 8) rfl).trans (vg_ib0f (c := .lt) (off := 8) (pc := 1) (lo := [some (.ref 0), some (.int 0)]) (r := []) (w := w) (x := 0) (by decide) (by decide))) ?_
  refine Go.next (f' := (5, [some (.ref 0), some (.int 0)], [.int 0])) (w' := w) ((ex_stp (ins := .iload_n 1) rfl).trans rfl) ?_
  refine Go.next (f' := (6, [some (.ref 0), some (.int 0)], [.int 2, .int 0])) (w' := w) ((ex_stp (ins := .iconst 2) rfl).trans rfl) ?_
  refine Go.next (f' := (11, [some (.ref 0), some (.int 0)], [])) (w' := w) ((ex_stp (ins := .if_icmp .lt 5) rfl).trans (vg_ib2t (c := .lt) (off := 5) (pc := 6) (lo := [some (.ref 0), some (.int 0)]) (r := []) (w := w) (x := 0) (y := 2) (by decide) (by decide))) ?_
  refine Go.next (f' := (12, [some (.ref 0), some (.int 0)], [.ref 0])) (w' := w) ((ex_stp (ins := .aload_n 0) rfl).trans rfl) ?_
  refine Go.next (f' := (15, [some (.ref 0), some (.int 0)], [.ref 34])) (w' := w) ((ex_stp (ins := .getfield 62) rfl).trans (vg_get (ci := 7) (k := 6) (pl := 359) (pc := 12) (lo := [some (.ref 0), some (.int 0)]) (r := []) (fs := fs) (v := .ref 34) h0 f0_6)) ?_
  refine Go.next (f' := (16, [some (.ref 0), some (.int 0)], [.int 0, .ref 34])) (w' := w) ((ex_stp (ins := .iload_n 1) rfl).trans rfl) ?_
  refine Go.next (f' := (17, [some (.ref 0), some (.int 0)], [.int (ex_gd KE (Int32.toNatClampNeg (0)))])) (w' := w) ((ex_stp (ins := .baload) rfl).trans (vg_ald (by_ := true) (isL := false) (X := X) (pc := 16) (lo := [some (.ref 0), some (.int 0)]) (r := []) (i := 0) (l := KE) h34 rfl i1)) ?_
  refine Go.next (f' := (23, [some (.ref 0), some (.int 0)], [])) (w' := w) ((ex_stp (ins := .ifCond .ne 6) rfl).trans (vg_ib0t (c := .ne) (off := 6) (pc := 17) (lo := [some (.ref 0), some (.int 0)]) (r := []) (w := w) (x := (ex_gd KE (Int32.toNatClampNeg (0)))) (kq_ne_t b2) (by decide))) ?_
  refine Go.next (f' := (24, [some (.ref 0), some (.int 0)], [.ref 0])) (w' := w) ((ex_stp (ins := .aload_n 0) rfl).trans rfl) ?_
  refine Go.next (f' := (27, [some (.ref 0), some (.int 0)], [.ref t])) (w' := w) ((ex_stp (ins := .getfield 10) rfl).trans (vg_get (ci := 7) (k := 9) (pl := 362) (pc := 24) (lo := [some (.ref 0), some (.int 0)]) (r := []) (fs := fs) (v := .ref t) h0 f0_9)) ?_
  refine Go.next (f' := (28, [some (.ref 0), some (.int 0)], [.ref 0, .ref t])) (w' := w) ((ex_stp (ins := .aload_n 0) rfl).trans rfl) ?_
  refine Go.next (f' := (31, [some (.ref 0), some (.int 0)], [.ref 35, .ref t])) (w' := w) ((ex_stp (ins := .getfield 66) rfl).trans (vg_get (ci := 7) (k := 5) (pl := 358) (pc := 28) (lo := [some (.ref 0), some (.int 0)]) (r := [.ref t]) (fs := fs) (v := .ref 35) h0 f0_5)) ?_
  refine Go.next (f' := (32, [some (.ref 0), some (.int 0)], [.int 0, .ref 35, .ref t])) (w' := w) ((ex_stp (ins := .iload_n 1) rfl).trans rfl) ?_
  refine Go.next (f' := (33, [some (.ref 0), some (.int 0)], [.ref 36, .ref t])) (w' := w) ((ex_stp (ins := .aaload) rfl).trans (vg_alq (ci := 6) (k := 36) (pc := 32) (lo := [some (.ref 0), some (.int 0)]) (r := [.ref t]) (i := 0) h35 (by decide) (by decide) rfl)) ?_
  refine Go.call (cal := 144) (as := [.ref t, .ref 36]) (g := (36, [some (.ref 0), some (.int 0)], [])) (M' := mt_144) (r := none) (w' := w1) ((ex_stp (ins := .invokevirtual 239) rfl).trans (vg_cl0 (cal := 144) (n := 2) (rc := 6) (p1 := 901) (p2 := 902) (p3 := 903) (fs := fs9) (tl := [.ref 36]) (pc := 33) (lo := [some (.ref 0), some (.int 0)]) (st := [.ref 36, .ref t]) (Nat.le_of_ble_eq_true rfl) (Nat.le_of_ble_eq_true rfl) rfl ht)) rfl (Nat.le_of_ble_eq_true rfl) c3 ?_
  show Go _ _ _ (36, [some (.ref 0), some (.int 0)], []) _ _
  refine Go.next (f' := (37, [some (.ref 0), some (.int 0)], [.ref 0])) (w' := w1) ((ex_stp (ins := .aload_n 0) rfl).trans rfl) ?_
  refine Go.next (f' := (40, [some (.ref 0), some (.int 0)], [.ref t])) (w' := w1) ((ex_stp (ins := .getfield 10) rfl).trans (vg_get (ci := 7) (k := 9) (pl := 362) (pc := 37) (lo := [some (.ref 0), some (.int 0)]) (r := []) (fs := fs) (v := .ref t) h0_1 f0_9_1)) ?_
  refine Go.next (f' := (43, [some (.ref 0), some (.int 0)], [.int dc])) (w' := w1) ((ex_stp (ins := .getfield 119) rfl).trans (vg_get (ci := 6) (k := 11) (pl := 148) (pc := 40) (lo := [some (.ref 0), some (.int 0)]) (r := []) (fs := (td t mo ma ga ne bo dc ac wc)) (v := .int dc) ht_1 rfl)) ?_
  exact Go.ret ((ex_stp (ins := .ireturn) rfl).trans (vg_retI rfl))

set_option maxRecDepth 100000 in
theorem jkeep_3 {X : List Int32} {d : Nat} {v : Int32} {KE : List Int32} {w w1 : ex_W} {fs5 : List Value} (h59 : ex_at w 59 = some (.inr (.inr (8, fs5)))) (f59_0 : ex_at fs5 0 = some (.ref 60)) (f59_1 : ex_at fs5 1 = some (.ref 61)) (h61 : ex_at w 61 = some (.inl (.boolean, KE))) (c1 : Go X d mt_93 (ex_ent mt_93 [.long (Int32.toInt64 (0)), .long 0, .long 1]) w (some (.int 1), w)) (i2 : ex_ix 0 KE.length = true) (c3 : Go X d mt_135 (ex_ent mt_135 [.int (ex_gd KE (Int32.toNatClampNeg (0)))]) w (some (.int v), w)) (i4 : ex_ix 0 KE.length = true) (c5 : Go X d mt_145 (ex_ent mt_145 [.ref 59, .int ((96 : Int32) * ((0 : Int32) + 1)), .int 0]) (ex_put w 61 (.inl (.boolean, (ex_put KE (Int32.toNatClampNeg (0)) (ex_nar .boolean 1))))) (none, w1))   : Go X (d + 1) mt_70 (ex_ent mt_70 [.ref 59, .int 0]) w (some (.int v), w1) := by
  show Go _ _ _ (0, [some (.ref 59), some (.int 0), none], []) _ _
  refine Go.next (f' := (1, [some (.ref 59), some (.int 0), none], [.int 0])) (w' := w) ((ex_stp (ins := .iload_n 1) rfl).trans rfl) ?_
  refine Go.next (f' := (2, [some (.ref 59), some (.int 0), none], [.long (Int32.toInt64 (0))])) (w' := w) ((ex_stp (ins := .i2l) rfl).trans rfl) ?_
  refine Go.next (f' := (3, [some (.ref 59), some (.int 0), none], [.long 0, .long (Int32.toInt64 (0))])) (w' := w) ((ex_stp (ins := .lconst 0) rfl).trans rfl) ?_
  refine Go.next (f' := (4, [some (.ref 59), some (.int 0), none], [.long 1, .long 0, .long (Int32.toInt64 (0))])) (w' := w) ((ex_stp (ins := .lconst 1) rfl).trans rfl) ?_
  refine Go.call (cal := 93) (as := [.long (Int32.toInt64 (0)), .long 0, .long 1]) (g := (7, [some (.ref 59), some (.int 0), none], [])) (M' := mt_93) (r := some (.int 1)) (w' := w) ((ex_stp (ins := .invokestatic 95) rfl).trans (vg_cl1 (cal := 93) (n := 3) (rc := 0) (p1 := 1088) (p2 := 1089) (p3 := 76) (pc := 4) (lo := [some (.ref 59), some (.int 0), none]) (st := [.long 1, .long 0, .long (Int32.toInt64 (0))]) (w := w) (Nat.le_of_ble_eq_true rfl) (Nat.le_of_ble_eq_true rfl))) rfl (Nat.le_of_ble_eq_true rfl) c1 ?_
  show Go _ _ _ (7, [some (.ref 59), some (.int 0), none], [.int 1]) _ _
  refine Go.next (f' := (12, [some (.ref 59), some (.int 0), none], [])) (w' := w) ((ex_stp (ins := .ifCond .ne 5) rfl).trans (vg_ib0t (c := .ne) (off := 5) (pc := 7) (lo := [some (.ref 59), some (.int 0), none]) (r := []) (w := w) (x := 1) (by decide) (by decide))) ?_
  refine Go.next (f' := (13, [some (.ref 59), some (.int 0), none], [.ref 59])) (w' := w) ((ex_stp (ins := .aload_n 0) rfl).trans rfl) ?_
  refine Go.next (f' := (16, [some (.ref 59), some (.int 0), none], [.ref 61])) (w' := w) ((ex_stp (ins := .getfield 13) rfl).trans (vg_get (ci := 8) (k := 1) (pl := 977) (pc := 13) (lo := [some (.ref 59), some (.int 0), none]) (r := []) (fs := fs5) (v := .ref 61) h59 f59_1)) ?_
  refine Go.next (f' := (17, [some (.ref 59), some (.int 0), none], [.int 0, .ref 61])) (w' := w) ((ex_stp (ins := .iload_n 1) rfl).trans rfl) ?_
  refine Go.next (f' := (18, [some (.ref 59), some (.int 0), none], [.int (ex_gd KE (Int32.toNatClampNeg (0)))])) (w' := w) ((ex_stp (ins := .baload) rfl).trans (vg_ald (by_ := true) (isL := false) (X := X) (pc := 17) (lo := [some (.ref 59), some (.int 0), none]) (r := []) (i := 0) (l := KE) h61 rfl i2)) ?_
  refine Go.call (cal := 135) (as := [.int (ex_gd KE (Int32.toNatClampNeg (0)))]) (g := (21, [some (.ref 59), some (.int 0), none], [])) (M' := mt_135) (r := some (.int v)) (w' := w) ((ex_stp (ins := .invokestatic 200) rfl).trans (vg_cl1 (cal := 135) (n := 1) (rc := 0) (p1 := 1233) (p2 := 1234) (p3 := 76) (pc := 18) (lo := [some (.ref 59), some (.int 0), none]) (st := [.int (ex_gd KE (Int32.toNatClampNeg (0)))]) (w := w) (Nat.le_of_ble_eq_true rfl) (Nat.le_of_ble_eq_true rfl))) rfl (Nat.le_of_ble_eq_true rfl) c3 ?_
  show Go _ _ _ (21, [some (.ref 59), some (.int 0), none], [.int v]) _ _
  refine Go.next (f' := (22, [some (.ref 59), some (.int 0), some (.int v)], [])) (w' := w) ((ex_stp (ins := .istore_n 2) rfl).trans rfl) ?_
  refine Go.next (f' := (23, [some (.ref 59), some (.int 0), some (.int v)], [.ref 59])) (w' := w) ((ex_stp (ins := .aload_n 0) rfl).trans rfl) ?_
  refine Go.next (f' := (26, [some (.ref 59), some (.int 0), some (.int v)], [.ref 61])) (w' := w) ((ex_stp (ins := .getfield 13) rfl).trans (vg_get (ci := 8) (k := 1) (pl := 977) (pc := 23) (lo := [some (.ref 59), some (.int 0), some (.int v)]) (r := []) (fs := fs5) (v := .ref 61) h59 f59_1)) ?_
  refine Go.next (f' := (27, [some (.ref 59), some (.int 0), some (.int v)], [.int 0, .ref 61])) (w' := w) ((ex_stp (ins := .iload_n 1) rfl).trans rfl) ?_
  refine Go.next (f' := (28, [some (.ref 59), some (.int 0), some (.int v)], [.int 1, .int 0, .ref 61])) (w' := w) ((ex_stp (ins := .iconst 1) rfl).trans rfl) ?_
  refine Go.next (f' := (29, [some (.ref 59), some (.int 0), some (.int v)], [])) (w' := (ex_put w 61 (.inl (.boolean, (ex_put KE (Int32.toNatClampNeg (0)) (ex_nar .boolean 1)))))) ((ex_stp (ins := .bastore) rfl).trans (vg_ast (by_ := true) (pc := 28) (lo := [some (.ref 59), some (.int 0), some (.int v)]) (r := []) (i := 0) (x := 1) (l := KE) (w := w) h61 rfl i4)) ?_
  refine Go.next (f' := (30, [some (.ref 59), some (.int 0), some (.int v)], [.ref 59])) (w' := (ex_put w 61 (.inl (.boolean, (ex_put KE (Int32.toNatClampNeg (0)) (ex_nar .boolean 1)))))) ((ex_stp (ins := .aload_n 0) rfl).trans rfl) ?_
  refine Go.next (f' := (32, [some (.ref 59), some (.int 0), some (.int v)], [.int 96, .ref 59])) (w' := (ex_put w 61 (.inl (.boolean, (ex_put KE (Int32.toNatClampNeg (0)) (ex_nar .boolean 1)))))) ((ex_stp (ins := .bipush 96) rfl).trans rfl) ?_
  refine Go.next (f' := (33, [some (.ref 59), some (.int 0), some (.int v)], [.int 0, .int 96, .ref 59])) (w' := (ex_put w 61 (.inl (.boolean, (ex_put KE (Int32.toNatClampNeg (0)) (ex_nar .boolean 1)))))) ((ex_stp (ins := .iload_n 1) rfl).trans rfl) ?_
  refine Go.next (f' := (34, [some (.ref 59), some (.int 0), some (.int v)], [.int 1, .int 0, .int 96, .ref 59])) (w' := (ex_put w 61 (.inl (.boolean, (ex_put KE (Int32.toNatClampNeg (0)) (ex_nar .boolean 1)))))) ((ex_stp (ins := .iconst 1) rfl).trans rfl) ?_
  refine Go.next (f' := (35, [some (.ref 59), some (.int 0), some (.int v)], [.int ((0 : Int32) + 1), .int 96, .ref 59])) (w' := (ex_put w 61 (.inl (.boolean, (ex_put KE (Int32.toNatClampNeg (0)) (ex_nar .boolean 1)))))) ((ex_stp (ins := .iadd) rfl).trans rfl) ?_
  refine Go.next (f' := (36, [some (.ref 59), some (.int 0), some (.int v)], [.int ((96 : Int32) * ((0 : Int32) + 1)), .ref 59])) (w' := (ex_put w 61 (.inl (.boolean, (ex_put KE (Int32.toNatClampNeg (0)) (ex_nar .boolean 1)))))) ((ex_stp (ins := .imul) rfl).trans rfl) ?_
  refine Go.next (f' := (37, [some (.ref 59), some (.int 0), some (.int v)], [.int 0, .int ((96 : Int32) * ((0 : Int32) + 1)), .ref 59])) (w' := (ex_put w 61 (.inl (.boolean, (ex_put KE (Int32.toNatClampNeg (0)) (ex_nar .boolean 1)))))) ((ex_stp (ins := .iconst 0) rfl).trans rfl) ?_
  refine Go.call (cal := 145) (as := [.ref 59, .int ((96 : Int32) * ((0 : Int32) + 1)), .int 0]) (g := (40, [some (.ref 59), some (.int 0), some (.int v)], [])) (M' := mt_145) (r := none) (w' := w1) ((ex_stp (ins := .invokevirtual 283) rfl).trans (vg_cl0 (cal := 145) (n := 3) (rc := 8) (p1 := 1387) (p2 := 1389) (p3 := 65) (fs := fs5) (tl := [.int ((96 : Int32) * ((0 : Int32) + 1)), .int 0]) (pc := 37) (lo := [some (.ref 59), some (.int 0), some (.int v)]) (st := [.int 0, .int ((96 : Int32) * ((0 : Int32) + 1)), .ref 59]) (Nat.le_of_ble_eq_true rfl) (Nat.le_of_ble_eq_true rfl) rfl (vg_at_o rfl h59))) rfl (Nat.le_of_ble_eq_true rfl) c5 ?_
  show Go _ _ _ (40, [some (.ref 59), some (.int 0), some (.int v)], []) _ _
  refine Go.next (f' := (41, [some (.ref 59), some (.int 0), some (.int v)], [.int v])) (w' := w1) ((ex_stp (ins := .iload_n 2) rfl).trans rfl) ?_
  exact Go.ret ((ex_stp (ins := .ireturn) rfl).trans (vg_retI rfl))

set_option maxRecDepth 100000 in
theorem jback_3_n {X : List Int32} {d : Nat} {KE : List Int32} {w : ex_W} {fs5 : List Value} (h59 : ex_at w 59 = some (.inr (.inr (8, fs5)))) (f59_0 : ex_at fs5 0 = some (.ref 60)) (f59_1 : ex_at fs5 1 = some (.ref 61)) (h61 : ex_at w 61 = some (.inl (.boolean, KE))) (c1 : Go X d mt_93 (ex_ent mt_93 [.long (Int32.toInt64 (0)), .long 0, .long 1]) w (some (.int 1), w)) (i2 : ex_ix 0 KE.length = true) (b3 : Int32.toInt (ex_gd KE (Int32.toNatClampNeg (0))) = 0)   : Go X (d + 1) mt_72 (ex_ent mt_72 [.ref 59, .int 0]) w (some (.int ((Int8.ofInt (-2)).toInt32)), w) := by
  show Go _ _ _ (0, [some (.ref 59), some (.int 0)], []) _ _
  refine Go.next (f' := (1, [some (.ref 59), some (.int 0)], [.int 0])) (w' := w) ((ex_stp (ins := .iload_n 1) rfl).trans rfl) ?_
  refine Go.next (f' := (2, [some (.ref 59), some (.int 0)], [.long (Int32.toInt64 (0))])) (w' := w) ((ex_stp (ins := .i2l) rfl).trans rfl) ?_
  refine Go.next (f' := (3, [some (.ref 59), some (.int 0)], [.long 0, .long (Int32.toInt64 (0))])) (w' := w) ((ex_stp (ins := .lconst 0) rfl).trans rfl) ?_
  refine Go.next (f' := (4, [some (.ref 59), some (.int 0)], [.long 1, .long 0, .long (Int32.toInt64 (0))])) (w' := w) ((ex_stp (ins := .lconst 1) rfl).trans rfl) ?_
  refine Go.call (cal := 93) (as := [.long (Int32.toInt64 (0)), .long 0, .long 1]) (g := (7, [some (.ref 59), some (.int 0)], [])) (M' := mt_93) (r := some (.int 1)) (w' := w) ((ex_stp (ins := .invokestatic 95) rfl).trans (vg_cl1 (cal := 93) (n := 3) (rc := 0) (p1 := 1088) (p2 := 1089) (p3 := 76) (pc := 4) (lo := [some (.ref 59), some (.int 0)]) (st := [.long 1, .long 0, .long (Int32.toInt64 (0))]) (w := w) (Nat.le_of_ble_eq_true rfl) (Nat.le_of_ble_eq_true rfl))) rfl (Nat.le_of_ble_eq_true rfl) c1 ?_
  show Go _ _ _ (7, [some (.ref 59), some (.int 0)], [.int 1]) _ _
  refine Go.next (f' := (12, [some (.ref 59), some (.int 0)], [])) (w' := w) ((ex_stp (ins := .ifCond .ne 5) rfl).trans (vg_ib0t (c := .ne) (off := 5) (pc := 7) (lo := [some (.ref 59), some (.int 0)]) (r := []) (w := w) (x := 1) (by decide) (by decide))) ?_
  refine Go.next (f' := (13, [some (.ref 59), some (.int 0)], [.ref 59])) (w' := w) ((ex_stp (ins := .aload_n 0) rfl).trans rfl) ?_
  refine Go.next (f' := (16, [some (.ref 59), some (.int 0)], [.ref 61])) (w' := w) ((ex_stp (ins := .getfield 13) rfl).trans (vg_get (ci := 8) (k := 1) (pl := 977) (pc := 13) (lo := [some (.ref 59), some (.int 0)]) (r := []) (fs := fs5) (v := .ref 61) h59 f59_1)) ?_
  refine Go.next (f' := (17, [some (.ref 59), some (.int 0)], [.int 0, .ref 61])) (w' := w) ((ex_stp (ins := .iload_n 1) rfl).trans rfl) ?_
  refine Go.next (f' := (18, [some (.ref 59), some (.int 0)], [.int (ex_gd KE (Int32.toNatClampNeg (0)))])) (w' := w) ((ex_stp (ins := .baload) rfl).trans (vg_ald (by_ := true) (isL := false) (X := X) (pc := 17) (lo := [some (.ref 59), some (.int 0)]) (r := []) (i := 0) (l := KE) h61 rfl i2)) ?_
  refine Go.next (f' := (21, [some (.ref 59), some (.int 0)], [])) (w' := w) ((ex_stp (ins := .ifCond .ne 6) rfl).trans (vg_ib0f (c := .ne) (off := 6) (pc := 18) (lo := [some (.ref 59), some (.int 0)]) (r := []) (w := w) (x := (ex_gd KE (Int32.toNatClampNeg (0)))) (kq_ne_f b3) (by decide))) ?_
  refine Go.next (f' := (23, [some (.ref 59), some (.int 0)], [.int ((Int8.ofInt (-2)).toInt32)])) (w' := w) ((ex_stp (ins := .bipush (-2)) rfl).trans rfl) ?_
  exact Go.ret ((ex_stp (ins := .ireturn) rfl).trans (vg_retI rfl))

set_option maxRecDepth 100000 in
theorem jback_3_y {X : List Int32} {d : Nat} {KE ST : List Int32} {w w1 : ex_W} {fs5 : List Value} (h59 : ex_at w 59 = some (.inr (.inr (8, fs5)))) (f59_0 : ex_at fs5 0 = some (.ref 60)) (f59_1 : ex_at fs5 1 = some (.ref 61)) (h61 : ex_at w 61 = some (.inl (.boolean, KE))) (c1 : Go X d mt_93 (ex_ent mt_93 [.long (Int32.toInt64 (0)), .long 0, .long 1]) w (some (.int 1), w)) (i2 : ex_ix 0 KE.length = true) (b3 : ¬ Int32.toInt (ex_gd KE (Int32.toNatClampNeg (0))) = 0) (c4 : Go X d mt_145 (ex_ent mt_145 [.ref 59, .int 0, .int ((96 : Int32) * ((0 : Int32) + 1))]) w (none, w1)) (h59_1 : ex_at w1 59 = some (.inr (.inr (8, fs5)))) (f59_0_1 : ex_at fs5 0 = some (.ref 60)) (f59_1_1 : ex_at fs5 1 = some (.ref 61)) (h60_1 : ex_at w1 60 = some (.inl (.int, ST))) (i5 : ex_ix 0 ST.length = true)   : Go X (d + 1) mt_72 (ex_ent mt_72 [.ref 59, .int 0]) w (some (.int (ex_gd ST (Int32.toNatClampNeg (0)))), w1) := by
  show Go _ _ _ (0, [some (.ref 59), some (.int 0)], []) _ _
  refine Go.next (f' := (1, [some (.ref 59), some (.int 0)], [.int 0])) (w' := w) ((ex_stp (ins := .iload_n 1) rfl).trans rfl) ?_
  refine Go.next (f' := (2, [some (.ref 59), some (.int 0)], [.long (Int32.toInt64 (0))])) (w' := w) ((ex_stp (ins := .i2l) rfl).trans rfl) ?_
  refine Go.next (f' := (3, [some (.ref 59), some (.int 0)], [.long 0, .long (Int32.toInt64 (0))])) (w' := w) ((ex_stp (ins := .lconst 0) rfl).trans rfl) ?_
  refine Go.next (f' := (4, [some (.ref 59), some (.int 0)], [.long 1, .long 0, .long (Int32.toInt64 (0))])) (w' := w) ((ex_stp (ins := .lconst 1) rfl).trans rfl) ?_
  refine Go.call (cal := 93) (as := [.long (Int32.toInt64 (0)), .long 0, .long 1]) (g := (7, [some (.ref 59), some (.int 0)], [])) (M' := mt_93) (r := some (.int 1)) (w' := w) ((ex_stp (ins := .invokestatic 95) rfl).trans (vg_cl1 (cal := 93) (n := 3) (rc := 0) (p1 := 1088) (p2 := 1089) (p3 := 76) (pc := 4) (lo := [some (.ref 59), some (.int 0)]) (st := [.long 1, .long 0, .long (Int32.toInt64 (0))]) (w := w) (Nat.le_of_ble_eq_true rfl) (Nat.le_of_ble_eq_true rfl))) rfl (Nat.le_of_ble_eq_true rfl) c1 ?_
  show Go _ _ _ (7, [some (.ref 59), some (.int 0)], [.int 1]) _ _
  refine Go.next (f' := (12, [some (.ref 59), some (.int 0)], [])) (w' := w) ((ex_stp (ins := .ifCond .ne 5) rfl).trans (vg_ib0t (c := .ne) (off := 5) (pc := 7) (lo := [some (.ref 59), some (.int 0)]) (r := []) (w := w) (x := 1) (by decide) (by decide))) ?_
  refine Go.next (f' := (13, [some (.ref 59), some (.int 0)], [.ref 59])) (w' := w) ((ex_stp (ins := .aload_n 0) rfl).trans rfl) ?_
  refine Go.next (f' := (16, [some (.ref 59), some (.int 0)], [.ref 61])) (w' := w) ((ex_stp (ins := .getfield 13) rfl).trans (vg_get (ci := 8) (k := 1) (pl := 977) (pc := 13) (lo := [some (.ref 59), some (.int 0)]) (r := []) (fs := fs5) (v := .ref 61) h59 f59_1)) ?_
  refine Go.next (f' := (17, [some (.ref 59), some (.int 0)], [.int 0, .ref 61])) (w' := w) ((ex_stp (ins := .iload_n 1) rfl).trans rfl) ?_
  refine Go.next (f' := (18, [some (.ref 59), some (.int 0)], [.int (ex_gd KE (Int32.toNatClampNeg (0)))])) (w' := w) ((ex_stp (ins := .baload) rfl).trans (vg_ald (by_ := true) (isL := false) (X := X) (pc := 17) (lo := [some (.ref 59), some (.int 0)]) (r := []) (i := 0) (l := KE) h61 rfl i2)) ?_
  refine Go.next (f' := (24, [some (.ref 59), some (.int 0)], [])) (w' := w) ((ex_stp (ins := .ifCond .ne 6) rfl).trans (vg_ib0t (c := .ne) (off := 6) (pc := 18) (lo := [some (.ref 59), some (.int 0)]) (r := []) (w := w) (x := (ex_gd KE (Int32.toNatClampNeg (0)))) (kq_ne_t b3) (by decide))) ?_
  refine Go.next (f' := (25, [some (.ref 59), some (.int 0)], [.ref 59])) (w' := w) ((ex_stp (ins := .aload_n 0) rfl).trans rfl) ?_
  refine Go.next (f' := (26, [some (.ref 59), some (.int 0)], [.int 0, .ref 59])) (w' := w) ((ex_stp (ins := .iconst 0) rfl).trans rfl) ?_
  refine Go.next (f' := (28, [some (.ref 59), some (.int 0)], [.int 96, .int 0, .ref 59])) (w' := w) ((ex_stp (ins := .bipush 96) rfl).trans rfl) ?_
  refine Go.next (f' := (29, [some (.ref 59), some (.int 0)], [.int 0, .int 96, .int 0, .ref 59])) (w' := w) ((ex_stp (ins := .iload_n 1) rfl).trans rfl) ?_
  refine Go.next (f' := (30, [some (.ref 59), some (.int 0)], [.int 1, .int 0, .int 96, .int 0, .ref 59])) (w' := w) ((ex_stp (ins := .iconst 1) rfl).trans rfl) ?_
  refine Go.next (f' := (31, [some (.ref 59), some (.int 0)], [.int ((0 : Int32) + 1), .int 96, .int 0, .ref 59])) (w' := w) ((ex_stp (ins := .iadd) rfl).trans rfl) ?_
  refine Go.next (f' := (32, [some (.ref 59), some (.int 0)], [.int ((96 : Int32) * ((0 : Int32) + 1)), .int 0, .ref 59])) (w' := w) ((ex_stp (ins := .imul) rfl).trans rfl) ?_
  refine Go.call (cal := 145) (as := [.ref 59, .int 0, .int ((96 : Int32) * ((0 : Int32) + 1))]) (g := (35, [some (.ref 59), some (.int 0)], [])) (M' := mt_145) (r := none) (w' := w1) ((ex_stp (ins := .invokevirtual 283) rfl).trans (vg_cl0 (cal := 145) (n := 3) (rc := 8) (p1 := 1387) (p2 := 1389) (p3 := 65) (fs := fs5) (tl := [.int 0, .int ((96 : Int32) * ((0 : Int32) + 1))]) (pc := 32) (lo := [some (.ref 59), some (.int 0)]) (st := [.int ((96 : Int32) * ((0 : Int32) + 1)), .int 0, .ref 59]) (Nat.le_of_ble_eq_true rfl) (Nat.le_of_ble_eq_true rfl) rfl h59)) rfl (Nat.le_of_ble_eq_true rfl) c4 ?_
  show Go _ _ _ (35, [some (.ref 59), some (.int 0)], []) _ _
  refine Go.next (f' := (36, [some (.ref 59), some (.int 0)], [.ref 59])) (w' := w1) ((ex_stp (ins := .aload_n 0) rfl).trans rfl) ?_
  refine Go.next (f' := (39, [some (.ref 59), some (.int 0)], [.ref 60])) (w' := w1) ((ex_stp (ins := .getfield 7) rfl).trans (vg_get (ci := 8) (k := 0) (pl := 976) (pc := 36) (lo := [some (.ref 59), some (.int 0)]) (r := []) (fs := fs5) (v := .ref 60) h59_1 f59_0_1)) ?_
  refine Go.next (f' := (40, [some (.ref 59), some (.int 0)], [.int 0, .ref 60])) (w' := w1) ((ex_stp (ins := .iconst 0) rfl).trans rfl) ?_
  refine Go.next (f' := (41, [some (.ref 59), some (.int 0)], [.int (ex_gd ST (Int32.toNatClampNeg (0)))])) (w' := w1) ((ex_stp (ins := .iaload) rfl).trans (vg_ald (by_ := false) (isL := false) (X := X) (pc := 40) (lo := [some (.ref 59), some (.int 0)]) (r := []) (i := 0) (l := ST) h60_1 rfl i5)) ?_
  exact Go.ret ((ex_stp (ins := .ireturn) rfl).trans (vg_retI rfl))

set_option maxRecDepth 100000 in
theorem ikeep_4_0 {X : List Int32} {d : Nat} {t : Nat} {KE : List Int32} {w w1 : ex_W} {fs fs9 : List Value} (h0 : ex_at w 0 = some (.inr (.inr (7, fs)))) (f0_5 : ex_at fs 5 = some (.ref 35)) (f0_6 : ex_at fs 6 = some (.ref 34)) (f0_9 : ex_at fs 9 = some (.ref t)) (h34 : ex_at w 34 = some (.inl (.boolean, KE))) (h35 : ex_at w 35 = some (.inr (.inl (6, [some 36, some 43])))) (h43 : ex_at w 43 = some (.inr (.inr (6, fs9)))) (i1 : ex_ix 1 KE.length = true) (b2 : Int32.toInt (ex_gd KE (Int32.toNatClampNeg (1))) = 0) (c3 : Go X d mt_144 (ex_ent mt_144 [.ref 43, .ref t]) w (none, w1)) (h0_1 : ex_at w1 0 = some (.inr (.inr (7, fs)))) (f0_5_1 : ex_at fs 5 = some (.ref 35)) (f0_6_1 : ex_at fs 6 = some (.ref 34)) (f0_9_1 : ex_at fs 9 = some (.ref t)) (h34_1 : ex_at w1 34 = some (.inl (.boolean, KE))) (i4 : ex_ix 1 KE.length = true)   : Go X (d + 1) mt_69 (ex_ent mt_69 [.ref 0, .int 1]) w (some (.int 0), (ex_put w1 34 (.inl (.boolean, (ex_put KE (Int32.toNatClampNeg (1)) (ex_nar .boolean 1)))))) := by
  show Go _ _ _ (0, [some (.ref 0), some (.int 1), none], []) _ _
  refine Go.next (f' := (1, [some (.ref 0), some (.int 1), none], [.int 1])) (w' := w) ((ex_stp (ins := .iload_n 1) rfl).trans rfl) ?_
  refine Go.next (f' := (4, [some (.ref 0), some (.int 1), none], [])) (w' := w) ((ex_stp (ins := .ifCond .lt 8) rfl).trans (vg_ib0f (c := .lt) (off := 8) (pc := 1) (lo := [some (.ref 0), some (.int 1), none]) (r := []) (w := w) (x := 1) (by decide) (by decide))) ?_
  refine Go.next (f' := (5, [some (.ref 0), some (.int 1), none], [.int 1])) (w' := w) ((ex_stp (ins := .iload_n 1) rfl).trans rfl) ?_
  refine Go.next (f' := (6, [some (.ref 0), some (.int 1), none], [.int 2, .int 1])) (w' := w) ((ex_stp (ins := .iconst 2) rfl).trans rfl) ?_
  refine Go.next (f' := (11, [some (.ref 0), some (.int 1), none], [])) (w' := w) ((ex_stp (ins := .if_icmp .lt 5) rfl).trans (vg_ib2t (c := .lt) (off := 5) (pc := 6) (lo := [some (.ref 0), some (.int 1), none]) (r := []) (w := w) (x := 1) (y := 2) (by decide) (by decide))) ?_
  refine Go.next (f' := (12, [some (.ref 0), some (.int 1), none], [.ref 0])) (w' := w) ((ex_stp (ins := .aload_n 0) rfl).trans rfl) ?_
  refine Go.next (f' := (15, [some (.ref 0), some (.int 1), none], [.ref 34])) (w' := w) ((ex_stp (ins := .getfield 62) rfl).trans (vg_get (ci := 7) (k := 6) (pl := 359) (pc := 12) (lo := [some (.ref 0), some (.int 1), none]) (r := []) (fs := fs) (v := .ref 34) h0 f0_6)) ?_
  refine Go.next (f' := (16, [some (.ref 0), some (.int 1), none], [.int 1, .ref 34])) (w' := w) ((ex_stp (ins := .iload_n 1) rfl).trans rfl) ?_
  refine Go.next (f' := (17, [some (.ref 0), some (.int 1), none], [.int (ex_gd KE (Int32.toNatClampNeg (1)))])) (w' := w) ((ex_stp (ins := .baload) rfl).trans (vg_ald (by_ := true) (isL := false) (X := X) (pc := 16) (lo := [some (.ref 0), some (.int 1), none]) (r := []) (i := 1) (l := KE) h34 rfl i1)) ?_
  refine Go.next (f' := (24, [some (.ref 0), some (.int 1), none], [])) (w' := w) ((ex_stp (ins := .ifCond .eq 7) rfl).trans (vg_ib0t (c := .eq) (off := 7) (pc := 17) (lo := [some (.ref 0), some (.int 1), none]) (r := []) (w := w) (x := (ex_gd KE (Int32.toNatClampNeg (1)))) (kq_eq_t b2) (by decide))) ?_
  refine Go.next (f' := (25, [some (.ref 0), some (.int 1), none], [.int 0])) (w' := w) ((ex_stp (ins := .iconst 0) rfl).trans rfl) ?_
  refine Go.next (f' := (26, [some (.ref 0), some (.int 1), some (.int 0)], [])) (w' := w) ((ex_stp (ins := .istore_n 2) rfl).trans rfl) ?_
  refine Go.next (f' := (27, [some (.ref 0), some (.int 1), some (.int 0)], [.ref 0])) (w' := w) ((ex_stp (ins := .aload_n 0) rfl).trans rfl) ?_
  refine Go.next (f' := (30, [some (.ref 0), some (.int 1), some (.int 0)], [.ref 35])) (w' := w) ((ex_stp (ins := .getfield 66) rfl).trans (vg_get (ci := 7) (k := 5) (pl := 358) (pc := 27) (lo := [some (.ref 0), some (.int 1), some (.int 0)]) (r := []) (fs := fs) (v := .ref 35) h0 f0_5)) ?_
  refine Go.next (f' := (31, [some (.ref 0), some (.int 1), some (.int 0)], [.int 1, .ref 35])) (w' := w) ((ex_stp (ins := .iload_n 1) rfl).trans rfl) ?_
  refine Go.next (f' := (32, [some (.ref 0), some (.int 1), some (.int 0)], [.ref 43])) (w' := w) ((ex_stp (ins := .aaload) rfl).trans (vg_alq (ci := 6) (k := 43) (pc := 31) (lo := [some (.ref 0), some (.int 1), some (.int 0)]) (r := []) (i := 1) h35 (by decide) (by decide) rfl)) ?_
  refine Go.next (f' := (33, [some (.ref 0), some (.int 1), some (.int 0)], [.ref 0, .ref 43])) (w' := w) ((ex_stp (ins := .aload_n 0) rfl).trans rfl) ?_
  refine Go.next (f' := (36, [some (.ref 0), some (.int 1), some (.int 0)], [.ref t, .ref 43])) (w' := w) ((ex_stp (ins := .getfield 10) rfl).trans (vg_get (ci := 7) (k := 9) (pl := 362) (pc := 33) (lo := [some (.ref 0), some (.int 1), some (.int 0)]) (r := [.ref 43]) (fs := fs) (v := .ref t) h0 f0_9)) ?_
  refine Go.call (cal := 144) (as := [.ref 43, .ref t]) (g := (39, [some (.ref 0), some (.int 1), some (.int 0)], [])) (M' := mt_144) (r := none) (w' := w1) ((ex_stp (ins := .invokevirtual 239) rfl).trans (vg_cl0 (cal := 144) (n := 2) (rc := 6) (p1 := 901) (p2 := 902) (p3 := 903) (fs := fs9) (tl := [.ref t]) (pc := 36) (lo := [some (.ref 0), some (.int 1), some (.int 0)]) (st := [.ref t, .ref 43]) (Nat.le_of_ble_eq_true rfl) (Nat.le_of_ble_eq_true rfl) rfl h43)) rfl (Nat.le_of_ble_eq_true rfl) c3 ?_
  show Go _ _ _ (39, [some (.ref 0), some (.int 1), some (.int 0)], []) _ _
  refine Go.next (f' := (40, [some (.ref 0), some (.int 1), some (.int 0)], [.ref 0])) (w' := w1) ((ex_stp (ins := .aload_n 0) rfl).trans rfl) ?_
  refine Go.next (f' := (43, [some (.ref 0), some (.int 1), some (.int 0)], [.ref 34])) (w' := w1) ((ex_stp (ins := .getfield 62) rfl).trans (vg_get (ci := 7) (k := 6) (pl := 359) (pc := 40) (lo := [some (.ref 0), some (.int 1), some (.int 0)]) (r := []) (fs := fs) (v := .ref 34) h0_1 f0_6_1)) ?_
  refine Go.next (f' := (44, [some (.ref 0), some (.int 1), some (.int 0)], [.int 1, .ref 34])) (w' := w1) ((ex_stp (ins := .iload_n 1) rfl).trans rfl) ?_
  refine Go.next (f' := (45, [some (.ref 0), some (.int 1), some (.int 0)], [.int 1, .int 1, .ref 34])) (w' := w1) ((ex_stp (ins := .iconst 1) rfl).trans rfl) ?_
  refine Go.next (f' := (46, [some (.ref 0), some (.int 1), some (.int 0)], [])) (w' := (ex_put w1 34 (.inl (.boolean, (ex_put KE (Int32.toNatClampNeg (1)) (ex_nar .boolean 1)))))) ((ex_stp (ins := .bastore) rfl).trans (vg_ast (by_ := true) (pc := 45) (lo := [some (.ref 0), some (.int 1), some (.int 0)]) (r := []) (i := 1) (x := 1) (l := KE) (w := w1) h34_1 rfl i4)) ?_
  refine Go.next (f' := (47, [some (.ref 0), some (.int 1), some (.int 0)], [.int 0])) (w' := (ex_put w1 34 (.inl (.boolean, (ex_put KE (Int32.toNatClampNeg (1)) (ex_nar .boolean 1)))))) ((ex_stp (ins := .iload_n 2) rfl).trans rfl) ?_
  exact Go.ret ((ex_stp (ins := .ireturn) rfl).trans (vg_retI rfl))

set_option maxRecDepth 100000 in
theorem ikeep_4_1 {X : List Int32} {d : Nat} {t : Nat} {KE : List Int32} {w w1 : ex_W} {fs fs9 : List Value} (h0 : ex_at w 0 = some (.inr (.inr (7, fs)))) (f0_5 : ex_at fs 5 = some (.ref 35)) (f0_6 : ex_at fs 6 = some (.ref 34)) (f0_9 : ex_at fs 9 = some (.ref t)) (h34 : ex_at w 34 = some (.inl (.boolean, KE))) (h35 : ex_at w 35 = some (.inr (.inl (6, [some 36, some 43])))) (h43 : ex_at w 43 = some (.inr (.inr (6, fs9)))) (i1 : ex_ix 1 KE.length = true) (b2 : ¬ Int32.toInt (ex_gd KE (Int32.toNatClampNeg (1))) = 0) (c3 : Go X d mt_144 (ex_ent mt_144 [.ref 43, .ref t]) w (none, w1)) (h0_1 : ex_at w1 0 = some (.inr (.inr (7, fs)))) (f0_5_1 : ex_at fs 5 = some (.ref 35)) (f0_6_1 : ex_at fs 6 = some (.ref 34)) (f0_9_1 : ex_at fs 9 = some (.ref t)) (h34_1 : ex_at w1 34 = some (.inl (.boolean, KE))) (i4 : ex_ix 1 KE.length = true)   : Go X (d + 1) mt_69 (ex_ent mt_69 [.ref 0, .int 1]) w (some (.int 1), (ex_put w1 34 (.inl (.boolean, (ex_put KE (Int32.toNatClampNeg (1)) (ex_nar .boolean 1)))))) := by
  show Go _ _ _ (0, [some (.ref 0), some (.int 1), none], []) _ _
  refine Go.next (f' := (1, [some (.ref 0), some (.int 1), none], [.int 1])) (w' := w) ((ex_stp (ins := .iload_n 1) rfl).trans rfl) ?_
  refine Go.next (f' := (4, [some (.ref 0), some (.int 1), none], [])) (w' := w) ((ex_stp (ins := .ifCond .lt 8) rfl).trans (vg_ib0f (c := .lt) (off := 8) (pc := 1) (lo := [some (.ref 0), some (.int 1), none]) (r := []) (w := w) (x := 1) (by decide) (by decide))) ?_
  refine Go.next (f' := (5, [some (.ref 0), some (.int 1), none], [.int 1])) (w' := w) ((ex_stp (ins := .iload_n 1) rfl).trans rfl) ?_
  refine Go.next (f' := (6, [some (.ref 0), some (.int 1), none], [.int 2, .int 1])) (w' := w) ((ex_stp (ins := .iconst 2) rfl).trans rfl) ?_
  refine Go.next (f' := (11, [some (.ref 0), some (.int 1), none], [])) (w' := w) ((ex_stp (ins := .if_icmp .lt 5) rfl).trans (vg_ib2t (c := .lt) (off := 5) (pc := 6) (lo := [some (.ref 0), some (.int 1), none]) (r := []) (w := w) (x := 1) (y := 2) (by decide) (by decide))) ?_
  refine Go.next (f' := (12, [some (.ref 0), some (.int 1), none], [.ref 0])) (w' := w) ((ex_stp (ins := .aload_n 0) rfl).trans rfl) ?_
  refine Go.next (f' := (15, [some (.ref 0), some (.int 1), none], [.ref 34])) (w' := w) ((ex_stp (ins := .getfield 62) rfl).trans (vg_get (ci := 7) (k := 6) (pl := 359) (pc := 12) (lo := [some (.ref 0), some (.int 1), none]) (r := []) (fs := fs) (v := .ref 34) h0 f0_6)) ?_
  refine Go.next (f' := (16, [some (.ref 0), some (.int 1), none], [.int 1, .ref 34])) (w' := w) ((ex_stp (ins := .iload_n 1) rfl).trans rfl) ?_
  refine Go.next (f' := (17, [some (.ref 0), some (.int 1), none], [.int (ex_gd KE (Int32.toNatClampNeg (1)))])) (w' := w) ((ex_stp (ins := .baload) rfl).trans (vg_ald (by_ := true) (isL := false) (X := X) (pc := 16) (lo := [some (.ref 0), some (.int 1), none]) (r := []) (i := 1) (l := KE) h34 rfl i1)) ?_
  refine Go.next (f' := (20, [some (.ref 0), some (.int 1), none], [])) (w' := w) ((ex_stp (ins := .ifCond .eq 7) rfl).trans (vg_ib0f (c := .eq) (off := 7) (pc := 17) (lo := [some (.ref 0), some (.int 1), none]) (r := []) (w := w) (x := (ex_gd KE (Int32.toNatClampNeg (1)))) (kq_eq_f b2) (by decide))) ?_
  refine Go.next (f' := (21, [some (.ref 0), some (.int 1), none], [.int 1])) (w' := w) ((ex_stp (ins := .iconst 1) rfl).trans rfl) ?_
  refine Go.next (f' := (25, [some (.ref 0), some (.int 1), none], [.int 1])) (w' := w) ((ex_stp (ins := .goto 4) rfl).trans rfl) ?_
  refine Go.next (f' := (26, [some (.ref 0), some (.int 1), some (.int 1)], [])) (w' := w) ((ex_stp (ins := .istore_n 2) rfl).trans rfl) ?_
  refine Go.next (f' := (27, [some (.ref 0), some (.int 1), some (.int 1)], [.ref 0])) (w' := w) ((ex_stp (ins := .aload_n 0) rfl).trans rfl) ?_
  refine Go.next (f' := (30, [some (.ref 0), some (.int 1), some (.int 1)], [.ref 35])) (w' := w) ((ex_stp (ins := .getfield 66) rfl).trans (vg_get (ci := 7) (k := 5) (pl := 358) (pc := 27) (lo := [some (.ref 0), some (.int 1), some (.int 1)]) (r := []) (fs := fs) (v := .ref 35) h0 f0_5)) ?_
  refine Go.next (f' := (31, [some (.ref 0), some (.int 1), some (.int 1)], [.int 1, .ref 35])) (w' := w) ((ex_stp (ins := .iload_n 1) rfl).trans rfl) ?_
  refine Go.next (f' := (32, [some (.ref 0), some (.int 1), some (.int 1)], [.ref 43])) (w' := w) ((ex_stp (ins := .aaload) rfl).trans (vg_alq (ci := 6) (k := 43) (pc := 31) (lo := [some (.ref 0), some (.int 1), some (.int 1)]) (r := []) (i := 1) h35 (by decide) (by decide) rfl)) ?_
  refine Go.next (f' := (33, [some (.ref 0), some (.int 1), some (.int 1)], [.ref 0, .ref 43])) (w' := w) ((ex_stp (ins := .aload_n 0) rfl).trans rfl) ?_
  refine Go.next (f' := (36, [some (.ref 0), some (.int 1), some (.int 1)], [.ref t, .ref 43])) (w' := w) ((ex_stp (ins := .getfield 10) rfl).trans (vg_get (ci := 7) (k := 9) (pl := 362) (pc := 33) (lo := [some (.ref 0), some (.int 1), some (.int 1)]) (r := [.ref 43]) (fs := fs) (v := .ref t) h0 f0_9)) ?_
  refine Go.call (cal := 144) (as := [.ref 43, .ref t]) (g := (39, [some (.ref 0), some (.int 1), some (.int 1)], [])) (M' := mt_144) (r := none) (w' := w1) ((ex_stp (ins := .invokevirtual 239) rfl).trans (vg_cl0 (cal := 144) (n := 2) (rc := 6) (p1 := 901) (p2 := 902) (p3 := 903) (fs := fs9) (tl := [.ref t]) (pc := 36) (lo := [some (.ref 0), some (.int 1), some (.int 1)]) (st := [.ref t, .ref 43]) (Nat.le_of_ble_eq_true rfl) (Nat.le_of_ble_eq_true rfl) rfl h43)) rfl (Nat.le_of_ble_eq_true rfl) c3 ?_
  show Go _ _ _ (39, [some (.ref 0), some (.int 1), some (.int 1)], []) _ _
  refine Go.next (f' := (40, [some (.ref 0), some (.int 1), some (.int 1)], [.ref 0])) (w' := w1) ((ex_stp (ins := .aload_n 0) rfl).trans rfl) ?_
  refine Go.next (f' := (43, [some (.ref 0), some (.int 1), some (.int 1)], [.ref 34])) (w' := w1) ((ex_stp (ins := .getfield 62) rfl).trans (vg_get (ci := 7) (k := 6) (pl := 359) (pc := 40) (lo := [some (.ref 0), some (.int 1), some (.int 1)]) (r := []) (fs := fs) (v := .ref 34) h0_1 f0_6_1)) ?_
  refine Go.next (f' := (44, [some (.ref 0), some (.int 1), some (.int 1)], [.int 1, .ref 34])) (w' := w1) ((ex_stp (ins := .iload_n 1) rfl).trans rfl) ?_
  refine Go.next (f' := (45, [some (.ref 0), some (.int 1), some (.int 1)], [.int 1, .int 1, .ref 34])) (w' := w1) ((ex_stp (ins := .iconst 1) rfl).trans rfl) ?_
  refine Go.next (f' := (46, [some (.ref 0), some (.int 1), some (.int 1)], [])) (w' := (ex_put w1 34 (.inl (.boolean, (ex_put KE (Int32.toNatClampNeg (1)) (ex_nar .boolean 1)))))) ((ex_stp (ins := .bastore) rfl).trans (vg_ast (by_ := true) (pc := 45) (lo := [some (.ref 0), some (.int 1), some (.int 1)]) (r := []) (i := 1) (x := 1) (l := KE) (w := w1) h34_1 rfl i4)) ?_
  refine Go.next (f' := (47, [some (.ref 0), some (.int 1), some (.int 1)], [.int 1])) (w' := (ex_put w1 34 (.inl (.boolean, (ex_put KE (Int32.toNatClampNeg (1)) (ex_nar .boolean 1)))))) ((ex_stp (ins := .iload_n 2) rfl).trans rfl) ?_
  exact Go.ret ((ex_stp (ins := .ireturn) rfl).trans (vg_retI rfl))

set_option maxRecDepth 100000 in
theorem iback_4_n {X : List Int32} {d : Nat} {t : Nat} {KE : List Int32} {w : ex_W} {fs : List Value} (h0 : ex_at w 0 = some (.inr (.inr (7, fs)))) (f0_5 : ex_at fs 5 = some (.ref 35)) (f0_6 : ex_at fs 6 = some (.ref 34)) (f0_9 : ex_at fs 9 = some (.ref t)) (h34 : ex_at w 34 = some (.inl (.boolean, KE))) (i1 : ex_ix 1 KE.length = true) (b2 : Int32.toInt (ex_gd KE (Int32.toNatClampNeg (1))) = 0)   : Go X d mt_71 (ex_ent mt_71 [.ref 0, .int 1]) w (some (.int ((Int8.ofInt (-2)).toInt32)), w) := by
  show Go _ _ _ (0, [some (.ref 0), some (.int 1)], []) _ _
  refine Go.next (f' := (1, [some (.ref 0), some (.int 1)], [.int 1])) (w' := w) ((ex_stp (ins := .iload_n 1) rfl).trans rfl) ?_
  refine Go.next (f' := (4, [some (.ref 0), some (.int 1)], [])) (w' := w) ((ex_stp (ins := .ifCond .lt 8) rfl).trans (vg_ib0f (c := .lt) (off := 8) (pc := 1) (lo := [some (.ref 0), some (.int 1)]) (r := []) (w := w) (x := 1) (by decide) (by decide))) ?_
  refine Go.next (f' := (5, [some (.ref 0), some (.int 1)], [.int 1])) (w' := w) ((ex_stp (ins := .iload_n 1) rfl).trans rfl) ?_
  refine Go.next (f' := (6, [some (.ref 0), some (.int 1)], [.int 2, .int 1])) (w' := w) ((ex_stp (ins := .iconst 2) rfl).trans rfl) ?_
  refine Go.next (f' := (11, [some (.ref 0), some (.int 1)], [])) (w' := w) ((ex_stp (ins := .if_icmp .lt 5) rfl).trans (vg_ib2t (c := .lt) (off := 5) (pc := 6) (lo := [some (.ref 0), some (.int 1)]) (r := []) (w := w) (x := 1) (y := 2) (by decide) (by decide))) ?_
  refine Go.next (f' := (12, [some (.ref 0), some (.int 1)], [.ref 0])) (w' := w) ((ex_stp (ins := .aload_n 0) rfl).trans rfl) ?_
  refine Go.next (f' := (15, [some (.ref 0), some (.int 1)], [.ref 34])) (w' := w) ((ex_stp (ins := .getfield 62) rfl).trans (vg_get (ci := 7) (k := 6) (pl := 359) (pc := 12) (lo := [some (.ref 0), some (.int 1)]) (r := []) (fs := fs) (v := .ref 34) h0 f0_6)) ?_
  refine Go.next (f' := (16, [some (.ref 0), some (.int 1)], [.int 1, .ref 34])) (w' := w) ((ex_stp (ins := .iload_n 1) rfl).trans rfl) ?_
  refine Go.next (f' := (17, [some (.ref 0), some (.int 1)], [.int (ex_gd KE (Int32.toNatClampNeg (1)))])) (w' := w) ((ex_stp (ins := .baload) rfl).trans (vg_ald (by_ := true) (isL := false) (X := X) (pc := 16) (lo := [some (.ref 0), some (.int 1)]) (r := []) (i := 1) (l := KE) h34 rfl i1)) ?_
  refine Go.next (f' := (20, [some (.ref 0), some (.int 1)], [])) (w' := w) ((ex_stp (ins := .ifCond .ne 6) rfl).trans (vg_ib0f (c := .ne) (off := 6) (pc := 17) (lo := [some (.ref 0), some (.int 1)]) (r := []) (w := w) (x := (ex_gd KE (Int32.toNatClampNeg (1)))) (kq_ne_f b2) (by decide))) ?_
  refine Go.next (f' := (22, [some (.ref 0), some (.int 1)], [.int ((Int8.ofInt (-2)).toInt32)])) (w' := w) ((ex_stp (ins := .bipush (-2)) rfl).trans rfl) ?_
  exact Go.ret ((ex_stp (ins := .ireturn) rfl).trans (vg_retI rfl))

set_option maxRecDepth 100000 in
theorem iback_4_y {X : List Int32} {d : Nat} {t : Nat} {mo ma ga ne bo dc ac wc : Int32} {KE : List Int32} {w w1 : ex_W} {fs fs9 : List Value} (h0 : ex_at w 0 = some (.inr (.inr (7, fs)))) (f0_5 : ex_at fs 5 = some (.ref 35)) (f0_6 : ex_at fs 6 = some (.ref 34)) (f0_9 : ex_at fs 9 = some (.ref t)) (h34 : ex_at w 34 = some (.inl (.boolean, KE))) (h35 : ex_at w 35 = some (.inr (.inl (6, [some 36, some 43])))) (ht : ex_at w t = some (.inr (.inr (6, fs9)))) (i1 : ex_ix 1 KE.length = true) (b2 : ¬ Int32.toInt (ex_gd KE (Int32.toNatClampNeg (1))) = 0) (c3 : Go X d mt_144 (ex_ent mt_144 [.ref t, .ref 43]) w (none, w1)) (h0_1 : ex_at w1 0 = some (.inr (.inr (7, fs)))) (f0_5_1 : ex_at fs 5 = some (.ref 35)) (f0_6_1 : ex_at fs 6 = some (.ref 34)) (f0_9_1 : ex_at fs 9 = some (.ref t)) (ht_1 : ex_at w1 t = some (.inr (.inr (6, td t mo ma ga ne bo dc ac wc))))   : Go X (d + 1) mt_71 (ex_ent mt_71 [.ref 0, .int 1]) w (some (.int dc), w1) := by
  show Go _ _ _ (0, [some (.ref 0), some (.int 1)], []) _ _
  refine Go.next (f' := (1, [some (.ref 0), some (.int 1)], [.int 1])) (w' := w) ((ex_stp (ins := .iload_n 1) rfl).trans rfl) ?_
  refine Go.next (f' := (4, [some (.ref 0), some (.int 1)], [])) (w' := w) ((ex_stp (ins := .ifCond .lt 8) rfl).trans (vg_ib0f (c := .lt) (off := 8) (pc := 1) (lo := [some (.ref 0), some (.int 1)]) (r := []) (w := w) (x := 1) (by decide) (by decide))) ?_
  refine Go.next (f' := (5, [some (.ref 0), some (.int 1)], [.int 1])) (w' := w) ((ex_stp (ins := .iload_n 1) rfl).trans rfl) ?_
  refine Go.next (f' := (6, [some (.ref 0), some (.int 1)], [.int 2, .int 1])) (w' := w) ((ex_stp (ins := .iconst 2) rfl).trans rfl) ?_
  refine Go.next (f' := (11, [some (.ref 0), some (.int 1)], [])) (w' := w) ((ex_stp (ins := .if_icmp .lt 5) rfl).trans (vg_ib2t (c := .lt) (off := 5) (pc := 6) (lo := [some (.ref 0), some (.int 1)]) (r := []) (w := w) (x := 1) (y := 2) (by decide) (by decide))) ?_
  refine Go.next (f' := (12, [some (.ref 0), some (.int 1)], [.ref 0])) (w' := w) ((ex_stp (ins := .aload_n 0) rfl).trans rfl) ?_
  refine Go.next (f' := (15, [some (.ref 0), some (.int 1)], [.ref 34])) (w' := w) ((ex_stp (ins := .getfield 62) rfl).trans (vg_get (ci := 7) (k := 6) (pl := 359) (pc := 12) (lo := [some (.ref 0), some (.int 1)]) (r := []) (fs := fs) (v := .ref 34) h0 f0_6)) ?_
  refine Go.next (f' := (16, [some (.ref 0), some (.int 1)], [.int 1, .ref 34])) (w' := w) ((ex_stp (ins := .iload_n 1) rfl).trans rfl) ?_
  refine Go.next (f' := (17, [some (.ref 0), some (.int 1)], [.int (ex_gd KE (Int32.toNatClampNeg (1)))])) (w' := w) ((ex_stp (ins := .baload) rfl).trans (vg_ald (by_ := true) (isL := false) (X := X) (pc := 16) (lo := [some (.ref 0), some (.int 1)]) (r := []) (i := 1) (l := KE) h34 rfl i1)) ?_
  refine Go.next (f' := (23, [some (.ref 0), some (.int 1)], [])) (w' := w) ((ex_stp (ins := .ifCond .ne 6) rfl).trans (vg_ib0t (c := .ne) (off := 6) (pc := 17) (lo := [some (.ref 0), some (.int 1)]) (r := []) (w := w) (x := (ex_gd KE (Int32.toNatClampNeg (1)))) (kq_ne_t b2) (by decide))) ?_
  refine Go.next (f' := (24, [some (.ref 0), some (.int 1)], [.ref 0])) (w' := w) ((ex_stp (ins := .aload_n 0) rfl).trans rfl) ?_
  refine Go.next (f' := (27, [some (.ref 0), some (.int 1)], [.ref t])) (w' := w) ((ex_stp (ins := .getfield 10) rfl).trans (vg_get (ci := 7) (k := 9) (pl := 362) (pc := 24) (lo := [some (.ref 0), some (.int 1)]) (r := []) (fs := fs) (v := .ref t) h0 f0_9)) ?_
  refine Go.next (f' := (28, [some (.ref 0), some (.int 1)], [.ref 0, .ref t])) (w' := w) ((ex_stp (ins := .aload_n 0) rfl).trans rfl) ?_
  refine Go.next (f' := (31, [some (.ref 0), some (.int 1)], [.ref 35, .ref t])) (w' := w) ((ex_stp (ins := .getfield 66) rfl).trans (vg_get (ci := 7) (k := 5) (pl := 358) (pc := 28) (lo := [some (.ref 0), some (.int 1)]) (r := [.ref t]) (fs := fs) (v := .ref 35) h0 f0_5)) ?_
  refine Go.next (f' := (32, [some (.ref 0), some (.int 1)], [.int 1, .ref 35, .ref t])) (w' := w) ((ex_stp (ins := .iload_n 1) rfl).trans rfl) ?_
  refine Go.next (f' := (33, [some (.ref 0), some (.int 1)], [.ref 43, .ref t])) (w' := w) ((ex_stp (ins := .aaload) rfl).trans (vg_alq (ci := 6) (k := 43) (pc := 32) (lo := [some (.ref 0), some (.int 1)]) (r := [.ref t]) (i := 1) h35 (by decide) (by decide) rfl)) ?_
  refine Go.call (cal := 144) (as := [.ref t, .ref 43]) (g := (36, [some (.ref 0), some (.int 1)], [])) (M' := mt_144) (r := none) (w' := w1) ((ex_stp (ins := .invokevirtual 239) rfl).trans (vg_cl0 (cal := 144) (n := 2) (rc := 6) (p1 := 901) (p2 := 902) (p3 := 903) (fs := fs9) (tl := [.ref 43]) (pc := 33) (lo := [some (.ref 0), some (.int 1)]) (st := [.ref 43, .ref t]) (Nat.le_of_ble_eq_true rfl) (Nat.le_of_ble_eq_true rfl) rfl ht)) rfl (Nat.le_of_ble_eq_true rfl) c3 ?_
  show Go _ _ _ (36, [some (.ref 0), some (.int 1)], []) _ _
  refine Go.next (f' := (37, [some (.ref 0), some (.int 1)], [.ref 0])) (w' := w1) ((ex_stp (ins := .aload_n 0) rfl).trans rfl) ?_
  refine Go.next (f' := (40, [some (.ref 0), some (.int 1)], [.ref t])) (w' := w1) ((ex_stp (ins := .getfield 10) rfl).trans (vg_get (ci := 7) (k := 9) (pl := 362) (pc := 37) (lo := [some (.ref 0), some (.int 1)]) (r := []) (fs := fs) (v := .ref t) h0_1 f0_9_1)) ?_
  refine Go.next (f' := (43, [some (.ref 0), some (.int 1)], [.int dc])) (w' := w1) ((ex_stp (ins := .getfield 119) rfl).trans (vg_get (ci := 6) (k := 11) (pl := 148) (pc := 40) (lo := [some (.ref 0), some (.int 1)]) (r := []) (fs := (td t mo ma ga ne bo dc ac wc)) (v := .int dc) ht_1 rfl)) ?_
  exact Go.ret ((ex_stp (ins := .ireturn) rfl).trans (vg_retI rfl))

set_option maxRecDepth 100000 in
theorem jkeep_4 {X : List Int32} {d : Nat} {v : Int32} {KE : List Int32} {w w1 : ex_W} {fs5 : List Value} (h59 : ex_at w 59 = some (.inr (.inr (8, fs5)))) (f59_0 : ex_at fs5 0 = some (.ref 60)) (f59_1 : ex_at fs5 1 = some (.ref 61)) (h61 : ex_at w 61 = some (.inl (.boolean, KE))) (c1 : Go X d mt_93 (ex_ent mt_93 [.long (Int32.toInt64 (1)), .long 0, .long 1]) w (some (.int 1), w)) (i2 : ex_ix 1 KE.length = true) (c3 : Go X d mt_135 (ex_ent mt_135 [.int (ex_gd KE (Int32.toNatClampNeg (1)))]) w (some (.int v), w)) (i4 : ex_ix 1 KE.length = true) (c5 : Go X d mt_145 (ex_ent mt_145 [.ref 59, .int ((96 : Int32) * ((1 : Int32) + 1)), .int 0]) (ex_put w 61 (.inl (.boolean, (ex_put KE (Int32.toNatClampNeg (1)) (ex_nar .boolean 1))))) (none, w1))   : Go X (d + 1) mt_70 (ex_ent mt_70 [.ref 59, .int 1]) w (some (.int v), w1) := by
  show Go _ _ _ (0, [some (.ref 59), some (.int 1), none], []) _ _
  refine Go.next (f' := (1, [some (.ref 59), some (.int 1), none], [.int 1])) (w' := w) ((ex_stp (ins := .iload_n 1) rfl).trans rfl) ?_
  refine Go.next (f' := (2, [some (.ref 59), some (.int 1), none], [.long (Int32.toInt64 (1))])) (w' := w) ((ex_stp (ins := .i2l) rfl).trans rfl) ?_
  refine Go.next (f' := (3, [some (.ref 59), some (.int 1), none], [.long 0, .long (Int32.toInt64 (1))])) (w' := w) ((ex_stp (ins := .lconst 0) rfl).trans rfl) ?_
  refine Go.next (f' := (4, [some (.ref 59), some (.int 1), none], [.long 1, .long 0, .long (Int32.toInt64 (1))])) (w' := w) ((ex_stp (ins := .lconst 1) rfl).trans rfl) ?_
  refine Go.call (cal := 93) (as := [.long (Int32.toInt64 (1)), .long 0, .long 1]) (g := (7, [some (.ref 59), some (.int 1), none], [])) (M' := mt_93) (r := some (.int 1)) (w' := w) ((ex_stp (ins := .invokestatic 95) rfl).trans (vg_cl1 (cal := 93) (n := 3) (rc := 0) (p1 := 1088) (p2 := 1089) (p3 := 76) (pc := 4) (lo := [some (.ref 59), some (.int 1), none]) (st := [.long 1, .long 0, .long (Int32.toInt64 (1))]) (w := w) (Nat.le_of_ble_eq_true rfl) (Nat.le_of_ble_eq_true rfl))) rfl (Nat.le_of_ble_eq_true rfl) c1 ?_
  show Go _ _ _ (7, [some (.ref 59), some (.int 1), none], [.int 1]) _ _
  refine Go.next (f' := (12, [some (.ref 59), some (.int 1), none], [])) (w' := w) ((ex_stp (ins := .ifCond .ne 5) rfl).trans (vg_ib0t (c := .ne) (off := 5) (pc := 7) (lo := [some (.ref 59), some (.int 1), none]) (r := []) (w := w) (x := 1) (by decide) (by decide))) ?_
  refine Go.next (f' := (13, [some (.ref 59), some (.int 1), none], [.ref 59])) (w' := w) ((ex_stp (ins := .aload_n 0) rfl).trans rfl) ?_
  refine Go.next (f' := (16, [some (.ref 59), some (.int 1), none], [.ref 61])) (w' := w) ((ex_stp (ins := .getfield 13) rfl).trans (vg_get (ci := 8) (k := 1) (pl := 977) (pc := 13) (lo := [some (.ref 59), some (.int 1), none]) (r := []) (fs := fs5) (v := .ref 61) h59 f59_1)) ?_
  refine Go.next (f' := (17, [some (.ref 59), some (.int 1), none], [.int 1, .ref 61])) (w' := w) ((ex_stp (ins := .iload_n 1) rfl).trans rfl) ?_
  refine Go.next (f' := (18, [some (.ref 59), some (.int 1), none], [.int (ex_gd KE (Int32.toNatClampNeg (1)))])) (w' := w) ((ex_stp (ins := .baload) rfl).trans (vg_ald (by_ := true) (isL := false) (X := X) (pc := 17) (lo := [some (.ref 59), some (.int 1), none]) (r := []) (i := 1) (l := KE) h61 rfl i2)) ?_
  refine Go.call (cal := 135) (as := [.int (ex_gd KE (Int32.toNatClampNeg (1)))]) (g := (21, [some (.ref 59), some (.int 1), none], [])) (M' := mt_135) (r := some (.int v)) (w' := w) ((ex_stp (ins := .invokestatic 200) rfl).trans (vg_cl1 (cal := 135) (n := 1) (rc := 0) (p1 := 1233) (p2 := 1234) (p3 := 76) (pc := 18) (lo := [some (.ref 59), some (.int 1), none]) (st := [.int (ex_gd KE (Int32.toNatClampNeg (1)))]) (w := w) (Nat.le_of_ble_eq_true rfl) (Nat.le_of_ble_eq_true rfl))) rfl (Nat.le_of_ble_eq_true rfl) c3 ?_
  show Go _ _ _ (21, [some (.ref 59), some (.int 1), none], [.int v]) _ _
  refine Go.next (f' := (22, [some (.ref 59), some (.int 1), some (.int v)], [])) (w' := w) ((ex_stp (ins := .istore_n 2) rfl).trans rfl) ?_
  refine Go.next (f' := (23, [some (.ref 59), some (.int 1), some (.int v)], [.ref 59])) (w' := w) ((ex_stp (ins := .aload_n 0) rfl).trans rfl) ?_
  refine Go.next (f' := (26, [some (.ref 59), some (.int 1), some (.int v)], [.ref 61])) (w' := w) ((ex_stp (ins := .getfield 13) rfl).trans (vg_get (ci := 8) (k := 1) (pl := 977) (pc := 23) (lo := [some (.ref 59), some (.int 1), some (.int v)]) (r := []) (fs := fs5) (v := .ref 61) h59 f59_1)) ?_
  refine Go.next (f' := (27, [some (.ref 59), some (.int 1), some (.int v)], [.int 1, .ref 61])) (w' := w) ((ex_stp (ins := .iload_n 1) rfl).trans rfl) ?_
  refine Go.next (f' := (28, [some (.ref 59), some (.int 1), some (.int v)], [.int 1, .int 1, .ref 61])) (w' := w) ((ex_stp (ins := .iconst 1) rfl).trans rfl) ?_
  refine Go.next (f' := (29, [some (.ref 59), some (.int 1), some (.int v)], [])) (w' := (ex_put w 61 (.inl (.boolean, (ex_put KE (Int32.toNatClampNeg (1)) (ex_nar .boolean 1)))))) ((ex_stp (ins := .bastore) rfl).trans (vg_ast (by_ := true) (pc := 28) (lo := [some (.ref 59), some (.int 1), some (.int v)]) (r := []) (i := 1) (x := 1) (l := KE) (w := w) h61 rfl i4)) ?_
  refine Go.next (f' := (30, [some (.ref 59), some (.int 1), some (.int v)], [.ref 59])) (w' := (ex_put w 61 (.inl (.boolean, (ex_put KE (Int32.toNatClampNeg (1)) (ex_nar .boolean 1)))))) ((ex_stp (ins := .aload_n 0) rfl).trans rfl) ?_
  refine Go.next (f' := (32, [some (.ref 59), some (.int 1), some (.int v)], [.int 96, .ref 59])) (w' := (ex_put w 61 (.inl (.boolean, (ex_put KE (Int32.toNatClampNeg (1)) (ex_nar .boolean 1)))))) ((ex_stp (ins := .bipush 96) rfl).trans rfl) ?_
  refine Go.next (f' := (33, [some (.ref 59), some (.int 1), some (.int v)], [.int 1, .int 96, .ref 59])) (w' := (ex_put w 61 (.inl (.boolean, (ex_put KE (Int32.toNatClampNeg (1)) (ex_nar .boolean 1)))))) ((ex_stp (ins := .iload_n 1) rfl).trans rfl) ?_
  refine Go.next (f' := (34, [some (.ref 59), some (.int 1), some (.int v)], [.int 1, .int 1, .int 96, .ref 59])) (w' := (ex_put w 61 (.inl (.boolean, (ex_put KE (Int32.toNatClampNeg (1)) (ex_nar .boolean 1)))))) ((ex_stp (ins := .iconst 1) rfl).trans rfl) ?_
  refine Go.next (f' := (35, [some (.ref 59), some (.int 1), some (.int v)], [.int ((1 : Int32) + 1), .int 96, .ref 59])) (w' := (ex_put w 61 (.inl (.boolean, (ex_put KE (Int32.toNatClampNeg (1)) (ex_nar .boolean 1)))))) ((ex_stp (ins := .iadd) rfl).trans rfl) ?_
  refine Go.next (f' := (36, [some (.ref 59), some (.int 1), some (.int v)], [.int ((96 : Int32) * ((1 : Int32) + 1)), .ref 59])) (w' := (ex_put w 61 (.inl (.boolean, (ex_put KE (Int32.toNatClampNeg (1)) (ex_nar .boolean 1)))))) ((ex_stp (ins := .imul) rfl).trans rfl) ?_
  refine Go.next (f' := (37, [some (.ref 59), some (.int 1), some (.int v)], [.int 0, .int ((96 : Int32) * ((1 : Int32) + 1)), .ref 59])) (w' := (ex_put w 61 (.inl (.boolean, (ex_put KE (Int32.toNatClampNeg (1)) (ex_nar .boolean 1)))))) ((ex_stp (ins := .iconst 0) rfl).trans rfl) ?_
  refine Go.call (cal := 145) (as := [.ref 59, .int ((96 : Int32) * ((1 : Int32) + 1)), .int 0]) (g := (40, [some (.ref 59), some (.int 1), some (.int v)], [])) (M' := mt_145) (r := none) (w' := w1) ((ex_stp (ins := .invokevirtual 283) rfl).trans (vg_cl0 (cal := 145) (n := 3) (rc := 8) (p1 := 1387) (p2 := 1389) (p3 := 65) (fs := fs5) (tl := [.int ((96 : Int32) * ((1 : Int32) + 1)), .int 0]) (pc := 37) (lo := [some (.ref 59), some (.int 1), some (.int v)]) (st := [.int 0, .int ((96 : Int32) * ((1 : Int32) + 1)), .ref 59]) (Nat.le_of_ble_eq_true rfl) (Nat.le_of_ble_eq_true rfl) rfl (vg_at_o rfl h59))) rfl (Nat.le_of_ble_eq_true rfl) c5 ?_
  show Go _ _ _ (40, [some (.ref 59), some (.int 1), some (.int v)], []) _ _
  refine Go.next (f' := (41, [some (.ref 59), some (.int 1), some (.int v)], [.int v])) (w' := w1) ((ex_stp (ins := .iload_n 2) rfl).trans rfl) ?_
  exact Go.ret ((ex_stp (ins := .ireturn) rfl).trans (vg_retI rfl))

set_option maxRecDepth 100000 in
theorem jback_4_n {X : List Int32} {d : Nat} {KE : List Int32} {w : ex_W} {fs5 : List Value} (h59 : ex_at w 59 = some (.inr (.inr (8, fs5)))) (f59_0 : ex_at fs5 0 = some (.ref 60)) (f59_1 : ex_at fs5 1 = some (.ref 61)) (h61 : ex_at w 61 = some (.inl (.boolean, KE))) (c1 : Go X d mt_93 (ex_ent mt_93 [.long (Int32.toInt64 (1)), .long 0, .long 1]) w (some (.int 1), w)) (i2 : ex_ix 1 KE.length = true) (b3 : Int32.toInt (ex_gd KE (Int32.toNatClampNeg (1))) = 0)   : Go X (d + 1) mt_72 (ex_ent mt_72 [.ref 59, .int 1]) w (some (.int ((Int8.ofInt (-2)).toInt32)), w) := by
  show Go _ _ _ (0, [some (.ref 59), some (.int 1)], []) _ _
  refine Go.next (f' := (1, [some (.ref 59), some (.int 1)], [.int 1])) (w' := w) ((ex_stp (ins := .iload_n 1) rfl).trans rfl) ?_
  refine Go.next (f' := (2, [some (.ref 59), some (.int 1)], [.long (Int32.toInt64 (1))])) (w' := w) ((ex_stp (ins := .i2l) rfl).trans rfl) ?_
  refine Go.next (f' := (3, [some (.ref 59), some (.int 1)], [.long 0, .long (Int32.toInt64 (1))])) (w' := w) ((ex_stp (ins := .lconst 0) rfl).trans rfl) ?_
  refine Go.next (f' := (4, [some (.ref 59), some (.int 1)], [.long 1, .long 0, .long (Int32.toInt64 (1))])) (w' := w) ((ex_stp (ins := .lconst 1) rfl).trans rfl) ?_
  refine Go.call (cal := 93) (as := [.long (Int32.toInt64 (1)), .long 0, .long 1]) (g := (7, [some (.ref 59), some (.int 1)], [])) (M' := mt_93) (r := some (.int 1)) (w' := w) ((ex_stp (ins := .invokestatic 95) rfl).trans (vg_cl1 (cal := 93) (n := 3) (rc := 0) (p1 := 1088) (p2 := 1089) (p3 := 76) (pc := 4) (lo := [some (.ref 59), some (.int 1)]) (st := [.long 1, .long 0, .long (Int32.toInt64 (1))]) (w := w) (Nat.le_of_ble_eq_true rfl) (Nat.le_of_ble_eq_true rfl))) rfl (Nat.le_of_ble_eq_true rfl) c1 ?_
  show Go _ _ _ (7, [some (.ref 59), some (.int 1)], [.int 1]) _ _
  refine Go.next (f' := (12, [some (.ref 59), some (.int 1)], [])) (w' := w) ((ex_stp (ins := .ifCond .ne 5) rfl).trans (vg_ib0t (c := .ne) (off := 5) (pc := 7) (lo := [some (.ref 59), some (.int 1)]) (r := []) (w := w) (x := 1) (by decide) (by decide))) ?_
  refine Go.next (f' := (13, [some (.ref 59), some (.int 1)], [.ref 59])) (w' := w) ((ex_stp (ins := .aload_n 0) rfl).trans rfl) ?_
  refine Go.next (f' := (16, [some (.ref 59), some (.int 1)], [.ref 61])) (w' := w) ((ex_stp (ins := .getfield 13) rfl).trans (vg_get (ci := 8) (k := 1) (pl := 977) (pc := 13) (lo := [some (.ref 59), some (.int 1)]) (r := []) (fs := fs5) (v := .ref 61) h59 f59_1)) ?_
  refine Go.next (f' := (17, [some (.ref 59), some (.int 1)], [.int 1, .ref 61])) (w' := w) ((ex_stp (ins := .iload_n 1) rfl).trans rfl) ?_
  refine Go.next (f' := (18, [some (.ref 59), some (.int 1)], [.int (ex_gd KE (Int32.toNatClampNeg (1)))])) (w' := w) ((ex_stp (ins := .baload) rfl).trans (vg_ald (by_ := true) (isL := false) (X := X) (pc := 17) (lo := [some (.ref 59), some (.int 1)]) (r := []) (i := 1) (l := KE) h61 rfl i2)) ?_
  refine Go.next (f' := (21, [some (.ref 59), some (.int 1)], [])) (w' := w) ((ex_stp (ins := .ifCond .ne 6) rfl).trans (vg_ib0f (c := .ne) (off := 6) (pc := 18) (lo := [some (.ref 59), some (.int 1)]) (r := []) (w := w) (x := (ex_gd KE (Int32.toNatClampNeg (1)))) (kq_ne_f b3) (by decide))) ?_
  refine Go.next (f' := (23, [some (.ref 59), some (.int 1)], [.int ((Int8.ofInt (-2)).toInt32)])) (w' := w) ((ex_stp (ins := .bipush (-2)) rfl).trans rfl) ?_
  exact Go.ret ((ex_stp (ins := .ireturn) rfl).trans (vg_retI rfl))

set_option maxRecDepth 100000 in
theorem jback_4_y {X : List Int32} {d : Nat} {KE ST : List Int32} {w w1 : ex_W} {fs5 : List Value} (h59 : ex_at w 59 = some (.inr (.inr (8, fs5)))) (f59_0 : ex_at fs5 0 = some (.ref 60)) (f59_1 : ex_at fs5 1 = some (.ref 61)) (h61 : ex_at w 61 = some (.inl (.boolean, KE))) (c1 : Go X d mt_93 (ex_ent mt_93 [.long (Int32.toInt64 (1)), .long 0, .long 1]) w (some (.int 1), w)) (i2 : ex_ix 1 KE.length = true) (b3 : ¬ Int32.toInt (ex_gd KE (Int32.toNatClampNeg (1))) = 0) (c4 : Go X d mt_145 (ex_ent mt_145 [.ref 59, .int 0, .int ((96 : Int32) * ((1 : Int32) + 1))]) w (none, w1)) (h59_1 : ex_at w1 59 = some (.inr (.inr (8, fs5)))) (f59_0_1 : ex_at fs5 0 = some (.ref 60)) (f59_1_1 : ex_at fs5 1 = some (.ref 61)) (h60_1 : ex_at w1 60 = some (.inl (.int, ST))) (i5 : ex_ix 0 ST.length = true)   : Go X (d + 1) mt_72 (ex_ent mt_72 [.ref 59, .int 1]) w (some (.int (ex_gd ST (Int32.toNatClampNeg (0)))), w1) := by
  show Go _ _ _ (0, [some (.ref 59), some (.int 1)], []) _ _
  refine Go.next (f' := (1, [some (.ref 59), some (.int 1)], [.int 1])) (w' := w) ((ex_stp (ins := .iload_n 1) rfl).trans rfl) ?_
  refine Go.next (f' := (2, [some (.ref 59), some (.int 1)], [.long (Int32.toInt64 (1))])) (w' := w) ((ex_stp (ins := .i2l) rfl).trans rfl) ?_
  refine Go.next (f' := (3, [some (.ref 59), some (.int 1)], [.long 0, .long (Int32.toInt64 (1))])) (w' := w) ((ex_stp (ins := .lconst 0) rfl).trans rfl) ?_
  refine Go.next (f' := (4, [some (.ref 59), some (.int 1)], [.long 1, .long 0, .long (Int32.toInt64 (1))])) (w' := w) ((ex_stp (ins := .lconst 1) rfl).trans rfl) ?_
  refine Go.call (cal := 93) (as := [.long (Int32.toInt64 (1)), .long 0, .long 1]) (g := (7, [some (.ref 59), some (.int 1)], [])) (M' := mt_93) (r := some (.int 1)) (w' := w) ((ex_stp (ins := .invokestatic 95) rfl).trans (vg_cl1 (cal := 93) (n := 3) (rc := 0) (p1 := 1088) (p2 := 1089) (p3 := 76) (pc := 4) (lo := [some (.ref 59), some (.int 1)]) (st := [.long 1, .long 0, .long (Int32.toInt64 (1))]) (w := w) (Nat.le_of_ble_eq_true rfl) (Nat.le_of_ble_eq_true rfl))) rfl (Nat.le_of_ble_eq_true rfl) c1 ?_
  show Go _ _ _ (7, [some (.ref 59), some (.int 1)], [.int 1]) _ _
  refine Go.next (f' := (12, [some (.ref 59), some (.int 1)], [])) (w' := w) ((ex_stp (ins := .ifCond .ne 5) rfl).trans (vg_ib0t (c := .ne) (off := 5) (pc := 7) (lo := [some (.ref 59), some (.int 1)]) (r := []) (w := w) (x := 1) (by decide) (by decide))) ?_
  refine Go.next (f' := (13, [some (.ref 59), some (.int 1)], [.ref 59])) (w' := w) ((ex_stp (ins := .aload_n 0) rfl).trans rfl) ?_
  refine Go.next (f' := (16, [some (.ref 59), some (.int 1)], [.ref 61])) (w' := w) ((ex_stp (ins := .getfield 13) rfl).trans (vg_get (ci := 8) (k := 1) (pl := 977) (pc := 13) (lo := [some (.ref 59), some (.int 1)]) (r := []) (fs := fs5) (v := .ref 61) h59 f59_1)) ?_
  refine Go.next (f' := (17, [some (.ref 59), some (.int 1)], [.int 1, .ref 61])) (w' := w) ((ex_stp (ins := .iload_n 1) rfl).trans rfl) ?_
  refine Go.next (f' := (18, [some (.ref 59), some (.int 1)], [.int (ex_gd KE (Int32.toNatClampNeg (1)))])) (w' := w) ((ex_stp (ins := .baload) rfl).trans (vg_ald (by_ := true) (isL := false) (X := X) (pc := 17) (lo := [some (.ref 59), some (.int 1)]) (r := []) (i := 1) (l := KE) h61 rfl i2)) ?_
  refine Go.next (f' := (24, [some (.ref 59), some (.int 1)], [])) (w' := w) ((ex_stp (ins := .ifCond .ne 6) rfl).trans (vg_ib0t (c := .ne) (off := 6) (pc := 18) (lo := [some (.ref 59), some (.int 1)]) (r := []) (w := w) (x := (ex_gd KE (Int32.toNatClampNeg (1)))) (kq_ne_t b3) (by decide))) ?_
  refine Go.next (f' := (25, [some (.ref 59), some (.int 1)], [.ref 59])) (w' := w) ((ex_stp (ins := .aload_n 0) rfl).trans rfl) ?_
  refine Go.next (f' := (26, [some (.ref 59), some (.int 1)], [.int 0, .ref 59])) (w' := w) ((ex_stp (ins := .iconst 0) rfl).trans rfl) ?_
  refine Go.next (f' := (28, [some (.ref 59), some (.int 1)], [.int 96, .int 0, .ref 59])) (w' := w) ((ex_stp (ins := .bipush 96) rfl).trans rfl) ?_
  refine Go.next (f' := (29, [some (.ref 59), some (.int 1)], [.int 1, .int 96, .int 0, .ref 59])) (w' := w) ((ex_stp (ins := .iload_n 1) rfl).trans rfl) ?_
  refine Go.next (f' := (30, [some (.ref 59), some (.int 1)], [.int 1, .int 1, .int 96, .int 0, .ref 59])) (w' := w) ((ex_stp (ins := .iconst 1) rfl).trans rfl) ?_
  refine Go.next (f' := (31, [some (.ref 59), some (.int 1)], [.int ((1 : Int32) + 1), .int 96, .int 0, .ref 59])) (w' := w) ((ex_stp (ins := .iadd) rfl).trans rfl) ?_
  refine Go.next (f' := (32, [some (.ref 59), some (.int 1)], [.int ((96 : Int32) * ((1 : Int32) + 1)), .int 0, .ref 59])) (w' := w) ((ex_stp (ins := .imul) rfl).trans rfl) ?_
  refine Go.call (cal := 145) (as := [.ref 59, .int 0, .int ((96 : Int32) * ((1 : Int32) + 1))]) (g := (35, [some (.ref 59), some (.int 1)], [])) (M' := mt_145) (r := none) (w' := w1) ((ex_stp (ins := .invokevirtual 283) rfl).trans (vg_cl0 (cal := 145) (n := 3) (rc := 8) (p1 := 1387) (p2 := 1389) (p3 := 65) (fs := fs5) (tl := [.int 0, .int ((96 : Int32) * ((1 : Int32) + 1))]) (pc := 32) (lo := [some (.ref 59), some (.int 1)]) (st := [.int ((96 : Int32) * ((1 : Int32) + 1)), .int 0, .ref 59]) (Nat.le_of_ble_eq_true rfl) (Nat.le_of_ble_eq_true rfl) rfl h59)) rfl (Nat.le_of_ble_eq_true rfl) c4 ?_
  show Go _ _ _ (35, [some (.ref 59), some (.int 1)], []) _ _
  refine Go.next (f' := (36, [some (.ref 59), some (.int 1)], [.ref 59])) (w' := w1) ((ex_stp (ins := .aload_n 0) rfl).trans rfl) ?_
  refine Go.next (f' := (39, [some (.ref 59), some (.int 1)], [.ref 60])) (w' := w1) ((ex_stp (ins := .getfield 7) rfl).trans (vg_get (ci := 8) (k := 0) (pl := 976) (pc := 36) (lo := [some (.ref 59), some (.int 1)]) (r := []) (fs := fs5) (v := .ref 60) h59_1 f59_0_1)) ?_
  refine Go.next (f' := (40, [some (.ref 59), some (.int 1)], [.int 0, .ref 60])) (w' := w1) ((ex_stp (ins := .iconst 0) rfl).trans rfl) ?_
  refine Go.next (f' := (41, [some (.ref 59), some (.int 1)], [.int (ex_gd ST (Int32.toNatClampNeg (0)))])) (w' := w1) ((ex_stp (ins := .iaload) rfl).trans (vg_ald (by_ := false) (isL := false) (X := X) (pc := 40) (lo := [some (.ref 59), some (.int 1)]) (r := []) (i := 0) (l := ST) h60_1 rfl i5)) ?_
  exact Go.ret ((ex_stp (ins := .ireturn) rfl).trans (vg_retI rfl))

set_option maxRecDepth 100000 in
theorem jcp_0 {X : List Int32} {d : Nat} {x y : Int32} {w : ex_W} {q : Option Value × ex_W}   (kk : Go X d mt_145 (2, [some (.ref 59), some (.int x), some (.int y), some (.int 0)], []) w q) : Go X d mt_145 (ex_ent mt_145 [.ref 59, .int x, .int y]) w q := by
  show Go _ _ _ (0, [some (.ref 59), some (.int x), some (.int y), none], []) _ _
  refine Go.next (f' := (1, [some (.ref 59), some (.int x), some (.int y), none], [.int 0])) (w' := w) ((ex_stp (ins := .iconst 0) rfl).trans rfl) ?_
  refine Go.next (f' := (2, [some (.ref 59), some (.int x), some (.int y), some (.int 0)], [])) (w' := w) ((ex_stp (ins := .istore_n 3) rfl).trans rfl) ?_
  exact kk

set_option maxRecDepth 100000 in
theorem jcp_a {X : List Int32} {d : Nat} {i y x : Int32} {ST : List Int32} {w : ex_W} {fs5 : List Value} {q : Option Value × ex_W} (h59 : ex_at w 59 = some (.inr (.inr (8, fs5)))) (f59_0 : ex_at fs5 0 = some (.ref 60)) (f59_1 : ex_at fs5 1 = some (.ref 61)) (h60 : ex_at w 60 = some (.inl (.int, ST))) (b1 : Int32.toInt (i) < 96) (i2 : ex_ix (y + i) ST.length = true) (i3 : ex_ix (x + i) ST.length = true)  (kk : Go X d mt_145 (2, [some (.ref 59), some (.int x), some (.int y), some (.int (i + 1))], []) (ex_put w 60 (.inl (.int, (ex_put ST (Int32.toNatClampNeg ((x + i))) (ex_gd ST (Int32.toNatClampNeg ((y + i)))))))) q) : Go X d mt_145 (2, [some (.ref 59), some (.int x), some (.int y), some (.int i)], []) w q := by
  refine Go.next (f' := (3, [some (.ref 59), some (.int x), some (.int y), some (.int i)], [.int i])) (w' := w) ((ex_stp (ins := .iload_n 3) rfl).trans rfl) ?_
  refine Go.next (f' := (5, [some (.ref 59), some (.int x), some (.int y), some (.int i)], [.int 96, .int i])) (w' := w) ((ex_stp (ins := .bipush 96) rfl).trans rfl) ?_
  refine Go.next (f' := (8, [some (.ref 59), some (.int x), some (.int y), some (.int i)], [])) (w' := w) ((ex_stp (ins := .if_icmp .ge 25) rfl).trans (vg_ib2f (c := .ge) (off := 25) (pc := 5) (lo := [some (.ref 59), some (.int x), some (.int y), some (.int i)]) (r := []) (w := w) (x := i) (y := 96) (kn_ge_f (c := 96) (by decide) b1) (by decide))) ?_
  refine Go.next (f' := (9, [some (.ref 59), some (.int x), some (.int y), some (.int i)], [.ref 59])) (w' := w) ((ex_stp (ins := .aload_n 0) rfl).trans rfl) ?_
  refine Go.next (f' := (12, [some (.ref 59), some (.int x), some (.int y), some (.int i)], [.ref 60])) (w' := w) ((ex_stp (ins := .getfield 7) rfl).trans (vg_get (ci := 8) (k := 0) (pl := 976) (pc := 9) (lo := [some (.ref 59), some (.int x), some (.int y), some (.int i)]) (r := []) (fs := fs5) (v := .ref 60) h59 f59_0)) ?_
  refine Go.next (f' := (13, [some (.ref 59), some (.int x), some (.int y), some (.int i)], [.int x, .ref 60])) (w' := w) ((ex_stp (ins := .iload_n 1) rfl).trans rfl) ?_
  refine Go.next (f' := (14, [some (.ref 59), some (.int x), some (.int y), some (.int i)], [.int i, .int x, .ref 60])) (w' := w) ((ex_stp (ins := .iload_n 3) rfl).trans rfl) ?_
  refine Go.next (f' := (15, [some (.ref 59), some (.int x), some (.int y), some (.int i)], [.int (x + i), .ref 60])) (w' := w) ((ex_stp (ins := .iadd) rfl).trans rfl) ?_
  refine Go.next (f' := (16, [some (.ref 59), some (.int x), some (.int y), some (.int i)], [.ref 59, .int (x + i), .ref 60])) (w' := w) ((ex_stp (ins := .aload_n 0) rfl).trans rfl) ?_
  refine Go.next (f' := (19, [some (.ref 59), some (.int x), some (.int y), some (.int i)], [.ref 60, .int (x + i), .ref 60])) (w' := w) ((ex_stp (ins := .getfield 7) rfl).trans (vg_get (ci := 8) (k := 0) (pl := 976) (pc := 16) (lo := [some (.ref 59), some (.int x), some (.int y), some (.int i)]) (r := [.int (x + i), .ref 60]) (fs := fs5) (v := .ref 60) h59 f59_0)) ?_
  refine Go.next (f' := (20, [some (.ref 59), some (.int x), some (.int y), some (.int i)], [.int y, .ref 60, .int (x + i), .ref 60])) (w' := w) ((ex_stp (ins := .iload_n 2) rfl).trans rfl) ?_
  refine Go.next (f' := (21, [some (.ref 59), some (.int x), some (.int y), some (.int i)], [.int i, .int y, .ref 60, .int (x + i), .ref 60])) (w' := w) ((ex_stp (ins := .iload_n 3) rfl).trans rfl) ?_
  refine Go.next (f' := (22, [some (.ref 59), some (.int x), some (.int y), some (.int i)], [.int (y + i), .ref 60, .int (x + i), .ref 60])) (w' := w) ((ex_stp (ins := .iadd) rfl).trans rfl) ?_
  refine Go.next (f' := (23, [some (.ref 59), some (.int x), some (.int y), some (.int i)], [.int (ex_gd ST (Int32.toNatClampNeg ((y + i)))), .int (x + i), .ref 60])) (w' := w) ((ex_stp (ins := .iaload) rfl).trans (vg_ald (by_ := false) (isL := false) (X := X) (pc := 22) (lo := [some (.ref 59), some (.int x), some (.int y), some (.int i)]) (r := [.int (x + i), .ref 60]) (i := (y + i)) (l := ST) h60 rfl i2)) ?_
  refine Go.next (f' := (24, [some (.ref 59), some (.int x), some (.int y), some (.int i)], [])) (w' := (ex_put w 60 (.inl (.int, (ex_put ST (Int32.toNatClampNeg ((x + i))) (ex_gd ST (Int32.toNatClampNeg ((y + i))))))))) ((ex_stp (ins := .iastore) rfl).trans (vg_ast (by_ := false) (pc := 23) (lo := [some (.ref 59), some (.int x), some (.int y), some (.int i)]) (r := []) (i := (x + i)) (x := (ex_gd ST (Int32.toNatClampNeg ((y + i))))) (l := ST) (w := w) h60 rfl i3)) ?_
  refine Go.next (f' := (27, [some (.ref 59), some (.int x), some (.int y), some (.int (i + 1))], [])) (w' := (ex_put w 60 (.inl (.int, (ex_put ST (Int32.toNatClampNeg ((x + i))) (ex_gd ST (Int32.toNatClampNeg ((y + i))))))))) ((ex_stp (ins := .iinc 3 1) rfl).trans rfl) ?_
  refine Go.next (f' := (2, [some (.ref 59), some (.int x), some (.int y), some (.int (i + 1))], [])) (w' := (ex_put w 60 (.inl (.int, (ex_put ST (Int32.toNatClampNeg ((x + i))) (ex_gd ST (Int32.toNatClampNeg ((y + i))))))))) ((ex_stp (ins := .goto (-25)) rfl).trans rfl) ?_
  exact kk

set_option maxRecDepth 100000 in
theorem jcp_b {X : List Int32} {d : Nat} {i x y : Int32} {w : ex_W} (b1 : Int32.toInt (i) ≥ 96)   : Go X d mt_145 (2, [some (.ref 59), some (.int x), some (.int y), some (.int i)], []) w (none, w) := by
  refine Go.next (f' := (3, [some (.ref 59), some (.int x), some (.int y), some (.int i)], [.int i])) (w' := w) ((ex_stp (ins := .iload_n 3) rfl).trans rfl) ?_
  refine Go.next (f' := (5, [some (.ref 59), some (.int x), some (.int y), some (.int i)], [.int 96, .int i])) (w' := w) ((ex_stp (ins := .bipush 96) rfl).trans rfl) ?_
  refine Go.next (f' := (30, [some (.ref 59), some (.int x), some (.int y), some (.int i)], [])) (w' := w) ((ex_stp (ins := .if_icmp .ge 25) rfl).trans (vg_ib2t (c := .ge) (off := 25) (pc := 5) (lo := [some (.ref 59), some (.int x), some (.int y), some (.int i)]) (r := []) (w := w) (x := i) (y := 96) (kn_ge_t (c := 96) (by decide) b1) (by decide))) ?_
  exact Go.ret ((ex_stp (ins := .return_) rfl).trans rfl)

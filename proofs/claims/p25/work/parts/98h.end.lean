/-! end: both, by their paths. Written by wip/vg/endgen.py. -/
set_option maxRecDepth 100000 in
theorem ve_c1 {X : List Int32} {d : Nat} {x L : Int32} {w : ex_W} {fs0 fs15 : List Value} (h0 : ex_at w 0 = some (.inr (.inr (7, fs0)))) (f0_0 : ex_at fs0 0 = some (.ref 15)) (h15 : ex_at w 15 = some (.inr (.inr (5, fs15)))) (f15_1 : ex_at fs15 1 = some (.int L)) (b1 : ex_c0 .lt x = true) : Go X d mt_5 (ex_ent mt_5 [.ref 0, .int x]) w (some (.int (Int32.ofInt (-1))), w) := by
  show Go _ _ _ (0, [some (.ref 0), some (.int x), none], []) _ _
  refine Go.next (f' := (1, [some (.ref 0), some (.int x), none], [.ref 0])) (w' := w) ((ex_stp (ins := .aload_n 0) rfl).trans rfl) ?_
  refine Go.next (f' := (4, [some (.ref 0), some (.int x), none], [.ref 15])) (w' := w) ((ex_stp (ins := .getfield 24) rfl).trans (vg_get (ci := 7) (k := 0) (pl := 353) (pc := 1) (lo := [some (.ref 0), some (.int x), none]) (r := []) (fs := fs0) (v := .ref 15) h0 f0_0)) ?_
  refine Go.next (f' := (7, [some (.ref 0), some (.int x), none], [.int L])) (w' := w) ((ex_stp (ins := .getfield 81) rfl).trans (vg_get (ci := 5) (k := 1) (pl := 194) (pc := 4) (lo := [some (.ref 0), some (.int x), none]) (r := []) (fs := fs15) (v := .int L) h15 f15_1)) ?_
  refine Go.next (f' := (8, [some (.ref 0), some (.int x), some (.int L)], [])) (w' := w) ((ex_stp (ins := .istore_n 2) rfl).trans rfl) ?_
  refine Go.next (f' := (9, [some (.ref 0), some (.int x), some (.int L)], [.int x])) (w' := w) ((ex_stp (ins := .iload_n 1) rfl).trans rfl) ?_
  refine Go.next (f' := (17, [some (.ref 0), some (.int x), some (.int L)], [])) (w' := w) ((ex_stp (ins := .ifCond .lt 8) rfl).trans (vg_b0t (c := .lt) (off := 8) (pc := 9) (lo := [some (.ref 0), some (.int x), some (.int L)]) (r := []) (w := w) (x := x) b1 (by decide))) ?_
  refine Go.next (f' := (18, [some (.ref 0), some (.int x), some (.int L)], [.int (Int32.ofInt (-1))])) (w' := w) ((ex_stp (ins := .iconst (-1)) rfl).trans rfl) ?_
  exact Go.ret ((ex_stp (ins := .ireturn) rfl).trans (vg_retI rfl))

set_option maxRecDepth 100000 in
theorem ve_c2 {X : List Int32} {d : Nat} {x L : Int32} {w : ex_W} {fs0 fs15 : List Value} (h0 : ex_at w 0 = some (.inr (.inr (7, fs0)))) (f0_0 : ex_at fs0 0 = some (.ref 15)) (h15 : ex_at w 15 = some (.inr (.inr (5, fs15)))) (f15_1 : ex_at fs15 1 = some (.int L)) (b1 : ex_c0 .lt x = false) (b2 : ex_c2 .le x L = false) : Go X d mt_5 (ex_ent mt_5 [.ref 0, .int x]) w (some (.int (Int32.ofInt (-1))), w) := by
  show Go _ _ _ (0, [some (.ref 0), some (.int x), none], []) _ _
  refine Go.next (f' := (1, [some (.ref 0), some (.int x), none], [.ref 0])) (w' := w) ((ex_stp (ins := .aload_n 0) rfl).trans rfl) ?_
  refine Go.next (f' := (4, [some (.ref 0), some (.int x), none], [.ref 15])) (w' := w) ((ex_stp (ins := .getfield 24) rfl).trans (vg_get (ci := 7) (k := 0) (pl := 353) (pc := 1) (lo := [some (.ref 0), some (.int x), none]) (r := []) (fs := fs0) (v := .ref 15) h0 f0_0)) ?_
  refine Go.next (f' := (7, [some (.ref 0), some (.int x), none], [.int L])) (w' := w) ((ex_stp (ins := .getfield 81) rfl).trans (vg_get (ci := 5) (k := 1) (pl := 194) (pc := 4) (lo := [some (.ref 0), some (.int x), none]) (r := []) (fs := fs15) (v := .int L) h15 f15_1)) ?_
  refine Go.next (f' := (8, [some (.ref 0), some (.int x), some (.int L)], [])) (w' := w) ((ex_stp (ins := .istore_n 2) rfl).trans rfl) ?_
  refine Go.next (f' := (9, [some (.ref 0), some (.int x), some (.int L)], [.int x])) (w' := w) ((ex_stp (ins := .iload_n 1) rfl).trans rfl) ?_
  refine Go.next (f' := (12, [some (.ref 0), some (.int x), some (.int L)], [])) (w' := w) ((ex_stp (ins := .ifCond .lt 8) rfl).trans (vg_b0f (c := .lt) (off := 8) (pc := 9) (lo := [some (.ref 0), some (.int x), some (.int L)]) (r := []) (w := w) (x := x) b1 (by decide))) ?_
  refine Go.next (f' := (13, [some (.ref 0), some (.int x), some (.int L)], [.int x])) (w' := w) ((ex_stp (ins := .iload_n 1) rfl).trans rfl) ?_
  refine Go.next (f' := (14, [some (.ref 0), some (.int x), some (.int L)], [.int L, .int x])) (w' := w) ((ex_stp (ins := .iload_n 2) rfl).trans rfl) ?_
  refine Go.next (f' := (17, [some (.ref 0), some (.int x), some (.int L)], [])) (w' := w) ((ex_stp (ins := .if_icmp .le 5) rfl).trans (vg_b2f (c := .le) (off := 5) (pc := 14) (lo := [some (.ref 0), some (.int x), some (.int L)]) (r := []) (w := w) (x := x) (y := L) b2 (by decide))) ?_
  refine Go.next (f' := (18, [some (.ref 0), some (.int x), some (.int L)], [.int (Int32.ofInt (-1))])) (w' := w) ((ex_stp (ins := .iconst (-1)) rfl).trans rfl) ?_
  exact Go.ret ((ex_stp (ins := .ireturn) rfl).trans (vg_retI rfl))

set_option maxRecDepth 100000 in
theorem ve_c3 {X : List Int32} {d : Nat} {x L : Int32} {w : ex_W} {fs0 fs15 : List Value} (h0 : ex_at w 0 = some (.inr (.inr (7, fs0)))) (f0_0 : ex_at fs0 0 = some (.ref 15)) (h15 : ex_at w 15 = some (.inr (.inr (5, fs15)))) (f15_1 : ex_at fs15 1 = some (.int L)) (b1 : ex_c0 .lt x = false) (b2 : ex_c2 .le x L = true) : Go X d mt_5 (ex_ent mt_5 [.ref 0, .int x]) w (some (.int L), (ex_put w 15 (.inr (.inr (5, (ex_put fs15 1 (.int x))))))) := by
  show Go _ _ _ (0, [some (.ref 0), some (.int x), none], []) _ _
  refine Go.next (f' := (1, [some (.ref 0), some (.int x), none], [.ref 0])) (w' := w) ((ex_stp (ins := .aload_n 0) rfl).trans rfl) ?_
  refine Go.next (f' := (4, [some (.ref 0), some (.int x), none], [.ref 15])) (w' := w) ((ex_stp (ins := .getfield 24) rfl).trans (vg_get (ci := 7) (k := 0) (pl := 353) (pc := 1) (lo := [some (.ref 0), some (.int x), none]) (r := []) (fs := fs0) (v := .ref 15) h0 f0_0)) ?_
  refine Go.next (f' := (7, [some (.ref 0), some (.int x), none], [.int L])) (w' := w) ((ex_stp (ins := .getfield 81) rfl).trans (vg_get (ci := 5) (k := 1) (pl := 194) (pc := 4) (lo := [some (.ref 0), some (.int x), none]) (r := []) (fs := fs15) (v := .int L) h15 f15_1)) ?_
  refine Go.next (f' := (8, [some (.ref 0), some (.int x), some (.int L)], [])) (w' := w) ((ex_stp (ins := .istore_n 2) rfl).trans rfl) ?_
  refine Go.next (f' := (9, [some (.ref 0), some (.int x), some (.int L)], [.int x])) (w' := w) ((ex_stp (ins := .iload_n 1) rfl).trans rfl) ?_
  refine Go.next (f' := (12, [some (.ref 0), some (.int x), some (.int L)], [])) (w' := w) ((ex_stp (ins := .ifCond .lt 8) rfl).trans (vg_b0f (c := .lt) (off := 8) (pc := 9) (lo := [some (.ref 0), some (.int x), some (.int L)]) (r := []) (w := w) (x := x) b1 (by decide))) ?_
  refine Go.next (f' := (13, [some (.ref 0), some (.int x), some (.int L)], [.int x])) (w' := w) ((ex_stp (ins := .iload_n 1) rfl).trans rfl) ?_
  refine Go.next (f' := (14, [some (.ref 0), some (.int x), some (.int L)], [.int L, .int x])) (w' := w) ((ex_stp (ins := .iload_n 2) rfl).trans rfl) ?_
  refine Go.next (f' := (19, [some (.ref 0), some (.int x), some (.int L)], [])) (w' := w) ((ex_stp (ins := .if_icmp .le 5) rfl).trans (vg_b2t (c := .le) (off := 5) (pc := 14) (lo := [some (.ref 0), some (.int x), some (.int L)]) (r := []) (w := w) (x := x) (y := L) b2 (by decide))) ?_
  refine Go.next (f' := (20, [some (.ref 0), some (.int x), some (.int L)], [.ref 0])) (w' := w) ((ex_stp (ins := .aload_n 0) rfl).trans rfl) ?_
  refine Go.next (f' := (23, [some (.ref 0), some (.int x), some (.int L)], [.ref 15])) (w' := w) ((ex_stp (ins := .getfield 24) rfl).trans (vg_get (ci := 7) (k := 0) (pl := 353) (pc := 20) (lo := [some (.ref 0), some (.int x), some (.int L)]) (r := []) (fs := fs0) (v := .ref 15) h0 f0_0)) ?_
  refine Go.next (f' := (24, [some (.ref 0), some (.int x), some (.int L)], [.int x, .ref 15])) (w' := w) ((ex_stp (ins := .iload_n 1) rfl).trans rfl) ?_
  refine Go.next (f' := (27, [some (.ref 0), some (.int x), some (.int L)], [])) (w' := (ex_put w 15 (.inr (.inr (5, (ex_put fs15 1 (.int x))))))) ((ex_stp (ins := .putfield 81) rfl).trans (vg_put (ci := 5) (k := 1) (pl := 194) (pc := 24) (lo := [some (.ref 0), some (.int x), some (.int L)]) (r := []) (fs := fs15) (v := .int x) (w := w) h15 (vg_len f15_1) rfl rfl)) ?_
  refine Go.next (f' := (28, [some (.ref 0), some (.int x), some (.int L)], [.int L])) (w' := (ex_put w 15 (.inr (.inr (5, (ex_put fs15 1 (.int x))))))) ((ex_stp (ins := .iload_n 2) rfl).trans rfl) ?_
  exact Go.ret ((ex_stp (ins := .ireturn) rfl).trans (vg_retI rfl))

set_option maxRecDepth 100000 in
theorem vi_1 {X : List Int32} {d : Nat} {a b c : Int64} {w : ex_W} (b1 : ex_c0 .lt (lg_cmp a b) = true) : Go X d mt_93 (ex_ent mt_93 [.long a, .long b, .long c]) w (some (.int 0), w) := by
  show Go _ _ _ (0, [some (.long a), none, some (.long b), none, some (.long c), none], []) _ _
  refine Go.next (f' := (1, [some (.long a), none, some (.long b), none, some (.long c), none], [.long a])) (w' := w) ((ex_stp (ins := .lload_n 0) rfl).trans rfl) ?_
  refine Go.next (f' := (2, [some (.long a), none, some (.long b), none, some (.long c), none], [.long b, .long a])) (w' := w) ((ex_stp (ins := .lload_n 2) rfl).trans rfl) ?_
  refine Go.next (f' := (3, [some (.long a), none, some (.long b), none, some (.long c), none], [.int (lg_cmp a b)])) (w' := w) ((ex_stp (ins := .lcmp) rfl).trans rfl) ?_
  refine Go.next (f' := (17, [some (.long a), none, some (.long b), none, some (.long c), none], [])) (w' := w) ((ex_stp (ins := .ifCond .lt 14) rfl).trans (vg_b0t (c := .lt) (off := 14) (pc := 3) (lo := [some (.long a), none, some (.long b), none, some (.long c), none]) (r := []) (w := w) (x := (lg_cmp a b)) b1 (by decide))) ?_
  refine Go.next (f' := (18, [some (.long a), none, some (.long b), none, some (.long c), none], [.int 0])) (w' := w) ((ex_stp (ins := .iconst 0) rfl).trans rfl) ?_
  exact Go.ret ((ex_stp (ins := .ireturn) rfl).trans (vg_retZ rfl (by decide)))

set_option maxRecDepth 100000 in
theorem vi_2 {X : List Int32} {d : Nat} {a b c : Int64} {w : ex_W} (b1 : ex_c0 .lt (lg_cmp a b) = false) (b2 : ex_c0 .gt (lg_cmp a c) = true) : Go X d mt_93 (ex_ent mt_93 [.long a, .long b, .long c]) w (some (.int 0), w) := by
  show Go _ _ _ (0, [some (.long a), none, some (.long b), none, some (.long c), none], []) _ _
  refine Go.next (f' := (1, [some (.long a), none, some (.long b), none, some (.long c), none], [.long a])) (w' := w) ((ex_stp (ins := .lload_n 0) rfl).trans rfl) ?_
  refine Go.next (f' := (2, [some (.long a), none, some (.long b), none, some (.long c), none], [.long b, .long a])) (w' := w) ((ex_stp (ins := .lload_n 2) rfl).trans rfl) ?_
  refine Go.next (f' := (3, [some (.long a), none, some (.long b), none, some (.long c), none], [.int (lg_cmp a b)])) (w' := w) ((ex_stp (ins := .lcmp) rfl).trans rfl) ?_
  refine Go.next (f' := (6, [some (.long a), none, some (.long b), none, some (.long c), none], [])) (w' := w) ((ex_stp (ins := .ifCond .lt 14) rfl).trans (vg_b0f (c := .lt) (off := 14) (pc := 3) (lo := [some (.long a), none, some (.long b), none, some (.long c), none]) (r := []) (w := w) (x := (lg_cmp a b)) b1 (by decide))) ?_
  refine Go.next (f' := (7, [some (.long a), none, some (.long b), none, some (.long c), none], [.long a])) (w' := w) ((ex_stp (ins := .lload_n 0) rfl).trans rfl) ?_
  refine Go.next (f' := (9, [some (.long a), none, some (.long b), none, some (.long c), none], [.long c, .long a])) (w' := w) ((ex_stp (ins := .lload 4) rfl).trans rfl) ?_
  refine Go.next (f' := (10, [some (.long a), none, some (.long b), none, some (.long c), none], [.int (lg_cmp a c)])) (w' := w) ((ex_stp (ins := .lcmp) rfl).trans rfl) ?_
  refine Go.next (f' := (17, [some (.long a), none, some (.long b), none, some (.long c), none], [])) (w' := w) ((ex_stp (ins := .ifCond .gt 7) rfl).trans (vg_b0t (c := .gt) (off := 7) (pc := 10) (lo := [some (.long a), none, some (.long b), none, some (.long c), none]) (r := []) (w := w) (x := (lg_cmp a c)) b2 (by decide))) ?_
  refine Go.next (f' := (18, [some (.long a), none, some (.long b), none, some (.long c), none], [.int 0])) (w' := w) ((ex_stp (ins := .iconst 0) rfl).trans rfl) ?_
  exact Go.ret ((ex_stp (ins := .ireturn) rfl).trans (vg_retZ rfl (by decide)))

set_option maxRecDepth 100000 in
theorem vi_3 {X : List Int32} {d : Nat} {a b c : Int64} {w : ex_W} (b1 : ex_c0 .lt (lg_cmp a b) = false) (b2 : ex_c0 .gt (lg_cmp a c) = false) : Go X d mt_93 (ex_ent mt_93 [.long a, .long b, .long c]) w (some (.int 1), w) := by
  show Go _ _ _ (0, [some (.long a), none, some (.long b), none, some (.long c), none], []) _ _
  refine Go.next (f' := (1, [some (.long a), none, some (.long b), none, some (.long c), none], [.long a])) (w' := w) ((ex_stp (ins := .lload_n 0) rfl).trans rfl) ?_
  refine Go.next (f' := (2, [some (.long a), none, some (.long b), none, some (.long c), none], [.long b, .long a])) (w' := w) ((ex_stp (ins := .lload_n 2) rfl).trans rfl) ?_
  refine Go.next (f' := (3, [some (.long a), none, some (.long b), none, some (.long c), none], [.int (lg_cmp a b)])) (w' := w) ((ex_stp (ins := .lcmp) rfl).trans rfl) ?_
  refine Go.next (f' := (6, [some (.long a), none, some (.long b), none, some (.long c), none], [])) (w' := w) ((ex_stp (ins := .ifCond .lt 14) rfl).trans (vg_b0f (c := .lt) (off := 14) (pc := 3) (lo := [some (.long a), none, some (.long b), none, some (.long c), none]) (r := []) (w := w) (x := (lg_cmp a b)) b1 (by decide))) ?_
  refine Go.next (f' := (7, [some (.long a), none, some (.long b), none, some (.long c), none], [.long a])) (w' := w) ((ex_stp (ins := .lload_n 0) rfl).trans rfl) ?_
  refine Go.next (f' := (9, [some (.long a), none, some (.long b), none, some (.long c), none], [.long c, .long a])) (w' := w) ((ex_stp (ins := .lload 4) rfl).trans rfl) ?_
  refine Go.next (f' := (10, [some (.long a), none, some (.long b), none, some (.long c), none], [.int (lg_cmp a c)])) (w' := w) ((ex_stp (ins := .lcmp) rfl).trans rfl) ?_
  refine Go.next (f' := (13, [some (.long a), none, some (.long b), none, some (.long c), none], [])) (w' := w) ((ex_stp (ins := .ifCond .gt 7) rfl).trans (vg_b0f (c := .gt) (off := 7) (pc := 10) (lo := [some (.long a), none, some (.long b), none, some (.long c), none]) (r := []) (w := w) (x := (lg_cmp a c)) b2 (by decide))) ?_
  refine Go.next (f' := (14, [some (.long a), none, some (.long b), none, some (.long c), none], [.int 1])) (w' := w) ((ex_stp (ins := .iconst 1) rfl).trans rfl) ?_
  refine Go.next (f' := (18, [some (.long a), none, some (.long b), none, some (.long c), none], [.int 1])) (w' := w) ((ex_stp (ins := .goto 4) rfl).trans rfl) ?_
  exact Go.ret ((ex_stp (ins := .ireturn) rfl).trans (vg_retZ rfl (by decide)))

set_option maxRecDepth 100000 in
theorem ve_m1 {X : List Int32} {d : Nat} {x L : Int32} {w : ex_W} {fs59 : List Value} (h59 : ex_at w 59 = some (.inr (.inr (8, fs59)))) (f59_15 : ex_at fs59 15 = some (.int L)) (c1 : Go X d mt_93 (ex_ent mt_93 [.long (x).toInt64, .long 0, .long (L).toInt64]) w (some (.int 0), w)) (b2 : ex_c0 .ne 0 = false) : Go X (d + 1) mt_6 (ex_ent mt_6 [.ref 59, .int x]) w (some (.int (Int32.ofInt (-1))), w) := by
  show Go _ _ _ (0, [some (.ref 59), some (.int x), none], []) _ _
  refine Go.next (f' := (1, [some (.ref 59), some (.int x), none], [.int x])) (w' := w) ((ex_stp (ins := .iload_n 1) rfl).trans rfl) ?_
  refine Go.next (f' := (2, [some (.ref 59), some (.int x), none], [.long (x).toInt64])) (w' := w) ((ex_stp (ins := .i2l) rfl).trans rfl) ?_
  refine Go.next (f' := (3, [some (.ref 59), some (.int x), none], [.long 0, .long (x).toInt64])) (w' := w) ((ex_stp (ins := .lconst 0) rfl).trans rfl) ?_
  refine Go.next (f' := (4, [some (.ref 59), some (.int x), none], [.ref 59, .long 0, .long (x).toInt64])) (w' := w) ((ex_stp (ins := .aload_n 0) rfl).trans rfl) ?_
  refine Go.next (f' := (7, [some (.ref 59), some (.int x), none], [.int L, .long 0, .long (x).toInt64])) (w' := w) ((ex_stp (ins := .getfield 90) rfl).trans (vg_get (ci := 8) (k := 15) (pl := 991) (pc := 4) (lo := [some (.ref 59), some (.int x), none]) (r := [.long 0, .long (x).toInt64]) (fs := fs59) (v := .int L) h59 f59_15)) ?_
  refine Go.next (f' := (8, [some (.ref 59), some (.int x), none], [.long (L).toInt64, .long 0, .long (x).toInt64])) (w' := w) ((ex_stp (ins := .i2l) rfl).trans rfl) ?_
  refine Go.call (cal := 93) (as := [.long (x).toInt64, .long 0, .long (L).toInt64]) (g := (11, [some (.ref 59), some (.int x), none], [])) (M' := mt_93) (r := some (.int 0)) (w' := w) ((ex_stp (ins := .invokestatic 95) rfl).trans (vg_cl1 (cal := 93) (n := 3) (rc := 0) (p1 := 1088) (p2 := 1089) (p3 := 76) (pc := 8) (lo := [some (.ref 59), some (.int x), none]) (st := [.long (L).toInt64, .long 0, .long (x).toInt64]) (w := w) (Nat.le_of_ble_eq_true rfl) (Nat.le_of_ble_eq_true rfl))) rfl (Nat.le_of_ble_eq_true rfl) c1 ?_
  show Go _ _ _ (11, [some (.ref 59), some (.int x), none], [.int 0]) _ _
  refine Go.next (f' := (14, [some (.ref 59), some (.int x), none], [])) (w' := w) ((ex_stp (ins := .ifCond .ne 5) rfl).trans (vg_b0f (c := .ne) (off := 5) (pc := 11) (lo := [some (.ref 59), some (.int x), none]) (r := []) (w := w) (x := 0) b2 (by decide))) ?_
  refine Go.next (f' := (15, [some (.ref 59), some (.int x), none], [.int (Int32.ofInt (-1))])) (w' := w) ((ex_stp (ins := .iconst (-1)) rfl).trans rfl) ?_
  exact Go.ret ((ex_stp (ins := .ireturn) rfl).trans (vg_retI rfl))

set_option maxRecDepth 100000 in
theorem ve_m2 {X : List Int32} {d : Nat} {x L : Int32} {w : ex_W} {fs59 : List Value} (h59 : ex_at w 59 = some (.inr (.inr (8, fs59)))) (f59_15 : ex_at fs59 15 = some (.int L)) (c1 : Go X d mt_93 (ex_ent mt_93 [.long (x).toInt64, .long 0, .long (L).toInt64]) w (some (.int 1), w)) (b2 : ex_c0 .ne 1 = true) : Go X (d + 1) mt_6 (ex_ent mt_6 [.ref 59, .int x]) w (some (.int L), (ex_put w 59 (.inr (.inr (8, (ex_put fs59 15 (.int x))))))) := by
  show Go _ _ _ (0, [some (.ref 59), some (.int x), none], []) _ _
  refine Go.next (f' := (1, [some (.ref 59), some (.int x), none], [.int x])) (w' := w) ((ex_stp (ins := .iload_n 1) rfl).trans rfl) ?_
  refine Go.next (f' := (2, [some (.ref 59), some (.int x), none], [.long (x).toInt64])) (w' := w) ((ex_stp (ins := .i2l) rfl).trans rfl) ?_
  refine Go.next (f' := (3, [some (.ref 59), some (.int x), none], [.long 0, .long (x).toInt64])) (w' := w) ((ex_stp (ins := .lconst 0) rfl).trans rfl) ?_
  refine Go.next (f' := (4, [some (.ref 59), some (.int x), none], [.ref 59, .long 0, .long (x).toInt64])) (w' := w) ((ex_stp (ins := .aload_n 0) rfl).trans rfl) ?_
  refine Go.next (f' := (7, [some (.ref 59), some (.int x), none], [.int L, .long 0, .long (x).toInt64])) (w' := w) ((ex_stp (ins := .getfield 90) rfl).trans (vg_get (ci := 8) (k := 15) (pl := 991) (pc := 4) (lo := [some (.ref 59), some (.int x), none]) (r := [.long 0, .long (x).toInt64]) (fs := fs59) (v := .int L) h59 f59_15)) ?_
  refine Go.next (f' := (8, [some (.ref 59), some (.int x), none], [.long (L).toInt64, .long 0, .long (x).toInt64])) (w' := w) ((ex_stp (ins := .i2l) rfl).trans rfl) ?_
  refine Go.call (cal := 93) (as := [.long (x).toInt64, .long 0, .long (L).toInt64]) (g := (11, [some (.ref 59), some (.int x), none], [])) (M' := mt_93) (r := some (.int 1)) (w' := w) ((ex_stp (ins := .invokestatic 95) rfl).trans (vg_cl1 (cal := 93) (n := 3) (rc := 0) (p1 := 1088) (p2 := 1089) (p3 := 76) (pc := 8) (lo := [some (.ref 59), some (.int x), none]) (st := [.long (L).toInt64, .long 0, .long (x).toInt64]) (w := w) (Nat.le_of_ble_eq_true rfl) (Nat.le_of_ble_eq_true rfl))) rfl (Nat.le_of_ble_eq_true rfl) c1 ?_
  show Go _ _ _ (11, [some (.ref 59), some (.int x), none], [.int 1]) _ _
  refine Go.next (f' := (16, [some (.ref 59), some (.int x), none], [])) (w' := w) ((ex_stp (ins := .ifCond .ne 5) rfl).trans (vg_b0t (c := .ne) (off := 5) (pc := 11) (lo := [some (.ref 59), some (.int x), none]) (r := []) (w := w) (x := 1) b2 (by decide))) ?_
  refine Go.next (f' := (17, [some (.ref 59), some (.int x), none], [.ref 59])) (w' := w) ((ex_stp (ins := .aload_n 0) rfl).trans rfl) ?_
  refine Go.next (f' := (20, [some (.ref 59), some (.int x), none], [.int L])) (w' := w) ((ex_stp (ins := .getfield 90) rfl).trans (vg_get (ci := 8) (k := 15) (pl := 991) (pc := 17) (lo := [some (.ref 59), some (.int x), none]) (r := []) (fs := fs59) (v := .int L) h59 f59_15)) ?_
  refine Go.next (f' := (21, [some (.ref 59), some (.int x), some (.int L)], [])) (w' := w) ((ex_stp (ins := .istore_n 2) rfl).trans rfl) ?_
  refine Go.next (f' := (22, [some (.ref 59), some (.int x), some (.int L)], [.ref 59])) (w' := w) ((ex_stp (ins := .aload_n 0) rfl).trans rfl) ?_
  refine Go.next (f' := (23, [some (.ref 59), some (.int x), some (.int L)], [.int x, .ref 59])) (w' := w) ((ex_stp (ins := .iload_n 1) rfl).trans rfl) ?_
  refine Go.next (f' := (26, [some (.ref 59), some (.int x), some (.int L)], [])) (w' := (ex_put w 59 (.inr (.inr (8, (ex_put fs59 15 (.int x))))))) ((ex_stp (ins := .putfield 90) rfl).trans (vg_put (ci := 8) (k := 15) (pl := 991) (pc := 23) (lo := [some (.ref 59), some (.int x), some (.int L)]) (r := []) (fs := fs59) (v := .int x) (w := w) h59 (vg_len f59_15) rfl rfl)) ?_
  refine Go.next (f' := (27, [some (.ref 59), some (.int x), some (.int L)], [.int L])) (w' := (ex_put w 59 (.inr (.inr (8, (ex_put fs59 15 (.int x))))))) ((ex_stp (ins := .iload_n 2) rfl).trans rfl) ?_
  exact Go.ret ((ex_stp (ins := .ireturn) rfl).trans (vg_retI rfl))

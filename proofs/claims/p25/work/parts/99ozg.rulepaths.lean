/-! byRule: paths of both. Written by wip/vg/rulegen.py. -/
def pln (n s : Int32) : List Value := [.ref 17, .ref 22, .ref 23, .ref 24, .ref 25, .int n, .int s]
set_option maxRecDepth 100000 in
theorem ap_0 {X : List Int32} {d : Nat} {x : Int32} {w : ex_W} (b1 : Int32.toInt (x) = 0)   : Go X d mt_118 (ex_ent mt_118 [.int x]) w (some (.int 1), w) := by
  show Go _ _ _ (0, [some (.int x)], []) _ _
  refine Go.next (f' := (1, [some (.int x)], [.int x])) (w' := w) ((ex_stp (ins := .iload_n 0) rfl).trans rfl) ?_
  refine Go.next (f' := (16, [some (.int x)], [])) (w' := w) ((ex_stp (ins := .ifCond .eq 15) rfl).trans (vg_ib0t (c := .eq) (off := 15) (pc := 1) (lo := [some (.int x)]) (r := []) (w := w) (x := x) (kq_eq_t b1) (by decide))) ?_
  refine Go.next (f' := (17, [some (.int x)], [.int 1])) (w' := w) ((ex_stp (ins := .iconst 1) rfl).trans rfl) ?_
  refine Go.next (f' := (21, [some (.int x)], [.int 1])) (w' := w) ((ex_stp (ins := .goto 4) rfl).trans rfl) ?_
  exact Go.ret ((ex_stp (ins := .ireturn) rfl).trans (vg_retZ rfl (by decide)))

set_option maxRecDepth 100000 in
theorem ap_1 {X : List Int32} {d : Nat} {x : Int32} {w : ex_W} (b1 : ¬ Int32.toInt (x) = 0) (b2 : Int32.toInt (x) < 10)   : Go X d mt_118 (ex_ent mt_118 [.int x]) w (some (.int 0), w) := by
  show Go _ _ _ (0, [some (.int x)], []) _ _
  refine Go.next (f' := (1, [some (.int x)], [.int x])) (w' := w) ((ex_stp (ins := .iload_n 0) rfl).trans rfl) ?_
  refine Go.next (f' := (4, [some (.int x)], [])) (w' := w) ((ex_stp (ins := .ifCond .eq 15) rfl).trans (vg_ib0f (c := .eq) (off := 15) (pc := 1) (lo := [some (.int x)]) (r := []) (w := w) (x := x) (kq_eq_f b1) (by decide))) ?_
  refine Go.next (f' := (5, [some (.int x)], [.int x])) (w' := w) ((ex_stp (ins := .iload_n 0) rfl).trans rfl) ?_
  refine Go.next (f' := (7, [some (.int x)], [.int 10, .int x])) (w' := w) ((ex_stp (ins := .bipush 10) rfl).trans rfl) ?_
  refine Go.next (f' := (20, [some (.int x)], [])) (w' := w) ((ex_stp (ins := .if_icmp .lt 13) rfl).trans (vg_ib2t (c := .lt) (off := 13) (pc := 7) (lo := [some (.int x)]) (r := []) (w := w) (x := x) (y := 10) (kn_lt_t (c := 10) (by decide) b2) (by decide))) ?_
  refine Go.next (f' := (21, [some (.int x)], [.int 0])) (w' := w) ((ex_stp (ins := .iconst 0) rfl).trans rfl) ?_
  exact Go.ret ((ex_stp (ins := .ireturn) rfl).trans (vg_retZ rfl (by decide)))

set_option maxRecDepth 100000 in
theorem ap_2 {X : List Int32} {d : Nat} {x : Int32} {w : ex_W} (b1 : ¬ Int32.toInt (x) = 0) (b2 : Int32.toInt (x) ≥ 10) (b3 : Int32.toInt (x) ≥ 15)   : Go X d mt_118 (ex_ent mt_118 [.int x]) w (some (.int 0), w) := by
  show Go _ _ _ (0, [some (.int x)], []) _ _
  refine Go.next (f' := (1, [some (.int x)], [.int x])) (w' := w) ((ex_stp (ins := .iload_n 0) rfl).trans rfl) ?_
  refine Go.next (f' := (4, [some (.int x)], [])) (w' := w) ((ex_stp (ins := .ifCond .eq 15) rfl).trans (vg_ib0f (c := .eq) (off := 15) (pc := 1) (lo := [some (.int x)]) (r := []) (w := w) (x := x) (kq_eq_f b1) (by decide))) ?_
  refine Go.next (f' := (5, [some (.int x)], [.int x])) (w' := w) ((ex_stp (ins := .iload_n 0) rfl).trans rfl) ?_
  refine Go.next (f' := (7, [some (.int x)], [.int 10, .int x])) (w' := w) ((ex_stp (ins := .bipush 10) rfl).trans rfl) ?_
  refine Go.next (f' := (10, [some (.int x)], [])) (w' := w) ((ex_stp (ins := .if_icmp .lt 13) rfl).trans (vg_ib2f (c := .lt) (off := 13) (pc := 7) (lo := [some (.int x)]) (r := []) (w := w) (x := x) (y := 10) (kn_lt_f (c := 10) (by decide) b2) (by decide))) ?_
  refine Go.next (f' := (11, [some (.int x)], [.int x])) (w' := w) ((ex_stp (ins := .iload_n 0) rfl).trans rfl) ?_
  refine Go.next (f' := (13, [some (.int x)], [.int 15, .int x])) (w' := w) ((ex_stp (ins := .bipush 15) rfl).trans rfl) ?_
  refine Go.next (f' := (20, [some (.int x)], [])) (w' := w) ((ex_stp (ins := .if_icmp .ge 7) rfl).trans (vg_ib2t (c := .ge) (off := 7) (pc := 13) (lo := [some (.int x)]) (r := []) (w := w) (x := x) (y := 15) (kn_ge_t (c := 15) (by decide) b3) (by decide))) ?_
  refine Go.next (f' := (21, [some (.int x)], [.int 0])) (w' := w) ((ex_stp (ins := .iconst 0) rfl).trans rfl) ?_
  exact Go.ret ((ex_stp (ins := .ireturn) rfl).trans (vg_retZ rfl (by decide)))

set_option maxRecDepth 100000 in
theorem ap_3 {X : List Int32} {d : Nat} {x : Int32} {w : ex_W} (b1 : ¬ Int32.toInt (x) = 0) (b2 : Int32.toInt (x) ≥ 10) (b3 : Int32.toInt (x) < 15)   : Go X d mt_118 (ex_ent mt_118 [.int x]) w (some (.int 1), w) := by
  show Go _ _ _ (0, [some (.int x)], []) _ _
  refine Go.next (f' := (1, [some (.int x)], [.int x])) (w' := w) ((ex_stp (ins := .iload_n 0) rfl).trans rfl) ?_
  refine Go.next (f' := (4, [some (.int x)], [])) (w' := w) ((ex_stp (ins := .ifCond .eq 15) rfl).trans (vg_ib0f (c := .eq) (off := 15) (pc := 1) (lo := [some (.int x)]) (r := []) (w := w) (x := x) (kq_eq_f b1) (by decide))) ?_
  refine Go.next (f' := (5, [some (.int x)], [.int x])) (w' := w) ((ex_stp (ins := .iload_n 0) rfl).trans rfl) ?_
  refine Go.next (f' := (7, [some (.int x)], [.int 10, .int x])) (w' := w) ((ex_stp (ins := .bipush 10) rfl).trans rfl) ?_
  refine Go.next (f' := (10, [some (.int x)], [])) (w' := w) ((ex_stp (ins := .if_icmp .lt 13) rfl).trans (vg_ib2f (c := .lt) (off := 13) (pc := 7) (lo := [some (.int x)]) (r := []) (w := w) (x := x) (y := 10) (kn_lt_f (c := 10) (by decide) b2) (by decide))) ?_
  refine Go.next (f' := (11, [some (.int x)], [.int x])) (w' := w) ((ex_stp (ins := .iload_n 0) rfl).trans rfl) ?_
  refine Go.next (f' := (13, [some (.int x)], [.int 15, .int x])) (w' := w) ((ex_stp (ins := .bipush 15) rfl).trans rfl) ?_
  refine Go.next (f' := (16, [some (.int x)], [])) (w' := w) ((ex_stp (ins := .if_icmp .ge 7) rfl).trans (vg_ib2f (c := .ge) (off := 7) (pc := 13) (lo := [some (.int x)]) (r := []) (w := w) (x := x) (y := 15) (kn_ge_f (c := 15) (by decide) b3) (by decide))) ?_
  refine Go.next (f' := (17, [some (.int x)], [.int 1])) (w' := w) ((ex_stp (ins := .iconst 1) rfl).trans rfl) ?_
  refine Go.next (f' := (21, [some (.int x)], [.int 1])) (w' := w) ((ex_stp (ins := .goto 4) rfl).trans rfl) ?_
  exact Go.ret ((ex_stp (ins := .ireturn) rfl).trans (vg_retZ rfl (by decide)))

set_option maxRecDepth 100000 in
theorem ta_0 {X : List Int32} {d : Nat} {t : Nat} {g hg mo ma ga ne bo dc ac wc : Int32} {w : ex_W} {q : Option Value × ex_W} (h21 : ex_at w 21 = some (.inr (.inr (2, pln g hg)))) (ht : ex_at w t = some (.inr (.inr (6, td t mo ma ga ne bo dc ac wc)))) (b1 : (if 5 < ac then 5 else ac) = ac) (n_21_t : Nat.beq 21 t = false)  (kk : Go X d mt_119 (14, [some (.ref 21), some (.ref t), some (.int 0)], []) (ex_put w 21 (.inr (.inr (2, pln ac hg)))) q) : Go X d mt_119 (ex_ent mt_119 [.ref 21, .ref t]) w q := by
  show Go _ _ _ (0, [some (.ref 21), some (.ref t), none], []) _ _
  refine Go.next (f' := (1, [some (.ref 21), some (.ref t), none], [.ref 21])) (w' := w) ((ex_stp (ins := .aload_n 0) rfl).trans rfl) ?_
  refine Go.next (f' := (2, [some (.ref 21), some (.ref t), none], [.ref t, .ref 21])) (w' := w) ((ex_stp (ins := .aload_n 1) rfl).trans rfl) ?_
  refine Go.next (f' := (5, [some (.ref 21), some (.ref t), none], [.int ac, .ref 21])) (w' := w) ((ex_stp (ins := .getfield 28) rfl).trans (vg_get (ci := 6) (k := 12) (pl := 149) (pc := 2) (lo := [some (.ref 21), some (.ref t), none]) (r := [.ref 21]) (fs := (td t mo ma ga ne bo dc ac wc)) (v := .int ac) ht rfl)) ?_
  refine Go.next (f' := (6, [some (.ref 21), some (.ref t), none], [.int 5, .int ac, .ref 21])) (w' := w) ((ex_stp (ins := .iconst 5) rfl).trans rfl) ?_
  refine Go.next (f' := (9, [some (.ref 21), some (.ref t), none], [.int ac, .ref 21])) (w' := w) ((ex_stp (ins := .invokestatic 34) rfl).trans (vg_min (t := none) (pl := 729) (pc := 6) (lo := [some (.ref 21), some (.ref t), none]) (r := [.ref 21]) (w := w) (x := ac) (y := 5) (Nat.le_of_ble_eq_true rfl) b1)) ?_
  refine Go.next (f' := (12, [some (.ref 21), some (.ref t), none], [])) (w' := (ex_put w 21 (.inr (.inr (2, pln ac hg))))) ((ex_stp (ins := .putfield 40) rfl).trans (vg_put (ci := 2) (k := 5) (pl := 260) (pc := 9) (lo := [some (.ref 21), some (.ref t), none]) (r := []) (fs := (pln g hg)) (v := .int ac) (w := w) h21 (Nat.le_of_ble_eq_true rfl) rfl rfl)) ?_
  refine Go.next (f' := (13, [some (.ref 21), some (.ref t), none], [.int 0])) (w' := (ex_put w 21 (.inr (.inr (2, pln ac hg))))) ((ex_stp (ins := .iconst 0) rfl).trans rfl) ?_
  refine Go.next (f' := (14, [some (.ref 21), some (.ref t), some (.int 0)], [])) (w' := (ex_put w 21 (.inr (.inr (2, pln ac hg))))) ((ex_stp (ins := .istore_n 2) rfl).trans rfl) ?_
  exact kk

set_option maxRecDepth 100000 in
theorem ta_x {X : List Int32} {d : Nat} {t : Nat} {g hg i : Int32} {w : ex_W} (h21 : ex_at w 21 = some (.inr (.inr (2, pln g hg)))) (b1 : Int32.toInt (i) ≥ Int32.toInt (g))   : Go X d mt_119 (14, [some (.ref 21), some (.ref t), some (.int i)], []) w (none, w) := by
  refine Go.next (f' := (15, [some (.ref 21), some (.ref t), some (.int i)], [.int i])) (w' := w) ((ex_stp (ins := .iload_n 2) rfl).trans rfl) ?_
  refine Go.next (f' := (16, [some (.ref 21), some (.ref t), some (.int i)], [.ref 21, .int i])) (w' := w) ((ex_stp (ins := .aload_n 0) rfl).trans rfl) ?_
  refine Go.next (f' := (19, [some (.ref 21), some (.ref t), some (.int i)], [.int g, .int i])) (w' := w) ((ex_stp (ins := .getfield 40) rfl).trans (vg_get (ci := 2) (k := 5) (pl := 260) (pc := 16) (lo := [some (.ref 21), some (.ref t), some (.int i)]) (r := [.int i]) (fs := (pln g hg)) (v := .int g) h21 rfl)) ?_
  refine Go.next (f' := (40, [some (.ref 21), some (.ref t), some (.int i)], [])) (w' := w) ((ex_stp (ins := .if_icmp .ge 21) rfl).trans (vg_ib2t (c := .ge) (off := 21) (pc := 19) (lo := [some (.ref 21), some (.ref t), some (.int i)]) (r := []) (w := w) (x := i) (y := g) (kp_ge_t b1) (by decide))) ?_
  exact Go.ret ((ex_stp (ins := .return_) rfl).trans rfl)

set_option maxRecDepth 100000 in
theorem ta_n {X : List Int32} {d : Nat} {t : Nat} {g hg mo ma ga ne bo dc ac wc i : Int32} {RU As : List Int32} {w : ex_W} {q : Option Value × ex_W} (h21 : ex_at w 21 = some (.inr (.inr (2, pln g hg)))) (ht : ex_at w t = some (.inr (.inr (6, td t mo ma ga ne bo dc ac wc)))) (h22 : ex_at w 22 = some (.inl (.int, RU))) (ht4 : ex_at w (t + 4) = some (.inl (.int, As))) (b1 : Int32.toInt (i) < Int32.toInt (g)) (i2 : ex_ix i As.length = true) (i3 : ex_ix i RU.length = true) (n_22_t : Nat.beq 22 t = false) (n_22_t4 : Nat.beq 22 (t + 4) = false)  (kk : Go X d mt_119 (14, [some (.ref 21), some (.ref t), some (.int (i + 1))], []) (ex_put w 22 (.inl (.int, (ex_put RU (Int32.toNatClampNeg (i)) (ex_gd As (Int32.toNatClampNeg (i))))))) q) : Go X d mt_119 (14, [some (.ref 21), some (.ref t), some (.int i)], []) w q := by
  refine Go.next (f' := (15, [some (.ref 21), some (.ref t), some (.int i)], [.int i])) (w' := w) ((ex_stp (ins := .iload_n 2) rfl).trans rfl) ?_
  refine Go.next (f' := (16, [some (.ref 21), some (.ref t), some (.int i)], [.ref 21, .int i])) (w' := w) ((ex_stp (ins := .aload_n 0) rfl).trans rfl) ?_
  refine Go.next (f' := (19, [some (.ref 21), some (.ref t), some (.int i)], [.int g, .int i])) (w' := w) ((ex_stp (ins := .getfield 40) rfl).trans (vg_get (ci := 2) (k := 5) (pl := 260) (pc := 16) (lo := [some (.ref 21), some (.ref t), some (.int i)]) (r := [.int i]) (fs := (pln g hg)) (v := .int g) h21 rfl)) ?_
  refine Go.next (f' := (22, [some (.ref 21), some (.ref t), some (.int i)], [])) (w' := w) ((ex_stp (ins := .if_icmp .ge 21) rfl).trans (vg_ib2f (c := .ge) (off := 21) (pc := 19) (lo := [some (.ref 21), some (.ref t), some (.int i)]) (r := []) (w := w) (x := i) (y := g) (kp_ge_f b1) (by decide))) ?_
  refine Go.next (f' := (23, [some (.ref 21), some (.ref t), some (.int i)], [.ref 21])) (w' := w) ((ex_stp (ins := .aload_n 0) rfl).trans rfl) ?_
  refine Go.next (f' := (26, [some (.ref 21), some (.ref t), some (.int i)], [.ref 22])) (w' := w) ((ex_stp (ins := .getfield 9) rfl).trans (vg_get (ci := 2) (k := 1) (pl := 256) (pc := 23) (lo := [some (.ref 21), some (.ref t), some (.int i)]) (r := []) (fs := (pln g hg)) (v := .ref 22) h21 rfl)) ?_
  refine Go.next (f' := (27, [some (.ref 21), some (.ref t), some (.int i)], [.int i, .ref 22])) (w' := w) ((ex_stp (ins := .iload_n 2) rfl).trans rfl) ?_
  refine Go.next (f' := (28, [some (.ref 21), some (.ref t), some (.int i)], [.ref t, .int i, .ref 22])) (w' := w) ((ex_stp (ins := .aload_n 1) rfl).trans rfl) ?_
  refine Go.next (f' := (31, [some (.ref 21), some (.ref t), some (.int i)], [.ref (t + 4), .int i, .ref 22])) (w' := w) ((ex_stp (ins := .getfield 43) rfl).trans (vg_get (ci := 6) (k := 3) (pl := 117) (pc := 28) (lo := [some (.ref 21), some (.ref t), some (.int i)]) (r := [.int i, .ref 22]) (fs := (td t mo ma ga ne bo dc ac wc)) (v := .ref (t + 4)) ht rfl)) ?_
  refine Go.next (f' := (32, [some (.ref 21), some (.ref t), some (.int i)], [.int i, .ref (t + 4), .int i, .ref 22])) (w' := w) ((ex_stp (ins := .iload_n 2) rfl).trans rfl) ?_
  refine Go.next (f' := (33, [some (.ref 21), some (.ref t), some (.int i)], [.int (ex_gd As (Int32.toNatClampNeg (i))), .int i, .ref 22])) (w' := w) ((ex_stp (ins := .iaload) rfl).trans (vg_ald (by_ := false) (isL := false) (X := X) (pc := 32) (lo := [some (.ref 21), some (.ref t), some (.int i)]) (r := [.int i, .ref 22]) (i := i) (l := As) ht4 rfl i2)) ?_
  refine Go.next (f' := (34, [some (.ref 21), some (.ref t), some (.int i)], [])) (w' := (ex_put w 22 (.inl (.int, (ex_put RU (Int32.toNatClampNeg (i)) (ex_gd As (Int32.toNatClampNeg (i)))))))) ((ex_stp (ins := .iastore) rfl).trans (vg_ast (by_ := false) (pc := 33) (lo := [some (.ref 21), some (.ref t), some (.int i)]) (r := []) (i := i) (x := (ex_gd As (Int32.toNatClampNeg (i)))) (l := RU) (w := w) h22 rfl i3)) ?_
  refine Go.next (f' := (37, [some (.ref 21), some (.ref t), some (.int (i + 1))], [])) (w' := (ex_put w 22 (.inl (.int, (ex_put RU (Int32.toNatClampNeg (i)) (ex_gd As (Int32.toNatClampNeg (i)))))))) ((ex_stp (ins := .iinc 2 1) rfl).trans rfl) ?_
  refine Go.next (f' := (14, [some (.ref 21), some (.ref t), some (.int (i + 1))], [])) (w' := (ex_put w 22 (.inl (.int, (ex_put RU (Int32.toNatClampNeg (i)) (ex_gd As (Int32.toNatClampNeg (i)))))))) ((ex_stp (ins := .goto (-23)) rfl).trans rfl) ?_
  exact kk

set_option maxRecDepth 100000 in
theorem fo_0 {X : List Int32} {d : Nat} {w : ex_W} {q : Option Value × ex_W}   (kk : Go X d mt_126 (9, [some (.ref 21), some (.int 0), some (.int 0), some (.int 1), some (.int 0), none], []) w q) : Go X d mt_126 (ex_ent mt_126 [.ref 21]) w q := by
  show Go _ _ _ (0, [some (.ref 21), none, none, none, none, none], []) _ _
  refine Go.next (f' := (1, [some (.ref 21), none, none, none, none, none], [.int 0])) (w' := w) ((ex_stp (ins := .iconst 0) rfl).trans rfl) ?_
  refine Go.next (f' := (2, [some (.ref 21), some (.int 0), none, none, none, none], [])) (w' := w) ((ex_stp (ins := .istore_n 1) rfl).trans rfl) ?_
  refine Go.next (f' := (3, [some (.ref 21), some (.int 0), none, none, none, none], [.int 0])) (w' := w) ((ex_stp (ins := .iconst 0) rfl).trans rfl) ?_
  refine Go.next (f' := (4, [some (.ref 21), some (.int 0), some (.int 0), none, none, none], [])) (w' := w) ((ex_stp (ins := .istore_n 2) rfl).trans rfl) ?_
  refine Go.next (f' := (5, [some (.ref 21), some (.int 0), some (.int 0), none, none, none], [.int 1])) (w' := w) ((ex_stp (ins := .iconst 1) rfl).trans rfl) ?_
  refine Go.next (f' := (6, [some (.ref 21), some (.int 0), some (.int 0), some (.int 1), none, none], [])) (w' := w) ((ex_stp (ins := .istore_n 3) rfl).trans rfl) ?_
  refine Go.next (f' := (7, [some (.ref 21), some (.int 0), some (.int 0), some (.int 1), none, none], [.int 0])) (w' := w) ((ex_stp (ins := .iconst 0) rfl).trans rfl) ?_
  refine Go.next (f' := (9, [some (.ref 21), some (.int 0), some (.int 0), some (.int 1), some (.int 0), none], [])) (w' := w) ((ex_stp (ins := .istore 4) rfl).trans rfl) ?_
  exact kk

set_option maxRecDepth 100000 in
theorem fo_x0 {X : List Int32} {d : Nat} {g hg i v k : Int32} {w : ex_W} {o1 : Option Value} {q : Option Value × ex_W} (h21 : ex_at w 21 = some (.inr (.inr (2, pln g hg)))) (b1 : Int32.toInt (i) ≥ Int32.toInt (g))  (kk : Go X d mt_126 (85, [some (.ref 21), some (.int v), some (.int k), some (.int 0), some (.int i), o1], []) w q) : Go X d mt_126 (9, [some (.ref 21), some (.int v), some (.int k), some (.int 0), some (.int i), o1], []) w q := by
  refine Go.next (f' := (11, [some (.ref 21), some (.int v), some (.int k), some (.int 0), some (.int i), o1], [.int i])) (w' := w) ((ex_stp (ins := .iload 4) rfl).trans rfl) ?_
  refine Go.next (f' := (12, [some (.ref 21), some (.int v), some (.int k), some (.int 0), some (.int i), o1], [.ref 21, .int i])) (w' := w) ((ex_stp (ins := .aload_n 0) rfl).trans rfl) ?_
  refine Go.next (f' := (15, [some (.ref 21), some (.int v), some (.int k), some (.int 0), some (.int i), o1], [.int g, .int i])) (w' := w) ((ex_stp (ins := .getfield 40) rfl).trans (vg_get (ci := 2) (k := 5) (pl := 260) (pc := 12) (lo := [some (.ref 21), some (.int v), some (.int k), some (.int 0), some (.int i), o1]) (r := [.int i]) (fs := (pln g hg)) (v := .int g) h21 rfl)) ?_
  refine Go.next (f' := (85, [some (.ref 21), some (.int v), some (.int k), some (.int 0), some (.int i), o1], [])) (w' := w) ((ex_stp (ins := .if_icmp .ge 70) rfl).trans (vg_ib2t (c := .ge) (off := 70) (pc := 15) (lo := [some (.ref 21), some (.int v), some (.int k), some (.int 0), some (.int i), o1]) (r := []) (w := w) (x := i) (y := g) (kp_ge_t b1) (by decide))) ?_
  exact kk

set_option maxRecDepth 100000 in
theorem fo_x1 {X : List Int32} {d : Nat} {g hg i v k : Int32} {w : ex_W} {o1 : Option Value} {q : Option Value × ex_W} (h21 : ex_at w 21 = some (.inr (.inr (2, pln g hg)))) (b1 : Int32.toInt (i) ≥ Int32.toInt (g))  (kk : Go X d mt_126 (85, [some (.ref 21), some (.int v), some (.int k), some (.int 1), some (.int i), o1], []) w q) : Go X d mt_126 (9, [some (.ref 21), some (.int v), some (.int k), some (.int 1), some (.int i), o1], []) w q := by
  refine Go.next (f' := (11, [some (.ref 21), some (.int v), some (.int k), some (.int 1), some (.int i), o1], [.int i])) (w' := w) ((ex_stp (ins := .iload 4) rfl).trans rfl) ?_
  refine Go.next (f' := (12, [some (.ref 21), some (.int v), some (.int k), some (.int 1), some (.int i), o1], [.ref 21, .int i])) (w' := w) ((ex_stp (ins := .aload_n 0) rfl).trans rfl) ?_
  refine Go.next (f' := (15, [some (.ref 21), some (.int v), some (.int k), some (.int 1), some (.int i), o1], [.int g, .int i])) (w' := w) ((ex_stp (ins := .getfield 40) rfl).trans (vg_get (ci := 2) (k := 5) (pl := 260) (pc := 12) (lo := [some (.ref 21), some (.int v), some (.int k), some (.int 1), some (.int i), o1]) (r := [.int i]) (fs := (pln g hg)) (v := .int g) h21 rfl)) ?_
  refine Go.next (f' := (85, [some (.ref 21), some (.int v), some (.int k), some (.int 1), some (.int i), o1], [])) (w' := w) ((ex_stp (ins := .if_icmp .ge 70) rfl).trans (vg_ib2t (c := .ge) (off := 70) (pc := 15) (lo := [some (.ref 21), some (.int v), some (.int k), some (.int 1), some (.int i), o1]) (r := []) (w := w) (x := i) (y := g) (kp_ge_t b1) (by decide))) ?_
  exact kk

set_option maxRecDepth 100000 in
theorem fo_y {X : List Int32} {d : Nat} {g hg i v k : Int32} {w : ex_W} {o1 : Option Value} {q : Option Value × ex_W} (h21 : ex_at w 21 = some (.inr (.inr (2, pln g hg)))) (b1 : Int32.toInt (i) < Int32.toInt (g))  (kk : Go X d mt_126 (85, [some (.ref 21), some (.int v), some (.int k), some (.int 0), some (.int i), o1], []) w q) : Go X d mt_126 (9, [some (.ref 21), some (.int v), some (.int k), some (.int 0), some (.int i), o1], []) w q := by
  refine Go.next (f' := (11, [some (.ref 21), some (.int v), some (.int k), some (.int 0), some (.int i), o1], [.int i])) (w' := w) ((ex_stp (ins := .iload 4) rfl).trans rfl) ?_
  refine Go.next (f' := (12, [some (.ref 21), some (.int v), some (.int k), some (.int 0), some (.int i), o1], [.ref 21, .int i])) (w' := w) ((ex_stp (ins := .aload_n 0) rfl).trans rfl) ?_
  refine Go.next (f' := (15, [some (.ref 21), some (.int v), some (.int k), some (.int 0), some (.int i), o1], [.int g, .int i])) (w' := w) ((ex_stp (ins := .getfield 40) rfl).trans (vg_get (ci := 2) (k := 5) (pl := 260) (pc := 12) (lo := [some (.ref 21), some (.int v), some (.int k), some (.int 0), some (.int i), o1]) (r := [.int i]) (fs := (pln g hg)) (v := .int g) h21 rfl)) ?_
  refine Go.next (f' := (18, [some (.ref 21), some (.int v), some (.int k), some (.int 0), some (.int i), o1], [])) (w' := w) ((ex_stp (ins := .if_icmp .ge 70) rfl).trans (vg_ib2f (c := .ge) (off := 70) (pc := 15) (lo := [some (.ref 21), some (.int v), some (.int k), some (.int 0), some (.int i), o1]) (r := []) (w := w) (x := i) (y := g) (kp_ge_f b1) (by decide))) ?_
  refine Go.next (f' := (19, [some (.ref 21), some (.int v), some (.int k), some (.int 0), some (.int i), o1], [.int 0])) (w' := w) ((ex_stp (ins := .iload_n 3) rfl).trans rfl) ?_
  refine Go.next (f' := (85, [some (.ref 21), some (.int v), some (.int k), some (.int 0), some (.int i), o1], [])) (w' := w) ((ex_stp (ins := .ifCond .eq 66) rfl).trans (vg_ib0t (c := .eq) (off := 66) (pc := 19) (lo := [some (.ref 21), some (.int v), some (.int k), some (.int 0), some (.int i), o1]) (r := []) (w := w) (x := 0) (by decide) (by decide))) ?_
  exact kk

set_option maxRecDepth 100000 in
theorem fo_s {X : List Int32} {d : Nat} {g hg i b v k : Int32} {RU : List Int32} {w : ex_W} {fs : List Value} {o1 : Option Value} {q : Option Value × ex_W} (h21 : ex_at w 21 = some (.inr (.inr (2, pln g hg)))) (h17 : ex_at w 17 = some (.inr (.inr (0, fs)))) (h22 : ex_at w 22 = some (.inl (.int, RU))) (b1 : Int32.toInt (i) < Int32.toInt (g)) (i2 : ex_ix i RU.length = true) (c3 : Go X d mt_109 (ex_ent mt_109 [.ref 17, .int (ex_gd RU (Int32.toNatClampNeg (i)))]) w (some (.int b), w)) (b4 : Int32.toInt (b) ≤ 0)  (kk : Go X (d + 1) mt_126 (9, [some (.ref 21), some (.int v), some (.int k), some (.int 0), some (.int (i + 1)), some (.int b)], []) w q) : Go X (d + 1) mt_126 (9, [some (.ref 21), some (.int v), some (.int k), some (.int 1), some (.int i), o1], []) w q := by
  refine Go.next (f' := (11, [some (.ref 21), some (.int v), some (.int k), some (.int 1), some (.int i), o1], [.int i])) (w' := w) ((ex_stp (ins := .iload 4) rfl).trans rfl) ?_
  refine Go.next (f' := (12, [some (.ref 21), some (.int v), some (.int k), some (.int 1), some (.int i), o1], [.ref 21, .int i])) (w' := w) ((ex_stp (ins := .aload_n 0) rfl).trans rfl) ?_
  refine Go.next (f' := (15, [some (.ref 21), some (.int v), some (.int k), some (.int 1), some (.int i), o1], [.int g, .int i])) (w' := w) ((ex_stp (ins := .getfield 40) rfl).trans (vg_get (ci := 2) (k := 5) (pl := 260) (pc := 12) (lo := [some (.ref 21), some (.int v), some (.int k), some (.int 1), some (.int i), o1]) (r := [.int i]) (fs := (pln g hg)) (v := .int g) h21 rfl)) ?_
  refine Go.next (f' := (18, [some (.ref 21), some (.int v), some (.int k), some (.int 1), some (.int i), o1], [])) (w' := w) ((ex_stp (ins := .if_icmp .ge 70) rfl).trans (vg_ib2f (c := .ge) (off := 70) (pc := 15) (lo := [some (.ref 21), some (.int v), some (.int k), some (.int 1), some (.int i), o1]) (r := []) (w := w) (x := i) (y := g) (kp_ge_f b1) (by decide))) ?_
  refine Go.next (f' := (19, [some (.ref 21), some (.int v), some (.int k), some (.int 1), some (.int i), o1], [.int 1])) (w' := w) ((ex_stp (ins := .iload_n 3) rfl).trans rfl) ?_
  refine Go.next (f' := (22, [some (.ref 21), some (.int v), some (.int k), some (.int 1), some (.int i), o1], [])) (w' := w) ((ex_stp (ins := .ifCond .eq 66) rfl).trans (vg_ib0f (c := .eq) (off := 66) (pc := 19) (lo := [some (.ref 21), some (.int v), some (.int k), some (.int 1), some (.int i), o1]) (r := []) (w := w) (x := 1) (by decide) (by decide))) ?_
  refine Go.next (f' := (23, [some (.ref 21), some (.int v), some (.int k), some (.int 1), some (.int i), o1], [.ref 21])) (w' := w) ((ex_stp (ins := .aload_n 0) rfl).trans rfl) ?_
  refine Go.next (f' := (26, [some (.ref 21), some (.int v), some (.int k), some (.int 1), some (.int i), o1], [.ref 17])) (w' := w) ((ex_stp (ins := .getfield 24) rfl).trans (vg_get (ci := 2) (k := 0) (pl := 255) (pc := 23) (lo := [some (.ref 21), some (.int v), some (.int k), some (.int 1), some (.int i), o1]) (r := []) (fs := (pln g hg)) (v := .ref 17) h21 rfl)) ?_
  refine Go.next (f' := (27, [some (.ref 21), some (.int v), some (.int k), some (.int 1), some (.int i), o1], [.ref 21, .ref 17])) (w' := w) ((ex_stp (ins := .aload_n 0) rfl).trans rfl) ?_
  refine Go.next (f' := (30, [some (.ref 21), some (.int v), some (.int k), some (.int 1), some (.int i), o1], [.ref 22, .ref 17])) (w' := w) ((ex_stp (ins := .getfield 9) rfl).trans (vg_get (ci := 2) (k := 1) (pl := 256) (pc := 27) (lo := [some (.ref 21), some (.int v), some (.int k), some (.int 1), some (.int i), o1]) (r := [.ref 17]) (fs := (pln g hg)) (v := .ref 22) h21 rfl)) ?_
  refine Go.next (f' := (32, [some (.ref 21), some (.int v), some (.int k), some (.int 1), some (.int i), o1], [.int i, .ref 22, .ref 17])) (w' := w) ((ex_stp (ins := .iload 4) rfl).trans rfl) ?_
  refine Go.next (f' := (33, [some (.ref 21), some (.int v), some (.int k), some (.int 1), some (.int i), o1], [.int (ex_gd RU (Int32.toNatClampNeg (i))), .ref 17])) (w' := w) ((ex_stp (ins := .iaload) rfl).trans (vg_ald (by_ := false) (isL := false) (X := X) (pc := 32) (lo := [some (.ref 21), some (.int v), some (.int k), some (.int 1), some (.int i), o1]) (r := [.ref 17]) (i := i) (l := RU) h22 rfl i2)) ?_
  refine Go.call (cal := 109) (as := [.ref 17, .int (ex_gd RU (Int32.toNatClampNeg (i)))]) (g := (36, [some (.ref 21), some (.int v), some (.int k), some (.int 1), some (.int i), o1], [])) (M' := mt_109) (r := some (.int b)) (w' := w) ((ex_stp (ins := .invokevirtual 87) rfl).trans (vg_cl0 (cal := 109) (n := 2) (rc := 0) (p1 := 769) (p2 := 670) (p3 := 671) (fs := fs) (tl := [.int (ex_gd RU (Int32.toNatClampNeg (i)))]) (pc := 33) (lo := [some (.ref 21), some (.int v), some (.int k), some (.int 1), some (.int i), o1]) (st := [.int (ex_gd RU (Int32.toNatClampNeg (i))), .ref 17]) (Nat.le_of_ble_eq_true rfl) (Nat.le_of_ble_eq_true rfl) rfl h17)) rfl (Nat.le_of_ble_eq_true rfl) c3 ?_
  show Go _ _ _ (36, [some (.ref 21), some (.int v), some (.int k), some (.int 1), some (.int i), o1], [.int b]) _ _
  refine Go.next (f' := (38, [some (.ref 21), some (.int v), some (.int k), some (.int 1), some (.int i), some (.int b)], [])) (w' := w) ((ex_stp (ins := .istore 5) rfl).trans rfl) ?_
  refine Go.next (f' := (40, [some (.ref 21), some (.int v), some (.int k), some (.int 1), some (.int i), some (.int b)], [.int b])) (w' := w) ((ex_stp (ins := .iload 5) rfl).trans rfl) ?_
  refine Go.next (f' := (47, [some (.ref 21), some (.int v), some (.int k), some (.int 1), some (.int i), some (.int b)], [])) (w' := w) ((ex_stp (ins := .ifCond .le 7) rfl).trans (vg_ib0t (c := .le) (off := 7) (pc := 40) (lo := [some (.ref 21), some (.int v), some (.int k), some (.int 1), some (.int i), some (.int b)]) (r := []) (w := w) (x := b) (kq_le_t b4) (by decide))) ?_
  refine Go.next (f' := (48, [some (.ref 21), some (.int v), some (.int k), some (.int 1), some (.int i), some (.int b)], [.int 0])) (w' := w) ((ex_stp (ins := .iconst 0) rfl).trans rfl) ?_
  refine Go.next (f' := (49, [some (.ref 21), some (.int v), some (.int k), some (.int 0), some (.int i), some (.int b)], [])) (w' := w) ((ex_stp (ins := .istore_n 3) rfl).trans rfl) ?_
  refine Go.next (f' := (50, [some (.ref 21), some (.int v), some (.int k), some (.int 0), some (.int i), some (.int b)], [.int 0])) (w' := w) ((ex_stp (ins := .iload_n 3) rfl).trans rfl) ?_
  refine Go.next (f' := (79, [some (.ref 21), some (.int v), some (.int k), some (.int 0), some (.int i), some (.int b)], [])) (w' := w) ((ex_stp (ins := .ifCond .eq 29) rfl).trans (vg_ib0t (c := .eq) (off := 29) (pc := 50) (lo := [some (.ref 21), some (.int v), some (.int k), some (.int 0), some (.int i), some (.int b)]) (r := []) (w := w) (x := 0) (by decide) (by decide))) ?_
  refine Go.next (f' := (82, [some (.ref 21), some (.int v), some (.int k), some (.int 0), some (.int (i + 1)), some (.int b)], [])) (w' := w) ((ex_stp (ins := .iinc 4 1) rfl).trans rfl) ?_
  refine Go.next (f' := (9, [some (.ref 21), some (.int v), some (.int k), some (.int 0), some (.int (i + 1)), some (.int b)], [])) (w' := w) ((ex_stp (ins := .goto (-73)) rfl).trans rfl) ?_
  exact kk

set_option maxRecDepth 100000 in
theorem fo_n {X : List Int32} {d : Nat} {g hg i b v k : Int32} {RU LB : List Int32} {w w1 : ex_W} {fs : List Value} {o1 : Option Value} {q : Option Value × ex_W} (h21 : ex_at w 21 = some (.inr (.inr (2, pln g hg)))) (h17 : ex_at w 17 = some (.inr (.inr (0, fs)))) (h22 : ex_at w 22 = some (.inl (.int, RU))) (h25 : ex_at w 25 = some (.inl (.int, LB))) (b1 : Int32.toInt (i) < Int32.toInt (g)) (i2 : ex_ix i RU.length = true) (c3 : Go X d mt_109 (ex_ent mt_109 [.ref 17, .int (ex_gd RU (Int32.toNatClampNeg (i)))]) w (some (.int b), w)) (b4 : Int32.toInt (b) > 0) (i5 : ex_ix i LB.length = true) (c6 : Go X d mt_115 (ex_ent mt_115 [.ref 17, .int b]) (ex_put w 25 (.inl (.int, (ex_put LB (Int32.toNatClampNeg (i)) b)))) (none, w1))  (kk : Go X (d + 1) mt_126 (9, [some (.ref 21), some (.int (v + b)), some (.int (k + 1)), some (.int 1), some (.int (i + 1)), some (.int b)], []) w1 q) : Go X (d + 1) mt_126 (9, [some (.ref 21), some (.int v), some (.int k), some (.int 1), some (.int i), o1], []) w q := by
  refine Go.next (f' := (11, [some (.ref 21), some (.int v), some (.int k), some (.int 1), some (.int i), o1], [.int i])) (w' := w) ((ex_stp (ins := .iload 4) rfl).trans rfl) ?_
  refine Go.next (f' := (12, [some (.ref 21), some (.int v), some (.int k), some (.int 1), some (.int i), o1], [.ref 21, .int i])) (w' := w) ((ex_stp (ins := .aload_n 0) rfl).trans rfl) ?_
  refine Go.next (f' := (15, [some (.ref 21), some (.int v), some (.int k), some (.int 1), some (.int i), o1], [.int g, .int i])) (w' := w) ((ex_stp (ins := .getfield 40) rfl).trans (vg_get (ci := 2) (k := 5) (pl := 260) (pc := 12) (lo := [some (.ref 21), some (.int v), some (.int k), some (.int 1), some (.int i), o1]) (r := [.int i]) (fs := (pln g hg)) (v := .int g) h21 rfl)) ?_
  refine Go.next (f' := (18, [some (.ref 21), some (.int v), some (.int k), some (.int 1), some (.int i), o1], [])) (w' := w) ((ex_stp (ins := .if_icmp .ge 70) rfl).trans (vg_ib2f (c := .ge) (off := 70) (pc := 15) (lo := [some (.ref 21), some (.int v), some (.int k), some (.int 1), some (.int i), o1]) (r := []) (w := w) (x := i) (y := g) (kp_ge_f b1) (by decide))) ?_
  refine Go.next (f' := (19, [some (.ref 21), some (.int v), some (.int k), some (.int 1), some (.int i), o1], [.int 1])) (w' := w) ((ex_stp (ins := .iload_n 3) rfl).trans rfl) ?_
  refine Go.next (f' := (22, [some (.ref 21), some (.int v), some (.int k), some (.int 1), some (.int i), o1], [])) (w' := w) ((ex_stp (ins := .ifCond .eq 66) rfl).trans (vg_ib0f (c := .eq) (off := 66) (pc := 19) (lo := [some (.ref 21), some (.int v), some (.int k), some (.int 1), some (.int i), o1]) (r := []) (w := w) (x := 1) (by decide) (by decide))) ?_
  refine Go.next (f' := (23, [some (.ref 21), some (.int v), some (.int k), some (.int 1), some (.int i), o1], [.ref 21])) (w' := w) ((ex_stp (ins := .aload_n 0) rfl).trans rfl) ?_
  refine Go.next (f' := (26, [some (.ref 21), some (.int v), some (.int k), some (.int 1), some (.int i), o1], [.ref 17])) (w' := w) ((ex_stp (ins := .getfield 24) rfl).trans (vg_get (ci := 2) (k := 0) (pl := 255) (pc := 23) (lo := [some (.ref 21), some (.int v), some (.int k), some (.int 1), some (.int i), o1]) (r := []) (fs := (pln g hg)) (v := .ref 17) h21 rfl)) ?_
  refine Go.next (f' := (27, [some (.ref 21), some (.int v), some (.int k), some (.int 1), some (.int i), o1], [.ref 21, .ref 17])) (w' := w) ((ex_stp (ins := .aload_n 0) rfl).trans rfl) ?_
  refine Go.next (f' := (30, [some (.ref 21), some (.int v), some (.int k), some (.int 1), some (.int i), o1], [.ref 22, .ref 17])) (w' := w) ((ex_stp (ins := .getfield 9) rfl).trans (vg_get (ci := 2) (k := 1) (pl := 256) (pc := 27) (lo := [some (.ref 21), some (.int v), some (.int k), some (.int 1), some (.int i), o1]) (r := [.ref 17]) (fs := (pln g hg)) (v := .ref 22) h21 rfl)) ?_
  refine Go.next (f' := (32, [some (.ref 21), some (.int v), some (.int k), some (.int 1), some (.int i), o1], [.int i, .ref 22, .ref 17])) (w' := w) ((ex_stp (ins := .iload 4) rfl).trans rfl) ?_
  refine Go.next (f' := (33, [some (.ref 21), some (.int v), some (.int k), some (.int 1), some (.int i), o1], [.int (ex_gd RU (Int32.toNatClampNeg (i))), .ref 17])) (w' := w) ((ex_stp (ins := .iaload) rfl).trans (vg_ald (by_ := false) (isL := false) (X := X) (pc := 32) (lo := [some (.ref 21), some (.int v), some (.int k), some (.int 1), some (.int i), o1]) (r := [.ref 17]) (i := i) (l := RU) h22 rfl i2)) ?_
  refine Go.call (cal := 109) (as := [.ref 17, .int (ex_gd RU (Int32.toNatClampNeg (i)))]) (g := (36, [some (.ref 21), some (.int v), some (.int k), some (.int 1), some (.int i), o1], [])) (M' := mt_109) (r := some (.int b)) (w' := w) ((ex_stp (ins := .invokevirtual 87) rfl).trans (vg_cl0 (cal := 109) (n := 2) (rc := 0) (p1 := 769) (p2 := 670) (p3 := 671) (fs := fs) (tl := [.int (ex_gd RU (Int32.toNatClampNeg (i)))]) (pc := 33) (lo := [some (.ref 21), some (.int v), some (.int k), some (.int 1), some (.int i), o1]) (st := [.int (ex_gd RU (Int32.toNatClampNeg (i))), .ref 17]) (Nat.le_of_ble_eq_true rfl) (Nat.le_of_ble_eq_true rfl) rfl h17)) rfl (Nat.le_of_ble_eq_true rfl) c3 ?_
  show Go _ _ _ (36, [some (.ref 21), some (.int v), some (.int k), some (.int 1), some (.int i), o1], [.int b]) _ _
  refine Go.next (f' := (38, [some (.ref 21), some (.int v), some (.int k), some (.int 1), some (.int i), some (.int b)], [])) (w' := w) ((ex_stp (ins := .istore 5) rfl).trans rfl) ?_
  refine Go.next (f' := (40, [some (.ref 21), some (.int v), some (.int k), some (.int 1), some (.int i), some (.int b)], [.int b])) (w' := w) ((ex_stp (ins := .iload 5) rfl).trans rfl) ?_
  refine Go.next (f' := (43, [some (.ref 21), some (.int v), some (.int k), some (.int 1), some (.int i), some (.int b)], [])) (w' := w) ((ex_stp (ins := .ifCond .le 7) rfl).trans (vg_ib0f (c := .le) (off := 7) (pc := 40) (lo := [some (.ref 21), some (.int v), some (.int k), some (.int 1), some (.int i), some (.int b)]) (r := []) (w := w) (x := b) (kq_le_f b4) (by decide))) ?_
  refine Go.next (f' := (44, [some (.ref 21), some (.int v), some (.int k), some (.int 1), some (.int i), some (.int b)], [.int 1])) (w' := w) ((ex_stp (ins := .iconst 1) rfl).trans rfl) ?_
  refine Go.next (f' := (48, [some (.ref 21), some (.int v), some (.int k), some (.int 1), some (.int i), some (.int b)], [.int 1])) (w' := w) ((ex_stp (ins := .goto 4) rfl).trans rfl) ?_
  refine Go.next (f' := (49, [some (.ref 21), some (.int v), some (.int k), some (.int 1), some (.int i), some (.int b)], [])) (w' := w) ((ex_stp (ins := .istore_n 3) rfl).trans rfl) ?_
  refine Go.next (f' := (50, [some (.ref 21), some (.int v), some (.int k), some (.int 1), some (.int i), some (.int b)], [.int 1])) (w' := w) ((ex_stp (ins := .iload_n 3) rfl).trans rfl) ?_
  refine Go.next (f' := (53, [some (.ref 21), some (.int v), some (.int k), some (.int 1), some (.int i), some (.int b)], [])) (w' := w) ((ex_stp (ins := .ifCond .eq 29) rfl).trans (vg_ib0f (c := .eq) (off := 29) (pc := 50) (lo := [some (.ref 21), some (.int v), some (.int k), some (.int 1), some (.int i), some (.int b)]) (r := []) (w := w) (x := 1) (by decide) (by decide))) ?_
  refine Go.next (f' := (54, [some (.ref 21), some (.int v), some (.int k), some (.int 1), some (.int i), some (.int b)], [.ref 21])) (w' := w) ((ex_stp (ins := .aload_n 0) rfl).trans rfl) ?_
  refine Go.next (f' := (57, [some (.ref 21), some (.int v), some (.int k), some (.int 1), some (.int i), some (.int b)], [.ref 25])) (w' := w) ((ex_stp (ins := .getfield 21) rfl).trans (vg_get (ci := 2) (k := 4) (pl := 259) (pc := 54) (lo := [some (.ref 21), some (.int v), some (.int k), some (.int 1), some (.int i), some (.int b)]) (r := []) (fs := (pln g hg)) (v := .ref 25) h21 rfl)) ?_
  refine Go.next (f' := (59, [some (.ref 21), some (.int v), some (.int k), some (.int 1), some (.int i), some (.int b)], [.int i, .ref 25])) (w' := w) ((ex_stp (ins := .iload 4) rfl).trans rfl) ?_
  refine Go.next (f' := (61, [some (.ref 21), some (.int v), some (.int k), some (.int 1), some (.int i), some (.int b)], [.int b, .int i, .ref 25])) (w' := w) ((ex_stp (ins := .iload 5) rfl).trans rfl) ?_
  refine Go.next (f' := (62, [some (.ref 21), some (.int v), some (.int k), some (.int 1), some (.int i), some (.int b)], [])) (w' := (ex_put w 25 (.inl (.int, (ex_put LB (Int32.toNatClampNeg (i)) b))))) ((ex_stp (ins := .iastore) rfl).trans (vg_ast (by_ := false) (pc := 61) (lo := [some (.ref 21), some (.int v), some (.int k), some (.int 1), some (.int i), some (.int b)]) (r := []) (i := i) (x := b) (l := LB) (w := w) h25 rfl i5)) ?_
  refine Go.next (f' := (63, [some (.ref 21), some (.int v), some (.int k), some (.int 1), some (.int i), some (.int b)], [.int v])) (w' := (ex_put w 25 (.inl (.int, (ex_put LB (Int32.toNatClampNeg (i)) b))))) ((ex_stp (ins := .iload_n 1) rfl).trans rfl) ?_
  refine Go.next (f' := (65, [some (.ref 21), some (.int v), some (.int k), some (.int 1), some (.int i), some (.int b)], [.int b, .int v])) (w' := (ex_put w 25 (.inl (.int, (ex_put LB (Int32.toNatClampNeg (i)) b))))) ((ex_stp (ins := .iload 5) rfl).trans rfl) ?_
  refine Go.next (f' := (66, [some (.ref 21), some (.int v), some (.int k), some (.int 1), some (.int i), some (.int b)], [.int (v + b)])) (w' := (ex_put w 25 (.inl (.int, (ex_put LB (Int32.toNatClampNeg (i)) b))))) ((ex_stp (ins := .iadd) rfl).trans rfl) ?_
  refine Go.next (f' := (67, [some (.ref 21), some (.int (v + b)), some (.int k), some (.int 1), some (.int i), some (.int b)], [])) (w' := (ex_put w 25 (.inl (.int, (ex_put LB (Int32.toNatClampNeg (i)) b))))) ((ex_stp (ins := .istore_n 1) rfl).trans rfl) ?_
  refine Go.next (f' := (68, [some (.ref 21), some (.int (v + b)), some (.int k), some (.int 1), some (.int i), some (.int b)], [.ref 21])) (w' := (ex_put w 25 (.inl (.int, (ex_put LB (Int32.toNatClampNeg (i)) b))))) ((ex_stp (ins := .aload_n 0) rfl).trans rfl) ?_
  refine Go.next (f' := (71, [some (.ref 21), some (.int (v + b)), some (.int k), some (.int 1), some (.int i), some (.int b)], [.ref 17])) (w' := (ex_put w 25 (.inl (.int, (ex_put LB (Int32.toNatClampNeg (i)) b))))) ((ex_stp (ins := .getfield 24) rfl).trans (vg_get (ci := 2) (k := 0) (pl := 255) (pc := 68) (lo := [some (.ref 21), some (.int (v + b)), some (.int k), some (.int 1), some (.int i), some (.int b)]) (r := []) (fs := (pln g hg)) (v := .ref 17) (vg_at_o rfl h21) rfl)) ?_
  refine Go.next (f' := (73, [some (.ref 21), some (.int (v + b)), some (.int k), some (.int 1), some (.int i), some (.int b)], [.int b, .ref 17])) (w' := (ex_put w 25 (.inl (.int, (ex_put LB (Int32.toNatClampNeg (i)) b))))) ((ex_stp (ins := .iload 5) rfl).trans rfl) ?_
  refine Go.call (cal := 115) (as := [.ref 17, .int b]) (g := (76, [some (.ref 21), some (.int (v + b)), some (.int k), some (.int 1), some (.int i), some (.int b)], [])) (M' := mt_115) (r := none) (w' := w1) ((ex_stp (ins := .invokevirtual 80) rfl).trans (vg_cl0 (cal := 115) (n := 2) (rc := 0) (p1 := 752) (p2 := 639) (p3 := 640) (fs := fs) (tl := [.int b]) (pc := 73) (lo := [some (.ref 21), some (.int (v + b)), some (.int k), some (.int 1), some (.int i), some (.int b)]) (st := [.int b, .ref 17]) (Nat.le_of_ble_eq_true rfl) (Nat.le_of_ble_eq_true rfl) rfl (vg_at_o rfl h17))) rfl (Nat.le_of_ble_eq_true rfl) c6 ?_
  show Go _ _ _ (76, [some (.ref 21), some (.int (v + b)), some (.int k), some (.int 1), some (.int i), some (.int b)], []) _ _
  refine Go.next (f' := (79, [some (.ref 21), some (.int (v + b)), some (.int (k + 1)), some (.int 1), some (.int i), some (.int b)], [])) (w' := w1) ((ex_stp (ins := .iinc 2 1) rfl).trans rfl) ?_
  refine Go.next (f' := (82, [some (.ref 21), some (.int (v + b)), some (.int (k + 1)), some (.int 1), some (.int (i + 1)), some (.int b)], [])) (w' := w1) ((ex_stp (ins := .iinc 4 1) rfl).trans rfl) ?_
  refine Go.next (f' := (9, [some (.ref 21), some (.int (v + b)), some (.int (k + 1)), some (.int 1), some (.int (i + 1)), some (.int b)], [])) (w' := w1) ((ex_stp (ins := .goto (-73)) rfl).trans rfl) ?_
  exact kk

set_option maxRecDepth 100000 in
theorem fb_s0 {X : List Int32} {d : Nat} {v k i : Int32} {w : ex_W} {o1 : Option Value} {q : Option Value × ex_W}   (kk : Go X d mt_126 (88, [some (.ref 21), some (.int v), some (.int k), some (.int 0), some (.int 0), o1], []) w q) : Go X d mt_126 (85, [some (.ref 21), some (.int v), some (.int k), some (.int 0), some (.int i), o1], []) w q := by
  refine Go.next (f' := (86, [some (.ref 21), some (.int v), some (.int k), some (.int 0), some (.int i), o1], [.int 0])) (w' := w) ((ex_stp (ins := .iconst 0) rfl).trans rfl) ?_
  refine Go.next (f' := (88, [some (.ref 21), some (.int v), some (.int k), some (.int 0), some (.int 0), o1], [])) (w' := w) ((ex_stp (ins := .istore 4) rfl).trans rfl) ?_
  exact kk

set_option maxRecDepth 100000 in
theorem fb_n0 {X : List Int32} {d : Nat} {g hg i k v : Int32} {w w1 : ex_W} {fs : List Value} {o1 : Option Value} {q : Option Value × ex_W} (h21 : ex_at w 21 = some (.inr (.inr (2, pln g hg)))) (h17 : ex_at w 17 = some (.inr (.inr (0, fs)))) (b1 : Int32.toInt (i) < Int32.toInt (k)) (c2 : Go X d mt_170 (ex_ent mt_170 [.ref 17]) w (none, w1))  (kk : Go X (d + 1) mt_126 (88, [some (.ref 21), some (.int v), some (.int k), some (.int 0), some (.int (i + 1)), o1], []) w1 q) : Go X (d + 1) mt_126 (88, [some (.ref 21), some (.int v), some (.int k), some (.int 0), some (.int i), o1], []) w q := by
  refine Go.next (f' := (90, [some (.ref 21), some (.int v), some (.int k), some (.int 0), some (.int i), o1], [.int i])) (w' := w) ((ex_stp (ins := .iload 4) rfl).trans rfl) ?_
  refine Go.next (f' := (91, [some (.ref 21), some (.int v), some (.int k), some (.int 0), some (.int i), o1], [.int k, .int i])) (w' := w) ((ex_stp (ins := .iload_n 2) rfl).trans rfl) ?_
  refine Go.next (f' := (94, [some (.ref 21), some (.int v), some (.int k), some (.int 0), some (.int i), o1], [])) (w' := w) ((ex_stp (ins := .if_icmp .ge 16) rfl).trans (vg_ib2f (c := .ge) (off := 16) (pc := 91) (lo := [some (.ref 21), some (.int v), some (.int k), some (.int 0), some (.int i), o1]) (r := []) (w := w) (x := i) (y := k) (kp_ge_f b1) (by decide))) ?_
  refine Go.next (f' := (95, [some (.ref 21), some (.int v), some (.int k), some (.int 0), some (.int i), o1], [.ref 21])) (w' := w) ((ex_stp (ins := .aload_n 0) rfl).trans rfl) ?_
  refine Go.next (f' := (98, [some (.ref 21), some (.int v), some (.int k), some (.int 0), some (.int i), o1], [.ref 17])) (w' := w) ((ex_stp (ins := .getfield 24) rfl).trans (vg_get (ci := 2) (k := 0) (pl := 255) (pc := 95) (lo := [some (.ref 21), some (.int v), some (.int k), some (.int 0), some (.int i), o1]) (r := []) (fs := (pln g hg)) (v := .ref 17) h21 rfl)) ?_
  refine Go.call (cal := 170) (as := [.ref 17]) (g := (101, [some (.ref 21), some (.int v), some (.int k), some (.int 0), some (.int i), o1], [])) (M' := mt_170) (r := none) (w' := w1) ((ex_stp (ins := .invokevirtual 84) rfl).trans (vg_cl0 (cal := 170) (n := 1) (rc := 0) (p1 := 753) (p2 := 754) (p3 := 755) (fs := fs) (tl := []) (pc := 98) (lo := [some (.ref 21), some (.int v), some (.int k), some (.int 0), some (.int i), o1]) (st := [.ref 17]) (Nat.le_of_ble_eq_true rfl) (Nat.le_of_ble_eq_true rfl) rfl h17)) rfl (Nat.le_of_ble_eq_true rfl) c2 ?_
  show Go _ _ _ (101, [some (.ref 21), some (.int v), some (.int k), some (.int 0), some (.int i), o1], []) _ _
  refine Go.next (f' := (104, [some (.ref 21), some (.int v), some (.int k), some (.int 0), some (.int (i + 1)), o1], [])) (w' := w1) ((ex_stp (ins := .iinc 4 1) rfl).trans rfl) ?_
  refine Go.next (f' := (88, [some (.ref 21), some (.int v), some (.int k), some (.int 0), some (.int (i + 1)), o1], [])) (w' := w1) ((ex_stp (ins := .goto (-16)) rfl).trans rfl) ?_
  exact kk

set_option maxRecDepth 100000 in
theorem fb_e0 {X : List Int32} {d : Nat} {g hg i k v : Int32} {w : ex_W} {o1 : Option Value} (h21 : ex_at w 21 = some (.inr (.inr (2, pln g hg)))) (b1 : Int32.toInt (i) ≥ Int32.toInt (k))   : Go X d mt_126 (88, [some (.ref 21), some (.int v), some (.int k), some (.int 0), some (.int i), o1], []) w (none, (ex_put w 21 (.inr (.inr (2, pln g 1000))))) := by
  refine Go.next (f' := (90, [some (.ref 21), some (.int v), some (.int k), some (.int 0), some (.int i), o1], [.int i])) (w' := w) ((ex_stp (ins := .iload 4) rfl).trans rfl) ?_
  refine Go.next (f' := (91, [some (.ref 21), some (.int v), some (.int k), some (.int 0), some (.int i), o1], [.int k, .int i])) (w' := w) ((ex_stp (ins := .iload_n 2) rfl).trans rfl) ?_
  refine Go.next (f' := (107, [some (.ref 21), some (.int v), some (.int k), some (.int 0), some (.int i), o1], [])) (w' := w) ((ex_stp (ins := .if_icmp .ge 16) rfl).trans (vg_ib2t (c := .ge) (off := 16) (pc := 91) (lo := [some (.ref 21), some (.int v), some (.int k), some (.int 0), some (.int i), o1]) (r := []) (w := w) (x := i) (y := k) (kp_ge_t b1) (by decide))) ?_
  refine Go.next (f' := (108, [some (.ref 21), some (.int v), some (.int k), some (.int 0), some (.int i), o1], [.ref 21])) (w' := w) ((ex_stp (ins := .aload_n 0) rfl).trans rfl) ?_
  refine Go.next (f' := (109, [some (.ref 21), some (.int v), some (.int k), some (.int 0), some (.int i), o1], [.int 0, .ref 21])) (w' := w) ((ex_stp (ins := .iload_n 3) rfl).trans rfl) ?_
  refine Go.next (f' := (116, [some (.ref 21), some (.int v), some (.int k), some (.int 0), some (.int i), o1], [.ref 21])) (w' := w) ((ex_stp (ins := .ifCond .eq 7) rfl).trans (vg_ib0t (c := .eq) (off := 7) (pc := 109) (lo := [some (.ref 21), some (.int v), some (.int k), some (.int 0), some (.int i), o1]) (r := [.ref 21]) (w := w) (x := 0) (by decide) (by decide))) ?_
  refine Go.next (f' := (119, [some (.ref 21), some (.int v), some (.int k), some (.int 0), some (.int i), o1], [.int 1000, .ref 21])) (w' := w) ((ex_stp (ins := .sipush 1000) rfl).trans rfl) ?_
  refine Go.next (f' := (122, [some (.ref 21), some (.int v), some (.int k), some (.int 0), some (.int i), o1], [])) (w' := (ex_put w 21 (.inr (.inr (2, pln g 1000))))) ((ex_stp (ins := .putfield 50) rfl).trans (vg_put (ci := 2) (k := 6) (pl := 261) (pc := 119) (lo := [some (.ref 21), some (.int v), some (.int k), some (.int 0), some (.int i), o1]) (r := []) (fs := (pln g hg)) (v := .int 1000) (w := w) h21 (Nat.le_of_ble_eq_true rfl) rfl rfl)) ?_
  exact Go.ret ((ex_stp (ins := .return_) rfl).trans rfl)

set_option maxRecDepth 100000 in
theorem fb_s1 {X : List Int32} {d : Nat} {v k i : Int32} {w : ex_W} {o1 : Option Value} {q : Option Value × ex_W}   (kk : Go X d mt_126 (88, [some (.ref 21), some (.int v), some (.int k), some (.int 1), some (.int 0), o1], []) w q) : Go X d mt_126 (85, [some (.ref 21), some (.int v), some (.int k), some (.int 1), some (.int i), o1], []) w q := by
  refine Go.next (f' := (86, [some (.ref 21), some (.int v), some (.int k), some (.int 1), some (.int i), o1], [.int 0])) (w' := w) ((ex_stp (ins := .iconst 0) rfl).trans rfl) ?_
  refine Go.next (f' := (88, [some (.ref 21), some (.int v), some (.int k), some (.int 1), some (.int 0), o1], [])) (w' := w) ((ex_stp (ins := .istore 4) rfl).trans rfl) ?_
  exact kk

set_option maxRecDepth 100000 in
theorem fb_n1 {X : List Int32} {d : Nat} {g hg i k v : Int32} {w w1 : ex_W} {fs : List Value} {o1 : Option Value} {q : Option Value × ex_W} (h21 : ex_at w 21 = some (.inr (.inr (2, pln g hg)))) (h17 : ex_at w 17 = some (.inr (.inr (0, fs)))) (b1 : Int32.toInt (i) < Int32.toInt (k)) (c2 : Go X d mt_170 (ex_ent mt_170 [.ref 17]) w (none, w1))  (kk : Go X (d + 1) mt_126 (88, [some (.ref 21), some (.int v), some (.int k), some (.int 1), some (.int (i + 1)), o1], []) w1 q) : Go X (d + 1) mt_126 (88, [some (.ref 21), some (.int v), some (.int k), some (.int 1), some (.int i), o1], []) w q := by
  refine Go.next (f' := (90, [some (.ref 21), some (.int v), some (.int k), some (.int 1), some (.int i), o1], [.int i])) (w' := w) ((ex_stp (ins := .iload 4) rfl).trans rfl) ?_
  refine Go.next (f' := (91, [some (.ref 21), some (.int v), some (.int k), some (.int 1), some (.int i), o1], [.int k, .int i])) (w' := w) ((ex_stp (ins := .iload_n 2) rfl).trans rfl) ?_
  refine Go.next (f' := (94, [some (.ref 21), some (.int v), some (.int k), some (.int 1), some (.int i), o1], [])) (w' := w) ((ex_stp (ins := .if_icmp .ge 16) rfl).trans (vg_ib2f (c := .ge) (off := 16) (pc := 91) (lo := [some (.ref 21), some (.int v), some (.int k), some (.int 1), some (.int i), o1]) (r := []) (w := w) (x := i) (y := k) (kp_ge_f b1) (by decide))) ?_
  refine Go.next (f' := (95, [some (.ref 21), some (.int v), some (.int k), some (.int 1), some (.int i), o1], [.ref 21])) (w' := w) ((ex_stp (ins := .aload_n 0) rfl).trans rfl) ?_
  refine Go.next (f' := (98, [some (.ref 21), some (.int v), some (.int k), some (.int 1), some (.int i), o1], [.ref 17])) (w' := w) ((ex_stp (ins := .getfield 24) rfl).trans (vg_get (ci := 2) (k := 0) (pl := 255) (pc := 95) (lo := [some (.ref 21), some (.int v), some (.int k), some (.int 1), some (.int i), o1]) (r := []) (fs := (pln g hg)) (v := .ref 17) h21 rfl)) ?_
  refine Go.call (cal := 170) (as := [.ref 17]) (g := (101, [some (.ref 21), some (.int v), some (.int k), some (.int 1), some (.int i), o1], [])) (M' := mt_170) (r := none) (w' := w1) ((ex_stp (ins := .invokevirtual 84) rfl).trans (vg_cl0 (cal := 170) (n := 1) (rc := 0) (p1 := 753) (p2 := 754) (p3 := 755) (fs := fs) (tl := []) (pc := 98) (lo := [some (.ref 21), some (.int v), some (.int k), some (.int 1), some (.int i), o1]) (st := [.ref 17]) (Nat.le_of_ble_eq_true rfl) (Nat.le_of_ble_eq_true rfl) rfl h17)) rfl (Nat.le_of_ble_eq_true rfl) c2 ?_
  show Go _ _ _ (101, [some (.ref 21), some (.int v), some (.int k), some (.int 1), some (.int i), o1], []) _ _
  refine Go.next (f' := (104, [some (.ref 21), some (.int v), some (.int k), some (.int 1), some (.int (i + 1)), o1], [])) (w' := w1) ((ex_stp (ins := .iinc 4 1) rfl).trans rfl) ?_
  refine Go.next (f' := (88, [some (.ref 21), some (.int v), some (.int k), some (.int 1), some (.int (i + 1)), o1], [])) (w' := w1) ((ex_stp (ins := .goto (-16)) rfl).trans rfl) ?_
  exact kk

set_option maxRecDepth 100000 in
theorem fb_e1 {X : List Int32} {d : Nat} {g hg i k v : Int32} {w : ex_W} {o1 : Option Value} (h21 : ex_at w 21 = some (.inr (.inr (2, pln g hg)))) (b1 : Int32.toInt (i) ≥ Int32.toInt (k))   : Go X d mt_126 (88, [some (.ref 21), some (.int v), some (.int k), some (.int 1), some (.int i), o1], []) w (none, (ex_put w 21 (.inr (.inr (2, pln g v))))) := by
  refine Go.next (f' := (90, [some (.ref 21), some (.int v), some (.int k), some (.int 1), some (.int i), o1], [.int i])) (w' := w) ((ex_stp (ins := .iload 4) rfl).trans rfl) ?_
  refine Go.next (f' := (91, [some (.ref 21), some (.int v), some (.int k), some (.int 1), some (.int i), o1], [.int k, .int i])) (w' := w) ((ex_stp (ins := .iload_n 2) rfl).trans rfl) ?_
  refine Go.next (f' := (107, [some (.ref 21), some (.int v), some (.int k), some (.int 1), some (.int i), o1], [])) (w' := w) ((ex_stp (ins := .if_icmp .ge 16) rfl).trans (vg_ib2t (c := .ge) (off := 16) (pc := 91) (lo := [some (.ref 21), some (.int v), some (.int k), some (.int 1), some (.int i), o1]) (r := []) (w := w) (x := i) (y := k) (kp_ge_t b1) (by decide))) ?_
  refine Go.next (f' := (108, [some (.ref 21), some (.int v), some (.int k), some (.int 1), some (.int i), o1], [.ref 21])) (w' := w) ((ex_stp (ins := .aload_n 0) rfl).trans rfl) ?_
  refine Go.next (f' := (109, [some (.ref 21), some (.int v), some (.int k), some (.int 1), some (.int i), o1], [.int 1, .ref 21])) (w' := w) ((ex_stp (ins := .iload_n 3) rfl).trans rfl) ?_
  refine Go.next (f' := (112, [some (.ref 21), some (.int v), some (.int k), some (.int 1), some (.int i), o1], [.ref 21])) (w' := w) ((ex_stp (ins := .ifCond .eq 7) rfl).trans (vg_ib0f (c := .eq) (off := 7) (pc := 109) (lo := [some (.ref 21), some (.int v), some (.int k), some (.int 1), some (.int i), o1]) (r := [.ref 21]) (w := w) (x := 1) (by decide) (by decide))) ?_
  refine Go.next (f' := (113, [some (.ref 21), some (.int v), some (.int k), some (.int 1), some (.int i), o1], [.int v, .ref 21])) (w' := w) ((ex_stp (ins := .iload_n 1) rfl).trans rfl) ?_
  refine Go.next (f' := (119, [some (.ref 21), some (.int v), some (.int k), some (.int 1), some (.int i), o1], [.int v, .ref 21])) (w' := w) ((ex_stp (ins := .goto 6) rfl).trans rfl) ?_
  refine Go.next (f' := (122, [some (.ref 21), some (.int v), some (.int k), some (.int 1), some (.int i), o1], [])) (w' := (ex_put w 21 (.inr (.inr (2, pln g v))))) ((ex_stp (ins := .putfield 50) rfl).trans (vg_put (ci := 2) (k := 6) (pl := 261) (pc := 119) (lo := [some (.ref 21), some (.int v), some (.int k), some (.int 1), some (.int i), o1]) (r := []) (fs := (pln g hg)) (v := .int v) (w := w) h21 (Nat.le_of_ble_eq_true rfl) rfl rfl)) ?_
  exact Go.ret ((ex_stp (ins := .return_) rfl).trans rfl)

set_option maxRecDepth 100000 in
theorem aw_0 {X : List Int32} {d : Nat} {g hg x : Int32} {w : ex_W} (h21 : ex_at w 21 = some (.inr (.inr (2, pln g hg)))) (b1 : Int32.toInt (hg) ≥ 1000)   : Go X d mt_121 (ex_ent mt_121 [.ref 21, .int x]) w (some (.int ((Int8.ofInt (-4)).toInt32)), w) := by
  show Go _ _ _ (0, [some (.ref 21), some (.int x), none], []) _ _
  refine Go.next (f' := (1, [some (.ref 21), some (.int x), none], [.ref 21])) (w' := w) ((ex_stp (ins := .aload_n 0) rfl).trans rfl) ?_
  refine Go.next (f' := (4, [some (.ref 21), some (.int x), none], [.int hg])) (w' := w) ((ex_stp (ins := .getfield 50) rfl).trans (vg_get (ci := 2) (k := 6) (pl := 261) (pc := 1) (lo := [some (.ref 21), some (.int x), none]) (r := []) (fs := (pln g hg)) (v := .int hg) h21 rfl)) ?_
  refine Go.next (f' := (7, [some (.ref 21), some (.int x), none], [.int 1000, .int hg])) (w' := w) ((ex_stp (ins := .sipush 1000) rfl).trans rfl) ?_
  refine Go.next (f' := (10, [some (.ref 21), some (.int x), none], [])) (w' := w) ((ex_stp (ins := .if_icmp .lt 6) rfl).trans (vg_ib2f (c := .lt) (off := 6) (pc := 7) (lo := [some (.ref 21), some (.int x), none]) (r := []) (w := w) (x := hg) (y := 1000) (kn_lt_f (c := 1000) (by decide) b1) (by decide))) ?_
  refine Go.next (f' := (12, [some (.ref 21), some (.int x), none], [.int ((Int8.ofInt (-4)).toInt32)])) (w' := w) ((ex_stp (ins := .bipush (-4)) rfl).trans rfl) ?_
  exact Go.ret ((ex_stp (ins := .ireturn) rfl).trans (vg_retI rfl))

set_option maxRecDepth 100000 in
theorem aw_1 {X : List Int32} {d : Nat} {g hg : Int32} {w : ex_W} (h21 : ex_at w 21 = some (.inr (.inr (2, pln g hg)))) (b1 : Int32.toInt (hg) < 1000)   : Go X d mt_121 (ex_ent mt_121 [.ref 21, .int 0]) w (some (.int hg), w) := by
  show Go _ _ _ (0, [some (.ref 21), some (.int 0), none], []) _ _
  refine Go.next (f' := (1, [some (.ref 21), some (.int 0), none], [.ref 21])) (w' := w) ((ex_stp (ins := .aload_n 0) rfl).trans rfl) ?_
  refine Go.next (f' := (4, [some (.ref 21), some (.int 0), none], [.int hg])) (w' := w) ((ex_stp (ins := .getfield 50) rfl).trans (vg_get (ci := 2) (k := 6) (pl := 261) (pc := 1) (lo := [some (.ref 21), some (.int 0), none]) (r := []) (fs := (pln g hg)) (v := .int hg) h21 rfl)) ?_
  refine Go.next (f' := (7, [some (.ref 21), some (.int 0), none], [.int 1000, .int hg])) (w' := w) ((ex_stp (ins := .sipush 1000) rfl).trans rfl) ?_
  refine Go.next (f' := (13, [some (.ref 21), some (.int 0), none], [])) (w' := w) ((ex_stp (ins := .if_icmp .lt 6) rfl).trans (vg_ib2t (c := .lt) (off := 6) (pc := 7) (lo := [some (.ref 21), some (.int 0), none]) (r := []) (w := w) (x := hg) (y := 1000) (kn_lt_t (c := 1000) (by decide) b1) (by decide))) ?_
  refine Go.next (f' := (14, [some (.ref 21), some (.int 0), none], [.int 0])) (w' := w) ((ex_stp (ins := .iload_n 1) rfl).trans rfl) ?_
  refine Go.next (f' := (17, [some (.ref 21), some (.int 0), none], [])) (w' := w) ((ex_stp (ins := .ifCond .ne 8) rfl).trans (vg_ib0f (c := .ne) (off := 8) (pc := 14) (lo := [some (.ref 21), some (.int 0), none]) (r := []) (w := w) (x := 0) (by decide) (by decide))) ?_
  refine Go.next (f' := (18, [some (.ref 21), some (.int 0), none], [.ref 21])) (w' := w) ((ex_stp (ins := .aload_n 0) rfl).trans rfl) ?_
  refine Go.next (f' := (21, [some (.ref 21), some (.int 0), none], [.int hg])) (w' := w) ((ex_stp (ins := .getfield 50) rfl).trans (vg_get (ci := 2) (k := 6) (pl := 261) (pc := 18) (lo := [some (.ref 21), some (.int 0), none]) (r := []) (fs := (pln g hg)) (v := .int hg) h21 rfl)) ?_
  exact Go.ret ((ex_stp (ins := .ireturn) rfl).trans (vg_retI rfl))

set_option maxRecDepth 100000 in
theorem aw_2 {X : List Int32} {d : Nat} {g hg x : Int32} {w : ex_W} (h21 : ex_at w 21 = some (.inr (.inr (2, pln g hg)))) (b1 : Int32.toInt (hg) < 1000) (b2 : ¬ Int32.toInt (x) = 0) (b3 : Int32.toInt (x - 10) ≥ 0) (b4 : Int32.toInt ((x - 10)) ≥ Int32.toInt (g))   : Go X d mt_121 (ex_ent mt_121 [.ref 21, .int x]) w (some (.int ((Int8.ofInt (-4)).toInt32)), w) := by
  show Go _ _ _ (0, [some (.ref 21), some (.int x), none], []) _ _
  refine Go.next (f' := (1, [some (.ref 21), some (.int x), none], [.ref 21])) (w' := w) ((ex_stp (ins := .aload_n 0) rfl).trans rfl) ?_
  refine Go.next (f' := (4, [some (.ref 21), some (.int x), none], [.int hg])) (w' := w) ((ex_stp (ins := .getfield 50) rfl).trans (vg_get (ci := 2) (k := 6) (pl := 261) (pc := 1) (lo := [some (.ref 21), some (.int x), none]) (r := []) (fs := (pln g hg)) (v := .int hg) h21 rfl)) ?_
  refine Go.next (f' := (7, [some (.ref 21), some (.int x), none], [.int 1000, .int hg])) (w' := w) ((ex_stp (ins := .sipush 1000) rfl).trans rfl) ?_
  refine Go.next (f' := (13, [some (.ref 21), some (.int x), none], [])) (w' := w) ((ex_stp (ins := .if_icmp .lt 6) rfl).trans (vg_ib2t (c := .lt) (off := 6) (pc := 7) (lo := [some (.ref 21), some (.int x), none]) (r := []) (w := w) (x := hg) (y := 1000) (kn_lt_t (c := 1000) (by decide) b1) (by decide))) ?_
  refine Go.next (f' := (14, [some (.ref 21), some (.int x), none], [.int x])) (w' := w) ((ex_stp (ins := .iload_n 1) rfl).trans rfl) ?_
  refine Go.next (f' := (22, [some (.ref 21), some (.int x), none], [])) (w' := w) ((ex_stp (ins := .ifCond .ne 8) rfl).trans (vg_ib0t (c := .ne) (off := 8) (pc := 14) (lo := [some (.ref 21), some (.int x), none]) (r := []) (w := w) (x := x) (kq_ne_t b2) (by decide))) ?_
  refine Go.next (f' := (23, [some (.ref 21), some (.int x), none], [.int x])) (w' := w) ((ex_stp (ins := .iload_n 1) rfl).trans rfl) ?_
  refine Go.next (f' := (25, [some (.ref 21), some (.int x), none], [.int 10, .int x])) (w' := w) ((ex_stp (ins := .bipush 10) rfl).trans rfl) ?_
  refine Go.next (f' := (26, [some (.ref 21), some (.int x), none], [.int (x - 10)])) (w' := w) ((ex_stp (ins := .isub) rfl).trans rfl) ?_
  refine Go.next (f' := (27, [some (.ref 21), some (.int x), some (.int (x - 10))], [])) (w' := w) ((ex_stp (ins := .istore_n 2) rfl).trans rfl) ?_
  refine Go.next (f' := (28, [some (.ref 21), some (.int x), some (.int (x - 10))], [.int (x - 10)])) (w' := w) ((ex_stp (ins := .iload_n 2) rfl).trans rfl) ?_
  refine Go.next (f' := (31, [some (.ref 21), some (.int x), some (.int (x - 10))], [])) (w' := w) ((ex_stp (ins := .ifCond .lt 20) rfl).trans (vg_ib0f (c := .lt) (off := 20) (pc := 28) (lo := [some (.ref 21), some (.int x), some (.int (x - 10))]) (r := []) (w := w) (x := (x - 10)) (kq_lt_f b3) (by decide))) ?_
  refine Go.next (f' := (32, [some (.ref 21), some (.int x), some (.int (x - 10))], [.int (x - 10)])) (w' := w) ((ex_stp (ins := .iload_n 2) rfl).trans rfl) ?_
  refine Go.next (f' := (33, [some (.ref 21), some (.int x), some (.int (x - 10))], [.ref 21, .int (x - 10)])) (w' := w) ((ex_stp (ins := .aload_n 0) rfl).trans rfl) ?_
  refine Go.next (f' := (36, [some (.ref 21), some (.int x), some (.int (x - 10))], [.int g, .int (x - 10)])) (w' := w) ((ex_stp (ins := .getfield 40) rfl).trans (vg_get (ci := 2) (k := 5) (pl := 260) (pc := 33) (lo := [some (.ref 21), some (.int x), some (.int (x - 10))]) (r := [.int (x - 10)]) (fs := (pln g hg)) (v := .int g) h21 rfl)) ?_
  refine Go.next (f' := (48, [some (.ref 21), some (.int x), some (.int (x - 10))], [])) (w' := w) ((ex_stp (ins := .if_icmp .ge 12) rfl).trans (vg_ib2t (c := .ge) (off := 12) (pc := 36) (lo := [some (.ref 21), some (.int x), some (.int (x - 10))]) (r := []) (w := w) (x := (x - 10)) (y := g) (kp_ge_t b4) (by decide))) ?_
  refine Go.next (f' := (50, [some (.ref 21), some (.int x), some (.int (x - 10))], [.int ((Int8.ofInt (-4)).toInt32)])) (w' := w) ((ex_stp (ins := .bipush (-4)) rfl).trans rfl) ?_
  exact Go.ret ((ex_stp (ins := .ireturn) rfl).trans (vg_retI rfl))

set_option maxRecDepth 100000 in
theorem aw_3 {X : List Int32} {d : Nat} {g hg x : Int32} {LB : List Int32} {w : ex_W} (h21 : ex_at w 21 = some (.inr (.inr (2, pln g hg)))) (h25 : ex_at w 25 = some (.inl (.int, LB))) (b1 : Int32.toInt (hg) < 1000) (b2 : ¬ Int32.toInt (x) = 0) (b3 : Int32.toInt (x - 10) ≥ 0) (b4 : Int32.toInt ((x - 10)) < Int32.toInt (g)) (i5 : ex_ix (x - 10) LB.length = true)   : Go X d mt_121 (ex_ent mt_121 [.ref 21, .int x]) w (some (.int (ex_gd LB (Int32.toNatClampNeg ((x - 10))))), w) := by
  show Go _ _ _ (0, [some (.ref 21), some (.int x), none], []) _ _
  refine Go.next (f' := (1, [some (.ref 21), some (.int x), none], [.ref 21])) (w' := w) ((ex_stp (ins := .aload_n 0) rfl).trans rfl) ?_
  refine Go.next (f' := (4, [some (.ref 21), some (.int x), none], [.int hg])) (w' := w) ((ex_stp (ins := .getfield 50) rfl).trans (vg_get (ci := 2) (k := 6) (pl := 261) (pc := 1) (lo := [some (.ref 21), some (.int x), none]) (r := []) (fs := (pln g hg)) (v := .int hg) h21 rfl)) ?_
  refine Go.next (f' := (7, [some (.ref 21), some (.int x), none], [.int 1000, .int hg])) (w' := w) ((ex_stp (ins := .sipush 1000) rfl).trans rfl) ?_
  refine Go.next (f' := (13, [some (.ref 21), some (.int x), none], [])) (w' := w) ((ex_stp (ins := .if_icmp .lt 6) rfl).trans (vg_ib2t (c := .lt) (off := 6) (pc := 7) (lo := [some (.ref 21), some (.int x), none]) (r := []) (w := w) (x := hg) (y := 1000) (kn_lt_t (c := 1000) (by decide) b1) (by decide))) ?_
  refine Go.next (f' := (14, [some (.ref 21), some (.int x), none], [.int x])) (w' := w) ((ex_stp (ins := .iload_n 1) rfl).trans rfl) ?_
  refine Go.next (f' := (22, [some (.ref 21), some (.int x), none], [])) (w' := w) ((ex_stp (ins := .ifCond .ne 8) rfl).trans (vg_ib0t (c := .ne) (off := 8) (pc := 14) (lo := [some (.ref 21), some (.int x), none]) (r := []) (w := w) (x := x) (kq_ne_t b2) (by decide))) ?_
  refine Go.next (f' := (23, [some (.ref 21), some (.int x), none], [.int x])) (w' := w) ((ex_stp (ins := .iload_n 1) rfl).trans rfl) ?_
  refine Go.next (f' := (25, [some (.ref 21), some (.int x), none], [.int 10, .int x])) (w' := w) ((ex_stp (ins := .bipush 10) rfl).trans rfl) ?_
  refine Go.next (f' := (26, [some (.ref 21), some (.int x), none], [.int (x - 10)])) (w' := w) ((ex_stp (ins := .isub) rfl).trans rfl) ?_
  refine Go.next (f' := (27, [some (.ref 21), some (.int x), some (.int (x - 10))], [])) (w' := w) ((ex_stp (ins := .istore_n 2) rfl).trans rfl) ?_
  refine Go.next (f' := (28, [some (.ref 21), some (.int x), some (.int (x - 10))], [.int (x - 10)])) (w' := w) ((ex_stp (ins := .iload_n 2) rfl).trans rfl) ?_
  refine Go.next (f' := (31, [some (.ref 21), some (.int x), some (.int (x - 10))], [])) (w' := w) ((ex_stp (ins := .ifCond .lt 20) rfl).trans (vg_ib0f (c := .lt) (off := 20) (pc := 28) (lo := [some (.ref 21), some (.int x), some (.int (x - 10))]) (r := []) (w := w) (x := (x - 10)) (kq_lt_f b3) (by decide))) ?_
  refine Go.next (f' := (32, [some (.ref 21), some (.int x), some (.int (x - 10))], [.int (x - 10)])) (w' := w) ((ex_stp (ins := .iload_n 2) rfl).trans rfl) ?_
  refine Go.next (f' := (33, [some (.ref 21), some (.int x), some (.int (x - 10))], [.ref 21, .int (x - 10)])) (w' := w) ((ex_stp (ins := .aload_n 0) rfl).trans rfl) ?_
  refine Go.next (f' := (36, [some (.ref 21), some (.int x), some (.int (x - 10))], [.int g, .int (x - 10)])) (w' := w) ((ex_stp (ins := .getfield 40) rfl).trans (vg_get (ci := 2) (k := 5) (pl := 260) (pc := 33) (lo := [some (.ref 21), some (.int x), some (.int (x - 10))]) (r := [.int (x - 10)]) (fs := (pln g hg)) (v := .int g) h21 rfl)) ?_
  refine Go.next (f' := (39, [some (.ref 21), some (.int x), some (.int (x - 10))], [])) (w' := w) ((ex_stp (ins := .if_icmp .ge 12) rfl).trans (vg_ib2f (c := .ge) (off := 12) (pc := 36) (lo := [some (.ref 21), some (.int x), some (.int (x - 10))]) (r := []) (w := w) (x := (x - 10)) (y := g) (kp_ge_f b4) (by decide))) ?_
  refine Go.next (f' := (40, [some (.ref 21), some (.int x), some (.int (x - 10))], [.ref 21])) (w' := w) ((ex_stp (ins := .aload_n 0) rfl).trans rfl) ?_
  refine Go.next (f' := (43, [some (.ref 21), some (.int x), some (.int (x - 10))], [.ref 25])) (w' := w) ((ex_stp (ins := .getfield 21) rfl).trans (vg_get (ci := 2) (k := 4) (pl := 259) (pc := 40) (lo := [some (.ref 21), some (.int x), some (.int (x - 10))]) (r := []) (fs := (pln g hg)) (v := .ref 25) h21 rfl)) ?_
  refine Go.next (f' := (44, [some (.ref 21), some (.int x), some (.int (x - 10))], [.int (x - 10), .ref 25])) (w' := w) ((ex_stp (ins := .iload_n 2) rfl).trans rfl) ?_
  refine Go.next (f' := (45, [some (.ref 21), some (.int x), some (.int (x - 10))], [.int (ex_gd LB (Int32.toNatClampNeg ((x - 10))))])) (w' := w) ((ex_stp (ins := .iaload) rfl).trans (vg_ald (by_ := false) (isL := false) (X := X) (pc := 44) (lo := [some (.ref 21), some (.int x), some (.int (x - 10))]) (r := []) (i := (x - 10)) (l := LB) h25 rfl i5)) ?_
  refine Go.next (f' := (50, [some (.ref 21), some (.int x), some (.int (x - 10))], [.int (ex_gd LB (Int32.toNatClampNeg ((x - 10))))])) (w' := w) ((ex_stp (ins := .goto 5) rfl).trans rfl) ?_
  exact Go.ret ((ex_stp (ins := .ireturn) rfl).trans (vg_retI rfl))

set_option maxRecDepth 100000 in
theorem br_0 {X : List Int32} {d : Nat} {x : Int32} {w : ex_W} (c1 : Go X d mt_118 (ex_ent mt_118 [.int x]) w (some (.int 0), w))   : Go X (d + 1) mt_51 (ex_ent mt_51 [.ref 0, .int x]) w (some (.int (Int32.ofInt (-1))), w) := by
  show Go _ _ _ (0, [some (.ref 0), some (.int x)], []) _ _
  refine Go.next (f' := (1, [some (.ref 0), some (.int x)], [.int x])) (w' := w) ((ex_stp (ins := .iload_n 1) rfl).trans rfl) ?_
  refine Go.call (cal := 118) (as := [.int x]) (g := (4, [some (.ref 0), some (.int x)], [])) (M' := mt_118) (r := some (.int 0)) (w' := w) ((ex_stp (ins := .invokestatic 173) rfl).trans (vg_cl1 (cal := 118) (n := 1) (rc := 0) (p1 := 722) (p2 := 723) (p3 := 67) (pc := 1) (lo := [some (.ref 0), some (.int x)]) (st := [.int x]) (w := w) (Nat.le_of_ble_eq_true rfl) (Nat.le_of_ble_eq_true rfl))) rfl (Nat.le_of_ble_eq_true rfl) c1 ?_
  show Go _ _ _ (4, [some (.ref 0), some (.int x)], [.int 0]) _ _
  refine Go.next (f' := (7, [some (.ref 0), some (.int x)], [])) (w' := w) ((ex_stp (ins := .ifCond .ne 5) rfl).trans (vg_ib0f (c := .ne) (off := 5) (pc := 4) (lo := [some (.ref 0), some (.int x)]) (r := []) (w := w) (x := 0) (by decide) (by decide))) ?_
  refine Go.next (f' := (8, [some (.ref 0), some (.int x)], [.int (Int32.ofInt (-1))])) (w' := w) ((ex_stp (ins := .iconst (-1)) rfl).trans rfl) ?_
  exact Go.ret ((ex_stp (ins := .ireturn) rfl).trans (vg_retI rfl))

set_option maxRecDepth 100000 in
theorem br_1 {X : List Int32} {d : Nat} {t : Nat} {x v : Int32} {w w1 w2 w3 : ex_W} {gs fs fs2 fs3 fs4 : List Value} (h0 : ex_at w 0 = some (.inr (.inr (7, gs)))) (f0_1 : ex_at gs 1 = some (.ref 17)) (f0_2 : ex_at gs 2 = some (.ref 21)) (f0_9 : ex_at gs 9 = some (.ref t)) (h17 : ex_at w 17 = some (.inr (.inr (0, fs)))) (h21 : ex_at w 21 = some (.inr (.inr (2, fs2)))) (c1 : Go X d mt_118 (ex_ent mt_118 [.int x]) w (some (.int 1), w)) (c2 : Go X d mt_103 (ex_ent mt_103 [.ref 17, .ref t, .int 0]) w (none, w1)) (h0_1 : ex_at w1 0 = some (.inr (.inr (7, gs)))) (f0_1_1 : ex_at gs 1 = some (.ref 17)) (f0_2_1 : ex_at gs 2 = some (.ref 21)) (f0_9_1 : ex_at gs 9 = some (.ref t)) (h21_1 : ex_at w1 21 = some (.inr (.inr (2, fs2)))) (c3 : Go X d mt_119 (ex_ent mt_119 [.ref 21, .ref t]) w1 (none, w2)) (h0_2 : ex_at w2 0 = some (.inr (.inr (7, gs)))) (f0_1_2 : ex_at gs 1 = some (.ref 17)) (f0_2_2 : ex_at gs 2 = some (.ref 21)) (f0_9_2 : ex_at gs 9 = some (.ref t)) (h21_2 : ex_at w2 21 = some (.inr (.inr (2, fs3)))) (c4 : Go X d mt_126 (ex_ent mt_126 [.ref 21]) w2 (none, w3)) (h0_3 : ex_at w3 0 = some (.inr (.inr (7, gs)))) (f0_1_3 : ex_at gs 1 = some (.ref 17)) (f0_2_3 : ex_at gs 2 = some (.ref 21)) (f0_9_3 : ex_at gs 9 = some (.ref t)) (h21_3 : ex_at w3 21 = some (.inr (.inr (2, fs4)))) (c5 : Go X d mt_121 (ex_ent mt_121 [.ref 21, .int x]) w3 (some (.int v), w3))   : Go X (d + 1) mt_51 (ex_ent mt_51 [.ref 0, .int x]) w (some (.int v), w3) := by
  show Go _ _ _ (0, [some (.ref 0), some (.int x)], []) _ _
  refine Go.next (f' := (1, [some (.ref 0), some (.int x)], [.int x])) (w' := w) ((ex_stp (ins := .iload_n 1) rfl).trans rfl) ?_
  refine Go.call (cal := 118) (as := [.int x]) (g := (4, [some (.ref 0), some (.int x)], [])) (M' := mt_118) (r := some (.int 1)) (w' := w) ((ex_stp (ins := .invokestatic 173) rfl).trans (vg_cl1 (cal := 118) (n := 1) (rc := 0) (p1 := 722) (p2 := 723) (p3 := 67) (pc := 1) (lo := [some (.ref 0), some (.int x)]) (st := [.int x]) (w := w) (Nat.le_of_ble_eq_true rfl) (Nat.le_of_ble_eq_true rfl))) rfl (Nat.le_of_ble_eq_true rfl) c1 ?_
  show Go _ _ _ (4, [some (.ref 0), some (.int x)], [.int 1]) _ _
  refine Go.next (f' := (9, [some (.ref 0), some (.int x)], [])) (w' := w) ((ex_stp (ins := .ifCond .ne 5) rfl).trans (vg_ib0t (c := .ne) (off := 5) (pc := 4) (lo := [some (.ref 0), some (.int x)]) (r := []) (w := w) (x := 1) (by decide) (by decide))) ?_
  refine Go.next (f' := (10, [some (.ref 0), some (.int x)], [.ref 0])) (w' := w) ((ex_stp (ins := .aload_n 0) rfl).trans rfl) ?_
  refine Go.next (f' := (13, [some (.ref 0), some (.int x)], [.ref 17])) (w' := w) ((ex_stp (ins := .getfield 31) rfl).trans (vg_get (ci := 7) (k := 1) (pl := 354) (pc := 10) (lo := [some (.ref 0), some (.int x)]) (r := []) (fs := gs) (v := .ref 17) h0 f0_1)) ?_
  refine Go.next (f' := (14, [some (.ref 0), some (.int x)], [.ref 0, .ref 17])) (w' := w) ((ex_stp (ins := .aload_n 0) rfl).trans rfl) ?_
  refine Go.next (f' := (17, [some (.ref 0), some (.int x)], [.ref t, .ref 17])) (w' := w) ((ex_stp (ins := .getfield 10) rfl).trans (vg_get (ci := 7) (k := 9) (pl := 362) (pc := 14) (lo := [some (.ref 0), some (.int x)]) (r := [.ref 17]) (fs := gs) (v := .ref t) h0 f0_9)) ?_
  refine Go.next (f' := (18, [some (.ref 0), some (.int x)], [.int 0, .ref t, .ref 17])) (w' := w) ((ex_stp (ins := .iconst 0) rfl).trans rfl) ?_
  refine Go.call (cal := 103) (as := [.ref 17, .ref t, .int 0]) (g := (21, [some (.ref 0), some (.int x)], [])) (M' := mt_103) (r := none) (w' := w1) ((ex_stp (ins := .invokevirtual 138) rfl).trans (vg_cl0 (cal := 103) (n := 3) (rc := 0) (p1 := 633) (p2 := 634) (p3 := 635) (fs := fs) (tl := [.ref t, .int 0]) (pc := 18) (lo := [some (.ref 0), some (.int x)]) (st := [.int 0, .ref t, .ref 17]) (Nat.le_of_ble_eq_true rfl) (Nat.le_of_ble_eq_true rfl) rfl h17)) rfl (Nat.le_of_ble_eq_true rfl) c2 ?_
  show Go _ _ _ (21, [some (.ref 0), some (.int x)], []) _ _
  refine Go.next (f' := (22, [some (.ref 0), some (.int x)], [.ref 0])) (w' := w1) ((ex_stp (ins := .aload_n 0) rfl).trans rfl) ?_
  refine Go.next (f' := (25, [some (.ref 0), some (.int x)], [.ref 21])) (w' := w1) ((ex_stp (ins := .getfield 40) rfl).trans (vg_get (ci := 7) (k := 2) (pl := 355) (pc := 22) (lo := [some (.ref 0), some (.int x)]) (r := []) (fs := gs) (v := .ref 21) h0_1 f0_2_1)) ?_
  refine Go.next (f' := (26, [some (.ref 0), some (.int x)], [.ref 0, .ref 21])) (w' := w1) ((ex_stp (ins := .aload_n 0) rfl).trans rfl) ?_
  refine Go.next (f' := (29, [some (.ref 0), some (.int x)], [.ref t, .ref 21])) (w' := w1) ((ex_stp (ins := .getfield 10) rfl).trans (vg_get (ci := 7) (k := 9) (pl := 362) (pc := 26) (lo := [some (.ref 0), some (.int x)]) (r := [.ref 21]) (fs := gs) (v := .ref t) h0_1 f0_9_1)) ?_
  refine Go.call (cal := 119) (as := [.ref 21, .ref t]) (g := (32, [some (.ref 0), some (.int x)], [])) (M' := mt_119) (r := none) (w' := w2) ((ex_stp (ins := .invokevirtual 176) rfl).trans (vg_cl0 (cal := 119) (n := 2) (rc := 2) (p1 := 725) (p2 := 726) (p3 := 727) (fs := fs2) (tl := [.ref t]) (pc := 29) (lo := [some (.ref 0), some (.int x)]) (st := [.ref t, .ref 21]) (Nat.le_of_ble_eq_true rfl) (Nat.le_of_ble_eq_true rfl) rfl h21_1)) rfl (Nat.le_of_ble_eq_true rfl) c3 ?_
  show Go _ _ _ (32, [some (.ref 0), some (.int x)], []) _ _
  refine Go.next (f' := (33, [some (.ref 0), some (.int x)], [.ref 0])) (w' := w2) ((ex_stp (ins := .aload_n 0) rfl).trans rfl) ?_
  refine Go.next (f' := (36, [some (.ref 0), some (.int x)], [.ref 21])) (w' := w2) ((ex_stp (ins := .getfield 40) rfl).trans (vg_get (ci := 7) (k := 2) (pl := 355) (pc := 33) (lo := [some (.ref 0), some (.int x)]) (r := []) (fs := gs) (v := .ref 21) h0_2 f0_2_2)) ?_
  refine Go.call (cal := 126) (as := [.ref 21]) (g := (39, [some (.ref 0), some (.int x)], [])) (M' := mt_126) (r := none) (w' := w3) ((ex_stp (ins := .invokevirtual 185) rfl).trans (vg_cl0 (cal := 126) (n := 1) (rc := 2) (p1 := 765) (p2 := 766) (p3 := 767) (fs := fs3) (tl := []) (pc := 36) (lo := [some (.ref 0), some (.int x)]) (st := [.ref 21]) (Nat.le_of_ble_eq_true rfl) (Nat.le_of_ble_eq_true rfl) rfl h21_2)) rfl (Nat.le_of_ble_eq_true rfl) c4 ?_
  show Go _ _ _ (39, [some (.ref 0), some (.int x)], []) _ _
  refine Go.next (f' := (40, [some (.ref 0), some (.int x)], [.ref 0])) (w' := w3) ((ex_stp (ins := .aload_n 0) rfl).trans rfl) ?_
  refine Go.next (f' := (43, [some (.ref 0), some (.int x)], [.ref 21])) (w' := w3) ((ex_stp (ins := .getfield 40) rfl).trans (vg_get (ci := 7) (k := 2) (pl := 355) (pc := 40) (lo := [some (.ref 0), some (.int x)]) (r := []) (fs := gs) (v := .ref 21) h0_3 f0_2_3)) ?_
  refine Go.next (f' := (44, [some (.ref 0), some (.int x)], [.int x, .ref 21])) (w' := w3) ((ex_stp (ins := .iload_n 1) rfl).trans rfl) ?_
  refine Go.call (cal := 121) (as := [.ref 21, .int x]) (g := (47, [some (.ref 0), some (.int x)], [])) (M' := mt_121) (r := some (.int v)) (w' := w3) ((ex_stp (ins := .invokevirtual 182) rfl).trans (vg_cl0 (cal := 121) (n := 2) (rc := 2) (p1 := 757) (p2 := 758) (p3 := 759) (fs := fs4) (tl := [.int x]) (pc := 44) (lo := [some (.ref 0), some (.int x)]) (st := [.int x, .ref 21]) (Nat.le_of_ble_eq_true rfl) (Nat.le_of_ble_eq_true rfl) rfl h21_3)) rfl (Nat.le_of_ble_eq_true rfl) c5 ?_
  show Go _ _ _ (47, [some (.ref 0), some (.int x)], [.int v]) _ _
  exact Go.ret ((ex_stp (ins := .ireturn) rfl).trans (vg_retI rfl))

set_option maxRecDepth 100000 in
theorem ip_0 {X : List Int32} {d : Nat} {w : ex_W}    : Go X d mt_122 (ex_ent mt_122 [.int 0]) w (some (.int 1), w) := by
  show Go _ _ _ (0, [some (.int 0)], []) _ _
  refine Go.next (f' := (1, [some (.int 0)], [.int 0])) (w' := w) ((ex_stp (ins := .iload_n 0) rfl).trans rfl) ?_
  refine Go.next (f' := (18, [some (.int 0)], [])) (w' := w) ((ex_stp (ins := .ifCond .eq 17) rfl).trans (vg_ib0t (c := .eq) (off := 17) (pc := 1) (lo := [some (.int 0)]) (r := []) (w := w) (x := 0) (by decide) (by decide))) ?_
  refine Go.next (f' := (19, [some (.int 0)], [.int 1])) (w' := w) ((ex_stp (ins := .iconst 1) rfl).trans rfl) ?_
  refine Go.next (f' := (23, [some (.int 0)], [.int 1])) (w' := w) ((ex_stp (ins := .goto 4) rfl).trans rfl) ?_
  exact Go.ret ((ex_stp (ins := .ireturn) rfl).trans (vg_retZ rfl (by decide)))

set_option maxRecDepth 100000 in
theorem ip_1 {X : List Int32} {d : Nat} {x : Int32} {w : ex_W} (b1 : ¬ Int32.toInt (x) = 0) (c2 : Go X d mt_93 (ex_ent mt_93 [.long (Int32.toInt64 (x)), .long 10, .long 14]) w (some (.int 1), w))   : Go X (d + 1) mt_122 (ex_ent mt_122 [.int x]) w (some (.int 1), w) := by
  show Go _ _ _ (0, [some (.int x)], []) _ _
  refine Go.next (f' := (1, [some (.int x)], [.int x])) (w' := w) ((ex_stp (ins := .iload_n 0) rfl).trans rfl) ?_
  refine Go.next (f' := (4, [some (.int x)], [])) (w' := w) ((ex_stp (ins := .ifCond .eq 17) rfl).trans (vg_ib0f (c := .eq) (off := 17) (pc := 1) (lo := [some (.int x)]) (r := []) (w := w) (x := x) (kq_eq_f b1) (by decide))) ?_
  refine Go.next (f' := (5, [some (.int x)], [.int x])) (w' := w) ((ex_stp (ins := .iload_n 0) rfl).trans rfl) ?_
  refine Go.next (f' := (6, [some (.int x)], [.long (Int32.toInt64 (x))])) (w' := w) ((ex_stp (ins := .i2l) rfl).trans rfl) ?_
  refine Go.next (f' := (9, [some (.int x)], [.long 10, .long (Int32.toInt64 (x))])) (w' := w) ((ex_stp (ins := .ldc2_w 231) rfl).trans rfl) ?_
  refine Go.next (f' := (12, [some (.int x)], [.long 14, .long 10, .long (Int32.toInt64 (x))])) (w' := w) ((ex_stp (ins := .ldc2_w 233) rfl).trans rfl) ?_
  refine Go.call (cal := 93) (as := [.long (Int32.toInt64 (x)), .long 10, .long 14]) (g := (15, [some (.int x)], [])) (M' := mt_93) (r := some (.int 1)) (w' := w) ((ex_stp (ins := .invokestatic 95) rfl).trans (vg_cl1 (cal := 93) (n := 3) (rc := 0) (p1 := 1088) (p2 := 1089) (p3 := 76) (pc := 12) (lo := [some (.int x)]) (st := [.long 14, .long 10, .long (Int32.toInt64 (x))]) (w := w) (Nat.le_of_ble_eq_true rfl) (Nat.le_of_ble_eq_true rfl))) rfl (Nat.le_of_ble_eq_true rfl) c2 ?_
  show Go _ _ _ (15, [some (.int x)], [.int 1]) _ _
  refine Go.next (f' := (18, [some (.int x)], [])) (w' := w) ((ex_stp (ins := .ifCond .eq 7) rfl).trans (vg_ib0f (c := .eq) (off := 7) (pc := 15) (lo := [some (.int x)]) (r := []) (w := w) (x := 1) (by decide) (by decide))) ?_
  refine Go.next (f' := (19, [some (.int x)], [.int 1])) (w' := w) ((ex_stp (ins := .iconst 1) rfl).trans rfl) ?_
  refine Go.next (f' := (23, [some (.int x)], [.int 1])) (w' := w) ((ex_stp (ins := .goto 4) rfl).trans rfl) ?_
  exact Go.ret ((ex_stp (ins := .ireturn) rfl).trans (vg_retZ rfl (by decide)))

set_option maxRecDepth 100000 in
theorem ip_2 {X : List Int32} {d : Nat} {x : Int32} {w : ex_W} (b1 : ¬ Int32.toInt (x) = 0) (c2 : Go X d mt_93 (ex_ent mt_93 [.long (Int32.toInt64 (x)), .long 10, .long 14]) w (some (.int 0), w))   : Go X (d + 1) mt_122 (ex_ent mt_122 [.int x]) w (some (.int 0), w) := by
  show Go _ _ _ (0, [some (.int x)], []) _ _
  refine Go.next (f' := (1, [some (.int x)], [.int x])) (w' := w) ((ex_stp (ins := .iload_n 0) rfl).trans rfl) ?_
  refine Go.next (f' := (4, [some (.int x)], [])) (w' := w) ((ex_stp (ins := .ifCond .eq 17) rfl).trans (vg_ib0f (c := .eq) (off := 17) (pc := 1) (lo := [some (.int x)]) (r := []) (w := w) (x := x) (kq_eq_f b1) (by decide))) ?_
  refine Go.next (f' := (5, [some (.int x)], [.int x])) (w' := w) ((ex_stp (ins := .iload_n 0) rfl).trans rfl) ?_
  refine Go.next (f' := (6, [some (.int x)], [.long (Int32.toInt64 (x))])) (w' := w) ((ex_stp (ins := .i2l) rfl).trans rfl) ?_
  refine Go.next (f' := (9, [some (.int x)], [.long 10, .long (Int32.toInt64 (x))])) (w' := w) ((ex_stp (ins := .ldc2_w 231) rfl).trans rfl) ?_
  refine Go.next (f' := (12, [some (.int x)], [.long 14, .long 10, .long (Int32.toInt64 (x))])) (w' := w) ((ex_stp (ins := .ldc2_w 233) rfl).trans rfl) ?_
  refine Go.call (cal := 93) (as := [.long (Int32.toInt64 (x)), .long 10, .long 14]) (g := (15, [some (.int x)], [])) (M' := mt_93) (r := some (.int 0)) (w' := w) ((ex_stp (ins := .invokestatic 95) rfl).trans (vg_cl1 (cal := 93) (n := 3) (rc := 0) (p1 := 1088) (p2 := 1089) (p3 := 76) (pc := 12) (lo := [some (.int x)]) (st := [.long 14, .long 10, .long (Int32.toInt64 (x))]) (w := w) (Nat.le_of_ble_eq_true rfl) (Nat.le_of_ble_eq_true rfl))) rfl (Nat.le_of_ble_eq_true rfl) c2 ?_
  show Go _ _ _ (15, [some (.int x)], [.int 0]) _ _
  refine Go.next (f' := (22, [some (.int x)], [])) (w' := w) ((ex_stp (ins := .ifCond .eq 7) rfl).trans (vg_ib0t (c := .eq) (off := 7) (pc := 15) (lo := [some (.int x)]) (r := []) (w := w) (x := 0) (by decide) (by decide))) ?_
  refine Go.next (f' := (23, [some (.int x)], [.int 0])) (w' := w) ((ex_stp (ins := .iconst 0) rfl).trans rfl) ?_
  exact Go.ret ((ex_stp (ins := .ireturn) rfl).trans (vg_retZ rfl (by decide)))

set_option maxRecDepth 100000 in
theorem wn_0 {X : List Int32} {d : Nat} {w : ex_W} {q : Option Value × ex_W}   (kk : Go X d mt_123 (2, [some (.ref 59), some (.int 0)], []) w q) : Go X d mt_123 (ex_ent mt_123 [.ref 59]) w q := by
  show Go _ _ _ (0, [some (.ref 59), none], []) _ _
  refine Go.next (f' := (1, [some (.ref 59), none], [.int 0])) (w' := w) ((ex_stp (ins := .iconst 0) rfl).trans rfl) ?_
  refine Go.next (f' := (2, [some (.ref 59), some (.int 0)], [])) (w' := w) ((ex_stp (ins := .istore_n 1) rfl).trans rfl) ?_
  exact kk

set_option maxRecDepth 100000 in
theorem wn_x {X : List Int32} {d : Nat} {i : Int32} {ST : List Int32} {w : ex_W} {fs : List Value} (h59 : ex_at w 59 = some (.inr (.inr (8, fs)))) (f59_0 : ex_at fs 0 = some (.ref 60)) (h60 : ex_at w 60 = some (.inl (.int, ST))) (i1 : ex_ix 81 ST.length = true) (b2 : Int32.toInt (i) ≥ Int32.toInt ((ex_gd ST (Int32.toNatClampNeg (81)))))   : Go X d mt_123 (2, [some (.ref 59), some (.int i)], []) w (none, w) := by
  refine Go.next (f' := (3, [some (.ref 59), some (.int i)], [.int i])) (w' := w) ((ex_stp (ins := .iload_n 1) rfl).trans rfl) ?_
  refine Go.next (f' := (4, [some (.ref 59), some (.int i)], [.ref 59, .int i])) (w' := w) ((ex_stp (ins := .aload_n 0) rfl).trans rfl) ?_
  refine Go.next (f' := (7, [some (.ref 59), some (.int i)], [.ref 60, .int i])) (w' := w) ((ex_stp (ins := .getfield 7) rfl).trans (vg_get (ci := 8) (k := 0) (pl := 976) (pc := 4) (lo := [some (.ref 59), some (.int i)]) (r := [.int i]) (fs := fs) (v := .ref 60) h59 f59_0)) ?_
  refine Go.next (f' := (9, [some (.ref 59), some (.int i)], [.int 81, .ref 60, .int i])) (w' := w) ((ex_stp (ins := .bipush 81) rfl).trans rfl) ?_
  refine Go.next (f' := (10, [some (.ref 59), some (.int i)], [.int (ex_gd ST (Int32.toNatClampNeg (81))), .int i])) (w' := w) ((ex_stp (ins := .iaload) rfl).trans (vg_ald (by_ := false) (isL := false) (X := X) (pc := 9) (lo := [some (.ref 59), some (.int i)]) (r := [.int i]) (i := 81) (l := ST) h60 rfl i1)) ?_
  refine Go.next (f' := (34, [some (.ref 59), some (.int i)], [])) (w' := w) ((ex_stp (ins := .if_icmp .ge 24) rfl).trans (vg_ib2t (c := .ge) (off := 24) (pc := 10) (lo := [some (.ref 59), some (.int i)]) (r := []) (w := w) (x := i) (y := (ex_gd ST (Int32.toNatClampNeg (81)))) (kp_ge_t b2) (by decide))) ?_
  exact Go.ret ((ex_stp (ins := .return_) rfl).trans rfl)

set_option maxRecDepth 100000 in
theorem wn_n {X : List Int32} {d : Nat} {i : Int32} {ST RU : List Int32} {w : ex_W} {fs : List Value} {q : Option Value × ex_W} (h59 : ex_at w 59 = some (.inr (.inr (8, fs)))) (f59_0 : ex_at fs 0 = some (.ref 60)) (f59_24 : ex_at fs 24 = some (.ref 68)) (h60 : ex_at w 60 = some (.inl (.int, ST))) (h68 : ex_at w 68 = some (.inl (.int, RU))) (i1 : ex_ix 81 ST.length = true) (b2 : Int32.toInt (i) < Int32.toInt ((ex_gd ST (Int32.toNatClampNeg (81))))) (i3 : ex_ix ((82 : Int32) + i) ST.length = true) (i4 : ex_ix i RU.length = true)  (kk : Go X d mt_123 (2, [some (.ref 59), some (.int (i + 1))], []) (ex_put w 68 (.inl (.int, (ex_put RU (Int32.toNatClampNeg (i)) (ex_gd ST (Int32.toNatClampNeg (((82 : Int32) + i)))))))) q) : Go X d mt_123 (2, [some (.ref 59), some (.int i)], []) w q := by
  refine Go.next (f' := (3, [some (.ref 59), some (.int i)], [.int i])) (w' := w) ((ex_stp (ins := .iload_n 1) rfl).trans rfl) ?_
  refine Go.next (f' := (4, [some (.ref 59), some (.int i)], [.ref 59, .int i])) (w' := w) ((ex_stp (ins := .aload_n 0) rfl).trans rfl) ?_
  refine Go.next (f' := (7, [some (.ref 59), some (.int i)], [.ref 60, .int i])) (w' := w) ((ex_stp (ins := .getfield 7) rfl).trans (vg_get (ci := 8) (k := 0) (pl := 976) (pc := 4) (lo := [some (.ref 59), some (.int i)]) (r := [.int i]) (fs := fs) (v := .ref 60) h59 f59_0)) ?_
  refine Go.next (f' := (9, [some (.ref 59), some (.int i)], [.int 81, .ref 60, .int i])) (w' := w) ((ex_stp (ins := .bipush 81) rfl).trans rfl) ?_
  refine Go.next (f' := (10, [some (.ref 59), some (.int i)], [.int (ex_gd ST (Int32.toNatClampNeg (81))), .int i])) (w' := w) ((ex_stp (ins := .iaload) rfl).trans (vg_ald (by_ := false) (isL := false) (X := X) (pc := 9) (lo := [some (.ref 59), some (.int i)]) (r := [.int i]) (i := 81) (l := ST) h60 rfl i1)) ?_
  refine Go.next (f' := (13, [some (.ref 59), some (.int i)], [])) (w' := w) ((ex_stp (ins := .if_icmp .ge 24) rfl).trans (vg_ib2f (c := .ge) (off := 24) (pc := 10) (lo := [some (.ref 59), some (.int i)]) (r := []) (w := w) (x := i) (y := (ex_gd ST (Int32.toNatClampNeg (81)))) (kp_ge_f b2) (by decide))) ?_
  refine Go.next (f' := (14, [some (.ref 59), some (.int i)], [.ref 59])) (w' := w) ((ex_stp (ins := .aload_n 0) rfl).trans rfl) ?_
  refine Go.next (f' := (17, [some (.ref 59), some (.int i)], [.ref 68])) (w' := w) ((ex_stp (ins := .getfield 35) rfl).trans (vg_get (ci := 8) (k := 24) (pl := 1000) (pc := 14) (lo := [some (.ref 59), some (.int i)]) (r := []) (fs := fs) (v := .ref 68) h59 f59_24)) ?_
  refine Go.next (f' := (18, [some (.ref 59), some (.int i)], [.int i, .ref 68])) (w' := w) ((ex_stp (ins := .iload_n 1) rfl).trans rfl) ?_
  refine Go.next (f' := (19, [some (.ref 59), some (.int i)], [.ref 59, .int i, .ref 68])) (w' := w) ((ex_stp (ins := .aload_n 0) rfl).trans rfl) ?_
  refine Go.next (f' := (22, [some (.ref 59), some (.int i)], [.ref 60, .int i, .ref 68])) (w' := w) ((ex_stp (ins := .getfield 7) rfl).trans (vg_get (ci := 8) (k := 0) (pl := 976) (pc := 19) (lo := [some (.ref 59), some (.int i)]) (r := [.int i, .ref 68]) (fs := fs) (v := .ref 60) h59 f59_0)) ?_
  refine Go.next (f' := (24, [some (.ref 59), some (.int i)], [.int 82, .ref 60, .int i, .ref 68])) (w' := w) ((ex_stp (ins := .bipush 82) rfl).trans rfl) ?_
  refine Go.next (f' := (25, [some (.ref 59), some (.int i)], [.int i, .int 82, .ref 60, .int i, .ref 68])) (w' := w) ((ex_stp (ins := .iload_n 1) rfl).trans rfl) ?_
  refine Go.next (f' := (26, [some (.ref 59), some (.int i)], [.int ((82 : Int32) + i), .ref 60, .int i, .ref 68])) (w' := w) ((ex_stp (ins := .iadd) rfl).trans rfl) ?_
  refine Go.next (f' := (27, [some (.ref 59), some (.int i)], [.int (ex_gd ST (Int32.toNatClampNeg (((82 : Int32) + i)))), .int i, .ref 68])) (w' := w) ((ex_stp (ins := .iaload) rfl).trans (vg_ald (by_ := false) (isL := false) (X := X) (pc := 26) (lo := [some (.ref 59), some (.int i)]) (r := [.int i, .ref 68]) (i := ((82 : Int32) + i)) (l := ST) h60 rfl i3)) ?_
  refine Go.next (f' := (28, [some (.ref 59), some (.int i)], [])) (w' := (ex_put w 68 (.inl (.int, (ex_put RU (Int32.toNatClampNeg (i)) (ex_gd ST (Int32.toNatClampNeg (((82 : Int32) + i))))))))) ((ex_stp (ins := .iastore) rfl).trans (vg_ast (by_ := false) (pc := 27) (lo := [some (.ref 59), some (.int i)]) (r := []) (i := i) (x := (ex_gd ST (Int32.toNatClampNeg (((82 : Int32) + i))))) (l := RU) (w := w) h68 rfl i4)) ?_
  refine Go.next (f' := (31, [some (.ref 59), some (.int (i + 1))], [])) (w' := (ex_put w 68 (.inl (.int, (ex_put RU (Int32.toNatClampNeg (i)) (ex_gd ST (Int32.toNatClampNeg (((82 : Int32) + i))))))))) ((ex_stp (ins := .iinc 1 1) rfl).trans rfl) ?_
  refine Go.next (f' := (2, [some (.ref 59), some (.int (i + 1))], [])) (w' := (ex_put w 68 (.inl (.int, (ex_put RU (Int32.toNatClampNeg (i)) (ex_gd ST (Int32.toNatClampNeg (((82 : Int32) + i))))))))) ((ex_stp (ins := .goto (-29)) rfl).trans rfl) ?_
  exact kk

set_option maxRecDepth 100000 in
theorem fr_0 {X : List Int32} {d : Nat} {b c : Int32} {w w1 : ex_W} {fs fs1 : List Value} {q : Option Value × ex_W} (h59 : ex_at w 59 = some (.inr (.inr (8, fs)))) (f59_26 : ex_at fs 26 = some (.int b)) (c1 : Go X d mt_105 (ex_ent mt_105 [.ref 59]) w (none, w1)) (h59_1 : ex_at w1 59 = some (.inr (.inr (8, fs1)))) (f59_26_1 : ex_at fs1 26 = some (.int b))  (kk : Go X (d + 1) mt_127 (11, [some (.ref 59), some (.int c), some (.int 0), none], []) (ex_put w1 59 (.inr (.inr (8, (ex_put fs1 26 (.int 0)))))) q) : Go X (d + 1) mt_127 (ex_ent mt_127 [.ref 59, .int c]) w q := by
  show Go _ _ _ (0, [some (.ref 59), some (.int c), none, none], []) _ _
  refine Go.next (f' := (1, [some (.ref 59), some (.int c), none, none], [.ref 59])) (w' := w) ((ex_stp (ins := .aload_n 0) rfl).trans rfl) ?_
  refine Go.call (cal := 105) (as := [.ref 59]) (g := (4, [some (.ref 59), some (.int c), none, none], [])) (M' := mt_105) (r := none) (w' := w1) ((ex_stp (ins := .invokevirtual 211) rfl).trans (vg_cl0 (cal := 105) (n := 1) (rc := 8) (p1 := 1221) (p2 := 1223) (p3 := 49) (fs := fs) (tl := []) (pc := 1) (lo := [some (.ref 59), some (.int c), none, none]) (st := [.ref 59]) (Nat.le_of_ble_eq_true rfl) (Nat.le_of_ble_eq_true rfl) rfl h59)) rfl (Nat.le_of_ble_eq_true rfl) c1 ?_
  show Go _ _ _ (4, [some (.ref 59), some (.int c), none, none], []) _ _
  refine Go.next (f' := (5, [some (.ref 59), some (.int c), none, none], [.ref 59])) (w' := w1) ((ex_stp (ins := .aload_n 0) rfl).trans rfl) ?_
  refine Go.next (f' := (6, [some (.ref 59), some (.int c), none, none], [.int 0, .ref 59])) (w' := w1) ((ex_stp (ins := .iconst 0) rfl).trans rfl) ?_
  refine Go.next (f' := (9, [some (.ref 59), some (.int c), none, none], [])) (w' := (ex_put w1 59 (.inr (.inr (8, (ex_put fs1 26 (.int 0))))))) ((ex_stp (ins := .putfield 223) rfl).trans (vg_put (ci := 8) (k := 26) (pl := 1002) (pc := 6) (lo := [some (.ref 59), some (.int c), none, none]) (r := []) (fs := fs1) (v := .int 0) (w := w1) h59_1 (vg_len f59_26_1) rfl rfl)) ?_
  refine Go.next (f' := (10, [some (.ref 59), some (.int c), none, none], [.int 0])) (w' := (ex_put w1 59 (.inr (.inr (8, (ex_put fs1 26 (.int 0))))))) ((ex_stp (ins := .iconst 0) rfl).trans rfl) ?_
  refine Go.next (f' := (11, [some (.ref 59), some (.int c), some (.int 0), none], [])) (w' := (ex_put w1 59 (.inr (.inr (8, (ex_put fs1 26 (.int 0))))))) ((ex_stp (ins := .istore_n 2) rfl).trans rfl) ?_
  exact kk

set_option maxRecDepth 100000 in
theorem fr_x {X : List Int32} {d : Nat} {i c : Int32} {w : ex_W} {o1 : Option Value} (b1 : Int32.toInt (i) ≥ Int32.toInt (c))   : Go X d mt_127 (11, [some (.ref 59), some (.int c), some (.int i), o1], []) w (none, w) := by
  refine Go.next (f' := (12, [some (.ref 59), some (.int c), some (.int i), o1], [.int i])) (w' := w) ((ex_stp (ins := .iload_n 2) rfl).trans rfl) ?_
  refine Go.next (f' := (13, [some (.ref 59), some (.int c), some (.int i), o1], [.int c, .int i])) (w' := w) ((ex_stp (ins := .iload_n 1) rfl).trans rfl) ?_
  refine Go.next (f' := (75, [some (.ref 59), some (.int c), some (.int i), o1], [])) (w' := w) ((ex_stp (ins := .if_icmp .ge 62) rfl).trans (vg_ib2t (c := .ge) (off := 62) (pc := 13) (lo := [some (.ref 59), some (.int c), some (.int i), o1]) (r := []) (w := w) (x := i) (y := c) (kp_ge_t b1) (by decide))) ?_
  exact Go.ret ((ex_stp (ins := .return_) rfl).trans rfl)

set_option maxRecDepth 100000 in
theorem fr_y {X : List Int32} {d : Nat} {b i c : Int32} {w : ex_W} {fs : List Value} {o1 : Option Value} (h59 : ex_at w 59 = some (.inr (.inr (8, fs)))) (f59_26 : ex_at fs 26 = some (.int b)) (b1 : Int32.toInt (i) < Int32.toInt (c)) (b2 : Int32.toInt (b) = 1000000)   : Go X d mt_127 (11, [some (.ref 59), some (.int c), some (.int i), o1], []) w (none, w) := by
  refine Go.next (f' := (12, [some (.ref 59), some (.int c), some (.int i), o1], [.int i])) (w' := w) ((ex_stp (ins := .iload_n 2) rfl).trans rfl) ?_
  refine Go.next (f' := (13, [some (.ref 59), some (.int c), some (.int i), o1], [.int c, .int i])) (w' := w) ((ex_stp (ins := .iload_n 1) rfl).trans rfl) ?_
  refine Go.next (f' := (16, [some (.ref 59), some (.int c), some (.int i), o1], [])) (w' := w) ((ex_stp (ins := .if_icmp .ge 62) rfl).trans (vg_ib2f (c := .ge) (off := 62) (pc := 13) (lo := [some (.ref 59), some (.int c), some (.int i), o1]) (r := []) (w := w) (x := i) (y := c) (kp_ge_f b1) (by decide))) ?_
  refine Go.next (f' := (17, [some (.ref 59), some (.int c), some (.int i), o1], [.ref 59])) (w' := w) ((ex_stp (ins := .aload_n 0) rfl).trans rfl) ?_
  refine Go.next (f' := (20, [some (.ref 59), some (.int c), some (.int i), o1], [.int b])) (w' := w) ((ex_stp (ins := .getfield 223) rfl).trans (vg_get (ci := 8) (k := 26) (pl := 1002) (pc := 17) (lo := [some (.ref 59), some (.int c), some (.int i), o1]) (r := []) (fs := fs) (v := .int b) h59 f59_26)) ?_
  refine Go.next (f' := (22, [some (.ref 59), some (.int c), some (.int i), o1], [.int 1000000, .int b])) (w' := w) ((ex_stp (ins := .ldc 226) rfl).trans rfl) ?_
  refine Go.next (f' := (75, [some (.ref 59), some (.int c), some (.int i), o1], [])) (w' := w) ((ex_stp (ins := .if_icmp .eq 53) rfl).trans (vg_ib2t (c := .eq) (off := 53) (pc := 22) (lo := [some (.ref 59), some (.int c), some (.int i), o1]) (r := []) (w := w) (x := b) (y := 1000000) (kn_eq_t (c := 1000000) (by decide) b2) (by decide))) ?_
  exact Go.ret ((ex_stp (ins := .return_) rfl).trans rfl)

set_option maxRecDepth 100000 in
theorem fr_s {X : List Int32} {d : Nat} {b i c v : Int32} {RU LB : List Int32} {w w1 : ex_W} {fs : List Value} {o1 : Option Value} {q : Option Value × ex_W} (h59 : ex_at w 59 = some (.inr (.inr (8, fs)))) (f59_24 : ex_at fs 24 = some (.ref 68)) (f59_25 : ex_at fs 25 = some (.ref 69)) (f59_26 : ex_at fs 26 = some (.int b)) (h68 : ex_at w 68 = some (.inl (.int, RU))) (h69 : ex_at w 69 = some (.inl (.int, LB))) (b1 : Int32.toInt (i) < Int32.toInt (c)) (b2 : ¬ Int32.toInt (b) = 1000000) (i3 : ex_ix i RU.length = true) (c4 : Go X d mt_110 (ex_ent mt_110 [.ref 59, .int (ex_gd RU (Int32.toNatClampNeg (i)))]) w (some (.int v), w)) (b5 : Int32.toInt (v) = (-4)) (i6 : ex_ix i LB.length = true) (c7 : Go X d mt_116 (ex_ent mt_116 [.ref 59, .int v]) (ex_put (ex_put w 59 (.inr (.inr (8, (ex_put fs 26 (.int 1000000)))))) 69 (.inl (.int, (ex_put LB (Int32.toNatClampNeg (i)) v)))) (none, w1))  (kk : Go X (d + 1) mt_127 (11, [some (.ref 59), some (.int c), some (.int (i + 1)), some (.int v)], []) w1 q) : Go X (d + 1) mt_127 (11, [some (.ref 59), some (.int c), some (.int i), o1], []) w q := by
  refine Go.next (f' := (12, [some (.ref 59), some (.int c), some (.int i), o1], [.int i])) (w' := w) ((ex_stp (ins := .iload_n 2) rfl).trans rfl) ?_
  refine Go.next (f' := (13, [some (.ref 59), some (.int c), some (.int i), o1], [.int c, .int i])) (w' := w) ((ex_stp (ins := .iload_n 1) rfl).trans rfl) ?_
  refine Go.next (f' := (16, [some (.ref 59), some (.int c), some (.int i), o1], [])) (w' := w) ((ex_stp (ins := .if_icmp .ge 62) rfl).trans (vg_ib2f (c := .ge) (off := 62) (pc := 13) (lo := [some (.ref 59), some (.int c), some (.int i), o1]) (r := []) (w := w) (x := i) (y := c) (kp_ge_f b1) (by decide))) ?_
  refine Go.next (f' := (17, [some (.ref 59), some (.int c), some (.int i), o1], [.ref 59])) (w' := w) ((ex_stp (ins := .aload_n 0) rfl).trans rfl) ?_
  refine Go.next (f' := (20, [some (.ref 59), some (.int c), some (.int i), o1], [.int b])) (w' := w) ((ex_stp (ins := .getfield 223) rfl).trans (vg_get (ci := 8) (k := 26) (pl := 1002) (pc := 17) (lo := [some (.ref 59), some (.int c), some (.int i), o1]) (r := []) (fs := fs) (v := .int b) h59 f59_26)) ?_
  refine Go.next (f' := (22, [some (.ref 59), some (.int c), some (.int i), o1], [.int 1000000, .int b])) (w' := w) ((ex_stp (ins := .ldc 226) rfl).trans rfl) ?_
  refine Go.next (f' := (25, [some (.ref 59), some (.int c), some (.int i), o1], [])) (w' := w) ((ex_stp (ins := .if_icmp .eq 53) rfl).trans (vg_ib2f (c := .eq) (off := 53) (pc := 22) (lo := [some (.ref 59), some (.int c), some (.int i), o1]) (r := []) (w := w) (x := b) (y := 1000000) (kn_eq_f (c := 1000000) (by decide) b2) (by decide))) ?_
  refine Go.next (f' := (26, [some (.ref 59), some (.int c), some (.int i), o1], [.ref 59])) (w' := w) ((ex_stp (ins := .aload_n 0) rfl).trans rfl) ?_
  refine Go.next (f' := (27, [some (.ref 59), some (.int c), some (.int i), o1], [.ref 59, .ref 59])) (w' := w) ((ex_stp (ins := .aload_n 0) rfl).trans rfl) ?_
  refine Go.next (f' := (30, [some (.ref 59), some (.int c), some (.int i), o1], [.ref 68, .ref 59])) (w' := w) ((ex_stp (ins := .getfield 35) rfl).trans (vg_get (ci := 8) (k := 24) (pl := 1000) (pc := 27) (lo := [some (.ref 59), some (.int c), some (.int i), o1]) (r := [.ref 59]) (fs := fs) (v := .ref 68) h59 f59_24)) ?_
  refine Go.next (f' := (31, [some (.ref 59), some (.int c), some (.int i), o1], [.int i, .ref 68, .ref 59])) (w' := w) ((ex_stp (ins := .iload_n 2) rfl).trans rfl) ?_
  refine Go.next (f' := (32, [some (.ref 59), some (.int c), some (.int i), o1], [.int (ex_gd RU (Int32.toNatClampNeg (i))), .ref 59])) (w' := w) ((ex_stp (ins := .iaload) rfl).trans (vg_ald (by_ := false) (isL := false) (X := X) (pc := 31) (lo := [some (.ref 59), some (.int c), some (.int i), o1]) (r := [.ref 59]) (i := i) (l := RU) h68 rfl i3)) ?_
  refine Go.call (cal := 110) (as := [.ref 59, .int (ex_gd RU (Int32.toNatClampNeg (i)))]) (g := (35, [some (.ref 59), some (.int c), some (.int i), o1], [])) (M' := mt_110) (r := some (.int v)) (w' := w) ((ex_stp (ins := .invokevirtual 217) rfl).trans (vg_cl0 (cal := 110) (n := 2) (rc := 8) (p1 := 1248) (p2 := 1250) (p3 := 53) (fs := fs) (tl := [.int (ex_gd RU (Int32.toNatClampNeg (i)))]) (pc := 32) (lo := [some (.ref 59), some (.int c), some (.int i), o1]) (st := [.int (ex_gd RU (Int32.toNatClampNeg (i))), .ref 59]) (Nat.le_of_ble_eq_true rfl) (Nat.le_of_ble_eq_true rfl) rfl h59)) rfl (Nat.le_of_ble_eq_true rfl) c4 ?_
  show Go _ _ _ (35, [some (.ref 59), some (.int c), some (.int i), o1], [.int v]) _ _
  refine Go.next (f' := (36, [some (.ref 59), some (.int c), some (.int i), some (.int v)], [])) (w' := w) ((ex_stp (ins := .istore_n 3) rfl).trans rfl) ?_
  refine Go.next (f' := (37, [some (.ref 59), some (.int c), some (.int i), some (.int v)], [.ref 59])) (w' := w) ((ex_stp (ins := .aload_n 0) rfl).trans rfl) ?_
  refine Go.next (f' := (38, [some (.ref 59), some (.int c), some (.int i), some (.int v)], [.int v, .ref 59])) (w' := w) ((ex_stp (ins := .iload_n 3) rfl).trans rfl) ?_
  refine Go.next (f' := (40, [some (.ref 59), some (.int c), some (.int i), some (.int v)], [.int ((Int8.ofInt (-4)).toInt32), .int v, .ref 59])) (w' := w) ((ex_stp (ins := .bipush (-4)) rfl).trans rfl) ?_
  refine Go.next (f' := (43, [some (.ref 59), some (.int c), some (.int i), some (.int v)], [.ref 59])) (w' := w) ((ex_stp (ins := .if_icmp .ne 8) rfl).trans (vg_ib2f (c := .ne) (off := 8) (pc := 40) (lo := [some (.ref 59), some (.int c), some (.int i), some (.int v)]) (r := [.ref 59]) (w := w) (x := v) (y := ((Int8.ofInt (-4)).toInt32)) (kn_ne_f (c := -4) (by decide) b5) (by decide))) ?_
  refine Go.next (f' := (45, [some (.ref 59), some (.int c), some (.int i), some (.int v)], [.int 1000000, .ref 59])) (w' := w) ((ex_stp (ins := .ldc 226) rfl).trans rfl) ?_
  refine Go.next (f' := (54, [some (.ref 59), some (.int c), some (.int i), some (.int v)], [.int 1000000, .ref 59])) (w' := w) ((ex_stp (ins := .goto 9) rfl).trans rfl) ?_
  refine Go.next (f' := (57, [some (.ref 59), some (.int c), some (.int i), some (.int v)], [])) (w' := (ex_put w 59 (.inr (.inr (8, (ex_put fs 26 (.int 1000000))))))) ((ex_stp (ins := .putfield 223) rfl).trans (vg_put (ci := 8) (k := 26) (pl := 1002) (pc := 54) (lo := [some (.ref 59), some (.int c), some (.int i), some (.int v)]) (r := []) (fs := fs) (v := .int 1000000) (w := w) h59 (vg_len f59_26) rfl rfl)) ?_
  refine Go.next (f' := (58, [some (.ref 59), some (.int c), some (.int i), some (.int v)], [.ref 59])) (w' := (ex_put w 59 (.inr (.inr (8, (ex_put fs 26 (.int 1000000))))))) ((ex_stp (ins := .aload_n 0) rfl).trans rfl) ?_
  refine Go.next (f' := (61, [some (.ref 59), some (.int c), some (.int i), some (.int v)], [.ref 69])) (w' := (ex_put w 59 (.inr (.inr (8, (ex_put fs 26 (.int 1000000))))))) ((ex_stp (ins := .getfield 38) rfl).trans (vg_get (ci := 8) (k := 25) (pl := 1001) (pc := 58) (lo := [some (.ref 59), some (.int c), some (.int i), some (.int v)]) (r := []) (fs := (ex_put fs 26 (.int 1000000))) (v := .ref 69) (vg_at_put h59) (vg_at_o rfl f59_25))) ?_
  refine Go.next (f' := (62, [some (.ref 59), some (.int c), some (.int i), some (.int v)], [.int i, .ref 69])) (w' := (ex_put w 59 (.inr (.inr (8, (ex_put fs 26 (.int 1000000))))))) ((ex_stp (ins := .iload_n 2) rfl).trans rfl) ?_
  refine Go.next (f' := (63, [some (.ref 59), some (.int c), some (.int i), some (.int v)], [.int v, .int i, .ref 69])) (w' := (ex_put w 59 (.inr (.inr (8, (ex_put fs 26 (.int 1000000))))))) ((ex_stp (ins := .iload_n 3) rfl).trans rfl) ?_
  refine Go.next (f' := (64, [some (.ref 59), some (.int c), some (.int i), some (.int v)], [])) (w' := (ex_put (ex_put w 59 (.inr (.inr (8, (ex_put fs 26 (.int 1000000)))))) 69 (.inl (.int, (ex_put LB (Int32.toNatClampNeg (i)) v))))) ((ex_stp (ins := .iastore) rfl).trans (vg_ast (by_ := false) (pc := 63) (lo := [some (.ref 59), some (.int c), some (.int i), some (.int v)]) (r := []) (i := i) (x := v) (l := LB) (w := (ex_put w 59 (.inr (.inr (8, (ex_put fs 26 (.int 1000000))))))) (vg_at_o rfl h69) rfl i6)) ?_
  refine Go.next (f' := (65, [some (.ref 59), some (.int c), some (.int i), some (.int v)], [.ref 59])) (w' := (ex_put (ex_put w 59 (.inr (.inr (8, (ex_put fs 26 (.int 1000000)))))) 69 (.inl (.int, (ex_put LB (Int32.toNatClampNeg (i)) v))))) ((ex_stp (ins := .aload_n 0) rfl).trans rfl) ?_
  refine Go.next (f' := (66, [some (.ref 59), some (.int c), some (.int i), some (.int v)], [.int v, .ref 59])) (w' := (ex_put (ex_put w 59 (.inr (.inr (8, (ex_put fs 26 (.int 1000000)))))) 69 (.inl (.int, (ex_put LB (Int32.toNatClampNeg (i)) v))))) ((ex_stp (ins := .iload_n 3) rfl).trans rfl) ?_
  refine Go.call (cal := 116) (as := [.ref 59, .int v]) (g := (69, [some (.ref 59), some (.int c), some (.int i), some (.int v)], [])) (M' := mt_116) (r := none) (w' := w1) ((ex_stp (ins := .invokevirtual 220) rfl).trans (vg_cl0 (cal := 116) (n := 2) (rc := 8) (p1 := 1264) (p2 := 1266) (p3 := 55) (fs := (ex_put fs 26 (.int 1000000))) (tl := [.int v]) (pc := 66) (lo := [some (.ref 59), some (.int c), some (.int i), some (.int v)]) (st := [.int v, .ref 59]) (Nat.le_of_ble_eq_true rfl) (Nat.le_of_ble_eq_true rfl) rfl (vg_at_o rfl (vg_at_put h59)))) rfl (Nat.le_of_ble_eq_true rfl) c7 ?_
  show Go _ _ _ (69, [some (.ref 59), some (.int c), some (.int i), some (.int v)], []) _ _
  refine Go.next (f' := (72, [some (.ref 59), some (.int c), some (.int (i + 1)), some (.int v)], [])) (w' := w1) ((ex_stp (ins := .iinc 2 1) rfl).trans rfl) ?_
  refine Go.next (f' := (11, [some (.ref 59), some (.int c), some (.int (i + 1)), some (.int v)], [])) (w' := w1) ((ex_stp (ins := .goto (-61)) rfl).trans rfl) ?_
  exact kk

set_option maxRecDepth 100000 in
theorem fr_n {X : List Int32} {d : Nat} {b i c v : Int32} {RU LB : List Int32} {w w1 : ex_W} {fs : List Value} {o1 : Option Value} {q : Option Value × ex_W} (h59 : ex_at w 59 = some (.inr (.inr (8, fs)))) (f59_24 : ex_at fs 24 = some (.ref 68)) (f59_25 : ex_at fs 25 = some (.ref 69)) (f59_26 : ex_at fs 26 = some (.int b)) (h68 : ex_at w 68 = some (.inl (.int, RU))) (h69 : ex_at w 69 = some (.inl (.int, LB))) (b1 : Int32.toInt (i) < Int32.toInt (c)) (b2 : ¬ Int32.toInt (b) = 1000000) (i3 : ex_ix i RU.length = true) (c4 : Go X d mt_110 (ex_ent mt_110 [.ref 59, .int (ex_gd RU (Int32.toNatClampNeg (i)))]) w (some (.int v), w)) (b5 : ¬ Int32.toInt (v) = (-4)) (i6 : ex_ix i LB.length = true) (c7 : Go X d mt_116 (ex_ent mt_116 [.ref 59, .int v]) (ex_put (ex_put w 59 (.inr (.inr (8, (ex_put fs 26 (.int (b + v))))))) 69 (.inl (.int, (ex_put LB (Int32.toNatClampNeg (i)) v)))) (none, w1))  (kk : Go X (d + 1) mt_127 (11, [some (.ref 59), some (.int c), some (.int (i + 1)), some (.int v)], []) w1 q) : Go X (d + 1) mt_127 (11, [some (.ref 59), some (.int c), some (.int i), o1], []) w q := by
  refine Go.next (f' := (12, [some (.ref 59), some (.int c), some (.int i), o1], [.int i])) (w' := w) ((ex_stp (ins := .iload_n 2) rfl).trans rfl) ?_
  refine Go.next (f' := (13, [some (.ref 59), some (.int c), some (.int i), o1], [.int c, .int i])) (w' := w) ((ex_stp (ins := .iload_n 1) rfl).trans rfl) ?_
  refine Go.next (f' := (16, [some (.ref 59), some (.int c), some (.int i), o1], [])) (w' := w) ((ex_stp (ins := .if_icmp .ge 62) rfl).trans (vg_ib2f (c := .ge) (off := 62) (pc := 13) (lo := [some (.ref 59), some (.int c), some (.int i), o1]) (r := []) (w := w) (x := i) (y := c) (kp_ge_f b1) (by decide))) ?_
  refine Go.next (f' := (17, [some (.ref 59), some (.int c), some (.int i), o1], [.ref 59])) (w' := w) ((ex_stp (ins := .aload_n 0) rfl).trans rfl) ?_
  refine Go.next (f' := (20, [some (.ref 59), some (.int c), some (.int i), o1], [.int b])) (w' := w) ((ex_stp (ins := .getfield 223) rfl).trans (vg_get (ci := 8) (k := 26) (pl := 1002) (pc := 17) (lo := [some (.ref 59), some (.int c), some (.int i), o1]) (r := []) (fs := fs) (v := .int b) h59 f59_26)) ?_
  refine Go.next (f' := (22, [some (.ref 59), some (.int c), some (.int i), o1], [.int 1000000, .int b])) (w' := w) ((ex_stp (ins := .ldc 226) rfl).trans rfl) ?_
  refine Go.next (f' := (25, [some (.ref 59), some (.int c), some (.int i), o1], [])) (w' := w) ((ex_stp (ins := .if_icmp .eq 53) rfl).trans (vg_ib2f (c := .eq) (off := 53) (pc := 22) (lo := [some (.ref 59), some (.int c), some (.int i), o1]) (r := []) (w := w) (x := b) (y := 1000000) (kn_eq_f (c := 1000000) (by decide) b2) (by decide))) ?_
  refine Go.next (f' := (26, [some (.ref 59), some (.int c), some (.int i), o1], [.ref 59])) (w' := w) ((ex_stp (ins := .aload_n 0) rfl).trans rfl) ?_
  refine Go.next (f' := (27, [some (.ref 59), some (.int c), some (.int i), o1], [.ref 59, .ref 59])) (w' := w) ((ex_stp (ins := .aload_n 0) rfl).trans rfl) ?_
  refine Go.next (f' := (30, [some (.ref 59), some (.int c), some (.int i), o1], [.ref 68, .ref 59])) (w' := w) ((ex_stp (ins := .getfield 35) rfl).trans (vg_get (ci := 8) (k := 24) (pl := 1000) (pc := 27) (lo := [some (.ref 59), some (.int c), some (.int i), o1]) (r := [.ref 59]) (fs := fs) (v := .ref 68) h59 f59_24)) ?_
  refine Go.next (f' := (31, [some (.ref 59), some (.int c), some (.int i), o1], [.int i, .ref 68, .ref 59])) (w' := w) ((ex_stp (ins := .iload_n 2) rfl).trans rfl) ?_
  refine Go.next (f' := (32, [some (.ref 59), some (.int c), some (.int i), o1], [.int (ex_gd RU (Int32.toNatClampNeg (i))), .ref 59])) (w' := w) ((ex_stp (ins := .iaload) rfl).trans (vg_ald (by_ := false) (isL := false) (X := X) (pc := 31) (lo := [some (.ref 59), some (.int c), some (.int i), o1]) (r := [.ref 59]) (i := i) (l := RU) h68 rfl i3)) ?_
  refine Go.call (cal := 110) (as := [.ref 59, .int (ex_gd RU (Int32.toNatClampNeg (i)))]) (g := (35, [some (.ref 59), some (.int c), some (.int i), o1], [])) (M' := mt_110) (r := some (.int v)) (w' := w) ((ex_stp (ins := .invokevirtual 217) rfl).trans (vg_cl0 (cal := 110) (n := 2) (rc := 8) (p1 := 1248) (p2 := 1250) (p3 := 53) (fs := fs) (tl := [.int (ex_gd RU (Int32.toNatClampNeg (i)))]) (pc := 32) (lo := [some (.ref 59), some (.int c), some (.int i), o1]) (st := [.int (ex_gd RU (Int32.toNatClampNeg (i))), .ref 59]) (Nat.le_of_ble_eq_true rfl) (Nat.le_of_ble_eq_true rfl) rfl h59)) rfl (Nat.le_of_ble_eq_true rfl) c4 ?_
  show Go _ _ _ (35, [some (.ref 59), some (.int c), some (.int i), o1], [.int v]) _ _
  refine Go.next (f' := (36, [some (.ref 59), some (.int c), some (.int i), some (.int v)], [])) (w' := w) ((ex_stp (ins := .istore_n 3) rfl).trans rfl) ?_
  refine Go.next (f' := (37, [some (.ref 59), some (.int c), some (.int i), some (.int v)], [.ref 59])) (w' := w) ((ex_stp (ins := .aload_n 0) rfl).trans rfl) ?_
  refine Go.next (f' := (38, [some (.ref 59), some (.int c), some (.int i), some (.int v)], [.int v, .ref 59])) (w' := w) ((ex_stp (ins := .iload_n 3) rfl).trans rfl) ?_
  refine Go.next (f' := (40, [some (.ref 59), some (.int c), some (.int i), some (.int v)], [.int ((Int8.ofInt (-4)).toInt32), .int v, .ref 59])) (w' := w) ((ex_stp (ins := .bipush (-4)) rfl).trans rfl) ?_
  refine Go.next (f' := (48, [some (.ref 59), some (.int c), some (.int i), some (.int v)], [.ref 59])) (w' := w) ((ex_stp (ins := .if_icmp .ne 8) rfl).trans (vg_ib2t (c := .ne) (off := 8) (pc := 40) (lo := [some (.ref 59), some (.int c), some (.int i), some (.int v)]) (r := [.ref 59]) (w := w) (x := v) (y := ((Int8.ofInt (-4)).toInt32)) (kn_ne_t (c := -4) (by decide) b5) (by decide))) ?_
  refine Go.next (f' := (49, [some (.ref 59), some (.int c), some (.int i), some (.int v)], [.ref 59, .ref 59])) (w' := w) ((ex_stp (ins := .aload_n 0) rfl).trans rfl) ?_
  refine Go.next (f' := (52, [some (.ref 59), some (.int c), some (.int i), some (.int v)], [.int b, .ref 59])) (w' := w) ((ex_stp (ins := .getfield 223) rfl).trans (vg_get (ci := 8) (k := 26) (pl := 1002) (pc := 49) (lo := [some (.ref 59), some (.int c), some (.int i), some (.int v)]) (r := [.ref 59]) (fs := fs) (v := .int b) h59 f59_26)) ?_
  refine Go.next (f' := (53, [some (.ref 59), some (.int c), some (.int i), some (.int v)], [.int v, .int b, .ref 59])) (w' := w) ((ex_stp (ins := .iload_n 3) rfl).trans rfl) ?_
  refine Go.next (f' := (54, [some (.ref 59), some (.int c), some (.int i), some (.int v)], [.int (b + v), .ref 59])) (w' := w) ((ex_stp (ins := .iadd) rfl).trans rfl) ?_
  refine Go.next (f' := (57, [some (.ref 59), some (.int c), some (.int i), some (.int v)], [])) (w' := (ex_put w 59 (.inr (.inr (8, (ex_put fs 26 (.int (b + v)))))))) ((ex_stp (ins := .putfield 223) rfl).trans (vg_put (ci := 8) (k := 26) (pl := 1002) (pc := 54) (lo := [some (.ref 59), some (.int c), some (.int i), some (.int v)]) (r := []) (fs := fs) (v := .int (b + v)) (w := w) h59 (vg_len f59_26) rfl rfl)) ?_
  refine Go.next (f' := (58, [some (.ref 59), some (.int c), some (.int i), some (.int v)], [.ref 59])) (w' := (ex_put w 59 (.inr (.inr (8, (ex_put fs 26 (.int (b + v)))))))) ((ex_stp (ins := .aload_n 0) rfl).trans rfl) ?_
  refine Go.next (f' := (61, [some (.ref 59), some (.int c), some (.int i), some (.int v)], [.ref 69])) (w' := (ex_put w 59 (.inr (.inr (8, (ex_put fs 26 (.int (b + v)))))))) ((ex_stp (ins := .getfield 38) rfl).trans (vg_get (ci := 8) (k := 25) (pl := 1001) (pc := 58) (lo := [some (.ref 59), some (.int c), some (.int i), some (.int v)]) (r := []) (fs := (ex_put fs 26 (.int (b + v)))) (v := .ref 69) (vg_at_put h59) (vg_at_o rfl f59_25))) ?_
  refine Go.next (f' := (62, [some (.ref 59), some (.int c), some (.int i), some (.int v)], [.int i, .ref 69])) (w' := (ex_put w 59 (.inr (.inr (8, (ex_put fs 26 (.int (b + v)))))))) ((ex_stp (ins := .iload_n 2) rfl).trans rfl) ?_
  refine Go.next (f' := (63, [some (.ref 59), some (.int c), some (.int i), some (.int v)], [.int v, .int i, .ref 69])) (w' := (ex_put w 59 (.inr (.inr (8, (ex_put fs 26 (.int (b + v)))))))) ((ex_stp (ins := .iload_n 3) rfl).trans rfl) ?_
  refine Go.next (f' := (64, [some (.ref 59), some (.int c), some (.int i), some (.int v)], [])) (w' := (ex_put (ex_put w 59 (.inr (.inr (8, (ex_put fs 26 (.int (b + v))))))) 69 (.inl (.int, (ex_put LB (Int32.toNatClampNeg (i)) v))))) ((ex_stp (ins := .iastore) rfl).trans (vg_ast (by_ := false) (pc := 63) (lo := [some (.ref 59), some (.int c), some (.int i), some (.int v)]) (r := []) (i := i) (x := v) (l := LB) (w := (ex_put w 59 (.inr (.inr (8, (ex_put fs 26 (.int (b + v)))))))) (vg_at_o rfl h69) rfl i6)) ?_
  refine Go.next (f' := (65, [some (.ref 59), some (.int c), some (.int i), some (.int v)], [.ref 59])) (w' := (ex_put (ex_put w 59 (.inr (.inr (8, (ex_put fs 26 (.int (b + v))))))) 69 (.inl (.int, (ex_put LB (Int32.toNatClampNeg (i)) v))))) ((ex_stp (ins := .aload_n 0) rfl).trans rfl) ?_
  refine Go.next (f' := (66, [some (.ref 59), some (.int c), some (.int i), some (.int v)], [.int v, .ref 59])) (w' := (ex_put (ex_put w 59 (.inr (.inr (8, (ex_put fs 26 (.int (b + v))))))) 69 (.inl (.int, (ex_put LB (Int32.toNatClampNeg (i)) v))))) ((ex_stp (ins := .iload_n 3) rfl).trans rfl) ?_
  refine Go.call (cal := 116) (as := [.ref 59, .int v]) (g := (69, [some (.ref 59), some (.int c), some (.int i), some (.int v)], [])) (M' := mt_116) (r := none) (w' := w1) ((ex_stp (ins := .invokevirtual 220) rfl).trans (vg_cl0 (cal := 116) (n := 2) (rc := 8) (p1 := 1264) (p2 := 1266) (p3 := 55) (fs := (ex_put fs 26 (.int (b + v)))) (tl := [.int v]) (pc := 66) (lo := [some (.ref 59), some (.int c), some (.int i), some (.int v)]) (st := [.int v, .ref 59]) (Nat.le_of_ble_eq_true rfl) (Nat.le_of_ble_eq_true rfl) rfl (vg_at_o rfl (vg_at_put h59)))) rfl (Nat.le_of_ble_eq_true rfl) c7 ?_
  show Go _ _ _ (69, [some (.ref 59), some (.int c), some (.int i), some (.int v)], []) _ _
  refine Go.next (f' := (72, [some (.ref 59), some (.int c), some (.int (i + 1)), some (.int v)], [])) (w' := w1) ((ex_stp (ins := .iinc 2 1) rfl).trans rfl) ?_
  refine Go.next (f' := (11, [some (.ref 59), some (.int c), some (.int (i + 1)), some (.int v)], [])) (w' := w1) ((ex_stp (ins := .goto (-61)) rfl).trans rfl) ?_
  exact kk

set_option maxRecDepth 100000 in
theorem pt_0 {X : List Int32} {d : Nat} {b x : Int32} {w : ex_W} {fs : List Value} (h59 : ex_at w 59 = some (.inr (.inr (8, fs)))) (f59_26 : ex_at fs 26 = some (.int b)) (b1 : Int32.toInt (b) = 1000000)   : Go X d mt_125 (ex_ent mt_125 [.ref 59, .int x]) w (some (.int ((Int8.ofInt (-4)).toInt32)), w) := by
  show Go _ _ _ (0, [some (.ref 59), some (.int x)], []) _ _
  refine Go.next (f' := (1, [some (.ref 59), some (.int x)], [.ref 59])) (w' := w) ((ex_stp (ins := .aload_n 0) rfl).trans rfl) ?_
  refine Go.next (f' := (4, [some (.ref 59), some (.int x)], [.int b])) (w' := w) ((ex_stp (ins := .getfield 223) rfl).trans (vg_get (ci := 8) (k := 26) (pl := 1002) (pc := 1) (lo := [some (.ref 59), some (.int x)]) (r := []) (fs := fs) (v := .int b) h59 f59_26)) ?_
  refine Go.next (f' := (6, [some (.ref 59), some (.int x)], [.int 1000000, .int b])) (w' := w) ((ex_stp (ins := .ldc 226) rfl).trans rfl) ?_
  refine Go.next (f' := (9, [some (.ref 59), some (.int x)], [])) (w' := w) ((ex_stp (ins := .if_icmp .ne 6) rfl).trans (vg_ib2f (c := .ne) (off := 6) (pc := 6) (lo := [some (.ref 59), some (.int x)]) (r := []) (w := w) (x := b) (y := 1000000) (kn_ne_f (c := 1000000) (by decide) b1) (by decide))) ?_
  refine Go.next (f' := (11, [some (.ref 59), some (.int x)], [.int ((Int8.ofInt (-4)).toInt32)])) (w' := w) ((ex_stp (ins := .bipush (-4)) rfl).trans rfl) ?_
  exact Go.ret ((ex_stp (ins := .ireturn) rfl).trans (vg_retI rfl))

set_option maxRecDepth 100000 in
theorem pt_1 {X : List Int32} {d : Nat} {b : Int32} {w : ex_W} {fs : List Value} (h59 : ex_at w 59 = some (.inr (.inr (8, fs)))) (f59_26 : ex_at fs 26 = some (.int b)) (b1 : ¬ Int32.toInt (b) = 1000000)   : Go X d mt_125 (ex_ent mt_125 [.ref 59, .int 0]) w (some (.int b), w) := by
  show Go _ _ _ (0, [some (.ref 59), some (.int 0)], []) _ _
  refine Go.next (f' := (1, [some (.ref 59), some (.int 0)], [.ref 59])) (w' := w) ((ex_stp (ins := .aload_n 0) rfl).trans rfl) ?_
  refine Go.next (f' := (4, [some (.ref 59), some (.int 0)], [.int b])) (w' := w) ((ex_stp (ins := .getfield 223) rfl).trans (vg_get (ci := 8) (k := 26) (pl := 1002) (pc := 1) (lo := [some (.ref 59), some (.int 0)]) (r := []) (fs := fs) (v := .int b) h59 f59_26)) ?_
  refine Go.next (f' := (6, [some (.ref 59), some (.int 0)], [.int 1000000, .int b])) (w' := w) ((ex_stp (ins := .ldc 226) rfl).trans rfl) ?_
  refine Go.next (f' := (12, [some (.ref 59), some (.int 0)], [])) (w' := w) ((ex_stp (ins := .if_icmp .ne 6) rfl).trans (vg_ib2t (c := .ne) (off := 6) (pc := 6) (lo := [some (.ref 59), some (.int 0)]) (r := []) (w := w) (x := b) (y := 1000000) (kn_ne_t (c := 1000000) (by decide) b1) (by decide))) ?_
  refine Go.next (f' := (13, [some (.ref 59), some (.int 0)], [.int 0])) (w' := w) ((ex_stp (ins := .iload_n 1) rfl).trans rfl) ?_
  refine Go.next (f' := (16, [some (.ref 59), some (.int 0)], [])) (w' := w) ((ex_stp (ins := .ifCond .ne 10) rfl).trans (vg_ib0f (c := .ne) (off := 10) (pc := 13) (lo := [some (.ref 59), some (.int 0)]) (r := []) (w := w) (x := 0) (by decide) (by decide))) ?_
  refine Go.next (f' := (17, [some (.ref 59), some (.int 0)], [.ref 59])) (w' := w) ((ex_stp (ins := .aload_n 0) rfl).trans rfl) ?_
  refine Go.next (f' := (20, [some (.ref 59), some (.int 0)], [.int b])) (w' := w) ((ex_stp (ins := .getfield 223) rfl).trans (vg_get (ci := 8) (k := 26) (pl := 1002) (pc := 17) (lo := [some (.ref 59), some (.int 0)]) (r := []) (fs := fs) (v := .int b) h59 f59_26)) ?_
  refine Go.next (f' := (51, [some (.ref 59), some (.int 0)], [.int b])) (w' := w) ((ex_stp (ins := .goto 31) rfl).trans rfl) ?_
  exact Go.ret ((ex_stp (ins := .ireturn) rfl).trans (vg_retI rfl))

set_option maxRecDepth 100000 in
theorem pt_2 {X : List Int32} {d : Nat} {b x : Int32} {ST : List Int32} {w : ex_W} {fs : List Value} (h59 : ex_at w 59 = some (.inr (.inr (8, fs)))) (f59_0 : ex_at fs 0 = some (.ref 60)) (f59_26 : ex_at fs 26 = some (.int b)) (h60 : ex_at w 60 = some (.inl (.int, ST))) (b1 : ¬ Int32.toInt (b) = 1000000) (b2 : ¬ Int32.toInt (x) = 0) (i3 : ex_ix 81 ST.length = true) (b4 : Int32.toInt ((x - 10)) ≥ Int32.toInt ((ex_gd ST (Int32.toNatClampNeg (81)))))   : Go X d mt_125 (ex_ent mt_125 [.ref 59, .int x]) w (some (.int ((Int8.ofInt (-4)).toInt32)), w) := by
  show Go _ _ _ (0, [some (.ref 59), some (.int x)], []) _ _
  refine Go.next (f' := (1, [some (.ref 59), some (.int x)], [.ref 59])) (w' := w) ((ex_stp (ins := .aload_n 0) rfl).trans rfl) ?_
  refine Go.next (f' := (4, [some (.ref 59), some (.int x)], [.int b])) (w' := w) ((ex_stp (ins := .getfield 223) rfl).trans (vg_get (ci := 8) (k := 26) (pl := 1002) (pc := 1) (lo := [some (.ref 59), some (.int x)]) (r := []) (fs := fs) (v := .int b) h59 f59_26)) ?_
  refine Go.next (f' := (6, [some (.ref 59), some (.int x)], [.int 1000000, .int b])) (w' := w) ((ex_stp (ins := .ldc 226) rfl).trans rfl) ?_
  refine Go.next (f' := (12, [some (.ref 59), some (.int x)], [])) (w' := w) ((ex_stp (ins := .if_icmp .ne 6) rfl).trans (vg_ib2t (c := .ne) (off := 6) (pc := 6) (lo := [some (.ref 59), some (.int x)]) (r := []) (w := w) (x := b) (y := 1000000) (kn_ne_t (c := 1000000) (by decide) b1) (by decide))) ?_
  refine Go.next (f' := (13, [some (.ref 59), some (.int x)], [.int x])) (w' := w) ((ex_stp (ins := .iload_n 1) rfl).trans rfl) ?_
  refine Go.next (f' := (23, [some (.ref 59), some (.int x)], [])) (w' := w) ((ex_stp (ins := .ifCond .ne 10) rfl).trans (vg_ib0t (c := .ne) (off := 10) (pc := 13) (lo := [some (.ref 59), some (.int x)]) (r := []) (w := w) (x := x) (kq_ne_t b2) (by decide))) ?_
  refine Go.next (f' := (24, [some (.ref 59), some (.int x)], [.int x])) (w' := w) ((ex_stp (ins := .iload_n 1) rfl).trans rfl) ?_
  refine Go.next (f' := (26, [some (.ref 59), some (.int x)], [.int 10, .int x])) (w' := w) ((ex_stp (ins := .bipush 10) rfl).trans rfl) ?_
  refine Go.next (f' := (27, [some (.ref 59), some (.int x)], [.int (x - 10)])) (w' := w) ((ex_stp (ins := .isub) rfl).trans rfl) ?_
  refine Go.next (f' := (28, [some (.ref 59), some (.int x)], [.ref 59, .int (x - 10)])) (w' := w) ((ex_stp (ins := .aload_n 0) rfl).trans rfl) ?_
  refine Go.next (f' := (31, [some (.ref 59), some (.int x)], [.ref 60, .int (x - 10)])) (w' := w) ((ex_stp (ins := .getfield 7) rfl).trans (vg_get (ci := 8) (k := 0) (pl := 976) (pc := 28) (lo := [some (.ref 59), some (.int x)]) (r := [.int (x - 10)]) (fs := fs) (v := .ref 60) h59 f59_0)) ?_
  refine Go.next (f' := (33, [some (.ref 59), some (.int x)], [.int 81, .ref 60, .int (x - 10)])) (w' := w) ((ex_stp (ins := .bipush 81) rfl).trans rfl) ?_
  refine Go.next (f' := (34, [some (.ref 59), some (.int x)], [.int (ex_gd ST (Int32.toNatClampNeg (81))), .int (x - 10)])) (w' := w) ((ex_stp (ins := .iaload) rfl).trans (vg_ald (by_ := false) (isL := false) (X := X) (pc := 33) (lo := [some (.ref 59), some (.int x)]) (r := [.int (x - 10)]) (i := 81) (l := ST) h60 rfl i3)) ?_
  refine Go.next (f' := (49, [some (.ref 59), some (.int x)], [])) (w' := w) ((ex_stp (ins := .if_icmp .ge 15) rfl).trans (vg_ib2t (c := .ge) (off := 15) (pc := 34) (lo := [some (.ref 59), some (.int x)]) (r := []) (w := w) (x := (x - 10)) (y := (ex_gd ST (Int32.toNatClampNeg (81)))) (kp_ge_t b4) (by decide))) ?_
  refine Go.next (f' := (51, [some (.ref 59), some (.int x)], [.int ((Int8.ofInt (-4)).toInt32)])) (w' := w) ((ex_stp (ins := .bipush (-4)) rfl).trans rfl) ?_
  exact Go.ret ((ex_stp (ins := .ireturn) rfl).trans (vg_retI rfl))

set_option maxRecDepth 100000 in
theorem pt_3 {X : List Int32} {d : Nat} {b x : Int32} {ST LB : List Int32} {w : ex_W} {fs : List Value} (h59 : ex_at w 59 = some (.inr (.inr (8, fs)))) (f59_0 : ex_at fs 0 = some (.ref 60)) (f59_25 : ex_at fs 25 = some (.ref 69)) (f59_26 : ex_at fs 26 = some (.int b)) (h60 : ex_at w 60 = some (.inl (.int, ST))) (h69 : ex_at w 69 = some (.inl (.int, LB))) (b1 : ¬ Int32.toInt (b) = 1000000) (b2 : ¬ Int32.toInt (x) = 0) (i3 : ex_ix 81 ST.length = true) (b4 : Int32.toInt ((x - 10)) < Int32.toInt ((ex_gd ST (Int32.toNatClampNeg (81))))) (i5 : ex_ix (x - 10) LB.length = true)   : Go X d mt_125 (ex_ent mt_125 [.ref 59, .int x]) w (some (.int (ex_gd LB (Int32.toNatClampNeg ((x - 10))))), w) := by
  show Go _ _ _ (0, [some (.ref 59), some (.int x)], []) _ _
  refine Go.next (f' := (1, [some (.ref 59), some (.int x)], [.ref 59])) (w' := w) ((ex_stp (ins := .aload_n 0) rfl).trans rfl) ?_
  refine Go.next (f' := (4, [some (.ref 59), some (.int x)], [.int b])) (w' := w) ((ex_stp (ins := .getfield 223) rfl).trans (vg_get (ci := 8) (k := 26) (pl := 1002) (pc := 1) (lo := [some (.ref 59), some (.int x)]) (r := []) (fs := fs) (v := .int b) h59 f59_26)) ?_
  refine Go.next (f' := (6, [some (.ref 59), some (.int x)], [.int 1000000, .int b])) (w' := w) ((ex_stp (ins := .ldc 226) rfl).trans rfl) ?_
  refine Go.next (f' := (12, [some (.ref 59), some (.int x)], [])) (w' := w) ((ex_stp (ins := .if_icmp .ne 6) rfl).trans (vg_ib2t (c := .ne) (off := 6) (pc := 6) (lo := [some (.ref 59), some (.int x)]) (r := []) (w := w) (x := b) (y := 1000000) (kn_ne_t (c := 1000000) (by decide) b1) (by decide))) ?_
  refine Go.next (f' := (13, [some (.ref 59), some (.int x)], [.int x])) (w' := w) ((ex_stp (ins := .iload_n 1) rfl).trans rfl) ?_
  refine Go.next (f' := (23, [some (.ref 59), some (.int x)], [])) (w' := w) ((ex_stp (ins := .ifCond .ne 10) rfl).trans (vg_ib0t (c := .ne) (off := 10) (pc := 13) (lo := [some (.ref 59), some (.int x)]) (r := []) (w := w) (x := x) (kq_ne_t b2) (by decide))) ?_
  refine Go.next (f' := (24, [some (.ref 59), some (.int x)], [.int x])) (w' := w) ((ex_stp (ins := .iload_n 1) rfl).trans rfl) ?_
  refine Go.next (f' := (26, [some (.ref 59), some (.int x)], [.int 10, .int x])) (w' := w) ((ex_stp (ins := .bipush 10) rfl).trans rfl) ?_
  refine Go.next (f' := (27, [some (.ref 59), some (.int x)], [.int (x - 10)])) (w' := w) ((ex_stp (ins := .isub) rfl).trans rfl) ?_
  refine Go.next (f' := (28, [some (.ref 59), some (.int x)], [.ref 59, .int (x - 10)])) (w' := w) ((ex_stp (ins := .aload_n 0) rfl).trans rfl) ?_
  refine Go.next (f' := (31, [some (.ref 59), some (.int x)], [.ref 60, .int (x - 10)])) (w' := w) ((ex_stp (ins := .getfield 7) rfl).trans (vg_get (ci := 8) (k := 0) (pl := 976) (pc := 28) (lo := [some (.ref 59), some (.int x)]) (r := [.int (x - 10)]) (fs := fs) (v := .ref 60) h59 f59_0)) ?_
  refine Go.next (f' := (33, [some (.ref 59), some (.int x)], [.int 81, .ref 60, .int (x - 10)])) (w' := w) ((ex_stp (ins := .bipush 81) rfl).trans rfl) ?_
  refine Go.next (f' := (34, [some (.ref 59), some (.int x)], [.int (ex_gd ST (Int32.toNatClampNeg (81))), .int (x - 10)])) (w' := w) ((ex_stp (ins := .iaload) rfl).trans (vg_ald (by_ := false) (isL := false) (X := X) (pc := 33) (lo := [some (.ref 59), some (.int x)]) (r := [.int (x - 10)]) (i := 81) (l := ST) h60 rfl i3)) ?_
  refine Go.next (f' := (37, [some (.ref 59), some (.int x)], [])) (w' := w) ((ex_stp (ins := .if_icmp .ge 15) rfl).trans (vg_ib2f (c := .ge) (off := 15) (pc := 34) (lo := [some (.ref 59), some (.int x)]) (r := []) (w := w) (x := (x - 10)) (y := (ex_gd ST (Int32.toNatClampNeg (81)))) (kp_ge_f b4) (by decide))) ?_
  refine Go.next (f' := (38, [some (.ref 59), some (.int x)], [.ref 59])) (w' := w) ((ex_stp (ins := .aload_n 0) rfl).trans rfl) ?_
  refine Go.next (f' := (41, [some (.ref 59), some (.int x)], [.ref 69])) (w' := w) ((ex_stp (ins := .getfield 38) rfl).trans (vg_get (ci := 8) (k := 25) (pl := 1001) (pc := 38) (lo := [some (.ref 59), some (.int x)]) (r := []) (fs := fs) (v := .ref 69) h59 f59_25)) ?_
  refine Go.next (f' := (42, [some (.ref 59), some (.int x)], [.int x, .ref 69])) (w' := w) ((ex_stp (ins := .iload_n 1) rfl).trans rfl) ?_
  refine Go.next (f' := (44, [some (.ref 59), some (.int x)], [.int 10, .int x, .ref 69])) (w' := w) ((ex_stp (ins := .bipush 10) rfl).trans rfl) ?_
  refine Go.next (f' := (45, [some (.ref 59), some (.int x)], [.int (x - 10), .ref 69])) (w' := w) ((ex_stp (ins := .isub) rfl).trans rfl) ?_
  refine Go.next (f' := (46, [some (.ref 59), some (.int x)], [.int (ex_gd LB (Int32.toNatClampNeg ((x - 10))))])) (w' := w) ((ex_stp (ins := .iaload) rfl).trans (vg_ald (by_ := false) (isL := false) (X := X) (pc := 45) (lo := [some (.ref 59), some (.int x)]) (r := []) (i := (x - 10)) (l := LB) h69 rfl i5)) ?_
  refine Go.next (f' := (51, [some (.ref 59), some (.int x)], [.int (ex_gd LB (Int32.toNatClampNeg ((x - 10))))])) (w' := w) ((ex_stp (ins := .goto 5) rfl).trans rfl) ?_
  exact Go.ret ((ex_stp (ins := .ireturn) rfl).trans (vg_retI rfl))

set_option maxRecDepth 100000 in
theorem bm_0 {X : List Int32} {d : Nat} {x : Int32} {w : ex_W} {fs : List Value} (h59 : ex_at w 59 = some (.inr (.inr (8, fs)))) (c1 : Go X d mt_122 (ex_ent mt_122 [.int x]) w (some (.int 0), w))   : Go X (d + 1) mt_52 (ex_ent mt_52 [.ref 59, .int x]) w (some (.int (Int32.ofInt (-1))), w) := by
  show Go _ _ _ (0, [some (.ref 59), some (.int x)], []) _ _
  refine Go.next (f' := (1, [some (.ref 59), some (.int x)], [.int x])) (w' := w) ((ex_stp (ins := .iload_n 1) rfl).trans rfl) ?_
  refine Go.call (cal := 122) (as := [.int x]) (g := (4, [some (.ref 59), some (.int x)], [])) (M' := mt_122) (r := some (.int 0)) (w' := w) ((ex_stp (ins := .invokestatic 235) rfl).trans (vg_cl1 (cal := 122) (n := 1) (rc := 0) (p1 := 1292) (p2 := 1293) (p3 := 76) (pc := 1) (lo := [some (.ref 59), some (.int x)]) (st := [.int x]) (w := w) (Nat.le_of_ble_eq_true rfl) (Nat.le_of_ble_eq_true rfl))) rfl (Nat.le_of_ble_eq_true rfl) c1 ?_
  show Go _ _ _ (4, [some (.ref 59), some (.int x)], [.int 0]) _ _
  refine Go.next (f' := (7, [some (.ref 59), some (.int x)], [])) (w' := w) ((ex_stp (ins := .ifCond .ne 5) rfl).trans (vg_ib0f (c := .ne) (off := 5) (pc := 4) (lo := [some (.ref 59), some (.int x)]) (r := []) (w := w) (x := 0) (by decide) (by decide))) ?_
  refine Go.next (f' := (8, [some (.ref 59), some (.int x)], [.int (Int32.ofInt (-1))])) (w' := w) ((ex_stp (ins := .iconst (-1)) rfl).trans rfl) ?_
  exact Go.ret ((ex_stp (ins := .ireturn) rfl).trans (vg_retI rfl))

set_option maxRecDepth 100000 in
theorem bm_1 {X : List Int32} {d : Nat} {x v : Int32} {ST : List Int32} {w w1 w2 : ex_W} {fs fs1 : List Value} (h59 : ex_at w 59 = some (.inr (.inr (8, fs)))) (c1 : Go X d mt_122 (ex_ent mt_122 [.int x]) w (some (.int 1), w)) (c2 : Go X d mt_123 (ex_ent mt_123 [.ref 59]) w (none, w1)) (h59_1 : ex_at w1 59 = some (.inr (.inr (8, fs)))) (f59_0_1 : ex_at fs 0 = some (.ref 60)) (h60_1 : ex_at w1 60 = some (.inl (.int, ST))) (i3 : ex_ix 81 ST.length = true) (c4 : Go X d mt_127 (ex_ent mt_127 [.ref 59, .int (ex_gd ST (Int32.toNatClampNeg (81)))]) w1 (none, w2)) (h59_2 : ex_at w2 59 = some (.inr (.inr (8, fs1)))) (c5 : Go X d mt_125 (ex_ent mt_125 [.ref 59, .int x]) w2 (some (.int v), w2))   : Go X (d + 1) mt_52 (ex_ent mt_52 [.ref 59, .int x]) w (some (.int v), w2) := by
  show Go _ _ _ (0, [some (.ref 59), some (.int x)], []) _ _
  refine Go.next (f' := (1, [some (.ref 59), some (.int x)], [.int x])) (w' := w) ((ex_stp (ins := .iload_n 1) rfl).trans rfl) ?_
  refine Go.call (cal := 122) (as := [.int x]) (g := (4, [some (.ref 59), some (.int x)], [])) (M' := mt_122) (r := some (.int 1)) (w' := w) ((ex_stp (ins := .invokestatic 235) rfl).trans (vg_cl1 (cal := 122) (n := 1) (rc := 0) (p1 := 1292) (p2 := 1293) (p3 := 76) (pc := 1) (lo := [some (.ref 59), some (.int x)]) (st := [.int x]) (w := w) (Nat.le_of_ble_eq_true rfl) (Nat.le_of_ble_eq_true rfl))) rfl (Nat.le_of_ble_eq_true rfl) c1 ?_
  show Go _ _ _ (4, [some (.ref 59), some (.int x)], [.int 1]) _ _
  refine Go.next (f' := (9, [some (.ref 59), some (.int x)], [])) (w' := w) ((ex_stp (ins := .ifCond .ne 5) rfl).trans (vg_ib0t (c := .ne) (off := 5) (pc := 4) (lo := [some (.ref 59), some (.int x)]) (r := []) (w := w) (x := 1) (by decide) (by decide))) ?_
  refine Go.next (f' := (10, [some (.ref 59), some (.int x)], [.ref 59])) (w' := w) ((ex_stp (ins := .aload_n 0) rfl).trans rfl) ?_
  refine Go.call (cal := 123) (as := [.ref 59]) (g := (13, [some (.ref 59), some (.int x)], [])) (M' := mt_123) (r := none) (w' := w1) ((ex_stp (ins := .invokevirtual 238) rfl).trans (vg_cl0 (cal := 123) (n := 1) (rc := 8) (p1 := 1297) (p2 := 1299) (p3 := 56) (fs := fs) (tl := []) (pc := 10) (lo := [some (.ref 59), some (.int x)]) (st := [.ref 59]) (Nat.le_of_ble_eq_true rfl) (Nat.le_of_ble_eq_true rfl) rfl h59)) rfl (Nat.le_of_ble_eq_true rfl) c2 ?_
  show Go _ _ _ (13, [some (.ref 59), some (.int x)], []) _ _
  refine Go.next (f' := (14, [some (.ref 59), some (.int x)], [.ref 59])) (w' := w1) ((ex_stp (ins := .aload_n 0) rfl).trans rfl) ?_
  refine Go.next (f' := (15, [some (.ref 59), some (.int x)], [.ref 59, .ref 59])) (w' := w1) ((ex_stp (ins := .aload_n 0) rfl).trans rfl) ?_
  refine Go.next (f' := (18, [some (.ref 59), some (.int x)], [.ref 60, .ref 59])) (w' := w1) ((ex_stp (ins := .getfield 7) rfl).trans (vg_get (ci := 8) (k := 0) (pl := 976) (pc := 15) (lo := [some (.ref 59), some (.int x)]) (r := [.ref 59]) (fs := fs) (v := .ref 60) h59_1 f59_0_1)) ?_
  refine Go.next (f' := (20, [some (.ref 59), some (.int x)], [.int 81, .ref 60, .ref 59])) (w' := w1) ((ex_stp (ins := .bipush 81) rfl).trans rfl) ?_
  refine Go.next (f' := (21, [some (.ref 59), some (.int x)], [.int (ex_gd ST (Int32.toNatClampNeg (81))), .ref 59])) (w' := w1) ((ex_stp (ins := .iaload) rfl).trans (vg_ald (by_ := false) (isL := false) (X := X) (pc := 20) (lo := [some (.ref 59), some (.int x)]) (r := [.ref 59]) (i := 81) (l := ST) h60_1 rfl i3)) ?_
  refine Go.call (cal := 127) (as := [.ref 59, .int (ex_gd ST (Int32.toNatClampNeg (81)))]) (g := (24, [some (.ref 59), some (.int x)], [])) (M' := mt_127) (r := none) (w' := w2) ((ex_stp (ins := .invokevirtual 247) rfl).trans (vg_cl0 (cal := 127) (n := 2) (rc := 8) (p1 := 1318) (p2 := 1320) (p3 := 60) (fs := fs) (tl := [.int (ex_gd ST (Int32.toNatClampNeg (81)))]) (pc := 21) (lo := [some (.ref 59), some (.int x)]) (st := [.int (ex_gd ST (Int32.toNatClampNeg (81))), .ref 59]) (Nat.le_of_ble_eq_true rfl) (Nat.le_of_ble_eq_true rfl) rfl h59_1)) rfl (Nat.le_of_ble_eq_true rfl) c4 ?_
  show Go _ _ _ (24, [some (.ref 59), some (.int x)], []) _ _
  refine Go.next (f' := (25, [some (.ref 59), some (.int x)], [.ref 59])) (w' := w2) ((ex_stp (ins := .aload_n 0) rfl).trans rfl) ?_
  refine Go.next (f' := (26, [some (.ref 59), some (.int x)], [.int x, .ref 59])) (w' := w2) ((ex_stp (ins := .iload_n 1) rfl).trans rfl) ?_
  refine Go.call (cal := 125) (as := [.ref 59, .int x]) (g := (29, [some (.ref 59), some (.int x)], [])) (M' := mt_125) (r := some (.int v)) (w' := w2) ((ex_stp (ins := .invokevirtual 244) rfl).trans (vg_cl0 (cal := 125) (n := 2) (rc := 8) (p1 := 1310) (p2 := 1312) (p3 := 59) (fs := fs1) (tl := [.int x]) (pc := 26) (lo := [some (.ref 59), some (.int x)]) (st := [.int x, .ref 59]) (Nat.le_of_ble_eq_true rfl) (Nat.le_of_ble_eq_true rfl) rfl h59_2)) rfl (Nat.le_of_ble_eq_true rfl) c5 ?_
  show Go _ _ _ (29, [some (.ref 59), some (.int x)], [.int v]) _ _
  exact Go.ret ((ex_stp (ins := .ireturn) rfl).trans (vg_retI rfl))

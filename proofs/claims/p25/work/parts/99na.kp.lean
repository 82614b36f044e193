/-! BRANCHES AS NUMBERS, worlds with one put a cell, texts. -/
section KP
variable {x y : Int32} {c : Int}
theorem kp_lt_t (h : x.toInt < y.toInt) : ex_c2 .lt x y = true := by rw [kc_lt]; exact decide_eq_true h
theorem kp_lt_f (h : x.toInt ≥ y.toInt) : ex_c2 .lt x y = false := by rw [kc_lt]; exact decide_eq_false (by omega)
theorem kp_ge_t (h : x.toInt ≥ y.toInt) : ex_c2 .ge x y = true := by rw [kc_ge]; exact decide_eq_true h
theorem kp_ge_f (h : x.toInt < y.toInt) : ex_c2 .ge x y = false := by rw [kc_ge]; exact decide_eq_false (by omega)
theorem kp_gt_t (h : x.toInt > y.toInt) : ex_c2 .gt x y = true := by rw [kc_gt]; exact decide_eq_true h
theorem kp_gt_f (h : x.toInt ≤ y.toInt) : ex_c2 .gt x y = false := by rw [kc_gt]; exact decide_eq_false (by omega)
theorem kp_le_t (h : x.toInt ≤ y.toInt) : ex_c2 .le x y = true := by rw [kc_le]; exact decide_eq_true h
theorem kp_le_f (h : x.toInt > y.toInt) : ex_c2 .le x y = false := by rw [kc_le]; exact decide_eq_false (by omega)
theorem kp_eq_t (h : x.toInt = y.toInt) : ex_c2 .eq x y = true := by rw [kc_eq]; exact decide_eq_true h
theorem kp_eq_f (h : ¬ x.toInt = y.toInt) : ex_c2 .eq x y = false := by rw [kc_eq]; exact decide_eq_false h
theorem kp_ne_t (h : ¬ x.toInt = y.toInt) : ex_c2 .ne x y = true := by rw [kc_ne]; exact decide_eq_true h
theorem kp_ne_f (h : x.toInt = y.toInt) : ex_c2 .ne x y = false := by rw [kc_ne]; exact decide_eq_false (fun q => q h)
theorem kn_lt_t (e : y.toInt = c) (h : x.toInt < c) : ex_c2 .lt x y = true := kp_lt_t (by omega)
theorem kn_lt_f (e : y.toInt = c) (h : x.toInt ≥ c) : ex_c2 .lt x y = false := kp_lt_f (by omega)
theorem kn_ge_t (e : y.toInt = c) (h : x.toInt ≥ c) : ex_c2 .ge x y = true := kp_ge_t (by omega)
theorem kn_ge_f (e : y.toInt = c) (h : x.toInt < c) : ex_c2 .ge x y = false := kp_ge_f (by omega)
theorem kn_gt_t (e : y.toInt = c) (h : x.toInt > c) : ex_c2 .gt x y = true := kp_gt_t (by omega)
theorem kn_gt_f (e : y.toInt = c) (h : x.toInt ≤ c) : ex_c2 .gt x y = false := kp_gt_f (by omega)
theorem kn_le_t (e : y.toInt = c) (h : x.toInt ≤ c) : ex_c2 .le x y = true := kp_le_t (by omega)
theorem kn_le_f (e : y.toInt = c) (h : x.toInt > c) : ex_c2 .le x y = false := kp_le_f (by omega)
theorem kn_eq_t (e : y.toInt = c) (h : x.toInt = c) : ex_c2 .eq x y = true := kp_eq_t (by omega)
theorem kn_eq_f (e : y.toInt = c) (h : ¬ x.toInt = c) : ex_c2 .eq x y = false := kp_eq_f (by omega)
theorem kn_ne_t (e : y.toInt = c) (h : ¬ x.toInt = c) : ex_c2 .ne x y = true := kp_ne_t (by omega)
theorem kn_ne_f (e : y.toInt = c) (h : x.toInt = c) : ex_c2 .ne x y = false := kp_ne_f (by omega)
theorem kq_0 : (0 : Int32).toInt = 0 := by decide
theorem kq_lt_t (h : x.toInt < 0) : ex_c0 .lt x = true := by rw [k0_k2]; exact kn_lt_t kq_0 h
theorem kq_lt_f (h : x.toInt ≥ 0) : ex_c0 .lt x = false := by rw [k0_k2]; exact kn_lt_f kq_0 h
theorem kq_ge_t (h : x.toInt ≥ 0) : ex_c0 .ge x = true := by rw [k0_k2]; exact kn_ge_t kq_0 h
theorem kq_ge_f (h : x.toInt < 0) : ex_c0 .ge x = false := by rw [k0_k2]; exact kn_ge_f kq_0 h
theorem kq_gt_t (h : x.toInt > 0) : ex_c0 .gt x = true := by rw [k0_k2]; exact kn_gt_t kq_0 h
theorem kq_gt_f (h : x.toInt ≤ 0) : ex_c0 .gt x = false := by rw [k0_k2]; exact kn_gt_f kq_0 h
theorem kq_le_t (h : x.toInt ≤ 0) : ex_c0 .le x = true := by rw [k0_k2]; exact kn_le_t kq_0 h
theorem kq_le_f (h : x.toInt > 0) : ex_c0 .le x = false := by rw [k0_k2]; exact kn_le_f kq_0 h
theorem kq_eq_t (h : x.toInt = 0) : ex_c0 .eq x = true := by rw [k0_k2]; exact kn_eq_t kq_0 h
theorem kq_eq_f (h : ¬ x.toInt = 0) : ex_c0 .eq x = false := by rw [k0_k2]; exact kn_eq_f kq_0 h
theorem kq_ne_t (h : ¬ x.toInt = 0) : ex_c0 .ne x = true := by rw [k0_k2]; exact kn_ne_t kq_0 h
theorem kq_ne_f (h : x.toInt = 0) : ex_c0 .ne x = false := by rw [k0_k2]; exact kn_ne_f kq_0 h
end KP
theorem vg_eqw {o : Option ex_A} {f : ex_F} {w w' : ex_W} (h : o = some (.inl (f, w))) (e : w = w') : o = some (.inl (f, w')) := by rw [h, e]
theorem Go.eqw {X : List Int32} {d : Nat} {M : ex_M} {f : ex_F} {w w1 w2 : ex_W} {r : Option Value} (h : Go X d M f w (r, w1)) (e : w1 = w2) : Go X d M f w (r, w2) := by rw [← e]; exact h
theorem pp_t {w1 w2 : ex_W} {p q : Nat} {b c : ex_E} (hn : Nat.beq q p = false) (h : ex_put w1 p b = w2) : ex_put (ex_put w1 q c) p b = ex_put w2 q c := by
  rw [← h]
  simp only [ex_put_eq]
  exact List.set_comm c b (fun e => by rw [e, Nat.beq_refl] at hn; cases hn)
section VG3
variable {k pl pc a cal n p1 p2 p3 : Nat} {lo : ex_L} {st r tl : List Value} {w : ex_W} {x i : Int32} {X l : List Int32}
theorem vg_ib2t {M : ex_M} {y : Int32} {c : Jvm.ClassFile.Cond} {off : Int} (h : ex_c2 c x y = true) (h0 : 0 ≤ (pc : Int) + off) : ex_ins (.if_icmp c off) X M pc lo (.int y :: .int x :: r) w = some (.inl ((ex_tg pc off, lo, r), w)) := vg_b2t h h0
theorem vg_ib2f {M : ex_M} {y : Int32} {c : Jvm.ClassFile.Cond} {off : Int} (h : ex_c2 c x y = false) (h0 : 0 ≤ (pc : Int) + off) : ex_ins (.if_icmp c off) X M pc lo (.int y :: .int x :: r) w = some (.inl ((pc + 3, lo, r), w)) := vg_b2f h h0
theorem vg_ib0t {M : ex_M} {c : Jvm.ClassFile.Cond} {off : Int} (h : ex_c0 c x = true) (h0 : 0 ≤ (pc : Int) + off) : ex_ins (.ifCond c off) X M pc lo (.int x :: r) w = some (.inl ((ex_tg pc off, lo, r), w)) := vg_b0t h h0
theorem vg_ib0f {M : ex_M} {c : Jvm.ClassFile.Cond} {off : Int} (h : ex_c0 c x = false) (h0 : 0 ≤ (pc : Int) + off) : ex_ins (.ifCond c off) X M pc lo (.int x :: r) w = some (.inl ((pc + 3, lo, r), w)) := vg_b0f h h0
theorem vg_ts {M : ex_M} {d lw hi : Int} {offs : Array Int} {off : Int} (h1 : ¬ (x.toInt < lw ∨ hi < x.toInt)) (h2 : offs[(x.toInt - lw).toNat]? = some off) (h0 : 0 ≤ (pc : Int) + off) : ex_ins (.tableswitch d lw hi offs) X M pc lo (.int x :: r) w = some (.inl ((ex_tg pc off, lo, r), w)) := by
  show ex_tsw d lw hi offs pc lo (.int x :: r) w = _
  unfold ex_tsw ex_jp
  simp [h1, h2, h0, ex_go]
theorem vg_td {M : ex_M} {d lw hi : Int} {offs : Array Int} (h1 : x.toInt < lw ∨ hi < x.toInt) (h0 : 0 ≤ (pc : Int) + d) : ex_ins (.tableswitch d lw hi offs) X M pc lo (.int x :: r) w = some (.inl ((ex_tg pc d, lo, r), w)) := by
  show ex_tsw d lw hi offs pc lo (.int x :: r) w = _
  unfold ex_tsw ex_jp
  simp [h1, h0, ex_go]
theorem vg_sg0 {t : Option (Nat × Nat × Nat)} (hk : ex_sk a = true) : ex_gfs (some (0, pl)) t pc lo (.retAddr a :: r) w = some (.inl ((pc + 3, lo, .retAddr (a + 1) :: r), w)) := by
  unfold ex_gfs ex_sgf
  simp [hk, ex_go]
theorem vg_sg1 {t : Option (Nat × Nat × Nat)} (hk : ex_sk a = true) : ex_gfs (some (1, pl)) t pc lo (.retAddr a :: r) w = some (.inl ((pc + 3, lo, .int 0 :: r), w)) := by
  unfold ex_gfs ex_sgf
  simp [hk, ex_go]
theorem vg_sln (hb : ex_sb a = some l) : ex_aln X false pc lo (.retAddr a :: r) w = some (.inl ((pc + 1, lo, .int (Int32.ofNat l.length) :: r), w)) := by
  unfold ex_aln
  simp [hb, ex_go]
theorem vg_sld (hb : ex_sb a = some l) (hi : ex_ix i l.length = true) : ex_ald true X false pc lo (.int i :: .retAddr a :: r) w = some (.inl ((pc + 1, lo, .int (ex_gd l i.toNatClampNeg) :: r), w)) := by
  unfold ex_ald
  simp [hb, hi, ex_go]
theorem vg_clS (hn : n ≤ st.length) (hc : ex_cats (st.drop n) ≤ 8) (has : (st.take n).reverse = .retAddr a :: tl) (hk : ex_sk a = true) : ex_cl 0 (some (cal, n, 0, 100, p1, p2, p3)) pc lo st w = some (.inr (.inl (cal, .retAddr a :: tl, (pc + 3, lo, st.drop n)))) := by
  unfold ex_cl
  simp [hn, hc, has, hk]
theorem vg_retC {M : ex_M} {ty : FieldType} (hr : M.2.2.2.1 = some ty) (h : ex_ok ty x = true) : ex_ins .ireturn X M pc lo [.int x] w = some (.inr (.inr (some (.int x)))) := by
  show ex_ret M.2.2.2.1 [.int x] = _
  rw [hr]
  unfold ex_ret
  simp [h]
end VG3
/-- TextReader's fields; Told's; the reference's -/
def tr (dr : Nat) (L fa fp se P K S N : Int32) : List Value := [.ref 16, .int L, .int fa, .int fp, .ref dr, .int se, .int P, .int K, .int S, .int N]
def td (t : Nat) (mo ma ga ne bo dc ac wc : Int32) : List Value := [.ref (t + 1), .ref (t + 2), .ref (t + 3), .ref (t + 4), .ref (t + 5), .ref (t + 6), .int mo, .int ma, .int ga, .int ne, .int bo, .int dc, .int ac, .int wc]
def nm (z : Nat → Int32) (mo ma ym dm dt tl hn hm tp po fr so va fa wa : Int32) : List Value := [.ref 60, .ref 61, .int mo, .int ma, .ref 62, .ref 63, .int ym, .ref 64, .int dm, .int dt, .ref 65, .int tl, .int hn, .int hm, .ref 66, .int tp, .int po, .int fr, .int so, .int va, .int fa, .int wa, .ref 67, .int (z 0), .ref 68, .ref 69, .int (z 1), .ref 70, .ref 71, .ref 72, .ref 73, .ref 74, .ref 75, .int (z 2)]

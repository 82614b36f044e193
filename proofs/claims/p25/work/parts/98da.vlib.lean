/-! STEPS OF THE ABSTRACT MACHINE OVER CELLS THAT ARE KNOWN: for walks written by wip/vg/vgen.py. -/
theorem vg_at_put {α : Type} {l : List α} {i : Nat} {x y : α} (h : ex_at l i = some y) : ex_at (ex_put l i x) i = some x := by
  rw [ex_at_eq] at h ⊢
  rw [ex_put_eq, List.getElem?_set, if_pos rfl, if_pos (List.getElem?_eq_some_iff.mp h).1]
theorem vg_at_ne {α : Type} {l : List α} {i j : Nat} {x : α} (h : Nat.beq i j = false) : ex_at (ex_put l i x) j = ex_at l j := by
  rw [ex_at_eq, ex_at_eq, ex_put_eq, List.getElem?_set, if_neg (fun e => by subst e; rw [Nat.beq_refl] at h; cases h)]
theorem vg_at_o {α : Type} {l : List α} {i j : Nat} {x y : α} (hn : Nat.beq i j = false) (h : ex_at l j = some y) : ex_at (ex_put l i x) j = some y := (vg_at_ne hn).trans h
theorem vg_len {α : Type} {l : List α} {i : Nat} {y : α} (h : ex_at l i = some y) : i < l.length := by
  rw [ex_at_eq] at h
  exact (List.getElem?_eq_some_iff.mp h).1
section VG
variable {ci k pl pc a cal n rc p1 p2 p3 : Nat} {lo : ex_L} {st r tl fs : List Value} {w : ex_W} {v : Value} {x y i : Int32} {X l : List Int32}
theorem vg_get (h : ex_at w a = some (.inr (.inr (ci, fs)))) (hf : ex_at fs k = some v) : ex_gfs none (some (ci, k, pl)) pc lo (.ref a :: r) w = some (.inl ((pc + 3, lo, v :: r), w)) := by
  unfold ex_gfs ex_gf
  simp [h, hf, ex_go]
theorem vg_put {cn : Nat} {isI : Bool} (h : ex_at w a = some (.inr (.inr (ci, fs)))) (hk : k < fs.length) (hfit : ex_fit (ex_fty ci k) v = true) (hfin : ex_ffin ci k = false) : ex_pf (some (ci, k, pl)) cn isI pc lo (v :: .ref a :: r) w = some (.inl ((pc + 3, lo, r), ex_put w a (.inr (.inr (ci, ex_put fs k v))))) := by
  unfold ex_pf
  simp [h, hk, hfit, hfin, ex_go]
theorem vg_ald {by_ isL : Bool} {ty : FieldType} (h : ex_at w a = some (.inl (ty, l))) (hty : ex_aty by_ ty = true) (hi : ex_ix i l.length = true) : ex_ald by_ X isL pc lo (.int i :: .ref a :: r) w = some (.inl ((pc + 1, lo, .int (ex_gd l i.toNatClampNeg) :: r), w)) := by
  unfold ex_ald
  simp [h, hty, hi, ex_go]
theorem vg_ast {by_ : Bool} {ty : FieldType} (h : ex_at w a = some (.inl (ty, l))) (hty : ex_aty by_ ty = true) (hi : ex_ix i l.length = true) : ex_ast by_ pc lo (.int x :: .int i :: .ref a :: r) w = some (.inl ((pc + 1, lo, r), ex_put w a (.inl (ty, ex_put l i.toNatClampNeg (ex_nar ty x))))) := by
  unfold ex_ast
  simp [h, hty, hi, ex_go]
theorem vg_alq {q : List (Option Nat)} (h : ex_at w a = some (.inr (.inl (ci, q)))) (hc : ex_qix ci < 100) (hi : ex_ix i q.length = true) (hq : ex_at q i.toNatClampNeg = some (some k)) : ex_alq pc lo (.int i :: .ref a :: r) w = some (.inl ((pc + 1, lo, .ref k :: r), w)) := by
  unfold ex_alq
  simp [h, hc, hi, hq, ex_go]
theorem vg_aln {isL : Bool} {ty : FieldType} (h : ex_at w a = some (.inl (ty, l))) (hty : ty = .int ∨ ty = .byte ∨ ty = .boolean) : ex_aln X isL pc lo (.ref a :: r) w = some (.inl ((pc + 1, lo, .int (Int32.ofNat l.length) :: r), w)) := by
  unfold ex_aln
  simp [h, hty, ex_go]
theorem vg_cl1 (hn : n ≤ st.length) (hc : ex_cats (st.drop n) ≤ 8) : ex_cl 1 (some (cal, n, 1, rc, p1, p2, p3)) pc lo st w = some (.inr (.inl (cal, (st.take n).reverse, (pc + 3, lo, st.drop n)))) := by
  unfold ex_cl
  simp [hn, hc]
theorem vg_cl0 (hn : n ≤ st.length) (hc : ex_cats (st.drop n) ≤ 8) (has : (st.take n).reverse = .ref a :: tl) (hw : ex_at w a = some (.inr (.inr (rc, fs)))) : ex_cl 0 (some (cal, n, 0, rc, p1, p2, p3)) pc lo st w = some (.inr (.inl (cal, .ref a :: tl, (pc + 3, lo, st.drop n)))) := by
  unfold ex_cl
  simp [hn, hc, has, hw]
theorem vg_b2t {c : Jvm.ClassFile.Cond} {off : Int} (h : ex_c2 c x y = true) (h0 : 0 ≤ (pc : Int) + off) : ex_b2 c off pc lo (.int y :: .int x :: r) w = some (.inl ((ex_tg pc off, lo, r), w)) := by
  unfold ex_b2 ex_if
  simp [h, h0, ex_go]
theorem vg_b2f {c : Jvm.ClassFile.Cond} {off : Int} (h : ex_c2 c x y = false) (h0 : 0 ≤ (pc : Int) + off) : ex_b2 c off pc lo (.int y :: .int x :: r) w = some (.inl ((pc + 3, lo, r), w)) := by
  unfold ex_b2 ex_if
  simp [h, h0, ex_go]
theorem vg_b0t {c : Jvm.ClassFile.Cond} {off : Int} (h : ex_c0 c x = true) (h0 : 0 ≤ (pc : Int) + off) : ex_b0 c off pc lo (.int x :: r) w = some (.inl ((ex_tg pc off, lo, r), w)) := by
  unfold ex_b0 ex_if
  simp [h, h0, ex_go]
theorem vg_b0f {c : Jvm.ClassFile.Cond} {off : Int} (h : ex_c0 c x = false) (h0 : 0 ≤ (pc : Int) + off) : ex_b0 c off pc lo (.int x :: r) w = some (.inl ((pc + 3, lo, r), w)) := by
  unfold ex_b0 ex_if
  simp [h, h0, ex_go]
theorem vg_reti (x : Int32) : ex_ret (some .int) [.int x] = some (.inr (.inr (some (.int x)))) := by
  unfold ex_ret
  have h : ex_ok .int x = true := decide_eq_true rfl
  simp [h]
theorem vg_retz (h : ex_ok .boolean x = true) : ex_ret (some .boolean) [.int x] = some (.inr (.inr (some (.int x)))) := by
  unfold ex_ret
  simp [h]
theorem vg_retI {M : ex_M} (hr : M.2.2.2.1 = some .int) : ex_ins .ireturn X M pc lo [.int x] w = some (.inr (.inr (some (.int x)))) := by
  show ex_ret M.2.2.2.1 [.int x] = _
  rw [hr]
  exact vg_reti x
theorem vg_retZ {M : ex_M} (hr : M.2.2.2.1 = some .boolean) (h : ex_ok .boolean x = true) : ex_ins .ireturn X M pc lo [.int x] w = some (.inr (.inr (some (.int x)))) := by
  show ex_ret M.2.2.2.1 [.int x] = _
  rw [hr]
  exact vg_retz h
end VG

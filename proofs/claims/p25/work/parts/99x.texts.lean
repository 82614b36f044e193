/-! WHAT WAS THERE AT THE START: the texts, two statics. Written by wip/law/claimgen.py. -/
theorem nb_l {a b : Jvm.Cond} {args : Array Value} {s : State} (h : (Jvm.Cond.and a b).before args s = true) : a.before args s = true := by
  rw [Cond.before_and, Bool.and_eq_true] at h
  exact h.1
theorem nb_r {a b : Jvm.Cond} {args : Array Value} {s : State} (h : (Jvm.Cond.and a b).before args s = true) : b.before args s = true := by
  rw [Cond.before_and, Bool.and_eq_true] at h
  exact h.2
noncomputable def js_tm (i : Nat) : Term := match i with
  | 0 => (Jvm.Term.string "NeverAgain$TextReader" (60 : Nat))
  | 1 => (Jvm.Term.string "NeverAgain$TextReader" (69 : Nat))
  | 2 => (Jvm.Term.string "NeverAgain$TextReader" (74 : Nat))
  | 3 => (Jvm.Term.string "NeverAgain$TextReader" (79 : Nat))
  | 4 => (Jvm.Term.string "NeverAgain$TextReader" (84 : Nat))
  | 5 => (Jvm.Term.string "NeverAgain$TextReader" (89 : Nat))
  | 6 => (Jvm.Term.string "NeverAgain$TextReader" (94 : Nat))
  | 7 => (Jvm.Term.string "NeverAgain$TextReader" (99 : Nat))
  | 8 => (Jvm.Term.string "NeverAgain$TextReader" (104 : Nat))
  | 9 => (Jvm.Term.string "NeverAgain$TextReader" (137 : Nat))
  | 10 => (Jvm.Term.string "NeverAgain$TextReader" (141 : Nat))
  | 11 => (Jvm.Term.string "NeverAgain$TextReader" (143 : Nat))
  | _ => .int 0
section JS
variable {args : Array Value} {s : State}
theorem js_ex_0 (h : narrow_1.before args s = true) : (Jvm.Cond.exactly (js_tm 0) "java/lang/String").before args s = true := by
  unfold narrow_1 at h
  exact nb_r (nb_r (nb_l (nb_l (nb_l (nb_r (nb_l (nb_l (h))))))))
theorem js_co_0 (h : narrow_1.before args s = true) : (Jvm.Cond.eq (.field (js_tm 0) "java/lang/String" "coder" "B") (.int 0)).before args s = true := by
  unfold narrow_1 at h
  exact nb_l (nb_r (nb_l (nb_l (nb_r (nb_l (nb_l (h)))))))
theorem js_ar_0 (h : narrow_1.before args s = true) : (Jvm.Cond.arrayOf (.field (js_tm 0) "java/lang/String" "value" "[B") .byte).before args s = true := by
  unfold narrow_1 at h
  exact nb_l (nb_r (nb_r (nb_l (nb_l (nb_r (nb_l (nb_l (h))))))))
theorem js_le_0 (h : narrow_1.before args s = true) : (Jvm.Cond.eq (.length (.field (js_tm 0) "java/lang/String" "value" "[B")) (.int 4)).before args s = true := by
  unfold narrow_1 at h
  exact nb_r (nb_r (nb_r (nb_l (nb_l (nb_r (nb_l (nb_l (h))))))))
theorem js_el_0_0 (h : narrow_1.before args s = true) : (Jvm.Cond.eq (.elem (.field (js_tm 0) "java/lang/String" "value" "[B") (.int 0)) (.int 109)).before args s = true := by
  unfold narrow_1 at h
  exact nb_l (nb_l (nb_r (nb_l (nb_r (nb_l (nb_l (h)))))))
theorem js_el_0_1 (h : narrow_1.before args s = true) : (Jvm.Cond.eq (.elem (.field (js_tm 0) "java/lang/String" "value" "[B") (.int 1)) (.int 111)).before args s = true := by
  unfold narrow_1 at h
  exact nb_l (nb_r (nb_l (nb_r (nb_l (nb_r (nb_l (nb_l (h))))))))
theorem js_el_0_2 (h : narrow_1.before args s = true) : (Jvm.Cond.eq (.elem (.field (js_tm 0) "java/lang/String" "value" "[B") (.int 2)) (.int 115)).before args s = true := by
  unfold narrow_1 at h
  exact nb_r (nb_r (nb_l (nb_r (nb_l (nb_r (nb_l (nb_l (h))))))))
theorem js_el_0_3 (h : narrow_1.before args s = true) : (Jvm.Cond.eq (.elem (.field (js_tm 0) "java/lang/String" "value" "[B") (.int 3)) (.int 116)).before args s = true := by
  unfold narrow_1 at h
  exact nb_l (nb_r (nb_r (nb_l (nb_r (nb_l (nb_l (h)))))))
theorem js_ex_1 (h : narrow_1.before args s = true) : (Jvm.Cond.exactly (js_tm 1) "java/lang/String").before args s = true := by
  unfold narrow_1 at h
  exact nb_l (nb_r (nb_r (nb_r (nb_l (nb_r (nb_l (nb_l (h))))))))
theorem js_co_1 (h : narrow_1.before args s = true) : (Jvm.Cond.eq (.field (js_tm 1) "java/lang/String" "coder" "B") (.int 0)).before args s = true := by
  unfold narrow_1 at h
  exact nb_r (nb_r (nb_r (nb_r (nb_l (nb_r (nb_l (nb_l (h))))))))
theorem js_ar_1 (h : narrow_1.before args s = true) : (Jvm.Cond.arrayOf (.field (js_tm 1) "java/lang/String" "value" "[B") .byte).before args s = true := by
  unfold narrow_1 at h
  exact nb_l (nb_l (nb_l (nb_r (nb_r (nb_l (nb_l (h)))))))
theorem js_le_1 (h : narrow_1.before args s = true) : (Jvm.Cond.eq (.length (.field (js_tm 1) "java/lang/String" "value" "[B")) (.int 7)).before args s = true := by
  unfold narrow_1 at h
  exact nb_l (nb_r (nb_l (nb_l (nb_r (nb_r (nb_l (nb_l (h))))))))
theorem js_el_1_0 (h : narrow_1.before args s = true) : (Jvm.Cond.eq (.elem (.field (js_tm 1) "java/lang/String" "value" "[B") (.int 0)) (.int 109)).before args s = true := by
  unfold narrow_1 at h
  exact nb_r (nb_r (nb_l (nb_l (nb_r (nb_r (nb_l (nb_l (h))))))))
theorem js_el_1_1 (h : narrow_1.before args s = true) : (Jvm.Cond.eq (.elem (.field (js_tm 1) "java/lang/String" "value" "[B") (.int 1)) (.int 97)).before args s = true := by
  unfold narrow_1 at h
  exact nb_l (nb_r (nb_l (nb_r (nb_r (nb_l (nb_l (h)))))))
theorem js_el_1_2 (h : narrow_1.before args s = true) : (Jvm.Cond.eq (.elem (.field (js_tm 1) "java/lang/String" "value" "[B") (.int 2)) (.int 116)).before args s = true := by
  unfold narrow_1 at h
  exact nb_l (nb_r (nb_r (nb_l (nb_r (nb_r (nb_l (nb_l (h))))))))
theorem js_el_1_3 (h : narrow_1.before args s = true) : (Jvm.Cond.eq (.elem (.field (js_tm 1) "java/lang/String" "value" "[B") (.int 3)) (.int 116)).before args s = true := by
  unfold narrow_1 at h
  exact nb_r (nb_r (nb_r (nb_l (nb_r (nb_r (nb_l (nb_l (h))))))))
theorem js_el_1_4 (h : narrow_1.before args s = true) : (Jvm.Cond.eq (.elem (.field (js_tm 1) "java/lang/String" "value" "[B") (.int 4)) (.int 101)).before args s = true := by
  unfold narrow_1 at h
  exact nb_l (nb_l (nb_r (nb_r (nb_r (nb_l (nb_l (h)))))))
theorem js_el_1_5 (h : narrow_1.before args s = true) : (Jvm.Cond.eq (.elem (.field (js_tm 1) "java/lang/String" "value" "[B") (.int 5)) (.int 114)).before args s = true := by
  unfold narrow_1 at h
  exact nb_l (nb_r (nb_l (nb_r (nb_r (nb_r (nb_l (nb_l (h))))))))
theorem js_el_1_6 (h : narrow_1.before args s = true) : (Jvm.Cond.eq (.elem (.field (js_tm 1) "java/lang/String" "value" "[B") (.int 6)) (.int 115)).before args s = true := by
  unfold narrow_1 at h
  exact nb_r (nb_r (nb_l (nb_r (nb_r (nb_r (nb_l (nb_l (h))))))))
theorem js_ex_2 (h : narrow_1.before args s = true) : (Jvm.Cond.exactly (js_tm 2) "java/lang/String").before args s = true := by
  unfold narrow_1 at h
  exact nb_l (nb_r (nb_r (nb_r (nb_r (nb_r (nb_l (nb_l (h))))))))
theorem js_co_2 (h : narrow_1.before args s = true) : (Jvm.Cond.eq (.field (js_tm 2) "java/lang/String" "coder" "B") (.int 0)).before args s = true := by
  unfold narrow_1 at h
  exact nb_r (nb_r (nb_r (nb_r (nb_r (nb_r (nb_l (nb_l (h))))))))
theorem js_ar_2 (h : narrow_1.before args s = true) : (Jvm.Cond.arrayOf (.field (js_tm 2) "java/lang/String" "value" "[B") .byte).before args s = true := by
  unfold narrow_1 at h
  exact nb_l (nb_l (nb_l (nb_l (nb_l (nb_r (nb_l (h)))))))
theorem js_le_2 (h : narrow_1.before args s = true) : (Jvm.Cond.eq (.length (.field (js_tm 2) "java/lang/String" "value" "[B")) (.int 3)).before args s = true := by
  unfold narrow_1 at h
  exact nb_r (nb_l (nb_l (nb_l (nb_l (nb_r (nb_l (h)))))))
theorem js_el_2_0 (h : narrow_1.before args s = true) : (Jvm.Cond.eq (.elem (.field (js_tm 2) "java/lang/String" "value" "[B") (.int 0)) (.int 103)).before args s = true := by
  unfold narrow_1 at h
  exact nb_l (nb_r (nb_l (nb_l (nb_l (nb_r (nb_l (h)))))))
theorem js_el_2_1 (h : narrow_1.before args s = true) : (Jvm.Cond.eq (.elem (.field (js_tm 2) "java/lang/String" "value" "[B") (.int 1)) (.int 97)).before args s = true := by
  unfold narrow_1 at h
  exact nb_l (nb_r (nb_r (nb_l (nb_l (nb_l (nb_r (nb_l (h))))))))
theorem js_el_2_2 (h : narrow_1.before args s = true) : (Jvm.Cond.eq (.elem (.field (js_tm 2) "java/lang/String" "value" "[B") (.int 2)) (.int 112)).before args s = true := by
  unfold narrow_1 at h
  exact nb_r (nb_r (nb_r (nb_l (nb_l (nb_l (nb_r (nb_l (h))))))))
theorem js_ex_3 (h : narrow_1.before args s = true) : (Jvm.Cond.exactly (js_tm 3) "java/lang/String").before args s = true := by
  unfold narrow_1 at h
  exact nb_r (nb_r (nb_l (nb_r (nb_l (nb_l (nb_r (nb_l (h))))))))
theorem js_co_3 (h : narrow_1.before args s = true) : (Jvm.Cond.eq (.field (js_tm 3) "java/lang/String" "coder" "B") (.int 0)).before args s = true := by
  unfold narrow_1 at h
  exact nb_l (nb_r (nb_r (nb_l (nb_l (nb_r (nb_l (h)))))))
theorem js_ar_3 (h : narrow_1.before args s = true) : (Jvm.Cond.arrayOf (.field (js_tm 3) "java/lang/String" "value" "[B") .byte).before args s = true := by
  unfold narrow_1 at h
  exact nb_l (nb_r (nb_r (nb_r (nb_l (nb_l (nb_r (nb_l (h))))))))
theorem js_le_3 (h : narrow_1.before args s = true) : (Jvm.Cond.eq (.length (.field (js_tm 3) "java/lang/String" "value" "[B")) (.int 4)).before args s = true := by
  unfold narrow_1 at h
  exact nb_r (nb_r (nb_r (nb_r (nb_l (nb_l (nb_r (nb_l (h))))))))
theorem js_el_3_0 (h : narrow_1.before args s = true) : (Jvm.Cond.eq (.elem (.field (js_tm 3) "java/lang/String" "value" "[B") (.int 0)) (.int 110)).before args s = true := by
  unfold narrow_1 at h
  exact nb_l (nb_l (nb_l (nb_r (nb_l (nb_r (nb_l (h)))))))
theorem js_el_3_1 (h : narrow_1.before args s = true) : (Jvm.Cond.eq (.elem (.field (js_tm 3) "java/lang/String" "value" "[B") (.int 1)) (.int 101)).before args s = true := by
  unfold narrow_1 at h
  exact nb_l (nb_r (nb_l (nb_l (nb_r (nb_l (nb_r (nb_l (h))))))))
theorem js_el_3_2 (h : narrow_1.before args s = true) : (Jvm.Cond.eq (.elem (.field (js_tm 3) "java/lang/String" "value" "[B") (.int 2)) (.int 97)).before args s = true := by
  unfold narrow_1 at h
  exact nb_r (nb_r (nb_l (nb_l (nb_r (nb_l (nb_r (nb_l (h))))))))
theorem js_el_3_3 (h : narrow_1.before args s = true) : (Jvm.Cond.eq (.elem (.field (js_tm 3) "java/lang/String" "value" "[B") (.int 3)) (.int 114)).before args s = true := by
  unfold narrow_1 at h
  exact nb_l (nb_r (nb_l (nb_r (nb_l (nb_r (nb_l (h)))))))
theorem js_ex_4 (h : narrow_1.before args s = true) : (Jvm.Cond.exactly (js_tm 4) "java/lang/String").before args s = true := by
  unfold narrow_1 at h
  exact nb_l (nb_r (nb_l (nb_r (nb_r (nb_l (nb_r (nb_l (h))))))))
theorem js_co_4 (h : narrow_1.before args s = true) : (Jvm.Cond.eq (.field (js_tm 4) "java/lang/String" "coder" "B") (.int 0)).before args s = true := by
  unfold narrow_1 at h
  exact nb_r (nb_r (nb_l (nb_r (nb_r (nb_l (nb_r (nb_l (h))))))))
theorem js_ar_4 (h : narrow_1.before args s = true) : (Jvm.Cond.arrayOf (.field (js_tm 4) "java/lang/String" "value" "[B") .byte).before args s = true := by
  unfold narrow_1 at h
  exact nb_l (nb_r (nb_r (nb_r (nb_l (nb_r (nb_l (h)))))))
theorem js_le_4 (h : narrow_1.before args s = true) : (Jvm.Cond.eq (.length (.field (js_tm 4) "java/lang/String" "value" "[B")) (.int 4)).before args s = true := by
  unfold narrow_1 at h
  exact nb_l (nb_r (nb_r (nb_r (nb_r (nb_l (nb_r (nb_l (h))))))))
theorem js_el_4_0 (h : narrow_1.before args s = true) : (Jvm.Cond.eq (.elem (.field (js_tm 4) "java/lang/String" "value" "[B") (.int 0)) (.int 98)).before args s = true := by
  unfold narrow_1 at h
  exact nb_r (nb_r (nb_r (nb_r (nb_r (nb_l (nb_r (nb_l (h))))))))
theorem js_el_4_1 (h : narrow_1.before args s = true) : (Jvm.Cond.eq (.elem (.field (js_tm 4) "java/lang/String" "value" "[B") (.int 1)) (.int 111)).before args s = true := by
  unfold narrow_1 at h
  exact nb_l (nb_l (nb_l (nb_l (nb_r (nb_r (nb_l (h)))))))
theorem js_el_4_2 (h : narrow_1.before args s = true) : (Jvm.Cond.eq (.elem (.field (js_tm 4) "java/lang/String" "value" "[B") (.int 2)) (.int 111)).before args s = true := by
  unfold narrow_1 at h
  exact nb_l (nb_r (nb_l (nb_l (nb_l (nb_r (nb_r (nb_l (h))))))))
theorem js_el_4_3 (h : narrow_1.before args s = true) : (Jvm.Cond.eq (.elem (.field (js_tm 4) "java/lang/String" "value" "[B") (.int 3)) (.int 107)).before args s = true := by
  unfold narrow_1 at h
  exact nb_r (nb_r (nb_l (nb_l (nb_l (nb_r (nb_r (nb_l (h))))))))
theorem js_ex_5 (h : narrow_1.before args s = true) : (Jvm.Cond.exactly (js_tm 5) "java/lang/String").before args s = true := by
  unfold narrow_1 at h
  exact nb_l (nb_r (nb_l (nb_l (nb_r (nb_l (nb_r (h)))))))
theorem js_co_5 (h : narrow_1.before args s = true) : (Jvm.Cond.eq (.field (js_tm 5) "java/lang/String" "coder" "B") (.int 0)).before args s = true := by
  unfold narrow_1 at h
  exact nb_l (nb_r (nb_r (nb_l (nb_l (nb_r (nb_l (nb_r (h))))))))
theorem js_ar_5 (h : narrow_1.before args s = true) : (Jvm.Cond.arrayOf (.field (js_tm 5) "java/lang/String" "value" "[B") .byte).before args s = true := by
  unfold narrow_1 at h
  exact nb_r (nb_r (nb_r (nb_l (nb_l (nb_r (nb_l (nb_r (h))))))))
theorem js_le_5 (h : narrow_1.before args s = true) : (Jvm.Cond.eq (.length (.field (js_tm 5) "java/lang/String" "value" "[B")) (.int 4)).before args s = true := by
  unfold narrow_1 at h
  exact nb_l (nb_l (nb_r (nb_l (nb_r (nb_l (nb_r (h)))))))
theorem js_el_5_0 (h : narrow_1.before args s = true) : (Jvm.Cond.eq (.elem (.field (js_tm 5) "java/lang/String" "value" "[B") (.int 0)) (.int 112)).before args s = true := by
  unfold narrow_1 at h
  exact nb_l (nb_r (nb_l (nb_r (nb_l (nb_r (nb_l (nb_r (h))))))))
theorem js_el_5_1 (h : narrow_1.before args s = true) : (Jvm.Cond.eq (.elem (.field (js_tm 5) "java/lang/String" "value" "[B") (.int 1)) (.int 97)).before args s = true := by
  unfold narrow_1 at h
  exact nb_r (nb_r (nb_l (nb_r (nb_l (nb_r (nb_l (nb_r (h))))))))
theorem js_el_5_2 (h : narrow_1.before args s = true) : (Jvm.Cond.eq (.elem (.field (js_tm 5) "java/lang/String" "value" "[B") (.int 2)) (.int 103)).before args s = true := by
  unfold narrow_1 at h
  exact nb_l (nb_r (nb_r (nb_l (nb_r (nb_l (nb_r (h)))))))
theorem js_el_5_3 (h : narrow_1.before args s = true) : (Jvm.Cond.eq (.elem (.field (js_tm 5) "java/lang/String" "value" "[B") (.int 3)) (.int 101)).before args s = true := by
  unfold narrow_1 at h
  exact nb_l (nb_r (nb_r (nb_r (nb_l (nb_r (nb_l (nb_r (h))))))))
theorem js_ex_6 (h : narrow_1.before args s = true) : (Jvm.Cond.exactly (js_tm 6) "java/lang/String").before args s = true := by
  unfold narrow_1 at h
  exact nb_l (nb_r (nb_l (nb_r (nb_r (nb_r (nb_l (nb_r (h))))))))
theorem js_co_6 (h : narrow_1.before args s = true) : (Jvm.Cond.eq (.field (js_tm 6) "java/lang/String" "coder" "B") (.int 0)).before args s = true := by
  unfold narrow_1 at h
  exact nb_r (nb_r (nb_l (nb_r (nb_r (nb_r (nb_l (nb_r (h))))))))
theorem js_ar_6 (h : narrow_1.before args s = true) : (Jvm.Cond.arrayOf (.field (js_tm 6) "java/lang/String" "value" "[B") .byte).before args s = true := by
  unfold narrow_1 at h
  exact nb_l (nb_r (nb_r (nb_r (nb_r (nb_l (nb_r (h)))))))
theorem js_le_6 (h : narrow_1.before args s = true) : (Jvm.Cond.eq (.length (.field (js_tm 6) "java/lang/String" "value" "[B")) (.int 4)).before args s = true := by
  unfold narrow_1 at h
  exact nb_l (nb_r (nb_r (nb_r (nb_r (nb_r (nb_l (nb_r (h))))))))
theorem js_el_6_0 (h : narrow_1.before args s = true) : (Jvm.Cond.eq (.elem (.field (js_tm 6) "java/lang/String" "value" "[B") (.int 0)) (.int 114)).before args s = true := by
  unfold narrow_1 at h
  exact nb_r (nb_r (nb_r (nb_r (nb_r (nb_r (nb_l (nb_r (h))))))))
theorem js_el_6_1 (h : narrow_1.before args s = true) : (Jvm.Cond.eq (.elem (.field (js_tm 6) "java/lang/String" "value" "[B") (.int 1)) (.int 117)).before args s = true := by
  unfold narrow_1 at h
  exact nb_l (nb_l (nb_l (nb_l (nb_l (nb_r (nb_r (h)))))))
theorem js_el_6_2 (h : narrow_1.before args s = true) : (Jvm.Cond.eq (.elem (.field (js_tm 6) "java/lang/String" "value" "[B") (.int 2)) (.int 110)).before args s = true := by
  unfold narrow_1 at h
  exact nb_l (nb_r (nb_l (nb_l (nb_l (nb_l (nb_r (nb_r (h))))))))
theorem js_el_6_3 (h : narrow_1.before args s = true) : (Jvm.Cond.eq (.elem (.field (js_tm 6) "java/lang/String" "value" "[B") (.int 3)) (.int 103)).before args s = true := by
  unfold narrow_1 at h
  exact nb_r (nb_r (nb_l (nb_l (nb_l (nb_l (nb_r (nb_r (h))))))))
theorem js_ex_7 (h : narrow_1.before args s = true) : (Jvm.Cond.exactly (js_tm 7) "java/lang/String").before args s = true := by
  unfold narrow_1 at h
  exact nb_l (nb_l (nb_l (nb_r (nb_l (nb_r (nb_r (h)))))))
theorem js_co_7 (h : narrow_1.before args s = true) : (Jvm.Cond.eq (.field (js_tm 7) "java/lang/String" "coder" "B") (.int 0)).before args s = true := by
  unfold narrow_1 at h
  exact nb_l (nb_r (nb_l (nb_l (nb_r (nb_l (nb_r (nb_r (h))))))))
theorem js_ar_7 (h : narrow_1.before args s = true) : (Jvm.Cond.arrayOf (.field (js_tm 7) "java/lang/String" "value" "[B") .byte).before args s = true := by
  unfold narrow_1 at h
  exact nb_r (nb_r (nb_l (nb_l (nb_r (nb_l (nb_r (nb_r (h))))))))
theorem js_le_7 (h : narrow_1.before args s = true) : (Jvm.Cond.eq (.length (.field (js_tm 7) "java/lang/String" "value" "[B")) (.int 3)).before args s = true := by
  unfold narrow_1 at h
  exact nb_l (nb_r (nb_l (nb_r (nb_l (nb_r (nb_r (h)))))))
theorem js_el_7_0 (h : narrow_1.before args s = true) : (Jvm.Cond.eq (.elem (.field (js_tm 7) "java/lang/String" "value" "[B") (.int 0)) (.int 97)).before args s = true := by
  unfold narrow_1 at h
  exact nb_l (nb_r (nb_r (nb_l (nb_r (nb_l (nb_r (nb_r (h))))))))
theorem js_el_7_1 (h : narrow_1.before args s = true) : (Jvm.Cond.eq (.elem (.field (js_tm 7) "java/lang/String" "value" "[B") (.int 1)) (.int 115)).before args s = true := by
  unfold narrow_1 at h
  exact nb_r (nb_r (nb_r (nb_l (nb_r (nb_l (nb_r (nb_r (h))))))))
theorem js_el_7_2 (h : narrow_1.before args s = true) : (Jvm.Cond.eq (.elem (.field (js_tm 7) "java/lang/String" "value" "[B") (.int 2)) (.int 107)).before args s = true := by
  unfold narrow_1 at h
  exact nb_l (nb_l (nb_r (nb_r (nb_l (nb_r (nb_r (h)))))))
theorem js_ex_8 (h : narrow_1.before args s = true) : (Jvm.Cond.exactly (js_tm 8) "java/lang/String").before args s = true := by
  unfold narrow_1 at h
  exact nb_r (nb_r (nb_r (nb_l (nb_l (nb_r (nb_r (nb_r (h))))))))
theorem js_co_8 (h : narrow_1.before args s = true) : (Jvm.Cond.eq (.field (js_tm 8) "java/lang/String" "coder" "B") (.int 0)).before args s = true := by
  unfold narrow_1 at h
  exact nb_l (nb_l (nb_r (nb_l (nb_r (nb_r (nb_r (h)))))))
theorem js_ar_8 (h : narrow_1.before args s = true) : (Jvm.Cond.arrayOf (.field (js_tm 8) "java/lang/String" "value" "[B") .byte).before args s = true := by
  unfold narrow_1 at h
  exact nb_l (nb_r (nb_l (nb_r (nb_l (nb_r (nb_r (nb_r (h))))))))
theorem js_le_8 (h : narrow_1.before args s = true) : (Jvm.Cond.eq (.length (.field (js_tm 8) "java/lang/String" "value" "[B")) (.int 4)).before args s = true := by
  unfold narrow_1 at h
  exact nb_r (nb_r (nb_l (nb_r (nb_l (nb_r (nb_r (nb_r (h))))))))
theorem js_el_8_0 (h : narrow_1.before args s = true) : (Jvm.Cond.eq (.elem (.field (js_tm 8) "java/lang/String" "value" "[B") (.int 0)) (.int 119)).before args s = true := by
  unfold narrow_1 at h
  exact nb_l (nb_r (nb_r (nb_l (nb_r (nb_r (nb_r (h)))))))
theorem js_el_8_1 (h : narrow_1.before args s = true) : (Jvm.Cond.eq (.elem (.field (js_tm 8) "java/lang/String" "value" "[B") (.int 1)) (.int 97)).before args s = true := by
  unfold narrow_1 at h
  exact nb_l (nb_r (nb_r (nb_r (nb_l (nb_r (nb_r (nb_r (h))))))))
theorem js_el_8_2 (h : narrow_1.before args s = true) : (Jvm.Cond.eq (.elem (.field (js_tm 8) "java/lang/String" "value" "[B") (.int 2)) (.int 105)).before args s = true := by
  unfold narrow_1 at h
  exact nb_r (nb_r (nb_r (nb_r (nb_l (nb_r (nb_r (nb_r (h))))))))
theorem js_el_8_3 (h : narrow_1.before args s = true) : (Jvm.Cond.eq (.elem (.field (js_tm 8) "java/lang/String" "value" "[B") (.int 3)) (.int 116)).before args s = true := by
  unfold narrow_1 at h
  exact nb_l (nb_l (nb_l (nb_r (nb_r (nb_r (nb_r (h)))))))
theorem js_ex_9 (h : narrow_1.before args s = true) : (Jvm.Cond.exactly (js_tm 9) "java/lang/String").before args s = true := by
  unfold narrow_1 at h
  exact nb_l (nb_r (nb_l (nb_r (nb_l (nb_r (nb_r (nb_l (h))))))))
theorem js_co_9 (h : narrow_1.before args s = true) : (Jvm.Cond.eq (.field (js_tm 9) "java/lang/String" "coder" "B") (.int 0)).before args s = true := by
  unfold narrow_1 at h
  exact nb_r (nb_r (nb_l (nb_r (nb_l (nb_r (nb_r (nb_l (h))))))))
theorem js_ar_9 (h : narrow_1.before args s = true) : (Jvm.Cond.arrayOf (.field (js_tm 9) "java/lang/String" "value" "[B") .byte).before args s = true := by
  unfold narrow_1 at h
  exact nb_l (nb_r (nb_r (nb_l (nb_r (nb_r (nb_l (h)))))))
theorem js_le_9 (h : narrow_1.before args s = true) : (Jvm.Cond.eq (.length (.field (js_tm 9) "java/lang/String" "value" "[B")) (.int 5)).before args s = true := by
  unfold narrow_1 at h
  exact nb_l (nb_r (nb_r (nb_r (nb_l (nb_r (nb_r (nb_l (h))))))))
theorem js_el_9_0 (h : narrow_1.before args s = true) : (Jvm.Cond.eq (.elem (.field (js_tm 9) "java/lang/String" "value" "[B") (.int 0)) (.int 102)).before args s = true := by
  unfold narrow_1 at h
  exact nb_r (nb_r (nb_r (nb_r (nb_l (nb_r (nb_r (nb_l (h))))))))
theorem js_el_9_1 (h : narrow_1.before args s = true) : (Jvm.Cond.eq (.elem (.field (js_tm 9) "java/lang/String" "value" "[B") (.int 1)) (.int 105)).before args s = true := by
  unfold narrow_1 at h
  exact nb_l (nb_l (nb_l (nb_r (nb_r (nb_r (nb_l (h)))))))
theorem js_el_9_2 (h : narrow_1.before args s = true) : (Jvm.Cond.eq (.elem (.field (js_tm 9) "java/lang/String" "value" "[B") (.int 2)) (.int 120)).before args s = true := by
  unfold narrow_1 at h
  exact nb_l (nb_r (nb_l (nb_l (nb_r (nb_r (nb_r (nb_l (h))))))))
theorem js_el_9_3 (h : narrow_1.before args s = true) : (Jvm.Cond.eq (.elem (.field (js_tm 9) "java/lang/String" "value" "[B") (.int 3)) (.int 101)).before args s = true := by
  unfold narrow_1 at h
  exact nb_r (nb_r (nb_l (nb_l (nb_r (nb_r (nb_r (nb_l (h))))))))
theorem js_el_9_4 (h : narrow_1.before args s = true) : (Jvm.Cond.eq (.elem (.field (js_tm 9) "java/lang/String" "value" "[B") (.int 4)) (.int 100)).before args s = true := by
  unfold narrow_1 at h
  exact nb_l (nb_r (nb_l (nb_r (nb_r (nb_r (nb_l (h)))))))
theorem js_ex_10 (h : narrow_1.before args s = true) : (Jvm.Cond.exactly (js_tm 10) "java/lang/String").before args s = true := by
  unfold narrow_1 at h
  exact nb_l (nb_r (nb_r (nb_r (nb_r (nb_r (nb_l (h)))))))
theorem js_co_10 (h : narrow_1.before args s = true) : (Jvm.Cond.eq (.field (js_tm 10) "java/lang/String" "coder" "B") (.int 0)).before args s = true := by
  unfold narrow_1 at h
  exact nb_l (nb_r (nb_r (nb_r (nb_r (nb_r (nb_r (nb_l (h))))))))
theorem js_ar_10 (h : narrow_1.before args s = true) : (Jvm.Cond.arrayOf (.field (js_tm 10) "java/lang/String" "value" "[B") .byte).before args s = true := by
  unfold narrow_1 at h
  exact nb_r (nb_r (nb_r (nb_r (nb_r (nb_r (nb_r (nb_l (h))))))))
theorem js_le_10 (h : narrow_1.before args s = true) : (Jvm.Cond.eq (.length (.field (js_tm 10) "java/lang/String" "value" "[B")) (.int 4)).before args s = true := by
  unfold narrow_1 at h
  exact nb_l (nb_l (nb_l (nb_l (nb_l (nb_l (nb_r (h)))))))
theorem js_el_10_0 (h : narrow_1.before args s = true) : (Jvm.Cond.eq (.elem (.field (js_tm 10) "java/lang/String" "value" "[B") (.int 0)) (.int 114)).before args s = true := by
  unfold narrow_1 at h
  exact nb_r (nb_l (nb_l (nb_l (nb_l (nb_l (nb_r (h)))))))
theorem js_el_10_1 (h : narrow_1.before args s = true) : (Jvm.Cond.eq (.elem (.field (js_tm 10) "java/lang/String" "value" "[B") (.int 1)) (.int 97)).before args s = true := by
  unfold narrow_1 at h
  exact nb_l (nb_r (nb_l (nb_l (nb_l (nb_l (nb_r (h)))))))
theorem js_el_10_2 (h : narrow_1.before args s = true) : (Jvm.Cond.eq (.elem (.field (js_tm 10) "java/lang/String" "value" "[B") (.int 2)) (.int 110)).before args s = true := by
  unfold narrow_1 at h
  exact nb_l (nb_r (nb_r (nb_l (nb_l (nb_l (nb_l (nb_r (h))))))))
theorem js_el_10_3 (h : narrow_1.before args s = true) : (Jvm.Cond.eq (.elem (.field (js_tm 10) "java/lang/String" "value" "[B") (.int 3)) (.int 107)).before args s = true := by
  unfold narrow_1 at h
  exact nb_r (nb_r (nb_r (nb_l (nb_l (nb_l (nb_l (nb_r (h))))))))
theorem js_ex_11 (h : narrow_1.before args s = true) : (Jvm.Cond.exactly (js_tm 11) "java/lang/String").before args s = true := by
  unfold narrow_1 at h
  exact nb_l (nb_l (nb_l (nb_r (nb_l (nb_l (nb_r (h)))))))
theorem js_co_11 (h : narrow_1.before args s = true) : (Jvm.Cond.eq (.field (js_tm 11) "java/lang/String" "coder" "B") (.int 0)).before args s = true := by
  unfold narrow_1 at h
  exact nb_l (nb_r (nb_l (nb_l (nb_r (nb_l (nb_l (nb_r (h))))))))
theorem js_ar_11 (h : narrow_1.before args s = true) : (Jvm.Cond.arrayOf (.field (js_tm 11) "java/lang/String" "value" "[B") .byte).before args s = true := by
  unfold narrow_1 at h
  exact nb_r (nb_r (nb_l (nb_l (nb_r (nb_l (nb_l (nb_r (h))))))))
theorem js_le_11 (h : narrow_1.before args s = true) : (Jvm.Cond.eq (.length (.field (js_tm 11) "java/lang/String" "value" "[B")) (.int 4)).before args s = true := by
  unfold narrow_1 at h
  exact nb_l (nb_r (nb_l (nb_r (nb_l (nb_l (nb_r (h)))))))
theorem js_el_11_0 (h : narrow_1.before args s = true) : (Jvm.Cond.eq (.elem (.field (js_tm 11) "java/lang/String" "value" "[B") (.int 0)) (.int 116)).before args s = true := by
  unfold narrow_1 at h
  exact nb_l (nb_r (nb_r (nb_l (nb_r (nb_l (nb_l (nb_r (h))))))))
theorem js_el_11_1 (h : narrow_1.before args s = true) : (Jvm.Cond.eq (.elem (.field (js_tm 11) "java/lang/String" "value" "[B") (.int 1)) (.int 111)).before args s = true := by
  unfold narrow_1 at h
  exact nb_r (nb_r (nb_r (nb_l (nb_r (nb_l (nb_l (nb_r (h))))))))
theorem js_el_11_2 (h : narrow_1.before args s = true) : (Jvm.Cond.eq (.elem (.field (js_tm 11) "java/lang/String" "value" "[B") (.int 2)) (.int 108)).before args s = true := by
  unfold narrow_1 at h
  exact nb_l (nb_l (nb_r (nb_r (nb_l (nb_l (nb_r (h)))))))
theorem js_el_11_3 (h : narrow_1.before args s = true) : (Jvm.Cond.eq (.elem (.field (js_tm 11) "java/lang/String" "value" "[B") (.int 3)) (.int 100)).before args s = true := by
  unfold narrow_1 at h
  exact nb_l (nb_r (nb_l (nb_r (nb_r (nb_l (nb_l (nb_r (h))))))))
theorem js_ne_0_1 (h : narrow_1.before args s = true) : (Jvm.Cond.not (Jvm.Cond.eq (js_tm 0) (js_tm 1))).before args s = true := by
  unfold narrow_1 at h
  exact nb_l (nb_r (nb_r (nb_r (nb_r (nb_l (nb_l (h)))))))
theorem js_ne_0_2 (h : narrow_1.before args s = true) : (Jvm.Cond.not (Jvm.Cond.eq (js_tm 0) (js_tm 2))).before args s = true := by
  unfold narrow_1 at h
  exact nb_l (nb_l (nb_r (nb_l (nb_l (nb_r (nb_l (h)))))))
theorem js_ne_1_2 (h : narrow_1.before args s = true) : (Jvm.Cond.not (Jvm.Cond.eq (js_tm 1) (js_tm 2))).before args s = true := by
  unfold narrow_1 at h
  exact nb_l (nb_r (nb_l (nb_r (nb_l (nb_l (nb_r (nb_l (h))))))))
theorem js_ne_0_3 (h : narrow_1.before args s = true) : (Jvm.Cond.not (Jvm.Cond.eq (js_tm 0) (js_tm 3))).before args s = true := by
  unfold narrow_1 at h
  exact nb_l (nb_r (nb_r (nb_l (nb_r (nb_l (nb_r (nb_l (h))))))))
theorem js_ne_1_3 (h : narrow_1.before args s = true) : (Jvm.Cond.not (Jvm.Cond.eq (js_tm 1) (js_tm 3))).before args s = true := by
  unfold narrow_1 at h
  exact nb_r (nb_r (nb_r (nb_l (nb_r (nb_l (nb_r (nb_l (h))))))))
theorem js_ne_2_3 (h : narrow_1.before args s = true) : (Jvm.Cond.not (Jvm.Cond.eq (js_tm 2) (js_tm 3))).before args s = true := by
  unfold narrow_1 at h
  exact nb_l (nb_l (nb_r (nb_r (nb_l (nb_r (nb_l (h)))))))
theorem js_ne_0_4 (h : narrow_1.before args s = true) : (Jvm.Cond.not (Jvm.Cond.eq (js_tm 0) (js_tm 4))).before args s = true := by
  unfold narrow_1 at h
  exact nb_l (nb_r (nb_l (nb_l (nb_r (nb_r (nb_l (h)))))))
theorem js_ne_1_4 (h : narrow_1.before args s = true) : (Jvm.Cond.not (Jvm.Cond.eq (js_tm 1) (js_tm 4))).before args s = true := by
  unfold narrow_1 at h
  exact nb_l (nb_r (nb_r (nb_l (nb_l (nb_r (nb_r (nb_l (h))))))))
theorem js_ne_2_4 (h : narrow_1.before args s = true) : (Jvm.Cond.not (Jvm.Cond.eq (js_tm 2) (js_tm 4))).before args s = true := by
  unfold narrow_1 at h
  exact nb_r (nb_r (nb_r (nb_l (nb_l (nb_r (nb_r (nb_l (h))))))))
theorem js_ne_3_4 (h : narrow_1.before args s = true) : (Jvm.Cond.not (Jvm.Cond.eq (js_tm 3) (js_tm 4))).before args s = true := by
  unfold narrow_1 at h
  exact nb_l (nb_l (nb_r (nb_l (nb_r (nb_r (nb_l (h)))))))
theorem js_ne_0_9 (h : narrow_1.before args s = true) : (Jvm.Cond.not (Jvm.Cond.eq (js_tm 0) (js_tm 9))).before args s = true := by
  unfold narrow_1 at h
  exact nb_l (nb_r (nb_r (nb_l (nb_r (nb_r (nb_r (nb_l (h))))))))
theorem js_ne_1_9 (h : narrow_1.before args s = true) : (Jvm.Cond.not (Jvm.Cond.eq (js_tm 1) (js_tm 9))).before args s = true := by
  unfold narrow_1 at h
  exact nb_r (nb_r (nb_r (nb_l (nb_r (nb_r (nb_r (nb_l (h))))))))
theorem js_ne_2_9 (h : narrow_1.before args s = true) : (Jvm.Cond.not (Jvm.Cond.eq (js_tm 2) (js_tm 9))).before args s = true := by
  unfold narrow_1 at h
  exact nb_l (nb_l (nb_r (nb_r (nb_r (nb_r (nb_l (h)))))))
theorem js_ne_3_9 (h : narrow_1.before args s = true) : (Jvm.Cond.not (Jvm.Cond.eq (js_tm 3) (js_tm 9))).before args s = true := by
  unfold narrow_1 at h
  exact nb_l (nb_r (nb_l (nb_r (nb_r (nb_r (nb_r (nb_l (h))))))))
theorem js_ne_4_9 (h : narrow_1.before args s = true) : (Jvm.Cond.not (Jvm.Cond.eq (js_tm 4) (js_tm 9))).before args s = true := by
  unfold narrow_1 at h
  exact nb_r (nb_r (nb_l (nb_r (nb_r (nb_r (nb_r (nb_l (h))))))))
theorem js_ne_0_10 (h : narrow_1.before args s = true) : (Jvm.Cond.not (Jvm.Cond.eq (js_tm 0) (js_tm 10))).before args s = true := by
  unfold narrow_1 at h
  exact nb_l (nb_l (nb_r (nb_l (nb_l (nb_l (nb_r (h)))))))
theorem js_ne_1_10 (h : narrow_1.before args s = true) : (Jvm.Cond.not (Jvm.Cond.eq (js_tm 1) (js_tm 10))).before args s = true := by
  unfold narrow_1 at h
  exact nb_l (nb_r (nb_l (nb_r (nb_l (nb_l (nb_l (nb_r (h))))))))
theorem js_ne_2_10 (h : narrow_1.before args s = true) : (Jvm.Cond.not (Jvm.Cond.eq (js_tm 2) (js_tm 10))).before args s = true := by
  unfold narrow_1 at h
  exact nb_r (nb_r (nb_l (nb_r (nb_l (nb_l (nb_l (nb_r (h))))))))
theorem js_ne_3_10 (h : narrow_1.before args s = true) : (Jvm.Cond.not (Jvm.Cond.eq (js_tm 3) (js_tm 10))).before args s = true := by
  unfold narrow_1 at h
  exact nb_l (nb_r (nb_r (nb_l (nb_l (nb_l (nb_r (h)))))))
theorem js_ne_4_10 (h : narrow_1.before args s = true) : (Jvm.Cond.not (Jvm.Cond.eq (js_tm 4) (js_tm 10))).before args s = true := by
  unfold narrow_1 at h
  exact nb_l (nb_r (nb_r (nb_r (nb_l (nb_l (nb_l (nb_r (h))))))))
theorem js_ne_9_10 (h : narrow_1.before args s = true) : (Jvm.Cond.not (Jvm.Cond.eq (js_tm 9) (js_tm 10))).before args s = true := by
  unfold narrow_1 at h
  exact nb_r (nb_r (nb_r (nb_r (nb_l (nb_l (nb_l (nb_r (h))))))))
theorem js_ne_0_11 (h : narrow_1.before args s = true) : (Jvm.Cond.not (Jvm.Cond.eq (js_tm 0) (js_tm 11))).before args s = true := by
  unfold narrow_1 at h
  exact nb_r (nb_r (nb_l (nb_r (nb_r (nb_l (nb_l (nb_r (h))))))))
theorem js_ne_1_11 (h : narrow_1.before args s = true) : (Jvm.Cond.not (Jvm.Cond.eq (js_tm 1) (js_tm 11))).before args s = true := by
  unfold narrow_1 at h
  exact nb_l (nb_r (nb_r (nb_r (nb_l (nb_l (nb_r (h)))))))
theorem js_ne_2_11 (h : narrow_1.before args s = true) : (Jvm.Cond.not (Jvm.Cond.eq (js_tm 2) (js_tm 11))).before args s = true := by
  unfold narrow_1 at h
  exact nb_l (nb_r (nb_r (nb_r (nb_r (nb_l (nb_l (nb_r (h))))))))
theorem js_ne_3_11 (h : narrow_1.before args s = true) : (Jvm.Cond.not (Jvm.Cond.eq (js_tm 3) (js_tm 11))).before args s = true := by
  unfold narrow_1 at h
  exact nb_r (nb_r (nb_r (nb_r (nb_r (nb_l (nb_l (nb_r (h))))))))
theorem js_ne_4_11 (h : narrow_1.before args s = true) : (Jvm.Cond.not (Jvm.Cond.eq (js_tm 4) (js_tm 11))).before args s = true := by
  unfold narrow_1 at h
  exact nb_l (nb_l (nb_l (nb_l (nb_r (nb_l (nb_r (h)))))))
theorem js_ne_9_11 (h : narrow_1.before args s = true) : (Jvm.Cond.not (Jvm.Cond.eq (js_tm 9) (js_tm 11))).before args s = true := by
  unfold narrow_1 at h
  exact nb_l (nb_r (nb_l (nb_l (nb_l (nb_r (nb_l (nb_r (h))))))))
theorem js_ne_10_11 (h : narrow_1.before args s = true) : (Jvm.Cond.not (Jvm.Cond.eq (js_tm 10) (js_tm 11))).before args s = true := by
  unfold narrow_1 at h
  exact nb_r (nb_r (nb_l (nb_l (nb_l (nb_r (nb_l (nb_r (h))))))))
theorem js_ne_0_5 (h : narrow_1.before args s = true) : (Jvm.Cond.not (Jvm.Cond.eq (js_tm 0) (js_tm 5))).before args s = true := by
  unfold narrow_1 at h
  exact nb_r (nb_r (nb_r (nb_r (nb_l (nb_r (nb_l (nb_r (h))))))))
theorem js_ne_1_5 (h : narrow_1.before args s = true) : (Jvm.Cond.not (Jvm.Cond.eq (js_tm 1) (js_tm 5))).before args s = true := by
  unfold narrow_1 at h
  exact nb_l (nb_l (nb_l (nb_r (nb_r (nb_l (nb_r (h)))))))
theorem js_ne_2_5 (h : narrow_1.before args s = true) : (Jvm.Cond.not (Jvm.Cond.eq (js_tm 2) (js_tm 5))).before args s = true := by
  unfold narrow_1 at h
  exact nb_l (nb_r (nb_l (nb_l (nb_r (nb_r (nb_l (nb_r (h))))))))
theorem js_ne_3_5 (h : narrow_1.before args s = true) : (Jvm.Cond.not (Jvm.Cond.eq (js_tm 3) (js_tm 5))).before args s = true := by
  unfold narrow_1 at h
  exact nb_r (nb_r (nb_l (nb_l (nb_r (nb_r (nb_l (nb_r (h))))))))
theorem js_ne_4_5 (h : narrow_1.before args s = true) : (Jvm.Cond.not (Jvm.Cond.eq (js_tm 4) (js_tm 5))).before args s = true := by
  unfold narrow_1 at h
  exact nb_l (nb_r (nb_l (nb_r (nb_r (nb_l (nb_r (h)))))))
theorem js_ne_9_5 (h : narrow_1.before args s = true) : (Jvm.Cond.not (Jvm.Cond.eq (js_tm 9) (js_tm 5))).before args s = true := by
  unfold narrow_1 at h
  exact nb_l (nb_r (nb_r (nb_l (nb_r (nb_r (nb_l (nb_r (h))))))))
theorem js_ne_10_5 (h : narrow_1.before args s = true) : (Jvm.Cond.not (Jvm.Cond.eq (js_tm 10) (js_tm 5))).before args s = true := by
  unfold narrow_1 at h
  exact nb_r (nb_r (nb_r (nb_l (nb_r (nb_r (nb_l (nb_r (h))))))))
theorem js_ne_11_5 (h : narrow_1.before args s = true) : (Jvm.Cond.not (Jvm.Cond.eq (js_tm 11) (js_tm 5))).before args s = true := by
  unfold narrow_1 at h
  exact nb_l (nb_l (nb_r (nb_r (nb_r (nb_l (nb_r (h)))))))
theorem js_ne_0_6 (h : narrow_1.before args s = true) : (Jvm.Cond.not (Jvm.Cond.eq (js_tm 0) (js_tm 6))).before args s = true := by
  unfold narrow_1 at h
  exact nb_l (nb_r (nb_l (nb_l (nb_l (nb_r (nb_r (h)))))))
theorem js_ne_1_6 (h : narrow_1.before args s = true) : (Jvm.Cond.not (Jvm.Cond.eq (js_tm 1) (js_tm 6))).before args s = true := by
  unfold narrow_1 at h
  exact nb_l (nb_r (nb_r (nb_l (nb_l (nb_l (nb_r (nb_r (h))))))))
theorem js_ne_2_6 (h : narrow_1.before args s = true) : (Jvm.Cond.not (Jvm.Cond.eq (js_tm 2) (js_tm 6))).before args s = true := by
  unfold narrow_1 at h
  exact nb_r (nb_r (nb_r (nb_l (nb_l (nb_l (nb_r (nb_r (h))))))))
theorem js_ne_3_6 (h : narrow_1.before args s = true) : (Jvm.Cond.not (Jvm.Cond.eq (js_tm 3) (js_tm 6))).before args s = true := by
  unfold narrow_1 at h
  exact nb_l (nb_l (nb_r (nb_l (nb_l (nb_r (nb_r (h)))))))
theorem js_ne_4_6 (h : narrow_1.before args s = true) : (Jvm.Cond.not (Jvm.Cond.eq (js_tm 4) (js_tm 6))).before args s = true := by
  unfold narrow_1 at h
  exact nb_l (nb_r (nb_l (nb_r (nb_l (nb_l (nb_r (nb_r (h))))))))
theorem js_ne_9_6 (h : narrow_1.before args s = true) : (Jvm.Cond.not (Jvm.Cond.eq (js_tm 9) (js_tm 6))).before args s = true := by
  unfold narrow_1 at h
  exact nb_r (nb_r (nb_l (nb_r (nb_l (nb_l (nb_r (nb_r (h))))))))
theorem js_ne_10_6 (h : narrow_1.before args s = true) : (Jvm.Cond.not (Jvm.Cond.eq (js_tm 10) (js_tm 6))).before args s = true := by
  unfold narrow_1 at h
  exact nb_l (nb_r (nb_r (nb_l (nb_l (nb_r (nb_r (h)))))))
theorem js_ne_11_6 (h : narrow_1.before args s = true) : (Jvm.Cond.not (Jvm.Cond.eq (js_tm 11) (js_tm 6))).before args s = true := by
  unfold narrow_1 at h
  exact nb_l (nb_r (nb_r (nb_r (nb_l (nb_l (nb_r (nb_r (h))))))))
theorem js_ne_5_6 (h : narrow_1.before args s = true) : (Jvm.Cond.not (Jvm.Cond.eq (js_tm 5) (js_tm 6))).before args s = true := by
  unfold narrow_1 at h
  exact nb_r (nb_r (nb_r (nb_r (nb_l (nb_l (nb_r (nb_r (h))))))))
theorem js_ne_0_7 (h : narrow_1.before args s = true) : (Jvm.Cond.not (Jvm.Cond.eq (js_tm 0) (js_tm 7))).before args s = true := by
  unfold narrow_1 at h
  exact nb_l (nb_r (nb_l (nb_r (nb_r (nb_l (nb_r (nb_r (h))))))))
theorem js_ne_1_7 (h : narrow_1.before args s = true) : (Jvm.Cond.not (Jvm.Cond.eq (js_tm 1) (js_tm 7))).before args s = true := by
  unfold narrow_1 at h
  exact nb_r (nb_r (nb_l (nb_r (nb_r (nb_l (nb_r (nb_r (h))))))))
theorem js_ne_2_7 (h : narrow_1.before args s = true) : (Jvm.Cond.not (Jvm.Cond.eq (js_tm 2) (js_tm 7))).before args s = true := by
  unfold narrow_1 at h
  exact nb_l (nb_r (nb_r (nb_r (nb_l (nb_r (nb_r (h)))))))
theorem js_ne_3_7 (h : narrow_1.before args s = true) : (Jvm.Cond.not (Jvm.Cond.eq (js_tm 3) (js_tm 7))).before args s = true := by
  unfold narrow_1 at h
  exact nb_l (nb_r (nb_r (nb_r (nb_r (nb_l (nb_r (nb_r (h))))))))
theorem js_ne_4_7 (h : narrow_1.before args s = true) : (Jvm.Cond.not (Jvm.Cond.eq (js_tm 4) (js_tm 7))).before args s = true := by
  unfold narrow_1 at h
  exact nb_r (nb_r (nb_r (nb_r (nb_r (nb_l (nb_r (nb_r (h))))))))
theorem js_ne_9_7 (h : narrow_1.before args s = true) : (Jvm.Cond.not (Jvm.Cond.eq (js_tm 9) (js_tm 7))).before args s = true := by
  unfold narrow_1 at h
  exact nb_l (nb_l (nb_l (nb_l (nb_r (nb_r (nb_r (h)))))))
theorem js_ne_10_7 (h : narrow_1.before args s = true) : (Jvm.Cond.not (Jvm.Cond.eq (js_tm 10) (js_tm 7))).before args s = true := by
  unfold narrow_1 at h
  exact nb_l (nb_r (nb_l (nb_l (nb_l (nb_r (nb_r (nb_r (h))))))))
theorem js_ne_11_7 (h : narrow_1.before args s = true) : (Jvm.Cond.not (Jvm.Cond.eq (js_tm 11) (js_tm 7))).before args s = true := by
  unfold narrow_1 at h
  exact nb_r (nb_r (nb_l (nb_l (nb_l (nb_r (nb_r (nb_r (h))))))))
theorem js_ne_5_7 (h : narrow_1.before args s = true) : (Jvm.Cond.not (Jvm.Cond.eq (js_tm 5) (js_tm 7))).before args s = true := by
  unfold narrow_1 at h
  exact nb_l (nb_r (nb_l (nb_l (nb_r (nb_r (nb_r (h)))))))
theorem js_ne_6_7 (h : narrow_1.before args s = true) : (Jvm.Cond.not (Jvm.Cond.eq (js_tm 6) (js_tm 7))).before args s = true := by
  unfold narrow_1 at h
  exact nb_l (nb_r (nb_r (nb_l (nb_l (nb_r (nb_r (nb_r (h))))))))
theorem js_ne_0_8 (h : narrow_1.before args s = true) : (Jvm.Cond.not (Jvm.Cond.eq (js_tm 0) (js_tm 8))).before args s = true := by
  unfold narrow_1 at h
  exact nb_l (nb_r (nb_l (nb_l (nb_r (nb_r (nb_r (nb_r (h))))))))
theorem js_ne_1_8 (h : narrow_1.before args s = true) : (Jvm.Cond.not (Jvm.Cond.eq (js_tm 1) (js_tm 8))).before args s = true := by
  unfold narrow_1 at h
  exact nb_r (nb_r (nb_l (nb_l (nb_r (nb_r (nb_r (nb_r (h))))))))
theorem js_ne_2_8 (h : narrow_1.before args s = true) : (Jvm.Cond.not (Jvm.Cond.eq (js_tm 2) (js_tm 8))).before args s = true := by
  unfold narrow_1 at h
  exact nb_l (nb_r (nb_l (nb_r (nb_r (nb_r (nb_r (h)))))))
theorem js_ne_3_8 (h : narrow_1.before args s = true) : (Jvm.Cond.not (Jvm.Cond.eq (js_tm 3) (js_tm 8))).before args s = true := by
  unfold narrow_1 at h
  exact nb_l (nb_r (nb_r (nb_l (nb_r (nb_r (nb_r (nb_r (h))))))))
theorem js_ne_4_8 (h : narrow_1.before args s = true) : (Jvm.Cond.not (Jvm.Cond.eq (js_tm 4) (js_tm 8))).before args s = true := by
  unfold narrow_1 at h
  exact nb_r (nb_r (nb_r (nb_l (nb_r (nb_r (nb_r (nb_r (h))))))))
theorem js_ne_9_8 (h : narrow_1.before args s = true) : (Jvm.Cond.not (Jvm.Cond.eq (js_tm 9) (js_tm 8))).before args s = true := by
  unfold narrow_1 at h
  exact nb_l (nb_l (nb_r (nb_r (nb_r (nb_r (nb_r (h)))))))
theorem js_ne_10_8 (h : narrow_1.before args s = true) : (Jvm.Cond.not (Jvm.Cond.eq (js_tm 10) (js_tm 8))).before args s = true := by
  unfold narrow_1 at h
  exact nb_l (nb_r (nb_l (nb_r (nb_r (nb_r (nb_r (nb_r (h))))))))
theorem js_ne_11_8 (h : narrow_1.before args s = true) : (Jvm.Cond.not (Jvm.Cond.eq (js_tm 11) (js_tm 8))).before args s = true := by
  unfold narrow_1 at h
  exact nb_r (nb_r (nb_l (nb_r (nb_r (nb_r (nb_r (nb_r (h))))))))
theorem js_ne_5_8 (h : narrow_1.before args s = true) : (Jvm.Cond.not (Jvm.Cond.eq (js_tm 5) (js_tm 8))).before args s = true := by
  unfold narrow_1 at h
  exact nb_l (nb_r (nb_r (nb_r (nb_r (nb_r (nb_r (h)))))))
theorem js_ne_6_8 (h : narrow_1.before args s = true) : (Jvm.Cond.not (Jvm.Cond.eq (js_tm 6) (js_tm 8))).before args s = true := by
  unfold narrow_1 at h
  exact nb_l (nb_r (nb_r (nb_r (nb_r (nb_r (nb_r (nb_r (h))))))))
theorem js_ne_7_8 (h : narrow_1.before args s = true) : (Jvm.Cond.not (Jvm.Cond.eq (js_tm 7) (js_tm 8))).before args s = true := by
  unfold narrow_1 at h
  exact nb_r (nb_r (nb_r (nb_r (nb_r (nb_r (nb_r (nb_r (h))))))))
theorem js_cs (h : narrow_1.before args s = true) : (Jvm.Cond.eq (.static "java/lang/String" "COMPACT_STRINGS" "Z") (.int 1)).before args s = true := by
  unfold narrow_1 at h
  exact nb_l (nb_r (nb_l (nb_l (nb_l (nb_l (nb_l (h)))))))
theorem js_fm (h : narrow_1.before args s = true) : (Jvm.Cond.isRef (.static "jdk/internal/util/Preconditions" "SIOOBE_FORMATTER" "Ljava/util/function/BiFunction;")).before args s = true := by
  unfold narrow_1 at h
  exact nb_l (nb_r (nb_r (nb_l (nb_l (nb_l (nb_l (nb_l (h))))))))
theorem js_ex (h : narrow_1.before args s = true) : ∀ i : Nat, i < 12 → (Jvm.Cond.exactly (js_tm i) "java/lang/String").before args s = true := by
  intro i hi
  match i, hi with
  | 0, _ => exact js_ex_0 h
  | 1, _ => exact js_ex_1 h
  | 2, _ => exact js_ex_2 h
  | 3, _ => exact js_ex_3 h
  | 4, _ => exact js_ex_4 h
  | 5, _ => exact js_ex_5 h
  | 6, _ => exact js_ex_6 h
  | 7, _ => exact js_ex_7 h
  | 8, _ => exact js_ex_8 h
  | 9, _ => exact js_ex_9 h
  | 10, _ => exact js_ex_10 h
  | 11, _ => exact js_ex_11 h
  | n + 12, hi => exact absurd hi (by omega)
theorem js_co (h : narrow_1.before args s = true) : ∀ i : Nat, i < 12 → (Jvm.Cond.eq (.field (js_tm i) "java/lang/String" "coder" "B") (.int 0)).before args s = true := by
  intro i hi
  match i, hi with
  | 0, _ => exact js_co_0 h
  | 1, _ => exact js_co_1 h
  | 2, _ => exact js_co_2 h
  | 3, _ => exact js_co_3 h
  | 4, _ => exact js_co_4 h
  | 5, _ => exact js_co_5 h
  | 6, _ => exact js_co_6 h
  | 7, _ => exact js_co_7 h
  | 8, _ => exact js_co_8 h
  | 9, _ => exact js_co_9 h
  | 10, _ => exact js_co_10 h
  | 11, _ => exact js_co_11 h
  | n + 12, hi => exact absurd hi (by omega)
theorem js_ar (h : narrow_1.before args s = true) : ∀ i : Nat, i < 12 → (Jvm.Cond.arrayOf (.field (js_tm i) "java/lang/String" "value" "[B") .byte).before args s = true := by
  intro i hi
  match i, hi with
  | 0, _ => exact js_ar_0 h
  | 1, _ => exact js_ar_1 h
  | 2, _ => exact js_ar_2 h
  | 3, _ => exact js_ar_3 h
  | 4, _ => exact js_ar_4 h
  | 5, _ => exact js_ar_5 h
  | 6, _ => exact js_ar_6 h
  | 7, _ => exact js_ar_7 h
  | 8, _ => exact js_ar_8 h
  | 9, _ => exact js_ar_9 h
  | 10, _ => exact js_ar_10 h
  | 11, _ => exact js_ar_11 h
  | n + 12, hi => exact absurd hi (by omega)
theorem js_le (h : narrow_1.before args s = true) : ∀ i : Nat, i < 12 → (Jvm.Cond.eq (.length (.field (js_tm i) "java/lang/String" "value" "[B")) (.int (Int32.ofNat ((ex_str.map fun q => q.2.2.2.length).getD i 0)))).before args s = true := by
  intro i hi
  match i, hi with
  | 0, _ => exact js_le_0 h
  | 1, _ => exact js_le_1 h
  | 2, _ => exact js_le_2 h
  | 3, _ => exact js_le_3 h
  | 4, _ => exact js_le_4 h
  | 5, _ => exact js_le_5 h
  | 6, _ => exact js_le_6 h
  | 7, _ => exact js_le_7 h
  | 8, _ => exact js_le_8 h
  | 9, _ => exact js_le_9 h
  | 10, _ => exact js_le_10 h
  | 11, _ => exact js_le_11 h
  | n + 12, hi => exact absurd hi (by omega)
theorem js_els_0 (h : narrow_1.before args s = true) : ∀ j : Nat, j < 4 → (Jvm.Cond.eq (.elem (.field (js_tm 0) "java/lang/String" "value" "[B") (.int (Int32.ofNat j))) (.int (((ex_str.map fun q => q.2.2.2).getD 0 []).getD j 0))).before args s = true := by
  intro j hj
  match j, hj with
  | 0, _ => exact js_el_0_0 h
  | 1, _ => exact js_el_0_1 h
  | 2, _ => exact js_el_0_2 h
  | 3, _ => exact js_el_0_3 h
  | n + 4, hj => exact absurd hj (by omega)
theorem js_els_1 (h : narrow_1.before args s = true) : ∀ j : Nat, j < 7 → (Jvm.Cond.eq (.elem (.field (js_tm 1) "java/lang/String" "value" "[B") (.int (Int32.ofNat j))) (.int (((ex_str.map fun q => q.2.2.2).getD 1 []).getD j 0))).before args s = true := by
  intro j hj
  match j, hj with
  | 0, _ => exact js_el_1_0 h
  | 1, _ => exact js_el_1_1 h
  | 2, _ => exact js_el_1_2 h
  | 3, _ => exact js_el_1_3 h
  | 4, _ => exact js_el_1_4 h
  | 5, _ => exact js_el_1_5 h
  | 6, _ => exact js_el_1_6 h
  | n + 7, hj => exact absurd hj (by omega)
theorem js_els_2 (h : narrow_1.before args s = true) : ∀ j : Nat, j < 3 → (Jvm.Cond.eq (.elem (.field (js_tm 2) "java/lang/String" "value" "[B") (.int (Int32.ofNat j))) (.int (((ex_str.map fun q => q.2.2.2).getD 2 []).getD j 0))).before args s = true := by
  intro j hj
  match j, hj with
  | 0, _ => exact js_el_2_0 h
  | 1, _ => exact js_el_2_1 h
  | 2, _ => exact js_el_2_2 h
  | n + 3, hj => exact absurd hj (by omega)
theorem js_els_3 (h : narrow_1.before args s = true) : ∀ j : Nat, j < 4 → (Jvm.Cond.eq (.elem (.field (js_tm 3) "java/lang/String" "value" "[B") (.int (Int32.ofNat j))) (.int (((ex_str.map fun q => q.2.2.2).getD 3 []).getD j 0))).before args s = true := by
  intro j hj
  match j, hj with
  | 0, _ => exact js_el_3_0 h
  | 1, _ => exact js_el_3_1 h
  | 2, _ => exact js_el_3_2 h
  | 3, _ => exact js_el_3_3 h
  | n + 4, hj => exact absurd hj (by omega)
theorem js_els_4 (h : narrow_1.before args s = true) : ∀ j : Nat, j < 4 → (Jvm.Cond.eq (.elem (.field (js_tm 4) "java/lang/String" "value" "[B") (.int (Int32.ofNat j))) (.int (((ex_str.map fun q => q.2.2.2).getD 4 []).getD j 0))).before args s = true := by
  intro j hj
  match j, hj with
  | 0, _ => exact js_el_4_0 h
  | 1, _ => exact js_el_4_1 h
  | 2, _ => exact js_el_4_2 h
  | 3, _ => exact js_el_4_3 h
  | n + 4, hj => exact absurd hj (by omega)
theorem js_els_5 (h : narrow_1.before args s = true) : ∀ j : Nat, j < 4 → (Jvm.Cond.eq (.elem (.field (js_tm 5) "java/lang/String" "value" "[B") (.int (Int32.ofNat j))) (.int (((ex_str.map fun q => q.2.2.2).getD 5 []).getD j 0))).before args s = true := by
  intro j hj
  match j, hj with
  | 0, _ => exact js_el_5_0 h
  | 1, _ => exact js_el_5_1 h
  | 2, _ => exact js_el_5_2 h
  | 3, _ => exact js_el_5_3 h
  | n + 4, hj => exact absurd hj (by omega)
theorem js_els_6 (h : narrow_1.before args s = true) : ∀ j : Nat, j < 4 → (Jvm.Cond.eq (.elem (.field (js_tm 6) "java/lang/String" "value" "[B") (.int (Int32.ofNat j))) (.int (((ex_str.map fun q => q.2.2.2).getD 6 []).getD j 0))).before args s = true := by
  intro j hj
  match j, hj with
  | 0, _ => exact js_el_6_0 h
  | 1, _ => exact js_el_6_1 h
  | 2, _ => exact js_el_6_2 h
  | 3, _ => exact js_el_6_3 h
  | n + 4, hj => exact absurd hj (by omega)
theorem js_els_7 (h : narrow_1.before args s = true) : ∀ j : Nat, j < 3 → (Jvm.Cond.eq (.elem (.field (js_tm 7) "java/lang/String" "value" "[B") (.int (Int32.ofNat j))) (.int (((ex_str.map fun q => q.2.2.2).getD 7 []).getD j 0))).before args s = true := by
  intro j hj
  match j, hj with
  | 0, _ => exact js_el_7_0 h
  | 1, _ => exact js_el_7_1 h
  | 2, _ => exact js_el_7_2 h
  | n + 3, hj => exact absurd hj (by omega)
theorem js_els_8 (h : narrow_1.before args s = true) : ∀ j : Nat, j < 4 → (Jvm.Cond.eq (.elem (.field (js_tm 8) "java/lang/String" "value" "[B") (.int (Int32.ofNat j))) (.int (((ex_str.map fun q => q.2.2.2).getD 8 []).getD j 0))).before args s = true := by
  intro j hj
  match j, hj with
  | 0, _ => exact js_el_8_0 h
  | 1, _ => exact js_el_8_1 h
  | 2, _ => exact js_el_8_2 h
  | 3, _ => exact js_el_8_3 h
  | n + 4, hj => exact absurd hj (by omega)
theorem js_els_9 (h : narrow_1.before args s = true) : ∀ j : Nat, j < 5 → (Jvm.Cond.eq (.elem (.field (js_tm 9) "java/lang/String" "value" "[B") (.int (Int32.ofNat j))) (.int (((ex_str.map fun q => q.2.2.2).getD 9 []).getD j 0))).before args s = true := by
  intro j hj
  match j, hj with
  | 0, _ => exact js_el_9_0 h
  | 1, _ => exact js_el_9_1 h
  | 2, _ => exact js_el_9_2 h
  | 3, _ => exact js_el_9_3 h
  | 4, _ => exact js_el_9_4 h
  | n + 5, hj => exact absurd hj (by omega)
theorem js_els_10 (h : narrow_1.before args s = true) : ∀ j : Nat, j < 4 → (Jvm.Cond.eq (.elem (.field (js_tm 10) "java/lang/String" "value" "[B") (.int (Int32.ofNat j))) (.int (((ex_str.map fun q => q.2.2.2).getD 10 []).getD j 0))).before args s = true := by
  intro j hj
  match j, hj with
  | 0, _ => exact js_el_10_0 h
  | 1, _ => exact js_el_10_1 h
  | 2, _ => exact js_el_10_2 h
  | 3, _ => exact js_el_10_3 h
  | n + 4, hj => exact absurd hj (by omega)
theorem js_els_11 (h : narrow_1.before args s = true) : ∀ j : Nat, j < 4 → (Jvm.Cond.eq (.elem (.field (js_tm 11) "java/lang/String" "value" "[B") (.int (Int32.ofNat j))) (.int (((ex_str.map fun q => q.2.2.2).getD 11 []).getD j 0))).before args s = true := by
  intro j hj
  match j, hj with
  | 0, _ => exact js_el_11_0 h
  | 1, _ => exact js_el_11_1 h
  | 2, _ => exact js_el_11_2 h
  | 3, _ => exact js_el_11_3 h
  | n + 4, hj => exact absurd hj (by omega)
theorem js_el (h : narrow_1.before args s = true) : ∀ i : Nat, i < 12 → ∀ j : Nat, j < (ex_str.map fun q => q.2.2.2.length).getD i 0 → (Jvm.Cond.eq (.elem (.field (js_tm i) "java/lang/String" "value" "[B") (.int (Int32.ofNat j))) (.int (((ex_str.map fun q => q.2.2.2).getD i []).getD j 0))).before args s = true := by
  intro i hi
  match i, hi with
  | 0, _ => exact js_els_0 h
  | 1, _ => exact js_els_1 h
  | 2, _ => exact js_els_2 h
  | 3, _ => exact js_els_3 h
  | 4, _ => exact js_els_4 h
  | 5, _ => exact js_els_5 h
  | 6, _ => exact js_els_6 h
  | 7, _ => exact js_els_7 h
  | 8, _ => exact js_els_8 h
  | 9, _ => exact js_els_9 h
  | 10, _ => exact js_els_10 h
  | 11, _ => exact js_els_11 h
  | n + 12, hi => exact absurd hi (by omega)
theorem js_ne (h : narrow_1.before args s = true) : ∀ i j : Nat, i < 12 → j < 12 → i ≠ j → (Jvm.Cond.not (Jvm.Cond.eq (js_tm i) (js_tm j))).before args s = true ∨ (Jvm.Cond.not (Jvm.Cond.eq (js_tm j) (js_tm i))).before args s = true := by
  intro i j hi hj hij
  match i, j, hi, hj, hij with
  | 0, 0, _, _, hij => exact absurd rfl hij
  | 0, 1, _, _, _ => exact Or.inl (js_ne_0_1 h)
  | 0, 2, _, _, _ => exact Or.inl (js_ne_0_2 h)
  | 0, 3, _, _, _ => exact Or.inl (js_ne_0_3 h)
  | 0, 4, _, _, _ => exact Or.inl (js_ne_0_4 h)
  | 0, 5, _, _, _ => exact Or.inl (js_ne_0_5 h)
  | 0, 6, _, _, _ => exact Or.inl (js_ne_0_6 h)
  | 0, 7, _, _, _ => exact Or.inl (js_ne_0_7 h)
  | 0, 8, _, _, _ => exact Or.inl (js_ne_0_8 h)
  | 0, 9, _, _, _ => exact Or.inl (js_ne_0_9 h)
  | 0, 10, _, _, _ => exact Or.inl (js_ne_0_10 h)
  | 0, 11, _, _, _ => exact Or.inl (js_ne_0_11 h)
  | 1, 0, _, _, _ => exact Or.inr (js_ne_0_1 h)
  | 1, 1, _, _, hij => exact absurd rfl hij
  | 1, 2, _, _, _ => exact Or.inl (js_ne_1_2 h)
  | 1, 3, _, _, _ => exact Or.inl (js_ne_1_3 h)
  | 1, 4, _, _, _ => exact Or.inl (js_ne_1_4 h)
  | 1, 5, _, _, _ => exact Or.inl (js_ne_1_5 h)
  | 1, 6, _, _, _ => exact Or.inl (js_ne_1_6 h)
  | 1, 7, _, _, _ => exact Or.inl (js_ne_1_7 h)
  | 1, 8, _, _, _ => exact Or.inl (js_ne_1_8 h)
  | 1, 9, _, _, _ => exact Or.inl (js_ne_1_9 h)
  | 1, 10, _, _, _ => exact Or.inl (js_ne_1_10 h)
  | 1, 11, _, _, _ => exact Or.inl (js_ne_1_11 h)
  | 2, 0, _, _, _ => exact Or.inr (js_ne_0_2 h)
  | 2, 1, _, _, _ => exact Or.inr (js_ne_1_2 h)
  | 2, 2, _, _, hij => exact absurd rfl hij
  | 2, 3, _, _, _ => exact Or.inl (js_ne_2_3 h)
  | 2, 4, _, _, _ => exact Or.inl (js_ne_2_4 h)
  | 2, 5, _, _, _ => exact Or.inl (js_ne_2_5 h)
  | 2, 6, _, _, _ => exact Or.inl (js_ne_2_6 h)
  | 2, 7, _, _, _ => exact Or.inl (js_ne_2_7 h)
  | 2, 8, _, _, _ => exact Or.inl (js_ne_2_8 h)
  | 2, 9, _, _, _ => exact Or.inl (js_ne_2_9 h)
  | 2, 10, _, _, _ => exact Or.inl (js_ne_2_10 h)
  | 2, 11, _, _, _ => exact Or.inl (js_ne_2_11 h)
  | 3, 0, _, _, _ => exact Or.inr (js_ne_0_3 h)
  | 3, 1, _, _, _ => exact Or.inr (js_ne_1_3 h)
  | 3, 2, _, _, _ => exact Or.inr (js_ne_2_3 h)
  | 3, 3, _, _, hij => exact absurd rfl hij
  | 3, 4, _, _, _ => exact Or.inl (js_ne_3_4 h)
  | 3, 5, _, _, _ => exact Or.inl (js_ne_3_5 h)
  | 3, 6, _, _, _ => exact Or.inl (js_ne_3_6 h)
  | 3, 7, _, _, _ => exact Or.inl (js_ne_3_7 h)
  | 3, 8, _, _, _ => exact Or.inl (js_ne_3_8 h)
  | 3, 9, _, _, _ => exact Or.inl (js_ne_3_9 h)
  | 3, 10, _, _, _ => exact Or.inl (js_ne_3_10 h)
  | 3, 11, _, _, _ => exact Or.inl (js_ne_3_11 h)
  | 4, 0, _, _, _ => exact Or.inr (js_ne_0_4 h)
  | 4, 1, _, _, _ => exact Or.inr (js_ne_1_4 h)
  | 4, 2, _, _, _ => exact Or.inr (js_ne_2_4 h)
  | 4, 3, _, _, _ => exact Or.inr (js_ne_3_4 h)
  | 4, 4, _, _, hij => exact absurd rfl hij
  | 4, 5, _, _, _ => exact Or.inl (js_ne_4_5 h)
  | 4, 6, _, _, _ => exact Or.inl (js_ne_4_6 h)
  | 4, 7, _, _, _ => exact Or.inl (js_ne_4_7 h)
  | 4, 8, _, _, _ => exact Or.inl (js_ne_4_8 h)
  | 4, 9, _, _, _ => exact Or.inl (js_ne_4_9 h)
  | 4, 10, _, _, _ => exact Or.inl (js_ne_4_10 h)
  | 4, 11, _, _, _ => exact Or.inl (js_ne_4_11 h)
  | 5, 0, _, _, _ => exact Or.inr (js_ne_0_5 h)
  | 5, 1, _, _, _ => exact Or.inr (js_ne_1_5 h)
  | 5, 2, _, _, _ => exact Or.inr (js_ne_2_5 h)
  | 5, 3, _, _, _ => exact Or.inr (js_ne_3_5 h)
  | 5, 4, _, _, _ => exact Or.inr (js_ne_4_5 h)
  | 5, 5, _, _, hij => exact absurd rfl hij
  | 5, 6, _, _, _ => exact Or.inl (js_ne_5_6 h)
  | 5, 7, _, _, _ => exact Or.inl (js_ne_5_7 h)
  | 5, 8, _, _, _ => exact Or.inl (js_ne_5_8 h)
  | 5, 9, _, _, _ => exact Or.inr (js_ne_9_5 h)
  | 5, 10, _, _, _ => exact Or.inr (js_ne_10_5 h)
  | 5, 11, _, _, _ => exact Or.inr (js_ne_11_5 h)
  | 6, 0, _, _, _ => exact Or.inr (js_ne_0_6 h)
  | 6, 1, _, _, _ => exact Or.inr (js_ne_1_6 h)
  | 6, 2, _, _, _ => exact Or.inr (js_ne_2_6 h)
  | 6, 3, _, _, _ => exact Or.inr (js_ne_3_6 h)
  | 6, 4, _, _, _ => exact Or.inr (js_ne_4_6 h)
  | 6, 5, _, _, _ => exact Or.inr (js_ne_5_6 h)
  | 6, 6, _, _, hij => exact absurd rfl hij
  | 6, 7, _, _, _ => exact Or.inl (js_ne_6_7 h)
  | 6, 8, _, _, _ => exact Or.inl (js_ne_6_8 h)
  | 6, 9, _, _, _ => exact Or.inr (js_ne_9_6 h)
  | 6, 10, _, _, _ => exact Or.inr (js_ne_10_6 h)
  | 6, 11, _, _, _ => exact Or.inr (js_ne_11_6 h)
  | 7, 0, _, _, _ => exact Or.inr (js_ne_0_7 h)
  | 7, 1, _, _, _ => exact Or.inr (js_ne_1_7 h)
  | 7, 2, _, _, _ => exact Or.inr (js_ne_2_7 h)
  | 7, 3, _, _, _ => exact Or.inr (js_ne_3_7 h)
  | 7, 4, _, _, _ => exact Or.inr (js_ne_4_7 h)
  | 7, 5, _, _, _ => exact Or.inr (js_ne_5_7 h)
  | 7, 6, _, _, _ => exact Or.inr (js_ne_6_7 h)
  | 7, 7, _, _, hij => exact absurd rfl hij
  | 7, 8, _, _, _ => exact Or.inl (js_ne_7_8 h)
  | 7, 9, _, _, _ => exact Or.inr (js_ne_9_7 h)
  | 7, 10, _, _, _ => exact Or.inr (js_ne_10_7 h)
  | 7, 11, _, _, _ => exact Or.inr (js_ne_11_7 h)
  | 8, 0, _, _, _ => exact Or.inr (js_ne_0_8 h)
  | 8, 1, _, _, _ => exact Or.inr (js_ne_1_8 h)
  | 8, 2, _, _, _ => exact Or.inr (js_ne_2_8 h)
  | 8, 3, _, _, _ => exact Or.inr (js_ne_3_8 h)
  | 8, 4, _, _, _ => exact Or.inr (js_ne_4_8 h)
  | 8, 5, _, _, _ => exact Or.inr (js_ne_5_8 h)
  | 8, 6, _, _, _ => exact Or.inr (js_ne_6_8 h)
  | 8, 7, _, _, _ => exact Or.inr (js_ne_7_8 h)
  | 8, 8, _, _, hij => exact absurd rfl hij
  | 8, 9, _, _, _ => exact Or.inr (js_ne_9_8 h)
  | 8, 10, _, _, _ => exact Or.inr (js_ne_10_8 h)
  | 8, 11, _, _, _ => exact Or.inr (js_ne_11_8 h)
  | 9, 0, _, _, _ => exact Or.inr (js_ne_0_9 h)
  | 9, 1, _, _, _ => exact Or.inr (js_ne_1_9 h)
  | 9, 2, _, _, _ => exact Or.inr (js_ne_2_9 h)
  | 9, 3, _, _, _ => exact Or.inr (js_ne_3_9 h)
  | 9, 4, _, _, _ => exact Or.inr (js_ne_4_9 h)
  | 9, 5, _, _, _ => exact Or.inl (js_ne_9_5 h)
  | 9, 6, _, _, _ => exact Or.inl (js_ne_9_6 h)
  | 9, 7, _, _, _ => exact Or.inl (js_ne_9_7 h)
  | 9, 8, _, _, _ => exact Or.inl (js_ne_9_8 h)
  | 9, 9, _, _, hij => exact absurd rfl hij
  | 9, 10, _, _, _ => exact Or.inl (js_ne_9_10 h)
  | 9, 11, _, _, _ => exact Or.inl (js_ne_9_11 h)
  | 10, 0, _, _, _ => exact Or.inr (js_ne_0_10 h)
  | 10, 1, _, _, _ => exact Or.inr (js_ne_1_10 h)
  | 10, 2, _, _, _ => exact Or.inr (js_ne_2_10 h)
  | 10, 3, _, _, _ => exact Or.inr (js_ne_3_10 h)
  | 10, 4, _, _, _ => exact Or.inr (js_ne_4_10 h)
  | 10, 5, _, _, _ => exact Or.inl (js_ne_10_5 h)
  | 10, 6, _, _, _ => exact Or.inl (js_ne_10_6 h)
  | 10, 7, _, _, _ => exact Or.inl (js_ne_10_7 h)
  | 10, 8, _, _, _ => exact Or.inl (js_ne_10_8 h)
  | 10, 9, _, _, _ => exact Or.inr (js_ne_9_10 h)
  | 10, 10, _, _, hij => exact absurd rfl hij
  | 10, 11, _, _, _ => exact Or.inl (js_ne_10_11 h)
  | 11, 0, _, _, _ => exact Or.inr (js_ne_0_11 h)
  | 11, 1, _, _, _ => exact Or.inr (js_ne_1_11 h)
  | 11, 2, _, _, _ => exact Or.inr (js_ne_2_11 h)
  | 11, 3, _, _, _ => exact Or.inr (js_ne_3_11 h)
  | 11, 4, _, _, _ => exact Or.inr (js_ne_4_11 h)
  | 11, 5, _, _, _ => exact Or.inl (js_ne_11_5 h)
  | 11, 6, _, _, _ => exact Or.inl (js_ne_11_6 h)
  | 11, 7, _, _, _ => exact Or.inl (js_ne_11_7 h)
  | 11, 8, _, _, _ => exact Or.inl (js_ne_11_8 h)
  | 11, 9, _, _, _ => exact Or.inr (js_ne_9_11 h)
  | 11, 10, _, _, _ => exact Or.inr (js_ne_10_11 h)
  | 11, 11, _, _, hij => exact absurd rfl hij
  | n + 12, _, hi, _, _ => exact absurd hi (by omega)
  | 0, n + 12, _, hj, _ => exact absurd hj (by omega)
  | 1, n + 12, _, hj, _ => exact absurd hj (by omega)
  | 2, n + 12, _, hj, _ => exact absurd hj (by omega)
  | 3, n + 12, _, hj, _ => exact absurd hj (by omega)
  | 4, n + 12, _, hj, _ => exact absurd hj (by omega)
  | 5, n + 12, _, hj, _ => exact absurd hj (by omega)
  | 6, n + 12, _, hj, _ => exact absurd hj (by omega)
  | 7, n + 12, _, hj, _ => exact absurd hj (by omega)
  | 8, n + 12, _, hj, _ => exact absurd hj (by omega)
  | 9, n + 12, _, hj, _ => exact absurd hj (by omega)
  | 10, n + 12, _, hj, _ => exact absurd hj (by omega)
  | 11, n + 12, _, hj, _ => exact absurd hj (by omega)
theorem js_le31 : ∀ i : Nat, i < 12 → (ex_str.map fun q => q.2.2.2.length).getD i 0 < 2 ^ 31 := by decide +kernel
theorem js_w_0 : Jvm.Cond.stringRef "NeverAgain$TextReader" 60 "most" ∈ lw_tbl := lw_h2 (List.mem_of_getElem? (i := 133) rfl)
theorem js_w_1 : Jvm.Cond.stringRef "NeverAgain$TextReader" 69 "matters" ∈ lw_tbl := lw_h2 (List.mem_of_getElem? (i := 206) rfl)
theorem js_w_2 : Jvm.Cond.stringRef "NeverAgain$TextReader" 74 "gap" ∈ lw_tbl := lw_h2 (List.mem_of_getElem? (i := 215) rfl)
theorem js_w_3 : Jvm.Cond.stringRef "NeverAgain$TextReader" 79 "near" ∈ lw_tbl := lw_h2 (List.mem_of_getElem? (i := 220) rfl)
theorem js_w_4 : Jvm.Cond.stringRef "NeverAgain$TextReader" 84 "book" ∈ lw_tbl := lw_h2 (List.mem_of_getElem? (i := 225) rfl)
theorem js_w_5 : Jvm.Cond.stringRef "NeverAgain$TextReader" 89 "page" ∈ lw_tbl := lw_h2 (List.mem_of_getElem? (i := 233) rfl)
theorem js_w_6 : Jvm.Cond.stringRef "NeverAgain$TextReader" 94 "rung" ∈ lw_tbl := lw_h2 (List.mem_of_getElem? (i := 238) rfl)
theorem js_w_7 : Jvm.Cond.stringRef "NeverAgain$TextReader" 99 "ask" ∈ lw_tbl := lw_h3 (List.mem_of_getElem? (i := 7) rfl)
theorem js_w_8 : Jvm.Cond.stringRef "NeverAgain$TextReader" 104 "wait" ∈ lw_tbl := lw_h3 (List.mem_of_getElem? (i := 16) rfl)
theorem js_w_9 : Jvm.Cond.stringRef "NeverAgain$TextReader" 137 "fixed" ∈ lw_tbl := lw_h2 (List.mem_of_getElem? (i := 230) rfl)
theorem js_w_10 : Jvm.Cond.stringRef "NeverAgain$TextReader" 141 "rank" ∈ lw_tbl := lw_h2 (List.mem_of_getElem? (i := 231) rfl)
theorem js_w_11 : Jvm.Cond.stringRef "NeverAgain$TextReader" 143 "told" ∈ lw_tbl := lw_h2 (List.mem_of_getElem? (i := 232) rfl)
theorem js_l_cs : Jvm.Cond.laysStatic "java/lang/String" "COMPACT_STRINGS" "Z" ∈ lw_tbl := lw_h2 (List.mem_of_getElem? (i := 147) rfl)
theorem js_i_cs : Jvm.Cond.initialized "java/lang/String" ∈ lw_tbl := wd_77
theorem js_l_fm : Jvm.Cond.laysStatic "jdk/internal/util/Preconditions" "SIOOBE_FORMATTER" "Ljava/util/function/BiFunction;" ∈ lw_tbl := lw_h2 (List.mem_of_getElem? (i := 163) rfl)
theorem js_i_fm : Jvm.Cond.initialized "jdk/internal/util/Preconditions" ∈ lw_tbl := wd_79
/-- the places of what was there -/
noncomputable def js_f (fm : Nat) (adK adV : Nat → Nat) (k : Nat) : Nat := if k = 24 then fm else if k % 2 = 0 then adK (k / 2) else adV (k / 2)
noncomputable def js_p (b : Nat) (f : Nat → Nat) (k : Nat) : Nat := match k with
  | 0 => b
  | k + 1 => f k
theorem js_pK {b fm : Nat} {adK adV : Nat → Nat} {i : Nat} (h : i < 12) : js_p b (js_f fm adK adV) (2 * i + 1) = adK i := by
  show js_f fm adK adV (2 * i) = adK i
  unfold js_f
  rw [if_neg (by omega), if_pos (by omega), show (2 * i) / 2 = i by omega]
theorem js_pV {b fm : Nat} {adK adV : Nat → Nat} {i : Nat} (h : i < 12) : js_p b (js_f fm adK adV) (2 * i + 2) = adV i := by
  show js_f fm adK adV (2 * i + 1) = adV i
  unfold js_f
  rw [if_neg (by omega), if_neg (by omega), show (2 * i + 1) / 2 = i by omega]
theorem js_all (hts : ∀ w ∈ lw_tbl, w.before args s = true) (h : narrow_1.before args s = true) (b : Nat) : ∃ f : Nat → Nat, ∀ q : (FieldType → ClassId) × (Nat → ClassId) × va_G, ex_J (s.heap.size, js_p b f, q) s s.heap := by
  have hA : ∀ a : Nat, a < s.heap.size → ¬ (fun q => s.heap.size ≤ q) a := fun a ha => Nat.not_le.mpr ha
  obtain ⟨adK, adV, hS, hev⟩ := vk_Sof (N := 12) (tm := js_tm) (len := (ex_str.map fun q => q.2.2.2.length)) (byt := (ex_str.map fun q => q.2.2.2)) (A := fun q => s.heap.size ≤ q) js_le31 (js_ex h) (js_co h) (js_ar h) (js_le h) (js_el h) (js_ne h) hA
  have hZ1 : va_Z "java/lang/String" "COMPACT_STRINGS" "Z" (.int 1) (fun q => s.heap.size ≤ q) s s.heap := va_Zof (hts _ js_l_cs) (hts _ js_i_cs) (va_eqt (js_cs h)) hA
  have hZ2 : va_Zq "jdk/internal/util/Preconditions" "SIOOBE_FORMATTER" "Ljava/util/function/BiFunction;" (fun q => s.heap.size ≤ q) s s.heap := va_Zqof (hts _ js_l_fm) (hts _ js_i_fm) (js_fm h) hA
  have fin : ∀ fm : Nat, va_Z "jdk/internal/util/Preconditions" "SIOOBE_FORMATTER" "Ljava/util/function/BiFunction;" (match fm with | 0 => .null | t + 1 => .ref t) (fun q => s.heap.size ≤ q) s s.heap → ∃ f : Nat → Nat, ∀ q : (FieldType → ClassId) × (Nat → ClassId) × va_G, ex_J (s.heap.size, js_p b f, q) s s.heap := by
    intro fm hZ
    refine ⟨js_f fm adK adV, fun q => ⟨⟨fun i hi => ?_, fun i j hi hj e => ?_⟩, hZ1, hZ, fun i q hq => ?_⟩⟩
    · have hi : i < 12 := hi
      show va_O _ (js_p b (js_f fm adK adV) (2 * i + 1)) _ s s.heap ∧ va_OF _ _ _ _ (js_p b (js_f fm adK adV) (2 * i + 1)) _ s s.heap ∧ va_OF _ _ _ (.ref (js_p b (js_f fm adK adV) (2 * i + 2))) (js_p b (js_f fm adK adV) (2 * i + 1)) _ s s.heap ∧ va_T _ (js_p b (js_f fm adK adV) (2 * i + 2)) _ _ _ s s.heap
      rw [js_pK hi, js_pV hi]
      exact hS.1 i hi
    · have hi : i < 12 := hi
      have hj : j < 12 := hj
      have e : js_p b (js_f fm adK adV) (2 * i + 1) = js_p b (js_f fm adK adV) (2 * j + 1) := e
      rw [js_pK hi, js_pK hj] at e
      exact hS.2 i j hi hj e
    · have hi : i < 12 := (List.getElem?_eq_some_iff.mp hq).1
      show vk_R (ex_cn q.1) q.2.1 q.2.2.1 (js_p b (js_f fm adK adV) (2 * i + 1)) s
      rw [js_pK hi]
      have he := hev i hi
      match i, hi, hq, he with
      | 0, _, hq, he => cases hq; exact vk_R.of (hts _ js_w_0) he
      | 1, _, hq, he => cases hq; exact vk_R.of (hts _ js_w_1) he
      | 2, _, hq, he => cases hq; exact vk_R.of (hts _ js_w_2) he
      | 3, _, hq, he => cases hq; exact vk_R.of (hts _ js_w_3) he
      | 4, _, hq, he => cases hq; exact vk_R.of (hts _ js_w_4) he
      | 5, _, hq, he => cases hq; exact vk_R.of (hts _ js_w_5) he
      | 6, _, hq, he => cases hq; exact vk_R.of (hts _ js_w_6) he
      | 7, _, hq, he => cases hq; exact vk_R.of (hts _ js_w_7) he
      | 8, _, hq, he => cases hq; exact vk_R.of (hts _ js_w_8) he
      | 9, _, hq, he => cases hq; exact vk_R.of (hts _ js_w_9) he
      | 10, _, hq, he => cases hq; exact vk_R.of (hts _ js_w_10) he
      | 11, _, hq, he => cases hq; exact vk_R.of (hts _ js_w_11) he
      | n + 12, hi, _, _ => exact absurd hi (by omega)
  rcases hZ2 with hZ | ⟨t, hZ⟩
  · exact fin 0 hZ
  · exact fin (t + 1) hZ
end JS

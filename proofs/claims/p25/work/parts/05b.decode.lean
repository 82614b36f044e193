/-! THE METHODS' TABLES: each row is what the code holds; the words of a method. Written by wip/gen.py. -/
def ex_len (ins : Instr) : Nat := match ins with
  | .aload _ | .iload _ | .lload _ | .astore _ | .istore _ | .lstore _ | .bipush _ | .ldc _ | .newarray _ => 2
  | .iinc _ _ | .sipush _ | .ldc_w _ | .ldc2_w _ | .goto _ | .ifCond _ _ | .if_icmp _ _ | .getfield _ | .putfield _ | .new _ | .anewarray _ | .invokevirtual _ | .invokespecial _ | .invokestatic _ | .getstatic _ => 3
  | .tableswitch _ _ _ _ => 0
  | _ => 1
noncomputable def ex_chk (cc : ByteArray) (pc : Nat) (ins : Instr) : Bool := match decode cc pc with
  | .ok (i, n) => decide (i = ins) && (decide (ex_len ins = 0) || decide (n = ex_len ins))
  | .error _ => false
theorem ex_chk_of {cc : ByteArray} {pc : Nat} {ins : Instr} (h : ex_chk cc pc ins = true) : ∃ n, decode cc pc = .ok (ins, n) ∧ (ex_len ins = 0 ∨ n = ex_len ins) := by
  unfold ex_chk at h
  split at h
  · next i n hd =>
    simp only [Bool.and_eq_true, Bool.or_eq_true, decide_eq_true_eq] at h
    obtain ⟨rfl, h2⟩ := h
    exact ⟨n, hd, h2⟩
  · cases h
set_option maxRecDepth 100000 in
theorem gl_0 : ex_ckA ft_0 (ex_chk code) 0 = true := by decide +kernel
set_option maxRecDepth 100000 in
theorem gl_1 : ex_ckA ft_0 (ex_chk code) 1 = true := by decide +kernel
set_option maxRecDepth 100000 in
theorem gl_2 : ex_ckA ft_0 (ex_chk code) 2 = true := by decide +kernel
set_option maxRecDepth 100000 in
theorem gl_3 : ex_ckA ft_0 (ex_chk code) 3 = true := by decide +kernel
set_option maxRecDepth 100000 in
theorem gl_4 : ex_ckA ft_0 (ex_chk code) 4 = true := by decide +kernel
set_option maxRecDepth 100000 in
theorem gl_5 : ex_ckA ft_0 (ex_chk code) 5 = true := by decide +kernel
set_option maxRecDepth 100000 in
theorem gl_6 : ex_ckA ft_0 (ex_chk code) 6 = true := by decide +kernel
set_option maxRecDepth 100000 in
theorem gl_7 : ex_ckA ft_0 (ex_chk code) 7 = true := by decide +kernel
set_option maxRecDepth 100000 in
theorem gl_8 : ex_ckA ft_0 (ex_chk code) 8 = true := by decide +kernel
set_option maxRecDepth 100000 in
theorem gl_9 : ex_ckA ft_0 (ex_chk code) 9 = true := by decide +kernel
set_option maxRecDepth 100000 in
theorem gl_10 : ex_ckA ft_0 (ex_chk code) 10 = true := by decide +kernel
set_option maxRecDepth 100000 in
theorem gl_11 : ex_ckA ft_0 (ex_chk code) 11 = true := by decide +kernel
set_option maxRecDepth 100000 in
theorem gl_12 : ex_ckA ft_0 (ex_chk code) 12 = true := by decide +kernel
set_option maxRecDepth 100000 in
theorem gl_13 : ex_ckA ft_0 (ex_chk code) 13 = true := by decide +kernel
set_option maxRecDepth 100000 in
theorem gl_14 : ex_ckA ft_0 (ex_chk code) 14 = true := by decide +kernel
set_option maxRecDepth 100000 in
theorem gl_15 : ex_ckA ft_0 (ex_chk code) 15 = true := by decide +kernel
set_option maxRecDepth 100000 in
theorem gl_16 : ex_ckA ft_0 (ex_chk code) 16 = true := by decide +kernel
set_option maxRecDepth 100000 in
theorem gl_17 : ex_ckA ft_0 (ex_chk code) 17 = true := by decide +kernel
set_option maxRecDepth 100000 in
theorem gl_18 : ex_ckA ft_0 (ex_chk code) 18 = true := by decide +kernel
set_option maxRecDepth 100000 in
theorem gl_19 : ex_ckA ft_0 (ex_chk code) 19 = true := by decide +kernel
theorem gm_0 : ex_allT mt_0.2.1 (ex_chk mt_0.2.2.2.2.2.2.2.2.2) = true := by
  refine List.all_eq_true.mpr fun a ha => ?_
  have h : a < 20 := List.mem_range.mp ha
  match a, h with
  | 0, _ => exact gl_0
  | 1, _ => exact gl_1
  | 2, _ => exact gl_2
  | 3, _ => exact gl_3
  | 4, _ => exact gl_4
  | 5, _ => exact gl_5
  | 6, _ => exact gl_6
  | 7, _ => exact gl_7
  | 8, _ => exact gl_8
  | 9, _ => exact gl_9
  | 10, _ => exact gl_10
  | 11, _ => exact gl_11
  | 12, _ => exact gl_12
  | 13, _ => exact gl_13
  | 14, _ => exact gl_14
  | 15, _ => exact gl_15
  | 16, _ => exact gl_16
  | 17, _ => exact gl_17
  | 18, _ => exact gl_18
  | 19, _ => exact gl_19
  | n + 20, h => exact absurd h (by omega)
set_option maxRecDepth 100000 in
theorem gk_1 : ex_allT mt_1.2.1 (ex_chk mt_1.2.2.2.2.2.2.2.2.2) = true := by decide +kernel
set_option maxRecDepth 100000 in
theorem gk_2 : ex_allT mt_2.2.1 (ex_chk mt_2.2.2.2.2.2.2.2.2.2) = true := by decide +kernel
set_option maxRecDepth 100000 in
theorem gk_3 : ex_allT mt_3.2.1 (ex_chk mt_3.2.2.2.2.2.2.2.2.2) = true := by decide +kernel
set_option maxRecDepth 100000 in
theorem gk_4 : ex_allT mt_4.2.1 (ex_chk mt_4.2.2.2.2.2.2.2.2.2) = true := by decide +kernel
set_option maxRecDepth 100000 in
theorem gk_5 : ex_allT mt_5.2.1 (ex_chk mt_5.2.2.2.2.2.2.2.2.2) = true := by decide +kernel
set_option maxRecDepth 100000 in
theorem gk_6 : ex_allT mt_6.2.1 (ex_chk mt_6.2.2.2.2.2.2.2.2.2) = true := by decide +kernel
set_option maxRecDepth 100000 in
theorem gk_7 : ex_allT mt_7.2.1 (ex_chk mt_7.2.2.2.2.2.2.2.2.2) = true := by decide +kernel
set_option maxRecDepth 100000 in
theorem gk_8 : ex_allT mt_8.2.1 (ex_chk mt_8.2.2.2.2.2.2.2.2.2) = true := by decide +kernel
set_option maxRecDepth 100000 in
theorem gk_9 : ex_allT mt_9.2.1 (ex_chk mt_9.2.2.2.2.2.2.2.2.2) = true := by decide +kernel
set_option maxRecDepth 100000 in
theorem gk_10 : ex_allT mt_10.2.1 (ex_chk mt_10.2.2.2.2.2.2.2.2.2) = true := by decide +kernel
set_option maxRecDepth 100000 in
theorem gk_11 : ex_allT mt_11.2.1 (ex_chk mt_11.2.2.2.2.2.2.2.2.2) = true := by decide +kernel
set_option maxRecDepth 100000 in
theorem gk_12 : ex_allT mt_12.2.1 (ex_chk mt_12.2.2.2.2.2.2.2.2.2) = true := by decide +kernel
set_option maxRecDepth 100000 in
theorem gk_13 : ex_allT mt_13.2.1 (ex_chk mt_13.2.2.2.2.2.2.2.2.2) = true := by decide +kernel
set_option maxRecDepth 100000 in
theorem gk_14 : ex_allT mt_14.2.1 (ex_chk mt_14.2.2.2.2.2.2.2.2.2) = true := by decide +kernel
set_option maxRecDepth 100000 in
theorem gk_15 : ex_allT mt_15.2.1 (ex_chk mt_15.2.2.2.2.2.2.2.2.2) = true := by decide +kernel
set_option maxRecDepth 100000 in
theorem gk_16 : ex_allT mt_16.2.1 (ex_chk mt_16.2.2.2.2.2.2.2.2.2) = true := by decide +kernel
set_option maxRecDepth 100000 in
theorem gk_17 : ex_allT mt_17.2.1 (ex_chk mt_17.2.2.2.2.2.2.2.2.2) = true := by decide +kernel
set_option maxRecDepth 100000 in
theorem gk_18 : ex_allT mt_18.2.1 (ex_chk mt_18.2.2.2.2.2.2.2.2.2) = true := by decide +kernel
set_option maxRecDepth 100000 in
theorem gk_19 : ex_allT mt_19.2.1 (ex_chk mt_19.2.2.2.2.2.2.2.2.2) = true := by decide +kernel
set_option maxRecDepth 100000 in
theorem gk_20 : ex_allT mt_20.2.1 (ex_chk mt_20.2.2.2.2.2.2.2.2.2) = true := by decide +kernel
set_option maxRecDepth 100000 in
theorem gk_21 : ex_allT mt_21.2.1 (ex_chk mt_21.2.2.2.2.2.2.2.2.2) = true := by decide +kernel
set_option maxRecDepth 100000 in
theorem gk_22 : ex_allT mt_22.2.1 (ex_chk mt_22.2.2.2.2.2.2.2.2.2) = true := by decide +kernel
set_option maxRecDepth 100000 in
theorem gk_23 : ex_allT mt_23.2.1 (ex_chk mt_23.2.2.2.2.2.2.2.2.2) = true := by decide +kernel
set_option maxRecDepth 100000 in
theorem gk_24 : ex_allT mt_24.2.1 (ex_chk mt_24.2.2.2.2.2.2.2.2.2) = true := by decide +kernel
set_option maxRecDepth 100000 in
theorem gk_25 : ex_allT mt_25.2.1 (ex_chk mt_25.2.2.2.2.2.2.2.2.2) = true := by decide +kernel
set_option maxRecDepth 100000 in
theorem gk_26 : ex_allT mt_26.2.1 (ex_chk mt_26.2.2.2.2.2.2.2.2.2) = true := by decide +kernel
set_option maxRecDepth 100000 in
theorem gk_27 : ex_allT mt_27.2.1 (ex_chk mt_27.2.2.2.2.2.2.2.2.2) = true := by decide +kernel
set_option maxRecDepth 100000 in
theorem gk_28 : ex_allT mt_28.2.1 (ex_chk mt_28.2.2.2.2.2.2.2.2.2) = true := by decide +kernel
set_option maxRecDepth 100000 in
theorem gk_29 : ex_allT mt_29.2.1 (ex_chk mt_29.2.2.2.2.2.2.2.2.2) = true := by decide +kernel
set_option maxRecDepth 100000 in
theorem gk_30 : ex_allT mt_30.2.1 (ex_chk mt_30.2.2.2.2.2.2.2.2.2) = true := by decide +kernel
set_option maxRecDepth 100000 in
theorem gk_31 : ex_allT mt_31.2.1 (ex_chk mt_31.2.2.2.2.2.2.2.2.2) = true := by decide +kernel
set_option maxRecDepth 100000 in
theorem gk_32 : ex_allT mt_32.2.1 (ex_chk mt_32.2.2.2.2.2.2.2.2.2) = true := by decide +kernel
set_option maxRecDepth 100000 in
theorem gk_33 : ex_allT mt_33.2.1 (ex_chk mt_33.2.2.2.2.2.2.2.2.2) = true := by decide +kernel
set_option maxRecDepth 100000 in
theorem gk_34 : ex_allT mt_34.2.1 (ex_chk mt_34.2.2.2.2.2.2.2.2.2) = true := by decide +kernel
set_option maxRecDepth 100000 in
theorem gk_35 : ex_allT mt_35.2.1 (ex_chk mt_35.2.2.2.2.2.2.2.2.2) = true := by decide +kernel
set_option maxRecDepth 100000 in
theorem gk_36 : ex_allT mt_36.2.1 (ex_chk mt_36.2.2.2.2.2.2.2.2.2) = true := by decide +kernel
set_option maxRecDepth 100000 in
theorem gk_37 : ex_allT mt_37.2.1 (ex_chk mt_37.2.2.2.2.2.2.2.2.2) = true := by decide +kernel
set_option maxRecDepth 100000 in
theorem gk_38 : ex_allT mt_38.2.1 (ex_chk mt_38.2.2.2.2.2.2.2.2.2) = true := by decide +kernel
set_option maxRecDepth 100000 in
theorem gk_39 : ex_allT mt_39.2.1 (ex_chk mt_39.2.2.2.2.2.2.2.2.2) = true := by decide +kernel
set_option maxRecDepth 100000 in
theorem gk_40 : ex_allT mt_40.2.1 (ex_chk mt_40.2.2.2.2.2.2.2.2.2) = true := by decide +kernel
set_option maxRecDepth 100000 in
theorem gk_41 : ex_allT mt_41.2.1 (ex_chk mt_41.2.2.2.2.2.2.2.2.2) = true := by decide +kernel
set_option maxRecDepth 100000 in
theorem gk_42 : ex_allT mt_42.2.1 (ex_chk mt_42.2.2.2.2.2.2.2.2.2) = true := by decide +kernel
set_option maxRecDepth 100000 in
theorem gk_43 : ex_allT mt_43.2.1 (ex_chk mt_43.2.2.2.2.2.2.2.2.2) = true := by decide +kernel
set_option maxRecDepth 100000 in
theorem gk_44 : ex_allT mt_44.2.1 (ex_chk mt_44.2.2.2.2.2.2.2.2.2) = true := by decide +kernel
set_option maxRecDepth 100000 in
theorem gk_45 : ex_allT mt_45.2.1 (ex_chk mt_45.2.2.2.2.2.2.2.2.2) = true := by decide +kernel
set_option maxRecDepth 100000 in
theorem gk_46 : ex_allT mt_46.2.1 (ex_chk mt_46.2.2.2.2.2.2.2.2.2) = true := by decide +kernel
set_option maxRecDepth 100000 in
theorem gk_47 : ex_allT mt_47.2.1 (ex_chk mt_47.2.2.2.2.2.2.2.2.2) = true := by decide +kernel
set_option maxRecDepth 100000 in
theorem gk_48 : ex_allT mt_48.2.1 (ex_chk mt_48.2.2.2.2.2.2.2.2.2) = true := by decide +kernel
set_option maxRecDepth 100000 in
theorem gk_49 : ex_allT mt_49.2.1 (ex_chk mt_49.2.2.2.2.2.2.2.2.2) = true := by decide +kernel
set_option maxRecDepth 100000 in
theorem gk_50 : ex_allT mt_50.2.1 (ex_chk mt_50.2.2.2.2.2.2.2.2.2) = true := by decide +kernel
set_option maxRecDepth 100000 in
theorem gk_51 : ex_allT mt_51.2.1 (ex_chk mt_51.2.2.2.2.2.2.2.2.2) = true := by decide +kernel
set_option maxRecDepth 100000 in
theorem gk_52 : ex_allT mt_52.2.1 (ex_chk mt_52.2.2.2.2.2.2.2.2.2) = true := by decide +kernel
set_option maxRecDepth 100000 in
theorem gk_53 : ex_allT mt_53.2.1 (ex_chk mt_53.2.2.2.2.2.2.2.2.2) = true := by decide +kernel
set_option maxRecDepth 100000 in
theorem gk_54 : ex_allT mt_54.2.1 (ex_chk mt_54.2.2.2.2.2.2.2.2.2) = true := by decide +kernel
set_option maxRecDepth 100000 in
theorem gk_55 : ex_allT mt_55.2.1 (ex_chk mt_55.2.2.2.2.2.2.2.2.2) = true := by decide +kernel
set_option maxRecDepth 100000 in
theorem gk_56 : ex_allT mt_56.2.1 (ex_chk mt_56.2.2.2.2.2.2.2.2.2) = true := by decide +kernel
set_option maxRecDepth 100000 in
theorem gk_57 : ex_allT mt_57.2.1 (ex_chk mt_57.2.2.2.2.2.2.2.2.2) = true := by decide +kernel
set_option maxRecDepth 100000 in
theorem gk_58 : ex_allT mt_58.2.1 (ex_chk mt_58.2.2.2.2.2.2.2.2.2) = true := by decide +kernel
set_option maxRecDepth 100000 in
theorem gk_59 : ex_allT mt_59.2.1 (ex_chk mt_59.2.2.2.2.2.2.2.2.2) = true := by decide +kernel
set_option maxRecDepth 100000 in
theorem gk_60 : ex_allT mt_60.2.1 (ex_chk mt_60.2.2.2.2.2.2.2.2.2) = true := by decide +kernel
set_option maxRecDepth 100000 in
theorem gk_61 : ex_allT mt_61.2.1 (ex_chk mt_61.2.2.2.2.2.2.2.2.2) = true := by decide +kernel
set_option maxRecDepth 100000 in
theorem gk_62 : ex_allT mt_62.2.1 (ex_chk mt_62.2.2.2.2.2.2.2.2.2) = true := by decide +kernel
set_option maxRecDepth 100000 in
theorem gk_63 : ex_allT mt_63.2.1 (ex_chk mt_63.2.2.2.2.2.2.2.2.2) = true := by decide +kernel
set_option maxRecDepth 100000 in
theorem gk_64 : ex_allT mt_64.2.1 (ex_chk mt_64.2.2.2.2.2.2.2.2.2) = true := by decide +kernel
set_option maxRecDepth 100000 in
theorem gk_65 : ex_allT mt_65.2.1 (ex_chk mt_65.2.2.2.2.2.2.2.2.2) = true := by decide +kernel
set_option maxRecDepth 100000 in
theorem gk_66 : ex_allT mt_66.2.1 (ex_chk mt_66.2.2.2.2.2.2.2.2.2) = true := by decide +kernel
set_option maxRecDepth 100000 in
theorem gk_67 : ex_allT mt_67.2.1 (ex_chk mt_67.2.2.2.2.2.2.2.2.2) = true := by decide +kernel
set_option maxRecDepth 100000 in
theorem gk_68 : ex_allT mt_68.2.1 (ex_chk mt_68.2.2.2.2.2.2.2.2.2) = true := by decide +kernel
set_option maxRecDepth 100000 in
theorem gk_69 : ex_allT mt_69.2.1 (ex_chk mt_69.2.2.2.2.2.2.2.2.2) = true := by decide +kernel
set_option maxRecDepth 100000 in
theorem gk_70 : ex_allT mt_70.2.1 (ex_chk mt_70.2.2.2.2.2.2.2.2.2) = true := by decide +kernel
set_option maxRecDepth 100000 in
theorem gk_71 : ex_allT mt_71.2.1 (ex_chk mt_71.2.2.2.2.2.2.2.2.2) = true := by decide +kernel
set_option maxRecDepth 100000 in
theorem gk_72 : ex_allT mt_72.2.1 (ex_chk mt_72.2.2.2.2.2.2.2.2.2) = true := by decide +kernel
set_option maxRecDepth 100000 in
theorem gk_73 : ex_allT mt_73.2.1 (ex_chk mt_73.2.2.2.2.2.2.2.2.2) = true := by decide +kernel
set_option maxRecDepth 100000 in
theorem gk_74 : ex_allT mt_74.2.1 (ex_chk mt_74.2.2.2.2.2.2.2.2.2) = true := by decide +kernel
set_option maxRecDepth 100000 in
theorem gk_75 : ex_allT mt_75.2.1 (ex_chk mt_75.2.2.2.2.2.2.2.2.2) = true := by decide +kernel
set_option maxRecDepth 100000 in
theorem gk_76 : ex_allT mt_76.2.1 (ex_chk mt_76.2.2.2.2.2.2.2.2.2) = true := by decide +kernel
set_option maxRecDepth 100000 in
theorem gk_77 : ex_allT mt_77.2.1 (ex_chk mt_77.2.2.2.2.2.2.2.2.2) = true := by decide +kernel
set_option maxRecDepth 100000 in
theorem gk_78 : ex_allT mt_78.2.1 (ex_chk mt_78.2.2.2.2.2.2.2.2.2) = true := by decide +kernel
set_option maxRecDepth 100000 in
theorem gk_79 : ex_allT mt_79.2.1 (ex_chk mt_79.2.2.2.2.2.2.2.2.2) = true := by decide +kernel
set_option maxRecDepth 100000 in
theorem gk_80 : ex_allT mt_80.2.1 (ex_chk mt_80.2.2.2.2.2.2.2.2.2) = true := by decide +kernel
set_option maxRecDepth 100000 in
theorem gk_81 : ex_allT mt_81.2.1 (ex_chk mt_81.2.2.2.2.2.2.2.2.2) = true := by decide +kernel
set_option maxRecDepth 100000 in
theorem gk_82 : ex_allT mt_82.2.1 (ex_chk mt_82.2.2.2.2.2.2.2.2.2) = true := by decide +kernel
set_option maxRecDepth 100000 in
theorem gk_83 : ex_allT mt_83.2.1 (ex_chk mt_83.2.2.2.2.2.2.2.2.2) = true := by decide +kernel
set_option maxRecDepth 100000 in
theorem gk_84 : ex_allT mt_84.2.1 (ex_chk mt_84.2.2.2.2.2.2.2.2.2) = true := by decide +kernel
set_option maxRecDepth 100000 in
theorem gk_85 : ex_allT mt_85.2.1 (ex_chk mt_85.2.2.2.2.2.2.2.2.2) = true := by decide +kernel
set_option maxRecDepth 100000 in
theorem gk_86 : ex_allT mt_86.2.1 (ex_chk mt_86.2.2.2.2.2.2.2.2.2) = true := by decide +kernel
set_option maxRecDepth 100000 in
theorem gk_87 : ex_allT mt_87.2.1 (ex_chk mt_87.2.2.2.2.2.2.2.2.2) = true := by decide +kernel
set_option maxRecDepth 100000 in
theorem gk_88 : ex_allT mt_88.2.1 (ex_chk mt_88.2.2.2.2.2.2.2.2.2) = true := by decide +kernel
set_option maxRecDepth 100000 in
theorem gk_89 : ex_allT mt_89.2.1 (ex_chk mt_89.2.2.2.2.2.2.2.2.2) = true := by decide +kernel
set_option maxRecDepth 100000 in
theorem gk_90 : ex_allT mt_90.2.1 (ex_chk mt_90.2.2.2.2.2.2.2.2.2) = true := by decide +kernel
set_option maxRecDepth 100000 in
theorem gk_91 : ex_allT mt_91.2.1 (ex_chk mt_91.2.2.2.2.2.2.2.2.2) = true := by decide +kernel
set_option maxRecDepth 100000 in
theorem gk_92 : ex_allT mt_92.2.1 (ex_chk mt_92.2.2.2.2.2.2.2.2.2) = true := by decide +kernel
set_option maxRecDepth 100000 in
theorem gk_93 : ex_allT mt_93.2.1 (ex_chk mt_93.2.2.2.2.2.2.2.2.2) = true := by decide +kernel
set_option maxRecDepth 100000 in
theorem gk_94 : ex_allT mt_94.2.1 (ex_chk mt_94.2.2.2.2.2.2.2.2.2) = true := by decide +kernel
set_option maxRecDepth 100000 in
theorem gk_95 : ex_allT mt_95.2.1 (ex_chk mt_95.2.2.2.2.2.2.2.2.2) = true := by decide +kernel
set_option maxRecDepth 100000 in
theorem gk_96 : ex_allT mt_96.2.1 (ex_chk mt_96.2.2.2.2.2.2.2.2.2) = true := by decide +kernel
set_option maxRecDepth 100000 in
theorem gk_97 : ex_allT mt_97.2.1 (ex_chk mt_97.2.2.2.2.2.2.2.2.2) = true := by decide +kernel
set_option maxRecDepth 100000 in
theorem gk_98 : ex_allT mt_98.2.1 (ex_chk mt_98.2.2.2.2.2.2.2.2.2) = true := by decide +kernel
set_option maxRecDepth 100000 in
theorem gk_99 : ex_allT mt_99.2.1 (ex_chk mt_99.2.2.2.2.2.2.2.2.2) = true := by decide +kernel
set_option maxRecDepth 100000 in
theorem gk_100 : ex_allT mt_100.2.1 (ex_chk mt_100.2.2.2.2.2.2.2.2.2) = true := by decide +kernel
set_option maxRecDepth 100000 in
theorem gk_101 : ex_allT mt_101.2.1 (ex_chk mt_101.2.2.2.2.2.2.2.2.2) = true := by decide +kernel
set_option maxRecDepth 100000 in
theorem gk_102 : ex_allT mt_102.2.1 (ex_chk mt_102.2.2.2.2.2.2.2.2.2) = true := by decide +kernel
set_option maxRecDepth 100000 in
theorem gk_103 : ex_allT mt_103.2.1 (ex_chk mt_103.2.2.2.2.2.2.2.2.2) = true := by decide +kernel
set_option maxRecDepth 100000 in
theorem gk_104 : ex_allT mt_104.2.1 (ex_chk mt_104.2.2.2.2.2.2.2.2.2) = true := by decide +kernel
set_option maxRecDepth 100000 in
theorem gk_105 : ex_allT mt_105.2.1 (ex_chk mt_105.2.2.2.2.2.2.2.2.2) = true := by decide +kernel
set_option maxRecDepth 100000 in
theorem gk_106 : ex_allT mt_106.2.1 (ex_chk mt_106.2.2.2.2.2.2.2.2.2) = true := by decide +kernel
set_option maxRecDepth 100000 in
theorem gk_107 : ex_allT mt_107.2.1 (ex_chk mt_107.2.2.2.2.2.2.2.2.2) = true := by decide +kernel
set_option maxRecDepth 100000 in
theorem gk_108 : ex_allT mt_108.2.1 (ex_chk mt_108.2.2.2.2.2.2.2.2.2) = true := by decide +kernel
set_option maxRecDepth 100000 in
theorem gk_109 : ex_allT mt_109.2.1 (ex_chk mt_109.2.2.2.2.2.2.2.2.2) = true := by decide +kernel
set_option maxRecDepth 100000 in
theorem gk_110 : ex_allT mt_110.2.1 (ex_chk mt_110.2.2.2.2.2.2.2.2.2) = true := by decide +kernel
set_option maxRecDepth 100000 in
theorem gk_111 : ex_allT mt_111.2.1 (ex_chk mt_111.2.2.2.2.2.2.2.2.2) = true := by decide +kernel
set_option maxRecDepth 100000 in
theorem gk_112 : ex_allT mt_112.2.1 (ex_chk mt_112.2.2.2.2.2.2.2.2.2) = true := by decide +kernel
set_option maxRecDepth 100000 in
theorem gk_113 : ex_allT mt_113.2.1 (ex_chk mt_113.2.2.2.2.2.2.2.2.2) = true := by decide +kernel
set_option maxRecDepth 100000 in
theorem gk_114 : ex_allT mt_114.2.1 (ex_chk mt_114.2.2.2.2.2.2.2.2.2) = true := by decide +kernel
set_option maxRecDepth 100000 in
theorem gk_115 : ex_allT mt_115.2.1 (ex_chk mt_115.2.2.2.2.2.2.2.2.2) = true := by decide +kernel
set_option maxRecDepth 100000 in
theorem gk_116 : ex_allT mt_116.2.1 (ex_chk mt_116.2.2.2.2.2.2.2.2.2) = true := by decide +kernel
set_option maxRecDepth 100000 in
theorem gk_117 : ex_allT mt_117.2.1 (ex_chk mt_117.2.2.2.2.2.2.2.2.2) = true := by decide +kernel
set_option maxRecDepth 100000 in
theorem gk_118 : ex_allT mt_118.2.1 (ex_chk mt_118.2.2.2.2.2.2.2.2.2) = true := by decide +kernel
set_option maxRecDepth 100000 in
theorem gk_119 : ex_allT mt_119.2.1 (ex_chk mt_119.2.2.2.2.2.2.2.2.2) = true := by decide +kernel
set_option maxRecDepth 100000 in
theorem gk_120 : ex_allT mt_120.2.1 (ex_chk mt_120.2.2.2.2.2.2.2.2.2) = true := by decide +kernel
set_option maxRecDepth 100000 in
theorem gk_121 : ex_allT mt_121.2.1 (ex_chk mt_121.2.2.2.2.2.2.2.2.2) = true := by decide +kernel
set_option maxRecDepth 100000 in
theorem gk_122 : ex_allT mt_122.2.1 (ex_chk mt_122.2.2.2.2.2.2.2.2.2) = true := by decide +kernel
set_option maxRecDepth 100000 in
theorem gk_123 : ex_allT mt_123.2.1 (ex_chk mt_123.2.2.2.2.2.2.2.2.2) = true := by decide +kernel
set_option maxRecDepth 100000 in
theorem gk_124 : ex_allT mt_124.2.1 (ex_chk mt_124.2.2.2.2.2.2.2.2.2) = true := by decide +kernel
set_option maxRecDepth 100000 in
theorem gk_125 : ex_allT mt_125.2.1 (ex_chk mt_125.2.2.2.2.2.2.2.2.2) = true := by decide +kernel
set_option maxRecDepth 100000 in
theorem gk_126 : ex_allT mt_126.2.1 (ex_chk mt_126.2.2.2.2.2.2.2.2.2) = true := by decide +kernel
set_option maxRecDepth 100000 in
theorem gk_127 : ex_allT mt_127.2.1 (ex_chk mt_127.2.2.2.2.2.2.2.2.2) = true := by decide +kernel
set_option maxRecDepth 100000 in
theorem gk_128 : ex_allT mt_128.2.1 (ex_chk mt_128.2.2.2.2.2.2.2.2.2) = true := by decide +kernel
set_option maxRecDepth 100000 in
theorem gk_129 : ex_allT mt_129.2.1 (ex_chk mt_129.2.2.2.2.2.2.2.2.2) = true := by decide +kernel
set_option maxRecDepth 100000 in
theorem gk_130 : ex_allT mt_130.2.1 (ex_chk mt_130.2.2.2.2.2.2.2.2.2) = true := by decide +kernel
set_option maxRecDepth 100000 in
theorem gk_131 : ex_allT mt_131.2.1 (ex_chk mt_131.2.2.2.2.2.2.2.2.2) = true := by decide +kernel
set_option maxRecDepth 100000 in
theorem gk_132 : ex_allT mt_132.2.1 (ex_chk mt_132.2.2.2.2.2.2.2.2.2) = true := by decide +kernel
set_option maxRecDepth 100000 in
theorem gk_133 : ex_allT mt_133.2.1 (ex_chk mt_133.2.2.2.2.2.2.2.2.2) = true := by decide +kernel
set_option maxRecDepth 100000 in
theorem gk_134 : ex_allT mt_134.2.1 (ex_chk mt_134.2.2.2.2.2.2.2.2.2) = true := by decide +kernel
set_option maxRecDepth 100000 in
theorem gk_135 : ex_allT mt_135.2.1 (ex_chk mt_135.2.2.2.2.2.2.2.2.2) = true := by decide +kernel
set_option maxRecDepth 100000 in
theorem gk_136 : ex_allT mt_136.2.1 (ex_chk mt_136.2.2.2.2.2.2.2.2.2) = true := by decide +kernel
set_option maxRecDepth 100000 in
theorem gk_137 : ex_allT mt_137.2.1 (ex_chk mt_137.2.2.2.2.2.2.2.2.2) = true := by decide +kernel
set_option maxRecDepth 100000 in
theorem gk_138 : ex_allT mt_138.2.1 (ex_chk mt_138.2.2.2.2.2.2.2.2.2) = true := by decide +kernel
set_option maxRecDepth 100000 in
theorem gk_139 : ex_allT mt_139.2.1 (ex_chk mt_139.2.2.2.2.2.2.2.2.2) = true := by decide +kernel
set_option maxRecDepth 100000 in
theorem gk_140 : ex_allT mt_140.2.1 (ex_chk mt_140.2.2.2.2.2.2.2.2.2) = true := by decide +kernel
set_option maxRecDepth 100000 in
theorem gk_141 : ex_allT mt_141.2.1 (ex_chk mt_141.2.2.2.2.2.2.2.2.2) = true := by decide +kernel
set_option maxRecDepth 100000 in
theorem gk_142 : ex_allT mt_142.2.1 (ex_chk mt_142.2.2.2.2.2.2.2.2.2) = true := by decide +kernel
set_option maxRecDepth 100000 in
theorem gk_143 : ex_allT mt_143.2.1 (ex_chk mt_143.2.2.2.2.2.2.2.2.2) = true := by decide +kernel
set_option maxRecDepth 100000 in
theorem gk_144 : ex_allT mt_144.2.1 (ex_chk mt_144.2.2.2.2.2.2.2.2.2) = true := by decide +kernel
set_option maxRecDepth 100000 in
theorem gk_145 : ex_allT mt_145.2.1 (ex_chk mt_145.2.2.2.2.2.2.2.2.2) = true := by decide +kernel
set_option maxRecDepth 100000 in
theorem gk_146 : ex_allT mt_146.2.1 (ex_chk mt_146.2.2.2.2.2.2.2.2.2) = true := by decide +kernel
set_option maxRecDepth 100000 in
theorem gk_147 : ex_allT mt_147.2.1 (ex_chk mt_147.2.2.2.2.2.2.2.2.2) = true := by decide +kernel
set_option maxRecDepth 100000 in
theorem gk_148 : ex_allT mt_148.2.1 (ex_chk mt_148.2.2.2.2.2.2.2.2.2) = true := by decide +kernel
set_option maxRecDepth 100000 in
theorem gk_149 : ex_allT mt_149.2.1 (ex_chk mt_149.2.2.2.2.2.2.2.2.2) = true := by decide +kernel
set_option maxRecDepth 100000 in
theorem gk_150 : ex_allT mt_150.2.1 (ex_chk mt_150.2.2.2.2.2.2.2.2.2) = true := by decide +kernel
set_option maxRecDepth 100000 in
theorem gk_151 : ex_allT mt_151.2.1 (ex_chk mt_151.2.2.2.2.2.2.2.2.2) = true := by decide +kernel
set_option maxRecDepth 100000 in
theorem gk_152 : ex_allT mt_152.2.1 (ex_chk mt_152.2.2.2.2.2.2.2.2.2) = true := by decide +kernel
set_option maxRecDepth 100000 in
theorem gk_153 : ex_allT mt_153.2.1 (ex_chk mt_153.2.2.2.2.2.2.2.2.2) = true := by decide +kernel
set_option maxRecDepth 100000 in
theorem gk_154 : ex_allT mt_154.2.1 (ex_chk mt_154.2.2.2.2.2.2.2.2.2) = true := by decide +kernel
set_option maxRecDepth 100000 in
theorem gk_155 : ex_allT mt_155.2.1 (ex_chk mt_155.2.2.2.2.2.2.2.2.2) = true := by decide +kernel
set_option maxRecDepth 100000 in
theorem gk_156 : ex_allT mt_156.2.1 (ex_chk mt_156.2.2.2.2.2.2.2.2.2) = true := by decide +kernel
set_option maxRecDepth 100000 in
theorem gk_157 : ex_allT mt_157.2.1 (ex_chk mt_157.2.2.2.2.2.2.2.2.2) = true := by decide +kernel
set_option maxRecDepth 100000 in
theorem gk_158 : ex_allT mt_158.2.1 (ex_chk mt_158.2.2.2.2.2.2.2.2.2) = true := by decide +kernel
set_option maxRecDepth 100000 in
theorem gk_159 : ex_allT mt_159.2.1 (ex_chk mt_159.2.2.2.2.2.2.2.2.2) = true := by decide +kernel
set_option maxRecDepth 100000 in
theorem gk_160 : ex_allT mt_160.2.1 (ex_chk mt_160.2.2.2.2.2.2.2.2.2) = true := by decide +kernel
set_option maxRecDepth 100000 in
theorem gk_161 : ex_allT mt_161.2.1 (ex_chk mt_161.2.2.2.2.2.2.2.2.2) = true := by decide +kernel
set_option maxRecDepth 100000 in
theorem gk_162 : ex_allT mt_162.2.1 (ex_chk mt_162.2.2.2.2.2.2.2.2.2) = true := by decide +kernel
set_option maxRecDepth 100000 in
theorem gk_163 : ex_allT mt_163.2.1 (ex_chk mt_163.2.2.2.2.2.2.2.2.2) = true := by decide +kernel
set_option maxRecDepth 100000 in
theorem gk_164 : ex_allT mt_164.2.1 (ex_chk mt_164.2.2.2.2.2.2.2.2.2) = true := by decide +kernel
set_option maxRecDepth 100000 in
theorem gk_165 : ex_allT mt_165.2.1 (ex_chk mt_165.2.2.2.2.2.2.2.2.2) = true := by decide +kernel
set_option maxRecDepth 100000 in
theorem gk_166 : ex_allT mt_166.2.1 (ex_chk mt_166.2.2.2.2.2.2.2.2.2) = true := by decide +kernel
set_option maxRecDepth 100000 in
theorem gk_167 : ex_allT mt_167.2.1 (ex_chk mt_167.2.2.2.2.2.2.2.2.2) = true := by decide +kernel
set_option maxRecDepth 100000 in
theorem gk_168 : ex_allT mt_168.2.1 (ex_chk mt_168.2.2.2.2.2.2.2.2.2) = true := by decide +kernel
set_option maxRecDepth 100000 in
theorem gk_169 : ex_allT mt_169.2.1 (ex_chk mt_169.2.2.2.2.2.2.2.2.2) = true := by decide +kernel
set_option maxRecDepth 100000 in
theorem gk_170 : ex_allT mt_170.2.1 (ex_chk mt_170.2.2.2.2.2.2.2.2.2) = true := by decide +kernel
set_option maxRecDepth 100000 in
theorem gk_171 : ex_allT mt_171.2.1 (ex_chk mt_171.2.2.2.2.2.2.2.2.2) = true := by decide +kernel
set_option maxRecDepth 100000 in
theorem gk_172 : ex_allT mt_172.2.1 (ex_chk mt_172.2.2.2.2.2.2.2.2.2) = true := by decide +kernel
set_option maxRecDepth 100000 in
theorem gk_173 : ex_allT mt_173.2.1 (ex_chk mt_173.2.2.2.2.2.2.2.2.2) = true := by decide +kernel
set_option maxRecDepth 100000 in
theorem gk_174 : ex_allT mt_174.2.1 (ex_chk mt_174.2.2.2.2.2.2.2.2.2) = true := by decide +kernel
set_option maxRecDepth 100000 in
theorem gk_175 : ex_allT mt_175.2.1 (ex_chk mt_175.2.2.2.2.2.2.2.2.2) = true := by decide +kernel
set_option maxRecDepth 100000 in
theorem gk_176 : ex_allT mt_176.2.1 (ex_chk mt_176.2.2.2.2.2.2.2.2.2) = true := by decide +kernel
set_option maxRecDepth 100000 in
theorem gk_177 : ex_allT mt_177.2.1 (ex_chk mt_177.2.2.2.2.2.2.2.2.2) = true := by decide +kernel
set_option maxRecDepth 100000 in
theorem gk_178 : ex_allT mt_178.2.1 (ex_chk mt_178.2.2.2.2.2.2.2.2.2) = true := by decide +kernel
set_option maxRecDepth 100000 in
theorem gk_179 : ex_allT mt_179.2.1 (ex_chk mt_179.2.2.2.2.2.2.2.2.2) = true := by decide +kernel
set_option maxRecDepth 100000 in
theorem gk_180 : ex_allT mt_180.2.1 (ex_chk mt_180.2.2.2.2.2.2.2.2.2) = true := by decide +kernel
set_option maxRecDepth 100000 in
theorem gk_181 : ex_allT mt_181.2.1 (ex_chk mt_181.2.2.2.2.2.2.2.2.2) = true := by decide +kernel
set_option maxRecDepth 100000 in
theorem gk_182 : ex_allT mt_182.2.1 (ex_chk mt_182.2.2.2.2.2.2.2.2.2) = true := by decide +kernel
set_option maxRecDepth 100000 in
theorem gk_183 : ex_allT mt_183.2.1 (ex_chk mt_183.2.2.2.2.2.2.2.2.2) = true := by decide +kernel
set_option maxRecDepth 100000 in
theorem gk_184 : ex_allT mt_184.2.1 (ex_chk mt_184.2.2.2.2.2.2.2.2.2) = true := by decide +kernel
set_option maxRecDepth 100000 in
theorem gk_185 : ex_allT mt_185.2.1 (ex_chk mt_185.2.2.2.2.2.2.2.2.2) = true := by decide +kernel
set_option maxRecDepth 100000 in
theorem gk_186 : ex_allT mt_186.2.1 (ex_chk mt_186.2.2.2.2.2.2.2.2.2) = true := by decide +kernel
set_option maxRecDepth 100000 in
theorem gk_187 : ex_allT mt_187.2.1 (ex_chk mt_187.2.2.2.2.2.2.2.2.2) = true := by decide +kernel
set_option maxRecDepth 100000 in
theorem gk_188 : ex_allT mt_188.2.1 (ex_chk mt_188.2.2.2.2.2.2.2.2.2) = true := by decide +kernel
set_option maxRecDepth 100000 in
theorem gk_189 : ex_allT mt_189.2.1 (ex_chk mt_189.2.2.2.2.2.2.2.2.2) = true := by decide +kernel
set_option maxRecDepth 100000 in
theorem gk_190 : ex_allT mt_190.2.1 (ex_chk mt_190.2.2.2.2.2.2.2.2.2) = true := by decide +kernel
set_option maxRecDepth 100000 in
theorem gk_191 : ex_allT mt_191.2.1 (ex_chk mt_191.2.2.2.2.2.2.2.2.2) = true := by decide +kernel
set_option maxRecDepth 100000 in
theorem gk_192 : ex_allT mt_192.2.1 (ex_chk mt_192.2.2.2.2.2.2.2.2.2) = true := by decide +kernel
set_option maxRecDepth 100000 in
theorem gk_193 : ex_allT mt_193.2.1 (ex_chk mt_193.2.2.2.2.2.2.2.2.2) = true := by decide +kernel
set_option maxRecDepth 100000 in
theorem gk_194 : ex_allT mt_194.2.1 (ex_chk mt_194.2.2.2.2.2.2.2.2.2) = true := by decide +kernel
set_option maxRecDepth 100000 in
theorem gk_195 : ex_allT mt_195.2.1 (ex_chk mt_195.2.2.2.2.2.2.2.2.2) = true := by decide +kernel
set_option maxRecDepth 100000 in
theorem gk_196 : ex_allT mt_196.2.1 (ex_chk mt_196.2.2.2.2.2.2.2.2.2) = true := by decide +kernel
set_option maxRecDepth 100000 in
theorem gk_197 : ex_allT mt_197.2.1 (ex_chk mt_197.2.2.2.2.2.2.2.2.2) = true := by decide +kernel
set_option maxRecDepth 100000 in
theorem gk_198 : ex_allT mt_198.2.1 (ex_chk mt_198.2.2.2.2.2.2.2.2.2) = true := by decide +kernel
set_option maxRecDepth 100000 in
theorem gk_199 : ex_allT mt_199.2.1 (ex_chk mt_199.2.2.2.2.2.2.2.2.2) = true := by decide +kernel
set_option maxRecDepth 100000 in
theorem gk_200 : ex_allT mt_200.2.1 (ex_chk mt_200.2.2.2.2.2.2.2.2.2) = true := by decide +kernel
set_option maxRecDepth 100000 in
theorem gk_201 : ex_allT mt_201.2.1 (ex_chk mt_201.2.2.2.2.2.2.2.2.2) = true := by decide +kernel
set_option maxRecDepth 100000 in
theorem gk_202 : ex_allT mt_202.2.1 (ex_chk mt_202.2.2.2.2.2.2.2.2.2) = true := by decide +kernel
set_option maxRecDepth 100000 in
theorem gk_203 : ex_allT mt_203.2.1 (ex_chk mt_203.2.2.2.2.2.2.2.2.2) = true := by decide +kernel
set_option maxRecDepth 100000 in
theorem gk_204 : ex_allT mt_204.2.1 (ex_chk mt_204.2.2.2.2.2.2.2.2.2) = true := by decide +kernel
set_option maxRecDepth 100000 in
theorem gk_205 : ex_allT mt_205.2.1 (ex_chk mt_205.2.2.2.2.2.2.2.2.2) = true := by decide +kernel
set_option maxRecDepth 100000 in
theorem gk_206 : ex_allT mt_206.2.1 (ex_chk mt_206.2.2.2.2.2.2.2.2.2) = true := by decide +kernel
set_option maxRecDepth 100000 in
theorem gk_207 : ex_allT mt_207.2.1 (ex_chk mt_207.2.2.2.2.2.2.2.2.2) = true := by decide +kernel
set_option maxRecDepth 100000 in
theorem gk_208 : ex_allT mt_208.2.1 (ex_chk mt_208.2.2.2.2.2.2.2.2.2) = true := by decide +kernel
set_option maxRecDepth 100000 in
theorem gk_209 : ex_allT mt_209.2.1 (ex_chk mt_209.2.2.2.2.2.2.2.2.2) = true := by decide +kernel
set_option maxRecDepth 100000 in
theorem gk_210 : ex_allT mt_210.2.1 (ex_chk mt_210.2.2.2.2.2.2.2.2.2) = true := by decide +kernel
set_option maxRecDepth 100000 in
theorem gk_211 : ex_allT mt_211.2.1 (ex_chk mt_211.2.2.2.2.2.2.2.2.2) = true := by decide +kernel
set_option maxRecDepth 100000 in
theorem gk_212 : ex_allT mt_212.2.1 (ex_chk mt_212.2.2.2.2.2.2.2.2.2) = true := by decide +kernel
set_option maxRecDepth 100000 in
theorem gk_213 : ex_allT mt_213.2.1 (ex_chk mt_213.2.2.2.2.2.2.2.2.2) = true := by decide +kernel
set_option maxRecDepth 100000 in
theorem gk_214 : ex_allT mt_214.2.1 (ex_chk mt_214.2.2.2.2.2.2.2.2.2) = true := by decide +kernel
set_option maxRecDepth 100000 in
theorem gk_215 : ex_allT mt_215.2.1 (ex_chk mt_215.2.2.2.2.2.2.2.2.2) = true := by decide +kernel
set_option maxRecDepth 100000 in
theorem gk_216 : ex_allT mt_216.2.1 (ex_chk mt_216.2.2.2.2.2.2.2.2.2) = true := by decide +kernel
set_option maxRecDepth 100000 in
theorem gk_217 : ex_allT mt_217.2.1 (ex_chk mt_217.2.2.2.2.2.2.2.2.2) = true := by decide +kernel
set_option maxRecDepth 100000 in
theorem gk_218 : ex_allT mt_218.2.1 (ex_chk mt_218.2.2.2.2.2.2.2.2.2) = true := by decide +kernel
set_option maxRecDepth 100000 in
theorem gk_219 : ex_allT mt_219.2.1 (ex_chk mt_219.2.2.2.2.2.2.2.2.2) = true := by decide +kernel
set_option maxRecDepth 100000 in
theorem gk_220 : ex_allT mt_220.2.1 (ex_chk mt_220.2.2.2.2.2.2.2.2.2) = true := by decide +kernel

/-! THE LINKS' TABLES are as lw_tbl has them. Written by wip/gen.py. -/
noncomputable def ex_fldB (c n : Nat) (q : Nat × Nat × Nat) : Bool := decide (q.1 < 9) && (decide (q.2.1 < ex_nf q.1) && decide (ex_g3 lw_ds q.2.2 = some (0, c, n, q.1, q.2.1)))
set_option maxRecDepth 100000 in
theorem ex_fld_ck : ex_allA ex_fld_all ex_fldB = true := by decide +kernel
noncomputable def ex_nwcB (c n : Nat) (q : Nat × Nat) : Bool := decide (q.1 < 9) && decide (ex_g3 lw_ds q.2 = some (3, c, n, q.1, 0))
set_option maxRecDepth 100000 in
theorem ex_nwc_ck : ex_allA ex_nwc_all ex_nwcB = true := by decide +kernel
noncomputable def ex_ldcB (c n : Nat) (q : Value × Nat) : Bool := match q.1 with
  | .int v => decide ((ex_g3 lw_ds q.2 = some (11, c, n, v.toNatClampNeg, 0) ∧ Int32.ofNat v.toNatClampNeg = v) ∨ (ex_g3 lw_ds q.2 = some (11, c, n, (-v).toNatClampNeg, 1) ∧ -Int32.ofNat (-v).toNatClampNeg = v))
  | .long v => decide ((ex_g3 lw_ds q.2 = some (12, c, n, v.toNatClampNeg, 0) ∧ Int64.ofNat v.toNatClampNeg = v) ∨ (ex_g3 lw_ds q.2 = some (12, c, n, (-v).toNatClampNeg, 1) ∧ -Int64.ofNat (-v).toNatClampNeg = v))
  | .retAddr k => Nat.beq (k % 2) 1 && Option.rec (motive := fun _ => Bool) false (fun x => Nat.beq x.1 c && Nat.beq x.2.1 n) (ex_at ex_str (k / 2))
  | _ => true
noncomputable def ex_sflB (c n : Nat) (q : Nat × Nat) : Bool := decide (q.1 < 2) && decide (ex_g3 lw_ds q.2 = some (17, c, n, q.1, 0))
set_option maxRecDepth 100000 in
theorem ex_sfl_ck : ex_allA ex_sfl_all ex_sflB = true := by decide +kernel
noncomputable def ex_staB (c n : Nat) (q : Nat × Nat) : Bool := decide (q.1 < 2) && decide (ex_g3 lw_ds q.2 = some (18, c, n, q.1, 0))
set_option maxRecDepth 100000 in
theorem ex_sta_ck : ex_allA ex_sta_all ex_staB = true := by decide +kernel
set_option maxRecDepth 100000 in
theorem ex_ldc_ck : ex_allA ex_ldc_all ex_ldcB = true := by decide +kernel
noncomputable def ex_itrB (c n : Nat) (q : Nat × Nat) : Bool := decide (q.1 < 4) && decide (ex_g3 lw_ds q.2 = some (13, c, n, q.1, 0))
set_option maxRecDepth 100000 in
theorem ex_itr_ck : ex_allA ex_itr_all ex_itrB = true := by decide +kernel
/-- how many values a method takes, its own object counted -/
def ex_np : ex_T (Nat × Bool) := [[[some (1, false), some (1, true), some (1, true), some (2, true), some (2, true), some (2, true), some (2, true), some (1, true)], [some (1, true), some (1, true), some (1, true), some (2, true), some (2, true), some (2, true), some (2, true), some (2, true)], [some (2, true), some (2, true), some (2, true), some (2, true), some (2, true), some (2, true), some (2, true), some (2, true)], [some (2, true), some (3, true), some (3, true), some (2, true), some (2, true), some (1, true), some (1, true), some (2, true)], [some (2, true), some (2, true), some (2, true), some (2, true), some (2, true), some (1, true), some (1, true), some (2, true)], [some (2, true), some (2, true), some (2, true), some (2, true), some (2, true), some (2, true), some (2, true), some (2, true)], [some (2, true), some (2, true), some (2, true), some (2, true), some (2, true), some (3, true), some (3, true), some (3, true)], [some (3, true), some (3, true), some (3, true), some (2, true), some (2, true), some (3, true), some (3, true), some (1, true)]], [[some (1, true), some (2, true), some (2, true), some (4, true), some (4, true), some (2, true), some (2, true), some (2, true)], [some (2, true), some (4, true), some (4, true), some (4, true), some (4, true), some (5, true), some (5, true), some (1, true)], [some (1, true), some (2, true), some (2, true), some (1, true), some (2, true), some (2, true), some (2, true), some (2, true)], [some (1, true), some (1, true), some (1, true), some (1, true), some (2, true), some (3, false), some (2, true), some (1, true)], [some (1, true), some (1, true), some (3, true), some (2, true), some (2, true), some (2, true), some (2, true), some (3, true)], [some (1, true), some (1, true), some (1, true), some (3, true), some (2, true), some (2, true), some (2, true), some (3, true)], [some (2, true), some (2, true), some (1, true), some (2, true), some (2, true), some (2, true), some (1, false), some (2, true)], [some (1, true), some (2, true), some (1, false), some (1, true), some (2, true), some (2, true), some (1, true), some (2, true)]], [[some (4, true), some (1, true), some (3, true), some (3, true), some (2, false), some (2, false), some (2, true), some (1, false)], [some (3, true), some (2, true), some (1, true), some (2, true), some (2, true), some (1, true), some (4, true), some (1, false)], [some (2, true), some (3, true), some (3, true), some (2, false), some (2, true), some (3, true), some (3, true), some (2, true)], [some (1, true), some (1, true), some (1, true), some (1, true), some (1, true), some (1, true), some (3, true), some (2, true)], [some (1, true), some (2, true), some (2, false), some (2, true), some (1, false), some (4, true), some (3, true), some (2, true)], [some (3, false), some (4, true), some (1, true), some (3, false), some (5, false), some (2, true), some (3, true), some (4, true)], [some (1, true), some (5, false), some (2, true), some (1, false), some (1, false), some (2, true), some (1, true), some (1, true)], [some (1, true), some (1, true), some (1, true), some (1, true), some (1, true), some (1, true), some (1, true), some (5, true)]], [[some (4, true), some (1, true), some (3, true), some (1, true), some (1, true), some (1, true), some (1, true), some (1, true)], [some (1, true), some (1, true), some (2, true), some (2, true), some (4, true), some (4, true), some (6, false), some (2, true)], [some (1, true), some (2, true), some (2, true), some (3, true), some (1, true), some (3, true), some (3, true), some (1, true)], [some (1, true), some (2, false), some (3, true), some (2, false), some (3, false)]]]
noncomputable def ex_calB (c n : Nat) (q : Nat × Nat × Nat × Nat × Nat × Nat × Nat) : Bool := decide (q.1 ≠ 0) && (decide (q.1 < 221) && (match q.2.2.1 with
    | 0 => decide (ex_g3 lw_ds q.2.2.2.2.1 = some (1, c, n, q.1, 0)) && (decide (ex_g3 lw_ds q.2.2.2.2.2.1 = some (5, q.1, 0, 0, 0)) && (decide (ex_g3 lw_ds q.2.2.2.2.2.2 = some (7, q.1, 0, 0, 0)) && (decide (q.2.2.2.1 < 9 → (ex_m q.1).2.2.2.2.2.2.1 = q.2.2.2.1) && decide (ex_g3 ex_np q.1 = some (q.2.1, true)))))
    | 1 => decide (ex_g3 lw_ds q.2.2.2.2.1 = some (1, c, n, q.1, 0)) && (decide (ex_g3 lw_ds q.2.2.2.2.2.1 = some (6, q.1, 0, 0, 0)) && decide (ex_g3 ex_np q.1 = some (q.2.1, false)))
    | 2 => (match q.2.2.2.1 with
      | 0 => decide (ex_g3 lw_ds q.2.2.2.2.1 = some (1, c, n, q.1, 0))
      | _ => decide (ex_g3 lw_ds q.2.2.2.2.1 = some (2, c, n, q.1, 0))) && (decide (ex_g3 lw_ds q.2.2.2.2.2.1 = some (5, q.1, 0, 0, 0)) && (decide ((ex_m q.1).2.2.2.2.2.2.2.1 = true) && (decide ((ex_m q.1).2.2.2.1 = none) && decide (ex_g3 ex_np q.1 = some (q.2.1, true)))))
    | _ => false))
set_option maxRecDepth 100000 in
theorem ex_cal_ck : ex_allA ex_cal_all ex_calB = true := by decide +kernel
theorem np_0 : (parseMethodDescriptor mt_0.2.2.2.2.2.2.2.2.1.desc).map (fun d => d.parameters.length) = some 1 := by decide +kernel
theorem np_1 : (parseMethodDescriptor mt_1.2.2.2.2.2.2.2.2.1.desc).map (fun d => d.parameters.length) = some 0 := by decide +kernel
theorem np_2 : (parseMethodDescriptor mt_2.2.2.2.2.2.2.2.2.1.desc).map (fun d => d.parameters.length) = some 0 := by decide +kernel
theorem np_3 : (parseMethodDescriptor mt_3.2.2.2.2.2.2.2.2.1.desc).map (fun d => d.parameters.length) = some 1 := by decide +kernel
theorem np_4 : (parseMethodDescriptor mt_4.2.2.2.2.2.2.2.2.1.desc).map (fun d => d.parameters.length) = some 1 := by decide +kernel
theorem np_5 : (parseMethodDescriptor mt_5.2.2.2.2.2.2.2.2.1.desc).map (fun d => d.parameters.length) = some 1 := by decide +kernel
theorem np_6 : (parseMethodDescriptor mt_6.2.2.2.2.2.2.2.2.1.desc).map (fun d => d.parameters.length) = some 1 := by decide +kernel
theorem np_7 : (parseMethodDescriptor mt_7.2.2.2.2.2.2.2.2.1.desc).map (fun d => d.parameters.length) = some 0 := by decide +kernel
theorem np_8 : (parseMethodDescriptor mt_8.2.2.2.2.2.2.2.2.1.desc).map (fun d => d.parameters.length) = some 0 := by decide +kernel
theorem np_9 : (parseMethodDescriptor mt_9.2.2.2.2.2.2.2.2.1.desc).map (fun d => d.parameters.length) = some 0 := by decide +kernel
theorem np_10 : (parseMethodDescriptor mt_10.2.2.2.2.2.2.2.2.1.desc).map (fun d => d.parameters.length) = some 0 := by decide +kernel
theorem np_11 : (parseMethodDescriptor mt_11.2.2.2.2.2.2.2.2.1.desc).map (fun d => d.parameters.length) = some 1 := by decide +kernel
theorem np_12 : (parseMethodDescriptor mt_12.2.2.2.2.2.2.2.2.1.desc).map (fun d => d.parameters.length) = some 1 := by decide +kernel
theorem np_13 : (parseMethodDescriptor mt_13.2.2.2.2.2.2.2.2.1.desc).map (fun d => d.parameters.length) = some 1 := by decide +kernel
theorem np_14 : (parseMethodDescriptor mt_14.2.2.2.2.2.2.2.2.1.desc).map (fun d => d.parameters.length) = some 1 := by decide +kernel
theorem np_15 : (parseMethodDescriptor mt_15.2.2.2.2.2.2.2.2.1.desc).map (fun d => d.parameters.length) = some 1 := by decide +kernel
theorem np_16 : (parseMethodDescriptor mt_16.2.2.2.2.2.2.2.2.1.desc).map (fun d => d.parameters.length) = some 1 := by decide +kernel
theorem np_17 : (parseMethodDescriptor mt_17.2.2.2.2.2.2.2.2.1.desc).map (fun d => d.parameters.length) = some 1 := by decide +kernel
theorem np_18 : (parseMethodDescriptor mt_18.2.2.2.2.2.2.2.2.1.desc).map (fun d => d.parameters.length) = some 1 := by decide +kernel
theorem np_19 : (parseMethodDescriptor mt_19.2.2.2.2.2.2.2.2.1.desc).map (fun d => d.parameters.length) = some 1 := by decide +kernel
theorem np_20 : (parseMethodDescriptor mt_20.2.2.2.2.2.2.2.2.1.desc).map (fun d => d.parameters.length) = some 1 := by decide +kernel
theorem np_21 : (parseMethodDescriptor mt_21.2.2.2.2.2.2.2.2.1.desc).map (fun d => d.parameters.length) = some 1 := by decide +kernel
theorem np_22 : (parseMethodDescriptor mt_22.2.2.2.2.2.2.2.2.1.desc).map (fun d => d.parameters.length) = some 1 := by decide +kernel
theorem np_23 : (parseMethodDescriptor mt_23.2.2.2.2.2.2.2.2.1.desc).map (fun d => d.parameters.length) = some 1 := by decide +kernel
theorem np_24 : (parseMethodDescriptor mt_24.2.2.2.2.2.2.2.2.1.desc).map (fun d => d.parameters.length) = some 1 := by decide +kernel
theorem np_25 : (parseMethodDescriptor mt_25.2.2.2.2.2.2.2.2.1.desc).map (fun d => d.parameters.length) = some 2 := by decide +kernel
theorem np_26 : (parseMethodDescriptor mt_26.2.2.2.2.2.2.2.2.1.desc).map (fun d => d.parameters.length) = some 2 := by decide +kernel
theorem np_27 : (parseMethodDescriptor mt_27.2.2.2.2.2.2.2.2.1.desc).map (fun d => d.parameters.length) = some 1 := by decide +kernel
theorem np_28 : (parseMethodDescriptor mt_28.2.2.2.2.2.2.2.2.1.desc).map (fun d => d.parameters.length) = some 1 := by decide +kernel
theorem np_29 : (parseMethodDescriptor mt_29.2.2.2.2.2.2.2.2.1.desc).map (fun d => d.parameters.length) = some 0 := by decide +kernel
theorem np_30 : (parseMethodDescriptor mt_30.2.2.2.2.2.2.2.2.1.desc).map (fun d => d.parameters.length) = some 0 := by decide +kernel
theorem np_31 : (parseMethodDescriptor mt_31.2.2.2.2.2.2.2.2.1.desc).map (fun d => d.parameters.length) = some 1 := by decide +kernel
theorem np_32 : (parseMethodDescriptor mt_32.2.2.2.2.2.2.2.2.1.desc).map (fun d => d.parameters.length) = some 1 := by decide +kernel
theorem np_33 : (parseMethodDescriptor mt_33.2.2.2.2.2.2.2.2.1.desc).map (fun d => d.parameters.length) = some 1 := by decide +kernel
theorem np_34 : (parseMethodDescriptor mt_34.2.2.2.2.2.2.2.2.1.desc).map (fun d => d.parameters.length) = some 1 := by decide +kernel
theorem np_35 : (parseMethodDescriptor mt_35.2.2.2.2.2.2.2.2.1.desc).map (fun d => d.parameters.length) = some 1 := by decide +kernel
theorem np_36 : (parseMethodDescriptor mt_36.2.2.2.2.2.2.2.2.1.desc).map (fun d => d.parameters.length) = some 1 := by decide +kernel
theorem np_37 : (parseMethodDescriptor mt_37.2.2.2.2.2.2.2.2.1.desc).map (fun d => d.parameters.length) = some 0 := by decide +kernel
theorem np_38 : (parseMethodDescriptor mt_38.2.2.2.2.2.2.2.2.1.desc).map (fun d => d.parameters.length) = some 0 := by decide +kernel
theorem np_39 : (parseMethodDescriptor mt_39.2.2.2.2.2.2.2.2.1.desc).map (fun d => d.parameters.length) = some 1 := by decide +kernel
theorem np_40 : (parseMethodDescriptor mt_40.2.2.2.2.2.2.2.2.1.desc).map (fun d => d.parameters.length) = some 1 := by decide +kernel
theorem np_41 : (parseMethodDescriptor mt_41.2.2.2.2.2.2.2.2.1.desc).map (fun d => d.parameters.length) = some 1 := by decide +kernel
theorem np_42 : (parseMethodDescriptor mt_42.2.2.2.2.2.2.2.2.1.desc).map (fun d => d.parameters.length) = some 1 := by decide +kernel
theorem np_43 : (parseMethodDescriptor mt_43.2.2.2.2.2.2.2.2.1.desc).map (fun d => d.parameters.length) = some 1 := by decide +kernel
theorem np_44 : (parseMethodDescriptor mt_44.2.2.2.2.2.2.2.2.1.desc).map (fun d => d.parameters.length) = some 1 := by decide +kernel
theorem np_45 : (parseMethodDescriptor mt_45.2.2.2.2.2.2.2.2.1.desc).map (fun d => d.parameters.length) = some 1 := by decide +kernel
theorem np_46 : (parseMethodDescriptor mt_46.2.2.2.2.2.2.2.2.1.desc).map (fun d => d.parameters.length) = some 1 := by decide +kernel
theorem np_47 : (parseMethodDescriptor mt_47.2.2.2.2.2.2.2.2.1.desc).map (fun d => d.parameters.length) = some 1 := by decide +kernel
theorem np_48 : (parseMethodDescriptor mt_48.2.2.2.2.2.2.2.2.1.desc).map (fun d => d.parameters.length) = some 1 := by decide +kernel
theorem np_49 : (parseMethodDescriptor mt_49.2.2.2.2.2.2.2.2.1.desc).map (fun d => d.parameters.length) = some 1 := by decide +kernel
theorem np_50 : (parseMethodDescriptor mt_50.2.2.2.2.2.2.2.2.1.desc).map (fun d => d.parameters.length) = some 1 := by decide +kernel
theorem np_51 : (parseMethodDescriptor mt_51.2.2.2.2.2.2.2.2.1.desc).map (fun d => d.parameters.length) = some 1 := by decide +kernel
theorem np_52 : (parseMethodDescriptor mt_52.2.2.2.2.2.2.2.2.1.desc).map (fun d => d.parameters.length) = some 1 := by decide +kernel
theorem np_53 : (parseMethodDescriptor mt_53.2.2.2.2.2.2.2.2.1.desc).map (fun d => d.parameters.length) = some 2 := by decide +kernel
theorem np_54 : (parseMethodDescriptor mt_54.2.2.2.2.2.2.2.2.1.desc).map (fun d => d.parameters.length) = some 2 := by decide +kernel
theorem np_55 : (parseMethodDescriptor mt_55.2.2.2.2.2.2.2.2.1.desc).map (fun d => d.parameters.length) = some 2 := by decide +kernel
theorem np_56 : (parseMethodDescriptor mt_56.2.2.2.2.2.2.2.2.1.desc).map (fun d => d.parameters.length) = some 2 := by decide +kernel
theorem np_57 : (parseMethodDescriptor mt_57.2.2.2.2.2.2.2.2.1.desc).map (fun d => d.parameters.length) = some 2 := by decide +kernel
theorem np_58 : (parseMethodDescriptor mt_58.2.2.2.2.2.2.2.2.1.desc).map (fun d => d.parameters.length) = some 2 := by decide +kernel
theorem np_59 : (parseMethodDescriptor mt_59.2.2.2.2.2.2.2.2.1.desc).map (fun d => d.parameters.length) = some 1 := by decide +kernel
theorem np_60 : (parseMethodDescriptor mt_60.2.2.2.2.2.2.2.2.1.desc).map (fun d => d.parameters.length) = some 1 := by decide +kernel
theorem np_61 : (parseMethodDescriptor mt_61.2.2.2.2.2.2.2.2.1.desc).map (fun d => d.parameters.length) = some 2 := by decide +kernel
theorem np_62 : (parseMethodDescriptor mt_62.2.2.2.2.2.2.2.2.1.desc).map (fun d => d.parameters.length) = some 2 := by decide +kernel
theorem np_63 : (parseMethodDescriptor mt_63.2.2.2.2.2.2.2.2.1.desc).map (fun d => d.parameters.length) = some 0 := by decide +kernel
theorem np_64 : (parseMethodDescriptor mt_64.2.2.2.2.2.2.2.2.1.desc).map (fun d => d.parameters.length) = some 0 := by decide +kernel
theorem np_65 : (parseMethodDescriptor mt_65.2.2.2.2.2.2.2.2.1.desc).map (fun d => d.parameters.length) = some 1 := by decide +kernel
theorem np_66 : (parseMethodDescriptor mt_66.2.2.2.2.2.2.2.2.1.desc).map (fun d => d.parameters.length) = some 1 := by decide +kernel
theorem np_67 : (parseMethodDescriptor mt_67.2.2.2.2.2.2.2.2.1.desc).map (fun d => d.parameters.length) = some 3 := by decide +kernel
theorem np_68 : (parseMethodDescriptor mt_68.2.2.2.2.2.2.2.2.1.desc).map (fun d => d.parameters.length) = some 3 := by decide +kernel
theorem np_69 : (parseMethodDescriptor mt_69.2.2.2.2.2.2.2.2.1.desc).map (fun d => d.parameters.length) = some 1 := by decide +kernel
theorem np_70 : (parseMethodDescriptor mt_70.2.2.2.2.2.2.2.2.1.desc).map (fun d => d.parameters.length) = some 1 := by decide +kernel
theorem np_71 : (parseMethodDescriptor mt_71.2.2.2.2.2.2.2.2.1.desc).map (fun d => d.parameters.length) = some 1 := by decide +kernel
theorem np_72 : (parseMethodDescriptor mt_72.2.2.2.2.2.2.2.2.1.desc).map (fun d => d.parameters.length) = some 1 := by decide +kernel
theorem np_73 : (parseMethodDescriptor mt_73.2.2.2.2.2.2.2.2.1.desc).map (fun d => d.parameters.length) = some 3 := by decide +kernel
theorem np_74 : (parseMethodDescriptor mt_74.2.2.2.2.2.2.2.2.1.desc).map (fun d => d.parameters.length) = some 3 := by decide +kernel
theorem np_75 : (parseMethodDescriptor mt_75.2.2.2.2.2.2.2.2.1.desc).map (fun d => d.parameters.length) = some 3 := by decide +kernel
theorem np_76 : (parseMethodDescriptor mt_76.2.2.2.2.2.2.2.2.1.desc).map (fun d => d.parameters.length) = some 3 := by decide +kernel
theorem np_77 : (parseMethodDescriptor mt_77.2.2.2.2.2.2.2.2.1.desc).map (fun d => d.parameters.length) = some 4 := by decide +kernel
theorem np_78 : (parseMethodDescriptor mt_78.2.2.2.2.2.2.2.2.1.desc).map (fun d => d.parameters.length) = some 4 := by decide +kernel
theorem np_79 : (parseMethodDescriptor mt_79.2.2.2.2.2.2.2.2.1.desc).map (fun d => d.parameters.length) = some 0 := by decide +kernel
theorem np_80 : (parseMethodDescriptor mt_80.2.2.2.2.2.2.2.2.1.desc).map (fun d => d.parameters.length) = some 0 := by decide +kernel
theorem np_81 : (parseMethodDescriptor mt_81.2.2.2.2.2.2.2.2.1.desc).map (fun d => d.parameters.length) = some 1 := by decide +kernel
theorem np_82 : (parseMethodDescriptor mt_82.2.2.2.2.2.2.2.2.1.desc).map (fun d => d.parameters.length) = some 1 := by decide +kernel
theorem np_83 : (parseMethodDescriptor mt_83.2.2.2.2.2.2.2.2.1.desc).map (fun d => d.parameters.length) = some 0 := by decide +kernel
theorem np_84 : (parseMethodDescriptor mt_84.2.2.2.2.2.2.2.2.1.desc).map (fun d => d.parameters.length) = some 1 := by decide +kernel
theorem np_85 : (parseMethodDescriptor mt_85.2.2.2.2.2.2.2.2.1.desc).map (fun d => d.parameters.length) = some 1 := by decide +kernel
theorem np_86 : (parseMethodDescriptor mt_86.2.2.2.2.2.2.2.2.1.desc).map (fun d => d.parameters.length) = some 1 := by decide +kernel
theorem np_87 : (parseMethodDescriptor mt_87.2.2.2.2.2.2.2.2.1.desc).map (fun d => d.parameters.length) = some 1 := by decide +kernel
theorem np_88 : (parseMethodDescriptor mt_88.2.2.2.2.2.2.2.2.1.desc).map (fun d => d.parameters.length) = some 0 := by decide +kernel
theorem np_89 : (parseMethodDescriptor mt_89.2.2.2.2.2.2.2.2.1.desc).map (fun d => d.parameters.length) = some 0 := by decide +kernel
theorem np_90 : (parseMethodDescriptor mt_90.2.2.2.2.2.2.2.2.1.desc).map (fun d => d.parameters.length) = some 0 := by decide +kernel
theorem np_91 : (parseMethodDescriptor mt_91.2.2.2.2.2.2.2.2.1.desc).map (fun d => d.parameters.length) = some 0 := by decide +kernel
theorem np_92 : (parseMethodDescriptor mt_92.2.2.2.2.2.2.2.2.1.desc).map (fun d => d.parameters.length) = some 1 := by decide +kernel
theorem np_93 : (parseMethodDescriptor mt_93.2.2.2.2.2.2.2.2.1.desc).map (fun d => d.parameters.length) = some 3 := by decide +kernel
theorem np_94 : (parseMethodDescriptor mt_94.2.2.2.2.2.2.2.2.1.desc).map (fun d => d.parameters.length) = some 1 := by decide +kernel
theorem np_95 : (parseMethodDescriptor mt_95.2.2.2.2.2.2.2.2.1.desc).map (fun d => d.parameters.length) = some 0 := by decide +kernel
theorem np_96 : (parseMethodDescriptor mt_96.2.2.2.2.2.2.2.2.1.desc).map (fun d => d.parameters.length) = some 0 := by decide +kernel
theorem np_97 : (parseMethodDescriptor mt_97.2.2.2.2.2.2.2.2.1.desc).map (fun d => d.parameters.length) = some 0 := by decide +kernel
theorem np_98 : (parseMethodDescriptor mt_98.2.2.2.2.2.2.2.2.1.desc).map (fun d => d.parameters.length) = some 2 := by decide +kernel
theorem np_99 : (parseMethodDescriptor mt_99.2.2.2.2.2.2.2.2.1.desc).map (fun d => d.parameters.length) = some 1 := by decide +kernel
theorem np_100 : (parseMethodDescriptor mt_100.2.2.2.2.2.2.2.2.1.desc).map (fun d => d.parameters.length) = some 1 := by decide +kernel
theorem np_101 : (parseMethodDescriptor mt_101.2.2.2.2.2.2.2.2.1.desc).map (fun d => d.parameters.length) = some 1 := by decide +kernel
theorem np_102 : (parseMethodDescriptor mt_102.2.2.2.2.2.2.2.2.1.desc).map (fun d => d.parameters.length) = some 1 := by decide +kernel
theorem np_103 : (parseMethodDescriptor mt_103.2.2.2.2.2.2.2.2.1.desc).map (fun d => d.parameters.length) = some 2 := by decide +kernel
theorem np_104 : (parseMethodDescriptor mt_104.2.2.2.2.2.2.2.2.1.desc).map (fun d => d.parameters.length) = some 0 := by decide +kernel
theorem np_105 : (parseMethodDescriptor mt_105.2.2.2.2.2.2.2.2.1.desc).map (fun d => d.parameters.length) = some 0 := by decide +kernel
theorem np_106 : (parseMethodDescriptor mt_106.2.2.2.2.2.2.2.2.1.desc).map (fun d => d.parameters.length) = some 0 := by decide +kernel
theorem np_107 : (parseMethodDescriptor mt_107.2.2.2.2.2.2.2.2.1.desc).map (fun d => d.parameters.length) = some 2 := by decide +kernel
theorem np_108 : (parseMethodDescriptor mt_108.2.2.2.2.2.2.2.2.1.desc).map (fun d => d.parameters.length) = some 1 := by decide +kernel
theorem np_109 : (parseMethodDescriptor mt_109.2.2.2.2.2.2.2.2.1.desc).map (fun d => d.parameters.length) = some 1 := by decide +kernel
theorem np_110 : (parseMethodDescriptor mt_110.2.2.2.2.2.2.2.2.1.desc).map (fun d => d.parameters.length) = some 1 := by decide +kernel
theorem np_111 : (parseMethodDescriptor mt_111.2.2.2.2.2.2.2.2.1.desc).map (fun d => d.parameters.length) = some 2 := by decide +kernel
theorem np_112 : (parseMethodDescriptor mt_112.2.2.2.2.2.2.2.2.1.desc).map (fun d => d.parameters.length) = some 1 := by decide +kernel
theorem np_113 : (parseMethodDescriptor mt_113.2.2.2.2.2.2.2.2.1.desc).map (fun d => d.parameters.length) = some 1 := by decide +kernel
theorem np_114 : (parseMethodDescriptor mt_114.2.2.2.2.2.2.2.2.1.desc).map (fun d => d.parameters.length) = some 0 := by decide +kernel
theorem np_115 : (parseMethodDescriptor mt_115.2.2.2.2.2.2.2.2.1.desc).map (fun d => d.parameters.length) = some 1 := by decide +kernel
theorem np_116 : (parseMethodDescriptor mt_116.2.2.2.2.2.2.2.2.1.desc).map (fun d => d.parameters.length) = some 1 := by decide +kernel
theorem np_117 : (parseMethodDescriptor mt_117.2.2.2.2.2.2.2.2.1.desc).map (fun d => d.parameters.length) = some 1 := by decide +kernel
theorem np_118 : (parseMethodDescriptor mt_118.2.2.2.2.2.2.2.2.1.desc).map (fun d => d.parameters.length) = some 1 := by decide +kernel
theorem np_119 : (parseMethodDescriptor mt_119.2.2.2.2.2.2.2.2.1.desc).map (fun d => d.parameters.length) = some 1 := by decide +kernel
theorem np_120 : (parseMethodDescriptor mt_120.2.2.2.2.2.2.2.2.1.desc).map (fun d => d.parameters.length) = some 0 := by decide +kernel
theorem np_121 : (parseMethodDescriptor mt_121.2.2.2.2.2.2.2.2.1.desc).map (fun d => d.parameters.length) = some 1 := by decide +kernel
theorem np_122 : (parseMethodDescriptor mt_122.2.2.2.2.2.2.2.2.1.desc).map (fun d => d.parameters.length) = some 1 := by decide +kernel
theorem np_123 : (parseMethodDescriptor mt_123.2.2.2.2.2.2.2.2.1.desc).map (fun d => d.parameters.length) = some 0 := by decide +kernel
theorem np_124 : (parseMethodDescriptor mt_124.2.2.2.2.2.2.2.2.1.desc).map (fun d => d.parameters.length) = some 1 := by decide +kernel
theorem np_125 : (parseMethodDescriptor mt_125.2.2.2.2.2.2.2.2.1.desc).map (fun d => d.parameters.length) = some 1 := by decide +kernel
theorem np_126 : (parseMethodDescriptor mt_126.2.2.2.2.2.2.2.2.1.desc).map (fun d => d.parameters.length) = some 0 := by decide +kernel
theorem np_127 : (parseMethodDescriptor mt_127.2.2.2.2.2.2.2.2.1.desc).map (fun d => d.parameters.length) = some 1 := by decide +kernel
theorem np_128 : (parseMethodDescriptor mt_128.2.2.2.2.2.2.2.2.1.desc).map (fun d => d.parameters.length) = some 3 := by decide +kernel
theorem np_129 : (parseMethodDescriptor mt_129.2.2.2.2.2.2.2.2.1.desc).map (fun d => d.parameters.length) = some 0 := by decide +kernel
theorem np_130 : (parseMethodDescriptor mt_130.2.2.2.2.2.2.2.2.1.desc).map (fun d => d.parameters.length) = some 2 := by decide +kernel
theorem np_131 : (parseMethodDescriptor mt_131.2.2.2.2.2.2.2.2.1.desc).map (fun d => d.parameters.length) = some 2 := by decide +kernel
theorem np_132 : (parseMethodDescriptor mt_132.2.2.2.2.2.2.2.2.1.desc).map (fun d => d.parameters.length) = some 2 := by decide +kernel
theorem np_133 : (parseMethodDescriptor mt_133.2.2.2.2.2.2.2.2.1.desc).map (fun d => d.parameters.length) = some 2 := by decide +kernel
theorem np_134 : (parseMethodDescriptor mt_134.2.2.2.2.2.2.2.2.1.desc).map (fun d => d.parameters.length) = some 1 := by decide +kernel
theorem np_135 : (parseMethodDescriptor mt_135.2.2.2.2.2.2.2.2.1.desc).map (fun d => d.parameters.length) = some 1 := by decide +kernel
theorem np_136 : (parseMethodDescriptor mt_136.2.2.2.2.2.2.2.2.1.desc).map (fun d => d.parameters.length) = some 2 := by decide +kernel
theorem np_137 : (parseMethodDescriptor mt_137.2.2.2.2.2.2.2.2.1.desc).map (fun d => d.parameters.length) = some 1 := by decide +kernel
theorem np_138 : (parseMethodDescriptor mt_138.2.2.2.2.2.2.2.2.1.desc).map (fun d => d.parameters.length) = some 0 := by decide +kernel
theorem np_139 : (parseMethodDescriptor mt_139.2.2.2.2.2.2.2.2.1.desc).map (fun d => d.parameters.length) = some 1 := by decide +kernel
theorem np_140 : (parseMethodDescriptor mt_140.2.2.2.2.2.2.2.2.1.desc).map (fun d => d.parameters.length) = some 1 := by decide +kernel
theorem np_141 : (parseMethodDescriptor mt_141.2.2.2.2.2.2.2.2.1.desc).map (fun d => d.parameters.length) = some 0 := by decide +kernel
theorem np_142 : (parseMethodDescriptor mt_142.2.2.2.2.2.2.2.2.1.desc).map (fun d => d.parameters.length) = some 3 := by decide +kernel
theorem np_143 : (parseMethodDescriptor mt_143.2.2.2.2.2.2.2.2.1.desc).map (fun d => d.parameters.length) = some 1 := by decide +kernel
theorem np_144 : (parseMethodDescriptor mt_144.2.2.2.2.2.2.2.2.1.desc).map (fun d => d.parameters.length) = some 1 := by decide +kernel
theorem np_145 : (parseMethodDescriptor mt_145.2.2.2.2.2.2.2.2.1.desc).map (fun d => d.parameters.length) = some 2 := by decide +kernel
theorem np_146 : (parseMethodDescriptor mt_146.2.2.2.2.2.2.2.2.1.desc).map (fun d => d.parameters.length) = some 2 := by decide +kernel
theorem np_147 : (parseMethodDescriptor mt_147.2.2.2.2.2.2.2.2.1.desc).map (fun d => d.parameters.length) = some 2 := by decide +kernel
theorem np_148 : (parseMethodDescriptor mt_148.2.2.2.2.2.2.2.2.1.desc).map (fun d => d.parameters.length) = some 1 := by decide +kernel
theorem np_149 : (parseMethodDescriptor mt_149.2.2.2.2.2.2.2.2.1.desc).map (fun d => d.parameters.length) = some 2 := by decide +kernel
theorem np_150 : (parseMethodDescriptor mt_150.2.2.2.2.2.2.2.2.1.desc).map (fun d => d.parameters.length) = some 2 := by decide +kernel
theorem np_151 : (parseMethodDescriptor mt_151.2.2.2.2.2.2.2.2.1.desc).map (fun d => d.parameters.length) = some 1 := by decide +kernel
theorem np_152 : (parseMethodDescriptor mt_152.2.2.2.2.2.2.2.2.1.desc).map (fun d => d.parameters.length) = some 0 := by decide +kernel
theorem np_153 : (parseMethodDescriptor mt_153.2.2.2.2.2.2.2.2.1.desc).map (fun d => d.parameters.length) = some 0 := by decide +kernel
theorem np_154 : (parseMethodDescriptor mt_154.2.2.2.2.2.2.2.2.1.desc).map (fun d => d.parameters.length) = some 0 := by decide +kernel
theorem np_155 : (parseMethodDescriptor mt_155.2.2.2.2.2.2.2.2.1.desc).map (fun d => d.parameters.length) = some 0 := by decide +kernel
theorem np_156 : (parseMethodDescriptor mt_156.2.2.2.2.2.2.2.2.1.desc).map (fun d => d.parameters.length) = some 0 := by decide +kernel
theorem np_157 : (parseMethodDescriptor mt_157.2.2.2.2.2.2.2.2.1.desc).map (fun d => d.parameters.length) = some 0 := by decide +kernel
theorem np_158 : (parseMethodDescriptor mt_158.2.2.2.2.2.2.2.2.1.desc).map (fun d => d.parameters.length) = some 2 := by decide +kernel
theorem np_159 : (parseMethodDescriptor mt_159.2.2.2.2.2.2.2.2.1.desc).map (fun d => d.parameters.length) = some 1 := by decide +kernel
theorem np_160 : (parseMethodDescriptor mt_160.2.2.2.2.2.2.2.2.1.desc).map (fun d => d.parameters.length) = some 0 := by decide +kernel
theorem np_161 : (parseMethodDescriptor mt_161.2.2.2.2.2.2.2.2.1.desc).map (fun d => d.parameters.length) = some 1 := by decide +kernel
theorem np_162 : (parseMethodDescriptor mt_162.2.2.2.2.2.2.2.2.1.desc).map (fun d => d.parameters.length) = some 2 := by decide +kernel
theorem np_163 : (parseMethodDescriptor mt_163.2.2.2.2.2.2.2.2.1.desc).map (fun d => d.parameters.length) = some 1 := by decide +kernel
theorem np_164 : (parseMethodDescriptor mt_164.2.2.2.2.2.2.2.2.1.desc).map (fun d => d.parameters.length) = some 1 := by decide +kernel
theorem np_165 : (parseMethodDescriptor mt_165.2.2.2.2.2.2.2.2.1.desc).map (fun d => d.parameters.length) = some 3 := by decide +kernel
theorem np_166 : (parseMethodDescriptor mt_166.2.2.2.2.2.2.2.2.1.desc).map (fun d => d.parameters.length) = some 2 := by decide +kernel
theorem np_167 : (parseMethodDescriptor mt_167.2.2.2.2.2.2.2.2.1.desc).map (fun d => d.parameters.length) = some 1 := by decide +kernel
theorem np_168 : (parseMethodDescriptor mt_168.2.2.2.2.2.2.2.2.1.desc).map (fun d => d.parameters.length) = some 3 := by decide +kernel
theorem np_169 : (parseMethodDescriptor mt_169.2.2.2.2.2.2.2.2.1.desc).map (fun d => d.parameters.length) = some 3 := by decide +kernel
theorem np_170 : (parseMethodDescriptor mt_170.2.2.2.2.2.2.2.2.1.desc).map (fun d => d.parameters.length) = some 0 := by decide +kernel
theorem np_171 : (parseMethodDescriptor mt_171.2.2.2.2.2.2.2.2.1.desc).map (fun d => d.parameters.length) = some 3 := by decide +kernel
theorem np_172 : (parseMethodDescriptor mt_172.2.2.2.2.2.2.2.2.1.desc).map (fun d => d.parameters.length) = some 5 := by decide +kernel
theorem np_173 : (parseMethodDescriptor mt_173.2.2.2.2.2.2.2.2.1.desc).map (fun d => d.parameters.length) = some 1 := by decide +kernel
theorem np_174 : (parseMethodDescriptor mt_174.2.2.2.2.2.2.2.2.1.desc).map (fun d => d.parameters.length) = some 2 := by decide +kernel
theorem np_175 : (parseMethodDescriptor mt_175.2.2.2.2.2.2.2.2.1.desc).map (fun d => d.parameters.length) = some 3 := by decide +kernel
theorem np_176 : (parseMethodDescriptor mt_176.2.2.2.2.2.2.2.2.1.desc).map (fun d => d.parameters.length) = some 0 := by decide +kernel
theorem np_177 : (parseMethodDescriptor mt_177.2.2.2.2.2.2.2.2.1.desc).map (fun d => d.parameters.length) = some 5 := by decide +kernel
theorem np_178 : (parseMethodDescriptor mt_178.2.2.2.2.2.2.2.2.1.desc).map (fun d => d.parameters.length) = some 1 := by decide +kernel
theorem np_179 : (parseMethodDescriptor mt_179.2.2.2.2.2.2.2.2.1.desc).map (fun d => d.parameters.length) = some 1 := by decide +kernel
theorem np_180 : (parseMethodDescriptor mt_180.2.2.2.2.2.2.2.2.1.desc).map (fun d => d.parameters.length) = some 1 := by decide +kernel
theorem np_181 : (parseMethodDescriptor mt_181.2.2.2.2.2.2.2.2.1.desc).map (fun d => d.parameters.length) = some 1 := by decide +kernel
theorem np_182 : (parseMethodDescriptor mt_182.2.2.2.2.2.2.2.2.1.desc).map (fun d => d.parameters.length) = some 0 := by decide +kernel
theorem np_183 : (parseMethodDescriptor mt_183.2.2.2.2.2.2.2.2.1.desc).map (fun d => d.parameters.length) = some 0 := by decide +kernel
theorem np_184 : (parseMethodDescriptor mt_184.2.2.2.2.2.2.2.2.1.desc).map (fun d => d.parameters.length) = some 0 := by decide +kernel
theorem np_185 : (parseMethodDescriptor mt_185.2.2.2.2.2.2.2.2.1.desc).map (fun d => d.parameters.length) = some 0 := by decide +kernel
theorem np_186 : (parseMethodDescriptor mt_186.2.2.2.2.2.2.2.2.1.desc).map (fun d => d.parameters.length) = some 0 := by decide +kernel
theorem np_187 : (parseMethodDescriptor mt_187.2.2.2.2.2.2.2.2.1.desc).map (fun d => d.parameters.length) = some 0 := by decide +kernel
theorem np_188 : (parseMethodDescriptor mt_188.2.2.2.2.2.2.2.2.1.desc).map (fun d => d.parameters.length) = some 0 := by decide +kernel
theorem np_189 : (parseMethodDescriptor mt_189.2.2.2.2.2.2.2.2.1.desc).map (fun d => d.parameters.length) = some 0 := by decide +kernel
theorem np_190 : (parseMethodDescriptor mt_190.2.2.2.2.2.2.2.2.1.desc).map (fun d => d.parameters.length) = some 0 := by decide +kernel
theorem np_191 : (parseMethodDescriptor mt_191.2.2.2.2.2.2.2.2.1.desc).map (fun d => d.parameters.length) = some 4 := by decide +kernel
theorem np_192 : (parseMethodDescriptor mt_192.2.2.2.2.2.2.2.2.1.desc).map (fun d => d.parameters.length) = some 3 := by decide +kernel
theorem np_193 : (parseMethodDescriptor mt_193.2.2.2.2.2.2.2.2.1.desc).map (fun d => d.parameters.length) = some 0 := by decide +kernel
theorem np_194 : (parseMethodDescriptor mt_194.2.2.2.2.2.2.2.2.1.desc).map (fun d => d.parameters.length) = some 2 := by decide +kernel
theorem np_195 : (parseMethodDescriptor mt_195.2.2.2.2.2.2.2.2.1.desc).map (fun d => d.parameters.length) = some 0 := by decide +kernel
theorem np_196 : (parseMethodDescriptor mt_196.2.2.2.2.2.2.2.2.1.desc).map (fun d => d.parameters.length) = some 0 := by decide +kernel
theorem np_197 : (parseMethodDescriptor mt_197.2.2.2.2.2.2.2.2.1.desc).map (fun d => d.parameters.length) = some 0 := by decide +kernel
theorem np_198 : (parseMethodDescriptor mt_198.2.2.2.2.2.2.2.2.1.desc).map (fun d => d.parameters.length) = some 0 := by decide +kernel
theorem np_199 : (parseMethodDescriptor mt_199.2.2.2.2.2.2.2.2.1.desc).map (fun d => d.parameters.length) = some 0 := by decide +kernel
theorem np_200 : (parseMethodDescriptor mt_200.2.2.2.2.2.2.2.2.1.desc).map (fun d => d.parameters.length) = some 0 := by decide +kernel
theorem np_201 : (parseMethodDescriptor mt_201.2.2.2.2.2.2.2.2.1.desc).map (fun d => d.parameters.length) = some 0 := by decide +kernel
theorem np_202 : (parseMethodDescriptor mt_202.2.2.2.2.2.2.2.2.1.desc).map (fun d => d.parameters.length) = some 1 := by decide +kernel
theorem np_203 : (parseMethodDescriptor mt_203.2.2.2.2.2.2.2.2.1.desc).map (fun d => d.parameters.length) = some 1 := by decide +kernel
theorem np_204 : (parseMethodDescriptor mt_204.2.2.2.2.2.2.2.2.1.desc).map (fun d => d.parameters.length) = some 3 := by decide +kernel
theorem np_205 : (parseMethodDescriptor mt_205.2.2.2.2.2.2.2.2.1.desc).map (fun d => d.parameters.length) = some 3 := by decide +kernel
theorem np_206 : (parseMethodDescriptor mt_206.2.2.2.2.2.2.2.2.1.desc).map (fun d => d.parameters.length) = some 6 := by decide +kernel
theorem np_207 : (parseMethodDescriptor mt_207.2.2.2.2.2.2.2.2.1.desc).map (fun d => d.parameters.length) = some 1 := by decide +kernel
theorem np_208 : (parseMethodDescriptor mt_208.2.2.2.2.2.2.2.2.1.desc).map (fun d => d.parameters.length) = some 0 := by decide +kernel
theorem np_209 : (parseMethodDescriptor mt_209.2.2.2.2.2.2.2.2.1.desc).map (fun d => d.parameters.length) = some 1 := by decide +kernel
theorem np_210 : (parseMethodDescriptor mt_210.2.2.2.2.2.2.2.2.1.desc).map (fun d => d.parameters.length) = some 1 := by decide +kernel
theorem np_211 : (parseMethodDescriptor mt_211.2.2.2.2.2.2.2.2.1.desc).map (fun d => d.parameters.length) = some 2 := by decide +kernel
theorem np_212 : (parseMethodDescriptor mt_212.2.2.2.2.2.2.2.2.1.desc).map (fun d => d.parameters.length) = some 0 := by decide +kernel
theorem np_213 : (parseMethodDescriptor mt_213.2.2.2.2.2.2.2.2.1.desc).map (fun d => d.parameters.length) = some 2 := by decide +kernel
theorem np_214 : (parseMethodDescriptor mt_214.2.2.2.2.2.2.2.2.1.desc).map (fun d => d.parameters.length) = some 2 := by decide +kernel
theorem np_215 : (parseMethodDescriptor mt_215.2.2.2.2.2.2.2.2.1.desc).map (fun d => d.parameters.length) = some 0 := by decide +kernel
theorem np_216 : (parseMethodDescriptor mt_216.2.2.2.2.2.2.2.2.1.desc).map (fun d => d.parameters.length) = some 0 := by decide +kernel
theorem np_217 : (parseMethodDescriptor mt_217.2.2.2.2.2.2.2.2.1.desc).map (fun d => d.parameters.length) = some 2 := by decide +kernel
theorem np_218 : (parseMethodDescriptor mt_218.2.2.2.2.2.2.2.2.1.desc).map (fun d => d.parameters.length) = some 2 := by decide +kernel
theorem np_219 : (parseMethodDescriptor mt_219.2.2.2.2.2.2.2.2.1.desc).map (fun d => d.parameters.length) = some 2 := by decide +kernel
theorem np_220 : (parseMethodDescriptor mt_220.2.2.2.2.2.2.2.2.1.desc).map (fun d => d.parameters.length) = some 3 := by decide +kernel
set_option maxRecDepth 100000 in
theorem ex_nps : ∀ M ∈ ex_lst, ∃ n b, ex_g3 ex_np M.1 = some (n, b) ∧ (parseMethodDescriptor M.2.2.2.2.2.2.2.2.1.desc).map (fun d => d.parameters.length) = some (match b with | true => n - 1 | false => n) := List.forall_mem_cons.mpr ⟨⟨_, _, rfl, np_0⟩, List.forall_mem_cons.mpr ⟨⟨_, _, rfl, np_1⟩, List.forall_mem_cons.mpr ⟨⟨_, _, rfl, np_2⟩, List.forall_mem_cons.mpr ⟨⟨_, _, rfl, np_3⟩, List.forall_mem_cons.mpr ⟨⟨_, _, rfl, np_4⟩, List.forall_mem_cons.mpr ⟨⟨_, _, rfl, np_5⟩, List.forall_mem_cons.mpr ⟨⟨_, _, rfl, np_6⟩, List.forall_mem_cons.mpr ⟨⟨_, _, rfl, np_7⟩, List.forall_mem_cons.mpr ⟨⟨_, _, rfl, np_8⟩, List.forall_mem_cons.mpr ⟨⟨_, _, rfl, np_9⟩, List.forall_mem_cons.mpr ⟨⟨_, _, rfl, np_10⟩, List.forall_mem_cons.mpr ⟨⟨_, _, rfl, np_11⟩, List.forall_mem_cons.mpr ⟨⟨_, _, rfl, np_12⟩, List.forall_mem_cons.mpr ⟨⟨_, _, rfl, np_13⟩, List.forall_mem_cons.mpr ⟨⟨_, _, rfl, np_14⟩, List.forall_mem_cons.mpr ⟨⟨_, _, rfl, np_15⟩, List.forall_mem_cons.mpr ⟨⟨_, _, rfl, np_16⟩, List.forall_mem_cons.mpr ⟨⟨_, _, rfl, np_17⟩, List.forall_mem_cons.mpr ⟨⟨_, _, rfl, np_18⟩, List.forall_mem_cons.mpr ⟨⟨_, _, rfl, np_19⟩, List.forall_mem_cons.mpr ⟨⟨_, _, rfl, np_20⟩, List.forall_mem_cons.mpr ⟨⟨_, _, rfl, np_21⟩, List.forall_mem_cons.mpr ⟨⟨_, _, rfl, np_22⟩, List.forall_mem_cons.mpr ⟨⟨_, _, rfl, np_23⟩, List.forall_mem_cons.mpr ⟨⟨_, _, rfl, np_24⟩, List.forall_mem_cons.mpr ⟨⟨_, _, rfl, np_25⟩, List.forall_mem_cons.mpr ⟨⟨_, _, rfl, np_26⟩, List.forall_mem_cons.mpr ⟨⟨_, _, rfl, np_27⟩, List.forall_mem_cons.mpr ⟨⟨_, _, rfl, np_28⟩, List.forall_mem_cons.mpr ⟨⟨_, _, rfl, np_29⟩, List.forall_mem_cons.mpr ⟨⟨_, _, rfl, np_30⟩, List.forall_mem_cons.mpr ⟨⟨_, _, rfl, np_31⟩, List.forall_mem_cons.mpr ⟨⟨_, _, rfl, np_32⟩, List.forall_mem_cons.mpr ⟨⟨_, _, rfl, np_33⟩, List.forall_mem_cons.mpr ⟨⟨_, _, rfl, np_34⟩, List.forall_mem_cons.mpr ⟨⟨_, _, rfl, np_35⟩, List.forall_mem_cons.mpr ⟨⟨_, _, rfl, np_36⟩, List.forall_mem_cons.mpr ⟨⟨_, _, rfl, np_37⟩, List.forall_mem_cons.mpr ⟨⟨_, _, rfl, np_38⟩, List.forall_mem_cons.mpr ⟨⟨_, _, rfl, np_39⟩, List.forall_mem_cons.mpr ⟨⟨_, _, rfl, np_40⟩, List.forall_mem_cons.mpr ⟨⟨_, _, rfl, np_41⟩, List.forall_mem_cons.mpr ⟨⟨_, _, rfl, np_42⟩, List.forall_mem_cons.mpr ⟨⟨_, _, rfl, np_43⟩, List.forall_mem_cons.mpr ⟨⟨_, _, rfl, np_44⟩, List.forall_mem_cons.mpr ⟨⟨_, _, rfl, np_45⟩, List.forall_mem_cons.mpr ⟨⟨_, _, rfl, np_46⟩, List.forall_mem_cons.mpr ⟨⟨_, _, rfl, np_47⟩, List.forall_mem_cons.mpr ⟨⟨_, _, rfl, np_48⟩, List.forall_mem_cons.mpr ⟨⟨_, _, rfl, np_49⟩, List.forall_mem_cons.mpr ⟨⟨_, _, rfl, np_50⟩, List.forall_mem_cons.mpr ⟨⟨_, _, rfl, np_51⟩, List.forall_mem_cons.mpr ⟨⟨_, _, rfl, np_52⟩, List.forall_mem_cons.mpr ⟨⟨_, _, rfl, np_53⟩, List.forall_mem_cons.mpr ⟨⟨_, _, rfl, np_54⟩, List.forall_mem_cons.mpr ⟨⟨_, _, rfl, np_55⟩, List.forall_mem_cons.mpr ⟨⟨_, _, rfl, np_56⟩, List.forall_mem_cons.mpr ⟨⟨_, _, rfl, np_57⟩, List.forall_mem_cons.mpr ⟨⟨_, _, rfl, np_58⟩, List.forall_mem_cons.mpr ⟨⟨_, _, rfl, np_59⟩, List.forall_mem_cons.mpr ⟨⟨_, _, rfl, np_60⟩, List.forall_mem_cons.mpr ⟨⟨_, _, rfl, np_61⟩, List.forall_mem_cons.mpr ⟨⟨_, _, rfl, np_62⟩, List.forall_mem_cons.mpr ⟨⟨_, _, rfl, np_63⟩, List.forall_mem_cons.mpr ⟨⟨_, _, rfl, np_64⟩, List.forall_mem_cons.mpr ⟨⟨_, _, rfl, np_65⟩, List.forall_mem_cons.mpr ⟨⟨_, _, rfl, np_66⟩, List.forall_mem_cons.mpr ⟨⟨_, _, rfl, np_67⟩, List.forall_mem_cons.mpr ⟨⟨_, _, rfl, np_68⟩, List.forall_mem_cons.mpr ⟨⟨_, _, rfl, np_69⟩, List.forall_mem_cons.mpr ⟨⟨_, _, rfl, np_70⟩, List.forall_mem_cons.mpr ⟨⟨_, _, rfl, np_71⟩, List.forall_mem_cons.mpr ⟨⟨_, _, rfl, np_72⟩, List.forall_mem_cons.mpr ⟨⟨_, _, rfl, np_73⟩, List.forall_mem_cons.mpr ⟨⟨_, _, rfl, np_74⟩, List.forall_mem_cons.mpr ⟨⟨_, _, rfl, np_75⟩, List.forall_mem_cons.mpr ⟨⟨_, _, rfl, np_76⟩, List.forall_mem_cons.mpr ⟨⟨_, _, rfl, np_77⟩, List.forall_mem_cons.mpr ⟨⟨_, _, rfl, np_78⟩, List.forall_mem_cons.mpr ⟨⟨_, _, rfl, np_79⟩, List.forall_mem_cons.mpr ⟨⟨_, _, rfl, np_80⟩, List.forall_mem_cons.mpr ⟨⟨_, _, rfl, np_81⟩, List.forall_mem_cons.mpr ⟨⟨_, _, rfl, np_82⟩, List.forall_mem_cons.mpr ⟨⟨_, _, rfl, np_83⟩, List.forall_mem_cons.mpr ⟨⟨_, _, rfl, np_84⟩, List.forall_mem_cons.mpr ⟨⟨_, _, rfl, np_85⟩, List.forall_mem_cons.mpr ⟨⟨_, _, rfl, np_86⟩, List.forall_mem_cons.mpr ⟨⟨_, _, rfl, np_87⟩, List.forall_mem_cons.mpr ⟨⟨_, _, rfl, np_88⟩, List.forall_mem_cons.mpr ⟨⟨_, _, rfl, np_89⟩, List.forall_mem_cons.mpr ⟨⟨_, _, rfl, np_90⟩, List.forall_mem_cons.mpr ⟨⟨_, _, rfl, np_91⟩, List.forall_mem_cons.mpr ⟨⟨_, _, rfl, np_92⟩, List.forall_mem_cons.mpr ⟨⟨_, _, rfl, np_93⟩, List.forall_mem_cons.mpr ⟨⟨_, _, rfl, np_94⟩, List.forall_mem_cons.mpr ⟨⟨_, _, rfl, np_95⟩, List.forall_mem_cons.mpr ⟨⟨_, _, rfl, np_96⟩, List.forall_mem_cons.mpr ⟨⟨_, _, rfl, np_97⟩, List.forall_mem_cons.mpr ⟨⟨_, _, rfl, np_98⟩, List.forall_mem_cons.mpr ⟨⟨_, _, rfl, np_99⟩, List.forall_mem_cons.mpr ⟨⟨_, _, rfl, np_100⟩, List.forall_mem_cons.mpr ⟨⟨_, _, rfl, np_101⟩, List.forall_mem_cons.mpr ⟨⟨_, _, rfl, np_102⟩, List.forall_mem_cons.mpr ⟨⟨_, _, rfl, np_103⟩, List.forall_mem_cons.mpr ⟨⟨_, _, rfl, np_104⟩, List.forall_mem_cons.mpr ⟨⟨_, _, rfl, np_105⟩, List.forall_mem_cons.mpr ⟨⟨_, _, rfl, np_106⟩, List.forall_mem_cons.mpr ⟨⟨_, _, rfl, np_107⟩, List.forall_mem_cons.mpr ⟨⟨_, _, rfl, np_108⟩, List.forall_mem_cons.mpr ⟨⟨_, _, rfl, np_109⟩, List.forall_mem_cons.mpr ⟨⟨_, _, rfl, np_110⟩, List.forall_mem_cons.mpr ⟨⟨_, _, rfl, np_111⟩, List.forall_mem_cons.mpr ⟨⟨_, _, rfl, np_112⟩, List.forall_mem_cons.mpr ⟨⟨_, _, rfl, np_113⟩, List.forall_mem_cons.mpr ⟨⟨_, _, rfl, np_114⟩, List.forall_mem_cons.mpr ⟨⟨_, _, rfl, np_115⟩, List.forall_mem_cons.mpr ⟨⟨_, _, rfl, np_116⟩, List.forall_mem_cons.mpr ⟨⟨_, _, rfl, np_117⟩, List.forall_mem_cons.mpr ⟨⟨_, _, rfl, np_118⟩, List.forall_mem_cons.mpr ⟨⟨_, _, rfl, np_119⟩, List.forall_mem_cons.mpr ⟨⟨_, _, rfl, np_120⟩, List.forall_mem_cons.mpr ⟨⟨_, _, rfl, np_121⟩, List.forall_mem_cons.mpr ⟨⟨_, _, rfl, np_122⟩, List.forall_mem_cons.mpr ⟨⟨_, _, rfl, np_123⟩, List.forall_mem_cons.mpr ⟨⟨_, _, rfl, np_124⟩, List.forall_mem_cons.mpr ⟨⟨_, _, rfl, np_125⟩, List.forall_mem_cons.mpr ⟨⟨_, _, rfl, np_126⟩, List.forall_mem_cons.mpr ⟨⟨_, _, rfl, np_127⟩, List.forall_mem_cons.mpr ⟨⟨_, _, rfl, np_128⟩, List.forall_mem_cons.mpr ⟨⟨_, _, rfl, np_129⟩, List.forall_mem_cons.mpr ⟨⟨_, _, rfl, np_130⟩, List.forall_mem_cons.mpr ⟨⟨_, _, rfl, np_131⟩, List.forall_mem_cons.mpr ⟨⟨_, _, rfl, np_132⟩, List.forall_mem_cons.mpr ⟨⟨_, _, rfl, np_133⟩, List.forall_mem_cons.mpr ⟨⟨_, _, rfl, np_134⟩, List.forall_mem_cons.mpr ⟨⟨_, _, rfl, np_135⟩, List.forall_mem_cons.mpr ⟨⟨_, _, rfl, np_136⟩, List.forall_mem_cons.mpr ⟨⟨_, _, rfl, np_137⟩, List.forall_mem_cons.mpr ⟨⟨_, _, rfl, np_138⟩, List.forall_mem_cons.mpr ⟨⟨_, _, rfl, np_139⟩, List.forall_mem_cons.mpr ⟨⟨_, _, rfl, np_140⟩, List.forall_mem_cons.mpr ⟨⟨_, _, rfl, np_141⟩, List.forall_mem_cons.mpr ⟨⟨_, _, rfl, np_142⟩, List.forall_mem_cons.mpr ⟨⟨_, _, rfl, np_143⟩, List.forall_mem_cons.mpr ⟨⟨_, _, rfl, np_144⟩, List.forall_mem_cons.mpr ⟨⟨_, _, rfl, np_145⟩, List.forall_mem_cons.mpr ⟨⟨_, _, rfl, np_146⟩, List.forall_mem_cons.mpr ⟨⟨_, _, rfl, np_147⟩, List.forall_mem_cons.mpr ⟨⟨_, _, rfl, np_148⟩, List.forall_mem_cons.mpr ⟨⟨_, _, rfl, np_149⟩, List.forall_mem_cons.mpr ⟨⟨_, _, rfl, np_150⟩, List.forall_mem_cons.mpr ⟨⟨_, _, rfl, np_151⟩, List.forall_mem_cons.mpr ⟨⟨_, _, rfl, np_152⟩, List.forall_mem_cons.mpr ⟨⟨_, _, rfl, np_153⟩, List.forall_mem_cons.mpr ⟨⟨_, _, rfl, np_154⟩, List.forall_mem_cons.mpr ⟨⟨_, _, rfl, np_155⟩, List.forall_mem_cons.mpr ⟨⟨_, _, rfl, np_156⟩, List.forall_mem_cons.mpr ⟨⟨_, _, rfl, np_157⟩, List.forall_mem_cons.mpr ⟨⟨_, _, rfl, np_158⟩, List.forall_mem_cons.mpr ⟨⟨_, _, rfl, np_159⟩, List.forall_mem_cons.mpr ⟨⟨_, _, rfl, np_160⟩, List.forall_mem_cons.mpr ⟨⟨_, _, rfl, np_161⟩, List.forall_mem_cons.mpr ⟨⟨_, _, rfl, np_162⟩, List.forall_mem_cons.mpr ⟨⟨_, _, rfl, np_163⟩, List.forall_mem_cons.mpr ⟨⟨_, _, rfl, np_164⟩, List.forall_mem_cons.mpr ⟨⟨_, _, rfl, np_165⟩, List.forall_mem_cons.mpr ⟨⟨_, _, rfl, np_166⟩, List.forall_mem_cons.mpr ⟨⟨_, _, rfl, np_167⟩, List.forall_mem_cons.mpr ⟨⟨_, _, rfl, np_168⟩, List.forall_mem_cons.mpr ⟨⟨_, _, rfl, np_169⟩, List.forall_mem_cons.mpr ⟨⟨_, _, rfl, np_170⟩, List.forall_mem_cons.mpr ⟨⟨_, _, rfl, np_171⟩, List.forall_mem_cons.mpr ⟨⟨_, _, rfl, np_172⟩, List.forall_mem_cons.mpr ⟨⟨_, _, rfl, np_173⟩, List.forall_mem_cons.mpr ⟨⟨_, _, rfl, np_174⟩, List.forall_mem_cons.mpr ⟨⟨_, _, rfl, np_175⟩, List.forall_mem_cons.mpr ⟨⟨_, _, rfl, np_176⟩, List.forall_mem_cons.mpr ⟨⟨_, _, rfl, np_177⟩, List.forall_mem_cons.mpr ⟨⟨_, _, rfl, np_178⟩, List.forall_mem_cons.mpr ⟨⟨_, _, rfl, np_179⟩, List.forall_mem_cons.mpr ⟨⟨_, _, rfl, np_180⟩, List.forall_mem_cons.mpr ⟨⟨_, _, rfl, np_181⟩, List.forall_mem_cons.mpr ⟨⟨_, _, rfl, np_182⟩, List.forall_mem_cons.mpr ⟨⟨_, _, rfl, np_183⟩, List.forall_mem_cons.mpr ⟨⟨_, _, rfl, np_184⟩, List.forall_mem_cons.mpr ⟨⟨_, _, rfl, np_185⟩, List.forall_mem_cons.mpr ⟨⟨_, _, rfl, np_186⟩, List.forall_mem_cons.mpr ⟨⟨_, _, rfl, np_187⟩, List.forall_mem_cons.mpr ⟨⟨_, _, rfl, np_188⟩, List.forall_mem_cons.mpr ⟨⟨_, _, rfl, np_189⟩, List.forall_mem_cons.mpr ⟨⟨_, _, rfl, np_190⟩, List.forall_mem_cons.mpr ⟨⟨_, _, rfl, np_191⟩, List.forall_mem_cons.mpr ⟨⟨_, _, rfl, np_192⟩, List.forall_mem_cons.mpr ⟨⟨_, _, rfl, np_193⟩, List.forall_mem_cons.mpr ⟨⟨_, _, rfl, np_194⟩, List.forall_mem_cons.mpr ⟨⟨_, _, rfl, np_195⟩, List.forall_mem_cons.mpr ⟨⟨_, _, rfl, np_196⟩, List.forall_mem_cons.mpr ⟨⟨_, _, rfl, np_197⟩, List.forall_mem_cons.mpr ⟨⟨_, _, rfl, np_198⟩, List.forall_mem_cons.mpr ⟨⟨_, _, rfl, np_199⟩, List.forall_mem_cons.mpr ⟨⟨_, _, rfl, np_200⟩, List.forall_mem_cons.mpr ⟨⟨_, _, rfl, np_201⟩, List.forall_mem_cons.mpr ⟨⟨_, _, rfl, np_202⟩, List.forall_mem_cons.mpr ⟨⟨_, _, rfl, np_203⟩, List.forall_mem_cons.mpr ⟨⟨_, _, rfl, np_204⟩, List.forall_mem_cons.mpr ⟨⟨_, _, rfl, np_205⟩, List.forall_mem_cons.mpr ⟨⟨_, _, rfl, np_206⟩, List.forall_mem_cons.mpr ⟨⟨_, _, rfl, np_207⟩, List.forall_mem_cons.mpr ⟨⟨_, _, rfl, np_208⟩, List.forall_mem_cons.mpr ⟨⟨_, _, rfl, np_209⟩, List.forall_mem_cons.mpr ⟨⟨_, _, rfl, np_210⟩, List.forall_mem_cons.mpr ⟨⟨_, _, rfl, np_211⟩, List.forall_mem_cons.mpr ⟨⟨_, _, rfl, np_212⟩, List.forall_mem_cons.mpr ⟨⟨_, _, rfl, np_213⟩, List.forall_mem_cons.mpr ⟨⟨_, _, rfl, np_214⟩, List.forall_mem_cons.mpr ⟨⟨_, _, rfl, np_215⟩, List.forall_mem_cons.mpr ⟨⟨_, _, rfl, np_216⟩, List.forall_mem_cons.mpr ⟨⟨_, _, rfl, np_217⟩, List.forall_mem_cons.mpr ⟨⟨_, _, rfl, np_218⟩, List.forall_mem_cons.mpr ⟨⟨_, _, rfl, np_219⟩, List.forall_mem_cons.mpr ⟨⟨_, _, rfl, np_220⟩, fun _ h => absurd h List.not_mem_nil⟩⟩⟩⟩⟩⟩⟩⟩⟩⟩⟩⟩⟩⟩⟩⟩⟩⟩⟩⟩⟩⟩⟩⟩⟩⟩⟩⟩⟩⟩⟩⟩⟩⟩⟩⟩⟩⟩⟩⟩⟩⟩⟩⟩⟩⟩⟩⟩⟩⟩⟩⟩⟩⟩⟩⟩⟩⟩⟩⟩⟩⟩⟩⟩⟩⟩⟩⟩⟩⟩⟩⟩⟩⟩⟩⟩⟩⟩⟩⟩⟩⟩⟩⟩⟩⟩⟩⟩⟩⟩⟩⟩⟩⟩⟩⟩⟩⟩⟩⟩⟩⟩⟩⟩⟩⟩⟩⟩⟩⟩⟩⟩⟩⟩⟩⟩⟩⟩⟩⟩⟩⟩⟩⟩⟩⟩⟩⟩⟩⟩⟩⟩⟩⟩⟩⟩⟩⟩⟩⟩⟩⟩⟩⟩⟩⟩⟩⟩⟩⟩⟩⟩⟩⟩⟩⟩⟩⟩⟩⟩⟩⟩⟩⟩⟩⟩⟩⟩⟩⟩⟩⟩⟩⟩⟩⟩⟩⟩⟩⟩⟩⟩⟩⟩⟩⟩⟩⟩⟩⟩⟩⟩⟩⟩⟩⟩⟩⟩⟩⟩⟩⟩⟩⟩⟩⟩⟩⟩⟩⟩⟩⟩⟩⟩⟩⟩⟩⟩⟩⟩⟩

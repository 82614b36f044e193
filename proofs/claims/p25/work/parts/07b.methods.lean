/-! What is so of each method. Written by wip/gen.py. -/
noncomputable def ex_ini (c : Nat) : Nat := Option.rec 100000 (fun x => x) (ex_at [66, 67, 76, 68, 70, 71, 72, 73, 74, 75, 69, 81, 77, 78, 79] c)
/-- what is so of a method: its rows, its number, its class, whether it is a constructor, its locals -/
def ex_gm (M : ex_M) : Prop := ex_allT M.2.1 (ex_chk M.2.2.2.2.2.2.2.2.2) = true ∧ M = ex_m M.1 ∧ M.2.2.2.2.2.2.2.2.1.cls = ex_cn M.2.2.1 ∧ (M.2.2.2.2.2.2.2.1 = true → M.2.2.2.2.2.2.2.2.1.name = "<init>") ∧ M.2.2.2.2.1 ≤ 20 ∧ (M.2.2.2.2.2.2.1 < 9 → ex_cn M.2.2.1 = ex_on M.2.2.2.2.2.2.1) ∧ M.2.2.1 < 15 ∧ ex_g3 lw_ds M.2.2.2.2.2.1 = some (4, M.1, 0, 0, 0)
theorem gm_1 : ex_gm mt_1 := ⟨gk_1, rfl, rfl, (fun _ => rfl), by decide, (fun _ => rfl), by decide, rfl⟩
theorem gm_2 : ex_gm mt_2 := ⟨gk_2, rfl, rfl, (fun _ => rfl), by decide, (fun _ => rfl), by decide, rfl⟩
theorem gm_3 : ex_gm mt_3 := ⟨gk_3, rfl, rfl, (fun h => by cases h), by decide, (fun _ => rfl), by decide, rfl⟩
theorem gm_4 : ex_gm mt_4 := ⟨gk_4, rfl, rfl, (fun h => by cases h), by decide, (fun _ => rfl), by decide, rfl⟩
theorem gm_5 : ex_gm mt_5 := ⟨gk_5, rfl, rfl, (fun h => by cases h), by decide, (fun _ => rfl), by decide, rfl⟩
theorem gm_6 : ex_gm mt_6 := ⟨gk_6, rfl, rfl, (fun h => by cases h), by decide, (fun _ => rfl), by decide, rfl⟩
theorem gm_7 : ex_gm mt_7 := ⟨gk_7, rfl, rfl, (fun h => by cases h), by decide, (fun _ => rfl), by decide, rfl⟩
theorem gm_8 : ex_gm mt_8 := ⟨gk_8, rfl, rfl, (fun h => by cases h), by decide, (fun _ => rfl), by decide, rfl⟩
theorem gm_9 : ex_gm mt_9 := ⟨gk_9, rfl, rfl, (fun h => by cases h), by decide, (fun _ => rfl), by decide, rfl⟩
theorem gm_10 : ex_gm mt_10 := ⟨gk_10, rfl, rfl, (fun h => by cases h), by decide, (fun _ => rfl), by decide, rfl⟩
theorem gm_11 : ex_gm mt_11 := ⟨gk_11, rfl, rfl, (fun h => by cases h), by decide, (fun _ => rfl), by decide, rfl⟩
theorem gm_12 : ex_gm mt_12 := ⟨gk_12, rfl, rfl, (fun h => by cases h), by decide, (fun _ => rfl), by decide, rfl⟩
theorem gm_13 : ex_gm mt_13 := ⟨gk_13, rfl, rfl, (fun h => by cases h), by decide, (fun _ => rfl), by decide, rfl⟩
theorem gm_14 : ex_gm mt_14 := ⟨gk_14, rfl, rfl, (fun h => by cases h), by decide, (fun _ => rfl), by decide, rfl⟩
theorem gm_15 : ex_gm mt_15 := ⟨gk_15, rfl, rfl, (fun h => by cases h), by decide, (fun _ => rfl), by decide, rfl⟩
theorem gm_16 : ex_gm mt_16 := ⟨gk_16, rfl, rfl, (fun h => by cases h), by decide, (fun _ => rfl), by decide, rfl⟩
theorem gm_17 : ex_gm mt_17 := ⟨gk_17, rfl, rfl, (fun h => by cases h), by decide, (fun _ => rfl), by decide, rfl⟩
theorem gm_18 : ex_gm mt_18 := ⟨gk_18, rfl, rfl, (fun h => by cases h), by decide, (fun _ => rfl), by decide, rfl⟩
theorem gm_19 : ex_gm mt_19 := ⟨gk_19, rfl, rfl, (fun h => by cases h), by decide, (fun _ => rfl), by decide, rfl⟩
theorem gm_20 : ex_gm mt_20 := ⟨gk_20, rfl, rfl, (fun h => by cases h), by decide, (fun _ => rfl), by decide, rfl⟩
theorem gm_21 : ex_gm mt_21 := ⟨gk_21, rfl, rfl, (fun h => by cases h), by decide, (fun _ => rfl), by decide, rfl⟩
theorem gm_22 : ex_gm mt_22 := ⟨gk_22, rfl, rfl, (fun h => by cases h), by decide, (fun _ => rfl), by decide, rfl⟩
theorem gm_23 : ex_gm mt_23 := ⟨gk_23, rfl, rfl, (fun h => by cases h), by decide, (fun _ => rfl), by decide, rfl⟩
theorem gm_24 : ex_gm mt_24 := ⟨gk_24, rfl, rfl, (fun h => by cases h), by decide, (fun _ => rfl), by decide, rfl⟩
theorem gm_25 : ex_gm mt_25 := ⟨gk_25, rfl, rfl, (fun h => by cases h), by decide, (fun _ => rfl), by decide, rfl⟩
theorem gm_26 : ex_gm mt_26 := ⟨gk_26, rfl, rfl, (fun h => by cases h), by decide, (fun _ => rfl), by decide, rfl⟩
theorem gm_27 : ex_gm mt_27 := ⟨gk_27, rfl, rfl, (fun h => by cases h), by decide, (fun _ => rfl), by decide, rfl⟩
theorem gm_28 : ex_gm mt_28 := ⟨gk_28, rfl, rfl, (fun h => by cases h), by decide, (fun _ => rfl), by decide, rfl⟩
theorem gm_29 : ex_gm mt_29 := ⟨gk_29, rfl, rfl, (fun h => by cases h), by decide, (fun _ => rfl), by decide, rfl⟩
theorem gm_30 : ex_gm mt_30 := ⟨gk_30, rfl, rfl, (fun h => by cases h), by decide, (fun _ => rfl), by decide, rfl⟩
theorem gm_31 : ex_gm mt_31 := ⟨gk_31, rfl, rfl, (fun h => by cases h), by decide, (fun _ => rfl), by decide, rfl⟩
theorem gm_32 : ex_gm mt_32 := ⟨gk_32, rfl, rfl, (fun h => by cases h), by decide, (fun _ => rfl), by decide, rfl⟩
theorem gm_33 : ex_gm mt_33 := ⟨gk_33, rfl, rfl, (fun h => by cases h), by decide, (fun _ => rfl), by decide, rfl⟩
theorem gm_34 : ex_gm mt_34 := ⟨gk_34, rfl, rfl, (fun h => by cases h), by decide, (fun _ => rfl), by decide, rfl⟩
theorem gm_35 : ex_gm mt_35 := ⟨gk_35, rfl, rfl, (fun h => by cases h), by decide, (fun _ => rfl), by decide, rfl⟩
theorem gm_36 : ex_gm mt_36 := ⟨gk_36, rfl, rfl, (fun h => by cases h), by decide, (fun _ => rfl), by decide, rfl⟩
theorem gm_37 : ex_gm mt_37 := ⟨gk_37, rfl, rfl, (fun h => by cases h), by decide, (fun _ => rfl), by decide, rfl⟩
theorem gm_38 : ex_gm mt_38 := ⟨gk_38, rfl, rfl, (fun h => by cases h), by decide, (fun _ => rfl), by decide, rfl⟩
theorem gm_39 : ex_gm mt_39 := ⟨gk_39, rfl, rfl, (fun h => by cases h), by decide, (fun _ => rfl), by decide, rfl⟩
theorem gm_40 : ex_gm mt_40 := ⟨gk_40, rfl, rfl, (fun h => by cases h), by decide, (fun _ => rfl), by decide, rfl⟩
theorem gm_41 : ex_gm mt_41 := ⟨gk_41, rfl, rfl, (fun h => by cases h), by decide, (fun _ => rfl), by decide, rfl⟩
theorem gm_42 : ex_gm mt_42 := ⟨gk_42, rfl, rfl, (fun h => by cases h), by decide, (fun _ => rfl), by decide, rfl⟩
theorem gm_43 : ex_gm mt_43 := ⟨gk_43, rfl, rfl, (fun h => by cases h), by decide, (fun _ => rfl), by decide, rfl⟩
theorem gm_44 : ex_gm mt_44 := ⟨gk_44, rfl, rfl, (fun h => by cases h), by decide, (fun _ => rfl), by decide, rfl⟩
theorem gm_45 : ex_gm mt_45 := ⟨gk_45, rfl, rfl, (fun h => by cases h), by decide, (fun _ => rfl), by decide, rfl⟩
theorem gm_46 : ex_gm mt_46 := ⟨gk_46, rfl, rfl, (fun h => by cases h), by decide, (fun _ => rfl), by decide, rfl⟩
theorem gm_47 : ex_gm mt_47 := ⟨gk_47, rfl, rfl, (fun h => by cases h), by decide, (fun _ => rfl), by decide, rfl⟩
theorem gm_48 : ex_gm mt_48 := ⟨gk_48, rfl, rfl, (fun h => by cases h), by decide, (fun _ => rfl), by decide, rfl⟩
theorem gm_49 : ex_gm mt_49 := ⟨gk_49, rfl, rfl, (fun h => by cases h), by decide, (fun _ => rfl), by decide, rfl⟩
theorem gm_50 : ex_gm mt_50 := ⟨gk_50, rfl, rfl, (fun h => by cases h), by decide, (fun _ => rfl), by decide, rfl⟩
theorem gm_51 : ex_gm mt_51 := ⟨gk_51, rfl, rfl, (fun h => by cases h), by decide, (fun _ => rfl), by decide, rfl⟩
theorem gm_52 : ex_gm mt_52 := ⟨gk_52, rfl, rfl, (fun h => by cases h), by decide, (fun _ => rfl), by decide, rfl⟩
theorem gm_53 : ex_gm mt_53 := ⟨gk_53, rfl, rfl, (fun h => by cases h), by decide, (fun _ => rfl), by decide, rfl⟩
theorem gm_54 : ex_gm mt_54 := ⟨gk_54, rfl, rfl, (fun h => by cases h), by decide, (fun _ => rfl), by decide, rfl⟩
theorem gm_55 : ex_gm mt_55 := ⟨gk_55, rfl, rfl, (fun h => by cases h), by decide, (fun _ => rfl), by decide, rfl⟩
theorem gm_56 : ex_gm mt_56 := ⟨gk_56, rfl, rfl, (fun h => by cases h), by decide, (fun _ => rfl), by decide, rfl⟩
theorem gm_57 : ex_gm mt_57 := ⟨gk_57, rfl, rfl, (fun h => by cases h), by decide, (fun _ => rfl), by decide, rfl⟩
theorem gm_58 : ex_gm mt_58 := ⟨gk_58, rfl, rfl, (fun h => by cases h), by decide, (fun _ => rfl), by decide, rfl⟩
theorem gm_59 : ex_gm mt_59 := ⟨gk_59, rfl, rfl, (fun h => by cases h), by decide, (fun _ => rfl), by decide, rfl⟩
theorem gm_60 : ex_gm mt_60 := ⟨gk_60, rfl, rfl, (fun h => by cases h), by decide, (fun _ => rfl), by decide, rfl⟩
theorem gm_61 : ex_gm mt_61 := ⟨gk_61, rfl, rfl, (fun h => by cases h), by decide, (fun _ => rfl), by decide, rfl⟩
theorem gm_62 : ex_gm mt_62 := ⟨gk_62, rfl, rfl, (fun h => by cases h), by decide, (fun _ => rfl), by decide, rfl⟩
theorem gm_63 : ex_gm mt_63 := ⟨gk_63, rfl, rfl, (fun h => by cases h), by decide, (fun _ => rfl), by decide, rfl⟩
theorem gm_64 : ex_gm mt_64 := ⟨gk_64, rfl, rfl, (fun h => by cases h), by decide, (fun _ => rfl), by decide, rfl⟩
theorem gm_65 : ex_gm mt_65 := ⟨gk_65, rfl, rfl, (fun h => by cases h), by decide, (fun _ => rfl), by decide, rfl⟩
theorem gm_66 : ex_gm mt_66 := ⟨gk_66, rfl, rfl, (fun h => by cases h), by decide, (fun _ => rfl), by decide, rfl⟩
theorem gm_67 : ex_gm mt_67 := ⟨gk_67, rfl, rfl, (fun h => by cases h), by decide, (fun _ => rfl), by decide, rfl⟩
theorem gm_68 : ex_gm mt_68 := ⟨gk_68, rfl, rfl, (fun h => by cases h), by decide, (fun _ => rfl), by decide, rfl⟩
theorem gm_69 : ex_gm mt_69 := ⟨gk_69, rfl, rfl, (fun h => by cases h), by decide, (fun _ => rfl), by decide, rfl⟩
theorem gm_70 : ex_gm mt_70 := ⟨gk_70, rfl, rfl, (fun h => by cases h), by decide, (fun _ => rfl), by decide, rfl⟩
theorem gm_71 : ex_gm mt_71 := ⟨gk_71, rfl, rfl, (fun h => by cases h), by decide, (fun _ => rfl), by decide, rfl⟩
theorem gm_72 : ex_gm mt_72 := ⟨gk_72, rfl, rfl, (fun h => by cases h), by decide, (fun _ => rfl), by decide, rfl⟩
theorem gm_73 : ex_gm mt_73 := ⟨gk_73, rfl, rfl, (fun h => by cases h), by decide, (fun _ => rfl), by decide, rfl⟩
theorem gm_74 : ex_gm mt_74 := ⟨gk_74, rfl, rfl, (fun h => by cases h), by decide, (fun _ => rfl), by decide, rfl⟩
theorem gm_75 : ex_gm mt_75 := ⟨gk_75, rfl, rfl, (fun h => by cases h), by decide, (fun _ => rfl), by decide, rfl⟩
theorem gm_76 : ex_gm mt_76 := ⟨gk_76, rfl, rfl, (fun h => by cases h), by decide, (fun _ => rfl), by decide, rfl⟩
theorem gm_77 : ex_gm mt_77 := ⟨gk_77, rfl, rfl, (fun h => by cases h), by decide, (fun _ => rfl), by decide, rfl⟩
theorem gm_78 : ex_gm mt_78 := ⟨gk_78, rfl, rfl, (fun h => by cases h), by decide, (fun _ => rfl), by decide, rfl⟩
theorem gm_79 : ex_gm mt_79 := ⟨gk_79, rfl, rfl, (fun h => by cases h), by decide, (fun _ => rfl), by decide, rfl⟩
theorem gm_80 : ex_gm mt_80 := ⟨gk_80, rfl, rfl, (fun h => by cases h), by decide, (fun _ => rfl), by decide, rfl⟩
theorem gm_81 : ex_gm mt_81 := ⟨gk_81, rfl, rfl, (fun h => by cases h), by decide, (fun _ => rfl), by decide, rfl⟩
theorem gm_82 : ex_gm mt_82 := ⟨gk_82, rfl, rfl, (fun h => by cases h), by decide, (fun _ => rfl), by decide, rfl⟩
theorem gm_83 : ex_gm mt_83 := ⟨gk_83, rfl, rfl, (fun _ => rfl), by decide, (fun _ => rfl), by decide, rfl⟩
theorem gm_84 : ex_gm mt_84 := ⟨gk_84, rfl, rfl, (fun _ => rfl), by decide, (fun _ => rfl), by decide, rfl⟩
theorem gm_85 : ex_gm mt_85 := ⟨gk_85, rfl, rfl, (fun _ => rfl), by decide, (fun _ => rfl), by decide, rfl⟩
theorem gm_86 : ex_gm mt_86 := ⟨gk_86, rfl, rfl, (fun _ => rfl), by decide, (fun _ => rfl), by decide, rfl⟩
theorem gm_87 : ex_gm mt_87 := ⟨gk_87, rfl, rfl, (fun _ => rfl), by decide, (fun _ => rfl), by decide, rfl⟩
theorem gm_88 : ex_gm mt_88 := ⟨gk_88, rfl, rfl, (fun _ => rfl), by decide, (fun _ => rfl), by decide, rfl⟩
theorem gm_89 : ex_gm mt_89 := ⟨gk_89, rfl, rfl, (fun _ => rfl), by decide, (fun _ => rfl), by decide, rfl⟩
theorem gm_90 : ex_gm mt_90 := ⟨gk_90, rfl, rfl, (fun h => by cases h), by decide, (fun _ => rfl), by decide, rfl⟩
theorem gm_91 : ex_gm mt_91 := ⟨gk_91, rfl, rfl, (fun h => by cases h), by decide, (fun _ => rfl), by decide, rfl⟩
theorem gm_92 : ex_gm mt_92 := ⟨gk_92, rfl, rfl, (fun h => by cases h), by decide, (fun _ => rfl), by decide, rfl⟩
theorem gm_93 : ex_gm mt_93 := ⟨gk_93, rfl, rfl, (fun h => by cases h), by decide, (fun _ => rfl), by decide, rfl⟩
theorem gm_94 : ex_gm mt_94 := ⟨gk_94, rfl, rfl, (fun h => by cases h), by decide, (fun _ => rfl), by decide, rfl⟩
theorem gm_95 : ex_gm mt_95 := ⟨gk_95, rfl, rfl, (fun h => by cases h), by decide, (fun _ => rfl), by decide, rfl⟩
theorem gm_96 : ex_gm mt_96 := ⟨gk_96, rfl, rfl, (fun h => by cases h), by decide, (fun _ => rfl), by decide, rfl⟩
theorem gm_97 : ex_gm mt_97 := ⟨gk_97, rfl, rfl, (fun h => by cases h), by decide, (fun _ => rfl), by decide, rfl⟩
theorem gm_98 : ex_gm mt_98 := ⟨gk_98, rfl, rfl, (fun h => by cases h), by decide, (fun _ => rfl), by decide, rfl⟩
theorem gm_99 : ex_gm mt_99 := ⟨gk_99, rfl, rfl, (fun h => by cases h), by decide, (fun _ => rfl), by decide, rfl⟩
theorem gm_100 : ex_gm mt_100 := ⟨gk_100, rfl, rfl, (fun h => by cases h), by decide, (fun _ => rfl), by decide, rfl⟩
theorem gm_101 : ex_gm mt_101 := ⟨gk_101, rfl, rfl, (fun h => by cases h), by decide, (fun _ => rfl), by decide, rfl⟩
theorem gm_102 : ex_gm mt_102 := ⟨gk_102, rfl, rfl, (fun h => by cases h), by decide, (fun _ => rfl), by decide, rfl⟩
theorem gm_103 : ex_gm mt_103 := ⟨gk_103, rfl, rfl, (fun h => by cases h), by decide, (fun _ => rfl), by decide, rfl⟩
theorem gm_104 : ex_gm mt_104 := ⟨gk_104, rfl, rfl, (fun h => by cases h), by decide, (fun _ => rfl), by decide, rfl⟩
theorem gm_105 : ex_gm mt_105 := ⟨gk_105, rfl, rfl, (fun h => by cases h), by decide, (fun _ => rfl), by decide, rfl⟩
theorem gm_106 : ex_gm mt_106 := ⟨gk_106, rfl, rfl, (fun h => by cases h), by decide, (fun _ => rfl), by decide, rfl⟩
theorem gm_107 : ex_gm mt_107 := ⟨gk_107, rfl, rfl, (fun h => by cases h), by decide, (fun _ => rfl), by decide, rfl⟩
theorem gm_108 : ex_gm mt_108 := ⟨gk_108, rfl, rfl, (fun h => by cases h), by decide, (fun _ => rfl), by decide, rfl⟩
theorem gm_109 : ex_gm mt_109 := ⟨gk_109, rfl, rfl, (fun h => by cases h), by decide, (fun _ => rfl), by decide, rfl⟩
theorem gm_110 : ex_gm mt_110 := ⟨gk_110, rfl, rfl, (fun h => by cases h), by decide, (fun _ => rfl), by decide, rfl⟩
theorem gm_111 : ex_gm mt_111 := ⟨gk_111, rfl, rfl, (fun h => by cases h), by decide, (fun _ => rfl), by decide, rfl⟩
theorem gm_112 : ex_gm mt_112 := ⟨gk_112, rfl, rfl, (fun h => by cases h), by decide, (fun _ => rfl), by decide, rfl⟩
theorem gm_113 : ex_gm mt_113 := ⟨gk_113, rfl, rfl, (fun h => by cases h), by decide, (fun _ => rfl), by decide, rfl⟩
theorem gm_114 : ex_gm mt_114 := ⟨gk_114, rfl, rfl, (fun h => by cases h), by decide, (fun _ => rfl), by decide, rfl⟩
theorem gm_115 : ex_gm mt_115 := ⟨gk_115, rfl, rfl, (fun h => by cases h), by decide, (fun _ => rfl), by decide, rfl⟩
theorem gm_116 : ex_gm mt_116 := ⟨gk_116, rfl, rfl, (fun h => by cases h), by decide, (fun _ => rfl), by decide, rfl⟩
theorem gm_117 : ex_gm mt_117 := ⟨gk_117, rfl, rfl, (fun h => by cases h), by decide, (fun _ => rfl), by decide, rfl⟩
theorem gm_118 : ex_gm mt_118 := ⟨gk_118, rfl, rfl, (fun h => by cases h), by decide, (fun _ => rfl), by decide, rfl⟩
theorem gm_119 : ex_gm mt_119 := ⟨gk_119, rfl, rfl, (fun h => by cases h), by decide, (fun _ => rfl), by decide, rfl⟩
theorem gm_120 : ex_gm mt_120 := ⟨gk_120, rfl, rfl, (fun h => by cases h), by decide, (fun _ => rfl), by decide, rfl⟩
theorem gm_121 : ex_gm mt_121 := ⟨gk_121, rfl, rfl, (fun h => by cases h), by decide, (fun _ => rfl), by decide, rfl⟩
theorem gm_122 : ex_gm mt_122 := ⟨gk_122, rfl, rfl, (fun h => by cases h), by decide, (fun _ => rfl), by decide, rfl⟩
theorem gm_123 : ex_gm mt_123 := ⟨gk_123, rfl, rfl, (fun h => by cases h), by decide, (fun _ => rfl), by decide, rfl⟩
theorem gm_124 : ex_gm mt_124 := ⟨gk_124, rfl, rfl, (fun h => by cases h), by decide, (fun _ => rfl), by decide, rfl⟩
theorem gm_125 : ex_gm mt_125 := ⟨gk_125, rfl, rfl, (fun h => by cases h), by decide, (fun _ => rfl), by decide, rfl⟩
theorem gm_126 : ex_gm mt_126 := ⟨gk_126, rfl, rfl, (fun h => by cases h), by decide, (fun _ => rfl), by decide, rfl⟩
theorem gm_127 : ex_gm mt_127 := ⟨gk_127, rfl, rfl, (fun h => by cases h), by decide, (fun _ => rfl), by decide, rfl⟩
theorem gm_128 : ex_gm mt_128 := ⟨gk_128, rfl, rfl, (fun h => by cases h), by decide, (fun _ => rfl), by decide, rfl⟩
theorem gm_129 : ex_gm mt_129 := ⟨gk_129, rfl, rfl, (fun h => by cases h), by decide, (fun _ => rfl), by decide, rfl⟩
theorem gm_130 : ex_gm mt_130 := ⟨gk_130, rfl, rfl, (fun h => by cases h), by decide, (fun _ => rfl), by decide, rfl⟩
theorem gm_131 : ex_gm mt_131 := ⟨gk_131, rfl, rfl, (fun h => by cases h), by decide, (fun _ => rfl), by decide, rfl⟩
theorem gm_132 : ex_gm mt_132 := ⟨gk_132, rfl, rfl, (fun h => by cases h), by decide, (fun _ => rfl), by decide, rfl⟩
theorem gm_133 : ex_gm mt_133 := ⟨gk_133, rfl, rfl, (fun h => by cases h), by decide, (fun _ => rfl), by decide, rfl⟩
theorem gm_134 : ex_gm mt_134 := ⟨gk_134, rfl, rfl, (fun h => by cases h), by decide, (fun _ => rfl), by decide, rfl⟩
theorem gm_135 : ex_gm mt_135 := ⟨gk_135, rfl, rfl, (fun h => by cases h), by decide, (fun _ => rfl), by decide, rfl⟩
theorem gm_136 : ex_gm mt_136 := ⟨gk_136, rfl, rfl, (fun h => by cases h), by decide, (fun _ => rfl), by decide, rfl⟩
theorem gm_137 : ex_gm mt_137 := ⟨gk_137, rfl, rfl, (fun h => by cases h), by decide, (fun _ => rfl), by decide, rfl⟩
theorem gm_138 : ex_gm mt_138 := ⟨gk_138, rfl, rfl, (fun h => by cases h), by decide, (fun _ => rfl), by decide, rfl⟩
theorem gm_139 : ex_gm mt_139 := ⟨gk_139, rfl, rfl, (fun h => by cases h), by decide, (fun _ => rfl), by decide, rfl⟩
theorem gm_140 : ex_gm mt_140 := ⟨gk_140, rfl, rfl, (fun h => by cases h), by decide, (fun _ => rfl), by decide, rfl⟩
theorem gm_141 : ex_gm mt_141 := ⟨gk_141, rfl, rfl, (fun h => by cases h), by decide, (fun _ => rfl), by decide, rfl⟩
theorem gm_142 : ex_gm mt_142 := ⟨gk_142, rfl, rfl, (fun h => by cases h), by decide, (fun _ => rfl), by decide, rfl⟩
theorem gm_143 : ex_gm mt_143 := ⟨gk_143, rfl, rfl, (fun h => by cases h), by decide, (fun _ => rfl), by decide, rfl⟩
theorem gm_144 : ex_gm mt_144 := ⟨gk_144, rfl, rfl, (fun h => by cases h), by decide, (fun _ => rfl), by decide, rfl⟩
theorem gm_145 : ex_gm mt_145 := ⟨gk_145, rfl, rfl, (fun h => by cases h), by decide, (fun _ => rfl), by decide, rfl⟩
theorem gm_146 : ex_gm mt_146 := ⟨gk_146, rfl, rfl, (fun h => by cases h), by decide, (fun _ => rfl), by decide, rfl⟩
theorem gm_147 : ex_gm mt_147 := ⟨gk_147, rfl, rfl, (fun h => by cases h), by decide, (fun _ => rfl), by decide, rfl⟩
theorem gm_148 : ex_gm mt_148 := ⟨gk_148, rfl, rfl, (fun h => by cases h), by decide, (fun _ => rfl), by decide, rfl⟩
theorem gm_149 : ex_gm mt_149 := ⟨gk_149, rfl, rfl, (fun h => by cases h), by decide, (fun _ => rfl), by decide, rfl⟩
theorem gm_150 : ex_gm mt_150 := ⟨gk_150, rfl, rfl, (fun h => by cases h), by decide, (fun _ => rfl), by decide, rfl⟩
theorem gm_151 : ex_gm mt_151 := ⟨gk_151, rfl, rfl, (fun h => by cases h), by decide, (fun _ => rfl), by decide, rfl⟩
theorem gm_152 : ex_gm mt_152 := ⟨gk_152, rfl, rfl, (fun h => by cases h), by decide, (fun _ => rfl), by decide, rfl⟩
theorem gm_153 : ex_gm mt_153 := ⟨gk_153, rfl, rfl, (fun h => by cases h), by decide, (fun _ => rfl), by decide, rfl⟩
theorem gm_154 : ex_gm mt_154 := ⟨gk_154, rfl, rfl, (fun h => by cases h), by decide, (fun _ => rfl), by decide, rfl⟩
theorem gm_155 : ex_gm mt_155 := ⟨gk_155, rfl, rfl, (fun h => by cases h), by decide, (fun _ => rfl), by decide, rfl⟩
theorem gm_156 : ex_gm mt_156 := ⟨gk_156, rfl, rfl, (fun h => by cases h), by decide, (fun _ => rfl), by decide, rfl⟩
theorem gm_157 : ex_gm mt_157 := ⟨gk_157, rfl, rfl, (fun h => by cases h), by decide, (fun _ => rfl), by decide, rfl⟩
theorem gm_158 : ex_gm mt_158 := ⟨gk_158, rfl, rfl, (fun h => by cases h), by decide, (fun _ => rfl), by decide, rfl⟩
theorem gm_159 : ex_gm mt_159 := ⟨gk_159, rfl, rfl, (fun h => by cases h), by decide, (fun _ => rfl), by decide, rfl⟩
theorem gm_160 : ex_gm mt_160 := ⟨gk_160, rfl, rfl, (fun h => by cases h), by decide, (fun _ => rfl), by decide, rfl⟩
theorem gm_161 : ex_gm mt_161 := ⟨gk_161, rfl, rfl, (fun h => by cases h), by decide, (fun _ => rfl), by decide, rfl⟩
theorem gm_162 : ex_gm mt_162 := ⟨gk_162, rfl, rfl, (fun h => by cases h), by decide, (fun h => absurd h (by decide)), by decide, rfl⟩
theorem gm_163 : ex_gm mt_163 := ⟨gk_163, rfl, rfl, (fun h => by cases h), by decide, (fun _ => rfl), by decide, rfl⟩
theorem gm_164 : ex_gm mt_164 := ⟨gk_164, rfl, rfl, (fun h => by cases h), by decide, (fun h => absurd h (by decide)), by decide, rfl⟩
theorem gm_165 : ex_gm mt_165 := ⟨gk_165, rfl, rfl, (fun h => by cases h), by decide, (fun _ => rfl), by decide, rfl⟩
theorem gm_166 : ex_gm mt_166 := ⟨gk_166, rfl, rfl, (fun h => by cases h), by decide, (fun _ => rfl), by decide, rfl⟩
theorem gm_167 : ex_gm mt_167 := ⟨gk_167, rfl, rfl, (fun h => by cases h), by decide, (fun _ => rfl), by decide, rfl⟩
theorem gm_168 : ex_gm mt_168 := ⟨gk_168, rfl, rfl, (fun h => by cases h), by decide, (fun _ => rfl), by decide, rfl⟩
theorem gm_169 : ex_gm mt_169 := ⟨gk_169, rfl, rfl, (fun h => by cases h), by decide, (fun _ => rfl), by decide, rfl⟩
theorem gm_170 : ex_gm mt_170 := ⟨gk_170, rfl, rfl, (fun h => by cases h), by decide, (fun _ => rfl), by decide, rfl⟩
theorem gm_171 : ex_gm mt_171 := ⟨gk_171, rfl, rfl, (fun h => by cases h), by decide, (fun _ => rfl), by decide, rfl⟩
theorem gm_172 : ex_gm mt_172 := ⟨gk_172, rfl, rfl, (fun h => by cases h), by decide, (fun _ => rfl), by decide, rfl⟩
theorem gm_173 : ex_gm mt_173 := ⟨gk_173, rfl, rfl, (fun h => by cases h), by decide, (fun _ => rfl), by decide, rfl⟩
theorem gm_174 : ex_gm mt_174 := ⟨gk_174, rfl, rfl, (fun h => by cases h), by decide, (fun _ => rfl), by decide, rfl⟩
theorem gm_175 : ex_gm mt_175 := ⟨gk_175, rfl, rfl, (fun h => by cases h), by decide, (fun _ => rfl), by decide, rfl⟩
theorem gm_176 : ex_gm mt_176 := ⟨gk_176, rfl, rfl, (fun h => by cases h), by decide, (fun _ => rfl), by decide, rfl⟩
theorem gm_177 : ex_gm mt_177 := ⟨gk_177, rfl, rfl, (fun h => by cases h), by decide, (fun _ => rfl), by decide, rfl⟩
theorem gm_178 : ex_gm mt_178 := ⟨gk_178, rfl, rfl, (fun h => by cases h), by decide, (fun _ => rfl), by decide, rfl⟩
theorem gm_179 : ex_gm mt_179 := ⟨gk_179, rfl, rfl, (fun h => by cases h), by decide, (fun _ => rfl), by decide, rfl⟩
theorem gm_180 : ex_gm mt_180 := ⟨gk_180, rfl, rfl, (fun h => by cases h), by decide, (fun _ => rfl), by decide, rfl⟩
theorem gm_181 : ex_gm mt_181 := ⟨gk_181, rfl, rfl, (fun h => by cases h), by decide, (fun _ => rfl), by decide, rfl⟩
theorem gm_182 : ex_gm mt_182 := ⟨gk_182, rfl, rfl, (fun h => by cases h), by decide, (fun _ => rfl), by decide, rfl⟩
theorem gm_183 : ex_gm mt_183 := ⟨gk_183, rfl, rfl, (fun h => by cases h), by decide, (fun _ => rfl), by decide, rfl⟩
theorem gm_184 : ex_gm mt_184 := ⟨gk_184, rfl, rfl, (fun h => by cases h), by decide, (fun _ => rfl), by decide, rfl⟩
theorem gm_185 : ex_gm mt_185 := ⟨gk_185, rfl, rfl, (fun h => by cases h), by decide, (fun _ => rfl), by decide, rfl⟩
theorem gm_186 : ex_gm mt_186 := ⟨gk_186, rfl, rfl, (fun h => by cases h), by decide, (fun _ => rfl), by decide, rfl⟩
theorem gm_187 : ex_gm mt_187 := ⟨gk_187, rfl, rfl, (fun h => by cases h), by decide, (fun _ => rfl), by decide, rfl⟩
theorem gm_188 : ex_gm mt_188 := ⟨gk_188, rfl, rfl, (fun h => by cases h), by decide, (fun _ => rfl), by decide, rfl⟩
theorem gm_189 : ex_gm mt_189 := ⟨gk_189, rfl, rfl, (fun h => by cases h), by decide, (fun _ => rfl), by decide, rfl⟩
theorem gm_190 : ex_gm mt_190 := ⟨gk_190, rfl, rfl, (fun h => by cases h), by decide, (fun _ => rfl), by decide, rfl⟩
theorem gm_191 : ex_gm mt_191 := ⟨gk_191, rfl, rfl, (fun h => by cases h), by decide, (fun _ => rfl), by decide, rfl⟩
theorem gm_192 : ex_gm mt_192 := ⟨gk_192, rfl, rfl, (fun h => by cases h), by decide, (fun _ => rfl), by decide, rfl⟩
theorem gm_193 : ex_gm mt_193 := ⟨gk_193, rfl, rfl, (fun h => by cases h), by decide, (fun _ => rfl), by decide, rfl⟩
theorem gm_194 : ex_gm mt_194 := ⟨gk_194, rfl, rfl, (fun h => by cases h), by decide, (fun _ => rfl), by decide, rfl⟩
theorem gm_195 : ex_gm mt_195 := ⟨gk_195, rfl, rfl, (fun h => by cases h), by decide, (fun _ => rfl), by decide, rfl⟩
theorem gm_196 : ex_gm mt_196 := ⟨gk_196, rfl, rfl, (fun h => by cases h), by decide, (fun _ => rfl), by decide, rfl⟩
theorem gm_197 : ex_gm mt_197 := ⟨gk_197, rfl, rfl, (fun h => by cases h), by decide, (fun _ => rfl), by decide, rfl⟩
theorem gm_198 : ex_gm mt_198 := ⟨gk_198, rfl, rfl, (fun h => by cases h), by decide, (fun _ => rfl), by decide, rfl⟩
theorem gm_199 : ex_gm mt_199 := ⟨gk_199, rfl, rfl, (fun h => by cases h), by decide, (fun _ => rfl), by decide, rfl⟩
theorem gm_200 : ex_gm mt_200 := ⟨gk_200, rfl, rfl, (fun h => by cases h), by decide, (fun _ => rfl), by decide, rfl⟩
theorem gm_201 : ex_gm mt_201 := ⟨gk_201, rfl, rfl, (fun h => by cases h), by decide, (fun _ => rfl), by decide, rfl⟩
theorem gm_202 : ex_gm mt_202 := ⟨gk_202, rfl, rfl, (fun h => by cases h), by decide, (fun _ => rfl), by decide, rfl⟩
theorem gm_203 : ex_gm mt_203 := ⟨gk_203, rfl, rfl, (fun h => by cases h), by decide, (fun _ => rfl), by decide, rfl⟩
theorem gm_204 : ex_gm mt_204 := ⟨gk_204, rfl, rfl, (fun h => by cases h), by decide, (fun _ => rfl), by decide, rfl⟩
theorem gm_205 : ex_gm mt_205 := ⟨gk_205, rfl, rfl, (fun h => by cases h), by decide, (fun _ => rfl), by decide, rfl⟩
theorem gm_206 : ex_gm mt_206 := ⟨gk_206, rfl, rfl, (fun h => by cases h), by decide, (fun _ => rfl), by decide, rfl⟩
theorem gm_207 : ex_gm mt_207 := ⟨gk_207, rfl, rfl, (fun h => by cases h), by decide, (fun _ => rfl), by decide, rfl⟩
theorem gm_208 : ex_gm mt_208 := ⟨gk_208, rfl, rfl, (fun h => by cases h), by decide, (fun h => absurd h (by decide)), by decide, rfl⟩
theorem gm_209 : ex_gm mt_209 := ⟨gk_209, rfl, rfl, (fun h => by cases h), by decide, (fun h => absurd h (by decide)), by decide, rfl⟩
theorem gm_210 : ex_gm mt_210 := ⟨gk_210, rfl, rfl, (fun h => by cases h), by decide, (fun _ => rfl), by decide, rfl⟩
theorem gm_211 : ex_gm mt_211 := ⟨gk_211, rfl, rfl, (fun h => by cases h), by decide, (fun _ => rfl), by decide, rfl⟩
theorem gm_212 : ex_gm mt_212 := ⟨gk_212, rfl, rfl, (fun h => by cases h), by decide, (fun _ => rfl), by decide, rfl⟩
theorem gm_213 : ex_gm mt_213 := ⟨gk_213, rfl, rfl, (fun h => by cases h), by decide, (fun _ => rfl), by decide, rfl⟩
theorem gm_214 : ex_gm mt_214 := ⟨gk_214, rfl, rfl, (fun h => by cases h), by decide, (fun _ => rfl), by decide, rfl⟩
theorem gm_215 : ex_gm mt_215 := ⟨gk_215, rfl, rfl, (fun h => by cases h), by decide, (fun h => absurd h (by decide)), by decide, rfl⟩
theorem gm_216 : ex_gm mt_216 := ⟨gk_216, rfl, rfl, (fun h => by cases h), by decide, (fun h => absurd h (by decide)), by decide, rfl⟩
theorem gm_217 : ex_gm mt_217 := ⟨gk_217, rfl, rfl, (fun h => by cases h), by decide, (fun h => absurd h (by decide)), by decide, rfl⟩
theorem gm_218 : ex_gm mt_218 := ⟨gk_218, rfl, rfl, (fun h => by cases h), by decide, (fun _ => rfl), by decide, rfl⟩
theorem gm_219 : ex_gm mt_219 := ⟨gk_219, rfl, rfl, (fun h => by cases h), by decide, (fun h => absurd h (by decide)), by decide, rfl⟩
theorem gm_220 : ex_gm mt_220 := ⟨gk_220, rfl, rfl, (fun h => by cases h), by decide, (fun h => absurd h (by decide)), by decide, rfl⟩
set_option maxRecDepth 100000 in
theorem ex_gms : ∀ M ∈ ex_lst, M = mt_0 ∨ ex_gm M := List.forall_mem_cons.mpr ⟨Or.inl rfl, List.forall_mem_cons.mpr ⟨Or.inr gm_1, List.forall_mem_cons.mpr ⟨Or.inr gm_2, List.forall_mem_cons.mpr ⟨Or.inr gm_3, List.forall_mem_cons.mpr ⟨Or.inr gm_4, List.forall_mem_cons.mpr ⟨Or.inr gm_5, List.forall_mem_cons.mpr ⟨Or.inr gm_6, List.forall_mem_cons.mpr ⟨Or.inr gm_7, List.forall_mem_cons.mpr ⟨Or.inr gm_8, List.forall_mem_cons.mpr ⟨Or.inr gm_9, List.forall_mem_cons.mpr ⟨Or.inr gm_10, List.forall_mem_cons.mpr ⟨Or.inr gm_11, List.forall_mem_cons.mpr ⟨Or.inr gm_12, List.forall_mem_cons.mpr ⟨Or.inr gm_13, List.forall_mem_cons.mpr ⟨Or.inr gm_14, List.forall_mem_cons.mpr ⟨Or.inr gm_15, List.forall_mem_cons.mpr ⟨Or.inr gm_16, List.forall_mem_cons.mpr ⟨Or.inr gm_17, List.forall_mem_cons.mpr ⟨Or.inr gm_18, List.forall_mem_cons.mpr ⟨Or.inr gm_19, List.forall_mem_cons.mpr ⟨Or.inr gm_20, List.forall_mem_cons.mpr ⟨Or.inr gm_21, List.forall_mem_cons.mpr ⟨Or.inr gm_22, List.forall_mem_cons.mpr ⟨Or.inr gm_23, List.forall_mem_cons.mpr ⟨Or.inr gm_24, List.forall_mem_cons.mpr ⟨Or.inr gm_25, List.forall_mem_cons.mpr ⟨Or.inr gm_26, List.forall_mem_cons.mpr ⟨Or.inr gm_27, List.forall_mem_cons.mpr ⟨Or.inr gm_28, List.forall_mem_cons.mpr ⟨Or.inr gm_29, List.forall_mem_cons.mpr ⟨Or.inr gm_30, List.forall_mem_cons.mpr ⟨Or.inr gm_31, List.forall_mem_cons.mpr ⟨Or.inr gm_32, List.forall_mem_cons.mpr ⟨Or.inr gm_33, List.forall_mem_cons.mpr ⟨Or.inr gm_34, List.forall_mem_cons.mpr ⟨Or.inr gm_35, List.forall_mem_cons.mpr ⟨Or.inr gm_36, List.forall_mem_cons.mpr ⟨Or.inr gm_37, List.forall_mem_cons.mpr ⟨Or.inr gm_38, List.forall_mem_cons.mpr ⟨Or.inr gm_39, List.forall_mem_cons.mpr ⟨Or.inr gm_40, List.forall_mem_cons.mpr ⟨Or.inr gm_41, List.forall_mem_cons.mpr ⟨Or.inr gm_42, List.forall_mem_cons.mpr ⟨Or.inr gm_43, List.forall_mem_cons.mpr ⟨Or.inr gm_44, List.forall_mem_cons.mpr ⟨Or.inr gm_45, List.forall_mem_cons.mpr ⟨Or.inr gm_46, List.forall_mem_cons.mpr ⟨Or.inr gm_47, List.forall_mem_cons.mpr ⟨Or.inr gm_48, List.forall_mem_cons.mpr ⟨Or.inr gm_49, List.forall_mem_cons.mpr ⟨Or.inr gm_50, List.forall_mem_cons.mpr ⟨Or.inr gm_51, List.forall_mem_cons.mpr ⟨Or.inr gm_52, List.forall_mem_cons.mpr ⟨Or.inr gm_53, List.forall_mem_cons.mpr ⟨Or.inr gm_54, List.forall_mem_cons.mpr ⟨Or.inr gm_55, List.forall_mem_cons.mpr ⟨Or.inr gm_56, List.forall_mem_cons.mpr ⟨Or.inr gm_57, List.forall_mem_cons.mpr ⟨Or.inr gm_58, List.forall_mem_cons.mpr ⟨Or.inr gm_59, List.forall_mem_cons.mpr ⟨Or.inr gm_60, List.forall_mem_cons.mpr ⟨Or.inr gm_61, List.forall_mem_cons.mpr ⟨Or.inr gm_62, List.forall_mem_cons.mpr ⟨Or.inr gm_63, List.forall_mem_cons.mpr ⟨Or.inr gm_64, List.forall_mem_cons.mpr ⟨Or.inr gm_65, List.forall_mem_cons.mpr ⟨Or.inr gm_66, List.forall_mem_cons.mpr ⟨Or.inr gm_67, List.forall_mem_cons.mpr ⟨Or.inr gm_68, List.forall_mem_cons.mpr ⟨Or.inr gm_69, List.forall_mem_cons.mpr ⟨Or.inr gm_70, List.forall_mem_cons.mpr ⟨Or.inr gm_71, List.forall_mem_cons.mpr ⟨Or.inr gm_72, List.forall_mem_cons.mpr ⟨Or.inr gm_73, List.forall_mem_cons.mpr ⟨Or.inr gm_74, List.forall_mem_cons.mpr ⟨Or.inr gm_75, List.forall_mem_cons.mpr ⟨Or.inr gm_76, List.forall_mem_cons.mpr ⟨Or.inr gm_77, List.forall_mem_cons.mpr ⟨Or.inr gm_78, List.forall_mem_cons.mpr ⟨Or.inr gm_79, List.forall_mem_cons.mpr ⟨Or.inr gm_80, List.forall_mem_cons.mpr ⟨Or.inr gm_81, List.forall_mem_cons.mpr ⟨Or.inr gm_82, List.forall_mem_cons.mpr ⟨Or.inr gm_83, List.forall_mem_cons.mpr ⟨Or.inr gm_84, List.forall_mem_cons.mpr ⟨Or.inr gm_85, List.forall_mem_cons.mpr ⟨Or.inr gm_86, List.forall_mem_cons.mpr ⟨Or.inr gm_87, List.forall_mem_cons.mpr ⟨Or.inr gm_88, List.forall_mem_cons.mpr ⟨Or.inr gm_89, List.forall_mem_cons.mpr ⟨Or.inr gm_90, List.forall_mem_cons.mpr ⟨Or.inr gm_91, List.forall_mem_cons.mpr ⟨Or.inr gm_92, List.forall_mem_cons.mpr ⟨Or.inr gm_93, List.forall_mem_cons.mpr ⟨Or.inr gm_94, List.forall_mem_cons.mpr ⟨Or.inr gm_95, List.forall_mem_cons.mpr ⟨Or.inr gm_96, List.forall_mem_cons.mpr ⟨Or.inr gm_97, List.forall_mem_cons.mpr ⟨Or.inr gm_98, List.forall_mem_cons.mpr ⟨Or.inr gm_99, List.forall_mem_cons.mpr ⟨Or.inr gm_100, List.forall_mem_cons.mpr ⟨Or.inr gm_101, List.forall_mem_cons.mpr ⟨Or.inr gm_102, List.forall_mem_cons.mpr ⟨Or.inr gm_103, List.forall_mem_cons.mpr ⟨Or.inr gm_104, List.forall_mem_cons.mpr ⟨Or.inr gm_105, List.forall_mem_cons.mpr ⟨Or.inr gm_106, List.forall_mem_cons.mpr ⟨Or.inr gm_107, List.forall_mem_cons.mpr ⟨Or.inr gm_108, List.forall_mem_cons.mpr ⟨Or.inr gm_109, List.forall_mem_cons.mpr ⟨Or.inr gm_110, List.forall_mem_cons.mpr ⟨Or.inr gm_111, List.forall_mem_cons.mpr ⟨Or.inr gm_112, List.forall_mem_cons.mpr ⟨Or.inr gm_113, List.forall_mem_cons.mpr ⟨Or.inr gm_114, List.forall_mem_cons.mpr ⟨Or.inr gm_115, List.forall_mem_cons.mpr ⟨Or.inr gm_116, List.forall_mem_cons.mpr ⟨Or.inr gm_117, List.forall_mem_cons.mpr ⟨Or.inr gm_118, List.forall_mem_cons.mpr ⟨Or.inr gm_119, List.forall_mem_cons.mpr ⟨Or.inr gm_120, List.forall_mem_cons.mpr ⟨Or.inr gm_121, List.forall_mem_cons.mpr ⟨Or.inr gm_122, List.forall_mem_cons.mpr ⟨Or.inr gm_123, List.forall_mem_cons.mpr ⟨Or.inr gm_124, List.forall_mem_cons.mpr ⟨Or.inr gm_125, List.forall_mem_cons.mpr ⟨Or.inr gm_126, List.forall_mem_cons.mpr ⟨Or.inr gm_127, List.forall_mem_cons.mpr ⟨Or.inr gm_128, List.forall_mem_cons.mpr ⟨Or.inr gm_129, List.forall_mem_cons.mpr ⟨Or.inr gm_130, List.forall_mem_cons.mpr ⟨Or.inr gm_131, List.forall_mem_cons.mpr ⟨Or.inr gm_132, List.forall_mem_cons.mpr ⟨Or.inr gm_133, List.forall_mem_cons.mpr ⟨Or.inr gm_134, List.forall_mem_cons.mpr ⟨Or.inr gm_135, List.forall_mem_cons.mpr ⟨Or.inr gm_136, List.forall_mem_cons.mpr ⟨Or.inr gm_137, List.forall_mem_cons.mpr ⟨Or.inr gm_138, List.forall_mem_cons.mpr ⟨Or.inr gm_139, List.forall_mem_cons.mpr ⟨Or.inr gm_140, List.forall_mem_cons.mpr ⟨Or.inr gm_141, List.forall_mem_cons.mpr ⟨Or.inr gm_142, List.forall_mem_cons.mpr ⟨Or.inr gm_143, List.forall_mem_cons.mpr ⟨Or.inr gm_144, List.forall_mem_cons.mpr ⟨Or.inr gm_145, List.forall_mem_cons.mpr ⟨Or.inr gm_146, List.forall_mem_cons.mpr ⟨Or.inr gm_147, List.forall_mem_cons.mpr ⟨Or.inr gm_148, List.forall_mem_cons.mpr ⟨Or.inr gm_149, List.forall_mem_cons.mpr ⟨Or.inr gm_150, List.forall_mem_cons.mpr ⟨Or.inr gm_151, List.forall_mem_cons.mpr ⟨Or.inr gm_152, List.forall_mem_cons.mpr ⟨Or.inr gm_153, List.forall_mem_cons.mpr ⟨Or.inr gm_154, List.forall_mem_cons.mpr ⟨Or.inr gm_155, List.forall_mem_cons.mpr ⟨Or.inr gm_156, List.forall_mem_cons.mpr ⟨Or.inr gm_157, List.forall_mem_cons.mpr ⟨Or.inr gm_158, List.forall_mem_cons.mpr ⟨Or.inr gm_159, List.forall_mem_cons.mpr ⟨Or.inr gm_160, List.forall_mem_cons.mpr ⟨Or.inr gm_161, List.forall_mem_cons.mpr ⟨Or.inr gm_162, List.forall_mem_cons.mpr ⟨Or.inr gm_163, List.forall_mem_cons.mpr ⟨Or.inr gm_164, List.forall_mem_cons.mpr ⟨Or.inr gm_165, List.forall_mem_cons.mpr ⟨Or.inr gm_166, List.forall_mem_cons.mpr ⟨Or.inr gm_167, List.forall_mem_cons.mpr ⟨Or.inr gm_168, List.forall_mem_cons.mpr ⟨Or.inr gm_169, List.forall_mem_cons.mpr ⟨Or.inr gm_170, List.forall_mem_cons.mpr ⟨Or.inr gm_171, List.forall_mem_cons.mpr ⟨Or.inr gm_172, List.forall_mem_cons.mpr ⟨Or.inr gm_173, List.forall_mem_cons.mpr ⟨Or.inr gm_174, List.forall_mem_cons.mpr ⟨Or.inr gm_175, List.forall_mem_cons.mpr ⟨Or.inr gm_176, List.forall_mem_cons.mpr ⟨Or.inr gm_177, List.forall_mem_cons.mpr ⟨Or.inr gm_178, List.forall_mem_cons.mpr ⟨Or.inr gm_179, List.forall_mem_cons.mpr ⟨Or.inr gm_180, List.forall_mem_cons.mpr ⟨Or.inr gm_181, List.forall_mem_cons.mpr ⟨Or.inr gm_182, List.forall_mem_cons.mpr ⟨Or.inr gm_183, List.forall_mem_cons.mpr ⟨Or.inr gm_184, List.forall_mem_cons.mpr ⟨Or.inr gm_185, List.forall_mem_cons.mpr ⟨Or.inr gm_186, List.forall_mem_cons.mpr ⟨Or.inr gm_187, List.forall_mem_cons.mpr ⟨Or.inr gm_188, List.forall_mem_cons.mpr ⟨Or.inr gm_189, List.forall_mem_cons.mpr ⟨Or.inr gm_190, List.forall_mem_cons.mpr ⟨Or.inr gm_191, List.forall_mem_cons.mpr ⟨Or.inr gm_192, List.forall_mem_cons.mpr ⟨Or.inr gm_193, List.forall_mem_cons.mpr ⟨Or.inr gm_194, List.forall_mem_cons.mpr ⟨Or.inr gm_195, List.forall_mem_cons.mpr ⟨Or.inr gm_196, List.forall_mem_cons.mpr ⟨Or.inr gm_197, List.forall_mem_cons.mpr ⟨Or.inr gm_198, List.forall_mem_cons.mpr ⟨Or.inr gm_199, List.forall_mem_cons.mpr ⟨Or.inr gm_200, List.forall_mem_cons.mpr ⟨Or.inr gm_201, List.forall_mem_cons.mpr ⟨Or.inr gm_202, List.forall_mem_cons.mpr ⟨Or.inr gm_203, List.forall_mem_cons.mpr ⟨Or.inr gm_204, List.forall_mem_cons.mpr ⟨Or.inr gm_205, List.forall_mem_cons.mpr ⟨Or.inr gm_206, List.forall_mem_cons.mpr ⟨Or.inr gm_207, List.forall_mem_cons.mpr ⟨Or.inr gm_208, List.forall_mem_cons.mpr ⟨Or.inr gm_209, List.forall_mem_cons.mpr ⟨Or.inr gm_210, List.forall_mem_cons.mpr ⟨Or.inr gm_211, List.forall_mem_cons.mpr ⟨Or.inr gm_212, List.forall_mem_cons.mpr ⟨Or.inr gm_213, List.forall_mem_cons.mpr ⟨Or.inr gm_214, List.forall_mem_cons.mpr ⟨Or.inr gm_215, List.forall_mem_cons.mpr ⟨Or.inr gm_216, List.forall_mem_cons.mpr ⟨Or.inr gm_217, List.forall_mem_cons.mpr ⟨Or.inr gm_218, List.forall_mem_cons.mpr ⟨Or.inr gm_219, List.forall_mem_cons.mpr ⟨Or.inr gm_220, fun _ h => absurd h List.not_mem_nil⟩⟩⟩⟩⟩⟩⟩⟩⟩⟩⟩⟩⟩⟩⟩⟩⟩⟩⟩⟩⟩⟩⟩⟩⟩⟩⟩⟩⟩⟩⟩⟩⟩⟩⟩⟩⟩⟩⟩⟩⟩⟩⟩⟩⟩⟩⟩⟩⟩⟩⟩⟩⟩⟩⟩⟩⟩⟩⟩⟩⟩⟩⟩⟩⟩⟩⟩⟩⟩⟩⟩⟩⟩⟩⟩⟩⟩⟩⟩⟩⟩⟩⟩⟩⟩⟩⟩⟩⟩⟩⟩⟩⟩⟩⟩⟩⟩⟩⟩⟩⟩⟩⟩⟩⟩⟩⟩⟩⟩⟩⟩⟩⟩⟩⟩⟩⟩⟩⟩⟩⟩⟩⟩⟩⟩⟩⟩⟩⟩⟩⟩⟩⟩⟩⟩⟩⟩⟩⟩⟩⟩⟩⟩⟩⟩⟩⟩⟩⟩⟩⟩⟩⟩⟩⟩⟩⟩⟩⟩⟩⟩⟩⟩⟩⟩⟩⟩⟩⟩⟩⟩⟩⟩⟩⟩⟩⟩⟩⟩⟩⟩⟩⟩⟩⟩⟩⟩⟩⟩⟩⟩⟩⟩⟩⟩⟩⟩⟩⟩⟩⟩⟩⟩⟩⟩⟩⟩⟩⟩⟩⟩⟩⟩⟩⟩⟩⟩⟩⟩⟩⟩
theorem cp_0 : plainName (ex_cn 0) = true ∧ ex_cn 0 ≠ "java/lang/invoke/MethodHandle" ∧ ex_cn 0 ≠ "java/lang/invoke/VarHandle" ∧ ex_g3 lw_ds (ex_ini 0) = some (8, 0, 0, 0, 0) := ⟨by decide, by decide, by decide, rfl⟩
theorem cp_1 : plainName (ex_cn 1) = true ∧ ex_cn 1 ≠ "java/lang/invoke/MethodHandle" ∧ ex_cn 1 ≠ "java/lang/invoke/VarHandle" ∧ ex_g3 lw_ds (ex_ini 1) = some (8, 1, 0, 0, 0) := ⟨by decide, by decide, by decide, rfl⟩
theorem cp_2 : plainName (ex_cn 2) = true ∧ ex_cn 2 ≠ "java/lang/invoke/MethodHandle" ∧ ex_cn 2 ≠ "java/lang/invoke/VarHandle" ∧ ex_g3 lw_ds (ex_ini 2) = some (8, 2, 0, 0, 0) := ⟨by decide, by decide, by decide, rfl⟩
theorem cp_3 : plainName (ex_cn 3) = true ∧ ex_cn 3 ≠ "java/lang/invoke/MethodHandle" ∧ ex_cn 3 ≠ "java/lang/invoke/VarHandle" ∧ ex_g3 lw_ds (ex_ini 3) = some (8, 3, 0, 0, 0) := ⟨by decide, by decide, by decide, rfl⟩
theorem cp_4 : plainName (ex_cn 4) = true ∧ ex_cn 4 ≠ "java/lang/invoke/MethodHandle" ∧ ex_cn 4 ≠ "java/lang/invoke/VarHandle" ∧ ex_g3 lw_ds (ex_ini 4) = some (8, 4, 0, 0, 0) := ⟨by decide, by decide, by decide, rfl⟩
theorem cp_5 : plainName (ex_cn 5) = true ∧ ex_cn 5 ≠ "java/lang/invoke/MethodHandle" ∧ ex_cn 5 ≠ "java/lang/invoke/VarHandle" ∧ ex_g3 lw_ds (ex_ini 5) = some (8, 5, 0, 0, 0) := ⟨by decide, by decide, by decide, rfl⟩
theorem cp_6 : plainName (ex_cn 6) = true ∧ ex_cn 6 ≠ "java/lang/invoke/MethodHandle" ∧ ex_cn 6 ≠ "java/lang/invoke/VarHandle" ∧ ex_g3 lw_ds (ex_ini 6) = some (8, 6, 0, 0, 0) := ⟨by decide, by decide, by decide, rfl⟩
theorem cp_7 : plainName (ex_cn 7) = true ∧ ex_cn 7 ≠ "java/lang/invoke/MethodHandle" ∧ ex_cn 7 ≠ "java/lang/invoke/VarHandle" ∧ ex_g3 lw_ds (ex_ini 7) = some (8, 7, 0, 0, 0) := ⟨by decide, by decide, by decide, rfl⟩
theorem cp_8 : plainName (ex_cn 8) = true ∧ ex_cn 8 ≠ "java/lang/invoke/MethodHandle" ∧ ex_cn 8 ≠ "java/lang/invoke/VarHandle" ∧ ex_g3 lw_ds (ex_ini 8) = some (8, 8, 0, 0, 0) := ⟨by decide, by decide, by decide, rfl⟩
theorem cp_9 : plainName (ex_cn 9) = true ∧ ex_cn 9 ≠ "java/lang/invoke/MethodHandle" ∧ ex_cn 9 ≠ "java/lang/invoke/VarHandle" ∧ ex_g3 lw_ds (ex_ini 9) = some (8, 9, 0, 0, 0) := ⟨by decide, by decide, by decide, rfl⟩
theorem cp_10 : plainName (ex_cn 10) = true ∧ ex_cn 10 ≠ "java/lang/invoke/MethodHandle" ∧ ex_cn 10 ≠ "java/lang/invoke/VarHandle" ∧ ex_g3 lw_ds (ex_ini 10) = some (8, 10, 0, 0, 0) := ⟨by decide, by decide, by decide, rfl⟩
theorem cp_11 : plainName (ex_cn 11) = true ∧ ex_cn 11 ≠ "java/lang/invoke/MethodHandle" ∧ ex_cn 11 ≠ "java/lang/invoke/VarHandle" ∧ ex_g3 lw_ds (ex_ini 11) = some (8, 11, 0, 0, 0) := ⟨by decide, by decide, by decide, rfl⟩
theorem cp_12 : plainName (ex_cn 12) = true ∧ ex_cn 12 ≠ "java/lang/invoke/MethodHandle" ∧ ex_cn 12 ≠ "java/lang/invoke/VarHandle" ∧ ex_g3 lw_ds (ex_ini 12) = some (8, 12, 0, 0, 0) := ⟨by decide, by decide, by decide, rfl⟩
theorem cp_13 : plainName (ex_cn 13) = true ∧ ex_cn 13 ≠ "java/lang/invoke/MethodHandle" ∧ ex_cn 13 ≠ "java/lang/invoke/VarHandle" ∧ ex_g3 lw_ds (ex_ini 13) = some (8, 13, 0, 0, 0) := ⟨by decide, by decide, by decide, rfl⟩
theorem cp_14 : plainName (ex_cn 14) = true ∧ ex_cn 14 ≠ "java/lang/invoke/MethodHandle" ∧ ex_cn 14 ≠ "java/lang/invoke/VarHandle" ∧ ex_g3 lw_ds (ex_ini 14) = some (8, 14, 0, 0, 0) := ⟨by decide, by decide, by decide, rfl⟩
theorem ex_cps : ∀ c, c < 15 → plainName (ex_cn c) = true ∧ ex_cn c ≠ "java/lang/invoke/MethodHandle" ∧ ex_cn c ≠ "java/lang/invoke/VarHandle" ∧ ex_g3 lw_ds (ex_ini c) = some (8, c, 0, 0, 0) := by
  intro c h
  match c, h with
  | 0, _ => exact cp_0
  | 1, _ => exact cp_1
  | 2, _ => exact cp_2
  | 3, _ => exact cp_3
  | 4, _ => exact cp_4
  | 5, _ => exact cp_5
  | 6, _ => exact cp_6
  | 7, _ => exact cp_7
  | 8, _ => exact cp_8
  | 9, _ => exact cp_9
  | 10, _ => exact cp_10
  | 11, _ => exact cp_11
  | 12, _ => exact cp_12
  | 13, _ => exact cp_13
  | 14, _ => exact cp_14
  | n + 15, h => exact absurd h (by omega)

/-! CONTRACTS found by wip/ai/an.py, each held by the kernel. -/
def hka02_0 : Int × Int := (.negSucc 2147483647, .ofNat 2147483647)
def hka02_1 : ai_N := (.negSucc 2147483647, .ofNat 2147483647, [(0, .ofNat 0, .ofNat 0)])
def hka02_2 : ai_V := .inl (true, hka02_1)
def hka02_3 : ai_V := .inr none
def hka02_4 : ai_N := (.ofNat 1, .ofNat 1, [])
def hka02_5 : ai_V := .inl (true, hka02_4)
def hka02_6 : ai_N := (.ofNat 16, .ofNat 16, [])
def hka02_7 : ai_V := .inl (true, hka02_6)
def hka02_8 : Bool × Option ai_C := (false, none)
def hka02_9 : ai_W := [hka02_8, hka02_8, hka02_8, hka02_8, hka02_8, hka02_8, hka02_8, hka02_8, hka02_8, hka02_8, hka02_8, hka02_8, hka02_8, hka02_8, hka02_8, hka02_8, hka02_8, hka02_8, hka02_8, hka02_8, hka02_8, hka02_8, hka02_8, hka02_8, hka02_8, hka02_8, hka02_8, hka02_8, hka02_8, hka02_8, hka02_8, hka02_8, hka02_8, hka02_8, hka02_8, hka02_8, hka02_8, hka02_8, hka02_8, hka02_8, hka02_8, hka02_8, hka02_8, hka02_8, hka02_8, hka02_8, hka02_8, hka02_8, hka02_8, hka02_8, hka02_8, hka02_8, hka02_8, hka02_8, hka02_8, hka02_8, hka02_8, hka02_8, hka02_8, hka02_8, hka02_8, hka02_8, hka02_8, hka02_8, hka02_8, hka02_8, hka02_8, hka02_8, hka02_8, hka02_8, hka02_8, hka02_8, hka02_8, hka02_8, hka02_8, hka02_8]
def hka02_10 : ai_N := (.ofNat 0, .ofNat 0, [])
def hka02_11 : ai_V := .inl (false, hka02_10)
def hka02_12 : Int × Int := (.ofNat 17, .ofNat 2147483647)
def hka02_13 : ai_V := .inl (false, hka02_4)
def hka02_14 : Int × Int := (.ofNat 16, .ofNat 16)
def hka02_15 : Int × Int := (.ofNat 2, .ofNat 15)
def hka02_16 : Int × Int := (.ofNat 1, .ofNat 1)
def hka02_17 : Int × Int := (.negSucc 2147483647, .ofNat 0)
/-- NeverAgainModel.in -/
def ka_292 : ai_K := (93, 0, ([hka02_0], [hka02_2, hka02_3, hka02_5, hka02_3, hka02_7, hka02_3], [], hka02_9), [.inl 0], [(some hka02_11, [hka02_12], []), (some hka02_13, [hka02_14], []), (some hka02_13, [hka02_15], []), (some hka02_13, [hka02_16], []), (some hka02_11, [hka02_17], [])])
def kan_292 : List ai_Nd := []
set_option maxRecDepth 1000000 in
theorem kak_292 : ai_ck [] [] ka_292 [.inl 100000] kan_292 12 = true := by decide +kernel
theorem kah_292 : ai_holds ka_292 := ai_thm kak_292 ai_nil
def hka02_18 : Int × Int := (.ofNat 4, .ofNat 16)
def hka02_19 : Int × Int := (.ofNat 1, .ofNat 4)
def hka02_20 : Int × Int := (.ofNat 0, .ofNat 12)
def hka02_21 : Int × Int := (.ofNat 0, .ofNat 16)
def hka02_22 : Int × Int := (.ofNat 0, .ofNat 4)
def hka02_23 : Int × Int := (.negSucc 3, .ofNat 3)
def hka02_24 : Int × Int := (.ofNat 0, .ofNat 400)
def hka02_25 : Int × Int := (.ofNat 0, .ofNat 3)
def hka02_26 : Int × Int := (.ofNat 0, .ofNat 6)
def hka02_27 : Int × Int := (.ofNat 0, .ofNat 130)
def hka02_28 : ai_E := [hka02_18, hka02_19, hka02_20, hka02_21, hka02_22, hka02_0, hka02_21, hka02_23, hka02_24, hka02_24, hka02_24, hka02_25, hka02_0, hka02_26, hka02_24, hka02_27, hka02_0, hka02_22]
def hka02_29 : ai_V := .inr (some (.ref 59))
def hka02_30 : ai_N := (.ofNat 3, .ofNat 3, [])
def hka02_31 : ai_V := .inl (false, hka02_30)
def hka02_32 : ai_V := .inr (some (.ref 60))
def hka02_33 : ai_V := .inr (some (.ref 61))
def hka02_34 : ai_N := (.ofNat 4, .ofNat 16, [(0, .ofNat 0, .ofNat 0)])
def hka02_35 : ai_V := .inl (false, hka02_34)
def hka02_36 : ai_N := (.ofNat 1, .ofNat 4, [(1, .ofNat 0, .ofNat 0)])
def hka02_37 : ai_V := .inl (false, hka02_36)
def hka02_38 : ai_V := .inr (some (.ref 62))
def hka02_39 : ai_V := .inr (some (.ref 63))
def hka02_40 : ai_N := (.ofNat 0, .ofNat 12, [(2, .ofNat 0, .ofNat 0)])
def hka02_41 : ai_V := .inl (false, hka02_40)
def hka02_42 : ai_V := .inr (some (.ref 64))
def hka02_43 : ai_N := (.ofNat 0, .ofNat 16, [(3, .ofNat 0, .ofNat 0)])
def hka02_44 : ai_V := .inl (false, hka02_43)
def hka02_45 : ai_N := (.ofNat 0, .ofNat 4, [(4, .ofNat 0, .ofNat 0)])
def hka02_46 : ai_V := .inl (false, hka02_45)
def hka02_47 : ai_V := .inr (some (.ref 65))
def hka02_48 : ai_N := (.negSucc 2147483647, .ofNat 2147483647, [(5, .ofNat 0, .ofNat 0)])
def hka02_49 : ai_V := .inl (false, hka02_48)
def hka02_50 : ai_N := (.ofNat 0, .ofNat 16, [(6, .ofNat 0, .ofNat 0)])
def hka02_51 : ai_V := .inl (false, hka02_50)
def hka02_52 : ai_N := (.negSucc 3, .ofNat 3, [(7, .ofNat 0, .ofNat 0)])
def hka02_53 : ai_V := .inl (false, hka02_52)
def hka02_54 : ai_V := .inr (some (.ref 66))
def hka02_55 : ai_N := (.ofNat 0, .ofNat 400, [(8, .ofNat 0, .ofNat 0)])
def hka02_56 : ai_V := .inl (false, hka02_55)
def hka02_57 : ai_N := (.ofNat 0, .ofNat 400, [(9, .ofNat 0, .ofNat 0)])
def hka02_58 : ai_V := .inl (false, hka02_57)
def hka02_59 : ai_N := (.ofNat 0, .ofNat 400, [(10, .ofNat 0, .ofNat 0)])
def hka02_60 : ai_V := .inl (false, hka02_59)
def hka02_61 : ai_N := (.ofNat 0, .ofNat 3, [(11, .ofNat 0, .ofNat 0)])
def hka02_62 : ai_V := .inl (false, hka02_61)
def hka02_63 : ai_N := (.negSucc 2147483647, .ofNat 2147483647, [(12, .ofNat 0, .ofNat 0)])
def hka02_64 : ai_V := .inl (false, hka02_63)
def hka02_65 : ai_N := (.ofNat 0, .ofNat 6, [(13, .ofNat 0, .ofNat 0)])
def hka02_66 : ai_V := .inl (false, hka02_65)
def hka02_67 : ai_N := (.ofNat 0, .ofNat 400, [(14, .ofNat 0, .ofNat 0)])
def hka02_68 : ai_V := .inl (false, hka02_67)
def hka02_69 : ai_V := .inr (some (.ref 67))
def hka02_70 : ai_N := (.ofNat 0, .ofNat 130, [(15, .ofNat 0, .ofNat 0)])
def hka02_71 : ai_V := .inl (false, hka02_70)
def hka02_72 : ai_V := .inr (some (.ref 68))
def hka02_73 : ai_V := .inr (some (.ref 69))
def hka02_74 : ai_N := (.negSucc 2147483647, .ofNat 2147483647, [(16, .ofNat 0, .ofNat 0)])
def hka02_75 : ai_V := .inl (false, hka02_74)
def hka02_76 : ai_V := .inr (some (.ref 70))
def hka02_77 : ai_V := .inr (some (.ref 71))
def hka02_78 : ai_V := .inr (some (.ref 72))
def hka02_79 : ai_V := .inr (some (.ref 73))
def hka02_80 : ai_V := .inr (some (.ref 74))
def hka02_81 : ai_V := .inr (some (.ref 75))
def hka02_82 : ai_N := (.ofNat 0, .ofNat 4, [(17, .ofNat 0, .ofNat 0)])
def hka02_83 : ai_V := .inl (false, hka02_82)
def hka02_84 : ai_C := .inr (.inr (8, [hka02_32, hka02_33, hka02_35, hka02_37, hka02_38, hka02_39, hka02_41, hka02_42, hka02_44, hka02_46, hka02_47, hka02_49, hka02_51, hka02_53, hka02_54, hka02_56, hka02_58, hka02_60, hka02_62, hka02_64, hka02_66, hka02_68, hka02_69, hka02_71, hka02_72, hka02_73, hka02_75, hka02_76, hka02_77, hka02_78, hka02_79, hka02_80, hka02_81, hka02_83]))
def hka02_85 : Bool × Option ai_C := (false, some hka02_84)
def hka02_86 : ai_W := [hka02_8, hka02_8, hka02_8, hka02_8, hka02_8, hka02_8, hka02_8, hka02_8, hka02_8, hka02_8, hka02_8, hka02_8, hka02_8, hka02_8, hka02_8, hka02_8, hka02_8, hka02_8, hka02_8, hka02_8, hka02_8, hka02_8, hka02_8, hka02_8, hka02_8, hka02_8, hka02_8, hka02_8, hka02_8, hka02_8, hka02_8, hka02_8, hka02_8, hka02_8, hka02_8, hka02_8, hka02_8, hka02_8, hka02_8, hka02_8, hka02_8, hka02_8, hka02_8, hka02_8, hka02_8, hka02_8, hka02_8, hka02_8, hka02_8, hka02_8, hka02_8, hka02_8, hka02_8, hka02_8, hka02_8, hka02_8, hka02_8, hka02_8, hka02_8, hka02_85, hka02_8, hka02_8, hka02_8, hka02_8, hka02_8, hka02_8, hka02_8, hka02_8, hka02_8, hka02_8, hka02_8, hka02_8, hka02_8, hka02_8, hka02_8, hka02_8]
def hka02_87 : Int × Int := (.ofNat 0, .ofNat 0)
def hka02_88 : ai_E := [hka02_18, hka02_19, hka02_20, hka02_21, hka02_22, hka02_0, hka02_21, hka02_23, hka02_24, hka02_24, hka02_24, hka02_25, hka02_0, hka02_87, hka02_24, hka02_27, hka02_0, hka02_22]
def hka02_89 : ai_C := .inr (.inr (8, [hka02_32, hka02_33, hka02_35, hka02_37, hka02_38, hka02_39, hka02_41, hka02_42, hka02_44, hka02_46, hka02_47, hka02_49, hka02_51, hka02_53, hka02_54, hka02_56, hka02_58, hka02_60, hka02_62, hka02_64, hka02_31, hka02_60, hka02_69, hka02_71, hka02_72, hka02_73, hka02_75, hka02_76, hka02_77, hka02_78, hka02_79, hka02_80, hka02_81, hka02_83]))
def hka02_90 : Int × Int := (.ofNat 1, .ofNat 6)
def hka02_91 : ai_E := [hka02_18, hka02_19, hka02_20, hka02_21, hka02_22, hka02_0, hka02_21, hka02_23, hka02_24, hka02_24, hka02_24, hka02_25, hka02_0, hka02_90, hka02_24, hka02_27, hka02_0, hka02_22]
/-- NeverAgainModel.needs -/
def ka_293 : ai_K := (98, 0, (hka02_28, [hka02_29, hka02_11, hka02_31], [], hka02_86), [.inr (59, 2), .inr (59, 3), .inr (59, 6), .inr (59, 8), .inr (59, 9), .inr (59, 11), .inr (59, 12), .inr (59, 13), .inr (59, 15), .inr (59, 16), .inr (59, 17), .inr (59, 18), .inr (59, 19), .inr (59, 20), .inr (59, 21), .inr (59, 23), .inr (59, 26), .inr (59, 33)], [(none, hka02_88, [(59, hka02_89)]), (none, hka02_91, [])])
def kan_293 : List ai_Nd := []
set_option maxRecDepth 1000000 in
theorem kak_293 : ai_ck [] [] ka_293 [.inl 100000] kan_293 14 = true := by decide +kernel
theorem kah_293 : ai_holds ka_293 := ai_thm kak_293 ai_nil
/-- NeverAgainModel.needs -/
def ka_294 : ai_K := (98, 0, ([], [hka02_29, hka02_13, hka02_31], [], hka02_9), [], [(none, [], [])])
def kan_294 : List ai_Nd := []
set_option maxRecDepth 1000000 in
theorem kak_294 : ai_ck [] [] ka_294 [.inl 100000] kan_294 4 = true := by decide +kernel
theorem kah_294 : ai_holds ka_294 := ai_thm kak_294 ai_nil
def hka02_92 : ai_V := .inl (false, hka02_6)
def hka02_93 : Int × Int := (.ofNat 2, .ofNat 2)
def hka02_94 : ai_E := [hka02_18, hka02_19, hka02_20, hka02_21, hka02_22, hka02_0, hka02_21, hka02_23, hka02_24, hka02_24, hka02_24, hka02_93, hka02_0, hka02_87, hka02_24, hka02_27, hka02_0, hka02_22]
def hka02_95 : ai_N := (.ofNat 2, .ofNat 2, [(11, .ofNat 0, .ofNat 0)])
def hka02_96 : ai_V := .inl (false, hka02_95)
def hka02_97 : ai_C := .inr (.inr (8, [hka02_32, hka02_33, hka02_35, hka02_37, hka02_38, hka02_39, hka02_41, hka02_42, hka02_44, hka02_46, hka02_47, hka02_49, hka02_51, hka02_53, hka02_54, hka02_56, hka02_58, hka02_60, hka02_96, hka02_64, hka02_31, hka02_60, hka02_69, hka02_71, hka02_72, hka02_73, hka02_75, hka02_76, hka02_77, hka02_78, hka02_79, hka02_80, hka02_81, hka02_83]))
def hka02_98 : ai_N := (.ofNat 1, .ofNat 1, [(12, .ofNat 0, .ofNat 0)])
def hka02_99 : ai_V := .inl (false, hka02_98)
def hka02_100 : ai_E := [hka02_18, hka02_19, hka02_20, hka02_21, hka02_22, hka02_0, hka02_21, hka02_23, hka02_24, hka02_24, hka02_24, hka02_93, hka02_16, hka02_87, hka02_24, hka02_27, hka02_0, hka02_22]
def hka02_101 : ai_N := (.ofNat 2, .ofNat 15, [(12, .ofNat 0, .ofNat 0)])
def hka02_102 : ai_V := .inl (false, hka02_101)
def hka02_103 : ai_E := [hka02_18, hka02_19, hka02_20, hka02_21, hka02_22, hka02_0, hka02_21, hka02_23, hka02_24, hka02_24, hka02_24, hka02_93, hka02_15, hka02_87, hka02_24, hka02_27, hka02_0, hka02_22]
def hka02_104 : ai_N := (.ofNat 16, .ofNat 16, [(12, .ofNat 0, .ofNat 0)])
def hka02_105 : ai_V := .inl (false, hka02_104)
def hka02_106 : ai_E := [hka02_18, hka02_19, hka02_20, hka02_21, hka02_22, hka02_0, hka02_21, hka02_23, hka02_24, hka02_24, hka02_24, hka02_93, hka02_14, hka02_87, hka02_24, hka02_27, hka02_0, hka02_22]
def hka02_107 : ai_N := (.ofNat 2, .ofNat 2, [])
def hka02_108 : ai_V := .inl (false, hka02_107)
def hka02_109 : ai_C := .inr (.inr (8, [hka02_32, hka02_33, hka02_35, hka02_37, hka02_38, hka02_39, hka02_41, hka02_42, hka02_44, hka02_46, hka02_47, hka02_49, hka02_51, hka02_53, hka02_54, hka02_56, hka02_58, hka02_60, hka02_62, hka02_64, hka02_108, hka02_60, hka02_69, hka02_71, hka02_72, hka02_73, hka02_75, hka02_76, hka02_77, hka02_78, hka02_79, hka02_80, hka02_81, hka02_83]))
/-- NeverAgainModel.looked -/
def ka_295 : ai_K := (214, 1, (hka02_28, [hka02_29, hka02_13, hka02_92], [], hka02_86), [.inr (59, 2), .inr (59, 3), .inr (59, 6), .inr (59, 8), .inr (59, 9), .inr (59, 11), .inr (59, 12), .inr (59, 13), .inr (59, 15), .inr (59, 16), .inr (59, 17), .inr (59, 18), .inr (59, 19), .inr (59, 20), .inr (59, 21), .inr (59, 23), .inr (59, 26), .inr (59, 33)], [(some hka02_11, hka02_94, [(59, hka02_97)]), (some hka02_99, hka02_100, []), (some hka02_102, hka02_103, []), (some hka02_105, hka02_106, []), (some hka02_11, hka02_88, [(59, hka02_109)]), (some hka02_11, hka02_91, [])])
def kan_295 : List ai_Nd := []
set_option maxRecDepth 1000000 in
theorem kak_295 : ai_ck [ka_286, ka_294, ka_291, ka_293, ka_292] [] ka_295 [.inl 100000] kan_295 34 = true := by decide +kernel
theorem kah_295 : ai_holds ka_295 := ai_thm kak_295 (ai_cons kah_286 (ai_cons kah_294 (ai_cons kah_291 (ai_cons kah_293 (ai_cons kah_292 ai_nil)))))
def hka02_110 : ai_V := .inl (true, hka02_10)
def hka02_111 : ai_V := .inl (true, hka02_30)
def hka02_112 : Int × Int := (.ofNat 4, .ofNat 2147483647)
def hka02_113 : Int × Int := (.ofNat 3, .ofNat 3)
def hka02_114 : Int × Int := (.ofNat 1, .ofNat 2)
def hka02_115 : Int × Int := (.negSucc 2147483647, .negSucc 0)
/-- NeverAgainModel.in -/
def ka_296 : ai_K := (93, 0, ([hka02_0], [hka02_2, hka02_3, hka02_110, hka02_3, hka02_111, hka02_3], [], hka02_9), [.inl 0], [(some hka02_11, [hka02_112], []), (some hka02_13, [hka02_113], []), (some hka02_13, [hka02_114], []), (some hka02_13, [hka02_87], []), (some hka02_11, [hka02_115], [])])
def kan_296 : List ai_Nd := []
set_option maxRecDepth 1000000 in
theorem kak_296 : ai_ck [] [] ka_296 [.inl 100000] kan_296 12 = true := by decide +kernel
theorem kah_296 : ai_holds ka_296 := ai_thm kak_296 ai_nil
def hka02_116 : ai_N := (.ofNat 0, .ofNat 0, [(12, .ofNat 0, .ofNat 0)])
def hka02_117 : ai_V := .inl (false, hka02_116)
def hka02_118 : ai_E := [hka02_18, hka02_19, hka02_20, hka02_21, hka02_22, hka02_0, hka02_21, hka02_23, hka02_24, hka02_24, hka02_24, hka02_93, hka02_87, hka02_87, hka02_24, hka02_27, hka02_0, hka02_22]
def hka02_119 : ai_N := (.ofNat 1, .ofNat 2, [(12, .ofNat 0, .ofNat 0)])
def hka02_120 : ai_V := .inl (false, hka02_119)
def hka02_121 : ai_E := [hka02_18, hka02_19, hka02_20, hka02_21, hka02_22, hka02_0, hka02_21, hka02_23, hka02_24, hka02_24, hka02_24, hka02_93, hka02_114, hka02_87, hka02_24, hka02_27, hka02_0, hka02_22]
def hka02_122 : ai_N := (.ofNat 3, .ofNat 3, [(12, .ofNat 0, .ofNat 0)])
def hka02_123 : ai_V := .inl (false, hka02_122)
def hka02_124 : ai_E := [hka02_18, hka02_19, hka02_20, hka02_21, hka02_22, hka02_0, hka02_21, hka02_23, hka02_24, hka02_24, hka02_24, hka02_93, hka02_113, hka02_87, hka02_24, hka02_27, hka02_0, hka02_22]
/-- NeverAgainModel.looked -/
def ka_297 : ai_K := (214, 1, (hka02_28, [hka02_29, hka02_11, hka02_31], [], hka02_86), [.inr (59, 2), .inr (59, 3), .inr (59, 6), .inr (59, 8), .inr (59, 9), .inr (59, 11), .inr (59, 12), .inr (59, 13), .inr (59, 15), .inr (59, 16), .inr (59, 17), .inr (59, 18), .inr (59, 19), .inr (59, 20), .inr (59, 21), .inr (59, 23), .inr (59, 26), .inr (59, 33)], [(some hka02_11, hka02_94, [(59, hka02_97)]), (some hka02_117, hka02_118, []), (some hka02_120, hka02_121, []), (some hka02_123, hka02_124, []), (some hka02_11, hka02_88, [(59, hka02_109)]), (some hka02_11, hka02_91, [])])
def kan_297 : List ai_Nd := []
set_option maxRecDepth 1000000 in
theorem kak_297 : ai_ck [ka_286, ka_294, ka_291, ka_293, ka_296] [] ka_297 [.inl 100000] kan_297 34 = true := by decide +kernel
theorem kah_297 : ai_holds ka_297 := ai_thm kak_297 (ai_cons kah_286 (ai_cons kah_294 (ai_cons kah_291 (ai_cons kah_293 (ai_cons kah_296 ai_nil)))))
def hka02_125 : ai_N := (.ofNat 0, .ofNat 255, [])
def hka02_126 : ai_C := .inl (.int, [(400, hka02_125)])
def hka02_127 : Bool × Option ai_C := (false, some hka02_126)
def hka02_128 : ai_W := [hka02_8, hka02_8, hka02_8, hka02_8, hka02_8, hka02_8, hka02_8, hka02_8, hka02_8, hka02_8, hka02_8, hka02_8, hka02_8, hka02_8, hka02_8, hka02_8, hka02_8, hka02_8, hka02_8, hka02_8, hka02_8, hka02_8, hka02_8, hka02_8, hka02_8, hka02_8, hka02_8, hka02_8, hka02_8, hka02_8, hka02_8, hka02_8, hka02_8, hka02_8, hka02_8, hka02_8, hka02_8, hka02_8, hka02_8, hka02_8, hka02_8, hka02_8, hka02_8, hka02_8, hka02_8, hka02_8, hka02_8, hka02_8, hka02_8, hka02_8, hka02_8, hka02_8, hka02_8, hka02_8, hka02_8, hka02_8, hka02_8, hka02_8, hka02_8, hka02_85, hka02_8, hka02_8, hka02_8, hka02_8, hka02_8, hka02_8, hka02_127, hka02_8, hka02_8, hka02_8, hka02_8, hka02_8, hka02_8, hka02_8, hka02_8, hka02_8]
def hka02_129 : Int × Int := (.ofNat 1, .ofNat 400)
def hka02_130 : Int × Int := (.ofNat 0, .ofNat 399)
def hka02_131 : ai_E := [hka02_18, hka02_19, hka02_20, hka02_21, hka02_22, hka02_0, hka02_21, hka02_23, hka02_129, hka02_130, hka02_24, hka02_93, hka02_113, hka02_87, hka02_24, hka02_27, hka02_0, hka02_22]
def hka02_132 : ai_N := (.ofNat 1, .ofNat 400, [(8, .ofNat 0, .ofNat 0)])
def hka02_133 : ai_V := .inl (false, hka02_132)
def hka02_134 : ai_N := (.ofNat 0, .ofNat 400, [(9, .ofNat 0, .ofNat 400)])
def hka02_135 : ai_V := .inl (false, hka02_134)
def hka02_136 : ai_N := (.ofNat 0, .ofNat 399, [(9, .ofNat 0, .ofNat 399)])
def hka02_137 : ai_V := .inl (false, hka02_136)
def hka02_138 : ai_N := (.ofNat 0, .ofNat 0, [(13, .ofNat 0, .ofNat 0)])
def hka02_139 : ai_V := .inl (false, hka02_138)
def hka02_140 : ai_C := .inr (.inr (8, [hka02_32, hka02_33, hka02_35, hka02_37, hka02_38, hka02_39, hka02_41, hka02_42, hka02_44, hka02_46, hka02_47, hka02_49, hka02_51, hka02_53, hka02_54, hka02_133, hka02_135, hka02_137, hka02_13, hka02_123, hka02_139, hka02_68, hka02_69, hka02_71, hka02_72, hka02_73, hka02_75, hka02_76, hka02_77, hka02_78, hka02_79, hka02_80, hka02_81, hka02_83]))
def hka02_141 : ai_N := (.ofNat 3, .ofNat 400, [(9, .ofNat 0, .ofNat 400)])
def hka02_142 : ai_V := .inl (false, hka02_141)
def hka02_143 : ai_N := (.negSucc 2147483647, .ofNat 2147483647, [])
def hka02_144 : ai_V := .inl (false, hka02_143)
def hka02_145 : ai_C := .inr (.inr (8, [hka02_32, hka02_33, hka02_35, hka02_37, hka02_38, hka02_39, hka02_41, hka02_42, hka02_44, hka02_46, hka02_47, hka02_49, hka02_51, hka02_53, hka02_54, hka02_133, hka02_142, hka02_137, hka02_108, hka02_144, hka02_13, hka02_137, hka02_69, hka02_71, hka02_72, hka02_73, hka02_75, hka02_76, hka02_77, hka02_78, hka02_79, hka02_80, hka02_81, hka02_83]))
def hka02_146 : ai_C := .inr (.inr (8, [hka02_32, hka02_33, hka02_35, hka02_37, hka02_38, hka02_39, hka02_41, hka02_42, hka02_44, hka02_46, hka02_47, hka02_49, hka02_51, hka02_53, hka02_54, hka02_133, hka02_135, hka02_137, hka02_108, hka02_144, hka02_139, hka02_68, hka02_69, hka02_71, hka02_72, hka02_73, hka02_75, hka02_76, hka02_77, hka02_78, hka02_79, hka02_80, hka02_81, hka02_83]))
def hka02_147 : ai_N := (.ofNat 1, .ofNat 400, [(9, .ofNat 1, .ofNat 400)])
def hka02_148 : ai_V := .inl (false, hka02_147)
def hka02_149 : ai_C := .inr (.inr (8, [hka02_32, hka02_33, hka02_35, hka02_37, hka02_38, hka02_39, hka02_41, hka02_42, hka02_44, hka02_46, hka02_47, hka02_49, hka02_51, hka02_53, hka02_54, hka02_133, hka02_148, hka02_137, hka02_31, hka02_123, hka02_139, hka02_68, hka02_69, hka02_71, hka02_72, hka02_73, hka02_75, hka02_76, hka02_77, hka02_78, hka02_79, hka02_80, hka02_81, hka02_83]))
def hka02_150 : ai_C := .inr (.inr (8, [hka02_32, hka02_33, hka02_35, hka02_37, hka02_38, hka02_39, hka02_41, hka02_42, hka02_44, hka02_46, hka02_47, hka02_49, hka02_51, hka02_53, hka02_54, hka02_133, hka02_148, hka02_137, hka02_31, hka02_123, hka02_13, hka02_137, hka02_69, hka02_71, hka02_72, hka02_73, hka02_75, hka02_76, hka02_77, hka02_78, hka02_79, hka02_80, hka02_81, hka02_83]))
def hka02_151 : ai_C := .inr (.inr (8, [hka02_32, hka02_33, hka02_35, hka02_37, hka02_38, hka02_39, hka02_41, hka02_42, hka02_44, hka02_46, hka02_47, hka02_49, hka02_51, hka02_53, hka02_54, hka02_56, hka02_135, hka02_135, hka02_11, hka02_123, hka02_139, hka02_68, hka02_69, hka02_71, hka02_72, hka02_73, hka02_75, hka02_76, hka02_77, hka02_78, hka02_79, hka02_80, hka02_81, hka02_83]))
def hka02_152 : ai_E := [hka02_18, hka02_19, hka02_20, hka02_21, hka02_22, hka02_0, hka02_21, hka02_23, hka02_129, hka02_130, hka02_24, hka02_93, hka02_114, hka02_87, hka02_24, hka02_27, hka02_0, hka02_22]
def hka02_153 : ai_C := .inr (.inr (8, [hka02_32, hka02_33, hka02_35, hka02_37, hka02_38, hka02_39, hka02_41, hka02_42, hka02_44, hka02_46, hka02_47, hka02_49, hka02_51, hka02_53, hka02_54, hka02_133, hka02_135, hka02_137, hka02_13, hka02_120, hka02_139, hka02_68, hka02_69, hka02_71, hka02_72, hka02_73, hka02_75, hka02_76, hka02_77, hka02_78, hka02_79, hka02_80, hka02_81, hka02_83]))
def hka02_154 : ai_C := .inr (.inr (8, [hka02_32, hka02_33, hka02_35, hka02_37, hka02_38, hka02_39, hka02_41, hka02_42, hka02_44, hka02_46, hka02_47, hka02_49, hka02_51, hka02_53, hka02_54, hka02_133, hka02_148, hka02_137, hka02_31, hka02_120, hka02_139, hka02_68, hka02_69, hka02_71, hka02_72, hka02_73, hka02_75, hka02_76, hka02_77, hka02_78, hka02_79, hka02_80, hka02_81, hka02_83]))
def hka02_155 : ai_C := .inr (.inr (8, [hka02_32, hka02_33, hka02_35, hka02_37, hka02_38, hka02_39, hka02_41, hka02_42, hka02_44, hka02_46, hka02_47, hka02_49, hka02_51, hka02_53, hka02_54, hka02_133, hka02_148, hka02_137, hka02_31, hka02_120, hka02_13, hka02_137, hka02_69, hka02_71, hka02_72, hka02_73, hka02_75, hka02_76, hka02_77, hka02_78, hka02_79, hka02_80, hka02_81, hka02_83]))
def hka02_156 : ai_C := .inr (.inr (8, [hka02_32, hka02_33, hka02_35, hka02_37, hka02_38, hka02_39, hka02_41, hka02_42, hka02_44, hka02_46, hka02_47, hka02_49, hka02_51, hka02_53, hka02_54, hka02_56, hka02_135, hka02_135, hka02_11, hka02_120, hka02_139, hka02_68, hka02_69, hka02_71, hka02_72, hka02_73, hka02_75, hka02_76, hka02_77, hka02_78, hka02_79, hka02_80, hka02_81, hka02_83]))
def hka02_157 : ai_E := [hka02_18, hka02_19, hka02_20, hka02_21, hka02_22, hka02_0, hka02_21, hka02_23, hka02_129, hka02_130, hka02_24, hka02_93, hka02_87, hka02_87, hka02_24, hka02_27, hka02_0, hka02_22]
def hka02_158 : ai_C := .inr (.inr (8, [hka02_32, hka02_33, hka02_35, hka02_37, hka02_38, hka02_39, hka02_41, hka02_42, hka02_44, hka02_46, hka02_47, hka02_49, hka02_51, hka02_53, hka02_54, hka02_133, hka02_135, hka02_137, hka02_13, hka02_117, hka02_139, hka02_68, hka02_69, hka02_71, hka02_72, hka02_73, hka02_75, hka02_76, hka02_77, hka02_78, hka02_79, hka02_80, hka02_81, hka02_83]))
def hka02_159 : ai_N := (.ofNat 0, .ofNat 400, [])
def hka02_160 : ai_V := .inl (false, hka02_159)
def hka02_161 : ai_N := (.ofNat 1, .ofNat 3, [])
def hka02_162 : ai_V := .inl (false, hka02_161)
def hka02_163 : ai_C := .inr (.inr (8, [hka02_32, hka02_33, hka02_35, hka02_37, hka02_38, hka02_39, hka02_41, hka02_42, hka02_44, hka02_46, hka02_47, hka02_49, hka02_51, hka02_53, hka02_54, hka02_56, hka02_135, hka02_160, hka02_108, hka02_144, hka02_162, hka02_160, hka02_69, hka02_71, hka02_72, hka02_73, hka02_75, hka02_76, hka02_77, hka02_78, hka02_79, hka02_80, hka02_81, hka02_83]))
def hka02_164 : ai_C := .inr (.inr (8, [hka02_32, hka02_33, hka02_35, hka02_37, hka02_38, hka02_39, hka02_41, hka02_42, hka02_44, hka02_46, hka02_47, hka02_49, hka02_51, hka02_53, hka02_54, hka02_133, hka02_148, hka02_137, hka02_31, hka02_117, hka02_139, hka02_68, hka02_69, hka02_71, hka02_72, hka02_73, hka02_75, hka02_76, hka02_77, hka02_78, hka02_79, hka02_80, hka02_81, hka02_83]))
def hka02_165 : ai_C := .inr (.inr (8, [hka02_32, hka02_33, hka02_35, hka02_37, hka02_38, hka02_39, hka02_41, hka02_42, hka02_44, hka02_46, hka02_47, hka02_49, hka02_51, hka02_53, hka02_54, hka02_133, hka02_148, hka02_137, hka02_31, hka02_117, hka02_13, hka02_137, hka02_69, hka02_71, hka02_72, hka02_73, hka02_75, hka02_76, hka02_77, hka02_78, hka02_79, hka02_80, hka02_81, hka02_83]))
def hka02_166 : ai_C := .inr (.inr (8, [hka02_32, hka02_33, hka02_35, hka02_37, hka02_38, hka02_39, hka02_41, hka02_42, hka02_44, hka02_46, hka02_47, hka02_49, hka02_51, hka02_53, hka02_54, hka02_56, hka02_135, hka02_135, hka02_11, hka02_117, hka02_139, hka02_68, hka02_69, hka02_71, hka02_72, hka02_73, hka02_75, hka02_76, hka02_77, hka02_78, hka02_79, hka02_80, hka02_81, hka02_83]))
/-- NeverAgainModel.readNumber -/
def ka_298 : ai_K := (194, 2, (hka02_28, [hka02_29, hka02_11, hka02_31, hka02_3], [], hka02_128), [.inr (59, 2), .inr (59, 3), .inr (59, 6), .inr (59, 8), .inr (59, 9), .inr (59, 11), .inr (59, 12), .inr (59, 13), .inr (59, 15), .inr (59, 16), .inr (59, 17), .inr (59, 18), .inr (59, 19), .inr (59, 20), .inr (59, 21), .inr (59, 23), .inr (59, 26), .inr (59, 33)], [(some hka02_11, hka02_91, []), (some hka02_11, hka02_88, [(59, hka02_109)]), (some hka02_123, hka02_131, [(59, hka02_140)]), (some hka02_123, hka02_131, [(59, hka02_145)]), (some hka02_123, hka02_131, [(59, hka02_146)]), (some hka02_123, hka02_131, [(59, hka02_149)]), (some hka02_123, hka02_131, [(59, hka02_150)]), (some hka02_123, hka02_124, [(59, hka02_151)]), (some hka02_120, hka02_152, [(59, hka02_153)]), (some hka02_120, hka02_152, [(59, hka02_145)]), (some hka02_120, hka02_152, [(59, hka02_146)]), (some hka02_120, hka02_152, [(59, hka02_154)]), (some hka02_120, hka02_152, [(59, hka02_155)]), (some hka02_120, hka02_121, [(59, hka02_156)]), (some hka02_117, hka02_157, [(59, hka02_158)]), (some hka02_11, hka02_94, [(59, hka02_163)]), (some hka02_117, hka02_157, [(59, hka02_146)]), (some hka02_117, hka02_157, [(59, hka02_164)]), (some hka02_117, hka02_157, [(59, hka02_165)]), (some hka02_117, hka02_118, [(59, hka02_166)])])
def kan_298 : List ai_Nd := []
set_option maxRecDepth 1000000 in
theorem kak_298 : ai_ck [ka_297, ka_262] [] ka_298 [.inl 100000] kan_298 10 = true := by decide +kernel
theorem kah_298 : ai_holds ka_298 := ai_thm kak_298 (ai_cons kah_297 (ai_cons kah_262 ai_nil))
def hka02_167 : ai_N := (.ofNat 0, .ofNat 3, [])
def hka02_168 : ai_V := .inl (false, hka02_167)
def hka02_169 : ai_C := .inr (.inr (8, [hka02_32, hka02_33, hka02_35, hka02_37, hka02_38, hka02_39, hka02_41, hka02_42, hka02_44, hka02_46, hka02_47, hka02_49, hka02_51, hka02_168, hka02_54, hka02_56, hka02_135, hka02_135, hka02_11, hka02_117, hka02_139, hka02_68, hka02_69, hka02_71, hka02_72, hka02_73, hka02_75, hka02_76, hka02_77, hka02_78, hka02_79, hka02_80, hka02_81, hka02_83]))
def hka02_170 : ai_C := .inr (.inr (8, [hka02_32, hka02_33, hka02_35, hka02_37, hka02_38, hka02_39, hka02_41, hka02_42, hka02_44, hka02_46, hka02_47, hka02_49, hka02_51, hka02_168, hka02_54, hka02_133, hka02_148, hka02_137, hka02_31, hka02_117, hka02_139, hka02_68, hka02_69, hka02_71, hka02_72, hka02_73, hka02_75, hka02_76, hka02_77, hka02_78, hka02_79, hka02_80, hka02_81, hka02_83]))
def hka02_171 : ai_C := .inr (.inr (8, [hka02_32, hka02_33, hka02_35, hka02_37, hka02_38, hka02_39, hka02_41, hka02_42, hka02_44, hka02_46, hka02_47, hka02_49, hka02_51, hka02_168, hka02_54, hka02_133, hka02_135, hka02_137, hka02_108, hka02_144, hka02_139, hka02_68, hka02_69, hka02_71, hka02_72, hka02_73, hka02_75, hka02_76, hka02_77, hka02_78, hka02_79, hka02_80, hka02_81, hka02_83]))
def hka02_172 : ai_C := .inr (.inr (8, [hka02_32, hka02_33, hka02_35, hka02_37, hka02_38, hka02_39, hka02_41, hka02_42, hka02_44, hka02_46, hka02_47, hka02_49, hka02_51, hka02_168, hka02_54, hka02_133, hka02_135, hka02_137, hka02_13, hka02_117, hka02_139, hka02_68, hka02_69, hka02_71, hka02_72, hka02_73, hka02_75, hka02_76, hka02_77, hka02_78, hka02_79, hka02_80, hka02_81, hka02_83]))
def hka02_173 : ai_C := .inr (.inr (8, [hka02_32, hka02_33, hka02_35, hka02_37, hka02_38, hka02_39, hka02_41, hka02_42, hka02_44, hka02_46, hka02_47, hka02_49, hka02_51, hka02_162, hka02_54, hka02_56, hka02_135, hka02_135, hka02_11, hka02_120, hka02_139, hka02_68, hka02_69, hka02_71, hka02_72, hka02_73, hka02_75, hka02_76, hka02_77, hka02_78, hka02_79, hka02_80, hka02_81, hka02_83]))
def hka02_174 : ai_C := .inr (.inr (8, [hka02_32, hka02_33, hka02_35, hka02_37, hka02_38, hka02_39, hka02_41, hka02_42, hka02_44, hka02_46, hka02_47, hka02_49, hka02_51, hka02_162, hka02_54, hka02_133, hka02_148, hka02_137, hka02_31, hka02_120, hka02_13, hka02_137, hka02_69, hka02_71, hka02_72, hka02_73, hka02_75, hka02_76, hka02_77, hka02_78, hka02_79, hka02_80, hka02_81, hka02_83]))
def hka02_175 : ai_C := .inr (.inr (8, [hka02_32, hka02_33, hka02_35, hka02_37, hka02_38, hka02_39, hka02_41, hka02_42, hka02_44, hka02_46, hka02_47, hka02_49, hka02_51, hka02_162, hka02_54, hka02_133, hka02_148, hka02_137, hka02_31, hka02_120, hka02_139, hka02_68, hka02_69, hka02_71, hka02_72, hka02_73, hka02_75, hka02_76, hka02_77, hka02_78, hka02_79, hka02_80, hka02_81, hka02_83]))
def hka02_176 : ai_C := .inr (.inr (8, [hka02_32, hka02_33, hka02_35, hka02_37, hka02_38, hka02_39, hka02_41, hka02_42, hka02_44, hka02_46, hka02_47, hka02_49, hka02_51, hka02_162, hka02_54, hka02_133, hka02_135, hka02_137, hka02_108, hka02_144, hka02_139, hka02_68, hka02_69, hka02_71, hka02_72, hka02_73, hka02_75, hka02_76, hka02_77, hka02_78, hka02_79, hka02_80, hka02_81, hka02_83]))
def hka02_177 : ai_C := .inr (.inr (8, [hka02_32, hka02_33, hka02_35, hka02_37, hka02_38, hka02_39, hka02_41, hka02_42, hka02_44, hka02_46, hka02_47, hka02_49, hka02_51, hka02_162, hka02_54, hka02_133, hka02_142, hka02_137, hka02_108, hka02_144, hka02_13, hka02_137, hka02_69, hka02_71, hka02_72, hka02_73, hka02_75, hka02_76, hka02_77, hka02_78, hka02_79, hka02_80, hka02_81, hka02_83]))
def hka02_178 : ai_C := .inr (.inr (8, [hka02_32, hka02_33, hka02_35, hka02_37, hka02_38, hka02_39, hka02_41, hka02_42, hka02_44, hka02_46, hka02_47, hka02_49, hka02_51, hka02_162, hka02_54, hka02_133, hka02_135, hka02_137, hka02_13, hka02_120, hka02_139, hka02_68, hka02_69, hka02_71, hka02_72, hka02_73, hka02_75, hka02_76, hka02_77, hka02_78, hka02_79, hka02_80, hka02_81, hka02_83]))
def hka02_179 : ai_C := .inr (.inr (8, [hka02_32, hka02_33, hka02_35, hka02_37, hka02_38, hka02_39, hka02_41, hka02_42, hka02_44, hka02_46, hka02_47, hka02_49, hka02_51, hka02_31, hka02_54, hka02_56, hka02_135, hka02_135, hka02_11, hka02_123, hka02_139, hka02_68, hka02_69, hka02_71, hka02_72, hka02_73, hka02_75, hka02_76, hka02_77, hka02_78, hka02_79, hka02_80, hka02_81, hka02_83]))
def hka02_180 : ai_C := .inr (.inr (8, [hka02_32, hka02_33, hka02_35, hka02_37, hka02_38, hka02_39, hka02_41, hka02_42, hka02_44, hka02_46, hka02_47, hka02_49, hka02_51, hka02_31, hka02_54, hka02_133, hka02_148, hka02_137, hka02_31, hka02_123, hka02_13, hka02_137, hka02_69, hka02_71, hka02_72, hka02_73, hka02_75, hka02_76, hka02_77, hka02_78, hka02_79, hka02_80, hka02_81, hka02_83]))
def hka02_181 : ai_C := .inr (.inr (8, [hka02_32, hka02_33, hka02_35, hka02_37, hka02_38, hka02_39, hka02_41, hka02_42, hka02_44, hka02_46, hka02_47, hka02_49, hka02_51, hka02_31, hka02_54, hka02_133, hka02_148, hka02_137, hka02_31, hka02_123, hka02_139, hka02_68, hka02_69, hka02_71, hka02_72, hka02_73, hka02_75, hka02_76, hka02_77, hka02_78, hka02_79, hka02_80, hka02_81, hka02_83]))
def hka02_182 : ai_C := .inr (.inr (8, [hka02_32, hka02_33, hka02_35, hka02_37, hka02_38, hka02_39, hka02_41, hka02_42, hka02_44, hka02_46, hka02_47, hka02_49, hka02_51, hka02_31, hka02_54, hka02_133, hka02_135, hka02_137, hka02_108, hka02_144, hka02_139, hka02_68, hka02_69, hka02_71, hka02_72, hka02_73, hka02_75, hka02_76, hka02_77, hka02_78, hka02_79, hka02_80, hka02_81, hka02_83]))
def hka02_183 : ai_C := .inr (.inr (8, [hka02_32, hka02_33, hka02_35, hka02_37, hka02_38, hka02_39, hka02_41, hka02_42, hka02_44, hka02_46, hka02_47, hka02_49, hka02_51, hka02_31, hka02_54, hka02_133, hka02_142, hka02_137, hka02_108, hka02_144, hka02_13, hka02_137, hka02_69, hka02_71, hka02_72, hka02_73, hka02_75, hka02_76, hka02_77, hka02_78, hka02_79, hka02_80, hka02_81, hka02_83]))
def hka02_184 : ai_C := .inr (.inr (8, [hka02_32, hka02_33, hka02_35, hka02_37, hka02_38, hka02_39, hka02_41, hka02_42, hka02_44, hka02_46, hka02_47, hka02_49, hka02_51, hka02_31, hka02_54, hka02_133, hka02_135, hka02_137, hka02_13, hka02_123, hka02_139, hka02_68, hka02_69, hka02_71, hka02_72, hka02_73, hka02_75, hka02_76, hka02_77, hka02_78, hka02_79, hka02_80, hka02_81, hka02_83]))
/-- NeverAgainModel.readMatter -/
def ka_299 : ai_K := (200, 3, (hka02_28, [hka02_29, hka02_3], [], hka02_128), [.inr (59, 2), .inr (59, 3), .inr (59, 6), .inr (59, 8), .inr (59, 9), .inr (59, 11), .inr (59, 12), .inr (59, 13), .inr (59, 15), .inr (59, 16), .inr (59, 17), .inr (59, 18), .inr (59, 19), .inr (59, 20), .inr (59, 21), .inr (59, 23), .inr (59, 26), .inr (59, 33)], [(some hka02_117, hka02_118, [(59, hka02_169)]), (some hka02_117, hka02_157, [(59, hka02_165)]), (some hka02_117, hka02_157, [(59, hka02_170)]), (some hka02_117, hka02_157, [(59, hka02_171)]), (some hka02_11, hka02_94, [(59, hka02_163)]), (some hka02_117, hka02_157, [(59, hka02_172)]), (some hka02_120, hka02_121, [(59, hka02_173)]), (some hka02_120, hka02_152, [(59, hka02_174)]), (some hka02_120, hka02_152, [(59, hka02_175)]), (some hka02_120, hka02_152, [(59, hka02_176)]), (some hka02_120, hka02_152, [(59, hka02_177)]), (some hka02_120, hka02_152, [(59, hka02_178)]), (some hka02_123, hka02_124, [(59, hka02_179)]), (some hka02_123, hka02_131, [(59, hka02_180)]), (some hka02_123, hka02_131, [(59, hka02_181)]), (some hka02_123, hka02_131, [(59, hka02_182)]), (some hka02_123, hka02_131, [(59, hka02_183)]), (some hka02_123, hka02_131, [(59, hka02_184)]), (some hka02_11, hka02_88, [(59, hka02_109)]), (some hka02_11, hka02_91, [])])
def kan_299 : List ai_Nd := []
set_option maxRecDepth 1000000 in
theorem kak_299 : ai_ck [ka_298] [] ka_299 [.inl 100000] kan_299 21 = true := by decide +kernel
theorem kah_299 : ai_holds ka_299 := ai_thm kak_299 (ai_cons kah_298 ai_nil)
def hka02_185 : Int × Int := (.ofNat 0, .ofNat 60)
def hka02_186 : Int × Int := (.ofNat 0, .ofNat 20)
def hka02_187 : Int × Int := (.ofNat 0, .ofNat 1)
def hka02_188 : Int × Int := (.negSucc 3, .ofNat 2)
def hka02_189 : Int × Int := (.ofNat 0, .ofNat 5)
def hka02_190 : ai_E := [hka02_18, hka02_19, hka02_20, hka02_21, hka02_22, hka02_0, hka02_21, hka02_23, hka02_24, hka02_24, hka02_24, hka02_25, hka02_0, hka02_26, hka02_24, hka02_27, hka02_0, hka02_22, hka02_185, hka02_186, hka02_187, hka02_188, hka02_189, hka02_22]
def hka02_191 : ai_N := (.ofNat 0, .ofNat 60, [(18, .ofNat 0, .ofNat 0)])
def hka02_192 : ai_N := (.ofNat 0, .ofNat 16, [])
def hka02_193 : ai_N := (.negSucc 3, .ofNat 3, [])
def hka02_194 : ai_N := (.ofNat 0, .ofNat 20, [(19, .ofNat 0, .ofNat 0)])
def hka02_195 : ai_N := (.ofNat 0, .ofNat 1, [(20, .ofNat 0, .ofNat 0)])
def hka02_196 : ai_N := (.negSucc 3, .ofNat 2, [(21, .ofNat 0, .ofNat 0)])
def hka02_197 : ai_N := (.ofNat 0, .ofNat 5, [(22, .ofNat 0, .ofNat 0)])
def hka02_198 : ai_N := (.ofNat 0, .ofNat 4, [(23, .ofNat 0, .ofNat 0)])
def hka02_199 : ai_N := (.ofNat 0, .ofNat 4, [])
def hka02_200 : ai_C := .inl (.int, [(1, hka02_191), (60, hka02_192), (17, hka02_193), (1, hka02_194), (1, hka02_195), (1, hka02_196), (1, hka02_197), (5, hka02_167), (1, hka02_198), (8, hka02_199)])
def hka02_201 : Bool × Option ai_C := (false, some hka02_200)
def hka02_202 : ai_W := [hka02_8, hka02_8, hka02_8, hka02_8, hka02_8, hka02_8, hka02_8, hka02_8, hka02_8, hka02_8, hka02_8, hka02_8, hka02_8, hka02_8, hka02_8, hka02_8, hka02_8, hka02_8, hka02_8, hka02_8, hka02_8, hka02_8, hka02_8, hka02_8, hka02_8, hka02_8, hka02_8, hka02_8, hka02_8, hka02_8, hka02_8, hka02_8, hka02_8, hka02_8, hka02_8, hka02_8, hka02_8, hka02_8, hka02_8, hka02_8, hka02_8, hka02_8, hka02_8, hka02_8, hka02_8, hka02_8, hka02_8, hka02_8, hka02_8, hka02_8, hka02_8, hka02_8, hka02_8, hka02_8, hka02_8, hka02_8, hka02_8, hka02_8, hka02_8, hka02_85, hka02_8, hka02_8, hka02_8, hka02_8, hka02_201, hka02_8, hka02_127, hka02_8, hka02_8, hka02_8, hka02_8, hka02_8, hka02_8, hka02_8, hka02_8, hka02_8]
def hka02_203 : ai_N := (.ofNat 1, .ofNat 6, [])
def hka02_204 : ai_V := .inl (false, hka02_203)
def hka02_205 : ai_C := .inr (.inr (8, [hka02_32, hka02_33, hka02_35, hka02_37, hka02_38, hka02_39, hka02_41, hka02_42, hka02_44, hka02_46, hka02_47, hka02_49, hka02_51, hka02_53, hka02_54, hka02_56, hka02_58, hka02_60, hka02_62, hka02_64, hka02_204, hka02_160, hka02_69, hka02_71, hka02_72, hka02_73, hka02_75, hka02_76, hka02_77, hka02_78, hka02_79, hka02_80, hka02_81, hka02_83]))
def hka02_206 : Int × Int := (.ofNat 1, .ofNat 16)
def hka02_207 : ai_E := [hka02_18, hka02_19, hka02_20, hka02_21, hka02_22, hka02_0, hka02_21, hka02_23, hka02_129, hka02_130, hka02_24, hka02_93, hka02_206, hka02_87, hka02_24, hka02_27, hka02_0, hka02_22, hka02_185, hka02_186, hka02_187, hka02_188, hka02_189, hka02_22]
def hka02_208 : ai_N := (.ofNat 1, .ofNat 16, [])
def hka02_209 : ai_V := .inl (false, hka02_208)
def hka02_210 : ai_N := (.ofNat 1, .ofNat 16, [(12, .ofNat 0, .ofNat 0)])
def hka02_211 : ai_V := .inl (false, hka02_210)
def hka02_212 : ai_C := .inr (.inr (8, [hka02_32, hka02_33, hka02_35, hka02_37, hka02_38, hka02_39, hka02_41, hka02_42, hka02_44, hka02_46, hka02_47, hka02_49, hka02_209, hka02_53, hka02_54, hka02_133, hka02_135, hka02_137, hka02_13, hka02_211, hka02_108, hka02_137, hka02_69, hka02_71, hka02_72, hka02_73, hka02_75, hka02_76, hka02_77, hka02_78, hka02_79, hka02_80, hka02_81, hka02_83]))
def hka02_213 : ai_E := [hka02_18, hka02_19, hka02_20, hka02_21, hka02_22, hka02_0, hka02_21, hka02_23, hka02_24, hka02_24, hka02_24, hka02_93, hka02_0, hka02_87, hka02_24, hka02_27, hka02_0, hka02_22, hka02_185, hka02_186, hka02_187, hka02_188, hka02_189, hka02_22]
def hka02_214 : ai_V := .inl (false, hka02_192)
def hka02_215 : ai_V := .inl (false, hka02_193)
def hka02_216 : ai_N := (.ofNat 1, .ofNat 4, [])
def hka02_217 : ai_V := .inl (false, hka02_216)
def hka02_218 : ai_C := .inr (.inr (8, [hka02_32, hka02_33, hka02_35, hka02_37, hka02_38, hka02_39, hka02_41, hka02_42, hka02_44, hka02_46, hka02_47, hka02_49, hka02_214, hka02_215, hka02_54, hka02_56, hka02_135, hka02_160, hka02_108, hka02_144, hka02_217, hka02_160, hka02_69, hka02_71, hka02_72, hka02_73, hka02_75, hka02_76, hka02_77, hka02_78, hka02_79, hka02_80, hka02_81, hka02_83]))
def hka02_219 : ai_C := .inr (.inr (8, [hka02_32, hka02_33, hka02_35, hka02_37, hka02_38, hka02_39, hka02_41, hka02_42, hka02_44, hka02_46, hka02_47, hka02_49, hka02_209, hka02_168, hka02_54, hka02_133, hka02_135, hka02_137, hka02_13, hka02_168, hka02_139, hka02_68, hka02_69, hka02_71, hka02_72, hka02_73, hka02_75, hka02_76, hka02_77, hka02_78, hka02_79, hka02_80, hka02_81, hka02_83]))
def hka02_220 : ai_C := .inr (.inr (8, [hka02_32, hka02_33, hka02_35, hka02_37, hka02_38, hka02_39, hka02_41, hka02_42, hka02_44, hka02_46, hka02_47, hka02_49, hka02_209, hka02_168, hka02_54, hka02_133, hka02_135, hka02_137, hka02_108, hka02_144, hka02_139, hka02_68, hka02_69, hka02_71, hka02_72, hka02_73, hka02_75, hka02_76, hka02_77, hka02_78, hka02_79, hka02_80, hka02_81, hka02_83]))
def hka02_221 : ai_C := .inr (.inr (8, [hka02_32, hka02_33, hka02_35, hka02_37, hka02_38, hka02_39, hka02_41, hka02_42, hka02_44, hka02_46, hka02_47, hka02_49, hka02_209, hka02_168, hka02_54, hka02_133, hka02_148, hka02_137, hka02_31, hka02_168, hka02_139, hka02_68, hka02_69, hka02_71, hka02_72, hka02_73, hka02_75, hka02_76, hka02_77, hka02_78, hka02_79, hka02_80, hka02_81, hka02_83]))
def hka02_222 : ai_N := (.ofNat 1, .ofNat 2, [])
def hka02_223 : ai_V := .inl (false, hka02_222)
def hka02_224 : ai_C := .inr (.inr (8, [hka02_32, hka02_33, hka02_35, hka02_37, hka02_38, hka02_39, hka02_41, hka02_42, hka02_44, hka02_46, hka02_47, hka02_49, hka02_209, hka02_215, hka02_54, hka02_133, hka02_148, hka02_137, hka02_31, hka02_214, hka02_223, hka02_137, hka02_69, hka02_71, hka02_72, hka02_73, hka02_75, hka02_76, hka02_77, hka02_78, hka02_79, hka02_80, hka02_81, hka02_83]))
def hka02_225 : ai_C := .inr (.inr (8, [hka02_32, hka02_33, hka02_35, hka02_37, hka02_38, hka02_39, hka02_41, hka02_42, hka02_44, hka02_46, hka02_47, hka02_49, hka02_209, hka02_168, hka02_54, hka02_133, hka02_135, hka02_135, hka02_11, hka02_168, hka02_139, hka02_68, hka02_69, hka02_71, hka02_72, hka02_73, hka02_75, hka02_76, hka02_77, hka02_78, hka02_79, hka02_80, hka02_81, hka02_83]))
def hka02_226 : ai_E := [hka02_18, hka02_19, hka02_20, hka02_21, hka02_22, hka02_0, hka02_21, hka02_23, hka02_24, hka02_24, hka02_24, hka02_93, hka02_206, hka02_87, hka02_24, hka02_27, hka02_0, hka02_22, hka02_185, hka02_186, hka02_187, hka02_188, hka02_189, hka02_22]
def hka02_227 : ai_C := .inr (.inr (8, [hka02_32, hka02_33, hka02_35, hka02_37, hka02_38, hka02_39, hka02_41, hka02_42, hka02_44, hka02_46, hka02_47, hka02_49, hka02_209, hka02_53, hka02_54, hka02_56, hka02_135, hka02_135, hka02_11, hka02_211, hka02_108, hka02_135, hka02_69, hka02_71, hka02_72, hka02_73, hka02_75, hka02_76, hka02_77, hka02_78, hka02_79, hka02_80, hka02_81, hka02_83]))
/-- NeverAgainModel.readPage -/
def ka_300 : ai_K := (197, 4, (hka02_190, [hka02_29, hka02_3, hka02_3], [], hka02_202), [.inr (59, 2), .inr (59, 3), .inr (59, 6), .inr (59, 8), .inr (59, 9), .inr (59, 11), .inr (59, 12), .inr (59, 13), .inr (59, 15), .inr (59, 16), .inr (59, 17), .inr (59, 18), .inr (59, 19), .inr (59, 20), .inr (59, 21), .inr (59, 23), .inr (59, 26), .inr (59, 33), .inr (64, 0), .inr (64, 78), .inr (64, 79), .inr (64, 80), .inr (64, 81), .inr (64, 87)], [(none, hka02_190, [(59, hka02_205)]), (none, hka02_207, [(59, hka02_212)]), (none, hka02_213, [(59, hka02_218)]), (none, hka02_207, [(59, hka02_219), (64, hka02_200)]), (none, hka02_207, [(59, hka02_220), (64, hka02_200)]), (none, hka02_207, [(59, hka02_221), (64, hka02_200)]), (none, hka02_207, [(59, hka02_224)]), (none, hka02_207, [(59, hka02_225), (64, hka02_200)]), (none, hka02_226, [(59, hka02_227)])])
def kan_300 : List ai_Nd := []
set_option maxRecDepth 1000000 in
theorem kak_300 : ai_ck [ka_289, ka_290, ka_295, ka_262, ka_299] [] ka_300 [.inl 100000] kan_300 46 = true := by decide +kernel
theorem kah_300 : ai_holds ka_300 := ai_thm kak_300 (ai_cons kah_289 (ai_cons kah_290 (ai_cons kah_295 (ai_cons kah_262 (ai_cons kah_299 ai_nil)))))
def hka02_228 : ai_N := (.ofNat 5, .ofNat 5, [])
def hka02_229 : ai_V := .inl (false, hka02_228)
/-- NeverAgainModel.readLineOf -/
def ka_301 : ai_K := (161, 5, (hka02_190, [hka02_29, hka02_229, hka02_3], [], hka02_202), [.inr (59, 2), .inr (59, 3), .inr (59, 6), .inr (59, 8), .inr (59, 9), .inr (59, 11), .inr (59, 12), .inr (59, 13), .inr (59, 15), .inr (59, 16), .inr (59, 17), .inr (59, 18), .inr (59, 19), .inr (59, 20), .inr (59, 21), .inr (59, 23), .inr (59, 26), .inr (59, 33), .inr (64, 0), .inr (64, 78), .inr (64, 79), .inr (64, 80), .inr (64, 81), .inr (64, 87)], [(none, hka02_226, [(59, hka02_227)]), (none, hka02_207, [(59, hka02_225), (64, hka02_200)]), (none, hka02_207, [(59, hka02_224)]), (none, hka02_207, [(59, hka02_221), (64, hka02_200)]), (none, hka02_207, [(59, hka02_220), (64, hka02_200)]), (none, hka02_207, [(59, hka02_219), (64, hka02_200)]), (none, hka02_213, [(59, hka02_218)]), (none, hka02_207, [(59, hka02_212)]), (none, hka02_190, [(59, hka02_205)])])
def kan_301 : List ai_Nd := []
set_option maxRecDepth 1000000 in
theorem kak_301 : ai_ck [ka_300] [] ka_301 [.inl 100000] kan_301 7 = true := by decide +kernel
theorem kah_301 : ai_holds ka_301 := ai_thm kak_301 (ai_cons kah_300 ai_nil)
def hka02_230 : Int × Int := (.ofNat 1, .ofNat 15)
/-- NeverAgainModel.in -/
def ka_302 : ai_K := (93, 0, ([hka02_0], [hka02_2, hka02_3, hka02_110, hka02_3, hka02_7, hka02_3], [], hka02_9), [.inl 0], [(some hka02_11, [hka02_12], []), (some hka02_13, [hka02_14], []), (some hka02_13, [hka02_230], []), (some hka02_13, [hka02_87], []), (some hka02_11, [hka02_115], [])])
def kan_302 : List ai_Nd := []
set_option maxRecDepth 1000000 in
theorem kak_302 : ai_ck [] [] ka_302 [.inl 100000] kan_302 12 = true := by decide +kernel
theorem kah_302 : ai_holds ka_302 := ai_thm kak_302 ai_nil
def hka02_231 : ai_N := (.ofNat 1, .ofNat 15, [(12, .ofNat 0, .ofNat 0)])
def hka02_232 : ai_V := .inl (false, hka02_231)
def hka02_233 : ai_E := [hka02_18, hka02_19, hka02_20, hka02_21, hka02_22, hka02_0, hka02_21, hka02_23, hka02_24, hka02_24, hka02_24, hka02_93, hka02_230, hka02_87, hka02_24, hka02_27, hka02_0, hka02_22]
/-- NeverAgainModel.looked -/
def ka_303 : ai_K := (214, 1, (hka02_28, [hka02_29, hka02_11, hka02_92], [], hka02_86), [.inr (59, 2), .inr (59, 3), .inr (59, 6), .inr (59, 8), .inr (59, 9), .inr (59, 11), .inr (59, 12), .inr (59, 13), .inr (59, 15), .inr (59, 16), .inr (59, 17), .inr (59, 18), .inr (59, 19), .inr (59, 20), .inr (59, 21), .inr (59, 23), .inr (59, 26), .inr (59, 33)], [(some hka02_11, hka02_94, [(59, hka02_97)]), (some hka02_117, hka02_118, []), (some hka02_232, hka02_233, []), (some hka02_105, hka02_106, []), (some hka02_11, hka02_88, [(59, hka02_109)]), (some hka02_11, hka02_91, [])])
def kan_303 : List ai_Nd := []
set_option maxRecDepth 1000000 in
theorem kak_303 : ai_ck [ka_286, ka_294, ka_291, ka_293, ka_302] [] ka_303 [.inl 100000] kan_303 34 = true := by decide +kernel
theorem kah_303 : ai_holds ka_303 := ai_thm kak_303 (ai_cons kah_286 (ai_cons kah_294 (ai_cons kah_291 (ai_cons kah_293 (ai_cons kah_302 ai_nil)))))
def hka02_234 : ai_E := [hka02_18, hka02_19, hka02_20, hka02_21, hka02_22, hka02_0, hka02_21, hka02_23, hka02_24, hka02_24, hka02_24, hka02_87, hka02_0, hka02_90, hka02_24, hka02_27, hka02_0, hka02_22, hka02_185, hka02_186, hka02_187, hka02_188, hka02_189, hka02_22]
def hka02_235 : ai_E := [hka02_18, hka02_19, hka02_20, hka02_21, hka02_22, hka02_0, hka02_21, hka02_23, hka02_24, hka02_24, hka02_24, hka02_16, hka02_0, hka02_90, hka02_24, hka02_27, hka02_0, hka02_22, hka02_185, hka02_186, hka02_187, hka02_188, hka02_189, hka02_22]
def hka02_236 : ai_E := [hka02_18, hka02_19, hka02_20, hka02_21, hka02_22, hka02_0, hka02_21, hka02_23, hka02_24, hka02_24, hka02_24, hka02_93, hka02_0, hka02_90, hka02_24, hka02_27, hka02_0, hka02_22, hka02_185, hka02_186, hka02_187, hka02_188, hka02_189, hka02_22]
def hka02_237 : ai_E := [hka02_18, hka02_19, hka02_20, hka02_21, hka02_22, hka02_0, hka02_21, hka02_23, hka02_24, hka02_24, hka02_24, hka02_113, hka02_0, hka02_90, hka02_24, hka02_27, hka02_0, hka02_22, hka02_185, hka02_186, hka02_187, hka02_188, hka02_189, hka02_22]
def hka02_238 : ai_E := [hka02_18, hka02_19, hka02_20, hka02_21, hka02_22, hka02_0, hka02_21, hka02_23, hka02_24, hka02_24, hka02_24, hka02_87, hka02_0, hka02_87, hka02_24, hka02_27, hka02_0, hka02_22, hka02_185, hka02_186, hka02_187, hka02_188, hka02_189, hka02_22]
def hka02_239 : ai_N := (.ofNat 0, .ofNat 0, [(11, .ofNat 0, .ofNat 0)])
def hka02_240 : ai_V := .inl (false, hka02_239)
def hka02_241 : ai_C := .inr (.inr (8, [hka02_32, hka02_33, hka02_35, hka02_37, hka02_38, hka02_39, hka02_41, hka02_42, hka02_44, hka02_46, hka02_47, hka02_49, hka02_51, hka02_53, hka02_54, hka02_56, hka02_58, hka02_60, hka02_240, hka02_64, hka02_108, hka02_60, hka02_69, hka02_71, hka02_72, hka02_73, hka02_75, hka02_76, hka02_77, hka02_78, hka02_79, hka02_80, hka02_81, hka02_83]))
def hka02_242 : ai_E := [hka02_18, hka02_19, hka02_20, hka02_21, hka02_22, hka02_0, hka02_21, hka02_23, hka02_24, hka02_24, hka02_24, hka02_16, hka02_0, hka02_87, hka02_24, hka02_27, hka02_0, hka02_22, hka02_185, hka02_186, hka02_187, hka02_188, hka02_189, hka02_22]
def hka02_243 : ai_N := (.ofNat 1, .ofNat 1, [(11, .ofNat 0, .ofNat 0)])
def hka02_244 : ai_V := .inl (false, hka02_243)
def hka02_245 : ai_C := .inr (.inr (8, [hka02_32, hka02_33, hka02_35, hka02_37, hka02_38, hka02_39, hka02_41, hka02_42, hka02_44, hka02_46, hka02_47, hka02_49, hka02_51, hka02_53, hka02_54, hka02_56, hka02_58, hka02_60, hka02_244, hka02_64, hka02_108, hka02_60, hka02_69, hka02_71, hka02_72, hka02_73, hka02_75, hka02_76, hka02_77, hka02_78, hka02_79, hka02_80, hka02_81, hka02_83]))
def hka02_246 : ai_N := (.ofNat 1, .ofNat 5, [])
def hka02_247 : ai_V := .inl (false, hka02_246)
def hka02_248 : ai_C := .inr (.inr (8, [hka02_32, hka02_33, hka02_35, hka02_37, hka02_38, hka02_39, hka02_41, hka02_42, hka02_44, hka02_46, hka02_47, hka02_49, hka02_214, hka02_53, hka02_54, hka02_56, hka02_135, hka02_160, hka02_108, hka02_144, hka02_247, hka02_160, hka02_69, hka02_71, hka02_72, hka02_73, hka02_75, hka02_76, hka02_77, hka02_78, hka02_79, hka02_80, hka02_81, hka02_83]))
def hka02_249 : ai_N := (.ofNat 0, .ofNat 60, [(18, .ofNat 0, .ofNat 60)])
def hka02_250 : ai_C := .inl (.int, [(1, hka02_249), (60, hka02_192), (17, hka02_193), (1, hka02_194), (1, hka02_195), (1, hka02_196), (1, hka02_197), (5, hka02_167), (1, hka02_198), (8, hka02_199)])
def hka02_251 : Int × Int := (.ofNat 0, .ofNat 59)
def hka02_252 : ai_E := [hka02_18, hka02_19, hka02_20, hka02_21, hka02_22, hka02_0, hka02_21, hka02_23, hka02_129, hka02_130, hka02_24, hka02_93, hka02_21, hka02_87, hka02_24, hka02_27, hka02_0, hka02_22, hka02_251, hka02_186, hka02_187, hka02_188, hka02_189, hka02_22]
def hka02_253 : ai_C := .inr (.inr (8, [hka02_32, hka02_33, hka02_35, hka02_37, hka02_38, hka02_39, hka02_41, hka02_42, hka02_44, hka02_46, hka02_47, hka02_49, hka02_214, hka02_53, hka02_54, hka02_133, hka02_135, hka02_137, hka02_13, hka02_214, hka02_139, hka02_68, hka02_69, hka02_71, hka02_72, hka02_73, hka02_75, hka02_76, hka02_77, hka02_78, hka02_79, hka02_80, hka02_81, hka02_83]))
def hka02_254 : ai_N := (.ofNat 1, .ofNat 60, [(18, .ofNat 1, .ofNat 60)])
def hka02_255 : ai_C := .inl (.int, [(1, hka02_254), (60, hka02_192), (17, hka02_193), (1, hka02_194), (1, hka02_195), (1, hka02_196), (1, hka02_197), (5, hka02_167), (1, hka02_198), (8, hka02_199)])
def hka02_256 : ai_C := .inr (.inr (8, [hka02_32, hka02_33, hka02_35, hka02_37, hka02_38, hka02_39, hka02_41, hka02_42, hka02_44, hka02_46, hka02_47, hka02_49, hka02_214, hka02_53, hka02_54, hka02_133, hka02_148, hka02_137, hka02_31, hka02_214, hka02_139, hka02_68, hka02_69, hka02_71, hka02_72, hka02_73, hka02_75, hka02_76, hka02_77, hka02_78, hka02_79, hka02_80, hka02_81, hka02_83]))
def hka02_257 : Int × Int := (.ofNat 2, .ofNat 3)
def hka02_258 : ai_E := [hka02_18, hka02_19, hka02_20, hka02_21, hka02_22, hka02_0, hka02_21, hka02_23, hka02_24, hka02_24, hka02_24, hka02_257, hka02_0, hka02_87, hka02_24, hka02_27, hka02_0, hka02_22, hka02_185, hka02_186, hka02_187, hka02_188, hka02_189, hka02_22]
def hka02_259 : ai_C := .inr (.inr (8, [hka02_32, hka02_33, hka02_35, hka02_37, hka02_38, hka02_39, hka02_41, hka02_42, hka02_44, hka02_46, hka02_47, hka02_49, hka02_214, hka02_53, hka02_54, hka02_56, hka02_135, hka02_160, hka02_31, hka02_144, hka02_223, hka02_160, hka02_69, hka02_71, hka02_72, hka02_73, hka02_75, hka02_76, hka02_77, hka02_78, hka02_79, hka02_80, hka02_81, hka02_83]))
def hka02_260 : ai_E := [hka02_18, hka02_19, hka02_20, hka02_21, hka02_22, hka02_0, hka02_21, hka02_23, hka02_24, hka02_24, hka02_24, hka02_93, hka02_21, hka02_87, hka02_24, hka02_27, hka02_0, hka02_22, hka02_251, hka02_186, hka02_187, hka02_188, hka02_189, hka02_22]
def hka02_261 : ai_C := .inr (.inr (8, [hka02_32, hka02_33, hka02_35, hka02_37, hka02_38, hka02_39, hka02_41, hka02_42, hka02_44, hka02_46, hka02_47, hka02_49, hka02_214, hka02_53, hka02_54, hka02_56, hka02_135, hka02_135, hka02_11, hka02_214, hka02_139, hka02_68, hka02_69, hka02_71, hka02_72, hka02_73, hka02_75, hka02_76, hka02_77, hka02_78, hka02_79, hka02_80, hka02_81, hka02_83]))
/-- NeverAgainModel.readRung -/
def ka_304 : ai_K := (198, 2, (hka02_190, [hka02_29, hka02_3, hka02_3], [], hka02_202), [.inr (59, 2), .inr (59, 3), .inr (59, 6), .inr (59, 8), .inr (59, 9), .inr (59, 11), .inr (59, 12), .inr (59, 13), .inr (59, 15), .inr (59, 16), .inr (59, 17), .inr (59, 18), .inr (59, 19), .inr (59, 20), .inr (59, 21), .inr (59, 23), .inr (59, 26), .inr (59, 33), .inr (64, 0), .inr (64, 78), .inr (64, 79), .inr (64, 80), .inr (64, 81), .inr (64, 87)], [(none, hka02_234, []), (none, hka02_235, []), (none, hka02_236, []), (none, hka02_237, []), (none, hka02_238, [(59, hka02_241)]), (none, hka02_242, [(59, hka02_245)]), (none, hka02_213, [(59, hka02_248), (64, hka02_250)]), (none, hka02_252, [(59, hka02_253), (64, hka02_255)]), (none, hka02_252, [(59, hka02_256), (64, hka02_255)]), (none, hka02_258, [(59, hka02_259), (64, hka02_250)]), (none, hka02_260, [(59, hka02_261), (64, hka02_255)])])
def hka02_262 : ai_E := [hka02_18, hka02_19, hka02_20, hka02_21, hka02_22, hka02_0, hka02_21, hka02_23, hka02_24, hka02_24, hka02_24, hka02_87, hka02_0, hka02_26, hka02_24, hka02_27, hka02_0, hka02_22, hka02_185, hka02_186, hka02_187, hka02_188, hka02_189, hka02_22, hka02_185]
def hka02_263 : ai_C := .inr (.inr (8, [hka02_32, hka02_33, hka02_35, hka02_37, hka02_38, hka02_39, hka02_41, hka02_42, hka02_44, hka02_46, hka02_47, hka02_49, hka02_51, hka02_53, hka02_54, hka02_56, hka02_58, hka02_60, hka02_240, hka02_64, hka02_66, hka02_68, hka02_69, hka02_71, hka02_72, hka02_73, hka02_75, hka02_76, hka02_77, hka02_78, hka02_79, hka02_80, hka02_81, hka02_83]))
def hka02_264 : Bool × Option ai_C := (false, some hka02_263)
def hka02_265 : ai_N := (.ofNat 0, .ofNat 60, [(24, .ofNat 0, .ofNat 0), (18, .ofNat 0, .ofNat 0)])
def hka02_266 : ai_C := .inl (.int, [(1, hka02_265), (60, hka02_192), (17, hka02_193), (1, hka02_194), (1, hka02_195), (1, hka02_196), (1, hka02_197), (5, hka02_167), (1, hka02_198), (8, hka02_199)])
def hka02_267 : Bool × Option ai_C := (false, some hka02_266)
def hka02_268 : ai_W := [hka02_8, hka02_8, hka02_8, hka02_8, hka02_8, hka02_8, hka02_8, hka02_8, hka02_8, hka02_8, hka02_8, hka02_8, hka02_8, hka02_8, hka02_8, hka02_8, hka02_8, hka02_8, hka02_8, hka02_8, hka02_8, hka02_8, hka02_8, hka02_8, hka02_8, hka02_8, hka02_8, hka02_8, hka02_8, hka02_8, hka02_8, hka02_8, hka02_8, hka02_8, hka02_8, hka02_8, hka02_8, hka02_8, hka02_8, hka02_8, hka02_8, hka02_8, hka02_8, hka02_8, hka02_8, hka02_8, hka02_8, hka02_8, hka02_8, hka02_8, hka02_8, hka02_8, hka02_8, hka02_8, hka02_8, hka02_8, hka02_8, hka02_8, hka02_8, hka02_264, hka02_8, hka02_8, hka02_8, hka02_8, hka02_267, hka02_8, hka02_127, hka02_8, hka02_8, hka02_8, hka02_8, hka02_8, hka02_8, hka02_8, hka02_8, hka02_8]
def kad_304_0 : ai_Nd := (2, (hka02_262, [hka02_29, hka02_13, hka02_3], [], hka02_268), [.inr (64, 0)], [.inl 99997, .inl 2, .inr (true, .ofNat 60, 24), .inl 100000])
def hka02_269 : ai_E := [hka02_18, hka02_19, hka02_20, hka02_21, hka02_22, hka02_0, hka02_21, hka02_23, hka02_24, hka02_24, hka02_24, hka02_16, hka02_0, hka02_26, hka02_24, hka02_27, hka02_0, hka02_22, hka02_185, hka02_186, hka02_187, hka02_188, hka02_189, hka02_22, hka02_185]
def hka02_270 : ai_C := .inr (.inr (8, [hka02_32, hka02_33, hka02_35, hka02_37, hka02_38, hka02_39, hka02_41, hka02_42, hka02_44, hka02_46, hka02_47, hka02_49, hka02_51, hka02_53, hka02_54, hka02_56, hka02_58, hka02_60, hka02_244, hka02_64, hka02_66, hka02_68, hka02_69, hka02_71, hka02_72, hka02_73, hka02_75, hka02_76, hka02_77, hka02_78, hka02_79, hka02_80, hka02_81, hka02_83]))
def hka02_271 : Bool × Option ai_C := (false, some hka02_270)
def hka02_272 : ai_W := [hka02_8, hka02_8, hka02_8, hka02_8, hka02_8, hka02_8, hka02_8, hka02_8, hka02_8, hka02_8, hka02_8, hka02_8, hka02_8, hka02_8, hka02_8, hka02_8, hka02_8, hka02_8, hka02_8, hka02_8, hka02_8, hka02_8, hka02_8, hka02_8, hka02_8, hka02_8, hka02_8, hka02_8, hka02_8, hka02_8, hka02_8, hka02_8, hka02_8, hka02_8, hka02_8, hka02_8, hka02_8, hka02_8, hka02_8, hka02_8, hka02_8, hka02_8, hka02_8, hka02_8, hka02_8, hka02_8, hka02_8, hka02_8, hka02_8, hka02_8, hka02_8, hka02_8, hka02_8, hka02_8, hka02_8, hka02_8, hka02_8, hka02_8, hka02_8, hka02_271, hka02_8, hka02_8, hka02_8, hka02_8, hka02_267, hka02_8, hka02_127, hka02_8, hka02_8, hka02_8, hka02_8, hka02_8, hka02_8, hka02_8, hka02_8, hka02_8]
def kad_304_1 : ai_Nd := (2, (hka02_269, [hka02_29, hka02_13, hka02_3], [], hka02_272), [.inr (64, 0)], [.inl 99997, .inl 2, .inr (true, .ofNat 60, 24), .inl 100000])
def hka02_273 : ai_E := [hka02_18, hka02_19, hka02_20, hka02_21, hka02_22, hka02_0, hka02_21, hka02_23, hka02_24, hka02_24, hka02_24, hka02_93, hka02_0, hka02_26, hka02_24, hka02_27, hka02_0, hka02_22, hka02_185, hka02_186, hka02_187, hka02_188, hka02_189, hka02_22, hka02_185]
def hka02_274 : ai_C := .inr (.inr (8, [hka02_32, hka02_33, hka02_35, hka02_37, hka02_38, hka02_39, hka02_41, hka02_42, hka02_44, hka02_46, hka02_47, hka02_49, hka02_51, hka02_53, hka02_54, hka02_56, hka02_58, hka02_60, hka02_96, hka02_64, hka02_66, hka02_68, hka02_69, hka02_71, hka02_72, hka02_73, hka02_75, hka02_76, hka02_77, hka02_78, hka02_79, hka02_80, hka02_81, hka02_83]))
def hka02_275 : Bool × Option ai_C := (false, some hka02_274)
def hka02_276 : ai_W := [hka02_8, hka02_8, hka02_8, hka02_8, hka02_8, hka02_8, hka02_8, hka02_8, hka02_8, hka02_8, hka02_8, hka02_8, hka02_8, hka02_8, hka02_8, hka02_8, hka02_8, hka02_8, hka02_8, hka02_8, hka02_8, hka02_8, hka02_8, hka02_8, hka02_8, hka02_8, hka02_8, hka02_8, hka02_8, hka02_8, hka02_8, hka02_8, hka02_8, hka02_8, hka02_8, hka02_8, hka02_8, hka02_8, hka02_8, hka02_8, hka02_8, hka02_8, hka02_8, hka02_8, hka02_8, hka02_8, hka02_8, hka02_8, hka02_8, hka02_8, hka02_8, hka02_8, hka02_8, hka02_8, hka02_8, hka02_8, hka02_8, hka02_8, hka02_8, hka02_275, hka02_8, hka02_8, hka02_8, hka02_8, hka02_267, hka02_8, hka02_127, hka02_8, hka02_8, hka02_8, hka02_8, hka02_8, hka02_8, hka02_8, hka02_8, hka02_8]
def kad_304_2 : ai_Nd := (2, (hka02_273, [hka02_29, hka02_13, hka02_3], [], hka02_276), [.inr (64, 0)], [.inl 99997, .inl 3, .inr (true, .ofNat 60, 24), .inl 100000])
def hka02_277 : ai_E := [hka02_18, hka02_19, hka02_20, hka02_21, hka02_22, hka02_0, hka02_21, hka02_23, hka02_24, hka02_24, hka02_24, hka02_113, hka02_0, hka02_26, hka02_24, hka02_27, hka02_0, hka02_22, hka02_185, hka02_186, hka02_187, hka02_188, hka02_189, hka02_22, hka02_185]
def hka02_278 : ai_N := (.ofNat 3, .ofNat 3, [(11, .ofNat 0, .ofNat 0)])
def hka02_279 : ai_V := .inl (false, hka02_278)
def hka02_280 : ai_C := .inr (.inr (8, [hka02_32, hka02_33, hka02_35, hka02_37, hka02_38, hka02_39, hka02_41, hka02_42, hka02_44, hka02_46, hka02_47, hka02_49, hka02_51, hka02_53, hka02_54, hka02_56, hka02_58, hka02_60, hka02_279, hka02_64, hka02_66, hka02_68, hka02_69, hka02_71, hka02_72, hka02_73, hka02_75, hka02_76, hka02_77, hka02_78, hka02_79, hka02_80, hka02_81, hka02_83]))
def hka02_281 : Bool × Option ai_C := (false, some hka02_280)
def hka02_282 : ai_W := [hka02_8, hka02_8, hka02_8, hka02_8, hka02_8, hka02_8, hka02_8, hka02_8, hka02_8, hka02_8, hka02_8, hka02_8, hka02_8, hka02_8, hka02_8, hka02_8, hka02_8, hka02_8, hka02_8, hka02_8, hka02_8, hka02_8, hka02_8, hka02_8, hka02_8, hka02_8, hka02_8, hka02_8, hka02_8, hka02_8, hka02_8, hka02_8, hka02_8, hka02_8, hka02_8, hka02_8, hka02_8, hka02_8, hka02_8, hka02_8, hka02_8, hka02_8, hka02_8, hka02_8, hka02_8, hka02_8, hka02_8, hka02_8, hka02_8, hka02_8, hka02_8, hka02_8, hka02_8, hka02_8, hka02_8, hka02_8, hka02_8, hka02_8, hka02_8, hka02_281, hka02_8, hka02_8, hka02_8, hka02_8, hka02_267, hka02_8, hka02_127, hka02_8, hka02_8, hka02_8, hka02_8, hka02_8, hka02_8, hka02_8, hka02_8, hka02_8]
def kad_304_3 : ai_Nd := (2, (hka02_277, [hka02_29, hka02_13, hka02_3], [], hka02_282), [.inr (64, 0)], [.inl 99997, .inl 2, .inr (true, .ofNat 60, 24), .inl 100000])
def hka02_283 : ai_E := [hka02_18, hka02_19, hka02_20, hka02_21, hka02_22, hka02_0, hka02_21, hka02_23, hka02_24, hka02_24, hka02_24, hka02_87, hka02_0, hka02_87, hka02_24, hka02_27, hka02_0, hka02_22, hka02_185, hka02_186, hka02_187, hka02_188, hka02_189, hka02_22, hka02_185]
def hka02_284 : Bool × Option ai_C := (true, some hka02_241)
def hka02_285 : ai_W := [hka02_8, hka02_8, hka02_8, hka02_8, hka02_8, hka02_8, hka02_8, hka02_8, hka02_8, hka02_8, hka02_8, hka02_8, hka02_8, hka02_8, hka02_8, hka02_8, hka02_8, hka02_8, hka02_8, hka02_8, hka02_8, hka02_8, hka02_8, hka02_8, hka02_8, hka02_8, hka02_8, hka02_8, hka02_8, hka02_8, hka02_8, hka02_8, hka02_8, hka02_8, hka02_8, hka02_8, hka02_8, hka02_8, hka02_8, hka02_8, hka02_8, hka02_8, hka02_8, hka02_8, hka02_8, hka02_8, hka02_8, hka02_8, hka02_8, hka02_8, hka02_8, hka02_8, hka02_8, hka02_8, hka02_8, hka02_8, hka02_8, hka02_8, hka02_8, hka02_284, hka02_8, hka02_8, hka02_8, hka02_8, hka02_267, hka02_8, hka02_127, hka02_8, hka02_8, hka02_8, hka02_8, hka02_8, hka02_8, hka02_8, hka02_8, hka02_8]
def kad_304_4 : ai_Nd := (2, (hka02_283, [hka02_29, hka02_11, hka02_11], [], hka02_285), [.inr (64, 0)], [.inl 99997, .inl 1, .inr (true, .ofNat 60, 24), .inl 100000])
def hka02_286 : ai_E := [hka02_18, hka02_19, hka02_20, hka02_21, hka02_22, hka02_0, hka02_21, hka02_23, hka02_24, hka02_24, hka02_24, hka02_16, hka02_0, hka02_87, hka02_24, hka02_27, hka02_0, hka02_22, hka02_185, hka02_186, hka02_187, hka02_188, hka02_189, hka02_22, hka02_185]
def hka02_287 : Bool × Option ai_C := (true, some hka02_245)
def hka02_288 : ai_W := [hka02_8, hka02_8, hka02_8, hka02_8, hka02_8, hka02_8, hka02_8, hka02_8, hka02_8, hka02_8, hka02_8, hka02_8, hka02_8, hka02_8, hka02_8, hka02_8, hka02_8, hka02_8, hka02_8, hka02_8, hka02_8, hka02_8, hka02_8, hka02_8, hka02_8, hka02_8, hka02_8, hka02_8, hka02_8, hka02_8, hka02_8, hka02_8, hka02_8, hka02_8, hka02_8, hka02_8, hka02_8, hka02_8, hka02_8, hka02_8, hka02_8, hka02_8, hka02_8, hka02_8, hka02_8, hka02_8, hka02_8, hka02_8, hka02_8, hka02_8, hka02_8, hka02_8, hka02_8, hka02_8, hka02_8, hka02_8, hka02_8, hka02_8, hka02_8, hka02_287, hka02_8, hka02_8, hka02_8, hka02_8, hka02_267, hka02_8, hka02_127, hka02_8, hka02_8, hka02_8, hka02_8, hka02_8, hka02_8, hka02_8, hka02_8, hka02_8]
def kad_304_5 : ai_Nd := (2, (hka02_286, [hka02_29, hka02_11, hka02_11], [], hka02_288), [.inr (64, 0)], [.inl 99997, .inl 1, .inr (true, .ofNat 60, 24), .inl 100000])
def hka02_289 : ai_E := [hka02_18, hka02_19, hka02_20, hka02_21, hka02_22, hka02_0, hka02_21, hka02_23, hka02_24, hka02_24, hka02_24, hka02_93, hka02_0, hka02_87, hka02_24, hka02_27, hka02_0, hka02_22, hka02_185, hka02_186, hka02_187, hka02_188, hka02_189, hka02_22, hka02_185]
def hka02_290 : Bool × Option ai_C := (true, some hka02_248)
def hka02_291 : ai_N := (.ofNat 0, .ofNat 60, [(24, .ofNat 0, .ofNat 0), (18, .ofNat 0, .ofNat 60)])
def hka02_292 : ai_C := .inl (.int, [(1, hka02_291), (60, hka02_192), (17, hka02_193), (1, hka02_194), (1, hka02_195), (1, hka02_196), (1, hka02_197), (5, hka02_167), (1, hka02_198), (8, hka02_199)])
def hka02_293 : Bool × Option ai_C := (true, some hka02_292)
def hka02_294 : ai_W := [hka02_8, hka02_8, hka02_8, hka02_8, hka02_8, hka02_8, hka02_8, hka02_8, hka02_8, hka02_8, hka02_8, hka02_8, hka02_8, hka02_8, hka02_8, hka02_8, hka02_8, hka02_8, hka02_8, hka02_8, hka02_8, hka02_8, hka02_8, hka02_8, hka02_8, hka02_8, hka02_8, hka02_8, hka02_8, hka02_8, hka02_8, hka02_8, hka02_8, hka02_8, hka02_8, hka02_8, hka02_8, hka02_8, hka02_8, hka02_8, hka02_8, hka02_8, hka02_8, hka02_8, hka02_8, hka02_8, hka02_8, hka02_8, hka02_8, hka02_8, hka02_8, hka02_8, hka02_8, hka02_8, hka02_8, hka02_8, hka02_8, hka02_8, hka02_8, hka02_290, hka02_8, hka02_8, hka02_8, hka02_8, hka02_293, hka02_8, hka02_127, hka02_8, hka02_8, hka02_8, hka02_8, hka02_8, hka02_8, hka02_8, hka02_8, hka02_8]
def kad_304_6 : ai_Nd := (2, (hka02_289, [hka02_29, hka02_13, hka02_214], [], hka02_294), [.inr (64, 0)], [.inl 99997, .inl 1, .inr (true, .ofNat 60, 24), .inl 100000])
def hka02_295 : Int × Int := (.ofNat 1, .ofNat 60)
def hka02_296 : ai_E := [hka02_18, hka02_19, hka02_20, hka02_21, hka02_22, hka02_0, hka02_21, hka02_23, hka02_129, hka02_130, hka02_24, hka02_93, hka02_21, hka02_87, hka02_24, hka02_27, hka02_0, hka02_22, hka02_251, hka02_186, hka02_187, hka02_188, hka02_189, hka02_22, hka02_295]
def hka02_297 : Bool × Option ai_C := (true, some hka02_253)
def hka02_298 : ai_N := (.ofNat 1, .ofNat 60, [(24, .ofNat 0, .ofNat 0), (18, .ofNat 1, .ofNat 60)])
def hka02_299 : ai_C := .inl (.int, [(1, hka02_298), (60, hka02_192), (17, hka02_193), (1, hka02_194), (1, hka02_195), (1, hka02_196), (1, hka02_197), (5, hka02_167), (1, hka02_198), (8, hka02_199)])
def hka02_300 : Bool × Option ai_C := (true, some hka02_299)
def hka02_301 : ai_W := [hka02_8, hka02_8, hka02_8, hka02_8, hka02_8, hka02_8, hka02_8, hka02_8, hka02_8, hka02_8, hka02_8, hka02_8, hka02_8, hka02_8, hka02_8, hka02_8, hka02_8, hka02_8, hka02_8, hka02_8, hka02_8, hka02_8, hka02_8, hka02_8, hka02_8, hka02_8, hka02_8, hka02_8, hka02_8, hka02_8, hka02_8, hka02_8, hka02_8, hka02_8, hka02_8, hka02_8, hka02_8, hka02_8, hka02_8, hka02_8, hka02_8, hka02_8, hka02_8, hka02_8, hka02_8, hka02_8, hka02_8, hka02_8, hka02_8, hka02_8, hka02_8, hka02_8, hka02_8, hka02_8, hka02_8, hka02_8, hka02_8, hka02_8, hka02_8, hka02_297, hka02_8, hka02_8, hka02_8, hka02_8, hka02_300, hka02_8, hka02_127, hka02_8, hka02_8, hka02_8, hka02_8, hka02_8, hka02_8, hka02_8, hka02_8, hka02_8]
def kad_304_7 : ai_Nd := (2, (hka02_296, [hka02_29, hka02_11, hka02_214], [], hka02_301), [.inr (64, 0)], [.inl 99997, .inl 1, .inr (true, .ofNat 60, 24), .inl 100000])
def hka02_302 : ai_C := .inr (.inr (8, [hka02_32, hka02_33, hka02_35, hka02_37, hka02_38, hka02_39, hka02_41, hka02_42, hka02_44, hka02_46, hka02_47, hka02_49, hka02_214, hka02_53, hka02_54, hka02_133, hka02_135, hka02_137, hka02_108, hka02_144, hka02_139, hka02_68, hka02_69, hka02_71, hka02_72, hka02_73, hka02_75, hka02_76, hka02_77, hka02_78, hka02_79, hka02_80, hka02_81, hka02_83]))
def hka02_303 : Bool × Option ai_C := (true, some hka02_302)
def hka02_304 : ai_W := [hka02_8, hka02_8, hka02_8, hka02_8, hka02_8, hka02_8, hka02_8, hka02_8, hka02_8, hka02_8, hka02_8, hka02_8, hka02_8, hka02_8, hka02_8, hka02_8, hka02_8, hka02_8, hka02_8, hka02_8, hka02_8, hka02_8, hka02_8, hka02_8, hka02_8, hka02_8, hka02_8, hka02_8, hka02_8, hka02_8, hka02_8, hka02_8, hka02_8, hka02_8, hka02_8, hka02_8, hka02_8, hka02_8, hka02_8, hka02_8, hka02_8, hka02_8, hka02_8, hka02_8, hka02_8, hka02_8, hka02_8, hka02_8, hka02_8, hka02_8, hka02_8, hka02_8, hka02_8, hka02_8, hka02_8, hka02_8, hka02_8, hka02_8, hka02_8, hka02_303, hka02_8, hka02_8, hka02_8, hka02_8, hka02_300, hka02_8, hka02_127, hka02_8, hka02_8, hka02_8, hka02_8, hka02_8, hka02_8, hka02_8, hka02_8, hka02_8]
def kad_304_8 : ai_Nd := (2, (hka02_296, [hka02_29, hka02_13, hka02_214], [], hka02_304), [.inr (64, 0)], [.inl 99997, .inl 2, .inr (true, .ofNat 60, 24), .inl 100000])
def hka02_305 : Bool × Option ai_C := (true, some hka02_256)
def hka02_306 : ai_W := [hka02_8, hka02_8, hka02_8, hka02_8, hka02_8, hka02_8, hka02_8, hka02_8, hka02_8, hka02_8, hka02_8, hka02_8, hka02_8, hka02_8, hka02_8, hka02_8, hka02_8, hka02_8, hka02_8, hka02_8, hka02_8, hka02_8, hka02_8, hka02_8, hka02_8, hka02_8, hka02_8, hka02_8, hka02_8, hka02_8, hka02_8, hka02_8, hka02_8, hka02_8, hka02_8, hka02_8, hka02_8, hka02_8, hka02_8, hka02_8, hka02_8, hka02_8, hka02_8, hka02_8, hka02_8, hka02_8, hka02_8, hka02_8, hka02_8, hka02_8, hka02_8, hka02_8, hka02_8, hka02_8, hka02_8, hka02_8, hka02_8, hka02_8, hka02_8, hka02_305, hka02_8, hka02_8, hka02_8, hka02_8, hka02_300, hka02_8, hka02_127, hka02_8, hka02_8, hka02_8, hka02_8, hka02_8, hka02_8, hka02_8, hka02_8, hka02_8]
def kad_304_9 : ai_Nd := (2, (hka02_296, [hka02_29, hka02_11, hka02_214], [], hka02_306), [.inr (64, 0)], [.inl 99997, .inl 1, .inr (true, .ofNat 60, 24), .inl 100000])
def hka02_307 : ai_E := [hka02_18, hka02_19, hka02_20, hka02_21, hka02_22, hka02_0, hka02_21, hka02_23, hka02_24, hka02_24, hka02_24, hka02_257, hka02_0, hka02_87, hka02_24, hka02_27, hka02_0, hka02_22, hka02_185, hka02_186, hka02_187, hka02_188, hka02_189, hka02_22, hka02_185]
def hka02_308 : Bool × Option ai_C := (true, some hka02_259)
def hka02_309 : ai_W := [hka02_8, hka02_8, hka02_8, hka02_8, hka02_8, hka02_8, hka02_8, hka02_8, hka02_8, hka02_8, hka02_8, hka02_8, hka02_8, hka02_8, hka02_8, hka02_8, hka02_8, hka02_8, hka02_8, hka02_8, hka02_8, hka02_8, hka02_8, hka02_8, hka02_8, hka02_8, hka02_8, hka02_8, hka02_8, hka02_8, hka02_8, hka02_8, hka02_8, hka02_8, hka02_8, hka02_8, hka02_8, hka02_8, hka02_8, hka02_8, hka02_8, hka02_8, hka02_8, hka02_8, hka02_8, hka02_8, hka02_8, hka02_8, hka02_8, hka02_8, hka02_8, hka02_8, hka02_8, hka02_8, hka02_8, hka02_8, hka02_8, hka02_8, hka02_8, hka02_308, hka02_8, hka02_8, hka02_8, hka02_8, hka02_293, hka02_8, hka02_127, hka02_8, hka02_8, hka02_8, hka02_8, hka02_8, hka02_8, hka02_8, hka02_8, hka02_8]
def kad_304_10 : ai_Nd := (2, (hka02_307, [hka02_29, hka02_11, hka02_214], [], hka02_309), [.inr (64, 0)], [.inl 99997, .inl 1, .inr (true, .ofNat 60, 24), .inl 100000])
def hka02_310 : ai_E := [hka02_18, hka02_19, hka02_20, hka02_21, hka02_22, hka02_0, hka02_21, hka02_23, hka02_24, hka02_24, hka02_24, hka02_93, hka02_21, hka02_87, hka02_24, hka02_27, hka02_0, hka02_22, hka02_251, hka02_186, hka02_187, hka02_188, hka02_189, hka02_22, hka02_295]
def hka02_311 : Bool × Option ai_C := (true, some hka02_261)
def hka02_312 : ai_W := [hka02_8, hka02_8, hka02_8, hka02_8, hka02_8, hka02_8, hka02_8, hka02_8, hka02_8, hka02_8, hka02_8, hka02_8, hka02_8, hka02_8, hka02_8, hka02_8, hka02_8, hka02_8, hka02_8, hka02_8, hka02_8, hka02_8, hka02_8, hka02_8, hka02_8, hka02_8, hka02_8, hka02_8, hka02_8, hka02_8, hka02_8, hka02_8, hka02_8, hka02_8, hka02_8, hka02_8, hka02_8, hka02_8, hka02_8, hka02_8, hka02_8, hka02_8, hka02_8, hka02_8, hka02_8, hka02_8, hka02_8, hka02_8, hka02_8, hka02_8, hka02_8, hka02_8, hka02_8, hka02_8, hka02_8, hka02_8, hka02_8, hka02_8, hka02_8, hka02_311, hka02_8, hka02_8, hka02_8, hka02_8, hka02_300, hka02_8, hka02_127, hka02_8, hka02_8, hka02_8, hka02_8, hka02_8, hka02_8, hka02_8, hka02_8, hka02_8]
def kad_304_11 : ai_Nd := (2, (hka02_310, [hka02_29, hka02_11, hka02_214], [], hka02_312), [.inr (64, 0)], [.inl 99997, .inl 1, .inr (true, .ofNat 60, 24), .inl 100000])
def kan_304 : List ai_Nd := [kad_304_0, kad_304_1, kad_304_2, kad_304_3, kad_304_4, kad_304_5, kad_304_6, kad_304_7, kad_304_8, kad_304_9, kad_304_10, kad_304_11]
set_option maxRecDepth 1000000 in
theorem kav_304 : ai_ckv ka_304 [.inl 100000, .inl 0, .inl 0, .inl 0] kan_304 = true := by decide +kernel
set_option maxRecDepth 1000000 in
theorem kak_304_11 : ai_ckn [ka_287, ka_288, ka_303, ka_262] [(2, .inr (59, 18), [.ofNat 1, .ofNat 2, .ofNat 3])] ka_304 [.inl 100000, .inl 0, .inl 0, .inl 0] kan_304 66 kad_304_11 = true := by decide +kernel
set_option maxRecDepth 1000000 in
theorem kak_304_10 : ai_ckn [ka_287, ka_288, ka_303, ka_262] [(2, .inr (59, 18), [.ofNat 1, .ofNat 2, .ofNat 3])] ka_304 [.inl 100000, .inl 0, .inl 0, .inl 0] kan_304 66 kad_304_10 = true := by decide +kernel
set_option maxRecDepth 1000000 in
theorem kak_304_9 : ai_ckn [ka_287, ka_288, ka_303, ka_262] [(2, .inr (59, 18), [.ofNat 1, .ofNat 2, .ofNat 3])] ka_304 [.inl 100000, .inl 0, .inl 0, .inl 0] kan_304 66 kad_304_9 = true := by decide +kernel
set_option maxRecDepth 1000000 in
theorem kak_304_8 : ai_ckn [ka_287, ka_288, ka_303, ka_262] [(2, .inr (59, 18), [.ofNat 1, .ofNat 2, .ofNat 3])] ka_304 [.inl 100000, .inl 0, .inl 0, .inl 0] kan_304 66 kad_304_8 = true := by decide +kernel
set_option maxRecDepth 1000000 in
theorem kak_304_7 : ai_ckn [ka_287, ka_288, ka_303, ka_262] [(2, .inr (59, 18), [.ofNat 1, .ofNat 2, .ofNat 3])] ka_304 [.inl 100000, .inl 0, .inl 0, .inl 0] kan_304 66 kad_304_7 = true := by decide +kernel
set_option maxRecDepth 1000000 in
theorem kak_304_6 : ai_ckn [ka_287, ka_288, ka_303, ka_262] [(2, .inr (59, 18), [.ofNat 1, .ofNat 2, .ofNat 3])] ka_304 [.inl 100000, .inl 0, .inl 0, .inl 0] kan_304 66 kad_304_6 = true := by decide +kernel
set_option maxRecDepth 1000000 in
theorem kak_304_5 : ai_ckn [ka_287, ka_288, ka_303, ka_262] [(2, .inr (59, 18), [.ofNat 1, .ofNat 2, .ofNat 3])] ka_304 [.inl 100000, .inl 0, .inl 0, .inl 0] kan_304 66 kad_304_5 = true := by decide +kernel
set_option maxRecDepth 1000000 in
theorem kak_304_4 : ai_ckn [ka_287, ka_288, ka_303, ka_262] [(2, .inr (59, 18), [.ofNat 1, .ofNat 2, .ofNat 3])] ka_304 [.inl 100000, .inl 0, .inl 0, .inl 0] kan_304 66 kad_304_4 = true := by decide +kernel
set_option maxRecDepth 1000000 in
theorem kak_304_3 : ai_ckn [ka_287, ka_288, ka_303, ka_262] [(2, .inr (59, 18), [.ofNat 1, .ofNat 2, .ofNat 3])] ka_304 [.inl 100000, .inl 0, .inl 0, .inl 0] kan_304 66 kad_304_3 = true := by decide +kernel
set_option maxRecDepth 1000000 in
theorem kak_304_2 : ai_ckn [ka_287, ka_288, ka_303, ka_262] [(2, .inr (59, 18), [.ofNat 1, .ofNat 2, .ofNat 3])] ka_304 [.inl 100000, .inl 0, .inl 0, .inl 0] kan_304 66 kad_304_2 = true := by decide +kernel
set_option maxRecDepth 1000000 in
theorem kak_304_1 : ai_ckn [ka_287, ka_288, ka_303, ka_262] [(2, .inr (59, 18), [.ofNat 1, .ofNat 2, .ofNat 3])] ka_304 [.inl 100000, .inl 0, .inl 0, .inl 0] kan_304 66 kad_304_1 = true := by decide +kernel
set_option maxRecDepth 1000000 in
theorem kak_304_0 : ai_ckn [ka_287, ka_288, ka_303, ka_262] [(2, .inr (59, 18), [.ofNat 1, .ofNat 2, .ofNat 3])] ka_304 [.inl 100000, .inl 0, .inl 0, .inl 0] kan_304 66 kad_304_0 = true := by decide +kernel
set_option maxRecDepth 1000000 in
theorem kak_304_e : ai_ckn [ka_287, ka_288, ka_303, ka_262] [(2, .inr (59, 18), [.ofNat 1, .ofNat 2, .ofNat 3])] ka_304 [.inl 100000, .inl 0, .inl 0, .inl 0] kan_304 66 (0, ka_304.2.2.1, [], [.inl 100000, .inl 0, .inl 0, .inl 0]) = true := by decide +kernel
theorem kak_304 : ai_ck [ka_287, ka_288, ka_303, ka_262] [(2, .inr (59, 18), [.ofNat 1, .ofNat 2, .ofNat 3])] ka_304 [.inl 100000, .inl 0, .inl 0, .inl 0] kan_304 66 = true := ai_ck_of rfl kav_304 (List.forall_mem_cons.mpr ⟨kak_304_e, List.forall_mem_cons.mpr ⟨kak_304_0, List.forall_mem_cons.mpr ⟨kak_304_1, List.forall_mem_cons.mpr ⟨kak_304_2, List.forall_mem_cons.mpr ⟨kak_304_3, List.forall_mem_cons.mpr ⟨kak_304_4, List.forall_mem_cons.mpr ⟨kak_304_5, List.forall_mem_cons.mpr ⟨kak_304_6, List.forall_mem_cons.mpr ⟨kak_304_7, List.forall_mem_cons.mpr ⟨kak_304_8, List.forall_mem_cons.mpr ⟨kak_304_9, List.forall_mem_cons.mpr ⟨kak_304_10, List.forall_mem_cons.mpr ⟨kak_304_11, fun _ h => absurd h List.not_mem_nil⟩⟩⟩⟩⟩⟩⟩⟩⟩⟩⟩⟩⟩)
theorem kah_304 : ai_holds ka_304 := ai_thm kak_304 (ai_cons kah_287 (ai_cons kah_288 (ai_cons kah_303 (ai_cons kah_262 ai_nil))))
def hka02_313 : ai_N := (.ofNat 6, .ofNat 6, [])
def hka02_314 : ai_V := .inl (false, hka02_313)
/-- NeverAgainModel.readLineOf -/
def ka_305 : ai_K := (161, 3, (hka02_190, [hka02_29, hka02_314, hka02_3], [], hka02_202), [.inr (59, 2), .inr (59, 3), .inr (59, 6), .inr (59, 8), .inr (59, 9), .inr (59, 11), .inr (59, 12), .inr (59, 13), .inr (59, 15), .inr (59, 16), .inr (59, 17), .inr (59, 18), .inr (59, 19), .inr (59, 20), .inr (59, 21), .inr (59, 23), .inr (59, 26), .inr (59, 33), .inr (64, 0), .inr (64, 78), .inr (64, 79), .inr (64, 80), .inr (64, 81), .inr (64, 87)], [(none, hka02_260, [(59, hka02_261), (64, hka02_255)]), (none, hka02_258, [(59, hka02_259), (64, hka02_250)]), (none, hka02_252, [(59, hka02_256), (64, hka02_255)]), (none, hka02_252, [(59, hka02_253), (64, hka02_255)]), (none, hka02_213, [(59, hka02_248), (64, hka02_250)]), (none, hka02_242, [(59, hka02_245)]), (none, hka02_238, [(59, hka02_241)]), (none, hka02_237, []), (none, hka02_236, []), (none, hka02_235, []), (none, hka02_234, [])])
def kan_305 : List ai_Nd := []
set_option maxRecDepth 1000000 in
theorem kak_305 : ai_ck [ka_304] [] ka_305 [.inl 100000] kan_305 7 = true := by decide +kernel
theorem kah_305 : ai_holds ka_305 := ai_thm kak_305 (ai_cons kah_304 ai_nil)
def hka02_315 : ai_N := (.ofNat 4, .ofNat 4, [])
def hka02_316 : ai_V := .inl (true, hka02_315)
def hka02_317 : Int × Int := (.ofNat 5, .ofNat 2147483647)
def hka02_318 : Int × Int := (.ofNat 4, .ofNat 4)
def hka02_319 : Int × Int := (.ofNat 1, .ofNat 3)
/-- NeverAgainModel.in -/
def ka_306 : ai_K := (93, 0, ([hka02_0], [hka02_2, hka02_3, hka02_110, hka02_3, hka02_316, hka02_3], [], hka02_9), [.inl 0], [(some hka02_11, [hka02_317], []), (some hka02_13, [hka02_318], []), (some hka02_13, [hka02_319], []), (some hka02_13, [hka02_87], []), (some hka02_11, [hka02_115], [])])
def kan_306 : List ai_Nd := []
set_option maxRecDepth 1000000 in
theorem kak_306 : ai_ck [] [] ka_306 [.inl 100000] kan_306 12 = true := by decide +kernel
theorem kah_306 : ai_holds ka_306 := ai_thm kak_306 ai_nil
def hka02_320 : ai_V := .inl (false, hka02_315)
def hka02_321 : ai_N := (.ofNat 1, .ofNat 3, [(12, .ofNat 0, .ofNat 0)])
def hka02_322 : ai_V := .inl (false, hka02_321)
def hka02_323 : ai_E := [hka02_18, hka02_19, hka02_20, hka02_21, hka02_22, hka02_0, hka02_21, hka02_23, hka02_24, hka02_24, hka02_24, hka02_93, hka02_319, hka02_87, hka02_24, hka02_27, hka02_0, hka02_22]
def hka02_324 : ai_N := (.ofNat 4, .ofNat 4, [(12, .ofNat 0, .ofNat 0)])
def hka02_325 : ai_V := .inl (false, hka02_324)
def hka02_326 : ai_E := [hka02_18, hka02_19, hka02_20, hka02_21, hka02_22, hka02_0, hka02_21, hka02_23, hka02_24, hka02_24, hka02_24, hka02_93, hka02_318, hka02_87, hka02_24, hka02_27, hka02_0, hka02_22]
/-- NeverAgainModel.looked -/
def ka_307 : ai_K := (214, 1, (hka02_28, [hka02_29, hka02_11, hka02_320], [], hka02_86), [.inr (59, 2), .inr (59, 3), .inr (59, 6), .inr (59, 8), .inr (59, 9), .inr (59, 11), .inr (59, 12), .inr (59, 13), .inr (59, 15), .inr (59, 16), .inr (59, 17), .inr (59, 18), .inr (59, 19), .inr (59, 20), .inr (59, 21), .inr (59, 23), .inr (59, 26), .inr (59, 33)], [(some hka02_11, hka02_94, [(59, hka02_97)]), (some hka02_117, hka02_118, []), (some hka02_322, hka02_323, []), (some hka02_325, hka02_326, []), (some hka02_11, hka02_88, [(59, hka02_109)]), (some hka02_11, hka02_91, [])])
def kan_307 : List ai_Nd := []
set_option maxRecDepth 1000000 in
theorem kak_307 : ai_ck [ka_286, ka_294, ka_291, ka_293, ka_306] [] ka_307 [.inl 100000] kan_307 34 = true := by decide +kernel
theorem kah_307 : ai_holds ka_307 := ai_thm kak_307 (ai_cons kah_286 (ai_cons kah_294 (ai_cons kah_291 (ai_cons kah_293 (ai_cons kah_306 ai_nil)))))
def hka02_327 : ai_E := [hka02_18, hka02_19, hka02_20, hka02_21, hka02_22, hka02_0, hka02_21, hka02_23, hka02_129, hka02_130, hka02_24, hka02_93, hka02_318, hka02_87, hka02_24, hka02_27, hka02_0, hka02_22]
def hka02_328 : ai_C := .inr (.inr (8, [hka02_32, hka02_33, hka02_35, hka02_37, hka02_38, hka02_39, hka02_41, hka02_42, hka02_44, hka02_46, hka02_47, hka02_49, hka02_51, hka02_53, hka02_54, hka02_133, hka02_135, hka02_137, hka02_13, hka02_325, hka02_139, hka02_68, hka02_69, hka02_71, hka02_72, hka02_73, hka02_75, hka02_76, hka02_77, hka02_78, hka02_79, hka02_80, hka02_81, hka02_83]))
def hka02_329 : ai_C := .inr (.inr (8, [hka02_32, hka02_33, hka02_35, hka02_37, hka02_38, hka02_39, hka02_41, hka02_42, hka02_44, hka02_46, hka02_47, hka02_49, hka02_51, hka02_53, hka02_54, hka02_133, hka02_148, hka02_137, hka02_31, hka02_325, hka02_139, hka02_68, hka02_69, hka02_71, hka02_72, hka02_73, hka02_75, hka02_76, hka02_77, hka02_78, hka02_79, hka02_80, hka02_81, hka02_83]))
def hka02_330 : ai_C := .inr (.inr (8, [hka02_32, hka02_33, hka02_35, hka02_37, hka02_38, hka02_39, hka02_41, hka02_42, hka02_44, hka02_46, hka02_47, hka02_49, hka02_51, hka02_53, hka02_54, hka02_133, hka02_148, hka02_137, hka02_31, hka02_325, hka02_13, hka02_137, hka02_69, hka02_71, hka02_72, hka02_73, hka02_75, hka02_76, hka02_77, hka02_78, hka02_79, hka02_80, hka02_81, hka02_83]))
def hka02_331 : ai_C := .inr (.inr (8, [hka02_32, hka02_33, hka02_35, hka02_37, hka02_38, hka02_39, hka02_41, hka02_42, hka02_44, hka02_46, hka02_47, hka02_49, hka02_51, hka02_53, hka02_54, hka02_56, hka02_135, hka02_135, hka02_11, hka02_325, hka02_139, hka02_68, hka02_69, hka02_71, hka02_72, hka02_73, hka02_75, hka02_76, hka02_77, hka02_78, hka02_79, hka02_80, hka02_81, hka02_83]))
def hka02_332 : ai_E := [hka02_18, hka02_19, hka02_20, hka02_21, hka02_22, hka02_0, hka02_21, hka02_23, hka02_129, hka02_130, hka02_24, hka02_93, hka02_319, hka02_87, hka02_24, hka02_27, hka02_0, hka02_22]
def hka02_333 : ai_C := .inr (.inr (8, [hka02_32, hka02_33, hka02_35, hka02_37, hka02_38, hka02_39, hka02_41, hka02_42, hka02_44, hka02_46, hka02_47, hka02_49, hka02_51, hka02_53, hka02_54, hka02_133, hka02_135, hka02_137, hka02_13, hka02_322, hka02_139, hka02_68, hka02_69, hka02_71, hka02_72, hka02_73, hka02_75, hka02_76, hka02_77, hka02_78, hka02_79, hka02_80, hka02_81, hka02_83]))
def hka02_334 : ai_C := .inr (.inr (8, [hka02_32, hka02_33, hka02_35, hka02_37, hka02_38, hka02_39, hka02_41, hka02_42, hka02_44, hka02_46, hka02_47, hka02_49, hka02_51, hka02_53, hka02_54, hka02_133, hka02_148, hka02_137, hka02_31, hka02_322, hka02_139, hka02_68, hka02_69, hka02_71, hka02_72, hka02_73, hka02_75, hka02_76, hka02_77, hka02_78, hka02_79, hka02_80, hka02_81, hka02_83]))
def hka02_335 : ai_C := .inr (.inr (8, [hka02_32, hka02_33, hka02_35, hka02_37, hka02_38, hka02_39, hka02_41, hka02_42, hka02_44, hka02_46, hka02_47, hka02_49, hka02_51, hka02_53, hka02_54, hka02_133, hka02_148, hka02_137, hka02_31, hka02_322, hka02_13, hka02_137, hka02_69, hka02_71, hka02_72, hka02_73, hka02_75, hka02_76, hka02_77, hka02_78, hka02_79, hka02_80, hka02_81, hka02_83]))
def hka02_336 : ai_C := .inr (.inr (8, [hka02_32, hka02_33, hka02_35, hka02_37, hka02_38, hka02_39, hka02_41, hka02_42, hka02_44, hka02_46, hka02_47, hka02_49, hka02_51, hka02_53, hka02_54, hka02_56, hka02_135, hka02_135, hka02_11, hka02_322, hka02_139, hka02_68, hka02_69, hka02_71, hka02_72, hka02_73, hka02_75, hka02_76, hka02_77, hka02_78, hka02_79, hka02_80, hka02_81, hka02_83]))
/-- NeverAgainModel.readNumber -/
def ka_308 : ai_K := (194, 2, (hka02_28, [hka02_29, hka02_11, hka02_320, hka02_3], [], hka02_128), [.inr (59, 2), .inr (59, 3), .inr (59, 6), .inr (59, 8), .inr (59, 9), .inr (59, 11), .inr (59, 12), .inr (59, 13), .inr (59, 15), .inr (59, 16), .inr (59, 17), .inr (59, 18), .inr (59, 19), .inr (59, 20), .inr (59, 21), .inr (59, 23), .inr (59, 26), .inr (59, 33)], [(some hka02_11, hka02_91, []), (some hka02_11, hka02_88, [(59, hka02_109)]), (some hka02_325, hka02_327, [(59, hka02_328)]), (some hka02_325, hka02_327, [(59, hka02_145)]), (some hka02_325, hka02_327, [(59, hka02_146)]), (some hka02_325, hka02_327, [(59, hka02_329)]), (some hka02_325, hka02_327, [(59, hka02_330)]), (some hka02_325, hka02_326, [(59, hka02_331)]), (some hka02_322, hka02_332, [(59, hka02_333)]), (some hka02_322, hka02_332, [(59, hka02_145)]), (some hka02_322, hka02_332, [(59, hka02_146)]), (some hka02_322, hka02_332, [(59, hka02_334)]), (some hka02_322, hka02_332, [(59, hka02_335)]), (some hka02_322, hka02_323, [(59, hka02_336)]), (some hka02_117, hka02_157, [(59, hka02_158)]), (some hka02_11, hka02_94, [(59, hka02_163)]), (some hka02_117, hka02_157, [(59, hka02_146)]), (some hka02_117, hka02_157, [(59, hka02_164)]), (some hka02_117, hka02_157, [(59, hka02_165)]), (some hka02_117, hka02_118, [(59, hka02_166)])])
def kan_308 : List ai_Nd := []
set_option maxRecDepth 1000000 in
theorem kak_308 : ai_ck [ka_307, ka_262] [] ka_308 [.inl 100000] kan_308 10 = true := by decide +kernel
theorem kah_308 : ai_holds ka_308 := ai_thm kak_308 (ai_cons kah_307 (ai_cons kah_262 ai_nil))
def hka02_337 : Int × Int := (.ofNat 4, .ofNat 400)
def hka02_338 : Int × Int := (.ofNat 4, .ofNat 399)
def hka02_339 : ai_E := [hka02_18, hka02_19, hka02_20, hka02_21, hka02_22, hka02_0, hka02_21, hka02_23, hka02_337, hka02_337, hka02_338, hka02_0, hka02_24, hka02_27, hka02_0, hka02_22, hka02_185, hka02_186, hka02_187, hka02_188, hka02_189, hka02_25]
def hka02_340 : ai_N := (.ofNat 8, .ofNat 8, [])
def hka02_341 : ai_V := .inl (false, hka02_340)
def hka02_342 : ai_N := (.ofNat 4, .ofNat 400, [(8, .ofNat 0, .ofNat 0)])
def hka02_343 : ai_V := .inl (false, hka02_342)
def hka02_344 : ai_N := (.ofNat 4, .ofNat 400, [(9, .ofNat 0, .ofNat 0)])
def hka02_345 : ai_V := .inl (false, hka02_344)
def hka02_346 : ai_N := (.ofNat 4, .ofNat 399, [(10, .ofNat 0, .ofNat 0)])
def hka02_347 : ai_V := .inl (false, hka02_346)
def hka02_348 : ai_N := (.negSucc 2147483647, .ofNat 2147483647, [(11, .ofNat 0, .ofNat 0)])
def hka02_349 : ai_V := .inl (false, hka02_348)
def hka02_350 : ai_N := (.ofNat 0, .ofNat 400, [(12, .ofNat 0, .ofNat 0)])
def hka02_351 : ai_V := .inl (false, hka02_350)
def hka02_352 : ai_N := (.ofNat 0, .ofNat 130, [(13, .ofNat 0, .ofNat 0)])
def hka02_353 : ai_V := .inl (false, hka02_352)
def hka02_354 : ai_N := (.negSucc 2147483647, .ofNat 2147483647, [(14, .ofNat 0, .ofNat 0)])
def hka02_355 : ai_V := .inl (false, hka02_354)
def hka02_356 : ai_N := (.ofNat 0, .ofNat 4, [(15, .ofNat 0, .ofNat 0)])
def hka02_357 : ai_V := .inl (false, hka02_356)
def hka02_358 : ai_C := .inr (.inr (8, [hka02_32, hka02_33, hka02_35, hka02_37, hka02_38, hka02_39, hka02_41, hka02_42, hka02_44, hka02_46, hka02_47, hka02_49, hka02_51, hka02_53, hka02_54, hka02_343, hka02_345, hka02_347, hka02_13, hka02_349, hka02_11, hka02_351, hka02_69, hka02_353, hka02_72, hka02_73, hka02_355, hka02_76, hka02_77, hka02_78, hka02_79, hka02_80, hka02_81, hka02_357]))
def hka02_359 : Bool × Option ai_C := (false, some hka02_358)
def hka02_360 : ai_N := (.ofNat 0, .ofNat 60, [(16, .ofNat 0, .ofNat 0)])
def hka02_361 : ai_N := (.ofNat 0, .ofNat 20, [(17, .ofNat 0, .ofNat 0)])
def hka02_362 : ai_N := (.ofNat 0, .ofNat 1, [(18, .ofNat 0, .ofNat 0)])
def hka02_363 : ai_N := (.negSucc 3, .ofNat 2, [(19, .ofNat 0, .ofNat 0)])
def hka02_364 : ai_N := (.ofNat 0, .ofNat 5, [(20, .ofNat 0, .ofNat 0)])
def hka02_365 : ai_N := (.ofNat 0, .ofNat 3, [(21, .ofNat 0, .ofNat 0)])
def hka02_366 : ai_C := .inl (.int, [(1, hka02_360), (60, hka02_192), (17, hka02_193), (1, hka02_361), (1, hka02_362), (1, hka02_363), (1, hka02_364), (5, hka02_167), (1, hka02_365), (8, hka02_199)])
def hka02_367 : Bool × Option ai_C := (false, some hka02_366)
def hka02_368 : ai_W := [hka02_8, hka02_8, hka02_8, hka02_8, hka02_8, hka02_8, hka02_8, hka02_8, hka02_8, hka02_8, hka02_8, hka02_8, hka02_8, hka02_8, hka02_8, hka02_8, hka02_8, hka02_8, hka02_8, hka02_8, hka02_8, hka02_8, hka02_8, hka02_8, hka02_8, hka02_8, hka02_8, hka02_8, hka02_8, hka02_8, hka02_8, hka02_8, hka02_8, hka02_8, hka02_8, hka02_8, hka02_8, hka02_8, hka02_8, hka02_8, hka02_8, hka02_8, hka02_8, hka02_8, hka02_8, hka02_8, hka02_8, hka02_8, hka02_8, hka02_8, hka02_8, hka02_8, hka02_8, hka02_8, hka02_8, hka02_8, hka02_8, hka02_8, hka02_8, hka02_359, hka02_8, hka02_8, hka02_8, hka02_8, hka02_367, hka02_8, hka02_127, hka02_8, hka02_8, hka02_8, hka02_8, hka02_8, hka02_8, hka02_8, hka02_8, hka02_8]
def hka02_369 : ai_C := .inr (.inr (8, [hka02_32, hka02_33, hka02_35, hka02_37, hka02_38, hka02_39, hka02_41, hka02_42, hka02_44, hka02_46, hka02_47, hka02_49, hka02_51, hka02_53, hka02_54, hka02_343, hka02_345, hka02_347, hka02_13, hka02_349, hka02_108, hka02_347, hka02_69, hka02_353, hka02_72, hka02_73, hka02_355, hka02_76, hka02_77, hka02_78, hka02_79, hka02_80, hka02_81, hka02_357]))
def hka02_370 : ai_N := (.ofNat 1, .ofNat 4, [(21, .ofNat 1, .ofNat 1)])
def hka02_371 : ai_C := .inl (.int, [(1, hka02_360), (60, hka02_192), (17, hka02_193), (1, hka02_361), (1, hka02_362), (1, hka02_363), (1, hka02_364), (5, hka02_167), (1, hka02_370), (8, hka02_199)])
/-- NeverAgainModel.readLineOf -/
def ka_309 : ai_K := (161, 4, (hka02_339, [hka02_29, hka02_341, hka02_3], [], hka02_368), [.inr (59, 2), .inr (59, 3), .inr (59, 6), .inr (59, 8), .inr (59, 9), .inr (59, 11), .inr (59, 12), .inr (59, 13), .inr (59, 15), .inr (59, 16), .inr (59, 17), .inr (59, 19), .inr (59, 21), .inr (59, 23), .inr (59, 26), .inr (59, 33), .inr (64, 0), .inr (64, 78), .inr (64, 79), .inr (64, 80), .inr (64, 81), .inr (64, 87)], [(none, hka02_339, [(59, hka02_369), (64, hka02_371)])])
def kan_309 : List ai_Nd := []
set_option maxRecDepth 1000000 in
theorem kak_309 : ai_ck [ka_299, ka_308] [] ka_309 [.inl 100000] kan_309 37 = true := by decide +kernel
theorem kah_309 : ai_holds ka_309 := ai_thm kak_309 (ai_cons kah_299 (ai_cons kah_308 ai_nil))
def hka02_372 : ai_C := .inr (.inr (8, [hka02_32, hka02_33, hka02_35, hka02_37, hka02_38, hka02_39, hka02_41, hka02_42, hka02_44, hka02_46, hka02_47, hka02_49, hka02_51, hka02_53, hka02_54, hka02_343, hka02_345, hka02_347, hka02_108, hka02_349, hka02_11, hka02_351, hka02_69, hka02_353, hka02_72, hka02_73, hka02_355, hka02_76, hka02_77, hka02_78, hka02_79, hka02_80, hka02_81, hka02_357]))
def hka02_373 : Bool × Option ai_C := (false, some hka02_372)
def hka02_374 : ai_W := [hka02_8, hka02_8, hka02_8, hka02_8, hka02_8, hka02_8, hka02_8, hka02_8, hka02_8, hka02_8, hka02_8, hka02_8, hka02_8, hka02_8, hka02_8, hka02_8, hka02_8, hka02_8, hka02_8, hka02_8, hka02_8, hka02_8, hka02_8, hka02_8, hka02_8, hka02_8, hka02_8, hka02_8, hka02_8, hka02_8, hka02_8, hka02_8, hka02_8, hka02_8, hka02_8, hka02_8, hka02_8, hka02_8, hka02_8, hka02_8, hka02_8, hka02_8, hka02_8, hka02_8, hka02_8, hka02_8, hka02_8, hka02_8, hka02_8, hka02_8, hka02_8, hka02_8, hka02_8, hka02_8, hka02_8, hka02_8, hka02_8, hka02_8, hka02_8, hka02_373, hka02_8, hka02_8, hka02_8, hka02_8, hka02_367, hka02_8, hka02_127, hka02_8, hka02_8, hka02_8, hka02_8, hka02_8, hka02_8, hka02_8, hka02_8, hka02_8]
def hka02_375 : ai_N := (.ofNat 4, .ofNat 400, [(9, .ofNat 0, .ofNat 396)])
def hka02_376 : ai_V := .inl (false, hka02_375)
def hka02_377 : ai_C := .inr (.inr (8, [hka02_32, hka02_33, hka02_35, hka02_37, hka02_38, hka02_39, hka02_41, hka02_42, hka02_44, hka02_46, hka02_47, hka02_49, hka02_51, hka02_215, hka02_54, hka02_343, hka02_376, hka02_160, hka02_108, hka02_144, hka02_162, hka02_160, hka02_69, hka02_353, hka02_72, hka02_73, hka02_355, hka02_76, hka02_77, hka02_78, hka02_79, hka02_80, hka02_81, hka02_357]))
def hka02_378 : ai_E := [hka02_18, hka02_19, hka02_20, hka02_21, hka02_22, hka02_0, hka02_21, hka02_23, hka02_337, hka02_338, hka02_338, hka02_25, hka02_24, hka02_27, hka02_0, hka02_22, hka02_185, hka02_186, hka02_187, hka02_188, hka02_189, hka02_25]
def hka02_379 : ai_N := (.ofNat 4, .ofNat 399, [(9, .ofNat 0, .ofNat 395)])
def hka02_380 : ai_V := .inl (false, hka02_379)
def hka02_381 : ai_C := .inr (.inr (8, [hka02_32, hka02_33, hka02_35, hka02_37, hka02_38, hka02_39, hka02_41, hka02_42, hka02_44, hka02_46, hka02_47, hka02_49, hka02_51, hka02_168, hka02_54, hka02_343, hka02_376, hka02_380, hka02_13, hka02_62, hka02_108, hka02_380, hka02_69, hka02_353, hka02_72, hka02_73, hka02_355, hka02_76, hka02_77, hka02_78, hka02_79, hka02_80, hka02_81, hka02_357]))
def hka02_382 : ai_V := .inl (false, hka02_199)
def hka02_383 : ai_C := .inr (.inr (8, [hka02_32, hka02_33, hka02_35, hka02_37, hka02_38, hka02_39, hka02_41, hka02_42, hka02_44, hka02_46, hka02_47, hka02_49, hka02_51, hka02_168, hka02_54, hka02_343, hka02_376, hka02_376, hka02_11, hka02_382, hka02_11, hka02_351, hka02_69, hka02_353, hka02_72, hka02_73, hka02_355, hka02_76, hka02_77, hka02_78, hka02_79, hka02_80, hka02_81, hka02_357]))
def hka02_384 : ai_N := (.ofNat 5, .ofNat 400, [(9, .ofNat 1, .ofNat 396)])
def hka02_385 : ai_V := .inl (false, hka02_384)
def hka02_386 : ai_C := .inr (.inr (8, [hka02_32, hka02_33, hka02_35, hka02_37, hka02_38, hka02_39, hka02_41, hka02_42, hka02_44, hka02_46, hka02_47, hka02_49, hka02_51, hka02_215, hka02_54, hka02_343, hka02_385, hka02_380, hka02_31, hka02_382, hka02_223, hka02_380, hka02_69, hka02_353, hka02_72, hka02_73, hka02_355, hka02_76, hka02_77, hka02_78, hka02_79, hka02_80, hka02_81, hka02_357]))
def hka02_387 : ai_C := .inr (.inr (8, [hka02_32, hka02_33, hka02_35, hka02_37, hka02_38, hka02_39, hka02_41, hka02_42, hka02_44, hka02_46, hka02_47, hka02_49, hka02_51, hka02_168, hka02_54, hka02_343, hka02_385, hka02_380, hka02_31, hka02_382, hka02_11, hka02_351, hka02_69, hka02_353, hka02_72, hka02_73, hka02_355, hka02_76, hka02_77, hka02_78, hka02_79, hka02_80, hka02_81, hka02_357]))
def hka02_388 : ai_C := .inr (.inr (8, [hka02_32, hka02_33, hka02_35, hka02_37, hka02_38, hka02_39, hka02_41, hka02_42, hka02_44, hka02_46, hka02_47, hka02_49, hka02_51, hka02_168, hka02_54, hka02_343, hka02_376, hka02_380, hka02_108, hka02_144, hka02_11, hka02_351, hka02_69, hka02_353, hka02_72, hka02_73, hka02_355, hka02_76, hka02_77, hka02_78, hka02_79, hka02_80, hka02_81, hka02_357]))
def hka02_389 : ai_C := .inr (.inr (8, [hka02_32, hka02_33, hka02_35, hka02_37, hka02_38, hka02_39, hka02_41, hka02_42, hka02_44, hka02_46, hka02_47, hka02_49, hka02_51, hka02_168, hka02_54, hka02_343, hka02_376, hka02_380, hka02_13, hka02_382, hka02_11, hka02_351, hka02_69, hka02_353, hka02_72, hka02_73, hka02_355, hka02_76, hka02_77, hka02_78, hka02_79, hka02_80, hka02_81, hka02_357]))
def hka02_390 : ai_E := [hka02_18, hka02_19, hka02_20, hka02_21, hka02_22, hka02_0, hka02_21, hka02_23, hka02_337, hka02_337, hka02_338, hka02_25, hka02_24, hka02_27, hka02_0, hka02_22, hka02_185, hka02_186, hka02_187, hka02_188, hka02_189, hka02_25]
def hka02_391 : ai_C := .inr (.inr (8, [hka02_32, hka02_33, hka02_35, hka02_37, hka02_38, hka02_39, hka02_41, hka02_42, hka02_44, hka02_46, hka02_47, hka02_49, hka02_51, hka02_168, hka02_54, hka02_343, hka02_376, hka02_376, hka02_11, hka02_62, hka02_108, hka02_376, hka02_69, hka02_353, hka02_72, hka02_73, hka02_355, hka02_76, hka02_77, hka02_78, hka02_79, hka02_80, hka02_81, hka02_357]))
/-- NeverAgainModel.readLineOf -/
def ka_310 : ai_K := (161, 4, (hka02_339, [hka02_29, hka02_341, hka02_3], [], hka02_374), [.inr (59, 2), .inr (59, 3), .inr (59, 6), .inr (59, 8), .inr (59, 9), .inr (59, 11), .inr (59, 12), .inr (59, 13), .inr (59, 15), .inr (59, 16), .inr (59, 17), .inr (59, 19), .inr (59, 21), .inr (59, 23), .inr (59, 26), .inr (59, 33), .inr (64, 0), .inr (64, 78), .inr (64, 79), .inr (64, 80), .inr (64, 81), .inr (64, 87)], [(none, hka02_339, [(59, hka02_377), (64, hka02_371)]), (none, hka02_378, [(59, hka02_381), (64, hka02_371)]), (none, hka02_378, [(59, hka02_383), (64, hka02_371)]), (none, hka02_378, [(59, hka02_386), (64, hka02_371)]), (none, hka02_378, [(59, hka02_387), (64, hka02_371)]), (none, hka02_378, [(59, hka02_388), (64, hka02_371)]), (none, hka02_378, [(59, hka02_389), (64, hka02_371)]), (none, hka02_390, [(59, hka02_391), (64, hka02_371)])])
def kan_310 : List ai_Nd := []
set_option maxRecDepth 1000000 in
theorem kak_310 : ai_ck [ka_299, ka_308] [] ka_310 [.inl 100000] kan_310 37 = true := by decide +kernel
theorem kah_310 : ai_holds ka_310 := ai_thm kak_310 (ai_cons kah_299 (ai_cons kah_308 ai_nil))

/-! CONTRACTS found by wip/ai/an.py, each held by the kernel. -/
def hkb03_0 : Int × Int := (.negSucc 2147483647, .ofNat 2147483647)
def hkb03_1 : Int × Int := (.ofNat 4, .ofNat 16)
def hkb03_2 : Int × Int := (.ofNat 1, .ofNat 4)
def hkb03_3 : Int × Int := (.ofNat 0, .ofNat 60)
def hkb03_4 : Int × Int := (.ofNat 0, .ofNat 5)
def hkb03_5 : Int × Int := (.ofNat 0, .ofNat 4)
def hkb03_6 : Int × Int := (.ofNat 0, .ofNat 128)
def hkb03_7 : ai_E := [hkb03_0, hkb03_1, hkb03_2, hkb03_0, hkb03_0, hkb03_0, hkb03_3, hkb03_4, hkb03_5, hkb03_6, hkb03_5, hkb03_0]
def hkb03_8 : ai_V := .inr (some (.ref 26))
def hkb03_9 : ai_V := .inr (some (.ref 8))
def hkb03_10 : ai_N := (.ofNat 3, .ofNat 3, [])
def hkb03_11 : ai_V := .inl (false, hkb03_10)
def hkb03_12 : ai_N := (.negSucc 2147483647, .ofNat 2147483647, [(0, .ofNat 0, .ofNat 0)])
def hkb03_13 : ai_V := .inl (false, hkb03_12)
def hkb03_14 : ai_N := (.ofNat 0, .ofNat 0, [])
def hkb03_15 : ai_V := .inl (false, hkb03_14)
def hkb03_16 : ai_V := .inr none
def hkb03_17 : Bool × Option ai_C := (false, none)
def hkb03_18 : ai_V := .inr (some (.ref 9))
def hkb03_19 : ai_V := .inr (some (.ref 10))
def hkb03_20 : ai_V := .inr (some (.ref 11))
def hkb03_21 : ai_V := .inr (some (.ref 12))
def hkb03_22 : ai_V := .inr (some (.ref 13))
def hkb03_23 : ai_V := .inr (some (.ref 14))
def hkb03_24 : ai_N := (.ofNat 4, .ofNat 16, [(1, .ofNat 0, .ofNat 0)])
def hkb03_25 : ai_V := .inl (false, hkb03_24)
def hkb03_26 : ai_N := (.ofNat 1, .ofNat 4, [(2, .ofNat 0, .ofNat 0)])
def hkb03_27 : ai_V := .inl (false, hkb03_26)
def hkb03_28 : ai_N := (.negSucc 2147483647, .ofNat 2147483647, [(3, .ofNat 0, .ofNat 0)])
def hkb03_29 : ai_V := .inl (false, hkb03_28)
def hkb03_30 : ai_N := (.negSucc 2147483647, .ofNat 2147483647, [(4, .ofNat 0, .ofNat 0)])
def hkb03_31 : ai_V := .inl (false, hkb03_30)
def hkb03_32 : ai_N := (.negSucc 2147483647, .ofNat 2147483647, [(5, .ofNat 0, .ofNat 0)])
def hkb03_33 : ai_V := .inl (false, hkb03_32)
def hkb03_34 : ai_N := (.ofNat 0, .ofNat 60, [(6, .ofNat 0, .ofNat 0)])
def hkb03_35 : ai_V := .inl (false, hkb03_34)
def hkb03_36 : ai_N := (.ofNat 0, .ofNat 5, [(7, .ofNat 0, .ofNat 0)])
def hkb03_37 : ai_V := .inl (false, hkb03_36)
def hkb03_38 : ai_N := (.ofNat 0, .ofNat 4, [(8, .ofNat 0, .ofNat 0)])
def hkb03_39 : ai_V := .inl (false, hkb03_38)
def hkb03_40 : ai_C := .inr (.inr (6, [hkb03_18, hkb03_19, hkb03_20, hkb03_21, hkb03_22, hkb03_23, hkb03_25, hkb03_27, hkb03_29, hkb03_31, hkb03_33, hkb03_35, hkb03_37, hkb03_39]))
def hkb03_41 : Bool × Option ai_C := (false, some hkb03_40)
def hkb03_42 : ai_N := (.negSucc 2147483647, .ofNat 2147483647, [])
def hkb03_43 : ai_C := .inl (.int, [(17, hkb03_42)])
def hkb03_44 : Bool × Option ai_C := (false, some hkb03_43)
def hkb03_45 : ai_C := .inl (.int, [(4, hkb03_42)])
def hkb03_46 : Bool × Option ai_C := (false, some hkb03_45)
def hkb03_47 : ai_V := .inr (some (.ref 18))
def hkb03_48 : ai_V := .inr (some (.ref 19))
def hkb03_49 : ai_V := .inr (some (.ref 20))
def hkb03_50 : ai_N := (.ofNat 0, .ofNat 128, [(9, .ofNat 0, .ofNat 0)])
def hkb03_51 : ai_V := .inl (false, hkb03_50)
def hkb03_52 : ai_C := .inr (.inr (0, [hkb03_47, hkb03_48, hkb03_49, hkb03_9, hkb03_51]))
def hkb03_53 : Bool × Option ai_C := (false, some hkb03_52)
def hkb03_54 : ai_N := (.ofNat 0, .ofNat 16, [])
def hkb03_55 : ai_C := .inl (.int, [(128, hkb03_54)])
def hkb03_56 : Bool × Option ai_C := (false, some hkb03_55)
def hkb03_57 : ai_N := (.negSucc 0, .ofNat 127, [])
def hkb03_58 : ai_C := .inl (.int, [(128, hkb03_57)])
def hkb03_59 : Bool × Option ai_C := (false, some hkb03_58)
def hkb03_60 : ai_C := .inl (.int, [(17, hkb03_57)])
def hkb03_61 : Bool × Option ai_C := (false, some hkb03_60)
def hkb03_62 : ai_V := .inr (some (.ref 17))
def hkb03_63 : ai_V := .inr (some (.ref 27))
def hkb03_64 : ai_V := .inr (some (.ref 28))
def hkb03_65 : ai_V := .inr (some (.ref 29))
def hkb03_66 : ai_V := .inr (some (.ref 30))
def hkb03_67 : ai_V := .inr (some (.ref 31))
def hkb03_68 : ai_N := (.ofNat 0, .ofNat 4, [(10, .ofNat 0, .ofNat 0)])
def hkb03_69 : ai_V := .inl (false, hkb03_68)
def hkb03_70 : ai_N := (.negSucc 2147483647, .ofNat 2147483647, [(11, .ofNat 0, .ofNat 0)])
def hkb03_71 : ai_V := .inl (false, hkb03_70)
def hkb03_72 : ai_C := .inr (.inr (1, [hkb03_62, hkb03_63, hkb03_64, hkb03_65, hkb03_66, hkb03_67, hkb03_69, hkb03_71]))
def hkb03_73 : Bool × Option ai_C := (false, some hkb03_72)
def hkb03_74 : ai_N := (.ofNat 0, .ofNat 4, [])
def hkb03_75 : ai_C := .inl (.int, [(4, hkb03_74)])
def hkb03_76 : Bool × Option ai_C := (false, some hkb03_75)
def hkb03_77 : ai_C := .inl (.int, [(4, hkb03_54)])
def hkb03_78 : Bool × Option ai_C := (false, some hkb03_77)
def hkb03_79 : ai_W := [hkb03_17, hkb03_17, hkb03_17, hkb03_17, hkb03_17, hkb03_17, hkb03_17, hkb03_17, hkb03_41, hkb03_17, hkb03_44, hkb03_17, hkb03_17, hkb03_46, hkb03_46, hkb03_17, hkb03_17, hkb03_53, hkb03_56, hkb03_59, hkb03_61, hkb03_17, hkb03_17, hkb03_17, hkb03_17, hkb03_17, hkb03_73, hkb03_46, hkb03_76, hkb03_78, hkb03_76, hkb03_78, hkb03_17, hkb03_17, hkb03_17, hkb03_17, hkb03_17, hkb03_17, hkb03_17, hkb03_17, hkb03_17, hkb03_17, hkb03_17, hkb03_17, hkb03_17, hkb03_17, hkb03_17, hkb03_17, hkb03_17, hkb03_17, hkb03_17, hkb03_17, hkb03_17, hkb03_17, hkb03_17, hkb03_17, hkb03_17, hkb03_17, hkb03_17, hkb03_17, hkb03_17, hkb03_17, hkb03_17, hkb03_17, hkb03_17, hkb03_17, hkb03_17, hkb03_17, hkb03_17, hkb03_17, hkb03_17, hkb03_17, hkb03_17, hkb03_17, hkb03_17, hkb03_17]
def hkb03_80 : Int × Int := (.ofNat 0, .ofNat 0)
def hkb03_81 : Int × Int := (.negSucc 2147483646, .ofNat 2147483647)
def hkb03_82 : ai_E := [hkb03_80, hkb03_1, hkb03_2, hkb03_0, hkb03_0, hkb03_0, hkb03_3, hkb03_4, hkb03_5, hkb03_6, hkb03_5, hkb03_81]
def hkb03_83 : ai_C := .inr (.inr (1, [hkb03_62, hkb03_63, hkb03_64, hkb03_65, hkb03_66, hkb03_67, hkb03_69, hkb03_15]))
def hkb03_84 : ai_E := [hkb03_0, hkb03_1, hkb03_2, hkb03_0, hkb03_0, hkb03_0, hkb03_3, hkb03_4, hkb03_5, hkb03_6, hkb03_5, hkb03_81]
def hkb03_85 : ai_N := (.ofNat 0, .ofNat 127, [(9, .negSucc 127, .ofNat 0)])
def hkb03_86 : ai_V := .inl (false, hkb03_85)
def hkb03_87 : ai_C := .inr (.inr (0, [hkb03_47, hkb03_48, hkb03_49, hkb03_9, hkb03_86]))
def hkb03_88 : ai_V := .inl (false, hkb03_42)
def hkb03_89 : ai_C := .inr (.inr (1, [hkb03_62, hkb03_63, hkb03_64, hkb03_65, hkb03_66, hkb03_67, hkb03_69, hkb03_88]))
/-- NeverAgain$Delayer.searchFrom -/
def kb_451 : ai_K := (172, 6, (hkb03_7, [hkb03_8, hkb03_9, hkb03_11, hkb03_13, hkb03_15, hkb03_16], [], hkb03_79), [.inl 3, .inr (8, 6), .inr (8, 7), .inr (8, 8), .inr (8, 9), .inr (8, 10), .inr (8, 11), .inr (8, 12), .inr (8, 13), .inr (17, 4), .inr (26, 6), .inr (26, 7)], [(none, hkb03_7, []), (none, hkb03_82, [(26, hkb03_83), (30, hkb03_75), (31, hkb03_77)]), (none, hkb03_84, [(17, hkb03_87), (18, hkb03_55), (19, hkb03_58), (20, hkb03_60), (26, hkb03_89), (28, hkb03_75), (29, hkb03_77), (30, hkb03_75), (31, hkb03_77)])])
def hkb03_90 : ai_E := [hkb03_0, hkb03_1, hkb03_2, hkb03_0, hkb03_0, hkb03_0, hkb03_3, hkb03_4, hkb03_5, hkb03_6, hkb03_5, hkb03_81, hkb03_5]
def hkb03_91 : ai_N := (.ofNat 0, .ofNat 4, [(12, .ofNat 0, .ofNat 0)])
def hkb03_92 : ai_V := .inl (false, hkb03_91)
def hkb03_93 : ai_N := (.ofNat 0, .ofNat 128, [(9, .negSucc 127, .ofNat 0)])
def hkb03_94 : ai_V := .inl (false, hkb03_93)
def hkb03_95 : ai_C := .inr (.inr (0, [hkb03_47, hkb03_48, hkb03_49, hkb03_9, hkb03_94]))
def hkb03_96 : Bool × Option ai_C := (true, some hkb03_95)
def hkb03_97 : Bool × Option ai_C := (true, some hkb03_55)
def hkb03_98 : Bool × Option ai_C := (true, some hkb03_58)
def hkb03_99 : Bool × Option ai_C := (true, some hkb03_60)
def hkb03_100 : Bool × Option ai_C := (true, some hkb03_89)
def hkb03_101 : Bool × Option ai_C := (true, some hkb03_75)
def hkb03_102 : Bool × Option ai_C := (true, some hkb03_77)
def hkb03_103 : ai_W := [hkb03_17, hkb03_17, hkb03_17, hkb03_17, hkb03_17, hkb03_17, hkb03_17, hkb03_17, hkb03_41, hkb03_17, hkb03_44, hkb03_17, hkb03_17, hkb03_46, hkb03_46, hkb03_17, hkb03_17, hkb03_96, hkb03_97, hkb03_98, hkb03_99, hkb03_17, hkb03_17, hkb03_17, hkb03_17, hkb03_17, hkb03_100, hkb03_46, hkb03_101, hkb03_102, hkb03_101, hkb03_102, hkb03_17, hkb03_17, hkb03_17, hkb03_17, hkb03_17, hkb03_17, hkb03_17, hkb03_17, hkb03_17, hkb03_17, hkb03_17, hkb03_17, hkb03_17, hkb03_17, hkb03_17, hkb03_17, hkb03_17, hkb03_17, hkb03_17, hkb03_17, hkb03_17, hkb03_17, hkb03_17, hkb03_17, hkb03_17, hkb03_17, hkb03_17, hkb03_17, hkb03_17, hkb03_17, hkb03_17, hkb03_17, hkb03_17, hkb03_17, hkb03_17, hkb03_17, hkb03_17, hkb03_17, hkb03_17, hkb03_17, hkb03_17, hkb03_17, hkb03_17, hkb03_17]
def kbn_451 : List ai_Nd := [(46, (hkb03_90, [hkb03_8, hkb03_9, hkb03_11, hkb03_13, hkb03_15, hkb03_92], [], hkb03_103), [.inl 5], [.inl 99953, .inl 1, .inr (true, .ofNat 4, 12), .inl 100000])]
set_option maxRecDepth 1000000 in
theorem kbk_451 : ai_ck [kb_262, kb_293, kb_344, kb_346, kb_354, kb_367, kb_447, kb_450] [] kb_451 [.inl 100000, .inl 0, .inl 0, .inl 0] kbn_451 27 = true := by decide +kernel
theorem kbh_451 : ai_holds kb_451 := ai_thm kbk_451 (ai_cons kbh_262 (ai_cons kbh_293 (ai_cons kbh_344 (ai_cons kbh_346 (ai_cons kbh_354 (ai_cons kbh_367 (ai_cons kbh_447 (ai_cons kbh_450 ai_nil))))))))
def hkb03_104 : Int × Int := (.ofNat 0, .ofNat 3)
def hkb03_105 : ai_E := [hkb03_0, hkb03_104, hkb03_1, hkb03_2, hkb03_0, hkb03_0, hkb03_0, hkb03_3, hkb03_4, hkb03_5, hkb03_6, hkb03_5, hkb03_0]
def hkb03_106 : ai_N := (.ofNat 2, .ofNat 2, [])
def hkb03_107 : ai_V := .inl (false, hkb03_106)
def hkb03_108 : ai_N := (.ofNat 0, .ofNat 3, [(1, .ofNat 0, .ofNat 0)])
def hkb03_109 : ai_V := .inl (false, hkb03_108)
def hkb03_110 : ai_N := (.ofNat 4, .ofNat 16, [(2, .ofNat 0, .ofNat 0)])
def hkb03_111 : ai_V := .inl (false, hkb03_110)
def hkb03_112 : ai_N := (.ofNat 1, .ofNat 4, [(3, .ofNat 0, .ofNat 0)])
def hkb03_113 : ai_V := .inl (false, hkb03_112)
def hkb03_114 : ai_N := (.negSucc 2147483647, .ofNat 2147483647, [(6, .ofNat 0, .ofNat 0)])
def hkb03_115 : ai_V := .inl (false, hkb03_114)
def hkb03_116 : ai_N := (.ofNat 0, .ofNat 60, [(7, .ofNat 0, .ofNat 0)])
def hkb03_117 : ai_V := .inl (false, hkb03_116)
def hkb03_118 : ai_N := (.ofNat 0, .ofNat 5, [(8, .ofNat 0, .ofNat 0)])
def hkb03_119 : ai_V := .inl (false, hkb03_118)
def hkb03_120 : ai_N := (.ofNat 0, .ofNat 4, [(9, .ofNat 0, .ofNat 0)])
def hkb03_121 : ai_V := .inl (false, hkb03_120)
def hkb03_122 : ai_C := .inr (.inr (6, [hkb03_18, hkb03_19, hkb03_20, hkb03_21, hkb03_22, hkb03_23, hkb03_111, hkb03_113, hkb03_31, hkb03_33, hkb03_115, hkb03_117, hkb03_119, hkb03_121]))
def hkb03_123 : Bool × Option ai_C := (false, some hkb03_122)
def hkb03_124 : ai_N := (.ofNat 0, .ofNat 128, [(10, .ofNat 0, .ofNat 0)])
def hkb03_125 : ai_V := .inl (false, hkb03_124)
def hkb03_126 : ai_C := .inr (.inr (0, [hkb03_47, hkb03_48, hkb03_49, hkb03_9, hkb03_125]))
def hkb03_127 : Bool × Option ai_C := (false, some hkb03_126)
def hkb03_128 : ai_N := (.ofNat 0, .ofNat 4, [(11, .ofNat 0, .ofNat 0)])
def hkb03_129 : ai_V := .inl (false, hkb03_128)
def hkb03_130 : ai_N := (.negSucc 2147483647, .ofNat 2147483647, [(12, .ofNat 0, .ofNat 0)])
def hkb03_131 : ai_V := .inl (false, hkb03_130)
def hkb03_132 : ai_C := .inr (.inr (1, [hkb03_62, hkb03_63, hkb03_64, hkb03_65, hkb03_66, hkb03_67, hkb03_129, hkb03_131]))
def hkb03_133 : Bool × Option ai_C := (false, some hkb03_132)
def hkb03_134 : ai_W := [hkb03_17, hkb03_17, hkb03_17, hkb03_17, hkb03_17, hkb03_17, hkb03_17, hkb03_17, hkb03_123, hkb03_17, hkb03_44, hkb03_17, hkb03_17, hkb03_46, hkb03_46, hkb03_17, hkb03_17, hkb03_127, hkb03_56, hkb03_59, hkb03_61, hkb03_17, hkb03_17, hkb03_17, hkb03_17, hkb03_17, hkb03_133, hkb03_46, hkb03_76, hkb03_78, hkb03_76, hkb03_78, hkb03_17, hkb03_17, hkb03_17, hkb03_17, hkb03_17, hkb03_17, hkb03_17, hkb03_17, hkb03_17, hkb03_17, hkb03_17, hkb03_17, hkb03_17, hkb03_17, hkb03_17, hkb03_17, hkb03_17, hkb03_17, hkb03_17, hkb03_17, hkb03_17, hkb03_17, hkb03_17, hkb03_17, hkb03_17, hkb03_17, hkb03_17, hkb03_17, hkb03_17, hkb03_17, hkb03_17, hkb03_17, hkb03_17, hkb03_17, hkb03_17, hkb03_17, hkb03_17, hkb03_17, hkb03_17, hkb03_17, hkb03_17, hkb03_17, hkb03_17, hkb03_17]
def hkb03_135 : ai_N := (.ofNat 0, .ofNat 128, [(10, .negSucc 127, .ofNat 0)])
def hkb03_136 : ai_V := .inl (false, hkb03_135)
def hkb03_137 : ai_C := .inr (.inr (0, [hkb03_47, hkb03_48, hkb03_49, hkb03_9, hkb03_136]))
def hkb03_138 : ai_C := .inr (.inr (1, [hkb03_62, hkb03_63, hkb03_64, hkb03_65, hkb03_66, hkb03_67, hkb03_129, hkb03_88]))
/-- NeverAgain$Delayer.tryNumbers -/
def kb_454 : ai_K := (206, 7, (hkb03_105, [hkb03_8, hkb03_9, hkb03_107, hkb03_13, hkb03_15, hkb03_109, hkb03_16, hkb03_16, hkb03_16, hkb03_16], [], hkb03_134), [.inl 3, .inl 5, .inr (8, 6), .inr (8, 7), .inr (8, 8), .inr (8, 9), .inr (8, 10), .inr (8, 11), .inr (8, 12), .inr (8, 13), .inr (17, 4), .inr (26, 6), .inr (26, 7)], [(none, hkb03_105, [(17, hkb03_137), (18, hkb03_55), (19, hkb03_58), (20, hkb03_60), (26, hkb03_138), (28, hkb03_75), (29, hkb03_77), (30, hkb03_75), (31, hkb03_77)]), (none, hkb03_105, [(17, hkb03_137), (18, hkb03_55), (19, hkb03_58), (20, hkb03_60), (26, hkb03_138), (28, hkb03_75), (29, hkb03_77), (30, hkb03_75), (31, hkb03_77)])])
def hkb03_139 : Int × Int := (.ofNat 1, .ofNat 17)
def hkb03_140 : ai_E := [hkb03_0, hkb03_104, hkb03_1, hkb03_2, hkb03_0, hkb03_0, hkb03_0, hkb03_3, hkb03_4, hkb03_5, hkb03_6, hkb03_5, hkb03_0, hkb03_139]
def hkb03_141 : ai_N := (.ofNat 1, .ofNat 17, [(13, .ofNat 0, .ofNat 0)])
def hkb03_142 : ai_V := .inl (false, hkb03_141)
def hkb03_143 : Bool × Option ai_C := (true, some hkb03_137)
def hkb03_144 : Bool × Option ai_C := (true, some hkb03_138)
def hkb03_145 : ai_W := [hkb03_17, hkb03_17, hkb03_17, hkb03_17, hkb03_17, hkb03_17, hkb03_17, hkb03_17, hkb03_123, hkb03_17, hkb03_44, hkb03_17, hkb03_17, hkb03_46, hkb03_46, hkb03_17, hkb03_17, hkb03_143, hkb03_97, hkb03_98, hkb03_99, hkb03_17, hkb03_17, hkb03_17, hkb03_17, hkb03_17, hkb03_144, hkb03_46, hkb03_101, hkb03_102, hkb03_101, hkb03_102, hkb03_17, hkb03_17, hkb03_17, hkb03_17, hkb03_17, hkb03_17, hkb03_17, hkb03_17, hkb03_17, hkb03_17, hkb03_17, hkb03_17, hkb03_17, hkb03_17, hkb03_17, hkb03_17, hkb03_17, hkb03_17, hkb03_17, hkb03_17, hkb03_17, hkb03_17, hkb03_17, hkb03_17, hkb03_17, hkb03_17, hkb03_17, hkb03_17, hkb03_17, hkb03_17, hkb03_17, hkb03_17, hkb03_17, hkb03_17, hkb03_17, hkb03_17, hkb03_17, hkb03_17, hkb03_17, hkb03_17, hkb03_17, hkb03_17, hkb03_17, hkb03_17]
def kbn_454 : List ai_Nd := [(33, (hkb03_140, [hkb03_8, hkb03_9, hkb03_107, hkb03_13, hkb03_15, hkb03_109, hkb03_88, hkb03_88, hkb03_88, hkb03_142], [], hkb03_145), [.inl 9], [.inl 99966, .inl 1, .inr (true, .ofNat 17, 13), .inl 100000])]
set_option maxRecDepth 1000000 in
theorem kbk_454 : ai_ck [kb_293, kb_261, kb_346, kb_273, kb_265, kb_390] [] kb_454 [.inl 100000, .inl 0, .inl 0, .inl 0] kbn_454 51 = true := by decide +kernel
theorem kbh_454 : ai_holds kb_454 := ai_thm kbk_454 (ai_cons kbh_293 (ai_cons kbh_261 (ai_cons kbh_346 (ai_cons kbh_273 (ai_cons kbh_265 (ai_cons kbh_390 ai_nil))))))
/-- NeverAgain$Delayer.searchFrom -/
def kb_455 : ai_K := (172, 8, (hkb03_7, [hkb03_8, hkb03_9, hkb03_107, hkb03_13, hkb03_15, hkb03_16], [], hkb03_79), [.inl 3, .inr (8, 6), .inr (8, 7), .inr (8, 8), .inr (8, 9), .inr (8, 10), .inr (8, 11), .inr (8, 12), .inr (8, 13), .inr (17, 4), .inr (26, 6), .inr (26, 7)], [(none, hkb03_7, []), (none, hkb03_82, [(26, hkb03_83), (30, hkb03_75), (31, hkb03_77)]), (none, hkb03_84, [(17, hkb03_87), (18, hkb03_55), (19, hkb03_58), (20, hkb03_60), (26, hkb03_89), (28, hkb03_75), (29, hkb03_77), (30, hkb03_75), (31, hkb03_77)])])
def kbn_455 : List ai_Nd := [(46, (hkb03_90, [hkb03_8, hkb03_9, hkb03_107, hkb03_13, hkb03_15, hkb03_92], [], hkb03_103), [.inl 5], [.inl 99953, .inl 1, .inr (true, .ofNat 4, 12), .inl 100000])]
set_option maxRecDepth 1000000 in
theorem kbk_455 : ai_ck [kb_262, kb_293, kb_344, kb_346, kb_352, kb_367, kb_451, kb_454] [] kb_455 [.inl 100000, .inl 0, .inl 0, .inl 0] kbn_455 27 = true := by decide +kernel
theorem kbh_455 : ai_holds kb_455 := ai_thm kbk_455 (ai_cons kbh_262 (ai_cons kbh_293 (ai_cons kbh_344 (ai_cons kbh_346 (ai_cons kbh_352 (ai_cons kbh_367 (ai_cons kbh_451 (ai_cons kbh_454 ai_nil))))))))
def hkb03_146 : ai_N := (.ofNat 1, .ofNat 1, [])
def hkb03_147 : ai_V := .inl (false, hkb03_146)
/-- NeverAgain$Delayer.tryNumbers -/
def kb_458 : ai_K := (206, 9, (hkb03_105, [hkb03_8, hkb03_9, hkb03_147, hkb03_13, hkb03_15, hkb03_109, hkb03_16, hkb03_16, hkb03_16, hkb03_16], [], hkb03_134), [.inl 3, .inl 5, .inr (8, 6), .inr (8, 7), .inr (8, 8), .inr (8, 9), .inr (8, 10), .inr (8, 11), .inr (8, 12), .inr (8, 13), .inr (17, 4), .inr (26, 6), .inr (26, 7)], [(none, hkb03_105, [(17, hkb03_137), (18, hkb03_55), (19, hkb03_58), (20, hkb03_60), (26, hkb03_138), (28, hkb03_75), (29, hkb03_77), (30, hkb03_75), (31, hkb03_77)]), (none, hkb03_105, [(17, hkb03_137), (18, hkb03_55), (19, hkb03_58), (20, hkb03_60), (26, hkb03_138), (28, hkb03_75), (29, hkb03_77), (30, hkb03_75), (31, hkb03_77)])])
def kbn_458 : List ai_Nd := [(33, (hkb03_140, [hkb03_8, hkb03_9, hkb03_147, hkb03_13, hkb03_15, hkb03_109, hkb03_88, hkb03_88, hkb03_88, hkb03_142], [], hkb03_145), [.inl 9], [.inl 99966, .inl 1, .inr (true, .ofNat 17, 13), .inl 100000])]
set_option maxRecDepth 1000000 in
theorem kbk_458 : ai_ck [kb_293, kb_261, kb_346, kb_273, kb_265, kb_411] [] kb_458 [.inl 100000, .inl 0, .inl 0, .inl 0] kbn_458 51 = true := by decide +kernel
theorem kbh_458 : ai_holds kb_458 := ai_thm kbk_458 (ai_cons kbh_293 (ai_cons kbh_261 (ai_cons kbh_346 (ai_cons kbh_273 (ai_cons kbh_265 (ai_cons kbh_411 ai_nil))))))
/-- NeverAgain$Delayer.searchFrom -/
def kb_459 : ai_K := (172, 10, (hkb03_7, [hkb03_8, hkb03_9, hkb03_147, hkb03_13, hkb03_15, hkb03_16], [], hkb03_79), [.inl 3, .inr (8, 6), .inr (8, 7), .inr (8, 8), .inr (8, 9), .inr (8, 10), .inr (8, 11), .inr (8, 12), .inr (8, 13), .inr (17, 4), .inr (26, 6), .inr (26, 7)], [(none, hkb03_7, []), (none, hkb03_82, [(26, hkb03_83), (30, hkb03_75), (31, hkb03_77)]), (none, hkb03_84, [(17, hkb03_87), (18, hkb03_55), (19, hkb03_58), (20, hkb03_60), (26, hkb03_89), (28, hkb03_75), (29, hkb03_77), (30, hkb03_75), (31, hkb03_77)])])
def kbn_459 : List ai_Nd := [(46, (hkb03_90, [hkb03_8, hkb03_9, hkb03_147, hkb03_13, hkb03_15, hkb03_92], [], hkb03_103), [.inl 5], [.inl 99953, .inl 1, .inr (true, .ofNat 4, 12), .inl 100000])]
set_option maxRecDepth 1000000 in
theorem kbk_459 : ai_ck [kb_262, kb_293, kb_344, kb_346, kb_350, kb_367, kb_455, kb_458] [] kb_459 [.inl 100000, .inl 0, .inl 0, .inl 0] kbn_459 27 = true := by decide +kernel
theorem kbh_459 : ai_holds kb_459 := ai_thm kbk_459 (ai_cons kbh_262 (ai_cons kbh_293 (ai_cons kbh_344 (ai_cons kbh_346 (ai_cons kbh_350 (ai_cons kbh_367 (ai_cons kbh_455 (ai_cons kbh_458 ai_nil))))))))
/-- NeverAgain$Delayer.tryNumbers -/
def kb_462 : ai_K := (206, 11, (hkb03_105, [hkb03_8, hkb03_9, hkb03_15, hkb03_13, hkb03_15, hkb03_109, hkb03_16, hkb03_16, hkb03_16, hkb03_16], [], hkb03_134), [.inl 3, .inl 5, .inr (8, 6), .inr (8, 7), .inr (8, 8), .inr (8, 9), .inr (8, 10), .inr (8, 11), .inr (8, 12), .inr (8, 13), .inr (17, 4), .inr (26, 6), .inr (26, 7)], [(none, hkb03_105, [(17, hkb03_137), (18, hkb03_55), (19, hkb03_58), (20, hkb03_60), (26, hkb03_138), (28, hkb03_75), (29, hkb03_77), (30, hkb03_75), (31, hkb03_77)]), (none, hkb03_105, [(17, hkb03_137), (18, hkb03_55), (19, hkb03_58), (20, hkb03_60), (26, hkb03_138), (28, hkb03_75), (29, hkb03_77), (30, hkb03_75), (31, hkb03_77)])])
def kbn_462 : List ai_Nd := [(33, (hkb03_140, [hkb03_8, hkb03_9, hkb03_15, hkb03_13, hkb03_15, hkb03_109, hkb03_88, hkb03_88, hkb03_88, hkb03_142], [], hkb03_145), [.inl 9], [.inl 99966, .inl 1, .inr (true, .ofNat 17, 13), .inl 100000])]
set_option maxRecDepth 1000000 in
theorem kbk_462 : ai_ck [kb_293, kb_261, kb_346, kb_273, kb_265, kb_437] [] kb_462 [.inl 100000, .inl 0, .inl 0, .inl 0] kbn_462 51 = true := by decide +kernel
theorem kbh_462 : ai_holds kb_462 := ai_thm kbk_462 (ai_cons kbh_293 (ai_cons kbh_261 (ai_cons kbh_346 (ai_cons kbh_273 (ai_cons kbh_265 (ai_cons kbh_437 ai_nil))))))
/-- NeverAgain$Delayer.searchFrom -/
def kb_463 : ai_K := (172, 12, (hkb03_7, [hkb03_8, hkb03_9, hkb03_15, hkb03_13, hkb03_15, hkb03_16], [], hkb03_79), [.inl 3, .inr (8, 6), .inr (8, 7), .inr (8, 8), .inr (8, 9), .inr (8, 10), .inr (8, 11), .inr (8, 12), .inr (8, 13), .inr (17, 4), .inr (26, 6), .inr (26, 7)], [(none, hkb03_7, []), (none, hkb03_82, [(26, hkb03_83), (30, hkb03_75), (31, hkb03_77)]), (none, hkb03_84, [(17, hkb03_87), (18, hkb03_55), (19, hkb03_58), (20, hkb03_60), (26, hkb03_89), (28, hkb03_75), (29, hkb03_77), (30, hkb03_75), (31, hkb03_77)])])
def kbn_463 : List ai_Nd := [(46, (hkb03_90, [hkb03_8, hkb03_9, hkb03_15, hkb03_13, hkb03_15, hkb03_92], [], hkb03_103), [.inl 5], [.inl 99953, .inl 1, .inr (true, .ofNat 4, 12), .inl 100000])]
set_option maxRecDepth 1000000 in
theorem kbk_463 : ai_ck [kb_262, kb_293, kb_344, kb_346, kb_347, kb_367, kb_459, kb_462] [] kb_463 [.inl 100000, .inl 0, .inl 0, .inl 0] kbn_463 27 = true := by decide +kernel
theorem kbh_463 : ai_holds kb_463 := ai_thm kbk_463 (ai_cons kbh_262 (ai_cons kbh_293 (ai_cons kbh_344 (ai_cons kbh_346 (ai_cons kbh_347 (ai_cons kbh_367 (ai_cons kbh_459 (ai_cons kbh_462 ai_nil))))))))
def hkb03_148 : ai_E := [hkb03_1, hkb03_2, hkb03_0, hkb03_0, hkb03_0, hkb03_3, hkb03_4, hkb03_5, hkb03_6, hkb03_5, hkb03_0]
def hkb03_149 : ai_N := (.ofNat 4, .ofNat 16, [(0, .ofNat 0, .ofNat 0)])
def hkb03_150 : ai_V := .inl (false, hkb03_149)
def hkb03_151 : ai_N := (.ofNat 1, .ofNat 4, [(1, .ofNat 0, .ofNat 0)])
def hkb03_152 : ai_V := .inl (false, hkb03_151)
def hkb03_153 : ai_N := (.negSucc 2147483647, .ofNat 2147483647, [(2, .ofNat 0, .ofNat 0)])
def hkb03_154 : ai_V := .inl (false, hkb03_153)
def hkb03_155 : ai_N := (.ofNat 0, .ofNat 60, [(5, .ofNat 0, .ofNat 0)])
def hkb03_156 : ai_V := .inl (false, hkb03_155)
def hkb03_157 : ai_N := (.ofNat 0, .ofNat 5, [(6, .ofNat 0, .ofNat 0)])
def hkb03_158 : ai_V := .inl (false, hkb03_157)
def hkb03_159 : ai_N := (.ofNat 0, .ofNat 4, [(7, .ofNat 0, .ofNat 0)])
def hkb03_160 : ai_V := .inl (false, hkb03_159)
def hkb03_161 : ai_C := .inr (.inr (6, [hkb03_18, hkb03_19, hkb03_20, hkb03_21, hkb03_22, hkb03_23, hkb03_150, hkb03_152, hkb03_154, hkb03_29, hkb03_31, hkb03_156, hkb03_158, hkb03_160]))
def hkb03_162 : Bool × Option ai_C := (false, some hkb03_161)
def hkb03_163 : ai_N := (.ofNat 0, .ofNat 128, [(8, .ofNat 0, .ofNat 0)])
def hkb03_164 : ai_V := .inl (false, hkb03_163)
def hkb03_165 : ai_C := .inr (.inr (0, [hkb03_47, hkb03_48, hkb03_49, hkb03_9, hkb03_164]))
def hkb03_166 : Bool × Option ai_C := (false, some hkb03_165)
def hkb03_167 : ai_N := (.negSucc 2147483647, .ofNat 2147483647, [(10, .ofNat 0, .ofNat 0)])
def hkb03_168 : ai_V := .inl (false, hkb03_167)
def hkb03_169 : ai_C := .inr (.inr (1, [hkb03_62, hkb03_63, hkb03_64, hkb03_65, hkb03_66, hkb03_67, hkb03_121, hkb03_168]))
def hkb03_170 : Bool × Option ai_C := (false, some hkb03_169)
def hkb03_171 : ai_W := [hkb03_17, hkb03_17, hkb03_17, hkb03_17, hkb03_17, hkb03_17, hkb03_17, hkb03_17, hkb03_162, hkb03_17, hkb03_44, hkb03_17, hkb03_17, hkb03_46, hkb03_46, hkb03_17, hkb03_17, hkb03_166, hkb03_56, hkb03_59, hkb03_61, hkb03_17, hkb03_17, hkb03_17, hkb03_17, hkb03_17, hkb03_170, hkb03_46, hkb03_76, hkb03_78, hkb03_76, hkb03_78, hkb03_17, hkb03_17, hkb03_17, hkb03_17, hkb03_17, hkb03_17, hkb03_17, hkb03_17, hkb03_17, hkb03_17, hkb03_17, hkb03_17, hkb03_17, hkb03_17, hkb03_17, hkb03_17, hkb03_17, hkb03_17, hkb03_17, hkb03_17, hkb03_17, hkb03_17, hkb03_17, hkb03_17, hkb03_17, hkb03_17, hkb03_17, hkb03_17, hkb03_17, hkb03_17, hkb03_17, hkb03_17, hkb03_17, hkb03_17, hkb03_17, hkb03_17, hkb03_17, hkb03_17, hkb03_17, hkb03_17, hkb03_17, hkb03_17, hkb03_17, hkb03_17]
def hkb03_172 : ai_N := (.ofNat 0, .ofNat 127, [(8, .negSucc 127, .ofNat 0)])
def hkb03_173 : ai_V := .inl (false, hkb03_172)
def hkb03_174 : ai_C := .inr (.inr (0, [hkb03_47, hkb03_48, hkb03_49, hkb03_9, hkb03_173]))
def hkb03_175 : ai_V := .inl (false, hkb03_74)
def hkb03_176 : ai_C := .inr (.inr (1, [hkb03_62, hkb03_63, hkb03_64, hkb03_65, hkb03_66, hkb03_67, hkb03_175, hkb03_88]))
def hkb03_177 : ai_C := .inr (.inr (1, [hkb03_62, hkb03_63, hkb03_64, hkb03_65, hkb03_66, hkb03_67, hkb03_175, hkb03_15]))
def hkb03_178 : ai_N := (.ofNat 1000, .ofNat 1000, [])
def hkb03_179 : ai_V := .inl (false, hkb03_178)
def hkb03_180 : ai_C := .inr (.inr (1, [hkb03_62, hkb03_63, hkb03_64, hkb03_65, hkb03_66, hkb03_67, hkb03_175, hkb03_179]))
/-- NeverAgain$Delayer.findCheapest -/
def kb_464 : ai_K := (137, 13, (hkb03_148, [hkb03_8, hkb03_9, hkb03_16], [], hkb03_171), [.inr (8, 6), .inr (8, 7), .inr (8, 8), .inr (8, 9), .inr (8, 10), .inr (8, 11), .inr (8, 12), .inr (8, 13), .inr (17, 4), .inr (26, 6), .inr (26, 7)], [(none, hkb03_148, [(17, hkb03_174), (18, hkb03_55), (19, hkb03_58), (20, hkb03_60), (26, hkb03_176), (27, hkb03_45), (28, hkb03_75), (29, hkb03_77), (30, hkb03_75), (31, hkb03_77)]), (none, hkb03_148, [(26, hkb03_177), (27, hkb03_45), (30, hkb03_75), (31, hkb03_77)]), (none, hkb03_148, [(26, hkb03_180), (27, hkb03_45)])])
def hkb03_181 : ai_E := [hkb03_1, hkb03_2, hkb03_0, hkb03_0, hkb03_0, hkb03_3, hkb03_4, hkb03_5, hkb03_6, hkb03_5, hkb03_0, hkb03_5]
def hkb03_182 : Bool × Option ai_C := (true, some hkb03_180)
def hkb03_183 : Bool × Option ai_C := (true, some hkb03_45)
def hkb03_184 : ai_W := [hkb03_17, hkb03_17, hkb03_17, hkb03_17, hkb03_17, hkb03_17, hkb03_17, hkb03_17, hkb03_162, hkb03_17, hkb03_44, hkb03_17, hkb03_17, hkb03_46, hkb03_46, hkb03_17, hkb03_17, hkb03_166, hkb03_56, hkb03_59, hkb03_61, hkb03_17, hkb03_17, hkb03_17, hkb03_17, hkb03_17, hkb03_182, hkb03_183, hkb03_76, hkb03_78, hkb03_76, hkb03_78, hkb03_17, hkb03_17, hkb03_17, hkb03_17, hkb03_17, hkb03_17, hkb03_17, hkb03_17, hkb03_17, hkb03_17, hkb03_17, hkb03_17, hkb03_17, hkb03_17, hkb03_17, hkb03_17, hkb03_17, hkb03_17, hkb03_17, hkb03_17, hkb03_17, hkb03_17, hkb03_17, hkb03_17, hkb03_17, hkb03_17, hkb03_17, hkb03_17, hkb03_17, hkb03_17, hkb03_17, hkb03_17, hkb03_17, hkb03_17, hkb03_17, hkb03_17, hkb03_17, hkb03_17, hkb03_17, hkb03_17, hkb03_17, hkb03_17, hkb03_17, hkb03_17]
def kbn_464 : List ai_Nd := [(21, (hkb03_181, [hkb03_8, hkb03_9, hkb03_129], [], hkb03_184), [.inl 2], [.inl 99978, .inl 1, .inr (true, .ofNat 4, 11), .inl 100000])]
set_option maxRecDepth 1000000 in
theorem kbk_464 : ai_ck [kb_289, kb_463] [] kb_464 [.inl 100000, .inl 0, .inl 0, .inl 0] kbn_464 19 = true := by decide +kernel
theorem kbh_464 : ai_holds kb_464 := ai_thm kbk_464 (ai_cons kbh_289 (ai_cons kbh_463 ai_nil))
def hkb03_185 : ai_E := [hkb03_0, hkb03_5, hkb03_0]
def hkb03_186 : ai_N := (.ofNat 0, .ofNat 4, [(1, .ofNat 0, .ofNat 0)])
def hkb03_187 : ai_V := .inl (false, hkb03_186)
def hkb03_188 : ai_C := .inr (.inr (1, [hkb03_62, hkb03_63, hkb03_64, hkb03_65, hkb03_66, hkb03_67, hkb03_187, hkb03_154]))
def hkb03_189 : Bool × Option ai_C := (false, some hkb03_188)
def hkb03_190 : ai_W := [hkb03_17, hkb03_17, hkb03_17, hkb03_17, hkb03_17, hkb03_17, hkb03_17, hkb03_17, hkb03_17, hkb03_17, hkb03_17, hkb03_17, hkb03_17, hkb03_17, hkb03_17, hkb03_17, hkb03_17, hkb03_17, hkb03_17, hkb03_17, hkb03_17, hkb03_17, hkb03_17, hkb03_17, hkb03_17, hkb03_17, hkb03_189, hkb03_17, hkb03_17, hkb03_17, hkb03_17, hkb03_17, hkb03_17, hkb03_17, hkb03_17, hkb03_17, hkb03_17, hkb03_17, hkb03_17, hkb03_17, hkb03_17, hkb03_17, hkb03_17, hkb03_17, hkb03_17, hkb03_17, hkb03_17, hkb03_17, hkb03_17, hkb03_17, hkb03_17, hkb03_17, hkb03_17, hkb03_17, hkb03_17, hkb03_17, hkb03_17, hkb03_17, hkb03_17, hkb03_17, hkb03_17, hkb03_17, hkb03_17, hkb03_17, hkb03_17, hkb03_17, hkb03_17, hkb03_17, hkb03_17, hkb03_17, hkb03_17, hkb03_17, hkb03_17, hkb03_17, hkb03_17, hkb03_17]
def hkb03_191 : Int × Int := (.negSucc 2147483647, .ofNat 999)
def hkb03_192 : ai_E := [hkb03_104, hkb03_2, hkb03_191]
def hkb03_193 : Int × Int := (.ofNat 0, .ofNat 2147483647)
def hkb03_194 : ai_E := [hkb03_193, hkb03_5, hkb03_191]
def hkb03_195 : Int × Int := (.negSucc 2147483647, .negSucc 0)
def hkb03_196 : ai_E := [hkb03_195, hkb03_5, hkb03_191]
def hkb03_197 : Int × Int := (.ofNat 1000, .ofNat 2147483647)
def hkb03_198 : ai_E := [hkb03_0, hkb03_5, hkb03_197]
/-- NeverAgain$Delayer.has -/
def kb_465 : ai_K := (173, 0, (hkb03_185, [hkb03_8, hkb03_13], [], hkb03_190), [.inl 1, .inr (26, 6), .inr (26, 7)], [(some hkb03_147, hkb03_192, []), (some hkb03_15, hkb03_194, []), (some hkb03_15, hkb03_196, []), (some hkb03_15, hkb03_198, [])])
def kbn_465 : List ai_Nd := []
set_option maxRecDepth 1000000 in
theorem kbk_465 : ai_ck [] [] kb_465 [.inl 100000] kbn_465 14 = true := by decide +kernel
theorem kbh_465 : ai_holds kb_465 := ai_thm kbk_465 ai_nil
def hkb03_199 : ai_W := [hkb03_17, hkb03_17, hkb03_17, hkb03_17, hkb03_17, hkb03_17, hkb03_17, hkb03_17, hkb03_17, hkb03_17, hkb03_17, hkb03_17, hkb03_17, hkb03_17, hkb03_17, hkb03_17, hkb03_17, hkb03_17, hkb03_17, hkb03_17, hkb03_17, hkb03_17, hkb03_17, hkb03_17, hkb03_17, hkb03_17, hkb03_189, hkb03_17, hkb03_17, hkb03_17, hkb03_76, hkb03_17, hkb03_17, hkb03_17, hkb03_17, hkb03_17, hkb03_17, hkb03_17, hkb03_17, hkb03_17, hkb03_17, hkb03_17, hkb03_17, hkb03_17, hkb03_17, hkb03_17, hkb03_17, hkb03_17, hkb03_17, hkb03_17, hkb03_17, hkb03_17, hkb03_17, hkb03_17, hkb03_17, hkb03_17, hkb03_17, hkb03_17, hkb03_17, hkb03_17, hkb03_17, hkb03_17, hkb03_17, hkb03_17, hkb03_17, hkb03_17, hkb03_17, hkb03_17, hkb03_17, hkb03_17, hkb03_17, hkb03_17, hkb03_17, hkb03_17, hkb03_17, hkb03_17]
def hkb03_200 : ai_N := (.negSucc 3, .negSucc 3, [])
def hkb03_201 : ai_V := .inl (false, hkb03_200)
/-- NeverAgain$Delayer.dayOf -/
def kb_466 : ai_K := (139, 1, (hkb03_185, [hkb03_8, hkb03_13], [], hkb03_199), [.inl 1, .inr (26, 6), .inr (26, 7)], [(some hkb03_201, hkb03_198, []), (some hkb03_201, hkb03_196, []), (some hkb03_201, hkb03_194, []), (some hkb03_175, hkb03_192, [])])
def kbn_466 : List ai_Nd := []
set_option maxRecDepth 1000000 in
theorem kbk_466 : ai_ck [kb_465] [] kb_466 [.inl 100000] kbn_466 11 = true := by decide +kernel
theorem kbh_466 : ai_holds kb_466 := ai_thm kbk_466 (ai_cons kbh_465 ai_nil)
def hkb03_202 : ai_W := [hkb03_17, hkb03_17, hkb03_17, hkb03_17, hkb03_17, hkb03_17, hkb03_17, hkb03_17, hkb03_17, hkb03_17, hkb03_17, hkb03_17, hkb03_17, hkb03_17, hkb03_17, hkb03_17, hkb03_17, hkb03_17, hkb03_17, hkb03_17, hkb03_17, hkb03_17, hkb03_17, hkb03_17, hkb03_17, hkb03_17, hkb03_189, hkb03_17, hkb03_17, hkb03_17, hkb03_17, hkb03_78, hkb03_17, hkb03_17, hkb03_17, hkb03_17, hkb03_17, hkb03_17, hkb03_17, hkb03_17, hkb03_17, hkb03_17, hkb03_17, hkb03_17, hkb03_17, hkb03_17, hkb03_17, hkb03_17, hkb03_17, hkb03_17, hkb03_17, hkb03_17, hkb03_17, hkb03_17, hkb03_17, hkb03_17, hkb03_17, hkb03_17, hkb03_17, hkb03_17, hkb03_17, hkb03_17, hkb03_17, hkb03_17, hkb03_17, hkb03_17, hkb03_17, hkb03_17, hkb03_17, hkb03_17, hkb03_17, hkb03_17, hkb03_17, hkb03_17, hkb03_17, hkb03_17]
def hkb03_203 : ai_V := .inl (false, hkb03_54)
/-- NeverAgain$Delayer.numberOf -/
def kb_467 : ai_K := (140, 1, (hkb03_185, [hkb03_8, hkb03_13], [], hkb03_202), [.inl 1, .inr (26, 6), .inr (26, 7)], [(some hkb03_201, hkb03_198, []), (some hkb03_201, hkb03_196, []), (some hkb03_201, hkb03_194, []), (some hkb03_203, hkb03_192, [])])
def kbn_467 : List ai_Nd := []
set_option maxRecDepth 1000000 in
theorem kbk_467 : ai_ck [kb_465] [] kb_467 [.inl 100000] kbn_467 11 = true := by decide +kernel
theorem kbh_467 : ai_holds kb_467 := ai_thm kbk_467 (ai_cons kbh_465 ai_nil)
def hkb03_204 : ai_E := [hkb03_5, hkb03_0]
def hkb03_205 : ai_N := (.ofNat 0, .ofNat 4, [(0, .ofNat 0, .ofNat 0)])
def hkb03_206 : ai_V := .inl (false, hkb03_205)
def hkb03_207 : ai_N := (.negSucc 2147483647, .ofNat 2147483647, [(1, .ofNat 0, .ofNat 0)])
def hkb03_208 : ai_V := .inl (false, hkb03_207)
def hkb03_209 : ai_C := .inr (.inr (1, [hkb03_62, hkb03_63, hkb03_64, hkb03_65, hkb03_66, hkb03_67, hkb03_206, hkb03_208]))
def hkb03_210 : Bool × Option ai_C := (false, some hkb03_209)
def hkb03_211 : ai_W := [hkb03_17, hkb03_17, hkb03_17, hkb03_17, hkb03_17, hkb03_17, hkb03_17, hkb03_17, hkb03_17, hkb03_17, hkb03_17, hkb03_17, hkb03_17, hkb03_17, hkb03_17, hkb03_17, hkb03_17, hkb03_17, hkb03_17, hkb03_17, hkb03_17, hkb03_17, hkb03_17, hkb03_17, hkb03_17, hkb03_17, hkb03_210, hkb03_17, hkb03_17, hkb03_17, hkb03_17, hkb03_17, hkb03_17, hkb03_17, hkb03_17, hkb03_17, hkb03_17, hkb03_17, hkb03_17, hkb03_17, hkb03_17, hkb03_17, hkb03_17, hkb03_17, hkb03_17, hkb03_17, hkb03_17, hkb03_17, hkb03_17, hkb03_17, hkb03_17, hkb03_17, hkb03_17, hkb03_17, hkb03_17, hkb03_17, hkb03_17, hkb03_17, hkb03_17, hkb03_17, hkb03_17, hkb03_17, hkb03_17, hkb03_17, hkb03_17, hkb03_17, hkb03_17, hkb03_17, hkb03_17, hkb03_17, hkb03_17, hkb03_17, hkb03_17, hkb03_17, hkb03_17, hkb03_17]
def hkb03_212 : ai_N := (.negSucc 2147483647, .ofNat 999, [(1, .ofNat 0, .ofNat 0)])
def hkb03_213 : ai_V := .inl (false, hkb03_212)
def hkb03_214 : ai_E := [hkb03_5, hkb03_191]
def hkb03_215 : ai_E := [hkb03_5, hkb03_197]
/-- NeverAgain$Delayer.allStrokes -/
def kb_468 : ai_K := (138, 0, (hkb03_204, [hkb03_8], [], hkb03_211), [.inr (26, 6), .inr (26, 7)], [(some hkb03_213, hkb03_214, []), (some hkb03_201, hkb03_215, [])])
def kbn_468 : List ai_Nd := []
set_option maxRecDepth 1000000 in
theorem kbk_468 : ai_ck [] [] kb_468 [.inl 100000] kbn_468 9 = true := by decide +kernel
theorem kbh_468 : ai_holds kb_468 := ai_thm kbk_468 ai_nil
def hkb03_216 : Int × Int := (.ofNat 0, .ofNat 12)
def hkb03_217 : Int × Int := (.ofNat 0, .ofNat 6)
def hkb03_218 : ai_E := [hkb03_0, hkb03_216, hkb03_217, hkb03_5, hkb03_1, hkb03_2, hkb03_0, hkb03_0, hkb03_0, hkb03_3, hkb03_4, hkb03_5, hkb03_6, hkb03_5, hkb03_0]
def hkb03_219 : ai_V := .inr (some (.ref 0))
def hkb03_220 : ai_V := .inr (some (.ref 15))
def hkb03_221 : ai_V := .inr (some (.ref 21))
def hkb03_222 : ai_V := .inr (some (.ref 32))
def hkb03_223 : ai_V := .inr (some (.ref 35))
def hkb03_224 : ai_V := .inr (some (.ref 34))
def hkb03_225 : ai_V := .inr (some (.ref 50))
def hkb03_226 : ai_V := .inr (some (.ref 33))
def hkb03_227 : ai_V := .inr (some (.ref 1))
def hkb03_228 : ai_N := (.ofNat 0, .ofNat 12, [(1, .ofNat 0, .ofNat 0)])
def hkb03_229 : ai_V := .inl (false, hkb03_228)
def hkb03_230 : ai_N := (.ofNat 0, .ofNat 6, [(2, .ofNat 0, .ofNat 0)])
def hkb03_231 : ai_V := .inl (false, hkb03_230)
def hkb03_232 : ai_N := (.ofNat 0, .ofNat 4, [(3, .ofNat 0, .ofNat 0)])
def hkb03_233 : ai_V := .inl (false, hkb03_232)
def hkb03_234 : ai_C := .inr (.inr (7, [hkb03_220, hkb03_62, hkb03_221, hkb03_8, hkb03_222, hkb03_223, hkb03_224, hkb03_225, hkb03_226, hkb03_9, hkb03_227, hkb03_229, hkb03_231, hkb03_233]))
def hkb03_235 : Bool × Option ai_C := (false, some hkb03_234)
def hkb03_236 : ai_N := (.ofNat 4, .ofNat 16, [(4, .ofNat 0, .ofNat 0)])
def hkb03_237 : ai_V := .inl (false, hkb03_236)
def hkb03_238 : ai_N := (.ofNat 1, .ofNat 4, [(5, .ofNat 0, .ofNat 0)])
def hkb03_239 : ai_V := .inl (false, hkb03_238)
def hkb03_240 : ai_N := (.negSucc 2147483647, .ofNat 2147483647, [(7, .ofNat 0, .ofNat 0)])
def hkb03_241 : ai_V := .inl (false, hkb03_240)
def hkb03_242 : ai_N := (.negSucc 2147483647, .ofNat 2147483647, [(8, .ofNat 0, .ofNat 0)])
def hkb03_243 : ai_V := .inl (false, hkb03_242)
def hkb03_244 : ai_N := (.ofNat 0, .ofNat 60, [(9, .ofNat 0, .ofNat 0)])
def hkb03_245 : ai_V := .inl (false, hkb03_244)
def hkb03_246 : ai_N := (.ofNat 0, .ofNat 5, [(10, .ofNat 0, .ofNat 0)])
def hkb03_247 : ai_V := .inl (false, hkb03_246)
def hkb03_248 : ai_C := .inr (.inr (6, [hkb03_18, hkb03_19, hkb03_20, hkb03_21, hkb03_22, hkb03_23, hkb03_237, hkb03_239, hkb03_115, hkb03_241, hkb03_243, hkb03_245, hkb03_247, hkb03_129]))
def hkb03_249 : Bool × Option ai_C := (false, some hkb03_248)
def hkb03_250 : ai_C := .inl (.int, [(60, hkb03_42)])
def hkb03_251 : Bool × Option ai_C := (false, some hkb03_250)
def hkb03_252 : ai_N := (.ofNat 0, .ofNat 128, [(12, .ofNat 0, .ofNat 0)])
def hkb03_253 : ai_V := .inl (false, hkb03_252)
def hkb03_254 : ai_C := .inr (.inr (0, [hkb03_47, hkb03_48, hkb03_49, hkb03_16, hkb03_253]))
def hkb03_255 : Bool × Option ai_C := (false, some hkb03_254)
def hkb03_256 : ai_N := (.ofNat 0, .ofNat 4, [(13, .ofNat 0, .ofNat 0)])
def hkb03_257 : ai_V := .inl (false, hkb03_256)
def hkb03_258 : ai_N := (.negSucc 2147483647, .ofNat 2147483647, [(14, .ofNat 0, .ofNat 0)])
def hkb03_259 : ai_V := .inl (false, hkb03_258)
def hkb03_260 : ai_C := .inr (.inr (1, [hkb03_62, hkb03_63, hkb03_64, hkb03_65, hkb03_66, hkb03_67, hkb03_257, hkb03_259]))
def hkb03_261 : Bool × Option ai_C := (false, some hkb03_260)
def hkb03_262 : ai_W := [hkb03_235, hkb03_17, hkb03_17, hkb03_17, hkb03_17, hkb03_17, hkb03_17, hkb03_17, hkb03_249, hkb03_17, hkb03_44, hkb03_251, hkb03_17, hkb03_46, hkb03_46, hkb03_17, hkb03_17, hkb03_255, hkb03_56, hkb03_59, hkb03_61, hkb03_17, hkb03_17, hkb03_17, hkb03_17, hkb03_17, hkb03_261, hkb03_46, hkb03_76, hkb03_78, hkb03_76, hkb03_78, hkb03_17, hkb03_17, hkb03_17, hkb03_17, hkb03_17, hkb03_17, hkb03_17, hkb03_17, hkb03_17, hkb03_17, hkb03_17, hkb03_17, hkb03_17, hkb03_17, hkb03_17, hkb03_17, hkb03_17, hkb03_17, hkb03_17, hkb03_17, hkb03_17, hkb03_17, hkb03_17, hkb03_17, hkb03_17, hkb03_17, hkb03_17, hkb03_17, hkb03_17, hkb03_17, hkb03_17, hkb03_17, hkb03_17, hkb03_17, hkb03_17, hkb03_17, hkb03_17, hkb03_17, hkb03_17, hkb03_17, hkb03_17, hkb03_17, hkb03_17, hkb03_17]
def hkb03_263 : Int × Int := (.ofNat 0, .ofNat 23)
def hkb03_264 : ai_E := [hkb03_263, hkb03_216, hkb03_217, hkb03_5, hkb03_1, hkb03_2, hkb03_0, hkb03_0, hkb03_0, hkb03_3, hkb03_4, hkb03_5, hkb03_6, hkb03_5, hkb03_0]
def hkb03_265 : ai_N := (.ofNat 0, .ofNat 128, [])
def hkb03_266 : ai_V := .inl (false, hkb03_265)
def hkb03_267 : ai_C := .inr (.inr (0, [hkb03_47, hkb03_48, hkb03_49, hkb03_9, hkb03_266]))
def hkb03_268 : Int × Int := (.ofNat 10, .ofNat 23)
def hkb03_269 : ai_E := [hkb03_268, hkb03_216, hkb03_217, hkb03_5, hkb03_1, hkb03_2, hkb03_0, hkb03_0, hkb03_0, hkb03_3, hkb03_4, hkb03_5, hkb03_6, hkb03_5, hkb03_0]
def hkb03_270 : ai_N := (.ofNat 1, .ofNat 4, [])
def hkb03_271 : ai_V := .inl (false, hkb03_270)
def hkb03_272 : ai_C := .inr (.inr (1, [hkb03_62, hkb03_63, hkb03_64, hkb03_65, hkb03_66, hkb03_67, hkb03_271, hkb03_15]))
def hkb03_273 : ai_N := (.negSucc 2147483647, .ofNat 999, [])
def hkb03_274 : ai_V := .inl (false, hkb03_273)
def hkb03_275 : ai_N := (.ofNat 0, .ofNat 127, [])
def hkb03_276 : ai_V := .inl (false, hkb03_275)
def hkb03_277 : ai_C := .inr (.inr (0, [hkb03_47, hkb03_48, hkb03_49, hkb03_9, hkb03_276]))
def hkb03_278 : ai_C := .inr (.inr (1, [hkb03_62, hkb03_63, hkb03_64, hkb03_65, hkb03_66, hkb03_67, hkb03_175, hkb03_274]))
def hkb03_279 : ai_N := (.negSucc 0, .negSucc 0, [])
def hkb03_280 : ai_V := .inl (false, hkb03_279)
def hkb03_281 : ai_E := [hkb03_80, hkb03_216, hkb03_217, hkb03_5, hkb03_1, hkb03_2, hkb03_0, hkb03_0, hkb03_0, hkb03_3, hkb03_4, hkb03_5, hkb03_6, hkb03_5, hkb03_0]
/-- NeverAgain.putOff -/
def kb_469 : ai_K := (65, 14, (hkb03_218, [hkb03_219, hkb03_13, hkb03_16, hkb03_16], [], hkb03_262), [.inl 1, .inr (0, 11), .inr (0, 12), .inr (0, 13), .inr (8, 6), .inr (8, 7), .inr (8, 8), .inr (8, 9), .inr (8, 10), .inr (8, 11), .inr (8, 12), .inr (8, 13), .inr (17, 4), .inr (26, 6), .inr (26, 7)], [(some hkb03_201, hkb03_264, [(17, hkb03_267), (18, hkb03_55), (19, hkb03_58), (20, hkb03_60), (26, hkb03_180), (27, hkb03_45)]), (some hkb03_203, hkb03_269, [(17, hkb03_267), (18, hkb03_55), (19, hkb03_58), (20, hkb03_60), (26, hkb03_272), (27, hkb03_45), (30, hkb03_75), (31, hkb03_77)]), (some hkb03_201, hkb03_269, [(17, hkb03_267), (18, hkb03_55), (19, hkb03_58), (20, hkb03_60), (26, hkb03_177), (27, hkb03_45), (30, hkb03_75), (31, hkb03_77)]), (some hkb03_274, hkb03_264, [(17, hkb03_277), (18, hkb03_55), (19, hkb03_58), (20, hkb03_60), (26, hkb03_278), (27, hkb03_45), (28, hkb03_75), (29, hkb03_77), (30, hkb03_75), (31, hkb03_77)]), (some hkb03_201, hkb03_264, [(17, hkb03_277), (18, hkb03_55), (19, hkb03_58), (20, hkb03_60), (26, hkb03_176), (27, hkb03_45), (28, hkb03_75), (29, hkb03_77), (30, hkb03_75), (31, hkb03_77)]), (some hkb03_280, hkb03_218, []), (some hkb03_15, hkb03_281, [(17, hkb03_267), (18, hkb03_55), (19, hkb03_58), (20, hkb03_60), (26, hkb03_177), (27, hkb03_45), (30, hkb03_75), (31, hkb03_77)])])
def kbn_469 : List ai_Nd := []
set_option maxRecDepth 1000000 in
theorem kbk_469 : ai_ck [kb_468, kb_466, kb_467, kb_263, kb_464] [] kb_469 [.inl 100000] kbn_469 46 = true := by decide +kernel
theorem kbh_469 : ai_holds kb_469 := ai_thm kbk_469 (ai_cons kbh_468 (ai_cons kbh_466 (ai_cons kbh_467 (ai_cons kbh_263 (ai_cons kbh_464 ai_nil)))))
def hkb03_282 : ai_E := [hkb03_1, hkb03_2, hkb03_0, hkb03_0, hkb03_0, hkb03_3, hkb03_4, hkb03_5]
def hkb03_283 : ai_W := [hkb03_17, hkb03_17, hkb03_17, hkb03_17, hkb03_17, hkb03_17, hkb03_17, hkb03_17, hkb03_162, hkb03_17, hkb03_17, hkb03_251, hkb03_17, hkb03_17, hkb03_17, hkb03_17, hkb03_17, hkb03_17, hkb03_17, hkb03_17, hkb03_17, hkb03_17, hkb03_17, hkb03_17, hkb03_17, hkb03_17, hkb03_17, hkb03_17, hkb03_17, hkb03_17, hkb03_17, hkb03_17, hkb03_17, hkb03_17, hkb03_17, hkb03_17, hkb03_17, hkb03_17, hkb03_17, hkb03_17, hkb03_17, hkb03_17, hkb03_17, hkb03_17, hkb03_17, hkb03_17, hkb03_17, hkb03_17, hkb03_17, hkb03_17, hkb03_17, hkb03_17, hkb03_17, hkb03_17, hkb03_17, hkb03_17, hkb03_17, hkb03_17, hkb03_17, hkb03_17, hkb03_17, hkb03_17, hkb03_17, hkb03_17, hkb03_17, hkb03_17, hkb03_17, hkb03_17, hkb03_17, hkb03_17, hkb03_17, hkb03_17, hkb03_17, hkb03_17, hkb03_17, hkb03_17]
/-- NeverAgain$Told.rungBits -/
def kb_470 : ai_K := (176, 0, (hkb03_282, [hkb03_9, hkb03_16, hkb03_16], [], hkb03_283), [.inr (8, 6), .inr (8, 7), .inr (8, 8), .inr (8, 9), .inr (8, 10), .inr (8, 11), .inr (8, 12), .inr (8, 13)], [(some hkb03_88, hkb03_282, [])])
def hkb03_284 : ai_E := [hkb03_1, hkb03_2, hkb03_0, hkb03_0, hkb03_0, hkb03_3, hkb03_4, hkb03_5, hkb03_3]
def hkb03_285 : ai_N := (.ofNat 0, .ofNat 60, [(8, .ofNat 0, .ofNat 0)])
def hkb03_286 : ai_V := .inl (false, hkb03_285)
def kbn_470 : List ai_Nd := [(4, (hkb03_284, [hkb03_9, hkb03_88, hkb03_286], [], hkb03_283), [.inl 2], [.inl 99995, .inl 1, .inr (true, .ofNat 60, 8), .inl 100000])]
set_option maxRecDepth 1000000 in
theorem kbk_470 : ai_ck [] [] kb_470 [.inl 100000, .inl 0, .inl 0, .inl 0] kbn_470 20 = true := by decide +kernel
theorem kbh_470 : ai_holds kb_470 := ai_thm kbk_470 ai_nil
def hkb03_287 : Int × Int := (.ofNat 0, .ofNat 16)
def hkb03_288 : ai_E := [hkb03_0, hkb03_287, hkb03_0, hkb03_0, hkb03_0, hkb03_0]
def hkb03_289 : ai_N := (.ofNat 0, .ofNat 16, [(1, .ofNat 0, .ofNat 0)])
def hkb03_290 : ai_V := .inl (false, hkb03_289)
def hkb03_291 : ai_C := .inr (.inr (3, [hkb03_290, hkb03_154, hkb03_29, hkb03_31, hkb03_33]))
def hkb03_292 : Bool × Option ai_C := (false, some hkb03_291)
def hkb03_293 : ai_W := [hkb03_17, hkb03_17, hkb03_17, hkb03_17, hkb03_17, hkb03_17, hkb03_17, hkb03_17, hkb03_17, hkb03_17, hkb03_17, hkb03_17, hkb03_17, hkb03_17, hkb03_17, hkb03_17, hkb03_17, hkb03_17, hkb03_17, hkb03_17, hkb03_17, hkb03_17, hkb03_17, hkb03_17, hkb03_17, hkb03_17, hkb03_17, hkb03_17, hkb03_17, hkb03_17, hkb03_17, hkb03_17, hkb03_292, hkb03_17, hkb03_17, hkb03_17, hkb03_17, hkb03_17, hkb03_17, hkb03_17, hkb03_17, hkb03_17, hkb03_17, hkb03_17, hkb03_17, hkb03_17, hkb03_17, hkb03_17, hkb03_17, hkb03_17, hkb03_17, hkb03_17, hkb03_17, hkb03_17, hkb03_17, hkb03_17, hkb03_17, hkb03_17, hkb03_17, hkb03_17, hkb03_17, hkb03_17, hkb03_17, hkb03_17, hkb03_17, hkb03_17, hkb03_17, hkb03_17, hkb03_17, hkb03_17, hkb03_17, hkb03_17, hkb03_17, hkb03_17, hkb03_17, hkb03_17]
def hkb03_294 : ai_E := [hkb03_0, hkb03_287, hkb03_0, hkb03_80, hkb03_0, hkb03_0]
def hkb03_295 : ai_N := (.ofNat 1, .ofNat 1, [(3, .ofNat 1, .ofNat 1)])
def hkb03_296 : ai_V := .inl (false, hkb03_295)
def hkb03_297 : ai_C := .inr (.inr (3, [hkb03_290, hkb03_154, hkb03_296, hkb03_13, hkb03_88]))
def hkb03_298 : ai_C := .inr (.inr (3, [hkb03_290, hkb03_154, hkb03_88, hkb03_31, hkb03_88]))
/-- NeverAgain$SetFinder.take -/
def kb_471 : ai_K := (207, 0, (hkb03_288, [hkb03_222, hkb03_13], [], hkb03_293), [.inl 1, .inr (32, 0), .inr (32, 1), .inr (32, 2), .inr (32, 3), .inr (32, 4)], [(none, hkb03_294, [(32, hkb03_297)]), (none, hkb03_288, [(32, hkb03_298)])])
def kbn_471 : List ai_Nd := []
set_option maxRecDepth 1000000 in
theorem kbk_471 : ai_ck [] [] kb_471 [.inl 100000] kbn_471 20 = true := by decide +kernel
theorem kbh_471 : ai_holds kb_471 := ai_thm kbk_471 ai_nil
def hkb03_299 : ai_E := [hkb03_0, hkb03_0, hkb03_0, hkb03_287, hkb03_0, hkb03_0, hkb03_0, hkb03_0]
def hkb03_300 : ai_N := (.ofNat 0, .ofNat 16, [(3, .ofNat 0, .ofNat 0)])
def hkb03_301 : ai_V := .inl (false, hkb03_300)
def hkb03_302 : ai_C := .inr (.inr (3, [hkb03_301, hkb03_31, hkb03_33, hkb03_115, hkb03_241]))
def hkb03_303 : Bool × Option ai_C := (false, some hkb03_302)
def hkb03_304 : ai_W := [hkb03_17, hkb03_17, hkb03_17, hkb03_17, hkb03_17, hkb03_17, hkb03_17, hkb03_17, hkb03_17, hkb03_17, hkb03_17, hkb03_17, hkb03_17, hkb03_17, hkb03_17, hkb03_17, hkb03_17, hkb03_17, hkb03_17, hkb03_17, hkb03_17, hkb03_17, hkb03_17, hkb03_17, hkb03_17, hkb03_17, hkb03_17, hkb03_17, hkb03_17, hkb03_17, hkb03_17, hkb03_17, hkb03_303, hkb03_17, hkb03_17, hkb03_17, hkb03_17, hkb03_17, hkb03_17, hkb03_17, hkb03_17, hkb03_17, hkb03_17, hkb03_17, hkb03_17, hkb03_17, hkb03_17, hkb03_17, hkb03_17, hkb03_17, hkb03_17, hkb03_17, hkb03_17, hkb03_17, hkb03_17, hkb03_17, hkb03_17, hkb03_17, hkb03_17, hkb03_17, hkb03_17, hkb03_17, hkb03_17, hkb03_17, hkb03_17, hkb03_17, hkb03_17, hkb03_17, hkb03_17, hkb03_17, hkb03_17, hkb03_17, hkb03_17, hkb03_17, hkb03_17, hkb03_17]
def hkb03_305 : ai_C := .inr (.inr (3, [hkb03_301, hkb03_31, hkb03_88, hkb03_88, hkb03_88]))
/-- NeverAgain$SetFinder.pickFrom -/
def kb_472 : ai_K := (177, 1, (hkb03_299, [hkb03_222, hkb03_13, hkb03_15, hkb03_208, hkb03_154, hkb03_16, hkb03_16], [], hkb03_304), [.inl 1, .inl 3, .inl 4, .inr (32, 0), .inr (32, 1), .inr (32, 2), .inr (32, 3), .inr (32, 4)], [(none, hkb03_299, [(32, hkb03_305)])])
def kbn_472 : List ai_Nd := []
set_option maxRecDepth 1000000 in
theorem kbk_472 : ai_ck [kb_471] [] kb_472 [.inl 100000] kbn_472 9 = true := by decide +kernel
theorem kbh_472 : ai_holds kb_472 := ai_thm kbk_472 (ai_cons kbh_471 ai_nil)
/-- NeverAgain$SetFinder.pickFrom -/
def kb_473 : ai_K := (177, 2, (hkb03_299, [hkb03_222, hkb03_13, hkb03_147, hkb03_208, hkb03_154, hkb03_16, hkb03_16], [], hkb03_304), [.inl 1, .inl 3, .inl 4, .inr (32, 0), .inr (32, 1), .inr (32, 2), .inr (32, 3), .inr (32, 4)], [(none, hkb03_299, [(32, hkb03_305)])])
def hkb03_306 : ai_E := [hkb03_0, hkb03_0, hkb03_0, hkb03_287, hkb03_0, hkb03_0, hkb03_0, hkb03_0, hkb03_0]
def hkb03_307 : Bool × Option ai_C := (true, some hkb03_305)
def hkb03_308 : ai_W := [hkb03_17, hkb03_17, hkb03_17, hkb03_17, hkb03_17, hkb03_17, hkb03_17, hkb03_17, hkb03_17, hkb03_17, hkb03_17, hkb03_17, hkb03_17, hkb03_17, hkb03_17, hkb03_17, hkb03_17, hkb03_17, hkb03_17, hkb03_17, hkb03_17, hkb03_17, hkb03_17, hkb03_17, hkb03_17, hkb03_17, hkb03_17, hkb03_17, hkb03_17, hkb03_17, hkb03_17, hkb03_17, hkb03_307, hkb03_17, hkb03_17, hkb03_17, hkb03_17, hkb03_17, hkb03_17, hkb03_17, hkb03_17, hkb03_17, hkb03_17, hkb03_17, hkb03_17, hkb03_17, hkb03_17, hkb03_17, hkb03_17, hkb03_17, hkb03_17, hkb03_17, hkb03_17, hkb03_17, hkb03_17, hkb03_17, hkb03_17, hkb03_17, hkb03_17, hkb03_17, hkb03_17, hkb03_17, hkb03_17, hkb03_17, hkb03_17, hkb03_17, hkb03_17, hkb03_17, hkb03_17, hkb03_17, hkb03_17, hkb03_17, hkb03_17, hkb03_17, hkb03_17, hkb03_17]
def kbn_473 : List ai_Nd := [(35, (hkb03_306, [hkb03_222, hkb03_13, hkb03_147, hkb03_208, hkb03_154, hkb03_88, hkb03_243], [], hkb03_308), [.inl 6], [.inl 99964, .inl 1, .inr (true, .ofNat 2147483647, 8), .inl 100000])]
set_option maxRecDepth 1000000 in
theorem kbk_473 : ai_ck [kb_472] [] kb_473 [.inl 100000, .inl 0, .inl 0, .inl 0] kbn_473 36 = true := by decide +kernel
theorem kbh_473 : ai_holds kb_473 := ai_thm kbk_473 (ai_cons kbh_472 ai_nil)
/-- NeverAgain$SetFinder.pickFrom -/
def kb_474 : ai_K := (177, 3, (hkb03_299, [hkb03_222, hkb03_13, hkb03_107, hkb03_208, hkb03_154, hkb03_16, hkb03_16], [], hkb03_304), [.inl 1, .inl 3, .inl 4, .inr (32, 0), .inr (32, 1), .inr (32, 2), .inr (32, 3), .inr (32, 4)], [(none, hkb03_299, [(32, hkb03_305)])])
def kbn_474 : List ai_Nd := [(35, (hkb03_306, [hkb03_222, hkb03_13, hkb03_107, hkb03_208, hkb03_154, hkb03_88, hkb03_243], [], hkb03_308), [.inl 6], [.inl 99964, .inl 1, .inr (true, .ofNat 2147483647, 8), .inl 100000])]
set_option maxRecDepth 1000000 in
theorem kbk_474 : ai_ck [kb_473] [] kb_474 [.inl 100000, .inl 0, .inl 0, .inl 0] kbn_474 36 = true := by decide +kernel
theorem kbh_474 : ai_holds kb_474 := ai_thm kbk_474 (ai_cons kbh_473 ai_nil)
/-- NeverAgain$SetFinder.pickFrom -/
def kb_475 : ai_K := (177, 4, (hkb03_299, [hkb03_222, hkb03_13, hkb03_11, hkb03_208, hkb03_154, hkb03_16, hkb03_16], [], hkb03_304), [.inl 1, .inl 3, .inl 4, .inr (32, 0), .inr (32, 1), .inr (32, 2), .inr (32, 3), .inr (32, 4)], [(none, hkb03_299, [(32, hkb03_305)])])
def kbn_475 : List ai_Nd := [(35, (hkb03_306, [hkb03_222, hkb03_13, hkb03_11, hkb03_208, hkb03_154, hkb03_88, hkb03_243], [], hkb03_308), [.inl 6], [.inl 99964, .inl 1, .inr (true, .ofNat 2147483647, 8), .inl 100000])]
set_option maxRecDepth 1000000 in
theorem kbk_475 : ai_ck [kb_474] [] kb_475 [.inl 100000, .inl 0, .inl 0, .inl 0] kbn_475 36 = true := by decide +kernel
theorem kbh_475 : ai_holds kb_475 := ai_thm kbk_475 (ai_cons kbh_474 ai_nil)
def hkb03_309 : ai_N := (.ofNat 4, .ofNat 4, [])
def hkb03_310 : ai_V := .inl (false, hkb03_309)
/-- NeverAgain$SetFinder.pickFrom -/
def kb_476 : ai_K := (177, 5, (hkb03_299, [hkb03_222, hkb03_13, hkb03_310, hkb03_208, hkb03_154, hkb03_16, hkb03_16], [], hkb03_304), [.inl 1, .inl 3, .inl 4, .inr (32, 0), .inr (32, 1), .inr (32, 2), .inr (32, 3), .inr (32, 4)], [(none, hkb03_299, [(32, hkb03_305)])])
def kbn_476 : List ai_Nd := [(35, (hkb03_306, [hkb03_222, hkb03_13, hkb03_310, hkb03_208, hkb03_154, hkb03_88, hkb03_243], [], hkb03_308), [.inl 6], [.inl 99964, .inl 1, .inr (true, .ofNat 2147483647, 8), .inl 100000])]
set_option maxRecDepth 1000000 in
theorem kbk_476 : ai_ck [kb_475] [] kb_476 [.inl 100000, .inl 0, .inl 0, .inl 0] kbn_476 36 = true := by decide +kernel
theorem kbh_476 : ai_holds kb_476 := ai_thm kbk_476 (ai_cons kbh_475 ai_nil)
def hkb03_311 : ai_N := (.ofNat 5, .ofNat 5, [])
def hkb03_312 : ai_V := .inl (false, hkb03_311)
/-- NeverAgain$SetFinder.pickFrom -/
def kb_477 : ai_K := (177, 6, (hkb03_299, [hkb03_222, hkb03_13, hkb03_312, hkb03_208, hkb03_154, hkb03_16, hkb03_16], [], hkb03_304), [.inl 1, .inl 3, .inl 4, .inr (32, 0), .inr (32, 1), .inr (32, 2), .inr (32, 3), .inr (32, 4)], [(none, hkb03_299, [(32, hkb03_305)])])
def kbn_477 : List ai_Nd := [(35, (hkb03_306, [hkb03_222, hkb03_13, hkb03_312, hkb03_208, hkb03_154, hkb03_88, hkb03_243], [], hkb03_308), [.inl 6], [.inl 99964, .inl 1, .inr (true, .ofNat 2147483647, 8), .inl 100000])]
set_option maxRecDepth 1000000 in
theorem kbk_477 : ai_ck [kb_476] [] kb_477 [.inl 100000, .inl 0, .inl 0, .inl 0] kbn_477 36 = true := by decide +kernel
theorem kbh_477 : ai_holds kb_477 := ai_thm kbk_477 (ai_cons kbh_476 ai_nil)
def hkb03_313 : ai_N := (.ofNat 6, .ofNat 6, [])
def hkb03_314 : ai_V := .inl (false, hkb03_313)
def hkb03_315 : ai_C := .inr (.inr (3, [hkb03_290, hkb03_154, hkb03_88, hkb03_88, hkb03_88]))
/-- NeverAgain$SetFinder.pickFrom -/
def kb_478 : ai_K := (177, 7, (hkb03_288, [hkb03_222, hkb03_147, hkb03_314, hkb03_13, hkb03_15, hkb03_16, hkb03_16], [], hkb03_293), [.inl 3, .inr (32, 0), .inr (32, 1), .inr (32, 2), .inr (32, 3), .inr (32, 4)], [(none, hkb03_288, [(32, hkb03_315)])])
def hkb03_316 : Int × Int := (.ofNat 1, .ofNat 2147483647)
def hkb03_317 : ai_E := [hkb03_0, hkb03_287, hkb03_0, hkb03_0, hkb03_0, hkb03_0, hkb03_316]
def hkb03_318 : ai_N := (.ofNat 1, .ofNat 2147483647, [])
def hkb03_319 : ai_V := .inl (false, hkb03_318)
def hkb03_320 : ai_N := (.ofNat 1, .ofNat 2147483647, [(6, .ofNat 0, .ofNat 0)])
def hkb03_321 : ai_V := .inl (false, hkb03_320)
def hkb03_322 : Bool × Option ai_C := (true, some hkb03_315)
def hkb03_323 : ai_W := [hkb03_17, hkb03_17, hkb03_17, hkb03_17, hkb03_17, hkb03_17, hkb03_17, hkb03_17, hkb03_17, hkb03_17, hkb03_17, hkb03_17, hkb03_17, hkb03_17, hkb03_17, hkb03_17, hkb03_17, hkb03_17, hkb03_17, hkb03_17, hkb03_17, hkb03_17, hkb03_17, hkb03_17, hkb03_17, hkb03_17, hkb03_17, hkb03_17, hkb03_17, hkb03_17, hkb03_17, hkb03_17, hkb03_322, hkb03_17, hkb03_17, hkb03_17, hkb03_17, hkb03_17, hkb03_17, hkb03_17, hkb03_17, hkb03_17, hkb03_17, hkb03_17, hkb03_17, hkb03_17, hkb03_17, hkb03_17, hkb03_17, hkb03_17, hkb03_17, hkb03_17, hkb03_17, hkb03_17, hkb03_17, hkb03_17, hkb03_17, hkb03_17, hkb03_17, hkb03_17, hkb03_17, hkb03_17, hkb03_17, hkb03_17, hkb03_17, hkb03_17, hkb03_17, hkb03_17, hkb03_17, hkb03_17, hkb03_17, hkb03_17, hkb03_17, hkb03_17, hkb03_17, hkb03_17]
def kbn_478 : List ai_Nd := [(35, (hkb03_317, [hkb03_222, hkb03_147, hkb03_314, hkb03_13, hkb03_15, hkb03_319, hkb03_321], [], hkb03_323), [.inl 6], [.inl 99964, .inl 1, .inr (true, .ofNat 2147483647, 6), .inl 100000])]
set_option maxRecDepth 1000000 in
theorem kbk_478 : ai_ck [kb_477] [] kb_478 [.inl 100000, .inl 0, .inl 0, .inl 0] kbn_478 36 = true := by decide +kernel
theorem kbh_478 : ai_holds kb_478 := ai_thm kbk_478 (ai_cons kbh_477 ai_nil)
def hkb03_324 : ai_E := [hkb03_0, hkb03_1, hkb03_2, hkb03_0, hkb03_0, hkb03_0, hkb03_3, hkb03_4, hkb03_5, hkb03_287, hkb03_0, hkb03_0, hkb03_0, hkb03_0]
def hkb03_325 : ai_N := (.ofNat 0, .ofNat 16, [(9, .ofNat 0, .ofNat 0)])
def hkb03_326 : ai_V := .inl (false, hkb03_325)
def hkb03_327 : ai_N := (.negSucc 2147483647, .ofNat 2147483647, [(13, .ofNat 0, .ofNat 0)])
def hkb03_328 : ai_V := .inl (false, hkb03_327)
def hkb03_329 : ai_C := .inr (.inr (3, [hkb03_326, hkb03_168, hkb03_71, hkb03_131, hkb03_328]))
def hkb03_330 : Bool × Option ai_C := (false, some hkb03_329)
def hkb03_331 : ai_W := [hkb03_17, hkb03_17, hkb03_17, hkb03_17, hkb03_17, hkb03_17, hkb03_17, hkb03_17, hkb03_41, hkb03_17, hkb03_17, hkb03_251, hkb03_17, hkb03_17, hkb03_17, hkb03_17, hkb03_17, hkb03_17, hkb03_17, hkb03_17, hkb03_17, hkb03_17, hkb03_17, hkb03_17, hkb03_17, hkb03_17, hkb03_17, hkb03_17, hkb03_17, hkb03_17, hkb03_17, hkb03_17, hkb03_330, hkb03_17, hkb03_17, hkb03_17, hkb03_17, hkb03_17, hkb03_17, hkb03_17, hkb03_17, hkb03_17, hkb03_17, hkb03_17, hkb03_17, hkb03_17, hkb03_17, hkb03_17, hkb03_17, hkb03_17, hkb03_17, hkb03_17, hkb03_17, hkb03_17, hkb03_17, hkb03_17, hkb03_17, hkb03_17, hkb03_17, hkb03_17, hkb03_17, hkb03_17, hkb03_17, hkb03_17, hkb03_17, hkb03_17, hkb03_17, hkb03_17, hkb03_17, hkb03_17, hkb03_17, hkb03_17, hkb03_17, hkb03_17, hkb03_17, hkb03_17]
def hkb03_332 : ai_C := .inr (.inr (3, [hkb03_25, hkb03_88, hkb03_88, hkb03_88, hkb03_88]))
/-- NeverAgain$SetFinder.find -/
def kb_479 : ai_K := (142, 8, (hkb03_324, [hkb03_222, hkb03_9, hkb03_314, hkb03_13], [], hkb03_331), [.inl 3, .inr (8, 6), .inr (8, 7), .inr (8, 8), .inr (8, 9), .inr (8, 10), .inr (8, 11), .inr (8, 12), .inr (8, 13), .inr (32, 0), .inr (32, 1), .inr (32, 2), .inr (32, 3), .inr (32, 4)], [(none, hkb03_324, [(32, hkb03_332)])])
def kbn_479 : List ai_Nd := []
set_option maxRecDepth 1000000 in
theorem kbk_479 : ai_ck [kb_470, kb_478] [] kb_479 [.inl 100000] kbn_479 25 = true := by decide +kernel
theorem kbh_479 : ai_holds kb_479 := ai_thm kbk_479 (ai_cons kbh_470 (ai_cons kbh_478 ai_nil))
/-- NeverAgain$SetFinder.pickFrom -/
def kb_480 : ai_K := (177, 6, (hkb03_288, [hkb03_222, hkb03_147, hkb03_312, hkb03_13, hkb03_15, hkb03_16, hkb03_16], [], hkb03_293), [.inl 3, .inr (32, 0), .inr (32, 1), .inr (32, 2), .inr (32, 3), .inr (32, 4)], [(none, hkb03_288, [(32, hkb03_315)])])
def kbn_480 : List ai_Nd := [(35, (hkb03_317, [hkb03_222, hkb03_147, hkb03_312, hkb03_13, hkb03_15, hkb03_319, hkb03_321], [], hkb03_323), [.inl 6], [.inl 99964, .inl 1, .inr (true, .ofNat 2147483647, 6), .inl 100000])]
set_option maxRecDepth 1000000 in
theorem kbk_480 : ai_ck [kb_476] [] kb_480 [.inl 100000, .inl 0, .inl 0, .inl 0] kbn_480 36 = true := by decide +kernel
theorem kbh_480 : ai_holds kb_480 := ai_thm kbk_480 (ai_cons kbh_476 ai_nil)
/-- NeverAgain$SetFinder.find -/
def kb_481 : ai_K := (142, 7, (hkb03_324, [hkb03_222, hkb03_9, hkb03_312, hkb03_13], [], hkb03_331), [.inl 3, .inr (8, 6), .inr (8, 7), .inr (8, 8), .inr (8, 9), .inr (8, 10), .inr (8, 11), .inr (8, 12), .inr (8, 13), .inr (32, 0), .inr (32, 1), .inr (32, 2), .inr (32, 3), .inr (32, 4)], [(none, hkb03_324, [(32, hkb03_332)])])
def kbn_481 : List ai_Nd := []
set_option maxRecDepth 1000000 in
theorem kbk_481 : ai_ck [kb_470, kb_480] [] kb_481 [.inl 100000] kbn_481 25 = true := by decide +kernel
theorem kbh_481 : ai_holds kb_481 := ai_thm kbk_481 (ai_cons kbh_470 (ai_cons kbh_480 ai_nil))
/-- NeverAgain$SetFinder.pickFrom -/
def kb_482 : ai_K := (177, 5, (hkb03_288, [hkb03_222, hkb03_147, hkb03_310, hkb03_13, hkb03_15, hkb03_16, hkb03_16], [], hkb03_293), [.inl 3, .inr (32, 0), .inr (32, 1), .inr (32, 2), .inr (32, 3), .inr (32, 4)], [(none, hkb03_288, [(32, hkb03_315)])])
def kbn_482 : List ai_Nd := [(35, (hkb03_317, [hkb03_222, hkb03_147, hkb03_310, hkb03_13, hkb03_15, hkb03_319, hkb03_321], [], hkb03_323), [.inl 6], [.inl 99964, .inl 1, .inr (true, .ofNat 2147483647, 6), .inl 100000])]
set_option maxRecDepth 1000000 in
theorem kbk_482 : ai_ck [kb_475] [] kb_482 [.inl 100000, .inl 0, .inl 0, .inl 0] kbn_482 36 = true := by decide +kernel
theorem kbh_482 : ai_holds kb_482 := ai_thm kbk_482 (ai_cons kbh_475 ai_nil)
/-- NeverAgain$SetFinder.find -/
def kb_483 : ai_K := (142, 6, (hkb03_324, [hkb03_222, hkb03_9, hkb03_310, hkb03_13], [], hkb03_331), [.inl 3, .inr (8, 6), .inr (8, 7), .inr (8, 8), .inr (8, 9), .inr (8, 10), .inr (8, 11), .inr (8, 12), .inr (8, 13), .inr (32, 0), .inr (32, 1), .inr (32, 2), .inr (32, 3), .inr (32, 4)], [(none, hkb03_324, [(32, hkb03_332)])])
def kbn_483 : List ai_Nd := []
set_option maxRecDepth 1000000 in
theorem kbk_483 : ai_ck [kb_470, kb_482] [] kb_483 [.inl 100000] kbn_483 25 = true := by decide +kernel
theorem kbh_483 : ai_holds kb_483 := ai_thm kbk_483 (ai_cons kbh_470 (ai_cons kbh_482 ai_nil))
/-- NeverAgain$SetFinder.pickFrom -/
def kb_484 : ai_K := (177, 4, (hkb03_288, [hkb03_222, hkb03_147, hkb03_11, hkb03_13, hkb03_15, hkb03_16, hkb03_16], [], hkb03_293), [.inl 3, .inr (32, 0), .inr (32, 1), .inr (32, 2), .inr (32, 3), .inr (32, 4)], [(none, hkb03_288, [(32, hkb03_315)])])
def kbn_484 : List ai_Nd := [(35, (hkb03_317, [hkb03_222, hkb03_147, hkb03_11, hkb03_13, hkb03_15, hkb03_319, hkb03_321], [], hkb03_323), [.inl 6], [.inl 99964, .inl 1, .inr (true, .ofNat 2147483647, 6), .inl 100000])]
set_option maxRecDepth 1000000 in
theorem kbk_484 : ai_ck [kb_474] [] kb_484 [.inl 100000, .inl 0, .inl 0, .inl 0] kbn_484 36 = true := by decide +kernel
theorem kbh_484 : ai_holds kb_484 := ai_thm kbk_484 (ai_cons kbh_474 ai_nil)
/-- NeverAgain$SetFinder.find -/
def kb_485 : ai_K := (142, 5, (hkb03_324, [hkb03_222, hkb03_9, hkb03_11, hkb03_13], [], hkb03_331), [.inl 3, .inr (8, 6), .inr (8, 7), .inr (8, 8), .inr (8, 9), .inr (8, 10), .inr (8, 11), .inr (8, 12), .inr (8, 13), .inr (32, 0), .inr (32, 1), .inr (32, 2), .inr (32, 3), .inr (32, 4)], [(none, hkb03_324, [(32, hkb03_332)])])
def kbn_485 : List ai_Nd := []
set_option maxRecDepth 1000000 in
theorem kbk_485 : ai_ck [kb_470, kb_484] [] kb_485 [.inl 100000] kbn_485 25 = true := by decide +kernel
theorem kbh_485 : ai_holds kb_485 := ai_thm kbk_485 (ai_cons kbh_470 (ai_cons kbh_484 ai_nil))
/-- NeverAgain$SetFinder.pickFrom -/
def kb_486 : ai_K := (177, 3, (hkb03_288, [hkb03_222, hkb03_147, hkb03_107, hkb03_13, hkb03_15, hkb03_16, hkb03_16], [], hkb03_293), [.inl 3, .inr (32, 0), .inr (32, 1), .inr (32, 2), .inr (32, 3), .inr (32, 4)], [(none, hkb03_288, [(32, hkb03_315)])])
def kbn_486 : List ai_Nd := [(35, (hkb03_317, [hkb03_222, hkb03_147, hkb03_107, hkb03_13, hkb03_15, hkb03_319, hkb03_321], [], hkb03_323), [.inl 6], [.inl 99964, .inl 1, .inr (true, .ofNat 2147483647, 6), .inl 100000])]
set_option maxRecDepth 1000000 in
theorem kbk_486 : ai_ck [kb_473] [] kb_486 [.inl 100000, .inl 0, .inl 0, .inl 0] kbn_486 36 = true := by decide +kernel
theorem kbh_486 : ai_holds kb_486 := ai_thm kbk_486 (ai_cons kbh_473 ai_nil)
/-- NeverAgain$SetFinder.find -/
def kb_487 : ai_K := (142, 4, (hkb03_324, [hkb03_222, hkb03_9, hkb03_107, hkb03_13], [], hkb03_331), [.inl 3, .inr (8, 6), .inr (8, 7), .inr (8, 8), .inr (8, 9), .inr (8, 10), .inr (8, 11), .inr (8, 12), .inr (8, 13), .inr (32, 0), .inr (32, 1), .inr (32, 2), .inr (32, 3), .inr (32, 4)], [(none, hkb03_324, [(32, hkb03_332)])])
def kbn_487 : List ai_Nd := []
set_option maxRecDepth 1000000 in
theorem kbk_487 : ai_ck [kb_470, kb_486] [] kb_487 [.inl 100000] kbn_487 25 = true := by decide +kernel
theorem kbh_487 : ai_holds kb_487 := ai_thm kbk_487 (ai_cons kbh_470 (ai_cons kbh_486 ai_nil))
/-- NeverAgain$SetFinder.pickFrom -/
def kb_488 : ai_K := (177, 2, (hkb03_288, [hkb03_222, hkb03_147, hkb03_147, hkb03_13, hkb03_15, hkb03_16, hkb03_16], [], hkb03_293), [.inl 3, .inr (32, 0), .inr (32, 1), .inr (32, 2), .inr (32, 3), .inr (32, 4)], [(none, hkb03_288, [(32, hkb03_315)])])
def kbn_488 : List ai_Nd := [(35, (hkb03_317, [hkb03_222, hkb03_147, hkb03_147, hkb03_13, hkb03_15, hkb03_319, hkb03_321], [], hkb03_323), [.inl 6], [.inl 99964, .inl 1, .inr (true, .ofNat 2147483647, 6), .inl 100000])]
set_option maxRecDepth 1000000 in
theorem kbk_488 : ai_ck [kb_472] [] kb_488 [.inl 100000, .inl 0, .inl 0, .inl 0] kbn_488 36 = true := by decide +kernel
theorem kbh_488 : ai_holds kb_488 := ai_thm kbk_488 (ai_cons kbh_472 ai_nil)
/-- NeverAgain$SetFinder.find -/
def kb_489 : ai_K := (142, 3, (hkb03_324, [hkb03_222, hkb03_9, hkb03_147, hkb03_13], [], hkb03_331), [.inl 3, .inr (8, 6), .inr (8, 7), .inr (8, 8), .inr (8, 9), .inr (8, 10), .inr (8, 11), .inr (8, 12), .inr (8, 13), .inr (32, 0), .inr (32, 1), .inr (32, 2), .inr (32, 3), .inr (32, 4)], [(none, hkb03_324, [(32, hkb03_332)])])
def kbn_489 : List ai_Nd := []
set_option maxRecDepth 1000000 in
theorem kbk_489 : ai_ck [kb_470, kb_488] [] kb_489 [.inl 100000] kbn_489 25 = true := by decide +kernel
theorem kbh_489 : ai_holds kb_489 := ai_thm kbk_489 (ai_cons kbh_470 (ai_cons kbh_488 ai_nil))
def hkb03_333 : ai_E := [hkb03_0, hkb03_0, hkb03_0, hkb03_216, hkb03_217, hkb03_5, hkb03_1, hkb03_2, hkb03_0, hkb03_0, hkb03_0, hkb03_3, hkb03_4, hkb03_5, hkb03_287, hkb03_0, hkb03_0, hkb03_0, hkb03_0]
def hkb03_334 : ai_N := (.ofNat 0, .ofNat 12, [(3, .ofNat 0, .ofNat 0)])
def hkb03_335 : ai_V := .inl (false, hkb03_334)
def hkb03_336 : ai_N := (.ofNat 0, .ofNat 6, [(4, .ofNat 0, .ofNat 0)])
def hkb03_337 : ai_V := .inl (false, hkb03_336)
def hkb03_338 : ai_N := (.ofNat 0, .ofNat 4, [(5, .ofNat 0, .ofNat 0)])
def hkb03_339 : ai_V := .inl (false, hkb03_338)
def hkb03_340 : ai_C := .inr (.inr (7, [hkb03_220, hkb03_62, hkb03_221, hkb03_8, hkb03_222, hkb03_223, hkb03_224, hkb03_225, hkb03_226, hkb03_9, hkb03_227, hkb03_335, hkb03_337, hkb03_339]))
def hkb03_341 : Bool × Option ai_C := (false, some hkb03_340)
def hkb03_342 : ai_N := (.ofNat 4, .ofNat 16, [(6, .ofNat 0, .ofNat 0)])
def hkb03_343 : ai_V := .inl (false, hkb03_342)
def hkb03_344 : ai_N := (.ofNat 1, .ofNat 4, [(7, .ofNat 0, .ofNat 0)])
def hkb03_345 : ai_V := .inl (false, hkb03_344)
def hkb03_346 : ai_N := (.negSucc 2147483647, .ofNat 2147483647, [(9, .ofNat 0, .ofNat 0)])
def hkb03_347 : ai_V := .inl (false, hkb03_346)
def hkb03_348 : ai_N := (.ofNat 0, .ofNat 60, [(11, .ofNat 0, .ofNat 0)])
def hkb03_349 : ai_V := .inl (false, hkb03_348)
def hkb03_350 : ai_N := (.ofNat 0, .ofNat 5, [(12, .ofNat 0, .ofNat 0)])
def hkb03_351 : ai_V := .inl (false, hkb03_350)
def hkb03_352 : ai_C := .inr (.inr (6, [hkb03_18, hkb03_19, hkb03_20, hkb03_21, hkb03_22, hkb03_23, hkb03_343, hkb03_345, hkb03_243, hkb03_347, hkb03_168, hkb03_349, hkb03_351, hkb03_257]))
def hkb03_353 : Bool × Option ai_C := (false, some hkb03_352)
def hkb03_354 : ai_N := (.ofNat 0, .ofNat 16, [(14, .ofNat 0, .ofNat 0)])
def hkb03_355 : ai_V := .inl (false, hkb03_354)
def hkb03_356 : ai_N := (.negSucc 2147483647, .ofNat 2147483647, [(15, .ofNat 0, .ofNat 0)])
def hkb03_357 : ai_V := .inl (false, hkb03_356)
def hkb03_358 : ai_N := (.negSucc 2147483647, .ofNat 2147483647, [(16, .ofNat 0, .ofNat 0)])
def hkb03_359 : ai_V := .inl (false, hkb03_358)
def hkb03_360 : ai_N := (.negSucc 2147483647, .ofNat 2147483647, [(17, .ofNat 0, .ofNat 0)])
def hkb03_361 : ai_V := .inl (false, hkb03_360)
def hkb03_362 : ai_N := (.negSucc 2147483647, .ofNat 2147483647, [(18, .ofNat 0, .ofNat 0)])
def hkb03_363 : ai_V := .inl (false, hkb03_362)
def hkb03_364 : ai_C := .inr (.inr (3, [hkb03_355, hkb03_357, hkb03_359, hkb03_361, hkb03_363]))
def hkb03_365 : Bool × Option ai_C := (false, some hkb03_364)
def hkb03_366 : ai_W := [hkb03_341, hkb03_17, hkb03_17, hkb03_17, hkb03_17, hkb03_17, hkb03_17, hkb03_17, hkb03_353, hkb03_17, hkb03_17, hkb03_251, hkb03_17, hkb03_17, hkb03_17, hkb03_17, hkb03_17, hkb03_17, hkb03_17, hkb03_17, hkb03_17, hkb03_17, hkb03_17, hkb03_17, hkb03_17, hkb03_17, hkb03_17, hkb03_17, hkb03_17, hkb03_17, hkb03_17, hkb03_17, hkb03_365, hkb03_17, hkb03_17, hkb03_17, hkb03_17, hkb03_17, hkb03_17, hkb03_17, hkb03_17, hkb03_17, hkb03_17, hkb03_17, hkb03_17, hkb03_17, hkb03_17, hkb03_17, hkb03_17, hkb03_17, hkb03_17, hkb03_17, hkb03_17, hkb03_17, hkb03_17, hkb03_17, hkb03_17, hkb03_17, hkb03_17, hkb03_17, hkb03_17, hkb03_17, hkb03_17, hkb03_17, hkb03_17, hkb03_17, hkb03_17, hkb03_17, hkb03_17, hkb03_17, hkb03_17, hkb03_17, hkb03_17, hkb03_17, hkb03_17, hkb03_17]
def hkb03_367 : Int × Int := (.ofNat 1, .ofNat 6)
def hkb03_368 : Int × Int := (.ofNat 0, .ofNat 100)
def hkb03_369 : Int × Int := (.ofNat 0, .ofNat 2)
def hkb03_370 : ai_E := [hkb03_367, hkb03_368, hkb03_369, hkb03_216, hkb03_217, hkb03_5, hkb03_1, hkb03_2, hkb03_0, hkb03_0, hkb03_0, hkb03_3, hkb03_4, hkb03_5, hkb03_287, hkb03_0, hkb03_0, hkb03_0, hkb03_0]
def hkb03_371 : ai_C := .inr (.inr (3, [hkb03_343, hkb03_88, hkb03_88, hkb03_88, hkb03_88]))
def hkb03_372 : Int × Int := (.ofNat 1, .ofNat 2)
def hkb03_373 : ai_E := [hkb03_367, hkb03_368, hkb03_372, hkb03_216, hkb03_217, hkb03_5, hkb03_1, hkb03_2, hkb03_0, hkb03_0, hkb03_0, hkb03_3, hkb03_4, hkb03_5, hkb03_287, hkb03_0, hkb03_0, hkb03_0, hkb03_0]
def hkb03_374 : ai_C := .inr (.inr (3, [hkb03_343, hkb03_88, hkb03_15, hkb03_88, hkb03_88]))
/-- NeverAgain.forgotten -/
def kb_490 : ai_K := (67, 9, (hkb03_333, [hkb03_219, hkb03_13, hkb03_208, hkb03_154], [], hkb03_366), [.inl 1, .inl 2, .inl 3, .inr (0, 11), .inr (0, 12), .inr (0, 13), .inr (8, 6), .inr (8, 7), .inr (8, 8), .inr (8, 9), .inr (8, 10), .inr (8, 11), .inr (8, 12), .inr (8, 13), .inr (32, 0), .inr (32, 1), .inr (32, 2), .inr (32, 3), .inr (32, 4)], [(some hkb03_280, hkb03_333, []), (some hkb03_88, hkb03_370, [(32, hkb03_371)]), (some hkb03_201, hkb03_373, [(32, hkb03_374)])])
def kbn_490 : List ai_Nd := []
set_option maxRecDepth 1000000 in
theorem kbk_490 : ai_ck [kb_479, kb_481, kb_483, kb_485, kb_487, kb_489] [(0, .inl 1, [.ofNat 1, .ofNat 2, .ofNat 3, .ofNat 4, .ofNat 5, .ofNat 6, .ofNat 7])] kb_490 [.inl 100000] kbn_490 38 = true := by decide +kernel
theorem kbh_490 : ai_holds kb_490 := ai_thm kbk_490 (ai_cons kbh_479 (ai_cons kbh_481 (ai_cons kbh_483 (ai_cons kbh_485 (ai_cons kbh_487 (ai_cons kbh_489 ai_nil))))))
def hkb03_375 : ai_E := [hkb03_1, hkb03_2, hkb03_0, hkb03_0, hkb03_0, hkb03_3, hkb03_4, hkb03_5, hkb03_1, hkb03_2, hkb03_0, hkb03_0, hkb03_0, hkb03_3, hkb03_4, hkb03_5]
def hkb03_376 : ai_V := .inr (some (.ref 43))
def hkb03_377 : ai_C := .inl (.int, [(5, hkb03_42)])
def hkb03_378 : Bool × Option ai_C := (false, some hkb03_377)
def hkb03_379 : ai_V := .inr (some (.ref 44))
def hkb03_380 : ai_V := .inr (some (.ref 45))
def hkb03_381 : ai_V := .inr (some (.ref 46))
def hkb03_382 : ai_V := .inr (some (.ref 47))
def hkb03_383 : ai_V := .inr (some (.ref 48))
def hkb03_384 : ai_V := .inr (some (.ref 49))
def hkb03_385 : ai_N := (.ofNat 4, .ofNat 16, [(8, .ofNat 0, .ofNat 0)])
def hkb03_386 : ai_V := .inl (false, hkb03_385)
def hkb03_387 : ai_N := (.ofNat 1, .ofNat 4, [(9, .ofNat 0, .ofNat 0)])
def hkb03_388 : ai_V := .inl (false, hkb03_387)
def hkb03_389 : ai_N := (.ofNat 0, .ofNat 60, [(13, .ofNat 0, .ofNat 0)])
def hkb03_390 : ai_V := .inl (false, hkb03_389)
def hkb03_391 : ai_N := (.ofNat 0, .ofNat 5, [(14, .ofNat 0, .ofNat 0)])
def hkb03_392 : ai_V := .inl (false, hkb03_391)
def hkb03_393 : ai_N := (.ofNat 0, .ofNat 4, [(15, .ofNat 0, .ofNat 0)])
def hkb03_394 : ai_V := .inl (false, hkb03_393)
def hkb03_395 : ai_C := .inr (.inr (6, [hkb03_379, hkb03_380, hkb03_381, hkb03_382, hkb03_383, hkb03_384, hkb03_386, hkb03_388, hkb03_168, hkb03_71, hkb03_131, hkb03_390, hkb03_392, hkb03_394]))
def hkb03_396 : Bool × Option ai_C := (false, some hkb03_395)
def hkb03_397 : ai_W := [hkb03_17, hkb03_17, hkb03_17, hkb03_17, hkb03_17, hkb03_17, hkb03_17, hkb03_17, hkb03_162, hkb03_46, hkb03_44, hkb03_251, hkb03_378, hkb03_46, hkb03_46, hkb03_17, hkb03_17, hkb03_17, hkb03_17, hkb03_17, hkb03_17, hkb03_17, hkb03_17, hkb03_17, hkb03_17, hkb03_17, hkb03_17, hkb03_17, hkb03_17, hkb03_17, hkb03_17, hkb03_17, hkb03_17, hkb03_17, hkb03_17, hkb03_17, hkb03_17, hkb03_17, hkb03_17, hkb03_17, hkb03_17, hkb03_17, hkb03_17, hkb03_396, hkb03_46, hkb03_44, hkb03_251, hkb03_378, hkb03_46, hkb03_46, hkb03_17, hkb03_17, hkb03_17, hkb03_17, hkb03_17, hkb03_17, hkb03_17, hkb03_17, hkb03_17, hkb03_17, hkb03_17, hkb03_17, hkb03_17, hkb03_17, hkb03_17, hkb03_17, hkb03_17, hkb03_17, hkb03_17, hkb03_17, hkb03_17, hkb03_17, hkb03_17, hkb03_17, hkb03_17, hkb03_17]
def hkb03_398 : ai_C := .inr (.inr (6, [hkb03_379, hkb03_380, hkb03_381, hkb03_382, hkb03_383, hkb03_384, hkb03_150, hkb03_152, hkb03_154, hkb03_29, hkb03_31, hkb03_156, hkb03_158, hkb03_160]))
/-- NeverAgain$Told.copyOf -/
def kb_491 : ai_K := (144, 0, (hkb03_375, [hkb03_376, hkb03_9], [], hkb03_397), [.inr (8, 6), .inr (8, 7), .inr (8, 8), .inr (8, 9), .inr (8, 10), .inr (8, 11), .inr (8, 12), .inr (8, 13), .inr (43, 6), .inr (43, 7), .inr (43, 8), .inr (43, 9), .inr (43, 10), .inr (43, 11), .inr (43, 12), .inr (43, 13)], [(none, hkb03_375, [(43, hkb03_398), (44, hkb03_45), (45, hkb03_43), (46, hkb03_250), (47, hkb03_377), (48, hkb03_45), (49, hkb03_45)])])
def kbn_491 : List ai_Nd := []
set_option maxRecDepth 1000000 in
theorem kbk_491 : ai_ck [] [] kb_491 [.inl 100000] kbn_491 82 = true := by decide +kernel
theorem kbh_491 : ai_holds kb_491 := ai_thm kbk_491 ai_nil
def hkb03_399 : ai_V := .inr (some (.ref 36))
def hkb03_400 : ai_V := .inr (some (.ref 37))
def hkb03_401 : ai_V := .inr (some (.ref 38))
def hkb03_402 : ai_V := .inr (some (.ref 39))
def hkb03_403 : ai_V := .inr (some (.ref 40))
def hkb03_404 : ai_V := .inr (some (.ref 41))
def hkb03_405 : ai_V := .inr (some (.ref 42))
def hkb03_406 : ai_C := .inr (.inr (6, [hkb03_400, hkb03_401, hkb03_402, hkb03_403, hkb03_404, hkb03_405, hkb03_386, hkb03_388, hkb03_168, hkb03_71, hkb03_131, hkb03_390, hkb03_392, hkb03_394]))
def hkb03_407 : Bool × Option ai_C := (false, some hkb03_406)
def hkb03_408 : ai_W := [hkb03_17, hkb03_17, hkb03_17, hkb03_17, hkb03_17, hkb03_17, hkb03_17, hkb03_17, hkb03_162, hkb03_46, hkb03_44, hkb03_251, hkb03_378, hkb03_46, hkb03_46, hkb03_17, hkb03_17, hkb03_17, hkb03_17, hkb03_17, hkb03_17, hkb03_17, hkb03_17, hkb03_17, hkb03_17, hkb03_17, hkb03_17, hkb03_17, hkb03_17, hkb03_17, hkb03_17, hkb03_17, hkb03_17, hkb03_17, hkb03_17, hkb03_17, hkb03_407, hkb03_46, hkb03_44, hkb03_251, hkb03_378, hkb03_46, hkb03_46, hkb03_17, hkb03_17, hkb03_17, hkb03_17, hkb03_17, hkb03_17, hkb03_17, hkb03_17, hkb03_17, hkb03_17, hkb03_17, hkb03_17, hkb03_17, hkb03_17, hkb03_17, hkb03_17, hkb03_17, hkb03_17, hkb03_17, hkb03_17, hkb03_17, hkb03_17, hkb03_17, hkb03_17, hkb03_17, hkb03_17, hkb03_17, hkb03_17, hkb03_17, hkb03_17, hkb03_17, hkb03_17, hkb03_17]
def hkb03_409 : ai_C := .inr (.inr (6, [hkb03_400, hkb03_401, hkb03_402, hkb03_403, hkb03_404, hkb03_405, hkb03_150, hkb03_152, hkb03_154, hkb03_29, hkb03_31, hkb03_156, hkb03_158, hkb03_160]))
/-- NeverAgain$Told.copyOf -/
def kb_492 : ai_K := (144, 0, (hkb03_375, [hkb03_399, hkb03_9], [], hkb03_408), [.inr (8, 6), .inr (8, 7), .inr (8, 8), .inr (8, 9), .inr (8, 10), .inr (8, 11), .inr (8, 12), .inr (8, 13), .inr (36, 6), .inr (36, 7), .inr (36, 8), .inr (36, 9), .inr (36, 10), .inr (36, 11), .inr (36, 12), .inr (36, 13)], [(none, hkb03_375, [(36, hkb03_409), (37, hkb03_45), (38, hkb03_43), (39, hkb03_250), (40, hkb03_377), (41, hkb03_45), (42, hkb03_45)])])
def kbn_492 : List ai_Nd := []
set_option maxRecDepth 1000000 in
theorem kbk_492 : ai_ck [] [] kb_492 [.inl 100000] kbn_492 82 = true := by decide +kernel
theorem kbh_492 : ai_holds kb_492 := ai_thm kbk_492 ai_nil
def hkb03_410 : ai_E := [hkb03_0, hkb03_216, hkb03_217, hkb03_5, hkb03_1, hkb03_2, hkb03_0, hkb03_0, hkb03_0, hkb03_3, hkb03_4, hkb03_5, hkb03_1, hkb03_2, hkb03_0, hkb03_0, hkb03_0, hkb03_3, hkb03_4, hkb03_5, hkb03_1, hkb03_2, hkb03_0, hkb03_0, hkb03_0, hkb03_3, hkb03_4, hkb03_5]
def hkb03_411 : ai_N := (.ofNat 0, .ofNat 1, [])
def hkb03_412 : ai_C := .inl (.boolean, [(2, hkb03_411)])
def hkb03_413 : Bool × Option ai_C := (false, some hkb03_412)
def hkb03_414 : ai_C := .inr (.inl (6, [some 36, some 43]))
def hkb03_415 : Bool × Option ai_C := (false, some hkb03_414)
def hkb03_416 : ai_N := (.ofNat 4, .ofNat 16, [(12, .ofNat 0, .ofNat 0)])
def hkb03_417 : ai_V := .inl (false, hkb03_416)
def hkb03_418 : ai_N := (.ofNat 1, .ofNat 4, [(13, .ofNat 0, .ofNat 0)])
def hkb03_419 : ai_V := .inl (false, hkb03_418)
def hkb03_420 : ai_N := (.ofNat 0, .ofNat 60, [(17, .ofNat 0, .ofNat 0)])
def hkb03_421 : ai_V := .inl (false, hkb03_420)
def hkb03_422 : ai_N := (.ofNat 0, .ofNat 5, [(18, .ofNat 0, .ofNat 0)])
def hkb03_423 : ai_V := .inl (false, hkb03_422)
def hkb03_424 : ai_N := (.ofNat 0, .ofNat 4, [(19, .ofNat 0, .ofNat 0)])
def hkb03_425 : ai_V := .inl (false, hkb03_424)
def hkb03_426 : ai_C := .inr (.inr (6, [hkb03_400, hkb03_401, hkb03_402, hkb03_403, hkb03_404, hkb03_405, hkb03_417, hkb03_419, hkb03_259, hkb03_357, hkb03_359, hkb03_421, hkb03_423, hkb03_425]))
def hkb03_427 : Bool × Option ai_C := (false, some hkb03_426)
def hkb03_428 : ai_N := (.ofNat 4, .ofNat 16, [(20, .ofNat 0, .ofNat 0)])
def hkb03_429 : ai_V := .inl (false, hkb03_428)
def hkb03_430 : ai_N := (.ofNat 1, .ofNat 4, [(21, .ofNat 0, .ofNat 0)])
def hkb03_431 : ai_V := .inl (false, hkb03_430)
def hkb03_432 : ai_N := (.negSucc 2147483647, .ofNat 2147483647, [(22, .ofNat 0, .ofNat 0)])
def hkb03_433 : ai_V := .inl (false, hkb03_432)
def hkb03_434 : ai_N := (.negSucc 2147483647, .ofNat 2147483647, [(23, .ofNat 0, .ofNat 0)])
def hkb03_435 : ai_V := .inl (false, hkb03_434)
def hkb03_436 : ai_N := (.negSucc 2147483647, .ofNat 2147483647, [(24, .ofNat 0, .ofNat 0)])
def hkb03_437 : ai_V := .inl (false, hkb03_436)
def hkb03_438 : ai_N := (.ofNat 0, .ofNat 60, [(25, .ofNat 0, .ofNat 0)])
def hkb03_439 : ai_V := .inl (false, hkb03_438)
def hkb03_440 : ai_N := (.ofNat 0, .ofNat 5, [(26, .ofNat 0, .ofNat 0)])
def hkb03_441 : ai_V := .inl (false, hkb03_440)
def hkb03_442 : ai_N := (.ofNat 0, .ofNat 4, [(27, .ofNat 0, .ofNat 0)])
def hkb03_443 : ai_V := .inl (false, hkb03_442)
def hkb03_444 : ai_C := .inr (.inr (6, [hkb03_379, hkb03_380, hkb03_381, hkb03_382, hkb03_383, hkb03_384, hkb03_429, hkb03_431, hkb03_433, hkb03_435, hkb03_437, hkb03_439, hkb03_441, hkb03_443]))
def hkb03_445 : Bool × Option ai_C := (false, some hkb03_444)
def hkb03_446 : ai_W := [hkb03_235, hkb03_17, hkb03_17, hkb03_17, hkb03_17, hkb03_17, hkb03_17, hkb03_17, hkb03_249, hkb03_46, hkb03_44, hkb03_251, hkb03_378, hkb03_46, hkb03_46, hkb03_17, hkb03_17, hkb03_17, hkb03_17, hkb03_17, hkb03_17, hkb03_17, hkb03_17, hkb03_17, hkb03_17, hkb03_17, hkb03_17, hkb03_17, hkb03_17, hkb03_17, hkb03_17, hkb03_17, hkb03_17, hkb03_17, hkb03_413, hkb03_415, hkb03_427, hkb03_46, hkb03_44, hkb03_251, hkb03_378, hkb03_46, hkb03_46, hkb03_445, hkb03_46, hkb03_44, hkb03_251, hkb03_378, hkb03_46, hkb03_46, hkb03_17, hkb03_17, hkb03_17, hkb03_17, hkb03_17, hkb03_17, hkb03_17, hkb03_17, hkb03_17, hkb03_17, hkb03_17, hkb03_17, hkb03_17, hkb03_17, hkb03_17, hkb03_17, hkb03_17, hkb03_17, hkb03_17, hkb03_17, hkb03_17, hkb03_17, hkb03_17, hkb03_17, hkb03_17, hkb03_17]
def hkb03_447 : Int × Int := (.ofNat 2, .ofNat 2147483647)
def hkb03_448 : ai_E := [hkb03_447, hkb03_216, hkb03_217, hkb03_5, hkb03_1, hkb03_2, hkb03_0, hkb03_0, hkb03_0, hkb03_3, hkb03_4, hkb03_5, hkb03_1, hkb03_2, hkb03_0, hkb03_0, hkb03_0, hkb03_3, hkb03_4, hkb03_5, hkb03_1, hkb03_2, hkb03_0, hkb03_0, hkb03_0, hkb03_3, hkb03_4, hkb03_5]
def hkb03_449 : Int × Int := (.ofNat 1, .ofNat 1)
def hkb03_450 : ai_E := [hkb03_449, hkb03_216, hkb03_217, hkb03_5, hkb03_1, hkb03_2, hkb03_0, hkb03_0, hkb03_0, hkb03_3, hkb03_4, hkb03_5, hkb03_1, hkb03_2, hkb03_0, hkb03_0, hkb03_0, hkb03_3, hkb03_4, hkb03_5, hkb03_1, hkb03_2, hkb03_0, hkb03_0, hkb03_0, hkb03_3, hkb03_4, hkb03_5]
def hkb03_451 : ai_C := .inr (.inr (6, [hkb03_379, hkb03_380, hkb03_381, hkb03_382, hkb03_383, hkb03_384, hkb03_237, hkb03_239, hkb03_115, hkb03_241, hkb03_243, hkb03_245, hkb03_247, hkb03_129]))
def hkb03_452 : ai_E := [hkb03_80, hkb03_216, hkb03_217, hkb03_5, hkb03_1, hkb03_2, hkb03_0, hkb03_0, hkb03_0, hkb03_3, hkb03_4, hkb03_5, hkb03_1, hkb03_2, hkb03_0, hkb03_0, hkb03_0, hkb03_3, hkb03_4, hkb03_5, hkb03_1, hkb03_2, hkb03_0, hkb03_0, hkb03_0, hkb03_3, hkb03_4, hkb03_5]
def hkb03_453 : ai_C := .inr (.inr (6, [hkb03_400, hkb03_401, hkb03_402, hkb03_403, hkb03_404, hkb03_405, hkb03_237, hkb03_239, hkb03_115, hkb03_241, hkb03_243, hkb03_245, hkb03_247, hkb03_129]))
def hkb03_454 : ai_E := [hkb03_195, hkb03_216, hkb03_217, hkb03_5, hkb03_1, hkb03_2, hkb03_0, hkb03_0, hkb03_0, hkb03_3, hkb03_4, hkb03_5, hkb03_1, hkb03_2, hkb03_0, hkb03_0, hkb03_0, hkb03_3, hkb03_4, hkb03_5, hkb03_1, hkb03_2, hkb03_0, hkb03_0, hkb03_0, hkb03_3, hkb03_4, hkb03_5]
/-- NeverAgain.keep -/
def kb_493 : ai_K := (69, 1, (hkb03_410, [hkb03_219, hkb03_13, hkb03_16], [], hkb03_446), [.inl 1, .inr (0, 11), .inr (0, 12), .inr (0, 13), .inr (8, 6), .inr (8, 7), .inr (8, 8), .inr (8, 9), .inr (8, 10), .inr (8, 11), .inr (8, 12), .inr (8, 13), .inr (36, 6), .inr (36, 7), .inr (36, 8), .inr (36, 9), .inr (36, 10), .inr (36, 11), .inr (36, 12), .inr (36, 13), .inr (43, 6), .inr (43, 7), .inr (43, 8), .inr (43, 9), .inr (43, 10), .inr (43, 11), .inr (43, 12), .inr (43, 13)], [(some hkb03_280, hkb03_448, []), (some hkb03_147, hkb03_450, [(34, hkb03_412), (43, hkb03_451), (44, hkb03_45), (45, hkb03_43), (46, hkb03_250), (47, hkb03_377), (48, hkb03_45), (49, hkb03_45)]), (some hkb03_15, hkb03_450, [(34, hkb03_412), (43, hkb03_451), (44, hkb03_45), (45, hkb03_43), (46, hkb03_250), (47, hkb03_377), (48, hkb03_45), (49, hkb03_45)]), (some hkb03_147, hkb03_452, [(34, hkb03_412), (36, hkb03_453), (37, hkb03_45), (38, hkb03_43), (39, hkb03_250), (40, hkb03_377), (41, hkb03_45), (42, hkb03_45)]), (some hkb03_15, hkb03_452, [(34, hkb03_412), (36, hkb03_453), (37, hkb03_45), (38, hkb03_43), (39, hkb03_250), (40, hkb03_377), (41, hkb03_45), (42, hkb03_45)]), (some hkb03_280, hkb03_454, [])])
def kbn_493 : List ai_Nd := []
set_option maxRecDepth 1000000 in
theorem kbk_493 : ai_ck [kb_491, kb_492] [(0, .inl 1, [.ofNat 0, .ofNat 1, .ofNat 2])] kb_493 [.inl 100000] kbn_493 28 = true := by decide +kernel
theorem kbh_493 : ai_holds kb_493 := ai_thm kbk_493 (ai_cons kbh_491 (ai_cons kbh_492 ai_nil))
def hkb03_455 : ai_C := .inr (.inr (6, [hkb03_18, hkb03_19, hkb03_20, hkb03_21, hkb03_22, hkb03_23, hkb03_386, hkb03_388, hkb03_168, hkb03_71, hkb03_131, hkb03_390, hkb03_392, hkb03_394]))
/-- NeverAgain$Told.copyOf -/
def kb_494 : ai_K := (144, 0, (hkb03_375, [hkb03_9, hkb03_376], [], hkb03_397), [.inr (8, 6), .inr (8, 7), .inr (8, 8), .inr (8, 9), .inr (8, 10), .inr (8, 11), .inr (8, 12), .inr (8, 13), .inr (43, 6), .inr (43, 7), .inr (43, 8), .inr (43, 9), .inr (43, 10), .inr (43, 11), .inr (43, 12), .inr (43, 13)], [(none, hkb03_375, [(8, hkb03_455), (9, hkb03_45), (10, hkb03_43), (11, hkb03_250), (12, hkb03_377), (13, hkb03_45), (14, hkb03_45)])])
def kbn_494 : List ai_Nd := []
set_option maxRecDepth 1000000 in
theorem kbk_494 : ai_ck [] [] kb_494 [.inl 100000] kbn_494 82 = true := by decide +kernel
theorem kbh_494 : ai_holds kb_494 := ai_thm kbk_494 ai_nil
/-- NeverAgain$Told.copyOf -/
def kb_495 : ai_K := (144, 0, (hkb03_375, [hkb03_9, hkb03_399], [], hkb03_408), [.inr (8, 6), .inr (8, 7), .inr (8, 8), .inr (8, 9), .inr (8, 10), .inr (8, 11), .inr (8, 12), .inr (8, 13), .inr (36, 6), .inr (36, 7), .inr (36, 8), .inr (36, 9), .inr (36, 10), .inr (36, 11), .inr (36, 12), .inr (36, 13)], [(none, hkb03_375, [(8, hkb03_455), (9, hkb03_45), (10, hkb03_43), (11, hkb03_250), (12, hkb03_377), (13, hkb03_45), (14, hkb03_45)])])
def kbn_495 : List ai_Nd := []
set_option maxRecDepth 1000000 in
theorem kbk_495 : ai_ck [] [] kb_495 [.inl 100000] kbn_495 82 = true := by decide +kernel
theorem kbh_495 : ai_holds kb_495 := ai_thm kbk_495 ai_nil
def hkb03_456 : ai_N := (.negSucc 1, .negSucc 1, [])
def hkb03_457 : ai_V := .inl (false, hkb03_456)
def hkb03_458 : ai_C := .inr (.inr (6, [hkb03_18, hkb03_19, hkb03_20, hkb03_21, hkb03_22, hkb03_23, hkb03_429, hkb03_431, hkb03_433, hkb03_435, hkb03_437, hkb03_439, hkb03_441, hkb03_443]))
def hkb03_459 : ai_C := .inr (.inr (6, [hkb03_18, hkb03_19, hkb03_20, hkb03_21, hkb03_22, hkb03_23, hkb03_417, hkb03_419, hkb03_259, hkb03_357, hkb03_359, hkb03_421, hkb03_423, hkb03_425]))
/-- NeverAgain.back -/
def kb_496 : ai_K := (71, 1, (hkb03_410, [hkb03_219, hkb03_13], [], hkb03_446), [.inl 1, .inr (0, 11), .inr (0, 12), .inr (0, 13), .inr (8, 6), .inr (8, 7), .inr (8, 8), .inr (8, 9), .inr (8, 10), .inr (8, 11), .inr (8, 12), .inr (8, 13), .inr (36, 6), .inr (36, 7), .inr (36, 8), .inr (36, 9), .inr (36, 10), .inr (36, 11), .inr (36, 12), .inr (36, 13), .inr (43, 6), .inr (43, 7), .inr (43, 8), .inr (43, 9), .inr (43, 10), .inr (43, 11), .inr (43, 12), .inr (43, 13)], [(some hkb03_280, hkb03_448, []), (some hkb03_457, hkb03_450, []), (some hkb03_439, hkb03_450, [(8, hkb03_458), (9, hkb03_45), (10, hkb03_43), (11, hkb03_250), (12, hkb03_377), (13, hkb03_45), (14, hkb03_45)]), (some hkb03_457, hkb03_452, []), (some hkb03_421, hkb03_452, [(8, hkb03_459), (9, hkb03_45), (10, hkb03_43), (11, hkb03_250), (12, hkb03_377), (13, hkb03_45), (14, hkb03_45)]), (some hkb03_280, hkb03_454, [])])
def kbn_496 : List ai_Nd := []
set_option maxRecDepth 1000000 in
theorem kbk_496 : ai_ck [kb_494, kb_495] [(0, .inl 1, [.ofNat 0, .ofNat 1, .ofNat 2])] kb_496 [.inl 100000] kbn_496 22 = true := by decide +kernel
theorem kbh_496 : ai_holds kb_496 := ai_thm kbk_496 (ai_cons kbh_494 (ai_cons kbh_495 ai_nil))
def hkb03_460 : ai_V := .inr (some (.ref 58))
def hkb03_461 : ai_C := .inl (.int, [(40, hkb03_42)])
def hkb03_462 : Bool × Option ai_C := (false, some hkb03_461)
def hkb03_463 : ai_W := [hkb03_17, hkb03_17, hkb03_17, hkb03_17, hkb03_17, hkb03_17, hkb03_17, hkb03_17, hkb03_17, hkb03_17, hkb03_17, hkb03_17, hkb03_17, hkb03_17, hkb03_17, hkb03_17, hkb03_17, hkb03_17, hkb03_17, hkb03_17, hkb03_17, hkb03_17, hkb03_17, hkb03_17, hkb03_17, hkb03_17, hkb03_17, hkb03_17, hkb03_17, hkb03_17, hkb03_17, hkb03_17, hkb03_17, hkb03_17, hkb03_17, hkb03_17, hkb03_17, hkb03_17, hkb03_17, hkb03_17, hkb03_17, hkb03_17, hkb03_17, hkb03_17, hkb03_17, hkb03_17, hkb03_17, hkb03_17, hkb03_17, hkb03_17, hkb03_17, hkb03_17, hkb03_17, hkb03_17, hkb03_17, hkb03_17, hkb03_17, hkb03_17, hkb03_462, hkb03_17, hkb03_17, hkb03_17, hkb03_17, hkb03_17, hkb03_17, hkb03_17, hkb03_17, hkb03_17, hkb03_17, hkb03_17, hkb03_17, hkb03_17, hkb03_17, hkb03_17, hkb03_17, hkb03_17]
/-- java/util/Arrays.fill -/
def kb_497 : ai_K := (162, 0, ([], [hkb03_460, hkb03_15, hkb03_16, hkb03_16], [], hkb03_463), [], [(none, [], [(58, hkb03_461)])])
def hkb03_464 : Int × Int := (.ofNat 0, .ofNat 40)
def hkb03_465 : ai_N := (.ofNat 0, .ofNat 40, [(0, .ofNat 0, .ofNat 0)])
def hkb03_466 : ai_V := .inl (false, hkb03_465)
def hkb03_467 : ai_N := (.ofNat 40, .ofNat 40, [])
def hkb03_468 : ai_V := .inl (false, hkb03_467)
def hkb03_469 : Bool × Option ai_C := (true, some hkb03_461)
def hkb03_470 : ai_W := [hkb03_17, hkb03_17, hkb03_17, hkb03_17, hkb03_17, hkb03_17, hkb03_17, hkb03_17, hkb03_17, hkb03_17, hkb03_17, hkb03_17, hkb03_17, hkb03_17, hkb03_17, hkb03_17, hkb03_17, hkb03_17, hkb03_17, hkb03_17, hkb03_17, hkb03_17, hkb03_17, hkb03_17, hkb03_17, hkb03_17, hkb03_17, hkb03_17, hkb03_17, hkb03_17, hkb03_17, hkb03_17, hkb03_17, hkb03_17, hkb03_17, hkb03_17, hkb03_17, hkb03_17, hkb03_17, hkb03_17, hkb03_17, hkb03_17, hkb03_17, hkb03_17, hkb03_17, hkb03_17, hkb03_17, hkb03_17, hkb03_17, hkb03_17, hkb03_17, hkb03_17, hkb03_17, hkb03_17, hkb03_17, hkb03_17, hkb03_17, hkb03_17, hkb03_469, hkb03_17, hkb03_17, hkb03_17, hkb03_17, hkb03_17, hkb03_17, hkb03_17, hkb03_17, hkb03_17, hkb03_17, hkb03_17, hkb03_17, hkb03_17, hkb03_17, hkb03_17, hkb03_17, hkb03_17]
def kbn_497 : List ai_Nd := [(5, ([hkb03_464], [hkb03_460, hkb03_15, hkb03_466, hkb03_468], [], hkb03_470), [.inl 2], [.inl 99994, .inl 1, .inr (true, .ofNat 40, 0), .inl 100000])]
set_option maxRecDepth 1000000 in
theorem kbk_497 : ai_ck [] [] kb_497 [.inl 100000, .inl 0, .inl 0, .inl 0] kbn_497 11 = true := by decide +kernel
theorem kbh_497 : ai_holds kb_497 := ai_thm kbk_497 ai_nil
def hkb03_471 : Int × Int := (.negSucc 0, .ofNat 2)
def hkb03_472 : ai_E := [hkb03_0, hkb03_0, hkb03_471, hkb03_464]
def hkb03_473 : ai_V := .inr (some (.ref 57))
def hkb03_474 : ai_N := (.negSucc 0, .ofNat 2, [(2, .ofNat 0, .ofNat 0)])
def hkb03_475 : ai_V := .inl (false, hkb03_474)
def hkb03_476 : ai_N := (.ofNat 0, .ofNat 40, [(3, .ofNat 0, .ofNat 0)])
def hkb03_477 : ai_V := .inl (false, hkb03_476)
def hkb03_478 : ai_C := .inr (.inr (4, [hkb03_460, hkb03_475, hkb03_477]))
def hkb03_479 : Bool × Option ai_C := (false, some hkb03_478)
def hkb03_480 : ai_W := [hkb03_17, hkb03_17, hkb03_17, hkb03_17, hkb03_17, hkb03_17, hkb03_17, hkb03_17, hkb03_17, hkb03_17, hkb03_17, hkb03_17, hkb03_17, hkb03_17, hkb03_17, hkb03_17, hkb03_17, hkb03_17, hkb03_17, hkb03_17, hkb03_17, hkb03_17, hkb03_17, hkb03_17, hkb03_17, hkb03_17, hkb03_17, hkb03_17, hkb03_17, hkb03_17, hkb03_17, hkb03_17, hkb03_17, hkb03_17, hkb03_17, hkb03_17, hkb03_17, hkb03_17, hkb03_17, hkb03_17, hkb03_17, hkb03_17, hkb03_17, hkb03_17, hkb03_17, hkb03_17, hkb03_17, hkb03_17, hkb03_17, hkb03_17, hkb03_17, hkb03_17, hkb03_17, hkb03_17, hkb03_17, hkb03_17, hkb03_17, hkb03_479, hkb03_462, hkb03_17, hkb03_17, hkb03_17, hkb03_17, hkb03_17, hkb03_17, hkb03_17, hkb03_17, hkb03_17, hkb03_17, hkb03_17, hkb03_17, hkb03_17, hkb03_17, hkb03_17, hkb03_17, hkb03_17]
def hkb03_481 : ai_N := (.ofNat 0, .ofNat 40, [])
def hkb03_482 : ai_V := .inl (false, hkb03_481)
def hkb03_483 : ai_C := .inr (.inr (4, [hkb03_460, hkb03_13, hkb03_482]))
/-- NeverAgain$Sheet.makeNew -/
def kb_498 : ai_K := (146, 1, (hkb03_472, [hkb03_473, hkb03_13, hkb03_208], [], hkb03_480), [.inl 1, .inl 2, .inr (57, 1), .inr (57, 2)], [(none, hkb03_472, [(57, hkb03_483), (58, hkb03_461)])])
def kbn_498 : List ai_Nd := []
set_option maxRecDepth 1000000 in
theorem kbk_498 : ai_ck [kb_497] [] kb_498 [.inl 100000] kbn_498 16 = true := by decide +kernel
theorem kbh_498 : ai_holds kb_498 := ai_thm kbk_498 (ai_cons kbh_497 ai_nil)
def hkb03_484 : ai_V := .inr (some (.ref 56))
def hkb03_485 : ai_W := [hkb03_17, hkb03_17, hkb03_17, hkb03_17, hkb03_17, hkb03_17, hkb03_17, hkb03_17, hkb03_17, hkb03_17, hkb03_17, hkb03_17, hkb03_17, hkb03_17, hkb03_17, hkb03_17, hkb03_17, hkb03_17, hkb03_17, hkb03_17, hkb03_17, hkb03_17, hkb03_17, hkb03_17, hkb03_17, hkb03_17, hkb03_17, hkb03_17, hkb03_17, hkb03_17, hkb03_17, hkb03_17, hkb03_17, hkb03_17, hkb03_17, hkb03_17, hkb03_17, hkb03_17, hkb03_17, hkb03_17, hkb03_17, hkb03_17, hkb03_17, hkb03_17, hkb03_17, hkb03_17, hkb03_17, hkb03_17, hkb03_17, hkb03_17, hkb03_17, hkb03_17, hkb03_17, hkb03_17, hkb03_17, hkb03_17, hkb03_462, hkb03_17, hkb03_17, hkb03_17, hkb03_17, hkb03_17, hkb03_17, hkb03_17, hkb03_17, hkb03_17, hkb03_17, hkb03_17, hkb03_17, hkb03_17, hkb03_17, hkb03_17, hkb03_17, hkb03_17, hkb03_17, hkb03_17]
/-- java/util/Arrays.fill -/
def kb_499 : ai_K := (162, 0, ([], [hkb03_484, hkb03_15, hkb03_16, hkb03_16], [], hkb03_485), [], [(none, [], [(56, hkb03_461)])])
def hkb03_486 : ai_W := [hkb03_17, hkb03_17, hkb03_17, hkb03_17, hkb03_17, hkb03_17, hkb03_17, hkb03_17, hkb03_17, hkb03_17, hkb03_17, hkb03_17, hkb03_17, hkb03_17, hkb03_17, hkb03_17, hkb03_17, hkb03_17, hkb03_17, hkb03_17, hkb03_17, hkb03_17, hkb03_17, hkb03_17, hkb03_17, hkb03_17, hkb03_17, hkb03_17, hkb03_17, hkb03_17, hkb03_17, hkb03_17, hkb03_17, hkb03_17, hkb03_17, hkb03_17, hkb03_17, hkb03_17, hkb03_17, hkb03_17, hkb03_17, hkb03_17, hkb03_17, hkb03_17, hkb03_17, hkb03_17, hkb03_17, hkb03_17, hkb03_17, hkb03_17, hkb03_17, hkb03_17, hkb03_17, hkb03_17, hkb03_17, hkb03_17, hkb03_469, hkb03_17, hkb03_17, hkb03_17, hkb03_17, hkb03_17, hkb03_17, hkb03_17, hkb03_17, hkb03_17, hkb03_17, hkb03_17, hkb03_17, hkb03_17, hkb03_17, hkb03_17, hkb03_17, hkb03_17, hkb03_17, hkb03_17]
def kbn_499 : List ai_Nd := [(5, ([hkb03_464], [hkb03_484, hkb03_15, hkb03_466, hkb03_468], [], hkb03_486), [.inl 2], [.inl 99994, .inl 1, .inr (true, .ofNat 40, 0), .inl 100000])]
set_option maxRecDepth 1000000 in
theorem kbk_499 : ai_ck [] [] kb_499 [.inl 100000, .inl 0, .inl 0, .inl 0] kbn_499 11 = true := by decide +kernel
theorem kbh_499 : ai_holds kb_499 := ai_thm kbk_499 ai_nil
def hkb03_487 : ai_V := .inr (some (.ref 55))
def hkb03_488 : ai_C := .inr (.inr (4, [hkb03_484, hkb03_475, hkb03_477]))
def hkb03_489 : Bool × Option ai_C := (false, some hkb03_488)
def hkb03_490 : ai_W := [hkb03_17, hkb03_17, hkb03_17, hkb03_17, hkb03_17, hkb03_17, hkb03_17, hkb03_17, hkb03_17, hkb03_17, hkb03_17, hkb03_17, hkb03_17, hkb03_17, hkb03_17, hkb03_17, hkb03_17, hkb03_17, hkb03_17, hkb03_17, hkb03_17, hkb03_17, hkb03_17, hkb03_17, hkb03_17, hkb03_17, hkb03_17, hkb03_17, hkb03_17, hkb03_17, hkb03_17, hkb03_17, hkb03_17, hkb03_17, hkb03_17, hkb03_17, hkb03_17, hkb03_17, hkb03_17, hkb03_17, hkb03_17, hkb03_17, hkb03_17, hkb03_17, hkb03_17, hkb03_17, hkb03_17, hkb03_17, hkb03_17, hkb03_17, hkb03_17, hkb03_17, hkb03_17, hkb03_17, hkb03_17, hkb03_489, hkb03_462, hkb03_17, hkb03_17, hkb03_17, hkb03_17, hkb03_17, hkb03_17, hkb03_17, hkb03_17, hkb03_17, hkb03_17, hkb03_17, hkb03_17, hkb03_17, hkb03_17, hkb03_17, hkb03_17, hkb03_17, hkb03_17, hkb03_17]
def hkb03_491 : ai_C := .inr (.inr (4, [hkb03_484, hkb03_13, hkb03_482]))
/-- NeverAgain$Sheet.makeNew -/
def kb_500 : ai_K := (146, 1, (hkb03_472, [hkb03_487, hkb03_13, hkb03_208], [], hkb03_490), [.inl 1, .inl 2, .inr (55, 1), .inr (55, 2)], [(none, hkb03_472, [(55, hkb03_491), (56, hkb03_461)])])
def kbn_500 : List ai_Nd := []
set_option maxRecDepth 1000000 in
theorem kbk_500 : ai_ck [kb_499] [] kb_500 [.inl 100000] kbn_500 16 = true := by decide +kernel
theorem kbh_500 : ai_holds kb_500 := ai_thm kbk_500 (ai_cons kbh_499 ai_nil)
def hkb03_492 : ai_V := .inr (some (.ref 54))
def hkb03_493 : ai_W := [hkb03_17, hkb03_17, hkb03_17, hkb03_17, hkb03_17, hkb03_17, hkb03_17, hkb03_17, hkb03_17, hkb03_17, hkb03_17, hkb03_17, hkb03_17, hkb03_17, hkb03_17, hkb03_17, hkb03_17, hkb03_17, hkb03_17, hkb03_17, hkb03_17, hkb03_17, hkb03_17, hkb03_17, hkb03_17, hkb03_17, hkb03_17, hkb03_17, hkb03_17, hkb03_17, hkb03_17, hkb03_17, hkb03_17, hkb03_17, hkb03_17, hkb03_17, hkb03_17, hkb03_17, hkb03_17, hkb03_17, hkb03_17, hkb03_17, hkb03_17, hkb03_17, hkb03_17, hkb03_17, hkb03_17, hkb03_17, hkb03_17, hkb03_17, hkb03_17, hkb03_17, hkb03_17, hkb03_17, hkb03_462, hkb03_17, hkb03_17, hkb03_17, hkb03_17, hkb03_17, hkb03_17, hkb03_17, hkb03_17, hkb03_17, hkb03_17, hkb03_17, hkb03_17, hkb03_17, hkb03_17, hkb03_17, hkb03_17, hkb03_17, hkb03_17, hkb03_17, hkb03_17, hkb03_17]
/-- java/util/Arrays.fill -/
def kb_501 : ai_K := (162, 0, ([], [hkb03_492, hkb03_15, hkb03_16, hkb03_16], [], hkb03_493), [], [(none, [], [(54, hkb03_461)])])
def hkb03_494 : ai_W := [hkb03_17, hkb03_17, hkb03_17, hkb03_17, hkb03_17, hkb03_17, hkb03_17, hkb03_17, hkb03_17, hkb03_17, hkb03_17, hkb03_17, hkb03_17, hkb03_17, hkb03_17, hkb03_17, hkb03_17, hkb03_17, hkb03_17, hkb03_17, hkb03_17, hkb03_17, hkb03_17, hkb03_17, hkb03_17, hkb03_17, hkb03_17, hkb03_17, hkb03_17, hkb03_17, hkb03_17, hkb03_17, hkb03_17, hkb03_17, hkb03_17, hkb03_17, hkb03_17, hkb03_17, hkb03_17, hkb03_17, hkb03_17, hkb03_17, hkb03_17, hkb03_17, hkb03_17, hkb03_17, hkb03_17, hkb03_17, hkb03_17, hkb03_17, hkb03_17, hkb03_17, hkb03_17, hkb03_17, hkb03_469, hkb03_17, hkb03_17, hkb03_17, hkb03_17, hkb03_17, hkb03_17, hkb03_17, hkb03_17, hkb03_17, hkb03_17, hkb03_17, hkb03_17, hkb03_17, hkb03_17, hkb03_17, hkb03_17, hkb03_17, hkb03_17, hkb03_17, hkb03_17, hkb03_17]
def kbn_501 : List ai_Nd := [(5, ([hkb03_464], [hkb03_492, hkb03_15, hkb03_466, hkb03_468], [], hkb03_494), [.inl 2], [.inl 99994, .inl 1, .inr (true, .ofNat 40, 0), .inl 100000])]
set_option maxRecDepth 1000000 in
theorem kbk_501 : ai_ck [] [] kb_501 [.inl 100000, .inl 0, .inl 0, .inl 0] kbn_501 11 = true := by decide +kernel
theorem kbh_501 : ai_holds kb_501 := ai_thm kbk_501 ai_nil
def hkb03_495 : ai_V := .inr (some (.ref 53))
def hkb03_496 : ai_C := .inr (.inr (4, [hkb03_492, hkb03_475, hkb03_477]))
def hkb03_497 : Bool × Option ai_C := (false, some hkb03_496)
def hkb03_498 : ai_W := [hkb03_17, hkb03_17, hkb03_17, hkb03_17, hkb03_17, hkb03_17, hkb03_17, hkb03_17, hkb03_17, hkb03_17, hkb03_17, hkb03_17, hkb03_17, hkb03_17, hkb03_17, hkb03_17, hkb03_17, hkb03_17, hkb03_17, hkb03_17, hkb03_17, hkb03_17, hkb03_17, hkb03_17, hkb03_17, hkb03_17, hkb03_17, hkb03_17, hkb03_17, hkb03_17, hkb03_17, hkb03_17, hkb03_17, hkb03_17, hkb03_17, hkb03_17, hkb03_17, hkb03_17, hkb03_17, hkb03_17, hkb03_17, hkb03_17, hkb03_17, hkb03_17, hkb03_17, hkb03_17, hkb03_17, hkb03_17, hkb03_17, hkb03_17, hkb03_17, hkb03_17, hkb03_17, hkb03_497, hkb03_462, hkb03_17, hkb03_17, hkb03_17, hkb03_17, hkb03_17, hkb03_17, hkb03_17, hkb03_17, hkb03_17, hkb03_17, hkb03_17, hkb03_17, hkb03_17, hkb03_17, hkb03_17, hkb03_17, hkb03_17, hkb03_17, hkb03_17, hkb03_17, hkb03_17]
def hkb03_499 : ai_C := .inr (.inr (4, [hkb03_492, hkb03_13, hkb03_482]))
/-- NeverAgain$Sheet.makeNew -/
def kb_502 : ai_K := (146, 1, (hkb03_472, [hkb03_495, hkb03_13, hkb03_208], [], hkb03_498), [.inl 1, .inl 2, .inr (53, 1), .inr (53, 2)], [(none, hkb03_472, [(53, hkb03_499), (54, hkb03_461)])])
def kbn_502 : List ai_Nd := []
set_option maxRecDepth 1000000 in
theorem kbk_502 : ai_ck [kb_501] [] kb_502 [.inl 100000] kbn_502 16 = true := by decide +kernel
theorem kbh_502 : ai_holds kb_502 := ai_thm kbk_502 (ai_cons kbh_501 ai_nil)
def hkb03_500 : ai_V := .inr (some (.ref 52))
def hkb03_501 : ai_W := [hkb03_17, hkb03_17, hkb03_17, hkb03_17, hkb03_17, hkb03_17, hkb03_17, hkb03_17, hkb03_17, hkb03_17, hkb03_17, hkb03_17, hkb03_17, hkb03_17, hkb03_17, hkb03_17, hkb03_17, hkb03_17, hkb03_17, hkb03_17, hkb03_17, hkb03_17, hkb03_17, hkb03_17, hkb03_17, hkb03_17, hkb03_17, hkb03_17, hkb03_17, hkb03_17, hkb03_17, hkb03_17, hkb03_17, hkb03_17, hkb03_17, hkb03_17, hkb03_17, hkb03_17, hkb03_17, hkb03_17, hkb03_17, hkb03_17, hkb03_17, hkb03_17, hkb03_17, hkb03_17, hkb03_17, hkb03_17, hkb03_17, hkb03_17, hkb03_17, hkb03_17, hkb03_462, hkb03_17, hkb03_17, hkb03_17, hkb03_17, hkb03_17, hkb03_17, hkb03_17, hkb03_17, hkb03_17, hkb03_17, hkb03_17, hkb03_17, hkb03_17, hkb03_17, hkb03_17, hkb03_17, hkb03_17, hkb03_17, hkb03_17, hkb03_17, hkb03_17, hkb03_17, hkb03_17]
/-- java/util/Arrays.fill -/
def kb_503 : ai_K := (162, 0, ([], [hkb03_500, hkb03_15, hkb03_16, hkb03_16], [], hkb03_501), [], [(none, [], [(52, hkb03_461)])])
def hkb03_502 : ai_W := [hkb03_17, hkb03_17, hkb03_17, hkb03_17, hkb03_17, hkb03_17, hkb03_17, hkb03_17, hkb03_17, hkb03_17, hkb03_17, hkb03_17, hkb03_17, hkb03_17, hkb03_17, hkb03_17, hkb03_17, hkb03_17, hkb03_17, hkb03_17, hkb03_17, hkb03_17, hkb03_17, hkb03_17, hkb03_17, hkb03_17, hkb03_17, hkb03_17, hkb03_17, hkb03_17, hkb03_17, hkb03_17, hkb03_17, hkb03_17, hkb03_17, hkb03_17, hkb03_17, hkb03_17, hkb03_17, hkb03_17, hkb03_17, hkb03_17, hkb03_17, hkb03_17, hkb03_17, hkb03_17, hkb03_17, hkb03_17, hkb03_17, hkb03_17, hkb03_17, hkb03_17, hkb03_469, hkb03_17, hkb03_17, hkb03_17, hkb03_17, hkb03_17, hkb03_17, hkb03_17, hkb03_17, hkb03_17, hkb03_17, hkb03_17, hkb03_17, hkb03_17, hkb03_17, hkb03_17, hkb03_17, hkb03_17, hkb03_17, hkb03_17, hkb03_17, hkb03_17, hkb03_17, hkb03_17]
def kbn_503 : List ai_Nd := [(5, ([hkb03_464], [hkb03_500, hkb03_15, hkb03_466, hkb03_468], [], hkb03_502), [.inl 2], [.inl 99994, .inl 1, .inr (true, .ofNat 40, 0), .inl 100000])]
set_option maxRecDepth 1000000 in
theorem kbk_503 : ai_ck [] [] kb_503 [.inl 100000, .inl 0, .inl 0, .inl 0] kbn_503 11 = true := by decide +kernel
theorem kbh_503 : ai_holds kb_503 := ai_thm kbk_503 ai_nil
def hkb03_503 : ai_V := .inr (some (.ref 51))
def hkb03_504 : ai_C := .inr (.inr (4, [hkb03_500, hkb03_475, hkb03_477]))
def hkb03_505 : Bool × Option ai_C := (false, some hkb03_504)
def hkb03_506 : ai_W := [hkb03_17, hkb03_17, hkb03_17, hkb03_17, hkb03_17, hkb03_17, hkb03_17, hkb03_17, hkb03_17, hkb03_17, hkb03_17, hkb03_17, hkb03_17, hkb03_17, hkb03_17, hkb03_17, hkb03_17, hkb03_17, hkb03_17, hkb03_17, hkb03_17, hkb03_17, hkb03_17, hkb03_17, hkb03_17, hkb03_17, hkb03_17, hkb03_17, hkb03_17, hkb03_17, hkb03_17, hkb03_17, hkb03_17, hkb03_17, hkb03_17, hkb03_17, hkb03_17, hkb03_17, hkb03_17, hkb03_17, hkb03_17, hkb03_17, hkb03_17, hkb03_17, hkb03_17, hkb03_17, hkb03_17, hkb03_17, hkb03_17, hkb03_17, hkb03_17, hkb03_505, hkb03_462, hkb03_17, hkb03_17, hkb03_17, hkb03_17, hkb03_17, hkb03_17, hkb03_17, hkb03_17, hkb03_17, hkb03_17, hkb03_17, hkb03_17, hkb03_17, hkb03_17, hkb03_17, hkb03_17, hkb03_17, hkb03_17, hkb03_17, hkb03_17, hkb03_17, hkb03_17, hkb03_17]
def hkb03_507 : ai_C := .inr (.inr (4, [hkb03_500, hkb03_13, hkb03_482]))
/-- NeverAgain$Sheet.makeNew -/
def kb_504 : ai_K := (146, 1, (hkb03_472, [hkb03_503, hkb03_13, hkb03_208], [], hkb03_506), [.inl 1, .inl 2, .inr (51, 1), .inr (51, 2)], [(none, hkb03_472, [(51, hkb03_507), (52, hkb03_461)])])
def kbn_504 : List ai_Nd := []
set_option maxRecDepth 1000000 in
theorem kbk_504 : ai_ck [kb_503] [] kb_504 [.inl 100000] kbn_504 16 = true := by decide +kernel
theorem kbh_504 : ai_holds kb_504 := ai_thm kbk_504 (ai_cons kbh_503 ai_nil)
def hkb03_508 : ai_E := [hkb03_0, hkb03_0, hkb03_0, hkb03_216, hkb03_217, hkb03_5, hkb03_471, hkb03_464, hkb03_471, hkb03_464, hkb03_471, hkb03_464, hkb03_471, hkb03_464]
def hkb03_509 : ai_C := .inr (.inl (4, [some 51, some 53, some 55, some 57]))
def hkb03_510 : Bool × Option ai_C := (false, some hkb03_509)
def hkb03_511 : ai_N := (.negSucc 0, .ofNat 2, [(6, .ofNat 0, .ofNat 0)])
def hkb03_512 : ai_V := .inl (false, hkb03_511)
def hkb03_513 : ai_N := (.ofNat 0, .ofNat 40, [(7, .ofNat 0, .ofNat 0)])
def hkb03_514 : ai_V := .inl (false, hkb03_513)
def hkb03_515 : ai_C := .inr (.inr (4, [hkb03_500, hkb03_512, hkb03_514]))
def hkb03_516 : Bool × Option ai_C := (false, some hkb03_515)
def hkb03_517 : ai_N := (.negSucc 0, .ofNat 2, [(8, .ofNat 0, .ofNat 0)])
def hkb03_518 : ai_V := .inl (false, hkb03_517)
def hkb03_519 : ai_N := (.ofNat 0, .ofNat 40, [(9, .ofNat 0, .ofNat 0)])
def hkb03_520 : ai_V := .inl (false, hkb03_519)
def hkb03_521 : ai_C := .inr (.inr (4, [hkb03_492, hkb03_518, hkb03_520]))
def hkb03_522 : Bool × Option ai_C := (false, some hkb03_521)
def hkb03_523 : ai_N := (.negSucc 0, .ofNat 2, [(10, .ofNat 0, .ofNat 0)])
def hkb03_524 : ai_V := .inl (false, hkb03_523)
def hkb03_525 : ai_N := (.ofNat 0, .ofNat 40, [(11, .ofNat 0, .ofNat 0)])
def hkb03_526 : ai_V := .inl (false, hkb03_525)
def hkb03_527 : ai_C := .inr (.inr (4, [hkb03_484, hkb03_524, hkb03_526]))
def hkb03_528 : Bool × Option ai_C := (false, some hkb03_527)
def hkb03_529 : ai_N := (.negSucc 0, .ofNat 2, [(12, .ofNat 0, .ofNat 0)])
def hkb03_530 : ai_V := .inl (false, hkb03_529)
def hkb03_531 : ai_N := (.ofNat 0, .ofNat 40, [(13, .ofNat 0, .ofNat 0)])
def hkb03_532 : ai_V := .inl (false, hkb03_531)
def hkb03_533 : ai_C := .inr (.inr (4, [hkb03_460, hkb03_530, hkb03_532]))
def hkb03_534 : Bool × Option ai_C := (false, some hkb03_533)
def hkb03_535 : ai_W := [hkb03_341, hkb03_17, hkb03_17, hkb03_17, hkb03_17, hkb03_17, hkb03_17, hkb03_17, hkb03_17, hkb03_17, hkb03_17, hkb03_17, hkb03_17, hkb03_17, hkb03_17, hkb03_17, hkb03_17, hkb03_17, hkb03_17, hkb03_17, hkb03_17, hkb03_17, hkb03_17, hkb03_17, hkb03_17, hkb03_17, hkb03_17, hkb03_17, hkb03_17, hkb03_17, hkb03_17, hkb03_17, hkb03_17, hkb03_17, hkb03_17, hkb03_17, hkb03_17, hkb03_17, hkb03_17, hkb03_17, hkb03_17, hkb03_17, hkb03_17, hkb03_17, hkb03_17, hkb03_17, hkb03_17, hkb03_17, hkb03_17, hkb03_17, hkb03_510, hkb03_516, hkb03_462, hkb03_522, hkb03_462, hkb03_528, hkb03_462, hkb03_534, hkb03_462, hkb03_17, hkb03_17, hkb03_17, hkb03_17, hkb03_17, hkb03_17, hkb03_17, hkb03_17, hkb03_17, hkb03_17, hkb03_17, hkb03_17, hkb03_17, hkb03_17, hkb03_17, hkb03_17, hkb03_17]
def hkb03_536 : Int × Int := (.ofNat 4, .ofNat 2147483647)
def hkb03_537 : ai_E := [hkb03_536, hkb03_0, hkb03_0, hkb03_216, hkb03_217, hkb03_5, hkb03_471, hkb03_464, hkb03_471, hkb03_464, hkb03_471, hkb03_464, hkb03_471, hkb03_464]
def hkb03_538 : Int × Int := (.ofNat 3, .ofNat 3)
def hkb03_539 : Int × Int := (.ofNat 41, .ofNat 2147483647)
def hkb03_540 : ai_E := [hkb03_538, hkb03_369, hkb03_539, hkb03_216, hkb03_217, hkb03_5, hkb03_471, hkb03_464, hkb03_471, hkb03_464, hkb03_471, hkb03_464, hkb03_471, hkb03_464]
def hkb03_541 : ai_N := (.negSucc 13, .negSucc 13, [])
def hkb03_542 : ai_V := .inl (false, hkb03_541)
def hkb03_543 : ai_E := [hkb03_538, hkb03_369, hkb03_195, hkb03_216, hkb03_217, hkb03_5, hkb03_471, hkb03_464, hkb03_471, hkb03_464, hkb03_471, hkb03_464, hkb03_471, hkb03_464]
def hkb03_544 : ai_E := [hkb03_538, hkb03_369, hkb03_464, hkb03_216, hkb03_217, hkb03_5, hkb03_471, hkb03_464, hkb03_471, hkb03_464, hkb03_471, hkb03_464, hkb03_471, hkb03_464]
def hkb03_545 : ai_N := (.ofNat 0, .ofNat 2, [(1, .ofNat 0, .ofNat 0)])
def hkb03_546 : ai_V := .inl (false, hkb03_545)
def hkb03_547 : ai_C := .inr (.inr (4, [hkb03_460, hkb03_546, hkb03_482]))
def hkb03_548 : Int × Int := (.ofNat 3, .ofNat 2147483647)
def hkb03_549 : ai_E := [hkb03_538, hkb03_548, hkb03_0, hkb03_216, hkb03_217, hkb03_5, hkb03_471, hkb03_464, hkb03_471, hkb03_464, hkb03_471, hkb03_464, hkb03_471, hkb03_464]
def hkb03_550 : ai_E := [hkb03_538, hkb03_195, hkb03_0, hkb03_216, hkb03_217, hkb03_5, hkb03_471, hkb03_464, hkb03_471, hkb03_464, hkb03_471, hkb03_464, hkb03_471, hkb03_464]
def hkb03_551 : Int × Int := (.ofNat 2, .ofNat 2)
def hkb03_552 : ai_E := [hkb03_551, hkb03_369, hkb03_539, hkb03_216, hkb03_217, hkb03_5, hkb03_471, hkb03_464, hkb03_471, hkb03_464, hkb03_471, hkb03_464, hkb03_471, hkb03_464]
def hkb03_553 : ai_E := [hkb03_551, hkb03_369, hkb03_195, hkb03_216, hkb03_217, hkb03_5, hkb03_471, hkb03_464, hkb03_471, hkb03_464, hkb03_471, hkb03_464, hkb03_471, hkb03_464]
def hkb03_554 : ai_E := [hkb03_551, hkb03_369, hkb03_464, hkb03_216, hkb03_217, hkb03_5, hkb03_471, hkb03_464, hkb03_471, hkb03_464, hkb03_471, hkb03_464, hkb03_471, hkb03_464]
def hkb03_555 : ai_C := .inr (.inr (4, [hkb03_484, hkb03_546, hkb03_482]))
def hkb03_556 : ai_E := [hkb03_551, hkb03_548, hkb03_0, hkb03_216, hkb03_217, hkb03_5, hkb03_471, hkb03_464, hkb03_471, hkb03_464, hkb03_471, hkb03_464, hkb03_471, hkb03_464]
def hkb03_557 : ai_E := [hkb03_551, hkb03_195, hkb03_0, hkb03_216, hkb03_217, hkb03_5, hkb03_471, hkb03_464, hkb03_471, hkb03_464, hkb03_471, hkb03_464, hkb03_471, hkb03_464]
def hkb03_558 : ai_E := [hkb03_449, hkb03_369, hkb03_539, hkb03_216, hkb03_217, hkb03_5, hkb03_471, hkb03_464, hkb03_471, hkb03_464, hkb03_471, hkb03_464, hkb03_471, hkb03_464]
def hkb03_559 : ai_E := [hkb03_449, hkb03_369, hkb03_195, hkb03_216, hkb03_217, hkb03_5, hkb03_471, hkb03_464, hkb03_471, hkb03_464, hkb03_471, hkb03_464, hkb03_471, hkb03_464]
def hkb03_560 : ai_E := [hkb03_449, hkb03_369, hkb03_464, hkb03_216, hkb03_217, hkb03_5, hkb03_471, hkb03_464, hkb03_471, hkb03_464, hkb03_471, hkb03_464, hkb03_471, hkb03_464]
def hkb03_561 : ai_C := .inr (.inr (4, [hkb03_492, hkb03_546, hkb03_482]))
def hkb03_562 : ai_E := [hkb03_449, hkb03_548, hkb03_0, hkb03_216, hkb03_217, hkb03_5, hkb03_471, hkb03_464, hkb03_471, hkb03_464, hkb03_471, hkb03_464, hkb03_471, hkb03_464]
def hkb03_563 : ai_E := [hkb03_449, hkb03_195, hkb03_0, hkb03_216, hkb03_217, hkb03_5, hkb03_471, hkb03_464, hkb03_471, hkb03_464, hkb03_471, hkb03_464, hkb03_471, hkb03_464]
def hkb03_564 : ai_E := [hkb03_80, hkb03_369, hkb03_539, hkb03_216, hkb03_217, hkb03_5, hkb03_471, hkb03_464, hkb03_471, hkb03_464, hkb03_471, hkb03_464, hkb03_471, hkb03_464]
def hkb03_565 : ai_E := [hkb03_80, hkb03_369, hkb03_195, hkb03_216, hkb03_217, hkb03_5, hkb03_471, hkb03_464, hkb03_471, hkb03_464, hkb03_471, hkb03_464, hkb03_471, hkb03_464]
def hkb03_566 : ai_E := [hkb03_80, hkb03_369, hkb03_464, hkb03_216, hkb03_217, hkb03_5, hkb03_471, hkb03_464, hkb03_471, hkb03_464, hkb03_471, hkb03_464, hkb03_471, hkb03_464]
def hkb03_567 : ai_C := .inr (.inr (4, [hkb03_500, hkb03_546, hkb03_482]))
def hkb03_568 : ai_E := [hkb03_80, hkb03_548, hkb03_0, hkb03_216, hkb03_217, hkb03_5, hkb03_471, hkb03_464, hkb03_471, hkb03_464, hkb03_471, hkb03_464, hkb03_471, hkb03_464]
def hkb03_569 : ai_E := [hkb03_80, hkb03_195, hkb03_0, hkb03_216, hkb03_217, hkb03_5, hkb03_471, hkb03_464, hkb03_471, hkb03_464, hkb03_471, hkb03_464, hkb03_471, hkb03_464]
def hkb03_570 : ai_E := [hkb03_195, hkb03_0, hkb03_0, hkb03_216, hkb03_217, hkb03_5, hkb03_471, hkb03_464, hkb03_471, hkb03_464, hkb03_471, hkb03_464, hkb03_471, hkb03_464]
/-- NeverAgain.sheet -/
def kb_505 : ai_K := (73, 2, (hkb03_508, [hkb03_219, hkb03_13, hkb03_208, hkb03_154], [], hkb03_535), [.inl 1, .inl 2, .inl 3, .inr (0, 11), .inr (0, 12), .inr (0, 13), .inr (51, 1), .inr (51, 2), .inr (53, 1), .inr (53, 2), .inr (55, 1), .inr (55, 2), .inr (57, 1), .inr (57, 2)], [(some hkb03_280, hkb03_537, []), (some hkb03_280, hkb03_540, []), (some hkb03_542, hkb03_543, []), (some hkb03_147, hkb03_544, [(57, hkb03_547), (58, hkb03_461)]), (some hkb03_280, hkb03_549, []), (some hkb03_280, hkb03_550, []), (some hkb03_280, hkb03_552, []), (some hkb03_542, hkb03_553, []), (some hkb03_147, hkb03_554, [(55, hkb03_555), (56, hkb03_461)]), (some hkb03_280, hkb03_556, []), (some hkb03_280, hkb03_557, []), (some hkb03_280, hkb03_558, []), (some hkb03_542, hkb03_559, []), (some hkb03_147, hkb03_560, [(53, hkb03_561), (54, hkb03_461)]), (some hkb03_280, hkb03_562, []), (some hkb03_280, hkb03_563, []), (some hkb03_280, hkb03_564, []), (some hkb03_542, hkb03_565, []), (some hkb03_147, hkb03_566, [(51, hkb03_567), (52, hkb03_461)]), (some hkb03_280, hkb03_568, []), (some hkb03_280, hkb03_569, []), (some hkb03_280, hkb03_570, [])])
def kbn_505 : List ai_Nd := []
set_option maxRecDepth 1000000 in
theorem kbk_505 : ai_ck [kb_498, kb_500, kb_502, kb_504] [(0, .inl 1, [.ofNat 0, .ofNat 1, .ofNat 2, .ofNat 3, .ofNat 4])] kb_505 [.inl 100000] kbn_505 25 = true := by decide +kernel
theorem kbh_505 : ai_holds kb_505 := ai_thm kbk_505 (ai_cons kbh_498 (ai_cons kbh_500 (ai_cons kbh_502 (ai_cons kbh_504 ai_nil))))
def hkb03_571 : ai_E := [hkb03_0, hkb03_471, hkb03_464]
def hkb03_572 : ai_N := (.negSucc 0, .ofNat 2, [(1, .ofNat 0, .ofNat 0)])
def hkb03_573 : ai_V := .inl (false, hkb03_572)
def hkb03_574 : ai_N := (.ofNat 0, .ofNat 40, [(2, .ofNat 0, .ofNat 0)])
def hkb03_575 : ai_V := .inl (false, hkb03_574)
def hkb03_576 : ai_C := .inr (.inr (4, [hkb03_460, hkb03_573, hkb03_575]))
def hkb03_577 : Bool × Option ai_C := (false, some hkb03_576)
def hkb03_578 : ai_W := [hkb03_17, hkb03_17, hkb03_17, hkb03_17, hkb03_17, hkb03_17, hkb03_17, hkb03_17, hkb03_17, hkb03_17, hkb03_17, hkb03_17, hkb03_17, hkb03_17, hkb03_17, hkb03_17, hkb03_17, hkb03_17, hkb03_17, hkb03_17, hkb03_17, hkb03_17, hkb03_17, hkb03_17, hkb03_17, hkb03_17, hkb03_17, hkb03_17, hkb03_17, hkb03_17, hkb03_17, hkb03_17, hkb03_17, hkb03_17, hkb03_17, hkb03_17, hkb03_17, hkb03_17, hkb03_17, hkb03_17, hkb03_17, hkb03_17, hkb03_17, hkb03_17, hkb03_17, hkb03_17, hkb03_17, hkb03_17, hkb03_17, hkb03_17, hkb03_17, hkb03_17, hkb03_17, hkb03_17, hkb03_17, hkb03_17, hkb03_17, hkb03_577, hkb03_17, hkb03_17, hkb03_17, hkb03_17, hkb03_17, hkb03_17, hkb03_17, hkb03_17, hkb03_17, hkb03_17, hkb03_17, hkb03_17, hkb03_17, hkb03_17, hkb03_17, hkb03_17, hkb03_17, hkb03_17]
def hkb03_579 : Int × Int := (.negSucc 0, .negSucc 0)
def hkb03_580 : ai_E := [hkb03_0, hkb03_579, hkb03_464]
def hkb03_581 : ai_E := [hkb03_193, hkb03_369, hkb03_464]
def hkb03_582 : Int × Int := (.ofNat 0, .ofNat 39)
def hkb03_583 : Int × Int := (.ofNat 1, .ofNat 40)
def hkb03_584 : ai_E := [hkb03_582, hkb03_369, hkb03_583]
def hkb03_585 : ai_E := [hkb03_195, hkb03_369, hkb03_464]
/-- NeverAgain$Sheet.faultAt -/
def kb_506 : ai_K := (148, 0, (hkb03_571, [hkb03_473, hkb03_13], [], hkb03_578), [.inl 1, .inr (57, 1), .inr (57, 2)], [(some hkb03_147, hkb03_580, []), (some hkb03_107, hkb03_581, []), (some hkb03_15, hkb03_584, []), (some hkb03_107, hkb03_585, [])])
def kbn_506 : List ai_Nd := []
set_option maxRecDepth 1000000 in
theorem kbk_506 : ai_ck [] [] kb_506 [.inl 100000] kbn_506 14 = true := by decide +kernel
theorem kbh_506 : ai_holds kb_506 := ai_thm kbk_506 ai_nil
def hkb03_586 : ai_E := [hkb03_582, hkb03_0, hkb03_80, hkb03_583]
def hkb03_587 : ai_E := [hkb03_582, hkb03_0, hkb03_449, hkb03_583]
def hkb03_588 : ai_E := [hkb03_582, hkb03_0, hkb03_471, hkb03_583]
def hkb03_589 : ai_E := [hkb03_193, hkb03_0, hkb03_471, hkb03_464]
def hkb03_590 : ai_E := [hkb03_195, hkb03_0, hkb03_471, hkb03_464]
/-- NeverAgain$Sheet.put -/
def kb_507 : ai_K := (149, 0, (hkb03_472, [hkb03_473, hkb03_13, hkb03_208], [], hkb03_480), [.inl 1, .inl 2, .inr (57, 1), .inr (57, 2)], [(none, hkb03_586, [(58, hkb03_461)]), (none, hkb03_587, [(58, hkb03_461)]), (none, hkb03_588, [(58, hkb03_461)]), (none, hkb03_589, []), (none, hkb03_590, [])])
def kbn_507 : List ai_Nd := []
set_option maxRecDepth 1000000 in
theorem kbk_507 : ai_ck [] [] kb_507 [.inl 100000] kbn_507 25 = true := by decide +kernel
theorem kbh_507 : ai_holds kb_507 := ai_thm kbk_507 ai_nil
def hkb03_591 : ai_C := .inr (.inr (4, [hkb03_484, hkb03_573, hkb03_575]))
def hkb03_592 : Bool × Option ai_C := (false, some hkb03_591)
def hkb03_593 : ai_W := [hkb03_17, hkb03_17, hkb03_17, hkb03_17, hkb03_17, hkb03_17, hkb03_17, hkb03_17, hkb03_17, hkb03_17, hkb03_17, hkb03_17, hkb03_17, hkb03_17, hkb03_17, hkb03_17, hkb03_17, hkb03_17, hkb03_17, hkb03_17, hkb03_17, hkb03_17, hkb03_17, hkb03_17, hkb03_17, hkb03_17, hkb03_17, hkb03_17, hkb03_17, hkb03_17, hkb03_17, hkb03_17, hkb03_17, hkb03_17, hkb03_17, hkb03_17, hkb03_17, hkb03_17, hkb03_17, hkb03_17, hkb03_17, hkb03_17, hkb03_17, hkb03_17, hkb03_17, hkb03_17, hkb03_17, hkb03_17, hkb03_17, hkb03_17, hkb03_17, hkb03_17, hkb03_17, hkb03_17, hkb03_17, hkb03_592, hkb03_17, hkb03_17, hkb03_17, hkb03_17, hkb03_17, hkb03_17, hkb03_17, hkb03_17, hkb03_17, hkb03_17, hkb03_17, hkb03_17, hkb03_17, hkb03_17, hkb03_17, hkb03_17, hkb03_17, hkb03_17, hkb03_17, hkb03_17]
/-- NeverAgain$Sheet.faultAt -/
def kb_508 : ai_K := (148, 0, (hkb03_571, [hkb03_487, hkb03_13], [], hkb03_593), [.inl 1, .inr (55, 1), .inr (55, 2)], [(some hkb03_147, hkb03_580, []), (some hkb03_107, hkb03_581, []), (some hkb03_15, hkb03_584, []), (some hkb03_107, hkb03_585, [])])
def kbn_508 : List ai_Nd := []
set_option maxRecDepth 1000000 in
theorem kbk_508 : ai_ck [] [] kb_508 [.inl 100000] kbn_508 14 = true := by decide +kernel
theorem kbh_508 : ai_holds kb_508 := ai_thm kbk_508 ai_nil
/-- NeverAgain$Sheet.put -/
def kb_509 : ai_K := (149, 0, (hkb03_472, [hkb03_487, hkb03_13, hkb03_208], [], hkb03_490), [.inl 1, .inl 2, .inr (55, 1), .inr (55, 2)], [(none, hkb03_586, [(56, hkb03_461)]), (none, hkb03_587, [(56, hkb03_461)]), (none, hkb03_588, [(56, hkb03_461)]), (none, hkb03_589, []), (none, hkb03_590, [])])
def kbn_509 : List ai_Nd := []
set_option maxRecDepth 1000000 in
theorem kbk_509 : ai_ck [] [] kb_509 [.inl 100000] kbn_509 25 = true := by decide +kernel
theorem kbh_509 : ai_holds kb_509 := ai_thm kbk_509 ai_nil
def hkb03_594 : ai_C := .inr (.inr (4, [hkb03_492, hkb03_573, hkb03_575]))
def hkb03_595 : Bool × Option ai_C := (false, some hkb03_594)
def hkb03_596 : ai_W := [hkb03_17, hkb03_17, hkb03_17, hkb03_17, hkb03_17, hkb03_17, hkb03_17, hkb03_17, hkb03_17, hkb03_17, hkb03_17, hkb03_17, hkb03_17, hkb03_17, hkb03_17, hkb03_17, hkb03_17, hkb03_17, hkb03_17, hkb03_17, hkb03_17, hkb03_17, hkb03_17, hkb03_17, hkb03_17, hkb03_17, hkb03_17, hkb03_17, hkb03_17, hkb03_17, hkb03_17, hkb03_17, hkb03_17, hkb03_17, hkb03_17, hkb03_17, hkb03_17, hkb03_17, hkb03_17, hkb03_17, hkb03_17, hkb03_17, hkb03_17, hkb03_17, hkb03_17, hkb03_17, hkb03_17, hkb03_17, hkb03_17, hkb03_17, hkb03_17, hkb03_17, hkb03_17, hkb03_595, hkb03_17, hkb03_17, hkb03_17, hkb03_17, hkb03_17, hkb03_17, hkb03_17, hkb03_17, hkb03_17, hkb03_17, hkb03_17, hkb03_17, hkb03_17, hkb03_17, hkb03_17, hkb03_17, hkb03_17, hkb03_17, hkb03_17, hkb03_17, hkb03_17, hkb03_17]
/-- NeverAgain$Sheet.faultAt -/
def kb_510 : ai_K := (148, 0, (hkb03_571, [hkb03_495, hkb03_13], [], hkb03_596), [.inl 1, .inr (53, 1), .inr (53, 2)], [(some hkb03_147, hkb03_580, []), (some hkb03_107, hkb03_581, []), (some hkb03_15, hkb03_584, []), (some hkb03_107, hkb03_585, [])])
def kbn_510 : List ai_Nd := []
set_option maxRecDepth 1000000 in
theorem kbk_510 : ai_ck [] [] kb_510 [.inl 100000] kbn_510 14 = true := by decide +kernel
theorem kbh_510 : ai_holds kb_510 := ai_thm kbk_510 ai_nil
/-- NeverAgain$Sheet.put -/
def kb_511 : ai_K := (149, 0, (hkb03_472, [hkb03_495, hkb03_13, hkb03_208], [], hkb03_498), [.inl 1, .inl 2, .inr (53, 1), .inr (53, 2)], [(none, hkb03_586, [(54, hkb03_461)]), (none, hkb03_587, [(54, hkb03_461)]), (none, hkb03_588, [(54, hkb03_461)]), (none, hkb03_589, []), (none, hkb03_590, [])])
def kbn_511 : List ai_Nd := []
set_option maxRecDepth 1000000 in
theorem kbk_511 : ai_ck [] [] kb_511 [.inl 100000] kbn_511 25 = true := by decide +kernel
theorem kbh_511 : ai_holds kb_511 := ai_thm kbk_511 ai_nil
def hkb03_597 : ai_C := .inr (.inr (4, [hkb03_500, hkb03_573, hkb03_575]))
def hkb03_598 : Bool × Option ai_C := (false, some hkb03_597)
def hkb03_599 : ai_W := [hkb03_17, hkb03_17, hkb03_17, hkb03_17, hkb03_17, hkb03_17, hkb03_17, hkb03_17, hkb03_17, hkb03_17, hkb03_17, hkb03_17, hkb03_17, hkb03_17, hkb03_17, hkb03_17, hkb03_17, hkb03_17, hkb03_17, hkb03_17, hkb03_17, hkb03_17, hkb03_17, hkb03_17, hkb03_17, hkb03_17, hkb03_17, hkb03_17, hkb03_17, hkb03_17, hkb03_17, hkb03_17, hkb03_17, hkb03_17, hkb03_17, hkb03_17, hkb03_17, hkb03_17, hkb03_17, hkb03_17, hkb03_17, hkb03_17, hkb03_17, hkb03_17, hkb03_17, hkb03_17, hkb03_17, hkb03_17, hkb03_17, hkb03_17, hkb03_17, hkb03_598, hkb03_17, hkb03_17, hkb03_17, hkb03_17, hkb03_17, hkb03_17, hkb03_17, hkb03_17, hkb03_17, hkb03_17, hkb03_17, hkb03_17, hkb03_17, hkb03_17, hkb03_17, hkb03_17, hkb03_17, hkb03_17, hkb03_17, hkb03_17, hkb03_17, hkb03_17, hkb03_17, hkb03_17]
/-- NeverAgain$Sheet.faultAt -/
def kb_512 : ai_K := (148, 0, (hkb03_571, [hkb03_503, hkb03_13], [], hkb03_599), [.inl 1, .inr (51, 1), .inr (51, 2)], [(some hkb03_147, hkb03_580, []), (some hkb03_107, hkb03_581, []), (some hkb03_15, hkb03_584, []), (some hkb03_107, hkb03_585, [])])
def kbn_512 : List ai_Nd := []
set_option maxRecDepth 1000000 in
theorem kbk_512 : ai_ck [] [] kb_512 [.inl 100000] kbn_512 14 = true := by decide +kernel
theorem kbh_512 : ai_holds kb_512 := ai_thm kbk_512 ai_nil
/-- NeverAgain$Sheet.put -/
def kb_513 : ai_K := (149, 0, (hkb03_472, [hkb03_503, hkb03_13, hkb03_208], [], hkb03_506), [.inl 1, .inl 2, .inr (51, 1), .inr (51, 2)], [(none, hkb03_586, [(52, hkb03_461)]), (none, hkb03_587, [(52, hkb03_461)]), (none, hkb03_588, [(52, hkb03_461)]), (none, hkb03_589, []), (none, hkb03_590, [])])
def kbn_513 : List ai_Nd := []
set_option maxRecDepth 1000000 in
theorem kbk_513 : ai_ck [] [] kb_513 [.inl 100000] kbn_513 25 = true := by decide +kernel
theorem kbh_513 : ai_holds kb_513 := ai_thm kbk_513 ai_nil
def hkb03_600 : ai_N := (.negSucc 11, .negSucc 11, [])
def hkb03_601 : ai_V := .inl (false, hkb03_600)
def hkb03_602 : ai_E := [hkb03_104, hkb03_0, hkb03_0, hkb03_216, hkb03_217, hkb03_5, hkb03_471, hkb03_464, hkb03_471, hkb03_464, hkb03_471, hkb03_464, hkb03_471, hkb03_464]
def hkb03_603 : ai_E := [hkb03_104, hkb03_582, hkb03_0, hkb03_216, hkb03_217, hkb03_5, hkb03_471, hkb03_464, hkb03_471, hkb03_464, hkb03_471, hkb03_464, hkb03_471, hkb03_464]
def hkb03_604 : ai_E := [hkb03_538, hkb03_582, hkb03_0, hkb03_216, hkb03_217, hkb03_5, hkb03_471, hkb03_464, hkb03_471, hkb03_464, hkb03_471, hkb03_464, hkb03_369, hkb03_583]
def hkb03_605 : ai_N := (.negSucc 10, .negSucc 10, [])
def hkb03_606 : ai_V := .inl (false, hkb03_605)
def hkb03_607 : ai_E := [hkb03_551, hkb03_582, hkb03_0, hkb03_216, hkb03_217, hkb03_5, hkb03_471, hkb03_464, hkb03_471, hkb03_464, hkb03_369, hkb03_583, hkb03_471, hkb03_464]
def hkb03_608 : ai_E := [hkb03_449, hkb03_582, hkb03_0, hkb03_216, hkb03_217, hkb03_5, hkb03_471, hkb03_464, hkb03_369, hkb03_583, hkb03_471, hkb03_464, hkb03_471, hkb03_464]
def hkb03_609 : ai_E := [hkb03_80, hkb03_582, hkb03_0, hkb03_216, hkb03_217, hkb03_5, hkb03_369, hkb03_583, hkb03_471, hkb03_464, hkb03_471, hkb03_464, hkb03_471, hkb03_464]
/-- NeverAgain.lay -/
def kb_514 : ai_K := (75, 1, (hkb03_508, [hkb03_219, hkb03_13, hkb03_208, hkb03_154, hkb03_16], [], hkb03_535), [.inl 1, .inl 2, .inl 3, .inr (0, 11), .inr (0, 12), .inr (0, 13), .inr (51, 1), .inr (51, 2), .inr (53, 1), .inr (53, 2), .inr (55, 1), .inr (55, 2), .inr (57, 1), .inr (57, 2)], [(some hkb03_280, hkb03_508, []), (some hkb03_601, hkb03_602, []), (some hkb03_147, hkb03_603, []), (some hkb03_147, hkb03_604, [(58, hkb03_461)]), (some hkb03_606, hkb03_602, []), (some hkb03_147, hkb03_607, [(56, hkb03_461)]), (some hkb03_147, hkb03_608, [(54, hkb03_461)]), (some hkb03_147, hkb03_609, [(52, hkb03_461)])])
def kbn_514 : List ai_Nd := []
set_option maxRecDepth 1000000 in
theorem kbk_514 : ai_ck [kb_506, kb_508, kb_510, kb_512, kb_507, kb_509, kb_511, kb_513] [(0, .inl 1, [.ofNat 0, .ofNat 1, .ofNat 2, .ofNat 3, .ofNat 4])] kb_514 [.inl 100000] kbn_514 24 = true := by decide +kernel
theorem kbh_514 : ai_holds kb_514 := ai_thm kbk_514 (ai_cons kbh_506 (ai_cons kbh_508 (ai_cons kbh_510 (ai_cons kbh_512 (ai_cons kbh_507 (ai_cons kbh_509 (ai_cons kbh_511 (ai_cons kbh_513 ai_nil))))))))
def hkb03_610 : ai_W := [hkb03_17, hkb03_17, hkb03_17, hkb03_17, hkb03_17, hkb03_17, hkb03_17, hkb03_17, hkb03_17, hkb03_17, hkb03_17, hkb03_17, hkb03_17, hkb03_17, hkb03_17, hkb03_17, hkb03_17, hkb03_17, hkb03_17, hkb03_17, hkb03_17, hkb03_17, hkb03_17, hkb03_17, hkb03_17, hkb03_17, hkb03_17, hkb03_17, hkb03_17, hkb03_17, hkb03_17, hkb03_17, hkb03_17, hkb03_17, hkb03_17, hkb03_17, hkb03_17, hkb03_17, hkb03_17, hkb03_17, hkb03_17, hkb03_17, hkb03_17, hkb03_17, hkb03_17, hkb03_17, hkb03_17, hkb03_17, hkb03_17, hkb03_17, hkb03_17, hkb03_17, hkb03_17, hkb03_17, hkb03_17, hkb03_17, hkb03_17, hkb03_479, hkb03_17, hkb03_17, hkb03_17, hkb03_17, hkb03_17, hkb03_17, hkb03_17, hkb03_17, hkb03_17, hkb03_17, hkb03_17, hkb03_17, hkb03_17, hkb03_17, hkb03_17, hkb03_17, hkb03_17, hkb03_17]
def hkb03_611 : ai_E := [hkb03_0, hkb03_0, hkb03_369, hkb03_464]
def hkb03_612 : ai_E := [hkb03_369, hkb03_195, hkb03_369, hkb03_464]
def hkb03_613 : ai_E := [hkb03_369, hkb03_582, hkb03_369, hkb03_583]
def hkb03_614 : ai_E := [hkb03_369, hkb03_193, hkb03_369, hkb03_464]
def hkb03_615 : ai_E := [hkb03_0, hkb03_0, hkb03_579, hkb03_464]
/-- NeverAgain$Sheet.faultAs -/
def kb_515 : ai_K := (150, 1, (hkb03_472, [hkb03_473, hkb03_13, hkb03_208], [], hkb03_610), [.inl 1, .inl 2, .inr (57, 1), .inr (57, 2)], [(some hkb03_11, hkb03_611, []), (some hkb03_107, hkb03_612, []), (some hkb03_15, hkb03_613, []), (some hkb03_107, hkb03_614, []), (some hkb03_147, hkb03_615, [])])
def kbn_515 : List ai_Nd := []
set_option maxRecDepth 1000000 in
theorem kbk_515 : ai_ck [kb_506] [] kb_515 [.inl 100000] kbn_515 13 = true := by decide +kernel
theorem kbh_515 : ai_holds kb_515 := ai_thm kbk_515 (ai_cons kbh_506 ai_nil)
def hkb03_616 : ai_W := [hkb03_17, hkb03_17, hkb03_17, hkb03_17, hkb03_17, hkb03_17, hkb03_17, hkb03_17, hkb03_17, hkb03_17, hkb03_17, hkb03_17, hkb03_17, hkb03_17, hkb03_17, hkb03_17, hkb03_17, hkb03_17, hkb03_17, hkb03_17, hkb03_17, hkb03_17, hkb03_17, hkb03_17, hkb03_17, hkb03_17, hkb03_17, hkb03_17, hkb03_17, hkb03_17, hkb03_17, hkb03_17, hkb03_17, hkb03_17, hkb03_17, hkb03_17, hkb03_17, hkb03_17, hkb03_17, hkb03_17, hkb03_17, hkb03_17, hkb03_17, hkb03_17, hkb03_17, hkb03_17, hkb03_17, hkb03_17, hkb03_17, hkb03_17, hkb03_17, hkb03_17, hkb03_17, hkb03_17, hkb03_17, hkb03_17, hkb03_17, hkb03_577, hkb03_462, hkb03_17, hkb03_17, hkb03_17, hkb03_17, hkb03_17, hkb03_17, hkb03_17, hkb03_17, hkb03_17, hkb03_17, hkb03_17, hkb03_17, hkb03_17, hkb03_17, hkb03_17, hkb03_17, hkb03_17]
def hkb03_617 : ai_E := [hkb03_582, hkb03_471, hkb03_583]
def hkb03_618 : ai_E := [hkb03_193, hkb03_471, hkb03_464]
def hkb03_619 : ai_E := [hkb03_195, hkb03_471, hkb03_464]
/-- NeverAgain$Sheet.cell -/
def kb_516 : ai_K := (151, 0, (hkb03_571, [hkb03_473, hkb03_13], [], hkb03_616), [.inl 1, .inr (57, 1), .inr (57, 2)], [(some hkb03_88, hkb03_617, []), (some hkb03_15, hkb03_618, []), (some hkb03_15, hkb03_619, [])])
def kbn_516 : List ai_Nd := []
set_option maxRecDepth 1000000 in
theorem kbk_516 : ai_ck [] [] kb_516 [.inl 100000] kbn_516 16 = true := by decide +kernel
theorem kbh_516 : ai_holds kb_516 := ai_thm kbk_516 ai_nil
def hkb03_620 : ai_E := [hkb03_0, hkb03_216, hkb03_217, hkb03_5, hkb03_1, hkb03_2, hkb03_0, hkb03_0, hkb03_0, hkb03_3, hkb03_4, hkb03_5]
def hkb03_621 : ai_W := [hkb03_235, hkb03_17, hkb03_17, hkb03_17, hkb03_17, hkb03_17, hkb03_17, hkb03_17, hkb03_249, hkb03_17, hkb03_17, hkb03_17, hkb03_17, hkb03_17, hkb03_17, hkb03_17, hkb03_17, hkb03_17, hkb03_17, hkb03_17, hkb03_17, hkb03_17, hkb03_17, hkb03_17, hkb03_17, hkb03_17, hkb03_17, hkb03_17, hkb03_17, hkb03_17, hkb03_17, hkb03_17, hkb03_17, hkb03_17, hkb03_17, hkb03_17, hkb03_17, hkb03_17, hkb03_17, hkb03_17, hkb03_17, hkb03_17, hkb03_17, hkb03_17, hkb03_17, hkb03_17, hkb03_17, hkb03_17, hkb03_17, hkb03_17, hkb03_17, hkb03_17, hkb03_17, hkb03_17, hkb03_17, hkb03_17, hkb03_17, hkb03_17, hkb03_17, hkb03_17, hkb03_17, hkb03_17, hkb03_17, hkb03_17, hkb03_17, hkb03_17, hkb03_17, hkb03_17, hkb03_17, hkb03_17, hkb03_17, hkb03_17, hkb03_17, hkb03_17, hkb03_17, hkb03_17]
def hkb03_622 : ai_N := (.negSucc 2, .negSucc 2, [])
def hkb03_623 : ai_V := .inl (false, hkb03_622)
def hkb03_624 : Int × Int := (.ofNat 60, .ofNat 60)
def hkb03_625 : ai_E := [hkb03_0, hkb03_216, hkb03_217, hkb03_5, hkb03_1, hkb03_2, hkb03_0, hkb03_0, hkb03_0, hkb03_624, hkb03_4, hkb03_5]
def hkb03_626 : Int × Int := (.ofNat 0, .ofNat 59)
def hkb03_627 : ai_E := [hkb03_0, hkb03_216, hkb03_217, hkb03_5, hkb03_1, hkb03_2, hkb03_0, hkb03_0, hkb03_0, hkb03_626, hkb03_4, hkb03_5]
/-- NeverAgain.refusal -/
def kb_517 : ai_K := (111, 0, (hkb03_620, [hkb03_219, hkb03_15, hkb03_13], [], hkb03_621), [.inl 2, .inr (0, 11), .inr (0, 12), .inr (0, 13), .inr (8, 6), .inr (8, 7), .inr (8, 8), .inr (8, 9), .inr (8, 10), .inr (8, 11), .inr (8, 12), .inr (8, 13)], [(some hkb03_623, hkb03_625, []), (some hkb03_15, hkb03_627, [])])
def kbn_517 : List ai_Nd := []
set_option maxRecDepth 1000000 in
theorem kbk_517 : ai_ck [] [] kb_517 [.inl 100000] kbn_517 13 = true := by decide +kernel
theorem kbh_517 : ai_holds kb_517 := ai_thm kbk_517 ai_nil
def hkb03_628 : ai_E := [hkb03_1, hkb03_2, hkb03_0, hkb03_0, hkb03_0, hkb03_624, hkb03_4, hkb03_5]
def hkb03_629 : ai_E := [hkb03_1, hkb03_2, hkb03_0, hkb03_0, hkb03_0, hkb03_626, hkb03_4, hkb03_5]
def hkb03_630 : ai_N := (.ofNat 1, .ofNat 60, [(5, .ofNat 1, .ofNat 1)])
def hkb03_631 : ai_V := .inl (false, hkb03_630)
def hkb03_632 : ai_C := .inr (.inr (6, [hkb03_18, hkb03_19, hkb03_20, hkb03_21, hkb03_22, hkb03_23, hkb03_150, hkb03_152, hkb03_154, hkb03_29, hkb03_31, hkb03_631, hkb03_158, hkb03_160]))
/-- NeverAgain$Told.addDay -/
def kb_518 : ai_K := (112, 0, (hkb03_282, [hkb03_9, hkb03_15], [], hkb03_283), [.inr (8, 6), .inr (8, 7), .inr (8, 8), .inr (8, 9), .inr (8, 10), .inr (8, 11), .inr (8, 12), .inr (8, 13)], [(some hkb03_15, hkb03_628, []), (some hkb03_147, hkb03_629, [(8, hkb03_632), (11, hkb03_250)])])
def kbn_518 : List ai_Nd := []
set_option maxRecDepth 1000000 in
theorem kbk_518 : ai_ck [] [] kb_518 [.inl 100000] kbn_518 19 = true := by decide +kernel
theorem kbh_518 : ai_holds kb_518 := ai_thm kbk_518 ai_nil
def hkb03_633 : ai_W := [hkb03_17, hkb03_17, hkb03_17, hkb03_17, hkb03_17, hkb03_17, hkb03_17, hkb03_17, hkb03_17, hkb03_17, hkb03_17, hkb03_17, hkb03_17, hkb03_17, hkb03_17, hkb03_17, hkb03_17, hkb03_17, hkb03_17, hkb03_17, hkb03_17, hkb03_17, hkb03_17, hkb03_17, hkb03_17, hkb03_17, hkb03_17, hkb03_17, hkb03_17, hkb03_17, hkb03_17, hkb03_17, hkb03_17, hkb03_17, hkb03_17, hkb03_17, hkb03_17, hkb03_17, hkb03_17, hkb03_17, hkb03_17, hkb03_17, hkb03_17, hkb03_17, hkb03_17, hkb03_17, hkb03_17, hkb03_17, hkb03_17, hkb03_17, hkb03_17, hkb03_17, hkb03_17, hkb03_17, hkb03_17, hkb03_489, hkb03_17, hkb03_17, hkb03_17, hkb03_17, hkb03_17, hkb03_17, hkb03_17, hkb03_17, hkb03_17, hkb03_17, hkb03_17, hkb03_17, hkb03_17, hkb03_17, hkb03_17, hkb03_17, hkb03_17, hkb03_17, hkb03_17, hkb03_17]
/-- NeverAgain$Sheet.faultAs -/
def kb_519 : ai_K := (150, 1, (hkb03_472, [hkb03_487, hkb03_13, hkb03_208], [], hkb03_633), [.inl 1, .inl 2, .inr (55, 1), .inr (55, 2)], [(some hkb03_11, hkb03_611, []), (some hkb03_107, hkb03_612, []), (some hkb03_15, hkb03_613, []), (some hkb03_107, hkb03_614, []), (some hkb03_147, hkb03_615, [])])
def kbn_519 : List ai_Nd := []
set_option maxRecDepth 1000000 in
theorem kbk_519 : ai_ck [kb_508] [] kb_519 [.inl 100000] kbn_519 13 = true := by decide +kernel
theorem kbh_519 : ai_holds kb_519 := ai_thm kbk_519 (ai_cons kbh_508 ai_nil)
def hkb03_634 : ai_W := [hkb03_17, hkb03_17, hkb03_17, hkb03_17, hkb03_17, hkb03_17, hkb03_17, hkb03_17, hkb03_17, hkb03_17, hkb03_17, hkb03_17, hkb03_17, hkb03_17, hkb03_17, hkb03_17, hkb03_17, hkb03_17, hkb03_17, hkb03_17, hkb03_17, hkb03_17, hkb03_17, hkb03_17, hkb03_17, hkb03_17, hkb03_17, hkb03_17, hkb03_17, hkb03_17, hkb03_17, hkb03_17, hkb03_17, hkb03_17, hkb03_17, hkb03_17, hkb03_17, hkb03_17, hkb03_17, hkb03_17, hkb03_17, hkb03_17, hkb03_17, hkb03_17, hkb03_17, hkb03_17, hkb03_17, hkb03_17, hkb03_17, hkb03_17, hkb03_17, hkb03_17, hkb03_17, hkb03_17, hkb03_17, hkb03_592, hkb03_462, hkb03_17, hkb03_17, hkb03_17, hkb03_17, hkb03_17, hkb03_17, hkb03_17, hkb03_17, hkb03_17, hkb03_17, hkb03_17, hkb03_17, hkb03_17, hkb03_17, hkb03_17, hkb03_17, hkb03_17, hkb03_17, hkb03_17]
/-- NeverAgain$Sheet.cell -/
def kb_520 : ai_K := (151, 0, (hkb03_571, [hkb03_487, hkb03_13], [], hkb03_634), [.inl 1, .inr (55, 1), .inr (55, 2)], [(some hkb03_88, hkb03_617, []), (some hkb03_15, hkb03_618, []), (some hkb03_15, hkb03_619, [])])
def kbn_520 : List ai_Nd := []
set_option maxRecDepth 1000000 in
theorem kbk_520 : ai_ck [] [] kb_520 [.inl 100000] kbn_520 16 = true := by decide +kernel
theorem kbh_520 : ai_holds kb_520 := ai_thm kbk_520 ai_nil
def hkb03_635 : ai_W := [hkb03_17, hkb03_17, hkb03_17, hkb03_17, hkb03_17, hkb03_17, hkb03_17, hkb03_17, hkb03_17, hkb03_17, hkb03_17, hkb03_17, hkb03_17, hkb03_17, hkb03_17, hkb03_17, hkb03_17, hkb03_17, hkb03_17, hkb03_17, hkb03_17, hkb03_17, hkb03_17, hkb03_17, hkb03_17, hkb03_17, hkb03_17, hkb03_17, hkb03_17, hkb03_17, hkb03_17, hkb03_17, hkb03_17, hkb03_17, hkb03_17, hkb03_17, hkb03_17, hkb03_17, hkb03_17, hkb03_17, hkb03_17, hkb03_17, hkb03_17, hkb03_17, hkb03_17, hkb03_17, hkb03_17, hkb03_17, hkb03_17, hkb03_17, hkb03_17, hkb03_17, hkb03_17, hkb03_497, hkb03_17, hkb03_17, hkb03_17, hkb03_17, hkb03_17, hkb03_17, hkb03_17, hkb03_17, hkb03_17, hkb03_17, hkb03_17, hkb03_17, hkb03_17, hkb03_17, hkb03_17, hkb03_17, hkb03_17, hkb03_17, hkb03_17, hkb03_17, hkb03_17, hkb03_17]
/-- NeverAgain$Sheet.faultAs -/
def kb_521 : ai_K := (150, 1, (hkb03_472, [hkb03_495, hkb03_13, hkb03_208], [], hkb03_635), [.inl 1, .inl 2, .inr (53, 1), .inr (53, 2)], [(some hkb03_11, hkb03_611, []), (some hkb03_107, hkb03_612, []), (some hkb03_15, hkb03_613, []), (some hkb03_107, hkb03_614, []), (some hkb03_147, hkb03_615, [])])
def kbn_521 : List ai_Nd := []
set_option maxRecDepth 1000000 in
theorem kbk_521 : ai_ck [kb_510] [] kb_521 [.inl 100000] kbn_521 13 = true := by decide +kernel
theorem kbh_521 : ai_holds kb_521 := ai_thm kbk_521 (ai_cons kbh_510 ai_nil)
def hkb03_636 : ai_W := [hkb03_17, hkb03_17, hkb03_17, hkb03_17, hkb03_17, hkb03_17, hkb03_17, hkb03_17, hkb03_17, hkb03_17, hkb03_17, hkb03_17, hkb03_17, hkb03_17, hkb03_17, hkb03_17, hkb03_17, hkb03_17, hkb03_17, hkb03_17, hkb03_17, hkb03_17, hkb03_17, hkb03_17, hkb03_17, hkb03_17, hkb03_17, hkb03_17, hkb03_17, hkb03_17, hkb03_17, hkb03_17, hkb03_17, hkb03_17, hkb03_17, hkb03_17, hkb03_17, hkb03_17, hkb03_17, hkb03_17, hkb03_17, hkb03_17, hkb03_17, hkb03_17, hkb03_17, hkb03_17, hkb03_17, hkb03_17, hkb03_17, hkb03_17, hkb03_17, hkb03_17, hkb03_17, hkb03_595, hkb03_462, hkb03_17, hkb03_17, hkb03_17, hkb03_17, hkb03_17, hkb03_17, hkb03_17, hkb03_17, hkb03_17, hkb03_17, hkb03_17, hkb03_17, hkb03_17, hkb03_17, hkb03_17, hkb03_17, hkb03_17, hkb03_17, hkb03_17, hkb03_17, hkb03_17]
/-- NeverAgain$Sheet.cell -/
def kb_522 : ai_K := (151, 0, (hkb03_571, [hkb03_495, hkb03_13], [], hkb03_636), [.inl 1, .inr (53, 1), .inr (53, 2)], [(some hkb03_88, hkb03_617, []), (some hkb03_15, hkb03_618, []), (some hkb03_15, hkb03_619, [])])
def kbn_522 : List ai_Nd := []
set_option maxRecDepth 1000000 in
theorem kbk_522 : ai_ck [] [] kb_522 [.inl 100000] kbn_522 16 = true := by decide +kernel
theorem kbh_522 : ai_holds kb_522 := ai_thm kbk_522 ai_nil
def hkb03_637 : ai_W := [hkb03_17, hkb03_17, hkb03_17, hkb03_17, hkb03_17, hkb03_17, hkb03_17, hkb03_17, hkb03_17, hkb03_17, hkb03_17, hkb03_17, hkb03_17, hkb03_17, hkb03_17, hkb03_17, hkb03_17, hkb03_17, hkb03_17, hkb03_17, hkb03_17, hkb03_17, hkb03_17, hkb03_17, hkb03_17, hkb03_17, hkb03_17, hkb03_17, hkb03_17, hkb03_17, hkb03_17, hkb03_17, hkb03_17, hkb03_17, hkb03_17, hkb03_17, hkb03_17, hkb03_17, hkb03_17, hkb03_17, hkb03_17, hkb03_17, hkb03_17, hkb03_17, hkb03_17, hkb03_17, hkb03_17, hkb03_17, hkb03_17, hkb03_17, hkb03_17, hkb03_505, hkb03_17, hkb03_17, hkb03_17, hkb03_17, hkb03_17, hkb03_17, hkb03_17, hkb03_17, hkb03_17, hkb03_17, hkb03_17, hkb03_17, hkb03_17, hkb03_17, hkb03_17, hkb03_17, hkb03_17, hkb03_17, hkb03_17, hkb03_17, hkb03_17, hkb03_17, hkb03_17, hkb03_17]
/-- NeverAgain$Sheet.faultAs -/
def kb_523 : ai_K := (150, 1, (hkb03_472, [hkb03_503, hkb03_13, hkb03_208], [], hkb03_637), [.inl 1, .inl 2, .inr (51, 1), .inr (51, 2)], [(some hkb03_11, hkb03_611, []), (some hkb03_107, hkb03_612, []), (some hkb03_15, hkb03_613, []), (some hkb03_107, hkb03_614, []), (some hkb03_147, hkb03_615, [])])
def kbn_523 : List ai_Nd := []
set_option maxRecDepth 1000000 in
theorem kbk_523 : ai_ck [kb_512] [] kb_523 [.inl 100000] kbn_523 13 = true := by decide +kernel
theorem kbh_523 : ai_holds kb_523 := ai_thm kbk_523 (ai_cons kbh_512 ai_nil)
def hkb03_638 : ai_W := [hkb03_17, hkb03_17, hkb03_17, hkb03_17, hkb03_17, hkb03_17, hkb03_17, hkb03_17, hkb03_17, hkb03_17, hkb03_17, hkb03_17, hkb03_17, hkb03_17, hkb03_17, hkb03_17, hkb03_17, hkb03_17, hkb03_17, hkb03_17, hkb03_17, hkb03_17, hkb03_17, hkb03_17, hkb03_17, hkb03_17, hkb03_17, hkb03_17, hkb03_17, hkb03_17, hkb03_17, hkb03_17, hkb03_17, hkb03_17, hkb03_17, hkb03_17, hkb03_17, hkb03_17, hkb03_17, hkb03_17, hkb03_17, hkb03_17, hkb03_17, hkb03_17, hkb03_17, hkb03_17, hkb03_17, hkb03_17, hkb03_17, hkb03_17, hkb03_17, hkb03_598, hkb03_462, hkb03_17, hkb03_17, hkb03_17, hkb03_17, hkb03_17, hkb03_17, hkb03_17, hkb03_17, hkb03_17, hkb03_17, hkb03_17, hkb03_17, hkb03_17, hkb03_17, hkb03_17, hkb03_17, hkb03_17, hkb03_17, hkb03_17, hkb03_17, hkb03_17, hkb03_17, hkb03_17]
/-- NeverAgain$Sheet.cell -/
def kb_524 : ai_K := (151, 0, (hkb03_571, [hkb03_503, hkb03_13], [], hkb03_638), [.inl 1, .inr (51, 1), .inr (51, 2)], [(some hkb03_88, hkb03_617, []), (some hkb03_15, hkb03_618, []), (some hkb03_15, hkb03_619, [])])
def kbn_524 : List ai_Nd := []
set_option maxRecDepth 1000000 in
theorem kbk_524 : ai_ck [] [] kb_524 [.inl 100000] kbn_524 16 = true := by decide +kernel
theorem kbh_524 : ai_holds kb_524 := ai_thm kbk_524 ai_nil
def hkb03_639 : ai_E := [hkb03_0, hkb03_0, hkb03_0, hkb03_0, hkb03_216, hkb03_217, hkb03_5, hkb03_1, hkb03_2, hkb03_0, hkb03_0, hkb03_0, hkb03_3, hkb03_4, hkb03_5, hkb03_6, hkb03_471, hkb03_464, hkb03_471, hkb03_464, hkb03_471, hkb03_464, hkb03_471, hkb03_464]
def hkb03_640 : ai_N := (.ofNat 0, .ofNat 12, [(4, .ofNat 0, .ofNat 0)])
def hkb03_641 : ai_V := .inl (false, hkb03_640)
def hkb03_642 : ai_N := (.ofNat 0, .ofNat 6, [(5, .ofNat 0, .ofNat 0)])
def hkb03_643 : ai_V := .inl (false, hkb03_642)
def hkb03_644 : ai_N := (.ofNat 0, .ofNat 4, [(6, .ofNat 0, .ofNat 0)])
def hkb03_645 : ai_V := .inl (false, hkb03_644)
def hkb03_646 : ai_C := .inr (.inr (7, [hkb03_220, hkb03_62, hkb03_221, hkb03_8, hkb03_222, hkb03_223, hkb03_224, hkb03_225, hkb03_226, hkb03_9, hkb03_227, hkb03_641, hkb03_643, hkb03_645]))
def hkb03_647 : Bool × Option ai_C := (false, some hkb03_646)
def hkb03_648 : ai_N := (.ofNat 4, .ofNat 16, [(7, .ofNat 0, .ofNat 0)])
def hkb03_649 : ai_V := .inl (false, hkb03_648)
def hkb03_650 : ai_N := (.ofNat 1, .ofNat 4, [(8, .ofNat 0, .ofNat 0)])
def hkb03_651 : ai_V := .inl (false, hkb03_650)
def hkb03_652 : ai_N := (.ofNat 0, .ofNat 60, [(12, .ofNat 0, .ofNat 0)])
def hkb03_653 : ai_V := .inl (false, hkb03_652)
def hkb03_654 : ai_N := (.ofNat 0, .ofNat 5, [(13, .ofNat 0, .ofNat 0)])
def hkb03_655 : ai_V := .inl (false, hkb03_654)
def hkb03_656 : ai_N := (.ofNat 0, .ofNat 4, [(14, .ofNat 0, .ofNat 0)])
def hkb03_657 : ai_V := .inl (false, hkb03_656)
def hkb03_658 : ai_C := .inr (.inr (6, [hkb03_18, hkb03_19, hkb03_20, hkb03_21, hkb03_22, hkb03_23, hkb03_649, hkb03_651, hkb03_347, hkb03_168, hkb03_71, hkb03_653, hkb03_655, hkb03_657]))
def hkb03_659 : Bool × Option ai_C := (false, some hkb03_658)
def hkb03_660 : ai_N := (.ofNat 0, .ofNat 128, [(15, .ofNat 0, .ofNat 0)])
def hkb03_661 : ai_V := .inl (false, hkb03_660)
def hkb03_662 : ai_C := .inr (.inr (0, [hkb03_47, hkb03_48, hkb03_49, hkb03_16, hkb03_661]))
def hkb03_663 : Bool × Option ai_C := (false, some hkb03_662)
def hkb03_664 : ai_N := (.negSucc 0, .ofNat 2, [(16, .ofNat 0, .ofNat 0)])
def hkb03_665 : ai_V := .inl (false, hkb03_664)
def hkb03_666 : ai_N := (.ofNat 0, .ofNat 40, [(17, .ofNat 0, .ofNat 0)])
def hkb03_667 : ai_V := .inl (false, hkb03_666)
def hkb03_668 : ai_C := .inr (.inr (4, [hkb03_500, hkb03_665, hkb03_667]))
def hkb03_669 : Bool × Option ai_C := (false, some hkb03_668)
def hkb03_670 : ai_N := (.negSucc 0, .ofNat 2, [(18, .ofNat 0, .ofNat 0)])
def hkb03_671 : ai_V := .inl (false, hkb03_670)
def hkb03_672 : ai_N := (.ofNat 0, .ofNat 40, [(19, .ofNat 0, .ofNat 0)])
def hkb03_673 : ai_V := .inl (false, hkb03_672)
def hkb03_674 : ai_C := .inr (.inr (4, [hkb03_492, hkb03_671, hkb03_673]))
def hkb03_675 : Bool × Option ai_C := (false, some hkb03_674)
def hkb03_676 : ai_N := (.negSucc 0, .ofNat 2, [(20, .ofNat 0, .ofNat 0)])
def hkb03_677 : ai_V := .inl (false, hkb03_676)
def hkb03_678 : ai_N := (.ofNat 0, .ofNat 40, [(21, .ofNat 0, .ofNat 0)])
def hkb03_679 : ai_V := .inl (false, hkb03_678)
def hkb03_680 : ai_C := .inr (.inr (4, [hkb03_484, hkb03_677, hkb03_679]))
def hkb03_681 : Bool × Option ai_C := (false, some hkb03_680)
def hkb03_682 : ai_N := (.negSucc 0, .ofNat 2, [(22, .ofNat 0, .ofNat 0)])
def hkb03_683 : ai_V := .inl (false, hkb03_682)
def hkb03_684 : ai_N := (.ofNat 0, .ofNat 40, [(23, .ofNat 0, .ofNat 0)])
def hkb03_685 : ai_V := .inl (false, hkb03_684)
def hkb03_686 : ai_C := .inr (.inr (4, [hkb03_460, hkb03_683, hkb03_685]))
def hkb03_687 : Bool × Option ai_C := (false, some hkb03_686)
def hkb03_688 : ai_W := [hkb03_647, hkb03_17, hkb03_17, hkb03_17, hkb03_17, hkb03_17, hkb03_17, hkb03_17, hkb03_659, hkb03_17, hkb03_17, hkb03_251, hkb03_17, hkb03_17, hkb03_17, hkb03_17, hkb03_17, hkb03_663, hkb03_56, hkb03_59, hkb03_61, hkb03_17, hkb03_17, hkb03_17, hkb03_17, hkb03_17, hkb03_17, hkb03_17, hkb03_17, hkb03_17, hkb03_17, hkb03_17, hkb03_17, hkb03_17, hkb03_17, hkb03_17, hkb03_17, hkb03_17, hkb03_17, hkb03_17, hkb03_17, hkb03_17, hkb03_17, hkb03_17, hkb03_17, hkb03_17, hkb03_17, hkb03_17, hkb03_17, hkb03_17, hkb03_510, hkb03_669, hkb03_462, hkb03_675, hkb03_462, hkb03_681, hkb03_462, hkb03_687, hkb03_462, hkb03_17, hkb03_17, hkb03_17, hkb03_17, hkb03_17, hkb03_17, hkb03_17, hkb03_17, hkb03_17, hkb03_17, hkb03_17, hkb03_17, hkb03_17, hkb03_17, hkb03_17, hkb03_17, hkb03_17]
def hkb03_689 : ai_N := (.negSucc 38, .negSucc 19, [])
def hkb03_690 : ai_V := .inl (false, hkb03_689)
def hkb03_691 : Int × Int := (.ofNat 1, .ofNat 20)
def hkb03_692 : ai_E := [hkb03_104, hkb03_369, hkb03_0, hkb03_691, hkb03_216, hkb03_217, hkb03_5, hkb03_1, hkb03_2, hkb03_0, hkb03_0, hkb03_0, hkb03_3, hkb03_4, hkb03_5, hkb03_6, hkb03_471, hkb03_464, hkb03_471, hkb03_464, hkb03_471, hkb03_464, hkb03_471, hkb03_464]
def hkb03_693 : Int × Int := (.ofNat 0, .ofNat 20)
def hkb03_694 : ai_E := [hkb03_104, hkb03_369, hkb03_0, hkb03_693, hkb03_216, hkb03_217, hkb03_5, hkb03_1, hkb03_2, hkb03_0, hkb03_0, hkb03_0, hkb03_3, hkb03_4, hkb03_5, hkb03_6, hkb03_471, hkb03_464, hkb03_471, hkb03_464, hkb03_471, hkb03_464, hkb03_471, hkb03_464]
def hkb03_695 : ai_N := (.ofNat 0, .ofNat 3, [])
def hkb03_696 : ai_V := .inl (false, hkb03_695)
def hkb03_697 : ai_C := .inr (.inr (7, [hkb03_220, hkb03_62, hkb03_221, hkb03_8, hkb03_222, hkb03_223, hkb03_224, hkb03_225, hkb03_226, hkb03_9, hkb03_227, hkb03_641, hkb03_643, hkb03_696]))
def hkb03_698 : ai_N := (.ofNat 0, .ofNat 60, [(12, .ofNat 0, .ofNat 60)])
def hkb03_699 : ai_V := .inl (false, hkb03_698)
def hkb03_700 : ai_C := .inr (.inr (6, [hkb03_18, hkb03_19, hkb03_20, hkb03_21, hkb03_22, hkb03_23, hkb03_649, hkb03_651, hkb03_347, hkb03_168, hkb03_71, hkb03_699, hkb03_655, hkb03_657]))
/-- NeverAgain.read -/
def kb_525 : ai_K := (77, 2, (hkb03_639, [hkb03_219, hkb03_13, hkb03_208, hkb03_154, hkb03_29, hkb03_16, hkb03_16, hkb03_16, hkb03_16, hkb03_16, hkb03_16], [], hkb03_688), [.inl 1, .inl 2, .inl 3, .inl 4, .inr (0, 11), .inr (0, 12), .inr (0, 13), .inr (8, 6), .inr (8, 7), .inr (8, 8), .inr (8, 9), .inr (8, 10), .inr (8, 11), .inr (8, 12), .inr (8, 13), .inr (17, 4), .inr (51, 1), .inr (51, 2), .inr (53, 1), .inr (53, 2), .inr (55, 1), .inr (55, 2), .inr (57, 1), .inr (57, 2)], [(some hkb03_280, hkb03_639, []), (some hkb03_690, hkb03_692, [(8, hkb03_658), (11, hkb03_250), (17, hkb03_267), (18, hkb03_55), (19, hkb03_58), (20, hkb03_60)]), (some hkb03_88, hkb03_694, [(0, hkb03_697), (8, hkb03_700), (11, hkb03_250), (17, hkb03_267), (18, hkb03_55), (19, hkb03_58), (20, hkb03_60)])])
def hkb03_701 : ai_E := [hkb03_538, hkb03_369, hkb03_0, hkb03_693, hkb03_216, hkb03_217, hkb03_5, hkb03_1, hkb03_2, hkb03_0, hkb03_0, hkb03_0, hkb03_3, hkb03_4, hkb03_5, hkb03_6, hkb03_471, hkb03_464, hkb03_471, hkb03_464, hkb03_471, hkb03_464, hkb03_471, hkb03_464, hkb03_0, hkb03_693]
def hkb03_702 : ai_N := (.ofNat 3, .ofNat 3, [(0, .ofNat 0, .ofNat 0)])
def hkb03_703 : ai_V := .inl (false, hkb03_702)
def hkb03_704 : ai_N := (.ofNat 0, .ofNat 20, [(3, .ofNat 0, .ofNat 0)])
def hkb03_705 : ai_V := .inl (false, hkb03_704)
def hkb03_706 : ai_N := (.ofNat 0, .ofNat 20, [(25, .ofNat 0, .ofNat 0)])
def hkb03_707 : ai_V := .inl (false, hkb03_706)
def hkb03_708 : Bool × Option ai_C := (true, some hkb03_700)
def hkb03_709 : Bool × Option ai_C := (true, some hkb03_250)
def hkb03_710 : Bool × Option ai_C := (true, some hkb03_267)
def hkb03_711 : ai_W := [hkb03_647, hkb03_17, hkb03_17, hkb03_17, hkb03_17, hkb03_17, hkb03_17, hkb03_17, hkb03_708, hkb03_17, hkb03_17, hkb03_709, hkb03_17, hkb03_17, hkb03_17, hkb03_17, hkb03_17, hkb03_710, hkb03_97, hkb03_98, hkb03_99, hkb03_17, hkb03_17, hkb03_17, hkb03_17, hkb03_17, hkb03_17, hkb03_17, hkb03_17, hkb03_17, hkb03_17, hkb03_17, hkb03_17, hkb03_17, hkb03_17, hkb03_17, hkb03_17, hkb03_17, hkb03_17, hkb03_17, hkb03_17, hkb03_17, hkb03_17, hkb03_17, hkb03_17, hkb03_17, hkb03_17, hkb03_17, hkb03_17, hkb03_17, hkb03_510, hkb03_669, hkb03_462, hkb03_675, hkb03_462, hkb03_681, hkb03_462, hkb03_687, hkb03_462, hkb03_17, hkb03_17, hkb03_17, hkb03_17, hkb03_17, hkb03_17, hkb03_17, hkb03_17, hkb03_17, hkb03_17, hkb03_17, hkb03_17, hkb03_17, hkb03_17, hkb03_17, hkb03_17, hkb03_17]
def kbd_525_0 : ai_Nd := (70, (hkb03_701, [hkb03_219, hkb03_703, hkb03_546, hkb03_154, hkb03_705, hkb03_473, hkb03_653, hkb03_696, hkb03_437, hkb03_707, hkb03_16], [], hkb03_711), [.inl 8, .inl 9], [.inl 99929, .inl 1, .inr (true, .ofNat 20, 25), .inl 100000])
def hkb03_712 : ai_E := [hkb03_551, hkb03_369, hkb03_0, hkb03_693, hkb03_216, hkb03_217, hkb03_5, hkb03_1, hkb03_2, hkb03_0, hkb03_0, hkb03_0, hkb03_3, hkb03_4, hkb03_5, hkb03_6, hkb03_471, hkb03_464, hkb03_471, hkb03_464, hkb03_471, hkb03_464, hkb03_471, hkb03_464, hkb03_0, hkb03_693]
def hkb03_713 : ai_N := (.ofNat 2, .ofNat 2, [(0, .ofNat 0, .ofNat 0)])
def hkb03_714 : ai_V := .inl (false, hkb03_713)
def kbd_525_1 : ai_Nd := (70, (hkb03_712, [hkb03_219, hkb03_714, hkb03_546, hkb03_154, hkb03_705, hkb03_487, hkb03_653, hkb03_696, hkb03_437, hkb03_707, hkb03_16], [], hkb03_711), [.inl 8, .inl 9], [.inl 99929, .inl 1, .inr (true, .ofNat 20, 25), .inl 100000])
def hkb03_715 : ai_E := [hkb03_449, hkb03_369, hkb03_0, hkb03_693, hkb03_216, hkb03_217, hkb03_5, hkb03_1, hkb03_2, hkb03_0, hkb03_0, hkb03_0, hkb03_3, hkb03_4, hkb03_5, hkb03_6, hkb03_471, hkb03_464, hkb03_471, hkb03_464, hkb03_471, hkb03_464, hkb03_471, hkb03_464, hkb03_0, hkb03_693]
def hkb03_716 : ai_N := (.ofNat 1, .ofNat 1, [(0, .ofNat 0, .ofNat 0)])
def hkb03_717 : ai_V := .inl (false, hkb03_716)
def kbd_525_2 : ai_Nd := (70, (hkb03_715, [hkb03_219, hkb03_717, hkb03_546, hkb03_154, hkb03_705, hkb03_495, hkb03_653, hkb03_696, hkb03_437, hkb03_707, hkb03_16], [], hkb03_711), [.inl 8, .inl 9], [.inl 99929, .inl 1, .inr (true, .ofNat 20, 25), .inl 100000])
def hkb03_718 : ai_E := [hkb03_80, hkb03_369, hkb03_0, hkb03_693, hkb03_216, hkb03_217, hkb03_5, hkb03_1, hkb03_2, hkb03_0, hkb03_0, hkb03_0, hkb03_3, hkb03_4, hkb03_5, hkb03_6, hkb03_471, hkb03_464, hkb03_471, hkb03_464, hkb03_471, hkb03_464, hkb03_471, hkb03_464, hkb03_0, hkb03_693]
def hkb03_719 : ai_N := (.ofNat 0, .ofNat 0, [(0, .ofNat 0, .ofNat 0)])
def hkb03_720 : ai_V := .inl (false, hkb03_719)
def kbd_525_3 : ai_Nd := (70, (hkb03_718, [hkb03_219, hkb03_720, hkb03_546, hkb03_154, hkb03_705, hkb03_503, hkb03_653, hkb03_696, hkb03_437, hkb03_707, hkb03_16], [], hkb03_711), [.inl 8, .inl 9], [.inl 99929, .inl 1, .inr (true, .ofNat 20, 25), .inl 100000])
def kbn_525 : List ai_Nd := [kbd_525_0, kbd_525_1, kbd_525_2, kbd_525_3]
set_option maxRecDepth 1000000 in
theorem kbv_525 : ai_ckv kb_525 [.inl 100000, .inl 0, .inl 0, .inl 0] kbn_525 = true := by decide +kernel
set_option maxRecDepth 1000000 in
theorem kbk_525_3 : ai_ckn [kb_262, kb_261, kb_515, kb_516, kb_519, kb_520, kb_521, kb_522, kb_523, kb_524, kb_518, kb_517, kb_277, kb_276, kb_263, kb_265] [(0, .inl 1, [.ofNat 0, .ofNat 1, .ofNat 2, .ofNat 3, .ofNat 4])] kb_525 [.inl 100000, .inl 0, .inl 0, .inl 0] kbn_525 41 kbd_525_3 = true := by decide +kernel
set_option maxRecDepth 1000000 in
theorem kbk_525_2 : ai_ckn [kb_262, kb_261, kb_515, kb_516, kb_519, kb_520, kb_521, kb_522, kb_523, kb_524, kb_518, kb_517, kb_277, kb_276, kb_263, kb_265] [(0, .inl 1, [.ofNat 0, .ofNat 1, .ofNat 2, .ofNat 3, .ofNat 4])] kb_525 [.inl 100000, .inl 0, .inl 0, .inl 0] kbn_525 41 kbd_525_2 = true := by decide +kernel
set_option maxRecDepth 1000000 in
theorem kbk_525_1 : ai_ckn [kb_262, kb_261, kb_515, kb_516, kb_519, kb_520, kb_521, kb_522, kb_523, kb_524, kb_518, kb_517, kb_277, kb_276, kb_263, kb_265] [(0, .inl 1, [.ofNat 0, .ofNat 1, .ofNat 2, .ofNat 3, .ofNat 4])] kb_525 [.inl 100000, .inl 0, .inl 0, .inl 0] kbn_525 41 kbd_525_1 = true := by decide +kernel
set_option maxRecDepth 1000000 in
theorem kbk_525_0 : ai_ckn [kb_262, kb_261, kb_515, kb_516, kb_519, kb_520, kb_521, kb_522, kb_523, kb_524, kb_518, kb_517, kb_277, kb_276, kb_263, kb_265] [(0, .inl 1, [.ofNat 0, .ofNat 1, .ofNat 2, .ofNat 3, .ofNat 4])] kb_525 [.inl 100000, .inl 0, .inl 0, .inl 0] kbn_525 41 kbd_525_0 = true := by decide +kernel
set_option maxRecDepth 1000000 in
theorem kbk_525_e : ai_ckn [kb_262, kb_261, kb_515, kb_516, kb_519, kb_520, kb_521, kb_522, kb_523, kb_524, kb_518, kb_517, kb_277, kb_276, kb_263, kb_265] [(0, .inl 1, [.ofNat 0, .ofNat 1, .ofNat 2, .ofNat 3, .ofNat 4])] kb_525 [.inl 100000, .inl 0, .inl 0, .inl 0] kbn_525 41 (0, kb_525.2.2.1, [], [.inl 100000, .inl 0, .inl 0, .inl 0]) = true := by decide +kernel
theorem kbk_525 : ai_ck [kb_262, kb_261, kb_515, kb_516, kb_519, kb_520, kb_521, kb_522, kb_523, kb_524, kb_518, kb_517, kb_277, kb_276, kb_263, kb_265] [(0, .inl 1, [.ofNat 0, .ofNat 1, .ofNat 2, .ofNat 3, .ofNat 4])] kb_525 [.inl 100000, .inl 0, .inl 0, .inl 0] kbn_525 41 = true := ai_ck_of rfl kbv_525 (List.forall_mem_cons.mpr ⟨kbk_525_e, List.forall_mem_cons.mpr ⟨kbk_525_0, List.forall_mem_cons.mpr ⟨kbk_525_1, List.forall_mem_cons.mpr ⟨kbk_525_2, List.forall_mem_cons.mpr ⟨kbk_525_3, fun _ h => absurd h List.not_mem_nil⟩⟩⟩⟩⟩)
theorem kbh_525 : ai_holds kb_525 := ai_thm kbk_525 (ai_cons kbh_262 (ai_cons kbh_261 (ai_cons kbh_515 (ai_cons kbh_516 (ai_cons kbh_519 (ai_cons kbh_520 (ai_cons kbh_521 (ai_cons kbh_522 (ai_cons kbh_523 (ai_cons kbh_524 (ai_cons kbh_518 (ai_cons kbh_517 (ai_cons kbh_277 (ai_cons kbh_276 (ai_cons kbh_263 (ai_cons kbh_265 ai_nil))))))))))))))))

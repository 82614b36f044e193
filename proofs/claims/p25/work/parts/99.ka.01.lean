/-! CONTRACTS found by wip/ai/an.py, each held by the kernel. -/
def hka01_0 : Int × Int := (.negSucc 2147483647, .ofNat 2147483647)
def hka01_1 : Int × Int := (.ofNat 0, .ofNat 400)
def hka01_2 : Int × Int := (.ofNat 0, .ofNat 6)
def hka01_3 : Int × Int := (.ofNat 0, .ofNat 3)
def hka01_4 : ai_E := [hka01_0, hka01_1, hka01_2, hka01_1, hka01_0, hka01_1, hka01_3, hka01_1, hka01_0]
def hka01_5 : ai_V := .inr (some (.ref 15))
def hka01_6 : ai_N := (.ofNat 6, .ofNat 6, [])
def hka01_7 : ai_V := .inl (false, hka01_6)
def hka01_8 : ai_N := (.negSucc 2147483647, .ofNat 2147483647, [(0, .ofNat 0, .ofNat 0)])
def hka01_9 : ai_V := .inl (false, hka01_8)
def hka01_10 : Bool × Option ai_C := (false, none)
def hka01_11 : ai_V := .inr (some (.ref 16))
def hka01_12 : ai_N := (.ofNat 0, .ofNat 400, [(1, .ofNat 0, .ofNat 0)])
def hka01_13 : ai_V := .inl (false, hka01_12)
def hka01_14 : ai_N := (.ofNat 0, .ofNat 6, [(2, .ofNat 0, .ofNat 0)])
def hka01_15 : ai_V := .inl (false, hka01_14)
def hka01_16 : ai_N := (.ofNat 0, .ofNat 400, [(3, .ofNat 0, .ofNat 0)])
def hka01_17 : ai_V := .inl (false, hka01_16)
def hka01_18 : ai_V := .inr (some (.ref 8))
def hka01_19 : ai_N := (.negSucc 2147483647, .ofNat 2147483647, [(4, .ofNat 0, .ofNat 0)])
def hka01_20 : ai_V := .inl (false, hka01_19)
def hka01_21 : ai_N := (.ofNat 0, .ofNat 400, [(5, .ofNat 0, .ofNat 0)])
def hka01_22 : ai_V := .inl (false, hka01_21)
def hka01_23 : ai_N := (.ofNat 0, .ofNat 3, [(6, .ofNat 0, .ofNat 0)])
def hka01_24 : ai_V := .inl (false, hka01_23)
def hka01_25 : ai_N := (.ofNat 0, .ofNat 400, [(7, .ofNat 0, .ofNat 0)])
def hka01_26 : ai_V := .inl (false, hka01_25)
def hka01_27 : ai_N := (.negSucc 2147483647, .ofNat 2147483647, [(8, .ofNat 0, .ofNat 0)])
def hka01_28 : ai_V := .inl (false, hka01_27)
def hka01_29 : ai_C := .inr (.inr (5, [hka01_11, hka01_13, hka01_15, hka01_17, hka01_18, hka01_20, hka01_22, hka01_24, hka01_26, hka01_28]))
def hka01_30 : Bool × Option ai_C := (false, some hka01_29)
def hka01_31 : ai_W := [hka01_10, hka01_10, hka01_10, hka01_10, hka01_10, hka01_10, hka01_10, hka01_10, hka01_10, hka01_10, hka01_10, hka01_10, hka01_10, hka01_10, hka01_10, hka01_30, hka01_10, hka01_10, hka01_10, hka01_10, hka01_10, hka01_10, hka01_10, hka01_10, hka01_10, hka01_10, hka01_10, hka01_10, hka01_10, hka01_10, hka01_10, hka01_10, hka01_10, hka01_10, hka01_10, hka01_10, hka01_10, hka01_10, hka01_10, hka01_10, hka01_10, hka01_10, hka01_10, hka01_10, hka01_10, hka01_10, hka01_10, hka01_10, hka01_10, hka01_10, hka01_10, hka01_10, hka01_10, hka01_10, hka01_10, hka01_10, hka01_10, hka01_10, hka01_10, hka01_10, hka01_10, hka01_10, hka01_10, hka01_10, hka01_10, hka01_10, hka01_10, hka01_10, hka01_10, hka01_10, hka01_10, hka01_10, hka01_10, hka01_10, hka01_10, hka01_10]
def hka01_32 : ai_N := (.ofNat 0, .ofNat 0, [])
def hka01_33 : ai_V := .inl (false, hka01_32)
def hka01_34 : ai_C := .inr (.inr (5, [hka01_11, hka01_13, hka01_7, hka01_9, hka01_18, hka01_20, hka01_22, hka01_24, hka01_26, hka01_28]))
/-- NeverAgain$TextReader.fail -/
def ka_247 : ai_K := (158, 0, (hka01_4, [hka01_5, hka01_7, hka01_9], [], hka01_31), [.inl 2, .inr (15, 1), .inr (15, 2), .inr (15, 3), .inr (15, 5), .inr (15, 6), .inr (15, 7), .inr (15, 8), .inr (15, 9)], [(some hka01_33, hka01_4, [(15, hka01_34)])])
def kan_247 : List ai_Nd := []
set_option maxRecDepth 1000000 in
theorem kak_247 : ai_ck [] [] ka_247 [.inl 100000] kan_247 9 = true := by decide +kernel
theorem kah_247 : ai_holds ka_247 := ai_thm kak_247 ai_nil
def hka01_35 : Int × Int := (.ofNat 4, .ofNat 16)
def hka01_36 : Int × Int := (.ofNat 1, .ofNat 4)
def hka01_37 : Int × Int := (.ofNat 0, .ofNat 60)
def hka01_38 : Int × Int := (.ofNat 0, .ofNat 5)
def hka01_39 : Int × Int := (.ofNat 0, .ofNat 4)
def hka01_40 : ai_E := [hka01_35, hka01_36, hka01_0, hka01_0, hka01_0, hka01_37, hka01_38, hka01_39, hka01_1, hka01_2, hka01_1, hka01_0, hka01_1, hka01_3, hka01_1, hka01_0]
def hka01_41 : ai_V := .inr none
def hka01_42 : ai_V := .inr (some (.ref 9))
def hka01_43 : ai_V := .inr (some (.ref 10))
def hka01_44 : ai_V := .inr (some (.ref 11))
def hka01_45 : ai_V := .inr (some (.ref 12))
def hka01_46 : ai_V := .inr (some (.ref 13))
def hka01_47 : ai_V := .inr (some (.ref 14))
def hka01_48 : ai_N := (.ofNat 4, .ofNat 16, [(0, .ofNat 0, .ofNat 0)])
def hka01_49 : ai_V := .inl (false, hka01_48)
def hka01_50 : ai_N := (.ofNat 1, .ofNat 4, [(1, .ofNat 0, .ofNat 0)])
def hka01_51 : ai_V := .inl (false, hka01_50)
def hka01_52 : ai_N := (.negSucc 2147483647, .ofNat 2147483647, [(2, .ofNat 0, .ofNat 0)])
def hka01_53 : ai_V := .inl (false, hka01_52)
def hka01_54 : ai_N := (.negSucc 2147483647, .ofNat 2147483647, [(3, .ofNat 0, .ofNat 0)])
def hka01_55 : ai_V := .inl (false, hka01_54)
def hka01_56 : ai_N := (.ofNat 0, .ofNat 60, [(5, .ofNat 0, .ofNat 0)])
def hka01_57 : ai_V := .inl (false, hka01_56)
def hka01_58 : ai_N := (.ofNat 0, .ofNat 5, [(6, .ofNat 0, .ofNat 0)])
def hka01_59 : ai_V := .inl (false, hka01_58)
def hka01_60 : ai_N := (.ofNat 0, .ofNat 4, [(7, .ofNat 0, .ofNat 0)])
def hka01_61 : ai_V := .inl (false, hka01_60)
def hka01_62 : ai_C := .inr (.inr (6, [hka01_42, hka01_43, hka01_44, hka01_45, hka01_46, hka01_47, hka01_49, hka01_51, hka01_53, hka01_55, hka01_20, hka01_57, hka01_59, hka01_61]))
def hka01_63 : Bool × Option ai_C := (false, some hka01_62)
def hka01_64 : ai_N := (.negSucc 2147483647, .ofNat 2147483647, [])
def hka01_65 : ai_C := .inl (.int, [(4, hka01_64)])
def hka01_66 : Bool × Option ai_C := (false, some hka01_65)
def hka01_67 : ai_C := .inl (.int, [(17, hka01_64)])
def hka01_68 : Bool × Option ai_C := (false, some hka01_67)
def hka01_69 : ai_C := .inl (.int, [(60, hka01_64)])
def hka01_70 : Bool × Option ai_C := (false, some hka01_69)
def hka01_71 : ai_C := .inl (.int, [(5, hka01_64)])
def hka01_72 : Bool × Option ai_C := (false, some hka01_71)
def hka01_73 : ai_N := (.ofNat 0, .ofNat 400, [(8, .ofNat 0, .ofNat 0)])
def hka01_74 : ai_V := .inl (false, hka01_73)
def hka01_75 : ai_N := (.ofNat 0, .ofNat 6, [(9, .ofNat 0, .ofNat 0)])
def hka01_76 : ai_V := .inl (false, hka01_75)
def hka01_77 : ai_N := (.ofNat 0, .ofNat 400, [(10, .ofNat 0, .ofNat 0)])
def hka01_78 : ai_V := .inl (false, hka01_77)
def hka01_79 : ai_N := (.negSucc 2147483647, .ofNat 2147483647, [(11, .ofNat 0, .ofNat 0)])
def hka01_80 : ai_V := .inl (false, hka01_79)
def hka01_81 : ai_N := (.ofNat 0, .ofNat 400, [(12, .ofNat 0, .ofNat 0)])
def hka01_82 : ai_V := .inl (false, hka01_81)
def hka01_83 : ai_N := (.ofNat 0, .ofNat 3, [(13, .ofNat 0, .ofNat 0)])
def hka01_84 : ai_V := .inl (false, hka01_83)
def hka01_85 : ai_N := (.ofNat 0, .ofNat 400, [(14, .ofNat 0, .ofNat 0)])
def hka01_86 : ai_V := .inl (false, hka01_85)
def hka01_87 : ai_N := (.negSucc 2147483647, .ofNat 2147483647, [(15, .ofNat 0, .ofNat 0)])
def hka01_88 : ai_V := .inl (false, hka01_87)
def hka01_89 : ai_C := .inr (.inr (5, [hka01_11, hka01_74, hka01_76, hka01_78, hka01_41, hka01_80, hka01_82, hka01_84, hka01_86, hka01_88]))
def hka01_90 : Bool × Option ai_C := (false, some hka01_89)
def hka01_91 : ai_N := (.negSucc 127, .ofNat 127, [])
def hka01_92 : ai_C := .inl (.byte, [(400, hka01_91)])
def hka01_93 : Bool × Option ai_C := (false, some hka01_92)
def hka01_94 : ai_W := [hka01_10, hka01_10, hka01_10, hka01_10, hka01_10, hka01_10, hka01_10, hka01_10, hka01_63, hka01_66, hka01_68, hka01_70, hka01_72, hka01_66, hka01_66, hka01_90, hka01_93, hka01_10, hka01_10, hka01_10, hka01_10, hka01_10, hka01_10, hka01_10, hka01_10, hka01_10, hka01_10, hka01_10, hka01_10, hka01_10, hka01_10, hka01_10, hka01_10, hka01_10, hka01_10, hka01_10, hka01_10, hka01_10, hka01_10, hka01_10, hka01_10, hka01_10, hka01_10, hka01_10, hka01_10, hka01_10, hka01_10, hka01_10, hka01_10, hka01_10, hka01_10, hka01_10, hka01_10, hka01_10, hka01_10, hka01_10, hka01_10, hka01_10, hka01_10, hka01_10, hka01_10, hka01_10, hka01_10, hka01_10, hka01_10, hka01_10, hka01_10, hka01_10, hka01_10, hka01_10, hka01_10, hka01_10, hka01_10, hka01_10, hka01_10, hka01_10]
def hka01_95 : ai_N := (.ofNat 0, .ofNat 400, [])
def hka01_96 : ai_V := .inl (false, hka01_95)
def hka01_97 : Int × Int := (.ofNat 1, .ofNat 400)
def hka01_98 : ai_E := [hka01_35, hka01_36, hka01_0, hka01_0, hka01_0, hka01_37, hka01_38, hka01_39, hka01_97, hka01_2, hka01_1, hka01_0, hka01_1, hka01_3, hka01_1, hka01_0]
def hka01_99 : ai_N := (.ofNat 4, .ofNat 16, [])
def hka01_100 : ai_V := .inl (false, hka01_99)
def hka01_101 : ai_N := (.ofNat 1, .ofNat 4, [])
def hka01_102 : ai_V := .inl (false, hka01_101)
def hka01_103 : ai_V := .inl (false, hka01_64)
def hka01_104 : ai_N := (.ofNat 0, .ofNat 60, [])
def hka01_105 : ai_V := .inl (false, hka01_104)
def hka01_106 : ai_N := (.ofNat 0, .ofNat 5, [])
def hka01_107 : ai_V := .inl (false, hka01_106)
def hka01_108 : ai_N := (.ofNat 0, .ofNat 4, [])
def hka01_109 : ai_V := .inl (false, hka01_108)
def hka01_110 : ai_C := .inr (.inr (6, [hka01_42, hka01_43, hka01_44, hka01_45, hka01_46, hka01_47, hka01_100, hka01_102, hka01_103, hka01_103, hka01_103, hka01_105, hka01_107, hka01_109]))
def hka01_111 : ai_N := (.ofNat 1, .ofNat 400, [(8, .ofNat 0, .ofNat 0)])
def hka01_112 : ai_V := .inl (false, hka01_111)
def hka01_113 : ai_N := (.ofNat 1, .ofNat 5, [])
def hka01_114 : ai_V := .inl (false, hka01_113)
def hka01_115 : ai_N := (.ofNat 0, .ofNat 399, [])
def hka01_116 : ai_V := .inl (false, hka01_115)
def hka01_117 : ai_N := (.ofNat 1, .ofNat 1, [])
def hka01_118 : ai_V := .inl (false, hka01_117)
def hka01_119 : ai_C := .inr (.inr (5, [hka01_11, hka01_112, hka01_114, hka01_116, hka01_18, hka01_103, hka01_96, hka01_118, hka01_116, hka01_103]))
def hka01_120 : ai_N := (.ofNat 2, .ofNat 6, [])
def hka01_121 : ai_V := .inl (false, hka01_120)
def hka01_122 : ai_N := (.ofNat 3, .ofNat 3, [])
def hka01_123 : ai_V := .inl (false, hka01_122)
def hka01_124 : ai_C := .inr (.inr (5, [hka01_11, hka01_74, hka01_121, hka01_96, hka01_18, hka01_103, hka01_96, hka01_123, hka01_96, hka01_103]))
def hka01_125 : ai_N := (.ofNat 2, .ofNat 5, [])
def hka01_126 : ai_V := .inl (false, hka01_125)
def hka01_127 : ai_N := (.ofNat 1, .ofNat 400, [])
def hka01_128 : ai_V := .inl (false, hka01_127)
def hka01_129 : ai_C := .inr (.inr (5, [hka01_11, hka01_112, hka01_126, hka01_96, hka01_18, hka01_103, hka01_128, hka01_33, hka01_96, hka01_103]))
def hka01_130 : ai_N := (.ofNat 1, .ofNat 6, [])
def hka01_131 : ai_V := .inl (false, hka01_130)
def hka01_132 : ai_N := (.ofNat 3, .ofNat 400, [])
def hka01_133 : ai_V := .inl (false, hka01_132)
def hka01_134 : ai_N := (.ofNat 0, .ofNat 3, [])
def hka01_135 : ai_V := .inl (false, hka01_134)
def hka01_136 : ai_C := .inr (.inr (5, [hka01_11, hka01_112, hka01_131, hka01_96, hka01_18, hka01_103, hka01_133, hka01_135, hka01_133, hka01_103]))
def hka01_137 : ai_N := (.ofNat 2, .ofNat 2, [])
def hka01_138 : ai_V := .inl (false, hka01_137)
def hka01_139 : ai_C := .inr (.inr (5, [hka01_11, hka01_112, hka01_138, hka01_116, hka01_18, hka01_103, hka01_128, hka01_138, hka01_116, hka01_103]))
def hka01_140 : ai_C := .inr (.inr (5, [hka01_11, hka01_74, hka01_33, hka01_96, hka01_18, hka01_103, hka01_96, hka01_123, hka01_96, hka01_103]))
def hka01_141 : ai_N := (.ofNat 401, .ofNat 401, [])
def hka01_142 : ai_V := .inl (false, hka01_141)
def hka01_143 : ai_C := .inr (.inr (5, [hka01_11, hka01_74, hka01_33, hka01_96, hka01_18, hka01_103, hka01_96, hka01_135, hka01_96, hka01_103]))
def hka01_144 : ai_C := .inr (.inr (5, [hka01_11, hka01_74, hka01_7, hka01_74, hka01_18, hka01_103, hka01_96, hka01_135, hka01_96, hka01_103]))
/-- NeverAgain$TextReader.readInto -/
def ka_248 : ai_K := (94, 7, (hka01_40, [hka01_5, hka01_18, hka01_41], [], hka01_94), [.inr (8, 6), .inr (8, 7), .inr (8, 8), .inr (8, 9), .inr (8, 10), .inr (8, 11), .inr (8, 12), .inr (8, 13), .inr (15, 1), .inr (15, 2), .inr (15, 3), .inr (15, 5), .inr (15, 6), .inr (15, 7), .inr (15, 8), .inr (15, 9)], [(some hka01_96, hka01_98, [(8, hka01_110), (9, hka01_65), (10, hka01_67), (11, hka01_69), (12, hka01_71), (13, hka01_65), (14, hka01_65), (15, hka01_119)]), (some hka01_96, hka01_40, [(8, hka01_110), (9, hka01_65), (10, hka01_67), (11, hka01_69), (12, hka01_71), (13, hka01_65), (14, hka01_65), (15, hka01_124)]), (some hka01_96, hka01_98, [(8, hka01_110), (9, hka01_65), (10, hka01_67), (11, hka01_69), (12, hka01_71), (13, hka01_65), (14, hka01_65), (15, hka01_129)]), (some hka01_96, hka01_98, [(8, hka01_110), (9, hka01_65), (10, hka01_67), (11, hka01_69), (12, hka01_71), (13, hka01_65), (14, hka01_65), (15, hka01_136)]), (some hka01_96, hka01_98, [(8, hka01_110), (9, hka01_65), (10, hka01_67), (11, hka01_69), (12, hka01_71), (13, hka01_65), (14, hka01_65), (15, hka01_139)]), (some hka01_96, hka01_40, [(8, hka01_110), (9, hka01_65), (10, hka01_67), (11, hka01_69), (12, hka01_71), (13, hka01_65), (14, hka01_65), (15, hka01_140)]), (some hka01_142, hka01_40, [(8, hka01_110), (9, hka01_65), (10, hka01_67), (11, hka01_69), (12, hka01_71), (13, hka01_65), (14, hka01_65), (15, hka01_143)]), (some hka01_142, hka01_40, [(8, hka01_110), (9, hka01_65), (10, hka01_67), (11, hka01_69), (12, hka01_71), (13, hka01_65), (14, hka01_65), (15, hka01_144)])])
def hka01_145 : Int × Int := (.ofNat 0, .ofNat 401)
def hka01_146 : ai_E := [hka01_35, hka01_36, hka01_0, hka01_0, hka01_0, hka01_37, hka01_38, hka01_39, hka01_1, hka01_2, hka01_1, hka01_0, hka01_1, hka01_3, hka01_1, hka01_0, hka01_145]
def hka01_147 : ai_N := (.ofNat 0, .ofNat 401, [(16, .ofNat 0, .ofNat 0)])
def hka01_148 : ai_V := .inl (false, hka01_147)
def hka01_149 : Bool × Option ai_C := (true, some hka01_110)
def hka01_150 : Bool × Option ai_C := (true, some hka01_65)
def hka01_151 : Bool × Option ai_C := (true, some hka01_67)
def hka01_152 : Bool × Option ai_C := (true, some hka01_69)
def hka01_153 : Bool × Option ai_C := (true, some hka01_71)
def hka01_154 : Bool × Option ai_C := (true, some hka01_143)
def hka01_155 : ai_W := [hka01_10, hka01_10, hka01_10, hka01_10, hka01_10, hka01_10, hka01_10, hka01_10, hka01_149, hka01_150, hka01_151, hka01_152, hka01_153, hka01_150, hka01_150, hka01_154, hka01_93, hka01_10, hka01_10, hka01_10, hka01_10, hka01_10, hka01_10, hka01_10, hka01_10, hka01_10, hka01_10, hka01_10, hka01_10, hka01_10, hka01_10, hka01_10, hka01_10, hka01_10, hka01_10, hka01_10, hka01_10, hka01_10, hka01_10, hka01_10, hka01_10, hka01_10, hka01_10, hka01_10, hka01_10, hka01_10, hka01_10, hka01_10, hka01_10, hka01_10, hka01_10, hka01_10, hka01_10, hka01_10, hka01_10, hka01_10, hka01_10, hka01_10, hka01_10, hka01_10, hka01_10, hka01_10, hka01_10, hka01_10, hka01_10, hka01_10, hka01_10, hka01_10, hka01_10, hka01_10, hka01_10, hka01_10, hka01_10, hka01_10, hka01_10, hka01_10]
def kan_248 : List ai_Nd := [(34, (hka01_146, [hka01_5, hka01_18, hka01_148], [], hka01_155), [.inl 2], [.inl 99965, .inl 1, .inr (true, .ofNat 401, 16), .inl 100000])]
set_option maxRecDepth 1000000 in
theorem kak_248 : ai_ck [ka_247, ka_8, ka_15, ka_246, ka_242] [] ka_248 [.inl 100000, .inl 0, .inl 0, .inl 0] kan_248 26 = true := by decide +kernel
theorem kah_248 : ai_holds ka_248 := ai_thm kak_248 (ai_cons kah_247 (ai_cons kah_8 (ai_cons kah_15 (ai_cons kah_246 (ai_cons kah_242 ai_nil)))))
def hka01_156 : Int × Int := (.ofNat 0, .ofNat 12)
def hka01_157 : ai_E := [hka01_156, hka01_2, hka01_39]
def hka01_158 : ai_V := .inr (some (.ref 0))
def hka01_159 : ai_V := .inr (some (.ref 17))
def hka01_160 : ai_V := .inr (some (.ref 21))
def hka01_161 : ai_V := .inr (some (.ref 26))
def hka01_162 : ai_V := .inr (some (.ref 32))
def hka01_163 : ai_V := .inr (some (.ref 35))
def hka01_164 : ai_V := .inr (some (.ref 34))
def hka01_165 : ai_V := .inr (some (.ref 50))
def hka01_166 : ai_V := .inr (some (.ref 33))
def hka01_167 : ai_V := .inr (some (.ref 1))
def hka01_168 : ai_N := (.ofNat 0, .ofNat 12, [(0, .ofNat 0, .ofNat 0)])
def hka01_169 : ai_V := .inl (false, hka01_168)
def hka01_170 : ai_N := (.ofNat 0, .ofNat 6, [(1, .ofNat 0, .ofNat 0)])
def hka01_171 : ai_V := .inl (false, hka01_170)
def hka01_172 : ai_N := (.ofNat 0, .ofNat 4, [(2, .ofNat 0, .ofNat 0)])
def hka01_173 : ai_V := .inl (false, hka01_172)
def hka01_174 : ai_C := .inr (.inr (7, [hka01_5, hka01_159, hka01_160, hka01_161, hka01_162, hka01_163, hka01_164, hka01_165, hka01_166, hka01_18, hka01_167, hka01_169, hka01_171, hka01_173]))
def hka01_175 : Bool × Option ai_C := (false, some hka01_174)
def hka01_176 : ai_N := (.ofNat 0, .ofNat 1, [])
def hka01_177 : ai_C := .inl (.boolean, [(2, hka01_176)])
def hka01_178 : Bool × Option ai_C := (false, some hka01_177)
def hka01_179 : ai_W := [hka01_175, hka01_10, hka01_10, hka01_10, hka01_10, hka01_10, hka01_10, hka01_10, hka01_10, hka01_10, hka01_10, hka01_10, hka01_10, hka01_10, hka01_10, hka01_10, hka01_10, hka01_10, hka01_10, hka01_10, hka01_10, hka01_10, hka01_10, hka01_10, hka01_10, hka01_10, hka01_10, hka01_10, hka01_10, hka01_10, hka01_10, hka01_10, hka01_10, hka01_10, hka01_178, hka01_10, hka01_10, hka01_10, hka01_10, hka01_10, hka01_10, hka01_10, hka01_10, hka01_10, hka01_10, hka01_10, hka01_10, hka01_10, hka01_10, hka01_10, hka01_10, hka01_10, hka01_10, hka01_10, hka01_10, hka01_10, hka01_10, hka01_10, hka01_10, hka01_10, hka01_10, hka01_10, hka01_10, hka01_10, hka01_10, hka01_10, hka01_10, hka01_10, hka01_10, hka01_10, hka01_10, hka01_10, hka01_10, hka01_10, hka01_10, hka01_10]
/-- NeverAgain.forgetImages -/
def ka_249 : ai_K := (95, 0, (hka01_157, [hka01_158, hka01_41], [], hka01_179), [.inr (0, 11), .inr (0, 12), .inr (0, 13)], [(none, hka01_157, [(34, hka01_177)])])
def hka01_180 : Int × Int := (.ofNat 0, .ofNat 2)
def hka01_181 : ai_E := [hka01_156, hka01_2, hka01_39, hka01_180]
def hka01_182 : ai_N := (.ofNat 0, .ofNat 2, [(3, .ofNat 0, .ofNat 0)])
def hka01_183 : ai_V := .inl (false, hka01_182)
def hka01_184 : Bool × Option ai_C := (true, some hka01_177)
def hka01_185 : ai_W := [hka01_175, hka01_10, hka01_10, hka01_10, hka01_10, hka01_10, hka01_10, hka01_10, hka01_10, hka01_10, hka01_10, hka01_10, hka01_10, hka01_10, hka01_10, hka01_10, hka01_10, hka01_10, hka01_10, hka01_10, hka01_10, hka01_10, hka01_10, hka01_10, hka01_10, hka01_10, hka01_10, hka01_10, hka01_10, hka01_10, hka01_10, hka01_10, hka01_10, hka01_10, hka01_184, hka01_10, hka01_10, hka01_10, hka01_10, hka01_10, hka01_10, hka01_10, hka01_10, hka01_10, hka01_10, hka01_10, hka01_10, hka01_10, hka01_10, hka01_10, hka01_10, hka01_10, hka01_10, hka01_10, hka01_10, hka01_10, hka01_10, hka01_10, hka01_10, hka01_10, hka01_10, hka01_10, hka01_10, hka01_10, hka01_10, hka01_10, hka01_10, hka01_10, hka01_10, hka01_10, hka01_10, hka01_10, hka01_10, hka01_10, hka01_10, hka01_10]
def kan_249 : List ai_Nd := [(2, (hka01_181, [hka01_158, hka01_183], [], hka01_185), [.inl 1], [.inl 99997, .inl 1, .inr (true, .ofNat 2, 3), .inl 100000])]
set_option maxRecDepth 1000000 in
theorem kak_249 : ai_ck [] [] ka_249 [.inl 100000, .inl 0, .inl 0, .inl 0] kan_249 12 = true := by decide +kernel
theorem kah_249 : ai_holds ka_249 := ai_thm kak_249 ai_nil
def hka01_186 : ai_E := [hka01_156, hka01_2, hka01_39, hka01_35, hka01_36, hka01_0, hka01_0, hka01_0, hka01_37, hka01_38, hka01_39, hka01_1, hka01_2, hka01_1, hka01_0, hka01_1, hka01_3, hka01_1, hka01_0]
def hka01_187 : ai_C := .inr (.inr (7, [hka01_5, hka01_159, hka01_160, hka01_161, hka01_162, hka01_163, hka01_164, hka01_165, hka01_166, hka01_167, hka01_18, hka01_169, hka01_171, hka01_173]))
def hka01_188 : Bool × Option ai_C := (false, some hka01_187)
def hka01_189 : ai_N := (.ofNat 4, .ofNat 16, [(3, .ofNat 0, .ofNat 0)])
def hka01_190 : ai_V := .inl (false, hka01_189)
def hka01_191 : ai_N := (.ofNat 1, .ofNat 4, [(4, .ofNat 0, .ofNat 0)])
def hka01_192 : ai_V := .inl (false, hka01_191)
def hka01_193 : ai_N := (.negSucc 2147483647, .ofNat 2147483647, [(5, .ofNat 0, .ofNat 0)])
def hka01_194 : ai_V := .inl (false, hka01_193)
def hka01_195 : ai_N := (.negSucc 2147483647, .ofNat 2147483647, [(6, .ofNat 0, .ofNat 0)])
def hka01_196 : ai_V := .inl (false, hka01_195)
def hka01_197 : ai_N := (.negSucc 2147483647, .ofNat 2147483647, [(7, .ofNat 0, .ofNat 0)])
def hka01_198 : ai_V := .inl (false, hka01_197)
def hka01_199 : ai_N := (.ofNat 0, .ofNat 60, [(8, .ofNat 0, .ofNat 0)])
def hka01_200 : ai_V := .inl (false, hka01_199)
def hka01_201 : ai_N := (.ofNat 0, .ofNat 5, [(9, .ofNat 0, .ofNat 0)])
def hka01_202 : ai_V := .inl (false, hka01_201)
def hka01_203 : ai_N := (.ofNat 0, .ofNat 4, [(10, .ofNat 0, .ofNat 0)])
def hka01_204 : ai_V := .inl (false, hka01_203)
def hka01_205 : ai_C := .inr (.inr (6, [hka01_42, hka01_43, hka01_44, hka01_45, hka01_46, hka01_47, hka01_190, hka01_192, hka01_194, hka01_196, hka01_198, hka01_200, hka01_202, hka01_204]))
def hka01_206 : Bool × Option ai_C := (false, some hka01_205)
def hka01_207 : ai_N := (.ofNat 0, .ofNat 400, [(11, .ofNat 0, .ofNat 0)])
def hka01_208 : ai_V := .inl (false, hka01_207)
def hka01_209 : ai_N := (.ofNat 0, .ofNat 6, [(12, .ofNat 0, .ofNat 0)])
def hka01_210 : ai_V := .inl (false, hka01_209)
def hka01_211 : ai_N := (.ofNat 0, .ofNat 400, [(13, .ofNat 0, .ofNat 0)])
def hka01_212 : ai_V := .inl (false, hka01_211)
def hka01_213 : ai_N := (.negSucc 2147483647, .ofNat 2147483647, [(14, .ofNat 0, .ofNat 0)])
def hka01_214 : ai_V := .inl (false, hka01_213)
def hka01_215 : ai_N := (.ofNat 0, .ofNat 400, [(15, .ofNat 0, .ofNat 0)])
def hka01_216 : ai_V := .inl (false, hka01_215)
def hka01_217 : ai_N := (.ofNat 0, .ofNat 3, [(16, .ofNat 0, .ofNat 0)])
def hka01_218 : ai_V := .inl (false, hka01_217)
def hka01_219 : ai_N := (.ofNat 0, .ofNat 400, [(17, .ofNat 0, .ofNat 0)])
def hka01_220 : ai_V := .inl (false, hka01_219)
def hka01_221 : ai_N := (.negSucc 2147483647, .ofNat 2147483647, [(18, .ofNat 0, .ofNat 0)])
def hka01_222 : ai_V := .inl (false, hka01_221)
def hka01_223 : ai_C := .inr (.inr (5, [hka01_11, hka01_208, hka01_210, hka01_212, hka01_41, hka01_214, hka01_216, hka01_218, hka01_220, hka01_222]))
def hka01_224 : Bool × Option ai_C := (false, some hka01_223)
def hka01_225 : ai_W := [hka01_188, hka01_10, hka01_10, hka01_10, hka01_10, hka01_10, hka01_10, hka01_10, hka01_206, hka01_66, hka01_68, hka01_70, hka01_72, hka01_66, hka01_66, hka01_224, hka01_93, hka01_10, hka01_10, hka01_10, hka01_10, hka01_10, hka01_10, hka01_10, hka01_10, hka01_10, hka01_10, hka01_10, hka01_10, hka01_10, hka01_10, hka01_10, hka01_10, hka01_10, hka01_178, hka01_10, hka01_10, hka01_10, hka01_10, hka01_10, hka01_10, hka01_10, hka01_10, hka01_10, hka01_10, hka01_10, hka01_10, hka01_10, hka01_10, hka01_10, hka01_10, hka01_10, hka01_10, hka01_10, hka01_10, hka01_10, hka01_10, hka01_10, hka01_10, hka01_10, hka01_10, hka01_10, hka01_10, hka01_10, hka01_10, hka01_10, hka01_10, hka01_10, hka01_10, hka01_10, hka01_10, hka01_10, hka01_10, hka01_10, hka01_10, hka01_10]
def hka01_226 : ai_N := (.negSucc 409, .negSucc 9, [])
def hka01_227 : ai_V := .inl (false, hka01_226)
def hka01_228 : ai_C := .inr (.inr (7, [hka01_5, hka01_159, hka01_160, hka01_161, hka01_162, hka01_163, hka01_164, hka01_165, hka01_166, hka01_167, hka01_18, hka01_169, hka01_131, hka01_173]))
def hka01_229 : ai_C := .inr (.inr (5, [hka01_11, hka01_33, hka01_131, hka01_96, hka01_18, hka01_103, hka01_96, hka01_135, hka01_96, hka01_103]))
def hka01_230 : ai_C := .inr (.inr (7, [hka01_5, hka01_159, hka01_160, hka01_161, hka01_162, hka01_163, hka01_164, hka01_165, hka01_166, hka01_18, hka01_167, hka01_33, hka01_33, hka01_173]))
def hka01_231 : ai_C := .inr (.inr (5, [hka01_11, hka01_33, hka01_33, hka01_96, hka01_18, hka01_103, hka01_96, hka01_135, hka01_96, hka01_103]))
def hka01_232 : ai_C := .inr (.inr (5, [hka01_11, hka01_33, hka01_33, hka01_96, hka01_18, hka01_103, hka01_96, hka01_123, hka01_96, hka01_103]))
def hka01_233 : ai_N := (.negSucc 408, .negSucc 9, [])
def hka01_234 : ai_V := .inl (false, hka01_233)
def hka01_235 : ai_E := [hka01_156, hka01_2, hka01_39, hka01_35, hka01_36, hka01_0, hka01_0, hka01_0, hka01_37, hka01_38, hka01_39, hka01_97, hka01_2, hka01_1, hka01_0, hka01_1, hka01_3, hka01_1, hka01_0]
def hka01_236 : ai_C := .inr (.inr (7, [hka01_5, hka01_159, hka01_160, hka01_161, hka01_162, hka01_163, hka01_164, hka01_165, hka01_166, hka01_167, hka01_18, hka01_169, hka01_138, hka01_173]))
def hka01_237 : ai_C := .inr (.inr (5, [hka01_11, hka01_33, hka01_138, hka01_116, hka01_18, hka01_103, hka01_128, hka01_138, hka01_116, hka01_103]))
def hka01_238 : ai_C := .inr (.inr (7, [hka01_5, hka01_159, hka01_160, hka01_161, hka01_162, hka01_163, hka01_164, hka01_165, hka01_166, hka01_167, hka01_18, hka01_169, hka01_126, hka01_173]))
def hka01_239 : ai_C := .inr (.inr (5, [hka01_11, hka01_33, hka01_126, hka01_96, hka01_18, hka01_103, hka01_128, hka01_33, hka01_96, hka01_103]))
def hka01_240 : ai_C := .inr (.inr (7, [hka01_5, hka01_159, hka01_160, hka01_161, hka01_162, hka01_163, hka01_164, hka01_165, hka01_166, hka01_167, hka01_18, hka01_169, hka01_121, hka01_173]))
def hka01_241 : ai_C := .inr (.inr (5, [hka01_11, hka01_33, hka01_121, hka01_96, hka01_18, hka01_103, hka01_96, hka01_123, hka01_96, hka01_103]))
def hka01_242 : ai_C := .inr (.inr (7, [hka01_5, hka01_159, hka01_160, hka01_161, hka01_162, hka01_163, hka01_164, hka01_165, hka01_166, hka01_167, hka01_18, hka01_169, hka01_114, hka01_173]))
def hka01_243 : ai_C := .inr (.inr (5, [hka01_11, hka01_33, hka01_114, hka01_116, hka01_18, hka01_103, hka01_96, hka01_118, hka01_116, hka01_103]))
/-- NeverAgain.text -/
def ka_250 : ai_K := (7, 8, (hka01_186, [hka01_158, hka01_41, hka01_41], [], hka01_225), [.inr (0, 11), .inr (0, 12), .inr (0, 13), .inr (8, 6), .inr (8, 7), .inr (8, 8), .inr (8, 9), .inr (8, 10), .inr (8, 11), .inr (8, 12), .inr (8, 13), .inr (15, 1), .inr (15, 2), .inr (15, 3), .inr (15, 5), .inr (15, 6), .inr (15, 7), .inr (15, 8), .inr (15, 9)], [(some hka01_227, hka01_186, [(0, hka01_228), (8, hka01_110), (9, hka01_65), (10, hka01_67), (11, hka01_69), (12, hka01_71), (13, hka01_65), (14, hka01_65), (15, hka01_229)]), (some hka01_142, hka01_186, [(0, hka01_230), (8, hka01_110), (9, hka01_65), (10, hka01_67), (11, hka01_69), (12, hka01_71), (13, hka01_65), (14, hka01_65), (15, hka01_231), (34, hka01_177)]), (some hka01_96, hka01_186, [(0, hka01_230), (8, hka01_110), (9, hka01_65), (10, hka01_67), (11, hka01_69), (12, hka01_71), (13, hka01_65), (14, hka01_65), (15, hka01_232), (34, hka01_177)]), (some hka01_234, hka01_235, [(0, hka01_236), (8, hka01_110), (9, hka01_65), (10, hka01_67), (11, hka01_69), (12, hka01_71), (13, hka01_65), (14, hka01_65), (15, hka01_237)]), (some hka01_227, hka01_235, [(0, hka01_238), (8, hka01_110), (9, hka01_65), (10, hka01_67), (11, hka01_69), (12, hka01_71), (13, hka01_65), (14, hka01_65), (15, hka01_239)]), (some hka01_227, hka01_186, [(0, hka01_240), (8, hka01_110), (9, hka01_65), (10, hka01_67), (11, hka01_69), (12, hka01_71), (13, hka01_65), (14, hka01_65), (15, hka01_241)]), (some hka01_234, hka01_235, [(0, hka01_242), (8, hka01_110), (9, hka01_65), (10, hka01_67), (11, hka01_69), (12, hka01_71), (13, hka01_65), (14, hka01_65), (15, hka01_243)])])
def kan_250 : List ai_Nd := []
set_option maxRecDepth 1000000 in
theorem kak_250 : ai_ck [ka_249, ka_248] [] ka_250 [.inl 100000] kan_250 36 = true := by decide +kernel
theorem kah_250 : ai_holds ka_250 := ai_thm kak_250 (ai_cons kah_249 (ai_cons kah_248 ai_nil))
def hka01_244 : Int × Int := (.ofNat 0, .ofNat 16)
def hka01_245 : Int × Int := (.negSucc 3, .ofNat 3)
def hka01_246 : Int × Int := (.ofNat 0, .ofNat 130)
def hka01_247 : Int × Int := (.ofNat 0, .ofNat 20)
def hka01_248 : Int × Int := (.ofNat 0, .ofNat 1)
def hka01_249 : Int × Int := (.negSucc 3, .ofNat 2)
def hka01_250 : ai_E := [hka01_35, hka01_36, hka01_156, hka01_244, hka01_39, hka01_0, hka01_244, hka01_245, hka01_1, hka01_1, hka01_1, hka01_3, hka01_0, hka01_2, hka01_1, hka01_246, hka01_0, hka01_39, hka01_37, hka01_247, hka01_248, hka01_249, hka01_38, hka01_39]
def hka01_251 : ai_V := .inr (some (.ref 59))
def hka01_252 : ai_V := .inr (some (.ref 60))
def hka01_253 : ai_V := .inr (some (.ref 61))
def hka01_254 : ai_V := .inr (some (.ref 62))
def hka01_255 : ai_V := .inr (some (.ref 63))
def hka01_256 : ai_N := (.ofNat 0, .ofNat 12, [(2, .ofNat 0, .ofNat 0)])
def hka01_257 : ai_V := .inl (false, hka01_256)
def hka01_258 : ai_V := .inr (some (.ref 64))
def hka01_259 : ai_N := (.ofNat 0, .ofNat 16, [(3, .ofNat 0, .ofNat 0)])
def hka01_260 : ai_V := .inl (false, hka01_259)
def hka01_261 : ai_N := (.ofNat 0, .ofNat 4, [(4, .ofNat 0, .ofNat 0)])
def hka01_262 : ai_V := .inl (false, hka01_261)
def hka01_263 : ai_V := .inr (some (.ref 65))
def hka01_264 : ai_N := (.ofNat 0, .ofNat 16, [(6, .ofNat 0, .ofNat 0)])
def hka01_265 : ai_V := .inl (false, hka01_264)
def hka01_266 : ai_N := (.negSucc 3, .ofNat 3, [(7, .ofNat 0, .ofNat 0)])
def hka01_267 : ai_V := .inl (false, hka01_266)
def hka01_268 : ai_V := .inr (some (.ref 66))
def hka01_269 : ai_N := (.ofNat 0, .ofNat 400, [(9, .ofNat 0, .ofNat 0)])
def hka01_270 : ai_V := .inl (false, hka01_269)
def hka01_271 : ai_N := (.ofNat 0, .ofNat 3, [(11, .ofNat 0, .ofNat 0)])
def hka01_272 : ai_V := .inl (false, hka01_271)
def hka01_273 : ai_N := (.negSucc 2147483647, .ofNat 2147483647, [(12, .ofNat 0, .ofNat 0)])
def hka01_274 : ai_V := .inl (false, hka01_273)
def hka01_275 : ai_N := (.ofNat 0, .ofNat 6, [(13, .ofNat 0, .ofNat 0)])
def hka01_276 : ai_V := .inl (false, hka01_275)
def hka01_277 : ai_V := .inr (some (.ref 67))
def hka01_278 : ai_N := (.ofNat 0, .ofNat 130, [(15, .ofNat 0, .ofNat 0)])
def hka01_279 : ai_V := .inl (false, hka01_278)
def hka01_280 : ai_V := .inr (some (.ref 68))
def hka01_281 : ai_V := .inr (some (.ref 69))
def hka01_282 : ai_N := (.negSucc 2147483647, .ofNat 2147483647, [(16, .ofNat 0, .ofNat 0)])
def hka01_283 : ai_V := .inl (false, hka01_282)
def hka01_284 : ai_V := .inr (some (.ref 70))
def hka01_285 : ai_V := .inr (some (.ref 71))
def hka01_286 : ai_V := .inr (some (.ref 72))
def hka01_287 : ai_V := .inr (some (.ref 73))
def hka01_288 : ai_V := .inr (some (.ref 74))
def hka01_289 : ai_V := .inr (some (.ref 75))
def hka01_290 : ai_N := (.ofNat 0, .ofNat 4, [(17, .ofNat 0, .ofNat 0)])
def hka01_291 : ai_V := .inl (false, hka01_290)
def hka01_292 : ai_C := .inr (.inr (8, [hka01_252, hka01_253, hka01_49, hka01_51, hka01_254, hka01_255, hka01_257, hka01_258, hka01_260, hka01_262, hka01_263, hka01_194, hka01_265, hka01_267, hka01_268, hka01_74, hka01_270, hka01_78, hka01_272, hka01_274, hka01_276, hka01_86, hka01_277, hka01_279, hka01_280, hka01_281, hka01_283, hka01_284, hka01_285, hka01_286, hka01_287, hka01_288, hka01_289, hka01_291]))
def hka01_293 : Bool × Option ai_C := (false, some hka01_292)
def hka01_294 : ai_N := (.ofNat 0, .ofNat 60, [(18, .ofNat 0, .ofNat 0)])
def hka01_295 : ai_N := (.ofNat 0, .ofNat 16, [])
def hka01_296 : ai_N := (.negSucc 3, .ofNat 3, [])
def hka01_297 : ai_N := (.ofNat 0, .ofNat 20, [(19, .ofNat 0, .ofNat 0)])
def hka01_298 : ai_N := (.ofNat 0, .ofNat 1, [(20, .ofNat 0, .ofNat 0)])
def hka01_299 : ai_N := (.negSucc 3, .ofNat 2, [(21, .ofNat 0, .ofNat 0)])
def hka01_300 : ai_N := (.ofNat 0, .ofNat 5, [(22, .ofNat 0, .ofNat 0)])
def hka01_301 : ai_N := (.ofNat 0, .ofNat 4, [(23, .ofNat 0, .ofNat 0)])
def hka01_302 : ai_C := .inl (.int, [(1, hka01_294), (60, hka01_295), (17, hka01_296), (1, hka01_297), (1, hka01_298), (1, hka01_299), (1, hka01_300), (5, hka01_134), (1, hka01_301), (8, hka01_108)])
def hka01_303 : Bool × Option ai_C := (false, some hka01_302)
def hka01_304 : ai_N := (.ofNat 1, .ofNat 9, [])
def hka01_305 : ai_C := .inl (.int, [(4, hka01_304)])
def hka01_306 : Bool × Option ai_C := (false, some hka01_305)
def hka01_307 : ai_W := [hka01_10, hka01_10, hka01_10, hka01_10, hka01_10, hka01_10, hka01_10, hka01_10, hka01_10, hka01_10, hka01_10, hka01_10, hka01_10, hka01_10, hka01_10, hka01_10, hka01_10, hka01_10, hka01_10, hka01_10, hka01_10, hka01_10, hka01_10, hka01_10, hka01_10, hka01_10, hka01_10, hka01_10, hka01_10, hka01_10, hka01_10, hka01_10, hka01_10, hka01_10, hka01_10, hka01_10, hka01_10, hka01_10, hka01_10, hka01_10, hka01_10, hka01_10, hka01_10, hka01_10, hka01_10, hka01_10, hka01_10, hka01_10, hka01_10, hka01_10, hka01_10, hka01_10, hka01_10, hka01_10, hka01_10, hka01_10, hka01_10, hka01_10, hka01_10, hka01_293, hka01_10, hka01_10, hka01_10, hka01_10, hka01_303, hka01_306, hka01_10, hka01_10, hka01_10, hka01_10, hka01_10, hka01_10, hka01_10, hka01_10, hka01_10, hka01_10]
def hka01_308 : ai_N := (.ofNat 12, .ofNat 12, [])
def hka01_309 : ai_V := .inl (false, hka01_308)
def hka01_310 : ai_N := (.negSucc 3, .negSucc 3, [])
def hka01_311 : ai_V := .inl (false, hka01_310)
def hka01_312 : ai_C := .inr (.inr (8, [hka01_252, hka01_253, hka01_49, hka01_51, hka01_254, hka01_255, hka01_257, hka01_258, hka01_309, hka01_138, hka01_263, hka01_33, hka01_33, hka01_311, hka01_268, hka01_74, hka01_270, hka01_78, hka01_272, hka01_274, hka01_276, hka01_86, hka01_277, hka01_279, hka01_280, hka01_281, hka01_283, hka01_284, hka01_285, hka01_286, hka01_287, hka01_288, hka01_289, hka01_291]))
def hka01_313 : ai_N := (.ofNat 0, .ofNat 20, [])
def hka01_314 : ai_N := (.negSucc 3, .ofNat 2, [])
def hka01_315 : ai_C := .inl (.int, [(1, hka01_32), (60, hka01_295), (17, hka01_296), (1, hka01_313), (1, hka01_176), (1, hka01_314), (1, hka01_106), (5, hka01_134), (1, hka01_108), (8, hka01_108)])
/-- NeverAgainModel.firstDraft -/
def ka_251 : ai_K := (90, 0, (hka01_250, [hka01_251, hka01_41], [], hka01_307), [.inr (59, 2), .inr (59, 3), .inr (59, 6), .inr (59, 8), .inr (59, 9), .inr (59, 11), .inr (59, 12), .inr (59, 13), .inr (59, 15), .inr (59, 16), .inr (59, 17), .inr (59, 18), .inr (59, 19), .inr (59, 20), .inr (59, 21), .inr (59, 23), .inr (59, 26), .inr (59, 33), .inr (64, 0), .inr (64, 78), .inr (64, 79), .inr (64, 80), .inr (64, 81), .inr (64, 87)], [(none, hka01_250, [(59, hka01_312), (64, hka01_315), (65, hka01_305)])])
def hka01_316 : Int × Int := (.ofNat 0, .ofNat 0)
def hka01_317 : ai_E := [hka01_35, hka01_36, hka01_156, hka01_244, hka01_39, hka01_0, hka01_244, hka01_245, hka01_1, hka01_1, hka01_1, hka01_3, hka01_0, hka01_2, hka01_1, hka01_246, hka01_0, hka01_39, hka01_37, hka01_247, hka01_248, hka01_249, hka01_38, hka01_39, hka01_316]
def hka01_318 : ai_N := (.ofNat 0, .ofNat 0, [(24, .ofNat 0, .ofNat 0)])
def hka01_319 : ai_V := .inl (false, hka01_318)
def hka01_320 : Int × Int := (.ofNat 1, .ofNat 60)
def hka01_321 : ai_E := [hka01_35, hka01_36, hka01_156, hka01_244, hka01_39, hka01_0, hka01_244, hka01_245, hka01_1, hka01_1, hka01_1, hka01_3, hka01_0, hka01_2, hka01_1, hka01_246, hka01_0, hka01_39, hka01_37, hka01_247, hka01_248, hka01_249, hka01_38, hka01_39, hka01_320]
def hka01_322 : ai_N := (.ofNat 1, .ofNat 60, [(24, .ofNat 0, .ofNat 0)])
def hka01_323 : ai_V := .inl (false, hka01_322)
def hka01_324 : ai_C := .inl (.int, [(1, hka01_32), (60, hka01_295), (17, hka01_296), (1, hka01_297), (1, hka01_298), (1, hka01_299), (1, hka01_300), (5, hka01_134), (1, hka01_301), (8, hka01_108)])
def hka01_325 : Bool × Option ai_C := (true, some hka01_324)
def hka01_326 : ai_W := [hka01_10, hka01_10, hka01_10, hka01_10, hka01_10, hka01_10, hka01_10, hka01_10, hka01_10, hka01_10, hka01_10, hka01_10, hka01_10, hka01_10, hka01_10, hka01_10, hka01_10, hka01_10, hka01_10, hka01_10, hka01_10, hka01_10, hka01_10, hka01_10, hka01_10, hka01_10, hka01_10, hka01_10, hka01_10, hka01_10, hka01_10, hka01_10, hka01_10, hka01_10, hka01_10, hka01_10, hka01_10, hka01_10, hka01_10, hka01_10, hka01_10, hka01_10, hka01_10, hka01_10, hka01_10, hka01_10, hka01_10, hka01_10, hka01_10, hka01_10, hka01_10, hka01_10, hka01_10, hka01_10, hka01_10, hka01_10, hka01_10, hka01_10, hka01_10, hka01_293, hka01_10, hka01_10, hka01_10, hka01_10, hka01_325, hka01_306, hka01_10, hka01_10, hka01_10, hka01_10, hka01_10, hka01_10, hka01_10, hka01_10, hka01_10, hka01_10]
def hka01_327 : Int × Int := (.ofNat 61, .ofNat 77)
def hka01_328 : ai_E := [hka01_35, hka01_36, hka01_156, hka01_244, hka01_39, hka01_0, hka01_244, hka01_245, hka01_1, hka01_1, hka01_1, hka01_3, hka01_0, hka01_2, hka01_1, hka01_246, hka01_0, hka01_39, hka01_37, hka01_247, hka01_248, hka01_249, hka01_38, hka01_39, hka01_327]
def hka01_329 : ai_N := (.ofNat 61, .ofNat 77, [(24, .ofNat 0, .ofNat 0)])
def hka01_330 : ai_V := .inl (false, hka01_329)
def hka01_331 : Bool × Option ai_C := (true, some hka01_315)
def hka01_332 : ai_W := [hka01_10, hka01_10, hka01_10, hka01_10, hka01_10, hka01_10, hka01_10, hka01_10, hka01_10, hka01_10, hka01_10, hka01_10, hka01_10, hka01_10, hka01_10, hka01_10, hka01_10, hka01_10, hka01_10, hka01_10, hka01_10, hka01_10, hka01_10, hka01_10, hka01_10, hka01_10, hka01_10, hka01_10, hka01_10, hka01_10, hka01_10, hka01_10, hka01_10, hka01_10, hka01_10, hka01_10, hka01_10, hka01_10, hka01_10, hka01_10, hka01_10, hka01_10, hka01_10, hka01_10, hka01_10, hka01_10, hka01_10, hka01_10, hka01_10, hka01_10, hka01_10, hka01_10, hka01_10, hka01_10, hka01_10, hka01_10, hka01_10, hka01_10, hka01_10, hka01_293, hka01_10, hka01_10, hka01_10, hka01_10, hka01_331, hka01_306, hka01_10, hka01_10, hka01_10, hka01_10, hka01_10, hka01_10, hka01_10, hka01_10, hka01_10, hka01_10]
def hka01_333 : Int × Int := (.ofNat 88, .ofNat 95)
def hka01_334 : ai_E := [hka01_35, hka01_36, hka01_156, hka01_244, hka01_39, hka01_0, hka01_244, hka01_245, hka01_1, hka01_1, hka01_1, hka01_3, hka01_0, hka01_2, hka01_1, hka01_246, hka01_0, hka01_39, hka01_37, hka01_247, hka01_248, hka01_249, hka01_38, hka01_39, hka01_333]
def hka01_335 : ai_N := (.ofNat 88, .ofNat 95, [(24, .ofNat 0, .ofNat 0)])
def hka01_336 : ai_V := .inl (false, hka01_335)
def hka01_337 : Int × Int := (.ofNat 96, .ofNat 96)
def hka01_338 : ai_E := [hka01_35, hka01_36, hka01_156, hka01_244, hka01_39, hka01_0, hka01_244, hka01_245, hka01_1, hka01_1, hka01_1, hka01_3, hka01_0, hka01_2, hka01_1, hka01_246, hka01_0, hka01_39, hka01_37, hka01_247, hka01_248, hka01_249, hka01_38, hka01_39, hka01_337]
def hka01_339 : ai_N := (.ofNat 96, .ofNat 96, [(24, .ofNat 0, .ofNat 0)])
def hka01_340 : ai_V := .inl (false, hka01_339)
def hka01_341 : Int × Int := (.ofNat 82, .ofNat 86)
def hka01_342 : ai_E := [hka01_35, hka01_36, hka01_156, hka01_244, hka01_39, hka01_0, hka01_244, hka01_245, hka01_1, hka01_1, hka01_1, hka01_3, hka01_0, hka01_2, hka01_1, hka01_246, hka01_0, hka01_39, hka01_37, hka01_247, hka01_248, hka01_249, hka01_38, hka01_39, hka01_341]
def hka01_343 : ai_N := (.ofNat 82, .ofNat 86, [(24, .ofNat 0, .ofNat 0)])
def hka01_344 : ai_V := .inl (false, hka01_343)
def hka01_345 : ai_C := .inl (.int, [(1, hka01_32), (60, hka01_295), (17, hka01_296), (1, hka01_313), (1, hka01_176), (1, hka01_314), (1, hka01_106), (5, hka01_134), (1, hka01_301), (8, hka01_108)])
def hka01_346 : Bool × Option ai_C := (true, some hka01_345)
def hka01_347 : ai_W := [hka01_10, hka01_10, hka01_10, hka01_10, hka01_10, hka01_10, hka01_10, hka01_10, hka01_10, hka01_10, hka01_10, hka01_10, hka01_10, hka01_10, hka01_10, hka01_10, hka01_10, hka01_10, hka01_10, hka01_10, hka01_10, hka01_10, hka01_10, hka01_10, hka01_10, hka01_10, hka01_10, hka01_10, hka01_10, hka01_10, hka01_10, hka01_10, hka01_10, hka01_10, hka01_10, hka01_10, hka01_10, hka01_10, hka01_10, hka01_10, hka01_10, hka01_10, hka01_10, hka01_10, hka01_10, hka01_10, hka01_10, hka01_10, hka01_10, hka01_10, hka01_10, hka01_10, hka01_10, hka01_10, hka01_10, hka01_10, hka01_10, hka01_10, hka01_10, hka01_293, hka01_10, hka01_10, hka01_10, hka01_10, hka01_346, hka01_306, hka01_10, hka01_10, hka01_10, hka01_10, hka01_10, hka01_10, hka01_10, hka01_10, hka01_10, hka01_10]
def hka01_348 : Int × Int := (.ofNat 87, .ofNat 87)
def hka01_349 : ai_E := [hka01_35, hka01_36, hka01_156, hka01_244, hka01_39, hka01_0, hka01_244, hka01_245, hka01_1, hka01_1, hka01_1, hka01_3, hka01_0, hka01_2, hka01_1, hka01_246, hka01_0, hka01_39, hka01_37, hka01_247, hka01_248, hka01_249, hka01_38, hka01_39, hka01_348]
def hka01_350 : ai_N := (.ofNat 87, .ofNat 87, [(24, .ofNat 0, .ofNat 0)])
def hka01_351 : ai_V := .inl (false, hka01_350)
def hka01_352 : Int × Int := (.ofNat 81, .ofNat 81)
def hka01_353 : ai_E := [hka01_35, hka01_36, hka01_156, hka01_244, hka01_39, hka01_0, hka01_244, hka01_245, hka01_1, hka01_1, hka01_1, hka01_3, hka01_0, hka01_2, hka01_1, hka01_246, hka01_0, hka01_39, hka01_37, hka01_247, hka01_248, hka01_249, hka01_38, hka01_39, hka01_352]
def hka01_354 : ai_N := (.ofNat 81, .ofNat 81, [(24, .ofNat 0, .ofNat 0)])
def hka01_355 : ai_V := .inl (false, hka01_354)
def hka01_356 : ai_C := .inl (.int, [(1, hka01_32), (60, hka01_295), (17, hka01_296), (1, hka01_32), (1, hka01_32), (1, hka01_32), (1, hka01_300), (5, hka01_134), (1, hka01_301), (8, hka01_108)])
def hka01_357 : Bool × Option ai_C := (true, some hka01_356)
def hka01_358 : ai_W := [hka01_10, hka01_10, hka01_10, hka01_10, hka01_10, hka01_10, hka01_10, hka01_10, hka01_10, hka01_10, hka01_10, hka01_10, hka01_10, hka01_10, hka01_10, hka01_10, hka01_10, hka01_10, hka01_10, hka01_10, hka01_10, hka01_10, hka01_10, hka01_10, hka01_10, hka01_10, hka01_10, hka01_10, hka01_10, hka01_10, hka01_10, hka01_10, hka01_10, hka01_10, hka01_10, hka01_10, hka01_10, hka01_10, hka01_10, hka01_10, hka01_10, hka01_10, hka01_10, hka01_10, hka01_10, hka01_10, hka01_10, hka01_10, hka01_10, hka01_10, hka01_10, hka01_10, hka01_10, hka01_10, hka01_10, hka01_10, hka01_10, hka01_10, hka01_10, hka01_293, hka01_10, hka01_10, hka01_10, hka01_10, hka01_357, hka01_306, hka01_10, hka01_10, hka01_10, hka01_10, hka01_10, hka01_10, hka01_10, hka01_10, hka01_10, hka01_10]
def hka01_359 : Int × Int := (.ofNat 80, .ofNat 80)
def hka01_360 : ai_E := [hka01_35, hka01_36, hka01_156, hka01_244, hka01_39, hka01_0, hka01_244, hka01_245, hka01_1, hka01_1, hka01_1, hka01_3, hka01_0, hka01_2, hka01_1, hka01_246, hka01_0, hka01_39, hka01_37, hka01_247, hka01_248, hka01_249, hka01_38, hka01_39, hka01_359]
def hka01_361 : ai_N := (.ofNat 80, .ofNat 80, [(24, .ofNat 0, .ofNat 0)])
def hka01_362 : ai_V := .inl (false, hka01_361)
def hka01_363 : ai_C := .inl (.int, [(1, hka01_32), (60, hka01_295), (17, hka01_296), (1, hka01_32), (1, hka01_32), (1, hka01_299), (1, hka01_300), (5, hka01_134), (1, hka01_301), (8, hka01_108)])
def hka01_364 : Bool × Option ai_C := (true, some hka01_363)
def hka01_365 : ai_W := [hka01_10, hka01_10, hka01_10, hka01_10, hka01_10, hka01_10, hka01_10, hka01_10, hka01_10, hka01_10, hka01_10, hka01_10, hka01_10, hka01_10, hka01_10, hka01_10, hka01_10, hka01_10, hka01_10, hka01_10, hka01_10, hka01_10, hka01_10, hka01_10, hka01_10, hka01_10, hka01_10, hka01_10, hka01_10, hka01_10, hka01_10, hka01_10, hka01_10, hka01_10, hka01_10, hka01_10, hka01_10, hka01_10, hka01_10, hka01_10, hka01_10, hka01_10, hka01_10, hka01_10, hka01_10, hka01_10, hka01_10, hka01_10, hka01_10, hka01_10, hka01_10, hka01_10, hka01_10, hka01_10, hka01_10, hka01_10, hka01_10, hka01_10, hka01_10, hka01_293, hka01_10, hka01_10, hka01_10, hka01_10, hka01_364, hka01_306, hka01_10, hka01_10, hka01_10, hka01_10, hka01_10, hka01_10, hka01_10, hka01_10, hka01_10, hka01_10]
def hka01_366 : Int × Int := (.ofNat 79, .ofNat 79)
def hka01_367 : ai_E := [hka01_35, hka01_36, hka01_156, hka01_244, hka01_39, hka01_0, hka01_244, hka01_245, hka01_1, hka01_1, hka01_1, hka01_3, hka01_0, hka01_2, hka01_1, hka01_246, hka01_0, hka01_39, hka01_37, hka01_247, hka01_248, hka01_249, hka01_38, hka01_39, hka01_366]
def hka01_368 : ai_N := (.ofNat 79, .ofNat 79, [(24, .ofNat 0, .ofNat 0)])
def hka01_369 : ai_V := .inl (false, hka01_368)
def hka01_370 : ai_C := .inl (.int, [(1, hka01_32), (60, hka01_295), (17, hka01_296), (1, hka01_32), (1, hka01_298), (1, hka01_299), (1, hka01_300), (5, hka01_134), (1, hka01_301), (8, hka01_108)])
def hka01_371 : Bool × Option ai_C := (true, some hka01_370)
def hka01_372 : ai_W := [hka01_10, hka01_10, hka01_10, hka01_10, hka01_10, hka01_10, hka01_10, hka01_10, hka01_10, hka01_10, hka01_10, hka01_10, hka01_10, hka01_10, hka01_10, hka01_10, hka01_10, hka01_10, hka01_10, hka01_10, hka01_10, hka01_10, hka01_10, hka01_10, hka01_10, hka01_10, hka01_10, hka01_10, hka01_10, hka01_10, hka01_10, hka01_10, hka01_10, hka01_10, hka01_10, hka01_10, hka01_10, hka01_10, hka01_10, hka01_10, hka01_10, hka01_10, hka01_10, hka01_10, hka01_10, hka01_10, hka01_10, hka01_10, hka01_10, hka01_10, hka01_10, hka01_10, hka01_10, hka01_10, hka01_10, hka01_10, hka01_10, hka01_10, hka01_10, hka01_293, hka01_10, hka01_10, hka01_10, hka01_10, hka01_371, hka01_306, hka01_10, hka01_10, hka01_10, hka01_10, hka01_10, hka01_10, hka01_10, hka01_10, hka01_10, hka01_10]
def hka01_373 : Int × Int := (.ofNat 78, .ofNat 78)
def hka01_374 : ai_E := [hka01_35, hka01_36, hka01_156, hka01_244, hka01_39, hka01_0, hka01_244, hka01_245, hka01_1, hka01_1, hka01_1, hka01_3, hka01_0, hka01_2, hka01_1, hka01_246, hka01_0, hka01_39, hka01_37, hka01_247, hka01_248, hka01_249, hka01_38, hka01_39, hka01_373]
def hka01_375 : ai_N := (.ofNat 78, .ofNat 78, [(24, .ofNat 0, .ofNat 0)])
def hka01_376 : ai_V := .inl (false, hka01_375)
def hka01_377 : ai_E := [hka01_35, hka01_36, hka01_156, hka01_244, hka01_39, hka01_0, hka01_244, hka01_245, hka01_1, hka01_1, hka01_1, hka01_3, hka01_0, hka01_2, hka01_1, hka01_246, hka01_0, hka01_39, hka01_37, hka01_247, hka01_248, hka01_249, hka01_38, hka01_39, hka01_36]
def hka01_378 : ai_N := (.ofNat 1, .ofNat 4, [(24, .ofNat 0, .ofNat 0)])
def hka01_379 : ai_V := .inl (false, hka01_378)
def hka01_380 : Bool × Option ai_C := (true, some hka01_305)
def hka01_381 : ai_W := [hka01_10, hka01_10, hka01_10, hka01_10, hka01_10, hka01_10, hka01_10, hka01_10, hka01_10, hka01_10, hka01_10, hka01_10, hka01_10, hka01_10, hka01_10, hka01_10, hka01_10, hka01_10, hka01_10, hka01_10, hka01_10, hka01_10, hka01_10, hka01_10, hka01_10, hka01_10, hka01_10, hka01_10, hka01_10, hka01_10, hka01_10, hka01_10, hka01_10, hka01_10, hka01_10, hka01_10, hka01_10, hka01_10, hka01_10, hka01_10, hka01_10, hka01_10, hka01_10, hka01_10, hka01_10, hka01_10, hka01_10, hka01_10, hka01_10, hka01_10, hka01_10, hka01_10, hka01_10, hka01_10, hka01_10, hka01_10, hka01_10, hka01_10, hka01_10, hka01_293, hka01_10, hka01_10, hka01_10, hka01_10, hka01_331, hka01_380, hka01_10, hka01_10, hka01_10, hka01_10, hka01_10, hka01_10, hka01_10, hka01_10, hka01_10, hka01_10]
def kan_251 : List ai_Nd := [(2, (hka01_317, [hka01_251, hka01_319], [], hka01_307), [.inl 1], [.inl 99997, .inl 11, .inr (true, .ofNat 96, 24), .inl 100000]), (2, (hka01_321, [hka01_251, hka01_323], [], hka01_326), [.inl 1], [.inl 99997, .inl 10, .inr (true, .ofNat 96, 24), .inl 100000]), (2, (hka01_328, [hka01_251, hka01_330], [], hka01_326), [.inl 1], [.inl 99997, .inl 9, .inr (true, .ofNat 96, 24), .inl 100000]), (40, (hka01_317, [hka01_251, hka01_319], [], hka01_332), [.inl 1], [.inl 99959, .inl 2, .inr (true, .ofNat 4, 24), .inl 100000]), (2, (hka01_334, [hka01_251, hka01_336], [], hka01_332), [.inl 1], [.inl 99997, .inl 2, .inr (true, .ofNat 96, 24), .inl 100000]), (2, (hka01_338, [hka01_251, hka01_340], [], hka01_332), [.inl 1], [.inl 99997, .inl 1, .inr (true, .ofNat 96, 24), .inl 100000]), (2, (hka01_342, [hka01_251, hka01_344], [], hka01_347), [.inl 1], [.inl 99997, .inl 4, .inr (true, .ofNat 96, 24), .inl 100000]), (2, (hka01_349, [hka01_251, hka01_351], [], hka01_347), [.inl 1], [.inl 99997, .inl 3, .inr (true, .ofNat 96, 24), .inl 100000]), (2, (hka01_353, [hka01_251, hka01_355], [], hka01_358), [.inl 1], [.inl 99997, .inl 5, .inr (true, .ofNat 96, 24), .inl 100000]), (2, (hka01_360, [hka01_251, hka01_362], [], hka01_365), [.inl 1], [.inl 99997, .inl 6, .inr (true, .ofNat 96, 24), .inl 100000]), (2, (hka01_367, [hka01_251, hka01_369], [], hka01_372), [.inl 1], [.inl 99997, .inl 7, .inr (true, .ofNat 96, 24), .inl 100000]), (2, (hka01_374, [hka01_251, hka01_376], [], hka01_326), [.inl 1], [.inl 99997, .inl 8, .inr (true, .ofNat 96, 24), .inl 100000]), (40, (hka01_377, [hka01_251, hka01_379], [], hka01_381), [.inl 1], [.inl 99959, .inl 1, .inr (true, .ofNat 4, 24), .inl 100000])]
set_option maxRecDepth 1000000 in
theorem kak_251 : ai_ck [] [(2, .inl 1, [.ofNat 1, .ofNat 61, .ofNat 78, .ofNat 79, .ofNat 80, .ofNat 81, .ofNat 82, .ofNat 87, .ofNat 88, .ofNat 96])] ka_251 [.inl 100000, .inl 0, .inl 0, .inl 0] kan_251 20 = true := by decide +kernel
theorem kah_251 : ai_holds ka_251 := ai_thm kak_251 ai_nil
def hka01_382 : ai_E := [hka01_1, hka01_35, hka01_36, hka01_156, hka01_244, hka01_39, hka01_0, hka01_244, hka01_245, hka01_1, hka01_1, hka01_1, hka01_3, hka01_0, hka01_2, hka01_1, hka01_246, hka01_0, hka01_39]
def hka01_383 : ai_N := (.ofNat 0, .ofNat 400, [(0, .ofNat 0, .ofNat 0)])
def hka01_384 : ai_V := .inl (false, hka01_383)
def hka01_385 : ai_N := (.ofNat 4, .ofNat 16, [(1, .ofNat 0, .ofNat 0)])
def hka01_386 : ai_V := .inl (false, hka01_385)
def hka01_387 : ai_N := (.ofNat 1, .ofNat 4, [(2, .ofNat 0, .ofNat 0)])
def hka01_388 : ai_V := .inl (false, hka01_387)
def hka01_389 : ai_N := (.ofNat 0, .ofNat 12, [(3, .ofNat 0, .ofNat 0)])
def hka01_390 : ai_V := .inl (false, hka01_389)
def hka01_391 : ai_N := (.ofNat 0, .ofNat 16, [(4, .ofNat 0, .ofNat 0)])
def hka01_392 : ai_V := .inl (false, hka01_391)
def hka01_393 : ai_N := (.ofNat 0, .ofNat 4, [(5, .ofNat 0, .ofNat 0)])
def hka01_394 : ai_V := .inl (false, hka01_393)
def hka01_395 : ai_N := (.ofNat 0, .ofNat 16, [(7, .ofNat 0, .ofNat 0)])
def hka01_396 : ai_V := .inl (false, hka01_395)
def hka01_397 : ai_N := (.negSucc 3, .ofNat 3, [(8, .ofNat 0, .ofNat 0)])
def hka01_398 : ai_V := .inl (false, hka01_397)
def hka01_399 : ai_N := (.ofNat 0, .ofNat 3, [(12, .ofNat 0, .ofNat 0)])
def hka01_400 : ai_V := .inl (false, hka01_399)
def hka01_401 : ai_N := (.negSucc 2147483647, .ofNat 2147483647, [(13, .ofNat 0, .ofNat 0)])
def hka01_402 : ai_V := .inl (false, hka01_401)
def hka01_403 : ai_N := (.ofNat 0, .ofNat 6, [(14, .ofNat 0, .ofNat 0)])
def hka01_404 : ai_V := .inl (false, hka01_403)
def hka01_405 : ai_N := (.ofNat 0, .ofNat 130, [(16, .ofNat 0, .ofNat 0)])
def hka01_406 : ai_V := .inl (false, hka01_405)
def hka01_407 : ai_N := (.negSucc 2147483647, .ofNat 2147483647, [(17, .ofNat 0, .ofNat 0)])
def hka01_408 : ai_V := .inl (false, hka01_407)
def hka01_409 : ai_N := (.ofNat 0, .ofNat 4, [(18, .ofNat 0, .ofNat 0)])
def hka01_410 : ai_V := .inl (false, hka01_409)
def hka01_411 : ai_C := .inr (.inr (8, [hka01_252, hka01_253, hka01_386, hka01_388, hka01_254, hka01_255, hka01_390, hka01_258, hka01_392, hka01_394, hka01_263, hka01_196, hka01_396, hka01_398, hka01_268, hka01_270, hka01_78, hka01_208, hka01_400, hka01_402, hka01_404, hka01_216, hka01_277, hka01_406, hka01_280, hka01_281, hka01_408, hka01_284, hka01_285, hka01_286, hka01_287, hka01_288, hka01_289, hka01_410]))
def hka01_412 : Bool × Option ai_C := (false, some hka01_411)
def hka01_413 : ai_N := (.ofNat 0, .ofNat 255, [])
def hka01_414 : ai_C := .inl (.int, [(400, hka01_413)])
def hka01_415 : Bool × Option ai_C := (false, some hka01_414)
def hka01_416 : ai_W := [hka01_10, hka01_10, hka01_10, hka01_10, hka01_10, hka01_10, hka01_10, hka01_10, hka01_10, hka01_10, hka01_10, hka01_10, hka01_10, hka01_10, hka01_10, hka01_10, hka01_10, hka01_10, hka01_10, hka01_10, hka01_10, hka01_10, hka01_10, hka01_10, hka01_10, hka01_10, hka01_10, hka01_10, hka01_10, hka01_10, hka01_10, hka01_10, hka01_10, hka01_10, hka01_10, hka01_10, hka01_10, hka01_10, hka01_10, hka01_10, hka01_10, hka01_10, hka01_10, hka01_10, hka01_10, hka01_10, hka01_10, hka01_10, hka01_10, hka01_10, hka01_10, hka01_10, hka01_10, hka01_10, hka01_10, hka01_10, hka01_10, hka01_10, hka01_10, hka01_412, hka01_10, hka01_10, hka01_10, hka01_10, hka01_10, hka01_10, hka01_415, hka01_10, hka01_10, hka01_10, hka01_10, hka01_10, hka01_10, hka01_10, hka01_10, hka01_10]
def hka01_417 : ai_V := .inl (false, hka01_413)
def hka01_418 : Int × Int := (.ofNat 0, .ofNat 399)
def hka01_419 : ai_E := [hka01_418, hka01_35, hka01_36, hka01_156, hka01_244, hka01_39, hka01_0, hka01_244, hka01_245, hka01_97, hka01_1, hka01_1, hka01_3, hka01_0, hka01_2, hka01_1, hka01_246, hka01_0, hka01_39]
def hka01_420 : ai_N := (.negSucc 0, .negSucc 0, [])
def hka01_421 : ai_V := .inl (false, hka01_420)
/-- NeverAgainModel.look -/
def ka_252 : ai_K := (159, 0, (hka01_382, [hka01_251, hka01_384], [], hka01_416), [.inl 1, .inr (59, 2), .inr (59, 3), .inr (59, 6), .inr (59, 8), .inr (59, 9), .inr (59, 11), .inr (59, 12), .inr (59, 13), .inr (59, 15), .inr (59, 16), .inr (59, 17), .inr (59, 18), .inr (59, 19), .inr (59, 20), .inr (59, 21), .inr (59, 23), .inr (59, 26), .inr (59, 33)], [(some hka01_417, hka01_419, []), (some hka01_421, hka01_382, [])])
def kan_252 : List ai_Nd := []
set_option maxRecDepth 1000000 in
theorem kak_252 : ai_ck [] [] ka_252 [.inl 100000] kan_252 11 = true := by decide +kernel
theorem kah_252 : ai_holds ka_252 := ai_thm kak_252 ai_nil
def hka01_422 : Int × Int := (.ofNat 0, .ofNat 255)
def hka01_423 : ai_N := (.ofNat 0, .ofNat 255, [(0, .ofNat 0, .ofNat 0)])
def hka01_424 : ai_V := .inl (true, hka01_423)
def hka01_425 : ai_N := (.ofNat 97, .ofNat 97, [])
def hka01_426 : ai_V := .inl (true, hka01_425)
def hka01_427 : ai_N := (.ofNat 122, .ofNat 122, [])
def hka01_428 : ai_V := .inl (true, hka01_427)
def hka01_429 : ai_W := [hka01_10, hka01_10, hka01_10, hka01_10, hka01_10, hka01_10, hka01_10, hka01_10, hka01_10, hka01_10, hka01_10, hka01_10, hka01_10, hka01_10, hka01_10, hka01_10, hka01_10, hka01_10, hka01_10, hka01_10, hka01_10, hka01_10, hka01_10, hka01_10, hka01_10, hka01_10, hka01_10, hka01_10, hka01_10, hka01_10, hka01_10, hka01_10, hka01_10, hka01_10, hka01_10, hka01_10, hka01_10, hka01_10, hka01_10, hka01_10, hka01_10, hka01_10, hka01_10, hka01_10, hka01_10, hka01_10, hka01_10, hka01_10, hka01_10, hka01_10, hka01_10, hka01_10, hka01_10, hka01_10, hka01_10, hka01_10, hka01_10, hka01_10, hka01_10, hka01_10, hka01_10, hka01_10, hka01_10, hka01_10, hka01_10, hka01_10, hka01_10, hka01_10, hka01_10, hka01_10, hka01_10, hka01_10, hka01_10, hka01_10, hka01_10, hka01_10]
def hka01_430 : Int × Int := (.ofNat 123, .ofNat 255)
def hka01_431 : Int × Int := (.ofNat 122, .ofNat 122)
def hka01_432 : Int × Int := (.ofNat 98, .ofNat 121)
def hka01_433 : Int × Int := (.ofNat 97, .ofNat 97)
def hka01_434 : Int × Int := (.ofNat 0, .ofNat 96)
/-- NeverAgainModel.in -/
def ka_253 : ai_K := (93, 0, ([hka01_422], [hka01_424, hka01_41, hka01_426, hka01_41, hka01_428, hka01_41], [], hka01_429), [.inl 0], [(some hka01_33, [hka01_430], []), (some hka01_118, [hka01_431], []), (some hka01_118, [hka01_432], []), (some hka01_118, [hka01_433], []), (some hka01_33, [hka01_434], [])])
def kan_253 : List ai_Nd := []
set_option maxRecDepth 1000000 in
theorem kak_253 : ai_ck [] [] ka_253 [.inl 100000] kan_253 12 = true := by decide +kernel
theorem kah_253 : ai_holds ka_253 := ai_thm kak_253 ai_nil
def hka01_435 : ai_N := (.ofNat 0, .ofNat 96, [(0, .ofNat 0, .ofNat 0)])
def hka01_436 : ai_V := .inl (true, hka01_435)
def hka01_437 : ai_N := (.ofNat 48, .ofNat 48, [])
def hka01_438 : ai_V := .inl (true, hka01_437)
def hka01_439 : ai_N := (.ofNat 57, .ofNat 57, [])
def hka01_440 : ai_V := .inl (true, hka01_439)
def hka01_441 : Int × Int := (.ofNat 58, .ofNat 96)
def hka01_442 : Int × Int := (.ofNat 57, .ofNat 57)
def hka01_443 : Int × Int := (.ofNat 49, .ofNat 56)
def hka01_444 : Int × Int := (.ofNat 48, .ofNat 48)
def hka01_445 : Int × Int := (.ofNat 0, .ofNat 47)
/-- NeverAgainModel.in -/
def ka_254 : ai_K := (93, 0, ([hka01_434], [hka01_436, hka01_41, hka01_438, hka01_41, hka01_440, hka01_41], [], hka01_429), [.inl 0], [(some hka01_33, [hka01_441], []), (some hka01_118, [hka01_442], []), (some hka01_118, [hka01_443], []), (some hka01_118, [hka01_444], []), (some hka01_33, [hka01_445], [])])
def kan_254 : List ai_Nd := []
set_option maxRecDepth 1000000 in
theorem kak_254 : ai_ck [] [] ka_254 [.inl 100000] kan_254 12 = true := by decide +kernel
theorem kah_254 : ai_holds ka_254 := ai_thm kak_254 ai_nil
def hka01_446 : ai_E := [hka01_35, hka01_36, hka01_156, hka01_244, hka01_39, hka01_0, hka01_244, hka01_245, hka01_1, hka01_1, hka01_1, hka01_3, hka01_0, hka01_2, hka01_1, hka01_246, hka01_0, hka01_39]
def hka01_447 : ai_W := [hka01_10, hka01_10, hka01_10, hka01_10, hka01_10, hka01_10, hka01_10, hka01_10, hka01_10, hka01_10, hka01_10, hka01_10, hka01_10, hka01_10, hka01_10, hka01_10, hka01_10, hka01_10, hka01_10, hka01_10, hka01_10, hka01_10, hka01_10, hka01_10, hka01_10, hka01_10, hka01_10, hka01_10, hka01_10, hka01_10, hka01_10, hka01_10, hka01_10, hka01_10, hka01_10, hka01_10, hka01_10, hka01_10, hka01_10, hka01_10, hka01_10, hka01_10, hka01_10, hka01_10, hka01_10, hka01_10, hka01_10, hka01_10, hka01_10, hka01_10, hka01_10, hka01_10, hka01_10, hka01_10, hka01_10, hka01_10, hka01_10, hka01_10, hka01_10, hka01_293, hka01_10, hka01_10, hka01_10, hka01_10, hka01_10, hka01_10, hka01_10, hka01_10, hka01_10, hka01_10, hka01_10, hka01_10, hka01_10, hka01_10, hka01_10, hka01_10]
def hka01_448 : ai_E := [hka01_35, hka01_36, hka01_156, hka01_244, hka01_39, hka01_0, hka01_244, hka01_245, hka01_1, hka01_1, hka01_1, hka01_3, hka01_0, hka01_316, hka01_1, hka01_246, hka01_0, hka01_39]
def hka01_449 : ai_C := .inr (.inr (8, [hka01_252, hka01_253, hka01_49, hka01_51, hka01_254, hka01_255, hka01_257, hka01_258, hka01_260, hka01_262, hka01_263, hka01_194, hka01_265, hka01_267, hka01_268, hka01_74, hka01_270, hka01_78, hka01_272, hka01_274, hka01_118, hka01_78, hka01_277, hka01_279, hka01_280, hka01_281, hka01_283, hka01_284, hka01_285, hka01_286, hka01_287, hka01_288, hka01_289, hka01_291]))
def hka01_450 : Int × Int := (.ofNat 1, .ofNat 6)
def hka01_451 : ai_E := [hka01_35, hka01_36, hka01_156, hka01_244, hka01_39, hka01_0, hka01_244, hka01_245, hka01_1, hka01_1, hka01_1, hka01_3, hka01_0, hka01_450, hka01_1, hka01_246, hka01_0, hka01_39]
/-- NeverAgainModel.needs -/
def ka_255 : ai_K := (98, 0, (hka01_446, [hka01_251, hka01_33, hka01_118], [], hka01_447), [.inr (59, 2), .inr (59, 3), .inr (59, 6), .inr (59, 8), .inr (59, 9), .inr (59, 11), .inr (59, 12), .inr (59, 13), .inr (59, 15), .inr (59, 16), .inr (59, 17), .inr (59, 18), .inr (59, 19), .inr (59, 20), .inr (59, 21), .inr (59, 23), .inr (59, 26), .inr (59, 33)], [(none, hka01_448, [(59, hka01_449)]), (none, hka01_451, [])])
def kan_255 : List ai_Nd := []
set_option maxRecDepth 1000000 in
theorem kak_255 : ai_ck [] [] ka_255 [.inl 100000] kan_255 14 = true := by decide +kernel
theorem kah_255 : ai_holds ka_255 := ai_thm kak_255 ai_nil
/-- NeverAgainModel.needs -/
def ka_256 : ai_K := (98, 0, ([], [hka01_251, hka01_118, hka01_118], [], hka01_429), [], [(none, [], [])])
def kan_256 : List ai_Nd := []
set_option maxRecDepth 1000000 in
theorem kak_256 : ai_ck [] [] ka_256 [.inl 100000] kan_256 4 = true := by decide +kernel
theorem kah_256 : ai_holds ka_256 := ai_thm kak_256 ai_nil
def hka01_452 : ai_N := (.ofNat 123, .ofNat 255, [(0, .ofNat 0, .ofNat 0)])
def hka01_453 : ai_V := .inl (true, hka01_452)
/-- NeverAgainModel.in -/
def ka_257 : ai_K := (93, 0, ([hka01_430], [hka01_453, hka01_41, hka01_438, hka01_41, hka01_440, hka01_41], [], hka01_429), [.inl 0], [(some hka01_33, [hka01_430], [])])
def kan_257 : List ai_Nd := []
set_option maxRecDepth 1000000 in
theorem kak_257 : ai_ck [] [] ka_257 [.inl 100000] kan_257 11 = true := by decide +kernel
theorem kah_257 : ai_holds ka_257 := ai_thm kak_257 ai_nil
def hka01_454 : ai_E := [hka01_418, hka01_35, hka01_36, hka01_156, hka01_244, hka01_39, hka01_0, hka01_244, hka01_245, hka01_1, hka01_1, hka01_1, hka01_3, hka01_0, hka01_2, hka01_1, hka01_246, hka01_0, hka01_39]
def hka01_455 : ai_N := (.ofNat 0, .ofNat 399, [(0, .ofNat 0, .ofNat 0)])
def hka01_456 : ai_V := .inl (false, hka01_455)
def hka01_457 : ai_E := [hka01_418, hka01_35, hka01_36, hka01_156, hka01_244, hka01_39, hka01_0, hka01_244, hka01_245, hka01_418, hka01_1, hka01_1, hka01_3, hka01_0, hka01_2, hka01_1, hka01_246, hka01_0, hka01_39]
/-- NeverAgainModel.look -/
def ka_258 : ai_K := (159, 0, (hka01_454, [hka01_251, hka01_456], [], hka01_416), [.inl 1, .inr (59, 2), .inr (59, 3), .inr (59, 6), .inr (59, 8), .inr (59, 9), .inr (59, 11), .inr (59, 12), .inr (59, 13), .inr (59, 15), .inr (59, 16), .inr (59, 17), .inr (59, 18), .inr (59, 19), .inr (59, 20), .inr (59, 21), .inr (59, 23), .inr (59, 26), .inr (59, 33)], [(some hka01_417, hka01_419, []), (some hka01_421, hka01_457, [])])
def kan_258 : List ai_Nd := []
set_option maxRecDepth 1000000 in
theorem kak_258 : ai_ck [] [] ka_258 [.inl 100000] kan_258 11 = true := by decide +kernel
theorem kah_258 : ai_holds ka_258 := ai_thm kak_258 ai_nil
def hka01_458 : ai_V := .inl (true, hka01_420)
/-- NeverAgainModel.in -/
def ka_259 : ai_K := (93, 0, ([], [hka01_458, hka01_41, hka01_438, hka01_41, hka01_440, hka01_41], [], hka01_429), [], [(some hka01_33, [], [])])
def kan_259 : List ai_Nd := []
set_option maxRecDepth 1000000 in
theorem kak_259 : ai_ck [] [] ka_259 [.inl 100000] kan_259 7 = true := by decide +kernel
theorem kah_259 : ai_holds ka_259 := ai_thm kak_259 ai_nil
def hka01_459 : Int × Int := (.ofNat 58, .ofNat 255)
/-- NeverAgainModel.in -/
def ka_260 : ai_K := (93, 0, ([hka01_422], [hka01_424, hka01_41, hka01_438, hka01_41, hka01_440, hka01_41], [], hka01_429), [.inl 0], [(some hka01_33, [hka01_459], []), (some hka01_118, [hka01_442], []), (some hka01_118, [hka01_443], []), (some hka01_118, [hka01_444], []), (some hka01_33, [hka01_445], [])])
def kan_260 : List ai_Nd := []
set_option maxRecDepth 1000000 in
theorem kak_260 : ai_ck [] [] ka_260 [.inl 100000] kan_260 12 = true := by decide +kernel
theorem kah_260 : ai_holds ka_260 := ai_thm kak_260 ai_nil
/-- NeverAgainModel.in -/
def ka_261 : ai_K := (93, 0, ([], [hka01_458, hka01_41, hka01_426, hka01_41, hka01_428, hka01_41], [], hka01_429), [], [(some hka01_33, [], [])])
def kan_261 : List ai_Nd := []
set_option maxRecDepth 1000000 in
theorem kak_261 : ai_ck [] [] ka_261 [.inl 100000] kan_261 7 = true := by decide +kernel
theorem kah_261 : ai_holds ka_261 := ai_thm kak_261 ai_nil
def hka01_460 : ai_W := [hka01_10, hka01_10, hka01_10, hka01_10, hka01_10, hka01_10, hka01_10, hka01_10, hka01_10, hka01_10, hka01_10, hka01_10, hka01_10, hka01_10, hka01_10, hka01_10, hka01_10, hka01_10, hka01_10, hka01_10, hka01_10, hka01_10, hka01_10, hka01_10, hka01_10, hka01_10, hka01_10, hka01_10, hka01_10, hka01_10, hka01_10, hka01_10, hka01_10, hka01_10, hka01_10, hka01_10, hka01_10, hka01_10, hka01_10, hka01_10, hka01_10, hka01_10, hka01_10, hka01_10, hka01_10, hka01_10, hka01_10, hka01_10, hka01_10, hka01_10, hka01_10, hka01_10, hka01_10, hka01_10, hka01_10, hka01_10, hka01_10, hka01_10, hka01_10, hka01_293, hka01_10, hka01_10, hka01_10, hka01_10, hka01_10, hka01_10, hka01_415, hka01_10, hka01_10, hka01_10, hka01_10, hka01_10, hka01_10, hka01_10, hka01_10, hka01_10]
def hka01_461 : ai_N := (.ofNat 0, .ofNat 400, [(9, .ofNat 0, .ofNat 400)])
def hka01_462 : ai_V := .inl (false, hka01_461)
def hka01_463 : ai_N := (.ofNat 0, .ofNat 0, [(13, .ofNat 0, .ofNat 0)])
def hka01_464 : ai_V := .inl (false, hka01_463)
def hka01_465 : ai_C := .inr (.inr (8, [hka01_252, hka01_253, hka01_49, hka01_51, hka01_254, hka01_255, hka01_257, hka01_258, hka01_260, hka01_262, hka01_263, hka01_194, hka01_265, hka01_267, hka01_268, hka01_74, hka01_462, hka01_462, hka01_33, hka01_274, hka01_464, hka01_86, hka01_277, hka01_279, hka01_280, hka01_281, hka01_283, hka01_284, hka01_285, hka01_286, hka01_287, hka01_288, hka01_289, hka01_291]))
def hka01_466 : ai_E := [hka01_35, hka01_36, hka01_156, hka01_244, hka01_39, hka01_0, hka01_244, hka01_245, hka01_97, hka01_418, hka01_1, hka01_3, hka01_0, hka01_316, hka01_1, hka01_246, hka01_0, hka01_39]
def hka01_467 : ai_N := (.ofNat 1, .ofNat 400, [(9, .ofNat 1, .ofNat 400)])
def hka01_468 : ai_V := .inl (false, hka01_467)
def hka01_469 : ai_N := (.ofNat 0, .ofNat 399, [(9, .ofNat 0, .ofNat 399)])
def hka01_470 : ai_V := .inl (false, hka01_469)
def hka01_471 : ai_C := .inr (.inr (8, [hka01_252, hka01_253, hka01_49, hka01_51, hka01_254, hka01_255, hka01_257, hka01_258, hka01_260, hka01_262, hka01_263, hka01_194, hka01_265, hka01_267, hka01_268, hka01_112, hka01_468, hka01_470, hka01_123, hka01_274, hka01_118, hka01_470, hka01_277, hka01_279, hka01_280, hka01_281, hka01_283, hka01_284, hka01_285, hka01_286, hka01_287, hka01_288, hka01_289, hka01_291]))
def hka01_472 : ai_C := .inr (.inr (8, [hka01_252, hka01_253, hka01_49, hka01_51, hka01_254, hka01_255, hka01_257, hka01_258, hka01_260, hka01_262, hka01_263, hka01_194, hka01_265, hka01_267, hka01_268, hka01_112, hka01_468, hka01_470, hka01_123, hka01_274, hka01_464, hka01_86, hka01_277, hka01_279, hka01_280, hka01_281, hka01_283, hka01_284, hka01_285, hka01_286, hka01_287, hka01_288, hka01_289, hka01_291]))
def hka01_473 : ai_C := .inr (.inr (8, [hka01_252, hka01_253, hka01_49, hka01_51, hka01_254, hka01_255, hka01_257, hka01_258, hka01_260, hka01_262, hka01_263, hka01_194, hka01_265, hka01_267, hka01_268, hka01_112, hka01_462, hka01_470, hka01_138, hka01_103, hka01_464, hka01_86, hka01_277, hka01_279, hka01_280, hka01_281, hka01_283, hka01_284, hka01_285, hka01_286, hka01_287, hka01_288, hka01_289, hka01_291]))
def hka01_474 : ai_N := (.ofNat 3, .ofNat 400, [(9, .ofNat 0, .ofNat 400)])
def hka01_475 : ai_V := .inl (false, hka01_474)
def hka01_476 : ai_C := .inr (.inr (8, [hka01_252, hka01_253, hka01_49, hka01_51, hka01_254, hka01_255, hka01_257, hka01_258, hka01_260, hka01_262, hka01_263, hka01_194, hka01_265, hka01_267, hka01_268, hka01_112, hka01_475, hka01_470, hka01_138, hka01_103, hka01_118, hka01_470, hka01_277, hka01_279, hka01_280, hka01_281, hka01_283, hka01_284, hka01_285, hka01_286, hka01_287, hka01_288, hka01_289, hka01_291]))
def hka01_477 : ai_C := .inr (.inr (8, [hka01_252, hka01_253, hka01_49, hka01_51, hka01_254, hka01_255, hka01_257, hka01_258, hka01_260, hka01_262, hka01_263, hka01_194, hka01_265, hka01_267, hka01_268, hka01_112, hka01_462, hka01_470, hka01_118, hka01_274, hka01_464, hka01_86, hka01_277, hka01_279, hka01_280, hka01_281, hka01_283, hka01_284, hka01_285, hka01_286, hka01_287, hka01_288, hka01_289, hka01_291]))
/-- NeverAgainModel.next -/
def ka_262 : ai_K := (96, 1, (hka01_446, [hka01_251, hka01_41], [], hka01_460), [.inr (59, 2), .inr (59, 3), .inr (59, 6), .inr (59, 8), .inr (59, 9), .inr (59, 11), .inr (59, 12), .inr (59, 13), .inr (59, 15), .inr (59, 16), .inr (59, 17), .inr (59, 18), .inr (59, 19), .inr (59, 20), .inr (59, 21), .inr (59, 23), .inr (59, 26), .inr (59, 33)], [(none, hka01_451, []), (none, hka01_448, [(59, hka01_465)]), (none, hka01_466, [(59, hka01_471)]), (none, hka01_466, [(59, hka01_472)]), (none, hka01_466, [(59, hka01_473)]), (none, hka01_466, [(59, hka01_476)]), (none, hka01_466, [(59, hka01_477)])])
def hka01_478 : ai_E := [hka01_35, hka01_36, hka01_156, hka01_244, hka01_39, hka01_0, hka01_244, hka01_245, hka01_1, hka01_1, hka01_1, hka01_3, hka01_0, hka01_316, hka01_1, hka01_246, hka01_0, hka01_39, hka01_1]
def hka01_479 : ai_N := (.ofNat 0, .ofNat 400, [(18, .ofNat 0, .ofNat 0), (9, .ofNat 0, .ofNat 400)])
def hka01_480 : ai_V := .inl (false, hka01_479)
def hka01_481 : ai_C := .inr (.inr (8, [hka01_252, hka01_253, hka01_49, hka01_51, hka01_254, hka01_255, hka01_257, hka01_258, hka01_260, hka01_262, hka01_263, hka01_194, hka01_265, hka01_267, hka01_268, hka01_74, hka01_480, hka01_78, hka01_272, hka01_274, hka01_464, hka01_86, hka01_277, hka01_279, hka01_280, hka01_281, hka01_283, hka01_284, hka01_285, hka01_286, hka01_287, hka01_288, hka01_289, hka01_291]))
def hka01_482 : Bool × Option ai_C := (true, some hka01_481)
def hka01_483 : ai_W := [hka01_10, hka01_10, hka01_10, hka01_10, hka01_10, hka01_10, hka01_10, hka01_10, hka01_10, hka01_10, hka01_10, hka01_10, hka01_10, hka01_10, hka01_10, hka01_10, hka01_10, hka01_10, hka01_10, hka01_10, hka01_10, hka01_10, hka01_10, hka01_10, hka01_10, hka01_10, hka01_10, hka01_10, hka01_10, hka01_10, hka01_10, hka01_10, hka01_10, hka01_10, hka01_10, hka01_10, hka01_10, hka01_10, hka01_10, hka01_10, hka01_10, hka01_10, hka01_10, hka01_10, hka01_10, hka01_10, hka01_10, hka01_10, hka01_10, hka01_10, hka01_10, hka01_10, hka01_10, hka01_10, hka01_10, hka01_10, hka01_10, hka01_10, hka01_10, hka01_482, hka01_10, hka01_10, hka01_10, hka01_10, hka01_10, hka01_10, hka01_415, hka01_10, hka01_10, hka01_10, hka01_10, hka01_10, hka01_10, hka01_10, hka01_10, hka01_10]
def hka01_484 : ai_E := [hka01_35, hka01_36, hka01_156, hka01_244, hka01_39, hka01_0, hka01_244, hka01_245, hka01_97, hka01_418, hka01_1, hka01_3, hka01_0, hka01_316, hka01_1, hka01_246, hka01_0, hka01_39, hka01_1]
def hka01_485 : ai_N := (.ofNat 48, .ofNat 57, [])
def hka01_486 : ai_V := .inl (false, hka01_485)
def hka01_487 : ai_C := .inr (.inr (8, [hka01_252, hka01_253, hka01_49, hka01_51, hka01_254, hka01_255, hka01_257, hka01_258, hka01_260, hka01_262, hka01_263, hka01_194, hka01_265, hka01_267, hka01_268, hka01_112, hka01_480, hka01_470, hka01_138, hka01_103, hka01_464, hka01_86, hka01_277, hka01_279, hka01_280, hka01_281, hka01_283, hka01_284, hka01_285, hka01_286, hka01_287, hka01_288, hka01_289, hka01_291]))
def hka01_488 : Bool × Option ai_C := (true, some hka01_487)
def hka01_489 : ai_W := [hka01_10, hka01_10, hka01_10, hka01_10, hka01_10, hka01_10, hka01_10, hka01_10, hka01_10, hka01_10, hka01_10, hka01_10, hka01_10, hka01_10, hka01_10, hka01_10, hka01_10, hka01_10, hka01_10, hka01_10, hka01_10, hka01_10, hka01_10, hka01_10, hka01_10, hka01_10, hka01_10, hka01_10, hka01_10, hka01_10, hka01_10, hka01_10, hka01_10, hka01_10, hka01_10, hka01_10, hka01_10, hka01_10, hka01_10, hka01_10, hka01_10, hka01_10, hka01_10, hka01_10, hka01_10, hka01_10, hka01_10, hka01_10, hka01_10, hka01_10, hka01_10, hka01_10, hka01_10, hka01_10, hka01_10, hka01_10, hka01_10, hka01_10, hka01_10, hka01_488, hka01_10, hka01_10, hka01_10, hka01_10, hka01_10, hka01_10, hka01_415, hka01_10, hka01_10, hka01_10, hka01_10, hka01_10, hka01_10, hka01_10, hka01_10, hka01_10]
def hka01_490 : ai_N := (.ofNat 97, .ofNat 122, [])
def hka01_491 : ai_V := .inl (false, hka01_490)
def hka01_492 : ai_C := .inr (.inr (8, [hka01_252, hka01_253, hka01_49, hka01_51, hka01_254, hka01_255, hka01_257, hka01_258, hka01_260, hka01_262, hka01_263, hka01_194, hka01_265, hka01_267, hka01_268, hka01_112, hka01_480, hka01_470, hka01_118, hka01_274, hka01_464, hka01_86, hka01_277, hka01_279, hka01_280, hka01_281, hka01_283, hka01_284, hka01_285, hka01_286, hka01_287, hka01_288, hka01_289, hka01_291]))
def hka01_493 : Bool × Option ai_C := (true, some hka01_492)
def hka01_494 : ai_W := [hka01_10, hka01_10, hka01_10, hka01_10, hka01_10, hka01_10, hka01_10, hka01_10, hka01_10, hka01_10, hka01_10, hka01_10, hka01_10, hka01_10, hka01_10, hka01_10, hka01_10, hka01_10, hka01_10, hka01_10, hka01_10, hka01_10, hka01_10, hka01_10, hka01_10, hka01_10, hka01_10, hka01_10, hka01_10, hka01_10, hka01_10, hka01_10, hka01_10, hka01_10, hka01_10, hka01_10, hka01_10, hka01_10, hka01_10, hka01_10, hka01_10, hka01_10, hka01_10, hka01_10, hka01_10, hka01_10, hka01_10, hka01_10, hka01_10, hka01_10, hka01_10, hka01_10, hka01_10, hka01_10, hka01_10, hka01_10, hka01_10, hka01_10, hka01_10, hka01_493, hka01_10, hka01_10, hka01_10, hka01_10, hka01_10, hka01_10, hka01_415, hka01_10, hka01_10, hka01_10, hka01_10, hka01_10, hka01_10, hka01_10, hka01_10, hka01_10]
def kan_262 : List ai_Nd := [(8, (hka01_478, [hka01_251, hka01_41], [], hka01_483), [.inr (59, 16)], [.inl 99991, .inl 1, .inr (true, .ofNat 400, 18), .inl 100000]), (140, (hka01_484, [hka01_251, hka01_486], [], hka01_489), [.inr (59, 16)], [.inl 99859, .inl 1, .inr (true, .ofNat 400, 18), .inl 100000]), (82, (hka01_484, [hka01_251, hka01_491], [], hka01_494), [.inr (59, 16)], [.inl 99917, .inl 1, .inr (true, .ofNat 400, 18), .inl 100000])]
set_option maxRecDepth 1000000 in
theorem kak_262 : ai_ck [ka_256, ka_255, ka_258, ka_252, ka_259, ka_261, ka_254, ka_257, ka_253, ka_260] [] ka_262 [.inl 100000, .inl 0, .inl 0, .inl 0] kan_262 48 = true := by decide +kernel
theorem kah_262 : ai_holds ka_262 := ai_thm kak_262 (ai_cons kah_256 (ai_cons kah_255 (ai_cons kah_258 (ai_cons kah_252 (ai_cons kah_259 (ai_cons kah_261 (ai_cons kah_254 (ai_cons kah_257 (ai_cons kah_253 (ai_cons kah_260 ai_nil))))))))))
def hka01_495 : ai_E := [hka01_97, hka01_35, hka01_36, hka01_156, hka01_244, hka01_39, hka01_0, hka01_244, hka01_245, hka01_1, hka01_1, hka01_1, hka01_3, hka01_0, hka01_2, hka01_1, hka01_246, hka01_0, hka01_39]
def hka01_496 : ai_N := (.ofNat 1, .ofNat 400, [(0, .ofNat 0, .ofNat 0)])
def hka01_497 : ai_V := .inl (false, hka01_496)
def hka01_498 : Int × Int := (.ofNat 1, .ofNat 399)
def hka01_499 : Int × Int := (.ofNat 2, .ofNat 400)
def hka01_500 : ai_E := [hka01_498, hka01_35, hka01_36, hka01_156, hka01_244, hka01_39, hka01_0, hka01_244, hka01_245, hka01_499, hka01_1, hka01_1, hka01_3, hka01_0, hka01_2, hka01_1, hka01_246, hka01_0, hka01_39]
/-- NeverAgainModel.look -/
def ka_263 : ai_K := (159, 0, (hka01_495, [hka01_251, hka01_497], [], hka01_416), [.inl 1, .inr (59, 2), .inr (59, 3), .inr (59, 6), .inr (59, 8), .inr (59, 9), .inr (59, 11), .inr (59, 12), .inr (59, 13), .inr (59, 15), .inr (59, 16), .inr (59, 17), .inr (59, 18), .inr (59, 19), .inr (59, 20), .inr (59, 21), .inr (59, 23), .inr (59, 26), .inr (59, 33)], [(some hka01_417, hka01_500, []), (some hka01_421, hka01_495, [])])
def kan_263 : List ai_Nd := []
set_option maxRecDepth 1000000 in
theorem kak_263 : ai_ck [] [] ka_263 [.inl 100000] kan_263 11 = true := by decide +kernel
theorem kah_263 : ai_holds ka_263 := ai_thm kak_263 ai_nil
def hka01_501 : ai_E := [hka01_499, hka01_35, hka01_36, hka01_156, hka01_244, hka01_39, hka01_0, hka01_244, hka01_245, hka01_1, hka01_1, hka01_1, hka01_3, hka01_0, hka01_2, hka01_1, hka01_246, hka01_0, hka01_39]
def hka01_502 : ai_N := (.ofNat 2, .ofNat 400, [(0, .ofNat 0, .ofNat 0)])
def hka01_503 : ai_V := .inl (false, hka01_502)
def hka01_504 : Int × Int := (.ofNat 2, .ofNat 399)
def hka01_505 : Int × Int := (.ofNat 3, .ofNat 400)
def hka01_506 : ai_E := [hka01_504, hka01_35, hka01_36, hka01_156, hka01_244, hka01_39, hka01_0, hka01_244, hka01_245, hka01_505, hka01_1, hka01_1, hka01_3, hka01_0, hka01_2, hka01_1, hka01_246, hka01_0, hka01_39]
/-- NeverAgainModel.look -/
def ka_264 : ai_K := (159, 0, (hka01_501, [hka01_251, hka01_503], [], hka01_416), [.inl 1, .inr (59, 2), .inr (59, 3), .inr (59, 6), .inr (59, 8), .inr (59, 9), .inr (59, 11), .inr (59, 12), .inr (59, 13), .inr (59, 15), .inr (59, 16), .inr (59, 17), .inr (59, 18), .inr (59, 19), .inr (59, 20), .inr (59, 21), .inr (59, 23), .inr (59, 26), .inr (59, 33)], [(some hka01_417, hka01_506, []), (some hka01_421, hka01_501, [])])
def kan_264 : List ai_Nd := []
set_option maxRecDepth 1000000 in
theorem kak_264 : ai_ck [] [] ka_264 [.inl 100000] kan_264 11 = true := by decide +kernel
theorem kah_264 : ai_holds ka_264 := ai_thm kak_264 ai_nil
def hka01_507 : ai_N := (.ofNat 4, .ofNat 4, [])
def hka01_508 : ai_V := .inl (false, hka01_507)
def hka01_509 : ai_N := (.ofNat 112, .ofNat 112, [])
def hka01_510 : ai_V := .inl (false, hka01_509)
def hka01_511 : ai_V := .inl (false, hka01_425)
def hka01_512 : ai_N := (.ofNat 103, .ofNat 103, [])
def hka01_513 : ai_V := .inl (false, hka01_512)
def hka01_514 : Int × Int := (.ofNat 4, .ofNat 400)
def hka01_515 : Int × Int := (.ofNat 0, .ofNat 397)
def hka01_516 : ai_E := [hka01_35, hka01_36, hka01_156, hka01_244, hka01_39, hka01_0, hka01_244, hka01_245, hka01_505, hka01_514, hka01_515, hka01_3, hka01_0, hka01_2, hka01_1, hka01_246, hka01_0, hka01_39]
/-- NeverAgainModel.is -/
def ka_265 : ai_K := (191, 1, (hka01_446, [hka01_251, hka01_508, hka01_510, hka01_511, hka01_513], [], hka01_460), [.inr (59, 2), .inr (59, 3), .inr (59, 6), .inr (59, 8), .inr (59, 9), .inr (59, 11), .inr (59, 12), .inr (59, 13), .inr (59, 15), .inr (59, 16), .inr (59, 17), .inr (59, 18), .inr (59, 19), .inr (59, 20), .inr (59, 21), .inr (59, 23), .inr (59, 26), .inr (59, 33)], [(some hka01_33, hka01_446, []), (some hka01_118, hka01_516, [])])
def kan_265 : List ai_Nd := []
set_option maxRecDepth 1000000 in
theorem kak_265 : ai_ck [ka_264, ka_263, ka_252] [] ka_265 [.inl 100000] kan_265 33 = true := by decide +kernel
theorem kah_265 : ai_holds ka_265 := ai_thm kak_265 (ai_cons kah_264 (ai_cons kah_263 (ai_cons kah_252 ai_nil)))
def hka01_517 : Int × Int := (.ofNat 3, .ofNat 408)
def hka01_518 : ai_E := [hka01_517, hka01_35, hka01_36, hka01_156, hka01_244, hka01_39, hka01_0, hka01_244, hka01_245, hka01_1, hka01_1, hka01_1, hka01_3, hka01_0, hka01_2, hka01_1, hka01_246, hka01_0, hka01_39]
def hka01_519 : ai_N := (.ofNat 3, .ofNat 408, [(0, .ofNat 0, .ofNat 0)])
def hka01_520 : ai_V := .inl (false, hka01_519)
def hka01_521 : Int × Int := (.ofNat 3, .ofNat 399)
def hka01_522 : ai_E := [hka01_521, hka01_35, hka01_36, hka01_156, hka01_244, hka01_39, hka01_0, hka01_244, hka01_245, hka01_514, hka01_1, hka01_1, hka01_3, hka01_0, hka01_2, hka01_1, hka01_246, hka01_0, hka01_39]
/-- NeverAgainModel.look -/
def ka_266 : ai_K := (159, 0, (hka01_518, [hka01_251, hka01_520], [], hka01_416), [.inl 1, .inr (59, 2), .inr (59, 3), .inr (59, 6), .inr (59, 8), .inr (59, 9), .inr (59, 11), .inr (59, 12), .inr (59, 13), .inr (59, 15), .inr (59, 16), .inr (59, 17), .inr (59, 18), .inr (59, 19), .inr (59, 20), .inr (59, 21), .inr (59, 23), .inr (59, 26), .inr (59, 33)], [(some hka01_417, hka01_522, []), (some hka01_421, hka01_518, [])])
def kan_266 : List ai_Nd := []
set_option maxRecDepth 1000000 in
theorem kak_266 : ai_ck [] [] ka_266 [.inl 100000] kan_266 11 = true := by decide +kernel
theorem kah_266 : ai_holds ka_266 := ai_thm kak_266 ai_nil
def hka01_523 : ai_N := (.ofNat 101, .ofNat 101, [])
def hka01_524 : ai_V := .inl (false, hka01_523)
def hka01_525 : Int × Int := (.ofNat 0, .ofNat 396)
def hka01_526 : ai_E := [hka01_35, hka01_36, hka01_156, hka01_244, hka01_39, hka01_0, hka01_244, hka01_245, hka01_514, hka01_1, hka01_525, hka01_3, hka01_0, hka01_2, hka01_1, hka01_246, hka01_0, hka01_39]
/-- NeverAgainModel.ends -/
def ka_267 : ai_K := (192, 1, (hka01_446, [hka01_251, hka01_524, hka01_33, hka01_33], [], hka01_460), [.inr (59, 2), .inr (59, 3), .inr (59, 6), .inr (59, 8), .inr (59, 9), .inr (59, 11), .inr (59, 12), .inr (59, 13), .inr (59, 15), .inr (59, 16), .inr (59, 17), .inr (59, 18), .inr (59, 19), .inr (59, 20), .inr (59, 21), .inr (59, 23), .inr (59, 26), .inr (59, 33)], [(some hka01_33, hka01_446, []), (some hka01_118, hka01_526, []), (some hka01_33, hka01_526, [])])
def kan_267 : List ai_Nd := []
set_option maxRecDepth 1000000 in
theorem kak_267 : ai_ck [ka_266] [] ka_267 [.inl 100000] kan_267 16 = true := by decide +kernel
theorem kah_267 : ai_holds ka_267 := ai_thm kak_267 (ai_cons kah_266 ai_nil)
def hka01_527 : ai_N := (.ofNat 114, .ofNat 114, [])
def hka01_528 : ai_V := .inl (false, hka01_527)
def hka01_529 : ai_N := (.ofNat 117, .ofNat 117, [])
def hka01_530 : ai_V := .inl (false, hka01_529)
def hka01_531 : ai_N := (.ofNat 110, .ofNat 110, [])
def hka01_532 : ai_V := .inl (false, hka01_531)
/-- NeverAgainModel.is -/
def ka_268 : ai_K := (191, 1, (hka01_446, [hka01_251, hka01_508, hka01_528, hka01_530, hka01_532], [], hka01_460), [.inr (59, 2), .inr (59, 3), .inr (59, 6), .inr (59, 8), .inr (59, 9), .inr (59, 11), .inr (59, 12), .inr (59, 13), .inr (59, 15), .inr (59, 16), .inr (59, 17), .inr (59, 18), .inr (59, 19), .inr (59, 20), .inr (59, 21), .inr (59, 23), .inr (59, 26), .inr (59, 33)], [(some hka01_33, hka01_446, []), (some hka01_118, hka01_516, [])])
def kan_268 : List ai_Nd := []
set_option maxRecDepth 1000000 in
theorem kak_268 : ai_ck [ka_264, ka_263, ka_252] [] ka_268 [.inl 100000] kan_268 33 = true := by decide +kernel
theorem kah_268 : ai_holds ka_268 := ai_thm kak_268 (ai_cons kah_264 (ai_cons kah_263 (ai_cons kah_252 ai_nil)))
/-- NeverAgainModel.ends -/
def ka_269 : ai_K := (192, 1, (hka01_446, [hka01_251, hka01_513, hka01_33, hka01_33], [], hka01_460), [.inr (59, 2), .inr (59, 3), .inr (59, 6), .inr (59, 8), .inr (59, 9), .inr (59, 11), .inr (59, 12), .inr (59, 13), .inr (59, 15), .inr (59, 16), .inr (59, 17), .inr (59, 18), .inr (59, 19), .inr (59, 20), .inr (59, 21), .inr (59, 23), .inr (59, 26), .inr (59, 33)], [(some hka01_33, hka01_446, []), (some hka01_118, hka01_526, []), (some hka01_33, hka01_526, [])])
def kan_269 : List ai_Nd := []
set_option maxRecDepth 1000000 in
theorem kak_269 : ai_ck [ka_266] [] ka_269 [.inl 100000] kan_269 16 = true := by decide +kernel
theorem kah_269 : ai_holds ka_269 := ai_thm kak_269 (ai_cons kah_266 ai_nil)
def hka01_533 : ai_N := (.ofNat 115, .ofNat 115, [])
def hka01_534 : ai_V := .inl (false, hka01_533)
def hka01_535 : ai_N := (.ofNat 107, .ofNat 107, [])
def hka01_536 : ai_V := .inl (false, hka01_535)
def hka01_537 : ai_E := [hka01_35, hka01_36, hka01_156, hka01_244, hka01_39, hka01_0, hka01_244, hka01_245, hka01_505, hka01_505, hka01_515, hka01_3, hka01_0, hka01_2, hka01_1, hka01_246, hka01_0, hka01_39]
/-- NeverAgainModel.is -/
def ka_270 : ai_K := (191, 1, (hka01_446, [hka01_251, hka01_123, hka01_511, hka01_534, hka01_536], [], hka01_460), [.inr (59, 2), .inr (59, 3), .inr (59, 6), .inr (59, 8), .inr (59, 9), .inr (59, 11), .inr (59, 12), .inr (59, 13), .inr (59, 15), .inr (59, 16), .inr (59, 17), .inr (59, 18), .inr (59, 19), .inr (59, 20), .inr (59, 21), .inr (59, 23), .inr (59, 26), .inr (59, 33)], [(some hka01_33, hka01_446, []), (some hka01_118, hka01_537, [])])
def kan_270 : List ai_Nd := []
set_option maxRecDepth 1000000 in
theorem kak_270 : ai_ck [ka_264, ka_263, ka_252] [] ka_270 [.inl 100000] kan_270 33 = true := by decide +kernel
theorem kah_270 : ai_holds ka_270 := ai_thm kak_270 (ai_cons kah_264 (ai_cons kah_263 (ai_cons kah_252 ai_nil)))
def hka01_538 : ai_N := (.ofNat 119, .ofNat 119, [])
def hka01_539 : ai_V := .inl (false, hka01_538)
def hka01_540 : ai_N := (.ofNat 105, .ofNat 105, [])
def hka01_541 : ai_V := .inl (false, hka01_540)
/-- NeverAgainModel.is -/
def ka_271 : ai_K := (191, 1, (hka01_446, [hka01_251, hka01_508, hka01_539, hka01_511, hka01_541], [], hka01_460), [.inr (59, 2), .inr (59, 3), .inr (59, 6), .inr (59, 8), .inr (59, 9), .inr (59, 11), .inr (59, 12), .inr (59, 13), .inr (59, 15), .inr (59, 16), .inr (59, 17), .inr (59, 18), .inr (59, 19), .inr (59, 20), .inr (59, 21), .inr (59, 23), .inr (59, 26), .inr (59, 33)], [(some hka01_33, hka01_446, []), (some hka01_118, hka01_516, [])])
def kan_271 : List ai_Nd := []
set_option maxRecDepth 1000000 in
theorem kak_271 : ai_ck [ka_264, ka_263, ka_252] [] ka_271 [.inl 100000] kan_271 33 = true := by decide +kernel
theorem kah_271 : ai_holds ka_271 := ai_thm kak_271 (ai_cons kah_264 (ai_cons kah_263 (ai_cons kah_252 ai_nil)))
def hka01_542 : ai_N := (.ofNat 116, .ofNat 116, [])
def hka01_543 : ai_V := .inl (false, hka01_542)
/-- NeverAgainModel.ends -/
def ka_272 : ai_K := (192, 1, (hka01_446, [hka01_251, hka01_543, hka01_33, hka01_33], [], hka01_460), [.inr (59, 2), .inr (59, 3), .inr (59, 6), .inr (59, 8), .inr (59, 9), .inr (59, 11), .inr (59, 12), .inr (59, 13), .inr (59, 15), .inr (59, 16), .inr (59, 17), .inr (59, 18), .inr (59, 19), .inr (59, 20), .inr (59, 21), .inr (59, 23), .inr (59, 26), .inr (59, 33)], [(some hka01_33, hka01_446, []), (some hka01_118, hka01_526, []), (some hka01_33, hka01_526, [])])
def kan_272 : List ai_Nd := []
set_option maxRecDepth 1000000 in
theorem kak_272 : ai_ck [ka_266] [] ka_272 [.inl 100000] kan_272 16 = true := by decide +kernel
theorem kah_272 : ai_holds ka_272 := ai_thm kak_272 (ai_cons kah_266 ai_nil)
def hka01_544 : ai_N := (.ofNat 109, .ofNat 109, [])
def hka01_545 : ai_V := .inl (false, hka01_544)
def hka01_546 : ai_N := (.ofNat 111, .ofNat 111, [])
def hka01_547 : ai_V := .inl (false, hka01_546)
/-- NeverAgainModel.is -/
def ka_273 : ai_K := (191, 1, (hka01_446, [hka01_251, hka01_508, hka01_545, hka01_547, hka01_534], [], hka01_460), [.inr (59, 2), .inr (59, 3), .inr (59, 6), .inr (59, 8), .inr (59, 9), .inr (59, 11), .inr (59, 12), .inr (59, 13), .inr (59, 15), .inr (59, 16), .inr (59, 17), .inr (59, 18), .inr (59, 19), .inr (59, 20), .inr (59, 21), .inr (59, 23), .inr (59, 26), .inr (59, 33)], [(some hka01_33, hka01_446, []), (some hka01_118, hka01_516, [])])
def kan_273 : List ai_Nd := []
set_option maxRecDepth 1000000 in
theorem kak_273 : ai_ck [ka_264, ka_263, ka_252] [] ka_273 [.inl 100000] kan_273 33 = true := by decide +kernel
theorem kah_273 : ai_holds ka_273 := ai_thm kak_273 (ai_cons kah_264 (ai_cons kah_263 (ai_cons kah_252 ai_nil)))
def hka01_548 : ai_N := (.ofNat 7, .ofNat 7, [])
def hka01_549 : ai_V := .inl (false, hka01_548)
def hka01_550 : Int × Int := (.ofNat 7, .ofNat 400)
def hka01_551 : ai_E := [hka01_35, hka01_36, hka01_156, hka01_244, hka01_39, hka01_0, hka01_244, hka01_245, hka01_505, hka01_550, hka01_515, hka01_3, hka01_0, hka01_2, hka01_1, hka01_246, hka01_0, hka01_39]
/-- NeverAgainModel.is -/
def ka_274 : ai_K := (191, 1, (hka01_446, [hka01_251, hka01_549, hka01_545, hka01_511, hka01_543], [], hka01_460), [.inr (59, 2), .inr (59, 3), .inr (59, 6), .inr (59, 8), .inr (59, 9), .inr (59, 11), .inr (59, 12), .inr (59, 13), .inr (59, 15), .inr (59, 16), .inr (59, 17), .inr (59, 18), .inr (59, 19), .inr (59, 20), .inr (59, 21), .inr (59, 23), .inr (59, 26), .inr (59, 33)], [(some hka01_33, hka01_446, []), (some hka01_118, hka01_551, [])])
def kan_274 : List ai_Nd := []
set_option maxRecDepth 1000000 in
theorem kak_274 : ai_ck [ka_264, ka_263, ka_252] [] ka_274 [.inl 100000] kan_274 33 = true := by decide +kernel
theorem kah_274 : ai_holds ka_274 := ai_thm kak_274 (ai_cons kah_264 (ai_cons kah_263 (ai_cons kah_252 ai_nil)))
def hka01_552 : ai_E := [hka01_514, hka01_35, hka01_36, hka01_156, hka01_244, hka01_39, hka01_0, hka01_244, hka01_245, hka01_1, hka01_1, hka01_1, hka01_3, hka01_0, hka01_2, hka01_1, hka01_246, hka01_0, hka01_39]
def hka01_553 : ai_N := (.ofNat 4, .ofNat 400, [(0, .ofNat 0, .ofNat 0)])
def hka01_554 : ai_V := .inl (false, hka01_553)
def hka01_555 : Int × Int := (.ofNat 4, .ofNat 399)
def hka01_556 : Int × Int := (.ofNat 5, .ofNat 400)
def hka01_557 : ai_E := [hka01_555, hka01_35, hka01_36, hka01_156, hka01_244, hka01_39, hka01_0, hka01_244, hka01_245, hka01_556, hka01_1, hka01_1, hka01_3, hka01_0, hka01_2, hka01_1, hka01_246, hka01_0, hka01_39]
/-- NeverAgainModel.look -/
def ka_275 : ai_K := (159, 0, (hka01_552, [hka01_251, hka01_554], [], hka01_416), [.inl 1, .inr (59, 2), .inr (59, 3), .inr (59, 6), .inr (59, 8), .inr (59, 9), .inr (59, 11), .inr (59, 12), .inr (59, 13), .inr (59, 15), .inr (59, 16), .inr (59, 17), .inr (59, 18), .inr (59, 19), .inr (59, 20), .inr (59, 21), .inr (59, 23), .inr (59, 26), .inr (59, 33)], [(some hka01_417, hka01_557, []), (some hka01_421, hka01_552, [])])
def kan_275 : List ai_Nd := []
set_option maxRecDepth 1000000 in
theorem kak_275 : ai_ck [] [] ka_275 [.inl 100000] kan_275 11 = true := by decide +kernel
theorem kah_275 : ai_holds ka_275 := ai_thm kak_275 ai_nil
def hka01_558 : ai_E := [hka01_556, hka01_35, hka01_36, hka01_156, hka01_244, hka01_39, hka01_0, hka01_244, hka01_245, hka01_1, hka01_1, hka01_1, hka01_3, hka01_0, hka01_2, hka01_1, hka01_246, hka01_0, hka01_39]
def hka01_559 : ai_N := (.ofNat 5, .ofNat 400, [(0, .ofNat 0, .ofNat 0)])
def hka01_560 : ai_V := .inl (false, hka01_559)
def hka01_561 : Int × Int := (.ofNat 5, .ofNat 399)
def hka01_562 : Int × Int := (.ofNat 6, .ofNat 400)
def hka01_563 : ai_E := [hka01_561, hka01_35, hka01_36, hka01_156, hka01_244, hka01_39, hka01_0, hka01_244, hka01_245, hka01_562, hka01_1, hka01_1, hka01_3, hka01_0, hka01_2, hka01_1, hka01_246, hka01_0, hka01_39]
/-- NeverAgainModel.look -/
def ka_276 : ai_K := (159, 0, (hka01_558, [hka01_251, hka01_560], [], hka01_416), [.inl 1, .inr (59, 2), .inr (59, 3), .inr (59, 6), .inr (59, 8), .inr (59, 9), .inr (59, 11), .inr (59, 12), .inr (59, 13), .inr (59, 15), .inr (59, 16), .inr (59, 17), .inr (59, 18), .inr (59, 19), .inr (59, 20), .inr (59, 21), .inr (59, 23), .inr (59, 26), .inr (59, 33)], [(some hka01_417, hka01_563, []), (some hka01_421, hka01_558, [])])
def kan_276 : List ai_Nd := []
set_option maxRecDepth 1000000 in
theorem kak_276 : ai_ck [] [] ka_276 [.inl 100000] kan_276 11 = true := by decide +kernel
theorem kah_276 : ai_holds ka_276 := ai_thm kak_276 ai_nil
def hka01_564 : Int × Int := (.ofNat 0, .ofNat 394)
def hka01_565 : ai_E := [hka01_35, hka01_36, hka01_156, hka01_244, hka01_39, hka01_0, hka01_244, hka01_245, hka01_562, hka01_1, hka01_564, hka01_3, hka01_0, hka01_2, hka01_1, hka01_246, hka01_0, hka01_39]
/-- NeverAgainModel.ends -/
def ka_277 : ai_K := (192, 1, (hka01_446, [hka01_251, hka01_543, hka01_524, hka01_528], [], hka01_460), [.inr (59, 2), .inr (59, 3), .inr (59, 6), .inr (59, 8), .inr (59, 9), .inr (59, 11), .inr (59, 12), .inr (59, 13), .inr (59, 15), .inr (59, 16), .inr (59, 17), .inr (59, 18), .inr (59, 19), .inr (59, 20), .inr (59, 21), .inr (59, 23), .inr (59, 26), .inr (59, 33)], [(some hka01_33, hka01_446, []), (some hka01_118, hka01_565, [])])
def kan_277 : List ai_Nd := []
set_option maxRecDepth 1000000 in
theorem kak_277 : ai_ck [ka_276, ka_275, ka_266] [] ka_277 [.inl 100000] kan_277 32 = true := by decide +kernel
theorem kah_277 : ai_holds ka_277 := ai_thm kak_277 (ai_cons kah_276 (ai_cons kah_275 (ai_cons kah_266 ai_nil)))
def hka01_566 : ai_E := [hka01_562, hka01_35, hka01_36, hka01_156, hka01_244, hka01_39, hka01_0, hka01_244, hka01_245, hka01_1, hka01_1, hka01_1, hka01_3, hka01_0, hka01_2, hka01_1, hka01_246, hka01_0, hka01_39]
def hka01_567 : ai_N := (.ofNat 6, .ofNat 400, [(0, .ofNat 0, .ofNat 0)])
def hka01_568 : ai_V := .inl (false, hka01_567)
def hka01_569 : Int × Int := (.ofNat 6, .ofNat 399)
def hka01_570 : ai_E := [hka01_569, hka01_35, hka01_36, hka01_156, hka01_244, hka01_39, hka01_0, hka01_244, hka01_245, hka01_550, hka01_1, hka01_1, hka01_3, hka01_0, hka01_2, hka01_1, hka01_246, hka01_0, hka01_39]
/-- NeverAgainModel.look -/
def ka_278 : ai_K := (159, 0, (hka01_566, [hka01_251, hka01_568], [], hka01_416), [.inl 1, .inr (59, 2), .inr (59, 3), .inr (59, 6), .inr (59, 8), .inr (59, 9), .inr (59, 11), .inr (59, 12), .inr (59, 13), .inr (59, 15), .inr (59, 16), .inr (59, 17), .inr (59, 18), .inr (59, 19), .inr (59, 20), .inr (59, 21), .inr (59, 23), .inr (59, 26), .inr (59, 33)], [(some hka01_417, hka01_570, []), (some hka01_421, hka01_566, [])])
def kan_278 : List ai_Nd := []
set_option maxRecDepth 1000000 in
theorem kak_278 : ai_ck [] [] ka_278 [.inl 100000] kan_278 11 = true := by decide +kernel
theorem kah_278 : ai_holds ka_278 := ai_thm kak_278 ai_nil
/-- NeverAgainModel.is -/
def ka_279 : ai_K := (191, 1, (hka01_446, [hka01_251, hka01_123, hka01_513, hka01_511, hka01_510], [], hka01_460), [.inr (59, 2), .inr (59, 3), .inr (59, 6), .inr (59, 8), .inr (59, 9), .inr (59, 11), .inr (59, 12), .inr (59, 13), .inr (59, 15), .inr (59, 16), .inr (59, 17), .inr (59, 18), .inr (59, 19), .inr (59, 20), .inr (59, 21), .inr (59, 23), .inr (59, 26), .inr (59, 33)], [(some hka01_33, hka01_446, []), (some hka01_118, hka01_537, [])])
def kan_279 : List ai_Nd := []
set_option maxRecDepth 1000000 in
theorem kak_279 : ai_ck [ka_264, ka_263, ka_252] [] ka_279 [.inl 100000] kan_279 33 = true := by decide +kernel
theorem kah_279 : ai_holds ka_279 := ai_thm kak_279 (ai_cons kah_264 (ai_cons kah_263 (ai_cons kah_252 ai_nil)))
/-- NeverAgainModel.is -/
def ka_280 : ai_K := (191, 1, (hka01_446, [hka01_251, hka01_508, hka01_532, hka01_524, hka01_511], [], hka01_460), [.inr (59, 2), .inr (59, 3), .inr (59, 6), .inr (59, 8), .inr (59, 9), .inr (59, 11), .inr (59, 12), .inr (59, 13), .inr (59, 15), .inr (59, 16), .inr (59, 17), .inr (59, 18), .inr (59, 19), .inr (59, 20), .inr (59, 21), .inr (59, 23), .inr (59, 26), .inr (59, 33)], [(some hka01_33, hka01_446, []), (some hka01_118, hka01_516, [])])
def kan_280 : List ai_Nd := []
set_option maxRecDepth 1000000 in
theorem kak_280 : ai_ck [ka_264, ka_263, ka_252] [] ka_280 [.inl 100000] kan_280 33 = true := by decide +kernel
theorem kah_280 : ai_holds ka_280 := ai_thm kak_280 (ai_cons kah_264 (ai_cons kah_263 (ai_cons kah_252 ai_nil)))
/-- NeverAgainModel.ends -/
def ka_281 : ai_K := (192, 1, (hka01_446, [hka01_251, hka01_528, hka01_33, hka01_33], [], hka01_460), [.inr (59, 2), .inr (59, 3), .inr (59, 6), .inr (59, 8), .inr (59, 9), .inr (59, 11), .inr (59, 12), .inr (59, 13), .inr (59, 15), .inr (59, 16), .inr (59, 17), .inr (59, 18), .inr (59, 19), .inr (59, 20), .inr (59, 21), .inr (59, 23), .inr (59, 26), .inr (59, 33)], [(some hka01_33, hka01_446, []), (some hka01_118, hka01_526, []), (some hka01_33, hka01_526, [])])
def kan_281 : List ai_Nd := []
set_option maxRecDepth 1000000 in
theorem kak_281 : ai_ck [ka_266] [] ka_281 [.inl 100000] kan_281 16 = true := by decide +kernel
theorem kah_281 : ai_holds ka_281 := ai_thm kak_281 (ai_cons kah_266 ai_nil)
def hka01_571 : ai_N := (.ofNat 98, .ofNat 98, [])
def hka01_572 : ai_V := .inl (false, hka01_571)
/-- NeverAgainModel.is -/
def ka_282 : ai_K := (191, 1, (hka01_446, [hka01_251, hka01_508, hka01_572, hka01_547, hka01_547], [], hka01_460), [.inr (59, 2), .inr (59, 3), .inr (59, 6), .inr (59, 8), .inr (59, 9), .inr (59, 11), .inr (59, 12), .inr (59, 13), .inr (59, 15), .inr (59, 16), .inr (59, 17), .inr (59, 18), .inr (59, 19), .inr (59, 20), .inr (59, 21), .inr (59, 23), .inr (59, 26), .inr (59, 33)], [(some hka01_33, hka01_446, []), (some hka01_118, hka01_516, [])])
def kan_282 : List ai_Nd := []
set_option maxRecDepth 1000000 in
theorem kak_282 : ai_ck [ka_264, ka_263, ka_252] [] ka_282 [.inl 100000] kan_282 33 = true := by decide +kernel
theorem kah_282 : ai_holds ka_282 := ai_thm kak_282 (ai_cons kah_264 (ai_cons kah_263 (ai_cons kah_252 ai_nil)))
/-- NeverAgainModel.ends -/
def ka_283 : ai_K := (192, 1, (hka01_446, [hka01_251, hka01_536, hka01_33, hka01_33], [], hka01_460), [.inr (59, 2), .inr (59, 3), .inr (59, 6), .inr (59, 8), .inr (59, 9), .inr (59, 11), .inr (59, 12), .inr (59, 13), .inr (59, 15), .inr (59, 16), .inr (59, 17), .inr (59, 18), .inr (59, 19), .inr (59, 20), .inr (59, 21), .inr (59, 23), .inr (59, 26), .inr (59, 33)], [(some hka01_33, hka01_446, []), (some hka01_118, hka01_526, []), (some hka01_33, hka01_526, [])])
def kan_283 : List ai_Nd := []
set_option maxRecDepth 1000000 in
theorem kak_283 : ai_ck [ka_266] [] ka_283 [.inl 100000] kan_283 16 = true := by decide +kernel
theorem kah_283 : ai_holds ka_283 := ai_thm kak_283 (ai_cons kah_266 ai_nil)
def hka01_573 : ai_E := [hka01_35, hka01_36, hka01_156, hka01_244, hka01_39, hka01_0, hka01_244, hka01_245, hka01_514, hka01_514, hka01_525, hka01_3, hka01_0, hka01_2, hka01_1, hka01_246, hka01_0, hka01_39]
def hka01_574 : Int × Int := (.ofNat 0, .ofNat 393)
def hka01_575 : ai_E := [hka01_35, hka01_36, hka01_156, hka01_244, hka01_39, hka01_0, hka01_244, hka01_245, hka01_550, hka01_550, hka01_574, hka01_3, hka01_0, hka01_2, hka01_1, hka01_246, hka01_0, hka01_39]
/-- NeverAgainModel.ruleLine -/
def ka_284 : ai_K := (193, 2, (hka01_446, [hka01_251], [], hka01_460), [.inr (59, 2), .inr (59, 3), .inr (59, 6), .inr (59, 8), .inr (59, 9), .inr (59, 11), .inr (59, 12), .inr (59, 13), .inr (59, 15), .inr (59, 16), .inr (59, 17), .inr (59, 18), .inr (59, 19), .inr (59, 20), .inr (59, 21), .inr (59, 23), .inr (59, 26), .inr (59, 33)], [(some hka01_138, hka01_537, []), (some hka01_311, hka01_446, []), (some hka01_508, hka01_573, []), (some hka01_123, hka01_573, []), (some hka01_118, hka01_575, []), (some hka01_33, hka01_573, [])])
def kan_284 : List ai_Nd := []
set_option maxRecDepth 1000000 in
theorem kak_284 : ai_ck [ka_272, ka_273, ka_274, ka_277, ka_279, ka_280, ka_281, ka_282, ka_283, ka_278] [] ka_284 [.inl 100000] kan_284 71 = true := by decide +kernel
theorem kah_284 : ai_holds ka_284 := ai_thm kak_284 (ai_cons kah_272 (ai_cons kah_273 (ai_cons kah_274 (ai_cons kah_277 (ai_cons kah_279 (ai_cons kah_280 (ai_cons kah_281 (ai_cons kah_282 (ai_cons kah_283 (ai_cons kah_278 ai_nil))))))))))
def hka01_576 : ai_N := (.ofNat 8, .ofNat 8, [])
def hka01_577 : ai_V := .inl (false, hka01_576)
def hka01_578 : ai_N := (.ofNat 5, .ofNat 5, [])
def hka01_579 : ai_V := .inl (false, hka01_578)
/-- NeverAgainModel.lineNow -/
def ka_285 : ai_K := (160, 3, (hka01_446, [hka01_251], [], hka01_460), [.inr (59, 2), .inr (59, 3), .inr (59, 6), .inr (59, 8), .inr (59, 9), .inr (59, 11), .inr (59, 12), .inr (59, 13), .inr (59, 15), .inr (59, 16), .inr (59, 17), .inr (59, 18), .inr (59, 19), .inr (59, 20), .inr (59, 21), .inr (59, 23), .inr (59, 26), .inr (59, 33)], [(some hka01_549, hka01_537, []), (some hka01_33, hka01_573, []), (some hka01_118, hka01_575, []), (some hka01_123, hka01_573, []), (some hka01_508, hka01_573, []), (some hka01_311, hka01_446, []), (some hka01_138, hka01_537, []), (some hka01_577, hka01_573, []), (some hka01_7, hka01_573, []), (some hka01_579, hka01_573, [])])
def kan_285 : List ai_Nd := []
set_option maxRecDepth 1000000 in
theorem kak_285 : ai_ck [ka_265, ka_267, ka_268, ka_269, ka_270, ka_271, ka_272, ka_284] [] ka_285 [.inl 100000] kan_285 50 = true := by decide +kernel
theorem kah_285 : ai_holds ka_285 := ai_thm kak_285 (ai_cons kah_265 (ai_cons kah_267 (ai_cons kah_268 (ai_cons kah_269 (ai_cons kah_270 (ai_cons kah_271 (ai_cons kah_272 (ai_cons kah_284 ai_nil))))))))
/-- NeverAgainModel.needs -/
def ka_286 : ai_K := (98, 0, ([], [hka01_251, hka01_118, hka01_138], [], hka01_429), [], [(none, [], [])])
def kan_286 : List ai_Nd := []
set_option maxRecDepth 1000000 in
theorem kak_286 : ai_ck [] [] ka_286 [.inl 100000] kan_286 4 = true := by decide +kernel
theorem kah_286 : ai_holds ka_286 := ai_thm kak_286 ai_nil
/-- NeverAgainModel.needs -/
def ka_287 : ai_K := (98, 0, ([], [hka01_251, hka01_118, hka01_579], [], hka01_429), [], [(none, [], [])])
def kan_287 : List ai_Nd := []
set_option maxRecDepth 1000000 in
theorem kak_287 : ai_ck [] [] ka_287 [.inl 100000] kan_287 4 = true := by decide +kernel
theorem kah_287 : ai_holds ka_287 := ai_thm kak_287 ai_nil
def hka01_580 : ai_C := .inr (.inr (8, [hka01_252, hka01_253, hka01_49, hka01_51, hka01_254, hka01_255, hka01_257, hka01_258, hka01_260, hka01_262, hka01_263, hka01_194, hka01_265, hka01_267, hka01_268, hka01_74, hka01_270, hka01_78, hka01_272, hka01_274, hka01_579, hka01_78, hka01_277, hka01_279, hka01_280, hka01_281, hka01_283, hka01_284, hka01_285, hka01_286, hka01_287, hka01_288, hka01_289, hka01_291]))
/-- NeverAgainModel.needs -/
def ka_288 : ai_K := (98, 0, (hka01_446, [hka01_251, hka01_33, hka01_579], [], hka01_447), [.inr (59, 2), .inr (59, 3), .inr (59, 6), .inr (59, 8), .inr (59, 9), .inr (59, 11), .inr (59, 12), .inr (59, 13), .inr (59, 15), .inr (59, 16), .inr (59, 17), .inr (59, 18), .inr (59, 19), .inr (59, 20), .inr (59, 21), .inr (59, 23), .inr (59, 26), .inr (59, 33)], [(none, hka01_448, [(59, hka01_580)]), (none, hka01_451, [])])
def kan_288 : List ai_Nd := []
set_option maxRecDepth 1000000 in
theorem kak_288 : ai_ck [] [] ka_288 [.inl 100000] kan_288 14 = true := by decide +kernel
theorem kah_288 : ai_holds ka_288 := ai_thm kak_288 ai_nil
/-- NeverAgainModel.needs -/
def ka_289 : ai_K := (98, 0, ([], [hka01_251, hka01_118, hka01_508], [], hka01_429), [], [(none, [], [])])
def kan_289 : List ai_Nd := []
set_option maxRecDepth 1000000 in
theorem kak_289 : ai_ck [] [] ka_289 [.inl 100000] kan_289 4 = true := by decide +kernel
theorem kah_289 : ai_holds ka_289 := ai_thm kak_289 ai_nil
def hka01_581 : ai_C := .inr (.inr (8, [hka01_252, hka01_253, hka01_49, hka01_51, hka01_254, hka01_255, hka01_257, hka01_258, hka01_260, hka01_262, hka01_263, hka01_194, hka01_265, hka01_267, hka01_268, hka01_74, hka01_270, hka01_78, hka01_272, hka01_274, hka01_508, hka01_78, hka01_277, hka01_279, hka01_280, hka01_281, hka01_283, hka01_284, hka01_285, hka01_286, hka01_287, hka01_288, hka01_289, hka01_291]))
/-- NeverAgainModel.needs -/
def ka_290 : ai_K := (98, 0, (hka01_446, [hka01_251, hka01_33, hka01_508], [], hka01_447), [.inr (59, 2), .inr (59, 3), .inr (59, 6), .inr (59, 8), .inr (59, 9), .inr (59, 11), .inr (59, 12), .inr (59, 13), .inr (59, 15), .inr (59, 16), .inr (59, 17), .inr (59, 18), .inr (59, 19), .inr (59, 20), .inr (59, 21), .inr (59, 23), .inr (59, 26), .inr (59, 33)], [(none, hka01_448, [(59, hka01_581)]), (none, hka01_451, [])])
def kan_290 : List ai_Nd := []
set_option maxRecDepth 1000000 in
theorem kak_290 : ai_ck [] [] ka_290 [.inl 100000] kan_290 14 = true := by decide +kernel
theorem kah_290 : ai_holds ka_290 := ai_thm kak_290 ai_nil
def hka01_582 : ai_C := .inr (.inr (8, [hka01_252, hka01_253, hka01_49, hka01_51, hka01_254, hka01_255, hka01_257, hka01_258, hka01_260, hka01_262, hka01_263, hka01_194, hka01_265, hka01_267, hka01_268, hka01_74, hka01_270, hka01_78, hka01_272, hka01_274, hka01_138, hka01_78, hka01_277, hka01_279, hka01_280, hka01_281, hka01_283, hka01_284, hka01_285, hka01_286, hka01_287, hka01_288, hka01_289, hka01_291]))
/-- NeverAgainModel.needs -/
def ka_291 : ai_K := (98, 0, (hka01_446, [hka01_251, hka01_33, hka01_138], [], hka01_447), [.inr (59, 2), .inr (59, 3), .inr (59, 6), .inr (59, 8), .inr (59, 9), .inr (59, 11), .inr (59, 12), .inr (59, 13), .inr (59, 15), .inr (59, 16), .inr (59, 17), .inr (59, 18), .inr (59, 19), .inr (59, 20), .inr (59, 21), .inr (59, 23), .inr (59, 26), .inr (59, 33)], [(none, hka01_448, [(59, hka01_582)]), (none, hka01_451, [])])
def kan_291 : List ai_Nd := []
set_option maxRecDepth 1000000 in
theorem kak_291 : ai_ck [] [] ka_291 [.inl 100000] kan_291 14 = true := by decide +kernel
theorem kah_291 : ai_holds ka_291 := ai_thm kak_291 ai_nil

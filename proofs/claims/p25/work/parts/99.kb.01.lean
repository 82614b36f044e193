/-! CONTRACTS found by wip/ai/an.py, each held by the kernel. -/
def hkb01_0 : Int × Int := (.ofNat 0, .ofNat 12)
def hkb01_1 : Int × Int := (.ofNat 0, .ofNat 6)
def hkb01_2 : Int × Int := (.ofNat 0, .ofNat 4)
def hkb01_3 : ai_E := [hkb01_0, hkb01_1, hkb01_2]
def hkb01_4 : ai_V := .inr (some (.ref 0))
def hkb01_5 : ai_V := .inr none
def hkb01_6 : ai_V := .inr (some (.ref 15))
def hkb01_7 : ai_V := .inr (some (.ref 17))
def hkb01_8 : ai_V := .inr (some (.ref 21))
def hkb01_9 : ai_V := .inr (some (.ref 26))
def hkb01_10 : ai_V := .inr (some (.ref 32))
def hkb01_11 : ai_V := .inr (some (.ref 35))
def hkb01_12 : ai_V := .inr (some (.ref 34))
def hkb01_13 : ai_V := .inr (some (.ref 50))
def hkb01_14 : ai_V := .inr (some (.ref 33))
def hkb01_15 : ai_V := .inr (some (.ref 1))
def hkb01_16 : ai_V := .inr (some (.ref 8))
def hkb01_17 : ai_N := (.ofNat 0, .ofNat 12, [(0, .ofNat 0, .ofNat 0)])
def hkb01_18 : ai_V := .inl (false, hkb01_17)
def hkb01_19 : ai_N := (.ofNat 0, .ofNat 6, [(1, .ofNat 0, .ofNat 0)])
def hkb01_20 : ai_V := .inl (false, hkb01_19)
def hkb01_21 : ai_N := (.ofNat 0, .ofNat 4, [(2, .ofNat 0, .ofNat 0)])
def hkb01_22 : ai_V := .inl (false, hkb01_21)
def hkb01_23 : ai_C := .inr (.inr (7, [hkb01_6, hkb01_7, hkb01_8, hkb01_9, hkb01_10, hkb01_11, hkb01_12, hkb01_13, hkb01_14, hkb01_15, hkb01_16, hkb01_18, hkb01_20, hkb01_22]))
def hkb01_24 : Bool × Option ai_C := (false, some hkb01_23)
def hkb01_25 : Bool × Option ai_C := (false, none)
def hkb01_26 : ai_N := (.ofNat 0, .ofNat 1, [])
def hkb01_27 : ai_C := .inl (.boolean, [(2, hkb01_26)])
def hkb01_28 : Bool × Option ai_C := (false, some hkb01_27)
def hkb01_29 : ai_W := [hkb01_24, hkb01_25, hkb01_25, hkb01_25, hkb01_25, hkb01_25, hkb01_25, hkb01_25, hkb01_25, hkb01_25, hkb01_25, hkb01_25, hkb01_25, hkb01_25, hkb01_25, hkb01_25, hkb01_25, hkb01_25, hkb01_25, hkb01_25, hkb01_25, hkb01_25, hkb01_25, hkb01_25, hkb01_25, hkb01_25, hkb01_25, hkb01_25, hkb01_25, hkb01_25, hkb01_25, hkb01_25, hkb01_25, hkb01_25, hkb01_28, hkb01_25, hkb01_25, hkb01_25, hkb01_25, hkb01_25, hkb01_25, hkb01_25, hkb01_25, hkb01_25, hkb01_25, hkb01_25, hkb01_25, hkb01_25, hkb01_25, hkb01_25, hkb01_25, hkb01_25, hkb01_25, hkb01_25, hkb01_25, hkb01_25, hkb01_25, hkb01_25, hkb01_25, hkb01_25, hkb01_25, hkb01_25, hkb01_25, hkb01_25, hkb01_25, hkb01_25, hkb01_25, hkb01_25, hkb01_25, hkb01_25, hkb01_25, hkb01_25, hkb01_25, hkb01_25, hkb01_25, hkb01_25]
/-- NeverAgain.forgetImages -/
def kb_246 : ai_K := (95, 0, (hkb01_3, [hkb01_4, hkb01_5], [], hkb01_29), [.inr (0, 11), .inr (0, 12), .inr (0, 13)], [(none, hkb01_3, [(34, hkb01_27)])])
def hkb01_30 : Int × Int := (.ofNat 0, .ofNat 2)
def hkb01_31 : ai_E := [hkb01_0, hkb01_1, hkb01_2, hkb01_30]
def hkb01_32 : ai_N := (.ofNat 0, .ofNat 2, [(3, .ofNat 0, .ofNat 0)])
def hkb01_33 : ai_V := .inl (false, hkb01_32)
def hkb01_34 : Bool × Option ai_C := (true, some hkb01_27)
def hkb01_35 : ai_W := [hkb01_24, hkb01_25, hkb01_25, hkb01_25, hkb01_25, hkb01_25, hkb01_25, hkb01_25, hkb01_25, hkb01_25, hkb01_25, hkb01_25, hkb01_25, hkb01_25, hkb01_25, hkb01_25, hkb01_25, hkb01_25, hkb01_25, hkb01_25, hkb01_25, hkb01_25, hkb01_25, hkb01_25, hkb01_25, hkb01_25, hkb01_25, hkb01_25, hkb01_25, hkb01_25, hkb01_25, hkb01_25, hkb01_25, hkb01_25, hkb01_34, hkb01_25, hkb01_25, hkb01_25, hkb01_25, hkb01_25, hkb01_25, hkb01_25, hkb01_25, hkb01_25, hkb01_25, hkb01_25, hkb01_25, hkb01_25, hkb01_25, hkb01_25, hkb01_25, hkb01_25, hkb01_25, hkb01_25, hkb01_25, hkb01_25, hkb01_25, hkb01_25, hkb01_25, hkb01_25, hkb01_25, hkb01_25, hkb01_25, hkb01_25, hkb01_25, hkb01_25, hkb01_25, hkb01_25, hkb01_25, hkb01_25, hkb01_25, hkb01_25, hkb01_25, hkb01_25, hkb01_25, hkb01_25]
def kbn_246 : List ai_Nd := [(2, (hkb01_31, [hkb01_4, hkb01_33], [], hkb01_35), [.inl 1], [.inl 99997, .inl 1, .inr (true, .ofNat 2, 3), .inl 100000])]
set_option maxRecDepth 1000000 in
theorem kbk_246 : ai_ck [] [] kb_246 [.inl 100000, .inl 0, .inl 0, .inl 0] kbn_246 12 = true := by decide +kernel
theorem kbh_246 : ai_holds kb_246 := ai_thm kbk_246 ai_nil
def hkb01_36 : Int × Int := (.ofNat 4, .ofNat 16)
def hkb01_37 : Int × Int := (.ofNat 1, .ofNat 4)
def hkb01_38 : Int × Int := (.negSucc 2147483647, .ofNat 2147483647)
def hkb01_39 : Int × Int := (.ofNat 0, .ofNat 60)
def hkb01_40 : Int × Int := (.ofNat 0, .ofNat 5)
def hkb01_41 : Int × Int := (.ofNat 0, .ofNat 400)
def hkb01_42 : Int × Int := (.ofNat 0, .ofNat 3)
def hkb01_43 : ai_E := [hkb01_0, hkb01_1, hkb01_2, hkb01_36, hkb01_37, hkb01_38, hkb01_38, hkb01_38, hkb01_39, hkb01_40, hkb01_2, hkb01_41, hkb01_1, hkb01_41, hkb01_38, hkb01_41, hkb01_42, hkb01_41, hkb01_38]
def hkb01_44 : ai_C := .inr (.inr (7, [hkb01_6, hkb01_7, hkb01_8, hkb01_9, hkb01_10, hkb01_11, hkb01_12, hkb01_13, hkb01_14, hkb01_16, hkb01_15, hkb01_18, hkb01_20, hkb01_22]))
def hkb01_45 : Bool × Option ai_C := (false, some hkb01_44)
def hkb01_46 : ai_V := .inr (some (.ref 2))
def hkb01_47 : ai_V := .inr (some (.ref 3))
def hkb01_48 : ai_V := .inr (some (.ref 4))
def hkb01_49 : ai_V := .inr (some (.ref 5))
def hkb01_50 : ai_V := .inr (some (.ref 6))
def hkb01_51 : ai_V := .inr (some (.ref 7))
def hkb01_52 : ai_N := (.ofNat 4, .ofNat 16, [(3, .ofNat 0, .ofNat 0)])
def hkb01_53 : ai_V := .inl (false, hkb01_52)
def hkb01_54 : ai_N := (.ofNat 1, .ofNat 4, [(4, .ofNat 0, .ofNat 0)])
def hkb01_55 : ai_V := .inl (false, hkb01_54)
def hkb01_56 : ai_N := (.negSucc 2147483647, .ofNat 2147483647, [(5, .ofNat 0, .ofNat 0)])
def hkb01_57 : ai_V := .inl (false, hkb01_56)
def hkb01_58 : ai_N := (.negSucc 2147483647, .ofNat 2147483647, [(6, .ofNat 0, .ofNat 0)])
def hkb01_59 : ai_V := .inl (false, hkb01_58)
def hkb01_60 : ai_N := (.negSucc 2147483647, .ofNat 2147483647, [(7, .ofNat 0, .ofNat 0)])
def hkb01_61 : ai_V := .inl (false, hkb01_60)
def hkb01_62 : ai_N := (.ofNat 0, .ofNat 60, [(8, .ofNat 0, .ofNat 0)])
def hkb01_63 : ai_V := .inl (false, hkb01_62)
def hkb01_64 : ai_N := (.ofNat 0, .ofNat 5, [(9, .ofNat 0, .ofNat 0)])
def hkb01_65 : ai_V := .inl (false, hkb01_64)
def hkb01_66 : ai_N := (.ofNat 0, .ofNat 4, [(10, .ofNat 0, .ofNat 0)])
def hkb01_67 : ai_V := .inl (false, hkb01_66)
def hkb01_68 : ai_C := .inr (.inr (6, [hkb01_46, hkb01_47, hkb01_48, hkb01_49, hkb01_50, hkb01_51, hkb01_53, hkb01_55, hkb01_57, hkb01_59, hkb01_61, hkb01_63, hkb01_65, hkb01_67]))
def hkb01_69 : Bool × Option ai_C := (false, some hkb01_68)
def hkb01_70 : ai_N := (.negSucc 2147483647, .ofNat 2147483647, [])
def hkb01_71 : ai_C := .inl (.int, [(4, hkb01_70)])
def hkb01_72 : Bool × Option ai_C := (false, some hkb01_71)
def hkb01_73 : ai_C := .inl (.int, [(17, hkb01_70)])
def hkb01_74 : Bool × Option ai_C := (false, some hkb01_73)
def hkb01_75 : ai_C := .inl (.int, [(60, hkb01_70)])
def hkb01_76 : Bool × Option ai_C := (false, some hkb01_75)
def hkb01_77 : ai_C := .inl (.int, [(5, hkb01_70)])
def hkb01_78 : Bool × Option ai_C := (false, some hkb01_77)
def hkb01_79 : ai_V := .inr (some (.ref 16))
def hkb01_80 : ai_N := (.ofNat 0, .ofNat 400, [(11, .ofNat 0, .ofNat 0)])
def hkb01_81 : ai_V := .inl (false, hkb01_80)
def hkb01_82 : ai_N := (.ofNat 0, .ofNat 6, [(12, .ofNat 0, .ofNat 0)])
def hkb01_83 : ai_V := .inl (false, hkb01_82)
def hkb01_84 : ai_N := (.ofNat 0, .ofNat 400, [(13, .ofNat 0, .ofNat 0)])
def hkb01_85 : ai_V := .inl (false, hkb01_84)
def hkb01_86 : ai_N := (.negSucc 2147483647, .ofNat 2147483647, [(14, .ofNat 0, .ofNat 0)])
def hkb01_87 : ai_V := .inl (false, hkb01_86)
def hkb01_88 : ai_N := (.ofNat 0, .ofNat 400, [(15, .ofNat 0, .ofNat 0)])
def hkb01_89 : ai_V := .inl (false, hkb01_88)
def hkb01_90 : ai_N := (.ofNat 0, .ofNat 3, [(16, .ofNat 0, .ofNat 0)])
def hkb01_91 : ai_V := .inl (false, hkb01_90)
def hkb01_92 : ai_N := (.ofNat 0, .ofNat 400, [(17, .ofNat 0, .ofNat 0)])
def hkb01_93 : ai_V := .inl (false, hkb01_92)
def hkb01_94 : ai_N := (.negSucc 2147483647, .ofNat 2147483647, [(18, .ofNat 0, .ofNat 0)])
def hkb01_95 : ai_V := .inl (false, hkb01_94)
def hkb01_96 : ai_C := .inr (.inr (5, [hkb01_79, hkb01_81, hkb01_83, hkb01_85, hkb01_5, hkb01_87, hkb01_89, hkb01_91, hkb01_93, hkb01_95]))
def hkb01_97 : Bool × Option ai_C := (false, some hkb01_96)
def hkb01_98 : ai_N := (.negSucc 127, .ofNat 127, [])
def hkb01_99 : ai_C := .inl (.byte, [(400, hkb01_98)])
def hkb01_100 : Bool × Option ai_C := (false, some hkb01_99)
def hkb01_101 : ai_W := [hkb01_45, hkb01_69, hkb01_72, hkb01_74, hkb01_76, hkb01_78, hkb01_72, hkb01_72, hkb01_25, hkb01_25, hkb01_25, hkb01_25, hkb01_25, hkb01_25, hkb01_25, hkb01_97, hkb01_100, hkb01_25, hkb01_25, hkb01_25, hkb01_25, hkb01_25, hkb01_25, hkb01_25, hkb01_25, hkb01_25, hkb01_25, hkb01_25, hkb01_25, hkb01_25, hkb01_25, hkb01_25, hkb01_25, hkb01_25, hkb01_28, hkb01_25, hkb01_25, hkb01_25, hkb01_25, hkb01_25, hkb01_25, hkb01_25, hkb01_25, hkb01_25, hkb01_25, hkb01_25, hkb01_25, hkb01_25, hkb01_25, hkb01_25, hkb01_25, hkb01_25, hkb01_25, hkb01_25, hkb01_25, hkb01_25, hkb01_25, hkb01_25, hkb01_25, hkb01_25, hkb01_25, hkb01_25, hkb01_25, hkb01_25, hkb01_25, hkb01_25, hkb01_25, hkb01_25, hkb01_25, hkb01_25, hkb01_25, hkb01_25, hkb01_25, hkb01_25, hkb01_25, hkb01_25]
def hkb01_102 : ai_N := (.negSucc 409, .negSucc 9, [])
def hkb01_103 : ai_V := .inl (false, hkb01_102)
def hkb01_104 : ai_N := (.ofNat 1, .ofNat 6, [])
def hkb01_105 : ai_V := .inl (false, hkb01_104)
def hkb01_106 : ai_C := .inr (.inr (7, [hkb01_6, hkb01_7, hkb01_8, hkb01_9, hkb01_10, hkb01_11, hkb01_12, hkb01_13, hkb01_14, hkb01_16, hkb01_15, hkb01_18, hkb01_105, hkb01_22]))
def hkb01_107 : ai_N := (.ofNat 4, .ofNat 16, [])
def hkb01_108 : ai_V := .inl (false, hkb01_107)
def hkb01_109 : ai_N := (.ofNat 1, .ofNat 4, [])
def hkb01_110 : ai_V := .inl (false, hkb01_109)
def hkb01_111 : ai_V := .inl (false, hkb01_70)
def hkb01_112 : ai_N := (.ofNat 0, .ofNat 60, [])
def hkb01_113 : ai_V := .inl (false, hkb01_112)
def hkb01_114 : ai_N := (.ofNat 0, .ofNat 5, [])
def hkb01_115 : ai_V := .inl (false, hkb01_114)
def hkb01_116 : ai_N := (.ofNat 0, .ofNat 4, [])
def hkb01_117 : ai_V := .inl (false, hkb01_116)
def hkb01_118 : ai_C := .inr (.inr (6, [hkb01_46, hkb01_47, hkb01_48, hkb01_49, hkb01_50, hkb01_51, hkb01_108, hkb01_110, hkb01_111, hkb01_111, hkb01_111, hkb01_113, hkb01_115, hkb01_117]))
def hkb01_119 : ai_N := (.ofNat 0, .ofNat 0, [])
def hkb01_120 : ai_V := .inl (false, hkb01_119)
def hkb01_121 : ai_N := (.ofNat 0, .ofNat 400, [])
def hkb01_122 : ai_V := .inl (false, hkb01_121)
def hkb01_123 : ai_N := (.ofNat 0, .ofNat 3, [])
def hkb01_124 : ai_V := .inl (false, hkb01_123)
def hkb01_125 : ai_C := .inr (.inr (5, [hkb01_79, hkb01_120, hkb01_105, hkb01_122, hkb01_15, hkb01_111, hkb01_122, hkb01_124, hkb01_122, hkb01_111]))
def hkb01_126 : ai_N := (.ofNat 401, .ofNat 401, [])
def hkb01_127 : ai_V := .inl (false, hkb01_126)
def hkb01_128 : ai_C := .inr (.inr (7, [hkb01_6, hkb01_7, hkb01_8, hkb01_9, hkb01_10, hkb01_11, hkb01_12, hkb01_13, hkb01_14, hkb01_15, hkb01_16, hkb01_120, hkb01_120, hkb01_22]))
def hkb01_129 : ai_C := .inr (.inr (5, [hkb01_79, hkb01_120, hkb01_120, hkb01_122, hkb01_15, hkb01_111, hkb01_122, hkb01_124, hkb01_122, hkb01_111]))
def hkb01_130 : ai_N := (.ofNat 3, .ofNat 3, [])
def hkb01_131 : ai_V := .inl (false, hkb01_130)
def hkb01_132 : ai_C := .inr (.inr (5, [hkb01_79, hkb01_120, hkb01_120, hkb01_122, hkb01_15, hkb01_111, hkb01_122, hkb01_131, hkb01_122, hkb01_111]))
def hkb01_133 : ai_N := (.negSucc 408, .negSucc 9, [])
def hkb01_134 : ai_V := .inl (false, hkb01_133)
def hkb01_135 : Int × Int := (.ofNat 1, .ofNat 400)
def hkb01_136 : ai_E := [hkb01_0, hkb01_1, hkb01_2, hkb01_36, hkb01_37, hkb01_38, hkb01_38, hkb01_38, hkb01_39, hkb01_40, hkb01_2, hkb01_135, hkb01_1, hkb01_41, hkb01_38, hkb01_41, hkb01_42, hkb01_41, hkb01_38]
def hkb01_137 : ai_N := (.ofNat 2, .ofNat 2, [])
def hkb01_138 : ai_V := .inl (false, hkb01_137)
def hkb01_139 : ai_C := .inr (.inr (7, [hkb01_6, hkb01_7, hkb01_8, hkb01_9, hkb01_10, hkb01_11, hkb01_12, hkb01_13, hkb01_14, hkb01_16, hkb01_15, hkb01_18, hkb01_138, hkb01_22]))
def hkb01_140 : ai_N := (.ofNat 0, .ofNat 399, [])
def hkb01_141 : ai_V := .inl (false, hkb01_140)
def hkb01_142 : ai_N := (.ofNat 1, .ofNat 400, [])
def hkb01_143 : ai_V := .inl (false, hkb01_142)
def hkb01_144 : ai_C := .inr (.inr (5, [hkb01_79, hkb01_120, hkb01_138, hkb01_141, hkb01_15, hkb01_111, hkb01_143, hkb01_138, hkb01_141, hkb01_111]))
def hkb01_145 : ai_N := (.ofNat 2, .ofNat 5, [])
def hkb01_146 : ai_V := .inl (false, hkb01_145)
def hkb01_147 : ai_C := .inr (.inr (7, [hkb01_6, hkb01_7, hkb01_8, hkb01_9, hkb01_10, hkb01_11, hkb01_12, hkb01_13, hkb01_14, hkb01_16, hkb01_15, hkb01_18, hkb01_146, hkb01_22]))
def hkb01_148 : ai_C := .inr (.inr (5, [hkb01_79, hkb01_120, hkb01_146, hkb01_122, hkb01_15, hkb01_111, hkb01_143, hkb01_120, hkb01_122, hkb01_111]))
def hkb01_149 : ai_N := (.ofNat 2, .ofNat 6, [])
def hkb01_150 : ai_V := .inl (false, hkb01_149)
def hkb01_151 : ai_C := .inr (.inr (7, [hkb01_6, hkb01_7, hkb01_8, hkb01_9, hkb01_10, hkb01_11, hkb01_12, hkb01_13, hkb01_14, hkb01_16, hkb01_15, hkb01_18, hkb01_150, hkb01_22]))
def hkb01_152 : ai_C := .inr (.inr (5, [hkb01_79, hkb01_120, hkb01_150, hkb01_122, hkb01_15, hkb01_111, hkb01_122, hkb01_131, hkb01_122, hkb01_111]))
def hkb01_153 : ai_N := (.ofNat 1, .ofNat 5, [])
def hkb01_154 : ai_V := .inl (false, hkb01_153)
def hkb01_155 : ai_C := .inr (.inr (7, [hkb01_6, hkb01_7, hkb01_8, hkb01_9, hkb01_10, hkb01_11, hkb01_12, hkb01_13, hkb01_14, hkb01_16, hkb01_15, hkb01_18, hkb01_154, hkb01_22]))
def hkb01_156 : ai_N := (.ofNat 1, .ofNat 1, [])
def hkb01_157 : ai_V := .inl (false, hkb01_156)
def hkb01_158 : ai_C := .inr (.inr (5, [hkb01_79, hkb01_120, hkb01_154, hkb01_141, hkb01_15, hkb01_111, hkb01_122, hkb01_157, hkb01_141, hkb01_111]))
/-- NeverAgain.text -/
def kb_247 : ai_K := (7, 8, (hkb01_43, [hkb01_4, hkb01_5, hkb01_5], [], hkb01_101), [.inr (0, 11), .inr (0, 12), .inr (0, 13), .inr (1, 6), .inr (1, 7), .inr (1, 8), .inr (1, 9), .inr (1, 10), .inr (1, 11), .inr (1, 12), .inr (1, 13), .inr (15, 1), .inr (15, 2), .inr (15, 3), .inr (15, 5), .inr (15, 6), .inr (15, 7), .inr (15, 8), .inr (15, 9)], [(some hkb01_103, hkb01_43, [(0, hkb01_106), (1, hkb01_118), (2, hkb01_71), (3, hkb01_73), (4, hkb01_75), (5, hkb01_77), (6, hkb01_71), (7, hkb01_71), (15, hkb01_125)]), (some hkb01_127, hkb01_43, [(0, hkb01_128), (1, hkb01_118), (2, hkb01_71), (3, hkb01_73), (4, hkb01_75), (5, hkb01_77), (6, hkb01_71), (7, hkb01_71), (15, hkb01_129), (34, hkb01_27)]), (some hkb01_122, hkb01_43, [(0, hkb01_128), (1, hkb01_118), (2, hkb01_71), (3, hkb01_73), (4, hkb01_75), (5, hkb01_77), (6, hkb01_71), (7, hkb01_71), (15, hkb01_132), (34, hkb01_27)]), (some hkb01_134, hkb01_136, [(0, hkb01_139), (1, hkb01_118), (2, hkb01_71), (3, hkb01_73), (4, hkb01_75), (5, hkb01_77), (6, hkb01_71), (7, hkb01_71), (15, hkb01_144)]), (some hkb01_103, hkb01_136, [(0, hkb01_147), (1, hkb01_118), (2, hkb01_71), (3, hkb01_73), (4, hkb01_75), (5, hkb01_77), (6, hkb01_71), (7, hkb01_71), (15, hkb01_148)]), (some hkb01_103, hkb01_43, [(0, hkb01_151), (1, hkb01_118), (2, hkb01_71), (3, hkb01_73), (4, hkb01_75), (5, hkb01_77), (6, hkb01_71), (7, hkb01_71), (15, hkb01_152)]), (some hkb01_134, hkb01_136, [(0, hkb01_155), (1, hkb01_118), (2, hkb01_71), (3, hkb01_73), (4, hkb01_75), (5, hkb01_77), (6, hkb01_71), (7, hkb01_71), (15, hkb01_158)])])
def kbn_247 : List ai_Nd := []
set_option maxRecDepth 1000000 in
theorem kbk_247 : ai_ck [kb_246, kb_245] [] kb_247 [.inl 100000] kbn_247 36 = true := by decide +kernel
theorem kbh_247 : ai_holds kb_247 := ai_thm kbk_247 (ai_cons kbh_246 (ai_cons kbh_245 ai_nil))
def hkb01_159 : ai_W := [hkb01_45, hkb01_25, hkb01_25, hkb01_25, hkb01_25, hkb01_25, hkb01_25, hkb01_25, hkb01_25, hkb01_25, hkb01_25, hkb01_25, hkb01_25, hkb01_25, hkb01_25, hkb01_25, hkb01_25, hkb01_25, hkb01_25, hkb01_25, hkb01_25, hkb01_25, hkb01_25, hkb01_25, hkb01_25, hkb01_25, hkb01_25, hkb01_25, hkb01_25, hkb01_25, hkb01_25, hkb01_25, hkb01_25, hkb01_25, hkb01_25, hkb01_25, hkb01_25, hkb01_25, hkb01_25, hkb01_25, hkb01_25, hkb01_25, hkb01_25, hkb01_25, hkb01_25, hkb01_25, hkb01_25, hkb01_25, hkb01_25, hkb01_25, hkb01_25, hkb01_25, hkb01_25, hkb01_25, hkb01_25, hkb01_25, hkb01_25, hkb01_25, hkb01_25, hkb01_25, hkb01_25, hkb01_25, hkb01_25, hkb01_25, hkb01_25, hkb01_25, hkb01_25, hkb01_25, hkb01_25, hkb01_25, hkb01_25, hkb01_25, hkb01_25, hkb01_25, hkb01_25, hkb01_25]
/-- NeverAgain.fault -/
def kb_248 : ai_K := (9, 0, (hkb01_3, [hkb01_4], [], hkb01_159), [.inr (0, 11), .inr (0, 12), .inr (0, 13)], [(some hkb01_20, hkb01_3, [])])
def kbn_248 : List ai_Nd := []
set_option maxRecDepth 1000000 in
theorem kbk_248 : ai_ck [] [] kb_248 [.inl 100000] kbn_248 4 = true := by decide +kernel
theorem kbh_248 : ai_holds kb_248 := ai_thm kbk_248 ai_nil
def hkb01_160 : ai_E := [hkb01_38, hkb01_0, hkb01_1, hkb01_2, hkb01_36, hkb01_37, hkb01_38, hkb01_38, hkb01_38, hkb01_39, hkb01_40, hkb01_2]
def hkb01_161 : ai_N := (.negSucc 2147483647, .ofNat 2147483647, [(0, .ofNat 0, .ofNat 0)])
def hkb01_162 : ai_V := .inl (false, hkb01_161)
def hkb01_163 : ai_N := (.ofNat 0, .ofNat 12, [(1, .ofNat 0, .ofNat 0)])
def hkb01_164 : ai_V := .inl (false, hkb01_163)
def hkb01_165 : ai_N := (.ofNat 0, .ofNat 6, [(2, .ofNat 0, .ofNat 0)])
def hkb01_166 : ai_V := .inl (false, hkb01_165)
def hkb01_167 : ai_N := (.ofNat 0, .ofNat 4, [(3, .ofNat 0, .ofNat 0)])
def hkb01_168 : ai_V := .inl (false, hkb01_167)
def hkb01_169 : ai_C := .inr (.inr (7, [hkb01_6, hkb01_7, hkb01_8, hkb01_9, hkb01_10, hkb01_11, hkb01_12, hkb01_13, hkb01_14, hkb01_16, hkb01_15, hkb01_164, hkb01_166, hkb01_168]))
def hkb01_170 : Bool × Option ai_C := (false, some hkb01_169)
def hkb01_171 : ai_V := .inr (some (.ref 9))
def hkb01_172 : ai_V := .inr (some (.ref 10))
def hkb01_173 : ai_V := .inr (some (.ref 11))
def hkb01_174 : ai_V := .inr (some (.ref 12))
def hkb01_175 : ai_V := .inr (some (.ref 13))
def hkb01_176 : ai_V := .inr (some (.ref 14))
def hkb01_177 : ai_N := (.ofNat 4, .ofNat 16, [(4, .ofNat 0, .ofNat 0)])
def hkb01_178 : ai_V := .inl (false, hkb01_177)
def hkb01_179 : ai_N := (.ofNat 1, .ofNat 4, [(5, .ofNat 0, .ofNat 0)])
def hkb01_180 : ai_V := .inl (false, hkb01_179)
def hkb01_181 : ai_N := (.negSucc 2147483647, .ofNat 2147483647, [(8, .ofNat 0, .ofNat 0)])
def hkb01_182 : ai_V := .inl (false, hkb01_181)
def hkb01_183 : ai_N := (.ofNat 0, .ofNat 60, [(9, .ofNat 0, .ofNat 0)])
def hkb01_184 : ai_V := .inl (false, hkb01_183)
def hkb01_185 : ai_N := (.ofNat 0, .ofNat 5, [(10, .ofNat 0, .ofNat 0)])
def hkb01_186 : ai_V := .inl (false, hkb01_185)
def hkb01_187 : ai_N := (.ofNat 0, .ofNat 4, [(11, .ofNat 0, .ofNat 0)])
def hkb01_188 : ai_V := .inl (false, hkb01_187)
def hkb01_189 : ai_C := .inr (.inr (6, [hkb01_171, hkb01_172, hkb01_173, hkb01_174, hkb01_175, hkb01_176, hkb01_178, hkb01_180, hkb01_59, hkb01_61, hkb01_182, hkb01_184, hkb01_186, hkb01_188]))
def hkb01_190 : Bool × Option ai_C := (false, some hkb01_189)
def hkb01_191 : ai_W := [hkb01_170, hkb01_25, hkb01_25, hkb01_25, hkb01_25, hkb01_25, hkb01_25, hkb01_25, hkb01_190, hkb01_25, hkb01_25, hkb01_25, hkb01_25, hkb01_25, hkb01_25, hkb01_25, hkb01_25, hkb01_25, hkb01_25, hkb01_25, hkb01_25, hkb01_25, hkb01_25, hkb01_25, hkb01_25, hkb01_25, hkb01_25, hkb01_25, hkb01_25, hkb01_25, hkb01_25, hkb01_25, hkb01_25, hkb01_25, hkb01_25, hkb01_25, hkb01_25, hkb01_25, hkb01_25, hkb01_25, hkb01_25, hkb01_25, hkb01_25, hkb01_25, hkb01_25, hkb01_25, hkb01_25, hkb01_25, hkb01_25, hkb01_25, hkb01_25, hkb01_25, hkb01_25, hkb01_25, hkb01_25, hkb01_25, hkb01_25, hkb01_25, hkb01_25, hkb01_25, hkb01_25, hkb01_25, hkb01_25, hkb01_25, hkb01_25, hkb01_25, hkb01_25, hkb01_25, hkb01_25, hkb01_25, hkb01_25, hkb01_25, hkb01_25, hkb01_25, hkb01_25, hkb01_25]
def hkb01_192 : ai_E := [hkb01_40, hkb01_0, hkb01_1, hkb01_2, hkb01_36, hkb01_37, hkb01_38, hkb01_38, hkb01_38, hkb01_39, hkb01_40, hkb01_2]
def hkb01_193 : ai_N := (.negSucc 0, .negSucc 0, [])
def hkb01_194 : ai_V := .inl (false, hkb01_193)
/-- NeverAgain.rule -/
def kb_249 : ai_K := (11, 0, (hkb01_160, [hkb01_4, hkb01_162], [], hkb01_191), [.inl 1, .inr (0, 11), .inr (0, 12), .inr (0, 13), .inr (8, 6), .inr (8, 7), .inr (8, 8), .inr (8, 9), .inr (8, 10), .inr (8, 11), .inr (8, 12), .inr (8, 13)], [(some hkb01_111, hkb01_192, []), (some hkb01_194, hkb01_160, [])])
def kbn_249 : List ai_Nd := []
set_option maxRecDepth 1000000 in
theorem kbk_249 : ai_ck [] [] kb_249 [.inl 100000] kbn_249 7 = true := by decide +kernel
theorem kbh_249 : ai_holds kb_249 := ai_thm kbk_249 ai_nil
def hkb01_195 : ai_W := [hkb01_170, hkb01_25, hkb01_25, hkb01_25, hkb01_25, hkb01_25, hkb01_25, hkb01_25, hkb01_190, hkb01_25, hkb01_25, hkb01_76, hkb01_25, hkb01_25, hkb01_25, hkb01_25, hkb01_25, hkb01_25, hkb01_25, hkb01_25, hkb01_25, hkb01_25, hkb01_25, hkb01_25, hkb01_25, hkb01_25, hkb01_25, hkb01_25, hkb01_25, hkb01_25, hkb01_25, hkb01_25, hkb01_25, hkb01_25, hkb01_25, hkb01_25, hkb01_25, hkb01_25, hkb01_25, hkb01_25, hkb01_25, hkb01_25, hkb01_25, hkb01_25, hkb01_25, hkb01_25, hkb01_25, hkb01_25, hkb01_25, hkb01_25, hkb01_25, hkb01_25, hkb01_25, hkb01_25, hkb01_25, hkb01_25, hkb01_25, hkb01_25, hkb01_25, hkb01_25, hkb01_25, hkb01_25, hkb01_25, hkb01_25, hkb01_25, hkb01_25, hkb01_25, hkb01_25, hkb01_25, hkb01_25, hkb01_25, hkb01_25, hkb01_25, hkb01_25, hkb01_25, hkb01_25]
def hkb01_196 : Int × Int := (.ofNat 0, .ofNat 59)
def hkb01_197 : Int × Int := (.ofNat 1, .ofNat 60)
def hkb01_198 : ai_E := [hkb01_196, hkb01_0, hkb01_1, hkb01_2, hkb01_36, hkb01_37, hkb01_38, hkb01_38, hkb01_38, hkb01_197, hkb01_40, hkb01_2]
def hkb01_199 : Int × Int := (.ofNat 0, .ofNat 2147483647)
def hkb01_200 : ai_E := [hkb01_199, hkb01_0, hkb01_1, hkb01_2, hkb01_36, hkb01_37, hkb01_38, hkb01_38, hkb01_38, hkb01_39, hkb01_40, hkb01_2]
def hkb01_201 : Int × Int := (.negSucc 2147483647, .negSucc 0)
def hkb01_202 : ai_E := [hkb01_201, hkb01_0, hkb01_1, hkb01_2, hkb01_36, hkb01_37, hkb01_38, hkb01_38, hkb01_38, hkb01_39, hkb01_40, hkb01_2]
/-- NeverAgain.day -/
def kb_250 : ai_K := (13, 0, (hkb01_160, [hkb01_4, hkb01_162], [], hkb01_195), [.inl 1, .inr (0, 11), .inr (0, 12), .inr (0, 13), .inr (8, 6), .inr (8, 7), .inr (8, 8), .inr (8, 9), .inr (8, 10), .inr (8, 11), .inr (8, 12), .inr (8, 13)], [(some hkb01_111, hkb01_198, []), (some hkb01_194, hkb01_200, []), (some hkb01_194, hkb01_202, [])])
def kbn_250 : List ai_Nd := []
set_option maxRecDepth 1000000 in
theorem kbk_250 : ai_ck [] [] kb_250 [.inl 100000] kbn_250 15 = true := by decide +kernel
theorem kbh_250 : ai_holds kb_250 := ai_thm kbk_250 ai_nil
def hkb01_203 : ai_E := [hkb01_38, hkb01_36, hkb01_37, hkb01_38, hkb01_38, hkb01_38, hkb01_39, hkb01_40, hkb01_2]
def hkb01_204 : ai_N := (.ofNat 4, .ofNat 16, [(1, .ofNat 0, .ofNat 0)])
def hkb01_205 : ai_V := .inl (false, hkb01_204)
def hkb01_206 : ai_N := (.ofNat 1, .ofNat 4, [(2, .ofNat 0, .ofNat 0)])
def hkb01_207 : ai_V := .inl (false, hkb01_206)
def hkb01_208 : ai_N := (.negSucc 2147483647, .ofNat 2147483647, [(3, .ofNat 0, .ofNat 0)])
def hkb01_209 : ai_V := .inl (false, hkb01_208)
def hkb01_210 : ai_N := (.negSucc 2147483647, .ofNat 2147483647, [(4, .ofNat 0, .ofNat 0)])
def hkb01_211 : ai_V := .inl (false, hkb01_210)
def hkb01_212 : ai_N := (.ofNat 0, .ofNat 60, [(6, .ofNat 0, .ofNat 0)])
def hkb01_213 : ai_V := .inl (false, hkb01_212)
def hkb01_214 : ai_N := (.ofNat 0, .ofNat 5, [(7, .ofNat 0, .ofNat 0)])
def hkb01_215 : ai_V := .inl (false, hkb01_214)
def hkb01_216 : ai_N := (.ofNat 0, .ofNat 4, [(8, .ofNat 0, .ofNat 0)])
def hkb01_217 : ai_V := .inl (false, hkb01_216)
def hkb01_218 : ai_C := .inr (.inr (6, [hkb01_171, hkb01_172, hkb01_173, hkb01_174, hkb01_175, hkb01_176, hkb01_205, hkb01_207, hkb01_209, hkb01_211, hkb01_57, hkb01_213, hkb01_215, hkb01_217]))
def hkb01_219 : Bool × Option ai_C := (false, some hkb01_218)
def hkb01_220 : ai_W := [hkb01_25, hkb01_25, hkb01_25, hkb01_25, hkb01_25, hkb01_25, hkb01_25, hkb01_25, hkb01_219, hkb01_25, hkb01_25, hkb01_25, hkb01_25, hkb01_25, hkb01_25, hkb01_25, hkb01_25, hkb01_25, hkb01_25, hkb01_25, hkb01_25, hkb01_25, hkb01_25, hkb01_25, hkb01_25, hkb01_25, hkb01_25, hkb01_25, hkb01_25, hkb01_25, hkb01_25, hkb01_25, hkb01_25, hkb01_25, hkb01_25, hkb01_25, hkb01_25, hkb01_25, hkb01_25, hkb01_25, hkb01_25, hkb01_25, hkb01_25, hkb01_25, hkb01_25, hkb01_25, hkb01_25, hkb01_25, hkb01_25, hkb01_25, hkb01_25, hkb01_25, hkb01_25, hkb01_25, hkb01_25, hkb01_25, hkb01_25, hkb01_25, hkb01_25, hkb01_25, hkb01_25, hkb01_25, hkb01_25, hkb01_25, hkb01_25, hkb01_25, hkb01_25, hkb01_25, hkb01_25, hkb01_25, hkb01_25, hkb01_25, hkb01_25, hkb01_25, hkb01_25, hkb01_25]
def hkb01_221 : ai_E := [hkb01_42, hkb01_36, hkb01_37, hkb01_38, hkb01_38, hkb01_38, hkb01_39, hkb01_40, hkb01_2]
def hkb01_222 : Int × Int := (.ofNat 1, .ofNat 2147483647)
def hkb01_223 : ai_E := [hkb01_222, hkb01_36, hkb01_37, hkb01_38, hkb01_38, hkb01_38, hkb01_39, hkb01_40, hkb01_2]
def hkb01_224 : ai_E := [hkb01_201, hkb01_36, hkb01_37, hkb01_38, hkb01_38, hkb01_38, hkb01_39, hkb01_40, hkb01_2]
/-- NeverAgain$Told.hasMatter -/
def kb_251 : ai_K := (99, 0, (hkb01_203, [hkb01_16, hkb01_162], [], hkb01_220), [.inl 1, .inr (8, 6), .inr (8, 7), .inr (8, 8), .inr (8, 9), .inr (8, 10), .inr (8, 11), .inr (8, 12), .inr (8, 13)], [(some hkb01_157, hkb01_221, []), (some hkb01_120, hkb01_223, []), (some hkb01_120, hkb01_224, [])])
def kbn_251 : List ai_Nd := []
set_option maxRecDepth 1000000 in
theorem kbk_251 : ai_ck [] [] kb_251 [.inl 100000] kbn_251 13 = true := by decide +kernel
theorem kbh_251 : ai_holds kb_251 := ai_thm kbk_251 ai_nil
def hkb01_225 : ai_W := [hkb01_170, hkb01_25, hkb01_25, hkb01_25, hkb01_25, hkb01_25, hkb01_25, hkb01_25, hkb01_190, hkb01_72, hkb01_25, hkb01_25, hkb01_25, hkb01_25, hkb01_25, hkb01_25, hkb01_25, hkb01_25, hkb01_25, hkb01_25, hkb01_25, hkb01_25, hkb01_25, hkb01_25, hkb01_25, hkb01_25, hkb01_25, hkb01_25, hkb01_25, hkb01_25, hkb01_25, hkb01_25, hkb01_25, hkb01_25, hkb01_25, hkb01_25, hkb01_25, hkb01_25, hkb01_25, hkb01_25, hkb01_25, hkb01_25, hkb01_25, hkb01_25, hkb01_25, hkb01_25, hkb01_25, hkb01_25, hkb01_25, hkb01_25, hkb01_25, hkb01_25, hkb01_25, hkb01_25, hkb01_25, hkb01_25, hkb01_25, hkb01_25, hkb01_25, hkb01_25, hkb01_25, hkb01_25, hkb01_25, hkb01_25, hkb01_25, hkb01_25, hkb01_25, hkb01_25, hkb01_25, hkb01_25, hkb01_25, hkb01_25, hkb01_25, hkb01_25, hkb01_25, hkb01_25]
def hkb01_226 : ai_E := [hkb01_222, hkb01_0, hkb01_1, hkb01_2, hkb01_36, hkb01_37, hkb01_38, hkb01_38, hkb01_38, hkb01_39, hkb01_40, hkb01_2]
def hkb01_227 : ai_E := [hkb01_42, hkb01_0, hkb01_1, hkb01_2, hkb01_36, hkb01_37, hkb01_38, hkb01_38, hkb01_38, hkb01_39, hkb01_40, hkb01_2]
/-- NeverAgain.weight -/
def kb_252 : ai_K := (15, 1, (hkb01_160, [hkb01_4, hkb01_162], [], hkb01_225), [.inl 1, .inr (0, 11), .inr (0, 12), .inr (0, 13), .inr (8, 6), .inr (8, 7), .inr (8, 8), .inr (8, 9), .inr (8, 10), .inr (8, 11), .inr (8, 12), .inr (8, 13)], [(some hkb01_194, hkb01_202, []), (some hkb01_194, hkb01_226, []), (some hkb01_111, hkb01_227, [])])
def kbn_252 : List ai_Nd := []
set_option maxRecDepth 1000000 in
theorem kbk_252 : ai_ck [kb_251] [] kb_252 [.inl 100000] kbn_252 13 = true := by decide +kernel
theorem kbh_252 : ai_holds kb_252 := ai_thm kbk_252 (ai_cons kbh_251 ai_nil)
def hkb01_228 : Int × Int := (.ofNat 1, .ofNat 16)
def hkb01_229 : ai_E := [hkb01_228, hkb01_36, hkb01_37, hkb01_38, hkb01_38, hkb01_38, hkb01_39, hkb01_40, hkb01_2]
def hkb01_230 : Int × Int := (.ofNat 5, .ofNat 2147483647)
def hkb01_231 : ai_E := [hkb01_230, hkb01_36, hkb01_37, hkb01_38, hkb01_38, hkb01_38, hkb01_39, hkb01_40, hkb01_2]
def hkb01_232 : Int × Int := (.negSucc 2147483647, .ofNat 0)
def hkb01_233 : ai_E := [hkb01_232, hkb01_36, hkb01_37, hkb01_38, hkb01_38, hkb01_38, hkb01_39, hkb01_40, hkb01_2]
/-- NeverAgain$Told.hasNumber -/
def kb_253 : ai_K := (101, 0, (hkb01_203, [hkb01_16, hkb01_162], [], hkb01_220), [.inl 1, .inr (8, 6), .inr (8, 7), .inr (8, 8), .inr (8, 9), .inr (8, 10), .inr (8, 11), .inr (8, 12), .inr (8, 13)], [(some hkb01_157, hkb01_229, []), (some hkb01_120, hkb01_231, []), (some hkb01_120, hkb01_233, [])])
def kbn_253 : List ai_Nd := []
set_option maxRecDepth 1000000 in
theorem kbk_253 : ai_ck [] [] kb_253 [.inl 100000] kbn_253 14 = true := by decide +kernel
theorem kbh_253 : ai_holds kb_253 := ai_thm kbk_253 ai_nil
def hkb01_234 : ai_W := [hkb01_170, hkb01_25, hkb01_25, hkb01_25, hkb01_25, hkb01_25, hkb01_25, hkb01_25, hkb01_190, hkb01_25, hkb01_74, hkb01_25, hkb01_25, hkb01_25, hkb01_25, hkb01_25, hkb01_25, hkb01_25, hkb01_25, hkb01_25, hkb01_25, hkb01_25, hkb01_25, hkb01_25, hkb01_25, hkb01_25, hkb01_25, hkb01_25, hkb01_25, hkb01_25, hkb01_25, hkb01_25, hkb01_25, hkb01_25, hkb01_25, hkb01_25, hkb01_25, hkb01_25, hkb01_25, hkb01_25, hkb01_25, hkb01_25, hkb01_25, hkb01_25, hkb01_25, hkb01_25, hkb01_25, hkb01_25, hkb01_25, hkb01_25, hkb01_25, hkb01_25, hkb01_25, hkb01_25, hkb01_25, hkb01_25, hkb01_25, hkb01_25, hkb01_25, hkb01_25, hkb01_25, hkb01_25, hkb01_25, hkb01_25, hkb01_25, hkb01_25, hkb01_25, hkb01_25, hkb01_25, hkb01_25, hkb01_25, hkb01_25, hkb01_25, hkb01_25, hkb01_25, hkb01_25]
def hkb01_235 : ai_E := [hkb01_232, hkb01_0, hkb01_1, hkb01_2, hkb01_36, hkb01_37, hkb01_38, hkb01_38, hkb01_38, hkb01_39, hkb01_40, hkb01_2]
def hkb01_236 : ai_E := [hkb01_230, hkb01_0, hkb01_1, hkb01_2, hkb01_36, hkb01_37, hkb01_38, hkb01_38, hkb01_38, hkb01_39, hkb01_40, hkb01_2]
def hkb01_237 : ai_E := [hkb01_228, hkb01_0, hkb01_1, hkb01_2, hkb01_36, hkb01_37, hkb01_38, hkb01_38, hkb01_38, hkb01_39, hkb01_40, hkb01_2]
/-- NeverAgain.page -/
def kb_254 : ai_K := (17, 1, (hkb01_160, [hkb01_4, hkb01_162], [], hkb01_234), [.inl 1, .inr (0, 11), .inr (0, 12), .inr (0, 13), .inr (8, 6), .inr (8, 7), .inr (8, 8), .inr (8, 9), .inr (8, 10), .inr (8, 11), .inr (8, 12), .inr (8, 13)], [(some hkb01_194, hkb01_235, []), (some hkb01_194, hkb01_236, []), (some hkb01_111, hkb01_237, [])])
def kbn_254 : List ai_Nd := []
set_option maxRecDepth 1000000 in
theorem kbk_254 : ai_ck [kb_253] [] kb_254 [.inl 100000] kbn_254 13 = true := by decide +kernel
theorem kbh_254 : ai_holds kb_254 := ai_thm kbk_254 (ai_cons kbh_253 ai_nil)
def hkb01_238 : Int × Int := (.ofNat 21, .ofNat 2147483647)
def hkb01_239 : ai_E := [hkb01_238, hkb01_0, hkb01_1, hkb01_2, hkb01_36, hkb01_37, hkb01_38, hkb01_38, hkb01_38, hkb01_39, hkb01_40, hkb01_2]
def hkb01_240 : Int × Int := (.ofNat 0, .ofNat 20)
def hkb01_241 : ai_E := [hkb01_240, hkb01_0, hkb01_1, hkb01_2, hkb01_36, hkb01_37, hkb01_38, hkb01_38, hkb01_38, hkb01_39, hkb01_40, hkb01_2]
def hkb01_242 : ai_N := (.ofNat 0, .ofNat 20, [(0, .ofNat 0, .ofNat 0)])
def hkb01_243 : ai_V := .inl (false, hkb01_242)
def hkb01_244 : ai_C := .inr (.inr (6, [hkb01_171, hkb01_172, hkb01_173, hkb01_174, hkb01_175, hkb01_176, hkb01_178, hkb01_180, hkb01_243, hkb01_61, hkb01_182, hkb01_184, hkb01_186, hkb01_188]))
/-- NeverAgain.gap -/
def kb_255 : ai_K := (19, 0, (hkb01_160, [hkb01_4, hkb01_162, hkb01_5], [], hkb01_191), [.inl 1, .inr (0, 11), .inr (0, 12), .inr (0, 13), .inr (8, 6), .inr (8, 7), .inr (8, 8), .inr (8, 9), .inr (8, 10), .inr (8, 11), .inr (8, 12), .inr (8, 13)], [(some hkb01_194, hkb01_239, []), (some hkb01_59, hkb01_241, [(8, hkb01_244)]), (some hkb01_194, hkb01_202, [])])
def kbn_255 : List ai_Nd := []
set_option maxRecDepth 1000000 in
theorem kbk_255 : ai_ck [] [] kb_255 [.inl 100000] kbn_255 16 = true := by decide +kernel
theorem kbh_255 : ai_holds kb_255 := ai_thm kbk_255 ai_nil
def hkb01_245 : Int × Int := (.ofNat 2, .ofNat 2147483647)
def hkb01_246 : ai_E := [hkb01_245, hkb01_0, hkb01_1, hkb01_2, hkb01_36, hkb01_37, hkb01_38, hkb01_38, hkb01_38, hkb01_39, hkb01_40, hkb01_2]
def hkb01_247 : Int × Int := (.ofNat 0, .ofNat 1)
def hkb01_248 : ai_E := [hkb01_247, hkb01_0, hkb01_1, hkb01_2, hkb01_36, hkb01_37, hkb01_38, hkb01_38, hkb01_38, hkb01_39, hkb01_40, hkb01_2]
def hkb01_249 : ai_N := (.ofNat 0, .ofNat 1, [(0, .ofNat 0, .ofNat 0)])
def hkb01_250 : ai_V := .inl (false, hkb01_249)
def hkb01_251 : ai_C := .inr (.inr (6, [hkb01_171, hkb01_172, hkb01_173, hkb01_174, hkb01_175, hkb01_176, hkb01_178, hkb01_180, hkb01_59, hkb01_250, hkb01_182, hkb01_184, hkb01_186, hkb01_188]))
/-- NeverAgain.near -/
def kb_256 : ai_K := (21, 0, (hkb01_160, [hkb01_4, hkb01_162, hkb01_5], [], hkb01_191), [.inl 1, .inr (0, 11), .inr (0, 12), .inr (0, 13), .inr (8, 6), .inr (8, 7), .inr (8, 8), .inr (8, 9), .inr (8, 10), .inr (8, 11), .inr (8, 12), .inr (8, 13)], [(some hkb01_194, hkb01_246, []), (some hkb01_61, hkb01_248, [(8, hkb01_251)]), (some hkb01_194, hkb01_202, [])])
def kbn_256 : List ai_Nd := []
set_option maxRecDepth 1000000 in
theorem kbk_256 : ai_ck [] [] kb_256 [.inl 100000] kbn_256 16 = true := by decide +kernel
theorem kbh_256 : ai_holds kb_256 := ai_thm kbk_256 ai_nil
def hkb01_252 : Int × Int := (.ofNat 3, .ofNat 2147483647)
def hkb01_253 : ai_E := [hkb01_252, hkb01_0, hkb01_1, hkb01_2, hkb01_36, hkb01_37, hkb01_38, hkb01_38, hkb01_38, hkb01_39, hkb01_40, hkb01_2]
def hkb01_254 : ai_E := [hkb01_30, hkb01_0, hkb01_1, hkb01_2, hkb01_36, hkb01_37, hkb01_38, hkb01_38, hkb01_38, hkb01_39, hkb01_40, hkb01_2]
def hkb01_255 : ai_N := (.ofNat 0, .ofNat 2, [(0, .ofNat 0, .ofNat 0)])
def hkb01_256 : ai_V := .inl (false, hkb01_255)
def hkb01_257 : ai_C := .inr (.inr (6, [hkb01_171, hkb01_172, hkb01_173, hkb01_174, hkb01_175, hkb01_176, hkb01_178, hkb01_180, hkb01_59, hkb01_61, hkb01_256, hkb01_184, hkb01_186, hkb01_188]))
/-- NeverAgain.book -/
def kb_257 : ai_K := (23, 0, (hkb01_160, [hkb01_4, hkb01_162, hkb01_5], [], hkb01_191), [.inl 1, .inr (0, 11), .inr (0, 12), .inr (0, 13), .inr (8, 6), .inr (8, 7), .inr (8, 8), .inr (8, 9), .inr (8, 10), .inr (8, 11), .inr (8, 12), .inr (8, 13)], [(some hkb01_194, hkb01_253, []), (some hkb01_182, hkb01_254, [(8, hkb01_257)]), (some hkb01_194, hkb01_202, [])])
def kbn_257 : List ai_Nd := []
set_option maxRecDepth 1000000 in
theorem kbk_257 : ai_ck [] [] kb_257 [.inl 100000] kbn_257 16 = true := by decide +kernel
theorem kbh_257 : ai_holds kb_257 := ai_thm kbk_257 ai_nil
def hkb01_258 : ai_E := [hkb01_38, hkb01_38, hkb01_0, hkb01_1, hkb01_2, hkb01_36, hkb01_37, hkb01_38, hkb01_38, hkb01_38, hkb01_39, hkb01_40, hkb01_2]
def hkb01_259 : ai_N := (.negSucc 2147483647, .ofNat 2147483647, [(1, .ofNat 0, .ofNat 0)])
def hkb01_260 : ai_V := .inl (false, hkb01_259)
def hkb01_261 : ai_N := (.ofNat 0, .ofNat 12, [(2, .ofNat 0, .ofNat 0)])
def hkb01_262 : ai_V := .inl (false, hkb01_261)
def hkb01_263 : ai_N := (.ofNat 0, .ofNat 6, [(3, .ofNat 0, .ofNat 0)])
def hkb01_264 : ai_V := .inl (false, hkb01_263)
def hkb01_265 : ai_N := (.ofNat 0, .ofNat 4, [(4, .ofNat 0, .ofNat 0)])
def hkb01_266 : ai_V := .inl (false, hkb01_265)
def hkb01_267 : ai_C := .inr (.inr (7, [hkb01_6, hkb01_7, hkb01_8, hkb01_9, hkb01_10, hkb01_11, hkb01_12, hkb01_13, hkb01_14, hkb01_16, hkb01_15, hkb01_262, hkb01_264, hkb01_266]))
def hkb01_268 : Bool × Option ai_C := (false, some hkb01_267)
def hkb01_269 : ai_N := (.ofNat 4, .ofNat 16, [(5, .ofNat 0, .ofNat 0)])
def hkb01_270 : ai_V := .inl (false, hkb01_269)
def hkb01_271 : ai_N := (.ofNat 1, .ofNat 4, [(6, .ofNat 0, .ofNat 0)])
def hkb01_272 : ai_V := .inl (false, hkb01_271)
def hkb01_273 : ai_N := (.negSucc 2147483647, .ofNat 2147483647, [(9, .ofNat 0, .ofNat 0)])
def hkb01_274 : ai_V := .inl (false, hkb01_273)
def hkb01_275 : ai_N := (.ofNat 0, .ofNat 60, [(10, .ofNat 0, .ofNat 0)])
def hkb01_276 : ai_V := .inl (false, hkb01_275)
def hkb01_277 : ai_N := (.ofNat 0, .ofNat 5, [(11, .ofNat 0, .ofNat 0)])
def hkb01_278 : ai_V := .inl (false, hkb01_277)
def hkb01_279 : ai_N := (.ofNat 0, .ofNat 4, [(12, .ofNat 0, .ofNat 0)])
def hkb01_280 : ai_V := .inl (false, hkb01_279)
def hkb01_281 : ai_C := .inr (.inr (6, [hkb01_171, hkb01_172, hkb01_173, hkb01_174, hkb01_175, hkb01_176, hkb01_270, hkb01_272, hkb01_61, hkb01_182, hkb01_274, hkb01_276, hkb01_278, hkb01_280]))
def hkb01_282 : Bool × Option ai_C := (false, some hkb01_281)
def hkb01_283 : ai_W := [hkb01_268, hkb01_25, hkb01_25, hkb01_25, hkb01_25, hkb01_25, hkb01_25, hkb01_25, hkb01_282, hkb01_25, hkb01_74, hkb01_25, hkb01_25, hkb01_25, hkb01_25, hkb01_25, hkb01_25, hkb01_25, hkb01_25, hkb01_25, hkb01_25, hkb01_25, hkb01_25, hkb01_25, hkb01_25, hkb01_25, hkb01_25, hkb01_25, hkb01_25, hkb01_25, hkb01_25, hkb01_25, hkb01_25, hkb01_25, hkb01_25, hkb01_25, hkb01_25, hkb01_25, hkb01_25, hkb01_25, hkb01_25, hkb01_25, hkb01_25, hkb01_25, hkb01_25, hkb01_25, hkb01_25, hkb01_25, hkb01_25, hkb01_25, hkb01_25, hkb01_25, hkb01_25, hkb01_25, hkb01_25, hkb01_25, hkb01_25, hkb01_25, hkb01_25, hkb01_25, hkb01_25, hkb01_25, hkb01_25, hkb01_25, hkb01_25, hkb01_25, hkb01_25, hkb01_25, hkb01_25, hkb01_25, hkb01_25, hkb01_25, hkb01_25, hkb01_25, hkb01_25, hkb01_25]
def hkb01_284 : ai_E := [hkb01_232, hkb01_38, hkb01_0, hkb01_1, hkb01_2, hkb01_36, hkb01_37, hkb01_38, hkb01_38, hkb01_38, hkb01_39, hkb01_40, hkb01_2]
def hkb01_285 : ai_E := [hkb01_230, hkb01_38, hkb01_0, hkb01_1, hkb01_2, hkb01_36, hkb01_37, hkb01_38, hkb01_38, hkb01_38, hkb01_39, hkb01_40, hkb01_2]
def hkb01_286 : ai_E := [hkb01_228, hkb01_201, hkb01_0, hkb01_1, hkb01_2, hkb01_36, hkb01_37, hkb01_38, hkb01_38, hkb01_38, hkb01_39, hkb01_40, hkb01_2]
def hkb01_287 : ai_E := [hkb01_228, hkb01_222, hkb01_0, hkb01_1, hkb01_2, hkb01_36, hkb01_37, hkb01_38, hkb01_38, hkb01_38, hkb01_39, hkb01_40, hkb01_2]
def hkb01_288 : ai_E := [hkb01_228, hkb01_42, hkb01_0, hkb01_1, hkb01_2, hkb01_36, hkb01_37, hkb01_38, hkb01_38, hkb01_38, hkb01_39, hkb01_40, hkb01_2]
def hkb01_289 : Int × Int := (.negSucc 3, .negSucc 3)
def hkb01_290 : ai_E := [hkb01_228, hkb01_289, hkb01_0, hkb01_1, hkb01_2, hkb01_36, hkb01_37, hkb01_38, hkb01_38, hkb01_38, hkb01_39, hkb01_40, hkb01_2]
/-- NeverAgain.write -/
def kb_258 : ai_K := (25, 1, (hkb01_258, [hkb01_4, hkb01_162, hkb01_260, hkb01_5], [], hkb01_283), [.inl 1, .inl 2, .inr (0, 11), .inr (0, 12), .inr (0, 13), .inr (8, 6), .inr (8, 7), .inr (8, 8), .inr (8, 9), .inr (8, 10), .inr (8, 11), .inr (8, 12), .inr (8, 13)], [(some hkb01_194, hkb01_284, []), (some hkb01_194, hkb01_285, []), (some hkb01_194, hkb01_286, []), (some hkb01_194, hkb01_287, []), (some hkb01_111, hkb01_288, [(10, hkb01_73)]), (some hkb01_111, hkb01_290, [(10, hkb01_73)])])
def kbn_258 : List ai_Nd := []
set_option maxRecDepth 1000000 in
theorem kbk_258 : ai_ck [kb_251, kb_253] [] kb_258 [.inl 100000] kbn_258 28 = true := by decide +kernel
theorem kbh_258 : ai_holds kb_258 := ai_thm kbk_258 (ai_cons kbh_251 (ai_cons kbh_253 ai_nil))
def hkb01_291 : ai_E := [hkb01_39, hkb01_0, hkb01_1, hkb01_2, hkb01_36, hkb01_37, hkb01_38, hkb01_38, hkb01_38, hkb01_39, hkb01_40, hkb01_2]
def hkb01_292 : ai_N := (.ofNat 0, .ofNat 60, [(0, .ofNat 0, .ofNat 0)])
def hkb01_293 : ai_V := .inl (false, hkb01_292)
def hkb01_294 : ai_C := .inr (.inr (6, [hkb01_171, hkb01_172, hkb01_173, hkb01_174, hkb01_175, hkb01_176, hkb01_178, hkb01_180, hkb01_59, hkb01_61, hkb01_182, hkb01_293, hkb01_186, hkb01_188]))
/-- NeverAgain.undo -/
def kb_259 : ai_K := (27, 0, (hkb01_160, [hkb01_4, hkb01_162, hkb01_5], [], hkb01_191), [.inl 1, .inr (0, 11), .inr (0, 12), .inr (0, 13), .inr (8, 6), .inr (8, 7), .inr (8, 8), .inr (8, 9), .inr (8, 10), .inr (8, 11), .inr (8, 12), .inr (8, 13)], [(some hkb01_194, hkb01_226, []), (some hkb01_184, hkb01_291, [(8, hkb01_294)]), (some hkb01_194, hkb01_202, [])])
def kbn_259 : List ai_Nd := []
set_option maxRecDepth 1000000 in
theorem kbk_259 : ai_ck [] [] kb_259 [.inl 100000] kbn_259 16 = true := by decide +kernel
theorem kbh_259 : ai_holds kb_259 := ai_thm kbk_259 ai_nil
def hkb01_295 : ai_V := .inr (some (.ref 20))
def hkb01_296 : ai_N := (.negSucc 0, .ofNat 127, [])
def hkb01_297 : ai_C := .inl (.int, [(17, hkb01_296)])
def hkb01_298 : Bool × Option ai_C := (false, some hkb01_297)
def hkb01_299 : ai_W := [hkb01_25, hkb01_25, hkb01_25, hkb01_25, hkb01_25, hkb01_25, hkb01_25, hkb01_25, hkb01_25, hkb01_25, hkb01_25, hkb01_25, hkb01_25, hkb01_25, hkb01_25, hkb01_25, hkb01_25, hkb01_25, hkb01_25, hkb01_25, hkb01_298, hkb01_25, hkb01_25, hkb01_25, hkb01_25, hkb01_25, hkb01_25, hkb01_25, hkb01_25, hkb01_25, hkb01_25, hkb01_25, hkb01_25, hkb01_25, hkb01_25, hkb01_25, hkb01_25, hkb01_25, hkb01_25, hkb01_25, hkb01_25, hkb01_25, hkb01_25, hkb01_25, hkb01_25, hkb01_25, hkb01_25, hkb01_25, hkb01_25, hkb01_25, hkb01_25, hkb01_25, hkb01_25, hkb01_25, hkb01_25, hkb01_25, hkb01_25, hkb01_25, hkb01_25, hkb01_25, hkb01_25, hkb01_25, hkb01_25, hkb01_25, hkb01_25, hkb01_25, hkb01_25, hkb01_25, hkb01_25, hkb01_25, hkb01_25, hkb01_25, hkb01_25, hkb01_25, hkb01_25, hkb01_25]
/-- java/util/Arrays.fill -/
def kb_260 : ai_K := (162, 0, ([], [hkb01_295, hkb01_194, hkb01_5, hkb01_5], [], hkb01_299), [], [(none, [], [(20, hkb01_297)])])
def hkb01_300 : Int × Int := (.ofNat 0, .ofNat 17)
def hkb01_301 : ai_N := (.ofNat 0, .ofNat 17, [(0, .ofNat 0, .ofNat 0)])
def hkb01_302 : ai_V := .inl (false, hkb01_301)
def hkb01_303 : ai_N := (.ofNat 17, .ofNat 17, [])
def hkb01_304 : ai_V := .inl (false, hkb01_303)
def hkb01_305 : Bool × Option ai_C := (true, some hkb01_297)
def hkb01_306 : ai_W := [hkb01_25, hkb01_25, hkb01_25, hkb01_25, hkb01_25, hkb01_25, hkb01_25, hkb01_25, hkb01_25, hkb01_25, hkb01_25, hkb01_25, hkb01_25, hkb01_25, hkb01_25, hkb01_25, hkb01_25, hkb01_25, hkb01_25, hkb01_25, hkb01_305, hkb01_25, hkb01_25, hkb01_25, hkb01_25, hkb01_25, hkb01_25, hkb01_25, hkb01_25, hkb01_25, hkb01_25, hkb01_25, hkb01_25, hkb01_25, hkb01_25, hkb01_25, hkb01_25, hkb01_25, hkb01_25, hkb01_25, hkb01_25, hkb01_25, hkb01_25, hkb01_25, hkb01_25, hkb01_25, hkb01_25, hkb01_25, hkb01_25, hkb01_25, hkb01_25, hkb01_25, hkb01_25, hkb01_25, hkb01_25, hkb01_25, hkb01_25, hkb01_25, hkb01_25, hkb01_25, hkb01_25, hkb01_25, hkb01_25, hkb01_25, hkb01_25, hkb01_25, hkb01_25, hkb01_25, hkb01_25, hkb01_25, hkb01_25, hkb01_25, hkb01_25, hkb01_25, hkb01_25, hkb01_25]
def kbn_260 : List ai_Nd := [(5, ([hkb01_300], [hkb01_295, hkb01_194, hkb01_302, hkb01_304], [], hkb01_306), [.inl 2], [.inl 99994, .inl 1, .inr (true, .ofNat 17, 0), .inl 100000])]
set_option maxRecDepth 1000000 in
theorem kbk_260 : ai_ck [] [] kb_260 [.inl 100000, .inl 0, .inl 0, .inl 0] kbn_260 11 = true := by decide +kernel
theorem kbh_260 : ai_holds kb_260 := ai_thm kbk_260 ai_nil
def hkb01_307 : Int × Int := (.ofNat 0, .ofNat 128)
def hkb01_308 : ai_E := [hkb01_38, hkb01_307]
def hkb01_309 : ai_V := .inr (some (.ref 18))
def hkb01_310 : ai_V := .inr (some (.ref 19))
def hkb01_311 : ai_N := (.ofNat 0, .ofNat 128, [(1, .ofNat 0, .ofNat 0)])
def hkb01_312 : ai_V := .inl (false, hkb01_311)
def hkb01_313 : ai_C := .inr (.inr (0, [hkb01_309, hkb01_310, hkb01_295, hkb01_16, hkb01_312]))
def hkb01_314 : Bool × Option ai_C := (false, some hkb01_313)
def hkb01_315 : ai_N := (.ofNat 0, .ofNat 16, [])
def hkb01_316 : ai_C := .inl (.int, [(128, hkb01_315)])
def hkb01_317 : Bool × Option ai_C := (false, some hkb01_316)
def hkb01_318 : ai_C := .inl (.int, [(128, hkb01_296)])
def hkb01_319 : Bool × Option ai_C := (false, some hkb01_318)
def hkb01_320 : ai_W := [hkb01_25, hkb01_25, hkb01_25, hkb01_25, hkb01_25, hkb01_25, hkb01_25, hkb01_25, hkb01_25, hkb01_25, hkb01_25, hkb01_25, hkb01_25, hkb01_25, hkb01_25, hkb01_25, hkb01_25, hkb01_314, hkb01_317, hkb01_319, hkb01_298, hkb01_25, hkb01_25, hkb01_25, hkb01_25, hkb01_25, hkb01_25, hkb01_25, hkb01_25, hkb01_25, hkb01_25, hkb01_25, hkb01_25, hkb01_25, hkb01_25, hkb01_25, hkb01_25, hkb01_25, hkb01_25, hkb01_25, hkb01_25, hkb01_25, hkb01_25, hkb01_25, hkb01_25, hkb01_25, hkb01_25, hkb01_25, hkb01_25, hkb01_25, hkb01_25, hkb01_25, hkb01_25, hkb01_25, hkb01_25, hkb01_25, hkb01_25, hkb01_25, hkb01_25, hkb01_25, hkb01_25, hkb01_25, hkb01_25, hkb01_25, hkb01_25, hkb01_25, hkb01_25, hkb01_25, hkb01_25, hkb01_25, hkb01_25, hkb01_25, hkb01_25, hkb01_25, hkb01_25, hkb01_25]
def hkb01_321 : Int × Int := (.ofNat 17, .ofNat 2147483647)
def hkb01_322 : Int × Int := (.ofNat 0, .ofNat 127)
def hkb01_323 : ai_E := [hkb01_321, hkb01_322]
def hkb01_324 : Int × Int := (.ofNat 0, .ofNat 16)
def hkb01_325 : ai_E := [hkb01_324, hkb01_322]
def hkb01_326 : ai_N := (.ofNat 1, .ofNat 128, [(1, .ofNat 1, .ofNat 1)])
def hkb01_327 : ai_V := .inl (false, hkb01_326)
def hkb01_328 : ai_C := .inr (.inr (0, [hkb01_309, hkb01_310, hkb01_295, hkb01_16, hkb01_327]))
def hkb01_329 : ai_E := [hkb01_201, hkb01_322]
def hkb01_330 : Int × Int := (.ofNat 128, .ofNat 128)
def hkb01_331 : ai_E := [hkb01_38, hkb01_330]
/-- NeverAgain$Almanac.pass -/
def kb_261 : ai_K := (115, 0, (hkb01_308, [hkb01_7, hkb01_162], [], hkb01_320), [.inl 1, .inr (17, 4)], [(none, hkb01_323, []), (none, hkb01_325, [(17, hkb01_328), (18, hkb01_316), (19, hkb01_318), (20, hkb01_297)]), (none, hkb01_329, []), (none, hkb01_331, [])])
def kbn_261 : List ai_Nd := []
set_option maxRecDepth 1000000 in
theorem kbk_261 : ai_ck [] [] kb_261 [.inl 100000] kbn_261 38 = true := by decide +kernel
theorem kbh_261 : ai_holds kb_261 := ai_thm kbk_261 ai_nil
def hkb01_332 : ai_N := (.ofNat 0, .ofNat 128, [(0, .ofNat 0, .ofNat 0)])
def hkb01_333 : ai_V := .inl (false, hkb01_332)
def hkb01_334 : ai_C := .inr (.inr (0, [hkb01_309, hkb01_310, hkb01_295, hkb01_16, hkb01_333]))
def hkb01_335 : Bool × Option ai_C := (false, some hkb01_334)
def hkb01_336 : ai_W := [hkb01_25, hkb01_25, hkb01_25, hkb01_25, hkb01_25, hkb01_25, hkb01_25, hkb01_25, hkb01_25, hkb01_25, hkb01_25, hkb01_25, hkb01_25, hkb01_25, hkb01_25, hkb01_25, hkb01_25, hkb01_335, hkb01_317, hkb01_319, hkb01_298, hkb01_25, hkb01_25, hkb01_25, hkb01_25, hkb01_25, hkb01_25, hkb01_25, hkb01_25, hkb01_25, hkb01_25, hkb01_25, hkb01_25, hkb01_25, hkb01_25, hkb01_25, hkb01_25, hkb01_25, hkb01_25, hkb01_25, hkb01_25, hkb01_25, hkb01_25, hkb01_25, hkb01_25, hkb01_25, hkb01_25, hkb01_25, hkb01_25, hkb01_25, hkb01_25, hkb01_25, hkb01_25, hkb01_25, hkb01_25, hkb01_25, hkb01_25, hkb01_25, hkb01_25, hkb01_25, hkb01_25, hkb01_25, hkb01_25, hkb01_25, hkb01_25, hkb01_25, hkb01_25, hkb01_25, hkb01_25, hkb01_25, hkb01_25, hkb01_25, hkb01_25, hkb01_25, hkb01_25, hkb01_25]
def hkb01_337 : ai_N := (.ofNat 1, .ofNat 128, [(0, .ofNat 1, .ofNat 1)])
def hkb01_338 : ai_V := .inl (false, hkb01_337)
def hkb01_339 : ai_C := .inr (.inr (0, [hkb01_309, hkb01_310, hkb01_295, hkb01_16, hkb01_338]))
/-- NeverAgain$Almanac.pass -/
def kb_262 : ai_K := (115, 0, ([hkb01_307], [hkb01_7, hkb01_120], [], hkb01_336), [.inr (17, 4)], [(none, [hkb01_322], [(17, hkb01_339), (18, hkb01_316), (19, hkb01_318), (20, hkb01_297)]), (none, [hkb01_330], [])])
def kbn_262 : List ai_Nd := []
set_option maxRecDepth 1000000 in
theorem kbk_262 : ai_ck [] [] kb_262 [.inl 100000] kbn_262 38 = true := by decide +kernel
theorem kbh_262 : ai_holds kb_262 := ai_thm kbk_262 ai_nil
def hkb01_340 : ai_E := [hkb01_36, hkb01_37, hkb01_38, hkb01_38, hkb01_38, hkb01_39, hkb01_40, hkb01_2, hkb01_307]
def hkb01_341 : ai_N := (.ofNat 4, .ofNat 16, [(0, .ofNat 0, .ofNat 0)])
def hkb01_342 : ai_V := .inl (false, hkb01_341)
def hkb01_343 : ai_N := (.ofNat 1, .ofNat 4, [(1, .ofNat 0, .ofNat 0)])
def hkb01_344 : ai_V := .inl (false, hkb01_343)
def hkb01_345 : ai_N := (.negSucc 2147483647, .ofNat 2147483647, [(2, .ofNat 0, .ofNat 0)])
def hkb01_346 : ai_V := .inl (false, hkb01_345)
def hkb01_347 : ai_N := (.ofNat 0, .ofNat 60, [(5, .ofNat 0, .ofNat 0)])
def hkb01_348 : ai_V := .inl (false, hkb01_347)
def hkb01_349 : ai_N := (.ofNat 0, .ofNat 5, [(6, .ofNat 0, .ofNat 0)])
def hkb01_350 : ai_V := .inl (false, hkb01_349)
def hkb01_351 : ai_N := (.ofNat 0, .ofNat 4, [(7, .ofNat 0, .ofNat 0)])
def hkb01_352 : ai_V := .inl (false, hkb01_351)
def hkb01_353 : ai_C := .inr (.inr (6, [hkb01_171, hkb01_172, hkb01_173, hkb01_174, hkb01_175, hkb01_176, hkb01_342, hkb01_344, hkb01_346, hkb01_209, hkb01_211, hkb01_348, hkb01_350, hkb01_352]))
def hkb01_354 : Bool × Option ai_C := (false, some hkb01_353)
def hkb01_355 : ai_N := (.ofNat 0, .ofNat 128, [(8, .ofNat 0, .ofNat 0)])
def hkb01_356 : ai_V := .inl (false, hkb01_355)
def hkb01_357 : ai_C := .inr (.inr (0, [hkb01_309, hkb01_310, hkb01_295, hkb01_5, hkb01_356]))
def hkb01_358 : Bool × Option ai_C := (false, some hkb01_357)
def hkb01_359 : ai_W := [hkb01_25, hkb01_25, hkb01_25, hkb01_25, hkb01_25, hkb01_25, hkb01_25, hkb01_25, hkb01_354, hkb01_25, hkb01_25, hkb01_76, hkb01_25, hkb01_25, hkb01_25, hkb01_25, hkb01_25, hkb01_358, hkb01_317, hkb01_319, hkb01_298, hkb01_25, hkb01_25, hkb01_25, hkb01_25, hkb01_25, hkb01_25, hkb01_25, hkb01_25, hkb01_25, hkb01_25, hkb01_25, hkb01_25, hkb01_25, hkb01_25, hkb01_25, hkb01_25, hkb01_25, hkb01_25, hkb01_25, hkb01_25, hkb01_25, hkb01_25, hkb01_25, hkb01_25, hkb01_25, hkb01_25, hkb01_25, hkb01_25, hkb01_25, hkb01_25, hkb01_25, hkb01_25, hkb01_25, hkb01_25, hkb01_25, hkb01_25, hkb01_25, hkb01_25, hkb01_25, hkb01_25, hkb01_25, hkb01_25, hkb01_25, hkb01_25, hkb01_25, hkb01_25, hkb01_25, hkb01_25, hkb01_25, hkb01_25, hkb01_25, hkb01_25, hkb01_25, hkb01_25, hkb01_25]
def hkb01_360 : ai_N := (.ofNat 0, .ofNat 128, [])
def hkb01_361 : ai_V := .inl (false, hkb01_360)
def hkb01_362 : ai_C := .inr (.inr (0, [hkb01_309, hkb01_310, hkb01_295, hkb01_16, hkb01_361]))
/-- NeverAgain$Almanac.begin -/
def kb_263 : ai_K := (103, 1, (hkb01_340, [hkb01_7, hkb01_16, hkb01_120, hkb01_5], [], hkb01_359), [.inr (8, 6), .inr (8, 7), .inr (8, 8), .inr (8, 9), .inr (8, 10), .inr (8, 11), .inr (8, 12), .inr (8, 13), .inr (17, 4)], [(none, hkb01_340, [(17, hkb01_362), (18, hkb01_316), (19, hkb01_318), (20, hkb01_297)])])
def hkb01_363 : ai_E := [hkb01_36, hkb01_37, hkb01_38, hkb01_38, hkb01_38, hkb01_39, hkb01_40, hkb01_2, hkb01_307, hkb01_39]
def hkb01_364 : Bool × Option ai_C := (true, some hkb01_362)
def hkb01_365 : Bool × Option ai_C := (true, some hkb01_316)
def hkb01_366 : Bool × Option ai_C := (true, some hkb01_318)
def hkb01_367 : ai_W := [hkb01_25, hkb01_25, hkb01_25, hkb01_25, hkb01_25, hkb01_25, hkb01_25, hkb01_25, hkb01_354, hkb01_25, hkb01_25, hkb01_76, hkb01_25, hkb01_25, hkb01_25, hkb01_25, hkb01_25, hkb01_364, hkb01_365, hkb01_366, hkb01_305, hkb01_25, hkb01_25, hkb01_25, hkb01_25, hkb01_25, hkb01_25, hkb01_25, hkb01_25, hkb01_25, hkb01_25, hkb01_25, hkb01_25, hkb01_25, hkb01_25, hkb01_25, hkb01_25, hkb01_25, hkb01_25, hkb01_25, hkb01_25, hkb01_25, hkb01_25, hkb01_25, hkb01_25, hkb01_25, hkb01_25, hkb01_25, hkb01_25, hkb01_25, hkb01_25, hkb01_25, hkb01_25, hkb01_25, hkb01_25, hkb01_25, hkb01_25, hkb01_25, hkb01_25, hkb01_25, hkb01_25, hkb01_25, hkb01_25, hkb01_25, hkb01_25, hkb01_25, hkb01_25, hkb01_25, hkb01_25, hkb01_25, hkb01_25, hkb01_25, hkb01_25, hkb01_25, hkb01_25, hkb01_25]
def kbn_263 : List ai_Nd := [(20, (hkb01_363, [hkb01_7, hkb01_16, hkb01_120, hkb01_184], [], hkb01_367), [.inl 3], [.inl 99979, .inl 1, .inr (true, .ofNat 60, 9), .inl 100000])]
set_option maxRecDepth 1000000 in
theorem kbk_263 : ai_ck [kb_262, kb_261, kb_260] [] kb_263 [.inl 100000, .inl 0, .inl 0, .inl 0] kbn_263 24 = true := by decide +kernel
theorem kbh_263 : ai_holds kb_263 := ai_thm kbk_263 (ai_cons kbh_262 (ai_cons kbh_261 (ai_cons kbh_260 ai_nil)))
def hkb01_368 : ai_E := [hkb01_38, hkb01_36, hkb01_37, hkb01_38, hkb01_38, hkb01_38, hkb01_39, hkb01_40, hkb01_2, hkb01_307]
def hkb01_369 : ai_N := (.ofNat 0, .ofNat 128, [(9, .ofNat 0, .ofNat 0)])
def hkb01_370 : ai_V := .inl (false, hkb01_369)
def hkb01_371 : ai_C := .inr (.inr (0, [hkb01_309, hkb01_310, hkb01_295, hkb01_16, hkb01_370]))
def hkb01_372 : Bool × Option ai_C := (false, some hkb01_371)
def hkb01_373 : ai_W := [hkb01_25, hkb01_25, hkb01_25, hkb01_25, hkb01_25, hkb01_25, hkb01_25, hkb01_25, hkb01_219, hkb01_25, hkb01_25, hkb01_25, hkb01_25, hkb01_25, hkb01_25, hkb01_25, hkb01_25, hkb01_372, hkb01_25, hkb01_25, hkb01_298, hkb01_25, hkb01_25, hkb01_25, hkb01_25, hkb01_25, hkb01_25, hkb01_25, hkb01_25, hkb01_25, hkb01_25, hkb01_25, hkb01_25, hkb01_25, hkb01_25, hkb01_25, hkb01_25, hkb01_25, hkb01_25, hkb01_25, hkb01_25, hkb01_25, hkb01_25, hkb01_25, hkb01_25, hkb01_25, hkb01_25, hkb01_25, hkb01_25, hkb01_25, hkb01_25, hkb01_25, hkb01_25, hkb01_25, hkb01_25, hkb01_25, hkb01_25, hkb01_25, hkb01_25, hkb01_25, hkb01_25, hkb01_25, hkb01_25, hkb01_25, hkb01_25, hkb01_25, hkb01_25, hkb01_25, hkb01_25, hkb01_25, hkb01_25, hkb01_25, hkb01_25, hkb01_25, hkb01_25, hkb01_25]
/-- NeverAgain$Almanac.bitsByGap -/
def kb_264 : ai_K := (163, 0, (hkb01_368, [hkb01_7, hkb01_162, hkb01_5, hkb01_5], [], hkb01_373), [.inl 1, .inr (8, 6), .inr (8, 7), .inr (8, 8), .inr (8, 9), .inr (8, 10), .inr (8, 11), .inr (8, 12), .inr (8, 13), .inr (17, 4)], [(some hkb01_111, hkb01_368, [])])
def hkb01_374 : Int × Int := (.ofNat 1, .ofNat 17)
def hkb01_375 : ai_E := [hkb01_38, hkb01_36, hkb01_37, hkb01_38, hkb01_38, hkb01_38, hkb01_39, hkb01_40, hkb01_2, hkb01_307, hkb01_374]
def hkb01_376 : ai_N := (.ofNat 1, .ofNat 17, [(10, .ofNat 0, .ofNat 0)])
def hkb01_377 : ai_V := .inl (false, hkb01_376)
def kbn_264 : List ai_Nd := [(4, (hkb01_375, [hkb01_7, hkb01_162, hkb01_111, hkb01_377], [], hkb01_373), [.inl 3], [.inl 99995, .inl 1, .inr (true, .ofNat 17, 10), .inl 100000])]
set_option maxRecDepth 1000000 in
theorem kbk_264 : ai_ck [] [] kb_264 [.inl 100000, .inl 0, .inl 0, .inl 0] kbn_264 38 = true := by decide +kernel
theorem kbh_264 : ai_holds kb_264 := ai_thm kbk_264 ai_nil
def hkb01_378 : ai_C := .inr (.inr (0, [hkb01_309, hkb01_310, hkb01_295, hkb01_16, hkb01_356]))
def hkb01_379 : Bool × Option ai_C := (false, some hkb01_378)
def hkb01_380 : ai_W := [hkb01_25, hkb01_25, hkb01_25, hkb01_25, hkb01_25, hkb01_25, hkb01_25, hkb01_25, hkb01_354, hkb01_25, hkb01_25, hkb01_25, hkb01_25, hkb01_25, hkb01_25, hkb01_25, hkb01_25, hkb01_379, hkb01_317, hkb01_25, hkb01_298, hkb01_25, hkb01_25, hkb01_25, hkb01_25, hkb01_25, hkb01_25, hkb01_25, hkb01_25, hkb01_25, hkb01_25, hkb01_25, hkb01_25, hkb01_25, hkb01_25, hkb01_25, hkb01_25, hkb01_25, hkb01_25, hkb01_25, hkb01_25, hkb01_25, hkb01_25, hkb01_25, hkb01_25, hkb01_25, hkb01_25, hkb01_25, hkb01_25, hkb01_25, hkb01_25, hkb01_25, hkb01_25, hkb01_25, hkb01_25, hkb01_25, hkb01_25, hkb01_25, hkb01_25, hkb01_25, hkb01_25, hkb01_25, hkb01_25, hkb01_25, hkb01_25, hkb01_25, hkb01_25, hkb01_25, hkb01_25, hkb01_25, hkb01_25, hkb01_25, hkb01_25, hkb01_25, hkb01_25, hkb01_25]
def hkb01_381 : Int × Int := (.ofNat 1, .ofNat 1)
def hkb01_382 : Int × Int := (.ofNat 1, .ofNat 128)
def hkb01_383 : ai_E := [hkb01_36, hkb01_37, hkb01_38, hkb01_381, hkb01_38, hkb01_39, hkb01_40, hkb01_2, hkb01_382]
def hkb01_384 : ai_E := [hkb01_36, hkb01_37, hkb01_38, hkb01_38, hkb01_38, hkb01_39, hkb01_40, hkb01_2, hkb01_382]
def hkb01_385 : Int × Int := (.ofNat 0, .ofNat 0)
def hkb01_386 : ai_E := [hkb01_36, hkb01_37, hkb01_38, hkb01_381, hkb01_38, hkb01_39, hkb01_40, hkb01_2, hkb01_385]
def hkb01_387 : ai_E := [hkb01_36, hkb01_37, hkb01_38, hkb01_38, hkb01_38, hkb01_39, hkb01_40, hkb01_2, hkb01_385]
/-- NeverAgain$Almanac.freeBits -/
def kb_265 : ai_K := (104, 1, (hkb01_340, [hkb01_7, hkb01_5, hkb01_5], [], hkb01_380), [.inr (8, 6), .inr (8, 7), .inr (8, 8), .inr (8, 9), .inr (8, 10), .inr (8, 11), .inr (8, 12), .inr (8, 13), .inr (17, 4)], [(some hkb01_111, hkb01_383, []), (some hkb01_111, hkb01_383, []), (some hkb01_111, hkb01_384, []), (some hkb01_111, hkb01_386, []), (some hkb01_111, hkb01_387, [])])
def kbn_265 : List ai_Nd := []
set_option maxRecDepth 1000000 in
theorem kbk_265 : ai_ck [kb_264] [] kb_265 [.inl 100000] kbn_265 43 = true := by decide +kernel
theorem kbh_265 : ai_holds kb_265 := ai_thm kbk_265 (ai_cons kbh_264 ai_nil)
def hkb01_388 : ai_E := [hkb01_0, hkb01_1, hkb01_2, hkb01_36, hkb01_37, hkb01_38, hkb01_38, hkb01_38, hkb01_39, hkb01_40, hkb01_2, hkb01_307]
def hkb01_389 : ai_C := .inr (.inr (6, [hkb01_171, hkb01_172, hkb01_173, hkb01_174, hkb01_175, hkb01_176, hkb01_53, hkb01_55, hkb01_57, hkb01_59, hkb01_61, hkb01_63, hkb01_65, hkb01_67]))
def hkb01_390 : Bool × Option ai_C := (false, some hkb01_389)
def hkb01_391 : ai_N := (.ofNat 0, .ofNat 128, [(11, .ofNat 0, .ofNat 0)])
def hkb01_392 : ai_V := .inl (false, hkb01_391)
def hkb01_393 : ai_C := .inr (.inr (0, [hkb01_309, hkb01_310, hkb01_295, hkb01_5, hkb01_392]))
def hkb01_394 : Bool × Option ai_C := (false, some hkb01_393)
def hkb01_395 : ai_W := [hkb01_45, hkb01_25, hkb01_25, hkb01_25, hkb01_25, hkb01_25, hkb01_25, hkb01_25, hkb01_390, hkb01_25, hkb01_25, hkb01_76, hkb01_25, hkb01_25, hkb01_25, hkb01_25, hkb01_25, hkb01_394, hkb01_317, hkb01_319, hkb01_298, hkb01_25, hkb01_25, hkb01_25, hkb01_25, hkb01_25, hkb01_25, hkb01_25, hkb01_25, hkb01_25, hkb01_25, hkb01_25, hkb01_25, hkb01_25, hkb01_25, hkb01_25, hkb01_25, hkb01_25, hkb01_25, hkb01_25, hkb01_25, hkb01_25, hkb01_25, hkb01_25, hkb01_25, hkb01_25, hkb01_25, hkb01_25, hkb01_25, hkb01_25, hkb01_25, hkb01_25, hkb01_25, hkb01_25, hkb01_25, hkb01_25, hkb01_25, hkb01_25, hkb01_25, hkb01_25, hkb01_25, hkb01_25, hkb01_25, hkb01_25, hkb01_25, hkb01_25, hkb01_25, hkb01_25, hkb01_25, hkb01_25, hkb01_25, hkb01_25, hkb01_25, hkb01_25, hkb01_25, hkb01_25]
def hkb01_396 : ai_C := .inr (.inr (0, [hkb01_309, hkb01_310, hkb01_295, hkb01_16, hkb01_120]))
def hkb01_397 : ai_E := [hkb01_0, hkb01_1, hkb01_2, hkb01_36, hkb01_37, hkb01_38, hkb01_381, hkb01_38, hkb01_39, hkb01_40, hkb01_2, hkb01_307]
def hkb01_398 : ai_N := (.ofNat 1, .ofNat 128, [])
def hkb01_399 : ai_V := .inl (false, hkb01_398)
def hkb01_400 : ai_C := .inr (.inr (0, [hkb01_309, hkb01_310, hkb01_295, hkb01_16, hkb01_399]))
/-- NeverAgain.may -/
def kb_266 : ai_K := (29, 2, (hkb01_388, [hkb01_4], [], hkb01_395), [.inr (0, 11), .inr (0, 12), .inr (0, 13), .inr (8, 6), .inr (8, 7), .inr (8, 8), .inr (8, 9), .inr (8, 10), .inr (8, 11), .inr (8, 12), .inr (8, 13), .inr (17, 4)], [(some hkb01_111, hkb01_388, [(17, hkb01_396), (18, hkb01_316), (19, hkb01_318), (20, hkb01_297)]), (some hkb01_111, hkb01_397, [(17, hkb01_396), (18, hkb01_316), (19, hkb01_318), (20, hkb01_297)]), (some hkb01_111, hkb01_388, [(17, hkb01_400), (18, hkb01_316), (19, hkb01_318), (20, hkb01_297)]), (some hkb01_111, hkb01_397, [(17, hkb01_400), (18, hkb01_316), (19, hkb01_318), (20, hkb01_297)]), (some hkb01_111, hkb01_397, [(17, hkb01_400), (18, hkb01_316), (19, hkb01_318), (20, hkb01_297)])])
def kbn_266 : List ai_Nd := []
set_option maxRecDepth 1000000 in
theorem kbk_266 : ai_ck [kb_263, kb_265] [] kb_266 [.inl 100000] kbn_266 11 = true := by decide +kernel
theorem kbh_266 : ai_holds kb_266 := ai_thm kbk_266 (ai_cons kbh_263 (ai_cons kbh_265 ai_nil))
def hkb01_401 : ai_W := [hkb01_25, hkb01_25, hkb01_25, hkb01_25, hkb01_25, hkb01_25, hkb01_25, hkb01_25, hkb01_25, hkb01_25, hkb01_25, hkb01_25, hkb01_25, hkb01_25, hkb01_25, hkb01_25, hkb01_25, hkb01_25, hkb01_25, hkb01_25, hkb01_25, hkb01_25, hkb01_25, hkb01_25, hkb01_25, hkb01_25, hkb01_25, hkb01_25, hkb01_25, hkb01_25, hkb01_25, hkb01_25, hkb01_25, hkb01_25, hkb01_25, hkb01_25, hkb01_25, hkb01_25, hkb01_25, hkb01_25, hkb01_25, hkb01_25, hkb01_25, hkb01_25, hkb01_25, hkb01_25, hkb01_25, hkb01_25, hkb01_25, hkb01_25, hkb01_25, hkb01_25, hkb01_25, hkb01_25, hkb01_25, hkb01_25, hkb01_25, hkb01_25, hkb01_25, hkb01_25, hkb01_25, hkb01_25, hkb01_25, hkb01_25, hkb01_25, hkb01_25, hkb01_25, hkb01_25, hkb01_25, hkb01_25, hkb01_25, hkb01_25, hkb01_25, hkb01_25, hkb01_25, hkb01_25]
def hkb01_402 : ai_N := (.ofNat 0, .ofNat 63, [])
def hkb01_403 : ai_V := .inl (false, hkb01_402)
/-- java/lang/Integer.bitCount -/
def kb_267 : ai_K := (164, 0, ([hkb01_38], [hkb01_162], [], hkb01_401), [.inl 0], [(some hkb01_403, [hkb01_38], [])])
def kbn_267 : List ai_Nd := []
set_option maxRecDepth 1000000 in
theorem kbk_267 : ai_ck [] [] kb_267 [.inl 100000] kbn_267 43 = true := by decide +kernel
theorem kbh_267 : ai_holds kb_267 := ai_thm kbk_267 ai_nil
def hkb01_404 : ai_E := [hkb01_38, hkb01_38, hkb01_36, hkb01_37, hkb01_38, hkb01_38, hkb01_38, hkb01_39, hkb01_40, hkb01_2, hkb01_307]
def hkb01_405 : ai_N := (.ofNat 4, .ofNat 16, [(2, .ofNat 0, .ofNat 0)])
def hkb01_406 : ai_V := .inl (false, hkb01_405)
def hkb01_407 : ai_N := (.ofNat 1, .ofNat 4, [(3, .ofNat 0, .ofNat 0)])
def hkb01_408 : ai_V := .inl (false, hkb01_407)
def hkb01_409 : ai_N := (.ofNat 0, .ofNat 60, [(7, .ofNat 0, .ofNat 0)])
def hkb01_410 : ai_V := .inl (false, hkb01_409)
def hkb01_411 : ai_N := (.ofNat 0, .ofNat 5, [(8, .ofNat 0, .ofNat 0)])
def hkb01_412 : ai_V := .inl (false, hkb01_411)
def hkb01_413 : ai_N := (.ofNat 0, .ofNat 4, [(9, .ofNat 0, .ofNat 0)])
def hkb01_414 : ai_V := .inl (false, hkb01_413)
def hkb01_415 : ai_C := .inr (.inr (6, [hkb01_171, hkb01_172, hkb01_173, hkb01_174, hkb01_175, hkb01_176, hkb01_406, hkb01_408, hkb01_211, hkb01_57, hkb01_59, hkb01_410, hkb01_412, hkb01_414]))
def hkb01_416 : Bool × Option ai_C := (false, some hkb01_415)
def hkb01_417 : ai_N := (.ofNat 0, .ofNat 128, [(10, .ofNat 0, .ofNat 0)])
def hkb01_418 : ai_V := .inl (false, hkb01_417)
def hkb01_419 : ai_C := .inr (.inr (0, [hkb01_309, hkb01_310, hkb01_295, hkb01_16, hkb01_418]))
def hkb01_420 : Bool × Option ai_C := (false, some hkb01_419)
def hkb01_421 : ai_W := [hkb01_25, hkb01_25, hkb01_25, hkb01_25, hkb01_25, hkb01_25, hkb01_25, hkb01_25, hkb01_416, hkb01_25, hkb01_74, hkb01_25, hkb01_25, hkb01_25, hkb01_25, hkb01_25, hkb01_25, hkb01_420, hkb01_25, hkb01_25, hkb01_25, hkb01_25, hkb01_25, hkb01_25, hkb01_25, hkb01_25, hkb01_25, hkb01_25, hkb01_25, hkb01_25, hkb01_25, hkb01_25, hkb01_25, hkb01_25, hkb01_25, hkb01_25, hkb01_25, hkb01_25, hkb01_25, hkb01_25, hkb01_25, hkb01_25, hkb01_25, hkb01_25, hkb01_25, hkb01_25, hkb01_25, hkb01_25, hkb01_25, hkb01_25, hkb01_25, hkb01_25, hkb01_25, hkb01_25, hkb01_25, hkb01_25, hkb01_25, hkb01_25, hkb01_25, hkb01_25, hkb01_25, hkb01_25, hkb01_25, hkb01_25, hkb01_25, hkb01_25, hkb01_25, hkb01_25, hkb01_25, hkb01_25, hkb01_25, hkb01_25, hkb01_25, hkb01_25, hkb01_25, hkb01_25]
def hkb01_422 : ai_N := (.negSucc 3, .negSucc 3, [])
def hkb01_423 : ai_V := .inl (false, hkb01_422)
def hkb01_424 : ai_E := [hkb01_232, hkb01_38, hkb01_36, hkb01_37, hkb01_38, hkb01_38, hkb01_38, hkb01_39, hkb01_40, hkb01_2, hkb01_307]
def hkb01_425 : ai_E := [hkb01_230, hkb01_38, hkb01_36, hkb01_37, hkb01_38, hkb01_38, hkb01_38, hkb01_39, hkb01_40, hkb01_2, hkb01_307]
def hkb01_426 : ai_E := [hkb01_228, hkb01_38, hkb01_36, hkb01_37, hkb01_38, hkb01_38, hkb01_385, hkb01_39, hkb01_40, hkb01_2, hkb01_307]
def hkb01_427 : Int × Int := (.ofNat 2, .ofNat 2)
def hkb01_428 : ai_E := [hkb01_228, hkb01_38, hkb01_36, hkb01_37, hkb01_38, hkb01_38, hkb01_427, hkb01_39, hkb01_40, hkb01_2, hkb01_307]
def hkb01_429 : ai_E := [hkb01_228, hkb01_38, hkb01_36, hkb01_37, hkb01_38, hkb01_38, hkb01_38, hkb01_39, hkb01_40, hkb01_2, hkb01_307]
/-- NeverAgain$Almanac.meaning -/
def kb_268 : ai_K := (107, 1, (hkb01_404, [hkb01_7, hkb01_162, hkb01_260, hkb01_5], [], hkb01_421), [.inl 1, .inl 2, .inr (8, 6), .inr (8, 7), .inr (8, 8), .inr (8, 9), .inr (8, 10), .inr (8, 11), .inr (8, 12), .inr (8, 13), .inr (17, 4)], [(some hkb01_423, hkb01_424, []), (some hkb01_423, hkb01_425, []), (some hkb01_124, hkb01_426, []), (some hkb01_111, hkb01_428, []), (some hkb01_124, hkb01_429, []), (some hkb01_423, hkb01_429, [])])
def kbn_268 : List ai_Nd := []
set_option maxRecDepth 1000000 in
theorem kbk_268 : ai_ck [kb_267, kb_253] [] kb_268 [.inl 100000] kbn_268 45 = true := by decide +kernel
theorem kbh_268 : ai_holds kb_268 := ai_thm kbk_268 (ai_cons kbh_267 (ai_cons kbh_253 ai_nil))
def hkb01_430 : ai_E := [hkb01_38, hkb01_0, hkb01_1, hkb01_2, hkb01_36, hkb01_37, hkb01_38, hkb01_38, hkb01_38, hkb01_39, hkb01_40, hkb01_2, hkb01_307]
def hkb01_431 : ai_N := (.ofNat 0, .ofNat 128, [(12, .ofNat 0, .ofNat 0)])
def hkb01_432 : ai_V := .inl (false, hkb01_431)
def hkb01_433 : ai_C := .inr (.inr (0, [hkb01_309, hkb01_310, hkb01_295, hkb01_5, hkb01_432]))
def hkb01_434 : Bool × Option ai_C := (false, some hkb01_433)
def hkb01_435 : ai_W := [hkb01_170, hkb01_25, hkb01_25, hkb01_25, hkb01_25, hkb01_25, hkb01_25, hkb01_25, hkb01_190, hkb01_25, hkb01_74, hkb01_76, hkb01_25, hkb01_25, hkb01_25, hkb01_25, hkb01_25, hkb01_434, hkb01_317, hkb01_319, hkb01_298, hkb01_25, hkb01_25, hkb01_25, hkb01_25, hkb01_25, hkb01_25, hkb01_25, hkb01_25, hkb01_25, hkb01_25, hkb01_25, hkb01_25, hkb01_25, hkb01_25, hkb01_25, hkb01_25, hkb01_25, hkb01_25, hkb01_25, hkb01_25, hkb01_25, hkb01_25, hkb01_25, hkb01_25, hkb01_25, hkb01_25, hkb01_25, hkb01_25, hkb01_25, hkb01_25, hkb01_25, hkb01_25, hkb01_25, hkb01_25, hkb01_25, hkb01_25, hkb01_25, hkb01_25, hkb01_25, hkb01_25, hkb01_25, hkb01_25, hkb01_25, hkb01_25, hkb01_25, hkb01_25, hkb01_25, hkb01_25, hkb01_25, hkb01_25, hkb01_25, hkb01_25, hkb01_25, hkb01_25, hkb01_25]
def hkb01_436 : ai_E := [hkb01_228, hkb01_0, hkb01_1, hkb01_2, hkb01_36, hkb01_37, hkb01_38, hkb01_38, hkb01_38, hkb01_39, hkb01_40, hkb01_2, hkb01_307]
/-- NeverAgain.means -/
def kb_269 : ai_K := (31, 2, (hkb01_430, [hkb01_4, hkb01_162], [], hkb01_435), [.inl 1, .inr (0, 11), .inr (0, 12), .inr (0, 13), .inr (8, 6), .inr (8, 7), .inr (8, 8), .inr (8, 9), .inr (8, 10), .inr (8, 11), .inr (8, 12), .inr (8, 13), .inr (17, 4)], [(some hkb01_194, hkb01_430, []), (some hkb01_423, hkb01_436, [(17, hkb01_362), (18, hkb01_316), (19, hkb01_318), (20, hkb01_297)]), (some hkb01_111, hkb01_436, [(17, hkb01_362), (18, hkb01_316), (19, hkb01_318), (20, hkb01_297)])])
def kbn_269 : List ai_Nd := []
set_option maxRecDepth 1000000 in
theorem kbk_269 : ai_ck [kb_253, kb_263, kb_265, kb_268] [] kb_269 [.inl 100000] kbn_269 20 = true := by decide +kernel
theorem kbh_269 : ai_holds kb_269 := ai_thm kbk_269 (ai_cons kbh_253 (ai_cons kbh_263 (ai_cons kbh_265 (ai_cons kbh_268 ai_nil))))
def hkb01_437 : ai_E := [hkb01_38, hkb01_38, hkb01_38, hkb01_36, hkb01_37, hkb01_38, hkb01_38, hkb01_38, hkb01_39, hkb01_40, hkb01_2, hkb01_307]
def hkb01_438 : ai_C := .inr (.inr (0, [hkb01_309, hkb01_310, hkb01_295, hkb01_16, hkb01_392]))
def hkb01_439 : Bool × Option ai_C := (false, some hkb01_438)
def hkb01_440 : ai_W := [hkb01_25, hkb01_25, hkb01_25, hkb01_25, hkb01_25, hkb01_25, hkb01_25, hkb01_25, hkb01_390, hkb01_25, hkb01_74, hkb01_25, hkb01_25, hkb01_25, hkb01_25, hkb01_25, hkb01_25, hkb01_439, hkb01_25, hkb01_25, hkb01_25, hkb01_25, hkb01_25, hkb01_25, hkb01_25, hkb01_25, hkb01_25, hkb01_25, hkb01_25, hkb01_25, hkb01_25, hkb01_25, hkb01_25, hkb01_25, hkb01_25, hkb01_25, hkb01_25, hkb01_25, hkb01_25, hkb01_25, hkb01_25, hkb01_25, hkb01_25, hkb01_25, hkb01_25, hkb01_25, hkb01_25, hkb01_25, hkb01_25, hkb01_25, hkb01_25, hkb01_25, hkb01_25, hkb01_25, hkb01_25, hkb01_25, hkb01_25, hkb01_25, hkb01_25, hkb01_25, hkb01_25, hkb01_25, hkb01_25, hkb01_25, hkb01_25, hkb01_25, hkb01_25, hkb01_25, hkb01_25, hkb01_25, hkb01_25, hkb01_25, hkb01_25, hkb01_25, hkb01_25, hkb01_25]
/-- NeverAgain$Almanac.tells -/
def kb_273 : ai_K := (165, 2, (hkb01_437, [hkb01_7, hkb01_162, hkb01_260, hkb01_346], [], hkb01_440), [.inl 1, .inl 2, .inl 3, .inr (8, 6), .inr (8, 7), .inr (8, 8), .inr (8, 9), .inr (8, 10), .inr (8, 11), .inr (8, 12), .inr (8, 13), .inr (17, 4)], [(some hkb01_157, hkb01_437, []), (some hkb01_120, hkb01_437, [])])
def kbn_273 : List ai_Nd := []
set_option maxRecDepth 1000000 in
theorem kbk_273 : ai_ck [kb_268] [] kb_273 [.inl 100000] kbn_273 16 = true := by decide +kernel
theorem kbh_273 : ai_holds kb_273 := ai_thm kbk_273 (ai_cons kbh_268 ai_nil)
def hkb01_441 : ai_W := [hkb01_25, hkb01_25, hkb01_25, hkb01_25, hkb01_25, hkb01_25, hkb01_25, hkb01_25, hkb01_219, hkb01_25, hkb01_74, hkb01_25, hkb01_25, hkb01_25, hkb01_25, hkb01_25, hkb01_25, hkb01_372, hkb01_317, hkb01_25, hkb01_298, hkb01_25, hkb01_25, hkb01_25, hkb01_25, hkb01_25, hkb01_25, hkb01_25, hkb01_25, hkb01_25, hkb01_25, hkb01_25, hkb01_25, hkb01_25, hkb01_25, hkb01_25, hkb01_25, hkb01_25, hkb01_25, hkb01_25, hkb01_25, hkb01_25, hkb01_25, hkb01_25, hkb01_25, hkb01_25, hkb01_25, hkb01_25, hkb01_25, hkb01_25, hkb01_25, hkb01_25, hkb01_25, hkb01_25, hkb01_25, hkb01_25, hkb01_25, hkb01_25, hkb01_25, hkb01_25, hkb01_25, hkb01_25, hkb01_25, hkb01_25, hkb01_25, hkb01_25, hkb01_25, hkb01_25, hkb01_25, hkb01_25, hkb01_25, hkb01_25, hkb01_25, hkb01_25, hkb01_25, hkb01_25]
def hkb01_442 : ai_N := (.ofNat 1, .ofNat 16, [])
def hkb01_443 : ai_V := .inl (false, hkb01_442)
/-- NeverAgain$Almanac.leastFor -/
def kb_274 : ai_K := (109, 3, (hkb01_368, [hkb01_7, hkb01_162, hkb01_5, hkb01_5], [], hkb01_441), [.inl 1, .inr (8, 6), .inr (8, 7), .inr (8, 8), .inr (8, 9), .inr (8, 10), .inr (8, 11), .inr (8, 12), .inr (8, 13), .inr (17, 4)], [(some hkb01_443, hkb01_368, []), (some hkb01_120, hkb01_368, [])])
def kbn_274 : List ai_Nd := [(7, (hkb01_375, [hkb01_7, hkb01_162, hkb01_111, hkb01_377], [], hkb01_441), [.inl 3], [.inl 99992, .inl 1, .inr (true, .ofNat 17, 10), .inl 100000])]
set_option maxRecDepth 1000000 in
theorem kbk_274 : ai_ck [kb_273, kb_265] [] kb_274 [.inl 100000, .inl 0, .inl 0, .inl 0] kbn_274 15 = true := by decide +kernel
theorem kbh_274 : ai_holds kb_274 := ai_thm kbk_274 (ai_cons kbh_273 (ai_cons kbh_265 ai_nil))
def hkb01_444 : ai_E := [hkb01_201, hkb01_0, hkb01_1, hkb01_2, hkb01_36, hkb01_37, hkb01_38, hkb01_38, hkb01_38, hkb01_39, hkb01_40, hkb01_2, hkb01_307]
def hkb01_445 : ai_E := [hkb01_222, hkb01_0, hkb01_1, hkb01_2, hkb01_36, hkb01_37, hkb01_38, hkb01_38, hkb01_38, hkb01_39, hkb01_40, hkb01_2, hkb01_307]
def hkb01_446 : ai_E := [hkb01_42, hkb01_0, hkb01_1, hkb01_2, hkb01_36, hkb01_37, hkb01_38, hkb01_38, hkb01_38, hkb01_39, hkb01_40, hkb01_2, hkb01_307]
/-- NeverAgain.cheap -/
def kb_275 : ai_K := (33, 4, (hkb01_430, [hkb01_4, hkb01_162, hkb01_5], [], hkb01_435), [.inl 1, .inr (0, 11), .inr (0, 12), .inr (0, 13), .inr (8, 6), .inr (8, 7), .inr (8, 8), .inr (8, 9), .inr (8, 10), .inr (8, 11), .inr (8, 12), .inr (8, 13), .inr (17, 4)], [(some hkb01_194, hkb01_444, []), (some hkb01_194, hkb01_445, []), (some hkb01_423, hkb01_446, [(17, hkb01_362), (18, hkb01_316), (19, hkb01_318), (20, hkb01_297)]), (some hkb01_443, hkb01_446, [(17, hkb01_362), (18, hkb01_316), (19, hkb01_318), (20, hkb01_297)])])
def kbn_275 : List ai_Nd := []
set_option maxRecDepth 1000000 in
theorem kbk_275 : ai_ck [kb_251, kb_263, kb_274] [] kb_275 [.inl 100000] kbn_275 22 = true := by decide +kernel
theorem kbh_275 : ai_holds kb_275 := ai_thm kbk_275 (ai_cons kbh_251 (ai_cons kbh_263 (ai_cons kbh_274 ai_nil)))
def hkb01_447 : ai_W := [hkb01_268, hkb01_25, hkb01_25, hkb01_25, hkb01_25, hkb01_25, hkb01_25, hkb01_25, hkb01_282, hkb01_25, hkb01_25, hkb01_25, hkb01_25, hkb01_25, hkb01_25, hkb01_25, hkb01_25, hkb01_25, hkb01_25, hkb01_25, hkb01_25, hkb01_25, hkb01_25, hkb01_25, hkb01_25, hkb01_25, hkb01_25, hkb01_25, hkb01_25, hkb01_25, hkb01_25, hkb01_25, hkb01_25, hkb01_25, hkb01_25, hkb01_25, hkb01_25, hkb01_25, hkb01_25, hkb01_25, hkb01_25, hkb01_25, hkb01_25, hkb01_25, hkb01_25, hkb01_25, hkb01_25, hkb01_25, hkb01_25, hkb01_25, hkb01_25, hkb01_25, hkb01_25, hkb01_25, hkb01_25, hkb01_25, hkb01_25, hkb01_25, hkb01_25, hkb01_25, hkb01_25, hkb01_25, hkb01_25, hkb01_25, hkb01_25, hkb01_25, hkb01_25, hkb01_25, hkb01_25, hkb01_25, hkb01_25, hkb01_25, hkb01_25, hkb01_25, hkb01_25, hkb01_25]
def hkb01_448 : ai_N := (.negSucc 1, .negSucc 1, [])
def hkb01_449 : ai_V := .inl (false, hkb01_448)
def hkb01_450 : ai_E := [hkb01_228, hkb01_38, hkb01_0, hkb01_1, hkb01_2, hkb01_36, hkb01_37, hkb01_38, hkb01_38, hkb01_38, hkb01_39, hkb01_40, hkb01_2]
def hkb01_451 : ai_N := (.negSucc 2, .negSucc 2, [])
def hkb01_452 : ai_V := .inl (false, hkb01_451)
def hkb01_453 : Int × Int := (.ofNat 60, .ofNat 60)
def hkb01_454 : ai_E := [hkb01_324, hkb01_38, hkb01_0, hkb01_1, hkb01_2, hkb01_36, hkb01_37, hkb01_38, hkb01_38, hkb01_38, hkb01_453, hkb01_40, hkb01_2]
def hkb01_455 : ai_E := [hkb01_324, hkb01_38, hkb01_0, hkb01_1, hkb01_2, hkb01_36, hkb01_37, hkb01_38, hkb01_38, hkb01_38, hkb01_196, hkb01_40, hkb01_2]
/-- NeverAgain.refusal -/
def kb_276 : ai_K := (111, 1, (hkb01_258, [hkb01_4, hkb01_162, hkb01_260], [], hkb01_447), [.inl 1, .inl 2, .inr (0, 11), .inr (0, 12), .inr (0, 13), .inr (8, 6), .inr (8, 7), .inr (8, 8), .inr (8, 9), .inr (8, 10), .inr (8, 11), .inr (8, 12), .inr (8, 13)], [(some hkb01_194, hkb01_258, []), (some hkb01_449, hkb01_450, []), (some hkb01_452, hkb01_454, []), (some hkb01_120, hkb01_455, [])])
def kbn_276 : List ai_Nd := []
set_option maxRecDepth 1000000 in
theorem kbk_276 : ai_ck [kb_253] [] kb_276 [.inl 100000] kbn_276 24 = true := by decide +kernel
theorem kbh_276 : ai_holds kb_276 := ai_thm kbk_276 (ai_cons kbh_253 ai_nil)
def hkb01_456 : ai_W := [hkb01_25, hkb01_25, hkb01_25, hkb01_25, hkb01_25, hkb01_25, hkb01_25, hkb01_25, hkb01_219, hkb01_25, hkb01_25, hkb01_76, hkb01_25, hkb01_25, hkb01_25, hkb01_25, hkb01_25, hkb01_25, hkb01_25, hkb01_25, hkb01_25, hkb01_25, hkb01_25, hkb01_25, hkb01_25, hkb01_25, hkb01_25, hkb01_25, hkb01_25, hkb01_25, hkb01_25, hkb01_25, hkb01_25, hkb01_25, hkb01_25, hkb01_25, hkb01_25, hkb01_25, hkb01_25, hkb01_25, hkb01_25, hkb01_25, hkb01_25, hkb01_25, hkb01_25, hkb01_25, hkb01_25, hkb01_25, hkb01_25, hkb01_25, hkb01_25, hkb01_25, hkb01_25, hkb01_25, hkb01_25, hkb01_25, hkb01_25, hkb01_25, hkb01_25, hkb01_25, hkb01_25, hkb01_25, hkb01_25, hkb01_25, hkb01_25, hkb01_25, hkb01_25, hkb01_25, hkb01_25, hkb01_25, hkb01_25, hkb01_25, hkb01_25, hkb01_25, hkb01_25, hkb01_25]
def hkb01_457 : ai_E := [hkb01_38, hkb01_36, hkb01_37, hkb01_38, hkb01_38, hkb01_38, hkb01_453, hkb01_40, hkb01_2]
def hkb01_458 : ai_E := [hkb01_38, hkb01_36, hkb01_37, hkb01_38, hkb01_38, hkb01_38, hkb01_196, hkb01_40, hkb01_2]
def hkb01_459 : ai_N := (.ofNat 1, .ofNat 60, [(6, .ofNat 1, .ofNat 1)])
def hkb01_460 : ai_V := .inl (false, hkb01_459)
def hkb01_461 : ai_C := .inr (.inr (6, [hkb01_171, hkb01_172, hkb01_173, hkb01_174, hkb01_175, hkb01_176, hkb01_205, hkb01_207, hkb01_209, hkb01_211, hkb01_57, hkb01_460, hkb01_215, hkb01_217]))
/-- NeverAgain$Told.addDay -/
def kb_277 : ai_K := (112, 0, (hkb01_203, [hkb01_16, hkb01_162], [], hkb01_456), [.inl 1, .inr (8, 6), .inr (8, 7), .inr (8, 8), .inr (8, 9), .inr (8, 10), .inr (8, 11), .inr (8, 12), .inr (8, 13)], [(some hkb01_120, hkb01_457, []), (some hkb01_157, hkb01_458, [(8, hkb01_461), (11, hkb01_75)])])
def kbn_277 : List ai_Nd := []
set_option maxRecDepth 1000000 in
theorem kbk_277 : ai_ck [] [] kb_277 [.inl 100000] kbn_277 19 = true := by decide +kernel
theorem kbh_277 : ai_holds kb_277 := ai_thm kbk_277 ai_nil
def hkb01_462 : ai_E := [hkb01_324, hkb01_0, hkb01_1, hkb01_2, hkb01_36, hkb01_37, hkb01_38, hkb01_38, hkb01_38, hkb01_196, hkb01_40, hkb01_2, hkb01_307]
def hkb01_463 : ai_N := (.ofNat 1, .ofNat 60, [(9, .ofNat 1, .ofNat 1)])
def hkb01_464 : ai_V := .inl (false, hkb01_463)
def hkb01_465 : ai_C := .inr (.inr (6, [hkb01_171, hkb01_172, hkb01_173, hkb01_174, hkb01_175, hkb01_176, hkb01_178, hkb01_180, hkb01_59, hkb01_61, hkb01_182, hkb01_464, hkb01_186, hkb01_188]))
def hkb01_466 : ai_E := [hkb01_228, hkb01_0, hkb01_1, hkb01_2, hkb01_36, hkb01_37, hkb01_38, hkb01_38, hkb01_38, hkb01_196, hkb01_40, hkb01_2, hkb01_307]
def hkb01_467 : ai_E := [hkb01_324, hkb01_0, hkb01_1, hkb01_2, hkb01_36, hkb01_37, hkb01_38, hkb01_38, hkb01_38, hkb01_453, hkb01_40, hkb01_2, hkb01_307]
/-- NeverAgain.ring -/
def kb_278 : ai_K := (35, 2, (hkb01_430, [hkb01_4, hkb01_162, hkb01_5, hkb01_5], [], hkb01_435), [.inl 1, .inr (0, 11), .inr (0, 12), .inr (0, 13), .inr (8, 6), .inr (8, 7), .inr (8, 8), .inr (8, 9), .inr (8, 10), .inr (8, 11), .inr (8, 12), .inr (8, 13), .inr (17, 4)], [(some hkb01_423, hkb01_462, [(8, hkb01_465), (11, hkb01_75), (17, hkb01_362), (18, hkb01_316), (19, hkb01_318), (20, hkb01_297)]), (some hkb01_111, hkb01_466, [(8, hkb01_465), (11, hkb01_75), (17, hkb01_362), (18, hkb01_316), (19, hkb01_318), (20, hkb01_297)]), (some hkb01_452, hkb01_467, [(17, hkb01_362), (18, hkb01_316), (19, hkb01_318), (20, hkb01_297)]), (some hkb01_449, hkb01_436, [(17, hkb01_362), (18, hkb01_316), (19, hkb01_318), (20, hkb01_297)]), (some hkb01_194, hkb01_430, [(17, hkb01_362), (18, hkb01_316), (19, hkb01_318), (20, hkb01_297)])])
def kbn_278 : List ai_Nd := []
set_option maxRecDepth 1000000 in
theorem kbk_278 : ai_ck [kb_277, kb_276, kb_263, kb_265, kb_268] [] kb_278 [.inl 100000] kbn_278 29 = true := by decide +kernel
theorem kbh_278 : ai_holds kb_278 := ai_thm kbk_278 (ai_cons kbh_277 (ai_cons kbh_276 (ai_cons kbh_263 (ai_cons kbh_265 (ai_cons kbh_268 ai_nil)))))
/-- NeverAgain$Almanac.leastFree -/
def kb_279 : ai_K := (114, 2, (hkb01_340, [hkb01_7, hkb01_5, hkb01_5], [], hkb01_380), [.inr (8, 6), .inr (8, 7), .inr (8, 8), .inr (8, 9), .inr (8, 10), .inr (8, 11), .inr (8, 12), .inr (8, 13), .inr (17, 4)], [(some hkb01_443, hkb01_340, []), (some hkb01_120, hkb01_340, [])])
def hkb01_468 : ai_E := [hkb01_36, hkb01_37, hkb01_38, hkb01_38, hkb01_38, hkb01_39, hkb01_40, hkb01_2, hkb01_307, hkb01_374]
def hkb01_469 : ai_N := (.ofNat 1, .ofNat 17, [(9, .ofNat 0, .ofNat 0)])
def hkb01_470 : ai_V := .inl (false, hkb01_469)
def kbn_279 : List ai_Nd := [(7, (hkb01_468, [hkb01_7, hkb01_111, hkb01_470], [], hkb01_380), [.inl 2], [.inl 99992, .inl 1, .inr (true, .ofNat 17, 9), .inl 100000])]
set_option maxRecDepth 1000000 in
theorem kbk_279 : ai_ck [kb_265] [] kb_279 [.inl 100000, .inl 0, .inl 0, .inl 0] kbn_279 15 = true := by decide +kernel
theorem kbh_279 : ai_holds kb_279 := ai_thm kbk_279 (ai_cons kbh_265 ai_nil)
def hkb01_471 : ai_N := (.ofNat 61, .ofNat 61, [])
def hkb01_472 : ai_V := .inl (false, hkb01_471)
/-- NeverAgain.holds -/
def kb_280 : ai_K := (37, 3, (hkb01_388, [hkb01_4, hkb01_5, hkb01_5], [], hkb01_395), [.inr (0, 11), .inr (0, 12), .inr (0, 13), .inr (8, 6), .inr (8, 7), .inr (8, 8), .inr (8, 9), .inr (8, 10), .inr (8, 11), .inr (8, 12), .inr (8, 13), .inr (17, 4)], [(some hkb01_113, hkb01_388, [(17, hkb01_362), (18, hkb01_316), (19, hkb01_318), (20, hkb01_297)]), (some hkb01_472, hkb01_388, [(17, hkb01_362), (18, hkb01_316), (19, hkb01_318), (20, hkb01_297)])])
def hkb01_473 : Int × Int := (.ofNat 0, .ofNat 61)
def hkb01_474 : ai_E := [hkb01_0, hkb01_1, hkb01_2, hkb01_36, hkb01_37, hkb01_38, hkb01_38, hkb01_38, hkb01_39, hkb01_40, hkb01_2, hkb01_307, hkb01_473]
def hkb01_475 : ai_N := (.ofNat 0, .ofNat 61, [(12, .ofNat 0, .ofNat 0)])
def hkb01_476 : ai_V := .inl (false, hkb01_475)
def hkb01_477 : ai_W := [hkb01_45, hkb01_25, hkb01_25, hkb01_25, hkb01_25, hkb01_25, hkb01_25, hkb01_25, hkb01_390, hkb01_25, hkb01_25, hkb01_76, hkb01_25, hkb01_25, hkb01_25, hkb01_25, hkb01_25, hkb01_364, hkb01_365, hkb01_366, hkb01_305, hkb01_25, hkb01_25, hkb01_25, hkb01_25, hkb01_25, hkb01_25, hkb01_25, hkb01_25, hkb01_25, hkb01_25, hkb01_25, hkb01_25, hkb01_25, hkb01_25, hkb01_25, hkb01_25, hkb01_25, hkb01_25, hkb01_25, hkb01_25, hkb01_25, hkb01_25, hkb01_25, hkb01_25, hkb01_25, hkb01_25, hkb01_25, hkb01_25, hkb01_25, hkb01_25, hkb01_25, hkb01_25, hkb01_25, hkb01_25, hkb01_25, hkb01_25, hkb01_25, hkb01_25, hkb01_25, hkb01_25, hkb01_25, hkb01_25, hkb01_25, hkb01_25, hkb01_25, hkb01_25, hkb01_25, hkb01_25, hkb01_25, hkb01_25, hkb01_25, hkb01_25, hkb01_25, hkb01_25, hkb01_25]
def kbn_280 : List ai_Nd := [(14, (hkb01_474, [hkb01_4, hkb01_476, hkb01_5], [], hkb01_477), [.inl 1], [.inl 99985, .inl 1, .inr (true, .ofNat 61, 12), .inl 100000])]
set_option maxRecDepth 1000000 in
theorem kbk_280 : ai_ck [kb_261, kb_263, kb_279] [] kb_280 [.inl 100000, .inl 0, .inl 0, .inl 0] kbn_280 17 = true := by decide +kernel
theorem kbh_280 : ai_holds kb_280 := ai_thm kbk_280 (ai_cons kbh_261 (ai_cons kbh_263 (ai_cons kbh_279 ai_nil)))
def hkb01_478 : ai_C := .inl (.int, [(12, hkb01_315)])
def hkb01_479 : Bool × Option ai_C := (false, some hkb01_478)
def hkb01_480 : ai_W := [hkb01_170, hkb01_25, hkb01_25, hkb01_25, hkb01_25, hkb01_25, hkb01_25, hkb01_25, hkb01_190, hkb01_25, hkb01_25, hkb01_25, hkb01_25, hkb01_25, hkb01_25, hkb01_25, hkb01_25, hkb01_25, hkb01_25, hkb01_25, hkb01_25, hkb01_25, hkb01_25, hkb01_25, hkb01_25, hkb01_25, hkb01_25, hkb01_25, hkb01_25, hkb01_25, hkb01_25, hkb01_25, hkb01_25, hkb01_479, hkb01_25, hkb01_25, hkb01_25, hkb01_25, hkb01_25, hkb01_25, hkb01_25, hkb01_25, hkb01_25, hkb01_25, hkb01_25, hkb01_25, hkb01_25, hkb01_25, hkb01_25, hkb01_25, hkb01_25, hkb01_25, hkb01_25, hkb01_25, hkb01_25, hkb01_25, hkb01_25, hkb01_25, hkb01_25, hkb01_25, hkb01_25, hkb01_25, hkb01_25, hkb01_25, hkb01_25, hkb01_25, hkb01_25, hkb01_25, hkb01_25, hkb01_25, hkb01_25, hkb01_25, hkb01_25, hkb01_25, hkb01_25, hkb01_25]
def hkb01_481 : Int × Int := (.ofNat 12, .ofNat 12)
def hkb01_482 : ai_E := [hkb01_228, hkb01_481, hkb01_1, hkb01_2, hkb01_36, hkb01_37, hkb01_38, hkb01_38, hkb01_38, hkb01_39, hkb01_40, hkb01_2]
def hkb01_483 : ai_N := (.ofNat 1, .ofNat 12, [(1, .ofNat 1, .ofNat 1)])
def hkb01_484 : ai_V := .inl (false, hkb01_483)
def hkb01_485 : Int × Int := (.ofNat 0, .ofNat 11)
def hkb01_486 : ai_E := [hkb01_228, hkb01_485, hkb01_1, hkb01_2, hkb01_36, hkb01_37, hkb01_38, hkb01_38, hkb01_38, hkb01_39, hkb01_40, hkb01_2]
def hkb01_487 : ai_C := .inr (.inr (7, [hkb01_6, hkb01_7, hkb01_8, hkb01_9, hkb01_10, hkb01_11, hkb01_12, hkb01_13, hkb01_14, hkb01_16, hkb01_15, hkb01_484, hkb01_166, hkb01_168]))
def hkb01_488 : ai_E := [hkb01_385, hkb01_481, hkb01_1, hkb01_2, hkb01_36, hkb01_37, hkb01_38, hkb01_38, hkb01_38, hkb01_39, hkb01_40, hkb01_2]
def hkb01_489 : ai_E := [hkb01_385, hkb01_485, hkb01_1, hkb01_2, hkb01_36, hkb01_37, hkb01_38, hkb01_38, hkb01_38, hkb01_39, hkb01_40, hkb01_2]
/-- NeverAgain.tell -/
def kb_281 : ai_K := (39, 1, (hkb01_160, [hkb01_4, hkb01_162], [], hkb01_480), [.inl 1, .inr (0, 11), .inr (0, 12), .inr (0, 13), .inr (8, 6), .inr (8, 7), .inr (8, 8), .inr (8, 9), .inr (8, 10), .inr (8, 11), .inr (8, 12), .inr (8, 13)], [(some hkb01_194, hkb01_235, []), (some hkb01_194, hkb01_236, []), (some hkb01_452, hkb01_482, []), (some hkb01_484, hkb01_486, [(0, hkb01_487), (33, hkb01_478)]), (some hkb01_452, hkb01_488, []), (some hkb01_484, hkb01_489, [(0, hkb01_487), (33, hkb01_478)])])
def kbn_281 : List ai_Nd := []
set_option maxRecDepth 1000000 in
theorem kbk_281 : ai_ck [kb_253] [] kb_281 [.inl 100000] kbn_281 27 = true := by decide +kernel
theorem kbh_281 : ai_holds kb_281 := ai_thm kbk_281 (ai_cons kbh_253 ai_nil)
def hkb01_490 : ai_E := [hkb01_38, hkb01_0, hkb01_1, hkb01_2]
def hkb01_491 : ai_W := [hkb01_170, hkb01_25, hkb01_25, hkb01_25, hkb01_25, hkb01_25, hkb01_25, hkb01_25, hkb01_25, hkb01_25, hkb01_25, hkb01_25, hkb01_25, hkb01_25, hkb01_25, hkb01_25, hkb01_25, hkb01_25, hkb01_25, hkb01_25, hkb01_25, hkb01_25, hkb01_25, hkb01_25, hkb01_25, hkb01_25, hkb01_25, hkb01_25, hkb01_25, hkb01_25, hkb01_25, hkb01_25, hkb01_25, hkb01_25, hkb01_25, hkb01_25, hkb01_25, hkb01_25, hkb01_25, hkb01_25, hkb01_25, hkb01_25, hkb01_25, hkb01_25, hkb01_25, hkb01_25, hkb01_25, hkb01_25, hkb01_25, hkb01_25, hkb01_25, hkb01_25, hkb01_25, hkb01_25, hkb01_25, hkb01_25, hkb01_25, hkb01_25, hkb01_25, hkb01_25, hkb01_25, hkb01_25, hkb01_25, hkb01_25, hkb01_25, hkb01_25, hkb01_25, hkb01_25, hkb01_25, hkb01_25, hkb01_25, hkb01_25, hkb01_25, hkb01_25, hkb01_25, hkb01_25]
def hkb01_492 : ai_E := [hkb01_222, hkb01_0, hkb01_1, hkb01_2]
def hkb01_493 : ai_E := [hkb01_0, hkb01_0, hkb01_1, hkb01_2]
def hkb01_494 : ai_C := .inr (.inr (7, [hkb01_6, hkb01_7, hkb01_8, hkb01_9, hkb01_10, hkb01_11, hkb01_12, hkb01_13, hkb01_14, hkb01_16, hkb01_15, hkb01_18, hkb01_166, hkb01_168]))
def hkb01_495 : ai_E := [hkb01_201, hkb01_0, hkb01_1, hkb01_2]
/-- NeverAgain.cut -/
def kb_282 : ai_K := (41, 0, (hkb01_490, [hkb01_4, hkb01_162, hkb01_5], [], hkb01_491), [.inl 1, .inr (0, 11), .inr (0, 12), .inr (0, 13)], [(some hkb01_194, hkb01_492, []), (some hkb01_164, hkb01_493, [(0, hkb01_494)]), (some hkb01_194, hkb01_495, [])])
def kbn_282 : List ai_Nd := []
set_option maxRecDepth 1000000 in
theorem kbk_282 : ai_ck [] [] kb_282 [.inl 100000] kbn_282 14 = true := by decide +kernel
theorem kbh_282 : ai_holds kb_282 := ai_thm kbk_282 ai_nil
def hkb01_496 : ai_W := [hkb01_170, hkb01_25, hkb01_25, hkb01_25, hkb01_25, hkb01_25, hkb01_25, hkb01_25, hkb01_190, hkb01_25, hkb01_74, hkb01_76, hkb01_25, hkb01_25, hkb01_25, hkb01_25, hkb01_25, hkb01_434, hkb01_317, hkb01_319, hkb01_298, hkb01_25, hkb01_25, hkb01_25, hkb01_25, hkb01_25, hkb01_25, hkb01_25, hkb01_25, hkb01_25, hkb01_25, hkb01_25, hkb01_25, hkb01_479, hkb01_25, hkb01_25, hkb01_25, hkb01_25, hkb01_25, hkb01_25, hkb01_25, hkb01_25, hkb01_25, hkb01_25, hkb01_25, hkb01_25, hkb01_25, hkb01_25, hkb01_25, hkb01_25, hkb01_25, hkb01_25, hkb01_25, hkb01_25, hkb01_25, hkb01_25, hkb01_25, hkb01_25, hkb01_25, hkb01_25, hkb01_25, hkb01_25, hkb01_25, hkb01_25, hkb01_25, hkb01_25, hkb01_25, hkb01_25, hkb01_25, hkb01_25, hkb01_25, hkb01_25, hkb01_25, hkb01_25, hkb01_25, hkb01_25]
def hkb01_497 : ai_N := (.ofNat 0, .ofNat 11, [])
def hkb01_498 : ai_V := .inl (false, hkb01_497)
def hkb01_499 : Int × Int := (.ofNat 1, .ofNat 12)
def hkb01_500 : ai_E := [hkb01_385, hkb01_499, hkb01_1, hkb01_2, hkb01_36, hkb01_37, hkb01_38, hkb01_38, hkb01_38, hkb01_39, hkb01_40, hkb01_2, hkb01_307]
def hkb01_501 : ai_E := [hkb01_381, hkb01_499, hkb01_1, hkb01_2, hkb01_36, hkb01_37, hkb01_38, hkb01_38, hkb01_38, hkb01_39, hkb01_40, hkb01_2, hkb01_307]
def hkb01_502 : ai_E := [hkb01_247, hkb01_0, hkb01_1, hkb01_2, hkb01_36, hkb01_37, hkb01_38, hkb01_38, hkb01_38, hkb01_39, hkb01_40, hkb01_2, hkb01_307]
/-- NeverAgain.judge -/
def kb_283 : ai_K := (43, 2, (hkb01_430, [hkb01_4, hkb01_162, hkb01_5, hkb01_5, hkb01_5, hkb01_5], [], hkb01_496), [.inl 1, .inr (0, 11), .inr (0, 12), .inr (0, 13), .inr (8, 6), .inr (8, 7), .inr (8, 8), .inr (8, 9), .inr (8, 10), .inr (8, 11), .inr (8, 12), .inr (8, 13), .inr (17, 4)], [(some hkb01_194, hkb01_430, []), (some hkb01_498, hkb01_500, [(17, hkb01_362), (18, hkb01_316), (19, hkb01_318), (20, hkb01_297)]), (some hkb01_157, hkb01_501, [(17, hkb01_362), (18, hkb01_316), (19, hkb01_318), (20, hkb01_297)]), (some hkb01_120, hkb01_501, [(17, hkb01_362), (18, hkb01_316), (19, hkb01_318), (20, hkb01_297)]), (some hkb01_423, hkb01_502, [(17, hkb01_362), (18, hkb01_316), (19, hkb01_318), (20, hkb01_297)])])
def hkb01_503 : ai_E := [hkb01_247, hkb01_0, hkb01_1, hkb01_2, hkb01_36, hkb01_37, hkb01_38, hkb01_38, hkb01_38, hkb01_39, hkb01_40, hkb01_2, hkb01_307, hkb01_0]
def hkb01_504 : ai_N := (.ofNat 0, .ofNat 12, [(13, .ofNat 0, .ofNat 0)])
def hkb01_505 : ai_V := .inl (false, hkb01_504)
def hkb01_506 : ai_W := [hkb01_170, hkb01_25, hkb01_25, hkb01_25, hkb01_25, hkb01_25, hkb01_25, hkb01_25, hkb01_190, hkb01_25, hkb01_74, hkb01_76, hkb01_25, hkb01_25, hkb01_25, hkb01_25, hkb01_25, hkb01_364, hkb01_365, hkb01_366, hkb01_305, hkb01_25, hkb01_25, hkb01_25, hkb01_25, hkb01_25, hkb01_25, hkb01_25, hkb01_25, hkb01_25, hkb01_25, hkb01_25, hkb01_25, hkb01_479, hkb01_25, hkb01_25, hkb01_25, hkb01_25, hkb01_25, hkb01_25, hkb01_25, hkb01_25, hkb01_25, hkb01_25, hkb01_25, hkb01_25, hkb01_25, hkb01_25, hkb01_25, hkb01_25, hkb01_25, hkb01_25, hkb01_25, hkb01_25, hkb01_25, hkb01_25, hkb01_25, hkb01_25, hkb01_25, hkb01_25, hkb01_25, hkb01_25, hkb01_25, hkb01_25, hkb01_25, hkb01_25, hkb01_25, hkb01_25, hkb01_25, hkb01_25, hkb01_25, hkb01_25, hkb01_25, hkb01_25, hkb01_25, hkb01_25]
def kbn_283 : List ai_Nd := [(25, (hkb01_503, [hkb01_4, hkb01_250, hkb01_505, hkb01_5, hkb01_5, hkb01_5], [], hkb01_506), [.inl 2], [.inl 99974, .inl 1, .inr (true, .ofNat 12, 13), .inl 100000])]
set_option maxRecDepth 1000000 in
theorem kbk_283 : ai_ck [kb_262, kb_261, kb_263, kb_265, kb_268] [] kb_283 [.inl 100000, .inl 0, .inl 0, .inl 0] kbn_283 46 = true := by decide +kernel
theorem kbh_283 : ai_holds kb_283 := ai_thm kbk_283 (ai_cons kbh_262 (ai_cons kbh_261 (ai_cons kbh_263 (ai_cons kbh_265 (ai_cons kbh_268 ai_nil)))))
def hkb01_507 : ai_W := [hkb01_25, hkb01_25, hkb01_25, hkb01_25, hkb01_25, hkb01_25, hkb01_25, hkb01_25, hkb01_219, hkb01_25, hkb01_25, hkb01_25, hkb01_78, hkb01_25, hkb01_25, hkb01_25, hkb01_25, hkb01_25, hkb01_25, hkb01_25, hkb01_25, hkb01_25, hkb01_25, hkb01_25, hkb01_25, hkb01_25, hkb01_25, hkb01_25, hkb01_25, hkb01_25, hkb01_25, hkb01_25, hkb01_25, hkb01_25, hkb01_25, hkb01_25, hkb01_25, hkb01_25, hkb01_25, hkb01_25, hkb01_25, hkb01_25, hkb01_25, hkb01_25, hkb01_25, hkb01_25, hkb01_25, hkb01_25, hkb01_25, hkb01_25, hkb01_25, hkb01_25, hkb01_25, hkb01_25, hkb01_25, hkb01_25, hkb01_25, hkb01_25, hkb01_25, hkb01_25, hkb01_25, hkb01_25, hkb01_25, hkb01_25, hkb01_25, hkb01_25, hkb01_25, hkb01_25, hkb01_25, hkb01_25, hkb01_25, hkb01_25, hkb01_25, hkb01_25, hkb01_25, hkb01_25]
def hkb01_508 : Int × Int := (.ofNat 5, .ofNat 5)
def hkb01_509 : ai_E := [hkb01_38, hkb01_36, hkb01_37, hkb01_38, hkb01_38, hkb01_38, hkb01_39, hkb01_508, hkb01_2]
def hkb01_510 : ai_E := [hkb01_38, hkb01_36, hkb01_37, hkb01_38, hkb01_38, hkb01_38, hkb01_39, hkb01_2, hkb01_2]
def hkb01_511 : ai_N := (.ofNat 1, .ofNat 5, [(7, .ofNat 1, .ofNat 1)])
def hkb01_512 : ai_V := .inl (false, hkb01_511)
def hkb01_513 : ai_C := .inr (.inr (6, [hkb01_171, hkb01_172, hkb01_173, hkb01_174, hkb01_175, hkb01_176, hkb01_205, hkb01_207, hkb01_209, hkb01_211, hkb01_57, hkb01_213, hkb01_512, hkb01_217]))
/-- NeverAgain$Told.addAsked -/
def kb_284 : ai_K := (117, 0, (hkb01_203, [hkb01_16, hkb01_162], [], hkb01_507), [.inl 1, .inr (8, 6), .inr (8, 7), .inr (8, 8), .inr (8, 9), .inr (8, 10), .inr (8, 11), .inr (8, 12), .inr (8, 13)], [(some hkb01_120, hkb01_509, []), (some hkb01_157, hkb01_510, [(8, hkb01_513), (12, hkb01_77)])])
def kbn_284 : List ai_Nd := []
set_option maxRecDepth 1000000 in
theorem kbk_284 : ai_ck [] [] kb_284 [.inl 100000] kbn_284 19 = true := by decide +kernel
theorem kbh_284 : ai_holds kb_284 := ai_thm kbk_284 ai_nil
def hkb01_514 : ai_W := [hkb01_170, hkb01_25, hkb01_25, hkb01_25, hkb01_25, hkb01_25, hkb01_25, hkb01_25, hkb01_190, hkb01_25, hkb01_25, hkb01_25, hkb01_78, hkb01_25, hkb01_25, hkb01_25, hkb01_25, hkb01_25, hkb01_25, hkb01_25, hkb01_25, hkb01_25, hkb01_25, hkb01_25, hkb01_25, hkb01_25, hkb01_25, hkb01_25, hkb01_25, hkb01_25, hkb01_25, hkb01_25, hkb01_25, hkb01_25, hkb01_25, hkb01_25, hkb01_25, hkb01_25, hkb01_25, hkb01_25, hkb01_25, hkb01_25, hkb01_25, hkb01_25, hkb01_25, hkb01_25, hkb01_25, hkb01_25, hkb01_25, hkb01_25, hkb01_25, hkb01_25, hkb01_25, hkb01_25, hkb01_25, hkb01_25, hkb01_25, hkb01_25, hkb01_25, hkb01_25, hkb01_25, hkb01_25, hkb01_25, hkb01_25, hkb01_25, hkb01_25, hkb01_25, hkb01_25, hkb01_25, hkb01_25, hkb01_25, hkb01_25, hkb01_25, hkb01_25, hkb01_25, hkb01_25]
def hkb01_515 : ai_N := (.ofNat 1, .ofNat 5, [(10, .ofNat 1, .ofNat 1)])
def hkb01_516 : ai_V := .inl (false, hkb01_515)
def hkb01_517 : ai_E := [hkb01_42, hkb01_0, hkb01_1, hkb01_2, hkb01_36, hkb01_37, hkb01_38, hkb01_38, hkb01_38, hkb01_39, hkb01_2, hkb01_2]
def hkb01_518 : ai_C := .inr (.inr (6, [hkb01_171, hkb01_172, hkb01_173, hkb01_174, hkb01_175, hkb01_176, hkb01_178, hkb01_180, hkb01_59, hkb01_61, hkb01_182, hkb01_184, hkb01_516, hkb01_188]))
def hkb01_519 : ai_E := [hkb01_42, hkb01_0, hkb01_1, hkb01_2, hkb01_36, hkb01_37, hkb01_38, hkb01_38, hkb01_38, hkb01_39, hkb01_508, hkb01_2]
/-- NeverAgain.ask -/
def kb_285 : ai_K := (45, 1, (hkb01_160, [hkb01_4, hkb01_162], [], hkb01_514), [.inl 1, .inr (0, 11), .inr (0, 12), .inr (0, 13), .inr (8, 6), .inr (8, 7), .inr (8, 8), .inr (8, 9), .inr (8, 10), .inr (8, 11), .inr (8, 12), .inr (8, 13)], [(some hkb01_194, hkb01_202, []), (some hkb01_194, hkb01_226, []), (some hkb01_516, hkb01_517, [(8, hkb01_518), (12, hkb01_77)]), (some hkb01_452, hkb01_519, [])])
def kbn_285 : List ai_Nd := []
set_option maxRecDepth 1000000 in
theorem kbk_285 : ai_ck [kb_251, kb_284] [] kb_285 [.inl 100000] kbn_285 16 = true := by decide +kernel
theorem kbh_285 : ai_holds kb_285 := ai_thm kbk_285 (ai_cons kbh_251 (ai_cons kbh_284 ai_nil))
def hkb01_520 : ai_N := (.ofNat 0, .ofNat 5, [(0, .ofNat 0, .ofNat 0)])
def hkb01_521 : ai_V := .inl (false, hkb01_520)
def hkb01_522 : ai_C := .inr (.inr (6, [hkb01_171, hkb01_172, hkb01_173, hkb01_174, hkb01_175, hkb01_176, hkb01_178, hkb01_180, hkb01_59, hkb01_61, hkb01_182, hkb01_184, hkb01_521, hkb01_188]))
/-- NeverAgain.drop -/
def kb_286 : ai_K := (47, 0, (hkb01_160, [hkb01_4, hkb01_162, hkb01_5], [], hkb01_191), [.inl 1, .inr (0, 11), .inr (0, 12), .inr (0, 13), .inr (8, 6), .inr (8, 7), .inr (8, 8), .inr (8, 9), .inr (8, 10), .inr (8, 11), .inr (8, 12), .inr (8, 13)], [(some hkb01_194, hkb01_226, []), (some hkb01_186, hkb01_192, [(8, hkb01_522)]), (some hkb01_194, hkb01_202, [])])
def kbn_286 : List ai_Nd := []
set_option maxRecDepth 1000000 in
theorem kbk_286 : ai_ck [] [] kb_286 [.inl 100000] kbn_286 16 = true := by decide +kernel
theorem kbh_286 : ai_holds kb_286 := ai_thm kbk_286 ai_nil
def hkb01_523 : Int × Int := (.ofNat 10, .ofNat 14)
def hkb01_524 : Int × Int := (.ofNat 15, .ofNat 2147483647)
def hkb01_525 : Int × Int := (.negSucc 2147483647, .ofNat 9)
/-- NeverAgain.asksForPlan -/
def kb_287 : ai_K := (118, 0, ([hkb01_38], [hkb01_162], [], hkb01_401), [.inl 0], [(some hkb01_157, [hkb01_523], []), (some hkb01_120, [hkb01_524], []), (some hkb01_120, [hkb01_525], []), (some hkb01_157, [hkb01_385], [])])
def kbn_287 : List ai_Nd := []
set_option maxRecDepth 1000000 in
theorem kbk_287 : ai_ck [] [] kb_287 [.inl 100000] kbn_287 12 = true := by decide +kernel
theorem kbh_287 : ai_holds kb_287 := ai_thm kbk_287 ai_nil
def hkb01_526 : ai_E := [hkb01_36, hkb01_37, hkb01_38, hkb01_38, hkb01_38, hkb01_39, hkb01_40, hkb01_2, hkb01_40, hkb01_38]
def hkb01_527 : ai_V := .inr (some (.ref 22))
def hkb01_528 : ai_V := .inr (some (.ref 23))
def hkb01_529 : ai_V := .inr (some (.ref 24))
def hkb01_530 : ai_V := .inr (some (.ref 25))
def hkb01_531 : ai_C := .inr (.inr (2, [hkb01_7, hkb01_527, hkb01_528, hkb01_529, hkb01_530, hkb01_412, hkb01_274]))
def hkb01_532 : Bool × Option ai_C := (false, some hkb01_531)
def hkb01_533 : ai_W := [hkb01_25, hkb01_25, hkb01_25, hkb01_25, hkb01_25, hkb01_25, hkb01_25, hkb01_25, hkb01_354, hkb01_25, hkb01_25, hkb01_25, hkb01_78, hkb01_25, hkb01_25, hkb01_25, hkb01_25, hkb01_25, hkb01_25, hkb01_25, hkb01_25, hkb01_532, hkb01_78, hkb01_25, hkb01_25, hkb01_25, hkb01_25, hkb01_25, hkb01_25, hkb01_25, hkb01_25, hkb01_25, hkb01_25, hkb01_25, hkb01_25, hkb01_25, hkb01_25, hkb01_25, hkb01_25, hkb01_25, hkb01_25, hkb01_25, hkb01_25, hkb01_25, hkb01_25, hkb01_25, hkb01_25, hkb01_25, hkb01_25, hkb01_25, hkb01_25, hkb01_25, hkb01_25, hkb01_25, hkb01_25, hkb01_25, hkb01_25, hkb01_25, hkb01_25, hkb01_25, hkb01_25, hkb01_25, hkb01_25, hkb01_25, hkb01_25, hkb01_25, hkb01_25, hkb01_25, hkb01_25, hkb01_25, hkb01_25, hkb01_25, hkb01_25, hkb01_25, hkb01_25, hkb01_25]
def hkb01_534 : ai_C := .inr (.inr (2, [hkb01_7, hkb01_527, hkb01_528, hkb01_529, hkb01_530, hkb01_115, hkb01_274]))
/-- NeverAgain$Planner.takeAsked -/
def kb_288 : ai_K := (119, 0, (hkb01_526, [hkb01_8, hkb01_16, hkb01_5], [], hkb01_533), [.inr (8, 6), .inr (8, 7), .inr (8, 8), .inr (8, 9), .inr (8, 10), .inr (8, 11), .inr (8, 12), .inr (8, 13), .inr (21, 5), .inr (21, 6)], [(none, hkb01_526, [(21, hkb01_534), (22, hkb01_77)])])
def hkb01_535 : ai_E := [hkb01_36, hkb01_37, hkb01_38, hkb01_38, hkb01_38, hkb01_39, hkb01_40, hkb01_2, hkb01_40, hkb01_38, hkb01_40]
def hkb01_536 : Bool × Option ai_C := (true, some hkb01_534)
def hkb01_537 : Bool × Option ai_C := (true, some hkb01_77)
def hkb01_538 : ai_W := [hkb01_25, hkb01_25, hkb01_25, hkb01_25, hkb01_25, hkb01_25, hkb01_25, hkb01_25, hkb01_354, hkb01_25, hkb01_25, hkb01_25, hkb01_78, hkb01_25, hkb01_25, hkb01_25, hkb01_25, hkb01_25, hkb01_25, hkb01_25, hkb01_25, hkb01_536, hkb01_537, hkb01_25, hkb01_25, hkb01_25, hkb01_25, hkb01_25, hkb01_25, hkb01_25, hkb01_25, hkb01_25, hkb01_25, hkb01_25, hkb01_25, hkb01_25, hkb01_25, hkb01_25, hkb01_25, hkb01_25, hkb01_25, hkb01_25, hkb01_25, hkb01_25, hkb01_25, hkb01_25, hkb01_25, hkb01_25, hkb01_25, hkb01_25, hkb01_25, hkb01_25, hkb01_25, hkb01_25, hkb01_25, hkb01_25, hkb01_25, hkb01_25, hkb01_25, hkb01_25, hkb01_25, hkb01_25, hkb01_25, hkb01_25, hkb01_25, hkb01_25, hkb01_25, hkb01_25, hkb01_25, hkb01_25, hkb01_25, hkb01_25, hkb01_25, hkb01_25, hkb01_25, hkb01_25]
def kbn_288 : List ai_Nd := [(14, (hkb01_535, [hkb01_8, hkb01_16, hkb01_186], [], hkb01_538), [.inl 2], [.inl 99985, .inl 1, .inr (true, .ofNat 5, 10), .inl 100000])]
set_option maxRecDepth 1000000 in
theorem kbk_288 : ai_ck [] [] kb_288 [.inl 100000, .inl 0, .inl 0, .inl 0] kbn_288 16 = true := by decide +kernel
theorem kbh_288 : ai_holds kb_288 := ai_thm kbk_288 ai_nil
def hkb01_539 : ai_W := [hkb01_25, hkb01_25, hkb01_25, hkb01_25, hkb01_25, hkb01_25, hkb01_25, hkb01_25, hkb01_219, hkb01_25, hkb01_74, hkb01_25, hkb01_25, hkb01_25, hkb01_25, hkb01_25, hkb01_25, hkb01_372, hkb01_25, hkb01_25, hkb01_298, hkb01_25, hkb01_25, hkb01_25, hkb01_25, hkb01_25, hkb01_25, hkb01_25, hkb01_25, hkb01_25, hkb01_25, hkb01_25, hkb01_25, hkb01_25, hkb01_25, hkb01_25, hkb01_25, hkb01_25, hkb01_25, hkb01_25, hkb01_25, hkb01_25, hkb01_25, hkb01_25, hkb01_25, hkb01_25, hkb01_25, hkb01_25, hkb01_25, hkb01_25, hkb01_25, hkb01_25, hkb01_25, hkb01_25, hkb01_25, hkb01_25, hkb01_25, hkb01_25, hkb01_25, hkb01_25, hkb01_25, hkb01_25, hkb01_25, hkb01_25, hkb01_25, hkb01_25, hkb01_25, hkb01_25, hkb01_25, hkb01_25, hkb01_25, hkb01_25, hkb01_25, hkb01_25, hkb01_25, hkb01_25]
def hkb01_540 : ai_N := (.ofNat 1000, .ofNat 1000, [])
def hkb01_541 : ai_V := .inl (false, hkb01_540)
/-- NeverAgain$Almanac.floorFor -/
def kb_289 : ai_K := (167, 3, (hkb01_368, [hkb01_7, hkb01_162, hkb01_5, hkb01_5], [], hkb01_539), [.inl 1, .inr (8, 6), .inr (8, 7), .inr (8, 8), .inr (8, 9), .inr (8, 10), .inr (8, 11), .inr (8, 12), .inr (8, 13), .inr (17, 4)], [(some hkb01_443, hkb01_368, []), (some hkb01_541, hkb01_368, [])])
def kbn_289 : List ai_Nd := [(13, (hkb01_375, [hkb01_7, hkb01_162, hkb01_111, hkb01_377], [], hkb01_539), [.inl 3], [.inl 99986, .inl 1, .inr (true, .ofNat 17, 10), .inl 100000])]
set_option maxRecDepth 1000000 in
theorem kbk_289 : ai_ck [kb_273, kb_264] [] kb_289 [.inl 100000, .inl 0, .inl 0, .inl 0] kbn_289 15 = true := by decide +kernel
theorem kbh_289 : ai_holds kb_289 := ai_thm kbk_289 (ai_cons kbh_273 (ai_cons kbh_264 ai_nil))
def hkb01_542 : ai_W := [hkb01_25, hkb01_25, hkb01_25, hkb01_25, hkb01_25, hkb01_25, hkb01_25, hkb01_25, hkb01_354, hkb01_25, hkb01_25, hkb01_25, hkb01_25, hkb01_25, hkb01_25, hkb01_25, hkb01_25, hkb01_379, hkb01_25, hkb01_25, hkb01_25, hkb01_25, hkb01_25, hkb01_25, hkb01_25, hkb01_25, hkb01_25, hkb01_25, hkb01_25, hkb01_25, hkb01_25, hkb01_25, hkb01_25, hkb01_25, hkb01_25, hkb01_25, hkb01_25, hkb01_25, hkb01_25, hkb01_25, hkb01_25, hkb01_25, hkb01_25, hkb01_25, hkb01_25, hkb01_25, hkb01_25, hkb01_25, hkb01_25, hkb01_25, hkb01_25, hkb01_25, hkb01_25, hkb01_25, hkb01_25, hkb01_25, hkb01_25, hkb01_25, hkb01_25, hkb01_25, hkb01_25, hkb01_25, hkb01_25, hkb01_25, hkb01_25, hkb01_25, hkb01_25, hkb01_25, hkb01_25, hkb01_25, hkb01_25, hkb01_25, hkb01_25, hkb01_25, hkb01_25, hkb01_25]
/-- NeverAgain$Almanac.mostNumber -/
def kb_290 : ai_K := (201, 0, (hkb01_340, [hkb01_7], [], hkb01_542), [.inr (8, 6), .inr (8, 7), .inr (8, 8), .inr (8, 9), .inr (8, 10), .inr (8, 11), .inr (8, 12), .inr (8, 13), .inr (17, 4)], [(some hkb01_342, hkb01_340, [])])
def kbn_290 : List ai_Nd := []
set_option maxRecDepth 1000000 in
theorem kbk_290 : ai_ck [] [] kb_290 [.inl 100000] kbn_290 5 = true := by decide +kernel
theorem kbh_290 : ai_holds kb_290 := ai_thm kbk_290 ai_nil
def hkb01_543 : ai_N := (.ofNat 0, .ofNat 127, [(0, .negSucc 0, .negSucc 0)])
def hkb01_544 : ai_V := .inl (false, hkb01_543)
def hkb01_545 : ai_C := .inr (.inr (0, [hkb01_309, hkb01_310, hkb01_295, hkb01_16, hkb01_544]))
/-- NeverAgain$Almanac.takeBack -/
def kb_293 : ai_K := (170, 0, ([hkb01_307], [hkb01_7], [], hkb01_336), [.inr (17, 4)], [(none, [hkb01_385], []), (none, [hkb01_382], [(17, hkb01_545), (20, hkb01_297)])])
def kbn_293 : List ai_Nd := []
set_option maxRecDepth 1000000 in
theorem kbk_293 : ai_ck [] [] kb_293 [.inl 100000] kbn_293 24 = true := by decide +kernel
theorem kbh_293 : ai_holds kb_293 := ai_thm kbk_293 ai_nil
def hkb01_546 : ai_E := [hkb01_38, hkb01_40, hkb01_38]
def hkb01_547 : ai_N := (.ofNat 5, .ofNat 5, [])
def hkb01_548 : ai_V := .inl (false, hkb01_547)
def hkb01_549 : ai_N := (.ofNat 0, .ofNat 5, [(1, .ofNat 0, .ofNat 0)])
def hkb01_550 : ai_V := .inl (false, hkb01_549)
def hkb01_551 : ai_C := .inr (.inr (2, [hkb01_7, hkb01_527, hkb01_528, hkb01_529, hkb01_530, hkb01_550, hkb01_346]))
def hkb01_552 : Bool × Option ai_C := (false, some hkb01_551)
def hkb01_553 : ai_C := .inl (.int, [(5, hkb01_315)])
def hkb01_554 : Bool × Option ai_C := (false, some hkb01_553)
def hkb01_555 : ai_W := [hkb01_25, hkb01_25, hkb01_25, hkb01_25, hkb01_25, hkb01_25, hkb01_25, hkb01_25, hkb01_25, hkb01_25, hkb01_25, hkb01_25, hkb01_25, hkb01_25, hkb01_25, hkb01_25, hkb01_25, hkb01_25, hkb01_25, hkb01_25, hkb01_25, hkb01_552, hkb01_25, hkb01_25, hkb01_554, hkb01_554, hkb01_25, hkb01_25, hkb01_25, hkb01_25, hkb01_25, hkb01_25, hkb01_25, hkb01_25, hkb01_25, hkb01_25, hkb01_25, hkb01_25, hkb01_25, hkb01_25, hkb01_25, hkb01_25, hkb01_25, hkb01_25, hkb01_25, hkb01_25, hkb01_25, hkb01_25, hkb01_25, hkb01_25, hkb01_25, hkb01_25, hkb01_25, hkb01_25, hkb01_25, hkb01_25, hkb01_25, hkb01_25, hkb01_25, hkb01_25, hkb01_25, hkb01_25, hkb01_25, hkb01_25, hkb01_25, hkb01_25, hkb01_25, hkb01_25, hkb01_25, hkb01_25, hkb01_25, hkb01_25, hkb01_25, hkb01_25, hkb01_25, hkb01_25]
def hkb01_556 : ai_C := .inr (.inr (2, [hkb01_7, hkb01_527, hkb01_528, hkb01_529, hkb01_530, hkb01_550, hkb01_162]))
/-- NeverAgain$Planner.searchFrom -/
def kb_294 : ai_K := (168, 0, (hkb01_546, [hkb01_8, hkb01_548, hkb01_162, hkb01_5, hkb01_5, hkb01_5], [], hkb01_555), [.inl 2, .inr (21, 5), .inr (21, 6)], [(none, hkb01_546, [(21, hkb01_556), (25, hkb01_553)])])
def kbn_294 : List ai_Nd := []
set_option maxRecDepth 1000000 in
theorem kbk_294 : ai_ck [] [] kb_294 [.inl 100000] kbn_294 17 = true := by decide +kernel
theorem kbh_294 : ai_holds kb_294 := ai_thm kbk_294 ai_nil
def hkb01_557 : ai_E := [hkb01_38, hkb01_36, hkb01_37, hkb01_38, hkb01_38, hkb01_38, hkb01_39, hkb01_40, hkb01_2, hkb01_307, hkb01_40, hkb01_38]
def hkb01_558 : ai_N := (.ofNat 4, .ofNat 4, [])
def hkb01_559 : ai_V := .inl (false, hkb01_558)
def hkb01_560 : ai_N := (.negSucc 2147483647, .ofNat 2147483647, [(11, .ofNat 0, .ofNat 0)])
def hkb01_561 : ai_V := .inl (false, hkb01_560)
def hkb01_562 : ai_C := .inr (.inr (2, [hkb01_7, hkb01_527, hkb01_528, hkb01_529, hkb01_530, hkb01_186, hkb01_561]))
def hkb01_563 : Bool × Option ai_C := (false, some hkb01_562)
def hkb01_564 : ai_C := .inl (.int, [(6, hkb01_70)])
def hkb01_565 : Bool × Option ai_C := (false, some hkb01_564)
def hkb01_566 : ai_W := [hkb01_25, hkb01_25, hkb01_25, hkb01_25, hkb01_25, hkb01_25, hkb01_25, hkb01_25, hkb01_219, hkb01_25, hkb01_74, hkb01_25, hkb01_25, hkb01_25, hkb01_25, hkb01_25, hkb01_25, hkb01_372, hkb01_317, hkb01_319, hkb01_298, hkb01_563, hkb01_78, hkb01_565, hkb01_554, hkb01_554, hkb01_25, hkb01_25, hkb01_25, hkb01_25, hkb01_25, hkb01_25, hkb01_25, hkb01_25, hkb01_25, hkb01_25, hkb01_25, hkb01_25, hkb01_25, hkb01_25, hkb01_25, hkb01_25, hkb01_25, hkb01_25, hkb01_25, hkb01_25, hkb01_25, hkb01_25, hkb01_25, hkb01_25, hkb01_25, hkb01_25, hkb01_25, hkb01_25, hkb01_25, hkb01_25, hkb01_25, hkb01_25, hkb01_25, hkb01_25, hkb01_25, hkb01_25, hkb01_25, hkb01_25, hkb01_25, hkb01_25, hkb01_25, hkb01_25, hkb01_25, hkb01_25, hkb01_25, hkb01_25, hkb01_25, hkb01_25, hkb01_25, hkb01_25]
def hkb01_567 : ai_E := [hkb01_38, hkb01_36, hkb01_37, hkb01_38, hkb01_38, hkb01_38, hkb01_39, hkb01_40, hkb01_2, hkb01_307, hkb01_2, hkb01_38]
def hkb01_568 : ai_C := .inr (.inr (2, [hkb01_7, hkb01_527, hkb01_528, hkb01_529, hkb01_530, hkb01_67, hkb01_162]))
def hkb01_569 : ai_E := [hkb01_38, hkb01_36, hkb01_37, hkb01_38, hkb01_38, hkb01_38, hkb01_39, hkb01_40, hkb01_2, hkb01_307, hkb01_508, hkb01_38]
def hkb01_570 : ai_N := (.ofNat 0, .ofNat 128, [(9, .negSucc 0, .ofNat 0)])
def hkb01_571 : ai_V := .inl (false, hkb01_570)
def hkb01_572 : ai_C := .inr (.inr (0, [hkb01_309, hkb01_310, hkb01_295, hkb01_16, hkb01_571]))
def hkb01_573 : ai_N := (.ofNat 5, .ofNat 5, [(10, .ofNat 0, .ofNat 0)])
def hkb01_574 : ai_V := .inl (false, hkb01_573)
def hkb01_575 : ai_C := .inr (.inr (2, [hkb01_7, hkb01_527, hkb01_528, hkb01_529, hkb01_530, hkb01_574, hkb01_111]))
/-- NeverAgain$Planner.searchFrom -/
def kb_296 : ai_K := (168, 3, (hkb01_557, [hkb01_8, hkb01_559, hkb01_162, hkb01_5, hkb01_5, hkb01_5], [], hkb01_566), [.inl 2, .inr (8, 6), .inr (8, 7), .inr (8, 8), .inr (8, 9), .inr (8, 10), .inr (8, 11), .inr (8, 12), .inr (8, 13), .inr (17, 4), .inr (21, 5), .inr (21, 6)], [(none, hkb01_567, [(21, hkb01_568), (25, hkb01_553)]), (none, hkb01_569, [(17, hkb01_572), (18, hkb01_316), (19, hkb01_318), (20, hkb01_297), (21, hkb01_575), (24, hkb01_553), (25, hkb01_553)]), (none, hkb01_569, [(17, hkb01_572), (18, hkb01_316), (19, hkb01_318), (20, hkb01_297), (21, hkb01_575), (24, hkb01_553), (25, hkb01_553)])])
def hkb01_576 : ai_E := [hkb01_38, hkb01_36, hkb01_37, hkb01_38, hkb01_38, hkb01_38, hkb01_39, hkb01_40, hkb01_2, hkb01_307, hkb01_508, hkb01_38, hkb01_374]
def hkb01_577 : ai_N := (.ofNat 1, .ofNat 17, [(12, .ofNat 0, .ofNat 0)])
def hkb01_578 : ai_V := .inl (false, hkb01_577)
def hkb01_579 : Bool × Option ai_C := (true, some hkb01_572)
def hkb01_580 : Bool × Option ai_C := (true, some hkb01_575)
def hkb01_581 : Bool × Option ai_C := (true, some hkb01_553)
def hkb01_582 : ai_W := [hkb01_25, hkb01_25, hkb01_25, hkb01_25, hkb01_25, hkb01_25, hkb01_25, hkb01_25, hkb01_219, hkb01_25, hkb01_74, hkb01_25, hkb01_25, hkb01_25, hkb01_25, hkb01_25, hkb01_25, hkb01_579, hkb01_365, hkb01_366, hkb01_305, hkb01_580, hkb01_78, hkb01_565, hkb01_581, hkb01_581, hkb01_25, hkb01_25, hkb01_25, hkb01_25, hkb01_25, hkb01_25, hkb01_25, hkb01_25, hkb01_25, hkb01_25, hkb01_25, hkb01_25, hkb01_25, hkb01_25, hkb01_25, hkb01_25, hkb01_25, hkb01_25, hkb01_25, hkb01_25, hkb01_25, hkb01_25, hkb01_25, hkb01_25, hkb01_25, hkb01_25, hkb01_25, hkb01_25, hkb01_25, hkb01_25, hkb01_25, hkb01_25, hkb01_25, hkb01_25, hkb01_25, hkb01_25, hkb01_25, hkb01_25, hkb01_25, hkb01_25, hkb01_25, hkb01_25, hkb01_25, hkb01_25, hkb01_25, hkb01_25, hkb01_25, hkb01_25, hkb01_25, hkb01_25]
def kbn_296 : List ai_Nd := [(53, (hkb01_576, [hkb01_8, hkb01_559, hkb01_162, hkb01_111, hkb01_205, hkb01_578], [], hkb01_582), [.inl 5], [.inl 99946, .inl 1, .inr (true, .ofNat 17, 12), .inl 100000])]
set_option maxRecDepth 1000000 in
theorem kbk_296 : ai_ck [kb_293, kb_261, kb_290, kb_273, kb_265, kb_294] [] kb_296 [.inl 100000, .inl 0, .inl 0, .inl 0] kbn_296 50 = true := by decide +kernel
theorem kbh_296 : ai_holds kb_296 := ai_thm kbk_296 (ai_cons kbh_293 (ai_cons kbh_261 (ai_cons kbh_290 (ai_cons kbh_273 (ai_cons kbh_265 (ai_cons kbh_294 ai_nil))))))
def hkb01_583 : ai_E := [hkb01_38, hkb01_36, hkb01_37, hkb01_38, hkb01_38, hkb01_38, hkb01_39, hkb01_40, hkb01_2, hkb01_307, hkb01_42, hkb01_38]
def hkb01_584 : ai_N := (.ofNat 0, .ofNat 3, [(10, .ofNat 0, .ofNat 0)])
def hkb01_585 : ai_V := .inl (false, hkb01_584)
def hkb01_586 : ai_C := .inr (.inr (2, [hkb01_7, hkb01_527, hkb01_528, hkb01_529, hkb01_530, hkb01_585, hkb01_162]))
def hkb01_587 : Int × Int := (.ofNat 4, .ofNat 5)
def hkb01_588 : ai_E := [hkb01_38, hkb01_36, hkb01_37, hkb01_38, hkb01_38, hkb01_38, hkb01_39, hkb01_40, hkb01_2, hkb01_307, hkb01_587, hkb01_38]
def hkb01_589 : ai_N := (.ofNat 0, .ofNat 128, [(9, .negSucc 127, .ofNat 0)])
def hkb01_590 : ai_V := .inl (false, hkb01_589)
def hkb01_591 : ai_C := .inr (.inr (0, [hkb01_309, hkb01_310, hkb01_295, hkb01_16, hkb01_590]))
def hkb01_592 : ai_N := (.ofNat 4, .ofNat 5, [(10, .ofNat 0, .ofNat 0)])
def hkb01_593 : ai_V := .inl (false, hkb01_592)
def hkb01_594 : ai_C := .inr (.inr (2, [hkb01_7, hkb01_527, hkb01_528, hkb01_529, hkb01_530, hkb01_593, hkb01_111]))
/-- NeverAgain$Planner.searchFrom -/
def kb_298 : ai_K := (168, 4, (hkb01_557, [hkb01_8, hkb01_131, hkb01_162, hkb01_5, hkb01_5, hkb01_5], [], hkb01_566), [.inl 2, .inr (8, 6), .inr (8, 7), .inr (8, 8), .inr (8, 9), .inr (8, 10), .inr (8, 11), .inr (8, 12), .inr (8, 13), .inr (17, 4), .inr (21, 5), .inr (21, 6)], [(none, hkb01_583, [(21, hkb01_586), (25, hkb01_553)]), (none, hkb01_588, [(17, hkb01_591), (18, hkb01_316), (19, hkb01_318), (20, hkb01_297), (21, hkb01_594), (24, hkb01_553), (25, hkb01_553)]), (none, hkb01_588, [(17, hkb01_591), (18, hkb01_316), (19, hkb01_318), (20, hkb01_297), (21, hkb01_594), (24, hkb01_553), (25, hkb01_553)])])
def hkb01_595 : ai_E := [hkb01_38, hkb01_36, hkb01_37, hkb01_38, hkb01_38, hkb01_38, hkb01_39, hkb01_40, hkb01_2, hkb01_307, hkb01_587, hkb01_38, hkb01_374]
def hkb01_596 : Bool × Option ai_C := (true, some hkb01_591)
def hkb01_597 : Bool × Option ai_C := (true, some hkb01_594)
def hkb01_598 : ai_W := [hkb01_25, hkb01_25, hkb01_25, hkb01_25, hkb01_25, hkb01_25, hkb01_25, hkb01_25, hkb01_219, hkb01_25, hkb01_74, hkb01_25, hkb01_25, hkb01_25, hkb01_25, hkb01_25, hkb01_25, hkb01_596, hkb01_365, hkb01_366, hkb01_305, hkb01_597, hkb01_78, hkb01_565, hkb01_581, hkb01_581, hkb01_25, hkb01_25, hkb01_25, hkb01_25, hkb01_25, hkb01_25, hkb01_25, hkb01_25, hkb01_25, hkb01_25, hkb01_25, hkb01_25, hkb01_25, hkb01_25, hkb01_25, hkb01_25, hkb01_25, hkb01_25, hkb01_25, hkb01_25, hkb01_25, hkb01_25, hkb01_25, hkb01_25, hkb01_25, hkb01_25, hkb01_25, hkb01_25, hkb01_25, hkb01_25, hkb01_25, hkb01_25, hkb01_25, hkb01_25, hkb01_25, hkb01_25, hkb01_25, hkb01_25, hkb01_25, hkb01_25, hkb01_25, hkb01_25, hkb01_25, hkb01_25, hkb01_25, hkb01_25, hkb01_25, hkb01_25, hkb01_25, hkb01_25]
def kbn_298 : List ai_Nd := [(53, (hkb01_595, [hkb01_8, hkb01_131, hkb01_162, hkb01_111, hkb01_205, hkb01_578], [], hkb01_598), [.inl 5], [.inl 99946, .inl 1, .inr (true, .ofNat 17, 12), .inl 100000])]
set_option maxRecDepth 1000000 in
theorem kbk_298 : ai_ck [kb_293, kb_261, kb_290, kb_273, kb_265, kb_296] [] kb_298 [.inl 100000, .inl 0, .inl 0, .inl 0] kbn_298 50 = true := by decide +kernel
theorem kbh_298 : ai_holds kb_298 := ai_thm kbk_298 (ai_cons kbh_293 (ai_cons kbh_261 (ai_cons kbh_290 (ai_cons kbh_273 (ai_cons kbh_265 (ai_cons kbh_296 ai_nil))))))
def hkb01_599 : ai_E := [hkb01_38, hkb01_36, hkb01_37, hkb01_38, hkb01_38, hkb01_38, hkb01_39, hkb01_40, hkb01_2, hkb01_307, hkb01_30, hkb01_38]
def hkb01_600 : ai_N := (.ofNat 0, .ofNat 2, [(10, .ofNat 0, .ofNat 0)])
def hkb01_601 : ai_V := .inl (false, hkb01_600)
def hkb01_602 : ai_C := .inr (.inr (2, [hkb01_7, hkb01_527, hkb01_528, hkb01_529, hkb01_530, hkb01_601, hkb01_162]))
def hkb01_603 : Int × Int := (.ofNat 3, .ofNat 5)
def hkb01_604 : ai_E := [hkb01_38, hkb01_36, hkb01_37, hkb01_38, hkb01_38, hkb01_38, hkb01_39, hkb01_40, hkb01_2, hkb01_307, hkb01_603, hkb01_38]
def hkb01_605 : ai_N := (.ofNat 3, .ofNat 5, [(10, .ofNat 0, .ofNat 0)])
def hkb01_606 : ai_V := .inl (false, hkb01_605)
def hkb01_607 : ai_C := .inr (.inr (2, [hkb01_7, hkb01_527, hkb01_528, hkb01_529, hkb01_530, hkb01_606, hkb01_111]))
/-- NeverAgain$Planner.searchFrom -/
def kb_300 : ai_K := (168, 5, (hkb01_557, [hkb01_8, hkb01_138, hkb01_162, hkb01_5, hkb01_5, hkb01_5], [], hkb01_566), [.inl 2, .inr (8, 6), .inr (8, 7), .inr (8, 8), .inr (8, 9), .inr (8, 10), .inr (8, 11), .inr (8, 12), .inr (8, 13), .inr (17, 4), .inr (21, 5), .inr (21, 6)], [(none, hkb01_599, [(21, hkb01_602), (25, hkb01_553)]), (none, hkb01_604, [(17, hkb01_591), (18, hkb01_316), (19, hkb01_318), (20, hkb01_297), (21, hkb01_607), (24, hkb01_553), (25, hkb01_553)]), (none, hkb01_604, [(17, hkb01_591), (18, hkb01_316), (19, hkb01_318), (20, hkb01_297), (21, hkb01_607), (24, hkb01_553), (25, hkb01_553)])])
def hkb01_608 : ai_E := [hkb01_38, hkb01_36, hkb01_37, hkb01_38, hkb01_38, hkb01_38, hkb01_39, hkb01_40, hkb01_2, hkb01_307, hkb01_603, hkb01_38, hkb01_374]
def hkb01_609 : Bool × Option ai_C := (true, some hkb01_607)
def hkb01_610 : ai_W := [hkb01_25, hkb01_25, hkb01_25, hkb01_25, hkb01_25, hkb01_25, hkb01_25, hkb01_25, hkb01_219, hkb01_25, hkb01_74, hkb01_25, hkb01_25, hkb01_25, hkb01_25, hkb01_25, hkb01_25, hkb01_596, hkb01_365, hkb01_366, hkb01_305, hkb01_609, hkb01_78, hkb01_565, hkb01_581, hkb01_581, hkb01_25, hkb01_25, hkb01_25, hkb01_25, hkb01_25, hkb01_25, hkb01_25, hkb01_25, hkb01_25, hkb01_25, hkb01_25, hkb01_25, hkb01_25, hkb01_25, hkb01_25, hkb01_25, hkb01_25, hkb01_25, hkb01_25, hkb01_25, hkb01_25, hkb01_25, hkb01_25, hkb01_25, hkb01_25, hkb01_25, hkb01_25, hkb01_25, hkb01_25, hkb01_25, hkb01_25, hkb01_25, hkb01_25, hkb01_25, hkb01_25, hkb01_25, hkb01_25, hkb01_25, hkb01_25, hkb01_25, hkb01_25, hkb01_25, hkb01_25, hkb01_25, hkb01_25, hkb01_25, hkb01_25, hkb01_25, hkb01_25, hkb01_25]
def kbn_300 : List ai_Nd := [(53, (hkb01_608, [hkb01_8, hkb01_138, hkb01_162, hkb01_111, hkb01_205, hkb01_578], [], hkb01_610), [.inl 5], [.inl 99946, .inl 1, .inr (true, .ofNat 17, 12), .inl 100000])]
set_option maxRecDepth 1000000 in
theorem kbk_300 : ai_ck [kb_293, kb_261, kb_290, kb_273, kb_265, kb_298] [] kb_300 [.inl 100000, .inl 0, .inl 0, .inl 0] kbn_300 50 = true := by decide +kernel
theorem kbh_300 : ai_holds kb_300 := ai_thm kbk_300 (ai_cons kbh_293 (ai_cons kbh_261 (ai_cons kbh_290 (ai_cons kbh_273 (ai_cons kbh_265 (ai_cons kbh_298 ai_nil))))))
def hkb01_611 : ai_E := [hkb01_38, hkb01_36, hkb01_37, hkb01_38, hkb01_38, hkb01_38, hkb01_39, hkb01_40, hkb01_2, hkb01_307, hkb01_247, hkb01_38]
def hkb01_612 : ai_N := (.ofNat 0, .ofNat 1, [(10, .ofNat 0, .ofNat 0)])
def hkb01_613 : ai_V := .inl (false, hkb01_612)
def hkb01_614 : ai_C := .inr (.inr (2, [hkb01_7, hkb01_527, hkb01_528, hkb01_529, hkb01_530, hkb01_613, hkb01_162]))
def hkb01_615 : Int × Int := (.ofNat 2, .ofNat 5)
def hkb01_616 : ai_E := [hkb01_38, hkb01_36, hkb01_37, hkb01_38, hkb01_38, hkb01_38, hkb01_39, hkb01_40, hkb01_2, hkb01_307, hkb01_615, hkb01_38]
def hkb01_617 : ai_N := (.ofNat 2, .ofNat 5, [(10, .ofNat 0, .ofNat 0)])
def hkb01_618 : ai_V := .inl (false, hkb01_617)
def hkb01_619 : ai_C := .inr (.inr (2, [hkb01_7, hkb01_527, hkb01_528, hkb01_529, hkb01_530, hkb01_618, hkb01_111]))
/-- NeverAgain$Planner.searchFrom -/
def kb_302 : ai_K := (168, 6, (hkb01_557, [hkb01_8, hkb01_157, hkb01_162, hkb01_5, hkb01_5, hkb01_5], [], hkb01_566), [.inl 2, .inr (8, 6), .inr (8, 7), .inr (8, 8), .inr (8, 9), .inr (8, 10), .inr (8, 11), .inr (8, 12), .inr (8, 13), .inr (17, 4), .inr (21, 5), .inr (21, 6)], [(none, hkb01_611, [(21, hkb01_614), (25, hkb01_553)]), (none, hkb01_616, [(17, hkb01_591), (18, hkb01_316), (19, hkb01_318), (20, hkb01_297), (21, hkb01_619), (24, hkb01_553), (25, hkb01_553)]), (none, hkb01_616, [(17, hkb01_591), (18, hkb01_316), (19, hkb01_318), (20, hkb01_297), (21, hkb01_619), (24, hkb01_553), (25, hkb01_553)])])
def hkb01_620 : ai_E := [hkb01_38, hkb01_36, hkb01_37, hkb01_38, hkb01_38, hkb01_38, hkb01_39, hkb01_40, hkb01_2, hkb01_307, hkb01_615, hkb01_38, hkb01_374]
def hkb01_621 : Bool × Option ai_C := (true, some hkb01_619)
def hkb01_622 : ai_W := [hkb01_25, hkb01_25, hkb01_25, hkb01_25, hkb01_25, hkb01_25, hkb01_25, hkb01_25, hkb01_219, hkb01_25, hkb01_74, hkb01_25, hkb01_25, hkb01_25, hkb01_25, hkb01_25, hkb01_25, hkb01_596, hkb01_365, hkb01_366, hkb01_305, hkb01_621, hkb01_78, hkb01_565, hkb01_581, hkb01_581, hkb01_25, hkb01_25, hkb01_25, hkb01_25, hkb01_25, hkb01_25, hkb01_25, hkb01_25, hkb01_25, hkb01_25, hkb01_25, hkb01_25, hkb01_25, hkb01_25, hkb01_25, hkb01_25, hkb01_25, hkb01_25, hkb01_25, hkb01_25, hkb01_25, hkb01_25, hkb01_25, hkb01_25, hkb01_25, hkb01_25, hkb01_25, hkb01_25, hkb01_25, hkb01_25, hkb01_25, hkb01_25, hkb01_25, hkb01_25, hkb01_25, hkb01_25, hkb01_25, hkb01_25, hkb01_25, hkb01_25, hkb01_25, hkb01_25, hkb01_25, hkb01_25, hkb01_25, hkb01_25, hkb01_25, hkb01_25, hkb01_25, hkb01_25]
def kbn_302 : List ai_Nd := [(53, (hkb01_620, [hkb01_8, hkb01_157, hkb01_162, hkb01_111, hkb01_205, hkb01_578], [], hkb01_622), [.inl 5], [.inl 99946, .inl 1, .inr (true, .ofNat 17, 12), .inl 100000])]
set_option maxRecDepth 1000000 in
theorem kbk_302 : ai_ck [kb_293, kb_261, kb_290, kb_273, kb_265, kb_300] [] kb_302 [.inl 100000, .inl 0, .inl 0, .inl 0] kbn_302 50 = true := by decide +kernel
theorem kbh_302 : ai_holds kb_302 := ai_thm kbk_302 (ai_cons kbh_293 (ai_cons kbh_261 (ai_cons kbh_290 (ai_cons kbh_273 (ai_cons kbh_265 (ai_cons kbh_300 ai_nil))))))
def hkb01_623 : ai_E := [hkb01_36, hkb01_37, hkb01_38, hkb01_38, hkb01_38, hkb01_39, hkb01_40, hkb01_2, hkb01_307, hkb01_40, hkb01_38]
def hkb01_624 : ai_N := (.negSucc 2147483647, .ofNat 2147483647, [(10, .ofNat 0, .ofNat 0)])
def hkb01_625 : ai_V := .inl (false, hkb01_624)
def hkb01_626 : ai_C := .inr (.inr (2, [hkb01_7, hkb01_527, hkb01_528, hkb01_529, hkb01_530, hkb01_65, hkb01_625]))
def hkb01_627 : Bool × Option ai_C := (false, some hkb01_626)
def hkb01_628 : ai_W := [hkb01_25, hkb01_25, hkb01_25, hkb01_25, hkb01_25, hkb01_25, hkb01_25, hkb01_25, hkb01_354, hkb01_25, hkb01_74, hkb01_25, hkb01_25, hkb01_25, hkb01_25, hkb01_25, hkb01_25, hkb01_379, hkb01_317, hkb01_319, hkb01_298, hkb01_627, hkb01_78, hkb01_565, hkb01_554, hkb01_554, hkb01_25, hkb01_25, hkb01_25, hkb01_25, hkb01_25, hkb01_25, hkb01_25, hkb01_25, hkb01_25, hkb01_25, hkb01_25, hkb01_25, hkb01_25, hkb01_25, hkb01_25, hkb01_25, hkb01_25, hkb01_25, hkb01_25, hkb01_25, hkb01_25, hkb01_25, hkb01_25, hkb01_25, hkb01_25, hkb01_25, hkb01_25, hkb01_25, hkb01_25, hkb01_25, hkb01_25, hkb01_25, hkb01_25, hkb01_25, hkb01_25, hkb01_25, hkb01_25, hkb01_25, hkb01_25, hkb01_25, hkb01_25, hkb01_25, hkb01_25, hkb01_25, hkb01_25, hkb01_25, hkb01_25, hkb01_25, hkb01_25, hkb01_25]
def hkb01_629 : ai_E := [hkb01_36, hkb01_37, hkb01_38, hkb01_38, hkb01_38, hkb01_39, hkb01_40, hkb01_2, hkb01_307, hkb01_385, hkb01_38]
def hkb01_630 : ai_N := (.ofNat 0, .ofNat 0, [(9, .ofNat 0, .ofNat 0)])
def hkb01_631 : ai_V := .inl (false, hkb01_630)
def hkb01_632 : ai_C := .inr (.inr (2, [hkb01_7, hkb01_527, hkb01_528, hkb01_529, hkb01_530, hkb01_631, hkb01_120]))
def hkb01_633 : Int × Int := (.ofNat 1, .ofNat 5)
def hkb01_634 : ai_E := [hkb01_36, hkb01_37, hkb01_38, hkb01_38, hkb01_38, hkb01_39, hkb01_40, hkb01_2, hkb01_307, hkb01_633, hkb01_38]
def hkb01_635 : ai_N := (.ofNat 0, .ofNat 128, [(8, .negSucc 127, .ofNat 0)])
def hkb01_636 : ai_V := .inl (false, hkb01_635)
def hkb01_637 : ai_C := .inr (.inr (0, [hkb01_309, hkb01_310, hkb01_295, hkb01_16, hkb01_636]))
def hkb01_638 : ai_N := (.ofNat 1, .ofNat 5, [(9, .ofNat 0, .ofNat 0)])
def hkb01_639 : ai_V := .inl (false, hkb01_638)
def hkb01_640 : ai_C := .inr (.inr (2, [hkb01_7, hkb01_527, hkb01_528, hkb01_529, hkb01_530, hkb01_639, hkb01_111]))
/-- NeverAgain$Planner.searchFrom -/
def kb_303 : ai_K := (168, 7, (hkb01_623, [hkb01_8, hkb01_120, hkb01_120, hkb01_5, hkb01_5, hkb01_5], [], hkb01_628), [.inr (8, 6), .inr (8, 7), .inr (8, 8), .inr (8, 9), .inr (8, 10), .inr (8, 11), .inr (8, 12), .inr (8, 13), .inr (17, 4), .inr (21, 5), .inr (21, 6)], [(none, hkb01_629, [(21, hkb01_632), (25, hkb01_553)]), (none, hkb01_634, [(17, hkb01_637), (18, hkb01_316), (19, hkb01_318), (20, hkb01_297), (21, hkb01_640), (24, hkb01_553), (25, hkb01_553)]), (none, hkb01_634, [(17, hkb01_637), (18, hkb01_316), (19, hkb01_318), (20, hkb01_297), (21, hkb01_640), (24, hkb01_553), (25, hkb01_553)])])
def hkb01_641 : ai_E := [hkb01_36, hkb01_37, hkb01_38, hkb01_38, hkb01_38, hkb01_39, hkb01_40, hkb01_2, hkb01_307, hkb01_633, hkb01_38, hkb01_374]
def hkb01_642 : ai_N := (.ofNat 1, .ofNat 17, [(11, .ofNat 0, .ofNat 0)])
def hkb01_643 : ai_V := .inl (false, hkb01_642)
def hkb01_644 : Bool × Option ai_C := (true, some hkb01_637)
def hkb01_645 : Bool × Option ai_C := (true, some hkb01_640)
def hkb01_646 : ai_W := [hkb01_25, hkb01_25, hkb01_25, hkb01_25, hkb01_25, hkb01_25, hkb01_25, hkb01_25, hkb01_354, hkb01_25, hkb01_74, hkb01_25, hkb01_25, hkb01_25, hkb01_25, hkb01_25, hkb01_25, hkb01_644, hkb01_365, hkb01_366, hkb01_305, hkb01_645, hkb01_78, hkb01_565, hkb01_581, hkb01_581, hkb01_25, hkb01_25, hkb01_25, hkb01_25, hkb01_25, hkb01_25, hkb01_25, hkb01_25, hkb01_25, hkb01_25, hkb01_25, hkb01_25, hkb01_25, hkb01_25, hkb01_25, hkb01_25, hkb01_25, hkb01_25, hkb01_25, hkb01_25, hkb01_25, hkb01_25, hkb01_25, hkb01_25, hkb01_25, hkb01_25, hkb01_25, hkb01_25, hkb01_25, hkb01_25, hkb01_25, hkb01_25, hkb01_25, hkb01_25, hkb01_25, hkb01_25, hkb01_25, hkb01_25, hkb01_25, hkb01_25, hkb01_25, hkb01_25, hkb01_25, hkb01_25, hkb01_25, hkb01_25, hkb01_25, hkb01_25, hkb01_25, hkb01_25]
def kbn_303 : List ai_Nd := [(53, (hkb01_641, [hkb01_8, hkb01_120, hkb01_120, hkb01_111, hkb01_342, hkb01_643], [], hkb01_646), [.inl 5], [.inl 99946, .inl 1, .inr (true, .ofNat 17, 11), .inl 100000])]
set_option maxRecDepth 1000000 in
theorem kbk_303 : ai_ck [kb_293, kb_261, kb_290, kb_273, kb_265, kb_302] [] kb_303 [.inl 100000, .inl 0, .inl 0, .inl 0] kbn_303 50 = true := by decide +kernel
theorem kbh_303 : ai_holds kb_303 := ai_thm kbk_303 (ai_cons kbh_293 (ai_cons kbh_261 (ai_cons kbh_290 (ai_cons kbh_273 (ai_cons kbh_265 (ai_cons kbh_302 ai_nil))))))
/-- NeverAgain$Planner.findCheapest -/
def kb_304 : ai_K := (120, 8, (hkb01_623, [hkb01_8, hkb01_5], [], hkb01_628), [.inr (8, 6), .inr (8, 7), .inr (8, 8), .inr (8, 9), .inr (8, 10), .inr (8, 11), .inr (8, 12), .inr (8, 13), .inr (17, 4), .inr (21, 5), .inr (21, 6)], [(none, hkb01_634, [(17, hkb01_637), (18, hkb01_316), (19, hkb01_318), (20, hkb01_297), (21, hkb01_640), (23, hkb01_564), (24, hkb01_553), (25, hkb01_553)]), (none, hkb01_634, [(17, hkb01_637), (18, hkb01_316), (19, hkb01_318), (20, hkb01_297), (21, hkb01_640), (23, hkb01_564), (24, hkb01_553), (25, hkb01_553)]), (none, hkb01_629, [(21, hkb01_632), (23, hkb01_564), (25, hkb01_553)])])
def hkb01_647 : Int × Int := (.negSucc 0, .ofNat 4)
def hkb01_648 : ai_E := [hkb01_36, hkb01_37, hkb01_38, hkb01_38, hkb01_38, hkb01_39, hkb01_40, hkb01_2, hkb01_307, hkb01_40, hkb01_38, hkb01_647]
def hkb01_649 : ai_N := (.negSucc 0, .ofNat 4, [(11, .ofNat 0, .ofNat 0), (9, .negSucc 5, .negSucc 0)])
def hkb01_650 : ai_V := .inl (false, hkb01_649)
def hkb01_651 : ai_C := .inr (.inr (2, [hkb01_7, hkb01_527, hkb01_528, hkb01_529, hkb01_530, hkb01_65, hkb01_541]))
def hkb01_652 : Bool × Option ai_C := (true, some hkb01_651)
def hkb01_653 : Bool × Option ai_C := (true, some hkb01_564)
def hkb01_654 : ai_W := [hkb01_25, hkb01_25, hkb01_25, hkb01_25, hkb01_25, hkb01_25, hkb01_25, hkb01_25, hkb01_354, hkb01_25, hkb01_74, hkb01_25, hkb01_25, hkb01_25, hkb01_25, hkb01_25, hkb01_25, hkb01_379, hkb01_317, hkb01_319, hkb01_298, hkb01_652, hkb01_78, hkb01_653, hkb01_554, hkb01_554, hkb01_25, hkb01_25, hkb01_25, hkb01_25, hkb01_25, hkb01_25, hkb01_25, hkb01_25, hkb01_25, hkb01_25, hkb01_25, hkb01_25, hkb01_25, hkb01_25, hkb01_25, hkb01_25, hkb01_25, hkb01_25, hkb01_25, hkb01_25, hkb01_25, hkb01_25, hkb01_25, hkb01_25, hkb01_25, hkb01_25, hkb01_25, hkb01_25, hkb01_25, hkb01_25, hkb01_25, hkb01_25, hkb01_25, hkb01_25, hkb01_25, hkb01_25, hkb01_25, hkb01_25, hkb01_25, hkb01_25, hkb01_25, hkb01_25, hkb01_25, hkb01_25, hkb01_25, hkb01_25, hkb01_25, hkb01_25, hkb01_25, hkb01_25]
def kbn_304 : List ai_Nd := [(24, (hkb01_648, [hkb01_8, hkb01_650], [], hkb01_654), [.inl 1], [.inl 99975, .inl 1, .inr (false, .negSucc 0, 11), .inl 100000])]
set_option maxRecDepth 1000000 in
theorem kbk_304 : ai_ck [kb_289, kb_303] [] kb_304 [.inl 100000, .inl 0, .inl 0, .inl 0] kbn_304 24 = true := by decide +kernel
theorem kbh_304 : ai_holds kb_304 := ai_thm kbk_304 (ai_cons kbh_289 (ai_cons kbh_303 ai_nil))
def hkb01_655 : ai_E := [hkb01_40, hkb01_38]
def hkb01_656 : ai_C := .inr (.inr (2, [hkb01_7, hkb01_527, hkb01_528, hkb01_529, hkb01_530, hkb01_521, hkb01_260]))
def hkb01_657 : Bool × Option ai_C := (false, some hkb01_656)
def hkb01_658 : ai_W := [hkb01_25, hkb01_25, hkb01_25, hkb01_25, hkb01_25, hkb01_25, hkb01_25, hkb01_25, hkb01_25, hkb01_25, hkb01_25, hkb01_25, hkb01_25, hkb01_25, hkb01_25, hkb01_25, hkb01_25, hkb01_25, hkb01_25, hkb01_25, hkb01_25, hkb01_657, hkb01_25, hkb01_25, hkb01_25, hkb01_25, hkb01_25, hkb01_25, hkb01_25, hkb01_25, hkb01_25, hkb01_25, hkb01_25, hkb01_25, hkb01_25, hkb01_25, hkb01_25, hkb01_25, hkb01_25, hkb01_25, hkb01_25, hkb01_25, hkb01_25, hkb01_25, hkb01_25, hkb01_25, hkb01_25, hkb01_25, hkb01_25, hkb01_25, hkb01_25, hkb01_25, hkb01_25, hkb01_25, hkb01_25, hkb01_25, hkb01_25, hkb01_25, hkb01_25, hkb01_25, hkb01_25, hkb01_25, hkb01_25, hkb01_25, hkb01_25, hkb01_25, hkb01_25, hkb01_25, hkb01_25, hkb01_25, hkb01_25, hkb01_25, hkb01_25, hkb01_25, hkb01_25, hkb01_25]
def hkb01_659 : Int × Int := (.ofNat 1000, .ofNat 2147483647)
def hkb01_660 : ai_E := [hkb01_40, hkb01_659]
def hkb01_661 : ai_N := (.negSucc 2147483647, .ofNat 999, [(1, .ofNat 0, .ofNat 0)])
def hkb01_662 : ai_V := .inl (false, hkb01_661)
def hkb01_663 : Int × Int := (.negSucc 2147483647, .ofNat 999)
def hkb01_664 : ai_E := [hkb01_40, hkb01_663]
/-- NeverAgain$Planner.answer -/
def kb_305 : ai_K := (121, 0, (hkb01_655, [hkb01_8, hkb01_120, hkb01_5], [], hkb01_658), [.inr (21, 5), .inr (21, 6)], [(some hkb01_423, hkb01_660, []), (some hkb01_662, hkb01_664, [])])
def kbn_305 : List ai_Nd := []
set_option maxRecDepth 1000000 in
theorem kbk_305 : ai_ck [] [] kb_305 [.inl 100000] kbn_305 10 = true := by decide +kernel
theorem kbh_305 : ai_holds kb_305 := ai_thm kbk_305 ai_nil
def hkb01_665 : ai_W := [hkb01_25, hkb01_25, hkb01_25, hkb01_25, hkb01_25, hkb01_25, hkb01_25, hkb01_25, hkb01_25, hkb01_25, hkb01_25, hkb01_25, hkb01_25, hkb01_25, hkb01_25, hkb01_25, hkb01_25, hkb01_25, hkb01_25, hkb01_25, hkb01_25, hkb01_552, hkb01_25, hkb01_25, hkb01_25, hkb01_554, hkb01_25, hkb01_25, hkb01_25, hkb01_25, hkb01_25, hkb01_25, hkb01_25, hkb01_25, hkb01_25, hkb01_25, hkb01_25, hkb01_25, hkb01_25, hkb01_25, hkb01_25, hkb01_25, hkb01_25, hkb01_25, hkb01_25, hkb01_25, hkb01_25, hkb01_25, hkb01_25, hkb01_25, hkb01_25, hkb01_25, hkb01_25, hkb01_25, hkb01_25, hkb01_25, hkb01_25, hkb01_25, hkb01_25, hkb01_25, hkb01_25, hkb01_25, hkb01_25, hkb01_25, hkb01_25, hkb01_25, hkb01_25, hkb01_25, hkb01_25, hkb01_25, hkb01_25, hkb01_25, hkb01_25, hkb01_25, hkb01_25, hkb01_25]
def hkb01_666 : ai_E := [hkb01_38, hkb01_40, hkb01_659]
def hkb01_667 : ai_N := (.negSucc 2147483647, .ofNat 999, [(2, .ofNat 0, .ofNat 0)])
def hkb01_668 : ai_V := .inl (false, hkb01_667)
def hkb01_669 : ai_E := [hkb01_385, hkb01_40, hkb01_663]
def hkb01_670 : ai_V := .inl (false, hkb01_315)
def hkb01_671 : ai_E := [hkb01_38, hkb01_633, hkb01_663]
def hkb01_672 : ai_E := [hkb01_38, hkb01_40, hkb01_663]
/-- NeverAgain$Planner.answer -/
def kb_306 : ai_K := (121, 0, (hkb01_546, [hkb01_8, hkb01_162, hkb01_5], [], hkb01_665), [.inl 1, .inr (21, 5), .inr (21, 6)], [(some hkb01_423, hkb01_666, []), (some hkb01_668, hkb01_669, []), (some hkb01_670, hkb01_671, []), (some hkb01_423, hkb01_672, []), (some hkb01_423, hkb01_672, [])])
def kbn_306 : List ai_Nd := []
set_option maxRecDepth 1000000 in
theorem kbk_306 : ai_ck [] [] kb_306 [.inl 100000] kbn_306 23 = true := by decide +kernel
theorem kbh_306 : ai_holds kb_306 := ai_thm kbk_306 ai_nil
def hkb01_673 : ai_E := [hkb01_38, hkb01_0, hkb01_1, hkb01_2, hkb01_36, hkb01_37, hkb01_38, hkb01_38, hkb01_38, hkb01_39, hkb01_40, hkb01_2, hkb01_307, hkb01_40, hkb01_38]
def hkb01_674 : ai_N := (.ofNat 0, .ofNat 5, [(13, .ofNat 0, .ofNat 0)])
def hkb01_675 : ai_V := .inl (false, hkb01_674)
def hkb01_676 : ai_C := .inr (.inr (2, [hkb01_7, hkb01_527, hkb01_528, hkb01_529, hkb01_530, hkb01_675, hkb01_87]))
def hkb01_677 : Bool × Option ai_C := (false, some hkb01_676)
def hkb01_678 : ai_W := [hkb01_170, hkb01_25, hkb01_25, hkb01_25, hkb01_25, hkb01_25, hkb01_25, hkb01_25, hkb01_190, hkb01_25, hkb01_74, hkb01_76, hkb01_78, hkb01_25, hkb01_25, hkb01_25, hkb01_25, hkb01_434, hkb01_317, hkb01_319, hkb01_298, hkb01_677, hkb01_78, hkb01_565, hkb01_554, hkb01_554, hkb01_25, hkb01_25, hkb01_25, hkb01_25, hkb01_25, hkb01_25, hkb01_25, hkb01_25, hkb01_25, hkb01_25, hkb01_25, hkb01_25, hkb01_25, hkb01_25, hkb01_25, hkb01_25, hkb01_25, hkb01_25, hkb01_25, hkb01_25, hkb01_25, hkb01_25, hkb01_25, hkb01_25, hkb01_25, hkb01_25, hkb01_25, hkb01_25, hkb01_25, hkb01_25, hkb01_25, hkb01_25, hkb01_25, hkb01_25, hkb01_25, hkb01_25, hkb01_25, hkb01_25, hkb01_25, hkb01_25, hkb01_25, hkb01_25, hkb01_25, hkb01_25, hkb01_25, hkb01_25, hkb01_25, hkb01_25, hkb01_25, hkb01_25]
def hkb01_679 : ai_E := [hkb01_385, hkb01_0, hkb01_1, hkb01_2, hkb01_36, hkb01_37, hkb01_38, hkb01_38, hkb01_38, hkb01_39, hkb01_40, hkb01_2, hkb01_307, hkb01_40, hkb01_38]
def hkb01_680 : ai_C := .inr (.inr (2, [hkb01_7, hkb01_527, hkb01_528, hkb01_529, hkb01_530, hkb01_120, hkb01_120]))
def hkb01_681 : ai_N := (.negSucc 2147483647, .ofNat 999, [])
def hkb01_682 : ai_V := .inl (false, hkb01_681)
def hkb01_683 : Int × Int := (.ofNat 0, .ofNat 14)
def hkb01_684 : ai_E := [hkb01_683, hkb01_0, hkb01_1, hkb01_2, hkb01_36, hkb01_37, hkb01_38, hkb01_38, hkb01_38, hkb01_39, hkb01_40, hkb01_2, hkb01_307, hkb01_40, hkb01_38]
def hkb01_685 : ai_C := .inr (.inr (2, [hkb01_7, hkb01_527, hkb01_528, hkb01_529, hkb01_530, hkb01_154, hkb01_682]))
def hkb01_686 : ai_C := .inr (.inr (2, [hkb01_7, hkb01_527, hkb01_528, hkb01_529, hkb01_530, hkb01_154, hkb01_111]))
def hkb01_687 : ai_E := [hkb01_523, hkb01_0, hkb01_1, hkb01_2, hkb01_36, hkb01_37, hkb01_38, hkb01_38, hkb01_38, hkb01_39, hkb01_40, hkb01_2, hkb01_307, hkb01_40, hkb01_38]
/-- NeverAgain.plan -/
def kb_307 : ai_K := (49, 9, (hkb01_673, [hkb01_4, hkb01_162], [], hkb01_678), [.inl 1, .inr (0, 11), .inr (0, 12), .inr (0, 13), .inr (8, 6), .inr (8, 7), .inr (8, 8), .inr (8, 9), .inr (8, 10), .inr (8, 11), .inr (8, 12), .inr (8, 13), .inr (17, 4), .inr (21, 5), .inr (21, 6)], [(some hkb01_120, hkb01_679, [(17, hkb01_362), (18, hkb01_316), (19, hkb01_318), (20, hkb01_297), (21, hkb01_680), (22, hkb01_77), (23, hkb01_564), (25, hkb01_553)]), (some hkb01_682, hkb01_684, [(17, hkb01_362), (18, hkb01_316), (19, hkb01_318), (20, hkb01_297), (21, hkb01_685), (22, hkb01_77), (23, hkb01_564), (24, hkb01_553), (25, hkb01_553)]), (some hkb01_423, hkb01_684, [(17, hkb01_362), (18, hkb01_316), (19, hkb01_318), (20, hkb01_297), (21, hkb01_686), (22, hkb01_77), (23, hkb01_564), (24, hkb01_553), (25, hkb01_553)]), (some hkb01_194, hkb01_673, []), (some hkb01_423, hkb01_687, [(17, hkb01_362), (18, hkb01_316), (19, hkb01_318), (20, hkb01_297), (21, hkb01_680), (22, hkb01_77), (23, hkb01_564), (25, hkb01_553)])])
def kbn_307 : List ai_Nd := []
set_option maxRecDepth 1000000 in
theorem kbk_307 : ai_ck [kb_287, kb_305, kb_306, kb_263, kb_288, kb_304] [] kb_307 [.inl 100000] kbn_307 23 = true := by decide +kernel
theorem kbh_307 : ai_holds kb_307 := ai_thm kbk_307 (ai_cons kbh_287 (ai_cons kbh_305 (ai_cons kbh_306 (ai_cons kbh_263 (ai_cons kbh_288 (ai_cons kbh_304 ai_nil))))))
def hkb01_688 : ai_W := [hkb01_25, hkb01_25, hkb01_25, hkb01_25, hkb01_25, hkb01_25, hkb01_25, hkb01_25, hkb01_354, hkb01_25, hkb01_74, hkb01_25, hkb01_25, hkb01_25, hkb01_25, hkb01_25, hkb01_25, hkb01_379, hkb01_317, hkb01_319, hkb01_298, hkb01_627, hkb01_78, hkb01_25, hkb01_25, hkb01_554, hkb01_25, hkb01_25, hkb01_25, hkb01_25, hkb01_25, hkb01_25, hkb01_25, hkb01_25, hkb01_25, hkb01_25, hkb01_25, hkb01_25, hkb01_25, hkb01_25, hkb01_25, hkb01_25, hkb01_25, hkb01_25, hkb01_25, hkb01_25, hkb01_25, hkb01_25, hkb01_25, hkb01_25, hkb01_25, hkb01_25, hkb01_25, hkb01_25, hkb01_25, hkb01_25, hkb01_25, hkb01_25, hkb01_25, hkb01_25, hkb01_25, hkb01_25, hkb01_25, hkb01_25, hkb01_25, hkb01_25, hkb01_25, hkb01_25, hkb01_25, hkb01_25, hkb01_25, hkb01_25, hkb01_25, hkb01_25, hkb01_25, hkb01_25]
def hkb01_689 : ai_N := (.ofNat 0, .ofNat 128, [(8, .negSucc 127, .ofNat 128)])
def hkb01_690 : ai_V := .inl (false, hkb01_689)
def hkb01_691 : ai_C := .inr (.inr (0, [hkb01_309, hkb01_310, hkb01_295, hkb01_16, hkb01_690]))
def hkb01_692 : ai_C := .inr (.inr (2, [hkb01_7, hkb01_527, hkb01_528, hkb01_529, hkb01_530, hkb01_65, hkb01_111]))
/-- NeverAgain$Planner.followRule -/
def kb_308 : ai_K := (126, 4, (hkb01_623, [hkb01_8, hkb01_5, hkb01_5, hkb01_5, hkb01_5, hkb01_5], [], hkb01_688), [.inr (8, 6), .inr (8, 7), .inr (8, 8), .inr (8, 9), .inr (8, 10), .inr (8, 11), .inr (8, 12), .inr (8, 13), .inr (17, 4), .inr (21, 5), .inr (21, 6)], [(none, hkb01_623, [(17, hkb01_691), (18, hkb01_316), (19, hkb01_318), (20, hkb01_297), (21, hkb01_692), (25, hkb01_553)]), (none, hkb01_623, [(17, hkb01_691), (18, hkb01_316), (19, hkb01_318), (20, hkb01_297), (21, hkb01_651), (25, hkb01_553)])])
def hkb01_693 : ai_E := [hkb01_36, hkb01_37, hkb01_38, hkb01_38, hkb01_38, hkb01_39, hkb01_40, hkb01_2, hkb01_307, hkb01_40, hkb01_38, hkb01_38, hkb01_40]
def hkb01_694 : ai_V := .inl (false, hkb01_26)
def hkb01_695 : ai_N := (.ofNat 0, .ofNat 5, [(12, .ofNat 0, .ofNat 0)])
def hkb01_696 : ai_V := .inl (false, hkb01_695)
def hkb01_697 : ai_N := (.ofNat 0, .ofNat 128, [(8, .ofNat 0, .ofNat 128)])
def hkb01_698 : ai_V := .inl (false, hkb01_697)
def hkb01_699 : ai_C := .inr (.inr (0, [hkb01_309, hkb01_310, hkb01_295, hkb01_16, hkb01_698]))
def hkb01_700 : Bool × Option ai_C := (true, some hkb01_699)
def hkb01_701 : ai_W := [hkb01_25, hkb01_25, hkb01_25, hkb01_25, hkb01_25, hkb01_25, hkb01_25, hkb01_25, hkb01_354, hkb01_25, hkb01_74, hkb01_25, hkb01_25, hkb01_25, hkb01_25, hkb01_25, hkb01_25, hkb01_700, hkb01_365, hkb01_366, hkb01_305, hkb01_627, hkb01_78, hkb01_25, hkb01_25, hkb01_581, hkb01_25, hkb01_25, hkb01_25, hkb01_25, hkb01_25, hkb01_25, hkb01_25, hkb01_25, hkb01_25, hkb01_25, hkb01_25, hkb01_25, hkb01_25, hkb01_25, hkb01_25, hkb01_25, hkb01_25, hkb01_25, hkb01_25, hkb01_25, hkb01_25, hkb01_25, hkb01_25, hkb01_25, hkb01_25, hkb01_25, hkb01_25, hkb01_25, hkb01_25, hkb01_25, hkb01_25, hkb01_25, hkb01_25, hkb01_25, hkb01_25, hkb01_25, hkb01_25, hkb01_25, hkb01_25, hkb01_25, hkb01_25, hkb01_25, hkb01_25, hkb01_25, hkb01_25, hkb01_25, hkb01_25, hkb01_25, hkb01_25, hkb01_25]
def hkb01_702 : ai_E := [hkb01_36, hkb01_37, hkb01_38, hkb01_38, hkb01_38, hkb01_39, hkb01_40, hkb01_2, hkb01_307, hkb01_40, hkb01_38, hkb01_199]
def hkb01_703 : ai_N := (.ofNat 0, .ofNat 2147483647, [(11, .ofNat 0, .ofNat 0)])
def hkb01_704 : ai_V := .inl (false, hkb01_703)
def hkb01_705 : Bool × Option ai_C := (true, some hkb01_691)
def hkb01_706 : ai_W := [hkb01_25, hkb01_25, hkb01_25, hkb01_25, hkb01_25, hkb01_25, hkb01_25, hkb01_25, hkb01_354, hkb01_25, hkb01_74, hkb01_25, hkb01_25, hkb01_25, hkb01_25, hkb01_25, hkb01_25, hkb01_705, hkb01_365, hkb01_366, hkb01_305, hkb01_627, hkb01_78, hkb01_25, hkb01_25, hkb01_581, hkb01_25, hkb01_25, hkb01_25, hkb01_25, hkb01_25, hkb01_25, hkb01_25, hkb01_25, hkb01_25, hkb01_25, hkb01_25, hkb01_25, hkb01_25, hkb01_25, hkb01_25, hkb01_25, hkb01_25, hkb01_25, hkb01_25, hkb01_25, hkb01_25, hkb01_25, hkb01_25, hkb01_25, hkb01_25, hkb01_25, hkb01_25, hkb01_25, hkb01_25, hkb01_25, hkb01_25, hkb01_25, hkb01_25, hkb01_25, hkb01_25, hkb01_25, hkb01_25, hkb01_25, hkb01_25, hkb01_25, hkb01_25, hkb01_25, hkb01_25, hkb01_25, hkb01_25, hkb01_25, hkb01_25, hkb01_25, hkb01_25, hkb01_25]
def kbn_308 : List ai_Nd := [(9, (hkb01_693, [hkb01_8, hkb01_111, hkb01_561, hkb01_694, hkb01_696, hkb01_5], [], hkb01_701), [.inl 2, .inl 4], [.inl 99990, .inl 1, .inr (true, .ofNat 5, 12), .inl 100000]), (88, (hkb01_702, [hkb01_8, hkb01_111, hkb01_111, hkb01_694, hkb01_704, hkb01_5], [], hkb01_706), [.inl 4], [.inl 99911, .inl 1, .inr (true, .ofNat 2147483647, 11), .inl 100000])]
set_option maxRecDepth 1000000 in
theorem kbk_308 : ai_ck [kb_293, kb_261, kb_274] [] kb_308 [.inl 100000, .inl 0, .inl 0, .inl 0] kbn_308 39 = true := by decide +kernel
theorem kbh_308 : ai_holds kb_308 := ai_thm kbk_308 (ai_cons kbh_293 (ai_cons kbh_261 (ai_cons kbh_274 ai_nil)))
def hkb01_707 : ai_W := [hkb01_170, hkb01_25, hkb01_25, hkb01_25, hkb01_25, hkb01_25, hkb01_25, hkb01_25, hkb01_190, hkb01_25, hkb01_74, hkb01_76, hkb01_78, hkb01_25, hkb01_25, hkb01_25, hkb01_25, hkb01_434, hkb01_317, hkb01_319, hkb01_298, hkb01_677, hkb01_78, hkb01_25, hkb01_25, hkb01_554, hkb01_25, hkb01_25, hkb01_25, hkb01_25, hkb01_25, hkb01_25, hkb01_25, hkb01_25, hkb01_25, hkb01_25, hkb01_25, hkb01_25, hkb01_25, hkb01_25, hkb01_25, hkb01_25, hkb01_25, hkb01_25, hkb01_25, hkb01_25, hkb01_25, hkb01_25, hkb01_25, hkb01_25, hkb01_25, hkb01_25, hkb01_25, hkb01_25, hkb01_25, hkb01_25, hkb01_25, hkb01_25, hkb01_25, hkb01_25, hkb01_25, hkb01_25, hkb01_25, hkb01_25, hkb01_25, hkb01_25, hkb01_25, hkb01_25, hkb01_25, hkb01_25, hkb01_25, hkb01_25, hkb01_25, hkb01_25, hkb01_25, hkb01_25]
def hkb01_708 : ai_C := .inr (.inr (2, [hkb01_7, hkb01_527, hkb01_528, hkb01_529, hkb01_530, hkb01_115, hkb01_111]))
def hkb01_709 : ai_C := .inr (.inr (2, [hkb01_7, hkb01_527, hkb01_528, hkb01_529, hkb01_530, hkb01_115, hkb01_682]))
/-- NeverAgain.byRule -/
def kb_309 : ai_K := (51, 5, (hkb01_673, [hkb01_4, hkb01_162], [], hkb01_707), [.inl 1, .inr (0, 11), .inr (0, 12), .inr (0, 13), .inr (8, 6), .inr (8, 7), .inr (8, 8), .inr (8, 9), .inr (8, 10), .inr (8, 11), .inr (8, 12), .inr (8, 13), .inr (17, 4), .inr (21, 5), .inr (21, 6)], [(some hkb01_423, hkb01_684, [(17, hkb01_362), (18, hkb01_316), (19, hkb01_318), (20, hkb01_297), (21, hkb01_708), (22, hkb01_77), (25, hkb01_553)]), (some hkb01_682, hkb01_684, [(17, hkb01_362), (18, hkb01_316), (19, hkb01_318), (20, hkb01_297), (21, hkb01_709), (22, hkb01_77), (25, hkb01_553)]), (some hkb01_194, hkb01_673, [])])
def kbn_309 : List ai_Nd := []
set_option maxRecDepth 1000000 in
theorem kbk_309 : ai_ck [kb_287, kb_305, kb_306, kb_263, kb_288, kb_308] [] kb_309 [.inl 100000] kbn_309 23 = true := by decide +kernel
theorem kbh_309 : ai_holds kb_309 := ai_thm kbk_309 (ai_cons kbh_287 (ai_cons kbh_305 (ai_cons kbh_306 (ai_cons kbh_263 (ai_cons kbh_288 (ai_cons kbh_308 ai_nil))))))
def hkb01_710 : ai_N := (.ofNat 1000, .ofNat 2147483647, [])
def hkb01_711 : ai_V := .inl (false, hkb01_710)
def hkb01_712 : ai_C := .inr (.inr (2, [hkb01_7, hkb01_527, hkb01_528, hkb01_529, hkb01_530, hkb01_65, hkb01_711]))
/-- NeverAgain$Planner.ruleAbovePlan -/
def kb_311 : ai_K := (129, 9, (hkb01_623, [hkb01_8, hkb01_5], [], hkb01_628), [.inr (8, 6), .inr (8, 7), .inr (8, 8), .inr (8, 9), .inr (8, 10), .inr (8, 11), .inr (8, 12), .inr (8, 13), .inr (17, 4), .inr (21, 5), .inr (21, 6)], [(some hkb01_423, hkb01_623, [(17, hkb01_691), (18, hkb01_316), (19, hkb01_318), (20, hkb01_297), (21, hkb01_651), (25, hkb01_553)]), (some hkb01_423, hkb01_623, [(17, hkb01_691), (18, hkb01_316), (19, hkb01_318), (20, hkb01_297), (21, hkb01_712), (25, hkb01_553)]), (some hkb01_682, hkb01_629, [(17, hkb01_691), (18, hkb01_316), (19, hkb01_318), (20, hkb01_297), (21, hkb01_632), (23, hkb01_564), (25, hkb01_553)]), (some hkb01_111, hkb01_634, [(17, hkb01_691), (18, hkb01_316), (19, hkb01_318), (20, hkb01_297), (21, hkb01_640), (23, hkb01_564), (24, hkb01_553), (25, hkb01_553)]), (some hkb01_111, hkb01_634, [(17, hkb01_691), (18, hkb01_316), (19, hkb01_318), (20, hkb01_297), (21, hkb01_640), (23, hkb01_564), (24, hkb01_553), (25, hkb01_553)])])
def kbn_311 : List ai_Nd := []
set_option maxRecDepth 1000000 in
theorem kbk_311 : ai_ck [kb_304, kb_308] [] kb_311 [.inl 100000] kbn_311 16 = true := by decide +kernel
theorem kbh_311 : ai_holds kb_311 := ai_thm kbk_311 (ai_cons kbh_304 (ai_cons kbh_308 ai_nil))
def hkb01_713 : ai_E := [hkb01_38, hkb01_36, hkb01_37, hkb01_38, hkb01_38, hkb01_38, hkb01_39, hkb01_40, hkb01_2, hkb01_40, hkb01_38]
def hkb01_714 : ai_W := [hkb01_25, hkb01_25, hkb01_25, hkb01_25, hkb01_25, hkb01_25, hkb01_25, hkb01_25, hkb01_219, hkb01_25, hkb01_25, hkb01_25, hkb01_25, hkb01_25, hkb01_25, hkb01_25, hkb01_25, hkb01_25, hkb01_25, hkb01_25, hkb01_25, hkb01_627, hkb01_78, hkb01_25, hkb01_25, hkb01_25, hkb01_25, hkb01_25, hkb01_25, hkb01_25, hkb01_25, hkb01_25, hkb01_25, hkb01_25, hkb01_25, hkb01_25, hkb01_25, hkb01_25, hkb01_25, hkb01_25, hkb01_25, hkb01_25, hkb01_25, hkb01_25, hkb01_25, hkb01_25, hkb01_25, hkb01_25, hkb01_25, hkb01_25, hkb01_25, hkb01_25, hkb01_25, hkb01_25, hkb01_25, hkb01_25, hkb01_25, hkb01_25, hkb01_25, hkb01_25, hkb01_25, hkb01_25, hkb01_25, hkb01_25, hkb01_25, hkb01_25, hkb01_25, hkb01_25, hkb01_25, hkb01_25, hkb01_25, hkb01_25, hkb01_25, hkb01_25, hkb01_25, hkb01_25]
def hkb01_715 : ai_C := .inr (.inr (2, [hkb01_7, hkb01_527, hkb01_528, hkb01_529, hkb01_530, hkb01_131, hkb01_625]))
/-- NeverAgain$Planner.takeRow -/
def kb_314 : ai_K := (128, 1, (hkb01_713, [hkb01_8, hkb01_16, hkb01_162, hkb01_131, hkb01_5, hkb01_5], [], hkb01_714), [.inl 2, .inr (8, 6), .inr (8, 7), .inr (8, 8), .inr (8, 9), .inr (8, 10), .inr (8, 11), .inr (8, 12), .inr (8, 13), .inr (21, 5), .inr (21, 6)], [(some hkb01_694, hkb01_713, [(21, hkb01_715), (22, hkb01_77)])])
def hkb01_716 : ai_E := [hkb01_38, hkb01_36, hkb01_37, hkb01_38, hkb01_38, hkb01_38, hkb01_39, hkb01_40, hkb01_2, hkb01_40, hkb01_38, hkb01_42]
def hkb01_717 : ai_N := (.ofNat 0, .ofNat 3, [(11, .ofNat 0, .ofNat 0)])
def hkb01_718 : ai_V := .inl (false, hkb01_717)
def hkb01_719 : Bool × Option ai_C := (true, some hkb01_715)
def hkb01_720 : ai_W := [hkb01_25, hkb01_25, hkb01_25, hkb01_25, hkb01_25, hkb01_25, hkb01_25, hkb01_25, hkb01_219, hkb01_25, hkb01_25, hkb01_25, hkb01_25, hkb01_25, hkb01_25, hkb01_25, hkb01_25, hkb01_25, hkb01_25, hkb01_25, hkb01_25, hkb01_719, hkb01_537, hkb01_25, hkb01_25, hkb01_25, hkb01_25, hkb01_25, hkb01_25, hkb01_25, hkb01_25, hkb01_25, hkb01_25, hkb01_25, hkb01_25, hkb01_25, hkb01_25, hkb01_25, hkb01_25, hkb01_25, hkb01_25, hkb01_25, hkb01_25, hkb01_25, hkb01_25, hkb01_25, hkb01_25, hkb01_25, hkb01_25, hkb01_25, hkb01_25, hkb01_25, hkb01_25, hkb01_25, hkb01_25, hkb01_25, hkb01_25, hkb01_25, hkb01_25, hkb01_25, hkb01_25, hkb01_25, hkb01_25, hkb01_25, hkb01_25, hkb01_25, hkb01_25, hkb01_25, hkb01_25, hkb01_25, hkb01_25, hkb01_25, hkb01_25, hkb01_25, hkb01_25, hkb01_25]
def kbn_314 : List ai_Nd := [(15, (hkb01_716, [hkb01_8, hkb01_16, hkb01_162, hkb01_131, hkb01_694, hkb01_718], [], hkb01_720), [.inl 5], [.inl 99984, .inl 1, .inr (true, .ofNat 3, 11), .inl 100000])]
set_option maxRecDepth 1000000 in
theorem kbk_314 : ai_ck [kb_251] [] kb_314 [.inl 100000, .inl 0, .inl 0, .inl 0] kbn_314 36 = true := by decide +kernel
theorem kbh_314 : ai_holds kb_314 := ai_thm kbk_314 (ai_cons kbh_251 ai_nil)
def hkb01_721 : ai_C := .inr (.inr (2, [hkb01_7, hkb01_527, hkb01_528, hkb01_529, hkb01_530, hkb01_138, hkb01_625]))
/-- NeverAgain$Planner.takeRow -/
def kb_315 : ai_K := (128, 1, (hkb01_713, [hkb01_8, hkb01_16, hkb01_162, hkb01_138, hkb01_5, hkb01_5], [], hkb01_714), [.inl 2, .inr (8, 6), .inr (8, 7), .inr (8, 8), .inr (8, 9), .inr (8, 10), .inr (8, 11), .inr (8, 12), .inr (8, 13), .inr (21, 5), .inr (21, 6)], [(some hkb01_694, hkb01_713, [(21, hkb01_721), (22, hkb01_77)])])
def hkb01_722 : ai_E := [hkb01_38, hkb01_36, hkb01_37, hkb01_38, hkb01_38, hkb01_38, hkb01_39, hkb01_40, hkb01_2, hkb01_40, hkb01_38, hkb01_30]
def hkb01_723 : ai_N := (.ofNat 0, .ofNat 2, [(11, .ofNat 0, .ofNat 0)])
def hkb01_724 : ai_V := .inl (false, hkb01_723)
def hkb01_725 : Bool × Option ai_C := (true, some hkb01_721)
def hkb01_726 : ai_W := [hkb01_25, hkb01_25, hkb01_25, hkb01_25, hkb01_25, hkb01_25, hkb01_25, hkb01_25, hkb01_219, hkb01_25, hkb01_25, hkb01_25, hkb01_25, hkb01_25, hkb01_25, hkb01_25, hkb01_25, hkb01_25, hkb01_25, hkb01_25, hkb01_25, hkb01_725, hkb01_537, hkb01_25, hkb01_25, hkb01_25, hkb01_25, hkb01_25, hkb01_25, hkb01_25, hkb01_25, hkb01_25, hkb01_25, hkb01_25, hkb01_25, hkb01_25, hkb01_25, hkb01_25, hkb01_25, hkb01_25, hkb01_25, hkb01_25, hkb01_25, hkb01_25, hkb01_25, hkb01_25, hkb01_25, hkb01_25, hkb01_25, hkb01_25, hkb01_25, hkb01_25, hkb01_25, hkb01_25, hkb01_25, hkb01_25, hkb01_25, hkb01_25, hkb01_25, hkb01_25, hkb01_25, hkb01_25, hkb01_25, hkb01_25, hkb01_25, hkb01_25, hkb01_25, hkb01_25, hkb01_25, hkb01_25, hkb01_25, hkb01_25, hkb01_25, hkb01_25, hkb01_25, hkb01_25]
def kbn_315 : List ai_Nd := [(15, (hkb01_722, [hkb01_8, hkb01_16, hkb01_162, hkb01_138, hkb01_694, hkb01_724], [], hkb01_726), [.inl 5], [.inl 99984, .inl 1, .inr (true, .ofNat 2, 11), .inl 100000])]
set_option maxRecDepth 1000000 in
theorem kbk_315 : ai_ck [kb_251] [] kb_315 [.inl 100000, .inl 0, .inl 0, .inl 0] kbn_315 36 = true := by decide +kernel
theorem kbh_315 : ai_holds kb_315 := ai_thm kbk_315 (ai_cons kbh_251 ai_nil)
def hkb01_727 : ai_C := .inr (.inr (2, [hkb01_7, hkb01_527, hkb01_528, hkb01_529, hkb01_530, hkb01_157, hkb01_625]))
/-- NeverAgain$Planner.takeRow -/
def kb_316 : ai_K := (128, 1, (hkb01_713, [hkb01_8, hkb01_16, hkb01_162, hkb01_157, hkb01_5, hkb01_5], [], hkb01_714), [.inl 2, .inr (8, 6), .inr (8, 7), .inr (8, 8), .inr (8, 9), .inr (8, 10), .inr (8, 11), .inr (8, 12), .inr (8, 13), .inr (21, 5), .inr (21, 6)], [(some hkb01_694, hkb01_713, [(21, hkb01_727), (22, hkb01_77)])])
def hkb01_728 : ai_E := [hkb01_38, hkb01_36, hkb01_37, hkb01_38, hkb01_38, hkb01_38, hkb01_39, hkb01_40, hkb01_2, hkb01_40, hkb01_38, hkb01_247]
def hkb01_729 : ai_N := (.ofNat 0, .ofNat 1, [(11, .ofNat 0, .ofNat 0)])
def hkb01_730 : ai_V := .inl (false, hkb01_729)
def hkb01_731 : Bool × Option ai_C := (true, some hkb01_727)
def hkb01_732 : ai_W := [hkb01_25, hkb01_25, hkb01_25, hkb01_25, hkb01_25, hkb01_25, hkb01_25, hkb01_25, hkb01_219, hkb01_25, hkb01_25, hkb01_25, hkb01_25, hkb01_25, hkb01_25, hkb01_25, hkb01_25, hkb01_25, hkb01_25, hkb01_25, hkb01_25, hkb01_731, hkb01_537, hkb01_25, hkb01_25, hkb01_25, hkb01_25, hkb01_25, hkb01_25, hkb01_25, hkb01_25, hkb01_25, hkb01_25, hkb01_25, hkb01_25, hkb01_25, hkb01_25, hkb01_25, hkb01_25, hkb01_25, hkb01_25, hkb01_25, hkb01_25, hkb01_25, hkb01_25, hkb01_25, hkb01_25, hkb01_25, hkb01_25, hkb01_25, hkb01_25, hkb01_25, hkb01_25, hkb01_25, hkb01_25, hkb01_25, hkb01_25, hkb01_25, hkb01_25, hkb01_25, hkb01_25, hkb01_25, hkb01_25, hkb01_25, hkb01_25, hkb01_25, hkb01_25, hkb01_25, hkb01_25, hkb01_25, hkb01_25, hkb01_25, hkb01_25, hkb01_25, hkb01_25, hkb01_25]
def kbn_316 : List ai_Nd := [(15, (hkb01_728, [hkb01_8, hkb01_16, hkb01_162, hkb01_157, hkb01_694, hkb01_730], [], hkb01_732), [.inl 5], [.inl 99984, .inl 1, .inr (true, .ofNat 1, 11), .inl 100000])]
set_option maxRecDepth 1000000 in
theorem kbk_316 : ai_ck [kb_251] [] kb_316 [.inl 100000, .inl 0, .inl 0, .inl 0] kbn_316 36 = true := by decide +kernel
theorem kbh_316 : ai_holds kb_316 := ai_thm kbk_316 (ai_cons kbh_251 ai_nil)
def hkb01_733 : ai_E := [hkb01_38, hkb01_38, hkb01_0, hkb01_1, hkb01_2, hkb01_36, hkb01_37, hkb01_38, hkb01_38, hkb01_38, hkb01_39, hkb01_40, hkb01_2, hkb01_307, hkb01_40, hkb01_38]
def hkb01_734 : ai_N := (.ofNat 0, .ofNat 128, [(13, .ofNat 0, .ofNat 0)])
def hkb01_735 : ai_V := .inl (false, hkb01_734)
def hkb01_736 : ai_C := .inr (.inr (0, [hkb01_309, hkb01_310, hkb01_295, hkb01_5, hkb01_735]))
def hkb01_737 : Bool × Option ai_C := (false, some hkb01_736)
def hkb01_738 : ai_N := (.ofNat 0, .ofNat 5, [(14, .ofNat 0, .ofNat 0)])
def hkb01_739 : ai_V := .inl (false, hkb01_738)
def hkb01_740 : ai_N := (.negSucc 2147483647, .ofNat 2147483647, [(15, .ofNat 0, .ofNat 0)])
def hkb01_741 : ai_V := .inl (false, hkb01_740)
def hkb01_742 : ai_C := .inr (.inr (2, [hkb01_7, hkb01_527, hkb01_528, hkb01_529, hkb01_530, hkb01_739, hkb01_741]))
def hkb01_743 : Bool × Option ai_C := (false, some hkb01_742)
def hkb01_744 : ai_W := [hkb01_268, hkb01_25, hkb01_25, hkb01_25, hkb01_25, hkb01_25, hkb01_25, hkb01_25, hkb01_282, hkb01_25, hkb01_74, hkb01_76, hkb01_25, hkb01_25, hkb01_25, hkb01_25, hkb01_25, hkb01_737, hkb01_317, hkb01_319, hkb01_298, hkb01_743, hkb01_78, hkb01_565, hkb01_554, hkb01_554, hkb01_25, hkb01_25, hkb01_25, hkb01_25, hkb01_25, hkb01_25, hkb01_25, hkb01_25, hkb01_25, hkb01_25, hkb01_25, hkb01_25, hkb01_25, hkb01_25, hkb01_25, hkb01_25, hkb01_25, hkb01_25, hkb01_25, hkb01_25, hkb01_25, hkb01_25, hkb01_25, hkb01_25, hkb01_25, hkb01_25, hkb01_25, hkb01_25, hkb01_25, hkb01_25, hkb01_25, hkb01_25, hkb01_25, hkb01_25, hkb01_25, hkb01_25, hkb01_25, hkb01_25, hkb01_25, hkb01_25, hkb01_25, hkb01_25, hkb01_25, hkb01_25, hkb01_25, hkb01_25, hkb01_25, hkb01_25, hkb01_25, hkb01_25]
def hkb01_745 : ai_N := (.negSucc 3, .ofNat 2147483647, [])
def hkb01_746 : ai_V := .inl (false, hkb01_745)
def hkb01_747 : Int × Int := (.ofNat 1, .ofNat 3)
def hkb01_748 : ai_E := [hkb01_747, hkb01_247, hkb01_0, hkb01_1, hkb01_2, hkb01_36, hkb01_37, hkb01_38, hkb01_38, hkb01_38, hkb01_39, hkb01_40, hkb01_2, hkb01_307, hkb01_40, hkb01_38]
/-- NeverAgain.worst -/
def kb_317 : ai_K := (53, 10, (hkb01_733, [hkb01_4, hkb01_162, hkb01_260, hkb01_5, hkb01_5, hkb01_5, hkb01_5, hkb01_5], [], hkb01_744), [.inl 1, .inl 2, .inr (0, 11), .inr (0, 12), .inr (0, 13), .inr (8, 6), .inr (8, 7), .inr (8, 8), .inr (8, 9), .inr (8, 10), .inr (8, 11), .inr (8, 12), .inr (8, 13), .inr (17, 4), .inr (21, 5), .inr (21, 6)], [(some hkb01_194, hkb01_733, []), (some hkb01_746, hkb01_748, [(17, hkb01_362), (18, hkb01_316), (19, hkb01_318), (20, hkb01_297), (21, hkb01_708), (22, hkb01_77), (23, hkb01_564), (24, hkb01_553), (25, hkb01_553)])])
def hkb01_749 : Int × Int := (.ofNat 3, .ofNat 3)
def hkb01_750 : Int × Int := (.ofNat 0, .ofNat 64)
def hkb01_751 : ai_E := [hkb01_749, hkb01_247, hkb01_0, hkb01_1, hkb01_2, hkb01_36, hkb01_37, hkb01_38, hkb01_38, hkb01_38, hkb01_39, hkb01_40, hkb01_2, hkb01_307, hkb01_40, hkb01_38, hkb01_750]
def hkb01_752 : ai_N := (.ofNat 3, .ofNat 3, [(0, .ofNat 0, .ofNat 0)])
def hkb01_753 : ai_V := .inl (false, hkb01_752)
def hkb01_754 : ai_N := (.ofNat 0, .ofNat 1, [(1, .ofNat 0, .ofNat 0)])
def hkb01_755 : ai_V := .inl (false, hkb01_754)
def hkb01_756 : ai_N := (.ofNat 64, .ofNat 64, [])
def hkb01_757 : ai_V := .inl (false, hkb01_756)
def hkb01_758 : ai_N := (.negSucc 3, .ofNat 64, [])
def hkb01_759 : ai_V := .inl (false, hkb01_758)
def hkb01_760 : ai_N := (.ofNat 0, .ofNat 64, [(16, .ofNat 0, .ofNat 0)])
def hkb01_761 : ai_V := .inl (false, hkb01_760)
def hkb01_762 : Bool × Option ai_C := (true, some hkb01_708)
def hkb01_763 : ai_W := [hkb01_268, hkb01_25, hkb01_25, hkb01_25, hkb01_25, hkb01_25, hkb01_25, hkb01_25, hkb01_282, hkb01_25, hkb01_74, hkb01_76, hkb01_25, hkb01_25, hkb01_25, hkb01_25, hkb01_25, hkb01_364, hkb01_365, hkb01_366, hkb01_305, hkb01_762, hkb01_537, hkb01_653, hkb01_581, hkb01_581, hkb01_25, hkb01_25, hkb01_25, hkb01_25, hkb01_25, hkb01_25, hkb01_25, hkb01_25, hkb01_25, hkb01_25, hkb01_25, hkb01_25, hkb01_25, hkb01_25, hkb01_25, hkb01_25, hkb01_25, hkb01_25, hkb01_25, hkb01_25, hkb01_25, hkb01_25, hkb01_25, hkb01_25, hkb01_25, hkb01_25, hkb01_25, hkb01_25, hkb01_25, hkb01_25, hkb01_25, hkb01_25, hkb01_25, hkb01_25, hkb01_25, hkb01_25, hkb01_25, hkb01_25, hkb01_25, hkb01_25, hkb01_25, hkb01_25, hkb01_25, hkb01_25, hkb01_25, hkb01_25, hkb01_25, hkb01_25, hkb01_25, hkb01_25]
def hkb01_764 : ai_E := [hkb01_427, hkb01_247, hkb01_0, hkb01_1, hkb01_2, hkb01_36, hkb01_37, hkb01_38, hkb01_38, hkb01_38, hkb01_39, hkb01_40, hkb01_2, hkb01_307, hkb01_40, hkb01_38, hkb01_324]
def hkb01_765 : ai_N := (.ofNat 2, .ofNat 2, [(0, .ofNat 0, .ofNat 0)])
def hkb01_766 : ai_V := .inl (false, hkb01_765)
def hkb01_767 : ai_N := (.ofNat 16, .ofNat 16, [])
def hkb01_768 : ai_V := .inl (false, hkb01_767)
def hkb01_769 : ai_N := (.negSucc 3, .ofNat 16, [])
def hkb01_770 : ai_V := .inl (false, hkb01_769)
def hkb01_771 : ai_N := (.ofNat 0, .ofNat 16, [(16, .ofNat 0, .ofNat 0)])
def hkb01_772 : ai_V := .inl (false, hkb01_771)
def hkb01_773 : ai_E := [hkb01_381, hkb01_247, hkb01_0, hkb01_1, hkb01_2, hkb01_36, hkb01_37, hkb01_38, hkb01_38, hkb01_38, hkb01_39, hkb01_40, hkb01_2, hkb01_307, hkb01_40, hkb01_38, hkb01_2]
def hkb01_774 : ai_N := (.ofNat 1, .ofNat 1, [(0, .ofNat 0, .ofNat 0)])
def hkb01_775 : ai_V := .inl (false, hkb01_774)
def hkb01_776 : ai_N := (.negSucc 3, .ofNat 3, [])
def hkb01_777 : ai_V := .inl (false, hkb01_776)
def hkb01_778 : ai_N := (.ofNat 0, .ofNat 4, [(16, .ofNat 0, .ofNat 0)])
def hkb01_779 : ai_V := .inl (false, hkb01_778)
def kbn_317 : List ai_Nd := [(50, (hkb01_751, [hkb01_4, hkb01_753, hkb01_755, hkb01_757, hkb01_746, hkb01_759, hkb01_761, hkb01_5], [], hkb01_763), [.inl 6], [.inl 99949, .inl 1, .inr (true, .ofNat 64, 16), .inl 100000]), (50, (hkb01_764, [hkb01_4, hkb01_766, hkb01_755, hkb01_768, hkb01_746, hkb01_770, hkb01_772, hkb01_5], [], hkb01_763), [.inl 6], [.inl 99949, .inl 1, .inr (true, .ofNat 64, 16), .inl 100000]), (50, (hkb01_773, [hkb01_4, hkb01_775, hkb01_755, hkb01_559, hkb01_746, hkb01_777, hkb01_779, hkb01_5], [], hkb01_763), [.inl 6], [.inl 99949, .inl 1, .inr (true, .ofNat 64, 16), .inl 100000])]
set_option maxRecDepth 1000000 in
theorem kbk_317 : ai_ck [kb_263, kb_311, kb_314, kb_315, kb_316] [(0, .inl 1, [.ofNat 1, .ofNat 2, .ofNat 3, .ofNat 4])] kb_317 [.inl 100000, .inl 0, .inl 0, .inl 0] kbn_317 31 = true := by decide +kernel
theorem kbh_317 : ai_holds kb_317 := ai_thm kbk_317 (ai_cons kbh_263 (ai_cons kbh_311 (ai_cons kbh_314 (ai_cons kbh_315 (ai_cons kbh_316 ai_nil)))))
def hkb01_780 : ai_E := [hkb01_36, hkb01_37, hkb01_38, hkb01_38, hkb01_38, hkb01_39, hkb01_40, hkb01_2]
def hkb01_781 : ai_W := [hkb01_25, hkb01_25, hkb01_25, hkb01_25, hkb01_25, hkb01_25, hkb01_25, hkb01_25, hkb01_354, hkb01_72, hkb01_25, hkb01_25, hkb01_25, hkb01_25, hkb01_25, hkb01_25, hkb01_25, hkb01_25, hkb01_25, hkb01_25, hkb01_25, hkb01_25, hkb01_25, hkb01_25, hkb01_25, hkb01_25, hkb01_25, hkb01_25, hkb01_25, hkb01_25, hkb01_25, hkb01_25, hkb01_25, hkb01_25, hkb01_25, hkb01_25, hkb01_25, hkb01_25, hkb01_25, hkb01_25, hkb01_25, hkb01_25, hkb01_25, hkb01_25, hkb01_25, hkb01_25, hkb01_25, hkb01_25, hkb01_25, hkb01_25, hkb01_25, hkb01_25, hkb01_25, hkb01_25, hkb01_25, hkb01_25, hkb01_25, hkb01_25, hkb01_25, hkb01_25, hkb01_25, hkb01_25, hkb01_25, hkb01_25, hkb01_25, hkb01_25, hkb01_25, hkb01_25, hkb01_25, hkb01_25, hkb01_25, hkb01_25, hkb01_25, hkb01_25, hkb01_25, hkb01_25]
def hkb01_782 : ai_N := (.negSucc 9223372036854775807, .ofNat 9223372036854775807, [])
def hkb01_783 : ai_V := .inl (true, hkb01_782)
/-- NeverAgain$Planner.weightOfRows -/
def kb_318 : ai_K := (130, 0, (hkb01_780, [hkb01_8, hkb01_16, hkb01_559, hkb01_5, hkb01_5, hkb01_5, hkb01_5, hkb01_5], [], hkb01_781), [.inr (8, 6), .inr (8, 7), .inr (8, 8), .inr (8, 9), .inr (8, 10), .inr (8, 11), .inr (8, 12), .inr (8, 13)], [(some hkb01_783, hkb01_780, [])])
def hkb01_784 : ai_E := [hkb01_36, hkb01_37, hkb01_38, hkb01_38, hkb01_38, hkb01_39, hkb01_40, hkb01_2, hkb01_2]
def kbn_318 : List ai_Nd := [(5, (hkb01_784, [hkb01_8, hkb01_16, hkb01_559, hkb01_783, hkb01_5, hkb01_217, hkb01_5, hkb01_5], [], hkb01_781), [.inl 5], [.inl 99994, .inl 1, .inr (true, .ofNat 4, 8), .inl 100000]), (43, (hkb01_784, [hkb01_8, hkb01_16, hkb01_559, hkb01_783, hkb01_5, hkb01_783, hkb01_5, hkb01_217], [], hkb01_781), [.inl 7], [.inl 99956, .inl 1, .inr (true, .ofNat 4, 8), .inl 100000])]
set_option maxRecDepth 1000000 in
theorem kbk_318 : ai_ck [] [] kb_318 [.inl 100000, .inl 0, .inl 0, .inl 0] kbn_318 19 = true := by decide +kernel
theorem kbh_318 : ai_holds kb_318 := ai_thm kbk_318 ai_nil
/-- NeverAgain$Planner.weightOfRows -/
def kb_319 : ai_K := (130, 0, (hkb01_780, [hkb01_8, hkb01_16, hkb01_131, hkb01_5, hkb01_5, hkb01_5, hkb01_5, hkb01_5], [], hkb01_781), [.inr (8, 6), .inr (8, 7), .inr (8, 8), .inr (8, 9), .inr (8, 10), .inr (8, 11), .inr (8, 12), .inr (8, 13)], [(some hkb01_783, hkb01_780, [])])
def hkb01_785 : ai_E := [hkb01_36, hkb01_37, hkb01_38, hkb01_38, hkb01_38, hkb01_39, hkb01_40, hkb01_2, hkb01_42]
def hkb01_786 : ai_N := (.ofNat 0, .ofNat 3, [(8, .ofNat 0, .ofNat 0)])
def hkb01_787 : ai_V := .inl (false, hkb01_786)
def kbn_319 : List ai_Nd := [(5, (hkb01_784, [hkb01_8, hkb01_16, hkb01_131, hkb01_783, hkb01_5, hkb01_217, hkb01_5, hkb01_5], [], hkb01_781), [.inl 5], [.inl 99994, .inl 1, .inr (true, .ofNat 4, 8), .inl 100000]), (43, (hkb01_785, [hkb01_8, hkb01_16, hkb01_131, hkb01_783, hkb01_5, hkb01_783, hkb01_5, hkb01_787], [], hkb01_781), [.inl 7], [.inl 99956, .inl 1, .inr (true, .ofNat 3, 8), .inl 100000])]
set_option maxRecDepth 1000000 in
theorem kbk_319 : ai_ck [] [] kb_319 [.inl 100000, .inl 0, .inl 0, .inl 0] kbn_319 19 = true := by decide +kernel
theorem kbh_319 : ai_holds kb_319 := ai_thm kbk_319 ai_nil
/-- NeverAgain$Planner.weightOfRows -/
def kb_323 : ai_K := (130, 0, (hkb01_780, [hkb01_8, hkb01_16, hkb01_138, hkb01_5, hkb01_5, hkb01_5, hkb01_5, hkb01_5], [], hkb01_781), [.inr (8, 6), .inr (8, 7), .inr (8, 8), .inr (8, 9), .inr (8, 10), .inr (8, 11), .inr (8, 12), .inr (8, 13)], [(some hkb01_783, hkb01_780, [])])
def hkb01_788 : ai_E := [hkb01_36, hkb01_37, hkb01_38, hkb01_38, hkb01_38, hkb01_39, hkb01_40, hkb01_2, hkb01_30]
def hkb01_789 : ai_N := (.ofNat 0, .ofNat 2, [(8, .ofNat 0, .ofNat 0)])
def hkb01_790 : ai_V := .inl (false, hkb01_789)
def kbn_323 : List ai_Nd := [(5, (hkb01_784, [hkb01_8, hkb01_16, hkb01_138, hkb01_783, hkb01_5, hkb01_217, hkb01_5, hkb01_5], [], hkb01_781), [.inl 5], [.inl 99994, .inl 1, .inr (true, .ofNat 4, 8), .inl 100000]), (43, (hkb01_788, [hkb01_8, hkb01_16, hkb01_138, hkb01_783, hkb01_5, hkb01_783, hkb01_5, hkb01_790], [], hkb01_781), [.inl 7], [.inl 99956, .inl 1, .inr (true, .ofNat 2, 8), .inl 100000])]
set_option maxRecDepth 1000000 in
theorem kbk_323 : ai_ck [] [] kb_323 [.inl 100000, .inl 0, .inl 0, .inl 0] kbn_323 19 = true := by decide +kernel
theorem kbh_323 : ai_holds kb_323 := ai_thm kbk_323 ai_nil
/-- NeverAgain$Planner.weightOfRows -/
def kb_324 : ai_K := (130, 0, (hkb01_780, [hkb01_8, hkb01_16, hkb01_157, hkb01_5, hkb01_5, hkb01_5, hkb01_5, hkb01_5], [], hkb01_781), [.inr (8, 6), .inr (8, 7), .inr (8, 8), .inr (8, 9), .inr (8, 10), .inr (8, 11), .inr (8, 12), .inr (8, 13)], [(some hkb01_783, hkb01_780, [])])
def hkb01_791 : ai_E := [hkb01_36, hkb01_37, hkb01_38, hkb01_38, hkb01_38, hkb01_39, hkb01_40, hkb01_2, hkb01_247]
def hkb01_792 : ai_N := (.ofNat 0, .ofNat 1, [(8, .ofNat 0, .ofNat 0)])
def hkb01_793 : ai_V := .inl (false, hkb01_792)
def kbn_324 : List ai_Nd := [(5, (hkb01_784, [hkb01_8, hkb01_16, hkb01_157, hkb01_783, hkb01_5, hkb01_217, hkb01_5, hkb01_5], [], hkb01_781), [.inl 5], [.inl 99994, .inl 1, .inr (true, .ofNat 4, 8), .inl 100000]), (43, (hkb01_791, [hkb01_8, hkb01_16, hkb01_157, hkb01_783, hkb01_5, hkb01_783, hkb01_5, hkb01_793], [], hkb01_781), [.inl 7], [.inl 99956, .inl 1, .inr (true, .ofNat 1, 8), .inl 100000])]
set_option maxRecDepth 1000000 in
theorem kbk_324 : ai_ck [] [] kb_324 [.inl 100000, .inl 0, .inl 0, .inl 0] kbn_324 19 = true := by decide +kernel
theorem kbh_324 : ai_holds kb_324 := ai_thm kbk_324 ai_nil

/-! CONTRACTS found by wip/ai/an.py, each held by the kernel. -/
def hka07_0 : Int × Int := (.negSucc 2147483647, .ofNat 2147483647)
def hka07_1 : Int × Int := (.ofNat 4, .ofNat 16)
def hka07_2 : Int × Int := (.ofNat 1, .ofNat 4)
def hka07_3 : Int × Int := (.ofNat 0, .ofNat 12)
def hka07_4 : Int × Int := (.ofNat 0, .ofNat 16)
def hka07_5 : Int × Int := (.ofNat 0, .ofNat 4)
def hka07_6 : Int × Int := (.negSucc 3, .ofNat 3)
def hka07_7 : Int × Int := (.ofNat 0, .ofNat 400)
def hka07_8 : Int × Int := (.ofNat 0, .ofNat 3)
def hka07_9 : Int × Int := (.ofNat 0, .ofNat 6)
def hka07_10 : Int × Int := (.ofNat 0, .ofNat 130)
def hka07_11 : Int × Int := (.ofNat 0, .ofNat 60)
def hka07_12 : Int × Int := (.ofNat 0, .ofNat 20)
def hka07_13 : Int × Int := (.ofNat 0, .ofNat 1)
def hka07_14 : Int × Int := (.negSucc 3, .ofNat 2)
def hka07_15 : Int × Int := (.ofNat 0, .ofNat 5)
def hka07_16 : ai_E := [hka07_0, hka07_0, hka07_1, hka07_2, hka07_3, hka07_4, hka07_5, hka07_0, hka07_4, hka07_6, hka07_7, hka07_7, hka07_7, hka07_8, hka07_0, hka07_9, hka07_7, hka07_10, hka07_0, hka07_5, hka07_11, hka07_12, hka07_13, hka07_14, hka07_15, hka07_5, hka07_11, hka07_12, hka07_13, hka07_14, hka07_15, hka07_5, hka07_11, hka07_12, hka07_13, hka07_14, hka07_15, hka07_5]
def hka07_17 : ai_V := .inr (some (.ref 59))
def hka07_18 : ai_N := (.negSucc 2147483647, .ofNat 2147483647, [(0, .ofNat 0, .ofNat 0)])
def hka07_19 : ai_V := .inl (false, hka07_18)
def hka07_20 : ai_N := (.negSucc 2147483647, .ofNat 2147483647, [(1, .ofNat 0, .ofNat 0)])
def hka07_21 : ai_V := .inl (false, hka07_20)
def hka07_22 : Bool × Option ai_C := (false, none)
def hka07_23 : ai_V := .inr (some (.ref 60))
def hka07_24 : ai_V := .inr (some (.ref 61))
def hka07_25 : ai_N := (.ofNat 4, .ofNat 16, [(2, .ofNat 0, .ofNat 0)])
def hka07_26 : ai_V := .inl (false, hka07_25)
def hka07_27 : ai_N := (.ofNat 1, .ofNat 4, [(3, .ofNat 0, .ofNat 0)])
def hka07_28 : ai_V := .inl (false, hka07_27)
def hka07_29 : ai_V := .inr (some (.ref 62))
def hka07_30 : ai_V := .inr (some (.ref 63))
def hka07_31 : ai_N := (.ofNat 0, .ofNat 12, [(4, .ofNat 0, .ofNat 0)])
def hka07_32 : ai_V := .inl (false, hka07_31)
def hka07_33 : ai_V := .inr (some (.ref 64))
def hka07_34 : ai_N := (.ofNat 0, .ofNat 16, [(5, .ofNat 0, .ofNat 0)])
def hka07_35 : ai_V := .inl (false, hka07_34)
def hka07_36 : ai_N := (.ofNat 0, .ofNat 4, [(6, .ofNat 0, .ofNat 0)])
def hka07_37 : ai_V := .inl (false, hka07_36)
def hka07_38 : ai_V := .inr (some (.ref 65))
def hka07_39 : ai_N := (.negSucc 2147483647, .ofNat 2147483647, [(7, .ofNat 0, .ofNat 0)])
def hka07_40 : ai_V := .inl (false, hka07_39)
def hka07_41 : ai_N := (.ofNat 0, .ofNat 16, [(8, .ofNat 0, .ofNat 0)])
def hka07_42 : ai_V := .inl (false, hka07_41)
def hka07_43 : ai_N := (.negSucc 3, .ofNat 3, [(9, .ofNat 0, .ofNat 0)])
def hka07_44 : ai_V := .inl (false, hka07_43)
def hka07_45 : ai_V := .inr (some (.ref 66))
def hka07_46 : ai_N := (.ofNat 0, .ofNat 400, [(10, .ofNat 0, .ofNat 0)])
def hka07_47 : ai_V := .inl (false, hka07_46)
def hka07_48 : ai_N := (.ofNat 0, .ofNat 400, [(11, .ofNat 0, .ofNat 0)])
def hka07_49 : ai_V := .inl (false, hka07_48)
def hka07_50 : ai_N := (.ofNat 0, .ofNat 400, [(12, .ofNat 0, .ofNat 0)])
def hka07_51 : ai_V := .inl (false, hka07_50)
def hka07_52 : ai_N := (.ofNat 0, .ofNat 3, [(13, .ofNat 0, .ofNat 0)])
def hka07_53 : ai_V := .inl (false, hka07_52)
def hka07_54 : ai_N := (.negSucc 2147483647, .ofNat 2147483647, [(14, .ofNat 0, .ofNat 0)])
def hka07_55 : ai_V := .inl (false, hka07_54)
def hka07_56 : ai_N := (.ofNat 0, .ofNat 6, [(15, .ofNat 0, .ofNat 0)])
def hka07_57 : ai_V := .inl (false, hka07_56)
def hka07_58 : ai_N := (.ofNat 0, .ofNat 400, [(16, .ofNat 0, .ofNat 0)])
def hka07_59 : ai_V := .inl (false, hka07_58)
def hka07_60 : ai_V := .inr (some (.ref 67))
def hka07_61 : ai_N := (.ofNat 0, .ofNat 130, [(17, .ofNat 0, .ofNat 0)])
def hka07_62 : ai_V := .inl (false, hka07_61)
def hka07_63 : ai_V := .inr (some (.ref 68))
def hka07_64 : ai_V := .inr (some (.ref 69))
def hka07_65 : ai_N := (.negSucc 2147483647, .ofNat 2147483647, [(18, .ofNat 0, .ofNat 0)])
def hka07_66 : ai_V := .inl (false, hka07_65)
def hka07_67 : ai_V := .inr (some (.ref 70))
def hka07_68 : ai_V := .inr (some (.ref 71))
def hka07_69 : ai_V := .inr (some (.ref 72))
def hka07_70 : ai_V := .inr (some (.ref 73))
def hka07_71 : ai_V := .inr (some (.ref 74))
def hka07_72 : ai_V := .inr (some (.ref 75))
def hka07_73 : ai_N := (.ofNat 0, .ofNat 4, [(19, .ofNat 0, .ofNat 0)])
def hka07_74 : ai_V := .inl (false, hka07_73)
def hka07_75 : ai_C := .inr (.inr (8, [hka07_23, hka07_24, hka07_26, hka07_28, hka07_29, hka07_30, hka07_32, hka07_33, hka07_35, hka07_37, hka07_38, hka07_40, hka07_42, hka07_44, hka07_45, hka07_47, hka07_49, hka07_51, hka07_53, hka07_55, hka07_57, hka07_59, hka07_60, hka07_62, hka07_63, hka07_64, hka07_66, hka07_67, hka07_68, hka07_69, hka07_70, hka07_71, hka07_72, hka07_74]))
def hka07_76 : Bool × Option ai_C := (false, some hka07_75)
def hka07_77 : ai_N := (.ofNat 0, .ofNat 60, [(20, .ofNat 0, .ofNat 0)])
def hka07_78 : ai_N := (.ofNat 0, .ofNat 16, [])
def hka07_79 : ai_N := (.negSucc 3, .ofNat 3, [])
def hka07_80 : ai_N := (.ofNat 0, .ofNat 20, [(21, .ofNat 0, .ofNat 0)])
def hka07_81 : ai_N := (.ofNat 0, .ofNat 1, [(22, .ofNat 0, .ofNat 0)])
def hka07_82 : ai_N := (.negSucc 3, .ofNat 2, [(23, .ofNat 0, .ofNat 0)])
def hka07_83 : ai_N := (.ofNat 0, .ofNat 5, [(24, .ofNat 0, .ofNat 0)])
def hka07_84 : ai_N := (.ofNat 0, .ofNat 3, [])
def hka07_85 : ai_N := (.ofNat 0, .ofNat 4, [(25, .ofNat 0, .ofNat 0)])
def hka07_86 : ai_N := (.ofNat 0, .ofNat 4, [])
def hka07_87 : ai_N := (.ofNat 0, .ofNat 60, [(26, .ofNat 0, .ofNat 0)])
def hka07_88 : ai_N := (.ofNat 0, .ofNat 20, [(27, .ofNat 0, .ofNat 0)])
def hka07_89 : ai_N := (.ofNat 0, .ofNat 1, [(28, .ofNat 0, .ofNat 0)])
def hka07_90 : ai_N := (.negSucc 3, .ofNat 2, [(29, .ofNat 0, .ofNat 0)])
def hka07_91 : ai_N := (.ofNat 0, .ofNat 5, [(30, .ofNat 0, .ofNat 0)])
def hka07_92 : ai_N := (.ofNat 0, .ofNat 4, [(31, .ofNat 0, .ofNat 0)])
def hka07_93 : ai_N := (.ofNat 0, .ofNat 60, [(32, .ofNat 0, .ofNat 0)])
def hka07_94 : ai_N := (.ofNat 0, .ofNat 20, [(33, .ofNat 0, .ofNat 0)])
def hka07_95 : ai_N := (.ofNat 0, .ofNat 1, [(34, .ofNat 0, .ofNat 0)])
def hka07_96 : ai_N := (.negSucc 3, .ofNat 2, [(35, .ofNat 0, .ofNat 0)])
def hka07_97 : ai_N := (.ofNat 0, .ofNat 5, [(36, .ofNat 0, .ofNat 0)])
def hka07_98 : ai_N := (.ofNat 0, .ofNat 4, [(37, .ofNat 0, .ofNat 0)])
def hka07_99 : ai_C := .inl (.int, [(1, hka07_77), (60, hka07_78), (17, hka07_79), (1, hka07_80), (1, hka07_81), (1, hka07_82), (1, hka07_83), (5, hka07_84), (1, hka07_85), (8, hka07_86), (1, hka07_87), (60, hka07_78), (17, hka07_79), (1, hka07_88), (1, hka07_89), (1, hka07_90), (1, hka07_91), (5, hka07_84), (1, hka07_92), (8, hka07_86), (1, hka07_93), (60, hka07_78), (17, hka07_79), (1, hka07_94), (1, hka07_95), (1, hka07_96), (1, hka07_97), (5, hka07_84), (1, hka07_98), (8, hka07_86)])
def hka07_100 : Bool × Option ai_C := (false, some hka07_99)
def hka07_101 : ai_N := (.negSucc 3, .ofNat 16, [])
def hka07_102 : ai_C := .inl (.int, [(130, hka07_101)])
def hka07_103 : Bool × Option ai_C := (false, some hka07_102)
def hka07_104 : ai_W := [hka07_22, hka07_22, hka07_22, hka07_22, hka07_22, hka07_22, hka07_22, hka07_22, hka07_22, hka07_22, hka07_22, hka07_22, hka07_22, hka07_22, hka07_22, hka07_22, hka07_22, hka07_22, hka07_22, hka07_22, hka07_22, hka07_22, hka07_22, hka07_22, hka07_22, hka07_22, hka07_22, hka07_22, hka07_22, hka07_22, hka07_22, hka07_22, hka07_22, hka07_22, hka07_22, hka07_22, hka07_22, hka07_22, hka07_22, hka07_22, hka07_22, hka07_22, hka07_22, hka07_22, hka07_22, hka07_22, hka07_22, hka07_22, hka07_22, hka07_22, hka07_22, hka07_22, hka07_22, hka07_22, hka07_22, hka07_22, hka07_22, hka07_22, hka07_22, hka07_76, hka07_100, hka07_22, hka07_22, hka07_22, hka07_22, hka07_22, hka07_22, hka07_103, hka07_22, hka07_22, hka07_22, hka07_22, hka07_22, hka07_22, hka07_22, hka07_22]
def hka07_105 : ai_N := (.negSucc 0, .negSucc 0, [])
def hka07_106 : ai_V := .inl (false, hka07_105)
def hka07_107 : ai_V := .inl (false, hka07_79)
def hka07_108 : Int × Int := (.ofNat 0, .ofNat 10)
def hka07_109 : Int × Int := (.ofNat 1, .ofNat 16)
def hka07_110 : ai_E := [hka07_108, hka07_109, hka07_1, hka07_2, hka07_3, hka07_4, hka07_5, hka07_0, hka07_4, hka07_6, hka07_7, hka07_7, hka07_7, hka07_8, hka07_0, hka07_9, hka07_7, hka07_10, hka07_0, hka07_5, hka07_11, hka07_12, hka07_13, hka07_14, hka07_15, hka07_5, hka07_11, hka07_12, hka07_13, hka07_14, hka07_15, hka07_5, hka07_11, hka07_12, hka07_13, hka07_14, hka07_15, hka07_5]
def hka07_111 : ai_V := .inl (false, hka07_77)
def hka07_112 : ai_C := .inr (.inr (8, [hka07_23, hka07_24, hka07_26, hka07_28, hka07_29, hka07_30, hka07_32, hka07_33, hka07_35, hka07_37, hka07_38, hka07_40, hka07_42, hka07_44, hka07_45, hka07_47, hka07_49, hka07_51, hka07_53, hka07_55, hka07_57, hka07_59, hka07_60, hka07_111, hka07_63, hka07_64, hka07_66, hka07_67, hka07_68, hka07_69, hka07_70, hka07_71, hka07_72, hka07_74]))
def hka07_113 : ai_N := (.negSucc 3, .negSucc 3, [])
def hka07_114 : ai_V := .inl (false, hka07_113)
def hka07_115 : Int × Int := (.negSucc 3, .ofNat 1)
def hka07_116 : ai_E := [hka07_108, hka07_109, hka07_1, hka07_2, hka07_3, hka07_4, hka07_5, hka07_0, hka07_4, hka07_6, hka07_7, hka07_7, hka07_7, hka07_8, hka07_0, hka07_9, hka07_7, hka07_10, hka07_0, hka07_5, hka07_11, hka07_12, hka07_13, hka07_115, hka07_15, hka07_5, hka07_11, hka07_12, hka07_13, hka07_14, hka07_15, hka07_5, hka07_11, hka07_12, hka07_13, hka07_14, hka07_15, hka07_5]
/-- NeverAgainModel.reads -/
def ka_521 : ai_K := (58, 2, (hka07_16, [hka07_17, hka07_19, hka07_21], [], hka07_104), [.inl 1, .inl 2, .inr (59, 2), .inr (59, 3), .inr (59, 6), .inr (59, 8), .inr (59, 9), .inr (59, 11), .inr (59, 12), .inr (59, 13), .inr (59, 15), .inr (59, 16), .inr (59, 17), .inr (59, 18), .inr (59, 19), .inr (59, 20), .inr (59, 21), .inr (59, 23), .inr (59, 26), .inr (59, 33), .inr (60, 0), .inr (60, 78), .inr (60, 79), .inr (60, 80), .inr (60, 81), .inr (60, 87), .inr (60, 96), .inr (60, 174), .inr (60, 175), .inr (60, 176), .inr (60, 177), .inr (60, 183), .inr (60, 192), .inr (60, 270), .inr (60, 271), .inr (60, 272), .inr (60, 273), .inr (60, 279)], [(some hka07_106, hka07_16, []), (some hka07_107, hka07_110, [(59, hka07_112), (67, hka07_102)]), (some hka07_114, hka07_116, [(59, hka07_112), (67, hka07_102)])])
def kan_521 : List ai_Nd := []
set_option maxRecDepth 1000000 in
theorem kak_521 : ai_ck [ka_358, ka_517, ka_518, ka_520, ka_519, ka_389] [] ka_521 [.inl 100000] kan_521 18 = true := by decide +kernel
theorem kah_521 : ai_holds ka_521 := ai_thm kak_521 (ai_cons kah_358 (ai_cons kah_517 (ai_cons kah_518 (ai_cons kah_520 (ai_cons kah_519 (ai_cons kah_389 ai_nil))))))
def hka07_117 : Int × Int := (.ofNat 0, .ofNat 128)
def hka07_118 : ai_E := [hka07_0, hka07_3, hka07_9, hka07_5, hka07_1, hka07_2, hka07_0, hka07_0, hka07_0, hka07_11, hka07_15, hka07_5, hka07_117]
def hka07_119 : ai_V := .inr (some (.ref 0))
def hka07_120 : ai_V := .inr none
def hka07_121 : ai_V := .inr (some (.ref 15))
def hka07_122 : ai_V := .inr (some (.ref 17))
def hka07_123 : ai_V := .inr (some (.ref 21))
def hka07_124 : ai_V := .inr (some (.ref 26))
def hka07_125 : ai_V := .inr (some (.ref 32))
def hka07_126 : ai_V := .inr (some (.ref 35))
def hka07_127 : ai_V := .inr (some (.ref 34))
def hka07_128 : ai_V := .inr (some (.ref 50))
def hka07_129 : ai_V := .inr (some (.ref 33))
def hka07_130 : ai_V := .inr (some (.ref 1))
def hka07_131 : ai_V := .inr (some (.ref 8))
def hka07_132 : ai_N := (.ofNat 0, .ofNat 12, [(1, .ofNat 0, .ofNat 0)])
def hka07_133 : ai_V := .inl (false, hka07_132)
def hka07_134 : ai_N := (.ofNat 0, .ofNat 6, [(2, .ofNat 0, .ofNat 0)])
def hka07_135 : ai_V := .inl (false, hka07_134)
def hka07_136 : ai_N := (.ofNat 0, .ofNat 4, [(3, .ofNat 0, .ofNat 0)])
def hka07_137 : ai_V := .inl (false, hka07_136)
def hka07_138 : ai_C := .inr (.inr (7, [hka07_121, hka07_122, hka07_123, hka07_124, hka07_125, hka07_126, hka07_127, hka07_128, hka07_129, hka07_130, hka07_131, hka07_133, hka07_135, hka07_137]))
def hka07_139 : Bool × Option ai_C := (false, some hka07_138)
def hka07_140 : ai_V := .inr (some (.ref 2))
def hka07_141 : ai_V := .inr (some (.ref 3))
def hka07_142 : ai_V := .inr (some (.ref 4))
def hka07_143 : ai_V := .inr (some (.ref 5))
def hka07_144 : ai_V := .inr (some (.ref 6))
def hka07_145 : ai_V := .inr (some (.ref 7))
def hka07_146 : ai_N := (.ofNat 4, .ofNat 16, [(4, .ofNat 0, .ofNat 0)])
def hka07_147 : ai_V := .inl (false, hka07_146)
def hka07_148 : ai_N := (.ofNat 1, .ofNat 4, [(5, .ofNat 0, .ofNat 0)])
def hka07_149 : ai_V := .inl (false, hka07_148)
def hka07_150 : ai_N := (.negSucc 2147483647, .ofNat 2147483647, [(6, .ofNat 0, .ofNat 0)])
def hka07_151 : ai_V := .inl (false, hka07_150)
def hka07_152 : ai_N := (.negSucc 2147483647, .ofNat 2147483647, [(8, .ofNat 0, .ofNat 0)])
def hka07_153 : ai_V := .inl (false, hka07_152)
def hka07_154 : ai_N := (.ofNat 0, .ofNat 60, [(9, .ofNat 0, .ofNat 0)])
def hka07_155 : ai_V := .inl (false, hka07_154)
def hka07_156 : ai_N := (.ofNat 0, .ofNat 5, [(10, .ofNat 0, .ofNat 0)])
def hka07_157 : ai_V := .inl (false, hka07_156)
def hka07_158 : ai_N := (.ofNat 0, .ofNat 4, [(11, .ofNat 0, .ofNat 0)])
def hka07_159 : ai_V := .inl (false, hka07_158)
def hka07_160 : ai_C := .inr (.inr (6, [hka07_140, hka07_141, hka07_142, hka07_143, hka07_144, hka07_145, hka07_147, hka07_149, hka07_151, hka07_40, hka07_153, hka07_155, hka07_157, hka07_159]))
def hka07_161 : Bool × Option ai_C := (false, some hka07_160)
def hka07_162 : ai_N := (.negSucc 2147483647, .ofNat 2147483647, [])
def hka07_163 : ai_C := .inl (.int, [(17, hka07_162)])
def hka07_164 : Bool × Option ai_C := (false, some hka07_163)
def hka07_165 : ai_C := .inl (.int, [(60, hka07_162)])
def hka07_166 : Bool × Option ai_C := (false, some hka07_165)
def hka07_167 : ai_V := .inr (some (.ref 18))
def hka07_168 : ai_V := .inr (some (.ref 19))
def hka07_169 : ai_V := .inr (some (.ref 20))
def hka07_170 : ai_N := (.ofNat 0, .ofNat 128, [(12, .ofNat 0, .ofNat 0)])
def hka07_171 : ai_V := .inl (false, hka07_170)
def hka07_172 : ai_C := .inr (.inr (0, [hka07_167, hka07_168, hka07_169, hka07_120, hka07_171]))
def hka07_173 : Bool × Option ai_C := (false, some hka07_172)
def hka07_174 : ai_C := .inl (.int, [(128, hka07_78)])
def hka07_175 : Bool × Option ai_C := (false, some hka07_174)
def hka07_176 : ai_N := (.negSucc 0, .ofNat 127, [])
def hka07_177 : ai_C := .inl (.int, [(128, hka07_176)])
def hka07_178 : Bool × Option ai_C := (false, some hka07_177)
def hka07_179 : ai_C := .inl (.int, [(17, hka07_176)])
def hka07_180 : Bool × Option ai_C := (false, some hka07_179)
def hka07_181 : ai_W := [hka07_139, hka07_161, hka07_22, hka07_164, hka07_166, hka07_22, hka07_22, hka07_22, hka07_22, hka07_22, hka07_22, hka07_22, hka07_22, hka07_22, hka07_22, hka07_22, hka07_22, hka07_173, hka07_175, hka07_178, hka07_180, hka07_22, hka07_22, hka07_22, hka07_22, hka07_22, hka07_22, hka07_22, hka07_22, hka07_22, hka07_22, hka07_22, hka07_22, hka07_22, hka07_22, hka07_22, hka07_22, hka07_22, hka07_22, hka07_22, hka07_22, hka07_22, hka07_22, hka07_22, hka07_22, hka07_22, hka07_22, hka07_22, hka07_22, hka07_22, hka07_22, hka07_22, hka07_22, hka07_22, hka07_22, hka07_22, hka07_22, hka07_22, hka07_22, hka07_22, hka07_22, hka07_22, hka07_22, hka07_22, hka07_22, hka07_22, hka07_22, hka07_22, hka07_22, hka07_22, hka07_22, hka07_22, hka07_22, hka07_22, hka07_22, hka07_22]
def hka07_182 : Int × Int := (.ofNat 11, .ofNat 2147483647)
def hka07_183 : ai_E := [hka07_182, hka07_3, hka07_9, hka07_5, hka07_1, hka07_2, hka07_0, hka07_0, hka07_0, hka07_11, hka07_15, hka07_5, hka07_117]
def hka07_184 : Int × Int := (.negSucc 2147483647, .negSucc 0)
def hka07_185 : ai_E := [hka07_184, hka07_3, hka07_9, hka07_5, hka07_1, hka07_2, hka07_0, hka07_0, hka07_0, hka07_11, hka07_15, hka07_5, hka07_117]
def hka07_186 : ai_V := .inl (false, hka07_162)
def hka07_187 : ai_E := [hka07_108, hka07_3, hka07_9, hka07_5, hka07_1, hka07_2, hka07_0, hka07_0, hka07_0, hka07_11, hka07_15, hka07_5, hka07_117]
def hka07_188 : ai_N := (.ofNat 0, .ofNat 128, [])
def hka07_189 : ai_V := .inl (false, hka07_188)
def hka07_190 : ai_C := .inr (.inr (0, [hka07_167, hka07_168, hka07_169, hka07_130, hka07_189]))
/-- NeverAgain.alike -/
def ka_522 : ai_K := (59, 2, (hka07_118, [hka07_119, hka07_19, hka07_120, hka07_120, hka07_120, hka07_120, hka07_120, hka07_120], [], hka07_181), [.inl 1, .inr (0, 11), .inr (0, 12), .inr (0, 13), .inr (1, 6), .inr (1, 7), .inr (1, 8), .inr (1, 9), .inr (1, 10), .inr (1, 11), .inr (1, 12), .inr (1, 13), .inr (17, 4)], [(some hka07_106, hka07_183, []), (some hka07_106, hka07_185, []), (some hka07_186, hka07_187, [(17, hka07_190), (18, hka07_174), (19, hka07_177), (20, hka07_179)])])
def hka07_191 : Int × Int := (.ofNat 1, .ofNat 17)
def hka07_192 : ai_E := [hka07_108, hka07_3, hka07_9, hka07_5, hka07_1, hka07_2, hka07_0, hka07_0, hka07_0, hka07_11, hka07_15, hka07_5, hka07_117, hka07_191]
def hka07_193 : ai_N := (.ofNat 0, .ofNat 10, [(0, .ofNat 0, .ofNat 0)])
def hka07_194 : ai_V := .inl (false, hka07_193)
def hka07_195 : ai_N := (.ofNat 1, .ofNat 17, [(13, .ofNat 0, .ofNat 0)])
def hka07_196 : ai_V := .inl (false, hka07_195)
def hka07_197 : Bool × Option ai_C := (true, some hka07_190)
def hka07_198 : Bool × Option ai_C := (true, some hka07_174)
def hka07_199 : Bool × Option ai_C := (true, some hka07_177)
def hka07_200 : Bool × Option ai_C := (true, some hka07_179)
def hka07_201 : ai_W := [hka07_139, hka07_161, hka07_22, hka07_164, hka07_166, hka07_22, hka07_22, hka07_22, hka07_22, hka07_22, hka07_22, hka07_22, hka07_22, hka07_22, hka07_22, hka07_22, hka07_22, hka07_197, hka07_198, hka07_199, hka07_200, hka07_22, hka07_22, hka07_22, hka07_22, hka07_22, hka07_22, hka07_22, hka07_22, hka07_22, hka07_22, hka07_22, hka07_22, hka07_22, hka07_22, hka07_22, hka07_22, hka07_22, hka07_22, hka07_22, hka07_22, hka07_22, hka07_22, hka07_22, hka07_22, hka07_22, hka07_22, hka07_22, hka07_22, hka07_22, hka07_22, hka07_22, hka07_22, hka07_22, hka07_22, hka07_22, hka07_22, hka07_22, hka07_22, hka07_22, hka07_22, hka07_22, hka07_22, hka07_22, hka07_22, hka07_22, hka07_22, hka07_22, hka07_22, hka07_22, hka07_22, hka07_22, hka07_22, hka07_22, hka07_22, hka07_22]
def kan_522 : List ai_Nd := [(58, (hka07_192, [hka07_119, hka07_194, hka07_186, hka07_186, hka07_186, hka07_196, hka07_120, hka07_120], [], hka07_201), [.inl 5], [.inl 99941, .inl 1, .inr (true, .ofNat 17, 13), .inl 100000])]
set_option maxRecDepth 1000000 in
theorem kak_522 : ai_ck [ka_376, ka_378, ka_515, ka_387] [] ka_522 [.inl 100000, .inl 0, .inl 0, .inl 0] kan_522 42 = true := by decide +kernel
theorem kah_522 : ai_holds ka_522 := ai_thm kak_522 (ai_cons kah_376 (ai_cons kah_378 (ai_cons kah_515 (ai_cons kah_387 ai_nil))))
def hka07_202 : ai_E := [hka07_0, hka07_1, hka07_2, hka07_3, hka07_4, hka07_5, hka07_0, hka07_4, hka07_6, hka07_7, hka07_7, hka07_7, hka07_8, hka07_0, hka07_9, hka07_7, hka07_10, hka07_0, hka07_5, hka07_11, hka07_12, hka07_13, hka07_14, hka07_15, hka07_5, hka07_11, hka07_12, hka07_13, hka07_14, hka07_15, hka07_5, hka07_11, hka07_12, hka07_13, hka07_14, hka07_15, hka07_5]
def hka07_203 : ai_N := (.ofNat 4, .ofNat 16, [(1, .ofNat 0, .ofNat 0)])
def hka07_204 : ai_V := .inl (false, hka07_203)
def hka07_205 : ai_N := (.ofNat 1, .ofNat 4, [(2, .ofNat 0, .ofNat 0)])
def hka07_206 : ai_V := .inl (false, hka07_205)
def hka07_207 : ai_N := (.ofNat 0, .ofNat 12, [(3, .ofNat 0, .ofNat 0)])
def hka07_208 : ai_V := .inl (false, hka07_207)
def hka07_209 : ai_N := (.ofNat 0, .ofNat 16, [(4, .ofNat 0, .ofNat 0)])
def hka07_210 : ai_V := .inl (false, hka07_209)
def hka07_211 : ai_N := (.ofNat 0, .ofNat 4, [(5, .ofNat 0, .ofNat 0)])
def hka07_212 : ai_V := .inl (false, hka07_211)
def hka07_213 : ai_N := (.ofNat 0, .ofNat 16, [(7, .ofNat 0, .ofNat 0)])
def hka07_214 : ai_V := .inl (false, hka07_213)
def hka07_215 : ai_N := (.negSucc 3, .ofNat 3, [(8, .ofNat 0, .ofNat 0)])
def hka07_216 : ai_V := .inl (false, hka07_215)
def hka07_217 : ai_N := (.ofNat 0, .ofNat 400, [(9, .ofNat 0, .ofNat 0)])
def hka07_218 : ai_V := .inl (false, hka07_217)
def hka07_219 : ai_N := (.ofNat 0, .ofNat 3, [(12, .ofNat 0, .ofNat 0)])
def hka07_220 : ai_V := .inl (false, hka07_219)
def hka07_221 : ai_N := (.negSucc 2147483647, .ofNat 2147483647, [(13, .ofNat 0, .ofNat 0)])
def hka07_222 : ai_V := .inl (false, hka07_221)
def hka07_223 : ai_N := (.ofNat 0, .ofNat 6, [(14, .ofNat 0, .ofNat 0)])
def hka07_224 : ai_V := .inl (false, hka07_223)
def hka07_225 : ai_N := (.ofNat 0, .ofNat 400, [(15, .ofNat 0, .ofNat 0)])
def hka07_226 : ai_V := .inl (false, hka07_225)
def hka07_227 : ai_N := (.ofNat 0, .ofNat 130, [(16, .ofNat 0, .ofNat 0)])
def hka07_228 : ai_V := .inl (false, hka07_227)
def hka07_229 : ai_N := (.negSucc 2147483647, .ofNat 2147483647, [(17, .ofNat 0, .ofNat 0)])
def hka07_230 : ai_V := .inl (false, hka07_229)
def hka07_231 : ai_N := (.ofNat 0, .ofNat 4, [(18, .ofNat 0, .ofNat 0)])
def hka07_232 : ai_V := .inl (false, hka07_231)
def hka07_233 : ai_C := .inr (.inr (8, [hka07_23, hka07_24, hka07_204, hka07_206, hka07_29, hka07_30, hka07_208, hka07_33, hka07_210, hka07_212, hka07_38, hka07_151, hka07_214, hka07_216, hka07_45, hka07_218, hka07_47, hka07_49, hka07_220, hka07_222, hka07_224, hka07_226, hka07_60, hka07_228, hka07_63, hka07_64, hka07_230, hka07_67, hka07_68, hka07_69, hka07_70, hka07_71, hka07_72, hka07_232]))
def hka07_234 : Bool × Option ai_C := (false, some hka07_233)
def hka07_235 : ai_N := (.ofNat 0, .ofNat 60, [(19, .ofNat 0, .ofNat 0)])
def hka07_236 : ai_N := (.ofNat 0, .ofNat 20, [(20, .ofNat 0, .ofNat 0)])
def hka07_237 : ai_N := (.ofNat 0, .ofNat 1, [(21, .ofNat 0, .ofNat 0)])
def hka07_238 : ai_N := (.negSucc 3, .ofNat 2, [(22, .ofNat 0, .ofNat 0)])
def hka07_239 : ai_N := (.ofNat 0, .ofNat 5, [(23, .ofNat 0, .ofNat 0)])
def hka07_240 : ai_N := (.ofNat 0, .ofNat 4, [(24, .ofNat 0, .ofNat 0)])
def hka07_241 : ai_N := (.ofNat 0, .ofNat 60, [(25, .ofNat 0, .ofNat 0)])
def hka07_242 : ai_N := (.ofNat 0, .ofNat 20, [(26, .ofNat 0, .ofNat 0)])
def hka07_243 : ai_N := (.ofNat 0, .ofNat 1, [(27, .ofNat 0, .ofNat 0)])
def hka07_244 : ai_N := (.negSucc 3, .ofNat 2, [(28, .ofNat 0, .ofNat 0)])
def hka07_245 : ai_N := (.ofNat 0, .ofNat 5, [(29, .ofNat 0, .ofNat 0)])
def hka07_246 : ai_N := (.ofNat 0, .ofNat 4, [(30, .ofNat 0, .ofNat 0)])
def hka07_247 : ai_N := (.ofNat 0, .ofNat 60, [(31, .ofNat 0, .ofNat 0)])
def hka07_248 : ai_N := (.ofNat 0, .ofNat 20, [(32, .ofNat 0, .ofNat 0)])
def hka07_249 : ai_N := (.ofNat 0, .ofNat 1, [(33, .ofNat 0, .ofNat 0)])
def hka07_250 : ai_N := (.negSucc 3, .ofNat 2, [(34, .ofNat 0, .ofNat 0)])
def hka07_251 : ai_N := (.ofNat 0, .ofNat 5, [(35, .ofNat 0, .ofNat 0)])
def hka07_252 : ai_N := (.ofNat 0, .ofNat 4, [(36, .ofNat 0, .ofNat 0)])
def hka07_253 : ai_C := .inl (.int, [(1, hka07_235), (60, hka07_78), (17, hka07_79), (1, hka07_236), (1, hka07_237), (1, hka07_238), (1, hka07_239), (5, hka07_84), (1, hka07_240), (8, hka07_86), (1, hka07_241), (60, hka07_78), (17, hka07_79), (1, hka07_242), (1, hka07_243), (1, hka07_244), (1, hka07_245), (5, hka07_84), (1, hka07_246), (8, hka07_86), (1, hka07_247), (60, hka07_78), (17, hka07_79), (1, hka07_248), (1, hka07_249), (1, hka07_250), (1, hka07_251), (5, hka07_84), (1, hka07_252), (8, hka07_86)])
def hka07_254 : Bool × Option ai_C := (false, some hka07_253)
def hka07_255 : ai_C := .inl (.int, [(17, hka07_79)])
def hka07_256 : Bool × Option ai_C := (false, some hka07_255)
def hka07_257 : ai_W := [hka07_22, hka07_22, hka07_22, hka07_22, hka07_22, hka07_22, hka07_22, hka07_22, hka07_22, hka07_22, hka07_22, hka07_22, hka07_22, hka07_22, hka07_22, hka07_22, hka07_22, hka07_22, hka07_22, hka07_22, hka07_22, hka07_22, hka07_22, hka07_22, hka07_22, hka07_22, hka07_22, hka07_22, hka07_22, hka07_22, hka07_22, hka07_22, hka07_22, hka07_22, hka07_22, hka07_22, hka07_22, hka07_22, hka07_22, hka07_22, hka07_22, hka07_22, hka07_22, hka07_22, hka07_22, hka07_22, hka07_22, hka07_22, hka07_22, hka07_22, hka07_22, hka07_22, hka07_22, hka07_22, hka07_22, hka07_22, hka07_22, hka07_22, hka07_22, hka07_234, hka07_254, hka07_22, hka07_22, hka07_22, hka07_22, hka07_22, hka07_22, hka07_103, hka07_22, hka07_22, hka07_256, hka07_22, hka07_22, hka07_22, hka07_22, hka07_22]
def hka07_258 : ai_E := [hka07_184, hka07_1, hka07_2, hka07_3, hka07_4, hka07_5, hka07_0, hka07_4, hka07_6, hka07_7, hka07_7, hka07_7, hka07_8, hka07_0, hka07_9, hka07_7, hka07_10, hka07_0, hka07_5, hka07_11, hka07_12, hka07_13, hka07_14, hka07_15, hka07_5, hka07_11, hka07_12, hka07_13, hka07_14, hka07_15, hka07_5, hka07_11, hka07_12, hka07_13, hka07_14, hka07_15, hka07_5]
def hka07_259 : ai_E := [hka07_182, hka07_1, hka07_2, hka07_3, hka07_4, hka07_5, hka07_0, hka07_4, hka07_6, hka07_7, hka07_7, hka07_7, hka07_8, hka07_0, hka07_9, hka07_7, hka07_10, hka07_0, hka07_5, hka07_11, hka07_12, hka07_13, hka07_14, hka07_15, hka07_5, hka07_11, hka07_12, hka07_13, hka07_14, hka07_15, hka07_5, hka07_11, hka07_12, hka07_13, hka07_14, hka07_15, hka07_5]
def hka07_260 : ai_E := [hka07_108, hka07_1, hka07_2, hka07_3, hka07_4, hka07_5, hka07_0, hka07_4, hka07_6, hka07_7, hka07_7, hka07_7, hka07_8, hka07_0, hka07_9, hka07_7, hka07_10, hka07_0, hka07_5, hka07_11, hka07_12, hka07_13, hka07_14, hka07_15, hka07_5, hka07_11, hka07_12, hka07_13, hka07_14, hka07_15, hka07_5, hka07_11, hka07_12, hka07_13, hka07_14, hka07_15, hka07_5]
def hka07_261 : ai_V := .inl (false, hka07_235)
def hka07_262 : ai_C := .inr (.inr (8, [hka07_23, hka07_24, hka07_204, hka07_206, hka07_29, hka07_30, hka07_208, hka07_33, hka07_210, hka07_212, hka07_38, hka07_151, hka07_214, hka07_216, hka07_45, hka07_218, hka07_47, hka07_49, hka07_220, hka07_222, hka07_224, hka07_226, hka07_60, hka07_261, hka07_63, hka07_64, hka07_230, hka07_67, hka07_68, hka07_69, hka07_70, hka07_71, hka07_72, hka07_232]))
/-- NeverAgainModel.alike -/
def ka_523 : ai_K := (60, 2, (hka07_202, [hka07_17, hka07_19, hka07_120, hka07_120, hka07_120], [], hka07_257), [.inl 1, .inr (59, 2), .inr (59, 3), .inr (59, 6), .inr (59, 8), .inr (59, 9), .inr (59, 11), .inr (59, 12), .inr (59, 13), .inr (59, 15), .inr (59, 16), .inr (59, 17), .inr (59, 18), .inr (59, 19), .inr (59, 20), .inr (59, 21), .inr (59, 23), .inr (59, 26), .inr (59, 33), .inr (60, 0), .inr (60, 78), .inr (60, 79), .inr (60, 80), .inr (60, 81), .inr (60, 87), .inr (60, 96), .inr (60, 174), .inr (60, 175), .inr (60, 176), .inr (60, 177), .inr (60, 183), .inr (60, 192), .inr (60, 270), .inr (60, 271), .inr (60, 272), .inr (60, 273), .inr (60, 279)], [(some hka07_106, hka07_258, []), (some hka07_106, hka07_259, []), (some hka07_186, hka07_260, [(59, hka07_262), (67, hka07_102), (70, hka07_255)])])
def hka07_263 : ai_E := [hka07_108, hka07_1, hka07_2, hka07_3, hka07_4, hka07_5, hka07_0, hka07_4, hka07_6, hka07_7, hka07_7, hka07_7, hka07_8, hka07_0, hka07_9, hka07_7, hka07_10, hka07_0, hka07_5, hka07_11, hka07_12, hka07_13, hka07_14, hka07_15, hka07_5, hka07_11, hka07_12, hka07_13, hka07_14, hka07_15, hka07_5, hka07_11, hka07_12, hka07_13, hka07_14, hka07_15, hka07_5, hka07_191]
def hka07_264 : ai_N := (.ofNat 1, .ofNat 17, [(37, .ofNat 0, .ofNat 0)])
def hka07_265 : ai_V := .inl (false, hka07_264)
def hka07_266 : Bool × Option ai_C := (true, some hka07_262)
def hka07_267 : Bool × Option ai_C := (true, some hka07_102)
def hka07_268 : Bool × Option ai_C := (true, some hka07_255)
def hka07_269 : ai_W := [hka07_22, hka07_22, hka07_22, hka07_22, hka07_22, hka07_22, hka07_22, hka07_22, hka07_22, hka07_22, hka07_22, hka07_22, hka07_22, hka07_22, hka07_22, hka07_22, hka07_22, hka07_22, hka07_22, hka07_22, hka07_22, hka07_22, hka07_22, hka07_22, hka07_22, hka07_22, hka07_22, hka07_22, hka07_22, hka07_22, hka07_22, hka07_22, hka07_22, hka07_22, hka07_22, hka07_22, hka07_22, hka07_22, hka07_22, hka07_22, hka07_22, hka07_22, hka07_22, hka07_22, hka07_22, hka07_22, hka07_22, hka07_22, hka07_22, hka07_22, hka07_22, hka07_22, hka07_22, hka07_22, hka07_22, hka07_22, hka07_22, hka07_22, hka07_22, hka07_266, hka07_254, hka07_22, hka07_22, hka07_22, hka07_22, hka07_22, hka07_22, hka07_267, hka07_22, hka07_22, hka07_268, hka07_22, hka07_22, hka07_22, hka07_22, hka07_22]
def kan_523 : List ai_Nd := [(21, (hka07_263, [hka07_17, hka07_194, hka07_265, hka07_120, hka07_120], [], hka07_269), [.inl 2], [.inl 99978, .inl 1, .inr (true, .ofNat 17, 37), .inl 100000]), (54, (hka07_263, [hka07_17, hka07_194, hka07_186, hka07_265, hka07_120], [], hka07_269), [.inl 3], [.inl 99945, .inl 1, .inr (true, .ofNat 17, 37), .inl 100000])]
set_option maxRecDepth 1000000 in
theorem kak_523 : ai_ck [ka_382, ka_383, ka_517, ka_380, ka_518, ka_520, ka_519, ka_389, ka_381] [] ka_523 [.inl 100000, .inl 0, .inl 0, .inl 0] kan_523 35 = true := by decide +kernel
theorem kah_523 : ai_holds ka_523 := ai_thm kak_523 (ai_cons kah_382 (ai_cons kah_383 (ai_cons kah_517 (ai_cons kah_380 (ai_cons kah_518 (ai_cons kah_520 (ai_cons kah_519 (ai_cons kah_389 (ai_cons kah_381 ai_nil)))))))))
def hka07_270 : ai_E := [hka07_0, hka07_0, hka07_1, hka07_2, hka07_0, hka07_0, hka07_0, hka07_11, hka07_15, hka07_5]
def hka07_271 : ai_N := (.negSucc 2147483647, .ofNat 2147483647, [(4, .ofNat 0, .ofNat 0)])
def hka07_272 : ai_V := .inl (false, hka07_271)
def hka07_273 : ai_N := (.negSucc 2147483647, .ofNat 2147483647, [(5, .ofNat 0, .ofNat 0)])
def hka07_274 : ai_V := .inl (false, hka07_273)
def hka07_275 : ai_N := (.ofNat 0, .ofNat 60, [(7, .ofNat 0, .ofNat 0)])
def hka07_276 : ai_V := .inl (false, hka07_275)
def hka07_277 : ai_N := (.ofNat 0, .ofNat 5, [(8, .ofNat 0, .ofNat 0)])
def hka07_278 : ai_V := .inl (false, hka07_277)
def hka07_279 : ai_N := (.ofNat 0, .ofNat 4, [(9, .ofNat 0, .ofNat 0)])
def hka07_280 : ai_V := .inl (false, hka07_279)
def hka07_281 : ai_C := .inr (.inr (6, [hka07_140, hka07_141, hka07_142, hka07_143, hka07_144, hka07_145, hka07_26, hka07_28, hka07_272, hka07_274, hka07_151, hka07_276, hka07_278, hka07_280]))
def hka07_282 : Bool × Option ai_C := (false, some hka07_281)
def hka07_283 : ai_C := .inl (.int, [(4, hka07_162)])
def hka07_284 : Bool × Option ai_C := (false, some hka07_283)
def hka07_285 : ai_W := [hka07_22, hka07_282, hka07_22, hka07_22, hka07_22, hka07_22, hka07_284, hka07_284, hka07_22, hka07_22, hka07_22, hka07_22, hka07_22, hka07_22, hka07_22, hka07_22, hka07_22, hka07_22, hka07_22, hka07_22, hka07_22, hka07_22, hka07_22, hka07_22, hka07_22, hka07_22, hka07_22, hka07_22, hka07_22, hka07_22, hka07_22, hka07_22, hka07_22, hka07_22, hka07_22, hka07_22, hka07_22, hka07_22, hka07_22, hka07_22, hka07_22, hka07_22, hka07_22, hka07_22, hka07_22, hka07_22, hka07_22, hka07_22, hka07_22, hka07_22, hka07_22, hka07_22, hka07_22, hka07_22, hka07_22, hka07_22, hka07_22, hka07_22, hka07_22, hka07_22, hka07_22, hka07_22, hka07_22, hka07_22, hka07_22, hka07_22, hka07_22, hka07_22, hka07_22, hka07_22, hka07_22, hka07_22, hka07_22, hka07_22, hka07_22, hka07_22]
def hka07_286 : ai_N := (.ofNat 0, .ofNat 0, [])
def hka07_287 : ai_V := .inl (false, hka07_286)
def hka07_288 : Int × Int := (.ofNat 4, .ofNat 4)
def hka07_289 : ai_E := [hka07_0, hka07_0, hka07_1, hka07_2, hka07_0, hka07_0, hka07_0, hka07_11, hka07_15, hka07_288]
def hka07_290 : ai_N := (.ofNat 1, .ofNat 1, [])
def hka07_291 : ai_V := .inl (false, hka07_290)
def hka07_292 : ai_E := [hka07_0, hka07_0, hka07_1, hka07_2, hka07_0, hka07_0, hka07_0, hka07_11, hka07_15, hka07_8]
def hka07_293 : ai_N := (.ofNat 1, .ofNat 4, [(9, .ofNat 1, .ofNat 1)])
def hka07_294 : ai_V := .inl (false, hka07_293)
def hka07_295 : ai_C := .inr (.inr (6, [hka07_140, hka07_141, hka07_142, hka07_143, hka07_144, hka07_145, hka07_26, hka07_28, hka07_272, hka07_274, hka07_151, hka07_276, hka07_278, hka07_294]))
/-- NeverAgain$Told.addWaiting -/
def ka_524 : ai_K := (136, 0, (hka07_270, [hka07_130, hka07_19, hka07_21], [], hka07_285), [.inl 1, .inl 2, .inr (1, 6), .inr (1, 7), .inr (1, 8), .inr (1, 9), .inr (1, 10), .inr (1, 11), .inr (1, 12), .inr (1, 13)], [(some hka07_287, hka07_289, []), (some hka07_291, hka07_292, [(1, hka07_295), (6, hka07_283), (7, hka07_283)])])
def kan_524 : List ai_Nd := []
set_option maxRecDepth 1000000 in
theorem kak_524 : ai_ck [] [] ka_524 [.inl 100000] kan_524 25 = true := by decide +kernel
theorem kah_524 : ai_holds ka_524 := ai_thm kak_524 ai_nil
def hka07_296 : ai_E := [hka07_0, hka07_0, hka07_3, hka07_9, hka07_5, hka07_1, hka07_2, hka07_0, hka07_0, hka07_0, hka07_11, hka07_15, hka07_5]
def hka07_297 : ai_N := (.ofNat 0, .ofNat 12, [(2, .ofNat 0, .ofNat 0)])
def hka07_298 : ai_V := .inl (false, hka07_297)
def hka07_299 : ai_N := (.ofNat 0, .ofNat 6, [(3, .ofNat 0, .ofNat 0)])
def hka07_300 : ai_V := .inl (false, hka07_299)
def hka07_301 : ai_N := (.ofNat 0, .ofNat 4, [(4, .ofNat 0, .ofNat 0)])
def hka07_302 : ai_V := .inl (false, hka07_301)
def hka07_303 : ai_C := .inr (.inr (7, [hka07_121, hka07_122, hka07_123, hka07_124, hka07_125, hka07_126, hka07_127, hka07_128, hka07_129, hka07_130, hka07_131, hka07_298, hka07_300, hka07_302]))
def hka07_304 : Bool × Option ai_C := (false, some hka07_303)
def hka07_305 : ai_N := (.ofNat 4, .ofNat 16, [(5, .ofNat 0, .ofNat 0)])
def hka07_306 : ai_V := .inl (false, hka07_305)
def hka07_307 : ai_N := (.ofNat 1, .ofNat 4, [(6, .ofNat 0, .ofNat 0)])
def hka07_308 : ai_V := .inl (false, hka07_307)
def hka07_309 : ai_N := (.negSucc 2147483647, .ofNat 2147483647, [(9, .ofNat 0, .ofNat 0)])
def hka07_310 : ai_V := .inl (false, hka07_309)
def hka07_311 : ai_N := (.ofNat 0, .ofNat 60, [(10, .ofNat 0, .ofNat 0)])
def hka07_312 : ai_V := .inl (false, hka07_311)
def hka07_313 : ai_N := (.ofNat 0, .ofNat 5, [(11, .ofNat 0, .ofNat 0)])
def hka07_314 : ai_V := .inl (false, hka07_313)
def hka07_315 : ai_N := (.ofNat 0, .ofNat 4, [(12, .ofNat 0, .ofNat 0)])
def hka07_316 : ai_V := .inl (false, hka07_315)
def hka07_317 : ai_C := .inr (.inr (6, [hka07_140, hka07_141, hka07_142, hka07_143, hka07_144, hka07_145, hka07_306, hka07_308, hka07_40, hka07_153, hka07_310, hka07_312, hka07_314, hka07_316]))
def hka07_318 : Bool × Option ai_C := (false, some hka07_317)
def hka07_319 : ai_W := [hka07_304, hka07_318, hka07_22, hka07_22, hka07_22, hka07_22, hka07_284, hka07_284, hka07_22, hka07_22, hka07_22, hka07_22, hka07_22, hka07_22, hka07_22, hka07_22, hka07_22, hka07_22, hka07_22, hka07_22, hka07_22, hka07_22, hka07_22, hka07_22, hka07_22, hka07_22, hka07_22, hka07_22, hka07_22, hka07_22, hka07_22, hka07_22, hka07_22, hka07_22, hka07_22, hka07_22, hka07_22, hka07_22, hka07_22, hka07_22, hka07_22, hka07_22, hka07_22, hka07_22, hka07_22, hka07_22, hka07_22, hka07_22, hka07_22, hka07_22, hka07_22, hka07_22, hka07_22, hka07_22, hka07_22, hka07_22, hka07_22, hka07_22, hka07_22, hka07_22, hka07_22, hka07_22, hka07_22, hka07_22, hka07_22, hka07_22, hka07_22, hka07_22, hka07_22, hka07_22, hka07_22, hka07_22, hka07_22, hka07_22, hka07_22, hka07_22]
def hka07_320 : ai_E := [hka07_184, hka07_0, hka07_3, hka07_9, hka07_5, hka07_1, hka07_2, hka07_0, hka07_0, hka07_0, hka07_11, hka07_15, hka07_5]
def hka07_321 : Int × Int := (.ofNat 1, .ofNat 2147483647)
def hka07_322 : ai_E := [hka07_321, hka07_0, hka07_3, hka07_9, hka07_5, hka07_1, hka07_2, hka07_0, hka07_0, hka07_0, hka07_11, hka07_15, hka07_5]
def hka07_323 : Int × Int := (.ofNat 5, .ofNat 2147483647)
def hka07_324 : ai_E := [hka07_8, hka07_323, hka07_3, hka07_9, hka07_5, hka07_1, hka07_2, hka07_0, hka07_0, hka07_0, hka07_11, hka07_15, hka07_5]
def hka07_325 : ai_N := (.ofNat 1, .ofNat 4, [(12, .ofNat 1, .ofNat 1)])
def hka07_326 : ai_V := .inl (false, hka07_325)
def hka07_327 : ai_E := [hka07_8, hka07_5, hka07_3, hka07_9, hka07_5, hka07_1, hka07_2, hka07_0, hka07_0, hka07_0, hka07_11, hka07_15, hka07_8]
def hka07_328 : ai_C := .inr (.inr (6, [hka07_140, hka07_141, hka07_142, hka07_143, hka07_144, hka07_145, hka07_306, hka07_308, hka07_40, hka07_153, hka07_310, hka07_312, hka07_314, hka07_326]))
def hka07_329 : ai_N := (.negSucc 2, .negSucc 2, [])
def hka07_330 : ai_V := .inl (false, hka07_329)
def hka07_331 : ai_E := [hka07_8, hka07_5, hka07_3, hka07_9, hka07_5, hka07_1, hka07_2, hka07_0, hka07_0, hka07_0, hka07_11, hka07_15, hka07_288]
def hka07_332 : ai_E := [hka07_8, hka07_184, hka07_3, hka07_9, hka07_5, hka07_1, hka07_2, hka07_0, hka07_0, hka07_0, hka07_11, hka07_15, hka07_5]
/-- NeverAgain.stay -/
def ka_525 : ai_K := (61, 1, (hka07_296, [hka07_119, hka07_19, hka07_21], [], hka07_319), [.inl 1, .inl 2, .inr (0, 11), .inr (0, 12), .inr (0, 13), .inr (1, 6), .inr (1, 7), .inr (1, 8), .inr (1, 9), .inr (1, 10), .inr (1, 11), .inr (1, 12), .inr (1, 13)], [(some hka07_106, hka07_320, []), (some hka07_106, hka07_322, []), (some hka07_106, hka07_324, []), (some hka07_326, hka07_327, [(1, hka07_328), (6, hka07_283), (7, hka07_283)]), (some hka07_330, hka07_331, []), (some hka07_106, hka07_332, [])])
def kan_525 : List ai_Nd := []
set_option maxRecDepth 1000000 in
theorem kak_525 : ai_ck [ka_350, ka_524] [] ka_525 [.inl 100000] kan_525 22 = true := by decide +kernel
theorem kah_525 : ai_holds ka_525 := ai_thm kak_525 (ai_cons kah_350 (ai_cons kah_524 ai_nil))
def hka07_333 : ai_W := [hka07_22, hka07_22, hka07_22, hka07_22, hka07_22, hka07_22, hka07_22, hka07_22, hka07_22, hka07_22, hka07_22, hka07_22, hka07_22, hka07_22, hka07_22, hka07_22, hka07_22, hka07_22, hka07_22, hka07_22, hka07_22, hka07_22, hka07_22, hka07_22, hka07_22, hka07_22, hka07_22, hka07_22, hka07_22, hka07_22, hka07_22, hka07_22, hka07_22, hka07_22, hka07_22, hka07_22, hka07_22, hka07_22, hka07_22, hka07_22, hka07_22, hka07_22, hka07_22, hka07_22, hka07_22, hka07_22, hka07_22, hka07_22, hka07_22, hka07_22, hka07_22, hka07_22, hka07_22, hka07_22, hka07_22, hka07_22, hka07_22, hka07_22, hka07_22, hka07_76, hka07_100, hka07_22, hka07_22, hka07_22, hka07_22, hka07_22, hka07_22, hka07_22, hka07_22, hka07_22, hka07_22, hka07_22, hka07_22, hka07_22, hka07_22, hka07_22]
def hka07_334 : ai_E := [hka07_8, hka07_5, hka07_1, hka07_2, hka07_3, hka07_4, hka07_5, hka07_0, hka07_4, hka07_6, hka07_7, hka07_7, hka07_7, hka07_8, hka07_0, hka07_9, hka07_7, hka07_10, hka07_0, hka07_5, hka07_11, hka07_12, hka07_13, hka07_14, hka07_15, hka07_288, hka07_11, hka07_12, hka07_13, hka07_14, hka07_15, hka07_5, hka07_11, hka07_12, hka07_13, hka07_14, hka07_15, hka07_5]
def hka07_335 : ai_N := (.ofNat 1, .ofNat 4, [(25, .ofNat 1, .ofNat 1)])
def hka07_336 : ai_V := .inl (false, hka07_335)
def hka07_337 : ai_E := [hka07_8, hka07_5, hka07_1, hka07_2, hka07_3, hka07_4, hka07_5, hka07_0, hka07_4, hka07_6, hka07_7, hka07_7, hka07_7, hka07_8, hka07_0, hka07_9, hka07_7, hka07_10, hka07_0, hka07_5, hka07_11, hka07_12, hka07_13, hka07_14, hka07_15, hka07_8, hka07_11, hka07_12, hka07_13, hka07_14, hka07_15, hka07_5, hka07_11, hka07_12, hka07_13, hka07_14, hka07_15, hka07_5]
def hka07_338 : ai_C := .inl (.int, [(1, hka07_77), (60, hka07_78), (17, hka07_79), (1, hka07_80), (1, hka07_81), (1, hka07_82), (1, hka07_83), (5, hka07_84), (1, hka07_335), (8, hka07_86), (1, hka07_87), (60, hka07_78), (17, hka07_79), (1, hka07_88), (1, hka07_89), (1, hka07_90), (1, hka07_91), (5, hka07_84), (1, hka07_92), (8, hka07_86), (1, hka07_93), (60, hka07_78), (17, hka07_79), (1, hka07_94), (1, hka07_95), (1, hka07_96), (1, hka07_97), (5, hka07_84), (1, hka07_98), (8, hka07_86)])
/-- NeverAgainModel.stay -/
def ka_526 : ai_K := (62, 2, (hka07_16, [hka07_17, hka07_19, hka07_21, hka07_120], [], hka07_333), [.inl 1, .inl 2, .inr (59, 2), .inr (59, 3), .inr (59, 6), .inr (59, 8), .inr (59, 9), .inr (59, 11), .inr (59, 12), .inr (59, 13), .inr (59, 15), .inr (59, 16), .inr (59, 17), .inr (59, 18), .inr (59, 19), .inr (59, 20), .inr (59, 21), .inr (59, 23), .inr (59, 26), .inr (59, 33), .inr (60, 0), .inr (60, 78), .inr (60, 79), .inr (60, 80), .inr (60, 81), .inr (60, 87), .inr (60, 96), .inr (60, 174), .inr (60, 175), .inr (60, 176), .inr (60, 177), .inr (60, 183), .inr (60, 192), .inr (60, 270), .inr (60, 271), .inr (60, 272), .inr (60, 273), .inr (60, 279)], [(some hka07_106, hka07_16, []), (some hka07_330, hka07_334, []), (some hka07_336, hka07_337, [(60, hka07_338)])])
def kan_526 : List ai_Nd := []
set_option maxRecDepth 1000000 in
theorem kak_526 : ai_ck [ka_353, ka_306] [] ka_526 [.inl 100000] kan_526 51 = true := by decide +kernel
theorem kah_526 : ai_holds ka_526 := ai_thm kak_526 (ai_cons kah_353 (ai_cons kah_306 ai_nil))
def hka07_339 : ai_E := [hka07_3, hka07_9, hka07_5, hka07_1, hka07_2, hka07_0, hka07_0, hka07_0, hka07_11, hka07_15, hka07_5]
def hka07_340 : ai_N := (.ofNat 0, .ofNat 12, [(0, .ofNat 0, .ofNat 0)])
def hka07_341 : ai_V := .inl (false, hka07_340)
def hka07_342 : ai_N := (.ofNat 0, .ofNat 6, [(1, .ofNat 0, .ofNat 0)])
def hka07_343 : ai_V := .inl (false, hka07_342)
def hka07_344 : ai_N := (.ofNat 0, .ofNat 4, [(2, .ofNat 0, .ofNat 0)])
def hka07_345 : ai_V := .inl (false, hka07_344)
def hka07_346 : ai_C := .inr (.inr (7, [hka07_121, hka07_122, hka07_123, hka07_124, hka07_125, hka07_126, hka07_127, hka07_128, hka07_129, hka07_130, hka07_131, hka07_341, hka07_343, hka07_345]))
def hka07_347 : Bool × Option ai_C := (false, some hka07_346)
def hka07_348 : ai_N := (.ofNat 4, .ofNat 16, [(3, .ofNat 0, .ofNat 0)])
def hka07_349 : ai_V := .inl (false, hka07_348)
def hka07_350 : ai_N := (.ofNat 1, .ofNat 4, [(4, .ofNat 0, .ofNat 0)])
def hka07_351 : ai_V := .inl (false, hka07_350)
def hka07_352 : ai_N := (.ofNat 0, .ofNat 60, [(8, .ofNat 0, .ofNat 0)])
def hka07_353 : ai_V := .inl (false, hka07_352)
def hka07_354 : ai_N := (.ofNat 0, .ofNat 5, [(9, .ofNat 0, .ofNat 0)])
def hka07_355 : ai_V := .inl (false, hka07_354)
def hka07_356 : ai_N := (.ofNat 0, .ofNat 4, [(10, .ofNat 0, .ofNat 0)])
def hka07_357 : ai_V := .inl (false, hka07_356)
def hka07_358 : ai_C := .inr (.inr (6, [hka07_140, hka07_141, hka07_142, hka07_143, hka07_144, hka07_145, hka07_349, hka07_351, hka07_274, hka07_151, hka07_40, hka07_353, hka07_355, hka07_357]))
def hka07_359 : Bool × Option ai_C := (false, some hka07_358)
def hka07_360 : ai_W := [hka07_347, hka07_359, hka07_22, hka07_22, hka07_22, hka07_22, hka07_22, hka07_22, hka07_22, hka07_22, hka07_22, hka07_22, hka07_22, hka07_22, hka07_22, hka07_22, hka07_22, hka07_22, hka07_22, hka07_22, hka07_22, hka07_22, hka07_22, hka07_22, hka07_22, hka07_22, hka07_22, hka07_22, hka07_22, hka07_22, hka07_22, hka07_22, hka07_22, hka07_22, hka07_22, hka07_22, hka07_22, hka07_22, hka07_22, hka07_22, hka07_22, hka07_22, hka07_22, hka07_22, hka07_22, hka07_22, hka07_22, hka07_22, hka07_22, hka07_22, hka07_22, hka07_22, hka07_22, hka07_22, hka07_22, hka07_22, hka07_22, hka07_22, hka07_22, hka07_22, hka07_22, hka07_22, hka07_22, hka07_22, hka07_22, hka07_22, hka07_22, hka07_22, hka07_22, hka07_22, hka07_22, hka07_22, hka07_22, hka07_22, hka07_22, hka07_22]
def hka07_361 : ai_C := .inr (.inr (6, [hka07_140, hka07_141, hka07_142, hka07_143, hka07_144, hka07_145, hka07_349, hka07_351, hka07_274, hka07_151, hka07_40, hka07_353, hka07_355, hka07_287]))
/-- NeverAgain.serve -/
def ka_527 : ai_K := (63, 0, (hka07_339, [hka07_119, hka07_120], [], hka07_360), [.inr (0, 11), .inr (0, 12), .inr (0, 13), .inr (1, 6), .inr (1, 7), .inr (1, 8), .inr (1, 9), .inr (1, 10), .inr (1, 11), .inr (1, 12), .inr (1, 13)], [(some hka07_357, hka07_339, [(1, hka07_361)])])
def kan_527 : List ai_Nd := []
set_option maxRecDepth 1000000 in
theorem kak_527 : ai_ck [] [] ka_527 [.inl 100000] kan_527 11 = true := by decide +kernel
theorem kah_527 : ai_holds ka_527 := ai_thm kak_527 ai_nil
def hka07_362 : ai_E := [hka07_1, hka07_2, hka07_3, hka07_4, hka07_5, hka07_0, hka07_4, hka07_6, hka07_7, hka07_7, hka07_7, hka07_8, hka07_0, hka07_9, hka07_7, hka07_10, hka07_0, hka07_5, hka07_11, hka07_12, hka07_13, hka07_14, hka07_15, hka07_5, hka07_11, hka07_12, hka07_13, hka07_14, hka07_15, hka07_5, hka07_11, hka07_12, hka07_13, hka07_14, hka07_15, hka07_5]
def hka07_363 : ai_N := (.ofNat 4, .ofNat 16, [(0, .ofNat 0, .ofNat 0)])
def hka07_364 : ai_V := .inl (false, hka07_363)
def hka07_365 : ai_N := (.ofNat 1, .ofNat 4, [(1, .ofNat 0, .ofNat 0)])
def hka07_366 : ai_V := .inl (false, hka07_365)
def hka07_367 : ai_N := (.ofNat 0, .ofNat 16, [(3, .ofNat 0, .ofNat 0)])
def hka07_368 : ai_V := .inl (false, hka07_367)
def hka07_369 : ai_N := (.ofNat 0, .ofNat 16, [(6, .ofNat 0, .ofNat 0)])
def hka07_370 : ai_V := .inl (false, hka07_369)
def hka07_371 : ai_N := (.negSucc 3, .ofNat 3, [(7, .ofNat 0, .ofNat 0)])
def hka07_372 : ai_V := .inl (false, hka07_371)
def hka07_373 : ai_N := (.ofNat 0, .ofNat 400, [(8, .ofNat 0, .ofNat 0)])
def hka07_374 : ai_V := .inl (false, hka07_373)
def hka07_375 : ai_N := (.ofNat 0, .ofNat 3, [(11, .ofNat 0, .ofNat 0)])
def hka07_376 : ai_V := .inl (false, hka07_375)
def hka07_377 : ai_N := (.negSucc 2147483647, .ofNat 2147483647, [(12, .ofNat 0, .ofNat 0)])
def hka07_378 : ai_V := .inl (false, hka07_377)
def hka07_379 : ai_N := (.ofNat 0, .ofNat 6, [(13, .ofNat 0, .ofNat 0)])
def hka07_380 : ai_V := .inl (false, hka07_379)
def hka07_381 : ai_N := (.ofNat 0, .ofNat 400, [(14, .ofNat 0, .ofNat 0)])
def hka07_382 : ai_V := .inl (false, hka07_381)
def hka07_383 : ai_N := (.ofNat 0, .ofNat 130, [(15, .ofNat 0, .ofNat 0)])
def hka07_384 : ai_V := .inl (false, hka07_383)
def hka07_385 : ai_N := (.negSucc 2147483647, .ofNat 2147483647, [(16, .ofNat 0, .ofNat 0)])
def hka07_386 : ai_V := .inl (false, hka07_385)
def hka07_387 : ai_N := (.ofNat 0, .ofNat 4, [(17, .ofNat 0, .ofNat 0)])
def hka07_388 : ai_V := .inl (false, hka07_387)
def hka07_389 : ai_C := .inr (.inr (8, [hka07_23, hka07_24, hka07_364, hka07_366, hka07_29, hka07_30, hka07_298, hka07_33, hka07_368, hka07_302, hka07_38, hka07_274, hka07_370, hka07_372, hka07_45, hka07_374, hka07_218, hka07_47, hka07_376, hka07_378, hka07_380, hka07_382, hka07_60, hka07_384, hka07_63, hka07_64, hka07_386, hka07_67, hka07_68, hka07_69, hka07_70, hka07_71, hka07_72, hka07_388]))
def hka07_390 : Bool × Option ai_C := (false, some hka07_389)
def hka07_391 : ai_N := (.ofNat 0, .ofNat 60, [(18, .ofNat 0, .ofNat 0)])
def hka07_392 : ai_N := (.ofNat 0, .ofNat 20, [(19, .ofNat 0, .ofNat 0)])
def hka07_393 : ai_N := (.ofNat 0, .ofNat 1, [(20, .ofNat 0, .ofNat 0)])
def hka07_394 : ai_N := (.negSucc 3, .ofNat 2, [(21, .ofNat 0, .ofNat 0)])
def hka07_395 : ai_N := (.ofNat 0, .ofNat 5, [(22, .ofNat 0, .ofNat 0)])
def hka07_396 : ai_N := (.ofNat 0, .ofNat 4, [(23, .ofNat 0, .ofNat 0)])
def hka07_397 : ai_N := (.ofNat 0, .ofNat 60, [(24, .ofNat 0, .ofNat 0)])
def hka07_398 : ai_N := (.ofNat 0, .ofNat 20, [(25, .ofNat 0, .ofNat 0)])
def hka07_399 : ai_N := (.ofNat 0, .ofNat 1, [(26, .ofNat 0, .ofNat 0)])
def hka07_400 : ai_N := (.negSucc 3, .ofNat 2, [(27, .ofNat 0, .ofNat 0)])
def hka07_401 : ai_N := (.ofNat 0, .ofNat 5, [(28, .ofNat 0, .ofNat 0)])
def hka07_402 : ai_N := (.ofNat 0, .ofNat 4, [(29, .ofNat 0, .ofNat 0)])
def hka07_403 : ai_N := (.ofNat 0, .ofNat 60, [(30, .ofNat 0, .ofNat 0)])
def hka07_404 : ai_N := (.ofNat 0, .ofNat 20, [(31, .ofNat 0, .ofNat 0)])
def hka07_405 : ai_N := (.ofNat 0, .ofNat 1, [(32, .ofNat 0, .ofNat 0)])
def hka07_406 : ai_N := (.negSucc 3, .ofNat 2, [(33, .ofNat 0, .ofNat 0)])
def hka07_407 : ai_N := (.ofNat 0, .ofNat 5, [(34, .ofNat 0, .ofNat 0)])
def hka07_408 : ai_N := (.ofNat 0, .ofNat 4, [(35, .ofNat 0, .ofNat 0)])
def hka07_409 : ai_C := .inl (.int, [(1, hka07_391), (60, hka07_78), (17, hka07_79), (1, hka07_392), (1, hka07_393), (1, hka07_394), (1, hka07_395), (5, hka07_84), (1, hka07_396), (8, hka07_86), (1, hka07_397), (60, hka07_78), (17, hka07_79), (1, hka07_398), (1, hka07_399), (1, hka07_400), (1, hka07_401), (5, hka07_84), (1, hka07_402), (8, hka07_86), (1, hka07_403), (60, hka07_78), (17, hka07_79), (1, hka07_404), (1, hka07_405), (1, hka07_406), (1, hka07_407), (5, hka07_84), (1, hka07_408), (8, hka07_86)])
def hka07_410 : Bool × Option ai_C := (false, some hka07_409)
def hka07_411 : ai_W := [hka07_22, hka07_22, hka07_22, hka07_22, hka07_22, hka07_22, hka07_22, hka07_22, hka07_22, hka07_22, hka07_22, hka07_22, hka07_22, hka07_22, hka07_22, hka07_22, hka07_22, hka07_22, hka07_22, hka07_22, hka07_22, hka07_22, hka07_22, hka07_22, hka07_22, hka07_22, hka07_22, hka07_22, hka07_22, hka07_22, hka07_22, hka07_22, hka07_22, hka07_22, hka07_22, hka07_22, hka07_22, hka07_22, hka07_22, hka07_22, hka07_22, hka07_22, hka07_22, hka07_22, hka07_22, hka07_22, hka07_22, hka07_22, hka07_22, hka07_22, hka07_22, hka07_22, hka07_22, hka07_22, hka07_22, hka07_22, hka07_22, hka07_22, hka07_22, hka07_390, hka07_410, hka07_22, hka07_22, hka07_22, hka07_22, hka07_22, hka07_22, hka07_22, hka07_22, hka07_22, hka07_22, hka07_22, hka07_22, hka07_22, hka07_22, hka07_22]
def hka07_412 : ai_V := .inl (false, hka07_396)
def hka07_413 : ai_C := .inl (.int, [(1, hka07_391), (60, hka07_78), (17, hka07_79), (1, hka07_392), (1, hka07_393), (1, hka07_394), (1, hka07_395), (5, hka07_84), (1, hka07_286), (8, hka07_86), (1, hka07_397), (60, hka07_78), (17, hka07_79), (1, hka07_398), (1, hka07_399), (1, hka07_400), (1, hka07_401), (5, hka07_84), (1, hka07_402), (8, hka07_86), (1, hka07_403), (60, hka07_78), (17, hka07_79), (1, hka07_404), (1, hka07_405), (1, hka07_406), (1, hka07_407), (5, hka07_84), (1, hka07_408), (8, hka07_86)])
/-- NeverAgainModel.serve -/
def ka_528 : ai_K := (64, 0, (hka07_362, [hka07_17, hka07_120], [], hka07_411), [.inr (59, 2), .inr (59, 3), .inr (59, 6), .inr (59, 8), .inr (59, 9), .inr (59, 11), .inr (59, 12), .inr (59, 13), .inr (59, 15), .inr (59, 16), .inr (59, 17), .inr (59, 18), .inr (59, 19), .inr (59, 20), .inr (59, 21), .inr (59, 23), .inr (59, 26), .inr (59, 33), .inr (60, 0), .inr (60, 78), .inr (60, 79), .inr (60, 80), .inr (60, 81), .inr (60, 87), .inr (60, 96), .inr (60, 174), .inr (60, 175), .inr (60, 176), .inr (60, 177), .inr (60, 183), .inr (60, 192), .inr (60, 270), .inr (60, 271), .inr (60, 272), .inr (60, 273), .inr (60, 279)], [(some hka07_412, hka07_362, [(60, hka07_413)])])
def kan_528 : List ai_Nd := []
set_option maxRecDepth 1000000 in
theorem kak_528 : ai_ck [] [] ka_528 [.inl 100000] kan_528 13 = true := by decide +kernel
theorem kah_528 : ai_holds ka_528 := ai_thm kak_528 ai_nil
def hka07_414 : ai_E := [hka07_5, hka07_0]
def hka07_415 : ai_V := .inr (some (.ref 27))
def hka07_416 : ai_V := .inr (some (.ref 28))
def hka07_417 : ai_V := .inr (some (.ref 29))
def hka07_418 : ai_V := .inr (some (.ref 30))
def hka07_419 : ai_V := .inr (some (.ref 31))
def hka07_420 : ai_N := (.ofNat 0, .ofNat 4, [(0, .ofNat 0, .ofNat 0)])
def hka07_421 : ai_V := .inl (false, hka07_420)
def hka07_422 : ai_C := .inr (.inr (1, [hka07_122, hka07_415, hka07_416, hka07_417, hka07_418, hka07_419, hka07_421, hka07_21]))
def hka07_423 : Bool × Option ai_C := (false, some hka07_422)
def hka07_424 : ai_C := .inl (.int, [(4, hka07_86)])
def hka07_425 : Bool × Option ai_C := (false, some hka07_424)
def hka07_426 : ai_C := .inl (.int, [(4, hka07_78)])
def hka07_427 : Bool × Option ai_C := (false, some hka07_426)
def hka07_428 : ai_W := [hka07_22, hka07_22, hka07_22, hka07_22, hka07_22, hka07_22, hka07_22, hka07_22, hka07_22, hka07_22, hka07_22, hka07_22, hka07_22, hka07_22, hka07_22, hka07_22, hka07_22, hka07_22, hka07_22, hka07_22, hka07_22, hka07_22, hka07_22, hka07_22, hka07_22, hka07_22, hka07_423, hka07_22, hka07_425, hka07_427, hka07_425, hka07_427, hka07_22, hka07_22, hka07_22, hka07_22, hka07_22, hka07_22, hka07_22, hka07_22, hka07_22, hka07_22, hka07_22, hka07_22, hka07_22, hka07_22, hka07_22, hka07_22, hka07_22, hka07_22, hka07_22, hka07_22, hka07_22, hka07_22, hka07_22, hka07_22, hka07_22, hka07_22, hka07_22, hka07_22, hka07_22, hka07_22, hka07_22, hka07_22, hka07_22, hka07_22, hka07_22, hka07_22, hka07_22, hka07_22, hka07_22, hka07_22, hka07_22, hka07_22, hka07_22, hka07_22]
def hka07_429 : ai_C := .inr (.inr (1, [hka07_122, hka07_415, hka07_416, hka07_417, hka07_418, hka07_419, hka07_421, hka07_287]))
/-- NeverAgain$Delayer.takeTrial -/
def ka_530 : ai_K := (203, 0, (hka07_414, [hka07_124, hka07_287], [], hka07_428), [.inr (26, 6), .inr (26, 7)], [(none, hka07_414, [(26, hka07_429), (30, hka07_424), (31, hka07_426)])])
def kan_530 : List ai_Nd := []
set_option maxRecDepth 1000000 in
theorem kak_530 : ai_ck [] [] ka_530 [.inl 100000] kan_530 21 = true := by decide +kernel
theorem kah_530 : ai_holds ka_530 := ai_thm kak_530 ai_nil
def hka07_430 : ai_E := [hka07_0, hka07_5, hka07_0]
def hka07_431 : ai_N := (.ofNat 0, .ofNat 4, [(1, .ofNat 0, .ofNat 0)])
def hka07_432 : ai_V := .inl (false, hka07_431)
def hka07_433 : ai_N := (.negSucc 2147483647, .ofNat 2147483647, [(2, .ofNat 0, .ofNat 0)])
def hka07_434 : ai_V := .inl (false, hka07_433)
def hka07_435 : ai_C := .inr (.inr (1, [hka07_122, hka07_415, hka07_416, hka07_417, hka07_418, hka07_419, hka07_432, hka07_434]))
def hka07_436 : Bool × Option ai_C := (false, some hka07_435)
def hka07_437 : ai_W := [hka07_22, hka07_22, hka07_22, hka07_22, hka07_22, hka07_22, hka07_22, hka07_22, hka07_22, hka07_22, hka07_22, hka07_22, hka07_22, hka07_22, hka07_22, hka07_22, hka07_22, hka07_22, hka07_22, hka07_22, hka07_22, hka07_22, hka07_22, hka07_22, hka07_22, hka07_22, hka07_436, hka07_284, hka07_22, hka07_22, hka07_22, hka07_22, hka07_22, hka07_22, hka07_22, hka07_22, hka07_22, hka07_22, hka07_22, hka07_22, hka07_22, hka07_22, hka07_22, hka07_22, hka07_22, hka07_22, hka07_22, hka07_22, hka07_22, hka07_22, hka07_22, hka07_22, hka07_22, hka07_22, hka07_22, hka07_22, hka07_22, hka07_22, hka07_22, hka07_22, hka07_22, hka07_22, hka07_22, hka07_22, hka07_22, hka07_22, hka07_22, hka07_22, hka07_22, hka07_22, hka07_22, hka07_22, hka07_22, hka07_22, hka07_22, hka07_22]
/-- NeverAgain$Delayer.floorOf -/
def ka_532 : ai_K := (202, 0, (hka07_430, [hka07_124, hka07_19, hka07_120, hka07_120], [], hka07_437), [.inl 1, .inr (26, 6), .inr (26, 7)], [(some hka07_186, hka07_430, [])])
def hka07_438 : ai_E := [hka07_0, hka07_5, hka07_0, hka07_5]
def kan_532 : List ai_Nd := [(4, (hka07_438, [hka07_124, hka07_19, hka07_186, hka07_137], [], hka07_437), [.inl 3], [.inl 99995, .inl 1, .inr (true, .ofNat 4, 3), .inl 100000])]
set_option maxRecDepth 1000000 in
theorem kak_532 : ai_ck [] [] ka_532 [.inl 100000, .inl 0, .inl 0, .inl 0] kan_532 22 = true := by decide +kernel
theorem kah_532 : ai_holds ka_532 := ai_thm kak_532 ai_nil
def hka07_439 : ai_E := [hka07_0, hka07_1, hka07_2, hka07_0, hka07_0, hka07_0, hka07_11, hka07_15, hka07_5, hka07_5, hka07_0]
def hka07_440 : ai_N := (.negSucc 2147483647, .ofNat 2147483647, [(3, .ofNat 0, .ofNat 0)])
def hka07_441 : ai_V := .inl (false, hka07_440)
def hka07_442 : ai_N := (.ofNat 0, .ofNat 60, [(6, .ofNat 0, .ofNat 0)])
def hka07_443 : ai_V := .inl (false, hka07_442)
def hka07_444 : ai_N := (.ofNat 0, .ofNat 5, [(7, .ofNat 0, .ofNat 0)])
def hka07_445 : ai_V := .inl (false, hka07_444)
def hka07_446 : ai_N := (.ofNat 0, .ofNat 4, [(8, .ofNat 0, .ofNat 0)])
def hka07_447 : ai_V := .inl (false, hka07_446)
def hka07_448 : ai_C := .inr (.inr (6, [hka07_140, hka07_141, hka07_142, hka07_143, hka07_144, hka07_145, hka07_204, hka07_206, hka07_441, hka07_272, hka07_274, hka07_443, hka07_445, hka07_447]))
def hka07_449 : Bool × Option ai_C := (false, some hka07_448)
def hka07_450 : ai_N := (.negSucc 2147483647, .ofNat 2147483647, [(10, .ofNat 0, .ofNat 0)])
def hka07_451 : ai_V := .inl (false, hka07_450)
def hka07_452 : ai_C := .inr (.inr (1, [hka07_122, hka07_415, hka07_416, hka07_417, hka07_418, hka07_419, hka07_280, hka07_451]))
def hka07_453 : Bool × Option ai_C := (false, some hka07_452)
def hka07_454 : ai_W := [hka07_22, hka07_449, hka07_22, hka07_22, hka07_22, hka07_22, hka07_22, hka07_284, hka07_22, hka07_22, hka07_22, hka07_22, hka07_22, hka07_22, hka07_22, hka07_22, hka07_22, hka07_22, hka07_22, hka07_22, hka07_22, hka07_22, hka07_22, hka07_22, hka07_22, hka07_22, hka07_453, hka07_22, hka07_22, hka07_22, hka07_22, hka07_22, hka07_22, hka07_22, hka07_22, hka07_22, hka07_22, hka07_22, hka07_22, hka07_22, hka07_22, hka07_22, hka07_22, hka07_22, hka07_22, hka07_22, hka07_22, hka07_22, hka07_22, hka07_22, hka07_22, hka07_22, hka07_22, hka07_22, hka07_22, hka07_22, hka07_22, hka07_22, hka07_22, hka07_22, hka07_22, hka07_22, hka07_22, hka07_22, hka07_22, hka07_22, hka07_22, hka07_22, hka07_22, hka07_22, hka07_22, hka07_22, hka07_22, hka07_22, hka07_22, hka07_22]
def hka07_455 : ai_E := [hka07_0, hka07_1, hka07_2, hka07_0, hka07_0, hka07_0, hka07_11, hka07_15, hka07_5, hka07_2, hka07_0]
/-- NeverAgain$Delayer.someIsLate -/
def ka_533 : ai_K := (204, 0, (hka07_439, [hka07_124, hka07_130, hka07_287, hka07_19, hka07_120], [], hka07_454), [.inl 3, .inr (1, 6), .inr (1, 7), .inr (1, 8), .inr (1, 9), .inr (1, 10), .inr (1, 11), .inr (1, 12), .inr (1, 13), .inr (26, 6), .inr (26, 7)], [(some hka07_291, hka07_455, []), (some hka07_287, hka07_439, [])])
def hka07_456 : ai_E := [hka07_0, hka07_1, hka07_2, hka07_0, hka07_0, hka07_0, hka07_11, hka07_15, hka07_5, hka07_5, hka07_0, hka07_5]
def kan_533 : List ai_Nd := [(3, (hka07_456, [hka07_124, hka07_130, hka07_287, hka07_19, hka07_159], [], hka07_454), [.inl 4], [.inl 99996, .inl 1, .inr (true, .ofNat 4, 11), .inl 100000])]
set_option maxRecDepth 1000000 in
theorem kak_533 : ai_ck [] [] ka_533 [.inl 100000, .inl 0, .inl 0, .inl 0] kan_533 20 = true := by decide +kernel
theorem kah_533 : ai_holds ka_533 := ai_thm kak_533 ai_nil
/-- NeverAgain$Delayer.someIsLate -/
def ka_536 : ai_K := (204, 0, (hka07_439, [hka07_124, hka07_130, hka07_291, hka07_19, hka07_120], [], hka07_454), [.inl 3, .inr (1, 6), .inr (1, 7), .inr (1, 8), .inr (1, 9), .inr (1, 10), .inr (1, 11), .inr (1, 12), .inr (1, 13), .inr (26, 6), .inr (26, 7)], [(some hka07_291, hka07_455, []), (some hka07_287, hka07_439, [])])
def kan_536 : List ai_Nd := [(3, (hka07_456, [hka07_124, hka07_130, hka07_291, hka07_19, hka07_159], [], hka07_454), [.inl 4], [.inl 99996, .inl 1, .inr (true, .ofNat 4, 11), .inl 100000])]
set_option maxRecDepth 1000000 in
theorem kak_536 : ai_ck [] [] ka_536 [.inl 100000, .inl 0, .inl 0, .inl 0] kan_536 20 = true := by decide +kernel
theorem kah_536 : ai_holds ka_536 := ai_thm kak_536 ai_nil
def hka07_457 : ai_N := (.ofNat 2, .ofNat 2, [])
def hka07_458 : ai_V := .inl (false, hka07_457)
/-- NeverAgain$Delayer.someIsLate -/
def ka_538 : ai_K := (204, 0, (hka07_439, [hka07_124, hka07_130, hka07_458, hka07_19, hka07_120], [], hka07_454), [.inl 3, .inr (1, 6), .inr (1, 7), .inr (1, 8), .inr (1, 9), .inr (1, 10), .inr (1, 11), .inr (1, 12), .inr (1, 13), .inr (26, 6), .inr (26, 7)], [(some hka07_291, hka07_455, []), (some hka07_287, hka07_439, [])])
def kan_538 : List ai_Nd := [(3, (hka07_456, [hka07_124, hka07_130, hka07_458, hka07_19, hka07_159], [], hka07_454), [.inl 4], [.inl 99996, .inl 1, .inr (true, .ofNat 4, 11), .inl 100000])]
set_option maxRecDepth 1000000 in
theorem kak_538 : ai_ck [] [] ka_538 [.inl 100000, .inl 0, .inl 0, .inl 0] kan_538 20 = true := by decide +kernel
theorem kah_538 : ai_holds ka_538 := ai_thm kak_538 ai_nil
def hka07_459 : ai_N := (.ofNat 3, .ofNat 3, [])
def hka07_460 : ai_V := .inl (false, hka07_459)
/-- NeverAgain$Delayer.someIsLate -/
def ka_540 : ai_K := (204, 0, (hka07_439, [hka07_124, hka07_130, hka07_460, hka07_19, hka07_120], [], hka07_454), [.inl 3, .inr (1, 6), .inr (1, 7), .inr (1, 8), .inr (1, 9), .inr (1, 10), .inr (1, 11), .inr (1, 12), .inr (1, 13), .inr (26, 6), .inr (26, 7)], [(some hka07_291, hka07_455, []), (some hka07_287, hka07_439, [])])
def kan_540 : List ai_Nd := [(3, (hka07_456, [hka07_124, hka07_130, hka07_460, hka07_19, hka07_159], [], hka07_454), [.inl 4], [.inl 99996, .inl 1, .inr (true, .ofNat 4, 11), .inl 100000])]
set_option maxRecDepth 1000000 in
theorem kak_540 : ai_ck [] [] ka_540 [.inl 100000, .inl 0, .inl 0, .inl 0] kan_540 20 = true := by decide +kernel
theorem kah_540 : ai_holds ka_540 := ai_thm kak_540 ai_nil
def hka07_461 : ai_N := (.ofNat 4, .ofNat 4, [])
def hka07_462 : ai_V := .inl (false, hka07_461)
/-- NeverAgain$Delayer.someIsLate -/
def ka_542 : ai_K := (204, 0, (hka07_439, [hka07_124, hka07_130, hka07_462, hka07_19, hka07_120], [], hka07_454), [.inl 3, .inr (1, 6), .inr (1, 7), .inr (1, 8), .inr (1, 9), .inr (1, 10), .inr (1, 11), .inr (1, 12), .inr (1, 13), .inr (26, 6), .inr (26, 7)], [(some hka07_291, hka07_455, []), (some hka07_287, hka07_439, [])])
def kan_542 : List ai_Nd := [(3, (hka07_456, [hka07_124, hka07_130, hka07_462, hka07_19, hka07_159], [], hka07_454), [.inl 4], [.inl 99996, .inl 1, .inr (true, .ofNat 4, 11), .inl 100000])]
set_option maxRecDepth 1000000 in
theorem kak_542 : ai_ck [] [] ka_542 [.inl 100000, .inl 0, .inl 0, .inl 0] kan_542 20 = true := by decide +kernel
theorem kah_542 : ai_holds ka_542 := ai_thm kak_542 ai_nil
def hka07_463 : ai_W := [hka07_22, hka07_22, hka07_22, hka07_22, hka07_22, hka07_22, hka07_22, hka07_22, hka07_22, hka07_22, hka07_22, hka07_22, hka07_22, hka07_22, hka07_22, hka07_22, hka07_22, hka07_22, hka07_22, hka07_22, hka07_22, hka07_22, hka07_22, hka07_22, hka07_22, hka07_22, hka07_436, hka07_22, hka07_425, hka07_427, hka07_425, hka07_427, hka07_22, hka07_22, hka07_22, hka07_22, hka07_22, hka07_22, hka07_22, hka07_22, hka07_22, hka07_22, hka07_22, hka07_22, hka07_22, hka07_22, hka07_22, hka07_22, hka07_22, hka07_22, hka07_22, hka07_22, hka07_22, hka07_22, hka07_22, hka07_22, hka07_22, hka07_22, hka07_22, hka07_22, hka07_22, hka07_22, hka07_22, hka07_22, hka07_22, hka07_22, hka07_22, hka07_22, hka07_22, hka07_22, hka07_22, hka07_22, hka07_22, hka07_22, hka07_22, hka07_22]
def hka07_464 : ai_C := .inr (.inr (1, [hka07_122, hka07_415, hka07_416, hka07_417, hka07_418, hka07_419, hka07_432, hka07_19]))
/-- NeverAgain$Delayer.takeTrial -/
def ka_545 : ai_K := (203, 0, (hka07_430, [hka07_124, hka07_19], [], hka07_463), [.inl 1, .inr (26, 6), .inr (26, 7)], [(none, hka07_430, [(26, hka07_464), (30, hka07_424), (31, hka07_426)])])
def kan_545 : List ai_Nd := []
set_option maxRecDepth 1000000 in
theorem kak_545 : ai_ck [] [] ka_545 [.inl 100000] kan_545 21 = true := by decide +kernel
theorem kah_545 : ai_holds ka_545 := ai_thm kak_545 ai_nil
def hka07_465 : ai_E := [hka07_0, hka07_0, hka07_5, hka07_0]
def hka07_466 : ai_N := (.ofNat 5, .ofNat 5, [])
def hka07_467 : ai_V := .inl (false, hka07_466)
def hka07_468 : ai_C := .inr (.inr (1, [hka07_122, hka07_415, hka07_416, hka07_417, hka07_418, hka07_419, hka07_345, hka07_441]))
def hka07_469 : Bool × Option ai_C := (false, some hka07_468)
def hka07_470 : ai_W := [hka07_22, hka07_22, hka07_22, hka07_22, hka07_22, hka07_22, hka07_22, hka07_22, hka07_22, hka07_22, hka07_22, hka07_22, hka07_22, hka07_22, hka07_22, hka07_22, hka07_22, hka07_22, hka07_22, hka07_22, hka07_22, hka07_22, hka07_22, hka07_22, hka07_22, hka07_22, hka07_469, hka07_284, hka07_425, hka07_427, hka07_425, hka07_427, hka07_22, hka07_22, hka07_22, hka07_22, hka07_22, hka07_22, hka07_22, hka07_22, hka07_22, hka07_22, hka07_22, hka07_22, hka07_22, hka07_22, hka07_22, hka07_22, hka07_22, hka07_22, hka07_22, hka07_22, hka07_22, hka07_22, hka07_22, hka07_22, hka07_22, hka07_22, hka07_22, hka07_22, hka07_22, hka07_22, hka07_22, hka07_22, hka07_22, hka07_22, hka07_22, hka07_22, hka07_22, hka07_22, hka07_22, hka07_22, hka07_22, hka07_22, hka07_22, hka07_22]
def hka07_471 : Int × Int := (.ofNat 0, .ofNat 0)
def hka07_472 : Int × Int := (.negSucc 2147483646, .ofNat 2147483647)
def hka07_473 : ai_E := [hka07_471, hka07_0, hka07_5, hka07_472]
def hka07_474 : ai_C := .inr (.inr (1, [hka07_122, hka07_415, hka07_416, hka07_417, hka07_418, hka07_419, hka07_345, hka07_21]))
def hka07_475 : ai_E := [hka07_0, hka07_0, hka07_5, hka07_472]
/-- NeverAgain$Delayer.searchFrom -/
def ka_546 : ai_K := (172, 1, (hka07_465, [hka07_124, hka07_130, hka07_467, hka07_19, hka07_21, hka07_120], [], hka07_470), [.inl 3, .inl 4, .inr (26, 6), .inr (26, 7)], [(none, hka07_465, []), (none, hka07_473, [(26, hka07_474), (30, hka07_424), (31, hka07_426)]), (none, hka07_475, [])])
def kan_546 : List ai_Nd := []
set_option maxRecDepth 1000000 in
theorem kak_546 : ai_ck [ka_545, ka_532] [] ka_546 [.inl 100000] kan_546 15 = true := by decide +kernel
theorem kah_546 : ai_holds ka_546 := ai_thm kak_546 (ai_cons kah_545 (ai_cons kah_532 ai_nil))
def hka07_476 : ai_E := [hka07_8, hka07_0, hka07_1, hka07_2, hka07_0, hka07_0, hka07_0, hka07_11, hka07_15, hka07_5]
def hka07_477 : ai_N := (.ofNat 0, .ofNat 3, [(0, .ofNat 0, .ofNat 0)])
def hka07_478 : ai_V := .inl (false, hka07_477)
def hka07_479 : Int × Int := (.ofNat 1, .ofNat 3)
def hka07_480 : ai_E := [hka07_479, hka07_0, hka07_1, hka07_2, hka07_0, hka07_0, hka07_0, hka07_11, hka07_15, hka07_5]
/-- NeverAgain$Delayer.isBehindItsLike -/
def ka_553 : ai_K := (205, 0, (hka07_476, [hka07_124, hka07_130, hka07_478, hka07_21, hka07_120, hka07_120], [], hka07_285), [.inl 2, .inl 3, .inr (1, 6), .inr (1, 7), .inr (1, 8), .inr (1, 9), .inr (1, 10), .inr (1, 11), .inr (1, 12), .inr (1, 13)], [(some hka07_291, hka07_480, []), (some hka07_287, hka07_476, [])])
def hka07_481 : ai_E := [hka07_8, hka07_0, hka07_1, hka07_2, hka07_0, hka07_0, hka07_0, hka07_11, hka07_15, hka07_5, hka07_8]
def hka07_482 : ai_N := (.ofNat 0, .ofNat 3, [(10, .ofNat 0, .ofNat 0)])
def hka07_483 : ai_V := .inl (false, hka07_482)
def kan_553 : List ai_Nd := [(3, (hka07_481, [hka07_124, hka07_130, hka07_478, hka07_21, hka07_483, hka07_120], [], hka07_285), [.inl 4], [.inl 99996, .inl 1, .inr (true, .ofNat 3, 10), .inl 100000])]
set_option maxRecDepth 1000000 in
theorem kak_553 : ai_ck [] [] ka_553 [.inl 100000, .inl 0, .inl 0, .inl 0] kan_553 36 = true := by decide +kernel
theorem kah_553 : ai_holds ka_553 := ai_thm kak_553 ai_nil
def hka07_484 : ai_E := [hka07_0, hka07_0, hka07_8, hka07_1, hka07_2, hka07_0, hka07_0, hka07_0, hka07_11, hka07_15, hka07_5, hka07_117, hka07_5, hka07_0]
def hka07_485 : ai_N := (.ofNat 0, .ofNat 3, [(2, .ofNat 0, .ofNat 0)])
def hka07_486 : ai_V := .inl (false, hka07_485)
def hka07_487 : ai_N := (.ofNat 0, .ofNat 128, [(11, .ofNat 0, .ofNat 0)])
def hka07_488 : ai_V := .inl (false, hka07_487)
def hka07_489 : ai_C := .inr (.inr (0, [hka07_167, hka07_168, hka07_169, hka07_130, hka07_488]))
def hka07_490 : Bool × Option ai_C := (false, some hka07_489)
def hka07_491 : ai_C := .inr (.inr (1, [hka07_122, hka07_415, hka07_416, hka07_417, hka07_418, hka07_419, hka07_316, hka07_222]))
def hka07_492 : Bool × Option ai_C := (false, some hka07_491)
def hka07_493 : ai_W := [hka07_22, hka07_359, hka07_22, hka07_164, hka07_22, hka07_22, hka07_284, hka07_22, hka07_22, hka07_22, hka07_22, hka07_22, hka07_22, hka07_22, hka07_22, hka07_22, hka07_22, hka07_490, hka07_175, hka07_178, hka07_180, hka07_22, hka07_22, hka07_22, hka07_22, hka07_22, hka07_492, hka07_284, hka07_425, hka07_427, hka07_425, hka07_427, hka07_22, hka07_22, hka07_22, hka07_22, hka07_22, hka07_22, hka07_22, hka07_22, hka07_22, hka07_22, hka07_22, hka07_22, hka07_22, hka07_22, hka07_22, hka07_22, hka07_22, hka07_22, hka07_22, hka07_22, hka07_22, hka07_22, hka07_22, hka07_22, hka07_22, hka07_22, hka07_22, hka07_22, hka07_22, hka07_22, hka07_22, hka07_22, hka07_22, hka07_22, hka07_22, hka07_22, hka07_22, hka07_22, hka07_22, hka07_22, hka07_22, hka07_22, hka07_22, hka07_22]
def hka07_494 : ai_N := (.ofNat 0, .ofNat 128, [(11, .negSucc 0, .ofNat 0)])
def hka07_495 : ai_V := .inl (false, hka07_494)
def hka07_496 : ai_C := .inr (.inr (0, [hka07_167, hka07_168, hka07_169, hka07_130, hka07_495]))
def hka07_497 : ai_C := .inr (.inr (1, [hka07_122, hka07_415, hka07_416, hka07_417, hka07_418, hka07_419, hka07_316, hka07_186]))
/-- NeverAgain$Delayer.tryNumbers -/
def ka_559 : ai_K := (206, 3, (hka07_484, [hka07_124, hka07_130, hka07_462, hka07_19, hka07_21, hka07_486, hka07_120, hka07_120, hka07_120, hka07_120], [], hka07_493), [.inl 3, .inl 4, .inl 5, .inr (1, 6), .inr (1, 7), .inr (1, 8), .inr (1, 9), .inr (1, 10), .inr (1, 11), .inr (1, 12), .inr (1, 13), .inr (17, 4), .inr (26, 6), .inr (26, 7)], [(none, hka07_484, [(17, hka07_496), (18, hka07_174), (19, hka07_177), (20, hka07_179), (26, hka07_497), (28, hka07_424), (29, hka07_426), (30, hka07_424), (31, hka07_426)]), (none, hka07_484, [(17, hka07_496), (18, hka07_174), (19, hka07_177), (20, hka07_179), (26, hka07_497), (28, hka07_424), (29, hka07_426), (30, hka07_424), (31, hka07_426)])])
def hka07_498 : ai_E := [hka07_0, hka07_0, hka07_8, hka07_1, hka07_2, hka07_0, hka07_0, hka07_0, hka07_11, hka07_15, hka07_5, hka07_117, hka07_5, hka07_0, hka07_191]
def hka07_499 : ai_N := (.ofNat 1, .ofNat 17, [(14, .ofNat 0, .ofNat 0)])
def hka07_500 : ai_V := .inl (false, hka07_499)
def hka07_501 : Bool × Option ai_C := (true, some hka07_496)
def hka07_502 : Bool × Option ai_C := (true, some hka07_497)
def hka07_503 : Bool × Option ai_C := (true, some hka07_424)
def hka07_504 : Bool × Option ai_C := (true, some hka07_426)
def hka07_505 : ai_W := [hka07_22, hka07_359, hka07_22, hka07_164, hka07_22, hka07_22, hka07_284, hka07_22, hka07_22, hka07_22, hka07_22, hka07_22, hka07_22, hka07_22, hka07_22, hka07_22, hka07_22, hka07_501, hka07_198, hka07_199, hka07_200, hka07_22, hka07_22, hka07_22, hka07_22, hka07_22, hka07_502, hka07_284, hka07_503, hka07_504, hka07_503, hka07_504, hka07_22, hka07_22, hka07_22, hka07_22, hka07_22, hka07_22, hka07_22, hka07_22, hka07_22, hka07_22, hka07_22, hka07_22, hka07_22, hka07_22, hka07_22, hka07_22, hka07_22, hka07_22, hka07_22, hka07_22, hka07_22, hka07_22, hka07_22, hka07_22, hka07_22, hka07_22, hka07_22, hka07_22, hka07_22, hka07_22, hka07_22, hka07_22, hka07_22, hka07_22, hka07_22, hka07_22, hka07_22, hka07_22, hka07_22, hka07_22, hka07_22, hka07_22, hka07_22, hka07_22]
def kan_559 : List ai_Nd := [(33, (hka07_498, [hka07_124, hka07_130, hka07_462, hka07_19, hka07_21, hka07_486, hka07_186, hka07_186, hka07_186, hka07_500], [], hka07_505), [.inl 9], [.inl 99966, .inl 1, .inr (true, .ofNat 17, 14), .inl 100000])]
set_option maxRecDepth 1000000 in
theorem kak_559 : ai_ck [ka_438, ka_374, ka_546, ka_532, ka_394, ka_378] [] ka_559 [.inl 100000, .inl 0, .inl 0, .inl 0] kan_559 51 = true := by decide +kernel
theorem kah_559 : ai_holds ka_559 := ai_thm kak_559 (ai_cons kah_438 (ai_cons kah_374 (ai_cons kah_546 (ai_cons kah_532 (ai_cons kah_394 (ai_cons kah_378 ai_nil))))))
def hka07_506 : ai_E := [hka07_0, hka07_0, hka07_1, hka07_2, hka07_0, hka07_0, hka07_0, hka07_11, hka07_15, hka07_5, hka07_117, hka07_5, hka07_0]
def hka07_507 : ai_N := (.ofNat 0, .ofNat 128, [(10, .ofNat 0, .ofNat 0)])
def hka07_508 : ai_V := .inl (false, hka07_507)
def hka07_509 : ai_C := .inr (.inr (0, [hka07_167, hka07_168, hka07_169, hka07_130, hka07_508]))
def hka07_510 : Bool × Option ai_C := (false, some hka07_509)
def hka07_511 : ai_C := .inr (.inr (1, [hka07_122, hka07_415, hka07_416, hka07_417, hka07_418, hka07_419, hka07_159, hka07_378]))
def hka07_512 : Bool × Option ai_C := (false, some hka07_511)
def hka07_513 : ai_W := [hka07_22, hka07_282, hka07_22, hka07_164, hka07_22, hka07_22, hka07_284, hka07_284, hka07_22, hka07_22, hka07_22, hka07_22, hka07_22, hka07_22, hka07_22, hka07_22, hka07_22, hka07_510, hka07_175, hka07_178, hka07_180, hka07_22, hka07_22, hka07_22, hka07_22, hka07_22, hka07_512, hka07_284, hka07_425, hka07_427, hka07_425, hka07_427, hka07_22, hka07_22, hka07_22, hka07_22, hka07_22, hka07_22, hka07_22, hka07_22, hka07_22, hka07_22, hka07_22, hka07_22, hka07_22, hka07_22, hka07_22, hka07_22, hka07_22, hka07_22, hka07_22, hka07_22, hka07_22, hka07_22, hka07_22, hka07_22, hka07_22, hka07_22, hka07_22, hka07_22, hka07_22, hka07_22, hka07_22, hka07_22, hka07_22, hka07_22, hka07_22, hka07_22, hka07_22, hka07_22, hka07_22, hka07_22, hka07_22, hka07_22, hka07_22, hka07_22]
def hka07_514 : ai_E := [hka07_471, hka07_0, hka07_1, hka07_2, hka07_0, hka07_0, hka07_0, hka07_11, hka07_15, hka07_5, hka07_117, hka07_5, hka07_472]
def hka07_515 : ai_C := .inr (.inr (1, [hka07_122, hka07_415, hka07_416, hka07_417, hka07_418, hka07_419, hka07_159, hka07_21]))
def hka07_516 : ai_E := [hka07_0, hka07_0, hka07_1, hka07_2, hka07_0, hka07_0, hka07_0, hka07_11, hka07_15, hka07_5, hka07_117, hka07_5, hka07_472]
def hka07_517 : ai_N := (.ofNat 0, .ofNat 127, [(10, .negSucc 127, .ofNat 0)])
def hka07_518 : ai_V := .inl (false, hka07_517)
def hka07_519 : ai_C := .inr (.inr (0, [hka07_167, hka07_168, hka07_169, hka07_130, hka07_518]))
def hka07_520 : ai_C := .inr (.inr (1, [hka07_122, hka07_415, hka07_416, hka07_417, hka07_418, hka07_419, hka07_159, hka07_186]))
/-- NeverAgain$Delayer.searchFrom -/
def ka_560 : ai_K := (172, 4, (hka07_506, [hka07_124, hka07_130, hka07_462, hka07_19, hka07_21, hka07_120], [], hka07_513), [.inl 3, .inl 4, .inr (1, 6), .inr (1, 7), .inr (1, 8), .inr (1, 9), .inr (1, 10), .inr (1, 11), .inr (1, 12), .inr (1, 13), .inr (17, 4), .inr (26, 6), .inr (26, 7)], [(none, hka07_506, []), (none, hka07_514, [(26, hka07_515), (30, hka07_424), (31, hka07_426)]), (none, hka07_516, [(17, hka07_519), (18, hka07_174), (19, hka07_177), (20, hka07_179), (26, hka07_520), (28, hka07_424), (29, hka07_426), (30, hka07_424), (31, hka07_426)])])
def hka07_521 : ai_E := [hka07_0, hka07_0, hka07_1, hka07_2, hka07_0, hka07_0, hka07_0, hka07_11, hka07_15, hka07_5, hka07_117, hka07_5, hka07_472, hka07_5]
def hka07_522 : ai_N := (.ofNat 0, .ofNat 4, [(13, .ofNat 0, .ofNat 0)])
def hka07_523 : ai_V := .inl (false, hka07_522)
def hka07_524 : ai_N := (.ofNat 0, .ofNat 128, [(10, .negSucc 127, .ofNat 0)])
def hka07_525 : ai_V := .inl (false, hka07_524)
def hka07_526 : ai_C := .inr (.inr (0, [hka07_167, hka07_168, hka07_169, hka07_130, hka07_525]))
def hka07_527 : Bool × Option ai_C := (true, some hka07_526)
def hka07_528 : Bool × Option ai_C := (true, some hka07_520)
def hka07_529 : ai_W := [hka07_22, hka07_282, hka07_22, hka07_164, hka07_22, hka07_22, hka07_284, hka07_284, hka07_22, hka07_22, hka07_22, hka07_22, hka07_22, hka07_22, hka07_22, hka07_22, hka07_22, hka07_527, hka07_198, hka07_199, hka07_200, hka07_22, hka07_22, hka07_22, hka07_22, hka07_22, hka07_528, hka07_284, hka07_503, hka07_504, hka07_503, hka07_504, hka07_22, hka07_22, hka07_22, hka07_22, hka07_22, hka07_22, hka07_22, hka07_22, hka07_22, hka07_22, hka07_22, hka07_22, hka07_22, hka07_22, hka07_22, hka07_22, hka07_22, hka07_22, hka07_22, hka07_22, hka07_22, hka07_22, hka07_22, hka07_22, hka07_22, hka07_22, hka07_22, hka07_22, hka07_22, hka07_22, hka07_22, hka07_22, hka07_22, hka07_22, hka07_22, hka07_22, hka07_22, hka07_22, hka07_22, hka07_22, hka07_22, hka07_22, hka07_22, hka07_22]
def kan_560 : List ai_Nd := [(46, (hka07_521, [hka07_124, hka07_130, hka07_462, hka07_19, hka07_21, hka07_523], [], hka07_529), [.inl 5], [.inl 99953, .inl 1, .inr (true, .ofNat 4, 13), .inl 100000])]
set_option maxRecDepth 1000000 in
theorem kak_560 : ai_ck [ka_375, ka_438, ka_545, ka_546, ka_532, ka_542, ka_553, ka_559] [] ka_560 [.inl 100000, .inl 0, .inl 0, .inl 0] kan_560 27 = true := by decide +kernel
theorem kah_560 : ai_holds ka_560 := ai_thm kak_560 (ai_cons kah_375 (ai_cons kah_438 (ai_cons kah_545 (ai_cons kah_546 (ai_cons kah_532 (ai_cons kah_542 (ai_cons kah_553 (ai_cons kah_559 ai_nil))))))))
def hka07_530 : ai_W := [hka07_22, hka07_359, hka07_22, hka07_164, hka07_22, hka07_22, hka07_284, hka07_284, hka07_22, hka07_22, hka07_22, hka07_22, hka07_22, hka07_22, hka07_22, hka07_22, hka07_22, hka07_490, hka07_175, hka07_178, hka07_180, hka07_22, hka07_22, hka07_22, hka07_22, hka07_22, hka07_492, hka07_284, hka07_425, hka07_427, hka07_425, hka07_427, hka07_22, hka07_22, hka07_22, hka07_22, hka07_22, hka07_22, hka07_22, hka07_22, hka07_22, hka07_22, hka07_22, hka07_22, hka07_22, hka07_22, hka07_22, hka07_22, hka07_22, hka07_22, hka07_22, hka07_22, hka07_22, hka07_22, hka07_22, hka07_22, hka07_22, hka07_22, hka07_22, hka07_22, hka07_22, hka07_22, hka07_22, hka07_22, hka07_22, hka07_22, hka07_22, hka07_22, hka07_22, hka07_22, hka07_22, hka07_22, hka07_22, hka07_22, hka07_22, hka07_22]
def hka07_531 : ai_N := (.ofNat 0, .ofNat 128, [(11, .negSucc 127, .ofNat 0)])
def hka07_532 : ai_V := .inl (false, hka07_531)
def hka07_533 : ai_C := .inr (.inr (0, [hka07_167, hka07_168, hka07_169, hka07_130, hka07_532]))
/-- NeverAgain$Delayer.tryNumbers -/
def ka_575 : ai_K := (206, 5, (hka07_484, [hka07_124, hka07_130, hka07_460, hka07_19, hka07_21, hka07_486, hka07_120, hka07_120, hka07_120, hka07_120], [], hka07_530), [.inl 3, .inl 4, .inl 5, .inr (1, 6), .inr (1, 7), .inr (1, 8), .inr (1, 9), .inr (1, 10), .inr (1, 11), .inr (1, 12), .inr (1, 13), .inr (17, 4), .inr (26, 6), .inr (26, 7)], [(none, hka07_484, [(17, hka07_533), (18, hka07_174), (19, hka07_177), (20, hka07_179), (26, hka07_497), (28, hka07_424), (29, hka07_426), (30, hka07_424), (31, hka07_426)]), (none, hka07_484, [(17, hka07_533), (18, hka07_174), (19, hka07_177), (20, hka07_179), (26, hka07_497), (28, hka07_424), (29, hka07_426), (30, hka07_424), (31, hka07_426)])])
def hka07_534 : Bool × Option ai_C := (true, some hka07_533)
def hka07_535 : ai_W := [hka07_22, hka07_359, hka07_22, hka07_164, hka07_22, hka07_22, hka07_284, hka07_284, hka07_22, hka07_22, hka07_22, hka07_22, hka07_22, hka07_22, hka07_22, hka07_22, hka07_22, hka07_534, hka07_198, hka07_199, hka07_200, hka07_22, hka07_22, hka07_22, hka07_22, hka07_22, hka07_502, hka07_284, hka07_503, hka07_504, hka07_503, hka07_504, hka07_22, hka07_22, hka07_22, hka07_22, hka07_22, hka07_22, hka07_22, hka07_22, hka07_22, hka07_22, hka07_22, hka07_22, hka07_22, hka07_22, hka07_22, hka07_22, hka07_22, hka07_22, hka07_22, hka07_22, hka07_22, hka07_22, hka07_22, hka07_22, hka07_22, hka07_22, hka07_22, hka07_22, hka07_22, hka07_22, hka07_22, hka07_22, hka07_22, hka07_22, hka07_22, hka07_22, hka07_22, hka07_22, hka07_22, hka07_22, hka07_22, hka07_22, hka07_22, hka07_22]
def kan_575 : List ai_Nd := [(33, (hka07_498, [hka07_124, hka07_130, hka07_460, hka07_19, hka07_21, hka07_486, hka07_186, hka07_186, hka07_186, hka07_500], [], hka07_535), [.inl 9], [.inl 99966, .inl 1, .inr (true, .ofNat 17, 14), .inl 100000])]
set_option maxRecDepth 1000000 in
theorem kak_575 : ai_ck [ka_438, ka_374, ka_532, ka_394, ka_378, ka_560] [] ka_575 [.inl 100000, .inl 0, .inl 0, .inl 0] kan_575 51 = true := by decide +kernel
theorem kah_575 : ai_holds ka_575 := ai_thm kak_575 (ai_cons kah_438 (ai_cons kah_374 (ai_cons kah_532 (ai_cons kah_394 (ai_cons kah_378 (ai_cons kah_560 ai_nil))))))
/-- NeverAgain$Delayer.searchFrom -/
def ka_576 : ai_K := (172, 6, (hka07_506, [hka07_124, hka07_130, hka07_460, hka07_19, hka07_21, hka07_120], [], hka07_513), [.inl 3, .inl 4, .inr (1, 6), .inr (1, 7), .inr (1, 8), .inr (1, 9), .inr (1, 10), .inr (1, 11), .inr (1, 12), .inr (1, 13), .inr (17, 4), .inr (26, 6), .inr (26, 7)], [(none, hka07_506, []), (none, hka07_514, [(26, hka07_515), (30, hka07_424), (31, hka07_426)]), (none, hka07_516, [(17, hka07_519), (18, hka07_174), (19, hka07_177), (20, hka07_179), (26, hka07_520), (28, hka07_424), (29, hka07_426), (30, hka07_424), (31, hka07_426)])])
def kan_576 : List ai_Nd := [(46, (hka07_521, [hka07_124, hka07_130, hka07_460, hka07_19, hka07_21, hka07_523], [], hka07_529), [.inl 5], [.inl 99953, .inl 1, .inr (true, .ofNat 4, 13), .inl 100000])]
set_option maxRecDepth 1000000 in
theorem kak_576 : ai_ck [ka_375, ka_438, ka_545, ka_532, ka_540, ka_553, ka_560, ka_575] [] ka_576 [.inl 100000, .inl 0, .inl 0, .inl 0] kan_576 27 = true := by decide +kernel
theorem kah_576 : ai_holds ka_576 := ai_thm kak_576 (ai_cons kah_375 (ai_cons kah_438 (ai_cons kah_545 (ai_cons kah_532 (ai_cons kah_540 (ai_cons kah_553 (ai_cons kah_560 (ai_cons kah_575 ai_nil))))))))
/-- NeverAgain$Delayer.tryNumbers -/
def ka_596 : ai_K := (206, 7, (hka07_484, [hka07_124, hka07_130, hka07_458, hka07_19, hka07_21, hka07_486, hka07_120, hka07_120, hka07_120, hka07_120], [], hka07_530), [.inl 3, .inl 4, .inl 5, .inr (1, 6), .inr (1, 7), .inr (1, 8), .inr (1, 9), .inr (1, 10), .inr (1, 11), .inr (1, 12), .inr (1, 13), .inr (17, 4), .inr (26, 6), .inr (26, 7)], [(none, hka07_484, [(17, hka07_533), (18, hka07_174), (19, hka07_177), (20, hka07_179), (26, hka07_497), (28, hka07_424), (29, hka07_426), (30, hka07_424), (31, hka07_426)]), (none, hka07_484, [(17, hka07_533), (18, hka07_174), (19, hka07_177), (20, hka07_179), (26, hka07_497), (28, hka07_424), (29, hka07_426), (30, hka07_424), (31, hka07_426)])])
def kan_596 : List ai_Nd := [(33, (hka07_498, [hka07_124, hka07_130, hka07_458, hka07_19, hka07_21, hka07_486, hka07_186, hka07_186, hka07_186, hka07_500], [], hka07_535), [.inl 9], [.inl 99966, .inl 1, .inr (true, .ofNat 17, 14), .inl 100000])]
set_option maxRecDepth 1000000 in
theorem kak_596 : ai_ck [ka_438, ka_374, ka_532, ka_394, ka_378, ka_576] [] ka_596 [.inl 100000, .inl 0, .inl 0, .inl 0] kan_596 51 = true := by decide +kernel
theorem kah_596 : ai_holds ka_596 := ai_thm kak_596 (ai_cons kah_438 (ai_cons kah_374 (ai_cons kah_532 (ai_cons kah_394 (ai_cons kah_378 (ai_cons kah_576 ai_nil))))))
/-- NeverAgain$Delayer.searchFrom -/
def ka_597 : ai_K := (172, 8, (hka07_506, [hka07_124, hka07_130, hka07_458, hka07_19, hka07_21, hka07_120], [], hka07_513), [.inl 3, .inl 4, .inr (1, 6), .inr (1, 7), .inr (1, 8), .inr (1, 9), .inr (1, 10), .inr (1, 11), .inr (1, 12), .inr (1, 13), .inr (17, 4), .inr (26, 6), .inr (26, 7)], [(none, hka07_506, []), (none, hka07_514, [(26, hka07_515), (30, hka07_424), (31, hka07_426)]), (none, hka07_516, [(17, hka07_519), (18, hka07_174), (19, hka07_177), (20, hka07_179), (26, hka07_520), (28, hka07_424), (29, hka07_426), (30, hka07_424), (31, hka07_426)])])
def kan_597 : List ai_Nd := [(46, (hka07_521, [hka07_124, hka07_130, hka07_458, hka07_19, hka07_21, hka07_523], [], hka07_529), [.inl 5], [.inl 99953, .inl 1, .inr (true, .ofNat 4, 13), .inl 100000])]
set_option maxRecDepth 1000000 in
theorem kak_597 : ai_ck [ka_375, ka_438, ka_545, ka_532, ka_538, ka_553, ka_576, ka_596] [] ka_597 [.inl 100000, .inl 0, .inl 0, .inl 0] kan_597 27 = true := by decide +kernel
theorem kah_597 : ai_holds ka_597 := ai_thm kak_597 (ai_cons kah_375 (ai_cons kah_438 (ai_cons kah_545 (ai_cons kah_532 (ai_cons kah_538 (ai_cons kah_553 (ai_cons kah_576 (ai_cons kah_596 ai_nil))))))))
/-- NeverAgain$Delayer.tryNumbers -/
def ka_622 : ai_K := (206, 9, (hka07_484, [hka07_124, hka07_130, hka07_291, hka07_19, hka07_21, hka07_486, hka07_120, hka07_120, hka07_120, hka07_120], [], hka07_530), [.inl 3, .inl 4, .inl 5, .inr (1, 6), .inr (1, 7), .inr (1, 8), .inr (1, 9), .inr (1, 10), .inr (1, 11), .inr (1, 12), .inr (1, 13), .inr (17, 4), .inr (26, 6), .inr (26, 7)], [(none, hka07_484, [(17, hka07_533), (18, hka07_174), (19, hka07_177), (20, hka07_179), (26, hka07_497), (28, hka07_424), (29, hka07_426), (30, hka07_424), (31, hka07_426)]), (none, hka07_484, [(17, hka07_533), (18, hka07_174), (19, hka07_177), (20, hka07_179), (26, hka07_497), (28, hka07_424), (29, hka07_426), (30, hka07_424), (31, hka07_426)])])
def kan_622 : List ai_Nd := [(33, (hka07_498, [hka07_124, hka07_130, hka07_291, hka07_19, hka07_21, hka07_486, hka07_186, hka07_186, hka07_186, hka07_500], [], hka07_535), [.inl 9], [.inl 99966, .inl 1, .inr (true, .ofNat 17, 14), .inl 100000])]
set_option maxRecDepth 1000000 in
theorem kak_622 : ai_ck [ka_438, ka_374, ka_532, ka_394, ka_378, ka_597] [] ka_622 [.inl 100000, .inl 0, .inl 0, .inl 0] kan_622 51 = true := by decide +kernel
theorem kah_622 : ai_holds ka_622 := ai_thm kak_622 (ai_cons kah_438 (ai_cons kah_374 (ai_cons kah_532 (ai_cons kah_394 (ai_cons kah_378 (ai_cons kah_597 ai_nil))))))
/-- NeverAgain$Delayer.searchFrom -/
def ka_623 : ai_K := (172, 10, (hka07_506, [hka07_124, hka07_130, hka07_291, hka07_19, hka07_21, hka07_120], [], hka07_513), [.inl 3, .inl 4, .inr (1, 6), .inr (1, 7), .inr (1, 8), .inr (1, 9), .inr (1, 10), .inr (1, 11), .inr (1, 12), .inr (1, 13), .inr (17, 4), .inr (26, 6), .inr (26, 7)], [(none, hka07_506, []), (none, hka07_514, [(26, hka07_515), (30, hka07_424), (31, hka07_426)]), (none, hka07_516, [(17, hka07_519), (18, hka07_174), (19, hka07_177), (20, hka07_179), (26, hka07_520), (28, hka07_424), (29, hka07_426), (30, hka07_424), (31, hka07_426)])])
def kan_623 : List ai_Nd := [(46, (hka07_521, [hka07_124, hka07_130, hka07_291, hka07_19, hka07_21, hka07_523], [], hka07_529), [.inl 5], [.inl 99953, .inl 1, .inr (true, .ofNat 4, 13), .inl 100000])]
set_option maxRecDepth 1000000 in
theorem kak_623 : ai_ck [ka_375, ka_438, ka_545, ka_532, ka_536, ka_553, ka_597, ka_622] [] ka_623 [.inl 100000, .inl 0, .inl 0, .inl 0] kan_623 27 = true := by decide +kernel
theorem kah_623 : ai_holds ka_623 := ai_thm kak_623 (ai_cons kah_375 (ai_cons kah_438 (ai_cons kah_545 (ai_cons kah_532 (ai_cons kah_536 (ai_cons kah_553 (ai_cons kah_597 (ai_cons kah_622 ai_nil))))))))
def hka07_536 : ai_W := [hka07_22, hka07_22, hka07_22, hka07_22, hka07_22, hka07_22, hka07_22, hka07_22, hka07_22, hka07_22, hka07_22, hka07_22, hka07_22, hka07_22, hka07_22, hka07_22, hka07_22, hka07_22, hka07_22, hka07_22, hka07_22, hka07_22, hka07_22, hka07_22, hka07_22, hka07_22, hka07_436, hka07_284, hka07_425, hka07_427, hka07_425, hka07_427, hka07_22, hka07_22, hka07_22, hka07_22, hka07_22, hka07_22, hka07_22, hka07_22, hka07_22, hka07_22, hka07_22, hka07_22, hka07_22, hka07_22, hka07_22, hka07_22, hka07_22, hka07_22, hka07_22, hka07_22, hka07_22, hka07_22, hka07_22, hka07_22, hka07_22, hka07_22, hka07_22, hka07_22, hka07_22, hka07_22, hka07_22, hka07_22, hka07_22, hka07_22, hka07_22, hka07_22, hka07_22, hka07_22, hka07_22, hka07_22, hka07_22, hka07_22, hka07_22, hka07_22]
def hka07_537 : ai_E := [hka07_471, hka07_5, hka07_472]
def hka07_538 : ai_C := .inr (.inr (1, [hka07_122, hka07_415, hka07_416, hka07_417, hka07_418, hka07_419, hka07_432, hka07_287]))
def hka07_539 : ai_E := [hka07_0, hka07_5, hka07_472]
/-- NeverAgain$Delayer.searchFrom -/
def ka_629 : ai_K := (172, 1, (hka07_430, [hka07_124, hka07_130, hka07_467, hka07_19, hka07_287, hka07_120], [], hka07_536), [.inl 3, .inr (26, 6), .inr (26, 7)], [(none, hka07_430, []), (none, hka07_537, [(26, hka07_538), (30, hka07_424), (31, hka07_426)]), (none, hka07_539, [])])
def kan_629 : List ai_Nd := []
set_option maxRecDepth 1000000 in
theorem kak_629 : ai_ck [ka_530, ka_532] [] ka_629 [.inl 100000] kan_629 15 = true := by decide +kernel
theorem kah_629 : ai_holds ka_629 := ai_thm kak_629 (ai_cons kah_530 (ai_cons kah_532 ai_nil))
def hka07_540 : ai_E := [hka07_0, hka07_8, hka07_1, hka07_2, hka07_0, hka07_0, hka07_0, hka07_11, hka07_15, hka07_5, hka07_117, hka07_5, hka07_0]
def hka07_541 : ai_N := (.ofNat 0, .ofNat 3, [(1, .ofNat 0, .ofNat 0)])
def hka07_542 : ai_V := .inl (false, hka07_541)
def hka07_543 : ai_W := [hka07_22, hka07_282, hka07_22, hka07_164, hka07_22, hka07_22, hka07_284, hka07_22, hka07_22, hka07_22, hka07_22, hka07_22, hka07_22, hka07_22, hka07_22, hka07_22, hka07_22, hka07_510, hka07_175, hka07_178, hka07_180, hka07_22, hka07_22, hka07_22, hka07_22, hka07_22, hka07_512, hka07_284, hka07_425, hka07_427, hka07_425, hka07_427, hka07_22, hka07_22, hka07_22, hka07_22, hka07_22, hka07_22, hka07_22, hka07_22, hka07_22, hka07_22, hka07_22, hka07_22, hka07_22, hka07_22, hka07_22, hka07_22, hka07_22, hka07_22, hka07_22, hka07_22, hka07_22, hka07_22, hka07_22, hka07_22, hka07_22, hka07_22, hka07_22, hka07_22, hka07_22, hka07_22, hka07_22, hka07_22, hka07_22, hka07_22, hka07_22, hka07_22, hka07_22, hka07_22, hka07_22, hka07_22, hka07_22, hka07_22, hka07_22, hka07_22]
def hka07_544 : ai_N := (.ofNat 0, .ofNat 128, [(10, .negSucc 0, .ofNat 0)])
def hka07_545 : ai_V := .inl (false, hka07_544)
def hka07_546 : ai_C := .inr (.inr (0, [hka07_167, hka07_168, hka07_169, hka07_130, hka07_545]))
/-- NeverAgain$Delayer.tryNumbers -/
def ka_632 : ai_K := (206, 3, (hka07_540, [hka07_124, hka07_130, hka07_462, hka07_19, hka07_287, hka07_542, hka07_120, hka07_120, hka07_120, hka07_120], [], hka07_543), [.inl 3, .inl 5, .inr (1, 6), .inr (1, 7), .inr (1, 8), .inr (1, 9), .inr (1, 10), .inr (1, 11), .inr (1, 12), .inr (1, 13), .inr (17, 4), .inr (26, 6), .inr (26, 7)], [(none, hka07_540, [(17, hka07_546), (18, hka07_174), (19, hka07_177), (20, hka07_179), (26, hka07_520), (28, hka07_424), (29, hka07_426), (30, hka07_424), (31, hka07_426)]), (none, hka07_540, [(17, hka07_546), (18, hka07_174), (19, hka07_177), (20, hka07_179), (26, hka07_520), (28, hka07_424), (29, hka07_426), (30, hka07_424), (31, hka07_426)])])
def hka07_547 : ai_E := [hka07_0, hka07_8, hka07_1, hka07_2, hka07_0, hka07_0, hka07_0, hka07_11, hka07_15, hka07_5, hka07_117, hka07_5, hka07_0, hka07_191]
def hka07_548 : Bool × Option ai_C := (true, some hka07_546)
def hka07_549 : ai_W := [hka07_22, hka07_282, hka07_22, hka07_164, hka07_22, hka07_22, hka07_284, hka07_22, hka07_22, hka07_22, hka07_22, hka07_22, hka07_22, hka07_22, hka07_22, hka07_22, hka07_22, hka07_548, hka07_198, hka07_199, hka07_200, hka07_22, hka07_22, hka07_22, hka07_22, hka07_22, hka07_528, hka07_284, hka07_503, hka07_504, hka07_503, hka07_504, hka07_22, hka07_22, hka07_22, hka07_22, hka07_22, hka07_22, hka07_22, hka07_22, hka07_22, hka07_22, hka07_22, hka07_22, hka07_22, hka07_22, hka07_22, hka07_22, hka07_22, hka07_22, hka07_22, hka07_22, hka07_22, hka07_22, hka07_22, hka07_22, hka07_22, hka07_22, hka07_22, hka07_22, hka07_22, hka07_22, hka07_22, hka07_22, hka07_22, hka07_22, hka07_22, hka07_22, hka07_22, hka07_22, hka07_22, hka07_22, hka07_22, hka07_22, hka07_22, hka07_22]
def kan_632 : List ai_Nd := [(33, (hka07_547, [hka07_124, hka07_130, hka07_462, hka07_19, hka07_287, hka07_542, hka07_186, hka07_186, hka07_186, hka07_196], [], hka07_549), [.inl 9], [.inl 99966, .inl 1, .inr (true, .ofNat 17, 13), .inl 100000])]
set_option maxRecDepth 1000000 in
theorem kak_632 : ai_ck [ka_438, ka_374, ka_546, ka_532, ka_394, ka_378] [] ka_632 [.inl 100000, .inl 0, .inl 0, .inl 0] kan_632 51 = true := by decide +kernel
theorem kah_632 : ai_holds ka_632 := ai_thm kak_632 (ai_cons kah_438 (ai_cons kah_374 (ai_cons kah_546 (ai_cons kah_532 (ai_cons kah_394 (ai_cons kah_378 ai_nil))))))
def hka07_550 : ai_E := [hka07_0, hka07_1, hka07_2, hka07_0, hka07_0, hka07_0, hka07_11, hka07_15, hka07_5, hka07_117, hka07_5, hka07_0]
def hka07_551 : ai_N := (.ofNat 0, .ofNat 128, [(9, .ofNat 0, .ofNat 0)])
def hka07_552 : ai_V := .inl (false, hka07_551)
def hka07_553 : ai_C := .inr (.inr (0, [hka07_167, hka07_168, hka07_169, hka07_130, hka07_552]))
def hka07_554 : Bool × Option ai_C := (false, some hka07_553)
def hka07_555 : ai_N := (.negSucc 2147483647, .ofNat 2147483647, [(11, .ofNat 0, .ofNat 0)])
def hka07_556 : ai_V := .inl (false, hka07_555)
def hka07_557 : ai_C := .inr (.inr (1, [hka07_122, hka07_415, hka07_416, hka07_417, hka07_418, hka07_419, hka07_357, hka07_556]))
def hka07_558 : Bool × Option ai_C := (false, some hka07_557)
def hka07_559 : ai_W := [hka07_22, hka07_449, hka07_22, hka07_164, hka07_22, hka07_22, hka07_284, hka07_284, hka07_22, hka07_22, hka07_22, hka07_22, hka07_22, hka07_22, hka07_22, hka07_22, hka07_22, hka07_554, hka07_175, hka07_178, hka07_180, hka07_22, hka07_22, hka07_22, hka07_22, hka07_22, hka07_558, hka07_284, hka07_425, hka07_427, hka07_425, hka07_427, hka07_22, hka07_22, hka07_22, hka07_22, hka07_22, hka07_22, hka07_22, hka07_22, hka07_22, hka07_22, hka07_22, hka07_22, hka07_22, hka07_22, hka07_22, hka07_22, hka07_22, hka07_22, hka07_22, hka07_22, hka07_22, hka07_22, hka07_22, hka07_22, hka07_22, hka07_22, hka07_22, hka07_22, hka07_22, hka07_22, hka07_22, hka07_22, hka07_22, hka07_22, hka07_22, hka07_22, hka07_22, hka07_22, hka07_22, hka07_22, hka07_22, hka07_22, hka07_22, hka07_22]
def hka07_560 : ai_E := [hka07_471, hka07_1, hka07_2, hka07_0, hka07_0, hka07_0, hka07_11, hka07_15, hka07_5, hka07_117, hka07_5, hka07_472]
def hka07_561 : ai_C := .inr (.inr (1, [hka07_122, hka07_415, hka07_416, hka07_417, hka07_418, hka07_419, hka07_357, hka07_287]))
def hka07_562 : ai_E := [hka07_0, hka07_1, hka07_2, hka07_0, hka07_0, hka07_0, hka07_11, hka07_15, hka07_5, hka07_117, hka07_5, hka07_472]
def hka07_563 : ai_N := (.ofNat 0, .ofNat 127, [(9, .negSucc 127, .ofNat 0)])
def hka07_564 : ai_V := .inl (false, hka07_563)
def hka07_565 : ai_C := .inr (.inr (0, [hka07_167, hka07_168, hka07_169, hka07_130, hka07_564]))
def hka07_566 : ai_C := .inr (.inr (1, [hka07_122, hka07_415, hka07_416, hka07_417, hka07_418, hka07_419, hka07_357, hka07_186]))
/-- NeverAgain$Delayer.searchFrom -/
def ka_633 : ai_K := (172, 4, (hka07_550, [hka07_124, hka07_130, hka07_462, hka07_19, hka07_287, hka07_120], [], hka07_559), [.inl 3, .inr (1, 6), .inr (1, 7), .inr (1, 8), .inr (1, 9), .inr (1, 10), .inr (1, 11), .inr (1, 12), .inr (1, 13), .inr (17, 4), .inr (26, 6), .inr (26, 7)], [(none, hka07_550, []), (none, hka07_560, [(26, hka07_561), (30, hka07_424), (31, hka07_426)]), (none, hka07_562, [(17, hka07_565), (18, hka07_174), (19, hka07_177), (20, hka07_179), (26, hka07_566), (28, hka07_424), (29, hka07_426), (30, hka07_424), (31, hka07_426)])])
def hka07_567 : ai_E := [hka07_0, hka07_1, hka07_2, hka07_0, hka07_0, hka07_0, hka07_11, hka07_15, hka07_5, hka07_117, hka07_5, hka07_472, hka07_5]
def hka07_568 : ai_N := (.ofNat 0, .ofNat 128, [(9, .negSucc 127, .ofNat 0)])
def hka07_569 : ai_V := .inl (false, hka07_568)
def hka07_570 : ai_C := .inr (.inr (0, [hka07_167, hka07_168, hka07_169, hka07_130, hka07_569]))
def hka07_571 : Bool × Option ai_C := (true, some hka07_570)
def hka07_572 : Bool × Option ai_C := (true, some hka07_566)
def hka07_573 : ai_W := [hka07_22, hka07_449, hka07_22, hka07_164, hka07_22, hka07_22, hka07_284, hka07_284, hka07_22, hka07_22, hka07_22, hka07_22, hka07_22, hka07_22, hka07_22, hka07_22, hka07_22, hka07_571, hka07_198, hka07_199, hka07_200, hka07_22, hka07_22, hka07_22, hka07_22, hka07_22, hka07_572, hka07_284, hka07_503, hka07_504, hka07_503, hka07_504, hka07_22, hka07_22, hka07_22, hka07_22, hka07_22, hka07_22, hka07_22, hka07_22, hka07_22, hka07_22, hka07_22, hka07_22, hka07_22, hka07_22, hka07_22, hka07_22, hka07_22, hka07_22, hka07_22, hka07_22, hka07_22, hka07_22, hka07_22, hka07_22, hka07_22, hka07_22, hka07_22, hka07_22, hka07_22, hka07_22, hka07_22, hka07_22, hka07_22, hka07_22, hka07_22, hka07_22, hka07_22, hka07_22, hka07_22, hka07_22, hka07_22, hka07_22, hka07_22, hka07_22]
def kan_633 : List ai_Nd := [(46, (hka07_567, [hka07_124, hka07_130, hka07_462, hka07_19, hka07_287, hka07_316], [], hka07_573), [.inl 5], [.inl 99953, .inl 1, .inr (true, .ofNat 4, 12), .inl 100000])]
set_option maxRecDepth 1000000 in
theorem kak_633 : ai_ck [ka_375, ka_438, ka_530, ka_629, ka_532, ka_542, ka_553, ka_632] [] ka_633 [.inl 100000, .inl 0, .inl 0, .inl 0] kan_633 27 = true := by decide +kernel
theorem kah_633 : ai_holds ka_633 := ai_thm kak_633 (ai_cons kah_375 (ai_cons kah_438 (ai_cons kah_530 (ai_cons kah_629 (ai_cons kah_532 (ai_cons kah_542 (ai_cons kah_553 (ai_cons kah_632 ai_nil))))))))
/-- NeverAgain$Delayer.tryNumbers -/
def ka_636 : ai_K := (206, 5, (hka07_540, [hka07_124, hka07_130, hka07_460, hka07_19, hka07_287, hka07_542, hka07_120, hka07_120, hka07_120, hka07_120], [], hka07_513), [.inl 3, .inl 5, .inr (1, 6), .inr (1, 7), .inr (1, 8), .inr (1, 9), .inr (1, 10), .inr (1, 11), .inr (1, 12), .inr (1, 13), .inr (17, 4), .inr (26, 6), .inr (26, 7)], [(none, hka07_540, [(17, hka07_526), (18, hka07_174), (19, hka07_177), (20, hka07_179), (26, hka07_520), (28, hka07_424), (29, hka07_426), (30, hka07_424), (31, hka07_426)]), (none, hka07_540, [(17, hka07_526), (18, hka07_174), (19, hka07_177), (20, hka07_179), (26, hka07_520), (28, hka07_424), (29, hka07_426), (30, hka07_424), (31, hka07_426)])])
def kan_636 : List ai_Nd := [(33, (hka07_547, [hka07_124, hka07_130, hka07_460, hka07_19, hka07_287, hka07_542, hka07_186, hka07_186, hka07_186, hka07_196], [], hka07_529), [.inl 9], [.inl 99966, .inl 1, .inr (true, .ofNat 17, 13), .inl 100000])]
set_option maxRecDepth 1000000 in
theorem kak_636 : ai_ck [ka_438, ka_374, ka_532, ka_394, ka_378, ka_560] [] ka_636 [.inl 100000, .inl 0, .inl 0, .inl 0] kan_636 51 = true := by decide +kernel
theorem kah_636 : ai_holds ka_636 := ai_thm kak_636 (ai_cons kah_438 (ai_cons kah_374 (ai_cons kah_532 (ai_cons kah_394 (ai_cons kah_378 (ai_cons kah_560 ai_nil))))))
/-- NeverAgain$Delayer.searchFrom -/
def ka_637 : ai_K := (172, 6, (hka07_550, [hka07_124, hka07_130, hka07_460, hka07_19, hka07_287, hka07_120], [], hka07_559), [.inl 3, .inr (1, 6), .inr (1, 7), .inr (1, 8), .inr (1, 9), .inr (1, 10), .inr (1, 11), .inr (1, 12), .inr (1, 13), .inr (17, 4), .inr (26, 6), .inr (26, 7)], [(none, hka07_550, []), (none, hka07_560, [(26, hka07_561), (30, hka07_424), (31, hka07_426)]), (none, hka07_562, [(17, hka07_565), (18, hka07_174), (19, hka07_177), (20, hka07_179), (26, hka07_566), (28, hka07_424), (29, hka07_426), (30, hka07_424), (31, hka07_426)])])
def kan_637 : List ai_Nd := [(46, (hka07_567, [hka07_124, hka07_130, hka07_460, hka07_19, hka07_287, hka07_316], [], hka07_573), [.inl 5], [.inl 99953, .inl 1, .inr (true, .ofNat 4, 12), .inl 100000])]
set_option maxRecDepth 1000000 in
theorem kak_637 : ai_ck [ka_375, ka_438, ka_530, ka_532, ka_540, ka_553, ka_633, ka_636] [] ka_637 [.inl 100000, .inl 0, .inl 0, .inl 0] kan_637 27 = true := by decide +kernel
theorem kah_637 : ai_holds ka_637 := ai_thm kak_637 (ai_cons kah_375 (ai_cons kah_438 (ai_cons kah_530 (ai_cons kah_532 (ai_cons kah_540 (ai_cons kah_553 (ai_cons kah_633 (ai_cons kah_636 ai_nil))))))))
/-- NeverAgain$Delayer.tryNumbers -/
def ka_640 : ai_K := (206, 7, (hka07_540, [hka07_124, hka07_130, hka07_458, hka07_19, hka07_287, hka07_542, hka07_120, hka07_120, hka07_120, hka07_120], [], hka07_513), [.inl 3, .inl 5, .inr (1, 6), .inr (1, 7), .inr (1, 8), .inr (1, 9), .inr (1, 10), .inr (1, 11), .inr (1, 12), .inr (1, 13), .inr (17, 4), .inr (26, 6), .inr (26, 7)], [(none, hka07_540, [(17, hka07_526), (18, hka07_174), (19, hka07_177), (20, hka07_179), (26, hka07_520), (28, hka07_424), (29, hka07_426), (30, hka07_424), (31, hka07_426)]), (none, hka07_540, [(17, hka07_526), (18, hka07_174), (19, hka07_177), (20, hka07_179), (26, hka07_520), (28, hka07_424), (29, hka07_426), (30, hka07_424), (31, hka07_426)])])
def kan_640 : List ai_Nd := [(33, (hka07_547, [hka07_124, hka07_130, hka07_458, hka07_19, hka07_287, hka07_542, hka07_186, hka07_186, hka07_186, hka07_196], [], hka07_529), [.inl 9], [.inl 99966, .inl 1, .inr (true, .ofNat 17, 13), .inl 100000])]
set_option maxRecDepth 1000000 in
theorem kak_640 : ai_ck [ka_438, ka_374, ka_532, ka_394, ka_378, ka_576] [] ka_640 [.inl 100000, .inl 0, .inl 0, .inl 0] kan_640 51 = true := by decide +kernel
theorem kah_640 : ai_holds ka_640 := ai_thm kak_640 (ai_cons kah_438 (ai_cons kah_374 (ai_cons kah_532 (ai_cons kah_394 (ai_cons kah_378 (ai_cons kah_576 ai_nil))))))
/-- NeverAgain$Delayer.searchFrom -/
def ka_641 : ai_K := (172, 8, (hka07_550, [hka07_124, hka07_130, hka07_458, hka07_19, hka07_287, hka07_120], [], hka07_559), [.inl 3, .inr (1, 6), .inr (1, 7), .inr (1, 8), .inr (1, 9), .inr (1, 10), .inr (1, 11), .inr (1, 12), .inr (1, 13), .inr (17, 4), .inr (26, 6), .inr (26, 7)], [(none, hka07_550, []), (none, hka07_560, [(26, hka07_561), (30, hka07_424), (31, hka07_426)]), (none, hka07_562, [(17, hka07_565), (18, hka07_174), (19, hka07_177), (20, hka07_179), (26, hka07_566), (28, hka07_424), (29, hka07_426), (30, hka07_424), (31, hka07_426)])])
def kan_641 : List ai_Nd := [(46, (hka07_567, [hka07_124, hka07_130, hka07_458, hka07_19, hka07_287, hka07_316], [], hka07_573), [.inl 5], [.inl 99953, .inl 1, .inr (true, .ofNat 4, 12), .inl 100000])]
set_option maxRecDepth 1000000 in
theorem kak_641 : ai_ck [ka_375, ka_438, ka_530, ka_532, ka_538, ka_553, ka_637, ka_640] [] ka_641 [.inl 100000, .inl 0, .inl 0, .inl 0] kan_641 27 = true := by decide +kernel
theorem kah_641 : ai_holds ka_641 := ai_thm kak_641 (ai_cons kah_375 (ai_cons kah_438 (ai_cons kah_530 (ai_cons kah_532 (ai_cons kah_538 (ai_cons kah_553 (ai_cons kah_637 (ai_cons kah_640 ai_nil))))))))

/-! CONTRACTS found by wip/ai/an.py, each held by the kernel. -/
def hka00_0 : Int × Int := (.negSucc 9223372036854775807, .ofNat 9223372036854775807)
def hka00_1 : Int × Int := (.ofNat 0, .ofNat 400)
def hka00_2 : Int × Int := (.ofNat 0, .ofNat 6)
def hka00_3 : Int × Int := (.negSucc 2147483647, .ofNat 2147483647)
def hka00_4 : Int × Int := (.ofNat 0, .ofNat 3)
def hka00_5 : ai_E := [hka00_0, hka00_1, hka00_2, hka00_1, hka00_3, hka00_1, hka00_4, hka00_1, hka00_3]
def hka00_6 : ai_V := .inr (some (.ref 15))
def hka00_7 : ai_N := (.negSucc 9223372036854775807, .ofNat 9223372036854775807, [(0, .ofNat 0, .ofNat 0)])
def hka00_8 : ai_V := .inl (true, hka00_7)
def hka00_9 : ai_V := .inr none
def hka00_10 : Bool × Option ai_C := (false, none)
def hka00_11 : ai_V := .inr (some (.ref 16))
def hka00_12 : ai_N := (.ofNat 0, .ofNat 400, [(1, .ofNat 0, .ofNat 0)])
def hka00_13 : ai_V := .inl (false, hka00_12)
def hka00_14 : ai_N := (.ofNat 0, .ofNat 6, [(2, .ofNat 0, .ofNat 0)])
def hka00_15 : ai_V := .inl (false, hka00_14)
def hka00_16 : ai_N := (.ofNat 0, .ofNat 400, [(3, .ofNat 0, .ofNat 0)])
def hka00_17 : ai_V := .inl (false, hka00_16)
def hka00_18 : ai_N := (.negSucc 2147483647, .ofNat 2147483647, [(4, .ofNat 0, .ofNat 0)])
def hka00_19 : ai_V := .inl (false, hka00_18)
def hka00_20 : ai_N := (.ofNat 0, .ofNat 400, [(5, .ofNat 0, .ofNat 0)])
def hka00_21 : ai_V := .inl (false, hka00_20)
def hka00_22 : ai_N := (.ofNat 0, .ofNat 3, [(6, .ofNat 0, .ofNat 0)])
def hka00_23 : ai_V := .inl (false, hka00_22)
def hka00_24 : ai_N := (.ofNat 0, .ofNat 400, [(7, .ofNat 0, .ofNat 0)])
def hka00_25 : ai_V := .inl (false, hka00_24)
def hka00_26 : ai_N := (.negSucc 2147483647, .ofNat 2147483647, [(8, .ofNat 0, .ofNat 0)])
def hka00_27 : ai_V := .inl (false, hka00_26)
def hka00_28 : ai_C := .inr (.inr (5, [hka00_11, hka00_13, hka00_15, hka00_17, hka00_9, hka00_19, hka00_21, hka00_23, hka00_25, hka00_27]))
def hka00_29 : Bool × Option ai_C := (false, some hka00_28)
def hka00_30 : ai_N := (.negSucc 127, .ofNat 127, [])
def hka00_31 : ai_C := .inl (.byte, [(400, hka00_30)])
def hka00_32 : Bool × Option ai_C := (false, some hka00_31)
def hka00_33 : ai_W := [hka00_10, hka00_10, hka00_10, hka00_10, hka00_10, hka00_10, hka00_10, hka00_10, hka00_10, hka00_10, hka00_10, hka00_10, hka00_10, hka00_10, hka00_10, hka00_29, hka00_32, hka00_10, hka00_10, hka00_10, hka00_10, hka00_10, hka00_10, hka00_10, hka00_10, hka00_10, hka00_10, hka00_10, hka00_10, hka00_10, hka00_10, hka00_10, hka00_10, hka00_10, hka00_10, hka00_10, hka00_10, hka00_10, hka00_10, hka00_10, hka00_10, hka00_10, hka00_10, hka00_10, hka00_10, hka00_10, hka00_10, hka00_10, hka00_10, hka00_10, hka00_10, hka00_10, hka00_10, hka00_10, hka00_10, hka00_10, hka00_10, hka00_10, hka00_10, hka00_10, hka00_10, hka00_10, hka00_10, hka00_10, hka00_10, hka00_10, hka00_10, hka00_10, hka00_10, hka00_10, hka00_10, hka00_10, hka00_10, hka00_10, hka00_10, hka00_10]
def hka00_34 : ai_N := (.ofNat 0, .ofNat 0, [])
def hka00_35 : ai_V := .inl (false, hka00_34)
def hka00_36 : Int × Int := (.ofNat 393, .ofNat 400)
def hka00_37 : ai_E := [hka00_0, hka00_36, hka00_2, hka00_1, hka00_3, hka00_1, hka00_4, hka00_1, hka00_3]
def hka00_38 : ai_N := (.ofNat 1, .ofNat 1, [])
def hka00_39 : ai_V := .inl (false, hka00_38)
def hka00_40 : Int × Int := (.ofNat 0, .ofNat 392)
def hka00_41 : ai_E := [hka00_0, hka00_40, hka00_2, hka00_1, hka00_3, hka00_1, hka00_4, hka00_1, hka00_3]
def hka00_42 : ai_N := (.ofNat 8, .ofNat 400, [(1, .ofNat 8, .ofNat 8)])
def hka00_43 : ai_V := .inl (false, hka00_42)
def hka00_44 : ai_C := .inr (.inr (5, [hka00_11, hka00_43, hka00_15, hka00_17, hka00_9, hka00_19, hka00_21, hka00_23, hka00_25, hka00_27]))
/-- NeverAgain$TextReader.append -/
def ka_0 : ai_K := (92, 0, (hka00_5, [hka00_6, hka00_8, hka00_9, hka00_9], [], hka00_33), [.inl 1, .inr (15, 1), .inr (15, 2), .inr (15, 3), .inr (15, 5), .inr (15, 6), .inr (15, 7), .inr (15, 8), .inr (15, 9)], [(some hka00_35, hka00_37, []), (some hka00_39, hka00_41, [(15, hka00_44), (16, hka00_31)])])
def hka00_45 : Int × Int := (.ofNat 0, .ofNat 8)
def hka00_46 : ai_E := [hka00_0, hka00_40, hka00_2, hka00_1, hka00_3, hka00_1, hka00_4, hka00_1, hka00_3, hka00_45]
def hka00_47 : ai_N := (.ofNat 0, .ofNat 8, [(9, .ofNat 0, .ofNat 0)])
def hka00_48 : ai_V := .inl (false, hka00_47)
def hka00_49 : ai_N := (.ofNat 0, .ofNat 392, [(1, .ofNat 0, .ofNat 0)])
def hka00_50 : ai_V := .inl (false, hka00_49)
def hka00_51 : ai_C := .inr (.inr (5, [hka00_11, hka00_50, hka00_15, hka00_17, hka00_9, hka00_19, hka00_21, hka00_23, hka00_25, hka00_27]))
def hka00_52 : Bool × Option ai_C := (false, some hka00_51)
def hka00_53 : Bool × Option ai_C := (true, some hka00_31)
def hka00_54 : ai_W := [hka00_10, hka00_10, hka00_10, hka00_10, hka00_10, hka00_10, hka00_10, hka00_10, hka00_10, hka00_10, hka00_10, hka00_10, hka00_10, hka00_10, hka00_10, hka00_52, hka00_53, hka00_10, hka00_10, hka00_10, hka00_10, hka00_10, hka00_10, hka00_10, hka00_10, hka00_10, hka00_10, hka00_10, hka00_10, hka00_10, hka00_10, hka00_10, hka00_10, hka00_10, hka00_10, hka00_10, hka00_10, hka00_10, hka00_10, hka00_10, hka00_10, hka00_10, hka00_10, hka00_10, hka00_10, hka00_10, hka00_10, hka00_10, hka00_10, hka00_10, hka00_10, hka00_10, hka00_10, hka00_10, hka00_10, hka00_10, hka00_10, hka00_10, hka00_10, hka00_10, hka00_10, hka00_10, hka00_10, hka00_10, hka00_10, hka00_10, hka00_10, hka00_10, hka00_10, hka00_10, hka00_10, hka00_10, hka00_10, hka00_10, hka00_10, hka00_10]
def kan_0 : List ai_Nd := [(24, (hka00_46, [hka00_6, hka00_8, hka00_9, hka00_48], [], hka00_54), [.inl 3], [.inl 99975, .inl 1, .inr (true, .ofNat 8, 9), .inl 100000])]
set_option maxRecDepth 1000000 in
theorem kak_0 : ai_ck [] [] ka_0 [.inl 100000, .inl 0, .inl 0, .inl 0] kan_0 23 = true := by decide +kernel
theorem kah_0 : ai_holds ka_0 := ai_thm kak_0 ai_nil
def hka00_55 : Int × Int := (.ofNat 0, .ofNat 12)
def hka00_56 : Int × Int := (.ofNat 0, .ofNat 4)
def hka00_57 : ai_E := [hka00_0, hka00_55, hka00_2, hka00_56, hka00_1, hka00_2, hka00_1, hka00_3, hka00_1, hka00_4, hka00_1, hka00_3]
def hka00_58 : ai_V := .inr (some (.ref 0))
def hka00_59 : ai_V := .inr (some (.ref 17))
def hka00_60 : ai_V := .inr (some (.ref 21))
def hka00_61 : ai_V := .inr (some (.ref 26))
def hka00_62 : ai_V := .inr (some (.ref 32))
def hka00_63 : ai_V := .inr (some (.ref 35))
def hka00_64 : ai_V := .inr (some (.ref 34))
def hka00_65 : ai_V := .inr (some (.ref 50))
def hka00_66 : ai_V := .inr (some (.ref 33))
def hka00_67 : ai_V := .inr (some (.ref 1))
def hka00_68 : ai_V := .inr (some (.ref 8))
def hka00_69 : ai_N := (.ofNat 0, .ofNat 12, [(1, .ofNat 0, .ofNat 0)])
def hka00_70 : ai_V := .inl (false, hka00_69)
def hka00_71 : ai_N := (.ofNat 0, .ofNat 4, [(3, .ofNat 0, .ofNat 0)])
def hka00_72 : ai_V := .inl (false, hka00_71)
def hka00_73 : ai_C := .inr (.inr (7, [hka00_6, hka00_59, hka00_60, hka00_61, hka00_62, hka00_63, hka00_64, hka00_65, hka00_66, hka00_67, hka00_68, hka00_70, hka00_15, hka00_72]))
def hka00_74 : Bool × Option ai_C := (false, some hka00_73)
def hka00_75 : ai_N := (.ofNat 0, .ofNat 400, [(4, .ofNat 0, .ofNat 0)])
def hka00_76 : ai_V := .inl (false, hka00_75)
def hka00_77 : ai_N := (.ofNat 0, .ofNat 6, [(5, .ofNat 0, .ofNat 0)])
def hka00_78 : ai_V := .inl (false, hka00_77)
def hka00_79 : ai_N := (.ofNat 0, .ofNat 400, [(6, .ofNat 0, .ofNat 0)])
def hka00_80 : ai_V := .inl (false, hka00_79)
def hka00_81 : ai_N := (.negSucc 2147483647, .ofNat 2147483647, [(7, .ofNat 0, .ofNat 0)])
def hka00_82 : ai_V := .inl (false, hka00_81)
def hka00_83 : ai_N := (.ofNat 0, .ofNat 400, [(8, .ofNat 0, .ofNat 0)])
def hka00_84 : ai_V := .inl (false, hka00_83)
def hka00_85 : ai_N := (.ofNat 0, .ofNat 3, [(9, .ofNat 0, .ofNat 0)])
def hka00_86 : ai_V := .inl (false, hka00_85)
def hka00_87 : ai_N := (.ofNat 0, .ofNat 400, [(10, .ofNat 0, .ofNat 0)])
def hka00_88 : ai_V := .inl (false, hka00_87)
def hka00_89 : ai_N := (.negSucc 2147483647, .ofNat 2147483647, [(11, .ofNat 0, .ofNat 0)])
def hka00_90 : ai_V := .inl (false, hka00_89)
def hka00_91 : ai_C := .inr (.inr (5, [hka00_11, hka00_76, hka00_78, hka00_80, hka00_9, hka00_82, hka00_84, hka00_86, hka00_88, hka00_90]))
def hka00_92 : Bool × Option ai_C := (false, some hka00_91)
def hka00_93 : ai_W := [hka00_74, hka00_10, hka00_10, hka00_10, hka00_10, hka00_10, hka00_10, hka00_10, hka00_10, hka00_10, hka00_10, hka00_10, hka00_10, hka00_10, hka00_10, hka00_92, hka00_32, hka00_10, hka00_10, hka00_10, hka00_10, hka00_10, hka00_10, hka00_10, hka00_10, hka00_10, hka00_10, hka00_10, hka00_10, hka00_10, hka00_10, hka00_10, hka00_10, hka00_10, hka00_10, hka00_10, hka00_10, hka00_10, hka00_10, hka00_10, hka00_10, hka00_10, hka00_10, hka00_10, hka00_10, hka00_10, hka00_10, hka00_10, hka00_10, hka00_10, hka00_10, hka00_10, hka00_10, hka00_10, hka00_10, hka00_10, hka00_10, hka00_10, hka00_10, hka00_10, hka00_10, hka00_10, hka00_10, hka00_10, hka00_10, hka00_10, hka00_10, hka00_10, hka00_10, hka00_10, hka00_10, hka00_10, hka00_10, hka00_10, hka00_10, hka00_10]
def hka00_94 : ai_N := (.ofNat 8, .ofNat 400, [(4, .ofNat 8, .ofNat 8)])
def hka00_95 : ai_V := .inl (false, hka00_94)
def hka00_96 : ai_E := [hka00_0, hka00_55, hka00_2, hka00_56, hka00_40, hka00_2, hka00_1, hka00_3, hka00_1, hka00_4, hka00_1, hka00_3]
def hka00_97 : ai_C := .inr (.inr (5, [hka00_11, hka00_95, hka00_78, hka00_80, hka00_9, hka00_82, hka00_84, hka00_86, hka00_88, hka00_90]))
def hka00_98 : ai_N := (.negSucc 2, .negSucc 2, [])
def hka00_99 : ai_V := .inl (false, hka00_98)
def hka00_100 : ai_E := [hka00_0, hka00_55, hka00_2, hka00_56, hka00_36, hka00_2, hka00_1, hka00_3, hka00_1, hka00_4, hka00_1, hka00_3]
/-- NeverAgain.feed -/
def ka_1 : ai_K := (3, 1, (hka00_57, [hka00_58, hka00_8, hka00_9], [], hka00_93), [.inl 1, .inr (0, 11), .inr (0, 12), .inr (0, 13), .inr (15, 1), .inr (15, 2), .inr (15, 3), .inr (15, 5), .inr (15, 6), .inr (15, 7), .inr (15, 8), .inr (15, 9)], [(some hka00_95, hka00_96, [(15, hka00_97), (16, hka00_31)]), (some hka00_99, hka00_100, [])])
def kan_1 : List ai_Nd := []
set_option maxRecDepth 1000000 in
theorem kak_1 : ai_ck [ka_0] [] ka_1 [.inl 100000] kan_1 11 = true := by decide +kernel
theorem kah_1 : ai_holds ka_1 := ai_thm kak_1 (ai_cons kah_0 ai_nil)
def hka00_101 : Int × Int := (.ofNat 4, .ofNat 16)
def hka00_102 : Int × Int := (.ofNat 1, .ofNat 4)
def hka00_103 : Int × Int := (.ofNat 0, .ofNat 16)
def hka00_104 : Int × Int := (.negSucc 3, .ofNat 3)
def hka00_105 : Int × Int := (.ofNat 0, .ofNat 130)
def hka00_106 : ai_E := [hka00_0, hka00_101, hka00_102, hka00_55, hka00_103, hka00_56, hka00_3, hka00_103, hka00_104, hka00_1, hka00_1, hka00_1, hka00_4, hka00_3, hka00_2, hka00_1, hka00_105, hka00_3, hka00_56]
def hka00_107 : ai_V := .inr (some (.ref 59))
def hka00_108 : ai_V := .inr (some (.ref 60))
def hka00_109 : ai_V := .inr (some (.ref 61))
def hka00_110 : ai_N := (.ofNat 4, .ofNat 16, [(1, .ofNat 0, .ofNat 0)])
def hka00_111 : ai_V := .inl (false, hka00_110)
def hka00_112 : ai_N := (.ofNat 1, .ofNat 4, [(2, .ofNat 0, .ofNat 0)])
def hka00_113 : ai_V := .inl (false, hka00_112)
def hka00_114 : ai_V := .inr (some (.ref 62))
def hka00_115 : ai_V := .inr (some (.ref 63))
def hka00_116 : ai_N := (.ofNat 0, .ofNat 12, [(3, .ofNat 0, .ofNat 0)])
def hka00_117 : ai_V := .inl (false, hka00_116)
def hka00_118 : ai_V := .inr (some (.ref 64))
def hka00_119 : ai_N := (.ofNat 0, .ofNat 16, [(4, .ofNat 0, .ofNat 0)])
def hka00_120 : ai_V := .inl (false, hka00_119)
def hka00_121 : ai_N := (.ofNat 0, .ofNat 4, [(5, .ofNat 0, .ofNat 0)])
def hka00_122 : ai_V := .inl (false, hka00_121)
def hka00_123 : ai_V := .inr (some (.ref 65))
def hka00_124 : ai_N := (.negSucc 2147483647, .ofNat 2147483647, [(6, .ofNat 0, .ofNat 0)])
def hka00_125 : ai_V := .inl (false, hka00_124)
def hka00_126 : ai_N := (.ofNat 0, .ofNat 16, [(7, .ofNat 0, .ofNat 0)])
def hka00_127 : ai_V := .inl (false, hka00_126)
def hka00_128 : ai_N := (.negSucc 3, .ofNat 3, [(8, .ofNat 0, .ofNat 0)])
def hka00_129 : ai_V := .inl (false, hka00_128)
def hka00_130 : ai_V := .inr (some (.ref 66))
def hka00_131 : ai_N := (.ofNat 0, .ofNat 400, [(9, .ofNat 0, .ofNat 0)])
def hka00_132 : ai_V := .inl (false, hka00_131)
def hka00_133 : ai_N := (.ofNat 0, .ofNat 400, [(11, .ofNat 0, .ofNat 0)])
def hka00_134 : ai_V := .inl (false, hka00_133)
def hka00_135 : ai_N := (.ofNat 0, .ofNat 3, [(12, .ofNat 0, .ofNat 0)])
def hka00_136 : ai_V := .inl (false, hka00_135)
def hka00_137 : ai_N := (.negSucc 2147483647, .ofNat 2147483647, [(13, .ofNat 0, .ofNat 0)])
def hka00_138 : ai_V := .inl (false, hka00_137)
def hka00_139 : ai_N := (.ofNat 0, .ofNat 6, [(14, .ofNat 0, .ofNat 0)])
def hka00_140 : ai_V := .inl (false, hka00_139)
def hka00_141 : ai_N := (.ofNat 0, .ofNat 400, [(15, .ofNat 0, .ofNat 0)])
def hka00_142 : ai_V := .inl (false, hka00_141)
def hka00_143 : ai_V := .inr (some (.ref 67))
def hka00_144 : ai_N := (.ofNat 0, .ofNat 130, [(16, .ofNat 0, .ofNat 0)])
def hka00_145 : ai_V := .inl (false, hka00_144)
def hka00_146 : ai_V := .inr (some (.ref 68))
def hka00_147 : ai_V := .inr (some (.ref 69))
def hka00_148 : ai_N := (.negSucc 2147483647, .ofNat 2147483647, [(17, .ofNat 0, .ofNat 0)])
def hka00_149 : ai_V := .inl (false, hka00_148)
def hka00_150 : ai_V := .inr (some (.ref 70))
def hka00_151 : ai_V := .inr (some (.ref 71))
def hka00_152 : ai_V := .inr (some (.ref 72))
def hka00_153 : ai_V := .inr (some (.ref 73))
def hka00_154 : ai_V := .inr (some (.ref 74))
def hka00_155 : ai_V := .inr (some (.ref 75))
def hka00_156 : ai_N := (.ofNat 0, .ofNat 4, [(18, .ofNat 0, .ofNat 0)])
def hka00_157 : ai_V := .inl (false, hka00_156)
def hka00_158 : ai_C := .inr (.inr (8, [hka00_108, hka00_109, hka00_111, hka00_113, hka00_114, hka00_115, hka00_117, hka00_118, hka00_120, hka00_122, hka00_123, hka00_125, hka00_127, hka00_129, hka00_130, hka00_132, hka00_88, hka00_134, hka00_136, hka00_138, hka00_140, hka00_142, hka00_143, hka00_145, hka00_146, hka00_147, hka00_149, hka00_150, hka00_151, hka00_152, hka00_153, hka00_154, hka00_155, hka00_157]))
def hka00_159 : Bool × Option ai_C := (false, some hka00_158)
def hka00_160 : ai_N := (.ofNat 0, .ofNat 255, [])
def hka00_161 : ai_C := .inl (.int, [(400, hka00_160)])
def hka00_162 : Bool × Option ai_C := (false, some hka00_161)
def hka00_163 : ai_W := [hka00_10, hka00_10, hka00_10, hka00_10, hka00_10, hka00_10, hka00_10, hka00_10, hka00_10, hka00_10, hka00_10, hka00_10, hka00_10, hka00_10, hka00_10, hka00_10, hka00_10, hka00_10, hka00_10, hka00_10, hka00_10, hka00_10, hka00_10, hka00_10, hka00_10, hka00_10, hka00_10, hka00_10, hka00_10, hka00_10, hka00_10, hka00_10, hka00_10, hka00_10, hka00_10, hka00_10, hka00_10, hka00_10, hka00_10, hka00_10, hka00_10, hka00_10, hka00_10, hka00_10, hka00_10, hka00_10, hka00_10, hka00_10, hka00_10, hka00_10, hka00_10, hka00_10, hka00_10, hka00_10, hka00_10, hka00_10, hka00_10, hka00_10, hka00_10, hka00_159, hka00_10, hka00_10, hka00_10, hka00_10, hka00_10, hka00_10, hka00_162, hka00_10, hka00_10, hka00_10, hka00_10, hka00_10, hka00_10, hka00_10, hka00_10, hka00_10]
def hka00_164 : ai_E := [hka00_0, hka00_101, hka00_102, hka00_55, hka00_103, hka00_56, hka00_3, hka00_103, hka00_104, hka00_36, hka00_1, hka00_1, hka00_4, hka00_3, hka00_2, hka00_1, hka00_105, hka00_3, hka00_56]
def hka00_165 : ai_N := (.ofNat 8, .ofNat 400, [(9, .ofNat 8, .ofNat 8)])
def hka00_166 : ai_V := .inl (false, hka00_165)
def hka00_167 : ai_E := [hka00_0, hka00_101, hka00_102, hka00_55, hka00_103, hka00_56, hka00_3, hka00_103, hka00_104, hka00_40, hka00_1, hka00_1, hka00_4, hka00_3, hka00_2, hka00_1, hka00_105, hka00_3, hka00_56]
def hka00_168 : ai_C := .inr (.inr (8, [hka00_108, hka00_109, hka00_111, hka00_113, hka00_114, hka00_115, hka00_117, hka00_118, hka00_120, hka00_122, hka00_123, hka00_125, hka00_127, hka00_129, hka00_130, hka00_166, hka00_88, hka00_134, hka00_136, hka00_138, hka00_140, hka00_142, hka00_143, hka00_145, hka00_146, hka00_147, hka00_149, hka00_150, hka00_151, hka00_152, hka00_153, hka00_154, hka00_155, hka00_157]))
/-- NeverAgainModel.feed -/
def ka_2 : ai_K := (4, 0, (hka00_106, [hka00_107, hka00_8, hka00_9, hka00_9], [], hka00_163), [.inl 1, .inr (59, 2), .inr (59, 3), .inr (59, 6), .inr (59, 8), .inr (59, 9), .inr (59, 11), .inr (59, 12), .inr (59, 13), .inr (59, 15), .inr (59, 16), .inr (59, 17), .inr (59, 18), .inr (59, 19), .inr (59, 20), .inr (59, 21), .inr (59, 23), .inr (59, 26), .inr (59, 33)], [(some hka00_99, hka00_164, []), (some hka00_166, hka00_167, [(59, hka00_168), (66, hka00_161)])])
def hka00_169 : Int × Int := (.ofNat 56, .ofNat 56)
def hka00_170 : ai_E := [hka00_0, hka00_101, hka00_102, hka00_55, hka00_103, hka00_56, hka00_3, hka00_103, hka00_104, hka00_40, hka00_1, hka00_1, hka00_4, hka00_3, hka00_2, hka00_1, hka00_105, hka00_3, hka00_56, hka00_169]
def hka00_171 : ai_N := (.ofNat 56, .ofNat 56, [(19, .ofNat 0, .ofNat 0)])
def hka00_172 : ai_V := .inl (false, hka00_171)
def hka00_173 : ai_N := (.ofNat 0, .ofNat 392, [(9, .ofNat 0, .ofNat 0)])
def hka00_174 : ai_V := .inl (false, hka00_173)
def hka00_175 : ai_C := .inr (.inr (8, [hka00_108, hka00_109, hka00_111, hka00_113, hka00_114, hka00_115, hka00_117, hka00_118, hka00_120, hka00_122, hka00_123, hka00_125, hka00_127, hka00_129, hka00_130, hka00_174, hka00_88, hka00_134, hka00_136, hka00_138, hka00_140, hka00_142, hka00_143, hka00_145, hka00_146, hka00_147, hka00_149, hka00_150, hka00_151, hka00_152, hka00_153, hka00_154, hka00_155, hka00_157]))
def hka00_176 : Bool × Option ai_C := (false, some hka00_175)
def hka00_177 : ai_W := [hka00_10, hka00_10, hka00_10, hka00_10, hka00_10, hka00_10, hka00_10, hka00_10, hka00_10, hka00_10, hka00_10, hka00_10, hka00_10, hka00_10, hka00_10, hka00_10, hka00_10, hka00_10, hka00_10, hka00_10, hka00_10, hka00_10, hka00_10, hka00_10, hka00_10, hka00_10, hka00_10, hka00_10, hka00_10, hka00_10, hka00_10, hka00_10, hka00_10, hka00_10, hka00_10, hka00_10, hka00_10, hka00_10, hka00_10, hka00_10, hka00_10, hka00_10, hka00_10, hka00_10, hka00_10, hka00_10, hka00_10, hka00_10, hka00_10, hka00_10, hka00_10, hka00_10, hka00_10, hka00_10, hka00_10, hka00_10, hka00_10, hka00_10, hka00_10, hka00_176, hka00_10, hka00_10, hka00_10, hka00_10, hka00_10, hka00_10, hka00_162, hka00_10, hka00_10, hka00_10, hka00_10, hka00_10, hka00_10, hka00_10, hka00_10, hka00_10]
def hka00_178 : Int × Int := (.ofNat 48, .ofNat 48)
def hka00_179 : ai_E := [hka00_0, hka00_101, hka00_102, hka00_55, hka00_103, hka00_56, hka00_3, hka00_103, hka00_104, hka00_40, hka00_1, hka00_1, hka00_4, hka00_3, hka00_2, hka00_1, hka00_105, hka00_3, hka00_56, hka00_178]
def hka00_180 : ai_N := (.ofNat 48, .ofNat 48, [(19, .ofNat 0, .ofNat 0)])
def hka00_181 : ai_V := .inl (false, hka00_180)
def hka00_182 : ai_N := (.ofNat 1, .ofNat 393, [(9, .ofNat 1, .ofNat 1)])
def hka00_183 : ai_V := .inl (false, hka00_182)
def hka00_184 : ai_C := .inr (.inr (8, [hka00_108, hka00_109, hka00_111, hka00_113, hka00_114, hka00_115, hka00_117, hka00_118, hka00_120, hka00_122, hka00_123, hka00_125, hka00_127, hka00_129, hka00_130, hka00_183, hka00_88, hka00_134, hka00_136, hka00_138, hka00_140, hka00_142, hka00_143, hka00_145, hka00_146, hka00_147, hka00_149, hka00_150, hka00_151, hka00_152, hka00_153, hka00_154, hka00_155, hka00_157]))
def hka00_185 : Bool × Option ai_C := (true, some hka00_184)
def hka00_186 : Bool × Option ai_C := (true, some hka00_161)
def hka00_187 : ai_W := [hka00_10, hka00_10, hka00_10, hka00_10, hka00_10, hka00_10, hka00_10, hka00_10, hka00_10, hka00_10, hka00_10, hka00_10, hka00_10, hka00_10, hka00_10, hka00_10, hka00_10, hka00_10, hka00_10, hka00_10, hka00_10, hka00_10, hka00_10, hka00_10, hka00_10, hka00_10, hka00_10, hka00_10, hka00_10, hka00_10, hka00_10, hka00_10, hka00_10, hka00_10, hka00_10, hka00_10, hka00_10, hka00_10, hka00_10, hka00_10, hka00_10, hka00_10, hka00_10, hka00_10, hka00_10, hka00_10, hka00_10, hka00_10, hka00_10, hka00_10, hka00_10, hka00_10, hka00_10, hka00_10, hka00_10, hka00_10, hka00_10, hka00_10, hka00_10, hka00_185, hka00_10, hka00_10, hka00_10, hka00_10, hka00_10, hka00_10, hka00_186, hka00_10, hka00_10, hka00_10, hka00_10, hka00_10, hka00_10, hka00_10, hka00_10, hka00_10]
def hka00_188 : Int × Int := (.ofNat 40, .ofNat 40)
def hka00_189 : ai_E := [hka00_0, hka00_101, hka00_102, hka00_55, hka00_103, hka00_56, hka00_3, hka00_103, hka00_104, hka00_40, hka00_1, hka00_1, hka00_4, hka00_3, hka00_2, hka00_1, hka00_105, hka00_3, hka00_56, hka00_188]
def hka00_190 : ai_N := (.ofNat 40, .ofNat 40, [(19, .ofNat 0, .ofNat 0)])
def hka00_191 : ai_V := .inl (false, hka00_190)
def hka00_192 : ai_N := (.ofNat 2, .ofNat 394, [(9, .ofNat 2, .ofNat 2)])
def hka00_193 : ai_V := .inl (false, hka00_192)
def hka00_194 : ai_C := .inr (.inr (8, [hka00_108, hka00_109, hka00_111, hka00_113, hka00_114, hka00_115, hka00_117, hka00_118, hka00_120, hka00_122, hka00_123, hka00_125, hka00_127, hka00_129, hka00_130, hka00_193, hka00_88, hka00_134, hka00_136, hka00_138, hka00_140, hka00_142, hka00_143, hka00_145, hka00_146, hka00_147, hka00_149, hka00_150, hka00_151, hka00_152, hka00_153, hka00_154, hka00_155, hka00_157]))
def hka00_195 : Bool × Option ai_C := (true, some hka00_194)
def hka00_196 : ai_W := [hka00_10, hka00_10, hka00_10, hka00_10, hka00_10, hka00_10, hka00_10, hka00_10, hka00_10, hka00_10, hka00_10, hka00_10, hka00_10, hka00_10, hka00_10, hka00_10, hka00_10, hka00_10, hka00_10, hka00_10, hka00_10, hka00_10, hka00_10, hka00_10, hka00_10, hka00_10, hka00_10, hka00_10, hka00_10, hka00_10, hka00_10, hka00_10, hka00_10, hka00_10, hka00_10, hka00_10, hka00_10, hka00_10, hka00_10, hka00_10, hka00_10, hka00_10, hka00_10, hka00_10, hka00_10, hka00_10, hka00_10, hka00_10, hka00_10, hka00_10, hka00_10, hka00_10, hka00_10, hka00_10, hka00_10, hka00_10, hka00_10, hka00_10, hka00_10, hka00_195, hka00_10, hka00_10, hka00_10, hka00_10, hka00_10, hka00_10, hka00_186, hka00_10, hka00_10, hka00_10, hka00_10, hka00_10, hka00_10, hka00_10, hka00_10, hka00_10]
def hka00_197 : Int × Int := (.ofNat 32, .ofNat 32)
def hka00_198 : ai_E := [hka00_0, hka00_101, hka00_102, hka00_55, hka00_103, hka00_56, hka00_3, hka00_103, hka00_104, hka00_40, hka00_1, hka00_1, hka00_4, hka00_3, hka00_2, hka00_1, hka00_105, hka00_3, hka00_56, hka00_197]
def hka00_199 : ai_N := (.ofNat 32, .ofNat 32, [(19, .ofNat 0, .ofNat 0)])
def hka00_200 : ai_V := .inl (false, hka00_199)
def hka00_201 : ai_N := (.ofNat 3, .ofNat 395, [(9, .ofNat 3, .ofNat 3)])
def hka00_202 : ai_V := .inl (false, hka00_201)
def hka00_203 : ai_C := .inr (.inr (8, [hka00_108, hka00_109, hka00_111, hka00_113, hka00_114, hka00_115, hka00_117, hka00_118, hka00_120, hka00_122, hka00_123, hka00_125, hka00_127, hka00_129, hka00_130, hka00_202, hka00_88, hka00_134, hka00_136, hka00_138, hka00_140, hka00_142, hka00_143, hka00_145, hka00_146, hka00_147, hka00_149, hka00_150, hka00_151, hka00_152, hka00_153, hka00_154, hka00_155, hka00_157]))
def hka00_204 : Bool × Option ai_C := (true, some hka00_203)
def hka00_205 : ai_W := [hka00_10, hka00_10, hka00_10, hka00_10, hka00_10, hka00_10, hka00_10, hka00_10, hka00_10, hka00_10, hka00_10, hka00_10, hka00_10, hka00_10, hka00_10, hka00_10, hka00_10, hka00_10, hka00_10, hka00_10, hka00_10, hka00_10, hka00_10, hka00_10, hka00_10, hka00_10, hka00_10, hka00_10, hka00_10, hka00_10, hka00_10, hka00_10, hka00_10, hka00_10, hka00_10, hka00_10, hka00_10, hka00_10, hka00_10, hka00_10, hka00_10, hka00_10, hka00_10, hka00_10, hka00_10, hka00_10, hka00_10, hka00_10, hka00_10, hka00_10, hka00_10, hka00_10, hka00_10, hka00_10, hka00_10, hka00_10, hka00_10, hka00_10, hka00_10, hka00_204, hka00_10, hka00_10, hka00_10, hka00_10, hka00_10, hka00_10, hka00_186, hka00_10, hka00_10, hka00_10, hka00_10, hka00_10, hka00_10, hka00_10, hka00_10, hka00_10]
def hka00_206 : Int × Int := (.ofNat 24, .ofNat 24)
def hka00_207 : ai_E := [hka00_0, hka00_101, hka00_102, hka00_55, hka00_103, hka00_56, hka00_3, hka00_103, hka00_104, hka00_40, hka00_1, hka00_1, hka00_4, hka00_3, hka00_2, hka00_1, hka00_105, hka00_3, hka00_56, hka00_206]
def hka00_208 : ai_N := (.ofNat 24, .ofNat 24, [(19, .ofNat 0, .ofNat 0)])
def hka00_209 : ai_V := .inl (false, hka00_208)
def hka00_210 : ai_N := (.ofNat 4, .ofNat 396, [(9, .ofNat 4, .ofNat 4)])
def hka00_211 : ai_V := .inl (false, hka00_210)
def hka00_212 : ai_C := .inr (.inr (8, [hka00_108, hka00_109, hka00_111, hka00_113, hka00_114, hka00_115, hka00_117, hka00_118, hka00_120, hka00_122, hka00_123, hka00_125, hka00_127, hka00_129, hka00_130, hka00_211, hka00_88, hka00_134, hka00_136, hka00_138, hka00_140, hka00_142, hka00_143, hka00_145, hka00_146, hka00_147, hka00_149, hka00_150, hka00_151, hka00_152, hka00_153, hka00_154, hka00_155, hka00_157]))
def hka00_213 : Bool × Option ai_C := (true, some hka00_212)
def hka00_214 : ai_W := [hka00_10, hka00_10, hka00_10, hka00_10, hka00_10, hka00_10, hka00_10, hka00_10, hka00_10, hka00_10, hka00_10, hka00_10, hka00_10, hka00_10, hka00_10, hka00_10, hka00_10, hka00_10, hka00_10, hka00_10, hka00_10, hka00_10, hka00_10, hka00_10, hka00_10, hka00_10, hka00_10, hka00_10, hka00_10, hka00_10, hka00_10, hka00_10, hka00_10, hka00_10, hka00_10, hka00_10, hka00_10, hka00_10, hka00_10, hka00_10, hka00_10, hka00_10, hka00_10, hka00_10, hka00_10, hka00_10, hka00_10, hka00_10, hka00_10, hka00_10, hka00_10, hka00_10, hka00_10, hka00_10, hka00_10, hka00_10, hka00_10, hka00_10, hka00_10, hka00_213, hka00_10, hka00_10, hka00_10, hka00_10, hka00_10, hka00_10, hka00_186, hka00_10, hka00_10, hka00_10, hka00_10, hka00_10, hka00_10, hka00_10, hka00_10, hka00_10]
def hka00_215 : Int × Int := (.ofNat 16, .ofNat 16)
def hka00_216 : ai_E := [hka00_0, hka00_101, hka00_102, hka00_55, hka00_103, hka00_56, hka00_3, hka00_103, hka00_104, hka00_40, hka00_1, hka00_1, hka00_4, hka00_3, hka00_2, hka00_1, hka00_105, hka00_3, hka00_56, hka00_215]
def hka00_217 : ai_N := (.ofNat 16, .ofNat 16, [(19, .ofNat 0, .ofNat 0)])
def hka00_218 : ai_V := .inl (false, hka00_217)
def hka00_219 : ai_N := (.ofNat 5, .ofNat 397, [(9, .ofNat 5, .ofNat 5)])
def hka00_220 : ai_V := .inl (false, hka00_219)
def hka00_221 : ai_C := .inr (.inr (8, [hka00_108, hka00_109, hka00_111, hka00_113, hka00_114, hka00_115, hka00_117, hka00_118, hka00_120, hka00_122, hka00_123, hka00_125, hka00_127, hka00_129, hka00_130, hka00_220, hka00_88, hka00_134, hka00_136, hka00_138, hka00_140, hka00_142, hka00_143, hka00_145, hka00_146, hka00_147, hka00_149, hka00_150, hka00_151, hka00_152, hka00_153, hka00_154, hka00_155, hka00_157]))
def hka00_222 : Bool × Option ai_C := (true, some hka00_221)
def hka00_223 : ai_W := [hka00_10, hka00_10, hka00_10, hka00_10, hka00_10, hka00_10, hka00_10, hka00_10, hka00_10, hka00_10, hka00_10, hka00_10, hka00_10, hka00_10, hka00_10, hka00_10, hka00_10, hka00_10, hka00_10, hka00_10, hka00_10, hka00_10, hka00_10, hka00_10, hka00_10, hka00_10, hka00_10, hka00_10, hka00_10, hka00_10, hka00_10, hka00_10, hka00_10, hka00_10, hka00_10, hka00_10, hka00_10, hka00_10, hka00_10, hka00_10, hka00_10, hka00_10, hka00_10, hka00_10, hka00_10, hka00_10, hka00_10, hka00_10, hka00_10, hka00_10, hka00_10, hka00_10, hka00_10, hka00_10, hka00_10, hka00_10, hka00_10, hka00_10, hka00_10, hka00_222, hka00_10, hka00_10, hka00_10, hka00_10, hka00_10, hka00_10, hka00_186, hka00_10, hka00_10, hka00_10, hka00_10, hka00_10, hka00_10, hka00_10, hka00_10, hka00_10]
def hka00_224 : Int × Int := (.ofNat 8, .ofNat 8)
def hka00_225 : ai_E := [hka00_0, hka00_101, hka00_102, hka00_55, hka00_103, hka00_56, hka00_3, hka00_103, hka00_104, hka00_40, hka00_1, hka00_1, hka00_4, hka00_3, hka00_2, hka00_1, hka00_105, hka00_3, hka00_56, hka00_224]
def hka00_226 : ai_N := (.ofNat 8, .ofNat 8, [(19, .ofNat 0, .ofNat 0)])
def hka00_227 : ai_V := .inl (false, hka00_226)
def hka00_228 : ai_N := (.ofNat 6, .ofNat 398, [(9, .ofNat 6, .ofNat 6)])
def hka00_229 : ai_V := .inl (false, hka00_228)
def hka00_230 : ai_C := .inr (.inr (8, [hka00_108, hka00_109, hka00_111, hka00_113, hka00_114, hka00_115, hka00_117, hka00_118, hka00_120, hka00_122, hka00_123, hka00_125, hka00_127, hka00_129, hka00_130, hka00_229, hka00_88, hka00_134, hka00_136, hka00_138, hka00_140, hka00_142, hka00_143, hka00_145, hka00_146, hka00_147, hka00_149, hka00_150, hka00_151, hka00_152, hka00_153, hka00_154, hka00_155, hka00_157]))
def hka00_231 : Bool × Option ai_C := (true, some hka00_230)
def hka00_232 : ai_W := [hka00_10, hka00_10, hka00_10, hka00_10, hka00_10, hka00_10, hka00_10, hka00_10, hka00_10, hka00_10, hka00_10, hka00_10, hka00_10, hka00_10, hka00_10, hka00_10, hka00_10, hka00_10, hka00_10, hka00_10, hka00_10, hka00_10, hka00_10, hka00_10, hka00_10, hka00_10, hka00_10, hka00_10, hka00_10, hka00_10, hka00_10, hka00_10, hka00_10, hka00_10, hka00_10, hka00_10, hka00_10, hka00_10, hka00_10, hka00_10, hka00_10, hka00_10, hka00_10, hka00_10, hka00_10, hka00_10, hka00_10, hka00_10, hka00_10, hka00_10, hka00_10, hka00_10, hka00_10, hka00_10, hka00_10, hka00_10, hka00_10, hka00_10, hka00_10, hka00_231, hka00_10, hka00_10, hka00_10, hka00_10, hka00_10, hka00_10, hka00_186, hka00_10, hka00_10, hka00_10, hka00_10, hka00_10, hka00_10, hka00_10, hka00_10, hka00_10]
def hka00_233 : Int × Int := (.ofNat 0, .ofNat 0)
def hka00_234 : ai_E := [hka00_0, hka00_101, hka00_102, hka00_55, hka00_103, hka00_56, hka00_3, hka00_103, hka00_104, hka00_40, hka00_1, hka00_1, hka00_4, hka00_3, hka00_2, hka00_1, hka00_105, hka00_3, hka00_56, hka00_233]
def hka00_235 : ai_N := (.ofNat 0, .ofNat 0, [(19, .ofNat 0, .ofNat 0)])
def hka00_236 : ai_V := .inl (false, hka00_235)
def hka00_237 : ai_N := (.ofNat 7, .ofNat 399, [(9, .ofNat 7, .ofNat 7)])
def hka00_238 : ai_V := .inl (false, hka00_237)
def hka00_239 : ai_C := .inr (.inr (8, [hka00_108, hka00_109, hka00_111, hka00_113, hka00_114, hka00_115, hka00_117, hka00_118, hka00_120, hka00_122, hka00_123, hka00_125, hka00_127, hka00_129, hka00_130, hka00_238, hka00_88, hka00_134, hka00_136, hka00_138, hka00_140, hka00_142, hka00_143, hka00_145, hka00_146, hka00_147, hka00_149, hka00_150, hka00_151, hka00_152, hka00_153, hka00_154, hka00_155, hka00_157]))
def hka00_240 : Bool × Option ai_C := (true, some hka00_239)
def hka00_241 : ai_W := [hka00_10, hka00_10, hka00_10, hka00_10, hka00_10, hka00_10, hka00_10, hka00_10, hka00_10, hka00_10, hka00_10, hka00_10, hka00_10, hka00_10, hka00_10, hka00_10, hka00_10, hka00_10, hka00_10, hka00_10, hka00_10, hka00_10, hka00_10, hka00_10, hka00_10, hka00_10, hka00_10, hka00_10, hka00_10, hka00_10, hka00_10, hka00_10, hka00_10, hka00_10, hka00_10, hka00_10, hka00_10, hka00_10, hka00_10, hka00_10, hka00_10, hka00_10, hka00_10, hka00_10, hka00_10, hka00_10, hka00_10, hka00_10, hka00_10, hka00_10, hka00_10, hka00_10, hka00_10, hka00_10, hka00_10, hka00_10, hka00_10, hka00_10, hka00_10, hka00_240, hka00_10, hka00_10, hka00_10, hka00_10, hka00_10, hka00_10, hka00_186, hka00_10, hka00_10, hka00_10, hka00_10, hka00_10, hka00_10, hka00_10, hka00_10, hka00_10]
def hka00_242 : Int × Int := (.negSucc 7, .negSucc 7)
def hka00_243 : ai_E := [hka00_0, hka00_101, hka00_102, hka00_55, hka00_103, hka00_56, hka00_3, hka00_103, hka00_104, hka00_40, hka00_1, hka00_1, hka00_4, hka00_3, hka00_2, hka00_1, hka00_105, hka00_3, hka00_56, hka00_242]
def hka00_244 : ai_N := (.negSucc 7, .negSucc 7, [(19, .ofNat 0, .ofNat 0)])
def hka00_245 : ai_V := .inl (false, hka00_244)
def hka00_246 : Bool × Option ai_C := (true, some hka00_168)
def hka00_247 : ai_W := [hka00_10, hka00_10, hka00_10, hka00_10, hka00_10, hka00_10, hka00_10, hka00_10, hka00_10, hka00_10, hka00_10, hka00_10, hka00_10, hka00_10, hka00_10, hka00_10, hka00_10, hka00_10, hka00_10, hka00_10, hka00_10, hka00_10, hka00_10, hka00_10, hka00_10, hka00_10, hka00_10, hka00_10, hka00_10, hka00_10, hka00_10, hka00_10, hka00_10, hka00_10, hka00_10, hka00_10, hka00_10, hka00_10, hka00_10, hka00_10, hka00_10, hka00_10, hka00_10, hka00_10, hka00_10, hka00_10, hka00_10, hka00_10, hka00_10, hka00_10, hka00_10, hka00_10, hka00_10, hka00_10, hka00_10, hka00_10, hka00_10, hka00_10, hka00_10, hka00_246, hka00_10, hka00_10, hka00_10, hka00_10, hka00_10, hka00_10, hka00_186, hka00_10, hka00_10, hka00_10, hka00_10, hka00_10, hka00_10, hka00_10, hka00_10, hka00_10]
def kan_2 : List ai_Nd := [(19, (hka00_170, [hka00_107, hka00_8, hka00_9, hka00_172], [], hka00_177), [.inl 3], [.inl 99980, .inl 9, .inr (true, .ofNat 56, 19), .inl 100000]), (19, (hka00_179, [hka00_107, hka00_8, hka00_9, hka00_181], [], hka00_187), [.inl 3], [.inl 99980, .inl 8, .inr (true, .ofNat 56, 19), .inl 100000]), (19, (hka00_189, [hka00_107, hka00_8, hka00_9, hka00_191], [], hka00_196), [.inl 3], [.inl 99980, .inl 7, .inr (true, .ofNat 56, 19), .inl 100000]), (19, (hka00_198, [hka00_107, hka00_8, hka00_9, hka00_200], [], hka00_205), [.inl 3], [.inl 99980, .inl 6, .inr (true, .ofNat 56, 19), .inl 100000]), (19, (hka00_207, [hka00_107, hka00_8, hka00_9, hka00_209], [], hka00_214), [.inl 3], [.inl 99980, .inl 5, .inr (true, .ofNat 56, 19), .inl 100000]), (19, (hka00_216, [hka00_107, hka00_8, hka00_9, hka00_218], [], hka00_223), [.inl 3], [.inl 99980, .inl 4, .inr (true, .ofNat 56, 19), .inl 100000]), (19, (hka00_225, [hka00_107, hka00_8, hka00_9, hka00_227], [], hka00_232), [.inl 3], [.inl 99980, .inl 3, .inr (true, .ofNat 56, 19), .inl 100000]), (19, (hka00_234, [hka00_107, hka00_8, hka00_9, hka00_236], [], hka00_241), [.inl 3], [.inl 99980, .inl 2, .inr (true, .ofNat 56, 19), .inl 100000]), (19, (hka00_243, [hka00_107, hka00_8, hka00_9, hka00_245], [], hka00_247), [.inl 3], [.inl 99980, .inl 1, .inr (true, .ofNat 56, 19), .inl 100000])]
set_option maxRecDepth 1000000 in
theorem kak_2 : ai_ck [] [] ka_2 [.inl 100000, .inl 0, .inl 0, .inl 0] kan_2 23 = true := by decide +kernel
theorem kah_2 : ai_holds ka_2 := ai_thm kak_2 ai_nil
def hka00_248 : ai_E := [hka00_3, hka00_55, hka00_2, hka00_56, hka00_1, hka00_2, hka00_1, hka00_3, hka00_1, hka00_4, hka00_1, hka00_3]
def hka00_249 : ai_N := (.negSucc 2147483647, .ofNat 2147483647, [(0, .ofNat 0, .ofNat 0)])
def hka00_250 : ai_V := .inl (false, hka00_249)
def hka00_251 : ai_W := [hka00_74, hka00_10, hka00_10, hka00_10, hka00_10, hka00_10, hka00_10, hka00_10, hka00_10, hka00_10, hka00_10, hka00_10, hka00_10, hka00_10, hka00_10, hka00_92, hka00_10, hka00_10, hka00_10, hka00_10, hka00_10, hka00_10, hka00_10, hka00_10, hka00_10, hka00_10, hka00_10, hka00_10, hka00_10, hka00_10, hka00_10, hka00_10, hka00_10, hka00_10, hka00_10, hka00_10, hka00_10, hka00_10, hka00_10, hka00_10, hka00_10, hka00_10, hka00_10, hka00_10, hka00_10, hka00_10, hka00_10, hka00_10, hka00_10, hka00_10, hka00_10, hka00_10, hka00_10, hka00_10, hka00_10, hka00_10, hka00_10, hka00_10, hka00_10, hka00_10, hka00_10, hka00_10, hka00_10, hka00_10, hka00_10, hka00_10, hka00_10, hka00_10, hka00_10, hka00_10, hka00_10, hka00_10, hka00_10, hka00_10, hka00_10, hka00_10]
def hka00_252 : ai_N := (.negSucc 0, .negSucc 0, [])
def hka00_253 : ai_V := .inl (false, hka00_252)
def hka00_254 : Int × Int := (.ofNat 1, .ofNat 2147483647)
def hka00_255 : ai_E := [hka00_254, hka00_55, hka00_2, hka00_56, hka00_1, hka00_2, hka00_1, hka00_3, hka00_1, hka00_4, hka00_1, hka00_3]
def hka00_256 : ai_E := [hka00_1, hka00_55, hka00_2, hka00_56, hka00_1, hka00_2, hka00_1, hka00_3, hka00_1, hka00_4, hka00_1, hka00_3]
def hka00_257 : ai_N := (.ofNat 0, .ofNat 400, [(0, .ofNat 0, .ofNat 0)])
def hka00_258 : ai_V := .inl (false, hka00_257)
def hka00_259 : ai_C := .inr (.inr (5, [hka00_11, hka00_258, hka00_78, hka00_80, hka00_9, hka00_82, hka00_84, hka00_86, hka00_88, hka00_90]))
def hka00_260 : Int × Int := (.negSucc 2147483647, .negSucc 0)
def hka00_261 : ai_E := [hka00_260, hka00_55, hka00_2, hka00_56, hka00_1, hka00_2, hka00_1, hka00_3, hka00_1, hka00_4, hka00_1, hka00_3]
/-- NeverAgain.end -/
def ka_3 : ai_K := (5, 0, (hka00_248, [hka00_58, hka00_250, hka00_9], [], hka00_251), [.inl 1, .inr (0, 11), .inr (0, 12), .inr (0, 13), .inr (15, 1), .inr (15, 2), .inr (15, 3), .inr (15, 5), .inr (15, 6), .inr (15, 7), .inr (15, 8), .inr (15, 9)], [(some hka00_253, hka00_255, []), (some hka00_76, hka00_256, [(15, hka00_259)]), (some hka00_253, hka00_261, [])])
def kan_3 : List ai_Nd := []
set_option maxRecDepth 1000000 in
theorem kak_3 : ai_ck [] [] ka_3 [.inl 100000] kan_3 16 = true := by decide +kernel
theorem kah_3 : ai_holds ka_3 := ai_thm kak_3 ai_nil
def hka00_262 : ai_E := [hka00_3, hka00_1]
def hka00_263 : ai_V := .inl (true, hka00_249)
def hka00_264 : ai_V := .inl (true, hka00_34)
def hka00_265 : ai_V := .inl (true, hka00_12)
def hka00_266 : ai_W := [hka00_10, hka00_10, hka00_10, hka00_10, hka00_10, hka00_10, hka00_10, hka00_10, hka00_10, hka00_10, hka00_10, hka00_10, hka00_10, hka00_10, hka00_10, hka00_10, hka00_10, hka00_10, hka00_10, hka00_10, hka00_10, hka00_10, hka00_10, hka00_10, hka00_10, hka00_10, hka00_10, hka00_10, hka00_10, hka00_10, hka00_10, hka00_10, hka00_10, hka00_10, hka00_10, hka00_10, hka00_10, hka00_10, hka00_10, hka00_10, hka00_10, hka00_10, hka00_10, hka00_10, hka00_10, hka00_10, hka00_10, hka00_10, hka00_10, hka00_10, hka00_10, hka00_10, hka00_10, hka00_10, hka00_10, hka00_10, hka00_10, hka00_10, hka00_10, hka00_10, hka00_10, hka00_10, hka00_10, hka00_10, hka00_10, hka00_10, hka00_10, hka00_10, hka00_10, hka00_10, hka00_10, hka00_10, hka00_10, hka00_10, hka00_10, hka00_10]
def hka00_267 : ai_E := [hka00_254, hka00_1]
def hka00_268 : Int × Int := (.ofNat 1, .ofNat 400)
def hka00_269 : ai_E := [hka00_268, hka00_268]
def hka00_270 : Int × Int := (.ofNat 1, .ofNat 399)
def hka00_271 : Int × Int := (.ofNat 2, .ofNat 400)
def hka00_272 : ai_E := [hka00_270, hka00_271]
def hka00_273 : ai_E := [hka00_233, hka00_233]
def hka00_274 : ai_E := [hka00_233, hka00_268]
def hka00_275 : ai_E := [hka00_260, hka00_1]
/-- NeverAgainModel.in -/
def ka_4 : ai_K := (93, 0, (hka00_262, [hka00_263, hka00_9, hka00_264, hka00_9, hka00_265, hka00_9], [], hka00_266), [.inl 0, .inl 4], [(some hka00_35, hka00_267, []), (some hka00_39, hka00_269, []), (some hka00_39, hka00_272, []), (some hka00_39, hka00_273, []), (some hka00_39, hka00_274, []), (some hka00_35, hka00_275, [])])
def kan_4 : List ai_Nd := []
set_option maxRecDepth 1000000 in
theorem kak_4 : ai_ck [] [] ka_4 [.inl 100000] kan_4 12 = true := by decide +kernel
theorem kah_4 : ai_holds ka_4 := ai_thm kak_4 ai_nil
def hka00_276 : ai_E := [hka00_3, hka00_101, hka00_102, hka00_55, hka00_103, hka00_56, hka00_3, hka00_103, hka00_104, hka00_1, hka00_1, hka00_1, hka00_4, hka00_3, hka00_2, hka00_1, hka00_105, hka00_3, hka00_56]
def hka00_277 : ai_W := [hka00_10, hka00_10, hka00_10, hka00_10, hka00_10, hka00_10, hka00_10, hka00_10, hka00_10, hka00_10, hka00_10, hka00_10, hka00_10, hka00_10, hka00_10, hka00_10, hka00_10, hka00_10, hka00_10, hka00_10, hka00_10, hka00_10, hka00_10, hka00_10, hka00_10, hka00_10, hka00_10, hka00_10, hka00_10, hka00_10, hka00_10, hka00_10, hka00_10, hka00_10, hka00_10, hka00_10, hka00_10, hka00_10, hka00_10, hka00_10, hka00_10, hka00_10, hka00_10, hka00_10, hka00_10, hka00_10, hka00_10, hka00_10, hka00_10, hka00_10, hka00_10, hka00_10, hka00_10, hka00_10, hka00_10, hka00_10, hka00_10, hka00_10, hka00_10, hka00_159, hka00_10, hka00_10, hka00_10, hka00_10, hka00_10, hka00_10, hka00_10, hka00_10, hka00_10, hka00_10, hka00_10, hka00_10, hka00_10, hka00_10, hka00_10, hka00_10]
def hka00_278 : ai_E := [hka00_260, hka00_101, hka00_102, hka00_55, hka00_103, hka00_56, hka00_3, hka00_103, hka00_104, hka00_1, hka00_1, hka00_1, hka00_4, hka00_3, hka00_2, hka00_1, hka00_105, hka00_3, hka00_56]
def hka00_279 : ai_N := (.ofNat 1, .ofNat 400, [(9, .ofNat 0, .ofNat 0)])
def hka00_280 : ai_V := .inl (false, hka00_279)
def hka00_281 : ai_E := [hka00_233, hka00_101, hka00_102, hka00_55, hka00_103, hka00_56, hka00_3, hka00_103, hka00_104, hka00_268, hka00_1, hka00_1, hka00_4, hka00_3, hka00_2, hka00_1, hka00_105, hka00_3, hka00_56]
def hka00_282 : ai_N := (.ofNat 0, .ofNat 0, [(0, .ofNat 0, .ofNat 0)])
def hka00_283 : ai_V := .inl (false, hka00_282)
def hka00_284 : ai_C := .inr (.inr (8, [hka00_108, hka00_109, hka00_111, hka00_113, hka00_114, hka00_115, hka00_117, hka00_118, hka00_120, hka00_122, hka00_123, hka00_125, hka00_127, hka00_129, hka00_130, hka00_283, hka00_88, hka00_134, hka00_136, hka00_138, hka00_140, hka00_142, hka00_143, hka00_145, hka00_146, hka00_147, hka00_149, hka00_150, hka00_151, hka00_152, hka00_153, hka00_154, hka00_155, hka00_157]))
def hka00_285 : ai_N := (.ofNat 0, .ofNat 0, [(9, .ofNat 0, .ofNat 0)])
def hka00_286 : ai_V := .inl (false, hka00_285)
def hka00_287 : ai_E := [hka00_233, hka00_101, hka00_102, hka00_55, hka00_103, hka00_56, hka00_3, hka00_103, hka00_104, hka00_233, hka00_1, hka00_1, hka00_4, hka00_3, hka00_2, hka00_1, hka00_105, hka00_3, hka00_56]
def hka00_288 : ai_N := (.ofNat 2, .ofNat 400, [(9, .ofNat 0, .ofNat 0)])
def hka00_289 : ai_V := .inl (false, hka00_288)
def hka00_290 : ai_E := [hka00_270, hka00_101, hka00_102, hka00_55, hka00_103, hka00_56, hka00_3, hka00_103, hka00_104, hka00_271, hka00_1, hka00_1, hka00_4, hka00_3, hka00_2, hka00_1, hka00_105, hka00_3, hka00_56]
def hka00_291 : ai_N := (.ofNat 1, .ofNat 399, [(0, .ofNat 0, .ofNat 0)])
def hka00_292 : ai_V := .inl (false, hka00_291)
def hka00_293 : ai_C := .inr (.inr (8, [hka00_108, hka00_109, hka00_111, hka00_113, hka00_114, hka00_115, hka00_117, hka00_118, hka00_120, hka00_122, hka00_123, hka00_125, hka00_127, hka00_129, hka00_130, hka00_292, hka00_88, hka00_134, hka00_136, hka00_138, hka00_140, hka00_142, hka00_143, hka00_145, hka00_146, hka00_147, hka00_149, hka00_150, hka00_151, hka00_152, hka00_153, hka00_154, hka00_155, hka00_157]))
def hka00_294 : ai_E := [hka00_268, hka00_101, hka00_102, hka00_55, hka00_103, hka00_56, hka00_3, hka00_103, hka00_104, hka00_268, hka00_1, hka00_1, hka00_4, hka00_3, hka00_2, hka00_1, hka00_105, hka00_3, hka00_56]
def hka00_295 : ai_N := (.ofNat 1, .ofNat 400, [(0, .ofNat 0, .ofNat 0)])
def hka00_296 : ai_V := .inl (false, hka00_295)
def hka00_297 : ai_C := .inr (.inr (8, [hka00_108, hka00_109, hka00_111, hka00_113, hka00_114, hka00_115, hka00_117, hka00_118, hka00_120, hka00_122, hka00_123, hka00_125, hka00_127, hka00_129, hka00_130, hka00_296, hka00_88, hka00_134, hka00_136, hka00_138, hka00_140, hka00_142, hka00_143, hka00_145, hka00_146, hka00_147, hka00_149, hka00_150, hka00_151, hka00_152, hka00_153, hka00_154, hka00_155, hka00_157]))
def hka00_298 : ai_E := [hka00_254, hka00_101, hka00_102, hka00_55, hka00_103, hka00_56, hka00_3, hka00_103, hka00_104, hka00_1, hka00_1, hka00_1, hka00_4, hka00_3, hka00_2, hka00_1, hka00_105, hka00_3, hka00_56]
/-- NeverAgainModel.end -/
def ka_5 : ai_K := (6, 1, (hka00_276, [hka00_107, hka00_250, hka00_9], [], hka00_277), [.inl 1, .inr (59, 2), .inr (59, 3), .inr (59, 6), .inr (59, 8), .inr (59, 9), .inr (59, 11), .inr (59, 12), .inr (59, 13), .inr (59, 15), .inr (59, 16), .inr (59, 17), .inr (59, 18), .inr (59, 19), .inr (59, 20), .inr (59, 21), .inr (59, 23), .inr (59, 26), .inr (59, 33)], [(some hka00_253, hka00_278, []), (some hka00_280, hka00_281, [(59, hka00_284)]), (some hka00_286, hka00_287, [(59, hka00_284)]), (some hka00_289, hka00_290, [(59, hka00_293)]), (some hka00_280, hka00_294, [(59, hka00_297)]), (some hka00_253, hka00_298, [])])
def kan_5 : List ai_Nd := []
set_option maxRecDepth 1000000 in
theorem kak_5 : ai_ck [ka_4] [] ka_5 [.inl 100000] kan_5 17 = true := by decide +kernel
theorem kah_5 : ai_holds ka_5 := ai_thm kak_5 (ai_cons kah_4 ai_nil)
def hka00_299 : ai_V := .inr (some (.ref 9))
def hka00_300 : ai_N := (.negSucc 2147483647, .ofNat 2147483647, [])
def hka00_301 : ai_C := .inl (.int, [(4, hka00_300)])
def hka00_302 : Bool × Option ai_C := (false, some hka00_301)
def hka00_303 : ai_W := [hka00_10, hka00_10, hka00_10, hka00_10, hka00_10, hka00_10, hka00_10, hka00_10, hka00_10, hka00_302, hka00_10, hka00_10, hka00_10, hka00_10, hka00_10, hka00_10, hka00_10, hka00_10, hka00_10, hka00_10, hka00_10, hka00_10, hka00_10, hka00_10, hka00_10, hka00_10, hka00_10, hka00_10, hka00_10, hka00_10, hka00_10, hka00_10, hka00_10, hka00_10, hka00_10, hka00_10, hka00_10, hka00_10, hka00_10, hka00_10, hka00_10, hka00_10, hka00_10, hka00_10, hka00_10, hka00_10, hka00_10, hka00_10, hka00_10, hka00_10, hka00_10, hka00_10, hka00_10, hka00_10, hka00_10, hka00_10, hka00_10, hka00_10, hka00_10, hka00_10, hka00_10, hka00_10, hka00_10, hka00_10, hka00_10, hka00_10, hka00_10, hka00_10, hka00_10, hka00_10, hka00_10, hka00_10, hka00_10, hka00_10, hka00_10, hka00_10]
/-- java/util/Arrays.fill -/
def ka_6 : ai_K := (162, 0, ([], [hka00_299, hka00_39, hka00_9, hka00_9], [], hka00_303), [], [(none, [], [(9, hka00_301)])])
def hka00_304 : ai_N := (.ofNat 0, .ofNat 4, [(0, .ofNat 0, .ofNat 0)])
def hka00_305 : ai_V := .inl (false, hka00_304)
def hka00_306 : ai_N := (.ofNat 4, .ofNat 4, [])
def hka00_307 : ai_V := .inl (false, hka00_306)
def hka00_308 : Bool × Option ai_C := (true, some hka00_301)
def hka00_309 : ai_W := [hka00_10, hka00_10, hka00_10, hka00_10, hka00_10, hka00_10, hka00_10, hka00_10, hka00_10, hka00_308, hka00_10, hka00_10, hka00_10, hka00_10, hka00_10, hka00_10, hka00_10, hka00_10, hka00_10, hka00_10, hka00_10, hka00_10, hka00_10, hka00_10, hka00_10, hka00_10, hka00_10, hka00_10, hka00_10, hka00_10, hka00_10, hka00_10, hka00_10, hka00_10, hka00_10, hka00_10, hka00_10, hka00_10, hka00_10, hka00_10, hka00_10, hka00_10, hka00_10, hka00_10, hka00_10, hka00_10, hka00_10, hka00_10, hka00_10, hka00_10, hka00_10, hka00_10, hka00_10, hka00_10, hka00_10, hka00_10, hka00_10, hka00_10, hka00_10, hka00_10, hka00_10, hka00_10, hka00_10, hka00_10, hka00_10, hka00_10, hka00_10, hka00_10, hka00_10, hka00_10, hka00_10, hka00_10, hka00_10, hka00_10, hka00_10, hka00_10]
def kan_6 : List ai_Nd := [(5, ([hka00_56], [hka00_299, hka00_39, hka00_305, hka00_307], [], hka00_309), [.inl 2], [.inl 99994, .inl 1, .inr (true, .ofNat 4, 0), .inl 100000])]
set_option maxRecDepth 1000000 in
theorem kak_6 : ai_ck [] [] ka_6 [.inl 100000, .inl 0, .inl 0, .inl 0] kan_6 11 = true := by decide +kernel
theorem kah_6 : ai_holds ka_6 := ai_thm kak_6 ai_nil
def hka00_310 : ai_V := .inr (some (.ref 10))
def hka00_311 : ai_N := (.negSucc 3, .negSucc 3, [])
def hka00_312 : ai_V := .inl (false, hka00_311)
def hka00_313 : ai_C := .inl (.int, [(17, hka00_300)])
def hka00_314 : Bool × Option ai_C := (false, some hka00_313)
def hka00_315 : ai_W := [hka00_10, hka00_10, hka00_10, hka00_10, hka00_10, hka00_10, hka00_10, hka00_10, hka00_10, hka00_10, hka00_314, hka00_10, hka00_10, hka00_10, hka00_10, hka00_10, hka00_10, hka00_10, hka00_10, hka00_10, hka00_10, hka00_10, hka00_10, hka00_10, hka00_10, hka00_10, hka00_10, hka00_10, hka00_10, hka00_10, hka00_10, hka00_10, hka00_10, hka00_10, hka00_10, hka00_10, hka00_10, hka00_10, hka00_10, hka00_10, hka00_10, hka00_10, hka00_10, hka00_10, hka00_10, hka00_10, hka00_10, hka00_10, hka00_10, hka00_10, hka00_10, hka00_10, hka00_10, hka00_10, hka00_10, hka00_10, hka00_10, hka00_10, hka00_10, hka00_10, hka00_10, hka00_10, hka00_10, hka00_10, hka00_10, hka00_10, hka00_10, hka00_10, hka00_10, hka00_10, hka00_10, hka00_10, hka00_10, hka00_10, hka00_10, hka00_10]
/-- java/util/Arrays.fill -/
def ka_7 : ai_K := (162, 0, ([], [hka00_310, hka00_312, hka00_9, hka00_9], [], hka00_315), [], [(none, [], [(10, hka00_313)])])
def hka00_316 : Int × Int := (.ofNat 0, .ofNat 17)
def hka00_317 : ai_N := (.ofNat 0, .ofNat 17, [(0, .ofNat 0, .ofNat 0)])
def hka00_318 : ai_V := .inl (false, hka00_317)
def hka00_319 : ai_N := (.ofNat 17, .ofNat 17, [])
def hka00_320 : ai_V := .inl (false, hka00_319)
def hka00_321 : Bool × Option ai_C := (true, some hka00_313)
def hka00_322 : ai_W := [hka00_10, hka00_10, hka00_10, hka00_10, hka00_10, hka00_10, hka00_10, hka00_10, hka00_10, hka00_10, hka00_321, hka00_10, hka00_10, hka00_10, hka00_10, hka00_10, hka00_10, hka00_10, hka00_10, hka00_10, hka00_10, hka00_10, hka00_10, hka00_10, hka00_10, hka00_10, hka00_10, hka00_10, hka00_10, hka00_10, hka00_10, hka00_10, hka00_10, hka00_10, hka00_10, hka00_10, hka00_10, hka00_10, hka00_10, hka00_10, hka00_10, hka00_10, hka00_10, hka00_10, hka00_10, hka00_10, hka00_10, hka00_10, hka00_10, hka00_10, hka00_10, hka00_10, hka00_10, hka00_10, hka00_10, hka00_10, hka00_10, hka00_10, hka00_10, hka00_10, hka00_10, hka00_10, hka00_10, hka00_10, hka00_10, hka00_10, hka00_10, hka00_10, hka00_10, hka00_10, hka00_10, hka00_10, hka00_10, hka00_10, hka00_10, hka00_10]
def kan_7 : List ai_Nd := [(5, ([hka00_316], [hka00_310, hka00_312, hka00_318, hka00_320], [], hka00_322), [.inl 2], [.inl 99994, .inl 1, .inr (true, .ofNat 17, 0), .inl 100000])]
set_option maxRecDepth 1000000 in
theorem kak_7 : ai_ck [] [] ka_7 [.inl 100000, .inl 0, .inl 0, .inl 0] kan_7 11 = true := by decide +kernel
theorem kah_7 : ai_holds ka_7 := ai_thm kak_7 ai_nil
def hka00_323 : Int × Int := (.ofNat 0, .ofNat 60)
def hka00_324 : Int × Int := (.ofNat 0, .ofNat 5)
def hka00_325 : ai_E := [hka00_101, hka00_102, hka00_3, hka00_3, hka00_3, hka00_323, hka00_324, hka00_56]
def hka00_326 : ai_V := .inr (some (.ref 11))
def hka00_327 : ai_V := .inr (some (.ref 12))
def hka00_328 : ai_V := .inr (some (.ref 13))
def hka00_329 : ai_V := .inr (some (.ref 14))
def hka00_330 : ai_N := (.ofNat 4, .ofNat 16, [(0, .ofNat 0, .ofNat 0)])
def hka00_331 : ai_V := .inl (false, hka00_330)
def hka00_332 : ai_N := (.ofNat 1, .ofNat 4, [(1, .ofNat 0, .ofNat 0)])
def hka00_333 : ai_V := .inl (false, hka00_332)
def hka00_334 : ai_N := (.negSucc 2147483647, .ofNat 2147483647, [(2, .ofNat 0, .ofNat 0)])
def hka00_335 : ai_V := .inl (false, hka00_334)
def hka00_336 : ai_N := (.negSucc 2147483647, .ofNat 2147483647, [(3, .ofNat 0, .ofNat 0)])
def hka00_337 : ai_V := .inl (false, hka00_336)
def hka00_338 : ai_N := (.ofNat 0, .ofNat 60, [(5, .ofNat 0, .ofNat 0)])
def hka00_339 : ai_V := .inl (false, hka00_338)
def hka00_340 : ai_N := (.ofNat 0, .ofNat 5, [(6, .ofNat 0, .ofNat 0)])
def hka00_341 : ai_V := .inl (false, hka00_340)
def hka00_342 : ai_N := (.ofNat 0, .ofNat 4, [(7, .ofNat 0, .ofNat 0)])
def hka00_343 : ai_V := .inl (false, hka00_342)
def hka00_344 : ai_C := .inr (.inr (6, [hka00_299, hka00_310, hka00_326, hka00_327, hka00_328, hka00_329, hka00_331, hka00_333, hka00_335, hka00_337, hka00_19, hka00_339, hka00_341, hka00_343]))
def hka00_345 : Bool × Option ai_C := (false, some hka00_344)
def hka00_346 : ai_W := [hka00_10, hka00_10, hka00_10, hka00_10, hka00_10, hka00_10, hka00_10, hka00_10, hka00_345, hka00_302, hka00_314, hka00_10, hka00_10, hka00_10, hka00_10, hka00_10, hka00_10, hka00_10, hka00_10, hka00_10, hka00_10, hka00_10, hka00_10, hka00_10, hka00_10, hka00_10, hka00_10, hka00_10, hka00_10, hka00_10, hka00_10, hka00_10, hka00_10, hka00_10, hka00_10, hka00_10, hka00_10, hka00_10, hka00_10, hka00_10, hka00_10, hka00_10, hka00_10, hka00_10, hka00_10, hka00_10, hka00_10, hka00_10, hka00_10, hka00_10, hka00_10, hka00_10, hka00_10, hka00_10, hka00_10, hka00_10, hka00_10, hka00_10, hka00_10, hka00_10, hka00_10, hka00_10, hka00_10, hka00_10, hka00_10, hka00_10, hka00_10, hka00_10, hka00_10, hka00_10, hka00_10, hka00_10, hka00_10, hka00_10, hka00_10, hka00_10]
def hka00_347 : ai_N := (.ofNat 12, .ofNat 12, [])
def hka00_348 : ai_V := .inl (false, hka00_347)
def hka00_349 : ai_N := (.ofNat 2, .ofNat 2, [])
def hka00_350 : ai_V := .inl (false, hka00_349)
def hka00_351 : ai_C := .inr (.inr (6, [hka00_299, hka00_310, hka00_326, hka00_327, hka00_328, hka00_329, hka00_348, hka00_350, hka00_35, hka00_35, hka00_35, hka00_35, hka00_35, hka00_35]))
/-- NeverAgain$Told.makeFirst -/
def ka_8 : ai_K := (154, 1, (hka00_325, [hka00_68], [], hka00_346), [.inr (8, 6), .inr (8, 7), .inr (8, 8), .inr (8, 9), .inr (8, 10), .inr (8, 11), .inr (8, 12), .inr (8, 13)], [(none, hka00_325, [(8, hka00_351), (9, hka00_301), (10, hka00_313)])])
def kan_8 : List ai_Nd := []
set_option maxRecDepth 1000000 in
theorem kak_8 : ai_ck [ka_6, ka_7] [] ka_8 [.inl 100000] kan_8 34 = true := by decide +kernel
theorem kah_8 : ai_holds ka_8 := ai_thm kak_8 (ai_cons kah_6 (ai_cons kah_7 ai_nil))
def hka00_352 : ai_E := [hka00_3, hka00_1, hka00_2, hka00_1, hka00_3, hka00_1, hka00_4, hka00_1, hka00_3]
def hka00_353 : ai_C := .inr (.inr (5, [hka00_11, hka00_13, hka00_15, hka00_17, hka00_68, hka00_19, hka00_21, hka00_23, hka00_25, hka00_27]))
def hka00_354 : Bool × Option ai_C := (false, some hka00_353)
def hka00_355 : ai_W := [hka00_10, hka00_10, hka00_10, hka00_10, hka00_10, hka00_10, hka00_10, hka00_10, hka00_10, hka00_10, hka00_10, hka00_10, hka00_10, hka00_10, hka00_10, hka00_354, hka00_32, hka00_10, hka00_10, hka00_10, hka00_10, hka00_10, hka00_10, hka00_10, hka00_10, hka00_10, hka00_10, hka00_10, hka00_10, hka00_10, hka00_10, hka00_10, hka00_10, hka00_10, hka00_10, hka00_10, hka00_10, hka00_10, hka00_10, hka00_10, hka00_10, hka00_10, hka00_10, hka00_10, hka00_10, hka00_10, hka00_10, hka00_10, hka00_10, hka00_10, hka00_10, hka00_10, hka00_10, hka00_10, hka00_10, hka00_10, hka00_10, hka00_10, hka00_10, hka00_10, hka00_10, hka00_10, hka00_10, hka00_10, hka00_10, hka00_10, hka00_10, hka00_10, hka00_10, hka00_10, hka00_10, hka00_10, hka00_10, hka00_10, hka00_10, hka00_10]
def hka00_356 : ai_V := .inl (false, hka00_30)
def hka00_357 : Int × Int := (.ofNat 0, .ofNat 399)
def hka00_358 : ai_E := [hka00_357, hka00_268, hka00_2, hka00_1, hka00_3, hka00_1, hka00_4, hka00_1, hka00_3]
/-- NeverAgain$TextReader.byteAt -/
def ka_9 : ai_K := (178, 0, (hka00_352, [hka00_6, hka00_250], [], hka00_355), [.inl 1, .inr (15, 1), .inr (15, 2), .inr (15, 3), .inr (15, 5), .inr (15, 6), .inr (15, 7), .inr (15, 8), .inr (15, 9)], [(some hka00_356, hka00_358, []), (some hka00_35, hka00_352, [])])
def kan_9 : List ai_Nd := []
set_option maxRecDepth 1000000 in
theorem kak_9 : ai_ck [] [] ka_9 [.inl 100000] kan_9 16 = true := by decide +kernel
theorem kah_9 : ai_holds ka_9 := ai_thm kak_9 ai_nil
/-- NeverAgain$TextReader.isLetter -/
def ka_10 : ai_K := (179, 0, ([], [hka00_35], [], hka00_266), [], [(some hka00_35, [], [])])
def kan_10 : List ai_Nd := []
set_option maxRecDepth 1000000 in
theorem kak_10 : ai_ck [] [] ka_10 [.inl 100000] kan_10 6 = true := by decide +kernel
theorem kah_10 : ai_holds ka_10 := ai_thm kak_10 ai_nil
def hka00_359 : Int × Int := (.ofNat 97, .ofNat 122)
def hka00_360 : Int × Int := (.ofNat 123, .ofNat 2147483647)
def hka00_361 : Int × Int := (.negSucc 2147483647, .ofNat 96)
/-- NeverAgain$TextReader.isLetter -/
def ka_11 : ai_K := (179, 0, ([hka00_3], [hka00_250], [], hka00_266), [.inl 0], [(some hka00_39, [hka00_359], []), (some hka00_35, [hka00_360], []), (some hka00_35, [hka00_361], [])])
def kan_11 : List ai_Nd := []
set_option maxRecDepth 1000000 in
theorem kak_11 : ai_ck [] [] ka_11 [.inl 100000] kan_11 10 = true := by decide +kernel
theorem kah_11 : ai_holds ka_11 := ai_thm kak_11 ai_nil
/-- NeverAgain$TextReader.isFigure -/
def ka_12 : ai_K := (180, 0, ([], [hka00_35], [], hka00_266), [], [(some hka00_35, [], [])])
def kan_12 : List ai_Nd := []
set_option maxRecDepth 1000000 in
theorem kak_12 : ai_ck [] [] ka_12 [.inl 100000] kan_12 6 = true := by decide +kernel
theorem kah_12 : ai_holds ka_12 := ai_thm kak_12 ai_nil
def hka00_362 : ai_W := [hka00_10, hka00_10, hka00_10, hka00_10, hka00_10, hka00_10, hka00_10, hka00_10, hka00_10, hka00_10, hka00_10, hka00_10, hka00_10, hka00_10, hka00_10, hka00_354, hka00_10, hka00_10, hka00_10, hka00_10, hka00_10, hka00_10, hka00_10, hka00_10, hka00_10, hka00_10, hka00_10, hka00_10, hka00_10, hka00_10, hka00_10, hka00_10, hka00_10, hka00_10, hka00_10, hka00_10, hka00_10, hka00_10, hka00_10, hka00_10, hka00_10, hka00_10, hka00_10, hka00_10, hka00_10, hka00_10, hka00_10, hka00_10, hka00_10, hka00_10, hka00_10, hka00_10, hka00_10, hka00_10, hka00_10, hka00_10, hka00_10, hka00_10, hka00_10, hka00_10, hka00_10, hka00_10, hka00_10, hka00_10, hka00_10, hka00_10, hka00_10, hka00_10, hka00_10, hka00_10, hka00_10, hka00_10, hka00_10, hka00_10, hka00_10, hka00_10]
def hka00_363 : ai_C := .inr (.inr (5, [hka00_11, hka00_13, hka00_39, hka00_250, hka00_68, hka00_19, hka00_21, hka00_23, hka00_25, hka00_27]))
/-- NeverAgain$TextReader.fail -/
def ka_13 : ai_K := (158, 0, (hka00_352, [hka00_6, hka00_39, hka00_250], [], hka00_362), [.inl 2, .inr (15, 1), .inr (15, 2), .inr (15, 3), .inr (15, 5), .inr (15, 6), .inr (15, 7), .inr (15, 8), .inr (15, 9)], [(some hka00_35, hka00_352, [(15, hka00_363)])])
def kan_13 : List ai_Nd := []
set_option maxRecDepth 1000000 in
theorem kak_13 : ai_ck [] [] ka_13 [.inl 100000] kan_13 9 = true := by decide +kernel
theorem kah_13 : ai_holds ka_13 := ai_thm kak_13 ai_nil
def hka00_364 : Int × Int := (.ofNat 48, .ofNat 57)
def hka00_365 : Int × Int := (.ofNat 58, .ofNat 2147483647)
def hka00_366 : Int × Int := (.negSucc 2147483647, .ofNat 47)
/-- NeverAgain$TextReader.isFigure -/
def ka_14 : ai_K := (180, 0, ([hka00_3], [hka00_250], [], hka00_266), [.inl 0], [(some hka00_39, [hka00_364], []), (some hka00_35, [hka00_365], []), (some hka00_35, [hka00_366], [])])
def kan_14 : List ai_Nd := []
set_option maxRecDepth 1000000 in
theorem kak_14 : ai_ck [] [] ka_14 [.inl 100000] kan_14 10 = true := by decide +kernel
theorem kah_14 : ai_holds ka_14 := ai_thm kak_14 ai_nil
def hka00_367 : ai_E := [hka00_1, hka00_2, hka00_1, hka00_3, hka00_1, hka00_4, hka00_1, hka00_3]
def hka00_368 : ai_N := (.ofNat 0, .ofNat 6, [(1, .ofNat 0, .ofNat 0)])
def hka00_369 : ai_V := .inl (false, hka00_368)
def hka00_370 : ai_N := (.ofNat 0, .ofNat 400, [(2, .ofNat 0, .ofNat 0)])
def hka00_371 : ai_V := .inl (false, hka00_370)
def hka00_372 : ai_N := (.ofNat 0, .ofNat 3, [(5, .ofNat 0, .ofNat 0)])
def hka00_373 : ai_V := .inl (false, hka00_372)
def hka00_374 : ai_C := .inr (.inr (5, [hka00_11, hka00_258, hka00_369, hka00_371, hka00_68, hka00_337, hka00_76, hka00_373, hka00_80, hka00_82]))
def hka00_375 : Bool × Option ai_C := (false, some hka00_374)
def hka00_376 : ai_W := [hka00_10, hka00_10, hka00_10, hka00_10, hka00_10, hka00_10, hka00_10, hka00_10, hka00_10, hka00_10, hka00_10, hka00_10, hka00_10, hka00_10, hka00_10, hka00_375, hka00_32, hka00_10, hka00_10, hka00_10, hka00_10, hka00_10, hka00_10, hka00_10, hka00_10, hka00_10, hka00_10, hka00_10, hka00_10, hka00_10, hka00_10, hka00_10, hka00_10, hka00_10, hka00_10, hka00_10, hka00_10, hka00_10, hka00_10, hka00_10, hka00_10, hka00_10, hka00_10, hka00_10, hka00_10, hka00_10, hka00_10, hka00_10, hka00_10, hka00_10, hka00_10, hka00_10, hka00_10, hka00_10, hka00_10, hka00_10, hka00_10, hka00_10, hka00_10, hka00_10, hka00_10, hka00_10, hka00_10, hka00_10, hka00_10, hka00_10, hka00_10, hka00_10, hka00_10, hka00_10, hka00_10, hka00_10, hka00_10, hka00_10, hka00_10, hka00_10]
def hka00_377 : ai_N := (.ofNat 0, .ofNat 400, [(4, .ofNat 0, .ofNat 400)])
def hka00_378 : ai_V := .inl (false, hka00_377)
def hka00_379 : ai_N := (.ofNat 3, .ofNat 3, [])
def hka00_380 : ai_V := .inl (false, hka00_379)
def hka00_381 : ai_C := .inr (.inr (5, [hka00_11, hka00_258, hka00_369, hka00_371, hka00_68, hka00_337, hka00_378, hka00_380, hka00_378, hka00_82]))
def hka00_382 : ai_E := [hka00_268, hka00_2, hka00_1, hka00_3, hka00_357, hka00_4, hka00_1, hka00_3]
def hka00_383 : ai_N := (.ofNat 1, .ofNat 400, [(4, .ofNat 1, .ofNat 400)])
def hka00_384 : ai_V := .inl (false, hka00_383)
def hka00_385 : ai_N := (.ofNat 0, .ofNat 399, [(4, .ofNat 0, .ofNat 399)])
def hka00_386 : ai_V := .inl (false, hka00_385)
def hka00_387 : ai_C := .inr (.inr (5, [hka00_11, hka00_296, hka00_369, hka00_371, hka00_68, hka00_337, hka00_384, hka00_350, hka00_386, hka00_82]))
def hka00_388 : ai_N := (.ofNat 1, .ofNat 400, [(4, .ofNat 0, .ofNat 400)])
def hka00_389 : ai_V := .inl (false, hka00_388)
def hka00_390 : ai_C := .inr (.inr (5, [hka00_11, hka00_296, hka00_369, hka00_371, hka00_68, hka00_337, hka00_389, hka00_35, hka00_386, hka00_82]))
def hka00_391 : ai_V := .inl (false, hka00_300)
def hka00_392 : ai_C := .inr (.inr (5, [hka00_11, hka00_296, hka00_369, hka00_371, hka00_68, hka00_337, hka00_389, hka00_39, hka00_386, hka00_391]))
def hka00_393 : ai_C := .inr (.inr (5, [hka00_11, hka00_296, hka00_39, hka00_386, hka00_68, hka00_337, hka00_378, hka00_39, hka00_386, hka00_391]))
/-- NeverAgain$TextReader.nextToken -/
def ka_15 : ai_K := (155, 1, (hka00_367, [hka00_6, hka00_9], [], hka00_376), [.inr (15, 1), .inr (15, 2), .inr (15, 3), .inr (15, 5), .inr (15, 6), .inr (15, 7), .inr (15, 8), .inr (15, 9)], [(some hka00_39, hka00_367, [(15, hka00_381)]), (some hka00_39, hka00_382, [(15, hka00_387)]), (some hka00_39, hka00_382, [(15, hka00_390)]), (some hka00_39, hka00_382, [(15, hka00_392)]), (some hka00_35, hka00_382, [(15, hka00_393)])])
def hka00_394 : ai_E := [hka00_268, hka00_2, hka00_1, hka00_3, hka00_357, hka00_4, hka00_1, hka00_3, hka00_1]
def hka00_395 : ai_N := (.ofNat 0, .ofNat 400, [(8, .ofNat 0, .ofNat 0), (4, .ofNat 0, .ofNat 400)])
def hka00_396 : ai_V := .inl (false, hka00_395)
def hka00_397 : ai_C := .inr (.inr (5, [hka00_11, hka00_296, hka00_369, hka00_371, hka00_68, hka00_337, hka00_396, hka00_35, hka00_386, hka00_82]))
def hka00_398 : Bool × Option ai_C := (true, some hka00_397)
def hka00_399 : ai_W := [hka00_10, hka00_10, hka00_10, hka00_10, hka00_10, hka00_10, hka00_10, hka00_10, hka00_10, hka00_10, hka00_10, hka00_10, hka00_10, hka00_10, hka00_10, hka00_398, hka00_32, hka00_10, hka00_10, hka00_10, hka00_10, hka00_10, hka00_10, hka00_10, hka00_10, hka00_10, hka00_10, hka00_10, hka00_10, hka00_10, hka00_10, hka00_10, hka00_10, hka00_10, hka00_10, hka00_10, hka00_10, hka00_10, hka00_10, hka00_10, hka00_10, hka00_10, hka00_10, hka00_10, hka00_10, hka00_10, hka00_10, hka00_10, hka00_10, hka00_10, hka00_10, hka00_10, hka00_10, hka00_10, hka00_10, hka00_10, hka00_10, hka00_10, hka00_10, hka00_10, hka00_10, hka00_10, hka00_10, hka00_10, hka00_10, hka00_10, hka00_10, hka00_10, hka00_10, hka00_10, hka00_10, hka00_10, hka00_10, hka00_10, hka00_10, hka00_10]
def hka00_400 : ai_E := [hka00_268, hka00_2, hka00_1, hka00_3, hka00_357, hka00_4, hka00_1, hka00_3, hka00_268]
def hka00_401 : ai_N := (.ofNat 1, .ofNat 400, [(8, .ofNat 0, .ofNat 0), (4, .ofNat 1, .ofNat 400)])
def hka00_402 : ai_V := .inl (false, hka00_401)
def hka00_403 : ai_C := .inr (.inr (5, [hka00_11, hka00_296, hka00_369, hka00_371, hka00_68, hka00_337, hka00_402, hka00_373, hka00_80, hka00_82]))
def hka00_404 : Bool × Option ai_C := (true, some hka00_403)
def hka00_405 : ai_W := [hka00_10, hka00_10, hka00_10, hka00_10, hka00_10, hka00_10, hka00_10, hka00_10, hka00_10, hka00_10, hka00_10, hka00_10, hka00_10, hka00_10, hka00_10, hka00_404, hka00_32, hka00_10, hka00_10, hka00_10, hka00_10, hka00_10, hka00_10, hka00_10, hka00_10, hka00_10, hka00_10, hka00_10, hka00_10, hka00_10, hka00_10, hka00_10, hka00_10, hka00_10, hka00_10, hka00_10, hka00_10, hka00_10, hka00_10, hka00_10, hka00_10, hka00_10, hka00_10, hka00_10, hka00_10, hka00_10, hka00_10, hka00_10, hka00_10, hka00_10, hka00_10, hka00_10, hka00_10, hka00_10, hka00_10, hka00_10, hka00_10, hka00_10, hka00_10, hka00_10, hka00_10, hka00_10, hka00_10, hka00_10, hka00_10, hka00_10, hka00_10, hka00_10, hka00_10, hka00_10, hka00_10, hka00_10, hka00_10, hka00_10, hka00_10, hka00_10]
def hka00_406 : ai_C := .inr (.inr (5, [hka00_11, hka00_296, hka00_369, hka00_371, hka00_68, hka00_337, hka00_396, hka00_39, hka00_386, hka00_391]))
def hka00_407 : Bool × Option ai_C := (true, some hka00_406)
def hka00_408 : ai_W := [hka00_10, hka00_10, hka00_10, hka00_10, hka00_10, hka00_10, hka00_10, hka00_10, hka00_10, hka00_10, hka00_10, hka00_10, hka00_10, hka00_10, hka00_10, hka00_407, hka00_32, hka00_10, hka00_10, hka00_10, hka00_10, hka00_10, hka00_10, hka00_10, hka00_10, hka00_10, hka00_10, hka00_10, hka00_10, hka00_10, hka00_10, hka00_10, hka00_10, hka00_10, hka00_10, hka00_10, hka00_10, hka00_10, hka00_10, hka00_10, hka00_10, hka00_10, hka00_10, hka00_10, hka00_10, hka00_10, hka00_10, hka00_10, hka00_10, hka00_10, hka00_10, hka00_10, hka00_10, hka00_10, hka00_10, hka00_10, hka00_10, hka00_10, hka00_10, hka00_10, hka00_10, hka00_10, hka00_10, hka00_10, hka00_10, hka00_10, hka00_10, hka00_10, hka00_10, hka00_10, hka00_10, hka00_10, hka00_10, hka00_10, hka00_10, hka00_10]
def kan_15 : List ai_Nd := [(98, (hka00_394, [hka00_6, hka00_9], [], hka00_399), [.inr (15, 6)], [.inl 99901, .inl 1, .inr (true, .ofNat 400, 8), .inl 100000]), (0, (hka00_400, [hka00_6, hka00_9], [], hka00_405), [.inr (15, 6)], [.inl 99999, .inl 1, .inr (true, .ofNat 400, 8), .inl 100000]), (159, (hka00_394, [hka00_6, hka00_9], [], hka00_408), [.inr (15, 6)], [.inl 99840, .inl 1, .inr (true, .ofNat 400, 8), .inl 100000])]
set_option maxRecDepth 1000000 in
theorem kak_15 : ai_ck [ka_10, ka_12, ka_11, ka_14, ka_13, ka_9] [] ka_15 [.inl 100000, .inl 0, .inl 0, .inl 0] kan_15 45 = true := by decide +kernel
theorem kah_15 : ai_holds ka_15 := ai_thm kak_15 (ai_cons kah_10 (ai_cons kah_12 (ai_cons kah_11 (ai_cons kah_14 (ai_cons kah_13 (ai_cons kah_9 ai_nil))))))
def hka00_409 : ai_C := .inr (.inr (5, [hka00_11, hka00_13, hka00_350, hka00_250, hka00_68, hka00_19, hka00_21, hka00_23, hka00_25, hka00_27]))
/-- NeverAgain$TextReader.fail -/
def ka_16 : ai_K := (158, 0, (hka00_352, [hka00_6, hka00_350, hka00_250], [], hka00_362), [.inl 2, .inr (15, 1), .inr (15, 2), .inr (15, 3), .inr (15, 5), .inr (15, 6), .inr (15, 7), .inr (15, 8), .inr (15, 9)], [(some hka00_35, hka00_352, [(15, hka00_409)])])
def kan_16 : List ai_Nd := []
set_option maxRecDepth 1000000 in
theorem kak_16 : ai_ck [] [] ka_16 [.inl 100000] kan_16 9 = true := by decide +kernel
theorem kah_16 : ai_holds ka_16 := ai_thm kak_16 ai_nil
def hka00_410 : ai_V := .inr (some (.retAddr 1))
/-- java/lang/String.coder -/
def ka_17 : ai_K := (215, 0, ([], [hka00_410], [], hka00_266), [], [(some hka00_35, [], [])])
def kan_17 : List ai_Nd := []
set_option maxRecDepth 1000000 in
theorem kak_17 : ai_ck [] [] ka_17 [.inl 100000] kan_17 7 = true := by decide +kernel
theorem kah_17 : ai_holds ka_17 := ai_thm kak_17 ai_nil
/-- java/lang/String.length -/
def ka_18 : ai_K := (208, 1, ([], [hka00_410], [], hka00_266), [], [(some hka00_307, [], [])])
def kan_18 : List ai_Nd := []
set_option maxRecDepth 1000000 in
theorem kak_18 : ai_ck [ka_17] [] ka_18 [.inl 100000] kan_18 8 = true := by decide +kernel
theorem kah_18 : ai_holds ka_18 := ai_thm kak_18 (ai_cons kah_17 ai_nil)
/-- java/lang/String.isLatin1 -/
def ka_19 : ai_K := (216, 0, ([], [hka00_410], [], hka00_266), [], [(some hka00_39, [], [])])
def kan_19 : List ai_Nd := []
set_option maxRecDepth 1000000 in
theorem kak_19 : ai_ck [] [] ka_19 [.inl 100000] kan_19 9 = true := by decide +kernel
theorem kah_19 : ai_holds ka_19 := ai_thm kak_19 ai_nil
def hka00_411 : ai_N := (.ofNat 0, .ofNat 3, [(0, .ofNat 0, .ofNat 0)])
def hka00_412 : ai_V := .inl (false, hka00_411)
/-- jdk/internal/util/Preconditions.checkIndex -/
def ka_32 : ai_K := (220, 0, ([hka00_4], [hka00_412, hka00_307, hka00_9], [], hka00_266), [.inl 0], [(some hka00_412, [hka00_4], [])])
def kan_32 : List ai_Nd := []
set_option maxRecDepth 1000000 in
theorem kak_32 : ai_ck [] [] ka_32 [.inl 100000] kan_32 8 = true := by decide +kernel
theorem kah_32 : ai_holds ka_32 := ai_thm kak_32 ai_nil
/-- java/lang/String.checkIndex -/
def ka_33 : ai_K := (219, 1, ([hka00_4], [hka00_412, hka00_307], [], hka00_266), [.inl 0], [(none, [hka00_4], [])])
def kan_33 : List ai_Nd := []
set_option maxRecDepth 1000000 in
theorem kak_33 : ai_ck [ka_32] [] ka_33 [.inl 100000] kan_33 7 = true := by decide +kernel
theorem kah_33 : ai_holds ka_33 := ai_thm kak_33 (ai_cons kah_32 ai_nil)
def hka00_413 : ai_V := .inr (some (.retAddr 2))
def hka00_414 : ai_N := (.ofNat 0, .ofNat 65535, [])
def hka00_415 : ai_V := .inl (false, hka00_414)
/-- java/lang/StringLatin1.charAt -/
def ka_34 : ai_K := (217, 2, ([hka00_4], [hka00_413, hka00_412], [], hka00_266), [.inl 1], [(some hka00_415, [hka00_4], [])])
def kan_34 : List ai_Nd := []
set_option maxRecDepth 1000000 in
theorem kak_34 : ai_ck [ka_33] [] ka_34 [.inl 100000] kan_34 12 = true := by decide +kernel
theorem kah_34 : ai_holds ka_34 := ai_thm kak_34 (ai_cons kah_33 ai_nil)
/-- java/lang/String.charAt -/
def ka_35 : ai_K := (209, 3, ([hka00_4], [hka00_410, hka00_412], [], hka00_266), [.inl 1], [(some hka00_415, [hka00_4], [])])
def kan_35 : List ai_Nd := []
set_option maxRecDepth 1000000 in
theorem kak_35 : ai_ck [ka_19, ka_34] [] ka_35 [.inl 100000] kan_35 9 = true := by decide +kernel
theorem kah_35 : ai_holds ka_35 := ai_thm kak_35 (ai_cons kah_19 (ai_cons kah_34 ai_nil))
def hka00_416 : Int × Int := (.ofNat 4, .ofNat 400)
def hka00_417 : ai_E := [hka00_1, hka00_2, hka00_1, hka00_3, hka00_416, hka00_4, hka00_1, hka00_3]
/-- NeverAgain$TextReader.isName -/
def ka_36 : ai_K := (181, 4, (hka00_367, [hka00_6, hka00_410, hka00_9], [], hka00_376), [.inr (15, 1), .inr (15, 2), .inr (15, 3), .inr (15, 5), .inr (15, 6), .inr (15, 7), .inr (15, 8), .inr (15, 9)], [(some hka00_35, hka00_367, []), (some hka00_39, hka00_417, [])])
def hka00_418 : ai_E := [hka00_1, hka00_2, hka00_1, hka00_3, hka00_416, hka00_4, hka00_1, hka00_3, hka00_56]
def hka00_419 : ai_N := (.ofNat 0, .ofNat 4, [(8, .ofNat 0, .ofNat 0)])
def hka00_420 : ai_V := .inl (false, hka00_419)
def hka00_421 : ai_N := (.ofNat 4, .ofNat 400, [(4, .ofNat 0, .ofNat 0)])
def hka00_422 : ai_V := .inl (false, hka00_421)
def hka00_423 : ai_C := .inr (.inr (5, [hka00_11, hka00_258, hka00_369, hka00_371, hka00_68, hka00_337, hka00_422, hka00_373, hka00_80, hka00_82]))
def hka00_424 : Bool × Option ai_C := (false, some hka00_423)
def hka00_425 : ai_W := [hka00_10, hka00_10, hka00_10, hka00_10, hka00_10, hka00_10, hka00_10, hka00_10, hka00_10, hka00_10, hka00_10, hka00_10, hka00_10, hka00_10, hka00_10, hka00_424, hka00_32, hka00_10, hka00_10, hka00_10, hka00_10, hka00_10, hka00_10, hka00_10, hka00_10, hka00_10, hka00_10, hka00_10, hka00_10, hka00_10, hka00_10, hka00_10, hka00_10, hka00_10, hka00_10, hka00_10, hka00_10, hka00_10, hka00_10, hka00_10, hka00_10, hka00_10, hka00_10, hka00_10, hka00_10, hka00_10, hka00_10, hka00_10, hka00_10, hka00_10, hka00_10, hka00_10, hka00_10, hka00_10, hka00_10, hka00_10, hka00_10, hka00_10, hka00_10, hka00_10, hka00_10, hka00_10, hka00_10, hka00_10, hka00_10, hka00_10, hka00_10, hka00_10, hka00_10, hka00_10, hka00_10, hka00_10, hka00_10, hka00_10, hka00_10, hka00_10]
def kan_36 : List ai_Nd := [(20, (hka00_418, [hka00_6, hka00_410, hka00_420], [], hka00_425), [.inl 2], [.inl 99979, .inl 1, .inr (true, .ofNat 4, 8), .inl 100000])]
set_option maxRecDepth 1000000 in
theorem kak_36 : ai_ck [ka_18, ka_35, ka_9] [] ka_36 [.inl 100000, .inl 0, .inl 0, .inl 0] kan_36 18 = true := by decide +kernel
theorem kah_36 : ai_holds ka_36 := ai_thm kak_36 (ai_cons kah_18 (ai_cons kah_35 (ai_cons kah_9 ai_nil)))
def hka00_426 : ai_C := .inr (.inr (5, [hka00_11, hka00_13, hka00_307, hka00_250, hka00_68, hka00_19, hka00_21, hka00_23, hka00_25, hka00_27]))
/-- NeverAgain$TextReader.fail -/
def ka_37 : ai_K := (158, 0, (hka00_352, [hka00_6, hka00_307, hka00_250], [], hka00_362), [.inl 2, .inr (15, 1), .inr (15, 2), .inr (15, 3), .inr (15, 5), .inr (15, 6), .inr (15, 7), .inr (15, 8), .inr (15, 9)], [(some hka00_35, hka00_352, [(15, hka00_426)])])
def kan_37 : List ai_Nd := []
set_option maxRecDepth 1000000 in
theorem kak_37 : ai_ck [] [] ka_37 [.inl 100000] kan_37 9 = true := by decide +kernel
theorem kah_37 : ai_holds ka_37 := ai_thm kak_37 ai_nil
def hka00_427 : ai_W := [hka00_10, hka00_10, hka00_10, hka00_10, hka00_10, hka00_10, hka00_10, hka00_10, hka00_10, hka00_10, hka00_10, hka00_10, hka00_10, hka00_10, hka00_10, hka00_375, hka00_10, hka00_10, hka00_10, hka00_10, hka00_10, hka00_10, hka00_10, hka00_10, hka00_10, hka00_10, hka00_10, hka00_10, hka00_10, hka00_10, hka00_10, hka00_10, hka00_10, hka00_10, hka00_10, hka00_10, hka00_10, hka00_10, hka00_10, hka00_10, hka00_10, hka00_10, hka00_10, hka00_10, hka00_10, hka00_10, hka00_10, hka00_10, hka00_10, hka00_10, hka00_10, hka00_10, hka00_10, hka00_10, hka00_10, hka00_10, hka00_10, hka00_10, hka00_10, hka00_10, hka00_10, hka00_10, hka00_10, hka00_10, hka00_10, hka00_10, hka00_10, hka00_10, hka00_10, hka00_10, hka00_10, hka00_10, hka00_10, hka00_10, hka00_10, hka00_10]
def hka00_428 : ai_C := .inr (.inr (5, [hka00_11, hka00_258, hka00_307, hka00_80, hka00_68, hka00_337, hka00_76, hka00_373, hka00_80, hka00_82]))
def hka00_429 : ai_C := .inr (.inr (5, [hka00_11, hka00_258, hka00_369, hka00_371, hka00_68, hka00_391, hka00_76, hka00_373, hka00_80, hka00_82]))
/-- NeverAgain$TextReader.once -/
def ka_38 : ai_K := (210, 1, (hka00_367, [hka00_6, hka00_39], [], hka00_427), [.inr (15, 1), .inr (15, 2), .inr (15, 3), .inr (15, 5), .inr (15, 6), .inr (15, 7), .inr (15, 8), .inr (15, 9)], [(some hka00_35, hka00_367, [(15, hka00_428)]), (some hka00_39, hka00_367, [(15, hka00_429)])])
def kan_38 : List ai_Nd := []
set_option maxRecDepth 1000000 in
theorem kak_38 : ai_ck [ka_37] [] ka_38 [.inl 100000] kan_38 14 = true := by decide +kernel
theorem kah_38 : ai_holds ka_38 := ai_thm kak_38 (ai_cons kah_37 ai_nil)
def hka00_430 : ai_C := .inr (.inr (5, [hka00_11, hka00_13, hka00_380, hka00_250, hka00_68, hka00_19, hka00_21, hka00_23, hka00_25, hka00_27]))
/-- NeverAgain$TextReader.fail -/
def ka_39 : ai_K := (158, 0, (hka00_352, [hka00_6, hka00_380, hka00_250], [], hka00_362), [.inl 2, .inr (15, 1), .inr (15, 2), .inr (15, 3), .inr (15, 5), .inr (15, 6), .inr (15, 7), .inr (15, 8), .inr (15, 9)], [(some hka00_35, hka00_352, [(15, hka00_430)])])
def kan_39 : List ai_Nd := []
set_option maxRecDepth 1000000 in
theorem kak_39 : ai_ck [] [] ka_39 [.inl 100000] kan_39 9 = true := by decide +kernel
theorem kah_39 : ai_holds ka_39 := ai_thm kak_39 ai_nil
def hka00_431 : ai_N := (.ofNat 16, .ofNat 16, [])
def hka00_432 : ai_V := .inl (false, hka00_431)
def hka00_433 : Int × Int := (.ofNat 17, .ofNat 2147483647)
def hka00_434 : ai_E := [hka00_1, hka00_2, hka00_1, hka00_3, hka00_1, hka00_4, hka00_1, hka00_433]
def hka00_435 : ai_N := (.ofNat 17, .ofNat 2147483647, [(7, .ofNat 0, .ofNat 0)])
def hka00_436 : ai_V := .inl (false, hka00_435)
def hka00_437 : ai_C := .inr (.inr (5, [hka00_11, hka00_258, hka00_380, hka00_80, hka00_68, hka00_337, hka00_76, hka00_373, hka00_80, hka00_436]))
def hka00_438 : ai_E := [hka00_1, hka00_2, hka00_1, hka00_3, hka00_1, hka00_4, hka00_1, hka00_101]
def hka00_439 : Int × Int := (.negSucc 2147483647, .ofNat 3)
def hka00_440 : ai_E := [hka00_1, hka00_2, hka00_1, hka00_3, hka00_1, hka00_4, hka00_1, hka00_439]
def hka00_441 : ai_N := (.negSucc 2147483647, .ofNat 3, [(7, .ofNat 0, .ofNat 0)])
def hka00_442 : ai_V := .inl (false, hka00_441)
def hka00_443 : ai_C := .inr (.inr (5, [hka00_11, hka00_258, hka00_380, hka00_80, hka00_68, hka00_337, hka00_76, hka00_373, hka00_80, hka00_442]))
/-- NeverAgain$TextReader.inBounds -/
def ka_40 : ai_K := (218, 1, (hka00_367, [hka00_6, hka00_307, hka00_432], [], hka00_427), [.inr (15, 1), .inr (15, 2), .inr (15, 3), .inr (15, 5), .inr (15, 6), .inr (15, 7), .inr (15, 8), .inr (15, 9)], [(some hka00_35, hka00_434, [(15, hka00_437)]), (some hka00_39, hka00_438, []), (some hka00_35, hka00_440, [(15, hka00_443)])])
def kan_40 : List ai_Nd := []
set_option maxRecDepth 1000000 in
theorem kak_40 : ai_ck [ka_39] [] ka_40 [.inl 100000] kan_40 17 = true := by decide +kernel
theorem kah_40 : ai_holds ka_40 := ai_thm kak_40 (ai_cons kah_39 ai_nil)
def hka00_444 : ai_N := (.ofNat 1, .ofNat 3, [])
def hka00_445 : ai_V := .inl (false, hka00_444)
def hka00_446 : ai_C := .inr (.inr (5, [hka00_11, hka00_296, hka00_445, hka00_386, hka00_68, hka00_337, hka00_378, hka00_39, hka00_386, hka00_391]))
def hka00_447 : ai_N := (.ofNat 4, .ofNat 16, [])
def hka00_448 : ai_V := .inl (false, hka00_447)
def hka00_449 : ai_C := .inr (.inr (5, [hka00_11, hka00_296, hka00_369, hka00_371, hka00_68, hka00_337, hka00_389, hka00_39, hka00_386, hka00_448]))
def hka00_450 : ai_C := .inr (.inr (5, [hka00_11, hka00_296, hka00_350, hka00_386, hka00_68, hka00_337, hka00_389, hka00_35, hka00_386, hka00_82]))
def hka00_451 : ai_C := .inr (.inr (5, [hka00_11, hka00_296, hka00_350, hka00_386, hka00_68, hka00_337, hka00_384, hka00_350, hka00_386, hka00_82]))
def hka00_452 : ai_C := .inr (.inr (5, [hka00_11, hka00_258, hka00_350, hka00_378, hka00_68, hka00_337, hka00_378, hka00_380, hka00_378, hka00_82]))
/-- NeverAgain$TextReader.figures -/
def ka_41 : ai_K := (211, 2, (hka00_367, [hka00_6, hka00_307, hka00_432], [], hka00_376), [.inr (15, 1), .inr (15, 2), .inr (15, 3), .inr (15, 5), .inr (15, 6), .inr (15, 7), .inr (15, 8), .inr (15, 9)], [(some hka00_35, hka00_382, [(15, hka00_446)]), (some hka00_39, hka00_382, [(15, hka00_449)]), (some hka00_35, hka00_382, [(15, hka00_450)]), (some hka00_35, hka00_382, [(15, hka00_451)]), (some hka00_35, hka00_367, [(15, hka00_452)])])
def kan_41 : List ai_Nd := []
set_option maxRecDepth 1000000 in
theorem kak_41 : ai_ck [ka_40, ka_16, ka_15] [] ka_41 [.inl 100000] kan_41 14 = true := by decide +kernel
theorem kah_41 : ai_holds ka_41 := ai_thm kak_41 (ai_cons kah_40 (ai_cons kah_16 (ai_cons kah_15 ai_nil)))
def hka00_453 : ai_C := .inr (.inr (5, [hka00_11, hka00_296, hka00_350, hka00_386, hka00_68, hka00_337, hka00_389, hka00_39, hka00_386, hka00_391]))
/-- NeverAgain$TextReader.stop -/
def ka_42 : ai_K := (212, 2, (hka00_367, [hka00_6], [], hka00_376), [.inr (15, 1), .inr (15, 2), .inr (15, 3), .inr (15, 5), .inr (15, 6), .inr (15, 7), .inr (15, 8), .inr (15, 9)], [(some hka00_35, hka00_382, [(15, hka00_393)]), (some hka00_35, hka00_382, [(15, hka00_453)]), (some hka00_35, hka00_382, [(15, hka00_450)]), (some hka00_39, hka00_382, [(15, hka00_387)]), (some hka00_35, hka00_367, [(15, hka00_452)])])
def kan_42 : List ai_Nd := []
set_option maxRecDepth 1000000 in
theorem kak_42 : ai_ck [ka_16, ka_15] [] ka_42 [.inl 100000] kan_42 16 = true := by decide +kernel
theorem kah_42 : ai_holds ka_42 := ai_thm kak_42 (ai_cons kah_16 (ai_cons kah_15 ai_nil))
def hka00_454 : ai_E := [hka00_101, hka00_102, hka00_3, hka00_3, hka00_3, hka00_323, hka00_324, hka00_56, hka00_1, hka00_2, hka00_1, hka00_3, hka00_1, hka00_4, hka00_1, hka00_3]
def hka00_455 : ai_N := (.ofNat 0, .ofNat 6, [(9, .ofNat 0, .ofNat 0)])
def hka00_456 : ai_V := .inl (false, hka00_455)
def hka00_457 : ai_N := (.ofNat 0, .ofNat 400, [(12, .ofNat 0, .ofNat 0)])
def hka00_458 : ai_V := .inl (false, hka00_457)
def hka00_459 : ai_N := (.ofNat 0, .ofNat 3, [(13, .ofNat 0, .ofNat 0)])
def hka00_460 : ai_V := .inl (false, hka00_459)
def hka00_461 : ai_N := (.ofNat 0, .ofNat 400, [(14, .ofNat 0, .ofNat 0)])
def hka00_462 : ai_V := .inl (false, hka00_461)
def hka00_463 : ai_N := (.negSucc 2147483647, .ofNat 2147483647, [(15, .ofNat 0, .ofNat 0)])
def hka00_464 : ai_V := .inl (false, hka00_463)
def hka00_465 : ai_C := .inr (.inr (5, [hka00_11, hka00_84, hka00_456, hka00_88, hka00_68, hka00_90, hka00_458, hka00_460, hka00_462, hka00_464]))
def hka00_466 : Bool × Option ai_C := (false, some hka00_465)
def hka00_467 : ai_W := [hka00_10, hka00_10, hka00_10, hka00_10, hka00_10, hka00_10, hka00_10, hka00_10, hka00_345, hka00_10, hka00_10, hka00_10, hka00_10, hka00_10, hka00_10, hka00_466, hka00_32, hka00_10, hka00_10, hka00_10, hka00_10, hka00_10, hka00_10, hka00_10, hka00_10, hka00_10, hka00_10, hka00_10, hka00_10, hka00_10, hka00_10, hka00_10, hka00_10, hka00_10, hka00_10, hka00_10, hka00_10, hka00_10, hka00_10, hka00_10, hka00_10, hka00_10, hka00_10, hka00_10, hka00_10, hka00_10, hka00_10, hka00_10, hka00_10, hka00_10, hka00_10, hka00_10, hka00_10, hka00_10, hka00_10, hka00_10, hka00_10, hka00_10, hka00_10, hka00_10, hka00_10, hka00_10, hka00_10, hka00_10, hka00_10, hka00_10, hka00_10, hka00_10, hka00_10, hka00_10, hka00_10, hka00_10, hka00_10, hka00_10, hka00_10, hka00_10]
def hka00_468 : ai_N := (.ofNat 0, .ofNat 400, [(12, .ofNat 0, .ofNat 400)])
def hka00_469 : ai_V := .inl (false, hka00_468)
def hka00_470 : ai_C := .inr (.inr (5, [hka00_11, hka00_84, hka00_350, hka00_469, hka00_68, hka00_391, hka00_469, hka00_380, hka00_469, hka00_464]))
def hka00_471 : ai_E := [hka00_101, hka00_102, hka00_3, hka00_3, hka00_3, hka00_323, hka00_324, hka00_56, hka00_268, hka00_2, hka00_1, hka00_3, hka00_357, hka00_4, hka00_1, hka00_3]
def hka00_472 : ai_N := (.ofNat 1, .ofNat 400, [(8, .ofNat 0, .ofNat 0)])
def hka00_473 : ai_V := .inl (false, hka00_472)
def hka00_474 : ai_N := (.ofNat 0, .ofNat 399, [(12, .ofNat 0, .ofNat 399)])
def hka00_475 : ai_V := .inl (false, hka00_474)
def hka00_476 : ai_N := (.ofNat 1, .ofNat 400, [(12, .ofNat 1, .ofNat 400)])
def hka00_477 : ai_V := .inl (false, hka00_476)
def hka00_478 : ai_C := .inr (.inr (5, [hka00_11, hka00_473, hka00_350, hka00_475, hka00_68, hka00_391, hka00_477, hka00_350, hka00_475, hka00_464]))
def hka00_479 : ai_N := (.ofNat 1, .ofNat 400, [(12, .ofNat 0, .ofNat 400)])
def hka00_480 : ai_V := .inl (false, hka00_479)
def hka00_481 : ai_C := .inr (.inr (5, [hka00_11, hka00_473, hka00_350, hka00_475, hka00_68, hka00_391, hka00_480, hka00_35, hka00_475, hka00_464]))
def hka00_482 : ai_C := .inr (.inr (6, [hka00_299, hka00_310, hka00_326, hka00_327, hka00_328, hka00_329, hka00_448, hka00_333, hka00_335, hka00_337, hka00_19, hka00_339, hka00_341, hka00_343]))
def hka00_483 : ai_C := .inr (.inr (5, [hka00_11, hka00_473, hka00_350, hka00_480, hka00_68, hka00_391, hka00_480, hka00_380, hka00_480, hka00_448]))
def hka00_484 : ai_N := (.ofNat 2, .ofNat 400, [(12, .ofNat 1, .ofNat 400)])
def hka00_485 : ai_V := .inl (false, hka00_484)
def hka00_486 : ai_N := (.ofNat 1, .ofNat 399, [(12, .ofNat 0, .ofNat 399)])
def hka00_487 : ai_V := .inl (false, hka00_486)
def hka00_488 : ai_C := .inr (.inr (5, [hka00_11, hka00_473, hka00_456, hka00_88, hka00_68, hka00_391, hka00_485, hka00_350, hka00_487, hka00_448]))
def hka00_489 : ai_C := .inr (.inr (5, [hka00_11, hka00_473, hka00_350, hka00_487, hka00_68, hka00_391, hka00_480, hka00_35, hka00_487, hka00_448]))
def hka00_490 : ai_N := (.ofNat 1, .ofNat 2, [])
def hka00_491 : ai_V := .inl (false, hka00_490)
def hka00_492 : ai_C := .inr (.inr (5, [hka00_11, hka00_473, hka00_491, hka00_487, hka00_68, hka00_391, hka00_480, hka00_39, hka00_487, hka00_391]))
def hka00_493 : ai_C := .inr (.inr (5, [hka00_11, hka00_473, hka00_445, hka00_475, hka00_68, hka00_391, hka00_469, hka00_39, hka00_475, hka00_391]))
def hka00_494 : ai_C := .inr (.inr (5, [hka00_11, hka00_84, hka00_307, hka00_462, hka00_68, hka00_90, hka00_458, hka00_460, hka00_462, hka00_464]))
/-- NeverAgain$TextReader.mostLine -/
def ka_43 : ai_K := (182, 3, (hka00_454, [hka00_6], [], hka00_467), [.inr (8, 6), .inr (8, 7), .inr (8, 8), .inr (8, 9), .inr (8, 10), .inr (8, 11), .inr (8, 12), .inr (8, 13), .inr (15, 1), .inr (15, 2), .inr (15, 3), .inr (15, 5), .inr (15, 6), .inr (15, 7), .inr (15, 8), .inr (15, 9)], [(some hka00_35, hka00_454, [(15, hka00_470)]), (some hka00_35, hka00_471, [(15, hka00_478)]), (some hka00_35, hka00_471, [(15, hka00_481)]), (some hka00_35, hka00_471, [(8, hka00_482), (15, hka00_483)]), (some hka00_39, hka00_471, [(8, hka00_482), (15, hka00_488)]), (some hka00_35, hka00_471, [(8, hka00_482), (15, hka00_489)]), (some hka00_35, hka00_471, [(8, hka00_482), (15, hka00_492)]), (some hka00_35, hka00_471, [(15, hka00_493)]), (some hka00_35, hka00_454, [(15, hka00_494)])])
def kan_43 : List ai_Nd := []
set_option maxRecDepth 1000000 in
theorem kak_43 : ai_ck [ka_38, ka_41, ka_42] [] ka_43 [.inl 100000] kan_43 18 = true := by decide +kernel
theorem kah_43 : ai_holds ka_43 := ai_thm kak_43 (ai_cons kah_38 (ai_cons kah_41 (ai_cons kah_42 ai_nil)))
def hka00_495 : ai_V := .inr (some (.retAddr 3))
/-- java/lang/String.coder -/
def ka_44 : ai_K := (215, 0, ([], [hka00_495], [], hka00_266), [], [(some hka00_35, [], [])])
def kan_44 : List ai_Nd := []
set_option maxRecDepth 1000000 in
theorem kak_44 : ai_ck [] [] ka_44 [.inl 100000] kan_44 7 = true := by decide +kernel
theorem kah_44 : ai_holds ka_44 := ai_thm kak_44 ai_nil
def hka00_496 : ai_N := (.ofNat 7, .ofNat 7, [])
def hka00_497 : ai_V := .inl (false, hka00_496)
/-- java/lang/String.length -/
def ka_45 : ai_K := (208, 1, ([], [hka00_495], [], hka00_266), [], [(some hka00_497, [], [])])
def kan_45 : List ai_Nd := []
set_option maxRecDepth 1000000 in
theorem kak_45 : ai_ck [ka_44] [] ka_45 [.inl 100000] kan_45 8 = true := by decide +kernel
theorem kah_45 : ai_holds ka_45 := ai_thm kak_45 (ai_cons kah_44 ai_nil)
/-- java/lang/String.isLatin1 -/
def ka_46 : ai_K := (216, 0, ([], [hka00_495], [], hka00_266), [], [(some hka00_39, [], [])])
def kan_46 : List ai_Nd := []
set_option maxRecDepth 1000000 in
theorem kak_46 : ai_ck [] [] ka_46 [.inl 100000] kan_46 9 = true := by decide +kernel
theorem kah_46 : ai_holds ka_46 := ai_thm kak_46 ai_nil
def hka00_498 : ai_N := (.ofNat 0, .ofNat 6, [(0, .ofNat 0, .ofNat 0)])
def hka00_499 : ai_V := .inl (false, hka00_498)
/-- jdk/internal/util/Preconditions.checkIndex -/
def ka_71 : ai_K := (220, 0, ([hka00_2], [hka00_499, hka00_497, hka00_9], [], hka00_266), [.inl 0], [(some hka00_499, [hka00_2], [])])
def kan_71 : List ai_Nd := []
set_option maxRecDepth 1000000 in
theorem kak_71 : ai_ck [] [] ka_71 [.inl 100000] kan_71 8 = true := by decide +kernel
theorem kah_71 : ai_holds ka_71 := ai_thm kak_71 ai_nil
/-- java/lang/String.checkIndex -/
def ka_72 : ai_K := (219, 1, ([hka00_2], [hka00_499, hka00_497], [], hka00_266), [.inl 0], [(none, [hka00_2], [])])
def kan_72 : List ai_Nd := []
set_option maxRecDepth 1000000 in
theorem kak_72 : ai_ck [ka_71] [] ka_72 [.inl 100000] kan_72 7 = true := by decide +kernel
theorem kah_72 : ai_holds ka_72 := ai_thm kak_72 (ai_cons kah_71 ai_nil)
def hka00_500 : ai_V := .inr (some (.retAddr 4))
/-- java/lang/StringLatin1.charAt -/
def ka_73 : ai_K := (217, 2, ([hka00_2], [hka00_500, hka00_499], [], hka00_266), [.inl 1], [(some hka00_415, [hka00_2], [])])
def kan_73 : List ai_Nd := []
set_option maxRecDepth 1000000 in
theorem kak_73 : ai_ck [ka_72] [] ka_73 [.inl 100000] kan_73 12 = true := by decide +kernel
theorem kah_73 : ai_holds ka_73 := ai_thm kak_73 (ai_cons kah_72 ai_nil)
/-- java/lang/String.charAt -/
def ka_74 : ai_K := (209, 3, ([hka00_2], [hka00_495, hka00_499], [], hka00_266), [.inl 1], [(some hka00_415, [hka00_2], [])])
def kan_74 : List ai_Nd := []
set_option maxRecDepth 1000000 in
theorem kak_74 : ai_ck [ka_46, ka_73] [] ka_74 [.inl 100000] kan_74 9 = true := by decide +kernel
theorem kah_74 : ai_holds ka_74 := ai_thm kak_74 (ai_cons kah_46 (ai_cons kah_73 ai_nil))
def hka00_501 : Int × Int := (.ofNat 7, .ofNat 400)
def hka00_502 : ai_E := [hka00_1, hka00_2, hka00_1, hka00_3, hka00_501, hka00_4, hka00_1, hka00_3]
/-- NeverAgain$TextReader.isName -/
def ka_75 : ai_K := (181, 4, (hka00_367, [hka00_6, hka00_495, hka00_9], [], hka00_376), [.inr (15, 1), .inr (15, 2), .inr (15, 3), .inr (15, 5), .inr (15, 6), .inr (15, 7), .inr (15, 8), .inr (15, 9)], [(some hka00_35, hka00_367, []), (some hka00_39, hka00_502, [])])
def hka00_503 : Int × Int := (.ofNat 0, .ofNat 7)
def hka00_504 : ai_E := [hka00_1, hka00_2, hka00_1, hka00_3, hka00_501, hka00_4, hka00_1, hka00_3, hka00_503]
def hka00_505 : ai_N := (.ofNat 0, .ofNat 7, [(8, .ofNat 0, .ofNat 0)])
def hka00_506 : ai_V := .inl (false, hka00_505)
def hka00_507 : ai_N := (.ofNat 7, .ofNat 400, [(4, .ofNat 0, .ofNat 0)])
def hka00_508 : ai_V := .inl (false, hka00_507)
def hka00_509 : ai_C := .inr (.inr (5, [hka00_11, hka00_258, hka00_369, hka00_371, hka00_68, hka00_337, hka00_508, hka00_373, hka00_80, hka00_82]))
def hka00_510 : Bool × Option ai_C := (false, some hka00_509)
def hka00_511 : ai_W := [hka00_10, hka00_10, hka00_10, hka00_10, hka00_10, hka00_10, hka00_10, hka00_10, hka00_10, hka00_10, hka00_10, hka00_10, hka00_10, hka00_10, hka00_10, hka00_510, hka00_32, hka00_10, hka00_10, hka00_10, hka00_10, hka00_10, hka00_10, hka00_10, hka00_10, hka00_10, hka00_10, hka00_10, hka00_10, hka00_10, hka00_10, hka00_10, hka00_10, hka00_10, hka00_10, hka00_10, hka00_10, hka00_10, hka00_10, hka00_10, hka00_10, hka00_10, hka00_10, hka00_10, hka00_10, hka00_10, hka00_10, hka00_10, hka00_10, hka00_10, hka00_10, hka00_10, hka00_10, hka00_10, hka00_10, hka00_10, hka00_10, hka00_10, hka00_10, hka00_10, hka00_10, hka00_10, hka00_10, hka00_10, hka00_10, hka00_10, hka00_10, hka00_10, hka00_10, hka00_10, hka00_10, hka00_10, hka00_10, hka00_10, hka00_10, hka00_10]
def kan_75 : List ai_Nd := [(20, (hka00_504, [hka00_6, hka00_495, hka00_506], [], hka00_511), [.inl 2], [.inl 99979, .inl 1, .inr (true, .ofNat 7, 8), .inl 100000])]
set_option maxRecDepth 1000000 in
theorem kak_75 : ai_ck [ka_45, ka_74, ka_9] [] ka_75 [.inl 100000, .inl 0, .inl 0, .inl 0] kan_75 18 = true := by decide +kernel
theorem kah_75 : ai_holds ka_75 := ai_thm kak_75 (ai_cons kah_45 (ai_cons kah_74 (ai_cons kah_9 ai_nil)))
/-- NeverAgain$TextReader.once -/
def ka_76 : ai_K := (210, 1, (hka00_367, [hka00_6, hka00_350], [], hka00_427), [.inr (15, 1), .inr (15, 2), .inr (15, 3), .inr (15, 5), .inr (15, 6), .inr (15, 7), .inr (15, 8), .inr (15, 9)], [(some hka00_35, hka00_367, [(15, hka00_428)]), (some hka00_39, hka00_367, [(15, hka00_429)])])
def kan_76 : List ai_Nd := []
set_option maxRecDepth 1000000 in
theorem kak_76 : ai_ck [ka_37] [] ka_76 [.inl 100000] kan_76 14 = true := by decide +kernel
theorem kah_76 : ai_holds ka_76 := ai_thm kak_76 (ai_cons kah_37 ai_nil)
def hka00_512 : Int × Int := (.ofNat 5, .ofNat 2147483647)
def hka00_513 : ai_E := [hka00_1, hka00_2, hka00_1, hka00_3, hka00_1, hka00_4, hka00_1, hka00_512]
def hka00_514 : ai_N := (.ofNat 5, .ofNat 2147483647, [(7, .ofNat 0, .ofNat 0)])
def hka00_515 : ai_V := .inl (false, hka00_514)
def hka00_516 : ai_C := .inr (.inr (5, [hka00_11, hka00_258, hka00_380, hka00_80, hka00_68, hka00_337, hka00_76, hka00_373, hka00_80, hka00_515]))
def hka00_517 : ai_E := [hka00_1, hka00_2, hka00_1, hka00_3, hka00_1, hka00_4, hka00_1, hka00_102]
def hka00_518 : Int × Int := (.negSucc 2147483647, .ofNat 0)
def hka00_519 : ai_E := [hka00_1, hka00_2, hka00_1, hka00_3, hka00_1, hka00_4, hka00_1, hka00_518]
def hka00_520 : ai_N := (.negSucc 2147483647, .ofNat 0, [(7, .ofNat 0, .ofNat 0)])
def hka00_521 : ai_V := .inl (false, hka00_520)
def hka00_522 : ai_C := .inr (.inr (5, [hka00_11, hka00_258, hka00_380, hka00_80, hka00_68, hka00_337, hka00_76, hka00_373, hka00_80, hka00_521]))
/-- NeverAgain$TextReader.inBounds -/
def ka_77 : ai_K := (218, 1, (hka00_367, [hka00_6, hka00_39, hka00_307], [], hka00_427), [.inr (15, 1), .inr (15, 2), .inr (15, 3), .inr (15, 5), .inr (15, 6), .inr (15, 7), .inr (15, 8), .inr (15, 9)], [(some hka00_35, hka00_513, [(15, hka00_516)]), (some hka00_39, hka00_517, []), (some hka00_35, hka00_519, [(15, hka00_522)])])
def kan_77 : List ai_Nd := []
set_option maxRecDepth 1000000 in
theorem kak_77 : ai_ck [ka_39] [] ka_77 [.inl 100000] kan_77 17 = true := by decide +kernel
theorem kah_77 : ai_holds ka_77 := ai_thm kak_77 (ai_cons kah_39 ai_nil)
def hka00_523 : ai_N := (.ofNat 1, .ofNat 4, [])
def hka00_524 : ai_V := .inl (false, hka00_523)
def hka00_525 : ai_C := .inr (.inr (5, [hka00_11, hka00_296, hka00_369, hka00_371, hka00_68, hka00_337, hka00_389, hka00_39, hka00_386, hka00_524]))
/-- NeverAgain$TextReader.figures -/
def ka_78 : ai_K := (211, 2, (hka00_367, [hka00_6, hka00_39, hka00_307], [], hka00_376), [.inr (15, 1), .inr (15, 2), .inr (15, 3), .inr (15, 5), .inr (15, 6), .inr (15, 7), .inr (15, 8), .inr (15, 9)], [(some hka00_35, hka00_382, [(15, hka00_446)]), (some hka00_39, hka00_382, [(15, hka00_525)]), (some hka00_35, hka00_382, [(15, hka00_450)]), (some hka00_35, hka00_382, [(15, hka00_451)]), (some hka00_35, hka00_367, [(15, hka00_452)])])
def kan_78 : List ai_Nd := []
set_option maxRecDepth 1000000 in
theorem kak_78 : ai_ck [ka_77, ka_16, ka_15] [] ka_78 [.inl 100000] kan_78 14 = true := by decide +kernel
theorem kah_78 : ai_holds ka_78 := ai_thm kak_78 (ai_cons kah_77 (ai_cons kah_16 (ai_cons kah_15 ai_nil)))
def hka00_526 : ai_N := (.ofNat 9, .ofNat 9, [])
def hka00_527 : ai_V := .inl (false, hka00_526)
def hka00_528 : Int × Int := (.ofNat 10, .ofNat 2147483647)
def hka00_529 : ai_E := [hka00_1, hka00_2, hka00_1, hka00_3, hka00_1, hka00_4, hka00_1, hka00_528]
def hka00_530 : ai_N := (.ofNat 10, .ofNat 2147483647, [(7, .ofNat 0, .ofNat 0)])
def hka00_531 : ai_V := .inl (false, hka00_530)
def hka00_532 : ai_C := .inr (.inr (5, [hka00_11, hka00_258, hka00_380, hka00_80, hka00_68, hka00_337, hka00_76, hka00_373, hka00_80, hka00_531]))
def hka00_533 : Int × Int := (.ofNat 1, .ofNat 9)
def hka00_534 : ai_E := [hka00_1, hka00_2, hka00_1, hka00_3, hka00_1, hka00_4, hka00_1, hka00_533]
/-- NeverAgain$TextReader.inBounds -/
def ka_79 : ai_K := (218, 1, (hka00_367, [hka00_6, hka00_39, hka00_527], [], hka00_427), [.inr (15, 1), .inr (15, 2), .inr (15, 3), .inr (15, 5), .inr (15, 6), .inr (15, 7), .inr (15, 8), .inr (15, 9)], [(some hka00_35, hka00_529, [(15, hka00_532)]), (some hka00_39, hka00_534, []), (some hka00_35, hka00_519, [(15, hka00_522)])])
def kan_79 : List ai_Nd := []
set_option maxRecDepth 1000000 in
theorem kak_79 : ai_ck [ka_39] [] ka_79 [.inl 100000] kan_79 17 = true := by decide +kernel
theorem kah_79 : ai_holds ka_79 := ai_thm kak_79 (ai_cons kah_39 ai_nil)
def hka00_535 : ai_N := (.ofNat 1, .ofNat 9, [])
def hka00_536 : ai_V := .inl (false, hka00_535)
def hka00_537 : ai_C := .inr (.inr (5, [hka00_11, hka00_296, hka00_369, hka00_371, hka00_68, hka00_337, hka00_389, hka00_39, hka00_386, hka00_536]))
/-- NeverAgain$TextReader.moreFigures -/
def ka_80 : ai_K := (213, 2, (hka00_367, [hka00_6, hka00_39, hka00_527], [], hka00_376), [.inr (15, 1), .inr (15, 2), .inr (15, 3), .inr (15, 5), .inr (15, 6), .inr (15, 7), .inr (15, 8), .inr (15, 9)], [(some hka00_35, hka00_382, [(15, hka00_446)]), (some hka00_39, hka00_382, [(15, hka00_537)]), (some hka00_35, hka00_382, [(15, hka00_450)]), (some hka00_35, hka00_382, [(15, hka00_387)]), (some hka00_35, hka00_367, [(15, hka00_452)])])
def kan_80 : List ai_Nd := []
set_option maxRecDepth 1000000 in
theorem kak_80 : ai_ck [ka_79, ka_16, ka_15] [] ka_80 [.inl 100000] kan_80 18 = true := by decide +kernel
theorem kah_80 : ai_holds ka_80 := ai_thm kak_80 (ai_cons kah_79 (ai_cons kah_16 (ai_cons kah_15 ai_nil)))
def hka00_538 : ai_N := (.ofNat 5, .ofNat 5, [])
def hka00_539 : ai_V := .inl (false, hka00_538)
def hka00_540 : ai_C := .inr (.inr (5, [hka00_11, hka00_13, hka00_539, hka00_250, hka00_68, hka00_19, hka00_21, hka00_23, hka00_25, hka00_27]))
/-- NeverAgain$TextReader.fail -/
def ka_81 : ai_K := (158, 0, (hka00_352, [hka00_6, hka00_539, hka00_250], [], hka00_362), [.inl 2, .inr (15, 1), .inr (15, 2), .inr (15, 3), .inr (15, 5), .inr (15, 6), .inr (15, 7), .inr (15, 8), .inr (15, 9)], [(some hka00_35, hka00_352, [(15, hka00_540)])])
def kan_81 : List ai_Nd := []
set_option maxRecDepth 1000000 in
theorem kak_81 : ai_ck [] [] ka_81 [.inl 100000] kan_81 9 = true := by decide +kernel
theorem kah_81 : ai_holds ka_81 := ai_thm kak_81 ai_nil
def hka00_541 : ai_W := [hka00_10, hka00_10, hka00_10, hka00_10, hka00_10, hka00_10, hka00_10, hka00_10, hka00_345, hka00_302, hka00_10, hka00_10, hka00_10, hka00_10, hka00_10, hka00_466, hka00_32, hka00_10, hka00_10, hka00_10, hka00_10, hka00_10, hka00_10, hka00_10, hka00_10, hka00_10, hka00_10, hka00_10, hka00_10, hka00_10, hka00_10, hka00_10, hka00_10, hka00_10, hka00_10, hka00_10, hka00_10, hka00_10, hka00_10, hka00_10, hka00_10, hka00_10, hka00_10, hka00_10, hka00_10, hka00_10, hka00_10, hka00_10, hka00_10, hka00_10, hka00_10, hka00_10, hka00_10, hka00_10, hka00_10, hka00_10, hka00_10, hka00_10, hka00_10, hka00_10, hka00_10, hka00_10, hka00_10, hka00_10, hka00_10, hka00_10, hka00_10, hka00_10, hka00_10, hka00_10, hka00_10, hka00_10, hka00_10, hka00_10, hka00_10, hka00_10]
def hka00_542 : ai_C := .inr (.inr (6, [hka00_299, hka00_310, hka00_326, hka00_327, hka00_328, hka00_329, hka00_331, hka00_524, hka00_335, hka00_337, hka00_19, hka00_339, hka00_341, hka00_343]))
def hka00_543 : ai_C := .inr (.inr (5, [hka00_11, hka00_473, hka00_350, hka00_480, hka00_68, hka00_391, hka00_480, hka00_380, hka00_480, hka00_536]))
def hka00_544 : ai_E := [hka00_101, hka00_102, hka00_3, hka00_3, hka00_3, hka00_323, hka00_324, hka00_56, hka00_268, hka00_233, hka00_1, hka00_3, hka00_357, hka00_4, hka00_1, hka00_3]
def hka00_545 : ai_C := .inr (.inr (5, [hka00_11, hka00_473, hka00_286, hka00_88, hka00_68, hka00_391, hka00_485, hka00_350, hka00_487, hka00_536]))
def hka00_546 : Int × Int := (.ofNat 1, .ofNat 6)
def hka00_547 : ai_E := [hka00_101, hka00_102, hka00_3, hka00_3, hka00_3, hka00_323, hka00_324, hka00_56, hka00_268, hka00_546, hka00_1, hka00_3, hka00_357, hka00_4, hka00_1, hka00_3]
def hka00_548 : ai_N := (.ofNat 1, .ofNat 6, [(9, .ofNat 0, .ofNat 0)])
def hka00_549 : ai_V := .inl (false, hka00_548)
def hka00_550 : ai_C := .inr (.inr (5, [hka00_11, hka00_473, hka00_549, hka00_88, hka00_68, hka00_391, hka00_485, hka00_350, hka00_487, hka00_536]))
def hka00_551 : ai_C := .inr (.inr (5, [hka00_11, hka00_473, hka00_350, hka00_487, hka00_68, hka00_391, hka00_480, hka00_35, hka00_487, hka00_536]))
def hka00_552 : ai_N := (.ofNat 1, .ofNat 5, [])
def hka00_553 : ai_V := .inl (false, hka00_552)
def hka00_554 : ai_C := .inr (.inr (5, [hka00_11, hka00_473, hka00_553, hka00_487, hka00_68, hka00_391, hka00_480, hka00_39, hka00_487, hka00_391]))
/-- NeverAgain$TextReader.mattersLine -/
def ka_82 : ai_K := (183, 3, (hka00_454, [hka00_6, hka00_9], [], hka00_541), [.inr (8, 6), .inr (8, 7), .inr (8, 8), .inr (8, 9), .inr (8, 10), .inr (8, 11), .inr (8, 12), .inr (8, 13), .inr (15, 1), .inr (15, 2), .inr (15, 3), .inr (15, 5), .inr (15, 6), .inr (15, 7), .inr (15, 8), .inr (15, 9)], [(some hka00_35, hka00_454, [(15, hka00_470)]), (some hka00_35, hka00_471, [(15, hka00_478)]), (some hka00_35, hka00_471, [(15, hka00_481)]), (some hka00_35, hka00_471, [(15, hka00_493)]), (some hka00_35, hka00_454, [(15, hka00_494)]), (some hka00_35, hka00_471, [(8, hka00_542), (9, hka00_301), (15, hka00_543)]), (some hka00_39, hka00_544, [(8, hka00_542), (9, hka00_301), (15, hka00_545)]), (some hka00_35, hka00_547, [(8, hka00_542), (9, hka00_301), (15, hka00_550)]), (some hka00_35, hka00_471, [(8, hka00_542), (9, hka00_301), (15, hka00_551)]), (some hka00_35, hka00_471, [(8, hka00_542), (9, hka00_301), (15, hka00_554)])])
def hka00_555 : ai_E := [hka00_101, hka00_102, hka00_3, hka00_3, hka00_3, hka00_323, hka00_324, hka00_56, hka00_268, hka00_2, hka00_1, hka00_3, hka00_357, hka00_4, hka00_1, hka00_3, hka00_56]
def hka00_556 : ai_N := (.ofNat 0, .ofNat 4, [(16, .ofNat 0, .ofNat 0)])
def hka00_557 : ai_V := .inl (false, hka00_556)
def hka00_558 : Bool × Option ai_C := (true, some hka00_542)
def hka00_559 : ai_C := .inr (.inr (5, [hka00_11, hka00_473, hka00_456, hka00_88, hka00_68, hka00_391, hka00_480, hka00_39, hka00_475, hka00_536]))
def hka00_560 : Bool × Option ai_C := (true, some hka00_559)
def hka00_561 : ai_W := [hka00_10, hka00_10, hka00_10, hka00_10, hka00_10, hka00_10, hka00_10, hka00_10, hka00_558, hka00_308, hka00_10, hka00_10, hka00_10, hka00_10, hka00_10, hka00_560, hka00_32, hka00_10, hka00_10, hka00_10, hka00_10, hka00_10, hka00_10, hka00_10, hka00_10, hka00_10, hka00_10, hka00_10, hka00_10, hka00_10, hka00_10, hka00_10, hka00_10, hka00_10, hka00_10, hka00_10, hka00_10, hka00_10, hka00_10, hka00_10, hka00_10, hka00_10, hka00_10, hka00_10, hka00_10, hka00_10, hka00_10, hka00_10, hka00_10, hka00_10, hka00_10, hka00_10, hka00_10, hka00_10, hka00_10, hka00_10, hka00_10, hka00_10, hka00_10, hka00_10, hka00_10, hka00_10, hka00_10, hka00_10, hka00_10, hka00_10, hka00_10, hka00_10, hka00_10, hka00_10, hka00_10, hka00_10, hka00_10, hka00_10, hka00_10, hka00_10]
def kan_82 : List ai_Nd := [(32, (hka00_555, [hka00_6, hka00_557], [], hka00_561), [.inl 1], [.inl 99967, .inl 1, .inr (true, .ofNat 4, 16), .inl 100000])]
set_option maxRecDepth 1000000 in
theorem kak_82 : ai_ck [ka_76, ka_78, ka_80, ka_81] [] ka_82 [.inl 100000, .inl 0, .inl 0, .inl 0] kan_82 27 = true := by decide +kernel
theorem kah_82 : ai_holds ka_82 := ai_thm kak_82 (ai_cons kah_76 (ai_cons kah_78 (ai_cons kah_80 (ai_cons kah_81 ai_nil))))
def hka00_562 : ai_V := .inr (some (.retAddr 5))
/-- java/lang/String.coder -/
def ka_83 : ai_K := (215, 0, ([], [hka00_562], [], hka00_266), [], [(some hka00_35, [], [])])
def kan_83 : List ai_Nd := []
set_option maxRecDepth 1000000 in
theorem kak_83 : ai_ck [] [] ka_83 [.inl 100000] kan_83 7 = true := by decide +kernel
theorem kah_83 : ai_holds ka_83 := ai_thm kak_83 ai_nil
/-- java/lang/String.length -/
def ka_84 : ai_K := (208, 1, ([], [hka00_562], [], hka00_266), [], [(some hka00_380, [], [])])
def kan_84 : List ai_Nd := []
set_option maxRecDepth 1000000 in
theorem kak_84 : ai_ck [ka_83] [] ka_84 [.inl 100000] kan_84 8 = true := by decide +kernel
theorem kah_84 : ai_holds ka_84 := ai_thm kak_84 (ai_cons kah_83 ai_nil)
/-- java/lang/String.isLatin1 -/
def ka_85 : ai_K := (216, 0, ([], [hka00_562], [], hka00_266), [], [(some hka00_39, [], [])])
def kan_85 : List ai_Nd := []
set_option maxRecDepth 1000000 in
theorem kak_85 : ai_ck [] [] ka_85 [.inl 100000] kan_85 9 = true := by decide +kernel
theorem kah_85 : ai_holds ka_85 := ai_thm kak_85 ai_nil
def hka00_563 : Int × Int := (.ofNat 0, .ofNat 2)
def hka00_564 : ai_N := (.ofNat 0, .ofNat 2, [(0, .ofNat 0, .ofNat 0)])
def hka00_565 : ai_V := .inl (false, hka00_564)
/-- jdk/internal/util/Preconditions.checkIndex -/
def ka_94 : ai_K := (220, 0, ([hka00_563], [hka00_565, hka00_380, hka00_9], [], hka00_266), [.inl 0], [(some hka00_565, [hka00_563], [])])
def kan_94 : List ai_Nd := []
set_option maxRecDepth 1000000 in
theorem kak_94 : ai_ck [] [] ka_94 [.inl 100000] kan_94 8 = true := by decide +kernel
theorem kah_94 : ai_holds ka_94 := ai_thm kak_94 ai_nil
/-- java/lang/String.checkIndex -/
def ka_95 : ai_K := (219, 1, ([hka00_563], [hka00_565, hka00_380], [], hka00_266), [.inl 0], [(none, [hka00_563], [])])
def kan_95 : List ai_Nd := []
set_option maxRecDepth 1000000 in
theorem kak_95 : ai_ck [ka_94] [] ka_95 [.inl 100000] kan_95 7 = true := by decide +kernel
theorem kah_95 : ai_holds ka_95 := ai_thm kak_95 (ai_cons kah_94 ai_nil)
def hka00_566 : ai_V := .inr (some (.retAddr 6))
/-- java/lang/StringLatin1.charAt -/
def ka_96 : ai_K := (217, 2, ([hka00_563], [hka00_566, hka00_565], [], hka00_266), [.inl 1], [(some hka00_415, [hka00_563], [])])
def kan_96 : List ai_Nd := []
set_option maxRecDepth 1000000 in
theorem kak_96 : ai_ck [ka_95] [] ka_96 [.inl 100000] kan_96 12 = true := by decide +kernel
theorem kah_96 : ai_holds ka_96 := ai_thm kak_96 (ai_cons kah_95 ai_nil)
/-- java/lang/String.charAt -/
def ka_97 : ai_K := (209, 3, ([hka00_563], [hka00_562, hka00_565], [], hka00_266), [.inl 1], [(some hka00_415, [hka00_563], [])])
def kan_97 : List ai_Nd := []
set_option maxRecDepth 1000000 in
theorem kak_97 : ai_ck [ka_85, ka_96] [] ka_97 [.inl 100000] kan_97 9 = true := by decide +kernel
theorem kah_97 : ai_holds ka_97 := ai_thm kak_97 (ai_cons kah_85 (ai_cons kah_96 ai_nil))
def hka00_567 : Int × Int := (.ofNat 3, .ofNat 400)
def hka00_568 : ai_E := [hka00_1, hka00_2, hka00_1, hka00_3, hka00_567, hka00_4, hka00_1, hka00_3]
/-- NeverAgain$TextReader.isName -/
def ka_98 : ai_K := (181, 4, (hka00_367, [hka00_6, hka00_562, hka00_9], [], hka00_376), [.inr (15, 1), .inr (15, 2), .inr (15, 3), .inr (15, 5), .inr (15, 6), .inr (15, 7), .inr (15, 8), .inr (15, 9)], [(some hka00_35, hka00_367, []), (some hka00_39, hka00_568, [])])
def hka00_569 : ai_E := [hka00_1, hka00_2, hka00_1, hka00_3, hka00_567, hka00_4, hka00_1, hka00_3, hka00_4]
def hka00_570 : ai_N := (.ofNat 0, .ofNat 3, [(8, .ofNat 0, .ofNat 0)])
def hka00_571 : ai_V := .inl (false, hka00_570)
def hka00_572 : ai_N := (.ofNat 3, .ofNat 400, [(4, .ofNat 0, .ofNat 0)])
def hka00_573 : ai_V := .inl (false, hka00_572)
def hka00_574 : ai_C := .inr (.inr (5, [hka00_11, hka00_258, hka00_369, hka00_371, hka00_68, hka00_337, hka00_573, hka00_373, hka00_80, hka00_82]))
def hka00_575 : Bool × Option ai_C := (false, some hka00_574)
def hka00_576 : ai_W := [hka00_10, hka00_10, hka00_10, hka00_10, hka00_10, hka00_10, hka00_10, hka00_10, hka00_10, hka00_10, hka00_10, hka00_10, hka00_10, hka00_10, hka00_10, hka00_575, hka00_32, hka00_10, hka00_10, hka00_10, hka00_10, hka00_10, hka00_10, hka00_10, hka00_10, hka00_10, hka00_10, hka00_10, hka00_10, hka00_10, hka00_10, hka00_10, hka00_10, hka00_10, hka00_10, hka00_10, hka00_10, hka00_10, hka00_10, hka00_10, hka00_10, hka00_10, hka00_10, hka00_10, hka00_10, hka00_10, hka00_10, hka00_10, hka00_10, hka00_10, hka00_10, hka00_10, hka00_10, hka00_10, hka00_10, hka00_10, hka00_10, hka00_10, hka00_10, hka00_10, hka00_10, hka00_10, hka00_10, hka00_10, hka00_10, hka00_10, hka00_10, hka00_10, hka00_10, hka00_10, hka00_10, hka00_10, hka00_10, hka00_10, hka00_10, hka00_10]
def kan_98 : List ai_Nd := [(20, (hka00_569, [hka00_6, hka00_562, hka00_571], [], hka00_576), [.inl 2], [.inl 99979, .inl 1, .inr (true, .ofNat 3, 8), .inl 100000])]
set_option maxRecDepth 1000000 in
theorem kak_98 : ai_ck [ka_84, ka_97, ka_9] [] ka_98 [.inl 100000, .inl 0, .inl 0, .inl 0] kan_98 18 = true := by decide +kernel
theorem kah_98 : ai_holds ka_98 := ai_thm kak_98 (ai_cons kah_84 (ai_cons kah_97 (ai_cons kah_9 ai_nil)))
/-- NeverAgain$TextReader.once -/
def ka_99 : ai_K := (210, 1, (hka00_367, [hka00_6, hka00_307], [], hka00_427), [.inr (15, 1), .inr (15, 2), .inr (15, 3), .inr (15, 5), .inr (15, 6), .inr (15, 7), .inr (15, 8), .inr (15, 9)], [(some hka00_35, hka00_367, [(15, hka00_428)]), (some hka00_39, hka00_367, [(15, hka00_429)])])
def kan_99 : List ai_Nd := []
set_option maxRecDepth 1000000 in
theorem kak_99 : ai_ck [ka_37] [] ka_99 [.inl 100000] kan_99 14 = true := by decide +kernel
theorem kah_99 : ai_holds ka_99 := ai_thm kak_99 (ai_cons kah_37 ai_nil)
def hka00_577 : ai_N := (.ofNat 20, .ofNat 20, [])
def hka00_578 : ai_V := .inl (false, hka00_577)
def hka00_579 : Int × Int := (.ofNat 21, .ofNat 2147483647)
def hka00_580 : ai_E := [hka00_1, hka00_2, hka00_1, hka00_3, hka00_1, hka00_4, hka00_1, hka00_579]
def hka00_581 : ai_N := (.ofNat 21, .ofNat 2147483647, [(7, .ofNat 0, .ofNat 0)])
def hka00_582 : ai_V := .inl (false, hka00_581)
def hka00_583 : ai_C := .inr (.inr (5, [hka00_11, hka00_258, hka00_380, hka00_80, hka00_68, hka00_337, hka00_76, hka00_373, hka00_80, hka00_582]))
def hka00_584 : Int × Int := (.ofNat 0, .ofNat 20)
def hka00_585 : ai_E := [hka00_1, hka00_2, hka00_1, hka00_3, hka00_1, hka00_4, hka00_1, hka00_584]
def hka00_586 : ai_E := [hka00_1, hka00_2, hka00_1, hka00_3, hka00_1, hka00_4, hka00_1, hka00_260]
def hka00_587 : ai_N := (.negSucc 2147483647, .negSucc 0, [(7, .ofNat 0, .ofNat 0)])
def hka00_588 : ai_V := .inl (false, hka00_587)
def hka00_589 : ai_C := .inr (.inr (5, [hka00_11, hka00_258, hka00_380, hka00_80, hka00_68, hka00_337, hka00_76, hka00_373, hka00_80, hka00_588]))
/-- NeverAgain$TextReader.inBounds -/
def ka_100 : ai_K := (218, 1, (hka00_367, [hka00_6, hka00_35, hka00_578], [], hka00_427), [.inr (15, 1), .inr (15, 2), .inr (15, 3), .inr (15, 5), .inr (15, 6), .inr (15, 7), .inr (15, 8), .inr (15, 9)], [(some hka00_35, hka00_580, [(15, hka00_583)]), (some hka00_39, hka00_585, []), (some hka00_35, hka00_586, [(15, hka00_589)])])
def kan_100 : List ai_Nd := []
set_option maxRecDepth 1000000 in
theorem kak_100 : ai_ck [ka_39] [] ka_100 [.inl 100000] kan_100 17 = true := by decide +kernel
theorem kah_100 : ai_holds ka_100 := ai_thm kak_100 (ai_cons kah_39 ai_nil)
def hka00_590 : ai_N := (.ofNat 0, .ofNat 20, [])
def hka00_591 : ai_V := .inl (false, hka00_590)
def hka00_592 : ai_C := .inr (.inr (5, [hka00_11, hka00_296, hka00_369, hka00_371, hka00_68, hka00_337, hka00_389, hka00_39, hka00_386, hka00_591]))
/-- NeverAgain$TextReader.figures -/
def ka_101 : ai_K := (211, 2, (hka00_367, [hka00_6, hka00_35, hka00_578], [], hka00_376), [.inr (15, 1), .inr (15, 2), .inr (15, 3), .inr (15, 5), .inr (15, 6), .inr (15, 7), .inr (15, 8), .inr (15, 9)], [(some hka00_35, hka00_382, [(15, hka00_446)]), (some hka00_39, hka00_382, [(15, hka00_592)]), (some hka00_35, hka00_382, [(15, hka00_450)]), (some hka00_35, hka00_382, [(15, hka00_451)]), (some hka00_35, hka00_367, [(15, hka00_452)])])
def kan_101 : List ai_Nd := []
set_option maxRecDepth 1000000 in
theorem kak_101 : ai_ck [ka_100, ka_16, ka_15] [] ka_101 [.inl 100000] kan_101 14 = true := by decide +kernel
theorem kah_101 : ai_holds ka_101 := ai_thm kak_101 (ai_cons kah_100 (ai_cons kah_16 (ai_cons kah_15 ai_nil)))
def hka00_593 : ai_C := .inr (.inr (6, [hka00_299, hka00_310, hka00_326, hka00_327, hka00_328, hka00_329, hka00_331, hka00_333, hka00_591, hka00_337, hka00_19, hka00_339, hka00_341, hka00_343]))
def hka00_594 : ai_C := .inr (.inr (5, [hka00_11, hka00_473, hka00_350, hka00_480, hka00_68, hka00_391, hka00_480, hka00_380, hka00_480, hka00_591]))
def hka00_595 : ai_C := .inr (.inr (5, [hka00_11, hka00_473, hka00_456, hka00_88, hka00_68, hka00_391, hka00_485, hka00_350, hka00_487, hka00_591]))
def hka00_596 : ai_C := .inr (.inr (5, [hka00_11, hka00_473, hka00_350, hka00_487, hka00_68, hka00_391, hka00_480, hka00_35, hka00_487, hka00_591]))
/-- NeverAgain$TextReader.gapLine -/
def ka_102 : ai_K := (184, 3, (hka00_454, [hka00_6], [], hka00_467), [.inr (8, 6), .inr (8, 7), .inr (8, 8), .inr (8, 9), .inr (8, 10), .inr (8, 11), .inr (8, 12), .inr (8, 13), .inr (15, 1), .inr (15, 2), .inr (15, 3), .inr (15, 5), .inr (15, 6), .inr (15, 7), .inr (15, 8), .inr (15, 9)], [(some hka00_35, hka00_454, [(15, hka00_470)]), (some hka00_35, hka00_471, [(15, hka00_478)]), (some hka00_35, hka00_471, [(15, hka00_481)]), (some hka00_35, hka00_471, [(8, hka00_593), (15, hka00_594)]), (some hka00_39, hka00_471, [(8, hka00_593), (15, hka00_595)]), (some hka00_35, hka00_471, [(8, hka00_593), (15, hka00_596)]), (some hka00_35, hka00_471, [(8, hka00_593), (15, hka00_492)]), (some hka00_35, hka00_471, [(15, hka00_493)]), (some hka00_35, hka00_454, [(15, hka00_494)])])
def kan_102 : List ai_Nd := []
set_option maxRecDepth 1000000 in
theorem kak_102 : ai_ck [ka_99, ka_42, ka_101] [] ka_102 [.inl 100000] kan_102 18 = true := by decide +kernel
theorem kah_102 : ai_holds ka_102 := ai_thm kak_102 (ai_cons kah_99 (ai_cons kah_42 (ai_cons kah_101 ai_nil)))
def hka00_597 : ai_V := .inr (some (.retAddr 7))
/-- java/lang/String.coder -/
def ka_103 : ai_K := (215, 0, ([], [hka00_597], [], hka00_266), [], [(some hka00_35, [], [])])
def kan_103 : List ai_Nd := []
set_option maxRecDepth 1000000 in
theorem kak_103 : ai_ck [] [] ka_103 [.inl 100000] kan_103 7 = true := by decide +kernel
theorem kah_103 : ai_holds ka_103 := ai_thm kak_103 ai_nil
/-- java/lang/String.length -/
def ka_104 : ai_K := (208, 1, ([], [hka00_597], [], hka00_266), [], [(some hka00_307, [], [])])
def kan_104 : List ai_Nd := []
set_option maxRecDepth 1000000 in
theorem kak_104 : ai_ck [ka_103] [] ka_104 [.inl 100000] kan_104 8 = true := by decide +kernel
theorem kah_104 : ai_holds ka_104 := ai_thm kak_104 (ai_cons kah_103 ai_nil)
/-- java/lang/String.isLatin1 -/
def ka_105 : ai_K := (216, 0, ([], [hka00_597], [], hka00_266), [], [(some hka00_39, [], [])])
def kan_105 : List ai_Nd := []
set_option maxRecDepth 1000000 in
theorem kak_105 : ai_ck [] [] ka_105 [.inl 100000] kan_105 9 = true := by decide +kernel
theorem kah_105 : ai_holds ka_105 := ai_thm kak_105 ai_nil
def hka00_598 : ai_V := .inr (some (.retAddr 8))
/-- java/lang/StringLatin1.charAt -/
def ka_112 : ai_K := (217, 2, ([hka00_4], [hka00_598, hka00_412], [], hka00_266), [.inl 1], [(some hka00_415, [hka00_4], [])])
def kan_112 : List ai_Nd := []
set_option maxRecDepth 1000000 in
theorem kak_112 : ai_ck [ka_33] [] ka_112 [.inl 100000] kan_112 12 = true := by decide +kernel
theorem kah_112 : ai_holds ka_112 := ai_thm kak_112 (ai_cons kah_33 ai_nil)
/-- java/lang/String.charAt -/
def ka_113 : ai_K := (209, 3, ([hka00_4], [hka00_597, hka00_412], [], hka00_266), [.inl 1], [(some hka00_415, [hka00_4], [])])
def kan_113 : List ai_Nd := []
set_option maxRecDepth 1000000 in
theorem kak_113 : ai_ck [ka_105, ka_112] [] ka_113 [.inl 100000] kan_113 9 = true := by decide +kernel
theorem kah_113 : ai_holds ka_113 := ai_thm kak_113 (ai_cons kah_105 (ai_cons kah_112 ai_nil))
/-- NeverAgain$TextReader.isName -/
def ka_114 : ai_K := (181, 4, (hka00_367, [hka00_6, hka00_597, hka00_9], [], hka00_376), [.inr (15, 1), .inr (15, 2), .inr (15, 3), .inr (15, 5), .inr (15, 6), .inr (15, 7), .inr (15, 8), .inr (15, 9)], [(some hka00_35, hka00_367, []), (some hka00_39, hka00_417, [])])
def kan_114 : List ai_Nd := [(20, (hka00_418, [hka00_6, hka00_597, hka00_420], [], hka00_425), [.inl 2], [.inl 99979, .inl 1, .inr (true, .ofNat 4, 8), .inl 100000])]
set_option maxRecDepth 1000000 in
theorem kak_114 : ai_ck [ka_104, ka_113, ka_9] [] ka_114 [.inl 100000, .inl 0, .inl 0, .inl 0] kan_114 18 = true := by decide +kernel
theorem kah_114 : ai_holds ka_114 := ai_thm kak_114 (ai_cons kah_104 (ai_cons kah_113 (ai_cons kah_9 ai_nil)))
def hka00_599 : ai_N := (.ofNat 8, .ofNat 8, [])
def hka00_600 : ai_V := .inl (false, hka00_599)
/-- NeverAgain$TextReader.once -/
def ka_115 : ai_K := (210, 1, (hka00_367, [hka00_6, hka00_600], [], hka00_427), [.inr (15, 1), .inr (15, 2), .inr (15, 3), .inr (15, 5), .inr (15, 6), .inr (15, 7), .inr (15, 8), .inr (15, 9)], [(some hka00_35, hka00_367, [(15, hka00_428)]), (some hka00_39, hka00_367, [(15, hka00_429)])])
def kan_115 : List ai_Nd := []
set_option maxRecDepth 1000000 in
theorem kak_115 : ai_ck [ka_37] [] ka_115 [.inl 100000] kan_115 14 = true := by decide +kernel
theorem kah_115 : ai_holds ka_115 := ai_thm kak_115 (ai_cons kah_37 ai_nil)
def hka00_601 : ai_C := .inr (.inr (6, [hka00_299, hka00_310, hka00_326, hka00_327, hka00_328, hka00_329, hka00_331, hka00_333, hka00_335, hka00_39, hka00_19, hka00_339, hka00_341, hka00_343]))
def hka00_602 : ai_C := .inr (.inr (5, [hka00_11, hka00_473, hka00_456, hka00_88, hka00_68, hka00_391, hka00_477, hka00_350, hka00_475, hka00_464]))
def hka00_603 : ai_C := .inr (.inr (5, [hka00_11, hka00_473, hka00_350, hka00_475, hka00_68, hka00_391, hka00_480, hka00_39, hka00_475, hka00_391]))
def hka00_604 : ai_C := .inr (.inr (5, [hka00_11, hka00_473, hka00_39, hka00_475, hka00_68, hka00_391, hka00_469, hka00_39, hka00_475, hka00_391]))
/-- NeverAgain$TextReader.nearLine -/
def ka_116 : ai_K := (185, 3, (hka00_454, [hka00_6], [], hka00_467), [.inr (8, 6), .inr (8, 7), .inr (8, 8), .inr (8, 9), .inr (8, 10), .inr (8, 11), .inr (8, 12), .inr (8, 13), .inr (15, 1), .inr (15, 2), .inr (15, 3), .inr (15, 5), .inr (15, 6), .inr (15, 7), .inr (15, 8), .inr (15, 9)], [(some hka00_35, hka00_454, [(8, hka00_601), (15, hka00_470)]), (some hka00_39, hka00_471, [(8, hka00_601), (15, hka00_602)]), (some hka00_35, hka00_471, [(8, hka00_601), (15, hka00_481)]), (some hka00_35, hka00_471, [(8, hka00_601), (15, hka00_603)]), (some hka00_35, hka00_471, [(8, hka00_601), (15, hka00_604)]), (some hka00_35, hka00_454, [(15, hka00_494)])])
def kan_116 : List ai_Nd := []
set_option maxRecDepth 1000000 in
theorem kak_116 : ai_ck [ka_115, ka_42] [] ka_116 [.inl 100000] kan_116 12 = true := by decide +kernel
theorem kah_116 : ai_holds ka_116 := ai_thm kak_116 (ai_cons kah_115 (ai_cons kah_42 ai_nil))
def hka00_605 : ai_V := .inr (some (.retAddr 9))
/-- java/lang/String.coder -/
def ka_117 : ai_K := (215, 0, ([], [hka00_605], [], hka00_266), [], [(some hka00_35, [], [])])
def kan_117 : List ai_Nd := []
set_option maxRecDepth 1000000 in
theorem kak_117 : ai_ck [] [] ka_117 [.inl 100000] kan_117 7 = true := by decide +kernel
theorem kah_117 : ai_holds ka_117 := ai_thm kak_117 ai_nil
/-- java/lang/String.length -/
def ka_118 : ai_K := (208, 1, ([], [hka00_605], [], hka00_266), [], [(some hka00_307, [], [])])
def kan_118 : List ai_Nd := []
set_option maxRecDepth 1000000 in
theorem kak_118 : ai_ck [ka_117] [] ka_118 [.inl 100000] kan_118 8 = true := by decide +kernel
theorem kah_118 : ai_holds ka_118 := ai_thm kak_118 (ai_cons kah_117 ai_nil)
/-- java/lang/String.isLatin1 -/
def ka_119 : ai_K := (216, 0, ([], [hka00_605], [], hka00_266), [], [(some hka00_39, [], [])])
def kan_119 : List ai_Nd := []
set_option maxRecDepth 1000000 in
theorem kak_119 : ai_ck [] [] ka_119 [.inl 100000] kan_119 9 = true := by decide +kernel
theorem kah_119 : ai_holds ka_119 := ai_thm kak_119 ai_nil
def hka00_606 : ai_V := .inr (some (.retAddr 10))
/-- java/lang/StringLatin1.charAt -/
def ka_126 : ai_K := (217, 2, ([hka00_4], [hka00_606, hka00_412], [], hka00_266), [.inl 1], [(some hka00_415, [hka00_4], [])])
def kan_126 : List ai_Nd := []
set_option maxRecDepth 1000000 in
theorem kak_126 : ai_ck [ka_33] [] ka_126 [.inl 100000] kan_126 12 = true := by decide +kernel
theorem kah_126 : ai_holds ka_126 := ai_thm kak_126 (ai_cons kah_33 ai_nil)
/-- java/lang/String.charAt -/
def ka_127 : ai_K := (209, 3, ([hka00_4], [hka00_605, hka00_412], [], hka00_266), [.inl 1], [(some hka00_415, [hka00_4], [])])
def kan_127 : List ai_Nd := []
set_option maxRecDepth 1000000 in
theorem kak_127 : ai_ck [ka_119, ka_126] [] ka_127 [.inl 100000] kan_127 9 = true := by decide +kernel
theorem kah_127 : ai_holds ka_127 := ai_thm kak_127 (ai_cons kah_119 (ai_cons kah_126 ai_nil))
/-- NeverAgain$TextReader.isName -/
def ka_128 : ai_K := (181, 4, (hka00_367, [hka00_6, hka00_605, hka00_9], [], hka00_376), [.inr (15, 1), .inr (15, 2), .inr (15, 3), .inr (15, 5), .inr (15, 6), .inr (15, 7), .inr (15, 8), .inr (15, 9)], [(some hka00_35, hka00_367, []), (some hka00_39, hka00_417, [])])
def kan_128 : List ai_Nd := [(20, (hka00_418, [hka00_6, hka00_605, hka00_420], [], hka00_425), [.inl 2], [.inl 99979, .inl 1, .inr (true, .ofNat 4, 8), .inl 100000])]
set_option maxRecDepth 1000000 in
theorem kak_128 : ai_ck [ka_118, ka_127, ka_9] [] ka_128 [.inl 100000, .inl 0, .inl 0, .inl 0] kan_128 18 = true := by decide +kernel
theorem kah_128 : ai_holds ka_128 := ai_thm kak_128 (ai_cons kah_118 (ai_cons kah_127 (ai_cons kah_9 ai_nil)))
/-- NeverAgain$TextReader.once -/
def ka_129 : ai_K := (210, 1, (hka00_367, [hka00_6, hka00_432], [], hka00_427), [.inr (15, 1), .inr (15, 2), .inr (15, 3), .inr (15, 5), .inr (15, 6), .inr (15, 7), .inr (15, 8), .inr (15, 9)], [(some hka00_35, hka00_367, [(15, hka00_428)]), (some hka00_39, hka00_367, [(15, hka00_429)])])
def kan_129 : List ai_Nd := []
set_option maxRecDepth 1000000 in
theorem kak_129 : ai_ck [ka_37] [] ka_129 [.inl 100000] kan_129 14 = true := by decide +kernel
theorem kah_129 : ai_holds ka_129 := ai_thm kak_129 (ai_cons kah_37 ai_nil)
def hka00_607 : ai_V := .inr (some (.retAddr 19))
/-- java/lang/String.coder -/
def ka_130 : ai_K := (215, 0, ([], [hka00_607], [], hka00_266), [], [(some hka00_35, [], [])])
def kan_130 : List ai_Nd := []
set_option maxRecDepth 1000000 in
theorem kak_130 : ai_ck [] [] ka_130 [.inl 100000] kan_130 7 = true := by decide +kernel
theorem kah_130 : ai_holds ka_130 := ai_thm kak_130 ai_nil
/-- java/lang/String.length -/
def ka_131 : ai_K := (208, 1, ([], [hka00_607], [], hka00_266), [], [(some hka00_539, [], [])])
def kan_131 : List ai_Nd := []
set_option maxRecDepth 1000000 in
theorem kak_131 : ai_ck [ka_130] [] ka_131 [.inl 100000] kan_131 8 = true := by decide +kernel
theorem kah_131 : ai_holds ka_131 := ai_thm kak_131 (ai_cons kah_130 ai_nil)
/-- java/lang/String.isLatin1 -/
def ka_132 : ai_K := (216, 0, ([], [hka00_607], [], hka00_266), [], [(some hka00_39, [], [])])
def kan_132 : List ai_Nd := []
set_option maxRecDepth 1000000 in
theorem kak_132 : ai_ck [] [] ka_132 [.inl 100000] kan_132 9 = true := by decide +kernel
theorem kah_132 : ai_holds ka_132 := ai_thm kak_132 ai_nil
/-- jdk/internal/util/Preconditions.checkIndex -/
def ka_149 : ai_K := (220, 0, ([hka00_56], [hka00_305, hka00_539, hka00_9], [], hka00_266), [.inl 0], [(some hka00_305, [hka00_56], [])])
def kan_149 : List ai_Nd := []
set_option maxRecDepth 1000000 in
theorem kak_149 : ai_ck [] [] ka_149 [.inl 100000] kan_149 8 = true := by decide +kernel
theorem kah_149 : ai_holds ka_149 := ai_thm kak_149 ai_nil
/-- java/lang/String.checkIndex -/
def ka_150 : ai_K := (219, 1, ([hka00_56], [hka00_305, hka00_539], [], hka00_266), [.inl 0], [(none, [hka00_56], [])])
def kan_150 : List ai_Nd := []
set_option maxRecDepth 1000000 in
theorem kak_150 : ai_ck [ka_149] [] ka_150 [.inl 100000] kan_150 7 = true := by decide +kernel
theorem kah_150 : ai_holds ka_150 := ai_thm kak_150 (ai_cons kah_149 ai_nil)
def hka00_608 : ai_V := .inr (some (.retAddr 20))
/-- java/lang/StringLatin1.charAt -/
def ka_151 : ai_K := (217, 2, ([hka00_56], [hka00_608, hka00_305], [], hka00_266), [.inl 1], [(some hka00_415, [hka00_56], [])])
def kan_151 : List ai_Nd := []
set_option maxRecDepth 1000000 in
theorem kak_151 : ai_ck [ka_150] [] ka_151 [.inl 100000] kan_151 12 = true := by decide +kernel
theorem kah_151 : ai_holds ka_151 := ai_thm kak_151 (ai_cons kah_150 ai_nil)
/-- java/lang/String.charAt -/
def ka_152 : ai_K := (209, 3, ([hka00_56], [hka00_607, hka00_305], [], hka00_266), [.inl 1], [(some hka00_415, [hka00_56], [])])
def kan_152 : List ai_Nd := []
set_option maxRecDepth 1000000 in
theorem kak_152 : ai_ck [ka_132, ka_151] [] ka_152 [.inl 100000] kan_152 9 = true := by decide +kernel
theorem kah_152 : ai_holds ka_152 := ai_thm kak_152 (ai_cons kah_132 (ai_cons kah_151 ai_nil))
def hka00_609 : Int × Int := (.ofNat 5, .ofNat 400)
def hka00_610 : ai_E := [hka00_1, hka00_2, hka00_1, hka00_3, hka00_609, hka00_4, hka00_1, hka00_3]
/-- NeverAgain$TextReader.isName -/
def ka_153 : ai_K := (181, 4, (hka00_367, [hka00_6, hka00_607, hka00_9], [], hka00_376), [.inr (15, 1), .inr (15, 2), .inr (15, 3), .inr (15, 5), .inr (15, 6), .inr (15, 7), .inr (15, 8), .inr (15, 9)], [(some hka00_35, hka00_367, []), (some hka00_39, hka00_610, [])])
def hka00_611 : ai_E := [hka00_1, hka00_2, hka00_1, hka00_3, hka00_609, hka00_4, hka00_1, hka00_3, hka00_324]
def hka00_612 : ai_N := (.ofNat 0, .ofNat 5, [(8, .ofNat 0, .ofNat 0)])
def hka00_613 : ai_V := .inl (false, hka00_612)
def hka00_614 : ai_N := (.ofNat 5, .ofNat 400, [(4, .ofNat 0, .ofNat 0)])
def hka00_615 : ai_V := .inl (false, hka00_614)
def hka00_616 : ai_C := .inr (.inr (5, [hka00_11, hka00_258, hka00_369, hka00_371, hka00_68, hka00_337, hka00_615, hka00_373, hka00_80, hka00_82]))
def hka00_617 : Bool × Option ai_C := (false, some hka00_616)
def hka00_618 : ai_W := [hka00_10, hka00_10, hka00_10, hka00_10, hka00_10, hka00_10, hka00_10, hka00_10, hka00_10, hka00_10, hka00_10, hka00_10, hka00_10, hka00_10, hka00_10, hka00_617, hka00_32, hka00_10, hka00_10, hka00_10, hka00_10, hka00_10, hka00_10, hka00_10, hka00_10, hka00_10, hka00_10, hka00_10, hka00_10, hka00_10, hka00_10, hka00_10, hka00_10, hka00_10, hka00_10, hka00_10, hka00_10, hka00_10, hka00_10, hka00_10, hka00_10, hka00_10, hka00_10, hka00_10, hka00_10, hka00_10, hka00_10, hka00_10, hka00_10, hka00_10, hka00_10, hka00_10, hka00_10, hka00_10, hka00_10, hka00_10, hka00_10, hka00_10, hka00_10, hka00_10, hka00_10, hka00_10, hka00_10, hka00_10, hka00_10, hka00_10, hka00_10, hka00_10, hka00_10, hka00_10, hka00_10, hka00_10, hka00_10, hka00_10, hka00_10, hka00_10]
def kan_153 : List ai_Nd := [(20, (hka00_611, [hka00_6, hka00_607, hka00_613], [], hka00_618), [.inl 2], [.inl 99979, .inl 1, .inr (true, .ofNat 5, 8), .inl 100000])]
set_option maxRecDepth 1000000 in
theorem kak_153 : ai_ck [ka_131, ka_152, ka_9] [] ka_153 [.inl 100000, .inl 0, .inl 0, .inl 0] kan_153 18 = true := by decide +kernel
theorem kah_153 : ai_holds ka_153 := ai_thm kak_153 (ai_cons kah_131 (ai_cons kah_152 (ai_cons kah_9 ai_nil)))
def hka00_619 : ai_V := .inr (some (.retAddr 21))
/-- java/lang/String.coder -/
def ka_154 : ai_K := (215, 0, ([], [hka00_619], [], hka00_266), [], [(some hka00_35, [], [])])
def kan_154 : List ai_Nd := []
set_option maxRecDepth 1000000 in
theorem kak_154 : ai_ck [] [] ka_154 [.inl 100000] kan_154 7 = true := by decide +kernel
theorem kah_154 : ai_holds ka_154 := ai_thm kak_154 ai_nil
/-- java/lang/String.length -/
def ka_155 : ai_K := (208, 1, ([], [hka00_619], [], hka00_266), [], [(some hka00_307, [], [])])
def kan_155 : List ai_Nd := []
set_option maxRecDepth 1000000 in
theorem kak_155 : ai_ck [ka_154] [] ka_155 [.inl 100000] kan_155 8 = true := by decide +kernel
theorem kah_155 : ai_holds ka_155 := ai_thm kak_155 (ai_cons kah_154 ai_nil)
/-- java/lang/String.isLatin1 -/
def ka_156 : ai_K := (216, 0, ([], [hka00_619], [], hka00_266), [], [(some hka00_39, [], [])])
def kan_156 : List ai_Nd := []
set_option maxRecDepth 1000000 in
theorem kak_156 : ai_ck [] [] ka_156 [.inl 100000] kan_156 9 = true := by decide +kernel
theorem kah_156 : ai_holds ka_156 := ai_thm kak_156 ai_nil
def hka00_620 : ai_V := .inr (some (.retAddr 22))
/-- java/lang/StringLatin1.charAt -/
def ka_163 : ai_K := (217, 2, ([hka00_4], [hka00_620, hka00_412], [], hka00_266), [.inl 1], [(some hka00_415, [hka00_4], [])])
def kan_163 : List ai_Nd := []
set_option maxRecDepth 1000000 in
theorem kak_163 : ai_ck [ka_33] [] ka_163 [.inl 100000] kan_163 12 = true := by decide +kernel
theorem kah_163 : ai_holds ka_163 := ai_thm kak_163 (ai_cons kah_33 ai_nil)
/-- java/lang/String.charAt -/
def ka_164 : ai_K := (209, 3, ([hka00_4], [hka00_619, hka00_412], [], hka00_266), [.inl 1], [(some hka00_415, [hka00_4], [])])
def kan_164 : List ai_Nd := []
set_option maxRecDepth 1000000 in
theorem kak_164 : ai_ck [ka_156, ka_163] [] ka_164 [.inl 100000] kan_164 9 = true := by decide +kernel
theorem kah_164 : ai_holds ka_164 := ai_thm kak_164 (ai_cons kah_156 (ai_cons kah_163 ai_nil))
/-- NeverAgain$TextReader.isName -/
def ka_165 : ai_K := (181, 4, (hka00_367, [hka00_6, hka00_619, hka00_9], [], hka00_376), [.inr (15, 1), .inr (15, 2), .inr (15, 3), .inr (15, 5), .inr (15, 6), .inr (15, 7), .inr (15, 8), .inr (15, 9)], [(some hka00_35, hka00_367, []), (some hka00_39, hka00_417, [])])
def kan_165 : List ai_Nd := [(20, (hka00_418, [hka00_6, hka00_619, hka00_420], [], hka00_425), [.inl 2], [.inl 99979, .inl 1, .inr (true, .ofNat 4, 8), .inl 100000])]
set_option maxRecDepth 1000000 in
theorem kak_165 : ai_ck [ka_155, ka_164, ka_9] [] ka_165 [.inl 100000, .inl 0, .inl 0, .inl 0] kan_165 18 = true := by decide +kernel
theorem kah_165 : ai_holds ka_165 := ai_thm kak_165 (ai_cons kah_155 (ai_cons kah_164 (ai_cons kah_9 ai_nil)))
def hka00_621 : ai_V := .inr (some (.retAddr 23))
/-- java/lang/String.coder -/
def ka_166 : ai_K := (215, 0, ([], [hka00_621], [], hka00_266), [], [(some hka00_35, [], [])])
def kan_166 : List ai_Nd := []
set_option maxRecDepth 1000000 in
theorem kak_166 : ai_ck [] [] ka_166 [.inl 100000] kan_166 7 = true := by decide +kernel
theorem kah_166 : ai_holds ka_166 := ai_thm kak_166 ai_nil
/-- java/lang/String.length -/
def ka_167 : ai_K := (208, 1, ([], [hka00_621], [], hka00_266), [], [(some hka00_307, [], [])])
def kan_167 : List ai_Nd := []
set_option maxRecDepth 1000000 in
theorem kak_167 : ai_ck [ka_166] [] ka_167 [.inl 100000] kan_167 8 = true := by decide +kernel
theorem kah_167 : ai_holds ka_167 := ai_thm kak_167 (ai_cons kah_166 ai_nil)
/-- java/lang/String.isLatin1 -/
def ka_168 : ai_K := (216, 0, ([], [hka00_621], [], hka00_266), [], [(some hka00_39, [], [])])
def kan_168 : List ai_Nd := []
set_option maxRecDepth 1000000 in
theorem kak_168 : ai_ck [] [] ka_168 [.inl 100000] kan_168 9 = true := by decide +kernel
theorem kah_168 : ai_holds ka_168 := ai_thm kak_168 ai_nil
def hka00_622 : ai_V := .inr (some (.retAddr 24))
/-- java/lang/StringLatin1.charAt -/
def ka_175 : ai_K := (217, 2, ([hka00_4], [hka00_622, hka00_412], [], hka00_266), [.inl 1], [(some hka00_415, [hka00_4], [])])
def kan_175 : List ai_Nd := []
set_option maxRecDepth 1000000 in
theorem kak_175 : ai_ck [ka_33] [] ka_175 [.inl 100000] kan_175 12 = true := by decide +kernel
theorem kah_175 : ai_holds ka_175 := ai_thm kak_175 (ai_cons kah_33 ai_nil)
/-- java/lang/String.charAt -/
def ka_176 : ai_K := (209, 3, ([hka00_4], [hka00_621, hka00_412], [], hka00_266), [.inl 1], [(some hka00_415, [hka00_4], [])])
def kan_176 : List ai_Nd := []
set_option maxRecDepth 1000000 in
theorem kak_176 : ai_ck [ka_168, ka_175] [] ka_176 [.inl 100000] kan_176 9 = true := by decide +kernel
theorem kah_176 : ai_holds ka_176 := ai_thm kak_176 (ai_cons kah_168 (ai_cons kah_175 ai_nil))
/-- NeverAgain$TextReader.isName -/
def ka_177 : ai_K := (181, 4, (hka00_367, [hka00_6, hka00_621, hka00_9], [], hka00_376), [.inr (15, 1), .inr (15, 2), .inr (15, 3), .inr (15, 5), .inr (15, 6), .inr (15, 7), .inr (15, 8), .inr (15, 9)], [(some hka00_35, hka00_367, []), (some hka00_39, hka00_417, [])])
def kan_177 : List ai_Nd := [(20, (hka00_418, [hka00_6, hka00_621, hka00_420], [], hka00_425), [.inl 2], [.inl 99979, .inl 1, .inr (true, .ofNat 4, 8), .inl 100000])]
set_option maxRecDepth 1000000 in
theorem kak_177 : ai_ck [ka_167, ka_176, ka_9] [] ka_177 [.inl 100000, .inl 0, .inl 0, .inl 0] kan_177 18 = true := by decide +kernel
theorem kah_177 : ai_holds ka_177 := ai_thm kak_177 (ai_cons kah_167 (ai_cons kah_176 (ai_cons kah_9 ai_nil)))
def hka00_623 : ai_C := .inr (.inr (5, [hka00_11, hka00_473, hka00_491, hka00_475, hka00_68, hka00_391, hka00_469, hka00_39, hka00_475, hka00_391]))
def hka00_624 : ai_N := (.ofNat 0, .ofNat 2, [])
def hka00_625 : ai_V := .inl (false, hka00_624)
def hka00_626 : ai_C := .inr (.inr (6, [hka00_299, hka00_310, hka00_326, hka00_327, hka00_328, hka00_329, hka00_331, hka00_333, hka00_335, hka00_337, hka00_625, hka00_339, hka00_341, hka00_343]))
def hka00_627 : ai_N := (.ofNat 4, .ofNat 400, [(12, .ofNat 0, .ofNat 400)])
def hka00_628 : ai_V := .inl (false, hka00_627)
def hka00_629 : ai_C := .inr (.inr (5, [hka00_11, hka00_473, hka00_350, hka00_628, hka00_68, hka00_391, hka00_628, hka00_380, hka00_628, hka00_464]))
def hka00_630 : ai_N := (.ofNat 5, .ofNat 400, [(12, .ofNat 1, .ofNat 400)])
def hka00_631 : ai_V := .inl (false, hka00_630)
def hka00_632 : ai_N := (.ofNat 4, .ofNat 399, [(12, .ofNat 0, .ofNat 399)])
def hka00_633 : ai_V := .inl (false, hka00_632)
def hka00_634 : ai_C := .inr (.inr (5, [hka00_11, hka00_473, hka00_456, hka00_88, hka00_68, hka00_391, hka00_631, hka00_350, hka00_633, hka00_464]))
def hka00_635 : ai_C := .inr (.inr (5, [hka00_11, hka00_473, hka00_350, hka00_633, hka00_68, hka00_391, hka00_628, hka00_35, hka00_633, hka00_464]))
def hka00_636 : ai_C := .inr (.inr (5, [hka00_11, hka00_473, hka00_491, hka00_633, hka00_68, hka00_391, hka00_628, hka00_39, hka00_633, hka00_391]))
/-- NeverAgain$TextReader.bookLine -/
def ka_178 : ai_K := (186, 5, (hka00_454, [hka00_6], [], hka00_467), [.inr (8, 6), .inr (8, 7), .inr (8, 8), .inr (8, 9), .inr (8, 10), .inr (8, 11), .inr (8, 12), .inr (8, 13), .inr (15, 1), .inr (15, 2), .inr (15, 3), .inr (15, 5), .inr (15, 6), .inr (15, 7), .inr (15, 8), .inr (15, 9)], [(some hka00_35, hka00_471, [(15, hka00_623)]), (some hka00_35, hka00_471, [(8, hka00_626), (15, hka00_629)]), (some hka00_39, hka00_471, [(8, hka00_626), (15, hka00_634)]), (some hka00_35, hka00_471, [(8, hka00_626), (15, hka00_635)]), (some hka00_35, hka00_471, [(8, hka00_626), (15, hka00_636)]), (some hka00_35, hka00_471, [(15, hka00_481)]), (some hka00_35, hka00_471, [(15, hka00_478)]), (some hka00_35, hka00_454, [(15, hka00_470)]), (some hka00_35, hka00_454, [(15, hka00_494)])])
def kan_178 : List ai_Nd := []
set_option maxRecDepth 1000000 in
theorem kak_178 : ai_ck [ka_129, ka_42, ka_16, ka_15, ka_153, ka_165, ka_177] [] ka_178 [.inl 100000] kan_178 37 = true := by decide +kernel
theorem kah_178 : ai_holds ka_178 := ai_thm kak_178 (ai_cons kah_129 (ai_cons kah_42 (ai_cons kah_16 (ai_cons kah_15 (ai_cons kah_153 (ai_cons kah_165 (ai_cons kah_177 ai_nil)))))))
def hka00_637 : ai_V := .inr (some (.retAddr 11))
/-- java/lang/String.coder -/
def ka_179 : ai_K := (215, 0, ([], [hka00_637], [], hka00_266), [], [(some hka00_35, [], [])])
def kan_179 : List ai_Nd := []
set_option maxRecDepth 1000000 in
theorem kak_179 : ai_ck [] [] ka_179 [.inl 100000] kan_179 7 = true := by decide +kernel
theorem kah_179 : ai_holds ka_179 := ai_thm kak_179 ai_nil
/-- java/lang/String.length -/
def ka_180 : ai_K := (208, 1, ([], [hka00_637], [], hka00_266), [], [(some hka00_307, [], [])])
def kan_180 : List ai_Nd := []
set_option maxRecDepth 1000000 in
theorem kak_180 : ai_ck [ka_179] [] ka_180 [.inl 100000] kan_180 8 = true := by decide +kernel
theorem kah_180 : ai_holds ka_180 := ai_thm kak_180 (ai_cons kah_179 ai_nil)
/-- java/lang/String.isLatin1 -/
def ka_181 : ai_K := (216, 0, ([], [hka00_637], [], hka00_266), [], [(some hka00_39, [], [])])
def kan_181 : List ai_Nd := []
set_option maxRecDepth 1000000 in
theorem kak_181 : ai_ck [] [] ka_181 [.inl 100000] kan_181 9 = true := by decide +kernel
theorem kah_181 : ai_holds ka_181 := ai_thm kak_181 ai_nil
def hka00_638 : ai_V := .inr (some (.retAddr 12))
/-- java/lang/StringLatin1.charAt -/
def ka_188 : ai_K := (217, 2, ([hka00_4], [hka00_638, hka00_412], [], hka00_266), [.inl 1], [(some hka00_415, [hka00_4], [])])
def kan_188 : List ai_Nd := []
set_option maxRecDepth 1000000 in
theorem kak_188 : ai_ck [ka_33] [] ka_188 [.inl 100000] kan_188 12 = true := by decide +kernel
theorem kah_188 : ai_holds ka_188 := ai_thm kak_188 (ai_cons kah_33 ai_nil)
/-- java/lang/String.charAt -/
def ka_189 : ai_K := (209, 3, ([hka00_4], [hka00_637, hka00_412], [], hka00_266), [.inl 1], [(some hka00_415, [hka00_4], [])])
def kan_189 : List ai_Nd := []
set_option maxRecDepth 1000000 in
theorem kak_189 : ai_ck [ka_181, ka_188] [] ka_189 [.inl 100000] kan_189 9 = true := by decide +kernel
theorem kah_189 : ai_holds ka_189 := ai_thm kak_189 (ai_cons kah_181 (ai_cons kah_188 ai_nil))
/-- NeverAgain$TextReader.isName -/
def ka_190 : ai_K := (181, 4, (hka00_367, [hka00_6, hka00_637, hka00_9], [], hka00_376), [.inr (15, 1), .inr (15, 2), .inr (15, 3), .inr (15, 5), .inr (15, 6), .inr (15, 7), .inr (15, 8), .inr (15, 9)], [(some hka00_35, hka00_367, []), (some hka00_39, hka00_417, [])])
def kan_190 : List ai_Nd := [(20, (hka00_418, [hka00_6, hka00_637, hka00_420], [], hka00_425), [.inl 2], [.inl 99979, .inl 1, .inr (true, .ofNat 4, 8), .inl 100000])]
set_option maxRecDepth 1000000 in
theorem kak_190 : ai_ck [ka_180, ka_189, ka_9] [] ka_190 [.inl 100000, .inl 0, .inl 0, .inl 0] kan_190 18 = true := by decide +kernel
theorem kah_190 : ai_holds ka_190 := ai_thm kak_190 (ai_cons kah_180 (ai_cons kah_189 (ai_cons kah_9 ai_nil)))
def hka00_639 : Int × Int := (.ofNat 1, .ofNat 16)
def hka00_640 : ai_E := [hka00_1, hka00_2, hka00_1, hka00_3, hka00_1, hka00_4, hka00_1, hka00_639]
/-- NeverAgain$TextReader.inBounds -/
def ka_191 : ai_K := (218, 1, (hka00_367, [hka00_6, hka00_39, hka00_432], [], hka00_427), [.inr (15, 1), .inr (15, 2), .inr (15, 3), .inr (15, 5), .inr (15, 6), .inr (15, 7), .inr (15, 8), .inr (15, 9)], [(some hka00_35, hka00_434, [(15, hka00_437)]), (some hka00_39, hka00_640, []), (some hka00_35, hka00_519, [(15, hka00_522)])])
def kan_191 : List ai_Nd := []
set_option maxRecDepth 1000000 in
theorem kak_191 : ai_ck [ka_39] [] ka_191 [.inl 100000] kan_191 17 = true := by decide +kernel
theorem kah_191 : ai_holds ka_191 := ai_thm kak_191 (ai_cons kah_39 ai_nil)
def hka00_641 : ai_N := (.ofNat 1, .ofNat 16, [])
def hka00_642 : ai_V := .inl (false, hka00_641)
def hka00_643 : ai_C := .inr (.inr (5, [hka00_11, hka00_296, hka00_369, hka00_371, hka00_68, hka00_337, hka00_389, hka00_39, hka00_386, hka00_642]))
/-- NeverAgain$TextReader.figures -/
def ka_192 : ai_K := (211, 2, (hka00_367, [hka00_6, hka00_39, hka00_432], [], hka00_376), [.inr (15, 1), .inr (15, 2), .inr (15, 3), .inr (15, 5), .inr (15, 6), .inr (15, 7), .inr (15, 8), .inr (15, 9)], [(some hka00_35, hka00_382, [(15, hka00_446)]), (some hka00_39, hka00_382, [(15, hka00_643)]), (some hka00_35, hka00_382, [(15, hka00_450)]), (some hka00_35, hka00_382, [(15, hka00_451)]), (some hka00_35, hka00_367, [(15, hka00_452)])])
def kan_192 : List ai_Nd := []
set_option maxRecDepth 1000000 in
theorem kak_192 : ai_ck [ka_191, ka_16, ka_15] [] ka_192 [.inl 100000] kan_192 14 = true := by decide +kernel
theorem kah_192 : ai_holds ka_192 := ai_thm kak_192 (ai_cons kah_191 (ai_cons kah_16 (ai_cons kah_15 ai_nil)))
def hka00_644 : Int × Int := (.ofNat 4, .ofNat 2147483647)
def hka00_645 : ai_E := [hka00_1, hka00_2, hka00_1, hka00_3, hka00_1, hka00_4, hka00_1, hka00_644]
def hka00_646 : ai_N := (.ofNat 4, .ofNat 2147483647, [(7, .ofNat 0, .ofNat 0)])
def hka00_647 : ai_V := .inl (false, hka00_646)
def hka00_648 : ai_C := .inr (.inr (5, [hka00_11, hka00_258, hka00_380, hka00_80, hka00_68, hka00_337, hka00_76, hka00_373, hka00_80, hka00_647]))
def hka00_649 : ai_E := [hka00_1, hka00_2, hka00_1, hka00_3, hka00_1, hka00_4, hka00_1, hka00_4]
/-- NeverAgain$TextReader.inBounds -/
def ka_193 : ai_K := (218, 1, (hka00_367, [hka00_6, hka00_35, hka00_380], [], hka00_427), [.inr (15, 1), .inr (15, 2), .inr (15, 3), .inr (15, 5), .inr (15, 6), .inr (15, 7), .inr (15, 8), .inr (15, 9)], [(some hka00_35, hka00_645, [(15, hka00_648)]), (some hka00_39, hka00_649, []), (some hka00_35, hka00_586, [(15, hka00_589)])])
def kan_193 : List ai_Nd := []
set_option maxRecDepth 1000000 in
theorem kak_193 : ai_ck [ka_39] [] ka_193 [.inl 100000] kan_193 17 = true := by decide +kernel
theorem kah_193 : ai_holds ka_193 := ai_thm kak_193 (ai_cons kah_39 ai_nil)
def hka00_650 : ai_N := (.ofNat 0, .ofNat 3, [])
def hka00_651 : ai_V := .inl (false, hka00_650)
def hka00_652 : ai_C := .inr (.inr (5, [hka00_11, hka00_296, hka00_369, hka00_371, hka00_68, hka00_337, hka00_389, hka00_39, hka00_386, hka00_651]))
/-- NeverAgain$TextReader.figures -/
def ka_194 : ai_K := (211, 2, (hka00_367, [hka00_6, hka00_35, hka00_380], [], hka00_376), [.inr (15, 1), .inr (15, 2), .inr (15, 3), .inr (15, 5), .inr (15, 6), .inr (15, 7), .inr (15, 8), .inr (15, 9)], [(some hka00_35, hka00_382, [(15, hka00_446)]), (some hka00_39, hka00_382, [(15, hka00_652)]), (some hka00_35, hka00_382, [(15, hka00_450)]), (some hka00_35, hka00_382, [(15, hka00_451)]), (some hka00_35, hka00_367, [(15, hka00_452)])])
def kan_194 : List ai_Nd := []
set_option maxRecDepth 1000000 in
theorem kak_194 : ai_ck [ka_193, ka_16, ka_15] [] ka_194 [.inl 100000] kan_194 14 = true := by decide +kernel
theorem kah_194 : ai_holds ka_194 := ai_thm kak_194 (ai_cons kah_193 (ai_cons kah_16 (ai_cons kah_15 ai_nil)))
def hka00_653 : ai_W := [hka00_10, hka00_10, hka00_10, hka00_10, hka00_10, hka00_10, hka00_10, hka00_10, hka00_345, hka00_10, hka00_314, hka00_10, hka00_10, hka00_10, hka00_10, hka00_466, hka00_32, hka00_10, hka00_10, hka00_10, hka00_10, hka00_10, hka00_10, hka00_10, hka00_10, hka00_10, hka00_10, hka00_10, hka00_10, hka00_10, hka00_10, hka00_10, hka00_10, hka00_10, hka00_10, hka00_10, hka00_10, hka00_10, hka00_10, hka00_10, hka00_10, hka00_10, hka00_10, hka00_10, hka00_10, hka00_10, hka00_10, hka00_10, hka00_10, hka00_10, hka00_10, hka00_10, hka00_10, hka00_10, hka00_10, hka00_10, hka00_10, hka00_10, hka00_10, hka00_10, hka00_10, hka00_10, hka00_10, hka00_10, hka00_10, hka00_10, hka00_10, hka00_10, hka00_10, hka00_10, hka00_10, hka00_10, hka00_10, hka00_10, hka00_10, hka00_10]
def hka00_654 : ai_C := .inr (.inr (5, [hka00_11, hka00_84, hka00_350, hka00_469, hka00_68, hka00_90, hka00_469, hka00_380, hka00_469, hka00_391]))
def hka00_655 : ai_C := .inr (.inr (5, [hka00_11, hka00_473, hka00_350, hka00_475, hka00_68, hka00_90, hka00_477, hka00_350, hka00_475, hka00_391]))
def hka00_656 : ai_C := .inr (.inr (5, [hka00_11, hka00_473, hka00_350, hka00_475, hka00_68, hka00_90, hka00_480, hka00_35, hka00_475, hka00_391]))
def hka00_657 : ai_C := .inr (.inr (5, [hka00_11, hka00_473, hka00_524, hka00_475, hka00_68, hka00_90, hka00_469, hka00_39, hka00_475, hka00_391]))
def hka00_658 : ai_C := .inr (.inr (5, [hka00_11, hka00_473, hka00_350, hka00_480, hka00_68, hka00_90, hka00_480, hka00_380, hka00_480, hka00_651]))
def hka00_659 : ai_C := .inr (.inr (5, [hka00_11, hka00_473, hka00_456, hka00_88, hka00_68, hka00_90, hka00_485, hka00_350, hka00_487, hka00_651]))
def hka00_660 : ai_C := .inr (.inr (5, [hka00_11, hka00_473, hka00_350, hka00_487, hka00_68, hka00_90, hka00_480, hka00_35, hka00_487, hka00_651]))
def hka00_661 : ai_C := .inr (.inr (5, [hka00_11, hka00_473, hka00_491, hka00_487, hka00_68, hka00_90, hka00_480, hka00_39, hka00_487, hka00_391]))
/-- NeverAgain$TextReader.pageLine -/
def ka_195 : ai_K := (187, 3, (hka00_454, [hka00_6, hka00_9], [], hka00_653), [.inr (8, 6), .inr (8, 7), .inr (8, 8), .inr (8, 9), .inr (8, 10), .inr (8, 11), .inr (8, 12), .inr (8, 13), .inr (15, 1), .inr (15, 2), .inr (15, 3), .inr (15, 5), .inr (15, 6), .inr (15, 7), .inr (15, 8), .inr (15, 9)], [(some hka00_35, hka00_454, [(15, hka00_654)]), (some hka00_35, hka00_471, [(15, hka00_655)]), (some hka00_35, hka00_471, [(15, hka00_656)]), (some hka00_35, hka00_471, [(15, hka00_657)]), (some hka00_35, hka00_471, [(10, hka00_313), (15, hka00_658)]), (some hka00_39, hka00_471, [(10, hka00_313), (15, hka00_659)]), (some hka00_35, hka00_471, [(10, hka00_313), (15, hka00_660)]), (some hka00_35, hka00_471, [(10, hka00_313), (15, hka00_661)])])
def kan_195 : List ai_Nd := []
set_option maxRecDepth 1000000 in
theorem kak_195 : ai_ck [ka_42, ka_192, ka_194, ka_37] [] ka_195 [.inl 100000] kan_195 31 = true := by decide +kernel
theorem kah_195 : ai_holds ka_195 := ai_thm kak_195 (ai_cons kah_42 (ai_cons kah_192 (ai_cons kah_194 (ai_cons kah_37 ai_nil))))
def hka00_662 : ai_V := .inr (some (.retAddr 13))
/-- java/lang/String.coder -/
def ka_196 : ai_K := (215, 0, ([], [hka00_662], [], hka00_266), [], [(some hka00_35, [], [])])
def kan_196 : List ai_Nd := []
set_option maxRecDepth 1000000 in
theorem kak_196 : ai_ck [] [] ka_196 [.inl 100000] kan_196 7 = true := by decide +kernel
theorem kah_196 : ai_holds ka_196 := ai_thm kak_196 ai_nil
/-- java/lang/String.length -/
def ka_197 : ai_K := (208, 1, ([], [hka00_662], [], hka00_266), [], [(some hka00_307, [], [])])
def kan_197 : List ai_Nd := []
set_option maxRecDepth 1000000 in
theorem kak_197 : ai_ck [ka_196] [] ka_197 [.inl 100000] kan_197 8 = true := by decide +kernel
theorem kah_197 : ai_holds ka_197 := ai_thm kak_197 (ai_cons kah_196 ai_nil)
/-- java/lang/String.isLatin1 -/
def ka_198 : ai_K := (216, 0, ([], [hka00_662], [], hka00_266), [], [(some hka00_39, [], [])])
def kan_198 : List ai_Nd := []
set_option maxRecDepth 1000000 in
theorem kak_198 : ai_ck [] [] ka_198 [.inl 100000] kan_198 9 = true := by decide +kernel
theorem kah_198 : ai_holds ka_198 := ai_thm kak_198 ai_nil
def hka00_663 : ai_V := .inr (some (.retAddr 14))
/-- java/lang/StringLatin1.charAt -/
def ka_205 : ai_K := (217, 2, ([hka00_4], [hka00_663, hka00_412], [], hka00_266), [.inl 1], [(some hka00_415, [hka00_4], [])])
def kan_205 : List ai_Nd := []
set_option maxRecDepth 1000000 in
theorem kak_205 : ai_ck [ka_33] [] ka_205 [.inl 100000] kan_205 12 = true := by decide +kernel
theorem kah_205 : ai_holds ka_205 := ai_thm kak_205 (ai_cons kah_33 ai_nil)
/-- java/lang/String.charAt -/
def ka_206 : ai_K := (209, 3, ([hka00_4], [hka00_662, hka00_412], [], hka00_266), [.inl 1], [(some hka00_415, [hka00_4], [])])
def kan_206 : List ai_Nd := []
set_option maxRecDepth 1000000 in
theorem kak_206 : ai_ck [ka_198, ka_205] [] ka_206 [.inl 100000] kan_206 9 = true := by decide +kernel
theorem kah_206 : ai_holds ka_206 := ai_thm kak_206 (ai_cons kah_198 (ai_cons kah_205 ai_nil))
/-- NeverAgain$TextReader.isName -/
def ka_207 : ai_K := (181, 4, (hka00_367, [hka00_6, hka00_662, hka00_9], [], hka00_376), [.inr (15, 1), .inr (15, 2), .inr (15, 3), .inr (15, 5), .inr (15, 6), .inr (15, 7), .inr (15, 8), .inr (15, 9)], [(some hka00_35, hka00_367, []), (some hka00_39, hka00_417, [])])
def kan_207 : List ai_Nd := [(20, (hka00_418, [hka00_6, hka00_662, hka00_420], [], hka00_425), [.inl 2], [.inl 99979, .inl 1, .inr (true, .ofNat 4, 8), .inl 100000])]
set_option maxRecDepth 1000000 in
theorem kak_207 : ai_ck [ka_197, ka_206, ka_9] [] ka_207 [.inl 100000, .inl 0, .inl 0, .inl 0] kan_207 18 = true := by decide +kernel
theorem kah_207 : ai_holds ka_207 := ai_thm kak_207 (ai_cons kah_197 (ai_cons kah_206 (ai_cons kah_9 ai_nil)))
def hka00_664 : ai_E := [hka00_1, hka00_2, hka00_1, hka00_3, hka00_1, hka00_4, hka00_1, hka00_103]
/-- NeverAgain$TextReader.inBounds -/
def ka_208 : ai_K := (218, 1, (hka00_367, [hka00_6, hka00_35, hka00_432], [], hka00_427), [.inr (15, 1), .inr (15, 2), .inr (15, 3), .inr (15, 5), .inr (15, 6), .inr (15, 7), .inr (15, 8), .inr (15, 9)], [(some hka00_35, hka00_434, [(15, hka00_437)]), (some hka00_39, hka00_664, []), (some hka00_35, hka00_586, [(15, hka00_589)])])
def kan_208 : List ai_Nd := []
set_option maxRecDepth 1000000 in
theorem kak_208 : ai_ck [ka_39] [] ka_208 [.inl 100000] kan_208 17 = true := by decide +kernel
theorem kah_208 : ai_holds ka_208 := ai_thm kak_208 (ai_cons kah_39 ai_nil)
def hka00_665 : ai_N := (.ofNat 0, .ofNat 16, [])
def hka00_666 : ai_V := .inl (false, hka00_665)
def hka00_667 : ai_C := .inr (.inr (5, [hka00_11, hka00_296, hka00_369, hka00_371, hka00_68, hka00_337, hka00_389, hka00_39, hka00_386, hka00_666]))
/-- NeverAgain$TextReader.figures -/
def ka_209 : ai_K := (211, 2, (hka00_367, [hka00_6, hka00_35, hka00_432], [], hka00_376), [.inr (15, 1), .inr (15, 2), .inr (15, 3), .inr (15, 5), .inr (15, 6), .inr (15, 7), .inr (15, 8), .inr (15, 9)], [(some hka00_35, hka00_382, [(15, hka00_446)]), (some hka00_39, hka00_382, [(15, hka00_667)]), (some hka00_35, hka00_382, [(15, hka00_450)]), (some hka00_35, hka00_382, [(15, hka00_451)]), (some hka00_35, hka00_367, [(15, hka00_452)])])
def kan_209 : List ai_Nd := []
set_option maxRecDepth 1000000 in
theorem kak_209 : ai_ck [ka_208, ka_16, ka_15] [] ka_209 [.inl 100000] kan_209 14 = true := by decide +kernel
theorem kah_209 : ai_holds ka_209 := ai_thm kak_209 (ai_cons kah_208 (ai_cons kah_16 (ai_cons kah_15 ai_nil)))
def hka00_668 : ai_E := [hka00_3, hka00_101, hka00_102, hka00_3, hka00_3, hka00_3, hka00_323, hka00_324, hka00_56]
def hka00_669 : ai_N := (.negSucc 2147483647, .ofNat 2147483647, [(5, .ofNat 0, .ofNat 0)])
def hka00_670 : ai_V := .inl (false, hka00_669)
def hka00_671 : ai_N := (.ofNat 0, .ofNat 60, [(6, .ofNat 0, .ofNat 0)])
def hka00_672 : ai_V := .inl (false, hka00_671)
def hka00_673 : ai_N := (.ofNat 0, .ofNat 5, [(7, .ofNat 0, .ofNat 0)])
def hka00_674 : ai_V := .inl (false, hka00_673)
def hka00_675 : ai_C := .inr (.inr (6, [hka00_299, hka00_310, hka00_326, hka00_327, hka00_328, hka00_329, hka00_111, hka00_113, hka00_337, hka00_19, hka00_670, hka00_672, hka00_674, hka00_420]))
def hka00_676 : Bool × Option ai_C := (false, some hka00_675)
def hka00_677 : ai_C := .inl (.int, [(60, hka00_300)])
def hka00_678 : Bool × Option ai_C := (false, some hka00_677)
def hka00_679 : ai_W := [hka00_10, hka00_10, hka00_10, hka00_10, hka00_10, hka00_10, hka00_10, hka00_10, hka00_676, hka00_10, hka00_10, hka00_678, hka00_10, hka00_10, hka00_10, hka00_10, hka00_10, hka00_10, hka00_10, hka00_10, hka00_10, hka00_10, hka00_10, hka00_10, hka00_10, hka00_10, hka00_10, hka00_10, hka00_10, hka00_10, hka00_10, hka00_10, hka00_10, hka00_10, hka00_10, hka00_10, hka00_10, hka00_10, hka00_10, hka00_10, hka00_10, hka00_10, hka00_10, hka00_10, hka00_10, hka00_10, hka00_10, hka00_10, hka00_10, hka00_10, hka00_10, hka00_10, hka00_10, hka00_10, hka00_10, hka00_10, hka00_10, hka00_10, hka00_10, hka00_10, hka00_10, hka00_10, hka00_10, hka00_10, hka00_10, hka00_10, hka00_10, hka00_10, hka00_10, hka00_10, hka00_10, hka00_10, hka00_10, hka00_10, hka00_10, hka00_10]
def hka00_680 : Int × Int := (.ofNat 60, .ofNat 60)
def hka00_681 : ai_E := [hka00_3, hka00_101, hka00_102, hka00_3, hka00_3, hka00_3, hka00_680, hka00_324, hka00_56]
def hka00_682 : Int × Int := (.ofNat 0, .ofNat 59)
def hka00_683 : ai_E := [hka00_3, hka00_101, hka00_102, hka00_3, hka00_3, hka00_3, hka00_682, hka00_324, hka00_56]
def hka00_684 : ai_N := (.ofNat 1, .ofNat 60, [(6, .ofNat 1, .ofNat 1)])
def hka00_685 : ai_V := .inl (false, hka00_684)
def hka00_686 : ai_C := .inr (.inr (6, [hka00_299, hka00_310, hka00_326, hka00_327, hka00_328, hka00_329, hka00_111, hka00_113, hka00_337, hka00_19, hka00_670, hka00_685, hka00_674, hka00_420]))
/-- NeverAgain$Told.addDay -/
def ka_210 : ai_K := (112, 0, (hka00_668, [hka00_68, hka00_250], [], hka00_679), [.inl 1, .inr (8, 6), .inr (8, 7), .inr (8, 8), .inr (8, 9), .inr (8, 10), .inr (8, 11), .inr (8, 12), .inr (8, 13)], [(some hka00_35, hka00_681, []), (some hka00_39, hka00_683, [(8, hka00_686), (11, hka00_677)])])
def kan_210 : List ai_Nd := []
set_option maxRecDepth 1000000 in
theorem kak_210 : ai_ck [] [] ka_210 [.inl 100000] kan_210 19 = true := by decide +kernel
theorem kah_210 : ai_holds ka_210 := ai_thm kak_210 ai_nil
/-- NeverAgain$TextReader.moreFigures -/
def ka_211 : ai_K := (213, 2, (hka00_367, [hka00_6, hka00_35, hka00_432], [], hka00_376), [.inr (15, 1), .inr (15, 2), .inr (15, 3), .inr (15, 5), .inr (15, 6), .inr (15, 7), .inr (15, 8), .inr (15, 9)], [(some hka00_35, hka00_382, [(15, hka00_446)]), (some hka00_39, hka00_382, [(15, hka00_667)]), (some hka00_35, hka00_382, [(15, hka00_450)]), (some hka00_35, hka00_382, [(15, hka00_387)]), (some hka00_35, hka00_367, [(15, hka00_452)])])
def kan_211 : List ai_Nd := []
set_option maxRecDepth 1000000 in
theorem kak_211 : ai_ck [ka_208, ka_16, ka_15] [] ka_211 [.inl 100000] kan_211 18 = true := by decide +kernel
theorem kah_211 : ai_holds ka_211 := ai_thm kak_211 (ai_cons kah_208 (ai_cons kah_16 (ai_cons kah_15 ai_nil)))
def hka00_687 : ai_W := [hka00_10, hka00_10, hka00_10, hka00_10, hka00_10, hka00_10, hka00_10, hka00_10, hka00_345, hka00_10, hka00_10, hka00_678, hka00_10, hka00_10, hka00_10, hka00_466, hka00_32, hka00_10, hka00_10, hka00_10, hka00_10, hka00_10, hka00_10, hka00_10, hka00_10, hka00_10, hka00_10, hka00_10, hka00_10, hka00_10, hka00_10, hka00_10, hka00_10, hka00_10, hka00_10, hka00_10, hka00_10, hka00_10, hka00_10, hka00_10, hka00_10, hka00_10, hka00_10, hka00_10, hka00_10, hka00_10, hka00_10, hka00_10, hka00_10, hka00_10, hka00_10, hka00_10, hka00_10, hka00_10, hka00_10, hka00_10, hka00_10, hka00_10, hka00_10, hka00_10, hka00_10, hka00_10, hka00_10, hka00_10, hka00_10, hka00_10, hka00_10, hka00_10, hka00_10, hka00_10, hka00_10, hka00_10, hka00_10, hka00_10, hka00_10, hka00_10]
def hka00_688 : ai_N := (.ofNat 60, .ofNat 60, [(5, .ofNat 0, .ofNat 60)])
def hka00_689 : ai_V := .inl (false, hka00_688)
def hka00_690 : ai_C := .inr (.inr (6, [hka00_299, hka00_310, hka00_326, hka00_327, hka00_328, hka00_329, hka00_331, hka00_333, hka00_335, hka00_337, hka00_19, hka00_689, hka00_341, hka00_343]))
def hka00_691 : ai_C := .inr (.inr (5, [hka00_11, hka00_84, hka00_539, hka00_469, hka00_68, hka00_90, hka00_469, hka00_651, hka00_469, hka00_391]))
def hka00_692 : ai_N := (.ofNat 0, .ofNat 60, [(5, .ofNat 0, .ofNat 60)])
def hka00_693 : ai_V := .inl (false, hka00_692)
def hka00_694 : ai_C := .inr (.inr (6, [hka00_299, hka00_310, hka00_326, hka00_327, hka00_328, hka00_329, hka00_331, hka00_333, hka00_335, hka00_337, hka00_19, hka00_693, hka00_341, hka00_343]))
def hka00_695 : ai_N := (.ofNat 0, .ofNat 400, [])
def hka00_696 : ai_V := .inl (false, hka00_695)
def hka00_697 : ai_C := .inr (.inr (5, [hka00_11, hka00_84, hka00_35, hka00_696, hka00_68, hka00_90, hka00_469, hka00_651, hka00_469, hka00_391]))
def hka00_698 : ai_N := (.ofNat 1, .ofNat 6, [])
def hka00_699 : ai_V := .inl (false, hka00_698)
def hka00_700 : ai_C := .inr (.inr (5, [hka00_11, hka00_84, hka00_699, hka00_696, hka00_68, hka00_90, hka00_469, hka00_651, hka00_469, hka00_391]))
/-- NeverAgain$TextReader.rungLine -/
def ka_212 : ai_K := (188, 3, (hka00_454, [hka00_6, hka00_9, hka00_9], [], hka00_687), [.inr (8, 6), .inr (8, 7), .inr (8, 8), .inr (8, 9), .inr (8, 10), .inr (8, 11), .inr (8, 12), .inr (8, 13), .inr (15, 1), .inr (15, 2), .inr (15, 3), .inr (15, 5), .inr (15, 6), .inr (15, 7), .inr (15, 8), .inr (15, 9)], [(some hka00_35, hka00_454, [(8, hka00_690), (11, hka00_677), (15, hka00_691)]), (some hka00_39, hka00_454, [(8, hka00_694), (11, hka00_677), (15, hka00_697)]), (some hka00_35, hka00_454, [(8, hka00_694), (11, hka00_677), (15, hka00_700)]), (some hka00_39, hka00_454, [(8, hka00_694), (11, hka00_677), (15, hka00_697)]), (some hka00_35, hka00_454, [(8, hka00_694), (11, hka00_677), (15, hka00_700)])])
def hka00_701 : Int × Int := (.ofNat 0, .ofNat 61)
def hka00_702 : ai_E := [hka00_101, hka00_102, hka00_3, hka00_3, hka00_3, hka00_323, hka00_324, hka00_56, hka00_1, hka00_2, hka00_1, hka00_3, hka00_1, hka00_4, hka00_1, hka00_3, hka00_701]
def hka00_703 : ai_N := (.ofNat 0, .ofNat 1, [])
def hka00_704 : ai_V := .inl (false, hka00_703)
def hka00_705 : ai_N := (.ofNat 0, .ofNat 61, [(16, .ofNat 0, .ofNat 0)])
def hka00_706 : ai_V := .inl (false, hka00_705)
def hka00_707 : Bool × Option ai_C := (true, some hka00_694)
def hka00_708 : Bool × Option ai_C := (true, some hka00_677)
def hka00_709 : ai_N := (.ofNat 0, .ofNat 6, [])
def hka00_710 : ai_V := .inl (false, hka00_709)
def hka00_711 : ai_C := .inr (.inr (5, [hka00_11, hka00_84, hka00_710, hka00_696, hka00_68, hka00_90, hka00_469, hka00_651, hka00_469, hka00_391]))
def hka00_712 : Bool × Option ai_C := (true, some hka00_711)
def hka00_713 : ai_W := [hka00_10, hka00_10, hka00_10, hka00_10, hka00_10, hka00_10, hka00_10, hka00_10, hka00_707, hka00_10, hka00_10, hka00_708, hka00_10, hka00_10, hka00_10, hka00_712, hka00_32, hka00_10, hka00_10, hka00_10, hka00_10, hka00_10, hka00_10, hka00_10, hka00_10, hka00_10, hka00_10, hka00_10, hka00_10, hka00_10, hka00_10, hka00_10, hka00_10, hka00_10, hka00_10, hka00_10, hka00_10, hka00_10, hka00_10, hka00_10, hka00_10, hka00_10, hka00_10, hka00_10, hka00_10, hka00_10, hka00_10, hka00_10, hka00_10, hka00_10, hka00_10, hka00_10, hka00_10, hka00_10, hka00_10, hka00_10, hka00_10, hka00_10, hka00_10, hka00_10, hka00_10, hka00_10, hka00_10, hka00_10, hka00_10, hka00_10, hka00_10, hka00_10, hka00_10, hka00_10, hka00_10, hka00_10, hka00_10, hka00_10, hka00_10, hka00_10]
def kan_212 : List ai_Nd := [(10, (hka00_702, [hka00_6, hka00_704, hka00_706], [], hka00_713), [.inl 2], [.inl 99989, .inl 1, .inr (true, .ofNat 61, 16), .inl 100000])]
set_option maxRecDepth 1000000 in
theorem kak_212 : ai_ck [ka_209, ka_211, ka_81, ka_210] [] ka_212 [.inl 100000, .inl 0, .inl 0, .inl 0] kan_212 20 = true := by decide +kernel
theorem kah_212 : ai_holds ka_212 := ai_thm kak_212 (ai_cons kah_209 (ai_cons kah_211 (ai_cons kah_81 (ai_cons kah_210 ai_nil))))
def hka00_714 : ai_V := .inr (some (.retAddr 15))
/-- java/lang/String.coder -/
def ka_213 : ai_K := (215, 0, ([], [hka00_714], [], hka00_266), [], [(some hka00_35, [], [])])
def kan_213 : List ai_Nd := []
set_option maxRecDepth 1000000 in
theorem kak_213 : ai_ck [] [] ka_213 [.inl 100000] kan_213 7 = true := by decide +kernel
theorem kah_213 : ai_holds ka_213 := ai_thm kak_213 ai_nil
/-- java/lang/String.length -/
def ka_214 : ai_K := (208, 1, ([], [hka00_714], [], hka00_266), [], [(some hka00_380, [], [])])
def kan_214 : List ai_Nd := []
set_option maxRecDepth 1000000 in
theorem kak_214 : ai_ck [ka_213] [] ka_214 [.inl 100000] kan_214 8 = true := by decide +kernel
theorem kah_214 : ai_holds ka_214 := ai_thm kak_214 (ai_cons kah_213 ai_nil)
/-- java/lang/String.isLatin1 -/
def ka_215 : ai_K := (216, 0, ([], [hka00_714], [], hka00_266), [], [(some hka00_39, [], [])])
def kan_215 : List ai_Nd := []
set_option maxRecDepth 1000000 in
theorem kak_215 : ai_ck [] [] ka_215 [.inl 100000] kan_215 9 = true := by decide +kernel
theorem kah_215 : ai_holds ka_215 := ai_thm kak_215 ai_nil
def hka00_715 : ai_V := .inr (some (.retAddr 16))
/-- java/lang/StringLatin1.charAt -/
def ka_220 : ai_K := (217, 2, ([hka00_563], [hka00_715, hka00_565], [], hka00_266), [.inl 1], [(some hka00_415, [hka00_563], [])])
def kan_220 : List ai_Nd := []
set_option maxRecDepth 1000000 in
theorem kak_220 : ai_ck [ka_95] [] ka_220 [.inl 100000] kan_220 12 = true := by decide +kernel
theorem kah_220 : ai_holds ka_220 := ai_thm kak_220 (ai_cons kah_95 ai_nil)
/-- java/lang/String.charAt -/
def ka_221 : ai_K := (209, 3, ([hka00_563], [hka00_714, hka00_565], [], hka00_266), [.inl 1], [(some hka00_415, [hka00_563], [])])
def kan_221 : List ai_Nd := []
set_option maxRecDepth 1000000 in
theorem kak_221 : ai_ck [ka_215, ka_220] [] ka_221 [.inl 100000] kan_221 9 = true := by decide +kernel
theorem kah_221 : ai_holds ka_221 := ai_thm kak_221 (ai_cons kah_215 (ai_cons kah_220 ai_nil))
/-- NeverAgain$TextReader.isName -/
def ka_222 : ai_K := (181, 4, (hka00_367, [hka00_6, hka00_714, hka00_9], [], hka00_376), [.inr (15, 1), .inr (15, 2), .inr (15, 3), .inr (15, 5), .inr (15, 6), .inr (15, 7), .inr (15, 8), .inr (15, 9)], [(some hka00_35, hka00_367, []), (some hka00_39, hka00_568, [])])
def kan_222 : List ai_Nd := [(20, (hka00_569, [hka00_6, hka00_714, hka00_571], [], hka00_576), [.inl 2], [.inl 99979, .inl 1, .inr (true, .ofNat 3, 8), .inl 100000])]
set_option maxRecDepth 1000000 in
theorem kak_222 : ai_ck [ka_214, ka_221, ka_9] [] ka_222 [.inl 100000, .inl 0, .inl 0, .inl 0] kan_222 18 = true := by decide +kernel
theorem kah_222 : ai_holds ka_222 := ai_thm kak_222 (ai_cons kah_214 (ai_cons kah_221 (ai_cons kah_9 ai_nil)))
def hka00_716 : ai_C := .inl (.int, [(5, hka00_300)])
def hka00_717 : Bool × Option ai_C := (false, some hka00_716)
def hka00_718 : ai_W := [hka00_10, hka00_10, hka00_10, hka00_10, hka00_10, hka00_10, hka00_10, hka00_10, hka00_676, hka00_10, hka00_10, hka00_10, hka00_717, hka00_10, hka00_10, hka00_10, hka00_10, hka00_10, hka00_10, hka00_10, hka00_10, hka00_10, hka00_10, hka00_10, hka00_10, hka00_10, hka00_10, hka00_10, hka00_10, hka00_10, hka00_10, hka00_10, hka00_10, hka00_10, hka00_10, hka00_10, hka00_10, hka00_10, hka00_10, hka00_10, hka00_10, hka00_10, hka00_10, hka00_10, hka00_10, hka00_10, hka00_10, hka00_10, hka00_10, hka00_10, hka00_10, hka00_10, hka00_10, hka00_10, hka00_10, hka00_10, hka00_10, hka00_10, hka00_10, hka00_10, hka00_10, hka00_10, hka00_10, hka00_10, hka00_10, hka00_10, hka00_10, hka00_10, hka00_10, hka00_10, hka00_10, hka00_10, hka00_10, hka00_10, hka00_10, hka00_10]
def hka00_719 : Int × Int := (.ofNat 5, .ofNat 5)
def hka00_720 : ai_E := [hka00_3, hka00_101, hka00_102, hka00_3, hka00_3, hka00_3, hka00_323, hka00_719, hka00_56]
def hka00_721 : ai_E := [hka00_3, hka00_101, hka00_102, hka00_3, hka00_3, hka00_3, hka00_323, hka00_56, hka00_56]
def hka00_722 : ai_N := (.ofNat 1, .ofNat 5, [(7, .ofNat 1, .ofNat 1)])
def hka00_723 : ai_V := .inl (false, hka00_722)
def hka00_724 : ai_C := .inr (.inr (6, [hka00_299, hka00_310, hka00_326, hka00_327, hka00_328, hka00_329, hka00_111, hka00_113, hka00_337, hka00_19, hka00_670, hka00_672, hka00_723, hka00_420]))
/-- NeverAgain$Told.addAsked -/
def ka_223 : ai_K := (117, 0, (hka00_668, [hka00_68, hka00_250], [], hka00_718), [.inl 1, .inr (8, 6), .inr (8, 7), .inr (8, 8), .inr (8, 9), .inr (8, 10), .inr (8, 11), .inr (8, 12), .inr (8, 13)], [(some hka00_35, hka00_720, []), (some hka00_39, hka00_721, [(8, hka00_724), (12, hka00_716)])])
def kan_223 : List ai_Nd := []
set_option maxRecDepth 1000000 in
theorem kak_223 : ai_ck [] [] ka_223 [.inl 100000] kan_223 19 = true := by decide +kernel
theorem kah_223 : ai_holds ka_223 := ai_thm kak_223 ai_nil
/-- NeverAgain$TextReader.moreFigures -/
def ka_224 : ai_K := (213, 2, (hka00_367, [hka00_6, hka00_35, hka00_380], [], hka00_376), [.inr (15, 1), .inr (15, 2), .inr (15, 3), .inr (15, 5), .inr (15, 6), .inr (15, 7), .inr (15, 8), .inr (15, 9)], [(some hka00_35, hka00_382, [(15, hka00_446)]), (some hka00_39, hka00_382, [(15, hka00_652)]), (some hka00_35, hka00_382, [(15, hka00_450)]), (some hka00_35, hka00_382, [(15, hka00_387)]), (some hka00_35, hka00_367, [(15, hka00_452)])])
def kan_224 : List ai_Nd := []
set_option maxRecDepth 1000000 in
theorem kak_224 : ai_ck [ka_193, ka_16, ka_15] [] ka_224 [.inl 100000] kan_224 18 = true := by decide +kernel
theorem kah_224 : ai_holds ka_224 := ai_thm kak_224 (ai_cons kah_193 (ai_cons kah_16 (ai_cons kah_15 ai_nil)))
def hka00_725 : ai_W := [hka00_10, hka00_10, hka00_10, hka00_10, hka00_10, hka00_10, hka00_10, hka00_10, hka00_345, hka00_10, hka00_10, hka00_10, hka00_717, hka00_10, hka00_10, hka00_466, hka00_32, hka00_10, hka00_10, hka00_10, hka00_10, hka00_10, hka00_10, hka00_10, hka00_10, hka00_10, hka00_10, hka00_10, hka00_10, hka00_10, hka00_10, hka00_10, hka00_10, hka00_10, hka00_10, hka00_10, hka00_10, hka00_10, hka00_10, hka00_10, hka00_10, hka00_10, hka00_10, hka00_10, hka00_10, hka00_10, hka00_10, hka00_10, hka00_10, hka00_10, hka00_10, hka00_10, hka00_10, hka00_10, hka00_10, hka00_10, hka00_10, hka00_10, hka00_10, hka00_10, hka00_10, hka00_10, hka00_10, hka00_10, hka00_10, hka00_10, hka00_10, hka00_10, hka00_10, hka00_10, hka00_10, hka00_10, hka00_10, hka00_10, hka00_10, hka00_10]
def hka00_726 : ai_N := (.ofNat 5, .ofNat 5, [(6, .ofNat 0, .ofNat 5)])
def hka00_727 : ai_V := .inl (false, hka00_726)
def hka00_728 : ai_C := .inr (.inr (6, [hka00_299, hka00_310, hka00_326, hka00_327, hka00_328, hka00_329, hka00_331, hka00_333, hka00_335, hka00_337, hka00_19, hka00_339, hka00_727, hka00_343]))
def hka00_729 : ai_N := (.ofNat 0, .ofNat 5, [(6, .ofNat 0, .ofNat 5)])
def hka00_730 : ai_V := .inl (false, hka00_729)
def hka00_731 : ai_C := .inr (.inr (6, [hka00_299, hka00_310, hka00_326, hka00_327, hka00_328, hka00_329, hka00_331, hka00_333, hka00_335, hka00_337, hka00_19, hka00_339, hka00_730, hka00_343]))
/-- NeverAgain$TextReader.askLine -/
def ka_225 : ai_K := (189, 3, (hka00_454, [hka00_6, hka00_9, hka00_9], [], hka00_725), [.inr (8, 6), .inr (8, 7), .inr (8, 8), .inr (8, 9), .inr (8, 10), .inr (8, 11), .inr (8, 12), .inr (8, 13), .inr (15, 1), .inr (15, 2), .inr (15, 3), .inr (15, 5), .inr (15, 6), .inr (15, 7), .inr (15, 8), .inr (15, 9)], [(some hka00_35, hka00_454, [(8, hka00_728), (12, hka00_716), (15, hka00_691)]), (some hka00_39, hka00_454, [(8, hka00_731), (12, hka00_716), (15, hka00_697)]), (some hka00_35, hka00_454, [(8, hka00_731), (12, hka00_716), (15, hka00_700)]), (some hka00_39, hka00_454, [(8, hka00_731), (12, hka00_716), (15, hka00_697)]), (some hka00_35, hka00_454, [(8, hka00_731), (12, hka00_716), (15, hka00_700)])])
def hka00_732 : ai_E := [hka00_101, hka00_102, hka00_3, hka00_3, hka00_3, hka00_323, hka00_324, hka00_56, hka00_1, hka00_2, hka00_1, hka00_3, hka00_1, hka00_4, hka00_1, hka00_3, hka00_2]
def hka00_733 : ai_N := (.ofNat 0, .ofNat 6, [(16, .ofNat 0, .ofNat 0)])
def hka00_734 : ai_V := .inl (false, hka00_733)
def hka00_735 : Bool × Option ai_C := (true, some hka00_731)
def hka00_736 : Bool × Option ai_C := (true, some hka00_716)
def hka00_737 : ai_W := [hka00_10, hka00_10, hka00_10, hka00_10, hka00_10, hka00_10, hka00_10, hka00_10, hka00_735, hka00_10, hka00_10, hka00_10, hka00_736, hka00_10, hka00_10, hka00_712, hka00_32, hka00_10, hka00_10, hka00_10, hka00_10, hka00_10, hka00_10, hka00_10, hka00_10, hka00_10, hka00_10, hka00_10, hka00_10, hka00_10, hka00_10, hka00_10, hka00_10, hka00_10, hka00_10, hka00_10, hka00_10, hka00_10, hka00_10, hka00_10, hka00_10, hka00_10, hka00_10, hka00_10, hka00_10, hka00_10, hka00_10, hka00_10, hka00_10, hka00_10, hka00_10, hka00_10, hka00_10, hka00_10, hka00_10, hka00_10, hka00_10, hka00_10, hka00_10, hka00_10, hka00_10, hka00_10, hka00_10, hka00_10, hka00_10, hka00_10, hka00_10, hka00_10, hka00_10, hka00_10, hka00_10, hka00_10, hka00_10, hka00_10, hka00_10, hka00_10]
def kan_225 : List ai_Nd := [(9, (hka00_732, [hka00_6, hka00_704, hka00_734], [], hka00_737), [.inl 2], [.inl 99990, .inl 1, .inr (true, .ofNat 6, 16), .inl 100000])]
set_option maxRecDepth 1000000 in
theorem kak_225 : ai_ck [ka_194, ka_224, ka_81, ka_223] [] ka_225 [.inl 100000, .inl 0, .inl 0, .inl 0] kan_225 20 = true := by decide +kernel
theorem kah_225 : ai_holds ka_225 := ai_thm kak_225 (ai_cons kah_194 (ai_cons kah_224 (ai_cons kah_81 (ai_cons kah_223 ai_nil))))
def hka00_738 : ai_V := .inr (some (.retAddr 17))
/-- java/lang/String.coder -/
def ka_226 : ai_K := (215, 0, ([], [hka00_738], [], hka00_266), [], [(some hka00_35, [], [])])
def kan_226 : List ai_Nd := []
set_option maxRecDepth 1000000 in
theorem kak_226 : ai_ck [] [] ka_226 [.inl 100000] kan_226 7 = true := by decide +kernel
theorem kah_226 : ai_holds ka_226 := ai_thm kak_226 ai_nil
/-- java/lang/String.length -/
def ka_227 : ai_K := (208, 1, ([], [hka00_738], [], hka00_266), [], [(some hka00_307, [], [])])
def kan_227 : List ai_Nd := []
set_option maxRecDepth 1000000 in
theorem kak_227 : ai_ck [ka_226] [] ka_227 [.inl 100000] kan_227 8 = true := by decide +kernel
theorem kah_227 : ai_holds ka_227 := ai_thm kak_227 (ai_cons kah_226 ai_nil)
/-- java/lang/String.isLatin1 -/
def ka_228 : ai_K := (216, 0, ([], [hka00_738], [], hka00_266), [], [(some hka00_39, [], [])])
def kan_228 : List ai_Nd := []
set_option maxRecDepth 1000000 in
theorem kak_228 : ai_ck [] [] ka_228 [.inl 100000] kan_228 9 = true := by decide +kernel
theorem kah_228 : ai_holds ka_228 := ai_thm kak_228 ai_nil
def hka00_739 : ai_V := .inr (some (.retAddr 18))
/-- java/lang/StringLatin1.charAt -/
def ka_235 : ai_K := (217, 2, ([hka00_4], [hka00_739, hka00_412], [], hka00_266), [.inl 1], [(some hka00_415, [hka00_4], [])])
def kan_235 : List ai_Nd := []
set_option maxRecDepth 1000000 in
theorem kak_235 : ai_ck [ka_33] [] ka_235 [.inl 100000] kan_235 12 = true := by decide +kernel
theorem kah_235 : ai_holds ka_235 := ai_thm kak_235 (ai_cons kah_33 ai_nil)
/-- java/lang/String.charAt -/
def ka_236 : ai_K := (209, 3, ([hka00_4], [hka00_738, hka00_412], [], hka00_266), [.inl 1], [(some hka00_415, [hka00_4], [])])
def kan_236 : List ai_Nd := []
set_option maxRecDepth 1000000 in
theorem kak_236 : ai_ck [ka_228, ka_235] [] ka_236 [.inl 100000] kan_236 9 = true := by decide +kernel
theorem kah_236 : ai_holds ka_236 := ai_thm kak_236 (ai_cons kah_228 (ai_cons kah_235 ai_nil))
/-- NeverAgain$TextReader.isName -/
def ka_237 : ai_K := (181, 4, (hka00_367, [hka00_6, hka00_738, hka00_9], [], hka00_376), [.inr (15, 1), .inr (15, 2), .inr (15, 3), .inr (15, 5), .inr (15, 6), .inr (15, 7), .inr (15, 8), .inr (15, 9)], [(some hka00_35, hka00_367, []), (some hka00_39, hka00_417, [])])
def kan_237 : List ai_Nd := [(20, (hka00_418, [hka00_6, hka00_738, hka00_420], [], hka00_425), [.inl 2], [.inl 99979, .inl 1, .inr (true, .ofNat 4, 8), .inl 100000])]
set_option maxRecDepth 1000000 in
theorem kak_237 : ai_ck [ka_227, ka_236, ka_9] [] ka_237 [.inl 100000, .inl 0, .inl 0, .inl 0] kan_237 18 = true := by decide +kernel
theorem kah_237 : ai_holds ka_237 := ai_thm kak_237 (ai_cons kah_227 (ai_cons kah_236 (ai_cons kah_9 ai_nil)))
def hka00_740 : ai_E := [hka00_1, hka00_2, hka00_1, hka00_3, hka00_1, hka00_4, hka00_1, hka00_56]
/-- NeverAgain$TextReader.inBounds -/
def ka_238 : ai_K := (218, 1, (hka00_367, [hka00_6, hka00_35, hka00_307], [], hka00_427), [.inr (15, 1), .inr (15, 2), .inr (15, 3), .inr (15, 5), .inr (15, 6), .inr (15, 7), .inr (15, 8), .inr (15, 9)], [(some hka00_35, hka00_513, [(15, hka00_516)]), (some hka00_39, hka00_740, []), (some hka00_35, hka00_586, [(15, hka00_589)])])
def kan_238 : List ai_Nd := []
set_option maxRecDepth 1000000 in
theorem kak_238 : ai_ck [ka_39] [] ka_238 [.inl 100000] kan_238 17 = true := by decide +kernel
theorem kah_238 : ai_holds ka_238 := ai_thm kak_238 (ai_cons kah_39 ai_nil)
def hka00_741 : ai_N := (.ofNat 0, .ofNat 4, [])
def hka00_742 : ai_V := .inl (false, hka00_741)
def hka00_743 : ai_C := .inr (.inr (5, [hka00_11, hka00_296, hka00_369, hka00_371, hka00_68, hka00_337, hka00_389, hka00_39, hka00_386, hka00_742]))
/-- NeverAgain$TextReader.figures -/
def ka_239 : ai_K := (211, 2, (hka00_367, [hka00_6, hka00_35, hka00_307], [], hka00_376), [.inr (15, 1), .inr (15, 2), .inr (15, 3), .inr (15, 5), .inr (15, 6), .inr (15, 7), .inr (15, 8), .inr (15, 9)], [(some hka00_35, hka00_382, [(15, hka00_446)]), (some hka00_39, hka00_382, [(15, hka00_743)]), (some hka00_35, hka00_382, [(15, hka00_450)]), (some hka00_35, hka00_382, [(15, hka00_451)]), (some hka00_35, hka00_367, [(15, hka00_452)])])
def kan_239 : List ai_Nd := []
set_option maxRecDepth 1000000 in
theorem kak_239 : ai_ck [ka_238, ka_16, ka_15] [] ka_239 [.inl 100000] kan_239 14 = true := by decide +kernel
theorem kah_239 : ai_holds ka_239 := ai_thm kak_239 (ai_cons kah_238 (ai_cons kah_16 (ai_cons kah_15 ai_nil)))
def hka00_744 : ai_E := [hka00_3, hka00_3, hka00_101, hka00_102, hka00_3, hka00_3, hka00_3, hka00_323, hka00_324, hka00_56]
def hka00_745 : ai_N := (.negSucc 2147483647, .ofNat 2147483647, [(1, .ofNat 0, .ofNat 0)])
def hka00_746 : ai_V := .inl (false, hka00_745)
def hka00_747 : ai_N := (.ofNat 4, .ofNat 16, [(2, .ofNat 0, .ofNat 0)])
def hka00_748 : ai_V := .inl (false, hka00_747)
def hka00_749 : ai_N := (.ofNat 1, .ofNat 4, [(3, .ofNat 0, .ofNat 0)])
def hka00_750 : ai_V := .inl (false, hka00_749)
def hka00_751 : ai_N := (.ofNat 0, .ofNat 60, [(7, .ofNat 0, .ofNat 0)])
def hka00_752 : ai_V := .inl (false, hka00_751)
def hka00_753 : ai_N := (.ofNat 0, .ofNat 4, [(9, .ofNat 0, .ofNat 0)])
def hka00_754 : ai_V := .inl (false, hka00_753)
def hka00_755 : ai_C := .inr (.inr (6, [hka00_299, hka00_310, hka00_326, hka00_327, hka00_328, hka00_329, hka00_748, hka00_750, hka00_19, hka00_670, hka00_125, hka00_752, hka00_613, hka00_754]))
def hka00_756 : Bool × Option ai_C := (false, some hka00_755)
def hka00_757 : ai_W := [hka00_10, hka00_10, hka00_10, hka00_10, hka00_10, hka00_10, hka00_10, hka00_10, hka00_756, hka00_10, hka00_10, hka00_10, hka00_10, hka00_302, hka00_302, hka00_10, hka00_10, hka00_10, hka00_10, hka00_10, hka00_10, hka00_10, hka00_10, hka00_10, hka00_10, hka00_10, hka00_10, hka00_10, hka00_10, hka00_10, hka00_10, hka00_10, hka00_10, hka00_10, hka00_10, hka00_10, hka00_10, hka00_10, hka00_10, hka00_10, hka00_10, hka00_10, hka00_10, hka00_10, hka00_10, hka00_10, hka00_10, hka00_10, hka00_10, hka00_10, hka00_10, hka00_10, hka00_10, hka00_10, hka00_10, hka00_10, hka00_10, hka00_10, hka00_10, hka00_10, hka00_10, hka00_10, hka00_10, hka00_10, hka00_10, hka00_10, hka00_10, hka00_10, hka00_10, hka00_10, hka00_10, hka00_10, hka00_10, hka00_10, hka00_10, hka00_10]
def hka00_758 : Int × Int := (.ofNat 4, .ofNat 4)
def hka00_759 : ai_E := [hka00_3, hka00_3, hka00_101, hka00_102, hka00_3, hka00_3, hka00_3, hka00_323, hka00_324, hka00_758]
def hka00_760 : ai_E := [hka00_3, hka00_3, hka00_101, hka00_102, hka00_3, hka00_3, hka00_3, hka00_323, hka00_324, hka00_4]
def hka00_761 : ai_N := (.ofNat 1, .ofNat 4, [(9, .ofNat 1, .ofNat 1)])
def hka00_762 : ai_V := .inl (false, hka00_761)
def hka00_763 : ai_C := .inr (.inr (6, [hka00_299, hka00_310, hka00_326, hka00_327, hka00_328, hka00_329, hka00_748, hka00_750, hka00_19, hka00_670, hka00_125, hka00_752, hka00_613, hka00_762]))
/-- NeverAgain$Told.addWaiting -/
def ka_240 : ai_K := (136, 0, (hka00_744, [hka00_68, hka00_250, hka00_746], [], hka00_757), [.inl 1, .inl 2, .inr (8, 6), .inr (8, 7), .inr (8, 8), .inr (8, 9), .inr (8, 10), .inr (8, 11), .inr (8, 12), .inr (8, 13)], [(some hka00_35, hka00_759, []), (some hka00_39, hka00_760, [(8, hka00_763), (13, hka00_301), (14, hka00_301)])])
def kan_240 : List ai_Nd := []
set_option maxRecDepth 1000000 in
theorem kak_240 : ai_ck [] [] ka_240 [.inl 100000] kan_240 25 = true := by decide +kernel
theorem kah_240 : ai_holds ka_240 := ai_thm kak_240 ai_nil
def hka00_764 : ai_W := [hka00_10, hka00_10, hka00_10, hka00_10, hka00_10, hka00_10, hka00_10, hka00_10, hka00_345, hka00_10, hka00_10, hka00_10, hka00_10, hka00_302, hka00_302, hka00_466, hka00_32, hka00_10, hka00_10, hka00_10, hka00_10, hka00_10, hka00_10, hka00_10, hka00_10, hka00_10, hka00_10, hka00_10, hka00_10, hka00_10, hka00_10, hka00_10, hka00_10, hka00_10, hka00_10, hka00_10, hka00_10, hka00_10, hka00_10, hka00_10, hka00_10, hka00_10, hka00_10, hka00_10, hka00_10, hka00_10, hka00_10, hka00_10, hka00_10, hka00_10, hka00_10, hka00_10, hka00_10, hka00_10, hka00_10, hka00_10, hka00_10, hka00_10, hka00_10, hka00_10, hka00_10, hka00_10, hka00_10, hka00_10, hka00_10, hka00_10, hka00_10, hka00_10, hka00_10, hka00_10, hka00_10, hka00_10, hka00_10, hka00_10, hka00_10, hka00_10]
def hka00_765 : ai_E := [hka00_101, hka00_102, hka00_3, hka00_3, hka00_3, hka00_323, hka00_324, hka00_758, hka00_1, hka00_2, hka00_1, hka00_3, hka00_1, hka00_4, hka00_1, hka00_3]
def hka00_766 : ai_C := .inr (.inr (5, [hka00_11, hka00_84, hka00_539, hka00_462, hka00_68, hka00_90, hka00_458, hka00_460, hka00_462, hka00_464]))
def hka00_767 : ai_E := [hka00_101, hka00_102, hka00_3, hka00_3, hka00_3, hka00_323, hka00_324, hka00_4, hka00_1, hka00_2, hka00_1, hka00_3, hka00_1, hka00_4, hka00_1, hka00_3]
def hka00_768 : ai_E := [hka00_101, hka00_102, hka00_3, hka00_3, hka00_3, hka00_323, hka00_324, hka00_4, hka00_268, hka00_2, hka00_1, hka00_3, hka00_357, hka00_4, hka00_1, hka00_3]
def hka00_769 : ai_N := (.ofNat 1, .ofNat 4, [(7, .ofNat 1, .ofNat 1)])
def hka00_770 : ai_V := .inl (false, hka00_769)
def hka00_771 : ai_C := .inr (.inr (6, [hka00_299, hka00_310, hka00_326, hka00_327, hka00_328, hka00_329, hka00_331, hka00_333, hka00_335, hka00_337, hka00_19, hka00_339, hka00_341, hka00_770]))
def hka00_772 : ai_C := .inr (.inr (5, [hka00_11, hka00_473, hka00_350, hka00_480, hka00_68, hka00_90, hka00_480, hka00_380, hka00_480, hka00_742]))
def hka00_773 : ai_C := .inr (.inr (5, [hka00_11, hka00_473, hka00_456, hka00_88, hka00_68, hka00_90, hka00_485, hka00_350, hka00_487, hka00_742]))
def hka00_774 : ai_C := .inr (.inr (5, [hka00_11, hka00_473, hka00_350, hka00_487, hka00_68, hka00_90, hka00_480, hka00_35, hka00_487, hka00_742]))
def hka00_775 : ai_C := .inr (.inr (5, [hka00_11, hka00_473, hka00_445, hka00_475, hka00_68, hka00_90, hka00_469, hka00_39, hka00_475, hka00_391]))
/-- NeverAgain$TextReader.waitLine -/
def ka_241 : ai_K := (190, 3, (hka00_454, [hka00_6, hka00_9], [], hka00_764), [.inr (8, 6), .inr (8, 7), .inr (8, 8), .inr (8, 9), .inr (8, 10), .inr (8, 11), .inr (8, 12), .inr (8, 13), .inr (15, 1), .inr (15, 2), .inr (15, 3), .inr (15, 5), .inr (15, 6), .inr (15, 7), .inr (15, 8), .inr (15, 9)], [(some hka00_35, hka00_765, [(15, hka00_766)]), (some hka00_35, hka00_767, [(15, hka00_654)]), (some hka00_35, hka00_768, [(15, hka00_655)]), (some hka00_35, hka00_768, [(15, hka00_656)]), (some hka00_35, hka00_768, [(8, hka00_771), (13, hka00_301), (14, hka00_301), (15, hka00_772)]), (some hka00_39, hka00_768, [(8, hka00_771), (13, hka00_301), (14, hka00_301), (15, hka00_773)]), (some hka00_35, hka00_768, [(8, hka00_771), (13, hka00_301), (14, hka00_301), (15, hka00_774)]), (some hka00_35, hka00_768, [(8, hka00_771), (13, hka00_301), (14, hka00_301), (15, hka00_661)]), (some hka00_35, hka00_768, [(15, hka00_775)])])
def kan_241 : List ai_Nd := []
set_option maxRecDepth 1000000 in
theorem kak_241 : ai_ck [ka_42, ka_194, ka_239, ka_81, ka_240] [] ka_241 [.inl 100000] kan_241 29 = true := by decide +kernel
theorem kah_241 : ai_holds ka_241 := ai_thm kak_241 (ai_cons kah_42 (ai_cons kah_194 (ai_cons kah_239 (ai_cons kah_81 (ai_cons kah_240 ai_nil)))))
def hka00_776 : ai_W := [hka00_10, hka00_10, hka00_10, hka00_10, hka00_10, hka00_10, hka00_10, hka00_10, hka00_345, hka00_302, hka00_314, hka00_678, hka00_717, hka00_302, hka00_302, hka00_466, hka00_32, hka00_10, hka00_10, hka00_10, hka00_10, hka00_10, hka00_10, hka00_10, hka00_10, hka00_10, hka00_10, hka00_10, hka00_10, hka00_10, hka00_10, hka00_10, hka00_10, hka00_10, hka00_10, hka00_10, hka00_10, hka00_10, hka00_10, hka00_10, hka00_10, hka00_10, hka00_10, hka00_10, hka00_10, hka00_10, hka00_10, hka00_10, hka00_10, hka00_10, hka00_10, hka00_10, hka00_10, hka00_10, hka00_10, hka00_10, hka00_10, hka00_10, hka00_10, hka00_10, hka00_10, hka00_10, hka00_10, hka00_10, hka00_10, hka00_10, hka00_10, hka00_10, hka00_10, hka00_10, hka00_10, hka00_10, hka00_10, hka00_10, hka00_10, hka00_10]
def hka00_777 : Int × Int := (.ofNat 1, .ofNat 3)
def hka00_778 : ai_E := [hka00_101, hka00_102, hka00_3, hka00_3, hka00_3, hka00_323, hka00_324, hka00_56, hka00_1, hka00_2, hka00_1, hka00_3, hka00_1, hka00_777, hka00_1, hka00_3]
def hka00_779 : ai_N := (.ofNat 1, .ofNat 3, [(13, .ofNat 0, .ofNat 0)])
def hka00_780 : ai_V := .inl (false, hka00_779)
def hka00_781 : ai_C := .inr (.inr (5, [hka00_11, hka00_84, hka00_350, hka00_462, hka00_68, hka00_90, hka00_458, hka00_780, hka00_462, hka00_464]))
def hka00_782 : ai_E := [hka00_101, hka00_102, hka00_3, hka00_3, hka00_3, hka00_323, hka00_324, hka00_56, hka00_1, hka00_2, hka00_1, hka00_3, hka00_1, hka00_233, hka00_1, hka00_3]
def hka00_783 : ai_N := (.ofNat 2, .ofNat 5, [])
def hka00_784 : ai_V := .inl (false, hka00_783)
def hka00_785 : ai_N := (.ofNat 0, .ofNat 400, [(12, .ofNat 0, .ofNat 397)])
def hka00_786 : ai_V := .inl (false, hka00_785)
def hka00_787 : ai_C := .inr (.inr (5, [hka00_11, hka00_84, hka00_784, hka00_696, hka00_68, hka00_391, hka00_786, hka00_35, hka00_696, hka00_391]))
def hka00_788 : Int × Int := (.ofNat 3, .ofNat 399)
def hka00_789 : ai_E := [hka00_101, hka00_102, hka00_3, hka00_3, hka00_3, hka00_323, hka00_324, hka00_56, hka00_268, hka00_2, hka00_1, hka00_3, hka00_788, hka00_233, hka00_1, hka00_3]
def hka00_790 : ai_N := (.ofNat 3, .ofNat 399, [(12, .ofNat 0, .ofNat 396)])
def hka00_791 : ai_V := .inl (false, hka00_790)
def hka00_792 : ai_N := (.ofNat 3, .ofNat 400, [(12, .ofNat 0, .ofNat 397)])
def hka00_793 : ai_V := .inl (false, hka00_792)
def hka00_794 : ai_C := .inr (.inr (5, [hka00_11, hka00_473, hka00_524, hka00_791, hka00_68, hka00_391, hka00_793, hka00_39, hka00_791, hka00_391]))
def hka00_795 : ai_C := .inr (.inr (6, [hka00_299, hka00_310, hka00_326, hka00_327, hka00_328, hka00_329, hka00_448, hka00_333, hka00_391, hka00_391, hka00_391, hka00_339, hka00_341, hka00_343]))
def hka00_796 : ai_C := .inr (.inr (5, [hka00_11, hka00_473, hka00_491, hka00_791, hka00_68, hka00_391, hka00_793, hka00_39, hka00_791, hka00_391]))
def hka00_797 : ai_C := .inr (.inr (5, [hka00_11, hka00_473, hka00_350, hka00_791, hka00_68, hka00_391, hka00_793, hka00_35, hka00_791, hka00_391]))
def hka00_798 : ai_N := (.ofNat 4, .ofNat 400, [(12, .ofNat 1, .ofNat 397)])
def hka00_799 : ai_V := .inl (false, hka00_798)
def hka00_800 : ai_C := .inr (.inr (5, [hka00_11, hka00_473, hka00_456, hka00_88, hka00_68, hka00_391, hka00_799, hka00_350, hka00_791, hka00_391]))
def hka00_801 : ai_E := [hka00_101, hka00_102, hka00_3, hka00_3, hka00_3, hka00_323, hka00_324, hka00_56, hka00_1, hka00_2, hka00_1, hka00_3, hka00_567, hka00_233, hka00_1, hka00_3]
def hka00_802 : ai_C := .inr (.inr (5, [hka00_11, hka00_84, hka00_350, hka00_793, hka00_68, hka00_391, hka00_793, hka00_380, hka00_793, hka00_391]))
def hka00_803 : ai_C := .inr (.inr (5, [hka00_11, hka00_473, hka00_350, hka00_791, hka00_68, hka00_391, hka00_799, hka00_350, hka00_791, hka00_391]))
def hka00_804 : Int × Int := (.ofNat 7, .ofNat 399)
def hka00_805 : ai_E := [hka00_101, hka00_102, hka00_3, hka00_3, hka00_3, hka00_323, hka00_324, hka00_56, hka00_268, hka00_2, hka00_1, hka00_3, hka00_804, hka00_233, hka00_1, hka00_3]
def hka00_806 : ai_N := (.ofNat 7, .ofNat 399, [(12, .ofNat 0, .ofNat 392)])
def hka00_807 : ai_V := .inl (false, hka00_806)
def hka00_808 : ai_N := (.ofNat 7, .ofNat 400, [(12, .ofNat 0, .ofNat 393)])
def hka00_809 : ai_V := .inl (false, hka00_808)
def hka00_810 : ai_C := .inr (.inr (5, [hka00_11, hka00_473, hka00_553, hka00_807, hka00_68, hka00_391, hka00_809, hka00_39, hka00_807, hka00_391]))
def hka00_811 : ai_C := .inr (.inr (5, [hka00_11, hka00_473, hka00_350, hka00_807, hka00_68, hka00_391, hka00_809, hka00_35, hka00_807, hka00_536]))
def hka00_812 : ai_E := [hka00_101, hka00_102, hka00_3, hka00_3, hka00_3, hka00_323, hka00_324, hka00_56, hka00_268, hka00_546, hka00_1, hka00_3, hka00_804, hka00_233, hka00_1, hka00_3]
def hka00_813 : ai_N := (.ofNat 8, .ofNat 400, [(12, .ofNat 1, .ofNat 393)])
def hka00_814 : ai_V := .inl (false, hka00_813)
def hka00_815 : ai_C := .inr (.inr (5, [hka00_11, hka00_473, hka00_549, hka00_88, hka00_68, hka00_391, hka00_814, hka00_350, hka00_807, hka00_536]))
def hka00_816 : ai_E := [hka00_101, hka00_102, hka00_3, hka00_3, hka00_3, hka00_323, hka00_324, hka00_56, hka00_268, hka00_233, hka00_1, hka00_3, hka00_804, hka00_233, hka00_1, hka00_3]
def hka00_817 : ai_C := .inr (.inr (5, [hka00_11, hka00_473, hka00_286, hka00_88, hka00_68, hka00_391, hka00_814, hka00_350, hka00_807, hka00_536]))
def hka00_818 : ai_C := .inr (.inr (5, [hka00_11, hka00_473, hka00_350, hka00_809, hka00_68, hka00_391, hka00_809, hka00_380, hka00_809, hka00_536]))
def hka00_819 : Int × Int := (.ofNat 4, .ofNat 399)
def hka00_820 : ai_E := [hka00_101, hka00_102, hka00_3, hka00_3, hka00_3, hka00_323, hka00_324, hka00_56, hka00_268, hka00_2, hka00_1, hka00_3, hka00_819, hka00_233, hka00_1, hka00_3]
def hka00_821 : ai_N := (.ofNat 4, .ofNat 399, [(12, .ofNat 0, .ofNat 395)])
def hka00_822 : ai_V := .inl (false, hka00_821)
def hka00_823 : ai_N := (.ofNat 4, .ofNat 400, [(12, .ofNat 0, .ofNat 396)])
def hka00_824 : ai_V := .inl (false, hka00_823)
def hka00_825 : ai_C := .inr (.inr (5, [hka00_11, hka00_473, hka00_491, hka00_822, hka00_68, hka00_90, hka00_824, hka00_39, hka00_822, hka00_391]))
def hka00_826 : ai_C := .inr (.inr (5, [hka00_11, hka00_473, hka00_350, hka00_822, hka00_68, hka00_90, hka00_824, hka00_35, hka00_822, hka00_651]))
def hka00_827 : ai_N := (.ofNat 5, .ofNat 400, [(12, .ofNat 1, .ofNat 396)])
def hka00_828 : ai_V := .inl (false, hka00_827)
def hka00_829 : ai_C := .inr (.inr (5, [hka00_11, hka00_473, hka00_456, hka00_88, hka00_68, hka00_90, hka00_828, hka00_350, hka00_822, hka00_651]))
def hka00_830 : ai_C := .inr (.inr (5, [hka00_11, hka00_473, hka00_350, hka00_824, hka00_68, hka00_90, hka00_824, hka00_380, hka00_824, hka00_651]))
def hka00_831 : ai_E := [hka00_101, hka00_102, hka00_3, hka00_3, hka00_3, hka00_323, hka00_324, hka00_56, hka00_1, hka00_2, hka00_1, hka00_3, hka00_416, hka00_233, hka00_1, hka00_3]
def hka00_832 : ai_C := .inr (.inr (5, [hka00_11, hka00_84, hka00_699, hka00_696, hka00_68, hka00_90, hka00_824, hka00_651, hka00_824, hka00_391]))
def hka00_833 : ai_C := .inr (.inr (5, [hka00_11, hka00_84, hka00_35, hka00_696, hka00_68, hka00_90, hka00_824, hka00_651, hka00_824, hka00_391]))
def hka00_834 : ai_C := .inr (.inr (5, [hka00_11, hka00_84, hka00_699, hka00_696, hka00_68, hka00_90, hka00_793, hka00_651, hka00_793, hka00_391]))
def hka00_835 : ai_C := .inr (.inr (5, [hka00_11, hka00_84, hka00_35, hka00_696, hka00_68, hka00_90, hka00_793, hka00_651, hka00_793, hka00_391]))
def hka00_836 : ai_E := [hka00_101, hka00_102, hka00_3, hka00_3, hka00_3, hka00_323, hka00_324, hka00_4, hka00_268, hka00_2, hka00_1, hka00_3, hka00_819, hka00_233, hka00_1, hka00_3]
def hka00_837 : ai_C := .inr (.inr (5, [hka00_11, hka00_473, hka00_350, hka00_822, hka00_68, hka00_90, hka00_824, hka00_35, hka00_822, hka00_742]))
def hka00_838 : ai_C := .inr (.inr (5, [hka00_11, hka00_473, hka00_456, hka00_88, hka00_68, hka00_90, hka00_828, hka00_350, hka00_822, hka00_742]))
def hka00_839 : ai_C := .inr (.inr (5, [hka00_11, hka00_473, hka00_350, hka00_824, hka00_68, hka00_90, hka00_824, hka00_380, hka00_824, hka00_742]))
/-- NeverAgain$TextReader.line -/
def ka_242 : ai_K := (156, 6, (hka00_454, [hka00_6], [], hka00_776), [.inr (8, 6), .inr (8, 7), .inr (8, 8), .inr (8, 9), .inr (8, 10), .inr (8, 11), .inr (8, 12), .inr (8, 13), .inr (15, 1), .inr (15, 2), .inr (15, 3), .inr (15, 5), .inr (15, 6), .inr (15, 7), .inr (15, 8), .inr (15, 9)], [(some hka00_35, hka00_778, [(15, hka00_781)]), (some hka00_35, hka00_782, [(15, hka00_787)]), (some hka00_35, hka00_789, [(15, hka00_794)]), (some hka00_35, hka00_789, [(8, hka00_795), (15, hka00_796)]), (some hka00_35, hka00_789, [(8, hka00_795), (15, hka00_797)]), (some hka00_39, hka00_789, [(8, hka00_795), (15, hka00_800)]), (some hka00_35, hka00_801, [(8, hka00_795), (15, hka00_802)]), (some hka00_35, hka00_789, [(15, hka00_803)]), (some hka00_35, hka00_801, [(15, hka00_802)]), (some hka00_35, hka00_805, [(8, hka00_542), (9, hka00_301), (15, hka00_810)]), (some hka00_35, hka00_805, [(8, hka00_542), (9, hka00_301), (15, hka00_811)]), (some hka00_35, hka00_812, [(8, hka00_542), (9, hka00_301), (15, hka00_815)]), (some hka00_39, hka00_816, [(8, hka00_542), (9, hka00_301), (15, hka00_817)]), (some hka00_35, hka00_805, [(8, hka00_542), (9, hka00_301), (15, hka00_818)]), (some hka00_35, hka00_820, [(10, hka00_313), (15, hka00_825)]), (some hka00_35, hka00_820, [(10, hka00_313), (15, hka00_826)]), (some hka00_39, hka00_820, [(10, hka00_313), (15, hka00_829)]), (some hka00_35, hka00_820, [(10, hka00_313), (15, hka00_830)]), (some hka00_35, hka00_831, [(8, hka00_694), (11, hka00_677), (15, hka00_832)]), (some hka00_39, hka00_831, [(8, hka00_694), (11, hka00_677), (15, hka00_833)]), (some hka00_35, hka00_801, [(8, hka00_731), (12, hka00_716), (15, hka00_834)]), (some hka00_39, hka00_801, [(8, hka00_731), (12, hka00_716), (15, hka00_835)]), (some hka00_35, hka00_836, [(8, hka00_771), (13, hka00_301), (14, hka00_301), (15, hka00_825)]), (some hka00_35, hka00_836, [(8, hka00_771), (13, hka00_301), (14, hka00_301), (15, hka00_837)]), (some hka00_39, hka00_836, [(8, hka00_771), (13, hka00_301), (14, hka00_301), (15, hka00_838)]), (some hka00_35, hka00_836, [(8, hka00_771), (13, hka00_301), (14, hka00_301), (15, hka00_839)])])
def kan_242 : List ai_Nd := []
set_option maxRecDepth 1000000 in
theorem kak_242 : ai_ck [ka_16, ka_36, ka_75, ka_98, ka_114, ka_128, ka_190, ka_207, ka_222, ka_237, ka_43, ka_102, ka_116, ka_178, ka_82, ka_195, ka_241, ka_212, ka_225] [] ka_242 [.inl 100000] kan_242 46 = true := by decide +kernel
theorem kah_242 : ai_holds ka_242 := ai_thm kak_242 (ai_cons kah_16 (ai_cons kah_36 (ai_cons kah_75 (ai_cons kah_98 (ai_cons kah_114 (ai_cons kah_128 (ai_cons kah_190 (ai_cons kah_207 (ai_cons kah_222 (ai_cons kah_237 (ai_cons kah_43 (ai_cons kah_102 (ai_cons kah_116 (ai_cons kah_178 (ai_cons kah_82 (ai_cons kah_195 (ai_cons kah_241 (ai_cons kah_212 (ai_cons kah_225 ai_nil)))))))))))))))))))
def hka00_840 : ai_W := [hka00_10, hka00_10, hka00_10, hka00_10, hka00_10, hka00_10, hka00_10, hka00_10, hka00_676, hka00_10, hka00_10, hka00_10, hka00_10, hka00_10, hka00_10, hka00_10, hka00_10, hka00_10, hka00_10, hka00_10, hka00_10, hka00_10, hka00_10, hka00_10, hka00_10, hka00_10, hka00_10, hka00_10, hka00_10, hka00_10, hka00_10, hka00_10, hka00_10, hka00_10, hka00_10, hka00_10, hka00_10, hka00_10, hka00_10, hka00_10, hka00_10, hka00_10, hka00_10, hka00_10, hka00_10, hka00_10, hka00_10, hka00_10, hka00_10, hka00_10, hka00_10, hka00_10, hka00_10, hka00_10, hka00_10, hka00_10, hka00_10, hka00_10, hka00_10, hka00_10, hka00_10, hka00_10, hka00_10, hka00_10, hka00_10, hka00_10, hka00_10, hka00_10, hka00_10, hka00_10, hka00_10, hka00_10, hka00_10, hka00_10, hka00_10, hka00_10]
def hka00_841 : ai_E := [hka00_4, hka00_101, hka00_102, hka00_3, hka00_3, hka00_3, hka00_323, hka00_324, hka00_56]
def hka00_842 : ai_E := [hka00_254, hka00_101, hka00_102, hka00_3, hka00_3, hka00_3, hka00_323, hka00_324, hka00_56]
def hka00_843 : ai_E := [hka00_260, hka00_101, hka00_102, hka00_3, hka00_3, hka00_3, hka00_323, hka00_324, hka00_56]
/-- NeverAgain$Told.hasMatter -/
def ka_244 : ai_K := (99, 0, (hka00_668, [hka00_68, hka00_250], [], hka00_840), [.inl 1, .inr (8, 6), .inr (8, 7), .inr (8, 8), .inr (8, 9), .inr (8, 10), .inr (8, 11), .inr (8, 12), .inr (8, 13)], [(some hka00_39, hka00_841, []), (some hka00_35, hka00_842, []), (some hka00_35, hka00_843, [])])
def kan_244 : List ai_Nd := []
set_option maxRecDepth 1000000 in
theorem kak_244 : ai_ck [] [] ka_244 [.inl 100000] kan_244 13 = true := by decide +kernel
theorem kah_244 : ai_holds ka_244 := ai_thm kak_244 ai_nil
def hka00_844 : ai_E := [hka00_639, hka00_101, hka00_102, hka00_3, hka00_3, hka00_3, hka00_323, hka00_324, hka00_56]
def hka00_845 : ai_E := [hka00_512, hka00_101, hka00_102, hka00_3, hka00_3, hka00_3, hka00_323, hka00_324, hka00_56]
def hka00_846 : ai_E := [hka00_518, hka00_101, hka00_102, hka00_3, hka00_3, hka00_3, hka00_323, hka00_324, hka00_56]
/-- NeverAgain$Told.hasNumber -/
def ka_245 : ai_K := (101, 0, (hka00_668, [hka00_68, hka00_250], [], hka00_840), [.inl 1, .inr (8, 6), .inr (8, 7), .inr (8, 8), .inr (8, 9), .inr (8, 10), .inr (8, 11), .inr (8, 12), .inr (8, 13)], [(some hka00_39, hka00_844, []), (some hka00_35, hka00_845, []), (some hka00_35, hka00_846, [])])
def kan_245 : List ai_Nd := []
set_option maxRecDepth 1000000 in
theorem kak_245 : ai_ck [] [] ka_245 [.inl 100000] kan_245 14 = true := by decide +kernel
theorem kah_245 : ai_holds ka_245 := ai_thm kak_245 ai_nil
def hka00_847 : ai_W := [hka00_10, hka00_10, hka00_10, hka00_10, hka00_10, hka00_10, hka00_10, hka00_10, hka00_345, hka00_10, hka00_314, hka00_678, hka00_717, hka00_302, hka00_10, hka00_10, hka00_10, hka00_10, hka00_10, hka00_10, hka00_10, hka00_10, hka00_10, hka00_10, hka00_10, hka00_10, hka00_10, hka00_10, hka00_10, hka00_10, hka00_10, hka00_10, hka00_10, hka00_10, hka00_10, hka00_10, hka00_10, hka00_10, hka00_10, hka00_10, hka00_10, hka00_10, hka00_10, hka00_10, hka00_10, hka00_10, hka00_10, hka00_10, hka00_10, hka00_10, hka00_10, hka00_10, hka00_10, hka00_10, hka00_10, hka00_10, hka00_10, hka00_10, hka00_10, hka00_10, hka00_10, hka00_10, hka00_10, hka00_10, hka00_10, hka00_10, hka00_10, hka00_10, hka00_10, hka00_10, hka00_10, hka00_10, hka00_10, hka00_10, hka00_10, hka00_10]
/-- NeverAgain$Told.namesWhatIs -/
def ka_246 : ai_K := (157, 1, (hka00_325, [hka00_68, hka00_9], [], hka00_847), [.inr (8, 6), .inr (8, 7), .inr (8, 8), .inr (8, 9), .inr (8, 10), .inr (8, 11), .inr (8, 12), .inr (8, 13)], [(some hka00_35, hka00_325, []), (some hka00_39, hka00_325, [])])
def hka00_848 : Int × Int := (.ofNat 1, .ofNat 17)
def hka00_849 : ai_E := [hka00_101, hka00_102, hka00_3, hka00_3, hka00_3, hka00_323, hka00_324, hka00_56, hka00_848]
def hka00_850 : ai_N := (.ofNat 1, .ofNat 17, [(8, .ofNat 0, .ofNat 0)])
def hka00_851 : ai_V := .inl (false, hka00_850)
def hka00_852 : ai_E := [hka00_101, hka00_102, hka00_3, hka00_3, hka00_3, hka00_323, hka00_324, hka00_56, hka00_323]
def hka00_853 : ai_N := (.ofNat 0, .ofNat 60, [(8, .ofNat 0, .ofNat 0)])
def hka00_854 : ai_V := .inl (false, hka00_853)
def hka00_855 : ai_E := [hka00_101, hka00_102, hka00_3, hka00_3, hka00_3, hka00_323, hka00_324, hka00_56, hka00_324]
def hka00_856 : ai_E := [hka00_101, hka00_102, hka00_3, hka00_3, hka00_3, hka00_323, hka00_324, hka00_56, hka00_56]
def kan_246 : List ai_Nd := [(2, (hka00_849, [hka00_68, hka00_851], [], hka00_847), [.inl 1], [.inl 99997, .inl 1, .inr (true, .ofNat 17, 8), .inl 100000]), (50, (hka00_852, [hka00_68, hka00_854], [], hka00_847), [.inl 1], [.inl 99949, .inl 1, .inr (true, .ofNat 60, 8), .inl 100000]), (87, (hka00_855, [hka00_68, hka00_613], [], hka00_847), [.inl 1], [.inl 99912, .inl 1, .inr (true, .ofNat 5, 8), .inl 100000]), (123, (hka00_856, [hka00_68, hka00_420], [], hka00_847), [.inl 1], [.inl 99876, .inl 1, .inr (true, .ofNat 4, 8), .inl 100000])]
set_option maxRecDepth 1000000 in
theorem kak_246 : ai_ck [ka_244, ka_245] [] ka_246 [.inl 100000, .inl 0, .inl 0, .inl 0] kan_246 24 = true := by decide +kernel
theorem kah_246 : ai_holds ka_246 := ai_thm kak_246 (ai_cons kah_244 (ai_cons kah_245 ai_nil))

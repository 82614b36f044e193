/-! CONTRACTS found by wip/ai/an.py, each held by the kernel. -/
def hka08_0 : Int × Int := (.negSucc 2147483647, .ofNat 2147483647)
def hka08_1 : Int × Int := (.ofNat 0, .ofNat 3)
def hka08_2 : Int × Int := (.ofNat 4, .ofNat 16)
def hka08_3 : Int × Int := (.ofNat 1, .ofNat 4)
def hka08_4 : Int × Int := (.ofNat 0, .ofNat 60)
def hka08_5 : Int × Int := (.ofNat 0, .ofNat 5)
def hka08_6 : Int × Int := (.ofNat 0, .ofNat 4)
def hka08_7 : Int × Int := (.ofNat 0, .ofNat 128)
def hka08_8 : ai_E := [hka08_0, hka08_1, hka08_2, hka08_3, hka08_0, hka08_0, hka08_0, hka08_4, hka08_5, hka08_6, hka08_7, hka08_6, hka08_0]
def hka08_9 : ai_V := .inr (some (.ref 26))
def hka08_10 : ai_V := .inr (some (.ref 1))
def hka08_11 : ai_N := (.ofNat 1, .ofNat 1, [])
def hka08_12 : ai_V := .inl (false, hka08_11)
def hka08_13 : ai_N := (.negSucc 2147483647, .ofNat 2147483647, [(0, .ofNat 0, .ofNat 0)])
def hka08_14 : ai_V := .inl (false, hka08_13)
def hka08_15 : ai_N := (.ofNat 0, .ofNat 0, [])
def hka08_16 : ai_V := .inl (false, hka08_15)
def hka08_17 : ai_N := (.ofNat 0, .ofNat 3, [(1, .ofNat 0, .ofNat 0)])
def hka08_18 : ai_V := .inl (false, hka08_17)
def hka08_19 : ai_V := .inr none
def hka08_20 : Bool × Option ai_C := (false, none)
def hka08_21 : ai_V := .inr (some (.ref 2))
def hka08_22 : ai_V := .inr (some (.ref 3))
def hka08_23 : ai_V := .inr (some (.ref 4))
def hka08_24 : ai_V := .inr (some (.ref 5))
def hka08_25 : ai_V := .inr (some (.ref 6))
def hka08_26 : ai_V := .inr (some (.ref 7))
def hka08_27 : ai_N := (.ofNat 4, .ofNat 16, [(2, .ofNat 0, .ofNat 0)])
def hka08_28 : ai_V := .inl (false, hka08_27)
def hka08_29 : ai_N := (.ofNat 1, .ofNat 4, [(3, .ofNat 0, .ofNat 0)])
def hka08_30 : ai_V := .inl (false, hka08_29)
def hka08_31 : ai_N := (.negSucc 2147483647, .ofNat 2147483647, [(4, .ofNat 0, .ofNat 0)])
def hka08_32 : ai_V := .inl (false, hka08_31)
def hka08_33 : ai_N := (.negSucc 2147483647, .ofNat 2147483647, [(5, .ofNat 0, .ofNat 0)])
def hka08_34 : ai_V := .inl (false, hka08_33)
def hka08_35 : ai_N := (.negSucc 2147483647, .ofNat 2147483647, [(6, .ofNat 0, .ofNat 0)])
def hka08_36 : ai_V := .inl (false, hka08_35)
def hka08_37 : ai_N := (.ofNat 0, .ofNat 60, [(7, .ofNat 0, .ofNat 0)])
def hka08_38 : ai_V := .inl (false, hka08_37)
def hka08_39 : ai_N := (.ofNat 0, .ofNat 5, [(8, .ofNat 0, .ofNat 0)])
def hka08_40 : ai_V := .inl (false, hka08_39)
def hka08_41 : ai_N := (.ofNat 0, .ofNat 4, [(9, .ofNat 0, .ofNat 0)])
def hka08_42 : ai_V := .inl (false, hka08_41)
def hka08_43 : ai_C := .inr (.inr (6, [hka08_21, hka08_22, hka08_23, hka08_24, hka08_25, hka08_26, hka08_28, hka08_30, hka08_32, hka08_34, hka08_36, hka08_38, hka08_40, hka08_42]))
def hka08_44 : Bool × Option ai_C := (false, some hka08_43)
def hka08_45 : ai_N := (.negSucc 2147483647, .ofNat 2147483647, [])
def hka08_46 : ai_C := .inl (.int, [(17, hka08_45)])
def hka08_47 : Bool × Option ai_C := (false, some hka08_46)
def hka08_48 : ai_C := .inl (.int, [(4, hka08_45)])
def hka08_49 : Bool × Option ai_C := (false, some hka08_48)
def hka08_50 : ai_V := .inr (some (.ref 18))
def hka08_51 : ai_V := .inr (some (.ref 19))
def hka08_52 : ai_V := .inr (some (.ref 20))
def hka08_53 : ai_N := (.ofNat 0, .ofNat 128, [(10, .ofNat 0, .ofNat 0)])
def hka08_54 : ai_V := .inl (false, hka08_53)
def hka08_55 : ai_C := .inr (.inr (0, [hka08_50, hka08_51, hka08_52, hka08_10, hka08_54]))
def hka08_56 : Bool × Option ai_C := (false, some hka08_55)
def hka08_57 : ai_N := (.ofNat 0, .ofNat 16, [])
def hka08_58 : ai_C := .inl (.int, [(128, hka08_57)])
def hka08_59 : Bool × Option ai_C := (false, some hka08_58)
def hka08_60 : ai_N := (.negSucc 0, .ofNat 127, [])
def hka08_61 : ai_C := .inl (.int, [(128, hka08_60)])
def hka08_62 : Bool × Option ai_C := (false, some hka08_61)
def hka08_63 : ai_C := .inl (.int, [(17, hka08_60)])
def hka08_64 : Bool × Option ai_C := (false, some hka08_63)
def hka08_65 : ai_V := .inr (some (.ref 17))
def hka08_66 : ai_V := .inr (some (.ref 27))
def hka08_67 : ai_V := .inr (some (.ref 28))
def hka08_68 : ai_V := .inr (some (.ref 29))
def hka08_69 : ai_V := .inr (some (.ref 30))
def hka08_70 : ai_V := .inr (some (.ref 31))
def hka08_71 : ai_N := (.ofNat 0, .ofNat 4, [(11, .ofNat 0, .ofNat 0)])
def hka08_72 : ai_V := .inl (false, hka08_71)
def hka08_73 : ai_N := (.negSucc 2147483647, .ofNat 2147483647, [(12, .ofNat 0, .ofNat 0)])
def hka08_74 : ai_V := .inl (false, hka08_73)
def hka08_75 : ai_C := .inr (.inr (1, [hka08_65, hka08_66, hka08_67, hka08_68, hka08_69, hka08_70, hka08_72, hka08_74]))
def hka08_76 : Bool × Option ai_C := (false, some hka08_75)
def hka08_77 : ai_N := (.ofNat 0, .ofNat 4, [])
def hka08_78 : ai_C := .inl (.int, [(4, hka08_77)])
def hka08_79 : Bool × Option ai_C := (false, some hka08_78)
def hka08_80 : ai_C := .inl (.int, [(4, hka08_57)])
def hka08_81 : Bool × Option ai_C := (false, some hka08_80)
def hka08_82 : ai_W := [hka08_20, hka08_44, hka08_20, hka08_47, hka08_20, hka08_20, hka08_49, hka08_49, hka08_20, hka08_20, hka08_20, hka08_20, hka08_20, hka08_20, hka08_20, hka08_20, hka08_20, hka08_56, hka08_59, hka08_62, hka08_64, hka08_20, hka08_20, hka08_20, hka08_20, hka08_20, hka08_76, hka08_49, hka08_79, hka08_81, hka08_79, hka08_81, hka08_20, hka08_20, hka08_20, hka08_20, hka08_20, hka08_20, hka08_20, hka08_20, hka08_20, hka08_20, hka08_20, hka08_20, hka08_20, hka08_20, hka08_20, hka08_20, hka08_20, hka08_20, hka08_20, hka08_20, hka08_20, hka08_20, hka08_20, hka08_20, hka08_20, hka08_20, hka08_20, hka08_20, hka08_20, hka08_20, hka08_20, hka08_20, hka08_20, hka08_20, hka08_20, hka08_20, hka08_20, hka08_20, hka08_20, hka08_20, hka08_20, hka08_20, hka08_20, hka08_20]
def hka08_83 : ai_N := (.ofNat 0, .ofNat 128, [(10, .negSucc 127, .ofNat 0)])
def hka08_84 : ai_V := .inl (false, hka08_83)
def hka08_85 : ai_C := .inr (.inr (0, [hka08_50, hka08_51, hka08_52, hka08_10, hka08_84]))
def hka08_86 : ai_V := .inl (false, hka08_45)
def hka08_87 : ai_C := .inr (.inr (1, [hka08_65, hka08_66, hka08_67, hka08_68, hka08_69, hka08_70, hka08_72, hka08_86]))
/-- NeverAgain$Delayer.tryNumbers -/
def ka_644 : ai_K := (206, 9, (hka08_8, [hka08_9, hka08_10, hka08_12, hka08_14, hka08_16, hka08_18, hka08_19, hka08_19, hka08_19, hka08_19], [], hka08_82), [.inl 3, .inl 5, .inr (1, 6), .inr (1, 7), .inr (1, 8), .inr (1, 9), .inr (1, 10), .inr (1, 11), .inr (1, 12), .inr (1, 13), .inr (17, 4), .inr (26, 6), .inr (26, 7)], [(none, hka08_8, [(17, hka08_85), (18, hka08_58), (19, hka08_61), (20, hka08_63), (26, hka08_87), (28, hka08_78), (29, hka08_80), (30, hka08_78), (31, hka08_80)]), (none, hka08_8, [(17, hka08_85), (18, hka08_58), (19, hka08_61), (20, hka08_63), (26, hka08_87), (28, hka08_78), (29, hka08_80), (30, hka08_78), (31, hka08_80)])])
def hka08_88 : Int × Int := (.ofNat 1, .ofNat 17)
def hka08_89 : ai_E := [hka08_0, hka08_1, hka08_2, hka08_3, hka08_0, hka08_0, hka08_0, hka08_4, hka08_5, hka08_6, hka08_7, hka08_6, hka08_0, hka08_88]
def hka08_90 : ai_N := (.ofNat 1, .ofNat 17, [(13, .ofNat 0, .ofNat 0)])
def hka08_91 : ai_V := .inl (false, hka08_90)
def hka08_92 : Bool × Option ai_C := (true, some hka08_85)
def hka08_93 : Bool × Option ai_C := (true, some hka08_58)
def hka08_94 : Bool × Option ai_C := (true, some hka08_61)
def hka08_95 : Bool × Option ai_C := (true, some hka08_63)
def hka08_96 : Bool × Option ai_C := (true, some hka08_87)
def hka08_97 : Bool × Option ai_C := (true, some hka08_78)
def hka08_98 : Bool × Option ai_C := (true, some hka08_80)
def hka08_99 : ai_W := [hka08_20, hka08_44, hka08_20, hka08_47, hka08_20, hka08_20, hka08_49, hka08_49, hka08_20, hka08_20, hka08_20, hka08_20, hka08_20, hka08_20, hka08_20, hka08_20, hka08_20, hka08_92, hka08_93, hka08_94, hka08_95, hka08_20, hka08_20, hka08_20, hka08_20, hka08_20, hka08_96, hka08_49, hka08_97, hka08_98, hka08_97, hka08_98, hka08_20, hka08_20, hka08_20, hka08_20, hka08_20, hka08_20, hka08_20, hka08_20, hka08_20, hka08_20, hka08_20, hka08_20, hka08_20, hka08_20, hka08_20, hka08_20, hka08_20, hka08_20, hka08_20, hka08_20, hka08_20, hka08_20, hka08_20, hka08_20, hka08_20, hka08_20, hka08_20, hka08_20, hka08_20, hka08_20, hka08_20, hka08_20, hka08_20, hka08_20, hka08_20, hka08_20, hka08_20, hka08_20, hka08_20, hka08_20, hka08_20, hka08_20, hka08_20, hka08_20]
def kan_644 : List ai_Nd := [(33, (hka08_89, [hka08_9, hka08_10, hka08_12, hka08_14, hka08_16, hka08_18, hka08_86, hka08_86, hka08_86, hka08_91], [], hka08_99), [.inl 9], [.inl 99966, .inl 1, .inr (true, .ofNat 17, 13), .inl 100000])]
set_option maxRecDepth 1000000 in
theorem kak_644 : ai_ck [ka_438, ka_374, ka_532, ka_394, ka_378, ka_597] [] ka_644 [.inl 100000, .inl 0, .inl 0, .inl 0] kan_644 51 = true := by decide +kernel
theorem kah_644 : ai_holds ka_644 := ai_thm kak_644 (ai_cons kah_438 (ai_cons kah_374 (ai_cons kah_532 (ai_cons kah_394 (ai_cons kah_378 (ai_cons kah_597 ai_nil))))))
def hka08_100 : ai_E := [hka08_0, hka08_2, hka08_3, hka08_0, hka08_0, hka08_0, hka08_4, hka08_5, hka08_6, hka08_7, hka08_6, hka08_0]
def hka08_101 : ai_N := (.ofNat 4, .ofNat 16, [(1, .ofNat 0, .ofNat 0)])
def hka08_102 : ai_V := .inl (false, hka08_101)
def hka08_103 : ai_N := (.ofNat 1, .ofNat 4, [(2, .ofNat 0, .ofNat 0)])
def hka08_104 : ai_V := .inl (false, hka08_103)
def hka08_105 : ai_N := (.negSucc 2147483647, .ofNat 2147483647, [(3, .ofNat 0, .ofNat 0)])
def hka08_106 : ai_V := .inl (false, hka08_105)
def hka08_107 : ai_N := (.ofNat 0, .ofNat 60, [(6, .ofNat 0, .ofNat 0)])
def hka08_108 : ai_V := .inl (false, hka08_107)
def hka08_109 : ai_N := (.ofNat 0, .ofNat 5, [(7, .ofNat 0, .ofNat 0)])
def hka08_110 : ai_V := .inl (false, hka08_109)
def hka08_111 : ai_N := (.ofNat 0, .ofNat 4, [(8, .ofNat 0, .ofNat 0)])
def hka08_112 : ai_V := .inl (false, hka08_111)
def hka08_113 : ai_C := .inr (.inr (6, [hka08_21, hka08_22, hka08_23, hka08_24, hka08_25, hka08_26, hka08_102, hka08_104, hka08_106, hka08_32, hka08_34, hka08_108, hka08_110, hka08_112]))
def hka08_114 : Bool × Option ai_C := (false, some hka08_113)
def hka08_115 : ai_N := (.ofNat 0, .ofNat 128, [(9, .ofNat 0, .ofNat 0)])
def hka08_116 : ai_V := .inl (false, hka08_115)
def hka08_117 : ai_C := .inr (.inr (0, [hka08_50, hka08_51, hka08_52, hka08_10, hka08_116]))
def hka08_118 : Bool × Option ai_C := (false, some hka08_117)
def hka08_119 : ai_N := (.ofNat 0, .ofNat 4, [(10, .ofNat 0, .ofNat 0)])
def hka08_120 : ai_V := .inl (false, hka08_119)
def hka08_121 : ai_N := (.negSucc 2147483647, .ofNat 2147483647, [(11, .ofNat 0, .ofNat 0)])
def hka08_122 : ai_V := .inl (false, hka08_121)
def hka08_123 : ai_C := .inr (.inr (1, [hka08_65, hka08_66, hka08_67, hka08_68, hka08_69, hka08_70, hka08_120, hka08_122]))
def hka08_124 : Bool × Option ai_C := (false, some hka08_123)
def hka08_125 : ai_W := [hka08_20, hka08_114, hka08_20, hka08_47, hka08_20, hka08_20, hka08_49, hka08_49, hka08_20, hka08_20, hka08_20, hka08_20, hka08_20, hka08_20, hka08_20, hka08_20, hka08_20, hka08_118, hka08_59, hka08_62, hka08_64, hka08_20, hka08_20, hka08_20, hka08_20, hka08_20, hka08_124, hka08_49, hka08_79, hka08_81, hka08_79, hka08_81, hka08_20, hka08_20, hka08_20, hka08_20, hka08_20, hka08_20, hka08_20, hka08_20, hka08_20, hka08_20, hka08_20, hka08_20, hka08_20, hka08_20, hka08_20, hka08_20, hka08_20, hka08_20, hka08_20, hka08_20, hka08_20, hka08_20, hka08_20, hka08_20, hka08_20, hka08_20, hka08_20, hka08_20, hka08_20, hka08_20, hka08_20, hka08_20, hka08_20, hka08_20, hka08_20, hka08_20, hka08_20, hka08_20, hka08_20, hka08_20, hka08_20, hka08_20, hka08_20, hka08_20]
def hka08_126 : Int × Int := (.ofNat 0, .ofNat 0)
def hka08_127 : Int × Int := (.negSucc 2147483646, .ofNat 2147483647)
def hka08_128 : ai_E := [hka08_126, hka08_2, hka08_3, hka08_0, hka08_0, hka08_0, hka08_4, hka08_5, hka08_6, hka08_7, hka08_6, hka08_127]
def hka08_129 : ai_C := .inr (.inr (1, [hka08_65, hka08_66, hka08_67, hka08_68, hka08_69, hka08_70, hka08_120, hka08_16]))
def hka08_130 : ai_E := [hka08_0, hka08_2, hka08_3, hka08_0, hka08_0, hka08_0, hka08_4, hka08_5, hka08_6, hka08_7, hka08_6, hka08_127]
def hka08_131 : ai_N := (.ofNat 0, .ofNat 127, [(9, .negSucc 127, .ofNat 0)])
def hka08_132 : ai_V := .inl (false, hka08_131)
def hka08_133 : ai_C := .inr (.inr (0, [hka08_50, hka08_51, hka08_52, hka08_10, hka08_132]))
def hka08_134 : ai_C := .inr (.inr (1, [hka08_65, hka08_66, hka08_67, hka08_68, hka08_69, hka08_70, hka08_120, hka08_86]))
/-- NeverAgain$Delayer.searchFrom -/
def ka_645 : ai_K := (172, 10, (hka08_100, [hka08_9, hka08_10, hka08_12, hka08_14, hka08_16, hka08_19], [], hka08_125), [.inl 3, .inr (1, 6), .inr (1, 7), .inr (1, 8), .inr (1, 9), .inr (1, 10), .inr (1, 11), .inr (1, 12), .inr (1, 13), .inr (17, 4), .inr (26, 6), .inr (26, 7)], [(none, hka08_100, []), (none, hka08_128, [(26, hka08_129), (30, hka08_78), (31, hka08_80)]), (none, hka08_130, [(17, hka08_133), (18, hka08_58), (19, hka08_61), (20, hka08_63), (26, hka08_134), (28, hka08_78), (29, hka08_80), (30, hka08_78), (31, hka08_80)])])
def hka08_135 : ai_E := [hka08_0, hka08_2, hka08_3, hka08_0, hka08_0, hka08_0, hka08_4, hka08_5, hka08_6, hka08_7, hka08_6, hka08_127, hka08_6]
def hka08_136 : ai_N := (.ofNat 0, .ofNat 4, [(12, .ofNat 0, .ofNat 0)])
def hka08_137 : ai_V := .inl (false, hka08_136)
def hka08_138 : ai_N := (.ofNat 0, .ofNat 128, [(9, .negSucc 127, .ofNat 0)])
def hka08_139 : ai_V := .inl (false, hka08_138)
def hka08_140 : ai_C := .inr (.inr (0, [hka08_50, hka08_51, hka08_52, hka08_10, hka08_139]))
def hka08_141 : Bool × Option ai_C := (true, some hka08_140)
def hka08_142 : Bool × Option ai_C := (true, some hka08_134)
def hka08_143 : ai_W := [hka08_20, hka08_114, hka08_20, hka08_47, hka08_20, hka08_20, hka08_49, hka08_49, hka08_20, hka08_20, hka08_20, hka08_20, hka08_20, hka08_20, hka08_20, hka08_20, hka08_20, hka08_141, hka08_93, hka08_94, hka08_95, hka08_20, hka08_20, hka08_20, hka08_20, hka08_20, hka08_142, hka08_49, hka08_97, hka08_98, hka08_97, hka08_98, hka08_20, hka08_20, hka08_20, hka08_20, hka08_20, hka08_20, hka08_20, hka08_20, hka08_20, hka08_20, hka08_20, hka08_20, hka08_20, hka08_20, hka08_20, hka08_20, hka08_20, hka08_20, hka08_20, hka08_20, hka08_20, hka08_20, hka08_20, hka08_20, hka08_20, hka08_20, hka08_20, hka08_20, hka08_20, hka08_20, hka08_20, hka08_20, hka08_20, hka08_20, hka08_20, hka08_20, hka08_20, hka08_20, hka08_20, hka08_20, hka08_20, hka08_20, hka08_20, hka08_20]
def kan_645 : List ai_Nd := [(46, (hka08_135, [hka08_9, hka08_10, hka08_12, hka08_14, hka08_16, hka08_137], [], hka08_143), [.inl 5], [.inl 99953, .inl 1, .inr (true, .ofNat 4, 12), .inl 100000])]
set_option maxRecDepth 1000000 in
theorem kak_645 : ai_ck [ka_375, ka_438, ka_530, ka_532, ka_536, ka_553, ka_641, ka_644] [] ka_645 [.inl 100000, .inl 0, .inl 0, .inl 0] kan_645 27 = true := by decide +kernel
theorem kah_645 : ai_holds ka_645 := ai_thm kak_645 (ai_cons kah_375 (ai_cons kah_438 (ai_cons kah_530 (ai_cons kah_532 (ai_cons kah_536 (ai_cons kah_553 (ai_cons kah_641 (ai_cons kah_644 ai_nil))))))))
/-- NeverAgain$Delayer.tryNumbers -/
def ka_648 : ai_K := (206, 11, (hka08_8, [hka08_9, hka08_10, hka08_16, hka08_14, hka08_16, hka08_18, hka08_19, hka08_19, hka08_19, hka08_19], [], hka08_82), [.inl 3, .inl 5, .inr (1, 6), .inr (1, 7), .inr (1, 8), .inr (1, 9), .inr (1, 10), .inr (1, 11), .inr (1, 12), .inr (1, 13), .inr (17, 4), .inr (26, 6), .inr (26, 7)], [(none, hka08_8, [(17, hka08_85), (18, hka08_58), (19, hka08_61), (20, hka08_63), (26, hka08_87), (28, hka08_78), (29, hka08_80), (30, hka08_78), (31, hka08_80)]), (none, hka08_8, [(17, hka08_85), (18, hka08_58), (19, hka08_61), (20, hka08_63), (26, hka08_87), (28, hka08_78), (29, hka08_80), (30, hka08_78), (31, hka08_80)])])
def kan_648 : List ai_Nd := [(33, (hka08_89, [hka08_9, hka08_10, hka08_16, hka08_14, hka08_16, hka08_18, hka08_86, hka08_86, hka08_86, hka08_91], [], hka08_99), [.inl 9], [.inl 99966, .inl 1, .inr (true, .ofNat 17, 13), .inl 100000])]
set_option maxRecDepth 1000000 in
theorem kak_648 : ai_ck [ka_438, ka_374, ka_532, ka_394, ka_378, ka_623] [] ka_648 [.inl 100000, .inl 0, .inl 0, .inl 0] kan_648 51 = true := by decide +kernel
theorem kah_648 : ai_holds ka_648 := ai_thm kak_648 (ai_cons kah_438 (ai_cons kah_374 (ai_cons kah_532 (ai_cons kah_394 (ai_cons kah_378 (ai_cons kah_623 ai_nil))))))
/-- NeverAgain$Delayer.searchFrom -/
def ka_649 : ai_K := (172, 12, (hka08_100, [hka08_9, hka08_10, hka08_16, hka08_14, hka08_16, hka08_19], [], hka08_125), [.inl 3, .inr (1, 6), .inr (1, 7), .inr (1, 8), .inr (1, 9), .inr (1, 10), .inr (1, 11), .inr (1, 12), .inr (1, 13), .inr (17, 4), .inr (26, 6), .inr (26, 7)], [(none, hka08_100, []), (none, hka08_128, [(26, hka08_129), (30, hka08_78), (31, hka08_80)]), (none, hka08_130, [(17, hka08_133), (18, hka08_58), (19, hka08_61), (20, hka08_63), (26, hka08_134), (28, hka08_78), (29, hka08_80), (30, hka08_78), (31, hka08_80)])])
def kan_649 : List ai_Nd := [(46, (hka08_135, [hka08_9, hka08_10, hka08_16, hka08_14, hka08_16, hka08_137], [], hka08_143), [.inl 5], [.inl 99953, .inl 1, .inr (true, .ofNat 4, 12), .inl 100000])]
set_option maxRecDepth 1000000 in
theorem kak_649 : ai_ck [ka_375, ka_438, ka_530, ka_532, ka_533, ka_553, ka_645, ka_648] [] ka_649 [.inl 100000, .inl 0, .inl 0, .inl 0] kan_649 27 = true := by decide +kernel
theorem kah_649 : ai_holds ka_649 := ai_thm kak_649 (ai_cons kah_375 (ai_cons kah_438 (ai_cons kah_530 (ai_cons kah_532 (ai_cons kah_533 (ai_cons kah_553 (ai_cons kah_645 (ai_cons kah_648 ai_nil))))))))
def hka08_144 : ai_E := [hka08_2, hka08_3, hka08_0, hka08_0, hka08_0, hka08_4, hka08_5, hka08_6, hka08_7, hka08_6, hka08_0]
def hka08_145 : ai_N := (.ofNat 4, .ofNat 16, [(0, .ofNat 0, .ofNat 0)])
def hka08_146 : ai_V := .inl (false, hka08_145)
def hka08_147 : ai_N := (.ofNat 1, .ofNat 4, [(1, .ofNat 0, .ofNat 0)])
def hka08_148 : ai_V := .inl (false, hka08_147)
def hka08_149 : ai_N := (.negSucc 2147483647, .ofNat 2147483647, [(2, .ofNat 0, .ofNat 0)])
def hka08_150 : ai_V := .inl (false, hka08_149)
def hka08_151 : ai_N := (.ofNat 0, .ofNat 60, [(5, .ofNat 0, .ofNat 0)])
def hka08_152 : ai_V := .inl (false, hka08_151)
def hka08_153 : ai_N := (.ofNat 0, .ofNat 5, [(6, .ofNat 0, .ofNat 0)])
def hka08_154 : ai_V := .inl (false, hka08_153)
def hka08_155 : ai_N := (.ofNat 0, .ofNat 4, [(7, .ofNat 0, .ofNat 0)])
def hka08_156 : ai_V := .inl (false, hka08_155)
def hka08_157 : ai_C := .inr (.inr (6, [hka08_21, hka08_22, hka08_23, hka08_24, hka08_25, hka08_26, hka08_146, hka08_148, hka08_150, hka08_106, hka08_32, hka08_152, hka08_154, hka08_156]))
def hka08_158 : Bool × Option ai_C := (false, some hka08_157)
def hka08_159 : ai_N := (.ofNat 0, .ofNat 128, [(8, .ofNat 0, .ofNat 0)])
def hka08_160 : ai_V := .inl (false, hka08_159)
def hka08_161 : ai_C := .inr (.inr (0, [hka08_50, hka08_51, hka08_52, hka08_10, hka08_160]))
def hka08_162 : Bool × Option ai_C := (false, some hka08_161)
def hka08_163 : ai_N := (.negSucc 2147483647, .ofNat 2147483647, [(10, .ofNat 0, .ofNat 0)])
def hka08_164 : ai_V := .inl (false, hka08_163)
def hka08_165 : ai_C := .inr (.inr (1, [hka08_65, hka08_66, hka08_67, hka08_68, hka08_69, hka08_70, hka08_42, hka08_164]))
def hka08_166 : Bool × Option ai_C := (false, some hka08_165)
def hka08_167 : ai_W := [hka08_20, hka08_158, hka08_20, hka08_47, hka08_20, hka08_20, hka08_49, hka08_49, hka08_20, hka08_20, hka08_20, hka08_20, hka08_20, hka08_20, hka08_20, hka08_20, hka08_20, hka08_162, hka08_59, hka08_62, hka08_64, hka08_20, hka08_20, hka08_20, hka08_20, hka08_20, hka08_166, hka08_49, hka08_79, hka08_81, hka08_79, hka08_81, hka08_20, hka08_20, hka08_20, hka08_20, hka08_20, hka08_20, hka08_20, hka08_20, hka08_20, hka08_20, hka08_20, hka08_20, hka08_20, hka08_20, hka08_20, hka08_20, hka08_20, hka08_20, hka08_20, hka08_20, hka08_20, hka08_20, hka08_20, hka08_20, hka08_20, hka08_20, hka08_20, hka08_20, hka08_20, hka08_20, hka08_20, hka08_20, hka08_20, hka08_20, hka08_20, hka08_20, hka08_20, hka08_20, hka08_20, hka08_20, hka08_20, hka08_20, hka08_20, hka08_20]
def hka08_168 : ai_N := (.ofNat 0, .ofNat 127, [(8, .negSucc 127, .ofNat 0)])
def hka08_169 : ai_V := .inl (false, hka08_168)
def hka08_170 : ai_C := .inr (.inr (0, [hka08_50, hka08_51, hka08_52, hka08_10, hka08_169]))
def hka08_171 : ai_V := .inl (false, hka08_77)
def hka08_172 : ai_C := .inr (.inr (1, [hka08_65, hka08_66, hka08_67, hka08_68, hka08_69, hka08_70, hka08_171, hka08_86]))
def hka08_173 : ai_C := .inr (.inr (1, [hka08_65, hka08_66, hka08_67, hka08_68, hka08_69, hka08_70, hka08_171, hka08_16]))
def hka08_174 : ai_N := (.ofNat 1000, .ofNat 1000, [])
def hka08_175 : ai_V := .inl (false, hka08_174)
def hka08_176 : ai_C := .inr (.inr (1, [hka08_65, hka08_66, hka08_67, hka08_68, hka08_69, hka08_70, hka08_171, hka08_175]))
/-- NeverAgain$Delayer.findCheapest -/
def ka_650 : ai_K := (137, 13, (hka08_144, [hka08_9, hka08_10, hka08_19], [], hka08_167), [.inr (1, 6), .inr (1, 7), .inr (1, 8), .inr (1, 9), .inr (1, 10), .inr (1, 11), .inr (1, 12), .inr (1, 13), .inr (17, 4), .inr (26, 6), .inr (26, 7)], [(none, hka08_144, [(17, hka08_170), (18, hka08_58), (19, hka08_61), (20, hka08_63), (26, hka08_172), (27, hka08_48), (28, hka08_78), (29, hka08_80), (30, hka08_78), (31, hka08_80)]), (none, hka08_144, [(26, hka08_173), (27, hka08_48), (30, hka08_78), (31, hka08_80)]), (none, hka08_144, [(26, hka08_176), (27, hka08_48)])])
def hka08_177 : ai_E := [hka08_2, hka08_3, hka08_0, hka08_0, hka08_0, hka08_4, hka08_5, hka08_6, hka08_7, hka08_6, hka08_0, hka08_6]
def hka08_178 : Bool × Option ai_C := (true, some hka08_176)
def hka08_179 : Bool × Option ai_C := (true, some hka08_48)
def hka08_180 : ai_W := [hka08_20, hka08_158, hka08_20, hka08_47, hka08_20, hka08_20, hka08_49, hka08_49, hka08_20, hka08_20, hka08_20, hka08_20, hka08_20, hka08_20, hka08_20, hka08_20, hka08_20, hka08_162, hka08_59, hka08_62, hka08_64, hka08_20, hka08_20, hka08_20, hka08_20, hka08_20, hka08_178, hka08_179, hka08_79, hka08_81, hka08_79, hka08_81, hka08_20, hka08_20, hka08_20, hka08_20, hka08_20, hka08_20, hka08_20, hka08_20, hka08_20, hka08_20, hka08_20, hka08_20, hka08_20, hka08_20, hka08_20, hka08_20, hka08_20, hka08_20, hka08_20, hka08_20, hka08_20, hka08_20, hka08_20, hka08_20, hka08_20, hka08_20, hka08_20, hka08_20, hka08_20, hka08_20, hka08_20, hka08_20, hka08_20, hka08_20, hka08_20, hka08_20, hka08_20, hka08_20, hka08_20, hka08_20, hka08_20, hka08_20, hka08_20, hka08_20]
def kan_650 : List ai_Nd := [(21, (hka08_177, [hka08_9, hka08_10, hka08_72], [], hka08_180), [.inl 2], [.inl 99978, .inl 1, .inr (true, .ofNat 4, 11), .inl 100000])]
set_option maxRecDepth 1000000 in
theorem kak_650 : ai_ck [ka_434, ka_649] [] ka_650 [.inl 100000, .inl 0, .inl 0, .inl 0] kan_650 19 = true := by decide +kernel
theorem kah_650 : ai_holds ka_650 := ai_thm kak_650 (ai_cons kah_434 (ai_cons kah_649 ai_nil))
def hka08_181 : ai_E := [hka08_0, hka08_6, hka08_0]
def hka08_182 : ai_N := (.ofNat 0, .ofNat 4, [(1, .ofNat 0, .ofNat 0)])
def hka08_183 : ai_V := .inl (false, hka08_182)
def hka08_184 : ai_C := .inr (.inr (1, [hka08_65, hka08_66, hka08_67, hka08_68, hka08_69, hka08_70, hka08_183, hka08_150]))
def hka08_185 : Bool × Option ai_C := (false, some hka08_184)
def hka08_186 : ai_W := [hka08_20, hka08_20, hka08_20, hka08_20, hka08_20, hka08_20, hka08_20, hka08_20, hka08_20, hka08_20, hka08_20, hka08_20, hka08_20, hka08_20, hka08_20, hka08_20, hka08_20, hka08_20, hka08_20, hka08_20, hka08_20, hka08_20, hka08_20, hka08_20, hka08_20, hka08_20, hka08_185, hka08_20, hka08_20, hka08_20, hka08_20, hka08_20, hka08_20, hka08_20, hka08_20, hka08_20, hka08_20, hka08_20, hka08_20, hka08_20, hka08_20, hka08_20, hka08_20, hka08_20, hka08_20, hka08_20, hka08_20, hka08_20, hka08_20, hka08_20, hka08_20, hka08_20, hka08_20, hka08_20, hka08_20, hka08_20, hka08_20, hka08_20, hka08_20, hka08_20, hka08_20, hka08_20, hka08_20, hka08_20, hka08_20, hka08_20, hka08_20, hka08_20, hka08_20, hka08_20, hka08_20, hka08_20, hka08_20, hka08_20, hka08_20, hka08_20]
def hka08_187 : Int × Int := (.negSucc 2147483647, .ofNat 999)
def hka08_188 : ai_E := [hka08_1, hka08_3, hka08_187]
def hka08_189 : Int × Int := (.ofNat 0, .ofNat 2147483647)
def hka08_190 : ai_E := [hka08_189, hka08_6, hka08_187]
def hka08_191 : Int × Int := (.negSucc 2147483647, .negSucc 0)
def hka08_192 : ai_E := [hka08_191, hka08_6, hka08_187]
def hka08_193 : Int × Int := (.ofNat 1000, .ofNat 2147483647)
def hka08_194 : ai_E := [hka08_0, hka08_6, hka08_193]
/-- NeverAgain$Delayer.has -/
def ka_651 : ai_K := (173, 0, (hka08_181, [hka08_9, hka08_14], [], hka08_186), [.inl 1, .inr (26, 6), .inr (26, 7)], [(some hka08_12, hka08_188, []), (some hka08_16, hka08_190, []), (some hka08_16, hka08_192, []), (some hka08_16, hka08_194, [])])
def kan_651 : List ai_Nd := []
set_option maxRecDepth 1000000 in
theorem kak_651 : ai_ck [] [] ka_651 [.inl 100000] kan_651 14 = true := by decide +kernel
theorem kah_651 : ai_holds ka_651 := ai_thm kak_651 ai_nil
def hka08_195 : ai_W := [hka08_20, hka08_20, hka08_20, hka08_20, hka08_20, hka08_20, hka08_20, hka08_20, hka08_20, hka08_20, hka08_20, hka08_20, hka08_20, hka08_20, hka08_20, hka08_20, hka08_20, hka08_20, hka08_20, hka08_20, hka08_20, hka08_20, hka08_20, hka08_20, hka08_20, hka08_20, hka08_185, hka08_20, hka08_20, hka08_20, hka08_79, hka08_20, hka08_20, hka08_20, hka08_20, hka08_20, hka08_20, hka08_20, hka08_20, hka08_20, hka08_20, hka08_20, hka08_20, hka08_20, hka08_20, hka08_20, hka08_20, hka08_20, hka08_20, hka08_20, hka08_20, hka08_20, hka08_20, hka08_20, hka08_20, hka08_20, hka08_20, hka08_20, hka08_20, hka08_20, hka08_20, hka08_20, hka08_20, hka08_20, hka08_20, hka08_20, hka08_20, hka08_20, hka08_20, hka08_20, hka08_20, hka08_20, hka08_20, hka08_20, hka08_20, hka08_20]
def hka08_196 : ai_N := (.negSucc 3, .negSucc 3, [])
def hka08_197 : ai_V := .inl (false, hka08_196)
/-- NeverAgain$Delayer.dayOf -/
def ka_652 : ai_K := (139, 1, (hka08_181, [hka08_9, hka08_14], [], hka08_195), [.inl 1, .inr (26, 6), .inr (26, 7)], [(some hka08_197, hka08_194, []), (some hka08_197, hka08_192, []), (some hka08_197, hka08_190, []), (some hka08_171, hka08_188, [])])
def kan_652 : List ai_Nd := []
set_option maxRecDepth 1000000 in
theorem kak_652 : ai_ck [ka_651] [] ka_652 [.inl 100000] kan_652 11 = true := by decide +kernel
theorem kah_652 : ai_holds ka_652 := ai_thm kak_652 (ai_cons kah_651 ai_nil)
def hka08_198 : ai_W := [hka08_20, hka08_20, hka08_20, hka08_20, hka08_20, hka08_20, hka08_20, hka08_20, hka08_20, hka08_20, hka08_20, hka08_20, hka08_20, hka08_20, hka08_20, hka08_20, hka08_20, hka08_20, hka08_20, hka08_20, hka08_20, hka08_20, hka08_20, hka08_20, hka08_20, hka08_20, hka08_185, hka08_20, hka08_20, hka08_20, hka08_20, hka08_81, hka08_20, hka08_20, hka08_20, hka08_20, hka08_20, hka08_20, hka08_20, hka08_20, hka08_20, hka08_20, hka08_20, hka08_20, hka08_20, hka08_20, hka08_20, hka08_20, hka08_20, hka08_20, hka08_20, hka08_20, hka08_20, hka08_20, hka08_20, hka08_20, hka08_20, hka08_20, hka08_20, hka08_20, hka08_20, hka08_20, hka08_20, hka08_20, hka08_20, hka08_20, hka08_20, hka08_20, hka08_20, hka08_20, hka08_20, hka08_20, hka08_20, hka08_20, hka08_20, hka08_20]
def hka08_199 : ai_V := .inl (false, hka08_57)
/-- NeverAgain$Delayer.numberOf -/
def ka_653 : ai_K := (140, 1, (hka08_181, [hka08_9, hka08_14], [], hka08_198), [.inl 1, .inr (26, 6), .inr (26, 7)], [(some hka08_197, hka08_194, []), (some hka08_197, hka08_192, []), (some hka08_197, hka08_190, []), (some hka08_199, hka08_188, [])])
def kan_653 : List ai_Nd := []
set_option maxRecDepth 1000000 in
theorem kak_653 : ai_ck [ka_651] [] ka_653 [.inl 100000] kan_653 11 = true := by decide +kernel
theorem kah_653 : ai_holds ka_653 := ai_thm kak_653 (ai_cons kah_651 ai_nil)
def hka08_200 : ai_E := [hka08_6, hka08_0]
def hka08_201 : ai_N := (.ofNat 0, .ofNat 4, [(0, .ofNat 0, .ofNat 0)])
def hka08_202 : ai_V := .inl (false, hka08_201)
def hka08_203 : ai_N := (.negSucc 2147483647, .ofNat 2147483647, [(1, .ofNat 0, .ofNat 0)])
def hka08_204 : ai_V := .inl (false, hka08_203)
def hka08_205 : ai_C := .inr (.inr (1, [hka08_65, hka08_66, hka08_67, hka08_68, hka08_69, hka08_70, hka08_202, hka08_204]))
def hka08_206 : Bool × Option ai_C := (false, some hka08_205)
def hka08_207 : ai_W := [hka08_20, hka08_20, hka08_20, hka08_20, hka08_20, hka08_20, hka08_20, hka08_20, hka08_20, hka08_20, hka08_20, hka08_20, hka08_20, hka08_20, hka08_20, hka08_20, hka08_20, hka08_20, hka08_20, hka08_20, hka08_20, hka08_20, hka08_20, hka08_20, hka08_20, hka08_20, hka08_206, hka08_20, hka08_20, hka08_20, hka08_20, hka08_20, hka08_20, hka08_20, hka08_20, hka08_20, hka08_20, hka08_20, hka08_20, hka08_20, hka08_20, hka08_20, hka08_20, hka08_20, hka08_20, hka08_20, hka08_20, hka08_20, hka08_20, hka08_20, hka08_20, hka08_20, hka08_20, hka08_20, hka08_20, hka08_20, hka08_20, hka08_20, hka08_20, hka08_20, hka08_20, hka08_20, hka08_20, hka08_20, hka08_20, hka08_20, hka08_20, hka08_20, hka08_20, hka08_20, hka08_20, hka08_20, hka08_20, hka08_20, hka08_20, hka08_20]
def hka08_208 : ai_N := (.negSucc 2147483647, .ofNat 999, [(1, .ofNat 0, .ofNat 0)])
def hka08_209 : ai_V := .inl (false, hka08_208)
def hka08_210 : ai_E := [hka08_6, hka08_187]
def hka08_211 : ai_E := [hka08_6, hka08_193]
/-- NeverAgain$Delayer.allStrokes -/
def ka_654 : ai_K := (138, 0, (hka08_200, [hka08_9], [], hka08_207), [.inr (26, 6), .inr (26, 7)], [(some hka08_209, hka08_210, []), (some hka08_197, hka08_211, [])])
def kan_654 : List ai_Nd := []
set_option maxRecDepth 1000000 in
theorem kak_654 : ai_ck [] [] ka_654 [.inl 100000] kan_654 9 = true := by decide +kernel
theorem kah_654 : ai_holds ka_654 := ai_thm kak_654 ai_nil
def hka08_212 : Int × Int := (.ofNat 0, .ofNat 12)
def hka08_213 : Int × Int := (.ofNat 0, .ofNat 6)
def hka08_214 : ai_E := [hka08_0, hka08_212, hka08_213, hka08_6, hka08_2, hka08_3, hka08_0, hka08_0, hka08_0, hka08_4, hka08_5, hka08_6, hka08_7, hka08_6, hka08_0]
def hka08_215 : ai_V := .inr (some (.ref 0))
def hka08_216 : ai_V := .inr (some (.ref 15))
def hka08_217 : ai_V := .inr (some (.ref 21))
def hka08_218 : ai_V := .inr (some (.ref 32))
def hka08_219 : ai_V := .inr (some (.ref 35))
def hka08_220 : ai_V := .inr (some (.ref 34))
def hka08_221 : ai_V := .inr (some (.ref 50))
def hka08_222 : ai_V := .inr (some (.ref 33))
def hka08_223 : ai_V := .inr (some (.ref 8))
def hka08_224 : ai_N := (.ofNat 0, .ofNat 12, [(1, .ofNat 0, .ofNat 0)])
def hka08_225 : ai_V := .inl (false, hka08_224)
def hka08_226 : ai_N := (.ofNat 0, .ofNat 6, [(2, .ofNat 0, .ofNat 0)])
def hka08_227 : ai_V := .inl (false, hka08_226)
def hka08_228 : ai_N := (.ofNat 0, .ofNat 4, [(3, .ofNat 0, .ofNat 0)])
def hka08_229 : ai_V := .inl (false, hka08_228)
def hka08_230 : ai_C := .inr (.inr (7, [hka08_216, hka08_65, hka08_217, hka08_9, hka08_218, hka08_219, hka08_220, hka08_221, hka08_222, hka08_10, hka08_223, hka08_225, hka08_227, hka08_229]))
def hka08_231 : Bool × Option ai_C := (false, some hka08_230)
def hka08_232 : ai_N := (.ofNat 4, .ofNat 16, [(4, .ofNat 0, .ofNat 0)])
def hka08_233 : ai_V := .inl (false, hka08_232)
def hka08_234 : ai_N := (.ofNat 1, .ofNat 4, [(5, .ofNat 0, .ofNat 0)])
def hka08_235 : ai_V := .inl (false, hka08_234)
def hka08_236 : ai_N := (.negSucc 2147483647, .ofNat 2147483647, [(7, .ofNat 0, .ofNat 0)])
def hka08_237 : ai_V := .inl (false, hka08_236)
def hka08_238 : ai_N := (.negSucc 2147483647, .ofNat 2147483647, [(8, .ofNat 0, .ofNat 0)])
def hka08_239 : ai_V := .inl (false, hka08_238)
def hka08_240 : ai_N := (.ofNat 0, .ofNat 60, [(9, .ofNat 0, .ofNat 0)])
def hka08_241 : ai_V := .inl (false, hka08_240)
def hka08_242 : ai_N := (.ofNat 0, .ofNat 5, [(10, .ofNat 0, .ofNat 0)])
def hka08_243 : ai_V := .inl (false, hka08_242)
def hka08_244 : ai_C := .inr (.inr (6, [hka08_21, hka08_22, hka08_23, hka08_24, hka08_25, hka08_26, hka08_233, hka08_235, hka08_36, hka08_237, hka08_239, hka08_241, hka08_243, hka08_72]))
def hka08_245 : Bool × Option ai_C := (false, some hka08_244)
def hka08_246 : ai_C := .inl (.int, [(60, hka08_45)])
def hka08_247 : Bool × Option ai_C := (false, some hka08_246)
def hka08_248 : ai_N := (.ofNat 0, .ofNat 128, [(12, .ofNat 0, .ofNat 0)])
def hka08_249 : ai_V := .inl (false, hka08_248)
def hka08_250 : ai_C := .inr (.inr (0, [hka08_50, hka08_51, hka08_52, hka08_19, hka08_249]))
def hka08_251 : Bool × Option ai_C := (false, some hka08_250)
def hka08_252 : ai_N := (.ofNat 0, .ofNat 4, [(13, .ofNat 0, .ofNat 0)])
def hka08_253 : ai_V := .inl (false, hka08_252)
def hka08_254 : ai_N := (.negSucc 2147483647, .ofNat 2147483647, [(14, .ofNat 0, .ofNat 0)])
def hka08_255 : ai_V := .inl (false, hka08_254)
def hka08_256 : ai_C := .inr (.inr (1, [hka08_65, hka08_66, hka08_67, hka08_68, hka08_69, hka08_70, hka08_253, hka08_255]))
def hka08_257 : Bool × Option ai_C := (false, some hka08_256)
def hka08_258 : ai_W := [hka08_231, hka08_245, hka08_20, hka08_47, hka08_247, hka08_20, hka08_49, hka08_49, hka08_20, hka08_20, hka08_20, hka08_20, hka08_20, hka08_20, hka08_20, hka08_20, hka08_20, hka08_251, hka08_59, hka08_62, hka08_64, hka08_20, hka08_20, hka08_20, hka08_20, hka08_20, hka08_257, hka08_49, hka08_79, hka08_81, hka08_79, hka08_81, hka08_20, hka08_20, hka08_20, hka08_20, hka08_20, hka08_20, hka08_20, hka08_20, hka08_20, hka08_20, hka08_20, hka08_20, hka08_20, hka08_20, hka08_20, hka08_20, hka08_20, hka08_20, hka08_20, hka08_20, hka08_20, hka08_20, hka08_20, hka08_20, hka08_20, hka08_20, hka08_20, hka08_20, hka08_20, hka08_20, hka08_20, hka08_20, hka08_20, hka08_20, hka08_20, hka08_20, hka08_20, hka08_20, hka08_20, hka08_20, hka08_20, hka08_20, hka08_20, hka08_20]
def hka08_259 : Int × Int := (.ofNat 0, .ofNat 23)
def hka08_260 : ai_E := [hka08_259, hka08_212, hka08_213, hka08_6, hka08_2, hka08_3, hka08_0, hka08_0, hka08_0, hka08_4, hka08_5, hka08_6, hka08_7, hka08_6, hka08_0]
def hka08_261 : ai_N := (.ofNat 0, .ofNat 128, [])
def hka08_262 : ai_V := .inl (false, hka08_261)
def hka08_263 : ai_C := .inr (.inr (0, [hka08_50, hka08_51, hka08_52, hka08_10, hka08_262]))
def hka08_264 : Int × Int := (.ofNat 10, .ofNat 23)
def hka08_265 : ai_E := [hka08_264, hka08_212, hka08_213, hka08_6, hka08_2, hka08_3, hka08_0, hka08_0, hka08_0, hka08_4, hka08_5, hka08_6, hka08_7, hka08_6, hka08_0]
def hka08_266 : ai_N := (.ofNat 1, .ofNat 4, [])
def hka08_267 : ai_V := .inl (false, hka08_266)
def hka08_268 : ai_C := .inr (.inr (1, [hka08_65, hka08_66, hka08_67, hka08_68, hka08_69, hka08_70, hka08_267, hka08_16]))
def hka08_269 : ai_N := (.negSucc 2147483647, .ofNat 999, [])
def hka08_270 : ai_V := .inl (false, hka08_269)
def hka08_271 : ai_N := (.ofNat 0, .ofNat 127, [])
def hka08_272 : ai_V := .inl (false, hka08_271)
def hka08_273 : ai_C := .inr (.inr (0, [hka08_50, hka08_51, hka08_52, hka08_10, hka08_272]))
def hka08_274 : ai_C := .inr (.inr (1, [hka08_65, hka08_66, hka08_67, hka08_68, hka08_69, hka08_70, hka08_171, hka08_270]))
def hka08_275 : ai_N := (.negSucc 0, .negSucc 0, [])
def hka08_276 : ai_V := .inl (false, hka08_275)
def hka08_277 : ai_E := [hka08_126, hka08_212, hka08_213, hka08_6, hka08_2, hka08_3, hka08_0, hka08_0, hka08_0, hka08_4, hka08_5, hka08_6, hka08_7, hka08_6, hka08_0]
/-- NeverAgain.putOff -/
def ka_655 : ai_K := (65, 14, (hka08_214, [hka08_215, hka08_14, hka08_19, hka08_19], [], hka08_258), [.inl 1, .inr (0, 11), .inr (0, 12), .inr (0, 13), .inr (1, 6), .inr (1, 7), .inr (1, 8), .inr (1, 9), .inr (1, 10), .inr (1, 11), .inr (1, 12), .inr (1, 13), .inr (17, 4), .inr (26, 6), .inr (26, 7)], [(some hka08_197, hka08_260, [(17, hka08_263), (18, hka08_58), (19, hka08_61), (20, hka08_63), (26, hka08_176), (27, hka08_48)]), (some hka08_199, hka08_265, [(17, hka08_263), (18, hka08_58), (19, hka08_61), (20, hka08_63), (26, hka08_268), (27, hka08_48), (30, hka08_78), (31, hka08_80)]), (some hka08_197, hka08_265, [(17, hka08_263), (18, hka08_58), (19, hka08_61), (20, hka08_63), (26, hka08_173), (27, hka08_48), (30, hka08_78), (31, hka08_80)]), (some hka08_270, hka08_260, [(17, hka08_273), (18, hka08_58), (19, hka08_61), (20, hka08_63), (26, hka08_274), (27, hka08_48), (28, hka08_78), (29, hka08_80), (30, hka08_78), (31, hka08_80)]), (some hka08_197, hka08_260, [(17, hka08_273), (18, hka08_58), (19, hka08_61), (20, hka08_63), (26, hka08_172), (27, hka08_48), (28, hka08_78), (29, hka08_80), (30, hka08_78), (31, hka08_80)]), (some hka08_276, hka08_214, []), (some hka08_16, hka08_277, [(17, hka08_263), (18, hka08_58), (19, hka08_61), (20, hka08_63), (26, hka08_173), (27, hka08_48), (30, hka08_78), (31, hka08_80)])])
def kan_655 : List ai_Nd := []
set_option maxRecDepth 1000000 in
theorem kak_655 : ai_ck [ka_654, ka_652, ka_653, ka_376, ka_650] [] ka_655 [.inl 100000] kan_655 46 = true := by decide +kernel
theorem kah_655 : ai_holds ka_655 := ai_thm kak_655 (ai_cons kah_654 (ai_cons kah_652 (ai_cons kah_653 (ai_cons kah_376 (ai_cons kah_650 ai_nil)))))
def hka08_278 : ai_V := .inl (true, hka08_13)
def hka08_279 : ai_N := (.ofNat 10, .ofNat 10, [])
def hka08_280 : ai_V := .inl (true, hka08_279)
def hka08_281 : ai_N := (.ofNat 13, .ofNat 13, [])
def hka08_282 : ai_V := .inl (true, hka08_281)
def hka08_283 : ai_W := [hka08_20, hka08_20, hka08_20, hka08_20, hka08_20, hka08_20, hka08_20, hka08_20, hka08_20, hka08_20, hka08_20, hka08_20, hka08_20, hka08_20, hka08_20, hka08_20, hka08_20, hka08_20, hka08_20, hka08_20, hka08_20, hka08_20, hka08_20, hka08_20, hka08_20, hka08_20, hka08_20, hka08_20, hka08_20, hka08_20, hka08_20, hka08_20, hka08_20, hka08_20, hka08_20, hka08_20, hka08_20, hka08_20, hka08_20, hka08_20, hka08_20, hka08_20, hka08_20, hka08_20, hka08_20, hka08_20, hka08_20, hka08_20, hka08_20, hka08_20, hka08_20, hka08_20, hka08_20, hka08_20, hka08_20, hka08_20, hka08_20, hka08_20, hka08_20, hka08_20, hka08_20, hka08_20, hka08_20, hka08_20, hka08_20, hka08_20, hka08_20, hka08_20, hka08_20, hka08_20, hka08_20, hka08_20, hka08_20, hka08_20, hka08_20, hka08_20]
def hka08_284 : Int × Int := (.ofNat 14, .ofNat 2147483647)
def hka08_285 : Int × Int := (.ofNat 13, .ofNat 13)
def hka08_286 : Int × Int := (.ofNat 11, .ofNat 12)
def hka08_287 : Int × Int := (.ofNat 10, .ofNat 10)
def hka08_288 : Int × Int := (.negSucc 2147483647, .ofNat 9)
/-- NeverAgainModel.in -/
def ka_656 : ai_K := (93, 0, ([hka08_0], [hka08_278, hka08_19, hka08_280, hka08_19, hka08_282, hka08_19], [], hka08_283), [.inl 0], [(some hka08_16, [hka08_284], []), (some hka08_12, [hka08_285], []), (some hka08_12, [hka08_286], []), (some hka08_12, [hka08_287], []), (some hka08_16, [hka08_288], [])])
def kan_656 : List ai_Nd := []
set_option maxRecDepth 1000000 in
theorem kak_656 : ai_ck [] [] ka_656 [.inl 100000] kan_656 12 = true := by decide +kernel
theorem kah_656 : ai_holds ka_656 := ai_thm kak_656 ai_nil
def hka08_289 : ai_N := (.negSucc 2147483647, .ofNat 9, [(0, .ofNat 0, .ofNat 0)])
def hka08_290 : ai_V := .inl (true, hka08_289)
def hka08_291 : ai_N := (.ofNat 20, .ofNat 20, [])
def hka08_292 : ai_V := .inl (true, hka08_291)
def hka08_293 : ai_N := (.ofNat 23, .ofNat 23, [])
def hka08_294 : ai_V := .inl (true, hka08_293)
/-- NeverAgainModel.in -/
def ka_657 : ai_K := (93, 0, ([hka08_288], [hka08_290, hka08_19, hka08_292, hka08_19, hka08_294, hka08_19], [], hka08_283), [.inl 0], [(some hka08_16, [hka08_288], [])])
def kan_657 : List ai_Nd := []
set_option maxRecDepth 1000000 in
theorem kak_657 : ai_ck [] [] ka_657 [.inl 100000] kan_657 7 = true := by decide +kernel
theorem kah_657 : ai_holds ka_657 := ai_thm kak_657 ai_nil
def hka08_295 : Int × Int := (.ofNat 0, .ofNat 16)
def hka08_296 : Int × Int := (.negSucc 3, .ofNat 3)
def hka08_297 : Int × Int := (.ofNat 0, .ofNat 400)
def hka08_298 : Int × Int := (.ofNat 0, .ofNat 130)
def hka08_299 : Int × Int := (.ofNat 0, .ofNat 20)
def hka08_300 : Int × Int := (.ofNat 0, .ofNat 1)
def hka08_301 : Int × Int := (.negSucc 3, .ofNat 2)
def hka08_302 : ai_E := [hka08_0, hka08_2, hka08_3, hka08_212, hka08_295, hka08_6, hka08_0, hka08_295, hka08_296, hka08_297, hka08_297, hka08_297, hka08_1, hka08_0, hka08_213, hka08_297, hka08_298, hka08_0, hka08_6, hka08_4, hka08_299, hka08_300, hka08_301, hka08_5, hka08_6, hka08_4, hka08_299, hka08_300, hka08_301, hka08_5, hka08_6, hka08_4, hka08_299, hka08_300, hka08_301, hka08_5, hka08_6]
def hka08_303 : ai_V := .inr (some (.ref 59))
def hka08_304 : ai_V := .inr (some (.ref 60))
def hka08_305 : ai_V := .inr (some (.ref 61))
def hka08_306 : ai_V := .inr (some (.ref 62))
def hka08_307 : ai_V := .inr (some (.ref 63))
def hka08_308 : ai_N := (.ofNat 0, .ofNat 12, [(3, .ofNat 0, .ofNat 0)])
def hka08_309 : ai_V := .inl (false, hka08_308)
def hka08_310 : ai_V := .inr (some (.ref 64))
def hka08_311 : ai_N := (.ofNat 0, .ofNat 16, [(4, .ofNat 0, .ofNat 0)])
def hka08_312 : ai_V := .inl (false, hka08_311)
def hka08_313 : ai_N := (.ofNat 0, .ofNat 4, [(5, .ofNat 0, .ofNat 0)])
def hka08_314 : ai_V := .inl (false, hka08_313)
def hka08_315 : ai_V := .inr (some (.ref 65))
def hka08_316 : ai_N := (.ofNat 0, .ofNat 16, [(7, .ofNat 0, .ofNat 0)])
def hka08_317 : ai_V := .inl (false, hka08_316)
def hka08_318 : ai_N := (.negSucc 3, .ofNat 3, [(8, .ofNat 0, .ofNat 0)])
def hka08_319 : ai_V := .inl (false, hka08_318)
def hka08_320 : ai_V := .inr (some (.ref 66))
def hka08_321 : ai_N := (.ofNat 0, .ofNat 400, [(9, .ofNat 0, .ofNat 0)])
def hka08_322 : ai_V := .inl (false, hka08_321)
def hka08_323 : ai_N := (.ofNat 0, .ofNat 400, [(10, .ofNat 0, .ofNat 0)])
def hka08_324 : ai_V := .inl (false, hka08_323)
def hka08_325 : ai_N := (.ofNat 0, .ofNat 400, [(11, .ofNat 0, .ofNat 0)])
def hka08_326 : ai_V := .inl (false, hka08_325)
def hka08_327 : ai_N := (.ofNat 0, .ofNat 3, [(12, .ofNat 0, .ofNat 0)])
def hka08_328 : ai_V := .inl (false, hka08_327)
def hka08_329 : ai_N := (.negSucc 2147483647, .ofNat 2147483647, [(13, .ofNat 0, .ofNat 0)])
def hka08_330 : ai_V := .inl (false, hka08_329)
def hka08_331 : ai_N := (.ofNat 0, .ofNat 6, [(14, .ofNat 0, .ofNat 0)])
def hka08_332 : ai_V := .inl (false, hka08_331)
def hka08_333 : ai_N := (.ofNat 0, .ofNat 400, [(15, .ofNat 0, .ofNat 0)])
def hka08_334 : ai_V := .inl (false, hka08_333)
def hka08_335 : ai_V := .inr (some (.ref 67))
def hka08_336 : ai_N := (.ofNat 0, .ofNat 130, [(16, .ofNat 0, .ofNat 0)])
def hka08_337 : ai_V := .inl (false, hka08_336)
def hka08_338 : ai_V := .inr (some (.ref 68))
def hka08_339 : ai_V := .inr (some (.ref 69))
def hka08_340 : ai_N := (.negSucc 2147483647, .ofNat 2147483647, [(17, .ofNat 0, .ofNat 0)])
def hka08_341 : ai_V := .inl (false, hka08_340)
def hka08_342 : ai_V := .inr (some (.ref 70))
def hka08_343 : ai_V := .inr (some (.ref 71))
def hka08_344 : ai_V := .inr (some (.ref 72))
def hka08_345 : ai_V := .inr (some (.ref 73))
def hka08_346 : ai_V := .inr (some (.ref 74))
def hka08_347 : ai_V := .inr (some (.ref 75))
def hka08_348 : ai_N := (.ofNat 0, .ofNat 4, [(18, .ofNat 0, .ofNat 0)])
def hka08_349 : ai_V := .inl (false, hka08_348)
def hka08_350 : ai_C := .inr (.inr (8, [hka08_304, hka08_305, hka08_102, hka08_104, hka08_306, hka08_307, hka08_309, hka08_310, hka08_312, hka08_314, hka08_315, hka08_36, hka08_317, hka08_319, hka08_320, hka08_322, hka08_324, hka08_326, hka08_328, hka08_330, hka08_332, hka08_334, hka08_335, hka08_337, hka08_338, hka08_339, hka08_341, hka08_342, hka08_343, hka08_344, hka08_345, hka08_346, hka08_347, hka08_349]))
def hka08_351 : Bool × Option ai_C := (false, some hka08_350)
def hka08_352 : ai_N := (.ofNat 0, .ofNat 60, [(19, .ofNat 0, .ofNat 0)])
def hka08_353 : ai_N := (.negSucc 3, .ofNat 3, [])
def hka08_354 : ai_N := (.ofNat 0, .ofNat 20, [(20, .ofNat 0, .ofNat 0)])
def hka08_355 : ai_N := (.ofNat 0, .ofNat 1, [(21, .ofNat 0, .ofNat 0)])
def hka08_356 : ai_N := (.negSucc 3, .ofNat 2, [(22, .ofNat 0, .ofNat 0)])
def hka08_357 : ai_N := (.ofNat 0, .ofNat 5, [(23, .ofNat 0, .ofNat 0)])
def hka08_358 : ai_N := (.ofNat 0, .ofNat 3, [])
def hka08_359 : ai_N := (.ofNat 0, .ofNat 4, [(24, .ofNat 0, .ofNat 0)])
def hka08_360 : ai_N := (.ofNat 0, .ofNat 60, [(25, .ofNat 0, .ofNat 0)])
def hka08_361 : ai_N := (.ofNat 0, .ofNat 20, [(26, .ofNat 0, .ofNat 0)])
def hka08_362 : ai_N := (.ofNat 0, .ofNat 1, [(27, .ofNat 0, .ofNat 0)])
def hka08_363 : ai_N := (.negSucc 3, .ofNat 2, [(28, .ofNat 0, .ofNat 0)])
def hka08_364 : ai_N := (.ofNat 0, .ofNat 5, [(29, .ofNat 0, .ofNat 0)])
def hka08_365 : ai_N := (.ofNat 0, .ofNat 4, [(30, .ofNat 0, .ofNat 0)])
def hka08_366 : ai_N := (.ofNat 0, .ofNat 60, [(31, .ofNat 0, .ofNat 0)])
def hka08_367 : ai_N := (.ofNat 0, .ofNat 20, [(32, .ofNat 0, .ofNat 0)])
def hka08_368 : ai_N := (.ofNat 0, .ofNat 1, [(33, .ofNat 0, .ofNat 0)])
def hka08_369 : ai_N := (.negSucc 3, .ofNat 2, [(34, .ofNat 0, .ofNat 0)])
def hka08_370 : ai_N := (.ofNat 0, .ofNat 5, [(35, .ofNat 0, .ofNat 0)])
def hka08_371 : ai_N := (.ofNat 0, .ofNat 4, [(36, .ofNat 0, .ofNat 0)])
def hka08_372 : ai_C := .inl (.int, [(1, hka08_352), (60, hka08_57), (17, hka08_353), (1, hka08_354), (1, hka08_355), (1, hka08_356), (1, hka08_357), (5, hka08_358), (1, hka08_359), (8, hka08_77), (1, hka08_360), (60, hka08_57), (17, hka08_353), (1, hka08_361), (1, hka08_362), (1, hka08_363), (1, hka08_364), (5, hka08_358), (1, hka08_365), (8, hka08_77), (1, hka08_366), (60, hka08_57), (17, hka08_353), (1, hka08_367), (1, hka08_368), (1, hka08_369), (1, hka08_370), (5, hka08_358), (1, hka08_371), (8, hka08_77)])
def hka08_373 : Bool × Option ai_C := (false, some hka08_372)
def hka08_374 : ai_W := [hka08_20, hka08_20, hka08_20, hka08_20, hka08_20, hka08_20, hka08_20, hka08_20, hka08_20, hka08_20, hka08_20, hka08_20, hka08_20, hka08_20, hka08_20, hka08_20, hka08_20, hka08_20, hka08_20, hka08_20, hka08_20, hka08_20, hka08_20, hka08_20, hka08_20, hka08_20, hka08_20, hka08_20, hka08_20, hka08_20, hka08_20, hka08_20, hka08_20, hka08_20, hka08_20, hka08_20, hka08_20, hka08_20, hka08_20, hka08_20, hka08_20, hka08_20, hka08_20, hka08_20, hka08_20, hka08_20, hka08_20, hka08_20, hka08_20, hka08_20, hka08_20, hka08_20, hka08_20, hka08_20, hka08_20, hka08_20, hka08_20, hka08_20, hka08_20, hka08_351, hka08_373, hka08_20, hka08_20, hka08_20, hka08_20, hka08_20, hka08_20, hka08_20, hka08_20, hka08_20, hka08_20, hka08_20, hka08_20, hka08_20, hka08_20, hka08_20]
def hka08_375 : ai_N := (.ofNat 0, .ofNat 1, [])
def hka08_376 : ai_V := .inl (false, hka08_375)
/-- NeverAgainModel.isLate -/
def ka_661 : ai_K := (174, 0, (hka08_302, [hka08_303, hka08_12, hka08_14, hka08_19, hka08_19], [], hka08_374), [.inl 2, .inr (59, 2), .inr (59, 3), .inr (59, 6), .inr (59, 8), .inr (59, 9), .inr (59, 11), .inr (59, 12), .inr (59, 13), .inr (59, 15), .inr (59, 16), .inr (59, 17), .inr (59, 18), .inr (59, 19), .inr (59, 20), .inr (59, 21), .inr (59, 23), .inr (59, 26), .inr (59, 33), .inr (60, 0), .inr (60, 78), .inr (60, 79), .inr (60, 80), .inr (60, 81), .inr (60, 87), .inr (60, 96), .inr (60, 174), .inr (60, 175), .inr (60, 176), .inr (60, 177), .inr (60, 183), .inr (60, 192), .inr (60, 270), .inr (60, 271), .inr (60, 272), .inr (60, 273), .inr (60, 279)], [(some hka08_376, hka08_302, [])])
def hka08_377 : ai_E := [hka08_0, hka08_2, hka08_3, hka08_212, hka08_295, hka08_6, hka08_0, hka08_295, hka08_296, hka08_297, hka08_297, hka08_297, hka08_1, hka08_0, hka08_213, hka08_297, hka08_298, hka08_0, hka08_6, hka08_4, hka08_299, hka08_300, hka08_301, hka08_5, hka08_6, hka08_4, hka08_299, hka08_300, hka08_301, hka08_5, hka08_6, hka08_4, hka08_299, hka08_300, hka08_301, hka08_5, hka08_6, hka08_6]
def hka08_378 : ai_N := (.ofNat 0, .ofNat 4, [(37, .ofNat 0, .ofNat 0)])
def hka08_379 : ai_V := .inl (false, hka08_378)
def kan_661 : List ai_Nd := [(5, (hka08_377, [hka08_303, hka08_12, hka08_14, hka08_376, hka08_379], [], hka08_374), [.inl 4], [.inl 99994, .inl 1, .inr (true, .ofNat 4, 37), .inl 100000])]
set_option maxRecDepth 1000000 in
theorem kak_661 : ai_ck [] [] ka_661 [.inl 100000, .inl 0, .inl 0, .inl 0] kan_661 33 = true := by decide +kernel
theorem kah_661 : ai_holds ka_661 := ai_thm kak_661 ai_nil
/-- NeverAgainModel.isLate -/
def ka_663 : ai_K := (174, 0, (hka08_302, [hka08_303, hka08_16, hka08_14, hka08_19, hka08_19], [], hka08_374), [.inl 2, .inr (59, 2), .inr (59, 3), .inr (59, 6), .inr (59, 8), .inr (59, 9), .inr (59, 11), .inr (59, 12), .inr (59, 13), .inr (59, 15), .inr (59, 16), .inr (59, 17), .inr (59, 18), .inr (59, 19), .inr (59, 20), .inr (59, 21), .inr (59, 23), .inr (59, 26), .inr (59, 33), .inr (60, 0), .inr (60, 78), .inr (60, 79), .inr (60, 80), .inr (60, 81), .inr (60, 87), .inr (60, 96), .inr (60, 174), .inr (60, 175), .inr (60, 176), .inr (60, 177), .inr (60, 183), .inr (60, 192), .inr (60, 270), .inr (60, 271), .inr (60, 272), .inr (60, 273), .inr (60, 279)], [(some hka08_16, hka08_302, [])])
def kan_663 : List ai_Nd := [(5, (hka08_377, [hka08_303, hka08_16, hka08_14, hka08_16, hka08_379], [], hka08_374), [.inl 4], [.inl 99994, .inl 1, .inr (true, .ofNat 4, 37), .inl 100000])]
set_option maxRecDepth 1000000 in
theorem kak_663 : ai_ck [] [] ka_663 [.inl 100000, .inl 0, .inl 0, .inl 0] kan_663 32 = true := by decide +kernel
theorem kah_663 : ai_holds ka_663 := ai_thm kak_663 ai_nil
def hka08_380 : ai_N := (.ofNat 2, .ofNat 2, [])
def hka08_381 : ai_V := .inl (false, hka08_380)
/-- NeverAgainModel.isLate -/
def ka_666 : ai_K := (174, 0, (hka08_302, [hka08_303, hka08_381, hka08_14, hka08_19, hka08_19], [], hka08_374), [.inl 2, .inr (59, 2), .inr (59, 3), .inr (59, 6), .inr (59, 8), .inr (59, 9), .inr (59, 11), .inr (59, 12), .inr (59, 13), .inr (59, 15), .inr (59, 16), .inr (59, 17), .inr (59, 18), .inr (59, 19), .inr (59, 20), .inr (59, 21), .inr (59, 23), .inr (59, 26), .inr (59, 33), .inr (60, 0), .inr (60, 78), .inr (60, 79), .inr (60, 80), .inr (60, 81), .inr (60, 87), .inr (60, 96), .inr (60, 174), .inr (60, 175), .inr (60, 176), .inr (60, 177), .inr (60, 183), .inr (60, 192), .inr (60, 270), .inr (60, 271), .inr (60, 272), .inr (60, 273), .inr (60, 279)], [(some hka08_376, hka08_302, [])])
def kan_666 : List ai_Nd := [(5, (hka08_377, [hka08_303, hka08_381, hka08_14, hka08_376, hka08_379], [], hka08_374), [.inl 4], [.inl 99994, .inl 1, .inr (true, .ofNat 4, 37), .inl 100000])]
set_option maxRecDepth 1000000 in
theorem kak_666 : ai_ck [] [] ka_666 [.inl 100000, .inl 0, .inl 0, .inl 0] kan_666 33 = true := by decide +kernel
theorem kah_666 : ai_holds ka_666 := ai_thm kak_666 ai_nil
def hka08_382 : ai_N := (.ofNat 3, .ofNat 3, [])
def hka08_383 : ai_V := .inl (false, hka08_382)
/-- NeverAgainModel.isLate -/
def ka_671 : ai_K := (174, 0, (hka08_302, [hka08_303, hka08_383, hka08_14, hka08_19, hka08_19], [], hka08_374), [.inl 2, .inr (59, 2), .inr (59, 3), .inr (59, 6), .inr (59, 8), .inr (59, 9), .inr (59, 11), .inr (59, 12), .inr (59, 13), .inr (59, 15), .inr (59, 16), .inr (59, 17), .inr (59, 18), .inr (59, 19), .inr (59, 20), .inr (59, 21), .inr (59, 23), .inr (59, 26), .inr (59, 33), .inr (60, 0), .inr (60, 78), .inr (60, 79), .inr (60, 80), .inr (60, 81), .inr (60, 87), .inr (60, 96), .inr (60, 174), .inr (60, 175), .inr (60, 176), .inr (60, 177), .inr (60, 183), .inr (60, 192), .inr (60, 270), .inr (60, 271), .inr (60, 272), .inr (60, 273), .inr (60, 279)], [(some hka08_376, hka08_302, [])])
def kan_671 : List ai_Nd := [(5, (hka08_377, [hka08_303, hka08_383, hka08_14, hka08_376, hka08_379], [], hka08_374), [.inl 4], [.inl 99994, .inl 1, .inr (true, .ofNat 4, 37), .inl 100000])]
set_option maxRecDepth 1000000 in
theorem kak_671 : ai_ck [] [] ka_671 [.inl 100000, .inl 0, .inl 0, .inl 0] kan_671 33 = true := by decide +kernel
theorem kah_671 : ai_holds ka_671 := ai_thm kak_671 ai_nil
def hka08_384 : ai_N := (.ofNat 4, .ofNat 4, [])
def hka08_385 : ai_V := .inl (false, hka08_384)
/-- NeverAgainModel.isLate -/
def ka_677 : ai_K := (174, 0, (hka08_302, [hka08_303, hka08_385, hka08_14, hka08_19, hka08_19], [], hka08_374), [.inl 2, .inr (59, 2), .inr (59, 3), .inr (59, 6), .inr (59, 8), .inr (59, 9), .inr (59, 11), .inr (59, 12), .inr (59, 13), .inr (59, 15), .inr (59, 16), .inr (59, 17), .inr (59, 18), .inr (59, 19), .inr (59, 20), .inr (59, 21), .inr (59, 23), .inr (59, 26), .inr (59, 33), .inr (60, 0), .inr (60, 78), .inr (60, 79), .inr (60, 80), .inr (60, 81), .inr (60, 87), .inr (60, 96), .inr (60, 174), .inr (60, 175), .inr (60, 176), .inr (60, 177), .inr (60, 183), .inr (60, 192), .inr (60, 270), .inr (60, 271), .inr (60, 272), .inr (60, 273), .inr (60, 279)], [(some hka08_376, hka08_302, [])])
def kan_677 : List ai_Nd := [(5, (hka08_377, [hka08_303, hka08_385, hka08_14, hka08_376, hka08_379], [], hka08_374), [.inl 4], [.inl 99994, .inl 1, .inr (true, .ofNat 4, 37), .inl 100000])]
set_option maxRecDepth 1000000 in
theorem kak_677 : ai_ck [] [] ka_677 [.inl 100000, .inl 0, .inl 0, .inl 0] kan_677 33 = true := by decide +kernel
theorem kah_677 : ai_holds ka_677 := ai_thm kak_677 ai_nil
def hka08_386 : Int × Int := (.negSucc 3, .ofNat 16)
def hka08_387 : Int × Int := (.ofNat 4, .ofNat 64)
def hka08_388 : ai_E := [hka08_386, hka08_2, hka08_3, hka08_212, hka08_295, hka08_6, hka08_0, hka08_295, hka08_296, hka08_297, hka08_297, hka08_297, hka08_1, hka08_0, hka08_213, hka08_297, hka08_387, hka08_0, hka08_6]
def hka08_389 : ai_N := (.negSucc 3, .ofNat 16, [(0, .ofNat 0, .ofNat 0)])
def hka08_390 : ai_V := .inl (false, hka08_389)
def hka08_391 : ai_N := (.ofNat 4, .ofNat 64, [(16, .ofNat 0, .ofNat 0)])
def hka08_392 : ai_V := .inl (false, hka08_391)
def hka08_393 : ai_C := .inr (.inr (8, [hka08_304, hka08_305, hka08_102, hka08_104, hka08_306, hka08_307, hka08_309, hka08_310, hka08_312, hka08_314, hka08_315, hka08_36, hka08_317, hka08_319, hka08_320, hka08_322, hka08_324, hka08_326, hka08_328, hka08_330, hka08_332, hka08_334, hka08_335, hka08_392, hka08_338, hka08_339, hka08_341, hka08_342, hka08_343, hka08_344, hka08_345, hka08_346, hka08_347, hka08_349]))
def hka08_394 : Bool × Option ai_C := (false, some hka08_393)
def hka08_395 : ai_N := (.negSucc 3, .ofNat 16, [])
def hka08_396 : ai_C := .inl (.int, [(130, hka08_395)])
def hka08_397 : Bool × Option ai_C := (false, some hka08_396)
def hka08_398 : ai_W := [hka08_20, hka08_20, hka08_20, hka08_20, hka08_20, hka08_20, hka08_20, hka08_20, hka08_20, hka08_20, hka08_20, hka08_20, hka08_20, hka08_20, hka08_20, hka08_20, hka08_20, hka08_20, hka08_20, hka08_20, hka08_20, hka08_20, hka08_20, hka08_20, hka08_20, hka08_20, hka08_20, hka08_20, hka08_20, hka08_20, hka08_20, hka08_20, hka08_20, hka08_20, hka08_20, hka08_20, hka08_20, hka08_20, hka08_20, hka08_20, hka08_20, hka08_20, hka08_20, hka08_20, hka08_20, hka08_20, hka08_20, hka08_20, hka08_20, hka08_20, hka08_20, hka08_20, hka08_20, hka08_20, hka08_20, hka08_20, hka08_20, hka08_20, hka08_20, hka08_394, hka08_20, hka08_20, hka08_20, hka08_20, hka08_20, hka08_20, hka08_20, hka08_397, hka08_20, hka08_20, hka08_20, hka08_20, hka08_20, hka08_20, hka08_20, hka08_20]
def hka08_399 : ai_N := (.ofNat 5, .ofNat 65, [(16, .ofNat 1, .ofNat 1)])
def hka08_400 : ai_V := .inl (false, hka08_399)
def hka08_401 : ai_C := .inr (.inr (8, [hka08_304, hka08_305, hka08_102, hka08_104, hka08_306, hka08_307, hka08_309, hka08_310, hka08_312, hka08_314, hka08_315, hka08_36, hka08_317, hka08_319, hka08_320, hka08_322, hka08_324, hka08_326, hka08_328, hka08_330, hka08_332, hka08_334, hka08_335, hka08_400, hka08_338, hka08_339, hka08_341, hka08_342, hka08_343, hka08_344, hka08_345, hka08_346, hka08_347, hka08_349]))
/-- NeverAgainModel.adds -/
def ka_679 : ai_K := (116, 0, (hka08_388, [hka08_303, hka08_390], [], hka08_398), [.inl 1, .inr (59, 2), .inr (59, 3), .inr (59, 6), .inr (59, 8), .inr (59, 9), .inr (59, 11), .inr (59, 12), .inr (59, 13), .inr (59, 15), .inr (59, 16), .inr (59, 17), .inr (59, 18), .inr (59, 19), .inr (59, 20), .inr (59, 21), .inr (59, 23), .inr (59, 26), .inr (59, 33)], [(none, hka08_388, [(59, hka08_401), (67, hka08_396)])])
def kan_679 : List ai_Nd := []
set_option maxRecDepth 1000000 in
theorem kak_679 : ai_ck [] [] ka_679 [.inl 100000] kan_679 14 = true := by decide +kernel
theorem kah_679 : ai_holds ka_679 := ai_thm kak_679 ai_nil
def hka08_402 : Int × Int := (.ofNat 0, .ofNat 68)
def hka08_403 : ai_E := [hka08_402, hka08_0, hka08_2, hka08_3, hka08_212, hka08_295, hka08_6, hka08_0, hka08_295, hka08_296, hka08_297, hka08_297, hka08_297, hka08_1, hka08_0, hka08_213, hka08_297, hka08_298, hka08_0, hka08_6, hka08_4, hka08_299, hka08_300, hka08_301, hka08_5, hka08_6, hka08_4, hka08_299, hka08_300, hka08_301, hka08_5, hka08_6, hka08_4, hka08_299, hka08_300, hka08_301, hka08_5, hka08_6]
def hka08_404 : ai_N := (.ofNat 0, .ofNat 68, [(0, .ofNat 0, .ofNat 0)])
def hka08_405 : ai_V := .inl (false, hka08_404)
def hka08_406 : ai_N := (.ofNat 0, .ofNat 12, [(4, .ofNat 0, .ofNat 0)])
def hka08_407 : ai_V := .inl (false, hka08_406)
def hka08_408 : ai_N := (.ofNat 0, .ofNat 16, [(5, .ofNat 0, .ofNat 0)])
def hka08_409 : ai_V := .inl (false, hka08_408)
def hka08_410 : ai_N := (.ofNat 0, .ofNat 4, [(6, .ofNat 0, .ofNat 0)])
def hka08_411 : ai_V := .inl (false, hka08_410)
def hka08_412 : ai_N := (.ofNat 0, .ofNat 16, [(8, .ofNat 0, .ofNat 0)])
def hka08_413 : ai_V := .inl (false, hka08_412)
def hka08_414 : ai_N := (.negSucc 3, .ofNat 3, [(9, .ofNat 0, .ofNat 0)])
def hka08_415 : ai_V := .inl (false, hka08_414)
def hka08_416 : ai_N := (.ofNat 0, .ofNat 400, [(12, .ofNat 0, .ofNat 0)])
def hka08_417 : ai_V := .inl (false, hka08_416)
def hka08_418 : ai_N := (.ofNat 0, .ofNat 3, [(13, .ofNat 0, .ofNat 0)])
def hka08_419 : ai_V := .inl (false, hka08_418)
def hka08_420 : ai_N := (.ofNat 0, .ofNat 6, [(15, .ofNat 0, .ofNat 0)])
def hka08_421 : ai_V := .inl (false, hka08_420)
def hka08_422 : ai_N := (.ofNat 0, .ofNat 400, [(16, .ofNat 0, .ofNat 0)])
def hka08_423 : ai_V := .inl (false, hka08_422)
def hka08_424 : ai_N := (.ofNat 0, .ofNat 130, [(17, .ofNat 0, .ofNat 0)])
def hka08_425 : ai_V := .inl (false, hka08_424)
def hka08_426 : ai_N := (.negSucc 2147483647, .ofNat 2147483647, [(18, .ofNat 0, .ofNat 0)])
def hka08_427 : ai_V := .inl (false, hka08_426)
def hka08_428 : ai_N := (.ofNat 0, .ofNat 4, [(19, .ofNat 0, .ofNat 0)])
def hka08_429 : ai_V := .inl (false, hka08_428)
def hka08_430 : ai_C := .inr (.inr (8, [hka08_304, hka08_305, hka08_28, hka08_30, hka08_306, hka08_307, hka08_407, hka08_310, hka08_409, hka08_411, hka08_315, hka08_237, hka08_413, hka08_415, hka08_320, hka08_324, hka08_326, hka08_417, hka08_419, hka08_255, hka08_421, hka08_423, hka08_335, hka08_425, hka08_338, hka08_339, hka08_427, hka08_342, hka08_343, hka08_344, hka08_345, hka08_346, hka08_347, hka08_429]))
def hka08_431 : Bool × Option ai_C := (false, some hka08_430)
def hka08_432 : ai_N := (.ofNat 0, .ofNat 60, [(20, .ofNat 0, .ofNat 0)])
def hka08_433 : ai_N := (.ofNat 0, .ofNat 20, [(21, .ofNat 0, .ofNat 0)])
def hka08_434 : ai_N := (.ofNat 0, .ofNat 1, [(22, .ofNat 0, .ofNat 0)])
def hka08_435 : ai_N := (.negSucc 3, .ofNat 2, [(23, .ofNat 0, .ofNat 0)])
def hka08_436 : ai_N := (.ofNat 0, .ofNat 5, [(24, .ofNat 0, .ofNat 0)])
def hka08_437 : ai_N := (.ofNat 0, .ofNat 4, [(25, .ofNat 0, .ofNat 0)])
def hka08_438 : ai_N := (.ofNat 0, .ofNat 60, [(26, .ofNat 0, .ofNat 0)])
def hka08_439 : ai_N := (.ofNat 0, .ofNat 20, [(27, .ofNat 0, .ofNat 0)])
def hka08_440 : ai_N := (.ofNat 0, .ofNat 1, [(28, .ofNat 0, .ofNat 0)])
def hka08_441 : ai_N := (.negSucc 3, .ofNat 2, [(29, .ofNat 0, .ofNat 0)])
def hka08_442 : ai_N := (.ofNat 0, .ofNat 5, [(30, .ofNat 0, .ofNat 0)])
def hka08_443 : ai_N := (.ofNat 0, .ofNat 4, [(31, .ofNat 0, .ofNat 0)])
def hka08_444 : ai_N := (.ofNat 0, .ofNat 60, [(32, .ofNat 0, .ofNat 0)])
def hka08_445 : ai_N := (.ofNat 0, .ofNat 20, [(33, .ofNat 0, .ofNat 0)])
def hka08_446 : ai_N := (.ofNat 0, .ofNat 1, [(34, .ofNat 0, .ofNat 0)])
def hka08_447 : ai_N := (.negSucc 3, .ofNat 2, [(35, .ofNat 0, .ofNat 0)])
def hka08_448 : ai_N := (.ofNat 0, .ofNat 5, [(36, .ofNat 0, .ofNat 0)])
def hka08_449 : ai_C := .inl (.int, [(1, hka08_432), (60, hka08_57), (17, hka08_353), (1, hka08_433), (1, hka08_434), (1, hka08_435), (1, hka08_436), (5, hka08_358), (1, hka08_437), (8, hka08_77), (1, hka08_438), (60, hka08_57), (17, hka08_353), (1, hka08_439), (1, hka08_440), (1, hka08_441), (1, hka08_442), (5, hka08_358), (1, hka08_443), (8, hka08_77), (1, hka08_444), (60, hka08_57), (17, hka08_353), (1, hka08_445), (1, hka08_446), (1, hka08_447), (1, hka08_448), (5, hka08_358), (1, hka08_378), (8, hka08_77)])
def hka08_450 : Bool × Option ai_C := (false, some hka08_449)
def hka08_451 : ai_W := [hka08_20, hka08_20, hka08_20, hka08_20, hka08_20, hka08_20, hka08_20, hka08_20, hka08_20, hka08_20, hka08_20, hka08_20, hka08_20, hka08_20, hka08_20, hka08_20, hka08_20, hka08_20, hka08_20, hka08_20, hka08_20, hka08_20, hka08_20, hka08_20, hka08_20, hka08_20, hka08_20, hka08_20, hka08_20, hka08_20, hka08_20, hka08_20, hka08_20, hka08_20, hka08_20, hka08_20, hka08_20, hka08_20, hka08_20, hka08_20, hka08_20, hka08_20, hka08_20, hka08_20, hka08_20, hka08_20, hka08_20, hka08_20, hka08_20, hka08_20, hka08_20, hka08_20, hka08_20, hka08_20, hka08_20, hka08_20, hka08_20, hka08_20, hka08_20, hka08_431, hka08_450, hka08_20, hka08_20, hka08_20, hka08_20, hka08_20, hka08_20, hka08_397, hka08_20, hka08_20, hka08_20, hka08_20, hka08_20, hka08_20, hka08_20, hka08_20]
/-- NeverAgainModel.canDo -/
def ka_710 : ai_K := (175, 3, (hka08_403, [hka08_303, hka08_16, hka08_405, hka08_204, hka08_19, hka08_19], [], hka08_451), [.inl 2, .inl 3, .inr (59, 2), .inr (59, 3), .inr (59, 6), .inr (59, 8), .inr (59, 9), .inr (59, 11), .inr (59, 12), .inr (59, 13), .inr (59, 15), .inr (59, 16), .inr (59, 17), .inr (59, 18), .inr (59, 19), .inr (59, 20), .inr (59, 21), .inr (59, 23), .inr (59, 26), .inr (59, 33), .inr (60, 0), .inr (60, 78), .inr (60, 79), .inr (60, 80), .inr (60, 81), .inr (60, 87), .inr (60, 96), .inr (60, 174), .inr (60, 175), .inr (60, 176), .inr (60, 177), .inr (60, 183), .inr (60, 192), .inr (60, 270), .inr (60, 271), .inr (60, 272), .inr (60, 273), .inr (60, 279)], [(some hka08_12, hka08_403, []), (some hka08_16, hka08_403, [])])
def kan_710 : List ai_Nd := []
set_option maxRecDepth 1000000 in
theorem kak_710 : ai_ck [ka_397] [] ka_710 [.inl 100000] kan_710 54 = true := by decide +kernel
theorem kah_710 : ai_holds ka_710 := ai_thm kak_710 (ai_cons kah_397 ai_nil)
/-- NeverAgainModel.canDo -/
def ka_711 : ai_K := (175, 3, (hka08_403, [hka08_303, hka08_12, hka08_405, hka08_204, hka08_19, hka08_19], [], hka08_451), [.inl 2, .inl 3, .inr (59, 2), .inr (59, 3), .inr (59, 6), .inr (59, 8), .inr (59, 9), .inr (59, 11), .inr (59, 12), .inr (59, 13), .inr (59, 15), .inr (59, 16), .inr (59, 17), .inr (59, 18), .inr (59, 19), .inr (59, 20), .inr (59, 21), .inr (59, 23), .inr (59, 26), .inr (59, 33), .inr (60, 0), .inr (60, 78), .inr (60, 79), .inr (60, 80), .inr (60, 81), .inr (60, 87), .inr (60, 96), .inr (60, 174), .inr (60, 175), .inr (60, 176), .inr (60, 177), .inr (60, 183), .inr (60, 192), .inr (60, 270), .inr (60, 271), .inr (60, 272), .inr (60, 273), .inr (60, 279)], [(some hka08_12, hka08_403, []), (some hka08_16, hka08_403, [])])
def kan_711 : List ai_Nd := []
set_option maxRecDepth 1000000 in
theorem kak_711 : ai_ck [ka_397] [] ka_711 [.inl 100000] kan_711 54 = true := by decide +kernel
theorem kah_711 : ai_holds ka_711 := ai_thm kak_711 (ai_cons kah_397 ai_nil)
/-- NeverAgainModel.canDo -/
def ka_715 : ai_K := (175, 3, (hka08_403, [hka08_303, hka08_381, hka08_405, hka08_204, hka08_19, hka08_19], [], hka08_451), [.inl 2, .inl 3, .inr (59, 2), .inr (59, 3), .inr (59, 6), .inr (59, 8), .inr (59, 9), .inr (59, 11), .inr (59, 12), .inr (59, 13), .inr (59, 15), .inr (59, 16), .inr (59, 17), .inr (59, 18), .inr (59, 19), .inr (59, 20), .inr (59, 21), .inr (59, 23), .inr (59, 26), .inr (59, 33), .inr (60, 0), .inr (60, 78), .inr (60, 79), .inr (60, 80), .inr (60, 81), .inr (60, 87), .inr (60, 96), .inr (60, 174), .inr (60, 175), .inr (60, 176), .inr (60, 177), .inr (60, 183), .inr (60, 192), .inr (60, 270), .inr (60, 271), .inr (60, 272), .inr (60, 273), .inr (60, 279)], [(some hka08_12, hka08_403, []), (some hka08_16, hka08_403, [])])
def kan_715 : List ai_Nd := []
set_option maxRecDepth 1000000 in
theorem kak_715 : ai_ck [ka_397] [] ka_715 [.inl 100000] kan_715 54 = true := by decide +kernel
theorem kah_715 : ai_holds ka_715 := ai_thm kak_715 (ai_cons kah_397 ai_nil)
/-- NeverAgainModel.canDo -/
def ka_718 : ai_K := (175, 3, (hka08_403, [hka08_303, hka08_383, hka08_405, hka08_204, hka08_19, hka08_19], [], hka08_451), [.inl 2, .inl 3, .inr (59, 2), .inr (59, 3), .inr (59, 6), .inr (59, 8), .inr (59, 9), .inr (59, 11), .inr (59, 12), .inr (59, 13), .inr (59, 15), .inr (59, 16), .inr (59, 17), .inr (59, 18), .inr (59, 19), .inr (59, 20), .inr (59, 21), .inr (59, 23), .inr (59, 26), .inr (59, 33), .inr (60, 0), .inr (60, 78), .inr (60, 79), .inr (60, 80), .inr (60, 81), .inr (60, 87), .inr (60, 96), .inr (60, 174), .inr (60, 175), .inr (60, 176), .inr (60, 177), .inr (60, 183), .inr (60, 192), .inr (60, 270), .inr (60, 271), .inr (60, 272), .inr (60, 273), .inr (60, 279)], [(some hka08_12, hka08_403, []), (some hka08_16, hka08_403, [])])
def kan_718 : List ai_Nd := []
set_option maxRecDepth 1000000 in
theorem kak_718 : ai_ck [ka_397] [] ka_718 [.inl 100000] kan_718 54 = true := by decide +kernel
theorem kah_718 : ai_holds ka_718 := ai_thm kak_718 (ai_cons kah_397 ai_nil)
/-- NeverAgainModel.canDo -/
def ka_720 : ai_K := (175, 3, (hka08_403, [hka08_303, hka08_385, hka08_405, hka08_204, hka08_19, hka08_19], [], hka08_451), [.inl 2, .inl 3, .inr (59, 2), .inr (59, 3), .inr (59, 6), .inr (59, 8), .inr (59, 9), .inr (59, 11), .inr (59, 12), .inr (59, 13), .inr (59, 15), .inr (59, 16), .inr (59, 17), .inr (59, 18), .inr (59, 19), .inr (59, 20), .inr (59, 21), .inr (59, 23), .inr (59, 26), .inr (59, 33), .inr (60, 0), .inr (60, 78), .inr (60, 79), .inr (60, 80), .inr (60, 81), .inr (60, 87), .inr (60, 96), .inr (60, 174), .inr (60, 175), .inr (60, 176), .inr (60, 177), .inr (60, 183), .inr (60, 192), .inr (60, 270), .inr (60, 271), .inr (60, 272), .inr (60, 273), .inr (60, 279)], [(some hka08_12, hka08_403, []), (some hka08_16, hka08_403, [])])
def kan_720 : List ai_Nd := []
set_option maxRecDepth 1000000 in
theorem kak_720 : ai_ck [ka_397] [] ka_720 [.inl 100000] kan_720 54 = true := by decide +kernel
theorem kah_720 : ai_holds ka_720 := ai_thm kak_720 (ai_cons kah_397 ai_nil)
def hka08_452 : ai_E := [hka08_2, hka08_3, hka08_212, hka08_295, hka08_6, hka08_0, hka08_295, hka08_296, hka08_297, hka08_297, hka08_297, hka08_1, hka08_0, hka08_213, hka08_297, hka08_298, hka08_0, hka08_6, hka08_4, hka08_299, hka08_300, hka08_301, hka08_5, hka08_6, hka08_4, hka08_299, hka08_300, hka08_301, hka08_5, hka08_6, hka08_4, hka08_299, hka08_300, hka08_301, hka08_5, hka08_6, hka08_7, hka08_7, hka08_7, hka08_7, hka08_7]
def hka08_453 : ai_N := (.ofNat 0, .ofNat 12, [(2, .ofNat 0, .ofNat 0)])
def hka08_454 : ai_V := .inl (false, hka08_453)
def hka08_455 : ai_N := (.ofNat 0, .ofNat 16, [(3, .ofNat 0, .ofNat 0)])
def hka08_456 : ai_V := .inl (false, hka08_455)
def hka08_457 : ai_N := (.ofNat 0, .ofNat 4, [(4, .ofNat 0, .ofNat 0)])
def hka08_458 : ai_V := .inl (false, hka08_457)
def hka08_459 : ai_N := (.ofNat 0, .ofNat 16, [(6, .ofNat 0, .ofNat 0)])
def hka08_460 : ai_V := .inl (false, hka08_459)
def hka08_461 : ai_N := (.negSucc 3, .ofNat 3, [(7, .ofNat 0, .ofNat 0)])
def hka08_462 : ai_V := .inl (false, hka08_461)
def hka08_463 : ai_N := (.ofNat 0, .ofNat 400, [(8, .ofNat 0, .ofNat 0)])
def hka08_464 : ai_V := .inl (false, hka08_463)
def hka08_465 : ai_N := (.ofNat 0, .ofNat 3, [(11, .ofNat 0, .ofNat 0)])
def hka08_466 : ai_V := .inl (false, hka08_465)
def hka08_467 : ai_N := (.ofNat 0, .ofNat 6, [(13, .ofNat 0, .ofNat 0)])
def hka08_468 : ai_V := .inl (false, hka08_467)
def hka08_469 : ai_N := (.ofNat 0, .ofNat 400, [(14, .ofNat 0, .ofNat 0)])
def hka08_470 : ai_V := .inl (false, hka08_469)
def hka08_471 : ai_N := (.ofNat 0, .ofNat 130, [(15, .ofNat 0, .ofNat 0)])
def hka08_472 : ai_V := .inl (false, hka08_471)
def hka08_473 : ai_N := (.negSucc 2147483647, .ofNat 2147483647, [(16, .ofNat 0, .ofNat 0)])
def hka08_474 : ai_V := .inl (false, hka08_473)
def hka08_475 : ai_N := (.ofNat 0, .ofNat 4, [(17, .ofNat 0, .ofNat 0)])
def hka08_476 : ai_V := .inl (false, hka08_475)
def hka08_477 : ai_C := .inr (.inr (8, [hka08_304, hka08_305, hka08_146, hka08_148, hka08_306, hka08_307, hka08_454, hka08_310, hka08_456, hka08_458, hka08_315, hka08_34, hka08_460, hka08_462, hka08_320, hka08_464, hka08_322, hka08_324, hka08_466, hka08_74, hka08_468, hka08_470, hka08_335, hka08_472, hka08_338, hka08_339, hka08_474, hka08_342, hka08_343, hka08_344, hka08_345, hka08_346, hka08_347, hka08_476]))
def hka08_478 : Bool × Option ai_C := (false, some hka08_477)
def hka08_479 : ai_N := (.ofNat 0, .ofNat 60, [(18, .ofNat 0, .ofNat 0)])
def hka08_480 : ai_N := (.ofNat 0, .ofNat 20, [(19, .ofNat 0, .ofNat 0)])
def hka08_481 : ai_N := (.ofNat 0, .ofNat 1, [(20, .ofNat 0, .ofNat 0)])
def hka08_482 : ai_N := (.negSucc 3, .ofNat 2, [(21, .ofNat 0, .ofNat 0)])
def hka08_483 : ai_N := (.ofNat 0, .ofNat 5, [(22, .ofNat 0, .ofNat 0)])
def hka08_484 : ai_N := (.ofNat 0, .ofNat 4, [(23, .ofNat 0, .ofNat 0)])
def hka08_485 : ai_N := (.ofNat 0, .ofNat 60, [(24, .ofNat 0, .ofNat 0)])
def hka08_486 : ai_N := (.ofNat 0, .ofNat 20, [(25, .ofNat 0, .ofNat 0)])
def hka08_487 : ai_N := (.ofNat 0, .ofNat 1, [(26, .ofNat 0, .ofNat 0)])
def hka08_488 : ai_N := (.negSucc 3, .ofNat 2, [(27, .ofNat 0, .ofNat 0)])
def hka08_489 : ai_N := (.ofNat 0, .ofNat 5, [(28, .ofNat 0, .ofNat 0)])
def hka08_490 : ai_N := (.ofNat 0, .ofNat 4, [(29, .ofNat 0, .ofNat 0)])
def hka08_491 : ai_N := (.ofNat 0, .ofNat 60, [(30, .ofNat 0, .ofNat 0)])
def hka08_492 : ai_N := (.ofNat 0, .ofNat 20, [(31, .ofNat 0, .ofNat 0)])
def hka08_493 : ai_N := (.ofNat 0, .ofNat 1, [(32, .ofNat 0, .ofNat 0)])
def hka08_494 : ai_N := (.negSucc 3, .ofNat 2, [(33, .ofNat 0, .ofNat 0)])
def hka08_495 : ai_N := (.ofNat 0, .ofNat 5, [(34, .ofNat 0, .ofNat 0)])
def hka08_496 : ai_N := (.ofNat 0, .ofNat 4, [(35, .ofNat 0, .ofNat 0)])
def hka08_497 : ai_C := .inl (.int, [(1, hka08_479), (60, hka08_57), (17, hka08_353), (1, hka08_480), (1, hka08_481), (1, hka08_482), (1, hka08_483), (5, hka08_358), (1, hka08_484), (8, hka08_77), (1, hka08_485), (60, hka08_57), (17, hka08_353), (1, hka08_486), (1, hka08_487), (1, hka08_488), (1, hka08_489), (5, hka08_358), (1, hka08_490), (8, hka08_77), (1, hka08_491), (60, hka08_57), (17, hka08_353), (1, hka08_492), (1, hka08_493), (1, hka08_494), (1, hka08_495), (5, hka08_358), (1, hka08_496), (8, hka08_77)])
def hka08_498 : Bool × Option ai_C := (false, some hka08_497)
def hka08_499 : ai_N := (.ofNat 0, .ofNat 128, [(36, .ofNat 0, .ofNat 0)])
def hka08_500 : ai_N := (.ofNat 0, .ofNat 128, [(37, .ofNat 0, .ofNat 0)])
def hka08_501 : ai_N := (.ofNat 0, .ofNat 128, [(38, .ofNat 0, .ofNat 0)])
def hka08_502 : ai_N := (.ofNat 0, .ofNat 128, [(39, .ofNat 0, .ofNat 0)])
def hka08_503 : ai_N := (.ofNat 0, .ofNat 128, [(40, .ofNat 0, .ofNat 0)])
def hka08_504 : ai_C := .inl (.int, [(1, hka08_499), (1, hka08_500), (1, hka08_501), (1, hka08_502), (1, hka08_503)])
def hka08_505 : Bool × Option ai_C := (false, some hka08_504)
def hka08_506 : ai_C := .inl (.int, [(5, hka08_261)])
def hka08_507 : Bool × Option ai_C := (false, some hka08_506)
def hka08_508 : ai_W := [hka08_20, hka08_20, hka08_20, hka08_20, hka08_20, hka08_20, hka08_20, hka08_20, hka08_20, hka08_20, hka08_20, hka08_20, hka08_20, hka08_20, hka08_20, hka08_20, hka08_20, hka08_20, hka08_20, hka08_20, hka08_20, hka08_20, hka08_20, hka08_20, hka08_20, hka08_20, hka08_20, hka08_20, hka08_20, hka08_20, hka08_20, hka08_20, hka08_20, hka08_20, hka08_20, hka08_20, hka08_20, hka08_20, hka08_20, hka08_20, hka08_20, hka08_20, hka08_20, hka08_20, hka08_20, hka08_20, hka08_20, hka08_20, hka08_20, hka08_20, hka08_20, hka08_20, hka08_20, hka08_20, hka08_20, hka08_20, hka08_20, hka08_20, hka08_20, hka08_478, hka08_498, hka08_20, hka08_20, hka08_20, hka08_20, hka08_20, hka08_20, hka08_397, hka08_20, hka08_20, hka08_20, hka08_505, hka08_507, hka08_20, hka08_20, hka08_20]
def hka08_509 : ai_V := .inl (false, hka08_479)
def hka08_510 : ai_N := (.negSucc 2147483647, .ofNat 1000000, [])
def hka08_511 : ai_V := .inl (false, hka08_510)
def hka08_512 : ai_C := .inr (.inr (8, [hka08_304, hka08_305, hka08_146, hka08_148, hka08_306, hka08_307, hka08_454, hka08_310, hka08_456, hka08_458, hka08_315, hka08_34, hka08_460, hka08_462, hka08_320, hka08_464, hka08_322, hka08_324, hka08_466, hka08_74, hka08_468, hka08_470, hka08_335, hka08_509, hka08_338, hka08_339, hka08_511, hka08_342, hka08_343, hka08_344, hka08_345, hka08_346, hka08_347, hka08_476]))
def hka08_513 : ai_C := .inl (.int, [(1, hka08_261), (1, hka08_261), (1, hka08_261), (1, hka08_261), (1, hka08_261)])
/-- NeverAgainModel.findPutOff -/
def ka_721 : ai_K := (141, 4, (hka08_452, [hka08_303, hka08_19, hka08_19, hka08_19, hka08_19, hka08_19, hka08_19, hka08_19, hka08_19], [], hka08_508), [.inr (59, 2), .inr (59, 3), .inr (59, 6), .inr (59, 8), .inr (59, 9), .inr (59, 11), .inr (59, 12), .inr (59, 13), .inr (59, 15), .inr (59, 16), .inr (59, 17), .inr (59, 18), .inr (59, 19), .inr (59, 20), .inr (59, 21), .inr (59, 23), .inr (59, 26), .inr (59, 33), .inr (60, 0), .inr (60, 78), .inr (60, 79), .inr (60, 80), .inr (60, 81), .inr (60, 87), .inr (60, 96), .inr (60, 174), .inr (60, 175), .inr (60, 176), .inr (60, 177), .inr (60, 183), .inr (60, 192), .inr (60, 270), .inr (60, 271), .inr (60, 272), .inr (60, 273), .inr (60, 279), .inr (71, 0), .inr (71, 1), .inr (71, 2), .inr (71, 3), .inr (71, 4)], [(none, hka08_452, [(59, hka08_512), (67, hka08_396), (71, hka08_513), (72, hka08_506)])])
def hka08_514 : Int × Int := (.ofNat 0, .ofNat 129)
def hka08_515 : ai_E := [hka08_2, hka08_3, hka08_212, hka08_295, hka08_6, hka08_0, hka08_295, hka08_296, hka08_297, hka08_297, hka08_297, hka08_1, hka08_0, hka08_213, hka08_297, hka08_298, hka08_0, hka08_6, hka08_4, hka08_299, hka08_300, hka08_301, hka08_5, hka08_6, hka08_4, hka08_299, hka08_300, hka08_301, hka08_5, hka08_6, hka08_4, hka08_299, hka08_300, hka08_301, hka08_5, hka08_6, hka08_7, hka08_7, hka08_7, hka08_7, hka08_7, hka08_126, hka08_514, hka08_4, hka08_7, hka08_7, hka08_7, hka08_7, hka08_7]
def hka08_516 : ai_N := (.ofNat 0, .ofNat 60, [(43, .ofNat 0, .ofNat 0), (18, .ofNat 0, .ofNat 0)])
def hka08_517 : ai_V := .inl (false, hka08_516)
def hka08_518 : ai_N := (.ofNat 0, .ofNat 68, [])
def hka08_519 : ai_V := .inl (false, hka08_518)
def hka08_520 : ai_N := (.ofNat 0, .ofNat 0, [(41, .ofNat 0, .ofNat 0)])
def hka08_521 : ai_V := .inl (false, hka08_520)
def hka08_522 : ai_N := (.ofNat 0, .ofNat 129, [(42, .ofNat 0, .ofNat 0)])
def hka08_523 : ai_V := .inl (false, hka08_522)
def hka08_524 : ai_N := (.ofNat 0, .ofNat 60, [(18, .ofNat 0, .ofNat 0), (43, .ofNat 0, .ofNat 0)])
def hka08_525 : ai_V := .inl (false, hka08_524)
def hka08_526 : ai_C := .inr (.inr (8, [hka08_304, hka08_305, hka08_146, hka08_148, hka08_306, hka08_307, hka08_454, hka08_310, hka08_456, hka08_458, hka08_315, hka08_34, hka08_460, hka08_462, hka08_320, hka08_464, hka08_322, hka08_324, hka08_466, hka08_74, hka08_468, hka08_470, hka08_335, hka08_525, hka08_338, hka08_339, hka08_511, hka08_342, hka08_343, hka08_344, hka08_345, hka08_346, hka08_347, hka08_476]))
def hka08_527 : Bool × Option ai_C := (true, some hka08_526)
def hka08_528 : Bool × Option ai_C := (true, some hka08_396)
def hka08_529 : ai_N := (.ofNat 0, .ofNat 128, [(44, .ofNat 0, .ofNat 0)])
def hka08_530 : ai_N := (.ofNat 0, .ofNat 128, [(45, .ofNat 0, .ofNat 0)])
def hka08_531 : ai_N := (.ofNat 0, .ofNat 128, [(46, .ofNat 0, .ofNat 0)])
def hka08_532 : ai_N := (.ofNat 0, .ofNat 128, [(47, .ofNat 0, .ofNat 0)])
def hka08_533 : ai_N := (.ofNat 0, .ofNat 128, [(48, .ofNat 0, .ofNat 0)])
def hka08_534 : ai_C := .inl (.int, [(1, hka08_529), (1, hka08_530), (1, hka08_531), (1, hka08_532), (1, hka08_533)])
def hka08_535 : Bool × Option ai_C := (true, some hka08_534)
def hka08_536 : Bool × Option ai_C := (true, some hka08_506)
def hka08_537 : ai_W := [hka08_20, hka08_20, hka08_20, hka08_20, hka08_20, hka08_20, hka08_20, hka08_20, hka08_20, hka08_20, hka08_20, hka08_20, hka08_20, hka08_20, hka08_20, hka08_20, hka08_20, hka08_20, hka08_20, hka08_20, hka08_20, hka08_20, hka08_20, hka08_20, hka08_20, hka08_20, hka08_20, hka08_20, hka08_20, hka08_20, hka08_20, hka08_20, hka08_20, hka08_20, hka08_20, hka08_20, hka08_20, hka08_20, hka08_20, hka08_20, hka08_20, hka08_20, hka08_20, hka08_20, hka08_20, hka08_20, hka08_20, hka08_20, hka08_20, hka08_20, hka08_20, hka08_20, hka08_20, hka08_20, hka08_20, hka08_20, hka08_20, hka08_20, hka08_20, hka08_527, hka08_498, hka08_20, hka08_20, hka08_20, hka08_20, hka08_20, hka08_20, hka08_528, hka08_20, hka08_20, hka08_20, hka08_535, hka08_536, hka08_20, hka08_20, hka08_20]
def kad_721_0 : ai_Nd := (37, (hka08_515, [hka08_303, hka08_517, hka08_519, hka08_521, hka08_523, hka08_86, hka08_86, hka08_19, hka08_19], [], hka08_537), [.inl 3, .inl 4, .inl 1, .inr (71, 0), .inr (71, 1), .inr (71, 2), .inr (71, 3), .inr (71, 4)], [.inl 99962, .inl 1, .inr (true, .ofNat 200, 42), .inl 100000, .inl 0, .inl 0, .inl 0, .inl 0, .inl 0, .inl 0, .inl 0, .inl 0])
def hka08_538 : Int × Int := (.ofNat 1, .ofNat 1)
def hka08_539 : ai_E := [hka08_2, hka08_3, hka08_212, hka08_295, hka08_6, hka08_0, hka08_295, hka08_296, hka08_297, hka08_297, hka08_297, hka08_1, hka08_0, hka08_213, hka08_297, hka08_298, hka08_0, hka08_6, hka08_4, hka08_299, hka08_300, hka08_301, hka08_5, hka08_6, hka08_4, hka08_299, hka08_300, hka08_301, hka08_5, hka08_6, hka08_4, hka08_299, hka08_300, hka08_301, hka08_5, hka08_6, hka08_7, hka08_7, hka08_7, hka08_7, hka08_7, hka08_538, hka08_514, hka08_4, hka08_7, hka08_7, hka08_7, hka08_7, hka08_7]
def hka08_540 : ai_N := (.ofNat 1, .ofNat 1, [(41, .ofNat 0, .ofNat 0)])
def hka08_541 : ai_V := .inl (false, hka08_540)
def hka08_542 : ai_N := (.ofNat 1, .ofNat 61, [(18, .ofNat 1, .ofNat 1), (43, .ofNat 1, .ofNat 1)])
def hka08_543 : ai_V := .inl (false, hka08_542)
def hka08_544 : ai_C := .inr (.inr (8, [hka08_304, hka08_305, hka08_146, hka08_148, hka08_306, hka08_307, hka08_454, hka08_310, hka08_456, hka08_458, hka08_315, hka08_34, hka08_460, hka08_462, hka08_320, hka08_464, hka08_322, hka08_324, hka08_466, hka08_74, hka08_468, hka08_470, hka08_335, hka08_543, hka08_338, hka08_339, hka08_511, hka08_342, hka08_343, hka08_344, hka08_345, hka08_346, hka08_347, hka08_476]))
def hka08_545 : Bool × Option ai_C := (true, some hka08_544)
def hka08_546 : ai_W := [hka08_20, hka08_20, hka08_20, hka08_20, hka08_20, hka08_20, hka08_20, hka08_20, hka08_20, hka08_20, hka08_20, hka08_20, hka08_20, hka08_20, hka08_20, hka08_20, hka08_20, hka08_20, hka08_20, hka08_20, hka08_20, hka08_20, hka08_20, hka08_20, hka08_20, hka08_20, hka08_20, hka08_20, hka08_20, hka08_20, hka08_20, hka08_20, hka08_20, hka08_20, hka08_20, hka08_20, hka08_20, hka08_20, hka08_20, hka08_20, hka08_20, hka08_20, hka08_20, hka08_20, hka08_20, hka08_20, hka08_20, hka08_20, hka08_20, hka08_20, hka08_20, hka08_20, hka08_20, hka08_20, hka08_20, hka08_20, hka08_20, hka08_20, hka08_20, hka08_545, hka08_498, hka08_20, hka08_20, hka08_20, hka08_20, hka08_20, hka08_20, hka08_528, hka08_20, hka08_20, hka08_20, hka08_535, hka08_536, hka08_20, hka08_20, hka08_20]
def kad_721_1 : ai_Nd := (37, (hka08_539, [hka08_303, hka08_517, hka08_519, hka08_541, hka08_523, hka08_86, hka08_86, hka08_16, hka08_19], [], hka08_546), [.inl 3, .inl 4, .inl 1, .inr (71, 0), .inr (71, 1), .inr (71, 2), .inr (71, 3), .inr (71, 4)], [.inl 99962, .inl 1, .inr (true, .ofNat 200, 44), .inr (true, .ofNat 200, 42), .inl 100000, .inl 0, .inl 0, .inl 0, .inl 0, .inl 0, .inl 0, .inl 0])
def hka08_547 : Int × Int := (.negSucc 0, .negSucc 0)
def hka08_548 : ai_E := [hka08_2, hka08_3, hka08_212, hka08_295, hka08_6, hka08_0, hka08_295, hka08_296, hka08_297, hka08_297, hka08_297, hka08_1, hka08_0, hka08_213, hka08_297, hka08_298, hka08_0, hka08_6, hka08_4, hka08_299, hka08_300, hka08_301, hka08_5, hka08_6, hka08_4, hka08_299, hka08_300, hka08_301, hka08_5, hka08_6, hka08_4, hka08_299, hka08_300, hka08_301, hka08_5, hka08_6, hka08_7, hka08_7, hka08_7, hka08_7, hka08_7, hka08_547, hka08_514, hka08_4, hka08_7, hka08_7, hka08_7, hka08_7, hka08_7]
def hka08_549 : ai_N := (.negSucc 0, .negSucc 0, [(41, .ofNat 0, .ofNat 0)])
def hka08_550 : ai_V := .inl (false, hka08_549)
def kad_721_2 : ai_Nd := (37, (hka08_548, [hka08_303, hka08_517, hka08_519, hka08_550, hka08_523, hka08_86, hka08_86, hka08_16, hka08_19], [], hka08_537), [.inl 3, .inl 4, .inl 1, .inr (71, 0), .inr (71, 1), .inr (71, 2), .inr (71, 3), .inr (71, 4)], [.inl 99962, .inl 0, .inl 100000, .inl 0, .inl 0, .inl 0, .inl 0, .inl 0, .inl 0, .inl 0, .inl 0, .inl 0])
def hka08_551 : Int × Int := (.ofNat 2, .ofNat 2)
def hka08_552 : ai_E := [hka08_2, hka08_3, hka08_212, hka08_295, hka08_6, hka08_0, hka08_295, hka08_296, hka08_297, hka08_297, hka08_297, hka08_1, hka08_0, hka08_213, hka08_297, hka08_298, hka08_0, hka08_6, hka08_4, hka08_299, hka08_300, hka08_301, hka08_5, hka08_6, hka08_4, hka08_299, hka08_300, hka08_301, hka08_5, hka08_6, hka08_4, hka08_299, hka08_300, hka08_301, hka08_5, hka08_6, hka08_7, hka08_7, hka08_7, hka08_7, hka08_7, hka08_551, hka08_514, hka08_4, hka08_7, hka08_7, hka08_7, hka08_7, hka08_7]
def hka08_553 : ai_N := (.ofNat 2, .ofNat 2, [(41, .ofNat 0, .ofNat 0)])
def hka08_554 : ai_V := .inl (false, hka08_553)
def hka08_555 : ai_N := (.ofNat 2, .ofNat 62, [(18, .ofNat 2, .ofNat 2), (43, .ofNat 2, .ofNat 2)])
def hka08_556 : ai_V := .inl (false, hka08_555)
def hka08_557 : ai_C := .inr (.inr (8, [hka08_304, hka08_305, hka08_146, hka08_148, hka08_306, hka08_307, hka08_454, hka08_310, hka08_456, hka08_458, hka08_315, hka08_34, hka08_460, hka08_462, hka08_320, hka08_464, hka08_322, hka08_324, hka08_466, hka08_74, hka08_468, hka08_470, hka08_335, hka08_556, hka08_338, hka08_339, hka08_511, hka08_342, hka08_343, hka08_344, hka08_345, hka08_346, hka08_347, hka08_476]))
def hka08_558 : Bool × Option ai_C := (true, some hka08_557)
def hka08_559 : ai_W := [hka08_20, hka08_20, hka08_20, hka08_20, hka08_20, hka08_20, hka08_20, hka08_20, hka08_20, hka08_20, hka08_20, hka08_20, hka08_20, hka08_20, hka08_20, hka08_20, hka08_20, hka08_20, hka08_20, hka08_20, hka08_20, hka08_20, hka08_20, hka08_20, hka08_20, hka08_20, hka08_20, hka08_20, hka08_20, hka08_20, hka08_20, hka08_20, hka08_20, hka08_20, hka08_20, hka08_20, hka08_20, hka08_20, hka08_20, hka08_20, hka08_20, hka08_20, hka08_20, hka08_20, hka08_20, hka08_20, hka08_20, hka08_20, hka08_20, hka08_20, hka08_20, hka08_20, hka08_20, hka08_20, hka08_20, hka08_20, hka08_20, hka08_20, hka08_20, hka08_558, hka08_498, hka08_20, hka08_20, hka08_20, hka08_20, hka08_20, hka08_20, hka08_528, hka08_20, hka08_20, hka08_20, hka08_535, hka08_536, hka08_20, hka08_20, hka08_20]
def kad_721_3 : ai_Nd := (37, (hka08_552, [hka08_303, hka08_517, hka08_519, hka08_554, hka08_523, hka08_86, hka08_86, hka08_16, hka08_19], [], hka08_559), [.inl 3, .inl 4, .inl 1, .inr (71, 0), .inr (71, 1), .inr (71, 2), .inr (71, 3), .inr (71, 4)], [.inl 99962, .inl 1, .inr (true, .ofNat 200, 44), .inr (true, .ofNat 200, 45), .inr (true, .ofNat 200, 42), .inl 100000, .inl 0, .inl 0, .inl 0, .inl 0, .inl 0, .inl 0])
def hka08_560 : Int × Int := (.ofNat 3, .ofNat 3)
def hka08_561 : ai_E := [hka08_2, hka08_3, hka08_212, hka08_295, hka08_6, hka08_0, hka08_295, hka08_296, hka08_297, hka08_297, hka08_297, hka08_1, hka08_0, hka08_213, hka08_297, hka08_298, hka08_0, hka08_6, hka08_4, hka08_299, hka08_300, hka08_301, hka08_5, hka08_6, hka08_4, hka08_299, hka08_300, hka08_301, hka08_5, hka08_6, hka08_4, hka08_299, hka08_300, hka08_301, hka08_5, hka08_6, hka08_7, hka08_7, hka08_7, hka08_7, hka08_7, hka08_560, hka08_514, hka08_4, hka08_7, hka08_7, hka08_7, hka08_7, hka08_7]
def hka08_562 : ai_N := (.ofNat 3, .ofNat 3, [(41, .ofNat 0, .ofNat 0)])
def hka08_563 : ai_V := .inl (false, hka08_562)
def hka08_564 : ai_N := (.ofNat 3, .ofNat 63, [(18, .ofNat 3, .ofNat 3), (43, .ofNat 3, .ofNat 3)])
def hka08_565 : ai_V := .inl (false, hka08_564)
def hka08_566 : ai_C := .inr (.inr (8, [hka08_304, hka08_305, hka08_146, hka08_148, hka08_306, hka08_307, hka08_454, hka08_310, hka08_456, hka08_458, hka08_315, hka08_34, hka08_460, hka08_462, hka08_320, hka08_464, hka08_322, hka08_324, hka08_466, hka08_74, hka08_468, hka08_470, hka08_335, hka08_565, hka08_338, hka08_339, hka08_511, hka08_342, hka08_343, hka08_344, hka08_345, hka08_346, hka08_347, hka08_476]))
def hka08_567 : Bool × Option ai_C := (true, some hka08_566)
def hka08_568 : ai_W := [hka08_20, hka08_20, hka08_20, hka08_20, hka08_20, hka08_20, hka08_20, hka08_20, hka08_20, hka08_20, hka08_20, hka08_20, hka08_20, hka08_20, hka08_20, hka08_20, hka08_20, hka08_20, hka08_20, hka08_20, hka08_20, hka08_20, hka08_20, hka08_20, hka08_20, hka08_20, hka08_20, hka08_20, hka08_20, hka08_20, hka08_20, hka08_20, hka08_20, hka08_20, hka08_20, hka08_20, hka08_20, hka08_20, hka08_20, hka08_20, hka08_20, hka08_20, hka08_20, hka08_20, hka08_20, hka08_20, hka08_20, hka08_20, hka08_20, hka08_20, hka08_20, hka08_20, hka08_20, hka08_20, hka08_20, hka08_20, hka08_20, hka08_20, hka08_20, hka08_567, hka08_498, hka08_20, hka08_20, hka08_20, hka08_20, hka08_20, hka08_20, hka08_528, hka08_20, hka08_20, hka08_20, hka08_535, hka08_536, hka08_20, hka08_20, hka08_20]
def kad_721_4 : ai_Nd := (37, (hka08_561, [hka08_303, hka08_517, hka08_519, hka08_563, hka08_523, hka08_86, hka08_86, hka08_16, hka08_19], [], hka08_568), [.inl 3, .inl 4, .inl 1, .inr (71, 0), .inr (71, 1), .inr (71, 2), .inr (71, 3), .inr (71, 4)], [.inl 99962, .inl 1, .inr (true, .ofNat 200, 44), .inr (true, .ofNat 200, 45), .inr (true, .ofNat 200, 46), .inr (true, .ofNat 200, 42), .inl 100000, .inl 0, .inl 0, .inl 0, .inl 0, .inl 0])
def hka08_569 : Int × Int := (.ofNat 4, .ofNat 4)
def hka08_570 : ai_E := [hka08_2, hka08_3, hka08_212, hka08_295, hka08_6, hka08_0, hka08_295, hka08_296, hka08_297, hka08_297, hka08_297, hka08_1, hka08_0, hka08_213, hka08_297, hka08_298, hka08_0, hka08_6, hka08_4, hka08_299, hka08_300, hka08_301, hka08_5, hka08_6, hka08_4, hka08_299, hka08_300, hka08_301, hka08_5, hka08_6, hka08_4, hka08_299, hka08_300, hka08_301, hka08_5, hka08_6, hka08_7, hka08_7, hka08_7, hka08_7, hka08_7, hka08_569, hka08_514, hka08_4, hka08_7, hka08_7, hka08_7, hka08_7, hka08_7]
def hka08_571 : ai_N := (.ofNat 4, .ofNat 4, [(41, .ofNat 0, .ofNat 0)])
def hka08_572 : ai_V := .inl (false, hka08_571)
def hka08_573 : ai_N := (.ofNat 4, .ofNat 64, [(18, .ofNat 4, .ofNat 4), (43, .ofNat 4, .ofNat 4)])
def hka08_574 : ai_V := .inl (false, hka08_573)
def hka08_575 : ai_C := .inr (.inr (8, [hka08_304, hka08_305, hka08_146, hka08_148, hka08_306, hka08_307, hka08_454, hka08_310, hka08_456, hka08_458, hka08_315, hka08_34, hka08_460, hka08_462, hka08_320, hka08_464, hka08_322, hka08_324, hka08_466, hka08_74, hka08_468, hka08_470, hka08_335, hka08_574, hka08_338, hka08_339, hka08_511, hka08_342, hka08_343, hka08_344, hka08_345, hka08_346, hka08_347, hka08_476]))
def hka08_576 : Bool × Option ai_C := (true, some hka08_575)
def hka08_577 : ai_W := [hka08_20, hka08_20, hka08_20, hka08_20, hka08_20, hka08_20, hka08_20, hka08_20, hka08_20, hka08_20, hka08_20, hka08_20, hka08_20, hka08_20, hka08_20, hka08_20, hka08_20, hka08_20, hka08_20, hka08_20, hka08_20, hka08_20, hka08_20, hka08_20, hka08_20, hka08_20, hka08_20, hka08_20, hka08_20, hka08_20, hka08_20, hka08_20, hka08_20, hka08_20, hka08_20, hka08_20, hka08_20, hka08_20, hka08_20, hka08_20, hka08_20, hka08_20, hka08_20, hka08_20, hka08_20, hka08_20, hka08_20, hka08_20, hka08_20, hka08_20, hka08_20, hka08_20, hka08_20, hka08_20, hka08_20, hka08_20, hka08_20, hka08_20, hka08_20, hka08_576, hka08_498, hka08_20, hka08_20, hka08_20, hka08_20, hka08_20, hka08_20, hka08_528, hka08_20, hka08_20, hka08_20, hka08_535, hka08_536, hka08_20, hka08_20, hka08_20]
def kad_721_5 : ai_Nd := (37, (hka08_570, [hka08_303, hka08_517, hka08_519, hka08_572, hka08_523, hka08_86, hka08_86, hka08_376, hka08_19], [], hka08_577), [.inl 3, .inl 4, .inl 1, .inr (71, 0), .inr (71, 1), .inr (71, 2), .inr (71, 3), .inr (71, 4)], [.inl 99962, .inl 1, .inr (true, .ofNat 200, 44), .inr (true, .ofNat 200, 45), .inr (true, .ofNat 200, 46), .inr (true, .ofNat 200, 47), .inr (true, .ofNat 200, 42), .inl 100000, .inl 0, .inl 0, .inl 0, .inl 0])
def hka08_578 : Int × Int := (.ofNat 5, .ofNat 5)
def hka08_579 : ai_E := [hka08_2, hka08_3, hka08_212, hka08_295, hka08_6, hka08_0, hka08_295, hka08_296, hka08_297, hka08_297, hka08_297, hka08_1, hka08_0, hka08_213, hka08_297, hka08_298, hka08_0, hka08_6, hka08_4, hka08_299, hka08_300, hka08_301, hka08_5, hka08_6, hka08_4, hka08_299, hka08_300, hka08_301, hka08_5, hka08_6, hka08_4, hka08_299, hka08_300, hka08_301, hka08_5, hka08_6, hka08_7, hka08_7, hka08_7, hka08_7, hka08_7, hka08_578, hka08_126, hka08_4, hka08_7, hka08_7, hka08_7, hka08_7, hka08_402]
def hka08_580 : ai_N := (.ofNat 5, .ofNat 5, [(41, .ofNat 0, .ofNat 0)])
def hka08_581 : ai_V := .inl (false, hka08_580)
def hka08_582 : ai_N := (.ofNat 0, .ofNat 0, [(42, .ofNat 0, .ofNat 0)])
def hka08_583 : ai_V := .inl (false, hka08_582)
def hka08_584 : ai_N := (.negSucc 2147483647, .ofNat 1000015, [])
def hka08_585 : ai_V := .inl (false, hka08_584)
def hka08_586 : ai_N := (.ofNat 5, .ofNat 65, [(18, .ofNat 5, .ofNat 5), (43, .ofNat 5, .ofNat 5)])
def hka08_587 : ai_V := .inl (false, hka08_586)
def hka08_588 : ai_N := (.negSucc 2147483646, .ofNat 1000000, [])
def hka08_589 : ai_V := .inl (false, hka08_588)
def hka08_590 : ai_C := .inr (.inr (8, [hka08_304, hka08_305, hka08_146, hka08_148, hka08_306, hka08_307, hka08_454, hka08_310, hka08_456, hka08_458, hka08_315, hka08_34, hka08_460, hka08_462, hka08_320, hka08_464, hka08_322, hka08_324, hka08_466, hka08_74, hka08_468, hka08_470, hka08_335, hka08_587, hka08_338, hka08_339, hka08_589, hka08_342, hka08_343, hka08_344, hka08_345, hka08_346, hka08_347, hka08_476]))
def hka08_591 : Bool × Option ai_C := (true, some hka08_590)
def hka08_592 : ai_N := (.ofNat 0, .ofNat 68, [(48, .ofNat 0, .ofNat 0)])
def hka08_593 : ai_C := .inl (.int, [(1, hka08_529), (1, hka08_530), (1, hka08_531), (1, hka08_532), (1, hka08_592)])
def hka08_594 : Bool × Option ai_C := (true, some hka08_593)
def hka08_595 : ai_W := [hka08_20, hka08_20, hka08_20, hka08_20, hka08_20, hka08_20, hka08_20, hka08_20, hka08_20, hka08_20, hka08_20, hka08_20, hka08_20, hka08_20, hka08_20, hka08_20, hka08_20, hka08_20, hka08_20, hka08_20, hka08_20, hka08_20, hka08_20, hka08_20, hka08_20, hka08_20, hka08_20, hka08_20, hka08_20, hka08_20, hka08_20, hka08_20, hka08_20, hka08_20, hka08_20, hka08_20, hka08_20, hka08_20, hka08_20, hka08_20, hka08_20, hka08_20, hka08_20, hka08_20, hka08_20, hka08_20, hka08_20, hka08_20, hka08_20, hka08_20, hka08_20, hka08_20, hka08_20, hka08_20, hka08_20, hka08_20, hka08_20, hka08_20, hka08_20, hka08_591, hka08_498, hka08_20, hka08_20, hka08_20, hka08_20, hka08_20, hka08_20, hka08_528, hka08_20, hka08_20, hka08_20, hka08_594, hka08_536, hka08_20, hka08_20, hka08_20]
def kad_721_6 : ai_Nd := (37, (hka08_579, [hka08_303, hka08_517, hka08_519, hka08_581, hka08_583, hka08_86, hka08_585, hka08_16, hka08_19], [], hka08_595), [.inl 3, .inl 4, .inl 1, .inr (71, 0), .inr (71, 1), .inr (71, 2), .inr (71, 3), .inr (71, 4)], [.inl 99962, .inl 1, .inr (true, .ofNat 200, 44), .inr (true, .ofNat 200, 45), .inr (true, .ofNat 200, 46), .inr (true, .ofNat 200, 47), .inr (true, .ofNat 200, 48), .inr (true, .ofNat 200, 42), .inl 100000, .inl 0, .inl 0, .inl 0])
def hka08_596 : ai_E := [hka08_2, hka08_3, hka08_212, hka08_295, hka08_6, hka08_0, hka08_295, hka08_296, hka08_297, hka08_297, hka08_297, hka08_1, hka08_0, hka08_213, hka08_297, hka08_298, hka08_0, hka08_6, hka08_4, hka08_299, hka08_300, hka08_301, hka08_5, hka08_6, hka08_4, hka08_299, hka08_300, hka08_301, hka08_5, hka08_6, hka08_4, hka08_299, hka08_300, hka08_301, hka08_5, hka08_6, hka08_7, hka08_7, hka08_7, hka08_7, hka08_7, hka08_5, hka08_578, hka08_126, hka08_4, hka08_7, hka08_7, hka08_7, hka08_7, hka08_7]
def hka08_597 : ai_N := (.ofNat 0, .ofNat 60, [(44, .ofNat 0, .ofNat 0), (18, .ofNat 0, .ofNat 0)])
def hka08_598 : ai_V := .inl (false, hka08_597)
def hka08_599 : ai_N := (.ofNat 5, .ofNat 5, [(42, .ofNat 0, .ofNat 0)])
def hka08_600 : ai_V := .inl (false, hka08_599)
def hka08_601 : ai_N := (.ofNat 0, .ofNat 0, [(43, .ofNat 0, .ofNat 0)])
def hka08_602 : ai_V := .inl (false, hka08_601)
def hka08_603 : ai_N := (.ofNat 0, .ofNat 15, [])
def hka08_604 : ai_V := .inl (false, hka08_603)
def hka08_605 : ai_N := (.ofNat 0, .ofNat 5, [(41, .ofNat 0, .ofNat 0)])
def hka08_606 : ai_V := .inl (false, hka08_605)
def hka08_607 : ai_N := (.ofNat 5, .ofNat 65, [(18, .ofNat 5, .ofNat 5), (44, .ofNat 5, .ofNat 5)])
def hka08_608 : ai_V := .inl (false, hka08_607)
def hka08_609 : ai_C := .inr (.inr (8, [hka08_304, hka08_305, hka08_146, hka08_148, hka08_306, hka08_307, hka08_454, hka08_310, hka08_456, hka08_458, hka08_315, hka08_34, hka08_460, hka08_462, hka08_320, hka08_464, hka08_322, hka08_324, hka08_466, hka08_74, hka08_468, hka08_470, hka08_335, hka08_608, hka08_338, hka08_339, hka08_511, hka08_342, hka08_343, hka08_344, hka08_345, hka08_346, hka08_347, hka08_476]))
def hka08_610 : Bool × Option ai_C := (true, some hka08_609)
def hka08_611 : ai_N := (.ofNat 0, .ofNat 128, [(49, .ofNat 0, .ofNat 0)])
def hka08_612 : ai_C := .inl (.int, [(1, hka08_530), (1, hka08_531), (1, hka08_532), (1, hka08_533), (1, hka08_611)])
def hka08_613 : Bool × Option ai_C := (true, some hka08_612)
def hka08_614 : ai_W := [hka08_20, hka08_20, hka08_20, hka08_20, hka08_20, hka08_20, hka08_20, hka08_20, hka08_20, hka08_20, hka08_20, hka08_20, hka08_20, hka08_20, hka08_20, hka08_20, hka08_20, hka08_20, hka08_20, hka08_20, hka08_20, hka08_20, hka08_20, hka08_20, hka08_20, hka08_20, hka08_20, hka08_20, hka08_20, hka08_20, hka08_20, hka08_20, hka08_20, hka08_20, hka08_20, hka08_20, hka08_20, hka08_20, hka08_20, hka08_20, hka08_20, hka08_20, hka08_20, hka08_20, hka08_20, hka08_20, hka08_20, hka08_20, hka08_20, hka08_20, hka08_20, hka08_20, hka08_20, hka08_20, hka08_20, hka08_20, hka08_20, hka08_20, hka08_20, hka08_610, hka08_498, hka08_20, hka08_20, hka08_20, hka08_20, hka08_20, hka08_20, hka08_528, hka08_20, hka08_20, hka08_20, hka08_613, hka08_536, hka08_20, hka08_20, hka08_20]
def kad_721_7 : ai_Nd := (92, (hka08_596, [hka08_303, hka08_598, hka08_519, hka08_600, hka08_602, hka08_604, hka08_511, hka08_12, hka08_606], [], hka08_614), [.inl 8, .inl 3, .inl 4, .inl 1, .inr (71, 0), .inr (71, 1), .inr (71, 2), .inr (71, 3), .inr (71, 4)], [.inl 99962, .inl 1, .inr (true, .ofNat 200, 45), .inr (true, .ofNat 200, 46), .inr (true, .ofNat 200, 47), .inr (true, .ofNat 200, 48), .inr (true, .ofNat 200, 49), .inr (true, .ofNat 200, 43), .inl 99907, .inl 1, .inr (true, .ofNat 5, 41), .inl 100000])
def kan_721 : List ai_Nd := [kad_721_0, kad_721_1, kad_721_2, kad_721_3, kad_721_4, kad_721_5, kad_721_6, kad_721_7]
set_option maxRecDepth 1000000 in
theorem kav_721 : ai_ckv ka_721 [.inl 100000, .inl 0, .inl 0, .inl 0, .inl 0, .inl 0, .inl 0, .inl 0, .inl 0, .inl 0, .inl 0, .inl 0] kan_721 = true := by decide +kernel
set_option maxRecDepth 1000000 in
theorem kak_721_7 : ai_ckn [ka_407, ka_510, ka_512, ka_513, ka_679, ka_380, ka_661, ka_663, ka_666, ka_671, ka_677, ka_710, ka_711, ka_715, ka_718, ka_720] [] ka_721 [.inl 100000, .inl 0, .inl 0, .inl 0, .inl 0, .inl 0, .inl 0, .inl 0, .inl 0, .inl 0, .inl 0, .inl 0] kan_721 79 kad_721_7 = true := by decide +kernel
set_option maxRecDepth 1000000 in
theorem kak_721_6 : ai_ckn [ka_407, ka_510, ka_512, ka_513, ka_679, ka_380, ka_661, ka_663, ka_666, ka_671, ka_677, ka_710, ka_711, ka_715, ka_718, ka_720] [] ka_721 [.inl 100000, .inl 0, .inl 0, .inl 0, .inl 0, .inl 0, .inl 0, .inl 0, .inl 0, .inl 0, .inl 0, .inl 0] kan_721 79 kad_721_6 = true := by decide +kernel
set_option maxRecDepth 1000000 in
theorem kak_721_5 : ai_ckn [ka_407, ka_510, ka_512, ka_513, ka_679, ka_380, ka_661, ka_663, ka_666, ka_671, ka_677, ka_710, ka_711, ka_715, ka_718, ka_720] [] ka_721 [.inl 100000, .inl 0, .inl 0, .inl 0, .inl 0, .inl 0, .inl 0, .inl 0, .inl 0, .inl 0, .inl 0, .inl 0] kan_721 79 kad_721_5 = true := by decide +kernel
set_option maxRecDepth 1000000 in
theorem kak_721_4 : ai_ckn [ka_407, ka_510, ka_512, ka_513, ka_679, ka_380, ka_661, ka_663, ka_666, ka_671, ka_677, ka_710, ka_711, ka_715, ka_718, ka_720] [] ka_721 [.inl 100000, .inl 0, .inl 0, .inl 0, .inl 0, .inl 0, .inl 0, .inl 0, .inl 0, .inl 0, .inl 0, .inl 0] kan_721 79 kad_721_4 = true := by decide +kernel
set_option maxRecDepth 1000000 in
theorem kak_721_3 : ai_ckn [ka_407, ka_510, ka_512, ka_513, ka_679, ka_380, ka_661, ka_663, ka_666, ka_671, ka_677, ka_710, ka_711, ka_715, ka_718, ka_720] [] ka_721 [.inl 100000, .inl 0, .inl 0, .inl 0, .inl 0, .inl 0, .inl 0, .inl 0, .inl 0, .inl 0, .inl 0, .inl 0] kan_721 79 kad_721_3 = true := by decide +kernel
set_option maxRecDepth 1000000 in
theorem kak_721_2 : ai_ckn [ka_407, ka_510, ka_512, ka_513, ka_679, ka_380, ka_661, ka_663, ka_666, ka_671, ka_677, ka_710, ka_711, ka_715, ka_718, ka_720] [] ka_721 [.inl 100000, .inl 0, .inl 0, .inl 0, .inl 0, .inl 0, .inl 0, .inl 0, .inl 0, .inl 0, .inl 0, .inl 0] kan_721 79 kad_721_2 = true := by decide +kernel
set_option maxRecDepth 1000000 in
theorem kak_721_1 : ai_ckn [ka_407, ka_510, ka_512, ka_513, ka_679, ka_380, ka_661, ka_663, ka_666, ka_671, ka_677, ka_710, ka_711, ka_715, ka_718, ka_720] [] ka_721 [.inl 100000, .inl 0, .inl 0, .inl 0, .inl 0, .inl 0, .inl 0, .inl 0, .inl 0, .inl 0, .inl 0, .inl 0] kan_721 79 kad_721_1 = true := by decide +kernel
set_option maxRecDepth 1000000 in
theorem kak_721_0 : ai_ckn [ka_407, ka_510, ka_512, ka_513, ka_679, ka_380, ka_661, ka_663, ka_666, ka_671, ka_677, ka_710, ka_711, ka_715, ka_718, ka_720] [] ka_721 [.inl 100000, .inl 0, .inl 0, .inl 0, .inl 0, .inl 0, .inl 0, .inl 0, .inl 0, .inl 0, .inl 0, .inl 0] kan_721 79 kad_721_0 = true := by decide +kernel
set_option maxRecDepth 1000000 in
theorem kak_721_e : ai_ckn [ka_407, ka_510, ka_512, ka_513, ka_679, ka_380, ka_661, ka_663, ka_666, ka_671, ka_677, ka_710, ka_711, ka_715, ka_718, ka_720] [] ka_721 [.inl 100000, .inl 0, .inl 0, .inl 0, .inl 0, .inl 0, .inl 0, .inl 0, .inl 0, .inl 0, .inl 0, .inl 0] kan_721 79 (0, ka_721.2.2.1, [], [.inl 100000, .inl 0, .inl 0, .inl 0, .inl 0, .inl 0, .inl 0, .inl 0, .inl 0, .inl 0, .inl 0, .inl 0]) = true := by decide +kernel
theorem kak_721 : ai_ck [ka_407, ka_510, ka_512, ka_513, ka_679, ka_380, ka_661, ka_663, ka_666, ka_671, ka_677, ka_710, ka_711, ka_715, ka_718, ka_720] [] ka_721 [.inl 100000, .inl 0, .inl 0, .inl 0, .inl 0, .inl 0, .inl 0, .inl 0, .inl 0, .inl 0, .inl 0, .inl 0] kan_721 79 = true := ai_ck_of rfl kav_721 (List.forall_mem_cons.mpr ⟨kak_721_e, List.forall_mem_cons.mpr ⟨kak_721_0, List.forall_mem_cons.mpr ⟨kak_721_1, List.forall_mem_cons.mpr ⟨kak_721_2, List.forall_mem_cons.mpr ⟨kak_721_3, List.forall_mem_cons.mpr ⟨kak_721_4, List.forall_mem_cons.mpr ⟨kak_721_5, List.forall_mem_cons.mpr ⟨kak_721_6, List.forall_mem_cons.mpr ⟨kak_721_7, fun _ h => absurd h List.not_mem_nil⟩⟩⟩⟩⟩⟩⟩⟩⟩)
theorem kah_721 : ai_holds ka_721 := ai_thm kak_721 (ai_cons kah_407 (ai_cons kah_510 (ai_cons kah_512 (ai_cons kah_513 (ai_cons kah_679 (ai_cons kah_380 (ai_cons kah_661 (ai_cons kah_663 (ai_cons kah_666 (ai_cons kah_671 (ai_cons kah_677 (ai_cons kah_710 (ai_cons kah_711 (ai_cons kah_715 (ai_cons kah_718 (ai_cons kah_720 ai_nil))))))))))))))))
def hka08_615 : ai_N := (.ofNat 14, .ofNat 2147483647, [(0, .ofNat 0, .ofNat 0)])
def hka08_616 : ai_V := .inl (true, hka08_615)
def hka08_617 : Int × Int := (.ofNat 24, .ofNat 2147483647)
def hka08_618 : Int × Int := (.ofNat 23, .ofNat 23)
def hka08_619 : Int × Int := (.ofNat 21, .ofNat 22)
def hka08_620 : Int × Int := (.ofNat 20, .ofNat 20)
def hka08_621 : Int × Int := (.ofNat 14, .ofNat 19)
/-- NeverAgainModel.in -/
def ka_722 : ai_K := (93, 0, ([hka08_284], [hka08_616, hka08_19, hka08_292, hka08_19, hka08_294, hka08_19], [], hka08_283), [.inl 0], [(some hka08_16, [hka08_617], []), (some hka08_12, [hka08_618], []), (some hka08_12, [hka08_619], []), (some hka08_12, [hka08_620], []), (some hka08_16, [hka08_621], [])])
def kan_722 : List ai_Nd := []
set_option maxRecDepth 1000000 in
theorem kak_722 : ai_ck [] [] ka_722 [.inl 100000] kan_722 12 = true := by decide +kernel
theorem kah_722 : ai_holds ka_722 := ai_thm kak_722 ai_nil
def hka08_622 : ai_E := [hka08_0, hka08_2, hka08_3, hka08_212, hka08_295, hka08_6, hka08_0, hka08_295, hka08_296, hka08_297, hka08_297, hka08_297, hka08_1, hka08_0, hka08_213, hka08_297, hka08_298, hka08_0, hka08_6, hka08_4, hka08_299, hka08_300, hka08_301, hka08_5, hka08_6, hka08_4, hka08_299, hka08_300, hka08_301, hka08_5, hka08_6, hka08_4, hka08_299, hka08_300, hka08_301, hka08_5, hka08_6, hka08_7, hka08_7, hka08_7, hka08_7, hka08_7]
def hka08_623 : ai_N := (.ofNat 0, .ofNat 128, [(41, .ofNat 0, .ofNat 0)])
def hka08_624 : ai_C := .inl (.int, [(1, hka08_500), (1, hka08_501), (1, hka08_502), (1, hka08_503), (1, hka08_623)])
def hka08_625 : Bool × Option ai_C := (false, some hka08_624)
def hka08_626 : ai_W := [hka08_20, hka08_20, hka08_20, hka08_20, hka08_20, hka08_20, hka08_20, hka08_20, hka08_20, hka08_20, hka08_20, hka08_20, hka08_20, hka08_20, hka08_20, hka08_20, hka08_20, hka08_20, hka08_20, hka08_20, hka08_20, hka08_20, hka08_20, hka08_20, hka08_20, hka08_20, hka08_20, hka08_20, hka08_20, hka08_20, hka08_20, hka08_20, hka08_20, hka08_20, hka08_20, hka08_20, hka08_20, hka08_20, hka08_20, hka08_20, hka08_20, hka08_20, hka08_20, hka08_20, hka08_20, hka08_20, hka08_20, hka08_20, hka08_20, hka08_20, hka08_20, hka08_20, hka08_20, hka08_20, hka08_20, hka08_20, hka08_20, hka08_20, hka08_20, hka08_351, hka08_373, hka08_20, hka08_20, hka08_20, hka08_20, hka08_20, hka08_20, hka08_397, hka08_20, hka08_20, hka08_20, hka08_625, hka08_507, hka08_20, hka08_20, hka08_20]
def hka08_627 : ai_E := [hka08_259, hka08_2, hka08_3, hka08_212, hka08_295, hka08_6, hka08_0, hka08_295, hka08_296, hka08_297, hka08_297, hka08_297, hka08_1, hka08_0, hka08_213, hka08_297, hka08_298, hka08_0, hka08_6, hka08_4, hka08_299, hka08_300, hka08_301, hka08_5, hka08_6, hka08_4, hka08_299, hka08_300, hka08_301, hka08_5, hka08_6, hka08_4, hka08_299, hka08_300, hka08_301, hka08_5, hka08_6, hka08_7, hka08_7, hka08_7, hka08_7, hka08_7]
def hka08_628 : ai_V := .inl (false, hka08_352)
def hka08_629 : ai_N := (.ofNat 1000000, .ofNat 1000000, [])
def hka08_630 : ai_V := .inl (false, hka08_629)
def hka08_631 : ai_C := .inr (.inr (8, [hka08_304, hka08_305, hka08_102, hka08_104, hka08_306, hka08_307, hka08_309, hka08_310, hka08_312, hka08_314, hka08_315, hka08_36, hka08_317, hka08_319, hka08_320, hka08_322, hka08_324, hka08_326, hka08_328, hka08_330, hka08_332, hka08_334, hka08_335, hka08_628, hka08_338, hka08_339, hka08_630, hka08_342, hka08_343, hka08_344, hka08_345, hka08_346, hka08_347, hka08_349]))
def hka08_632 : ai_N := (.negSucc 2147483647, .ofNat 999999, [])
def hka08_633 : ai_V := .inl (false, hka08_632)
def hka08_634 : Int × Int := (.ofNat 0, .ofNat 40)
def hka08_635 : ai_E := [hka08_634, hka08_2, hka08_3, hka08_212, hka08_295, hka08_6, hka08_0, hka08_295, hka08_296, hka08_297, hka08_297, hka08_297, hka08_1, hka08_0, hka08_213, hka08_297, hka08_298, hka08_0, hka08_6, hka08_4, hka08_299, hka08_300, hka08_301, hka08_5, hka08_6, hka08_4, hka08_299, hka08_300, hka08_301, hka08_5, hka08_6, hka08_4, hka08_299, hka08_300, hka08_301, hka08_5, hka08_6, hka08_7, hka08_7, hka08_7, hka08_7, hka08_7]
def hka08_636 : ai_C := .inr (.inr (8, [hka08_304, hka08_305, hka08_102, hka08_104, hka08_306, hka08_307, hka08_309, hka08_310, hka08_312, hka08_314, hka08_315, hka08_36, hka08_317, hka08_319, hka08_320, hka08_322, hka08_324, hka08_326, hka08_328, hka08_330, hka08_332, hka08_334, hka08_335, hka08_628, hka08_338, hka08_339, hka08_633, hka08_342, hka08_343, hka08_344, hka08_345, hka08_346, hka08_347, hka08_349]))
/-- NeverAgainModel.putOff -/
def ka_723 : ai_K := (66, 5, (hka08_622, [hka08_303, hka08_14, hka08_19, hka08_19, hka08_19], [], hka08_626), [.inl 1, .inr (59, 2), .inr (59, 3), .inr (59, 6), .inr (59, 8), .inr (59, 9), .inr (59, 11), .inr (59, 12), .inr (59, 13), .inr (59, 15), .inr (59, 16), .inr (59, 17), .inr (59, 18), .inr (59, 19), .inr (59, 20), .inr (59, 21), .inr (59, 23), .inr (59, 26), .inr (59, 33), .inr (60, 0), .inr (60, 78), .inr (60, 79), .inr (60, 80), .inr (60, 81), .inr (60, 87), .inr (60, 96), .inr (60, 174), .inr (60, 175), .inr (60, 176), .inr (60, 177), .inr (60, 183), .inr (60, 192), .inr (60, 270), .inr (60, 271), .inr (60, 272), .inr (60, 273), .inr (60, 279), .inr (71, 0), .inr (71, 1), .inr (71, 2), .inr (71, 3), .inr (71, 4)], [(some hka08_276, hka08_622, []), (some hka08_197, hka08_627, [(59, hka08_631), (67, hka08_396), (71, hka08_513), (72, hka08_506)]), (some hka08_633, hka08_635, [(59, hka08_636), (67, hka08_396), (71, hka08_513), (72, hka08_506)])])
def hka08_637 : Int × Int := (.ofNat 10, .ofNat 40)
def hka08_638 : ai_E := [hka08_637, hka08_2, hka08_3, hka08_212, hka08_295, hka08_6, hka08_0, hka08_295, hka08_296, hka08_297, hka08_297, hka08_297, hka08_1, hka08_0, hka08_213, hka08_297, hka08_298, hka08_0, hka08_6, hka08_4, hka08_299, hka08_300, hka08_301, hka08_5, hka08_6, hka08_4, hka08_299, hka08_300, hka08_301, hka08_5, hka08_6, hka08_4, hka08_299, hka08_300, hka08_301, hka08_5, hka08_6, hka08_7, hka08_7, hka08_7, hka08_7, hka08_7, hka08_5]
def hka08_639 : ai_N := (.ofNat 10, .ofNat 40, [(0, .ofNat 0, .ofNat 0)])
def hka08_640 : ai_V := .inl (false, hka08_639)
def hka08_641 : ai_V := .inl (false, hka08_395)
def hka08_642 : ai_N := (.ofNat 0, .ofNat 5, [(42, .ofNat 0, .ofNat 0)])
def hka08_643 : ai_V := .inl (false, hka08_642)
def hka08_644 : Bool × Option ai_C := (true, some hka08_636)
def hka08_645 : Bool × Option ai_C := (true, some hka08_513)
def hka08_646 : ai_W := [hka08_20, hka08_20, hka08_20, hka08_20, hka08_20, hka08_20, hka08_20, hka08_20, hka08_20, hka08_20, hka08_20, hka08_20, hka08_20, hka08_20, hka08_20, hka08_20, hka08_20, hka08_20, hka08_20, hka08_20, hka08_20, hka08_20, hka08_20, hka08_20, hka08_20, hka08_20, hka08_20, hka08_20, hka08_20, hka08_20, hka08_20, hka08_20, hka08_20, hka08_20, hka08_20, hka08_20, hka08_20, hka08_20, hka08_20, hka08_20, hka08_20, hka08_20, hka08_20, hka08_20, hka08_20, hka08_20, hka08_20, hka08_20, hka08_20, hka08_20, hka08_20, hka08_20, hka08_20, hka08_20, hka08_20, hka08_20, hka08_20, hka08_20, hka08_20, hka08_644, hka08_373, hka08_20, hka08_20, hka08_20, hka08_20, hka08_20, hka08_20, hka08_528, hka08_20, hka08_20, hka08_20, hka08_645, hka08_536, hka08_20, hka08_20, hka08_20]
def kan_723 : List ai_Nd := [(75, (hka08_638, [hka08_303, hka08_640, hka08_641, hka08_643, hka08_19], [], hka08_646), [.inl 3], [.inl 99924, .inl 1, .inr (true, .ofNat 5, 42), .inl 100000])]
set_option maxRecDepth 1000000 in
theorem kak_723 : ai_ck [ka_722, ka_657, ka_656, ka_721] [] ka_723 [.inl 100000, .inl 0, .inl 0, .inl 0] kan_723 44 = true := by decide +kernel
theorem kah_723 : ai_holds ka_723 := ai_thm kak_723 (ai_cons kah_722 (ai_cons kah_657 (ai_cons kah_656 (ai_cons kah_721 ai_nil))))

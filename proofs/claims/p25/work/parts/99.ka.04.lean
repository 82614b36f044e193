/-! CONTRACTS found by wip/ai/an.py, each held by the kernel. -/
def hka04_0 : ai_V := .inr (some (.ref 59))
def hka04_1 : ai_N := (.ofNat 1, .ofNat 1, [])
def hka04_2 : ai_V := .inl (false, hka04_1)
def hka04_3 : ai_N := (.ofNat 6, .ofNat 6, [])
def hka04_4 : ai_V := .inl (false, hka04_3)
def hka04_5 : Bool × Option ai_C := (false, none)
def hka04_6 : ai_W := [hka04_5, hka04_5, hka04_5, hka04_5, hka04_5, hka04_5, hka04_5, hka04_5, hka04_5, hka04_5, hka04_5, hka04_5, hka04_5, hka04_5, hka04_5, hka04_5, hka04_5, hka04_5, hka04_5, hka04_5, hka04_5, hka04_5, hka04_5, hka04_5, hka04_5, hka04_5, hka04_5, hka04_5, hka04_5, hka04_5, hka04_5, hka04_5, hka04_5, hka04_5, hka04_5, hka04_5, hka04_5, hka04_5, hka04_5, hka04_5, hka04_5, hka04_5, hka04_5, hka04_5, hka04_5, hka04_5, hka04_5, hka04_5, hka04_5, hka04_5, hka04_5, hka04_5, hka04_5, hka04_5, hka04_5, hka04_5, hka04_5, hka04_5, hka04_5, hka04_5, hka04_5, hka04_5, hka04_5, hka04_5, hka04_5, hka04_5, hka04_5, hka04_5, hka04_5, hka04_5, hka04_5, hka04_5, hka04_5, hka04_5, hka04_5, hka04_5]
/-- NeverAgainModel.needs -/
def ka_339 : ai_K := (98, 0, ([], [hka04_0, hka04_2, hka04_4], [], hka04_6), [], [(none, [], [])])
def kan_339 : List ai_Nd := []
set_option maxRecDepth 1000000 in
theorem kak_339 : ai_ck [] [] ka_339 [.inl 100000] kan_339 4 = true := by decide +kernel
theorem kah_339 : ai_holds ka_339 := ai_thm kak_339 ai_nil
def hka04_7 : Int × Int := (.ofNat 4, .ofNat 16)
def hka04_8 : Int × Int := (.ofNat 1, .ofNat 4)
def hka04_9 : Int × Int := (.ofNat 0, .ofNat 12)
def hka04_10 : Int × Int := (.ofNat 0, .ofNat 16)
def hka04_11 : Int × Int := (.ofNat 0, .ofNat 4)
def hka04_12 : Int × Int := (.negSucc 2147483647, .ofNat 2147483647)
def hka04_13 : Int × Int := (.negSucc 3, .ofNat 3)
def hka04_14 : Int × Int := (.ofNat 0, .ofNat 400)
def hka04_15 : Int × Int := (.ofNat 0, .ofNat 3)
def hka04_16 : Int × Int := (.ofNat 0, .ofNat 6)
def hka04_17 : Int × Int := (.ofNat 0, .ofNat 130)
def hka04_18 : Int × Int := (.ofNat 0, .ofNat 60)
def hka04_19 : Int × Int := (.ofNat 0, .ofNat 20)
def hka04_20 : Int × Int := (.ofNat 0, .ofNat 1)
def hka04_21 : Int × Int := (.negSucc 3, .ofNat 2)
def hka04_22 : Int × Int := (.ofNat 0, .ofNat 5)
def hka04_23 : ai_E := [hka04_7, hka04_8, hka04_9, hka04_10, hka04_11, hka04_12, hka04_10, hka04_13, hka04_14, hka04_14, hka04_14, hka04_15, hka04_12, hka04_16, hka04_14, hka04_17, hka04_12, hka04_11, hka04_18, hka04_19, hka04_20, hka04_21, hka04_22, hka04_11, hka04_18, hka04_19, hka04_20, hka04_21, hka04_22, hka04_11, hka04_18, hka04_19, hka04_20, hka04_21, hka04_22, hka04_11, hka04_18, hka04_19, hka04_20, hka04_21, hka04_22, hka04_11]
def hka04_24 : ai_V := .inr none
def hka04_25 : ai_V := .inr (some (.ref 60))
def hka04_26 : ai_V := .inr (some (.ref 61))
def hka04_27 : ai_N := (.ofNat 4, .ofNat 16, [(0, .ofNat 0, .ofNat 0)])
def hka04_28 : ai_V := .inl (false, hka04_27)
def hka04_29 : ai_N := (.ofNat 1, .ofNat 4, [(1, .ofNat 0, .ofNat 0)])
def hka04_30 : ai_V := .inl (false, hka04_29)
def hka04_31 : ai_V := .inr (some (.ref 62))
def hka04_32 : ai_V := .inr (some (.ref 63))
def hka04_33 : ai_N := (.ofNat 0, .ofNat 12, [(2, .ofNat 0, .ofNat 0)])
def hka04_34 : ai_V := .inl (false, hka04_33)
def hka04_35 : ai_V := .inr (some (.ref 64))
def hka04_36 : ai_N := (.ofNat 0, .ofNat 16, [(3, .ofNat 0, .ofNat 0)])
def hka04_37 : ai_V := .inl (false, hka04_36)
def hka04_38 : ai_N := (.ofNat 0, .ofNat 4, [(4, .ofNat 0, .ofNat 0)])
def hka04_39 : ai_V := .inl (false, hka04_38)
def hka04_40 : ai_V := .inr (some (.ref 65))
def hka04_41 : ai_N := (.negSucc 2147483647, .ofNat 2147483647, [(5, .ofNat 0, .ofNat 0)])
def hka04_42 : ai_V := .inl (false, hka04_41)
def hka04_43 : ai_N := (.ofNat 0, .ofNat 16, [(6, .ofNat 0, .ofNat 0)])
def hka04_44 : ai_V := .inl (false, hka04_43)
def hka04_45 : ai_N := (.negSucc 3, .ofNat 3, [(7, .ofNat 0, .ofNat 0)])
def hka04_46 : ai_V := .inl (false, hka04_45)
def hka04_47 : ai_V := .inr (some (.ref 66))
def hka04_48 : ai_N := (.ofNat 0, .ofNat 400, [(8, .ofNat 0, .ofNat 0)])
def hka04_49 : ai_V := .inl (false, hka04_48)
def hka04_50 : ai_N := (.ofNat 0, .ofNat 400, [(9, .ofNat 0, .ofNat 0)])
def hka04_51 : ai_V := .inl (false, hka04_50)
def hka04_52 : ai_N := (.ofNat 0, .ofNat 400, [(10, .ofNat 0, .ofNat 0)])
def hka04_53 : ai_V := .inl (false, hka04_52)
def hka04_54 : ai_N := (.ofNat 0, .ofNat 3, [(11, .ofNat 0, .ofNat 0)])
def hka04_55 : ai_V := .inl (false, hka04_54)
def hka04_56 : ai_N := (.negSucc 2147483647, .ofNat 2147483647, [(12, .ofNat 0, .ofNat 0)])
def hka04_57 : ai_V := .inl (false, hka04_56)
def hka04_58 : ai_N := (.ofNat 0, .ofNat 6, [(13, .ofNat 0, .ofNat 0)])
def hka04_59 : ai_V := .inl (false, hka04_58)
def hka04_60 : ai_N := (.ofNat 0, .ofNat 400, [(14, .ofNat 0, .ofNat 0)])
def hka04_61 : ai_V := .inl (false, hka04_60)
def hka04_62 : ai_V := .inr (some (.ref 67))
def hka04_63 : ai_N := (.ofNat 0, .ofNat 130, [(15, .ofNat 0, .ofNat 0)])
def hka04_64 : ai_V := .inl (false, hka04_63)
def hka04_65 : ai_V := .inr (some (.ref 68))
def hka04_66 : ai_V := .inr (some (.ref 69))
def hka04_67 : ai_N := (.negSucc 2147483647, .ofNat 2147483647, [(16, .ofNat 0, .ofNat 0)])
def hka04_68 : ai_V := .inl (false, hka04_67)
def hka04_69 : ai_V := .inr (some (.ref 70))
def hka04_70 : ai_V := .inr (some (.ref 71))
def hka04_71 : ai_V := .inr (some (.ref 72))
def hka04_72 : ai_V := .inr (some (.ref 73))
def hka04_73 : ai_V := .inr (some (.ref 74))
def hka04_74 : ai_V := .inr (some (.ref 75))
def hka04_75 : ai_N := (.ofNat 0, .ofNat 4, [(17, .ofNat 0, .ofNat 0)])
def hka04_76 : ai_V := .inl (false, hka04_75)
def hka04_77 : ai_C := .inr (.inr (8, [hka04_25, hka04_26, hka04_28, hka04_30, hka04_31, hka04_32, hka04_34, hka04_35, hka04_37, hka04_39, hka04_40, hka04_42, hka04_44, hka04_46, hka04_47, hka04_49, hka04_51, hka04_53, hka04_55, hka04_57, hka04_59, hka04_61, hka04_62, hka04_64, hka04_65, hka04_66, hka04_68, hka04_69, hka04_70, hka04_71, hka04_72, hka04_73, hka04_74, hka04_76]))
def hka04_78 : Bool × Option ai_C := (false, some hka04_77)
def hka04_79 : ai_N := (.ofNat 0, .ofNat 60, [(18, .ofNat 0, .ofNat 0)])
def hka04_80 : ai_N := (.ofNat 0, .ofNat 16, [])
def hka04_81 : ai_N := (.negSucc 3, .ofNat 3, [])
def hka04_82 : ai_N := (.ofNat 0, .ofNat 20, [(19, .ofNat 0, .ofNat 0)])
def hka04_83 : ai_N := (.ofNat 0, .ofNat 1, [(20, .ofNat 0, .ofNat 0)])
def hka04_84 : ai_N := (.negSucc 3, .ofNat 2, [(21, .ofNat 0, .ofNat 0)])
def hka04_85 : ai_N := (.ofNat 0, .ofNat 5, [(22, .ofNat 0, .ofNat 0)])
def hka04_86 : ai_N := (.ofNat 0, .ofNat 3, [])
def hka04_87 : ai_N := (.ofNat 0, .ofNat 4, [(23, .ofNat 0, .ofNat 0)])
def hka04_88 : ai_N := (.ofNat 0, .ofNat 4, [])
def hka04_89 : ai_N := (.ofNat 0, .ofNat 60, [(24, .ofNat 0, .ofNat 0)])
def hka04_90 : ai_N := (.ofNat 0, .ofNat 20, [(25, .ofNat 0, .ofNat 0)])
def hka04_91 : ai_N := (.ofNat 0, .ofNat 1, [(26, .ofNat 0, .ofNat 0)])
def hka04_92 : ai_N := (.negSucc 3, .ofNat 2, [(27, .ofNat 0, .ofNat 0)])
def hka04_93 : ai_N := (.ofNat 0, .ofNat 5, [(28, .ofNat 0, .ofNat 0)])
def hka04_94 : ai_N := (.ofNat 0, .ofNat 4, [(29, .ofNat 0, .ofNat 0)])
def hka04_95 : ai_N := (.ofNat 0, .ofNat 60, [(30, .ofNat 0, .ofNat 0)])
def hka04_96 : ai_N := (.ofNat 0, .ofNat 20, [(31, .ofNat 0, .ofNat 0)])
def hka04_97 : ai_N := (.ofNat 0, .ofNat 1, [(32, .ofNat 0, .ofNat 0)])
def hka04_98 : ai_N := (.negSucc 3, .ofNat 2, [(33, .ofNat 0, .ofNat 0)])
def hka04_99 : ai_N := (.ofNat 0, .ofNat 5, [(34, .ofNat 0, .ofNat 0)])
def hka04_100 : ai_N := (.ofNat 0, .ofNat 4, [(35, .ofNat 0, .ofNat 0)])
def hka04_101 : ai_C := .inl (.int, [(1, hka04_79), (60, hka04_80), (17, hka04_81), (1, hka04_82), (1, hka04_83), (1, hka04_84), (1, hka04_85), (5, hka04_86), (1, hka04_87), (8, hka04_88), (1, hka04_89), (60, hka04_80), (17, hka04_81), (1, hka04_90), (1, hka04_91), (1, hka04_92), (1, hka04_93), (5, hka04_86), (1, hka04_94), (8, hka04_88), (1, hka04_95), (60, hka04_80), (17, hka04_81), (1, hka04_96), (1, hka04_97), (1, hka04_98), (1, hka04_99), (5, hka04_86), (1, hka04_100), (8, hka04_88)])
def hka04_102 : Bool × Option ai_C := (false, some hka04_101)
def hka04_103 : ai_N := (.ofNat 0, .ofNat 1, [])
def hka04_104 : ai_C := .inl (.boolean, [(2, hka04_103)])
def hka04_105 : Bool × Option ai_C := (false, some hka04_104)
def hka04_106 : ai_N := (.ofNat 1, .ofNat 9, [])
def hka04_107 : ai_C := .inl (.int, [(4, hka04_106)])
def hka04_108 : Bool × Option ai_C := (false, some hka04_107)
def hka04_109 : ai_N := (.ofNat 0, .ofNat 60, [(36, .ofNat 0, .ofNat 0)])
def hka04_110 : ai_N := (.ofNat 0, .ofNat 20, [(37, .ofNat 0, .ofNat 0)])
def hka04_111 : ai_N := (.ofNat 0, .ofNat 1, [(38, .ofNat 0, .ofNat 0)])
def hka04_112 : ai_N := (.negSucc 3, .ofNat 2, [(39, .ofNat 0, .ofNat 0)])
def hka04_113 : ai_N := (.ofNat 0, .ofNat 5, [(40, .ofNat 0, .ofNat 0)])
def hka04_114 : ai_N := (.ofNat 0, .ofNat 4, [(41, .ofNat 0, .ofNat 0)])
def hka04_115 : ai_C := .inl (.int, [(1, hka04_109), (60, hka04_80), (17, hka04_81), (1, hka04_110), (1, hka04_111), (1, hka04_112), (1, hka04_113), (5, hka04_86), (1, hka04_114), (8, hka04_88)])
def hka04_116 : Bool × Option ai_C := (false, some hka04_115)
def hka04_117 : ai_W := [hka04_5, hka04_5, hka04_5, hka04_5, hka04_5, hka04_5, hka04_5, hka04_5, hka04_5, hka04_5, hka04_5, hka04_5, hka04_5, hka04_5, hka04_5, hka04_5, hka04_5, hka04_5, hka04_5, hka04_5, hka04_5, hka04_5, hka04_5, hka04_5, hka04_5, hka04_5, hka04_5, hka04_5, hka04_5, hka04_5, hka04_5, hka04_5, hka04_5, hka04_5, hka04_5, hka04_5, hka04_5, hka04_5, hka04_5, hka04_5, hka04_5, hka04_5, hka04_5, hka04_5, hka04_5, hka04_5, hka04_5, hka04_5, hka04_5, hka04_5, hka04_5, hka04_5, hka04_5, hka04_5, hka04_5, hka04_5, hka04_5, hka04_5, hka04_5, hka04_78, hka04_102, hka04_105, hka04_108, hka04_5, hka04_116, hka04_108, hka04_5, hka04_5, hka04_5, hka04_5, hka04_5, hka04_5, hka04_5, hka04_5, hka04_5, hka04_5]
def hka04_118 : ai_N := (.ofNat 0, .ofNat 0, [])
def hka04_119 : ai_V := .inl (false, hka04_118)
def hka04_120 : ai_C := .inr (.inr (8, [hka04_25, hka04_26, hka04_37, hka04_39, hka04_31, hka04_32, hka04_119, hka04_35, hka04_37, hka04_39, hka04_40, hka04_42, hka04_44, hka04_46, hka04_47, hka04_49, hka04_51, hka04_53, hka04_55, hka04_57, hka04_59, hka04_61, hka04_62, hka04_64, hka04_65, hka04_66, hka04_68, hka04_69, hka04_70, hka04_71, hka04_72, hka04_73, hka04_74, hka04_76]))
def hka04_121 : ai_N := (.ofNat 0, .ofNat 20, [])
def hka04_122 : ai_N := (.negSucc 3, .ofNat 2, [])
def hka04_123 : ai_N := (.ofNat 0, .ofNat 5, [])
def hka04_124 : ai_C := .inl (.int, [(1, hka04_109), (60, hka04_80), (17, hka04_81), (1, hka04_121), (1, hka04_103), (1, hka04_122), (1, hka04_123), (5, hka04_86), (1, hka04_88), (8, hka04_88), (1, hka04_89), (60, hka04_80), (17, hka04_81), (1, hka04_90), (1, hka04_91), (1, hka04_92), (1, hka04_93), (5, hka04_86), (1, hka04_94), (8, hka04_88), (1, hka04_95), (60, hka04_80), (17, hka04_81), (1, hka04_96), (1, hka04_97), (1, hka04_98), (1, hka04_99), (5, hka04_86), (1, hka04_100), (8, hka04_88)])
/-- NeverAgainModel.keepDraft -/
def ka_340 : ai_K := (91, 0, (hka04_23, [hka04_0, hka04_24], [], hka04_117), [.inr (59, 2), .inr (59, 3), .inr (59, 6), .inr (59, 8), .inr (59, 9), .inr (59, 11), .inr (59, 12), .inr (59, 13), .inr (59, 15), .inr (59, 16), .inr (59, 17), .inr (59, 18), .inr (59, 19), .inr (59, 20), .inr (59, 21), .inr (59, 23), .inr (59, 26), .inr (59, 33), .inr (60, 0), .inr (60, 78), .inr (60, 79), .inr (60, 80), .inr (60, 81), .inr (60, 87), .inr (60, 96), .inr (60, 174), .inr (60, 175), .inr (60, 176), .inr (60, 177), .inr (60, 183), .inr (60, 192), .inr (60, 270), .inr (60, 271), .inr (60, 272), .inr (60, 273), .inr (60, 279), .inr (64, 0), .inr (64, 78), .inr (64, 79), .inr (64, 80), .inr (64, 81), .inr (64, 87)], [(none, hka04_23, [(59, hka04_120), (60, hka04_124), (61, hka04_104), (62, hka04_107)])])
def hka04_125 : Int × Int := (.ofNat 0, .ofNat 0)
def hka04_126 : ai_E := [hka04_7, hka04_8, hka04_9, hka04_10, hka04_11, hka04_12, hka04_10, hka04_13, hka04_14, hka04_14, hka04_14, hka04_15, hka04_12, hka04_16, hka04_14, hka04_17, hka04_12, hka04_11, hka04_18, hka04_19, hka04_20, hka04_21, hka04_22, hka04_11, hka04_18, hka04_19, hka04_20, hka04_21, hka04_22, hka04_11, hka04_18, hka04_19, hka04_20, hka04_21, hka04_22, hka04_11, hka04_18, hka04_19, hka04_20, hka04_21, hka04_22, hka04_11, hka04_125]
def hka04_127 : ai_N := (.ofNat 0, .ofNat 0, [(42, .ofNat 0, .ofNat 0)])
def hka04_128 : ai_V := .inl (false, hka04_127)
def hka04_129 : Int × Int := (.ofNat 1, .ofNat 60)
def hka04_130 : ai_E := [hka04_7, hka04_8, hka04_9, hka04_10, hka04_11, hka04_12, hka04_10, hka04_13, hka04_14, hka04_14, hka04_14, hka04_15, hka04_12, hka04_16, hka04_14, hka04_17, hka04_12, hka04_11, hka04_18, hka04_19, hka04_20, hka04_21, hka04_22, hka04_11, hka04_18, hka04_19, hka04_20, hka04_21, hka04_22, hka04_11, hka04_18, hka04_19, hka04_20, hka04_21, hka04_22, hka04_11, hka04_18, hka04_19, hka04_20, hka04_21, hka04_22, hka04_11, hka04_129]
def hka04_131 : ai_N := (.ofNat 1, .ofNat 60, [(42, .ofNat 0, .ofNat 0)])
def hka04_132 : ai_V := .inl (false, hka04_131)
def hka04_133 : ai_C := .inl (.int, [(1, hka04_109), (60, hka04_80), (17, hka04_81), (1, hka04_82), (1, hka04_83), (1, hka04_84), (1, hka04_85), (5, hka04_86), (1, hka04_87), (8, hka04_88), (1, hka04_89), (60, hka04_80), (17, hka04_81), (1, hka04_90), (1, hka04_91), (1, hka04_92), (1, hka04_93), (5, hka04_86), (1, hka04_94), (8, hka04_88), (1, hka04_95), (60, hka04_80), (17, hka04_81), (1, hka04_96), (1, hka04_97), (1, hka04_98), (1, hka04_99), (5, hka04_86), (1, hka04_100), (8, hka04_88)])
def hka04_134 : Bool × Option ai_C := (true, some hka04_133)
def hka04_135 : ai_W := [hka04_5, hka04_5, hka04_5, hka04_5, hka04_5, hka04_5, hka04_5, hka04_5, hka04_5, hka04_5, hka04_5, hka04_5, hka04_5, hka04_5, hka04_5, hka04_5, hka04_5, hka04_5, hka04_5, hka04_5, hka04_5, hka04_5, hka04_5, hka04_5, hka04_5, hka04_5, hka04_5, hka04_5, hka04_5, hka04_5, hka04_5, hka04_5, hka04_5, hka04_5, hka04_5, hka04_5, hka04_5, hka04_5, hka04_5, hka04_5, hka04_5, hka04_5, hka04_5, hka04_5, hka04_5, hka04_5, hka04_5, hka04_5, hka04_5, hka04_5, hka04_5, hka04_5, hka04_5, hka04_5, hka04_5, hka04_5, hka04_5, hka04_5, hka04_5, hka04_78, hka04_134, hka04_105, hka04_108, hka04_5, hka04_116, hka04_108, hka04_5, hka04_5, hka04_5, hka04_5, hka04_5, hka04_5, hka04_5, hka04_5, hka04_5, hka04_5]
def hka04_136 : Int × Int := (.ofNat 61, .ofNat 77)
def hka04_137 : ai_E := [hka04_7, hka04_8, hka04_9, hka04_10, hka04_11, hka04_12, hka04_10, hka04_13, hka04_14, hka04_14, hka04_14, hka04_15, hka04_12, hka04_16, hka04_14, hka04_17, hka04_12, hka04_11, hka04_18, hka04_19, hka04_20, hka04_21, hka04_22, hka04_11, hka04_18, hka04_19, hka04_20, hka04_21, hka04_22, hka04_11, hka04_18, hka04_19, hka04_20, hka04_21, hka04_22, hka04_11, hka04_18, hka04_19, hka04_20, hka04_21, hka04_22, hka04_11, hka04_136]
def hka04_138 : ai_N := (.ofNat 61, .ofNat 77, [(42, .ofNat 0, .ofNat 0)])
def hka04_139 : ai_V := .inl (false, hka04_138)
def hka04_140 : ai_C := .inr (.inr (8, [hka04_25, hka04_26, hka04_37, hka04_39, hka04_31, hka04_32, hka04_34, hka04_35, hka04_37, hka04_39, hka04_40, hka04_42, hka04_44, hka04_46, hka04_47, hka04_49, hka04_51, hka04_53, hka04_55, hka04_57, hka04_59, hka04_61, hka04_62, hka04_64, hka04_65, hka04_66, hka04_68, hka04_69, hka04_70, hka04_71, hka04_72, hka04_73, hka04_74, hka04_76]))
def hka04_141 : Bool × Option ai_C := (true, some hka04_140)
def hka04_142 : Bool × Option ai_C := (true, some hka04_124)
def hka04_143 : ai_W := [hka04_5, hka04_5, hka04_5, hka04_5, hka04_5, hka04_5, hka04_5, hka04_5, hka04_5, hka04_5, hka04_5, hka04_5, hka04_5, hka04_5, hka04_5, hka04_5, hka04_5, hka04_5, hka04_5, hka04_5, hka04_5, hka04_5, hka04_5, hka04_5, hka04_5, hka04_5, hka04_5, hka04_5, hka04_5, hka04_5, hka04_5, hka04_5, hka04_5, hka04_5, hka04_5, hka04_5, hka04_5, hka04_5, hka04_5, hka04_5, hka04_5, hka04_5, hka04_5, hka04_5, hka04_5, hka04_5, hka04_5, hka04_5, hka04_5, hka04_5, hka04_5, hka04_5, hka04_5, hka04_5, hka04_5, hka04_5, hka04_5, hka04_5, hka04_5, hka04_141, hka04_142, hka04_105, hka04_108, hka04_5, hka04_116, hka04_108, hka04_5, hka04_5, hka04_5, hka04_5, hka04_5, hka04_5, hka04_5, hka04_5, hka04_5, hka04_5]
def hka04_144 : Int × Int := (.ofNat 88, .ofNat 95)
def hka04_145 : ai_E := [hka04_7, hka04_8, hka04_9, hka04_10, hka04_11, hka04_12, hka04_10, hka04_13, hka04_14, hka04_14, hka04_14, hka04_15, hka04_12, hka04_16, hka04_14, hka04_17, hka04_12, hka04_11, hka04_18, hka04_19, hka04_20, hka04_21, hka04_22, hka04_11, hka04_18, hka04_19, hka04_20, hka04_21, hka04_22, hka04_11, hka04_18, hka04_19, hka04_20, hka04_21, hka04_22, hka04_11, hka04_18, hka04_19, hka04_20, hka04_21, hka04_22, hka04_11, hka04_144]
def hka04_146 : ai_N := (.ofNat 88, .ofNat 95, [(42, .ofNat 0, .ofNat 0)])
def hka04_147 : ai_V := .inl (false, hka04_146)
def hka04_148 : ai_W := [hka04_5, hka04_5, hka04_5, hka04_5, hka04_5, hka04_5, hka04_5, hka04_5, hka04_5, hka04_5, hka04_5, hka04_5, hka04_5, hka04_5, hka04_5, hka04_5, hka04_5, hka04_5, hka04_5, hka04_5, hka04_5, hka04_5, hka04_5, hka04_5, hka04_5, hka04_5, hka04_5, hka04_5, hka04_5, hka04_5, hka04_5, hka04_5, hka04_5, hka04_5, hka04_5, hka04_5, hka04_5, hka04_5, hka04_5, hka04_5, hka04_5, hka04_5, hka04_5, hka04_5, hka04_5, hka04_5, hka04_5, hka04_5, hka04_5, hka04_5, hka04_5, hka04_5, hka04_5, hka04_5, hka04_5, hka04_5, hka04_5, hka04_5, hka04_5, hka04_78, hka04_142, hka04_105, hka04_108, hka04_5, hka04_116, hka04_108, hka04_5, hka04_5, hka04_5, hka04_5, hka04_5, hka04_5, hka04_5, hka04_5, hka04_5, hka04_5]
def hka04_149 : Int × Int := (.ofNat 96, .ofNat 96)
def hka04_150 : ai_E := [hka04_7, hka04_8, hka04_9, hka04_10, hka04_11, hka04_12, hka04_10, hka04_13, hka04_14, hka04_14, hka04_14, hka04_15, hka04_12, hka04_16, hka04_14, hka04_17, hka04_12, hka04_11, hka04_18, hka04_19, hka04_20, hka04_21, hka04_22, hka04_11, hka04_18, hka04_19, hka04_20, hka04_21, hka04_22, hka04_11, hka04_18, hka04_19, hka04_20, hka04_21, hka04_22, hka04_11, hka04_18, hka04_19, hka04_20, hka04_21, hka04_22, hka04_11, hka04_149]
def hka04_151 : ai_N := (.ofNat 96, .ofNat 96, [(42, .ofNat 0, .ofNat 0)])
def hka04_152 : ai_V := .inl (false, hka04_151)
def hka04_153 : Int × Int := (.ofNat 82, .ofNat 86)
def hka04_154 : ai_E := [hka04_7, hka04_8, hka04_9, hka04_10, hka04_11, hka04_12, hka04_10, hka04_13, hka04_14, hka04_14, hka04_14, hka04_15, hka04_12, hka04_16, hka04_14, hka04_17, hka04_12, hka04_11, hka04_18, hka04_19, hka04_20, hka04_21, hka04_22, hka04_11, hka04_18, hka04_19, hka04_20, hka04_21, hka04_22, hka04_11, hka04_18, hka04_19, hka04_20, hka04_21, hka04_22, hka04_11, hka04_18, hka04_19, hka04_20, hka04_21, hka04_22, hka04_11, hka04_153]
def hka04_155 : ai_N := (.ofNat 82, .ofNat 86, [(42, .ofNat 0, .ofNat 0)])
def hka04_156 : ai_V := .inl (false, hka04_155)
def hka04_157 : ai_C := .inl (.int, [(1, hka04_109), (60, hka04_80), (17, hka04_81), (1, hka04_121), (1, hka04_103), (1, hka04_122), (1, hka04_123), (5, hka04_86), (1, hka04_87), (8, hka04_88), (1, hka04_89), (60, hka04_80), (17, hka04_81), (1, hka04_90), (1, hka04_91), (1, hka04_92), (1, hka04_93), (5, hka04_86), (1, hka04_94), (8, hka04_88), (1, hka04_95), (60, hka04_80), (17, hka04_81), (1, hka04_96), (1, hka04_97), (1, hka04_98), (1, hka04_99), (5, hka04_86), (1, hka04_100), (8, hka04_88)])
def hka04_158 : Bool × Option ai_C := (true, some hka04_157)
def hka04_159 : ai_W := [hka04_5, hka04_5, hka04_5, hka04_5, hka04_5, hka04_5, hka04_5, hka04_5, hka04_5, hka04_5, hka04_5, hka04_5, hka04_5, hka04_5, hka04_5, hka04_5, hka04_5, hka04_5, hka04_5, hka04_5, hka04_5, hka04_5, hka04_5, hka04_5, hka04_5, hka04_5, hka04_5, hka04_5, hka04_5, hka04_5, hka04_5, hka04_5, hka04_5, hka04_5, hka04_5, hka04_5, hka04_5, hka04_5, hka04_5, hka04_5, hka04_5, hka04_5, hka04_5, hka04_5, hka04_5, hka04_5, hka04_5, hka04_5, hka04_5, hka04_5, hka04_5, hka04_5, hka04_5, hka04_5, hka04_5, hka04_5, hka04_5, hka04_5, hka04_5, hka04_78, hka04_158, hka04_105, hka04_108, hka04_5, hka04_116, hka04_108, hka04_5, hka04_5, hka04_5, hka04_5, hka04_5, hka04_5, hka04_5, hka04_5, hka04_5, hka04_5]
def hka04_160 : Int × Int := (.ofNat 87, .ofNat 87)
def hka04_161 : ai_E := [hka04_7, hka04_8, hka04_9, hka04_10, hka04_11, hka04_12, hka04_10, hka04_13, hka04_14, hka04_14, hka04_14, hka04_15, hka04_12, hka04_16, hka04_14, hka04_17, hka04_12, hka04_11, hka04_18, hka04_19, hka04_20, hka04_21, hka04_22, hka04_11, hka04_18, hka04_19, hka04_20, hka04_21, hka04_22, hka04_11, hka04_18, hka04_19, hka04_20, hka04_21, hka04_22, hka04_11, hka04_18, hka04_19, hka04_20, hka04_21, hka04_22, hka04_11, hka04_160]
def hka04_162 : ai_N := (.ofNat 87, .ofNat 87, [(42, .ofNat 0, .ofNat 0)])
def hka04_163 : ai_V := .inl (false, hka04_162)
def hka04_164 : Int × Int := (.ofNat 81, .ofNat 81)
def hka04_165 : ai_E := [hka04_7, hka04_8, hka04_9, hka04_10, hka04_11, hka04_12, hka04_10, hka04_13, hka04_14, hka04_14, hka04_14, hka04_15, hka04_12, hka04_16, hka04_14, hka04_17, hka04_12, hka04_11, hka04_18, hka04_19, hka04_20, hka04_21, hka04_22, hka04_11, hka04_18, hka04_19, hka04_20, hka04_21, hka04_22, hka04_11, hka04_18, hka04_19, hka04_20, hka04_21, hka04_22, hka04_11, hka04_18, hka04_19, hka04_20, hka04_21, hka04_22, hka04_11, hka04_164]
def hka04_166 : ai_N := (.ofNat 81, .ofNat 81, [(42, .ofNat 0, .ofNat 0)])
def hka04_167 : ai_V := .inl (false, hka04_166)
def hka04_168 : ai_C := .inl (.int, [(1, hka04_109), (60, hka04_80), (17, hka04_81), (1, hka04_110), (1, hka04_111), (1, hka04_112), (1, hka04_85), (5, hka04_86), (1, hka04_87), (8, hka04_88), (1, hka04_89), (60, hka04_80), (17, hka04_81), (1, hka04_90), (1, hka04_91), (1, hka04_92), (1, hka04_93), (5, hka04_86), (1, hka04_94), (8, hka04_88), (1, hka04_95), (60, hka04_80), (17, hka04_81), (1, hka04_96), (1, hka04_97), (1, hka04_98), (1, hka04_99), (5, hka04_86), (1, hka04_100), (8, hka04_88)])
def hka04_169 : Bool × Option ai_C := (true, some hka04_168)
def hka04_170 : ai_W := [hka04_5, hka04_5, hka04_5, hka04_5, hka04_5, hka04_5, hka04_5, hka04_5, hka04_5, hka04_5, hka04_5, hka04_5, hka04_5, hka04_5, hka04_5, hka04_5, hka04_5, hka04_5, hka04_5, hka04_5, hka04_5, hka04_5, hka04_5, hka04_5, hka04_5, hka04_5, hka04_5, hka04_5, hka04_5, hka04_5, hka04_5, hka04_5, hka04_5, hka04_5, hka04_5, hka04_5, hka04_5, hka04_5, hka04_5, hka04_5, hka04_5, hka04_5, hka04_5, hka04_5, hka04_5, hka04_5, hka04_5, hka04_5, hka04_5, hka04_5, hka04_5, hka04_5, hka04_5, hka04_5, hka04_5, hka04_5, hka04_5, hka04_5, hka04_5, hka04_78, hka04_169, hka04_105, hka04_108, hka04_5, hka04_116, hka04_108, hka04_5, hka04_5, hka04_5, hka04_5, hka04_5, hka04_5, hka04_5, hka04_5, hka04_5, hka04_5]
def hka04_171 : Int × Int := (.ofNat 80, .ofNat 80)
def hka04_172 : ai_E := [hka04_7, hka04_8, hka04_9, hka04_10, hka04_11, hka04_12, hka04_10, hka04_13, hka04_14, hka04_14, hka04_14, hka04_15, hka04_12, hka04_16, hka04_14, hka04_17, hka04_12, hka04_11, hka04_18, hka04_19, hka04_20, hka04_21, hka04_22, hka04_11, hka04_18, hka04_19, hka04_20, hka04_21, hka04_22, hka04_11, hka04_18, hka04_19, hka04_20, hka04_21, hka04_22, hka04_11, hka04_18, hka04_19, hka04_20, hka04_21, hka04_22, hka04_11, hka04_171]
def hka04_173 : ai_N := (.ofNat 80, .ofNat 80, [(42, .ofNat 0, .ofNat 0)])
def hka04_174 : ai_V := .inl (false, hka04_173)
def hka04_175 : ai_C := .inl (.int, [(1, hka04_109), (60, hka04_80), (17, hka04_81), (1, hka04_110), (1, hka04_111), (1, hka04_84), (1, hka04_85), (5, hka04_86), (1, hka04_87), (8, hka04_88), (1, hka04_89), (60, hka04_80), (17, hka04_81), (1, hka04_90), (1, hka04_91), (1, hka04_92), (1, hka04_93), (5, hka04_86), (1, hka04_94), (8, hka04_88), (1, hka04_95), (60, hka04_80), (17, hka04_81), (1, hka04_96), (1, hka04_97), (1, hka04_98), (1, hka04_99), (5, hka04_86), (1, hka04_100), (8, hka04_88)])
def hka04_176 : Bool × Option ai_C := (true, some hka04_175)
def hka04_177 : ai_W := [hka04_5, hka04_5, hka04_5, hka04_5, hka04_5, hka04_5, hka04_5, hka04_5, hka04_5, hka04_5, hka04_5, hka04_5, hka04_5, hka04_5, hka04_5, hka04_5, hka04_5, hka04_5, hka04_5, hka04_5, hka04_5, hka04_5, hka04_5, hka04_5, hka04_5, hka04_5, hka04_5, hka04_5, hka04_5, hka04_5, hka04_5, hka04_5, hka04_5, hka04_5, hka04_5, hka04_5, hka04_5, hka04_5, hka04_5, hka04_5, hka04_5, hka04_5, hka04_5, hka04_5, hka04_5, hka04_5, hka04_5, hka04_5, hka04_5, hka04_5, hka04_5, hka04_5, hka04_5, hka04_5, hka04_5, hka04_5, hka04_5, hka04_5, hka04_5, hka04_78, hka04_176, hka04_105, hka04_108, hka04_5, hka04_116, hka04_108, hka04_5, hka04_5, hka04_5, hka04_5, hka04_5, hka04_5, hka04_5, hka04_5, hka04_5, hka04_5]
def hka04_178 : Int × Int := (.ofNat 79, .ofNat 79)
def hka04_179 : ai_E := [hka04_7, hka04_8, hka04_9, hka04_10, hka04_11, hka04_12, hka04_10, hka04_13, hka04_14, hka04_14, hka04_14, hka04_15, hka04_12, hka04_16, hka04_14, hka04_17, hka04_12, hka04_11, hka04_18, hka04_19, hka04_20, hka04_21, hka04_22, hka04_11, hka04_18, hka04_19, hka04_20, hka04_21, hka04_22, hka04_11, hka04_18, hka04_19, hka04_20, hka04_21, hka04_22, hka04_11, hka04_18, hka04_19, hka04_20, hka04_21, hka04_22, hka04_11, hka04_178]
def hka04_180 : ai_N := (.ofNat 79, .ofNat 79, [(42, .ofNat 0, .ofNat 0)])
def hka04_181 : ai_V := .inl (false, hka04_180)
def hka04_182 : ai_C := .inl (.int, [(1, hka04_109), (60, hka04_80), (17, hka04_81), (1, hka04_110), (1, hka04_83), (1, hka04_84), (1, hka04_85), (5, hka04_86), (1, hka04_87), (8, hka04_88), (1, hka04_89), (60, hka04_80), (17, hka04_81), (1, hka04_90), (1, hka04_91), (1, hka04_92), (1, hka04_93), (5, hka04_86), (1, hka04_94), (8, hka04_88), (1, hka04_95), (60, hka04_80), (17, hka04_81), (1, hka04_96), (1, hka04_97), (1, hka04_98), (1, hka04_99), (5, hka04_86), (1, hka04_100), (8, hka04_88)])
def hka04_183 : Bool × Option ai_C := (true, some hka04_182)
def hka04_184 : ai_W := [hka04_5, hka04_5, hka04_5, hka04_5, hka04_5, hka04_5, hka04_5, hka04_5, hka04_5, hka04_5, hka04_5, hka04_5, hka04_5, hka04_5, hka04_5, hka04_5, hka04_5, hka04_5, hka04_5, hka04_5, hka04_5, hka04_5, hka04_5, hka04_5, hka04_5, hka04_5, hka04_5, hka04_5, hka04_5, hka04_5, hka04_5, hka04_5, hka04_5, hka04_5, hka04_5, hka04_5, hka04_5, hka04_5, hka04_5, hka04_5, hka04_5, hka04_5, hka04_5, hka04_5, hka04_5, hka04_5, hka04_5, hka04_5, hka04_5, hka04_5, hka04_5, hka04_5, hka04_5, hka04_5, hka04_5, hka04_5, hka04_5, hka04_5, hka04_5, hka04_78, hka04_183, hka04_105, hka04_108, hka04_5, hka04_116, hka04_108, hka04_5, hka04_5, hka04_5, hka04_5, hka04_5, hka04_5, hka04_5, hka04_5, hka04_5, hka04_5]
def hka04_185 : Int × Int := (.ofNat 78, .ofNat 78)
def hka04_186 : ai_E := [hka04_7, hka04_8, hka04_9, hka04_10, hka04_11, hka04_12, hka04_10, hka04_13, hka04_14, hka04_14, hka04_14, hka04_15, hka04_12, hka04_16, hka04_14, hka04_17, hka04_12, hka04_11, hka04_18, hka04_19, hka04_20, hka04_21, hka04_22, hka04_11, hka04_18, hka04_19, hka04_20, hka04_21, hka04_22, hka04_11, hka04_18, hka04_19, hka04_20, hka04_21, hka04_22, hka04_11, hka04_18, hka04_19, hka04_20, hka04_21, hka04_22, hka04_11, hka04_185]
def hka04_187 : ai_N := (.ofNat 78, .ofNat 78, [(42, .ofNat 0, .ofNat 0)])
def hka04_188 : ai_V := .inl (false, hka04_187)
def hka04_189 : ai_E := [hka04_7, hka04_8, hka04_9, hka04_10, hka04_11, hka04_12, hka04_10, hka04_13, hka04_14, hka04_14, hka04_14, hka04_15, hka04_12, hka04_16, hka04_14, hka04_17, hka04_12, hka04_11, hka04_18, hka04_19, hka04_20, hka04_21, hka04_22, hka04_11, hka04_18, hka04_19, hka04_20, hka04_21, hka04_22, hka04_11, hka04_18, hka04_19, hka04_20, hka04_21, hka04_22, hka04_11, hka04_18, hka04_19, hka04_20, hka04_21, hka04_22, hka04_11, hka04_8]
def hka04_190 : ai_N := (.ofNat 1, .ofNat 4, [(42, .ofNat 0, .ofNat 0)])
def hka04_191 : ai_V := .inl (false, hka04_190)
def hka04_192 : Bool × Option ai_C := (true, some hka04_107)
def hka04_193 : ai_W := [hka04_5, hka04_5, hka04_5, hka04_5, hka04_5, hka04_5, hka04_5, hka04_5, hka04_5, hka04_5, hka04_5, hka04_5, hka04_5, hka04_5, hka04_5, hka04_5, hka04_5, hka04_5, hka04_5, hka04_5, hka04_5, hka04_5, hka04_5, hka04_5, hka04_5, hka04_5, hka04_5, hka04_5, hka04_5, hka04_5, hka04_5, hka04_5, hka04_5, hka04_5, hka04_5, hka04_5, hka04_5, hka04_5, hka04_5, hka04_5, hka04_5, hka04_5, hka04_5, hka04_5, hka04_5, hka04_5, hka04_5, hka04_5, hka04_5, hka04_5, hka04_5, hka04_5, hka04_5, hka04_5, hka04_5, hka04_5, hka04_5, hka04_5, hka04_5, hka04_141, hka04_142, hka04_105, hka04_192, hka04_5, hka04_116, hka04_108, hka04_5, hka04_5, hka04_5, hka04_5, hka04_5, hka04_5, hka04_5, hka04_5, hka04_5, hka04_5]
def kan_340 : List ai_Nd := [(2, (hka04_126, [hka04_0, hka04_128], [], hka04_117), [.inl 1], [.inl 99997, .inl 11, .inr (true, .ofNat 96, 42), .inl 100000]), (2, (hka04_130, [hka04_0, hka04_132], [], hka04_135), [.inl 1], [.inl 99997, .inl 10, .inr (true, .ofNat 96, 42), .inl 100000]), (2, (hka04_137, [hka04_0, hka04_139], [], hka04_135), [.inl 1], [.inl 99997, .inl 9, .inr (true, .ofNat 96, 42), .inl 100000]), (44, (hka04_126, [hka04_0, hka04_128], [], hka04_143), [.inl 1], [.inl 99955, .inl 2, .inr (true, .ofNat 4, 42), .inl 100000]), (2, (hka04_145, [hka04_0, hka04_147], [], hka04_148), [.inl 1], [.inl 99997, .inl 2, .inr (true, .ofNat 96, 42), .inl 100000]), (2, (hka04_150, [hka04_0, hka04_152], [], hka04_148), [.inl 1], [.inl 99997, .inl 1, .inr (true, .ofNat 96, 42), .inl 100000]), (2, (hka04_154, [hka04_0, hka04_156], [], hka04_159), [.inl 1], [.inl 99997, .inl 4, .inr (true, .ofNat 96, 42), .inl 100000]), (2, (hka04_161, [hka04_0, hka04_163], [], hka04_159), [.inl 1], [.inl 99997, .inl 3, .inr (true, .ofNat 96, 42), .inl 100000]), (2, (hka04_165, [hka04_0, hka04_167], [], hka04_170), [.inl 1], [.inl 99997, .inl 5, .inr (true, .ofNat 96, 42), .inl 100000]), (2, (hka04_172, [hka04_0, hka04_174], [], hka04_177), [.inl 1], [.inl 99997, .inl 6, .inr (true, .ofNat 96, 42), .inl 100000]), (2, (hka04_179, [hka04_0, hka04_181], [], hka04_184), [.inl 1], [.inl 99997, .inl 7, .inr (true, .ofNat 96, 42), .inl 100000]), (2, (hka04_186, [hka04_0, hka04_188], [], hka04_135), [.inl 1], [.inl 99997, .inl 8, .inr (true, .ofNat 96, 42), .inl 100000]), (44, (hka04_189, [hka04_0, hka04_191], [], hka04_193), [.inl 1], [.inl 99955, .inl 1, .inr (true, .ofNat 4, 42), .inl 100000])]
set_option maxRecDepth 1000000 in
theorem kak_340 : ai_ck [] [(2, .inl 1, [.ofNat 1, .ofNat 61, .ofNat 78, .ofNat 79, .ofNat 80, .ofNat 81, .ofNat 82, .ofNat 87, .ofNat 88, .ofNat 96])] ka_340 [.inl 100000, .inl 0, .inl 0, .inl 0] kan_340 18 = true := by decide +kernel
theorem kah_340 : ai_holds ka_340 := ai_thm kak_340 ai_nil
def hka04_194 : ai_E := [hka04_7, hka04_8, hka04_9, hka04_10, hka04_11, hka04_12, hka04_10, hka04_13, hka04_14, hka04_14, hka04_14, hka04_15, hka04_12, hka04_16, hka04_14, hka04_17, hka04_12, hka04_11]
def hka04_195 : ai_W := [hka04_5, hka04_5, hka04_5, hka04_5, hka04_5, hka04_5, hka04_5, hka04_5, hka04_5, hka04_5, hka04_5, hka04_5, hka04_5, hka04_5, hka04_5, hka04_5, hka04_5, hka04_5, hka04_5, hka04_5, hka04_5, hka04_5, hka04_5, hka04_5, hka04_5, hka04_5, hka04_5, hka04_5, hka04_5, hka04_5, hka04_5, hka04_5, hka04_5, hka04_5, hka04_5, hka04_5, hka04_5, hka04_5, hka04_5, hka04_5, hka04_5, hka04_5, hka04_5, hka04_5, hka04_5, hka04_5, hka04_5, hka04_5, hka04_5, hka04_5, hka04_5, hka04_5, hka04_5, hka04_5, hka04_5, hka04_5, hka04_5, hka04_5, hka04_5, hka04_78, hka04_5, hka04_5, hka04_5, hka04_5, hka04_5, hka04_5, hka04_5, hka04_5, hka04_5, hka04_5, hka04_5, hka04_5, hka04_5, hka04_5, hka04_5, hka04_5]
def hka04_196 : ai_E := [hka04_7, hka04_8, hka04_9, hka04_10, hka04_11, hka04_12, hka04_10, hka04_13, hka04_14, hka04_14, hka04_14, hka04_15, hka04_12, hka04_125, hka04_14, hka04_17, hka04_12, hka04_11]
def hka04_197 : ai_C := .inr (.inr (8, [hka04_25, hka04_26, hka04_28, hka04_30, hka04_31, hka04_32, hka04_34, hka04_35, hka04_37, hka04_39, hka04_40, hka04_42, hka04_44, hka04_46, hka04_47, hka04_49, hka04_51, hka04_53, hka04_55, hka04_57, hka04_4, hka04_53, hka04_62, hka04_64, hka04_65, hka04_66, hka04_68, hka04_69, hka04_70, hka04_71, hka04_72, hka04_73, hka04_74, hka04_76]))
def hka04_198 : Int × Int := (.ofNat 1, .ofNat 6)
def hka04_199 : ai_E := [hka04_7, hka04_8, hka04_9, hka04_10, hka04_11, hka04_12, hka04_10, hka04_13, hka04_14, hka04_14, hka04_14, hka04_15, hka04_12, hka04_198, hka04_14, hka04_17, hka04_12, hka04_11]
/-- NeverAgainModel.needs -/
def ka_341 : ai_K := (98, 0, (hka04_194, [hka04_0, hka04_119, hka04_4], [], hka04_195), [.inr (59, 2), .inr (59, 3), .inr (59, 6), .inr (59, 8), .inr (59, 9), .inr (59, 11), .inr (59, 12), .inr (59, 13), .inr (59, 15), .inr (59, 16), .inr (59, 17), .inr (59, 18), .inr (59, 19), .inr (59, 20), .inr (59, 21), .inr (59, 23), .inr (59, 26), .inr (59, 33)], [(none, hka04_196, [(59, hka04_197)]), (none, hka04_199, [])])
def kan_341 : List ai_Nd := []
set_option maxRecDepth 1000000 in
theorem kak_341 : ai_ck [] [] ka_341 [.inl 100000] kan_341 14 = true := by decide +kernel
theorem kah_341 : ai_holds ka_341 := ai_thm kak_341 ai_nil
def hka04_200 : ai_N := (.ofNat 0, .ofNat 255, [])
def hka04_201 : ai_C := .inl (.int, [(400, hka04_200)])
def hka04_202 : Bool × Option ai_C := (false, some hka04_201)
def hka04_203 : ai_W := [hka04_5, hka04_5, hka04_5, hka04_5, hka04_5, hka04_5, hka04_5, hka04_5, hka04_5, hka04_5, hka04_5, hka04_5, hka04_5, hka04_5, hka04_5, hka04_5, hka04_5, hka04_5, hka04_5, hka04_5, hka04_5, hka04_5, hka04_5, hka04_5, hka04_5, hka04_5, hka04_5, hka04_5, hka04_5, hka04_5, hka04_5, hka04_5, hka04_5, hka04_5, hka04_5, hka04_5, hka04_5, hka04_5, hka04_5, hka04_5, hka04_5, hka04_5, hka04_5, hka04_5, hka04_5, hka04_5, hka04_5, hka04_5, hka04_5, hka04_5, hka04_5, hka04_5, hka04_5, hka04_5, hka04_5, hka04_5, hka04_5, hka04_5, hka04_5, hka04_78, hka04_102, hka04_105, hka04_108, hka04_5, hka04_116, hka04_108, hka04_202, hka04_5, hka04_5, hka04_5, hka04_5, hka04_5, hka04_5, hka04_5, hka04_5, hka04_5]
def hka04_204 : ai_N := (.negSucc 409, .negSucc 9, [])
def hka04_205 : ai_V := .inl (false, hka04_204)
def hka04_206 : Int × Int := (.ofNat 1, .ofNat 400)
def hka04_207 : ai_E := [hka04_7, hka04_8, hka04_9, hka04_10, hka04_11, hka04_12, hka04_10, hka04_13, hka04_206, hka04_14, hka04_14, hka04_15, hka04_12, hka04_16, hka04_14, hka04_17, hka04_12, hka04_11, hka04_18, hka04_19, hka04_20, hka04_21, hka04_22, hka04_11, hka04_18, hka04_19, hka04_20, hka04_21, hka04_22, hka04_11, hka04_18, hka04_19, hka04_20, hka04_21, hka04_22, hka04_11, hka04_18, hka04_19, hka04_20, hka04_21, hka04_22, hka04_11]
def hka04_208 : ai_V := .inl (false, hka04_80)
def hka04_209 : ai_V := .inl (false, hka04_88)
def hka04_210 : ai_N := (.negSucc 2147483647, .ofNat 2147483647, [])
def hka04_211 : ai_V := .inl (false, hka04_210)
def hka04_212 : ai_V := .inl (false, hka04_81)
def hka04_213 : ai_N := (.ofNat 0, .ofNat 400, [])
def hka04_214 : ai_V := .inl (false, hka04_213)
def hka04_215 : ai_N := (.ofNat 2, .ofNat 2, [])
def hka04_216 : ai_V := .inl (false, hka04_215)
def hka04_217 : ai_N := (.ofNat 1, .ofNat 6, [])
def hka04_218 : ai_V := .inl (false, hka04_217)
def hka04_219 : ai_C := .inr (.inr (8, [hka04_25, hka04_26, hka04_28, hka04_30, hka04_31, hka04_32, hka04_34, hka04_35, hka04_208, hka04_209, hka04_40, hka04_211, hka04_208, hka04_212, hka04_47, hka04_119, hka04_214, hka04_214, hka04_216, hka04_211, hka04_218, hka04_214, hka04_62, hka04_64, hka04_65, hka04_66, hka04_68, hka04_69, hka04_70, hka04_71, hka04_72, hka04_73, hka04_74, hka04_76]))
def hka04_220 : ai_N := (.ofNat 0, .ofNat 60, [])
def hka04_221 : ai_C := .inl (.int, [(1, hka04_220), (60, hka04_80), (17, hka04_81), (1, hka04_121), (1, hka04_103), (1, hka04_122), (1, hka04_123), (5, hka04_86), (1, hka04_88), (8, hka04_88)])
def hka04_222 : ai_N := (.ofNat 1, .ofNat 400, [])
def hka04_223 : ai_V := .inl (false, hka04_222)
def hka04_224 : ai_N := (.ofNat 3, .ofNat 3, [])
def hka04_225 : ai_V := .inl (false, hka04_224)
def hka04_226 : ai_C := .inr (.inr (8, [hka04_25, hka04_26, hka04_28, hka04_30, hka04_31, hka04_32, hka04_34, hka04_35, hka04_208, hka04_209, hka04_40, hka04_211, hka04_208, hka04_212, hka04_47, hka04_119, hka04_223, hka04_214, hka04_225, hka04_211, hka04_218, hka04_214, hka04_62, hka04_64, hka04_65, hka04_66, hka04_68, hka04_69, hka04_70, hka04_71, hka04_72, hka04_73, hka04_74, hka04_76]))
def hka04_227 : ai_N := (.ofNat 4, .ofNat 16, [])
def hka04_228 : ai_V := .inl (false, hka04_227)
def hka04_229 : ai_N := (.ofNat 1, .ofNat 4, [])
def hka04_230 : ai_V := .inl (false, hka04_229)
def hka04_231 : ai_C := .inr (.inr (8, [hka04_25, hka04_26, hka04_228, hka04_230, hka04_31, hka04_32, hka04_119, hka04_35, hka04_228, hka04_230, hka04_40, hka04_211, hka04_208, hka04_212, hka04_47, hka04_119, hka04_214, hka04_214, hka04_119, hka04_211, hka04_119, hka04_61, hka04_62, hka04_64, hka04_65, hka04_66, hka04_68, hka04_69, hka04_70, hka04_71, hka04_72, hka04_73, hka04_74, hka04_76]))
def hka04_232 : ai_C := .inl (.int, [(1, hka04_220), (60, hka04_80), (17, hka04_81), (1, hka04_121), (1, hka04_103), (1, hka04_122), (1, hka04_123), (5, hka04_86), (1, hka04_88), (8, hka04_88), (1, hka04_89), (60, hka04_80), (17, hka04_81), (1, hka04_90), (1, hka04_91), (1, hka04_92), (1, hka04_93), (5, hka04_86), (1, hka04_94), (8, hka04_88), (1, hka04_95), (60, hka04_80), (17, hka04_81), (1, hka04_96), (1, hka04_97), (1, hka04_98), (1, hka04_99), (5, hka04_86), (1, hka04_100), (8, hka04_88)])
def hka04_233 : ai_C := .inr (.inr (8, [hka04_25, hka04_26, hka04_28, hka04_30, hka04_31, hka04_32, hka04_34, hka04_35, hka04_208, hka04_209, hka04_40, hka04_211, hka04_208, hka04_212, hka04_47, hka04_119, hka04_214, hka04_214, hka04_119, hka04_211, hka04_218, hka04_214, hka04_62, hka04_64, hka04_65, hka04_66, hka04_68, hka04_69, hka04_70, hka04_71, hka04_72, hka04_73, hka04_74, hka04_76]))
def hka04_234 : ai_C := .inr (.inr (8, [hka04_25, hka04_26, hka04_28, hka04_30, hka04_31, hka04_32, hka04_34, hka04_35, hka04_208, hka04_209, hka04_40, hka04_211, hka04_208, hka04_212, hka04_47, hka04_119, hka04_214, hka04_214, hka04_2, hka04_211, hka04_218, hka04_214, hka04_62, hka04_64, hka04_65, hka04_66, hka04_68, hka04_69, hka04_70, hka04_71, hka04_72, hka04_73, hka04_74, hka04_76]))
/-- NeverAgainModel.text -/
def ka_342 : ai_K := (8, 7, (hka04_23, [hka04_0, hka04_24], [], hka04_203), [.inr (59, 2), .inr (59, 3), .inr (59, 6), .inr (59, 8), .inr (59, 9), .inr (59, 11), .inr (59, 12), .inr (59, 13), .inr (59, 15), .inr (59, 16), .inr (59, 17), .inr (59, 18), .inr (59, 19), .inr (59, 20), .inr (59, 21), .inr (59, 23), .inr (59, 26), .inr (59, 33), .inr (60, 0), .inr (60, 78), .inr (60, 79), .inr (60, 80), .inr (60, 81), .inr (60, 87), .inr (60, 96), .inr (60, 174), .inr (60, 175), .inr (60, 176), .inr (60, 177), .inr (60, 183), .inr (60, 192), .inr (60, 270), .inr (60, 271), .inr (60, 272), .inr (60, 273), .inr (60, 279), .inr (64, 0), .inr (64, 78), .inr (64, 79), .inr (64, 80), .inr (64, 81), .inr (64, 87)], [(some hka04_205, hka04_207, [(59, hka04_219), (64, hka04_221), (65, hka04_107)]), (some hka04_205, hka04_207, [(59, hka04_226), (64, hka04_221), (65, hka04_107)]), (some hka04_211, hka04_23, [(59, hka04_231), (60, hka04_232), (61, hka04_104), (62, hka04_107), (64, hka04_221), (65, hka04_107)]), (some hka04_205, hka04_23, [(59, hka04_233), (64, hka04_221), (65, hka04_107)]), (some hka04_205, hka04_207, [(59, hka04_234), (64, hka04_221), (65, hka04_107)])])
def hka04_235 : ai_E := [hka04_7, hka04_8, hka04_9, hka04_10, hka04_11, hka04_12, hka04_10, hka04_13, hka04_206, hka04_14, hka04_14, hka04_15, hka04_12, hka04_16, hka04_14, hka04_17, hka04_12, hka04_11, hka04_18, hka04_19, hka04_20, hka04_21, hka04_22, hka04_11, hka04_18, hka04_19, hka04_20, hka04_21, hka04_22, hka04_11, hka04_18, hka04_19, hka04_20, hka04_21, hka04_22, hka04_11, hka04_18, hka04_19, hka04_20, hka04_21, hka04_22, hka04_11, hka04_12, hka04_14]
def hka04_236 : ai_N := (.negSucc 2147483647, .ofNat 2147483647, [(42, .ofNat 0, .ofNat 0)])
def hka04_237 : ai_V := .inl (false, hka04_236)
def hka04_238 : ai_N := (.ofNat 1, .ofNat 400, [(8, .ofNat 0, .ofNat 0)])
def hka04_239 : ai_V := .inl (false, hka04_238)
def hka04_240 : ai_N := (.ofNat 0, .ofNat 400, [(43, .ofNat 0, .ofNat 0)])
def hka04_241 : ai_V := .inl (false, hka04_240)
def hka04_242 : ai_N := (.ofNat 0, .ofNat 399, [])
def hka04_243 : ai_V := .inl (false, hka04_242)
def hka04_244 : ai_C := .inr (.inr (8, [hka04_25, hka04_26, hka04_28, hka04_30, hka04_31, hka04_32, hka04_34, hka04_35, hka04_228, hka04_230, hka04_40, hka04_211, hka04_208, hka04_212, hka04_47, hka04_239, hka04_241, hka04_243, hka04_2, hka04_211, hka04_119, hka04_61, hka04_62, hka04_64, hka04_65, hka04_66, hka04_68, hka04_69, hka04_70, hka04_71, hka04_72, hka04_73, hka04_74, hka04_76]))
def hka04_245 : Bool × Option ai_C := (true, some hka04_244)
def hka04_246 : Bool × Option ai_C := (true, some hka04_221)
def hka04_247 : ai_W := [hka04_5, hka04_5, hka04_5, hka04_5, hka04_5, hka04_5, hka04_5, hka04_5, hka04_5, hka04_5, hka04_5, hka04_5, hka04_5, hka04_5, hka04_5, hka04_5, hka04_5, hka04_5, hka04_5, hka04_5, hka04_5, hka04_5, hka04_5, hka04_5, hka04_5, hka04_5, hka04_5, hka04_5, hka04_5, hka04_5, hka04_5, hka04_5, hka04_5, hka04_5, hka04_5, hka04_5, hka04_5, hka04_5, hka04_5, hka04_5, hka04_5, hka04_5, hka04_5, hka04_5, hka04_5, hka04_5, hka04_5, hka04_5, hka04_5, hka04_5, hka04_5, hka04_5, hka04_5, hka04_5, hka04_5, hka04_5, hka04_5, hka04_5, hka04_5, hka04_245, hka04_102, hka04_105, hka04_108, hka04_5, hka04_246, hka04_192, hka04_202, hka04_5, hka04_5, hka04_5, hka04_5, hka04_5, hka04_5, hka04_5, hka04_5, hka04_5]
def hka04_248 : ai_C := .inr (.inr (8, [hka04_25, hka04_26, hka04_28, hka04_30, hka04_31, hka04_32, hka04_34, hka04_35, hka04_208, hka04_209, hka04_40, hka04_211, hka04_208, hka04_212, hka04_47, hka04_239, hka04_241, hka04_214, hka04_216, hka04_211, hka04_218, hka04_214, hka04_62, hka04_64, hka04_65, hka04_66, hka04_68, hka04_69, hka04_70, hka04_71, hka04_72, hka04_73, hka04_74, hka04_76]))
def hka04_249 : Bool × Option ai_C := (true, some hka04_248)
def hka04_250 : ai_W := [hka04_5, hka04_5, hka04_5, hka04_5, hka04_5, hka04_5, hka04_5, hka04_5, hka04_5, hka04_5, hka04_5, hka04_5, hka04_5, hka04_5, hka04_5, hka04_5, hka04_5, hka04_5, hka04_5, hka04_5, hka04_5, hka04_5, hka04_5, hka04_5, hka04_5, hka04_5, hka04_5, hka04_5, hka04_5, hka04_5, hka04_5, hka04_5, hka04_5, hka04_5, hka04_5, hka04_5, hka04_5, hka04_5, hka04_5, hka04_5, hka04_5, hka04_5, hka04_5, hka04_5, hka04_5, hka04_5, hka04_5, hka04_5, hka04_5, hka04_5, hka04_5, hka04_5, hka04_5, hka04_5, hka04_5, hka04_5, hka04_5, hka04_5, hka04_5, hka04_249, hka04_102, hka04_105, hka04_108, hka04_5, hka04_246, hka04_192, hka04_202, hka04_5, hka04_5, hka04_5, hka04_5, hka04_5, hka04_5, hka04_5, hka04_5, hka04_5]
def hka04_251 : ai_C := .inr (.inr (8, [hka04_25, hka04_26, hka04_28, hka04_30, hka04_31, hka04_32, hka04_34, hka04_35, hka04_228, hka04_230, hka04_40, hka04_211, hka04_208, hka04_212, hka04_47, hka04_239, hka04_241, hka04_243, hka04_216, hka04_211, hka04_119, hka04_61, hka04_62, hka04_64, hka04_65, hka04_66, hka04_68, hka04_69, hka04_70, hka04_71, hka04_72, hka04_73, hka04_74, hka04_76]))
def hka04_252 : Bool × Option ai_C := (true, some hka04_251)
def hka04_253 : ai_W := [hka04_5, hka04_5, hka04_5, hka04_5, hka04_5, hka04_5, hka04_5, hka04_5, hka04_5, hka04_5, hka04_5, hka04_5, hka04_5, hka04_5, hka04_5, hka04_5, hka04_5, hka04_5, hka04_5, hka04_5, hka04_5, hka04_5, hka04_5, hka04_5, hka04_5, hka04_5, hka04_5, hka04_5, hka04_5, hka04_5, hka04_5, hka04_5, hka04_5, hka04_5, hka04_5, hka04_5, hka04_5, hka04_5, hka04_5, hka04_5, hka04_5, hka04_5, hka04_5, hka04_5, hka04_5, hka04_5, hka04_5, hka04_5, hka04_5, hka04_5, hka04_5, hka04_5, hka04_5, hka04_5, hka04_5, hka04_5, hka04_5, hka04_5, hka04_5, hka04_252, hka04_102, hka04_105, hka04_108, hka04_5, hka04_246, hka04_192, hka04_202, hka04_5, hka04_5, hka04_5, hka04_5, hka04_5, hka04_5, hka04_5, hka04_5, hka04_5]
def hka04_254 : ai_E := [hka04_7, hka04_8, hka04_9, hka04_10, hka04_11, hka04_12, hka04_10, hka04_13, hka04_206, hka04_14, hka04_14, hka04_15, hka04_12, hka04_16, hka04_14, hka04_17, hka04_12, hka04_11, hka04_18, hka04_19, hka04_20, hka04_21, hka04_22, hka04_11, hka04_18, hka04_19, hka04_20, hka04_21, hka04_22, hka04_11, hka04_18, hka04_19, hka04_20, hka04_21, hka04_22, hka04_11, hka04_18, hka04_19, hka04_20, hka04_21, hka04_22, hka04_11, hka04_12, hka04_206]
def hka04_255 : ai_N := (.ofNat 1, .ofNat 400, [(43, .ofNat 0, .ofNat 0)])
def hka04_256 : ai_V := .inl (false, hka04_255)
def hka04_257 : ai_C := .inr (.inr (8, [hka04_25, hka04_26, hka04_28, hka04_30, hka04_31, hka04_32, hka04_34, hka04_35, hka04_228, hka04_230, hka04_40, hka04_211, hka04_208, hka04_212, hka04_47, hka04_239, hka04_256, hka04_243, hka04_225, hka04_211, hka04_119, hka04_61, hka04_62, hka04_64, hka04_65, hka04_66, hka04_68, hka04_69, hka04_70, hka04_71, hka04_72, hka04_73, hka04_74, hka04_76]))
def hka04_258 : Bool × Option ai_C := (true, some hka04_257)
def hka04_259 : ai_W := [hka04_5, hka04_5, hka04_5, hka04_5, hka04_5, hka04_5, hka04_5, hka04_5, hka04_5, hka04_5, hka04_5, hka04_5, hka04_5, hka04_5, hka04_5, hka04_5, hka04_5, hka04_5, hka04_5, hka04_5, hka04_5, hka04_5, hka04_5, hka04_5, hka04_5, hka04_5, hka04_5, hka04_5, hka04_5, hka04_5, hka04_5, hka04_5, hka04_5, hka04_5, hka04_5, hka04_5, hka04_5, hka04_5, hka04_5, hka04_5, hka04_5, hka04_5, hka04_5, hka04_5, hka04_5, hka04_5, hka04_5, hka04_5, hka04_5, hka04_5, hka04_5, hka04_5, hka04_5, hka04_5, hka04_5, hka04_5, hka04_5, hka04_5, hka04_5, hka04_258, hka04_102, hka04_105, hka04_108, hka04_5, hka04_246, hka04_192, hka04_202, hka04_5, hka04_5, hka04_5, hka04_5, hka04_5, hka04_5, hka04_5, hka04_5, hka04_5]
def hka04_260 : ai_C := .inr (.inr (8, [hka04_25, hka04_26, hka04_28, hka04_30, hka04_31, hka04_32, hka04_34, hka04_35, hka04_208, hka04_209, hka04_40, hka04_211, hka04_208, hka04_212, hka04_47, hka04_239, hka04_256, hka04_214, hka04_225, hka04_211, hka04_218, hka04_214, hka04_62, hka04_64, hka04_65, hka04_66, hka04_68, hka04_69, hka04_70, hka04_71, hka04_72, hka04_73, hka04_74, hka04_76]))
def hka04_261 : Bool × Option ai_C := (true, some hka04_260)
def hka04_262 : ai_W := [hka04_5, hka04_5, hka04_5, hka04_5, hka04_5, hka04_5, hka04_5, hka04_5, hka04_5, hka04_5, hka04_5, hka04_5, hka04_5, hka04_5, hka04_5, hka04_5, hka04_5, hka04_5, hka04_5, hka04_5, hka04_5, hka04_5, hka04_5, hka04_5, hka04_5, hka04_5, hka04_5, hka04_5, hka04_5, hka04_5, hka04_5, hka04_5, hka04_5, hka04_5, hka04_5, hka04_5, hka04_5, hka04_5, hka04_5, hka04_5, hka04_5, hka04_5, hka04_5, hka04_5, hka04_5, hka04_5, hka04_5, hka04_5, hka04_5, hka04_5, hka04_5, hka04_5, hka04_5, hka04_5, hka04_5, hka04_5, hka04_5, hka04_5, hka04_5, hka04_261, hka04_102, hka04_105, hka04_108, hka04_5, hka04_246, hka04_192, hka04_202, hka04_5, hka04_5, hka04_5, hka04_5, hka04_5, hka04_5, hka04_5, hka04_5, hka04_5]
def hka04_263 : ai_E := [hka04_7, hka04_8, hka04_9, hka04_10, hka04_11, hka04_12, hka04_10, hka04_13, hka04_14, hka04_14, hka04_14, hka04_15, hka04_12, hka04_16, hka04_14, hka04_17, hka04_12, hka04_11, hka04_18, hka04_19, hka04_20, hka04_21, hka04_22, hka04_11, hka04_18, hka04_19, hka04_20, hka04_21, hka04_22, hka04_11, hka04_18, hka04_19, hka04_20, hka04_21, hka04_22, hka04_11, hka04_18, hka04_19, hka04_20, hka04_21, hka04_22, hka04_11, hka04_12, hka04_14]
def hka04_264 : ai_C := .inr (.inr (8, [hka04_25, hka04_26, hka04_28, hka04_30, hka04_31, hka04_32, hka04_34, hka04_35, hka04_228, hka04_230, hka04_40, hka04_211, hka04_208, hka04_212, hka04_47, hka04_49, hka04_241, hka04_214, hka04_119, hka04_211, hka04_119, hka04_61, hka04_62, hka04_64, hka04_65, hka04_66, hka04_68, hka04_69, hka04_70, hka04_71, hka04_72, hka04_73, hka04_74, hka04_76]))
def hka04_265 : Bool × Option ai_C := (true, some hka04_264)
def hka04_266 : ai_W := [hka04_5, hka04_5, hka04_5, hka04_5, hka04_5, hka04_5, hka04_5, hka04_5, hka04_5, hka04_5, hka04_5, hka04_5, hka04_5, hka04_5, hka04_5, hka04_5, hka04_5, hka04_5, hka04_5, hka04_5, hka04_5, hka04_5, hka04_5, hka04_5, hka04_5, hka04_5, hka04_5, hka04_5, hka04_5, hka04_5, hka04_5, hka04_5, hka04_5, hka04_5, hka04_5, hka04_5, hka04_5, hka04_5, hka04_5, hka04_5, hka04_5, hka04_5, hka04_5, hka04_5, hka04_5, hka04_5, hka04_5, hka04_5, hka04_5, hka04_5, hka04_5, hka04_5, hka04_5, hka04_5, hka04_5, hka04_5, hka04_5, hka04_5, hka04_5, hka04_265, hka04_102, hka04_105, hka04_108, hka04_5, hka04_246, hka04_192, hka04_202, hka04_5, hka04_5, hka04_5, hka04_5, hka04_5, hka04_5, hka04_5, hka04_5, hka04_5]
def hka04_267 : Int × Int := (.ofNat 3, .ofNat 400)
def hka04_268 : ai_E := [hka04_7, hka04_8, hka04_9, hka04_10, hka04_11, hka04_12, hka04_10, hka04_13, hka04_267, hka04_14, hka04_14, hka04_15, hka04_12, hka04_16, hka04_14, hka04_17, hka04_12, hka04_11, hka04_18, hka04_19, hka04_20, hka04_21, hka04_22, hka04_11, hka04_18, hka04_19, hka04_20, hka04_21, hka04_22, hka04_11, hka04_18, hka04_19, hka04_20, hka04_21, hka04_22, hka04_11, hka04_18, hka04_19, hka04_20, hka04_21, hka04_22, hka04_11, hka04_12, hka04_267]
def hka04_269 : ai_N := (.ofNat 3, .ofNat 400, [(8, .ofNat 0, .ofNat 0)])
def hka04_270 : ai_V := .inl (false, hka04_269)
def hka04_271 : ai_N := (.ofNat 3, .ofNat 400, [(43, .ofNat 0, .ofNat 0)])
def hka04_272 : ai_V := .inl (false, hka04_271)
def hka04_273 : ai_N := (.ofNat 3, .ofNat 400, [])
def hka04_274 : ai_V := .inl (false, hka04_273)
def hka04_275 : ai_C := .inr (.inr (8, [hka04_25, hka04_26, hka04_28, hka04_30, hka04_31, hka04_32, hka04_34, hka04_35, hka04_208, hka04_209, hka04_40, hka04_211, hka04_208, hka04_212, hka04_47, hka04_270, hka04_272, hka04_274, hka04_119, hka04_211, hka04_218, hka04_214, hka04_62, hka04_64, hka04_65, hka04_66, hka04_68, hka04_69, hka04_70, hka04_71, hka04_72, hka04_73, hka04_74, hka04_76]))
def hka04_276 : Bool × Option ai_C := (true, some hka04_275)
def hka04_277 : ai_W := [hka04_5, hka04_5, hka04_5, hka04_5, hka04_5, hka04_5, hka04_5, hka04_5, hka04_5, hka04_5, hka04_5, hka04_5, hka04_5, hka04_5, hka04_5, hka04_5, hka04_5, hka04_5, hka04_5, hka04_5, hka04_5, hka04_5, hka04_5, hka04_5, hka04_5, hka04_5, hka04_5, hka04_5, hka04_5, hka04_5, hka04_5, hka04_5, hka04_5, hka04_5, hka04_5, hka04_5, hka04_5, hka04_5, hka04_5, hka04_5, hka04_5, hka04_5, hka04_5, hka04_5, hka04_5, hka04_5, hka04_5, hka04_5, hka04_5, hka04_5, hka04_5, hka04_5, hka04_5, hka04_5, hka04_5, hka04_5, hka04_5, hka04_5, hka04_5, hka04_276, hka04_102, hka04_105, hka04_108, hka04_5, hka04_246, hka04_192, hka04_202, hka04_5, hka04_5, hka04_5, hka04_5, hka04_5, hka04_5, hka04_5, hka04_5, hka04_5]
def hka04_278 : ai_C := .inr (.inr (8, [hka04_25, hka04_26, hka04_28, hka04_30, hka04_31, hka04_32, hka04_34, hka04_35, hka04_208, hka04_209, hka04_40, hka04_211, hka04_208, hka04_212, hka04_47, hka04_239, hka04_241, hka04_214, hka04_2, hka04_211, hka04_218, hka04_214, hka04_62, hka04_64, hka04_65, hka04_66, hka04_68, hka04_69, hka04_70, hka04_71, hka04_72, hka04_73, hka04_74, hka04_76]))
def hka04_279 : Bool × Option ai_C := (true, some hka04_278)
def hka04_280 : ai_W := [hka04_5, hka04_5, hka04_5, hka04_5, hka04_5, hka04_5, hka04_5, hka04_5, hka04_5, hka04_5, hka04_5, hka04_5, hka04_5, hka04_5, hka04_5, hka04_5, hka04_5, hka04_5, hka04_5, hka04_5, hka04_5, hka04_5, hka04_5, hka04_5, hka04_5, hka04_5, hka04_5, hka04_5, hka04_5, hka04_5, hka04_5, hka04_5, hka04_5, hka04_5, hka04_5, hka04_5, hka04_5, hka04_5, hka04_5, hka04_5, hka04_5, hka04_5, hka04_5, hka04_5, hka04_5, hka04_5, hka04_5, hka04_5, hka04_5, hka04_5, hka04_5, hka04_5, hka04_5, hka04_5, hka04_5, hka04_5, hka04_5, hka04_5, hka04_5, hka04_279, hka04_102, hka04_105, hka04_108, hka04_5, hka04_246, hka04_192, hka04_202, hka04_5, hka04_5, hka04_5, hka04_5, hka04_5, hka04_5, hka04_5, hka04_5, hka04_5]
def kan_342 : List ai_Nd := [(20, (hka04_235, [hka04_0, hka04_237], [], hka04_247), [.inl 1, .inr (59, 16)], [.inl 99979, .inl 3, .inr (true, .ofNat 400, 43), .inl 100000]), (20, (hka04_235, [hka04_0, hka04_237], [], hka04_250), [.inl 1, .inr (59, 16)], [.inl 99979, .inl 1, .inr (true, .ofNat 400, 43), .inl 100000]), (20, (hka04_235, [hka04_0, hka04_237], [], hka04_253), [.inl 1, .inr (59, 16)], [.inl 99979, .inl 2, .inr (true, .ofNat 400, 43), .inl 100000]), (20, (hka04_254, [hka04_0, hka04_237], [], hka04_259), [.inl 1, .inr (59, 16)], [.inl 99979, .inl 2, .inr (true, .ofNat 400, 43), .inl 100000]), (20, (hka04_254, [hka04_0, hka04_237], [], hka04_262), [.inl 1, .inr (59, 16)], [.inl 99979, .inl 1, .inr (true, .ofNat 400, 43), .inl 100000]), (20, (hka04_263, [hka04_0, hka04_237], [], hka04_266), [.inl 1, .inr (59, 16)], [.inl 99979, .inl 1, .inr (true, .ofNat 400, 43), .inl 100000]), (20, (hka04_268, [hka04_0, hka04_237], [], hka04_277), [.inl 1, .inr (59, 16)], [.inl 99979, .inl 1, .inr (true, .ofNat 400, 43), .inl 100000]), (20, (hka04_235, [hka04_0, hka04_237], [], hka04_280), [.inl 1, .inr (59, 16)], [.inl 99979, .inl 1, .inr (true, .ofNat 400, 43), .inl 100000])]
set_option maxRecDepth 1000000 in
theorem kak_342 : ai_ck [ka_339, ka_341, ka_262, ka_251, ka_338, ka_340] [] ka_342 [.inl 100000, .inl 0, .inl 0, .inl 0] kan_342 35 = true := by decide +kernel
theorem kah_342 : ai_holds ka_342 := ai_thm kak_342 (ai_cons kah_339 (ai_cons kah_341 (ai_cons kah_262 (ai_cons kah_251 (ai_cons kah_338 (ai_cons kah_340 ai_nil))))))
def hka04_281 : ai_E := [hka04_9, hka04_16, hka04_11]
def hka04_282 : ai_V := .inr (some (.ref 0))
def hka04_283 : ai_V := .inr (some (.ref 15))
def hka04_284 : ai_V := .inr (some (.ref 17))
def hka04_285 : ai_V := .inr (some (.ref 21))
def hka04_286 : ai_V := .inr (some (.ref 26))
def hka04_287 : ai_V := .inr (some (.ref 32))
def hka04_288 : ai_V := .inr (some (.ref 35))
def hka04_289 : ai_V := .inr (some (.ref 34))
def hka04_290 : ai_V := .inr (some (.ref 50))
def hka04_291 : ai_V := .inr (some (.ref 33))
def hka04_292 : ai_V := .inr (some (.ref 1))
def hka04_293 : ai_V := .inr (some (.ref 8))
def hka04_294 : ai_N := (.ofNat 0, .ofNat 12, [(0, .ofNat 0, .ofNat 0)])
def hka04_295 : ai_V := .inl (false, hka04_294)
def hka04_296 : ai_N := (.ofNat 0, .ofNat 6, [(1, .ofNat 0, .ofNat 0)])
def hka04_297 : ai_V := .inl (false, hka04_296)
def hka04_298 : ai_N := (.ofNat 0, .ofNat 4, [(2, .ofNat 0, .ofNat 0)])
def hka04_299 : ai_V := .inl (false, hka04_298)
def hka04_300 : ai_C := .inr (.inr (7, [hka04_283, hka04_284, hka04_285, hka04_286, hka04_287, hka04_288, hka04_289, hka04_290, hka04_291, hka04_292, hka04_293, hka04_295, hka04_297, hka04_299]))
def hka04_301 : Bool × Option ai_C := (false, some hka04_300)
def hka04_302 : ai_W := [hka04_301, hka04_5, hka04_5, hka04_5, hka04_5, hka04_5, hka04_5, hka04_5, hka04_5, hka04_5, hka04_5, hka04_5, hka04_5, hka04_5, hka04_5, hka04_5, hka04_5, hka04_5, hka04_5, hka04_5, hka04_5, hka04_5, hka04_5, hka04_5, hka04_5, hka04_5, hka04_5, hka04_5, hka04_5, hka04_5, hka04_5, hka04_5, hka04_5, hka04_5, hka04_5, hka04_5, hka04_5, hka04_5, hka04_5, hka04_5, hka04_5, hka04_5, hka04_5, hka04_5, hka04_5, hka04_5, hka04_5, hka04_5, hka04_5, hka04_5, hka04_5, hka04_5, hka04_5, hka04_5, hka04_5, hka04_5, hka04_5, hka04_5, hka04_5, hka04_5, hka04_5, hka04_5, hka04_5, hka04_5, hka04_5, hka04_5, hka04_5, hka04_5, hka04_5, hka04_5, hka04_5, hka04_5, hka04_5, hka04_5, hka04_5, hka04_5]
/-- NeverAgain.fault -/
def ka_343 : ai_K := (9, 0, (hka04_281, [hka04_282], [], hka04_302), [.inr (0, 11), .inr (0, 12), .inr (0, 13)], [(some hka04_297, hka04_281, [])])
def kan_343 : List ai_Nd := []
set_option maxRecDepth 1000000 in
theorem kak_343 : ai_ck [] [] ka_343 [.inl 100000] kan_343 4 = true := by decide +kernel
theorem kah_343 : ai_holds ka_343 := ai_thm kak_343 ai_nil
/-- NeverAgainModel.fault -/
def ka_344 : ai_K := (10, 0, (hka04_194, [hka04_0], [], hka04_195), [.inr (59, 2), .inr (59, 3), .inr (59, 6), .inr (59, 8), .inr (59, 9), .inr (59, 11), .inr (59, 12), .inr (59, 13), .inr (59, 15), .inr (59, 16), .inr (59, 17), .inr (59, 18), .inr (59, 19), .inr (59, 20), .inr (59, 21), .inr (59, 23), .inr (59, 26), .inr (59, 33)], [(some hka04_59, hka04_194, [])])
def kan_344 : List ai_Nd := []
set_option maxRecDepth 1000000 in
theorem kak_344 : ai_ck [] [] ka_344 [.inl 100000] kan_344 4 = true := by decide +kernel
theorem kah_344 : ai_holds ka_344 := ai_thm kak_344 ai_nil
def hka04_303 : ai_E := [hka04_12, hka04_9, hka04_16, hka04_11, hka04_7, hka04_8, hka04_12, hka04_12, hka04_12, hka04_18, hka04_22, hka04_11]
def hka04_304 : ai_N := (.negSucc 2147483647, .ofNat 2147483647, [(0, .ofNat 0, .ofNat 0)])
def hka04_305 : ai_V := .inl (false, hka04_304)
def hka04_306 : ai_N := (.ofNat 0, .ofNat 12, [(1, .ofNat 0, .ofNat 0)])
def hka04_307 : ai_V := .inl (false, hka04_306)
def hka04_308 : ai_N := (.ofNat 0, .ofNat 6, [(2, .ofNat 0, .ofNat 0)])
def hka04_309 : ai_V := .inl (false, hka04_308)
def hka04_310 : ai_N := (.ofNat 0, .ofNat 4, [(3, .ofNat 0, .ofNat 0)])
def hka04_311 : ai_V := .inl (false, hka04_310)
def hka04_312 : ai_C := .inr (.inr (7, [hka04_283, hka04_284, hka04_285, hka04_286, hka04_287, hka04_288, hka04_289, hka04_290, hka04_291, hka04_292, hka04_293, hka04_307, hka04_309, hka04_311]))
def hka04_313 : Bool × Option ai_C := (false, some hka04_312)
def hka04_314 : ai_V := .inr (some (.ref 2))
def hka04_315 : ai_V := .inr (some (.ref 3))
def hka04_316 : ai_V := .inr (some (.ref 4))
def hka04_317 : ai_V := .inr (some (.ref 5))
def hka04_318 : ai_V := .inr (some (.ref 6))
def hka04_319 : ai_V := .inr (some (.ref 7))
def hka04_320 : ai_N := (.ofNat 4, .ofNat 16, [(4, .ofNat 0, .ofNat 0)])
def hka04_321 : ai_V := .inl (false, hka04_320)
def hka04_322 : ai_N := (.ofNat 1, .ofNat 4, [(5, .ofNat 0, .ofNat 0)])
def hka04_323 : ai_V := .inl (false, hka04_322)
def hka04_324 : ai_N := (.negSucc 2147483647, .ofNat 2147483647, [(6, .ofNat 0, .ofNat 0)])
def hka04_325 : ai_V := .inl (false, hka04_324)
def hka04_326 : ai_N := (.negSucc 2147483647, .ofNat 2147483647, [(7, .ofNat 0, .ofNat 0)])
def hka04_327 : ai_V := .inl (false, hka04_326)
def hka04_328 : ai_N := (.negSucc 2147483647, .ofNat 2147483647, [(8, .ofNat 0, .ofNat 0)])
def hka04_329 : ai_V := .inl (false, hka04_328)
def hka04_330 : ai_N := (.ofNat 0, .ofNat 60, [(9, .ofNat 0, .ofNat 0)])
def hka04_331 : ai_V := .inl (false, hka04_330)
def hka04_332 : ai_N := (.ofNat 0, .ofNat 5, [(10, .ofNat 0, .ofNat 0)])
def hka04_333 : ai_V := .inl (false, hka04_332)
def hka04_334 : ai_N := (.ofNat 0, .ofNat 4, [(11, .ofNat 0, .ofNat 0)])
def hka04_335 : ai_V := .inl (false, hka04_334)
def hka04_336 : ai_C := .inr (.inr (6, [hka04_314, hka04_315, hka04_316, hka04_317, hka04_318, hka04_319, hka04_321, hka04_323, hka04_325, hka04_327, hka04_329, hka04_331, hka04_333, hka04_335]))
def hka04_337 : Bool × Option ai_C := (false, some hka04_336)
def hka04_338 : ai_W := [hka04_313, hka04_337, hka04_5, hka04_5, hka04_5, hka04_5, hka04_5, hka04_5, hka04_5, hka04_5, hka04_5, hka04_5, hka04_5, hka04_5, hka04_5, hka04_5, hka04_5, hka04_5, hka04_5, hka04_5, hka04_5, hka04_5, hka04_5, hka04_5, hka04_5, hka04_5, hka04_5, hka04_5, hka04_5, hka04_5, hka04_5, hka04_5, hka04_5, hka04_5, hka04_5, hka04_5, hka04_5, hka04_5, hka04_5, hka04_5, hka04_5, hka04_5, hka04_5, hka04_5, hka04_5, hka04_5, hka04_5, hka04_5, hka04_5, hka04_5, hka04_5, hka04_5, hka04_5, hka04_5, hka04_5, hka04_5, hka04_5, hka04_5, hka04_5, hka04_5, hka04_5, hka04_5, hka04_5, hka04_5, hka04_5, hka04_5, hka04_5, hka04_5, hka04_5, hka04_5, hka04_5, hka04_5, hka04_5, hka04_5, hka04_5, hka04_5]
def hka04_339 : ai_E := [hka04_22, hka04_9, hka04_16, hka04_11, hka04_7, hka04_8, hka04_12, hka04_12, hka04_12, hka04_18, hka04_22, hka04_11]
def hka04_340 : ai_N := (.negSucc 0, .negSucc 0, [])
def hka04_341 : ai_V := .inl (false, hka04_340)
/-- NeverAgain.rule -/
def ka_345 : ai_K := (11, 0, (hka04_303, [hka04_282, hka04_305], [], hka04_338), [.inl 1, .inr (0, 11), .inr (0, 12), .inr (0, 13), .inr (1, 6), .inr (1, 7), .inr (1, 8), .inr (1, 9), .inr (1, 10), .inr (1, 11), .inr (1, 12), .inr (1, 13)], [(some hka04_211, hka04_339, []), (some hka04_341, hka04_303, [])])
def kan_345 : List ai_Nd := []
set_option maxRecDepth 1000000 in
theorem kak_345 : ai_ck [] [] ka_345 [.inl 100000] kan_345 7 = true := by decide +kernel
theorem kah_345 : ai_holds ka_345 := ai_thm kak_345 ai_nil
def hka04_342 : ai_E := [hka04_12, hka04_7, hka04_8, hka04_9, hka04_10, hka04_11, hka04_12, hka04_10, hka04_13, hka04_14, hka04_14, hka04_14, hka04_15, hka04_12, hka04_16, hka04_14, hka04_17, hka04_12, hka04_11, hka04_18, hka04_19, hka04_20, hka04_21, hka04_22, hka04_11, hka04_18, hka04_19, hka04_20, hka04_21, hka04_22, hka04_11, hka04_18, hka04_19, hka04_20, hka04_21, hka04_22, hka04_11]
def hka04_343 : ai_N := (.ofNat 4, .ofNat 16, [(1, .ofNat 0, .ofNat 0)])
def hka04_344 : ai_V := .inl (false, hka04_343)
def hka04_345 : ai_N := (.ofNat 1, .ofNat 4, [(2, .ofNat 0, .ofNat 0)])
def hka04_346 : ai_V := .inl (false, hka04_345)
def hka04_347 : ai_N := (.ofNat 0, .ofNat 12, [(3, .ofNat 0, .ofNat 0)])
def hka04_348 : ai_V := .inl (false, hka04_347)
def hka04_349 : ai_N := (.ofNat 0, .ofNat 16, [(4, .ofNat 0, .ofNat 0)])
def hka04_350 : ai_V := .inl (false, hka04_349)
def hka04_351 : ai_N := (.ofNat 0, .ofNat 4, [(5, .ofNat 0, .ofNat 0)])
def hka04_352 : ai_V := .inl (false, hka04_351)
def hka04_353 : ai_N := (.ofNat 0, .ofNat 16, [(7, .ofNat 0, .ofNat 0)])
def hka04_354 : ai_V := .inl (false, hka04_353)
def hka04_355 : ai_N := (.negSucc 3, .ofNat 3, [(8, .ofNat 0, .ofNat 0)])
def hka04_356 : ai_V := .inl (false, hka04_355)
def hka04_357 : ai_N := (.ofNat 0, .ofNat 400, [(11, .ofNat 0, .ofNat 0)])
def hka04_358 : ai_V := .inl (false, hka04_357)
def hka04_359 : ai_N := (.ofNat 0, .ofNat 3, [(12, .ofNat 0, .ofNat 0)])
def hka04_360 : ai_V := .inl (false, hka04_359)
def hka04_361 : ai_N := (.negSucc 2147483647, .ofNat 2147483647, [(13, .ofNat 0, .ofNat 0)])
def hka04_362 : ai_V := .inl (false, hka04_361)
def hka04_363 : ai_N := (.ofNat 0, .ofNat 6, [(14, .ofNat 0, .ofNat 0)])
def hka04_364 : ai_V := .inl (false, hka04_363)
def hka04_365 : ai_N := (.ofNat 0, .ofNat 400, [(15, .ofNat 0, .ofNat 0)])
def hka04_366 : ai_V := .inl (false, hka04_365)
def hka04_367 : ai_N := (.ofNat 0, .ofNat 130, [(16, .ofNat 0, .ofNat 0)])
def hka04_368 : ai_V := .inl (false, hka04_367)
def hka04_369 : ai_N := (.negSucc 2147483647, .ofNat 2147483647, [(17, .ofNat 0, .ofNat 0)])
def hka04_370 : ai_V := .inl (false, hka04_369)
def hka04_371 : ai_N := (.ofNat 0, .ofNat 4, [(18, .ofNat 0, .ofNat 0)])
def hka04_372 : ai_V := .inl (false, hka04_371)
def hka04_373 : ai_C := .inr (.inr (8, [hka04_25, hka04_26, hka04_344, hka04_346, hka04_31, hka04_32, hka04_348, hka04_35, hka04_350, hka04_352, hka04_40, hka04_325, hka04_354, hka04_356, hka04_47, hka04_51, hka04_53, hka04_358, hka04_360, hka04_362, hka04_364, hka04_366, hka04_62, hka04_368, hka04_65, hka04_66, hka04_370, hka04_69, hka04_70, hka04_71, hka04_72, hka04_73, hka04_74, hka04_372]))
def hka04_374 : Bool × Option ai_C := (false, some hka04_373)
def hka04_375 : ai_N := (.ofNat 0, .ofNat 60, [(19, .ofNat 0, .ofNat 0)])
def hka04_376 : ai_N := (.ofNat 0, .ofNat 20, [(20, .ofNat 0, .ofNat 0)])
def hka04_377 : ai_N := (.ofNat 0, .ofNat 1, [(21, .ofNat 0, .ofNat 0)])
def hka04_378 : ai_N := (.negSucc 3, .ofNat 2, [(22, .ofNat 0, .ofNat 0)])
def hka04_379 : ai_N := (.ofNat 0, .ofNat 5, [(23, .ofNat 0, .ofNat 0)])
def hka04_380 : ai_N := (.ofNat 0, .ofNat 4, [(24, .ofNat 0, .ofNat 0)])
def hka04_381 : ai_N := (.ofNat 0, .ofNat 60, [(25, .ofNat 0, .ofNat 0)])
def hka04_382 : ai_N := (.ofNat 0, .ofNat 20, [(26, .ofNat 0, .ofNat 0)])
def hka04_383 : ai_N := (.ofNat 0, .ofNat 1, [(27, .ofNat 0, .ofNat 0)])
def hka04_384 : ai_N := (.negSucc 3, .ofNat 2, [(28, .ofNat 0, .ofNat 0)])
def hka04_385 : ai_N := (.ofNat 0, .ofNat 5, [(29, .ofNat 0, .ofNat 0)])
def hka04_386 : ai_N := (.ofNat 0, .ofNat 4, [(30, .ofNat 0, .ofNat 0)])
def hka04_387 : ai_N := (.ofNat 0, .ofNat 60, [(31, .ofNat 0, .ofNat 0)])
def hka04_388 : ai_N := (.ofNat 0, .ofNat 20, [(32, .ofNat 0, .ofNat 0)])
def hka04_389 : ai_N := (.ofNat 0, .ofNat 1, [(33, .ofNat 0, .ofNat 0)])
def hka04_390 : ai_N := (.negSucc 3, .ofNat 2, [(34, .ofNat 0, .ofNat 0)])
def hka04_391 : ai_N := (.ofNat 0, .ofNat 5, [(35, .ofNat 0, .ofNat 0)])
def hka04_392 : ai_N := (.ofNat 0, .ofNat 4, [(36, .ofNat 0, .ofNat 0)])
def hka04_393 : ai_C := .inl (.int, [(1, hka04_375), (60, hka04_80), (17, hka04_81), (1, hka04_376), (1, hka04_377), (1, hka04_378), (1, hka04_379), (5, hka04_86), (1, hka04_380), (8, hka04_88), (1, hka04_381), (60, hka04_80), (17, hka04_81), (1, hka04_382), (1, hka04_383), (1, hka04_384), (1, hka04_385), (5, hka04_86), (1, hka04_386), (8, hka04_88), (1, hka04_387), (60, hka04_80), (17, hka04_81), (1, hka04_388), (1, hka04_389), (1, hka04_390), (1, hka04_391), (5, hka04_86), (1, hka04_392), (8, hka04_88)])
def hka04_394 : Bool × Option ai_C := (false, some hka04_393)
def hka04_395 : ai_W := [hka04_5, hka04_5, hka04_5, hka04_5, hka04_5, hka04_5, hka04_5, hka04_5, hka04_5, hka04_5, hka04_5, hka04_5, hka04_5, hka04_5, hka04_5, hka04_5, hka04_5, hka04_5, hka04_5, hka04_5, hka04_5, hka04_5, hka04_5, hka04_5, hka04_5, hka04_5, hka04_5, hka04_5, hka04_5, hka04_5, hka04_5, hka04_5, hka04_5, hka04_5, hka04_5, hka04_5, hka04_5, hka04_5, hka04_5, hka04_5, hka04_5, hka04_5, hka04_5, hka04_5, hka04_5, hka04_5, hka04_5, hka04_5, hka04_5, hka04_5, hka04_5, hka04_5, hka04_5, hka04_5, hka04_5, hka04_5, hka04_5, hka04_5, hka04_5, hka04_374, hka04_394, hka04_5, hka04_5, hka04_5, hka04_5, hka04_5, hka04_5, hka04_5, hka04_5, hka04_5, hka04_5, hka04_5, hka04_5, hka04_5, hka04_5, hka04_5]
def hka04_396 : ai_N := (.negSucc 3, .ofNat 60, [])
def hka04_397 : ai_V := .inl (false, hka04_396)
def hka04_398 : ai_E := [hka04_22, hka04_7, hka04_8, hka04_9, hka04_10, hka04_11, hka04_12, hka04_10, hka04_13, hka04_14, hka04_14, hka04_14, hka04_15, hka04_12, hka04_16, hka04_14, hka04_17, hka04_12, hka04_11, hka04_18, hka04_19, hka04_20, hka04_21, hka04_22, hka04_11, hka04_18, hka04_19, hka04_20, hka04_21, hka04_22, hka04_11, hka04_18, hka04_19, hka04_20, hka04_21, hka04_22, hka04_11]
/-- NeverAgainModel.rule -/
def ka_346 : ai_K := (12, 0, (hka04_342, [hka04_0, hka04_305], [], hka04_395), [.inl 1, .inr (59, 2), .inr (59, 3), .inr (59, 6), .inr (59, 8), .inr (59, 9), .inr (59, 11), .inr (59, 12), .inr (59, 13), .inr (59, 15), .inr (59, 16), .inr (59, 17), .inr (59, 18), .inr (59, 19), .inr (59, 20), .inr (59, 21), .inr (59, 23), .inr (59, 26), .inr (59, 33), .inr (60, 0), .inr (60, 78), .inr (60, 79), .inr (60, 80), .inr (60, 81), .inr (60, 87), .inr (60, 96), .inr (60, 174), .inr (60, 175), .inr (60, 176), .inr (60, 177), .inr (60, 183), .inr (60, 192), .inr (60, 270), .inr (60, 271), .inr (60, 272), .inr (60, 273), .inr (60, 279)], [(some hka04_397, hka04_398, []), (some hka04_341, hka04_342, [])])
def kan_346 : List ai_Nd := []
set_option maxRecDepth 1000000 in
theorem kak_346 : ai_ck [] [] ka_346 [.inl 100000] kan_346 8 = true := by decide +kernel
theorem kah_346 : ai_holds ka_346 := ai_thm kak_346 ai_nil
def hka04_399 : ai_C := .inl (.int, [(60, hka04_210)])
def hka04_400 : Bool × Option ai_C := (false, some hka04_399)
def hka04_401 : ai_W := [hka04_313, hka04_337, hka04_5, hka04_5, hka04_400, hka04_5, hka04_5, hka04_5, hka04_5, hka04_5, hka04_5, hka04_5, hka04_5, hka04_5, hka04_5, hka04_5, hka04_5, hka04_5, hka04_5, hka04_5, hka04_5, hka04_5, hka04_5, hka04_5, hka04_5, hka04_5, hka04_5, hka04_5, hka04_5, hka04_5, hka04_5, hka04_5, hka04_5, hka04_5, hka04_5, hka04_5, hka04_5, hka04_5, hka04_5, hka04_5, hka04_5, hka04_5, hka04_5, hka04_5, hka04_5, hka04_5, hka04_5, hka04_5, hka04_5, hka04_5, hka04_5, hka04_5, hka04_5, hka04_5, hka04_5, hka04_5, hka04_5, hka04_5, hka04_5, hka04_5, hka04_5, hka04_5, hka04_5, hka04_5, hka04_5, hka04_5, hka04_5, hka04_5, hka04_5, hka04_5, hka04_5, hka04_5, hka04_5, hka04_5, hka04_5, hka04_5]
def hka04_402 : Int × Int := (.ofNat 0, .ofNat 59)
def hka04_403 : ai_E := [hka04_402, hka04_9, hka04_16, hka04_11, hka04_7, hka04_8, hka04_12, hka04_12, hka04_12, hka04_129, hka04_22, hka04_11]
def hka04_404 : Int × Int := (.ofNat 0, .ofNat 2147483647)
def hka04_405 : ai_E := [hka04_404, hka04_9, hka04_16, hka04_11, hka04_7, hka04_8, hka04_12, hka04_12, hka04_12, hka04_18, hka04_22, hka04_11]
def hka04_406 : Int × Int := (.negSucc 2147483647, .negSucc 0)
def hka04_407 : ai_E := [hka04_406, hka04_9, hka04_16, hka04_11, hka04_7, hka04_8, hka04_12, hka04_12, hka04_12, hka04_18, hka04_22, hka04_11]
/-- NeverAgain.day -/
def ka_347 : ai_K := (13, 0, (hka04_303, [hka04_282, hka04_305], [], hka04_401), [.inl 1, .inr (0, 11), .inr (0, 12), .inr (0, 13), .inr (1, 6), .inr (1, 7), .inr (1, 8), .inr (1, 9), .inr (1, 10), .inr (1, 11), .inr (1, 12), .inr (1, 13)], [(some hka04_211, hka04_403, []), (some hka04_341, hka04_405, []), (some hka04_341, hka04_407, [])])
def kan_347 : List ai_Nd := []
set_option maxRecDepth 1000000 in
theorem kak_347 : ai_ck [] [] ka_347 [.inl 100000] kan_347 15 = true := by decide +kernel
theorem kah_347 : ai_holds ka_347 := ai_thm kak_347 ai_nil
def hka04_408 : Int × Int := (.negSucc 0, .ofNat 59)
def hka04_409 : ai_E := [hka04_12, hka04_408]
def hka04_410 : ai_V := .inl (true, hka04_304)
def hka04_411 : ai_V := .inl (true, hka04_118)
def hka04_412 : ai_N := (.negSucc 0, .ofNat 59, [(1, .ofNat 0, .ofNat 0)])
def hka04_413 : ai_V := .inl (true, hka04_412)
def hka04_414 : Int × Int := (.ofNat 1, .ofNat 2147483647)
def hka04_415 : ai_E := [hka04_414, hka04_408]
def hka04_416 : Int × Int := (.ofNat 1, .ofNat 59)
def hka04_417 : ai_E := [hka04_416, hka04_416]
def hka04_418 : Int × Int := (.ofNat 1, .ofNat 58)
def hka04_419 : Int × Int := (.ofNat 2, .ofNat 59)
def hka04_420 : ai_E := [hka04_418, hka04_419]
def hka04_421 : Int × Int := (.negSucc 0, .negSucc 0)
def hka04_422 : ai_E := [hka04_125, hka04_421]
def hka04_423 : ai_E := [hka04_125, hka04_125]
def hka04_424 : ai_E := [hka04_125, hka04_416]
def hka04_425 : ai_E := [hka04_406, hka04_408]
/-- NeverAgainModel.in -/
def ka_348 : ai_K := (93, 0, (hka04_409, [hka04_410, hka04_24, hka04_411, hka04_24, hka04_413, hka04_24], [], hka04_6), [.inl 0, .inl 4], [(some hka04_119, hka04_415, []), (some hka04_2, hka04_417, []), (some hka04_2, hka04_420, []), (some hka04_119, hka04_422, []), (some hka04_2, hka04_423, []), (some hka04_2, hka04_424, []), (some hka04_119, hka04_425, [])])
def kan_348 : List ai_Nd := []
set_option maxRecDepth 1000000 in
theorem kak_348 : ai_ck [] [] ka_348 [.inl 100000] kan_348 12 = true := by decide +kernel
theorem kah_348 : ai_holds ka_348 := ai_thm kak_348 ai_nil
def hka04_426 : ai_E := [hka04_402, hka04_7, hka04_8, hka04_9, hka04_10, hka04_11, hka04_12, hka04_10, hka04_13, hka04_14, hka04_14, hka04_14, hka04_15, hka04_12, hka04_16, hka04_14, hka04_17, hka04_12, hka04_11, hka04_129, hka04_19, hka04_20, hka04_21, hka04_22, hka04_11, hka04_18, hka04_19, hka04_20, hka04_21, hka04_22, hka04_11, hka04_18, hka04_19, hka04_20, hka04_21, hka04_22, hka04_11]
/-- NeverAgainModel.day -/
def ka_349 : ai_K := (14, 1, (hka04_342, [hka04_0, hka04_305], [], hka04_395), [.inl 1, .inr (59, 2), .inr (59, 3), .inr (59, 6), .inr (59, 8), .inr (59, 9), .inr (59, 11), .inr (59, 12), .inr (59, 13), .inr (59, 15), .inr (59, 16), .inr (59, 17), .inr (59, 18), .inr (59, 19), .inr (59, 20), .inr (59, 21), .inr (59, 23), .inr (59, 26), .inr (59, 33), .inr (60, 0), .inr (60, 78), .inr (60, 79), .inr (60, 80), .inr (60, 81), .inr (60, 87), .inr (60, 96), .inr (60, 174), .inr (60, 175), .inr (60, 176), .inr (60, 177), .inr (60, 183), .inr (60, 192), .inr (60, 270), .inr (60, 271), .inr (60, 272), .inr (60, 273), .inr (60, 279)], [(some hka04_341, hka04_342, []), (some hka04_208, hka04_426, [])])
def kan_349 : List ai_Nd := []
set_option maxRecDepth 1000000 in
theorem kak_349 : ai_ck [ka_348] [] ka_349 [.inl 100000] kan_349 21 = true := by decide +kernel
theorem kah_349 : ai_holds ka_349 := ai_thm kak_349 (ai_cons kah_348 ai_nil)
def hka04_427 : ai_E := [hka04_12, hka04_7, hka04_8, hka04_12, hka04_12, hka04_12, hka04_18, hka04_22, hka04_11]
def hka04_428 : ai_N := (.negSucc 2147483647, .ofNat 2147483647, [(3, .ofNat 0, .ofNat 0)])
def hka04_429 : ai_V := .inl (false, hka04_428)
def hka04_430 : ai_N := (.negSucc 2147483647, .ofNat 2147483647, [(4, .ofNat 0, .ofNat 0)])
def hka04_431 : ai_V := .inl (false, hka04_430)
def hka04_432 : ai_N := (.ofNat 0, .ofNat 60, [(6, .ofNat 0, .ofNat 0)])
def hka04_433 : ai_V := .inl (false, hka04_432)
def hka04_434 : ai_N := (.ofNat 0, .ofNat 5, [(7, .ofNat 0, .ofNat 0)])
def hka04_435 : ai_V := .inl (false, hka04_434)
def hka04_436 : ai_N := (.ofNat 0, .ofNat 4, [(8, .ofNat 0, .ofNat 0)])
def hka04_437 : ai_V := .inl (false, hka04_436)
def hka04_438 : ai_C := .inr (.inr (6, [hka04_314, hka04_315, hka04_316, hka04_317, hka04_318, hka04_319, hka04_344, hka04_346, hka04_429, hka04_431, hka04_42, hka04_433, hka04_435, hka04_437]))
def hka04_439 : Bool × Option ai_C := (false, some hka04_438)
def hka04_440 : ai_W := [hka04_5, hka04_439, hka04_5, hka04_5, hka04_5, hka04_5, hka04_5, hka04_5, hka04_5, hka04_5, hka04_5, hka04_5, hka04_5, hka04_5, hka04_5, hka04_5, hka04_5, hka04_5, hka04_5, hka04_5, hka04_5, hka04_5, hka04_5, hka04_5, hka04_5, hka04_5, hka04_5, hka04_5, hka04_5, hka04_5, hka04_5, hka04_5, hka04_5, hka04_5, hka04_5, hka04_5, hka04_5, hka04_5, hka04_5, hka04_5, hka04_5, hka04_5, hka04_5, hka04_5, hka04_5, hka04_5, hka04_5, hka04_5, hka04_5, hka04_5, hka04_5, hka04_5, hka04_5, hka04_5, hka04_5, hka04_5, hka04_5, hka04_5, hka04_5, hka04_5, hka04_5, hka04_5, hka04_5, hka04_5, hka04_5, hka04_5, hka04_5, hka04_5, hka04_5, hka04_5, hka04_5, hka04_5, hka04_5, hka04_5, hka04_5, hka04_5]
def hka04_441 : ai_E := [hka04_15, hka04_7, hka04_8, hka04_12, hka04_12, hka04_12, hka04_18, hka04_22, hka04_11]
def hka04_442 : ai_E := [hka04_414, hka04_7, hka04_8, hka04_12, hka04_12, hka04_12, hka04_18, hka04_22, hka04_11]
def hka04_443 : ai_E := [hka04_406, hka04_7, hka04_8, hka04_12, hka04_12, hka04_12, hka04_18, hka04_22, hka04_11]
/-- NeverAgain$Told.hasMatter -/
def ka_350 : ai_K := (99, 0, (hka04_427, [hka04_292, hka04_305], [], hka04_440), [.inl 1, .inr (1, 6), .inr (1, 7), .inr (1, 8), .inr (1, 9), .inr (1, 10), .inr (1, 11), .inr (1, 12), .inr (1, 13)], [(some hka04_2, hka04_441, []), (some hka04_119, hka04_442, []), (some hka04_119, hka04_443, [])])
def kan_350 : List ai_Nd := []
set_option maxRecDepth 1000000 in
theorem kak_350 : ai_ck [] [] ka_350 [.inl 100000] kan_350 13 = true := by decide +kernel
theorem kah_350 : ai_holds ka_350 := ai_thm kak_350 ai_nil
def hka04_444 : ai_C := .inl (.int, [(4, hka04_210)])
def hka04_445 : Bool × Option ai_C := (false, some hka04_444)
def hka04_446 : ai_W := [hka04_313, hka04_337, hka04_445, hka04_5, hka04_5, hka04_5, hka04_5, hka04_5, hka04_5, hka04_5, hka04_5, hka04_5, hka04_5, hka04_5, hka04_5, hka04_5, hka04_5, hka04_5, hka04_5, hka04_5, hka04_5, hka04_5, hka04_5, hka04_5, hka04_5, hka04_5, hka04_5, hka04_5, hka04_5, hka04_5, hka04_5, hka04_5, hka04_5, hka04_5, hka04_5, hka04_5, hka04_5, hka04_5, hka04_5, hka04_5, hka04_5, hka04_5, hka04_5, hka04_5, hka04_5, hka04_5, hka04_5, hka04_5, hka04_5, hka04_5, hka04_5, hka04_5, hka04_5, hka04_5, hka04_5, hka04_5, hka04_5, hka04_5, hka04_5, hka04_5, hka04_5, hka04_5, hka04_5, hka04_5, hka04_5, hka04_5, hka04_5, hka04_5, hka04_5, hka04_5, hka04_5, hka04_5, hka04_5, hka04_5, hka04_5, hka04_5]
def hka04_447 : ai_E := [hka04_414, hka04_9, hka04_16, hka04_11, hka04_7, hka04_8, hka04_12, hka04_12, hka04_12, hka04_18, hka04_22, hka04_11]
def hka04_448 : ai_E := [hka04_15, hka04_9, hka04_16, hka04_11, hka04_7, hka04_8, hka04_12, hka04_12, hka04_12, hka04_18, hka04_22, hka04_11]
/-- NeverAgain.weight -/
def ka_351 : ai_K := (15, 1, (hka04_303, [hka04_282, hka04_305], [], hka04_446), [.inl 1, .inr (0, 11), .inr (0, 12), .inr (0, 13), .inr (1, 6), .inr (1, 7), .inr (1, 8), .inr (1, 9), .inr (1, 10), .inr (1, 11), .inr (1, 12), .inr (1, 13)], [(some hka04_341, hka04_407, []), (some hka04_341, hka04_447, []), (some hka04_211, hka04_448, [])])
def kan_351 : List ai_Nd := []
set_option maxRecDepth 1000000 in
theorem kak_351 : ai_ck [ka_350] [] ka_351 [.inl 100000] kan_351 13 = true := by decide +kernel
theorem kah_351 : ai_holds ka_351 := ai_thm kak_351 (ai_cons kah_350 ai_nil)
def hka04_449 : ai_E := [hka04_12, hka04_15]
def hka04_450 : ai_N := (.ofNat 0, .ofNat 3, [(1, .ofNat 0, .ofNat 0)])
def hka04_451 : ai_V := .inl (true, hka04_450)
def hka04_452 : ai_E := [hka04_414, hka04_15]
def hka04_453 : Int × Int := (.ofNat 1, .ofNat 3)
def hka04_454 : ai_E := [hka04_453, hka04_453]
def hka04_455 : Int × Int := (.ofNat 1, .ofNat 2)
def hka04_456 : Int × Int := (.ofNat 2, .ofNat 3)
def hka04_457 : ai_E := [hka04_455, hka04_456]
def hka04_458 : ai_E := [hka04_125, hka04_453]
def hka04_459 : ai_E := [hka04_406, hka04_15]
/-- NeverAgainModel.in -/
def ka_352 : ai_K := (93, 0, (hka04_449, [hka04_410, hka04_24, hka04_411, hka04_24, hka04_451, hka04_24], [], hka04_6), [.inl 0, .inl 4], [(some hka04_119, hka04_452, []), (some hka04_2, hka04_454, []), (some hka04_2, hka04_457, []), (some hka04_2, hka04_423, []), (some hka04_2, hka04_458, []), (some hka04_119, hka04_459, [])])
def kan_352 : List ai_Nd := []
set_option maxRecDepth 1000000 in
theorem kak_352 : ai_ck [] [] ka_352 [.inl 100000] kan_352 12 = true := by decide +kernel
theorem kah_352 : ai_holds ka_352 := ai_thm kak_352 ai_nil
def hka04_460 : ai_E := [hka04_12, hka04_7, hka04_8, hka04_9, hka04_10, hka04_11, hka04_12, hka04_10, hka04_13, hka04_14, hka04_14, hka04_14, hka04_15, hka04_12, hka04_16, hka04_14, hka04_17, hka04_12, hka04_11]
def hka04_461 : ai_W := [hka04_5, hka04_5, hka04_5, hka04_5, hka04_5, hka04_5, hka04_5, hka04_5, hka04_5, hka04_5, hka04_5, hka04_5, hka04_5, hka04_5, hka04_5, hka04_5, hka04_5, hka04_5, hka04_5, hka04_5, hka04_5, hka04_5, hka04_5, hka04_5, hka04_5, hka04_5, hka04_5, hka04_5, hka04_5, hka04_5, hka04_5, hka04_5, hka04_5, hka04_5, hka04_5, hka04_5, hka04_5, hka04_5, hka04_5, hka04_5, hka04_5, hka04_5, hka04_5, hka04_5, hka04_5, hka04_5, hka04_5, hka04_5, hka04_5, hka04_5, hka04_5, hka04_5, hka04_5, hka04_5, hka04_5, hka04_5, hka04_5, hka04_5, hka04_5, hka04_374, hka04_5, hka04_5, hka04_5, hka04_5, hka04_5, hka04_5, hka04_5, hka04_5, hka04_5, hka04_5, hka04_5, hka04_5, hka04_5, hka04_5, hka04_5, hka04_5]
def hka04_462 : ai_E := [hka04_406, hka04_7, hka04_8, hka04_9, hka04_10, hka04_11, hka04_12, hka04_10, hka04_13, hka04_14, hka04_14, hka04_14, hka04_15, hka04_12, hka04_16, hka04_14, hka04_17, hka04_12, hka04_11]
def hka04_463 : Int × Int := (.ofNat 2, .ofNat 4)
def hka04_464 : ai_E := [hka04_125, hka04_7, hka04_463, hka04_9, hka04_10, hka04_11, hka04_12, hka04_10, hka04_13, hka04_14, hka04_14, hka04_14, hka04_15, hka04_12, hka04_16, hka04_14, hka04_17, hka04_12, hka04_11]
def hka04_465 : Int × Int := (.ofNat 1, .ofNat 1)
def hka04_466 : ai_E := [hka04_125, hka04_7, hka04_465, hka04_9, hka04_10, hka04_11, hka04_12, hka04_10, hka04_13, hka04_14, hka04_14, hka04_14, hka04_15, hka04_12, hka04_16, hka04_14, hka04_17, hka04_12, hka04_11]
def hka04_467 : Int × Int := (.ofNat 3, .ofNat 4)
def hka04_468 : ai_E := [hka04_455, hka04_7, hka04_467, hka04_9, hka04_10, hka04_11, hka04_12, hka04_10, hka04_13, hka04_14, hka04_14, hka04_14, hka04_15, hka04_12, hka04_16, hka04_14, hka04_17, hka04_12, hka04_11]
def hka04_469 : ai_E := [hka04_453, hka04_7, hka04_463, hka04_9, hka04_10, hka04_11, hka04_12, hka04_10, hka04_13, hka04_14, hka04_14, hka04_14, hka04_15, hka04_12, hka04_16, hka04_14, hka04_17, hka04_12, hka04_11]
def hka04_470 : ai_E := [hka04_414, hka04_7, hka04_8, hka04_9, hka04_10, hka04_11, hka04_12, hka04_10, hka04_13, hka04_14, hka04_14, hka04_14, hka04_15, hka04_12, hka04_16, hka04_14, hka04_17, hka04_12, hka04_11]
/-- NeverAgainModel.isMatter -/
def ka_353 : ai_K := (100, 1, (hka04_460, [hka04_0, hka04_305], [], hka04_461), [.inl 1, .inr (59, 2), .inr (59, 3), .inr (59, 6), .inr (59, 8), .inr (59, 9), .inr (59, 11), .inr (59, 12), .inr (59, 13), .inr (59, 15), .inr (59, 16), .inr (59, 17), .inr (59, 18), .inr (59, 19), .inr (59, 20), .inr (59, 21), .inr (59, 23), .inr (59, 26), .inr (59, 33)], [(some hka04_119, hka04_462, []), (some hka04_2, hka04_464, []), (some hka04_2, hka04_466, []), (some hka04_2, hka04_468, []), (some hka04_2, hka04_469, []), (some hka04_119, hka04_470, [])])
def kan_353 : List ai_Nd := []
set_option maxRecDepth 1000000 in
theorem kak_353 : ai_ck [ka_352] [] ka_353 [.inl 100000] kan_353 11 = true := by decide +kernel
theorem kah_353 : ai_holds ka_353 := ai_thm kak_353 (ai_cons kah_352 ai_nil)
def hka04_471 : ai_W := [hka04_5, hka04_5, hka04_5, hka04_5, hka04_5, hka04_5, hka04_5, hka04_5, hka04_5, hka04_5, hka04_5, hka04_5, hka04_5, hka04_5, hka04_5, hka04_5, hka04_5, hka04_5, hka04_5, hka04_5, hka04_5, hka04_5, hka04_5, hka04_5, hka04_5, hka04_5, hka04_5, hka04_5, hka04_5, hka04_5, hka04_5, hka04_5, hka04_5, hka04_5, hka04_5, hka04_5, hka04_5, hka04_5, hka04_5, hka04_5, hka04_5, hka04_5, hka04_5, hka04_5, hka04_5, hka04_5, hka04_5, hka04_5, hka04_5, hka04_5, hka04_5, hka04_5, hka04_5, hka04_5, hka04_5, hka04_5, hka04_5, hka04_5, hka04_5, hka04_374, hka04_5, hka04_5, hka04_108, hka04_5, hka04_5, hka04_5, hka04_5, hka04_5, hka04_5, hka04_5, hka04_5, hka04_5, hka04_5, hka04_5, hka04_5, hka04_5]
def hka04_472 : ai_V := .inl (false, hka04_106)
/-- NeverAgainModel.weight -/
def ka_354 : ai_K := (16, 2, (hka04_460, [hka04_0, hka04_305], [], hka04_471), [.inl 1, .inr (59, 2), .inr (59, 3), .inr (59, 6), .inr (59, 8), .inr (59, 9), .inr (59, 11), .inr (59, 12), .inr (59, 13), .inr (59, 15), .inr (59, 16), .inr (59, 17), .inr (59, 18), .inr (59, 19), .inr (59, 20), .inr (59, 21), .inr (59, 23), .inr (59, 26), .inr (59, 33)], [(some hka04_341, hka04_470, []), (some hka04_472, hka04_469, []), (some hka04_472, hka04_468, []), (some hka04_472, hka04_466, []), (some hka04_472, hka04_464, []), (some hka04_341, hka04_462, [])])
def kan_354 : List ai_Nd := []
set_option maxRecDepth 1000000 in
theorem kak_354 : ai_ck [ka_353] [] ka_354 [.inl 100000] kan_354 11 = true := by decide +kernel
theorem kah_354 : ai_holds ka_354 := ai_thm kak_354 (ai_cons kah_353 ai_nil)
def hka04_473 : Int × Int := (.ofNat 1, .ofNat 16)
def hka04_474 : ai_E := [hka04_473, hka04_7, hka04_8, hka04_12, hka04_12, hka04_12, hka04_18, hka04_22, hka04_11]
def hka04_475 : Int × Int := (.ofNat 5, .ofNat 2147483647)
def hka04_476 : ai_E := [hka04_475, hka04_7, hka04_8, hka04_12, hka04_12, hka04_12, hka04_18, hka04_22, hka04_11]
def hka04_477 : Int × Int := (.negSucc 2147483647, .ofNat 0)
def hka04_478 : ai_E := [hka04_477, hka04_7, hka04_8, hka04_12, hka04_12, hka04_12, hka04_18, hka04_22, hka04_11]
/-- NeverAgain$Told.hasNumber -/
def ka_355 : ai_K := (101, 0, (hka04_427, [hka04_292, hka04_305], [], hka04_440), [.inl 1, .inr (1, 6), .inr (1, 7), .inr (1, 8), .inr (1, 9), .inr (1, 10), .inr (1, 11), .inr (1, 12), .inr (1, 13)], [(some hka04_2, hka04_474, []), (some hka04_119, hka04_476, []), (some hka04_119, hka04_478, [])])
def kan_355 : List ai_Nd := []
set_option maxRecDepth 1000000 in
theorem kak_355 : ai_ck [] [] ka_355 [.inl 100000] kan_355 14 = true := by decide +kernel
theorem kah_355 : ai_holds ka_355 := ai_thm kak_355 ai_nil
def hka04_479 : ai_C := .inl (.int, [(17, hka04_210)])
def hka04_480 : Bool × Option ai_C := (false, some hka04_479)
def hka04_481 : ai_W := [hka04_313, hka04_337, hka04_5, hka04_480, hka04_5, hka04_5, hka04_5, hka04_5, hka04_5, hka04_5, hka04_5, hka04_5, hka04_5, hka04_5, hka04_5, hka04_5, hka04_5, hka04_5, hka04_5, hka04_5, hka04_5, hka04_5, hka04_5, hka04_5, hka04_5, hka04_5, hka04_5, hka04_5, hka04_5, hka04_5, hka04_5, hka04_5, hka04_5, hka04_5, hka04_5, hka04_5, hka04_5, hka04_5, hka04_5, hka04_5, hka04_5, hka04_5, hka04_5, hka04_5, hka04_5, hka04_5, hka04_5, hka04_5, hka04_5, hka04_5, hka04_5, hka04_5, hka04_5, hka04_5, hka04_5, hka04_5, hka04_5, hka04_5, hka04_5, hka04_5, hka04_5, hka04_5, hka04_5, hka04_5, hka04_5, hka04_5, hka04_5, hka04_5, hka04_5, hka04_5, hka04_5, hka04_5, hka04_5, hka04_5, hka04_5, hka04_5]
def hka04_482 : ai_E := [hka04_477, hka04_9, hka04_16, hka04_11, hka04_7, hka04_8, hka04_12, hka04_12, hka04_12, hka04_18, hka04_22, hka04_11]
def hka04_483 : ai_E := [hka04_475, hka04_9, hka04_16, hka04_11, hka04_7, hka04_8, hka04_12, hka04_12, hka04_12, hka04_18, hka04_22, hka04_11]
def hka04_484 : ai_E := [hka04_473, hka04_9, hka04_16, hka04_11, hka04_7, hka04_8, hka04_12, hka04_12, hka04_12, hka04_18, hka04_22, hka04_11]
/-- NeverAgain.page -/
def ka_356 : ai_K := (17, 1, (hka04_303, [hka04_282, hka04_305], [], hka04_481), [.inl 1, .inr (0, 11), .inr (0, 12), .inr (0, 13), .inr (1, 6), .inr (1, 7), .inr (1, 8), .inr (1, 9), .inr (1, 10), .inr (1, 11), .inr (1, 12), .inr (1, 13)], [(some hka04_341, hka04_482, []), (some hka04_341, hka04_483, []), (some hka04_211, hka04_484, [])])
def kan_356 : List ai_Nd := []
set_option maxRecDepth 1000000 in
theorem kak_356 : ai_ck [ka_355] [] ka_356 [.inl 100000] kan_356 13 = true := by decide +kernel
theorem kah_356 : ai_holds ka_356 := ai_thm kak_356 (ai_cons kah_355 ai_nil)
def hka04_485 : ai_E := [hka04_12, hka04_7]
def hka04_486 : ai_V := .inl (true, hka04_1)
def hka04_487 : ai_V := .inl (true, hka04_343)
def hka04_488 : ai_E := [hka04_475, hka04_7]
def hka04_489 : ai_E := [hka04_7, hka04_7]
def hka04_490 : Int × Int := (.ofNat 2, .ofNat 15)
def hka04_491 : ai_E := [hka04_490, hka04_7]
def hka04_492 : ai_E := [hka04_465, hka04_7]
def hka04_493 : ai_E := [hka04_477, hka04_7]
/-- NeverAgainModel.in -/
def ka_357 : ai_K := (93, 0, (hka04_485, [hka04_410, hka04_24, hka04_486, hka04_24, hka04_487, hka04_24], [], hka04_6), [.inl 0, .inl 4], [(some hka04_119, hka04_488, []), (some hka04_2, hka04_489, []), (some hka04_2, hka04_491, []), (some hka04_2, hka04_492, []), (some hka04_119, hka04_493, [])])
def kan_357 : List ai_Nd := []
set_option maxRecDepth 1000000 in
theorem kak_357 : ai_ck [] [] ka_357 [.inl 100000] kan_357 12 = true := by decide +kernel
theorem kah_357 : ai_holds ka_357 := ai_thm kak_357 ai_nil
def hka04_494 : ai_E := [hka04_477, hka04_7, hka04_8, hka04_9, hka04_10, hka04_11, hka04_12, hka04_10, hka04_13, hka04_14, hka04_14, hka04_14, hka04_15, hka04_12, hka04_16, hka04_14, hka04_17, hka04_12, hka04_11]
def hka04_495 : ai_E := [hka04_465, hka04_7, hka04_8, hka04_9, hka04_10, hka04_11, hka04_12, hka04_10, hka04_13, hka04_14, hka04_14, hka04_14, hka04_15, hka04_12, hka04_16, hka04_14, hka04_17, hka04_12, hka04_11]
def hka04_496 : ai_E := [hka04_490, hka04_7, hka04_8, hka04_9, hka04_10, hka04_11, hka04_12, hka04_10, hka04_13, hka04_14, hka04_14, hka04_14, hka04_15, hka04_12, hka04_16, hka04_14, hka04_17, hka04_12, hka04_11]
def hka04_497 : ai_E := [hka04_7, hka04_7, hka04_8, hka04_9, hka04_10, hka04_11, hka04_12, hka04_10, hka04_13, hka04_14, hka04_14, hka04_14, hka04_15, hka04_12, hka04_16, hka04_14, hka04_17, hka04_12, hka04_11]
def hka04_498 : ai_E := [hka04_475, hka04_7, hka04_8, hka04_9, hka04_10, hka04_11, hka04_12, hka04_10, hka04_13, hka04_14, hka04_14, hka04_14, hka04_15, hka04_12, hka04_16, hka04_14, hka04_17, hka04_12, hka04_11]
/-- NeverAgainModel.isNumber -/
def ka_358 : ai_K := (102, 1, (hka04_460, [hka04_0, hka04_305], [], hka04_461), [.inl 1, .inr (59, 2), .inr (59, 3), .inr (59, 6), .inr (59, 8), .inr (59, 9), .inr (59, 11), .inr (59, 12), .inr (59, 13), .inr (59, 15), .inr (59, 16), .inr (59, 17), .inr (59, 18), .inr (59, 19), .inr (59, 20), .inr (59, 21), .inr (59, 23), .inr (59, 26), .inr (59, 33)], [(some hka04_119, hka04_494, []), (some hka04_2, hka04_495, []), (some hka04_2, hka04_496, []), (some hka04_2, hka04_497, []), (some hka04_119, hka04_498, [])])
def kan_358 : List ai_Nd := []
set_option maxRecDepth 1000000 in
theorem kak_358 : ai_ck [ka_357] [] ka_358 [.inl 100000] kan_358 9 = true := by decide +kernel
theorem kah_358 : ai_holds ka_358 := ai_thm kak_358 (ai_cons kah_357 ai_nil)
def hka04_499 : ai_E := [hka04_475, hka04_7, hka04_8, hka04_9, hka04_10, hka04_11, hka04_12, hka04_10, hka04_13, hka04_14, hka04_14, hka04_14, hka04_15, hka04_12, hka04_16, hka04_14, hka04_17, hka04_12, hka04_11, hka04_18, hka04_19, hka04_20, hka04_21, hka04_22, hka04_11, hka04_18, hka04_19, hka04_20, hka04_21, hka04_22, hka04_11, hka04_18, hka04_19, hka04_20, hka04_21, hka04_22, hka04_11]
def hka04_500 : ai_E := [hka04_7, hka04_7, hka04_8, hka04_9, hka04_10, hka04_11, hka04_12, hka04_10, hka04_13, hka04_14, hka04_14, hka04_14, hka04_15, hka04_12, hka04_16, hka04_14, hka04_17, hka04_12, hka04_11, hka04_18, hka04_19, hka04_20, hka04_21, hka04_22, hka04_11, hka04_18, hka04_19, hka04_20, hka04_21, hka04_22, hka04_11, hka04_18, hka04_19, hka04_20, hka04_21, hka04_22, hka04_11]
def hka04_501 : ai_E := [hka04_490, hka04_7, hka04_8, hka04_9, hka04_10, hka04_11, hka04_12, hka04_10, hka04_13, hka04_14, hka04_14, hka04_14, hka04_15, hka04_12, hka04_16, hka04_14, hka04_17, hka04_12, hka04_11, hka04_18, hka04_19, hka04_20, hka04_21, hka04_22, hka04_11, hka04_18, hka04_19, hka04_20, hka04_21, hka04_22, hka04_11, hka04_18, hka04_19, hka04_20, hka04_21, hka04_22, hka04_11]
def hka04_502 : ai_E := [hka04_465, hka04_7, hka04_8, hka04_9, hka04_10, hka04_11, hka04_12, hka04_10, hka04_13, hka04_14, hka04_14, hka04_14, hka04_15, hka04_12, hka04_16, hka04_14, hka04_17, hka04_12, hka04_11, hka04_18, hka04_19, hka04_20, hka04_21, hka04_22, hka04_11, hka04_18, hka04_19, hka04_20, hka04_21, hka04_22, hka04_11, hka04_18, hka04_19, hka04_20, hka04_21, hka04_22, hka04_11]
def hka04_503 : ai_E := [hka04_477, hka04_7, hka04_8, hka04_9, hka04_10, hka04_11, hka04_12, hka04_10, hka04_13, hka04_14, hka04_14, hka04_14, hka04_15, hka04_12, hka04_16, hka04_14, hka04_17, hka04_12, hka04_11, hka04_18, hka04_19, hka04_20, hka04_21, hka04_22, hka04_11, hka04_18, hka04_19, hka04_20, hka04_21, hka04_22, hka04_11, hka04_18, hka04_19, hka04_20, hka04_21, hka04_22, hka04_11]
/-- NeverAgainModel.page -/
def ka_359 : ai_K := (18, 2, (hka04_342, [hka04_0, hka04_305], [], hka04_395), [.inl 1, .inr (59, 2), .inr (59, 3), .inr (59, 6), .inr (59, 8), .inr (59, 9), .inr (59, 11), .inr (59, 12), .inr (59, 13), .inr (59, 15), .inr (59, 16), .inr (59, 17), .inr (59, 18), .inr (59, 19), .inr (59, 20), .inr (59, 21), .inr (59, 23), .inr (59, 26), .inr (59, 33), .inr (60, 0), .inr (60, 78), .inr (60, 79), .inr (60, 80), .inr (60, 81), .inr (60, 87), .inr (60, 96), .inr (60, 174), .inr (60, 175), .inr (60, 176), .inr (60, 177), .inr (60, 183), .inr (60, 192), .inr (60, 270), .inr (60, 271), .inr (60, 272), .inr (60, 273), .inr (60, 279)], [(some hka04_341, hka04_499, []), (some hka04_212, hka04_500, []), (some hka04_212, hka04_501, []), (some hka04_212, hka04_502, []), (some hka04_341, hka04_503, [])])
def kan_359 : List ai_Nd := []
set_option maxRecDepth 1000000 in
theorem kak_359 : ai_ck [ka_358] [] ka_359 [.inl 100000] kan_359 13 = true := by decide +kernel
theorem kah_359 : ai_holds ka_359 := ai_thm kak_359 (ai_cons kah_358 ai_nil)
def hka04_504 : Int × Int := (.ofNat 21, .ofNat 2147483647)
def hka04_505 : ai_E := [hka04_504, hka04_9, hka04_16, hka04_11, hka04_7, hka04_8, hka04_12, hka04_12, hka04_12, hka04_18, hka04_22, hka04_11]
def hka04_506 : ai_E := [hka04_19, hka04_9, hka04_16, hka04_11, hka04_7, hka04_8, hka04_12, hka04_12, hka04_12, hka04_18, hka04_22, hka04_11]
def hka04_507 : ai_N := (.ofNat 0, .ofNat 20, [(0, .ofNat 0, .ofNat 0)])
def hka04_508 : ai_V := .inl (false, hka04_507)
def hka04_509 : ai_C := .inr (.inr (6, [hka04_314, hka04_315, hka04_316, hka04_317, hka04_318, hka04_319, hka04_321, hka04_323, hka04_508, hka04_327, hka04_329, hka04_331, hka04_333, hka04_335]))
/-- NeverAgain.gap -/
def ka_360 : ai_K := (19, 0, (hka04_303, [hka04_282, hka04_305, hka04_24], [], hka04_338), [.inl 1, .inr (0, 11), .inr (0, 12), .inr (0, 13), .inr (1, 6), .inr (1, 7), .inr (1, 8), .inr (1, 9), .inr (1, 10), .inr (1, 11), .inr (1, 12), .inr (1, 13)], [(some hka04_341, hka04_505, []), (some hka04_325, hka04_506, [(1, hka04_509)]), (some hka04_341, hka04_407, [])])
def kan_360 : List ai_Nd := []
set_option maxRecDepth 1000000 in
theorem kak_360 : ai_ck [] [] ka_360 [.inl 100000] kan_360 16 = true := by decide +kernel
theorem kah_360 : ai_holds ka_360 := ai_thm kak_360 ai_nil
def hka04_510 : ai_E := [hka04_406, hka04_7, hka04_8, hka04_9, hka04_10, hka04_11, hka04_12, hka04_10, hka04_13, hka04_14, hka04_14, hka04_14, hka04_15, hka04_12, hka04_16, hka04_14, hka04_17, hka04_12, hka04_11, hka04_18, hka04_19, hka04_20, hka04_21, hka04_22, hka04_11, hka04_18, hka04_19, hka04_20, hka04_21, hka04_22, hka04_11, hka04_18, hka04_19, hka04_20, hka04_21, hka04_22, hka04_11]
def hka04_511 : ai_V := .inl (false, hka04_376)
def hka04_512 : ai_E := [hka04_125, hka04_7, hka04_8, hka04_9, hka04_10, hka04_11, hka04_12, hka04_10, hka04_13, hka04_14, hka04_14, hka04_14, hka04_15, hka04_12, hka04_16, hka04_14, hka04_17, hka04_12, hka04_11, hka04_18, hka04_19, hka04_20, hka04_21, hka04_22, hka04_11, hka04_18, hka04_19, hka04_20, hka04_21, hka04_22, hka04_11, hka04_18, hka04_19, hka04_20, hka04_21, hka04_22, hka04_11]
def hka04_513 : ai_N := (.ofNat 0, .ofNat 0, [(0, .ofNat 0, .ofNat 0)])
def hka04_514 : ai_C := .inl (.int, [(1, hka04_375), (60, hka04_80), (17, hka04_81), (1, hka04_513), (1, hka04_377), (1, hka04_378), (1, hka04_379), (5, hka04_86), (1, hka04_380), (8, hka04_88), (1, hka04_381), (60, hka04_80), (17, hka04_81), (1, hka04_382), (1, hka04_383), (1, hka04_384), (1, hka04_385), (5, hka04_86), (1, hka04_386), (8, hka04_88), (1, hka04_387), (60, hka04_80), (17, hka04_81), (1, hka04_388), (1, hka04_389), (1, hka04_390), (1, hka04_391), (5, hka04_86), (1, hka04_392), (8, hka04_88)])
def hka04_515 : Int × Int := (.ofNat 1, .ofNat 19)
def hka04_516 : ai_E := [hka04_515, hka04_7, hka04_8, hka04_9, hka04_10, hka04_11, hka04_12, hka04_10, hka04_13, hka04_14, hka04_14, hka04_14, hka04_15, hka04_12, hka04_16, hka04_14, hka04_17, hka04_12, hka04_11, hka04_18, hka04_19, hka04_20, hka04_21, hka04_22, hka04_11, hka04_18, hka04_19, hka04_20, hka04_21, hka04_22, hka04_11, hka04_18, hka04_19, hka04_20, hka04_21, hka04_22, hka04_11]
def hka04_517 : ai_N := (.ofNat 1, .ofNat 19, [(0, .ofNat 0, .ofNat 0)])
def hka04_518 : ai_C := .inl (.int, [(1, hka04_375), (60, hka04_80), (17, hka04_81), (1, hka04_517), (1, hka04_377), (1, hka04_378), (1, hka04_379), (5, hka04_86), (1, hka04_380), (8, hka04_88), (1, hka04_381), (60, hka04_80), (17, hka04_81), (1, hka04_382), (1, hka04_383), (1, hka04_384), (1, hka04_385), (5, hka04_86), (1, hka04_386), (8, hka04_88), (1, hka04_387), (60, hka04_80), (17, hka04_81), (1, hka04_388), (1, hka04_389), (1, hka04_390), (1, hka04_391), (5, hka04_86), (1, hka04_392), (8, hka04_88)])
def hka04_519 : Int × Int := (.ofNat 20, .ofNat 20)
def hka04_520 : ai_E := [hka04_519, hka04_7, hka04_8, hka04_9, hka04_10, hka04_11, hka04_12, hka04_10, hka04_13, hka04_14, hka04_14, hka04_14, hka04_15, hka04_12, hka04_16, hka04_14, hka04_17, hka04_12, hka04_11, hka04_18, hka04_19, hka04_20, hka04_21, hka04_22, hka04_11, hka04_18, hka04_19, hka04_20, hka04_21, hka04_22, hka04_11, hka04_18, hka04_19, hka04_20, hka04_21, hka04_22, hka04_11]
def hka04_521 : ai_N := (.ofNat 20, .ofNat 20, [(0, .ofNat 0, .ofNat 0)])
def hka04_522 : ai_C := .inl (.int, [(1, hka04_375), (60, hka04_80), (17, hka04_81), (1, hka04_521), (1, hka04_377), (1, hka04_378), (1, hka04_379), (5, hka04_86), (1, hka04_380), (8, hka04_88), (1, hka04_381), (60, hka04_80), (17, hka04_81), (1, hka04_382), (1, hka04_383), (1, hka04_384), (1, hka04_385), (5, hka04_86), (1, hka04_386), (8, hka04_88), (1, hka04_387), (60, hka04_80), (17, hka04_81), (1, hka04_388), (1, hka04_389), (1, hka04_390), (1, hka04_391), (5, hka04_86), (1, hka04_392), (8, hka04_88)])
def hka04_523 : ai_E := [hka04_504, hka04_7, hka04_8, hka04_9, hka04_10, hka04_11, hka04_12, hka04_10, hka04_13, hka04_14, hka04_14, hka04_14, hka04_15, hka04_12, hka04_16, hka04_14, hka04_17, hka04_12, hka04_11, hka04_18, hka04_19, hka04_20, hka04_21, hka04_22, hka04_11, hka04_18, hka04_19, hka04_20, hka04_21, hka04_22, hka04_11, hka04_18, hka04_19, hka04_20, hka04_21, hka04_22, hka04_11]
/-- NeverAgainModel.gap -/
def ka_361 : ai_K := (20, 1, (hka04_342, [hka04_0, hka04_305, hka04_24], [], hka04_395), [.inl 1, .inr (59, 2), .inr (59, 3), .inr (59, 6), .inr (59, 8), .inr (59, 9), .inr (59, 11), .inr (59, 12), .inr (59, 13), .inr (59, 15), .inr (59, 16), .inr (59, 17), .inr (59, 18), .inr (59, 19), .inr (59, 20), .inr (59, 21), .inr (59, 23), .inr (59, 26), .inr (59, 33), .inr (60, 0), .inr (60, 78), .inr (60, 79), .inr (60, 80), .inr (60, 81), .inr (60, 87), .inr (60, 96), .inr (60, 174), .inr (60, 175), .inr (60, 176), .inr (60, 177), .inr (60, 183), .inr (60, 192), .inr (60, 270), .inr (60, 271), .inr (60, 272), .inr (60, 273), .inr (60, 279)], [(some hka04_341, hka04_510, []), (some hka04_511, hka04_512, [(60, hka04_514)]), (some hka04_511, hka04_516, [(60, hka04_518)]), (some hka04_511, hka04_520, [(60, hka04_522)]), (some hka04_341, hka04_523, [])])
def kan_361 : List ai_Nd := []
set_option maxRecDepth 1000000 in
theorem kak_361 : ai_ck [ka_313] [] ka_361 [.inl 100000] kan_361 19 = true := by decide +kernel
theorem kah_361 : ai_holds ka_361 := ai_thm kak_361 (ai_cons kah_313 ai_nil)
def hka04_524 : Int × Int := (.ofNat 2, .ofNat 2147483647)
def hka04_525 : ai_E := [hka04_524, hka04_9, hka04_16, hka04_11, hka04_7, hka04_8, hka04_12, hka04_12, hka04_12, hka04_18, hka04_22, hka04_11]
def hka04_526 : ai_E := [hka04_20, hka04_9, hka04_16, hka04_11, hka04_7, hka04_8, hka04_12, hka04_12, hka04_12, hka04_18, hka04_22, hka04_11]
def hka04_527 : ai_N := (.ofNat 0, .ofNat 1, [(0, .ofNat 0, .ofNat 0)])
def hka04_528 : ai_V := .inl (false, hka04_527)
def hka04_529 : ai_C := .inr (.inr (6, [hka04_314, hka04_315, hka04_316, hka04_317, hka04_318, hka04_319, hka04_321, hka04_323, hka04_325, hka04_528, hka04_329, hka04_331, hka04_333, hka04_335]))
/-- NeverAgain.near -/
def ka_362 : ai_K := (21, 0, (hka04_303, [hka04_282, hka04_305, hka04_24], [], hka04_338), [.inl 1, .inr (0, 11), .inr (0, 12), .inr (0, 13), .inr (1, 6), .inr (1, 7), .inr (1, 8), .inr (1, 9), .inr (1, 10), .inr (1, 11), .inr (1, 12), .inr (1, 13)], [(some hka04_341, hka04_525, []), (some hka04_327, hka04_526, [(1, hka04_529)]), (some hka04_341, hka04_407, [])])
def kan_362 : List ai_Nd := []
set_option maxRecDepth 1000000 in
theorem kak_362 : ai_ck [] [] ka_362 [.inl 100000] kan_362 16 = true := by decide +kernel
theorem kah_362 : ai_holds ka_362 := ai_thm kak_362 ai_nil
/-- NeverAgainModel.in -/
def ka_363 : ai_K := (93, 0, ([hka04_12], [hka04_410, hka04_24, hka04_411, hka04_24, hka04_486, hka04_24], [], hka04_6), [.inl 0], [(some hka04_119, [hka04_524], []), (some hka04_2, [hka04_465], []), (some hka04_2, [hka04_125], []), (some hka04_119, [hka04_406], [])])
def kan_363 : List ai_Nd := []
set_option maxRecDepth 1000000 in
theorem kak_363 : ai_ck [] [] ka_363 [.inl 100000] kan_363 12 = true := by decide +kernel
theorem kah_363 : ai_holds ka_363 := ai_thm kak_363 ai_nil
def hka04_530 : ai_V := .inl (false, hka04_377)
def hka04_531 : ai_C := .inl (.int, [(1, hka04_375), (60, hka04_80), (17, hka04_81), (1, hka04_376), (1, hka04_513), (1, hka04_378), (1, hka04_379), (5, hka04_86), (1, hka04_380), (8, hka04_88), (1, hka04_381), (60, hka04_80), (17, hka04_81), (1, hka04_382), (1, hka04_383), (1, hka04_384), (1, hka04_385), (5, hka04_86), (1, hka04_386), (8, hka04_88), (1, hka04_387), (60, hka04_80), (17, hka04_81), (1, hka04_388), (1, hka04_389), (1, hka04_390), (1, hka04_391), (5, hka04_86), (1, hka04_392), (8, hka04_88)])
def hka04_532 : ai_N := (.ofNat 1, .ofNat 1, [(0, .ofNat 0, .ofNat 0)])
def hka04_533 : ai_C := .inl (.int, [(1, hka04_375), (60, hka04_80), (17, hka04_81), (1, hka04_376), (1, hka04_532), (1, hka04_378), (1, hka04_379), (5, hka04_86), (1, hka04_380), (8, hka04_88), (1, hka04_381), (60, hka04_80), (17, hka04_81), (1, hka04_382), (1, hka04_383), (1, hka04_384), (1, hka04_385), (5, hka04_86), (1, hka04_386), (8, hka04_88), (1, hka04_387), (60, hka04_80), (17, hka04_81), (1, hka04_388), (1, hka04_389), (1, hka04_390), (1, hka04_391), (5, hka04_86), (1, hka04_392), (8, hka04_88)])
def hka04_534 : ai_E := [hka04_524, hka04_7, hka04_8, hka04_9, hka04_10, hka04_11, hka04_12, hka04_10, hka04_13, hka04_14, hka04_14, hka04_14, hka04_15, hka04_12, hka04_16, hka04_14, hka04_17, hka04_12, hka04_11, hka04_18, hka04_19, hka04_20, hka04_21, hka04_22, hka04_11, hka04_18, hka04_19, hka04_20, hka04_21, hka04_22, hka04_11, hka04_18, hka04_19, hka04_20, hka04_21, hka04_22, hka04_11]
/-- NeverAgainModel.near -/
def ka_364 : ai_K := (22, 1, (hka04_342, [hka04_0, hka04_305, hka04_24], [], hka04_395), [.inl 1, .inr (59, 2), .inr (59, 3), .inr (59, 6), .inr (59, 8), .inr (59, 9), .inr (59, 11), .inr (59, 12), .inr (59, 13), .inr (59, 15), .inr (59, 16), .inr (59, 17), .inr (59, 18), .inr (59, 19), .inr (59, 20), .inr (59, 21), .inr (59, 23), .inr (59, 26), .inr (59, 33), .inr (60, 0), .inr (60, 78), .inr (60, 79), .inr (60, 80), .inr (60, 81), .inr (60, 87), .inr (60, 96), .inr (60, 174), .inr (60, 175), .inr (60, 176), .inr (60, 177), .inr (60, 183), .inr (60, 192), .inr (60, 270), .inr (60, 271), .inr (60, 272), .inr (60, 273), .inr (60, 279)], [(some hka04_341, hka04_510, []), (some hka04_530, hka04_512, [(60, hka04_531)]), (some hka04_530, hka04_502, [(60, hka04_533)]), (some hka04_341, hka04_534, [])])
def kan_364 : List ai_Nd := []
set_option maxRecDepth 1000000 in
theorem kak_364 : ai_ck [ka_363] [] ka_364 [.inl 100000] kan_364 19 = true := by decide +kernel
theorem kah_364 : ai_holds ka_364 := ai_thm kak_364 (ai_cons kah_363 ai_nil)
def hka04_535 : Int × Int := (.ofNat 3, .ofNat 2147483647)
def hka04_536 : ai_E := [hka04_535, hka04_9, hka04_16, hka04_11, hka04_7, hka04_8, hka04_12, hka04_12, hka04_12, hka04_18, hka04_22, hka04_11]
def hka04_537 : Int × Int := (.ofNat 0, .ofNat 2)
def hka04_538 : ai_E := [hka04_537, hka04_9, hka04_16, hka04_11, hka04_7, hka04_8, hka04_12, hka04_12, hka04_12, hka04_18, hka04_22, hka04_11]
def hka04_539 : ai_N := (.ofNat 0, .ofNat 2, [(0, .ofNat 0, .ofNat 0)])
def hka04_540 : ai_V := .inl (false, hka04_539)
def hka04_541 : ai_C := .inr (.inr (6, [hka04_314, hka04_315, hka04_316, hka04_317, hka04_318, hka04_319, hka04_321, hka04_323, hka04_325, hka04_327, hka04_540, hka04_331, hka04_333, hka04_335]))
/-- NeverAgain.book -/
def ka_365 : ai_K := (23, 0, (hka04_303, [hka04_282, hka04_305, hka04_24], [], hka04_338), [.inl 1, .inr (0, 11), .inr (0, 12), .inr (0, 13), .inr (1, 6), .inr (1, 7), .inr (1, 8), .inr (1, 9), .inr (1, 10), .inr (1, 11), .inr (1, 12), .inr (1, 13)], [(some hka04_341, hka04_536, []), (some hka04_329, hka04_538, [(1, hka04_541)]), (some hka04_341, hka04_407, [])])
def kan_365 : List ai_Nd := []
set_option maxRecDepth 1000000 in
theorem kak_365 : ai_ck [] [] ka_365 [.inl 100000] kan_365 16 = true := by decide +kernel
theorem kah_365 : ai_holds ka_365 := ai_thm kak_365 ai_nil
def hka04_542 : ai_V := .inl (true, hka04_215)
def hka04_543 : Int × Int := (.ofNat 2, .ofNat 2)
/-- NeverAgainModel.in -/
def ka_366 : ai_K := (93, 0, ([hka04_12], [hka04_410, hka04_24, hka04_411, hka04_24, hka04_542, hka04_24], [], hka04_6), [.inl 0], [(some hka04_119, [hka04_535], []), (some hka04_2, [hka04_543], []), (some hka04_2, [hka04_465], []), (some hka04_2, [hka04_125], []), (some hka04_119, [hka04_406], [])])
def kan_366 : List ai_Nd := []
set_option maxRecDepth 1000000 in
theorem kak_366 : ai_ck [] [] ka_366 [.inl 100000] kan_366 12 = true := by decide +kernel
theorem kah_366 : ai_holds ka_366 := ai_thm kak_366 ai_nil
def hka04_544 : ai_V := .inl (false, hka04_378)
def hka04_545 : ai_C := .inl (.int, [(1, hka04_375), (60, hka04_80), (17, hka04_81), (1, hka04_376), (1, hka04_377), (1, hka04_513), (1, hka04_379), (5, hka04_86), (1, hka04_380), (8, hka04_88), (1, hka04_381), (60, hka04_80), (17, hka04_81), (1, hka04_382), (1, hka04_383), (1, hka04_384), (1, hka04_385), (5, hka04_86), (1, hka04_386), (8, hka04_88), (1, hka04_387), (60, hka04_80), (17, hka04_81), (1, hka04_388), (1, hka04_389), (1, hka04_390), (1, hka04_391), (5, hka04_86), (1, hka04_392), (8, hka04_88)])
def hka04_546 : ai_C := .inl (.int, [(1, hka04_375), (60, hka04_80), (17, hka04_81), (1, hka04_376), (1, hka04_377), (1, hka04_532), (1, hka04_379), (5, hka04_86), (1, hka04_380), (8, hka04_88), (1, hka04_381), (60, hka04_80), (17, hka04_81), (1, hka04_382), (1, hka04_383), (1, hka04_384), (1, hka04_385), (5, hka04_86), (1, hka04_386), (8, hka04_88), (1, hka04_387), (60, hka04_80), (17, hka04_81), (1, hka04_388), (1, hka04_389), (1, hka04_390), (1, hka04_391), (5, hka04_86), (1, hka04_392), (8, hka04_88)])
def hka04_547 : ai_E := [hka04_543, hka04_7, hka04_8, hka04_9, hka04_10, hka04_11, hka04_12, hka04_10, hka04_13, hka04_14, hka04_14, hka04_14, hka04_15, hka04_12, hka04_16, hka04_14, hka04_17, hka04_12, hka04_11, hka04_18, hka04_19, hka04_20, hka04_21, hka04_22, hka04_11, hka04_18, hka04_19, hka04_20, hka04_21, hka04_22, hka04_11, hka04_18, hka04_19, hka04_20, hka04_21, hka04_22, hka04_11]
def hka04_548 : ai_N := (.ofNat 2, .ofNat 2, [(0, .ofNat 0, .ofNat 0)])
def hka04_549 : ai_C := .inl (.int, [(1, hka04_375), (60, hka04_80), (17, hka04_81), (1, hka04_376), (1, hka04_377), (1, hka04_548), (1, hka04_379), (5, hka04_86), (1, hka04_380), (8, hka04_88), (1, hka04_381), (60, hka04_80), (17, hka04_81), (1, hka04_382), (1, hka04_383), (1, hka04_384), (1, hka04_385), (5, hka04_86), (1, hka04_386), (8, hka04_88), (1, hka04_387), (60, hka04_80), (17, hka04_81), (1, hka04_388), (1, hka04_389), (1, hka04_390), (1, hka04_391), (5, hka04_86), (1, hka04_392), (8, hka04_88)])
def hka04_550 : ai_E := [hka04_535, hka04_7, hka04_8, hka04_9, hka04_10, hka04_11, hka04_12, hka04_10, hka04_13, hka04_14, hka04_14, hka04_14, hka04_15, hka04_12, hka04_16, hka04_14, hka04_17, hka04_12, hka04_11, hka04_18, hka04_19, hka04_20, hka04_21, hka04_22, hka04_11, hka04_18, hka04_19, hka04_20, hka04_21, hka04_22, hka04_11, hka04_18, hka04_19, hka04_20, hka04_21, hka04_22, hka04_11]
/-- NeverAgainModel.book -/
def ka_367 : ai_K := (24, 1, (hka04_342, [hka04_0, hka04_305, hka04_24], [], hka04_395), [.inl 1, .inr (59, 2), .inr (59, 3), .inr (59, 6), .inr (59, 8), .inr (59, 9), .inr (59, 11), .inr (59, 12), .inr (59, 13), .inr (59, 15), .inr (59, 16), .inr (59, 17), .inr (59, 18), .inr (59, 19), .inr (59, 20), .inr (59, 21), .inr (59, 23), .inr (59, 26), .inr (59, 33), .inr (60, 0), .inr (60, 78), .inr (60, 79), .inr (60, 80), .inr (60, 81), .inr (60, 87), .inr (60, 96), .inr (60, 174), .inr (60, 175), .inr (60, 176), .inr (60, 177), .inr (60, 183), .inr (60, 192), .inr (60, 270), .inr (60, 271), .inr (60, 272), .inr (60, 273), .inr (60, 279)], [(some hka04_341, hka04_510, []), (some hka04_544, hka04_512, [(60, hka04_545)]), (some hka04_544, hka04_502, [(60, hka04_546)]), (some hka04_544, hka04_547, [(60, hka04_549)]), (some hka04_341, hka04_550, [])])
def kan_367 : List ai_Nd := []
set_option maxRecDepth 1000000 in
theorem kak_367 : ai_ck [ka_366] [] ka_367 [.inl 100000] kan_367 19 = true := by decide +kernel
theorem kah_367 : ai_holds ka_367 := ai_thm kak_367 (ai_cons kah_366 ai_nil)
def hka04_551 : ai_E := [hka04_12, hka04_12, hka04_9, hka04_16, hka04_11, hka04_7, hka04_8, hka04_12, hka04_12, hka04_12, hka04_18, hka04_22, hka04_11]
def hka04_552 : ai_N := (.negSucc 2147483647, .ofNat 2147483647, [(1, .ofNat 0, .ofNat 0)])
def hka04_553 : ai_V := .inl (false, hka04_552)
def hka04_554 : ai_N := (.ofNat 0, .ofNat 6, [(3, .ofNat 0, .ofNat 0)])
def hka04_555 : ai_V := .inl (false, hka04_554)
def hka04_556 : ai_C := .inr (.inr (7, [hka04_283, hka04_284, hka04_285, hka04_286, hka04_287, hka04_288, hka04_289, hka04_290, hka04_291, hka04_292, hka04_293, hka04_34, hka04_555, hka04_39]))
def hka04_557 : Bool × Option ai_C := (false, some hka04_556)
def hka04_558 : ai_N := (.ofNat 4, .ofNat 16, [(5, .ofNat 0, .ofNat 0)])
def hka04_559 : ai_V := .inl (false, hka04_558)
def hka04_560 : ai_N := (.ofNat 1, .ofNat 4, [(6, .ofNat 0, .ofNat 0)])
def hka04_561 : ai_V := .inl (false, hka04_560)
def hka04_562 : ai_N := (.negSucc 2147483647, .ofNat 2147483647, [(9, .ofNat 0, .ofNat 0)])
def hka04_563 : ai_V := .inl (false, hka04_562)
def hka04_564 : ai_N := (.ofNat 0, .ofNat 60, [(10, .ofNat 0, .ofNat 0)])
def hka04_565 : ai_V := .inl (false, hka04_564)
def hka04_566 : ai_N := (.ofNat 0, .ofNat 5, [(11, .ofNat 0, .ofNat 0)])
def hka04_567 : ai_V := .inl (false, hka04_566)
def hka04_568 : ai_N := (.ofNat 0, .ofNat 4, [(12, .ofNat 0, .ofNat 0)])
def hka04_569 : ai_V := .inl (false, hka04_568)
def hka04_570 : ai_C := .inr (.inr (6, [hka04_314, hka04_315, hka04_316, hka04_317, hka04_318, hka04_319, hka04_559, hka04_561, hka04_327, hka04_329, hka04_563, hka04_565, hka04_567, hka04_569]))
def hka04_571 : Bool × Option ai_C := (false, some hka04_570)
def hka04_572 : ai_W := [hka04_557, hka04_571, hka04_5, hka04_480, hka04_5, hka04_5, hka04_5, hka04_5, hka04_5, hka04_5, hka04_5, hka04_5, hka04_5, hka04_5, hka04_5, hka04_5, hka04_5, hka04_5, hka04_5, hka04_5, hka04_5, hka04_5, hka04_5, hka04_5, hka04_5, hka04_5, hka04_5, hka04_5, hka04_5, hka04_5, hka04_5, hka04_5, hka04_5, hka04_5, hka04_5, hka04_5, hka04_5, hka04_5, hka04_5, hka04_5, hka04_5, hka04_5, hka04_5, hka04_5, hka04_5, hka04_5, hka04_5, hka04_5, hka04_5, hka04_5, hka04_5, hka04_5, hka04_5, hka04_5, hka04_5, hka04_5, hka04_5, hka04_5, hka04_5, hka04_5, hka04_5, hka04_5, hka04_5, hka04_5, hka04_5, hka04_5, hka04_5, hka04_5, hka04_5, hka04_5, hka04_5, hka04_5, hka04_5, hka04_5, hka04_5, hka04_5]
def hka04_573 : ai_E := [hka04_477, hka04_12, hka04_9, hka04_16, hka04_11, hka04_7, hka04_8, hka04_12, hka04_12, hka04_12, hka04_18, hka04_22, hka04_11]
def hka04_574 : ai_E := [hka04_475, hka04_12, hka04_9, hka04_16, hka04_11, hka04_7, hka04_8, hka04_12, hka04_12, hka04_12, hka04_18, hka04_22, hka04_11]
def hka04_575 : ai_E := [hka04_473, hka04_406, hka04_9, hka04_16, hka04_11, hka04_7, hka04_8, hka04_12, hka04_12, hka04_12, hka04_18, hka04_22, hka04_11]
def hka04_576 : ai_E := [hka04_473, hka04_414, hka04_9, hka04_16, hka04_11, hka04_7, hka04_8, hka04_12, hka04_12, hka04_12, hka04_18, hka04_22, hka04_11]
def hka04_577 : ai_E := [hka04_473, hka04_15, hka04_9, hka04_16, hka04_11, hka04_7, hka04_8, hka04_12, hka04_12, hka04_12, hka04_18, hka04_22, hka04_11]
def hka04_578 : Int × Int := (.negSucc 3, .negSucc 3)
def hka04_579 : ai_E := [hka04_473, hka04_578, hka04_9, hka04_16, hka04_11, hka04_7, hka04_8, hka04_12, hka04_12, hka04_12, hka04_18, hka04_22, hka04_11]
/-- NeverAgain.write -/
def ka_368 : ai_K := (25, 1, (hka04_551, [hka04_282, hka04_305, hka04_553, hka04_24], [], hka04_572), [.inl 1, .inl 2, .inr (0, 11), .inr (0, 12), .inr (0, 13), .inr (1, 6), .inr (1, 7), .inr (1, 8), .inr (1, 9), .inr (1, 10), .inr (1, 11), .inr (1, 12), .inr (1, 13)], [(some hka04_341, hka04_573, []), (some hka04_341, hka04_574, []), (some hka04_341, hka04_575, []), (some hka04_341, hka04_576, []), (some hka04_211, hka04_577, [(3, hka04_479)]), (some hka04_211, hka04_579, [(3, hka04_479)])])
def kan_368 : List ai_Nd := []
set_option maxRecDepth 1000000 in
theorem kak_368 : ai_ck [ka_350, ka_355] [] ka_368 [.inl 100000] kan_368 28 = true := by decide +kernel
theorem kah_368 : ai_holds ka_368 := ai_thm kak_368 (ai_cons kah_350 (ai_cons kah_355 ai_nil))
def hka04_580 : ai_E := [hka04_12, hka04_12, hka04_7, hka04_8, hka04_9, hka04_10, hka04_11, hka04_12, hka04_10, hka04_13, hka04_14, hka04_14, hka04_14, hka04_15, hka04_12, hka04_16, hka04_14, hka04_17, hka04_12, hka04_11, hka04_18, hka04_19, hka04_20, hka04_21, hka04_22, hka04_11, hka04_18, hka04_19, hka04_20, hka04_21, hka04_22, hka04_11, hka04_18, hka04_19, hka04_20, hka04_21, hka04_22, hka04_11]
def hka04_581 : ai_N := (.ofNat 4, .ofNat 16, [(2, .ofNat 0, .ofNat 0)])
def hka04_582 : ai_V := .inl (false, hka04_581)
def hka04_583 : ai_N := (.ofNat 1, .ofNat 4, [(3, .ofNat 0, .ofNat 0)])
def hka04_584 : ai_V := .inl (false, hka04_583)
def hka04_585 : ai_N := (.ofNat 0, .ofNat 12, [(4, .ofNat 0, .ofNat 0)])
def hka04_586 : ai_V := .inl (false, hka04_585)
def hka04_587 : ai_N := (.ofNat 0, .ofNat 16, [(5, .ofNat 0, .ofNat 0)])
def hka04_588 : ai_V := .inl (false, hka04_587)
def hka04_589 : ai_N := (.ofNat 0, .ofNat 4, [(6, .ofNat 0, .ofNat 0)])
def hka04_590 : ai_V := .inl (false, hka04_589)
def hka04_591 : ai_N := (.ofNat 0, .ofNat 16, [(8, .ofNat 0, .ofNat 0)])
def hka04_592 : ai_V := .inl (false, hka04_591)
def hka04_593 : ai_N := (.negSucc 3, .ofNat 3, [(9, .ofNat 0, .ofNat 0)])
def hka04_594 : ai_V := .inl (false, hka04_593)
def hka04_595 : ai_N := (.ofNat 0, .ofNat 400, [(12, .ofNat 0, .ofNat 0)])
def hka04_596 : ai_V := .inl (false, hka04_595)
def hka04_597 : ai_N := (.ofNat 0, .ofNat 3, [(13, .ofNat 0, .ofNat 0)])
def hka04_598 : ai_V := .inl (false, hka04_597)
def hka04_599 : ai_N := (.negSucc 2147483647, .ofNat 2147483647, [(14, .ofNat 0, .ofNat 0)])
def hka04_600 : ai_V := .inl (false, hka04_599)
def hka04_601 : ai_N := (.ofNat 0, .ofNat 6, [(15, .ofNat 0, .ofNat 0)])
def hka04_602 : ai_V := .inl (false, hka04_601)
def hka04_603 : ai_N := (.ofNat 0, .ofNat 400, [(16, .ofNat 0, .ofNat 0)])
def hka04_604 : ai_V := .inl (false, hka04_603)
def hka04_605 : ai_N := (.ofNat 0, .ofNat 130, [(17, .ofNat 0, .ofNat 0)])
def hka04_606 : ai_V := .inl (false, hka04_605)
def hka04_607 : ai_N := (.negSucc 2147483647, .ofNat 2147483647, [(18, .ofNat 0, .ofNat 0)])
def hka04_608 : ai_V := .inl (false, hka04_607)
def hka04_609 : ai_N := (.ofNat 0, .ofNat 4, [(19, .ofNat 0, .ofNat 0)])
def hka04_610 : ai_V := .inl (false, hka04_609)
def hka04_611 : ai_C := .inr (.inr (8, [hka04_25, hka04_26, hka04_582, hka04_584, hka04_31, hka04_32, hka04_586, hka04_35, hka04_588, hka04_590, hka04_40, hka04_327, hka04_592, hka04_594, hka04_47, hka04_53, hka04_358, hka04_596, hka04_598, hka04_600, hka04_602, hka04_604, hka04_62, hka04_606, hka04_65, hka04_66, hka04_608, hka04_69, hka04_70, hka04_71, hka04_72, hka04_73, hka04_74, hka04_610]))
def hka04_612 : Bool × Option ai_C := (false, some hka04_611)
def hka04_613 : ai_N := (.ofNat 0, .ofNat 60, [(20, .ofNat 0, .ofNat 0)])
def hka04_614 : ai_N := (.ofNat 0, .ofNat 20, [(21, .ofNat 0, .ofNat 0)])
def hka04_615 : ai_N := (.ofNat 0, .ofNat 1, [(22, .ofNat 0, .ofNat 0)])
def hka04_616 : ai_N := (.negSucc 3, .ofNat 2, [(23, .ofNat 0, .ofNat 0)])
def hka04_617 : ai_N := (.ofNat 0, .ofNat 5, [(24, .ofNat 0, .ofNat 0)])
def hka04_618 : ai_N := (.ofNat 0, .ofNat 4, [(25, .ofNat 0, .ofNat 0)])
def hka04_619 : ai_N := (.ofNat 0, .ofNat 60, [(26, .ofNat 0, .ofNat 0)])
def hka04_620 : ai_N := (.ofNat 0, .ofNat 20, [(27, .ofNat 0, .ofNat 0)])
def hka04_621 : ai_N := (.ofNat 0, .ofNat 1, [(28, .ofNat 0, .ofNat 0)])
def hka04_622 : ai_N := (.negSucc 3, .ofNat 2, [(29, .ofNat 0, .ofNat 0)])
def hka04_623 : ai_N := (.ofNat 0, .ofNat 5, [(30, .ofNat 0, .ofNat 0)])
def hka04_624 : ai_N := (.ofNat 0, .ofNat 4, [(31, .ofNat 0, .ofNat 0)])
def hka04_625 : ai_N := (.ofNat 0, .ofNat 60, [(32, .ofNat 0, .ofNat 0)])
def hka04_626 : ai_N := (.ofNat 0, .ofNat 20, [(33, .ofNat 0, .ofNat 0)])
def hka04_627 : ai_N := (.ofNat 0, .ofNat 1, [(34, .ofNat 0, .ofNat 0)])
def hka04_628 : ai_N := (.negSucc 3, .ofNat 2, [(35, .ofNat 0, .ofNat 0)])
def hka04_629 : ai_N := (.ofNat 0, .ofNat 5, [(36, .ofNat 0, .ofNat 0)])
def hka04_630 : ai_N := (.ofNat 0, .ofNat 4, [(37, .ofNat 0, .ofNat 0)])
def hka04_631 : ai_C := .inl (.int, [(1, hka04_613), (60, hka04_80), (17, hka04_81), (1, hka04_614), (1, hka04_615), (1, hka04_616), (1, hka04_617), (5, hka04_86), (1, hka04_618), (8, hka04_88), (1, hka04_619), (60, hka04_80), (17, hka04_81), (1, hka04_620), (1, hka04_621), (1, hka04_622), (1, hka04_623), (5, hka04_86), (1, hka04_624), (8, hka04_88), (1, hka04_625), (60, hka04_80), (17, hka04_81), (1, hka04_626), (1, hka04_627), (1, hka04_628), (1, hka04_629), (5, hka04_86), (1, hka04_630), (8, hka04_88)])
def hka04_632 : Bool × Option ai_C := (false, some hka04_631)
def hka04_633 : ai_W := [hka04_5, hka04_5, hka04_5, hka04_5, hka04_5, hka04_5, hka04_5, hka04_5, hka04_5, hka04_5, hka04_5, hka04_5, hka04_5, hka04_5, hka04_5, hka04_5, hka04_5, hka04_5, hka04_5, hka04_5, hka04_5, hka04_5, hka04_5, hka04_5, hka04_5, hka04_5, hka04_5, hka04_5, hka04_5, hka04_5, hka04_5, hka04_5, hka04_5, hka04_5, hka04_5, hka04_5, hka04_5, hka04_5, hka04_5, hka04_5, hka04_5, hka04_5, hka04_5, hka04_5, hka04_5, hka04_5, hka04_5, hka04_5, hka04_5, hka04_5, hka04_5, hka04_5, hka04_5, hka04_5, hka04_5, hka04_5, hka04_5, hka04_5, hka04_5, hka04_612, hka04_632, hka04_5, hka04_5, hka04_5, hka04_5, hka04_5, hka04_5, hka04_5, hka04_5, hka04_5, hka04_5, hka04_5, hka04_5, hka04_5, hka04_5, hka04_5]
def hka04_634 : ai_E := [hka04_473, hka04_13, hka04_7, hka04_8, hka04_9, hka04_10, hka04_11, hka04_12, hka04_10, hka04_13, hka04_14, hka04_14, hka04_14, hka04_15, hka04_12, hka04_16, hka04_14, hka04_17, hka04_12, hka04_11, hka04_18, hka04_19, hka04_20, hka04_21, hka04_22, hka04_11, hka04_18, hka04_19, hka04_20, hka04_21, hka04_22, hka04_11, hka04_18, hka04_19, hka04_20, hka04_21, hka04_22, hka04_11]
/-- NeverAgainModel.write -/
def ka_369 : ai_K := (26, 2, (hka04_580, [hka04_0, hka04_305, hka04_553, hka04_24], [], hka04_633), [.inl 1, .inl 2, .inr (59, 2), .inr (59, 3), .inr (59, 6), .inr (59, 8), .inr (59, 9), .inr (59, 11), .inr (59, 12), .inr (59, 13), .inr (59, 15), .inr (59, 16), .inr (59, 17), .inr (59, 18), .inr (59, 19), .inr (59, 20), .inr (59, 21), .inr (59, 23), .inr (59, 26), .inr (59, 33), .inr (60, 0), .inr (60, 78), .inr (60, 79), .inr (60, 80), .inr (60, 81), .inr (60, 87), .inr (60, 96), .inr (60, 174), .inr (60, 175), .inr (60, 176), .inr (60, 177), .inr (60, 183), .inr (60, 192), .inr (60, 270), .inr (60, 271), .inr (60, 272), .inr (60, 273), .inr (60, 279)], [(some hka04_341, hka04_580, []), (some hka04_212, hka04_634, [(60, hka04_631)])])
def kan_369 : List ai_Nd := []
set_option maxRecDepth 1000000 in
theorem kak_369 : ai_ck [ka_353, ka_358] [] ka_369 [.inl 100000] kan_369 28 = true := by decide +kernel
theorem kah_369 : ai_holds ka_369 := ai_thm kak_369 (ai_cons kah_353 (ai_cons kah_358 ai_nil))
def hka04_635 : ai_E := [hka04_18, hka04_9, hka04_16, hka04_11, hka04_7, hka04_8, hka04_12, hka04_12, hka04_12, hka04_18, hka04_22, hka04_11]
def hka04_636 : ai_N := (.ofNat 0, .ofNat 60, [(0, .ofNat 0, .ofNat 0)])
def hka04_637 : ai_V := .inl (false, hka04_636)
def hka04_638 : ai_C := .inr (.inr (6, [hka04_314, hka04_315, hka04_316, hka04_317, hka04_318, hka04_319, hka04_321, hka04_323, hka04_325, hka04_327, hka04_329, hka04_637, hka04_333, hka04_335]))
/-- NeverAgain.undo -/
def ka_370 : ai_K := (27, 0, (hka04_303, [hka04_282, hka04_305, hka04_24], [], hka04_338), [.inl 1, .inr (0, 11), .inr (0, 12), .inr (0, 13), .inr (1, 6), .inr (1, 7), .inr (1, 8), .inr (1, 9), .inr (1, 10), .inr (1, 11), .inr (1, 12), .inr (1, 13)], [(some hka04_341, hka04_447, []), (some hka04_331, hka04_635, [(1, hka04_638)]), (some hka04_341, hka04_407, [])])
def kan_370 : List ai_Nd := []
set_option maxRecDepth 1000000 in
theorem kak_370 : ai_ck [] [] ka_370 [.inl 100000] kan_370 16 = true := by decide +kernel
theorem kah_370 : ai_holds ka_370 := ai_thm kak_370 ai_nil
def hka04_639 : ai_E := [hka04_12, hka04_18]
def hka04_640 : ai_N := (.ofNat 0, .ofNat 60, [(1, .ofNat 0, .ofNat 0)])
def hka04_641 : ai_V := .inl (true, hka04_640)
def hka04_642 : ai_E := [hka04_414, hka04_18]
def hka04_643 : ai_E := [hka04_129, hka04_129]
def hka04_644 : Int × Int := (.ofNat 2, .ofNat 60)
def hka04_645 : ai_E := [hka04_416, hka04_644]
def hka04_646 : ai_E := [hka04_125, hka04_129]
def hka04_647 : ai_E := [hka04_406, hka04_18]
/-- NeverAgainModel.in -/
def ka_371 : ai_K := (93, 0, (hka04_639, [hka04_410, hka04_24, hka04_411, hka04_24, hka04_641, hka04_24], [], hka04_6), [.inl 0, .inl 4], [(some hka04_119, hka04_642, []), (some hka04_2, hka04_643, []), (some hka04_2, hka04_645, []), (some hka04_2, hka04_423, []), (some hka04_2, hka04_646, []), (some hka04_119, hka04_647, [])])
def kan_371 : List ai_Nd := []
set_option maxRecDepth 1000000 in
theorem kak_371 : ai_ck [] [] ka_371 [.inl 100000] kan_371 12 = true := by decide +kernel
theorem kah_371 : ai_holds ka_371 := ai_thm kak_371 ai_nil
def hka04_648 : ai_N := (.ofNat 1, .ofNat 60, [(19, .ofNat 0, .ofNat 0)])
def hka04_649 : ai_V := .inl (false, hka04_648)
def hka04_650 : ai_E := [hka04_125, hka04_7, hka04_8, hka04_9, hka04_10, hka04_11, hka04_12, hka04_10, hka04_13, hka04_14, hka04_14, hka04_14, hka04_15, hka04_12, hka04_16, hka04_14, hka04_17, hka04_12, hka04_11, hka04_129, hka04_19, hka04_20, hka04_21, hka04_22, hka04_11, hka04_18, hka04_19, hka04_20, hka04_21, hka04_22, hka04_11, hka04_18, hka04_19, hka04_20, hka04_21, hka04_22, hka04_11]
def hka04_651 : ai_C := .inl (.int, [(1, hka04_513), (60, hka04_80), (17, hka04_81), (1, hka04_376), (1, hka04_377), (1, hka04_378), (1, hka04_379), (5, hka04_86), (1, hka04_380), (8, hka04_88), (1, hka04_381), (60, hka04_80), (17, hka04_81), (1, hka04_382), (1, hka04_383), (1, hka04_384), (1, hka04_385), (5, hka04_86), (1, hka04_386), (8, hka04_88), (1, hka04_387), (60, hka04_80), (17, hka04_81), (1, hka04_388), (1, hka04_389), (1, hka04_390), (1, hka04_391), (5, hka04_86), (1, hka04_392), (8, hka04_88)])
def hka04_652 : ai_N := (.ofNat 0, .ofNat 0, [(19, .ofNat 0, .ofNat 0)])
def hka04_653 : ai_V := .inl (false, hka04_652)
def hka04_654 : ai_E := [hka04_125, hka04_7, hka04_8, hka04_9, hka04_10, hka04_11, hka04_12, hka04_10, hka04_13, hka04_14, hka04_14, hka04_14, hka04_15, hka04_12, hka04_16, hka04_14, hka04_17, hka04_12, hka04_11, hka04_125, hka04_19, hka04_20, hka04_21, hka04_22, hka04_11, hka04_18, hka04_19, hka04_20, hka04_21, hka04_22, hka04_11, hka04_18, hka04_19, hka04_20, hka04_21, hka04_22, hka04_11]
def hka04_655 : ai_N := (.ofNat 2, .ofNat 60, [(19, .ofNat 0, .ofNat 0)])
def hka04_656 : ai_V := .inl (false, hka04_655)
def hka04_657 : ai_E := [hka04_416, hka04_7, hka04_8, hka04_9, hka04_10, hka04_11, hka04_12, hka04_10, hka04_13, hka04_14, hka04_14, hka04_14, hka04_15, hka04_12, hka04_16, hka04_14, hka04_17, hka04_12, hka04_11, hka04_644, hka04_19, hka04_20, hka04_21, hka04_22, hka04_11, hka04_18, hka04_19, hka04_20, hka04_21, hka04_22, hka04_11, hka04_18, hka04_19, hka04_20, hka04_21, hka04_22, hka04_11]
def hka04_658 : ai_N := (.ofNat 1, .ofNat 59, [(0, .ofNat 0, .ofNat 0)])
def hka04_659 : ai_C := .inl (.int, [(1, hka04_658), (60, hka04_80), (17, hka04_81), (1, hka04_376), (1, hka04_377), (1, hka04_378), (1, hka04_379), (5, hka04_86), (1, hka04_380), (8, hka04_88), (1, hka04_381), (60, hka04_80), (17, hka04_81), (1, hka04_382), (1, hka04_383), (1, hka04_384), (1, hka04_385), (5, hka04_86), (1, hka04_386), (8, hka04_88), (1, hka04_387), (60, hka04_80), (17, hka04_81), (1, hka04_388), (1, hka04_389), (1, hka04_390), (1, hka04_391), (5, hka04_86), (1, hka04_392), (8, hka04_88)])
def hka04_660 : ai_E := [hka04_129, hka04_7, hka04_8, hka04_9, hka04_10, hka04_11, hka04_12, hka04_10, hka04_13, hka04_14, hka04_14, hka04_14, hka04_15, hka04_12, hka04_16, hka04_14, hka04_17, hka04_12, hka04_11, hka04_129, hka04_19, hka04_20, hka04_21, hka04_22, hka04_11, hka04_18, hka04_19, hka04_20, hka04_21, hka04_22, hka04_11, hka04_18, hka04_19, hka04_20, hka04_21, hka04_22, hka04_11]
def hka04_661 : ai_N := (.ofNat 1, .ofNat 60, [(0, .ofNat 0, .ofNat 0)])
def hka04_662 : ai_C := .inl (.int, [(1, hka04_661), (60, hka04_80), (17, hka04_81), (1, hka04_376), (1, hka04_377), (1, hka04_378), (1, hka04_379), (5, hka04_86), (1, hka04_380), (8, hka04_88), (1, hka04_381), (60, hka04_80), (17, hka04_81), (1, hka04_382), (1, hka04_383), (1, hka04_384), (1, hka04_385), (5, hka04_86), (1, hka04_386), (8, hka04_88), (1, hka04_387), (60, hka04_80), (17, hka04_81), (1, hka04_388), (1, hka04_389), (1, hka04_390), (1, hka04_391), (5, hka04_86), (1, hka04_392), (8, hka04_88)])
def hka04_663 : ai_E := [hka04_414, hka04_7, hka04_8, hka04_9, hka04_10, hka04_11, hka04_12, hka04_10, hka04_13, hka04_14, hka04_14, hka04_14, hka04_15, hka04_12, hka04_16, hka04_14, hka04_17, hka04_12, hka04_11, hka04_18, hka04_19, hka04_20, hka04_21, hka04_22, hka04_11, hka04_18, hka04_19, hka04_20, hka04_21, hka04_22, hka04_11, hka04_18, hka04_19, hka04_20, hka04_21, hka04_22, hka04_11]
/-- NeverAgainModel.undo -/
def ka_372 : ai_K := (28, 1, (hka04_342, [hka04_0, hka04_305, hka04_24], [], hka04_395), [.inl 1, .inr (59, 2), .inr (59, 3), .inr (59, 6), .inr (59, 8), .inr (59, 9), .inr (59, 11), .inr (59, 12), .inr (59, 13), .inr (59, 15), .inr (59, 16), .inr (59, 17), .inr (59, 18), .inr (59, 19), .inr (59, 20), .inr (59, 21), .inr (59, 23), .inr (59, 26), .inr (59, 33), .inr (60, 0), .inr (60, 78), .inr (60, 79), .inr (60, 80), .inr (60, 81), .inr (60, 87), .inr (60, 96), .inr (60, 174), .inr (60, 175), .inr (60, 176), .inr (60, 177), .inr (60, 183), .inr (60, 192), .inr (60, 270), .inr (60, 271), .inr (60, 272), .inr (60, 273), .inr (60, 279)], [(some hka04_341, hka04_510, []), (some hka04_649, hka04_650, [(60, hka04_651)]), (some hka04_653, hka04_654, [(60, hka04_651)]), (some hka04_656, hka04_657, [(60, hka04_659)]), (some hka04_649, hka04_660, [(60, hka04_662)]), (some hka04_341, hka04_663, [])])
def kan_372 : List ai_Nd := []
set_option maxRecDepth 1000000 in
theorem kak_372 : ai_ck [ka_371] [] ka_372 [.inl 100000] kan_372 23 = true := by decide +kernel
theorem kah_372 : ai_holds ka_372 := ai_thm kak_372 (ai_cons kah_371 ai_nil)
def hka04_664 : ai_V := .inr (some (.ref 20))
def hka04_665 : ai_N := (.negSucc 0, .ofNat 127, [])
def hka04_666 : ai_C := .inl (.int, [(17, hka04_665)])
def hka04_667 : Bool × Option ai_C := (false, some hka04_666)
def hka04_668 : ai_W := [hka04_5, hka04_5, hka04_5, hka04_5, hka04_5, hka04_5, hka04_5, hka04_5, hka04_5, hka04_5, hka04_5, hka04_5, hka04_5, hka04_5, hka04_5, hka04_5, hka04_5, hka04_5, hka04_5, hka04_5, hka04_667, hka04_5, hka04_5, hka04_5, hka04_5, hka04_5, hka04_5, hka04_5, hka04_5, hka04_5, hka04_5, hka04_5, hka04_5, hka04_5, hka04_5, hka04_5, hka04_5, hka04_5, hka04_5, hka04_5, hka04_5, hka04_5, hka04_5, hka04_5, hka04_5, hka04_5, hka04_5, hka04_5, hka04_5, hka04_5, hka04_5, hka04_5, hka04_5, hka04_5, hka04_5, hka04_5, hka04_5, hka04_5, hka04_5, hka04_5, hka04_5, hka04_5, hka04_5, hka04_5, hka04_5, hka04_5, hka04_5, hka04_5, hka04_5, hka04_5, hka04_5, hka04_5, hka04_5, hka04_5, hka04_5, hka04_5]
/-- java/util/Arrays.fill -/
def ka_373 : ai_K := (162, 0, ([], [hka04_664, hka04_341, hka04_24, hka04_24], [], hka04_668), [], [(none, [], [(20, hka04_666)])])
def hka04_669 : Int × Int := (.ofNat 0, .ofNat 17)
def hka04_670 : ai_N := (.ofNat 0, .ofNat 17, [(0, .ofNat 0, .ofNat 0)])
def hka04_671 : ai_V := .inl (false, hka04_670)
def hka04_672 : ai_N := (.ofNat 17, .ofNat 17, [])
def hka04_673 : ai_V := .inl (false, hka04_672)
def hka04_674 : Bool × Option ai_C := (true, some hka04_666)
def hka04_675 : ai_W := [hka04_5, hka04_5, hka04_5, hka04_5, hka04_5, hka04_5, hka04_5, hka04_5, hka04_5, hka04_5, hka04_5, hka04_5, hka04_5, hka04_5, hka04_5, hka04_5, hka04_5, hka04_5, hka04_5, hka04_5, hka04_674, hka04_5, hka04_5, hka04_5, hka04_5, hka04_5, hka04_5, hka04_5, hka04_5, hka04_5, hka04_5, hka04_5, hka04_5, hka04_5, hka04_5, hka04_5, hka04_5, hka04_5, hka04_5, hka04_5, hka04_5, hka04_5, hka04_5, hka04_5, hka04_5, hka04_5, hka04_5, hka04_5, hka04_5, hka04_5, hka04_5, hka04_5, hka04_5, hka04_5, hka04_5, hka04_5, hka04_5, hka04_5, hka04_5, hka04_5, hka04_5, hka04_5, hka04_5, hka04_5, hka04_5, hka04_5, hka04_5, hka04_5, hka04_5, hka04_5, hka04_5, hka04_5, hka04_5, hka04_5, hka04_5, hka04_5]
def kan_373 : List ai_Nd := [(5, ([hka04_669], [hka04_664, hka04_341, hka04_671, hka04_673], [], hka04_675), [.inl 2], [.inl 99994, .inl 1, .inr (true, .ofNat 17, 0), .inl 100000])]
set_option maxRecDepth 1000000 in
theorem kak_373 : ai_ck [] [] ka_373 [.inl 100000, .inl 0, .inl 0, .inl 0] kan_373 11 = true := by decide +kernel
theorem kah_373 : ai_holds ka_373 := ai_thm kak_373 ai_nil
def hka04_676 : Int × Int := (.ofNat 0, .ofNat 128)
def hka04_677 : ai_E := [hka04_12, hka04_676]
def hka04_678 : ai_V := .inr (some (.ref 18))
def hka04_679 : ai_V := .inr (some (.ref 19))
def hka04_680 : ai_N := (.ofNat 0, .ofNat 128, [(1, .ofNat 0, .ofNat 0)])
def hka04_681 : ai_V := .inl (false, hka04_680)
def hka04_682 : ai_C := .inr (.inr (0, [hka04_678, hka04_679, hka04_664, hka04_292, hka04_681]))
def hka04_683 : Bool × Option ai_C := (false, some hka04_682)
def hka04_684 : ai_C := .inl (.int, [(128, hka04_80)])
def hka04_685 : Bool × Option ai_C := (false, some hka04_684)
def hka04_686 : ai_C := .inl (.int, [(128, hka04_665)])
def hka04_687 : Bool × Option ai_C := (false, some hka04_686)
def hka04_688 : ai_W := [hka04_5, hka04_5, hka04_5, hka04_5, hka04_5, hka04_5, hka04_5, hka04_5, hka04_5, hka04_5, hka04_5, hka04_5, hka04_5, hka04_5, hka04_5, hka04_5, hka04_5, hka04_683, hka04_685, hka04_687, hka04_667, hka04_5, hka04_5, hka04_5, hka04_5, hka04_5, hka04_5, hka04_5, hka04_5, hka04_5, hka04_5, hka04_5, hka04_5, hka04_5, hka04_5, hka04_5, hka04_5, hka04_5, hka04_5, hka04_5, hka04_5, hka04_5, hka04_5, hka04_5, hka04_5, hka04_5, hka04_5, hka04_5, hka04_5, hka04_5, hka04_5, hka04_5, hka04_5, hka04_5, hka04_5, hka04_5, hka04_5, hka04_5, hka04_5, hka04_5, hka04_5, hka04_5, hka04_5, hka04_5, hka04_5, hka04_5, hka04_5, hka04_5, hka04_5, hka04_5, hka04_5, hka04_5, hka04_5, hka04_5, hka04_5, hka04_5]
def hka04_689 : Int × Int := (.ofNat 17, .ofNat 2147483647)
def hka04_690 : Int × Int := (.ofNat 0, .ofNat 127)
def hka04_691 : ai_E := [hka04_689, hka04_690]
def hka04_692 : ai_E := [hka04_10, hka04_690]
def hka04_693 : ai_N := (.ofNat 1, .ofNat 128, [(1, .ofNat 1, .ofNat 1)])
def hka04_694 : ai_V := .inl (false, hka04_693)
def hka04_695 : ai_C := .inr (.inr (0, [hka04_678, hka04_679, hka04_664, hka04_292, hka04_694]))
def hka04_696 : ai_E := [hka04_406, hka04_690]
def hka04_697 : Int × Int := (.ofNat 128, .ofNat 128)
def hka04_698 : ai_E := [hka04_12, hka04_697]
/-- NeverAgain$Almanac.pass -/
def ka_374 : ai_K := (115, 0, (hka04_677, [hka04_284, hka04_305], [], hka04_688), [.inl 1, .inr (17, 4)], [(none, hka04_691, []), (none, hka04_692, [(17, hka04_695), (18, hka04_684), (19, hka04_686), (20, hka04_666)]), (none, hka04_696, []), (none, hka04_698, [])])
def kan_374 : List ai_Nd := []
set_option maxRecDepth 1000000 in
theorem kak_374 : ai_ck [] [] ka_374 [.inl 100000] kan_374 38 = true := by decide +kernel
theorem kah_374 : ai_holds ka_374 := ai_thm kak_374 ai_nil
def hka04_699 : ai_N := (.ofNat 0, .ofNat 128, [(0, .ofNat 0, .ofNat 0)])
def hka04_700 : ai_V := .inl (false, hka04_699)
def hka04_701 : ai_C := .inr (.inr (0, [hka04_678, hka04_679, hka04_664, hka04_292, hka04_700]))
def hka04_702 : Bool × Option ai_C := (false, some hka04_701)
def hka04_703 : ai_W := [hka04_5, hka04_5, hka04_5, hka04_5, hka04_5, hka04_5, hka04_5, hka04_5, hka04_5, hka04_5, hka04_5, hka04_5, hka04_5, hka04_5, hka04_5, hka04_5, hka04_5, hka04_702, hka04_685, hka04_687, hka04_667, hka04_5, hka04_5, hka04_5, hka04_5, hka04_5, hka04_5, hka04_5, hka04_5, hka04_5, hka04_5, hka04_5, hka04_5, hka04_5, hka04_5, hka04_5, hka04_5, hka04_5, hka04_5, hka04_5, hka04_5, hka04_5, hka04_5, hka04_5, hka04_5, hka04_5, hka04_5, hka04_5, hka04_5, hka04_5, hka04_5, hka04_5, hka04_5, hka04_5, hka04_5, hka04_5, hka04_5, hka04_5, hka04_5, hka04_5, hka04_5, hka04_5, hka04_5, hka04_5, hka04_5, hka04_5, hka04_5, hka04_5, hka04_5, hka04_5, hka04_5, hka04_5, hka04_5, hka04_5, hka04_5, hka04_5]
def hka04_704 : ai_N := (.ofNat 1, .ofNat 128, [(0, .ofNat 1, .ofNat 1)])
def hka04_705 : ai_V := .inl (false, hka04_704)
def hka04_706 : ai_C := .inr (.inr (0, [hka04_678, hka04_679, hka04_664, hka04_292, hka04_705]))
/-- NeverAgain$Almanac.pass -/
def ka_375 : ai_K := (115, 0, ([hka04_676], [hka04_284, hka04_119], [], hka04_703), [.inr (17, 4)], [(none, [hka04_690], [(17, hka04_706), (18, hka04_684), (19, hka04_686), (20, hka04_666)]), (none, [hka04_697], [])])
def kan_375 : List ai_Nd := []
set_option maxRecDepth 1000000 in
theorem kak_375 : ai_ck [] [] ka_375 [.inl 100000] kan_375 38 = true := by decide +kernel
theorem kah_375 : ai_holds ka_375 := ai_thm kak_375 ai_nil
def hka04_707 : ai_E := [hka04_7, hka04_8, hka04_12, hka04_12, hka04_12, hka04_18, hka04_22, hka04_11, hka04_676]
def hka04_708 : ai_N := (.negSucc 2147483647, .ofNat 2147483647, [(2, .ofNat 0, .ofNat 0)])
def hka04_709 : ai_V := .inl (false, hka04_708)
def hka04_710 : ai_N := (.ofNat 0, .ofNat 60, [(5, .ofNat 0, .ofNat 0)])
def hka04_711 : ai_V := .inl (false, hka04_710)
def hka04_712 : ai_N := (.ofNat 0, .ofNat 5, [(6, .ofNat 0, .ofNat 0)])
def hka04_713 : ai_V := .inl (false, hka04_712)
def hka04_714 : ai_N := (.ofNat 0, .ofNat 4, [(7, .ofNat 0, .ofNat 0)])
def hka04_715 : ai_V := .inl (false, hka04_714)
def hka04_716 : ai_C := .inr (.inr (6, [hka04_314, hka04_315, hka04_316, hka04_317, hka04_318, hka04_319, hka04_28, hka04_30, hka04_709, hka04_429, hka04_431, hka04_711, hka04_713, hka04_715]))
def hka04_717 : Bool × Option ai_C := (false, some hka04_716)
def hka04_718 : ai_N := (.ofNat 0, .ofNat 128, [(8, .ofNat 0, .ofNat 0)])
def hka04_719 : ai_V := .inl (false, hka04_718)
def hka04_720 : ai_C := .inr (.inr (0, [hka04_678, hka04_679, hka04_664, hka04_24, hka04_719]))
def hka04_721 : Bool × Option ai_C := (false, some hka04_720)
def hka04_722 : ai_W := [hka04_5, hka04_717, hka04_5, hka04_5, hka04_400, hka04_5, hka04_5, hka04_5, hka04_5, hka04_5, hka04_5, hka04_5, hka04_5, hka04_5, hka04_5, hka04_5, hka04_5, hka04_721, hka04_685, hka04_687, hka04_667, hka04_5, hka04_5, hka04_5, hka04_5, hka04_5, hka04_5, hka04_5, hka04_5, hka04_5, hka04_5, hka04_5, hka04_5, hka04_5, hka04_5, hka04_5, hka04_5, hka04_5, hka04_5, hka04_5, hka04_5, hka04_5, hka04_5, hka04_5, hka04_5, hka04_5, hka04_5, hka04_5, hka04_5, hka04_5, hka04_5, hka04_5, hka04_5, hka04_5, hka04_5, hka04_5, hka04_5, hka04_5, hka04_5, hka04_5, hka04_5, hka04_5, hka04_5, hka04_5, hka04_5, hka04_5, hka04_5, hka04_5, hka04_5, hka04_5, hka04_5, hka04_5, hka04_5, hka04_5, hka04_5, hka04_5]
def hka04_723 : ai_N := (.ofNat 0, .ofNat 128, [])
def hka04_724 : ai_V := .inl (false, hka04_723)
def hka04_725 : ai_C := .inr (.inr (0, [hka04_678, hka04_679, hka04_664, hka04_292, hka04_724]))
/-- NeverAgain$Almanac.begin -/
def ka_376 : ai_K := (103, 1, (hka04_707, [hka04_284, hka04_292, hka04_119, hka04_24], [], hka04_722), [.inr (1, 6), .inr (1, 7), .inr (1, 8), .inr (1, 9), .inr (1, 10), .inr (1, 11), .inr (1, 12), .inr (1, 13), .inr (17, 4)], [(none, hka04_707, [(17, hka04_725), (18, hka04_684), (19, hka04_686), (20, hka04_666)])])
def hka04_726 : ai_E := [hka04_7, hka04_8, hka04_12, hka04_12, hka04_12, hka04_18, hka04_22, hka04_11, hka04_676, hka04_18]
def hka04_727 : Bool × Option ai_C := (true, some hka04_725)
def hka04_728 : Bool × Option ai_C := (true, some hka04_684)
def hka04_729 : Bool × Option ai_C := (true, some hka04_686)
def hka04_730 : ai_W := [hka04_5, hka04_717, hka04_5, hka04_5, hka04_400, hka04_5, hka04_5, hka04_5, hka04_5, hka04_5, hka04_5, hka04_5, hka04_5, hka04_5, hka04_5, hka04_5, hka04_5, hka04_727, hka04_728, hka04_729, hka04_674, hka04_5, hka04_5, hka04_5, hka04_5, hka04_5, hka04_5, hka04_5, hka04_5, hka04_5, hka04_5, hka04_5, hka04_5, hka04_5, hka04_5, hka04_5, hka04_5, hka04_5, hka04_5, hka04_5, hka04_5, hka04_5, hka04_5, hka04_5, hka04_5, hka04_5, hka04_5, hka04_5, hka04_5, hka04_5, hka04_5, hka04_5, hka04_5, hka04_5, hka04_5, hka04_5, hka04_5, hka04_5, hka04_5, hka04_5, hka04_5, hka04_5, hka04_5, hka04_5, hka04_5, hka04_5, hka04_5, hka04_5, hka04_5, hka04_5, hka04_5, hka04_5, hka04_5, hka04_5, hka04_5, hka04_5]
def kan_376 : List ai_Nd := [(20, (hka04_726, [hka04_284, hka04_292, hka04_119, hka04_331], [], hka04_730), [.inl 3], [.inl 99979, .inl 1, .inr (true, .ofNat 60, 9), .inl 100000])]
set_option maxRecDepth 1000000 in
theorem kak_376 : ai_ck [ka_375, ka_374, ka_373] [] ka_376 [.inl 100000, .inl 0, .inl 0, .inl 0] kan_376 24 = true := by decide +kernel
theorem kah_376 : ai_holds ka_376 := ai_thm kak_376 (ai_cons kah_375 (ai_cons kah_374 (ai_cons kah_373 ai_nil)))
def hka04_731 : ai_E := [hka04_12, hka04_7, hka04_8, hka04_12, hka04_12, hka04_12, hka04_18, hka04_22, hka04_11, hka04_676]
def hka04_732 : ai_N := (.ofNat 0, .ofNat 128, [(9, .ofNat 0, .ofNat 0)])
def hka04_733 : ai_V := .inl (false, hka04_732)
def hka04_734 : ai_C := .inr (.inr (0, [hka04_678, hka04_679, hka04_664, hka04_292, hka04_733]))
def hka04_735 : Bool × Option ai_C := (false, some hka04_734)
def hka04_736 : ai_W := [hka04_5, hka04_439, hka04_5, hka04_5, hka04_5, hka04_5, hka04_5, hka04_5, hka04_5, hka04_5, hka04_5, hka04_5, hka04_5, hka04_5, hka04_5, hka04_5, hka04_5, hka04_735, hka04_5, hka04_5, hka04_667, hka04_5, hka04_5, hka04_5, hka04_5, hka04_5, hka04_5, hka04_5, hka04_5, hka04_5, hka04_5, hka04_5, hka04_5, hka04_5, hka04_5, hka04_5, hka04_5, hka04_5, hka04_5, hka04_5, hka04_5, hka04_5, hka04_5, hka04_5, hka04_5, hka04_5, hka04_5, hka04_5, hka04_5, hka04_5, hka04_5, hka04_5, hka04_5, hka04_5, hka04_5, hka04_5, hka04_5, hka04_5, hka04_5, hka04_5, hka04_5, hka04_5, hka04_5, hka04_5, hka04_5, hka04_5, hka04_5, hka04_5, hka04_5, hka04_5, hka04_5, hka04_5, hka04_5, hka04_5, hka04_5, hka04_5]
/-- NeverAgain$Almanac.bitsByGap -/
def ka_377 : ai_K := (163, 0, (hka04_731, [hka04_284, hka04_305, hka04_24, hka04_24], [], hka04_736), [.inl 1, .inr (1, 6), .inr (1, 7), .inr (1, 8), .inr (1, 9), .inr (1, 10), .inr (1, 11), .inr (1, 12), .inr (1, 13), .inr (17, 4)], [(some hka04_211, hka04_731, [])])
def hka04_737 : Int × Int := (.ofNat 1, .ofNat 17)
def hka04_738 : ai_E := [hka04_12, hka04_7, hka04_8, hka04_12, hka04_12, hka04_12, hka04_18, hka04_22, hka04_11, hka04_676, hka04_737]
def hka04_739 : ai_N := (.ofNat 1, .ofNat 17, [(10, .ofNat 0, .ofNat 0)])
def hka04_740 : ai_V := .inl (false, hka04_739)
def kan_377 : List ai_Nd := [(4, (hka04_738, [hka04_284, hka04_305, hka04_211, hka04_740], [], hka04_736), [.inl 3], [.inl 99995, .inl 1, .inr (true, .ofNat 17, 10), .inl 100000])]
set_option maxRecDepth 1000000 in
theorem kak_377 : ai_ck [] [] ka_377 [.inl 100000, .inl 0, .inl 0, .inl 0] kan_377 38 = true := by decide +kernel
theorem kah_377 : ai_holds ka_377 := ai_thm kak_377 ai_nil
def hka04_741 : ai_C := .inr (.inr (0, [hka04_678, hka04_679, hka04_664, hka04_292, hka04_719]))
def hka04_742 : Bool × Option ai_C := (false, some hka04_741)
def hka04_743 : ai_W := [hka04_5, hka04_717, hka04_5, hka04_5, hka04_5, hka04_5, hka04_5, hka04_5, hka04_5, hka04_5, hka04_5, hka04_5, hka04_5, hka04_5, hka04_5, hka04_5, hka04_5, hka04_742, hka04_685, hka04_5, hka04_667, hka04_5, hka04_5, hka04_5, hka04_5, hka04_5, hka04_5, hka04_5, hka04_5, hka04_5, hka04_5, hka04_5, hka04_5, hka04_5, hka04_5, hka04_5, hka04_5, hka04_5, hka04_5, hka04_5, hka04_5, hka04_5, hka04_5, hka04_5, hka04_5, hka04_5, hka04_5, hka04_5, hka04_5, hka04_5, hka04_5, hka04_5, hka04_5, hka04_5, hka04_5, hka04_5, hka04_5, hka04_5, hka04_5, hka04_5, hka04_5, hka04_5, hka04_5, hka04_5, hka04_5, hka04_5, hka04_5, hka04_5, hka04_5, hka04_5, hka04_5, hka04_5, hka04_5, hka04_5, hka04_5, hka04_5]
def hka04_744 : Int × Int := (.ofNat 1, .ofNat 128)
def hka04_745 : ai_E := [hka04_7, hka04_8, hka04_12, hka04_465, hka04_12, hka04_18, hka04_22, hka04_11, hka04_744]
def hka04_746 : ai_E := [hka04_7, hka04_8, hka04_12, hka04_12, hka04_12, hka04_18, hka04_22, hka04_11, hka04_744]
def hka04_747 : ai_E := [hka04_7, hka04_8, hka04_12, hka04_465, hka04_12, hka04_18, hka04_22, hka04_11, hka04_125]
def hka04_748 : ai_E := [hka04_7, hka04_8, hka04_12, hka04_12, hka04_12, hka04_18, hka04_22, hka04_11, hka04_125]
/-- NeverAgain$Almanac.freeBits -/
def ka_378 : ai_K := (104, 1, (hka04_707, [hka04_284, hka04_24, hka04_24], [], hka04_743), [.inr (1, 6), .inr (1, 7), .inr (1, 8), .inr (1, 9), .inr (1, 10), .inr (1, 11), .inr (1, 12), .inr (1, 13), .inr (17, 4)], [(some hka04_211, hka04_745, []), (some hka04_211, hka04_745, []), (some hka04_211, hka04_746, []), (some hka04_211, hka04_747, []), (some hka04_211, hka04_748, [])])
def kan_378 : List ai_Nd := []
set_option maxRecDepth 1000000 in
theorem kak_378 : ai_ck [ka_377] [] ka_378 [.inl 100000] kan_378 43 = true := by decide +kernel
theorem kah_378 : ai_holds ka_378 := ai_thm kak_378 (ai_cons kah_377 ai_nil)
def hka04_749 : ai_E := [hka04_9, hka04_16, hka04_11, hka04_7, hka04_8, hka04_12, hka04_12, hka04_12, hka04_18, hka04_22, hka04_11, hka04_676]
def hka04_750 : ai_N := (.ofNat 4, .ofNat 16, [(3, .ofNat 0, .ofNat 0)])
def hka04_751 : ai_V := .inl (false, hka04_750)
def hka04_752 : ai_N := (.ofNat 1, .ofNat 4, [(4, .ofNat 0, .ofNat 0)])
def hka04_753 : ai_V := .inl (false, hka04_752)
def hka04_754 : ai_N := (.ofNat 0, .ofNat 60, [(8, .ofNat 0, .ofNat 0)])
def hka04_755 : ai_V := .inl (false, hka04_754)
def hka04_756 : ai_N := (.ofNat 0, .ofNat 5, [(9, .ofNat 0, .ofNat 0)])
def hka04_757 : ai_V := .inl (false, hka04_756)
def hka04_758 : ai_N := (.ofNat 0, .ofNat 4, [(10, .ofNat 0, .ofNat 0)])
def hka04_759 : ai_V := .inl (false, hka04_758)
def hka04_760 : ai_C := .inr (.inr (6, [hka04_314, hka04_315, hka04_316, hka04_317, hka04_318, hka04_319, hka04_751, hka04_753, hka04_42, hka04_325, hka04_327, hka04_755, hka04_757, hka04_759]))
def hka04_761 : Bool × Option ai_C := (false, some hka04_760)
def hka04_762 : ai_N := (.ofNat 0, .ofNat 128, [(11, .ofNat 0, .ofNat 0)])
def hka04_763 : ai_V := .inl (false, hka04_762)
def hka04_764 : ai_C := .inr (.inr (0, [hka04_678, hka04_679, hka04_664, hka04_24, hka04_763]))
def hka04_765 : Bool × Option ai_C := (false, some hka04_764)
def hka04_766 : ai_W := [hka04_301, hka04_761, hka04_5, hka04_5, hka04_400, hka04_5, hka04_5, hka04_5, hka04_5, hka04_5, hka04_5, hka04_5, hka04_5, hka04_5, hka04_5, hka04_5, hka04_5, hka04_765, hka04_685, hka04_687, hka04_667, hka04_5, hka04_5, hka04_5, hka04_5, hka04_5, hka04_5, hka04_5, hka04_5, hka04_5, hka04_5, hka04_5, hka04_5, hka04_5, hka04_5, hka04_5, hka04_5, hka04_5, hka04_5, hka04_5, hka04_5, hka04_5, hka04_5, hka04_5, hka04_5, hka04_5, hka04_5, hka04_5, hka04_5, hka04_5, hka04_5, hka04_5, hka04_5, hka04_5, hka04_5, hka04_5, hka04_5, hka04_5, hka04_5, hka04_5, hka04_5, hka04_5, hka04_5, hka04_5, hka04_5, hka04_5, hka04_5, hka04_5, hka04_5, hka04_5, hka04_5, hka04_5, hka04_5, hka04_5, hka04_5, hka04_5]
def hka04_767 : ai_C := .inr (.inr (0, [hka04_678, hka04_679, hka04_664, hka04_292, hka04_119]))
def hka04_768 : ai_E := [hka04_9, hka04_16, hka04_11, hka04_7, hka04_8, hka04_12, hka04_465, hka04_12, hka04_18, hka04_22, hka04_11, hka04_676]
def hka04_769 : ai_N := (.ofNat 1, .ofNat 128, [])
def hka04_770 : ai_V := .inl (false, hka04_769)
def hka04_771 : ai_C := .inr (.inr (0, [hka04_678, hka04_679, hka04_664, hka04_292, hka04_770]))
/-- NeverAgain.may -/
def ka_379 : ai_K := (29, 2, (hka04_749, [hka04_282], [], hka04_766), [.inr (0, 11), .inr (0, 12), .inr (0, 13), .inr (1, 6), .inr (1, 7), .inr (1, 8), .inr (1, 9), .inr (1, 10), .inr (1, 11), .inr (1, 12), .inr (1, 13), .inr (17, 4)], [(some hka04_211, hka04_749, [(17, hka04_767), (18, hka04_684), (19, hka04_686), (20, hka04_666)]), (some hka04_211, hka04_768, [(17, hka04_767), (18, hka04_684), (19, hka04_686), (20, hka04_666)]), (some hka04_211, hka04_749, [(17, hka04_771), (18, hka04_684), (19, hka04_686), (20, hka04_666)]), (some hka04_211, hka04_768, [(17, hka04_771), (18, hka04_684), (19, hka04_686), (20, hka04_666)]), (some hka04_211, hka04_768, [(17, hka04_771), (18, hka04_684), (19, hka04_686), (20, hka04_666)])])
def kan_379 : List ai_Nd := []
set_option maxRecDepth 1000000 in
theorem kak_379 : ai_ck [ka_376, ka_378] [] ka_379 [.inl 100000] kan_379 11 = true := by decide +kernel
theorem kah_379 : ai_holds ka_379 := ai_thm kak_379 (ai_cons kah_376 (ai_cons kah_378 ai_nil))
def hka04_772 : ai_E := [hka04_7, hka04_8, hka04_9, hka04_10, hka04_11, hka04_12, hka04_10, hka04_13, hka04_14, hka04_14, hka04_14, hka04_15, hka04_12, hka04_16, hka04_14, hka04_17, hka04_12, hka04_11, hka04_18, hka04_19, hka04_20, hka04_21, hka04_22, hka04_11, hka04_18, hka04_19, hka04_20, hka04_21, hka04_22, hka04_11, hka04_18, hka04_19, hka04_20, hka04_21, hka04_22, hka04_11]
def hka04_773 : ai_N := (.negSucc 3, .ofNat 16, [])
def hka04_774 : ai_C := .inl (.int, [(130, hka04_773)])
def hka04_775 : Bool × Option ai_C := (false, some hka04_774)
def hka04_776 : ai_W := [hka04_5, hka04_5, hka04_5, hka04_5, hka04_5, hka04_5, hka04_5, hka04_5, hka04_5, hka04_5, hka04_5, hka04_5, hka04_5, hka04_5, hka04_5, hka04_5, hka04_5, hka04_5, hka04_5, hka04_5, hka04_5, hka04_5, hka04_5, hka04_5, hka04_5, hka04_5, hka04_5, hka04_5, hka04_5, hka04_5, hka04_5, hka04_5, hka04_5, hka04_5, hka04_5, hka04_5, hka04_5, hka04_5, hka04_5, hka04_5, hka04_5, hka04_5, hka04_5, hka04_5, hka04_5, hka04_5, hka04_5, hka04_5, hka04_5, hka04_5, hka04_5, hka04_5, hka04_5, hka04_5, hka04_5, hka04_5, hka04_5, hka04_5, hka04_5, hka04_78, hka04_102, hka04_5, hka04_5, hka04_5, hka04_5, hka04_5, hka04_5, hka04_775, hka04_5, hka04_5, hka04_5, hka04_5, hka04_5, hka04_5, hka04_5, hka04_5]
def hka04_777 : ai_V := .inl (false, hka04_79)
def hka04_778 : ai_C := .inr (.inr (8, [hka04_25, hka04_26, hka04_28, hka04_30, hka04_31, hka04_32, hka04_34, hka04_35, hka04_37, hka04_39, hka04_40, hka04_42, hka04_44, hka04_46, hka04_47, hka04_49, hka04_51, hka04_53, hka04_55, hka04_57, hka04_59, hka04_61, hka04_62, hka04_777, hka04_65, hka04_66, hka04_68, hka04_69, hka04_70, hka04_71, hka04_72, hka04_73, hka04_74, hka04_76]))
/-- NeverAgainModel.rowNow -/
def ka_380 : ai_K := (105, 0, (hka04_772, [hka04_0, hka04_24], [], hka04_776), [.inr (59, 2), .inr (59, 3), .inr (59, 6), .inr (59, 8), .inr (59, 9), .inr (59, 11), .inr (59, 12), .inr (59, 13), .inr (59, 15), .inr (59, 16), .inr (59, 17), .inr (59, 18), .inr (59, 19), .inr (59, 20), .inr (59, 21), .inr (59, 23), .inr (59, 26), .inr (59, 33), .inr (60, 0), .inr (60, 78), .inr (60, 79), .inr (60, 80), .inr (60, 81), .inr (60, 87), .inr (60, 96), .inr (60, 174), .inr (60, 175), .inr (60, 176), .inr (60, 177), .inr (60, 183), .inr (60, 192), .inr (60, 270), .inr (60, 271), .inr (60, 272), .inr (60, 273), .inr (60, 279)], [(none, hka04_772, [(59, hka04_778), (67, hka04_774)])])
def hka04_779 : ai_E := [hka04_7, hka04_8, hka04_9, hka04_10, hka04_11, hka04_12, hka04_10, hka04_13, hka04_14, hka04_14, hka04_14, hka04_15, hka04_12, hka04_16, hka04_14, hka04_17, hka04_12, hka04_11, hka04_18, hka04_19, hka04_20, hka04_21, hka04_22, hka04_11, hka04_18, hka04_19, hka04_20, hka04_21, hka04_22, hka04_11, hka04_18, hka04_19, hka04_20, hka04_21, hka04_22, hka04_11, hka04_18]
def hka04_780 : ai_V := .inl (false, hka04_109)
def hka04_781 : Bool × Option ai_C := (true, some hka04_778)
def hka04_782 : Bool × Option ai_C := (true, some hka04_774)
def hka04_783 : ai_W := [hka04_5, hka04_5, hka04_5, hka04_5, hka04_5, hka04_5, hka04_5, hka04_5, hka04_5, hka04_5, hka04_5, hka04_5, hka04_5, hka04_5, hka04_5, hka04_5, hka04_5, hka04_5, hka04_5, hka04_5, hka04_5, hka04_5, hka04_5, hka04_5, hka04_5, hka04_5, hka04_5, hka04_5, hka04_5, hka04_5, hka04_5, hka04_5, hka04_5, hka04_5, hka04_5, hka04_5, hka04_5, hka04_5, hka04_5, hka04_5, hka04_5, hka04_5, hka04_5, hka04_5, hka04_5, hka04_5, hka04_5, hka04_5, hka04_5, hka04_5, hka04_5, hka04_5, hka04_5, hka04_5, hka04_5, hka04_5, hka04_5, hka04_5, hka04_5, hka04_781, hka04_102, hka04_5, hka04_5, hka04_5, hka04_5, hka04_5, hka04_5, hka04_782, hka04_5, hka04_5, hka04_5, hka04_5, hka04_5, hka04_5, hka04_5, hka04_5]
def kan_380 : List ai_Nd := [(12, (hka04_779, [hka04_0, hka04_780], [], hka04_783), [.inl 1], [.inl 99987, .inl 1, .inr (true, .ofNat 60, 36), .inl 100000])]
set_option maxRecDepth 1000000 in
theorem kak_380 : ai_ck [] [] ka_380 [.inl 100000, .inl 0, .inl 0, .inl 0] kan_380 18 = true := by decide +kernel
theorem kah_380 : ai_holds ka_380 := ai_thm kak_380 ai_nil
def hka04_784 : ai_E := [hka04_473, hka04_7, hka04_8, hka04_9, hka04_10, hka04_11, hka04_12, hka04_10, hka04_13, hka04_14, hka04_14, hka04_14, hka04_15, hka04_12, hka04_16, hka04_14, hka04_17, hka04_12, hka04_11, hka04_18, hka04_19, hka04_20, hka04_21, hka04_22, hka04_11, hka04_18, hka04_19, hka04_20, hka04_21, hka04_22, hka04_11, hka04_18, hka04_19, hka04_20, hka04_21, hka04_22, hka04_11]
def hka04_785 : ai_N := (.ofNat 1, .ofNat 16, [(0, .ofNat 0, .ofNat 0)])
def hka04_786 : ai_V := .inl (false, hka04_785)
def hka04_787 : ai_W := [hka04_5, hka04_5, hka04_5, hka04_5, hka04_5, hka04_5, hka04_5, hka04_5, hka04_5, hka04_5, hka04_5, hka04_5, hka04_5, hka04_5, hka04_5, hka04_5, hka04_5, hka04_5, hka04_5, hka04_5, hka04_5, hka04_5, hka04_5, hka04_5, hka04_5, hka04_5, hka04_5, hka04_5, hka04_5, hka04_5, hka04_5, hka04_5, hka04_5, hka04_5, hka04_5, hka04_5, hka04_5, hka04_5, hka04_5, hka04_5, hka04_5, hka04_5, hka04_5, hka04_5, hka04_5, hka04_5, hka04_5, hka04_5, hka04_5, hka04_5, hka04_5, hka04_5, hka04_5, hka04_5, hka04_5, hka04_5, hka04_5, hka04_5, hka04_5, hka04_374, hka04_394, hka04_5, hka04_5, hka04_5, hka04_5, hka04_5, hka04_5, hka04_775, hka04_5, hka04_5, hka04_5, hka04_5, hka04_5, hka04_5, hka04_5, hka04_5]
/-- NeverAgainModel.mayBe -/
def ka_381 : ai_K := (113, 0, (hka04_784, [hka04_0, hka04_786, hka04_24, hka04_24, hka04_24], [], hka04_787), [.inl 1, .inr (59, 2), .inr (59, 3), .inr (59, 6), .inr (59, 8), .inr (59, 9), .inr (59, 11), .inr (59, 12), .inr (59, 13), .inr (59, 15), .inr (59, 16), .inr (59, 17), .inr (59, 18), .inr (59, 19), .inr (59, 20), .inr (59, 21), .inr (59, 23), .inr (59, 26), .inr (59, 33), .inr (60, 0), .inr (60, 78), .inr (60, 79), .inr (60, 80), .inr (60, 81), .inr (60, 87), .inr (60, 96), .inr (60, 174), .inr (60, 175), .inr (60, 176), .inr (60, 177), .inr (60, 183), .inr (60, 192), .inr (60, 270), .inr (60, 271), .inr (60, 272), .inr (60, 273), .inr (60, 279)], [(some hka04_2, hka04_784, []), (some hka04_119, hka04_784, [])])
def hka04_788 : ai_E := [hka04_473, hka04_7, hka04_8, hka04_9, hka04_10, hka04_11, hka04_12, hka04_10, hka04_13, hka04_14, hka04_14, hka04_14, hka04_15, hka04_12, hka04_16, hka04_14, hka04_17, hka04_12, hka04_11, hka04_18, hka04_19, hka04_20, hka04_21, hka04_22, hka04_11, hka04_18, hka04_19, hka04_20, hka04_21, hka04_22, hka04_11, hka04_18, hka04_19, hka04_20, hka04_21, hka04_22, hka04_11, hka04_17]
def hka04_789 : ai_N := (.negSucc 18, .ofNat 130, [])
def hka04_790 : ai_V := .inl (false, hka04_789)
def hka04_791 : ai_V := .inl (false, hka04_103)
def hka04_792 : ai_N := (.ofNat 0, .ofNat 130, [(37, .ofNat 0, .ofNat 0)])
def hka04_793 : ai_V := .inl (false, hka04_792)
def kan_381 : List ai_Nd := [(42, (hka04_788, [hka04_0, hka04_786, hka04_790, hka04_791, hka04_793], [], hka04_787), [.inl 4], [.inl 99957, .inl 1, .inr (true, .ofNat 130, 37), .inl 100000])]
set_option maxRecDepth 1000000 in
theorem kak_381 : ai_ck [] [] ka_381 [.inl 100000, .inl 0, .inl 0, .inl 0] kan_381 40 = true := by decide +kernel
theorem kah_381 : ai_holds ka_381 := ai_thm kak_381 ai_nil
/-- NeverAgainModel.flag -/
def ka_382 : ai_K := (135, 0, ([], [hka04_119], [], hka04_6), [], [(some hka04_119, [], [])])
def kan_382 : List ai_Nd := []
set_option maxRecDepth 1000000 in
theorem kak_382 : ai_ck [] [] ka_382 [.inl 100000] kan_382 5 = true := by decide +kernel
theorem kah_382 : ai_holds ka_382 := ai_thm kak_382 ai_nil
/-- NeverAgainModel.flag -/
def ka_383 : ai_K := (135, 0, ([], [hka04_2], [], hka04_6), [], [(some hka04_2, [], [])])
def kan_383 : List ai_Nd := []
set_option maxRecDepth 1000000 in
theorem kak_383 : ai_ck [] [] ka_383 [.inl 100000] kan_383 6 = true := by decide +kernel
theorem kah_383 : ai_holds ka_383 := ai_thm kak_383 ai_nil
/-- NeverAgainModel.mayNow -/
def ka_384 : ai_K := (106, 1, (hka04_772, [hka04_0, hka04_24, hka04_24], [], hka04_776), [.inr (59, 2), .inr (59, 3), .inr (59, 6), .inr (59, 8), .inr (59, 9), .inr (59, 11), .inr (59, 12), .inr (59, 13), .inr (59, 15), .inr (59, 16), .inr (59, 17), .inr (59, 18), .inr (59, 19), .inr (59, 20), .inr (59, 21), .inr (59, 23), .inr (59, 26), .inr (59, 33), .inr (60, 0), .inr (60, 78), .inr (60, 79), .inr (60, 80), .inr (60, 81), .inr (60, 87), .inr (60, 96), .inr (60, 174), .inr (60, 175), .inr (60, 176), .inr (60, 177), .inr (60, 183), .inr (60, 192), .inr (60, 270), .inr (60, 271), .inr (60, 272), .inr (60, 273), .inr (60, 279)], [(some hka04_211, hka04_772, [])])
def hka04_794 : ai_E := [hka04_7, hka04_8, hka04_9, hka04_10, hka04_11, hka04_12, hka04_10, hka04_13, hka04_14, hka04_14, hka04_14, hka04_15, hka04_12, hka04_16, hka04_14, hka04_17, hka04_12, hka04_11, hka04_18, hka04_19, hka04_20, hka04_21, hka04_22, hka04_11, hka04_18, hka04_19, hka04_20, hka04_21, hka04_22, hka04_11, hka04_18, hka04_19, hka04_20, hka04_21, hka04_22, hka04_11, hka04_737]
def hka04_795 : ai_N := (.ofNat 1, .ofNat 17, [(36, .ofNat 0, .ofNat 0)])
def hka04_796 : ai_V := .inl (false, hka04_795)
def kan_384 : List ai_Nd := [(4, (hka04_794, [hka04_0, hka04_211, hka04_796], [], hka04_776), [.inl 2], [.inl 99995, .inl 1, .inr (true, .ofNat 17, 36), .inl 100000])]
set_option maxRecDepth 1000000 in
theorem kak_384 : ai_ck [ka_382, ka_383, ka_381] [] ka_384 [.inl 100000, .inl 0, .inl 0, .inl 0] kan_384 17 = true := by decide +kernel
theorem kah_384 : ai_holds ka_384 := ai_thm kak_384 (ai_cons kah_382 (ai_cons kah_383 (ai_cons kah_381 ai_nil)))
/-- NeverAgainModel.may -/
def ka_385 : ai_K := (30, 2, (hka04_772, [hka04_0], [], hka04_776), [.inr (59, 2), .inr (59, 3), .inr (59, 6), .inr (59, 8), .inr (59, 9), .inr (59, 11), .inr (59, 12), .inr (59, 13), .inr (59, 15), .inr (59, 16), .inr (59, 17), .inr (59, 18), .inr (59, 19), .inr (59, 20), .inr (59, 21), .inr (59, 23), .inr (59, 26), .inr (59, 33), .inr (60, 0), .inr (60, 78), .inr (60, 79), .inr (60, 80), .inr (60, 81), .inr (60, 87), .inr (60, 96), .inr (60, 174), .inr (60, 175), .inr (60, 176), .inr (60, 177), .inr (60, 183), .inr (60, 192), .inr (60, 270), .inr (60, 271), .inr (60, 272), .inr (60, 273), .inr (60, 279)], [(some hka04_211, hka04_772, [(59, hka04_778), (67, hka04_774)])])
def kan_385 : List ai_Nd := []
set_option maxRecDepth 1000000 in
theorem kak_385 : ai_ck [ka_380, ka_384] [] ka_385 [.inl 100000] kan_385 6 = true := by decide +kernel
theorem kah_385 : ai_holds ka_385 := ai_thm kak_385 (ai_cons kah_380 (ai_cons kah_384 ai_nil))
def hka04_797 : ai_N := (.ofNat 0, .ofNat 63, [])
def hka04_798 : ai_V := .inl (false, hka04_797)
/-- java/lang/Integer.bitCount -/
def ka_386 : ai_K := (164, 0, ([hka04_12], [hka04_305], [], hka04_6), [.inl 0], [(some hka04_798, [hka04_12], [])])
def kan_386 : List ai_Nd := []
set_option maxRecDepth 1000000 in
theorem kak_386 : ai_ck [] [] ka_386 [.inl 100000] kan_386 43 = true := by decide +kernel
theorem kah_386 : ai_holds ka_386 := ai_thm kak_386 ai_nil
def hka04_799 : ai_E := [hka04_12, hka04_12, hka04_7, hka04_8, hka04_12, hka04_12, hka04_12, hka04_18, hka04_22, hka04_11, hka04_676]
def hka04_800 : ai_N := (.ofNat 0, .ofNat 60, [(7, .ofNat 0, .ofNat 0)])
def hka04_801 : ai_V := .inl (false, hka04_800)
def hka04_802 : ai_N := (.ofNat 0, .ofNat 5, [(8, .ofNat 0, .ofNat 0)])
def hka04_803 : ai_V := .inl (false, hka04_802)
def hka04_804 : ai_N := (.ofNat 0, .ofNat 4, [(9, .ofNat 0, .ofNat 0)])
def hka04_805 : ai_V := .inl (false, hka04_804)
def hka04_806 : ai_C := .inr (.inr (6, [hka04_314, hka04_315, hka04_316, hka04_317, hka04_318, hka04_319, hka04_582, hka04_584, hka04_431, hka04_42, hka04_325, hka04_801, hka04_803, hka04_805]))
def hka04_807 : Bool × Option ai_C := (false, some hka04_806)
def hka04_808 : ai_N := (.ofNat 0, .ofNat 128, [(10, .ofNat 0, .ofNat 0)])
def hka04_809 : ai_V := .inl (false, hka04_808)
def hka04_810 : ai_C := .inr (.inr (0, [hka04_678, hka04_679, hka04_664, hka04_292, hka04_809]))
def hka04_811 : Bool × Option ai_C := (false, some hka04_810)
def hka04_812 : ai_W := [hka04_5, hka04_807, hka04_5, hka04_480, hka04_5, hka04_5, hka04_5, hka04_5, hka04_5, hka04_5, hka04_5, hka04_5, hka04_5, hka04_5, hka04_5, hka04_5, hka04_5, hka04_811, hka04_5, hka04_5, hka04_5, hka04_5, hka04_5, hka04_5, hka04_5, hka04_5, hka04_5, hka04_5, hka04_5, hka04_5, hka04_5, hka04_5, hka04_5, hka04_5, hka04_5, hka04_5, hka04_5, hka04_5, hka04_5, hka04_5, hka04_5, hka04_5, hka04_5, hka04_5, hka04_5, hka04_5, hka04_5, hka04_5, hka04_5, hka04_5, hka04_5, hka04_5, hka04_5, hka04_5, hka04_5, hka04_5, hka04_5, hka04_5, hka04_5, hka04_5, hka04_5, hka04_5, hka04_5, hka04_5, hka04_5, hka04_5, hka04_5, hka04_5, hka04_5, hka04_5, hka04_5, hka04_5, hka04_5, hka04_5, hka04_5, hka04_5]
def hka04_813 : ai_N := (.negSucc 3, .negSucc 3, [])
def hka04_814 : ai_V := .inl (false, hka04_813)
def hka04_815 : ai_E := [hka04_477, hka04_12, hka04_7, hka04_8, hka04_12, hka04_12, hka04_12, hka04_18, hka04_22, hka04_11, hka04_676]
def hka04_816 : ai_E := [hka04_475, hka04_12, hka04_7, hka04_8, hka04_12, hka04_12, hka04_12, hka04_18, hka04_22, hka04_11, hka04_676]
def hka04_817 : ai_V := .inl (false, hka04_86)
def hka04_818 : ai_E := [hka04_473, hka04_12, hka04_7, hka04_8, hka04_12, hka04_12, hka04_125, hka04_18, hka04_22, hka04_11, hka04_676]
def hka04_819 : ai_E := [hka04_473, hka04_12, hka04_7, hka04_8, hka04_12, hka04_12, hka04_543, hka04_18, hka04_22, hka04_11, hka04_676]
def hka04_820 : ai_E := [hka04_473, hka04_12, hka04_7, hka04_8, hka04_12, hka04_12, hka04_12, hka04_18, hka04_22, hka04_11, hka04_676]
/-- NeverAgain$Almanac.meaning -/
def ka_387 : ai_K := (107, 1, (hka04_799, [hka04_284, hka04_305, hka04_553, hka04_24], [], hka04_812), [.inl 1, .inl 2, .inr (1, 6), .inr (1, 7), .inr (1, 8), .inr (1, 9), .inr (1, 10), .inr (1, 11), .inr (1, 12), .inr (1, 13), .inr (17, 4)], [(some hka04_814, hka04_815, []), (some hka04_814, hka04_816, []), (some hka04_817, hka04_818, []), (some hka04_211, hka04_819, []), (some hka04_817, hka04_820, []), (some hka04_814, hka04_820, [])])
def kan_387 : List ai_Nd := []
set_option maxRecDepth 1000000 in
theorem kak_387 : ai_ck [ka_386, ka_355] [] ka_387 [.inl 100000] kan_387 45 = true := by decide +kernel
theorem kah_387 : ai_holds ka_387 := ai_thm kak_387 (ai_cons kah_386 (ai_cons kah_355 ai_nil))
def hka04_821 : ai_E := [hka04_12, hka04_9, hka04_16, hka04_11, hka04_7, hka04_8, hka04_12, hka04_12, hka04_12, hka04_18, hka04_22, hka04_11, hka04_676]
def hka04_822 : ai_N := (.ofNat 0, .ofNat 128, [(12, .ofNat 0, .ofNat 0)])
def hka04_823 : ai_V := .inl (false, hka04_822)
def hka04_824 : ai_C := .inr (.inr (0, [hka04_678, hka04_679, hka04_664, hka04_24, hka04_823]))
def hka04_825 : Bool × Option ai_C := (false, some hka04_824)
def hka04_826 : ai_W := [hka04_313, hka04_337, hka04_5, hka04_480, hka04_400, hka04_5, hka04_5, hka04_5, hka04_5, hka04_5, hka04_5, hka04_5, hka04_5, hka04_5, hka04_5, hka04_5, hka04_5, hka04_825, hka04_685, hka04_687, hka04_667, hka04_5, hka04_5, hka04_5, hka04_5, hka04_5, hka04_5, hka04_5, hka04_5, hka04_5, hka04_5, hka04_5, hka04_5, hka04_5, hka04_5, hka04_5, hka04_5, hka04_5, hka04_5, hka04_5, hka04_5, hka04_5, hka04_5, hka04_5, hka04_5, hka04_5, hka04_5, hka04_5, hka04_5, hka04_5, hka04_5, hka04_5, hka04_5, hka04_5, hka04_5, hka04_5, hka04_5, hka04_5, hka04_5, hka04_5, hka04_5, hka04_5, hka04_5, hka04_5, hka04_5, hka04_5, hka04_5, hka04_5, hka04_5, hka04_5, hka04_5, hka04_5, hka04_5, hka04_5, hka04_5, hka04_5]
def hka04_827 : ai_E := [hka04_473, hka04_9, hka04_16, hka04_11, hka04_7, hka04_8, hka04_12, hka04_12, hka04_12, hka04_18, hka04_22, hka04_11, hka04_676]
/-- NeverAgain.means -/
def ka_388 : ai_K := (31, 2, (hka04_821, [hka04_282, hka04_305], [], hka04_826), [.inl 1, .inr (0, 11), .inr (0, 12), .inr (0, 13), .inr (1, 6), .inr (1, 7), .inr (1, 8), .inr (1, 9), .inr (1, 10), .inr (1, 11), .inr (1, 12), .inr (1, 13), .inr (17, 4)], [(some hka04_341, hka04_821, []), (some hka04_814, hka04_827, [(17, hka04_725), (18, hka04_684), (19, hka04_686), (20, hka04_666)]), (some hka04_211, hka04_827, [(17, hka04_725), (18, hka04_684), (19, hka04_686), (20, hka04_666)])])
def kan_388 : List ai_Nd := []
set_option maxRecDepth 1000000 in
theorem kak_388 : ai_ck [ka_355, ka_376, ka_378, ka_387] [] ka_388 [.inl 100000] kan_388 20 = true := by decide +kernel
theorem kah_388 : ai_holds ka_388 := ai_thm kak_388 (ai_cons kah_355 (ai_cons kah_376 (ai_cons kah_378 (ai_cons kah_387 ai_nil))))
def hka04_828 : ai_E := [hka04_473, hka04_7, hka04_8, hka04_9, hka04_10, hka04_11, hka04_12, hka04_10, hka04_13, hka04_14, hka04_14, hka04_14, hka04_15, hka04_12, hka04_16, hka04_14, hka04_17, hka04_12, hka04_11, hka04_18, hka04_19, hka04_20, hka04_125, hka04_22, hka04_11, hka04_18, hka04_19, hka04_20, hka04_21, hka04_22, hka04_11, hka04_18, hka04_19, hka04_20, hka04_21, hka04_22, hka04_11]
def hka04_829 : ai_E := [hka04_473, hka04_7, hka04_8, hka04_9, hka04_10, hka04_11, hka04_12, hka04_10, hka04_13, hka04_14, hka04_14, hka04_14, hka04_15, hka04_12, hka04_16, hka04_14, hka04_17, hka04_12, hka04_11, hka04_18, hka04_19, hka04_20, hka04_543, hka04_22, hka04_11, hka04_18, hka04_19, hka04_20, hka04_21, hka04_22, hka04_11, hka04_18, hka04_19, hka04_20, hka04_21, hka04_22, hka04_11]
def hka04_830 : Int × Int := (.negSucc 3, .ofNat 1)
def hka04_831 : ai_E := [hka04_473, hka04_7, hka04_8, hka04_9, hka04_10, hka04_11, hka04_12, hka04_10, hka04_13, hka04_14, hka04_14, hka04_14, hka04_15, hka04_12, hka04_16, hka04_14, hka04_17, hka04_12, hka04_11, hka04_18, hka04_19, hka04_20, hka04_830, hka04_22, hka04_11, hka04_18, hka04_19, hka04_20, hka04_21, hka04_22, hka04_11, hka04_18, hka04_19, hka04_20, hka04_21, hka04_22, hka04_11]
def hka04_832 : ai_N := (.negSucc 2, .ofNat 3, [])
def hka04_833 : ai_V := .inl (false, hka04_832)
/-- NeverAgainModel.meaningOf -/
def ka_389 : ai_K := (108, 1, (hka04_784, [hka04_0, hka04_786, hka04_24, hka04_24], [], hka04_787), [.inl 1, .inr (59, 2), .inr (59, 3), .inr (59, 6), .inr (59, 8), .inr (59, 9), .inr (59, 11), .inr (59, 12), .inr (59, 13), .inr (59, 15), .inr (59, 16), .inr (59, 17), .inr (59, 18), .inr (59, 19), .inr (59, 20), .inr (59, 21), .inr (59, 23), .inr (59, 26), .inr (59, 33), .inr (60, 0), .inr (60, 78), .inr (60, 79), .inr (60, 80), .inr (60, 81), .inr (60, 87), .inr (60, 96), .inr (60, 174), .inr (60, 175), .inr (60, 176), .inr (60, 177), .inr (60, 183), .inr (60, 192), .inr (60, 270), .inr (60, 271), .inr (60, 272), .inr (60, 273), .inr (60, 279)], [(some hka04_817, hka04_828, []), (some hka04_212, hka04_829, []), (some hka04_814, hka04_831, []), (some hka04_833, hka04_831, [])])
def hka04_834 : ai_E := [hka04_473, hka04_7, hka04_8, hka04_9, hka04_10, hka04_11, hka04_12, hka04_10, hka04_13, hka04_14, hka04_14, hka04_14, hka04_15, hka04_12, hka04_16, hka04_14, hka04_17, hka04_12, hka04_11, hka04_18, hka04_19, hka04_20, hka04_830, hka04_22, hka04_11, hka04_18, hka04_19, hka04_20, hka04_21, hka04_22, hka04_11, hka04_18, hka04_19, hka04_20, hka04_21, hka04_22, hka04_11, hka04_473]
def hka04_835 : ai_N := (.ofNat 1, .ofNat 16, [(37, .ofNat 0, .ofNat 0)])
def hka04_836 : ai_V := .inl (false, hka04_835)
def hka04_837 : ai_N := (.negSucc 3, .ofNat 1, [(22, .ofNat 0, .ofNat 0)])
def hka04_838 : ai_C := .inl (.int, [(1, hka04_375), (60, hka04_80), (17, hka04_81), (1, hka04_376), (1, hka04_377), (1, hka04_837), (1, hka04_379), (5, hka04_86), (1, hka04_380), (8, hka04_88), (1, hka04_381), (60, hka04_80), (17, hka04_81), (1, hka04_382), (1, hka04_383), (1, hka04_384), (1, hka04_385), (5, hka04_86), (1, hka04_386), (8, hka04_88), (1, hka04_387), (60, hka04_80), (17, hka04_81), (1, hka04_388), (1, hka04_389), (1, hka04_390), (1, hka04_391), (5, hka04_86), (1, hka04_392), (8, hka04_88)])
def hka04_839 : Bool × Option ai_C := (false, some hka04_838)
def hka04_840 : ai_W := [hka04_5, hka04_5, hka04_5, hka04_5, hka04_5, hka04_5, hka04_5, hka04_5, hka04_5, hka04_5, hka04_5, hka04_5, hka04_5, hka04_5, hka04_5, hka04_5, hka04_5, hka04_5, hka04_5, hka04_5, hka04_5, hka04_5, hka04_5, hka04_5, hka04_5, hka04_5, hka04_5, hka04_5, hka04_5, hka04_5, hka04_5, hka04_5, hka04_5, hka04_5, hka04_5, hka04_5, hka04_5, hka04_5, hka04_5, hka04_5, hka04_5, hka04_5, hka04_5, hka04_5, hka04_5, hka04_5, hka04_5, hka04_5, hka04_5, hka04_5, hka04_5, hka04_5, hka04_5, hka04_5, hka04_5, hka04_5, hka04_5, hka04_5, hka04_5, hka04_374, hka04_839, hka04_5, hka04_5, hka04_5, hka04_5, hka04_5, hka04_5, hka04_775, hka04_5, hka04_5, hka04_5, hka04_5, hka04_5, hka04_5, hka04_5, hka04_5]
def kan_389 : List ai_Nd := [(55, (hka04_834, [hka04_0, hka04_786, hka04_211, hka04_836], [], hka04_840), [.inl 3], [.inl 99944, .inl 1, .inr (true, .ofNat 16, 37), .inl 100000])]
set_option maxRecDepth 1000000 in
theorem kak_389 : ai_ck [ka_382, ka_383, ka_381] [] ka_389 [.inl 100000, .inl 0, .inl 0, .inl 0] kan_389 21 = true := by decide +kernel
theorem kah_389 : ai_holds ka_389 := ai_thm kak_389 (ai_cons kah_382 (ai_cons kah_383 (ai_cons kah_381 ai_nil)))
def hka04_841 : ai_V := .inl (false, hka04_375)
def hka04_842 : ai_C := .inr (.inr (8, [hka04_25, hka04_26, hka04_344, hka04_346, hka04_31, hka04_32, hka04_348, hka04_35, hka04_350, hka04_352, hka04_40, hka04_325, hka04_354, hka04_356, hka04_47, hka04_51, hka04_53, hka04_358, hka04_360, hka04_362, hka04_364, hka04_366, hka04_62, hka04_841, hka04_65, hka04_66, hka04_370, hka04_69, hka04_70, hka04_71, hka04_72, hka04_73, hka04_74, hka04_372]))
/-- NeverAgainModel.means -/
def ka_390 : ai_K := (32, 2, (hka04_342, [hka04_0, hka04_305], [], hka04_787), [.inl 1, .inr (59, 2), .inr (59, 3), .inr (59, 6), .inr (59, 8), .inr (59, 9), .inr (59, 11), .inr (59, 12), .inr (59, 13), .inr (59, 15), .inr (59, 16), .inr (59, 17), .inr (59, 18), .inr (59, 19), .inr (59, 20), .inr (59, 21), .inr (59, 23), .inr (59, 26), .inr (59, 33), .inr (60, 0), .inr (60, 78), .inr (60, 79), .inr (60, 80), .inr (60, 81), .inr (60, 87), .inr (60, 96), .inr (60, 174), .inr (60, 175), .inr (60, 176), .inr (60, 177), .inr (60, 183), .inr (60, 192), .inr (60, 270), .inr (60, 271), .inr (60, 272), .inr (60, 273), .inr (60, 279)], [(some hka04_341, hka04_342, []), (some hka04_212, hka04_784, [(59, hka04_842), (67, hka04_774)]), (some hka04_814, hka04_831, [(59, hka04_842), (67, hka04_774)])])
def kan_390 : List ai_Nd := []
set_option maxRecDepth 1000000 in
theorem kak_390 : ai_ck [ka_358, ka_380, ka_389] [] ka_390 [.inl 100000] kan_390 11 = true := by decide +kernel
theorem kah_390 : ai_holds ka_390 := ai_thm kak_390 (ai_cons kah_358 (ai_cons kah_380 (ai_cons kah_389 ai_nil)))
def hka04_843 : ai_E := [hka04_12, hka04_12, hka04_12, hka04_7, hka04_8, hka04_12, hka04_12, hka04_12, hka04_18, hka04_22, hka04_11, hka04_676]
def hka04_844 : ai_C := .inr (.inr (0, [hka04_678, hka04_679, hka04_664, hka04_292, hka04_763]))
def hka04_845 : Bool × Option ai_C := (false, some hka04_844)
def hka04_846 : ai_W := [hka04_5, hka04_761, hka04_5, hka04_480, hka04_5, hka04_5, hka04_5, hka04_5, hka04_5, hka04_5, hka04_5, hka04_5, hka04_5, hka04_5, hka04_5, hka04_5, hka04_5, hka04_845, hka04_5, hka04_5, hka04_5, hka04_5, hka04_5, hka04_5, hka04_5, hka04_5, hka04_5, hka04_5, hka04_5, hka04_5, hka04_5, hka04_5, hka04_5, hka04_5, hka04_5, hka04_5, hka04_5, hka04_5, hka04_5, hka04_5, hka04_5, hka04_5, hka04_5, hka04_5, hka04_5, hka04_5, hka04_5, hka04_5, hka04_5, hka04_5, hka04_5, hka04_5, hka04_5, hka04_5, hka04_5, hka04_5, hka04_5, hka04_5, hka04_5, hka04_5, hka04_5, hka04_5, hka04_5, hka04_5, hka04_5, hka04_5, hka04_5, hka04_5, hka04_5, hka04_5, hka04_5, hka04_5, hka04_5, hka04_5, hka04_5, hka04_5]
/-- NeverAgain$Almanac.tells -/
def ka_394 : ai_K := (165, 2, (hka04_843, [hka04_284, hka04_305, hka04_553, hka04_709], [], hka04_846), [.inl 1, .inl 2, .inl 3, .inr (1, 6), .inr (1, 7), .inr (1, 8), .inr (1, 9), .inr (1, 10), .inr (1, 11), .inr (1, 12), .inr (1, 13), .inr (17, 4)], [(some hka04_2, hka04_843, []), (some hka04_119, hka04_843, [])])
def kan_394 : List ai_Nd := []
set_option maxRecDepth 1000000 in
theorem kak_394 : ai_ck [ka_387] [] ka_394 [.inl 100000] kan_394 16 = true := by decide +kernel
theorem kah_394 : ai_holds ka_394 := ai_thm kak_394 (ai_cons kah_387 ai_nil)
def hka04_847 : ai_W := [hka04_5, hka04_439, hka04_5, hka04_480, hka04_5, hka04_5, hka04_5, hka04_5, hka04_5, hka04_5, hka04_5, hka04_5, hka04_5, hka04_5, hka04_5, hka04_5, hka04_5, hka04_735, hka04_685, hka04_5, hka04_667, hka04_5, hka04_5, hka04_5, hka04_5, hka04_5, hka04_5, hka04_5, hka04_5, hka04_5, hka04_5, hka04_5, hka04_5, hka04_5, hka04_5, hka04_5, hka04_5, hka04_5, hka04_5, hka04_5, hka04_5, hka04_5, hka04_5, hka04_5, hka04_5, hka04_5, hka04_5, hka04_5, hka04_5, hka04_5, hka04_5, hka04_5, hka04_5, hka04_5, hka04_5, hka04_5, hka04_5, hka04_5, hka04_5, hka04_5, hka04_5, hka04_5, hka04_5, hka04_5, hka04_5, hka04_5, hka04_5, hka04_5, hka04_5, hka04_5, hka04_5, hka04_5, hka04_5, hka04_5, hka04_5, hka04_5]
def hka04_848 : ai_N := (.ofNat 1, .ofNat 16, [])
def hka04_849 : ai_V := .inl (false, hka04_848)
/-- NeverAgain$Almanac.leastFor -/
def ka_395 : ai_K := (109, 3, (hka04_731, [hka04_284, hka04_305, hka04_24, hka04_24], [], hka04_847), [.inl 1, .inr (1, 6), .inr (1, 7), .inr (1, 8), .inr (1, 9), .inr (1, 10), .inr (1, 11), .inr (1, 12), .inr (1, 13), .inr (17, 4)], [(some hka04_849, hka04_731, []), (some hka04_119, hka04_731, [])])
def kan_395 : List ai_Nd := [(7, (hka04_738, [hka04_284, hka04_305, hka04_211, hka04_740], [], hka04_847), [.inl 3], [.inl 99992, .inl 1, .inr (true, .ofNat 17, 10), .inl 100000])]
set_option maxRecDepth 1000000 in
theorem kak_395 : ai_ck [ka_394, ka_378] [] ka_395 [.inl 100000, .inl 0, .inl 0, .inl 0] kan_395 15 = true := by decide +kernel
theorem kah_395 : ai_holds ka_395 := ai_thm kak_395 (ai_cons kah_394 (ai_cons kah_378 ai_nil))
def hka04_850 : ai_E := [hka04_406, hka04_9, hka04_16, hka04_11, hka04_7, hka04_8, hka04_12, hka04_12, hka04_12, hka04_18, hka04_22, hka04_11, hka04_676]
def hka04_851 : ai_E := [hka04_414, hka04_9, hka04_16, hka04_11, hka04_7, hka04_8, hka04_12, hka04_12, hka04_12, hka04_18, hka04_22, hka04_11, hka04_676]
def hka04_852 : ai_E := [hka04_15, hka04_9, hka04_16, hka04_11, hka04_7, hka04_8, hka04_12, hka04_12, hka04_12, hka04_18, hka04_22, hka04_11, hka04_676]
/-- NeverAgain.cheap -/
def ka_396 : ai_K := (33, 4, (hka04_821, [hka04_282, hka04_305, hka04_24], [], hka04_826), [.inl 1, .inr (0, 11), .inr (0, 12), .inr (0, 13), .inr (1, 6), .inr (1, 7), .inr (1, 8), .inr (1, 9), .inr (1, 10), .inr (1, 11), .inr (1, 12), .inr (1, 13), .inr (17, 4)], [(some hka04_341, hka04_850, []), (some hka04_341, hka04_851, []), (some hka04_814, hka04_852, [(17, hka04_725), (18, hka04_684), (19, hka04_686), (20, hka04_666)]), (some hka04_849, hka04_852, [(17, hka04_725), (18, hka04_684), (19, hka04_686), (20, hka04_666)])])
def kan_396 : List ai_Nd := []
set_option maxRecDepth 1000000 in
theorem kak_396 : ai_ck [ka_350, ka_376, ka_395] [] ka_396 [.inl 100000] kan_396 22 = true := by decide +kernel
theorem kah_396 : ai_holds ka_396 := ai_thm kak_396 (ai_cons kah_350 (ai_cons kah_376 (ai_cons kah_395 ai_nil)))
def hka04_853 : ai_E := [hka04_473, hka04_12, hka04_7, hka04_8, hka04_9, hka04_10, hka04_11, hka04_12, hka04_10, hka04_13, hka04_14, hka04_14, hka04_14, hka04_15, hka04_12, hka04_16, hka04_14, hka04_17, hka04_12, hka04_11, hka04_18, hka04_19, hka04_20, hka04_21, hka04_22, hka04_11, hka04_18, hka04_19, hka04_20, hka04_21, hka04_22, hka04_11, hka04_18, hka04_19, hka04_20, hka04_21, hka04_22, hka04_11]
def hka04_854 : ai_W := [hka04_5, hka04_5, hka04_5, hka04_5, hka04_5, hka04_5, hka04_5, hka04_5, hka04_5, hka04_5, hka04_5, hka04_5, hka04_5, hka04_5, hka04_5, hka04_5, hka04_5, hka04_5, hka04_5, hka04_5, hka04_5, hka04_5, hka04_5, hka04_5, hka04_5, hka04_5, hka04_5, hka04_5, hka04_5, hka04_5, hka04_5, hka04_5, hka04_5, hka04_5, hka04_5, hka04_5, hka04_5, hka04_5, hka04_5, hka04_5, hka04_5, hka04_5, hka04_5, hka04_5, hka04_5, hka04_5, hka04_5, hka04_5, hka04_5, hka04_5, hka04_5, hka04_5, hka04_5, hka04_5, hka04_5, hka04_5, hka04_5, hka04_5, hka04_5, hka04_612, hka04_632, hka04_5, hka04_5, hka04_5, hka04_5, hka04_5, hka04_5, hka04_775, hka04_5, hka04_5, hka04_5, hka04_5, hka04_5, hka04_5, hka04_5, hka04_5]
/-- NeverAgainModel.tellsIt -/
def ka_397 : ai_K := (166, 2, (hka04_853, [hka04_0, hka04_786, hka04_553], [], hka04_854), [.inl 1, .inl 2, .inr (59, 2), .inr (59, 3), .inr (59, 6), .inr (59, 8), .inr (59, 9), .inr (59, 11), .inr (59, 12), .inr (59, 13), .inr (59, 15), .inr (59, 16), .inr (59, 17), .inr (59, 18), .inr (59, 19), .inr (59, 20), .inr (59, 21), .inr (59, 23), .inr (59, 26), .inr (59, 33), .inr (60, 0), .inr (60, 78), .inr (60, 79), .inr (60, 80), .inr (60, 81), .inr (60, 87), .inr (60, 96), .inr (60, 174), .inr (60, 175), .inr (60, 176), .inr (60, 177), .inr (60, 183), .inr (60, 192), .inr (60, 270), .inr (60, 271), .inr (60, 272), .inr (60, 273), .inr (60, 279)], [(some hka04_119, hka04_853, []), (some hka04_2, hka04_634, [])])
def kan_397 : List ai_Nd := []
set_option maxRecDepth 1000000 in
theorem kak_397 : ai_ck [ka_389, ka_381] [] ka_397 [.inl 100000] kan_397 13 = true := by decide +kernel
theorem kah_397 : ai_holds ka_397 := ai_thm kak_397 (ai_cons kah_389 (ai_cons kah_381 ai_nil))
def hka04_855 : ai_E := [hka04_13, hka04_7, hka04_8, hka04_9, hka04_10, hka04_11, hka04_12, hka04_10, hka04_13, hka04_14, hka04_14, hka04_14, hka04_15, hka04_12, hka04_16, hka04_14, hka04_17, hka04_12, hka04_11, hka04_18, hka04_19, hka04_20, hka04_21, hka04_22, hka04_11, hka04_18, hka04_19, hka04_20, hka04_21, hka04_22, hka04_11, hka04_18, hka04_19, hka04_20, hka04_21, hka04_22, hka04_11]
/-- NeverAgainModel.cheapestFor -/
def ka_398 : ai_K := (110, 3, (hka04_342, [hka04_0, hka04_305, hka04_24], [], hka04_787), [.inl 1, .inr (59, 2), .inr (59, 3), .inr (59, 6), .inr (59, 8), .inr (59, 9), .inr (59, 11), .inr (59, 12), .inr (59, 13), .inr (59, 15), .inr (59, 16), .inr (59, 17), .inr (59, 18), .inr (59, 19), .inr (59, 20), .inr (59, 21), .inr (59, 23), .inr (59, 26), .inr (59, 33), .inr (60, 0), .inr (60, 78), .inr (60, 79), .inr (60, 80), .inr (60, 81), .inr (60, 87), .inr (60, 96), .inr (60, 174), .inr (60, 175), .inr (60, 176), .inr (60, 177), .inr (60, 183), .inr (60, 192), .inr (60, 270), .inr (60, 271), .inr (60, 272), .inr (60, 273), .inr (60, 279)], [(some hka04_849, hka04_855, []), (some hka04_814, hka04_342, [])])
def hka04_856 : ai_E := [hka04_12, hka04_7, hka04_8, hka04_9, hka04_10, hka04_11, hka04_12, hka04_10, hka04_13, hka04_14, hka04_14, hka04_14, hka04_15, hka04_12, hka04_16, hka04_14, hka04_17, hka04_12, hka04_11, hka04_18, hka04_19, hka04_20, hka04_21, hka04_22, hka04_11, hka04_18, hka04_19, hka04_20, hka04_21, hka04_22, hka04_11, hka04_18, hka04_19, hka04_20, hka04_21, hka04_22, hka04_11, hka04_737]
def hka04_857 : ai_N := (.ofNat 1, .ofNat 17, [(37, .ofNat 0, .ofNat 0)])
def hka04_858 : ai_V := .inl (false, hka04_857)
def kan_398 : List ai_Nd := [(2, (hka04_856, [hka04_0, hka04_305, hka04_858], [], hka04_787), [.inl 2], [.inl 99997, .inl 1, .inr (true, .ofNat 17, 37), .inl 100000])]
set_option maxRecDepth 1000000 in
theorem kak_398 : ai_ck [ka_397] [] ka_398 [.inl 100000, .inl 0, .inl 0, .inl 0] kan_398 13 = true := by decide +kernel
theorem kah_398 : ai_holds ka_398 := ai_thm kak_398 (ai_cons kah_397 ai_nil)
/-- NeverAgainModel.cheapestFor -/
def ka_399 : ai_K := (110, 3, (hka04_772, [hka04_0, hka04_119, hka04_24], [], hka04_776), [.inr (59, 2), .inr (59, 3), .inr (59, 6), .inr (59, 8), .inr (59, 9), .inr (59, 11), .inr (59, 12), .inr (59, 13), .inr (59, 15), .inr (59, 16), .inr (59, 17), .inr (59, 18), .inr (59, 19), .inr (59, 20), .inr (59, 21), .inr (59, 23), .inr (59, 26), .inr (59, 33), .inr (60, 0), .inr (60, 78), .inr (60, 79), .inr (60, 80), .inr (60, 81), .inr (60, 87), .inr (60, 96), .inr (60, 174), .inr (60, 175), .inr (60, 176), .inr (60, 177), .inr (60, 183), .inr (60, 192), .inr (60, 270), .inr (60, 271), .inr (60, 272), .inr (60, 273), .inr (60, 279)], [(some hka04_849, hka04_772, []), (some hka04_814, hka04_772, [])])
def kan_399 : List ai_Nd := [(2, (hka04_794, [hka04_0, hka04_119, hka04_796], [], hka04_776), [.inl 2], [.inl 99997, .inl 1, .inr (true, .ofNat 17, 36), .inl 100000])]
set_option maxRecDepth 1000000 in
theorem kak_399 : ai_ck [ka_397] [] ka_399 [.inl 100000, .inl 0, .inl 0, .inl 0] kan_399 13 = true := by decide +kernel
theorem kah_399 : ai_holds ka_399 := ai_thm kak_399 (ai_cons kah_397 ai_nil)
def hka04_859 : ai_E := [hka04_15, hka04_7, hka04_8, hka04_9, hka04_10, hka04_11, hka04_12, hka04_10, hka04_13, hka04_14, hka04_14, hka04_14, hka04_15, hka04_12, hka04_16, hka04_14, hka04_17, hka04_12, hka04_11, hka04_18, hka04_19, hka04_20, hka04_21, hka04_22, hka04_11, hka04_18, hka04_19, hka04_20, hka04_21, hka04_22, hka04_11, hka04_18, hka04_19, hka04_20, hka04_21, hka04_22, hka04_11]
/-- NeverAgainModel.cheap -/
def ka_400 : ai_K := (34, 4, (hka04_342, [hka04_0, hka04_305], [], hka04_787), [.inl 1, .inr (59, 2), .inr (59, 3), .inr (59, 6), .inr (59, 8), .inr (59, 9), .inr (59, 11), .inr (59, 12), .inr (59, 13), .inr (59, 15), .inr (59, 16), .inr (59, 17), .inr (59, 18), .inr (59, 19), .inr (59, 20), .inr (59, 21), .inr (59, 23), .inr (59, 26), .inr (59, 33), .inr (60, 0), .inr (60, 78), .inr (60, 79), .inr (60, 80), .inr (60, 81), .inr (60, 87), .inr (60, 96), .inr (60, 174), .inr (60, 175), .inr (60, 176), .inr (60, 177), .inr (60, 183), .inr (60, 192), .inr (60, 270), .inr (60, 271), .inr (60, 272), .inr (60, 273), .inr (60, 279)], [(some hka04_341, hka04_342, []), (some hka04_814, hka04_859, [(59, hka04_842), (67, hka04_774)]), (some hka04_849, hka04_859, [(59, hka04_842), (67, hka04_774)])])
def kan_400 : List ai_Nd := []
set_option maxRecDepth 1000000 in
theorem kak_400 : ai_ck [ka_353, ka_380, ka_399, ka_398] [] ka_400 [.inl 100000] kan_400 11 = true := by decide +kernel
theorem kah_400 : ai_holds ka_400 := ai_thm kak_400 (ai_cons kah_353 (ai_cons kah_380 (ai_cons kah_399 (ai_cons kah_398 ai_nil))))
def hka04_860 : ai_W := [hka04_557, hka04_571, hka04_5, hka04_5, hka04_5, hka04_5, hka04_5, hka04_5, hka04_5, hka04_5, hka04_5, hka04_5, hka04_5, hka04_5, hka04_5, hka04_5, hka04_5, hka04_5, hka04_5, hka04_5, hka04_5, hka04_5, hka04_5, hka04_5, hka04_5, hka04_5, hka04_5, hka04_5, hka04_5, hka04_5, hka04_5, hka04_5, hka04_5, hka04_5, hka04_5, hka04_5, hka04_5, hka04_5, hka04_5, hka04_5, hka04_5, hka04_5, hka04_5, hka04_5, hka04_5, hka04_5, hka04_5, hka04_5, hka04_5, hka04_5, hka04_5, hka04_5, hka04_5, hka04_5, hka04_5, hka04_5, hka04_5, hka04_5, hka04_5, hka04_5, hka04_5, hka04_5, hka04_5, hka04_5, hka04_5, hka04_5, hka04_5, hka04_5, hka04_5, hka04_5, hka04_5, hka04_5, hka04_5, hka04_5, hka04_5, hka04_5]
def hka04_861 : ai_N := (.negSucc 1, .negSucc 1, [])
def hka04_862 : ai_V := .inl (false, hka04_861)
def hka04_863 : ai_E := [hka04_473, hka04_12, hka04_9, hka04_16, hka04_11, hka04_7, hka04_8, hka04_12, hka04_12, hka04_12, hka04_18, hka04_22, hka04_11]
def hka04_864 : ai_N := (.negSucc 2, .negSucc 2, [])
def hka04_865 : ai_V := .inl (false, hka04_864)
def hka04_866 : Int × Int := (.ofNat 60, .ofNat 60)
def hka04_867 : ai_E := [hka04_10, hka04_12, hka04_9, hka04_16, hka04_11, hka04_7, hka04_8, hka04_12, hka04_12, hka04_12, hka04_866, hka04_22, hka04_11]
def hka04_868 : ai_E := [hka04_10, hka04_12, hka04_9, hka04_16, hka04_11, hka04_7, hka04_8, hka04_12, hka04_12, hka04_12, hka04_402, hka04_22, hka04_11]
/-- NeverAgain.refusal -/
def ka_401 : ai_K := (111, 1, (hka04_551, [hka04_282, hka04_305, hka04_553], [], hka04_860), [.inl 1, .inl 2, .inr (0, 11), .inr (0, 12), .inr (0, 13), .inr (1, 6), .inr (1, 7), .inr (1, 8), .inr (1, 9), .inr (1, 10), .inr (1, 11), .inr (1, 12), .inr (1, 13)], [(some hka04_341, hka04_551, []), (some hka04_862, hka04_863, []), (some hka04_865, hka04_867, []), (some hka04_119, hka04_868, [])])
def kan_401 : List ai_Nd := []
set_option maxRecDepth 1000000 in
theorem kak_401 : ai_ck [ka_355] [] ka_401 [.inl 100000] kan_401 24 = true := by decide +kernel
theorem kah_401 : ai_holds ka_401 := ai_thm kak_401 (ai_cons kah_355 ai_nil)
def hka04_869 : ai_W := [hka04_5, hka04_439, hka04_5, hka04_5, hka04_400, hka04_5, hka04_5, hka04_5, hka04_5, hka04_5, hka04_5, hka04_5, hka04_5, hka04_5, hka04_5, hka04_5, hka04_5, hka04_5, hka04_5, hka04_5, hka04_5, hka04_5, hka04_5, hka04_5, hka04_5, hka04_5, hka04_5, hka04_5, hka04_5, hka04_5, hka04_5, hka04_5, hka04_5, hka04_5, hka04_5, hka04_5, hka04_5, hka04_5, hka04_5, hka04_5, hka04_5, hka04_5, hka04_5, hka04_5, hka04_5, hka04_5, hka04_5, hka04_5, hka04_5, hka04_5, hka04_5, hka04_5, hka04_5, hka04_5, hka04_5, hka04_5, hka04_5, hka04_5, hka04_5, hka04_5, hka04_5, hka04_5, hka04_5, hka04_5, hka04_5, hka04_5, hka04_5, hka04_5, hka04_5, hka04_5, hka04_5, hka04_5, hka04_5, hka04_5, hka04_5, hka04_5]
def hka04_870 : ai_E := [hka04_12, hka04_7, hka04_8, hka04_12, hka04_12, hka04_12, hka04_866, hka04_22, hka04_11]
def hka04_871 : ai_E := [hka04_12, hka04_7, hka04_8, hka04_12, hka04_12, hka04_12, hka04_402, hka04_22, hka04_11]
def hka04_872 : ai_N := (.ofNat 1, .ofNat 60, [(6, .ofNat 1, .ofNat 1)])
def hka04_873 : ai_V := .inl (false, hka04_872)
def hka04_874 : ai_C := .inr (.inr (6, [hka04_314, hka04_315, hka04_316, hka04_317, hka04_318, hka04_319, hka04_344, hka04_346, hka04_429, hka04_431, hka04_42, hka04_873, hka04_435, hka04_437]))
/-- NeverAgain$Told.addDay -/
def ka_402 : ai_K := (112, 0, (hka04_427, [hka04_292, hka04_305], [], hka04_869), [.inl 1, .inr (1, 6), .inr (1, 7), .inr (1, 8), .inr (1, 9), .inr (1, 10), .inr (1, 11), .inr (1, 12), .inr (1, 13)], [(some hka04_119, hka04_870, []), (some hka04_2, hka04_871, [(1, hka04_874), (4, hka04_399)])])
def kan_402 : List ai_Nd := []
set_option maxRecDepth 1000000 in
theorem kak_402 : ai_ck [] [] ka_402 [.inl 100000] kan_402 19 = true := by decide +kernel
theorem kah_402 : ai_holds ka_402 := ai_thm kak_402 ai_nil
def hka04_875 : ai_E := [hka04_10, hka04_9, hka04_16, hka04_11, hka04_7, hka04_8, hka04_12, hka04_12, hka04_12, hka04_402, hka04_22, hka04_11, hka04_676]
def hka04_876 : ai_N := (.ofNat 1, .ofNat 60, [(9, .ofNat 1, .ofNat 1)])
def hka04_877 : ai_V := .inl (false, hka04_876)
def hka04_878 : ai_C := .inr (.inr (6, [hka04_314, hka04_315, hka04_316, hka04_317, hka04_318, hka04_319, hka04_321, hka04_323, hka04_325, hka04_327, hka04_329, hka04_877, hka04_333, hka04_335]))
def hka04_879 : ai_E := [hka04_473, hka04_9, hka04_16, hka04_11, hka04_7, hka04_8, hka04_12, hka04_12, hka04_12, hka04_402, hka04_22, hka04_11, hka04_676]
def hka04_880 : ai_E := [hka04_10, hka04_9, hka04_16, hka04_11, hka04_7, hka04_8, hka04_12, hka04_12, hka04_12, hka04_866, hka04_22, hka04_11, hka04_676]
/-- NeverAgain.ring -/
def ka_403 : ai_K := (35, 2, (hka04_821, [hka04_282, hka04_305, hka04_24, hka04_24], [], hka04_826), [.inl 1, .inr (0, 11), .inr (0, 12), .inr (0, 13), .inr (1, 6), .inr (1, 7), .inr (1, 8), .inr (1, 9), .inr (1, 10), .inr (1, 11), .inr (1, 12), .inr (1, 13), .inr (17, 4)], [(some hka04_814, hka04_875, [(1, hka04_878), (4, hka04_399), (17, hka04_725), (18, hka04_684), (19, hka04_686), (20, hka04_666)]), (some hka04_211, hka04_879, [(1, hka04_878), (4, hka04_399), (17, hka04_725), (18, hka04_684), (19, hka04_686), (20, hka04_666)]), (some hka04_865, hka04_880, [(17, hka04_725), (18, hka04_684), (19, hka04_686), (20, hka04_666)]), (some hka04_862, hka04_827, [(17, hka04_725), (18, hka04_684), (19, hka04_686), (20, hka04_666)]), (some hka04_341, hka04_821, [(17, hka04_725), (18, hka04_684), (19, hka04_686), (20, hka04_666)])])
def kan_403 : List ai_Nd := []
set_option maxRecDepth 1000000 in
theorem kak_403 : ai_ck [ka_402, ka_401, ka_376, ka_378, ka_387] [] ka_403 [.inl 100000] kan_403 29 = true := by decide +kernel
theorem kah_403 : ai_holds ka_403 := ai_thm kak_403 (ai_cons kah_402 (ai_cons kah_401 (ai_cons kah_376 (ai_cons kah_378 (ai_cons kah_387 ai_nil)))))
def hka04_881 : ai_E := [hka04_10, hka04_7, hka04_8, hka04_9, hka04_10, hka04_11, hka04_12, hka04_10, hka04_13, hka04_14, hka04_14, hka04_14, hka04_15, hka04_12, hka04_16, hka04_14, hka04_17, hka04_12, hka04_11, hka04_866, hka04_19, hka04_20, hka04_21, hka04_22, hka04_11, hka04_18, hka04_19, hka04_20, hka04_21, hka04_22, hka04_11, hka04_18, hka04_19, hka04_20, hka04_21, hka04_22, hka04_11]
def hka04_882 : ai_N := (.ofNat 60, .ofNat 60, [(19, .ofNat 0, .ofNat 0)])
def hka04_883 : ai_V := .inl (false, hka04_882)
def hka04_884 : ai_C := .inr (.inr (8, [hka04_25, hka04_26, hka04_344, hka04_346, hka04_31, hka04_32, hka04_348, hka04_35, hka04_350, hka04_352, hka04_40, hka04_325, hka04_354, hka04_356, hka04_47, hka04_51, hka04_53, hka04_358, hka04_360, hka04_362, hka04_364, hka04_366, hka04_62, hka04_883, hka04_65, hka04_66, hka04_370, hka04_69, hka04_70, hka04_71, hka04_72, hka04_73, hka04_74, hka04_372]))
def hka04_885 : ai_E := [hka04_473, hka04_7, hka04_8, hka04_9, hka04_10, hka04_11, hka04_12, hka04_10, hka04_13, hka04_14, hka04_14, hka04_14, hka04_15, hka04_12, hka04_16, hka04_14, hka04_17, hka04_12, hka04_11, hka04_402, hka04_19, hka04_20, hka04_21, hka04_22, hka04_11, hka04_18, hka04_19, hka04_20, hka04_21, hka04_22, hka04_11, hka04_18, hka04_19, hka04_20, hka04_21, hka04_22, hka04_11]
def hka04_886 : ai_N := (.ofNat 0, .ofNat 59, [(19, .ofNat 0, .ofNat 0)])
def hka04_887 : ai_V := .inl (false, hka04_886)
def hka04_888 : ai_C := .inr (.inr (8, [hka04_25, hka04_26, hka04_344, hka04_346, hka04_31, hka04_32, hka04_348, hka04_35, hka04_350, hka04_352, hka04_40, hka04_325, hka04_354, hka04_356, hka04_47, hka04_51, hka04_53, hka04_358, hka04_360, hka04_362, hka04_364, hka04_366, hka04_62, hka04_887, hka04_65, hka04_66, hka04_370, hka04_69, hka04_70, hka04_71, hka04_72, hka04_73, hka04_74, hka04_372]))
def hka04_889 : ai_N := (.ofNat 1, .ofNat 60, [(19, .ofNat 1, .ofNat 1)])
def hka04_890 : ai_C := .inl (.int, [(1, hka04_889), (60, hka04_80), (17, hka04_81), (1, hka04_376), (1, hka04_377), (1, hka04_378), (1, hka04_379), (5, hka04_86), (1, hka04_380), (8, hka04_88), (1, hka04_381), (60, hka04_80), (17, hka04_81), (1, hka04_382), (1, hka04_383), (1, hka04_384), (1, hka04_385), (5, hka04_86), (1, hka04_386), (8, hka04_88), (1, hka04_387), (60, hka04_80), (17, hka04_81), (1, hka04_388), (1, hka04_389), (1, hka04_390), (1, hka04_391), (5, hka04_86), (1, hka04_392), (8, hka04_88)])
def hka04_891 : ai_E := [hka04_10, hka04_7, hka04_8, hka04_9, hka04_10, hka04_11, hka04_12, hka04_10, hka04_13, hka04_14, hka04_14, hka04_14, hka04_15, hka04_12, hka04_16, hka04_14, hka04_17, hka04_12, hka04_11, hka04_402, hka04_19, hka04_20, hka04_21, hka04_22, hka04_11, hka04_18, hka04_19, hka04_20, hka04_21, hka04_22, hka04_11, hka04_18, hka04_19, hka04_20, hka04_21, hka04_22, hka04_11]
/-- NeverAgainModel.ring -/
def ka_404 : ai_K := (36, 2, (hka04_342, [hka04_0, hka04_305], [], hka04_787), [.inl 1, .inr (59, 2), .inr (59, 3), .inr (59, 6), .inr (59, 8), .inr (59, 9), .inr (59, 11), .inr (59, 12), .inr (59, 13), .inr (59, 15), .inr (59, 16), .inr (59, 17), .inr (59, 18), .inr (59, 19), .inr (59, 20), .inr (59, 21), .inr (59, 23), .inr (59, 26), .inr (59, 33), .inr (60, 0), .inr (60, 78), .inr (60, 79), .inr (60, 80), .inr (60, 81), .inr (60, 87), .inr (60, 96), .inr (60, 174), .inr (60, 175), .inr (60, 176), .inr (60, 177), .inr (60, 183), .inr (60, 192), .inr (60, 270), .inr (60, 271), .inr (60, 272), .inr (60, 273), .inr (60, 279)], [(some hka04_341, hka04_342, []), (some hka04_862, hka04_784, [(59, hka04_842), (67, hka04_774)]), (some hka04_865, hka04_881, [(59, hka04_884), (67, hka04_774)]), (some hka04_212, hka04_885, [(59, hka04_888), (60, hka04_890), (67, hka04_774)]), (some hka04_814, hka04_891, [(59, hka04_888), (60, hka04_890), (67, hka04_774)])])
def kan_404 : List ai_Nd := []
set_option maxRecDepth 1000000 in
theorem kak_404 : ai_ck [ka_358, ka_380, ka_389, ka_381] [] ka_404 [.inl 100000] kan_404 45 = true := by decide +kernel
theorem kah_404 : ai_holds ka_404 := ai_thm kak_404 (ai_cons kah_358 (ai_cons kah_380 (ai_cons kah_389 (ai_cons kah_381 ai_nil))))
/-- NeverAgain$Almanac.leastFree -/
def ka_405 : ai_K := (114, 2, (hka04_707, [hka04_284, hka04_24, hka04_24], [], hka04_743), [.inr (1, 6), .inr (1, 7), .inr (1, 8), .inr (1, 9), .inr (1, 10), .inr (1, 11), .inr (1, 12), .inr (1, 13), .inr (17, 4)], [(some hka04_849, hka04_707, []), (some hka04_119, hka04_707, [])])
def hka04_892 : ai_E := [hka04_7, hka04_8, hka04_12, hka04_12, hka04_12, hka04_18, hka04_22, hka04_11, hka04_676, hka04_737]
def hka04_893 : ai_N := (.ofNat 1, .ofNat 17, [(9, .ofNat 0, .ofNat 0)])
def hka04_894 : ai_V := .inl (false, hka04_893)
def kan_405 : List ai_Nd := [(7, (hka04_892, [hka04_284, hka04_211, hka04_894], [], hka04_743), [.inl 2], [.inl 99992, .inl 1, .inr (true, .ofNat 17, 9), .inl 100000])]
set_option maxRecDepth 1000000 in
theorem kak_405 : ai_ck [ka_378] [] ka_405 [.inl 100000, .inl 0, .inl 0, .inl 0] kan_405 15 = true := by decide +kernel
theorem kah_405 : ai_holds ka_405 := ai_thm kak_405 (ai_cons kah_378 ai_nil)
def hka04_895 : ai_V := .inl (false, hka04_220)
def hka04_896 : ai_N := (.ofNat 61, .ofNat 61, [])
def hka04_897 : ai_V := .inl (false, hka04_896)
/-- NeverAgain.holds -/
def ka_406 : ai_K := (37, 3, (hka04_749, [hka04_282, hka04_24, hka04_24], [], hka04_766), [.inr (0, 11), .inr (0, 12), .inr (0, 13), .inr (1, 6), .inr (1, 7), .inr (1, 8), .inr (1, 9), .inr (1, 10), .inr (1, 11), .inr (1, 12), .inr (1, 13), .inr (17, 4)], [(some hka04_895, hka04_749, [(17, hka04_725), (18, hka04_684), (19, hka04_686), (20, hka04_666)]), (some hka04_897, hka04_749, [(17, hka04_725), (18, hka04_684), (19, hka04_686), (20, hka04_666)])])
def hka04_898 : Int × Int := (.ofNat 0, .ofNat 61)
def hka04_899 : ai_E := [hka04_9, hka04_16, hka04_11, hka04_7, hka04_8, hka04_12, hka04_12, hka04_12, hka04_18, hka04_22, hka04_11, hka04_676, hka04_898]
def hka04_900 : ai_N := (.ofNat 0, .ofNat 61, [(12, .ofNat 0, .ofNat 0)])
def hka04_901 : ai_V := .inl (false, hka04_900)
def hka04_902 : ai_W := [hka04_301, hka04_761, hka04_5, hka04_5, hka04_400, hka04_5, hka04_5, hka04_5, hka04_5, hka04_5, hka04_5, hka04_5, hka04_5, hka04_5, hka04_5, hka04_5, hka04_5, hka04_727, hka04_728, hka04_729, hka04_674, hka04_5, hka04_5, hka04_5, hka04_5, hka04_5, hka04_5, hka04_5, hka04_5, hka04_5, hka04_5, hka04_5, hka04_5, hka04_5, hka04_5, hka04_5, hka04_5, hka04_5, hka04_5, hka04_5, hka04_5, hka04_5, hka04_5, hka04_5, hka04_5, hka04_5, hka04_5, hka04_5, hka04_5, hka04_5, hka04_5, hka04_5, hka04_5, hka04_5, hka04_5, hka04_5, hka04_5, hka04_5, hka04_5, hka04_5, hka04_5, hka04_5, hka04_5, hka04_5, hka04_5, hka04_5, hka04_5, hka04_5, hka04_5, hka04_5, hka04_5, hka04_5, hka04_5, hka04_5, hka04_5, hka04_5]
def kan_406 : List ai_Nd := [(14, (hka04_899, [hka04_282, hka04_901, hka04_24], [], hka04_902), [.inl 1], [.inl 99985, .inl 1, .inr (true, .ofNat 61, 12), .inl 100000])]
set_option maxRecDepth 1000000 in
theorem kak_406 : ai_ck [ka_374, ka_376, ka_405] [] ka_406 [.inl 100000, .inl 0, .inl 0, .inl 0] kan_406 17 = true := by decide +kernel
theorem kah_406 : ai_holds ka_406 := ai_thm kak_406 (ai_cons kah_374 (ai_cons kah_376 (ai_cons kah_405 ai_nil)))
def hka04_903 : Int × Int := (.negSucc 3, .ofNat 16)
def hka04_904 : ai_E := [hka04_903, hka04_7, hka04_8, hka04_9, hka04_10, hka04_11, hka04_12, hka04_10, hka04_13, hka04_14, hka04_14, hka04_14, hka04_15, hka04_12, hka04_16, hka04_14, hka04_18, hka04_12, hka04_11]
def hka04_905 : ai_N := (.negSucc 3, .ofNat 16, [(0, .ofNat 0, .ofNat 0)])
def hka04_906 : ai_V := .inl (false, hka04_905)
def hka04_907 : ai_N := (.ofNat 0, .ofNat 60, [(16, .ofNat 0, .ofNat 0)])
def hka04_908 : ai_V := .inl (false, hka04_907)
def hka04_909 : ai_C := .inr (.inr (8, [hka04_25, hka04_26, hka04_344, hka04_346, hka04_31, hka04_32, hka04_348, hka04_35, hka04_350, hka04_352, hka04_40, hka04_325, hka04_354, hka04_356, hka04_47, hka04_51, hka04_53, hka04_358, hka04_360, hka04_362, hka04_364, hka04_366, hka04_62, hka04_908, hka04_65, hka04_66, hka04_370, hka04_69, hka04_70, hka04_71, hka04_72, hka04_73, hka04_74, hka04_372]))
def hka04_910 : Bool × Option ai_C := (false, some hka04_909)
def hka04_911 : ai_W := [hka04_5, hka04_5, hka04_5, hka04_5, hka04_5, hka04_5, hka04_5, hka04_5, hka04_5, hka04_5, hka04_5, hka04_5, hka04_5, hka04_5, hka04_5, hka04_5, hka04_5, hka04_5, hka04_5, hka04_5, hka04_5, hka04_5, hka04_5, hka04_5, hka04_5, hka04_5, hka04_5, hka04_5, hka04_5, hka04_5, hka04_5, hka04_5, hka04_5, hka04_5, hka04_5, hka04_5, hka04_5, hka04_5, hka04_5, hka04_5, hka04_5, hka04_5, hka04_5, hka04_5, hka04_5, hka04_5, hka04_5, hka04_5, hka04_5, hka04_5, hka04_5, hka04_5, hka04_5, hka04_5, hka04_5, hka04_5, hka04_5, hka04_5, hka04_5, hka04_910, hka04_5, hka04_5, hka04_5, hka04_5, hka04_5, hka04_5, hka04_5, hka04_775, hka04_5, hka04_5, hka04_5, hka04_5, hka04_5, hka04_5, hka04_5, hka04_5]
def hka04_912 : ai_N := (.ofNat 1, .ofNat 61, [(16, .ofNat 1, .ofNat 1)])
def hka04_913 : ai_V := .inl (false, hka04_912)
def hka04_914 : ai_C := .inr (.inr (8, [hka04_25, hka04_26, hka04_344, hka04_346, hka04_31, hka04_32, hka04_348, hka04_35, hka04_350, hka04_352, hka04_40, hka04_325, hka04_354, hka04_356, hka04_47, hka04_51, hka04_53, hka04_358, hka04_360, hka04_362, hka04_364, hka04_366, hka04_62, hka04_913, hka04_65, hka04_66, hka04_370, hka04_69, hka04_70, hka04_71, hka04_72, hka04_73, hka04_74, hka04_372]))
/-- NeverAgainModel.adds -/
def ka_407 : ai_K := (116, 0, (hka04_904, [hka04_0, hka04_906], [], hka04_911), [.inl 1, .inr (59, 2), .inr (59, 3), .inr (59, 6), .inr (59, 8), .inr (59, 9), .inr (59, 11), .inr (59, 12), .inr (59, 13), .inr (59, 15), .inr (59, 16), .inr (59, 17), .inr (59, 18), .inr (59, 19), .inr (59, 20), .inr (59, 21), .inr (59, 23), .inr (59, 26), .inr (59, 33)], [(none, hka04_904, [(59, hka04_914), (67, hka04_774)])])
def kan_407 : List ai_Nd := []
set_option maxRecDepth 1000000 in
theorem kak_407 : ai_ck [] [] ka_407 [.inl 100000] kan_407 14 = true := by decide +kernel
theorem kah_407 : ai_holds ka_407 := ai_thm kak_407 ai_nil
def hka04_915 : ai_E := [hka04_903, hka04_7, hka04_8, hka04_9, hka04_10, hka04_11, hka04_12, hka04_10, hka04_13, hka04_14, hka04_14, hka04_14, hka04_15, hka04_12, hka04_16, hka04_14, hka04_898, hka04_12, hka04_11]
def hka04_916 : ai_N := (.ofNat 0, .ofNat 61, [(16, .ofNat 0, .ofNat 0)])
def hka04_917 : ai_V := .inl (false, hka04_916)
def hka04_918 : ai_C := .inr (.inr (8, [hka04_25, hka04_26, hka04_344, hka04_346, hka04_31, hka04_32, hka04_348, hka04_35, hka04_350, hka04_352, hka04_40, hka04_325, hka04_354, hka04_356, hka04_47, hka04_51, hka04_53, hka04_358, hka04_360, hka04_362, hka04_364, hka04_366, hka04_62, hka04_917, hka04_65, hka04_66, hka04_370, hka04_69, hka04_70, hka04_71, hka04_72, hka04_73, hka04_74, hka04_372]))
def hka04_919 : Bool × Option ai_C := (false, some hka04_918)
def hka04_920 : ai_W := [hka04_5, hka04_5, hka04_5, hka04_5, hka04_5, hka04_5, hka04_5, hka04_5, hka04_5, hka04_5, hka04_5, hka04_5, hka04_5, hka04_5, hka04_5, hka04_5, hka04_5, hka04_5, hka04_5, hka04_5, hka04_5, hka04_5, hka04_5, hka04_5, hka04_5, hka04_5, hka04_5, hka04_5, hka04_5, hka04_5, hka04_5, hka04_5, hka04_5, hka04_5, hka04_5, hka04_5, hka04_5, hka04_5, hka04_5, hka04_5, hka04_5, hka04_5, hka04_5, hka04_5, hka04_5, hka04_5, hka04_5, hka04_5, hka04_5, hka04_5, hka04_5, hka04_5, hka04_5, hka04_5, hka04_5, hka04_5, hka04_5, hka04_5, hka04_5, hka04_919, hka04_5, hka04_5, hka04_5, hka04_5, hka04_5, hka04_5, hka04_5, hka04_775, hka04_5, hka04_5, hka04_5, hka04_5, hka04_5, hka04_5, hka04_5, hka04_5]
def hka04_921 : ai_N := (.ofNat 1, .ofNat 62, [(16, .ofNat 1, .ofNat 1)])
def hka04_922 : ai_V := .inl (false, hka04_921)
def hka04_923 : ai_C := .inr (.inr (8, [hka04_25, hka04_26, hka04_344, hka04_346, hka04_31, hka04_32, hka04_348, hka04_35, hka04_350, hka04_352, hka04_40, hka04_325, hka04_354, hka04_356, hka04_47, hka04_51, hka04_53, hka04_358, hka04_360, hka04_362, hka04_364, hka04_366, hka04_62, hka04_922, hka04_65, hka04_66, hka04_370, hka04_69, hka04_70, hka04_71, hka04_72, hka04_73, hka04_74, hka04_372]))
/-- NeverAgainModel.adds -/
def ka_408 : ai_K := (116, 0, (hka04_915, [hka04_0, hka04_906], [], hka04_920), [.inl 1, .inr (59, 2), .inr (59, 3), .inr (59, 6), .inr (59, 8), .inr (59, 9), .inr (59, 11), .inr (59, 12), .inr (59, 13), .inr (59, 15), .inr (59, 16), .inr (59, 17), .inr (59, 18), .inr (59, 19), .inr (59, 20), .inr (59, 21), .inr (59, 23), .inr (59, 26), .inr (59, 33)], [(none, hka04_915, [(59, hka04_923), (67, hka04_774)])])
def kan_408 : List ai_Nd := []
set_option maxRecDepth 1000000 in
theorem kak_408 : ai_ck [] [] ka_408 [.inl 100000] kan_408 14 = true := by decide +kernel
theorem kah_408 : ai_holds ka_408 := ai_thm kak_408 ai_nil
def hka04_924 : Int × Int := (.ofNat 0, .ofNat 64)
def hka04_925 : ai_E := [hka04_903, hka04_7, hka04_8, hka04_9, hka04_10, hka04_11, hka04_12, hka04_10, hka04_13, hka04_14, hka04_14, hka04_14, hka04_15, hka04_12, hka04_16, hka04_14, hka04_924, hka04_12, hka04_11]
def hka04_926 : ai_N := (.ofNat 0, .ofNat 64, [(16, .ofNat 0, .ofNat 0)])
def hka04_927 : ai_V := .inl (false, hka04_926)
def hka04_928 : ai_C := .inr (.inr (8, [hka04_25, hka04_26, hka04_344, hka04_346, hka04_31, hka04_32, hka04_348, hka04_35, hka04_350, hka04_352, hka04_40, hka04_325, hka04_354, hka04_356, hka04_47, hka04_51, hka04_53, hka04_358, hka04_360, hka04_362, hka04_364, hka04_366, hka04_62, hka04_927, hka04_65, hka04_66, hka04_370, hka04_69, hka04_70, hka04_71, hka04_72, hka04_73, hka04_74, hka04_372]))
def hka04_929 : Bool × Option ai_C := (false, some hka04_928)
def hka04_930 : ai_W := [hka04_5, hka04_5, hka04_5, hka04_5, hka04_5, hka04_5, hka04_5, hka04_5, hka04_5, hka04_5, hka04_5, hka04_5, hka04_5, hka04_5, hka04_5, hka04_5, hka04_5, hka04_5, hka04_5, hka04_5, hka04_5, hka04_5, hka04_5, hka04_5, hka04_5, hka04_5, hka04_5, hka04_5, hka04_5, hka04_5, hka04_5, hka04_5, hka04_5, hka04_5, hka04_5, hka04_5, hka04_5, hka04_5, hka04_5, hka04_5, hka04_5, hka04_5, hka04_5, hka04_5, hka04_5, hka04_5, hka04_5, hka04_5, hka04_5, hka04_5, hka04_5, hka04_5, hka04_5, hka04_5, hka04_5, hka04_5, hka04_5, hka04_5, hka04_5, hka04_929, hka04_5, hka04_5, hka04_5, hka04_5, hka04_5, hka04_5, hka04_5, hka04_775, hka04_5, hka04_5, hka04_5, hka04_5, hka04_5, hka04_5, hka04_5, hka04_5]
def hka04_931 : ai_N := (.ofNat 1, .ofNat 65, [(16, .ofNat 1, .ofNat 1)])
def hka04_932 : ai_V := .inl (false, hka04_931)
def hka04_933 : ai_C := .inr (.inr (8, [hka04_25, hka04_26, hka04_344, hka04_346, hka04_31, hka04_32, hka04_348, hka04_35, hka04_350, hka04_352, hka04_40, hka04_325, hka04_354, hka04_356, hka04_47, hka04_51, hka04_53, hka04_358, hka04_360, hka04_362, hka04_364, hka04_366, hka04_62, hka04_932, hka04_65, hka04_66, hka04_370, hka04_69, hka04_70, hka04_71, hka04_72, hka04_73, hka04_74, hka04_372]))
/-- NeverAgainModel.adds -/
def ka_409 : ai_K := (116, 0, (hka04_925, [hka04_0, hka04_906], [], hka04_930), [.inl 1, .inr (59, 2), .inr (59, 3), .inr (59, 6), .inr (59, 8), .inr (59, 9), .inr (59, 11), .inr (59, 12), .inr (59, 13), .inr (59, 15), .inr (59, 16), .inr (59, 17), .inr (59, 18), .inr (59, 19), .inr (59, 20), .inr (59, 21), .inr (59, 23), .inr (59, 26), .inr (59, 33)], [(none, hka04_925, [(59, hka04_933), (67, hka04_774)])])
def kan_409 : List ai_Nd := []
set_option maxRecDepth 1000000 in
theorem kak_409 : ai_ck [] [] ka_409 [.inl 100000] kan_409 14 = true := by decide +kernel
theorem kah_409 : ai_holds ka_409 := ai_thm kak_409 ai_nil
def hka04_934 : Int × Int := (.ofNat 0, .ofNat 120)
def hka04_935 : ai_E := [hka04_903, hka04_7, hka04_8, hka04_9, hka04_10, hka04_11, hka04_12, hka04_10, hka04_13, hka04_14, hka04_14, hka04_14, hka04_15, hka04_12, hka04_16, hka04_14, hka04_934, hka04_12, hka04_11]
def hka04_936 : ai_N := (.ofNat 0, .ofNat 120, [(16, .ofNat 0, .ofNat 0)])
def hka04_937 : ai_V := .inl (false, hka04_936)
def hka04_938 : ai_C := .inr (.inr (8, [hka04_25, hka04_26, hka04_344, hka04_346, hka04_31, hka04_32, hka04_348, hka04_35, hka04_350, hka04_352, hka04_40, hka04_325, hka04_354, hka04_356, hka04_47, hka04_51, hka04_53, hka04_358, hka04_360, hka04_362, hka04_364, hka04_366, hka04_62, hka04_937, hka04_65, hka04_66, hka04_370, hka04_69, hka04_70, hka04_71, hka04_72, hka04_73, hka04_74, hka04_372]))
def hka04_939 : Bool × Option ai_C := (false, some hka04_938)
def hka04_940 : ai_W := [hka04_5, hka04_5, hka04_5, hka04_5, hka04_5, hka04_5, hka04_5, hka04_5, hka04_5, hka04_5, hka04_5, hka04_5, hka04_5, hka04_5, hka04_5, hka04_5, hka04_5, hka04_5, hka04_5, hka04_5, hka04_5, hka04_5, hka04_5, hka04_5, hka04_5, hka04_5, hka04_5, hka04_5, hka04_5, hka04_5, hka04_5, hka04_5, hka04_5, hka04_5, hka04_5, hka04_5, hka04_5, hka04_5, hka04_5, hka04_5, hka04_5, hka04_5, hka04_5, hka04_5, hka04_5, hka04_5, hka04_5, hka04_5, hka04_5, hka04_5, hka04_5, hka04_5, hka04_5, hka04_5, hka04_5, hka04_5, hka04_5, hka04_5, hka04_5, hka04_939, hka04_5, hka04_5, hka04_5, hka04_5, hka04_5, hka04_5, hka04_5, hka04_775, hka04_5, hka04_5, hka04_5, hka04_5, hka04_5, hka04_5, hka04_5, hka04_5]
def hka04_941 : ai_N := (.ofNat 1, .ofNat 121, [(16, .ofNat 1, .ofNat 1)])
def hka04_942 : ai_V := .inl (false, hka04_941)
def hka04_943 : ai_C := .inr (.inr (8, [hka04_25, hka04_26, hka04_344, hka04_346, hka04_31, hka04_32, hka04_348, hka04_35, hka04_350, hka04_352, hka04_40, hka04_325, hka04_354, hka04_356, hka04_47, hka04_51, hka04_53, hka04_358, hka04_360, hka04_362, hka04_364, hka04_366, hka04_62, hka04_942, hka04_65, hka04_66, hka04_370, hka04_69, hka04_70, hka04_71, hka04_72, hka04_73, hka04_74, hka04_372]))
/-- NeverAgainModel.adds -/
def ka_414 : ai_K := (116, 0, (hka04_935, [hka04_0, hka04_906], [], hka04_940), [.inl 1, .inr (59, 2), .inr (59, 3), .inr (59, 6), .inr (59, 8), .inr (59, 9), .inr (59, 11), .inr (59, 12), .inr (59, 13), .inr (59, 15), .inr (59, 16), .inr (59, 17), .inr (59, 18), .inr (59, 19), .inr (59, 20), .inr (59, 21), .inr (59, 23), .inr (59, 26), .inr (59, 33)], [(none, hka04_935, [(59, hka04_943), (67, hka04_774)])])
def kan_414 : List ai_Nd := []
set_option maxRecDepth 1000000 in
theorem kak_414 : ai_ck [] [] ka_414 [.inl 100000] kan_414 14 = true := by decide +kernel
theorem kah_414 : ai_holds ka_414 := ai_thm kak_414 ai_nil
def hka04_944 : ai_N := (.ofNat 0, .ofNat 61, [])
def hka04_945 : ai_V := .inl (false, hka04_944)
def hka04_946 : ai_N := (.ofNat 0, .ofNat 121, [(18, .ofNat 0, .ofNat 121)])
def hka04_947 : ai_V := .inl (false, hka04_946)
def hka04_948 : ai_C := .inr (.inr (8, [hka04_25, hka04_26, hka04_28, hka04_30, hka04_31, hka04_32, hka04_34, hka04_35, hka04_37, hka04_39, hka04_40, hka04_42, hka04_44, hka04_46, hka04_47, hka04_49, hka04_51, hka04_53, hka04_55, hka04_57, hka04_59, hka04_61, hka04_62, hka04_947, hka04_65, hka04_66, hka04_68, hka04_69, hka04_70, hka04_71, hka04_72, hka04_73, hka04_74, hka04_76]))
/-- NeverAgainModel.holds -/
def ka_415 : ai_K := (38, 1, (hka04_772, [hka04_0, hka04_24, hka04_24, hka04_24], [], hka04_776), [.inr (59, 2), .inr (59, 3), .inr (59, 6), .inr (59, 8), .inr (59, 9), .inr (59, 11), .inr (59, 12), .inr (59, 13), .inr (59, 15), .inr (59, 16), .inr (59, 17), .inr (59, 18), .inr (59, 19), .inr (59, 20), .inr (59, 21), .inr (59, 23), .inr (59, 26), .inr (59, 33), .inr (60, 0), .inr (60, 78), .inr (60, 79), .inr (60, 80), .inr (60, 81), .inr (60, 87), .inr (60, 96), .inr (60, 174), .inr (60, 175), .inr (60, 176), .inr (60, 177), .inr (60, 183), .inr (60, 192), .inr (60, 270), .inr (60, 271), .inr (60, 272), .inr (60, 273), .inr (60, 279)], [(some hka04_945, hka04_772, [(59, hka04_948), (67, hka04_774)])])
def hka04_949 : ai_E := [hka04_7, hka04_8, hka04_9, hka04_10, hka04_11, hka04_12, hka04_10, hka04_13, hka04_14, hka04_14, hka04_14, hka04_15, hka04_12, hka04_16, hka04_14, hka04_17, hka04_12, hka04_11, hka04_18, hka04_19, hka04_20, hka04_21, hka04_22, hka04_11, hka04_18, hka04_19, hka04_20, hka04_21, hka04_22, hka04_11, hka04_18, hka04_19, hka04_20, hka04_21, hka04_22, hka04_11, hka04_898]
def hka04_950 : ai_N := (.ofNat 0, .ofNat 61, [(36, .ofNat 0, .ofNat 0)])
def hka04_951 : ai_V := .inl (false, hka04_950)
def hka04_952 : ai_N := (.ofNat 0, .ofNat 121, [(18, .ofNat 0, .ofNat 121), (36, .ofNat 0, .ofNat 60)])
def hka04_953 : ai_V := .inl (false, hka04_952)
def hka04_954 : ai_C := .inr (.inr (8, [hka04_25, hka04_26, hka04_28, hka04_30, hka04_31, hka04_32, hka04_34, hka04_35, hka04_37, hka04_39, hka04_40, hka04_42, hka04_44, hka04_46, hka04_47, hka04_49, hka04_51, hka04_53, hka04_55, hka04_57, hka04_59, hka04_61, hka04_62, hka04_953, hka04_65, hka04_66, hka04_68, hka04_69, hka04_70, hka04_71, hka04_72, hka04_73, hka04_74, hka04_76]))
def hka04_955 : Bool × Option ai_C := (true, some hka04_954)
def hka04_956 : ai_W := [hka04_5, hka04_5, hka04_5, hka04_5, hka04_5, hka04_5, hka04_5, hka04_5, hka04_5, hka04_5, hka04_5, hka04_5, hka04_5, hka04_5, hka04_5, hka04_5, hka04_5, hka04_5, hka04_5, hka04_5, hka04_5, hka04_5, hka04_5, hka04_5, hka04_5, hka04_5, hka04_5, hka04_5, hka04_5, hka04_5, hka04_5, hka04_5, hka04_5, hka04_5, hka04_5, hka04_5, hka04_5, hka04_5, hka04_5, hka04_5, hka04_5, hka04_5, hka04_5, hka04_5, hka04_5, hka04_5, hka04_5, hka04_5, hka04_5, hka04_5, hka04_5, hka04_5, hka04_5, hka04_5, hka04_5, hka04_5, hka04_5, hka04_5, hka04_5, hka04_955, hka04_102, hka04_5, hka04_5, hka04_5, hka04_5, hka04_5, hka04_5, hka04_782, hka04_5, hka04_5, hka04_5, hka04_5, hka04_5, hka04_5, hka04_5, hka04_5]
def hka04_957 : ai_E := [hka04_7, hka04_8, hka04_9, hka04_10, hka04_11, hka04_12, hka04_10, hka04_13, hka04_14, hka04_14, hka04_14, hka04_15, hka04_12, hka04_16, hka04_14, hka04_17, hka04_12, hka04_11, hka04_18, hka04_19, hka04_20, hka04_21, hka04_22, hka04_11, hka04_18, hka04_19, hka04_20, hka04_21, hka04_22, hka04_11, hka04_18, hka04_19, hka04_20, hka04_21, hka04_22, hka04_11, hka04_737, hka04_898]
def hka04_958 : ai_N := (.ofNat 0, .ofNat 61, [(37, .ofNat 0, .ofNat 0)])
def hka04_959 : ai_V := .inl (false, hka04_958)
def hka04_960 : ai_N := (.ofNat 0, .ofNat 121, [(18, .ofNat 0, .ofNat 121), (37, .ofNat 0, .ofNat 60)])
def hka04_961 : ai_V := .inl (false, hka04_960)
def hka04_962 : ai_C := .inr (.inr (8, [hka04_25, hka04_26, hka04_28, hka04_30, hka04_31, hka04_32, hka04_34, hka04_35, hka04_37, hka04_39, hka04_40, hka04_42, hka04_44, hka04_46, hka04_47, hka04_49, hka04_51, hka04_53, hka04_55, hka04_57, hka04_59, hka04_61, hka04_62, hka04_961, hka04_65, hka04_66, hka04_68, hka04_69, hka04_70, hka04_71, hka04_72, hka04_73, hka04_74, hka04_76]))
def hka04_963 : Bool × Option ai_C := (true, some hka04_962)
def hka04_964 : ai_W := [hka04_5, hka04_5, hka04_5, hka04_5, hka04_5, hka04_5, hka04_5, hka04_5, hka04_5, hka04_5, hka04_5, hka04_5, hka04_5, hka04_5, hka04_5, hka04_5, hka04_5, hka04_5, hka04_5, hka04_5, hka04_5, hka04_5, hka04_5, hka04_5, hka04_5, hka04_5, hka04_5, hka04_5, hka04_5, hka04_5, hka04_5, hka04_5, hka04_5, hka04_5, hka04_5, hka04_5, hka04_5, hka04_5, hka04_5, hka04_5, hka04_5, hka04_5, hka04_5, hka04_5, hka04_5, hka04_5, hka04_5, hka04_5, hka04_5, hka04_5, hka04_5, hka04_5, hka04_5, hka04_5, hka04_5, hka04_5, hka04_5, hka04_5, hka04_5, hka04_963, hka04_102, hka04_5, hka04_5, hka04_5, hka04_5, hka04_5, hka04_5, hka04_782, hka04_5, hka04_5, hka04_5, hka04_5, hka04_5, hka04_5, hka04_5, hka04_5]
def kan_415 : List ai_Nd := [(8, (hka04_949, [hka04_0, hka04_951, hka04_2, hka04_24], [], hka04_956), [.inl 1], [.inl 99991, .inl 2, .inr (true, .ofNat 61, 36), .inl 100000, .inl 0, .inl 0, .inl 0]), (14, (hka04_957, [hka04_0, hka04_959, hka04_2, hka04_796], [], hka04_964), [.inl 3, .inl 1], [.inl 99991, .inl 2, .inr (true, .ofNat 61, 37), .inl 99985, .inl 1, .inr (true, .ofNat 17, 36), .inl 100000]), (8, (hka04_957, [hka04_0, hka04_959, hka04_119, hka04_796], [], hka04_964), [.inl 3, .inl 1], [.inl 99991, .inl 1, .inr (true, .ofNat 61, 37), .inl 100000, .inl 0, .inl 0, .inl 0])]
set_option maxRecDepth 1000000 in
theorem kak_415 : ai_ck [ka_414, ka_380, ka_381] [] ka_415 [.inl 100000, .inl 0, .inl 0, .inl 0, .inl 0, .inl 0, .inl 0] kan_415 27 = true := by decide +kernel
theorem kah_415 : ai_holds ka_415 := ai_thm kak_415 (ai_cons kah_414 (ai_cons kah_380 (ai_cons kah_381 ai_nil)))
def hka04_965 : ai_C := .inl (.int, [(12, hka04_80)])
def hka04_966 : Bool × Option ai_C := (false, some hka04_965)
def hka04_967 : ai_W := [hka04_313, hka04_337, hka04_5, hka04_5, hka04_5, hka04_5, hka04_5, hka04_5, hka04_5, hka04_5, hka04_5, hka04_5, hka04_5, hka04_5, hka04_5, hka04_5, hka04_5, hka04_5, hka04_5, hka04_5, hka04_5, hka04_5, hka04_5, hka04_5, hka04_5, hka04_5, hka04_5, hka04_5, hka04_5, hka04_5, hka04_5, hka04_5, hka04_5, hka04_966, hka04_5, hka04_5, hka04_5, hka04_5, hka04_5, hka04_5, hka04_5, hka04_5, hka04_5, hka04_5, hka04_5, hka04_5, hka04_5, hka04_5, hka04_5, hka04_5, hka04_5, hka04_5, hka04_5, hka04_5, hka04_5, hka04_5, hka04_5, hka04_5, hka04_5, hka04_5, hka04_5, hka04_5, hka04_5, hka04_5, hka04_5, hka04_5, hka04_5, hka04_5, hka04_5, hka04_5, hka04_5, hka04_5, hka04_5, hka04_5, hka04_5, hka04_5]
def hka04_968 : Int × Int := (.ofNat 12, .ofNat 12)
def hka04_969 : ai_E := [hka04_473, hka04_968, hka04_16, hka04_11, hka04_7, hka04_8, hka04_12, hka04_12, hka04_12, hka04_18, hka04_22, hka04_11]
def hka04_970 : ai_N := (.ofNat 1, .ofNat 12, [(1, .ofNat 1, .ofNat 1)])
def hka04_971 : ai_V := .inl (false, hka04_970)
def hka04_972 : Int × Int := (.ofNat 0, .ofNat 11)
def hka04_973 : ai_E := [hka04_473, hka04_972, hka04_16, hka04_11, hka04_7, hka04_8, hka04_12, hka04_12, hka04_12, hka04_18, hka04_22, hka04_11]
def hka04_974 : ai_C := .inr (.inr (7, [hka04_283, hka04_284, hka04_285, hka04_286, hka04_287, hka04_288, hka04_289, hka04_290, hka04_291, hka04_292, hka04_293, hka04_971, hka04_309, hka04_311]))
def hka04_975 : ai_E := [hka04_125, hka04_968, hka04_16, hka04_11, hka04_7, hka04_8, hka04_12, hka04_12, hka04_12, hka04_18, hka04_22, hka04_11]
def hka04_976 : ai_E := [hka04_125, hka04_972, hka04_16, hka04_11, hka04_7, hka04_8, hka04_12, hka04_12, hka04_12, hka04_18, hka04_22, hka04_11]
/-- NeverAgain.tell -/
def ka_416 : ai_K := (39, 1, (hka04_303, [hka04_282, hka04_305], [], hka04_967), [.inl 1, .inr (0, 11), .inr (0, 12), .inr (0, 13), .inr (1, 6), .inr (1, 7), .inr (1, 8), .inr (1, 9), .inr (1, 10), .inr (1, 11), .inr (1, 12), .inr (1, 13)], [(some hka04_341, hka04_482, []), (some hka04_341, hka04_483, []), (some hka04_865, hka04_969, []), (some hka04_971, hka04_973, [(0, hka04_974), (33, hka04_965)]), (some hka04_865, hka04_975, []), (some hka04_971, hka04_976, [(0, hka04_974), (33, hka04_965)])])
def kan_416 : List ai_Nd := []
set_option maxRecDepth 1000000 in
theorem kak_416 : ai_ck [ka_355] [] ka_416 [.inl 100000] kan_416 27 = true := by decide +kernel
theorem kah_416 : ai_holds ka_416 := ai_thm kak_416 (ai_cons kah_355 ai_nil)
def hka04_977 : ai_W := [hka04_5, hka04_5, hka04_5, hka04_5, hka04_5, hka04_5, hka04_5, hka04_5, hka04_5, hka04_5, hka04_5, hka04_5, hka04_5, hka04_5, hka04_5, hka04_5, hka04_5, hka04_5, hka04_5, hka04_5, hka04_5, hka04_5, hka04_5, hka04_5, hka04_5, hka04_5, hka04_5, hka04_5, hka04_5, hka04_5, hka04_5, hka04_5, hka04_5, hka04_5, hka04_5, hka04_5, hka04_5, hka04_5, hka04_5, hka04_5, hka04_5, hka04_5, hka04_5, hka04_5, hka04_5, hka04_5, hka04_5, hka04_5, hka04_5, hka04_5, hka04_5, hka04_5, hka04_5, hka04_5, hka04_5, hka04_5, hka04_5, hka04_5, hka04_5, hka04_374, hka04_5, hka04_5, hka04_5, hka04_966, hka04_5, hka04_5, hka04_5, hka04_5, hka04_5, hka04_5, hka04_5, hka04_5, hka04_5, hka04_5, hka04_5, hka04_5]
def hka04_978 : ai_E := [hka04_10, hka04_7, hka04_8, hka04_968, hka04_10, hka04_11, hka04_12, hka04_10, hka04_13, hka04_14, hka04_14, hka04_14, hka04_15, hka04_12, hka04_16, hka04_14, hka04_17, hka04_12, hka04_11]
def hka04_979 : ai_N := (.ofNat 1, .ofNat 12, [(3, .ofNat 1, .ofNat 1)])
def hka04_980 : ai_V := .inl (false, hka04_979)
def hka04_981 : ai_E := [hka04_10, hka04_7, hka04_8, hka04_972, hka04_10, hka04_11, hka04_12, hka04_10, hka04_13, hka04_14, hka04_14, hka04_14, hka04_15, hka04_12, hka04_16, hka04_14, hka04_17, hka04_12, hka04_11]
def hka04_982 : ai_C := .inr (.inr (8, [hka04_25, hka04_26, hka04_344, hka04_346, hka04_31, hka04_32, hka04_980, hka04_35, hka04_350, hka04_352, hka04_40, hka04_325, hka04_354, hka04_356, hka04_47, hka04_51, hka04_53, hka04_358, hka04_360, hka04_362, hka04_364, hka04_366, hka04_62, hka04_368, hka04_65, hka04_66, hka04_370, hka04_69, hka04_70, hka04_71, hka04_72, hka04_73, hka04_74, hka04_372]))
/-- NeverAgainModel.tell -/
def ka_417 : ai_K := (40, 2, (hka04_460, [hka04_0, hka04_305], [], hka04_977), [.inl 1, .inr (59, 2), .inr (59, 3), .inr (59, 6), .inr (59, 8), .inr (59, 9), .inr (59, 11), .inr (59, 12), .inr (59, 13), .inr (59, 15), .inr (59, 16), .inr (59, 17), .inr (59, 18), .inr (59, 19), .inr (59, 20), .inr (59, 21), .inr (59, 23), .inr (59, 26), .inr (59, 33)], [(some hka04_341, hka04_460, []), (some hka04_865, hka04_978, []), (some hka04_980, hka04_981, [(59, hka04_982), (63, hka04_965)])])
def kan_417 : List ai_Nd := []
set_option maxRecDepth 1000000 in
theorem kak_417 : ai_ck [ka_358] [] ka_417 [.inl 100000] kan_417 26 = true := by decide +kernel
theorem kah_417 : ai_holds ka_417 := ai_thm kak_417 (ai_cons kah_358 ai_nil)
def hka04_983 : ai_E := [hka04_12, hka04_9, hka04_16, hka04_11]
def hka04_984 : ai_W := [hka04_313, hka04_5, hka04_5, hka04_5, hka04_5, hka04_5, hka04_5, hka04_5, hka04_5, hka04_5, hka04_5, hka04_5, hka04_5, hka04_5, hka04_5, hka04_5, hka04_5, hka04_5, hka04_5, hka04_5, hka04_5, hka04_5, hka04_5, hka04_5, hka04_5, hka04_5, hka04_5, hka04_5, hka04_5, hka04_5, hka04_5, hka04_5, hka04_5, hka04_5, hka04_5, hka04_5, hka04_5, hka04_5, hka04_5, hka04_5, hka04_5, hka04_5, hka04_5, hka04_5, hka04_5, hka04_5, hka04_5, hka04_5, hka04_5, hka04_5, hka04_5, hka04_5, hka04_5, hka04_5, hka04_5, hka04_5, hka04_5, hka04_5, hka04_5, hka04_5, hka04_5, hka04_5, hka04_5, hka04_5, hka04_5, hka04_5, hka04_5, hka04_5, hka04_5, hka04_5, hka04_5, hka04_5, hka04_5, hka04_5, hka04_5, hka04_5]
def hka04_985 : ai_E := [hka04_414, hka04_9, hka04_16, hka04_11]
def hka04_986 : ai_E := [hka04_9, hka04_9, hka04_16, hka04_11]
def hka04_987 : ai_C := .inr (.inr (7, [hka04_283, hka04_284, hka04_285, hka04_286, hka04_287, hka04_288, hka04_289, hka04_290, hka04_291, hka04_292, hka04_293, hka04_295, hka04_309, hka04_311]))
def hka04_988 : ai_E := [hka04_406, hka04_9, hka04_16, hka04_11]
/-- NeverAgain.cut -/
def ka_418 : ai_K := (41, 0, (hka04_983, [hka04_282, hka04_305, hka04_24], [], hka04_984), [.inl 1, .inr (0, 11), .inr (0, 12), .inr (0, 13)], [(some hka04_341, hka04_985, []), (some hka04_307, hka04_986, [(0, hka04_987)]), (some hka04_341, hka04_988, [])])
def kan_418 : List ai_Nd := []
set_option maxRecDepth 1000000 in
theorem kak_418 : ai_ck [] [] ka_418 [.inl 100000] kan_418 14 = true := by decide +kernel
theorem kah_418 : ai_holds ka_418 := ai_thm kak_418 ai_nil
def hka04_989 : ai_E := [hka04_12, hka04_9]
def hka04_990 : ai_V := .inl (true, hka04_306)
def hka04_991 : ai_E := [hka04_414, hka04_9]
def hka04_992 : Int × Int := (.ofNat 1, .ofNat 12)
def hka04_993 : ai_E := [hka04_992, hka04_992]
def hka04_994 : Int × Int := (.ofNat 1, .ofNat 11)
def hka04_995 : Int × Int := (.ofNat 2, .ofNat 12)
def hka04_996 : ai_E := [hka04_994, hka04_995]
def hka04_997 : ai_E := [hka04_125, hka04_992]
def hka04_998 : ai_E := [hka04_406, hka04_9]
/-- NeverAgainModel.in -/
def ka_419 : ai_K := (93, 0, (hka04_989, [hka04_410, hka04_24, hka04_411, hka04_24, hka04_990, hka04_24], [], hka04_6), [.inl 0, .inl 4], [(some hka04_119, hka04_991, []), (some hka04_2, hka04_993, []), (some hka04_2, hka04_996, []), (some hka04_2, hka04_423, []), (some hka04_2, hka04_997, []), (some hka04_119, hka04_998, [])])
def kan_419 : List ai_Nd := []
set_option maxRecDepth 1000000 in
theorem kak_419 : ai_ck [] [] ka_419 [.inl 100000] kan_419 12 = true := by decide +kernel
theorem kah_419 : ai_holds ka_419 := ai_thm kak_419 ai_nil
def hka04_999 : ai_N := (.ofNat 1, .ofNat 12, [(3, .ofNat 0, .ofNat 0)])
def hka04_1000 : ai_V := .inl (false, hka04_999)
def hka04_1001 : ai_E := [hka04_125, hka04_7, hka04_8, hka04_992, hka04_10, hka04_11, hka04_12, hka04_10, hka04_13, hka04_14, hka04_14, hka04_14, hka04_15, hka04_12, hka04_16, hka04_14, hka04_17, hka04_12, hka04_11]
def hka04_1002 : ai_V := .inl (false, hka04_513)
def hka04_1003 : ai_C := .inr (.inr (8, [hka04_25, hka04_26, hka04_344, hka04_346, hka04_31, hka04_32, hka04_1002, hka04_35, hka04_350, hka04_352, hka04_40, hka04_325, hka04_354, hka04_356, hka04_47, hka04_51, hka04_53, hka04_358, hka04_360, hka04_362, hka04_364, hka04_366, hka04_62, hka04_368, hka04_65, hka04_66, hka04_370, hka04_69, hka04_70, hka04_71, hka04_72, hka04_73, hka04_74, hka04_372]))
def hka04_1004 : ai_N := (.ofNat 0, .ofNat 0, [(3, .ofNat 0, .ofNat 0)])
def hka04_1005 : ai_V := .inl (false, hka04_1004)
def hka04_1006 : ai_E := [hka04_125, hka04_7, hka04_8, hka04_125, hka04_10, hka04_11, hka04_12, hka04_10, hka04_13, hka04_14, hka04_14, hka04_14, hka04_15, hka04_12, hka04_16, hka04_14, hka04_17, hka04_12, hka04_11]
def hka04_1007 : ai_N := (.ofNat 2, .ofNat 12, [(3, .ofNat 0, .ofNat 0)])
def hka04_1008 : ai_V := .inl (false, hka04_1007)
def hka04_1009 : ai_E := [hka04_994, hka04_7, hka04_8, hka04_995, hka04_10, hka04_11, hka04_12, hka04_10, hka04_13, hka04_14, hka04_14, hka04_14, hka04_15, hka04_12, hka04_16, hka04_14, hka04_17, hka04_12, hka04_11]
def hka04_1010 : ai_N := (.ofNat 1, .ofNat 11, [(0, .ofNat 0, .ofNat 0)])
def hka04_1011 : ai_V := .inl (false, hka04_1010)
def hka04_1012 : ai_C := .inr (.inr (8, [hka04_25, hka04_26, hka04_344, hka04_346, hka04_31, hka04_32, hka04_1011, hka04_35, hka04_350, hka04_352, hka04_40, hka04_325, hka04_354, hka04_356, hka04_47, hka04_51, hka04_53, hka04_358, hka04_360, hka04_362, hka04_364, hka04_366, hka04_62, hka04_368, hka04_65, hka04_66, hka04_370, hka04_69, hka04_70, hka04_71, hka04_72, hka04_73, hka04_74, hka04_372]))
def hka04_1013 : ai_E := [hka04_992, hka04_7, hka04_8, hka04_992, hka04_10, hka04_11, hka04_12, hka04_10, hka04_13, hka04_14, hka04_14, hka04_14, hka04_15, hka04_12, hka04_16, hka04_14, hka04_17, hka04_12, hka04_11]
def hka04_1014 : ai_N := (.ofNat 1, .ofNat 12, [(0, .ofNat 0, .ofNat 0)])
def hka04_1015 : ai_V := .inl (false, hka04_1014)
def hka04_1016 : ai_C := .inr (.inr (8, [hka04_25, hka04_26, hka04_344, hka04_346, hka04_31, hka04_32, hka04_1015, hka04_35, hka04_350, hka04_352, hka04_40, hka04_325, hka04_354, hka04_356, hka04_47, hka04_51, hka04_53, hka04_358, hka04_360, hka04_362, hka04_364, hka04_366, hka04_62, hka04_368, hka04_65, hka04_66, hka04_370, hka04_69, hka04_70, hka04_71, hka04_72, hka04_73, hka04_74, hka04_372]))
/-- NeverAgainModel.cut -/
def ka_420 : ai_K := (42, 1, (hka04_460, [hka04_0, hka04_305, hka04_24], [], hka04_461), [.inl 1, .inr (59, 2), .inr (59, 3), .inr (59, 6), .inr (59, 8), .inr (59, 9), .inr (59, 11), .inr (59, 12), .inr (59, 13), .inr (59, 15), .inr (59, 16), .inr (59, 17), .inr (59, 18), .inr (59, 19), .inr (59, 20), .inr (59, 21), .inr (59, 23), .inr (59, 26), .inr (59, 33)], [(some hka04_341, hka04_462, []), (some hka04_1000, hka04_1001, [(59, hka04_1003)]), (some hka04_1005, hka04_1006, [(59, hka04_1003)]), (some hka04_1008, hka04_1009, [(59, hka04_1012)]), (some hka04_1000, hka04_1013, [(59, hka04_1016)]), (some hka04_341, hka04_470, [])])
def kan_420 : List ai_Nd := []
set_option maxRecDepth 1000000 in
theorem kak_420 : ai_ck [ka_419] [] ka_420 [.inl 100000] kan_420 17 = true := by decide +kernel
theorem kah_420 : ai_holds ka_420 := ai_thm kak_420 (ai_cons kah_419 ai_nil)
def hka04_1017 : ai_W := [hka04_313, hka04_337, hka04_5, hka04_480, hka04_400, hka04_5, hka04_5, hka04_5, hka04_5, hka04_5, hka04_5, hka04_5, hka04_5, hka04_5, hka04_5, hka04_5, hka04_5, hka04_825, hka04_685, hka04_687, hka04_667, hka04_5, hka04_5, hka04_5, hka04_5, hka04_5, hka04_5, hka04_5, hka04_5, hka04_5, hka04_5, hka04_5, hka04_5, hka04_966, hka04_5, hka04_5, hka04_5, hka04_5, hka04_5, hka04_5, hka04_5, hka04_5, hka04_5, hka04_5, hka04_5, hka04_5, hka04_5, hka04_5, hka04_5, hka04_5, hka04_5, hka04_5, hka04_5, hka04_5, hka04_5, hka04_5, hka04_5, hka04_5, hka04_5, hka04_5, hka04_5, hka04_5, hka04_5, hka04_5, hka04_5, hka04_5, hka04_5, hka04_5, hka04_5, hka04_5, hka04_5, hka04_5, hka04_5, hka04_5, hka04_5, hka04_5]
def hka04_1018 : ai_N := (.ofNat 0, .ofNat 11, [])
def hka04_1019 : ai_V := .inl (false, hka04_1018)
def hka04_1020 : ai_E := [hka04_125, hka04_992, hka04_16, hka04_11, hka04_7, hka04_8, hka04_12, hka04_12, hka04_12, hka04_18, hka04_22, hka04_11, hka04_676]
def hka04_1021 : ai_E := [hka04_465, hka04_992, hka04_16, hka04_11, hka04_7, hka04_8, hka04_12, hka04_12, hka04_12, hka04_18, hka04_22, hka04_11, hka04_676]
def hka04_1022 : ai_E := [hka04_20, hka04_9, hka04_16, hka04_11, hka04_7, hka04_8, hka04_12, hka04_12, hka04_12, hka04_18, hka04_22, hka04_11, hka04_676]
/-- NeverAgain.judge -/
def ka_421 : ai_K := (43, 2, (hka04_821, [hka04_282, hka04_305, hka04_24, hka04_24, hka04_24, hka04_24], [], hka04_1017), [.inl 1, .inr (0, 11), .inr (0, 12), .inr (0, 13), .inr (1, 6), .inr (1, 7), .inr (1, 8), .inr (1, 9), .inr (1, 10), .inr (1, 11), .inr (1, 12), .inr (1, 13), .inr (17, 4)], [(some hka04_341, hka04_821, []), (some hka04_1019, hka04_1020, [(17, hka04_725), (18, hka04_684), (19, hka04_686), (20, hka04_666)]), (some hka04_2, hka04_1021, [(17, hka04_725), (18, hka04_684), (19, hka04_686), (20, hka04_666)]), (some hka04_119, hka04_1021, [(17, hka04_725), (18, hka04_684), (19, hka04_686), (20, hka04_666)]), (some hka04_814, hka04_1022, [(17, hka04_725), (18, hka04_684), (19, hka04_686), (20, hka04_666)])])
def hka04_1023 : ai_E := [hka04_20, hka04_9, hka04_16, hka04_11, hka04_7, hka04_8, hka04_12, hka04_12, hka04_12, hka04_18, hka04_22, hka04_11, hka04_676, hka04_9]
def hka04_1024 : ai_N := (.ofNat 0, .ofNat 12, [(13, .ofNat 0, .ofNat 0)])
def hka04_1025 : ai_V := .inl (false, hka04_1024)
def hka04_1026 : ai_W := [hka04_313, hka04_337, hka04_5, hka04_480, hka04_400, hka04_5, hka04_5, hka04_5, hka04_5, hka04_5, hka04_5, hka04_5, hka04_5, hka04_5, hka04_5, hka04_5, hka04_5, hka04_727, hka04_728, hka04_729, hka04_674, hka04_5, hka04_5, hka04_5, hka04_5, hka04_5, hka04_5, hka04_5, hka04_5, hka04_5, hka04_5, hka04_5, hka04_5, hka04_966, hka04_5, hka04_5, hka04_5, hka04_5, hka04_5, hka04_5, hka04_5, hka04_5, hka04_5, hka04_5, hka04_5, hka04_5, hka04_5, hka04_5, hka04_5, hka04_5, hka04_5, hka04_5, hka04_5, hka04_5, hka04_5, hka04_5, hka04_5, hka04_5, hka04_5, hka04_5, hka04_5, hka04_5, hka04_5, hka04_5, hka04_5, hka04_5, hka04_5, hka04_5, hka04_5, hka04_5, hka04_5, hka04_5, hka04_5, hka04_5, hka04_5, hka04_5]
def kan_421 : List ai_Nd := [(25, (hka04_1023, [hka04_282, hka04_528, hka04_1025, hka04_24, hka04_24, hka04_24], [], hka04_1026), [.inl 2], [.inl 99974, .inl 1, .inr (true, .ofNat 12, 13), .inl 100000])]
set_option maxRecDepth 1000000 in
theorem kak_421 : ai_ck [ka_375, ka_374, ka_376, ka_378, ka_387] [] ka_421 [.inl 100000, .inl 0, .inl 0, .inl 0] kan_421 46 = true := by decide +kernel
theorem kah_421 : ai_holds ka_421 := ai_thm kak_421 (ai_cons kah_375 (ai_cons kah_374 (ai_cons kah_376 (ai_cons kah_378 (ai_cons kah_387 ai_nil)))))

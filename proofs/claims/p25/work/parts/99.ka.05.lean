/-! CONTRACTS found by wip/ai/an.py, each held by the kernel. -/
def hka05_0 : Int × Int := (.negSucc 3, .ofNat 16)
def hka05_1 : Int × Int := (.ofNat 4, .ofNat 16)
def hka05_2 : Int × Int := (.ofNat 1, .ofNat 4)
def hka05_3 : Int × Int := (.ofNat 0, .ofNat 12)
def hka05_4 : Int × Int := (.ofNat 0, .ofNat 16)
def hka05_5 : Int × Int := (.ofNat 0, .ofNat 4)
def hka05_6 : Int × Int := (.negSucc 2147483647, .ofNat 2147483647)
def hka05_7 : Int × Int := (.negSucc 3, .ofNat 3)
def hka05_8 : Int × Int := (.ofNat 0, .ofNat 400)
def hka05_9 : Int × Int := (.ofNat 0, .ofNat 3)
def hka05_10 : Int × Int := (.ofNat 0, .ofNat 6)
def hka05_11 : Int × Int := (.ofNat 0, .ofNat 62)
def hka05_12 : ai_E := [hka05_0, hka05_1, hka05_2, hka05_3, hka05_4, hka05_5, hka05_6, hka05_4, hka05_7, hka05_8, hka05_8, hka05_8, hka05_9, hka05_6, hka05_10, hka05_8, hka05_11, hka05_6, hka05_5]
def hka05_13 : ai_V := .inr (some (.ref 59))
def hka05_14 : ai_N := (.negSucc 3, .ofNat 16, [(0, .ofNat 0, .ofNat 0)])
def hka05_15 : ai_V := .inl (false, hka05_14)
def hka05_16 : Bool × Option ai_C := (false, none)
def hka05_17 : ai_V := .inr (some (.ref 60))
def hka05_18 : ai_V := .inr (some (.ref 61))
def hka05_19 : ai_N := (.ofNat 4, .ofNat 16, [(1, .ofNat 0, .ofNat 0)])
def hka05_20 : ai_V := .inl (false, hka05_19)
def hka05_21 : ai_N := (.ofNat 1, .ofNat 4, [(2, .ofNat 0, .ofNat 0)])
def hka05_22 : ai_V := .inl (false, hka05_21)
def hka05_23 : ai_V := .inr (some (.ref 62))
def hka05_24 : ai_V := .inr (some (.ref 63))
def hka05_25 : ai_N := (.ofNat 0, .ofNat 12, [(3, .ofNat 0, .ofNat 0)])
def hka05_26 : ai_V := .inl (false, hka05_25)
def hka05_27 : ai_V := .inr (some (.ref 64))
def hka05_28 : ai_N := (.ofNat 0, .ofNat 16, [(4, .ofNat 0, .ofNat 0)])
def hka05_29 : ai_V := .inl (false, hka05_28)
def hka05_30 : ai_N := (.ofNat 0, .ofNat 4, [(5, .ofNat 0, .ofNat 0)])
def hka05_31 : ai_V := .inl (false, hka05_30)
def hka05_32 : ai_V := .inr (some (.ref 65))
def hka05_33 : ai_N := (.negSucc 2147483647, .ofNat 2147483647, [(6, .ofNat 0, .ofNat 0)])
def hka05_34 : ai_V := .inl (false, hka05_33)
def hka05_35 : ai_N := (.ofNat 0, .ofNat 16, [(7, .ofNat 0, .ofNat 0)])
def hka05_36 : ai_V := .inl (false, hka05_35)
def hka05_37 : ai_N := (.negSucc 3, .ofNat 3, [(8, .ofNat 0, .ofNat 0)])
def hka05_38 : ai_V := .inl (false, hka05_37)
def hka05_39 : ai_V := .inr (some (.ref 66))
def hka05_40 : ai_N := (.ofNat 0, .ofNat 400, [(9, .ofNat 0, .ofNat 0)])
def hka05_41 : ai_V := .inl (false, hka05_40)
def hka05_42 : ai_N := (.ofNat 0, .ofNat 400, [(10, .ofNat 0, .ofNat 0)])
def hka05_43 : ai_V := .inl (false, hka05_42)
def hka05_44 : ai_N := (.ofNat 0, .ofNat 400, [(11, .ofNat 0, .ofNat 0)])
def hka05_45 : ai_V := .inl (false, hka05_44)
def hka05_46 : ai_N := (.ofNat 0, .ofNat 3, [(12, .ofNat 0, .ofNat 0)])
def hka05_47 : ai_V := .inl (false, hka05_46)
def hka05_48 : ai_N := (.negSucc 2147483647, .ofNat 2147483647, [(13, .ofNat 0, .ofNat 0)])
def hka05_49 : ai_V := .inl (false, hka05_48)
def hka05_50 : ai_N := (.ofNat 0, .ofNat 6, [(14, .ofNat 0, .ofNat 0)])
def hka05_51 : ai_V := .inl (false, hka05_50)
def hka05_52 : ai_N := (.ofNat 0, .ofNat 400, [(15, .ofNat 0, .ofNat 0)])
def hka05_53 : ai_V := .inl (false, hka05_52)
def hka05_54 : ai_V := .inr (some (.ref 67))
def hka05_55 : ai_N := (.ofNat 0, .ofNat 62, [(16, .ofNat 0, .ofNat 0)])
def hka05_56 : ai_V := .inl (false, hka05_55)
def hka05_57 : ai_V := .inr (some (.ref 68))
def hka05_58 : ai_V := .inr (some (.ref 69))
def hka05_59 : ai_N := (.negSucc 2147483647, .ofNat 2147483647, [(17, .ofNat 0, .ofNat 0)])
def hka05_60 : ai_V := .inl (false, hka05_59)
def hka05_61 : ai_V := .inr (some (.ref 70))
def hka05_62 : ai_V := .inr (some (.ref 71))
def hka05_63 : ai_V := .inr (some (.ref 72))
def hka05_64 : ai_V := .inr (some (.ref 73))
def hka05_65 : ai_V := .inr (some (.ref 74))
def hka05_66 : ai_V := .inr (some (.ref 75))
def hka05_67 : ai_N := (.ofNat 0, .ofNat 4, [(18, .ofNat 0, .ofNat 0)])
def hka05_68 : ai_V := .inl (false, hka05_67)
def hka05_69 : ai_C := .inr (.inr (8, [hka05_17, hka05_18, hka05_20, hka05_22, hka05_23, hka05_24, hka05_26, hka05_27, hka05_29, hka05_31, hka05_32, hka05_34, hka05_36, hka05_38, hka05_39, hka05_41, hka05_43, hka05_45, hka05_47, hka05_49, hka05_51, hka05_53, hka05_54, hka05_56, hka05_57, hka05_58, hka05_60, hka05_61, hka05_62, hka05_63, hka05_64, hka05_65, hka05_66, hka05_68]))
def hka05_70 : Bool × Option ai_C := (false, some hka05_69)
def hka05_71 : ai_N := (.negSucc 3, .ofNat 16, [])
def hka05_72 : ai_C := .inl (.int, [(130, hka05_71)])
def hka05_73 : Bool × Option ai_C := (false, some hka05_72)
def hka05_74 : ai_W := [hka05_16, hka05_16, hka05_16, hka05_16, hka05_16, hka05_16, hka05_16, hka05_16, hka05_16, hka05_16, hka05_16, hka05_16, hka05_16, hka05_16, hka05_16, hka05_16, hka05_16, hka05_16, hka05_16, hka05_16, hka05_16, hka05_16, hka05_16, hka05_16, hka05_16, hka05_16, hka05_16, hka05_16, hka05_16, hka05_16, hka05_16, hka05_16, hka05_16, hka05_16, hka05_16, hka05_16, hka05_16, hka05_16, hka05_16, hka05_16, hka05_16, hka05_16, hka05_16, hka05_16, hka05_16, hka05_16, hka05_16, hka05_16, hka05_16, hka05_16, hka05_16, hka05_16, hka05_16, hka05_16, hka05_16, hka05_16, hka05_16, hka05_16, hka05_16, hka05_70, hka05_16, hka05_16, hka05_16, hka05_16, hka05_16, hka05_16, hka05_16, hka05_73, hka05_16, hka05_16, hka05_16, hka05_16, hka05_16, hka05_16, hka05_16, hka05_16]
def hka05_75 : ai_N := (.ofNat 1, .ofNat 63, [(16, .ofNat 1, .ofNat 1)])
def hka05_76 : ai_V := .inl (false, hka05_75)
def hka05_77 : ai_C := .inr (.inr (8, [hka05_17, hka05_18, hka05_20, hka05_22, hka05_23, hka05_24, hka05_26, hka05_27, hka05_29, hka05_31, hka05_32, hka05_34, hka05_36, hka05_38, hka05_39, hka05_41, hka05_43, hka05_45, hka05_47, hka05_49, hka05_51, hka05_53, hka05_54, hka05_76, hka05_57, hka05_58, hka05_60, hka05_61, hka05_62, hka05_63, hka05_64, hka05_65, hka05_66, hka05_68]))
/-- NeverAgainModel.adds -/
def ka_422 : ai_K := (116, 0, (hka05_12, [hka05_13, hka05_15], [], hka05_74), [.inl 1, .inr (59, 2), .inr (59, 3), .inr (59, 6), .inr (59, 8), .inr (59, 9), .inr (59, 11), .inr (59, 12), .inr (59, 13), .inr (59, 15), .inr (59, 16), .inr (59, 17), .inr (59, 18), .inr (59, 19), .inr (59, 20), .inr (59, 21), .inr (59, 23), .inr (59, 26), .inr (59, 33)], [(none, hka05_12, [(59, hka05_77), (67, hka05_72)])])
def kan_422 : List ai_Nd := []
set_option maxRecDepth 1000000 in
theorem kak_422 : ai_ck [] [] ka_422 [.inl 100000] kan_422 14 = true := by decide +kernel
theorem kah_422 : ai_holds ka_422 := ai_thm kak_422 ai_nil
def hka05_78 : Int × Int := (.ofNat 0, .ofNat 71)
def hka05_79 : ai_E := [hka05_0, hka05_1, hka05_2, hka05_3, hka05_4, hka05_5, hka05_6, hka05_4, hka05_7, hka05_8, hka05_8, hka05_8, hka05_9, hka05_6, hka05_10, hka05_8, hka05_78, hka05_6, hka05_5]
def hka05_80 : ai_N := (.ofNat 0, .ofNat 71, [(16, .ofNat 0, .ofNat 0)])
def hka05_81 : ai_V := .inl (false, hka05_80)
def hka05_82 : ai_C := .inr (.inr (8, [hka05_17, hka05_18, hka05_20, hka05_22, hka05_23, hka05_24, hka05_26, hka05_27, hka05_29, hka05_31, hka05_32, hka05_34, hka05_36, hka05_38, hka05_39, hka05_41, hka05_43, hka05_45, hka05_47, hka05_49, hka05_51, hka05_53, hka05_54, hka05_81, hka05_57, hka05_58, hka05_60, hka05_61, hka05_62, hka05_63, hka05_64, hka05_65, hka05_66, hka05_68]))
def hka05_83 : Bool × Option ai_C := (false, some hka05_82)
def hka05_84 : ai_W := [hka05_16, hka05_16, hka05_16, hka05_16, hka05_16, hka05_16, hka05_16, hka05_16, hka05_16, hka05_16, hka05_16, hka05_16, hka05_16, hka05_16, hka05_16, hka05_16, hka05_16, hka05_16, hka05_16, hka05_16, hka05_16, hka05_16, hka05_16, hka05_16, hka05_16, hka05_16, hka05_16, hka05_16, hka05_16, hka05_16, hka05_16, hka05_16, hka05_16, hka05_16, hka05_16, hka05_16, hka05_16, hka05_16, hka05_16, hka05_16, hka05_16, hka05_16, hka05_16, hka05_16, hka05_16, hka05_16, hka05_16, hka05_16, hka05_16, hka05_16, hka05_16, hka05_16, hka05_16, hka05_16, hka05_16, hka05_16, hka05_16, hka05_16, hka05_16, hka05_83, hka05_16, hka05_16, hka05_16, hka05_16, hka05_16, hka05_16, hka05_16, hka05_73, hka05_16, hka05_16, hka05_16, hka05_16, hka05_16, hka05_16, hka05_16, hka05_16]
def hka05_85 : ai_N := (.ofNat 1, .ofNat 72, [(16, .ofNat 1, .ofNat 1)])
def hka05_86 : ai_V := .inl (false, hka05_85)
def hka05_87 : ai_C := .inr (.inr (8, [hka05_17, hka05_18, hka05_20, hka05_22, hka05_23, hka05_24, hka05_26, hka05_27, hka05_29, hka05_31, hka05_32, hka05_34, hka05_36, hka05_38, hka05_39, hka05_41, hka05_43, hka05_45, hka05_47, hka05_49, hka05_51, hka05_53, hka05_54, hka05_86, hka05_57, hka05_58, hka05_60, hka05_61, hka05_62, hka05_63, hka05_64, hka05_65, hka05_66, hka05_68]))
/-- NeverAgainModel.adds -/
def ka_424 : ai_K := (116, 0, (hka05_79, [hka05_13, hka05_15], [], hka05_84), [.inl 1, .inr (59, 2), .inr (59, 3), .inr (59, 6), .inr (59, 8), .inr (59, 9), .inr (59, 11), .inr (59, 12), .inr (59, 13), .inr (59, 15), .inr (59, 16), .inr (59, 17), .inr (59, 18), .inr (59, 19), .inr (59, 20), .inr (59, 21), .inr (59, 23), .inr (59, 26), .inr (59, 33)], [(none, hka05_79, [(59, hka05_87), (67, hka05_72)])])
def kan_424 : List ai_Nd := []
set_option maxRecDepth 1000000 in
theorem kak_424 : ai_ck [] [] ka_424 [.inl 100000] kan_424 14 = true := by decide +kernel
theorem kah_424 : ai_holds ka_424 := ai_thm kak_424 ai_nil
def hka05_88 : Int × Int := (.ofNat 0, .ofNat 130)
def hka05_89 : Int × Int := (.ofNat 0, .ofNat 60)
def hka05_90 : Int × Int := (.ofNat 0, .ofNat 20)
def hka05_91 : Int × Int := (.ofNat 0, .ofNat 1)
def hka05_92 : Int × Int := (.negSucc 3, .ofNat 2)
def hka05_93 : Int × Int := (.ofNat 0, .ofNat 5)
def hka05_94 : ai_E := [hka05_6, hka05_1, hka05_2, hka05_3, hka05_4, hka05_5, hka05_6, hka05_4, hka05_7, hka05_8, hka05_8, hka05_8, hka05_9, hka05_6, hka05_10, hka05_8, hka05_88, hka05_6, hka05_5, hka05_89, hka05_90, hka05_91, hka05_92, hka05_93, hka05_5, hka05_89, hka05_90, hka05_91, hka05_92, hka05_93, hka05_5, hka05_89, hka05_90, hka05_91, hka05_92, hka05_93, hka05_5]
def hka05_95 : ai_N := (.negSucc 2147483647, .ofNat 2147483647, [(0, .ofNat 0, .ofNat 0)])
def hka05_96 : ai_V := .inl (false, hka05_95)
def hka05_97 : ai_V := .inr none
def hka05_98 : ai_N := (.ofNat 0, .ofNat 130, [(16, .ofNat 0, .ofNat 0)])
def hka05_99 : ai_V := .inl (false, hka05_98)
def hka05_100 : ai_C := .inr (.inr (8, [hka05_17, hka05_18, hka05_20, hka05_22, hka05_23, hka05_24, hka05_26, hka05_27, hka05_29, hka05_31, hka05_32, hka05_34, hka05_36, hka05_38, hka05_39, hka05_41, hka05_43, hka05_45, hka05_47, hka05_49, hka05_51, hka05_53, hka05_54, hka05_99, hka05_57, hka05_58, hka05_60, hka05_61, hka05_62, hka05_63, hka05_64, hka05_65, hka05_66, hka05_68]))
def hka05_101 : Bool × Option ai_C := (false, some hka05_100)
def hka05_102 : ai_N := (.ofNat 0, .ofNat 60, [(19, .ofNat 0, .ofNat 0)])
def hka05_103 : ai_N := (.ofNat 0, .ofNat 16, [])
def hka05_104 : ai_N := (.negSucc 3, .ofNat 3, [])
def hka05_105 : ai_N := (.ofNat 0, .ofNat 20, [(20, .ofNat 0, .ofNat 0)])
def hka05_106 : ai_N := (.ofNat 0, .ofNat 1, [(21, .ofNat 0, .ofNat 0)])
def hka05_107 : ai_N := (.negSucc 3, .ofNat 2, [(22, .ofNat 0, .ofNat 0)])
def hka05_108 : ai_N := (.ofNat 0, .ofNat 5, [(23, .ofNat 0, .ofNat 0)])
def hka05_109 : ai_N := (.ofNat 0, .ofNat 3, [])
def hka05_110 : ai_N := (.ofNat 0, .ofNat 4, [(24, .ofNat 0, .ofNat 0)])
def hka05_111 : ai_N := (.ofNat 0, .ofNat 4, [])
def hka05_112 : ai_N := (.ofNat 0, .ofNat 60, [(25, .ofNat 0, .ofNat 0)])
def hka05_113 : ai_N := (.ofNat 0, .ofNat 20, [(26, .ofNat 0, .ofNat 0)])
def hka05_114 : ai_N := (.ofNat 0, .ofNat 1, [(27, .ofNat 0, .ofNat 0)])
def hka05_115 : ai_N := (.negSucc 3, .ofNat 2, [(28, .ofNat 0, .ofNat 0)])
def hka05_116 : ai_N := (.ofNat 0, .ofNat 5, [(29, .ofNat 0, .ofNat 0)])
def hka05_117 : ai_N := (.ofNat 0, .ofNat 4, [(30, .ofNat 0, .ofNat 0)])
def hka05_118 : ai_N := (.ofNat 0, .ofNat 60, [(31, .ofNat 0, .ofNat 0)])
def hka05_119 : ai_N := (.ofNat 0, .ofNat 20, [(32, .ofNat 0, .ofNat 0)])
def hka05_120 : ai_N := (.ofNat 0, .ofNat 1, [(33, .ofNat 0, .ofNat 0)])
def hka05_121 : ai_N := (.negSucc 3, .ofNat 2, [(34, .ofNat 0, .ofNat 0)])
def hka05_122 : ai_N := (.ofNat 0, .ofNat 5, [(35, .ofNat 0, .ofNat 0)])
def hka05_123 : ai_N := (.ofNat 0, .ofNat 4, [(36, .ofNat 0, .ofNat 0)])
def hka05_124 : ai_C := .inl (.int, [(1, hka05_102), (60, hka05_103), (17, hka05_104), (1, hka05_105), (1, hka05_106), (1, hka05_107), (1, hka05_108), (5, hka05_109), (1, hka05_110), (8, hka05_111), (1, hka05_112), (60, hka05_103), (17, hka05_104), (1, hka05_113), (1, hka05_114), (1, hka05_115), (1, hka05_116), (5, hka05_109), (1, hka05_117), (8, hka05_111), (1, hka05_118), (60, hka05_103), (17, hka05_104), (1, hka05_119), (1, hka05_120), (1, hka05_121), (1, hka05_122), (5, hka05_109), (1, hka05_123), (8, hka05_111)])
def hka05_125 : Bool × Option ai_C := (false, some hka05_124)
def hka05_126 : ai_C := .inl (.int, [(12, hka05_103)])
def hka05_127 : Bool × Option ai_C := (false, some hka05_126)
def hka05_128 : ai_W := [hka05_16, hka05_16, hka05_16, hka05_16, hka05_16, hka05_16, hka05_16, hka05_16, hka05_16, hka05_16, hka05_16, hka05_16, hka05_16, hka05_16, hka05_16, hka05_16, hka05_16, hka05_16, hka05_16, hka05_16, hka05_16, hka05_16, hka05_16, hka05_16, hka05_16, hka05_16, hka05_16, hka05_16, hka05_16, hka05_16, hka05_16, hka05_16, hka05_16, hka05_16, hka05_16, hka05_16, hka05_16, hka05_16, hka05_16, hka05_16, hka05_16, hka05_16, hka05_16, hka05_16, hka05_16, hka05_16, hka05_16, hka05_16, hka05_16, hka05_16, hka05_16, hka05_16, hka05_16, hka05_16, hka05_16, hka05_16, hka05_16, hka05_16, hka05_16, hka05_101, hka05_125, hka05_16, hka05_16, hka05_127, hka05_16, hka05_16, hka05_16, hka05_73, hka05_16, hka05_16, hka05_16, hka05_16, hka05_16, hka05_16, hka05_16, hka05_16]
def hka05_129 : ai_N := (.negSucc 0, .negSucc 0, [])
def hka05_130 : ai_V := .inl (false, hka05_129)
def hka05_131 : ai_N := (.ofNat 0, .ofNat 11, [])
def hka05_132 : ai_V := .inl (false, hka05_131)
def hka05_133 : Int × Int := (.ofNat 0, .ofNat 0)
def hka05_134 : Int × Int := (.ofNat 1, .ofNat 12)
def hka05_135 : ai_E := [hka05_133, hka05_1, hka05_2, hka05_134, hka05_4, hka05_5, hka05_6, hka05_4, hka05_7, hka05_8, hka05_8, hka05_8, hka05_9, hka05_6, hka05_10, hka05_8, hka05_88, hka05_6, hka05_5, hka05_89, hka05_90, hka05_91, hka05_92, hka05_93, hka05_5, hka05_89, hka05_90, hka05_91, hka05_92, hka05_93, hka05_5, hka05_89, hka05_90, hka05_91, hka05_92, hka05_93, hka05_5]
def hka05_136 : ai_N := (.ofNat 1, .ofNat 12, [(3, .ofNat 0, .ofNat 0)])
def hka05_137 : ai_V := .inl (false, hka05_136)
def hka05_138 : ai_N := (.ofNat 0, .ofNat 71, [(19, .ofNat 0, .ofNat 71)])
def hka05_139 : ai_V := .inl (false, hka05_138)
def hka05_140 : ai_C := .inr (.inr (8, [hka05_17, hka05_18, hka05_20, hka05_22, hka05_23, hka05_24, hka05_137, hka05_27, hka05_29, hka05_31, hka05_32, hka05_34, hka05_36, hka05_38, hka05_39, hka05_41, hka05_43, hka05_45, hka05_47, hka05_49, hka05_51, hka05_53, hka05_54, hka05_139, hka05_57, hka05_58, hka05_60, hka05_61, hka05_62, hka05_63, hka05_64, hka05_65, hka05_66, hka05_68]))
def hka05_141 : ai_N := (.ofNat 0, .ofNat 0, [])
def hka05_142 : ai_V := .inl (false, hka05_141)
def hka05_143 : Int × Int := (.ofNat 1, .ofNat 1)
def hka05_144 : ai_E := [hka05_143, hka05_1, hka05_2, hka05_134, hka05_4, hka05_5, hka05_6, hka05_4, hka05_7, hka05_8, hka05_8, hka05_8, hka05_9, hka05_6, hka05_10, hka05_8, hka05_88, hka05_6, hka05_5, hka05_89, hka05_90, hka05_91, hka05_92, hka05_93, hka05_5, hka05_89, hka05_90, hka05_91, hka05_92, hka05_93, hka05_5, hka05_89, hka05_90, hka05_91, hka05_92, hka05_93, hka05_5]
def hka05_145 : ai_N := (.ofNat 1, .ofNat 1, [])
def hka05_146 : ai_V := .inl (false, hka05_145)
def hka05_147 : ai_N := (.negSucc 3, .negSucc 3, [])
def hka05_148 : ai_V := .inl (false, hka05_147)
def hka05_149 : ai_E := [hka05_91, hka05_1, hka05_2, hka05_3, hka05_4, hka05_5, hka05_6, hka05_4, hka05_7, hka05_8, hka05_8, hka05_8, hka05_9, hka05_6, hka05_10, hka05_8, hka05_88, hka05_6, hka05_5, hka05_89, hka05_90, hka05_91, hka05_92, hka05_93, hka05_5, hka05_89, hka05_90, hka05_91, hka05_92, hka05_93, hka05_5, hka05_89, hka05_90, hka05_91, hka05_92, hka05_93, hka05_5]
def hka05_150 : ai_N := (.ofNat 0, .ofNat 72, [(19, .ofNat 0, .ofNat 72)])
def hka05_151 : ai_V := .inl (false, hka05_150)
def hka05_152 : ai_C := .inr (.inr (8, [hka05_17, hka05_18, hka05_20, hka05_22, hka05_23, hka05_24, hka05_26, hka05_27, hka05_29, hka05_31, hka05_32, hka05_34, hka05_36, hka05_38, hka05_39, hka05_41, hka05_43, hka05_45, hka05_47, hka05_49, hka05_51, hka05_53, hka05_54, hka05_151, hka05_57, hka05_58, hka05_60, hka05_61, hka05_62, hka05_63, hka05_64, hka05_65, hka05_66, hka05_68]))
/-- NeverAgainModel.judge -/
def ka_425 : ai_K := (44, 2, (hka05_94, [hka05_13, hka05_96, hka05_97, hka05_97], [], hka05_128), [.inl 1, .inr (59, 2), .inr (59, 3), .inr (59, 6), .inr (59, 8), .inr (59, 9), .inr (59, 11), .inr (59, 12), .inr (59, 13), .inr (59, 15), .inr (59, 16), .inr (59, 17), .inr (59, 18), .inr (59, 19), .inr (59, 20), .inr (59, 21), .inr (59, 23), .inr (59, 26), .inr (59, 33), .inr (60, 0), .inr (60, 78), .inr (60, 79), .inr (60, 80), .inr (60, 81), .inr (60, 87), .inr (60, 96), .inr (60, 174), .inr (60, 175), .inr (60, 176), .inr (60, 177), .inr (60, 183), .inr (60, 192), .inr (60, 270), .inr (60, 271), .inr (60, 272), .inr (60, 273), .inr (60, 279)], [(some hka05_130, hka05_94, []), (some hka05_132, hka05_135, [(59, hka05_140), (67, hka05_72)]), (some hka05_142, hka05_144, [(59, hka05_140), (67, hka05_72)]), (some hka05_146, hka05_144, [(59, hka05_140), (67, hka05_72)]), (some hka05_148, hka05_149, [(59, hka05_152), (67, hka05_72)])])
def hka05_153 : ai_E := [hka05_91, hka05_1, hka05_2, hka05_3, hka05_4, hka05_5, hka05_6, hka05_4, hka05_7, hka05_8, hka05_8, hka05_8, hka05_9, hka05_6, hka05_10, hka05_8, hka05_88, hka05_6, hka05_5, hka05_89, hka05_90, hka05_91, hka05_92, hka05_93, hka05_5, hka05_89, hka05_90, hka05_91, hka05_92, hka05_93, hka05_5, hka05_89, hka05_90, hka05_91, hka05_92, hka05_93, hka05_5, hka05_3]
def hka05_154 : ai_N := (.ofNat 0, .ofNat 1, [(0, .ofNat 0, .ofNat 0)])
def hka05_155 : ai_V := .inl (false, hka05_154)
def hka05_156 : ai_N := (.ofNat 0, .ofNat 12, [(37, .ofNat 0, .ofNat 0)])
def hka05_157 : ai_V := .inl (false, hka05_156)
def hka05_158 : ai_N := (.ofNat 0, .ofNat 72, [(19, .ofNat 0, .ofNat 72), (37, .ofNat 0, .ofNat 60)])
def hka05_159 : ai_V := .inl (false, hka05_158)
def hka05_160 : ai_C := .inr (.inr (8, [hka05_17, hka05_18, hka05_20, hka05_22, hka05_23, hka05_24, hka05_26, hka05_27, hka05_29, hka05_31, hka05_32, hka05_34, hka05_36, hka05_38, hka05_39, hka05_41, hka05_43, hka05_45, hka05_47, hka05_49, hka05_51, hka05_53, hka05_54, hka05_159, hka05_57, hka05_58, hka05_60, hka05_61, hka05_62, hka05_63, hka05_64, hka05_65, hka05_66, hka05_68]))
def hka05_161 : Bool × Option ai_C := (true, some hka05_160)
def hka05_162 : Bool × Option ai_C := (true, some hka05_72)
def hka05_163 : ai_W := [hka05_16, hka05_16, hka05_16, hka05_16, hka05_16, hka05_16, hka05_16, hka05_16, hka05_16, hka05_16, hka05_16, hka05_16, hka05_16, hka05_16, hka05_16, hka05_16, hka05_16, hka05_16, hka05_16, hka05_16, hka05_16, hka05_16, hka05_16, hka05_16, hka05_16, hka05_16, hka05_16, hka05_16, hka05_16, hka05_16, hka05_16, hka05_16, hka05_16, hka05_16, hka05_16, hka05_16, hka05_16, hka05_16, hka05_16, hka05_16, hka05_16, hka05_16, hka05_16, hka05_16, hka05_16, hka05_16, hka05_16, hka05_16, hka05_16, hka05_16, hka05_16, hka05_16, hka05_16, hka05_16, hka05_16, hka05_16, hka05_16, hka05_16, hka05_16, hka05_161, hka05_125, hka05_16, hka05_16, hka05_127, hka05_16, hka05_16, hka05_16, hka05_162, hka05_16, hka05_16, hka05_16, hka05_16, hka05_16, hka05_16, hka05_16, hka05_16]
def kan_425 : List ai_Nd := [(18, (hka05_153, [hka05_13, hka05_155, hka05_157, hka05_97], [], hka05_163), [.inl 2], [.inl 99981, .inl 1, .inr (true, .ofNat 12, 37), .inl 100000])]
set_option maxRecDepth 1000000 in
theorem kak_425 : ai_ck [ka_424, ka_363, ka_380, ka_389, ka_381] [] ka_425 [.inl 100000, .inl 0, .inl 0, .inl 0] kan_425 29 = true := by decide +kernel
theorem kah_425 : ai_holds ka_425 := ai_thm kak_425 (ai_cons kah_424 (ai_cons kah_363 (ai_cons kah_380 (ai_cons kah_389 (ai_cons kah_381 ai_nil)))))
def hka05_164 : ai_E := [hka05_6, hka05_1, hka05_2, hka05_6, hka05_6, hka05_6, hka05_89, hka05_93, hka05_5]
def hka05_165 : ai_V := .inr (some (.ref 1))
def hka05_166 : ai_V := .inr (some (.ref 2))
def hka05_167 : ai_V := .inr (some (.ref 3))
def hka05_168 : ai_V := .inr (some (.ref 4))
def hka05_169 : ai_V := .inr (some (.ref 5))
def hka05_170 : ai_V := .inr (some (.ref 6))
def hka05_171 : ai_V := .inr (some (.ref 7))
def hka05_172 : ai_N := (.negSucc 2147483647, .ofNat 2147483647, [(3, .ofNat 0, .ofNat 0)])
def hka05_173 : ai_V := .inl (false, hka05_172)
def hka05_174 : ai_N := (.negSucc 2147483647, .ofNat 2147483647, [(4, .ofNat 0, .ofNat 0)])
def hka05_175 : ai_V := .inl (false, hka05_174)
def hka05_176 : ai_N := (.negSucc 2147483647, .ofNat 2147483647, [(5, .ofNat 0, .ofNat 0)])
def hka05_177 : ai_V := .inl (false, hka05_176)
def hka05_178 : ai_N := (.ofNat 0, .ofNat 60, [(6, .ofNat 0, .ofNat 0)])
def hka05_179 : ai_V := .inl (false, hka05_178)
def hka05_180 : ai_N := (.ofNat 0, .ofNat 5, [(7, .ofNat 0, .ofNat 0)])
def hka05_181 : ai_V := .inl (false, hka05_180)
def hka05_182 : ai_N := (.ofNat 0, .ofNat 4, [(8, .ofNat 0, .ofNat 0)])
def hka05_183 : ai_V := .inl (false, hka05_182)
def hka05_184 : ai_C := .inr (.inr (6, [hka05_166, hka05_167, hka05_168, hka05_169, hka05_170, hka05_171, hka05_20, hka05_22, hka05_173, hka05_175, hka05_177, hka05_179, hka05_181, hka05_183]))
def hka05_185 : Bool × Option ai_C := (false, some hka05_184)
def hka05_186 : ai_N := (.negSucc 2147483647, .ofNat 2147483647, [])
def hka05_187 : ai_C := .inl (.int, [(5, hka05_186)])
def hka05_188 : Bool × Option ai_C := (false, some hka05_187)
def hka05_189 : ai_W := [hka05_16, hka05_185, hka05_16, hka05_16, hka05_16, hka05_188, hka05_16, hka05_16, hka05_16, hka05_16, hka05_16, hka05_16, hka05_16, hka05_16, hka05_16, hka05_16, hka05_16, hka05_16, hka05_16, hka05_16, hka05_16, hka05_16, hka05_16, hka05_16, hka05_16, hka05_16, hka05_16, hka05_16, hka05_16, hka05_16, hka05_16, hka05_16, hka05_16, hka05_16, hka05_16, hka05_16, hka05_16, hka05_16, hka05_16, hka05_16, hka05_16, hka05_16, hka05_16, hka05_16, hka05_16, hka05_16, hka05_16, hka05_16, hka05_16, hka05_16, hka05_16, hka05_16, hka05_16, hka05_16, hka05_16, hka05_16, hka05_16, hka05_16, hka05_16, hka05_16, hka05_16, hka05_16, hka05_16, hka05_16, hka05_16, hka05_16, hka05_16, hka05_16, hka05_16, hka05_16, hka05_16, hka05_16, hka05_16, hka05_16, hka05_16, hka05_16]
def hka05_190 : Int × Int := (.ofNat 5, .ofNat 5)
def hka05_191 : ai_E := [hka05_6, hka05_1, hka05_2, hka05_6, hka05_6, hka05_6, hka05_89, hka05_190, hka05_5]
def hka05_192 : ai_E := [hka05_6, hka05_1, hka05_2, hka05_6, hka05_6, hka05_6, hka05_89, hka05_5, hka05_5]
def hka05_193 : ai_N := (.ofNat 1, .ofNat 5, [(7, .ofNat 1, .ofNat 1)])
def hka05_194 : ai_V := .inl (false, hka05_193)
def hka05_195 : ai_C := .inr (.inr (6, [hka05_166, hka05_167, hka05_168, hka05_169, hka05_170, hka05_171, hka05_20, hka05_22, hka05_173, hka05_175, hka05_177, hka05_179, hka05_194, hka05_183]))
/-- NeverAgain$Told.addAsked -/
def ka_426 : ai_K := (117, 0, (hka05_164, [hka05_165, hka05_96], [], hka05_189), [.inl 1, .inr (1, 6), .inr (1, 7), .inr (1, 8), .inr (1, 9), .inr (1, 10), .inr (1, 11), .inr (1, 12), .inr (1, 13)], [(some hka05_142, hka05_191, []), (some hka05_146, hka05_192, [(1, hka05_195), (5, hka05_187)])])
def kan_426 : List ai_Nd := []
set_option maxRecDepth 1000000 in
theorem kak_426 : ai_ck [] [] ka_426 [.inl 100000] kan_426 19 = true := by decide +kernel
theorem kah_426 : ai_holds ka_426 := ai_thm kak_426 ai_nil
def hka05_196 : ai_E := [hka05_6, hka05_3, hka05_10, hka05_5, hka05_1, hka05_2, hka05_6, hka05_6, hka05_6, hka05_89, hka05_93, hka05_5]
def hka05_197 : ai_V := .inr (some (.ref 0))
def hka05_198 : ai_V := .inr (some (.ref 15))
def hka05_199 : ai_V := .inr (some (.ref 17))
def hka05_200 : ai_V := .inr (some (.ref 21))
def hka05_201 : ai_V := .inr (some (.ref 26))
def hka05_202 : ai_V := .inr (some (.ref 32))
def hka05_203 : ai_V := .inr (some (.ref 35))
def hka05_204 : ai_V := .inr (some (.ref 34))
def hka05_205 : ai_V := .inr (some (.ref 50))
def hka05_206 : ai_V := .inr (some (.ref 33))
def hka05_207 : ai_V := .inr (some (.ref 8))
def hka05_208 : ai_N := (.ofNat 0, .ofNat 12, [(1, .ofNat 0, .ofNat 0)])
def hka05_209 : ai_V := .inl (false, hka05_208)
def hka05_210 : ai_N := (.ofNat 0, .ofNat 6, [(2, .ofNat 0, .ofNat 0)])
def hka05_211 : ai_V := .inl (false, hka05_210)
def hka05_212 : ai_N := (.ofNat 0, .ofNat 4, [(3, .ofNat 0, .ofNat 0)])
def hka05_213 : ai_V := .inl (false, hka05_212)
def hka05_214 : ai_C := .inr (.inr (7, [hka05_198, hka05_199, hka05_200, hka05_201, hka05_202, hka05_203, hka05_204, hka05_205, hka05_206, hka05_165, hka05_207, hka05_209, hka05_211, hka05_213]))
def hka05_215 : Bool × Option ai_C := (false, some hka05_214)
def hka05_216 : ai_N := (.ofNat 4, .ofNat 16, [(4, .ofNat 0, .ofNat 0)])
def hka05_217 : ai_V := .inl (false, hka05_216)
def hka05_218 : ai_N := (.ofNat 1, .ofNat 4, [(5, .ofNat 0, .ofNat 0)])
def hka05_219 : ai_V := .inl (false, hka05_218)
def hka05_220 : ai_N := (.negSucc 2147483647, .ofNat 2147483647, [(7, .ofNat 0, .ofNat 0)])
def hka05_221 : ai_V := .inl (false, hka05_220)
def hka05_222 : ai_N := (.negSucc 2147483647, .ofNat 2147483647, [(8, .ofNat 0, .ofNat 0)])
def hka05_223 : ai_V := .inl (false, hka05_222)
def hka05_224 : ai_N := (.ofNat 0, .ofNat 60, [(9, .ofNat 0, .ofNat 0)])
def hka05_225 : ai_V := .inl (false, hka05_224)
def hka05_226 : ai_N := (.ofNat 0, .ofNat 5, [(10, .ofNat 0, .ofNat 0)])
def hka05_227 : ai_V := .inl (false, hka05_226)
def hka05_228 : ai_N := (.ofNat 0, .ofNat 4, [(11, .ofNat 0, .ofNat 0)])
def hka05_229 : ai_V := .inl (false, hka05_228)
def hka05_230 : ai_C := .inr (.inr (6, [hka05_166, hka05_167, hka05_168, hka05_169, hka05_170, hka05_171, hka05_217, hka05_219, hka05_34, hka05_221, hka05_223, hka05_225, hka05_227, hka05_229]))
def hka05_231 : Bool × Option ai_C := (false, some hka05_230)
def hka05_232 : ai_W := [hka05_215, hka05_231, hka05_16, hka05_16, hka05_16, hka05_188, hka05_16, hka05_16, hka05_16, hka05_16, hka05_16, hka05_16, hka05_16, hka05_16, hka05_16, hka05_16, hka05_16, hka05_16, hka05_16, hka05_16, hka05_16, hka05_16, hka05_16, hka05_16, hka05_16, hka05_16, hka05_16, hka05_16, hka05_16, hka05_16, hka05_16, hka05_16, hka05_16, hka05_16, hka05_16, hka05_16, hka05_16, hka05_16, hka05_16, hka05_16, hka05_16, hka05_16, hka05_16, hka05_16, hka05_16, hka05_16, hka05_16, hka05_16, hka05_16, hka05_16, hka05_16, hka05_16, hka05_16, hka05_16, hka05_16, hka05_16, hka05_16, hka05_16, hka05_16, hka05_16, hka05_16, hka05_16, hka05_16, hka05_16, hka05_16, hka05_16, hka05_16, hka05_16, hka05_16, hka05_16, hka05_16, hka05_16, hka05_16, hka05_16, hka05_16, hka05_16]
def hka05_233 : Int × Int := (.negSucc 2147483647, .negSucc 0)
def hka05_234 : ai_E := [hka05_233, hka05_3, hka05_10, hka05_5, hka05_1, hka05_2, hka05_6, hka05_6, hka05_6, hka05_89, hka05_93, hka05_5]
def hka05_235 : Int × Int := (.ofNat 1, .ofNat 2147483647)
def hka05_236 : ai_E := [hka05_235, hka05_3, hka05_10, hka05_5, hka05_1, hka05_2, hka05_6, hka05_6, hka05_6, hka05_89, hka05_93, hka05_5]
def hka05_237 : ai_N := (.ofNat 1, .ofNat 5, [(10, .ofNat 1, .ofNat 1)])
def hka05_238 : ai_V := .inl (false, hka05_237)
def hka05_239 : ai_E := [hka05_9, hka05_3, hka05_10, hka05_5, hka05_1, hka05_2, hka05_6, hka05_6, hka05_6, hka05_89, hka05_5, hka05_5]
def hka05_240 : ai_C := .inr (.inr (6, [hka05_166, hka05_167, hka05_168, hka05_169, hka05_170, hka05_171, hka05_217, hka05_219, hka05_34, hka05_221, hka05_223, hka05_225, hka05_238, hka05_229]))
def hka05_241 : ai_N := (.negSucc 2, .negSucc 2, [])
def hka05_242 : ai_V := .inl (false, hka05_241)
def hka05_243 : ai_E := [hka05_9, hka05_3, hka05_10, hka05_5, hka05_1, hka05_2, hka05_6, hka05_6, hka05_6, hka05_89, hka05_190, hka05_5]
/-- NeverAgain.ask -/
def ka_427 : ai_K := (45, 1, (hka05_196, [hka05_197, hka05_96], [], hka05_232), [.inl 1, .inr (0, 11), .inr (0, 12), .inr (0, 13), .inr (1, 6), .inr (1, 7), .inr (1, 8), .inr (1, 9), .inr (1, 10), .inr (1, 11), .inr (1, 12), .inr (1, 13)], [(some hka05_130, hka05_234, []), (some hka05_130, hka05_236, []), (some hka05_238, hka05_239, [(1, hka05_240), (5, hka05_187)]), (some hka05_242, hka05_243, [])])
def kan_427 : List ai_Nd := []
set_option maxRecDepth 1000000 in
theorem kak_427 : ai_ck [ka_350, ka_426] [] ka_427 [.inl 100000] kan_427 16 = true := by decide +kernel
theorem kah_427 : ai_holds ka_427 := ai_thm kak_427 (ai_cons kah_350 (ai_cons kah_426 ai_nil))
def hka05_244 : ai_W := [hka05_16, hka05_16, hka05_16, hka05_16, hka05_16, hka05_16, hka05_16, hka05_16, hka05_16, hka05_16, hka05_16, hka05_16, hka05_16, hka05_16, hka05_16, hka05_16, hka05_16, hka05_16, hka05_16, hka05_16, hka05_16, hka05_16, hka05_16, hka05_16, hka05_16, hka05_16, hka05_16, hka05_16, hka05_16, hka05_16, hka05_16, hka05_16, hka05_16, hka05_16, hka05_16, hka05_16, hka05_16, hka05_16, hka05_16, hka05_16, hka05_16, hka05_16, hka05_16, hka05_16, hka05_16, hka05_16, hka05_16, hka05_16, hka05_16, hka05_16, hka05_16, hka05_16, hka05_16, hka05_16, hka05_16, hka05_16, hka05_16, hka05_16, hka05_16, hka05_101, hka05_125, hka05_16, hka05_16, hka05_16, hka05_16, hka05_16, hka05_16, hka05_16, hka05_16, hka05_16, hka05_16, hka05_16, hka05_16, hka05_16, hka05_16, hka05_16]
def hka05_245 : ai_E := [hka05_9, hka05_1, hka05_2, hka05_3, hka05_4, hka05_5, hka05_6, hka05_4, hka05_7, hka05_8, hka05_8, hka05_8, hka05_9, hka05_6, hka05_10, hka05_8, hka05_88, hka05_6, hka05_5, hka05_89, hka05_90, hka05_91, hka05_92, hka05_190, hka05_5, hka05_89, hka05_90, hka05_91, hka05_92, hka05_93, hka05_5, hka05_89, hka05_90, hka05_91, hka05_92, hka05_93, hka05_5]
def hka05_246 : ai_N := (.ofNat 1, .ofNat 5, [(23, .ofNat 1, .ofNat 1)])
def hka05_247 : ai_V := .inl (false, hka05_246)
def hka05_248 : ai_E := [hka05_9, hka05_1, hka05_2, hka05_3, hka05_4, hka05_5, hka05_6, hka05_4, hka05_7, hka05_8, hka05_8, hka05_8, hka05_9, hka05_6, hka05_10, hka05_8, hka05_88, hka05_6, hka05_5, hka05_89, hka05_90, hka05_91, hka05_92, hka05_5, hka05_5, hka05_89, hka05_90, hka05_91, hka05_92, hka05_93, hka05_5, hka05_89, hka05_90, hka05_91, hka05_92, hka05_93, hka05_5]
def hka05_249 : ai_C := .inl (.int, [(1, hka05_102), (60, hka05_103), (17, hka05_104), (1, hka05_105), (1, hka05_106), (1, hka05_107), (1, hka05_246), (5, hka05_109), (1, hka05_110), (8, hka05_111), (1, hka05_112), (60, hka05_103), (17, hka05_104), (1, hka05_113), (1, hka05_114), (1, hka05_115), (1, hka05_116), (5, hka05_109), (1, hka05_117), (8, hka05_111), (1, hka05_118), (60, hka05_103), (17, hka05_104), (1, hka05_119), (1, hka05_120), (1, hka05_121), (1, hka05_122), (5, hka05_109), (1, hka05_123), (8, hka05_111)])
/-- NeverAgainModel.ask -/
def ka_428 : ai_K := (46, 2, (hka05_94, [hka05_13, hka05_96], [], hka05_244), [.inl 1, .inr (59, 2), .inr (59, 3), .inr (59, 6), .inr (59, 8), .inr (59, 9), .inr (59, 11), .inr (59, 12), .inr (59, 13), .inr (59, 15), .inr (59, 16), .inr (59, 17), .inr (59, 18), .inr (59, 19), .inr (59, 20), .inr (59, 21), .inr (59, 23), .inr (59, 26), .inr (59, 33), .inr (60, 0), .inr (60, 78), .inr (60, 79), .inr (60, 80), .inr (60, 81), .inr (60, 87), .inr (60, 96), .inr (60, 174), .inr (60, 175), .inr (60, 176), .inr (60, 177), .inr (60, 183), .inr (60, 192), .inr (60, 270), .inr (60, 271), .inr (60, 272), .inr (60, 273), .inr (60, 279)], [(some hka05_130, hka05_94, []), (some hka05_242, hka05_245, []), (some hka05_247, hka05_248, [(60, hka05_249)])])
def kan_428 : List ai_Nd := []
set_option maxRecDepth 1000000 in
theorem kak_428 : ai_ck [ka_353] [] ka_428 [.inl 100000] kan_428 34 = true := by decide +kernel
theorem kah_428 : ai_holds ka_428 := ai_thm kak_428 (ai_cons kah_353 ai_nil)
def hka05_250 : ai_W := [hka05_215, hka05_231, hka05_16, hka05_16, hka05_16, hka05_16, hka05_16, hka05_16, hka05_16, hka05_16, hka05_16, hka05_16, hka05_16, hka05_16, hka05_16, hka05_16, hka05_16, hka05_16, hka05_16, hka05_16, hka05_16, hka05_16, hka05_16, hka05_16, hka05_16, hka05_16, hka05_16, hka05_16, hka05_16, hka05_16, hka05_16, hka05_16, hka05_16, hka05_16, hka05_16, hka05_16, hka05_16, hka05_16, hka05_16, hka05_16, hka05_16, hka05_16, hka05_16, hka05_16, hka05_16, hka05_16, hka05_16, hka05_16, hka05_16, hka05_16, hka05_16, hka05_16, hka05_16, hka05_16, hka05_16, hka05_16, hka05_16, hka05_16, hka05_16, hka05_16, hka05_16, hka05_16, hka05_16, hka05_16, hka05_16, hka05_16, hka05_16, hka05_16, hka05_16, hka05_16, hka05_16, hka05_16, hka05_16, hka05_16, hka05_16, hka05_16]
def hka05_251 : ai_E := [hka05_93, hka05_3, hka05_10, hka05_5, hka05_1, hka05_2, hka05_6, hka05_6, hka05_6, hka05_89, hka05_93, hka05_5]
def hka05_252 : ai_N := (.ofNat 0, .ofNat 5, [(0, .ofNat 0, .ofNat 0)])
def hka05_253 : ai_V := .inl (false, hka05_252)
def hka05_254 : ai_C := .inr (.inr (6, [hka05_166, hka05_167, hka05_168, hka05_169, hka05_170, hka05_171, hka05_217, hka05_219, hka05_34, hka05_221, hka05_223, hka05_225, hka05_253, hka05_229]))
/-- NeverAgain.drop -/
def ka_429 : ai_K := (47, 0, (hka05_196, [hka05_197, hka05_96, hka05_97], [], hka05_250), [.inl 1, .inr (0, 11), .inr (0, 12), .inr (0, 13), .inr (1, 6), .inr (1, 7), .inr (1, 8), .inr (1, 9), .inr (1, 10), .inr (1, 11), .inr (1, 12), .inr (1, 13)], [(some hka05_130, hka05_236, []), (some hka05_227, hka05_251, [(1, hka05_254)]), (some hka05_130, hka05_234, [])])
def kan_429 : List ai_Nd := []
set_option maxRecDepth 1000000 in
theorem kak_429 : ai_ck [] [] ka_429 [.inl 100000] kan_429 16 = true := by decide +kernel
theorem kah_429 : ai_holds ka_429 := ai_thm kak_429 ai_nil
def hka05_255 : ai_E := [hka05_6, hka05_93]
def hka05_256 : ai_V := .inl (true, hka05_95)
def hka05_257 : ai_V := .inl (true, hka05_141)
def hka05_258 : ai_N := (.ofNat 0, .ofNat 5, [(1, .ofNat 0, .ofNat 0)])
def hka05_259 : ai_V := .inl (true, hka05_258)
def hka05_260 : ai_W := [hka05_16, hka05_16, hka05_16, hka05_16, hka05_16, hka05_16, hka05_16, hka05_16, hka05_16, hka05_16, hka05_16, hka05_16, hka05_16, hka05_16, hka05_16, hka05_16, hka05_16, hka05_16, hka05_16, hka05_16, hka05_16, hka05_16, hka05_16, hka05_16, hka05_16, hka05_16, hka05_16, hka05_16, hka05_16, hka05_16, hka05_16, hka05_16, hka05_16, hka05_16, hka05_16, hka05_16, hka05_16, hka05_16, hka05_16, hka05_16, hka05_16, hka05_16, hka05_16, hka05_16, hka05_16, hka05_16, hka05_16, hka05_16, hka05_16, hka05_16, hka05_16, hka05_16, hka05_16, hka05_16, hka05_16, hka05_16, hka05_16, hka05_16, hka05_16, hka05_16, hka05_16, hka05_16, hka05_16, hka05_16, hka05_16, hka05_16, hka05_16, hka05_16, hka05_16, hka05_16, hka05_16, hka05_16, hka05_16, hka05_16, hka05_16, hka05_16]
def hka05_261 : ai_E := [hka05_235, hka05_93]
def hka05_262 : Int × Int := (.ofNat 1, .ofNat 5)
def hka05_263 : ai_E := [hka05_262, hka05_262]
def hka05_264 : Int × Int := (.ofNat 2, .ofNat 5)
def hka05_265 : ai_E := [hka05_2, hka05_264]
def hka05_266 : ai_E := [hka05_133, hka05_133]
def hka05_267 : ai_E := [hka05_133, hka05_262]
def hka05_268 : ai_E := [hka05_233, hka05_93]
/-- NeverAgainModel.in -/
def ka_430 : ai_K := (93, 0, (hka05_255, [hka05_256, hka05_97, hka05_257, hka05_97, hka05_259, hka05_97], [], hka05_260), [.inl 0, .inl 4], [(some hka05_142, hka05_261, []), (some hka05_146, hka05_263, []), (some hka05_146, hka05_265, []), (some hka05_146, hka05_266, []), (some hka05_146, hka05_267, []), (some hka05_142, hka05_268, [])])
def kan_430 : List ai_Nd := []
set_option maxRecDepth 1000000 in
theorem kak_430 : ai_ck [] [] ka_430 [.inl 100000] kan_430 12 = true := by decide +kernel
theorem kah_430 : ai_holds ka_430 := ai_thm kak_430 ai_nil
def hka05_269 : ai_E := [hka05_233, hka05_1, hka05_2, hka05_3, hka05_4, hka05_5, hka05_6, hka05_4, hka05_7, hka05_8, hka05_8, hka05_8, hka05_9, hka05_6, hka05_10, hka05_8, hka05_88, hka05_6, hka05_5, hka05_89, hka05_90, hka05_91, hka05_92, hka05_93, hka05_5, hka05_89, hka05_90, hka05_91, hka05_92, hka05_93, hka05_5, hka05_89, hka05_90, hka05_91, hka05_92, hka05_93, hka05_5]
def hka05_270 : ai_N := (.ofNat 1, .ofNat 5, [(23, .ofNat 0, .ofNat 0)])
def hka05_271 : ai_V := .inl (false, hka05_270)
def hka05_272 : ai_E := [hka05_133, hka05_1, hka05_2, hka05_3, hka05_4, hka05_5, hka05_6, hka05_4, hka05_7, hka05_8, hka05_8, hka05_8, hka05_9, hka05_6, hka05_10, hka05_8, hka05_88, hka05_6, hka05_5, hka05_89, hka05_90, hka05_91, hka05_92, hka05_262, hka05_5, hka05_89, hka05_90, hka05_91, hka05_92, hka05_93, hka05_5, hka05_89, hka05_90, hka05_91, hka05_92, hka05_93, hka05_5]
def hka05_273 : ai_N := (.ofNat 0, .ofNat 0, [(0, .ofNat 0, .ofNat 0)])
def hka05_274 : ai_C := .inl (.int, [(1, hka05_102), (60, hka05_103), (17, hka05_104), (1, hka05_105), (1, hka05_106), (1, hka05_107), (1, hka05_273), (5, hka05_109), (1, hka05_110), (8, hka05_111), (1, hka05_112), (60, hka05_103), (17, hka05_104), (1, hka05_113), (1, hka05_114), (1, hka05_115), (1, hka05_116), (5, hka05_109), (1, hka05_117), (8, hka05_111), (1, hka05_118), (60, hka05_103), (17, hka05_104), (1, hka05_119), (1, hka05_120), (1, hka05_121), (1, hka05_122), (5, hka05_109), (1, hka05_123), (8, hka05_111)])
def hka05_275 : ai_N := (.ofNat 0, .ofNat 0, [(23, .ofNat 0, .ofNat 0)])
def hka05_276 : ai_V := .inl (false, hka05_275)
def hka05_277 : ai_E := [hka05_133, hka05_1, hka05_2, hka05_3, hka05_4, hka05_5, hka05_6, hka05_4, hka05_7, hka05_8, hka05_8, hka05_8, hka05_9, hka05_6, hka05_10, hka05_8, hka05_88, hka05_6, hka05_5, hka05_89, hka05_90, hka05_91, hka05_92, hka05_133, hka05_5, hka05_89, hka05_90, hka05_91, hka05_92, hka05_93, hka05_5, hka05_89, hka05_90, hka05_91, hka05_92, hka05_93, hka05_5]
def hka05_278 : ai_N := (.ofNat 2, .ofNat 5, [(23, .ofNat 0, .ofNat 0)])
def hka05_279 : ai_V := .inl (false, hka05_278)
def hka05_280 : ai_E := [hka05_2, hka05_1, hka05_2, hka05_3, hka05_4, hka05_5, hka05_6, hka05_4, hka05_7, hka05_8, hka05_8, hka05_8, hka05_9, hka05_6, hka05_10, hka05_8, hka05_88, hka05_6, hka05_5, hka05_89, hka05_90, hka05_91, hka05_92, hka05_264, hka05_5, hka05_89, hka05_90, hka05_91, hka05_92, hka05_93, hka05_5, hka05_89, hka05_90, hka05_91, hka05_92, hka05_93, hka05_5]
def hka05_281 : ai_N := (.ofNat 1, .ofNat 4, [(0, .ofNat 0, .ofNat 0)])
def hka05_282 : ai_C := .inl (.int, [(1, hka05_102), (60, hka05_103), (17, hka05_104), (1, hka05_105), (1, hka05_106), (1, hka05_107), (1, hka05_281), (5, hka05_109), (1, hka05_110), (8, hka05_111), (1, hka05_112), (60, hka05_103), (17, hka05_104), (1, hka05_113), (1, hka05_114), (1, hka05_115), (1, hka05_116), (5, hka05_109), (1, hka05_117), (8, hka05_111), (1, hka05_118), (60, hka05_103), (17, hka05_104), (1, hka05_119), (1, hka05_120), (1, hka05_121), (1, hka05_122), (5, hka05_109), (1, hka05_123), (8, hka05_111)])
def hka05_283 : ai_E := [hka05_262, hka05_1, hka05_2, hka05_3, hka05_4, hka05_5, hka05_6, hka05_4, hka05_7, hka05_8, hka05_8, hka05_8, hka05_9, hka05_6, hka05_10, hka05_8, hka05_88, hka05_6, hka05_5, hka05_89, hka05_90, hka05_91, hka05_92, hka05_262, hka05_5, hka05_89, hka05_90, hka05_91, hka05_92, hka05_93, hka05_5, hka05_89, hka05_90, hka05_91, hka05_92, hka05_93, hka05_5]
def hka05_284 : ai_N := (.ofNat 1, .ofNat 5, [(0, .ofNat 0, .ofNat 0)])
def hka05_285 : ai_C := .inl (.int, [(1, hka05_102), (60, hka05_103), (17, hka05_104), (1, hka05_105), (1, hka05_106), (1, hka05_107), (1, hka05_284), (5, hka05_109), (1, hka05_110), (8, hka05_111), (1, hka05_112), (60, hka05_103), (17, hka05_104), (1, hka05_113), (1, hka05_114), (1, hka05_115), (1, hka05_116), (5, hka05_109), (1, hka05_117), (8, hka05_111), (1, hka05_118), (60, hka05_103), (17, hka05_104), (1, hka05_119), (1, hka05_120), (1, hka05_121), (1, hka05_122), (5, hka05_109), (1, hka05_123), (8, hka05_111)])
def hka05_286 : ai_E := [hka05_235, hka05_1, hka05_2, hka05_3, hka05_4, hka05_5, hka05_6, hka05_4, hka05_7, hka05_8, hka05_8, hka05_8, hka05_9, hka05_6, hka05_10, hka05_8, hka05_88, hka05_6, hka05_5, hka05_89, hka05_90, hka05_91, hka05_92, hka05_93, hka05_5, hka05_89, hka05_90, hka05_91, hka05_92, hka05_93, hka05_5, hka05_89, hka05_90, hka05_91, hka05_92, hka05_93, hka05_5]
/-- NeverAgainModel.drop -/
def ka_431 : ai_K := (48, 1, (hka05_94, [hka05_13, hka05_96, hka05_97], [], hka05_244), [.inl 1, .inr (59, 2), .inr (59, 3), .inr (59, 6), .inr (59, 8), .inr (59, 9), .inr (59, 11), .inr (59, 12), .inr (59, 13), .inr (59, 15), .inr (59, 16), .inr (59, 17), .inr (59, 18), .inr (59, 19), .inr (59, 20), .inr (59, 21), .inr (59, 23), .inr (59, 26), .inr (59, 33), .inr (60, 0), .inr (60, 78), .inr (60, 79), .inr (60, 80), .inr (60, 81), .inr (60, 87), .inr (60, 96), .inr (60, 174), .inr (60, 175), .inr (60, 176), .inr (60, 177), .inr (60, 183), .inr (60, 192), .inr (60, 270), .inr (60, 271), .inr (60, 272), .inr (60, 273), .inr (60, 279)], [(some hka05_130, hka05_269, []), (some hka05_271, hka05_272, [(60, hka05_274)]), (some hka05_276, hka05_277, [(60, hka05_274)]), (some hka05_279, hka05_280, [(60, hka05_282)]), (some hka05_271, hka05_283, [(60, hka05_285)]), (some hka05_130, hka05_286, [])])
def kan_431 : List ai_Nd := []
set_option maxRecDepth 1000000 in
theorem kak_431 : ai_ck [ka_430] [] ka_431 [.inl 100000] kan_431 23 = true := by decide +kernel
theorem kah_431 : ai_holds ka_431 := ai_thm kak_431 (ai_cons kah_430 ai_nil)
def hka05_287 : Int × Int := (.ofNat 10, .ofNat 14)
def hka05_288 : Int × Int := (.ofNat 15, .ofNat 2147483647)
def hka05_289 : Int × Int := (.negSucc 2147483647, .ofNat 9)
/-- NeverAgain.asksForPlan -/
def ka_432 : ai_K := (118, 0, ([hka05_6], [hka05_96], [], hka05_260), [.inl 0], [(some hka05_146, [hka05_287], []), (some hka05_142, [hka05_288], []), (some hka05_142, [hka05_289], []), (some hka05_146, [hka05_133], [])])
def kan_432 : List ai_Nd := []
set_option maxRecDepth 1000000 in
theorem kak_432 : ai_ck [] [] ka_432 [.inl 100000] kan_432 12 = true := by decide +kernel
theorem kah_432 : ai_holds ka_432 := ai_thm kak_432 ai_nil
def hka05_290 : ai_E := [hka05_1, hka05_2, hka05_6, hka05_6, hka05_6, hka05_89, hka05_93, hka05_5, hka05_93, hka05_6]
def hka05_291 : ai_N := (.ofNat 4, .ofNat 16, [(0, .ofNat 0, .ofNat 0)])
def hka05_292 : ai_V := .inl (false, hka05_291)
def hka05_293 : ai_N := (.ofNat 1, .ofNat 4, [(1, .ofNat 0, .ofNat 0)])
def hka05_294 : ai_V := .inl (false, hka05_293)
def hka05_295 : ai_N := (.negSucc 2147483647, .ofNat 2147483647, [(2, .ofNat 0, .ofNat 0)])
def hka05_296 : ai_V := .inl (false, hka05_295)
def hka05_297 : ai_N := (.ofNat 0, .ofNat 60, [(5, .ofNat 0, .ofNat 0)])
def hka05_298 : ai_V := .inl (false, hka05_297)
def hka05_299 : ai_N := (.ofNat 0, .ofNat 5, [(6, .ofNat 0, .ofNat 0)])
def hka05_300 : ai_V := .inl (false, hka05_299)
def hka05_301 : ai_N := (.ofNat 0, .ofNat 4, [(7, .ofNat 0, .ofNat 0)])
def hka05_302 : ai_V := .inl (false, hka05_301)
def hka05_303 : ai_C := .inr (.inr (6, [hka05_166, hka05_167, hka05_168, hka05_169, hka05_170, hka05_171, hka05_292, hka05_294, hka05_296, hka05_173, hka05_175, hka05_298, hka05_300, hka05_302]))
def hka05_304 : Bool × Option ai_C := (false, some hka05_303)
def hka05_305 : ai_V := .inr (some (.ref 22))
def hka05_306 : ai_V := .inr (some (.ref 23))
def hka05_307 : ai_V := .inr (some (.ref 24))
def hka05_308 : ai_V := .inr (some (.ref 25))
def hka05_309 : ai_N := (.ofNat 0, .ofNat 5, [(8, .ofNat 0, .ofNat 0)])
def hka05_310 : ai_V := .inl (false, hka05_309)
def hka05_311 : ai_N := (.negSucc 2147483647, .ofNat 2147483647, [(9, .ofNat 0, .ofNat 0)])
def hka05_312 : ai_V := .inl (false, hka05_311)
def hka05_313 : ai_C := .inr (.inr (2, [hka05_199, hka05_305, hka05_306, hka05_307, hka05_308, hka05_310, hka05_312]))
def hka05_314 : Bool × Option ai_C := (false, some hka05_313)
def hka05_315 : ai_W := [hka05_16, hka05_304, hka05_16, hka05_16, hka05_16, hka05_188, hka05_16, hka05_16, hka05_16, hka05_16, hka05_16, hka05_16, hka05_16, hka05_16, hka05_16, hka05_16, hka05_16, hka05_16, hka05_16, hka05_16, hka05_16, hka05_314, hka05_188, hka05_16, hka05_16, hka05_16, hka05_16, hka05_16, hka05_16, hka05_16, hka05_16, hka05_16, hka05_16, hka05_16, hka05_16, hka05_16, hka05_16, hka05_16, hka05_16, hka05_16, hka05_16, hka05_16, hka05_16, hka05_16, hka05_16, hka05_16, hka05_16, hka05_16, hka05_16, hka05_16, hka05_16, hka05_16, hka05_16, hka05_16, hka05_16, hka05_16, hka05_16, hka05_16, hka05_16, hka05_16, hka05_16, hka05_16, hka05_16, hka05_16, hka05_16, hka05_16, hka05_16, hka05_16, hka05_16, hka05_16, hka05_16, hka05_16, hka05_16, hka05_16, hka05_16, hka05_16]
def hka05_316 : ai_N := (.ofNat 0, .ofNat 5, [])
def hka05_317 : ai_V := .inl (false, hka05_316)
def hka05_318 : ai_C := .inr (.inr (2, [hka05_199, hka05_305, hka05_306, hka05_307, hka05_308, hka05_317, hka05_312]))
/-- NeverAgain$Planner.takeAsked -/
def ka_433 : ai_K := (119, 0, (hka05_290, [hka05_200, hka05_165, hka05_97], [], hka05_315), [.inr (1, 6), .inr (1, 7), .inr (1, 8), .inr (1, 9), .inr (1, 10), .inr (1, 11), .inr (1, 12), .inr (1, 13), .inr (21, 5), .inr (21, 6)], [(none, hka05_290, [(21, hka05_318), (22, hka05_187)])])
def hka05_319 : ai_E := [hka05_1, hka05_2, hka05_6, hka05_6, hka05_6, hka05_89, hka05_93, hka05_5, hka05_93, hka05_6, hka05_93]
def hka05_320 : Bool × Option ai_C := (true, some hka05_318)
def hka05_321 : Bool × Option ai_C := (true, some hka05_187)
def hka05_322 : ai_W := [hka05_16, hka05_304, hka05_16, hka05_16, hka05_16, hka05_188, hka05_16, hka05_16, hka05_16, hka05_16, hka05_16, hka05_16, hka05_16, hka05_16, hka05_16, hka05_16, hka05_16, hka05_16, hka05_16, hka05_16, hka05_16, hka05_320, hka05_321, hka05_16, hka05_16, hka05_16, hka05_16, hka05_16, hka05_16, hka05_16, hka05_16, hka05_16, hka05_16, hka05_16, hka05_16, hka05_16, hka05_16, hka05_16, hka05_16, hka05_16, hka05_16, hka05_16, hka05_16, hka05_16, hka05_16, hka05_16, hka05_16, hka05_16, hka05_16, hka05_16, hka05_16, hka05_16, hka05_16, hka05_16, hka05_16, hka05_16, hka05_16, hka05_16, hka05_16, hka05_16, hka05_16, hka05_16, hka05_16, hka05_16, hka05_16, hka05_16, hka05_16, hka05_16, hka05_16, hka05_16, hka05_16, hka05_16, hka05_16, hka05_16, hka05_16, hka05_16]
def kan_433 : List ai_Nd := [(14, (hka05_319, [hka05_200, hka05_165, hka05_227], [], hka05_322), [.inl 2], [.inl 99985, .inl 1, .inr (true, .ofNat 5, 10), .inl 100000])]
set_option maxRecDepth 1000000 in
theorem kak_433 : ai_ck [] [] ka_433 [.inl 100000, .inl 0, .inl 0, .inl 0] kan_433 16 = true := by decide +kernel
theorem kah_433 : ai_holds ka_433 := ai_thm kak_433 ai_nil
def hka05_323 : Int × Int := (.ofNat 0, .ofNat 128)
def hka05_324 : ai_E := [hka05_6, hka05_1, hka05_2, hka05_6, hka05_6, hka05_6, hka05_89, hka05_93, hka05_5, hka05_323]
def hka05_325 : ai_C := .inl (.int, [(17, hka05_186)])
def hka05_326 : Bool × Option ai_C := (false, some hka05_325)
def hka05_327 : ai_V := .inr (some (.ref 18))
def hka05_328 : ai_V := .inr (some (.ref 19))
def hka05_329 : ai_V := .inr (some (.ref 20))
def hka05_330 : ai_N := (.ofNat 0, .ofNat 128, [(9, .ofNat 0, .ofNat 0)])
def hka05_331 : ai_V := .inl (false, hka05_330)
def hka05_332 : ai_C := .inr (.inr (0, [hka05_327, hka05_328, hka05_329, hka05_165, hka05_331]))
def hka05_333 : Bool × Option ai_C := (false, some hka05_332)
def hka05_334 : ai_N := (.negSucc 0, .ofNat 127, [])
def hka05_335 : ai_C := .inl (.int, [(17, hka05_334)])
def hka05_336 : Bool × Option ai_C := (false, some hka05_335)
def hka05_337 : ai_W := [hka05_16, hka05_185, hka05_16, hka05_326, hka05_16, hka05_16, hka05_16, hka05_16, hka05_16, hka05_16, hka05_16, hka05_16, hka05_16, hka05_16, hka05_16, hka05_16, hka05_16, hka05_333, hka05_16, hka05_16, hka05_336, hka05_16, hka05_16, hka05_16, hka05_16, hka05_16, hka05_16, hka05_16, hka05_16, hka05_16, hka05_16, hka05_16, hka05_16, hka05_16, hka05_16, hka05_16, hka05_16, hka05_16, hka05_16, hka05_16, hka05_16, hka05_16, hka05_16, hka05_16, hka05_16, hka05_16, hka05_16, hka05_16, hka05_16, hka05_16, hka05_16, hka05_16, hka05_16, hka05_16, hka05_16, hka05_16, hka05_16, hka05_16, hka05_16, hka05_16, hka05_16, hka05_16, hka05_16, hka05_16, hka05_16, hka05_16, hka05_16, hka05_16, hka05_16, hka05_16, hka05_16, hka05_16, hka05_16, hka05_16, hka05_16, hka05_16]
def hka05_338 : ai_N := (.ofNat 1, .ofNat 16, [])
def hka05_339 : ai_V := .inl (false, hka05_338)
def hka05_340 : ai_N := (.ofNat 1000, .ofNat 1000, [])
def hka05_341 : ai_V := .inl (false, hka05_340)
/-- NeverAgain$Almanac.floorFor -/
def ka_434 : ai_K := (167, 3, (hka05_324, [hka05_199, hka05_96, hka05_97, hka05_97], [], hka05_337), [.inl 1, .inr (1, 6), .inr (1, 7), .inr (1, 8), .inr (1, 9), .inr (1, 10), .inr (1, 11), .inr (1, 12), .inr (1, 13), .inr (17, 4)], [(some hka05_339, hka05_324, []), (some hka05_341, hka05_324, [])])
def hka05_342 : Int × Int := (.ofNat 1, .ofNat 17)
def hka05_343 : ai_E := [hka05_6, hka05_1, hka05_2, hka05_6, hka05_6, hka05_6, hka05_89, hka05_93, hka05_5, hka05_323, hka05_342]
def hka05_344 : ai_V := .inl (false, hka05_186)
def hka05_345 : ai_N := (.ofNat 1, .ofNat 17, [(10, .ofNat 0, .ofNat 0)])
def hka05_346 : ai_V := .inl (false, hka05_345)
def kan_434 : List ai_Nd := [(13, (hka05_343, [hka05_199, hka05_96, hka05_344, hka05_346], [], hka05_337), [.inl 3], [.inl 99986, .inl 1, .inr (true, .ofNat 17, 10), .inl 100000])]
set_option maxRecDepth 1000000 in
theorem kak_434 : ai_ck [ka_394, ka_377] [] ka_434 [.inl 100000, .inl 0, .inl 0, .inl 0] kan_434 15 = true := by decide +kernel
theorem kah_434 : ai_holds ka_434 := ai_thm kak_434 (ai_cons kah_394 (ai_cons kah_377 ai_nil))
def hka05_347 : ai_E := [hka05_1, hka05_2, hka05_6, hka05_6, hka05_6, hka05_89, hka05_93, hka05_5, hka05_323]
def hka05_348 : ai_N := (.ofNat 0, .ofNat 128, [(8, .ofNat 0, .ofNat 0)])
def hka05_349 : ai_V := .inl (false, hka05_348)
def hka05_350 : ai_C := .inr (.inr (0, [hka05_327, hka05_328, hka05_329, hka05_165, hka05_349]))
def hka05_351 : Bool × Option ai_C := (false, some hka05_350)
def hka05_352 : ai_W := [hka05_16, hka05_304, hka05_16, hka05_16, hka05_16, hka05_16, hka05_16, hka05_16, hka05_16, hka05_16, hka05_16, hka05_16, hka05_16, hka05_16, hka05_16, hka05_16, hka05_16, hka05_351, hka05_16, hka05_16, hka05_16, hka05_16, hka05_16, hka05_16, hka05_16, hka05_16, hka05_16, hka05_16, hka05_16, hka05_16, hka05_16, hka05_16, hka05_16, hka05_16, hka05_16, hka05_16, hka05_16, hka05_16, hka05_16, hka05_16, hka05_16, hka05_16, hka05_16, hka05_16, hka05_16, hka05_16, hka05_16, hka05_16, hka05_16, hka05_16, hka05_16, hka05_16, hka05_16, hka05_16, hka05_16, hka05_16, hka05_16, hka05_16, hka05_16, hka05_16, hka05_16, hka05_16, hka05_16, hka05_16, hka05_16, hka05_16, hka05_16, hka05_16, hka05_16, hka05_16, hka05_16, hka05_16, hka05_16, hka05_16, hka05_16, hka05_16]
/-- NeverAgain$Almanac.mostNumber -/
def ka_435 : ai_K := (201, 0, (hka05_347, [hka05_199], [], hka05_352), [.inr (1, 6), .inr (1, 7), .inr (1, 8), .inr (1, 9), .inr (1, 10), .inr (1, 11), .inr (1, 12), .inr (1, 13), .inr (17, 4)], [(some hka05_292, hka05_347, [])])
def kan_435 : List ai_Nd := []
set_option maxRecDepth 1000000 in
theorem kak_435 : ai_ck [] [] ka_435 [.inl 100000] kan_435 5 = true := by decide +kernel
theorem kah_435 : ai_holds ka_435 := ai_thm kak_435 ai_nil
def hka05_353 : ai_N := (.ofNat 0, .ofNat 128, [(0, .ofNat 0, .ofNat 0)])
def hka05_354 : ai_V := .inl (false, hka05_353)
def hka05_355 : ai_C := .inr (.inr (0, [hka05_327, hka05_328, hka05_329, hka05_165, hka05_354]))
def hka05_356 : Bool × Option ai_C := (false, some hka05_355)
def hka05_357 : ai_C := .inl (.int, [(128, hka05_103)])
def hka05_358 : Bool × Option ai_C := (false, some hka05_357)
def hka05_359 : ai_C := .inl (.int, [(128, hka05_334)])
def hka05_360 : Bool × Option ai_C := (false, some hka05_359)
def hka05_361 : ai_W := [hka05_16, hka05_16, hka05_16, hka05_16, hka05_16, hka05_16, hka05_16, hka05_16, hka05_16, hka05_16, hka05_16, hka05_16, hka05_16, hka05_16, hka05_16, hka05_16, hka05_16, hka05_356, hka05_358, hka05_360, hka05_336, hka05_16, hka05_16, hka05_16, hka05_16, hka05_16, hka05_16, hka05_16, hka05_16, hka05_16, hka05_16, hka05_16, hka05_16, hka05_16, hka05_16, hka05_16, hka05_16, hka05_16, hka05_16, hka05_16, hka05_16, hka05_16, hka05_16, hka05_16, hka05_16, hka05_16, hka05_16, hka05_16, hka05_16, hka05_16, hka05_16, hka05_16, hka05_16, hka05_16, hka05_16, hka05_16, hka05_16, hka05_16, hka05_16, hka05_16, hka05_16, hka05_16, hka05_16, hka05_16, hka05_16, hka05_16, hka05_16, hka05_16, hka05_16, hka05_16, hka05_16, hka05_16, hka05_16, hka05_16, hka05_16, hka05_16]
def hka05_362 : Int × Int := (.ofNat 1, .ofNat 128)
def hka05_363 : ai_N := (.ofNat 0, .ofNat 127, [(0, .negSucc 0, .negSucc 0)])
def hka05_364 : ai_V := .inl (false, hka05_363)
def hka05_365 : ai_C := .inr (.inr (0, [hka05_327, hka05_328, hka05_329, hka05_165, hka05_364]))
/-- NeverAgain$Almanac.takeBack -/
def ka_438 : ai_K := (170, 0, ([hka05_323], [hka05_199], [], hka05_361), [.inr (17, 4)], [(none, [hka05_133], []), (none, [hka05_362], [(17, hka05_365), (20, hka05_335)])])
def kan_438 : List ai_Nd := []
set_option maxRecDepth 1000000 in
theorem kak_438 : ai_ck [] [] ka_438 [.inl 100000] kan_438 24 = true := by decide +kernel
theorem kah_438 : ai_holds ka_438 := ai_thm kak_438 ai_nil
def hka05_366 : ai_E := [hka05_6, hka05_93, hka05_6]
def hka05_367 : ai_N := (.ofNat 5, .ofNat 5, [])
def hka05_368 : ai_V := .inl (false, hka05_367)
def hka05_369 : ai_V := .inl (false, hka05_258)
def hka05_370 : ai_C := .inr (.inr (2, [hka05_199, hka05_305, hka05_306, hka05_307, hka05_308, hka05_369, hka05_296]))
def hka05_371 : Bool × Option ai_C := (false, some hka05_370)
def hka05_372 : ai_C := .inl (.int, [(5, hka05_103)])
def hka05_373 : Bool × Option ai_C := (false, some hka05_372)
def hka05_374 : ai_W := [hka05_16, hka05_16, hka05_16, hka05_16, hka05_16, hka05_16, hka05_16, hka05_16, hka05_16, hka05_16, hka05_16, hka05_16, hka05_16, hka05_16, hka05_16, hka05_16, hka05_16, hka05_16, hka05_16, hka05_16, hka05_16, hka05_371, hka05_16, hka05_16, hka05_373, hka05_373, hka05_16, hka05_16, hka05_16, hka05_16, hka05_16, hka05_16, hka05_16, hka05_16, hka05_16, hka05_16, hka05_16, hka05_16, hka05_16, hka05_16, hka05_16, hka05_16, hka05_16, hka05_16, hka05_16, hka05_16, hka05_16, hka05_16, hka05_16, hka05_16, hka05_16, hka05_16, hka05_16, hka05_16, hka05_16, hka05_16, hka05_16, hka05_16, hka05_16, hka05_16, hka05_16, hka05_16, hka05_16, hka05_16, hka05_16, hka05_16, hka05_16, hka05_16, hka05_16, hka05_16, hka05_16, hka05_16, hka05_16, hka05_16, hka05_16, hka05_16]
def hka05_375 : ai_C := .inr (.inr (2, [hka05_199, hka05_305, hka05_306, hka05_307, hka05_308, hka05_369, hka05_96]))
/-- NeverAgain$Planner.searchFrom -/
def ka_439 : ai_K := (168, 0, (hka05_366, [hka05_200, hka05_368, hka05_96, hka05_97, hka05_97, hka05_97], [], hka05_374), [.inl 2, .inr (21, 5), .inr (21, 6)], [(none, hka05_366, [(21, hka05_375), (25, hka05_372)])])
def kan_439 : List ai_Nd := []
set_option maxRecDepth 1000000 in
theorem kak_439 : ai_ck [] [] ka_439 [.inl 100000] kan_439 17 = true := by decide +kernel
theorem kah_439 : ai_holds ka_439 := ai_thm kak_439 ai_nil
def hka05_376 : ai_E := [hka05_6, hka05_1, hka05_2, hka05_6, hka05_6, hka05_6, hka05_89, hka05_93, hka05_5, hka05_323, hka05_93, hka05_6]
def hka05_377 : ai_N := (.ofNat 4, .ofNat 4, [])
def hka05_378 : ai_V := .inl (false, hka05_377)
def hka05_379 : ai_N := (.negSucc 2147483647, .ofNat 2147483647, [(11, .ofNat 0, .ofNat 0)])
def hka05_380 : ai_V := .inl (false, hka05_379)
def hka05_381 : ai_C := .inr (.inr (2, [hka05_199, hka05_305, hka05_306, hka05_307, hka05_308, hka05_227, hka05_380]))
def hka05_382 : Bool × Option ai_C := (false, some hka05_381)
def hka05_383 : ai_C := .inl (.int, [(6, hka05_186)])
def hka05_384 : Bool × Option ai_C := (false, some hka05_383)
def hka05_385 : ai_W := [hka05_16, hka05_185, hka05_16, hka05_326, hka05_16, hka05_16, hka05_16, hka05_16, hka05_16, hka05_16, hka05_16, hka05_16, hka05_16, hka05_16, hka05_16, hka05_16, hka05_16, hka05_333, hka05_358, hka05_360, hka05_336, hka05_382, hka05_188, hka05_384, hka05_373, hka05_373, hka05_16, hka05_16, hka05_16, hka05_16, hka05_16, hka05_16, hka05_16, hka05_16, hka05_16, hka05_16, hka05_16, hka05_16, hka05_16, hka05_16, hka05_16, hka05_16, hka05_16, hka05_16, hka05_16, hka05_16, hka05_16, hka05_16, hka05_16, hka05_16, hka05_16, hka05_16, hka05_16, hka05_16, hka05_16, hka05_16, hka05_16, hka05_16, hka05_16, hka05_16, hka05_16, hka05_16, hka05_16, hka05_16, hka05_16, hka05_16, hka05_16, hka05_16, hka05_16, hka05_16, hka05_16, hka05_16, hka05_16, hka05_16, hka05_16, hka05_16]
def hka05_386 : ai_E := [hka05_6, hka05_1, hka05_2, hka05_6, hka05_6, hka05_6, hka05_89, hka05_93, hka05_5, hka05_323, hka05_5, hka05_6]
def hka05_387 : ai_N := (.ofNat 0, .ofNat 4, [(10, .ofNat 0, .ofNat 0)])
def hka05_388 : ai_V := .inl (false, hka05_387)
def hka05_389 : ai_C := .inr (.inr (2, [hka05_199, hka05_305, hka05_306, hka05_307, hka05_308, hka05_388, hka05_96]))
def hka05_390 : ai_E := [hka05_6, hka05_1, hka05_2, hka05_6, hka05_6, hka05_6, hka05_89, hka05_93, hka05_5, hka05_323, hka05_190, hka05_6]
def hka05_391 : ai_N := (.ofNat 0, .ofNat 128, [(9, .negSucc 0, .ofNat 0)])
def hka05_392 : ai_V := .inl (false, hka05_391)
def hka05_393 : ai_C := .inr (.inr (0, [hka05_327, hka05_328, hka05_329, hka05_165, hka05_392]))
def hka05_394 : ai_N := (.ofNat 5, .ofNat 5, [(10, .ofNat 0, .ofNat 0)])
def hka05_395 : ai_V := .inl (false, hka05_394)
def hka05_396 : ai_C := .inr (.inr (2, [hka05_199, hka05_305, hka05_306, hka05_307, hka05_308, hka05_395, hka05_344]))
/-- NeverAgain$Planner.searchFrom -/
def ka_441 : ai_K := (168, 3, (hka05_376, [hka05_200, hka05_378, hka05_96, hka05_97, hka05_97, hka05_97], [], hka05_385), [.inl 2, .inr (1, 6), .inr (1, 7), .inr (1, 8), .inr (1, 9), .inr (1, 10), .inr (1, 11), .inr (1, 12), .inr (1, 13), .inr (17, 4), .inr (21, 5), .inr (21, 6)], [(none, hka05_386, [(21, hka05_389), (25, hka05_372)]), (none, hka05_390, [(17, hka05_393), (18, hka05_357), (19, hka05_359), (20, hka05_335), (21, hka05_396), (24, hka05_372), (25, hka05_372)]), (none, hka05_390, [(17, hka05_393), (18, hka05_357), (19, hka05_359), (20, hka05_335), (21, hka05_396), (24, hka05_372), (25, hka05_372)])])
def hka05_397 : ai_E := [hka05_6, hka05_1, hka05_2, hka05_6, hka05_6, hka05_6, hka05_89, hka05_93, hka05_5, hka05_323, hka05_190, hka05_6, hka05_342]
def hka05_398 : ai_N := (.ofNat 1, .ofNat 17, [(12, .ofNat 0, .ofNat 0)])
def hka05_399 : ai_V := .inl (false, hka05_398)
def hka05_400 : Bool × Option ai_C := (true, some hka05_393)
def hka05_401 : Bool × Option ai_C := (true, some hka05_357)
def hka05_402 : Bool × Option ai_C := (true, some hka05_359)
def hka05_403 : Bool × Option ai_C := (true, some hka05_335)
def hka05_404 : Bool × Option ai_C := (true, some hka05_396)
def hka05_405 : Bool × Option ai_C := (true, some hka05_372)
def hka05_406 : ai_W := [hka05_16, hka05_185, hka05_16, hka05_326, hka05_16, hka05_16, hka05_16, hka05_16, hka05_16, hka05_16, hka05_16, hka05_16, hka05_16, hka05_16, hka05_16, hka05_16, hka05_16, hka05_400, hka05_401, hka05_402, hka05_403, hka05_404, hka05_188, hka05_384, hka05_405, hka05_405, hka05_16, hka05_16, hka05_16, hka05_16, hka05_16, hka05_16, hka05_16, hka05_16, hka05_16, hka05_16, hka05_16, hka05_16, hka05_16, hka05_16, hka05_16, hka05_16, hka05_16, hka05_16, hka05_16, hka05_16, hka05_16, hka05_16, hka05_16, hka05_16, hka05_16, hka05_16, hka05_16, hka05_16, hka05_16, hka05_16, hka05_16, hka05_16, hka05_16, hka05_16, hka05_16, hka05_16, hka05_16, hka05_16, hka05_16, hka05_16, hka05_16, hka05_16, hka05_16, hka05_16, hka05_16, hka05_16, hka05_16, hka05_16, hka05_16, hka05_16]
def kan_441 : List ai_Nd := [(53, (hka05_397, [hka05_200, hka05_378, hka05_96, hka05_344, hka05_20, hka05_399], [], hka05_406), [.inl 5], [.inl 99946, .inl 1, .inr (true, .ofNat 17, 12), .inl 100000])]
set_option maxRecDepth 1000000 in
theorem kak_441 : ai_ck [ka_438, ka_374, ka_435, ka_394, ka_378, ka_439] [] ka_441 [.inl 100000, .inl 0, .inl 0, .inl 0] kan_441 50 = true := by decide +kernel
theorem kah_441 : ai_holds ka_441 := ai_thm kak_441 (ai_cons kah_438 (ai_cons kah_374 (ai_cons kah_435 (ai_cons kah_394 (ai_cons kah_378 (ai_cons kah_439 ai_nil))))))
def hka05_407 : ai_N := (.ofNat 3, .ofNat 3, [])
def hka05_408 : ai_V := .inl (false, hka05_407)
def hka05_409 : ai_E := [hka05_6, hka05_1, hka05_2, hka05_6, hka05_6, hka05_6, hka05_89, hka05_93, hka05_5, hka05_323, hka05_9, hka05_6]
def hka05_410 : ai_N := (.ofNat 0, .ofNat 3, [(10, .ofNat 0, .ofNat 0)])
def hka05_411 : ai_V := .inl (false, hka05_410)
def hka05_412 : ai_C := .inr (.inr (2, [hka05_199, hka05_305, hka05_306, hka05_307, hka05_308, hka05_411, hka05_96]))
def hka05_413 : Int × Int := (.ofNat 4, .ofNat 5)
def hka05_414 : ai_E := [hka05_6, hka05_1, hka05_2, hka05_6, hka05_6, hka05_6, hka05_89, hka05_93, hka05_5, hka05_323, hka05_413, hka05_6]
def hka05_415 : ai_N := (.ofNat 0, .ofNat 128, [(9, .negSucc 127, .ofNat 0)])
def hka05_416 : ai_V := .inl (false, hka05_415)
def hka05_417 : ai_C := .inr (.inr (0, [hka05_327, hka05_328, hka05_329, hka05_165, hka05_416]))
def hka05_418 : ai_N := (.ofNat 4, .ofNat 5, [(10, .ofNat 0, .ofNat 0)])
def hka05_419 : ai_V := .inl (false, hka05_418)
def hka05_420 : ai_C := .inr (.inr (2, [hka05_199, hka05_305, hka05_306, hka05_307, hka05_308, hka05_419, hka05_344]))
/-- NeverAgain$Planner.searchFrom -/
def ka_443 : ai_K := (168, 4, (hka05_376, [hka05_200, hka05_408, hka05_96, hka05_97, hka05_97, hka05_97], [], hka05_385), [.inl 2, .inr (1, 6), .inr (1, 7), .inr (1, 8), .inr (1, 9), .inr (1, 10), .inr (1, 11), .inr (1, 12), .inr (1, 13), .inr (17, 4), .inr (21, 5), .inr (21, 6)], [(none, hka05_409, [(21, hka05_412), (25, hka05_372)]), (none, hka05_414, [(17, hka05_417), (18, hka05_357), (19, hka05_359), (20, hka05_335), (21, hka05_420), (24, hka05_372), (25, hka05_372)]), (none, hka05_414, [(17, hka05_417), (18, hka05_357), (19, hka05_359), (20, hka05_335), (21, hka05_420), (24, hka05_372), (25, hka05_372)])])
def hka05_421 : ai_E := [hka05_6, hka05_1, hka05_2, hka05_6, hka05_6, hka05_6, hka05_89, hka05_93, hka05_5, hka05_323, hka05_413, hka05_6, hka05_342]
def hka05_422 : Bool × Option ai_C := (true, some hka05_417)
def hka05_423 : Bool × Option ai_C := (true, some hka05_420)
def hka05_424 : ai_W := [hka05_16, hka05_185, hka05_16, hka05_326, hka05_16, hka05_16, hka05_16, hka05_16, hka05_16, hka05_16, hka05_16, hka05_16, hka05_16, hka05_16, hka05_16, hka05_16, hka05_16, hka05_422, hka05_401, hka05_402, hka05_403, hka05_423, hka05_188, hka05_384, hka05_405, hka05_405, hka05_16, hka05_16, hka05_16, hka05_16, hka05_16, hka05_16, hka05_16, hka05_16, hka05_16, hka05_16, hka05_16, hka05_16, hka05_16, hka05_16, hka05_16, hka05_16, hka05_16, hka05_16, hka05_16, hka05_16, hka05_16, hka05_16, hka05_16, hka05_16, hka05_16, hka05_16, hka05_16, hka05_16, hka05_16, hka05_16, hka05_16, hka05_16, hka05_16, hka05_16, hka05_16, hka05_16, hka05_16, hka05_16, hka05_16, hka05_16, hka05_16, hka05_16, hka05_16, hka05_16, hka05_16, hka05_16, hka05_16, hka05_16, hka05_16, hka05_16]
def kan_443 : List ai_Nd := [(53, (hka05_421, [hka05_200, hka05_408, hka05_96, hka05_344, hka05_20, hka05_399], [], hka05_424), [.inl 5], [.inl 99946, .inl 1, .inr (true, .ofNat 17, 12), .inl 100000])]
set_option maxRecDepth 1000000 in
theorem kak_443 : ai_ck [ka_438, ka_374, ka_435, ka_394, ka_378, ka_441] [] ka_443 [.inl 100000, .inl 0, .inl 0, .inl 0] kan_443 50 = true := by decide +kernel
theorem kah_443 : ai_holds ka_443 := ai_thm kak_443 (ai_cons kah_438 (ai_cons kah_374 (ai_cons kah_435 (ai_cons kah_394 (ai_cons kah_378 (ai_cons kah_441 ai_nil))))))
def hka05_425 : ai_N := (.ofNat 2, .ofNat 2, [])
def hka05_426 : ai_V := .inl (false, hka05_425)
def hka05_427 : Int × Int := (.ofNat 0, .ofNat 2)
def hka05_428 : ai_E := [hka05_6, hka05_1, hka05_2, hka05_6, hka05_6, hka05_6, hka05_89, hka05_93, hka05_5, hka05_323, hka05_427, hka05_6]
def hka05_429 : ai_N := (.ofNat 0, .ofNat 2, [(10, .ofNat 0, .ofNat 0)])
def hka05_430 : ai_V := .inl (false, hka05_429)
def hka05_431 : ai_C := .inr (.inr (2, [hka05_199, hka05_305, hka05_306, hka05_307, hka05_308, hka05_430, hka05_96]))
def hka05_432 : Int × Int := (.ofNat 3, .ofNat 5)
def hka05_433 : ai_E := [hka05_6, hka05_1, hka05_2, hka05_6, hka05_6, hka05_6, hka05_89, hka05_93, hka05_5, hka05_323, hka05_432, hka05_6]
def hka05_434 : ai_N := (.ofNat 3, .ofNat 5, [(10, .ofNat 0, .ofNat 0)])
def hka05_435 : ai_V := .inl (false, hka05_434)
def hka05_436 : ai_C := .inr (.inr (2, [hka05_199, hka05_305, hka05_306, hka05_307, hka05_308, hka05_435, hka05_344]))
/-- NeverAgain$Planner.searchFrom -/
def ka_445 : ai_K := (168, 5, (hka05_376, [hka05_200, hka05_426, hka05_96, hka05_97, hka05_97, hka05_97], [], hka05_385), [.inl 2, .inr (1, 6), .inr (1, 7), .inr (1, 8), .inr (1, 9), .inr (1, 10), .inr (1, 11), .inr (1, 12), .inr (1, 13), .inr (17, 4), .inr (21, 5), .inr (21, 6)], [(none, hka05_428, [(21, hka05_431), (25, hka05_372)]), (none, hka05_433, [(17, hka05_417), (18, hka05_357), (19, hka05_359), (20, hka05_335), (21, hka05_436), (24, hka05_372), (25, hka05_372)]), (none, hka05_433, [(17, hka05_417), (18, hka05_357), (19, hka05_359), (20, hka05_335), (21, hka05_436), (24, hka05_372), (25, hka05_372)])])
def hka05_437 : ai_E := [hka05_6, hka05_1, hka05_2, hka05_6, hka05_6, hka05_6, hka05_89, hka05_93, hka05_5, hka05_323, hka05_432, hka05_6, hka05_342]
def hka05_438 : Bool × Option ai_C := (true, some hka05_436)
def hka05_439 : ai_W := [hka05_16, hka05_185, hka05_16, hka05_326, hka05_16, hka05_16, hka05_16, hka05_16, hka05_16, hka05_16, hka05_16, hka05_16, hka05_16, hka05_16, hka05_16, hka05_16, hka05_16, hka05_422, hka05_401, hka05_402, hka05_403, hka05_438, hka05_188, hka05_384, hka05_405, hka05_405, hka05_16, hka05_16, hka05_16, hka05_16, hka05_16, hka05_16, hka05_16, hka05_16, hka05_16, hka05_16, hka05_16, hka05_16, hka05_16, hka05_16, hka05_16, hka05_16, hka05_16, hka05_16, hka05_16, hka05_16, hka05_16, hka05_16, hka05_16, hka05_16, hka05_16, hka05_16, hka05_16, hka05_16, hka05_16, hka05_16, hka05_16, hka05_16, hka05_16, hka05_16, hka05_16, hka05_16, hka05_16, hka05_16, hka05_16, hka05_16, hka05_16, hka05_16, hka05_16, hka05_16, hka05_16, hka05_16, hka05_16, hka05_16, hka05_16, hka05_16]
def kan_445 : List ai_Nd := [(53, (hka05_437, [hka05_200, hka05_426, hka05_96, hka05_344, hka05_20, hka05_399], [], hka05_439), [.inl 5], [.inl 99946, .inl 1, .inr (true, .ofNat 17, 12), .inl 100000])]
set_option maxRecDepth 1000000 in
theorem kak_445 : ai_ck [ka_438, ka_374, ka_435, ka_394, ka_378, ka_443] [] ka_445 [.inl 100000, .inl 0, .inl 0, .inl 0] kan_445 50 = true := by decide +kernel
theorem kah_445 : ai_holds ka_445 := ai_thm kak_445 (ai_cons kah_438 (ai_cons kah_374 (ai_cons kah_435 (ai_cons kah_394 (ai_cons kah_378 (ai_cons kah_443 ai_nil))))))
def hka05_440 : ai_E := [hka05_6, hka05_1, hka05_2, hka05_6, hka05_6, hka05_6, hka05_89, hka05_93, hka05_5, hka05_323, hka05_91, hka05_6]
def hka05_441 : ai_N := (.ofNat 0, .ofNat 1, [(10, .ofNat 0, .ofNat 0)])
def hka05_442 : ai_V := .inl (false, hka05_441)
def hka05_443 : ai_C := .inr (.inr (2, [hka05_199, hka05_305, hka05_306, hka05_307, hka05_308, hka05_442, hka05_96]))
def hka05_444 : ai_E := [hka05_6, hka05_1, hka05_2, hka05_6, hka05_6, hka05_6, hka05_89, hka05_93, hka05_5, hka05_323, hka05_264, hka05_6]
def hka05_445 : ai_N := (.ofNat 2, .ofNat 5, [(10, .ofNat 0, .ofNat 0)])
def hka05_446 : ai_V := .inl (false, hka05_445)
def hka05_447 : ai_C := .inr (.inr (2, [hka05_199, hka05_305, hka05_306, hka05_307, hka05_308, hka05_446, hka05_344]))
/-- NeverAgain$Planner.searchFrom -/
def ka_447 : ai_K := (168, 6, (hka05_376, [hka05_200, hka05_146, hka05_96, hka05_97, hka05_97, hka05_97], [], hka05_385), [.inl 2, .inr (1, 6), .inr (1, 7), .inr (1, 8), .inr (1, 9), .inr (1, 10), .inr (1, 11), .inr (1, 12), .inr (1, 13), .inr (17, 4), .inr (21, 5), .inr (21, 6)], [(none, hka05_440, [(21, hka05_443), (25, hka05_372)]), (none, hka05_444, [(17, hka05_417), (18, hka05_357), (19, hka05_359), (20, hka05_335), (21, hka05_447), (24, hka05_372), (25, hka05_372)]), (none, hka05_444, [(17, hka05_417), (18, hka05_357), (19, hka05_359), (20, hka05_335), (21, hka05_447), (24, hka05_372), (25, hka05_372)])])
def hka05_448 : ai_E := [hka05_6, hka05_1, hka05_2, hka05_6, hka05_6, hka05_6, hka05_89, hka05_93, hka05_5, hka05_323, hka05_264, hka05_6, hka05_342]
def hka05_449 : Bool × Option ai_C := (true, some hka05_447)
def hka05_450 : ai_W := [hka05_16, hka05_185, hka05_16, hka05_326, hka05_16, hka05_16, hka05_16, hka05_16, hka05_16, hka05_16, hka05_16, hka05_16, hka05_16, hka05_16, hka05_16, hka05_16, hka05_16, hka05_422, hka05_401, hka05_402, hka05_403, hka05_449, hka05_188, hka05_384, hka05_405, hka05_405, hka05_16, hka05_16, hka05_16, hka05_16, hka05_16, hka05_16, hka05_16, hka05_16, hka05_16, hka05_16, hka05_16, hka05_16, hka05_16, hka05_16, hka05_16, hka05_16, hka05_16, hka05_16, hka05_16, hka05_16, hka05_16, hka05_16, hka05_16, hka05_16, hka05_16, hka05_16, hka05_16, hka05_16, hka05_16, hka05_16, hka05_16, hka05_16, hka05_16, hka05_16, hka05_16, hka05_16, hka05_16, hka05_16, hka05_16, hka05_16, hka05_16, hka05_16, hka05_16, hka05_16, hka05_16, hka05_16, hka05_16, hka05_16, hka05_16, hka05_16]
def kan_447 : List ai_Nd := [(53, (hka05_448, [hka05_200, hka05_146, hka05_96, hka05_344, hka05_20, hka05_399], [], hka05_450), [.inl 5], [.inl 99946, .inl 1, .inr (true, .ofNat 17, 12), .inl 100000])]
set_option maxRecDepth 1000000 in
theorem kak_447 : ai_ck [ka_438, ka_374, ka_435, ka_394, ka_378, ka_445] [] ka_447 [.inl 100000, .inl 0, .inl 0, .inl 0] kan_447 50 = true := by decide +kernel
theorem kah_447 : ai_holds ka_447 := ai_thm kak_447 (ai_cons kah_438 (ai_cons kah_374 (ai_cons kah_435 (ai_cons kah_394 (ai_cons kah_378 (ai_cons kah_445 ai_nil))))))
def hka05_451 : ai_E := [hka05_1, hka05_2, hka05_6, hka05_6, hka05_6, hka05_89, hka05_93, hka05_5, hka05_323, hka05_93, hka05_6]
def hka05_452 : ai_N := (.ofNat 0, .ofNat 5, [(9, .ofNat 0, .ofNat 0)])
def hka05_453 : ai_V := .inl (false, hka05_452)
def hka05_454 : ai_N := (.negSucc 2147483647, .ofNat 2147483647, [(10, .ofNat 0, .ofNat 0)])
def hka05_455 : ai_V := .inl (false, hka05_454)
def hka05_456 : ai_C := .inr (.inr (2, [hka05_199, hka05_305, hka05_306, hka05_307, hka05_308, hka05_453, hka05_455]))
def hka05_457 : Bool × Option ai_C := (false, some hka05_456)
def hka05_458 : ai_W := [hka05_16, hka05_304, hka05_16, hka05_326, hka05_16, hka05_16, hka05_16, hka05_16, hka05_16, hka05_16, hka05_16, hka05_16, hka05_16, hka05_16, hka05_16, hka05_16, hka05_16, hka05_351, hka05_358, hka05_360, hka05_336, hka05_457, hka05_188, hka05_384, hka05_373, hka05_373, hka05_16, hka05_16, hka05_16, hka05_16, hka05_16, hka05_16, hka05_16, hka05_16, hka05_16, hka05_16, hka05_16, hka05_16, hka05_16, hka05_16, hka05_16, hka05_16, hka05_16, hka05_16, hka05_16, hka05_16, hka05_16, hka05_16, hka05_16, hka05_16, hka05_16, hka05_16, hka05_16, hka05_16, hka05_16, hka05_16, hka05_16, hka05_16, hka05_16, hka05_16, hka05_16, hka05_16, hka05_16, hka05_16, hka05_16, hka05_16, hka05_16, hka05_16, hka05_16, hka05_16, hka05_16, hka05_16, hka05_16, hka05_16, hka05_16, hka05_16]
def hka05_459 : ai_E := [hka05_1, hka05_2, hka05_6, hka05_6, hka05_6, hka05_89, hka05_93, hka05_5, hka05_323, hka05_133, hka05_6]
def hka05_460 : ai_N := (.ofNat 0, .ofNat 0, [(9, .ofNat 0, .ofNat 0)])
def hka05_461 : ai_V := .inl (false, hka05_460)
def hka05_462 : ai_C := .inr (.inr (2, [hka05_199, hka05_305, hka05_306, hka05_307, hka05_308, hka05_461, hka05_142]))
def hka05_463 : ai_E := [hka05_1, hka05_2, hka05_6, hka05_6, hka05_6, hka05_89, hka05_93, hka05_5, hka05_323, hka05_262, hka05_6]
def hka05_464 : ai_N := (.ofNat 0, .ofNat 128, [(8, .negSucc 127, .ofNat 0)])
def hka05_465 : ai_V := .inl (false, hka05_464)
def hka05_466 : ai_C := .inr (.inr (0, [hka05_327, hka05_328, hka05_329, hka05_165, hka05_465]))
def hka05_467 : ai_N := (.ofNat 1, .ofNat 5, [(9, .ofNat 0, .ofNat 0)])
def hka05_468 : ai_V := .inl (false, hka05_467)
def hka05_469 : ai_C := .inr (.inr (2, [hka05_199, hka05_305, hka05_306, hka05_307, hka05_308, hka05_468, hka05_344]))
/-- NeverAgain$Planner.searchFrom -/
def ka_448 : ai_K := (168, 7, (hka05_451, [hka05_200, hka05_142, hka05_142, hka05_97, hka05_97, hka05_97], [], hka05_458), [.inr (1, 6), .inr (1, 7), .inr (1, 8), .inr (1, 9), .inr (1, 10), .inr (1, 11), .inr (1, 12), .inr (1, 13), .inr (17, 4), .inr (21, 5), .inr (21, 6)], [(none, hka05_459, [(21, hka05_462), (25, hka05_372)]), (none, hka05_463, [(17, hka05_466), (18, hka05_357), (19, hka05_359), (20, hka05_335), (21, hka05_469), (24, hka05_372), (25, hka05_372)]), (none, hka05_463, [(17, hka05_466), (18, hka05_357), (19, hka05_359), (20, hka05_335), (21, hka05_469), (24, hka05_372), (25, hka05_372)])])
def hka05_470 : ai_E := [hka05_1, hka05_2, hka05_6, hka05_6, hka05_6, hka05_89, hka05_93, hka05_5, hka05_323, hka05_262, hka05_6, hka05_342]
def hka05_471 : ai_N := (.ofNat 1, .ofNat 17, [(11, .ofNat 0, .ofNat 0)])
def hka05_472 : ai_V := .inl (false, hka05_471)
def hka05_473 : Bool × Option ai_C := (true, some hka05_466)
def hka05_474 : Bool × Option ai_C := (true, some hka05_469)
def hka05_475 : ai_W := [hka05_16, hka05_304, hka05_16, hka05_326, hka05_16, hka05_16, hka05_16, hka05_16, hka05_16, hka05_16, hka05_16, hka05_16, hka05_16, hka05_16, hka05_16, hka05_16, hka05_16, hka05_473, hka05_401, hka05_402, hka05_403, hka05_474, hka05_188, hka05_384, hka05_405, hka05_405, hka05_16, hka05_16, hka05_16, hka05_16, hka05_16, hka05_16, hka05_16, hka05_16, hka05_16, hka05_16, hka05_16, hka05_16, hka05_16, hka05_16, hka05_16, hka05_16, hka05_16, hka05_16, hka05_16, hka05_16, hka05_16, hka05_16, hka05_16, hka05_16, hka05_16, hka05_16, hka05_16, hka05_16, hka05_16, hka05_16, hka05_16, hka05_16, hka05_16, hka05_16, hka05_16, hka05_16, hka05_16, hka05_16, hka05_16, hka05_16, hka05_16, hka05_16, hka05_16, hka05_16, hka05_16, hka05_16, hka05_16, hka05_16, hka05_16, hka05_16]
def kan_448 : List ai_Nd := [(53, (hka05_470, [hka05_200, hka05_142, hka05_142, hka05_344, hka05_292, hka05_472], [], hka05_475), [.inl 5], [.inl 99946, .inl 1, .inr (true, .ofNat 17, 11), .inl 100000])]
set_option maxRecDepth 1000000 in
theorem kak_448 : ai_ck [ka_438, ka_374, ka_435, ka_394, ka_378, ka_447] [] ka_448 [.inl 100000, .inl 0, .inl 0, .inl 0] kan_448 50 = true := by decide +kernel
theorem kah_448 : ai_holds ka_448 := ai_thm kak_448 (ai_cons kah_438 (ai_cons kah_374 (ai_cons kah_435 (ai_cons kah_394 (ai_cons kah_378 (ai_cons kah_447 ai_nil))))))
/-- NeverAgain$Planner.findCheapest -/
def ka_449 : ai_K := (120, 8, (hka05_451, [hka05_200, hka05_97], [], hka05_458), [.inr (1, 6), .inr (1, 7), .inr (1, 8), .inr (1, 9), .inr (1, 10), .inr (1, 11), .inr (1, 12), .inr (1, 13), .inr (17, 4), .inr (21, 5), .inr (21, 6)], [(none, hka05_463, [(17, hka05_466), (18, hka05_357), (19, hka05_359), (20, hka05_335), (21, hka05_469), (23, hka05_383), (24, hka05_372), (25, hka05_372)]), (none, hka05_463, [(17, hka05_466), (18, hka05_357), (19, hka05_359), (20, hka05_335), (21, hka05_469), (23, hka05_383), (24, hka05_372), (25, hka05_372)]), (none, hka05_459, [(21, hka05_462), (23, hka05_383), (25, hka05_372)])])
def hka05_476 : Int × Int := (.negSucc 0, .ofNat 4)
def hka05_477 : ai_E := [hka05_1, hka05_2, hka05_6, hka05_6, hka05_6, hka05_89, hka05_93, hka05_5, hka05_323, hka05_93, hka05_6, hka05_476]
def hka05_478 : ai_N := (.negSucc 0, .ofNat 4, [(11, .ofNat 0, .ofNat 0), (9, .negSucc 5, .negSucc 0)])
def hka05_479 : ai_V := .inl (false, hka05_478)
def hka05_480 : ai_C := .inr (.inr (2, [hka05_199, hka05_305, hka05_306, hka05_307, hka05_308, hka05_453, hka05_341]))
def hka05_481 : Bool × Option ai_C := (true, some hka05_480)
def hka05_482 : Bool × Option ai_C := (true, some hka05_383)
def hka05_483 : ai_W := [hka05_16, hka05_304, hka05_16, hka05_326, hka05_16, hka05_16, hka05_16, hka05_16, hka05_16, hka05_16, hka05_16, hka05_16, hka05_16, hka05_16, hka05_16, hka05_16, hka05_16, hka05_351, hka05_358, hka05_360, hka05_336, hka05_481, hka05_188, hka05_482, hka05_373, hka05_373, hka05_16, hka05_16, hka05_16, hka05_16, hka05_16, hka05_16, hka05_16, hka05_16, hka05_16, hka05_16, hka05_16, hka05_16, hka05_16, hka05_16, hka05_16, hka05_16, hka05_16, hka05_16, hka05_16, hka05_16, hka05_16, hka05_16, hka05_16, hka05_16, hka05_16, hka05_16, hka05_16, hka05_16, hka05_16, hka05_16, hka05_16, hka05_16, hka05_16, hka05_16, hka05_16, hka05_16, hka05_16, hka05_16, hka05_16, hka05_16, hka05_16, hka05_16, hka05_16, hka05_16, hka05_16, hka05_16, hka05_16, hka05_16, hka05_16, hka05_16]
def kan_449 : List ai_Nd := [(24, (hka05_477, [hka05_200, hka05_479], [], hka05_483), [.inl 1], [.inl 99975, .inl 1, .inr (false, .negSucc 0, 11), .inl 100000])]
set_option maxRecDepth 1000000 in
theorem kak_449 : ai_ck [ka_434, ka_448] [] ka_449 [.inl 100000, .inl 0, .inl 0, .inl 0] kan_449 24 = true := by decide +kernel
theorem kah_449 : ai_holds ka_449 := ai_thm kak_449 (ai_cons kah_434 (ai_cons kah_448 ai_nil))
def hka05_484 : ai_E := [hka05_93, hka05_6]
def hka05_485 : ai_N := (.negSucc 2147483647, .ofNat 2147483647, [(1, .ofNat 0, .ofNat 0)])
def hka05_486 : ai_V := .inl (false, hka05_485)
def hka05_487 : ai_C := .inr (.inr (2, [hka05_199, hka05_305, hka05_306, hka05_307, hka05_308, hka05_253, hka05_486]))
def hka05_488 : Bool × Option ai_C := (false, some hka05_487)
def hka05_489 : ai_W := [hka05_16, hka05_16, hka05_16, hka05_16, hka05_16, hka05_16, hka05_16, hka05_16, hka05_16, hka05_16, hka05_16, hka05_16, hka05_16, hka05_16, hka05_16, hka05_16, hka05_16, hka05_16, hka05_16, hka05_16, hka05_16, hka05_488, hka05_16, hka05_16, hka05_16, hka05_16, hka05_16, hka05_16, hka05_16, hka05_16, hka05_16, hka05_16, hka05_16, hka05_16, hka05_16, hka05_16, hka05_16, hka05_16, hka05_16, hka05_16, hka05_16, hka05_16, hka05_16, hka05_16, hka05_16, hka05_16, hka05_16, hka05_16, hka05_16, hka05_16, hka05_16, hka05_16, hka05_16, hka05_16, hka05_16, hka05_16, hka05_16, hka05_16, hka05_16, hka05_16, hka05_16, hka05_16, hka05_16, hka05_16, hka05_16, hka05_16, hka05_16, hka05_16, hka05_16, hka05_16, hka05_16, hka05_16, hka05_16, hka05_16, hka05_16, hka05_16]
def hka05_490 : Int × Int := (.ofNat 1000, .ofNat 2147483647)
def hka05_491 : ai_E := [hka05_93, hka05_490]
def hka05_492 : ai_N := (.negSucc 2147483647, .ofNat 999, [(1, .ofNat 0, .ofNat 0)])
def hka05_493 : ai_V := .inl (false, hka05_492)
def hka05_494 : Int × Int := (.negSucc 2147483647, .ofNat 999)
def hka05_495 : ai_E := [hka05_93, hka05_494]
/-- NeverAgain$Planner.answer -/
def ka_450 : ai_K := (121, 0, (hka05_484, [hka05_200, hka05_142, hka05_97], [], hka05_489), [.inr (21, 5), .inr (21, 6)], [(some hka05_148, hka05_491, []), (some hka05_493, hka05_495, [])])
def kan_450 : List ai_Nd := []
set_option maxRecDepth 1000000 in
theorem kak_450 : ai_ck [] [] ka_450 [.inl 100000] kan_450 10 = true := by decide +kernel
theorem kah_450 : ai_holds ka_450 := ai_thm kak_450 ai_nil
def hka05_496 : ai_W := [hka05_16, hka05_16, hka05_16, hka05_16, hka05_16, hka05_16, hka05_16, hka05_16, hka05_16, hka05_16, hka05_16, hka05_16, hka05_16, hka05_16, hka05_16, hka05_16, hka05_16, hka05_16, hka05_16, hka05_16, hka05_16, hka05_371, hka05_16, hka05_16, hka05_16, hka05_373, hka05_16, hka05_16, hka05_16, hka05_16, hka05_16, hka05_16, hka05_16, hka05_16, hka05_16, hka05_16, hka05_16, hka05_16, hka05_16, hka05_16, hka05_16, hka05_16, hka05_16, hka05_16, hka05_16, hka05_16, hka05_16, hka05_16, hka05_16, hka05_16, hka05_16, hka05_16, hka05_16, hka05_16, hka05_16, hka05_16, hka05_16, hka05_16, hka05_16, hka05_16, hka05_16, hka05_16, hka05_16, hka05_16, hka05_16, hka05_16, hka05_16, hka05_16, hka05_16, hka05_16, hka05_16, hka05_16, hka05_16, hka05_16, hka05_16, hka05_16]
def hka05_497 : ai_E := [hka05_6, hka05_93, hka05_490]
def hka05_498 : ai_N := (.negSucc 2147483647, .ofNat 999, [(2, .ofNat 0, .ofNat 0)])
def hka05_499 : ai_V := .inl (false, hka05_498)
def hka05_500 : ai_E := [hka05_133, hka05_93, hka05_494]
def hka05_501 : ai_V := .inl (false, hka05_103)
def hka05_502 : ai_E := [hka05_6, hka05_262, hka05_494]
def hka05_503 : ai_E := [hka05_6, hka05_93, hka05_494]
/-- NeverAgain$Planner.answer -/
def ka_451 : ai_K := (121, 0, (hka05_366, [hka05_200, hka05_96, hka05_97], [], hka05_496), [.inl 1, .inr (21, 5), .inr (21, 6)], [(some hka05_148, hka05_497, []), (some hka05_499, hka05_500, []), (some hka05_501, hka05_502, []), (some hka05_148, hka05_503, []), (some hka05_148, hka05_503, [])])
def kan_451 : List ai_Nd := []
set_option maxRecDepth 1000000 in
theorem kak_451 : ai_ck [] [] ka_451 [.inl 100000] kan_451 23 = true := by decide +kernel
theorem kah_451 : ai_holds ka_451 := ai_thm kak_451 ai_nil
def hka05_504 : ai_E := [hka05_6, hka05_3, hka05_10, hka05_5, hka05_1, hka05_2, hka05_6, hka05_6, hka05_6, hka05_89, hka05_93, hka05_5, hka05_323, hka05_93, hka05_6]
def hka05_505 : ai_C := .inl (.int, [(60, hka05_186)])
def hka05_506 : Bool × Option ai_C := (false, some hka05_505)
def hka05_507 : ai_N := (.ofNat 0, .ofNat 128, [(12, .ofNat 0, .ofNat 0)])
def hka05_508 : ai_V := .inl (false, hka05_507)
def hka05_509 : ai_C := .inr (.inr (0, [hka05_327, hka05_328, hka05_329, hka05_97, hka05_508]))
def hka05_510 : Bool × Option ai_C := (false, some hka05_509)
def hka05_511 : ai_N := (.ofNat 0, .ofNat 5, [(13, .ofNat 0, .ofNat 0)])
def hka05_512 : ai_V := .inl (false, hka05_511)
def hka05_513 : ai_N := (.negSucc 2147483647, .ofNat 2147483647, [(14, .ofNat 0, .ofNat 0)])
def hka05_514 : ai_V := .inl (false, hka05_513)
def hka05_515 : ai_C := .inr (.inr (2, [hka05_199, hka05_305, hka05_306, hka05_307, hka05_308, hka05_512, hka05_514]))
def hka05_516 : Bool × Option ai_C := (false, some hka05_515)
def hka05_517 : ai_W := [hka05_215, hka05_231, hka05_16, hka05_326, hka05_506, hka05_188, hka05_16, hka05_16, hka05_16, hka05_16, hka05_16, hka05_16, hka05_16, hka05_16, hka05_16, hka05_16, hka05_16, hka05_510, hka05_358, hka05_360, hka05_336, hka05_516, hka05_188, hka05_384, hka05_373, hka05_373, hka05_16, hka05_16, hka05_16, hka05_16, hka05_16, hka05_16, hka05_16, hka05_16, hka05_16, hka05_16, hka05_16, hka05_16, hka05_16, hka05_16, hka05_16, hka05_16, hka05_16, hka05_16, hka05_16, hka05_16, hka05_16, hka05_16, hka05_16, hka05_16, hka05_16, hka05_16, hka05_16, hka05_16, hka05_16, hka05_16, hka05_16, hka05_16, hka05_16, hka05_16, hka05_16, hka05_16, hka05_16, hka05_16, hka05_16, hka05_16, hka05_16, hka05_16, hka05_16, hka05_16, hka05_16, hka05_16, hka05_16, hka05_16, hka05_16, hka05_16]
def hka05_518 : ai_E := [hka05_133, hka05_3, hka05_10, hka05_5, hka05_1, hka05_2, hka05_6, hka05_6, hka05_6, hka05_89, hka05_93, hka05_5, hka05_323, hka05_93, hka05_6]
def hka05_519 : ai_N := (.ofNat 0, .ofNat 128, [])
def hka05_520 : ai_V := .inl (false, hka05_519)
def hka05_521 : ai_C := .inr (.inr (0, [hka05_327, hka05_328, hka05_329, hka05_165, hka05_520]))
def hka05_522 : ai_C := .inr (.inr (2, [hka05_199, hka05_305, hka05_306, hka05_307, hka05_308, hka05_142, hka05_142]))
def hka05_523 : ai_N := (.negSucc 2147483647, .ofNat 999, [])
def hka05_524 : ai_V := .inl (false, hka05_523)
def hka05_525 : Int × Int := (.ofNat 0, .ofNat 14)
def hka05_526 : ai_E := [hka05_525, hka05_3, hka05_10, hka05_5, hka05_1, hka05_2, hka05_6, hka05_6, hka05_6, hka05_89, hka05_93, hka05_5, hka05_323, hka05_93, hka05_6]
def hka05_527 : ai_N := (.ofNat 1, .ofNat 5, [])
def hka05_528 : ai_V := .inl (false, hka05_527)
def hka05_529 : ai_C := .inr (.inr (2, [hka05_199, hka05_305, hka05_306, hka05_307, hka05_308, hka05_528, hka05_524]))
def hka05_530 : ai_C := .inr (.inr (2, [hka05_199, hka05_305, hka05_306, hka05_307, hka05_308, hka05_528, hka05_344]))
def hka05_531 : ai_E := [hka05_287, hka05_3, hka05_10, hka05_5, hka05_1, hka05_2, hka05_6, hka05_6, hka05_6, hka05_89, hka05_93, hka05_5, hka05_323, hka05_93, hka05_6]
/-- NeverAgain.plan -/
def ka_452 : ai_K := (49, 9, (hka05_504, [hka05_197, hka05_96], [], hka05_517), [.inl 1, .inr (0, 11), .inr (0, 12), .inr (0, 13), .inr (1, 6), .inr (1, 7), .inr (1, 8), .inr (1, 9), .inr (1, 10), .inr (1, 11), .inr (1, 12), .inr (1, 13), .inr (17, 4), .inr (21, 5), .inr (21, 6)], [(some hka05_142, hka05_518, [(17, hka05_521), (18, hka05_357), (19, hka05_359), (20, hka05_335), (21, hka05_522), (22, hka05_187), (23, hka05_383), (25, hka05_372)]), (some hka05_524, hka05_526, [(17, hka05_521), (18, hka05_357), (19, hka05_359), (20, hka05_335), (21, hka05_529), (22, hka05_187), (23, hka05_383), (24, hka05_372), (25, hka05_372)]), (some hka05_148, hka05_526, [(17, hka05_521), (18, hka05_357), (19, hka05_359), (20, hka05_335), (21, hka05_530), (22, hka05_187), (23, hka05_383), (24, hka05_372), (25, hka05_372)]), (some hka05_130, hka05_504, []), (some hka05_148, hka05_531, [(17, hka05_521), (18, hka05_357), (19, hka05_359), (20, hka05_335), (21, hka05_522), (22, hka05_187), (23, hka05_383), (25, hka05_372)])])
def kan_452 : List ai_Nd := []
set_option maxRecDepth 1000000 in
theorem kak_452 : ai_ck [ka_432, ka_450, ka_451, ka_376, ka_433, ka_449] [] ka_452 [.inl 100000] kan_452 23 = true := by decide +kernel
theorem kah_452 : ai_holds ka_452 := ai_thm kak_452 (ai_cons kah_432 (ai_cons kah_450 (ai_cons kah_451 (ai_cons kah_376 (ai_cons kah_433 (ai_cons kah_449 ai_nil))))))
def hka05_532 : ai_N := (.ofNat 10, .ofNat 10, [])
def hka05_533 : ai_V := .inl (true, hka05_532)
def hka05_534 : ai_N := (.ofNat 14, .ofNat 14, [])
def hka05_535 : ai_V := .inl (true, hka05_534)
def hka05_536 : Int × Int := (.ofNat 14, .ofNat 14)
def hka05_537 : Int × Int := (.ofNat 11, .ofNat 13)
def hka05_538 : Int × Int := (.ofNat 10, .ofNat 10)
/-- NeverAgainModel.in -/
def ka_453 : ai_K := (93, 0, ([hka05_6], [hka05_256, hka05_97, hka05_533, hka05_97, hka05_535, hka05_97], [], hka05_260), [.inl 0], [(some hka05_142, [hka05_288], []), (some hka05_146, [hka05_536], []), (some hka05_146, [hka05_537], []), (some hka05_146, [hka05_538], []), (some hka05_142, [hka05_289], [])])
def kan_453 : List ai_Nd := []
set_option maxRecDepth 1000000 in
theorem kak_453 : ai_ck [] [] ka_453 [.inl 100000] kan_453 12 = true := by decide +kernel
theorem kah_453 : ai_holds ka_453 := ai_thm kak_453 ai_nil
/-- NeverAgainModel.isPlanned -/
def ka_454 : ai_K := (122, 1, ([hka05_6], [hka05_96], [], hka05_260), [.inl 0], [(some hka05_142, [hka05_289], []), (some hka05_146, [hka05_538], []), (some hka05_146, [hka05_537], []), (some hka05_146, [hka05_536], []), (some hka05_142, [hka05_288], []), (some hka05_146, [hka05_133], [])])
def kan_454 : List ai_Nd := []
set_option maxRecDepth 1000000 in
theorem kak_454 : ai_ck [ka_453] [] ka_454 [.inl 100000] kan_454 12 = true := by decide +kernel
theorem kah_454 : ai_holds ka_454 := ai_thm kak_454 (ai_cons kah_453 ai_nil)
def hka05_539 : ai_E := [hka05_1, hka05_2, hka05_3, hka05_4, hka05_5, hka05_6, hka05_4, hka05_7, hka05_8, hka05_8, hka05_8, hka05_9, hka05_6, hka05_10, hka05_8, hka05_88, hka05_6, hka05_5, hka05_89, hka05_90, hka05_91, hka05_92, hka05_93, hka05_5, hka05_89, hka05_90, hka05_91, hka05_92, hka05_93, hka05_5, hka05_89, hka05_90, hka05_91, hka05_92, hka05_93, hka05_5]
def hka05_540 : ai_N := (.ofNat 0, .ofNat 12, [(2, .ofNat 0, .ofNat 0)])
def hka05_541 : ai_V := .inl (false, hka05_540)
def hka05_542 : ai_N := (.ofNat 0, .ofNat 16, [(3, .ofNat 0, .ofNat 0)])
def hka05_543 : ai_V := .inl (false, hka05_542)
def hka05_544 : ai_N := (.ofNat 0, .ofNat 4, [(4, .ofNat 0, .ofNat 0)])
def hka05_545 : ai_V := .inl (false, hka05_544)
def hka05_546 : ai_N := (.ofNat 0, .ofNat 16, [(6, .ofNat 0, .ofNat 0)])
def hka05_547 : ai_V := .inl (false, hka05_546)
def hka05_548 : ai_N := (.negSucc 3, .ofNat 3, [(7, .ofNat 0, .ofNat 0)])
def hka05_549 : ai_V := .inl (false, hka05_548)
def hka05_550 : ai_N := (.ofNat 0, .ofNat 400, [(8, .ofNat 0, .ofNat 0)])
def hka05_551 : ai_V := .inl (false, hka05_550)
def hka05_552 : ai_N := (.ofNat 0, .ofNat 3, [(11, .ofNat 0, .ofNat 0)])
def hka05_553 : ai_V := .inl (false, hka05_552)
def hka05_554 : ai_N := (.negSucc 2147483647, .ofNat 2147483647, [(12, .ofNat 0, .ofNat 0)])
def hka05_555 : ai_V := .inl (false, hka05_554)
def hka05_556 : ai_N := (.ofNat 0, .ofNat 6, [(13, .ofNat 0, .ofNat 0)])
def hka05_557 : ai_V := .inl (false, hka05_556)
def hka05_558 : ai_N := (.ofNat 0, .ofNat 400, [(14, .ofNat 0, .ofNat 0)])
def hka05_559 : ai_V := .inl (false, hka05_558)
def hka05_560 : ai_N := (.ofNat 0, .ofNat 130, [(15, .ofNat 0, .ofNat 0)])
def hka05_561 : ai_V := .inl (false, hka05_560)
def hka05_562 : ai_N := (.negSucc 2147483647, .ofNat 2147483647, [(16, .ofNat 0, .ofNat 0)])
def hka05_563 : ai_V := .inl (false, hka05_562)
def hka05_564 : ai_N := (.ofNat 0, .ofNat 4, [(17, .ofNat 0, .ofNat 0)])
def hka05_565 : ai_V := .inl (false, hka05_564)
def hka05_566 : ai_C := .inr (.inr (8, [hka05_17, hka05_18, hka05_292, hka05_294, hka05_23, hka05_24, hka05_541, hka05_27, hka05_543, hka05_545, hka05_32, hka05_177, hka05_547, hka05_549, hka05_39, hka05_551, hka05_41, hka05_43, hka05_553, hka05_555, hka05_557, hka05_559, hka05_54, hka05_561, hka05_57, hka05_58, hka05_563, hka05_61, hka05_62, hka05_63, hka05_64, hka05_65, hka05_66, hka05_565]))
def hka05_567 : Bool × Option ai_C := (false, some hka05_566)
def hka05_568 : ai_N := (.ofNat 0, .ofNat 60, [(18, .ofNat 0, .ofNat 0)])
def hka05_569 : ai_N := (.ofNat 0, .ofNat 20, [(19, .ofNat 0, .ofNat 0)])
def hka05_570 : ai_N := (.ofNat 0, .ofNat 1, [(20, .ofNat 0, .ofNat 0)])
def hka05_571 : ai_N := (.negSucc 3, .ofNat 2, [(21, .ofNat 0, .ofNat 0)])
def hka05_572 : ai_N := (.ofNat 0, .ofNat 5, [(22, .ofNat 0, .ofNat 0)])
def hka05_573 : ai_N := (.ofNat 0, .ofNat 4, [(23, .ofNat 0, .ofNat 0)])
def hka05_574 : ai_N := (.ofNat 0, .ofNat 60, [(24, .ofNat 0, .ofNat 0)])
def hka05_575 : ai_N := (.ofNat 0, .ofNat 20, [(25, .ofNat 0, .ofNat 0)])
def hka05_576 : ai_N := (.ofNat 0, .ofNat 1, [(26, .ofNat 0, .ofNat 0)])
def hka05_577 : ai_N := (.negSucc 3, .ofNat 2, [(27, .ofNat 0, .ofNat 0)])
def hka05_578 : ai_N := (.ofNat 0, .ofNat 5, [(28, .ofNat 0, .ofNat 0)])
def hka05_579 : ai_N := (.ofNat 0, .ofNat 4, [(29, .ofNat 0, .ofNat 0)])
def hka05_580 : ai_N := (.ofNat 0, .ofNat 60, [(30, .ofNat 0, .ofNat 0)])
def hka05_581 : ai_N := (.ofNat 0, .ofNat 20, [(31, .ofNat 0, .ofNat 0)])
def hka05_582 : ai_N := (.ofNat 0, .ofNat 1, [(32, .ofNat 0, .ofNat 0)])
def hka05_583 : ai_N := (.negSucc 3, .ofNat 2, [(33, .ofNat 0, .ofNat 0)])
def hka05_584 : ai_N := (.ofNat 0, .ofNat 5, [(34, .ofNat 0, .ofNat 0)])
def hka05_585 : ai_N := (.ofNat 0, .ofNat 4, [(35, .ofNat 0, .ofNat 0)])
def hka05_586 : ai_C := .inl (.int, [(1, hka05_568), (60, hka05_103), (17, hka05_104), (1, hka05_569), (1, hka05_570), (1, hka05_571), (1, hka05_572), (5, hka05_109), (1, hka05_573), (8, hka05_111), (1, hka05_574), (60, hka05_103), (17, hka05_104), (1, hka05_575), (1, hka05_576), (1, hka05_577), (1, hka05_578), (5, hka05_109), (1, hka05_579), (8, hka05_111), (1, hka05_580), (60, hka05_103), (17, hka05_104), (1, hka05_581), (1, hka05_582), (1, hka05_583), (1, hka05_584), (5, hka05_109), (1, hka05_585), (8, hka05_111)])
def hka05_587 : Bool × Option ai_C := (false, some hka05_586)
def hka05_588 : ai_C := .inl (.int, [(5, hka05_109)])
def hka05_589 : Bool × Option ai_C := (false, some hka05_588)
def hka05_590 : ai_W := [hka05_16, hka05_16, hka05_16, hka05_16, hka05_16, hka05_16, hka05_16, hka05_16, hka05_16, hka05_16, hka05_16, hka05_16, hka05_16, hka05_16, hka05_16, hka05_16, hka05_16, hka05_16, hka05_16, hka05_16, hka05_16, hka05_16, hka05_16, hka05_16, hka05_16, hka05_16, hka05_16, hka05_16, hka05_16, hka05_16, hka05_16, hka05_16, hka05_16, hka05_16, hka05_16, hka05_16, hka05_16, hka05_16, hka05_16, hka05_16, hka05_16, hka05_16, hka05_16, hka05_16, hka05_16, hka05_16, hka05_16, hka05_16, hka05_16, hka05_16, hka05_16, hka05_16, hka05_16, hka05_16, hka05_16, hka05_16, hka05_16, hka05_16, hka05_16, hka05_567, hka05_587, hka05_16, hka05_16, hka05_16, hka05_16, hka05_16, hka05_16, hka05_16, hka05_589, hka05_16, hka05_16, hka05_16, hka05_16, hka05_16, hka05_16, hka05_16]
/-- NeverAgainModel.wantedNow -/
def ka_455 : ai_K := (123, 0, (hka05_539, [hka05_13, hka05_97], [], hka05_590), [.inr (59, 2), .inr (59, 3), .inr (59, 6), .inr (59, 8), .inr (59, 9), .inr (59, 11), .inr (59, 12), .inr (59, 13), .inr (59, 15), .inr (59, 16), .inr (59, 17), .inr (59, 18), .inr (59, 19), .inr (59, 20), .inr (59, 21), .inr (59, 23), .inr (59, 26), .inr (59, 33), .inr (60, 0), .inr (60, 78), .inr (60, 79), .inr (60, 80), .inr (60, 81), .inr (60, 87), .inr (60, 96), .inr (60, 174), .inr (60, 175), .inr (60, 176), .inr (60, 177), .inr (60, 183), .inr (60, 192), .inr (60, 270), .inr (60, 271), .inr (60, 272), .inr (60, 273), .inr (60, 279)], [(none, hka05_539, [(68, hka05_588)])])
def hka05_591 : ai_E := [hka05_1, hka05_2, hka05_3, hka05_4, hka05_5, hka05_6, hka05_4, hka05_7, hka05_8, hka05_8, hka05_8, hka05_9, hka05_6, hka05_10, hka05_8, hka05_88, hka05_6, hka05_5, hka05_89, hka05_90, hka05_91, hka05_92, hka05_93, hka05_5, hka05_89, hka05_90, hka05_91, hka05_92, hka05_93, hka05_5, hka05_89, hka05_90, hka05_91, hka05_92, hka05_93, hka05_5, hka05_93]
def hka05_592 : ai_N := (.ofNat 0, .ofNat 5, [(36, .ofNat 0, .ofNat 0)])
def hka05_593 : ai_V := .inl (false, hka05_592)
def hka05_594 : Bool × Option ai_C := (true, some hka05_588)
def hka05_595 : ai_W := [hka05_16, hka05_16, hka05_16, hka05_16, hka05_16, hka05_16, hka05_16, hka05_16, hka05_16, hka05_16, hka05_16, hka05_16, hka05_16, hka05_16, hka05_16, hka05_16, hka05_16, hka05_16, hka05_16, hka05_16, hka05_16, hka05_16, hka05_16, hka05_16, hka05_16, hka05_16, hka05_16, hka05_16, hka05_16, hka05_16, hka05_16, hka05_16, hka05_16, hka05_16, hka05_16, hka05_16, hka05_16, hka05_16, hka05_16, hka05_16, hka05_16, hka05_16, hka05_16, hka05_16, hka05_16, hka05_16, hka05_16, hka05_16, hka05_16, hka05_16, hka05_16, hka05_16, hka05_16, hka05_16, hka05_16, hka05_16, hka05_16, hka05_16, hka05_16, hka05_567, hka05_587, hka05_16, hka05_16, hka05_16, hka05_16, hka05_16, hka05_16, hka05_16, hka05_594, hka05_16, hka05_16, hka05_16, hka05_16, hka05_16, hka05_16, hka05_16]
def kan_455 : List ai_Nd := [(2, (hka05_591, [hka05_13, hka05_593], [], hka05_595), [.inl 1], [.inl 99997, .inl 1, .inr (true, .ofNat 5, 36), .inl 100000])]
set_option maxRecDepth 1000000 in
theorem kak_455 : ai_ck [] [] ka_455 [.inl 100000, .inl 0, .inl 0, .inl 0] kan_455 20 = true := by decide +kernel
theorem kah_455 : ai_holds ka_455 := ai_thm kak_455 ai_nil
/-- findPlan, by hand -/
def ka_456W : ai_W := [(false, none), (false, none), (false, none), (false, none), (false, none), (false, none), (false, none), (false, none), (false, none), (false, none), (false, none), (false, none), (false, none), (false, none), (false, none), (false, none), (false, none), (false, none), (false, none), (false, none), (false, none), (false, none), (false, none), (false, none), (false, none), (false, none), (false, none), (false, none), (false, none), (false, none), (false, none), (false, none), (false, none), (false, none), (false, none), (false, none), (false, none), (false, none), (false, none), (false, none), (false, none), (false, none), (false, none), (false, none), (false, none), (false, none), (false, none), (false, none), (false, none), (false, none), (false, none), (false, none), (false, none), (false, none), (false, none), (false, none), (false, none), (false, none), (false, none), (false, some (.inr (.inr (8, [.inr (some (.ref 60)), .inr (some (.ref 61)), .inl (false, (.ofNat 4, .ofNat 16, [(1, .ofNat 0, .ofNat 0)])), .inl (false, (.ofNat 1, .ofNat 4, [(2, .ofNat 0, .ofNat 0)])), .inr (some (.ref 62)), .inr (some (.ref 63)), .inl (false, (.ofNat 0, .ofNat 12, [(3, .ofNat 0, .ofNat 0)])), .inr (some (.ref 64)), .inl (false, (.ofNat 0, .ofNat 16, [(4, .ofNat 0, .ofNat 0)])), .inl (false, (.ofNat 0, .ofNat 4, [(5, .ofNat 0, .ofNat 0)])), .inr (some (.ref 65)), .inl (false, (.negSucc 2147483647, .ofNat 2147483647, [(6, .ofNat 0, .ofNat 0)])), .inl (false, (.ofNat 0, .ofNat 16, [(7, .ofNat 0, .ofNat 0)])), .inl (false, (.negSucc 3, .ofNat 3, [(8, .ofNat 0, .ofNat 0)])), .inr (some (.ref 66)), .inl (false, (.ofNat 0, .ofNat 400, [(9, .ofNat 0, .ofNat 0)])), .inl (false, (.ofNat 0, .ofNat 400, [(10, .ofNat 0, .ofNat 0)])), .inl (false, (.ofNat 0, .ofNat 400, [(11, .ofNat 0, .ofNat 0)])), .inl (false, (.ofNat 0, .ofNat 3, [(12, .ofNat 0, .ofNat 0)])), .inl (false, (.negSucc 2147483647, .ofNat 2147483647, [(13, .ofNat 0, .ofNat 0)])), .inl (false, (.ofNat 0, .ofNat 6, [(14, .ofNat 0, .ofNat 0)])), .inl (false, (.ofNat 0, .ofNat 400, [(15, .ofNat 0, .ofNat 0)])), .inr (some (.ref 67)), .inl (false, (.ofNat 0, .ofNat 130, [(16, .ofNat 0, .ofNat 0)])), .inr (some (.ref 68)), .inr (some (.ref 69)), .inl (false, (.negSucc 2147483647, .ofNat 2147483647, [(17, .ofNat 0, .ofNat 0)])), .inr (some (.ref 70)), .inr (some (.ref 71)), .inr (some (.ref 72)), .inr (some (.ref 73)), .inr (some (.ref 74)), .inr (some (.ref 75)), .inl (false, (.ofNat 0, .ofNat 4, [(18, .ofNat 0, .ofNat 0)]))])))), (false, some (.inl (.int, [(1, (.ofNat 0, .ofNat 60, [(19, .ofNat 0, .ofNat 0)])), (60, (.ofNat 0, .ofNat 16, [])), (17, (.negSucc 3, .ofNat 3, [])), (1, (.ofNat 0, .ofNat 20, [(20, .ofNat 0, .ofNat 0)])), (1, (.ofNat 0, .ofNat 1, [(21, .ofNat 0, .ofNat 0)])), (1, (.negSucc 3, .ofNat 2, [(22, .ofNat 0, .ofNat 0)])), (1, (.ofNat 0, .ofNat 5, [(23, .ofNat 0, .ofNat 0)])), (5, (.ofNat 0, .ofNat 3, [])), (1, (.ofNat 0, .ofNat 4, [(24, .ofNat 0, .ofNat 0)])), (8, (.ofNat 0, .ofNat 4, [])), (1, (.ofNat 0, .ofNat 60, [(25, .ofNat 0, .ofNat 0)])), (60, (.ofNat 0, .ofNat 16, [])), (17, (.negSucc 3, .ofNat 3, [])), (1, (.ofNat 0, .ofNat 20, [(26, .ofNat 0, .ofNat 0)])), (1, (.ofNat 0, .ofNat 1, [(27, .ofNat 0, .ofNat 0)])), (1, (.negSucc 3, .ofNat 2, [(28, .ofNat 0, .ofNat 0)])), (1, (.ofNat 0, .ofNat 5, [(29, .ofNat 0, .ofNat 0)])), (5, (.ofNat 0, .ofNat 3, [])), (1, (.ofNat 0, .ofNat 4, [(30, .ofNat 0, .ofNat 0)])), (8, (.ofNat 0, .ofNat 4, [])), (1, (.ofNat 0, .ofNat 60, [(31, .ofNat 0, .ofNat 0)])), (60, (.ofNat 0, .ofNat 16, [])), (17, (.negSucc 3, .ofNat 3, [])), (1, (.ofNat 0, .ofNat 20, [(32, .ofNat 0, .ofNat 0)])), (1, (.ofNat 0, .ofNat 1, [(33, .ofNat 0, .ofNat 0)])), (1, (.negSucc 3, .ofNat 2, [(34, .ofNat 0, .ofNat 0)])), (1, (.ofNat 0, .ofNat 5, [(35, .ofNat 0, .ofNat 0)])), (5, (.ofNat 0, .ofNat 3, [])), (1, (.ofNat 0, .ofNat 4, [(36, .ofNat 0, .ofNat 0)])), (8, (.ofNat 0, .ofNat 4, []))]))), (false, none), (false, none), (false, none), (false, none), (false, none), (false, none), (false, some (.inl (.int, [(130, (.negSucc 3, .ofNat 16, []))]))), (false, some (.inl (.int, [(5, (.ofNat 0, .ofNat 3, []))]))), (false, some (.inl (.int, [(5, (.negSucc 3, .ofNat 16, []))]))), (false, none), (false, none), (false, none), (false, none), (false, none), (false, none)]
def ka_456u : List ai_V := [.inr (some (.ref 60)), .inr (some (.ref 61)), .inl (false, (.ofNat 4, .ofNat 16, [(1, .ofNat 0, .ofNat 0)])), .inl (false, (.ofNat 1, .ofNat 4, [(2, .ofNat 0, .ofNat 0)])), .inr (some (.ref 62)), .inr (some (.ref 63)), .inl (false, (.ofNat 0, .ofNat 12, [(3, .ofNat 0, .ofNat 0)])), .inr (some (.ref 64)), .inl (false, (.ofNat 0, .ofNat 16, [(4, .ofNat 0, .ofNat 0)])), .inl (false, (.ofNat 0, .ofNat 4, [(5, .ofNat 0, .ofNat 0)])), .inr (some (.ref 65)), .inl (false, (.negSucc 2147483647, .ofNat 2147483647, [(6, .ofNat 0, .ofNat 0)])), .inl (false, (.ofNat 0, .ofNat 16, [(7, .ofNat 0, .ofNat 0)])), .inl (false, (.negSucc 3, .ofNat 3, [(8, .ofNat 0, .ofNat 0)])), .inr (some (.ref 66)), .inl (false, (.ofNat 0, .ofNat 400, [(9, .ofNat 0, .ofNat 0)])), .inl (false, (.ofNat 0, .ofNat 400, [(10, .ofNat 0, .ofNat 0)])), .inl (false, (.ofNat 0, .ofNat 400, [(11, .ofNat 0, .ofNat 0)])), .inl (false, (.ofNat 0, .ofNat 3, [(12, .ofNat 0, .ofNat 0)])), .inl (false, (.negSucc 2147483647, .ofNat 2147483647, [(13, .ofNat 0, .ofNat 0)])), .inl (false, (.ofNat 0, .ofNat 6, [(14, .ofNat 0, .ofNat 0)])), .inl (false, (.ofNat 0, .ofNat 400, [(15, .ofNat 0, .ofNat 0)])), .inr (some (.ref 67)), .inl (false, (.ofNat 0, .ofNat 130, [])), .inr (some (.ref 68)), .inr (some (.ref 69)), .inl (false, (.negSucc 2147483647, .ofNat 2147483647, [])), .inr (some (.ref 70)), .inr (some (.ref 71)), .inr (some (.ref 72)), .inr (some (.ref 73)), .inr (some (.ref 74)), .inr (some (.ref 75)), .inl (false, (.ofNat 0, .ofNat 4, [(18, .ofNat 0, .ofNat 0)]))]
noncomputable def ka_456 : ai_K := fp_K 3 [(.ofNat 0, .ofNat 5), (.ofNat 4, .ofNat 16), (.ofNat 1, .ofNat 4), (.ofNat 0, .ofNat 12), (.ofNat 0, .ofNat 16), (.ofNat 0, .ofNat 4), (.negSucc 2147483647, .ofNat 2147483647), (.ofNat 0, .ofNat 16), (.negSucc 3, .ofNat 3), (.ofNat 0, .ofNat 400), (.ofNat 0, .ofNat 400), (.ofNat 0, .ofNat 400), (.ofNat 0, .ofNat 3), (.negSucc 2147483647, .ofNat 2147483647), (.ofNat 0, .ofNat 6), (.ofNat 0, .ofNat 400), (.ofNat 0, .ofNat 130), (.negSucc 2147483647, .ofNat 2147483647), (.ofNat 0, .ofNat 4), (.ofNat 0, .ofNat 60), (.ofNat 0, .ofNat 20), (.ofNat 0, .ofNat 1), (.negSucc 3, .ofNat 2), (.ofNat 0, .ofNat 5), (.ofNat 0, .ofNat 4), (.ofNat 0, .ofNat 60), (.ofNat 0, .ofNat 20), (.ofNat 0, .ofNat 1), (.negSucc 3, .ofNat 2), (.ofNat 0, .ofNat 5), (.ofNat 0, .ofNat 4), (.ofNat 0, .ofNat 60), (.ofNat 0, .ofNat 20), (.ofNat 0, .ofNat 1), (.negSucc 3, .ofNat 2), (.ofNat 0, .ofNat 5), (.ofNat 0, .ofNat 4)] [(0, .ofNat 0, .ofNat 0)] ka_456W [.inl 1, .inr (59, 2), .inr (59, 3), .inr (59, 6), .inr (59, 8), .inr (59, 9), .inr (59, 11), .inr (59, 12), .inr (59, 13), .inr (59, 15), .inr (59, 16), .inr (59, 17), .inr (59, 18), .inr (59, 19), .inr (59, 20), .inr (59, 21), .inr (59, 23), .inr (59, 26), .inr (59, 33), .inr (60, 0), .inr (60, 78), .inr (60, 79), .inr (60, 80), .inr (60, 81), .inr (60, 87), .inr (60, 96), .inr (60, 174), .inr (60, 175), .inr (60, 176), .inr (60, 177), .inr (60, 183), .inr (60, 192), .inr (60, 270), .inr (60, 271), .inr (60, 272), .inr (60, 273), .inr (60, 279)] ka_456u
set_option maxRecDepth 1000000 in
theorem kar_456 : fp_rck ka_380 3 [(.ofNat 0, .ofNat 5), (.ofNat 4, .ofNat 16), (.ofNat 1, .ofNat 4), (.ofNat 0, .ofNat 12), (.ofNat 0, .ofNat 16), (.ofNat 0, .ofNat 4), (.negSucc 2147483647, .ofNat 2147483647), (.ofNat 0, .ofNat 16), (.negSucc 3, .ofNat 3), (.ofNat 0, .ofNat 400), (.ofNat 0, .ofNat 400), (.ofNat 0, .ofNat 400), (.ofNat 0, .ofNat 3), (.negSucc 2147483647, .ofNat 2147483647), (.ofNat 0, .ofNat 6), (.ofNat 0, .ofNat 400), (.ofNat 0, .ofNat 130), (.negSucc 2147483647, .ofNat 2147483647), (.ofNat 0, .ofNat 4), (.ofNat 0, .ofNat 60), (.ofNat 0, .ofNat 20), (.ofNat 0, .ofNat 1), (.negSucc 3, .ofNat 2), (.ofNat 0, .ofNat 5), (.ofNat 0, .ofNat 4), (.ofNat 0, .ofNat 60), (.ofNat 0, .ofNat 20), (.ofNat 0, .ofNat 1), (.negSucc 3, .ofNat 2), (.ofNat 0, .ofNat 5), (.ofNat 0, .ofNat 4), (.ofNat 0, .ofNat 60), (.ofNat 0, .ofNat 20), (.ofNat 0, .ofNat 1), (.negSucc 3, .ofNat 2), (.ofNat 0, .ofNat 5), (.ofNat 0, .ofNat 4)] ka_456W ka_456u = true := by decide +kernel
set_option maxRecDepth 1000000 in
theorem kat_456 : fp_tck ka_397 ([(.ofNat 0, .ofNat 5), (.ofNat 4, .ofNat 16), (.ofNat 1, .ofNat 4), (.ofNat 0, .ofNat 12), (.ofNat 0, .ofNat 16), (.ofNat 0, .ofNat 4), (.negSucc 2147483647, .ofNat 2147483647), (.ofNat 0, .ofNat 16), (.negSucc 3, .ofNat 3), (.ofNat 0, .ofNat 400), (.ofNat 0, .ofNat 400), (.ofNat 0, .ofNat 400), (.ofNat 0, .ofNat 3), (.negSucc 2147483647, .ofNat 2147483647), (.ofNat 0, .ofNat 6), (.ofNat 0, .ofNat 400), (.ofNat 0, .ofNat 130), (.negSucc 2147483647, .ofNat 2147483647), (.ofNat 0, .ofNat 4), (.ofNat 0, .ofNat 60), (.ofNat 0, .ofNat 20), (.ofNat 0, .ofNat 1), (.negSucc 3, .ofNat 2), (.ofNat 0, .ofNat 5), (.ofNat 0, .ofNat 4), (.ofNat 0, .ofNat 60), (.ofNat 0, .ofNat 20), (.ofNat 0, .ofNat 1), (.negSucc 3, .ofNat 2), (.ofNat 0, .ofNat 5), (.ofNat 0, .ofNat 4), (.ofNat 0, .ofNat 60), (.ofNat 0, .ofNat 20), (.ofNat 0, .ofNat 1), (.negSucc 3, .ofNat 2), (.ofNat 0, .ofNat 5), (.ofNat 0, .ofNat 4)], [], [], fp_U ka_456W ka_456u) = true := by decide +kernel
set_option maxRecDepth 1000000 in
theorem kah_456 : ai_holds ka_456 := fp_thm kah_380 kah_397 kar_456 kat_456 rfl rfl rfl rfl rfl rfl rfl rfl rfl rfl rfl rfl rfl
def hka05_596 : ai_E := [hka05_1, hka05_2, hka05_3, hka05_4, hka05_5, hka05_6, hka05_4, hka05_7, hka05_8, hka05_8, hka05_8, hka05_9, hka05_6, hka05_10, hka05_8, hka05_88, hka05_6, hka05_5]
def hka05_597 : ai_W := [hka05_16, hka05_16, hka05_16, hka05_16, hka05_16, hka05_16, hka05_16, hka05_16, hka05_16, hka05_16, hka05_16, hka05_16, hka05_16, hka05_16, hka05_16, hka05_16, hka05_16, hka05_16, hka05_16, hka05_16, hka05_16, hka05_16, hka05_16, hka05_16, hka05_16, hka05_16, hka05_16, hka05_16, hka05_16, hka05_16, hka05_16, hka05_16, hka05_16, hka05_16, hka05_16, hka05_16, hka05_16, hka05_16, hka05_16, hka05_16, hka05_16, hka05_16, hka05_16, hka05_16, hka05_16, hka05_16, hka05_16, hka05_16, hka05_16, hka05_16, hka05_16, hka05_16, hka05_16, hka05_16, hka05_16, hka05_16, hka05_16, hka05_16, hka05_16, hka05_567, hka05_16, hka05_16, hka05_16, hka05_16, hka05_16, hka05_16, hka05_16, hka05_16, hka05_16, hka05_16, hka05_16, hka05_16, hka05_16, hka05_16, hka05_16, hka05_16]
def hka05_598 : Int × Int := (.ofNat 1000000, .ofNat 1000000)
def hka05_599 : ai_E := [hka05_1, hka05_2, hka05_3, hka05_4, hka05_5, hka05_6, hka05_4, hka05_7, hka05_8, hka05_8, hka05_8, hka05_9, hka05_6, hka05_10, hka05_8, hka05_88, hka05_598, hka05_5]
/-- NeverAgainModel.planTold -/
def ka_457 : ai_K := (125, 0, (hka05_596, [hka05_13, hka05_142], [], hka05_597), [.inr (59, 2), .inr (59, 3), .inr (59, 6), .inr (59, 8), .inr (59, 9), .inr (59, 11), .inr (59, 12), .inr (59, 13), .inr (59, 15), .inr (59, 16), .inr (59, 17), .inr (59, 18), .inr (59, 19), .inr (59, 20), .inr (59, 21), .inr (59, 23), .inr (59, 26), .inr (59, 33)], [(some hka05_148, hka05_599, []), (some hka05_563, hka05_596, [])])
def kan_457 : List ai_Nd := []
set_option maxRecDepth 1000000 in
theorem kak_457 : ai_ck [] [] ka_457 [.inl 100000] kan_457 11 = true := by decide +kernel
theorem kah_457 : ai_holds ka_457 := ai_thm kak_457 ai_nil
def hka05_600 : ai_V := .inl (false, hka05_534)
def hka05_601 : ai_C := .inl (.int, [(5, hka05_71)])
def hka05_602 : Bool × Option ai_C := (false, some hka05_601)
def hka05_603 : ai_W := [hka05_16, hka05_16, hka05_16, hka05_16, hka05_16, hka05_16, hka05_16, hka05_16, hka05_16, hka05_16, hka05_16, hka05_16, hka05_16, hka05_16, hka05_16, hka05_16, hka05_16, hka05_16, hka05_16, hka05_16, hka05_16, hka05_16, hka05_16, hka05_16, hka05_16, hka05_16, hka05_16, hka05_16, hka05_16, hka05_16, hka05_16, hka05_16, hka05_16, hka05_16, hka05_16, hka05_16, hka05_16, hka05_16, hka05_16, hka05_16, hka05_16, hka05_16, hka05_16, hka05_16, hka05_16, hka05_16, hka05_16, hka05_16, hka05_16, hka05_16, hka05_16, hka05_16, hka05_16, hka05_16, hka05_16, hka05_16, hka05_16, hka05_16, hka05_16, hka05_567, hka05_587, hka05_16, hka05_16, hka05_16, hka05_16, hka05_16, hka05_16, hka05_16, hka05_16, hka05_602, hka05_16, hka05_16, hka05_16, hka05_16, hka05_16, hka05_16]
def hka05_604 : ai_E := [hka05_1, hka05_2, hka05_3, hka05_4, hka05_5, hka05_6, hka05_4, hka05_7, hka05_8, hka05_8, hka05_8, hka05_9, hka05_6, hka05_10, hka05_8, hka05_88, hka05_598, hka05_5, hka05_89, hka05_90, hka05_91, hka05_92, hka05_93, hka05_5, hka05_89, hka05_90, hka05_91, hka05_92, hka05_93, hka05_5, hka05_89, hka05_90, hka05_91, hka05_92, hka05_93, hka05_5]
def hka05_605 : ai_V := .inl (false, hka05_71)
def hka05_606 : ai_E := [hka05_1, hka05_2, hka05_3, hka05_4, hka05_5, hka05_6, hka05_4, hka05_7, hka05_8, hka05_8, hka05_8, hka05_9, hka05_6, hka05_10, hka05_8, hka05_88, hka05_6, hka05_5, hka05_89, hka05_90, hka05_91, hka05_92, hka05_190, hka05_5, hka05_89, hka05_90, hka05_91, hka05_92, hka05_93, hka05_5, hka05_89, hka05_90, hka05_91, hka05_92, hka05_93, hka05_5]
def hka05_607 : ai_E := [hka05_1, hka05_2, hka05_3, hka05_4, hka05_5, hka05_6, hka05_4, hka05_7, hka05_8, hka05_8, hka05_8, hka05_9, hka05_6, hka05_10, hka05_8, hka05_88, hka05_6, hka05_5, hka05_89, hka05_90, hka05_91, hka05_92, hka05_5, hka05_5, hka05_89, hka05_90, hka05_91, hka05_92, hka05_93, hka05_5, hka05_89, hka05_90, hka05_91, hka05_92, hka05_93, hka05_5]
/-- NeverAgainModel.planTold -/
def ka_458 : ai_K := (125, 0, (hka05_539, [hka05_13, hka05_600], [], hka05_603), [.inr (59, 2), .inr (59, 3), .inr (59, 6), .inr (59, 8), .inr (59, 9), .inr (59, 11), .inr (59, 12), .inr (59, 13), .inr (59, 15), .inr (59, 16), .inr (59, 17), .inr (59, 18), .inr (59, 19), .inr (59, 20), .inr (59, 21), .inr (59, 23), .inr (59, 26), .inr (59, 33), .inr (60, 0), .inr (60, 78), .inr (60, 79), .inr (60, 80), .inr (60, 81), .inr (60, 87), .inr (60, 96), .inr (60, 174), .inr (60, 175), .inr (60, 176), .inr (60, 177), .inr (60, 183), .inr (60, 192), .inr (60, 270), .inr (60, 271), .inr (60, 272), .inr (60, 273), .inr (60, 279)], [(some hka05_148, hka05_604, []), (some hka05_605, hka05_606, []), (some hka05_148, hka05_607, [])])
def kan_458 : List ai_Nd := []
set_option maxRecDepth 1000000 in
theorem kak_458 : ai_ck [] [] ka_458 [.inl 100000] kan_458 23 = true := by decide +kernel
theorem kah_458 : ai_holds ka_458 := ai_thm kak_458 ai_nil
def hka05_608 : ai_E := [hka05_537, hka05_1, hka05_2, hka05_3, hka05_4, hka05_5, hka05_6, hka05_4, hka05_7, hka05_8, hka05_8, hka05_8, hka05_9, hka05_6, hka05_10, hka05_8, hka05_88, hka05_6, hka05_5, hka05_89, hka05_90, hka05_91, hka05_92, hka05_93, hka05_5, hka05_89, hka05_90, hka05_91, hka05_92, hka05_93, hka05_5, hka05_89, hka05_90, hka05_91, hka05_92, hka05_93, hka05_5]
def hka05_609 : ai_N := (.ofNat 11, .ofNat 13, [(0, .ofNat 0, .ofNat 0)])
def hka05_610 : ai_V := .inl (false, hka05_609)
def hka05_611 : ai_W := [hka05_16, hka05_16, hka05_16, hka05_16, hka05_16, hka05_16, hka05_16, hka05_16, hka05_16, hka05_16, hka05_16, hka05_16, hka05_16, hka05_16, hka05_16, hka05_16, hka05_16, hka05_16, hka05_16, hka05_16, hka05_16, hka05_16, hka05_16, hka05_16, hka05_16, hka05_16, hka05_16, hka05_16, hka05_16, hka05_16, hka05_16, hka05_16, hka05_16, hka05_16, hka05_16, hka05_16, hka05_16, hka05_16, hka05_16, hka05_16, hka05_16, hka05_16, hka05_16, hka05_16, hka05_16, hka05_16, hka05_16, hka05_16, hka05_16, hka05_16, hka05_16, hka05_16, hka05_16, hka05_16, hka05_16, hka05_16, hka05_16, hka05_16, hka05_16, hka05_101, hka05_125, hka05_16, hka05_16, hka05_16, hka05_16, hka05_16, hka05_16, hka05_16, hka05_16, hka05_602, hka05_16, hka05_16, hka05_16, hka05_16, hka05_16, hka05_16]
def hka05_612 : ai_E := [hka05_537, hka05_1, hka05_2, hka05_3, hka05_4, hka05_5, hka05_6, hka05_4, hka05_7, hka05_8, hka05_8, hka05_8, hka05_9, hka05_6, hka05_10, hka05_8, hka05_88, hka05_598, hka05_5, hka05_89, hka05_90, hka05_91, hka05_92, hka05_93, hka05_5, hka05_89, hka05_90, hka05_91, hka05_92, hka05_93, hka05_5, hka05_89, hka05_90, hka05_91, hka05_92, hka05_93, hka05_5]
def hka05_613 : ai_E := [hka05_537, hka05_1, hka05_2, hka05_3, hka05_4, hka05_5, hka05_6, hka05_4, hka05_7, hka05_8, hka05_8, hka05_8, hka05_9, hka05_6, hka05_10, hka05_8, hka05_88, hka05_6, hka05_5, hka05_89, hka05_90, hka05_91, hka05_92, hka05_264, hka05_5, hka05_89, hka05_90, hka05_91, hka05_92, hka05_93, hka05_5, hka05_89, hka05_90, hka05_91, hka05_92, hka05_93, hka05_5]
def hka05_614 : ai_E := [hka05_537, hka05_1, hka05_2, hka05_3, hka05_4, hka05_5, hka05_6, hka05_4, hka05_7, hka05_8, hka05_8, hka05_8, hka05_9, hka05_6, hka05_10, hka05_8, hka05_88, hka05_6, hka05_5, hka05_89, hka05_90, hka05_91, hka05_92, hka05_9, hka05_5, hka05_89, hka05_90, hka05_91, hka05_92, hka05_93, hka05_5, hka05_89, hka05_90, hka05_91, hka05_92, hka05_93, hka05_5]
/-- NeverAgainModel.planTold -/
def ka_459 : ai_K := (125, 0, (hka05_608, [hka05_13, hka05_610], [], hka05_611), [.inl 1, .inr (59, 2), .inr (59, 3), .inr (59, 6), .inr (59, 8), .inr (59, 9), .inr (59, 11), .inr (59, 12), .inr (59, 13), .inr (59, 15), .inr (59, 16), .inr (59, 17), .inr (59, 18), .inr (59, 19), .inr (59, 20), .inr (59, 21), .inr (59, 23), .inr (59, 26), .inr (59, 33), .inr (60, 0), .inr (60, 78), .inr (60, 79), .inr (60, 80), .inr (60, 81), .inr (60, 87), .inr (60, 96), .inr (60, 174), .inr (60, 175), .inr (60, 176), .inr (60, 177), .inr (60, 183), .inr (60, 192), .inr (60, 270), .inr (60, 271), .inr (60, 272), .inr (60, 273), .inr (60, 279)], [(some hka05_148, hka05_612, []), (some hka05_605, hka05_613, []), (some hka05_148, hka05_614, [])])
def kan_459 : List ai_Nd := []
set_option maxRecDepth 1000000 in
theorem kak_459 : ai_ck [] [] ka_459 [.inl 100000] kan_459 23 = true := by decide +kernel
theorem kah_459 : ai_holds ka_459 := ai_thm kak_459 ai_nil
def hka05_615 : ai_V := .inl (false, hka05_532)
def hka05_616 : ai_E := [hka05_1, hka05_2, hka05_3, hka05_4, hka05_5, hka05_6, hka05_4, hka05_7, hka05_8, hka05_8, hka05_8, hka05_9, hka05_6, hka05_10, hka05_8, hka05_88, hka05_6, hka05_5, hka05_89, hka05_90, hka05_91, hka05_92, hka05_262, hka05_5, hka05_89, hka05_90, hka05_91, hka05_92, hka05_93, hka05_5, hka05_89, hka05_90, hka05_91, hka05_92, hka05_93, hka05_5]
def hka05_617 : ai_E := [hka05_1, hka05_2, hka05_3, hka05_4, hka05_5, hka05_6, hka05_4, hka05_7, hka05_8, hka05_8, hka05_8, hka05_9, hka05_6, hka05_10, hka05_8, hka05_88, hka05_6, hka05_5, hka05_89, hka05_90, hka05_91, hka05_92, hka05_133, hka05_5, hka05_89, hka05_90, hka05_91, hka05_92, hka05_93, hka05_5, hka05_89, hka05_90, hka05_91, hka05_92, hka05_93, hka05_5]
/-- NeverAgainModel.planTold -/
def ka_460 : ai_K := (125, 0, (hka05_539, [hka05_13, hka05_615], [], hka05_603), [.inr (59, 2), .inr (59, 3), .inr (59, 6), .inr (59, 8), .inr (59, 9), .inr (59, 11), .inr (59, 12), .inr (59, 13), .inr (59, 15), .inr (59, 16), .inr (59, 17), .inr (59, 18), .inr (59, 19), .inr (59, 20), .inr (59, 21), .inr (59, 23), .inr (59, 26), .inr (59, 33), .inr (60, 0), .inr (60, 78), .inr (60, 79), .inr (60, 80), .inr (60, 81), .inr (60, 87), .inr (60, 96), .inr (60, 174), .inr (60, 175), .inr (60, 176), .inr (60, 177), .inr (60, 183), .inr (60, 192), .inr (60, 270), .inr (60, 271), .inr (60, 272), .inr (60, 273), .inr (60, 279)], [(some hka05_148, hka05_604, []), (some hka05_605, hka05_616, []), (some hka05_148, hka05_617, [])])
def kan_460 : List ai_Nd := []
set_option maxRecDepth 1000000 in
theorem kak_460 : ai_ck [] [] ka_460 [.inl 100000] kan_460 23 = true := by decide +kernel
theorem kah_460 : ai_holds ka_460 := ai_thm kak_460 ai_nil
def hka05_618 : ai_W := [hka05_16, hka05_16, hka05_16, hka05_16, hka05_16, hka05_16, hka05_16, hka05_16, hka05_16, hka05_16, hka05_16, hka05_16, hka05_16, hka05_16, hka05_16, hka05_16, hka05_16, hka05_16, hka05_16, hka05_16, hka05_16, hka05_16, hka05_16, hka05_16, hka05_16, hka05_16, hka05_16, hka05_16, hka05_16, hka05_16, hka05_16, hka05_16, hka05_16, hka05_16, hka05_16, hka05_16, hka05_16, hka05_16, hka05_16, hka05_16, hka05_16, hka05_16, hka05_16, hka05_16, hka05_16, hka05_16, hka05_16, hka05_16, hka05_16, hka05_16, hka05_16, hka05_16, hka05_16, hka05_16, hka05_16, hka05_16, hka05_16, hka05_16, hka05_16, hka05_101, hka05_125, hka05_16, hka05_16, hka05_16, hka05_16, hka05_16, hka05_16, hka05_73, hka05_589, hka05_602, hka05_16, hka05_16, hka05_16, hka05_16, hka05_16, hka05_16]
def hka05_619 : ai_E := [hka05_525, hka05_1, hka05_2, hka05_3, hka05_4, hka05_5, hka05_6, hka05_4, hka05_7, hka05_8, hka05_8, hka05_8, hka05_9, hka05_6, hka05_10, hka05_8, hka05_88, hka05_6, hka05_5, hka05_89, hka05_90, hka05_91, hka05_92, hka05_93, hka05_5, hka05_89, hka05_90, hka05_91, hka05_92, hka05_93, hka05_5, hka05_89, hka05_90, hka05_91, hka05_92, hka05_93, hka05_5]
def hka05_620 : ai_N := (.ofNat 0, .ofNat 130, [])
def hka05_621 : ai_V := .inl (false, hka05_620)
def hka05_622 : ai_C := .inr (.inr (8, [hka05_17, hka05_18, hka05_20, hka05_22, hka05_23, hka05_24, hka05_26, hka05_27, hka05_29, hka05_31, hka05_32, hka05_34, hka05_36, hka05_38, hka05_39, hka05_41, hka05_43, hka05_45, hka05_47, hka05_49, hka05_51, hka05_53, hka05_54, hka05_621, hka05_57, hka05_58, hka05_344, hka05_61, hka05_62, hka05_63, hka05_64, hka05_65, hka05_66, hka05_68]))
/-- NeverAgainModel.plan -/
def ka_461 : ai_K := (50, 4, (hka05_94, [hka05_13, hka05_96], [], hka05_618), [.inl 1, .inr (59, 2), .inr (59, 3), .inr (59, 6), .inr (59, 8), .inr (59, 9), .inr (59, 11), .inr (59, 12), .inr (59, 13), .inr (59, 15), .inr (59, 16), .inr (59, 17), .inr (59, 18), .inr (59, 19), .inr (59, 20), .inr (59, 21), .inr (59, 23), .inr (59, 26), .inr (59, 33), .inr (60, 0), .inr (60, 78), .inr (60, 79), .inr (60, 80), .inr (60, 81), .inr (60, 87), .inr (60, 96), .inr (60, 174), .inr (60, 175), .inr (60, 176), .inr (60, 177), .inr (60, 183), .inr (60, 192), .inr (60, 270), .inr (60, 271), .inr (60, 272), .inr (60, 273), .inr (60, 279)], [(some hka05_344, hka05_619, [(59, hka05_622), (67, hka05_72), (68, hka05_588), (69, hka05_601)]), (some hka05_148, hka05_619, [(59, hka05_622), (67, hka05_72), (68, hka05_588), (69, hka05_601)]), (some hka05_130, hka05_94, [])])
def kan_461 : List ai_Nd := []
set_option maxRecDepth 1000000 in
theorem kak_461 : ai_ck [ka_454, ka_457, ka_458, ka_460, ka_459, ka_455, ka_456] [] ka_461 [.inl 100000] kan_461 16 = true := by decide +kernel
theorem kah_461 : ai_holds ka_461 := ai_thm kak_461 (ai_cons kah_454 (ai_cons kah_457 (ai_cons kah_458 (ai_cons kah_460 (ai_cons kah_459 (ai_cons kah_455 (ai_cons kah_456 ai_nil)))))))
def hka05_623 : ai_W := [hka05_16, hka05_304, hka05_16, hka05_326, hka05_16, hka05_16, hka05_16, hka05_16, hka05_16, hka05_16, hka05_16, hka05_16, hka05_16, hka05_16, hka05_16, hka05_16, hka05_16, hka05_351, hka05_358, hka05_360, hka05_336, hka05_457, hka05_188, hka05_16, hka05_16, hka05_373, hka05_16, hka05_16, hka05_16, hka05_16, hka05_16, hka05_16, hka05_16, hka05_16, hka05_16, hka05_16, hka05_16, hka05_16, hka05_16, hka05_16, hka05_16, hka05_16, hka05_16, hka05_16, hka05_16, hka05_16, hka05_16, hka05_16, hka05_16, hka05_16, hka05_16, hka05_16, hka05_16, hka05_16, hka05_16, hka05_16, hka05_16, hka05_16, hka05_16, hka05_16, hka05_16, hka05_16, hka05_16, hka05_16, hka05_16, hka05_16, hka05_16, hka05_16, hka05_16, hka05_16, hka05_16, hka05_16, hka05_16, hka05_16, hka05_16, hka05_16]
def hka05_624 : ai_N := (.ofNat 0, .ofNat 128, [(8, .negSucc 127, .ofNat 128)])
def hka05_625 : ai_V := .inl (false, hka05_624)
def hka05_626 : ai_C := .inr (.inr (0, [hka05_327, hka05_328, hka05_329, hka05_165, hka05_625]))
def hka05_627 : ai_C := .inr (.inr (2, [hka05_199, hka05_305, hka05_306, hka05_307, hka05_308, hka05_453, hka05_344]))
/-- NeverAgain$Planner.followRule -/
def ka_462 : ai_K := (126, 4, (hka05_451, [hka05_200, hka05_97, hka05_97, hka05_97, hka05_97, hka05_97], [], hka05_623), [.inr (1, 6), .inr (1, 7), .inr (1, 8), .inr (1, 9), .inr (1, 10), .inr (1, 11), .inr (1, 12), .inr (1, 13), .inr (17, 4), .inr (21, 5), .inr (21, 6)], [(none, hka05_451, [(17, hka05_626), (18, hka05_357), (19, hka05_359), (20, hka05_335), (21, hka05_627), (25, hka05_372)]), (none, hka05_451, [(17, hka05_626), (18, hka05_357), (19, hka05_359), (20, hka05_335), (21, hka05_480), (25, hka05_372)])])
def hka05_628 : ai_E := [hka05_1, hka05_2, hka05_6, hka05_6, hka05_6, hka05_89, hka05_93, hka05_5, hka05_323, hka05_93, hka05_6, hka05_6, hka05_93]
def hka05_629 : ai_N := (.ofNat 0, .ofNat 1, [])
def hka05_630 : ai_V := .inl (false, hka05_629)
def hka05_631 : ai_N := (.ofNat 0, .ofNat 5, [(12, .ofNat 0, .ofNat 0)])
def hka05_632 : ai_V := .inl (false, hka05_631)
def hka05_633 : ai_N := (.ofNat 0, .ofNat 128, [(8, .ofNat 0, .ofNat 128)])
def hka05_634 : ai_V := .inl (false, hka05_633)
def hka05_635 : ai_C := .inr (.inr (0, [hka05_327, hka05_328, hka05_329, hka05_165, hka05_634]))
def hka05_636 : Bool × Option ai_C := (true, some hka05_635)
def hka05_637 : ai_W := [hka05_16, hka05_304, hka05_16, hka05_326, hka05_16, hka05_16, hka05_16, hka05_16, hka05_16, hka05_16, hka05_16, hka05_16, hka05_16, hka05_16, hka05_16, hka05_16, hka05_16, hka05_636, hka05_401, hka05_402, hka05_403, hka05_457, hka05_188, hka05_16, hka05_16, hka05_405, hka05_16, hka05_16, hka05_16, hka05_16, hka05_16, hka05_16, hka05_16, hka05_16, hka05_16, hka05_16, hka05_16, hka05_16, hka05_16, hka05_16, hka05_16, hka05_16, hka05_16, hka05_16, hka05_16, hka05_16, hka05_16, hka05_16, hka05_16, hka05_16, hka05_16, hka05_16, hka05_16, hka05_16, hka05_16, hka05_16, hka05_16, hka05_16, hka05_16, hka05_16, hka05_16, hka05_16, hka05_16, hka05_16, hka05_16, hka05_16, hka05_16, hka05_16, hka05_16, hka05_16, hka05_16, hka05_16, hka05_16, hka05_16, hka05_16, hka05_16]
def hka05_638 : Int × Int := (.ofNat 0, .ofNat 2147483647)
def hka05_639 : ai_E := [hka05_1, hka05_2, hka05_6, hka05_6, hka05_6, hka05_89, hka05_93, hka05_5, hka05_323, hka05_93, hka05_6, hka05_638]
def hka05_640 : ai_N := (.ofNat 0, .ofNat 2147483647, [(11, .ofNat 0, .ofNat 0)])
def hka05_641 : ai_V := .inl (false, hka05_640)
def hka05_642 : Bool × Option ai_C := (true, some hka05_626)
def hka05_643 : ai_W := [hka05_16, hka05_304, hka05_16, hka05_326, hka05_16, hka05_16, hka05_16, hka05_16, hka05_16, hka05_16, hka05_16, hka05_16, hka05_16, hka05_16, hka05_16, hka05_16, hka05_16, hka05_642, hka05_401, hka05_402, hka05_403, hka05_457, hka05_188, hka05_16, hka05_16, hka05_405, hka05_16, hka05_16, hka05_16, hka05_16, hka05_16, hka05_16, hka05_16, hka05_16, hka05_16, hka05_16, hka05_16, hka05_16, hka05_16, hka05_16, hka05_16, hka05_16, hka05_16, hka05_16, hka05_16, hka05_16, hka05_16, hka05_16, hka05_16, hka05_16, hka05_16, hka05_16, hka05_16, hka05_16, hka05_16, hka05_16, hka05_16, hka05_16, hka05_16, hka05_16, hka05_16, hka05_16, hka05_16, hka05_16, hka05_16, hka05_16, hka05_16, hka05_16, hka05_16, hka05_16, hka05_16, hka05_16, hka05_16, hka05_16, hka05_16, hka05_16]
def kan_462 : List ai_Nd := [(9, (hka05_628, [hka05_200, hka05_344, hka05_380, hka05_630, hka05_632, hka05_97], [], hka05_637), [.inl 2, .inl 4], [.inl 99990, .inl 1, .inr (true, .ofNat 5, 12), .inl 100000]), (88, (hka05_639, [hka05_200, hka05_344, hka05_344, hka05_630, hka05_641, hka05_97], [], hka05_643), [.inl 4], [.inl 99911, .inl 1, .inr (true, .ofNat 2147483647, 11), .inl 100000])]
set_option maxRecDepth 1000000 in
theorem kak_462 : ai_ck [ka_438, ka_374, ka_395] [] ka_462 [.inl 100000, .inl 0, .inl 0, .inl 0] kan_462 39 = true := by decide +kernel
theorem kah_462 : ai_holds ka_462 := ai_thm kak_462 (ai_cons kah_438 (ai_cons kah_374 (ai_cons kah_395 ai_nil)))
def hka05_644 : ai_W := [hka05_215, hka05_231, hka05_16, hka05_326, hka05_506, hka05_188, hka05_16, hka05_16, hka05_16, hka05_16, hka05_16, hka05_16, hka05_16, hka05_16, hka05_16, hka05_16, hka05_16, hka05_510, hka05_358, hka05_360, hka05_336, hka05_516, hka05_188, hka05_16, hka05_16, hka05_373, hka05_16, hka05_16, hka05_16, hka05_16, hka05_16, hka05_16, hka05_16, hka05_16, hka05_16, hka05_16, hka05_16, hka05_16, hka05_16, hka05_16, hka05_16, hka05_16, hka05_16, hka05_16, hka05_16, hka05_16, hka05_16, hka05_16, hka05_16, hka05_16, hka05_16, hka05_16, hka05_16, hka05_16, hka05_16, hka05_16, hka05_16, hka05_16, hka05_16, hka05_16, hka05_16, hka05_16, hka05_16, hka05_16, hka05_16, hka05_16, hka05_16, hka05_16, hka05_16, hka05_16, hka05_16, hka05_16, hka05_16, hka05_16, hka05_16, hka05_16]
def hka05_645 : ai_C := .inr (.inr (2, [hka05_199, hka05_305, hka05_306, hka05_307, hka05_308, hka05_317, hka05_344]))
def hka05_646 : ai_C := .inr (.inr (2, [hka05_199, hka05_305, hka05_306, hka05_307, hka05_308, hka05_317, hka05_524]))
/-- NeverAgain.byRule -/
def ka_463 : ai_K := (51, 5, (hka05_504, [hka05_197, hka05_96], [], hka05_644), [.inl 1, .inr (0, 11), .inr (0, 12), .inr (0, 13), .inr (1, 6), .inr (1, 7), .inr (1, 8), .inr (1, 9), .inr (1, 10), .inr (1, 11), .inr (1, 12), .inr (1, 13), .inr (17, 4), .inr (21, 5), .inr (21, 6)], [(some hka05_148, hka05_526, [(17, hka05_521), (18, hka05_357), (19, hka05_359), (20, hka05_335), (21, hka05_645), (22, hka05_187), (25, hka05_372)]), (some hka05_524, hka05_526, [(17, hka05_521), (18, hka05_357), (19, hka05_359), (20, hka05_335), (21, hka05_646), (22, hka05_187), (25, hka05_372)]), (some hka05_130, hka05_504, [])])
def kan_463 : List ai_Nd := []
set_option maxRecDepth 1000000 in
theorem kak_463 : ai_ck [ka_432, ka_450, ka_451, ka_376, ka_433, ka_462] [] ka_463 [.inl 100000] kan_463 23 = true := by decide +kernel
theorem kah_463 : ai_holds ka_463 := ai_thm kak_463 (ai_cons kah_432 (ai_cons kah_450 (ai_cons kah_451 (ai_cons kah_376 (ai_cons kah_433 (ai_cons kah_462 ai_nil))))))
def hka05_647 : ai_E := [hka05_93, hka05_1, hka05_2, hka05_3, hka05_4, hka05_5, hka05_6, hka05_4, hka05_7, hka05_8, hka05_8, hka05_8, hka05_9, hka05_6, hka05_10, hka05_8, hka05_88, hka05_6, hka05_5, hka05_89, hka05_90, hka05_91, hka05_92, hka05_93, hka05_5, hka05_89, hka05_90, hka05_91, hka05_92, hka05_93, hka05_5, hka05_89, hka05_90, hka05_91, hka05_92, hka05_93, hka05_5]
def hka05_648 : ai_E := [hka05_262, hka05_1, hka05_2, hka05_3, hka05_4, hka05_5, hka05_6, hka05_4, hka05_7, hka05_8, hka05_8, hka05_8, hka05_9, hka05_6, hka05_10, hka05_8, hka05_88, hka05_6, hka05_5, hka05_89, hka05_90, hka05_91, hka05_92, hka05_93, hka05_5, hka05_89, hka05_90, hka05_91, hka05_92, hka05_93, hka05_5, hka05_89, hka05_90, hka05_91, hka05_92, hka05_93, hka05_5]
def hka05_649 : ai_N := (.ofNat 0, .ofNat 64, [(19, .ofNat 0, .ofNat 64)])
def hka05_650 : ai_V := .inl (false, hka05_649)
def hka05_651 : ai_N := (.ofNat 1000000, .ofNat 1000000, [])
def hka05_652 : ai_V := .inl (false, hka05_651)
def hka05_653 : ai_C := .inr (.inr (8, [hka05_17, hka05_18, hka05_20, hka05_22, hka05_23, hka05_24, hka05_26, hka05_27, hka05_29, hka05_31, hka05_32, hka05_34, hka05_36, hka05_38, hka05_39, hka05_41, hka05_43, hka05_45, hka05_47, hka05_49, hka05_51, hka05_53, hka05_54, hka05_650, hka05_57, hka05_58, hka05_652, hka05_61, hka05_62, hka05_63, hka05_64, hka05_65, hka05_66, hka05_68]))
def hka05_654 : ai_N := (.ofNat 0, .ofNat 65, [(19, .ofNat 0, .ofNat 65)])
def hka05_655 : ai_V := .inl (false, hka05_654)
def hka05_656 : ai_C := .inr (.inr (8, [hka05_17, hka05_18, hka05_20, hka05_22, hka05_23, hka05_24, hka05_26, hka05_27, hka05_29, hka05_31, hka05_32, hka05_34, hka05_36, hka05_38, hka05_39, hka05_41, hka05_43, hka05_45, hka05_47, hka05_49, hka05_51, hka05_53, hka05_54, hka05_655, hka05_57, hka05_58, hka05_344, hka05_61, hka05_62, hka05_63, hka05_64, hka05_65, hka05_66, hka05_68]))
/-- NeverAgainModel.findRuled -/
def ka_464 : ai_K := (127, 4, (hka05_647, [hka05_13, hka05_253, hka05_97, hka05_97], [], hka05_618), [.inl 1, .inr (59, 2), .inr (59, 3), .inr (59, 6), .inr (59, 8), .inr (59, 9), .inr (59, 11), .inr (59, 12), .inr (59, 13), .inr (59, 15), .inr (59, 16), .inr (59, 17), .inr (59, 18), .inr (59, 19), .inr (59, 20), .inr (59, 21), .inr (59, 23), .inr (59, 26), .inr (59, 33), .inr (60, 0), .inr (60, 78), .inr (60, 79), .inr (60, 80), .inr (60, 81), .inr (60, 87), .inr (60, 96), .inr (60, 174), .inr (60, 175), .inr (60, 176), .inr (60, 177), .inr (60, 183), .inr (60, 192), .inr (60, 270), .inr (60, 271), .inr (60, 272), .inr (60, 273), .inr (60, 279)], [(none, hka05_648, [(59, hka05_653), (67, hka05_72), (69, hka05_601)]), (none, hka05_647, [(59, hka05_656), (67, hka05_72), (69, hka05_601)])])
def hka05_657 : ai_E := [hka05_93, hka05_1, hka05_2, hka05_3, hka05_4, hka05_5, hka05_6, hka05_4, hka05_7, hka05_8, hka05_8, hka05_8, hka05_9, hka05_6, hka05_10, hka05_8, hka05_88, hka05_6, hka05_5, hka05_89, hka05_90, hka05_91, hka05_92, hka05_93, hka05_5, hka05_89, hka05_90, hka05_91, hka05_92, hka05_93, hka05_5, hka05_89, hka05_90, hka05_91, hka05_92, hka05_93, hka05_5, hka05_93]
def hka05_658 : ai_N := (.ofNat 0, .ofNat 5, [(37, .ofNat 0, .ofNat 0)])
def hka05_659 : ai_V := .inl (false, hka05_658)
def hka05_660 : ai_N := (.ofNat 0, .ofNat 65, [(19, .ofNat 0, .ofNat 65), (37, .ofNat 0, .ofNat 60)])
def hka05_661 : ai_V := .inl (false, hka05_660)
def hka05_662 : ai_C := .inr (.inr (8, [hka05_17, hka05_18, hka05_20, hka05_22, hka05_23, hka05_24, hka05_26, hka05_27, hka05_29, hka05_31, hka05_32, hka05_34, hka05_36, hka05_38, hka05_39, hka05_41, hka05_43, hka05_45, hka05_47, hka05_49, hka05_51, hka05_53, hka05_54, hka05_661, hka05_57, hka05_58, hka05_344, hka05_61, hka05_62, hka05_63, hka05_64, hka05_65, hka05_66, hka05_68]))
def hka05_663 : Bool × Option ai_C := (true, some hka05_662)
def hka05_664 : Bool × Option ai_C := (true, some hka05_601)
def hka05_665 : ai_W := [hka05_16, hka05_16, hka05_16, hka05_16, hka05_16, hka05_16, hka05_16, hka05_16, hka05_16, hka05_16, hka05_16, hka05_16, hka05_16, hka05_16, hka05_16, hka05_16, hka05_16, hka05_16, hka05_16, hka05_16, hka05_16, hka05_16, hka05_16, hka05_16, hka05_16, hka05_16, hka05_16, hka05_16, hka05_16, hka05_16, hka05_16, hka05_16, hka05_16, hka05_16, hka05_16, hka05_16, hka05_16, hka05_16, hka05_16, hka05_16, hka05_16, hka05_16, hka05_16, hka05_16, hka05_16, hka05_16, hka05_16, hka05_16, hka05_16, hka05_16, hka05_16, hka05_16, hka05_16, hka05_16, hka05_16, hka05_16, hka05_16, hka05_16, hka05_16, hka05_663, hka05_125, hka05_16, hka05_16, hka05_16, hka05_16, hka05_16, hka05_16, hka05_162, hka05_589, hka05_664, hka05_16, hka05_16, hka05_16, hka05_16, hka05_16, hka05_16]
def kan_464 : List ai_Nd := [(11, (hka05_657, [hka05_13, hka05_253, hka05_659, hka05_97], [], hka05_665), [.inl 2], [.inl 99988, .inl 1, .inr (true, .ofNat 5, 37), .inl 100000])]
set_option maxRecDepth 1000000 in
theorem kak_464 : ai_ck [ka_409, ka_380, ka_398] [] ka_464 [.inl 100000, .inl 0, .inl 0, .inl 0] kan_464 35 = true := by decide +kernel
theorem kah_464 : ai_holds ka_464 := ai_thm kak_464 (ai_cons kah_409 (ai_cons kah_380 (ai_cons kah_398 ai_nil)))
/-- NeverAgainModel.byRule -/
def ka_465 : ai_K := (52, 5, (hka05_94, [hka05_13, hka05_96], [], hka05_618), [.inl 1, .inr (59, 2), .inr (59, 3), .inr (59, 6), .inr (59, 8), .inr (59, 9), .inr (59, 11), .inr (59, 12), .inr (59, 13), .inr (59, 15), .inr (59, 16), .inr (59, 17), .inr (59, 18), .inr (59, 19), .inr (59, 20), .inr (59, 21), .inr (59, 23), .inr (59, 26), .inr (59, 33), .inr (60, 0), .inr (60, 78), .inr (60, 79), .inr (60, 80), .inr (60, 81), .inr (60, 87), .inr (60, 96), .inr (60, 174), .inr (60, 175), .inr (60, 176), .inr (60, 177), .inr (60, 183), .inr (60, 192), .inr (60, 270), .inr (60, 271), .inr (60, 272), .inr (60, 273), .inr (60, 279)], [(some hka05_344, hka05_619, [(59, hka05_656), (67, hka05_72), (68, hka05_588), (69, hka05_601)]), (some hka05_148, hka05_619, [(59, hka05_656), (67, hka05_72), (68, hka05_588), (69, hka05_601)]), (some hka05_652, hka05_272, [(59, hka05_653), (67, hka05_72), (68, hka05_588), (69, hka05_601)]), (some hka05_130, hka05_94, [])])
def kan_465 : List ai_Nd := []
set_option maxRecDepth 1000000 in
theorem kak_465 : ai_ck [ka_454, ka_457, ka_458, ka_460, ka_459, ka_455, ka_464] [] ka_465 [.inl 100000] kan_465 16 = true := by decide +kernel
theorem kah_465 : ai_holds ka_465 := ai_thm kak_465 (ai_cons kah_454 (ai_cons kah_457 (ai_cons kah_458 (ai_cons kah_460 (ai_cons kah_459 (ai_cons kah_455 (ai_cons kah_464 ai_nil)))))))
def hka05_666 : ai_N := (.ofNat 1000, .ofNat 2147483647, [])
def hka05_667 : ai_V := .inl (false, hka05_666)
def hka05_668 : ai_C := .inr (.inr (2, [hka05_199, hka05_305, hka05_306, hka05_307, hka05_308, hka05_453, hka05_667]))
/-- NeverAgain$Planner.ruleAbovePlan -/
def ka_467 : ai_K := (129, 9, (hka05_451, [hka05_200, hka05_97], [], hka05_458), [.inr (1, 6), .inr (1, 7), .inr (1, 8), .inr (1, 9), .inr (1, 10), .inr (1, 11), .inr (1, 12), .inr (1, 13), .inr (17, 4), .inr (21, 5), .inr (21, 6)], [(some hka05_148, hka05_451, [(17, hka05_626), (18, hka05_357), (19, hka05_359), (20, hka05_335), (21, hka05_480), (25, hka05_372)]), (some hka05_148, hka05_451, [(17, hka05_626), (18, hka05_357), (19, hka05_359), (20, hka05_335), (21, hka05_668), (25, hka05_372)]), (some hka05_524, hka05_459, [(17, hka05_626), (18, hka05_357), (19, hka05_359), (20, hka05_335), (21, hka05_462), (23, hka05_383), (25, hka05_372)]), (some hka05_344, hka05_463, [(17, hka05_626), (18, hka05_357), (19, hka05_359), (20, hka05_335), (21, hka05_469), (23, hka05_383), (24, hka05_372), (25, hka05_372)]), (some hka05_344, hka05_463, [(17, hka05_626), (18, hka05_357), (19, hka05_359), (20, hka05_335), (21, hka05_469), (23, hka05_383), (24, hka05_372), (25, hka05_372)])])
def kan_467 : List ai_Nd := []
set_option maxRecDepth 1000000 in
theorem kak_467 : ai_ck [ka_449, ka_462] [] ka_467 [.inl 100000] kan_467 16 = true := by decide +kernel
theorem kah_467 : ai_holds ka_467 := ai_thm kak_467 (ai_cons kah_449 (ai_cons kah_462 ai_nil))
def hka05_669 : ai_E := [hka05_6, hka05_1, hka05_2, hka05_6, hka05_6, hka05_6, hka05_89, hka05_93, hka05_5, hka05_93, hka05_6]
def hka05_670 : ai_W := [hka05_16, hka05_185, hka05_16, hka05_16, hka05_16, hka05_16, hka05_16, hka05_16, hka05_16, hka05_16, hka05_16, hka05_16, hka05_16, hka05_16, hka05_16, hka05_16, hka05_16, hka05_16, hka05_16, hka05_16, hka05_16, hka05_457, hka05_188, hka05_16, hka05_16, hka05_16, hka05_16, hka05_16, hka05_16, hka05_16, hka05_16, hka05_16, hka05_16, hka05_16, hka05_16, hka05_16, hka05_16, hka05_16, hka05_16, hka05_16, hka05_16, hka05_16, hka05_16, hka05_16, hka05_16, hka05_16, hka05_16, hka05_16, hka05_16, hka05_16, hka05_16, hka05_16, hka05_16, hka05_16, hka05_16, hka05_16, hka05_16, hka05_16, hka05_16, hka05_16, hka05_16, hka05_16, hka05_16, hka05_16, hka05_16, hka05_16, hka05_16, hka05_16, hka05_16, hka05_16, hka05_16, hka05_16, hka05_16, hka05_16, hka05_16, hka05_16]
def hka05_671 : ai_C := .inr (.inr (2, [hka05_199, hka05_305, hka05_306, hka05_307, hka05_308, hka05_408, hka05_455]))
/-- NeverAgain$Planner.takeRow -/
def ka_470 : ai_K := (128, 1, (hka05_669, [hka05_200, hka05_165, hka05_96, hka05_408, hka05_97, hka05_97], [], hka05_670), [.inl 2, .inr (1, 6), .inr (1, 7), .inr (1, 8), .inr (1, 9), .inr (1, 10), .inr (1, 11), .inr (1, 12), .inr (1, 13), .inr (21, 5), .inr (21, 6)], [(some hka05_630, hka05_669, [(21, hka05_671), (22, hka05_187)])])
def hka05_672 : ai_E := [hka05_6, hka05_1, hka05_2, hka05_6, hka05_6, hka05_6, hka05_89, hka05_93, hka05_5, hka05_93, hka05_6, hka05_9]
def hka05_673 : Bool × Option ai_C := (true, some hka05_671)
def hka05_674 : ai_W := [hka05_16, hka05_185, hka05_16, hka05_16, hka05_16, hka05_16, hka05_16, hka05_16, hka05_16, hka05_16, hka05_16, hka05_16, hka05_16, hka05_16, hka05_16, hka05_16, hka05_16, hka05_16, hka05_16, hka05_16, hka05_16, hka05_673, hka05_321, hka05_16, hka05_16, hka05_16, hka05_16, hka05_16, hka05_16, hka05_16, hka05_16, hka05_16, hka05_16, hka05_16, hka05_16, hka05_16, hka05_16, hka05_16, hka05_16, hka05_16, hka05_16, hka05_16, hka05_16, hka05_16, hka05_16, hka05_16, hka05_16, hka05_16, hka05_16, hka05_16, hka05_16, hka05_16, hka05_16, hka05_16, hka05_16, hka05_16, hka05_16, hka05_16, hka05_16, hka05_16, hka05_16, hka05_16, hka05_16, hka05_16, hka05_16, hka05_16, hka05_16, hka05_16, hka05_16, hka05_16, hka05_16, hka05_16, hka05_16, hka05_16, hka05_16, hka05_16]
def kan_470 : List ai_Nd := [(15, (hka05_672, [hka05_200, hka05_165, hka05_96, hka05_408, hka05_630, hka05_553], [], hka05_674), [.inl 5], [.inl 99984, .inl 1, .inr (true, .ofNat 3, 11), .inl 100000])]
set_option maxRecDepth 1000000 in
theorem kak_470 : ai_ck [ka_350] [] ka_470 [.inl 100000, .inl 0, .inl 0, .inl 0] kan_470 36 = true := by decide +kernel
theorem kah_470 : ai_holds ka_470 := ai_thm kak_470 (ai_cons kah_350 ai_nil)
def hka05_675 : ai_C := .inr (.inr (2, [hka05_199, hka05_305, hka05_306, hka05_307, hka05_308, hka05_426, hka05_455]))
/-- NeverAgain$Planner.takeRow -/
def ka_471 : ai_K := (128, 1, (hka05_669, [hka05_200, hka05_165, hka05_96, hka05_426, hka05_97, hka05_97], [], hka05_670), [.inl 2, .inr (1, 6), .inr (1, 7), .inr (1, 8), .inr (1, 9), .inr (1, 10), .inr (1, 11), .inr (1, 12), .inr (1, 13), .inr (21, 5), .inr (21, 6)], [(some hka05_630, hka05_669, [(21, hka05_675), (22, hka05_187)])])
def hka05_676 : ai_E := [hka05_6, hka05_1, hka05_2, hka05_6, hka05_6, hka05_6, hka05_89, hka05_93, hka05_5, hka05_93, hka05_6, hka05_427]
def hka05_677 : ai_N := (.ofNat 0, .ofNat 2, [(11, .ofNat 0, .ofNat 0)])
def hka05_678 : ai_V := .inl (false, hka05_677)
def hka05_679 : Bool × Option ai_C := (true, some hka05_675)
def hka05_680 : ai_W := [hka05_16, hka05_185, hka05_16, hka05_16, hka05_16, hka05_16, hka05_16, hka05_16, hka05_16, hka05_16, hka05_16, hka05_16, hka05_16, hka05_16, hka05_16, hka05_16, hka05_16, hka05_16, hka05_16, hka05_16, hka05_16, hka05_679, hka05_321, hka05_16, hka05_16, hka05_16, hka05_16, hka05_16, hka05_16, hka05_16, hka05_16, hka05_16, hka05_16, hka05_16, hka05_16, hka05_16, hka05_16, hka05_16, hka05_16, hka05_16, hka05_16, hka05_16, hka05_16, hka05_16, hka05_16, hka05_16, hka05_16, hka05_16, hka05_16, hka05_16, hka05_16, hka05_16, hka05_16, hka05_16, hka05_16, hka05_16, hka05_16, hka05_16, hka05_16, hka05_16, hka05_16, hka05_16, hka05_16, hka05_16, hka05_16, hka05_16, hka05_16, hka05_16, hka05_16, hka05_16, hka05_16, hka05_16, hka05_16, hka05_16, hka05_16, hka05_16]
def kan_471 : List ai_Nd := [(15, (hka05_676, [hka05_200, hka05_165, hka05_96, hka05_426, hka05_630, hka05_678], [], hka05_680), [.inl 5], [.inl 99984, .inl 1, .inr (true, .ofNat 2, 11), .inl 100000])]
set_option maxRecDepth 1000000 in
theorem kak_471 : ai_ck [ka_350] [] ka_471 [.inl 100000, .inl 0, .inl 0, .inl 0] kan_471 36 = true := by decide +kernel
theorem kah_471 : ai_holds ka_471 := ai_thm kak_471 (ai_cons kah_350 ai_nil)
def hka05_681 : ai_C := .inr (.inr (2, [hka05_199, hka05_305, hka05_306, hka05_307, hka05_308, hka05_146, hka05_455]))
/-- NeverAgain$Planner.takeRow -/
def ka_472 : ai_K := (128, 1, (hka05_669, [hka05_200, hka05_165, hka05_96, hka05_146, hka05_97, hka05_97], [], hka05_670), [.inl 2, .inr (1, 6), .inr (1, 7), .inr (1, 8), .inr (1, 9), .inr (1, 10), .inr (1, 11), .inr (1, 12), .inr (1, 13), .inr (21, 5), .inr (21, 6)], [(some hka05_630, hka05_669, [(21, hka05_681), (22, hka05_187)])])
def hka05_682 : ai_E := [hka05_6, hka05_1, hka05_2, hka05_6, hka05_6, hka05_6, hka05_89, hka05_93, hka05_5, hka05_93, hka05_6, hka05_91]
def hka05_683 : ai_N := (.ofNat 0, .ofNat 1, [(11, .ofNat 0, .ofNat 0)])
def hka05_684 : ai_V := .inl (false, hka05_683)
def hka05_685 : Bool × Option ai_C := (true, some hka05_681)
def hka05_686 : ai_W := [hka05_16, hka05_185, hka05_16, hka05_16, hka05_16, hka05_16, hka05_16, hka05_16, hka05_16, hka05_16, hka05_16, hka05_16, hka05_16, hka05_16, hka05_16, hka05_16, hka05_16, hka05_16, hka05_16, hka05_16, hka05_16, hka05_685, hka05_321, hka05_16, hka05_16, hka05_16, hka05_16, hka05_16, hka05_16, hka05_16, hka05_16, hka05_16, hka05_16, hka05_16, hka05_16, hka05_16, hka05_16, hka05_16, hka05_16, hka05_16, hka05_16, hka05_16, hka05_16, hka05_16, hka05_16, hka05_16, hka05_16, hka05_16, hka05_16, hka05_16, hka05_16, hka05_16, hka05_16, hka05_16, hka05_16, hka05_16, hka05_16, hka05_16, hka05_16, hka05_16, hka05_16, hka05_16, hka05_16, hka05_16, hka05_16, hka05_16, hka05_16, hka05_16, hka05_16, hka05_16, hka05_16, hka05_16, hka05_16, hka05_16, hka05_16, hka05_16]
def kan_472 : List ai_Nd := [(15, (hka05_682, [hka05_200, hka05_165, hka05_96, hka05_146, hka05_630, hka05_684], [], hka05_686), [.inl 5], [.inl 99984, .inl 1, .inr (true, .ofNat 1, 11), .inl 100000])]
set_option maxRecDepth 1000000 in
theorem kak_472 : ai_ck [ka_350] [] ka_472 [.inl 100000, .inl 0, .inl 0, .inl 0] kan_472 36 = true := by decide +kernel
theorem kah_472 : ai_holds ka_472 := ai_thm kak_472 (ai_cons kah_350 ai_nil)
def hka05_687 : ai_E := [hka05_6, hka05_6, hka05_3, hka05_10, hka05_5, hka05_1, hka05_2, hka05_6, hka05_6, hka05_6, hka05_89, hka05_93, hka05_5, hka05_323, hka05_93, hka05_6]
def hka05_688 : ai_N := (.ofNat 0, .ofNat 6, [(3, .ofNat 0, .ofNat 0)])
def hka05_689 : ai_V := .inl (false, hka05_688)
def hka05_690 : ai_C := .inr (.inr (7, [hka05_198, hka05_199, hka05_200, hka05_201, hka05_202, hka05_203, hka05_204, hka05_205, hka05_206, hka05_165, hka05_207, hka05_541, hka05_689, hka05_545]))
def hka05_691 : Bool × Option ai_C := (false, some hka05_690)
def hka05_692 : ai_N := (.ofNat 4, .ofNat 16, [(5, .ofNat 0, .ofNat 0)])
def hka05_693 : ai_V := .inl (false, hka05_692)
def hka05_694 : ai_N := (.ofNat 1, .ofNat 4, [(6, .ofNat 0, .ofNat 0)])
def hka05_695 : ai_V := .inl (false, hka05_694)
def hka05_696 : ai_N := (.ofNat 0, .ofNat 60, [(10, .ofNat 0, .ofNat 0)])
def hka05_697 : ai_V := .inl (false, hka05_696)
def hka05_698 : ai_N := (.ofNat 0, .ofNat 5, [(11, .ofNat 0, .ofNat 0)])
def hka05_699 : ai_V := .inl (false, hka05_698)
def hka05_700 : ai_N := (.ofNat 0, .ofNat 4, [(12, .ofNat 0, .ofNat 0)])
def hka05_701 : ai_V := .inl (false, hka05_700)
def hka05_702 : ai_C := .inr (.inr (6, [hka05_166, hka05_167, hka05_168, hka05_169, hka05_170, hka05_171, hka05_693, hka05_695, hka05_221, hka05_223, hka05_312, hka05_697, hka05_699, hka05_701]))
def hka05_703 : Bool × Option ai_C := (false, some hka05_702)
def hka05_704 : ai_N := (.ofNat 0, .ofNat 128, [(13, .ofNat 0, .ofNat 0)])
def hka05_705 : ai_V := .inl (false, hka05_704)
def hka05_706 : ai_C := .inr (.inr (0, [hka05_327, hka05_328, hka05_329, hka05_97, hka05_705]))
def hka05_707 : Bool × Option ai_C := (false, some hka05_706)
def hka05_708 : ai_N := (.ofNat 0, .ofNat 5, [(14, .ofNat 0, .ofNat 0)])
def hka05_709 : ai_V := .inl (false, hka05_708)
def hka05_710 : ai_N := (.negSucc 2147483647, .ofNat 2147483647, [(15, .ofNat 0, .ofNat 0)])
def hka05_711 : ai_V := .inl (false, hka05_710)
def hka05_712 : ai_C := .inr (.inr (2, [hka05_199, hka05_305, hka05_306, hka05_307, hka05_308, hka05_709, hka05_711]))
def hka05_713 : Bool × Option ai_C := (false, some hka05_712)
def hka05_714 : ai_W := [hka05_691, hka05_703, hka05_16, hka05_326, hka05_506, hka05_16, hka05_16, hka05_16, hka05_16, hka05_16, hka05_16, hka05_16, hka05_16, hka05_16, hka05_16, hka05_16, hka05_16, hka05_707, hka05_358, hka05_360, hka05_336, hka05_713, hka05_188, hka05_384, hka05_373, hka05_373, hka05_16, hka05_16, hka05_16, hka05_16, hka05_16, hka05_16, hka05_16, hka05_16, hka05_16, hka05_16, hka05_16, hka05_16, hka05_16, hka05_16, hka05_16, hka05_16, hka05_16, hka05_16, hka05_16, hka05_16, hka05_16, hka05_16, hka05_16, hka05_16, hka05_16, hka05_16, hka05_16, hka05_16, hka05_16, hka05_16, hka05_16, hka05_16, hka05_16, hka05_16, hka05_16, hka05_16, hka05_16, hka05_16, hka05_16, hka05_16, hka05_16, hka05_16, hka05_16, hka05_16, hka05_16, hka05_16, hka05_16, hka05_16, hka05_16, hka05_16]
def hka05_715 : ai_N := (.negSucc 3, .ofNat 2147483647, [])
def hka05_716 : ai_V := .inl (false, hka05_715)
def hka05_717 : Int × Int := (.ofNat 1, .ofNat 3)
def hka05_718 : ai_E := [hka05_717, hka05_91, hka05_3, hka05_10, hka05_5, hka05_1, hka05_2, hka05_6, hka05_6, hka05_6, hka05_89, hka05_93, hka05_5, hka05_323, hka05_93, hka05_6]
/-- NeverAgain.worst -/
def ka_473 : ai_K := (53, 10, (hka05_687, [hka05_197, hka05_96, hka05_486, hka05_97, hka05_97, hka05_97, hka05_97, hka05_97], [], hka05_714), [.inl 1, .inl 2, .inr (0, 11), .inr (0, 12), .inr (0, 13), .inr (1, 6), .inr (1, 7), .inr (1, 8), .inr (1, 9), .inr (1, 10), .inr (1, 11), .inr (1, 12), .inr (1, 13), .inr (17, 4), .inr (21, 5), .inr (21, 6)], [(some hka05_130, hka05_687, []), (some hka05_716, hka05_718, [(17, hka05_521), (18, hka05_357), (19, hka05_359), (20, hka05_335), (21, hka05_645), (22, hka05_187), (23, hka05_383), (24, hka05_372), (25, hka05_372)])])
def hka05_719 : Int × Int := (.ofNat 3, .ofNat 3)
def hka05_720 : Int × Int := (.ofNat 0, .ofNat 64)
def hka05_721 : ai_E := [hka05_719, hka05_91, hka05_3, hka05_10, hka05_5, hka05_1, hka05_2, hka05_6, hka05_6, hka05_6, hka05_89, hka05_93, hka05_5, hka05_323, hka05_93, hka05_6, hka05_720]
def hka05_722 : ai_N := (.ofNat 3, .ofNat 3, [(0, .ofNat 0, .ofNat 0)])
def hka05_723 : ai_V := .inl (false, hka05_722)
def hka05_724 : ai_N := (.ofNat 0, .ofNat 1, [(1, .ofNat 0, .ofNat 0)])
def hka05_725 : ai_V := .inl (false, hka05_724)
def hka05_726 : ai_N := (.ofNat 64, .ofNat 64, [])
def hka05_727 : ai_V := .inl (false, hka05_726)
def hka05_728 : ai_N := (.negSucc 3, .ofNat 64, [])
def hka05_729 : ai_V := .inl (false, hka05_728)
def hka05_730 : ai_N := (.ofNat 0, .ofNat 64, [(16, .ofNat 0, .ofNat 0)])
def hka05_731 : ai_V := .inl (false, hka05_730)
def hka05_732 : Bool × Option ai_C := (true, some hka05_521)
def hka05_733 : Bool × Option ai_C := (true, some hka05_645)
def hka05_734 : ai_W := [hka05_691, hka05_703, hka05_16, hka05_326, hka05_506, hka05_16, hka05_16, hka05_16, hka05_16, hka05_16, hka05_16, hka05_16, hka05_16, hka05_16, hka05_16, hka05_16, hka05_16, hka05_732, hka05_401, hka05_402, hka05_403, hka05_733, hka05_321, hka05_482, hka05_405, hka05_405, hka05_16, hka05_16, hka05_16, hka05_16, hka05_16, hka05_16, hka05_16, hka05_16, hka05_16, hka05_16, hka05_16, hka05_16, hka05_16, hka05_16, hka05_16, hka05_16, hka05_16, hka05_16, hka05_16, hka05_16, hka05_16, hka05_16, hka05_16, hka05_16, hka05_16, hka05_16, hka05_16, hka05_16, hka05_16, hka05_16, hka05_16, hka05_16, hka05_16, hka05_16, hka05_16, hka05_16, hka05_16, hka05_16, hka05_16, hka05_16, hka05_16, hka05_16, hka05_16, hka05_16, hka05_16, hka05_16, hka05_16, hka05_16, hka05_16, hka05_16]
def hka05_735 : Int × Int := (.ofNat 2, .ofNat 2)
def hka05_736 : ai_E := [hka05_735, hka05_91, hka05_3, hka05_10, hka05_5, hka05_1, hka05_2, hka05_6, hka05_6, hka05_6, hka05_89, hka05_93, hka05_5, hka05_323, hka05_93, hka05_6, hka05_4]
def hka05_737 : ai_N := (.ofNat 2, .ofNat 2, [(0, .ofNat 0, .ofNat 0)])
def hka05_738 : ai_V := .inl (false, hka05_737)
def hka05_739 : ai_N := (.ofNat 16, .ofNat 16, [])
def hka05_740 : ai_V := .inl (false, hka05_739)
def hka05_741 : ai_N := (.ofNat 0, .ofNat 16, [(16, .ofNat 0, .ofNat 0)])
def hka05_742 : ai_V := .inl (false, hka05_741)
def hka05_743 : ai_E := [hka05_143, hka05_91, hka05_3, hka05_10, hka05_5, hka05_1, hka05_2, hka05_6, hka05_6, hka05_6, hka05_89, hka05_93, hka05_5, hka05_323, hka05_93, hka05_6, hka05_5]
def hka05_744 : ai_N := (.ofNat 1, .ofNat 1, [(0, .ofNat 0, .ofNat 0)])
def hka05_745 : ai_V := .inl (false, hka05_744)
def hka05_746 : ai_V := .inl (false, hka05_104)
def hka05_747 : ai_N := (.ofNat 0, .ofNat 4, [(16, .ofNat 0, .ofNat 0)])
def hka05_748 : ai_V := .inl (false, hka05_747)
def kan_473 : List ai_Nd := [(50, (hka05_721, [hka05_197, hka05_723, hka05_725, hka05_727, hka05_716, hka05_729, hka05_731, hka05_97], [], hka05_734), [.inl 6], [.inl 99949, .inl 1, .inr (true, .ofNat 64, 16), .inl 100000]), (50, (hka05_736, [hka05_197, hka05_738, hka05_725, hka05_740, hka05_716, hka05_605, hka05_742, hka05_97], [], hka05_734), [.inl 6], [.inl 99949, .inl 1, .inr (true, .ofNat 64, 16), .inl 100000]), (50, (hka05_743, [hka05_197, hka05_745, hka05_725, hka05_378, hka05_716, hka05_746, hka05_748, hka05_97], [], hka05_734), [.inl 6], [.inl 99949, .inl 1, .inr (true, .ofNat 64, 16), .inl 100000])]
set_option maxRecDepth 1000000 in
theorem kak_473 : ai_ck [ka_376, ka_467, ka_470, ka_471, ka_472] [(0, .inl 1, [.ofNat 1, .ofNat 2, .ofNat 3, .ofNat 4])] ka_473 [.inl 100000, .inl 0, .inl 0, .inl 0] kan_473 31 = true := by decide +kernel
theorem kah_473 : ai_holds ka_473 := ai_thm kak_473 (ai_cons kah_376 (ai_cons kah_467 (ai_cons kah_470 (ai_cons kah_471 (ai_cons kah_472 ai_nil)))))
def hka05_749 : Int × Int := (.ofNat 4, .ofNat 2147483647)
def hka05_750 : ai_N := (.ofNat 4, .ofNat 2147483647, [(0, .ofNat 0, .ofNat 0)])
def hka05_751 : ai_V := .inl (true, hka05_750)
def hka05_752 : ai_V := .inl (true, hka05_145)
def hka05_753 : ai_V := .inl (true, hka05_407)
/-- NeverAgainModel.in -/
def ka_474 : ai_K := (93, 0, ([hka05_749], [hka05_751, hka05_97, hka05_752, hka05_97, hka05_753, hka05_97], [], hka05_260), [.inl 0], [(some hka05_142, [hka05_749], [])])
def kan_474 : List ai_Nd := []
set_option maxRecDepth 1000000 in
theorem kak_474 : ai_ck [] [] ka_474 [.inl 100000] kan_474 11 = true := by decide +kernel
theorem kah_474 : ai_holds ka_474 := ai_thm kak_474 ai_nil
/-- NeverAgainModel.in -/
def ka_475 : ai_K := (93, 0, ([], [hka05_753, hka05_97, hka05_752, hka05_97, hka05_753, hka05_97], [], hka05_260), [], [(some hka05_146, [], [])])
def kan_475 : List ai_Nd := []
set_option maxRecDepth 1000000 in
theorem kak_475 : ai_ck [] [] ka_475 [.inl 100000] kan_475 12 = true := by decide +kernel
theorem kah_475 : ai_holds ka_475 := ai_thm kak_475 ai_nil
def hka05_754 : ai_V := .inl (true, hka05_425)
/-- NeverAgainModel.in -/
def ka_476 : ai_K := (93, 0, ([], [hka05_754, hka05_97, hka05_752, hka05_97, hka05_753, hka05_97], [], hka05_260), [], [(some hka05_146, [], [])])
def kan_476 : List ai_Nd := []
set_option maxRecDepth 1000000 in
theorem kak_476 : ai_ck [] [] ka_476 [.inl 100000] kan_476 12 = true := by decide +kernel
theorem kah_476 : ai_holds ka_476 := ai_thm kak_476 ai_nil
/-- NeverAgainModel.in -/
def ka_477 : ai_K := (93, 0, ([], [hka05_752, hka05_97, hka05_752, hka05_97, hka05_753, hka05_97], [], hka05_260), [], [(some hka05_146, [], [])])
def kan_477 : List ai_Nd := []
set_option maxRecDepth 1000000 in
theorem kak_477 : ai_ck [] [] ka_477 [.inl 100000] kan_477 12 = true := by decide +kernel
theorem kah_477 : ai_holds ka_477 := ai_thm kak_477 ai_nil
def hka05_755 : Int × Int := (.negSucc 2147483647, .ofNat 0)
def hka05_756 : ai_N := (.negSucc 2147483647, .ofNat 0, [(0, .ofNat 0, .ofNat 0)])
def hka05_757 : ai_V := .inl (true, hka05_756)
/-- NeverAgainModel.in -/
def ka_478 : ai_K := (93, 0, ([hka05_755], [hka05_757, hka05_97, hka05_752, hka05_97, hka05_753, hka05_97], [], hka05_260), [.inl 0], [(some hka05_142, [hka05_755], [])])
def kan_478 : List ai_Nd := []
set_option maxRecDepth 1000000 in
theorem kak_478 : ai_ck [] [] ka_478 [.inl 100000] kan_478 7 = true := by decide +kernel
theorem kah_478 : ai_holds ka_478 := ai_thm kak_478 ai_nil
def hka05_758 : ai_E := [hka05_9, hka05_9]
def hka05_759 : ai_N := (.ofNat 0, .ofNat 3, [(0, .ofNat 0, .ofNat 0)])
def hka05_760 : ai_V := .inl (true, hka05_759)
def hka05_761 : ai_N := (.ofNat 0, .ofNat 3, [(1, .ofNat 0, .ofNat 0)])
def hka05_762 : ai_V := .inl (true, hka05_761)
def hka05_763 : ai_E := [hka05_717, hka05_427]
def hka05_764 : ai_E := [hka05_717, hka05_717]
def hka05_765 : Int × Int := (.ofNat 1, .ofNat 2)
def hka05_766 : Int × Int := (.ofNat 2, .ofNat 3)
def hka05_767 : ai_E := [hka05_765, hka05_766]
def hka05_768 : ai_E := [hka05_133, hka05_717]
/-- NeverAgainModel.in -/
def ka_479 : ai_K := (93, 0, (hka05_758, [hka05_760, hka05_97, hka05_257, hka05_97, hka05_762, hka05_97], [], hka05_260), [.inl 0, .inl 4], [(some hka05_142, hka05_763, []), (some hka05_146, hka05_764, []), (some hka05_146, hka05_767, []), (some hka05_146, hka05_266, []), (some hka05_146, hka05_768, [])])
def kan_479 : List ai_Nd := []
set_option maxRecDepth 1000000 in
theorem kak_479 : ai_ck [] [] ka_479 [.inl 100000] kan_479 12 = true := by decide +kernel
theorem kah_479 : ai_holds ka_479 := ai_thm kak_479 ai_nil
def hka05_769 : ai_E := [hka05_9, hka05_1, hka05_2, hka05_3, hka05_4, hka05_5, hka05_6, hka05_4, hka05_7, hka05_8, hka05_8, hka05_8, hka05_9, hka05_6, hka05_10, hka05_8, hka05_88, hka05_6, hka05_5]
def hka05_770 : ai_V := .inl (false, hka05_759)
def hka05_771 : ai_W := [hka05_16, hka05_16, hka05_16, hka05_16, hka05_16, hka05_16, hka05_16, hka05_16, hka05_16, hka05_16, hka05_16, hka05_16, hka05_16, hka05_16, hka05_16, hka05_16, hka05_16, hka05_16, hka05_16, hka05_16, hka05_16, hka05_16, hka05_16, hka05_16, hka05_16, hka05_16, hka05_16, hka05_16, hka05_16, hka05_16, hka05_16, hka05_16, hka05_16, hka05_16, hka05_16, hka05_16, hka05_16, hka05_16, hka05_16, hka05_16, hka05_16, hka05_16, hka05_16, hka05_16, hka05_16, hka05_16, hka05_16, hka05_16, hka05_16, hka05_16, hka05_16, hka05_16, hka05_16, hka05_16, hka05_16, hka05_16, hka05_16, hka05_16, hka05_16, hka05_101, hka05_16, hka05_16, hka05_16, hka05_16, hka05_16, hka05_16, hka05_16, hka05_16, hka05_16, hka05_16, hka05_16, hka05_16, hka05_16, hka05_16, hka05_16, hka05_16]
def hka05_772 : Int × Int := (.ofNat 2, .ofNat 4)
def hka05_773 : ai_E := [hka05_133, hka05_1, hka05_772, hka05_3, hka05_4, hka05_5, hka05_6, hka05_4, hka05_7, hka05_8, hka05_8, hka05_8, hka05_9, hka05_6, hka05_10, hka05_8, hka05_88, hka05_6, hka05_5]
def hka05_774 : ai_E := [hka05_133, hka05_1, hka05_143, hka05_3, hka05_4, hka05_5, hka05_6, hka05_4, hka05_7, hka05_8, hka05_8, hka05_8, hka05_9, hka05_6, hka05_10, hka05_8, hka05_88, hka05_6, hka05_5]
def hka05_775 : Int × Int := (.ofNat 3, .ofNat 4)
def hka05_776 : ai_E := [hka05_765, hka05_1, hka05_775, hka05_3, hka05_4, hka05_5, hka05_6, hka05_4, hka05_7, hka05_8, hka05_8, hka05_8, hka05_9, hka05_6, hka05_10, hka05_8, hka05_88, hka05_6, hka05_5]
def hka05_777 : ai_E := [hka05_717, hka05_1, hka05_772, hka05_3, hka05_4, hka05_5, hka05_6, hka05_4, hka05_7, hka05_8, hka05_8, hka05_8, hka05_9, hka05_6, hka05_10, hka05_8, hka05_88, hka05_6, hka05_5]
def hka05_778 : ai_E := [hka05_717, hka05_1, hka05_717, hka05_3, hka05_4, hka05_5, hka05_6, hka05_4, hka05_7, hka05_8, hka05_8, hka05_8, hka05_9, hka05_6, hka05_10, hka05_8, hka05_88, hka05_6, hka05_5]
/-- NeverAgainModel.isMatter -/
def ka_480 : ai_K := (100, 1, (hka05_769, [hka05_13, hka05_770], [], hka05_771), [.inl 1, .inr (59, 2), .inr (59, 3), .inr (59, 6), .inr (59, 8), .inr (59, 9), .inr (59, 11), .inr (59, 12), .inr (59, 13), .inr (59, 15), .inr (59, 16), .inr (59, 17), .inr (59, 18), .inr (59, 19), .inr (59, 20), .inr (59, 21), .inr (59, 23), .inr (59, 26), .inr (59, 33)], [(some hka05_146, hka05_773, []), (some hka05_146, hka05_774, []), (some hka05_146, hka05_776, []), (some hka05_146, hka05_777, []), (some hka05_142, hka05_778, [])])
def kan_480 : List ai_Nd := []
set_option maxRecDepth 1000000 in
theorem kak_480 : ai_ck [ka_479] [] ka_480 [.inl 100000] kan_480 11 = true := by decide +kernel
theorem kah_480 : ai_holds ka_480 := ai_thm kak_480 (ai_cons kah_479 ai_nil)
def hka05_779 : ai_W := [hka05_16, hka05_16, hka05_16, hka05_16, hka05_16, hka05_16, hka05_16, hka05_16, hka05_16, hka05_16, hka05_16, hka05_16, hka05_16, hka05_16, hka05_16, hka05_16, hka05_16, hka05_16, hka05_16, hka05_16, hka05_16, hka05_16, hka05_16, hka05_16, hka05_16, hka05_16, hka05_16, hka05_16, hka05_16, hka05_16, hka05_16, hka05_16, hka05_16, hka05_16, hka05_16, hka05_16, hka05_16, hka05_16, hka05_16, hka05_16, hka05_16, hka05_16, hka05_16, hka05_16, hka05_16, hka05_16, hka05_16, hka05_16, hka05_16, hka05_16, hka05_16, hka05_16, hka05_16, hka05_16, hka05_16, hka05_16, hka05_16, hka05_16, hka05_16, hka05_567, hka05_587, hka05_16, hka05_16, hka05_16, hka05_16, hka05_16, hka05_16, hka05_73, hka05_589, hka05_602, hka05_16, hka05_16, hka05_16, hka05_16, hka05_16, hka05_16]
def hka05_780 : ai_N := (.ofNat 0, .ofNat 60, [(18, .ofNat 0, .ofNat 60)])
def hka05_781 : ai_V := .inl (false, hka05_780)
def hka05_782 : ai_C := .inr (.inr (8, [hka05_17, hka05_18, hka05_292, hka05_294, hka05_23, hka05_24, hka05_541, hka05_27, hka05_543, hka05_545, hka05_32, hka05_177, hka05_547, hka05_549, hka05_39, hka05_551, hka05_41, hka05_43, hka05_553, hka05_555, hka05_557, hka05_559, hka05_54, hka05_781, hka05_57, hka05_58, hka05_652, hka05_61, hka05_62, hka05_63, hka05_64, hka05_65, hka05_66, hka05_565]))
def hka05_783 : ai_N := (.ofNat 1, .ofNat 61, [(18, .ofNat 0, .ofNat 61)])
def hka05_784 : ai_V := .inl (false, hka05_783)
def hka05_785 : ai_C := .inr (.inr (8, [hka05_17, hka05_18, hka05_292, hka05_294, hka05_23, hka05_24, hka05_541, hka05_27, hka05_543, hka05_545, hka05_32, hka05_177, hka05_547, hka05_549, hka05_39, hka05_551, hka05_41, hka05_43, hka05_553, hka05_555, hka05_557, hka05_559, hka05_54, hka05_784, hka05_57, hka05_58, hka05_344, hka05_61, hka05_62, hka05_63, hka05_64, hka05_65, hka05_66, hka05_565]))
/-- NeverAgainModel.findRuled -/
def ka_481 : ai_K := (127, 4, (hka05_539, [hka05_13, hka05_146, hka05_97, hka05_97], [], hka05_779), [.inr (59, 2), .inr (59, 3), .inr (59, 6), .inr (59, 8), .inr (59, 9), .inr (59, 11), .inr (59, 12), .inr (59, 13), .inr (59, 15), .inr (59, 16), .inr (59, 17), .inr (59, 18), .inr (59, 19), .inr (59, 20), .inr (59, 21), .inr (59, 23), .inr (59, 26), .inr (59, 33), .inr (60, 0), .inr (60, 78), .inr (60, 79), .inr (60, 80), .inr (60, 81), .inr (60, 87), .inr (60, 96), .inr (60, 174), .inr (60, 175), .inr (60, 176), .inr (60, 177), .inr (60, 183), .inr (60, 192), .inr (60, 270), .inr (60, 271), .inr (60, 272), .inr (60, 273), .inr (60, 279)], [(none, hka05_539, [(59, hka05_782), (67, hka05_72), (69, hka05_601)]), (none, hka05_539, [(59, hka05_785), (67, hka05_72), (69, hka05_601)])])
def hka05_786 : ai_E := [hka05_1, hka05_2, hka05_3, hka05_4, hka05_5, hka05_6, hka05_4, hka05_7, hka05_8, hka05_8, hka05_8, hka05_9, hka05_6, hka05_10, hka05_8, hka05_88, hka05_6, hka05_5, hka05_89, hka05_90, hka05_91, hka05_92, hka05_93, hka05_5, hka05_89, hka05_90, hka05_91, hka05_92, hka05_93, hka05_5, hka05_89, hka05_90, hka05_91, hka05_92, hka05_93, hka05_5, hka05_91]
def hka05_787 : ai_N := (.ofNat 0, .ofNat 1, [(36, .ofNat 0, .ofNat 0)])
def hka05_788 : ai_V := .inl (false, hka05_787)
def hka05_789 : ai_N := (.ofNat 0, .ofNat 61, [(18, .ofNat 0, .ofNat 61), (36, .ofNat 0, .ofNat 60)])
def hka05_790 : ai_V := .inl (false, hka05_789)
def hka05_791 : ai_C := .inr (.inr (8, [hka05_17, hka05_18, hka05_292, hka05_294, hka05_23, hka05_24, hka05_541, hka05_27, hka05_543, hka05_545, hka05_32, hka05_177, hka05_547, hka05_549, hka05_39, hka05_551, hka05_41, hka05_43, hka05_553, hka05_555, hka05_557, hka05_559, hka05_54, hka05_790, hka05_57, hka05_58, hka05_344, hka05_61, hka05_62, hka05_63, hka05_64, hka05_65, hka05_66, hka05_565]))
def hka05_792 : Bool × Option ai_C := (true, some hka05_791)
def hka05_793 : ai_W := [hka05_16, hka05_16, hka05_16, hka05_16, hka05_16, hka05_16, hka05_16, hka05_16, hka05_16, hka05_16, hka05_16, hka05_16, hka05_16, hka05_16, hka05_16, hka05_16, hka05_16, hka05_16, hka05_16, hka05_16, hka05_16, hka05_16, hka05_16, hka05_16, hka05_16, hka05_16, hka05_16, hka05_16, hka05_16, hka05_16, hka05_16, hka05_16, hka05_16, hka05_16, hka05_16, hka05_16, hka05_16, hka05_16, hka05_16, hka05_16, hka05_16, hka05_16, hka05_16, hka05_16, hka05_16, hka05_16, hka05_16, hka05_16, hka05_16, hka05_16, hka05_16, hka05_16, hka05_16, hka05_16, hka05_16, hka05_16, hka05_16, hka05_16, hka05_16, hka05_792, hka05_587, hka05_16, hka05_16, hka05_16, hka05_16, hka05_16, hka05_16, hka05_162, hka05_589, hka05_664, hka05_16, hka05_16, hka05_16, hka05_16, hka05_16, hka05_16]
def kan_481 : List ai_Nd := [(11, (hka05_786, [hka05_13, hka05_146, hka05_788, hka05_97], [], hka05_793), [.inl 2], [.inl 99988, .inl 1, .inr (true, .ofNat 1, 36), .inl 100000])]
set_option maxRecDepth 1000000 in
theorem kak_481 : ai_ck [ka_407, ka_380, ka_398] [] ka_481 [.inl 100000, .inl 0, .inl 0, .inl 0] kan_481 35 = true := by decide +kernel
theorem kah_481 : ai_holds ka_481 := ai_thm kak_481 (ai_cons kah_407 (ai_cons kah_380 (ai_cons kah_398 ai_nil)))
def hka05_794 : ai_N := (.ofNat 0, .ofNat 61, [(18, .ofNat 0, .ofNat 61)])
def hka05_795 : ai_V := .inl (false, hka05_794)
def hka05_796 : ai_C := .inr (.inr (8, [hka05_17, hka05_18, hka05_292, hka05_294, hka05_23, hka05_24, hka05_541, hka05_27, hka05_543, hka05_545, hka05_32, hka05_177, hka05_547, hka05_549, hka05_39, hka05_551, hka05_41, hka05_43, hka05_553, hka05_555, hka05_557, hka05_559, hka05_54, hka05_795, hka05_57, hka05_58, hka05_652, hka05_61, hka05_62, hka05_63, hka05_64, hka05_65, hka05_66, hka05_565]))
def hka05_797 : ai_N := (.ofNat 2, .ofNat 62, [(18, .ofNat 0, .ofNat 62)])
def hka05_798 : ai_V := .inl (false, hka05_797)
def hka05_799 : ai_C := .inr (.inr (8, [hka05_17, hka05_18, hka05_292, hka05_294, hka05_23, hka05_24, hka05_541, hka05_27, hka05_543, hka05_545, hka05_32, hka05_177, hka05_547, hka05_549, hka05_39, hka05_551, hka05_41, hka05_43, hka05_553, hka05_555, hka05_557, hka05_559, hka05_54, hka05_798, hka05_57, hka05_58, hka05_344, hka05_61, hka05_62, hka05_63, hka05_64, hka05_65, hka05_66, hka05_565]))
/-- NeverAgainModel.findRuled -/
def ka_482 : ai_K := (127, 4, (hka05_539, [hka05_13, hka05_426, hka05_97, hka05_97], [], hka05_779), [.inr (59, 2), .inr (59, 3), .inr (59, 6), .inr (59, 8), .inr (59, 9), .inr (59, 11), .inr (59, 12), .inr (59, 13), .inr (59, 15), .inr (59, 16), .inr (59, 17), .inr (59, 18), .inr (59, 19), .inr (59, 20), .inr (59, 21), .inr (59, 23), .inr (59, 26), .inr (59, 33), .inr (60, 0), .inr (60, 78), .inr (60, 79), .inr (60, 80), .inr (60, 81), .inr (60, 87), .inr (60, 96), .inr (60, 174), .inr (60, 175), .inr (60, 176), .inr (60, 177), .inr (60, 183), .inr (60, 192), .inr (60, 270), .inr (60, 271), .inr (60, 272), .inr (60, 273), .inr (60, 279)], [(none, hka05_539, [(59, hka05_796), (67, hka05_72), (69, hka05_601)]), (none, hka05_539, [(59, hka05_799), (67, hka05_72), (69, hka05_601)])])
def hka05_800 : ai_E := [hka05_1, hka05_2, hka05_3, hka05_4, hka05_5, hka05_6, hka05_4, hka05_7, hka05_8, hka05_8, hka05_8, hka05_9, hka05_6, hka05_10, hka05_8, hka05_88, hka05_6, hka05_5, hka05_89, hka05_90, hka05_91, hka05_92, hka05_93, hka05_5, hka05_89, hka05_90, hka05_91, hka05_92, hka05_93, hka05_5, hka05_89, hka05_90, hka05_91, hka05_92, hka05_93, hka05_5, hka05_427]
def hka05_801 : ai_N := (.ofNat 0, .ofNat 2, [(36, .ofNat 0, .ofNat 0)])
def hka05_802 : ai_V := .inl (false, hka05_801)
def hka05_803 : ai_N := (.ofNat 0, .ofNat 62, [(18, .ofNat 0, .ofNat 62), (36, .ofNat 0, .ofNat 60)])
def hka05_804 : ai_V := .inl (false, hka05_803)
def hka05_805 : ai_C := .inr (.inr (8, [hka05_17, hka05_18, hka05_292, hka05_294, hka05_23, hka05_24, hka05_541, hka05_27, hka05_543, hka05_545, hka05_32, hka05_177, hka05_547, hka05_549, hka05_39, hka05_551, hka05_41, hka05_43, hka05_553, hka05_555, hka05_557, hka05_559, hka05_54, hka05_804, hka05_57, hka05_58, hka05_344, hka05_61, hka05_62, hka05_63, hka05_64, hka05_65, hka05_66, hka05_565]))
def hka05_806 : Bool × Option ai_C := (true, some hka05_805)
def hka05_807 : ai_W := [hka05_16, hka05_16, hka05_16, hka05_16, hka05_16, hka05_16, hka05_16, hka05_16, hka05_16, hka05_16, hka05_16, hka05_16, hka05_16, hka05_16, hka05_16, hka05_16, hka05_16, hka05_16, hka05_16, hka05_16, hka05_16, hka05_16, hka05_16, hka05_16, hka05_16, hka05_16, hka05_16, hka05_16, hka05_16, hka05_16, hka05_16, hka05_16, hka05_16, hka05_16, hka05_16, hka05_16, hka05_16, hka05_16, hka05_16, hka05_16, hka05_16, hka05_16, hka05_16, hka05_16, hka05_16, hka05_16, hka05_16, hka05_16, hka05_16, hka05_16, hka05_16, hka05_16, hka05_16, hka05_16, hka05_16, hka05_16, hka05_16, hka05_16, hka05_16, hka05_806, hka05_587, hka05_16, hka05_16, hka05_16, hka05_16, hka05_16, hka05_16, hka05_162, hka05_589, hka05_664, hka05_16, hka05_16, hka05_16, hka05_16, hka05_16, hka05_16]
def kan_482 : List ai_Nd := [(11, (hka05_800, [hka05_13, hka05_426, hka05_802, hka05_97], [], hka05_807), [.inl 2], [.inl 99988, .inl 1, .inr (true, .ofNat 2, 36), .inl 100000])]
set_option maxRecDepth 1000000 in
theorem kak_482 : ai_ck [ka_408, ka_380, ka_398] [] ka_482 [.inl 100000, .inl 0, .inl 0, .inl 0] kan_482 35 = true := by decide +kernel
theorem kah_482 : ai_holds ka_482 := ai_thm kak_482 (ai_cons kah_408 (ai_cons kah_380 (ai_cons kah_398 ai_nil)))
def hka05_808 : ai_N := (.ofNat 0, .ofNat 62, [(18, .ofNat 0, .ofNat 62)])
def hka05_809 : ai_V := .inl (false, hka05_808)
def hka05_810 : ai_C := .inr (.inr (8, [hka05_17, hka05_18, hka05_292, hka05_294, hka05_23, hka05_24, hka05_541, hka05_27, hka05_543, hka05_545, hka05_32, hka05_177, hka05_547, hka05_549, hka05_39, hka05_551, hka05_41, hka05_43, hka05_553, hka05_555, hka05_557, hka05_559, hka05_54, hka05_809, hka05_57, hka05_58, hka05_652, hka05_61, hka05_62, hka05_63, hka05_64, hka05_65, hka05_66, hka05_565]))
def hka05_811 : ai_N := (.ofNat 3, .ofNat 63, [(18, .ofNat 0, .ofNat 63)])
def hka05_812 : ai_V := .inl (false, hka05_811)
def hka05_813 : ai_C := .inr (.inr (8, [hka05_17, hka05_18, hka05_292, hka05_294, hka05_23, hka05_24, hka05_541, hka05_27, hka05_543, hka05_545, hka05_32, hka05_177, hka05_547, hka05_549, hka05_39, hka05_551, hka05_41, hka05_43, hka05_553, hka05_555, hka05_557, hka05_559, hka05_54, hka05_812, hka05_57, hka05_58, hka05_344, hka05_61, hka05_62, hka05_63, hka05_64, hka05_65, hka05_66, hka05_565]))
/-- NeverAgainModel.findRuled -/
def ka_483 : ai_K := (127, 4, (hka05_539, [hka05_13, hka05_408, hka05_97, hka05_97], [], hka05_779), [.inr (59, 2), .inr (59, 3), .inr (59, 6), .inr (59, 8), .inr (59, 9), .inr (59, 11), .inr (59, 12), .inr (59, 13), .inr (59, 15), .inr (59, 16), .inr (59, 17), .inr (59, 18), .inr (59, 19), .inr (59, 20), .inr (59, 21), .inr (59, 23), .inr (59, 26), .inr (59, 33), .inr (60, 0), .inr (60, 78), .inr (60, 79), .inr (60, 80), .inr (60, 81), .inr (60, 87), .inr (60, 96), .inr (60, 174), .inr (60, 175), .inr (60, 176), .inr (60, 177), .inr (60, 183), .inr (60, 192), .inr (60, 270), .inr (60, 271), .inr (60, 272), .inr (60, 273), .inr (60, 279)], [(none, hka05_539, [(59, hka05_810), (67, hka05_72), (69, hka05_601)]), (none, hka05_539, [(59, hka05_813), (67, hka05_72), (69, hka05_601)])])
def hka05_814 : ai_E := [hka05_1, hka05_2, hka05_3, hka05_4, hka05_5, hka05_6, hka05_4, hka05_7, hka05_8, hka05_8, hka05_8, hka05_9, hka05_6, hka05_10, hka05_8, hka05_88, hka05_6, hka05_5, hka05_89, hka05_90, hka05_91, hka05_92, hka05_93, hka05_5, hka05_89, hka05_90, hka05_91, hka05_92, hka05_93, hka05_5, hka05_89, hka05_90, hka05_91, hka05_92, hka05_93, hka05_5, hka05_9]
def hka05_815 : ai_N := (.ofNat 0, .ofNat 3, [(36, .ofNat 0, .ofNat 0)])
def hka05_816 : ai_V := .inl (false, hka05_815)
def hka05_817 : ai_N := (.ofNat 0, .ofNat 63, [(18, .ofNat 0, .ofNat 63), (36, .ofNat 0, .ofNat 60)])
def hka05_818 : ai_V := .inl (false, hka05_817)
def hka05_819 : ai_C := .inr (.inr (8, [hka05_17, hka05_18, hka05_292, hka05_294, hka05_23, hka05_24, hka05_541, hka05_27, hka05_543, hka05_545, hka05_32, hka05_177, hka05_547, hka05_549, hka05_39, hka05_551, hka05_41, hka05_43, hka05_553, hka05_555, hka05_557, hka05_559, hka05_54, hka05_818, hka05_57, hka05_58, hka05_344, hka05_61, hka05_62, hka05_63, hka05_64, hka05_65, hka05_66, hka05_565]))
def hka05_820 : Bool × Option ai_C := (true, some hka05_819)
def hka05_821 : ai_W := [hka05_16, hka05_16, hka05_16, hka05_16, hka05_16, hka05_16, hka05_16, hka05_16, hka05_16, hka05_16, hka05_16, hka05_16, hka05_16, hka05_16, hka05_16, hka05_16, hka05_16, hka05_16, hka05_16, hka05_16, hka05_16, hka05_16, hka05_16, hka05_16, hka05_16, hka05_16, hka05_16, hka05_16, hka05_16, hka05_16, hka05_16, hka05_16, hka05_16, hka05_16, hka05_16, hka05_16, hka05_16, hka05_16, hka05_16, hka05_16, hka05_16, hka05_16, hka05_16, hka05_16, hka05_16, hka05_16, hka05_16, hka05_16, hka05_16, hka05_16, hka05_16, hka05_16, hka05_16, hka05_16, hka05_16, hka05_16, hka05_16, hka05_16, hka05_16, hka05_820, hka05_587, hka05_16, hka05_16, hka05_16, hka05_16, hka05_16, hka05_16, hka05_162, hka05_589, hka05_664, hka05_16, hka05_16, hka05_16, hka05_16, hka05_16, hka05_16]
def kan_483 : List ai_Nd := [(11, (hka05_814, [hka05_13, hka05_408, hka05_816, hka05_97], [], hka05_821), [.inl 2], [.inl 99988, .inl 1, .inr (true, .ofNat 3, 36), .inl 100000])]
set_option maxRecDepth 1000000 in
theorem kak_483 : ai_ck [ka_422, ka_380, ka_398] [] ka_483 [.inl 100000, .inl 0, .inl 0, .inl 0] kan_483 35 = true := by decide +kernel
theorem kah_483 : ai_holds ka_483 := ai_thm kak_483 (ai_cons kah_422 (ai_cons kah_380 (ai_cons kah_398 ai_nil)))
def hka05_822 : ai_E := [hka05_6, hka05_6, hka05_1, hka05_2, hka05_3, hka05_4, hka05_5, hka05_6, hka05_4, hka05_7, hka05_8, hka05_8, hka05_8, hka05_9, hka05_6, hka05_10, hka05_8, hka05_88, hka05_6, hka05_5, hka05_89, hka05_90, hka05_91, hka05_92, hka05_93, hka05_5, hka05_89, hka05_90, hka05_91, hka05_92, hka05_93, hka05_5, hka05_89, hka05_90, hka05_91, hka05_92, hka05_93, hka05_5]
def hka05_823 : ai_N := (.ofNat 4, .ofNat 16, [(2, .ofNat 0, .ofNat 0)])
def hka05_824 : ai_V := .inl (false, hka05_823)
def hka05_825 : ai_N := (.ofNat 1, .ofNat 4, [(3, .ofNat 0, .ofNat 0)])
def hka05_826 : ai_V := .inl (false, hka05_825)
def hka05_827 : ai_N := (.ofNat 0, .ofNat 12, [(4, .ofNat 0, .ofNat 0)])
def hka05_828 : ai_V := .inl (false, hka05_827)
def hka05_829 : ai_N := (.ofNat 0, .ofNat 16, [(5, .ofNat 0, .ofNat 0)])
def hka05_830 : ai_V := .inl (false, hka05_829)
def hka05_831 : ai_N := (.ofNat 0, .ofNat 4, [(6, .ofNat 0, .ofNat 0)])
def hka05_832 : ai_V := .inl (false, hka05_831)
def hka05_833 : ai_N := (.ofNat 0, .ofNat 16, [(8, .ofNat 0, .ofNat 0)])
def hka05_834 : ai_V := .inl (false, hka05_833)
def hka05_835 : ai_N := (.negSucc 3, .ofNat 3, [(9, .ofNat 0, .ofNat 0)])
def hka05_836 : ai_V := .inl (false, hka05_835)
def hka05_837 : ai_N := (.ofNat 0, .ofNat 400, [(12, .ofNat 0, .ofNat 0)])
def hka05_838 : ai_V := .inl (false, hka05_837)
def hka05_839 : ai_N := (.ofNat 0, .ofNat 3, [(13, .ofNat 0, .ofNat 0)])
def hka05_840 : ai_V := .inl (false, hka05_839)
def hka05_841 : ai_N := (.ofNat 0, .ofNat 6, [(15, .ofNat 0, .ofNat 0)])
def hka05_842 : ai_V := .inl (false, hka05_841)
def hka05_843 : ai_N := (.ofNat 0, .ofNat 400, [(16, .ofNat 0, .ofNat 0)])
def hka05_844 : ai_V := .inl (false, hka05_843)
def hka05_845 : ai_N := (.ofNat 0, .ofNat 130, [(17, .ofNat 0, .ofNat 0)])
def hka05_846 : ai_V := .inl (false, hka05_845)
def hka05_847 : ai_N := (.negSucc 2147483647, .ofNat 2147483647, [(18, .ofNat 0, .ofNat 0)])
def hka05_848 : ai_V := .inl (false, hka05_847)
def hka05_849 : ai_N := (.ofNat 0, .ofNat 4, [(19, .ofNat 0, .ofNat 0)])
def hka05_850 : ai_V := .inl (false, hka05_849)
def hka05_851 : ai_C := .inr (.inr (8, [hka05_17, hka05_18, hka05_824, hka05_826, hka05_23, hka05_24, hka05_828, hka05_27, hka05_830, hka05_832, hka05_32, hka05_221, hka05_834, hka05_836, hka05_39, hka05_43, hka05_45, hka05_838, hka05_840, hka05_514, hka05_842, hka05_844, hka05_54, hka05_846, hka05_57, hka05_58, hka05_848, hka05_61, hka05_62, hka05_63, hka05_64, hka05_65, hka05_66, hka05_850]))
def hka05_852 : Bool × Option ai_C := (false, some hka05_851)
def hka05_853 : ai_N := (.ofNat 0, .ofNat 60, [(20, .ofNat 0, .ofNat 0)])
def hka05_854 : ai_N := (.ofNat 0, .ofNat 20, [(21, .ofNat 0, .ofNat 0)])
def hka05_855 : ai_N := (.ofNat 0, .ofNat 1, [(22, .ofNat 0, .ofNat 0)])
def hka05_856 : ai_N := (.negSucc 3, .ofNat 2, [(23, .ofNat 0, .ofNat 0)])
def hka05_857 : ai_N := (.ofNat 0, .ofNat 5, [(24, .ofNat 0, .ofNat 0)])
def hka05_858 : ai_N := (.ofNat 0, .ofNat 4, [(25, .ofNat 0, .ofNat 0)])
def hka05_859 : ai_N := (.ofNat 0, .ofNat 60, [(26, .ofNat 0, .ofNat 0)])
def hka05_860 : ai_N := (.ofNat 0, .ofNat 20, [(27, .ofNat 0, .ofNat 0)])
def hka05_861 : ai_N := (.ofNat 0, .ofNat 1, [(28, .ofNat 0, .ofNat 0)])
def hka05_862 : ai_N := (.negSucc 3, .ofNat 2, [(29, .ofNat 0, .ofNat 0)])
def hka05_863 : ai_N := (.ofNat 0, .ofNat 5, [(30, .ofNat 0, .ofNat 0)])
def hka05_864 : ai_N := (.ofNat 0, .ofNat 4, [(31, .ofNat 0, .ofNat 0)])
def hka05_865 : ai_N := (.ofNat 0, .ofNat 60, [(32, .ofNat 0, .ofNat 0)])
def hka05_866 : ai_N := (.ofNat 0, .ofNat 20, [(33, .ofNat 0, .ofNat 0)])
def hka05_867 : ai_N := (.ofNat 0, .ofNat 1, [(34, .ofNat 0, .ofNat 0)])
def hka05_868 : ai_N := (.negSucc 3, .ofNat 2, [(35, .ofNat 0, .ofNat 0)])
def hka05_869 : ai_N := (.ofNat 0, .ofNat 4, [(37, .ofNat 0, .ofNat 0)])
def hka05_870 : ai_C := .inl (.int, [(1, hka05_853), (60, hka05_103), (17, hka05_104), (1, hka05_854), (1, hka05_855), (1, hka05_856), (1, hka05_857), (5, hka05_109), (1, hka05_858), (8, hka05_111), (1, hka05_859), (60, hka05_103), (17, hka05_104), (1, hka05_860), (1, hka05_861), (1, hka05_862), (1, hka05_863), (5, hka05_109), (1, hka05_864), (8, hka05_111), (1, hka05_865), (60, hka05_103), (17, hka05_104), (1, hka05_866), (1, hka05_867), (1, hka05_868), (1, hka05_592), (5, hka05_109), (1, hka05_869), (8, hka05_111)])
def hka05_871 : Bool × Option ai_C := (false, some hka05_870)
def hka05_872 : ai_W := [hka05_16, hka05_16, hka05_16, hka05_16, hka05_16, hka05_16, hka05_16, hka05_16, hka05_16, hka05_16, hka05_16, hka05_16, hka05_16, hka05_16, hka05_16, hka05_16, hka05_16, hka05_16, hka05_16, hka05_16, hka05_16, hka05_16, hka05_16, hka05_16, hka05_16, hka05_16, hka05_16, hka05_16, hka05_16, hka05_16, hka05_16, hka05_16, hka05_16, hka05_16, hka05_16, hka05_16, hka05_16, hka05_16, hka05_16, hka05_16, hka05_16, hka05_16, hka05_16, hka05_16, hka05_16, hka05_16, hka05_16, hka05_16, hka05_16, hka05_16, hka05_16, hka05_16, hka05_16, hka05_16, hka05_16, hka05_16, hka05_16, hka05_16, hka05_16, hka05_852, hka05_871, hka05_16, hka05_16, hka05_16, hka05_16, hka05_16, hka05_16, hka05_73, hka05_589, hka05_602, hka05_16, hka05_16, hka05_16, hka05_16, hka05_16, hka05_16]
def hka05_873 : ai_E := [hka05_717, hka05_91, hka05_1, hka05_2, hka05_3, hka05_4, hka05_5, hka05_6, hka05_4, hka05_7, hka05_8, hka05_8, hka05_8, hka05_9, hka05_6, hka05_10, hka05_8, hka05_88, hka05_6, hka05_5, hka05_89, hka05_90, hka05_91, hka05_92, hka05_93, hka05_5, hka05_89, hka05_90, hka05_91, hka05_92, hka05_93, hka05_5, hka05_89, hka05_90, hka05_91, hka05_92, hka05_93, hka05_5]
def hka05_874 : ai_C := .inr (.inr (8, [hka05_17, hka05_18, hka05_824, hka05_826, hka05_23, hka05_24, hka05_828, hka05_27, hka05_830, hka05_832, hka05_32, hka05_221, hka05_834, hka05_836, hka05_39, hka05_43, hka05_45, hka05_838, hka05_840, hka05_514, hka05_842, hka05_844, hka05_54, hka05_621, hka05_57, hka05_58, hka05_344, hka05_61, hka05_62, hka05_63, hka05_64, hka05_65, hka05_66, hka05_850]))
/-- NeverAgainModel.worst -/
def ka_484 : ai_K := (54, 5, (hka05_822, [hka05_13, hka05_96, hka05_486, hka05_97, hka05_97, hka05_97, hka05_97, hka05_97, hka05_97, hka05_97], [], hka05_872), [.inl 1, .inl 2, .inr (59, 2), .inr (59, 3), .inr (59, 6), .inr (59, 8), .inr (59, 9), .inr (59, 11), .inr (59, 12), .inr (59, 13), .inr (59, 15), .inr (59, 16), .inr (59, 17), .inr (59, 18), .inr (59, 19), .inr (59, 20), .inr (59, 21), .inr (59, 23), .inr (59, 26), .inr (59, 33), .inr (60, 0), .inr (60, 78), .inr (60, 79), .inr (60, 80), .inr (60, 81), .inr (60, 87), .inr (60, 96), .inr (60, 174), .inr (60, 175), .inr (60, 176), .inr (60, 177), .inr (60, 183), .inr (60, 192), .inr (60, 270), .inr (60, 271), .inr (60, 272), .inr (60, 273), .inr (60, 279)], [(some hka05_130, hka05_822, []), (some hka05_148, hka05_873, [(59, hka05_874), (67, hka05_72), (68, hka05_588), (69, hka05_601)]), (some hka05_716, hka05_873, [(59, hka05_874), (67, hka05_72), (68, hka05_588), (69, hka05_601)])])
def hka05_875 : Int × Int := (.ofNat 0, .ofNat 65)
def hka05_876 : ai_E := [hka05_719, hka05_91, hka05_1, hka05_2, hka05_3, hka05_4, hka05_5, hka05_6, hka05_4, hka05_7, hka05_8, hka05_8, hka05_8, hka05_9, hka05_6, hka05_10, hka05_8, hka05_88, hka05_6, hka05_5, hka05_89, hka05_90, hka05_91, hka05_92, hka05_93, hka05_5, hka05_89, hka05_90, hka05_91, hka05_92, hka05_93, hka05_5, hka05_89, hka05_90, hka05_91, hka05_92, hka05_93, hka05_5, hka05_875]
def hka05_877 : ai_N := (.ofNat 0, .ofNat 65, [(38, .ofNat 0, .ofNat 0)])
def hka05_878 : ai_V := .inl (false, hka05_877)
def hka05_879 : Bool × Option ai_C := (true, some hka05_874)
def hka05_880 : ai_W := [hka05_16, hka05_16, hka05_16, hka05_16, hka05_16, hka05_16, hka05_16, hka05_16, hka05_16, hka05_16, hka05_16, hka05_16, hka05_16, hka05_16, hka05_16, hka05_16, hka05_16, hka05_16, hka05_16, hka05_16, hka05_16, hka05_16, hka05_16, hka05_16, hka05_16, hka05_16, hka05_16, hka05_16, hka05_16, hka05_16, hka05_16, hka05_16, hka05_16, hka05_16, hka05_16, hka05_16, hka05_16, hka05_16, hka05_16, hka05_16, hka05_16, hka05_16, hka05_16, hka05_16, hka05_16, hka05_16, hka05_16, hka05_16, hka05_16, hka05_16, hka05_16, hka05_16, hka05_16, hka05_16, hka05_16, hka05_16, hka05_16, hka05_16, hka05_16, hka05_879, hka05_871, hka05_16, hka05_16, hka05_16, hka05_16, hka05_16, hka05_16, hka05_162, hka05_594, hka05_664, hka05_16, hka05_16, hka05_16, hka05_16, hka05_16, hka05_16]
def kad_484_0 : ai_Nd := (41, (hka05_876, [hka05_13, hka05_723, hka05_725, hka05_727, hka05_716, hka05_729, hka05_878, hka05_97, hka05_97, hka05_97], [], hka05_880), [.inl 6], [.inl 99958, .inl 1, .inr (true, .ofNat 65, 38), .inl 100000, .inl 0, .inl 0, .inl 0])
def hka05_881 : Int × Int := (.ofNat 0, .ofNat 17)
def hka05_882 : ai_E := [hka05_735, hka05_91, hka05_1, hka05_2, hka05_3, hka05_4, hka05_5, hka05_6, hka05_4, hka05_7, hka05_8, hka05_8, hka05_8, hka05_9, hka05_6, hka05_10, hka05_8, hka05_88, hka05_6, hka05_5, hka05_89, hka05_90, hka05_91, hka05_92, hka05_93, hka05_5, hka05_89, hka05_90, hka05_91, hka05_92, hka05_93, hka05_5, hka05_89, hka05_90, hka05_91, hka05_92, hka05_93, hka05_5, hka05_881]
def hka05_883 : ai_N := (.ofNat 0, .ofNat 17, [(38, .ofNat 0, .ofNat 0)])
def hka05_884 : ai_V := .inl (false, hka05_883)
def kad_484_1 : ai_Nd := (41, (hka05_882, [hka05_13, hka05_738, hka05_725, hka05_740, hka05_716, hka05_605, hka05_884, hka05_97, hka05_97, hka05_97], [], hka05_880), [.inl 6], [.inl 99958, .inl 1, .inr (true, .ofNat 65, 38), .inl 100000, .inl 0, .inl 0, .inl 0])
def hka05_885 : ai_E := [hka05_143, hka05_91, hka05_1, hka05_2, hka05_3, hka05_4, hka05_5, hka05_6, hka05_4, hka05_7, hka05_8, hka05_8, hka05_8, hka05_9, hka05_6, hka05_10, hka05_8, hka05_88, hka05_6, hka05_5, hka05_89, hka05_90, hka05_91, hka05_92, hka05_93, hka05_5, hka05_89, hka05_90, hka05_91, hka05_92, hka05_93, hka05_5, hka05_89, hka05_90, hka05_91, hka05_92, hka05_93, hka05_5, hka05_5]
def hka05_886 : ai_N := (.negSucc 3, .ofNat 4, [])
def hka05_887 : ai_V := .inl (false, hka05_886)
def hka05_888 : ai_N := (.ofNat 0, .ofNat 4, [(38, .ofNat 0, .ofNat 0)])
def hka05_889 : ai_V := .inl (false, hka05_888)
def kad_484_2 : ai_Nd := (41, (hka05_885, [hka05_13, hka05_745, hka05_725, hka05_378, hka05_716, hka05_887, hka05_889, hka05_97, hka05_97, hka05_97], [], hka05_880), [.inl 6], [.inl 99958, .inl 1, .inr (true, .ofNat 65, 38), .inl 100000, .inl 0, .inl 0, .inl 0])
def hka05_890 : ai_E := [hka05_719, hka05_91, hka05_1, hka05_2, hka05_3, hka05_4, hka05_5, hka05_6, hka05_4, hka05_7, hka05_8, hka05_8, hka05_8, hka05_9, hka05_6, hka05_10, hka05_8, hka05_88, hka05_6, hka05_5, hka05_89, hka05_90, hka05_91, hka05_92, hka05_93, hka05_5, hka05_89, hka05_90, hka05_91, hka05_92, hka05_93, hka05_5, hka05_89, hka05_90, hka05_91, hka05_92, hka05_93, hka05_5, hka05_9, hka05_720]
def hka05_891 : ai_N := (.ofNat 0, .ofNat 64, [(39, .ofNat 0, .ofNat 0)])
def hka05_892 : ai_V := .inl (false, hka05_891)
def hka05_893 : ai_N := (.ofNat 0, .ofNat 3, [(38, .ofNat 0, .ofNat 0)])
def hka05_894 : ai_V := .inl (false, hka05_893)
def kad_484_3 : ai_Nd := (53, (hka05_890, [hka05_13, hka05_723, hka05_725, hka05_727, hka05_716, hka05_729, hka05_892, hka05_630, hka05_894, hka05_97], [], hka05_880), [.inl 8, .inl 6], [.inl 99958, .inl 1, .inr (true, .ofNat 65, 39), .inl 99946, .inl 1, .inr (true, .ofNat 3, 38), .inl 100000])
def hka05_895 : ai_E := [hka05_735, hka05_91, hka05_1, hka05_2, hka05_3, hka05_4, hka05_5, hka05_6, hka05_4, hka05_7, hka05_8, hka05_8, hka05_8, hka05_9, hka05_6, hka05_10, hka05_8, hka05_88, hka05_6, hka05_5, hka05_89, hka05_90, hka05_91, hka05_92, hka05_93, hka05_5, hka05_89, hka05_90, hka05_91, hka05_92, hka05_93, hka05_5, hka05_89, hka05_90, hka05_91, hka05_92, hka05_93, hka05_5, hka05_427, hka05_4]
def hka05_896 : ai_N := (.ofNat 0, .ofNat 16, [(39, .ofNat 0, .ofNat 0)])
def hka05_897 : ai_V := .inl (false, hka05_896)
def hka05_898 : ai_N := (.ofNat 0, .ofNat 2, [(38, .ofNat 0, .ofNat 0)])
def hka05_899 : ai_V := .inl (false, hka05_898)
def kad_484_4 : ai_Nd := (53, (hka05_895, [hka05_13, hka05_738, hka05_725, hka05_740, hka05_716, hka05_605, hka05_897, hka05_630, hka05_899, hka05_97], [], hka05_880), [.inl 8, .inl 6], [.inl 99958, .inl 1, .inr (true, .ofNat 65, 39), .inl 99946, .inl 1, .inr (true, .ofNat 3, 38), .inl 100000])
def hka05_900 : ai_E := [hka05_143, hka05_91, hka05_1, hka05_2, hka05_3, hka05_4, hka05_5, hka05_6, hka05_4, hka05_7, hka05_8, hka05_8, hka05_8, hka05_9, hka05_6, hka05_10, hka05_8, hka05_88, hka05_6, hka05_5, hka05_89, hka05_90, hka05_91, hka05_92, hka05_93, hka05_5, hka05_89, hka05_90, hka05_91, hka05_92, hka05_93, hka05_5, hka05_89, hka05_90, hka05_91, hka05_92, hka05_93, hka05_5, hka05_91, hka05_9]
def hka05_901 : ai_N := (.ofNat 0, .ofNat 3, [(39, .ofNat 0, .ofNat 0)])
def hka05_902 : ai_V := .inl (false, hka05_901)
def hka05_903 : ai_N := (.ofNat 0, .ofNat 1, [(38, .ofNat 0, .ofNat 0)])
def hka05_904 : ai_V := .inl (false, hka05_903)
def kad_484_5 : ai_Nd := (53, (hka05_900, [hka05_13, hka05_745, hka05_725, hka05_378, hka05_716, hka05_887, hka05_902, hka05_630, hka05_904, hka05_97], [], hka05_880), [.inl 8, .inl 6], [.inl 99958, .inl 1, .inr (true, .ofNat 65, 39), .inl 99946, .inl 1, .inr (true, .ofNat 3, 38), .inl 100000])
def kan_484 : List ai_Nd := [kad_484_0, kad_484_1, kad_484_2, kad_484_3, kad_484_4, kad_484_5]
set_option maxRecDepth 1000000 in
theorem kav_484 : ai_ckv ka_484 [.inl 100000, .inl 0, .inl 0, .inl 0, .inl 0, .inl 0, .inl 0] kan_484 = true := by decide +kernel
set_option maxRecDepth 1000000 in
theorem kak_484_5 : ai_ckn [ka_480, ka_475, ka_476, ka_477, ka_474, ka_478, ka_363, ka_481, ka_482, ka_483, ka_456] [(0, .inl 1, [.ofNat 1, .ofNat 2, .ofNat 3, .ofNat 4])] ka_484 [.inl 100000, .inl 0, .inl 0, .inl 0, .inl 0, .inl 0, .inl 0] kan_484 42 kad_484_5 = true := by decide +kernel
set_option maxRecDepth 1000000 in
theorem kak_484_4 : ai_ckn [ka_480, ka_475, ka_476, ka_477, ka_474, ka_478, ka_363, ka_481, ka_482, ka_483, ka_456] [(0, .inl 1, [.ofNat 1, .ofNat 2, .ofNat 3, .ofNat 4])] ka_484 [.inl 100000, .inl 0, .inl 0, .inl 0, .inl 0, .inl 0, .inl 0] kan_484 42 kad_484_4 = true := by decide +kernel
set_option maxRecDepth 1000000 in
theorem kak_484_3 : ai_ckn [ka_480, ka_475, ka_476, ka_477, ka_474, ka_478, ka_363, ka_481, ka_482, ka_483, ka_456] [(0, .inl 1, [.ofNat 1, .ofNat 2, .ofNat 3, .ofNat 4])] ka_484 [.inl 100000, .inl 0, .inl 0, .inl 0, .inl 0, .inl 0, .inl 0] kan_484 42 kad_484_3 = true := by decide +kernel
set_option maxRecDepth 1000000 in
theorem kak_484_2 : ai_ckn [ka_480, ka_475, ka_476, ka_477, ka_474, ka_478, ka_363, ka_481, ka_482, ka_483, ka_456] [(0, .inl 1, [.ofNat 1, .ofNat 2, .ofNat 3, .ofNat 4])] ka_484 [.inl 100000, .inl 0, .inl 0, .inl 0, .inl 0, .inl 0, .inl 0] kan_484 42 kad_484_2 = true := by decide +kernel
set_option maxRecDepth 1000000 in
theorem kak_484_1 : ai_ckn [ka_480, ka_475, ka_476, ka_477, ka_474, ka_478, ka_363, ka_481, ka_482, ka_483, ka_456] [(0, .inl 1, [.ofNat 1, .ofNat 2, .ofNat 3, .ofNat 4])] ka_484 [.inl 100000, .inl 0, .inl 0, .inl 0, .inl 0, .inl 0, .inl 0] kan_484 42 kad_484_1 = true := by decide +kernel
set_option maxRecDepth 1000000 in
theorem kak_484_0 : ai_ckn [ka_480, ka_475, ka_476, ka_477, ka_474, ka_478, ka_363, ka_481, ka_482, ka_483, ka_456] [(0, .inl 1, [.ofNat 1, .ofNat 2, .ofNat 3, .ofNat 4])] ka_484 [.inl 100000, .inl 0, .inl 0, .inl 0, .inl 0, .inl 0, .inl 0] kan_484 42 kad_484_0 = true := by decide +kernel
set_option maxRecDepth 1000000 in
theorem kak_484_e : ai_ckn [ka_480, ka_475, ka_476, ka_477, ka_474, ka_478, ka_363, ka_481, ka_482, ka_483, ka_456] [(0, .inl 1, [.ofNat 1, .ofNat 2, .ofNat 3, .ofNat 4])] ka_484 [.inl 100000, .inl 0, .inl 0, .inl 0, .inl 0, .inl 0, .inl 0] kan_484 42 (0, ka_484.2.2.1, [], [.inl 100000, .inl 0, .inl 0, .inl 0, .inl 0, .inl 0, .inl 0]) = true := by decide +kernel
theorem kak_484 : ai_ck [ka_480, ka_475, ka_476, ka_477, ka_474, ka_478, ka_363, ka_481, ka_482, ka_483, ka_456] [(0, .inl 1, [.ofNat 1, .ofNat 2, .ofNat 3, .ofNat 4])] ka_484 [.inl 100000, .inl 0, .inl 0, .inl 0, .inl 0, .inl 0, .inl 0] kan_484 42 = true := ai_ck_of rfl kav_484 (List.forall_mem_cons.mpr ⟨kak_484_e, List.forall_mem_cons.mpr ⟨kak_484_0, List.forall_mem_cons.mpr ⟨kak_484_1, List.forall_mem_cons.mpr ⟨kak_484_2, List.forall_mem_cons.mpr ⟨kak_484_3, List.forall_mem_cons.mpr ⟨kak_484_4, List.forall_mem_cons.mpr ⟨kak_484_5, fun _ h => absurd h List.not_mem_nil⟩⟩⟩⟩⟩⟩⟩)
theorem kah_484 : ai_holds ka_484 := ai_thm kak_484 (ai_cons kah_480 (ai_cons kah_475 (ai_cons kah_476 (ai_cons kah_477 (ai_cons kah_474 (ai_cons kah_478 (ai_cons kah_363 (ai_cons kah_481 (ai_cons kah_482 (ai_cons kah_483 (ai_cons kah_456 ai_nil)))))))))))
def hka05_905 : ai_E := [hka05_1, hka05_2, hka05_6, hka05_6, hka05_6, hka05_89, hka05_93, hka05_5]
def hka05_906 : ai_C := .inl (.int, [(4, hka05_186)])
def hka05_907 : Bool × Option ai_C := (false, some hka05_906)
def hka05_908 : ai_W := [hka05_16, hka05_304, hka05_907, hka05_16, hka05_16, hka05_16, hka05_16, hka05_16, hka05_16, hka05_16, hka05_16, hka05_16, hka05_16, hka05_16, hka05_16, hka05_16, hka05_16, hka05_16, hka05_16, hka05_16, hka05_16, hka05_16, hka05_16, hka05_16, hka05_16, hka05_16, hka05_16, hka05_16, hka05_16, hka05_16, hka05_16, hka05_16, hka05_16, hka05_16, hka05_16, hka05_16, hka05_16, hka05_16, hka05_16, hka05_16, hka05_16, hka05_16, hka05_16, hka05_16, hka05_16, hka05_16, hka05_16, hka05_16, hka05_16, hka05_16, hka05_16, hka05_16, hka05_16, hka05_16, hka05_16, hka05_16, hka05_16, hka05_16, hka05_16, hka05_16, hka05_16, hka05_16, hka05_16, hka05_16, hka05_16, hka05_16, hka05_16, hka05_16, hka05_16, hka05_16, hka05_16, hka05_16, hka05_16, hka05_16, hka05_16, hka05_16]
def hka05_909 : ai_N := (.negSucc 9223372036854775807, .ofNat 9223372036854775807, [])
def hka05_910 : ai_V := .inl (true, hka05_909)
/-- NeverAgain$Planner.weightOfRows -/
def ka_485 : ai_K := (130, 0, (hka05_905, [hka05_200, hka05_165, hka05_378, hka05_97, hka05_97, hka05_97, hka05_97, hka05_97], [], hka05_908), [.inr (1, 6), .inr (1, 7), .inr (1, 8), .inr (1, 9), .inr (1, 10), .inr (1, 11), .inr (1, 12), .inr (1, 13)], [(some hka05_910, hka05_905, [])])
def hka05_911 : ai_E := [hka05_1, hka05_2, hka05_6, hka05_6, hka05_6, hka05_89, hka05_93, hka05_5, hka05_5]
def kan_485 : List ai_Nd := [(5, (hka05_911, [hka05_200, hka05_165, hka05_378, hka05_910, hka05_97, hka05_183, hka05_97, hka05_97], [], hka05_908), [.inl 5], [.inl 99994, .inl 1, .inr (true, .ofNat 4, 8), .inl 100000]), (43, (hka05_911, [hka05_200, hka05_165, hka05_378, hka05_910, hka05_97, hka05_910, hka05_97, hka05_183], [], hka05_908), [.inl 7], [.inl 99956, .inl 1, .inr (true, .ofNat 4, 8), .inl 100000])]
set_option maxRecDepth 1000000 in
theorem kak_485 : ai_ck [] [] ka_485 [.inl 100000, .inl 0, .inl 0, .inl 0] kan_485 19 = true := by decide +kernel
theorem kah_485 : ai_holds ka_485 := ai_thm kak_485 ai_nil
/-- NeverAgain$Planner.weightOfRows -/
def ka_486 : ai_K := (130, 0, (hka05_905, [hka05_200, hka05_165, hka05_408, hka05_97, hka05_97, hka05_97, hka05_97, hka05_97], [], hka05_908), [.inr (1, 6), .inr (1, 7), .inr (1, 8), .inr (1, 9), .inr (1, 10), .inr (1, 11), .inr (1, 12), .inr (1, 13)], [(some hka05_910, hka05_905, [])])
def hka05_912 : ai_E := [hka05_1, hka05_2, hka05_6, hka05_6, hka05_6, hka05_89, hka05_93, hka05_5, hka05_9]
def hka05_913 : ai_N := (.ofNat 0, .ofNat 3, [(8, .ofNat 0, .ofNat 0)])
def hka05_914 : ai_V := .inl (false, hka05_913)
def kan_486 : List ai_Nd := [(5, (hka05_911, [hka05_200, hka05_165, hka05_408, hka05_910, hka05_97, hka05_183, hka05_97, hka05_97], [], hka05_908), [.inl 5], [.inl 99994, .inl 1, .inr (true, .ofNat 4, 8), .inl 100000]), (43, (hka05_912, [hka05_200, hka05_165, hka05_408, hka05_910, hka05_97, hka05_910, hka05_97, hka05_914], [], hka05_908), [.inl 7], [.inl 99956, .inl 1, .inr (true, .ofNat 3, 8), .inl 100000])]
set_option maxRecDepth 1000000 in
theorem kak_486 : ai_ck [] [] ka_486 [.inl 100000, .inl 0, .inl 0, .inl 0] kan_486 19 = true := by decide +kernel
theorem kah_486 : ai_holds ka_486 := ai_thm kak_486 ai_nil
/-- NeverAgain$Planner.weightOfRows -/
def ka_490 : ai_K := (130, 0, (hka05_905, [hka05_200, hka05_165, hka05_426, hka05_97, hka05_97, hka05_97, hka05_97, hka05_97], [], hka05_908), [.inr (1, 6), .inr (1, 7), .inr (1, 8), .inr (1, 9), .inr (1, 10), .inr (1, 11), .inr (1, 12), .inr (1, 13)], [(some hka05_910, hka05_905, [])])
def hka05_915 : ai_E := [hka05_1, hka05_2, hka05_6, hka05_6, hka05_6, hka05_89, hka05_93, hka05_5, hka05_427]
def hka05_916 : ai_N := (.ofNat 0, .ofNat 2, [(8, .ofNat 0, .ofNat 0)])
def hka05_917 : ai_V := .inl (false, hka05_916)
def kan_490 : List ai_Nd := [(5, (hka05_911, [hka05_200, hka05_165, hka05_426, hka05_910, hka05_97, hka05_183, hka05_97, hka05_97], [], hka05_908), [.inl 5], [.inl 99994, .inl 1, .inr (true, .ofNat 4, 8), .inl 100000]), (43, (hka05_915, [hka05_200, hka05_165, hka05_426, hka05_910, hka05_97, hka05_910, hka05_97, hka05_917], [], hka05_908), [.inl 7], [.inl 99956, .inl 1, .inr (true, .ofNat 2, 8), .inl 100000])]
set_option maxRecDepth 1000000 in
theorem kak_490 : ai_ck [] [] ka_490 [.inl 100000, .inl 0, .inl 0, .inl 0] kan_490 19 = true := by decide +kernel
theorem kah_490 : ai_holds ka_490 := ai_thm kak_490 ai_nil
/-- NeverAgain$Planner.weightOfRows -/
def ka_491 : ai_K := (130, 0, (hka05_905, [hka05_200, hka05_165, hka05_146, hka05_97, hka05_97, hka05_97, hka05_97, hka05_97], [], hka05_908), [.inr (1, 6), .inr (1, 7), .inr (1, 8), .inr (1, 9), .inr (1, 10), .inr (1, 11), .inr (1, 12), .inr (1, 13)], [(some hka05_910, hka05_905, [])])
def hka05_918 : ai_E := [hka05_1, hka05_2, hka05_6, hka05_6, hka05_6, hka05_89, hka05_93, hka05_5, hka05_91]
def hka05_919 : ai_N := (.ofNat 0, .ofNat 1, [(8, .ofNat 0, .ofNat 0)])
def hka05_920 : ai_V := .inl (false, hka05_919)
def kan_491 : List ai_Nd := [(5, (hka05_911, [hka05_200, hka05_165, hka05_146, hka05_910, hka05_97, hka05_183, hka05_97, hka05_97], [], hka05_908), [.inl 5], [.inl 99994, .inl 1, .inr (true, .ofNat 4, 8), .inl 100000]), (43, (hka05_918, [hka05_200, hka05_165, hka05_146, hka05_910, hka05_97, hka05_910, hka05_97, hka05_920], [], hka05_908), [.inl 7], [.inl 99956, .inl 1, .inr (true, .ofNat 1, 8), .inl 100000])]
set_option maxRecDepth 1000000 in
theorem kak_491 : ai_ck [] [] ka_491 [.inl 100000, .inl 0, .inl 0, .inl 0] kan_491 19 = true := by decide +kernel
theorem kah_491 : ai_holds ka_491 := ai_thm kak_491 ai_nil
/-- NeverAgain$Planner.weightOfRows -/
def ka_492 : ai_K := (130, 0, (hka05_905, [hka05_200, hka05_165, hka05_142, hka05_97, hka05_97, hka05_97, hka05_97, hka05_97], [], hka05_908), [.inr (1, 6), .inr (1, 7), .inr (1, 8), .inr (1, 9), .inr (1, 10), .inr (1, 11), .inr (1, 12), .inr (1, 13)], [(some hka05_752, hka05_905, [])])
def hka05_921 : ai_E := [hka05_1, hka05_2, hka05_6, hka05_6, hka05_6, hka05_89, hka05_93, hka05_5, hka05_133]
def hka05_922 : ai_N := (.ofNat 0, .ofNat 0, [(8, .ofNat 0, .ofNat 0)])
def hka05_923 : ai_V := .inl (false, hka05_922)
def kan_492 : List ai_Nd := [(5, (hka05_911, [hka05_200, hka05_165, hka05_142, hka05_910, hka05_97, hka05_183, hka05_97, hka05_97], [], hka05_908), [.inl 5], [.inl 99994, .inl 1, .inr (true, .ofNat 4, 8), .inl 100000]), (43, (hka05_921, [hka05_200, hka05_165, hka05_142, hka05_910, hka05_97, hka05_752, hka05_97, hka05_923], [], hka05_908), [.inl 7], [.inl 99956, .inl 1, .inr (true, .ofNat 0, 8), .inl 100000])]
set_option maxRecDepth 1000000 in
theorem kak_492 : ai_ck [] [] ka_492 [.inl 100000, .inl 0, .inl 0, .inl 0] kan_492 19 = true := by decide +kernel
theorem kah_492 : ai_holds ka_492 := ai_thm kak_492 ai_nil
/-- NeverAgain$Planner.strokesFrom -/
def ka_493 : ai_K := (171, 0, ([], [hka05_200, hka05_165, hka05_142, hka05_97, hka05_97, hka05_97, hka05_97, hka05_97, hka05_97, hka05_97, hka05_97, hka05_97, hka05_97], [], hka05_260), [], [(some hka05_257, [], [])])
def kan_493 : List ai_Nd := []
set_option maxRecDepth 1000000 in
theorem kak_493 : ai_ck [] [] ka_493 [.inl 100000] kan_493 5 = true := by decide +kernel
theorem kah_493 : ai_holds ka_493 := ai_thm kak_493 ai_nil
def hka05_924 : ai_W := [hka05_16, hka05_304, hka05_907, hka05_326, hka05_16, hka05_16, hka05_16, hka05_16, hka05_16, hka05_16, hka05_16, hka05_16, hka05_16, hka05_16, hka05_16, hka05_16, hka05_16, hka05_351, hka05_358, hka05_360, hka05_336, hka05_457, hka05_16, hka05_16, hka05_16, hka05_16, hka05_16, hka05_16, hka05_16, hka05_16, hka05_16, hka05_16, hka05_16, hka05_16, hka05_16, hka05_16, hka05_16, hka05_16, hka05_16, hka05_16, hka05_16, hka05_16, hka05_16, hka05_16, hka05_16, hka05_16, hka05_16, hka05_16, hka05_16, hka05_16, hka05_16, hka05_16, hka05_16, hka05_16, hka05_16, hka05_16, hka05_16, hka05_16, hka05_16, hka05_16, hka05_16, hka05_16, hka05_16, hka05_16, hka05_16, hka05_16, hka05_16, hka05_16, hka05_16, hka05_16, hka05_16, hka05_16, hka05_16, hka05_16, hka05_16, hka05_16]
def hka05_925 : ai_N := (.ofNat 0, .ofNat 128, [(8, .negSucc 0, .ofNat 0)])
def hka05_926 : ai_V := .inl (false, hka05_925)
def hka05_927 : ai_C := .inr (.inr (0, [hka05_327, hka05_328, hka05_329, hka05_165, hka05_926]))
/-- NeverAgain$Planner.strokesFrom -/
def ka_494 : ai_K := (171, 4, (hka05_451, [hka05_200, hka05_165, hka05_146, hka05_97, hka05_97, hka05_97, hka05_97, hka05_97, hka05_97, hka05_97, hka05_97, hka05_97, hka05_97], [], hka05_924), [.inr (1, 6), .inr (1, 7), .inr (1, 8), .inr (1, 9), .inr (1, 10), .inr (1, 11), .inr (1, 12), .inr (1, 13), .inr (17, 4), .inr (21, 5), .inr (21, 6)], [(some hka05_910, hka05_451, [(17, hka05_927), (18, hka05_357), (19, hka05_359), (20, hka05_335)])])
def hka05_928 : ai_E := [hka05_1, hka05_2, hka05_6, hka05_6, hka05_6, hka05_89, hka05_93, hka05_5, hka05_323, hka05_93, hka05_6, hka05_5]
def hka05_929 : Bool × Option ai_C := (true, some hka05_927)
def hka05_930 : ai_W := [hka05_16, hka05_304, hka05_907, hka05_326, hka05_16, hka05_16, hka05_16, hka05_16, hka05_16, hka05_16, hka05_16, hka05_16, hka05_16, hka05_16, hka05_16, hka05_16, hka05_16, hka05_929, hka05_401, hka05_402, hka05_403, hka05_457, hka05_16, hka05_16, hka05_16, hka05_16, hka05_16, hka05_16, hka05_16, hka05_16, hka05_16, hka05_16, hka05_16, hka05_16, hka05_16, hka05_16, hka05_16, hka05_16, hka05_16, hka05_16, hka05_16, hka05_16, hka05_16, hka05_16, hka05_16, hka05_16, hka05_16, hka05_16, hka05_16, hka05_16, hka05_16, hka05_16, hka05_16, hka05_16, hka05_16, hka05_16, hka05_16, hka05_16, hka05_16, hka05_16, hka05_16, hka05_16, hka05_16, hka05_16, hka05_16, hka05_16, hka05_16, hka05_16, hka05_16, hka05_16, hka05_16, hka05_16, hka05_16, hka05_16, hka05_16, hka05_16]
def kan_494 : List ai_Nd := [(21, (hka05_928, [hka05_200, hka05_165, hka05_146, hka05_752, hka05_97, hka05_910, hka05_97, hka05_229, hka05_97, hka05_97, hka05_97, hka05_97, hka05_97], [], hka05_930), [.inl 7], [.inl 99978, .inl 1, .inr (true, .ofNat 4, 11), .inl 100000])]
set_option maxRecDepth 1000000 in
theorem kak_494 : ai_ck [ka_375, ka_438, ka_374, ka_395, ka_492, ka_493] [] ka_494 [.inl 100000, .inl 0, .inl 0, .inl 0] kan_494 52 = true := by decide +kernel
theorem kah_494 : ai_holds ka_494 := ai_thm kak_494 (ai_cons kah_375 (ai_cons kah_438 (ai_cons kah_374 (ai_cons kah_395 (ai_cons kah_492 (ai_cons kah_493 ai_nil))))))

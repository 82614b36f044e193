/-! CONTRACTS found by wip/ai/an.py, each held by the kernel. -/
def hka10_0 : ai_N := (.ofNat 0, .ofNat 0, [])
def hka10_1 : ai_V := .inl (true, hka10_0)
def hka10_2 : ai_V := .inr none
def hka10_3 : ai_N := (.ofNat 3, .ofNat 3, [])
def hka10_4 : ai_V := .inl (true, hka10_3)
def hka10_5 : Bool × Option ai_C := (false, none)
def hka10_6 : ai_W := [hka10_5, hka10_5, hka10_5, hka10_5, hka10_5, hka10_5, hka10_5, hka10_5, hka10_5, hka10_5, hka10_5, hka10_5, hka10_5, hka10_5, hka10_5, hka10_5, hka10_5, hka10_5, hka10_5, hka10_5, hka10_5, hka10_5, hka10_5, hka10_5, hka10_5, hka10_5, hka10_5, hka10_5, hka10_5, hka10_5, hka10_5, hka10_5, hka10_5, hka10_5, hka10_5, hka10_5, hka10_5, hka10_5, hka10_5, hka10_5, hka10_5, hka10_5, hka10_5, hka10_5, hka10_5, hka10_5, hka10_5, hka10_5, hka10_5, hka10_5, hka10_5, hka10_5, hka10_5, hka10_5, hka10_5, hka10_5, hka10_5, hka10_5, hka10_5, hka10_5, hka10_5, hka10_5, hka10_5, hka10_5, hka10_5, hka10_5, hka10_5, hka10_5, hka10_5, hka10_5, hka10_5, hka10_5, hka10_5, hka10_5, hka10_5, hka10_5]
def hka10_7 : ai_N := (.ofNat 1, .ofNat 1, [])
def hka10_8 : ai_V := .inl (false, hka10_7)
/-- NeverAgainModel.in -/
def ka_790 : ai_K := (93, 0, ([], [hka10_1, hka10_2, hka10_1, hka10_2, hka10_4, hka10_2], [], hka10_6), [], [(some hka10_8, [], [])])
def kan_790 : List ai_Nd := []
set_option maxRecDepth 1000000 in
theorem kak_790 : ai_ck [] [] ka_790 [.inl 100000] kan_790 12 = true := by decide +kernel
theorem kah_790 : ai_holds ka_790 := ai_thm kak_790 ai_nil
def hka10_9 : Int × Int := (.negSucc 2147483647, .ofNat 2147483647)
def hka10_10 : ai_V := .inl (false, hka10_0)
def hka10_11 : ai_N := (.negSucc 2147483647, .ofNat 2147483647, [(0, .ofNat 0, .ofNat 0)])
def hka10_12 : ai_V := .inl (false, hka10_11)
def hka10_13 : Int × Int := (.negSucc 2147483647, .negSucc 0)
def hka10_14 : Int × Int := (.ofNat 0, .ofNat 0)
def hka10_15 : Int × Int := (.ofNat 1, .ofNat 1)
def hka10_16 : Int × Int := (.ofNat 2, .ofNat 2)
def hka10_17 : Int × Int := (.ofNat 3, .ofNat 2147483647)
/-- NeverAgainModel.isSheet -/
def ka_791 : ai_K := (147, 1, ([hka10_9], [hka10_10, hka10_12], [], hka10_6), [.inl 1], [(some hka10_10, [hka10_13], []), (some hka10_8, [hka10_14], []), (some hka10_8, [hka10_15], []), (some hka10_8, [hka10_16], []), (some hka10_10, [hka10_17], [])])
def kan_791 : List ai_Nd := []
set_option maxRecDepth 1000000 in
theorem kak_791 : ai_ck [ka_790, ka_366] [] ka_791 [.inl 100000] kan_791 16 = true := by decide +kernel
theorem kah_791 : ai_holds ka_791 := ai_thm kak_791 (ai_cons kah_790 (ai_cons kah_366 ai_nil))
def hka10_18 : ai_N := (.negSucc 2147483647, .negSucc 0, [(0, .ofNat 0, .ofNat 0)])
def hka10_19 : ai_V := .inl (true, hka10_18)
/-- NeverAgainModel.in -/
def ka_792 : ai_K := (93, 0, ([hka10_13], [hka10_19, hka10_2, hka10_1, hka10_2, hka10_4, hka10_2], [], hka10_6), [.inl 0], [(some hka10_10, [hka10_13], [])])
def kan_792 : List ai_Nd := []
set_option maxRecDepth 1000000 in
theorem kak_792 : ai_ck [] [] ka_792 [.inl 100000] kan_792 7 = true := by decide +kernel
theorem kah_792 : ai_holds ka_792 := ai_thm kak_792 ai_nil
def hka10_20 : ai_E := [hka10_13, hka10_9]
def hka10_21 : ai_V := .inl (false, hka10_18)
def hka10_22 : ai_N := (.negSucc 2147483647, .ofNat 2147483647, [(1, .ofNat 0, .ofNat 0)])
def hka10_23 : ai_V := .inl (false, hka10_22)
/-- NeverAgainModel.isSheet -/
def ka_793 : ai_K := (147, 1, (hka10_20, [hka10_21, hka10_23], [], hka10_6), [.inl 0, .inl 1], [(some hka10_10, hka10_20, [])])
def kan_793 : List ai_Nd := []
set_option maxRecDepth 1000000 in
theorem kak_793 : ai_ck [ka_792] [] ka_793 [.inl 100000] kan_793 9 = true := by decide +kernel
theorem kah_793 : ai_holds ka_793 := ai_thm kak_793 (ai_cons kah_792 ai_nil)
def hka10_24 : Int × Int := (.ofNat 4, .ofNat 16)
def hka10_25 : Int × Int := (.ofNat 1, .ofNat 4)
def hka10_26 : Int × Int := (.ofNat 0, .ofNat 12)
def hka10_27 : Int × Int := (.ofNat 0, .ofNat 16)
def hka10_28 : Int × Int := (.ofNat 0, .ofNat 4)
def hka10_29 : Int × Int := (.negSucc 3, .ofNat 3)
def hka10_30 : Int × Int := (.ofNat 0, .ofNat 400)
def hka10_31 : Int × Int := (.ofNat 0, .ofNat 3)
def hka10_32 : Int × Int := (.ofNat 0, .ofNat 6)
def hka10_33 : Int × Int := (.ofNat 0, .ofNat 130)
def hka10_34 : Int × Int := (.negSucc 3, .ofNat 2)
def hka10_35 : Int × Int := (.ofNat 0, .ofNat 40)
def hka10_36 : ai_E := [hka10_9, hka10_9, hka10_9, hka10_24, hka10_25, hka10_26, hka10_27, hka10_28, hka10_9, hka10_27, hka10_29, hka10_30, hka10_30, hka10_30, hka10_31, hka10_9, hka10_32, hka10_30, hka10_33, hka10_9, hka10_28, hka10_34, hka10_34, hka10_34, hka10_34, hka10_35, hka10_35, hka10_35, hka10_35]
def hka10_37 : ai_V := .inr (some (.ref 59))
def hka10_38 : ai_N := (.negSucc 2147483647, .ofNat 2147483647, [(2, .ofNat 0, .ofNat 0)])
def hka10_39 : ai_V := .inl (false, hka10_38)
def hka10_40 : ai_V := .inr (some (.ref 60))
def hka10_41 : ai_V := .inr (some (.ref 61))
def hka10_42 : ai_N := (.ofNat 4, .ofNat 16, [(3, .ofNat 0, .ofNat 0)])
def hka10_43 : ai_V := .inl (false, hka10_42)
def hka10_44 : ai_N := (.ofNat 1, .ofNat 4, [(4, .ofNat 0, .ofNat 0)])
def hka10_45 : ai_V := .inl (false, hka10_44)
def hka10_46 : ai_V := .inr (some (.ref 62))
def hka10_47 : ai_V := .inr (some (.ref 63))
def hka10_48 : ai_N := (.ofNat 0, .ofNat 12, [(5, .ofNat 0, .ofNat 0)])
def hka10_49 : ai_V := .inl (false, hka10_48)
def hka10_50 : ai_V := .inr (some (.ref 64))
def hka10_51 : ai_N := (.ofNat 0, .ofNat 16, [(6, .ofNat 0, .ofNat 0)])
def hka10_52 : ai_V := .inl (false, hka10_51)
def hka10_53 : ai_N := (.ofNat 0, .ofNat 4, [(7, .ofNat 0, .ofNat 0)])
def hka10_54 : ai_V := .inl (false, hka10_53)
def hka10_55 : ai_V := .inr (some (.ref 65))
def hka10_56 : ai_N := (.negSucc 2147483647, .ofNat 2147483647, [(8, .ofNat 0, .ofNat 0)])
def hka10_57 : ai_V := .inl (false, hka10_56)
def hka10_58 : ai_N := (.ofNat 0, .ofNat 16, [(9, .ofNat 0, .ofNat 0)])
def hka10_59 : ai_V := .inl (false, hka10_58)
def hka10_60 : ai_N := (.negSucc 3, .ofNat 3, [(10, .ofNat 0, .ofNat 0)])
def hka10_61 : ai_V := .inl (false, hka10_60)
def hka10_62 : ai_V := .inr (some (.ref 66))
def hka10_63 : ai_N := (.ofNat 0, .ofNat 400, [(11, .ofNat 0, .ofNat 0)])
def hka10_64 : ai_V := .inl (false, hka10_63)
def hka10_65 : ai_N := (.ofNat 0, .ofNat 400, [(12, .ofNat 0, .ofNat 0)])
def hka10_66 : ai_V := .inl (false, hka10_65)
def hka10_67 : ai_N := (.ofNat 0, .ofNat 400, [(13, .ofNat 0, .ofNat 0)])
def hka10_68 : ai_V := .inl (false, hka10_67)
def hka10_69 : ai_N := (.ofNat 0, .ofNat 3, [(14, .ofNat 0, .ofNat 0)])
def hka10_70 : ai_V := .inl (false, hka10_69)
def hka10_71 : ai_N := (.negSucc 2147483647, .ofNat 2147483647, [(15, .ofNat 0, .ofNat 0)])
def hka10_72 : ai_V := .inl (false, hka10_71)
def hka10_73 : ai_N := (.ofNat 0, .ofNat 6, [(16, .ofNat 0, .ofNat 0)])
def hka10_74 : ai_V := .inl (false, hka10_73)
def hka10_75 : ai_N := (.ofNat 0, .ofNat 400, [(17, .ofNat 0, .ofNat 0)])
def hka10_76 : ai_V := .inl (false, hka10_75)
def hka10_77 : ai_V := .inr (some (.ref 67))
def hka10_78 : ai_N := (.ofNat 0, .ofNat 130, [(18, .ofNat 0, .ofNat 0)])
def hka10_79 : ai_V := .inl (false, hka10_78)
def hka10_80 : ai_V := .inr (some (.ref 68))
def hka10_81 : ai_V := .inr (some (.ref 69))
def hka10_82 : ai_N := (.negSucc 2147483647, .ofNat 2147483647, [(19, .ofNat 0, .ofNat 0)])
def hka10_83 : ai_V := .inl (false, hka10_82)
def hka10_84 : ai_V := .inr (some (.ref 70))
def hka10_85 : ai_V := .inr (some (.ref 71))
def hka10_86 : ai_V := .inr (some (.ref 72))
def hka10_87 : ai_V := .inr (some (.ref 73))
def hka10_88 : ai_V := .inr (some (.ref 74))
def hka10_89 : ai_V := .inr (some (.ref 75))
def hka10_90 : ai_N := (.ofNat 0, .ofNat 4, [(20, .ofNat 0, .ofNat 0)])
def hka10_91 : ai_V := .inl (false, hka10_90)
def hka10_92 : ai_C := .inr (.inr (8, [hka10_40, hka10_41, hka10_43, hka10_45, hka10_46, hka10_47, hka10_49, hka10_50, hka10_52, hka10_54, hka10_55, hka10_57, hka10_59, hka10_61, hka10_62, hka10_64, hka10_66, hka10_68, hka10_70, hka10_72, hka10_74, hka10_76, hka10_77, hka10_79, hka10_80, hka10_81, hka10_83, hka10_84, hka10_85, hka10_86, hka10_87, hka10_88, hka10_89, hka10_91]))
def hka10_93 : Bool × Option ai_C := (false, some hka10_92)
def hka10_94 : ai_N := (.negSucc 3, .ofNat 2, [(21, .ofNat 0, .ofNat 0)])
def hka10_95 : ai_N := (.negSucc 3, .ofNat 2, [(22, .ofNat 0, .ofNat 0)])
def hka10_96 : ai_N := (.negSucc 3, .ofNat 2, [(23, .ofNat 0, .ofNat 0)])
def hka10_97 : ai_N := (.negSucc 3, .ofNat 2, [(24, .ofNat 0, .ofNat 0)])
def hka10_98 : ai_C := .inl (.int, [(1, hka10_94), (1, hka10_95), (1, hka10_96), (1, hka10_97)])
def hka10_99 : Bool × Option ai_C := (false, some hka10_98)
def hka10_100 : ai_N := (.ofNat 0, .ofNat 40, [(25, .ofNat 0, .ofNat 0)])
def hka10_101 : ai_N := (.ofNat 0, .ofNat 40, [(26, .ofNat 0, .ofNat 0)])
def hka10_102 : ai_N := (.ofNat 0, .ofNat 40, [(27, .ofNat 0, .ofNat 0)])
def hka10_103 : ai_N := (.ofNat 0, .ofNat 40, [(28, .ofNat 0, .ofNat 0)])
def hka10_104 : ai_C := .inl (.int, [(1, hka10_100), (1, hka10_101), (1, hka10_102), (1, hka10_103)])
def hka10_105 : Bool × Option ai_C := (false, some hka10_104)
def hka10_106 : ai_N := (.negSucc 2147483647, .ofNat 2147483647, [])
def hka10_107 : ai_C := .inl (.int, [(160, hka10_106)])
def hka10_108 : Bool × Option ai_C := (false, some hka10_107)
def hka10_109 : ai_W := [hka10_5, hka10_5, hka10_5, hka10_5, hka10_5, hka10_5, hka10_5, hka10_5, hka10_5, hka10_5, hka10_5, hka10_5, hka10_5, hka10_5, hka10_5, hka10_5, hka10_5, hka10_5, hka10_5, hka10_5, hka10_5, hka10_5, hka10_5, hka10_5, hka10_5, hka10_5, hka10_5, hka10_5, hka10_5, hka10_5, hka10_5, hka10_5, hka10_5, hka10_5, hka10_5, hka10_5, hka10_5, hka10_5, hka10_5, hka10_5, hka10_5, hka10_5, hka10_5, hka10_5, hka10_5, hka10_5, hka10_5, hka10_5, hka10_5, hka10_5, hka10_5, hka10_5, hka10_5, hka10_5, hka10_5, hka10_5, hka10_5, hka10_5, hka10_5, hka10_93, hka10_5, hka10_5, hka10_5, hka10_5, hka10_5, hka10_5, hka10_5, hka10_5, hka10_5, hka10_5, hka10_5, hka10_5, hka10_5, hka10_99, hka10_105, hka10_108]
def hka10_110 : ai_N := (.negSucc 0, .negSucc 0, [])
def hka10_111 : ai_V := .inl (false, hka10_110)
def hka10_112 : Int × Int := (.ofNat 4, .ofNat 2147483647)
def hka10_113 : ai_E := [hka10_112, hka10_9, hka10_9, hka10_24, hka10_25, hka10_26, hka10_27, hka10_28, hka10_9, hka10_27, hka10_29, hka10_30, hka10_30, hka10_30, hka10_31, hka10_9, hka10_32, hka10_30, hka10_33, hka10_9, hka10_28, hka10_34, hka10_34, hka10_34, hka10_34, hka10_35, hka10_35, hka10_35, hka10_35]
def hka10_114 : Int × Int := (.ofNat 3, .ofNat 3)
def hka10_115 : ai_E := [hka10_114, hka10_17, hka10_9, hka10_24, hka10_25, hka10_26, hka10_27, hka10_28, hka10_9, hka10_27, hka10_29, hka10_30, hka10_30, hka10_30, hka10_31, hka10_9, hka10_32, hka10_30, hka10_33, hka10_9, hka10_28, hka10_34, hka10_34, hka10_34, hka10_34, hka10_35, hka10_35, hka10_35, hka10_35]
def hka10_116 : Int × Int := (.ofNat 41, .ofNat 2147483647)
def hka10_117 : ai_E := [hka10_114, hka10_16, hka10_116, hka10_24, hka10_25, hka10_26, hka10_27, hka10_28, hka10_9, hka10_27, hka10_29, hka10_30, hka10_30, hka10_30, hka10_31, hka10_9, hka10_32, hka10_30, hka10_33, hka10_9, hka10_28, hka10_34, hka10_34, hka10_34, hka10_34, hka10_35, hka10_35, hka10_35, hka10_35]
def hka10_118 : ai_N := (.negSucc 13, .negSucc 13, [])
def hka10_119 : ai_V := .inl (false, hka10_118)
def hka10_120 : ai_E := [hka10_114, hka10_16, hka10_13, hka10_24, hka10_25, hka10_26, hka10_27, hka10_28, hka10_9, hka10_27, hka10_29, hka10_30, hka10_30, hka10_30, hka10_31, hka10_9, hka10_32, hka10_30, hka10_33, hka10_9, hka10_28, hka10_34, hka10_34, hka10_34, hka10_34, hka10_35, hka10_35, hka10_35, hka10_35]
def hka10_121 : ai_E := [hka10_114, hka10_15, hka10_116, hka10_24, hka10_25, hka10_26, hka10_27, hka10_28, hka10_9, hka10_27, hka10_29, hka10_30, hka10_30, hka10_30, hka10_31, hka10_9, hka10_32, hka10_30, hka10_33, hka10_9, hka10_28, hka10_34, hka10_34, hka10_34, hka10_34, hka10_35, hka10_35, hka10_35, hka10_35]
def hka10_122 : ai_E := [hka10_114, hka10_15, hka10_13, hka10_24, hka10_25, hka10_26, hka10_27, hka10_28, hka10_9, hka10_27, hka10_29, hka10_30, hka10_30, hka10_30, hka10_31, hka10_9, hka10_32, hka10_30, hka10_33, hka10_9, hka10_28, hka10_34, hka10_34, hka10_34, hka10_34, hka10_35, hka10_35, hka10_35, hka10_35]
def hka10_123 : ai_E := [hka10_114, hka10_14, hka10_116, hka10_24, hka10_25, hka10_26, hka10_27, hka10_28, hka10_9, hka10_27, hka10_29, hka10_30, hka10_30, hka10_30, hka10_31, hka10_9, hka10_32, hka10_30, hka10_33, hka10_9, hka10_28, hka10_34, hka10_34, hka10_34, hka10_34, hka10_35, hka10_35, hka10_35, hka10_35]
def hka10_124 : ai_E := [hka10_114, hka10_14, hka10_13, hka10_24, hka10_25, hka10_26, hka10_27, hka10_28, hka10_9, hka10_27, hka10_29, hka10_30, hka10_30, hka10_30, hka10_31, hka10_9, hka10_32, hka10_30, hka10_33, hka10_9, hka10_28, hka10_34, hka10_34, hka10_34, hka10_34, hka10_35, hka10_35, hka10_35, hka10_35]
def hka10_125 : ai_E := [hka10_114, hka10_13, hka10_9, hka10_24, hka10_25, hka10_26, hka10_27, hka10_28, hka10_9, hka10_27, hka10_29, hka10_30, hka10_30, hka10_30, hka10_31, hka10_9, hka10_32, hka10_30, hka10_33, hka10_9, hka10_28, hka10_34, hka10_34, hka10_34, hka10_34, hka10_35, hka10_35, hka10_35, hka10_35]
def hka10_126 : ai_E := [hka10_16, hka10_17, hka10_9, hka10_24, hka10_25, hka10_26, hka10_27, hka10_28, hka10_9, hka10_27, hka10_29, hka10_30, hka10_30, hka10_30, hka10_31, hka10_9, hka10_32, hka10_30, hka10_33, hka10_9, hka10_28, hka10_34, hka10_34, hka10_34, hka10_34, hka10_35, hka10_35, hka10_35, hka10_35]
def hka10_127 : ai_E := [hka10_16, hka10_16, hka10_116, hka10_24, hka10_25, hka10_26, hka10_27, hka10_28, hka10_9, hka10_27, hka10_29, hka10_30, hka10_30, hka10_30, hka10_31, hka10_9, hka10_32, hka10_30, hka10_33, hka10_9, hka10_28, hka10_34, hka10_34, hka10_34, hka10_34, hka10_35, hka10_35, hka10_35, hka10_35]
def hka10_128 : ai_E := [hka10_16, hka10_16, hka10_13, hka10_24, hka10_25, hka10_26, hka10_27, hka10_28, hka10_9, hka10_27, hka10_29, hka10_30, hka10_30, hka10_30, hka10_31, hka10_9, hka10_32, hka10_30, hka10_33, hka10_9, hka10_28, hka10_34, hka10_34, hka10_34, hka10_34, hka10_35, hka10_35, hka10_35, hka10_35]
def hka10_129 : ai_E := [hka10_16, hka10_15, hka10_116, hka10_24, hka10_25, hka10_26, hka10_27, hka10_28, hka10_9, hka10_27, hka10_29, hka10_30, hka10_30, hka10_30, hka10_31, hka10_9, hka10_32, hka10_30, hka10_33, hka10_9, hka10_28, hka10_34, hka10_34, hka10_34, hka10_34, hka10_35, hka10_35, hka10_35, hka10_35]
def hka10_130 : ai_E := [hka10_16, hka10_15, hka10_13, hka10_24, hka10_25, hka10_26, hka10_27, hka10_28, hka10_9, hka10_27, hka10_29, hka10_30, hka10_30, hka10_30, hka10_31, hka10_9, hka10_32, hka10_30, hka10_33, hka10_9, hka10_28, hka10_34, hka10_34, hka10_34, hka10_34, hka10_35, hka10_35, hka10_35, hka10_35]
def hka10_131 : ai_E := [hka10_16, hka10_14, hka10_116, hka10_24, hka10_25, hka10_26, hka10_27, hka10_28, hka10_9, hka10_27, hka10_29, hka10_30, hka10_30, hka10_30, hka10_31, hka10_9, hka10_32, hka10_30, hka10_33, hka10_9, hka10_28, hka10_34, hka10_34, hka10_34, hka10_34, hka10_35, hka10_35, hka10_35, hka10_35]
def hka10_132 : ai_E := [hka10_16, hka10_14, hka10_13, hka10_24, hka10_25, hka10_26, hka10_27, hka10_28, hka10_9, hka10_27, hka10_29, hka10_30, hka10_30, hka10_30, hka10_31, hka10_9, hka10_32, hka10_30, hka10_33, hka10_9, hka10_28, hka10_34, hka10_34, hka10_34, hka10_34, hka10_35, hka10_35, hka10_35, hka10_35]
def hka10_133 : ai_E := [hka10_16, hka10_13, hka10_9, hka10_24, hka10_25, hka10_26, hka10_27, hka10_28, hka10_9, hka10_27, hka10_29, hka10_30, hka10_30, hka10_30, hka10_31, hka10_9, hka10_32, hka10_30, hka10_33, hka10_9, hka10_28, hka10_34, hka10_34, hka10_34, hka10_34, hka10_35, hka10_35, hka10_35, hka10_35]
def hka10_134 : ai_E := [hka10_15, hka10_17, hka10_9, hka10_24, hka10_25, hka10_26, hka10_27, hka10_28, hka10_9, hka10_27, hka10_29, hka10_30, hka10_30, hka10_30, hka10_31, hka10_9, hka10_32, hka10_30, hka10_33, hka10_9, hka10_28, hka10_34, hka10_34, hka10_34, hka10_34, hka10_35, hka10_35, hka10_35, hka10_35]
def hka10_135 : ai_E := [hka10_15, hka10_16, hka10_116, hka10_24, hka10_25, hka10_26, hka10_27, hka10_28, hka10_9, hka10_27, hka10_29, hka10_30, hka10_30, hka10_30, hka10_31, hka10_9, hka10_32, hka10_30, hka10_33, hka10_9, hka10_28, hka10_34, hka10_34, hka10_34, hka10_34, hka10_35, hka10_35, hka10_35, hka10_35]
def hka10_136 : ai_E := [hka10_15, hka10_16, hka10_13, hka10_24, hka10_25, hka10_26, hka10_27, hka10_28, hka10_9, hka10_27, hka10_29, hka10_30, hka10_30, hka10_30, hka10_31, hka10_9, hka10_32, hka10_30, hka10_33, hka10_9, hka10_28, hka10_34, hka10_34, hka10_34, hka10_34, hka10_35, hka10_35, hka10_35, hka10_35]
def hka10_137 : ai_E := [hka10_15, hka10_15, hka10_116, hka10_24, hka10_25, hka10_26, hka10_27, hka10_28, hka10_9, hka10_27, hka10_29, hka10_30, hka10_30, hka10_30, hka10_31, hka10_9, hka10_32, hka10_30, hka10_33, hka10_9, hka10_28, hka10_34, hka10_34, hka10_34, hka10_34, hka10_35, hka10_35, hka10_35, hka10_35]
def hka10_138 : ai_E := [hka10_15, hka10_15, hka10_13, hka10_24, hka10_25, hka10_26, hka10_27, hka10_28, hka10_9, hka10_27, hka10_29, hka10_30, hka10_30, hka10_30, hka10_31, hka10_9, hka10_32, hka10_30, hka10_33, hka10_9, hka10_28, hka10_34, hka10_34, hka10_34, hka10_34, hka10_35, hka10_35, hka10_35, hka10_35]
def hka10_139 : ai_E := [hka10_15, hka10_14, hka10_116, hka10_24, hka10_25, hka10_26, hka10_27, hka10_28, hka10_9, hka10_27, hka10_29, hka10_30, hka10_30, hka10_30, hka10_31, hka10_9, hka10_32, hka10_30, hka10_33, hka10_9, hka10_28, hka10_34, hka10_34, hka10_34, hka10_34, hka10_35, hka10_35, hka10_35, hka10_35]
def hka10_140 : ai_E := [hka10_15, hka10_14, hka10_13, hka10_24, hka10_25, hka10_26, hka10_27, hka10_28, hka10_9, hka10_27, hka10_29, hka10_30, hka10_30, hka10_30, hka10_31, hka10_9, hka10_32, hka10_30, hka10_33, hka10_9, hka10_28, hka10_34, hka10_34, hka10_34, hka10_34, hka10_35, hka10_35, hka10_35, hka10_35]
def hka10_141 : ai_E := [hka10_15, hka10_13, hka10_9, hka10_24, hka10_25, hka10_26, hka10_27, hka10_28, hka10_9, hka10_27, hka10_29, hka10_30, hka10_30, hka10_30, hka10_31, hka10_9, hka10_32, hka10_30, hka10_33, hka10_9, hka10_28, hka10_34, hka10_34, hka10_34, hka10_34, hka10_35, hka10_35, hka10_35, hka10_35]
def hka10_142 : ai_E := [hka10_14, hka10_17, hka10_9, hka10_24, hka10_25, hka10_26, hka10_27, hka10_28, hka10_9, hka10_27, hka10_29, hka10_30, hka10_30, hka10_30, hka10_31, hka10_9, hka10_32, hka10_30, hka10_33, hka10_9, hka10_28, hka10_34, hka10_34, hka10_34, hka10_34, hka10_35, hka10_35, hka10_35, hka10_35]
def hka10_143 : ai_E := [hka10_14, hka10_16, hka10_116, hka10_24, hka10_25, hka10_26, hka10_27, hka10_28, hka10_9, hka10_27, hka10_29, hka10_30, hka10_30, hka10_30, hka10_31, hka10_9, hka10_32, hka10_30, hka10_33, hka10_9, hka10_28, hka10_34, hka10_34, hka10_34, hka10_34, hka10_35, hka10_35, hka10_35, hka10_35]
def hka10_144 : ai_E := [hka10_14, hka10_16, hka10_13, hka10_24, hka10_25, hka10_26, hka10_27, hka10_28, hka10_9, hka10_27, hka10_29, hka10_30, hka10_30, hka10_30, hka10_31, hka10_9, hka10_32, hka10_30, hka10_33, hka10_9, hka10_28, hka10_34, hka10_34, hka10_34, hka10_34, hka10_35, hka10_35, hka10_35, hka10_35]
def hka10_145 : ai_E := [hka10_14, hka10_15, hka10_116, hka10_24, hka10_25, hka10_26, hka10_27, hka10_28, hka10_9, hka10_27, hka10_29, hka10_30, hka10_30, hka10_30, hka10_31, hka10_9, hka10_32, hka10_30, hka10_33, hka10_9, hka10_28, hka10_34, hka10_34, hka10_34, hka10_34, hka10_35, hka10_35, hka10_35, hka10_35]
def hka10_146 : ai_E := [hka10_14, hka10_15, hka10_13, hka10_24, hka10_25, hka10_26, hka10_27, hka10_28, hka10_9, hka10_27, hka10_29, hka10_30, hka10_30, hka10_30, hka10_31, hka10_9, hka10_32, hka10_30, hka10_33, hka10_9, hka10_28, hka10_34, hka10_34, hka10_34, hka10_34, hka10_35, hka10_35, hka10_35, hka10_35]
def hka10_147 : ai_E := [hka10_14, hka10_14, hka10_116, hka10_24, hka10_25, hka10_26, hka10_27, hka10_28, hka10_9, hka10_27, hka10_29, hka10_30, hka10_30, hka10_30, hka10_31, hka10_9, hka10_32, hka10_30, hka10_33, hka10_9, hka10_28, hka10_34, hka10_34, hka10_34, hka10_34, hka10_35, hka10_35, hka10_35, hka10_35]
def hka10_148 : ai_E := [hka10_14, hka10_14, hka10_13, hka10_24, hka10_25, hka10_26, hka10_27, hka10_28, hka10_9, hka10_27, hka10_29, hka10_30, hka10_30, hka10_30, hka10_31, hka10_9, hka10_32, hka10_30, hka10_33, hka10_9, hka10_28, hka10_34, hka10_34, hka10_34, hka10_34, hka10_35, hka10_35, hka10_35, hka10_35]
def hka10_149 : ai_E := [hka10_14, hka10_13, hka10_9, hka10_24, hka10_25, hka10_26, hka10_27, hka10_28, hka10_9, hka10_27, hka10_29, hka10_30, hka10_30, hka10_30, hka10_31, hka10_9, hka10_32, hka10_30, hka10_33, hka10_9, hka10_28, hka10_34, hka10_34, hka10_34, hka10_34, hka10_35, hka10_35, hka10_35, hka10_35]
def hka10_150 : ai_E := [hka10_13, hka10_9, hka10_9, hka10_24, hka10_25, hka10_26, hka10_27, hka10_28, hka10_9, hka10_27, hka10_29, hka10_30, hka10_30, hka10_30, hka10_31, hka10_9, hka10_32, hka10_30, hka10_33, hka10_9, hka10_28, hka10_34, hka10_34, hka10_34, hka10_34, hka10_35, hka10_35, hka10_35, hka10_35]
def hka10_151 : Int × Int := (.ofNat 0, .ofNat 2)
def hka10_152 : ai_E := [hka10_31, hka10_151, hka10_35, hka10_24, hka10_25, hka10_26, hka10_27, hka10_28, hka10_9, hka10_27, hka10_29, hka10_30, hka10_30, hka10_30, hka10_31, hka10_9, hka10_32, hka10_30, hka10_33, hka10_9, hka10_28, hka10_34, hka10_34, hka10_34, hka10_34, hka10_35, hka10_35, hka10_35, hka10_35]
def hka10_153 : ai_N := (.negSucc 3, .ofNat 2, [])
def hka10_154 : ai_C := .inl (.int, [(1, hka10_153), (1, hka10_153), (1, hka10_153), (1, hka10_153)])
def hka10_155 : ai_N := (.ofNat 0, .ofNat 40, [])
def hka10_156 : ai_C := .inl (.int, [(1, hka10_155), (1, hka10_155), (1, hka10_155), (1, hka10_155)])
/-- NeverAgainModel.sheet -/
def ka_794 : ai_K := (74, 2, (hka10_36, [hka10_37, hka10_12, hka10_23, hka10_39, hka10_2], [], hka10_109), [.inl 1, .inl 2, .inl 3, .inr (59, 2), .inr (59, 3), .inr (59, 6), .inr (59, 8), .inr (59, 9), .inr (59, 11), .inr (59, 12), .inr (59, 13), .inr (59, 15), .inr (59, 16), .inr (59, 17), .inr (59, 18), .inr (59, 19), .inr (59, 20), .inr (59, 21), .inr (59, 23), .inr (59, 26), .inr (59, 33), .inr (73, 0), .inr (73, 1), .inr (73, 2), .inr (73, 3), .inr (74, 0), .inr (74, 1), .inr (74, 2), .inr (74, 3)], [(some hka10_111, hka10_113, []), (some hka10_111, hka10_115, []), (some hka10_111, hka10_117, []), (some hka10_119, hka10_120, []), (some hka10_111, hka10_121, []), (some hka10_119, hka10_122, []), (some hka10_111, hka10_123, []), (some hka10_119, hka10_124, []), (some hka10_111, hka10_125, []), (some hka10_111, hka10_126, []), (some hka10_111, hka10_127, []), (some hka10_119, hka10_128, []), (some hka10_111, hka10_129, []), (some hka10_119, hka10_130, []), (some hka10_111, hka10_131, []), (some hka10_119, hka10_132, []), (some hka10_111, hka10_133, []), (some hka10_111, hka10_134, []), (some hka10_111, hka10_135, []), (some hka10_119, hka10_136, []), (some hka10_111, hka10_137, []), (some hka10_119, hka10_138, []), (some hka10_111, hka10_139, []), (some hka10_119, hka10_140, []), (some hka10_111, hka10_141, []), (some hka10_111, hka10_142, []), (some hka10_111, hka10_143, []), (some hka10_119, hka10_144, []), (some hka10_111, hka10_145, []), (some hka10_119, hka10_146, []), (some hka10_111, hka10_147, []), (some hka10_119, hka10_148, []), (some hka10_111, hka10_149, []), (some hka10_111, hka10_150, []), (some hka10_8, hka10_152, [(73, hka10_154), (74, hka10_156), (75, hka10_107)])])
def hka10_157 : ai_E := [hka10_31, hka10_151, hka10_35, hka10_24, hka10_25, hka10_26, hka10_27, hka10_28, hka10_9, hka10_27, hka10_29, hka10_30, hka10_30, hka10_30, hka10_31, hka10_9, hka10_32, hka10_30, hka10_33, hka10_9, hka10_28, hka10_34, hka10_34, hka10_34, hka10_34, hka10_35, hka10_35, hka10_35, hka10_35, hka10_35]
def hka10_158 : ai_N := (.ofNat 0, .ofNat 3, [(0, .ofNat 0, .ofNat 0)])
def hka10_159 : ai_V := .inl (false, hka10_158)
def hka10_160 : ai_N := (.ofNat 0, .ofNat 2, [(1, .ofNat 0, .ofNat 0)])
def hka10_161 : ai_V := .inl (false, hka10_160)
def hka10_162 : ai_N := (.ofNat 0, .ofNat 40, [(2, .ofNat 0, .ofNat 0)])
def hka10_163 : ai_V := .inl (false, hka10_162)
def hka10_164 : ai_N := (.ofNat 0, .ofNat 40, [(29, .ofNat 0, .ofNat 0)])
def hka10_165 : ai_V := .inl (false, hka10_164)
def hka10_166 : Bool × Option ai_C := (true, some hka10_154)
def hka10_167 : Bool × Option ai_C := (true, some hka10_156)
def hka10_168 : Bool × Option ai_C := (true, some hka10_107)
def hka10_169 : ai_W := [hka10_5, hka10_5, hka10_5, hka10_5, hka10_5, hka10_5, hka10_5, hka10_5, hka10_5, hka10_5, hka10_5, hka10_5, hka10_5, hka10_5, hka10_5, hka10_5, hka10_5, hka10_5, hka10_5, hka10_5, hka10_5, hka10_5, hka10_5, hka10_5, hka10_5, hka10_5, hka10_5, hka10_5, hka10_5, hka10_5, hka10_5, hka10_5, hka10_5, hka10_5, hka10_5, hka10_5, hka10_5, hka10_5, hka10_5, hka10_5, hka10_5, hka10_5, hka10_5, hka10_5, hka10_5, hka10_5, hka10_5, hka10_5, hka10_5, hka10_5, hka10_5, hka10_5, hka10_5, hka10_5, hka10_5, hka10_5, hka10_5, hka10_5, hka10_5, hka10_93, hka10_5, hka10_5, hka10_5, hka10_5, hka10_5, hka10_5, hka10_5, hka10_5, hka10_5, hka10_5, hka10_5, hka10_5, hka10_5, hka10_166, hka10_167, hka10_168]
def kan_794 : List ai_Nd := [(40, (hka10_157, [hka10_37, hka10_159, hka10_161, hka10_163, hka10_165], [], hka10_169), [.inl 4], [.inl 99959, .inl 1, .inr (true, .ofNat 40, 29), .inl 100000])]
set_option maxRecDepth 1000000 in
theorem kak_794 : ai_ck [ka_785, ka_787, ka_789, ka_791, ka_783, ka_793] [(0, .inl 1, [.ofNat 0, .ofNat 1, .ofNat 2, .ofNat 3, .ofNat 4])] ka_794 [.inl 100000, .inl 0, .inl 0, .inl 0] kan_794 23 = true := by decide +kernel
theorem kah_794 : ai_holds ka_794 := ai_thm kak_794 (ai_cons kah_785 (ai_cons kah_787 (ai_cons kah_789 (ai_cons kah_791 (ai_cons kah_783 (ai_cons kah_793 ai_nil))))))
def hka10_170 : Int × Int := (.negSucc 0, .ofNat 2)
def hka10_171 : ai_E := [hka10_9, hka10_170, hka10_35]
def hka10_172 : ai_V := .inr (some (.ref 57))
def hka10_173 : ai_V := .inr (some (.ref 58))
def hka10_174 : ai_N := (.negSucc 0, .ofNat 2, [(1, .ofNat 0, .ofNat 0)])
def hka10_175 : ai_V := .inl (false, hka10_174)
def hka10_176 : ai_C := .inr (.inr (4, [hka10_173, hka10_175, hka10_163]))
def hka10_177 : Bool × Option ai_C := (false, some hka10_176)
def hka10_178 : ai_W := [hka10_5, hka10_5, hka10_5, hka10_5, hka10_5, hka10_5, hka10_5, hka10_5, hka10_5, hka10_5, hka10_5, hka10_5, hka10_5, hka10_5, hka10_5, hka10_5, hka10_5, hka10_5, hka10_5, hka10_5, hka10_5, hka10_5, hka10_5, hka10_5, hka10_5, hka10_5, hka10_5, hka10_5, hka10_5, hka10_5, hka10_5, hka10_5, hka10_5, hka10_5, hka10_5, hka10_5, hka10_5, hka10_5, hka10_5, hka10_5, hka10_5, hka10_5, hka10_5, hka10_5, hka10_5, hka10_5, hka10_5, hka10_5, hka10_5, hka10_5, hka10_5, hka10_5, hka10_5, hka10_5, hka10_5, hka10_5, hka10_5, hka10_177, hka10_5, hka10_5, hka10_5, hka10_5, hka10_5, hka10_5, hka10_5, hka10_5, hka10_5, hka10_5, hka10_5, hka10_5, hka10_5, hka10_5, hka10_5, hka10_5, hka10_5, hka10_5]
def hka10_179 : Int × Int := (.negSucc 0, .negSucc 0)
def hka10_180 : ai_E := [hka10_9, hka10_179, hka10_35]
def hka10_181 : ai_N := (.ofNat 2, .ofNat 2, [])
def hka10_182 : ai_V := .inl (false, hka10_181)
def hka10_183 : Int × Int := (.ofNat 0, .ofNat 2147483647)
def hka10_184 : ai_E := [hka10_183, hka10_151, hka10_35]
def hka10_185 : Int × Int := (.ofNat 0, .ofNat 39)
def hka10_186 : Int × Int := (.ofNat 1, .ofNat 40)
def hka10_187 : ai_E := [hka10_185, hka10_151, hka10_186]
def hka10_188 : ai_E := [hka10_13, hka10_151, hka10_35]
/-- NeverAgain$Sheet.faultAt -/
def ka_795 : ai_K := (148, 0, (hka10_171, [hka10_172, hka10_12], [], hka10_178), [.inl 1, .inr (57, 1), .inr (57, 2)], [(some hka10_8, hka10_180, []), (some hka10_182, hka10_184, []), (some hka10_10, hka10_187, []), (some hka10_182, hka10_188, [])])
def kan_795 : List ai_Nd := []
set_option maxRecDepth 1000000 in
theorem kak_795 : ai_ck [] [] ka_795 [.inl 100000] kan_795 14 = true := by decide +kernel
theorem kah_795 : ai_holds ka_795 := ai_thm kak_795 ai_nil
def hka10_189 : ai_E := [hka10_9, hka10_9, hka10_170, hka10_35]
def hka10_190 : ai_N := (.negSucc 0, .ofNat 2, [(2, .ofNat 0, .ofNat 0)])
def hka10_191 : ai_V := .inl (false, hka10_190)
def hka10_192 : ai_N := (.ofNat 0, .ofNat 40, [(3, .ofNat 0, .ofNat 0)])
def hka10_193 : ai_V := .inl (false, hka10_192)
def hka10_194 : ai_C := .inr (.inr (4, [hka10_173, hka10_191, hka10_193]))
def hka10_195 : Bool × Option ai_C := (false, some hka10_194)
def hka10_196 : ai_C := .inl (.int, [(40, hka10_106)])
def hka10_197 : Bool × Option ai_C := (false, some hka10_196)
def hka10_198 : ai_W := [hka10_5, hka10_5, hka10_5, hka10_5, hka10_5, hka10_5, hka10_5, hka10_5, hka10_5, hka10_5, hka10_5, hka10_5, hka10_5, hka10_5, hka10_5, hka10_5, hka10_5, hka10_5, hka10_5, hka10_5, hka10_5, hka10_5, hka10_5, hka10_5, hka10_5, hka10_5, hka10_5, hka10_5, hka10_5, hka10_5, hka10_5, hka10_5, hka10_5, hka10_5, hka10_5, hka10_5, hka10_5, hka10_5, hka10_5, hka10_5, hka10_5, hka10_5, hka10_5, hka10_5, hka10_5, hka10_5, hka10_5, hka10_5, hka10_5, hka10_5, hka10_5, hka10_5, hka10_5, hka10_5, hka10_5, hka10_5, hka10_5, hka10_195, hka10_197, hka10_5, hka10_5, hka10_5, hka10_5, hka10_5, hka10_5, hka10_5, hka10_5, hka10_5, hka10_5, hka10_5, hka10_5, hka10_5, hka10_5, hka10_5, hka10_5, hka10_5]
def hka10_199 : ai_E := [hka10_185, hka10_9, hka10_14, hka10_186]
def hka10_200 : ai_E := [hka10_185, hka10_9, hka10_15, hka10_186]
def hka10_201 : ai_E := [hka10_185, hka10_9, hka10_170, hka10_186]
def hka10_202 : ai_E := [hka10_183, hka10_9, hka10_170, hka10_35]
def hka10_203 : ai_E := [hka10_13, hka10_9, hka10_170, hka10_35]
/-- NeverAgain$Sheet.put -/
def ka_796 : ai_K := (149, 0, (hka10_189, [hka10_172, hka10_12, hka10_23], [], hka10_198), [.inl 1, .inl 2, .inr (57, 1), .inr (57, 2)], [(none, hka10_199, [(58, hka10_196)]), (none, hka10_200, [(58, hka10_196)]), (none, hka10_201, [(58, hka10_196)]), (none, hka10_202, []), (none, hka10_203, [])])
def kan_796 : List ai_Nd := []
set_option maxRecDepth 1000000 in
theorem kak_796 : ai_ck [] [] ka_796 [.inl 100000] kan_796 25 = true := by decide +kernel
theorem kah_796 : ai_holds ka_796 := ai_thm kak_796 ai_nil
def hka10_204 : ai_V := .inr (some (.ref 55))
def hka10_205 : ai_V := .inr (some (.ref 56))
def hka10_206 : ai_C := .inr (.inr (4, [hka10_205, hka10_175, hka10_163]))
def hka10_207 : Bool × Option ai_C := (false, some hka10_206)
def hka10_208 : ai_W := [hka10_5, hka10_5, hka10_5, hka10_5, hka10_5, hka10_5, hka10_5, hka10_5, hka10_5, hka10_5, hka10_5, hka10_5, hka10_5, hka10_5, hka10_5, hka10_5, hka10_5, hka10_5, hka10_5, hka10_5, hka10_5, hka10_5, hka10_5, hka10_5, hka10_5, hka10_5, hka10_5, hka10_5, hka10_5, hka10_5, hka10_5, hka10_5, hka10_5, hka10_5, hka10_5, hka10_5, hka10_5, hka10_5, hka10_5, hka10_5, hka10_5, hka10_5, hka10_5, hka10_5, hka10_5, hka10_5, hka10_5, hka10_5, hka10_5, hka10_5, hka10_5, hka10_5, hka10_5, hka10_5, hka10_5, hka10_207, hka10_5, hka10_5, hka10_5, hka10_5, hka10_5, hka10_5, hka10_5, hka10_5, hka10_5, hka10_5, hka10_5, hka10_5, hka10_5, hka10_5, hka10_5, hka10_5, hka10_5, hka10_5, hka10_5, hka10_5]
/-- NeverAgain$Sheet.faultAt -/
def ka_797 : ai_K := (148, 0, (hka10_171, [hka10_204, hka10_12], [], hka10_208), [.inl 1, .inr (55, 1), .inr (55, 2)], [(some hka10_8, hka10_180, []), (some hka10_182, hka10_184, []), (some hka10_10, hka10_187, []), (some hka10_182, hka10_188, [])])
def kan_797 : List ai_Nd := []
set_option maxRecDepth 1000000 in
theorem kak_797 : ai_ck [] [] ka_797 [.inl 100000] kan_797 14 = true := by decide +kernel
theorem kah_797 : ai_holds ka_797 := ai_thm kak_797 ai_nil
def hka10_209 : ai_C := .inr (.inr (4, [hka10_205, hka10_191, hka10_193]))
def hka10_210 : Bool × Option ai_C := (false, some hka10_209)
def hka10_211 : ai_W := [hka10_5, hka10_5, hka10_5, hka10_5, hka10_5, hka10_5, hka10_5, hka10_5, hka10_5, hka10_5, hka10_5, hka10_5, hka10_5, hka10_5, hka10_5, hka10_5, hka10_5, hka10_5, hka10_5, hka10_5, hka10_5, hka10_5, hka10_5, hka10_5, hka10_5, hka10_5, hka10_5, hka10_5, hka10_5, hka10_5, hka10_5, hka10_5, hka10_5, hka10_5, hka10_5, hka10_5, hka10_5, hka10_5, hka10_5, hka10_5, hka10_5, hka10_5, hka10_5, hka10_5, hka10_5, hka10_5, hka10_5, hka10_5, hka10_5, hka10_5, hka10_5, hka10_5, hka10_5, hka10_5, hka10_5, hka10_210, hka10_197, hka10_5, hka10_5, hka10_5, hka10_5, hka10_5, hka10_5, hka10_5, hka10_5, hka10_5, hka10_5, hka10_5, hka10_5, hka10_5, hka10_5, hka10_5, hka10_5, hka10_5, hka10_5, hka10_5]
/-- NeverAgain$Sheet.put -/
def ka_798 : ai_K := (149, 0, (hka10_189, [hka10_204, hka10_12, hka10_23], [], hka10_211), [.inl 1, .inl 2, .inr (55, 1), .inr (55, 2)], [(none, hka10_199, [(56, hka10_196)]), (none, hka10_200, [(56, hka10_196)]), (none, hka10_201, [(56, hka10_196)]), (none, hka10_202, []), (none, hka10_203, [])])
def kan_798 : List ai_Nd := []
set_option maxRecDepth 1000000 in
theorem kak_798 : ai_ck [] [] ka_798 [.inl 100000] kan_798 25 = true := by decide +kernel
theorem kah_798 : ai_holds ka_798 := ai_thm kak_798 ai_nil
def hka10_212 : ai_V := .inr (some (.ref 53))
def hka10_213 : ai_V := .inr (some (.ref 54))
def hka10_214 : ai_C := .inr (.inr (4, [hka10_213, hka10_175, hka10_163]))
def hka10_215 : Bool × Option ai_C := (false, some hka10_214)
def hka10_216 : ai_W := [hka10_5, hka10_5, hka10_5, hka10_5, hka10_5, hka10_5, hka10_5, hka10_5, hka10_5, hka10_5, hka10_5, hka10_5, hka10_5, hka10_5, hka10_5, hka10_5, hka10_5, hka10_5, hka10_5, hka10_5, hka10_5, hka10_5, hka10_5, hka10_5, hka10_5, hka10_5, hka10_5, hka10_5, hka10_5, hka10_5, hka10_5, hka10_5, hka10_5, hka10_5, hka10_5, hka10_5, hka10_5, hka10_5, hka10_5, hka10_5, hka10_5, hka10_5, hka10_5, hka10_5, hka10_5, hka10_5, hka10_5, hka10_5, hka10_5, hka10_5, hka10_5, hka10_5, hka10_5, hka10_215, hka10_5, hka10_5, hka10_5, hka10_5, hka10_5, hka10_5, hka10_5, hka10_5, hka10_5, hka10_5, hka10_5, hka10_5, hka10_5, hka10_5, hka10_5, hka10_5, hka10_5, hka10_5, hka10_5, hka10_5, hka10_5, hka10_5]
/-- NeverAgain$Sheet.faultAt -/
def ka_799 : ai_K := (148, 0, (hka10_171, [hka10_212, hka10_12], [], hka10_216), [.inl 1, .inr (53, 1), .inr (53, 2)], [(some hka10_8, hka10_180, []), (some hka10_182, hka10_184, []), (some hka10_10, hka10_187, []), (some hka10_182, hka10_188, [])])
def kan_799 : List ai_Nd := []
set_option maxRecDepth 1000000 in
theorem kak_799 : ai_ck [] [] ka_799 [.inl 100000] kan_799 14 = true := by decide +kernel
theorem kah_799 : ai_holds ka_799 := ai_thm kak_799 ai_nil
def hka10_217 : ai_C := .inr (.inr (4, [hka10_213, hka10_191, hka10_193]))
def hka10_218 : Bool × Option ai_C := (false, some hka10_217)
def hka10_219 : ai_W := [hka10_5, hka10_5, hka10_5, hka10_5, hka10_5, hka10_5, hka10_5, hka10_5, hka10_5, hka10_5, hka10_5, hka10_5, hka10_5, hka10_5, hka10_5, hka10_5, hka10_5, hka10_5, hka10_5, hka10_5, hka10_5, hka10_5, hka10_5, hka10_5, hka10_5, hka10_5, hka10_5, hka10_5, hka10_5, hka10_5, hka10_5, hka10_5, hka10_5, hka10_5, hka10_5, hka10_5, hka10_5, hka10_5, hka10_5, hka10_5, hka10_5, hka10_5, hka10_5, hka10_5, hka10_5, hka10_5, hka10_5, hka10_5, hka10_5, hka10_5, hka10_5, hka10_5, hka10_5, hka10_218, hka10_197, hka10_5, hka10_5, hka10_5, hka10_5, hka10_5, hka10_5, hka10_5, hka10_5, hka10_5, hka10_5, hka10_5, hka10_5, hka10_5, hka10_5, hka10_5, hka10_5, hka10_5, hka10_5, hka10_5, hka10_5, hka10_5]
/-- NeverAgain$Sheet.put -/
def ka_800 : ai_K := (149, 0, (hka10_189, [hka10_212, hka10_12, hka10_23], [], hka10_219), [.inl 1, .inl 2, .inr (53, 1), .inr (53, 2)], [(none, hka10_199, [(54, hka10_196)]), (none, hka10_200, [(54, hka10_196)]), (none, hka10_201, [(54, hka10_196)]), (none, hka10_202, []), (none, hka10_203, [])])
def kan_800 : List ai_Nd := []
set_option maxRecDepth 1000000 in
theorem kak_800 : ai_ck [] [] ka_800 [.inl 100000] kan_800 25 = true := by decide +kernel
theorem kah_800 : ai_holds ka_800 := ai_thm kak_800 ai_nil
def hka10_220 : ai_V := .inr (some (.ref 51))
def hka10_221 : ai_V := .inr (some (.ref 52))
def hka10_222 : ai_C := .inr (.inr (4, [hka10_221, hka10_175, hka10_163]))
def hka10_223 : Bool × Option ai_C := (false, some hka10_222)
def hka10_224 : ai_W := [hka10_5, hka10_5, hka10_5, hka10_5, hka10_5, hka10_5, hka10_5, hka10_5, hka10_5, hka10_5, hka10_5, hka10_5, hka10_5, hka10_5, hka10_5, hka10_5, hka10_5, hka10_5, hka10_5, hka10_5, hka10_5, hka10_5, hka10_5, hka10_5, hka10_5, hka10_5, hka10_5, hka10_5, hka10_5, hka10_5, hka10_5, hka10_5, hka10_5, hka10_5, hka10_5, hka10_5, hka10_5, hka10_5, hka10_5, hka10_5, hka10_5, hka10_5, hka10_5, hka10_5, hka10_5, hka10_5, hka10_5, hka10_5, hka10_5, hka10_5, hka10_5, hka10_223, hka10_5, hka10_5, hka10_5, hka10_5, hka10_5, hka10_5, hka10_5, hka10_5, hka10_5, hka10_5, hka10_5, hka10_5, hka10_5, hka10_5, hka10_5, hka10_5, hka10_5, hka10_5, hka10_5, hka10_5, hka10_5, hka10_5, hka10_5, hka10_5]
/-- NeverAgain$Sheet.faultAt -/
def ka_801 : ai_K := (148, 0, (hka10_171, [hka10_220, hka10_12], [], hka10_224), [.inl 1, .inr (51, 1), .inr (51, 2)], [(some hka10_8, hka10_180, []), (some hka10_182, hka10_184, []), (some hka10_10, hka10_187, []), (some hka10_182, hka10_188, [])])
def kan_801 : List ai_Nd := []
set_option maxRecDepth 1000000 in
theorem kak_801 : ai_ck [] [] ka_801 [.inl 100000] kan_801 14 = true := by decide +kernel
theorem kah_801 : ai_holds ka_801 := ai_thm kak_801 ai_nil
def hka10_225 : ai_C := .inr (.inr (4, [hka10_221, hka10_191, hka10_193]))
def hka10_226 : Bool × Option ai_C := (false, some hka10_225)
def hka10_227 : ai_W := [hka10_5, hka10_5, hka10_5, hka10_5, hka10_5, hka10_5, hka10_5, hka10_5, hka10_5, hka10_5, hka10_5, hka10_5, hka10_5, hka10_5, hka10_5, hka10_5, hka10_5, hka10_5, hka10_5, hka10_5, hka10_5, hka10_5, hka10_5, hka10_5, hka10_5, hka10_5, hka10_5, hka10_5, hka10_5, hka10_5, hka10_5, hka10_5, hka10_5, hka10_5, hka10_5, hka10_5, hka10_5, hka10_5, hka10_5, hka10_5, hka10_5, hka10_5, hka10_5, hka10_5, hka10_5, hka10_5, hka10_5, hka10_5, hka10_5, hka10_5, hka10_5, hka10_226, hka10_197, hka10_5, hka10_5, hka10_5, hka10_5, hka10_5, hka10_5, hka10_5, hka10_5, hka10_5, hka10_5, hka10_5, hka10_5, hka10_5, hka10_5, hka10_5, hka10_5, hka10_5, hka10_5, hka10_5, hka10_5, hka10_5, hka10_5, hka10_5]
/-- NeverAgain$Sheet.put -/
def ka_802 : ai_K := (149, 0, (hka10_189, [hka10_220, hka10_12, hka10_23], [], hka10_227), [.inl 1, .inl 2, .inr (51, 1), .inr (51, 2)], [(none, hka10_199, [(52, hka10_196)]), (none, hka10_200, [(52, hka10_196)]), (none, hka10_201, [(52, hka10_196)]), (none, hka10_202, []), (none, hka10_203, [])])
def kan_802 : List ai_Nd := []
set_option maxRecDepth 1000000 in
theorem kak_802 : ai_ck [] [] ka_802 [.inl 100000] kan_802 25 = true := by decide +kernel
theorem kah_802 : ai_holds ka_802 := ai_thm kak_802 ai_nil
def hka10_228 : ai_E := [hka10_9, hka10_9, hka10_9, hka10_26, hka10_32, hka10_28, hka10_170, hka10_35, hka10_170, hka10_35, hka10_170, hka10_35, hka10_170, hka10_35]
def hka10_229 : ai_V := .inr (some (.ref 0))
def hka10_230 : ai_V := .inr (some (.ref 15))
def hka10_231 : ai_V := .inr (some (.ref 17))
def hka10_232 : ai_V := .inr (some (.ref 21))
def hka10_233 : ai_V := .inr (some (.ref 26))
def hka10_234 : ai_V := .inr (some (.ref 32))
def hka10_235 : ai_V := .inr (some (.ref 35))
def hka10_236 : ai_V := .inr (some (.ref 34))
def hka10_237 : ai_V := .inr (some (.ref 50))
def hka10_238 : ai_V := .inr (some (.ref 33))
def hka10_239 : ai_V := .inr (some (.ref 1))
def hka10_240 : ai_V := .inr (some (.ref 8))
def hka10_241 : ai_N := (.ofNat 0, .ofNat 12, [(3, .ofNat 0, .ofNat 0)])
def hka10_242 : ai_V := .inl (false, hka10_241)
def hka10_243 : ai_N := (.ofNat 0, .ofNat 6, [(4, .ofNat 0, .ofNat 0)])
def hka10_244 : ai_V := .inl (false, hka10_243)
def hka10_245 : ai_N := (.ofNat 0, .ofNat 4, [(5, .ofNat 0, .ofNat 0)])
def hka10_246 : ai_V := .inl (false, hka10_245)
def hka10_247 : ai_C := .inr (.inr (7, [hka10_230, hka10_231, hka10_232, hka10_233, hka10_234, hka10_235, hka10_236, hka10_237, hka10_238, hka10_239, hka10_240, hka10_242, hka10_244, hka10_246]))
def hka10_248 : Bool × Option ai_C := (false, some hka10_247)
def hka10_249 : ai_C := .inr (.inl (4, [some 51, some 53, some 55, some 57]))
def hka10_250 : Bool × Option ai_C := (false, some hka10_249)
def hka10_251 : ai_N := (.negSucc 0, .ofNat 2, [(6, .ofNat 0, .ofNat 0)])
def hka10_252 : ai_V := .inl (false, hka10_251)
def hka10_253 : ai_N := (.ofNat 0, .ofNat 40, [(7, .ofNat 0, .ofNat 0)])
def hka10_254 : ai_V := .inl (false, hka10_253)
def hka10_255 : ai_C := .inr (.inr (4, [hka10_221, hka10_252, hka10_254]))
def hka10_256 : Bool × Option ai_C := (false, some hka10_255)
def hka10_257 : ai_N := (.negSucc 0, .ofNat 2, [(8, .ofNat 0, .ofNat 0)])
def hka10_258 : ai_V := .inl (false, hka10_257)
def hka10_259 : ai_N := (.ofNat 0, .ofNat 40, [(9, .ofNat 0, .ofNat 0)])
def hka10_260 : ai_V := .inl (false, hka10_259)
def hka10_261 : ai_C := .inr (.inr (4, [hka10_213, hka10_258, hka10_260]))
def hka10_262 : Bool × Option ai_C := (false, some hka10_261)
def hka10_263 : ai_N := (.negSucc 0, .ofNat 2, [(10, .ofNat 0, .ofNat 0)])
def hka10_264 : ai_V := .inl (false, hka10_263)
def hka10_265 : ai_N := (.ofNat 0, .ofNat 40, [(11, .ofNat 0, .ofNat 0)])
def hka10_266 : ai_V := .inl (false, hka10_265)
def hka10_267 : ai_C := .inr (.inr (4, [hka10_205, hka10_264, hka10_266]))
def hka10_268 : Bool × Option ai_C := (false, some hka10_267)
def hka10_269 : ai_N := (.negSucc 0, .ofNat 2, [(12, .ofNat 0, .ofNat 0)])
def hka10_270 : ai_V := .inl (false, hka10_269)
def hka10_271 : ai_N := (.ofNat 0, .ofNat 40, [(13, .ofNat 0, .ofNat 0)])
def hka10_272 : ai_V := .inl (false, hka10_271)
def hka10_273 : ai_C := .inr (.inr (4, [hka10_173, hka10_270, hka10_272]))
def hka10_274 : Bool × Option ai_C := (false, some hka10_273)
def hka10_275 : ai_W := [hka10_248, hka10_5, hka10_5, hka10_5, hka10_5, hka10_5, hka10_5, hka10_5, hka10_5, hka10_5, hka10_5, hka10_5, hka10_5, hka10_5, hka10_5, hka10_5, hka10_5, hka10_5, hka10_5, hka10_5, hka10_5, hka10_5, hka10_5, hka10_5, hka10_5, hka10_5, hka10_5, hka10_5, hka10_5, hka10_5, hka10_5, hka10_5, hka10_5, hka10_5, hka10_5, hka10_5, hka10_5, hka10_5, hka10_5, hka10_5, hka10_5, hka10_5, hka10_5, hka10_5, hka10_5, hka10_5, hka10_5, hka10_5, hka10_5, hka10_5, hka10_250, hka10_256, hka10_197, hka10_262, hka10_197, hka10_268, hka10_197, hka10_274, hka10_197, hka10_5, hka10_5, hka10_5, hka10_5, hka10_5, hka10_5, hka10_5, hka10_5, hka10_5, hka10_5, hka10_5, hka10_5, hka10_5, hka10_5, hka10_5, hka10_5, hka10_5]
def hka10_276 : ai_N := (.negSucc 11, .negSucc 11, [])
def hka10_277 : ai_V := .inl (false, hka10_276)
def hka10_278 : ai_E := [hka10_31, hka10_9, hka10_9, hka10_26, hka10_32, hka10_28, hka10_170, hka10_35, hka10_170, hka10_35, hka10_170, hka10_35, hka10_170, hka10_35]
def hka10_279 : ai_E := [hka10_31, hka10_185, hka10_9, hka10_26, hka10_32, hka10_28, hka10_170, hka10_35, hka10_170, hka10_35, hka10_170, hka10_35, hka10_170, hka10_35]
def hka10_280 : ai_E := [hka10_114, hka10_185, hka10_9, hka10_26, hka10_32, hka10_28, hka10_170, hka10_35, hka10_170, hka10_35, hka10_170, hka10_35, hka10_151, hka10_186]
def hka10_281 : ai_N := (.negSucc 10, .negSucc 10, [])
def hka10_282 : ai_V := .inl (false, hka10_281)
def hka10_283 : ai_E := [hka10_16, hka10_185, hka10_9, hka10_26, hka10_32, hka10_28, hka10_170, hka10_35, hka10_170, hka10_35, hka10_151, hka10_186, hka10_170, hka10_35]
def hka10_284 : ai_E := [hka10_15, hka10_185, hka10_9, hka10_26, hka10_32, hka10_28, hka10_170, hka10_35, hka10_151, hka10_186, hka10_170, hka10_35, hka10_170, hka10_35]
def hka10_285 : ai_E := [hka10_14, hka10_185, hka10_9, hka10_26, hka10_32, hka10_28, hka10_151, hka10_186, hka10_170, hka10_35, hka10_170, hka10_35, hka10_170, hka10_35]
/-- NeverAgain.lay -/
def ka_803 : ai_K := (75, 1, (hka10_228, [hka10_229, hka10_12, hka10_23, hka10_39, hka10_2], [], hka10_275), [.inl 1, .inl 2, .inl 3, .inr (0, 11), .inr (0, 12), .inr (0, 13), .inr (51, 1), .inr (51, 2), .inr (53, 1), .inr (53, 2), .inr (55, 1), .inr (55, 2), .inr (57, 1), .inr (57, 2)], [(some hka10_111, hka10_228, []), (some hka10_277, hka10_278, []), (some hka10_8, hka10_279, []), (some hka10_8, hka10_280, [(58, hka10_196)]), (some hka10_282, hka10_278, []), (some hka10_8, hka10_283, [(56, hka10_196)]), (some hka10_8, hka10_284, [(54, hka10_196)]), (some hka10_8, hka10_285, [(52, hka10_196)])])
def kan_803 : List ai_Nd := []
set_option maxRecDepth 1000000 in
theorem kak_803 : ai_ck [ka_795, ka_797, ka_799, ka_801, ka_796, ka_798, ka_800, ka_802] [(0, .inl 1, [.ofNat 0, .ofNat 1, .ofNat 2, .ofNat 3, .ofNat 4])] ka_803 [.inl 100000] kan_803 24 = true := by decide +kernel
theorem kah_803 : ai_holds ka_803 := ai_thm kak_803 (ai_cons kah_795 (ai_cons kah_797 (ai_cons kah_799 (ai_cons kah_801 (ai_cons kah_796 (ai_cons kah_798 (ai_cons kah_800 (ai_cons kah_802 ai_nil))))))))
def hka10_286 : ai_N := (.ofNat 4, .ofNat 2147483647, [(0, .ofNat 0, .ofNat 0)])
def hka10_287 : ai_V := .inl (false, hka10_286)
/-- NeverAgainModel.isSheet -/
def ka_804 : ai_K := (147, 1, ([hka10_112], [hka10_287, hka10_10], [], hka10_6), [.inl 0], [(some hka10_10, [hka10_112], [])])
def kan_804 : List ai_Nd := []
set_option maxRecDepth 1000000 in
theorem kak_804 : ai_ck [ka_782] [] ka_804 [.inl 100000] kan_804 9 = true := by decide +kernel
theorem kah_804 : ai_holds ka_804 := ai_thm kak_804 (ai_cons kah_782 ai_nil)
def hka10_288 : ai_V := .inl (true, hka10_181)
/-- NeverAgainModel.in -/
def ka_805 : ai_K := (93, 0, ([], [hka10_1, hka10_2, hka10_1, hka10_2, hka10_288, hka10_2], [], hka10_6), [], [(some hka10_8, [], [])])
def kan_805 : List ai_Nd := []
set_option maxRecDepth 1000000 in
theorem kak_805 : ai_ck [] [] ka_805 [.inl 100000] kan_805 12 = true := by decide +kernel
theorem kah_805 : ai_holds ka_805 := ai_thm kak_805 ai_nil
def hka10_289 : ai_V := .inl (false, hka10_3)
/-- NeverAgainModel.isSheet -/
def ka_806 : ai_K := (147, 1, ([], [hka10_289, hka10_10], [], hka10_6), [], [(some hka10_8, [], [])])
def kan_806 : List ai_Nd := []
set_option maxRecDepth 1000000 in
theorem kak_806 : ai_ck [ka_784, ka_805] [] ka_806 [.inl 100000] kan_806 16 = true := by decide +kernel
theorem kah_806 : ai_holds ka_806 := ai_thm kak_806 (ai_cons kah_784 (ai_cons kah_805 ai_nil))
def hka10_290 : Int × Int := (.negSucc 0, .ofNat 39)
def hka10_291 : ai_E := [hka10_9, hka10_290]
def hka10_292 : ai_V := .inl (true, hka10_11)
def hka10_293 : ai_N := (.negSucc 0, .ofNat 39, [(1, .ofNat 0, .ofNat 0)])
def hka10_294 : ai_V := .inl (true, hka10_293)
def hka10_295 : Int × Int := (.ofNat 1, .ofNat 2147483647)
def hka10_296 : ai_E := [hka10_295, hka10_290]
def hka10_297 : Int × Int := (.ofNat 1, .ofNat 39)
def hka10_298 : ai_E := [hka10_297, hka10_297]
def hka10_299 : Int × Int := (.ofNat 1, .ofNat 38)
def hka10_300 : Int × Int := (.ofNat 2, .ofNat 39)
def hka10_301 : ai_E := [hka10_299, hka10_300]
def hka10_302 : ai_E := [hka10_14, hka10_179]
def hka10_303 : ai_E := [hka10_14, hka10_14]
def hka10_304 : ai_E := [hka10_14, hka10_297]
def hka10_305 : ai_E := [hka10_13, hka10_290]
/-- NeverAgainModel.in -/
def ka_807 : ai_K := (93, 0, (hka10_291, [hka10_292, hka10_2, hka10_1, hka10_2, hka10_294, hka10_2], [], hka10_6), [.inl 0, .inl 4], [(some hka10_10, hka10_296, []), (some hka10_8, hka10_298, []), (some hka10_8, hka10_301, []), (some hka10_10, hka10_302, []), (some hka10_8, hka10_303, []), (some hka10_8, hka10_304, []), (some hka10_10, hka10_305, [])])
def kan_807 : List ai_Nd := []
set_option maxRecDepth 1000000 in
theorem kak_807 : ai_ck [] [] ka_807 [.inl 100000] kan_807 12 = true := by decide +kernel
theorem kah_807 : ai_holds ka_807 := ai_thm kak_807 ai_nil
/-- NeverAgainModel.isSheet -/
def ka_808 : ai_K := (147, 1, ([], [hka10_182, hka10_10], [], hka10_6), [], [(some hka10_8, [], [])])
def kan_808 : List ai_Nd := []
set_option maxRecDepth 1000000 in
theorem kak_808 : ai_ck [ka_786, ka_805] [] ka_808 [.inl 100000] kan_808 16 = true := by decide +kernel
theorem kah_808 : ai_holds ka_808 := ai_thm kak_808 (ai_cons kah_786 (ai_cons kah_805 ai_nil))
/-- NeverAgainModel.isSheet -/
def ka_809 : ai_K := (147, 1, ([], [hka10_8, hka10_10], [], hka10_6), [], [(some hka10_8, [], [])])
def kan_809 : List ai_Nd := []
set_option maxRecDepth 1000000 in
theorem kak_809 : ai_ck [ka_788, ka_805] [] ka_809 [.inl 100000] kan_809 16 = true := by decide +kernel
theorem kah_809 : ai_holds ka_809 := ai_thm kak_809 (ai_cons kah_788 (ai_cons kah_805 ai_nil))
/-- NeverAgainModel.isSheet -/
def ka_810 : ai_K := (147, 1, ([], [hka10_10, hka10_10], [], hka10_6), [], [(some hka10_8, [], [])])
def kan_810 : List ai_Nd := []
set_option maxRecDepth 1000000 in
theorem kak_810 : ai_ck [ka_790, ka_805] [] ka_810 [.inl 100000] kan_810 16 = true := by decide +kernel
theorem kah_810 : ai_holds ka_810 := ai_thm kak_810 (ai_cons kah_790 (ai_cons kah_805 ai_nil))
/-- NeverAgainModel.isSheet -/
def ka_811 : ai_K := (147, 1, ([hka10_13], [hka10_21, hka10_10], [], hka10_6), [.inl 0], [(some hka10_10, [hka10_13], [])])
def kan_811 : List ai_Nd := []
set_option maxRecDepth 1000000 in
theorem kak_811 : ai_ck [ka_792] [] ka_811 [.inl 100000] kan_811 9 = true := by decide +kernel
theorem kah_811 : ai_holds ka_811 := ai_thm kak_811 (ai_cons kah_792 ai_nil)
def hka10_306 : ai_E := [hka10_31, hka10_9, hka10_9, hka10_24, hka10_25, hka10_26, hka10_27, hka10_28, hka10_9, hka10_27, hka10_29, hka10_30, hka10_30, hka10_30, hka10_31, hka10_9, hka10_32, hka10_30, hka10_33, hka10_9, hka10_28, hka10_34, hka10_34, hka10_34, hka10_34, hka10_35, hka10_35, hka10_35, hka10_35]
def hka10_307 : ai_E := [hka10_31, hka10_185, hka10_9, hka10_24, hka10_25, hka10_26, hka10_27, hka10_28, hka10_9, hka10_27, hka10_29, hka10_30, hka10_30, hka10_30, hka10_31, hka10_9, hka10_32, hka10_30, hka10_33, hka10_9, hka10_28, hka10_34, hka10_34, hka10_34, hka10_34, hka10_35, hka10_35, hka10_35, hka10_35]
/-- NeverAgainModel.lay -/
def ka_812 : ai_K := (76, 2, (hka10_36, [hka10_37, hka10_12, hka10_23, hka10_39], [], hka10_109), [.inl 1, .inl 2, .inl 3, .inr (59, 2), .inr (59, 3), .inr (59, 6), .inr (59, 8), .inr (59, 9), .inr (59, 11), .inr (59, 12), .inr (59, 13), .inr (59, 15), .inr (59, 16), .inr (59, 17), .inr (59, 18), .inr (59, 19), .inr (59, 20), .inr (59, 21), .inr (59, 23), .inr (59, 26), .inr (59, 33), .inr (73, 0), .inr (73, 1), .inr (73, 2), .inr (73, 3), .inr (74, 0), .inr (74, 1), .inr (74, 2), .inr (74, 3)], [(some hka10_111, hka10_36, []), (some hka10_282, hka10_306, []), (some hka10_277, hka10_306, []), (some hka10_8, hka10_307, [(75, hka10_107)])])
def kan_812 : List ai_Nd := []
set_option maxRecDepth 1000000 in
theorem kak_812 : ai_ck [ka_806, ka_808, ka_809, ka_810, ka_804, ka_811, ka_807] [(0, .inl 1, [.ofNat 0, .ofNat 1, .ofNat 2, .ofNat 3, .ofNat 4])] ka_812 [.inl 100000] kan_812 47 = true := by decide +kernel
theorem kah_812 : ai_holds ka_812 := ai_thm kak_812 (ai_cons kah_806 (ai_cons kah_808 (ai_cons kah_809 (ai_cons kah_810 (ai_cons kah_804 (ai_cons kah_811 (ai_cons kah_807 ai_nil)))))))
def hka10_308 : ai_W := [hka10_5, hka10_5, hka10_5, hka10_5, hka10_5, hka10_5, hka10_5, hka10_5, hka10_5, hka10_5, hka10_5, hka10_5, hka10_5, hka10_5, hka10_5, hka10_5, hka10_5, hka10_5, hka10_5, hka10_5, hka10_5, hka10_5, hka10_5, hka10_5, hka10_5, hka10_5, hka10_5, hka10_5, hka10_5, hka10_5, hka10_5, hka10_5, hka10_5, hka10_5, hka10_5, hka10_5, hka10_5, hka10_5, hka10_5, hka10_5, hka10_5, hka10_5, hka10_5, hka10_5, hka10_5, hka10_5, hka10_5, hka10_5, hka10_5, hka10_5, hka10_5, hka10_5, hka10_5, hka10_5, hka10_5, hka10_5, hka10_5, hka10_195, hka10_5, hka10_5, hka10_5, hka10_5, hka10_5, hka10_5, hka10_5, hka10_5, hka10_5, hka10_5, hka10_5, hka10_5, hka10_5, hka10_5, hka10_5, hka10_5, hka10_5, hka10_5]
def hka10_309 : ai_E := [hka10_9, hka10_9, hka10_151, hka10_35]
def hka10_310 : ai_E := [hka10_151, hka10_13, hka10_151, hka10_35]
def hka10_311 : ai_E := [hka10_151, hka10_185, hka10_151, hka10_186]
def hka10_312 : ai_E := [hka10_151, hka10_183, hka10_151, hka10_35]
def hka10_313 : ai_E := [hka10_9, hka10_9, hka10_179, hka10_35]
/-- NeverAgain$Sheet.faultAs -/
def ka_813 : ai_K := (150, 1, (hka10_189, [hka10_172, hka10_12, hka10_23], [], hka10_308), [.inl 1, .inl 2, .inr (57, 1), .inr (57, 2)], [(some hka10_289, hka10_309, []), (some hka10_182, hka10_310, []), (some hka10_10, hka10_311, []), (some hka10_182, hka10_312, []), (some hka10_8, hka10_313, [])])
def kan_813 : List ai_Nd := []
set_option maxRecDepth 1000000 in
theorem kak_813 : ai_ck [ka_795] [] ka_813 [.inl 100000] kan_813 13 = true := by decide +kernel
theorem kah_813 : ai_holds ka_813 := ai_thm kak_813 (ai_cons kah_795 ai_nil)
def hka10_314 : ai_W := [hka10_5, hka10_5, hka10_5, hka10_5, hka10_5, hka10_5, hka10_5, hka10_5, hka10_5, hka10_5, hka10_5, hka10_5, hka10_5, hka10_5, hka10_5, hka10_5, hka10_5, hka10_5, hka10_5, hka10_5, hka10_5, hka10_5, hka10_5, hka10_5, hka10_5, hka10_5, hka10_5, hka10_5, hka10_5, hka10_5, hka10_5, hka10_5, hka10_5, hka10_5, hka10_5, hka10_5, hka10_5, hka10_5, hka10_5, hka10_5, hka10_5, hka10_5, hka10_5, hka10_5, hka10_5, hka10_5, hka10_5, hka10_5, hka10_5, hka10_5, hka10_5, hka10_5, hka10_5, hka10_5, hka10_5, hka10_5, hka10_5, hka10_177, hka10_197, hka10_5, hka10_5, hka10_5, hka10_5, hka10_5, hka10_5, hka10_5, hka10_5, hka10_5, hka10_5, hka10_5, hka10_5, hka10_5, hka10_5, hka10_5, hka10_5, hka10_5]
def hka10_315 : ai_V := .inl (false, hka10_106)
def hka10_316 : ai_E := [hka10_185, hka10_170, hka10_186]
def hka10_317 : ai_E := [hka10_183, hka10_170, hka10_35]
def hka10_318 : ai_E := [hka10_13, hka10_170, hka10_35]
/-- NeverAgain$Sheet.cell -/
def ka_814 : ai_K := (151, 0, (hka10_171, [hka10_172, hka10_12], [], hka10_314), [.inl 1, .inr (57, 1), .inr (57, 2)], [(some hka10_315, hka10_316, []), (some hka10_10, hka10_317, []), (some hka10_10, hka10_318, [])])
def kan_814 : List ai_Nd := []
set_option maxRecDepth 1000000 in
theorem kak_814 : ai_ck [] [] ka_814 [.inl 100000] kan_814 16 = true := by decide +kernel
theorem kah_814 : ai_holds ka_814 := ai_thm kak_814 ai_nil
def hka10_319 : Int × Int := (.ofNat 0, .ofNat 60)
def hka10_320 : Int × Int := (.ofNat 0, .ofNat 5)
def hka10_321 : ai_E := [hka10_9, hka10_26, hka10_32, hka10_28, hka10_24, hka10_25, hka10_9, hka10_9, hka10_9, hka10_319, hka10_320, hka10_28]
def hka10_322 : ai_N := (.ofNat 0, .ofNat 12, [(1, .ofNat 0, .ofNat 0)])
def hka10_323 : ai_V := .inl (false, hka10_322)
def hka10_324 : ai_N := (.ofNat 0, .ofNat 6, [(2, .ofNat 0, .ofNat 0)])
def hka10_325 : ai_V := .inl (false, hka10_324)
def hka10_326 : ai_N := (.ofNat 0, .ofNat 4, [(3, .ofNat 0, .ofNat 0)])
def hka10_327 : ai_V := .inl (false, hka10_326)
def hka10_328 : ai_C := .inr (.inr (7, [hka10_230, hka10_231, hka10_232, hka10_233, hka10_234, hka10_235, hka10_236, hka10_237, hka10_238, hka10_239, hka10_240, hka10_323, hka10_325, hka10_327]))
def hka10_329 : Bool × Option ai_C := (false, some hka10_328)
def hka10_330 : ai_V := .inr (some (.ref 2))
def hka10_331 : ai_V := .inr (some (.ref 3))
def hka10_332 : ai_V := .inr (some (.ref 4))
def hka10_333 : ai_V := .inr (some (.ref 5))
def hka10_334 : ai_V := .inr (some (.ref 6))
def hka10_335 : ai_V := .inr (some (.ref 7))
def hka10_336 : ai_N := (.ofNat 4, .ofNat 16, [(4, .ofNat 0, .ofNat 0)])
def hka10_337 : ai_V := .inl (false, hka10_336)
def hka10_338 : ai_N := (.ofNat 1, .ofNat 4, [(5, .ofNat 0, .ofNat 0)])
def hka10_339 : ai_V := .inl (false, hka10_338)
def hka10_340 : ai_N := (.negSucc 2147483647, .ofNat 2147483647, [(6, .ofNat 0, .ofNat 0)])
def hka10_341 : ai_V := .inl (false, hka10_340)
def hka10_342 : ai_N := (.negSucc 2147483647, .ofNat 2147483647, [(7, .ofNat 0, .ofNat 0)])
def hka10_343 : ai_V := .inl (false, hka10_342)
def hka10_344 : ai_N := (.ofNat 0, .ofNat 60, [(9, .ofNat 0, .ofNat 0)])
def hka10_345 : ai_V := .inl (false, hka10_344)
def hka10_346 : ai_N := (.ofNat 0, .ofNat 5, [(10, .ofNat 0, .ofNat 0)])
def hka10_347 : ai_V := .inl (false, hka10_346)
def hka10_348 : ai_N := (.ofNat 0, .ofNat 4, [(11, .ofNat 0, .ofNat 0)])
def hka10_349 : ai_V := .inl (false, hka10_348)
def hka10_350 : ai_C := .inr (.inr (6, [hka10_330, hka10_331, hka10_332, hka10_333, hka10_334, hka10_335, hka10_337, hka10_339, hka10_341, hka10_343, hka10_57, hka10_345, hka10_347, hka10_349]))
def hka10_351 : Bool × Option ai_C := (false, some hka10_350)
def hka10_352 : ai_W := [hka10_329, hka10_351, hka10_5, hka10_5, hka10_5, hka10_5, hka10_5, hka10_5, hka10_5, hka10_5, hka10_5, hka10_5, hka10_5, hka10_5, hka10_5, hka10_5, hka10_5, hka10_5, hka10_5, hka10_5, hka10_5, hka10_5, hka10_5, hka10_5, hka10_5, hka10_5, hka10_5, hka10_5, hka10_5, hka10_5, hka10_5, hka10_5, hka10_5, hka10_5, hka10_5, hka10_5, hka10_5, hka10_5, hka10_5, hka10_5, hka10_5, hka10_5, hka10_5, hka10_5, hka10_5, hka10_5, hka10_5, hka10_5, hka10_5, hka10_5, hka10_5, hka10_5, hka10_5, hka10_5, hka10_5, hka10_5, hka10_5, hka10_5, hka10_5, hka10_5, hka10_5, hka10_5, hka10_5, hka10_5, hka10_5, hka10_5, hka10_5, hka10_5, hka10_5, hka10_5, hka10_5, hka10_5, hka10_5, hka10_5, hka10_5, hka10_5]
def hka10_353 : ai_N := (.negSucc 2, .negSucc 2, [])
def hka10_354 : ai_V := .inl (false, hka10_353)
def hka10_355 : Int × Int := (.ofNat 60, .ofNat 60)
def hka10_356 : ai_E := [hka10_9, hka10_26, hka10_32, hka10_28, hka10_24, hka10_25, hka10_9, hka10_9, hka10_9, hka10_355, hka10_320, hka10_28]
def hka10_357 : Int × Int := (.ofNat 0, .ofNat 59)
def hka10_358 : ai_E := [hka10_9, hka10_26, hka10_32, hka10_28, hka10_24, hka10_25, hka10_9, hka10_9, hka10_9, hka10_357, hka10_320, hka10_28]
/-- NeverAgain.refusal -/
def ka_815 : ai_K := (111, 0, (hka10_321, [hka10_229, hka10_10, hka10_12], [], hka10_352), [.inl 2, .inr (0, 11), .inr (0, 12), .inr (0, 13), .inr (1, 6), .inr (1, 7), .inr (1, 8), .inr (1, 9), .inr (1, 10), .inr (1, 11), .inr (1, 12), .inr (1, 13)], [(some hka10_354, hka10_356, []), (some hka10_10, hka10_358, [])])
def kan_815 : List ai_Nd := []
set_option maxRecDepth 1000000 in
theorem kak_815 : ai_ck [] [] ka_815 [.inl 100000] kan_815 13 = true := by decide +kernel
theorem kah_815 : ai_holds ka_815 := ai_thm kak_815 ai_nil
def hka10_359 : ai_E := [hka10_24, hka10_25, hka10_9, hka10_9, hka10_9, hka10_319, hka10_320, hka10_28]
def hka10_360 : ai_N := (.ofNat 4, .ofNat 16, [(0, .ofNat 0, .ofNat 0)])
def hka10_361 : ai_V := .inl (false, hka10_360)
def hka10_362 : ai_N := (.ofNat 1, .ofNat 4, [(1, .ofNat 0, .ofNat 0)])
def hka10_363 : ai_V := .inl (false, hka10_362)
def hka10_364 : ai_N := (.negSucc 2147483647, .ofNat 2147483647, [(3, .ofNat 0, .ofNat 0)])
def hka10_365 : ai_V := .inl (false, hka10_364)
def hka10_366 : ai_N := (.negSucc 2147483647, .ofNat 2147483647, [(4, .ofNat 0, .ofNat 0)])
def hka10_367 : ai_V := .inl (false, hka10_366)
def hka10_368 : ai_N := (.ofNat 0, .ofNat 60, [(5, .ofNat 0, .ofNat 0)])
def hka10_369 : ai_V := .inl (false, hka10_368)
def hka10_370 : ai_N := (.ofNat 0, .ofNat 5, [(6, .ofNat 0, .ofNat 0)])
def hka10_371 : ai_V := .inl (false, hka10_370)
def hka10_372 : ai_C := .inr (.inr (6, [hka10_330, hka10_331, hka10_332, hka10_333, hka10_334, hka10_335, hka10_361, hka10_363, hka10_39, hka10_365, hka10_367, hka10_369, hka10_371, hka10_54]))
def hka10_373 : Bool × Option ai_C := (false, some hka10_372)
def hka10_374 : ai_C := .inl (.int, [(60, hka10_106)])
def hka10_375 : Bool × Option ai_C := (false, some hka10_374)
def hka10_376 : ai_W := [hka10_5, hka10_373, hka10_5, hka10_5, hka10_375, hka10_5, hka10_5, hka10_5, hka10_5, hka10_5, hka10_5, hka10_5, hka10_5, hka10_5, hka10_5, hka10_5, hka10_5, hka10_5, hka10_5, hka10_5, hka10_5, hka10_5, hka10_5, hka10_5, hka10_5, hka10_5, hka10_5, hka10_5, hka10_5, hka10_5, hka10_5, hka10_5, hka10_5, hka10_5, hka10_5, hka10_5, hka10_5, hka10_5, hka10_5, hka10_5, hka10_5, hka10_5, hka10_5, hka10_5, hka10_5, hka10_5, hka10_5, hka10_5, hka10_5, hka10_5, hka10_5, hka10_5, hka10_5, hka10_5, hka10_5, hka10_5, hka10_5, hka10_5, hka10_5, hka10_5, hka10_5, hka10_5, hka10_5, hka10_5, hka10_5, hka10_5, hka10_5, hka10_5, hka10_5, hka10_5, hka10_5, hka10_5, hka10_5, hka10_5, hka10_5, hka10_5]
def hka10_377 : ai_E := [hka10_24, hka10_25, hka10_9, hka10_9, hka10_9, hka10_355, hka10_320, hka10_28]
def hka10_378 : ai_E := [hka10_24, hka10_25, hka10_9, hka10_9, hka10_9, hka10_357, hka10_320, hka10_28]
def hka10_379 : ai_N := (.ofNat 1, .ofNat 60, [(5, .ofNat 1, .ofNat 1)])
def hka10_380 : ai_V := .inl (false, hka10_379)
def hka10_381 : ai_C := .inr (.inr (6, [hka10_330, hka10_331, hka10_332, hka10_333, hka10_334, hka10_335, hka10_361, hka10_363, hka10_39, hka10_365, hka10_367, hka10_380, hka10_371, hka10_54]))
/-- NeverAgain$Told.addDay -/
def ka_816 : ai_K := (112, 0, (hka10_359, [hka10_239, hka10_10], [], hka10_376), [.inr (1, 6), .inr (1, 7), .inr (1, 8), .inr (1, 9), .inr (1, 10), .inr (1, 11), .inr (1, 12), .inr (1, 13)], [(some hka10_10, hka10_377, []), (some hka10_8, hka10_378, [(1, hka10_381), (4, hka10_374)])])
def kan_816 : List ai_Nd := []
set_option maxRecDepth 1000000 in
theorem kak_816 : ai_ck [] [] ka_816 [.inl 100000] kan_816 19 = true := by decide +kernel
theorem kah_816 : ai_holds ka_816 := ai_thm kak_816 ai_nil
def hka10_382 : ai_W := [hka10_5, hka10_5, hka10_5, hka10_5, hka10_5, hka10_5, hka10_5, hka10_5, hka10_5, hka10_5, hka10_5, hka10_5, hka10_5, hka10_5, hka10_5, hka10_5, hka10_5, hka10_5, hka10_5, hka10_5, hka10_5, hka10_5, hka10_5, hka10_5, hka10_5, hka10_5, hka10_5, hka10_5, hka10_5, hka10_5, hka10_5, hka10_5, hka10_5, hka10_5, hka10_5, hka10_5, hka10_5, hka10_5, hka10_5, hka10_5, hka10_5, hka10_5, hka10_5, hka10_5, hka10_5, hka10_5, hka10_5, hka10_5, hka10_5, hka10_5, hka10_5, hka10_5, hka10_5, hka10_5, hka10_5, hka10_210, hka10_5, hka10_5, hka10_5, hka10_5, hka10_5, hka10_5, hka10_5, hka10_5, hka10_5, hka10_5, hka10_5, hka10_5, hka10_5, hka10_5, hka10_5, hka10_5, hka10_5, hka10_5, hka10_5, hka10_5]
/-- NeverAgain$Sheet.faultAs -/
def ka_817 : ai_K := (150, 1, (hka10_189, [hka10_204, hka10_12, hka10_23], [], hka10_382), [.inl 1, .inl 2, .inr (55, 1), .inr (55, 2)], [(some hka10_289, hka10_309, []), (some hka10_182, hka10_310, []), (some hka10_10, hka10_311, []), (some hka10_182, hka10_312, []), (some hka10_8, hka10_313, [])])
def kan_817 : List ai_Nd := []
set_option maxRecDepth 1000000 in
theorem kak_817 : ai_ck [ka_797] [] ka_817 [.inl 100000] kan_817 13 = true := by decide +kernel
theorem kah_817 : ai_holds ka_817 := ai_thm kak_817 (ai_cons kah_797 ai_nil)
def hka10_383 : ai_W := [hka10_5, hka10_5, hka10_5, hka10_5, hka10_5, hka10_5, hka10_5, hka10_5, hka10_5, hka10_5, hka10_5, hka10_5, hka10_5, hka10_5, hka10_5, hka10_5, hka10_5, hka10_5, hka10_5, hka10_5, hka10_5, hka10_5, hka10_5, hka10_5, hka10_5, hka10_5, hka10_5, hka10_5, hka10_5, hka10_5, hka10_5, hka10_5, hka10_5, hka10_5, hka10_5, hka10_5, hka10_5, hka10_5, hka10_5, hka10_5, hka10_5, hka10_5, hka10_5, hka10_5, hka10_5, hka10_5, hka10_5, hka10_5, hka10_5, hka10_5, hka10_5, hka10_5, hka10_5, hka10_5, hka10_5, hka10_207, hka10_197, hka10_5, hka10_5, hka10_5, hka10_5, hka10_5, hka10_5, hka10_5, hka10_5, hka10_5, hka10_5, hka10_5, hka10_5, hka10_5, hka10_5, hka10_5, hka10_5, hka10_5, hka10_5, hka10_5]
/-- NeverAgain$Sheet.cell -/
def ka_818 : ai_K := (151, 0, (hka10_171, [hka10_204, hka10_12], [], hka10_383), [.inl 1, .inr (55, 1), .inr (55, 2)], [(some hka10_315, hka10_316, []), (some hka10_10, hka10_317, []), (some hka10_10, hka10_318, [])])
def kan_818 : List ai_Nd := []
set_option maxRecDepth 1000000 in
theorem kak_818 : ai_ck [] [] ka_818 [.inl 100000] kan_818 16 = true := by decide +kernel
theorem kah_818 : ai_holds ka_818 := ai_thm kak_818 ai_nil
def hka10_384 : ai_W := [hka10_5, hka10_5, hka10_5, hka10_5, hka10_5, hka10_5, hka10_5, hka10_5, hka10_5, hka10_5, hka10_5, hka10_5, hka10_5, hka10_5, hka10_5, hka10_5, hka10_5, hka10_5, hka10_5, hka10_5, hka10_5, hka10_5, hka10_5, hka10_5, hka10_5, hka10_5, hka10_5, hka10_5, hka10_5, hka10_5, hka10_5, hka10_5, hka10_5, hka10_5, hka10_5, hka10_5, hka10_5, hka10_5, hka10_5, hka10_5, hka10_5, hka10_5, hka10_5, hka10_5, hka10_5, hka10_5, hka10_5, hka10_5, hka10_5, hka10_5, hka10_5, hka10_5, hka10_5, hka10_218, hka10_5, hka10_5, hka10_5, hka10_5, hka10_5, hka10_5, hka10_5, hka10_5, hka10_5, hka10_5, hka10_5, hka10_5, hka10_5, hka10_5, hka10_5, hka10_5, hka10_5, hka10_5, hka10_5, hka10_5, hka10_5, hka10_5]
/-- NeverAgain$Sheet.faultAs -/
def ka_819 : ai_K := (150, 1, (hka10_189, [hka10_212, hka10_12, hka10_23], [], hka10_384), [.inl 1, .inl 2, .inr (53, 1), .inr (53, 2)], [(some hka10_289, hka10_309, []), (some hka10_182, hka10_310, []), (some hka10_10, hka10_311, []), (some hka10_182, hka10_312, []), (some hka10_8, hka10_313, [])])
def kan_819 : List ai_Nd := []
set_option maxRecDepth 1000000 in
theorem kak_819 : ai_ck [ka_799] [] ka_819 [.inl 100000] kan_819 13 = true := by decide +kernel
theorem kah_819 : ai_holds ka_819 := ai_thm kak_819 (ai_cons kah_799 ai_nil)
def hka10_385 : ai_W := [hka10_5, hka10_5, hka10_5, hka10_5, hka10_5, hka10_5, hka10_5, hka10_5, hka10_5, hka10_5, hka10_5, hka10_5, hka10_5, hka10_5, hka10_5, hka10_5, hka10_5, hka10_5, hka10_5, hka10_5, hka10_5, hka10_5, hka10_5, hka10_5, hka10_5, hka10_5, hka10_5, hka10_5, hka10_5, hka10_5, hka10_5, hka10_5, hka10_5, hka10_5, hka10_5, hka10_5, hka10_5, hka10_5, hka10_5, hka10_5, hka10_5, hka10_5, hka10_5, hka10_5, hka10_5, hka10_5, hka10_5, hka10_5, hka10_5, hka10_5, hka10_5, hka10_5, hka10_5, hka10_215, hka10_197, hka10_5, hka10_5, hka10_5, hka10_5, hka10_5, hka10_5, hka10_5, hka10_5, hka10_5, hka10_5, hka10_5, hka10_5, hka10_5, hka10_5, hka10_5, hka10_5, hka10_5, hka10_5, hka10_5, hka10_5, hka10_5]
/-- NeverAgain$Sheet.cell -/
def ka_820 : ai_K := (151, 0, (hka10_171, [hka10_212, hka10_12], [], hka10_385), [.inl 1, .inr (53, 1), .inr (53, 2)], [(some hka10_315, hka10_316, []), (some hka10_10, hka10_317, []), (some hka10_10, hka10_318, [])])
def kan_820 : List ai_Nd := []
set_option maxRecDepth 1000000 in
theorem kak_820 : ai_ck [] [] ka_820 [.inl 100000] kan_820 16 = true := by decide +kernel
theorem kah_820 : ai_holds ka_820 := ai_thm kak_820 ai_nil
def hka10_386 : ai_W := [hka10_5, hka10_5, hka10_5, hka10_5, hka10_5, hka10_5, hka10_5, hka10_5, hka10_5, hka10_5, hka10_5, hka10_5, hka10_5, hka10_5, hka10_5, hka10_5, hka10_5, hka10_5, hka10_5, hka10_5, hka10_5, hka10_5, hka10_5, hka10_5, hka10_5, hka10_5, hka10_5, hka10_5, hka10_5, hka10_5, hka10_5, hka10_5, hka10_5, hka10_5, hka10_5, hka10_5, hka10_5, hka10_5, hka10_5, hka10_5, hka10_5, hka10_5, hka10_5, hka10_5, hka10_5, hka10_5, hka10_5, hka10_5, hka10_5, hka10_5, hka10_5, hka10_226, hka10_5, hka10_5, hka10_5, hka10_5, hka10_5, hka10_5, hka10_5, hka10_5, hka10_5, hka10_5, hka10_5, hka10_5, hka10_5, hka10_5, hka10_5, hka10_5, hka10_5, hka10_5, hka10_5, hka10_5, hka10_5, hka10_5, hka10_5, hka10_5]
/-- NeverAgain$Sheet.faultAs -/
def ka_821 : ai_K := (150, 1, (hka10_189, [hka10_220, hka10_12, hka10_23], [], hka10_386), [.inl 1, .inl 2, .inr (51, 1), .inr (51, 2)], [(some hka10_289, hka10_309, []), (some hka10_182, hka10_310, []), (some hka10_10, hka10_311, []), (some hka10_182, hka10_312, []), (some hka10_8, hka10_313, [])])
def kan_821 : List ai_Nd := []
set_option maxRecDepth 1000000 in
theorem kak_821 : ai_ck [ka_801] [] ka_821 [.inl 100000] kan_821 13 = true := by decide +kernel
theorem kah_821 : ai_holds ka_821 := ai_thm kak_821 (ai_cons kah_801 ai_nil)
def hka10_387 : ai_W := [hka10_5, hka10_5, hka10_5, hka10_5, hka10_5, hka10_5, hka10_5, hka10_5, hka10_5, hka10_5, hka10_5, hka10_5, hka10_5, hka10_5, hka10_5, hka10_5, hka10_5, hka10_5, hka10_5, hka10_5, hka10_5, hka10_5, hka10_5, hka10_5, hka10_5, hka10_5, hka10_5, hka10_5, hka10_5, hka10_5, hka10_5, hka10_5, hka10_5, hka10_5, hka10_5, hka10_5, hka10_5, hka10_5, hka10_5, hka10_5, hka10_5, hka10_5, hka10_5, hka10_5, hka10_5, hka10_5, hka10_5, hka10_5, hka10_5, hka10_5, hka10_5, hka10_223, hka10_197, hka10_5, hka10_5, hka10_5, hka10_5, hka10_5, hka10_5, hka10_5, hka10_5, hka10_5, hka10_5, hka10_5, hka10_5, hka10_5, hka10_5, hka10_5, hka10_5, hka10_5, hka10_5, hka10_5, hka10_5, hka10_5, hka10_5, hka10_5]
/-- NeverAgain$Sheet.cell -/
def ka_822 : ai_K := (151, 0, (hka10_171, [hka10_220, hka10_12], [], hka10_387), [.inl 1, .inr (51, 1), .inr (51, 2)], [(some hka10_315, hka10_316, []), (some hka10_10, hka10_317, []), (some hka10_10, hka10_318, [])])
def kan_822 : List ai_Nd := []
set_option maxRecDepth 1000000 in
theorem kak_822 : ai_ck [] [] ka_822 [.inl 100000] kan_822 16 = true := by decide +kernel
theorem kah_822 : ai_holds ka_822 := ai_thm kak_822 ai_nil
def hka10_388 : Int × Int := (.ofNat 0, .ofNat 128)
def hka10_389 : ai_E := [hka10_9, hka10_9, hka10_9, hka10_9, hka10_26, hka10_32, hka10_28, hka10_24, hka10_25, hka10_9, hka10_9, hka10_9, hka10_319, hka10_320, hka10_28, hka10_388, hka10_170, hka10_35, hka10_170, hka10_35, hka10_170, hka10_35, hka10_170, hka10_35]
def hka10_390 : ai_N := (.ofNat 0, .ofNat 12, [(4, .ofNat 0, .ofNat 0)])
def hka10_391 : ai_V := .inl (false, hka10_390)
def hka10_392 : ai_N := (.ofNat 0, .ofNat 6, [(5, .ofNat 0, .ofNat 0)])
def hka10_393 : ai_V := .inl (false, hka10_392)
def hka10_394 : ai_N := (.ofNat 0, .ofNat 4, [(6, .ofNat 0, .ofNat 0)])
def hka10_395 : ai_V := .inl (false, hka10_394)
def hka10_396 : ai_C := .inr (.inr (7, [hka10_230, hka10_231, hka10_232, hka10_233, hka10_234, hka10_235, hka10_236, hka10_237, hka10_238, hka10_239, hka10_240, hka10_391, hka10_393, hka10_395]))
def hka10_397 : Bool × Option ai_C := (false, some hka10_396)
def hka10_398 : ai_N := (.ofNat 4, .ofNat 16, [(7, .ofNat 0, .ofNat 0)])
def hka10_399 : ai_V := .inl (false, hka10_398)
def hka10_400 : ai_N := (.ofNat 1, .ofNat 4, [(8, .ofNat 0, .ofNat 0)])
def hka10_401 : ai_V := .inl (false, hka10_400)
def hka10_402 : ai_N := (.negSucc 2147483647, .ofNat 2147483647, [(9, .ofNat 0, .ofNat 0)])
def hka10_403 : ai_V := .inl (false, hka10_402)
def hka10_404 : ai_N := (.negSucc 2147483647, .ofNat 2147483647, [(10, .ofNat 0, .ofNat 0)])
def hka10_405 : ai_V := .inl (false, hka10_404)
def hka10_406 : ai_N := (.negSucc 2147483647, .ofNat 2147483647, [(11, .ofNat 0, .ofNat 0)])
def hka10_407 : ai_V := .inl (false, hka10_406)
def hka10_408 : ai_N := (.ofNat 0, .ofNat 60, [(12, .ofNat 0, .ofNat 0)])
def hka10_409 : ai_V := .inl (false, hka10_408)
def hka10_410 : ai_N := (.ofNat 0, .ofNat 5, [(13, .ofNat 0, .ofNat 0)])
def hka10_411 : ai_V := .inl (false, hka10_410)
def hka10_412 : ai_N := (.ofNat 0, .ofNat 4, [(14, .ofNat 0, .ofNat 0)])
def hka10_413 : ai_V := .inl (false, hka10_412)
def hka10_414 : ai_C := .inr (.inr (6, [hka10_330, hka10_331, hka10_332, hka10_333, hka10_334, hka10_335, hka10_399, hka10_401, hka10_403, hka10_405, hka10_407, hka10_409, hka10_411, hka10_413]))
def hka10_415 : Bool × Option ai_C := (false, some hka10_414)
def hka10_416 : ai_V := .inr (some (.ref 18))
def hka10_417 : ai_V := .inr (some (.ref 19))
def hka10_418 : ai_V := .inr (some (.ref 20))
def hka10_419 : ai_N := (.ofNat 0, .ofNat 128, [(15, .ofNat 0, .ofNat 0)])
def hka10_420 : ai_V := .inl (false, hka10_419)
def hka10_421 : ai_C := .inr (.inr (0, [hka10_416, hka10_417, hka10_418, hka10_2, hka10_420]))
def hka10_422 : Bool × Option ai_C := (false, some hka10_421)
def hka10_423 : ai_N := (.ofNat 0, .ofNat 16, [])
def hka10_424 : ai_C := .inl (.int, [(128, hka10_423)])
def hka10_425 : Bool × Option ai_C := (false, some hka10_424)
def hka10_426 : ai_N := (.negSucc 0, .ofNat 127, [])
def hka10_427 : ai_C := .inl (.int, [(128, hka10_426)])
def hka10_428 : Bool × Option ai_C := (false, some hka10_427)
def hka10_429 : ai_C := .inl (.int, [(17, hka10_426)])
def hka10_430 : Bool × Option ai_C := (false, some hka10_429)
def hka10_431 : ai_N := (.negSucc 0, .ofNat 2, [(16, .ofNat 0, .ofNat 0)])
def hka10_432 : ai_V := .inl (false, hka10_431)
def hka10_433 : ai_N := (.ofNat 0, .ofNat 40, [(17, .ofNat 0, .ofNat 0)])
def hka10_434 : ai_V := .inl (false, hka10_433)
def hka10_435 : ai_C := .inr (.inr (4, [hka10_221, hka10_432, hka10_434]))
def hka10_436 : Bool × Option ai_C := (false, some hka10_435)
def hka10_437 : ai_N := (.negSucc 0, .ofNat 2, [(18, .ofNat 0, .ofNat 0)])
def hka10_438 : ai_V := .inl (false, hka10_437)
def hka10_439 : ai_N := (.ofNat 0, .ofNat 40, [(19, .ofNat 0, .ofNat 0)])
def hka10_440 : ai_V := .inl (false, hka10_439)
def hka10_441 : ai_C := .inr (.inr (4, [hka10_213, hka10_438, hka10_440]))
def hka10_442 : Bool × Option ai_C := (false, some hka10_441)
def hka10_443 : ai_N := (.negSucc 0, .ofNat 2, [(20, .ofNat 0, .ofNat 0)])
def hka10_444 : ai_V := .inl (false, hka10_443)
def hka10_445 : ai_N := (.ofNat 0, .ofNat 40, [(21, .ofNat 0, .ofNat 0)])
def hka10_446 : ai_V := .inl (false, hka10_445)
def hka10_447 : ai_C := .inr (.inr (4, [hka10_205, hka10_444, hka10_446]))
def hka10_448 : Bool × Option ai_C := (false, some hka10_447)
def hka10_449 : ai_N := (.negSucc 0, .ofNat 2, [(22, .ofNat 0, .ofNat 0)])
def hka10_450 : ai_V := .inl (false, hka10_449)
def hka10_451 : ai_N := (.ofNat 0, .ofNat 40, [(23, .ofNat 0, .ofNat 0)])
def hka10_452 : ai_V := .inl (false, hka10_451)
def hka10_453 : ai_C := .inr (.inr (4, [hka10_173, hka10_450, hka10_452]))
def hka10_454 : Bool × Option ai_C := (false, some hka10_453)
def hka10_455 : ai_W := [hka10_397, hka10_415, hka10_5, hka10_5, hka10_375, hka10_5, hka10_5, hka10_5, hka10_5, hka10_5, hka10_5, hka10_5, hka10_5, hka10_5, hka10_5, hka10_5, hka10_5, hka10_422, hka10_425, hka10_428, hka10_430, hka10_5, hka10_5, hka10_5, hka10_5, hka10_5, hka10_5, hka10_5, hka10_5, hka10_5, hka10_5, hka10_5, hka10_5, hka10_5, hka10_5, hka10_5, hka10_5, hka10_5, hka10_5, hka10_5, hka10_5, hka10_5, hka10_5, hka10_5, hka10_5, hka10_5, hka10_5, hka10_5, hka10_5, hka10_5, hka10_250, hka10_436, hka10_197, hka10_442, hka10_197, hka10_448, hka10_197, hka10_454, hka10_197, hka10_5, hka10_5, hka10_5, hka10_5, hka10_5, hka10_5, hka10_5, hka10_5, hka10_5, hka10_5, hka10_5, hka10_5, hka10_5, hka10_5, hka10_5, hka10_5, hka10_5]
def hka10_456 : ai_N := (.negSucc 38, .negSucc 19, [])
def hka10_457 : ai_V := .inl (false, hka10_456)
def hka10_458 : Int × Int := (.ofNat 1, .ofNat 20)
def hka10_459 : ai_E := [hka10_31, hka10_151, hka10_9, hka10_458, hka10_26, hka10_32, hka10_28, hka10_24, hka10_25, hka10_9, hka10_9, hka10_9, hka10_319, hka10_320, hka10_28, hka10_388, hka10_170, hka10_35, hka10_170, hka10_35, hka10_170, hka10_35, hka10_170, hka10_35]
def hka10_460 : ai_N := (.ofNat 0, .ofNat 128, [])
def hka10_461 : ai_V := .inl (false, hka10_460)
def hka10_462 : ai_C := .inr (.inr (0, [hka10_416, hka10_417, hka10_418, hka10_239, hka10_461]))
def hka10_463 : Int × Int := (.ofNat 0, .ofNat 20)
def hka10_464 : ai_E := [hka10_31, hka10_151, hka10_9, hka10_463, hka10_26, hka10_32, hka10_28, hka10_24, hka10_25, hka10_9, hka10_9, hka10_9, hka10_319, hka10_320, hka10_28, hka10_388, hka10_170, hka10_35, hka10_170, hka10_35, hka10_170, hka10_35, hka10_170, hka10_35]
def hka10_465 : ai_N := (.ofNat 0, .ofNat 3, [])
def hka10_466 : ai_V := .inl (false, hka10_465)
def hka10_467 : ai_C := .inr (.inr (7, [hka10_230, hka10_231, hka10_232, hka10_233, hka10_234, hka10_235, hka10_236, hka10_237, hka10_238, hka10_239, hka10_240, hka10_391, hka10_393, hka10_466]))
def hka10_468 : ai_N := (.ofNat 0, .ofNat 60, [(12, .ofNat 0, .ofNat 60)])
def hka10_469 : ai_V := .inl (false, hka10_468)
def hka10_470 : ai_C := .inr (.inr (6, [hka10_330, hka10_331, hka10_332, hka10_333, hka10_334, hka10_335, hka10_399, hka10_401, hka10_403, hka10_405, hka10_407, hka10_469, hka10_411, hka10_413]))
/-- NeverAgain.read -/
def ka_823 : ai_K := (77, 2, (hka10_389, [hka10_229, hka10_12, hka10_23, hka10_39, hka10_365, hka10_2, hka10_2, hka10_2, hka10_2, hka10_2, hka10_2], [], hka10_455), [.inl 1, .inl 2, .inl 3, .inl 4, .inr (0, 11), .inr (0, 12), .inr (0, 13), .inr (1, 6), .inr (1, 7), .inr (1, 8), .inr (1, 9), .inr (1, 10), .inr (1, 11), .inr (1, 12), .inr (1, 13), .inr (17, 4), .inr (51, 1), .inr (51, 2), .inr (53, 1), .inr (53, 2), .inr (55, 1), .inr (55, 2), .inr (57, 1), .inr (57, 2)], [(some hka10_111, hka10_389, []), (some hka10_457, hka10_459, [(1, hka10_414), (4, hka10_374), (17, hka10_462), (18, hka10_424), (19, hka10_427), (20, hka10_429)]), (some hka10_315, hka10_464, [(0, hka10_467), (1, hka10_470), (4, hka10_374), (17, hka10_462), (18, hka10_424), (19, hka10_427), (20, hka10_429)])])
def hka10_471 : ai_E := [hka10_114, hka10_151, hka10_9, hka10_463, hka10_26, hka10_32, hka10_28, hka10_24, hka10_25, hka10_9, hka10_9, hka10_9, hka10_319, hka10_320, hka10_28, hka10_388, hka10_170, hka10_35, hka10_170, hka10_35, hka10_170, hka10_35, hka10_170, hka10_35, hka10_9, hka10_463]
def hka10_472 : ai_N := (.ofNat 3, .ofNat 3, [(0, .ofNat 0, .ofNat 0)])
def hka10_473 : ai_V := .inl (false, hka10_472)
def hka10_474 : ai_N := (.ofNat 0, .ofNat 20, [(3, .ofNat 0, .ofNat 0)])
def hka10_475 : ai_V := .inl (false, hka10_474)
def hka10_476 : ai_N := (.negSucc 2147483647, .ofNat 2147483647, [(24, .ofNat 0, .ofNat 0)])
def hka10_477 : ai_V := .inl (false, hka10_476)
def hka10_478 : ai_N := (.ofNat 0, .ofNat 20, [(25, .ofNat 0, .ofNat 0)])
def hka10_479 : ai_V := .inl (false, hka10_478)
def hka10_480 : Bool × Option ai_C := (true, some hka10_470)
def hka10_481 : Bool × Option ai_C := (true, some hka10_374)
def hka10_482 : Bool × Option ai_C := (true, some hka10_462)
def hka10_483 : Bool × Option ai_C := (true, some hka10_424)
def hka10_484 : Bool × Option ai_C := (true, some hka10_427)
def hka10_485 : Bool × Option ai_C := (true, some hka10_429)
def hka10_486 : ai_W := [hka10_397, hka10_480, hka10_5, hka10_5, hka10_481, hka10_5, hka10_5, hka10_5, hka10_5, hka10_5, hka10_5, hka10_5, hka10_5, hka10_5, hka10_5, hka10_5, hka10_5, hka10_482, hka10_483, hka10_484, hka10_485, hka10_5, hka10_5, hka10_5, hka10_5, hka10_5, hka10_5, hka10_5, hka10_5, hka10_5, hka10_5, hka10_5, hka10_5, hka10_5, hka10_5, hka10_5, hka10_5, hka10_5, hka10_5, hka10_5, hka10_5, hka10_5, hka10_5, hka10_5, hka10_5, hka10_5, hka10_5, hka10_5, hka10_5, hka10_5, hka10_250, hka10_436, hka10_197, hka10_442, hka10_197, hka10_448, hka10_197, hka10_454, hka10_197, hka10_5, hka10_5, hka10_5, hka10_5, hka10_5, hka10_5, hka10_5, hka10_5, hka10_5, hka10_5, hka10_5, hka10_5, hka10_5, hka10_5, hka10_5, hka10_5, hka10_5]
def kad_823_0 : ai_Nd := (70, (hka10_471, [hka10_229, hka10_473, hka10_161, hka10_39, hka10_475, hka10_172, hka10_409, hka10_466, hka10_477, hka10_479, hka10_2], [], hka10_486), [.inl 8, .inl 9], [.inl 99929, .inl 1, .inr (true, .ofNat 20, 25), .inl 100000])
def hka10_487 : ai_E := [hka10_16, hka10_151, hka10_9, hka10_463, hka10_26, hka10_32, hka10_28, hka10_24, hka10_25, hka10_9, hka10_9, hka10_9, hka10_319, hka10_320, hka10_28, hka10_388, hka10_170, hka10_35, hka10_170, hka10_35, hka10_170, hka10_35, hka10_170, hka10_35, hka10_9, hka10_463]
def hka10_488 : ai_N := (.ofNat 2, .ofNat 2, [(0, .ofNat 0, .ofNat 0)])
def hka10_489 : ai_V := .inl (false, hka10_488)
def kad_823_1 : ai_Nd := (70, (hka10_487, [hka10_229, hka10_489, hka10_161, hka10_39, hka10_475, hka10_204, hka10_409, hka10_466, hka10_477, hka10_479, hka10_2], [], hka10_486), [.inl 8, .inl 9], [.inl 99929, .inl 1, .inr (true, .ofNat 20, 25), .inl 100000])
def hka10_490 : ai_E := [hka10_15, hka10_151, hka10_9, hka10_463, hka10_26, hka10_32, hka10_28, hka10_24, hka10_25, hka10_9, hka10_9, hka10_9, hka10_319, hka10_320, hka10_28, hka10_388, hka10_170, hka10_35, hka10_170, hka10_35, hka10_170, hka10_35, hka10_170, hka10_35, hka10_9, hka10_463]
def hka10_491 : ai_N := (.ofNat 1, .ofNat 1, [(0, .ofNat 0, .ofNat 0)])
def hka10_492 : ai_V := .inl (false, hka10_491)
def kad_823_2 : ai_Nd := (70, (hka10_490, [hka10_229, hka10_492, hka10_161, hka10_39, hka10_475, hka10_212, hka10_409, hka10_466, hka10_477, hka10_479, hka10_2], [], hka10_486), [.inl 8, .inl 9], [.inl 99929, .inl 1, .inr (true, .ofNat 20, 25), .inl 100000])
def hka10_493 : ai_E := [hka10_14, hka10_151, hka10_9, hka10_463, hka10_26, hka10_32, hka10_28, hka10_24, hka10_25, hka10_9, hka10_9, hka10_9, hka10_319, hka10_320, hka10_28, hka10_388, hka10_170, hka10_35, hka10_170, hka10_35, hka10_170, hka10_35, hka10_170, hka10_35, hka10_9, hka10_463]
def hka10_494 : ai_N := (.ofNat 0, .ofNat 0, [(0, .ofNat 0, .ofNat 0)])
def hka10_495 : ai_V := .inl (false, hka10_494)
def kad_823_3 : ai_Nd := (70, (hka10_493, [hka10_229, hka10_495, hka10_161, hka10_39, hka10_475, hka10_220, hka10_409, hka10_466, hka10_477, hka10_479, hka10_2], [], hka10_486), [.inl 8, .inl 9], [.inl 99929, .inl 1, .inr (true, .ofNat 20, 25), .inl 100000])
def kan_823 : List ai_Nd := [kad_823_0, kad_823_1, kad_823_2, kad_823_3]
set_option maxRecDepth 1000000 in
theorem kav_823 : ai_ckv ka_823 [.inl 100000, .inl 0, .inl 0, .inl 0] kan_823 = true := by decide +kernel
set_option maxRecDepth 1000000 in
theorem kak_823_3 : ai_ckn [ka_375, ka_374, ka_813, ka_814, ka_817, ka_818, ka_819, ka_820, ka_821, ka_822, ka_816, ka_815, ka_402, ka_401, ka_376, ka_378] [(0, .inl 1, [.ofNat 0, .ofNat 1, .ofNat 2, .ofNat 3, .ofNat 4])] ka_823 [.inl 100000, .inl 0, .inl 0, .inl 0] kan_823 41 kad_823_3 = true := by decide +kernel
set_option maxRecDepth 1000000 in
theorem kak_823_2 : ai_ckn [ka_375, ka_374, ka_813, ka_814, ka_817, ka_818, ka_819, ka_820, ka_821, ka_822, ka_816, ka_815, ka_402, ka_401, ka_376, ka_378] [(0, .inl 1, [.ofNat 0, .ofNat 1, .ofNat 2, .ofNat 3, .ofNat 4])] ka_823 [.inl 100000, .inl 0, .inl 0, .inl 0] kan_823 41 kad_823_2 = true := by decide +kernel
set_option maxRecDepth 1000000 in
theorem kak_823_1 : ai_ckn [ka_375, ka_374, ka_813, ka_814, ka_817, ka_818, ka_819, ka_820, ka_821, ka_822, ka_816, ka_815, ka_402, ka_401, ka_376, ka_378] [(0, .inl 1, [.ofNat 0, .ofNat 1, .ofNat 2, .ofNat 3, .ofNat 4])] ka_823 [.inl 100000, .inl 0, .inl 0, .inl 0] kan_823 41 kad_823_1 = true := by decide +kernel
set_option maxRecDepth 1000000 in
theorem kak_823_0 : ai_ckn [ka_375, ka_374, ka_813, ka_814, ka_817, ka_818, ka_819, ka_820, ka_821, ka_822, ka_816, ka_815, ka_402, ka_401, ka_376, ka_378] [(0, .inl 1, [.ofNat 0, .ofNat 1, .ofNat 2, .ofNat 3, .ofNat 4])] ka_823 [.inl 100000, .inl 0, .inl 0, .inl 0] kan_823 41 kad_823_0 = true := by decide +kernel
set_option maxRecDepth 1000000 in
theorem kak_823_e : ai_ckn [ka_375, ka_374, ka_813, ka_814, ka_817, ka_818, ka_819, ka_820, ka_821, ka_822, ka_816, ka_815, ka_402, ka_401, ka_376, ka_378] [(0, .inl 1, [.ofNat 0, .ofNat 1, .ofNat 2, .ofNat 3, .ofNat 4])] ka_823 [.inl 100000, .inl 0, .inl 0, .inl 0] kan_823 41 (0, ka_823.2.2.1, [], [.inl 100000, .inl 0, .inl 0, .inl 0]) = true := by decide +kernel
theorem kak_823 : ai_ck [ka_375, ka_374, ka_813, ka_814, ka_817, ka_818, ka_819, ka_820, ka_821, ka_822, ka_816, ka_815, ka_402, ka_401, ka_376, ka_378] [(0, .inl 1, [.ofNat 0, .ofNat 1, .ofNat 2, .ofNat 3, .ofNat 4])] ka_823 [.inl 100000, .inl 0, .inl 0, .inl 0] kan_823 41 = true := ai_ck_of rfl kav_823 (List.forall_mem_cons.mpr ⟨kak_823_e, List.forall_mem_cons.mpr ⟨kak_823_0, List.forall_mem_cons.mpr ⟨kak_823_1, List.forall_mem_cons.mpr ⟨kak_823_2, List.forall_mem_cons.mpr ⟨kak_823_3, fun _ h => absurd h List.not_mem_nil⟩⟩⟩⟩⟩)
theorem kah_823 : ai_holds ka_823 := ai_thm kak_823 (ai_cons kah_375 (ai_cons kah_374 (ai_cons kah_813 (ai_cons kah_814 (ai_cons kah_817 (ai_cons kah_818 (ai_cons kah_819 (ai_cons kah_820 (ai_cons kah_821 (ai_cons kah_822 (ai_cons kah_816 (ai_cons kah_815 (ai_cons kah_402 (ai_cons kah_401 (ai_cons kah_376 (ai_cons kah_378 ai_nil))))))))))))))))

/-! CONTRACTS found by wip/ai/an.py, each held by the kernel. -/
def hkb00_0 : Int × Int := (.negSucc 9223372036854775807, .ofNat 9223372036854775807)
def hkb00_1 : Int × Int := (.ofNat 0, .ofNat 400)
def hkb00_2 : Int × Int := (.ofNat 0, .ofNat 6)
def hkb00_3 : Int × Int := (.negSucc 2147483647, .ofNat 2147483647)
def hkb00_4 : Int × Int := (.ofNat 0, .ofNat 3)
def hkb00_5 : ai_E := [hkb00_0, hkb00_1, hkb00_2, hkb00_1, hkb00_3, hkb00_1, hkb00_4, hkb00_1, hkb00_3]
def hkb00_6 : ai_V := .inr (some (.ref 15))
def hkb00_7 : ai_N := (.negSucc 9223372036854775807, .ofNat 9223372036854775807, [(0, .ofNat 0, .ofNat 0)])
def hkb00_8 : ai_V := .inl (true, hkb00_7)
def hkb00_9 : ai_V := .inr none
def hkb00_10 : Bool × Option ai_C := (false, none)
def hkb00_11 : ai_V := .inr (some (.ref 16))
def hkb00_12 : ai_N := (.ofNat 0, .ofNat 400, [(1, .ofNat 0, .ofNat 0)])
def hkb00_13 : ai_V := .inl (false, hkb00_12)
def hkb00_14 : ai_N := (.ofNat 0, .ofNat 6, [(2, .ofNat 0, .ofNat 0)])
def hkb00_15 : ai_V := .inl (false, hkb00_14)
def hkb00_16 : ai_N := (.ofNat 0, .ofNat 400, [(3, .ofNat 0, .ofNat 0)])
def hkb00_17 : ai_V := .inl (false, hkb00_16)
def hkb00_18 : ai_N := (.negSucc 2147483647, .ofNat 2147483647, [(4, .ofNat 0, .ofNat 0)])
def hkb00_19 : ai_V := .inl (false, hkb00_18)
def hkb00_20 : ai_N := (.ofNat 0, .ofNat 400, [(5, .ofNat 0, .ofNat 0)])
def hkb00_21 : ai_V := .inl (false, hkb00_20)
def hkb00_22 : ai_N := (.ofNat 0, .ofNat 3, [(6, .ofNat 0, .ofNat 0)])
def hkb00_23 : ai_V := .inl (false, hkb00_22)
def hkb00_24 : ai_N := (.ofNat 0, .ofNat 400, [(7, .ofNat 0, .ofNat 0)])
def hkb00_25 : ai_V := .inl (false, hkb00_24)
def hkb00_26 : ai_N := (.negSucc 2147483647, .ofNat 2147483647, [(8, .ofNat 0, .ofNat 0)])
def hkb00_27 : ai_V := .inl (false, hkb00_26)
def hkb00_28 : ai_C := .inr (.inr (5, [hkb00_11, hkb00_13, hkb00_15, hkb00_17, hkb00_9, hkb00_19, hkb00_21, hkb00_23, hkb00_25, hkb00_27]))
def hkb00_29 : Bool × Option ai_C := (false, some hkb00_28)
def hkb00_30 : ai_N := (.negSucc 127, .ofNat 127, [])
def hkb00_31 : ai_C := .inl (.byte, [(400, hkb00_30)])
def hkb00_32 : Bool × Option ai_C := (false, some hkb00_31)
def hkb00_33 : ai_W := [hkb00_10, hkb00_10, hkb00_10, hkb00_10, hkb00_10, hkb00_10, hkb00_10, hkb00_10, hkb00_10, hkb00_10, hkb00_10, hkb00_10, hkb00_10, hkb00_10, hkb00_10, hkb00_29, hkb00_32, hkb00_10, hkb00_10, hkb00_10, hkb00_10, hkb00_10, hkb00_10, hkb00_10, hkb00_10, hkb00_10, hkb00_10, hkb00_10, hkb00_10, hkb00_10, hkb00_10, hkb00_10, hkb00_10, hkb00_10, hkb00_10, hkb00_10, hkb00_10, hkb00_10, hkb00_10, hkb00_10, hkb00_10, hkb00_10, hkb00_10, hkb00_10, hkb00_10, hkb00_10, hkb00_10, hkb00_10, hkb00_10, hkb00_10, hkb00_10, hkb00_10, hkb00_10, hkb00_10, hkb00_10, hkb00_10, hkb00_10, hkb00_10, hkb00_10, hkb00_10, hkb00_10, hkb00_10, hkb00_10, hkb00_10, hkb00_10, hkb00_10, hkb00_10, hkb00_10, hkb00_10, hkb00_10, hkb00_10, hkb00_10, hkb00_10, hkb00_10, hkb00_10, hkb00_10]
def hkb00_34 : ai_N := (.ofNat 0, .ofNat 0, [])
def hkb00_35 : ai_V := .inl (false, hkb00_34)
def hkb00_36 : Int × Int := (.ofNat 393, .ofNat 400)
def hkb00_37 : ai_E := [hkb00_0, hkb00_36, hkb00_2, hkb00_1, hkb00_3, hkb00_1, hkb00_4, hkb00_1, hkb00_3]
def hkb00_38 : ai_N := (.ofNat 1, .ofNat 1, [])
def hkb00_39 : ai_V := .inl (false, hkb00_38)
def hkb00_40 : Int × Int := (.ofNat 0, .ofNat 392)
def hkb00_41 : ai_E := [hkb00_0, hkb00_40, hkb00_2, hkb00_1, hkb00_3, hkb00_1, hkb00_4, hkb00_1, hkb00_3]
def hkb00_42 : ai_N := (.ofNat 8, .ofNat 400, [(1, .ofNat 8, .ofNat 8)])
def hkb00_43 : ai_V := .inl (false, hkb00_42)
def hkb00_44 : ai_C := .inr (.inr (5, [hkb00_11, hkb00_43, hkb00_15, hkb00_17, hkb00_9, hkb00_19, hkb00_21, hkb00_23, hkb00_25, hkb00_27]))
/-- NeverAgain$TextReader.append -/
def kb_0 : ai_K := (92, 0, (hkb00_5, [hkb00_6, hkb00_8, hkb00_9, hkb00_9], [], hkb00_33), [.inl 1, .inr (15, 1), .inr (15, 2), .inr (15, 3), .inr (15, 5), .inr (15, 6), .inr (15, 7), .inr (15, 8), .inr (15, 9)], [(some hkb00_35, hkb00_37, []), (some hkb00_39, hkb00_41, [(15, hkb00_44), (16, hkb00_31)])])
def hkb00_45 : Int × Int := (.ofNat 0, .ofNat 8)
def hkb00_46 : ai_E := [hkb00_0, hkb00_40, hkb00_2, hkb00_1, hkb00_3, hkb00_1, hkb00_4, hkb00_1, hkb00_3, hkb00_45]
def hkb00_47 : ai_N := (.ofNat 0, .ofNat 8, [(9, .ofNat 0, .ofNat 0)])
def hkb00_48 : ai_V := .inl (false, hkb00_47)
def hkb00_49 : ai_N := (.ofNat 0, .ofNat 392, [(1, .ofNat 0, .ofNat 0)])
def hkb00_50 : ai_V := .inl (false, hkb00_49)
def hkb00_51 : ai_C := .inr (.inr (5, [hkb00_11, hkb00_50, hkb00_15, hkb00_17, hkb00_9, hkb00_19, hkb00_21, hkb00_23, hkb00_25, hkb00_27]))
def hkb00_52 : Bool × Option ai_C := (false, some hkb00_51)
def hkb00_53 : Bool × Option ai_C := (true, some hkb00_31)
def hkb00_54 : ai_W := [hkb00_10, hkb00_10, hkb00_10, hkb00_10, hkb00_10, hkb00_10, hkb00_10, hkb00_10, hkb00_10, hkb00_10, hkb00_10, hkb00_10, hkb00_10, hkb00_10, hkb00_10, hkb00_52, hkb00_53, hkb00_10, hkb00_10, hkb00_10, hkb00_10, hkb00_10, hkb00_10, hkb00_10, hkb00_10, hkb00_10, hkb00_10, hkb00_10, hkb00_10, hkb00_10, hkb00_10, hkb00_10, hkb00_10, hkb00_10, hkb00_10, hkb00_10, hkb00_10, hkb00_10, hkb00_10, hkb00_10, hkb00_10, hkb00_10, hkb00_10, hkb00_10, hkb00_10, hkb00_10, hkb00_10, hkb00_10, hkb00_10, hkb00_10, hkb00_10, hkb00_10, hkb00_10, hkb00_10, hkb00_10, hkb00_10, hkb00_10, hkb00_10, hkb00_10, hkb00_10, hkb00_10, hkb00_10, hkb00_10, hkb00_10, hkb00_10, hkb00_10, hkb00_10, hkb00_10, hkb00_10, hkb00_10, hkb00_10, hkb00_10, hkb00_10, hkb00_10, hkb00_10, hkb00_10]
def kbn_0 : List ai_Nd := [(24, (hkb00_46, [hkb00_6, hkb00_8, hkb00_9, hkb00_48], [], hkb00_54), [.inl 3], [.inl 99975, .inl 1, .inr (true, .ofNat 8, 9), .inl 100000])]
set_option maxRecDepth 1000000 in
theorem kbk_0 : ai_ck [] [] kb_0 [.inl 100000, .inl 0, .inl 0, .inl 0] kbn_0 23 = true := by decide +kernel
theorem kbh_0 : ai_holds kb_0 := ai_thm kbk_0 ai_nil
def hkb00_55 : Int × Int := (.ofNat 0, .ofNat 12)
def hkb00_56 : Int × Int := (.ofNat 0, .ofNat 4)
def hkb00_57 : ai_E := [hkb00_0, hkb00_55, hkb00_2, hkb00_56, hkb00_1, hkb00_2, hkb00_1, hkb00_3, hkb00_1, hkb00_4, hkb00_1, hkb00_3]
def hkb00_58 : ai_V := .inr (some (.ref 0))
def hkb00_59 : ai_V := .inr (some (.ref 17))
def hkb00_60 : ai_V := .inr (some (.ref 21))
def hkb00_61 : ai_V := .inr (some (.ref 26))
def hkb00_62 : ai_V := .inr (some (.ref 32))
def hkb00_63 : ai_V := .inr (some (.ref 35))
def hkb00_64 : ai_V := .inr (some (.ref 34))
def hkb00_65 : ai_V := .inr (some (.ref 50))
def hkb00_66 : ai_V := .inr (some (.ref 33))
def hkb00_67 : ai_V := .inr (some (.ref 8))
def hkb00_68 : ai_V := .inr (some (.ref 1))
def hkb00_69 : ai_N := (.ofNat 0, .ofNat 12, [(1, .ofNat 0, .ofNat 0)])
def hkb00_70 : ai_V := .inl (false, hkb00_69)
def hkb00_71 : ai_N := (.ofNat 0, .ofNat 4, [(3, .ofNat 0, .ofNat 0)])
def hkb00_72 : ai_V := .inl (false, hkb00_71)
def hkb00_73 : ai_C := .inr (.inr (7, [hkb00_6, hkb00_59, hkb00_60, hkb00_61, hkb00_62, hkb00_63, hkb00_64, hkb00_65, hkb00_66, hkb00_67, hkb00_68, hkb00_70, hkb00_15, hkb00_72]))
def hkb00_74 : Bool × Option ai_C := (false, some hkb00_73)
def hkb00_75 : ai_N := (.ofNat 0, .ofNat 400, [(4, .ofNat 0, .ofNat 0)])
def hkb00_76 : ai_V := .inl (false, hkb00_75)
def hkb00_77 : ai_N := (.ofNat 0, .ofNat 6, [(5, .ofNat 0, .ofNat 0)])
def hkb00_78 : ai_V := .inl (false, hkb00_77)
def hkb00_79 : ai_N := (.ofNat 0, .ofNat 400, [(6, .ofNat 0, .ofNat 0)])
def hkb00_80 : ai_V := .inl (false, hkb00_79)
def hkb00_81 : ai_N := (.negSucc 2147483647, .ofNat 2147483647, [(7, .ofNat 0, .ofNat 0)])
def hkb00_82 : ai_V := .inl (false, hkb00_81)
def hkb00_83 : ai_N := (.ofNat 0, .ofNat 400, [(8, .ofNat 0, .ofNat 0)])
def hkb00_84 : ai_V := .inl (false, hkb00_83)
def hkb00_85 : ai_N := (.ofNat 0, .ofNat 3, [(9, .ofNat 0, .ofNat 0)])
def hkb00_86 : ai_V := .inl (false, hkb00_85)
def hkb00_87 : ai_N := (.ofNat 0, .ofNat 400, [(10, .ofNat 0, .ofNat 0)])
def hkb00_88 : ai_V := .inl (false, hkb00_87)
def hkb00_89 : ai_N := (.negSucc 2147483647, .ofNat 2147483647, [(11, .ofNat 0, .ofNat 0)])
def hkb00_90 : ai_V := .inl (false, hkb00_89)
def hkb00_91 : ai_C := .inr (.inr (5, [hkb00_11, hkb00_76, hkb00_78, hkb00_80, hkb00_9, hkb00_82, hkb00_84, hkb00_86, hkb00_88, hkb00_90]))
def hkb00_92 : Bool × Option ai_C := (false, some hkb00_91)
def hkb00_93 : ai_W := [hkb00_74, hkb00_10, hkb00_10, hkb00_10, hkb00_10, hkb00_10, hkb00_10, hkb00_10, hkb00_10, hkb00_10, hkb00_10, hkb00_10, hkb00_10, hkb00_10, hkb00_10, hkb00_92, hkb00_32, hkb00_10, hkb00_10, hkb00_10, hkb00_10, hkb00_10, hkb00_10, hkb00_10, hkb00_10, hkb00_10, hkb00_10, hkb00_10, hkb00_10, hkb00_10, hkb00_10, hkb00_10, hkb00_10, hkb00_10, hkb00_10, hkb00_10, hkb00_10, hkb00_10, hkb00_10, hkb00_10, hkb00_10, hkb00_10, hkb00_10, hkb00_10, hkb00_10, hkb00_10, hkb00_10, hkb00_10, hkb00_10, hkb00_10, hkb00_10, hkb00_10, hkb00_10, hkb00_10, hkb00_10, hkb00_10, hkb00_10, hkb00_10, hkb00_10, hkb00_10, hkb00_10, hkb00_10, hkb00_10, hkb00_10, hkb00_10, hkb00_10, hkb00_10, hkb00_10, hkb00_10, hkb00_10, hkb00_10, hkb00_10, hkb00_10, hkb00_10, hkb00_10, hkb00_10]
def hkb00_94 : ai_N := (.ofNat 8, .ofNat 400, [(4, .ofNat 8, .ofNat 8)])
def hkb00_95 : ai_V := .inl (false, hkb00_94)
def hkb00_96 : ai_E := [hkb00_0, hkb00_55, hkb00_2, hkb00_56, hkb00_40, hkb00_2, hkb00_1, hkb00_3, hkb00_1, hkb00_4, hkb00_1, hkb00_3]
def hkb00_97 : ai_C := .inr (.inr (5, [hkb00_11, hkb00_95, hkb00_78, hkb00_80, hkb00_9, hkb00_82, hkb00_84, hkb00_86, hkb00_88, hkb00_90]))
def hkb00_98 : ai_N := (.negSucc 2, .negSucc 2, [])
def hkb00_99 : ai_V := .inl (false, hkb00_98)
def hkb00_100 : ai_E := [hkb00_0, hkb00_55, hkb00_2, hkb00_56, hkb00_36, hkb00_2, hkb00_1, hkb00_3, hkb00_1, hkb00_4, hkb00_1, hkb00_3]
/-- NeverAgain.feed -/
def kb_1 : ai_K := (3, 1, (hkb00_57, [hkb00_58, hkb00_8, hkb00_9], [], hkb00_93), [.inl 1, .inr (0, 11), .inr (0, 12), .inr (0, 13), .inr (15, 1), .inr (15, 2), .inr (15, 3), .inr (15, 5), .inr (15, 6), .inr (15, 7), .inr (15, 8), .inr (15, 9)], [(some hkb00_95, hkb00_96, [(15, hkb00_97), (16, hkb00_31)]), (some hkb00_99, hkb00_100, [])])
def kbn_1 : List ai_Nd := []
set_option maxRecDepth 1000000 in
theorem kbk_1 : ai_ck [kb_0] [] kb_1 [.inl 100000] kbn_1 11 = true := by decide +kernel
theorem kbh_1 : ai_holds kb_1 := ai_thm kbk_1 (ai_cons kbh_0 ai_nil)
def hkb00_101 : ai_E := [hkb00_3, hkb00_55, hkb00_2, hkb00_56, hkb00_1, hkb00_2, hkb00_1, hkb00_3, hkb00_1, hkb00_4, hkb00_1, hkb00_3]
def hkb00_102 : ai_N := (.negSucc 2147483647, .ofNat 2147483647, [(0, .ofNat 0, .ofNat 0)])
def hkb00_103 : ai_V := .inl (false, hkb00_102)
def hkb00_104 : ai_W := [hkb00_74, hkb00_10, hkb00_10, hkb00_10, hkb00_10, hkb00_10, hkb00_10, hkb00_10, hkb00_10, hkb00_10, hkb00_10, hkb00_10, hkb00_10, hkb00_10, hkb00_10, hkb00_92, hkb00_10, hkb00_10, hkb00_10, hkb00_10, hkb00_10, hkb00_10, hkb00_10, hkb00_10, hkb00_10, hkb00_10, hkb00_10, hkb00_10, hkb00_10, hkb00_10, hkb00_10, hkb00_10, hkb00_10, hkb00_10, hkb00_10, hkb00_10, hkb00_10, hkb00_10, hkb00_10, hkb00_10, hkb00_10, hkb00_10, hkb00_10, hkb00_10, hkb00_10, hkb00_10, hkb00_10, hkb00_10, hkb00_10, hkb00_10, hkb00_10, hkb00_10, hkb00_10, hkb00_10, hkb00_10, hkb00_10, hkb00_10, hkb00_10, hkb00_10, hkb00_10, hkb00_10, hkb00_10, hkb00_10, hkb00_10, hkb00_10, hkb00_10, hkb00_10, hkb00_10, hkb00_10, hkb00_10, hkb00_10, hkb00_10, hkb00_10, hkb00_10, hkb00_10, hkb00_10]
def hkb00_105 : ai_N := (.negSucc 0, .negSucc 0, [])
def hkb00_106 : ai_V := .inl (false, hkb00_105)
def hkb00_107 : Int × Int := (.ofNat 1, .ofNat 2147483647)
def hkb00_108 : ai_E := [hkb00_107, hkb00_55, hkb00_2, hkb00_56, hkb00_1, hkb00_2, hkb00_1, hkb00_3, hkb00_1, hkb00_4, hkb00_1, hkb00_3]
def hkb00_109 : ai_E := [hkb00_1, hkb00_55, hkb00_2, hkb00_56, hkb00_1, hkb00_2, hkb00_1, hkb00_3, hkb00_1, hkb00_4, hkb00_1, hkb00_3]
def hkb00_110 : ai_N := (.ofNat 0, .ofNat 400, [(0, .ofNat 0, .ofNat 0)])
def hkb00_111 : ai_V := .inl (false, hkb00_110)
def hkb00_112 : ai_C := .inr (.inr (5, [hkb00_11, hkb00_111, hkb00_78, hkb00_80, hkb00_9, hkb00_82, hkb00_84, hkb00_86, hkb00_88, hkb00_90]))
def hkb00_113 : Int × Int := (.negSucc 2147483647, .negSucc 0)
def hkb00_114 : ai_E := [hkb00_113, hkb00_55, hkb00_2, hkb00_56, hkb00_1, hkb00_2, hkb00_1, hkb00_3, hkb00_1, hkb00_4, hkb00_1, hkb00_3]
/-- NeverAgain.end -/
def kb_2 : ai_K := (5, 0, (hkb00_101, [hkb00_58, hkb00_103, hkb00_9], [], hkb00_104), [.inl 1, .inr (0, 11), .inr (0, 12), .inr (0, 13), .inr (15, 1), .inr (15, 2), .inr (15, 3), .inr (15, 5), .inr (15, 6), .inr (15, 7), .inr (15, 8), .inr (15, 9)], [(some hkb00_106, hkb00_108, []), (some hkb00_76, hkb00_109, [(15, hkb00_112)]), (some hkb00_106, hkb00_114, [])])
def kbn_2 : List ai_Nd := []
set_option maxRecDepth 1000000 in
theorem kbk_2 : ai_ck [] [] kb_2 [.inl 100000] kbn_2 16 = true := by decide +kernel
theorem kbh_2 : ai_holds kb_2 := ai_thm kbk_2 ai_nil
def hkb00_115 : ai_V := .inr (some (.ref 2))
def hkb00_116 : ai_N := (.negSucc 2147483647, .ofNat 2147483647, [])
def hkb00_117 : ai_C := .inl (.int, [(4, hkb00_116)])
def hkb00_118 : Bool × Option ai_C := (false, some hkb00_117)
def hkb00_119 : ai_W := [hkb00_10, hkb00_10, hkb00_118, hkb00_10, hkb00_10, hkb00_10, hkb00_10, hkb00_10, hkb00_10, hkb00_10, hkb00_10, hkb00_10, hkb00_10, hkb00_10, hkb00_10, hkb00_10, hkb00_10, hkb00_10, hkb00_10, hkb00_10, hkb00_10, hkb00_10, hkb00_10, hkb00_10, hkb00_10, hkb00_10, hkb00_10, hkb00_10, hkb00_10, hkb00_10, hkb00_10, hkb00_10, hkb00_10, hkb00_10, hkb00_10, hkb00_10, hkb00_10, hkb00_10, hkb00_10, hkb00_10, hkb00_10, hkb00_10, hkb00_10, hkb00_10, hkb00_10, hkb00_10, hkb00_10, hkb00_10, hkb00_10, hkb00_10, hkb00_10, hkb00_10, hkb00_10, hkb00_10, hkb00_10, hkb00_10, hkb00_10, hkb00_10, hkb00_10, hkb00_10, hkb00_10, hkb00_10, hkb00_10, hkb00_10, hkb00_10, hkb00_10, hkb00_10, hkb00_10, hkb00_10, hkb00_10, hkb00_10, hkb00_10, hkb00_10, hkb00_10, hkb00_10, hkb00_10]
/-- java/util/Arrays.fill -/
def kb_3 : ai_K := (162, 0, ([], [hkb00_115, hkb00_39, hkb00_9, hkb00_9], [], hkb00_119), [], [(none, [], [(2, hkb00_117)])])
def hkb00_120 : ai_N := (.ofNat 0, .ofNat 4, [(0, .ofNat 0, .ofNat 0)])
def hkb00_121 : ai_V := .inl (false, hkb00_120)
def hkb00_122 : ai_N := (.ofNat 4, .ofNat 4, [])
def hkb00_123 : ai_V := .inl (false, hkb00_122)
def hkb00_124 : Bool × Option ai_C := (true, some hkb00_117)
def hkb00_125 : ai_W := [hkb00_10, hkb00_10, hkb00_124, hkb00_10, hkb00_10, hkb00_10, hkb00_10, hkb00_10, hkb00_10, hkb00_10, hkb00_10, hkb00_10, hkb00_10, hkb00_10, hkb00_10, hkb00_10, hkb00_10, hkb00_10, hkb00_10, hkb00_10, hkb00_10, hkb00_10, hkb00_10, hkb00_10, hkb00_10, hkb00_10, hkb00_10, hkb00_10, hkb00_10, hkb00_10, hkb00_10, hkb00_10, hkb00_10, hkb00_10, hkb00_10, hkb00_10, hkb00_10, hkb00_10, hkb00_10, hkb00_10, hkb00_10, hkb00_10, hkb00_10, hkb00_10, hkb00_10, hkb00_10, hkb00_10, hkb00_10, hkb00_10, hkb00_10, hkb00_10, hkb00_10, hkb00_10, hkb00_10, hkb00_10, hkb00_10, hkb00_10, hkb00_10, hkb00_10, hkb00_10, hkb00_10, hkb00_10, hkb00_10, hkb00_10, hkb00_10, hkb00_10, hkb00_10, hkb00_10, hkb00_10, hkb00_10, hkb00_10, hkb00_10, hkb00_10, hkb00_10, hkb00_10, hkb00_10]
def kbn_3 : List ai_Nd := [(5, ([hkb00_56], [hkb00_115, hkb00_39, hkb00_121, hkb00_123], [], hkb00_125), [.inl 2], [.inl 99994, .inl 1, .inr (true, .ofNat 4, 0), .inl 100000])]
set_option maxRecDepth 1000000 in
theorem kbk_3 : ai_ck [] [] kb_3 [.inl 100000, .inl 0, .inl 0, .inl 0] kbn_3 11 = true := by decide +kernel
theorem kbh_3 : ai_holds kb_3 := ai_thm kbk_3 ai_nil
def hkb00_126 : ai_V := .inr (some (.ref 3))
def hkb00_127 : ai_N := (.negSucc 3, .negSucc 3, [])
def hkb00_128 : ai_V := .inl (false, hkb00_127)
def hkb00_129 : ai_C := .inl (.int, [(17, hkb00_116)])
def hkb00_130 : Bool × Option ai_C := (false, some hkb00_129)
def hkb00_131 : ai_W := [hkb00_10, hkb00_10, hkb00_10, hkb00_130, hkb00_10, hkb00_10, hkb00_10, hkb00_10, hkb00_10, hkb00_10, hkb00_10, hkb00_10, hkb00_10, hkb00_10, hkb00_10, hkb00_10, hkb00_10, hkb00_10, hkb00_10, hkb00_10, hkb00_10, hkb00_10, hkb00_10, hkb00_10, hkb00_10, hkb00_10, hkb00_10, hkb00_10, hkb00_10, hkb00_10, hkb00_10, hkb00_10, hkb00_10, hkb00_10, hkb00_10, hkb00_10, hkb00_10, hkb00_10, hkb00_10, hkb00_10, hkb00_10, hkb00_10, hkb00_10, hkb00_10, hkb00_10, hkb00_10, hkb00_10, hkb00_10, hkb00_10, hkb00_10, hkb00_10, hkb00_10, hkb00_10, hkb00_10, hkb00_10, hkb00_10, hkb00_10, hkb00_10, hkb00_10, hkb00_10, hkb00_10, hkb00_10, hkb00_10, hkb00_10, hkb00_10, hkb00_10, hkb00_10, hkb00_10, hkb00_10, hkb00_10, hkb00_10, hkb00_10, hkb00_10, hkb00_10, hkb00_10, hkb00_10]
/-- java/util/Arrays.fill -/
def kb_4 : ai_K := (162, 0, ([], [hkb00_126, hkb00_128, hkb00_9, hkb00_9], [], hkb00_131), [], [(none, [], [(3, hkb00_129)])])
def hkb00_132 : Int × Int := (.ofNat 0, .ofNat 17)
def hkb00_133 : ai_N := (.ofNat 0, .ofNat 17, [(0, .ofNat 0, .ofNat 0)])
def hkb00_134 : ai_V := .inl (false, hkb00_133)
def hkb00_135 : ai_N := (.ofNat 17, .ofNat 17, [])
def hkb00_136 : ai_V := .inl (false, hkb00_135)
def hkb00_137 : Bool × Option ai_C := (true, some hkb00_129)
def hkb00_138 : ai_W := [hkb00_10, hkb00_10, hkb00_10, hkb00_137, hkb00_10, hkb00_10, hkb00_10, hkb00_10, hkb00_10, hkb00_10, hkb00_10, hkb00_10, hkb00_10, hkb00_10, hkb00_10, hkb00_10, hkb00_10, hkb00_10, hkb00_10, hkb00_10, hkb00_10, hkb00_10, hkb00_10, hkb00_10, hkb00_10, hkb00_10, hkb00_10, hkb00_10, hkb00_10, hkb00_10, hkb00_10, hkb00_10, hkb00_10, hkb00_10, hkb00_10, hkb00_10, hkb00_10, hkb00_10, hkb00_10, hkb00_10, hkb00_10, hkb00_10, hkb00_10, hkb00_10, hkb00_10, hkb00_10, hkb00_10, hkb00_10, hkb00_10, hkb00_10, hkb00_10, hkb00_10, hkb00_10, hkb00_10, hkb00_10, hkb00_10, hkb00_10, hkb00_10, hkb00_10, hkb00_10, hkb00_10, hkb00_10, hkb00_10, hkb00_10, hkb00_10, hkb00_10, hkb00_10, hkb00_10, hkb00_10, hkb00_10, hkb00_10, hkb00_10, hkb00_10, hkb00_10, hkb00_10, hkb00_10]
def kbn_4 : List ai_Nd := [(5, ([hkb00_132], [hkb00_126, hkb00_128, hkb00_134, hkb00_136], [], hkb00_138), [.inl 2], [.inl 99994, .inl 1, .inr (true, .ofNat 17, 0), .inl 100000])]
set_option maxRecDepth 1000000 in
theorem kbk_4 : ai_ck [] [] kb_4 [.inl 100000, .inl 0, .inl 0, .inl 0] kbn_4 11 = true := by decide +kernel
theorem kbh_4 : ai_holds kb_4 := ai_thm kbk_4 ai_nil
def hkb00_139 : Int × Int := (.ofNat 4, .ofNat 16)
def hkb00_140 : Int × Int := (.ofNat 1, .ofNat 4)
def hkb00_141 : Int × Int := (.ofNat 0, .ofNat 60)
def hkb00_142 : Int × Int := (.ofNat 0, .ofNat 5)
def hkb00_143 : ai_E := [hkb00_139, hkb00_140, hkb00_3, hkb00_3, hkb00_3, hkb00_141, hkb00_142, hkb00_56]
def hkb00_144 : ai_V := .inr (some (.ref 4))
def hkb00_145 : ai_V := .inr (some (.ref 5))
def hkb00_146 : ai_V := .inr (some (.ref 6))
def hkb00_147 : ai_V := .inr (some (.ref 7))
def hkb00_148 : ai_N := (.ofNat 4, .ofNat 16, [(0, .ofNat 0, .ofNat 0)])
def hkb00_149 : ai_V := .inl (false, hkb00_148)
def hkb00_150 : ai_N := (.ofNat 1, .ofNat 4, [(1, .ofNat 0, .ofNat 0)])
def hkb00_151 : ai_V := .inl (false, hkb00_150)
def hkb00_152 : ai_N := (.negSucc 2147483647, .ofNat 2147483647, [(2, .ofNat 0, .ofNat 0)])
def hkb00_153 : ai_V := .inl (false, hkb00_152)
def hkb00_154 : ai_N := (.negSucc 2147483647, .ofNat 2147483647, [(3, .ofNat 0, .ofNat 0)])
def hkb00_155 : ai_V := .inl (false, hkb00_154)
def hkb00_156 : ai_N := (.ofNat 0, .ofNat 60, [(5, .ofNat 0, .ofNat 0)])
def hkb00_157 : ai_V := .inl (false, hkb00_156)
def hkb00_158 : ai_N := (.ofNat 0, .ofNat 5, [(6, .ofNat 0, .ofNat 0)])
def hkb00_159 : ai_V := .inl (false, hkb00_158)
def hkb00_160 : ai_N := (.ofNat 0, .ofNat 4, [(7, .ofNat 0, .ofNat 0)])
def hkb00_161 : ai_V := .inl (false, hkb00_160)
def hkb00_162 : ai_C := .inr (.inr (6, [hkb00_115, hkb00_126, hkb00_144, hkb00_145, hkb00_146, hkb00_147, hkb00_149, hkb00_151, hkb00_153, hkb00_155, hkb00_19, hkb00_157, hkb00_159, hkb00_161]))
def hkb00_163 : Bool × Option ai_C := (false, some hkb00_162)
def hkb00_164 : ai_W := [hkb00_10, hkb00_163, hkb00_118, hkb00_130, hkb00_10, hkb00_10, hkb00_10, hkb00_10, hkb00_10, hkb00_10, hkb00_10, hkb00_10, hkb00_10, hkb00_10, hkb00_10, hkb00_10, hkb00_10, hkb00_10, hkb00_10, hkb00_10, hkb00_10, hkb00_10, hkb00_10, hkb00_10, hkb00_10, hkb00_10, hkb00_10, hkb00_10, hkb00_10, hkb00_10, hkb00_10, hkb00_10, hkb00_10, hkb00_10, hkb00_10, hkb00_10, hkb00_10, hkb00_10, hkb00_10, hkb00_10, hkb00_10, hkb00_10, hkb00_10, hkb00_10, hkb00_10, hkb00_10, hkb00_10, hkb00_10, hkb00_10, hkb00_10, hkb00_10, hkb00_10, hkb00_10, hkb00_10, hkb00_10, hkb00_10, hkb00_10, hkb00_10, hkb00_10, hkb00_10, hkb00_10, hkb00_10, hkb00_10, hkb00_10, hkb00_10, hkb00_10, hkb00_10, hkb00_10, hkb00_10, hkb00_10, hkb00_10, hkb00_10, hkb00_10, hkb00_10, hkb00_10, hkb00_10]
def hkb00_165 : ai_N := (.ofNat 12, .ofNat 12, [])
def hkb00_166 : ai_V := .inl (false, hkb00_165)
def hkb00_167 : ai_N := (.ofNat 2, .ofNat 2, [])
def hkb00_168 : ai_V := .inl (false, hkb00_167)
def hkb00_169 : ai_C := .inr (.inr (6, [hkb00_115, hkb00_126, hkb00_144, hkb00_145, hkb00_146, hkb00_147, hkb00_166, hkb00_168, hkb00_35, hkb00_35, hkb00_35, hkb00_35, hkb00_35, hkb00_35]))
/-- NeverAgain$Told.makeFirst -/
def kb_5 : ai_K := (154, 1, (hkb00_143, [hkb00_68], [], hkb00_164), [.inr (1, 6), .inr (1, 7), .inr (1, 8), .inr (1, 9), .inr (1, 10), .inr (1, 11), .inr (1, 12), .inr (1, 13)], [(none, hkb00_143, [(1, hkb00_169), (2, hkb00_117), (3, hkb00_129)])])
def kbn_5 : List ai_Nd := []
set_option maxRecDepth 1000000 in
theorem kbk_5 : ai_ck [kb_3, kb_4] [] kb_5 [.inl 100000] kbn_5 34 = true := by decide +kernel
theorem kbh_5 : ai_holds kb_5 := ai_thm kbk_5 (ai_cons kbh_3 (ai_cons kbh_4 ai_nil))
def hkb00_170 : ai_E := [hkb00_3, hkb00_1, hkb00_2, hkb00_1, hkb00_3, hkb00_1, hkb00_4, hkb00_1, hkb00_3]
def hkb00_171 : ai_C := .inr (.inr (5, [hkb00_11, hkb00_13, hkb00_15, hkb00_17, hkb00_68, hkb00_19, hkb00_21, hkb00_23, hkb00_25, hkb00_27]))
def hkb00_172 : Bool × Option ai_C := (false, some hkb00_171)
def hkb00_173 : ai_W := [hkb00_10, hkb00_10, hkb00_10, hkb00_10, hkb00_10, hkb00_10, hkb00_10, hkb00_10, hkb00_10, hkb00_10, hkb00_10, hkb00_10, hkb00_10, hkb00_10, hkb00_10, hkb00_172, hkb00_32, hkb00_10, hkb00_10, hkb00_10, hkb00_10, hkb00_10, hkb00_10, hkb00_10, hkb00_10, hkb00_10, hkb00_10, hkb00_10, hkb00_10, hkb00_10, hkb00_10, hkb00_10, hkb00_10, hkb00_10, hkb00_10, hkb00_10, hkb00_10, hkb00_10, hkb00_10, hkb00_10, hkb00_10, hkb00_10, hkb00_10, hkb00_10, hkb00_10, hkb00_10, hkb00_10, hkb00_10, hkb00_10, hkb00_10, hkb00_10, hkb00_10, hkb00_10, hkb00_10, hkb00_10, hkb00_10, hkb00_10, hkb00_10, hkb00_10, hkb00_10, hkb00_10, hkb00_10, hkb00_10, hkb00_10, hkb00_10, hkb00_10, hkb00_10, hkb00_10, hkb00_10, hkb00_10, hkb00_10, hkb00_10, hkb00_10, hkb00_10, hkb00_10, hkb00_10]
def hkb00_174 : ai_V := .inl (false, hkb00_30)
def hkb00_175 : Int × Int := (.ofNat 0, .ofNat 399)
def hkb00_176 : Int × Int := (.ofNat 1, .ofNat 400)
def hkb00_177 : ai_E := [hkb00_175, hkb00_176, hkb00_2, hkb00_1, hkb00_3, hkb00_1, hkb00_4, hkb00_1, hkb00_3]
/-- NeverAgain$TextReader.byteAt -/
def kb_6 : ai_K := (178, 0, (hkb00_170, [hkb00_6, hkb00_103], [], hkb00_173), [.inl 1, .inr (15, 1), .inr (15, 2), .inr (15, 3), .inr (15, 5), .inr (15, 6), .inr (15, 7), .inr (15, 8), .inr (15, 9)], [(some hkb00_174, hkb00_177, []), (some hkb00_35, hkb00_170, [])])
def kbn_6 : List ai_Nd := []
set_option maxRecDepth 1000000 in
theorem kbk_6 : ai_ck [] [] kb_6 [.inl 100000] kbn_6 16 = true := by decide +kernel
theorem kbh_6 : ai_holds kb_6 := ai_thm kbk_6 ai_nil
def hkb00_178 : ai_W := [hkb00_10, hkb00_10, hkb00_10, hkb00_10, hkb00_10, hkb00_10, hkb00_10, hkb00_10, hkb00_10, hkb00_10, hkb00_10, hkb00_10, hkb00_10, hkb00_10, hkb00_10, hkb00_10, hkb00_10, hkb00_10, hkb00_10, hkb00_10, hkb00_10, hkb00_10, hkb00_10, hkb00_10, hkb00_10, hkb00_10, hkb00_10, hkb00_10, hkb00_10, hkb00_10, hkb00_10, hkb00_10, hkb00_10, hkb00_10, hkb00_10, hkb00_10, hkb00_10, hkb00_10, hkb00_10, hkb00_10, hkb00_10, hkb00_10, hkb00_10, hkb00_10, hkb00_10, hkb00_10, hkb00_10, hkb00_10, hkb00_10, hkb00_10, hkb00_10, hkb00_10, hkb00_10, hkb00_10, hkb00_10, hkb00_10, hkb00_10, hkb00_10, hkb00_10, hkb00_10, hkb00_10, hkb00_10, hkb00_10, hkb00_10, hkb00_10, hkb00_10, hkb00_10, hkb00_10, hkb00_10, hkb00_10, hkb00_10, hkb00_10, hkb00_10, hkb00_10, hkb00_10, hkb00_10]
/-- NeverAgain$TextReader.isLetter -/
def kb_7 : ai_K := (179, 0, ([], [hkb00_35], [], hkb00_178), [], [(some hkb00_35, [], [])])
def kbn_7 : List ai_Nd := []
set_option maxRecDepth 1000000 in
theorem kbk_7 : ai_ck [] [] kb_7 [.inl 100000] kbn_7 6 = true := by decide +kernel
theorem kbh_7 : ai_holds kb_7 := ai_thm kbk_7 ai_nil
def hkb00_179 : Int × Int := (.ofNat 97, .ofNat 122)
def hkb00_180 : Int × Int := (.ofNat 123, .ofNat 2147483647)
def hkb00_181 : Int × Int := (.negSucc 2147483647, .ofNat 96)
/-- NeverAgain$TextReader.isLetter -/
def kb_8 : ai_K := (179, 0, ([hkb00_3], [hkb00_103], [], hkb00_178), [.inl 0], [(some hkb00_39, [hkb00_179], []), (some hkb00_35, [hkb00_180], []), (some hkb00_35, [hkb00_181], [])])
def kbn_8 : List ai_Nd := []
set_option maxRecDepth 1000000 in
theorem kbk_8 : ai_ck [] [] kb_8 [.inl 100000] kbn_8 10 = true := by decide +kernel
theorem kbh_8 : ai_holds kb_8 := ai_thm kbk_8 ai_nil
/-- NeverAgain$TextReader.isFigure -/
def kb_9 : ai_K := (180, 0, ([], [hkb00_35], [], hkb00_178), [], [(some hkb00_35, [], [])])
def kbn_9 : List ai_Nd := []
set_option maxRecDepth 1000000 in
theorem kbk_9 : ai_ck [] [] kb_9 [.inl 100000] kbn_9 6 = true := by decide +kernel
theorem kbh_9 : ai_holds kb_9 := ai_thm kbk_9 ai_nil
def hkb00_182 : ai_W := [hkb00_10, hkb00_10, hkb00_10, hkb00_10, hkb00_10, hkb00_10, hkb00_10, hkb00_10, hkb00_10, hkb00_10, hkb00_10, hkb00_10, hkb00_10, hkb00_10, hkb00_10, hkb00_172, hkb00_10, hkb00_10, hkb00_10, hkb00_10, hkb00_10, hkb00_10, hkb00_10, hkb00_10, hkb00_10, hkb00_10, hkb00_10, hkb00_10, hkb00_10, hkb00_10, hkb00_10, hkb00_10, hkb00_10, hkb00_10, hkb00_10, hkb00_10, hkb00_10, hkb00_10, hkb00_10, hkb00_10, hkb00_10, hkb00_10, hkb00_10, hkb00_10, hkb00_10, hkb00_10, hkb00_10, hkb00_10, hkb00_10, hkb00_10, hkb00_10, hkb00_10, hkb00_10, hkb00_10, hkb00_10, hkb00_10, hkb00_10, hkb00_10, hkb00_10, hkb00_10, hkb00_10, hkb00_10, hkb00_10, hkb00_10, hkb00_10, hkb00_10, hkb00_10, hkb00_10, hkb00_10, hkb00_10, hkb00_10, hkb00_10, hkb00_10, hkb00_10, hkb00_10, hkb00_10]
def hkb00_183 : ai_C := .inr (.inr (5, [hkb00_11, hkb00_13, hkb00_39, hkb00_103, hkb00_68, hkb00_19, hkb00_21, hkb00_23, hkb00_25, hkb00_27]))
/-- NeverAgain$TextReader.fail -/
def kb_10 : ai_K := (158, 0, (hkb00_170, [hkb00_6, hkb00_39, hkb00_103], [], hkb00_182), [.inl 2, .inr (15, 1), .inr (15, 2), .inr (15, 3), .inr (15, 5), .inr (15, 6), .inr (15, 7), .inr (15, 8), .inr (15, 9)], [(some hkb00_35, hkb00_170, [(15, hkb00_183)])])
def kbn_10 : List ai_Nd := []
set_option maxRecDepth 1000000 in
theorem kbk_10 : ai_ck [] [] kb_10 [.inl 100000] kbn_10 9 = true := by decide +kernel
theorem kbh_10 : ai_holds kb_10 := ai_thm kbk_10 ai_nil
def hkb00_184 : Int × Int := (.ofNat 48, .ofNat 57)
def hkb00_185 : Int × Int := (.ofNat 58, .ofNat 2147483647)
def hkb00_186 : Int × Int := (.negSucc 2147483647, .ofNat 47)
/-- NeverAgain$TextReader.isFigure -/
def kb_11 : ai_K := (180, 0, ([hkb00_3], [hkb00_103], [], hkb00_178), [.inl 0], [(some hkb00_39, [hkb00_184], []), (some hkb00_35, [hkb00_185], []), (some hkb00_35, [hkb00_186], [])])
def kbn_11 : List ai_Nd := []
set_option maxRecDepth 1000000 in
theorem kbk_11 : ai_ck [] [] kb_11 [.inl 100000] kbn_11 10 = true := by decide +kernel
theorem kbh_11 : ai_holds kb_11 := ai_thm kbk_11 ai_nil
def hkb00_187 : ai_E := [hkb00_1, hkb00_2, hkb00_1, hkb00_3, hkb00_1, hkb00_4, hkb00_1, hkb00_3]
def hkb00_188 : ai_N := (.ofNat 0, .ofNat 6, [(1, .ofNat 0, .ofNat 0)])
def hkb00_189 : ai_V := .inl (false, hkb00_188)
def hkb00_190 : ai_N := (.ofNat 0, .ofNat 400, [(2, .ofNat 0, .ofNat 0)])
def hkb00_191 : ai_V := .inl (false, hkb00_190)
def hkb00_192 : ai_N := (.ofNat 0, .ofNat 3, [(5, .ofNat 0, .ofNat 0)])
def hkb00_193 : ai_V := .inl (false, hkb00_192)
def hkb00_194 : ai_C := .inr (.inr (5, [hkb00_11, hkb00_111, hkb00_189, hkb00_191, hkb00_68, hkb00_155, hkb00_76, hkb00_193, hkb00_80, hkb00_82]))
def hkb00_195 : Bool × Option ai_C := (false, some hkb00_194)
def hkb00_196 : ai_W := [hkb00_10, hkb00_10, hkb00_10, hkb00_10, hkb00_10, hkb00_10, hkb00_10, hkb00_10, hkb00_10, hkb00_10, hkb00_10, hkb00_10, hkb00_10, hkb00_10, hkb00_10, hkb00_195, hkb00_32, hkb00_10, hkb00_10, hkb00_10, hkb00_10, hkb00_10, hkb00_10, hkb00_10, hkb00_10, hkb00_10, hkb00_10, hkb00_10, hkb00_10, hkb00_10, hkb00_10, hkb00_10, hkb00_10, hkb00_10, hkb00_10, hkb00_10, hkb00_10, hkb00_10, hkb00_10, hkb00_10, hkb00_10, hkb00_10, hkb00_10, hkb00_10, hkb00_10, hkb00_10, hkb00_10, hkb00_10, hkb00_10, hkb00_10, hkb00_10, hkb00_10, hkb00_10, hkb00_10, hkb00_10, hkb00_10, hkb00_10, hkb00_10, hkb00_10, hkb00_10, hkb00_10, hkb00_10, hkb00_10, hkb00_10, hkb00_10, hkb00_10, hkb00_10, hkb00_10, hkb00_10, hkb00_10, hkb00_10, hkb00_10, hkb00_10, hkb00_10, hkb00_10, hkb00_10]
def hkb00_197 : ai_N := (.ofNat 0, .ofNat 400, [(4, .ofNat 0, .ofNat 400)])
def hkb00_198 : ai_V := .inl (false, hkb00_197)
def hkb00_199 : ai_N := (.ofNat 3, .ofNat 3, [])
def hkb00_200 : ai_V := .inl (false, hkb00_199)
def hkb00_201 : ai_C := .inr (.inr (5, [hkb00_11, hkb00_111, hkb00_189, hkb00_191, hkb00_68, hkb00_155, hkb00_198, hkb00_200, hkb00_198, hkb00_82]))
def hkb00_202 : ai_E := [hkb00_176, hkb00_2, hkb00_1, hkb00_3, hkb00_175, hkb00_4, hkb00_1, hkb00_3]
def hkb00_203 : ai_N := (.ofNat 1, .ofNat 400, [(0, .ofNat 0, .ofNat 0)])
def hkb00_204 : ai_V := .inl (false, hkb00_203)
def hkb00_205 : ai_N := (.ofNat 1, .ofNat 400, [(4, .ofNat 1, .ofNat 400)])
def hkb00_206 : ai_V := .inl (false, hkb00_205)
def hkb00_207 : ai_N := (.ofNat 0, .ofNat 399, [(4, .ofNat 0, .ofNat 399)])
def hkb00_208 : ai_V := .inl (false, hkb00_207)
def hkb00_209 : ai_C := .inr (.inr (5, [hkb00_11, hkb00_204, hkb00_189, hkb00_191, hkb00_68, hkb00_155, hkb00_206, hkb00_168, hkb00_208, hkb00_82]))
def hkb00_210 : ai_N := (.ofNat 1, .ofNat 400, [(4, .ofNat 0, .ofNat 400)])
def hkb00_211 : ai_V := .inl (false, hkb00_210)
def hkb00_212 : ai_C := .inr (.inr (5, [hkb00_11, hkb00_204, hkb00_189, hkb00_191, hkb00_68, hkb00_155, hkb00_211, hkb00_35, hkb00_208, hkb00_82]))
def hkb00_213 : ai_V := .inl (false, hkb00_116)
def hkb00_214 : ai_C := .inr (.inr (5, [hkb00_11, hkb00_204, hkb00_189, hkb00_191, hkb00_68, hkb00_155, hkb00_211, hkb00_39, hkb00_208, hkb00_213]))
def hkb00_215 : ai_C := .inr (.inr (5, [hkb00_11, hkb00_204, hkb00_39, hkb00_208, hkb00_68, hkb00_155, hkb00_198, hkb00_39, hkb00_208, hkb00_213]))
/-- NeverAgain$TextReader.nextToken -/
def kb_12 : ai_K := (155, 1, (hkb00_187, [hkb00_6, hkb00_9], [], hkb00_196), [.inr (15, 1), .inr (15, 2), .inr (15, 3), .inr (15, 5), .inr (15, 6), .inr (15, 7), .inr (15, 8), .inr (15, 9)], [(some hkb00_39, hkb00_187, [(15, hkb00_201)]), (some hkb00_39, hkb00_202, [(15, hkb00_209)]), (some hkb00_39, hkb00_202, [(15, hkb00_212)]), (some hkb00_39, hkb00_202, [(15, hkb00_214)]), (some hkb00_35, hkb00_202, [(15, hkb00_215)])])
def hkb00_216 : ai_E := [hkb00_176, hkb00_2, hkb00_1, hkb00_3, hkb00_175, hkb00_4, hkb00_1, hkb00_3, hkb00_1]
def hkb00_217 : ai_N := (.ofNat 0, .ofNat 400, [(8, .ofNat 0, .ofNat 0), (4, .ofNat 0, .ofNat 400)])
def hkb00_218 : ai_V := .inl (false, hkb00_217)
def hkb00_219 : ai_C := .inr (.inr (5, [hkb00_11, hkb00_204, hkb00_189, hkb00_191, hkb00_68, hkb00_155, hkb00_218, hkb00_35, hkb00_208, hkb00_82]))
def hkb00_220 : Bool × Option ai_C := (true, some hkb00_219)
def hkb00_221 : ai_W := [hkb00_10, hkb00_10, hkb00_10, hkb00_10, hkb00_10, hkb00_10, hkb00_10, hkb00_10, hkb00_10, hkb00_10, hkb00_10, hkb00_10, hkb00_10, hkb00_10, hkb00_10, hkb00_220, hkb00_32, hkb00_10, hkb00_10, hkb00_10, hkb00_10, hkb00_10, hkb00_10, hkb00_10, hkb00_10, hkb00_10, hkb00_10, hkb00_10, hkb00_10, hkb00_10, hkb00_10, hkb00_10, hkb00_10, hkb00_10, hkb00_10, hkb00_10, hkb00_10, hkb00_10, hkb00_10, hkb00_10, hkb00_10, hkb00_10, hkb00_10, hkb00_10, hkb00_10, hkb00_10, hkb00_10, hkb00_10, hkb00_10, hkb00_10, hkb00_10, hkb00_10, hkb00_10, hkb00_10, hkb00_10, hkb00_10, hkb00_10, hkb00_10, hkb00_10, hkb00_10, hkb00_10, hkb00_10, hkb00_10, hkb00_10, hkb00_10, hkb00_10, hkb00_10, hkb00_10, hkb00_10, hkb00_10, hkb00_10, hkb00_10, hkb00_10, hkb00_10, hkb00_10, hkb00_10]
def hkb00_222 : ai_E := [hkb00_176, hkb00_2, hkb00_1, hkb00_3, hkb00_175, hkb00_4, hkb00_1, hkb00_3, hkb00_176]
def hkb00_223 : ai_N := (.ofNat 1, .ofNat 400, [(8, .ofNat 0, .ofNat 0), (4, .ofNat 1, .ofNat 400)])
def hkb00_224 : ai_V := .inl (false, hkb00_223)
def hkb00_225 : ai_C := .inr (.inr (5, [hkb00_11, hkb00_204, hkb00_189, hkb00_191, hkb00_68, hkb00_155, hkb00_224, hkb00_193, hkb00_80, hkb00_82]))
def hkb00_226 : Bool × Option ai_C := (true, some hkb00_225)
def hkb00_227 : ai_W := [hkb00_10, hkb00_10, hkb00_10, hkb00_10, hkb00_10, hkb00_10, hkb00_10, hkb00_10, hkb00_10, hkb00_10, hkb00_10, hkb00_10, hkb00_10, hkb00_10, hkb00_10, hkb00_226, hkb00_32, hkb00_10, hkb00_10, hkb00_10, hkb00_10, hkb00_10, hkb00_10, hkb00_10, hkb00_10, hkb00_10, hkb00_10, hkb00_10, hkb00_10, hkb00_10, hkb00_10, hkb00_10, hkb00_10, hkb00_10, hkb00_10, hkb00_10, hkb00_10, hkb00_10, hkb00_10, hkb00_10, hkb00_10, hkb00_10, hkb00_10, hkb00_10, hkb00_10, hkb00_10, hkb00_10, hkb00_10, hkb00_10, hkb00_10, hkb00_10, hkb00_10, hkb00_10, hkb00_10, hkb00_10, hkb00_10, hkb00_10, hkb00_10, hkb00_10, hkb00_10, hkb00_10, hkb00_10, hkb00_10, hkb00_10, hkb00_10, hkb00_10, hkb00_10, hkb00_10, hkb00_10, hkb00_10, hkb00_10, hkb00_10, hkb00_10, hkb00_10, hkb00_10, hkb00_10]
def hkb00_228 : ai_C := .inr (.inr (5, [hkb00_11, hkb00_204, hkb00_189, hkb00_191, hkb00_68, hkb00_155, hkb00_218, hkb00_39, hkb00_208, hkb00_213]))
def hkb00_229 : Bool × Option ai_C := (true, some hkb00_228)
def hkb00_230 : ai_W := [hkb00_10, hkb00_10, hkb00_10, hkb00_10, hkb00_10, hkb00_10, hkb00_10, hkb00_10, hkb00_10, hkb00_10, hkb00_10, hkb00_10, hkb00_10, hkb00_10, hkb00_10, hkb00_229, hkb00_32, hkb00_10, hkb00_10, hkb00_10, hkb00_10, hkb00_10, hkb00_10, hkb00_10, hkb00_10, hkb00_10, hkb00_10, hkb00_10, hkb00_10, hkb00_10, hkb00_10, hkb00_10, hkb00_10, hkb00_10, hkb00_10, hkb00_10, hkb00_10, hkb00_10, hkb00_10, hkb00_10, hkb00_10, hkb00_10, hkb00_10, hkb00_10, hkb00_10, hkb00_10, hkb00_10, hkb00_10, hkb00_10, hkb00_10, hkb00_10, hkb00_10, hkb00_10, hkb00_10, hkb00_10, hkb00_10, hkb00_10, hkb00_10, hkb00_10, hkb00_10, hkb00_10, hkb00_10, hkb00_10, hkb00_10, hkb00_10, hkb00_10, hkb00_10, hkb00_10, hkb00_10, hkb00_10, hkb00_10, hkb00_10, hkb00_10, hkb00_10, hkb00_10, hkb00_10]
def kbn_12 : List ai_Nd := [(98, (hkb00_216, [hkb00_6, hkb00_9], [], hkb00_221), [.inr (15, 6)], [.inl 99901, .inl 1, .inr (true, .ofNat 400, 8), .inl 100000]), (0, (hkb00_222, [hkb00_6, hkb00_9], [], hkb00_227), [.inr (15, 6)], [.inl 99999, .inl 1, .inr (true, .ofNat 400, 8), .inl 100000]), (159, (hkb00_216, [hkb00_6, hkb00_9], [], hkb00_230), [.inr (15, 6)], [.inl 99840, .inl 1, .inr (true, .ofNat 400, 8), .inl 100000])]
set_option maxRecDepth 1000000 in
theorem kbk_12 : ai_ck [kb_7, kb_9, kb_8, kb_11, kb_10, kb_6] [] kb_12 [.inl 100000, .inl 0, .inl 0, .inl 0] kbn_12 45 = true := by decide +kernel
theorem kbh_12 : ai_holds kb_12 := ai_thm kbk_12 (ai_cons kbh_7 (ai_cons kbh_9 (ai_cons kbh_8 (ai_cons kbh_11 (ai_cons kbh_10 (ai_cons kbh_6 ai_nil))))))
def hkb00_231 : ai_C := .inr (.inr (5, [hkb00_11, hkb00_13, hkb00_168, hkb00_103, hkb00_68, hkb00_19, hkb00_21, hkb00_23, hkb00_25, hkb00_27]))
/-- NeverAgain$TextReader.fail -/
def kb_13 : ai_K := (158, 0, (hkb00_170, [hkb00_6, hkb00_168, hkb00_103], [], hkb00_182), [.inl 2, .inr (15, 1), .inr (15, 2), .inr (15, 3), .inr (15, 5), .inr (15, 6), .inr (15, 7), .inr (15, 8), .inr (15, 9)], [(some hkb00_35, hkb00_170, [(15, hkb00_231)])])
def kbn_13 : List ai_Nd := []
set_option maxRecDepth 1000000 in
theorem kbk_13 : ai_ck [] [] kb_13 [.inl 100000] kbn_13 9 = true := by decide +kernel
theorem kbh_13 : ai_holds kb_13 := ai_thm kbk_13 ai_nil
def hkb00_232 : ai_V := .inr (some (.retAddr 1))
/-- java/lang/String.coder -/
def kb_14 : ai_K := (215, 0, ([], [hkb00_232], [], hkb00_178), [], [(some hkb00_35, [], [])])
def kbn_14 : List ai_Nd := []
set_option maxRecDepth 1000000 in
theorem kbk_14 : ai_ck [] [] kb_14 [.inl 100000] kbn_14 7 = true := by decide +kernel
theorem kbh_14 : ai_holds kb_14 := ai_thm kbk_14 ai_nil
/-- java/lang/String.length -/
def kb_15 : ai_K := (208, 1, ([], [hkb00_232], [], hkb00_178), [], [(some hkb00_123, [], [])])
def kbn_15 : List ai_Nd := []
set_option maxRecDepth 1000000 in
theorem kbk_15 : ai_ck [kb_14] [] kb_15 [.inl 100000] kbn_15 8 = true := by decide +kernel
theorem kbh_15 : ai_holds kb_15 := ai_thm kbk_15 (ai_cons kbh_14 ai_nil)
/-- java/lang/String.isLatin1 -/
def kb_16 : ai_K := (216, 0, ([], [hkb00_232], [], hkb00_178), [], [(some hkb00_39, [], [])])
def kbn_16 : List ai_Nd := []
set_option maxRecDepth 1000000 in
theorem kbk_16 : ai_ck [] [] kb_16 [.inl 100000] kbn_16 9 = true := by decide +kernel
theorem kbh_16 : ai_holds kb_16 := ai_thm kbk_16 ai_nil
def hkb00_233 : ai_N := (.ofNat 0, .ofNat 3, [(0, .ofNat 0, .ofNat 0)])
def hkb00_234 : ai_V := .inl (false, hkb00_233)
/-- jdk/internal/util/Preconditions.checkIndex -/
def kb_29 : ai_K := (220, 0, ([hkb00_4], [hkb00_234, hkb00_123, hkb00_9], [], hkb00_178), [.inl 0], [(some hkb00_234, [hkb00_4], [])])
def kbn_29 : List ai_Nd := []
set_option maxRecDepth 1000000 in
theorem kbk_29 : ai_ck [] [] kb_29 [.inl 100000] kbn_29 8 = true := by decide +kernel
theorem kbh_29 : ai_holds kb_29 := ai_thm kbk_29 ai_nil
/-- java/lang/String.checkIndex -/
def kb_30 : ai_K := (219, 1, ([hkb00_4], [hkb00_234, hkb00_123], [], hkb00_178), [.inl 0], [(none, [hkb00_4], [])])
def kbn_30 : List ai_Nd := []
set_option maxRecDepth 1000000 in
theorem kbk_30 : ai_ck [kb_29] [] kb_30 [.inl 100000] kbn_30 7 = true := by decide +kernel
theorem kbh_30 : ai_holds kb_30 := ai_thm kbk_30 (ai_cons kbh_29 ai_nil)
def hkb00_235 : ai_V := .inr (some (.retAddr 2))
def hkb00_236 : ai_N := (.ofNat 0, .ofNat 65535, [])
def hkb00_237 : ai_V := .inl (false, hkb00_236)
/-- java/lang/StringLatin1.charAt -/
def kb_31 : ai_K := (217, 2, ([hkb00_4], [hkb00_235, hkb00_234], [], hkb00_178), [.inl 1], [(some hkb00_237, [hkb00_4], [])])
def kbn_31 : List ai_Nd := []
set_option maxRecDepth 1000000 in
theorem kbk_31 : ai_ck [kb_30] [] kb_31 [.inl 100000] kbn_31 12 = true := by decide +kernel
theorem kbh_31 : ai_holds kb_31 := ai_thm kbk_31 (ai_cons kbh_30 ai_nil)
/-- java/lang/String.charAt -/
def kb_32 : ai_K := (209, 3, ([hkb00_4], [hkb00_232, hkb00_234], [], hkb00_178), [.inl 1], [(some hkb00_237, [hkb00_4], [])])
def kbn_32 : List ai_Nd := []
set_option maxRecDepth 1000000 in
theorem kbk_32 : ai_ck [kb_16, kb_31] [] kb_32 [.inl 100000] kbn_32 9 = true := by decide +kernel
theorem kbh_32 : ai_holds kb_32 := ai_thm kbk_32 (ai_cons kbh_16 (ai_cons kbh_31 ai_nil))
def hkb00_238 : Int × Int := (.ofNat 4, .ofNat 400)
def hkb00_239 : ai_E := [hkb00_1, hkb00_2, hkb00_1, hkb00_3, hkb00_238, hkb00_4, hkb00_1, hkb00_3]
/-- NeverAgain$TextReader.isName -/
def kb_33 : ai_K := (181, 4, (hkb00_187, [hkb00_6, hkb00_232, hkb00_9], [], hkb00_196), [.inr (15, 1), .inr (15, 2), .inr (15, 3), .inr (15, 5), .inr (15, 6), .inr (15, 7), .inr (15, 8), .inr (15, 9)], [(some hkb00_35, hkb00_187, []), (some hkb00_39, hkb00_239, [])])
def hkb00_240 : ai_E := [hkb00_1, hkb00_2, hkb00_1, hkb00_3, hkb00_238, hkb00_4, hkb00_1, hkb00_3, hkb00_56]
def hkb00_241 : ai_N := (.ofNat 0, .ofNat 4, [(8, .ofNat 0, .ofNat 0)])
def hkb00_242 : ai_V := .inl (false, hkb00_241)
def hkb00_243 : ai_N := (.ofNat 4, .ofNat 400, [(4, .ofNat 0, .ofNat 0)])
def hkb00_244 : ai_V := .inl (false, hkb00_243)
def hkb00_245 : ai_C := .inr (.inr (5, [hkb00_11, hkb00_111, hkb00_189, hkb00_191, hkb00_68, hkb00_155, hkb00_244, hkb00_193, hkb00_80, hkb00_82]))
def hkb00_246 : Bool × Option ai_C := (false, some hkb00_245)
def hkb00_247 : ai_W := [hkb00_10, hkb00_10, hkb00_10, hkb00_10, hkb00_10, hkb00_10, hkb00_10, hkb00_10, hkb00_10, hkb00_10, hkb00_10, hkb00_10, hkb00_10, hkb00_10, hkb00_10, hkb00_246, hkb00_32, hkb00_10, hkb00_10, hkb00_10, hkb00_10, hkb00_10, hkb00_10, hkb00_10, hkb00_10, hkb00_10, hkb00_10, hkb00_10, hkb00_10, hkb00_10, hkb00_10, hkb00_10, hkb00_10, hkb00_10, hkb00_10, hkb00_10, hkb00_10, hkb00_10, hkb00_10, hkb00_10, hkb00_10, hkb00_10, hkb00_10, hkb00_10, hkb00_10, hkb00_10, hkb00_10, hkb00_10, hkb00_10, hkb00_10, hkb00_10, hkb00_10, hkb00_10, hkb00_10, hkb00_10, hkb00_10, hkb00_10, hkb00_10, hkb00_10, hkb00_10, hkb00_10, hkb00_10, hkb00_10, hkb00_10, hkb00_10, hkb00_10, hkb00_10, hkb00_10, hkb00_10, hkb00_10, hkb00_10, hkb00_10, hkb00_10, hkb00_10, hkb00_10, hkb00_10]
def kbn_33 : List ai_Nd := [(20, (hkb00_240, [hkb00_6, hkb00_232, hkb00_242], [], hkb00_247), [.inl 2], [.inl 99979, .inl 1, .inr (true, .ofNat 4, 8), .inl 100000])]
set_option maxRecDepth 1000000 in
theorem kbk_33 : ai_ck [kb_15, kb_32, kb_6] [] kb_33 [.inl 100000, .inl 0, .inl 0, .inl 0] kbn_33 18 = true := by decide +kernel
theorem kbh_33 : ai_holds kb_33 := ai_thm kbk_33 (ai_cons kbh_15 (ai_cons kbh_32 (ai_cons kbh_6 ai_nil)))
def hkb00_248 : ai_C := .inr (.inr (5, [hkb00_11, hkb00_13, hkb00_123, hkb00_103, hkb00_68, hkb00_19, hkb00_21, hkb00_23, hkb00_25, hkb00_27]))
/-- NeverAgain$TextReader.fail -/
def kb_34 : ai_K := (158, 0, (hkb00_170, [hkb00_6, hkb00_123, hkb00_103], [], hkb00_182), [.inl 2, .inr (15, 1), .inr (15, 2), .inr (15, 3), .inr (15, 5), .inr (15, 6), .inr (15, 7), .inr (15, 8), .inr (15, 9)], [(some hkb00_35, hkb00_170, [(15, hkb00_248)])])
def kbn_34 : List ai_Nd := []
set_option maxRecDepth 1000000 in
theorem kbk_34 : ai_ck [] [] kb_34 [.inl 100000] kbn_34 9 = true := by decide +kernel
theorem kbh_34 : ai_holds kb_34 := ai_thm kbk_34 ai_nil
def hkb00_249 : ai_W := [hkb00_10, hkb00_10, hkb00_10, hkb00_10, hkb00_10, hkb00_10, hkb00_10, hkb00_10, hkb00_10, hkb00_10, hkb00_10, hkb00_10, hkb00_10, hkb00_10, hkb00_10, hkb00_195, hkb00_10, hkb00_10, hkb00_10, hkb00_10, hkb00_10, hkb00_10, hkb00_10, hkb00_10, hkb00_10, hkb00_10, hkb00_10, hkb00_10, hkb00_10, hkb00_10, hkb00_10, hkb00_10, hkb00_10, hkb00_10, hkb00_10, hkb00_10, hkb00_10, hkb00_10, hkb00_10, hkb00_10, hkb00_10, hkb00_10, hkb00_10, hkb00_10, hkb00_10, hkb00_10, hkb00_10, hkb00_10, hkb00_10, hkb00_10, hkb00_10, hkb00_10, hkb00_10, hkb00_10, hkb00_10, hkb00_10, hkb00_10, hkb00_10, hkb00_10, hkb00_10, hkb00_10, hkb00_10, hkb00_10, hkb00_10, hkb00_10, hkb00_10, hkb00_10, hkb00_10, hkb00_10, hkb00_10, hkb00_10, hkb00_10, hkb00_10, hkb00_10, hkb00_10, hkb00_10]
def hkb00_250 : ai_C := .inr (.inr (5, [hkb00_11, hkb00_111, hkb00_123, hkb00_80, hkb00_68, hkb00_155, hkb00_76, hkb00_193, hkb00_80, hkb00_82]))
def hkb00_251 : ai_C := .inr (.inr (5, [hkb00_11, hkb00_111, hkb00_189, hkb00_191, hkb00_68, hkb00_213, hkb00_76, hkb00_193, hkb00_80, hkb00_82]))
/-- NeverAgain$TextReader.once -/
def kb_35 : ai_K := (210, 1, (hkb00_187, [hkb00_6, hkb00_39], [], hkb00_249), [.inr (15, 1), .inr (15, 2), .inr (15, 3), .inr (15, 5), .inr (15, 6), .inr (15, 7), .inr (15, 8), .inr (15, 9)], [(some hkb00_35, hkb00_187, [(15, hkb00_250)]), (some hkb00_39, hkb00_187, [(15, hkb00_251)])])
def kbn_35 : List ai_Nd := []
set_option maxRecDepth 1000000 in
theorem kbk_35 : ai_ck [kb_34] [] kb_35 [.inl 100000] kbn_35 14 = true := by decide +kernel
theorem kbh_35 : ai_holds kb_35 := ai_thm kbk_35 (ai_cons kbh_34 ai_nil)
def hkb00_252 : ai_C := .inr (.inr (5, [hkb00_11, hkb00_13, hkb00_200, hkb00_103, hkb00_68, hkb00_19, hkb00_21, hkb00_23, hkb00_25, hkb00_27]))
/-- NeverAgain$TextReader.fail -/
def kb_36 : ai_K := (158, 0, (hkb00_170, [hkb00_6, hkb00_200, hkb00_103], [], hkb00_182), [.inl 2, .inr (15, 1), .inr (15, 2), .inr (15, 3), .inr (15, 5), .inr (15, 6), .inr (15, 7), .inr (15, 8), .inr (15, 9)], [(some hkb00_35, hkb00_170, [(15, hkb00_252)])])
def kbn_36 : List ai_Nd := []
set_option maxRecDepth 1000000 in
theorem kbk_36 : ai_ck [] [] kb_36 [.inl 100000] kbn_36 9 = true := by decide +kernel
theorem kbh_36 : ai_holds kb_36 := ai_thm kbk_36 ai_nil
def hkb00_253 : ai_N := (.ofNat 16, .ofNat 16, [])
def hkb00_254 : ai_V := .inl (false, hkb00_253)
def hkb00_255 : Int × Int := (.ofNat 17, .ofNat 2147483647)
def hkb00_256 : ai_E := [hkb00_1, hkb00_2, hkb00_1, hkb00_3, hkb00_1, hkb00_4, hkb00_1, hkb00_255]
def hkb00_257 : ai_N := (.ofNat 17, .ofNat 2147483647, [(7, .ofNat 0, .ofNat 0)])
def hkb00_258 : ai_V := .inl (false, hkb00_257)
def hkb00_259 : ai_C := .inr (.inr (5, [hkb00_11, hkb00_111, hkb00_200, hkb00_80, hkb00_68, hkb00_155, hkb00_76, hkb00_193, hkb00_80, hkb00_258]))
def hkb00_260 : ai_E := [hkb00_1, hkb00_2, hkb00_1, hkb00_3, hkb00_1, hkb00_4, hkb00_1, hkb00_139]
def hkb00_261 : Int × Int := (.negSucc 2147483647, .ofNat 3)
def hkb00_262 : ai_E := [hkb00_1, hkb00_2, hkb00_1, hkb00_3, hkb00_1, hkb00_4, hkb00_1, hkb00_261]
def hkb00_263 : ai_N := (.negSucc 2147483647, .ofNat 3, [(7, .ofNat 0, .ofNat 0)])
def hkb00_264 : ai_V := .inl (false, hkb00_263)
def hkb00_265 : ai_C := .inr (.inr (5, [hkb00_11, hkb00_111, hkb00_200, hkb00_80, hkb00_68, hkb00_155, hkb00_76, hkb00_193, hkb00_80, hkb00_264]))
/-- NeverAgain$TextReader.inBounds -/
def kb_37 : ai_K := (218, 1, (hkb00_187, [hkb00_6, hkb00_123, hkb00_254], [], hkb00_249), [.inr (15, 1), .inr (15, 2), .inr (15, 3), .inr (15, 5), .inr (15, 6), .inr (15, 7), .inr (15, 8), .inr (15, 9)], [(some hkb00_35, hkb00_256, [(15, hkb00_259)]), (some hkb00_39, hkb00_260, []), (some hkb00_35, hkb00_262, [(15, hkb00_265)])])
def kbn_37 : List ai_Nd := []
set_option maxRecDepth 1000000 in
theorem kbk_37 : ai_ck [kb_36] [] kb_37 [.inl 100000] kbn_37 17 = true := by decide +kernel
theorem kbh_37 : ai_holds kb_37 := ai_thm kbk_37 (ai_cons kbh_36 ai_nil)
def hkb00_266 : ai_N := (.ofNat 1, .ofNat 3, [])
def hkb00_267 : ai_V := .inl (false, hkb00_266)
def hkb00_268 : ai_C := .inr (.inr (5, [hkb00_11, hkb00_204, hkb00_267, hkb00_208, hkb00_68, hkb00_155, hkb00_198, hkb00_39, hkb00_208, hkb00_213]))
def hkb00_269 : ai_N := (.ofNat 4, .ofNat 16, [])
def hkb00_270 : ai_V := .inl (false, hkb00_269)
def hkb00_271 : ai_C := .inr (.inr (5, [hkb00_11, hkb00_204, hkb00_189, hkb00_191, hkb00_68, hkb00_155, hkb00_211, hkb00_39, hkb00_208, hkb00_270]))
def hkb00_272 : ai_C := .inr (.inr (5, [hkb00_11, hkb00_204, hkb00_168, hkb00_208, hkb00_68, hkb00_155, hkb00_211, hkb00_35, hkb00_208, hkb00_82]))
def hkb00_273 : ai_C := .inr (.inr (5, [hkb00_11, hkb00_204, hkb00_168, hkb00_208, hkb00_68, hkb00_155, hkb00_206, hkb00_168, hkb00_208, hkb00_82]))
def hkb00_274 : ai_C := .inr (.inr (5, [hkb00_11, hkb00_111, hkb00_168, hkb00_198, hkb00_68, hkb00_155, hkb00_198, hkb00_200, hkb00_198, hkb00_82]))
/-- NeverAgain$TextReader.figures -/
def kb_38 : ai_K := (211, 2, (hkb00_187, [hkb00_6, hkb00_123, hkb00_254], [], hkb00_196), [.inr (15, 1), .inr (15, 2), .inr (15, 3), .inr (15, 5), .inr (15, 6), .inr (15, 7), .inr (15, 8), .inr (15, 9)], [(some hkb00_35, hkb00_202, [(15, hkb00_268)]), (some hkb00_39, hkb00_202, [(15, hkb00_271)]), (some hkb00_35, hkb00_202, [(15, hkb00_272)]), (some hkb00_35, hkb00_202, [(15, hkb00_273)]), (some hkb00_35, hkb00_187, [(15, hkb00_274)])])
def kbn_38 : List ai_Nd := []
set_option maxRecDepth 1000000 in
theorem kbk_38 : ai_ck [kb_37, kb_13, kb_12] [] kb_38 [.inl 100000] kbn_38 14 = true := by decide +kernel
theorem kbh_38 : ai_holds kb_38 := ai_thm kbk_38 (ai_cons kbh_37 (ai_cons kbh_13 (ai_cons kbh_12 ai_nil)))
def hkb00_275 : ai_C := .inr (.inr (5, [hkb00_11, hkb00_204, hkb00_168, hkb00_208, hkb00_68, hkb00_155, hkb00_211, hkb00_39, hkb00_208, hkb00_213]))
/-- NeverAgain$TextReader.stop -/
def kb_39 : ai_K := (212, 2, (hkb00_187, [hkb00_6], [], hkb00_196), [.inr (15, 1), .inr (15, 2), .inr (15, 3), .inr (15, 5), .inr (15, 6), .inr (15, 7), .inr (15, 8), .inr (15, 9)], [(some hkb00_35, hkb00_202, [(15, hkb00_215)]), (some hkb00_35, hkb00_202, [(15, hkb00_275)]), (some hkb00_35, hkb00_202, [(15, hkb00_272)]), (some hkb00_39, hkb00_202, [(15, hkb00_209)]), (some hkb00_35, hkb00_187, [(15, hkb00_274)])])
def kbn_39 : List ai_Nd := []
set_option maxRecDepth 1000000 in
theorem kbk_39 : ai_ck [kb_13, kb_12] [] kb_39 [.inl 100000] kbn_39 16 = true := by decide +kernel
theorem kbh_39 : ai_holds kb_39 := ai_thm kbk_39 (ai_cons kbh_13 (ai_cons kbh_12 ai_nil))
def hkb00_276 : ai_E := [hkb00_139, hkb00_140, hkb00_3, hkb00_3, hkb00_3, hkb00_141, hkb00_142, hkb00_56, hkb00_1, hkb00_2, hkb00_1, hkb00_3, hkb00_1, hkb00_4, hkb00_1, hkb00_3]
def hkb00_277 : ai_N := (.ofNat 0, .ofNat 6, [(9, .ofNat 0, .ofNat 0)])
def hkb00_278 : ai_V := .inl (false, hkb00_277)
def hkb00_279 : ai_N := (.ofNat 0, .ofNat 400, [(12, .ofNat 0, .ofNat 0)])
def hkb00_280 : ai_V := .inl (false, hkb00_279)
def hkb00_281 : ai_N := (.ofNat 0, .ofNat 3, [(13, .ofNat 0, .ofNat 0)])
def hkb00_282 : ai_V := .inl (false, hkb00_281)
def hkb00_283 : ai_N := (.ofNat 0, .ofNat 400, [(14, .ofNat 0, .ofNat 0)])
def hkb00_284 : ai_V := .inl (false, hkb00_283)
def hkb00_285 : ai_N := (.negSucc 2147483647, .ofNat 2147483647, [(15, .ofNat 0, .ofNat 0)])
def hkb00_286 : ai_V := .inl (false, hkb00_285)
def hkb00_287 : ai_C := .inr (.inr (5, [hkb00_11, hkb00_84, hkb00_278, hkb00_88, hkb00_68, hkb00_90, hkb00_280, hkb00_282, hkb00_284, hkb00_286]))
def hkb00_288 : Bool × Option ai_C := (false, some hkb00_287)
def hkb00_289 : ai_W := [hkb00_10, hkb00_163, hkb00_10, hkb00_10, hkb00_10, hkb00_10, hkb00_10, hkb00_10, hkb00_10, hkb00_10, hkb00_10, hkb00_10, hkb00_10, hkb00_10, hkb00_10, hkb00_288, hkb00_32, hkb00_10, hkb00_10, hkb00_10, hkb00_10, hkb00_10, hkb00_10, hkb00_10, hkb00_10, hkb00_10, hkb00_10, hkb00_10, hkb00_10, hkb00_10, hkb00_10, hkb00_10, hkb00_10, hkb00_10, hkb00_10, hkb00_10, hkb00_10, hkb00_10, hkb00_10, hkb00_10, hkb00_10, hkb00_10, hkb00_10, hkb00_10, hkb00_10, hkb00_10, hkb00_10, hkb00_10, hkb00_10, hkb00_10, hkb00_10, hkb00_10, hkb00_10, hkb00_10, hkb00_10, hkb00_10, hkb00_10, hkb00_10, hkb00_10, hkb00_10, hkb00_10, hkb00_10, hkb00_10, hkb00_10, hkb00_10, hkb00_10, hkb00_10, hkb00_10, hkb00_10, hkb00_10, hkb00_10, hkb00_10, hkb00_10, hkb00_10, hkb00_10, hkb00_10]
def hkb00_290 : ai_N := (.ofNat 0, .ofNat 400, [(12, .ofNat 0, .ofNat 400)])
def hkb00_291 : ai_V := .inl (false, hkb00_290)
def hkb00_292 : ai_C := .inr (.inr (5, [hkb00_11, hkb00_84, hkb00_168, hkb00_291, hkb00_68, hkb00_213, hkb00_291, hkb00_200, hkb00_291, hkb00_286]))
def hkb00_293 : ai_E := [hkb00_139, hkb00_140, hkb00_3, hkb00_3, hkb00_3, hkb00_141, hkb00_142, hkb00_56, hkb00_176, hkb00_2, hkb00_1, hkb00_3, hkb00_175, hkb00_4, hkb00_1, hkb00_3]
def hkb00_294 : ai_N := (.ofNat 1, .ofNat 400, [(8, .ofNat 0, .ofNat 0)])
def hkb00_295 : ai_V := .inl (false, hkb00_294)
def hkb00_296 : ai_N := (.ofNat 0, .ofNat 399, [(12, .ofNat 0, .ofNat 399)])
def hkb00_297 : ai_V := .inl (false, hkb00_296)
def hkb00_298 : ai_N := (.ofNat 1, .ofNat 400, [(12, .ofNat 1, .ofNat 400)])
def hkb00_299 : ai_V := .inl (false, hkb00_298)
def hkb00_300 : ai_C := .inr (.inr (5, [hkb00_11, hkb00_295, hkb00_168, hkb00_297, hkb00_68, hkb00_213, hkb00_299, hkb00_168, hkb00_297, hkb00_286]))
def hkb00_301 : ai_N := (.ofNat 1, .ofNat 400, [(12, .ofNat 0, .ofNat 400)])
def hkb00_302 : ai_V := .inl (false, hkb00_301)
def hkb00_303 : ai_C := .inr (.inr (5, [hkb00_11, hkb00_295, hkb00_168, hkb00_297, hkb00_68, hkb00_213, hkb00_302, hkb00_35, hkb00_297, hkb00_286]))
def hkb00_304 : ai_C := .inr (.inr (6, [hkb00_115, hkb00_126, hkb00_144, hkb00_145, hkb00_146, hkb00_147, hkb00_270, hkb00_151, hkb00_153, hkb00_155, hkb00_19, hkb00_157, hkb00_159, hkb00_161]))
def hkb00_305 : ai_C := .inr (.inr (5, [hkb00_11, hkb00_295, hkb00_168, hkb00_302, hkb00_68, hkb00_213, hkb00_302, hkb00_200, hkb00_302, hkb00_270]))
def hkb00_306 : ai_N := (.ofNat 2, .ofNat 400, [(12, .ofNat 1, .ofNat 400)])
def hkb00_307 : ai_V := .inl (false, hkb00_306)
def hkb00_308 : ai_N := (.ofNat 1, .ofNat 399, [(12, .ofNat 0, .ofNat 399)])
def hkb00_309 : ai_V := .inl (false, hkb00_308)
def hkb00_310 : ai_C := .inr (.inr (5, [hkb00_11, hkb00_295, hkb00_278, hkb00_88, hkb00_68, hkb00_213, hkb00_307, hkb00_168, hkb00_309, hkb00_270]))
def hkb00_311 : ai_C := .inr (.inr (5, [hkb00_11, hkb00_295, hkb00_168, hkb00_309, hkb00_68, hkb00_213, hkb00_302, hkb00_35, hkb00_309, hkb00_270]))
def hkb00_312 : ai_N := (.ofNat 1, .ofNat 2, [])
def hkb00_313 : ai_V := .inl (false, hkb00_312)
def hkb00_314 : ai_C := .inr (.inr (5, [hkb00_11, hkb00_295, hkb00_313, hkb00_309, hkb00_68, hkb00_213, hkb00_302, hkb00_39, hkb00_309, hkb00_213]))
def hkb00_315 : ai_C := .inr (.inr (5, [hkb00_11, hkb00_295, hkb00_267, hkb00_297, hkb00_68, hkb00_213, hkb00_291, hkb00_39, hkb00_297, hkb00_213]))
def hkb00_316 : ai_C := .inr (.inr (5, [hkb00_11, hkb00_84, hkb00_123, hkb00_284, hkb00_68, hkb00_90, hkb00_280, hkb00_282, hkb00_284, hkb00_286]))
/-- NeverAgain$TextReader.mostLine -/
def kb_40 : ai_K := (182, 3, (hkb00_276, [hkb00_6], [], hkb00_289), [.inr (1, 6), .inr (1, 7), .inr (1, 8), .inr (1, 9), .inr (1, 10), .inr (1, 11), .inr (1, 12), .inr (1, 13), .inr (15, 1), .inr (15, 2), .inr (15, 3), .inr (15, 5), .inr (15, 6), .inr (15, 7), .inr (15, 8), .inr (15, 9)], [(some hkb00_35, hkb00_276, [(15, hkb00_292)]), (some hkb00_35, hkb00_293, [(15, hkb00_300)]), (some hkb00_35, hkb00_293, [(15, hkb00_303)]), (some hkb00_35, hkb00_293, [(1, hkb00_304), (15, hkb00_305)]), (some hkb00_39, hkb00_293, [(1, hkb00_304), (15, hkb00_310)]), (some hkb00_35, hkb00_293, [(1, hkb00_304), (15, hkb00_311)]), (some hkb00_35, hkb00_293, [(1, hkb00_304), (15, hkb00_314)]), (some hkb00_35, hkb00_293, [(15, hkb00_315)]), (some hkb00_35, hkb00_276, [(15, hkb00_316)])])
def kbn_40 : List ai_Nd := []
set_option maxRecDepth 1000000 in
theorem kbk_40 : ai_ck [kb_35, kb_38, kb_39] [] kb_40 [.inl 100000] kbn_40 18 = true := by decide +kernel
theorem kbh_40 : ai_holds kb_40 := ai_thm kbk_40 (ai_cons kbh_35 (ai_cons kbh_38 (ai_cons kbh_39 ai_nil)))
def hkb00_317 : ai_V := .inr (some (.retAddr 3))
/-- java/lang/String.coder -/
def kb_41 : ai_K := (215, 0, ([], [hkb00_317], [], hkb00_178), [], [(some hkb00_35, [], [])])
def kbn_41 : List ai_Nd := []
set_option maxRecDepth 1000000 in
theorem kbk_41 : ai_ck [] [] kb_41 [.inl 100000] kbn_41 7 = true := by decide +kernel
theorem kbh_41 : ai_holds kb_41 := ai_thm kbk_41 ai_nil
def hkb00_318 : ai_N := (.ofNat 7, .ofNat 7, [])
def hkb00_319 : ai_V := .inl (false, hkb00_318)
/-- java/lang/String.length -/
def kb_42 : ai_K := (208, 1, ([], [hkb00_317], [], hkb00_178), [], [(some hkb00_319, [], [])])
def kbn_42 : List ai_Nd := []
set_option maxRecDepth 1000000 in
theorem kbk_42 : ai_ck [kb_41] [] kb_42 [.inl 100000] kbn_42 8 = true := by decide +kernel
theorem kbh_42 : ai_holds kb_42 := ai_thm kbk_42 (ai_cons kbh_41 ai_nil)
/-- java/lang/String.isLatin1 -/
def kb_43 : ai_K := (216, 0, ([], [hkb00_317], [], hkb00_178), [], [(some hkb00_39, [], [])])
def kbn_43 : List ai_Nd := []
set_option maxRecDepth 1000000 in
theorem kbk_43 : ai_ck [] [] kb_43 [.inl 100000] kbn_43 9 = true := by decide +kernel
theorem kbh_43 : ai_holds kb_43 := ai_thm kbk_43 ai_nil
def hkb00_320 : ai_N := (.ofNat 0, .ofNat 6, [(0, .ofNat 0, .ofNat 0)])
def hkb00_321 : ai_V := .inl (false, hkb00_320)
/-- jdk/internal/util/Preconditions.checkIndex -/
def kb_68 : ai_K := (220, 0, ([hkb00_2], [hkb00_321, hkb00_319, hkb00_9], [], hkb00_178), [.inl 0], [(some hkb00_321, [hkb00_2], [])])
def kbn_68 : List ai_Nd := []
set_option maxRecDepth 1000000 in
theorem kbk_68 : ai_ck [] [] kb_68 [.inl 100000] kbn_68 8 = true := by decide +kernel
theorem kbh_68 : ai_holds kb_68 := ai_thm kbk_68 ai_nil
/-- java/lang/String.checkIndex -/
def kb_69 : ai_K := (219, 1, ([hkb00_2], [hkb00_321, hkb00_319], [], hkb00_178), [.inl 0], [(none, [hkb00_2], [])])
def kbn_69 : List ai_Nd := []
set_option maxRecDepth 1000000 in
theorem kbk_69 : ai_ck [kb_68] [] kb_69 [.inl 100000] kbn_69 7 = true := by decide +kernel
theorem kbh_69 : ai_holds kb_69 := ai_thm kbk_69 (ai_cons kbh_68 ai_nil)
def hkb00_322 : ai_V := .inr (some (.retAddr 4))
/-- java/lang/StringLatin1.charAt -/
def kb_70 : ai_K := (217, 2, ([hkb00_2], [hkb00_322, hkb00_321], [], hkb00_178), [.inl 1], [(some hkb00_237, [hkb00_2], [])])
def kbn_70 : List ai_Nd := []
set_option maxRecDepth 1000000 in
theorem kbk_70 : ai_ck [kb_69] [] kb_70 [.inl 100000] kbn_70 12 = true := by decide +kernel
theorem kbh_70 : ai_holds kb_70 := ai_thm kbk_70 (ai_cons kbh_69 ai_nil)
/-- java/lang/String.charAt -/
def kb_71 : ai_K := (209, 3, ([hkb00_2], [hkb00_317, hkb00_321], [], hkb00_178), [.inl 1], [(some hkb00_237, [hkb00_2], [])])
def kbn_71 : List ai_Nd := []
set_option maxRecDepth 1000000 in
theorem kbk_71 : ai_ck [kb_43, kb_70] [] kb_71 [.inl 100000] kbn_71 9 = true := by decide +kernel
theorem kbh_71 : ai_holds kb_71 := ai_thm kbk_71 (ai_cons kbh_43 (ai_cons kbh_70 ai_nil))
def hkb00_323 : Int × Int := (.ofNat 7, .ofNat 400)
def hkb00_324 : ai_E := [hkb00_1, hkb00_2, hkb00_1, hkb00_3, hkb00_323, hkb00_4, hkb00_1, hkb00_3]
/-- NeverAgain$TextReader.isName -/
def kb_72 : ai_K := (181, 4, (hkb00_187, [hkb00_6, hkb00_317, hkb00_9], [], hkb00_196), [.inr (15, 1), .inr (15, 2), .inr (15, 3), .inr (15, 5), .inr (15, 6), .inr (15, 7), .inr (15, 8), .inr (15, 9)], [(some hkb00_35, hkb00_187, []), (some hkb00_39, hkb00_324, [])])
def hkb00_325 : Int × Int := (.ofNat 0, .ofNat 7)
def hkb00_326 : ai_E := [hkb00_1, hkb00_2, hkb00_1, hkb00_3, hkb00_323, hkb00_4, hkb00_1, hkb00_3, hkb00_325]
def hkb00_327 : ai_N := (.ofNat 0, .ofNat 7, [(8, .ofNat 0, .ofNat 0)])
def hkb00_328 : ai_V := .inl (false, hkb00_327)
def hkb00_329 : ai_N := (.ofNat 7, .ofNat 400, [(4, .ofNat 0, .ofNat 0)])
def hkb00_330 : ai_V := .inl (false, hkb00_329)
def hkb00_331 : ai_C := .inr (.inr (5, [hkb00_11, hkb00_111, hkb00_189, hkb00_191, hkb00_68, hkb00_155, hkb00_330, hkb00_193, hkb00_80, hkb00_82]))
def hkb00_332 : Bool × Option ai_C := (false, some hkb00_331)
def hkb00_333 : ai_W := [hkb00_10, hkb00_10, hkb00_10, hkb00_10, hkb00_10, hkb00_10, hkb00_10, hkb00_10, hkb00_10, hkb00_10, hkb00_10, hkb00_10, hkb00_10, hkb00_10, hkb00_10, hkb00_332, hkb00_32, hkb00_10, hkb00_10, hkb00_10, hkb00_10, hkb00_10, hkb00_10, hkb00_10, hkb00_10, hkb00_10, hkb00_10, hkb00_10, hkb00_10, hkb00_10, hkb00_10, hkb00_10, hkb00_10, hkb00_10, hkb00_10, hkb00_10, hkb00_10, hkb00_10, hkb00_10, hkb00_10, hkb00_10, hkb00_10, hkb00_10, hkb00_10, hkb00_10, hkb00_10, hkb00_10, hkb00_10, hkb00_10, hkb00_10, hkb00_10, hkb00_10, hkb00_10, hkb00_10, hkb00_10, hkb00_10, hkb00_10, hkb00_10, hkb00_10, hkb00_10, hkb00_10, hkb00_10, hkb00_10, hkb00_10, hkb00_10, hkb00_10, hkb00_10, hkb00_10, hkb00_10, hkb00_10, hkb00_10, hkb00_10, hkb00_10, hkb00_10, hkb00_10, hkb00_10]
def kbn_72 : List ai_Nd := [(20, (hkb00_326, [hkb00_6, hkb00_317, hkb00_328], [], hkb00_333), [.inl 2], [.inl 99979, .inl 1, .inr (true, .ofNat 7, 8), .inl 100000])]
set_option maxRecDepth 1000000 in
theorem kbk_72 : ai_ck [kb_42, kb_71, kb_6] [] kb_72 [.inl 100000, .inl 0, .inl 0, .inl 0] kbn_72 18 = true := by decide +kernel
theorem kbh_72 : ai_holds kb_72 := ai_thm kbk_72 (ai_cons kbh_42 (ai_cons kbh_71 (ai_cons kbh_6 ai_nil)))
/-- NeverAgain$TextReader.once -/
def kb_73 : ai_K := (210, 1, (hkb00_187, [hkb00_6, hkb00_168], [], hkb00_249), [.inr (15, 1), .inr (15, 2), .inr (15, 3), .inr (15, 5), .inr (15, 6), .inr (15, 7), .inr (15, 8), .inr (15, 9)], [(some hkb00_35, hkb00_187, [(15, hkb00_250)]), (some hkb00_39, hkb00_187, [(15, hkb00_251)])])
def kbn_73 : List ai_Nd := []
set_option maxRecDepth 1000000 in
theorem kbk_73 : ai_ck [kb_34] [] kb_73 [.inl 100000] kbn_73 14 = true := by decide +kernel
theorem kbh_73 : ai_holds kb_73 := ai_thm kbk_73 (ai_cons kbh_34 ai_nil)
def hkb00_334 : Int × Int := (.ofNat 5, .ofNat 2147483647)
def hkb00_335 : ai_E := [hkb00_1, hkb00_2, hkb00_1, hkb00_3, hkb00_1, hkb00_4, hkb00_1, hkb00_334]
def hkb00_336 : ai_N := (.ofNat 5, .ofNat 2147483647, [(7, .ofNat 0, .ofNat 0)])
def hkb00_337 : ai_V := .inl (false, hkb00_336)
def hkb00_338 : ai_C := .inr (.inr (5, [hkb00_11, hkb00_111, hkb00_200, hkb00_80, hkb00_68, hkb00_155, hkb00_76, hkb00_193, hkb00_80, hkb00_337]))
def hkb00_339 : ai_E := [hkb00_1, hkb00_2, hkb00_1, hkb00_3, hkb00_1, hkb00_4, hkb00_1, hkb00_140]
def hkb00_340 : Int × Int := (.negSucc 2147483647, .ofNat 0)
def hkb00_341 : ai_E := [hkb00_1, hkb00_2, hkb00_1, hkb00_3, hkb00_1, hkb00_4, hkb00_1, hkb00_340]
def hkb00_342 : ai_N := (.negSucc 2147483647, .ofNat 0, [(7, .ofNat 0, .ofNat 0)])
def hkb00_343 : ai_V := .inl (false, hkb00_342)
def hkb00_344 : ai_C := .inr (.inr (5, [hkb00_11, hkb00_111, hkb00_200, hkb00_80, hkb00_68, hkb00_155, hkb00_76, hkb00_193, hkb00_80, hkb00_343]))
/-- NeverAgain$TextReader.inBounds -/
def kb_74 : ai_K := (218, 1, (hkb00_187, [hkb00_6, hkb00_39, hkb00_123], [], hkb00_249), [.inr (15, 1), .inr (15, 2), .inr (15, 3), .inr (15, 5), .inr (15, 6), .inr (15, 7), .inr (15, 8), .inr (15, 9)], [(some hkb00_35, hkb00_335, [(15, hkb00_338)]), (some hkb00_39, hkb00_339, []), (some hkb00_35, hkb00_341, [(15, hkb00_344)])])
def kbn_74 : List ai_Nd := []
set_option maxRecDepth 1000000 in
theorem kbk_74 : ai_ck [kb_36] [] kb_74 [.inl 100000] kbn_74 17 = true := by decide +kernel
theorem kbh_74 : ai_holds kb_74 := ai_thm kbk_74 (ai_cons kbh_36 ai_nil)
def hkb00_345 : ai_N := (.ofNat 1, .ofNat 4, [])
def hkb00_346 : ai_V := .inl (false, hkb00_345)
def hkb00_347 : ai_C := .inr (.inr (5, [hkb00_11, hkb00_204, hkb00_189, hkb00_191, hkb00_68, hkb00_155, hkb00_211, hkb00_39, hkb00_208, hkb00_346]))
/-- NeverAgain$TextReader.figures -/
def kb_75 : ai_K := (211, 2, (hkb00_187, [hkb00_6, hkb00_39, hkb00_123], [], hkb00_196), [.inr (15, 1), .inr (15, 2), .inr (15, 3), .inr (15, 5), .inr (15, 6), .inr (15, 7), .inr (15, 8), .inr (15, 9)], [(some hkb00_35, hkb00_202, [(15, hkb00_268)]), (some hkb00_39, hkb00_202, [(15, hkb00_347)]), (some hkb00_35, hkb00_202, [(15, hkb00_272)]), (some hkb00_35, hkb00_202, [(15, hkb00_273)]), (some hkb00_35, hkb00_187, [(15, hkb00_274)])])
def kbn_75 : List ai_Nd := []
set_option maxRecDepth 1000000 in
theorem kbk_75 : ai_ck [kb_74, kb_13, kb_12] [] kb_75 [.inl 100000] kbn_75 14 = true := by decide +kernel
theorem kbh_75 : ai_holds kb_75 := ai_thm kbk_75 (ai_cons kbh_74 (ai_cons kbh_13 (ai_cons kbh_12 ai_nil)))
def hkb00_348 : ai_N := (.ofNat 9, .ofNat 9, [])
def hkb00_349 : ai_V := .inl (false, hkb00_348)
def hkb00_350 : Int × Int := (.ofNat 10, .ofNat 2147483647)
def hkb00_351 : ai_E := [hkb00_1, hkb00_2, hkb00_1, hkb00_3, hkb00_1, hkb00_4, hkb00_1, hkb00_350]
def hkb00_352 : ai_N := (.ofNat 10, .ofNat 2147483647, [(7, .ofNat 0, .ofNat 0)])
def hkb00_353 : ai_V := .inl (false, hkb00_352)
def hkb00_354 : ai_C := .inr (.inr (5, [hkb00_11, hkb00_111, hkb00_200, hkb00_80, hkb00_68, hkb00_155, hkb00_76, hkb00_193, hkb00_80, hkb00_353]))
def hkb00_355 : Int × Int := (.ofNat 1, .ofNat 9)
def hkb00_356 : ai_E := [hkb00_1, hkb00_2, hkb00_1, hkb00_3, hkb00_1, hkb00_4, hkb00_1, hkb00_355]
/-- NeverAgain$TextReader.inBounds -/
def kb_76 : ai_K := (218, 1, (hkb00_187, [hkb00_6, hkb00_39, hkb00_349], [], hkb00_249), [.inr (15, 1), .inr (15, 2), .inr (15, 3), .inr (15, 5), .inr (15, 6), .inr (15, 7), .inr (15, 8), .inr (15, 9)], [(some hkb00_35, hkb00_351, [(15, hkb00_354)]), (some hkb00_39, hkb00_356, []), (some hkb00_35, hkb00_341, [(15, hkb00_344)])])
def kbn_76 : List ai_Nd := []
set_option maxRecDepth 1000000 in
theorem kbk_76 : ai_ck [kb_36] [] kb_76 [.inl 100000] kbn_76 17 = true := by decide +kernel
theorem kbh_76 : ai_holds kb_76 := ai_thm kbk_76 (ai_cons kbh_36 ai_nil)
def hkb00_357 : ai_N := (.ofNat 1, .ofNat 9, [])
def hkb00_358 : ai_V := .inl (false, hkb00_357)
def hkb00_359 : ai_C := .inr (.inr (5, [hkb00_11, hkb00_204, hkb00_189, hkb00_191, hkb00_68, hkb00_155, hkb00_211, hkb00_39, hkb00_208, hkb00_358]))
/-- NeverAgain$TextReader.moreFigures -/
def kb_77 : ai_K := (213, 2, (hkb00_187, [hkb00_6, hkb00_39, hkb00_349], [], hkb00_196), [.inr (15, 1), .inr (15, 2), .inr (15, 3), .inr (15, 5), .inr (15, 6), .inr (15, 7), .inr (15, 8), .inr (15, 9)], [(some hkb00_35, hkb00_202, [(15, hkb00_268)]), (some hkb00_39, hkb00_202, [(15, hkb00_359)]), (some hkb00_35, hkb00_202, [(15, hkb00_272)]), (some hkb00_35, hkb00_202, [(15, hkb00_209)]), (some hkb00_35, hkb00_187, [(15, hkb00_274)])])
def kbn_77 : List ai_Nd := []
set_option maxRecDepth 1000000 in
theorem kbk_77 : ai_ck [kb_76, kb_13, kb_12] [] kb_77 [.inl 100000] kbn_77 18 = true := by decide +kernel
theorem kbh_77 : ai_holds kb_77 := ai_thm kbk_77 (ai_cons kbh_76 (ai_cons kbh_13 (ai_cons kbh_12 ai_nil)))
def hkb00_360 : ai_N := (.ofNat 5, .ofNat 5, [])
def hkb00_361 : ai_V := .inl (false, hkb00_360)
def hkb00_362 : ai_C := .inr (.inr (5, [hkb00_11, hkb00_13, hkb00_361, hkb00_103, hkb00_68, hkb00_19, hkb00_21, hkb00_23, hkb00_25, hkb00_27]))
/-- NeverAgain$TextReader.fail -/
def kb_78 : ai_K := (158, 0, (hkb00_170, [hkb00_6, hkb00_361, hkb00_103], [], hkb00_182), [.inl 2, .inr (15, 1), .inr (15, 2), .inr (15, 3), .inr (15, 5), .inr (15, 6), .inr (15, 7), .inr (15, 8), .inr (15, 9)], [(some hkb00_35, hkb00_170, [(15, hkb00_362)])])
def kbn_78 : List ai_Nd := []
set_option maxRecDepth 1000000 in
theorem kbk_78 : ai_ck [] [] kb_78 [.inl 100000] kbn_78 9 = true := by decide +kernel
theorem kbh_78 : ai_holds kb_78 := ai_thm kbk_78 ai_nil
def hkb00_363 : ai_W := [hkb00_10, hkb00_163, hkb00_118, hkb00_10, hkb00_10, hkb00_10, hkb00_10, hkb00_10, hkb00_10, hkb00_10, hkb00_10, hkb00_10, hkb00_10, hkb00_10, hkb00_10, hkb00_288, hkb00_32, hkb00_10, hkb00_10, hkb00_10, hkb00_10, hkb00_10, hkb00_10, hkb00_10, hkb00_10, hkb00_10, hkb00_10, hkb00_10, hkb00_10, hkb00_10, hkb00_10, hkb00_10, hkb00_10, hkb00_10, hkb00_10, hkb00_10, hkb00_10, hkb00_10, hkb00_10, hkb00_10, hkb00_10, hkb00_10, hkb00_10, hkb00_10, hkb00_10, hkb00_10, hkb00_10, hkb00_10, hkb00_10, hkb00_10, hkb00_10, hkb00_10, hkb00_10, hkb00_10, hkb00_10, hkb00_10, hkb00_10, hkb00_10, hkb00_10, hkb00_10, hkb00_10, hkb00_10, hkb00_10, hkb00_10, hkb00_10, hkb00_10, hkb00_10, hkb00_10, hkb00_10, hkb00_10, hkb00_10, hkb00_10, hkb00_10, hkb00_10, hkb00_10, hkb00_10]
def hkb00_364 : ai_C := .inr (.inr (6, [hkb00_115, hkb00_126, hkb00_144, hkb00_145, hkb00_146, hkb00_147, hkb00_149, hkb00_346, hkb00_153, hkb00_155, hkb00_19, hkb00_157, hkb00_159, hkb00_161]))
def hkb00_365 : ai_C := .inr (.inr (5, [hkb00_11, hkb00_295, hkb00_168, hkb00_302, hkb00_68, hkb00_213, hkb00_302, hkb00_200, hkb00_302, hkb00_358]))
def hkb00_366 : Int × Int := (.ofNat 0, .ofNat 0)
def hkb00_367 : ai_E := [hkb00_139, hkb00_140, hkb00_3, hkb00_3, hkb00_3, hkb00_141, hkb00_142, hkb00_56, hkb00_176, hkb00_366, hkb00_1, hkb00_3, hkb00_175, hkb00_4, hkb00_1, hkb00_3]
def hkb00_368 : ai_N := (.ofNat 0, .ofNat 0, [(9, .ofNat 0, .ofNat 0)])
def hkb00_369 : ai_V := .inl (false, hkb00_368)
def hkb00_370 : ai_C := .inr (.inr (5, [hkb00_11, hkb00_295, hkb00_369, hkb00_88, hkb00_68, hkb00_213, hkb00_307, hkb00_168, hkb00_309, hkb00_358]))
def hkb00_371 : Int × Int := (.ofNat 1, .ofNat 6)
def hkb00_372 : ai_E := [hkb00_139, hkb00_140, hkb00_3, hkb00_3, hkb00_3, hkb00_141, hkb00_142, hkb00_56, hkb00_176, hkb00_371, hkb00_1, hkb00_3, hkb00_175, hkb00_4, hkb00_1, hkb00_3]
def hkb00_373 : ai_N := (.ofNat 1, .ofNat 6, [(9, .ofNat 0, .ofNat 0)])
def hkb00_374 : ai_V := .inl (false, hkb00_373)
def hkb00_375 : ai_C := .inr (.inr (5, [hkb00_11, hkb00_295, hkb00_374, hkb00_88, hkb00_68, hkb00_213, hkb00_307, hkb00_168, hkb00_309, hkb00_358]))
def hkb00_376 : ai_C := .inr (.inr (5, [hkb00_11, hkb00_295, hkb00_168, hkb00_309, hkb00_68, hkb00_213, hkb00_302, hkb00_35, hkb00_309, hkb00_358]))
def hkb00_377 : ai_N := (.ofNat 1, .ofNat 5, [])
def hkb00_378 : ai_V := .inl (false, hkb00_377)
def hkb00_379 : ai_C := .inr (.inr (5, [hkb00_11, hkb00_295, hkb00_378, hkb00_309, hkb00_68, hkb00_213, hkb00_302, hkb00_39, hkb00_309, hkb00_213]))
/-- NeverAgain$TextReader.mattersLine -/
def kb_79 : ai_K := (183, 3, (hkb00_276, [hkb00_6, hkb00_9], [], hkb00_363), [.inr (1, 6), .inr (1, 7), .inr (1, 8), .inr (1, 9), .inr (1, 10), .inr (1, 11), .inr (1, 12), .inr (1, 13), .inr (15, 1), .inr (15, 2), .inr (15, 3), .inr (15, 5), .inr (15, 6), .inr (15, 7), .inr (15, 8), .inr (15, 9)], [(some hkb00_35, hkb00_276, [(15, hkb00_292)]), (some hkb00_35, hkb00_293, [(15, hkb00_300)]), (some hkb00_35, hkb00_293, [(15, hkb00_303)]), (some hkb00_35, hkb00_293, [(15, hkb00_315)]), (some hkb00_35, hkb00_276, [(15, hkb00_316)]), (some hkb00_35, hkb00_293, [(1, hkb00_364), (2, hkb00_117), (15, hkb00_365)]), (some hkb00_39, hkb00_367, [(1, hkb00_364), (2, hkb00_117), (15, hkb00_370)]), (some hkb00_35, hkb00_372, [(1, hkb00_364), (2, hkb00_117), (15, hkb00_375)]), (some hkb00_35, hkb00_293, [(1, hkb00_364), (2, hkb00_117), (15, hkb00_376)]), (some hkb00_35, hkb00_293, [(1, hkb00_364), (2, hkb00_117), (15, hkb00_379)])])
def hkb00_380 : ai_E := [hkb00_139, hkb00_140, hkb00_3, hkb00_3, hkb00_3, hkb00_141, hkb00_142, hkb00_56, hkb00_176, hkb00_2, hkb00_1, hkb00_3, hkb00_175, hkb00_4, hkb00_1, hkb00_3, hkb00_56]
def hkb00_381 : ai_N := (.ofNat 0, .ofNat 4, [(16, .ofNat 0, .ofNat 0)])
def hkb00_382 : ai_V := .inl (false, hkb00_381)
def hkb00_383 : Bool × Option ai_C := (true, some hkb00_364)
def hkb00_384 : ai_C := .inr (.inr (5, [hkb00_11, hkb00_295, hkb00_278, hkb00_88, hkb00_68, hkb00_213, hkb00_302, hkb00_39, hkb00_297, hkb00_358]))
def hkb00_385 : Bool × Option ai_C := (true, some hkb00_384)
def hkb00_386 : ai_W := [hkb00_10, hkb00_383, hkb00_124, hkb00_10, hkb00_10, hkb00_10, hkb00_10, hkb00_10, hkb00_10, hkb00_10, hkb00_10, hkb00_10, hkb00_10, hkb00_10, hkb00_10, hkb00_385, hkb00_32, hkb00_10, hkb00_10, hkb00_10, hkb00_10, hkb00_10, hkb00_10, hkb00_10, hkb00_10, hkb00_10, hkb00_10, hkb00_10, hkb00_10, hkb00_10, hkb00_10, hkb00_10, hkb00_10, hkb00_10, hkb00_10, hkb00_10, hkb00_10, hkb00_10, hkb00_10, hkb00_10, hkb00_10, hkb00_10, hkb00_10, hkb00_10, hkb00_10, hkb00_10, hkb00_10, hkb00_10, hkb00_10, hkb00_10, hkb00_10, hkb00_10, hkb00_10, hkb00_10, hkb00_10, hkb00_10, hkb00_10, hkb00_10, hkb00_10, hkb00_10, hkb00_10, hkb00_10, hkb00_10, hkb00_10, hkb00_10, hkb00_10, hkb00_10, hkb00_10, hkb00_10, hkb00_10, hkb00_10, hkb00_10, hkb00_10, hkb00_10, hkb00_10, hkb00_10]
def kbn_79 : List ai_Nd := [(32, (hkb00_380, [hkb00_6, hkb00_382], [], hkb00_386), [.inl 1], [.inl 99967, .inl 1, .inr (true, .ofNat 4, 16), .inl 100000])]
set_option maxRecDepth 1000000 in
theorem kbk_79 : ai_ck [kb_73, kb_75, kb_77, kb_78] [] kb_79 [.inl 100000, .inl 0, .inl 0, .inl 0] kbn_79 27 = true := by decide +kernel
theorem kbh_79 : ai_holds kb_79 := ai_thm kbk_79 (ai_cons kbh_73 (ai_cons kbh_75 (ai_cons kbh_77 (ai_cons kbh_78 ai_nil))))
def hkb00_387 : ai_V := .inr (some (.retAddr 5))
/-- java/lang/String.coder -/
def kb_80 : ai_K := (215, 0, ([], [hkb00_387], [], hkb00_178), [], [(some hkb00_35, [], [])])
def kbn_80 : List ai_Nd := []
set_option maxRecDepth 1000000 in
theorem kbk_80 : ai_ck [] [] kb_80 [.inl 100000] kbn_80 7 = true := by decide +kernel
theorem kbh_80 : ai_holds kb_80 := ai_thm kbk_80 ai_nil
/-- java/lang/String.length -/
def kb_81 : ai_K := (208, 1, ([], [hkb00_387], [], hkb00_178), [], [(some hkb00_200, [], [])])
def kbn_81 : List ai_Nd := []
set_option maxRecDepth 1000000 in
theorem kbk_81 : ai_ck [kb_80] [] kb_81 [.inl 100000] kbn_81 8 = true := by decide +kernel
theorem kbh_81 : ai_holds kb_81 := ai_thm kbk_81 (ai_cons kbh_80 ai_nil)
/-- java/lang/String.isLatin1 -/
def kb_82 : ai_K := (216, 0, ([], [hkb00_387], [], hkb00_178), [], [(some hkb00_39, [], [])])
def kbn_82 : List ai_Nd := []
set_option maxRecDepth 1000000 in
theorem kbk_82 : ai_ck [] [] kb_82 [.inl 100000] kbn_82 9 = true := by decide +kernel
theorem kbh_82 : ai_holds kb_82 := ai_thm kbk_82 ai_nil
def hkb00_388 : Int × Int := (.ofNat 0, .ofNat 2)
def hkb00_389 : ai_N := (.ofNat 0, .ofNat 2, [(0, .ofNat 0, .ofNat 0)])
def hkb00_390 : ai_V := .inl (false, hkb00_389)
/-- jdk/internal/util/Preconditions.checkIndex -/
def kb_91 : ai_K := (220, 0, ([hkb00_388], [hkb00_390, hkb00_200, hkb00_9], [], hkb00_178), [.inl 0], [(some hkb00_390, [hkb00_388], [])])
def kbn_91 : List ai_Nd := []
set_option maxRecDepth 1000000 in
theorem kbk_91 : ai_ck [] [] kb_91 [.inl 100000] kbn_91 8 = true := by decide +kernel
theorem kbh_91 : ai_holds kb_91 := ai_thm kbk_91 ai_nil
/-- java/lang/String.checkIndex -/
def kb_92 : ai_K := (219, 1, ([hkb00_388], [hkb00_390, hkb00_200], [], hkb00_178), [.inl 0], [(none, [hkb00_388], [])])
def kbn_92 : List ai_Nd := []
set_option maxRecDepth 1000000 in
theorem kbk_92 : ai_ck [kb_91] [] kb_92 [.inl 100000] kbn_92 7 = true := by decide +kernel
theorem kbh_92 : ai_holds kb_92 := ai_thm kbk_92 (ai_cons kbh_91 ai_nil)
def hkb00_391 : ai_V := .inr (some (.retAddr 6))
/-- java/lang/StringLatin1.charAt -/
def kb_93 : ai_K := (217, 2, ([hkb00_388], [hkb00_391, hkb00_390], [], hkb00_178), [.inl 1], [(some hkb00_237, [hkb00_388], [])])
def kbn_93 : List ai_Nd := []
set_option maxRecDepth 1000000 in
theorem kbk_93 : ai_ck [kb_92] [] kb_93 [.inl 100000] kbn_93 12 = true := by decide +kernel
theorem kbh_93 : ai_holds kb_93 := ai_thm kbk_93 (ai_cons kbh_92 ai_nil)
/-- java/lang/String.charAt -/
def kb_94 : ai_K := (209, 3, ([hkb00_388], [hkb00_387, hkb00_390], [], hkb00_178), [.inl 1], [(some hkb00_237, [hkb00_388], [])])
def kbn_94 : List ai_Nd := []
set_option maxRecDepth 1000000 in
theorem kbk_94 : ai_ck [kb_82, kb_93] [] kb_94 [.inl 100000] kbn_94 9 = true := by decide +kernel
theorem kbh_94 : ai_holds kb_94 := ai_thm kbk_94 (ai_cons kbh_82 (ai_cons kbh_93 ai_nil))
def hkb00_392 : Int × Int := (.ofNat 3, .ofNat 400)
def hkb00_393 : ai_E := [hkb00_1, hkb00_2, hkb00_1, hkb00_3, hkb00_392, hkb00_4, hkb00_1, hkb00_3]
/-- NeverAgain$TextReader.isName -/
def kb_95 : ai_K := (181, 4, (hkb00_187, [hkb00_6, hkb00_387, hkb00_9], [], hkb00_196), [.inr (15, 1), .inr (15, 2), .inr (15, 3), .inr (15, 5), .inr (15, 6), .inr (15, 7), .inr (15, 8), .inr (15, 9)], [(some hkb00_35, hkb00_187, []), (some hkb00_39, hkb00_393, [])])
def hkb00_394 : ai_E := [hkb00_1, hkb00_2, hkb00_1, hkb00_3, hkb00_392, hkb00_4, hkb00_1, hkb00_3, hkb00_4]
def hkb00_395 : ai_N := (.ofNat 0, .ofNat 3, [(8, .ofNat 0, .ofNat 0)])
def hkb00_396 : ai_V := .inl (false, hkb00_395)
def hkb00_397 : ai_N := (.ofNat 3, .ofNat 400, [(4, .ofNat 0, .ofNat 0)])
def hkb00_398 : ai_V := .inl (false, hkb00_397)
def hkb00_399 : ai_C := .inr (.inr (5, [hkb00_11, hkb00_111, hkb00_189, hkb00_191, hkb00_68, hkb00_155, hkb00_398, hkb00_193, hkb00_80, hkb00_82]))
def hkb00_400 : Bool × Option ai_C := (false, some hkb00_399)
def hkb00_401 : ai_W := [hkb00_10, hkb00_10, hkb00_10, hkb00_10, hkb00_10, hkb00_10, hkb00_10, hkb00_10, hkb00_10, hkb00_10, hkb00_10, hkb00_10, hkb00_10, hkb00_10, hkb00_10, hkb00_400, hkb00_32, hkb00_10, hkb00_10, hkb00_10, hkb00_10, hkb00_10, hkb00_10, hkb00_10, hkb00_10, hkb00_10, hkb00_10, hkb00_10, hkb00_10, hkb00_10, hkb00_10, hkb00_10, hkb00_10, hkb00_10, hkb00_10, hkb00_10, hkb00_10, hkb00_10, hkb00_10, hkb00_10, hkb00_10, hkb00_10, hkb00_10, hkb00_10, hkb00_10, hkb00_10, hkb00_10, hkb00_10, hkb00_10, hkb00_10, hkb00_10, hkb00_10, hkb00_10, hkb00_10, hkb00_10, hkb00_10, hkb00_10, hkb00_10, hkb00_10, hkb00_10, hkb00_10, hkb00_10, hkb00_10, hkb00_10, hkb00_10, hkb00_10, hkb00_10, hkb00_10, hkb00_10, hkb00_10, hkb00_10, hkb00_10, hkb00_10, hkb00_10, hkb00_10, hkb00_10]
def kbn_95 : List ai_Nd := [(20, (hkb00_394, [hkb00_6, hkb00_387, hkb00_396], [], hkb00_401), [.inl 2], [.inl 99979, .inl 1, .inr (true, .ofNat 3, 8), .inl 100000])]
set_option maxRecDepth 1000000 in
theorem kbk_95 : ai_ck [kb_81, kb_94, kb_6] [] kb_95 [.inl 100000, .inl 0, .inl 0, .inl 0] kbn_95 18 = true := by decide +kernel
theorem kbh_95 : ai_holds kb_95 := ai_thm kbk_95 (ai_cons kbh_81 (ai_cons kbh_94 (ai_cons kbh_6 ai_nil)))
/-- NeverAgain$TextReader.once -/
def kb_96 : ai_K := (210, 1, (hkb00_187, [hkb00_6, hkb00_123], [], hkb00_249), [.inr (15, 1), .inr (15, 2), .inr (15, 3), .inr (15, 5), .inr (15, 6), .inr (15, 7), .inr (15, 8), .inr (15, 9)], [(some hkb00_35, hkb00_187, [(15, hkb00_250)]), (some hkb00_39, hkb00_187, [(15, hkb00_251)])])
def kbn_96 : List ai_Nd := []
set_option maxRecDepth 1000000 in
theorem kbk_96 : ai_ck [kb_34] [] kb_96 [.inl 100000] kbn_96 14 = true := by decide +kernel
theorem kbh_96 : ai_holds kb_96 := ai_thm kbk_96 (ai_cons kbh_34 ai_nil)
def hkb00_402 : ai_N := (.ofNat 20, .ofNat 20, [])
def hkb00_403 : ai_V := .inl (false, hkb00_402)
def hkb00_404 : Int × Int := (.ofNat 21, .ofNat 2147483647)
def hkb00_405 : ai_E := [hkb00_1, hkb00_2, hkb00_1, hkb00_3, hkb00_1, hkb00_4, hkb00_1, hkb00_404]
def hkb00_406 : ai_N := (.ofNat 21, .ofNat 2147483647, [(7, .ofNat 0, .ofNat 0)])
def hkb00_407 : ai_V := .inl (false, hkb00_406)
def hkb00_408 : ai_C := .inr (.inr (5, [hkb00_11, hkb00_111, hkb00_200, hkb00_80, hkb00_68, hkb00_155, hkb00_76, hkb00_193, hkb00_80, hkb00_407]))
def hkb00_409 : Int × Int := (.ofNat 0, .ofNat 20)
def hkb00_410 : ai_E := [hkb00_1, hkb00_2, hkb00_1, hkb00_3, hkb00_1, hkb00_4, hkb00_1, hkb00_409]
def hkb00_411 : ai_E := [hkb00_1, hkb00_2, hkb00_1, hkb00_3, hkb00_1, hkb00_4, hkb00_1, hkb00_113]
def hkb00_412 : ai_N := (.negSucc 2147483647, .negSucc 0, [(7, .ofNat 0, .ofNat 0)])
def hkb00_413 : ai_V := .inl (false, hkb00_412)
def hkb00_414 : ai_C := .inr (.inr (5, [hkb00_11, hkb00_111, hkb00_200, hkb00_80, hkb00_68, hkb00_155, hkb00_76, hkb00_193, hkb00_80, hkb00_413]))
/-- NeverAgain$TextReader.inBounds -/
def kb_97 : ai_K := (218, 1, (hkb00_187, [hkb00_6, hkb00_35, hkb00_403], [], hkb00_249), [.inr (15, 1), .inr (15, 2), .inr (15, 3), .inr (15, 5), .inr (15, 6), .inr (15, 7), .inr (15, 8), .inr (15, 9)], [(some hkb00_35, hkb00_405, [(15, hkb00_408)]), (some hkb00_39, hkb00_410, []), (some hkb00_35, hkb00_411, [(15, hkb00_414)])])
def kbn_97 : List ai_Nd := []
set_option maxRecDepth 1000000 in
theorem kbk_97 : ai_ck [kb_36] [] kb_97 [.inl 100000] kbn_97 17 = true := by decide +kernel
theorem kbh_97 : ai_holds kb_97 := ai_thm kbk_97 (ai_cons kbh_36 ai_nil)
def hkb00_415 : ai_N := (.ofNat 0, .ofNat 20, [])
def hkb00_416 : ai_V := .inl (false, hkb00_415)
def hkb00_417 : ai_C := .inr (.inr (5, [hkb00_11, hkb00_204, hkb00_189, hkb00_191, hkb00_68, hkb00_155, hkb00_211, hkb00_39, hkb00_208, hkb00_416]))
/-- NeverAgain$TextReader.figures -/
def kb_98 : ai_K := (211, 2, (hkb00_187, [hkb00_6, hkb00_35, hkb00_403], [], hkb00_196), [.inr (15, 1), .inr (15, 2), .inr (15, 3), .inr (15, 5), .inr (15, 6), .inr (15, 7), .inr (15, 8), .inr (15, 9)], [(some hkb00_35, hkb00_202, [(15, hkb00_268)]), (some hkb00_39, hkb00_202, [(15, hkb00_417)]), (some hkb00_35, hkb00_202, [(15, hkb00_272)]), (some hkb00_35, hkb00_202, [(15, hkb00_273)]), (some hkb00_35, hkb00_187, [(15, hkb00_274)])])
def kbn_98 : List ai_Nd := []
set_option maxRecDepth 1000000 in
theorem kbk_98 : ai_ck [kb_97, kb_13, kb_12] [] kb_98 [.inl 100000] kbn_98 14 = true := by decide +kernel
theorem kbh_98 : ai_holds kb_98 := ai_thm kbk_98 (ai_cons kbh_97 (ai_cons kbh_13 (ai_cons kbh_12 ai_nil)))
def hkb00_418 : ai_C := .inr (.inr (6, [hkb00_115, hkb00_126, hkb00_144, hkb00_145, hkb00_146, hkb00_147, hkb00_149, hkb00_151, hkb00_416, hkb00_155, hkb00_19, hkb00_157, hkb00_159, hkb00_161]))
def hkb00_419 : ai_C := .inr (.inr (5, [hkb00_11, hkb00_295, hkb00_168, hkb00_302, hkb00_68, hkb00_213, hkb00_302, hkb00_200, hkb00_302, hkb00_416]))
def hkb00_420 : ai_C := .inr (.inr (5, [hkb00_11, hkb00_295, hkb00_278, hkb00_88, hkb00_68, hkb00_213, hkb00_307, hkb00_168, hkb00_309, hkb00_416]))
def hkb00_421 : ai_C := .inr (.inr (5, [hkb00_11, hkb00_295, hkb00_168, hkb00_309, hkb00_68, hkb00_213, hkb00_302, hkb00_35, hkb00_309, hkb00_416]))
/-- NeverAgain$TextReader.gapLine -/
def kb_99 : ai_K := (184, 3, (hkb00_276, [hkb00_6], [], hkb00_289), [.inr (1, 6), .inr (1, 7), .inr (1, 8), .inr (1, 9), .inr (1, 10), .inr (1, 11), .inr (1, 12), .inr (1, 13), .inr (15, 1), .inr (15, 2), .inr (15, 3), .inr (15, 5), .inr (15, 6), .inr (15, 7), .inr (15, 8), .inr (15, 9)], [(some hkb00_35, hkb00_276, [(15, hkb00_292)]), (some hkb00_35, hkb00_293, [(15, hkb00_300)]), (some hkb00_35, hkb00_293, [(15, hkb00_303)]), (some hkb00_35, hkb00_293, [(1, hkb00_418), (15, hkb00_419)]), (some hkb00_39, hkb00_293, [(1, hkb00_418), (15, hkb00_420)]), (some hkb00_35, hkb00_293, [(1, hkb00_418), (15, hkb00_421)]), (some hkb00_35, hkb00_293, [(1, hkb00_418), (15, hkb00_314)]), (some hkb00_35, hkb00_293, [(15, hkb00_315)]), (some hkb00_35, hkb00_276, [(15, hkb00_316)])])
def kbn_99 : List ai_Nd := []
set_option maxRecDepth 1000000 in
theorem kbk_99 : ai_ck [kb_96, kb_39, kb_98] [] kb_99 [.inl 100000] kbn_99 18 = true := by decide +kernel
theorem kbh_99 : ai_holds kb_99 := ai_thm kbk_99 (ai_cons kbh_96 (ai_cons kbh_39 (ai_cons kbh_98 ai_nil)))
def hkb00_422 : ai_V := .inr (some (.retAddr 7))
/-- java/lang/String.coder -/
def kb_100 : ai_K := (215, 0, ([], [hkb00_422], [], hkb00_178), [], [(some hkb00_35, [], [])])
def kbn_100 : List ai_Nd := []
set_option maxRecDepth 1000000 in
theorem kbk_100 : ai_ck [] [] kb_100 [.inl 100000] kbn_100 7 = true := by decide +kernel
theorem kbh_100 : ai_holds kb_100 := ai_thm kbk_100 ai_nil
/-- java/lang/String.length -/
def kb_101 : ai_K := (208, 1, ([], [hkb00_422], [], hkb00_178), [], [(some hkb00_123, [], [])])
def kbn_101 : List ai_Nd := []
set_option maxRecDepth 1000000 in
theorem kbk_101 : ai_ck [kb_100] [] kb_101 [.inl 100000] kbn_101 8 = true := by decide +kernel
theorem kbh_101 : ai_holds kb_101 := ai_thm kbk_101 (ai_cons kbh_100 ai_nil)
/-- java/lang/String.isLatin1 -/
def kb_102 : ai_K := (216, 0, ([], [hkb00_422], [], hkb00_178), [], [(some hkb00_39, [], [])])
def kbn_102 : List ai_Nd := []
set_option maxRecDepth 1000000 in
theorem kbk_102 : ai_ck [] [] kb_102 [.inl 100000] kbn_102 9 = true := by decide +kernel
theorem kbh_102 : ai_holds kb_102 := ai_thm kbk_102 ai_nil
def hkb00_423 : ai_V := .inr (some (.retAddr 8))
/-- java/lang/StringLatin1.charAt -/
def kb_109 : ai_K := (217, 2, ([hkb00_4], [hkb00_423, hkb00_234], [], hkb00_178), [.inl 1], [(some hkb00_237, [hkb00_4], [])])
def kbn_109 : List ai_Nd := []
set_option maxRecDepth 1000000 in
theorem kbk_109 : ai_ck [kb_30] [] kb_109 [.inl 100000] kbn_109 12 = true := by decide +kernel
theorem kbh_109 : ai_holds kb_109 := ai_thm kbk_109 (ai_cons kbh_30 ai_nil)
/-- java/lang/String.charAt -/
def kb_110 : ai_K := (209, 3, ([hkb00_4], [hkb00_422, hkb00_234], [], hkb00_178), [.inl 1], [(some hkb00_237, [hkb00_4], [])])
def kbn_110 : List ai_Nd := []
set_option maxRecDepth 1000000 in
theorem kbk_110 : ai_ck [kb_102, kb_109] [] kb_110 [.inl 100000] kbn_110 9 = true := by decide +kernel
theorem kbh_110 : ai_holds kb_110 := ai_thm kbk_110 (ai_cons kbh_102 (ai_cons kbh_109 ai_nil))
/-- NeverAgain$TextReader.isName -/
def kb_111 : ai_K := (181, 4, (hkb00_187, [hkb00_6, hkb00_422, hkb00_9], [], hkb00_196), [.inr (15, 1), .inr (15, 2), .inr (15, 3), .inr (15, 5), .inr (15, 6), .inr (15, 7), .inr (15, 8), .inr (15, 9)], [(some hkb00_35, hkb00_187, []), (some hkb00_39, hkb00_239, [])])
def kbn_111 : List ai_Nd := [(20, (hkb00_240, [hkb00_6, hkb00_422, hkb00_242], [], hkb00_247), [.inl 2], [.inl 99979, .inl 1, .inr (true, .ofNat 4, 8), .inl 100000])]
set_option maxRecDepth 1000000 in
theorem kbk_111 : ai_ck [kb_101, kb_110, kb_6] [] kb_111 [.inl 100000, .inl 0, .inl 0, .inl 0] kbn_111 18 = true := by decide +kernel
theorem kbh_111 : ai_holds kb_111 := ai_thm kbk_111 (ai_cons kbh_101 (ai_cons kbh_110 (ai_cons kbh_6 ai_nil)))
def hkb00_424 : ai_N := (.ofNat 8, .ofNat 8, [])
def hkb00_425 : ai_V := .inl (false, hkb00_424)
/-- NeverAgain$TextReader.once -/
def kb_112 : ai_K := (210, 1, (hkb00_187, [hkb00_6, hkb00_425], [], hkb00_249), [.inr (15, 1), .inr (15, 2), .inr (15, 3), .inr (15, 5), .inr (15, 6), .inr (15, 7), .inr (15, 8), .inr (15, 9)], [(some hkb00_35, hkb00_187, [(15, hkb00_250)]), (some hkb00_39, hkb00_187, [(15, hkb00_251)])])
def kbn_112 : List ai_Nd := []
set_option maxRecDepth 1000000 in
theorem kbk_112 : ai_ck [kb_34] [] kb_112 [.inl 100000] kbn_112 14 = true := by decide +kernel
theorem kbh_112 : ai_holds kb_112 := ai_thm kbk_112 (ai_cons kbh_34 ai_nil)
def hkb00_426 : ai_C := .inr (.inr (6, [hkb00_115, hkb00_126, hkb00_144, hkb00_145, hkb00_146, hkb00_147, hkb00_149, hkb00_151, hkb00_153, hkb00_39, hkb00_19, hkb00_157, hkb00_159, hkb00_161]))
def hkb00_427 : ai_C := .inr (.inr (5, [hkb00_11, hkb00_295, hkb00_278, hkb00_88, hkb00_68, hkb00_213, hkb00_299, hkb00_168, hkb00_297, hkb00_286]))
def hkb00_428 : ai_C := .inr (.inr (5, [hkb00_11, hkb00_295, hkb00_168, hkb00_297, hkb00_68, hkb00_213, hkb00_302, hkb00_39, hkb00_297, hkb00_213]))
def hkb00_429 : ai_C := .inr (.inr (5, [hkb00_11, hkb00_295, hkb00_39, hkb00_297, hkb00_68, hkb00_213, hkb00_291, hkb00_39, hkb00_297, hkb00_213]))
/-- NeverAgain$TextReader.nearLine -/
def kb_113 : ai_K := (185, 3, (hkb00_276, [hkb00_6], [], hkb00_289), [.inr (1, 6), .inr (1, 7), .inr (1, 8), .inr (1, 9), .inr (1, 10), .inr (1, 11), .inr (1, 12), .inr (1, 13), .inr (15, 1), .inr (15, 2), .inr (15, 3), .inr (15, 5), .inr (15, 6), .inr (15, 7), .inr (15, 8), .inr (15, 9)], [(some hkb00_35, hkb00_276, [(1, hkb00_426), (15, hkb00_292)]), (some hkb00_39, hkb00_293, [(1, hkb00_426), (15, hkb00_427)]), (some hkb00_35, hkb00_293, [(1, hkb00_426), (15, hkb00_303)]), (some hkb00_35, hkb00_293, [(1, hkb00_426), (15, hkb00_428)]), (some hkb00_35, hkb00_293, [(1, hkb00_426), (15, hkb00_429)]), (some hkb00_35, hkb00_276, [(15, hkb00_316)])])
def kbn_113 : List ai_Nd := []
set_option maxRecDepth 1000000 in
theorem kbk_113 : ai_ck [kb_112, kb_39] [] kb_113 [.inl 100000] kbn_113 12 = true := by decide +kernel
theorem kbh_113 : ai_holds kb_113 := ai_thm kbk_113 (ai_cons kbh_112 (ai_cons kbh_39 ai_nil))
def hkb00_430 : ai_V := .inr (some (.retAddr 9))
/-- java/lang/String.coder -/
def kb_114 : ai_K := (215, 0, ([], [hkb00_430], [], hkb00_178), [], [(some hkb00_35, [], [])])
def kbn_114 : List ai_Nd := []
set_option maxRecDepth 1000000 in
theorem kbk_114 : ai_ck [] [] kb_114 [.inl 100000] kbn_114 7 = true := by decide +kernel
theorem kbh_114 : ai_holds kb_114 := ai_thm kbk_114 ai_nil
/-- java/lang/String.length -/
def kb_115 : ai_K := (208, 1, ([], [hkb00_430], [], hkb00_178), [], [(some hkb00_123, [], [])])
def kbn_115 : List ai_Nd := []
set_option maxRecDepth 1000000 in
theorem kbk_115 : ai_ck [kb_114] [] kb_115 [.inl 100000] kbn_115 8 = true := by decide +kernel
theorem kbh_115 : ai_holds kb_115 := ai_thm kbk_115 (ai_cons kbh_114 ai_nil)
/-- java/lang/String.isLatin1 -/
def kb_116 : ai_K := (216, 0, ([], [hkb00_430], [], hkb00_178), [], [(some hkb00_39, [], [])])
def kbn_116 : List ai_Nd := []
set_option maxRecDepth 1000000 in
theorem kbk_116 : ai_ck [] [] kb_116 [.inl 100000] kbn_116 9 = true := by decide +kernel
theorem kbh_116 : ai_holds kb_116 := ai_thm kbk_116 ai_nil
def hkb00_431 : ai_V := .inr (some (.retAddr 10))
/-- java/lang/StringLatin1.charAt -/
def kb_123 : ai_K := (217, 2, ([hkb00_4], [hkb00_431, hkb00_234], [], hkb00_178), [.inl 1], [(some hkb00_237, [hkb00_4], [])])
def kbn_123 : List ai_Nd := []
set_option maxRecDepth 1000000 in
theorem kbk_123 : ai_ck [kb_30] [] kb_123 [.inl 100000] kbn_123 12 = true := by decide +kernel
theorem kbh_123 : ai_holds kb_123 := ai_thm kbk_123 (ai_cons kbh_30 ai_nil)
/-- java/lang/String.charAt -/
def kb_124 : ai_K := (209, 3, ([hkb00_4], [hkb00_430, hkb00_234], [], hkb00_178), [.inl 1], [(some hkb00_237, [hkb00_4], [])])
def kbn_124 : List ai_Nd := []
set_option maxRecDepth 1000000 in
theorem kbk_124 : ai_ck [kb_116, kb_123] [] kb_124 [.inl 100000] kbn_124 9 = true := by decide +kernel
theorem kbh_124 : ai_holds kb_124 := ai_thm kbk_124 (ai_cons kbh_116 (ai_cons kbh_123 ai_nil))
/-- NeverAgain$TextReader.isName -/
def kb_125 : ai_K := (181, 4, (hkb00_187, [hkb00_6, hkb00_430, hkb00_9], [], hkb00_196), [.inr (15, 1), .inr (15, 2), .inr (15, 3), .inr (15, 5), .inr (15, 6), .inr (15, 7), .inr (15, 8), .inr (15, 9)], [(some hkb00_35, hkb00_187, []), (some hkb00_39, hkb00_239, [])])
def kbn_125 : List ai_Nd := [(20, (hkb00_240, [hkb00_6, hkb00_430, hkb00_242], [], hkb00_247), [.inl 2], [.inl 99979, .inl 1, .inr (true, .ofNat 4, 8), .inl 100000])]
set_option maxRecDepth 1000000 in
theorem kbk_125 : ai_ck [kb_115, kb_124, kb_6] [] kb_125 [.inl 100000, .inl 0, .inl 0, .inl 0] kbn_125 18 = true := by decide +kernel
theorem kbh_125 : ai_holds kb_125 := ai_thm kbk_125 (ai_cons kbh_115 (ai_cons kbh_124 (ai_cons kbh_6 ai_nil)))
/-- NeverAgain$TextReader.once -/
def kb_126 : ai_K := (210, 1, (hkb00_187, [hkb00_6, hkb00_254], [], hkb00_249), [.inr (15, 1), .inr (15, 2), .inr (15, 3), .inr (15, 5), .inr (15, 6), .inr (15, 7), .inr (15, 8), .inr (15, 9)], [(some hkb00_35, hkb00_187, [(15, hkb00_250)]), (some hkb00_39, hkb00_187, [(15, hkb00_251)])])
def kbn_126 : List ai_Nd := []
set_option maxRecDepth 1000000 in
theorem kbk_126 : ai_ck [kb_34] [] kb_126 [.inl 100000] kbn_126 14 = true := by decide +kernel
theorem kbh_126 : ai_holds kb_126 := ai_thm kbk_126 (ai_cons kbh_34 ai_nil)
def hkb00_432 : ai_V := .inr (some (.retAddr 19))
/-- java/lang/String.coder -/
def kb_127 : ai_K := (215, 0, ([], [hkb00_432], [], hkb00_178), [], [(some hkb00_35, [], [])])
def kbn_127 : List ai_Nd := []
set_option maxRecDepth 1000000 in
theorem kbk_127 : ai_ck [] [] kb_127 [.inl 100000] kbn_127 7 = true := by decide +kernel
theorem kbh_127 : ai_holds kb_127 := ai_thm kbk_127 ai_nil
/-- java/lang/String.length -/
def kb_128 : ai_K := (208, 1, ([], [hkb00_432], [], hkb00_178), [], [(some hkb00_361, [], [])])
def kbn_128 : List ai_Nd := []
set_option maxRecDepth 1000000 in
theorem kbk_128 : ai_ck [kb_127] [] kb_128 [.inl 100000] kbn_128 8 = true := by decide +kernel
theorem kbh_128 : ai_holds kb_128 := ai_thm kbk_128 (ai_cons kbh_127 ai_nil)
/-- java/lang/String.isLatin1 -/
def kb_129 : ai_K := (216, 0, ([], [hkb00_432], [], hkb00_178), [], [(some hkb00_39, [], [])])
def kbn_129 : List ai_Nd := []
set_option maxRecDepth 1000000 in
theorem kbk_129 : ai_ck [] [] kb_129 [.inl 100000] kbn_129 9 = true := by decide +kernel
theorem kbh_129 : ai_holds kb_129 := ai_thm kbk_129 ai_nil
/-- jdk/internal/util/Preconditions.checkIndex -/
def kb_146 : ai_K := (220, 0, ([hkb00_56], [hkb00_121, hkb00_361, hkb00_9], [], hkb00_178), [.inl 0], [(some hkb00_121, [hkb00_56], [])])
def kbn_146 : List ai_Nd := []
set_option maxRecDepth 1000000 in
theorem kbk_146 : ai_ck [] [] kb_146 [.inl 100000] kbn_146 8 = true := by decide +kernel
theorem kbh_146 : ai_holds kb_146 := ai_thm kbk_146 ai_nil
/-- java/lang/String.checkIndex -/
def kb_147 : ai_K := (219, 1, ([hkb00_56], [hkb00_121, hkb00_361], [], hkb00_178), [.inl 0], [(none, [hkb00_56], [])])
def kbn_147 : List ai_Nd := []
set_option maxRecDepth 1000000 in
theorem kbk_147 : ai_ck [kb_146] [] kb_147 [.inl 100000] kbn_147 7 = true := by decide +kernel
theorem kbh_147 : ai_holds kb_147 := ai_thm kbk_147 (ai_cons kbh_146 ai_nil)
def hkb00_433 : ai_V := .inr (some (.retAddr 20))
/-- java/lang/StringLatin1.charAt -/
def kb_148 : ai_K := (217, 2, ([hkb00_56], [hkb00_433, hkb00_121], [], hkb00_178), [.inl 1], [(some hkb00_237, [hkb00_56], [])])
def kbn_148 : List ai_Nd := []
set_option maxRecDepth 1000000 in
theorem kbk_148 : ai_ck [kb_147] [] kb_148 [.inl 100000] kbn_148 12 = true := by decide +kernel
theorem kbh_148 : ai_holds kb_148 := ai_thm kbk_148 (ai_cons kbh_147 ai_nil)
/-- java/lang/String.charAt -/
def kb_149 : ai_K := (209, 3, ([hkb00_56], [hkb00_432, hkb00_121], [], hkb00_178), [.inl 1], [(some hkb00_237, [hkb00_56], [])])
def kbn_149 : List ai_Nd := []
set_option maxRecDepth 1000000 in
theorem kbk_149 : ai_ck [kb_129, kb_148] [] kb_149 [.inl 100000] kbn_149 9 = true := by decide +kernel
theorem kbh_149 : ai_holds kb_149 := ai_thm kbk_149 (ai_cons kbh_129 (ai_cons kbh_148 ai_nil))
def hkb00_434 : Int × Int := (.ofNat 5, .ofNat 400)
def hkb00_435 : ai_E := [hkb00_1, hkb00_2, hkb00_1, hkb00_3, hkb00_434, hkb00_4, hkb00_1, hkb00_3]
/-- NeverAgain$TextReader.isName -/
def kb_150 : ai_K := (181, 4, (hkb00_187, [hkb00_6, hkb00_432, hkb00_9], [], hkb00_196), [.inr (15, 1), .inr (15, 2), .inr (15, 3), .inr (15, 5), .inr (15, 6), .inr (15, 7), .inr (15, 8), .inr (15, 9)], [(some hkb00_35, hkb00_187, []), (some hkb00_39, hkb00_435, [])])
def hkb00_436 : ai_E := [hkb00_1, hkb00_2, hkb00_1, hkb00_3, hkb00_434, hkb00_4, hkb00_1, hkb00_3, hkb00_142]
def hkb00_437 : ai_N := (.ofNat 0, .ofNat 5, [(8, .ofNat 0, .ofNat 0)])
def hkb00_438 : ai_V := .inl (false, hkb00_437)
def hkb00_439 : ai_N := (.ofNat 5, .ofNat 400, [(4, .ofNat 0, .ofNat 0)])
def hkb00_440 : ai_V := .inl (false, hkb00_439)
def hkb00_441 : ai_C := .inr (.inr (5, [hkb00_11, hkb00_111, hkb00_189, hkb00_191, hkb00_68, hkb00_155, hkb00_440, hkb00_193, hkb00_80, hkb00_82]))
def hkb00_442 : Bool × Option ai_C := (false, some hkb00_441)
def hkb00_443 : ai_W := [hkb00_10, hkb00_10, hkb00_10, hkb00_10, hkb00_10, hkb00_10, hkb00_10, hkb00_10, hkb00_10, hkb00_10, hkb00_10, hkb00_10, hkb00_10, hkb00_10, hkb00_10, hkb00_442, hkb00_32, hkb00_10, hkb00_10, hkb00_10, hkb00_10, hkb00_10, hkb00_10, hkb00_10, hkb00_10, hkb00_10, hkb00_10, hkb00_10, hkb00_10, hkb00_10, hkb00_10, hkb00_10, hkb00_10, hkb00_10, hkb00_10, hkb00_10, hkb00_10, hkb00_10, hkb00_10, hkb00_10, hkb00_10, hkb00_10, hkb00_10, hkb00_10, hkb00_10, hkb00_10, hkb00_10, hkb00_10, hkb00_10, hkb00_10, hkb00_10, hkb00_10, hkb00_10, hkb00_10, hkb00_10, hkb00_10, hkb00_10, hkb00_10, hkb00_10, hkb00_10, hkb00_10, hkb00_10, hkb00_10, hkb00_10, hkb00_10, hkb00_10, hkb00_10, hkb00_10, hkb00_10, hkb00_10, hkb00_10, hkb00_10, hkb00_10, hkb00_10, hkb00_10, hkb00_10]
def kbn_150 : List ai_Nd := [(20, (hkb00_436, [hkb00_6, hkb00_432, hkb00_438], [], hkb00_443), [.inl 2], [.inl 99979, .inl 1, .inr (true, .ofNat 5, 8), .inl 100000])]
set_option maxRecDepth 1000000 in
theorem kbk_150 : ai_ck [kb_128, kb_149, kb_6] [] kb_150 [.inl 100000, .inl 0, .inl 0, .inl 0] kbn_150 18 = true := by decide +kernel
theorem kbh_150 : ai_holds kb_150 := ai_thm kbk_150 (ai_cons kbh_128 (ai_cons kbh_149 (ai_cons kbh_6 ai_nil)))
def hkb00_444 : ai_V := .inr (some (.retAddr 21))
/-- java/lang/String.coder -/
def kb_151 : ai_K := (215, 0, ([], [hkb00_444], [], hkb00_178), [], [(some hkb00_35, [], [])])
def kbn_151 : List ai_Nd := []
set_option maxRecDepth 1000000 in
theorem kbk_151 : ai_ck [] [] kb_151 [.inl 100000] kbn_151 7 = true := by decide +kernel
theorem kbh_151 : ai_holds kb_151 := ai_thm kbk_151 ai_nil
/-- java/lang/String.length -/
def kb_152 : ai_K := (208, 1, ([], [hkb00_444], [], hkb00_178), [], [(some hkb00_123, [], [])])
def kbn_152 : List ai_Nd := []
set_option maxRecDepth 1000000 in
theorem kbk_152 : ai_ck [kb_151] [] kb_152 [.inl 100000] kbn_152 8 = true := by decide +kernel
theorem kbh_152 : ai_holds kb_152 := ai_thm kbk_152 (ai_cons kbh_151 ai_nil)
/-- java/lang/String.isLatin1 -/
def kb_153 : ai_K := (216, 0, ([], [hkb00_444], [], hkb00_178), [], [(some hkb00_39, [], [])])
def kbn_153 : List ai_Nd := []
set_option maxRecDepth 1000000 in
theorem kbk_153 : ai_ck [] [] kb_153 [.inl 100000] kbn_153 9 = true := by decide +kernel
theorem kbh_153 : ai_holds kb_153 := ai_thm kbk_153 ai_nil
def hkb00_445 : ai_V := .inr (some (.retAddr 22))
/-- java/lang/StringLatin1.charAt -/
def kb_160 : ai_K := (217, 2, ([hkb00_4], [hkb00_445, hkb00_234], [], hkb00_178), [.inl 1], [(some hkb00_237, [hkb00_4], [])])
def kbn_160 : List ai_Nd := []
set_option maxRecDepth 1000000 in
theorem kbk_160 : ai_ck [kb_30] [] kb_160 [.inl 100000] kbn_160 12 = true := by decide +kernel
theorem kbh_160 : ai_holds kb_160 := ai_thm kbk_160 (ai_cons kbh_30 ai_nil)
/-- java/lang/String.charAt -/
def kb_161 : ai_K := (209, 3, ([hkb00_4], [hkb00_444, hkb00_234], [], hkb00_178), [.inl 1], [(some hkb00_237, [hkb00_4], [])])
def kbn_161 : List ai_Nd := []
set_option maxRecDepth 1000000 in
theorem kbk_161 : ai_ck [kb_153, kb_160] [] kb_161 [.inl 100000] kbn_161 9 = true := by decide +kernel
theorem kbh_161 : ai_holds kb_161 := ai_thm kbk_161 (ai_cons kbh_153 (ai_cons kbh_160 ai_nil))
/-- NeverAgain$TextReader.isName -/
def kb_162 : ai_K := (181, 4, (hkb00_187, [hkb00_6, hkb00_444, hkb00_9], [], hkb00_196), [.inr (15, 1), .inr (15, 2), .inr (15, 3), .inr (15, 5), .inr (15, 6), .inr (15, 7), .inr (15, 8), .inr (15, 9)], [(some hkb00_35, hkb00_187, []), (some hkb00_39, hkb00_239, [])])
def kbn_162 : List ai_Nd := [(20, (hkb00_240, [hkb00_6, hkb00_444, hkb00_242], [], hkb00_247), [.inl 2], [.inl 99979, .inl 1, .inr (true, .ofNat 4, 8), .inl 100000])]
set_option maxRecDepth 1000000 in
theorem kbk_162 : ai_ck [kb_152, kb_161, kb_6] [] kb_162 [.inl 100000, .inl 0, .inl 0, .inl 0] kbn_162 18 = true := by decide +kernel
theorem kbh_162 : ai_holds kb_162 := ai_thm kbk_162 (ai_cons kbh_152 (ai_cons kbh_161 (ai_cons kbh_6 ai_nil)))
def hkb00_446 : ai_V := .inr (some (.retAddr 23))
/-- java/lang/String.coder -/
def kb_163 : ai_K := (215, 0, ([], [hkb00_446], [], hkb00_178), [], [(some hkb00_35, [], [])])
def kbn_163 : List ai_Nd := []
set_option maxRecDepth 1000000 in
theorem kbk_163 : ai_ck [] [] kb_163 [.inl 100000] kbn_163 7 = true := by decide +kernel
theorem kbh_163 : ai_holds kb_163 := ai_thm kbk_163 ai_nil
/-- java/lang/String.length -/
def kb_164 : ai_K := (208, 1, ([], [hkb00_446], [], hkb00_178), [], [(some hkb00_123, [], [])])
def kbn_164 : List ai_Nd := []
set_option maxRecDepth 1000000 in
theorem kbk_164 : ai_ck [kb_163] [] kb_164 [.inl 100000] kbn_164 8 = true := by decide +kernel
theorem kbh_164 : ai_holds kb_164 := ai_thm kbk_164 (ai_cons kbh_163 ai_nil)
/-- java/lang/String.isLatin1 -/
def kb_165 : ai_K := (216, 0, ([], [hkb00_446], [], hkb00_178), [], [(some hkb00_39, [], [])])
def kbn_165 : List ai_Nd := []
set_option maxRecDepth 1000000 in
theorem kbk_165 : ai_ck [] [] kb_165 [.inl 100000] kbn_165 9 = true := by decide +kernel
theorem kbh_165 : ai_holds kb_165 := ai_thm kbk_165 ai_nil
def hkb00_447 : ai_V := .inr (some (.retAddr 24))
/-- java/lang/StringLatin1.charAt -/
def kb_172 : ai_K := (217, 2, ([hkb00_4], [hkb00_447, hkb00_234], [], hkb00_178), [.inl 1], [(some hkb00_237, [hkb00_4], [])])
def kbn_172 : List ai_Nd := []
set_option maxRecDepth 1000000 in
theorem kbk_172 : ai_ck [kb_30] [] kb_172 [.inl 100000] kbn_172 12 = true := by decide +kernel
theorem kbh_172 : ai_holds kb_172 := ai_thm kbk_172 (ai_cons kbh_30 ai_nil)
/-- java/lang/String.charAt -/
def kb_173 : ai_K := (209, 3, ([hkb00_4], [hkb00_446, hkb00_234], [], hkb00_178), [.inl 1], [(some hkb00_237, [hkb00_4], [])])
def kbn_173 : List ai_Nd := []
set_option maxRecDepth 1000000 in
theorem kbk_173 : ai_ck [kb_165, kb_172] [] kb_173 [.inl 100000] kbn_173 9 = true := by decide +kernel
theorem kbh_173 : ai_holds kb_173 := ai_thm kbk_173 (ai_cons kbh_165 (ai_cons kbh_172 ai_nil))
/-- NeverAgain$TextReader.isName -/
def kb_174 : ai_K := (181, 4, (hkb00_187, [hkb00_6, hkb00_446, hkb00_9], [], hkb00_196), [.inr (15, 1), .inr (15, 2), .inr (15, 3), .inr (15, 5), .inr (15, 6), .inr (15, 7), .inr (15, 8), .inr (15, 9)], [(some hkb00_35, hkb00_187, []), (some hkb00_39, hkb00_239, [])])
def kbn_174 : List ai_Nd := [(20, (hkb00_240, [hkb00_6, hkb00_446, hkb00_242], [], hkb00_247), [.inl 2], [.inl 99979, .inl 1, .inr (true, .ofNat 4, 8), .inl 100000])]
set_option maxRecDepth 1000000 in
theorem kbk_174 : ai_ck [kb_164, kb_173, kb_6] [] kb_174 [.inl 100000, .inl 0, .inl 0, .inl 0] kbn_174 18 = true := by decide +kernel
theorem kbh_174 : ai_holds kb_174 := ai_thm kbk_174 (ai_cons kbh_164 (ai_cons kbh_173 (ai_cons kbh_6 ai_nil)))
def hkb00_448 : ai_C := .inr (.inr (5, [hkb00_11, hkb00_295, hkb00_313, hkb00_297, hkb00_68, hkb00_213, hkb00_291, hkb00_39, hkb00_297, hkb00_213]))
def hkb00_449 : ai_N := (.ofNat 0, .ofNat 2, [])
def hkb00_450 : ai_V := .inl (false, hkb00_449)
def hkb00_451 : ai_C := .inr (.inr (6, [hkb00_115, hkb00_126, hkb00_144, hkb00_145, hkb00_146, hkb00_147, hkb00_149, hkb00_151, hkb00_153, hkb00_155, hkb00_450, hkb00_157, hkb00_159, hkb00_161]))
def hkb00_452 : ai_N := (.ofNat 4, .ofNat 400, [(12, .ofNat 0, .ofNat 400)])
def hkb00_453 : ai_V := .inl (false, hkb00_452)
def hkb00_454 : ai_C := .inr (.inr (5, [hkb00_11, hkb00_295, hkb00_168, hkb00_453, hkb00_68, hkb00_213, hkb00_453, hkb00_200, hkb00_453, hkb00_286]))
def hkb00_455 : ai_N := (.ofNat 5, .ofNat 400, [(12, .ofNat 1, .ofNat 400)])
def hkb00_456 : ai_V := .inl (false, hkb00_455)
def hkb00_457 : ai_N := (.ofNat 4, .ofNat 399, [(12, .ofNat 0, .ofNat 399)])
def hkb00_458 : ai_V := .inl (false, hkb00_457)
def hkb00_459 : ai_C := .inr (.inr (5, [hkb00_11, hkb00_295, hkb00_278, hkb00_88, hkb00_68, hkb00_213, hkb00_456, hkb00_168, hkb00_458, hkb00_286]))
def hkb00_460 : ai_C := .inr (.inr (5, [hkb00_11, hkb00_295, hkb00_168, hkb00_458, hkb00_68, hkb00_213, hkb00_453, hkb00_35, hkb00_458, hkb00_286]))
def hkb00_461 : ai_C := .inr (.inr (5, [hkb00_11, hkb00_295, hkb00_313, hkb00_458, hkb00_68, hkb00_213, hkb00_453, hkb00_39, hkb00_458, hkb00_213]))
/-- NeverAgain$TextReader.bookLine -/
def kb_175 : ai_K := (186, 5, (hkb00_276, [hkb00_6], [], hkb00_289), [.inr (1, 6), .inr (1, 7), .inr (1, 8), .inr (1, 9), .inr (1, 10), .inr (1, 11), .inr (1, 12), .inr (1, 13), .inr (15, 1), .inr (15, 2), .inr (15, 3), .inr (15, 5), .inr (15, 6), .inr (15, 7), .inr (15, 8), .inr (15, 9)], [(some hkb00_35, hkb00_293, [(15, hkb00_448)]), (some hkb00_35, hkb00_293, [(1, hkb00_451), (15, hkb00_454)]), (some hkb00_39, hkb00_293, [(1, hkb00_451), (15, hkb00_459)]), (some hkb00_35, hkb00_293, [(1, hkb00_451), (15, hkb00_460)]), (some hkb00_35, hkb00_293, [(1, hkb00_451), (15, hkb00_461)]), (some hkb00_35, hkb00_293, [(15, hkb00_303)]), (some hkb00_35, hkb00_293, [(15, hkb00_300)]), (some hkb00_35, hkb00_276, [(15, hkb00_292)]), (some hkb00_35, hkb00_276, [(15, hkb00_316)])])
def kbn_175 : List ai_Nd := []
set_option maxRecDepth 1000000 in
theorem kbk_175 : ai_ck [kb_126, kb_39, kb_13, kb_12, kb_150, kb_162, kb_174] [] kb_175 [.inl 100000] kbn_175 37 = true := by decide +kernel
theorem kbh_175 : ai_holds kb_175 := ai_thm kbk_175 (ai_cons kbh_126 (ai_cons kbh_39 (ai_cons kbh_13 (ai_cons kbh_12 (ai_cons kbh_150 (ai_cons kbh_162 (ai_cons kbh_174 ai_nil)))))))
def hkb00_462 : ai_V := .inr (some (.retAddr 11))
/-- java/lang/String.coder -/
def kb_176 : ai_K := (215, 0, ([], [hkb00_462], [], hkb00_178), [], [(some hkb00_35, [], [])])
def kbn_176 : List ai_Nd := []
set_option maxRecDepth 1000000 in
theorem kbk_176 : ai_ck [] [] kb_176 [.inl 100000] kbn_176 7 = true := by decide +kernel
theorem kbh_176 : ai_holds kb_176 := ai_thm kbk_176 ai_nil
/-- java/lang/String.length -/
def kb_177 : ai_K := (208, 1, ([], [hkb00_462], [], hkb00_178), [], [(some hkb00_123, [], [])])
def kbn_177 : List ai_Nd := []
set_option maxRecDepth 1000000 in
theorem kbk_177 : ai_ck [kb_176] [] kb_177 [.inl 100000] kbn_177 8 = true := by decide +kernel
theorem kbh_177 : ai_holds kb_177 := ai_thm kbk_177 (ai_cons kbh_176 ai_nil)
/-- java/lang/String.isLatin1 -/
def kb_178 : ai_K := (216, 0, ([], [hkb00_462], [], hkb00_178), [], [(some hkb00_39, [], [])])
def kbn_178 : List ai_Nd := []
set_option maxRecDepth 1000000 in
theorem kbk_178 : ai_ck [] [] kb_178 [.inl 100000] kbn_178 9 = true := by decide +kernel
theorem kbh_178 : ai_holds kb_178 := ai_thm kbk_178 ai_nil
def hkb00_463 : ai_V := .inr (some (.retAddr 12))
/-- java/lang/StringLatin1.charAt -/
def kb_185 : ai_K := (217, 2, ([hkb00_4], [hkb00_463, hkb00_234], [], hkb00_178), [.inl 1], [(some hkb00_237, [hkb00_4], [])])
def kbn_185 : List ai_Nd := []
set_option maxRecDepth 1000000 in
theorem kbk_185 : ai_ck [kb_30] [] kb_185 [.inl 100000] kbn_185 12 = true := by decide +kernel
theorem kbh_185 : ai_holds kb_185 := ai_thm kbk_185 (ai_cons kbh_30 ai_nil)
/-- java/lang/String.charAt -/
def kb_186 : ai_K := (209, 3, ([hkb00_4], [hkb00_462, hkb00_234], [], hkb00_178), [.inl 1], [(some hkb00_237, [hkb00_4], [])])
def kbn_186 : List ai_Nd := []
set_option maxRecDepth 1000000 in
theorem kbk_186 : ai_ck [kb_178, kb_185] [] kb_186 [.inl 100000] kbn_186 9 = true := by decide +kernel
theorem kbh_186 : ai_holds kb_186 := ai_thm kbk_186 (ai_cons kbh_178 (ai_cons kbh_185 ai_nil))
/-- NeverAgain$TextReader.isName -/
def kb_187 : ai_K := (181, 4, (hkb00_187, [hkb00_6, hkb00_462, hkb00_9], [], hkb00_196), [.inr (15, 1), .inr (15, 2), .inr (15, 3), .inr (15, 5), .inr (15, 6), .inr (15, 7), .inr (15, 8), .inr (15, 9)], [(some hkb00_35, hkb00_187, []), (some hkb00_39, hkb00_239, [])])
def kbn_187 : List ai_Nd := [(20, (hkb00_240, [hkb00_6, hkb00_462, hkb00_242], [], hkb00_247), [.inl 2], [.inl 99979, .inl 1, .inr (true, .ofNat 4, 8), .inl 100000])]
set_option maxRecDepth 1000000 in
theorem kbk_187 : ai_ck [kb_177, kb_186, kb_6] [] kb_187 [.inl 100000, .inl 0, .inl 0, .inl 0] kbn_187 18 = true := by decide +kernel
theorem kbh_187 : ai_holds kb_187 := ai_thm kbk_187 (ai_cons kbh_177 (ai_cons kbh_186 (ai_cons kbh_6 ai_nil)))
def hkb00_464 : Int × Int := (.ofNat 1, .ofNat 16)
def hkb00_465 : ai_E := [hkb00_1, hkb00_2, hkb00_1, hkb00_3, hkb00_1, hkb00_4, hkb00_1, hkb00_464]
/-- NeverAgain$TextReader.inBounds -/
def kb_188 : ai_K := (218, 1, (hkb00_187, [hkb00_6, hkb00_39, hkb00_254], [], hkb00_249), [.inr (15, 1), .inr (15, 2), .inr (15, 3), .inr (15, 5), .inr (15, 6), .inr (15, 7), .inr (15, 8), .inr (15, 9)], [(some hkb00_35, hkb00_256, [(15, hkb00_259)]), (some hkb00_39, hkb00_465, []), (some hkb00_35, hkb00_341, [(15, hkb00_344)])])
def kbn_188 : List ai_Nd := []
set_option maxRecDepth 1000000 in
theorem kbk_188 : ai_ck [kb_36] [] kb_188 [.inl 100000] kbn_188 17 = true := by decide +kernel
theorem kbh_188 : ai_holds kb_188 := ai_thm kbk_188 (ai_cons kbh_36 ai_nil)
def hkb00_466 : ai_N := (.ofNat 1, .ofNat 16, [])
def hkb00_467 : ai_V := .inl (false, hkb00_466)
def hkb00_468 : ai_C := .inr (.inr (5, [hkb00_11, hkb00_204, hkb00_189, hkb00_191, hkb00_68, hkb00_155, hkb00_211, hkb00_39, hkb00_208, hkb00_467]))
/-- NeverAgain$TextReader.figures -/
def kb_189 : ai_K := (211, 2, (hkb00_187, [hkb00_6, hkb00_39, hkb00_254], [], hkb00_196), [.inr (15, 1), .inr (15, 2), .inr (15, 3), .inr (15, 5), .inr (15, 6), .inr (15, 7), .inr (15, 8), .inr (15, 9)], [(some hkb00_35, hkb00_202, [(15, hkb00_268)]), (some hkb00_39, hkb00_202, [(15, hkb00_468)]), (some hkb00_35, hkb00_202, [(15, hkb00_272)]), (some hkb00_35, hkb00_202, [(15, hkb00_273)]), (some hkb00_35, hkb00_187, [(15, hkb00_274)])])
def kbn_189 : List ai_Nd := []
set_option maxRecDepth 1000000 in
theorem kbk_189 : ai_ck [kb_188, kb_13, kb_12] [] kb_189 [.inl 100000] kbn_189 14 = true := by decide +kernel
theorem kbh_189 : ai_holds kb_189 := ai_thm kbk_189 (ai_cons kbh_188 (ai_cons kbh_13 (ai_cons kbh_12 ai_nil)))
def hkb00_469 : Int × Int := (.ofNat 4, .ofNat 2147483647)
def hkb00_470 : ai_E := [hkb00_1, hkb00_2, hkb00_1, hkb00_3, hkb00_1, hkb00_4, hkb00_1, hkb00_469]
def hkb00_471 : ai_N := (.ofNat 4, .ofNat 2147483647, [(7, .ofNat 0, .ofNat 0)])
def hkb00_472 : ai_V := .inl (false, hkb00_471)
def hkb00_473 : ai_C := .inr (.inr (5, [hkb00_11, hkb00_111, hkb00_200, hkb00_80, hkb00_68, hkb00_155, hkb00_76, hkb00_193, hkb00_80, hkb00_472]))
def hkb00_474 : ai_E := [hkb00_1, hkb00_2, hkb00_1, hkb00_3, hkb00_1, hkb00_4, hkb00_1, hkb00_4]
/-- NeverAgain$TextReader.inBounds -/
def kb_190 : ai_K := (218, 1, (hkb00_187, [hkb00_6, hkb00_35, hkb00_200], [], hkb00_249), [.inr (15, 1), .inr (15, 2), .inr (15, 3), .inr (15, 5), .inr (15, 6), .inr (15, 7), .inr (15, 8), .inr (15, 9)], [(some hkb00_35, hkb00_470, [(15, hkb00_473)]), (some hkb00_39, hkb00_474, []), (some hkb00_35, hkb00_411, [(15, hkb00_414)])])
def kbn_190 : List ai_Nd := []
set_option maxRecDepth 1000000 in
theorem kbk_190 : ai_ck [kb_36] [] kb_190 [.inl 100000] kbn_190 17 = true := by decide +kernel
theorem kbh_190 : ai_holds kb_190 := ai_thm kbk_190 (ai_cons kbh_36 ai_nil)
def hkb00_475 : ai_N := (.ofNat 0, .ofNat 3, [])
def hkb00_476 : ai_V := .inl (false, hkb00_475)
def hkb00_477 : ai_C := .inr (.inr (5, [hkb00_11, hkb00_204, hkb00_189, hkb00_191, hkb00_68, hkb00_155, hkb00_211, hkb00_39, hkb00_208, hkb00_476]))
/-- NeverAgain$TextReader.figures -/
def kb_191 : ai_K := (211, 2, (hkb00_187, [hkb00_6, hkb00_35, hkb00_200], [], hkb00_196), [.inr (15, 1), .inr (15, 2), .inr (15, 3), .inr (15, 5), .inr (15, 6), .inr (15, 7), .inr (15, 8), .inr (15, 9)], [(some hkb00_35, hkb00_202, [(15, hkb00_268)]), (some hkb00_39, hkb00_202, [(15, hkb00_477)]), (some hkb00_35, hkb00_202, [(15, hkb00_272)]), (some hkb00_35, hkb00_202, [(15, hkb00_273)]), (some hkb00_35, hkb00_187, [(15, hkb00_274)])])
def kbn_191 : List ai_Nd := []
set_option maxRecDepth 1000000 in
theorem kbk_191 : ai_ck [kb_190, kb_13, kb_12] [] kb_191 [.inl 100000] kbn_191 14 = true := by decide +kernel
theorem kbh_191 : ai_holds kb_191 := ai_thm kbk_191 (ai_cons kbh_190 (ai_cons kbh_13 (ai_cons kbh_12 ai_nil)))
def hkb00_478 : ai_W := [hkb00_10, hkb00_163, hkb00_10, hkb00_130, hkb00_10, hkb00_10, hkb00_10, hkb00_10, hkb00_10, hkb00_10, hkb00_10, hkb00_10, hkb00_10, hkb00_10, hkb00_10, hkb00_288, hkb00_32, hkb00_10, hkb00_10, hkb00_10, hkb00_10, hkb00_10, hkb00_10, hkb00_10, hkb00_10, hkb00_10, hkb00_10, hkb00_10, hkb00_10, hkb00_10, hkb00_10, hkb00_10, hkb00_10, hkb00_10, hkb00_10, hkb00_10, hkb00_10, hkb00_10, hkb00_10, hkb00_10, hkb00_10, hkb00_10, hkb00_10, hkb00_10, hkb00_10, hkb00_10, hkb00_10, hkb00_10, hkb00_10, hkb00_10, hkb00_10, hkb00_10, hkb00_10, hkb00_10, hkb00_10, hkb00_10, hkb00_10, hkb00_10, hkb00_10, hkb00_10, hkb00_10, hkb00_10, hkb00_10, hkb00_10, hkb00_10, hkb00_10, hkb00_10, hkb00_10, hkb00_10, hkb00_10, hkb00_10, hkb00_10, hkb00_10, hkb00_10, hkb00_10, hkb00_10]
def hkb00_479 : ai_C := .inr (.inr (5, [hkb00_11, hkb00_84, hkb00_168, hkb00_291, hkb00_68, hkb00_90, hkb00_291, hkb00_200, hkb00_291, hkb00_213]))
def hkb00_480 : ai_C := .inr (.inr (5, [hkb00_11, hkb00_295, hkb00_168, hkb00_297, hkb00_68, hkb00_90, hkb00_299, hkb00_168, hkb00_297, hkb00_213]))
def hkb00_481 : ai_C := .inr (.inr (5, [hkb00_11, hkb00_295, hkb00_168, hkb00_297, hkb00_68, hkb00_90, hkb00_302, hkb00_35, hkb00_297, hkb00_213]))
def hkb00_482 : ai_C := .inr (.inr (5, [hkb00_11, hkb00_295, hkb00_346, hkb00_297, hkb00_68, hkb00_90, hkb00_291, hkb00_39, hkb00_297, hkb00_213]))
def hkb00_483 : ai_C := .inr (.inr (5, [hkb00_11, hkb00_295, hkb00_168, hkb00_302, hkb00_68, hkb00_90, hkb00_302, hkb00_200, hkb00_302, hkb00_476]))
def hkb00_484 : ai_C := .inr (.inr (5, [hkb00_11, hkb00_295, hkb00_278, hkb00_88, hkb00_68, hkb00_90, hkb00_307, hkb00_168, hkb00_309, hkb00_476]))
def hkb00_485 : ai_C := .inr (.inr (5, [hkb00_11, hkb00_295, hkb00_168, hkb00_309, hkb00_68, hkb00_90, hkb00_302, hkb00_35, hkb00_309, hkb00_476]))
def hkb00_486 : ai_C := .inr (.inr (5, [hkb00_11, hkb00_295, hkb00_313, hkb00_309, hkb00_68, hkb00_90, hkb00_302, hkb00_39, hkb00_309, hkb00_213]))
/-- NeverAgain$TextReader.pageLine -/
def kb_192 : ai_K := (187, 3, (hkb00_276, [hkb00_6, hkb00_9], [], hkb00_478), [.inr (1, 6), .inr (1, 7), .inr (1, 8), .inr (1, 9), .inr (1, 10), .inr (1, 11), .inr (1, 12), .inr (1, 13), .inr (15, 1), .inr (15, 2), .inr (15, 3), .inr (15, 5), .inr (15, 6), .inr (15, 7), .inr (15, 8), .inr (15, 9)], [(some hkb00_35, hkb00_276, [(15, hkb00_479)]), (some hkb00_35, hkb00_293, [(15, hkb00_480)]), (some hkb00_35, hkb00_293, [(15, hkb00_481)]), (some hkb00_35, hkb00_293, [(15, hkb00_482)]), (some hkb00_35, hkb00_293, [(3, hkb00_129), (15, hkb00_483)]), (some hkb00_39, hkb00_293, [(3, hkb00_129), (15, hkb00_484)]), (some hkb00_35, hkb00_293, [(3, hkb00_129), (15, hkb00_485)]), (some hkb00_35, hkb00_293, [(3, hkb00_129), (15, hkb00_486)])])
def kbn_192 : List ai_Nd := []
set_option maxRecDepth 1000000 in
theorem kbk_192 : ai_ck [kb_39, kb_189, kb_191, kb_34] [] kb_192 [.inl 100000] kbn_192 31 = true := by decide +kernel
theorem kbh_192 : ai_holds kb_192 := ai_thm kbk_192 (ai_cons kbh_39 (ai_cons kbh_189 (ai_cons kbh_191 (ai_cons kbh_34 ai_nil))))
def hkb00_487 : ai_V := .inr (some (.retAddr 13))
/-- java/lang/String.coder -/
def kb_193 : ai_K := (215, 0, ([], [hkb00_487], [], hkb00_178), [], [(some hkb00_35, [], [])])
def kbn_193 : List ai_Nd := []
set_option maxRecDepth 1000000 in
theorem kbk_193 : ai_ck [] [] kb_193 [.inl 100000] kbn_193 7 = true := by decide +kernel
theorem kbh_193 : ai_holds kb_193 := ai_thm kbk_193 ai_nil
/-- java/lang/String.length -/
def kb_194 : ai_K := (208, 1, ([], [hkb00_487], [], hkb00_178), [], [(some hkb00_123, [], [])])
def kbn_194 : List ai_Nd := []
set_option maxRecDepth 1000000 in
theorem kbk_194 : ai_ck [kb_193] [] kb_194 [.inl 100000] kbn_194 8 = true := by decide +kernel
theorem kbh_194 : ai_holds kb_194 := ai_thm kbk_194 (ai_cons kbh_193 ai_nil)
/-- java/lang/String.isLatin1 -/
def kb_195 : ai_K := (216, 0, ([], [hkb00_487], [], hkb00_178), [], [(some hkb00_39, [], [])])
def kbn_195 : List ai_Nd := []
set_option maxRecDepth 1000000 in
theorem kbk_195 : ai_ck [] [] kb_195 [.inl 100000] kbn_195 9 = true := by decide +kernel
theorem kbh_195 : ai_holds kb_195 := ai_thm kbk_195 ai_nil
def hkb00_488 : ai_V := .inr (some (.retAddr 14))
/-- java/lang/StringLatin1.charAt -/
def kb_202 : ai_K := (217, 2, ([hkb00_4], [hkb00_488, hkb00_234], [], hkb00_178), [.inl 1], [(some hkb00_237, [hkb00_4], [])])
def kbn_202 : List ai_Nd := []
set_option maxRecDepth 1000000 in
theorem kbk_202 : ai_ck [kb_30] [] kb_202 [.inl 100000] kbn_202 12 = true := by decide +kernel
theorem kbh_202 : ai_holds kb_202 := ai_thm kbk_202 (ai_cons kbh_30 ai_nil)
/-- java/lang/String.charAt -/
def kb_203 : ai_K := (209, 3, ([hkb00_4], [hkb00_487, hkb00_234], [], hkb00_178), [.inl 1], [(some hkb00_237, [hkb00_4], [])])
def kbn_203 : List ai_Nd := []
set_option maxRecDepth 1000000 in
theorem kbk_203 : ai_ck [kb_195, kb_202] [] kb_203 [.inl 100000] kbn_203 9 = true := by decide +kernel
theorem kbh_203 : ai_holds kb_203 := ai_thm kbk_203 (ai_cons kbh_195 (ai_cons kbh_202 ai_nil))
/-- NeverAgain$TextReader.isName -/
def kb_204 : ai_K := (181, 4, (hkb00_187, [hkb00_6, hkb00_487, hkb00_9], [], hkb00_196), [.inr (15, 1), .inr (15, 2), .inr (15, 3), .inr (15, 5), .inr (15, 6), .inr (15, 7), .inr (15, 8), .inr (15, 9)], [(some hkb00_35, hkb00_187, []), (some hkb00_39, hkb00_239, [])])
def kbn_204 : List ai_Nd := [(20, (hkb00_240, [hkb00_6, hkb00_487, hkb00_242], [], hkb00_247), [.inl 2], [.inl 99979, .inl 1, .inr (true, .ofNat 4, 8), .inl 100000])]
set_option maxRecDepth 1000000 in
theorem kbk_204 : ai_ck [kb_194, kb_203, kb_6] [] kb_204 [.inl 100000, .inl 0, .inl 0, .inl 0] kbn_204 18 = true := by decide +kernel
theorem kbh_204 : ai_holds kb_204 := ai_thm kbk_204 (ai_cons kbh_194 (ai_cons kbh_203 (ai_cons kbh_6 ai_nil)))
def hkb00_489 : Int × Int := (.ofNat 0, .ofNat 16)
def hkb00_490 : ai_E := [hkb00_1, hkb00_2, hkb00_1, hkb00_3, hkb00_1, hkb00_4, hkb00_1, hkb00_489]
/-- NeverAgain$TextReader.inBounds -/
def kb_205 : ai_K := (218, 1, (hkb00_187, [hkb00_6, hkb00_35, hkb00_254], [], hkb00_249), [.inr (15, 1), .inr (15, 2), .inr (15, 3), .inr (15, 5), .inr (15, 6), .inr (15, 7), .inr (15, 8), .inr (15, 9)], [(some hkb00_35, hkb00_256, [(15, hkb00_259)]), (some hkb00_39, hkb00_490, []), (some hkb00_35, hkb00_411, [(15, hkb00_414)])])
def kbn_205 : List ai_Nd := []
set_option maxRecDepth 1000000 in
theorem kbk_205 : ai_ck [kb_36] [] kb_205 [.inl 100000] kbn_205 17 = true := by decide +kernel
theorem kbh_205 : ai_holds kb_205 := ai_thm kbk_205 (ai_cons kbh_36 ai_nil)
def hkb00_491 : ai_N := (.ofNat 0, .ofNat 16, [])
def hkb00_492 : ai_V := .inl (false, hkb00_491)
def hkb00_493 : ai_C := .inr (.inr (5, [hkb00_11, hkb00_204, hkb00_189, hkb00_191, hkb00_68, hkb00_155, hkb00_211, hkb00_39, hkb00_208, hkb00_492]))
/-- NeverAgain$TextReader.figures -/
def kb_206 : ai_K := (211, 2, (hkb00_187, [hkb00_6, hkb00_35, hkb00_254], [], hkb00_196), [.inr (15, 1), .inr (15, 2), .inr (15, 3), .inr (15, 5), .inr (15, 6), .inr (15, 7), .inr (15, 8), .inr (15, 9)], [(some hkb00_35, hkb00_202, [(15, hkb00_268)]), (some hkb00_39, hkb00_202, [(15, hkb00_493)]), (some hkb00_35, hkb00_202, [(15, hkb00_272)]), (some hkb00_35, hkb00_202, [(15, hkb00_273)]), (some hkb00_35, hkb00_187, [(15, hkb00_274)])])
def kbn_206 : List ai_Nd := []
set_option maxRecDepth 1000000 in
theorem kbk_206 : ai_ck [kb_205, kb_13, kb_12] [] kb_206 [.inl 100000] kbn_206 14 = true := by decide +kernel
theorem kbh_206 : ai_holds kb_206 := ai_thm kbk_206 (ai_cons kbh_205 (ai_cons kbh_13 (ai_cons kbh_12 ai_nil)))
def hkb00_494 : ai_E := [hkb00_3, hkb00_139, hkb00_140, hkb00_3, hkb00_3, hkb00_3, hkb00_141, hkb00_142, hkb00_56]
def hkb00_495 : ai_N := (.ofNat 4, .ofNat 16, [(1, .ofNat 0, .ofNat 0)])
def hkb00_496 : ai_V := .inl (false, hkb00_495)
def hkb00_497 : ai_N := (.ofNat 1, .ofNat 4, [(2, .ofNat 0, .ofNat 0)])
def hkb00_498 : ai_V := .inl (false, hkb00_497)
def hkb00_499 : ai_N := (.negSucc 2147483647, .ofNat 2147483647, [(5, .ofNat 0, .ofNat 0)])
def hkb00_500 : ai_V := .inl (false, hkb00_499)
def hkb00_501 : ai_N := (.ofNat 0, .ofNat 60, [(6, .ofNat 0, .ofNat 0)])
def hkb00_502 : ai_V := .inl (false, hkb00_501)
def hkb00_503 : ai_N := (.ofNat 0, .ofNat 5, [(7, .ofNat 0, .ofNat 0)])
def hkb00_504 : ai_V := .inl (false, hkb00_503)
def hkb00_505 : ai_C := .inr (.inr (6, [hkb00_115, hkb00_126, hkb00_144, hkb00_145, hkb00_146, hkb00_147, hkb00_496, hkb00_498, hkb00_155, hkb00_19, hkb00_500, hkb00_502, hkb00_504, hkb00_242]))
def hkb00_506 : Bool × Option ai_C := (false, some hkb00_505)
def hkb00_507 : ai_C := .inl (.int, [(60, hkb00_116)])
def hkb00_508 : Bool × Option ai_C := (false, some hkb00_507)
def hkb00_509 : ai_W := [hkb00_10, hkb00_506, hkb00_10, hkb00_10, hkb00_508, hkb00_10, hkb00_10, hkb00_10, hkb00_10, hkb00_10, hkb00_10, hkb00_10, hkb00_10, hkb00_10, hkb00_10, hkb00_10, hkb00_10, hkb00_10, hkb00_10, hkb00_10, hkb00_10, hkb00_10, hkb00_10, hkb00_10, hkb00_10, hkb00_10, hkb00_10, hkb00_10, hkb00_10, hkb00_10, hkb00_10, hkb00_10, hkb00_10, hkb00_10, hkb00_10, hkb00_10, hkb00_10, hkb00_10, hkb00_10, hkb00_10, hkb00_10, hkb00_10, hkb00_10, hkb00_10, hkb00_10, hkb00_10, hkb00_10, hkb00_10, hkb00_10, hkb00_10, hkb00_10, hkb00_10, hkb00_10, hkb00_10, hkb00_10, hkb00_10, hkb00_10, hkb00_10, hkb00_10, hkb00_10, hkb00_10, hkb00_10, hkb00_10, hkb00_10, hkb00_10, hkb00_10, hkb00_10, hkb00_10, hkb00_10, hkb00_10, hkb00_10, hkb00_10, hkb00_10, hkb00_10, hkb00_10, hkb00_10]
def hkb00_510 : Int × Int := (.ofNat 60, .ofNat 60)
def hkb00_511 : ai_E := [hkb00_3, hkb00_139, hkb00_140, hkb00_3, hkb00_3, hkb00_3, hkb00_510, hkb00_142, hkb00_56]
def hkb00_512 : Int × Int := (.ofNat 0, .ofNat 59)
def hkb00_513 : ai_E := [hkb00_3, hkb00_139, hkb00_140, hkb00_3, hkb00_3, hkb00_3, hkb00_512, hkb00_142, hkb00_56]
def hkb00_514 : ai_N := (.ofNat 1, .ofNat 60, [(6, .ofNat 1, .ofNat 1)])
def hkb00_515 : ai_V := .inl (false, hkb00_514)
def hkb00_516 : ai_C := .inr (.inr (6, [hkb00_115, hkb00_126, hkb00_144, hkb00_145, hkb00_146, hkb00_147, hkb00_496, hkb00_498, hkb00_155, hkb00_19, hkb00_500, hkb00_515, hkb00_504, hkb00_242]))
/-- NeverAgain$Told.addDay -/
def kb_207 : ai_K := (112, 0, (hkb00_494, [hkb00_68, hkb00_103], [], hkb00_509), [.inl 1, .inr (1, 6), .inr (1, 7), .inr (1, 8), .inr (1, 9), .inr (1, 10), .inr (1, 11), .inr (1, 12), .inr (1, 13)], [(some hkb00_35, hkb00_511, []), (some hkb00_39, hkb00_513, [(1, hkb00_516), (4, hkb00_507)])])
def kbn_207 : List ai_Nd := []
set_option maxRecDepth 1000000 in
theorem kbk_207 : ai_ck [] [] kb_207 [.inl 100000] kbn_207 19 = true := by decide +kernel
theorem kbh_207 : ai_holds kb_207 := ai_thm kbk_207 ai_nil
/-- NeverAgain$TextReader.moreFigures -/
def kb_208 : ai_K := (213, 2, (hkb00_187, [hkb00_6, hkb00_35, hkb00_254], [], hkb00_196), [.inr (15, 1), .inr (15, 2), .inr (15, 3), .inr (15, 5), .inr (15, 6), .inr (15, 7), .inr (15, 8), .inr (15, 9)], [(some hkb00_35, hkb00_202, [(15, hkb00_268)]), (some hkb00_39, hkb00_202, [(15, hkb00_493)]), (some hkb00_35, hkb00_202, [(15, hkb00_272)]), (some hkb00_35, hkb00_202, [(15, hkb00_209)]), (some hkb00_35, hkb00_187, [(15, hkb00_274)])])
def kbn_208 : List ai_Nd := []
set_option maxRecDepth 1000000 in
theorem kbk_208 : ai_ck [kb_205, kb_13, kb_12] [] kb_208 [.inl 100000] kbn_208 18 = true := by decide +kernel
theorem kbh_208 : ai_holds kb_208 := ai_thm kbk_208 (ai_cons kbh_205 (ai_cons kbh_13 (ai_cons kbh_12 ai_nil)))
def hkb00_517 : ai_W := [hkb00_10, hkb00_163, hkb00_10, hkb00_10, hkb00_508, hkb00_10, hkb00_10, hkb00_10, hkb00_10, hkb00_10, hkb00_10, hkb00_10, hkb00_10, hkb00_10, hkb00_10, hkb00_288, hkb00_32, hkb00_10, hkb00_10, hkb00_10, hkb00_10, hkb00_10, hkb00_10, hkb00_10, hkb00_10, hkb00_10, hkb00_10, hkb00_10, hkb00_10, hkb00_10, hkb00_10, hkb00_10, hkb00_10, hkb00_10, hkb00_10, hkb00_10, hkb00_10, hkb00_10, hkb00_10, hkb00_10, hkb00_10, hkb00_10, hkb00_10, hkb00_10, hkb00_10, hkb00_10, hkb00_10, hkb00_10, hkb00_10, hkb00_10, hkb00_10, hkb00_10, hkb00_10, hkb00_10, hkb00_10, hkb00_10, hkb00_10, hkb00_10, hkb00_10, hkb00_10, hkb00_10, hkb00_10, hkb00_10, hkb00_10, hkb00_10, hkb00_10, hkb00_10, hkb00_10, hkb00_10, hkb00_10, hkb00_10, hkb00_10, hkb00_10, hkb00_10, hkb00_10, hkb00_10]
def hkb00_518 : ai_N := (.ofNat 60, .ofNat 60, [(5, .ofNat 0, .ofNat 60)])
def hkb00_519 : ai_V := .inl (false, hkb00_518)
def hkb00_520 : ai_C := .inr (.inr (6, [hkb00_115, hkb00_126, hkb00_144, hkb00_145, hkb00_146, hkb00_147, hkb00_149, hkb00_151, hkb00_153, hkb00_155, hkb00_19, hkb00_519, hkb00_159, hkb00_161]))
def hkb00_521 : ai_C := .inr (.inr (5, [hkb00_11, hkb00_84, hkb00_361, hkb00_291, hkb00_68, hkb00_90, hkb00_291, hkb00_476, hkb00_291, hkb00_213]))
def hkb00_522 : ai_N := (.ofNat 0, .ofNat 60, [(5, .ofNat 0, .ofNat 60)])
def hkb00_523 : ai_V := .inl (false, hkb00_522)
def hkb00_524 : ai_C := .inr (.inr (6, [hkb00_115, hkb00_126, hkb00_144, hkb00_145, hkb00_146, hkb00_147, hkb00_149, hkb00_151, hkb00_153, hkb00_155, hkb00_19, hkb00_523, hkb00_159, hkb00_161]))
def hkb00_525 : ai_N := (.ofNat 0, .ofNat 400, [])
def hkb00_526 : ai_V := .inl (false, hkb00_525)
def hkb00_527 : ai_C := .inr (.inr (5, [hkb00_11, hkb00_84, hkb00_35, hkb00_526, hkb00_68, hkb00_90, hkb00_291, hkb00_476, hkb00_291, hkb00_213]))
def hkb00_528 : ai_N := (.ofNat 1, .ofNat 6, [])
def hkb00_529 : ai_V := .inl (false, hkb00_528)
def hkb00_530 : ai_C := .inr (.inr (5, [hkb00_11, hkb00_84, hkb00_529, hkb00_526, hkb00_68, hkb00_90, hkb00_291, hkb00_476, hkb00_291, hkb00_213]))
/-- NeverAgain$TextReader.rungLine -/
def kb_209 : ai_K := (188, 3, (hkb00_276, [hkb00_6, hkb00_9, hkb00_9], [], hkb00_517), [.inr (1, 6), .inr (1, 7), .inr (1, 8), .inr (1, 9), .inr (1, 10), .inr (1, 11), .inr (1, 12), .inr (1, 13), .inr (15, 1), .inr (15, 2), .inr (15, 3), .inr (15, 5), .inr (15, 6), .inr (15, 7), .inr (15, 8), .inr (15, 9)], [(some hkb00_35, hkb00_276, [(1, hkb00_520), (4, hkb00_507), (15, hkb00_521)]), (some hkb00_39, hkb00_276, [(1, hkb00_524), (4, hkb00_507), (15, hkb00_527)]), (some hkb00_35, hkb00_276, [(1, hkb00_524), (4, hkb00_507), (15, hkb00_530)]), (some hkb00_39, hkb00_276, [(1, hkb00_524), (4, hkb00_507), (15, hkb00_527)]), (some hkb00_35, hkb00_276, [(1, hkb00_524), (4, hkb00_507), (15, hkb00_530)])])
def hkb00_531 : Int × Int := (.ofNat 0, .ofNat 61)
def hkb00_532 : ai_E := [hkb00_139, hkb00_140, hkb00_3, hkb00_3, hkb00_3, hkb00_141, hkb00_142, hkb00_56, hkb00_1, hkb00_2, hkb00_1, hkb00_3, hkb00_1, hkb00_4, hkb00_1, hkb00_3, hkb00_531]
def hkb00_533 : ai_N := (.ofNat 0, .ofNat 1, [])
def hkb00_534 : ai_V := .inl (false, hkb00_533)
def hkb00_535 : ai_N := (.ofNat 0, .ofNat 61, [(16, .ofNat 0, .ofNat 0)])
def hkb00_536 : ai_V := .inl (false, hkb00_535)
def hkb00_537 : Bool × Option ai_C := (true, some hkb00_524)
def hkb00_538 : Bool × Option ai_C := (true, some hkb00_507)
def hkb00_539 : ai_N := (.ofNat 0, .ofNat 6, [])
def hkb00_540 : ai_V := .inl (false, hkb00_539)
def hkb00_541 : ai_C := .inr (.inr (5, [hkb00_11, hkb00_84, hkb00_540, hkb00_526, hkb00_68, hkb00_90, hkb00_291, hkb00_476, hkb00_291, hkb00_213]))
def hkb00_542 : Bool × Option ai_C := (true, some hkb00_541)
def hkb00_543 : ai_W := [hkb00_10, hkb00_537, hkb00_10, hkb00_10, hkb00_538, hkb00_10, hkb00_10, hkb00_10, hkb00_10, hkb00_10, hkb00_10, hkb00_10, hkb00_10, hkb00_10, hkb00_10, hkb00_542, hkb00_32, hkb00_10, hkb00_10, hkb00_10, hkb00_10, hkb00_10, hkb00_10, hkb00_10, hkb00_10, hkb00_10, hkb00_10, hkb00_10, hkb00_10, hkb00_10, hkb00_10, hkb00_10, hkb00_10, hkb00_10, hkb00_10, hkb00_10, hkb00_10, hkb00_10, hkb00_10, hkb00_10, hkb00_10, hkb00_10, hkb00_10, hkb00_10, hkb00_10, hkb00_10, hkb00_10, hkb00_10, hkb00_10, hkb00_10, hkb00_10, hkb00_10, hkb00_10, hkb00_10, hkb00_10, hkb00_10, hkb00_10, hkb00_10, hkb00_10, hkb00_10, hkb00_10, hkb00_10, hkb00_10, hkb00_10, hkb00_10, hkb00_10, hkb00_10, hkb00_10, hkb00_10, hkb00_10, hkb00_10, hkb00_10, hkb00_10, hkb00_10, hkb00_10, hkb00_10]
def kbn_209 : List ai_Nd := [(10, (hkb00_532, [hkb00_6, hkb00_534, hkb00_536], [], hkb00_543), [.inl 2], [.inl 99989, .inl 1, .inr (true, .ofNat 61, 16), .inl 100000])]
set_option maxRecDepth 1000000 in
theorem kbk_209 : ai_ck [kb_206, kb_208, kb_78, kb_207] [] kb_209 [.inl 100000, .inl 0, .inl 0, .inl 0] kbn_209 20 = true := by decide +kernel
theorem kbh_209 : ai_holds kb_209 := ai_thm kbk_209 (ai_cons kbh_206 (ai_cons kbh_208 (ai_cons kbh_78 (ai_cons kbh_207 ai_nil))))
def hkb00_544 : ai_V := .inr (some (.retAddr 15))
/-- java/lang/String.coder -/
def kb_210 : ai_K := (215, 0, ([], [hkb00_544], [], hkb00_178), [], [(some hkb00_35, [], [])])
def kbn_210 : List ai_Nd := []
set_option maxRecDepth 1000000 in
theorem kbk_210 : ai_ck [] [] kb_210 [.inl 100000] kbn_210 7 = true := by decide +kernel
theorem kbh_210 : ai_holds kb_210 := ai_thm kbk_210 ai_nil
/-- java/lang/String.length -/
def kb_211 : ai_K := (208, 1, ([], [hkb00_544], [], hkb00_178), [], [(some hkb00_200, [], [])])
def kbn_211 : List ai_Nd := []
set_option maxRecDepth 1000000 in
theorem kbk_211 : ai_ck [kb_210] [] kb_211 [.inl 100000] kbn_211 8 = true := by decide +kernel
theorem kbh_211 : ai_holds kb_211 := ai_thm kbk_211 (ai_cons kbh_210 ai_nil)
/-- java/lang/String.isLatin1 -/
def kb_212 : ai_K := (216, 0, ([], [hkb00_544], [], hkb00_178), [], [(some hkb00_39, [], [])])
def kbn_212 : List ai_Nd := []
set_option maxRecDepth 1000000 in
theorem kbk_212 : ai_ck [] [] kb_212 [.inl 100000] kbn_212 9 = true := by decide +kernel
theorem kbh_212 : ai_holds kb_212 := ai_thm kbk_212 ai_nil
def hkb00_545 : ai_V := .inr (some (.retAddr 16))
/-- java/lang/StringLatin1.charAt -/
def kb_217 : ai_K := (217, 2, ([hkb00_388], [hkb00_545, hkb00_390], [], hkb00_178), [.inl 1], [(some hkb00_237, [hkb00_388], [])])
def kbn_217 : List ai_Nd := []
set_option maxRecDepth 1000000 in
theorem kbk_217 : ai_ck [kb_92] [] kb_217 [.inl 100000] kbn_217 12 = true := by decide +kernel
theorem kbh_217 : ai_holds kb_217 := ai_thm kbk_217 (ai_cons kbh_92 ai_nil)
/-- java/lang/String.charAt -/
def kb_218 : ai_K := (209, 3, ([hkb00_388], [hkb00_544, hkb00_390], [], hkb00_178), [.inl 1], [(some hkb00_237, [hkb00_388], [])])
def kbn_218 : List ai_Nd := []
set_option maxRecDepth 1000000 in
theorem kbk_218 : ai_ck [kb_212, kb_217] [] kb_218 [.inl 100000] kbn_218 9 = true := by decide +kernel
theorem kbh_218 : ai_holds kb_218 := ai_thm kbk_218 (ai_cons kbh_212 (ai_cons kbh_217 ai_nil))
/-- NeverAgain$TextReader.isName -/
def kb_219 : ai_K := (181, 4, (hkb00_187, [hkb00_6, hkb00_544, hkb00_9], [], hkb00_196), [.inr (15, 1), .inr (15, 2), .inr (15, 3), .inr (15, 5), .inr (15, 6), .inr (15, 7), .inr (15, 8), .inr (15, 9)], [(some hkb00_35, hkb00_187, []), (some hkb00_39, hkb00_393, [])])
def kbn_219 : List ai_Nd := [(20, (hkb00_394, [hkb00_6, hkb00_544, hkb00_396], [], hkb00_401), [.inl 2], [.inl 99979, .inl 1, .inr (true, .ofNat 3, 8), .inl 100000])]
set_option maxRecDepth 1000000 in
theorem kbk_219 : ai_ck [kb_211, kb_218, kb_6] [] kb_219 [.inl 100000, .inl 0, .inl 0, .inl 0] kbn_219 18 = true := by decide +kernel
theorem kbh_219 : ai_holds kb_219 := ai_thm kbk_219 (ai_cons kbh_211 (ai_cons kbh_218 (ai_cons kbh_6 ai_nil)))
def hkb00_546 : ai_C := .inl (.int, [(5, hkb00_116)])
def hkb00_547 : Bool × Option ai_C := (false, some hkb00_546)
def hkb00_548 : ai_W := [hkb00_10, hkb00_506, hkb00_10, hkb00_10, hkb00_10, hkb00_547, hkb00_10, hkb00_10, hkb00_10, hkb00_10, hkb00_10, hkb00_10, hkb00_10, hkb00_10, hkb00_10, hkb00_10, hkb00_10, hkb00_10, hkb00_10, hkb00_10, hkb00_10, hkb00_10, hkb00_10, hkb00_10, hkb00_10, hkb00_10, hkb00_10, hkb00_10, hkb00_10, hkb00_10, hkb00_10, hkb00_10, hkb00_10, hkb00_10, hkb00_10, hkb00_10, hkb00_10, hkb00_10, hkb00_10, hkb00_10, hkb00_10, hkb00_10, hkb00_10, hkb00_10, hkb00_10, hkb00_10, hkb00_10, hkb00_10, hkb00_10, hkb00_10, hkb00_10, hkb00_10, hkb00_10, hkb00_10, hkb00_10, hkb00_10, hkb00_10, hkb00_10, hkb00_10, hkb00_10, hkb00_10, hkb00_10, hkb00_10, hkb00_10, hkb00_10, hkb00_10, hkb00_10, hkb00_10, hkb00_10, hkb00_10, hkb00_10, hkb00_10, hkb00_10, hkb00_10, hkb00_10, hkb00_10]
def hkb00_549 : Int × Int := (.ofNat 5, .ofNat 5)
def hkb00_550 : ai_E := [hkb00_3, hkb00_139, hkb00_140, hkb00_3, hkb00_3, hkb00_3, hkb00_141, hkb00_549, hkb00_56]
def hkb00_551 : ai_E := [hkb00_3, hkb00_139, hkb00_140, hkb00_3, hkb00_3, hkb00_3, hkb00_141, hkb00_56, hkb00_56]
def hkb00_552 : ai_N := (.ofNat 1, .ofNat 5, [(7, .ofNat 1, .ofNat 1)])
def hkb00_553 : ai_V := .inl (false, hkb00_552)
def hkb00_554 : ai_C := .inr (.inr (6, [hkb00_115, hkb00_126, hkb00_144, hkb00_145, hkb00_146, hkb00_147, hkb00_496, hkb00_498, hkb00_155, hkb00_19, hkb00_500, hkb00_502, hkb00_553, hkb00_242]))
/-- NeverAgain$Told.addAsked -/
def kb_220 : ai_K := (117, 0, (hkb00_494, [hkb00_68, hkb00_103], [], hkb00_548), [.inl 1, .inr (1, 6), .inr (1, 7), .inr (1, 8), .inr (1, 9), .inr (1, 10), .inr (1, 11), .inr (1, 12), .inr (1, 13)], [(some hkb00_35, hkb00_550, []), (some hkb00_39, hkb00_551, [(1, hkb00_554), (5, hkb00_546)])])
def kbn_220 : List ai_Nd := []
set_option maxRecDepth 1000000 in
theorem kbk_220 : ai_ck [] [] kb_220 [.inl 100000] kbn_220 19 = true := by decide +kernel
theorem kbh_220 : ai_holds kb_220 := ai_thm kbk_220 ai_nil
/-- NeverAgain$TextReader.moreFigures -/
def kb_221 : ai_K := (213, 2, (hkb00_187, [hkb00_6, hkb00_35, hkb00_200], [], hkb00_196), [.inr (15, 1), .inr (15, 2), .inr (15, 3), .inr (15, 5), .inr (15, 6), .inr (15, 7), .inr (15, 8), .inr (15, 9)], [(some hkb00_35, hkb00_202, [(15, hkb00_268)]), (some hkb00_39, hkb00_202, [(15, hkb00_477)]), (some hkb00_35, hkb00_202, [(15, hkb00_272)]), (some hkb00_35, hkb00_202, [(15, hkb00_209)]), (some hkb00_35, hkb00_187, [(15, hkb00_274)])])
def kbn_221 : List ai_Nd := []
set_option maxRecDepth 1000000 in
theorem kbk_221 : ai_ck [kb_190, kb_13, kb_12] [] kb_221 [.inl 100000] kbn_221 18 = true := by decide +kernel
theorem kbh_221 : ai_holds kb_221 := ai_thm kbk_221 (ai_cons kbh_190 (ai_cons kbh_13 (ai_cons kbh_12 ai_nil)))
def hkb00_555 : ai_W := [hkb00_10, hkb00_163, hkb00_10, hkb00_10, hkb00_10, hkb00_547, hkb00_10, hkb00_10, hkb00_10, hkb00_10, hkb00_10, hkb00_10, hkb00_10, hkb00_10, hkb00_10, hkb00_288, hkb00_32, hkb00_10, hkb00_10, hkb00_10, hkb00_10, hkb00_10, hkb00_10, hkb00_10, hkb00_10, hkb00_10, hkb00_10, hkb00_10, hkb00_10, hkb00_10, hkb00_10, hkb00_10, hkb00_10, hkb00_10, hkb00_10, hkb00_10, hkb00_10, hkb00_10, hkb00_10, hkb00_10, hkb00_10, hkb00_10, hkb00_10, hkb00_10, hkb00_10, hkb00_10, hkb00_10, hkb00_10, hkb00_10, hkb00_10, hkb00_10, hkb00_10, hkb00_10, hkb00_10, hkb00_10, hkb00_10, hkb00_10, hkb00_10, hkb00_10, hkb00_10, hkb00_10, hkb00_10, hkb00_10, hkb00_10, hkb00_10, hkb00_10, hkb00_10, hkb00_10, hkb00_10, hkb00_10, hkb00_10, hkb00_10, hkb00_10, hkb00_10, hkb00_10, hkb00_10]
def hkb00_556 : ai_N := (.ofNat 5, .ofNat 5, [(6, .ofNat 0, .ofNat 5)])
def hkb00_557 : ai_V := .inl (false, hkb00_556)
def hkb00_558 : ai_C := .inr (.inr (6, [hkb00_115, hkb00_126, hkb00_144, hkb00_145, hkb00_146, hkb00_147, hkb00_149, hkb00_151, hkb00_153, hkb00_155, hkb00_19, hkb00_157, hkb00_557, hkb00_161]))
def hkb00_559 : ai_N := (.ofNat 0, .ofNat 5, [(6, .ofNat 0, .ofNat 5)])
def hkb00_560 : ai_V := .inl (false, hkb00_559)
def hkb00_561 : ai_C := .inr (.inr (6, [hkb00_115, hkb00_126, hkb00_144, hkb00_145, hkb00_146, hkb00_147, hkb00_149, hkb00_151, hkb00_153, hkb00_155, hkb00_19, hkb00_157, hkb00_560, hkb00_161]))
/-- NeverAgain$TextReader.askLine -/
def kb_222 : ai_K := (189, 3, (hkb00_276, [hkb00_6, hkb00_9, hkb00_9], [], hkb00_555), [.inr (1, 6), .inr (1, 7), .inr (1, 8), .inr (1, 9), .inr (1, 10), .inr (1, 11), .inr (1, 12), .inr (1, 13), .inr (15, 1), .inr (15, 2), .inr (15, 3), .inr (15, 5), .inr (15, 6), .inr (15, 7), .inr (15, 8), .inr (15, 9)], [(some hkb00_35, hkb00_276, [(1, hkb00_558), (5, hkb00_546), (15, hkb00_521)]), (some hkb00_39, hkb00_276, [(1, hkb00_561), (5, hkb00_546), (15, hkb00_527)]), (some hkb00_35, hkb00_276, [(1, hkb00_561), (5, hkb00_546), (15, hkb00_530)]), (some hkb00_39, hkb00_276, [(1, hkb00_561), (5, hkb00_546), (15, hkb00_527)]), (some hkb00_35, hkb00_276, [(1, hkb00_561), (5, hkb00_546), (15, hkb00_530)])])
def hkb00_562 : ai_E := [hkb00_139, hkb00_140, hkb00_3, hkb00_3, hkb00_3, hkb00_141, hkb00_142, hkb00_56, hkb00_1, hkb00_2, hkb00_1, hkb00_3, hkb00_1, hkb00_4, hkb00_1, hkb00_3, hkb00_2]
def hkb00_563 : ai_N := (.ofNat 0, .ofNat 6, [(16, .ofNat 0, .ofNat 0)])
def hkb00_564 : ai_V := .inl (false, hkb00_563)
def hkb00_565 : Bool × Option ai_C := (true, some hkb00_561)
def hkb00_566 : Bool × Option ai_C := (true, some hkb00_546)
def hkb00_567 : ai_W := [hkb00_10, hkb00_565, hkb00_10, hkb00_10, hkb00_10, hkb00_566, hkb00_10, hkb00_10, hkb00_10, hkb00_10, hkb00_10, hkb00_10, hkb00_10, hkb00_10, hkb00_10, hkb00_542, hkb00_32, hkb00_10, hkb00_10, hkb00_10, hkb00_10, hkb00_10, hkb00_10, hkb00_10, hkb00_10, hkb00_10, hkb00_10, hkb00_10, hkb00_10, hkb00_10, hkb00_10, hkb00_10, hkb00_10, hkb00_10, hkb00_10, hkb00_10, hkb00_10, hkb00_10, hkb00_10, hkb00_10, hkb00_10, hkb00_10, hkb00_10, hkb00_10, hkb00_10, hkb00_10, hkb00_10, hkb00_10, hkb00_10, hkb00_10, hkb00_10, hkb00_10, hkb00_10, hkb00_10, hkb00_10, hkb00_10, hkb00_10, hkb00_10, hkb00_10, hkb00_10, hkb00_10, hkb00_10, hkb00_10, hkb00_10, hkb00_10, hkb00_10, hkb00_10, hkb00_10, hkb00_10, hkb00_10, hkb00_10, hkb00_10, hkb00_10, hkb00_10, hkb00_10, hkb00_10]
def kbn_222 : List ai_Nd := [(9, (hkb00_562, [hkb00_6, hkb00_534, hkb00_564], [], hkb00_567), [.inl 2], [.inl 99990, .inl 1, .inr (true, .ofNat 6, 16), .inl 100000])]
set_option maxRecDepth 1000000 in
theorem kbk_222 : ai_ck [kb_191, kb_221, kb_78, kb_220] [] kb_222 [.inl 100000, .inl 0, .inl 0, .inl 0] kbn_222 20 = true := by decide +kernel
theorem kbh_222 : ai_holds kb_222 := ai_thm kbk_222 (ai_cons kbh_191 (ai_cons kbh_221 (ai_cons kbh_78 (ai_cons kbh_220 ai_nil))))
def hkb00_568 : ai_V := .inr (some (.retAddr 17))
/-- java/lang/String.coder -/
def kb_223 : ai_K := (215, 0, ([], [hkb00_568], [], hkb00_178), [], [(some hkb00_35, [], [])])
def kbn_223 : List ai_Nd := []
set_option maxRecDepth 1000000 in
theorem kbk_223 : ai_ck [] [] kb_223 [.inl 100000] kbn_223 7 = true := by decide +kernel
theorem kbh_223 : ai_holds kb_223 := ai_thm kbk_223 ai_nil
/-- java/lang/String.length -/
def kb_224 : ai_K := (208, 1, ([], [hkb00_568], [], hkb00_178), [], [(some hkb00_123, [], [])])
def kbn_224 : List ai_Nd := []
set_option maxRecDepth 1000000 in
theorem kbk_224 : ai_ck [kb_223] [] kb_224 [.inl 100000] kbn_224 8 = true := by decide +kernel
theorem kbh_224 : ai_holds kb_224 := ai_thm kbk_224 (ai_cons kbh_223 ai_nil)
/-- java/lang/String.isLatin1 -/
def kb_225 : ai_K := (216, 0, ([], [hkb00_568], [], hkb00_178), [], [(some hkb00_39, [], [])])
def kbn_225 : List ai_Nd := []
set_option maxRecDepth 1000000 in
theorem kbk_225 : ai_ck [] [] kb_225 [.inl 100000] kbn_225 9 = true := by decide +kernel
theorem kbh_225 : ai_holds kb_225 := ai_thm kbk_225 ai_nil
def hkb00_569 : ai_V := .inr (some (.retAddr 18))
/-- java/lang/StringLatin1.charAt -/
def kb_232 : ai_K := (217, 2, ([hkb00_4], [hkb00_569, hkb00_234], [], hkb00_178), [.inl 1], [(some hkb00_237, [hkb00_4], [])])
def kbn_232 : List ai_Nd := []
set_option maxRecDepth 1000000 in
theorem kbk_232 : ai_ck [kb_30] [] kb_232 [.inl 100000] kbn_232 12 = true := by decide +kernel
theorem kbh_232 : ai_holds kb_232 := ai_thm kbk_232 (ai_cons kbh_30 ai_nil)
/-- java/lang/String.charAt -/
def kb_233 : ai_K := (209, 3, ([hkb00_4], [hkb00_568, hkb00_234], [], hkb00_178), [.inl 1], [(some hkb00_237, [hkb00_4], [])])
def kbn_233 : List ai_Nd := []
set_option maxRecDepth 1000000 in
theorem kbk_233 : ai_ck [kb_225, kb_232] [] kb_233 [.inl 100000] kbn_233 9 = true := by decide +kernel
theorem kbh_233 : ai_holds kb_233 := ai_thm kbk_233 (ai_cons kbh_225 (ai_cons kbh_232 ai_nil))
/-- NeverAgain$TextReader.isName -/
def kb_234 : ai_K := (181, 4, (hkb00_187, [hkb00_6, hkb00_568, hkb00_9], [], hkb00_196), [.inr (15, 1), .inr (15, 2), .inr (15, 3), .inr (15, 5), .inr (15, 6), .inr (15, 7), .inr (15, 8), .inr (15, 9)], [(some hkb00_35, hkb00_187, []), (some hkb00_39, hkb00_239, [])])
def kbn_234 : List ai_Nd := [(20, (hkb00_240, [hkb00_6, hkb00_568, hkb00_242], [], hkb00_247), [.inl 2], [.inl 99979, .inl 1, .inr (true, .ofNat 4, 8), .inl 100000])]
set_option maxRecDepth 1000000 in
theorem kbk_234 : ai_ck [kb_224, kb_233, kb_6] [] kb_234 [.inl 100000, .inl 0, .inl 0, .inl 0] kbn_234 18 = true := by decide +kernel
theorem kbh_234 : ai_holds kb_234 := ai_thm kbk_234 (ai_cons kbh_224 (ai_cons kbh_233 (ai_cons kbh_6 ai_nil)))
def hkb00_570 : ai_E := [hkb00_1, hkb00_2, hkb00_1, hkb00_3, hkb00_1, hkb00_4, hkb00_1, hkb00_56]
/-- NeverAgain$TextReader.inBounds -/
def kb_235 : ai_K := (218, 1, (hkb00_187, [hkb00_6, hkb00_35, hkb00_123], [], hkb00_249), [.inr (15, 1), .inr (15, 2), .inr (15, 3), .inr (15, 5), .inr (15, 6), .inr (15, 7), .inr (15, 8), .inr (15, 9)], [(some hkb00_35, hkb00_335, [(15, hkb00_338)]), (some hkb00_39, hkb00_570, []), (some hkb00_35, hkb00_411, [(15, hkb00_414)])])
def kbn_235 : List ai_Nd := []
set_option maxRecDepth 1000000 in
theorem kbk_235 : ai_ck [kb_36] [] kb_235 [.inl 100000] kbn_235 17 = true := by decide +kernel
theorem kbh_235 : ai_holds kb_235 := ai_thm kbk_235 (ai_cons kbh_36 ai_nil)
def hkb00_571 : ai_N := (.ofNat 0, .ofNat 4, [])
def hkb00_572 : ai_V := .inl (false, hkb00_571)
def hkb00_573 : ai_C := .inr (.inr (5, [hkb00_11, hkb00_204, hkb00_189, hkb00_191, hkb00_68, hkb00_155, hkb00_211, hkb00_39, hkb00_208, hkb00_572]))
/-- NeverAgain$TextReader.figures -/
def kb_236 : ai_K := (211, 2, (hkb00_187, [hkb00_6, hkb00_35, hkb00_123], [], hkb00_196), [.inr (15, 1), .inr (15, 2), .inr (15, 3), .inr (15, 5), .inr (15, 6), .inr (15, 7), .inr (15, 8), .inr (15, 9)], [(some hkb00_35, hkb00_202, [(15, hkb00_268)]), (some hkb00_39, hkb00_202, [(15, hkb00_573)]), (some hkb00_35, hkb00_202, [(15, hkb00_272)]), (some hkb00_35, hkb00_202, [(15, hkb00_273)]), (some hkb00_35, hkb00_187, [(15, hkb00_274)])])
def kbn_236 : List ai_Nd := []
set_option maxRecDepth 1000000 in
theorem kbk_236 : ai_ck [kb_235, kb_13, kb_12] [] kb_236 [.inl 100000] kbn_236 14 = true := by decide +kernel
theorem kbh_236 : ai_holds kb_236 := ai_thm kbk_236 (ai_cons kbh_235 (ai_cons kbh_13 (ai_cons kbh_12 ai_nil)))
def hkb00_574 : ai_E := [hkb00_3, hkb00_3, hkb00_139, hkb00_140, hkb00_3, hkb00_3, hkb00_3, hkb00_141, hkb00_142, hkb00_56]
def hkb00_575 : ai_N := (.negSucc 2147483647, .ofNat 2147483647, [(1, .ofNat 0, .ofNat 0)])
def hkb00_576 : ai_V := .inl (false, hkb00_575)
def hkb00_577 : ai_N := (.ofNat 4, .ofNat 16, [(2, .ofNat 0, .ofNat 0)])
def hkb00_578 : ai_V := .inl (false, hkb00_577)
def hkb00_579 : ai_N := (.ofNat 1, .ofNat 4, [(3, .ofNat 0, .ofNat 0)])
def hkb00_580 : ai_V := .inl (false, hkb00_579)
def hkb00_581 : ai_N := (.negSucc 2147483647, .ofNat 2147483647, [(6, .ofNat 0, .ofNat 0)])
def hkb00_582 : ai_V := .inl (false, hkb00_581)
def hkb00_583 : ai_N := (.ofNat 0, .ofNat 60, [(7, .ofNat 0, .ofNat 0)])
def hkb00_584 : ai_V := .inl (false, hkb00_583)
def hkb00_585 : ai_N := (.ofNat 0, .ofNat 4, [(9, .ofNat 0, .ofNat 0)])
def hkb00_586 : ai_V := .inl (false, hkb00_585)
def hkb00_587 : ai_C := .inr (.inr (6, [hkb00_115, hkb00_126, hkb00_144, hkb00_145, hkb00_146, hkb00_147, hkb00_578, hkb00_580, hkb00_19, hkb00_500, hkb00_582, hkb00_584, hkb00_438, hkb00_586]))
def hkb00_588 : Bool × Option ai_C := (false, some hkb00_587)
def hkb00_589 : ai_W := [hkb00_10, hkb00_588, hkb00_10, hkb00_10, hkb00_10, hkb00_10, hkb00_118, hkb00_118, hkb00_10, hkb00_10, hkb00_10, hkb00_10, hkb00_10, hkb00_10, hkb00_10, hkb00_10, hkb00_10, hkb00_10, hkb00_10, hkb00_10, hkb00_10, hkb00_10, hkb00_10, hkb00_10, hkb00_10, hkb00_10, hkb00_10, hkb00_10, hkb00_10, hkb00_10, hkb00_10, hkb00_10, hkb00_10, hkb00_10, hkb00_10, hkb00_10, hkb00_10, hkb00_10, hkb00_10, hkb00_10, hkb00_10, hkb00_10, hkb00_10, hkb00_10, hkb00_10, hkb00_10, hkb00_10, hkb00_10, hkb00_10, hkb00_10, hkb00_10, hkb00_10, hkb00_10, hkb00_10, hkb00_10, hkb00_10, hkb00_10, hkb00_10, hkb00_10, hkb00_10, hkb00_10, hkb00_10, hkb00_10, hkb00_10, hkb00_10, hkb00_10, hkb00_10, hkb00_10, hkb00_10, hkb00_10, hkb00_10, hkb00_10, hkb00_10, hkb00_10, hkb00_10, hkb00_10]
def hkb00_590 : Int × Int := (.ofNat 4, .ofNat 4)
def hkb00_591 : ai_E := [hkb00_3, hkb00_3, hkb00_139, hkb00_140, hkb00_3, hkb00_3, hkb00_3, hkb00_141, hkb00_142, hkb00_590]
def hkb00_592 : ai_E := [hkb00_3, hkb00_3, hkb00_139, hkb00_140, hkb00_3, hkb00_3, hkb00_3, hkb00_141, hkb00_142, hkb00_4]
def hkb00_593 : ai_N := (.ofNat 1, .ofNat 4, [(9, .ofNat 1, .ofNat 1)])
def hkb00_594 : ai_V := .inl (false, hkb00_593)
def hkb00_595 : ai_C := .inr (.inr (6, [hkb00_115, hkb00_126, hkb00_144, hkb00_145, hkb00_146, hkb00_147, hkb00_578, hkb00_580, hkb00_19, hkb00_500, hkb00_582, hkb00_584, hkb00_438, hkb00_594]))
/-- NeverAgain$Told.addWaiting -/
def kb_237 : ai_K := (136, 0, (hkb00_574, [hkb00_68, hkb00_103, hkb00_576], [], hkb00_589), [.inl 1, .inl 2, .inr (1, 6), .inr (1, 7), .inr (1, 8), .inr (1, 9), .inr (1, 10), .inr (1, 11), .inr (1, 12), .inr (1, 13)], [(some hkb00_35, hkb00_591, []), (some hkb00_39, hkb00_592, [(1, hkb00_595), (6, hkb00_117), (7, hkb00_117)])])
def kbn_237 : List ai_Nd := []
set_option maxRecDepth 1000000 in
theorem kbk_237 : ai_ck [] [] kb_237 [.inl 100000] kbn_237 25 = true := by decide +kernel
theorem kbh_237 : ai_holds kb_237 := ai_thm kbk_237 ai_nil
def hkb00_596 : ai_W := [hkb00_10, hkb00_163, hkb00_10, hkb00_10, hkb00_10, hkb00_10, hkb00_118, hkb00_118, hkb00_10, hkb00_10, hkb00_10, hkb00_10, hkb00_10, hkb00_10, hkb00_10, hkb00_288, hkb00_32, hkb00_10, hkb00_10, hkb00_10, hkb00_10, hkb00_10, hkb00_10, hkb00_10, hkb00_10, hkb00_10, hkb00_10, hkb00_10, hkb00_10, hkb00_10, hkb00_10, hkb00_10, hkb00_10, hkb00_10, hkb00_10, hkb00_10, hkb00_10, hkb00_10, hkb00_10, hkb00_10, hkb00_10, hkb00_10, hkb00_10, hkb00_10, hkb00_10, hkb00_10, hkb00_10, hkb00_10, hkb00_10, hkb00_10, hkb00_10, hkb00_10, hkb00_10, hkb00_10, hkb00_10, hkb00_10, hkb00_10, hkb00_10, hkb00_10, hkb00_10, hkb00_10, hkb00_10, hkb00_10, hkb00_10, hkb00_10, hkb00_10, hkb00_10, hkb00_10, hkb00_10, hkb00_10, hkb00_10, hkb00_10, hkb00_10, hkb00_10, hkb00_10, hkb00_10]
def hkb00_597 : ai_E := [hkb00_139, hkb00_140, hkb00_3, hkb00_3, hkb00_3, hkb00_141, hkb00_142, hkb00_590, hkb00_1, hkb00_2, hkb00_1, hkb00_3, hkb00_1, hkb00_4, hkb00_1, hkb00_3]
def hkb00_598 : ai_C := .inr (.inr (5, [hkb00_11, hkb00_84, hkb00_361, hkb00_284, hkb00_68, hkb00_90, hkb00_280, hkb00_282, hkb00_284, hkb00_286]))
def hkb00_599 : ai_E := [hkb00_139, hkb00_140, hkb00_3, hkb00_3, hkb00_3, hkb00_141, hkb00_142, hkb00_4, hkb00_1, hkb00_2, hkb00_1, hkb00_3, hkb00_1, hkb00_4, hkb00_1, hkb00_3]
def hkb00_600 : ai_E := [hkb00_139, hkb00_140, hkb00_3, hkb00_3, hkb00_3, hkb00_141, hkb00_142, hkb00_4, hkb00_176, hkb00_2, hkb00_1, hkb00_3, hkb00_175, hkb00_4, hkb00_1, hkb00_3]
def hkb00_601 : ai_N := (.ofNat 1, .ofNat 4, [(7, .ofNat 1, .ofNat 1)])
def hkb00_602 : ai_V := .inl (false, hkb00_601)
def hkb00_603 : ai_C := .inr (.inr (6, [hkb00_115, hkb00_126, hkb00_144, hkb00_145, hkb00_146, hkb00_147, hkb00_149, hkb00_151, hkb00_153, hkb00_155, hkb00_19, hkb00_157, hkb00_159, hkb00_602]))
def hkb00_604 : ai_C := .inr (.inr (5, [hkb00_11, hkb00_295, hkb00_168, hkb00_302, hkb00_68, hkb00_90, hkb00_302, hkb00_200, hkb00_302, hkb00_572]))
def hkb00_605 : ai_C := .inr (.inr (5, [hkb00_11, hkb00_295, hkb00_278, hkb00_88, hkb00_68, hkb00_90, hkb00_307, hkb00_168, hkb00_309, hkb00_572]))
def hkb00_606 : ai_C := .inr (.inr (5, [hkb00_11, hkb00_295, hkb00_168, hkb00_309, hkb00_68, hkb00_90, hkb00_302, hkb00_35, hkb00_309, hkb00_572]))
def hkb00_607 : ai_C := .inr (.inr (5, [hkb00_11, hkb00_295, hkb00_267, hkb00_297, hkb00_68, hkb00_90, hkb00_291, hkb00_39, hkb00_297, hkb00_213]))
/-- NeverAgain$TextReader.waitLine -/
def kb_238 : ai_K := (190, 3, (hkb00_276, [hkb00_6, hkb00_9], [], hkb00_596), [.inr (1, 6), .inr (1, 7), .inr (1, 8), .inr (1, 9), .inr (1, 10), .inr (1, 11), .inr (1, 12), .inr (1, 13), .inr (15, 1), .inr (15, 2), .inr (15, 3), .inr (15, 5), .inr (15, 6), .inr (15, 7), .inr (15, 8), .inr (15, 9)], [(some hkb00_35, hkb00_597, [(15, hkb00_598)]), (some hkb00_35, hkb00_599, [(15, hkb00_479)]), (some hkb00_35, hkb00_600, [(15, hkb00_480)]), (some hkb00_35, hkb00_600, [(15, hkb00_481)]), (some hkb00_35, hkb00_600, [(1, hkb00_603), (6, hkb00_117), (7, hkb00_117), (15, hkb00_604)]), (some hkb00_39, hkb00_600, [(1, hkb00_603), (6, hkb00_117), (7, hkb00_117), (15, hkb00_605)]), (some hkb00_35, hkb00_600, [(1, hkb00_603), (6, hkb00_117), (7, hkb00_117), (15, hkb00_606)]), (some hkb00_35, hkb00_600, [(1, hkb00_603), (6, hkb00_117), (7, hkb00_117), (15, hkb00_486)]), (some hkb00_35, hkb00_600, [(15, hkb00_607)])])
def kbn_238 : List ai_Nd := []
set_option maxRecDepth 1000000 in
theorem kbk_238 : ai_ck [kb_39, kb_191, kb_236, kb_78, kb_237] [] kb_238 [.inl 100000] kbn_238 29 = true := by decide +kernel
theorem kbh_238 : ai_holds kb_238 := ai_thm kbk_238 (ai_cons kbh_39 (ai_cons kbh_191 (ai_cons kbh_236 (ai_cons kbh_78 (ai_cons kbh_237 ai_nil)))))
def hkb00_608 : ai_W := [hkb00_10, hkb00_163, hkb00_118, hkb00_130, hkb00_508, hkb00_547, hkb00_118, hkb00_118, hkb00_10, hkb00_10, hkb00_10, hkb00_10, hkb00_10, hkb00_10, hkb00_10, hkb00_288, hkb00_32, hkb00_10, hkb00_10, hkb00_10, hkb00_10, hkb00_10, hkb00_10, hkb00_10, hkb00_10, hkb00_10, hkb00_10, hkb00_10, hkb00_10, hkb00_10, hkb00_10, hkb00_10, hkb00_10, hkb00_10, hkb00_10, hkb00_10, hkb00_10, hkb00_10, hkb00_10, hkb00_10, hkb00_10, hkb00_10, hkb00_10, hkb00_10, hkb00_10, hkb00_10, hkb00_10, hkb00_10, hkb00_10, hkb00_10, hkb00_10, hkb00_10, hkb00_10, hkb00_10, hkb00_10, hkb00_10, hkb00_10, hkb00_10, hkb00_10, hkb00_10, hkb00_10, hkb00_10, hkb00_10, hkb00_10, hkb00_10, hkb00_10, hkb00_10, hkb00_10, hkb00_10, hkb00_10, hkb00_10, hkb00_10, hkb00_10, hkb00_10, hkb00_10, hkb00_10]
def hkb00_609 : Int × Int := (.ofNat 1, .ofNat 3)
def hkb00_610 : ai_E := [hkb00_139, hkb00_140, hkb00_3, hkb00_3, hkb00_3, hkb00_141, hkb00_142, hkb00_56, hkb00_1, hkb00_2, hkb00_1, hkb00_3, hkb00_1, hkb00_609, hkb00_1, hkb00_3]
def hkb00_611 : ai_N := (.ofNat 1, .ofNat 3, [(13, .ofNat 0, .ofNat 0)])
def hkb00_612 : ai_V := .inl (false, hkb00_611)
def hkb00_613 : ai_C := .inr (.inr (5, [hkb00_11, hkb00_84, hkb00_168, hkb00_284, hkb00_68, hkb00_90, hkb00_280, hkb00_612, hkb00_284, hkb00_286]))
def hkb00_614 : ai_E := [hkb00_139, hkb00_140, hkb00_3, hkb00_3, hkb00_3, hkb00_141, hkb00_142, hkb00_56, hkb00_1, hkb00_2, hkb00_1, hkb00_3, hkb00_1, hkb00_366, hkb00_1, hkb00_3]
def hkb00_615 : ai_N := (.ofNat 2, .ofNat 5, [])
def hkb00_616 : ai_V := .inl (false, hkb00_615)
def hkb00_617 : ai_N := (.ofNat 0, .ofNat 400, [(12, .ofNat 0, .ofNat 397)])
def hkb00_618 : ai_V := .inl (false, hkb00_617)
def hkb00_619 : ai_C := .inr (.inr (5, [hkb00_11, hkb00_84, hkb00_616, hkb00_526, hkb00_68, hkb00_213, hkb00_618, hkb00_35, hkb00_526, hkb00_213]))
def hkb00_620 : Int × Int := (.ofNat 3, .ofNat 399)
def hkb00_621 : ai_E := [hkb00_139, hkb00_140, hkb00_3, hkb00_3, hkb00_3, hkb00_141, hkb00_142, hkb00_56, hkb00_176, hkb00_2, hkb00_1, hkb00_3, hkb00_620, hkb00_366, hkb00_1, hkb00_3]
def hkb00_622 : ai_N := (.ofNat 3, .ofNat 399, [(12, .ofNat 0, .ofNat 396)])
def hkb00_623 : ai_V := .inl (false, hkb00_622)
def hkb00_624 : ai_N := (.ofNat 3, .ofNat 400, [(12, .ofNat 0, .ofNat 397)])
def hkb00_625 : ai_V := .inl (false, hkb00_624)
def hkb00_626 : ai_C := .inr (.inr (5, [hkb00_11, hkb00_295, hkb00_346, hkb00_623, hkb00_68, hkb00_213, hkb00_625, hkb00_39, hkb00_623, hkb00_213]))
def hkb00_627 : ai_C := .inr (.inr (6, [hkb00_115, hkb00_126, hkb00_144, hkb00_145, hkb00_146, hkb00_147, hkb00_270, hkb00_151, hkb00_213, hkb00_213, hkb00_213, hkb00_157, hkb00_159, hkb00_161]))
def hkb00_628 : ai_C := .inr (.inr (5, [hkb00_11, hkb00_295, hkb00_313, hkb00_623, hkb00_68, hkb00_213, hkb00_625, hkb00_39, hkb00_623, hkb00_213]))
def hkb00_629 : ai_C := .inr (.inr (5, [hkb00_11, hkb00_295, hkb00_168, hkb00_623, hkb00_68, hkb00_213, hkb00_625, hkb00_35, hkb00_623, hkb00_213]))
def hkb00_630 : ai_N := (.ofNat 4, .ofNat 400, [(12, .ofNat 1, .ofNat 397)])
def hkb00_631 : ai_V := .inl (false, hkb00_630)
def hkb00_632 : ai_C := .inr (.inr (5, [hkb00_11, hkb00_295, hkb00_278, hkb00_88, hkb00_68, hkb00_213, hkb00_631, hkb00_168, hkb00_623, hkb00_213]))
def hkb00_633 : ai_E := [hkb00_139, hkb00_140, hkb00_3, hkb00_3, hkb00_3, hkb00_141, hkb00_142, hkb00_56, hkb00_1, hkb00_2, hkb00_1, hkb00_3, hkb00_392, hkb00_366, hkb00_1, hkb00_3]
def hkb00_634 : ai_C := .inr (.inr (5, [hkb00_11, hkb00_84, hkb00_168, hkb00_625, hkb00_68, hkb00_213, hkb00_625, hkb00_200, hkb00_625, hkb00_213]))
def hkb00_635 : ai_C := .inr (.inr (5, [hkb00_11, hkb00_295, hkb00_168, hkb00_623, hkb00_68, hkb00_213, hkb00_631, hkb00_168, hkb00_623, hkb00_213]))
def hkb00_636 : Int × Int := (.ofNat 7, .ofNat 399)
def hkb00_637 : ai_E := [hkb00_139, hkb00_140, hkb00_3, hkb00_3, hkb00_3, hkb00_141, hkb00_142, hkb00_56, hkb00_176, hkb00_2, hkb00_1, hkb00_3, hkb00_636, hkb00_366, hkb00_1, hkb00_3]
def hkb00_638 : ai_N := (.ofNat 7, .ofNat 399, [(12, .ofNat 0, .ofNat 392)])
def hkb00_639 : ai_V := .inl (false, hkb00_638)
def hkb00_640 : ai_N := (.ofNat 7, .ofNat 400, [(12, .ofNat 0, .ofNat 393)])
def hkb00_641 : ai_V := .inl (false, hkb00_640)
def hkb00_642 : ai_C := .inr (.inr (5, [hkb00_11, hkb00_295, hkb00_378, hkb00_639, hkb00_68, hkb00_213, hkb00_641, hkb00_39, hkb00_639, hkb00_213]))
def hkb00_643 : ai_C := .inr (.inr (5, [hkb00_11, hkb00_295, hkb00_168, hkb00_639, hkb00_68, hkb00_213, hkb00_641, hkb00_35, hkb00_639, hkb00_358]))
def hkb00_644 : ai_E := [hkb00_139, hkb00_140, hkb00_3, hkb00_3, hkb00_3, hkb00_141, hkb00_142, hkb00_56, hkb00_176, hkb00_371, hkb00_1, hkb00_3, hkb00_636, hkb00_366, hkb00_1, hkb00_3]
def hkb00_645 : ai_N := (.ofNat 8, .ofNat 400, [(12, .ofNat 1, .ofNat 393)])
def hkb00_646 : ai_V := .inl (false, hkb00_645)
def hkb00_647 : ai_C := .inr (.inr (5, [hkb00_11, hkb00_295, hkb00_374, hkb00_88, hkb00_68, hkb00_213, hkb00_646, hkb00_168, hkb00_639, hkb00_358]))
def hkb00_648 : ai_E := [hkb00_139, hkb00_140, hkb00_3, hkb00_3, hkb00_3, hkb00_141, hkb00_142, hkb00_56, hkb00_176, hkb00_366, hkb00_1, hkb00_3, hkb00_636, hkb00_366, hkb00_1, hkb00_3]
def hkb00_649 : ai_C := .inr (.inr (5, [hkb00_11, hkb00_295, hkb00_369, hkb00_88, hkb00_68, hkb00_213, hkb00_646, hkb00_168, hkb00_639, hkb00_358]))
def hkb00_650 : ai_C := .inr (.inr (5, [hkb00_11, hkb00_295, hkb00_168, hkb00_641, hkb00_68, hkb00_213, hkb00_641, hkb00_200, hkb00_641, hkb00_358]))
def hkb00_651 : Int × Int := (.ofNat 4, .ofNat 399)
def hkb00_652 : ai_E := [hkb00_139, hkb00_140, hkb00_3, hkb00_3, hkb00_3, hkb00_141, hkb00_142, hkb00_56, hkb00_176, hkb00_2, hkb00_1, hkb00_3, hkb00_651, hkb00_366, hkb00_1, hkb00_3]
def hkb00_653 : ai_N := (.ofNat 4, .ofNat 399, [(12, .ofNat 0, .ofNat 395)])
def hkb00_654 : ai_V := .inl (false, hkb00_653)
def hkb00_655 : ai_N := (.ofNat 4, .ofNat 400, [(12, .ofNat 0, .ofNat 396)])
def hkb00_656 : ai_V := .inl (false, hkb00_655)
def hkb00_657 : ai_C := .inr (.inr (5, [hkb00_11, hkb00_295, hkb00_313, hkb00_654, hkb00_68, hkb00_90, hkb00_656, hkb00_39, hkb00_654, hkb00_213]))
def hkb00_658 : ai_C := .inr (.inr (5, [hkb00_11, hkb00_295, hkb00_168, hkb00_654, hkb00_68, hkb00_90, hkb00_656, hkb00_35, hkb00_654, hkb00_476]))
def hkb00_659 : ai_N := (.ofNat 5, .ofNat 400, [(12, .ofNat 1, .ofNat 396)])
def hkb00_660 : ai_V := .inl (false, hkb00_659)
def hkb00_661 : ai_C := .inr (.inr (5, [hkb00_11, hkb00_295, hkb00_278, hkb00_88, hkb00_68, hkb00_90, hkb00_660, hkb00_168, hkb00_654, hkb00_476]))
def hkb00_662 : ai_C := .inr (.inr (5, [hkb00_11, hkb00_295, hkb00_168, hkb00_656, hkb00_68, hkb00_90, hkb00_656, hkb00_200, hkb00_656, hkb00_476]))
def hkb00_663 : ai_E := [hkb00_139, hkb00_140, hkb00_3, hkb00_3, hkb00_3, hkb00_141, hkb00_142, hkb00_56, hkb00_1, hkb00_2, hkb00_1, hkb00_3, hkb00_238, hkb00_366, hkb00_1, hkb00_3]
def hkb00_664 : ai_C := .inr (.inr (5, [hkb00_11, hkb00_84, hkb00_529, hkb00_526, hkb00_68, hkb00_90, hkb00_656, hkb00_476, hkb00_656, hkb00_213]))
def hkb00_665 : ai_C := .inr (.inr (5, [hkb00_11, hkb00_84, hkb00_35, hkb00_526, hkb00_68, hkb00_90, hkb00_656, hkb00_476, hkb00_656, hkb00_213]))
def hkb00_666 : ai_C := .inr (.inr (5, [hkb00_11, hkb00_84, hkb00_529, hkb00_526, hkb00_68, hkb00_90, hkb00_625, hkb00_476, hkb00_625, hkb00_213]))
def hkb00_667 : ai_C := .inr (.inr (5, [hkb00_11, hkb00_84, hkb00_35, hkb00_526, hkb00_68, hkb00_90, hkb00_625, hkb00_476, hkb00_625, hkb00_213]))
def hkb00_668 : ai_E := [hkb00_139, hkb00_140, hkb00_3, hkb00_3, hkb00_3, hkb00_141, hkb00_142, hkb00_4, hkb00_176, hkb00_2, hkb00_1, hkb00_3, hkb00_651, hkb00_366, hkb00_1, hkb00_3]
def hkb00_669 : ai_C := .inr (.inr (5, [hkb00_11, hkb00_295, hkb00_168, hkb00_654, hkb00_68, hkb00_90, hkb00_656, hkb00_35, hkb00_654, hkb00_572]))
def hkb00_670 : ai_C := .inr (.inr (5, [hkb00_11, hkb00_295, hkb00_278, hkb00_88, hkb00_68, hkb00_90, hkb00_660, hkb00_168, hkb00_654, hkb00_572]))
def hkb00_671 : ai_C := .inr (.inr (5, [hkb00_11, hkb00_295, hkb00_168, hkb00_656, hkb00_68, hkb00_90, hkb00_656, hkb00_200, hkb00_656, hkb00_572]))
/-- NeverAgain$TextReader.line -/
def kb_239 : ai_K := (156, 6, (hkb00_276, [hkb00_6], [], hkb00_608), [.inr (1, 6), .inr (1, 7), .inr (1, 8), .inr (1, 9), .inr (1, 10), .inr (1, 11), .inr (1, 12), .inr (1, 13), .inr (15, 1), .inr (15, 2), .inr (15, 3), .inr (15, 5), .inr (15, 6), .inr (15, 7), .inr (15, 8), .inr (15, 9)], [(some hkb00_35, hkb00_610, [(15, hkb00_613)]), (some hkb00_35, hkb00_614, [(15, hkb00_619)]), (some hkb00_35, hkb00_621, [(15, hkb00_626)]), (some hkb00_35, hkb00_621, [(1, hkb00_627), (15, hkb00_628)]), (some hkb00_35, hkb00_621, [(1, hkb00_627), (15, hkb00_629)]), (some hkb00_39, hkb00_621, [(1, hkb00_627), (15, hkb00_632)]), (some hkb00_35, hkb00_633, [(1, hkb00_627), (15, hkb00_634)]), (some hkb00_35, hkb00_621, [(15, hkb00_635)]), (some hkb00_35, hkb00_633, [(15, hkb00_634)]), (some hkb00_35, hkb00_637, [(1, hkb00_364), (2, hkb00_117), (15, hkb00_642)]), (some hkb00_35, hkb00_637, [(1, hkb00_364), (2, hkb00_117), (15, hkb00_643)]), (some hkb00_35, hkb00_644, [(1, hkb00_364), (2, hkb00_117), (15, hkb00_647)]), (some hkb00_39, hkb00_648, [(1, hkb00_364), (2, hkb00_117), (15, hkb00_649)]), (some hkb00_35, hkb00_637, [(1, hkb00_364), (2, hkb00_117), (15, hkb00_650)]), (some hkb00_35, hkb00_652, [(3, hkb00_129), (15, hkb00_657)]), (some hkb00_35, hkb00_652, [(3, hkb00_129), (15, hkb00_658)]), (some hkb00_39, hkb00_652, [(3, hkb00_129), (15, hkb00_661)]), (some hkb00_35, hkb00_652, [(3, hkb00_129), (15, hkb00_662)]), (some hkb00_35, hkb00_663, [(1, hkb00_524), (4, hkb00_507), (15, hkb00_664)]), (some hkb00_39, hkb00_663, [(1, hkb00_524), (4, hkb00_507), (15, hkb00_665)]), (some hkb00_35, hkb00_633, [(1, hkb00_561), (5, hkb00_546), (15, hkb00_666)]), (some hkb00_39, hkb00_633, [(1, hkb00_561), (5, hkb00_546), (15, hkb00_667)]), (some hkb00_35, hkb00_668, [(1, hkb00_603), (6, hkb00_117), (7, hkb00_117), (15, hkb00_657)]), (some hkb00_35, hkb00_668, [(1, hkb00_603), (6, hkb00_117), (7, hkb00_117), (15, hkb00_669)]), (some hkb00_39, hkb00_668, [(1, hkb00_603), (6, hkb00_117), (7, hkb00_117), (15, hkb00_670)]), (some hkb00_35, hkb00_668, [(1, hkb00_603), (6, hkb00_117), (7, hkb00_117), (15, hkb00_671)])])
def kbn_239 : List ai_Nd := []
set_option maxRecDepth 1000000 in
theorem kbk_239 : ai_ck [kb_13, kb_33, kb_72, kb_95, kb_111, kb_125, kb_187, kb_204, kb_219, kb_234, kb_40, kb_99, kb_113, kb_175, kb_79, kb_192, kb_238, kb_209, kb_222] [] kb_239 [.inl 100000] kbn_239 46 = true := by decide +kernel
theorem kbh_239 : ai_holds kb_239 := ai_thm kbk_239 (ai_cons kbh_13 (ai_cons kbh_33 (ai_cons kbh_72 (ai_cons kbh_95 (ai_cons kbh_111 (ai_cons kbh_125 (ai_cons kbh_187 (ai_cons kbh_204 (ai_cons kbh_219 (ai_cons kbh_234 (ai_cons kbh_40 (ai_cons kbh_99 (ai_cons kbh_113 (ai_cons kbh_175 (ai_cons kbh_79 (ai_cons kbh_192 (ai_cons kbh_238 (ai_cons kbh_209 (ai_cons kbh_222 ai_nil)))))))))))))))))))
def hkb00_672 : ai_W := [hkb00_10, hkb00_506, hkb00_10, hkb00_10, hkb00_10, hkb00_10, hkb00_10, hkb00_10, hkb00_10, hkb00_10, hkb00_10, hkb00_10, hkb00_10, hkb00_10, hkb00_10, hkb00_10, hkb00_10, hkb00_10, hkb00_10, hkb00_10, hkb00_10, hkb00_10, hkb00_10, hkb00_10, hkb00_10, hkb00_10, hkb00_10, hkb00_10, hkb00_10, hkb00_10, hkb00_10, hkb00_10, hkb00_10, hkb00_10, hkb00_10, hkb00_10, hkb00_10, hkb00_10, hkb00_10, hkb00_10, hkb00_10, hkb00_10, hkb00_10, hkb00_10, hkb00_10, hkb00_10, hkb00_10, hkb00_10, hkb00_10, hkb00_10, hkb00_10, hkb00_10, hkb00_10, hkb00_10, hkb00_10, hkb00_10, hkb00_10, hkb00_10, hkb00_10, hkb00_10, hkb00_10, hkb00_10, hkb00_10, hkb00_10, hkb00_10, hkb00_10, hkb00_10, hkb00_10, hkb00_10, hkb00_10, hkb00_10, hkb00_10, hkb00_10, hkb00_10, hkb00_10, hkb00_10]
def hkb00_673 : ai_E := [hkb00_4, hkb00_139, hkb00_140, hkb00_3, hkb00_3, hkb00_3, hkb00_141, hkb00_142, hkb00_56]
def hkb00_674 : ai_E := [hkb00_107, hkb00_139, hkb00_140, hkb00_3, hkb00_3, hkb00_3, hkb00_141, hkb00_142, hkb00_56]
def hkb00_675 : ai_E := [hkb00_113, hkb00_139, hkb00_140, hkb00_3, hkb00_3, hkb00_3, hkb00_141, hkb00_142, hkb00_56]
/-- NeverAgain$Told.hasMatter -/
def kb_241 : ai_K := (99, 0, (hkb00_494, [hkb00_68, hkb00_103], [], hkb00_672), [.inl 1, .inr (1, 6), .inr (1, 7), .inr (1, 8), .inr (1, 9), .inr (1, 10), .inr (1, 11), .inr (1, 12), .inr (1, 13)], [(some hkb00_39, hkb00_673, []), (some hkb00_35, hkb00_674, []), (some hkb00_35, hkb00_675, [])])
def kbn_241 : List ai_Nd := []
set_option maxRecDepth 1000000 in
theorem kbk_241 : ai_ck [] [] kb_241 [.inl 100000] kbn_241 13 = true := by decide +kernel
theorem kbh_241 : ai_holds kb_241 := ai_thm kbk_241 ai_nil
def hkb00_676 : ai_E := [hkb00_464, hkb00_139, hkb00_140, hkb00_3, hkb00_3, hkb00_3, hkb00_141, hkb00_142, hkb00_56]
def hkb00_677 : ai_E := [hkb00_334, hkb00_139, hkb00_140, hkb00_3, hkb00_3, hkb00_3, hkb00_141, hkb00_142, hkb00_56]
def hkb00_678 : ai_E := [hkb00_340, hkb00_139, hkb00_140, hkb00_3, hkb00_3, hkb00_3, hkb00_141, hkb00_142, hkb00_56]
/-- NeverAgain$Told.hasNumber -/
def kb_242 : ai_K := (101, 0, (hkb00_494, [hkb00_68, hkb00_103], [], hkb00_672), [.inl 1, .inr (1, 6), .inr (1, 7), .inr (1, 8), .inr (1, 9), .inr (1, 10), .inr (1, 11), .inr (1, 12), .inr (1, 13)], [(some hkb00_39, hkb00_676, []), (some hkb00_35, hkb00_677, []), (some hkb00_35, hkb00_678, [])])
def kbn_242 : List ai_Nd := []
set_option maxRecDepth 1000000 in
theorem kbk_242 : ai_ck [] [] kb_242 [.inl 100000] kbn_242 14 = true := by decide +kernel
theorem kbh_242 : ai_holds kb_242 := ai_thm kbk_242 ai_nil
def hkb00_679 : ai_W := [hkb00_10, hkb00_163, hkb00_10, hkb00_130, hkb00_508, hkb00_547, hkb00_118, hkb00_10, hkb00_10, hkb00_10, hkb00_10, hkb00_10, hkb00_10, hkb00_10, hkb00_10, hkb00_10, hkb00_10, hkb00_10, hkb00_10, hkb00_10, hkb00_10, hkb00_10, hkb00_10, hkb00_10, hkb00_10, hkb00_10, hkb00_10, hkb00_10, hkb00_10, hkb00_10, hkb00_10, hkb00_10, hkb00_10, hkb00_10, hkb00_10, hkb00_10, hkb00_10, hkb00_10, hkb00_10, hkb00_10, hkb00_10, hkb00_10, hkb00_10, hkb00_10, hkb00_10, hkb00_10, hkb00_10, hkb00_10, hkb00_10, hkb00_10, hkb00_10, hkb00_10, hkb00_10, hkb00_10, hkb00_10, hkb00_10, hkb00_10, hkb00_10, hkb00_10, hkb00_10, hkb00_10, hkb00_10, hkb00_10, hkb00_10, hkb00_10, hkb00_10, hkb00_10, hkb00_10, hkb00_10, hkb00_10, hkb00_10, hkb00_10, hkb00_10, hkb00_10, hkb00_10, hkb00_10]
/-- NeverAgain$Told.namesWhatIs -/
def kb_243 : ai_K := (157, 1, (hkb00_143, [hkb00_68, hkb00_9], [], hkb00_679), [.inr (1, 6), .inr (1, 7), .inr (1, 8), .inr (1, 9), .inr (1, 10), .inr (1, 11), .inr (1, 12), .inr (1, 13)], [(some hkb00_35, hkb00_143, []), (some hkb00_39, hkb00_143, [])])
def hkb00_680 : Int × Int := (.ofNat 1, .ofNat 17)
def hkb00_681 : ai_E := [hkb00_139, hkb00_140, hkb00_3, hkb00_3, hkb00_3, hkb00_141, hkb00_142, hkb00_56, hkb00_680]
def hkb00_682 : ai_N := (.ofNat 1, .ofNat 17, [(8, .ofNat 0, .ofNat 0)])
def hkb00_683 : ai_V := .inl (false, hkb00_682)
def hkb00_684 : ai_E := [hkb00_139, hkb00_140, hkb00_3, hkb00_3, hkb00_3, hkb00_141, hkb00_142, hkb00_56, hkb00_141]
def hkb00_685 : ai_N := (.ofNat 0, .ofNat 60, [(8, .ofNat 0, .ofNat 0)])
def hkb00_686 : ai_V := .inl (false, hkb00_685)
def hkb00_687 : ai_E := [hkb00_139, hkb00_140, hkb00_3, hkb00_3, hkb00_3, hkb00_141, hkb00_142, hkb00_56, hkb00_142]
def hkb00_688 : ai_E := [hkb00_139, hkb00_140, hkb00_3, hkb00_3, hkb00_3, hkb00_141, hkb00_142, hkb00_56, hkb00_56]
def kbn_243 : List ai_Nd := [(2, (hkb00_681, [hkb00_68, hkb00_683], [], hkb00_679), [.inl 1], [.inl 99997, .inl 1, .inr (true, .ofNat 17, 8), .inl 100000]), (50, (hkb00_684, [hkb00_68, hkb00_686], [], hkb00_679), [.inl 1], [.inl 99949, .inl 1, .inr (true, .ofNat 60, 8), .inl 100000]), (87, (hkb00_687, [hkb00_68, hkb00_438], [], hkb00_679), [.inl 1], [.inl 99912, .inl 1, .inr (true, .ofNat 5, 8), .inl 100000]), (123, (hkb00_688, [hkb00_68, hkb00_242], [], hkb00_679), [.inl 1], [.inl 99876, .inl 1, .inr (true, .ofNat 4, 8), .inl 100000])]
set_option maxRecDepth 1000000 in
theorem kbk_243 : ai_ck [kb_241, kb_242] [] kb_243 [.inl 100000, .inl 0, .inl 0, .inl 0] kbn_243 24 = true := by decide +kernel
theorem kbh_243 : ai_holds kb_243 := ai_thm kbk_243 (ai_cons kbh_241 (ai_cons kbh_242 ai_nil))
def hkb00_689 : ai_N := (.ofNat 6, .ofNat 6, [])
def hkb00_690 : ai_V := .inl (false, hkb00_689)
def hkb00_691 : ai_C := .inr (.inr (5, [hkb00_11, hkb00_13, hkb00_690, hkb00_103, hkb00_68, hkb00_19, hkb00_21, hkb00_23, hkb00_25, hkb00_27]))
/-- NeverAgain$TextReader.fail -/
def kb_244 : ai_K := (158, 0, (hkb00_170, [hkb00_6, hkb00_690, hkb00_103], [], hkb00_182), [.inl 2, .inr (15, 1), .inr (15, 2), .inr (15, 3), .inr (15, 5), .inr (15, 6), .inr (15, 7), .inr (15, 8), .inr (15, 9)], [(some hkb00_35, hkb00_170, [(15, hkb00_691)])])
def kbn_244 : List ai_Nd := []
set_option maxRecDepth 1000000 in
theorem kbk_244 : ai_ck [] [] kb_244 [.inl 100000] kbn_244 9 = true := by decide +kernel
theorem kbh_244 : ai_holds kb_244 := ai_thm kbk_244 ai_nil
def hkb00_692 : ai_C := .inr (.inr (5, [hkb00_11, hkb00_84, hkb00_278, hkb00_88, hkb00_9, hkb00_90, hkb00_280, hkb00_282, hkb00_284, hkb00_286]))
def hkb00_693 : Bool × Option ai_C := (false, some hkb00_692)
def hkb00_694 : ai_W := [hkb00_10, hkb00_163, hkb00_118, hkb00_130, hkb00_508, hkb00_547, hkb00_118, hkb00_118, hkb00_10, hkb00_10, hkb00_10, hkb00_10, hkb00_10, hkb00_10, hkb00_10, hkb00_693, hkb00_32, hkb00_10, hkb00_10, hkb00_10, hkb00_10, hkb00_10, hkb00_10, hkb00_10, hkb00_10, hkb00_10, hkb00_10, hkb00_10, hkb00_10, hkb00_10, hkb00_10, hkb00_10, hkb00_10, hkb00_10, hkb00_10, hkb00_10, hkb00_10, hkb00_10, hkb00_10, hkb00_10, hkb00_10, hkb00_10, hkb00_10, hkb00_10, hkb00_10, hkb00_10, hkb00_10, hkb00_10, hkb00_10, hkb00_10, hkb00_10, hkb00_10, hkb00_10, hkb00_10, hkb00_10, hkb00_10, hkb00_10, hkb00_10, hkb00_10, hkb00_10, hkb00_10, hkb00_10, hkb00_10, hkb00_10, hkb00_10, hkb00_10, hkb00_10, hkb00_10, hkb00_10, hkb00_10, hkb00_10, hkb00_10, hkb00_10, hkb00_10, hkb00_10, hkb00_10]
def hkb00_695 : ai_E := [hkb00_139, hkb00_140, hkb00_3, hkb00_3, hkb00_3, hkb00_141, hkb00_142, hkb00_56, hkb00_176, hkb00_2, hkb00_1, hkb00_3, hkb00_1, hkb00_4, hkb00_1, hkb00_3]
def hkb00_696 : ai_N := (.ofNat 0, .ofNat 60, [])
def hkb00_697 : ai_V := .inl (false, hkb00_696)
def hkb00_698 : ai_N := (.ofNat 0, .ofNat 5, [])
def hkb00_699 : ai_V := .inl (false, hkb00_698)
def hkb00_700 : ai_C := .inr (.inr (6, [hkb00_115, hkb00_126, hkb00_144, hkb00_145, hkb00_146, hkb00_147, hkb00_270, hkb00_346, hkb00_213, hkb00_213, hkb00_213, hkb00_697, hkb00_699, hkb00_572]))
def hkb00_701 : ai_N := (.ofNat 0, .ofNat 399, [])
def hkb00_702 : ai_V := .inl (false, hkb00_701)
def hkb00_703 : ai_C := .inr (.inr (5, [hkb00_11, hkb00_295, hkb00_378, hkb00_702, hkb00_68, hkb00_213, hkb00_526, hkb00_39, hkb00_702, hkb00_213]))
def hkb00_704 : ai_N := (.ofNat 2, .ofNat 6, [])
def hkb00_705 : ai_V := .inl (false, hkb00_704)
def hkb00_706 : ai_C := .inr (.inr (5, [hkb00_11, hkb00_84, hkb00_705, hkb00_526, hkb00_68, hkb00_213, hkb00_526, hkb00_200, hkb00_526, hkb00_213]))
def hkb00_707 : ai_N := (.ofNat 1, .ofNat 400, [])
def hkb00_708 : ai_V := .inl (false, hkb00_707)
def hkb00_709 : ai_C := .inr (.inr (5, [hkb00_11, hkb00_295, hkb00_616, hkb00_526, hkb00_68, hkb00_213, hkb00_708, hkb00_35, hkb00_526, hkb00_213]))
def hkb00_710 : ai_N := (.ofNat 3, .ofNat 400, [])
def hkb00_711 : ai_V := .inl (false, hkb00_710)
def hkb00_712 : ai_C := .inr (.inr (5, [hkb00_11, hkb00_295, hkb00_529, hkb00_526, hkb00_68, hkb00_213, hkb00_711, hkb00_476, hkb00_711, hkb00_213]))
def hkb00_713 : ai_C := .inr (.inr (5, [hkb00_11, hkb00_295, hkb00_168, hkb00_702, hkb00_68, hkb00_213, hkb00_708, hkb00_168, hkb00_702, hkb00_213]))
def hkb00_714 : ai_C := .inr (.inr (5, [hkb00_11, hkb00_84, hkb00_35, hkb00_526, hkb00_68, hkb00_213, hkb00_526, hkb00_200, hkb00_526, hkb00_213]))
def hkb00_715 : ai_N := (.ofNat 401, .ofNat 401, [])
def hkb00_716 : ai_V := .inl (false, hkb00_715)
def hkb00_717 : ai_C := .inr (.inr (5, [hkb00_11, hkb00_84, hkb00_35, hkb00_526, hkb00_68, hkb00_213, hkb00_526, hkb00_476, hkb00_526, hkb00_213]))
def hkb00_718 : ai_C := .inr (.inr (5, [hkb00_11, hkb00_84, hkb00_690, hkb00_84, hkb00_68, hkb00_213, hkb00_526, hkb00_476, hkb00_526, hkb00_213]))
/-- NeverAgain$TextReader.readInto -/
def kb_245 : ai_K := (94, 7, (hkb00_276, [hkb00_6, hkb00_68, hkb00_9], [], hkb00_694), [.inr (1, 6), .inr (1, 7), .inr (1, 8), .inr (1, 9), .inr (1, 10), .inr (1, 11), .inr (1, 12), .inr (1, 13), .inr (15, 1), .inr (15, 2), .inr (15, 3), .inr (15, 5), .inr (15, 6), .inr (15, 7), .inr (15, 8), .inr (15, 9)], [(some hkb00_526, hkb00_695, [(1, hkb00_700), (2, hkb00_117), (3, hkb00_129), (4, hkb00_507), (5, hkb00_546), (6, hkb00_117), (7, hkb00_117), (15, hkb00_703)]), (some hkb00_526, hkb00_276, [(1, hkb00_700), (2, hkb00_117), (3, hkb00_129), (4, hkb00_507), (5, hkb00_546), (6, hkb00_117), (7, hkb00_117), (15, hkb00_706)]), (some hkb00_526, hkb00_695, [(1, hkb00_700), (2, hkb00_117), (3, hkb00_129), (4, hkb00_507), (5, hkb00_546), (6, hkb00_117), (7, hkb00_117), (15, hkb00_709)]), (some hkb00_526, hkb00_695, [(1, hkb00_700), (2, hkb00_117), (3, hkb00_129), (4, hkb00_507), (5, hkb00_546), (6, hkb00_117), (7, hkb00_117), (15, hkb00_712)]), (some hkb00_526, hkb00_695, [(1, hkb00_700), (2, hkb00_117), (3, hkb00_129), (4, hkb00_507), (5, hkb00_546), (6, hkb00_117), (7, hkb00_117), (15, hkb00_713)]), (some hkb00_526, hkb00_276, [(1, hkb00_700), (2, hkb00_117), (3, hkb00_129), (4, hkb00_507), (5, hkb00_546), (6, hkb00_117), (7, hkb00_117), (15, hkb00_714)]), (some hkb00_716, hkb00_276, [(1, hkb00_700), (2, hkb00_117), (3, hkb00_129), (4, hkb00_507), (5, hkb00_546), (6, hkb00_117), (7, hkb00_117), (15, hkb00_717)]), (some hkb00_716, hkb00_276, [(1, hkb00_700), (2, hkb00_117), (3, hkb00_129), (4, hkb00_507), (5, hkb00_546), (6, hkb00_117), (7, hkb00_117), (15, hkb00_718)])])
def hkb00_719 : Int × Int := (.ofNat 0, .ofNat 401)
def hkb00_720 : ai_E := [hkb00_139, hkb00_140, hkb00_3, hkb00_3, hkb00_3, hkb00_141, hkb00_142, hkb00_56, hkb00_1, hkb00_2, hkb00_1, hkb00_3, hkb00_1, hkb00_4, hkb00_1, hkb00_3, hkb00_719]
def hkb00_721 : ai_N := (.ofNat 0, .ofNat 401, [(16, .ofNat 0, .ofNat 0)])
def hkb00_722 : ai_V := .inl (false, hkb00_721)
def hkb00_723 : Bool × Option ai_C := (true, some hkb00_700)
def hkb00_724 : Bool × Option ai_C := (true, some hkb00_717)
def hkb00_725 : ai_W := [hkb00_10, hkb00_723, hkb00_124, hkb00_137, hkb00_538, hkb00_566, hkb00_124, hkb00_124, hkb00_10, hkb00_10, hkb00_10, hkb00_10, hkb00_10, hkb00_10, hkb00_10, hkb00_724, hkb00_32, hkb00_10, hkb00_10, hkb00_10, hkb00_10, hkb00_10, hkb00_10, hkb00_10, hkb00_10, hkb00_10, hkb00_10, hkb00_10, hkb00_10, hkb00_10, hkb00_10, hkb00_10, hkb00_10, hkb00_10, hkb00_10, hkb00_10, hkb00_10, hkb00_10, hkb00_10, hkb00_10, hkb00_10, hkb00_10, hkb00_10, hkb00_10, hkb00_10, hkb00_10, hkb00_10, hkb00_10, hkb00_10, hkb00_10, hkb00_10, hkb00_10, hkb00_10, hkb00_10, hkb00_10, hkb00_10, hkb00_10, hkb00_10, hkb00_10, hkb00_10, hkb00_10, hkb00_10, hkb00_10, hkb00_10, hkb00_10, hkb00_10, hkb00_10, hkb00_10, hkb00_10, hkb00_10, hkb00_10, hkb00_10, hkb00_10, hkb00_10, hkb00_10, hkb00_10]
def kbn_245 : List ai_Nd := [(34, (hkb00_720, [hkb00_6, hkb00_68, hkb00_722], [], hkb00_725), [.inl 2], [.inl 99965, .inl 1, .inr (true, .ofNat 401, 16), .inl 100000])]
set_option maxRecDepth 1000000 in
theorem kbk_245 : ai_ck [kb_244, kb_5, kb_12, kb_243, kb_239] [] kb_245 [.inl 100000, .inl 0, .inl 0, .inl 0] kbn_245 26 = true := by decide +kernel
theorem kbh_245 : ai_holds kb_245 := ai_thm kbk_245 (ai_cons kbh_244 (ai_cons kbh_5 (ai_cons kbh_12 (ai_cons kbh_243 (ai_cons kbh_239 ai_nil)))))

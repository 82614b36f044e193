/-! CONTRACTS found by wip/ai/an.py, each held by the kernel. -/
def hka06_0 : Int × Int := (.ofNat 4, .ofNat 16)
def hka06_1 : Int × Int := (.ofNat 1, .ofNat 4)
def hka06_2 : Int × Int := (.negSucc 2147483647, .ofNat 2147483647)
def hka06_3 : Int × Int := (.ofNat 0, .ofNat 60)
def hka06_4 : Int × Int := (.ofNat 0, .ofNat 5)
def hka06_5 : Int × Int := (.ofNat 0, .ofNat 4)
def hka06_6 : Int × Int := (.ofNat 0, .ofNat 128)
def hka06_7 : ai_E := [hka06_0, hka06_1, hka06_2, hka06_2, hka06_2, hka06_3, hka06_4, hka06_5, hka06_6, hka06_4, hka06_2]
def hka06_8 : ai_V := .inr (some (.ref 21))
def hka06_9 : ai_V := .inr (some (.ref 1))
def hka06_10 : ai_N := (.ofNat 2, .ofNat 2, [])
def hka06_11 : ai_V := .inl (false, hka06_10)
def hka06_12 : ai_V := .inr none
def hka06_13 : Bool × Option ai_C := (false, none)
def hka06_14 : ai_V := .inr (some (.ref 2))
def hka06_15 : ai_V := .inr (some (.ref 3))
def hka06_16 : ai_V := .inr (some (.ref 4))
def hka06_17 : ai_V := .inr (some (.ref 5))
def hka06_18 : ai_V := .inr (some (.ref 6))
def hka06_19 : ai_V := .inr (some (.ref 7))
def hka06_20 : ai_N := (.ofNat 4, .ofNat 16, [(0, .ofNat 0, .ofNat 0)])
def hka06_21 : ai_V := .inl (false, hka06_20)
def hka06_22 : ai_N := (.ofNat 1, .ofNat 4, [(1, .ofNat 0, .ofNat 0)])
def hka06_23 : ai_V := .inl (false, hka06_22)
def hka06_24 : ai_N := (.negSucc 2147483647, .ofNat 2147483647, [(2, .ofNat 0, .ofNat 0)])
def hka06_25 : ai_V := .inl (false, hka06_24)
def hka06_26 : ai_N := (.negSucc 2147483647, .ofNat 2147483647, [(3, .ofNat 0, .ofNat 0)])
def hka06_27 : ai_V := .inl (false, hka06_26)
def hka06_28 : ai_N := (.negSucc 2147483647, .ofNat 2147483647, [(4, .ofNat 0, .ofNat 0)])
def hka06_29 : ai_V := .inl (false, hka06_28)
def hka06_30 : ai_N := (.ofNat 0, .ofNat 60, [(5, .ofNat 0, .ofNat 0)])
def hka06_31 : ai_V := .inl (false, hka06_30)
def hka06_32 : ai_N := (.ofNat 0, .ofNat 5, [(6, .ofNat 0, .ofNat 0)])
def hka06_33 : ai_V := .inl (false, hka06_32)
def hka06_34 : ai_N := (.ofNat 0, .ofNat 4, [(7, .ofNat 0, .ofNat 0)])
def hka06_35 : ai_V := .inl (false, hka06_34)
def hka06_36 : ai_C := .inr (.inr (6, [hka06_14, hka06_15, hka06_16, hka06_17, hka06_18, hka06_19, hka06_21, hka06_23, hka06_25, hka06_27, hka06_29, hka06_31, hka06_33, hka06_35]))
def hka06_37 : Bool × Option ai_C := (false, some hka06_36)
def hka06_38 : ai_N := (.negSucc 2147483647, .ofNat 2147483647, [])
def hka06_39 : ai_C := .inl (.int, [(4, hka06_38)])
def hka06_40 : Bool × Option ai_C := (false, some hka06_39)
def hka06_41 : ai_C := .inl (.int, [(17, hka06_38)])
def hka06_42 : Bool × Option ai_C := (false, some hka06_41)
def hka06_43 : ai_V := .inr (some (.ref 18))
def hka06_44 : ai_V := .inr (some (.ref 19))
def hka06_45 : ai_V := .inr (some (.ref 20))
def hka06_46 : ai_N := (.ofNat 0, .ofNat 128, [(8, .ofNat 0, .ofNat 0)])
def hka06_47 : ai_V := .inl (false, hka06_46)
def hka06_48 : ai_C := .inr (.inr (0, [hka06_43, hka06_44, hka06_45, hka06_9, hka06_47]))
def hka06_49 : Bool × Option ai_C := (false, some hka06_48)
def hka06_50 : ai_N := (.ofNat 0, .ofNat 16, [])
def hka06_51 : ai_C := .inl (.int, [(128, hka06_50)])
def hka06_52 : Bool × Option ai_C := (false, some hka06_51)
def hka06_53 : ai_N := (.negSucc 0, .ofNat 127, [])
def hka06_54 : ai_C := .inl (.int, [(128, hka06_53)])
def hka06_55 : Bool × Option ai_C := (false, some hka06_54)
def hka06_56 : ai_C := .inl (.int, [(17, hka06_53)])
def hka06_57 : Bool × Option ai_C := (false, some hka06_56)
def hka06_58 : ai_V := .inr (some (.ref 17))
def hka06_59 : ai_V := .inr (some (.ref 22))
def hka06_60 : ai_V := .inr (some (.ref 23))
def hka06_61 : ai_V := .inr (some (.ref 24))
def hka06_62 : ai_V := .inr (some (.ref 25))
def hka06_63 : ai_N := (.ofNat 0, .ofNat 5, [(9, .ofNat 0, .ofNat 0)])
def hka06_64 : ai_V := .inl (false, hka06_63)
def hka06_65 : ai_N := (.negSucc 2147483647, .ofNat 2147483647, [(10, .ofNat 0, .ofNat 0)])
def hka06_66 : ai_V := .inl (false, hka06_65)
def hka06_67 : ai_C := .inr (.inr (2, [hka06_58, hka06_59, hka06_60, hka06_61, hka06_62, hka06_64, hka06_66]))
def hka06_68 : Bool × Option ai_C := (false, some hka06_67)
def hka06_69 : ai_W := [hka06_13, hka06_37, hka06_40, hka06_42, hka06_13, hka06_13, hka06_13, hka06_13, hka06_13, hka06_13, hka06_13, hka06_13, hka06_13, hka06_13, hka06_13, hka06_13, hka06_13, hka06_49, hka06_52, hka06_55, hka06_57, hka06_68, hka06_13, hka06_13, hka06_13, hka06_13, hka06_13, hka06_13, hka06_13, hka06_13, hka06_13, hka06_13, hka06_13, hka06_13, hka06_13, hka06_13, hka06_13, hka06_13, hka06_13, hka06_13, hka06_13, hka06_13, hka06_13, hka06_13, hka06_13, hka06_13, hka06_13, hka06_13, hka06_13, hka06_13, hka06_13, hka06_13, hka06_13, hka06_13, hka06_13, hka06_13, hka06_13, hka06_13, hka06_13, hka06_13, hka06_13, hka06_13, hka06_13, hka06_13, hka06_13, hka06_13, hka06_13, hka06_13, hka06_13, hka06_13, hka06_13, hka06_13, hka06_13, hka06_13, hka06_13, hka06_13]
def hka06_70 : ai_N := (.negSucc 9223372036854775807, .ofNat 9223372036854775807, [])
def hka06_71 : ai_V := .inl (true, hka06_70)
def hka06_72 : ai_N := (.ofNat 0, .ofNat 128, [(8, .negSucc 127, .ofNat 0)])
def hka06_73 : ai_V := .inl (false, hka06_72)
def hka06_74 : ai_C := .inr (.inr (0, [hka06_43, hka06_44, hka06_45, hka06_9, hka06_73]))
/-- NeverAgain$Planner.strokesFrom -/
def ka_495 : ai_K := (171, 5, (hka06_7, [hka06_8, hka06_9, hka06_11, hka06_12, hka06_12, hka06_12, hka06_12, hka06_12, hka06_12, hka06_12, hka06_12, hka06_12, hka06_12], [], hka06_69), [.inr (1, 6), .inr (1, 7), .inr (1, 8), .inr (1, 9), .inr (1, 10), .inr (1, 11), .inr (1, 12), .inr (1, 13), .inr (17, 4), .inr (21, 5), .inr (21, 6)], [(some hka06_71, hka06_7, [(17, hka06_74), (18, hka06_51), (19, hka06_54), (20, hka06_56)])])
def hka06_75 : ai_E := [hka06_0, hka06_1, hka06_2, hka06_2, hka06_2, hka06_3, hka06_4, hka06_5, hka06_6, hka06_4, hka06_2, hka06_5]
def hka06_76 : ai_N := (.ofNat 0, .ofNat 4, [(11, .ofNat 0, .ofNat 0)])
def hka06_77 : ai_V := .inl (false, hka06_76)
def hka06_78 : Bool × Option ai_C := (true, some hka06_74)
def hka06_79 : Bool × Option ai_C := (true, some hka06_51)
def hka06_80 : Bool × Option ai_C := (true, some hka06_54)
def hka06_81 : Bool × Option ai_C := (true, some hka06_56)
def hka06_82 : ai_W := [hka06_13, hka06_37, hka06_40, hka06_42, hka06_13, hka06_13, hka06_13, hka06_13, hka06_13, hka06_13, hka06_13, hka06_13, hka06_13, hka06_13, hka06_13, hka06_13, hka06_13, hka06_78, hka06_79, hka06_80, hka06_81, hka06_68, hka06_13, hka06_13, hka06_13, hka06_13, hka06_13, hka06_13, hka06_13, hka06_13, hka06_13, hka06_13, hka06_13, hka06_13, hka06_13, hka06_13, hka06_13, hka06_13, hka06_13, hka06_13, hka06_13, hka06_13, hka06_13, hka06_13, hka06_13, hka06_13, hka06_13, hka06_13, hka06_13, hka06_13, hka06_13, hka06_13, hka06_13, hka06_13, hka06_13, hka06_13, hka06_13, hka06_13, hka06_13, hka06_13, hka06_13, hka06_13, hka06_13, hka06_13, hka06_13, hka06_13, hka06_13, hka06_13, hka06_13, hka06_13, hka06_13, hka06_13, hka06_13, hka06_13, hka06_13, hka06_13]
def kan_495 : List ai_Nd := [(21, (hka06_75, [hka06_8, hka06_9, hka06_11, hka06_71, hka06_12, hka06_71, hka06_12, hka06_77, hka06_12, hka06_12, hka06_12, hka06_12, hka06_12], [], hka06_82), [.inl 7], [.inl 99978, .inl 1, .inr (true, .ofNat 4, 11), .inl 100000])]
set_option maxRecDepth 1000000 in
theorem kak_495 : ai_ck [ka_375, ka_438, ka_374, ka_395, ka_491, ka_494] [] ka_495 [.inl 100000, .inl 0, .inl 0, .inl 0] kan_495 52 = true := by decide +kernel
theorem kah_495 : ai_holds ka_495 := ai_thm kak_495 (ai_cons kah_375 (ai_cons kah_438 (ai_cons kah_374 (ai_cons kah_395 (ai_cons kah_491 (ai_cons kah_494 ai_nil))))))
def hka06_83 : ai_N := (.ofNat 3, .ofNat 3, [])
def hka06_84 : ai_V := .inl (false, hka06_83)
/-- NeverAgain$Planner.strokesFrom -/
def ka_496 : ai_K := (171, 6, (hka06_7, [hka06_8, hka06_9, hka06_84, hka06_12, hka06_12, hka06_12, hka06_12, hka06_12, hka06_12, hka06_12, hka06_12, hka06_12, hka06_12], [], hka06_69), [.inr (1, 6), .inr (1, 7), .inr (1, 8), .inr (1, 9), .inr (1, 10), .inr (1, 11), .inr (1, 12), .inr (1, 13), .inr (17, 4), .inr (21, 5), .inr (21, 6)], [(some hka06_71, hka06_7, [(17, hka06_74), (18, hka06_51), (19, hka06_54), (20, hka06_56)])])
def kan_496 : List ai_Nd := [(21, (hka06_75, [hka06_8, hka06_9, hka06_84, hka06_71, hka06_12, hka06_71, hka06_12, hka06_77, hka06_12, hka06_12, hka06_12, hka06_12, hka06_12], [], hka06_82), [.inl 7], [.inl 99978, .inl 1, .inr (true, .ofNat 4, 11), .inl 100000])]
set_option maxRecDepth 1000000 in
theorem kak_496 : ai_ck [ka_375, ka_438, ka_374, ka_395, ka_490, ka_495] [] ka_496 [.inl 100000, .inl 0, .inl 0, .inl 0] kan_496 52 = true := by decide +kernel
theorem kah_496 : ai_holds ka_496 := ai_thm kak_496 (ai_cons kah_375 (ai_cons kah_438 (ai_cons kah_374 (ai_cons kah_395 (ai_cons kah_490 (ai_cons kah_495 ai_nil))))))
def hka06_85 : ai_N := (.ofNat 4, .ofNat 4, [])
def hka06_86 : ai_V := .inl (false, hka06_85)
/-- NeverAgain$Planner.strokesFrom -/
def ka_497 : ai_K := (171, 7, (hka06_7, [hka06_8, hka06_9, hka06_86, hka06_12, hka06_12, hka06_12, hka06_12, hka06_12, hka06_12, hka06_12, hka06_12, hka06_12, hka06_12], [], hka06_69), [.inr (1, 6), .inr (1, 7), .inr (1, 8), .inr (1, 9), .inr (1, 10), .inr (1, 11), .inr (1, 12), .inr (1, 13), .inr (17, 4), .inr (21, 5), .inr (21, 6)], [(some hka06_71, hka06_7, [(17, hka06_74), (18, hka06_51), (19, hka06_54), (20, hka06_56)])])
def kan_497 : List ai_Nd := [(21, (hka06_75, [hka06_8, hka06_9, hka06_86, hka06_71, hka06_12, hka06_71, hka06_12, hka06_77, hka06_12, hka06_12, hka06_12, hka06_12, hka06_12], [], hka06_82), [.inl 7], [.inl 99978, .inl 1, .inr (true, .ofNat 4, 11), .inl 100000])]
set_option maxRecDepth 1000000 in
theorem kak_497 : ai_ck [ka_375, ka_438, ka_374, ka_395, ka_486, ka_496] [] ka_497 [.inl 100000, .inl 0, .inl 0, .inl 0] kan_497 52 = true := by decide +kernel
theorem kah_497 : ai_holds ka_497 := ai_thm kak_497 (ai_cons kah_375 (ai_cons kah_438 (ai_cons kah_374 (ai_cons kah_395 (ai_cons kah_486 (ai_cons kah_496 ai_nil))))))
/-- NeverAgain$Planner.strokesOfRows -/
def ka_498 : ai_K := (131, 8, (hka06_7, [hka06_8, hka06_9, hka06_86], [], hka06_69), [.inr (1, 6), .inr (1, 7), .inr (1, 8), .inr (1, 9), .inr (1, 10), .inr (1, 11), .inr (1, 12), .inr (1, 13), .inr (17, 4), .inr (21, 5), .inr (21, 6)], [(some hka06_71, hka06_7, [(17, hka06_74), (18, hka06_51), (19, hka06_54), (20, hka06_56)])])
def kan_498 : List ai_Nd := []
set_option maxRecDepth 1000000 in
theorem kak_498 : ai_ck [ka_497] [] ka_498 [.inl 100000] kan_498 6 = true := by decide +kernel
theorem kah_498 : ai_holds ka_498 := ai_thm kak_498 (ai_cons kah_497 ai_nil)
def hka06_87 : Int × Int := (.negSucc 9223372036854775807, .ofNat 9223372036854775807)
def hka06_88 : ai_E := [hka06_87, hka06_87]
def hka06_89 : ai_N := (.negSucc 9223372036854775807, .ofNat 9223372036854775807, [(0, .ofNat 0, .ofNat 0)])
def hka06_90 : ai_V := .inl (true, hka06_89)
def hka06_91 : ai_N := (.negSucc 9223372036854775807, .ofNat 9223372036854775807, [(1, .ofNat 0, .ofNat 0)])
def hka06_92 : ai_V := .inl (true, hka06_91)
def hka06_93 : ai_W := [hka06_13, hka06_13, hka06_13, hka06_13, hka06_13, hka06_13, hka06_13, hka06_13, hka06_13, hka06_13, hka06_13, hka06_13, hka06_13, hka06_13, hka06_13, hka06_13, hka06_13, hka06_13, hka06_13, hka06_13, hka06_13, hka06_13, hka06_13, hka06_13, hka06_13, hka06_13, hka06_13, hka06_13, hka06_13, hka06_13, hka06_13, hka06_13, hka06_13, hka06_13, hka06_13, hka06_13, hka06_13, hka06_13, hka06_13, hka06_13, hka06_13, hka06_13, hka06_13, hka06_13, hka06_13, hka06_13, hka06_13, hka06_13, hka06_13, hka06_13, hka06_13, hka06_13, hka06_13, hka06_13, hka06_13, hka06_13, hka06_13, hka06_13, hka06_13, hka06_13, hka06_13, hka06_13, hka06_13, hka06_13, hka06_13, hka06_13, hka06_13, hka06_13, hka06_13, hka06_13, hka06_13, hka06_13, hka06_13, hka06_13, hka06_13, hka06_13]
/-- NeverAgain.greatestDivisor -/
def ka_499 : ai_K := (132, 0, (hka06_88, [hka06_90, hka06_12, hka06_92, hka06_12, hka06_12, hka06_12, hka06_12, hka06_12, hka06_12, hka06_12, hka06_12], [], hka06_93), [.inl 0, .inl 2], [(some hka06_71, hka06_88, []), (some hka06_71, hka06_88, [])])
def hka06_94 : Int × Int := (.ofNat 0, .ofNat 100)
def hka06_95 : ai_E := [hka06_87, hka06_87, hka06_94]
def hka06_96 : ai_N := (.ofNat 0, .ofNat 100, [(2, .ofNat 0, .ofNat 0)])
def hka06_97 : ai_V := .inl (false, hka06_96)
def kan_499 : List ai_Nd := [(9, (hka06_95, [hka06_90, hka06_12, hka06_92, hka06_12, hka06_71, hka06_12, hka06_71, hka06_12, hka06_97, hka06_12, hka06_12], [], hka06_93), [.inl 8], [.inl 99990, .inl 1, .inr (true, .ofNat 100, 2), .inl 100000])]
set_option maxRecDepth 1000000 in
theorem kak_499 : ai_ck [] [] ka_499 [.inl 100000, .inl 0, .inl 0, .inl 0] kan_499 19 = true := by decide +kernel
theorem kah_499 : ai_holds ka_499 := ai_thm kak_499 ai_nil
/-- NeverAgain$Planner.strokesOfRows -/
def ka_500 : ai_K := (131, 7, (hka06_7, [hka06_8, hka06_9, hka06_84], [], hka06_69), [.inr (1, 6), .inr (1, 7), .inr (1, 8), .inr (1, 9), .inr (1, 10), .inr (1, 11), .inr (1, 12), .inr (1, 13), .inr (17, 4), .inr (21, 5), .inr (21, 6)], [(some hka06_71, hka06_7, [(17, hka06_74), (18, hka06_51), (19, hka06_54), (20, hka06_56)])])
def kan_500 : List ai_Nd := []
set_option maxRecDepth 1000000 in
theorem kak_500 : ai_ck [ka_496] [] ka_500 [.inl 100000] kan_500 6 = true := by decide +kernel
theorem kah_500 : ai_holds ka_500 := ai_thm kak_500 (ai_cons kah_496 ai_nil)
/-- NeverAgain$Planner.strokesOfRows -/
def ka_501 : ai_K := (131, 6, (hka06_7, [hka06_8, hka06_9, hka06_11], [], hka06_69), [.inr (1, 6), .inr (1, 7), .inr (1, 8), .inr (1, 9), .inr (1, 10), .inr (1, 11), .inr (1, 12), .inr (1, 13), .inr (17, 4), .inr (21, 5), .inr (21, 6)], [(some hka06_71, hka06_7, [(17, hka06_74), (18, hka06_51), (19, hka06_54), (20, hka06_56)])])
def kan_501 : List ai_Nd := []
set_option maxRecDepth 1000000 in
theorem kak_501 : ai_ck [ka_495] [] ka_501 [.inl 100000] kan_501 6 = true := by decide +kernel
theorem kah_501 : ai_holds ka_501 := ai_thm kak_501 (ai_cons kah_495 ai_nil)
def hka06_98 : ai_N := (.ofNat 1, .ofNat 1, [])
def hka06_99 : ai_V := .inl (false, hka06_98)
def hka06_100 : ai_N := (.ofNat 0, .ofNat 128, [(8, .negSucc 0, .ofNat 0)])
def hka06_101 : ai_V := .inl (false, hka06_100)
def hka06_102 : ai_C := .inr (.inr (0, [hka06_43, hka06_44, hka06_45, hka06_9, hka06_101]))
/-- NeverAgain$Planner.strokesOfRows -/
def ka_502 : ai_K := (131, 5, (hka06_7, [hka06_8, hka06_9, hka06_99], [], hka06_69), [.inr (1, 6), .inr (1, 7), .inr (1, 8), .inr (1, 9), .inr (1, 10), .inr (1, 11), .inr (1, 12), .inr (1, 13), .inr (17, 4), .inr (21, 5), .inr (21, 6)], [(some hka06_71, hka06_7, [(17, hka06_102), (18, hka06_51), (19, hka06_54), (20, hka06_56)])])
def kan_502 : List ai_Nd := []
set_option maxRecDepth 1000000 in
theorem kak_502 : ai_ck [ka_494] [] ka_502 [.inl 100000] kan_502 6 = true := by decide +kernel
theorem kah_502 : ai_holds ka_502 := ai_thm kak_502 (ai_cons kah_494 ai_nil)
def hka06_103 : Int × Int := (.ofNat 0, .ofNat 12)
def hka06_104 : Int × Int := (.ofNat 0, .ofNat 6)
def hka06_105 : ai_E := [hka06_2, hka06_2, hka06_103, hka06_104, hka06_5, hka06_0, hka06_1, hka06_2, hka06_2, hka06_2, hka06_3, hka06_4, hka06_5, hka06_6, hka06_4, hka06_2]
def hka06_106 : ai_V := .inr (some (.ref 0))
def hka06_107 : ai_N := (.negSucc 2147483647, .ofNat 2147483647, [(0, .ofNat 0, .ofNat 0)])
def hka06_108 : ai_V := .inl (false, hka06_107)
def hka06_109 : ai_N := (.negSucc 2147483647, .ofNat 2147483647, [(1, .ofNat 0, .ofNat 0)])
def hka06_110 : ai_V := .inl (false, hka06_109)
def hka06_111 : ai_V := .inr (some (.ref 15))
def hka06_112 : ai_V := .inr (some (.ref 26))
def hka06_113 : ai_V := .inr (some (.ref 32))
def hka06_114 : ai_V := .inr (some (.ref 35))
def hka06_115 : ai_V := .inr (some (.ref 34))
def hka06_116 : ai_V := .inr (some (.ref 50))
def hka06_117 : ai_V := .inr (some (.ref 33))
def hka06_118 : ai_V := .inr (some (.ref 8))
def hka06_119 : ai_N := (.ofNat 0, .ofNat 12, [(2, .ofNat 0, .ofNat 0)])
def hka06_120 : ai_V := .inl (false, hka06_119)
def hka06_121 : ai_N := (.ofNat 0, .ofNat 6, [(3, .ofNat 0, .ofNat 0)])
def hka06_122 : ai_V := .inl (false, hka06_121)
def hka06_123 : ai_N := (.ofNat 0, .ofNat 4, [(4, .ofNat 0, .ofNat 0)])
def hka06_124 : ai_V := .inl (false, hka06_123)
def hka06_125 : ai_C := .inr (.inr (7, [hka06_111, hka06_58, hka06_8, hka06_112, hka06_113, hka06_114, hka06_115, hka06_116, hka06_117, hka06_9, hka06_118, hka06_120, hka06_122, hka06_124]))
def hka06_126 : Bool × Option ai_C := (false, some hka06_125)
def hka06_127 : ai_N := (.ofNat 4, .ofNat 16, [(5, .ofNat 0, .ofNat 0)])
def hka06_128 : ai_V := .inl (false, hka06_127)
def hka06_129 : ai_N := (.ofNat 1, .ofNat 4, [(6, .ofNat 0, .ofNat 0)])
def hka06_130 : ai_V := .inl (false, hka06_129)
def hka06_131 : ai_N := (.negSucc 2147483647, .ofNat 2147483647, [(7, .ofNat 0, .ofNat 0)])
def hka06_132 : ai_V := .inl (false, hka06_131)
def hka06_133 : ai_N := (.negSucc 2147483647, .ofNat 2147483647, [(8, .ofNat 0, .ofNat 0)])
def hka06_134 : ai_V := .inl (false, hka06_133)
def hka06_135 : ai_N := (.negSucc 2147483647, .ofNat 2147483647, [(9, .ofNat 0, .ofNat 0)])
def hka06_136 : ai_V := .inl (false, hka06_135)
def hka06_137 : ai_N := (.ofNat 0, .ofNat 60, [(10, .ofNat 0, .ofNat 0)])
def hka06_138 : ai_V := .inl (false, hka06_137)
def hka06_139 : ai_N := (.ofNat 0, .ofNat 5, [(11, .ofNat 0, .ofNat 0)])
def hka06_140 : ai_V := .inl (false, hka06_139)
def hka06_141 : ai_N := (.ofNat 0, .ofNat 4, [(12, .ofNat 0, .ofNat 0)])
def hka06_142 : ai_V := .inl (false, hka06_141)
def hka06_143 : ai_C := .inr (.inr (6, [hka06_14, hka06_15, hka06_16, hka06_17, hka06_18, hka06_19, hka06_128, hka06_130, hka06_132, hka06_134, hka06_136, hka06_138, hka06_140, hka06_142]))
def hka06_144 : Bool × Option ai_C := (false, some hka06_143)
def hka06_145 : ai_C := .inl (.int, [(60, hka06_38)])
def hka06_146 : Bool × Option ai_C := (false, some hka06_145)
def hka06_147 : ai_N := (.ofNat 0, .ofNat 128, [(13, .ofNat 0, .ofNat 0)])
def hka06_148 : ai_V := .inl (false, hka06_147)
def hka06_149 : ai_C := .inr (.inr (0, [hka06_43, hka06_44, hka06_45, hka06_12, hka06_148]))
def hka06_150 : Bool × Option ai_C := (false, some hka06_149)
def hka06_151 : ai_N := (.ofNat 0, .ofNat 5, [(14, .ofNat 0, .ofNat 0)])
def hka06_152 : ai_V := .inl (false, hka06_151)
def hka06_153 : ai_N := (.negSucc 2147483647, .ofNat 2147483647, [(15, .ofNat 0, .ofNat 0)])
def hka06_154 : ai_V := .inl (false, hka06_153)
def hka06_155 : ai_C := .inr (.inr (2, [hka06_58, hka06_59, hka06_60, hka06_61, hka06_62, hka06_152, hka06_154]))
def hka06_156 : Bool × Option ai_C := (false, some hka06_155)
def hka06_157 : ai_W := [hka06_126, hka06_144, hka06_40, hka06_42, hka06_146, hka06_13, hka06_13, hka06_13, hka06_13, hka06_13, hka06_13, hka06_13, hka06_13, hka06_13, hka06_13, hka06_13, hka06_13, hka06_150, hka06_52, hka06_55, hka06_57, hka06_156, hka06_13, hka06_13, hka06_13, hka06_13, hka06_13, hka06_13, hka06_13, hka06_13, hka06_13, hka06_13, hka06_13, hka06_13, hka06_13, hka06_13, hka06_13, hka06_13, hka06_13, hka06_13, hka06_13, hka06_13, hka06_13, hka06_13, hka06_13, hka06_13, hka06_13, hka06_13, hka06_13, hka06_13, hka06_13, hka06_13, hka06_13, hka06_13, hka06_13, hka06_13, hka06_13, hka06_13, hka06_13, hka06_13, hka06_13, hka06_13, hka06_13, hka06_13, hka06_13, hka06_13, hka06_13, hka06_13, hka06_13, hka06_13, hka06_13, hka06_13, hka06_13, hka06_13, hka06_13, hka06_13]
def hka06_158 : ai_N := (.negSucc 0, .negSucc 0, [])
def hka06_159 : ai_V := .inl (true, hka06_158)
def hka06_160 : Int × Int := (.ofNat 0, .ofNat 1)
def hka06_161 : ai_E := [hka06_1, hka06_160, hka06_103, hka06_104, hka06_5, hka06_0, hka06_1, hka06_2, hka06_2, hka06_2, hka06_3, hka06_4, hka06_5, hka06_6, hka06_4, hka06_2]
def hka06_162 : ai_N := (.ofNat 0, .ofNat 128, [])
def hka06_163 : ai_V := .inl (false, hka06_162)
def hka06_164 : ai_C := .inr (.inr (0, [hka06_43, hka06_44, hka06_45, hka06_9, hka06_163]))
/-- NeverAgain.mean -/
def ka_503 : ai_K := (55, 9, (hka06_105, [hka06_106, hka06_108, hka06_110, hka06_12, hka06_12, hka06_12, hka06_12, hka06_12, hka06_12], [], hka06_157), [.inl 1, .inl 2, .inr (0, 11), .inr (0, 12), .inr (0, 13), .inr (1, 6), .inr (1, 7), .inr (1, 8), .inr (1, 9), .inr (1, 10), .inr (1, 11), .inr (1, 12), .inr (1, 13), .inr (17, 4), .inr (21, 5), .inr (21, 6)], [(some hka06_159, hka06_105, []), (some hka06_71, hka06_161, [(17, hka06_164), (18, hka06_51), (19, hka06_54), (20, hka06_56)]), (some hka06_159, hka06_161, [(17, hka06_164), (18, hka06_51), (19, hka06_54), (20, hka06_56)])])
def kan_503 : List ai_Nd := []
set_option maxRecDepth 1000000 in
theorem kak_503 : ai_ck [ka_498, ka_500, ka_501, ka_502, ka_376, ka_485, ka_486, ka_490, ka_491, ka_499] [(0, .inl 1, [.ofNat 1, .ofNat 2, .ofNat 3, .ofNat 4, .ofNat 5])] ka_503 [.inl 100000] kan_503 47 = true := by decide +kernel
theorem kah_503 : ai_holds ka_503 := ai_thm kak_503 (ai_cons kah_498 (ai_cons kah_500 (ai_cons kah_501 (ai_cons kah_502 (ai_cons kah_376 (ai_cons kah_485 (ai_cons kah_486 (ai_cons kah_490 (ai_cons kah_491 (ai_cons kah_499 ai_nil))))))))))
def hka06_165 : Int × Int := (.ofNat 5, .ofNat 2147483647)
def hka06_166 : ai_N := (.ofNat 5, .ofNat 2147483647, [(0, .ofNat 0, .ofNat 0)])
def hka06_167 : ai_V := .inl (true, hka06_166)
def hka06_168 : ai_V := .inl (true, hka06_98)
def hka06_169 : ai_V := .inl (true, hka06_85)
def hka06_170 : ai_N := (.ofNat 0, .ofNat 0, [])
def hka06_171 : ai_V := .inl (false, hka06_170)
/-- NeverAgainModel.in -/
def ka_504 : ai_K := (93, 0, ([hka06_165], [hka06_167, hka06_12, hka06_168, hka06_12, hka06_169, hka06_12], [], hka06_93), [.inl 0], [(some hka06_171, [hka06_165], [])])
def kan_504 : List ai_Nd := []
set_option maxRecDepth 1000000 in
theorem kak_504 : ai_ck [] [] ka_504 [.inl 100000] kan_504 11 = true := by decide +kernel
theorem kah_504 : ai_holds ka_504 := ai_thm kak_504 ai_nil
/-- NeverAgainModel.in -/
def ka_505 : ai_K := (93, 0, ([], [hka06_169, hka06_12, hka06_168, hka06_12, hka06_169, hka06_12], [], hka06_93), [], [(some hka06_99, [], [])])
def kan_505 : List ai_Nd := []
set_option maxRecDepth 1000000 in
theorem kak_505 : ai_ck [] [] ka_505 [.inl 100000] kan_505 12 = true := by decide +kernel
theorem kah_505 : ai_holds ka_505 := ai_thm kak_505 ai_nil
def hka06_172 : ai_V := .inl (true, hka06_83)
/-- NeverAgainModel.in -/
def ka_506 : ai_K := (93, 0, ([], [hka06_172, hka06_12, hka06_168, hka06_12, hka06_169, hka06_12], [], hka06_93), [], [(some hka06_99, [], [])])
def kan_506 : List ai_Nd := []
set_option maxRecDepth 1000000 in
theorem kak_506 : ai_ck [] [] ka_506 [.inl 100000] kan_506 12 = true := by decide +kernel
theorem kah_506 : ai_holds ka_506 := ai_thm kak_506 ai_nil
def hka06_173 : ai_V := .inl (true, hka06_10)
/-- NeverAgainModel.in -/
def ka_507 : ai_K := (93, 0, ([], [hka06_173, hka06_12, hka06_168, hka06_12, hka06_169, hka06_12], [], hka06_93), [], [(some hka06_99, [], [])])
def kan_507 : List ai_Nd := []
set_option maxRecDepth 1000000 in
theorem kak_507 : ai_ck [] [] ka_507 [.inl 100000] kan_507 12 = true := by decide +kernel
theorem kah_507 : ai_holds ka_507 := ai_thm kak_507 ai_nil
/-- NeverAgainModel.in -/
def ka_508 : ai_K := (93, 0, ([], [hka06_168, hka06_12, hka06_168, hka06_12, hka06_169, hka06_12], [], hka06_93), [], [(some hka06_99, [], [])])
def kan_508 : List ai_Nd := []
set_option maxRecDepth 1000000 in
theorem kak_508 : ai_ck [] [] ka_508 [.inl 100000] kan_508 12 = true := by decide +kernel
theorem kah_508 : ai_holds ka_508 := ai_thm kak_508 ai_nil
def hka06_174 : Int × Int := (.negSucc 2147483647, .ofNat 0)
def hka06_175 : ai_N := (.negSucc 2147483647, .ofNat 0, [(0, .ofNat 0, .ofNat 0)])
def hka06_176 : ai_V := .inl (true, hka06_175)
/-- NeverAgainModel.in -/
def ka_509 : ai_K := (93, 0, ([hka06_174], [hka06_176, hka06_12, hka06_168, hka06_12, hka06_169, hka06_12], [], hka06_93), [.inl 0], [(some hka06_171, [hka06_174], [])])
def kan_509 : List ai_Nd := []
set_option maxRecDepth 1000000 in
theorem kak_509 : ai_ck [] [] ka_509 [.inl 100000] kan_509 7 = true := by decide +kernel
theorem kah_509 : ai_holds ka_509 := ai_thm kak_509 ai_nil
def hka06_177 : Int × Int := (.negSucc 3, .ofNat 16)
def hka06_178 : Int × Int := (.ofNat 0, .ofNat 16)
def hka06_179 : Int × Int := (.negSucc 3, .ofNat 3)
def hka06_180 : Int × Int := (.ofNat 0, .ofNat 400)
def hka06_181 : Int × Int := (.ofNat 0, .ofNat 3)
def hka06_182 : Int × Int := (.ofNat 1, .ofNat 61)
def hka06_183 : ai_E := [hka06_177, hka06_0, hka06_1, hka06_103, hka06_178, hka06_5, hka06_2, hka06_178, hka06_179, hka06_180, hka06_180, hka06_180, hka06_181, hka06_2, hka06_104, hka06_180, hka06_182, hka06_2, hka06_5]
def hka06_184 : ai_V := .inr (some (.ref 59))
def hka06_185 : ai_N := (.negSucc 3, .ofNat 16, [(0, .ofNat 0, .ofNat 0)])
def hka06_186 : ai_V := .inl (false, hka06_185)
def hka06_187 : ai_V := .inr (some (.ref 60))
def hka06_188 : ai_V := .inr (some (.ref 61))
def hka06_189 : ai_N := (.ofNat 4, .ofNat 16, [(1, .ofNat 0, .ofNat 0)])
def hka06_190 : ai_V := .inl (false, hka06_189)
def hka06_191 : ai_N := (.ofNat 1, .ofNat 4, [(2, .ofNat 0, .ofNat 0)])
def hka06_192 : ai_V := .inl (false, hka06_191)
def hka06_193 : ai_V := .inr (some (.ref 62))
def hka06_194 : ai_V := .inr (some (.ref 63))
def hka06_195 : ai_N := (.ofNat 0, .ofNat 12, [(3, .ofNat 0, .ofNat 0)])
def hka06_196 : ai_V := .inl (false, hka06_195)
def hka06_197 : ai_V := .inr (some (.ref 64))
def hka06_198 : ai_N := (.ofNat 0, .ofNat 16, [(4, .ofNat 0, .ofNat 0)])
def hka06_199 : ai_V := .inl (false, hka06_198)
def hka06_200 : ai_N := (.ofNat 0, .ofNat 4, [(5, .ofNat 0, .ofNat 0)])
def hka06_201 : ai_V := .inl (false, hka06_200)
def hka06_202 : ai_V := .inr (some (.ref 65))
def hka06_203 : ai_N := (.negSucc 2147483647, .ofNat 2147483647, [(6, .ofNat 0, .ofNat 0)])
def hka06_204 : ai_V := .inl (false, hka06_203)
def hka06_205 : ai_N := (.ofNat 0, .ofNat 16, [(7, .ofNat 0, .ofNat 0)])
def hka06_206 : ai_V := .inl (false, hka06_205)
def hka06_207 : ai_N := (.negSucc 3, .ofNat 3, [(8, .ofNat 0, .ofNat 0)])
def hka06_208 : ai_V := .inl (false, hka06_207)
def hka06_209 : ai_V := .inr (some (.ref 66))
def hka06_210 : ai_N := (.ofNat 0, .ofNat 400, [(9, .ofNat 0, .ofNat 0)])
def hka06_211 : ai_V := .inl (false, hka06_210)
def hka06_212 : ai_N := (.ofNat 0, .ofNat 400, [(10, .ofNat 0, .ofNat 0)])
def hka06_213 : ai_V := .inl (false, hka06_212)
def hka06_214 : ai_N := (.ofNat 0, .ofNat 400, [(11, .ofNat 0, .ofNat 0)])
def hka06_215 : ai_V := .inl (false, hka06_214)
def hka06_216 : ai_N := (.ofNat 0, .ofNat 3, [(12, .ofNat 0, .ofNat 0)])
def hka06_217 : ai_V := .inl (false, hka06_216)
def hka06_218 : ai_N := (.negSucc 2147483647, .ofNat 2147483647, [(13, .ofNat 0, .ofNat 0)])
def hka06_219 : ai_V := .inl (false, hka06_218)
def hka06_220 : ai_N := (.ofNat 0, .ofNat 6, [(14, .ofNat 0, .ofNat 0)])
def hka06_221 : ai_V := .inl (false, hka06_220)
def hka06_222 : ai_N := (.ofNat 0, .ofNat 400, [(15, .ofNat 0, .ofNat 0)])
def hka06_223 : ai_V := .inl (false, hka06_222)
def hka06_224 : ai_V := .inr (some (.ref 67))
def hka06_225 : ai_N := (.ofNat 1, .ofNat 61, [(16, .ofNat 0, .ofNat 0)])
def hka06_226 : ai_V := .inl (false, hka06_225)
def hka06_227 : ai_V := .inr (some (.ref 68))
def hka06_228 : ai_V := .inr (some (.ref 69))
def hka06_229 : ai_N := (.negSucc 2147483647, .ofNat 2147483647, [(17, .ofNat 0, .ofNat 0)])
def hka06_230 : ai_V := .inl (false, hka06_229)
def hka06_231 : ai_V := .inr (some (.ref 70))
def hka06_232 : ai_V := .inr (some (.ref 71))
def hka06_233 : ai_V := .inr (some (.ref 72))
def hka06_234 : ai_V := .inr (some (.ref 73))
def hka06_235 : ai_V := .inr (some (.ref 74))
def hka06_236 : ai_V := .inr (some (.ref 75))
def hka06_237 : ai_N := (.ofNat 0, .ofNat 4, [(18, .ofNat 0, .ofNat 0)])
def hka06_238 : ai_V := .inl (false, hka06_237)
def hka06_239 : ai_C := .inr (.inr (8, [hka06_187, hka06_188, hka06_190, hka06_192, hka06_193, hka06_194, hka06_196, hka06_197, hka06_199, hka06_201, hka06_202, hka06_204, hka06_206, hka06_208, hka06_209, hka06_211, hka06_213, hka06_215, hka06_217, hka06_219, hka06_221, hka06_223, hka06_224, hka06_226, hka06_227, hka06_228, hka06_230, hka06_231, hka06_232, hka06_233, hka06_234, hka06_235, hka06_236, hka06_238]))
def hka06_240 : Bool × Option ai_C := (false, some hka06_239)
def hka06_241 : ai_N := (.negSucc 3, .ofNat 16, [])
def hka06_242 : ai_C := .inl (.int, [(130, hka06_241)])
def hka06_243 : Bool × Option ai_C := (false, some hka06_242)
def hka06_244 : ai_W := [hka06_13, hka06_13, hka06_13, hka06_13, hka06_13, hka06_13, hka06_13, hka06_13, hka06_13, hka06_13, hka06_13, hka06_13, hka06_13, hka06_13, hka06_13, hka06_13, hka06_13, hka06_13, hka06_13, hka06_13, hka06_13, hka06_13, hka06_13, hka06_13, hka06_13, hka06_13, hka06_13, hka06_13, hka06_13, hka06_13, hka06_13, hka06_13, hka06_13, hka06_13, hka06_13, hka06_13, hka06_13, hka06_13, hka06_13, hka06_13, hka06_13, hka06_13, hka06_13, hka06_13, hka06_13, hka06_13, hka06_13, hka06_13, hka06_13, hka06_13, hka06_13, hka06_13, hka06_13, hka06_13, hka06_13, hka06_13, hka06_13, hka06_13, hka06_13, hka06_240, hka06_13, hka06_13, hka06_13, hka06_13, hka06_13, hka06_13, hka06_13, hka06_243, hka06_13, hka06_13, hka06_13, hka06_13, hka06_13, hka06_13, hka06_13, hka06_13]
def hka06_245 : ai_N := (.ofNat 2, .ofNat 62, [(16, .ofNat 1, .ofNat 1)])
def hka06_246 : ai_V := .inl (false, hka06_245)
def hka06_247 : ai_C := .inr (.inr (8, [hka06_187, hka06_188, hka06_190, hka06_192, hka06_193, hka06_194, hka06_196, hka06_197, hka06_199, hka06_201, hka06_202, hka06_204, hka06_206, hka06_208, hka06_209, hka06_211, hka06_213, hka06_215, hka06_217, hka06_219, hka06_221, hka06_223, hka06_224, hka06_246, hka06_227, hka06_228, hka06_230, hka06_231, hka06_232, hka06_233, hka06_234, hka06_235, hka06_236, hka06_238]))
/-- NeverAgainModel.adds -/
def ka_510 : ai_K := (116, 0, (hka06_183, [hka06_184, hka06_186], [], hka06_244), [.inl 1, .inr (59, 2), .inr (59, 3), .inr (59, 6), .inr (59, 8), .inr (59, 9), .inr (59, 11), .inr (59, 12), .inr (59, 13), .inr (59, 15), .inr (59, 16), .inr (59, 17), .inr (59, 18), .inr (59, 19), .inr (59, 20), .inr (59, 21), .inr (59, 23), .inr (59, 26), .inr (59, 33)], [(none, hka06_183, [(59, hka06_247), (67, hka06_242)])])
def kan_510 : List ai_Nd := []
set_option maxRecDepth 1000000 in
theorem kak_510 : ai_ck [] [] ka_510 [.inl 100000] kan_510 14 = true := by decide +kernel
theorem kah_510 : ai_holds ka_510 := ai_thm kak_510 ai_nil
def ka_511 : ai_K := cm_K
theorem kah_511 : ai_holds ka_511 := cm_holds
def hka06_248 : Int × Int := (.ofNat 2, .ofNat 62)
def hka06_249 : ai_E := [hka06_177, hka06_0, hka06_1, hka06_103, hka06_178, hka06_5, hka06_2, hka06_178, hka06_179, hka06_180, hka06_180, hka06_180, hka06_181, hka06_2, hka06_104, hka06_180, hka06_248, hka06_2, hka06_5]
def hka06_250 : ai_N := (.ofNat 2, .ofNat 62, [(16, .ofNat 0, .ofNat 0)])
def hka06_251 : ai_V := .inl (false, hka06_250)
def hka06_252 : ai_C := .inr (.inr (8, [hka06_187, hka06_188, hka06_190, hka06_192, hka06_193, hka06_194, hka06_196, hka06_197, hka06_199, hka06_201, hka06_202, hka06_204, hka06_206, hka06_208, hka06_209, hka06_211, hka06_213, hka06_215, hka06_217, hka06_219, hka06_221, hka06_223, hka06_224, hka06_251, hka06_227, hka06_228, hka06_230, hka06_231, hka06_232, hka06_233, hka06_234, hka06_235, hka06_236, hka06_238]))
def hka06_253 : Bool × Option ai_C := (false, some hka06_252)
def hka06_254 : ai_W := [hka06_13, hka06_13, hka06_13, hka06_13, hka06_13, hka06_13, hka06_13, hka06_13, hka06_13, hka06_13, hka06_13, hka06_13, hka06_13, hka06_13, hka06_13, hka06_13, hka06_13, hka06_13, hka06_13, hka06_13, hka06_13, hka06_13, hka06_13, hka06_13, hka06_13, hka06_13, hka06_13, hka06_13, hka06_13, hka06_13, hka06_13, hka06_13, hka06_13, hka06_13, hka06_13, hka06_13, hka06_13, hka06_13, hka06_13, hka06_13, hka06_13, hka06_13, hka06_13, hka06_13, hka06_13, hka06_13, hka06_13, hka06_13, hka06_13, hka06_13, hka06_13, hka06_13, hka06_13, hka06_13, hka06_13, hka06_13, hka06_13, hka06_13, hka06_13, hka06_253, hka06_13, hka06_13, hka06_13, hka06_13, hka06_13, hka06_13, hka06_13, hka06_243, hka06_13, hka06_13, hka06_13, hka06_13, hka06_13, hka06_13, hka06_13, hka06_13]
def hka06_255 : ai_N := (.ofNat 3, .ofNat 63, [(16, .ofNat 1, .ofNat 1)])
def hka06_256 : ai_V := .inl (false, hka06_255)
def hka06_257 : ai_C := .inr (.inr (8, [hka06_187, hka06_188, hka06_190, hka06_192, hka06_193, hka06_194, hka06_196, hka06_197, hka06_199, hka06_201, hka06_202, hka06_204, hka06_206, hka06_208, hka06_209, hka06_211, hka06_213, hka06_215, hka06_217, hka06_219, hka06_221, hka06_223, hka06_224, hka06_256, hka06_227, hka06_228, hka06_230, hka06_231, hka06_232, hka06_233, hka06_234, hka06_235, hka06_236, hka06_238]))
/-- NeverAgainModel.adds -/
def ka_512 : ai_K := (116, 0, (hka06_249, [hka06_184, hka06_186], [], hka06_254), [.inl 1, .inr (59, 2), .inr (59, 3), .inr (59, 6), .inr (59, 8), .inr (59, 9), .inr (59, 11), .inr (59, 12), .inr (59, 13), .inr (59, 15), .inr (59, 16), .inr (59, 17), .inr (59, 18), .inr (59, 19), .inr (59, 20), .inr (59, 21), .inr (59, 23), .inr (59, 26), .inr (59, 33)], [(none, hka06_249, [(59, hka06_257), (67, hka06_242)])])
def kan_512 : List ai_Nd := []
set_option maxRecDepth 1000000 in
theorem kak_512 : ai_ck [] [] ka_512 [.inl 100000] kan_512 14 = true := by decide +kernel
theorem kah_512 : ai_holds ka_512 := ai_thm kak_512 ai_nil
def hka06_258 : Int × Int := (.ofNat 3, .ofNat 63)
def hka06_259 : ai_E := [hka06_177, hka06_0, hka06_1, hka06_103, hka06_178, hka06_5, hka06_2, hka06_178, hka06_179, hka06_180, hka06_180, hka06_180, hka06_181, hka06_2, hka06_104, hka06_180, hka06_258, hka06_2, hka06_5]
def hka06_260 : ai_N := (.ofNat 3, .ofNat 63, [(16, .ofNat 0, .ofNat 0)])
def hka06_261 : ai_V := .inl (false, hka06_260)
def hka06_262 : ai_C := .inr (.inr (8, [hka06_187, hka06_188, hka06_190, hka06_192, hka06_193, hka06_194, hka06_196, hka06_197, hka06_199, hka06_201, hka06_202, hka06_204, hka06_206, hka06_208, hka06_209, hka06_211, hka06_213, hka06_215, hka06_217, hka06_219, hka06_221, hka06_223, hka06_224, hka06_261, hka06_227, hka06_228, hka06_230, hka06_231, hka06_232, hka06_233, hka06_234, hka06_235, hka06_236, hka06_238]))
def hka06_263 : Bool × Option ai_C := (false, some hka06_262)
def hka06_264 : ai_W := [hka06_13, hka06_13, hka06_13, hka06_13, hka06_13, hka06_13, hka06_13, hka06_13, hka06_13, hka06_13, hka06_13, hka06_13, hka06_13, hka06_13, hka06_13, hka06_13, hka06_13, hka06_13, hka06_13, hka06_13, hka06_13, hka06_13, hka06_13, hka06_13, hka06_13, hka06_13, hka06_13, hka06_13, hka06_13, hka06_13, hka06_13, hka06_13, hka06_13, hka06_13, hka06_13, hka06_13, hka06_13, hka06_13, hka06_13, hka06_13, hka06_13, hka06_13, hka06_13, hka06_13, hka06_13, hka06_13, hka06_13, hka06_13, hka06_13, hka06_13, hka06_13, hka06_13, hka06_13, hka06_13, hka06_13, hka06_13, hka06_13, hka06_13, hka06_13, hka06_263, hka06_13, hka06_13, hka06_13, hka06_13, hka06_13, hka06_13, hka06_13, hka06_243, hka06_13, hka06_13, hka06_13, hka06_13, hka06_13, hka06_13, hka06_13, hka06_13]
def hka06_265 : ai_N := (.ofNat 4, .ofNat 64, [(16, .ofNat 1, .ofNat 1)])
def hka06_266 : ai_V := .inl (false, hka06_265)
def hka06_267 : ai_C := .inr (.inr (8, [hka06_187, hka06_188, hka06_190, hka06_192, hka06_193, hka06_194, hka06_196, hka06_197, hka06_199, hka06_201, hka06_202, hka06_204, hka06_206, hka06_208, hka06_209, hka06_211, hka06_213, hka06_215, hka06_217, hka06_219, hka06_221, hka06_223, hka06_224, hka06_266, hka06_227, hka06_228, hka06_230, hka06_231, hka06_232, hka06_233, hka06_234, hka06_235, hka06_236, hka06_238]))
/-- NeverAgainModel.adds -/
def ka_513 : ai_K := (116, 0, (hka06_259, [hka06_184, hka06_186], [], hka06_264), [.inl 1, .inr (59, 2), .inr (59, 3), .inr (59, 6), .inr (59, 8), .inr (59, 9), .inr (59, 11), .inr (59, 12), .inr (59, 13), .inr (59, 15), .inr (59, 16), .inr (59, 17), .inr (59, 18), .inr (59, 19), .inr (59, 20), .inr (59, 21), .inr (59, 23), .inr (59, 26), .inr (59, 33)], [(none, hka06_259, [(59, hka06_267), (67, hka06_242)])])
def kan_513 : List ai_Nd := []
set_option maxRecDepth 1000000 in
theorem kak_513 : ai_ck [] [] ka_513 [.inl 100000] kan_513 14 = true := by decide +kernel
theorem kah_513 : ai_holds ka_513 := ai_thm kak_513 ai_nil
def hka06_268 : Int × Int := (.ofNat 0, .ofNat 130)
def hka06_269 : Int × Int := (.ofNat 0, .ofNat 20)
def hka06_270 : Int × Int := (.negSucc 3, .ofNat 2)
def hka06_271 : ai_E := [hka06_2, hka06_2, hka06_0, hka06_1, hka06_103, hka06_178, hka06_5, hka06_2, hka06_178, hka06_179, hka06_180, hka06_180, hka06_180, hka06_181, hka06_2, hka06_104, hka06_180, hka06_268, hka06_2, hka06_5, hka06_3, hka06_269, hka06_160, hka06_270, hka06_4, hka06_5, hka06_3, hka06_269, hka06_160, hka06_270, hka06_4, hka06_5, hka06_3, hka06_269, hka06_160, hka06_270, hka06_4, hka06_5]
def hka06_272 : ai_N := (.ofNat 4, .ofNat 16, [(2, .ofNat 0, .ofNat 0)])
def hka06_273 : ai_V := .inl (false, hka06_272)
def hka06_274 : ai_N := (.ofNat 1, .ofNat 4, [(3, .ofNat 0, .ofNat 0)])
def hka06_275 : ai_V := .inl (false, hka06_274)
def hka06_276 : ai_N := (.ofNat 0, .ofNat 12, [(4, .ofNat 0, .ofNat 0)])
def hka06_277 : ai_V := .inl (false, hka06_276)
def hka06_278 : ai_N := (.ofNat 0, .ofNat 16, [(5, .ofNat 0, .ofNat 0)])
def hka06_279 : ai_V := .inl (false, hka06_278)
def hka06_280 : ai_N := (.ofNat 0, .ofNat 4, [(6, .ofNat 0, .ofNat 0)])
def hka06_281 : ai_V := .inl (false, hka06_280)
def hka06_282 : ai_N := (.ofNat 0, .ofNat 16, [(8, .ofNat 0, .ofNat 0)])
def hka06_283 : ai_V := .inl (false, hka06_282)
def hka06_284 : ai_N := (.negSucc 3, .ofNat 3, [(9, .ofNat 0, .ofNat 0)])
def hka06_285 : ai_V := .inl (false, hka06_284)
def hka06_286 : ai_N := (.ofNat 0, .ofNat 400, [(12, .ofNat 0, .ofNat 0)])
def hka06_287 : ai_V := .inl (false, hka06_286)
def hka06_288 : ai_N := (.ofNat 0, .ofNat 3, [(13, .ofNat 0, .ofNat 0)])
def hka06_289 : ai_V := .inl (false, hka06_288)
def hka06_290 : ai_N := (.negSucc 2147483647, .ofNat 2147483647, [(14, .ofNat 0, .ofNat 0)])
def hka06_291 : ai_V := .inl (false, hka06_290)
def hka06_292 : ai_N := (.ofNat 0, .ofNat 6, [(15, .ofNat 0, .ofNat 0)])
def hka06_293 : ai_V := .inl (false, hka06_292)
def hka06_294 : ai_N := (.ofNat 0, .ofNat 400, [(16, .ofNat 0, .ofNat 0)])
def hka06_295 : ai_V := .inl (false, hka06_294)
def hka06_296 : ai_N := (.ofNat 0, .ofNat 130, [(17, .ofNat 0, .ofNat 0)])
def hka06_297 : ai_V := .inl (false, hka06_296)
def hka06_298 : ai_N := (.negSucc 2147483647, .ofNat 2147483647, [(18, .ofNat 0, .ofNat 0)])
def hka06_299 : ai_V := .inl (false, hka06_298)
def hka06_300 : ai_N := (.ofNat 0, .ofNat 4, [(19, .ofNat 0, .ofNat 0)])
def hka06_301 : ai_V := .inl (false, hka06_300)
def hka06_302 : ai_C := .inr (.inr (8, [hka06_187, hka06_188, hka06_273, hka06_275, hka06_193, hka06_194, hka06_277, hka06_197, hka06_279, hka06_281, hka06_202, hka06_132, hka06_283, hka06_285, hka06_209, hka06_213, hka06_215, hka06_287, hka06_289, hka06_291, hka06_293, hka06_295, hka06_224, hka06_297, hka06_227, hka06_228, hka06_299, hka06_231, hka06_232, hka06_233, hka06_234, hka06_235, hka06_236, hka06_301]))
def hka06_303 : Bool × Option ai_C := (false, some hka06_302)
def hka06_304 : ai_N := (.ofNat 0, .ofNat 60, [(20, .ofNat 0, .ofNat 0)])
def hka06_305 : ai_N := (.negSucc 3, .ofNat 3, [])
def hka06_306 : ai_N := (.ofNat 0, .ofNat 20, [(21, .ofNat 0, .ofNat 0)])
def hka06_307 : ai_N := (.ofNat 0, .ofNat 1, [(22, .ofNat 0, .ofNat 0)])
def hka06_308 : ai_N := (.negSucc 3, .ofNat 2, [(23, .ofNat 0, .ofNat 0)])
def hka06_309 : ai_N := (.ofNat 0, .ofNat 5, [(24, .ofNat 0, .ofNat 0)])
def hka06_310 : ai_N := (.ofNat 0, .ofNat 3, [])
def hka06_311 : ai_N := (.ofNat 0, .ofNat 4, [(25, .ofNat 0, .ofNat 0)])
def hka06_312 : ai_N := (.ofNat 0, .ofNat 4, [])
def hka06_313 : ai_N := (.ofNat 0, .ofNat 60, [(26, .ofNat 0, .ofNat 0)])
def hka06_314 : ai_N := (.ofNat 0, .ofNat 20, [(27, .ofNat 0, .ofNat 0)])
def hka06_315 : ai_N := (.ofNat 0, .ofNat 1, [(28, .ofNat 0, .ofNat 0)])
def hka06_316 : ai_N := (.negSucc 3, .ofNat 2, [(29, .ofNat 0, .ofNat 0)])
def hka06_317 : ai_N := (.ofNat 0, .ofNat 5, [(30, .ofNat 0, .ofNat 0)])
def hka06_318 : ai_N := (.ofNat 0, .ofNat 4, [(31, .ofNat 0, .ofNat 0)])
def hka06_319 : ai_N := (.ofNat 0, .ofNat 60, [(32, .ofNat 0, .ofNat 0)])
def hka06_320 : ai_N := (.ofNat 0, .ofNat 20, [(33, .ofNat 0, .ofNat 0)])
def hka06_321 : ai_N := (.ofNat 0, .ofNat 1, [(34, .ofNat 0, .ofNat 0)])
def hka06_322 : ai_N := (.negSucc 3, .ofNat 2, [(35, .ofNat 0, .ofNat 0)])
def hka06_323 : ai_N := (.ofNat 0, .ofNat 5, [(36, .ofNat 0, .ofNat 0)])
def hka06_324 : ai_N := (.ofNat 0, .ofNat 4, [(37, .ofNat 0, .ofNat 0)])
def hka06_325 : ai_C := .inl (.int, [(1, hka06_304), (60, hka06_50), (17, hka06_305), (1, hka06_306), (1, hka06_307), (1, hka06_308), (1, hka06_309), (5, hka06_310), (1, hka06_311), (8, hka06_312), (1, hka06_313), (60, hka06_50), (17, hka06_305), (1, hka06_314), (1, hka06_315), (1, hka06_316), (1, hka06_317), (5, hka06_310), (1, hka06_318), (8, hka06_312), (1, hka06_319), (60, hka06_50), (17, hka06_305), (1, hka06_320), (1, hka06_321), (1, hka06_322), (1, hka06_323), (5, hka06_310), (1, hka06_324), (8, hka06_312)])
def hka06_326 : Bool × Option ai_C := (false, some hka06_325)
def hka06_327 : ai_N := (.ofNat 1, .ofNat 9, [])
def hka06_328 : ai_C := .inl (.int, [(4, hka06_327)])
def hka06_329 : Bool × Option ai_C := (false, some hka06_328)
def hka06_330 : ai_W := [hka06_13, hka06_13, hka06_13, hka06_13, hka06_13, hka06_13, hka06_13, hka06_13, hka06_13, hka06_13, hka06_13, hka06_13, hka06_13, hka06_13, hka06_13, hka06_13, hka06_13, hka06_13, hka06_13, hka06_13, hka06_13, hka06_13, hka06_13, hka06_13, hka06_13, hka06_13, hka06_13, hka06_13, hka06_13, hka06_13, hka06_13, hka06_13, hka06_13, hka06_13, hka06_13, hka06_13, hka06_13, hka06_13, hka06_13, hka06_13, hka06_13, hka06_13, hka06_13, hka06_13, hka06_13, hka06_13, hka06_13, hka06_13, hka06_13, hka06_13, hka06_13, hka06_13, hka06_13, hka06_13, hka06_13, hka06_13, hka06_13, hka06_13, hka06_13, hka06_303, hka06_326, hka06_13, hka06_329, hka06_13, hka06_13, hka06_13, hka06_13, hka06_243, hka06_13, hka06_13, hka06_13, hka06_13, hka06_13, hka06_13, hka06_13, hka06_13]
def hka06_331 : ai_E := [hka06_1, hka06_160, hka06_0, hka06_1, hka06_103, hka06_178, hka06_5, hka06_2, hka06_178, hka06_179, hka06_180, hka06_180, hka06_180, hka06_181, hka06_2, hka06_104, hka06_180, hka06_268, hka06_2, hka06_5, hka06_3, hka06_269, hka06_160, hka06_270, hka06_4, hka06_5, hka06_3, hka06_269, hka06_160, hka06_270, hka06_4, hka06_5, hka06_3, hka06_269, hka06_160, hka06_270, hka06_4, hka06_5]
def hka06_332 : ai_N := (.ofNat 1, .ofNat 64, [(20, .ofNat 1, .ofNat 4)])
def hka06_333 : ai_V := .inl (false, hka06_332)
def hka06_334 : ai_C := .inr (.inr (8, [hka06_187, hka06_188, hka06_273, hka06_275, hka06_193, hka06_194, hka06_277, hka06_197, hka06_279, hka06_281, hka06_202, hka06_132, hka06_283, hka06_285, hka06_209, hka06_213, hka06_215, hka06_287, hka06_289, hka06_291, hka06_293, hka06_295, hka06_224, hka06_333, hka06_227, hka06_228, hka06_299, hka06_231, hka06_232, hka06_233, hka06_234, hka06_235, hka06_236, hka06_301]))
/-- NeverAgainModel.mean -/
def ka_514 : ai_K := (56, 4, (hka06_271, [hka06_184, hka06_108, hka06_110, hka06_12, hka06_12, hka06_12, hka06_12, hka06_12, hka06_12, hka06_12, hka06_12, hka06_12, hka06_12, hka06_12, hka06_12, hka06_12, hka06_12, hka06_12], [], hka06_330), [.inl 1, .inl 2, .inr (59, 2), .inr (59, 3), .inr (59, 6), .inr (59, 8), .inr (59, 9), .inr (59, 11), .inr (59, 12), .inr (59, 13), .inr (59, 15), .inr (59, 16), .inr (59, 17), .inr (59, 18), .inr (59, 19), .inr (59, 20), .inr (59, 21), .inr (59, 23), .inr (59, 26), .inr (59, 33), .inr (60, 0), .inr (60, 78), .inr (60, 79), .inr (60, 80), .inr (60, 81), .inr (60, 87), .inr (60, 96), .inr (60, 174), .inr (60, 175), .inr (60, 176), .inr (60, 177), .inr (60, 183), .inr (60, 192), .inr (60, 270), .inr (60, 271), .inr (60, 272), .inr (60, 273), .inr (60, 279)], [(some hka06_159, hka06_271, []), (some hka06_71, hka06_331, [(59, hka06_334), (67, hka06_242)])])
def hka06_335 : Int × Int := (.ofNat 4, .ofNat 4)
def hka06_336 : Int × Int := (.ofNat 0, .ofNat 0)
def hka06_337 : ai_E := [hka06_335, hka06_160, hka06_0, hka06_1, hka06_103, hka06_178, hka06_5, hka06_2, hka06_178, hka06_179, hka06_180, hka06_180, hka06_180, hka06_181, hka06_2, hka06_104, hka06_180, hka06_268, hka06_2, hka06_5, hka06_3, hka06_269, hka06_160, hka06_270, hka06_4, hka06_5, hka06_3, hka06_269, hka06_160, hka06_270, hka06_4, hka06_5, hka06_3, hka06_269, hka06_160, hka06_270, hka06_4, hka06_5, hka06_336]
def hka06_338 : ai_N := (.ofNat 4, .ofNat 4, [(0, .ofNat 0, .ofNat 0)])
def hka06_339 : ai_V := .inl (false, hka06_338)
def hka06_340 : ai_N := (.ofNat 0, .ofNat 1, [(1, .ofNat 0, .ofNat 0)])
def hka06_341 : ai_V := .inl (false, hka06_340)
def hka06_342 : ai_V := .inl (true, hka06_170)
def hka06_343 : ai_N := (.ofNat 0, .ofNat 0, [(38, .ofNat 0, .ofNat 0)])
def hka06_344 : ai_V := .inl (false, hka06_343)
def kad_514_0 : ai_Nd := (37, (hka06_337, [hka06_184, hka06_339, hka06_341, hka06_99, hka06_168, hka06_12, hka06_342, hka06_12, hka06_344, hka06_12, hka06_12, hka06_12, hka06_12, hka06_12, hka06_12, hka06_12, hka06_12, hka06_12], [], hka06_330), [.inl 8], [.inl 99962, .inl 5, .inr (true, .ofNat 4, 38), .inl 100000, .inl 0, .inl 0, .inl 0])
def hka06_345 : Int × Int := (.ofNat 3, .ofNat 3)
def hka06_346 : ai_E := [hka06_345, hka06_160, hka06_0, hka06_1, hka06_103, hka06_178, hka06_5, hka06_2, hka06_178, hka06_179, hka06_180, hka06_180, hka06_180, hka06_181, hka06_2, hka06_104, hka06_180, hka06_268, hka06_2, hka06_5, hka06_3, hka06_269, hka06_160, hka06_270, hka06_4, hka06_5, hka06_3, hka06_269, hka06_160, hka06_270, hka06_4, hka06_5, hka06_3, hka06_269, hka06_160, hka06_270, hka06_4, hka06_5, hka06_336]
def hka06_347 : ai_N := (.ofNat 3, .ofNat 3, [(0, .ofNat 0, .ofNat 0)])
def hka06_348 : ai_V := .inl (false, hka06_347)
def kad_514_1 : ai_Nd := (37, (hka06_346, [hka06_184, hka06_348, hka06_341, hka06_99, hka06_168, hka06_12, hka06_342, hka06_12, hka06_344, hka06_12, hka06_12, hka06_12, hka06_12, hka06_12, hka06_12, hka06_12, hka06_12, hka06_12], [], hka06_330), [.inl 8], [.inl 99962, .inl 5, .inr (true, .ofNat 4, 38), .inl 100000, .inl 0, .inl 0, .inl 0])
def hka06_349 : Int × Int := (.ofNat 2, .ofNat 2)
def hka06_350 : ai_E := [hka06_349, hka06_160, hka06_0, hka06_1, hka06_103, hka06_178, hka06_5, hka06_2, hka06_178, hka06_179, hka06_180, hka06_180, hka06_180, hka06_181, hka06_2, hka06_104, hka06_180, hka06_268, hka06_2, hka06_5, hka06_3, hka06_269, hka06_160, hka06_270, hka06_4, hka06_5, hka06_3, hka06_269, hka06_160, hka06_270, hka06_4, hka06_5, hka06_3, hka06_269, hka06_160, hka06_270, hka06_4, hka06_5, hka06_336]
def hka06_351 : ai_N := (.ofNat 2, .ofNat 2, [(0, .ofNat 0, .ofNat 0)])
def hka06_352 : ai_V := .inl (false, hka06_351)
def kad_514_2 : ai_Nd := (37, (hka06_350, [hka06_184, hka06_352, hka06_341, hka06_99, hka06_168, hka06_12, hka06_342, hka06_12, hka06_344, hka06_12, hka06_12, hka06_12, hka06_12, hka06_12, hka06_12, hka06_12, hka06_12, hka06_12], [], hka06_330), [.inl 8], [.inl 99962, .inl 5, .inr (true, .ofNat 4, 38), .inl 100000, .inl 0, .inl 0, .inl 0])
def hka06_353 : Int × Int := (.ofNat 1, .ofNat 1)
def hka06_354 : ai_E := [hka06_353, hka06_160, hka06_0, hka06_1, hka06_103, hka06_178, hka06_5, hka06_2, hka06_178, hka06_179, hka06_180, hka06_180, hka06_180, hka06_181, hka06_2, hka06_104, hka06_180, hka06_268, hka06_2, hka06_5, hka06_3, hka06_269, hka06_160, hka06_270, hka06_4, hka06_5, hka06_3, hka06_269, hka06_160, hka06_270, hka06_4, hka06_5, hka06_3, hka06_269, hka06_160, hka06_270, hka06_4, hka06_5, hka06_336]
def hka06_355 : ai_N := (.ofNat 1, .ofNat 1, [(0, .ofNat 0, .ofNat 0)])
def hka06_356 : ai_V := .inl (false, hka06_355)
def kad_514_3 : ai_Nd := (37, (hka06_354, [hka06_184, hka06_356, hka06_341, hka06_99, hka06_168, hka06_12, hka06_342, hka06_12, hka06_344, hka06_12, hka06_12, hka06_12, hka06_12, hka06_12, hka06_12, hka06_12, hka06_12, hka06_12], [], hka06_330), [.inl 8], [.inl 99962, .inl 5, .inr (true, .ofNat 4, 38), .inl 100000, .inl 0, .inl 0, .inl 0])
def hka06_357 : ai_E := [hka06_335, hka06_160, hka06_0, hka06_1, hka06_103, hka06_178, hka06_5, hka06_2, hka06_178, hka06_179, hka06_180, hka06_180, hka06_180, hka06_181, hka06_2, hka06_104, hka06_180, hka06_268, hka06_2, hka06_5, hka06_3, hka06_269, hka06_160, hka06_270, hka06_4, hka06_5, hka06_3, hka06_269, hka06_160, hka06_270, hka06_4, hka06_5, hka06_3, hka06_269, hka06_160, hka06_270, hka06_4, hka06_5, hka06_353]
def hka06_358 : ai_V := .inl (true, hka06_327)
def hka06_359 : ai_N := (.ofNat 1, .ofNat 1, [(38, .ofNat 0, .ofNat 0)])
def hka06_360 : ai_V := .inl (false, hka06_359)
def kad_514_4 : ai_Nd := (37, (hka06_357, [hka06_184, hka06_339, hka06_341, hka06_99, hka06_168, hka06_12, hka06_358, hka06_12, hka06_360, hka06_12, hka06_12, hka06_12, hka06_12, hka06_12, hka06_12, hka06_12, hka06_12, hka06_12], [], hka06_330), [.inl 8], [.inl 99962, .inl 4, .inr (true, .ofNat 4, 38), .inl 100000, .inl 0, .inl 0, .inl 0])
def hka06_361 : ai_E := [hka06_345, hka06_160, hka06_0, hka06_1, hka06_103, hka06_178, hka06_5, hka06_2, hka06_178, hka06_179, hka06_180, hka06_180, hka06_180, hka06_181, hka06_2, hka06_104, hka06_180, hka06_268, hka06_2, hka06_5, hka06_3, hka06_269, hka06_160, hka06_270, hka06_4, hka06_5, hka06_3, hka06_269, hka06_160, hka06_270, hka06_4, hka06_5, hka06_3, hka06_269, hka06_160, hka06_270, hka06_4, hka06_5, hka06_353]
def kad_514_5 : ai_Nd := (37, (hka06_361, [hka06_184, hka06_348, hka06_341, hka06_99, hka06_168, hka06_12, hka06_358, hka06_12, hka06_360, hka06_12, hka06_12, hka06_12, hka06_12, hka06_12, hka06_12, hka06_12, hka06_12, hka06_12], [], hka06_330), [.inl 8], [.inl 99962, .inl 4, .inr (true, .ofNat 4, 38), .inl 100000, .inl 0, .inl 0, .inl 0])
def hka06_362 : ai_E := [hka06_349, hka06_160, hka06_0, hka06_1, hka06_103, hka06_178, hka06_5, hka06_2, hka06_178, hka06_179, hka06_180, hka06_180, hka06_180, hka06_181, hka06_2, hka06_104, hka06_180, hka06_268, hka06_2, hka06_5, hka06_3, hka06_269, hka06_160, hka06_270, hka06_4, hka06_5, hka06_3, hka06_269, hka06_160, hka06_270, hka06_4, hka06_5, hka06_3, hka06_269, hka06_160, hka06_270, hka06_4, hka06_5, hka06_353]
def kad_514_6 : ai_Nd := (37, (hka06_362, [hka06_184, hka06_352, hka06_341, hka06_99, hka06_168, hka06_12, hka06_358, hka06_12, hka06_360, hka06_12, hka06_12, hka06_12, hka06_12, hka06_12, hka06_12, hka06_12, hka06_12, hka06_12], [], hka06_330), [.inl 8], [.inl 99962, .inl 4, .inr (true, .ofNat 4, 38), .inl 100000, .inl 0, .inl 0, .inl 0])
def hka06_363 : ai_E := [hka06_353, hka06_160, hka06_0, hka06_1, hka06_103, hka06_178, hka06_5, hka06_2, hka06_178, hka06_179, hka06_180, hka06_180, hka06_180, hka06_181, hka06_2, hka06_104, hka06_180, hka06_268, hka06_2, hka06_5, hka06_3, hka06_269, hka06_160, hka06_270, hka06_4, hka06_5, hka06_3, hka06_269, hka06_160, hka06_270, hka06_4, hka06_5, hka06_3, hka06_269, hka06_160, hka06_270, hka06_4, hka06_5, hka06_353]
def kad_514_7 : ai_Nd := (37, (hka06_363, [hka06_184, hka06_356, hka06_341, hka06_99, hka06_168, hka06_12, hka06_358, hka06_12, hka06_360, hka06_12, hka06_12, hka06_12, hka06_12, hka06_12, hka06_12, hka06_12, hka06_12, hka06_12], [], hka06_330), [.inl 8], [.inl 99962, .inl 4, .inr (true, .ofNat 4, 38), .inl 100000, .inl 0, .inl 0, .inl 0])
def hka06_364 : Int × Int := (.ofNat 2, .ofNat 4)
def hka06_365 : ai_E := [hka06_335, hka06_160, hka06_0, hka06_364, hka06_103, hka06_178, hka06_5, hka06_2, hka06_178, hka06_179, hka06_180, hka06_180, hka06_180, hka06_181, hka06_2, hka06_104, hka06_180, hka06_268, hka06_2, hka06_5, hka06_3, hka06_269, hka06_160, hka06_270, hka06_4, hka06_5, hka06_3, hka06_269, hka06_160, hka06_270, hka06_4, hka06_5, hka06_3, hka06_269, hka06_160, hka06_270, hka06_4, hka06_5, hka06_349]
def hka06_366 : ai_N := (.ofNat 2, .ofNat 18, [])
def hka06_367 : ai_V := .inl (true, hka06_366)
def hka06_368 : ai_N := (.ofNat 2, .ofNat 2, [(38, .ofNat 0, .ofNat 0)])
def hka06_369 : ai_V := .inl (false, hka06_368)
def hka06_370 : ai_N := (.ofNat 2, .ofNat 4, [(3, .ofNat 0, .ofNat 0)])
def hka06_371 : ai_V := .inl (false, hka06_370)
def hka06_372 : ai_C := .inr (.inr (8, [hka06_187, hka06_188, hka06_273, hka06_371, hka06_193, hka06_194, hka06_277, hka06_197, hka06_279, hka06_281, hka06_202, hka06_132, hka06_283, hka06_285, hka06_209, hka06_213, hka06_215, hka06_287, hka06_289, hka06_291, hka06_293, hka06_295, hka06_224, hka06_297, hka06_227, hka06_228, hka06_299, hka06_231, hka06_232, hka06_233, hka06_234, hka06_235, hka06_236, hka06_301]))
def hka06_373 : Bool × Option ai_C := (false, some hka06_372)
def hka06_374 : ai_W := [hka06_13, hka06_13, hka06_13, hka06_13, hka06_13, hka06_13, hka06_13, hka06_13, hka06_13, hka06_13, hka06_13, hka06_13, hka06_13, hka06_13, hka06_13, hka06_13, hka06_13, hka06_13, hka06_13, hka06_13, hka06_13, hka06_13, hka06_13, hka06_13, hka06_13, hka06_13, hka06_13, hka06_13, hka06_13, hka06_13, hka06_13, hka06_13, hka06_13, hka06_13, hka06_13, hka06_13, hka06_13, hka06_13, hka06_13, hka06_13, hka06_13, hka06_13, hka06_13, hka06_13, hka06_13, hka06_13, hka06_13, hka06_13, hka06_13, hka06_13, hka06_13, hka06_13, hka06_13, hka06_13, hka06_13, hka06_13, hka06_13, hka06_13, hka06_13, hka06_373, hka06_326, hka06_13, hka06_329, hka06_13, hka06_13, hka06_13, hka06_13, hka06_243, hka06_13, hka06_13, hka06_13, hka06_13, hka06_13, hka06_13, hka06_13, hka06_13]
def kad_514_8 : ai_Nd := (37, (hka06_365, [hka06_184, hka06_339, hka06_341, hka06_99, hka06_168, hka06_12, hka06_367, hka06_12, hka06_369, hka06_12, hka06_12, hka06_12, hka06_12, hka06_12, hka06_12, hka06_12, hka06_12, hka06_12], [], hka06_374), [.inl 8], [.inl 99962, .inl 3, .inr (true, .ofNat 4, 38), .inl 100000, .inl 0, .inl 0, .inl 0])
def hka06_375 : ai_N := (.ofNat 1, .ofNat 36, [])
def hka06_376 : ai_V := .inl (true, hka06_375)
def kad_514_9 : ai_Nd := (68, (hka06_337, [hka06_184, hka06_339, hka06_341, hka06_99, hka06_168, hka06_12, hka06_376, hka06_12, hka06_344, hka06_12, hka06_12, hka06_12, hka06_12, hka06_12, hka06_12, hka06_12, hka06_12, hka06_12], [], hka06_330), [.inl 8], [.inl 99931, .inl 5, .inr (true, .ofNat 4, 38), .inl 100000, .inl 0, .inl 0, .inl 0])
def hka06_377 : ai_E := [hka06_345, hka06_160, hka06_0, hka06_364, hka06_103, hka06_178, hka06_5, hka06_2, hka06_178, hka06_179, hka06_180, hka06_180, hka06_180, hka06_181, hka06_2, hka06_104, hka06_180, hka06_268, hka06_2, hka06_5, hka06_3, hka06_269, hka06_160, hka06_270, hka06_4, hka06_5, hka06_3, hka06_269, hka06_160, hka06_270, hka06_4, hka06_5, hka06_3, hka06_269, hka06_160, hka06_270, hka06_4, hka06_5, hka06_349]
def kad_514_10 : ai_Nd := (37, (hka06_377, [hka06_184, hka06_348, hka06_341, hka06_99, hka06_168, hka06_12, hka06_367, hka06_12, hka06_369, hka06_12, hka06_12, hka06_12, hka06_12, hka06_12, hka06_12, hka06_12, hka06_12, hka06_12], [], hka06_374), [.inl 8], [.inl 99962, .inl 3, .inr (true, .ofNat 4, 38), .inl 100000, .inl 0, .inl 0, .inl 0])
def kad_514_11 : ai_Nd := (68, (hka06_346, [hka06_184, hka06_348, hka06_341, hka06_99, hka06_168, hka06_12, hka06_376, hka06_12, hka06_344, hka06_12, hka06_12, hka06_12, hka06_12, hka06_12, hka06_12, hka06_12, hka06_12, hka06_12], [], hka06_330), [.inl 8], [.inl 99931, .inl 4, .inr (true, .ofNat 4, 38), .inl 100000, .inl 0, .inl 0, .inl 0])
def hka06_378 : ai_E := [hka06_349, hka06_160, hka06_0, hka06_364, hka06_103, hka06_178, hka06_5, hka06_2, hka06_178, hka06_179, hka06_180, hka06_180, hka06_180, hka06_181, hka06_2, hka06_104, hka06_180, hka06_268, hka06_2, hka06_5, hka06_3, hka06_269, hka06_160, hka06_270, hka06_4, hka06_5, hka06_3, hka06_269, hka06_160, hka06_270, hka06_4, hka06_5, hka06_3, hka06_269, hka06_160, hka06_270, hka06_4, hka06_5, hka06_349]
def kad_514_12 : ai_Nd := (37, (hka06_378, [hka06_184, hka06_352, hka06_341, hka06_99, hka06_168, hka06_12, hka06_367, hka06_12, hka06_369, hka06_12, hka06_12, hka06_12, hka06_12, hka06_12, hka06_12, hka06_12, hka06_12, hka06_12], [], hka06_374), [.inl 8], [.inl 99962, .inl 3, .inr (true, .ofNat 4, 38), .inl 100000, .inl 0, .inl 0, .inl 0])
def kad_514_13 : ai_Nd := (68, (hka06_350, [hka06_184, hka06_352, hka06_341, hka06_99, hka06_168, hka06_12, hka06_376, hka06_12, hka06_344, hka06_12, hka06_12, hka06_12, hka06_12, hka06_12, hka06_12, hka06_12, hka06_12, hka06_12], [], hka06_330), [.inl 8], [.inl 99931, .inl 3, .inr (true, .ofNat 4, 38), .inl 100000, .inl 0, .inl 0, .inl 0])
def hka06_379 : ai_E := [hka06_353, hka06_160, hka06_0, hka06_364, hka06_103, hka06_178, hka06_5, hka06_2, hka06_178, hka06_179, hka06_180, hka06_180, hka06_180, hka06_181, hka06_2, hka06_104, hka06_180, hka06_268, hka06_2, hka06_5, hka06_3, hka06_269, hka06_160, hka06_270, hka06_4, hka06_5, hka06_3, hka06_269, hka06_160, hka06_270, hka06_4, hka06_5, hka06_3, hka06_269, hka06_160, hka06_270, hka06_4, hka06_5, hka06_349]
def kad_514_14 : ai_Nd := (37, (hka06_379, [hka06_184, hka06_356, hka06_341, hka06_99, hka06_168, hka06_12, hka06_367, hka06_12, hka06_369, hka06_12, hka06_12, hka06_12, hka06_12, hka06_12, hka06_12, hka06_12, hka06_12, hka06_12], [], hka06_374), [.inl 8], [.inl 99962, .inl 3, .inr (true, .ofNat 4, 38), .inl 100000, .inl 0, .inl 0, .inl 0])
def kad_514_15 : ai_Nd := (68, (hka06_354, [hka06_184, hka06_356, hka06_341, hka06_99, hka06_168, hka06_12, hka06_376, hka06_12, hka06_344, hka06_12, hka06_12, hka06_12, hka06_12, hka06_12, hka06_12, hka06_12, hka06_12, hka06_12], [], hka06_330), [.inl 8], [.inl 99931, .inl 2, .inr (true, .ofNat 4, 38), .inl 100000, .inl 0, .inl 0, .inl 0])
def hka06_380 : Int × Int := (.ofNat 3, .ofNat 4)
def hka06_381 : ai_E := [hka06_335, hka06_160, hka06_0, hka06_380, hka06_103, hka06_178, hka06_5, hka06_2, hka06_178, hka06_179, hka06_180, hka06_180, hka06_180, hka06_181, hka06_2, hka06_104, hka06_180, hka06_268, hka06_2, hka06_5, hka06_3, hka06_269, hka06_160, hka06_270, hka06_4, hka06_5, hka06_3, hka06_269, hka06_160, hka06_270, hka06_4, hka06_5, hka06_3, hka06_269, hka06_160, hka06_270, hka06_4, hka06_5, hka06_345]
def hka06_382 : ai_N := (.ofNat 3, .ofNat 27, [])
def hka06_383 : ai_V := .inl (true, hka06_382)
def hka06_384 : ai_N := (.ofNat 3, .ofNat 3, [(38, .ofNat 0, .ofNat 0)])
def hka06_385 : ai_V := .inl (false, hka06_384)
def hka06_386 : ai_N := (.ofNat 3, .ofNat 4, [(3, .ofNat 0, .ofNat 0)])
def hka06_387 : ai_V := .inl (false, hka06_386)
def hka06_388 : ai_C := .inr (.inr (8, [hka06_187, hka06_188, hka06_273, hka06_387, hka06_193, hka06_194, hka06_277, hka06_197, hka06_279, hka06_281, hka06_202, hka06_132, hka06_283, hka06_285, hka06_209, hka06_213, hka06_215, hka06_287, hka06_289, hka06_291, hka06_293, hka06_295, hka06_224, hka06_297, hka06_227, hka06_228, hka06_299, hka06_231, hka06_232, hka06_233, hka06_234, hka06_235, hka06_236, hka06_301]))
def hka06_389 : Bool × Option ai_C := (false, some hka06_388)
def hka06_390 : ai_W := [hka06_13, hka06_13, hka06_13, hka06_13, hka06_13, hka06_13, hka06_13, hka06_13, hka06_13, hka06_13, hka06_13, hka06_13, hka06_13, hka06_13, hka06_13, hka06_13, hka06_13, hka06_13, hka06_13, hka06_13, hka06_13, hka06_13, hka06_13, hka06_13, hka06_13, hka06_13, hka06_13, hka06_13, hka06_13, hka06_13, hka06_13, hka06_13, hka06_13, hka06_13, hka06_13, hka06_13, hka06_13, hka06_13, hka06_13, hka06_13, hka06_13, hka06_13, hka06_13, hka06_13, hka06_13, hka06_13, hka06_13, hka06_13, hka06_13, hka06_13, hka06_13, hka06_13, hka06_13, hka06_13, hka06_13, hka06_13, hka06_13, hka06_13, hka06_13, hka06_389, hka06_326, hka06_13, hka06_329, hka06_13, hka06_13, hka06_13, hka06_13, hka06_243, hka06_13, hka06_13, hka06_13, hka06_13, hka06_13, hka06_13, hka06_13, hka06_13]
def kad_514_16 : ai_Nd := (37, (hka06_381, [hka06_184, hka06_339, hka06_341, hka06_99, hka06_168, hka06_12, hka06_383, hka06_12, hka06_385, hka06_12, hka06_12, hka06_12, hka06_12, hka06_12, hka06_12, hka06_12, hka06_12, hka06_12], [], hka06_390), [.inl 8], [.inl 99962, .inl 2, .inr (true, .ofNat 4, 38), .inl 100000, .inl 0, .inl 0, .inl 0])
def hka06_391 : ai_N := (.ofNat 1, .ofNat 4, [])
def hka06_392 : ai_V := .inl (false, hka06_391)
def kad_514_17 : ai_Nd := (68, (hka06_357, [hka06_184, hka06_339, hka06_341, hka06_392, hka06_376, hka06_12, hka06_376, hka06_12, hka06_360, hka06_12, hka06_12, hka06_12, hka06_12, hka06_12, hka06_12, hka06_12, hka06_12, hka06_12], [], hka06_330), [.inl 8], [.inl 99931, .inl 4, .inr (true, .ofNat 4, 38), .inl 100000, .inl 0, .inl 0, .inl 0])
def hka06_393 : ai_E := [hka06_345, hka06_160, hka06_0, hka06_380, hka06_103, hka06_178, hka06_5, hka06_2, hka06_178, hka06_179, hka06_180, hka06_180, hka06_180, hka06_181, hka06_2, hka06_104, hka06_180, hka06_268, hka06_2, hka06_5, hka06_3, hka06_269, hka06_160, hka06_270, hka06_4, hka06_5, hka06_3, hka06_269, hka06_160, hka06_270, hka06_4, hka06_5, hka06_3, hka06_269, hka06_160, hka06_270, hka06_4, hka06_5, hka06_345]
def kad_514_18 : ai_Nd := (37, (hka06_393, [hka06_184, hka06_348, hka06_341, hka06_99, hka06_168, hka06_12, hka06_383, hka06_12, hka06_385, hka06_12, hka06_12, hka06_12, hka06_12, hka06_12, hka06_12, hka06_12, hka06_12, hka06_12], [], hka06_390), [.inl 8], [.inl 99962, .inl 2, .inr (true, .ofNat 4, 38), .inl 100000, .inl 0, .inl 0, .inl 0])
def kad_514_19 : ai_Nd := (68, (hka06_361, [hka06_184, hka06_348, hka06_341, hka06_392, hka06_376, hka06_12, hka06_376, hka06_12, hka06_360, hka06_12, hka06_12, hka06_12, hka06_12, hka06_12, hka06_12, hka06_12, hka06_12, hka06_12], [], hka06_330), [.inl 8], [.inl 99931, .inl 3, .inr (true, .ofNat 4, 38), .inl 100000, .inl 0, .inl 0, .inl 0])
def hka06_394 : ai_E := [hka06_349, hka06_160, hka06_0, hka06_380, hka06_103, hka06_178, hka06_5, hka06_2, hka06_178, hka06_179, hka06_180, hka06_180, hka06_180, hka06_181, hka06_2, hka06_104, hka06_180, hka06_268, hka06_2, hka06_5, hka06_3, hka06_269, hka06_160, hka06_270, hka06_4, hka06_5, hka06_3, hka06_269, hka06_160, hka06_270, hka06_4, hka06_5, hka06_3, hka06_269, hka06_160, hka06_270, hka06_4, hka06_5, hka06_345]
def kad_514_20 : ai_Nd := (37, (hka06_394, [hka06_184, hka06_352, hka06_341, hka06_99, hka06_168, hka06_12, hka06_383, hka06_12, hka06_385, hka06_12, hka06_12, hka06_12, hka06_12, hka06_12, hka06_12, hka06_12, hka06_12, hka06_12], [], hka06_390), [.inl 8], [.inl 99962, .inl 2, .inr (true, .ofNat 4, 38), .inl 100000, .inl 0, .inl 0, .inl 0])
def kad_514_21 : ai_Nd := (68, (hka06_362, [hka06_184, hka06_352, hka06_341, hka06_392, hka06_376, hka06_12, hka06_376, hka06_12, hka06_360, hka06_12, hka06_12, hka06_12, hka06_12, hka06_12, hka06_12, hka06_12, hka06_12, hka06_12], [], hka06_330), [.inl 8], [.inl 99931, .inl 2, .inr (true, .ofNat 4, 38), .inl 100000, .inl 0, .inl 0, .inl 0])
def hka06_395 : ai_E := [hka06_353, hka06_160, hka06_0, hka06_380, hka06_103, hka06_178, hka06_5, hka06_2, hka06_178, hka06_179, hka06_180, hka06_180, hka06_180, hka06_181, hka06_2, hka06_104, hka06_180, hka06_268, hka06_2, hka06_5, hka06_3, hka06_269, hka06_160, hka06_270, hka06_4, hka06_5, hka06_3, hka06_269, hka06_160, hka06_270, hka06_4, hka06_5, hka06_3, hka06_269, hka06_160, hka06_270, hka06_4, hka06_5, hka06_345]
def kad_514_22 : ai_Nd := (37, (hka06_395, [hka06_184, hka06_356, hka06_341, hka06_99, hka06_168, hka06_12, hka06_383, hka06_12, hka06_385, hka06_12, hka06_12, hka06_12, hka06_12, hka06_12, hka06_12, hka06_12, hka06_12, hka06_12], [], hka06_390), [.inl 8], [.inl 99962, .inl 2, .inr (true, .ofNat 4, 38), .inl 100000, .inl 0, .inl 0, .inl 0])
def kad_514_23 : ai_Nd := (68, (hka06_363, [hka06_184, hka06_356, hka06_341, hka06_392, hka06_376, hka06_12, hka06_376, hka06_12, hka06_360, hka06_12, hka06_12, hka06_12, hka06_12, hka06_12, hka06_12, hka06_12, hka06_12, hka06_12], [], hka06_330), [.inl 8], [.inl 99931, .inl 1, .inr (true, .ofNat 4, 38), .inl 100000, .inl 0, .inl 0, .inl 0])
def hka06_396 : ai_E := [hka06_335, hka06_160, hka06_0, hka06_335, hka06_103, hka06_178, hka06_5, hka06_2, hka06_178, hka06_179, hka06_180, hka06_180, hka06_180, hka06_181, hka06_2, hka06_104, hka06_180, hka06_268, hka06_2, hka06_5, hka06_3, hka06_269, hka06_160, hka06_270, hka06_4, hka06_5, hka06_3, hka06_269, hka06_160, hka06_270, hka06_4, hka06_5, hka06_3, hka06_269, hka06_160, hka06_270, hka06_4, hka06_5, hka06_335]
def hka06_397 : ai_N := (.ofNat 4, .ofNat 36, [])
def hka06_398 : ai_V := .inl (true, hka06_397)
def hka06_399 : ai_N := (.ofNat 4, .ofNat 4, [(38, .ofNat 0, .ofNat 0)])
def hka06_400 : ai_V := .inl (false, hka06_399)
def hka06_401 : ai_N := (.ofNat 4, .ofNat 4, [(3, .ofNat 0, .ofNat 0)])
def hka06_402 : ai_V := .inl (false, hka06_401)
def hka06_403 : ai_C := .inr (.inr (8, [hka06_187, hka06_188, hka06_273, hka06_402, hka06_193, hka06_194, hka06_277, hka06_197, hka06_279, hka06_281, hka06_202, hka06_132, hka06_283, hka06_285, hka06_209, hka06_213, hka06_215, hka06_287, hka06_289, hka06_291, hka06_293, hka06_295, hka06_224, hka06_297, hka06_227, hka06_228, hka06_299, hka06_231, hka06_232, hka06_233, hka06_234, hka06_235, hka06_236, hka06_301]))
def hka06_404 : Bool × Option ai_C := (false, some hka06_403)
def hka06_405 : ai_W := [hka06_13, hka06_13, hka06_13, hka06_13, hka06_13, hka06_13, hka06_13, hka06_13, hka06_13, hka06_13, hka06_13, hka06_13, hka06_13, hka06_13, hka06_13, hka06_13, hka06_13, hka06_13, hka06_13, hka06_13, hka06_13, hka06_13, hka06_13, hka06_13, hka06_13, hka06_13, hka06_13, hka06_13, hka06_13, hka06_13, hka06_13, hka06_13, hka06_13, hka06_13, hka06_13, hka06_13, hka06_13, hka06_13, hka06_13, hka06_13, hka06_13, hka06_13, hka06_13, hka06_13, hka06_13, hka06_13, hka06_13, hka06_13, hka06_13, hka06_13, hka06_13, hka06_13, hka06_13, hka06_13, hka06_13, hka06_13, hka06_13, hka06_13, hka06_13, hka06_404, hka06_326, hka06_13, hka06_329, hka06_13, hka06_13, hka06_13, hka06_13, hka06_243, hka06_13, hka06_13, hka06_13, hka06_13, hka06_13, hka06_13, hka06_13, hka06_13]
def kad_514_24 : ai_Nd := (37, (hka06_396, [hka06_184, hka06_339, hka06_341, hka06_99, hka06_168, hka06_12, hka06_398, hka06_12, hka06_400, hka06_12, hka06_12, hka06_12, hka06_12, hka06_12, hka06_12, hka06_12, hka06_12, hka06_12], [], hka06_405), [.inl 8], [.inl 99962, .inl 1, .inr (true, .ofNat 4, 38), .inl 100000, .inl 0, .inl 0, .inl 0])
def hka06_406 : ai_E := [hka06_335, hka06_160, hka06_0, hka06_1, hka06_103, hka06_178, hka06_5, hka06_2, hka06_178, hka06_179, hka06_180, hka06_180, hka06_180, hka06_181, hka06_2, hka06_104, hka06_180, hka06_268, hka06_2, hka06_5, hka06_3, hka06_269, hka06_160, hka06_270, hka06_4, hka06_5, hka06_3, hka06_269, hka06_160, hka06_270, hka06_4, hka06_5, hka06_3, hka06_269, hka06_160, hka06_270, hka06_4, hka06_5, hka06_349]
def hka06_407 : ai_N := (.ofNat 1, .ofNat 16, [])
def hka06_408 : ai_V := .inl (false, hka06_407)
def hka06_409 : ai_N := (.ofNat 1, .ofNat 1296, [])
def hka06_410 : ai_V := .inl (true, hka06_409)
def kad_514_25 : ai_Nd := (68, (hka06_406, [hka06_184, hka06_339, hka06_341, hka06_408, hka06_410, hka06_12, hka06_376, hka06_12, hka06_369, hka06_12, hka06_12, hka06_12, hka06_12, hka06_12, hka06_12, hka06_12, hka06_12, hka06_12], [], hka06_330), [.inl 8], [.inl 99931, .inl 3, .inr (true, .ofNat 4, 38), .inl 100000, .inl 0, .inl 0, .inl 0])
def hka06_411 : ai_E := [hka06_345, hka06_160, hka06_0, hka06_335, hka06_103, hka06_178, hka06_5, hka06_2, hka06_178, hka06_179, hka06_180, hka06_180, hka06_180, hka06_181, hka06_2, hka06_104, hka06_180, hka06_268, hka06_2, hka06_5, hka06_3, hka06_269, hka06_160, hka06_270, hka06_4, hka06_5, hka06_3, hka06_269, hka06_160, hka06_270, hka06_4, hka06_5, hka06_3, hka06_269, hka06_160, hka06_270, hka06_4, hka06_5, hka06_335]
def kad_514_26 : ai_Nd := (37, (hka06_411, [hka06_184, hka06_348, hka06_341, hka06_99, hka06_168, hka06_12, hka06_398, hka06_12, hka06_400, hka06_12, hka06_12, hka06_12, hka06_12, hka06_12, hka06_12, hka06_12, hka06_12, hka06_12], [], hka06_405), [.inl 8], [.inl 99962, .inl 1, .inr (true, .ofNat 4, 38), .inl 100000, .inl 0, .inl 0, .inl 0])
def hka06_412 : ai_E := [hka06_345, hka06_160, hka06_0, hka06_1, hka06_103, hka06_178, hka06_5, hka06_2, hka06_178, hka06_179, hka06_180, hka06_180, hka06_180, hka06_181, hka06_2, hka06_104, hka06_180, hka06_268, hka06_2, hka06_5, hka06_3, hka06_269, hka06_160, hka06_270, hka06_4, hka06_5, hka06_3, hka06_269, hka06_160, hka06_270, hka06_4, hka06_5, hka06_3, hka06_269, hka06_160, hka06_270, hka06_4, hka06_5, hka06_349]
def kad_514_27 : ai_Nd := (68, (hka06_412, [hka06_184, hka06_348, hka06_341, hka06_408, hka06_410, hka06_12, hka06_376, hka06_12, hka06_369, hka06_12, hka06_12, hka06_12, hka06_12, hka06_12, hka06_12, hka06_12, hka06_12, hka06_12], [], hka06_330), [.inl 8], [.inl 99931, .inl 2, .inr (true, .ofNat 4, 38), .inl 100000, .inl 0, .inl 0, .inl 0])
def hka06_413 : ai_E := [hka06_349, hka06_160, hka06_0, hka06_335, hka06_103, hka06_178, hka06_5, hka06_2, hka06_178, hka06_179, hka06_180, hka06_180, hka06_180, hka06_181, hka06_2, hka06_104, hka06_180, hka06_268, hka06_2, hka06_5, hka06_3, hka06_269, hka06_160, hka06_270, hka06_4, hka06_5, hka06_3, hka06_269, hka06_160, hka06_270, hka06_4, hka06_5, hka06_3, hka06_269, hka06_160, hka06_270, hka06_4, hka06_5, hka06_335]
def kad_514_28 : ai_Nd := (37, (hka06_413, [hka06_184, hka06_352, hka06_341, hka06_99, hka06_168, hka06_12, hka06_398, hka06_12, hka06_400, hka06_12, hka06_12, hka06_12, hka06_12, hka06_12, hka06_12, hka06_12, hka06_12, hka06_12], [], hka06_405), [.inl 8], [.inl 99962, .inl 1, .inr (true, .ofNat 4, 38), .inl 100000, .inl 0, .inl 0, .inl 0])
def hka06_414 : ai_E := [hka06_349, hka06_160, hka06_0, hka06_1, hka06_103, hka06_178, hka06_5, hka06_2, hka06_178, hka06_179, hka06_180, hka06_180, hka06_180, hka06_181, hka06_2, hka06_104, hka06_180, hka06_268, hka06_2, hka06_5, hka06_3, hka06_269, hka06_160, hka06_270, hka06_4, hka06_5, hka06_3, hka06_269, hka06_160, hka06_270, hka06_4, hka06_5, hka06_3, hka06_269, hka06_160, hka06_270, hka06_4, hka06_5, hka06_349]
def kad_514_29 : ai_Nd := (68, (hka06_414, [hka06_184, hka06_352, hka06_341, hka06_408, hka06_410, hka06_12, hka06_376, hka06_12, hka06_369, hka06_12, hka06_12, hka06_12, hka06_12, hka06_12, hka06_12, hka06_12, hka06_12, hka06_12], [], hka06_330), [.inl 8], [.inl 99931, .inl 1, .inr (true, .ofNat 4, 38), .inl 100000, .inl 0, .inl 0, .inl 0])
def hka06_415 : ai_E := [hka06_353, hka06_160, hka06_0, hka06_335, hka06_103, hka06_178, hka06_5, hka06_2, hka06_178, hka06_179, hka06_180, hka06_180, hka06_180, hka06_181, hka06_2, hka06_104, hka06_180, hka06_268, hka06_2, hka06_5, hka06_3, hka06_269, hka06_160, hka06_270, hka06_4, hka06_5, hka06_3, hka06_269, hka06_160, hka06_270, hka06_4, hka06_5, hka06_3, hka06_269, hka06_160, hka06_270, hka06_4, hka06_5, hka06_335]
def kad_514_30 : ai_Nd := (37, (hka06_415, [hka06_184, hka06_356, hka06_341, hka06_99, hka06_168, hka06_12, hka06_398, hka06_12, hka06_400, hka06_12, hka06_12, hka06_12, hka06_12, hka06_12, hka06_12, hka06_12, hka06_12, hka06_12], [], hka06_405), [.inl 8], [.inl 99962, .inl 1, .inr (true, .ofNat 4, 38), .inl 100000, .inl 0, .inl 0, .inl 0])
def kad_514_31 : ai_Nd := (100, (hka06_354, [hka06_184, hka06_356, hka06_341, hka06_392, hka06_376, hka06_12, hka06_376, hka06_12, hka06_342, hka06_12, hka06_344, hka06_12, hka06_12, hka06_12, hka06_12, hka06_12, hka06_12, hka06_12], [], hka06_330), [.inl 10], [.inl 99899, .inl 2, .inr (true, .ofNat 289, 38), .inl 100000, .inl 0, .inl 0, .inl 0])
def hka06_416 : ai_E := [hka06_335, hka06_160, hka06_0, hka06_1, hka06_103, hka06_178, hka06_5, hka06_2, hka06_178, hka06_179, hka06_180, hka06_180, hka06_180, hka06_181, hka06_2, hka06_104, hka06_180, hka06_268, hka06_2, hka06_5, hka06_3, hka06_269, hka06_160, hka06_270, hka06_4, hka06_5, hka06_3, hka06_269, hka06_160, hka06_270, hka06_4, hka06_5, hka06_3, hka06_269, hka06_160, hka06_270, hka06_4, hka06_5, hka06_345]
def hka06_417 : ai_N := (.ofNat 1, .ofNat 64, [])
def hka06_418 : ai_V := .inl (false, hka06_417)
def hka06_419 : ai_N := (.ofNat 1, .ofNat 59319, [])
def hka06_420 : ai_V := .inl (true, hka06_419)
def hka06_421 : ai_N := (.ofNat 1, .ofNat 39, [])
def hka06_422 : ai_V := .inl (true, hka06_421)
def kad_514_32 : ai_Nd := (68, (hka06_416, [hka06_184, hka06_339, hka06_341, hka06_418, hka06_420, hka06_12, hka06_422, hka06_12, hka06_385, hka06_12, hka06_12, hka06_12, hka06_12, hka06_12, hka06_12, hka06_12, hka06_12, hka06_12], [], hka06_330), [.inl 8], [.inl 99931, .inl 2, .inr (true, .ofNat 4, 38), .inl 100000, .inl 0, .inl 0, .inl 0])
def hka06_423 : ai_E := [hka06_345, hka06_160, hka06_0, hka06_1, hka06_103, hka06_178, hka06_5, hka06_2, hka06_178, hka06_179, hka06_180, hka06_180, hka06_180, hka06_181, hka06_2, hka06_104, hka06_180, hka06_268, hka06_2, hka06_5, hka06_3, hka06_269, hka06_160, hka06_270, hka06_4, hka06_5, hka06_3, hka06_269, hka06_160, hka06_270, hka06_4, hka06_5, hka06_3, hka06_269, hka06_160, hka06_270, hka06_4, hka06_5, hka06_345]
def kad_514_33 : ai_Nd := (68, (hka06_423, [hka06_184, hka06_348, hka06_341, hka06_418, hka06_420, hka06_12, hka06_422, hka06_12, hka06_385, hka06_12, hka06_12, hka06_12, hka06_12, hka06_12, hka06_12, hka06_12, hka06_12, hka06_12], [], hka06_330), [.inl 8], [.inl 99931, .inl 1, .inr (true, .ofNat 4, 38), .inl 100000, .inl 0, .inl 0, .inl 0])
def hka06_424 : ai_N := (.ofNat 1, .ofNat 1521, [])
def hka06_425 : ai_V := .inl (true, hka06_424)
def kad_514_34 : ai_Nd := (100, (hka06_350, [hka06_184, hka06_352, hka06_341, hka06_408, hka06_425, hka06_12, hka06_422, hka06_12, hka06_342, hka06_12, hka06_344, hka06_12, hka06_12, hka06_12, hka06_12, hka06_12, hka06_12, hka06_12], [], hka06_330), [.inl 10], [.inl 99899, .inl 2, .inr (true, .ofNat 289, 38), .inl 100000, .inl 0, .inl 0, .inl 0])
def hka06_426 : ai_E := [hka06_353, hka06_160, hka06_0, hka06_1, hka06_103, hka06_178, hka06_5, hka06_2, hka06_178, hka06_179, hka06_180, hka06_180, hka06_180, hka06_181, hka06_2, hka06_104, hka06_180, hka06_268, hka06_2, hka06_5, hka06_3, hka06_269, hka06_160, hka06_270, hka06_4, hka06_5, hka06_3, hka06_269, hka06_160, hka06_270, hka06_4, hka06_5, hka06_3, hka06_269, hka06_160, hka06_270, hka06_4, hka06_5, hka06_336, hka06_336]
def hka06_427 : ai_N := (.ofNat 0, .ofNat 0, [(39, .ofNat 0, .ofNat 0)])
def hka06_428 : ai_V := .inl (false, hka06_427)
def hka06_429 : ai_V := .inl (false, hka06_304)
def hka06_430 : ai_C := .inr (.inr (8, [hka06_187, hka06_188, hka06_273, hka06_275, hka06_193, hka06_194, hka06_277, hka06_197, hka06_279, hka06_281, hka06_202, hka06_132, hka06_283, hka06_285, hka06_209, hka06_213, hka06_215, hka06_287, hka06_289, hka06_291, hka06_293, hka06_295, hka06_224, hka06_429, hka06_227, hka06_228, hka06_299, hka06_231, hka06_232, hka06_233, hka06_234, hka06_235, hka06_236, hka06_301]))
def hka06_431 : Bool × Option ai_C := (true, some hka06_430)
def hka06_432 : Bool × Option ai_C := (true, some hka06_242)
def hka06_433 : ai_W := [hka06_13, hka06_13, hka06_13, hka06_13, hka06_13, hka06_13, hka06_13, hka06_13, hka06_13, hka06_13, hka06_13, hka06_13, hka06_13, hka06_13, hka06_13, hka06_13, hka06_13, hka06_13, hka06_13, hka06_13, hka06_13, hka06_13, hka06_13, hka06_13, hka06_13, hka06_13, hka06_13, hka06_13, hka06_13, hka06_13, hka06_13, hka06_13, hka06_13, hka06_13, hka06_13, hka06_13, hka06_13, hka06_13, hka06_13, hka06_13, hka06_13, hka06_13, hka06_13, hka06_13, hka06_13, hka06_13, hka06_13, hka06_13, hka06_13, hka06_13, hka06_13, hka06_13, hka06_13, hka06_13, hka06_13, hka06_13, hka06_13, hka06_13, hka06_13, hka06_431, hka06_326, hka06_13, hka06_329, hka06_13, hka06_13, hka06_13, hka06_13, hka06_432, hka06_13, hka06_13, hka06_13, hka06_13, hka06_13, hka06_13, hka06_13, hka06_13]
def kad_514_35 : ai_Nd := (123, (hka06_426, [hka06_184, hka06_356, hka06_341, hka06_392, hka06_422, hka06_12, hka06_422, hka06_12, hka06_342, hka06_12, hka06_428, hka06_171, hka06_168, hka06_12, hka06_171, hka06_344, hka06_12, hka06_12], [], hka06_433), [.inl 15, .inl 10], [.inl 99899, .inl 2, .inr (true, .ofNat 289, 39), .inl 99876, .inl 2, .inr (true, .ofNat 4, 38), .inl 100000])
def hka06_434 : ai_E := [hka06_335, hka06_160, hka06_0, hka06_1, hka06_103, hka06_178, hka06_5, hka06_2, hka06_178, hka06_179, hka06_180, hka06_180, hka06_180, hka06_181, hka06_2, hka06_104, hka06_180, hka06_268, hka06_2, hka06_5, hka06_3, hka06_269, hka06_160, hka06_270, hka06_4, hka06_5, hka06_3, hka06_269, hka06_160, hka06_270, hka06_4, hka06_5, hka06_3, hka06_269, hka06_160, hka06_270, hka06_4, hka06_5, hka06_335]
def hka06_435 : ai_N := (.ofNat 1, .ofNat 256, [])
def hka06_436 : ai_V := .inl (false, hka06_435)
def hka06_437 : ai_N := (.ofNat 1, .ofNat 2313441, [])
def hka06_438 : ai_V := .inl (true, hka06_437)
def kad_514_36 : ai_Nd := (68, (hka06_434, [hka06_184, hka06_339, hka06_341, hka06_436, hka06_438, hka06_12, hka06_422, hka06_12, hka06_400, hka06_12, hka06_12, hka06_12, hka06_12, hka06_12, hka06_12, hka06_12, hka06_12, hka06_12], [], hka06_330), [.inl 8], [.inl 99931, .inl 1, .inr (true, .ofNat 4, 38), .inl 100000, .inl 0, .inl 0, .inl 0])
def kad_514_37 : ai_Nd := (100, (hka06_346, [hka06_184, hka06_348, hka06_341, hka06_418, hka06_420, hka06_12, hka06_422, hka06_12, hka06_342, hka06_12, hka06_344, hka06_12, hka06_12, hka06_12, hka06_12, hka06_12, hka06_12, hka06_12], [], hka06_330), [.inl 10], [.inl 99899, .inl 2, .inr (true, .ofNat 289, 38), .inl 100000, .inl 0, .inl 0, .inl 0])
def hka06_439 : ai_E := [hka06_349, hka06_160, hka06_0, hka06_1, hka06_103, hka06_178, hka06_5, hka06_2, hka06_178, hka06_179, hka06_180, hka06_180, hka06_180, hka06_181, hka06_2, hka06_104, hka06_180, hka06_268, hka06_2, hka06_5, hka06_3, hka06_269, hka06_160, hka06_270, hka06_4, hka06_5, hka06_3, hka06_269, hka06_160, hka06_270, hka06_4, hka06_5, hka06_3, hka06_269, hka06_160, hka06_270, hka06_4, hka06_5, hka06_336, hka06_336]
def kad_514_38 : ai_Nd := (123, (hka06_439, [hka06_184, hka06_352, hka06_341, hka06_408, hka06_425, hka06_12, hka06_422, hka06_12, hka06_342, hka06_12, hka06_428, hka06_171, hka06_168, hka06_12, hka06_171, hka06_344, hka06_12, hka06_12], [], hka06_433), [.inl 15, .inl 10], [.inl 99899, .inl 2, .inr (true, .ofNat 289, 39), .inl 99876, .inl 3, .inr (true, .ofNat 4, 38), .inl 100000])
def hka06_440 : ai_E := [hka06_353, hka06_160, hka06_0, hka06_1, hka06_103, hka06_178, hka06_5, hka06_2, hka06_178, hka06_179, hka06_180, hka06_180, hka06_180, hka06_181, hka06_2, hka06_104, hka06_180, hka06_268, hka06_2, hka06_5, hka06_3, hka06_269, hka06_160, hka06_270, hka06_4, hka06_5, hka06_3, hka06_269, hka06_160, hka06_270, hka06_4, hka06_5, hka06_3, hka06_269, hka06_160, hka06_270, hka06_4, hka06_5, hka06_353, hka06_336]
def hka06_441 : ai_N := (.ofNat 1, .ofNat 17, [])
def hka06_442 : ai_V := .inl (false, hka06_441)
def hka06_443 : ai_V := .inl (false, hka06_310)
def hka06_444 : ai_V := .inl (false, hka06_241)
def hka06_445 : ai_N := (.ofNat 1, .ofNat 61, [(20, .ofNat 1, .ofNat 1)])
def hka06_446 : ai_V := .inl (false, hka06_445)
def hka06_447 : ai_C := .inr (.inr (8, [hka06_187, hka06_188, hka06_273, hka06_275, hka06_193, hka06_194, hka06_277, hka06_197, hka06_279, hka06_281, hka06_202, hka06_132, hka06_283, hka06_285, hka06_209, hka06_213, hka06_215, hka06_287, hka06_289, hka06_291, hka06_293, hka06_295, hka06_224, hka06_446, hka06_227, hka06_228, hka06_299, hka06_231, hka06_232, hka06_233, hka06_234, hka06_235, hka06_236, hka06_301]))
def hka06_448 : Bool × Option ai_C := (true, some hka06_447)
def hka06_449 : ai_W := [hka06_13, hka06_13, hka06_13, hka06_13, hka06_13, hka06_13, hka06_13, hka06_13, hka06_13, hka06_13, hka06_13, hka06_13, hka06_13, hka06_13, hka06_13, hka06_13, hka06_13, hka06_13, hka06_13, hka06_13, hka06_13, hka06_13, hka06_13, hka06_13, hka06_13, hka06_13, hka06_13, hka06_13, hka06_13, hka06_13, hka06_13, hka06_13, hka06_13, hka06_13, hka06_13, hka06_13, hka06_13, hka06_13, hka06_13, hka06_13, hka06_13, hka06_13, hka06_13, hka06_13, hka06_13, hka06_13, hka06_13, hka06_13, hka06_13, hka06_13, hka06_13, hka06_13, hka06_13, hka06_13, hka06_13, hka06_13, hka06_13, hka06_13, hka06_13, hka06_448, hka06_326, hka06_13, hka06_329, hka06_13, hka06_13, hka06_13, hka06_13, hka06_432, hka06_13, hka06_13, hka06_13, hka06_13, hka06_13, hka06_13, hka06_13, hka06_13]
def kad_514_39 : ai_Nd := (123, (hka06_440, [hka06_184, hka06_356, hka06_341, hka06_392, hka06_422, hka06_12, hka06_422, hka06_12, hka06_342, hka06_12, hka06_428, hka06_171, hka06_358, hka06_12, hka06_442, hka06_360, hka06_443, hka06_444], [], hka06_449), [.inl 15, .inl 10], [.inl 99899, .inl 2, .inr (true, .ofNat 289, 39), .inl 99876, .inl 1, .inr (true, .ofNat 4, 38), .inl 100000])
def hka06_450 : ai_N := (.ofNat 1, .ofNat 6230016, [])
def hka06_451 : ai_V := .inl (true, hka06_450)
def kad_514_40 : ai_Nd := (100, (hka06_337, [hka06_184, hka06_339, hka06_341, hka06_436, hka06_451, hka06_12, hka06_422, hka06_12, hka06_342, hka06_12, hka06_344, hka06_12, hka06_12, hka06_12, hka06_12, hka06_12, hka06_12, hka06_12], [], hka06_330), [.inl 10], [.inl 99899, .inl 2, .inr (true, .ofNat 289, 38), .inl 100000, .inl 0, .inl 0, .inl 0])
def hka06_452 : ai_E := [hka06_345, hka06_160, hka06_0, hka06_1, hka06_103, hka06_178, hka06_5, hka06_2, hka06_178, hka06_179, hka06_180, hka06_180, hka06_180, hka06_181, hka06_2, hka06_104, hka06_180, hka06_268, hka06_2, hka06_5, hka06_3, hka06_269, hka06_160, hka06_270, hka06_4, hka06_5, hka06_3, hka06_269, hka06_160, hka06_270, hka06_4, hka06_5, hka06_3, hka06_269, hka06_160, hka06_270, hka06_4, hka06_5, hka06_336, hka06_336]
def hka06_453 : ai_N := (.ofNat 1, .ofNat 159744, [])
def hka06_454 : ai_V := .inl (true, hka06_453)
def kad_514_41 : ai_Nd := (123, (hka06_452, [hka06_184, hka06_348, hka06_341, hka06_418, hka06_454, hka06_12, hka06_422, hka06_12, hka06_342, hka06_12, hka06_428, hka06_171, hka06_168, hka06_12, hka06_171, hka06_344, hka06_12, hka06_12], [], hka06_433), [.inl 15, .inl 10], [.inl 99899, .inl 2, .inr (true, .ofNat 289, 39), .inl 99876, .inl 4, .inr (true, .ofNat 4, 38), .inl 100000])
def hka06_455 : ai_E := [hka06_349, hka06_160, hka06_0, hka06_1, hka06_103, hka06_178, hka06_5, hka06_2, hka06_178, hka06_179, hka06_180, hka06_180, hka06_180, hka06_181, hka06_2, hka06_104, hka06_180, hka06_268, hka06_2, hka06_5, hka06_3, hka06_269, hka06_160, hka06_270, hka06_4, hka06_5, hka06_3, hka06_269, hka06_160, hka06_270, hka06_4, hka06_5, hka06_3, hka06_269, hka06_160, hka06_270, hka06_4, hka06_5, hka06_353, hka06_336]
def hka06_456 : ai_N := (.ofNat 1, .ofNat 4096, [])
def hka06_457 : ai_V := .inl (true, hka06_456)
def kad_514_42 : ai_Nd := (123, (hka06_455, [hka06_184, hka06_352, hka06_341, hka06_408, hka06_457, hka06_12, hka06_422, hka06_12, hka06_342, hka06_12, hka06_428, hka06_171, hka06_358, hka06_12, hka06_442, hka06_360, hka06_443, hka06_444], [], hka06_449), [.inl 15, .inl 10], [.inl 99899, .inl 2, .inr (true, .ofNat 289, 39), .inl 99876, .inl 2, .inr (true, .ofNat 4, 38), .inl 100000])
def hka06_458 : ai_E := [hka06_353, hka06_160, hka06_0, hka06_1, hka06_103, hka06_178, hka06_5, hka06_2, hka06_178, hka06_179, hka06_180, hka06_180, hka06_180, hka06_181, hka06_2, hka06_104, hka06_180, hka06_268, hka06_2, hka06_5, hka06_3, hka06_269, hka06_160, hka06_270, hka06_4, hka06_5, hka06_3, hka06_269, hka06_160, hka06_270, hka06_4, hka06_5, hka06_3, hka06_269, hka06_160, hka06_270, hka06_4, hka06_5, hka06_353, hka06_1]
def hka06_459 : ai_N := (.ofNat 1, .ofNat 4, [(39, .ofNat 0, .ofNat 0)])
def hka06_460 : ai_V := .inl (false, hka06_459)
def kad_514_43 : ai_Nd := (100, (hka06_458, [hka06_184, hka06_356, hka06_341, hka06_392, hka06_422, hka06_12, hka06_422, hka06_12, hka06_71, hka06_12, hka06_460, hka06_443, hka06_358, hka06_12, hka06_442, hka06_360, hka06_443, hka06_444], [], hka06_449), [.inl 15, .inl 10], [.inl 99899, .inl 1, .inr (true, .ofNat 289, 39), .inl 100000, .inl 0, .inl 0, .inl 0])
def hka06_461 : ai_E := [hka06_335, hka06_160, hka06_0, hka06_1, hka06_103, hka06_178, hka06_5, hka06_2, hka06_178, hka06_179, hka06_180, hka06_180, hka06_180, hka06_181, hka06_2, hka06_104, hka06_180, hka06_268, hka06_2, hka06_5, hka06_3, hka06_269, hka06_160, hka06_270, hka06_4, hka06_5, hka06_3, hka06_269, hka06_160, hka06_270, hka06_4, hka06_5, hka06_3, hka06_269, hka06_160, hka06_270, hka06_4, hka06_5, hka06_336, hka06_336]
def hka06_462 : ai_N := (.ofNat 1, .ofNat 10223616, [])
def hka06_463 : ai_V := .inl (true, hka06_462)
def kad_514_44 : ai_Nd := (123, (hka06_461, [hka06_184, hka06_339, hka06_341, hka06_436, hka06_463, hka06_12, hka06_422, hka06_12, hka06_342, hka06_12, hka06_428, hka06_171, hka06_168, hka06_12, hka06_171, hka06_344, hka06_12, hka06_12], [], hka06_433), [.inl 15, .inl 10], [.inl 99899, .inl 2, .inr (true, .ofNat 289, 39), .inl 99876, .inl 5, .inr (true, .ofNat 4, 38), .inl 100000])
def hka06_464 : ai_E := [hka06_345, hka06_160, hka06_0, hka06_1, hka06_103, hka06_178, hka06_5, hka06_2, hka06_178, hka06_179, hka06_180, hka06_180, hka06_180, hka06_181, hka06_2, hka06_104, hka06_180, hka06_268, hka06_2, hka06_5, hka06_3, hka06_269, hka06_160, hka06_270, hka06_4, hka06_5, hka06_3, hka06_269, hka06_160, hka06_270, hka06_4, hka06_5, hka06_3, hka06_269, hka06_160, hka06_270, hka06_4, hka06_5, hka06_353, hka06_336]
def hka06_465 : ai_N := (.ofNat 1, .ofNat 262144, [])
def hka06_466 : ai_V := .inl (true, hka06_465)
def kad_514_45 : ai_Nd := (123, (hka06_464, [hka06_184, hka06_348, hka06_341, hka06_418, hka06_466, hka06_12, hka06_422, hka06_12, hka06_342, hka06_12, hka06_428, hka06_171, hka06_358, hka06_12, hka06_442, hka06_360, hka06_443, hka06_444], [], hka06_449), [.inl 15, .inl 10], [.inl 99899, .inl 2, .inr (true, .ofNat 289, 39), .inl 99876, .inl 3, .inr (true, .ofNat 4, 38), .inl 100000])
def hka06_467 : ai_E := [hka06_349, hka06_160, hka06_0, hka06_1, hka06_103, hka06_178, hka06_5, hka06_2, hka06_178, hka06_179, hka06_180, hka06_180, hka06_180, hka06_181, hka06_2, hka06_104, hka06_180, hka06_268, hka06_2, hka06_5, hka06_3, hka06_269, hka06_160, hka06_270, hka06_4, hka06_5, hka06_3, hka06_269, hka06_160, hka06_270, hka06_4, hka06_5, hka06_3, hka06_269, hka06_160, hka06_270, hka06_4, hka06_5, hka06_349, hka06_336]
def hka06_468 : ai_N := (.ofNat 1, .ofNat 81, [])
def hka06_469 : ai_V := .inl (true, hka06_468)
def hka06_470 : ai_N := (.ofNat 2, .ofNat 34, [])
def hka06_471 : ai_V := .inl (false, hka06_470)
def hka06_472 : ai_N := (.ofNat 2, .ofNat 62, [(20, .ofNat 2, .ofNat 2)])
def hka06_473 : ai_V := .inl (false, hka06_472)
def hka06_474 : ai_C := .inr (.inr (8, [hka06_187, hka06_188, hka06_273, hka06_275, hka06_193, hka06_194, hka06_277, hka06_197, hka06_279, hka06_281, hka06_202, hka06_132, hka06_283, hka06_285, hka06_209, hka06_213, hka06_215, hka06_287, hka06_289, hka06_291, hka06_293, hka06_295, hka06_224, hka06_473, hka06_227, hka06_228, hka06_299, hka06_231, hka06_232, hka06_233, hka06_234, hka06_235, hka06_236, hka06_301]))
def hka06_475 : Bool × Option ai_C := (true, some hka06_474)
def hka06_476 : ai_W := [hka06_13, hka06_13, hka06_13, hka06_13, hka06_13, hka06_13, hka06_13, hka06_13, hka06_13, hka06_13, hka06_13, hka06_13, hka06_13, hka06_13, hka06_13, hka06_13, hka06_13, hka06_13, hka06_13, hka06_13, hka06_13, hka06_13, hka06_13, hka06_13, hka06_13, hka06_13, hka06_13, hka06_13, hka06_13, hka06_13, hka06_13, hka06_13, hka06_13, hka06_13, hka06_13, hka06_13, hka06_13, hka06_13, hka06_13, hka06_13, hka06_13, hka06_13, hka06_13, hka06_13, hka06_13, hka06_13, hka06_13, hka06_13, hka06_13, hka06_13, hka06_13, hka06_13, hka06_13, hka06_13, hka06_13, hka06_13, hka06_13, hka06_13, hka06_13, hka06_475, hka06_326, hka06_13, hka06_329, hka06_13, hka06_13, hka06_13, hka06_13, hka06_432, hka06_13, hka06_13, hka06_13, hka06_13, hka06_13, hka06_13, hka06_13, hka06_13]
def kad_514_46 : ai_Nd := (123, (hka06_467, [hka06_184, hka06_352, hka06_341, hka06_408, hka06_457, hka06_12, hka06_422, hka06_12, hka06_342, hka06_12, hka06_428, hka06_171, hka06_469, hka06_12, hka06_471, hka06_369, hka06_443, hka06_444], [], hka06_476), [.inl 15, .inl 10], [.inl 99899, .inl 2, .inr (true, .ofNat 289, 39), .inl 99876, .inl 1, .inr (true, .ofNat 4, 38), .inl 100000])
def hka06_477 : Int × Int := (.ofNat 1, .ofNat 3)
def hka06_478 : ai_E := [hka06_353, hka06_160, hka06_0, hka06_1, hka06_103, hka06_178, hka06_5, hka06_2, hka06_178, hka06_179, hka06_180, hka06_180, hka06_180, hka06_181, hka06_2, hka06_104, hka06_180, hka06_268, hka06_2, hka06_5, hka06_3, hka06_269, hka06_160, hka06_270, hka06_4, hka06_5, hka06_3, hka06_269, hka06_160, hka06_270, hka06_4, hka06_5, hka06_3, hka06_269, hka06_160, hka06_270, hka06_4, hka06_5, hka06_336, hka06_477]
def hka06_479 : ai_N := (.ofNat 2, .ofNat 4, [])
def hka06_480 : ai_V := .inl (false, hka06_479)
def hka06_481 : ai_N := (.ofNat 1, .ofNat 3, [(39, .ofNat 0, .ofNat 0)])
def hka06_482 : ai_V := .inl (false, hka06_481)
def hka06_483 : ai_N := (.ofNat 1, .ofNat 3, [])
def hka06_484 : ai_V := .inl (false, hka06_483)
def kad_514_47 : ai_Nd := (123, (hka06_478, [hka06_184, hka06_356, hka06_341, hka06_480, hka06_422, hka06_12, hka06_422, hka06_12, hka06_71, hka06_12, hka06_482, hka06_484, hka06_168, hka06_12, hka06_171, hka06_344, hka06_443, hka06_444], [], hka06_433), [.inl 15, .inl 10], [.inl 99899, .inl 1, .inr (true, .ofNat 289, 39), .inl 99876, .inl 2, .inr (true, .ofNat 4, 38), .inl 100000])
def hka06_485 : ai_E := [hka06_335, hka06_160, hka06_0, hka06_1, hka06_103, hka06_178, hka06_5, hka06_2, hka06_178, hka06_179, hka06_180, hka06_180, hka06_180, hka06_181, hka06_2, hka06_104, hka06_180, hka06_268, hka06_2, hka06_5, hka06_3, hka06_269, hka06_160, hka06_270, hka06_4, hka06_5, hka06_3, hka06_269, hka06_160, hka06_270, hka06_4, hka06_5, hka06_3, hka06_269, hka06_160, hka06_270, hka06_4, hka06_5, hka06_353, hka06_336]
def hka06_486 : ai_N := (.ofNat 1, .ofNat 2147483647, [])
def hka06_487 : ai_V := .inl (true, hka06_486)
def kad_514_48 : ai_Nd := (123, (hka06_485, [hka06_184, hka06_339, hka06_341, hka06_436, hka06_487, hka06_12, hka06_422, hka06_12, hka06_342, hka06_12, hka06_428, hka06_171, hka06_358, hka06_12, hka06_442, hka06_360, hka06_443, hka06_444], [], hka06_449), [.inl 15, .inl 10], [.inl 99899, .inl 2, .inr (true, .ofNat 289, 39), .inl 99876, .inl 4, .inr (true, .ofNat 4, 38), .inl 100000])
def hka06_488 : ai_E := [hka06_345, hka06_160, hka06_0, hka06_1, hka06_103, hka06_178, hka06_5, hka06_2, hka06_178, hka06_179, hka06_180, hka06_180, hka06_180, hka06_181, hka06_2, hka06_104, hka06_180, hka06_268, hka06_2, hka06_5, hka06_3, hka06_269, hka06_160, hka06_270, hka06_4, hka06_5, hka06_3, hka06_269, hka06_160, hka06_270, hka06_4, hka06_5, hka06_3, hka06_269, hka06_160, hka06_270, hka06_4, hka06_5, hka06_349, hka06_336]
def kad_514_49 : ai_Nd := (123, (hka06_488, [hka06_184, hka06_348, hka06_341, hka06_418, hka06_466, hka06_12, hka06_422, hka06_12, hka06_342, hka06_12, hka06_428, hka06_171, hka06_469, hka06_12, hka06_471, hka06_369, hka06_443, hka06_444], [], hka06_476), [.inl 15, .inl 10], [.inl 99899, .inl 2, .inr (true, .ofNat 289, 39), .inl 99876, .inl 2, .inr (true, .ofNat 4, 38), .inl 100000])
def hka06_489 : Int × Int := (.ofNat 1, .ofNat 17)
def hka06_490 : ai_E := [hka06_349, hka06_160, hka06_0, hka06_1, hka06_103, hka06_178, hka06_5, hka06_2, hka06_178, hka06_179, hka06_180, hka06_180, hka06_180, hka06_181, hka06_2, hka06_104, hka06_180, hka06_268, hka06_2, hka06_5, hka06_3, hka06_269, hka06_160, hka06_270, hka06_4, hka06_5, hka06_3, hka06_269, hka06_160, hka06_270, hka06_4, hka06_5, hka06_3, hka06_269, hka06_160, hka06_270, hka06_4, hka06_5, hka06_349, hka06_489]
def hka06_491 : ai_N := (.ofNat 1, .ofNat 17, [(39, .ofNat 0, .ofNat 0)])
def hka06_492 : ai_V := .inl (false, hka06_491)
def hka06_493 : ai_V := .inl (false, hka06_50)
def kad_514_50 : ai_Nd := (100, (hka06_490, [hka06_184, hka06_352, hka06_341, hka06_408, hka06_457, hka06_12, hka06_422, hka06_12, hka06_71, hka06_12, hka06_492, hka06_493, hka06_469, hka06_12, hka06_471, hka06_369, hka06_443, hka06_444], [], hka06_476), [.inl 15, .inl 10], [.inl 99899, .inl 1, .inr (true, .ofNat 289, 39), .inl 100000, .inl 0, .inl 0, .inl 0])
def hka06_494 : ai_E := [hka06_353, hka06_160, hka06_0, hka06_1, hka06_103, hka06_178, hka06_5, hka06_2, hka06_178, hka06_179, hka06_180, hka06_180, hka06_180, hka06_181, hka06_2, hka06_104, hka06_180, hka06_268, hka06_2, hka06_5, hka06_3, hka06_269, hka06_160, hka06_270, hka06_4, hka06_5, hka06_3, hka06_269, hka06_160, hka06_270, hka06_4, hka06_5, hka06_3, hka06_269, hka06_160, hka06_270, hka06_4, hka06_5, hka06_353, hka06_477]
def kad_514_51 : ai_Nd := (123, (hka06_494, [hka06_184, hka06_356, hka06_341, hka06_480, hka06_422, hka06_12, hka06_422, hka06_12, hka06_71, hka06_12, hka06_482, hka06_443, hka06_358, hka06_12, hka06_442, hka06_360, hka06_443, hka06_444], [], hka06_449), [.inl 15, .inl 10], [.inl 99899, .inl 1, .inr (true, .ofNat 289, 39), .inl 99876, .inl 1, .inr (true, .ofNat 4, 38), .inl 100000])
def hka06_495 : ai_E := [hka06_335, hka06_160, hka06_0, hka06_1, hka06_103, hka06_178, hka06_5, hka06_2, hka06_178, hka06_179, hka06_180, hka06_180, hka06_180, hka06_181, hka06_2, hka06_104, hka06_180, hka06_268, hka06_2, hka06_5, hka06_3, hka06_269, hka06_160, hka06_270, hka06_4, hka06_5, hka06_3, hka06_269, hka06_160, hka06_270, hka06_4, hka06_5, hka06_3, hka06_269, hka06_160, hka06_270, hka06_4, hka06_5, hka06_349, hka06_336]
def kad_514_52 : ai_Nd := (123, (hka06_495, [hka06_184, hka06_339, hka06_341, hka06_436, hka06_487, hka06_12, hka06_422, hka06_12, hka06_342, hka06_12, hka06_428, hka06_171, hka06_469, hka06_12, hka06_471, hka06_369, hka06_443, hka06_444], [], hka06_476), [.inl 15, .inl 10], [.inl 99899, .inl 2, .inr (true, .ofNat 289, 39), .inl 99876, .inl 3, .inr (true, .ofNat 4, 38), .inl 100000])
def hka06_496 : ai_E := [hka06_345, hka06_160, hka06_0, hka06_1, hka06_103, hka06_178, hka06_5, hka06_2, hka06_178, hka06_179, hka06_180, hka06_180, hka06_180, hka06_181, hka06_2, hka06_104, hka06_180, hka06_268, hka06_2, hka06_5, hka06_3, hka06_269, hka06_160, hka06_270, hka06_4, hka06_5, hka06_3, hka06_269, hka06_160, hka06_270, hka06_4, hka06_5, hka06_3, hka06_269, hka06_160, hka06_270, hka06_4, hka06_5, hka06_345, hka06_336]
def hka06_497 : ai_N := (.ofNat 1, .ofNat 729, [])
def hka06_498 : ai_V := .inl (true, hka06_497)
def hka06_499 : ai_N := (.ofNat 3, .ofNat 51, [])
def hka06_500 : ai_V := .inl (false, hka06_499)
def hka06_501 : ai_N := (.ofNat 3, .ofNat 63, [(20, .ofNat 3, .ofNat 3)])
def hka06_502 : ai_V := .inl (false, hka06_501)
def hka06_503 : ai_C := .inr (.inr (8, [hka06_187, hka06_188, hka06_273, hka06_275, hka06_193, hka06_194, hka06_277, hka06_197, hka06_279, hka06_281, hka06_202, hka06_132, hka06_283, hka06_285, hka06_209, hka06_213, hka06_215, hka06_287, hka06_289, hka06_291, hka06_293, hka06_295, hka06_224, hka06_502, hka06_227, hka06_228, hka06_299, hka06_231, hka06_232, hka06_233, hka06_234, hka06_235, hka06_236, hka06_301]))
def hka06_504 : Bool × Option ai_C := (true, some hka06_503)
def hka06_505 : ai_W := [hka06_13, hka06_13, hka06_13, hka06_13, hka06_13, hka06_13, hka06_13, hka06_13, hka06_13, hka06_13, hka06_13, hka06_13, hka06_13, hka06_13, hka06_13, hka06_13, hka06_13, hka06_13, hka06_13, hka06_13, hka06_13, hka06_13, hka06_13, hka06_13, hka06_13, hka06_13, hka06_13, hka06_13, hka06_13, hka06_13, hka06_13, hka06_13, hka06_13, hka06_13, hka06_13, hka06_13, hka06_13, hka06_13, hka06_13, hka06_13, hka06_13, hka06_13, hka06_13, hka06_13, hka06_13, hka06_13, hka06_13, hka06_13, hka06_13, hka06_13, hka06_13, hka06_13, hka06_13, hka06_13, hka06_13, hka06_13, hka06_13, hka06_13, hka06_13, hka06_504, hka06_326, hka06_13, hka06_329, hka06_13, hka06_13, hka06_13, hka06_13, hka06_432, hka06_13, hka06_13, hka06_13, hka06_13, hka06_13, hka06_13, hka06_13, hka06_13]
def kad_514_53 : ai_Nd := (123, (hka06_496, [hka06_184, hka06_348, hka06_341, hka06_418, hka06_466, hka06_12, hka06_422, hka06_12, hka06_342, hka06_12, hka06_428, hka06_171, hka06_498, hka06_12, hka06_500, hka06_385, hka06_443, hka06_444], [], hka06_505), [.inl 15, .inl 10], [.inl 99899, .inl 2, .inr (true, .ofNat 289, 39), .inl 99876, .inl 1, .inr (true, .ofNat 4, 38), .inl 100000])
def hka06_506 : Int × Int := (.ofNat 1, .ofNat 15)
def hka06_507 : ai_E := [hka06_349, hka06_160, hka06_0, hka06_1, hka06_103, hka06_178, hka06_5, hka06_2, hka06_178, hka06_179, hka06_180, hka06_180, hka06_180, hka06_181, hka06_2, hka06_104, hka06_180, hka06_268, hka06_2, hka06_5, hka06_3, hka06_269, hka06_160, hka06_270, hka06_4, hka06_5, hka06_3, hka06_269, hka06_160, hka06_270, hka06_4, hka06_5, hka06_3, hka06_269, hka06_160, hka06_270, hka06_4, hka06_5, hka06_336, hka06_506]
def hka06_508 : ai_N := (.ofNat 2, .ofNat 16, [])
def hka06_509 : ai_V := .inl (false, hka06_508)
def hka06_510 : ai_N := (.ofNat 1, .ofNat 15, [(39, .ofNat 0, .ofNat 0)])
def hka06_511 : ai_V := .inl (false, hka06_510)
def hka06_512 : ai_N := (.ofNat 1, .ofNat 15, [])
def hka06_513 : ai_V := .inl (false, hka06_512)
def kad_514_54 : ai_Nd := (123, (hka06_507, [hka06_184, hka06_352, hka06_341, hka06_509, hka06_457, hka06_12, hka06_422, hka06_12, hka06_71, hka06_12, hka06_511, hka06_513, hka06_168, hka06_12, hka06_171, hka06_344, hka06_443, hka06_444], [], hka06_433), [.inl 15, .inl 10], [.inl 99899, .inl 1, .inr (true, .ofNat 289, 39), .inl 99876, .inl 3, .inr (true, .ofNat 4, 38), .inl 100000])
def hka06_514 : ai_E := [hka06_335, hka06_160, hka06_0, hka06_1, hka06_103, hka06_178, hka06_5, hka06_2, hka06_178, hka06_179, hka06_180, hka06_180, hka06_180, hka06_181, hka06_2, hka06_104, hka06_180, hka06_268, hka06_2, hka06_5, hka06_3, hka06_269, hka06_160, hka06_270, hka06_4, hka06_5, hka06_3, hka06_269, hka06_160, hka06_270, hka06_4, hka06_5, hka06_3, hka06_269, hka06_160, hka06_270, hka06_4, hka06_5, hka06_345, hka06_336]
def kad_514_55 : ai_Nd := (123, (hka06_514, [hka06_184, hka06_339, hka06_341, hka06_436, hka06_487, hka06_12, hka06_422, hka06_12, hka06_342, hka06_12, hka06_428, hka06_171, hka06_498, hka06_12, hka06_500, hka06_385, hka06_443, hka06_444], [], hka06_505), [.inl 15, .inl 10], [.inl 99899, .inl 2, .inr (true, .ofNat 289, 39), .inl 99876, .inl 2, .inr (true, .ofNat 4, 38), .inl 100000])
def hka06_515 : Int × Int := (.ofNat 1, .ofNat 65)
def hka06_516 : ai_E := [hka06_345, hka06_160, hka06_0, hka06_1, hka06_103, hka06_178, hka06_5, hka06_2, hka06_178, hka06_179, hka06_180, hka06_180, hka06_180, hka06_181, hka06_2, hka06_104, hka06_180, hka06_268, hka06_2, hka06_5, hka06_3, hka06_269, hka06_160, hka06_270, hka06_4, hka06_5, hka06_3, hka06_269, hka06_160, hka06_270, hka06_4, hka06_5, hka06_3, hka06_269, hka06_160, hka06_270, hka06_4, hka06_5, hka06_345, hka06_515]
def hka06_517 : ai_N := (.ofNat 1, .ofNat 65, [(39, .ofNat 0, .ofNat 0)])
def hka06_518 : ai_V := .inl (false, hka06_517)
def hka06_519 : ai_N := (.ofNat 0, .ofNat 64, [])
def hka06_520 : ai_V := .inl (false, hka06_519)
def kad_514_56 : ai_Nd := (100, (hka06_516, [hka06_184, hka06_348, hka06_341, hka06_418, hka06_466, hka06_12, hka06_422, hka06_12, hka06_71, hka06_12, hka06_518, hka06_520, hka06_498, hka06_12, hka06_500, hka06_385, hka06_443, hka06_444], [], hka06_505), [.inl 15, .inl 10], [.inl 99899, .inl 1, .inr (true, .ofNat 289, 39), .inl 100000, .inl 0, .inl 0, .inl 0])
def hka06_521 : ai_E := [hka06_349, hka06_160, hka06_0, hka06_1, hka06_103, hka06_178, hka06_5, hka06_2, hka06_178, hka06_179, hka06_180, hka06_180, hka06_180, hka06_181, hka06_2, hka06_104, hka06_180, hka06_268, hka06_2, hka06_5, hka06_3, hka06_269, hka06_160, hka06_270, hka06_4, hka06_5, hka06_3, hka06_269, hka06_160, hka06_270, hka06_4, hka06_5, hka06_3, hka06_269, hka06_160, hka06_270, hka06_4, hka06_5, hka06_353, hka06_506]
def hka06_522 : ai_N := (.ofNat 0, .ofNat 15, [])
def hka06_523 : ai_V := .inl (false, hka06_522)
def kad_514_57 : ai_Nd := (123, (hka06_521, [hka06_184, hka06_352, hka06_341, hka06_509, hka06_457, hka06_12, hka06_422, hka06_12, hka06_71, hka06_12, hka06_511, hka06_523, hka06_358, hka06_12, hka06_442, hka06_360, hka06_443, hka06_444], [], hka06_449), [.inl 15, .inl 10], [.inl 99899, .inl 1, .inr (true, .ofNat 289, 39), .inl 99876, .inl 2, .inr (true, .ofNat 4, 38), .inl 100000])
def hka06_524 : ai_E := [hka06_335, hka06_160, hka06_0, hka06_1, hka06_103, hka06_178, hka06_5, hka06_2, hka06_178, hka06_179, hka06_180, hka06_180, hka06_180, hka06_181, hka06_2, hka06_104, hka06_180, hka06_268, hka06_2, hka06_5, hka06_3, hka06_269, hka06_160, hka06_270, hka06_4, hka06_5, hka06_3, hka06_269, hka06_160, hka06_270, hka06_4, hka06_5, hka06_3, hka06_269, hka06_160, hka06_270, hka06_4, hka06_5, hka06_335, hka06_336]
def hka06_525 : ai_N := (.ofNat 1, .ofNat 6561, [])
def hka06_526 : ai_V := .inl (true, hka06_525)
def hka06_527 : ai_N := (.ofNat 4, .ofNat 68, [])
def hka06_528 : ai_V := .inl (false, hka06_527)
def hka06_529 : ai_N := (.ofNat 4, .ofNat 64, [(20, .ofNat 4, .ofNat 4)])
def hka06_530 : ai_V := .inl (false, hka06_529)
def hka06_531 : ai_C := .inr (.inr (8, [hka06_187, hka06_188, hka06_273, hka06_275, hka06_193, hka06_194, hka06_277, hka06_197, hka06_279, hka06_281, hka06_202, hka06_132, hka06_283, hka06_285, hka06_209, hka06_213, hka06_215, hka06_287, hka06_289, hka06_291, hka06_293, hka06_295, hka06_224, hka06_530, hka06_227, hka06_228, hka06_299, hka06_231, hka06_232, hka06_233, hka06_234, hka06_235, hka06_236, hka06_301]))
def hka06_532 : Bool × Option ai_C := (true, some hka06_531)
def hka06_533 : ai_W := [hka06_13, hka06_13, hka06_13, hka06_13, hka06_13, hka06_13, hka06_13, hka06_13, hka06_13, hka06_13, hka06_13, hka06_13, hka06_13, hka06_13, hka06_13, hka06_13, hka06_13, hka06_13, hka06_13, hka06_13, hka06_13, hka06_13, hka06_13, hka06_13, hka06_13, hka06_13, hka06_13, hka06_13, hka06_13, hka06_13, hka06_13, hka06_13, hka06_13, hka06_13, hka06_13, hka06_13, hka06_13, hka06_13, hka06_13, hka06_13, hka06_13, hka06_13, hka06_13, hka06_13, hka06_13, hka06_13, hka06_13, hka06_13, hka06_13, hka06_13, hka06_13, hka06_13, hka06_13, hka06_13, hka06_13, hka06_13, hka06_13, hka06_13, hka06_13, hka06_532, hka06_326, hka06_13, hka06_329, hka06_13, hka06_13, hka06_13, hka06_13, hka06_432, hka06_13, hka06_13, hka06_13, hka06_13, hka06_13, hka06_13, hka06_13, hka06_13]
def kad_514_58 : ai_Nd := (123, (hka06_524, [hka06_184, hka06_339, hka06_341, hka06_436, hka06_487, hka06_12, hka06_422, hka06_12, hka06_342, hka06_12, hka06_428, hka06_171, hka06_526, hka06_12, hka06_528, hka06_400, hka06_443, hka06_444], [], hka06_533), [.inl 15, .inl 10], [.inl 99899, .inl 2, .inr (true, .ofNat 289, 39), .inl 99876, .inl 1, .inr (true, .ofNat 4, 38), .inl 100000])
def hka06_534 : Int × Int := (.ofNat 1, .ofNat 63)
def hka06_535 : ai_E := [hka06_345, hka06_160, hka06_0, hka06_1, hka06_103, hka06_178, hka06_5, hka06_2, hka06_178, hka06_179, hka06_180, hka06_180, hka06_180, hka06_181, hka06_2, hka06_104, hka06_180, hka06_268, hka06_2, hka06_5, hka06_3, hka06_269, hka06_160, hka06_270, hka06_4, hka06_5, hka06_3, hka06_269, hka06_160, hka06_270, hka06_4, hka06_5, hka06_3, hka06_269, hka06_160, hka06_270, hka06_4, hka06_5, hka06_336, hka06_534]
def hka06_536 : ai_N := (.ofNat 2, .ofNat 64, [])
def hka06_537 : ai_V := .inl (false, hka06_536)
def hka06_538 : ai_N := (.ofNat 1, .ofNat 63, [(39, .ofNat 0, .ofNat 0)])
def hka06_539 : ai_V := .inl (false, hka06_538)
def hka06_540 : ai_N := (.ofNat 1, .ofNat 63, [])
def hka06_541 : ai_V := .inl (false, hka06_540)
def kad_514_59 : ai_Nd := (123, (hka06_535, [hka06_184, hka06_348, hka06_341, hka06_537, hka06_466, hka06_12, hka06_422, hka06_12, hka06_71, hka06_12, hka06_539, hka06_541, hka06_168, hka06_12, hka06_171, hka06_344, hka06_443, hka06_444], [], hka06_433), [.inl 15, .inl 10], [.inl 99899, .inl 1, .inr (true, .ofNat 289, 39), .inl 99876, .inl 4, .inr (true, .ofNat 4, 38), .inl 100000])
def hka06_542 : ai_E := [hka06_349, hka06_160, hka06_0, hka06_1, hka06_103, hka06_178, hka06_5, hka06_2, hka06_178, hka06_179, hka06_180, hka06_180, hka06_180, hka06_181, hka06_2, hka06_104, hka06_180, hka06_268, hka06_2, hka06_5, hka06_3, hka06_269, hka06_160, hka06_270, hka06_4, hka06_5, hka06_3, hka06_269, hka06_160, hka06_270, hka06_4, hka06_5, hka06_3, hka06_269, hka06_160, hka06_270, hka06_4, hka06_5, hka06_349, hka06_506]
def kad_514_60 : ai_Nd := (123, (hka06_542, [hka06_184, hka06_352, hka06_341, hka06_509, hka06_457, hka06_12, hka06_422, hka06_12, hka06_71, hka06_12, hka06_511, hka06_523, hka06_469, hka06_12, hka06_471, hka06_369, hka06_443, hka06_444], [], hka06_476), [.inl 15, .inl 10], [.inl 99899, .inl 1, .inr (true, .ofNat 289, 39), .inl 99876, .inl 1, .inr (true, .ofNat 4, 38), .inl 100000])
def hka06_543 : Int × Int := (.ofNat 1, .ofNat 289)
def hka06_544 : ai_E := [hka06_335, hka06_160, hka06_0, hka06_1, hka06_103, hka06_178, hka06_5, hka06_2, hka06_178, hka06_179, hka06_180, hka06_180, hka06_180, hka06_181, hka06_2, hka06_104, hka06_180, hka06_268, hka06_2, hka06_5, hka06_3, hka06_269, hka06_160, hka06_270, hka06_4, hka06_5, hka06_3, hka06_269, hka06_160, hka06_270, hka06_4, hka06_5, hka06_3, hka06_269, hka06_160, hka06_270, hka06_4, hka06_5, hka06_335, hka06_543]
def hka06_545 : ai_N := (.ofNat 1, .ofNat 289, [(39, .ofNat 0, .ofNat 0)])
def hka06_546 : ai_V := .inl (false, hka06_545)
def hka06_547 : ai_N := (.ofNat 0, .ofNat 288, [])
def hka06_548 : ai_V := .inl (false, hka06_547)
def kad_514_61 : ai_Nd := (100, (hka06_544, [hka06_184, hka06_339, hka06_341, hka06_436, hka06_487, hka06_12, hka06_422, hka06_12, hka06_71, hka06_12, hka06_546, hka06_548, hka06_526, hka06_12, hka06_528, hka06_400, hka06_443, hka06_444], [], hka06_533), [.inl 15, .inl 10], [.inl 99899, .inl 1, .inr (true, .ofNat 289, 39), .inl 100000, .inl 0, .inl 0, .inl 0])
def hka06_549 : ai_E := [hka06_345, hka06_160, hka06_0, hka06_1, hka06_103, hka06_178, hka06_5, hka06_2, hka06_178, hka06_179, hka06_180, hka06_180, hka06_180, hka06_181, hka06_2, hka06_104, hka06_180, hka06_268, hka06_2, hka06_5, hka06_3, hka06_269, hka06_160, hka06_270, hka06_4, hka06_5, hka06_3, hka06_269, hka06_160, hka06_270, hka06_4, hka06_5, hka06_3, hka06_269, hka06_160, hka06_270, hka06_4, hka06_5, hka06_353, hka06_534]
def hka06_550 : ai_N := (.ofNat 0, .ofNat 63, [])
def hka06_551 : ai_V := .inl (false, hka06_550)
def kad_514_62 : ai_Nd := (123, (hka06_549, [hka06_184, hka06_348, hka06_341, hka06_537, hka06_466, hka06_12, hka06_422, hka06_12, hka06_71, hka06_12, hka06_539, hka06_551, hka06_358, hka06_12, hka06_442, hka06_360, hka06_443, hka06_444], [], hka06_449), [.inl 15, .inl 10], [.inl 99899, .inl 1, .inr (true, .ofNat 289, 39), .inl 99876, .inl 3, .inr (true, .ofNat 4, 38), .inl 100000])
def hka06_552 : Int × Int := (.ofNat 1, .ofNat 255)
def hka06_553 : ai_E := [hka06_335, hka06_160, hka06_0, hka06_1, hka06_103, hka06_178, hka06_5, hka06_2, hka06_178, hka06_179, hka06_180, hka06_180, hka06_180, hka06_181, hka06_2, hka06_104, hka06_180, hka06_268, hka06_2, hka06_5, hka06_3, hka06_269, hka06_160, hka06_270, hka06_4, hka06_5, hka06_3, hka06_269, hka06_160, hka06_270, hka06_4, hka06_5, hka06_3, hka06_269, hka06_160, hka06_270, hka06_4, hka06_5, hka06_336, hka06_552]
def hka06_554 : ai_N := (.ofNat 2, .ofNat 256, [])
def hka06_555 : ai_V := .inl (false, hka06_554)
def hka06_556 : ai_N := (.ofNat 1, .ofNat 255, [(39, .ofNat 0, .ofNat 0)])
def hka06_557 : ai_V := .inl (false, hka06_556)
def hka06_558 : ai_N := (.ofNat 1, .ofNat 255, [])
def hka06_559 : ai_V := .inl (false, hka06_558)
def kad_514_63 : ai_Nd := (123, (hka06_553, [hka06_184, hka06_339, hka06_341, hka06_555, hka06_487, hka06_12, hka06_422, hka06_12, hka06_71, hka06_12, hka06_557, hka06_559, hka06_168, hka06_12, hka06_171, hka06_344, hka06_443, hka06_444], [], hka06_433), [.inl 15, .inl 10], [.inl 99899, .inl 1, .inr (true, .ofNat 289, 39), .inl 99876, .inl 5, .inr (true, .ofNat 4, 38), .inl 100000])
def hka06_560 : ai_E := [hka06_345, hka06_160, hka06_0, hka06_1, hka06_103, hka06_178, hka06_5, hka06_2, hka06_178, hka06_179, hka06_180, hka06_180, hka06_180, hka06_181, hka06_2, hka06_104, hka06_180, hka06_268, hka06_2, hka06_5, hka06_3, hka06_269, hka06_160, hka06_270, hka06_4, hka06_5, hka06_3, hka06_269, hka06_160, hka06_270, hka06_4, hka06_5, hka06_3, hka06_269, hka06_160, hka06_270, hka06_4, hka06_5, hka06_349, hka06_534]
def kad_514_64 : ai_Nd := (123, (hka06_560, [hka06_184, hka06_348, hka06_341, hka06_537, hka06_466, hka06_12, hka06_422, hka06_12, hka06_71, hka06_12, hka06_539, hka06_551, hka06_469, hka06_12, hka06_471, hka06_369, hka06_443, hka06_444], [], hka06_476), [.inl 15, .inl 10], [.inl 99899, .inl 1, .inr (true, .ofNat 289, 39), .inl 99876, .inl 2, .inr (true, .ofNat 4, 38), .inl 100000])
def hka06_561 : ai_E := [hka06_335, hka06_160, hka06_0, hka06_1, hka06_103, hka06_178, hka06_5, hka06_2, hka06_178, hka06_179, hka06_180, hka06_180, hka06_180, hka06_181, hka06_2, hka06_104, hka06_180, hka06_268, hka06_2, hka06_5, hka06_3, hka06_269, hka06_160, hka06_270, hka06_4, hka06_5, hka06_3, hka06_269, hka06_160, hka06_270, hka06_4, hka06_5, hka06_3, hka06_269, hka06_160, hka06_270, hka06_4, hka06_5, hka06_353, hka06_552]
def hka06_562 : ai_N := (.ofNat 0, .ofNat 255, [])
def hka06_563 : ai_V := .inl (false, hka06_562)
def kad_514_65 : ai_Nd := (123, (hka06_561, [hka06_184, hka06_339, hka06_341, hka06_555, hka06_487, hka06_12, hka06_422, hka06_12, hka06_71, hka06_12, hka06_557, hka06_563, hka06_358, hka06_12, hka06_442, hka06_360, hka06_443, hka06_444], [], hka06_449), [.inl 15, .inl 10], [.inl 99899, .inl 1, .inr (true, .ofNat 289, 39), .inl 99876, .inl 4, .inr (true, .ofNat 4, 38), .inl 100000])
def hka06_564 : Int × Int := (.ofNat 1, .ofNat 64)
def hka06_565 : ai_E := [hka06_345, hka06_160, hka06_0, hka06_1, hka06_103, hka06_178, hka06_5, hka06_2, hka06_178, hka06_179, hka06_180, hka06_180, hka06_180, hka06_181, hka06_2, hka06_104, hka06_180, hka06_268, hka06_2, hka06_5, hka06_3, hka06_269, hka06_160, hka06_270, hka06_4, hka06_5, hka06_3, hka06_269, hka06_160, hka06_270, hka06_4, hka06_5, hka06_3, hka06_269, hka06_160, hka06_270, hka06_4, hka06_5, hka06_345, hka06_564]
def hka06_566 : ai_N := (.ofNat 1, .ofNat 64, [(39, .ofNat 0, .ofNat 0)])
def hka06_567 : ai_V := .inl (false, hka06_566)
def kad_514_66 : ai_Nd := (123, (hka06_565, [hka06_184, hka06_348, hka06_341, hka06_537, hka06_466, hka06_12, hka06_422, hka06_12, hka06_71, hka06_12, hka06_567, hka06_520, hka06_498, hka06_12, hka06_500, hka06_385, hka06_443, hka06_444], [], hka06_505), [.inl 15, .inl 10], [.inl 99899, .inl 1, .inr (true, .ofNat 289, 39), .inl 99876, .inl 1, .inr (true, .ofNat 4, 38), .inl 100000])
def hka06_568 : ai_E := [hka06_335, hka06_160, hka06_0, hka06_1, hka06_103, hka06_178, hka06_5, hka06_2, hka06_178, hka06_179, hka06_180, hka06_180, hka06_180, hka06_181, hka06_2, hka06_104, hka06_180, hka06_268, hka06_2, hka06_5, hka06_3, hka06_269, hka06_160, hka06_270, hka06_4, hka06_5, hka06_3, hka06_269, hka06_160, hka06_270, hka06_4, hka06_5, hka06_3, hka06_269, hka06_160, hka06_270, hka06_4, hka06_5, hka06_349, hka06_552]
def kad_514_67 : ai_Nd := (123, (hka06_568, [hka06_184, hka06_339, hka06_341, hka06_555, hka06_487, hka06_12, hka06_422, hka06_12, hka06_71, hka06_12, hka06_557, hka06_563, hka06_469, hka06_12, hka06_471, hka06_369, hka06_443, hka06_444], [], hka06_476), [.inl 15, .inl 10], [.inl 99899, .inl 1, .inr (true, .ofNat 289, 39), .inl 99876, .inl 3, .inr (true, .ofNat 4, 38), .inl 100000])
def hka06_569 : Int × Int := (.ofNat 1, .ofNat 288)
def hka06_570 : ai_E := [hka06_335, hka06_160, hka06_0, hka06_1, hka06_103, hka06_178, hka06_5, hka06_2, hka06_178, hka06_179, hka06_180, hka06_180, hka06_180, hka06_181, hka06_2, hka06_104, hka06_180, hka06_268, hka06_2, hka06_5, hka06_3, hka06_269, hka06_160, hka06_270, hka06_4, hka06_5, hka06_3, hka06_269, hka06_160, hka06_270, hka06_4, hka06_5, hka06_3, hka06_269, hka06_160, hka06_270, hka06_4, hka06_5, hka06_345, hka06_569]
def hka06_571 : ai_N := (.ofNat 1, .ofNat 288, [(39, .ofNat 0, .ofNat 0)])
def hka06_572 : ai_V := .inl (false, hka06_571)
def kad_514_68 : ai_Nd := (123, (hka06_570, [hka06_184, hka06_339, hka06_341, hka06_555, hka06_487, hka06_12, hka06_422, hka06_12, hka06_71, hka06_12, hka06_572, hka06_548, hka06_498, hka06_12, hka06_500, hka06_385, hka06_443, hka06_444], [], hka06_505), [.inl 15, .inl 10], [.inl 99899, .inl 1, .inr (true, .ofNat 289, 39), .inl 99876, .inl 2, .inr (true, .ofNat 4, 38), .inl 100000])
def hka06_573 : ai_E := [hka06_335, hka06_160, hka06_0, hka06_1, hka06_103, hka06_178, hka06_5, hka06_2, hka06_178, hka06_179, hka06_180, hka06_180, hka06_180, hka06_181, hka06_2, hka06_104, hka06_180, hka06_268, hka06_2, hka06_5, hka06_3, hka06_269, hka06_160, hka06_270, hka06_4, hka06_5, hka06_3, hka06_269, hka06_160, hka06_270, hka06_4, hka06_5, hka06_3, hka06_269, hka06_160, hka06_270, hka06_4, hka06_5, hka06_335, hka06_569]
def kad_514_69 : ai_Nd := (123, (hka06_573, [hka06_184, hka06_339, hka06_341, hka06_555, hka06_487, hka06_12, hka06_422, hka06_12, hka06_71, hka06_12, hka06_572, hka06_548, hka06_526, hka06_12, hka06_528, hka06_400, hka06_443, hka06_444], [], hka06_533), [.inl 15, .inl 10], [.inl 99899, .inl 1, .inr (true, .ofNat 289, 39), .inl 99876, .inl 1, .inr (true, .ofNat 4, 38), .inl 100000])
def kan_514 : List ai_Nd := [kad_514_0, kad_514_1, kad_514_2, kad_514_3, kad_514_4, kad_514_5, kad_514_6, kad_514_7, kad_514_8, kad_514_9, kad_514_10, kad_514_11, kad_514_12, kad_514_13, kad_514_14, kad_514_15, kad_514_16, kad_514_17, kad_514_18, kad_514_19, kad_514_20, kad_514_21, kad_514_22, kad_514_23, kad_514_24, kad_514_25, kad_514_26, kad_514_27, kad_514_28, kad_514_29, kad_514_30, kad_514_31, kad_514_32, kad_514_33, kad_514_34, kad_514_35, kad_514_36, kad_514_37, kad_514_38, kad_514_39, kad_514_40, kad_514_41, kad_514_42, kad_514_43, kad_514_44, kad_514_45, kad_514_46, kad_514_47, kad_514_48, kad_514_49, kad_514_50, kad_514_51, kad_514_52, kad_514_53, kad_514_54, kad_514_55, kad_514_56, kad_514_57, kad_514_58, kad_514_59, kad_514_60, kad_514_61, kad_514_62, kad_514_63, kad_514_64, kad_514_65, kad_514_66, kad_514_67, kad_514_68, kad_514_69]
set_option maxRecDepth 1000000 in
theorem kav_514 : ai_ckv ka_514 [.inl 100000, .inl 0, .inl 0, .inl 0, .inl 0, .inl 0, .inl 0] kan_514 = true := by decide +kernel
set_option maxRecDepth 1000000 in
theorem kak_514_69 : ai_ckn [ka_407, ka_510, ka_512, ka_513, ka_505, ka_506, ka_507, ka_508, ka_504, ka_509, ka_363, ka_380, ka_398, ka_511] [(0, .inl 1, [.ofNat 1, .ofNat 2, .ofNat 3, .ofNat 4, .ofNat 5])] ka_514 [.inl 100000, .inl 0, .inl 0, .inl 0, .inl 0, .inl 0, .inl 0] kan_514 47 kad_514_69 = true := by decide +kernel
set_option maxRecDepth 1000000 in
theorem kak_514_68 : ai_ckn [ka_407, ka_510, ka_512, ka_513, ka_505, ka_506, ka_507, ka_508, ka_504, ka_509, ka_363, ka_380, ka_398, ka_511] [(0, .inl 1, [.ofNat 1, .ofNat 2, .ofNat 3, .ofNat 4, .ofNat 5])] ka_514 [.inl 100000, .inl 0, .inl 0, .inl 0, .inl 0, .inl 0, .inl 0] kan_514 47 kad_514_68 = true := by decide +kernel
set_option maxRecDepth 1000000 in
theorem kak_514_67 : ai_ckn [ka_407, ka_510, ka_512, ka_513, ka_505, ka_506, ka_507, ka_508, ka_504, ka_509, ka_363, ka_380, ka_398, ka_511] [(0, .inl 1, [.ofNat 1, .ofNat 2, .ofNat 3, .ofNat 4, .ofNat 5])] ka_514 [.inl 100000, .inl 0, .inl 0, .inl 0, .inl 0, .inl 0, .inl 0] kan_514 47 kad_514_67 = true := by decide +kernel
set_option maxRecDepth 1000000 in
theorem kak_514_66 : ai_ckn [ka_407, ka_510, ka_512, ka_513, ka_505, ka_506, ka_507, ka_508, ka_504, ka_509, ka_363, ka_380, ka_398, ka_511] [(0, .inl 1, [.ofNat 1, .ofNat 2, .ofNat 3, .ofNat 4, .ofNat 5])] ka_514 [.inl 100000, .inl 0, .inl 0, .inl 0, .inl 0, .inl 0, .inl 0] kan_514 47 kad_514_66 = true := by decide +kernel
set_option maxRecDepth 1000000 in
theorem kak_514_65 : ai_ckn [ka_407, ka_510, ka_512, ka_513, ka_505, ka_506, ka_507, ka_508, ka_504, ka_509, ka_363, ka_380, ka_398, ka_511] [(0, .inl 1, [.ofNat 1, .ofNat 2, .ofNat 3, .ofNat 4, .ofNat 5])] ka_514 [.inl 100000, .inl 0, .inl 0, .inl 0, .inl 0, .inl 0, .inl 0] kan_514 47 kad_514_65 = true := by decide +kernel
set_option maxRecDepth 1000000 in
theorem kak_514_64 : ai_ckn [ka_407, ka_510, ka_512, ka_513, ka_505, ka_506, ka_507, ka_508, ka_504, ka_509, ka_363, ka_380, ka_398, ka_511] [(0, .inl 1, [.ofNat 1, .ofNat 2, .ofNat 3, .ofNat 4, .ofNat 5])] ka_514 [.inl 100000, .inl 0, .inl 0, .inl 0, .inl 0, .inl 0, .inl 0] kan_514 47 kad_514_64 = true := by decide +kernel
set_option maxRecDepth 1000000 in
theorem kak_514_63 : ai_ckn [ka_407, ka_510, ka_512, ka_513, ka_505, ka_506, ka_507, ka_508, ka_504, ka_509, ka_363, ka_380, ka_398, ka_511] [(0, .inl 1, [.ofNat 1, .ofNat 2, .ofNat 3, .ofNat 4, .ofNat 5])] ka_514 [.inl 100000, .inl 0, .inl 0, .inl 0, .inl 0, .inl 0, .inl 0] kan_514 47 kad_514_63 = true := by decide +kernel
set_option maxRecDepth 1000000 in
theorem kak_514_62 : ai_ckn [ka_407, ka_510, ka_512, ka_513, ka_505, ka_506, ka_507, ka_508, ka_504, ka_509, ka_363, ka_380, ka_398, ka_511] [(0, .inl 1, [.ofNat 1, .ofNat 2, .ofNat 3, .ofNat 4, .ofNat 5])] ka_514 [.inl 100000, .inl 0, .inl 0, .inl 0, .inl 0, .inl 0, .inl 0] kan_514 47 kad_514_62 = true := by decide +kernel
set_option maxRecDepth 1000000 in
theorem kak_514_61 : ai_ckn [ka_407, ka_510, ka_512, ka_513, ka_505, ka_506, ka_507, ka_508, ka_504, ka_509, ka_363, ka_380, ka_398, ka_511] [(0, .inl 1, [.ofNat 1, .ofNat 2, .ofNat 3, .ofNat 4, .ofNat 5])] ka_514 [.inl 100000, .inl 0, .inl 0, .inl 0, .inl 0, .inl 0, .inl 0] kan_514 47 kad_514_61 = true := by decide +kernel
set_option maxRecDepth 1000000 in
theorem kak_514_60 : ai_ckn [ka_407, ka_510, ka_512, ka_513, ka_505, ka_506, ka_507, ka_508, ka_504, ka_509, ka_363, ka_380, ka_398, ka_511] [(0, .inl 1, [.ofNat 1, .ofNat 2, .ofNat 3, .ofNat 4, .ofNat 5])] ka_514 [.inl 100000, .inl 0, .inl 0, .inl 0, .inl 0, .inl 0, .inl 0] kan_514 47 kad_514_60 = true := by decide +kernel
set_option maxRecDepth 1000000 in
theorem kak_514_59 : ai_ckn [ka_407, ka_510, ka_512, ka_513, ka_505, ka_506, ka_507, ka_508, ka_504, ka_509, ka_363, ka_380, ka_398, ka_511] [(0, .inl 1, [.ofNat 1, .ofNat 2, .ofNat 3, .ofNat 4, .ofNat 5])] ka_514 [.inl 100000, .inl 0, .inl 0, .inl 0, .inl 0, .inl 0, .inl 0] kan_514 47 kad_514_59 = true := by decide +kernel
set_option maxRecDepth 1000000 in
theorem kak_514_58 : ai_ckn [ka_407, ka_510, ka_512, ka_513, ka_505, ka_506, ka_507, ka_508, ka_504, ka_509, ka_363, ka_380, ka_398, ka_511] [(0, .inl 1, [.ofNat 1, .ofNat 2, .ofNat 3, .ofNat 4, .ofNat 5])] ka_514 [.inl 100000, .inl 0, .inl 0, .inl 0, .inl 0, .inl 0, .inl 0] kan_514 47 kad_514_58 = true := by decide +kernel
set_option maxRecDepth 1000000 in
theorem kak_514_57 : ai_ckn [ka_407, ka_510, ka_512, ka_513, ka_505, ka_506, ka_507, ka_508, ka_504, ka_509, ka_363, ka_380, ka_398, ka_511] [(0, .inl 1, [.ofNat 1, .ofNat 2, .ofNat 3, .ofNat 4, .ofNat 5])] ka_514 [.inl 100000, .inl 0, .inl 0, .inl 0, .inl 0, .inl 0, .inl 0] kan_514 47 kad_514_57 = true := by decide +kernel
set_option maxRecDepth 1000000 in
theorem kak_514_56 : ai_ckn [ka_407, ka_510, ka_512, ka_513, ka_505, ka_506, ka_507, ka_508, ka_504, ka_509, ka_363, ka_380, ka_398, ka_511] [(0, .inl 1, [.ofNat 1, .ofNat 2, .ofNat 3, .ofNat 4, .ofNat 5])] ka_514 [.inl 100000, .inl 0, .inl 0, .inl 0, .inl 0, .inl 0, .inl 0] kan_514 47 kad_514_56 = true := by decide +kernel
set_option maxRecDepth 1000000 in
theorem kak_514_55 : ai_ckn [ka_407, ka_510, ka_512, ka_513, ka_505, ka_506, ka_507, ka_508, ka_504, ka_509, ka_363, ka_380, ka_398, ka_511] [(0, .inl 1, [.ofNat 1, .ofNat 2, .ofNat 3, .ofNat 4, .ofNat 5])] ka_514 [.inl 100000, .inl 0, .inl 0, .inl 0, .inl 0, .inl 0, .inl 0] kan_514 47 kad_514_55 = true := by decide +kernel
set_option maxRecDepth 1000000 in
theorem kak_514_54 : ai_ckn [ka_407, ka_510, ka_512, ka_513, ka_505, ka_506, ka_507, ka_508, ka_504, ka_509, ka_363, ka_380, ka_398, ka_511] [(0, .inl 1, [.ofNat 1, .ofNat 2, .ofNat 3, .ofNat 4, .ofNat 5])] ka_514 [.inl 100000, .inl 0, .inl 0, .inl 0, .inl 0, .inl 0, .inl 0] kan_514 47 kad_514_54 = true := by decide +kernel
set_option maxRecDepth 1000000 in
theorem kak_514_53 : ai_ckn [ka_407, ka_510, ka_512, ka_513, ka_505, ka_506, ka_507, ka_508, ka_504, ka_509, ka_363, ka_380, ka_398, ka_511] [(0, .inl 1, [.ofNat 1, .ofNat 2, .ofNat 3, .ofNat 4, .ofNat 5])] ka_514 [.inl 100000, .inl 0, .inl 0, .inl 0, .inl 0, .inl 0, .inl 0] kan_514 47 kad_514_53 = true := by decide +kernel
set_option maxRecDepth 1000000 in
theorem kak_514_52 : ai_ckn [ka_407, ka_510, ka_512, ka_513, ka_505, ka_506, ka_507, ka_508, ka_504, ka_509, ka_363, ka_380, ka_398, ka_511] [(0, .inl 1, [.ofNat 1, .ofNat 2, .ofNat 3, .ofNat 4, .ofNat 5])] ka_514 [.inl 100000, .inl 0, .inl 0, .inl 0, .inl 0, .inl 0, .inl 0] kan_514 47 kad_514_52 = true := by decide +kernel
set_option maxRecDepth 1000000 in
theorem kak_514_51 : ai_ckn [ka_407, ka_510, ka_512, ka_513, ka_505, ka_506, ka_507, ka_508, ka_504, ka_509, ka_363, ka_380, ka_398, ka_511] [(0, .inl 1, [.ofNat 1, .ofNat 2, .ofNat 3, .ofNat 4, .ofNat 5])] ka_514 [.inl 100000, .inl 0, .inl 0, .inl 0, .inl 0, .inl 0, .inl 0] kan_514 47 kad_514_51 = true := by decide +kernel
set_option maxRecDepth 1000000 in
theorem kak_514_50 : ai_ckn [ka_407, ka_510, ka_512, ka_513, ka_505, ka_506, ka_507, ka_508, ka_504, ka_509, ka_363, ka_380, ka_398, ka_511] [(0, .inl 1, [.ofNat 1, .ofNat 2, .ofNat 3, .ofNat 4, .ofNat 5])] ka_514 [.inl 100000, .inl 0, .inl 0, .inl 0, .inl 0, .inl 0, .inl 0] kan_514 47 kad_514_50 = true := by decide +kernel
set_option maxRecDepth 1000000 in
theorem kak_514_49 : ai_ckn [ka_407, ka_510, ka_512, ka_513, ka_505, ka_506, ka_507, ka_508, ka_504, ka_509, ka_363, ka_380, ka_398, ka_511] [(0, .inl 1, [.ofNat 1, .ofNat 2, .ofNat 3, .ofNat 4, .ofNat 5])] ka_514 [.inl 100000, .inl 0, .inl 0, .inl 0, .inl 0, .inl 0, .inl 0] kan_514 47 kad_514_49 = true := by decide +kernel
set_option maxRecDepth 1000000 in
theorem kak_514_48 : ai_ckn [ka_407, ka_510, ka_512, ka_513, ka_505, ka_506, ka_507, ka_508, ka_504, ka_509, ka_363, ka_380, ka_398, ka_511] [(0, .inl 1, [.ofNat 1, .ofNat 2, .ofNat 3, .ofNat 4, .ofNat 5])] ka_514 [.inl 100000, .inl 0, .inl 0, .inl 0, .inl 0, .inl 0, .inl 0] kan_514 47 kad_514_48 = true := by decide +kernel
set_option maxRecDepth 1000000 in
theorem kak_514_47 : ai_ckn [ka_407, ka_510, ka_512, ka_513, ka_505, ka_506, ka_507, ka_508, ka_504, ka_509, ka_363, ka_380, ka_398, ka_511] [(0, .inl 1, [.ofNat 1, .ofNat 2, .ofNat 3, .ofNat 4, .ofNat 5])] ka_514 [.inl 100000, .inl 0, .inl 0, .inl 0, .inl 0, .inl 0, .inl 0] kan_514 47 kad_514_47 = true := by decide +kernel
set_option maxRecDepth 1000000 in
theorem kak_514_46 : ai_ckn [ka_407, ka_510, ka_512, ka_513, ka_505, ka_506, ka_507, ka_508, ka_504, ka_509, ka_363, ka_380, ka_398, ka_511] [(0, .inl 1, [.ofNat 1, .ofNat 2, .ofNat 3, .ofNat 4, .ofNat 5])] ka_514 [.inl 100000, .inl 0, .inl 0, .inl 0, .inl 0, .inl 0, .inl 0] kan_514 47 kad_514_46 = true := by decide +kernel
set_option maxRecDepth 1000000 in
theorem kak_514_45 : ai_ckn [ka_407, ka_510, ka_512, ka_513, ka_505, ka_506, ka_507, ka_508, ka_504, ka_509, ka_363, ka_380, ka_398, ka_511] [(0, .inl 1, [.ofNat 1, .ofNat 2, .ofNat 3, .ofNat 4, .ofNat 5])] ka_514 [.inl 100000, .inl 0, .inl 0, .inl 0, .inl 0, .inl 0, .inl 0] kan_514 47 kad_514_45 = true := by decide +kernel
set_option maxRecDepth 1000000 in
theorem kak_514_44 : ai_ckn [ka_407, ka_510, ka_512, ka_513, ka_505, ka_506, ka_507, ka_508, ka_504, ka_509, ka_363, ka_380, ka_398, ka_511] [(0, .inl 1, [.ofNat 1, .ofNat 2, .ofNat 3, .ofNat 4, .ofNat 5])] ka_514 [.inl 100000, .inl 0, .inl 0, .inl 0, .inl 0, .inl 0, .inl 0] kan_514 47 kad_514_44 = true := by decide +kernel
set_option maxRecDepth 1000000 in
theorem kak_514_43 : ai_ckn [ka_407, ka_510, ka_512, ka_513, ka_505, ka_506, ka_507, ka_508, ka_504, ka_509, ka_363, ka_380, ka_398, ka_511] [(0, .inl 1, [.ofNat 1, .ofNat 2, .ofNat 3, .ofNat 4, .ofNat 5])] ka_514 [.inl 100000, .inl 0, .inl 0, .inl 0, .inl 0, .inl 0, .inl 0] kan_514 47 kad_514_43 = true := by decide +kernel
set_option maxRecDepth 1000000 in
theorem kak_514_42 : ai_ckn [ka_407, ka_510, ka_512, ka_513, ka_505, ka_506, ka_507, ka_508, ka_504, ka_509, ka_363, ka_380, ka_398, ka_511] [(0, .inl 1, [.ofNat 1, .ofNat 2, .ofNat 3, .ofNat 4, .ofNat 5])] ka_514 [.inl 100000, .inl 0, .inl 0, .inl 0, .inl 0, .inl 0, .inl 0] kan_514 47 kad_514_42 = true := by decide +kernel
set_option maxRecDepth 1000000 in
theorem kak_514_41 : ai_ckn [ka_407, ka_510, ka_512, ka_513, ka_505, ka_506, ka_507, ka_508, ka_504, ka_509, ka_363, ka_380, ka_398, ka_511] [(0, .inl 1, [.ofNat 1, .ofNat 2, .ofNat 3, .ofNat 4, .ofNat 5])] ka_514 [.inl 100000, .inl 0, .inl 0, .inl 0, .inl 0, .inl 0, .inl 0] kan_514 47 kad_514_41 = true := by decide +kernel
set_option maxRecDepth 1000000 in
theorem kak_514_40 : ai_ckn [ka_407, ka_510, ka_512, ka_513, ka_505, ka_506, ka_507, ka_508, ka_504, ka_509, ka_363, ka_380, ka_398, ka_511] [(0, .inl 1, [.ofNat 1, .ofNat 2, .ofNat 3, .ofNat 4, .ofNat 5])] ka_514 [.inl 100000, .inl 0, .inl 0, .inl 0, .inl 0, .inl 0, .inl 0] kan_514 47 kad_514_40 = true := by decide +kernel
set_option maxRecDepth 1000000 in
theorem kak_514_39 : ai_ckn [ka_407, ka_510, ka_512, ka_513, ka_505, ka_506, ka_507, ka_508, ka_504, ka_509, ka_363, ka_380, ka_398, ka_511] [(0, .inl 1, [.ofNat 1, .ofNat 2, .ofNat 3, .ofNat 4, .ofNat 5])] ka_514 [.inl 100000, .inl 0, .inl 0, .inl 0, .inl 0, .inl 0, .inl 0] kan_514 47 kad_514_39 = true := by decide +kernel
set_option maxRecDepth 1000000 in
theorem kak_514_38 : ai_ckn [ka_407, ka_510, ka_512, ka_513, ka_505, ka_506, ka_507, ka_508, ka_504, ka_509, ka_363, ka_380, ka_398, ka_511] [(0, .inl 1, [.ofNat 1, .ofNat 2, .ofNat 3, .ofNat 4, .ofNat 5])] ka_514 [.inl 100000, .inl 0, .inl 0, .inl 0, .inl 0, .inl 0, .inl 0] kan_514 47 kad_514_38 = true := by decide +kernel
set_option maxRecDepth 1000000 in
theorem kak_514_37 : ai_ckn [ka_407, ka_510, ka_512, ka_513, ka_505, ka_506, ka_507, ka_508, ka_504, ka_509, ka_363, ka_380, ka_398, ka_511] [(0, .inl 1, [.ofNat 1, .ofNat 2, .ofNat 3, .ofNat 4, .ofNat 5])] ka_514 [.inl 100000, .inl 0, .inl 0, .inl 0, .inl 0, .inl 0, .inl 0] kan_514 47 kad_514_37 = true := by decide +kernel
set_option maxRecDepth 1000000 in
theorem kak_514_36 : ai_ckn [ka_407, ka_510, ka_512, ka_513, ka_505, ka_506, ka_507, ka_508, ka_504, ka_509, ka_363, ka_380, ka_398, ka_511] [(0, .inl 1, [.ofNat 1, .ofNat 2, .ofNat 3, .ofNat 4, .ofNat 5])] ka_514 [.inl 100000, .inl 0, .inl 0, .inl 0, .inl 0, .inl 0, .inl 0] kan_514 47 kad_514_36 = true := by decide +kernel
set_option maxRecDepth 1000000 in
theorem kak_514_35 : ai_ckn [ka_407, ka_510, ka_512, ka_513, ka_505, ka_506, ka_507, ka_508, ka_504, ka_509, ka_363, ka_380, ka_398, ka_511] [(0, .inl 1, [.ofNat 1, .ofNat 2, .ofNat 3, .ofNat 4, .ofNat 5])] ka_514 [.inl 100000, .inl 0, .inl 0, .inl 0, .inl 0, .inl 0, .inl 0] kan_514 47 kad_514_35 = true := by decide +kernel
set_option maxRecDepth 1000000 in
theorem kak_514_34 : ai_ckn [ka_407, ka_510, ka_512, ka_513, ka_505, ka_506, ka_507, ka_508, ka_504, ka_509, ka_363, ka_380, ka_398, ka_511] [(0, .inl 1, [.ofNat 1, .ofNat 2, .ofNat 3, .ofNat 4, .ofNat 5])] ka_514 [.inl 100000, .inl 0, .inl 0, .inl 0, .inl 0, .inl 0, .inl 0] kan_514 47 kad_514_34 = true := by decide +kernel
set_option maxRecDepth 1000000 in
theorem kak_514_33 : ai_ckn [ka_407, ka_510, ka_512, ka_513, ka_505, ka_506, ka_507, ka_508, ka_504, ka_509, ka_363, ka_380, ka_398, ka_511] [(0, .inl 1, [.ofNat 1, .ofNat 2, .ofNat 3, .ofNat 4, .ofNat 5])] ka_514 [.inl 100000, .inl 0, .inl 0, .inl 0, .inl 0, .inl 0, .inl 0] kan_514 47 kad_514_33 = true := by decide +kernel
set_option maxRecDepth 1000000 in
theorem kak_514_32 : ai_ckn [ka_407, ka_510, ka_512, ka_513, ka_505, ka_506, ka_507, ka_508, ka_504, ka_509, ka_363, ka_380, ka_398, ka_511] [(0, .inl 1, [.ofNat 1, .ofNat 2, .ofNat 3, .ofNat 4, .ofNat 5])] ka_514 [.inl 100000, .inl 0, .inl 0, .inl 0, .inl 0, .inl 0, .inl 0] kan_514 47 kad_514_32 = true := by decide +kernel
set_option maxRecDepth 1000000 in
theorem kak_514_31 : ai_ckn [ka_407, ka_510, ka_512, ka_513, ka_505, ka_506, ka_507, ka_508, ka_504, ka_509, ka_363, ka_380, ka_398, ka_511] [(0, .inl 1, [.ofNat 1, .ofNat 2, .ofNat 3, .ofNat 4, .ofNat 5])] ka_514 [.inl 100000, .inl 0, .inl 0, .inl 0, .inl 0, .inl 0, .inl 0] kan_514 47 kad_514_31 = true := by decide +kernel
set_option maxRecDepth 1000000 in
theorem kak_514_30 : ai_ckn [ka_407, ka_510, ka_512, ka_513, ka_505, ka_506, ka_507, ka_508, ka_504, ka_509, ka_363, ka_380, ka_398, ka_511] [(0, .inl 1, [.ofNat 1, .ofNat 2, .ofNat 3, .ofNat 4, .ofNat 5])] ka_514 [.inl 100000, .inl 0, .inl 0, .inl 0, .inl 0, .inl 0, .inl 0] kan_514 47 kad_514_30 = true := by decide +kernel
set_option maxRecDepth 1000000 in
theorem kak_514_29 : ai_ckn [ka_407, ka_510, ka_512, ka_513, ka_505, ka_506, ka_507, ka_508, ka_504, ka_509, ka_363, ka_380, ka_398, ka_511] [(0, .inl 1, [.ofNat 1, .ofNat 2, .ofNat 3, .ofNat 4, .ofNat 5])] ka_514 [.inl 100000, .inl 0, .inl 0, .inl 0, .inl 0, .inl 0, .inl 0] kan_514 47 kad_514_29 = true := by decide +kernel
set_option maxRecDepth 1000000 in
theorem kak_514_28 : ai_ckn [ka_407, ka_510, ka_512, ka_513, ka_505, ka_506, ka_507, ka_508, ka_504, ka_509, ka_363, ka_380, ka_398, ka_511] [(0, .inl 1, [.ofNat 1, .ofNat 2, .ofNat 3, .ofNat 4, .ofNat 5])] ka_514 [.inl 100000, .inl 0, .inl 0, .inl 0, .inl 0, .inl 0, .inl 0] kan_514 47 kad_514_28 = true := by decide +kernel
set_option maxRecDepth 1000000 in
theorem kak_514_27 : ai_ckn [ka_407, ka_510, ka_512, ka_513, ka_505, ka_506, ka_507, ka_508, ka_504, ka_509, ka_363, ka_380, ka_398, ka_511] [(0, .inl 1, [.ofNat 1, .ofNat 2, .ofNat 3, .ofNat 4, .ofNat 5])] ka_514 [.inl 100000, .inl 0, .inl 0, .inl 0, .inl 0, .inl 0, .inl 0] kan_514 47 kad_514_27 = true := by decide +kernel
set_option maxRecDepth 1000000 in
theorem kak_514_26 : ai_ckn [ka_407, ka_510, ka_512, ka_513, ka_505, ka_506, ka_507, ka_508, ka_504, ka_509, ka_363, ka_380, ka_398, ka_511] [(0, .inl 1, [.ofNat 1, .ofNat 2, .ofNat 3, .ofNat 4, .ofNat 5])] ka_514 [.inl 100000, .inl 0, .inl 0, .inl 0, .inl 0, .inl 0, .inl 0] kan_514 47 kad_514_26 = true := by decide +kernel
set_option maxRecDepth 1000000 in
theorem kak_514_25 : ai_ckn [ka_407, ka_510, ka_512, ka_513, ka_505, ka_506, ka_507, ka_508, ka_504, ka_509, ka_363, ka_380, ka_398, ka_511] [(0, .inl 1, [.ofNat 1, .ofNat 2, .ofNat 3, .ofNat 4, .ofNat 5])] ka_514 [.inl 100000, .inl 0, .inl 0, .inl 0, .inl 0, .inl 0, .inl 0] kan_514 47 kad_514_25 = true := by decide +kernel
set_option maxRecDepth 1000000 in
theorem kak_514_24 : ai_ckn [ka_407, ka_510, ka_512, ka_513, ka_505, ka_506, ka_507, ka_508, ka_504, ka_509, ka_363, ka_380, ka_398, ka_511] [(0, .inl 1, [.ofNat 1, .ofNat 2, .ofNat 3, .ofNat 4, .ofNat 5])] ka_514 [.inl 100000, .inl 0, .inl 0, .inl 0, .inl 0, .inl 0, .inl 0] kan_514 47 kad_514_24 = true := by decide +kernel
set_option maxRecDepth 1000000 in
theorem kak_514_23 : ai_ckn [ka_407, ka_510, ka_512, ka_513, ka_505, ka_506, ka_507, ka_508, ka_504, ka_509, ka_363, ka_380, ka_398, ka_511] [(0, .inl 1, [.ofNat 1, .ofNat 2, .ofNat 3, .ofNat 4, .ofNat 5])] ka_514 [.inl 100000, .inl 0, .inl 0, .inl 0, .inl 0, .inl 0, .inl 0] kan_514 47 kad_514_23 = true := by decide +kernel
set_option maxRecDepth 1000000 in
theorem kak_514_22 : ai_ckn [ka_407, ka_510, ka_512, ka_513, ka_505, ka_506, ka_507, ka_508, ka_504, ka_509, ka_363, ka_380, ka_398, ka_511] [(0, .inl 1, [.ofNat 1, .ofNat 2, .ofNat 3, .ofNat 4, .ofNat 5])] ka_514 [.inl 100000, .inl 0, .inl 0, .inl 0, .inl 0, .inl 0, .inl 0] kan_514 47 kad_514_22 = true := by decide +kernel
set_option maxRecDepth 1000000 in
theorem kak_514_21 : ai_ckn [ka_407, ka_510, ka_512, ka_513, ka_505, ka_506, ka_507, ka_508, ka_504, ka_509, ka_363, ka_380, ka_398, ka_511] [(0, .inl 1, [.ofNat 1, .ofNat 2, .ofNat 3, .ofNat 4, .ofNat 5])] ka_514 [.inl 100000, .inl 0, .inl 0, .inl 0, .inl 0, .inl 0, .inl 0] kan_514 47 kad_514_21 = true := by decide +kernel
set_option maxRecDepth 1000000 in
theorem kak_514_20 : ai_ckn [ka_407, ka_510, ka_512, ka_513, ka_505, ka_506, ka_507, ka_508, ka_504, ka_509, ka_363, ka_380, ka_398, ka_511] [(0, .inl 1, [.ofNat 1, .ofNat 2, .ofNat 3, .ofNat 4, .ofNat 5])] ka_514 [.inl 100000, .inl 0, .inl 0, .inl 0, .inl 0, .inl 0, .inl 0] kan_514 47 kad_514_20 = true := by decide +kernel
set_option maxRecDepth 1000000 in
theorem kak_514_19 : ai_ckn [ka_407, ka_510, ka_512, ka_513, ka_505, ka_506, ka_507, ka_508, ka_504, ka_509, ka_363, ka_380, ka_398, ka_511] [(0, .inl 1, [.ofNat 1, .ofNat 2, .ofNat 3, .ofNat 4, .ofNat 5])] ka_514 [.inl 100000, .inl 0, .inl 0, .inl 0, .inl 0, .inl 0, .inl 0] kan_514 47 kad_514_19 = true := by decide +kernel
set_option maxRecDepth 1000000 in
theorem kak_514_18 : ai_ckn [ka_407, ka_510, ka_512, ka_513, ka_505, ka_506, ka_507, ka_508, ka_504, ka_509, ka_363, ka_380, ka_398, ka_511] [(0, .inl 1, [.ofNat 1, .ofNat 2, .ofNat 3, .ofNat 4, .ofNat 5])] ka_514 [.inl 100000, .inl 0, .inl 0, .inl 0, .inl 0, .inl 0, .inl 0] kan_514 47 kad_514_18 = true := by decide +kernel
set_option maxRecDepth 1000000 in
theorem kak_514_17 : ai_ckn [ka_407, ka_510, ka_512, ka_513, ka_505, ka_506, ka_507, ka_508, ka_504, ka_509, ka_363, ka_380, ka_398, ka_511] [(0, .inl 1, [.ofNat 1, .ofNat 2, .ofNat 3, .ofNat 4, .ofNat 5])] ka_514 [.inl 100000, .inl 0, .inl 0, .inl 0, .inl 0, .inl 0, .inl 0] kan_514 47 kad_514_17 = true := by decide +kernel
set_option maxRecDepth 1000000 in
theorem kak_514_16 : ai_ckn [ka_407, ka_510, ka_512, ka_513, ka_505, ka_506, ka_507, ka_508, ka_504, ka_509, ka_363, ka_380, ka_398, ka_511] [(0, .inl 1, [.ofNat 1, .ofNat 2, .ofNat 3, .ofNat 4, .ofNat 5])] ka_514 [.inl 100000, .inl 0, .inl 0, .inl 0, .inl 0, .inl 0, .inl 0] kan_514 47 kad_514_16 = true := by decide +kernel
set_option maxRecDepth 1000000 in
theorem kak_514_15 : ai_ckn [ka_407, ka_510, ka_512, ka_513, ka_505, ka_506, ka_507, ka_508, ka_504, ka_509, ka_363, ka_380, ka_398, ka_511] [(0, .inl 1, [.ofNat 1, .ofNat 2, .ofNat 3, .ofNat 4, .ofNat 5])] ka_514 [.inl 100000, .inl 0, .inl 0, .inl 0, .inl 0, .inl 0, .inl 0] kan_514 47 kad_514_15 = true := by decide +kernel
set_option maxRecDepth 1000000 in
theorem kak_514_14 : ai_ckn [ka_407, ka_510, ka_512, ka_513, ka_505, ka_506, ka_507, ka_508, ka_504, ka_509, ka_363, ka_380, ka_398, ka_511] [(0, .inl 1, [.ofNat 1, .ofNat 2, .ofNat 3, .ofNat 4, .ofNat 5])] ka_514 [.inl 100000, .inl 0, .inl 0, .inl 0, .inl 0, .inl 0, .inl 0] kan_514 47 kad_514_14 = true := by decide +kernel
set_option maxRecDepth 1000000 in
theorem kak_514_13 : ai_ckn [ka_407, ka_510, ka_512, ka_513, ka_505, ka_506, ka_507, ka_508, ka_504, ka_509, ka_363, ka_380, ka_398, ka_511] [(0, .inl 1, [.ofNat 1, .ofNat 2, .ofNat 3, .ofNat 4, .ofNat 5])] ka_514 [.inl 100000, .inl 0, .inl 0, .inl 0, .inl 0, .inl 0, .inl 0] kan_514 47 kad_514_13 = true := by decide +kernel
set_option maxRecDepth 1000000 in
theorem kak_514_12 : ai_ckn [ka_407, ka_510, ka_512, ka_513, ka_505, ka_506, ka_507, ka_508, ka_504, ka_509, ka_363, ka_380, ka_398, ka_511] [(0, .inl 1, [.ofNat 1, .ofNat 2, .ofNat 3, .ofNat 4, .ofNat 5])] ka_514 [.inl 100000, .inl 0, .inl 0, .inl 0, .inl 0, .inl 0, .inl 0] kan_514 47 kad_514_12 = true := by decide +kernel
set_option maxRecDepth 1000000 in
theorem kak_514_11 : ai_ckn [ka_407, ka_510, ka_512, ka_513, ka_505, ka_506, ka_507, ka_508, ka_504, ka_509, ka_363, ka_380, ka_398, ka_511] [(0, .inl 1, [.ofNat 1, .ofNat 2, .ofNat 3, .ofNat 4, .ofNat 5])] ka_514 [.inl 100000, .inl 0, .inl 0, .inl 0, .inl 0, .inl 0, .inl 0] kan_514 47 kad_514_11 = true := by decide +kernel
set_option maxRecDepth 1000000 in
theorem kak_514_10 : ai_ckn [ka_407, ka_510, ka_512, ka_513, ka_505, ka_506, ka_507, ka_508, ka_504, ka_509, ka_363, ka_380, ka_398, ka_511] [(0, .inl 1, [.ofNat 1, .ofNat 2, .ofNat 3, .ofNat 4, .ofNat 5])] ka_514 [.inl 100000, .inl 0, .inl 0, .inl 0, .inl 0, .inl 0, .inl 0] kan_514 47 kad_514_10 = true := by decide +kernel
set_option maxRecDepth 1000000 in
theorem kak_514_9 : ai_ckn [ka_407, ka_510, ka_512, ka_513, ka_505, ka_506, ka_507, ka_508, ka_504, ka_509, ka_363, ka_380, ka_398, ka_511] [(0, .inl 1, [.ofNat 1, .ofNat 2, .ofNat 3, .ofNat 4, .ofNat 5])] ka_514 [.inl 100000, .inl 0, .inl 0, .inl 0, .inl 0, .inl 0, .inl 0] kan_514 47 kad_514_9 = true := by decide +kernel
set_option maxRecDepth 1000000 in
theorem kak_514_8 : ai_ckn [ka_407, ka_510, ka_512, ka_513, ka_505, ka_506, ka_507, ka_508, ka_504, ka_509, ka_363, ka_380, ka_398, ka_511] [(0, .inl 1, [.ofNat 1, .ofNat 2, .ofNat 3, .ofNat 4, .ofNat 5])] ka_514 [.inl 100000, .inl 0, .inl 0, .inl 0, .inl 0, .inl 0, .inl 0] kan_514 47 kad_514_8 = true := by decide +kernel
set_option maxRecDepth 1000000 in
theorem kak_514_7 : ai_ckn [ka_407, ka_510, ka_512, ka_513, ka_505, ka_506, ka_507, ka_508, ka_504, ka_509, ka_363, ka_380, ka_398, ka_511] [(0, .inl 1, [.ofNat 1, .ofNat 2, .ofNat 3, .ofNat 4, .ofNat 5])] ka_514 [.inl 100000, .inl 0, .inl 0, .inl 0, .inl 0, .inl 0, .inl 0] kan_514 47 kad_514_7 = true := by decide +kernel
set_option maxRecDepth 1000000 in
theorem kak_514_6 : ai_ckn [ka_407, ka_510, ka_512, ka_513, ka_505, ka_506, ka_507, ka_508, ka_504, ka_509, ka_363, ka_380, ka_398, ka_511] [(0, .inl 1, [.ofNat 1, .ofNat 2, .ofNat 3, .ofNat 4, .ofNat 5])] ka_514 [.inl 100000, .inl 0, .inl 0, .inl 0, .inl 0, .inl 0, .inl 0] kan_514 47 kad_514_6 = true := by decide +kernel
set_option maxRecDepth 1000000 in
theorem kak_514_5 : ai_ckn [ka_407, ka_510, ka_512, ka_513, ka_505, ka_506, ka_507, ka_508, ka_504, ka_509, ka_363, ka_380, ka_398, ka_511] [(0, .inl 1, [.ofNat 1, .ofNat 2, .ofNat 3, .ofNat 4, .ofNat 5])] ka_514 [.inl 100000, .inl 0, .inl 0, .inl 0, .inl 0, .inl 0, .inl 0] kan_514 47 kad_514_5 = true := by decide +kernel
set_option maxRecDepth 1000000 in
theorem kak_514_4 : ai_ckn [ka_407, ka_510, ka_512, ka_513, ka_505, ka_506, ka_507, ka_508, ka_504, ka_509, ka_363, ka_380, ka_398, ka_511] [(0, .inl 1, [.ofNat 1, .ofNat 2, .ofNat 3, .ofNat 4, .ofNat 5])] ka_514 [.inl 100000, .inl 0, .inl 0, .inl 0, .inl 0, .inl 0, .inl 0] kan_514 47 kad_514_4 = true := by decide +kernel
set_option maxRecDepth 1000000 in
theorem kak_514_3 : ai_ckn [ka_407, ka_510, ka_512, ka_513, ka_505, ka_506, ka_507, ka_508, ka_504, ka_509, ka_363, ka_380, ka_398, ka_511] [(0, .inl 1, [.ofNat 1, .ofNat 2, .ofNat 3, .ofNat 4, .ofNat 5])] ka_514 [.inl 100000, .inl 0, .inl 0, .inl 0, .inl 0, .inl 0, .inl 0] kan_514 47 kad_514_3 = true := by decide +kernel
set_option maxRecDepth 1000000 in
theorem kak_514_2 : ai_ckn [ka_407, ka_510, ka_512, ka_513, ka_505, ka_506, ka_507, ka_508, ka_504, ka_509, ka_363, ka_380, ka_398, ka_511] [(0, .inl 1, [.ofNat 1, .ofNat 2, .ofNat 3, .ofNat 4, .ofNat 5])] ka_514 [.inl 100000, .inl 0, .inl 0, .inl 0, .inl 0, .inl 0, .inl 0] kan_514 47 kad_514_2 = true := by decide +kernel
set_option maxRecDepth 1000000 in
theorem kak_514_1 : ai_ckn [ka_407, ka_510, ka_512, ka_513, ka_505, ka_506, ka_507, ka_508, ka_504, ka_509, ka_363, ka_380, ka_398, ka_511] [(0, .inl 1, [.ofNat 1, .ofNat 2, .ofNat 3, .ofNat 4, .ofNat 5])] ka_514 [.inl 100000, .inl 0, .inl 0, .inl 0, .inl 0, .inl 0, .inl 0] kan_514 47 kad_514_1 = true := by decide +kernel
set_option maxRecDepth 1000000 in
theorem kak_514_0 : ai_ckn [ka_407, ka_510, ka_512, ka_513, ka_505, ka_506, ka_507, ka_508, ka_504, ka_509, ka_363, ka_380, ka_398, ka_511] [(0, .inl 1, [.ofNat 1, .ofNat 2, .ofNat 3, .ofNat 4, .ofNat 5])] ka_514 [.inl 100000, .inl 0, .inl 0, .inl 0, .inl 0, .inl 0, .inl 0] kan_514 47 kad_514_0 = true := by decide +kernel
set_option maxRecDepth 1000000 in
theorem kak_514_e : ai_ckn [ka_407, ka_510, ka_512, ka_513, ka_505, ka_506, ka_507, ka_508, ka_504, ka_509, ka_363, ka_380, ka_398, ka_511] [(0, .inl 1, [.ofNat 1, .ofNat 2, .ofNat 3, .ofNat 4, .ofNat 5])] ka_514 [.inl 100000, .inl 0, .inl 0, .inl 0, .inl 0, .inl 0, .inl 0] kan_514 47 (0, ka_514.2.2.1, [], [.inl 100000, .inl 0, .inl 0, .inl 0, .inl 0, .inl 0, .inl 0]) = true := by decide +kernel
theorem kak_514 : ai_ck [ka_407, ka_510, ka_512, ka_513, ka_505, ka_506, ka_507, ka_508, ka_504, ka_509, ka_363, ka_380, ka_398, ka_511] [(0, .inl 1, [.ofNat 1, .ofNat 2, .ofNat 3, .ofNat 4, .ofNat 5])] ka_514 [.inl 100000, .inl 0, .inl 0, .inl 0, .inl 0, .inl 0, .inl 0] kan_514 47 = true := ai_ck_of rfl kav_514 (List.forall_mem_cons.mpr ⟨kak_514_e, List.forall_mem_cons.mpr ⟨kak_514_0, List.forall_mem_cons.mpr ⟨kak_514_1, List.forall_mem_cons.mpr ⟨kak_514_2, List.forall_mem_cons.mpr ⟨kak_514_3, List.forall_mem_cons.mpr ⟨kak_514_4, List.forall_mem_cons.mpr ⟨kak_514_5, List.forall_mem_cons.mpr ⟨kak_514_6, List.forall_mem_cons.mpr ⟨kak_514_7, List.forall_mem_cons.mpr ⟨kak_514_8, List.forall_mem_cons.mpr ⟨kak_514_9, List.forall_mem_cons.mpr ⟨kak_514_10, List.forall_mem_cons.mpr ⟨kak_514_11, List.forall_mem_cons.mpr ⟨kak_514_12, List.forall_mem_cons.mpr ⟨kak_514_13, List.forall_mem_cons.mpr ⟨kak_514_14, List.forall_mem_cons.mpr ⟨kak_514_15, List.forall_mem_cons.mpr ⟨kak_514_16, List.forall_mem_cons.mpr ⟨kak_514_17, List.forall_mem_cons.mpr ⟨kak_514_18, List.forall_mem_cons.mpr ⟨kak_514_19, List.forall_mem_cons.mpr ⟨kak_514_20, List.forall_mem_cons.mpr ⟨kak_514_21, List.forall_mem_cons.mpr ⟨kak_514_22, List.forall_mem_cons.mpr ⟨kak_514_23, List.forall_mem_cons.mpr ⟨kak_514_24, List.forall_mem_cons.mpr ⟨kak_514_25, List.forall_mem_cons.mpr ⟨kak_514_26, List.forall_mem_cons.mpr ⟨kak_514_27, List.forall_mem_cons.mpr ⟨kak_514_28, List.forall_mem_cons.mpr ⟨kak_514_29, List.forall_mem_cons.mpr ⟨kak_514_30, List.forall_mem_cons.mpr ⟨kak_514_31, List.forall_mem_cons.mpr ⟨kak_514_32, List.forall_mem_cons.mpr ⟨kak_514_33, List.forall_mem_cons.mpr ⟨kak_514_34, List.forall_mem_cons.mpr ⟨kak_514_35, List.forall_mem_cons.mpr ⟨kak_514_36, List.forall_mem_cons.mpr ⟨kak_514_37, List.forall_mem_cons.mpr ⟨kak_514_38, List.forall_mem_cons.mpr ⟨kak_514_39, List.forall_mem_cons.mpr ⟨kak_514_40, List.forall_mem_cons.mpr ⟨kak_514_41, List.forall_mem_cons.mpr ⟨kak_514_42, List.forall_mem_cons.mpr ⟨kak_514_43, List.forall_mem_cons.mpr ⟨kak_514_44, List.forall_mem_cons.mpr ⟨kak_514_45, List.forall_mem_cons.mpr ⟨kak_514_46, List.forall_mem_cons.mpr ⟨kak_514_47, List.forall_mem_cons.mpr ⟨kak_514_48, List.forall_mem_cons.mpr ⟨kak_514_49, List.forall_mem_cons.mpr ⟨kak_514_50, List.forall_mem_cons.mpr ⟨kak_514_51, List.forall_mem_cons.mpr ⟨kak_514_52, List.forall_mem_cons.mpr ⟨kak_514_53, List.forall_mem_cons.mpr ⟨kak_514_54, List.forall_mem_cons.mpr ⟨kak_514_55, List.forall_mem_cons.mpr ⟨kak_514_56, List.forall_mem_cons.mpr ⟨kak_514_57, List.forall_mem_cons.mpr ⟨kak_514_58, List.forall_mem_cons.mpr ⟨kak_514_59, List.forall_mem_cons.mpr ⟨kak_514_60, List.forall_mem_cons.mpr ⟨kak_514_61, List.forall_mem_cons.mpr ⟨kak_514_62, List.forall_mem_cons.mpr ⟨kak_514_63, List.forall_mem_cons.mpr ⟨kak_514_64, List.forall_mem_cons.mpr ⟨kak_514_65, List.forall_mem_cons.mpr ⟨kak_514_66, List.forall_mem_cons.mpr ⟨kak_514_67, List.forall_mem_cons.mpr ⟨kak_514_68, List.forall_mem_cons.mpr ⟨kak_514_69, fun _ h => absurd h List.not_mem_nil⟩⟩⟩⟩⟩⟩⟩⟩⟩⟩⟩⟩⟩⟩⟩⟩⟩⟩⟩⟩⟩⟩⟩⟩⟩⟩⟩⟩⟩⟩⟩⟩⟩⟩⟩⟩⟩⟩⟩⟩⟩⟩⟩⟩⟩⟩⟩⟩⟩⟩⟩⟩⟩⟩⟩⟩⟩⟩⟩⟩⟩⟩⟩⟩⟩⟩⟩⟩⟩⟩⟩)
theorem kah_514 : ai_holds ka_514 := ai_thm kak_514 (ai_cons kah_407 (ai_cons kah_510 (ai_cons kah_512 (ai_cons kah_513 (ai_cons kah_505 (ai_cons kah_506 (ai_cons kah_507 (ai_cons kah_508 (ai_cons kah_504 (ai_cons kah_509 (ai_cons kah_363 (ai_cons kah_380 (ai_cons kah_398 (ai_cons kah_511 ai_nil))))))))))))))
def hka06_574 : ai_E := [hka06_2, hka06_0, hka06_1, hka06_2, hka06_2, hka06_2, hka06_3, hka06_4, hka06_5, hka06_6]
def hka06_575 : ai_N := (.negSucc 2147483647, .ofNat 2147483647, [(5, .ofNat 0, .ofNat 0)])
def hka06_576 : ai_V := .inl (false, hka06_575)
def hka06_577 : ai_N := (.ofNat 0, .ofNat 60, [(6, .ofNat 0, .ofNat 0)])
def hka06_578 : ai_V := .inl (false, hka06_577)
def hka06_579 : ai_N := (.ofNat 0, .ofNat 5, [(7, .ofNat 0, .ofNat 0)])
def hka06_580 : ai_V := .inl (false, hka06_579)
def hka06_581 : ai_N := (.ofNat 0, .ofNat 4, [(8, .ofNat 0, .ofNat 0)])
def hka06_582 : ai_V := .inl (false, hka06_581)
def hka06_583 : ai_C := .inr (.inr (6, [hka06_14, hka06_15, hka06_16, hka06_17, hka06_18, hka06_19, hka06_190, hka06_192, hka06_27, hka06_29, hka06_576, hka06_578, hka06_580, hka06_582]))
def hka06_584 : Bool × Option ai_C := (false, some hka06_583)
def hka06_585 : ai_N := (.ofNat 0, .ofNat 128, [(9, .ofNat 0, .ofNat 0)])
def hka06_586 : ai_V := .inl (false, hka06_585)
def hka06_587 : ai_C := .inr (.inr (0, [hka06_43, hka06_44, hka06_45, hka06_12, hka06_586]))
def hka06_588 : Bool × Option ai_C := (false, some hka06_587)
def hka06_589 : ai_W := [hka06_13, hka06_584, hka06_13, hka06_13, hka06_146, hka06_13, hka06_13, hka06_13, hka06_13, hka06_13, hka06_13, hka06_13, hka06_13, hka06_13, hka06_13, hka06_13, hka06_13, hka06_588, hka06_52, hka06_55, hka06_57, hka06_13, hka06_13, hka06_13, hka06_13, hka06_13, hka06_13, hka06_13, hka06_13, hka06_13, hka06_13, hka06_13, hka06_13, hka06_13, hka06_13, hka06_13, hka06_13, hka06_13, hka06_13, hka06_13, hka06_13, hka06_13, hka06_13, hka06_13, hka06_13, hka06_13, hka06_13, hka06_13, hka06_13, hka06_13, hka06_13, hka06_13, hka06_13, hka06_13, hka06_13, hka06_13, hka06_13, hka06_13, hka06_13, hka06_13, hka06_13, hka06_13, hka06_13, hka06_13, hka06_13, hka06_13, hka06_13, hka06_13, hka06_13, hka06_13, hka06_13, hka06_13, hka06_13, hka06_13, hka06_13, hka06_13]
/-- NeverAgain$Almanac.begin -/
def ka_515 : ai_K := (103, 1, (hka06_574, [hka06_58, hka06_9, hka06_108, hka06_12], [], hka06_589), [.inl 2, .inr (1, 6), .inr (1, 7), .inr (1, 8), .inr (1, 9), .inr (1, 10), .inr (1, 11), .inr (1, 12), .inr (1, 13), .inr (17, 4)], [(none, hka06_574, [(17, hka06_164), (18, hka06_51), (19, hka06_54), (20, hka06_56)])])
def hka06_590 : ai_E := [hka06_2, hka06_0, hka06_1, hka06_2, hka06_2, hka06_2, hka06_3, hka06_4, hka06_5, hka06_6, hka06_3]
def hka06_591 : Bool × Option ai_C := (true, some hka06_164)
def hka06_592 : ai_W := [hka06_13, hka06_584, hka06_13, hka06_13, hka06_146, hka06_13, hka06_13, hka06_13, hka06_13, hka06_13, hka06_13, hka06_13, hka06_13, hka06_13, hka06_13, hka06_13, hka06_13, hka06_591, hka06_79, hka06_80, hka06_81, hka06_13, hka06_13, hka06_13, hka06_13, hka06_13, hka06_13, hka06_13, hka06_13, hka06_13, hka06_13, hka06_13, hka06_13, hka06_13, hka06_13, hka06_13, hka06_13, hka06_13, hka06_13, hka06_13, hka06_13, hka06_13, hka06_13, hka06_13, hka06_13, hka06_13, hka06_13, hka06_13, hka06_13, hka06_13, hka06_13, hka06_13, hka06_13, hka06_13, hka06_13, hka06_13, hka06_13, hka06_13, hka06_13, hka06_13, hka06_13, hka06_13, hka06_13, hka06_13, hka06_13, hka06_13, hka06_13, hka06_13, hka06_13, hka06_13, hka06_13, hka06_13, hka06_13, hka06_13, hka06_13, hka06_13]
def kan_515 : List ai_Nd := [(20, (hka06_590, [hka06_58, hka06_9, hka06_108, hka06_138], [], hka06_592), [.inl 3], [.inl 99979, .inl 1, .inr (true, .ofNat 60, 10), .inl 100000])]
set_option maxRecDepth 1000000 in
theorem kak_515 : ai_ck [ka_375, ka_374, ka_373] [] ka_515 [.inl 100000, .inl 0, .inl 0, .inl 0] kan_515 24 = true := by decide +kernel
theorem kah_515 : ai_holds ka_515 := ai_thm kak_515 (ai_cons kah_375 (ai_cons kah_374 (ai_cons kah_373 ai_nil)))
def hka06_593 : ai_E := [hka06_2, hka06_2, hka06_103, hka06_104, hka06_5, hka06_0, hka06_1, hka06_2, hka06_2, hka06_2, hka06_3, hka06_4, hka06_5, hka06_6]
def hka06_594 : ai_W := [hka06_126, hka06_144, hka06_13, hka06_42, hka06_146, hka06_13, hka06_13, hka06_13, hka06_13, hka06_13, hka06_13, hka06_13, hka06_13, hka06_13, hka06_13, hka06_13, hka06_13, hka06_150, hka06_52, hka06_55, hka06_57, hka06_13, hka06_13, hka06_13, hka06_13, hka06_13, hka06_13, hka06_13, hka06_13, hka06_13, hka06_13, hka06_13, hka06_13, hka06_13, hka06_13, hka06_13, hka06_13, hka06_13, hka06_13, hka06_13, hka06_13, hka06_13, hka06_13, hka06_13, hka06_13, hka06_13, hka06_13, hka06_13, hka06_13, hka06_13, hka06_13, hka06_13, hka06_13, hka06_13, hka06_13, hka06_13, hka06_13, hka06_13, hka06_13, hka06_13, hka06_13, hka06_13, hka06_13, hka06_13, hka06_13, hka06_13, hka06_13, hka06_13, hka06_13, hka06_13, hka06_13, hka06_13, hka06_13, hka06_13, hka06_13, hka06_13]
def hka06_595 : ai_V := .inl (false, hka06_158)
def hka06_596 : ai_N := (.negSucc 3, .negSucc 3, [])
def hka06_597 : ai_V := .inl (false, hka06_596)
def hka06_598 : Int × Int := (.ofNat 0, .ofNat 10)
def hka06_599 : Int × Int := (.ofNat 1, .ofNat 16)
def hka06_600 : ai_E := [hka06_598, hka06_599, hka06_103, hka06_104, hka06_5, hka06_0, hka06_1, hka06_2, hka06_2, hka06_2, hka06_3, hka06_4, hka06_5, hka06_6]
def hka06_601 : ai_V := .inl (false, hka06_38)
/-- NeverAgain.reads -/
def ka_516 : ai_K := (57, 2, (hka06_593, [hka06_106, hka06_108, hka06_110], [], hka06_594), [.inl 1, .inl 2, .inr (0, 11), .inr (0, 12), .inr (0, 13), .inr (1, 6), .inr (1, 7), .inr (1, 8), .inr (1, 9), .inr (1, 10), .inr (1, 11), .inr (1, 12), .inr (1, 13), .inr (17, 4)], [(some hka06_595, hka06_593, []), (some hka06_597, hka06_600, [(17, hka06_164), (18, hka06_51), (19, hka06_54), (20, hka06_56)]), (some hka06_601, hka06_600, [(17, hka06_164), (18, hka06_51), (19, hka06_54), (20, hka06_56)])])
def kan_516 : List ai_Nd := []
set_option maxRecDepth 1000000 in
theorem kak_516 : ai_ck [ka_355, ka_378, ka_515, ka_387] [] ka_516 [.inl 100000] kan_516 25 = true := by decide +kernel
theorem kah_516 : ai_holds ka_516 := ai_thm kak_516 (ai_cons kah_355 (ai_cons kah_378 (ai_cons kah_515 (ai_cons kah_387 ai_nil))))
def hka06_602 : ai_V := .inl (true, hka06_107)
def hka06_603 : ai_N := (.ofNat 10, .ofNat 10, [])
def hka06_604 : ai_V := .inl (true, hka06_603)
def hka06_605 : Int × Int := (.ofNat 11, .ofNat 2147483647)
def hka06_606 : Int × Int := (.ofNat 10, .ofNat 10)
def hka06_607 : Int × Int := (.ofNat 1, .ofNat 9)
def hka06_608 : Int × Int := (.negSucc 2147483647, .negSucc 0)
/-- NeverAgainModel.in -/
def ka_517 : ai_K := (93, 0, ([hka06_2], [hka06_602, hka06_12, hka06_342, hka06_12, hka06_604, hka06_12], [], hka06_93), [.inl 0], [(some hka06_171, [hka06_605], []), (some hka06_99, [hka06_606], []), (some hka06_99, [hka06_607], []), (some hka06_99, [hka06_336], []), (some hka06_171, [hka06_608], [])])
def kan_517 : List ai_Nd := []
set_option maxRecDepth 1000000 in
theorem kak_517 : ai_ck [] [] ka_517 [.inl 100000] kan_517 12 = true := by decide +kernel
theorem kah_517 : ai_holds ka_517 := ai_thm kak_517 ai_nil
def hka06_609 : ai_E := [hka06_0, hka06_1, hka06_103, hka06_178, hka06_5, hka06_2, hka06_178, hka06_179, hka06_180, hka06_180, hka06_180, hka06_181, hka06_2, hka06_104, hka06_180, hka06_268, hka06_2, hka06_5, hka06_3, hka06_269, hka06_160, hka06_270, hka06_4, hka06_5, hka06_3, hka06_269, hka06_160, hka06_270, hka06_4, hka06_5, hka06_3, hka06_269, hka06_160, hka06_270, hka06_4, hka06_5]
def hka06_610 : ai_N := (.ofNat 0, .ofNat 16, [(3, .ofNat 0, .ofNat 0)])
def hka06_611 : ai_V := .inl (false, hka06_610)
def hka06_612 : ai_N := (.ofNat 0, .ofNat 16, [(6, .ofNat 0, .ofNat 0)])
def hka06_613 : ai_V := .inl (false, hka06_612)
def hka06_614 : ai_N := (.negSucc 3, .ofNat 3, [(7, .ofNat 0, .ofNat 0)])
def hka06_615 : ai_V := .inl (false, hka06_614)
def hka06_616 : ai_N := (.ofNat 0, .ofNat 400, [(8, .ofNat 0, .ofNat 0)])
def hka06_617 : ai_V := .inl (false, hka06_616)
def hka06_618 : ai_N := (.ofNat 0, .ofNat 3, [(11, .ofNat 0, .ofNat 0)])
def hka06_619 : ai_V := .inl (false, hka06_618)
def hka06_620 : ai_N := (.negSucc 2147483647, .ofNat 2147483647, [(12, .ofNat 0, .ofNat 0)])
def hka06_621 : ai_V := .inl (false, hka06_620)
def hka06_622 : ai_N := (.ofNat 0, .ofNat 6, [(13, .ofNat 0, .ofNat 0)])
def hka06_623 : ai_V := .inl (false, hka06_622)
def hka06_624 : ai_N := (.ofNat 0, .ofNat 400, [(14, .ofNat 0, .ofNat 0)])
def hka06_625 : ai_V := .inl (false, hka06_624)
def hka06_626 : ai_N := (.ofNat 0, .ofNat 130, [(15, .ofNat 0, .ofNat 0)])
def hka06_627 : ai_V := .inl (false, hka06_626)
def hka06_628 : ai_N := (.negSucc 2147483647, .ofNat 2147483647, [(16, .ofNat 0, .ofNat 0)])
def hka06_629 : ai_V := .inl (false, hka06_628)
def hka06_630 : ai_N := (.ofNat 0, .ofNat 4, [(17, .ofNat 0, .ofNat 0)])
def hka06_631 : ai_V := .inl (false, hka06_630)
def hka06_632 : ai_C := .inr (.inr (8, [hka06_187, hka06_188, hka06_21, hka06_23, hka06_193, hka06_194, hka06_120, hka06_197, hka06_611, hka06_124, hka06_202, hka06_576, hka06_613, hka06_615, hka06_209, hka06_617, hka06_211, hka06_213, hka06_619, hka06_621, hka06_623, hka06_625, hka06_224, hka06_627, hka06_227, hka06_228, hka06_629, hka06_231, hka06_232, hka06_233, hka06_234, hka06_235, hka06_236, hka06_631]))
def hka06_633 : Bool × Option ai_C := (false, some hka06_632)
def hka06_634 : ai_N := (.ofNat 0, .ofNat 60, [(18, .ofNat 0, .ofNat 0)])
def hka06_635 : ai_N := (.ofNat 0, .ofNat 20, [(19, .ofNat 0, .ofNat 0)])
def hka06_636 : ai_N := (.ofNat 0, .ofNat 1, [(20, .ofNat 0, .ofNat 0)])
def hka06_637 : ai_N := (.negSucc 3, .ofNat 2, [(21, .ofNat 0, .ofNat 0)])
def hka06_638 : ai_N := (.ofNat 0, .ofNat 5, [(22, .ofNat 0, .ofNat 0)])
def hka06_639 : ai_N := (.ofNat 0, .ofNat 4, [(23, .ofNat 0, .ofNat 0)])
def hka06_640 : ai_N := (.ofNat 0, .ofNat 60, [(24, .ofNat 0, .ofNat 0)])
def hka06_641 : ai_N := (.ofNat 0, .ofNat 20, [(25, .ofNat 0, .ofNat 0)])
def hka06_642 : ai_N := (.ofNat 0, .ofNat 1, [(26, .ofNat 0, .ofNat 0)])
def hka06_643 : ai_N := (.negSucc 3, .ofNat 2, [(27, .ofNat 0, .ofNat 0)])
def hka06_644 : ai_N := (.ofNat 0, .ofNat 5, [(28, .ofNat 0, .ofNat 0)])
def hka06_645 : ai_N := (.ofNat 0, .ofNat 4, [(29, .ofNat 0, .ofNat 0)])
def hka06_646 : ai_N := (.ofNat 0, .ofNat 60, [(30, .ofNat 0, .ofNat 0)])
def hka06_647 : ai_N := (.ofNat 0, .ofNat 20, [(31, .ofNat 0, .ofNat 0)])
def hka06_648 : ai_N := (.ofNat 0, .ofNat 1, [(32, .ofNat 0, .ofNat 0)])
def hka06_649 : ai_N := (.negSucc 3, .ofNat 2, [(33, .ofNat 0, .ofNat 0)])
def hka06_650 : ai_N := (.ofNat 0, .ofNat 5, [(34, .ofNat 0, .ofNat 0)])
def hka06_651 : ai_N := (.ofNat 0, .ofNat 4, [(35, .ofNat 0, .ofNat 0)])
def hka06_652 : ai_C := .inl (.int, [(1, hka06_634), (60, hka06_50), (17, hka06_305), (1, hka06_635), (1, hka06_636), (1, hka06_637), (1, hka06_638), (5, hka06_310), (1, hka06_639), (8, hka06_312), (1, hka06_640), (60, hka06_50), (17, hka06_305), (1, hka06_641), (1, hka06_642), (1, hka06_643), (1, hka06_644), (5, hka06_310), (1, hka06_645), (8, hka06_312), (1, hka06_646), (60, hka06_50), (17, hka06_305), (1, hka06_647), (1, hka06_648), (1, hka06_649), (1, hka06_650), (5, hka06_310), (1, hka06_651), (8, hka06_312)])
def hka06_653 : Bool × Option ai_C := (false, some hka06_652)
def hka06_654 : ai_W := [hka06_13, hka06_13, hka06_13, hka06_13, hka06_13, hka06_13, hka06_13, hka06_13, hka06_13, hka06_13, hka06_13, hka06_13, hka06_13, hka06_13, hka06_13, hka06_13, hka06_13, hka06_13, hka06_13, hka06_13, hka06_13, hka06_13, hka06_13, hka06_13, hka06_13, hka06_13, hka06_13, hka06_13, hka06_13, hka06_13, hka06_13, hka06_13, hka06_13, hka06_13, hka06_13, hka06_13, hka06_13, hka06_13, hka06_13, hka06_13, hka06_13, hka06_13, hka06_13, hka06_13, hka06_13, hka06_13, hka06_13, hka06_13, hka06_13, hka06_13, hka06_13, hka06_13, hka06_13, hka06_13, hka06_13, hka06_13, hka06_13, hka06_13, hka06_13, hka06_633, hka06_653, hka06_13, hka06_13, hka06_13, hka06_13, hka06_13, hka06_13, hka06_243, hka06_13, hka06_13, hka06_13, hka06_13, hka06_13, hka06_13, hka06_13, hka06_13]
def hka06_655 : ai_V := .inl (false, hka06_634)
def hka06_656 : ai_C := .inr (.inr (8, [hka06_187, hka06_188, hka06_21, hka06_23, hka06_193, hka06_194, hka06_120, hka06_197, hka06_611, hka06_124, hka06_202, hka06_576, hka06_613, hka06_615, hka06_209, hka06_617, hka06_211, hka06_213, hka06_619, hka06_621, hka06_623, hka06_625, hka06_224, hka06_655, hka06_227, hka06_228, hka06_629, hka06_231, hka06_232, hka06_233, hka06_234, hka06_235, hka06_236, hka06_631]))
/-- NeverAgainModel.rowMissed -/
def ka_518 : ai_K := (134, 1, (hka06_609, [hka06_184, hka06_171, hka06_12], [], hka06_654), [.inr (59, 2), .inr (59, 3), .inr (59, 6), .inr (59, 8), .inr (59, 9), .inr (59, 11), .inr (59, 12), .inr (59, 13), .inr (59, 15), .inr (59, 16), .inr (59, 17), .inr (59, 18), .inr (59, 19), .inr (59, 20), .inr (59, 21), .inr (59, 23), .inr (59, 26), .inr (59, 33), .inr (60, 0), .inr (60, 78), .inr (60, 79), .inr (60, 80), .inr (60, 81), .inr (60, 87), .inr (60, 96), .inr (60, 174), .inr (60, 175), .inr (60, 176), .inr (60, 177), .inr (60, 183), .inr (60, 192), .inr (60, 270), .inr (60, 271), .inr (60, 272), .inr (60, 273), .inr (60, 279)], [(none, hka06_609, [(59, hka06_656), (67, hka06_242)])])
def hka06_657 : ai_E := [hka06_0, hka06_1, hka06_103, hka06_178, hka06_5, hka06_2, hka06_178, hka06_179, hka06_180, hka06_180, hka06_180, hka06_181, hka06_2, hka06_104, hka06_180, hka06_268, hka06_2, hka06_5, hka06_3, hka06_269, hka06_160, hka06_270, hka06_4, hka06_5, hka06_3, hka06_269, hka06_160, hka06_270, hka06_4, hka06_5, hka06_3, hka06_269, hka06_160, hka06_270, hka06_4, hka06_5, hka06_336]
def hka06_658 : ai_N := (.ofNat 0, .ofNat 0, [(36, .ofNat 0, .ofNat 0)])
def hka06_659 : ai_V := .inl (false, hka06_658)
def hka06_660 : Bool × Option ai_C := (true, some hka06_656)
def hka06_661 : ai_W := [hka06_13, hka06_13, hka06_13, hka06_13, hka06_13, hka06_13, hka06_13, hka06_13, hka06_13, hka06_13, hka06_13, hka06_13, hka06_13, hka06_13, hka06_13, hka06_13, hka06_13, hka06_13, hka06_13, hka06_13, hka06_13, hka06_13, hka06_13, hka06_13, hka06_13, hka06_13, hka06_13, hka06_13, hka06_13, hka06_13, hka06_13, hka06_13, hka06_13, hka06_13, hka06_13, hka06_13, hka06_13, hka06_13, hka06_13, hka06_13, hka06_13, hka06_13, hka06_13, hka06_13, hka06_13, hka06_13, hka06_13, hka06_13, hka06_13, hka06_13, hka06_13, hka06_13, hka06_13, hka06_13, hka06_13, hka06_13, hka06_13, hka06_13, hka06_13, hka06_660, hka06_653, hka06_13, hka06_13, hka06_13, hka06_13, hka06_13, hka06_13, hka06_432, hka06_13, hka06_13, hka06_13, hka06_13, hka06_13, hka06_13, hka06_13, hka06_13]
def kan_518 : List ai_Nd := [(6, (hka06_657, [hka06_184, hka06_171, hka06_659], [], hka06_661), [.inl 2], [.inl 99993, .inl 1, .inr (true, .ofNat 0, 36), .inl 100000])]
set_option maxRecDepth 1000000 in
theorem kak_518 : ai_ck [ka_380] [] ka_518 [.inl 100000, .inl 0, .inl 0, .inl 0] kan_518 6 = true := by decide +kernel
theorem kah_518 : ai_holds ka_518 := ai_thm kak_518 (ai_cons kah_380 ai_nil)
def hka06_662 : ai_E := [hka06_607, hka06_0, hka06_1, hka06_103, hka06_178, hka06_5, hka06_2, hka06_178, hka06_179, hka06_180, hka06_180, hka06_180, hka06_181, hka06_2, hka06_104, hka06_180, hka06_268, hka06_2, hka06_5, hka06_3, hka06_269, hka06_160, hka06_270, hka06_4, hka06_5, hka06_3, hka06_269, hka06_160, hka06_270, hka06_4, hka06_5, hka06_3, hka06_269, hka06_160, hka06_270, hka06_4, hka06_5]
def hka06_663 : ai_N := (.ofNat 1, .ofNat 9, [(0, .ofNat 0, .ofNat 0)])
def hka06_664 : ai_V := .inl (false, hka06_663)
def hka06_665 : ai_N := (.ofNat 0, .ofNat 130, [(16, .ofNat 0, .ofNat 0)])
def hka06_666 : ai_V := .inl (false, hka06_665)
def hka06_667 : ai_C := .inr (.inr (8, [hka06_187, hka06_188, hka06_190, hka06_192, hka06_193, hka06_194, hka06_196, hka06_197, hka06_199, hka06_201, hka06_202, hka06_204, hka06_206, hka06_208, hka06_209, hka06_211, hka06_213, hka06_215, hka06_217, hka06_219, hka06_221, hka06_223, hka06_224, hka06_666, hka06_227, hka06_228, hka06_230, hka06_231, hka06_232, hka06_233, hka06_234, hka06_235, hka06_236, hka06_238]))
def hka06_668 : Bool × Option ai_C := (false, some hka06_667)
def hka06_669 : ai_N := (.ofNat 0, .ofNat 60, [(19, .ofNat 0, .ofNat 0)])
def hka06_670 : ai_N := (.ofNat 0, .ofNat 20, [(20, .ofNat 0, .ofNat 0)])
def hka06_671 : ai_N := (.ofNat 0, .ofNat 1, [(21, .ofNat 0, .ofNat 0)])
def hka06_672 : ai_N := (.negSucc 3, .ofNat 2, [(22, .ofNat 0, .ofNat 0)])
def hka06_673 : ai_N := (.ofNat 0, .ofNat 5, [(23, .ofNat 0, .ofNat 0)])
def hka06_674 : ai_N := (.ofNat 0, .ofNat 4, [(24, .ofNat 0, .ofNat 0)])
def hka06_675 : ai_N := (.ofNat 0, .ofNat 60, [(25, .ofNat 0, .ofNat 0)])
def hka06_676 : ai_N := (.ofNat 0, .ofNat 20, [(26, .ofNat 0, .ofNat 0)])
def hka06_677 : ai_N := (.ofNat 0, .ofNat 1, [(27, .ofNat 0, .ofNat 0)])
def hka06_678 : ai_N := (.negSucc 3, .ofNat 2, [(28, .ofNat 0, .ofNat 0)])
def hka06_679 : ai_N := (.ofNat 0, .ofNat 5, [(29, .ofNat 0, .ofNat 0)])
def hka06_680 : ai_N := (.ofNat 0, .ofNat 4, [(30, .ofNat 0, .ofNat 0)])
def hka06_681 : ai_N := (.ofNat 0, .ofNat 60, [(31, .ofNat 0, .ofNat 0)])
def hka06_682 : ai_N := (.ofNat 0, .ofNat 20, [(32, .ofNat 0, .ofNat 0)])
def hka06_683 : ai_N := (.ofNat 0, .ofNat 1, [(33, .ofNat 0, .ofNat 0)])
def hka06_684 : ai_N := (.negSucc 3, .ofNat 2, [(34, .ofNat 0, .ofNat 0)])
def hka06_685 : ai_N := (.ofNat 0, .ofNat 5, [(35, .ofNat 0, .ofNat 0)])
def hka06_686 : ai_N := (.ofNat 0, .ofNat 4, [(36, .ofNat 0, .ofNat 0)])
def hka06_687 : ai_C := .inl (.int, [(1, hka06_669), (60, hka06_50), (17, hka06_305), (1, hka06_670), (1, hka06_671), (1, hka06_672), (1, hka06_673), (5, hka06_310), (1, hka06_674), (8, hka06_312), (1, hka06_675), (60, hka06_50), (17, hka06_305), (1, hka06_676), (1, hka06_677), (1, hka06_678), (1, hka06_679), (5, hka06_310), (1, hka06_680), (8, hka06_312), (1, hka06_681), (60, hka06_50), (17, hka06_305), (1, hka06_682), (1, hka06_683), (1, hka06_684), (1, hka06_685), (5, hka06_310), (1, hka06_686), (8, hka06_312)])
def hka06_688 : Bool × Option ai_C := (false, some hka06_687)
def hka06_689 : ai_W := [hka06_13, hka06_13, hka06_13, hka06_13, hka06_13, hka06_13, hka06_13, hka06_13, hka06_13, hka06_13, hka06_13, hka06_13, hka06_13, hka06_13, hka06_13, hka06_13, hka06_13, hka06_13, hka06_13, hka06_13, hka06_13, hka06_13, hka06_13, hka06_13, hka06_13, hka06_13, hka06_13, hka06_13, hka06_13, hka06_13, hka06_13, hka06_13, hka06_13, hka06_13, hka06_13, hka06_13, hka06_13, hka06_13, hka06_13, hka06_13, hka06_13, hka06_13, hka06_13, hka06_13, hka06_13, hka06_13, hka06_13, hka06_13, hka06_13, hka06_13, hka06_13, hka06_13, hka06_13, hka06_13, hka06_13, hka06_13, hka06_13, hka06_13, hka06_13, hka06_668, hka06_688, hka06_13, hka06_13, hka06_13, hka06_13, hka06_13, hka06_13, hka06_243, hka06_13, hka06_13, hka06_13, hka06_13, hka06_13, hka06_13, hka06_13, hka06_13]
def hka06_690 : ai_V := .inl (false, hka06_669)
def hka06_691 : ai_C := .inr (.inr (8, [hka06_187, hka06_188, hka06_190, hka06_192, hka06_193, hka06_194, hka06_196, hka06_197, hka06_199, hka06_201, hka06_202, hka06_204, hka06_206, hka06_208, hka06_209, hka06_211, hka06_213, hka06_215, hka06_217, hka06_219, hka06_221, hka06_223, hka06_224, hka06_690, hka06_227, hka06_228, hka06_230, hka06_231, hka06_232, hka06_233, hka06_234, hka06_235, hka06_236, hka06_238]))
/-- NeverAgainModel.rowMissed -/
def ka_519 : ai_K := (134, 1, (hka06_662, [hka06_184, hka06_664, hka06_12], [], hka06_689), [.inl 1, .inr (59, 2), .inr (59, 3), .inr (59, 6), .inr (59, 8), .inr (59, 9), .inr (59, 11), .inr (59, 12), .inr (59, 13), .inr (59, 15), .inr (59, 16), .inr (59, 17), .inr (59, 18), .inr (59, 19), .inr (59, 20), .inr (59, 21), .inr (59, 23), .inr (59, 26), .inr (59, 33), .inr (60, 0), .inr (60, 78), .inr (60, 79), .inr (60, 80), .inr (60, 81), .inr (60, 87), .inr (60, 96), .inr (60, 174), .inr (60, 175), .inr (60, 176), .inr (60, 177), .inr (60, 183), .inr (60, 192), .inr (60, 270), .inr (60, 271), .inr (60, 272), .inr (60, 273), .inr (60, 279)], [(none, hka06_662, [(59, hka06_691), (67, hka06_242)])])
def hka06_692 : ai_E := [hka06_607, hka06_0, hka06_1, hka06_103, hka06_178, hka06_5, hka06_2, hka06_178, hka06_179, hka06_180, hka06_180, hka06_180, hka06_181, hka06_2, hka06_104, hka06_180, hka06_268, hka06_2, hka06_5, hka06_3, hka06_269, hka06_160, hka06_270, hka06_4, hka06_5, hka06_3, hka06_269, hka06_160, hka06_270, hka06_4, hka06_5, hka06_3, hka06_269, hka06_160, hka06_270, hka06_4, hka06_5, hka06_336]
def hka06_693 : ai_N := (.ofNat 0, .ofNat 0, [(37, .ofNat 0, .ofNat 0)])
def hka06_694 : ai_V := .inl (false, hka06_693)
def hka06_695 : Bool × Option ai_C := (true, some hka06_691)
def hka06_696 : ai_W := [hka06_13, hka06_13, hka06_13, hka06_13, hka06_13, hka06_13, hka06_13, hka06_13, hka06_13, hka06_13, hka06_13, hka06_13, hka06_13, hka06_13, hka06_13, hka06_13, hka06_13, hka06_13, hka06_13, hka06_13, hka06_13, hka06_13, hka06_13, hka06_13, hka06_13, hka06_13, hka06_13, hka06_13, hka06_13, hka06_13, hka06_13, hka06_13, hka06_13, hka06_13, hka06_13, hka06_13, hka06_13, hka06_13, hka06_13, hka06_13, hka06_13, hka06_13, hka06_13, hka06_13, hka06_13, hka06_13, hka06_13, hka06_13, hka06_13, hka06_13, hka06_13, hka06_13, hka06_13, hka06_13, hka06_13, hka06_13, hka06_13, hka06_13, hka06_13, hka06_695, hka06_688, hka06_13, hka06_13, hka06_13, hka06_13, hka06_13, hka06_13, hka06_432, hka06_13, hka06_13, hka06_13, hka06_13, hka06_13, hka06_13, hka06_13, hka06_13]
def hka06_697 : Int × Int := (.ofNat 1, .ofNat 60)
def hka06_698 : ai_E := [hka06_607, hka06_0, hka06_1, hka06_103, hka06_178, hka06_5, hka06_2, hka06_178, hka06_179, hka06_180, hka06_180, hka06_180, hka06_181, hka06_2, hka06_104, hka06_180, hka06_268, hka06_2, hka06_5, hka06_697, hka06_269, hka06_160, hka06_270, hka06_4, hka06_5, hka06_3, hka06_269, hka06_160, hka06_270, hka06_4, hka06_5, hka06_3, hka06_269, hka06_160, hka06_270, hka06_4, hka06_5, hka06_353]
def hka06_699 : ai_N := (.ofNat 1, .ofNat 1, [(37, .ofNat 0, .ofNat 0)])
def hka06_700 : ai_V := .inl (false, hka06_699)
def hka06_701 : ai_N := (.ofNat 1, .ofNat 60, [(19, .ofNat 0, .ofNat 0)])
def hka06_702 : ai_V := .inl (false, hka06_701)
def hka06_703 : ai_C := .inr (.inr (8, [hka06_187, hka06_188, hka06_190, hka06_192, hka06_193, hka06_194, hka06_196, hka06_197, hka06_199, hka06_201, hka06_202, hka06_204, hka06_206, hka06_208, hka06_209, hka06_211, hka06_213, hka06_215, hka06_217, hka06_219, hka06_221, hka06_223, hka06_224, hka06_702, hka06_227, hka06_228, hka06_230, hka06_231, hka06_232, hka06_233, hka06_234, hka06_235, hka06_236, hka06_238]))
def hka06_704 : Bool × Option ai_C := (true, some hka06_703)
def hka06_705 : ai_C := .inl (.int, [(1, hka06_701), (60, hka06_50), (17, hka06_305), (1, hka06_670), (1, hka06_671), (1, hka06_672), (1, hka06_673), (5, hka06_310), (1, hka06_674), (8, hka06_312), (1, hka06_675), (60, hka06_50), (17, hka06_305), (1, hka06_676), (1, hka06_677), (1, hka06_678), (1, hka06_679), (5, hka06_310), (1, hka06_680), (8, hka06_312), (1, hka06_681), (60, hka06_50), (17, hka06_305), (1, hka06_682), (1, hka06_683), (1, hka06_684), (1, hka06_685), (5, hka06_310), (1, hka06_686), (8, hka06_312)])
def hka06_706 : Bool × Option ai_C := (false, some hka06_705)
def hka06_707 : ai_W := [hka06_13, hka06_13, hka06_13, hka06_13, hka06_13, hka06_13, hka06_13, hka06_13, hka06_13, hka06_13, hka06_13, hka06_13, hka06_13, hka06_13, hka06_13, hka06_13, hka06_13, hka06_13, hka06_13, hka06_13, hka06_13, hka06_13, hka06_13, hka06_13, hka06_13, hka06_13, hka06_13, hka06_13, hka06_13, hka06_13, hka06_13, hka06_13, hka06_13, hka06_13, hka06_13, hka06_13, hka06_13, hka06_13, hka06_13, hka06_13, hka06_13, hka06_13, hka06_13, hka06_13, hka06_13, hka06_13, hka06_13, hka06_13, hka06_13, hka06_13, hka06_13, hka06_13, hka06_13, hka06_13, hka06_13, hka06_13, hka06_13, hka06_13, hka06_13, hka06_704, hka06_706, hka06_13, hka06_13, hka06_13, hka06_13, hka06_13, hka06_13, hka06_432, hka06_13, hka06_13, hka06_13, hka06_13, hka06_13, hka06_13, hka06_13, hka06_13]
def hka06_708 : Int × Int := (.ofNat 2, .ofNat 9)
def hka06_709 : Int × Int := (.ofNat 2, .ofNat 60)
def hka06_710 : ai_E := [hka06_708, hka06_0, hka06_1, hka06_103, hka06_178, hka06_5, hka06_2, hka06_178, hka06_179, hka06_180, hka06_180, hka06_180, hka06_181, hka06_2, hka06_104, hka06_180, hka06_268, hka06_2, hka06_5, hka06_709, hka06_269, hka06_160, hka06_270, hka06_4, hka06_5, hka06_3, hka06_269, hka06_160, hka06_270, hka06_4, hka06_5, hka06_3, hka06_269, hka06_160, hka06_270, hka06_4, hka06_5, hka06_349]
def hka06_711 : ai_N := (.ofNat 2, .ofNat 9, [(0, .ofNat 0, .ofNat 0)])
def hka06_712 : ai_V := .inl (false, hka06_711)
def hka06_713 : ai_N := (.ofNat 2, .ofNat 2, [(37, .ofNat 0, .ofNat 0)])
def hka06_714 : ai_V := .inl (false, hka06_713)
def hka06_715 : ai_N := (.ofNat 2, .ofNat 60, [(19, .ofNat 0, .ofNat 0)])
def hka06_716 : ai_V := .inl (false, hka06_715)
def hka06_717 : ai_C := .inr (.inr (8, [hka06_187, hka06_188, hka06_190, hka06_192, hka06_193, hka06_194, hka06_196, hka06_197, hka06_199, hka06_201, hka06_202, hka06_204, hka06_206, hka06_208, hka06_209, hka06_211, hka06_213, hka06_215, hka06_217, hka06_219, hka06_221, hka06_223, hka06_224, hka06_716, hka06_227, hka06_228, hka06_230, hka06_231, hka06_232, hka06_233, hka06_234, hka06_235, hka06_236, hka06_238]))
def hka06_718 : Bool × Option ai_C := (true, some hka06_717)
def hka06_719 : ai_C := .inl (.int, [(1, hka06_715), (60, hka06_50), (17, hka06_305), (1, hka06_670), (1, hka06_671), (1, hka06_672), (1, hka06_673), (5, hka06_310), (1, hka06_674), (8, hka06_312), (1, hka06_675), (60, hka06_50), (17, hka06_305), (1, hka06_676), (1, hka06_677), (1, hka06_678), (1, hka06_679), (5, hka06_310), (1, hka06_680), (8, hka06_312), (1, hka06_681), (60, hka06_50), (17, hka06_305), (1, hka06_682), (1, hka06_683), (1, hka06_684), (1, hka06_685), (5, hka06_310), (1, hka06_686), (8, hka06_312)])
def hka06_720 : Bool × Option ai_C := (false, some hka06_719)
def hka06_721 : ai_W := [hka06_13, hka06_13, hka06_13, hka06_13, hka06_13, hka06_13, hka06_13, hka06_13, hka06_13, hka06_13, hka06_13, hka06_13, hka06_13, hka06_13, hka06_13, hka06_13, hka06_13, hka06_13, hka06_13, hka06_13, hka06_13, hka06_13, hka06_13, hka06_13, hka06_13, hka06_13, hka06_13, hka06_13, hka06_13, hka06_13, hka06_13, hka06_13, hka06_13, hka06_13, hka06_13, hka06_13, hka06_13, hka06_13, hka06_13, hka06_13, hka06_13, hka06_13, hka06_13, hka06_13, hka06_13, hka06_13, hka06_13, hka06_13, hka06_13, hka06_13, hka06_13, hka06_13, hka06_13, hka06_13, hka06_13, hka06_13, hka06_13, hka06_13, hka06_13, hka06_718, hka06_720, hka06_13, hka06_13, hka06_13, hka06_13, hka06_13, hka06_13, hka06_432, hka06_13, hka06_13, hka06_13, hka06_13, hka06_13, hka06_13, hka06_13, hka06_13]
def hka06_722 : Int × Int := (.ofNat 3, .ofNat 9)
def hka06_723 : Int × Int := (.ofNat 3, .ofNat 60)
def hka06_724 : ai_E := [hka06_722, hka06_0, hka06_1, hka06_103, hka06_178, hka06_5, hka06_2, hka06_178, hka06_179, hka06_180, hka06_180, hka06_180, hka06_181, hka06_2, hka06_104, hka06_180, hka06_268, hka06_2, hka06_5, hka06_723, hka06_269, hka06_160, hka06_270, hka06_4, hka06_5, hka06_3, hka06_269, hka06_160, hka06_270, hka06_4, hka06_5, hka06_3, hka06_269, hka06_160, hka06_270, hka06_4, hka06_5, hka06_345]
def hka06_725 : ai_N := (.ofNat 3, .ofNat 9, [(0, .ofNat 0, .ofNat 0)])
def hka06_726 : ai_V := .inl (false, hka06_725)
def hka06_727 : ai_N := (.ofNat 3, .ofNat 3, [(37, .ofNat 0, .ofNat 0)])
def hka06_728 : ai_V := .inl (false, hka06_727)
def hka06_729 : ai_N := (.ofNat 3, .ofNat 60, [(19, .ofNat 0, .ofNat 0)])
def hka06_730 : ai_V := .inl (false, hka06_729)
def hka06_731 : ai_C := .inr (.inr (8, [hka06_187, hka06_188, hka06_190, hka06_192, hka06_193, hka06_194, hka06_196, hka06_197, hka06_199, hka06_201, hka06_202, hka06_204, hka06_206, hka06_208, hka06_209, hka06_211, hka06_213, hka06_215, hka06_217, hka06_219, hka06_221, hka06_223, hka06_224, hka06_730, hka06_227, hka06_228, hka06_230, hka06_231, hka06_232, hka06_233, hka06_234, hka06_235, hka06_236, hka06_238]))
def hka06_732 : Bool × Option ai_C := (true, some hka06_731)
def hka06_733 : ai_C := .inl (.int, [(1, hka06_729), (60, hka06_50), (17, hka06_305), (1, hka06_670), (1, hka06_671), (1, hka06_672), (1, hka06_673), (5, hka06_310), (1, hka06_674), (8, hka06_312), (1, hka06_675), (60, hka06_50), (17, hka06_305), (1, hka06_676), (1, hka06_677), (1, hka06_678), (1, hka06_679), (5, hka06_310), (1, hka06_680), (8, hka06_312), (1, hka06_681), (60, hka06_50), (17, hka06_305), (1, hka06_682), (1, hka06_683), (1, hka06_684), (1, hka06_685), (5, hka06_310), (1, hka06_686), (8, hka06_312)])
def hka06_734 : Bool × Option ai_C := (false, some hka06_733)
def hka06_735 : ai_W := [hka06_13, hka06_13, hka06_13, hka06_13, hka06_13, hka06_13, hka06_13, hka06_13, hka06_13, hka06_13, hka06_13, hka06_13, hka06_13, hka06_13, hka06_13, hka06_13, hka06_13, hka06_13, hka06_13, hka06_13, hka06_13, hka06_13, hka06_13, hka06_13, hka06_13, hka06_13, hka06_13, hka06_13, hka06_13, hka06_13, hka06_13, hka06_13, hka06_13, hka06_13, hka06_13, hka06_13, hka06_13, hka06_13, hka06_13, hka06_13, hka06_13, hka06_13, hka06_13, hka06_13, hka06_13, hka06_13, hka06_13, hka06_13, hka06_13, hka06_13, hka06_13, hka06_13, hka06_13, hka06_13, hka06_13, hka06_13, hka06_13, hka06_13, hka06_13, hka06_732, hka06_734, hka06_13, hka06_13, hka06_13, hka06_13, hka06_13, hka06_13, hka06_432, hka06_13, hka06_13, hka06_13, hka06_13, hka06_13, hka06_13, hka06_13, hka06_13]
def hka06_736 : Int × Int := (.ofNat 4, .ofNat 9)
def hka06_737 : Int × Int := (.ofNat 4, .ofNat 60)
def hka06_738 : ai_E := [hka06_736, hka06_0, hka06_1, hka06_103, hka06_178, hka06_5, hka06_2, hka06_178, hka06_179, hka06_180, hka06_180, hka06_180, hka06_181, hka06_2, hka06_104, hka06_180, hka06_268, hka06_2, hka06_5, hka06_737, hka06_269, hka06_160, hka06_270, hka06_4, hka06_5, hka06_3, hka06_269, hka06_160, hka06_270, hka06_4, hka06_5, hka06_3, hka06_269, hka06_160, hka06_270, hka06_4, hka06_5, hka06_335]
def hka06_739 : ai_N := (.ofNat 4, .ofNat 9, [(0, .ofNat 0, .ofNat 0)])
def hka06_740 : ai_V := .inl (false, hka06_739)
def hka06_741 : ai_N := (.ofNat 4, .ofNat 4, [(37, .ofNat 0, .ofNat 0)])
def hka06_742 : ai_V := .inl (false, hka06_741)
def hka06_743 : ai_N := (.ofNat 4, .ofNat 60, [(19, .ofNat 0, .ofNat 0)])
def hka06_744 : ai_V := .inl (false, hka06_743)
def hka06_745 : ai_C := .inr (.inr (8, [hka06_187, hka06_188, hka06_190, hka06_192, hka06_193, hka06_194, hka06_196, hka06_197, hka06_199, hka06_201, hka06_202, hka06_204, hka06_206, hka06_208, hka06_209, hka06_211, hka06_213, hka06_215, hka06_217, hka06_219, hka06_221, hka06_223, hka06_224, hka06_744, hka06_227, hka06_228, hka06_230, hka06_231, hka06_232, hka06_233, hka06_234, hka06_235, hka06_236, hka06_238]))
def hka06_746 : Bool × Option ai_C := (true, some hka06_745)
def hka06_747 : ai_C := .inl (.int, [(1, hka06_743), (60, hka06_50), (17, hka06_305), (1, hka06_670), (1, hka06_671), (1, hka06_672), (1, hka06_673), (5, hka06_310), (1, hka06_674), (8, hka06_312), (1, hka06_675), (60, hka06_50), (17, hka06_305), (1, hka06_676), (1, hka06_677), (1, hka06_678), (1, hka06_679), (5, hka06_310), (1, hka06_680), (8, hka06_312), (1, hka06_681), (60, hka06_50), (17, hka06_305), (1, hka06_682), (1, hka06_683), (1, hka06_684), (1, hka06_685), (5, hka06_310), (1, hka06_686), (8, hka06_312)])
def hka06_748 : Bool × Option ai_C := (false, some hka06_747)
def hka06_749 : ai_W := [hka06_13, hka06_13, hka06_13, hka06_13, hka06_13, hka06_13, hka06_13, hka06_13, hka06_13, hka06_13, hka06_13, hka06_13, hka06_13, hka06_13, hka06_13, hka06_13, hka06_13, hka06_13, hka06_13, hka06_13, hka06_13, hka06_13, hka06_13, hka06_13, hka06_13, hka06_13, hka06_13, hka06_13, hka06_13, hka06_13, hka06_13, hka06_13, hka06_13, hka06_13, hka06_13, hka06_13, hka06_13, hka06_13, hka06_13, hka06_13, hka06_13, hka06_13, hka06_13, hka06_13, hka06_13, hka06_13, hka06_13, hka06_13, hka06_13, hka06_13, hka06_13, hka06_13, hka06_13, hka06_13, hka06_13, hka06_13, hka06_13, hka06_13, hka06_13, hka06_746, hka06_748, hka06_13, hka06_13, hka06_13, hka06_13, hka06_13, hka06_13, hka06_432, hka06_13, hka06_13, hka06_13, hka06_13, hka06_13, hka06_13, hka06_13, hka06_13]
def hka06_750 : Int × Int := (.ofNat 5, .ofNat 9)
def hka06_751 : Int × Int := (.ofNat 5, .ofNat 60)
def hka06_752 : Int × Int := (.ofNat 5, .ofNat 5)
def hka06_753 : ai_E := [hka06_750, hka06_0, hka06_1, hka06_103, hka06_178, hka06_5, hka06_2, hka06_178, hka06_179, hka06_180, hka06_180, hka06_180, hka06_181, hka06_2, hka06_104, hka06_180, hka06_268, hka06_2, hka06_5, hka06_751, hka06_269, hka06_160, hka06_270, hka06_4, hka06_5, hka06_3, hka06_269, hka06_160, hka06_270, hka06_4, hka06_5, hka06_3, hka06_269, hka06_160, hka06_270, hka06_4, hka06_5, hka06_752]
def hka06_754 : ai_N := (.ofNat 5, .ofNat 9, [(0, .ofNat 0, .ofNat 0)])
def hka06_755 : ai_V := .inl (false, hka06_754)
def hka06_756 : ai_N := (.ofNat 5, .ofNat 5, [(37, .ofNat 0, .ofNat 0)])
def hka06_757 : ai_V := .inl (false, hka06_756)
def hka06_758 : ai_N := (.ofNat 5, .ofNat 60, [(19, .ofNat 0, .ofNat 0)])
def hka06_759 : ai_V := .inl (false, hka06_758)
def hka06_760 : ai_C := .inr (.inr (8, [hka06_187, hka06_188, hka06_190, hka06_192, hka06_193, hka06_194, hka06_196, hka06_197, hka06_199, hka06_201, hka06_202, hka06_204, hka06_206, hka06_208, hka06_209, hka06_211, hka06_213, hka06_215, hka06_217, hka06_219, hka06_221, hka06_223, hka06_224, hka06_759, hka06_227, hka06_228, hka06_230, hka06_231, hka06_232, hka06_233, hka06_234, hka06_235, hka06_236, hka06_238]))
def hka06_761 : Bool × Option ai_C := (true, some hka06_760)
def hka06_762 : ai_C := .inl (.int, [(1, hka06_758), (60, hka06_50), (17, hka06_305), (1, hka06_670), (1, hka06_671), (1, hka06_672), (1, hka06_673), (5, hka06_310), (1, hka06_674), (8, hka06_312), (1, hka06_675), (60, hka06_50), (17, hka06_305), (1, hka06_676), (1, hka06_677), (1, hka06_678), (1, hka06_679), (5, hka06_310), (1, hka06_680), (8, hka06_312), (1, hka06_681), (60, hka06_50), (17, hka06_305), (1, hka06_682), (1, hka06_683), (1, hka06_684), (1, hka06_685), (5, hka06_310), (1, hka06_686), (8, hka06_312)])
def hka06_763 : Bool × Option ai_C := (false, some hka06_762)
def hka06_764 : ai_W := [hka06_13, hka06_13, hka06_13, hka06_13, hka06_13, hka06_13, hka06_13, hka06_13, hka06_13, hka06_13, hka06_13, hka06_13, hka06_13, hka06_13, hka06_13, hka06_13, hka06_13, hka06_13, hka06_13, hka06_13, hka06_13, hka06_13, hka06_13, hka06_13, hka06_13, hka06_13, hka06_13, hka06_13, hka06_13, hka06_13, hka06_13, hka06_13, hka06_13, hka06_13, hka06_13, hka06_13, hka06_13, hka06_13, hka06_13, hka06_13, hka06_13, hka06_13, hka06_13, hka06_13, hka06_13, hka06_13, hka06_13, hka06_13, hka06_13, hka06_13, hka06_13, hka06_13, hka06_13, hka06_13, hka06_13, hka06_13, hka06_13, hka06_13, hka06_13, hka06_761, hka06_763, hka06_13, hka06_13, hka06_13, hka06_13, hka06_13, hka06_13, hka06_432, hka06_13, hka06_13, hka06_13, hka06_13, hka06_13, hka06_13, hka06_13, hka06_13]
def hka06_765 : Int × Int := (.ofNat 6, .ofNat 9)
def hka06_766 : Int × Int := (.ofNat 6, .ofNat 60)
def hka06_767 : Int × Int := (.ofNat 6, .ofNat 6)
def hka06_768 : ai_E := [hka06_765, hka06_0, hka06_1, hka06_103, hka06_178, hka06_5, hka06_2, hka06_178, hka06_179, hka06_180, hka06_180, hka06_180, hka06_181, hka06_2, hka06_104, hka06_180, hka06_268, hka06_2, hka06_5, hka06_766, hka06_269, hka06_160, hka06_270, hka06_4, hka06_5, hka06_3, hka06_269, hka06_160, hka06_270, hka06_4, hka06_5, hka06_3, hka06_269, hka06_160, hka06_270, hka06_4, hka06_5, hka06_767]
def hka06_769 : ai_N := (.ofNat 6, .ofNat 9, [(0, .ofNat 0, .ofNat 0)])
def hka06_770 : ai_V := .inl (false, hka06_769)
def hka06_771 : ai_N := (.ofNat 6, .ofNat 6, [(37, .ofNat 0, .ofNat 0)])
def hka06_772 : ai_V := .inl (false, hka06_771)
def hka06_773 : ai_N := (.ofNat 6, .ofNat 60, [(19, .ofNat 0, .ofNat 0)])
def hka06_774 : ai_V := .inl (false, hka06_773)
def hka06_775 : ai_C := .inr (.inr (8, [hka06_187, hka06_188, hka06_190, hka06_192, hka06_193, hka06_194, hka06_196, hka06_197, hka06_199, hka06_201, hka06_202, hka06_204, hka06_206, hka06_208, hka06_209, hka06_211, hka06_213, hka06_215, hka06_217, hka06_219, hka06_221, hka06_223, hka06_224, hka06_774, hka06_227, hka06_228, hka06_230, hka06_231, hka06_232, hka06_233, hka06_234, hka06_235, hka06_236, hka06_238]))
def hka06_776 : Bool × Option ai_C := (true, some hka06_775)
def hka06_777 : ai_C := .inl (.int, [(1, hka06_773), (60, hka06_50), (17, hka06_305), (1, hka06_670), (1, hka06_671), (1, hka06_672), (1, hka06_673), (5, hka06_310), (1, hka06_674), (8, hka06_312), (1, hka06_675), (60, hka06_50), (17, hka06_305), (1, hka06_676), (1, hka06_677), (1, hka06_678), (1, hka06_679), (5, hka06_310), (1, hka06_680), (8, hka06_312), (1, hka06_681), (60, hka06_50), (17, hka06_305), (1, hka06_682), (1, hka06_683), (1, hka06_684), (1, hka06_685), (5, hka06_310), (1, hka06_686), (8, hka06_312)])
def hka06_778 : Bool × Option ai_C := (false, some hka06_777)
def hka06_779 : ai_W := [hka06_13, hka06_13, hka06_13, hka06_13, hka06_13, hka06_13, hka06_13, hka06_13, hka06_13, hka06_13, hka06_13, hka06_13, hka06_13, hka06_13, hka06_13, hka06_13, hka06_13, hka06_13, hka06_13, hka06_13, hka06_13, hka06_13, hka06_13, hka06_13, hka06_13, hka06_13, hka06_13, hka06_13, hka06_13, hka06_13, hka06_13, hka06_13, hka06_13, hka06_13, hka06_13, hka06_13, hka06_13, hka06_13, hka06_13, hka06_13, hka06_13, hka06_13, hka06_13, hka06_13, hka06_13, hka06_13, hka06_13, hka06_13, hka06_13, hka06_13, hka06_13, hka06_13, hka06_13, hka06_13, hka06_13, hka06_13, hka06_13, hka06_13, hka06_13, hka06_776, hka06_778, hka06_13, hka06_13, hka06_13, hka06_13, hka06_13, hka06_13, hka06_432, hka06_13, hka06_13, hka06_13, hka06_13, hka06_13, hka06_13, hka06_13, hka06_13]
def hka06_780 : Int × Int := (.ofNat 7, .ofNat 9)
def hka06_781 : Int × Int := (.ofNat 7, .ofNat 60)
def hka06_782 : Int × Int := (.ofNat 7, .ofNat 7)
def hka06_783 : ai_E := [hka06_780, hka06_0, hka06_1, hka06_103, hka06_178, hka06_5, hka06_2, hka06_178, hka06_179, hka06_180, hka06_180, hka06_180, hka06_181, hka06_2, hka06_104, hka06_180, hka06_268, hka06_2, hka06_5, hka06_781, hka06_269, hka06_160, hka06_270, hka06_4, hka06_5, hka06_3, hka06_269, hka06_160, hka06_270, hka06_4, hka06_5, hka06_3, hka06_269, hka06_160, hka06_270, hka06_4, hka06_5, hka06_782]
def hka06_784 : ai_N := (.ofNat 7, .ofNat 9, [(0, .ofNat 0, .ofNat 0)])
def hka06_785 : ai_V := .inl (false, hka06_784)
def hka06_786 : ai_N := (.ofNat 7, .ofNat 7, [(37, .ofNat 0, .ofNat 0)])
def hka06_787 : ai_V := .inl (false, hka06_786)
def hka06_788 : ai_N := (.ofNat 7, .ofNat 60, [(19, .ofNat 0, .ofNat 0)])
def hka06_789 : ai_V := .inl (false, hka06_788)
def hka06_790 : ai_C := .inr (.inr (8, [hka06_187, hka06_188, hka06_190, hka06_192, hka06_193, hka06_194, hka06_196, hka06_197, hka06_199, hka06_201, hka06_202, hka06_204, hka06_206, hka06_208, hka06_209, hka06_211, hka06_213, hka06_215, hka06_217, hka06_219, hka06_221, hka06_223, hka06_224, hka06_789, hka06_227, hka06_228, hka06_230, hka06_231, hka06_232, hka06_233, hka06_234, hka06_235, hka06_236, hka06_238]))
def hka06_791 : Bool × Option ai_C := (true, some hka06_790)
def hka06_792 : ai_C := .inl (.int, [(1, hka06_788), (60, hka06_50), (17, hka06_305), (1, hka06_670), (1, hka06_671), (1, hka06_672), (1, hka06_673), (5, hka06_310), (1, hka06_674), (8, hka06_312), (1, hka06_675), (60, hka06_50), (17, hka06_305), (1, hka06_676), (1, hka06_677), (1, hka06_678), (1, hka06_679), (5, hka06_310), (1, hka06_680), (8, hka06_312), (1, hka06_681), (60, hka06_50), (17, hka06_305), (1, hka06_682), (1, hka06_683), (1, hka06_684), (1, hka06_685), (5, hka06_310), (1, hka06_686), (8, hka06_312)])
def hka06_793 : Bool × Option ai_C := (false, some hka06_792)
def hka06_794 : ai_W := [hka06_13, hka06_13, hka06_13, hka06_13, hka06_13, hka06_13, hka06_13, hka06_13, hka06_13, hka06_13, hka06_13, hka06_13, hka06_13, hka06_13, hka06_13, hka06_13, hka06_13, hka06_13, hka06_13, hka06_13, hka06_13, hka06_13, hka06_13, hka06_13, hka06_13, hka06_13, hka06_13, hka06_13, hka06_13, hka06_13, hka06_13, hka06_13, hka06_13, hka06_13, hka06_13, hka06_13, hka06_13, hka06_13, hka06_13, hka06_13, hka06_13, hka06_13, hka06_13, hka06_13, hka06_13, hka06_13, hka06_13, hka06_13, hka06_13, hka06_13, hka06_13, hka06_13, hka06_13, hka06_13, hka06_13, hka06_13, hka06_13, hka06_13, hka06_13, hka06_791, hka06_793, hka06_13, hka06_13, hka06_13, hka06_13, hka06_13, hka06_13, hka06_432, hka06_13, hka06_13, hka06_13, hka06_13, hka06_13, hka06_13, hka06_13, hka06_13]
def hka06_795 : Int × Int := (.ofNat 8, .ofNat 9)
def hka06_796 : Int × Int := (.ofNat 8, .ofNat 60)
def hka06_797 : Int × Int := (.ofNat 8, .ofNat 8)
def hka06_798 : ai_E := [hka06_795, hka06_0, hka06_1, hka06_103, hka06_178, hka06_5, hka06_2, hka06_178, hka06_179, hka06_180, hka06_180, hka06_180, hka06_181, hka06_2, hka06_104, hka06_180, hka06_268, hka06_2, hka06_5, hka06_796, hka06_269, hka06_160, hka06_270, hka06_4, hka06_5, hka06_3, hka06_269, hka06_160, hka06_270, hka06_4, hka06_5, hka06_3, hka06_269, hka06_160, hka06_270, hka06_4, hka06_5, hka06_797]
def hka06_799 : ai_N := (.ofNat 8, .ofNat 9, [(0, .ofNat 0, .ofNat 0)])
def hka06_800 : ai_V := .inl (false, hka06_799)
def hka06_801 : ai_N := (.ofNat 8, .ofNat 8, [(37, .ofNat 0, .ofNat 0)])
def hka06_802 : ai_V := .inl (false, hka06_801)
def hka06_803 : ai_N := (.ofNat 8, .ofNat 60, [(19, .ofNat 0, .ofNat 0)])
def hka06_804 : ai_V := .inl (false, hka06_803)
def hka06_805 : ai_C := .inr (.inr (8, [hka06_187, hka06_188, hka06_190, hka06_192, hka06_193, hka06_194, hka06_196, hka06_197, hka06_199, hka06_201, hka06_202, hka06_204, hka06_206, hka06_208, hka06_209, hka06_211, hka06_213, hka06_215, hka06_217, hka06_219, hka06_221, hka06_223, hka06_224, hka06_804, hka06_227, hka06_228, hka06_230, hka06_231, hka06_232, hka06_233, hka06_234, hka06_235, hka06_236, hka06_238]))
def hka06_806 : Bool × Option ai_C := (true, some hka06_805)
def hka06_807 : ai_C := .inl (.int, [(1, hka06_803), (60, hka06_50), (17, hka06_305), (1, hka06_670), (1, hka06_671), (1, hka06_672), (1, hka06_673), (5, hka06_310), (1, hka06_674), (8, hka06_312), (1, hka06_675), (60, hka06_50), (17, hka06_305), (1, hka06_676), (1, hka06_677), (1, hka06_678), (1, hka06_679), (5, hka06_310), (1, hka06_680), (8, hka06_312), (1, hka06_681), (60, hka06_50), (17, hka06_305), (1, hka06_682), (1, hka06_683), (1, hka06_684), (1, hka06_685), (5, hka06_310), (1, hka06_686), (8, hka06_312)])
def hka06_808 : Bool × Option ai_C := (false, some hka06_807)
def hka06_809 : ai_W := [hka06_13, hka06_13, hka06_13, hka06_13, hka06_13, hka06_13, hka06_13, hka06_13, hka06_13, hka06_13, hka06_13, hka06_13, hka06_13, hka06_13, hka06_13, hka06_13, hka06_13, hka06_13, hka06_13, hka06_13, hka06_13, hka06_13, hka06_13, hka06_13, hka06_13, hka06_13, hka06_13, hka06_13, hka06_13, hka06_13, hka06_13, hka06_13, hka06_13, hka06_13, hka06_13, hka06_13, hka06_13, hka06_13, hka06_13, hka06_13, hka06_13, hka06_13, hka06_13, hka06_13, hka06_13, hka06_13, hka06_13, hka06_13, hka06_13, hka06_13, hka06_13, hka06_13, hka06_13, hka06_13, hka06_13, hka06_13, hka06_13, hka06_13, hka06_13, hka06_806, hka06_808, hka06_13, hka06_13, hka06_13, hka06_13, hka06_13, hka06_13, hka06_432, hka06_13, hka06_13, hka06_13, hka06_13, hka06_13, hka06_13, hka06_13, hka06_13]
def hka06_810 : Int × Int := (.ofNat 9, .ofNat 9)
def hka06_811 : Int × Int := (.ofNat 9, .ofNat 60)
def hka06_812 : ai_E := [hka06_810, hka06_0, hka06_1, hka06_103, hka06_178, hka06_5, hka06_2, hka06_178, hka06_179, hka06_180, hka06_180, hka06_180, hka06_181, hka06_2, hka06_104, hka06_180, hka06_268, hka06_2, hka06_5, hka06_811, hka06_269, hka06_160, hka06_270, hka06_4, hka06_5, hka06_3, hka06_269, hka06_160, hka06_270, hka06_4, hka06_5, hka06_3, hka06_269, hka06_160, hka06_270, hka06_4, hka06_5, hka06_810]
def hka06_813 : ai_N := (.ofNat 9, .ofNat 9, [(0, .ofNat 0, .ofNat 0)])
def hka06_814 : ai_V := .inl (false, hka06_813)
def hka06_815 : ai_N := (.ofNat 9, .ofNat 9, [(37, .ofNat 0, .ofNat 0)])
def hka06_816 : ai_V := .inl (false, hka06_815)
def hka06_817 : ai_N := (.ofNat 9, .ofNat 60, [(19, .ofNat 0, .ofNat 0)])
def hka06_818 : ai_V := .inl (false, hka06_817)
def hka06_819 : ai_C := .inr (.inr (8, [hka06_187, hka06_188, hka06_190, hka06_192, hka06_193, hka06_194, hka06_196, hka06_197, hka06_199, hka06_201, hka06_202, hka06_204, hka06_206, hka06_208, hka06_209, hka06_211, hka06_213, hka06_215, hka06_217, hka06_219, hka06_221, hka06_223, hka06_224, hka06_818, hka06_227, hka06_228, hka06_230, hka06_231, hka06_232, hka06_233, hka06_234, hka06_235, hka06_236, hka06_238]))
def hka06_820 : Bool × Option ai_C := (true, some hka06_819)
def hka06_821 : ai_C := .inl (.int, [(1, hka06_817), (60, hka06_50), (17, hka06_305), (1, hka06_670), (1, hka06_671), (1, hka06_672), (1, hka06_673), (5, hka06_310), (1, hka06_674), (8, hka06_312), (1, hka06_675), (60, hka06_50), (17, hka06_305), (1, hka06_676), (1, hka06_677), (1, hka06_678), (1, hka06_679), (5, hka06_310), (1, hka06_680), (8, hka06_312), (1, hka06_681), (60, hka06_50), (17, hka06_305), (1, hka06_682), (1, hka06_683), (1, hka06_684), (1, hka06_685), (5, hka06_310), (1, hka06_686), (8, hka06_312)])
def hka06_822 : Bool × Option ai_C := (false, some hka06_821)
def hka06_823 : ai_W := [hka06_13, hka06_13, hka06_13, hka06_13, hka06_13, hka06_13, hka06_13, hka06_13, hka06_13, hka06_13, hka06_13, hka06_13, hka06_13, hka06_13, hka06_13, hka06_13, hka06_13, hka06_13, hka06_13, hka06_13, hka06_13, hka06_13, hka06_13, hka06_13, hka06_13, hka06_13, hka06_13, hka06_13, hka06_13, hka06_13, hka06_13, hka06_13, hka06_13, hka06_13, hka06_13, hka06_13, hka06_13, hka06_13, hka06_13, hka06_13, hka06_13, hka06_13, hka06_13, hka06_13, hka06_13, hka06_13, hka06_13, hka06_13, hka06_13, hka06_13, hka06_13, hka06_13, hka06_13, hka06_13, hka06_13, hka06_13, hka06_13, hka06_13, hka06_13, hka06_820, hka06_822, hka06_13, hka06_13, hka06_13, hka06_13, hka06_13, hka06_13, hka06_432, hka06_13, hka06_13, hka06_13, hka06_13, hka06_13, hka06_13, hka06_13, hka06_13]
def kan_519 : List ai_Nd := [(6, (hka06_692, [hka06_184, hka06_664, hka06_694], [], hka06_696), [.inl 2], [.inl 99993, .inl 10, .inr (true, .ofNat 9, 37), .inl 100000]), (6, (hka06_698, [hka06_184, hka06_664, hka06_700], [], hka06_707), [.inl 2], [.inl 99993, .inl 9, .inr (true, .ofNat 9, 37), .inl 100000]), (6, (hka06_710, [hka06_184, hka06_712, hka06_714], [], hka06_721), [.inl 2], [.inl 99993, .inl 8, .inr (true, .ofNat 9, 37), .inl 100000]), (6, (hka06_724, [hka06_184, hka06_726, hka06_728], [], hka06_735), [.inl 2], [.inl 99993, .inl 7, .inr (true, .ofNat 9, 37), .inl 100000]), (6, (hka06_738, [hka06_184, hka06_740, hka06_742], [], hka06_749), [.inl 2], [.inl 99993, .inl 6, .inr (true, .ofNat 9, 37), .inl 100000]), (6, (hka06_753, [hka06_184, hka06_755, hka06_757], [], hka06_764), [.inl 2], [.inl 99993, .inl 5, .inr (true, .ofNat 9, 37), .inl 100000]), (6, (hka06_768, [hka06_184, hka06_770, hka06_772], [], hka06_779), [.inl 2], [.inl 99993, .inl 4, .inr (true, .ofNat 9, 37), .inl 100000]), (6, (hka06_783, [hka06_184, hka06_785, hka06_787], [], hka06_794), [.inl 2], [.inl 99993, .inl 3, .inr (true, .ofNat 9, 37), .inl 100000]), (6, (hka06_798, [hka06_184, hka06_800, hka06_802], [], hka06_809), [.inl 2], [.inl 99993, .inl 2, .inr (true, .ofNat 9, 37), .inl 100000]), (6, (hka06_812, [hka06_184, hka06_814, hka06_816], [], hka06_823), [.inl 2], [.inl 99993, .inl 1, .inr (true, .ofNat 9, 37), .inl 100000])]
set_option maxRecDepth 1000000 in
theorem kak_519 : ai_ck [ka_380] [] ka_519 [.inl 100000, .inl 0, .inl 0, .inl 0] kan_519 21 = true := by decide +kernel
theorem kah_519 : ai_holds ka_519 := ai_thm kak_519 (ai_cons kah_380 ai_nil)
def hka06_824 : ai_V := .inl (false, hka06_603)
/-- NeverAgainModel.rowMissed -/
def ka_520 : ai_K := (134, 1, (hka06_609, [hka06_184, hka06_824, hka06_12], [], hka06_654), [.inr (59, 2), .inr (59, 3), .inr (59, 6), .inr (59, 8), .inr (59, 9), .inr (59, 11), .inr (59, 12), .inr (59, 13), .inr (59, 15), .inr (59, 16), .inr (59, 17), .inr (59, 18), .inr (59, 19), .inr (59, 20), .inr (59, 21), .inr (59, 23), .inr (59, 26), .inr (59, 33), .inr (60, 0), .inr (60, 78), .inr (60, 79), .inr (60, 80), .inr (60, 81), .inr (60, 87), .inr (60, 96), .inr (60, 174), .inr (60, 175), .inr (60, 176), .inr (60, 177), .inr (60, 183), .inr (60, 192), .inr (60, 270), .inr (60, 271), .inr (60, 272), .inr (60, 273), .inr (60, 279)], [(none, hka06_609, [(59, hka06_656), (67, hka06_242)])])
def hka06_825 : ai_E := [hka06_0, hka06_1, hka06_103, hka06_178, hka06_5, hka06_2, hka06_178, hka06_179, hka06_180, hka06_180, hka06_180, hka06_181, hka06_2, hka06_104, hka06_180, hka06_268, hka06_2, hka06_5, hka06_697, hka06_269, hka06_160, hka06_270, hka06_4, hka06_5, hka06_3, hka06_269, hka06_160, hka06_270, hka06_4, hka06_5, hka06_3, hka06_269, hka06_160, hka06_270, hka06_4, hka06_5, hka06_353]
def hka06_826 : ai_N := (.ofNat 1, .ofNat 1, [(36, .ofNat 0, .ofNat 0)])
def hka06_827 : ai_V := .inl (false, hka06_826)
def hka06_828 : ai_N := (.ofNat 1, .ofNat 60, [(18, .ofNat 0, .ofNat 0)])
def hka06_829 : ai_V := .inl (false, hka06_828)
def hka06_830 : ai_C := .inr (.inr (8, [hka06_187, hka06_188, hka06_21, hka06_23, hka06_193, hka06_194, hka06_120, hka06_197, hka06_611, hka06_124, hka06_202, hka06_576, hka06_613, hka06_615, hka06_209, hka06_617, hka06_211, hka06_213, hka06_619, hka06_621, hka06_623, hka06_625, hka06_224, hka06_829, hka06_227, hka06_228, hka06_629, hka06_231, hka06_232, hka06_233, hka06_234, hka06_235, hka06_236, hka06_631]))
def hka06_831 : Bool × Option ai_C := (true, some hka06_830)
def hka06_832 : ai_C := .inl (.int, [(1, hka06_828), (60, hka06_50), (17, hka06_305), (1, hka06_635), (1, hka06_636), (1, hka06_637), (1, hka06_638), (5, hka06_310), (1, hka06_639), (8, hka06_312), (1, hka06_640), (60, hka06_50), (17, hka06_305), (1, hka06_641), (1, hka06_642), (1, hka06_643), (1, hka06_644), (5, hka06_310), (1, hka06_645), (8, hka06_312), (1, hka06_646), (60, hka06_50), (17, hka06_305), (1, hka06_647), (1, hka06_648), (1, hka06_649), (1, hka06_650), (5, hka06_310), (1, hka06_651), (8, hka06_312)])
def hka06_833 : Bool × Option ai_C := (false, some hka06_832)
def hka06_834 : ai_W := [hka06_13, hka06_13, hka06_13, hka06_13, hka06_13, hka06_13, hka06_13, hka06_13, hka06_13, hka06_13, hka06_13, hka06_13, hka06_13, hka06_13, hka06_13, hka06_13, hka06_13, hka06_13, hka06_13, hka06_13, hka06_13, hka06_13, hka06_13, hka06_13, hka06_13, hka06_13, hka06_13, hka06_13, hka06_13, hka06_13, hka06_13, hka06_13, hka06_13, hka06_13, hka06_13, hka06_13, hka06_13, hka06_13, hka06_13, hka06_13, hka06_13, hka06_13, hka06_13, hka06_13, hka06_13, hka06_13, hka06_13, hka06_13, hka06_13, hka06_13, hka06_13, hka06_13, hka06_13, hka06_13, hka06_13, hka06_13, hka06_13, hka06_13, hka06_13, hka06_831, hka06_833, hka06_13, hka06_13, hka06_13, hka06_13, hka06_13, hka06_13, hka06_432, hka06_13, hka06_13, hka06_13, hka06_13, hka06_13, hka06_13, hka06_13, hka06_13]
def hka06_835 : ai_E := [hka06_0, hka06_1, hka06_103, hka06_178, hka06_5, hka06_2, hka06_178, hka06_179, hka06_180, hka06_180, hka06_180, hka06_181, hka06_2, hka06_104, hka06_180, hka06_268, hka06_2, hka06_5, hka06_709, hka06_269, hka06_160, hka06_270, hka06_4, hka06_5, hka06_3, hka06_269, hka06_160, hka06_270, hka06_4, hka06_5, hka06_3, hka06_269, hka06_160, hka06_270, hka06_4, hka06_5, hka06_349]
def hka06_836 : ai_N := (.ofNat 2, .ofNat 2, [(36, .ofNat 0, .ofNat 0)])
def hka06_837 : ai_V := .inl (false, hka06_836)
def hka06_838 : ai_N := (.ofNat 2, .ofNat 60, [(18, .ofNat 0, .ofNat 0)])
def hka06_839 : ai_V := .inl (false, hka06_838)
def hka06_840 : ai_C := .inr (.inr (8, [hka06_187, hka06_188, hka06_21, hka06_23, hka06_193, hka06_194, hka06_120, hka06_197, hka06_611, hka06_124, hka06_202, hka06_576, hka06_613, hka06_615, hka06_209, hka06_617, hka06_211, hka06_213, hka06_619, hka06_621, hka06_623, hka06_625, hka06_224, hka06_839, hka06_227, hka06_228, hka06_629, hka06_231, hka06_232, hka06_233, hka06_234, hka06_235, hka06_236, hka06_631]))
def hka06_841 : Bool × Option ai_C := (true, some hka06_840)
def hka06_842 : ai_C := .inl (.int, [(1, hka06_838), (60, hka06_50), (17, hka06_305), (1, hka06_635), (1, hka06_636), (1, hka06_637), (1, hka06_638), (5, hka06_310), (1, hka06_639), (8, hka06_312), (1, hka06_640), (60, hka06_50), (17, hka06_305), (1, hka06_641), (1, hka06_642), (1, hka06_643), (1, hka06_644), (5, hka06_310), (1, hka06_645), (8, hka06_312), (1, hka06_646), (60, hka06_50), (17, hka06_305), (1, hka06_647), (1, hka06_648), (1, hka06_649), (1, hka06_650), (5, hka06_310), (1, hka06_651), (8, hka06_312)])
def hka06_843 : Bool × Option ai_C := (false, some hka06_842)
def hka06_844 : ai_W := [hka06_13, hka06_13, hka06_13, hka06_13, hka06_13, hka06_13, hka06_13, hka06_13, hka06_13, hka06_13, hka06_13, hka06_13, hka06_13, hka06_13, hka06_13, hka06_13, hka06_13, hka06_13, hka06_13, hka06_13, hka06_13, hka06_13, hka06_13, hka06_13, hka06_13, hka06_13, hka06_13, hka06_13, hka06_13, hka06_13, hka06_13, hka06_13, hka06_13, hka06_13, hka06_13, hka06_13, hka06_13, hka06_13, hka06_13, hka06_13, hka06_13, hka06_13, hka06_13, hka06_13, hka06_13, hka06_13, hka06_13, hka06_13, hka06_13, hka06_13, hka06_13, hka06_13, hka06_13, hka06_13, hka06_13, hka06_13, hka06_13, hka06_13, hka06_13, hka06_841, hka06_843, hka06_13, hka06_13, hka06_13, hka06_13, hka06_13, hka06_13, hka06_432, hka06_13, hka06_13, hka06_13, hka06_13, hka06_13, hka06_13, hka06_13, hka06_13]
def hka06_845 : ai_E := [hka06_0, hka06_1, hka06_103, hka06_178, hka06_5, hka06_2, hka06_178, hka06_179, hka06_180, hka06_180, hka06_180, hka06_181, hka06_2, hka06_104, hka06_180, hka06_268, hka06_2, hka06_5, hka06_723, hka06_269, hka06_160, hka06_270, hka06_4, hka06_5, hka06_3, hka06_269, hka06_160, hka06_270, hka06_4, hka06_5, hka06_3, hka06_269, hka06_160, hka06_270, hka06_4, hka06_5, hka06_345]
def hka06_846 : ai_N := (.ofNat 3, .ofNat 3, [(36, .ofNat 0, .ofNat 0)])
def hka06_847 : ai_V := .inl (false, hka06_846)
def hka06_848 : ai_N := (.ofNat 3, .ofNat 60, [(18, .ofNat 0, .ofNat 0)])
def hka06_849 : ai_V := .inl (false, hka06_848)
def hka06_850 : ai_C := .inr (.inr (8, [hka06_187, hka06_188, hka06_21, hka06_23, hka06_193, hka06_194, hka06_120, hka06_197, hka06_611, hka06_124, hka06_202, hka06_576, hka06_613, hka06_615, hka06_209, hka06_617, hka06_211, hka06_213, hka06_619, hka06_621, hka06_623, hka06_625, hka06_224, hka06_849, hka06_227, hka06_228, hka06_629, hka06_231, hka06_232, hka06_233, hka06_234, hka06_235, hka06_236, hka06_631]))
def hka06_851 : Bool × Option ai_C := (true, some hka06_850)
def hka06_852 : ai_C := .inl (.int, [(1, hka06_848), (60, hka06_50), (17, hka06_305), (1, hka06_635), (1, hka06_636), (1, hka06_637), (1, hka06_638), (5, hka06_310), (1, hka06_639), (8, hka06_312), (1, hka06_640), (60, hka06_50), (17, hka06_305), (1, hka06_641), (1, hka06_642), (1, hka06_643), (1, hka06_644), (5, hka06_310), (1, hka06_645), (8, hka06_312), (1, hka06_646), (60, hka06_50), (17, hka06_305), (1, hka06_647), (1, hka06_648), (1, hka06_649), (1, hka06_650), (5, hka06_310), (1, hka06_651), (8, hka06_312)])
def hka06_853 : Bool × Option ai_C := (false, some hka06_852)
def hka06_854 : ai_W := [hka06_13, hka06_13, hka06_13, hka06_13, hka06_13, hka06_13, hka06_13, hka06_13, hka06_13, hka06_13, hka06_13, hka06_13, hka06_13, hka06_13, hka06_13, hka06_13, hka06_13, hka06_13, hka06_13, hka06_13, hka06_13, hka06_13, hka06_13, hka06_13, hka06_13, hka06_13, hka06_13, hka06_13, hka06_13, hka06_13, hka06_13, hka06_13, hka06_13, hka06_13, hka06_13, hka06_13, hka06_13, hka06_13, hka06_13, hka06_13, hka06_13, hka06_13, hka06_13, hka06_13, hka06_13, hka06_13, hka06_13, hka06_13, hka06_13, hka06_13, hka06_13, hka06_13, hka06_13, hka06_13, hka06_13, hka06_13, hka06_13, hka06_13, hka06_13, hka06_851, hka06_853, hka06_13, hka06_13, hka06_13, hka06_13, hka06_13, hka06_13, hka06_432, hka06_13, hka06_13, hka06_13, hka06_13, hka06_13, hka06_13, hka06_13, hka06_13]
def hka06_855 : ai_E := [hka06_0, hka06_1, hka06_103, hka06_178, hka06_5, hka06_2, hka06_178, hka06_179, hka06_180, hka06_180, hka06_180, hka06_181, hka06_2, hka06_104, hka06_180, hka06_268, hka06_2, hka06_5, hka06_737, hka06_269, hka06_160, hka06_270, hka06_4, hka06_5, hka06_3, hka06_269, hka06_160, hka06_270, hka06_4, hka06_5, hka06_3, hka06_269, hka06_160, hka06_270, hka06_4, hka06_5, hka06_335]
def hka06_856 : ai_N := (.ofNat 4, .ofNat 4, [(36, .ofNat 0, .ofNat 0)])
def hka06_857 : ai_V := .inl (false, hka06_856)
def hka06_858 : ai_N := (.ofNat 4, .ofNat 60, [(18, .ofNat 0, .ofNat 0)])
def hka06_859 : ai_V := .inl (false, hka06_858)
def hka06_860 : ai_C := .inr (.inr (8, [hka06_187, hka06_188, hka06_21, hka06_23, hka06_193, hka06_194, hka06_120, hka06_197, hka06_611, hka06_124, hka06_202, hka06_576, hka06_613, hka06_615, hka06_209, hka06_617, hka06_211, hka06_213, hka06_619, hka06_621, hka06_623, hka06_625, hka06_224, hka06_859, hka06_227, hka06_228, hka06_629, hka06_231, hka06_232, hka06_233, hka06_234, hka06_235, hka06_236, hka06_631]))
def hka06_861 : Bool × Option ai_C := (true, some hka06_860)
def hka06_862 : ai_C := .inl (.int, [(1, hka06_858), (60, hka06_50), (17, hka06_305), (1, hka06_635), (1, hka06_636), (1, hka06_637), (1, hka06_638), (5, hka06_310), (1, hka06_639), (8, hka06_312), (1, hka06_640), (60, hka06_50), (17, hka06_305), (1, hka06_641), (1, hka06_642), (1, hka06_643), (1, hka06_644), (5, hka06_310), (1, hka06_645), (8, hka06_312), (1, hka06_646), (60, hka06_50), (17, hka06_305), (1, hka06_647), (1, hka06_648), (1, hka06_649), (1, hka06_650), (5, hka06_310), (1, hka06_651), (8, hka06_312)])
def hka06_863 : Bool × Option ai_C := (false, some hka06_862)
def hka06_864 : ai_W := [hka06_13, hka06_13, hka06_13, hka06_13, hka06_13, hka06_13, hka06_13, hka06_13, hka06_13, hka06_13, hka06_13, hka06_13, hka06_13, hka06_13, hka06_13, hka06_13, hka06_13, hka06_13, hka06_13, hka06_13, hka06_13, hka06_13, hka06_13, hka06_13, hka06_13, hka06_13, hka06_13, hka06_13, hka06_13, hka06_13, hka06_13, hka06_13, hka06_13, hka06_13, hka06_13, hka06_13, hka06_13, hka06_13, hka06_13, hka06_13, hka06_13, hka06_13, hka06_13, hka06_13, hka06_13, hka06_13, hka06_13, hka06_13, hka06_13, hka06_13, hka06_13, hka06_13, hka06_13, hka06_13, hka06_13, hka06_13, hka06_13, hka06_13, hka06_13, hka06_861, hka06_863, hka06_13, hka06_13, hka06_13, hka06_13, hka06_13, hka06_13, hka06_432, hka06_13, hka06_13, hka06_13, hka06_13, hka06_13, hka06_13, hka06_13, hka06_13]
def hka06_865 : ai_E := [hka06_0, hka06_1, hka06_103, hka06_178, hka06_5, hka06_2, hka06_178, hka06_179, hka06_180, hka06_180, hka06_180, hka06_181, hka06_2, hka06_104, hka06_180, hka06_268, hka06_2, hka06_5, hka06_751, hka06_269, hka06_160, hka06_270, hka06_4, hka06_5, hka06_3, hka06_269, hka06_160, hka06_270, hka06_4, hka06_5, hka06_3, hka06_269, hka06_160, hka06_270, hka06_4, hka06_5, hka06_752]
def hka06_866 : ai_N := (.ofNat 5, .ofNat 5, [(36, .ofNat 0, .ofNat 0)])
def hka06_867 : ai_V := .inl (false, hka06_866)
def hka06_868 : ai_N := (.ofNat 5, .ofNat 60, [(18, .ofNat 0, .ofNat 0)])
def hka06_869 : ai_V := .inl (false, hka06_868)
def hka06_870 : ai_C := .inr (.inr (8, [hka06_187, hka06_188, hka06_21, hka06_23, hka06_193, hka06_194, hka06_120, hka06_197, hka06_611, hka06_124, hka06_202, hka06_576, hka06_613, hka06_615, hka06_209, hka06_617, hka06_211, hka06_213, hka06_619, hka06_621, hka06_623, hka06_625, hka06_224, hka06_869, hka06_227, hka06_228, hka06_629, hka06_231, hka06_232, hka06_233, hka06_234, hka06_235, hka06_236, hka06_631]))
def hka06_871 : Bool × Option ai_C := (true, some hka06_870)
def hka06_872 : ai_C := .inl (.int, [(1, hka06_868), (60, hka06_50), (17, hka06_305), (1, hka06_635), (1, hka06_636), (1, hka06_637), (1, hka06_638), (5, hka06_310), (1, hka06_639), (8, hka06_312), (1, hka06_640), (60, hka06_50), (17, hka06_305), (1, hka06_641), (1, hka06_642), (1, hka06_643), (1, hka06_644), (5, hka06_310), (1, hka06_645), (8, hka06_312), (1, hka06_646), (60, hka06_50), (17, hka06_305), (1, hka06_647), (1, hka06_648), (1, hka06_649), (1, hka06_650), (5, hka06_310), (1, hka06_651), (8, hka06_312)])
def hka06_873 : Bool × Option ai_C := (false, some hka06_872)
def hka06_874 : ai_W := [hka06_13, hka06_13, hka06_13, hka06_13, hka06_13, hka06_13, hka06_13, hka06_13, hka06_13, hka06_13, hka06_13, hka06_13, hka06_13, hka06_13, hka06_13, hka06_13, hka06_13, hka06_13, hka06_13, hka06_13, hka06_13, hka06_13, hka06_13, hka06_13, hka06_13, hka06_13, hka06_13, hka06_13, hka06_13, hka06_13, hka06_13, hka06_13, hka06_13, hka06_13, hka06_13, hka06_13, hka06_13, hka06_13, hka06_13, hka06_13, hka06_13, hka06_13, hka06_13, hka06_13, hka06_13, hka06_13, hka06_13, hka06_13, hka06_13, hka06_13, hka06_13, hka06_13, hka06_13, hka06_13, hka06_13, hka06_13, hka06_13, hka06_13, hka06_13, hka06_871, hka06_873, hka06_13, hka06_13, hka06_13, hka06_13, hka06_13, hka06_13, hka06_432, hka06_13, hka06_13, hka06_13, hka06_13, hka06_13, hka06_13, hka06_13, hka06_13]
def hka06_875 : ai_E := [hka06_0, hka06_1, hka06_103, hka06_178, hka06_5, hka06_2, hka06_178, hka06_179, hka06_180, hka06_180, hka06_180, hka06_181, hka06_2, hka06_104, hka06_180, hka06_268, hka06_2, hka06_5, hka06_766, hka06_269, hka06_160, hka06_270, hka06_4, hka06_5, hka06_3, hka06_269, hka06_160, hka06_270, hka06_4, hka06_5, hka06_3, hka06_269, hka06_160, hka06_270, hka06_4, hka06_5, hka06_767]
def hka06_876 : ai_N := (.ofNat 6, .ofNat 6, [(36, .ofNat 0, .ofNat 0)])
def hka06_877 : ai_V := .inl (false, hka06_876)
def hka06_878 : ai_N := (.ofNat 6, .ofNat 60, [(18, .ofNat 0, .ofNat 0)])
def hka06_879 : ai_V := .inl (false, hka06_878)
def hka06_880 : ai_C := .inr (.inr (8, [hka06_187, hka06_188, hka06_21, hka06_23, hka06_193, hka06_194, hka06_120, hka06_197, hka06_611, hka06_124, hka06_202, hka06_576, hka06_613, hka06_615, hka06_209, hka06_617, hka06_211, hka06_213, hka06_619, hka06_621, hka06_623, hka06_625, hka06_224, hka06_879, hka06_227, hka06_228, hka06_629, hka06_231, hka06_232, hka06_233, hka06_234, hka06_235, hka06_236, hka06_631]))
def hka06_881 : Bool × Option ai_C := (true, some hka06_880)
def hka06_882 : ai_C := .inl (.int, [(1, hka06_878), (60, hka06_50), (17, hka06_305), (1, hka06_635), (1, hka06_636), (1, hka06_637), (1, hka06_638), (5, hka06_310), (1, hka06_639), (8, hka06_312), (1, hka06_640), (60, hka06_50), (17, hka06_305), (1, hka06_641), (1, hka06_642), (1, hka06_643), (1, hka06_644), (5, hka06_310), (1, hka06_645), (8, hka06_312), (1, hka06_646), (60, hka06_50), (17, hka06_305), (1, hka06_647), (1, hka06_648), (1, hka06_649), (1, hka06_650), (5, hka06_310), (1, hka06_651), (8, hka06_312)])
def hka06_883 : Bool × Option ai_C := (false, some hka06_882)
def hka06_884 : ai_W := [hka06_13, hka06_13, hka06_13, hka06_13, hka06_13, hka06_13, hka06_13, hka06_13, hka06_13, hka06_13, hka06_13, hka06_13, hka06_13, hka06_13, hka06_13, hka06_13, hka06_13, hka06_13, hka06_13, hka06_13, hka06_13, hka06_13, hka06_13, hka06_13, hka06_13, hka06_13, hka06_13, hka06_13, hka06_13, hka06_13, hka06_13, hka06_13, hka06_13, hka06_13, hka06_13, hka06_13, hka06_13, hka06_13, hka06_13, hka06_13, hka06_13, hka06_13, hka06_13, hka06_13, hka06_13, hka06_13, hka06_13, hka06_13, hka06_13, hka06_13, hka06_13, hka06_13, hka06_13, hka06_13, hka06_13, hka06_13, hka06_13, hka06_13, hka06_13, hka06_881, hka06_883, hka06_13, hka06_13, hka06_13, hka06_13, hka06_13, hka06_13, hka06_432, hka06_13, hka06_13, hka06_13, hka06_13, hka06_13, hka06_13, hka06_13, hka06_13]
def hka06_885 : ai_E := [hka06_0, hka06_1, hka06_103, hka06_178, hka06_5, hka06_2, hka06_178, hka06_179, hka06_180, hka06_180, hka06_180, hka06_181, hka06_2, hka06_104, hka06_180, hka06_268, hka06_2, hka06_5, hka06_781, hka06_269, hka06_160, hka06_270, hka06_4, hka06_5, hka06_3, hka06_269, hka06_160, hka06_270, hka06_4, hka06_5, hka06_3, hka06_269, hka06_160, hka06_270, hka06_4, hka06_5, hka06_782]
def hka06_886 : ai_N := (.ofNat 7, .ofNat 7, [(36, .ofNat 0, .ofNat 0)])
def hka06_887 : ai_V := .inl (false, hka06_886)
def hka06_888 : ai_N := (.ofNat 7, .ofNat 60, [(18, .ofNat 0, .ofNat 0)])
def hka06_889 : ai_V := .inl (false, hka06_888)
def hka06_890 : ai_C := .inr (.inr (8, [hka06_187, hka06_188, hka06_21, hka06_23, hka06_193, hka06_194, hka06_120, hka06_197, hka06_611, hka06_124, hka06_202, hka06_576, hka06_613, hka06_615, hka06_209, hka06_617, hka06_211, hka06_213, hka06_619, hka06_621, hka06_623, hka06_625, hka06_224, hka06_889, hka06_227, hka06_228, hka06_629, hka06_231, hka06_232, hka06_233, hka06_234, hka06_235, hka06_236, hka06_631]))
def hka06_891 : Bool × Option ai_C := (true, some hka06_890)
def hka06_892 : ai_C := .inl (.int, [(1, hka06_888), (60, hka06_50), (17, hka06_305), (1, hka06_635), (1, hka06_636), (1, hka06_637), (1, hka06_638), (5, hka06_310), (1, hka06_639), (8, hka06_312), (1, hka06_640), (60, hka06_50), (17, hka06_305), (1, hka06_641), (1, hka06_642), (1, hka06_643), (1, hka06_644), (5, hka06_310), (1, hka06_645), (8, hka06_312), (1, hka06_646), (60, hka06_50), (17, hka06_305), (1, hka06_647), (1, hka06_648), (1, hka06_649), (1, hka06_650), (5, hka06_310), (1, hka06_651), (8, hka06_312)])
def hka06_893 : Bool × Option ai_C := (false, some hka06_892)
def hka06_894 : ai_W := [hka06_13, hka06_13, hka06_13, hka06_13, hka06_13, hka06_13, hka06_13, hka06_13, hka06_13, hka06_13, hka06_13, hka06_13, hka06_13, hka06_13, hka06_13, hka06_13, hka06_13, hka06_13, hka06_13, hka06_13, hka06_13, hka06_13, hka06_13, hka06_13, hka06_13, hka06_13, hka06_13, hka06_13, hka06_13, hka06_13, hka06_13, hka06_13, hka06_13, hka06_13, hka06_13, hka06_13, hka06_13, hka06_13, hka06_13, hka06_13, hka06_13, hka06_13, hka06_13, hka06_13, hka06_13, hka06_13, hka06_13, hka06_13, hka06_13, hka06_13, hka06_13, hka06_13, hka06_13, hka06_13, hka06_13, hka06_13, hka06_13, hka06_13, hka06_13, hka06_891, hka06_893, hka06_13, hka06_13, hka06_13, hka06_13, hka06_13, hka06_13, hka06_432, hka06_13, hka06_13, hka06_13, hka06_13, hka06_13, hka06_13, hka06_13, hka06_13]
def hka06_895 : ai_E := [hka06_0, hka06_1, hka06_103, hka06_178, hka06_5, hka06_2, hka06_178, hka06_179, hka06_180, hka06_180, hka06_180, hka06_181, hka06_2, hka06_104, hka06_180, hka06_268, hka06_2, hka06_5, hka06_796, hka06_269, hka06_160, hka06_270, hka06_4, hka06_5, hka06_3, hka06_269, hka06_160, hka06_270, hka06_4, hka06_5, hka06_3, hka06_269, hka06_160, hka06_270, hka06_4, hka06_5, hka06_797]
def hka06_896 : ai_N := (.ofNat 8, .ofNat 8, [(36, .ofNat 0, .ofNat 0)])
def hka06_897 : ai_V := .inl (false, hka06_896)
def hka06_898 : ai_N := (.ofNat 8, .ofNat 60, [(18, .ofNat 0, .ofNat 0)])
def hka06_899 : ai_V := .inl (false, hka06_898)
def hka06_900 : ai_C := .inr (.inr (8, [hka06_187, hka06_188, hka06_21, hka06_23, hka06_193, hka06_194, hka06_120, hka06_197, hka06_611, hka06_124, hka06_202, hka06_576, hka06_613, hka06_615, hka06_209, hka06_617, hka06_211, hka06_213, hka06_619, hka06_621, hka06_623, hka06_625, hka06_224, hka06_899, hka06_227, hka06_228, hka06_629, hka06_231, hka06_232, hka06_233, hka06_234, hka06_235, hka06_236, hka06_631]))
def hka06_901 : Bool × Option ai_C := (true, some hka06_900)
def hka06_902 : ai_C := .inl (.int, [(1, hka06_898), (60, hka06_50), (17, hka06_305), (1, hka06_635), (1, hka06_636), (1, hka06_637), (1, hka06_638), (5, hka06_310), (1, hka06_639), (8, hka06_312), (1, hka06_640), (60, hka06_50), (17, hka06_305), (1, hka06_641), (1, hka06_642), (1, hka06_643), (1, hka06_644), (5, hka06_310), (1, hka06_645), (8, hka06_312), (1, hka06_646), (60, hka06_50), (17, hka06_305), (1, hka06_647), (1, hka06_648), (1, hka06_649), (1, hka06_650), (5, hka06_310), (1, hka06_651), (8, hka06_312)])
def hka06_903 : Bool × Option ai_C := (false, some hka06_902)
def hka06_904 : ai_W := [hka06_13, hka06_13, hka06_13, hka06_13, hka06_13, hka06_13, hka06_13, hka06_13, hka06_13, hka06_13, hka06_13, hka06_13, hka06_13, hka06_13, hka06_13, hka06_13, hka06_13, hka06_13, hka06_13, hka06_13, hka06_13, hka06_13, hka06_13, hka06_13, hka06_13, hka06_13, hka06_13, hka06_13, hka06_13, hka06_13, hka06_13, hka06_13, hka06_13, hka06_13, hka06_13, hka06_13, hka06_13, hka06_13, hka06_13, hka06_13, hka06_13, hka06_13, hka06_13, hka06_13, hka06_13, hka06_13, hka06_13, hka06_13, hka06_13, hka06_13, hka06_13, hka06_13, hka06_13, hka06_13, hka06_13, hka06_13, hka06_13, hka06_13, hka06_13, hka06_901, hka06_903, hka06_13, hka06_13, hka06_13, hka06_13, hka06_13, hka06_13, hka06_432, hka06_13, hka06_13, hka06_13, hka06_13, hka06_13, hka06_13, hka06_13, hka06_13]
def hka06_905 : ai_E := [hka06_0, hka06_1, hka06_103, hka06_178, hka06_5, hka06_2, hka06_178, hka06_179, hka06_180, hka06_180, hka06_180, hka06_181, hka06_2, hka06_104, hka06_180, hka06_268, hka06_2, hka06_5, hka06_811, hka06_269, hka06_160, hka06_270, hka06_4, hka06_5, hka06_3, hka06_269, hka06_160, hka06_270, hka06_4, hka06_5, hka06_3, hka06_269, hka06_160, hka06_270, hka06_4, hka06_5, hka06_810]
def hka06_906 : ai_N := (.ofNat 9, .ofNat 9, [(36, .ofNat 0, .ofNat 0)])
def hka06_907 : ai_V := .inl (false, hka06_906)
def hka06_908 : ai_N := (.ofNat 9, .ofNat 60, [(18, .ofNat 0, .ofNat 0)])
def hka06_909 : ai_V := .inl (false, hka06_908)
def hka06_910 : ai_C := .inr (.inr (8, [hka06_187, hka06_188, hka06_21, hka06_23, hka06_193, hka06_194, hka06_120, hka06_197, hka06_611, hka06_124, hka06_202, hka06_576, hka06_613, hka06_615, hka06_209, hka06_617, hka06_211, hka06_213, hka06_619, hka06_621, hka06_623, hka06_625, hka06_224, hka06_909, hka06_227, hka06_228, hka06_629, hka06_231, hka06_232, hka06_233, hka06_234, hka06_235, hka06_236, hka06_631]))
def hka06_911 : Bool × Option ai_C := (true, some hka06_910)
def hka06_912 : ai_C := .inl (.int, [(1, hka06_908), (60, hka06_50), (17, hka06_305), (1, hka06_635), (1, hka06_636), (1, hka06_637), (1, hka06_638), (5, hka06_310), (1, hka06_639), (8, hka06_312), (1, hka06_640), (60, hka06_50), (17, hka06_305), (1, hka06_641), (1, hka06_642), (1, hka06_643), (1, hka06_644), (5, hka06_310), (1, hka06_645), (8, hka06_312), (1, hka06_646), (60, hka06_50), (17, hka06_305), (1, hka06_647), (1, hka06_648), (1, hka06_649), (1, hka06_650), (5, hka06_310), (1, hka06_651), (8, hka06_312)])
def hka06_913 : Bool × Option ai_C := (false, some hka06_912)
def hka06_914 : ai_W := [hka06_13, hka06_13, hka06_13, hka06_13, hka06_13, hka06_13, hka06_13, hka06_13, hka06_13, hka06_13, hka06_13, hka06_13, hka06_13, hka06_13, hka06_13, hka06_13, hka06_13, hka06_13, hka06_13, hka06_13, hka06_13, hka06_13, hka06_13, hka06_13, hka06_13, hka06_13, hka06_13, hka06_13, hka06_13, hka06_13, hka06_13, hka06_13, hka06_13, hka06_13, hka06_13, hka06_13, hka06_13, hka06_13, hka06_13, hka06_13, hka06_13, hka06_13, hka06_13, hka06_13, hka06_13, hka06_13, hka06_13, hka06_13, hka06_13, hka06_13, hka06_13, hka06_13, hka06_13, hka06_13, hka06_13, hka06_13, hka06_13, hka06_13, hka06_13, hka06_911, hka06_913, hka06_13, hka06_13, hka06_13, hka06_13, hka06_13, hka06_13, hka06_432, hka06_13, hka06_13, hka06_13, hka06_13, hka06_13, hka06_13, hka06_13, hka06_13]
def hka06_915 : Int × Int := (.ofNat 10, .ofNat 60)
def hka06_916 : ai_E := [hka06_0, hka06_1, hka06_103, hka06_178, hka06_5, hka06_2, hka06_178, hka06_179, hka06_180, hka06_180, hka06_180, hka06_181, hka06_2, hka06_104, hka06_180, hka06_268, hka06_2, hka06_5, hka06_915, hka06_269, hka06_160, hka06_270, hka06_4, hka06_5, hka06_3, hka06_269, hka06_160, hka06_270, hka06_4, hka06_5, hka06_3, hka06_269, hka06_160, hka06_270, hka06_4, hka06_5, hka06_606]
def hka06_917 : ai_N := (.ofNat 10, .ofNat 10, [(36, .ofNat 0, .ofNat 0)])
def hka06_918 : ai_V := .inl (false, hka06_917)
def hka06_919 : ai_N := (.ofNat 10, .ofNat 60, [(18, .ofNat 0, .ofNat 0)])
def hka06_920 : ai_V := .inl (false, hka06_919)
def hka06_921 : ai_C := .inr (.inr (8, [hka06_187, hka06_188, hka06_21, hka06_23, hka06_193, hka06_194, hka06_120, hka06_197, hka06_611, hka06_124, hka06_202, hka06_576, hka06_613, hka06_615, hka06_209, hka06_617, hka06_211, hka06_213, hka06_619, hka06_621, hka06_623, hka06_625, hka06_224, hka06_920, hka06_227, hka06_228, hka06_629, hka06_231, hka06_232, hka06_233, hka06_234, hka06_235, hka06_236, hka06_631]))
def hka06_922 : Bool × Option ai_C := (true, some hka06_921)
def hka06_923 : ai_C := .inl (.int, [(1, hka06_919), (60, hka06_50), (17, hka06_305), (1, hka06_635), (1, hka06_636), (1, hka06_637), (1, hka06_638), (5, hka06_310), (1, hka06_639), (8, hka06_312), (1, hka06_640), (60, hka06_50), (17, hka06_305), (1, hka06_641), (1, hka06_642), (1, hka06_643), (1, hka06_644), (5, hka06_310), (1, hka06_645), (8, hka06_312), (1, hka06_646), (60, hka06_50), (17, hka06_305), (1, hka06_647), (1, hka06_648), (1, hka06_649), (1, hka06_650), (5, hka06_310), (1, hka06_651), (8, hka06_312)])
def hka06_924 : Bool × Option ai_C := (false, some hka06_923)
def hka06_925 : ai_W := [hka06_13, hka06_13, hka06_13, hka06_13, hka06_13, hka06_13, hka06_13, hka06_13, hka06_13, hka06_13, hka06_13, hka06_13, hka06_13, hka06_13, hka06_13, hka06_13, hka06_13, hka06_13, hka06_13, hka06_13, hka06_13, hka06_13, hka06_13, hka06_13, hka06_13, hka06_13, hka06_13, hka06_13, hka06_13, hka06_13, hka06_13, hka06_13, hka06_13, hka06_13, hka06_13, hka06_13, hka06_13, hka06_13, hka06_13, hka06_13, hka06_13, hka06_13, hka06_13, hka06_13, hka06_13, hka06_13, hka06_13, hka06_13, hka06_13, hka06_13, hka06_13, hka06_13, hka06_13, hka06_13, hka06_13, hka06_13, hka06_13, hka06_13, hka06_13, hka06_922, hka06_924, hka06_13, hka06_13, hka06_13, hka06_13, hka06_13, hka06_13, hka06_432, hka06_13, hka06_13, hka06_13, hka06_13, hka06_13, hka06_13, hka06_13, hka06_13]
def kan_520 : List ai_Nd := [(6, (hka06_657, [hka06_184, hka06_824, hka06_659], [], hka06_661), [.inl 2], [.inl 99993, .inl 11, .inr (true, .ofNat 10, 36), .inl 100000]), (6, (hka06_825, [hka06_184, hka06_824, hka06_827], [], hka06_834), [.inl 2], [.inl 99993, .inl 10, .inr (true, .ofNat 10, 36), .inl 100000]), (6, (hka06_835, [hka06_184, hka06_824, hka06_837], [], hka06_844), [.inl 2], [.inl 99993, .inl 9, .inr (true, .ofNat 10, 36), .inl 100000]), (6, (hka06_845, [hka06_184, hka06_824, hka06_847], [], hka06_854), [.inl 2], [.inl 99993, .inl 8, .inr (true, .ofNat 10, 36), .inl 100000]), (6, (hka06_855, [hka06_184, hka06_824, hka06_857], [], hka06_864), [.inl 2], [.inl 99993, .inl 7, .inr (true, .ofNat 10, 36), .inl 100000]), (6, (hka06_865, [hka06_184, hka06_824, hka06_867], [], hka06_874), [.inl 2], [.inl 99993, .inl 6, .inr (true, .ofNat 10, 36), .inl 100000]), (6, (hka06_875, [hka06_184, hka06_824, hka06_877], [], hka06_884), [.inl 2], [.inl 99993, .inl 5, .inr (true, .ofNat 10, 36), .inl 100000]), (6, (hka06_885, [hka06_184, hka06_824, hka06_887], [], hka06_894), [.inl 2], [.inl 99993, .inl 4, .inr (true, .ofNat 10, 36), .inl 100000]), (6, (hka06_895, [hka06_184, hka06_824, hka06_897], [], hka06_904), [.inl 2], [.inl 99993, .inl 3, .inr (true, .ofNat 10, 36), .inl 100000]), (6, (hka06_905, [hka06_184, hka06_824, hka06_907], [], hka06_914), [.inl 2], [.inl 99993, .inl 2, .inr (true, .ofNat 10, 36), .inl 100000]), (6, (hka06_916, [hka06_184, hka06_824, hka06_918], [], hka06_925), [.inl 2], [.inl 99993, .inl 1, .inr (true, .ofNat 10, 36), .inl 100000])]
set_option maxRecDepth 1000000 in
theorem kak_520 : ai_ck [ka_380] [] ka_520 [.inl 100000, .inl 0, .inl 0, .inl 0] kan_520 21 = true := by decide +kernel
theorem kah_520 : ai_holds ka_520 := ai_thm kak_520 (ai_cons kah_380 ai_nil)

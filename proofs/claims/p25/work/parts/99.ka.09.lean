/-! CONTRACTS found by wip/ai/an.py, each held by the kernel. -/
def hka09_0 : Int × Int := (.ofNat 4, .ofNat 16)
def hka09_1 : Int × Int := (.ofNat 1, .ofNat 4)
def hka09_2 : Int × Int := (.negSucc 2147483647, .ofNat 2147483647)
def hka09_3 : Int × Int := (.ofNat 0, .ofNat 60)
def hka09_4 : Int × Int := (.ofNat 0, .ofNat 5)
def hka09_5 : Int × Int := (.ofNat 0, .ofNat 4)
def hka09_6 : ai_E := [hka09_0, hka09_1, hka09_2, hka09_2, hka09_2, hka09_3, hka09_4, hka09_5]
def hka09_7 : ai_V := .inr (some (.ref 1))
def hka09_8 : ai_V := .inr none
def hka09_9 : Bool × Option ai_C := (false, none)
def hka09_10 : ai_V := .inr (some (.ref 2))
def hka09_11 : ai_V := .inr (some (.ref 3))
def hka09_12 : ai_V := .inr (some (.ref 4))
def hka09_13 : ai_V := .inr (some (.ref 5))
def hka09_14 : ai_V := .inr (some (.ref 6))
def hka09_15 : ai_V := .inr (some (.ref 7))
def hka09_16 : ai_N := (.ofNat 4, .ofNat 16, [(0, .ofNat 0, .ofNat 0)])
def hka09_17 : ai_V := .inl (false, hka09_16)
def hka09_18 : ai_N := (.ofNat 1, .ofNat 4, [(1, .ofNat 0, .ofNat 0)])
def hka09_19 : ai_V := .inl (false, hka09_18)
def hka09_20 : ai_N := (.negSucc 2147483647, .ofNat 2147483647, [(2, .ofNat 0, .ofNat 0)])
def hka09_21 : ai_V := .inl (false, hka09_20)
def hka09_22 : ai_N := (.negSucc 2147483647, .ofNat 2147483647, [(3, .ofNat 0, .ofNat 0)])
def hka09_23 : ai_V := .inl (false, hka09_22)
def hka09_24 : ai_N := (.negSucc 2147483647, .ofNat 2147483647, [(4, .ofNat 0, .ofNat 0)])
def hka09_25 : ai_V := .inl (false, hka09_24)
def hka09_26 : ai_N := (.ofNat 0, .ofNat 60, [(5, .ofNat 0, .ofNat 0)])
def hka09_27 : ai_V := .inl (false, hka09_26)
def hka09_28 : ai_N := (.ofNat 0, .ofNat 5, [(6, .ofNat 0, .ofNat 0)])
def hka09_29 : ai_V := .inl (false, hka09_28)
def hka09_30 : ai_N := (.ofNat 0, .ofNat 4, [(7, .ofNat 0, .ofNat 0)])
def hka09_31 : ai_V := .inl (false, hka09_30)
def hka09_32 : ai_C := .inr (.inr (6, [hka09_10, hka09_11, hka09_12, hka09_13, hka09_14, hka09_15, hka09_17, hka09_19, hka09_21, hka09_23, hka09_25, hka09_27, hka09_29, hka09_31]))
def hka09_33 : Bool × Option ai_C := (false, some hka09_32)
def hka09_34 : ai_N := (.negSucc 2147483647, .ofNat 2147483647, [])
def hka09_35 : ai_C := .inl (.int, [(60, hka09_34)])
def hka09_36 : Bool × Option ai_C := (false, some hka09_35)
def hka09_37 : ai_W := [hka09_9, hka09_33, hka09_9, hka09_9, hka09_36, hka09_9, hka09_9, hka09_9, hka09_9, hka09_9, hka09_9, hka09_9, hka09_9, hka09_9, hka09_9, hka09_9, hka09_9, hka09_9, hka09_9, hka09_9, hka09_9, hka09_9, hka09_9, hka09_9, hka09_9, hka09_9, hka09_9, hka09_9, hka09_9, hka09_9, hka09_9, hka09_9, hka09_9, hka09_9, hka09_9, hka09_9, hka09_9, hka09_9, hka09_9, hka09_9, hka09_9, hka09_9, hka09_9, hka09_9, hka09_9, hka09_9, hka09_9, hka09_9, hka09_9, hka09_9, hka09_9, hka09_9, hka09_9, hka09_9, hka09_9, hka09_9, hka09_9, hka09_9, hka09_9, hka09_9, hka09_9, hka09_9, hka09_9, hka09_9, hka09_9, hka09_9, hka09_9, hka09_9, hka09_9, hka09_9, hka09_9, hka09_9, hka09_9, hka09_9, hka09_9, hka09_9]
def hka09_38 : ai_V := .inl (false, hka09_34)
/-- NeverAgain$Told.rungBits -/
def ka_724 : ai_K := (176, 0, (hka09_6, [hka09_7, hka09_8, hka09_8], [], hka09_37), [.inr (1, 6), .inr (1, 7), .inr (1, 8), .inr (1, 9), .inr (1, 10), .inr (1, 11), .inr (1, 12), .inr (1, 13)], [(some hka09_38, hka09_6, [])])
def hka09_39 : ai_E := [hka09_0, hka09_1, hka09_2, hka09_2, hka09_2, hka09_3, hka09_4, hka09_5, hka09_3]
def hka09_40 : ai_N := (.ofNat 0, .ofNat 60, [(8, .ofNat 0, .ofNat 0)])
def hka09_41 : ai_V := .inl (false, hka09_40)
def kan_724 : List ai_Nd := [(4, (hka09_39, [hka09_7, hka09_38, hka09_41], [], hka09_37), [.inl 2], [.inl 99995, .inl 1, .inr (true, .ofNat 60, 8), .inl 100000])]
set_option maxRecDepth 1000000 in
theorem kak_724 : ai_ck [] [] ka_724 [.inl 100000, .inl 0, .inl 0, .inl 0] kan_724 20 = true := by decide +kernel
theorem kah_724 : ai_holds ka_724 := ai_thm kak_724 ai_nil
def hka09_42 : Int × Int := (.ofNat 0, .ofNat 16)
def hka09_43 : ai_E := [hka09_2, hka09_42, hka09_2, hka09_2, hka09_2, hka09_2]
def hka09_44 : ai_V := .inr (some (.ref 32))
def hka09_45 : ai_N := (.negSucc 2147483647, .ofNat 2147483647, [(0, .ofNat 0, .ofNat 0)])
def hka09_46 : ai_V := .inl (false, hka09_45)
def hka09_47 : ai_N := (.ofNat 0, .ofNat 16, [(1, .ofNat 0, .ofNat 0)])
def hka09_48 : ai_V := .inl (false, hka09_47)
def hka09_49 : ai_N := (.negSucc 2147483647, .ofNat 2147483647, [(5, .ofNat 0, .ofNat 0)])
def hka09_50 : ai_V := .inl (false, hka09_49)
def hka09_51 : ai_C := .inr (.inr (3, [hka09_48, hka09_21, hka09_23, hka09_25, hka09_50]))
def hka09_52 : Bool × Option ai_C := (false, some hka09_51)
def hka09_53 : ai_W := [hka09_9, hka09_9, hka09_9, hka09_9, hka09_9, hka09_9, hka09_9, hka09_9, hka09_9, hka09_9, hka09_9, hka09_9, hka09_9, hka09_9, hka09_9, hka09_9, hka09_9, hka09_9, hka09_9, hka09_9, hka09_9, hka09_9, hka09_9, hka09_9, hka09_9, hka09_9, hka09_9, hka09_9, hka09_9, hka09_9, hka09_9, hka09_9, hka09_52, hka09_9, hka09_9, hka09_9, hka09_9, hka09_9, hka09_9, hka09_9, hka09_9, hka09_9, hka09_9, hka09_9, hka09_9, hka09_9, hka09_9, hka09_9, hka09_9, hka09_9, hka09_9, hka09_9, hka09_9, hka09_9, hka09_9, hka09_9, hka09_9, hka09_9, hka09_9, hka09_9, hka09_9, hka09_9, hka09_9, hka09_9, hka09_9, hka09_9, hka09_9, hka09_9, hka09_9, hka09_9, hka09_9, hka09_9, hka09_9, hka09_9, hka09_9, hka09_9]
def hka09_54 : Int × Int := (.ofNat 0, .ofNat 0)
def hka09_55 : ai_E := [hka09_2, hka09_42, hka09_2, hka09_54, hka09_2, hka09_2]
def hka09_56 : ai_N := (.ofNat 1, .ofNat 1, [(3, .ofNat 1, .ofNat 1)])
def hka09_57 : ai_V := .inl (false, hka09_56)
def hka09_58 : ai_C := .inr (.inr (3, [hka09_48, hka09_21, hka09_57, hka09_46, hka09_38]))
def hka09_59 : ai_C := .inr (.inr (3, [hka09_48, hka09_21, hka09_38, hka09_25, hka09_38]))
/-- NeverAgain$SetFinder.take -/
def ka_725 : ai_K := (207, 0, (hka09_43, [hka09_44, hka09_46], [], hka09_53), [.inl 1, .inr (32, 0), .inr (32, 1), .inr (32, 2), .inr (32, 3), .inr (32, 4)], [(none, hka09_55, [(32, hka09_58)]), (none, hka09_43, [(32, hka09_59)])])
def kan_725 : List ai_Nd := []
set_option maxRecDepth 1000000 in
theorem kak_725 : ai_ck [] [] ka_725 [.inl 100000] kan_725 20 = true := by decide +kernel
theorem kah_725 : ai_holds ka_725 := ai_thm kak_725 ai_nil
def hka09_60 : ai_E := [hka09_2, hka09_2, hka09_2, hka09_42, hka09_2, hka09_2, hka09_2, hka09_2]
def hka09_61 : ai_N := (.ofNat 0, .ofNat 0, [])
def hka09_62 : ai_V := .inl (false, hka09_61)
def hka09_63 : ai_N := (.negSucc 2147483647, .ofNat 2147483647, [(1, .ofNat 0, .ofNat 0)])
def hka09_64 : ai_V := .inl (false, hka09_63)
def hka09_65 : ai_N := (.ofNat 0, .ofNat 16, [(3, .ofNat 0, .ofNat 0)])
def hka09_66 : ai_V := .inl (false, hka09_65)
def hka09_67 : ai_N := (.negSucc 2147483647, .ofNat 2147483647, [(6, .ofNat 0, .ofNat 0)])
def hka09_68 : ai_V := .inl (false, hka09_67)
def hka09_69 : ai_N := (.negSucc 2147483647, .ofNat 2147483647, [(7, .ofNat 0, .ofNat 0)])
def hka09_70 : ai_V := .inl (false, hka09_69)
def hka09_71 : ai_C := .inr (.inr (3, [hka09_66, hka09_25, hka09_50, hka09_68, hka09_70]))
def hka09_72 : Bool × Option ai_C := (false, some hka09_71)
def hka09_73 : ai_W := [hka09_9, hka09_9, hka09_9, hka09_9, hka09_9, hka09_9, hka09_9, hka09_9, hka09_9, hka09_9, hka09_9, hka09_9, hka09_9, hka09_9, hka09_9, hka09_9, hka09_9, hka09_9, hka09_9, hka09_9, hka09_9, hka09_9, hka09_9, hka09_9, hka09_9, hka09_9, hka09_9, hka09_9, hka09_9, hka09_9, hka09_9, hka09_9, hka09_72, hka09_9, hka09_9, hka09_9, hka09_9, hka09_9, hka09_9, hka09_9, hka09_9, hka09_9, hka09_9, hka09_9, hka09_9, hka09_9, hka09_9, hka09_9, hka09_9, hka09_9, hka09_9, hka09_9, hka09_9, hka09_9, hka09_9, hka09_9, hka09_9, hka09_9, hka09_9, hka09_9, hka09_9, hka09_9, hka09_9, hka09_9, hka09_9, hka09_9, hka09_9, hka09_9, hka09_9, hka09_9, hka09_9, hka09_9, hka09_9, hka09_9, hka09_9, hka09_9]
def hka09_74 : ai_C := .inr (.inr (3, [hka09_66, hka09_25, hka09_38, hka09_38, hka09_38]))
/-- NeverAgain$SetFinder.pickFrom -/
def ka_726 : ai_K := (177, 1, (hka09_60, [hka09_44, hka09_46, hka09_62, hka09_64, hka09_21, hka09_8, hka09_8], [], hka09_73), [.inl 1, .inl 3, .inl 4, .inr (32, 0), .inr (32, 1), .inr (32, 2), .inr (32, 3), .inr (32, 4)], [(none, hka09_60, [(32, hka09_74)])])
def kan_726 : List ai_Nd := []
set_option maxRecDepth 1000000 in
theorem kak_726 : ai_ck [ka_725] [] ka_726 [.inl 100000] kan_726 9 = true := by decide +kernel
theorem kah_726 : ai_holds ka_726 := ai_thm kak_726 (ai_cons kah_725 ai_nil)
def hka09_75 : ai_N := (.ofNat 1, .ofNat 1, [])
def hka09_76 : ai_V := .inl (false, hka09_75)
/-- NeverAgain$SetFinder.pickFrom -/
def ka_727 : ai_K := (177, 2, (hka09_60, [hka09_44, hka09_46, hka09_76, hka09_64, hka09_21, hka09_8, hka09_8], [], hka09_73), [.inl 1, .inl 3, .inl 4, .inr (32, 0), .inr (32, 1), .inr (32, 2), .inr (32, 3), .inr (32, 4)], [(none, hka09_60, [(32, hka09_74)])])
def hka09_77 : ai_E := [hka09_2, hka09_2, hka09_2, hka09_42, hka09_2, hka09_2, hka09_2, hka09_2, hka09_2]
def hka09_78 : ai_N := (.negSucc 2147483647, .ofNat 2147483647, [(8, .ofNat 0, .ofNat 0)])
def hka09_79 : ai_V := .inl (false, hka09_78)
def hka09_80 : Bool × Option ai_C := (true, some hka09_74)
def hka09_81 : ai_W := [hka09_9, hka09_9, hka09_9, hka09_9, hka09_9, hka09_9, hka09_9, hka09_9, hka09_9, hka09_9, hka09_9, hka09_9, hka09_9, hka09_9, hka09_9, hka09_9, hka09_9, hka09_9, hka09_9, hka09_9, hka09_9, hka09_9, hka09_9, hka09_9, hka09_9, hka09_9, hka09_9, hka09_9, hka09_9, hka09_9, hka09_9, hka09_9, hka09_80, hka09_9, hka09_9, hka09_9, hka09_9, hka09_9, hka09_9, hka09_9, hka09_9, hka09_9, hka09_9, hka09_9, hka09_9, hka09_9, hka09_9, hka09_9, hka09_9, hka09_9, hka09_9, hka09_9, hka09_9, hka09_9, hka09_9, hka09_9, hka09_9, hka09_9, hka09_9, hka09_9, hka09_9, hka09_9, hka09_9, hka09_9, hka09_9, hka09_9, hka09_9, hka09_9, hka09_9, hka09_9, hka09_9, hka09_9, hka09_9, hka09_9, hka09_9, hka09_9]
def kan_727 : List ai_Nd := [(35, (hka09_77, [hka09_44, hka09_46, hka09_76, hka09_64, hka09_21, hka09_38, hka09_79], [], hka09_81), [.inl 6], [.inl 99964, .inl 1, .inr (true, .ofNat 2147483647, 8), .inl 100000])]
set_option maxRecDepth 1000000 in
theorem kak_727 : ai_ck [ka_726] [] ka_727 [.inl 100000, .inl 0, .inl 0, .inl 0] kan_727 36 = true := by decide +kernel
theorem kah_727 : ai_holds ka_727 := ai_thm kak_727 (ai_cons kah_726 ai_nil)
def hka09_82 : ai_N := (.ofNat 2, .ofNat 2, [])
def hka09_83 : ai_V := .inl (false, hka09_82)
/-- NeverAgain$SetFinder.pickFrom -/
def ka_728 : ai_K := (177, 3, (hka09_60, [hka09_44, hka09_46, hka09_83, hka09_64, hka09_21, hka09_8, hka09_8], [], hka09_73), [.inl 1, .inl 3, .inl 4, .inr (32, 0), .inr (32, 1), .inr (32, 2), .inr (32, 3), .inr (32, 4)], [(none, hka09_60, [(32, hka09_74)])])
def kan_728 : List ai_Nd := [(35, (hka09_77, [hka09_44, hka09_46, hka09_83, hka09_64, hka09_21, hka09_38, hka09_79], [], hka09_81), [.inl 6], [.inl 99964, .inl 1, .inr (true, .ofNat 2147483647, 8), .inl 100000])]
set_option maxRecDepth 1000000 in
theorem kak_728 : ai_ck [ka_727] [] ka_728 [.inl 100000, .inl 0, .inl 0, .inl 0] kan_728 36 = true := by decide +kernel
theorem kah_728 : ai_holds ka_728 := ai_thm kak_728 (ai_cons kah_727 ai_nil)
def hka09_84 : ai_N := (.ofNat 3, .ofNat 3, [])
def hka09_85 : ai_V := .inl (false, hka09_84)
/-- NeverAgain$SetFinder.pickFrom -/
def ka_729 : ai_K := (177, 4, (hka09_60, [hka09_44, hka09_46, hka09_85, hka09_64, hka09_21, hka09_8, hka09_8], [], hka09_73), [.inl 1, .inl 3, .inl 4, .inr (32, 0), .inr (32, 1), .inr (32, 2), .inr (32, 3), .inr (32, 4)], [(none, hka09_60, [(32, hka09_74)])])
def kan_729 : List ai_Nd := [(35, (hka09_77, [hka09_44, hka09_46, hka09_85, hka09_64, hka09_21, hka09_38, hka09_79], [], hka09_81), [.inl 6], [.inl 99964, .inl 1, .inr (true, .ofNat 2147483647, 8), .inl 100000])]
set_option maxRecDepth 1000000 in
theorem kak_729 : ai_ck [ka_728] [] ka_729 [.inl 100000, .inl 0, .inl 0, .inl 0] kan_729 36 = true := by decide +kernel
theorem kah_729 : ai_holds ka_729 := ai_thm kak_729 (ai_cons kah_728 ai_nil)
def hka09_86 : ai_N := (.ofNat 4, .ofNat 4, [])
def hka09_87 : ai_V := .inl (false, hka09_86)
/-- NeverAgain$SetFinder.pickFrom -/
def ka_730 : ai_K := (177, 5, (hka09_60, [hka09_44, hka09_46, hka09_87, hka09_64, hka09_21, hka09_8, hka09_8], [], hka09_73), [.inl 1, .inl 3, .inl 4, .inr (32, 0), .inr (32, 1), .inr (32, 2), .inr (32, 3), .inr (32, 4)], [(none, hka09_60, [(32, hka09_74)])])
def kan_730 : List ai_Nd := [(35, (hka09_77, [hka09_44, hka09_46, hka09_87, hka09_64, hka09_21, hka09_38, hka09_79], [], hka09_81), [.inl 6], [.inl 99964, .inl 1, .inr (true, .ofNat 2147483647, 8), .inl 100000])]
set_option maxRecDepth 1000000 in
theorem kak_730 : ai_ck [ka_729] [] ka_730 [.inl 100000, .inl 0, .inl 0, .inl 0] kan_730 36 = true := by decide +kernel
theorem kah_730 : ai_holds ka_730 := ai_thm kak_730 (ai_cons kah_729 ai_nil)
def hka09_88 : ai_N := (.ofNat 5, .ofNat 5, [])
def hka09_89 : ai_V := .inl (false, hka09_88)
/-- NeverAgain$SetFinder.pickFrom -/
def ka_731 : ai_K := (177, 6, (hka09_60, [hka09_44, hka09_46, hka09_89, hka09_64, hka09_21, hka09_8, hka09_8], [], hka09_73), [.inl 1, .inl 3, .inl 4, .inr (32, 0), .inr (32, 1), .inr (32, 2), .inr (32, 3), .inr (32, 4)], [(none, hka09_60, [(32, hka09_74)])])
def kan_731 : List ai_Nd := [(35, (hka09_77, [hka09_44, hka09_46, hka09_89, hka09_64, hka09_21, hka09_38, hka09_79], [], hka09_81), [.inl 6], [.inl 99964, .inl 1, .inr (true, .ofNat 2147483647, 8), .inl 100000])]
set_option maxRecDepth 1000000 in
theorem kak_731 : ai_ck [ka_730] [] ka_731 [.inl 100000, .inl 0, .inl 0, .inl 0] kan_731 36 = true := by decide +kernel
theorem kah_731 : ai_holds ka_731 := ai_thm kak_731 (ai_cons kah_730 ai_nil)
def hka09_90 : ai_N := (.ofNat 6, .ofNat 6, [])
def hka09_91 : ai_V := .inl (false, hka09_90)
def hka09_92 : ai_C := .inr (.inr (3, [hka09_48, hka09_21, hka09_38, hka09_38, hka09_38]))
/-- NeverAgain$SetFinder.pickFrom -/
def ka_732 : ai_K := (177, 7, (hka09_43, [hka09_44, hka09_76, hka09_91, hka09_46, hka09_62, hka09_8, hka09_8], [], hka09_53), [.inl 3, .inr (32, 0), .inr (32, 1), .inr (32, 2), .inr (32, 3), .inr (32, 4)], [(none, hka09_43, [(32, hka09_92)])])
def hka09_93 : Int × Int := (.ofNat 1, .ofNat 2147483647)
def hka09_94 : ai_E := [hka09_2, hka09_42, hka09_2, hka09_2, hka09_2, hka09_2, hka09_93]
def hka09_95 : ai_N := (.ofNat 1, .ofNat 2147483647, [])
def hka09_96 : ai_V := .inl (false, hka09_95)
def hka09_97 : ai_N := (.ofNat 1, .ofNat 2147483647, [(6, .ofNat 0, .ofNat 0)])
def hka09_98 : ai_V := .inl (false, hka09_97)
def hka09_99 : Bool × Option ai_C := (true, some hka09_92)
def hka09_100 : ai_W := [hka09_9, hka09_9, hka09_9, hka09_9, hka09_9, hka09_9, hka09_9, hka09_9, hka09_9, hka09_9, hka09_9, hka09_9, hka09_9, hka09_9, hka09_9, hka09_9, hka09_9, hka09_9, hka09_9, hka09_9, hka09_9, hka09_9, hka09_9, hka09_9, hka09_9, hka09_9, hka09_9, hka09_9, hka09_9, hka09_9, hka09_9, hka09_9, hka09_99, hka09_9, hka09_9, hka09_9, hka09_9, hka09_9, hka09_9, hka09_9, hka09_9, hka09_9, hka09_9, hka09_9, hka09_9, hka09_9, hka09_9, hka09_9, hka09_9, hka09_9, hka09_9, hka09_9, hka09_9, hka09_9, hka09_9, hka09_9, hka09_9, hka09_9, hka09_9, hka09_9, hka09_9, hka09_9, hka09_9, hka09_9, hka09_9, hka09_9, hka09_9, hka09_9, hka09_9, hka09_9, hka09_9, hka09_9, hka09_9, hka09_9, hka09_9, hka09_9]
def kan_732 : List ai_Nd := [(35, (hka09_94, [hka09_44, hka09_76, hka09_91, hka09_46, hka09_62, hka09_96, hka09_98], [], hka09_100), [.inl 6], [.inl 99964, .inl 1, .inr (true, .ofNat 2147483647, 6), .inl 100000])]
set_option maxRecDepth 1000000 in
theorem kak_732 : ai_ck [ka_731] [] ka_732 [.inl 100000, .inl 0, .inl 0, .inl 0] kan_732 36 = true := by decide +kernel
theorem kah_732 : ai_holds ka_732 := ai_thm kak_732 (ai_cons kah_731 ai_nil)
def hka09_101 : ai_E := [hka09_2, hka09_0, hka09_1, hka09_2, hka09_2, hka09_2, hka09_3, hka09_4, hka09_5, hka09_42, hka09_2, hka09_2, hka09_2, hka09_2]
def hka09_102 : ai_N := (.ofNat 4, .ofNat 16, [(1, .ofNat 0, .ofNat 0)])
def hka09_103 : ai_V := .inl (false, hka09_102)
def hka09_104 : ai_N := (.ofNat 1, .ofNat 4, [(2, .ofNat 0, .ofNat 0)])
def hka09_105 : ai_V := .inl (false, hka09_104)
def hka09_106 : ai_N := (.ofNat 0, .ofNat 60, [(6, .ofNat 0, .ofNat 0)])
def hka09_107 : ai_V := .inl (false, hka09_106)
def hka09_108 : ai_N := (.ofNat 0, .ofNat 5, [(7, .ofNat 0, .ofNat 0)])
def hka09_109 : ai_V := .inl (false, hka09_108)
def hka09_110 : ai_N := (.ofNat 0, .ofNat 4, [(8, .ofNat 0, .ofNat 0)])
def hka09_111 : ai_V := .inl (false, hka09_110)
def hka09_112 : ai_C := .inr (.inr (6, [hka09_10, hka09_11, hka09_12, hka09_13, hka09_14, hka09_15, hka09_103, hka09_105, hka09_23, hka09_25, hka09_50, hka09_107, hka09_109, hka09_111]))
def hka09_113 : Bool × Option ai_C := (false, some hka09_112)
def hka09_114 : ai_N := (.ofNat 0, .ofNat 16, [(9, .ofNat 0, .ofNat 0)])
def hka09_115 : ai_V := .inl (false, hka09_114)
def hka09_116 : ai_N := (.negSucc 2147483647, .ofNat 2147483647, [(10, .ofNat 0, .ofNat 0)])
def hka09_117 : ai_V := .inl (false, hka09_116)
def hka09_118 : ai_N := (.negSucc 2147483647, .ofNat 2147483647, [(11, .ofNat 0, .ofNat 0)])
def hka09_119 : ai_V := .inl (false, hka09_118)
def hka09_120 : ai_N := (.negSucc 2147483647, .ofNat 2147483647, [(12, .ofNat 0, .ofNat 0)])
def hka09_121 : ai_V := .inl (false, hka09_120)
def hka09_122 : ai_N := (.negSucc 2147483647, .ofNat 2147483647, [(13, .ofNat 0, .ofNat 0)])
def hka09_123 : ai_V := .inl (false, hka09_122)
def hka09_124 : ai_C := .inr (.inr (3, [hka09_115, hka09_117, hka09_119, hka09_121, hka09_123]))
def hka09_125 : Bool × Option ai_C := (false, some hka09_124)
def hka09_126 : ai_W := [hka09_9, hka09_113, hka09_9, hka09_9, hka09_36, hka09_9, hka09_9, hka09_9, hka09_9, hka09_9, hka09_9, hka09_9, hka09_9, hka09_9, hka09_9, hka09_9, hka09_9, hka09_9, hka09_9, hka09_9, hka09_9, hka09_9, hka09_9, hka09_9, hka09_9, hka09_9, hka09_9, hka09_9, hka09_9, hka09_9, hka09_9, hka09_9, hka09_125, hka09_9, hka09_9, hka09_9, hka09_9, hka09_9, hka09_9, hka09_9, hka09_9, hka09_9, hka09_9, hka09_9, hka09_9, hka09_9, hka09_9, hka09_9, hka09_9, hka09_9, hka09_9, hka09_9, hka09_9, hka09_9, hka09_9, hka09_9, hka09_9, hka09_9, hka09_9, hka09_9, hka09_9, hka09_9, hka09_9, hka09_9, hka09_9, hka09_9, hka09_9, hka09_9, hka09_9, hka09_9, hka09_9, hka09_9, hka09_9, hka09_9, hka09_9, hka09_9]
def hka09_127 : ai_C := .inr (.inr (3, [hka09_103, hka09_38, hka09_38, hka09_38, hka09_38]))
/-- NeverAgain$SetFinder.find -/
def ka_733 : ai_K := (142, 8, (hka09_101, [hka09_44, hka09_7, hka09_91, hka09_46], [], hka09_126), [.inl 3, .inr (1, 6), .inr (1, 7), .inr (1, 8), .inr (1, 9), .inr (1, 10), .inr (1, 11), .inr (1, 12), .inr (1, 13), .inr (32, 0), .inr (32, 1), .inr (32, 2), .inr (32, 3), .inr (32, 4)], [(none, hka09_101, [(32, hka09_127)])])
def kan_733 : List ai_Nd := []
set_option maxRecDepth 1000000 in
theorem kak_733 : ai_ck [ka_724, ka_732] [] ka_733 [.inl 100000] kan_733 25 = true := by decide +kernel
theorem kah_733 : ai_holds ka_733 := ai_thm kak_733 (ai_cons kah_724 (ai_cons kah_732 ai_nil))
/-- NeverAgain$SetFinder.pickFrom -/
def ka_734 : ai_K := (177, 6, (hka09_43, [hka09_44, hka09_76, hka09_89, hka09_46, hka09_62, hka09_8, hka09_8], [], hka09_53), [.inl 3, .inr (32, 0), .inr (32, 1), .inr (32, 2), .inr (32, 3), .inr (32, 4)], [(none, hka09_43, [(32, hka09_92)])])
def kan_734 : List ai_Nd := [(35, (hka09_94, [hka09_44, hka09_76, hka09_89, hka09_46, hka09_62, hka09_96, hka09_98], [], hka09_100), [.inl 6], [.inl 99964, .inl 1, .inr (true, .ofNat 2147483647, 6), .inl 100000])]
set_option maxRecDepth 1000000 in
theorem kak_734 : ai_ck [ka_730] [] ka_734 [.inl 100000, .inl 0, .inl 0, .inl 0] kan_734 36 = true := by decide +kernel
theorem kah_734 : ai_holds ka_734 := ai_thm kak_734 (ai_cons kah_730 ai_nil)
/-- NeverAgain$SetFinder.find -/
def ka_735 : ai_K := (142, 7, (hka09_101, [hka09_44, hka09_7, hka09_89, hka09_46], [], hka09_126), [.inl 3, .inr (1, 6), .inr (1, 7), .inr (1, 8), .inr (1, 9), .inr (1, 10), .inr (1, 11), .inr (1, 12), .inr (1, 13), .inr (32, 0), .inr (32, 1), .inr (32, 2), .inr (32, 3), .inr (32, 4)], [(none, hka09_101, [(32, hka09_127)])])
def kan_735 : List ai_Nd := []
set_option maxRecDepth 1000000 in
theorem kak_735 : ai_ck [ka_724, ka_734] [] ka_735 [.inl 100000] kan_735 25 = true := by decide +kernel
theorem kah_735 : ai_holds ka_735 := ai_thm kak_735 (ai_cons kah_724 (ai_cons kah_734 ai_nil))
/-- NeverAgain$SetFinder.pickFrom -/
def ka_736 : ai_K := (177, 5, (hka09_43, [hka09_44, hka09_76, hka09_87, hka09_46, hka09_62, hka09_8, hka09_8], [], hka09_53), [.inl 3, .inr (32, 0), .inr (32, 1), .inr (32, 2), .inr (32, 3), .inr (32, 4)], [(none, hka09_43, [(32, hka09_92)])])
def kan_736 : List ai_Nd := [(35, (hka09_94, [hka09_44, hka09_76, hka09_87, hka09_46, hka09_62, hka09_96, hka09_98], [], hka09_100), [.inl 6], [.inl 99964, .inl 1, .inr (true, .ofNat 2147483647, 6), .inl 100000])]
set_option maxRecDepth 1000000 in
theorem kak_736 : ai_ck [ka_729] [] ka_736 [.inl 100000, .inl 0, .inl 0, .inl 0] kan_736 36 = true := by decide +kernel
theorem kah_736 : ai_holds ka_736 := ai_thm kak_736 (ai_cons kah_729 ai_nil)
/-- NeverAgain$SetFinder.find -/
def ka_737 : ai_K := (142, 6, (hka09_101, [hka09_44, hka09_7, hka09_87, hka09_46], [], hka09_126), [.inl 3, .inr (1, 6), .inr (1, 7), .inr (1, 8), .inr (1, 9), .inr (1, 10), .inr (1, 11), .inr (1, 12), .inr (1, 13), .inr (32, 0), .inr (32, 1), .inr (32, 2), .inr (32, 3), .inr (32, 4)], [(none, hka09_101, [(32, hka09_127)])])
def kan_737 : List ai_Nd := []
set_option maxRecDepth 1000000 in
theorem kak_737 : ai_ck [ka_724, ka_736] [] ka_737 [.inl 100000] kan_737 25 = true := by decide +kernel
theorem kah_737 : ai_holds ka_737 := ai_thm kak_737 (ai_cons kah_724 (ai_cons kah_736 ai_nil))
/-- NeverAgain$SetFinder.pickFrom -/
def ka_738 : ai_K := (177, 4, (hka09_43, [hka09_44, hka09_76, hka09_85, hka09_46, hka09_62, hka09_8, hka09_8], [], hka09_53), [.inl 3, .inr (32, 0), .inr (32, 1), .inr (32, 2), .inr (32, 3), .inr (32, 4)], [(none, hka09_43, [(32, hka09_92)])])
def kan_738 : List ai_Nd := [(35, (hka09_94, [hka09_44, hka09_76, hka09_85, hka09_46, hka09_62, hka09_96, hka09_98], [], hka09_100), [.inl 6], [.inl 99964, .inl 1, .inr (true, .ofNat 2147483647, 6), .inl 100000])]
set_option maxRecDepth 1000000 in
theorem kak_738 : ai_ck [ka_728] [] ka_738 [.inl 100000, .inl 0, .inl 0, .inl 0] kan_738 36 = true := by decide +kernel
theorem kah_738 : ai_holds ka_738 := ai_thm kak_738 (ai_cons kah_728 ai_nil)
/-- NeverAgain$SetFinder.find -/
def ka_739 : ai_K := (142, 5, (hka09_101, [hka09_44, hka09_7, hka09_85, hka09_46], [], hka09_126), [.inl 3, .inr (1, 6), .inr (1, 7), .inr (1, 8), .inr (1, 9), .inr (1, 10), .inr (1, 11), .inr (1, 12), .inr (1, 13), .inr (32, 0), .inr (32, 1), .inr (32, 2), .inr (32, 3), .inr (32, 4)], [(none, hka09_101, [(32, hka09_127)])])
def kan_739 : List ai_Nd := []
set_option maxRecDepth 1000000 in
theorem kak_739 : ai_ck [ka_724, ka_738] [] ka_739 [.inl 100000] kan_739 25 = true := by decide +kernel
theorem kah_739 : ai_holds ka_739 := ai_thm kak_739 (ai_cons kah_724 (ai_cons kah_738 ai_nil))
/-- NeverAgain$SetFinder.pickFrom -/
def ka_740 : ai_K := (177, 3, (hka09_43, [hka09_44, hka09_76, hka09_83, hka09_46, hka09_62, hka09_8, hka09_8], [], hka09_53), [.inl 3, .inr (32, 0), .inr (32, 1), .inr (32, 2), .inr (32, 3), .inr (32, 4)], [(none, hka09_43, [(32, hka09_92)])])
def kan_740 : List ai_Nd := [(35, (hka09_94, [hka09_44, hka09_76, hka09_83, hka09_46, hka09_62, hka09_96, hka09_98], [], hka09_100), [.inl 6], [.inl 99964, .inl 1, .inr (true, .ofNat 2147483647, 6), .inl 100000])]
set_option maxRecDepth 1000000 in
theorem kak_740 : ai_ck [ka_727] [] ka_740 [.inl 100000, .inl 0, .inl 0, .inl 0] kan_740 36 = true := by decide +kernel
theorem kah_740 : ai_holds ka_740 := ai_thm kak_740 (ai_cons kah_727 ai_nil)
/-- NeverAgain$SetFinder.find -/
def ka_741 : ai_K := (142, 4, (hka09_101, [hka09_44, hka09_7, hka09_83, hka09_46], [], hka09_126), [.inl 3, .inr (1, 6), .inr (1, 7), .inr (1, 8), .inr (1, 9), .inr (1, 10), .inr (1, 11), .inr (1, 12), .inr (1, 13), .inr (32, 0), .inr (32, 1), .inr (32, 2), .inr (32, 3), .inr (32, 4)], [(none, hka09_101, [(32, hka09_127)])])
def kan_741 : List ai_Nd := []
set_option maxRecDepth 1000000 in
theorem kak_741 : ai_ck [ka_724, ka_740] [] ka_741 [.inl 100000] kan_741 25 = true := by decide +kernel
theorem kah_741 : ai_holds ka_741 := ai_thm kak_741 (ai_cons kah_724 (ai_cons kah_740 ai_nil))
/-- NeverAgain$SetFinder.pickFrom -/
def ka_742 : ai_K := (177, 2, (hka09_43, [hka09_44, hka09_76, hka09_76, hka09_46, hka09_62, hka09_8, hka09_8], [], hka09_53), [.inl 3, .inr (32, 0), .inr (32, 1), .inr (32, 2), .inr (32, 3), .inr (32, 4)], [(none, hka09_43, [(32, hka09_92)])])
def kan_742 : List ai_Nd := [(35, (hka09_94, [hka09_44, hka09_76, hka09_76, hka09_46, hka09_62, hka09_96, hka09_98], [], hka09_100), [.inl 6], [.inl 99964, .inl 1, .inr (true, .ofNat 2147483647, 6), .inl 100000])]
set_option maxRecDepth 1000000 in
theorem kak_742 : ai_ck [ka_726] [] ka_742 [.inl 100000, .inl 0, .inl 0, .inl 0] kan_742 36 = true := by decide +kernel
theorem kah_742 : ai_holds ka_742 := ai_thm kak_742 (ai_cons kah_726 ai_nil)
/-- NeverAgain$SetFinder.find -/
def ka_743 : ai_K := (142, 3, (hka09_101, [hka09_44, hka09_7, hka09_76, hka09_46], [], hka09_126), [.inl 3, .inr (1, 6), .inr (1, 7), .inr (1, 8), .inr (1, 9), .inr (1, 10), .inr (1, 11), .inr (1, 12), .inr (1, 13), .inr (32, 0), .inr (32, 1), .inr (32, 2), .inr (32, 3), .inr (32, 4)], [(none, hka09_101, [(32, hka09_127)])])
def kan_743 : List ai_Nd := []
set_option maxRecDepth 1000000 in
theorem kak_743 : ai_ck [ka_724, ka_742] [] ka_743 [.inl 100000] kan_743 25 = true := by decide +kernel
theorem kah_743 : ai_holds ka_743 := ai_thm kak_743 (ai_cons kah_724 (ai_cons kah_742 ai_nil))
def hka09_128 : Int × Int := (.ofNat 0, .ofNat 12)
def hka09_129 : Int × Int := (.ofNat 0, .ofNat 6)
def hka09_130 : ai_E := [hka09_2, hka09_2, hka09_2, hka09_128, hka09_129, hka09_5, hka09_0, hka09_1, hka09_2, hka09_2, hka09_2, hka09_3, hka09_4, hka09_5, hka09_42, hka09_2, hka09_2, hka09_2, hka09_2]
def hka09_131 : ai_V := .inr (some (.ref 0))
def hka09_132 : ai_V := .inr (some (.ref 15))
def hka09_133 : ai_V := .inr (some (.ref 17))
def hka09_134 : ai_V := .inr (some (.ref 21))
def hka09_135 : ai_V := .inr (some (.ref 26))
def hka09_136 : ai_V := .inr (some (.ref 35))
def hka09_137 : ai_V := .inr (some (.ref 34))
def hka09_138 : ai_V := .inr (some (.ref 50))
def hka09_139 : ai_V := .inr (some (.ref 33))
def hka09_140 : ai_V := .inr (some (.ref 8))
def hka09_141 : ai_N := (.ofNat 0, .ofNat 12, [(3, .ofNat 0, .ofNat 0)])
def hka09_142 : ai_V := .inl (false, hka09_141)
def hka09_143 : ai_N := (.ofNat 0, .ofNat 6, [(4, .ofNat 0, .ofNat 0)])
def hka09_144 : ai_V := .inl (false, hka09_143)
def hka09_145 : ai_N := (.ofNat 0, .ofNat 4, [(5, .ofNat 0, .ofNat 0)])
def hka09_146 : ai_V := .inl (false, hka09_145)
def hka09_147 : ai_C := .inr (.inr (7, [hka09_132, hka09_133, hka09_134, hka09_135, hka09_44, hka09_136, hka09_137, hka09_138, hka09_139, hka09_7, hka09_140, hka09_142, hka09_144, hka09_146]))
def hka09_148 : Bool × Option ai_C := (false, some hka09_147)
def hka09_149 : ai_N := (.ofNat 4, .ofNat 16, [(6, .ofNat 0, .ofNat 0)])
def hka09_150 : ai_V := .inl (false, hka09_149)
def hka09_151 : ai_N := (.ofNat 1, .ofNat 4, [(7, .ofNat 0, .ofNat 0)])
def hka09_152 : ai_V := .inl (false, hka09_151)
def hka09_153 : ai_N := (.negSucc 2147483647, .ofNat 2147483647, [(9, .ofNat 0, .ofNat 0)])
def hka09_154 : ai_V := .inl (false, hka09_153)
def hka09_155 : ai_N := (.ofNat 0, .ofNat 60, [(11, .ofNat 0, .ofNat 0)])
def hka09_156 : ai_V := .inl (false, hka09_155)
def hka09_157 : ai_N := (.ofNat 0, .ofNat 5, [(12, .ofNat 0, .ofNat 0)])
def hka09_158 : ai_V := .inl (false, hka09_157)
def hka09_159 : ai_N := (.ofNat 0, .ofNat 4, [(13, .ofNat 0, .ofNat 0)])
def hka09_160 : ai_V := .inl (false, hka09_159)
def hka09_161 : ai_C := .inr (.inr (6, [hka09_10, hka09_11, hka09_12, hka09_13, hka09_14, hka09_15, hka09_150, hka09_152, hka09_79, hka09_154, hka09_117, hka09_156, hka09_158, hka09_160]))
def hka09_162 : Bool × Option ai_C := (false, some hka09_161)
def hka09_163 : ai_N := (.ofNat 0, .ofNat 16, [(14, .ofNat 0, .ofNat 0)])
def hka09_164 : ai_V := .inl (false, hka09_163)
def hka09_165 : ai_N := (.negSucc 2147483647, .ofNat 2147483647, [(15, .ofNat 0, .ofNat 0)])
def hka09_166 : ai_V := .inl (false, hka09_165)
def hka09_167 : ai_N := (.negSucc 2147483647, .ofNat 2147483647, [(16, .ofNat 0, .ofNat 0)])
def hka09_168 : ai_V := .inl (false, hka09_167)
def hka09_169 : ai_N := (.negSucc 2147483647, .ofNat 2147483647, [(17, .ofNat 0, .ofNat 0)])
def hka09_170 : ai_V := .inl (false, hka09_169)
def hka09_171 : ai_N := (.negSucc 2147483647, .ofNat 2147483647, [(18, .ofNat 0, .ofNat 0)])
def hka09_172 : ai_V := .inl (false, hka09_171)
def hka09_173 : ai_C := .inr (.inr (3, [hka09_164, hka09_166, hka09_168, hka09_170, hka09_172]))
def hka09_174 : Bool × Option ai_C := (false, some hka09_173)
def hka09_175 : ai_W := [hka09_148, hka09_162, hka09_9, hka09_9, hka09_36, hka09_9, hka09_9, hka09_9, hka09_9, hka09_9, hka09_9, hka09_9, hka09_9, hka09_9, hka09_9, hka09_9, hka09_9, hka09_9, hka09_9, hka09_9, hka09_9, hka09_9, hka09_9, hka09_9, hka09_9, hka09_9, hka09_9, hka09_9, hka09_9, hka09_9, hka09_9, hka09_9, hka09_174, hka09_9, hka09_9, hka09_9, hka09_9, hka09_9, hka09_9, hka09_9, hka09_9, hka09_9, hka09_9, hka09_9, hka09_9, hka09_9, hka09_9, hka09_9, hka09_9, hka09_9, hka09_9, hka09_9, hka09_9, hka09_9, hka09_9, hka09_9, hka09_9, hka09_9, hka09_9, hka09_9, hka09_9, hka09_9, hka09_9, hka09_9, hka09_9, hka09_9, hka09_9, hka09_9, hka09_9, hka09_9, hka09_9, hka09_9, hka09_9, hka09_9, hka09_9, hka09_9]
def hka09_176 : ai_N := (.negSucc 0, .negSucc 0, [])
def hka09_177 : ai_V := .inl (false, hka09_176)
def hka09_178 : Int × Int := (.ofNat 1, .ofNat 6)
def hka09_179 : Int × Int := (.ofNat 0, .ofNat 100)
def hka09_180 : Int × Int := (.ofNat 0, .ofNat 2)
def hka09_181 : ai_E := [hka09_178, hka09_179, hka09_180, hka09_128, hka09_129, hka09_5, hka09_0, hka09_1, hka09_2, hka09_2, hka09_2, hka09_3, hka09_4, hka09_5, hka09_42, hka09_2, hka09_2, hka09_2, hka09_2]
def hka09_182 : ai_C := .inr (.inr (3, [hka09_150, hka09_38, hka09_38, hka09_38, hka09_38]))
def hka09_183 : ai_N := (.negSucc 3, .negSucc 3, [])
def hka09_184 : ai_V := .inl (false, hka09_183)
def hka09_185 : Int × Int := (.ofNat 1, .ofNat 2)
def hka09_186 : ai_E := [hka09_178, hka09_179, hka09_185, hka09_128, hka09_129, hka09_5, hka09_0, hka09_1, hka09_2, hka09_2, hka09_2, hka09_3, hka09_4, hka09_5, hka09_42, hka09_2, hka09_2, hka09_2, hka09_2]
def hka09_187 : ai_C := .inr (.inr (3, [hka09_150, hka09_38, hka09_62, hka09_38, hka09_38]))
/-- NeverAgain.forgotten -/
def ka_744 : ai_K := (67, 9, (hka09_130, [hka09_131, hka09_46, hka09_64, hka09_21], [], hka09_175), [.inl 1, .inl 2, .inl 3, .inr (0, 11), .inr (0, 12), .inr (0, 13), .inr (1, 6), .inr (1, 7), .inr (1, 8), .inr (1, 9), .inr (1, 10), .inr (1, 11), .inr (1, 12), .inr (1, 13), .inr (32, 0), .inr (32, 1), .inr (32, 2), .inr (32, 3), .inr (32, 4)], [(some hka09_177, hka09_130, []), (some hka09_38, hka09_181, [(32, hka09_182)]), (some hka09_184, hka09_186, [(32, hka09_187)])])
def kan_744 : List ai_Nd := []
set_option maxRecDepth 1000000 in
theorem kak_744 : ai_ck [ka_733, ka_735, ka_737, ka_739, ka_741, ka_743] [(0, .inl 1, [.ofNat 1, .ofNat 2, .ofNat 3, .ofNat 4, .ofNat 5, .ofNat 6, .ofNat 7])] ka_744 [.inl 100000] kan_744 38 = true := by decide +kernel
theorem kah_744 : ai_holds ka_744 := ai_thm kak_744 (ai_cons kah_733 (ai_cons kah_735 (ai_cons kah_737 (ai_cons kah_739 (ai_cons kah_741 (ai_cons kah_743 ai_nil))))))
def hka09_188 : Int × Int := (.ofNat 7, .ofNat 2147483647)
def hka09_189 : ai_N := (.ofNat 7, .ofNat 2147483647, [(0, .ofNat 0, .ofNat 0)])
def hka09_190 : ai_V := .inl (true, hka09_189)
def hka09_191 : ai_V := .inl (true, hka09_75)
def hka09_192 : ai_V := .inl (true, hka09_90)
def hka09_193 : ai_W := [hka09_9, hka09_9, hka09_9, hka09_9, hka09_9, hka09_9, hka09_9, hka09_9, hka09_9, hka09_9, hka09_9, hka09_9, hka09_9, hka09_9, hka09_9, hka09_9, hka09_9, hka09_9, hka09_9, hka09_9, hka09_9, hka09_9, hka09_9, hka09_9, hka09_9, hka09_9, hka09_9, hka09_9, hka09_9, hka09_9, hka09_9, hka09_9, hka09_9, hka09_9, hka09_9, hka09_9, hka09_9, hka09_9, hka09_9, hka09_9, hka09_9, hka09_9, hka09_9, hka09_9, hka09_9, hka09_9, hka09_9, hka09_9, hka09_9, hka09_9, hka09_9, hka09_9, hka09_9, hka09_9, hka09_9, hka09_9, hka09_9, hka09_9, hka09_9, hka09_9, hka09_9, hka09_9, hka09_9, hka09_9, hka09_9, hka09_9, hka09_9, hka09_9, hka09_9, hka09_9, hka09_9, hka09_9, hka09_9, hka09_9, hka09_9, hka09_9]
/-- NeverAgainModel.in -/
def ka_745 : ai_K := (93, 0, ([hka09_188], [hka09_190, hka09_8, hka09_191, hka09_8, hka09_192, hka09_8], [], hka09_193), [.inl 0], [(some hka09_62, [hka09_188], [])])
def kan_745 : List ai_Nd := []
set_option maxRecDepth 1000000 in
theorem kak_745 : ai_ck [] [] ka_745 [.inl 100000] kan_745 11 = true := by decide +kernel
theorem kah_745 : ai_holds ka_745 := ai_thm kak_745 ai_nil
/-- NeverAgainModel.in -/
def ka_746 : ai_K := (93, 0, ([], [hka09_192, hka09_8, hka09_191, hka09_8, hka09_192, hka09_8], [], hka09_193), [], [(some hka09_76, [], [])])
def kan_746 : List ai_Nd := []
set_option maxRecDepth 1000000 in
theorem kak_746 : ai_ck [] [] ka_746 [.inl 100000] kan_746 12 = true := by decide +kernel
theorem kah_746 : ai_holds ka_746 := ai_thm kak_746 ai_nil
def hka09_194 : ai_V := .inl (true, hka09_45)
def hka09_195 : ai_V := .inl (true, hka09_61)
def hka09_196 : ai_N := (.ofNat 100, .ofNat 100, [])
def hka09_197 : ai_V := .inl (true, hka09_196)
def hka09_198 : Int × Int := (.ofNat 101, .ofNat 2147483647)
def hka09_199 : Int × Int := (.ofNat 100, .ofNat 100)
def hka09_200 : Int × Int := (.ofNat 1, .ofNat 99)
def hka09_201 : Int × Int := (.negSucc 2147483647, .negSucc 0)
/-- NeverAgainModel.in -/
def ka_747 : ai_K := (93, 0, ([hka09_2], [hka09_194, hka09_8, hka09_195, hka09_8, hka09_197, hka09_8], [], hka09_193), [.inl 0], [(some hka09_62, [hka09_198], []), (some hka09_76, [hka09_199], []), (some hka09_76, [hka09_200], []), (some hka09_76, [hka09_54], []), (some hka09_62, [hka09_201], [])])
def kan_747 : List ai_Nd := []
set_option maxRecDepth 1000000 in
theorem kak_747 : ai_ck [] [] ka_747 [.inl 100000] kan_747 12 = true := by decide +kernel
theorem kah_747 : ai_holds ka_747 := ai_thm kak_747 ai_nil
def hka09_202 : ai_V := .inl (true, hka09_88)
/-- NeverAgainModel.in -/
def ka_748 : ai_K := (93, 0, ([], [hka09_202, hka09_8, hka09_191, hka09_8, hka09_192, hka09_8], [], hka09_193), [], [(some hka09_76, [], [])])
def kan_748 : List ai_Nd := []
set_option maxRecDepth 1000000 in
theorem kak_748 : ai_ck [] [] ka_748 [.inl 100000] kan_748 12 = true := by decide +kernel
theorem kah_748 : ai_holds ka_748 := ai_thm kak_748 ai_nil
def hka09_203 : ai_V := .inl (true, hka09_86)
/-- NeverAgainModel.in -/
def ka_749 : ai_K := (93, 0, ([], [hka09_203, hka09_8, hka09_191, hka09_8, hka09_192, hka09_8], [], hka09_193), [], [(some hka09_76, [], [])])
def kan_749 : List ai_Nd := []
set_option maxRecDepth 1000000 in
theorem kak_749 : ai_ck [] [] ka_749 [.inl 100000] kan_749 12 = true := by decide +kernel
theorem kah_749 : ai_holds ka_749 := ai_thm kak_749 ai_nil
def hka09_204 : ai_V := .inl (true, hka09_84)
/-- NeverAgainModel.in -/
def ka_750 : ai_K := (93, 0, ([], [hka09_204, hka09_8, hka09_191, hka09_8, hka09_192, hka09_8], [], hka09_193), [], [(some hka09_76, [], [])])
def kan_750 : List ai_Nd := []
set_option maxRecDepth 1000000 in
theorem kak_750 : ai_ck [] [] ka_750 [.inl 100000] kan_750 12 = true := by decide +kernel
theorem kah_750 : ai_holds ka_750 := ai_thm kak_750 ai_nil
def hka09_205 : ai_V := .inl (true, hka09_82)
/-- NeverAgainModel.in -/
def ka_751 : ai_K := (93, 0, ([], [hka09_205, hka09_8, hka09_191, hka09_8, hka09_192, hka09_8], [], hka09_193), [], [(some hka09_76, [], [])])
def kan_751 : List ai_Nd := []
set_option maxRecDepth 1000000 in
theorem kak_751 : ai_ck [] [] ka_751 [.inl 100000] kan_751 12 = true := by decide +kernel
theorem kah_751 : ai_holds ka_751 := ai_thm kak_751 ai_nil
/-- NeverAgainModel.in -/
def ka_752 : ai_K := (93, 0, ([], [hka09_191, hka09_8, hka09_191, hka09_8, hka09_192, hka09_8], [], hka09_193), [], [(some hka09_76, [], [])])
def kan_752 : List ai_Nd := []
set_option maxRecDepth 1000000 in
theorem kak_752 : ai_ck [] [] ka_752 [.inl 100000] kan_752 12 = true := by decide +kernel
theorem kah_752 : ai_holds ka_752 := ai_thm kak_752 ai_nil
def hka09_206 : Int × Int := (.negSucc 2147483647, .ofNat 0)
def hka09_207 : ai_N := (.negSucc 2147483647, .ofNat 0, [(0, .ofNat 0, .ofNat 0)])
def hka09_208 : ai_V := .inl (true, hka09_207)
/-- NeverAgainModel.in -/
def ka_753 : ai_K := (93, 0, ([hka09_206], [hka09_208, hka09_8, hka09_191, hka09_8, hka09_192, hka09_8], [], hka09_193), [.inl 0], [(some hka09_62, [hka09_206], [])])
def kan_753 : List ai_Nd := []
set_option maxRecDepth 1000000 in
theorem kak_753 : ai_ck [] [] ka_753 [.inl 100000] kan_753 7 = true := by decide +kernel
theorem kah_753 : ai_holds ka_753 := ai_thm kak_753 ai_nil
/-- NeverAgainModel.lowestBit -/
def ka_754 : ai_K := (143, 0, ([hka09_2], [hka09_46], [], hka09_193), [.inl 0], [(some hka09_38, [hka09_2], [])])
def kan_754 : List ai_Nd := []
set_option maxRecDepth 1000000 in
theorem kak_754 : ai_ck [] [] ka_754 [.inl 100000] kan_754 6 = true := by decide +kernel
theorem kah_754 : ai_holds ka_754 := ai_thm kak_754 ai_nil
def hka09_209 : Int × Int := (.negSucc 3, .ofNat 3)
def hka09_210 : Int × Int := (.ofNat 0, .ofNat 400)
def hka09_211 : Int × Int := (.ofNat 0, .ofNat 3)
def hka09_212 : Int × Int := (.ofNat 0, .ofNat 130)
def hka09_213 : Int × Int := (.ofNat 0, .ofNat 20)
def hka09_214 : Int × Int := (.ofNat 0, .ofNat 1)
def hka09_215 : Int × Int := (.negSucc 3, .ofNat 2)
def hka09_216 : ai_E := [hka09_2, hka09_2, hka09_2, hka09_0, hka09_1, hka09_128, hka09_42, hka09_5, hka09_2, hka09_42, hka09_209, hka09_210, hka09_210, hka09_210, hka09_211, hka09_2, hka09_129, hka09_210, hka09_212, hka09_2, hka09_5, hka09_3, hka09_213, hka09_214, hka09_215, hka09_4, hka09_5, hka09_3, hka09_213, hka09_214, hka09_215, hka09_4, hka09_5, hka09_3, hka09_213, hka09_214, hka09_215, hka09_4, hka09_5]
def hka09_217 : ai_V := .inr (some (.ref 59))
def hka09_218 : ai_V := .inr (some (.ref 60))
def hka09_219 : ai_V := .inr (some (.ref 61))
def hka09_220 : ai_N := (.ofNat 4, .ofNat 16, [(3, .ofNat 0, .ofNat 0)])
def hka09_221 : ai_V := .inl (false, hka09_220)
def hka09_222 : ai_N := (.ofNat 1, .ofNat 4, [(4, .ofNat 0, .ofNat 0)])
def hka09_223 : ai_V := .inl (false, hka09_222)
def hka09_224 : ai_V := .inr (some (.ref 62))
def hka09_225 : ai_V := .inr (some (.ref 63))
def hka09_226 : ai_N := (.ofNat 0, .ofNat 12, [(5, .ofNat 0, .ofNat 0)])
def hka09_227 : ai_V := .inl (false, hka09_226)
def hka09_228 : ai_V := .inr (some (.ref 64))
def hka09_229 : ai_N := (.ofNat 0, .ofNat 16, [(6, .ofNat 0, .ofNat 0)])
def hka09_230 : ai_V := .inl (false, hka09_229)
def hka09_231 : ai_V := .inr (some (.ref 65))
def hka09_232 : ai_N := (.negSucc 3, .ofNat 3, [(10, .ofNat 0, .ofNat 0)])
def hka09_233 : ai_V := .inl (false, hka09_232)
def hka09_234 : ai_V := .inr (some (.ref 66))
def hka09_235 : ai_N := (.ofNat 0, .ofNat 400, [(11, .ofNat 0, .ofNat 0)])
def hka09_236 : ai_V := .inl (false, hka09_235)
def hka09_237 : ai_N := (.ofNat 0, .ofNat 400, [(12, .ofNat 0, .ofNat 0)])
def hka09_238 : ai_V := .inl (false, hka09_237)
def hka09_239 : ai_N := (.ofNat 0, .ofNat 400, [(13, .ofNat 0, .ofNat 0)])
def hka09_240 : ai_V := .inl (false, hka09_239)
def hka09_241 : ai_N := (.ofNat 0, .ofNat 3, [(14, .ofNat 0, .ofNat 0)])
def hka09_242 : ai_V := .inl (false, hka09_241)
def hka09_243 : ai_N := (.ofNat 0, .ofNat 6, [(16, .ofNat 0, .ofNat 0)])
def hka09_244 : ai_V := .inl (false, hka09_243)
def hka09_245 : ai_N := (.ofNat 0, .ofNat 400, [(17, .ofNat 0, .ofNat 0)])
def hka09_246 : ai_V := .inl (false, hka09_245)
def hka09_247 : ai_V := .inr (some (.ref 67))
def hka09_248 : ai_N := (.ofNat 0, .ofNat 130, [(18, .ofNat 0, .ofNat 0)])
def hka09_249 : ai_V := .inl (false, hka09_248)
def hka09_250 : ai_V := .inr (some (.ref 68))
def hka09_251 : ai_V := .inr (some (.ref 69))
def hka09_252 : ai_N := (.negSucc 2147483647, .ofNat 2147483647, [(19, .ofNat 0, .ofNat 0)])
def hka09_253 : ai_V := .inl (false, hka09_252)
def hka09_254 : ai_V := .inr (some (.ref 70))
def hka09_255 : ai_V := .inr (some (.ref 71))
def hka09_256 : ai_V := .inr (some (.ref 72))
def hka09_257 : ai_V := .inr (some (.ref 73))
def hka09_258 : ai_V := .inr (some (.ref 74))
def hka09_259 : ai_V := .inr (some (.ref 75))
def hka09_260 : ai_N := (.ofNat 0, .ofNat 4, [(20, .ofNat 0, .ofNat 0)])
def hka09_261 : ai_V := .inl (false, hka09_260)
def hka09_262 : ai_C := .inr (.inr (8, [hka09_218, hka09_219, hka09_221, hka09_223, hka09_224, hka09_225, hka09_227, hka09_228, hka09_230, hka09_31, hka09_231, hka09_79, hka09_115, hka09_233, hka09_234, hka09_236, hka09_238, hka09_240, hka09_242, hka09_166, hka09_244, hka09_246, hka09_247, hka09_249, hka09_250, hka09_251, hka09_253, hka09_254, hka09_255, hka09_256, hka09_257, hka09_258, hka09_259, hka09_261]))
def hka09_263 : Bool × Option ai_C := (false, some hka09_262)
def hka09_264 : ai_N := (.ofNat 0, .ofNat 60, [(21, .ofNat 0, .ofNat 0)])
def hka09_265 : ai_N := (.ofNat 0, .ofNat 16, [])
def hka09_266 : ai_N := (.negSucc 3, .ofNat 3, [])
def hka09_267 : ai_N := (.ofNat 0, .ofNat 20, [(22, .ofNat 0, .ofNat 0)])
def hka09_268 : ai_N := (.ofNat 0, .ofNat 1, [(23, .ofNat 0, .ofNat 0)])
def hka09_269 : ai_N := (.negSucc 3, .ofNat 2, [(24, .ofNat 0, .ofNat 0)])
def hka09_270 : ai_N := (.ofNat 0, .ofNat 5, [(25, .ofNat 0, .ofNat 0)])
def hka09_271 : ai_N := (.ofNat 0, .ofNat 3, [])
def hka09_272 : ai_N := (.ofNat 0, .ofNat 4, [(26, .ofNat 0, .ofNat 0)])
def hka09_273 : ai_N := (.ofNat 0, .ofNat 4, [])
def hka09_274 : ai_N := (.ofNat 0, .ofNat 60, [(27, .ofNat 0, .ofNat 0)])
def hka09_275 : ai_N := (.ofNat 0, .ofNat 20, [(28, .ofNat 0, .ofNat 0)])
def hka09_276 : ai_N := (.ofNat 0, .ofNat 1, [(29, .ofNat 0, .ofNat 0)])
def hka09_277 : ai_N := (.negSucc 3, .ofNat 2, [(30, .ofNat 0, .ofNat 0)])
def hka09_278 : ai_N := (.ofNat 0, .ofNat 5, [(31, .ofNat 0, .ofNat 0)])
def hka09_279 : ai_N := (.ofNat 0, .ofNat 4, [(32, .ofNat 0, .ofNat 0)])
def hka09_280 : ai_N := (.ofNat 0, .ofNat 60, [(33, .ofNat 0, .ofNat 0)])
def hka09_281 : ai_N := (.ofNat 0, .ofNat 20, [(34, .ofNat 0, .ofNat 0)])
def hka09_282 : ai_N := (.ofNat 0, .ofNat 1, [(35, .ofNat 0, .ofNat 0)])
def hka09_283 : ai_N := (.negSucc 3, .ofNat 2, [(36, .ofNat 0, .ofNat 0)])
def hka09_284 : ai_N := (.ofNat 0, .ofNat 5, [(37, .ofNat 0, .ofNat 0)])
def hka09_285 : ai_N := (.ofNat 0, .ofNat 4, [(38, .ofNat 0, .ofNat 0)])
def hka09_286 : ai_C := .inl (.int, [(1, hka09_264), (60, hka09_265), (17, hka09_266), (1, hka09_267), (1, hka09_268), (1, hka09_269), (1, hka09_270), (5, hka09_271), (1, hka09_272), (8, hka09_273), (1, hka09_274), (60, hka09_265), (17, hka09_266), (1, hka09_275), (1, hka09_276), (1, hka09_277), (1, hka09_278), (5, hka09_271), (1, hka09_279), (8, hka09_273), (1, hka09_280), (60, hka09_265), (17, hka09_266), (1, hka09_281), (1, hka09_282), (1, hka09_283), (1, hka09_284), (5, hka09_271), (1, hka09_285), (8, hka09_273)])
def hka09_287 : Bool × Option ai_C := (false, some hka09_286)
def hka09_288 : ai_W := [hka09_9, hka09_9, hka09_9, hka09_9, hka09_9, hka09_9, hka09_9, hka09_9, hka09_9, hka09_9, hka09_9, hka09_9, hka09_9, hka09_9, hka09_9, hka09_9, hka09_9, hka09_9, hka09_9, hka09_9, hka09_9, hka09_9, hka09_9, hka09_9, hka09_9, hka09_9, hka09_9, hka09_9, hka09_9, hka09_9, hka09_9, hka09_9, hka09_9, hka09_9, hka09_9, hka09_9, hka09_9, hka09_9, hka09_9, hka09_9, hka09_9, hka09_9, hka09_9, hka09_9, hka09_9, hka09_9, hka09_9, hka09_9, hka09_9, hka09_9, hka09_9, hka09_9, hka09_9, hka09_9, hka09_9, hka09_9, hka09_9, hka09_9, hka09_9, hka09_263, hka09_287, hka09_9, hka09_9, hka09_9, hka09_9, hka09_9, hka09_9, hka09_9, hka09_9, hka09_9, hka09_9, hka09_9, hka09_9, hka09_9, hka09_9, hka09_9]
def hka09_289 : ai_E := [hka09_178, hka09_179, hka09_180, hka09_0, hka09_1, hka09_128, hka09_42, hka09_5, hka09_2, hka09_42, hka09_209, hka09_210, hka09_210, hka09_210, hka09_211, hka09_2, hka09_129, hka09_210, hka09_212, hka09_2, hka09_5, hka09_3, hka09_213, hka09_214, hka09_215, hka09_4, hka09_5, hka09_3, hka09_213, hka09_214, hka09_215, hka09_4, hka09_5, hka09_3, hka09_213, hka09_214, hka09_215, hka09_4, hka09_5]
def hka09_290 : ai_E := [hka09_178, hka09_179, hka09_185, hka09_0, hka09_1, hka09_128, hka09_42, hka09_5, hka09_2, hka09_42, hka09_209, hka09_210, hka09_210, hka09_210, hka09_211, hka09_2, hka09_129, hka09_210, hka09_212, hka09_2, hka09_5, hka09_3, hka09_213, hka09_214, hka09_215, hka09_4, hka09_5, hka09_3, hka09_213, hka09_214, hka09_215, hka09_4, hka09_5, hka09_3, hka09_213, hka09_214, hka09_215, hka09_4, hka09_5]
/-- NeverAgainModel.forgotten -/
def ka_755 : ai_K := (68, 1, (hka09_216, [hka09_217, hka09_46, hka09_64, hka09_21, hka09_8, hka09_8, hka09_8, hka09_8, hka09_8, hka09_8, hka09_8, hka09_8], [], hka09_288), [.inl 1, .inl 2, .inl 3, .inr (59, 2), .inr (59, 3), .inr (59, 6), .inr (59, 8), .inr (59, 9), .inr (59, 11), .inr (59, 12), .inr (59, 13), .inr (59, 15), .inr (59, 16), .inr (59, 17), .inr (59, 18), .inr (59, 19), .inr (59, 20), .inr (59, 21), .inr (59, 23), .inr (59, 26), .inr (59, 33), .inr (60, 0), .inr (60, 78), .inr (60, 79), .inr (60, 80), .inr (60, 81), .inr (60, 87), .inr (60, 96), .inr (60, 174), .inr (60, 175), .inr (60, 176), .inr (60, 177), .inr (60, 183), .inr (60, 192), .inr (60, 270), .inr (60, 271), .inr (60, 272), .inr (60, 273), .inr (60, 279)], [(some hka09_177, hka09_216, []), (some hka09_38, hka09_289, []), (some hka09_184, hka09_290, [])])
def hka09_291 : ai_E := [hka09_178, hka09_179, hka09_180, hka09_0, hka09_1, hka09_128, hka09_42, hka09_5, hka09_2, hka09_42, hka09_209, hka09_210, hka09_210, hka09_210, hka09_211, hka09_2, hka09_129, hka09_210, hka09_212, hka09_2, hka09_5, hka09_3, hka09_213, hka09_214, hka09_215, hka09_4, hka09_5, hka09_3, hka09_213, hka09_214, hka09_215, hka09_4, hka09_5, hka09_3, hka09_213, hka09_214, hka09_215, hka09_4, hka09_5, hka09_3]
def hka09_292 : ai_N := (.ofNat 1, .ofNat 6, [(0, .ofNat 0, .ofNat 0)])
def hka09_293 : ai_V := .inl (false, hka09_292)
def hka09_294 : ai_N := (.ofNat 0, .ofNat 100, [(1, .ofNat 0, .ofNat 0)])
def hka09_295 : ai_V := .inl (false, hka09_294)
def hka09_296 : ai_N := (.ofNat 0, .ofNat 2, [(2, .ofNat 0, .ofNat 0)])
def hka09_297 : ai_V := .inl (false, hka09_296)
def hka09_298 : ai_N := (.ofNat 0, .ofNat 60, [(39, .ofNat 0, .ofNat 0)])
def hka09_299 : ai_V := .inl (false, hka09_298)
def kad_755_0 : ai_Nd := (44, (hka09_291, [hka09_217, hka09_293, hka09_295, hka09_297, hka09_38, hka09_299, hka09_8, hka09_8, hka09_8, hka09_8, hka09_8, hka09_8], [], hka09_288), [.inl 5], [.inl 99955, .inl 1, .inr (true, .ofNat 60, 39), .inl 100000, .inl 0, .inl 0, .inl 0])
def hka09_300 : Int × Int := (.ofNat 2, .ofNat 131076)
def hka09_301 : ai_E := [hka09_178, hka09_179, hka09_180, hka09_0, hka09_1, hka09_128, hka09_42, hka09_5, hka09_2, hka09_42, hka09_209, hka09_210, hka09_210, hka09_210, hka09_211, hka09_2, hka09_129, hka09_210, hka09_212, hka09_2, hka09_5, hka09_3, hka09_213, hka09_214, hka09_215, hka09_4, hka09_5, hka09_3, hka09_213, hka09_214, hka09_215, hka09_4, hka09_5, hka09_3, hka09_213, hka09_214, hka09_215, hka09_4, hka09_5, hka09_2, hka09_300]
def hka09_302 : ai_N := (.negSucc 2147483647, .ofNat 2147483647, [(39, .ofNat 0, .ofNat 0)])
def hka09_303 : ai_V := .inl (false, hka09_302)
def hka09_304 : ai_N := (.negSucc 3, .ofNat 131074, [])
def hka09_305 : ai_V := .inl (false, hka09_304)
def hka09_306 : ai_N := (.negSucc 0, .ofNat 131074, [])
def hka09_307 : ai_V := .inl (false, hka09_306)
def hka09_308 : ai_N := (.ofNat 2, .ofNat 131076, [(40, .ofNat 0, .ofNat 0)])
def hka09_309 : ai_V := .inl (false, hka09_308)
def kad_755_1 : ai_Nd := (99, (hka09_301, [hka09_217, hka09_293, hka09_295, hka09_297, hka09_38, hka09_303, hka09_305, hka09_307, hka09_309, hka09_8, hka09_8, hka09_8], [], hka09_288), [.inl 5, .inl 8], [.inl 99900, .inl 1, .inr (true, .ofNat 131076, 40), .inl 100000, .inl 0, .inl 0, .inl 0])
def hka09_310 : Int × Int := (.ofNat 1, .ofNat 17)
def hka09_311 : Int × Int := (.ofNat 2, .ofNat 131074)
def hka09_312 : ai_E := [hka09_178, hka09_179, hka09_180, hka09_0, hka09_1, hka09_128, hka09_42, hka09_5, hka09_2, hka09_42, hka09_209, hka09_210, hka09_210, hka09_210, hka09_211, hka09_2, hka09_129, hka09_210, hka09_212, hka09_2, hka09_5, hka09_3, hka09_213, hka09_214, hka09_215, hka09_4, hka09_5, hka09_3, hka09_213, hka09_214, hka09_215, hka09_4, hka09_5, hka09_3, hka09_213, hka09_214, hka09_215, hka09_4, hka09_5, hka09_310, hka09_2, hka09_311]
def hka09_313 : ai_N := (.negSucc 2147483647, .ofNat 2147483647, [(40, .ofNat 0, .ofNat 0)])
def hka09_314 : ai_V := .inl (false, hka09_313)
def hka09_315 : ai_N := (.ofNat 2, .ofNat 131074, [(41, .ofNat 0, .ofNat 0)])
def hka09_316 : ai_V := .inl (false, hka09_315)
def hka09_317 : ai_N := (.ofNat 1, .ofNat 17, [(39, .ofNat 0, .ofNat 0)])
def hka09_318 : ai_V := .inl (false, hka09_317)
def kad_755_2 : ai_Nd := (121, (hka09_312, [hka09_217, hka09_293, hka09_295, hka09_297, hka09_38, hka09_314, hka09_305, hka09_307, hka09_316, hka09_38, hka09_38, hka09_318], [], hka09_288), [.inl 11, .inl 5, .inl 8], [.inl 99900, .inl 1, .inr (true, .ofNat 131076, 41), .inl 99878, .inl 1, .inr (true, .ofNat 17, 39), .inl 100000])
def kan_755 : List ai_Nd := [kad_755_0, kad_755_1, kad_755_2]
set_option maxRecDepth 1000000 in
theorem kav_755 : ai_ckv ka_755 [.inl 100000, .inl 0, .inl 0, .inl 0, .inl 0, .inl 0, .inl 0] kan_755 = true := by decide +kernel
set_option maxRecDepth 1000000 in
theorem kak_755_2 : ai_ckn [ka_754, ka_746, ka_748, ka_749, ka_750, ka_751, ka_752, ka_745, ka_753, ka_366, ka_747] [(0, .inl 1, [.ofNat 1, .ofNat 2, .ofNat 3, .ofNat 4, .ofNat 5, .ofNat 6, .ofNat 7])] ka_755 [.inl 100000, .inl 0, .inl 0, .inl 0, .inl 0, .inl 0, .inl 0] kan_755 40 kad_755_2 = true := by decide +kernel
set_option maxRecDepth 1000000 in
theorem kak_755_1 : ai_ckn [ka_754, ka_746, ka_748, ka_749, ka_750, ka_751, ka_752, ka_745, ka_753, ka_366, ka_747] [(0, .inl 1, [.ofNat 1, .ofNat 2, .ofNat 3, .ofNat 4, .ofNat 5, .ofNat 6, .ofNat 7])] ka_755 [.inl 100000, .inl 0, .inl 0, .inl 0, .inl 0, .inl 0, .inl 0] kan_755 40 kad_755_1 = true := by decide +kernel
set_option maxRecDepth 1000000 in
theorem kak_755_0 : ai_ckn [ka_754, ka_746, ka_748, ka_749, ka_750, ka_751, ka_752, ka_745, ka_753, ka_366, ka_747] [(0, .inl 1, [.ofNat 1, .ofNat 2, .ofNat 3, .ofNat 4, .ofNat 5, .ofNat 6, .ofNat 7])] ka_755 [.inl 100000, .inl 0, .inl 0, .inl 0, .inl 0, .inl 0, .inl 0] kan_755 40 kad_755_0 = true := by decide +kernel
set_option maxRecDepth 1000000 in
theorem kak_755_e : ai_ckn [ka_754, ka_746, ka_748, ka_749, ka_750, ka_751, ka_752, ka_745, ka_753, ka_366, ka_747] [(0, .inl 1, [.ofNat 1, .ofNat 2, .ofNat 3, .ofNat 4, .ofNat 5, .ofNat 6, .ofNat 7])] ka_755 [.inl 100000, .inl 0, .inl 0, .inl 0, .inl 0, .inl 0, .inl 0] kan_755 40 (0, ka_755.2.2.1, [], [.inl 100000, .inl 0, .inl 0, .inl 0, .inl 0, .inl 0, .inl 0]) = true := by decide +kernel
theorem kak_755 : ai_ck [ka_754, ka_746, ka_748, ka_749, ka_750, ka_751, ka_752, ka_745, ka_753, ka_366, ka_747] [(0, .inl 1, [.ofNat 1, .ofNat 2, .ofNat 3, .ofNat 4, .ofNat 5, .ofNat 6, .ofNat 7])] ka_755 [.inl 100000, .inl 0, .inl 0, .inl 0, .inl 0, .inl 0, .inl 0] kan_755 40 = true := ai_ck_of rfl kav_755 (List.forall_mem_cons.mpr ⟨kak_755_e, List.forall_mem_cons.mpr ⟨kak_755_0, List.forall_mem_cons.mpr ⟨kak_755_1, List.forall_mem_cons.mpr ⟨kak_755_2, fun _ h => absurd h List.not_mem_nil⟩⟩⟩⟩)
theorem kah_755 : ai_holds ka_755 := ai_thm kak_755 (ai_cons kah_754 (ai_cons kah_746 (ai_cons kah_748 (ai_cons kah_749 (ai_cons kah_750 (ai_cons kah_751 (ai_cons kah_752 (ai_cons kah_745 (ai_cons kah_753 (ai_cons kah_366 (ai_cons kah_747 ai_nil)))))))))))
def hka09_319 : ai_E := [hka09_0, hka09_1, hka09_2, hka09_2, hka09_2, hka09_3, hka09_4, hka09_5, hka09_0, hka09_1, hka09_2, hka09_2, hka09_2, hka09_3, hka09_4, hka09_5]
def hka09_320 : ai_V := .inr (some (.ref 43))
def hka09_321 : ai_C := .inl (.int, [(4, hka09_34)])
def hka09_322 : Bool × Option ai_C := (false, some hka09_321)
def hka09_323 : ai_C := .inl (.int, [(17, hka09_34)])
def hka09_324 : Bool × Option ai_C := (false, some hka09_323)
def hka09_325 : ai_C := .inl (.int, [(5, hka09_34)])
def hka09_326 : Bool × Option ai_C := (false, some hka09_325)
def hka09_327 : ai_V := .inr (some (.ref 44))
def hka09_328 : ai_V := .inr (some (.ref 45))
def hka09_329 : ai_V := .inr (some (.ref 46))
def hka09_330 : ai_V := .inr (some (.ref 47))
def hka09_331 : ai_V := .inr (some (.ref 48))
def hka09_332 : ai_V := .inr (some (.ref 49))
def hka09_333 : ai_N := (.ofNat 4, .ofNat 16, [(8, .ofNat 0, .ofNat 0)])
def hka09_334 : ai_V := .inl (false, hka09_333)
def hka09_335 : ai_N := (.ofNat 1, .ofNat 4, [(9, .ofNat 0, .ofNat 0)])
def hka09_336 : ai_V := .inl (false, hka09_335)
def hka09_337 : ai_N := (.ofNat 0, .ofNat 60, [(13, .ofNat 0, .ofNat 0)])
def hka09_338 : ai_V := .inl (false, hka09_337)
def hka09_339 : ai_N := (.ofNat 0, .ofNat 5, [(14, .ofNat 0, .ofNat 0)])
def hka09_340 : ai_V := .inl (false, hka09_339)
def hka09_341 : ai_N := (.ofNat 0, .ofNat 4, [(15, .ofNat 0, .ofNat 0)])
def hka09_342 : ai_V := .inl (false, hka09_341)
def hka09_343 : ai_C := .inr (.inr (6, [hka09_327, hka09_328, hka09_329, hka09_330, hka09_331, hka09_332, hka09_334, hka09_336, hka09_117, hka09_119, hka09_121, hka09_338, hka09_340, hka09_342]))
def hka09_344 : Bool × Option ai_C := (false, some hka09_343)
def hka09_345 : ai_W := [hka09_9, hka09_33, hka09_322, hka09_324, hka09_36, hka09_326, hka09_322, hka09_322, hka09_9, hka09_9, hka09_9, hka09_9, hka09_9, hka09_9, hka09_9, hka09_9, hka09_9, hka09_9, hka09_9, hka09_9, hka09_9, hka09_9, hka09_9, hka09_9, hka09_9, hka09_9, hka09_9, hka09_9, hka09_9, hka09_9, hka09_9, hka09_9, hka09_9, hka09_9, hka09_9, hka09_9, hka09_9, hka09_9, hka09_9, hka09_9, hka09_9, hka09_9, hka09_9, hka09_344, hka09_322, hka09_324, hka09_36, hka09_326, hka09_322, hka09_322, hka09_9, hka09_9, hka09_9, hka09_9, hka09_9, hka09_9, hka09_9, hka09_9, hka09_9, hka09_9, hka09_9, hka09_9, hka09_9, hka09_9, hka09_9, hka09_9, hka09_9, hka09_9, hka09_9, hka09_9, hka09_9, hka09_9, hka09_9, hka09_9, hka09_9, hka09_9]
def hka09_346 : ai_C := .inr (.inr (6, [hka09_327, hka09_328, hka09_329, hka09_330, hka09_331, hka09_332, hka09_17, hka09_19, hka09_21, hka09_23, hka09_25, hka09_27, hka09_29, hka09_31]))
/-- NeverAgain$Told.copyOf -/
def ka_756 : ai_K := (144, 0, (hka09_319, [hka09_320, hka09_7], [], hka09_345), [.inr (1, 6), .inr (1, 7), .inr (1, 8), .inr (1, 9), .inr (1, 10), .inr (1, 11), .inr (1, 12), .inr (1, 13), .inr (43, 6), .inr (43, 7), .inr (43, 8), .inr (43, 9), .inr (43, 10), .inr (43, 11), .inr (43, 12), .inr (43, 13)], [(none, hka09_319, [(43, hka09_346), (44, hka09_321), (45, hka09_323), (46, hka09_35), (47, hka09_325), (48, hka09_321), (49, hka09_321)])])
def kan_756 : List ai_Nd := []
set_option maxRecDepth 1000000 in
theorem kak_756 : ai_ck [] [] ka_756 [.inl 100000] kan_756 82 = true := by decide +kernel
theorem kah_756 : ai_holds ka_756 := ai_thm kak_756 ai_nil
def hka09_347 : ai_V := .inr (some (.ref 36))
def hka09_348 : ai_V := .inr (some (.ref 37))
def hka09_349 : ai_V := .inr (some (.ref 38))
def hka09_350 : ai_V := .inr (some (.ref 39))
def hka09_351 : ai_V := .inr (some (.ref 40))
def hka09_352 : ai_V := .inr (some (.ref 41))
def hka09_353 : ai_V := .inr (some (.ref 42))
def hka09_354 : ai_C := .inr (.inr (6, [hka09_348, hka09_349, hka09_350, hka09_351, hka09_352, hka09_353, hka09_334, hka09_336, hka09_117, hka09_119, hka09_121, hka09_338, hka09_340, hka09_342]))
def hka09_355 : Bool × Option ai_C := (false, some hka09_354)
def hka09_356 : ai_W := [hka09_9, hka09_33, hka09_322, hka09_324, hka09_36, hka09_326, hka09_322, hka09_322, hka09_9, hka09_9, hka09_9, hka09_9, hka09_9, hka09_9, hka09_9, hka09_9, hka09_9, hka09_9, hka09_9, hka09_9, hka09_9, hka09_9, hka09_9, hka09_9, hka09_9, hka09_9, hka09_9, hka09_9, hka09_9, hka09_9, hka09_9, hka09_9, hka09_9, hka09_9, hka09_9, hka09_9, hka09_355, hka09_322, hka09_324, hka09_36, hka09_326, hka09_322, hka09_322, hka09_9, hka09_9, hka09_9, hka09_9, hka09_9, hka09_9, hka09_9, hka09_9, hka09_9, hka09_9, hka09_9, hka09_9, hka09_9, hka09_9, hka09_9, hka09_9, hka09_9, hka09_9, hka09_9, hka09_9, hka09_9, hka09_9, hka09_9, hka09_9, hka09_9, hka09_9, hka09_9, hka09_9, hka09_9, hka09_9, hka09_9, hka09_9, hka09_9]
def hka09_357 : ai_C := .inr (.inr (6, [hka09_348, hka09_349, hka09_350, hka09_351, hka09_352, hka09_353, hka09_17, hka09_19, hka09_21, hka09_23, hka09_25, hka09_27, hka09_29, hka09_31]))
/-- NeverAgain$Told.copyOf -/
def ka_757 : ai_K := (144, 0, (hka09_319, [hka09_347, hka09_7], [], hka09_356), [.inr (1, 6), .inr (1, 7), .inr (1, 8), .inr (1, 9), .inr (1, 10), .inr (1, 11), .inr (1, 12), .inr (1, 13), .inr (36, 6), .inr (36, 7), .inr (36, 8), .inr (36, 9), .inr (36, 10), .inr (36, 11), .inr (36, 12), .inr (36, 13)], [(none, hka09_319, [(36, hka09_357), (37, hka09_321), (38, hka09_323), (39, hka09_35), (40, hka09_325), (41, hka09_321), (42, hka09_321)])])
def kan_757 : List ai_Nd := []
set_option maxRecDepth 1000000 in
theorem kak_757 : ai_ck [] [] ka_757 [.inl 100000] kan_757 82 = true := by decide +kernel
theorem kah_757 : ai_holds ka_757 := ai_thm kak_757 ai_nil
def hka09_358 : ai_E := [hka09_2, hka09_128, hka09_129, hka09_5, hka09_0, hka09_1, hka09_2, hka09_2, hka09_2, hka09_3, hka09_4, hka09_5, hka09_0, hka09_1, hka09_2, hka09_2, hka09_2, hka09_3, hka09_4, hka09_5, hka09_0, hka09_1, hka09_2, hka09_2, hka09_2, hka09_3, hka09_4, hka09_5]
def hka09_359 : ai_N := (.ofNat 0, .ofNat 12, [(1, .ofNat 0, .ofNat 0)])
def hka09_360 : ai_V := .inl (false, hka09_359)
def hka09_361 : ai_N := (.ofNat 0, .ofNat 6, [(2, .ofNat 0, .ofNat 0)])
def hka09_362 : ai_V := .inl (false, hka09_361)
def hka09_363 : ai_N := (.ofNat 0, .ofNat 4, [(3, .ofNat 0, .ofNat 0)])
def hka09_364 : ai_V := .inl (false, hka09_363)
def hka09_365 : ai_C := .inr (.inr (7, [hka09_132, hka09_133, hka09_134, hka09_135, hka09_44, hka09_136, hka09_137, hka09_138, hka09_139, hka09_7, hka09_140, hka09_360, hka09_362, hka09_364]))
def hka09_366 : Bool × Option ai_C := (false, some hka09_365)
def hka09_367 : ai_N := (.ofNat 4, .ofNat 16, [(4, .ofNat 0, .ofNat 0)])
def hka09_368 : ai_V := .inl (false, hka09_367)
def hka09_369 : ai_N := (.ofNat 1, .ofNat 4, [(5, .ofNat 0, .ofNat 0)])
def hka09_370 : ai_V := .inl (false, hka09_369)
def hka09_371 : ai_N := (.ofNat 0, .ofNat 60, [(9, .ofNat 0, .ofNat 0)])
def hka09_372 : ai_V := .inl (false, hka09_371)
def hka09_373 : ai_N := (.ofNat 0, .ofNat 5, [(10, .ofNat 0, .ofNat 0)])
def hka09_374 : ai_V := .inl (false, hka09_373)
def hka09_375 : ai_N := (.ofNat 0, .ofNat 4, [(11, .ofNat 0, .ofNat 0)])
def hka09_376 : ai_V := .inl (false, hka09_375)
def hka09_377 : ai_C := .inr (.inr (6, [hka09_10, hka09_11, hka09_12, hka09_13, hka09_14, hka09_15, hka09_368, hka09_370, hka09_68, hka09_70, hka09_79, hka09_372, hka09_374, hka09_376]))
def hka09_378 : Bool × Option ai_C := (false, some hka09_377)
def hka09_379 : ai_N := (.ofNat 0, .ofNat 1, [])
def hka09_380 : ai_C := .inl (.boolean, [(2, hka09_379)])
def hka09_381 : Bool × Option ai_C := (false, some hka09_380)
def hka09_382 : ai_C := .inr (.inl (6, [some 36, some 43]))
def hka09_383 : Bool × Option ai_C := (false, some hka09_382)
def hka09_384 : ai_N := (.ofNat 4, .ofNat 16, [(12, .ofNat 0, .ofNat 0)])
def hka09_385 : ai_V := .inl (false, hka09_384)
def hka09_386 : ai_N := (.ofNat 1, .ofNat 4, [(13, .ofNat 0, .ofNat 0)])
def hka09_387 : ai_V := .inl (false, hka09_386)
def hka09_388 : ai_N := (.negSucc 2147483647, .ofNat 2147483647, [(14, .ofNat 0, .ofNat 0)])
def hka09_389 : ai_V := .inl (false, hka09_388)
def hka09_390 : ai_N := (.ofNat 0, .ofNat 60, [(17, .ofNat 0, .ofNat 0)])
def hka09_391 : ai_V := .inl (false, hka09_390)
def hka09_392 : ai_N := (.ofNat 0, .ofNat 5, [(18, .ofNat 0, .ofNat 0)])
def hka09_393 : ai_V := .inl (false, hka09_392)
def hka09_394 : ai_N := (.ofNat 0, .ofNat 4, [(19, .ofNat 0, .ofNat 0)])
def hka09_395 : ai_V := .inl (false, hka09_394)
def hka09_396 : ai_C := .inr (.inr (6, [hka09_348, hka09_349, hka09_350, hka09_351, hka09_352, hka09_353, hka09_385, hka09_387, hka09_389, hka09_166, hka09_168, hka09_391, hka09_393, hka09_395]))
def hka09_397 : Bool × Option ai_C := (false, some hka09_396)
def hka09_398 : ai_N := (.ofNat 4, .ofNat 16, [(20, .ofNat 0, .ofNat 0)])
def hka09_399 : ai_V := .inl (false, hka09_398)
def hka09_400 : ai_N := (.ofNat 1, .ofNat 4, [(21, .ofNat 0, .ofNat 0)])
def hka09_401 : ai_V := .inl (false, hka09_400)
def hka09_402 : ai_N := (.negSucc 2147483647, .ofNat 2147483647, [(22, .ofNat 0, .ofNat 0)])
def hka09_403 : ai_V := .inl (false, hka09_402)
def hka09_404 : ai_N := (.negSucc 2147483647, .ofNat 2147483647, [(23, .ofNat 0, .ofNat 0)])
def hka09_405 : ai_V := .inl (false, hka09_404)
def hka09_406 : ai_N := (.negSucc 2147483647, .ofNat 2147483647, [(24, .ofNat 0, .ofNat 0)])
def hka09_407 : ai_V := .inl (false, hka09_406)
def hka09_408 : ai_N := (.ofNat 0, .ofNat 60, [(25, .ofNat 0, .ofNat 0)])
def hka09_409 : ai_V := .inl (false, hka09_408)
def hka09_410 : ai_N := (.ofNat 0, .ofNat 5, [(26, .ofNat 0, .ofNat 0)])
def hka09_411 : ai_V := .inl (false, hka09_410)
def hka09_412 : ai_N := (.ofNat 0, .ofNat 4, [(27, .ofNat 0, .ofNat 0)])
def hka09_413 : ai_V := .inl (false, hka09_412)
def hka09_414 : ai_C := .inr (.inr (6, [hka09_327, hka09_328, hka09_329, hka09_330, hka09_331, hka09_332, hka09_399, hka09_401, hka09_403, hka09_405, hka09_407, hka09_409, hka09_411, hka09_413]))
def hka09_415 : Bool × Option ai_C := (false, some hka09_414)
def hka09_416 : ai_W := [hka09_366, hka09_378, hka09_322, hka09_324, hka09_36, hka09_326, hka09_322, hka09_322, hka09_9, hka09_9, hka09_9, hka09_9, hka09_9, hka09_9, hka09_9, hka09_9, hka09_9, hka09_9, hka09_9, hka09_9, hka09_9, hka09_9, hka09_9, hka09_9, hka09_9, hka09_9, hka09_9, hka09_9, hka09_9, hka09_9, hka09_9, hka09_9, hka09_9, hka09_9, hka09_381, hka09_383, hka09_397, hka09_322, hka09_324, hka09_36, hka09_326, hka09_322, hka09_322, hka09_415, hka09_322, hka09_324, hka09_36, hka09_326, hka09_322, hka09_322, hka09_9, hka09_9, hka09_9, hka09_9, hka09_9, hka09_9, hka09_9, hka09_9, hka09_9, hka09_9, hka09_9, hka09_9, hka09_9, hka09_9, hka09_9, hka09_9, hka09_9, hka09_9, hka09_9, hka09_9, hka09_9, hka09_9, hka09_9, hka09_9, hka09_9, hka09_9]
def hka09_417 : Int × Int := (.ofNat 2, .ofNat 2147483647)
def hka09_418 : ai_E := [hka09_417, hka09_128, hka09_129, hka09_5, hka09_0, hka09_1, hka09_2, hka09_2, hka09_2, hka09_3, hka09_4, hka09_5, hka09_0, hka09_1, hka09_2, hka09_2, hka09_2, hka09_3, hka09_4, hka09_5, hka09_0, hka09_1, hka09_2, hka09_2, hka09_2, hka09_3, hka09_4, hka09_5]
def hka09_419 : Int × Int := (.ofNat 1, .ofNat 1)
def hka09_420 : ai_E := [hka09_419, hka09_128, hka09_129, hka09_5, hka09_0, hka09_1, hka09_2, hka09_2, hka09_2, hka09_3, hka09_4, hka09_5, hka09_0, hka09_1, hka09_2, hka09_2, hka09_2, hka09_3, hka09_4, hka09_5, hka09_0, hka09_1, hka09_2, hka09_2, hka09_2, hka09_3, hka09_4, hka09_5]
def hka09_421 : ai_C := .inr (.inr (6, [hka09_327, hka09_328, hka09_329, hka09_330, hka09_331, hka09_332, hka09_368, hka09_370, hka09_68, hka09_70, hka09_79, hka09_372, hka09_374, hka09_376]))
def hka09_422 : ai_E := [hka09_54, hka09_128, hka09_129, hka09_5, hka09_0, hka09_1, hka09_2, hka09_2, hka09_2, hka09_3, hka09_4, hka09_5, hka09_0, hka09_1, hka09_2, hka09_2, hka09_2, hka09_3, hka09_4, hka09_5, hka09_0, hka09_1, hka09_2, hka09_2, hka09_2, hka09_3, hka09_4, hka09_5]
def hka09_423 : ai_C := .inr (.inr (6, [hka09_348, hka09_349, hka09_350, hka09_351, hka09_352, hka09_353, hka09_368, hka09_370, hka09_68, hka09_70, hka09_79, hka09_372, hka09_374, hka09_376]))
def hka09_424 : ai_E := [hka09_201, hka09_128, hka09_129, hka09_5, hka09_0, hka09_1, hka09_2, hka09_2, hka09_2, hka09_3, hka09_4, hka09_5, hka09_0, hka09_1, hka09_2, hka09_2, hka09_2, hka09_3, hka09_4, hka09_5, hka09_0, hka09_1, hka09_2, hka09_2, hka09_2, hka09_3, hka09_4, hka09_5]
/-- NeverAgain.keep -/
def ka_758 : ai_K := (69, 1, (hka09_358, [hka09_131, hka09_46, hka09_8], [], hka09_416), [.inl 1, .inr (0, 11), .inr (0, 12), .inr (0, 13), .inr (1, 6), .inr (1, 7), .inr (1, 8), .inr (1, 9), .inr (1, 10), .inr (1, 11), .inr (1, 12), .inr (1, 13), .inr (36, 6), .inr (36, 7), .inr (36, 8), .inr (36, 9), .inr (36, 10), .inr (36, 11), .inr (36, 12), .inr (36, 13), .inr (43, 6), .inr (43, 7), .inr (43, 8), .inr (43, 9), .inr (43, 10), .inr (43, 11), .inr (43, 12), .inr (43, 13)], [(some hka09_177, hka09_418, []), (some hka09_76, hka09_420, [(34, hka09_380), (43, hka09_421), (44, hka09_321), (45, hka09_323), (46, hka09_35), (47, hka09_325), (48, hka09_321), (49, hka09_321)]), (some hka09_62, hka09_420, [(34, hka09_380), (43, hka09_421), (44, hka09_321), (45, hka09_323), (46, hka09_35), (47, hka09_325), (48, hka09_321), (49, hka09_321)]), (some hka09_76, hka09_422, [(34, hka09_380), (36, hka09_423), (37, hka09_321), (38, hka09_323), (39, hka09_35), (40, hka09_325), (41, hka09_321), (42, hka09_321)]), (some hka09_62, hka09_422, [(34, hka09_380), (36, hka09_423), (37, hka09_321), (38, hka09_323), (39, hka09_35), (40, hka09_325), (41, hka09_321), (42, hka09_321)]), (some hka09_177, hka09_424, [])])
def kan_758 : List ai_Nd := []
set_option maxRecDepth 1000000 in
theorem kak_758 : ai_ck [ka_756, ka_757] [(0, .inl 1, [.ofNat 0, .ofNat 1, .ofNat 2])] ka_758 [.inl 100000] kan_758 28 = true := by decide +kernel
theorem kah_758 : ai_holds ka_758 := ai_thm kak_758 (ai_cons kah_756 (ai_cons kah_757 ai_nil))
def hka09_425 : ai_N := (.ofNat 2, .ofNat 2147483647, [(0, .ofNat 0, .ofNat 0)])
def hka09_426 : ai_V := .inl (true, hka09_425)
/-- NeverAgainModel.in -/
def ka_759 : ai_K := (93, 0, ([hka09_417], [hka09_426, hka09_8, hka09_195, hka09_8, hka09_191, hka09_8], [], hka09_193), [.inl 0], [(some hka09_62, [hka09_417], [])])
def kan_759 : List ai_Nd := []
set_option maxRecDepth 1000000 in
theorem kak_759 : ai_ck [] [] ka_759 [.inl 100000] kan_759 11 = true := by decide +kernel
theorem kah_759 : ai_holds ka_759 := ai_thm kak_759 ai_nil
/-- NeverAgainModel.in -/
def ka_760 : ai_K := (93, 0, ([], [hka09_191, hka09_8, hka09_195, hka09_8, hka09_191, hka09_8], [], hka09_193), [], [(some hka09_76, [], [])])
def kan_760 : List ai_Nd := []
set_option maxRecDepth 1000000 in
theorem kak_760 : ai_ck [] [] ka_760 [.inl 100000] kan_760 12 = true := by decide +kernel
theorem kah_760 : ai_holds ka_760 := ai_thm kak_760 ai_nil
/-- NeverAgainModel.flag -/
def ka_761 : ai_K := (135, 0, ([hka09_2], [hka09_46], [], hka09_193), [.inl 0], [(some hka09_76, [hka09_2], []), (some hka09_62, [hka09_54], [])])
def kan_761 : List ai_Nd := []
set_option maxRecDepth 1000000 in
theorem kak_761 : ai_ck [] [] ka_761 [.inl 100000] kan_761 6 = true := by decide +kernel
theorem kah_761 : ai_holds ka_761 := ai_thm kak_761 ai_nil
def hka09_427 : ai_E := [hka09_0, hka09_1, hka09_128, hka09_42, hka09_5, hka09_2, hka09_42, hka09_209, hka09_210, hka09_210, hka09_210, hka09_211, hka09_2, hka09_129, hka09_210, hka09_212, hka09_2, hka09_5, hka09_3, hka09_213, hka09_214, hka09_215, hka09_4, hka09_5, hka09_3, hka09_213, hka09_214, hka09_215, hka09_4, hka09_5, hka09_3, hka09_213, hka09_214, hka09_215, hka09_4, hka09_5]
def hka09_428 : ai_N := (.ofNat 192, .ofNat 192, [])
def hka09_429 : ai_V := .inl (false, hka09_428)
def hka09_430 : ai_N := (.ofNat 0, .ofNat 12, [(2, .ofNat 0, .ofNat 0)])
def hka09_431 : ai_V := .inl (false, hka09_430)
def hka09_432 : ai_N := (.ofNat 0, .ofNat 4, [(4, .ofNat 0, .ofNat 0)])
def hka09_433 : ai_V := .inl (false, hka09_432)
def hka09_434 : ai_N := (.negSucc 3, .ofNat 3, [(7, .ofNat 0, .ofNat 0)])
def hka09_435 : ai_V := .inl (false, hka09_434)
def hka09_436 : ai_N := (.ofNat 0, .ofNat 400, [(8, .ofNat 0, .ofNat 0)])
def hka09_437 : ai_V := .inl (false, hka09_436)
def hka09_438 : ai_N := (.ofNat 0, .ofNat 400, [(9, .ofNat 0, .ofNat 0)])
def hka09_439 : ai_V := .inl (false, hka09_438)
def hka09_440 : ai_N := (.ofNat 0, .ofNat 400, [(10, .ofNat 0, .ofNat 0)])
def hka09_441 : ai_V := .inl (false, hka09_440)
def hka09_442 : ai_N := (.ofNat 0, .ofNat 3, [(11, .ofNat 0, .ofNat 0)])
def hka09_443 : ai_V := .inl (false, hka09_442)
def hka09_444 : ai_N := (.ofNat 0, .ofNat 6, [(13, .ofNat 0, .ofNat 0)])
def hka09_445 : ai_V := .inl (false, hka09_444)
def hka09_446 : ai_N := (.ofNat 0, .ofNat 400, [(14, .ofNat 0, .ofNat 0)])
def hka09_447 : ai_V := .inl (false, hka09_446)
def hka09_448 : ai_N := (.ofNat 0, .ofNat 130, [(15, .ofNat 0, .ofNat 0)])
def hka09_449 : ai_V := .inl (false, hka09_448)
def hka09_450 : ai_N := (.ofNat 0, .ofNat 4, [(17, .ofNat 0, .ofNat 0)])
def hka09_451 : ai_V := .inl (false, hka09_450)
def hka09_452 : ai_C := .inr (.inr (8, [hka09_218, hka09_219, hka09_17, hka09_19, hka09_224, hka09_225, hka09_431, hka09_228, hka09_66, hka09_433, hka09_231, hka09_50, hka09_230, hka09_435, hka09_234, hka09_437, hka09_439, hka09_441, hka09_443, hka09_121, hka09_445, hka09_447, hka09_247, hka09_449, hka09_250, hka09_251, hka09_168, hka09_254, hka09_255, hka09_256, hka09_257, hka09_258, hka09_259, hka09_451]))
def hka09_453 : Bool × Option ai_C := (false, some hka09_452)
def hka09_454 : ai_N := (.ofNat 0, .ofNat 60, [(18, .ofNat 0, .ofNat 0)])
def hka09_455 : ai_N := (.ofNat 0, .ofNat 20, [(19, .ofNat 0, .ofNat 0)])
def hka09_456 : ai_N := (.ofNat 0, .ofNat 1, [(20, .ofNat 0, .ofNat 0)])
def hka09_457 : ai_N := (.negSucc 3, .ofNat 2, [(21, .ofNat 0, .ofNat 0)])
def hka09_458 : ai_N := (.ofNat 0, .ofNat 5, [(22, .ofNat 0, .ofNat 0)])
def hka09_459 : ai_N := (.ofNat 0, .ofNat 4, [(23, .ofNat 0, .ofNat 0)])
def hka09_460 : ai_N := (.ofNat 0, .ofNat 60, [(24, .ofNat 0, .ofNat 0)])
def hka09_461 : ai_N := (.ofNat 0, .ofNat 20, [(25, .ofNat 0, .ofNat 0)])
def hka09_462 : ai_N := (.ofNat 0, .ofNat 1, [(26, .ofNat 0, .ofNat 0)])
def hka09_463 : ai_N := (.negSucc 3, .ofNat 2, [(27, .ofNat 0, .ofNat 0)])
def hka09_464 : ai_N := (.ofNat 0, .ofNat 5, [(28, .ofNat 0, .ofNat 0)])
def hka09_465 : ai_N := (.ofNat 0, .ofNat 4, [(29, .ofNat 0, .ofNat 0)])
def hka09_466 : ai_N := (.ofNat 0, .ofNat 60, [(30, .ofNat 0, .ofNat 0)])
def hka09_467 : ai_N := (.ofNat 0, .ofNat 20, [(31, .ofNat 0, .ofNat 0)])
def hka09_468 : ai_N := (.ofNat 0, .ofNat 1, [(32, .ofNat 0, .ofNat 0)])
def hka09_469 : ai_N := (.negSucc 3, .ofNat 2, [(33, .ofNat 0, .ofNat 0)])
def hka09_470 : ai_N := (.ofNat 0, .ofNat 5, [(34, .ofNat 0, .ofNat 0)])
def hka09_471 : ai_N := (.ofNat 0, .ofNat 4, [(35, .ofNat 0, .ofNat 0)])
def hka09_472 : ai_C := .inl (.int, [(1, hka09_454), (60, hka09_265), (17, hka09_266), (1, hka09_455), (1, hka09_456), (1, hka09_457), (1, hka09_458), (5, hka09_271), (1, hka09_459), (8, hka09_273), (1, hka09_460), (60, hka09_265), (17, hka09_266), (1, hka09_461), (1, hka09_462), (1, hka09_463), (1, hka09_464), (5, hka09_271), (1, hka09_465), (8, hka09_273), (1, hka09_466), (60, hka09_265), (17, hka09_266), (1, hka09_467), (1, hka09_468), (1, hka09_469), (1, hka09_470), (5, hka09_271), (1, hka09_471), (8, hka09_273)])
def hka09_473 : Bool × Option ai_C := (false, some hka09_472)
def hka09_474 : ai_W := [hka09_9, hka09_9, hka09_9, hka09_9, hka09_9, hka09_9, hka09_9, hka09_9, hka09_9, hka09_9, hka09_9, hka09_9, hka09_9, hka09_9, hka09_9, hka09_9, hka09_9, hka09_9, hka09_9, hka09_9, hka09_9, hka09_9, hka09_9, hka09_9, hka09_9, hka09_9, hka09_9, hka09_9, hka09_9, hka09_9, hka09_9, hka09_9, hka09_9, hka09_9, hka09_9, hka09_9, hka09_9, hka09_9, hka09_9, hka09_9, hka09_9, hka09_9, hka09_9, hka09_9, hka09_9, hka09_9, hka09_9, hka09_9, hka09_9, hka09_9, hka09_9, hka09_9, hka09_9, hka09_9, hka09_9, hka09_9, hka09_9, hka09_9, hka09_9, hka09_453, hka09_473, hka09_9, hka09_9, hka09_9, hka09_9, hka09_9, hka09_9, hka09_9, hka09_9, hka09_9, hka09_9, hka09_9, hka09_9, hka09_9, hka09_9, hka09_9]
def hka09_475 : ai_N := (.ofNat 0, .ofNat 20, [])
def hka09_476 : ai_N := (.negSucc 3, .ofNat 2, [])
def hka09_477 : ai_N := (.ofNat 0, .ofNat 5, [])
def hka09_478 : ai_C := .inl (.int, [(1, hka09_454), (60, hka09_265), (17, hka09_266), (1, hka09_455), (1, hka09_456), (1, hka09_457), (1, hka09_458), (5, hka09_271), (1, hka09_459), (8, hka09_273), (1, hka09_460), (60, hka09_265), (17, hka09_266), (1, hka09_461), (1, hka09_462), (1, hka09_463), (1, hka09_464), (5, hka09_271), (1, hka09_465), (8, hka09_273), (1, hka09_454), (60, hka09_265), (17, hka09_266), (1, hka09_475), (1, hka09_379), (1, hka09_476), (1, hka09_477), (5, hka09_271), (1, hka09_273), (8, hka09_273)])
/-- NeverAgainModel.copies -/
def ka_762 : ai_K := (145, 0, (hka09_427, [hka09_217, hka09_429, hka09_62, hka09_8], [], hka09_474), [.inr (59, 2), .inr (59, 3), .inr (59, 6), .inr (59, 8), .inr (59, 9), .inr (59, 11), .inr (59, 12), .inr (59, 13), .inr (59, 15), .inr (59, 16), .inr (59, 17), .inr (59, 18), .inr (59, 19), .inr (59, 20), .inr (59, 21), .inr (59, 23), .inr (59, 26), .inr (59, 33), .inr (60, 0), .inr (60, 78), .inr (60, 79), .inr (60, 80), .inr (60, 81), .inr (60, 87), .inr (60, 96), .inr (60, 174), .inr (60, 175), .inr (60, 176), .inr (60, 177), .inr (60, 183), .inr (60, 192), .inr (60, 270), .inr (60, 271), .inr (60, 272), .inr (60, 273), .inr (60, 279)], [(none, hka09_427, [(60, hka09_478)])])
def hka09_479 : ai_E := [hka09_0, hka09_1, hka09_128, hka09_42, hka09_5, hka09_2, hka09_42, hka09_209, hka09_210, hka09_210, hka09_210, hka09_211, hka09_2, hka09_129, hka09_210, hka09_212, hka09_2, hka09_5, hka09_3, hka09_213, hka09_214, hka09_215, hka09_4, hka09_5, hka09_3, hka09_213, hka09_214, hka09_215, hka09_4, hka09_5, hka09_3, hka09_213, hka09_214, hka09_215, hka09_4, hka09_5, hka09_54]
def hka09_480 : ai_N := (.ofNat 0, .ofNat 0, [(36, .ofNat 0, .ofNat 0)])
def hka09_481 : ai_V := .inl (false, hka09_480)
def hka09_482 : Int × Int := (.ofNat 1, .ofNat 60)
def hka09_483 : ai_E := [hka09_0, hka09_1, hka09_128, hka09_42, hka09_5, hka09_2, hka09_42, hka09_209, hka09_210, hka09_210, hka09_210, hka09_211, hka09_2, hka09_129, hka09_210, hka09_212, hka09_2, hka09_5, hka09_3, hka09_213, hka09_214, hka09_215, hka09_4, hka09_5, hka09_3, hka09_213, hka09_214, hka09_215, hka09_4, hka09_5, hka09_3, hka09_213, hka09_214, hka09_215, hka09_4, hka09_5, hka09_482]
def hka09_484 : ai_N := (.ofNat 1, .ofNat 60, [(36, .ofNat 0, .ofNat 0)])
def hka09_485 : ai_V := .inl (false, hka09_484)
def hka09_486 : ai_C := .inl (.int, [(1, hka09_454), (60, hka09_265), (17, hka09_266), (1, hka09_455), (1, hka09_456), (1, hka09_457), (1, hka09_458), (5, hka09_271), (1, hka09_459), (8, hka09_273), (1, hka09_460), (60, hka09_265), (17, hka09_266), (1, hka09_461), (1, hka09_462), (1, hka09_463), (1, hka09_464), (5, hka09_271), (1, hka09_465), (8, hka09_273), (1, hka09_454), (60, hka09_265), (17, hka09_266), (1, hka09_467), (1, hka09_468), (1, hka09_469), (1, hka09_470), (5, hka09_271), (1, hka09_471), (8, hka09_273)])
def hka09_487 : Bool × Option ai_C := (true, some hka09_486)
def hka09_488 : ai_W := [hka09_9, hka09_9, hka09_9, hka09_9, hka09_9, hka09_9, hka09_9, hka09_9, hka09_9, hka09_9, hka09_9, hka09_9, hka09_9, hka09_9, hka09_9, hka09_9, hka09_9, hka09_9, hka09_9, hka09_9, hka09_9, hka09_9, hka09_9, hka09_9, hka09_9, hka09_9, hka09_9, hka09_9, hka09_9, hka09_9, hka09_9, hka09_9, hka09_9, hka09_9, hka09_9, hka09_9, hka09_9, hka09_9, hka09_9, hka09_9, hka09_9, hka09_9, hka09_9, hka09_9, hka09_9, hka09_9, hka09_9, hka09_9, hka09_9, hka09_9, hka09_9, hka09_9, hka09_9, hka09_9, hka09_9, hka09_9, hka09_9, hka09_9, hka09_9, hka09_453, hka09_487, hka09_9, hka09_9, hka09_9, hka09_9, hka09_9, hka09_9, hka09_9, hka09_9, hka09_9, hka09_9, hka09_9, hka09_9, hka09_9, hka09_9, hka09_9]
def hka09_489 : Int × Int := (.ofNat 61, .ofNat 77)
def hka09_490 : ai_E := [hka09_0, hka09_1, hka09_128, hka09_42, hka09_5, hka09_2, hka09_42, hka09_209, hka09_210, hka09_210, hka09_210, hka09_211, hka09_2, hka09_129, hka09_210, hka09_212, hka09_2, hka09_5, hka09_3, hka09_213, hka09_214, hka09_215, hka09_4, hka09_5, hka09_3, hka09_213, hka09_214, hka09_215, hka09_4, hka09_5, hka09_3, hka09_213, hka09_214, hka09_215, hka09_4, hka09_5, hka09_489]
def hka09_491 : ai_N := (.ofNat 61, .ofNat 77, [(36, .ofNat 0, .ofNat 0)])
def hka09_492 : ai_V := .inl (false, hka09_491)
def hka09_493 : Int × Int := (.ofNat 88, .ofNat 95)
def hka09_494 : ai_E := [hka09_0, hka09_1, hka09_128, hka09_42, hka09_5, hka09_2, hka09_42, hka09_209, hka09_210, hka09_210, hka09_210, hka09_211, hka09_2, hka09_129, hka09_210, hka09_212, hka09_2, hka09_5, hka09_3, hka09_213, hka09_214, hka09_215, hka09_4, hka09_5, hka09_3, hka09_213, hka09_214, hka09_215, hka09_4, hka09_5, hka09_3, hka09_213, hka09_214, hka09_215, hka09_4, hka09_5, hka09_493]
def hka09_495 : ai_N := (.ofNat 88, .ofNat 95, [(36, .ofNat 0, .ofNat 0)])
def hka09_496 : ai_V := .inl (false, hka09_495)
def hka09_497 : Bool × Option ai_C := (true, some hka09_478)
def hka09_498 : ai_W := [hka09_9, hka09_9, hka09_9, hka09_9, hka09_9, hka09_9, hka09_9, hka09_9, hka09_9, hka09_9, hka09_9, hka09_9, hka09_9, hka09_9, hka09_9, hka09_9, hka09_9, hka09_9, hka09_9, hka09_9, hka09_9, hka09_9, hka09_9, hka09_9, hka09_9, hka09_9, hka09_9, hka09_9, hka09_9, hka09_9, hka09_9, hka09_9, hka09_9, hka09_9, hka09_9, hka09_9, hka09_9, hka09_9, hka09_9, hka09_9, hka09_9, hka09_9, hka09_9, hka09_9, hka09_9, hka09_9, hka09_9, hka09_9, hka09_9, hka09_9, hka09_9, hka09_9, hka09_9, hka09_9, hka09_9, hka09_9, hka09_9, hka09_9, hka09_9, hka09_453, hka09_497, hka09_9, hka09_9, hka09_9, hka09_9, hka09_9, hka09_9, hka09_9, hka09_9, hka09_9, hka09_9, hka09_9, hka09_9, hka09_9, hka09_9, hka09_9]
def hka09_499 : Int × Int := (.ofNat 96, .ofNat 96)
def hka09_500 : ai_E := [hka09_0, hka09_1, hka09_128, hka09_42, hka09_5, hka09_2, hka09_42, hka09_209, hka09_210, hka09_210, hka09_210, hka09_211, hka09_2, hka09_129, hka09_210, hka09_212, hka09_2, hka09_5, hka09_3, hka09_213, hka09_214, hka09_215, hka09_4, hka09_5, hka09_3, hka09_213, hka09_214, hka09_215, hka09_4, hka09_5, hka09_3, hka09_213, hka09_214, hka09_215, hka09_4, hka09_5, hka09_499]
def hka09_501 : ai_N := (.ofNat 96, .ofNat 96, [(36, .ofNat 0, .ofNat 0)])
def hka09_502 : ai_V := .inl (false, hka09_501)
def hka09_503 : Int × Int := (.ofNat 82, .ofNat 86)
def hka09_504 : ai_E := [hka09_0, hka09_1, hka09_128, hka09_42, hka09_5, hka09_2, hka09_42, hka09_209, hka09_210, hka09_210, hka09_210, hka09_211, hka09_2, hka09_129, hka09_210, hka09_212, hka09_2, hka09_5, hka09_3, hka09_213, hka09_214, hka09_215, hka09_4, hka09_5, hka09_3, hka09_213, hka09_214, hka09_215, hka09_4, hka09_5, hka09_3, hka09_213, hka09_214, hka09_215, hka09_4, hka09_5, hka09_503]
def hka09_505 : ai_N := (.ofNat 82, .ofNat 86, [(36, .ofNat 0, .ofNat 0)])
def hka09_506 : ai_V := .inl (false, hka09_505)
def hka09_507 : ai_C := .inl (.int, [(1, hka09_454), (60, hka09_265), (17, hka09_266), (1, hka09_455), (1, hka09_456), (1, hka09_457), (1, hka09_458), (5, hka09_271), (1, hka09_459), (8, hka09_273), (1, hka09_460), (60, hka09_265), (17, hka09_266), (1, hka09_461), (1, hka09_462), (1, hka09_463), (1, hka09_464), (5, hka09_271), (1, hka09_465), (8, hka09_273), (1, hka09_454), (60, hka09_265), (17, hka09_266), (1, hka09_475), (1, hka09_379), (1, hka09_476), (1, hka09_477), (5, hka09_271), (1, hka09_471), (8, hka09_273)])
def hka09_508 : Bool × Option ai_C := (true, some hka09_507)
def hka09_509 : ai_W := [hka09_9, hka09_9, hka09_9, hka09_9, hka09_9, hka09_9, hka09_9, hka09_9, hka09_9, hka09_9, hka09_9, hka09_9, hka09_9, hka09_9, hka09_9, hka09_9, hka09_9, hka09_9, hka09_9, hka09_9, hka09_9, hka09_9, hka09_9, hka09_9, hka09_9, hka09_9, hka09_9, hka09_9, hka09_9, hka09_9, hka09_9, hka09_9, hka09_9, hka09_9, hka09_9, hka09_9, hka09_9, hka09_9, hka09_9, hka09_9, hka09_9, hka09_9, hka09_9, hka09_9, hka09_9, hka09_9, hka09_9, hka09_9, hka09_9, hka09_9, hka09_9, hka09_9, hka09_9, hka09_9, hka09_9, hka09_9, hka09_9, hka09_9, hka09_9, hka09_453, hka09_508, hka09_9, hka09_9, hka09_9, hka09_9, hka09_9, hka09_9, hka09_9, hka09_9, hka09_9, hka09_9, hka09_9, hka09_9, hka09_9, hka09_9, hka09_9]
def hka09_510 : Int × Int := (.ofNat 87, .ofNat 87)
def hka09_511 : ai_E := [hka09_0, hka09_1, hka09_128, hka09_42, hka09_5, hka09_2, hka09_42, hka09_209, hka09_210, hka09_210, hka09_210, hka09_211, hka09_2, hka09_129, hka09_210, hka09_212, hka09_2, hka09_5, hka09_3, hka09_213, hka09_214, hka09_215, hka09_4, hka09_5, hka09_3, hka09_213, hka09_214, hka09_215, hka09_4, hka09_5, hka09_3, hka09_213, hka09_214, hka09_215, hka09_4, hka09_5, hka09_510]
def hka09_512 : ai_N := (.ofNat 87, .ofNat 87, [(36, .ofNat 0, .ofNat 0)])
def hka09_513 : ai_V := .inl (false, hka09_512)
def hka09_514 : Int × Int := (.ofNat 81, .ofNat 81)
def hka09_515 : ai_E := [hka09_0, hka09_1, hka09_128, hka09_42, hka09_5, hka09_2, hka09_42, hka09_209, hka09_210, hka09_210, hka09_210, hka09_211, hka09_2, hka09_129, hka09_210, hka09_212, hka09_2, hka09_5, hka09_3, hka09_213, hka09_214, hka09_215, hka09_4, hka09_5, hka09_3, hka09_213, hka09_214, hka09_215, hka09_4, hka09_5, hka09_3, hka09_213, hka09_214, hka09_215, hka09_4, hka09_5, hka09_514]
def hka09_516 : ai_N := (.ofNat 81, .ofNat 81, [(36, .ofNat 0, .ofNat 0)])
def hka09_517 : ai_V := .inl (false, hka09_516)
def hka09_518 : ai_C := .inl (.int, [(1, hka09_454), (60, hka09_265), (17, hka09_266), (1, hka09_455), (1, hka09_456), (1, hka09_457), (1, hka09_458), (5, hka09_271), (1, hka09_459), (8, hka09_273), (1, hka09_460), (60, hka09_265), (17, hka09_266), (1, hka09_461), (1, hka09_462), (1, hka09_463), (1, hka09_464), (5, hka09_271), (1, hka09_465), (8, hka09_273), (1, hka09_454), (60, hka09_265), (17, hka09_266), (1, hka09_455), (1, hka09_456), (1, hka09_457), (1, hka09_470), (5, hka09_271), (1, hka09_471), (8, hka09_273)])
def hka09_519 : Bool × Option ai_C := (true, some hka09_518)
def hka09_520 : ai_W := [hka09_9, hka09_9, hka09_9, hka09_9, hka09_9, hka09_9, hka09_9, hka09_9, hka09_9, hka09_9, hka09_9, hka09_9, hka09_9, hka09_9, hka09_9, hka09_9, hka09_9, hka09_9, hka09_9, hka09_9, hka09_9, hka09_9, hka09_9, hka09_9, hka09_9, hka09_9, hka09_9, hka09_9, hka09_9, hka09_9, hka09_9, hka09_9, hka09_9, hka09_9, hka09_9, hka09_9, hka09_9, hka09_9, hka09_9, hka09_9, hka09_9, hka09_9, hka09_9, hka09_9, hka09_9, hka09_9, hka09_9, hka09_9, hka09_9, hka09_9, hka09_9, hka09_9, hka09_9, hka09_9, hka09_9, hka09_9, hka09_9, hka09_9, hka09_9, hka09_453, hka09_519, hka09_9, hka09_9, hka09_9, hka09_9, hka09_9, hka09_9, hka09_9, hka09_9, hka09_9, hka09_9, hka09_9, hka09_9, hka09_9, hka09_9, hka09_9]
def hka09_521 : Int × Int := (.ofNat 80, .ofNat 80)
def hka09_522 : ai_E := [hka09_0, hka09_1, hka09_128, hka09_42, hka09_5, hka09_2, hka09_42, hka09_209, hka09_210, hka09_210, hka09_210, hka09_211, hka09_2, hka09_129, hka09_210, hka09_212, hka09_2, hka09_5, hka09_3, hka09_213, hka09_214, hka09_215, hka09_4, hka09_5, hka09_3, hka09_213, hka09_214, hka09_215, hka09_4, hka09_5, hka09_3, hka09_213, hka09_214, hka09_215, hka09_4, hka09_5, hka09_521]
def hka09_523 : ai_N := (.ofNat 80, .ofNat 80, [(36, .ofNat 0, .ofNat 0)])
def hka09_524 : ai_V := .inl (false, hka09_523)
def hka09_525 : ai_C := .inl (.int, [(1, hka09_454), (60, hka09_265), (17, hka09_266), (1, hka09_455), (1, hka09_456), (1, hka09_457), (1, hka09_458), (5, hka09_271), (1, hka09_459), (8, hka09_273), (1, hka09_460), (60, hka09_265), (17, hka09_266), (1, hka09_461), (1, hka09_462), (1, hka09_463), (1, hka09_464), (5, hka09_271), (1, hka09_465), (8, hka09_273), (1, hka09_454), (60, hka09_265), (17, hka09_266), (1, hka09_455), (1, hka09_456), (1, hka09_469), (1, hka09_470), (5, hka09_271), (1, hka09_471), (8, hka09_273)])
def hka09_526 : Bool × Option ai_C := (true, some hka09_525)
def hka09_527 : ai_W := [hka09_9, hka09_9, hka09_9, hka09_9, hka09_9, hka09_9, hka09_9, hka09_9, hka09_9, hka09_9, hka09_9, hka09_9, hka09_9, hka09_9, hka09_9, hka09_9, hka09_9, hka09_9, hka09_9, hka09_9, hka09_9, hka09_9, hka09_9, hka09_9, hka09_9, hka09_9, hka09_9, hka09_9, hka09_9, hka09_9, hka09_9, hka09_9, hka09_9, hka09_9, hka09_9, hka09_9, hka09_9, hka09_9, hka09_9, hka09_9, hka09_9, hka09_9, hka09_9, hka09_9, hka09_9, hka09_9, hka09_9, hka09_9, hka09_9, hka09_9, hka09_9, hka09_9, hka09_9, hka09_9, hka09_9, hka09_9, hka09_9, hka09_9, hka09_9, hka09_453, hka09_526, hka09_9, hka09_9, hka09_9, hka09_9, hka09_9, hka09_9, hka09_9, hka09_9, hka09_9, hka09_9, hka09_9, hka09_9, hka09_9, hka09_9, hka09_9]
def hka09_528 : Int × Int := (.ofNat 79, .ofNat 79)
def hka09_529 : ai_E := [hka09_0, hka09_1, hka09_128, hka09_42, hka09_5, hka09_2, hka09_42, hka09_209, hka09_210, hka09_210, hka09_210, hka09_211, hka09_2, hka09_129, hka09_210, hka09_212, hka09_2, hka09_5, hka09_3, hka09_213, hka09_214, hka09_215, hka09_4, hka09_5, hka09_3, hka09_213, hka09_214, hka09_215, hka09_4, hka09_5, hka09_3, hka09_213, hka09_214, hka09_215, hka09_4, hka09_5, hka09_528]
def hka09_530 : ai_N := (.ofNat 79, .ofNat 79, [(36, .ofNat 0, .ofNat 0)])
def hka09_531 : ai_V := .inl (false, hka09_530)
def hka09_532 : ai_C := .inl (.int, [(1, hka09_454), (60, hka09_265), (17, hka09_266), (1, hka09_455), (1, hka09_456), (1, hka09_457), (1, hka09_458), (5, hka09_271), (1, hka09_459), (8, hka09_273), (1, hka09_460), (60, hka09_265), (17, hka09_266), (1, hka09_461), (1, hka09_462), (1, hka09_463), (1, hka09_464), (5, hka09_271), (1, hka09_465), (8, hka09_273), (1, hka09_454), (60, hka09_265), (17, hka09_266), (1, hka09_455), (1, hka09_468), (1, hka09_469), (1, hka09_470), (5, hka09_271), (1, hka09_471), (8, hka09_273)])
def hka09_533 : Bool × Option ai_C := (true, some hka09_532)
def hka09_534 : ai_W := [hka09_9, hka09_9, hka09_9, hka09_9, hka09_9, hka09_9, hka09_9, hka09_9, hka09_9, hka09_9, hka09_9, hka09_9, hka09_9, hka09_9, hka09_9, hka09_9, hka09_9, hka09_9, hka09_9, hka09_9, hka09_9, hka09_9, hka09_9, hka09_9, hka09_9, hka09_9, hka09_9, hka09_9, hka09_9, hka09_9, hka09_9, hka09_9, hka09_9, hka09_9, hka09_9, hka09_9, hka09_9, hka09_9, hka09_9, hka09_9, hka09_9, hka09_9, hka09_9, hka09_9, hka09_9, hka09_9, hka09_9, hka09_9, hka09_9, hka09_9, hka09_9, hka09_9, hka09_9, hka09_9, hka09_9, hka09_9, hka09_9, hka09_9, hka09_9, hka09_453, hka09_533, hka09_9, hka09_9, hka09_9, hka09_9, hka09_9, hka09_9, hka09_9, hka09_9, hka09_9, hka09_9, hka09_9, hka09_9, hka09_9, hka09_9, hka09_9]
def hka09_535 : Int × Int := (.ofNat 78, .ofNat 78)
def hka09_536 : ai_E := [hka09_0, hka09_1, hka09_128, hka09_42, hka09_5, hka09_2, hka09_42, hka09_209, hka09_210, hka09_210, hka09_210, hka09_211, hka09_2, hka09_129, hka09_210, hka09_212, hka09_2, hka09_5, hka09_3, hka09_213, hka09_214, hka09_215, hka09_4, hka09_5, hka09_3, hka09_213, hka09_214, hka09_215, hka09_4, hka09_5, hka09_3, hka09_213, hka09_214, hka09_215, hka09_4, hka09_5, hka09_535]
def hka09_537 : ai_N := (.ofNat 78, .ofNat 78, [(36, .ofNat 0, .ofNat 0)])
def hka09_538 : ai_V := .inl (false, hka09_537)
def kan_762 : List ai_Nd := [(2, (hka09_479, [hka09_217, hka09_429, hka09_62, hka09_481], [], hka09_474), [.inl 3], [.inl 99997, .inl 11, .inr (true, .ofNat 96, 36), .inl 100000]), (2, (hka09_483, [hka09_217, hka09_429, hka09_62, hka09_485], [], hka09_488), [.inl 3], [.inl 99997, .inl 10, .inr (true, .ofNat 96, 36), .inl 100000]), (2, (hka09_490, [hka09_217, hka09_429, hka09_62, hka09_492], [], hka09_488), [.inl 3], [.inl 99997, .inl 9, .inr (true, .ofNat 96, 36), .inl 100000]), (2, (hka09_494, [hka09_217, hka09_429, hka09_62, hka09_496], [], hka09_498), [.inl 3], [.inl 99997, .inl 2, .inr (true, .ofNat 96, 36), .inl 100000]), (2, (hka09_500, [hka09_217, hka09_429, hka09_62, hka09_502], [], hka09_498), [.inl 3], [.inl 99997, .inl 1, .inr (true, .ofNat 96, 36), .inl 100000]), (2, (hka09_504, [hka09_217, hka09_429, hka09_62, hka09_506], [], hka09_509), [.inl 3], [.inl 99997, .inl 4, .inr (true, .ofNat 96, 36), .inl 100000]), (2, (hka09_511, [hka09_217, hka09_429, hka09_62, hka09_513], [], hka09_509), [.inl 3], [.inl 99997, .inl 3, .inr (true, .ofNat 96, 36), .inl 100000]), (2, (hka09_515, [hka09_217, hka09_429, hka09_62, hka09_517], [], hka09_520), [.inl 3], [.inl 99997, .inl 5, .inr (true, .ofNat 96, 36), .inl 100000]), (2, (hka09_522, [hka09_217, hka09_429, hka09_62, hka09_524], [], hka09_527), [.inl 3], [.inl 99997, .inl 6, .inr (true, .ofNat 96, 36), .inl 100000]), (2, (hka09_529, [hka09_217, hka09_429, hka09_62, hka09_531], [], hka09_534), [.inl 3], [.inl 99997, .inl 7, .inr (true, .ofNat 96, 36), .inl 100000]), (2, (hka09_536, [hka09_217, hka09_429, hka09_62, hka09_538], [], hka09_488), [.inl 3], [.inl 99997, .inl 8, .inr (true, .ofNat 96, 36), .inl 100000])]
set_option maxRecDepth 1000000 in
theorem kak_762 : ai_ck [] [(2, .inl 3, [.ofNat 1, .ofNat 61, .ofNat 78, .ofNat 79, .ofNat 80, .ofNat 81, .ofNat 82, .ofNat 87, .ofNat 88, .ofNat 96])] ka_762 [.inl 100000, .inl 0, .inl 0, .inl 0] kan_762 19 = true := by decide +kernel
theorem kah_762 : ai_holds ka_762 := ai_thm kak_762 ai_nil
/-- NeverAgainModel.in -/
def ka_763 : ai_K := (93, 0, ([], [hka09_195, hka09_8, hka09_195, hka09_8, hka09_191, hka09_8], [], hka09_193), [], [(some hka09_76, [], [])])
def kan_763 : List ai_Nd := []
set_option maxRecDepth 1000000 in
theorem kak_763 : ai_ck [] [] ka_763 [.inl 100000] kan_763 12 = true := by decide +kernel
theorem kah_763 : ai_holds ka_763 := ai_thm kak_763 ai_nil
def hka09_539 : ai_N := (.ofNat 96, .ofNat 96, [])
def hka09_540 : ai_V := .inl (false, hka09_539)
def hka09_541 : ai_C := .inl (.int, [(1, hka09_454), (60, hka09_265), (17, hka09_266), (1, hka09_455), (1, hka09_456), (1, hka09_457), (1, hka09_458), (5, hka09_271), (1, hka09_459), (8, hka09_273), (1, hka09_454), (60, hka09_265), (17, hka09_266), (1, hka09_475), (1, hka09_379), (1, hka09_476), (1, hka09_477), (5, hka09_271), (1, hka09_273), (8, hka09_273), (1, hka09_466), (60, hka09_265), (17, hka09_266), (1, hka09_467), (1, hka09_468), (1, hka09_469), (1, hka09_470), (5, hka09_271), (1, hka09_471), (8, hka09_273)])
/-- NeverAgainModel.copies -/
def ka_764 : ai_K := (145, 0, (hka09_427, [hka09_217, hka09_540, hka09_62, hka09_8], [], hka09_474), [.inr (59, 2), .inr (59, 3), .inr (59, 6), .inr (59, 8), .inr (59, 9), .inr (59, 11), .inr (59, 12), .inr (59, 13), .inr (59, 15), .inr (59, 16), .inr (59, 17), .inr (59, 18), .inr (59, 19), .inr (59, 20), .inr (59, 21), .inr (59, 23), .inr (59, 26), .inr (59, 33), .inr (60, 0), .inr (60, 78), .inr (60, 79), .inr (60, 80), .inr (60, 81), .inr (60, 87), .inr (60, 96), .inr (60, 174), .inr (60, 175), .inr (60, 176), .inr (60, 177), .inr (60, 183), .inr (60, 192), .inr (60, 270), .inr (60, 271), .inr (60, 272), .inr (60, 273), .inr (60, 279)], [(none, hka09_427, [(60, hka09_541)])])
def hka09_542 : ai_C := .inl (.int, [(1, hka09_454), (60, hka09_265), (17, hka09_266), (1, hka09_455), (1, hka09_456), (1, hka09_457), (1, hka09_458), (5, hka09_271), (1, hka09_459), (8, hka09_273), (1, hka09_454), (60, hka09_265), (17, hka09_266), (1, hka09_461), (1, hka09_462), (1, hka09_463), (1, hka09_464), (5, hka09_271), (1, hka09_465), (8, hka09_273), (1, hka09_466), (60, hka09_265), (17, hka09_266), (1, hka09_467), (1, hka09_468), (1, hka09_469), (1, hka09_470), (5, hka09_271), (1, hka09_471), (8, hka09_273)])
def hka09_543 : Bool × Option ai_C := (true, some hka09_542)
def hka09_544 : ai_W := [hka09_9, hka09_9, hka09_9, hka09_9, hka09_9, hka09_9, hka09_9, hka09_9, hka09_9, hka09_9, hka09_9, hka09_9, hka09_9, hka09_9, hka09_9, hka09_9, hka09_9, hka09_9, hka09_9, hka09_9, hka09_9, hka09_9, hka09_9, hka09_9, hka09_9, hka09_9, hka09_9, hka09_9, hka09_9, hka09_9, hka09_9, hka09_9, hka09_9, hka09_9, hka09_9, hka09_9, hka09_9, hka09_9, hka09_9, hka09_9, hka09_9, hka09_9, hka09_9, hka09_9, hka09_9, hka09_9, hka09_9, hka09_9, hka09_9, hka09_9, hka09_9, hka09_9, hka09_9, hka09_9, hka09_9, hka09_9, hka09_9, hka09_9, hka09_9, hka09_453, hka09_543, hka09_9, hka09_9, hka09_9, hka09_9, hka09_9, hka09_9, hka09_9, hka09_9, hka09_9, hka09_9, hka09_9, hka09_9, hka09_9, hka09_9, hka09_9]
def hka09_545 : Bool × Option ai_C := (true, some hka09_541)
def hka09_546 : ai_W := [hka09_9, hka09_9, hka09_9, hka09_9, hka09_9, hka09_9, hka09_9, hka09_9, hka09_9, hka09_9, hka09_9, hka09_9, hka09_9, hka09_9, hka09_9, hka09_9, hka09_9, hka09_9, hka09_9, hka09_9, hka09_9, hka09_9, hka09_9, hka09_9, hka09_9, hka09_9, hka09_9, hka09_9, hka09_9, hka09_9, hka09_9, hka09_9, hka09_9, hka09_9, hka09_9, hka09_9, hka09_9, hka09_9, hka09_9, hka09_9, hka09_9, hka09_9, hka09_9, hka09_9, hka09_9, hka09_9, hka09_9, hka09_9, hka09_9, hka09_9, hka09_9, hka09_9, hka09_9, hka09_9, hka09_9, hka09_9, hka09_9, hka09_9, hka09_9, hka09_453, hka09_545, hka09_9, hka09_9, hka09_9, hka09_9, hka09_9, hka09_9, hka09_9, hka09_9, hka09_9, hka09_9, hka09_9, hka09_9, hka09_9, hka09_9, hka09_9]
def hka09_547 : ai_C := .inl (.int, [(1, hka09_454), (60, hka09_265), (17, hka09_266), (1, hka09_455), (1, hka09_456), (1, hka09_457), (1, hka09_458), (5, hka09_271), (1, hka09_459), (8, hka09_273), (1, hka09_454), (60, hka09_265), (17, hka09_266), (1, hka09_475), (1, hka09_379), (1, hka09_476), (1, hka09_477), (5, hka09_271), (1, hka09_465), (8, hka09_273), (1, hka09_466), (60, hka09_265), (17, hka09_266), (1, hka09_467), (1, hka09_468), (1, hka09_469), (1, hka09_470), (5, hka09_271), (1, hka09_471), (8, hka09_273)])
def hka09_548 : Bool × Option ai_C := (true, some hka09_547)
def hka09_549 : ai_W := [hka09_9, hka09_9, hka09_9, hka09_9, hka09_9, hka09_9, hka09_9, hka09_9, hka09_9, hka09_9, hka09_9, hka09_9, hka09_9, hka09_9, hka09_9, hka09_9, hka09_9, hka09_9, hka09_9, hka09_9, hka09_9, hka09_9, hka09_9, hka09_9, hka09_9, hka09_9, hka09_9, hka09_9, hka09_9, hka09_9, hka09_9, hka09_9, hka09_9, hka09_9, hka09_9, hka09_9, hka09_9, hka09_9, hka09_9, hka09_9, hka09_9, hka09_9, hka09_9, hka09_9, hka09_9, hka09_9, hka09_9, hka09_9, hka09_9, hka09_9, hka09_9, hka09_9, hka09_9, hka09_9, hka09_9, hka09_9, hka09_9, hka09_9, hka09_9, hka09_453, hka09_548, hka09_9, hka09_9, hka09_9, hka09_9, hka09_9, hka09_9, hka09_9, hka09_9, hka09_9, hka09_9, hka09_9, hka09_9, hka09_9, hka09_9, hka09_9]
def hka09_550 : ai_C := .inl (.int, [(1, hka09_454), (60, hka09_265), (17, hka09_266), (1, hka09_455), (1, hka09_456), (1, hka09_457), (1, hka09_458), (5, hka09_271), (1, hka09_459), (8, hka09_273), (1, hka09_454), (60, hka09_265), (17, hka09_266), (1, hka09_455), (1, hka09_456), (1, hka09_457), (1, hka09_464), (5, hka09_271), (1, hka09_465), (8, hka09_273), (1, hka09_466), (60, hka09_265), (17, hka09_266), (1, hka09_467), (1, hka09_468), (1, hka09_469), (1, hka09_470), (5, hka09_271), (1, hka09_471), (8, hka09_273)])
def hka09_551 : Bool × Option ai_C := (true, some hka09_550)
def hka09_552 : ai_W := [hka09_9, hka09_9, hka09_9, hka09_9, hka09_9, hka09_9, hka09_9, hka09_9, hka09_9, hka09_9, hka09_9, hka09_9, hka09_9, hka09_9, hka09_9, hka09_9, hka09_9, hka09_9, hka09_9, hka09_9, hka09_9, hka09_9, hka09_9, hka09_9, hka09_9, hka09_9, hka09_9, hka09_9, hka09_9, hka09_9, hka09_9, hka09_9, hka09_9, hka09_9, hka09_9, hka09_9, hka09_9, hka09_9, hka09_9, hka09_9, hka09_9, hka09_9, hka09_9, hka09_9, hka09_9, hka09_9, hka09_9, hka09_9, hka09_9, hka09_9, hka09_9, hka09_9, hka09_9, hka09_9, hka09_9, hka09_9, hka09_9, hka09_9, hka09_9, hka09_453, hka09_551, hka09_9, hka09_9, hka09_9, hka09_9, hka09_9, hka09_9, hka09_9, hka09_9, hka09_9, hka09_9, hka09_9, hka09_9, hka09_9, hka09_9, hka09_9]
def hka09_553 : ai_C := .inl (.int, [(1, hka09_454), (60, hka09_265), (17, hka09_266), (1, hka09_455), (1, hka09_456), (1, hka09_457), (1, hka09_458), (5, hka09_271), (1, hka09_459), (8, hka09_273), (1, hka09_454), (60, hka09_265), (17, hka09_266), (1, hka09_455), (1, hka09_456), (1, hka09_463), (1, hka09_464), (5, hka09_271), (1, hka09_465), (8, hka09_273), (1, hka09_466), (60, hka09_265), (17, hka09_266), (1, hka09_467), (1, hka09_468), (1, hka09_469), (1, hka09_470), (5, hka09_271), (1, hka09_471), (8, hka09_273)])
def hka09_554 : Bool × Option ai_C := (true, some hka09_553)
def hka09_555 : ai_W := [hka09_9, hka09_9, hka09_9, hka09_9, hka09_9, hka09_9, hka09_9, hka09_9, hka09_9, hka09_9, hka09_9, hka09_9, hka09_9, hka09_9, hka09_9, hka09_9, hka09_9, hka09_9, hka09_9, hka09_9, hka09_9, hka09_9, hka09_9, hka09_9, hka09_9, hka09_9, hka09_9, hka09_9, hka09_9, hka09_9, hka09_9, hka09_9, hka09_9, hka09_9, hka09_9, hka09_9, hka09_9, hka09_9, hka09_9, hka09_9, hka09_9, hka09_9, hka09_9, hka09_9, hka09_9, hka09_9, hka09_9, hka09_9, hka09_9, hka09_9, hka09_9, hka09_9, hka09_9, hka09_9, hka09_9, hka09_9, hka09_9, hka09_9, hka09_9, hka09_453, hka09_554, hka09_9, hka09_9, hka09_9, hka09_9, hka09_9, hka09_9, hka09_9, hka09_9, hka09_9, hka09_9, hka09_9, hka09_9, hka09_9, hka09_9, hka09_9]
def hka09_556 : ai_C := .inl (.int, [(1, hka09_454), (60, hka09_265), (17, hka09_266), (1, hka09_455), (1, hka09_456), (1, hka09_457), (1, hka09_458), (5, hka09_271), (1, hka09_459), (8, hka09_273), (1, hka09_454), (60, hka09_265), (17, hka09_266), (1, hka09_455), (1, hka09_462), (1, hka09_463), (1, hka09_464), (5, hka09_271), (1, hka09_465), (8, hka09_273), (1, hka09_466), (60, hka09_265), (17, hka09_266), (1, hka09_467), (1, hka09_468), (1, hka09_469), (1, hka09_470), (5, hka09_271), (1, hka09_471), (8, hka09_273)])
def hka09_557 : Bool × Option ai_C := (true, some hka09_556)
def hka09_558 : ai_W := [hka09_9, hka09_9, hka09_9, hka09_9, hka09_9, hka09_9, hka09_9, hka09_9, hka09_9, hka09_9, hka09_9, hka09_9, hka09_9, hka09_9, hka09_9, hka09_9, hka09_9, hka09_9, hka09_9, hka09_9, hka09_9, hka09_9, hka09_9, hka09_9, hka09_9, hka09_9, hka09_9, hka09_9, hka09_9, hka09_9, hka09_9, hka09_9, hka09_9, hka09_9, hka09_9, hka09_9, hka09_9, hka09_9, hka09_9, hka09_9, hka09_9, hka09_9, hka09_9, hka09_9, hka09_9, hka09_9, hka09_9, hka09_9, hka09_9, hka09_9, hka09_9, hka09_9, hka09_9, hka09_9, hka09_9, hka09_9, hka09_9, hka09_9, hka09_9, hka09_453, hka09_557, hka09_9, hka09_9, hka09_9, hka09_9, hka09_9, hka09_9, hka09_9, hka09_9, hka09_9, hka09_9, hka09_9, hka09_9, hka09_9, hka09_9, hka09_9]
def kan_764 : List ai_Nd := [(2, (hka09_479, [hka09_217, hka09_540, hka09_62, hka09_481], [], hka09_474), [.inl 3], [.inl 99997, .inl 11, .inr (true, .ofNat 96, 36), .inl 100000]), (2, (hka09_483, [hka09_217, hka09_540, hka09_62, hka09_485], [], hka09_544), [.inl 3], [.inl 99997, .inl 10, .inr (true, .ofNat 96, 36), .inl 100000]), (2, (hka09_490, [hka09_217, hka09_540, hka09_62, hka09_492], [], hka09_544), [.inl 3], [.inl 99997, .inl 9, .inr (true, .ofNat 96, 36), .inl 100000]), (2, (hka09_494, [hka09_217, hka09_540, hka09_62, hka09_496], [], hka09_546), [.inl 3], [.inl 99997, .inl 2, .inr (true, .ofNat 96, 36), .inl 100000]), (2, (hka09_500, [hka09_217, hka09_540, hka09_62, hka09_502], [], hka09_546), [.inl 3], [.inl 99997, .inl 1, .inr (true, .ofNat 96, 36), .inl 100000]), (2, (hka09_504, [hka09_217, hka09_540, hka09_62, hka09_506], [], hka09_549), [.inl 3], [.inl 99997, .inl 4, .inr (true, .ofNat 96, 36), .inl 100000]), (2, (hka09_511, [hka09_217, hka09_540, hka09_62, hka09_513], [], hka09_549), [.inl 3], [.inl 99997, .inl 3, .inr (true, .ofNat 96, 36), .inl 100000]), (2, (hka09_515, [hka09_217, hka09_540, hka09_62, hka09_517], [], hka09_552), [.inl 3], [.inl 99997, .inl 5, .inr (true, .ofNat 96, 36), .inl 100000]), (2, (hka09_522, [hka09_217, hka09_540, hka09_62, hka09_524], [], hka09_555), [.inl 3], [.inl 99997, .inl 6, .inr (true, .ofNat 96, 36), .inl 100000]), (2, (hka09_529, [hka09_217, hka09_540, hka09_62, hka09_531], [], hka09_558), [.inl 3], [.inl 99997, .inl 7, .inr (true, .ofNat 96, 36), .inl 100000]), (2, (hka09_536, [hka09_217, hka09_540, hka09_62, hka09_538], [], hka09_544), [.inl 3], [.inl 99997, .inl 8, .inr (true, .ofNat 96, 36), .inl 100000])]
set_option maxRecDepth 1000000 in
theorem kak_764 : ai_ck [] [(2, .inl 3, [.ofNat 1, .ofNat 61, .ofNat 78, .ofNat 79, .ofNat 80, .ofNat 81, .ofNat 82, .ofNat 87, .ofNat 88, .ofNat 96])] ka_764 [.inl 100000, .inl 0, .inl 0, .inl 0] kan_764 19 = true := by decide +kernel
theorem kah_764 : ai_holds ka_764 := ai_thm kak_764 ai_nil
def hka09_559 : ai_N := (.negSucc 2147483647, .negSucc 0, [(0, .ofNat 0, .ofNat 0)])
def hka09_560 : ai_V := .inl (true, hka09_559)
/-- NeverAgainModel.in -/
def ka_765 : ai_K := (93, 0, ([hka09_201], [hka09_560, hka09_8, hka09_195, hka09_8, hka09_191, hka09_8], [], hka09_193), [.inl 0], [(some hka09_62, [hka09_201], [])])
def kan_765 : List ai_Nd := []
set_option maxRecDepth 1000000 in
theorem kak_765 : ai_ck [] [] ka_765 [.inl 100000] kan_765 7 = true := by decide +kernel
theorem kah_765 : ai_holds ka_765 := ai_thm kak_765 ai_nil
def hka09_561 : ai_E := [hka09_2, hka09_0, hka09_1, hka09_128, hka09_42, hka09_5, hka09_2, hka09_42, hka09_209, hka09_210, hka09_210, hka09_210, hka09_211, hka09_2, hka09_129, hka09_210, hka09_212, hka09_2, hka09_5, hka09_3, hka09_213, hka09_214, hka09_215, hka09_4, hka09_5, hka09_3, hka09_213, hka09_214, hka09_215, hka09_4, hka09_5, hka09_3, hka09_213, hka09_214, hka09_215, hka09_4, hka09_5]
def hka09_562 : ai_N := (.ofNat 0, .ofNat 16, [(4, .ofNat 0, .ofNat 0)])
def hka09_563 : ai_V := .inl (false, hka09_562)
def hka09_564 : ai_N := (.ofNat 0, .ofNat 16, [(7, .ofNat 0, .ofNat 0)])
def hka09_565 : ai_V := .inl (false, hka09_564)
def hka09_566 : ai_N := (.negSucc 3, .ofNat 3, [(8, .ofNat 0, .ofNat 0)])
def hka09_567 : ai_V := .inl (false, hka09_566)
def hka09_568 : ai_N := (.ofNat 0, .ofNat 3, [(12, .ofNat 0, .ofNat 0)])
def hka09_569 : ai_V := .inl (false, hka09_568)
def hka09_570 : ai_N := (.ofNat 0, .ofNat 6, [(14, .ofNat 0, .ofNat 0)])
def hka09_571 : ai_V := .inl (false, hka09_570)
def hka09_572 : ai_N := (.ofNat 0, .ofNat 400, [(15, .ofNat 0, .ofNat 0)])
def hka09_573 : ai_V := .inl (false, hka09_572)
def hka09_574 : ai_N := (.ofNat 0, .ofNat 130, [(16, .ofNat 0, .ofNat 0)])
def hka09_575 : ai_V := .inl (false, hka09_574)
def hka09_576 : ai_N := (.ofNat 0, .ofNat 4, [(18, .ofNat 0, .ofNat 0)])
def hka09_577 : ai_V := .inl (false, hka09_576)
def hka09_578 : ai_C := .inr (.inr (8, [hka09_218, hka09_219, hka09_103, hka09_105, hka09_224, hka09_225, hka09_142, hka09_228, hka09_563, hka09_146, hka09_231, hka09_68, hka09_565, hka09_567, hka09_234, hka09_439, hka09_441, hka09_236, hka09_569, hka09_123, hka09_571, hka09_573, hka09_247, hka09_575, hka09_250, hka09_251, hka09_170, hka09_254, hka09_255, hka09_256, hka09_257, hka09_258, hka09_259, hka09_577]))
def hka09_579 : Bool × Option ai_C := (false, some hka09_578)
def hka09_580 : ai_N := (.ofNat 0, .ofNat 60, [(19, .ofNat 0, .ofNat 0)])
def hka09_581 : ai_N := (.ofNat 0, .ofNat 20, [(20, .ofNat 0, .ofNat 0)])
def hka09_582 : ai_N := (.ofNat 0, .ofNat 1, [(21, .ofNat 0, .ofNat 0)])
def hka09_583 : ai_N := (.negSucc 3, .ofNat 2, [(22, .ofNat 0, .ofNat 0)])
def hka09_584 : ai_N := (.ofNat 0, .ofNat 5, [(23, .ofNat 0, .ofNat 0)])
def hka09_585 : ai_N := (.ofNat 0, .ofNat 4, [(24, .ofNat 0, .ofNat 0)])
def hka09_586 : ai_N := (.ofNat 0, .ofNat 20, [(26, .ofNat 0, .ofNat 0)])
def hka09_587 : ai_N := (.ofNat 0, .ofNat 1, [(27, .ofNat 0, .ofNat 0)])
def hka09_588 : ai_N := (.negSucc 3, .ofNat 2, [(28, .ofNat 0, .ofNat 0)])
def hka09_589 : ai_N := (.ofNat 0, .ofNat 5, [(29, .ofNat 0, .ofNat 0)])
def hka09_590 : ai_N := (.ofNat 0, .ofNat 4, [(30, .ofNat 0, .ofNat 0)])
def hka09_591 : ai_N := (.ofNat 0, .ofNat 60, [(31, .ofNat 0, .ofNat 0)])
def hka09_592 : ai_N := (.ofNat 0, .ofNat 20, [(32, .ofNat 0, .ofNat 0)])
def hka09_593 : ai_N := (.ofNat 0, .ofNat 1, [(33, .ofNat 0, .ofNat 0)])
def hka09_594 : ai_N := (.negSucc 3, .ofNat 2, [(34, .ofNat 0, .ofNat 0)])
def hka09_595 : ai_N := (.ofNat 0, .ofNat 5, [(35, .ofNat 0, .ofNat 0)])
def hka09_596 : ai_N := (.ofNat 0, .ofNat 4, [(36, .ofNat 0, .ofNat 0)])
def hka09_597 : ai_C := .inl (.int, [(1, hka09_580), (60, hka09_265), (17, hka09_266), (1, hka09_581), (1, hka09_582), (1, hka09_583), (1, hka09_584), (5, hka09_271), (1, hka09_585), (8, hka09_273), (1, hka09_408), (60, hka09_265), (17, hka09_266), (1, hka09_586), (1, hka09_587), (1, hka09_588), (1, hka09_589), (5, hka09_271), (1, hka09_590), (8, hka09_273), (1, hka09_591), (60, hka09_265), (17, hka09_266), (1, hka09_592), (1, hka09_593), (1, hka09_594), (1, hka09_595), (5, hka09_271), (1, hka09_596), (8, hka09_273)])
def hka09_598 : Bool × Option ai_C := (false, some hka09_597)
def hka09_599 : ai_W := [hka09_9, hka09_9, hka09_9, hka09_9, hka09_9, hka09_9, hka09_9, hka09_9, hka09_9, hka09_9, hka09_9, hka09_9, hka09_9, hka09_9, hka09_9, hka09_9, hka09_9, hka09_9, hka09_9, hka09_9, hka09_9, hka09_9, hka09_9, hka09_9, hka09_9, hka09_9, hka09_9, hka09_9, hka09_9, hka09_9, hka09_9, hka09_9, hka09_9, hka09_9, hka09_9, hka09_9, hka09_9, hka09_9, hka09_9, hka09_9, hka09_9, hka09_9, hka09_9, hka09_9, hka09_9, hka09_9, hka09_9, hka09_9, hka09_9, hka09_9, hka09_9, hka09_9, hka09_9, hka09_9, hka09_9, hka09_9, hka09_9, hka09_9, hka09_9, hka09_579, hka09_598, hka09_381, hka09_9, hka09_9, hka09_9, hka09_9, hka09_9, hka09_9, hka09_9, hka09_9, hka09_9, hka09_9, hka09_9, hka09_9, hka09_9, hka09_9]
def hka09_600 : ai_E := [hka09_417, hka09_0, hka09_1, hka09_128, hka09_42, hka09_5, hka09_2, hka09_42, hka09_209, hka09_210, hka09_210, hka09_210, hka09_211, hka09_2, hka09_129, hka09_210, hka09_212, hka09_2, hka09_5, hka09_3, hka09_213, hka09_214, hka09_215, hka09_4, hka09_5, hka09_3, hka09_213, hka09_214, hka09_215, hka09_4, hka09_5, hka09_3, hka09_213, hka09_214, hka09_215, hka09_4, hka09_5]
def hka09_601 : ai_E := [hka09_419, hka09_0, hka09_1, hka09_128, hka09_42, hka09_5, hka09_2, hka09_42, hka09_209, hka09_210, hka09_210, hka09_210, hka09_211, hka09_2, hka09_129, hka09_210, hka09_212, hka09_2, hka09_5, hka09_3, hka09_213, hka09_214, hka09_215, hka09_4, hka09_5, hka09_3, hka09_213, hka09_214, hka09_215, hka09_4, hka09_5, hka09_3, hka09_213, hka09_214, hka09_215, hka09_4, hka09_5]
def hka09_602 : ai_C := .inl (.int, [(1, hka09_580), (60, hka09_265), (17, hka09_266), (1, hka09_581), (1, hka09_582), (1, hka09_583), (1, hka09_584), (5, hka09_271), (1, hka09_585), (8, hka09_273), (1, hka09_408), (60, hka09_265), (17, hka09_266), (1, hka09_586), (1, hka09_587), (1, hka09_588), (1, hka09_589), (5, hka09_271), (1, hka09_590), (8, hka09_273), (1, hka09_580), (60, hka09_265), (17, hka09_266), (1, hka09_475), (1, hka09_379), (1, hka09_476), (1, hka09_477), (5, hka09_271), (1, hka09_273), (8, hka09_273)])
def hka09_603 : ai_E := [hka09_54, hka09_0, hka09_1, hka09_128, hka09_42, hka09_5, hka09_2, hka09_42, hka09_209, hka09_210, hka09_210, hka09_210, hka09_211, hka09_2, hka09_129, hka09_210, hka09_212, hka09_2, hka09_5, hka09_3, hka09_213, hka09_214, hka09_215, hka09_4, hka09_5, hka09_3, hka09_213, hka09_214, hka09_215, hka09_4, hka09_5, hka09_3, hka09_213, hka09_214, hka09_215, hka09_4, hka09_5]
def hka09_604 : ai_C := .inl (.int, [(1, hka09_580), (60, hka09_265), (17, hka09_266), (1, hka09_581), (1, hka09_582), (1, hka09_583), (1, hka09_584), (5, hka09_271), (1, hka09_585), (8, hka09_273), (1, hka09_580), (60, hka09_265), (17, hka09_266), (1, hka09_475), (1, hka09_379), (1, hka09_476), (1, hka09_477), (5, hka09_271), (1, hka09_273), (8, hka09_273), (1, hka09_591), (60, hka09_265), (17, hka09_266), (1, hka09_592), (1, hka09_593), (1, hka09_594), (1, hka09_595), (5, hka09_271), (1, hka09_596), (8, hka09_273)])
def hka09_605 : ai_E := [hka09_201, hka09_0, hka09_1, hka09_128, hka09_42, hka09_5, hka09_2, hka09_42, hka09_209, hka09_210, hka09_210, hka09_210, hka09_211, hka09_2, hka09_129, hka09_210, hka09_212, hka09_2, hka09_5, hka09_3, hka09_213, hka09_214, hka09_215, hka09_4, hka09_5, hka09_3, hka09_213, hka09_214, hka09_215, hka09_4, hka09_5, hka09_3, hka09_213, hka09_214, hka09_215, hka09_4, hka09_5]
/-- NeverAgainModel.keep -/
def ka_766 : ai_K := (70, 1, (hka09_561, [hka09_217, hka09_46, hka09_8], [], hka09_599), [.inl 1, .inr (59, 2), .inr (59, 3), .inr (59, 6), .inr (59, 8), .inr (59, 9), .inr (59, 11), .inr (59, 12), .inr (59, 13), .inr (59, 15), .inr (59, 16), .inr (59, 17), .inr (59, 18), .inr (59, 19), .inr (59, 20), .inr (59, 21), .inr (59, 23), .inr (59, 26), .inr (59, 33), .inr (60, 0), .inr (60, 78), .inr (60, 79), .inr (60, 80), .inr (60, 81), .inr (60, 87), .inr (60, 96), .inr (60, 174), .inr (60, 175), .inr (60, 176), .inr (60, 177), .inr (60, 183), .inr (60, 192), .inr (60, 270), .inr (60, 271), .inr (60, 272), .inr (60, 273), .inr (60, 279)], [(some hka09_177, hka09_600, []), (some hka09_62, hka09_601, [(60, hka09_602), (61, hka09_380)]), (some hka09_76, hka09_601, [(60, hka09_602), (61, hka09_380)]), (some hka09_62, hka09_603, [(60, hka09_604), (61, hka09_380)]), (some hka09_76, hka09_603, [(60, hka09_604), (61, hka09_380)]), (some hka09_177, hka09_605, [])])
def kan_766 : List ai_Nd := []
set_option maxRecDepth 1000000 in
theorem kak_766 : ai_ck [ka_761, ka_760, ka_763, ka_759, ka_765, ka_762, ka_764] [(0, .inl 1, [.ofNat 0, .ofNat 1, .ofNat 2])] ka_766 [.inl 100000] kan_766 28 = true := by decide +kernel
theorem kah_766 : ai_holds ka_766 := ai_thm kak_766 (ai_cons kah_761 (ai_cons kah_760 (ai_cons kah_763 (ai_cons kah_759 (ai_cons kah_765 (ai_cons kah_762 (ai_cons kah_764 ai_nil)))))))
def hka09_606 : ai_C := .inr (.inr (6, [hka09_10, hka09_11, hka09_12, hka09_13, hka09_14, hka09_15, hka09_334, hka09_336, hka09_117, hka09_119, hka09_121, hka09_338, hka09_340, hka09_342]))
/-- NeverAgain$Told.copyOf -/
def ka_767 : ai_K := (144, 0, (hka09_319, [hka09_7, hka09_320], [], hka09_345), [.inr (1, 6), .inr (1, 7), .inr (1, 8), .inr (1, 9), .inr (1, 10), .inr (1, 11), .inr (1, 12), .inr (1, 13), .inr (43, 6), .inr (43, 7), .inr (43, 8), .inr (43, 9), .inr (43, 10), .inr (43, 11), .inr (43, 12), .inr (43, 13)], [(none, hka09_319, [(1, hka09_606), (2, hka09_321), (3, hka09_323), (4, hka09_35), (5, hka09_325), (6, hka09_321), (7, hka09_321)])])
def kan_767 : List ai_Nd := []
set_option maxRecDepth 1000000 in
theorem kak_767 : ai_ck [] [] ka_767 [.inl 100000] kan_767 82 = true := by decide +kernel
theorem kah_767 : ai_holds ka_767 := ai_thm kak_767 ai_nil
/-- NeverAgain$Told.copyOf -/
def ka_768 : ai_K := (144, 0, (hka09_319, [hka09_7, hka09_347], [], hka09_356), [.inr (1, 6), .inr (1, 7), .inr (1, 8), .inr (1, 9), .inr (1, 10), .inr (1, 11), .inr (1, 12), .inr (1, 13), .inr (36, 6), .inr (36, 7), .inr (36, 8), .inr (36, 9), .inr (36, 10), .inr (36, 11), .inr (36, 12), .inr (36, 13)], [(none, hka09_319, [(1, hka09_606), (2, hka09_321), (3, hka09_323), (4, hka09_35), (5, hka09_325), (6, hka09_321), (7, hka09_321)])])
def kan_768 : List ai_Nd := []
set_option maxRecDepth 1000000 in
theorem kak_768 : ai_ck [] [] ka_768 [.inl 100000] kan_768 82 = true := by decide +kernel
theorem kah_768 : ai_holds ka_768 := ai_thm kak_768 ai_nil
def hka09_607 : ai_N := (.negSucc 1, .negSucc 1, [])
def hka09_608 : ai_V := .inl (false, hka09_607)
def hka09_609 : ai_C := .inr (.inr (6, [hka09_10, hka09_11, hka09_12, hka09_13, hka09_14, hka09_15, hka09_399, hka09_401, hka09_403, hka09_405, hka09_407, hka09_409, hka09_411, hka09_413]))
def hka09_610 : ai_C := .inr (.inr (6, [hka09_10, hka09_11, hka09_12, hka09_13, hka09_14, hka09_15, hka09_385, hka09_387, hka09_389, hka09_166, hka09_168, hka09_391, hka09_393, hka09_395]))
/-- NeverAgain.back -/
def ka_769 : ai_K := (71, 1, (hka09_358, [hka09_131, hka09_46], [], hka09_416), [.inl 1, .inr (0, 11), .inr (0, 12), .inr (0, 13), .inr (1, 6), .inr (1, 7), .inr (1, 8), .inr (1, 9), .inr (1, 10), .inr (1, 11), .inr (1, 12), .inr (1, 13), .inr (36, 6), .inr (36, 7), .inr (36, 8), .inr (36, 9), .inr (36, 10), .inr (36, 11), .inr (36, 12), .inr (36, 13), .inr (43, 6), .inr (43, 7), .inr (43, 8), .inr (43, 9), .inr (43, 10), .inr (43, 11), .inr (43, 12), .inr (43, 13)], [(some hka09_177, hka09_418, []), (some hka09_608, hka09_420, []), (some hka09_409, hka09_420, [(1, hka09_609), (2, hka09_321), (3, hka09_323), (4, hka09_35), (5, hka09_325), (6, hka09_321), (7, hka09_321)]), (some hka09_608, hka09_422, []), (some hka09_391, hka09_422, [(1, hka09_610), (2, hka09_321), (3, hka09_323), (4, hka09_35), (5, hka09_325), (6, hka09_321), (7, hka09_321)]), (some hka09_177, hka09_424, [])])
def kan_769 : List ai_Nd := []
set_option maxRecDepth 1000000 in
theorem kak_769 : ai_ck [ka_767, ka_768] [(0, .inl 1, [.ofNat 0, .ofNat 1, .ofNat 2])] ka_769 [.inl 100000] kan_769 22 = true := by decide +kernel
theorem kah_769 : ai_holds ka_769 := ai_thm kak_769 (ai_cons kah_767 (ai_cons kah_768 ai_nil))
def hka09_611 : ai_C := .inl (.int, [(1, hka09_466), (60, hka09_265), (17, hka09_266), (1, hka09_475), (1, hka09_379), (1, hka09_476), (1, hka09_477), (5, hka09_271), (1, hka09_273), (8, hka09_273), (1, hka09_460), (60, hka09_265), (17, hka09_266), (1, hka09_461), (1, hka09_462), (1, hka09_463), (1, hka09_464), (5, hka09_271), (1, hka09_465), (8, hka09_273), (1, hka09_466), (60, hka09_265), (17, hka09_266), (1, hka09_467), (1, hka09_468), (1, hka09_469), (1, hka09_470), (5, hka09_271), (1, hka09_471), (8, hka09_273)])
/-- NeverAgainModel.copies -/
def ka_770 : ai_K := (145, 0, (hka09_427, [hka09_217, hka09_62, hka09_429, hka09_8], [], hka09_474), [.inr (59, 2), .inr (59, 3), .inr (59, 6), .inr (59, 8), .inr (59, 9), .inr (59, 11), .inr (59, 12), .inr (59, 13), .inr (59, 15), .inr (59, 16), .inr (59, 17), .inr (59, 18), .inr (59, 19), .inr (59, 20), .inr (59, 21), .inr (59, 23), .inr (59, 26), .inr (59, 33), .inr (60, 0), .inr (60, 78), .inr (60, 79), .inr (60, 80), .inr (60, 81), .inr (60, 87), .inr (60, 96), .inr (60, 174), .inr (60, 175), .inr (60, 176), .inr (60, 177), .inr (60, 183), .inr (60, 192), .inr (60, 270), .inr (60, 271), .inr (60, 272), .inr (60, 273), .inr (60, 279)], [(none, hka09_427, [(60, hka09_611)])])
def hka09_612 : ai_C := .inl (.int, [(1, hka09_466), (60, hka09_265), (17, hka09_266), (1, hka09_455), (1, hka09_456), (1, hka09_457), (1, hka09_458), (5, hka09_271), (1, hka09_459), (8, hka09_273), (1, hka09_460), (60, hka09_265), (17, hka09_266), (1, hka09_461), (1, hka09_462), (1, hka09_463), (1, hka09_464), (5, hka09_271), (1, hka09_465), (8, hka09_273), (1, hka09_466), (60, hka09_265), (17, hka09_266), (1, hka09_467), (1, hka09_468), (1, hka09_469), (1, hka09_470), (5, hka09_271), (1, hka09_471), (8, hka09_273)])
def hka09_613 : Bool × Option ai_C := (true, some hka09_612)
def hka09_614 : ai_W := [hka09_9, hka09_9, hka09_9, hka09_9, hka09_9, hka09_9, hka09_9, hka09_9, hka09_9, hka09_9, hka09_9, hka09_9, hka09_9, hka09_9, hka09_9, hka09_9, hka09_9, hka09_9, hka09_9, hka09_9, hka09_9, hka09_9, hka09_9, hka09_9, hka09_9, hka09_9, hka09_9, hka09_9, hka09_9, hka09_9, hka09_9, hka09_9, hka09_9, hka09_9, hka09_9, hka09_9, hka09_9, hka09_9, hka09_9, hka09_9, hka09_9, hka09_9, hka09_9, hka09_9, hka09_9, hka09_9, hka09_9, hka09_9, hka09_9, hka09_9, hka09_9, hka09_9, hka09_9, hka09_9, hka09_9, hka09_9, hka09_9, hka09_9, hka09_9, hka09_453, hka09_613, hka09_9, hka09_9, hka09_9, hka09_9, hka09_9, hka09_9, hka09_9, hka09_9, hka09_9, hka09_9, hka09_9, hka09_9, hka09_9, hka09_9, hka09_9]
def hka09_615 : Bool × Option ai_C := (true, some hka09_611)
def hka09_616 : ai_W := [hka09_9, hka09_9, hka09_9, hka09_9, hka09_9, hka09_9, hka09_9, hka09_9, hka09_9, hka09_9, hka09_9, hka09_9, hka09_9, hka09_9, hka09_9, hka09_9, hka09_9, hka09_9, hka09_9, hka09_9, hka09_9, hka09_9, hka09_9, hka09_9, hka09_9, hka09_9, hka09_9, hka09_9, hka09_9, hka09_9, hka09_9, hka09_9, hka09_9, hka09_9, hka09_9, hka09_9, hka09_9, hka09_9, hka09_9, hka09_9, hka09_9, hka09_9, hka09_9, hka09_9, hka09_9, hka09_9, hka09_9, hka09_9, hka09_9, hka09_9, hka09_9, hka09_9, hka09_9, hka09_9, hka09_9, hka09_9, hka09_9, hka09_9, hka09_9, hka09_453, hka09_615, hka09_9, hka09_9, hka09_9, hka09_9, hka09_9, hka09_9, hka09_9, hka09_9, hka09_9, hka09_9, hka09_9, hka09_9, hka09_9, hka09_9, hka09_9]
def hka09_617 : ai_C := .inl (.int, [(1, hka09_466), (60, hka09_265), (17, hka09_266), (1, hka09_475), (1, hka09_379), (1, hka09_476), (1, hka09_477), (5, hka09_271), (1, hka09_459), (8, hka09_273), (1, hka09_460), (60, hka09_265), (17, hka09_266), (1, hka09_461), (1, hka09_462), (1, hka09_463), (1, hka09_464), (5, hka09_271), (1, hka09_465), (8, hka09_273), (1, hka09_466), (60, hka09_265), (17, hka09_266), (1, hka09_467), (1, hka09_468), (1, hka09_469), (1, hka09_470), (5, hka09_271), (1, hka09_471), (8, hka09_273)])
def hka09_618 : Bool × Option ai_C := (true, some hka09_617)
def hka09_619 : ai_W := [hka09_9, hka09_9, hka09_9, hka09_9, hka09_9, hka09_9, hka09_9, hka09_9, hka09_9, hka09_9, hka09_9, hka09_9, hka09_9, hka09_9, hka09_9, hka09_9, hka09_9, hka09_9, hka09_9, hka09_9, hka09_9, hka09_9, hka09_9, hka09_9, hka09_9, hka09_9, hka09_9, hka09_9, hka09_9, hka09_9, hka09_9, hka09_9, hka09_9, hka09_9, hka09_9, hka09_9, hka09_9, hka09_9, hka09_9, hka09_9, hka09_9, hka09_9, hka09_9, hka09_9, hka09_9, hka09_9, hka09_9, hka09_9, hka09_9, hka09_9, hka09_9, hka09_9, hka09_9, hka09_9, hka09_9, hka09_9, hka09_9, hka09_9, hka09_9, hka09_453, hka09_618, hka09_9, hka09_9, hka09_9, hka09_9, hka09_9, hka09_9, hka09_9, hka09_9, hka09_9, hka09_9, hka09_9, hka09_9, hka09_9, hka09_9, hka09_9]
def hka09_620 : ai_C := .inl (.int, [(1, hka09_466), (60, hka09_265), (17, hka09_266), (1, hka09_467), (1, hka09_468), (1, hka09_469), (1, hka09_458), (5, hka09_271), (1, hka09_459), (8, hka09_273), (1, hka09_460), (60, hka09_265), (17, hka09_266), (1, hka09_461), (1, hka09_462), (1, hka09_463), (1, hka09_464), (5, hka09_271), (1, hka09_465), (8, hka09_273), (1, hka09_466), (60, hka09_265), (17, hka09_266), (1, hka09_467), (1, hka09_468), (1, hka09_469), (1, hka09_470), (5, hka09_271), (1, hka09_471), (8, hka09_273)])
def hka09_621 : Bool × Option ai_C := (true, some hka09_620)
def hka09_622 : ai_W := [hka09_9, hka09_9, hka09_9, hka09_9, hka09_9, hka09_9, hka09_9, hka09_9, hka09_9, hka09_9, hka09_9, hka09_9, hka09_9, hka09_9, hka09_9, hka09_9, hka09_9, hka09_9, hka09_9, hka09_9, hka09_9, hka09_9, hka09_9, hka09_9, hka09_9, hka09_9, hka09_9, hka09_9, hka09_9, hka09_9, hka09_9, hka09_9, hka09_9, hka09_9, hka09_9, hka09_9, hka09_9, hka09_9, hka09_9, hka09_9, hka09_9, hka09_9, hka09_9, hka09_9, hka09_9, hka09_9, hka09_9, hka09_9, hka09_9, hka09_9, hka09_9, hka09_9, hka09_9, hka09_9, hka09_9, hka09_9, hka09_9, hka09_9, hka09_9, hka09_453, hka09_621, hka09_9, hka09_9, hka09_9, hka09_9, hka09_9, hka09_9, hka09_9, hka09_9, hka09_9, hka09_9, hka09_9, hka09_9, hka09_9, hka09_9, hka09_9]
def hka09_623 : ai_C := .inl (.int, [(1, hka09_466), (60, hka09_265), (17, hka09_266), (1, hka09_467), (1, hka09_468), (1, hka09_457), (1, hka09_458), (5, hka09_271), (1, hka09_459), (8, hka09_273), (1, hka09_460), (60, hka09_265), (17, hka09_266), (1, hka09_461), (1, hka09_462), (1, hka09_463), (1, hka09_464), (5, hka09_271), (1, hka09_465), (8, hka09_273), (1, hka09_466), (60, hka09_265), (17, hka09_266), (1, hka09_467), (1, hka09_468), (1, hka09_469), (1, hka09_470), (5, hka09_271), (1, hka09_471), (8, hka09_273)])
def hka09_624 : Bool × Option ai_C := (true, some hka09_623)
def hka09_625 : ai_W := [hka09_9, hka09_9, hka09_9, hka09_9, hka09_9, hka09_9, hka09_9, hka09_9, hka09_9, hka09_9, hka09_9, hka09_9, hka09_9, hka09_9, hka09_9, hka09_9, hka09_9, hka09_9, hka09_9, hka09_9, hka09_9, hka09_9, hka09_9, hka09_9, hka09_9, hka09_9, hka09_9, hka09_9, hka09_9, hka09_9, hka09_9, hka09_9, hka09_9, hka09_9, hka09_9, hka09_9, hka09_9, hka09_9, hka09_9, hka09_9, hka09_9, hka09_9, hka09_9, hka09_9, hka09_9, hka09_9, hka09_9, hka09_9, hka09_9, hka09_9, hka09_9, hka09_9, hka09_9, hka09_9, hka09_9, hka09_9, hka09_9, hka09_9, hka09_9, hka09_453, hka09_624, hka09_9, hka09_9, hka09_9, hka09_9, hka09_9, hka09_9, hka09_9, hka09_9, hka09_9, hka09_9, hka09_9, hka09_9, hka09_9, hka09_9, hka09_9]
def hka09_626 : ai_C := .inl (.int, [(1, hka09_466), (60, hka09_265), (17, hka09_266), (1, hka09_467), (1, hka09_456), (1, hka09_457), (1, hka09_458), (5, hka09_271), (1, hka09_459), (8, hka09_273), (1, hka09_460), (60, hka09_265), (17, hka09_266), (1, hka09_461), (1, hka09_462), (1, hka09_463), (1, hka09_464), (5, hka09_271), (1, hka09_465), (8, hka09_273), (1, hka09_466), (60, hka09_265), (17, hka09_266), (1, hka09_467), (1, hka09_468), (1, hka09_469), (1, hka09_470), (5, hka09_271), (1, hka09_471), (8, hka09_273)])
def hka09_627 : Bool × Option ai_C := (true, some hka09_626)
def hka09_628 : ai_W := [hka09_9, hka09_9, hka09_9, hka09_9, hka09_9, hka09_9, hka09_9, hka09_9, hka09_9, hka09_9, hka09_9, hka09_9, hka09_9, hka09_9, hka09_9, hka09_9, hka09_9, hka09_9, hka09_9, hka09_9, hka09_9, hka09_9, hka09_9, hka09_9, hka09_9, hka09_9, hka09_9, hka09_9, hka09_9, hka09_9, hka09_9, hka09_9, hka09_9, hka09_9, hka09_9, hka09_9, hka09_9, hka09_9, hka09_9, hka09_9, hka09_9, hka09_9, hka09_9, hka09_9, hka09_9, hka09_9, hka09_9, hka09_9, hka09_9, hka09_9, hka09_9, hka09_9, hka09_9, hka09_9, hka09_9, hka09_9, hka09_9, hka09_9, hka09_9, hka09_453, hka09_627, hka09_9, hka09_9, hka09_9, hka09_9, hka09_9, hka09_9, hka09_9, hka09_9, hka09_9, hka09_9, hka09_9, hka09_9, hka09_9, hka09_9, hka09_9]
def kan_770 : List ai_Nd := [(2, (hka09_479, [hka09_217, hka09_62, hka09_429, hka09_481], [], hka09_474), [.inl 3], [.inl 99997, .inl 11, .inr (true, .ofNat 96, 36), .inl 100000]), (2, (hka09_483, [hka09_217, hka09_62, hka09_429, hka09_485], [], hka09_614), [.inl 3], [.inl 99997, .inl 10, .inr (true, .ofNat 96, 36), .inl 100000]), (2, (hka09_490, [hka09_217, hka09_62, hka09_429, hka09_492], [], hka09_614), [.inl 3], [.inl 99997, .inl 9, .inr (true, .ofNat 96, 36), .inl 100000]), (2, (hka09_494, [hka09_217, hka09_62, hka09_429, hka09_496], [], hka09_616), [.inl 3], [.inl 99997, .inl 2, .inr (true, .ofNat 96, 36), .inl 100000]), (2, (hka09_500, [hka09_217, hka09_62, hka09_429, hka09_502], [], hka09_616), [.inl 3], [.inl 99997, .inl 1, .inr (true, .ofNat 96, 36), .inl 100000]), (2, (hka09_504, [hka09_217, hka09_62, hka09_429, hka09_506], [], hka09_619), [.inl 3], [.inl 99997, .inl 4, .inr (true, .ofNat 96, 36), .inl 100000]), (2, (hka09_511, [hka09_217, hka09_62, hka09_429, hka09_513], [], hka09_619), [.inl 3], [.inl 99997, .inl 3, .inr (true, .ofNat 96, 36), .inl 100000]), (2, (hka09_515, [hka09_217, hka09_62, hka09_429, hka09_517], [], hka09_622), [.inl 3], [.inl 99997, .inl 5, .inr (true, .ofNat 96, 36), .inl 100000]), (2, (hka09_522, [hka09_217, hka09_62, hka09_429, hka09_524], [], hka09_625), [.inl 3], [.inl 99997, .inl 6, .inr (true, .ofNat 96, 36), .inl 100000]), (2, (hka09_529, [hka09_217, hka09_62, hka09_429, hka09_531], [], hka09_628), [.inl 3], [.inl 99997, .inl 7, .inr (true, .ofNat 96, 36), .inl 100000]), (2, (hka09_536, [hka09_217, hka09_62, hka09_429, hka09_538], [], hka09_614), [.inl 3], [.inl 99997, .inl 8, .inr (true, .ofNat 96, 36), .inl 100000])]
set_option maxRecDepth 1000000 in
theorem kak_770 : ai_ck [] [(2, .inl 3, [.ofNat 1, .ofNat 61, .ofNat 78, .ofNat 79, .ofNat 80, .ofNat 81, .ofNat 82, .ofNat 87, .ofNat 88, .ofNat 96])] ka_770 [.inl 100000, .inl 0, .inl 0, .inl 0] kan_770 19 = true := by decide +kernel
theorem kah_770 : ai_holds ka_770 := ai_thm kak_770 ai_nil
def hka09_629 : ai_C := .inl (.int, [(1, hka09_460), (60, hka09_265), (17, hka09_266), (1, hka09_475), (1, hka09_379), (1, hka09_476), (1, hka09_477), (5, hka09_271), (1, hka09_273), (8, hka09_273), (1, hka09_460), (60, hka09_265), (17, hka09_266), (1, hka09_461), (1, hka09_462), (1, hka09_463), (1, hka09_464), (5, hka09_271), (1, hka09_465), (8, hka09_273), (1, hka09_466), (60, hka09_265), (17, hka09_266), (1, hka09_467), (1, hka09_468), (1, hka09_469), (1, hka09_470), (5, hka09_271), (1, hka09_471), (8, hka09_273)])
/-- NeverAgainModel.copies -/
def ka_771 : ai_K := (145, 0, (hka09_427, [hka09_217, hka09_62, hka09_540, hka09_8], [], hka09_474), [.inr (59, 2), .inr (59, 3), .inr (59, 6), .inr (59, 8), .inr (59, 9), .inr (59, 11), .inr (59, 12), .inr (59, 13), .inr (59, 15), .inr (59, 16), .inr (59, 17), .inr (59, 18), .inr (59, 19), .inr (59, 20), .inr (59, 21), .inr (59, 23), .inr (59, 26), .inr (59, 33), .inr (60, 0), .inr (60, 78), .inr (60, 79), .inr (60, 80), .inr (60, 81), .inr (60, 87), .inr (60, 96), .inr (60, 174), .inr (60, 175), .inr (60, 176), .inr (60, 177), .inr (60, 183), .inr (60, 192), .inr (60, 270), .inr (60, 271), .inr (60, 272), .inr (60, 273), .inr (60, 279)], [(none, hka09_427, [(60, hka09_629)])])
def hka09_630 : ai_C := .inl (.int, [(1, hka09_460), (60, hka09_265), (17, hka09_266), (1, hka09_455), (1, hka09_456), (1, hka09_457), (1, hka09_458), (5, hka09_271), (1, hka09_459), (8, hka09_273), (1, hka09_460), (60, hka09_265), (17, hka09_266), (1, hka09_461), (1, hka09_462), (1, hka09_463), (1, hka09_464), (5, hka09_271), (1, hka09_465), (8, hka09_273), (1, hka09_466), (60, hka09_265), (17, hka09_266), (1, hka09_467), (1, hka09_468), (1, hka09_469), (1, hka09_470), (5, hka09_271), (1, hka09_471), (8, hka09_273)])
def hka09_631 : Bool × Option ai_C := (true, some hka09_630)
def hka09_632 : ai_W := [hka09_9, hka09_9, hka09_9, hka09_9, hka09_9, hka09_9, hka09_9, hka09_9, hka09_9, hka09_9, hka09_9, hka09_9, hka09_9, hka09_9, hka09_9, hka09_9, hka09_9, hka09_9, hka09_9, hka09_9, hka09_9, hka09_9, hka09_9, hka09_9, hka09_9, hka09_9, hka09_9, hka09_9, hka09_9, hka09_9, hka09_9, hka09_9, hka09_9, hka09_9, hka09_9, hka09_9, hka09_9, hka09_9, hka09_9, hka09_9, hka09_9, hka09_9, hka09_9, hka09_9, hka09_9, hka09_9, hka09_9, hka09_9, hka09_9, hka09_9, hka09_9, hka09_9, hka09_9, hka09_9, hka09_9, hka09_9, hka09_9, hka09_9, hka09_9, hka09_453, hka09_631, hka09_9, hka09_9, hka09_9, hka09_9, hka09_9, hka09_9, hka09_9, hka09_9, hka09_9, hka09_9, hka09_9, hka09_9, hka09_9, hka09_9, hka09_9]
def hka09_633 : Bool × Option ai_C := (true, some hka09_629)
def hka09_634 : ai_W := [hka09_9, hka09_9, hka09_9, hka09_9, hka09_9, hka09_9, hka09_9, hka09_9, hka09_9, hka09_9, hka09_9, hka09_9, hka09_9, hka09_9, hka09_9, hka09_9, hka09_9, hka09_9, hka09_9, hka09_9, hka09_9, hka09_9, hka09_9, hka09_9, hka09_9, hka09_9, hka09_9, hka09_9, hka09_9, hka09_9, hka09_9, hka09_9, hka09_9, hka09_9, hka09_9, hka09_9, hka09_9, hka09_9, hka09_9, hka09_9, hka09_9, hka09_9, hka09_9, hka09_9, hka09_9, hka09_9, hka09_9, hka09_9, hka09_9, hka09_9, hka09_9, hka09_9, hka09_9, hka09_9, hka09_9, hka09_9, hka09_9, hka09_9, hka09_9, hka09_453, hka09_633, hka09_9, hka09_9, hka09_9, hka09_9, hka09_9, hka09_9, hka09_9, hka09_9, hka09_9, hka09_9, hka09_9, hka09_9, hka09_9, hka09_9, hka09_9]
def hka09_635 : ai_C := .inl (.int, [(1, hka09_460), (60, hka09_265), (17, hka09_266), (1, hka09_475), (1, hka09_379), (1, hka09_476), (1, hka09_477), (5, hka09_271), (1, hka09_459), (8, hka09_273), (1, hka09_460), (60, hka09_265), (17, hka09_266), (1, hka09_461), (1, hka09_462), (1, hka09_463), (1, hka09_464), (5, hka09_271), (1, hka09_465), (8, hka09_273), (1, hka09_466), (60, hka09_265), (17, hka09_266), (1, hka09_467), (1, hka09_468), (1, hka09_469), (1, hka09_470), (5, hka09_271), (1, hka09_471), (8, hka09_273)])
def hka09_636 : Bool × Option ai_C := (true, some hka09_635)
def hka09_637 : ai_W := [hka09_9, hka09_9, hka09_9, hka09_9, hka09_9, hka09_9, hka09_9, hka09_9, hka09_9, hka09_9, hka09_9, hka09_9, hka09_9, hka09_9, hka09_9, hka09_9, hka09_9, hka09_9, hka09_9, hka09_9, hka09_9, hka09_9, hka09_9, hka09_9, hka09_9, hka09_9, hka09_9, hka09_9, hka09_9, hka09_9, hka09_9, hka09_9, hka09_9, hka09_9, hka09_9, hka09_9, hka09_9, hka09_9, hka09_9, hka09_9, hka09_9, hka09_9, hka09_9, hka09_9, hka09_9, hka09_9, hka09_9, hka09_9, hka09_9, hka09_9, hka09_9, hka09_9, hka09_9, hka09_9, hka09_9, hka09_9, hka09_9, hka09_9, hka09_9, hka09_453, hka09_636, hka09_9, hka09_9, hka09_9, hka09_9, hka09_9, hka09_9, hka09_9, hka09_9, hka09_9, hka09_9, hka09_9, hka09_9, hka09_9, hka09_9, hka09_9]
def hka09_638 : ai_C := .inl (.int, [(1, hka09_460), (60, hka09_265), (17, hka09_266), (1, hka09_461), (1, hka09_462), (1, hka09_463), (1, hka09_458), (5, hka09_271), (1, hka09_459), (8, hka09_273), (1, hka09_460), (60, hka09_265), (17, hka09_266), (1, hka09_461), (1, hka09_462), (1, hka09_463), (1, hka09_464), (5, hka09_271), (1, hka09_465), (8, hka09_273), (1, hka09_466), (60, hka09_265), (17, hka09_266), (1, hka09_467), (1, hka09_468), (1, hka09_469), (1, hka09_470), (5, hka09_271), (1, hka09_471), (8, hka09_273)])
def hka09_639 : Bool × Option ai_C := (true, some hka09_638)
def hka09_640 : ai_W := [hka09_9, hka09_9, hka09_9, hka09_9, hka09_9, hka09_9, hka09_9, hka09_9, hka09_9, hka09_9, hka09_9, hka09_9, hka09_9, hka09_9, hka09_9, hka09_9, hka09_9, hka09_9, hka09_9, hka09_9, hka09_9, hka09_9, hka09_9, hka09_9, hka09_9, hka09_9, hka09_9, hka09_9, hka09_9, hka09_9, hka09_9, hka09_9, hka09_9, hka09_9, hka09_9, hka09_9, hka09_9, hka09_9, hka09_9, hka09_9, hka09_9, hka09_9, hka09_9, hka09_9, hka09_9, hka09_9, hka09_9, hka09_9, hka09_9, hka09_9, hka09_9, hka09_9, hka09_9, hka09_9, hka09_9, hka09_9, hka09_9, hka09_9, hka09_9, hka09_453, hka09_639, hka09_9, hka09_9, hka09_9, hka09_9, hka09_9, hka09_9, hka09_9, hka09_9, hka09_9, hka09_9, hka09_9, hka09_9, hka09_9, hka09_9, hka09_9]
def hka09_641 : ai_C := .inl (.int, [(1, hka09_460), (60, hka09_265), (17, hka09_266), (1, hka09_461), (1, hka09_462), (1, hka09_457), (1, hka09_458), (5, hka09_271), (1, hka09_459), (8, hka09_273), (1, hka09_460), (60, hka09_265), (17, hka09_266), (1, hka09_461), (1, hka09_462), (1, hka09_463), (1, hka09_464), (5, hka09_271), (1, hka09_465), (8, hka09_273), (1, hka09_466), (60, hka09_265), (17, hka09_266), (1, hka09_467), (1, hka09_468), (1, hka09_469), (1, hka09_470), (5, hka09_271), (1, hka09_471), (8, hka09_273)])
def hka09_642 : Bool × Option ai_C := (true, some hka09_641)
def hka09_643 : ai_W := [hka09_9, hka09_9, hka09_9, hka09_9, hka09_9, hka09_9, hka09_9, hka09_9, hka09_9, hka09_9, hka09_9, hka09_9, hka09_9, hka09_9, hka09_9, hka09_9, hka09_9, hka09_9, hka09_9, hka09_9, hka09_9, hka09_9, hka09_9, hka09_9, hka09_9, hka09_9, hka09_9, hka09_9, hka09_9, hka09_9, hka09_9, hka09_9, hka09_9, hka09_9, hka09_9, hka09_9, hka09_9, hka09_9, hka09_9, hka09_9, hka09_9, hka09_9, hka09_9, hka09_9, hka09_9, hka09_9, hka09_9, hka09_9, hka09_9, hka09_9, hka09_9, hka09_9, hka09_9, hka09_9, hka09_9, hka09_9, hka09_9, hka09_9, hka09_9, hka09_453, hka09_642, hka09_9, hka09_9, hka09_9, hka09_9, hka09_9, hka09_9, hka09_9, hka09_9, hka09_9, hka09_9, hka09_9, hka09_9, hka09_9, hka09_9, hka09_9]
def hka09_644 : ai_C := .inl (.int, [(1, hka09_460), (60, hka09_265), (17, hka09_266), (1, hka09_461), (1, hka09_456), (1, hka09_457), (1, hka09_458), (5, hka09_271), (1, hka09_459), (8, hka09_273), (1, hka09_460), (60, hka09_265), (17, hka09_266), (1, hka09_461), (1, hka09_462), (1, hka09_463), (1, hka09_464), (5, hka09_271), (1, hka09_465), (8, hka09_273), (1, hka09_466), (60, hka09_265), (17, hka09_266), (1, hka09_467), (1, hka09_468), (1, hka09_469), (1, hka09_470), (5, hka09_271), (1, hka09_471), (8, hka09_273)])
def hka09_645 : Bool × Option ai_C := (true, some hka09_644)
def hka09_646 : ai_W := [hka09_9, hka09_9, hka09_9, hka09_9, hka09_9, hka09_9, hka09_9, hka09_9, hka09_9, hka09_9, hka09_9, hka09_9, hka09_9, hka09_9, hka09_9, hka09_9, hka09_9, hka09_9, hka09_9, hka09_9, hka09_9, hka09_9, hka09_9, hka09_9, hka09_9, hka09_9, hka09_9, hka09_9, hka09_9, hka09_9, hka09_9, hka09_9, hka09_9, hka09_9, hka09_9, hka09_9, hka09_9, hka09_9, hka09_9, hka09_9, hka09_9, hka09_9, hka09_9, hka09_9, hka09_9, hka09_9, hka09_9, hka09_9, hka09_9, hka09_9, hka09_9, hka09_9, hka09_9, hka09_9, hka09_9, hka09_9, hka09_9, hka09_9, hka09_9, hka09_453, hka09_645, hka09_9, hka09_9, hka09_9, hka09_9, hka09_9, hka09_9, hka09_9, hka09_9, hka09_9, hka09_9, hka09_9, hka09_9, hka09_9, hka09_9, hka09_9]
def kan_771 : List ai_Nd := [(2, (hka09_479, [hka09_217, hka09_62, hka09_540, hka09_481], [], hka09_474), [.inl 3], [.inl 99997, .inl 11, .inr (true, .ofNat 96, 36), .inl 100000]), (2, (hka09_483, [hka09_217, hka09_62, hka09_540, hka09_485], [], hka09_632), [.inl 3], [.inl 99997, .inl 10, .inr (true, .ofNat 96, 36), .inl 100000]), (2, (hka09_490, [hka09_217, hka09_62, hka09_540, hka09_492], [], hka09_632), [.inl 3], [.inl 99997, .inl 9, .inr (true, .ofNat 96, 36), .inl 100000]), (2, (hka09_494, [hka09_217, hka09_62, hka09_540, hka09_496], [], hka09_634), [.inl 3], [.inl 99997, .inl 2, .inr (true, .ofNat 96, 36), .inl 100000]), (2, (hka09_500, [hka09_217, hka09_62, hka09_540, hka09_502], [], hka09_634), [.inl 3], [.inl 99997, .inl 1, .inr (true, .ofNat 96, 36), .inl 100000]), (2, (hka09_504, [hka09_217, hka09_62, hka09_540, hka09_506], [], hka09_637), [.inl 3], [.inl 99997, .inl 4, .inr (true, .ofNat 96, 36), .inl 100000]), (2, (hka09_511, [hka09_217, hka09_62, hka09_540, hka09_513], [], hka09_637), [.inl 3], [.inl 99997, .inl 3, .inr (true, .ofNat 96, 36), .inl 100000]), (2, (hka09_515, [hka09_217, hka09_62, hka09_540, hka09_517], [], hka09_640), [.inl 3], [.inl 99997, .inl 5, .inr (true, .ofNat 96, 36), .inl 100000]), (2, (hka09_522, [hka09_217, hka09_62, hka09_540, hka09_524], [], hka09_643), [.inl 3], [.inl 99997, .inl 6, .inr (true, .ofNat 96, 36), .inl 100000]), (2, (hka09_529, [hka09_217, hka09_62, hka09_540, hka09_531], [], hka09_646), [.inl 3], [.inl 99997, .inl 7, .inr (true, .ofNat 96, 36), .inl 100000]), (2, (hka09_536, [hka09_217, hka09_62, hka09_540, hka09_538], [], hka09_632), [.inl 3], [.inl 99997, .inl 8, .inr (true, .ofNat 96, 36), .inl 100000])]
set_option maxRecDepth 1000000 in
theorem kak_771 : ai_ck [] [(2, .inl 3, [.ofNat 1, .ofNat 61, .ofNat 78, .ofNat 79, .ofNat 80, .ofNat 81, .ofNat 82, .ofNat 87, .ofNat 88, .ofNat 96])] ka_771 [.inl 100000, .inl 0, .inl 0, .inl 0] kan_771 19 = true := by decide +kernel
theorem kah_771 : ai_holds ka_771 := ai_thm kak_771 ai_nil
def hka09_647 : ai_V := .inl (false, hka09_591)
def hka09_648 : ai_C := .inl (.int, [(1, hka09_591), (60, hka09_265), (17, hka09_266), (1, hka09_475), (1, hka09_379), (1, hka09_476), (1, hka09_477), (5, hka09_271), (1, hka09_273), (8, hka09_273), (1, hka09_408), (60, hka09_265), (17, hka09_266), (1, hka09_586), (1, hka09_587), (1, hka09_588), (1, hka09_589), (5, hka09_271), (1, hka09_590), (8, hka09_273), (1, hka09_591), (60, hka09_265), (17, hka09_266), (1, hka09_592), (1, hka09_593), (1, hka09_594), (1, hka09_595), (5, hka09_271), (1, hka09_596), (8, hka09_273)])
def hka09_649 : ai_C := .inl (.int, [(1, hka09_408), (60, hka09_265), (17, hka09_266), (1, hka09_475), (1, hka09_379), (1, hka09_476), (1, hka09_477), (5, hka09_271), (1, hka09_273), (8, hka09_273), (1, hka09_408), (60, hka09_265), (17, hka09_266), (1, hka09_586), (1, hka09_587), (1, hka09_588), (1, hka09_589), (5, hka09_271), (1, hka09_590), (8, hka09_273), (1, hka09_591), (60, hka09_265), (17, hka09_266), (1, hka09_592), (1, hka09_593), (1, hka09_594), (1, hka09_595), (5, hka09_271), (1, hka09_596), (8, hka09_273)])
/-- NeverAgainModel.back -/
def ka_772 : ai_K := (72, 1, (hka09_561, [hka09_217, hka09_46], [], hka09_599), [.inl 1, .inr (59, 2), .inr (59, 3), .inr (59, 6), .inr (59, 8), .inr (59, 9), .inr (59, 11), .inr (59, 12), .inr (59, 13), .inr (59, 15), .inr (59, 16), .inr (59, 17), .inr (59, 18), .inr (59, 19), .inr (59, 20), .inr (59, 21), .inr (59, 23), .inr (59, 26), .inr (59, 33), .inr (60, 0), .inr (60, 78), .inr (60, 79), .inr (60, 80), .inr (60, 81), .inr (60, 87), .inr (60, 96), .inr (60, 174), .inr (60, 175), .inr (60, 176), .inr (60, 177), .inr (60, 183), .inr (60, 192), .inr (60, 270), .inr (60, 271), .inr (60, 272), .inr (60, 273), .inr (60, 279)], [(some hka09_177, hka09_600, []), (some hka09_608, hka09_601, []), (some hka09_647, hka09_601, [(60, hka09_648)]), (some hka09_608, hka09_603, []), (some hka09_409, hka09_603, [(60, hka09_649)]), (some hka09_177, hka09_605, [])])
def kan_772 : List ai_Nd := []
set_option maxRecDepth 1000000 in
theorem kak_772 : ai_ck [ka_760, ka_763, ka_759, ka_765, ka_770, ka_771] [(0, .inl 1, [.ofNat 0, .ofNat 1, .ofNat 2])] ka_772 [.inl 100000] kan_772 25 = true := by decide +kernel
theorem kah_772 : ai_holds ka_772 := ai_thm kak_772 (ai_cons kah_760 (ai_cons kah_763 (ai_cons kah_759 (ai_cons kah_765 (ai_cons kah_770 (ai_cons kah_771 ai_nil))))))
def hka09_650 : ai_V := .inr (some (.ref 58))
def hka09_651 : ai_C := .inl (.int, [(40, hka09_34)])
def hka09_652 : Bool × Option ai_C := (false, some hka09_651)
def hka09_653 : ai_W := [hka09_9, hka09_9, hka09_9, hka09_9, hka09_9, hka09_9, hka09_9, hka09_9, hka09_9, hka09_9, hka09_9, hka09_9, hka09_9, hka09_9, hka09_9, hka09_9, hka09_9, hka09_9, hka09_9, hka09_9, hka09_9, hka09_9, hka09_9, hka09_9, hka09_9, hka09_9, hka09_9, hka09_9, hka09_9, hka09_9, hka09_9, hka09_9, hka09_9, hka09_9, hka09_9, hka09_9, hka09_9, hka09_9, hka09_9, hka09_9, hka09_9, hka09_9, hka09_9, hka09_9, hka09_9, hka09_9, hka09_9, hka09_9, hka09_9, hka09_9, hka09_9, hka09_9, hka09_9, hka09_9, hka09_9, hka09_9, hka09_9, hka09_9, hka09_652, hka09_9, hka09_9, hka09_9, hka09_9, hka09_9, hka09_9, hka09_9, hka09_9, hka09_9, hka09_9, hka09_9, hka09_9, hka09_9, hka09_9, hka09_9, hka09_9, hka09_9]
/-- java/util/Arrays.fill -/
def ka_773 : ai_K := (162, 0, ([], [hka09_650, hka09_62, hka09_8, hka09_8], [], hka09_653), [], [(none, [], [(58, hka09_651)])])
def hka09_654 : Int × Int := (.ofNat 0, .ofNat 40)
def hka09_655 : ai_N := (.ofNat 0, .ofNat 40, [(0, .ofNat 0, .ofNat 0)])
def hka09_656 : ai_V := .inl (false, hka09_655)
def hka09_657 : ai_N := (.ofNat 40, .ofNat 40, [])
def hka09_658 : ai_V := .inl (false, hka09_657)
def hka09_659 : Bool × Option ai_C := (true, some hka09_651)
def hka09_660 : ai_W := [hka09_9, hka09_9, hka09_9, hka09_9, hka09_9, hka09_9, hka09_9, hka09_9, hka09_9, hka09_9, hka09_9, hka09_9, hka09_9, hka09_9, hka09_9, hka09_9, hka09_9, hka09_9, hka09_9, hka09_9, hka09_9, hka09_9, hka09_9, hka09_9, hka09_9, hka09_9, hka09_9, hka09_9, hka09_9, hka09_9, hka09_9, hka09_9, hka09_9, hka09_9, hka09_9, hka09_9, hka09_9, hka09_9, hka09_9, hka09_9, hka09_9, hka09_9, hka09_9, hka09_9, hka09_9, hka09_9, hka09_9, hka09_9, hka09_9, hka09_9, hka09_9, hka09_9, hka09_9, hka09_9, hka09_9, hka09_9, hka09_9, hka09_9, hka09_659, hka09_9, hka09_9, hka09_9, hka09_9, hka09_9, hka09_9, hka09_9, hka09_9, hka09_9, hka09_9, hka09_9, hka09_9, hka09_9, hka09_9, hka09_9, hka09_9, hka09_9]
def kan_773 : List ai_Nd := [(5, ([hka09_654], [hka09_650, hka09_62, hka09_656, hka09_658], [], hka09_660), [.inl 2], [.inl 99994, .inl 1, .inr (true, .ofNat 40, 0), .inl 100000])]
set_option maxRecDepth 1000000 in
theorem kak_773 : ai_ck [] [] ka_773 [.inl 100000, .inl 0, .inl 0, .inl 0] kan_773 11 = true := by decide +kernel
theorem kah_773 : ai_holds ka_773 := ai_thm kak_773 ai_nil
def hka09_661 : Int × Int := (.negSucc 0, .ofNat 2)
def hka09_662 : ai_E := [hka09_2, hka09_2, hka09_661, hka09_654]
def hka09_663 : ai_V := .inr (some (.ref 57))
def hka09_664 : ai_N := (.negSucc 0, .ofNat 2, [(2, .ofNat 0, .ofNat 0)])
def hka09_665 : ai_V := .inl (false, hka09_664)
def hka09_666 : ai_N := (.ofNat 0, .ofNat 40, [(3, .ofNat 0, .ofNat 0)])
def hka09_667 : ai_V := .inl (false, hka09_666)
def hka09_668 : ai_C := .inr (.inr (4, [hka09_650, hka09_665, hka09_667]))
def hka09_669 : Bool × Option ai_C := (false, some hka09_668)
def hka09_670 : ai_W := [hka09_9, hka09_9, hka09_9, hka09_9, hka09_9, hka09_9, hka09_9, hka09_9, hka09_9, hka09_9, hka09_9, hka09_9, hka09_9, hka09_9, hka09_9, hka09_9, hka09_9, hka09_9, hka09_9, hka09_9, hka09_9, hka09_9, hka09_9, hka09_9, hka09_9, hka09_9, hka09_9, hka09_9, hka09_9, hka09_9, hka09_9, hka09_9, hka09_9, hka09_9, hka09_9, hka09_9, hka09_9, hka09_9, hka09_9, hka09_9, hka09_9, hka09_9, hka09_9, hka09_9, hka09_9, hka09_9, hka09_9, hka09_9, hka09_9, hka09_9, hka09_9, hka09_9, hka09_9, hka09_9, hka09_9, hka09_9, hka09_9, hka09_669, hka09_652, hka09_9, hka09_9, hka09_9, hka09_9, hka09_9, hka09_9, hka09_9, hka09_9, hka09_9, hka09_9, hka09_9, hka09_9, hka09_9, hka09_9, hka09_9, hka09_9, hka09_9]
def hka09_671 : ai_N := (.ofNat 0, .ofNat 40, [])
def hka09_672 : ai_V := .inl (false, hka09_671)
def hka09_673 : ai_C := .inr (.inr (4, [hka09_650, hka09_46, hka09_672]))
/-- NeverAgain$Sheet.makeNew -/
def ka_774 : ai_K := (146, 1, (hka09_662, [hka09_663, hka09_46, hka09_64], [], hka09_670), [.inl 1, .inl 2, .inr (57, 1), .inr (57, 2)], [(none, hka09_662, [(57, hka09_673), (58, hka09_651)])])
def kan_774 : List ai_Nd := []
set_option maxRecDepth 1000000 in
theorem kak_774 : ai_ck [ka_773] [] ka_774 [.inl 100000] kan_774 16 = true := by decide +kernel
theorem kah_774 : ai_holds ka_774 := ai_thm kak_774 (ai_cons kah_773 ai_nil)
def hka09_674 : ai_V := .inr (some (.ref 56))
def hka09_675 : ai_W := [hka09_9, hka09_9, hka09_9, hka09_9, hka09_9, hka09_9, hka09_9, hka09_9, hka09_9, hka09_9, hka09_9, hka09_9, hka09_9, hka09_9, hka09_9, hka09_9, hka09_9, hka09_9, hka09_9, hka09_9, hka09_9, hka09_9, hka09_9, hka09_9, hka09_9, hka09_9, hka09_9, hka09_9, hka09_9, hka09_9, hka09_9, hka09_9, hka09_9, hka09_9, hka09_9, hka09_9, hka09_9, hka09_9, hka09_9, hka09_9, hka09_9, hka09_9, hka09_9, hka09_9, hka09_9, hka09_9, hka09_9, hka09_9, hka09_9, hka09_9, hka09_9, hka09_9, hka09_9, hka09_9, hka09_9, hka09_9, hka09_652, hka09_9, hka09_9, hka09_9, hka09_9, hka09_9, hka09_9, hka09_9, hka09_9, hka09_9, hka09_9, hka09_9, hka09_9, hka09_9, hka09_9, hka09_9, hka09_9, hka09_9, hka09_9, hka09_9]
/-- java/util/Arrays.fill -/
def ka_775 : ai_K := (162, 0, ([], [hka09_674, hka09_62, hka09_8, hka09_8], [], hka09_675), [], [(none, [], [(56, hka09_651)])])
def hka09_676 : ai_W := [hka09_9, hka09_9, hka09_9, hka09_9, hka09_9, hka09_9, hka09_9, hka09_9, hka09_9, hka09_9, hka09_9, hka09_9, hka09_9, hka09_9, hka09_9, hka09_9, hka09_9, hka09_9, hka09_9, hka09_9, hka09_9, hka09_9, hka09_9, hka09_9, hka09_9, hka09_9, hka09_9, hka09_9, hka09_9, hka09_9, hka09_9, hka09_9, hka09_9, hka09_9, hka09_9, hka09_9, hka09_9, hka09_9, hka09_9, hka09_9, hka09_9, hka09_9, hka09_9, hka09_9, hka09_9, hka09_9, hka09_9, hka09_9, hka09_9, hka09_9, hka09_9, hka09_9, hka09_9, hka09_9, hka09_9, hka09_9, hka09_659, hka09_9, hka09_9, hka09_9, hka09_9, hka09_9, hka09_9, hka09_9, hka09_9, hka09_9, hka09_9, hka09_9, hka09_9, hka09_9, hka09_9, hka09_9, hka09_9, hka09_9, hka09_9, hka09_9]
def kan_775 : List ai_Nd := [(5, ([hka09_654], [hka09_674, hka09_62, hka09_656, hka09_658], [], hka09_676), [.inl 2], [.inl 99994, .inl 1, .inr (true, .ofNat 40, 0), .inl 100000])]
set_option maxRecDepth 1000000 in
theorem kak_775 : ai_ck [] [] ka_775 [.inl 100000, .inl 0, .inl 0, .inl 0] kan_775 11 = true := by decide +kernel
theorem kah_775 : ai_holds ka_775 := ai_thm kak_775 ai_nil
def hka09_677 : ai_V := .inr (some (.ref 55))
def hka09_678 : ai_C := .inr (.inr (4, [hka09_674, hka09_665, hka09_667]))
def hka09_679 : Bool × Option ai_C := (false, some hka09_678)
def hka09_680 : ai_W := [hka09_9, hka09_9, hka09_9, hka09_9, hka09_9, hka09_9, hka09_9, hka09_9, hka09_9, hka09_9, hka09_9, hka09_9, hka09_9, hka09_9, hka09_9, hka09_9, hka09_9, hka09_9, hka09_9, hka09_9, hka09_9, hka09_9, hka09_9, hka09_9, hka09_9, hka09_9, hka09_9, hka09_9, hka09_9, hka09_9, hka09_9, hka09_9, hka09_9, hka09_9, hka09_9, hka09_9, hka09_9, hka09_9, hka09_9, hka09_9, hka09_9, hka09_9, hka09_9, hka09_9, hka09_9, hka09_9, hka09_9, hka09_9, hka09_9, hka09_9, hka09_9, hka09_9, hka09_9, hka09_9, hka09_9, hka09_679, hka09_652, hka09_9, hka09_9, hka09_9, hka09_9, hka09_9, hka09_9, hka09_9, hka09_9, hka09_9, hka09_9, hka09_9, hka09_9, hka09_9, hka09_9, hka09_9, hka09_9, hka09_9, hka09_9, hka09_9]
def hka09_681 : ai_C := .inr (.inr (4, [hka09_674, hka09_46, hka09_672]))
/-- NeverAgain$Sheet.makeNew -/
def ka_776 : ai_K := (146, 1, (hka09_662, [hka09_677, hka09_46, hka09_64], [], hka09_680), [.inl 1, .inl 2, .inr (55, 1), .inr (55, 2)], [(none, hka09_662, [(55, hka09_681), (56, hka09_651)])])
def kan_776 : List ai_Nd := []
set_option maxRecDepth 1000000 in
theorem kak_776 : ai_ck [ka_775] [] ka_776 [.inl 100000] kan_776 16 = true := by decide +kernel
theorem kah_776 : ai_holds ka_776 := ai_thm kak_776 (ai_cons kah_775 ai_nil)
def hka09_682 : ai_V := .inr (some (.ref 54))
def hka09_683 : ai_W := [hka09_9, hka09_9, hka09_9, hka09_9, hka09_9, hka09_9, hka09_9, hka09_9, hka09_9, hka09_9, hka09_9, hka09_9, hka09_9, hka09_9, hka09_9, hka09_9, hka09_9, hka09_9, hka09_9, hka09_9, hka09_9, hka09_9, hka09_9, hka09_9, hka09_9, hka09_9, hka09_9, hka09_9, hka09_9, hka09_9, hka09_9, hka09_9, hka09_9, hka09_9, hka09_9, hka09_9, hka09_9, hka09_9, hka09_9, hka09_9, hka09_9, hka09_9, hka09_9, hka09_9, hka09_9, hka09_9, hka09_9, hka09_9, hka09_9, hka09_9, hka09_9, hka09_9, hka09_9, hka09_9, hka09_652, hka09_9, hka09_9, hka09_9, hka09_9, hka09_9, hka09_9, hka09_9, hka09_9, hka09_9, hka09_9, hka09_9, hka09_9, hka09_9, hka09_9, hka09_9, hka09_9, hka09_9, hka09_9, hka09_9, hka09_9, hka09_9]
/-- java/util/Arrays.fill -/
def ka_777 : ai_K := (162, 0, ([], [hka09_682, hka09_62, hka09_8, hka09_8], [], hka09_683), [], [(none, [], [(54, hka09_651)])])
def hka09_684 : ai_W := [hka09_9, hka09_9, hka09_9, hka09_9, hka09_9, hka09_9, hka09_9, hka09_9, hka09_9, hka09_9, hka09_9, hka09_9, hka09_9, hka09_9, hka09_9, hka09_9, hka09_9, hka09_9, hka09_9, hka09_9, hka09_9, hka09_9, hka09_9, hka09_9, hka09_9, hka09_9, hka09_9, hka09_9, hka09_9, hka09_9, hka09_9, hka09_9, hka09_9, hka09_9, hka09_9, hka09_9, hka09_9, hka09_9, hka09_9, hka09_9, hka09_9, hka09_9, hka09_9, hka09_9, hka09_9, hka09_9, hka09_9, hka09_9, hka09_9, hka09_9, hka09_9, hka09_9, hka09_9, hka09_9, hka09_659, hka09_9, hka09_9, hka09_9, hka09_9, hka09_9, hka09_9, hka09_9, hka09_9, hka09_9, hka09_9, hka09_9, hka09_9, hka09_9, hka09_9, hka09_9, hka09_9, hka09_9, hka09_9, hka09_9, hka09_9, hka09_9]
def kan_777 : List ai_Nd := [(5, ([hka09_654], [hka09_682, hka09_62, hka09_656, hka09_658], [], hka09_684), [.inl 2], [.inl 99994, .inl 1, .inr (true, .ofNat 40, 0), .inl 100000])]
set_option maxRecDepth 1000000 in
theorem kak_777 : ai_ck [] [] ka_777 [.inl 100000, .inl 0, .inl 0, .inl 0] kan_777 11 = true := by decide +kernel
theorem kah_777 : ai_holds ka_777 := ai_thm kak_777 ai_nil
def hka09_685 : ai_V := .inr (some (.ref 53))
def hka09_686 : ai_C := .inr (.inr (4, [hka09_682, hka09_665, hka09_667]))
def hka09_687 : Bool × Option ai_C := (false, some hka09_686)
def hka09_688 : ai_W := [hka09_9, hka09_9, hka09_9, hka09_9, hka09_9, hka09_9, hka09_9, hka09_9, hka09_9, hka09_9, hka09_9, hka09_9, hka09_9, hka09_9, hka09_9, hka09_9, hka09_9, hka09_9, hka09_9, hka09_9, hka09_9, hka09_9, hka09_9, hka09_9, hka09_9, hka09_9, hka09_9, hka09_9, hka09_9, hka09_9, hka09_9, hka09_9, hka09_9, hka09_9, hka09_9, hka09_9, hka09_9, hka09_9, hka09_9, hka09_9, hka09_9, hka09_9, hka09_9, hka09_9, hka09_9, hka09_9, hka09_9, hka09_9, hka09_9, hka09_9, hka09_9, hka09_9, hka09_9, hka09_687, hka09_652, hka09_9, hka09_9, hka09_9, hka09_9, hka09_9, hka09_9, hka09_9, hka09_9, hka09_9, hka09_9, hka09_9, hka09_9, hka09_9, hka09_9, hka09_9, hka09_9, hka09_9, hka09_9, hka09_9, hka09_9, hka09_9]
def hka09_689 : ai_C := .inr (.inr (4, [hka09_682, hka09_46, hka09_672]))
/-- NeverAgain$Sheet.makeNew -/
def ka_778 : ai_K := (146, 1, (hka09_662, [hka09_685, hka09_46, hka09_64], [], hka09_688), [.inl 1, .inl 2, .inr (53, 1), .inr (53, 2)], [(none, hka09_662, [(53, hka09_689), (54, hka09_651)])])
def kan_778 : List ai_Nd := []
set_option maxRecDepth 1000000 in
theorem kak_778 : ai_ck [ka_777] [] ka_778 [.inl 100000] kan_778 16 = true := by decide +kernel
theorem kah_778 : ai_holds ka_778 := ai_thm kak_778 (ai_cons kah_777 ai_nil)
def hka09_690 : ai_V := .inr (some (.ref 52))
def hka09_691 : ai_W := [hka09_9, hka09_9, hka09_9, hka09_9, hka09_9, hka09_9, hka09_9, hka09_9, hka09_9, hka09_9, hka09_9, hka09_9, hka09_9, hka09_9, hka09_9, hka09_9, hka09_9, hka09_9, hka09_9, hka09_9, hka09_9, hka09_9, hka09_9, hka09_9, hka09_9, hka09_9, hka09_9, hka09_9, hka09_9, hka09_9, hka09_9, hka09_9, hka09_9, hka09_9, hka09_9, hka09_9, hka09_9, hka09_9, hka09_9, hka09_9, hka09_9, hka09_9, hka09_9, hka09_9, hka09_9, hka09_9, hka09_9, hka09_9, hka09_9, hka09_9, hka09_9, hka09_9, hka09_652, hka09_9, hka09_9, hka09_9, hka09_9, hka09_9, hka09_9, hka09_9, hka09_9, hka09_9, hka09_9, hka09_9, hka09_9, hka09_9, hka09_9, hka09_9, hka09_9, hka09_9, hka09_9, hka09_9, hka09_9, hka09_9, hka09_9, hka09_9]
/-- java/util/Arrays.fill -/
def ka_779 : ai_K := (162, 0, ([], [hka09_690, hka09_62, hka09_8, hka09_8], [], hka09_691), [], [(none, [], [(52, hka09_651)])])
def hka09_692 : ai_W := [hka09_9, hka09_9, hka09_9, hka09_9, hka09_9, hka09_9, hka09_9, hka09_9, hka09_9, hka09_9, hka09_9, hka09_9, hka09_9, hka09_9, hka09_9, hka09_9, hka09_9, hka09_9, hka09_9, hka09_9, hka09_9, hka09_9, hka09_9, hka09_9, hka09_9, hka09_9, hka09_9, hka09_9, hka09_9, hka09_9, hka09_9, hka09_9, hka09_9, hka09_9, hka09_9, hka09_9, hka09_9, hka09_9, hka09_9, hka09_9, hka09_9, hka09_9, hka09_9, hka09_9, hka09_9, hka09_9, hka09_9, hka09_9, hka09_9, hka09_9, hka09_9, hka09_9, hka09_659, hka09_9, hka09_9, hka09_9, hka09_9, hka09_9, hka09_9, hka09_9, hka09_9, hka09_9, hka09_9, hka09_9, hka09_9, hka09_9, hka09_9, hka09_9, hka09_9, hka09_9, hka09_9, hka09_9, hka09_9, hka09_9, hka09_9, hka09_9]
def kan_779 : List ai_Nd := [(5, ([hka09_654], [hka09_690, hka09_62, hka09_656, hka09_658], [], hka09_692), [.inl 2], [.inl 99994, .inl 1, .inr (true, .ofNat 40, 0), .inl 100000])]
set_option maxRecDepth 1000000 in
theorem kak_779 : ai_ck [] [] ka_779 [.inl 100000, .inl 0, .inl 0, .inl 0] kan_779 11 = true := by decide +kernel
theorem kah_779 : ai_holds ka_779 := ai_thm kak_779 ai_nil
def hka09_693 : ai_V := .inr (some (.ref 51))
def hka09_694 : ai_C := .inr (.inr (4, [hka09_690, hka09_665, hka09_667]))
def hka09_695 : Bool × Option ai_C := (false, some hka09_694)
def hka09_696 : ai_W := [hka09_9, hka09_9, hka09_9, hka09_9, hka09_9, hka09_9, hka09_9, hka09_9, hka09_9, hka09_9, hka09_9, hka09_9, hka09_9, hka09_9, hka09_9, hka09_9, hka09_9, hka09_9, hka09_9, hka09_9, hka09_9, hka09_9, hka09_9, hka09_9, hka09_9, hka09_9, hka09_9, hka09_9, hka09_9, hka09_9, hka09_9, hka09_9, hka09_9, hka09_9, hka09_9, hka09_9, hka09_9, hka09_9, hka09_9, hka09_9, hka09_9, hka09_9, hka09_9, hka09_9, hka09_9, hka09_9, hka09_9, hka09_9, hka09_9, hka09_9, hka09_9, hka09_695, hka09_652, hka09_9, hka09_9, hka09_9, hka09_9, hka09_9, hka09_9, hka09_9, hka09_9, hka09_9, hka09_9, hka09_9, hka09_9, hka09_9, hka09_9, hka09_9, hka09_9, hka09_9, hka09_9, hka09_9, hka09_9, hka09_9, hka09_9, hka09_9]
def hka09_697 : ai_C := .inr (.inr (4, [hka09_690, hka09_46, hka09_672]))
/-- NeverAgain$Sheet.makeNew -/
def ka_780 : ai_K := (146, 1, (hka09_662, [hka09_693, hka09_46, hka09_64], [], hka09_696), [.inl 1, .inl 2, .inr (51, 1), .inr (51, 2)], [(none, hka09_662, [(51, hka09_697), (52, hka09_651)])])
def kan_780 : List ai_Nd := []
set_option maxRecDepth 1000000 in
theorem kak_780 : ai_ck [ka_779] [] ka_780 [.inl 100000] kan_780 16 = true := by decide +kernel
theorem kah_780 : ai_holds ka_780 := ai_thm kak_780 (ai_cons kah_779 ai_nil)
def hka09_698 : ai_E := [hka09_2, hka09_2, hka09_2, hka09_128, hka09_129, hka09_5, hka09_661, hka09_654, hka09_661, hka09_654, hka09_661, hka09_654, hka09_661, hka09_654]
def hka09_699 : ai_C := .inr (.inl (4, [some 51, some 53, some 55, some 57]))
def hka09_700 : Bool × Option ai_C := (false, some hka09_699)
def hka09_701 : ai_N := (.negSucc 0, .ofNat 2, [(6, .ofNat 0, .ofNat 0)])
def hka09_702 : ai_V := .inl (false, hka09_701)
def hka09_703 : ai_N := (.ofNat 0, .ofNat 40, [(7, .ofNat 0, .ofNat 0)])
def hka09_704 : ai_V := .inl (false, hka09_703)
def hka09_705 : ai_C := .inr (.inr (4, [hka09_690, hka09_702, hka09_704]))
def hka09_706 : Bool × Option ai_C := (false, some hka09_705)
def hka09_707 : ai_N := (.negSucc 0, .ofNat 2, [(8, .ofNat 0, .ofNat 0)])
def hka09_708 : ai_V := .inl (false, hka09_707)
def hka09_709 : ai_N := (.ofNat 0, .ofNat 40, [(9, .ofNat 0, .ofNat 0)])
def hka09_710 : ai_V := .inl (false, hka09_709)
def hka09_711 : ai_C := .inr (.inr (4, [hka09_682, hka09_708, hka09_710]))
def hka09_712 : Bool × Option ai_C := (false, some hka09_711)
def hka09_713 : ai_N := (.negSucc 0, .ofNat 2, [(10, .ofNat 0, .ofNat 0)])
def hka09_714 : ai_V := .inl (false, hka09_713)
def hka09_715 : ai_N := (.ofNat 0, .ofNat 40, [(11, .ofNat 0, .ofNat 0)])
def hka09_716 : ai_V := .inl (false, hka09_715)
def hka09_717 : ai_C := .inr (.inr (4, [hka09_674, hka09_714, hka09_716]))
def hka09_718 : Bool × Option ai_C := (false, some hka09_717)
def hka09_719 : ai_N := (.negSucc 0, .ofNat 2, [(12, .ofNat 0, .ofNat 0)])
def hka09_720 : ai_V := .inl (false, hka09_719)
def hka09_721 : ai_N := (.ofNat 0, .ofNat 40, [(13, .ofNat 0, .ofNat 0)])
def hka09_722 : ai_V := .inl (false, hka09_721)
def hka09_723 : ai_C := .inr (.inr (4, [hka09_650, hka09_720, hka09_722]))
def hka09_724 : Bool × Option ai_C := (false, some hka09_723)
def hka09_725 : ai_W := [hka09_148, hka09_9, hka09_9, hka09_9, hka09_9, hka09_9, hka09_9, hka09_9, hka09_9, hka09_9, hka09_9, hka09_9, hka09_9, hka09_9, hka09_9, hka09_9, hka09_9, hka09_9, hka09_9, hka09_9, hka09_9, hka09_9, hka09_9, hka09_9, hka09_9, hka09_9, hka09_9, hka09_9, hka09_9, hka09_9, hka09_9, hka09_9, hka09_9, hka09_9, hka09_9, hka09_9, hka09_9, hka09_9, hka09_9, hka09_9, hka09_9, hka09_9, hka09_9, hka09_9, hka09_9, hka09_9, hka09_9, hka09_9, hka09_9, hka09_9, hka09_700, hka09_706, hka09_652, hka09_712, hka09_652, hka09_718, hka09_652, hka09_724, hka09_652, hka09_9, hka09_9, hka09_9, hka09_9, hka09_9, hka09_9, hka09_9, hka09_9, hka09_9, hka09_9, hka09_9, hka09_9, hka09_9, hka09_9, hka09_9, hka09_9, hka09_9]
def hka09_726 : Int × Int := (.ofNat 4, .ofNat 2147483647)
def hka09_727 : ai_E := [hka09_726, hka09_2, hka09_2, hka09_128, hka09_129, hka09_5, hka09_661, hka09_654, hka09_661, hka09_654, hka09_661, hka09_654, hka09_661, hka09_654]
def hka09_728 : Int × Int := (.ofNat 3, .ofNat 3)
def hka09_729 : Int × Int := (.ofNat 41, .ofNat 2147483647)
def hka09_730 : ai_E := [hka09_728, hka09_180, hka09_729, hka09_128, hka09_129, hka09_5, hka09_661, hka09_654, hka09_661, hka09_654, hka09_661, hka09_654, hka09_661, hka09_654]
def hka09_731 : ai_N := (.negSucc 13, .negSucc 13, [])
def hka09_732 : ai_V := .inl (false, hka09_731)
def hka09_733 : ai_E := [hka09_728, hka09_180, hka09_201, hka09_128, hka09_129, hka09_5, hka09_661, hka09_654, hka09_661, hka09_654, hka09_661, hka09_654, hka09_661, hka09_654]
def hka09_734 : ai_E := [hka09_728, hka09_180, hka09_654, hka09_128, hka09_129, hka09_5, hka09_661, hka09_654, hka09_661, hka09_654, hka09_661, hka09_654, hka09_661, hka09_654]
def hka09_735 : ai_N := (.ofNat 0, .ofNat 2, [(1, .ofNat 0, .ofNat 0)])
def hka09_736 : ai_V := .inl (false, hka09_735)
def hka09_737 : ai_C := .inr (.inr (4, [hka09_650, hka09_736, hka09_672]))
def hka09_738 : Int × Int := (.ofNat 3, .ofNat 2147483647)
def hka09_739 : ai_E := [hka09_728, hka09_738, hka09_2, hka09_128, hka09_129, hka09_5, hka09_661, hka09_654, hka09_661, hka09_654, hka09_661, hka09_654, hka09_661, hka09_654]
def hka09_740 : ai_E := [hka09_728, hka09_201, hka09_2, hka09_128, hka09_129, hka09_5, hka09_661, hka09_654, hka09_661, hka09_654, hka09_661, hka09_654, hka09_661, hka09_654]
def hka09_741 : Int × Int := (.ofNat 2, .ofNat 2)
def hka09_742 : ai_E := [hka09_741, hka09_180, hka09_729, hka09_128, hka09_129, hka09_5, hka09_661, hka09_654, hka09_661, hka09_654, hka09_661, hka09_654, hka09_661, hka09_654]
def hka09_743 : ai_E := [hka09_741, hka09_180, hka09_201, hka09_128, hka09_129, hka09_5, hka09_661, hka09_654, hka09_661, hka09_654, hka09_661, hka09_654, hka09_661, hka09_654]
def hka09_744 : ai_E := [hka09_741, hka09_180, hka09_654, hka09_128, hka09_129, hka09_5, hka09_661, hka09_654, hka09_661, hka09_654, hka09_661, hka09_654, hka09_661, hka09_654]
def hka09_745 : ai_C := .inr (.inr (4, [hka09_674, hka09_736, hka09_672]))
def hka09_746 : ai_E := [hka09_741, hka09_738, hka09_2, hka09_128, hka09_129, hka09_5, hka09_661, hka09_654, hka09_661, hka09_654, hka09_661, hka09_654, hka09_661, hka09_654]
def hka09_747 : ai_E := [hka09_741, hka09_201, hka09_2, hka09_128, hka09_129, hka09_5, hka09_661, hka09_654, hka09_661, hka09_654, hka09_661, hka09_654, hka09_661, hka09_654]
def hka09_748 : ai_E := [hka09_419, hka09_180, hka09_729, hka09_128, hka09_129, hka09_5, hka09_661, hka09_654, hka09_661, hka09_654, hka09_661, hka09_654, hka09_661, hka09_654]
def hka09_749 : ai_E := [hka09_419, hka09_180, hka09_201, hka09_128, hka09_129, hka09_5, hka09_661, hka09_654, hka09_661, hka09_654, hka09_661, hka09_654, hka09_661, hka09_654]
def hka09_750 : ai_E := [hka09_419, hka09_180, hka09_654, hka09_128, hka09_129, hka09_5, hka09_661, hka09_654, hka09_661, hka09_654, hka09_661, hka09_654, hka09_661, hka09_654]
def hka09_751 : ai_C := .inr (.inr (4, [hka09_682, hka09_736, hka09_672]))
def hka09_752 : ai_E := [hka09_419, hka09_738, hka09_2, hka09_128, hka09_129, hka09_5, hka09_661, hka09_654, hka09_661, hka09_654, hka09_661, hka09_654, hka09_661, hka09_654]
def hka09_753 : ai_E := [hka09_419, hka09_201, hka09_2, hka09_128, hka09_129, hka09_5, hka09_661, hka09_654, hka09_661, hka09_654, hka09_661, hka09_654, hka09_661, hka09_654]
def hka09_754 : ai_E := [hka09_54, hka09_180, hka09_729, hka09_128, hka09_129, hka09_5, hka09_661, hka09_654, hka09_661, hka09_654, hka09_661, hka09_654, hka09_661, hka09_654]
def hka09_755 : ai_E := [hka09_54, hka09_180, hka09_201, hka09_128, hka09_129, hka09_5, hka09_661, hka09_654, hka09_661, hka09_654, hka09_661, hka09_654, hka09_661, hka09_654]
def hka09_756 : ai_E := [hka09_54, hka09_180, hka09_654, hka09_128, hka09_129, hka09_5, hka09_661, hka09_654, hka09_661, hka09_654, hka09_661, hka09_654, hka09_661, hka09_654]
def hka09_757 : ai_C := .inr (.inr (4, [hka09_690, hka09_736, hka09_672]))
def hka09_758 : ai_E := [hka09_54, hka09_738, hka09_2, hka09_128, hka09_129, hka09_5, hka09_661, hka09_654, hka09_661, hka09_654, hka09_661, hka09_654, hka09_661, hka09_654]
def hka09_759 : ai_E := [hka09_54, hka09_201, hka09_2, hka09_128, hka09_129, hka09_5, hka09_661, hka09_654, hka09_661, hka09_654, hka09_661, hka09_654, hka09_661, hka09_654]
def hka09_760 : ai_E := [hka09_201, hka09_2, hka09_2, hka09_128, hka09_129, hka09_5, hka09_661, hka09_654, hka09_661, hka09_654, hka09_661, hka09_654, hka09_661, hka09_654]
/-- NeverAgain.sheet -/
def ka_781 : ai_K := (73, 2, (hka09_698, [hka09_131, hka09_46, hka09_64, hka09_21], [], hka09_725), [.inl 1, .inl 2, .inl 3, .inr (0, 11), .inr (0, 12), .inr (0, 13), .inr (51, 1), .inr (51, 2), .inr (53, 1), .inr (53, 2), .inr (55, 1), .inr (55, 2), .inr (57, 1), .inr (57, 2)], [(some hka09_177, hka09_727, []), (some hka09_177, hka09_730, []), (some hka09_732, hka09_733, []), (some hka09_76, hka09_734, [(57, hka09_737), (58, hka09_651)]), (some hka09_177, hka09_739, []), (some hka09_177, hka09_740, []), (some hka09_177, hka09_742, []), (some hka09_732, hka09_743, []), (some hka09_76, hka09_744, [(55, hka09_745), (56, hka09_651)]), (some hka09_177, hka09_746, []), (some hka09_177, hka09_747, []), (some hka09_177, hka09_748, []), (some hka09_732, hka09_749, []), (some hka09_76, hka09_750, [(53, hka09_751), (54, hka09_651)]), (some hka09_177, hka09_752, []), (some hka09_177, hka09_753, []), (some hka09_177, hka09_754, []), (some hka09_732, hka09_755, []), (some hka09_76, hka09_756, [(51, hka09_757), (52, hka09_651)]), (some hka09_177, hka09_758, []), (some hka09_177, hka09_759, []), (some hka09_177, hka09_760, [])])
def kan_781 : List ai_Nd := []
set_option maxRecDepth 1000000 in
theorem kak_781 : ai_ck [ka_774, ka_776, ka_778, ka_780] [(0, .inl 1, [.ofNat 0, .ofNat 1, .ofNat 2, .ofNat 3, .ofNat 4])] ka_781 [.inl 100000] kan_781 25 = true := by decide +kernel
theorem kah_781 : ai_holds ka_781 := ai_thm kak_781 (ai_cons kah_774 (ai_cons kah_776 (ai_cons kah_778 (ai_cons kah_780 ai_nil))))
def hka09_761 : ai_N := (.ofNat 4, .ofNat 2147483647, [(0, .ofNat 0, .ofNat 0)])
def hka09_762 : ai_V := .inl (true, hka09_761)
/-- NeverAgainModel.in -/
def ka_782 : ai_K := (93, 0, ([hka09_726], [hka09_762, hka09_8, hka09_195, hka09_8, hka09_204, hka09_8], [], hka09_193), [.inl 0], [(some hka09_62, [hka09_726], [])])
def kan_782 : List ai_Nd := []
set_option maxRecDepth 1000000 in
theorem kak_782 : ai_ck [] [] ka_782 [.inl 100000] kan_782 11 = true := by decide +kernel
theorem kah_782 : ai_holds ka_782 := ai_thm kak_782 ai_nil
def hka09_763 : ai_E := [hka09_726, hka09_2]
def hka09_764 : ai_V := .inl (false, hka09_761)
/-- NeverAgainModel.isSheet -/
def ka_783 : ai_K := (147, 1, (hka09_763, [hka09_764, hka09_64], [], hka09_193), [.inl 0, .inl 1], [(some hka09_62, hka09_763, [])])
def kan_783 : List ai_Nd := []
set_option maxRecDepth 1000000 in
theorem kak_783 : ai_ck [ka_782] [] ka_783 [.inl 100000] kan_783 9 = true := by decide +kernel
theorem kah_783 : ai_holds ka_783 := ai_thm kak_783 (ai_cons kah_782 ai_nil)
/-- NeverAgainModel.in -/
def ka_784 : ai_K := (93, 0, ([], [hka09_204, hka09_8, hka09_195, hka09_8, hka09_204, hka09_8], [], hka09_193), [], [(some hka09_76, [], [])])
def kan_784 : List ai_Nd := []
set_option maxRecDepth 1000000 in
theorem kak_784 : ai_ck [] [] ka_784 [.inl 100000] kan_784 12 = true := by decide +kernel
theorem kah_784 : ai_holds ka_784 := ai_thm kak_784 ai_nil
/-- NeverAgainModel.isSheet -/
def ka_785 : ai_K := (147, 1, ([hka09_2], [hka09_85, hka09_46], [], hka09_193), [.inl 1], [(some hka09_62, [hka09_201], []), (some hka09_76, [hka09_54], []), (some hka09_76, [hka09_419], []), (some hka09_76, [hka09_741], []), (some hka09_62, [hka09_738], [])])
def kan_785 : List ai_Nd := []
set_option maxRecDepth 1000000 in
theorem kak_785 : ai_ck [ka_784, ka_366] [] ka_785 [.inl 100000] kan_785 16 = true := by decide +kernel
theorem kah_785 : ai_holds ka_785 := ai_thm kak_785 (ai_cons kah_784 (ai_cons kah_366 ai_nil))
/-- NeverAgainModel.in -/
def ka_786 : ai_K := (93, 0, ([], [hka09_205, hka09_8, hka09_195, hka09_8, hka09_204, hka09_8], [], hka09_193), [], [(some hka09_76, [], [])])
def kan_786 : List ai_Nd := []
set_option maxRecDepth 1000000 in
theorem kak_786 : ai_ck [] [] ka_786 [.inl 100000] kan_786 12 = true := by decide +kernel
theorem kah_786 : ai_holds ka_786 := ai_thm kak_786 ai_nil
/-- NeverAgainModel.isSheet -/
def ka_787 : ai_K := (147, 1, ([hka09_2], [hka09_83, hka09_46], [], hka09_193), [.inl 1], [(some hka09_62, [hka09_201], []), (some hka09_76, [hka09_54], []), (some hka09_76, [hka09_419], []), (some hka09_76, [hka09_741], []), (some hka09_62, [hka09_738], [])])
def kan_787 : List ai_Nd := []
set_option maxRecDepth 1000000 in
theorem kak_787 : ai_ck [ka_786, ka_366] [] ka_787 [.inl 100000] kan_787 16 = true := by decide +kernel
theorem kah_787 : ai_holds ka_787 := ai_thm kak_787 (ai_cons kah_786 (ai_cons kah_366 ai_nil))
/-- NeverAgainModel.in -/
def ka_788 : ai_K := (93, 0, ([], [hka09_191, hka09_8, hka09_195, hka09_8, hka09_204, hka09_8], [], hka09_193), [], [(some hka09_76, [], [])])
def kan_788 : List ai_Nd := []
set_option maxRecDepth 1000000 in
theorem kak_788 : ai_ck [] [] ka_788 [.inl 100000] kan_788 12 = true := by decide +kernel
theorem kah_788 : ai_holds ka_788 := ai_thm kak_788 ai_nil
/-- NeverAgainModel.isSheet -/
def ka_789 : ai_K := (147, 1, ([hka09_2], [hka09_76, hka09_46], [], hka09_193), [.inl 1], [(some hka09_62, [hka09_201], []), (some hka09_76, [hka09_54], []), (some hka09_76, [hka09_419], []), (some hka09_76, [hka09_741], []), (some hka09_62, [hka09_738], [])])
def kan_789 : List ai_Nd := []
set_option maxRecDepth 1000000 in
theorem kak_789 : ai_ck [ka_788, ka_366] [] ka_789 [.inl 100000] kan_789 16 = true := by decide +kernel
theorem kah_789 : ai_holds ka_789 := ai_thm kak_789 (ai_cons kah_788 (ai_cons kah_366 ai_nil))

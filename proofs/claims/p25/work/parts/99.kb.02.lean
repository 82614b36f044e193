/-! CONTRACTS found by wip/ai/an.py, each held by the kernel. -/
def hkb02_0 : Int × Int := (.ofNat 4, .ofNat 16)
def hkb02_1 : Int × Int := (.ofNat 1, .ofNat 4)
def hkb02_2 : Int × Int := (.negSucc 2147483647, .ofNat 2147483647)
def hkb02_3 : Int × Int := (.ofNat 0, .ofNat 60)
def hkb02_4 : Int × Int := (.ofNat 0, .ofNat 5)
def hkb02_5 : Int × Int := (.ofNat 0, .ofNat 4)
def hkb02_6 : ai_E := [hkb02_0, hkb02_1, hkb02_2, hkb02_2, hkb02_2, hkb02_3, hkb02_4, hkb02_5]
def hkb02_7 : ai_V := .inr (some (.ref 21))
def hkb02_8 : ai_V := .inr (some (.ref 8))
def hkb02_9 : ai_N := (.ofNat 0, .ofNat 0, [])
def hkb02_10 : ai_V := .inl (false, hkb02_9)
def hkb02_11 : ai_V := .inr none
def hkb02_12 : Bool × Option ai_C := (false, none)
def hkb02_13 : ai_V := .inr (some (.ref 9))
def hkb02_14 : ai_V := .inr (some (.ref 10))
def hkb02_15 : ai_V := .inr (some (.ref 11))
def hkb02_16 : ai_V := .inr (some (.ref 12))
def hkb02_17 : ai_V := .inr (some (.ref 13))
def hkb02_18 : ai_V := .inr (some (.ref 14))
def hkb02_19 : ai_N := (.ofNat 4, .ofNat 16, [(0, .ofNat 0, .ofNat 0)])
def hkb02_20 : ai_V := .inl (false, hkb02_19)
def hkb02_21 : ai_N := (.ofNat 1, .ofNat 4, [(1, .ofNat 0, .ofNat 0)])
def hkb02_22 : ai_V := .inl (false, hkb02_21)
def hkb02_23 : ai_N := (.negSucc 2147483647, .ofNat 2147483647, [(2, .ofNat 0, .ofNat 0)])
def hkb02_24 : ai_V := .inl (false, hkb02_23)
def hkb02_25 : ai_N := (.negSucc 2147483647, .ofNat 2147483647, [(3, .ofNat 0, .ofNat 0)])
def hkb02_26 : ai_V := .inl (false, hkb02_25)
def hkb02_27 : ai_N := (.negSucc 2147483647, .ofNat 2147483647, [(4, .ofNat 0, .ofNat 0)])
def hkb02_28 : ai_V := .inl (false, hkb02_27)
def hkb02_29 : ai_N := (.ofNat 0, .ofNat 60, [(5, .ofNat 0, .ofNat 0)])
def hkb02_30 : ai_V := .inl (false, hkb02_29)
def hkb02_31 : ai_N := (.ofNat 0, .ofNat 5, [(6, .ofNat 0, .ofNat 0)])
def hkb02_32 : ai_V := .inl (false, hkb02_31)
def hkb02_33 : ai_N := (.ofNat 0, .ofNat 4, [(7, .ofNat 0, .ofNat 0)])
def hkb02_34 : ai_V := .inl (false, hkb02_33)
def hkb02_35 : ai_C := .inr (.inr (6, [hkb02_13, hkb02_14, hkb02_15, hkb02_16, hkb02_17, hkb02_18, hkb02_20, hkb02_22, hkb02_24, hkb02_26, hkb02_28, hkb02_30, hkb02_32, hkb02_34]))
def hkb02_36 : Bool × Option ai_C := (false, some hkb02_35)
def hkb02_37 : ai_N := (.negSucc 2147483647, .ofNat 2147483647, [])
def hkb02_38 : ai_C := .inl (.int, [(4, hkb02_37)])
def hkb02_39 : Bool × Option ai_C := (false, some hkb02_38)
def hkb02_40 : ai_W := [hkb02_12, hkb02_12, hkb02_12, hkb02_12, hkb02_12, hkb02_12, hkb02_12, hkb02_12, hkb02_36, hkb02_39, hkb02_12, hkb02_12, hkb02_12, hkb02_12, hkb02_12, hkb02_12, hkb02_12, hkb02_12, hkb02_12, hkb02_12, hkb02_12, hkb02_12, hkb02_12, hkb02_12, hkb02_12, hkb02_12, hkb02_12, hkb02_12, hkb02_12, hkb02_12, hkb02_12, hkb02_12, hkb02_12, hkb02_12, hkb02_12, hkb02_12, hkb02_12, hkb02_12, hkb02_12, hkb02_12, hkb02_12, hkb02_12, hkb02_12, hkb02_12, hkb02_12, hkb02_12, hkb02_12, hkb02_12, hkb02_12, hkb02_12, hkb02_12, hkb02_12, hkb02_12, hkb02_12, hkb02_12, hkb02_12, hkb02_12, hkb02_12, hkb02_12, hkb02_12, hkb02_12, hkb02_12, hkb02_12, hkb02_12, hkb02_12, hkb02_12, hkb02_12, hkb02_12, hkb02_12, hkb02_12, hkb02_12, hkb02_12, hkb02_12, hkb02_12, hkb02_12, hkb02_12]
def hkb02_41 : ai_N := (.ofNat 1, .ofNat 1, [])
def hkb02_42 : ai_V := .inl (true, hkb02_41)
/-- NeverAgain$Planner.weightOfRows -/
def kb_325 : ai_K := (130, 0, (hkb02_6, [hkb02_7, hkb02_8, hkb02_10, hkb02_11, hkb02_11, hkb02_11, hkb02_11, hkb02_11], [], hkb02_40), [.inr (8, 6), .inr (8, 7), .inr (8, 8), .inr (8, 9), .inr (8, 10), .inr (8, 11), .inr (8, 12), .inr (8, 13)], [(some hkb02_42, hkb02_6, [])])
def hkb02_43 : ai_E := [hkb02_0, hkb02_1, hkb02_2, hkb02_2, hkb02_2, hkb02_3, hkb02_4, hkb02_5, hkb02_5]
def hkb02_44 : ai_N := (.negSucc 9223372036854775807, .ofNat 9223372036854775807, [])
def hkb02_45 : ai_V := .inl (true, hkb02_44)
def hkb02_46 : ai_N := (.ofNat 0, .ofNat 4, [(8, .ofNat 0, .ofNat 0)])
def hkb02_47 : ai_V := .inl (false, hkb02_46)
def hkb02_48 : Int × Int := (.ofNat 0, .ofNat 0)
def hkb02_49 : ai_E := [hkb02_0, hkb02_1, hkb02_2, hkb02_2, hkb02_2, hkb02_3, hkb02_4, hkb02_5, hkb02_48]
def hkb02_50 : ai_N := (.ofNat 0, .ofNat 0, [(8, .ofNat 0, .ofNat 0)])
def hkb02_51 : ai_V := .inl (false, hkb02_50)
def kbn_325 : List ai_Nd := [(5, (hkb02_43, [hkb02_7, hkb02_8, hkb02_10, hkb02_45, hkb02_11, hkb02_47, hkb02_11, hkb02_11], [], hkb02_40), [.inl 5], [.inl 99994, .inl 1, .inr (true, .ofNat 4, 8), .inl 100000]), (43, (hkb02_49, [hkb02_7, hkb02_8, hkb02_10, hkb02_45, hkb02_11, hkb02_42, hkb02_11, hkb02_51], [], hkb02_40), [.inl 7], [.inl 99956, .inl 1, .inr (true, .ofNat 0, 8), .inl 100000])]
set_option maxRecDepth 1000000 in
theorem kbk_325 : ai_ck [] [] kb_325 [.inl 100000, .inl 0, .inl 0, .inl 0] kbn_325 19 = true := by decide +kernel
theorem kbh_325 : ai_holds kb_325 := ai_thm kbk_325 ai_nil
def hkb02_52 : ai_W := [hkb02_12, hkb02_12, hkb02_12, hkb02_12, hkb02_12, hkb02_12, hkb02_12, hkb02_12, hkb02_12, hkb02_12, hkb02_12, hkb02_12, hkb02_12, hkb02_12, hkb02_12, hkb02_12, hkb02_12, hkb02_12, hkb02_12, hkb02_12, hkb02_12, hkb02_12, hkb02_12, hkb02_12, hkb02_12, hkb02_12, hkb02_12, hkb02_12, hkb02_12, hkb02_12, hkb02_12, hkb02_12, hkb02_12, hkb02_12, hkb02_12, hkb02_12, hkb02_12, hkb02_12, hkb02_12, hkb02_12, hkb02_12, hkb02_12, hkb02_12, hkb02_12, hkb02_12, hkb02_12, hkb02_12, hkb02_12, hkb02_12, hkb02_12, hkb02_12, hkb02_12, hkb02_12, hkb02_12, hkb02_12, hkb02_12, hkb02_12, hkb02_12, hkb02_12, hkb02_12, hkb02_12, hkb02_12, hkb02_12, hkb02_12, hkb02_12, hkb02_12, hkb02_12, hkb02_12, hkb02_12, hkb02_12, hkb02_12, hkb02_12, hkb02_12, hkb02_12, hkb02_12, hkb02_12]
def hkb02_53 : ai_V := .inl (true, hkb02_9)
/-- NeverAgain$Planner.strokesFrom -/
def kb_326 : ai_K := (171, 0, ([], [hkb02_7, hkb02_8, hkb02_10, hkb02_11, hkb02_11, hkb02_11, hkb02_11, hkb02_11, hkb02_11, hkb02_11, hkb02_11, hkb02_11, hkb02_11], [], hkb02_52), [], [(some hkb02_53, [], [])])
def kbn_326 : List ai_Nd := []
set_option maxRecDepth 1000000 in
theorem kbk_326 : ai_ck [] [] kb_326 [.inl 100000] kbn_326 5 = true := by decide +kernel
theorem kbh_326 : ai_holds kb_326 := ai_thm kbk_326 ai_nil
def hkb02_54 : Int × Int := (.ofNat 0, .ofNat 128)
def hkb02_55 : ai_E := [hkb02_0, hkb02_1, hkb02_2, hkb02_2, hkb02_2, hkb02_3, hkb02_4, hkb02_5, hkb02_54, hkb02_4, hkb02_2]
def hkb02_56 : ai_V := .inl (false, hkb02_41)
def hkb02_57 : ai_C := .inl (.int, [(17, hkb02_37)])
def hkb02_58 : Bool × Option ai_C := (false, some hkb02_57)
def hkb02_59 : ai_V := .inr (some (.ref 18))
def hkb02_60 : ai_V := .inr (some (.ref 19))
def hkb02_61 : ai_V := .inr (some (.ref 20))
def hkb02_62 : ai_N := (.ofNat 0, .ofNat 128, [(8, .ofNat 0, .ofNat 0)])
def hkb02_63 : ai_V := .inl (false, hkb02_62)
def hkb02_64 : ai_C := .inr (.inr (0, [hkb02_59, hkb02_60, hkb02_61, hkb02_8, hkb02_63]))
def hkb02_65 : Bool × Option ai_C := (false, some hkb02_64)
def hkb02_66 : ai_N := (.ofNat 0, .ofNat 16, [])
def hkb02_67 : ai_C := .inl (.int, [(128, hkb02_66)])
def hkb02_68 : Bool × Option ai_C := (false, some hkb02_67)
def hkb02_69 : ai_N := (.negSucc 0, .ofNat 127, [])
def hkb02_70 : ai_C := .inl (.int, [(128, hkb02_69)])
def hkb02_71 : Bool × Option ai_C := (false, some hkb02_70)
def hkb02_72 : ai_C := .inl (.int, [(17, hkb02_69)])
def hkb02_73 : Bool × Option ai_C := (false, some hkb02_72)
def hkb02_74 : ai_V := .inr (some (.ref 17))
def hkb02_75 : ai_V := .inr (some (.ref 22))
def hkb02_76 : ai_V := .inr (some (.ref 23))
def hkb02_77 : ai_V := .inr (some (.ref 24))
def hkb02_78 : ai_V := .inr (some (.ref 25))
def hkb02_79 : ai_N := (.ofNat 0, .ofNat 5, [(9, .ofNat 0, .ofNat 0)])
def hkb02_80 : ai_V := .inl (false, hkb02_79)
def hkb02_81 : ai_N := (.negSucc 2147483647, .ofNat 2147483647, [(10, .ofNat 0, .ofNat 0)])
def hkb02_82 : ai_V := .inl (false, hkb02_81)
def hkb02_83 : ai_C := .inr (.inr (2, [hkb02_74, hkb02_75, hkb02_76, hkb02_77, hkb02_78, hkb02_80, hkb02_82]))
def hkb02_84 : Bool × Option ai_C := (false, some hkb02_83)
def hkb02_85 : ai_W := [hkb02_12, hkb02_12, hkb02_12, hkb02_12, hkb02_12, hkb02_12, hkb02_12, hkb02_12, hkb02_36, hkb02_39, hkb02_58, hkb02_12, hkb02_12, hkb02_12, hkb02_12, hkb02_12, hkb02_12, hkb02_65, hkb02_68, hkb02_71, hkb02_73, hkb02_84, hkb02_12, hkb02_12, hkb02_12, hkb02_12, hkb02_12, hkb02_12, hkb02_12, hkb02_12, hkb02_12, hkb02_12, hkb02_12, hkb02_12, hkb02_12, hkb02_12, hkb02_12, hkb02_12, hkb02_12, hkb02_12, hkb02_12, hkb02_12, hkb02_12, hkb02_12, hkb02_12, hkb02_12, hkb02_12, hkb02_12, hkb02_12, hkb02_12, hkb02_12, hkb02_12, hkb02_12, hkb02_12, hkb02_12, hkb02_12, hkb02_12, hkb02_12, hkb02_12, hkb02_12, hkb02_12, hkb02_12, hkb02_12, hkb02_12, hkb02_12, hkb02_12, hkb02_12, hkb02_12, hkb02_12, hkb02_12, hkb02_12, hkb02_12, hkb02_12, hkb02_12, hkb02_12, hkb02_12]
def hkb02_86 : ai_N := (.ofNat 0, .ofNat 128, [(8, .negSucc 0, .ofNat 0)])
def hkb02_87 : ai_V := .inl (false, hkb02_86)
def hkb02_88 : ai_C := .inr (.inr (0, [hkb02_59, hkb02_60, hkb02_61, hkb02_8, hkb02_87]))
/-- NeverAgain$Planner.strokesFrom -/
def kb_327 : ai_K := (171, 4, (hkb02_55, [hkb02_7, hkb02_8, hkb02_56, hkb02_11, hkb02_11, hkb02_11, hkb02_11, hkb02_11, hkb02_11, hkb02_11, hkb02_11, hkb02_11, hkb02_11], [], hkb02_85), [.inr (8, 6), .inr (8, 7), .inr (8, 8), .inr (8, 9), .inr (8, 10), .inr (8, 11), .inr (8, 12), .inr (8, 13), .inr (17, 4), .inr (21, 5), .inr (21, 6)], [(some hkb02_45, hkb02_55, [(17, hkb02_88), (18, hkb02_67), (19, hkb02_70), (20, hkb02_72)])])
def hkb02_89 : ai_E := [hkb02_0, hkb02_1, hkb02_2, hkb02_2, hkb02_2, hkb02_3, hkb02_4, hkb02_5, hkb02_54, hkb02_4, hkb02_2, hkb02_5]
def hkb02_90 : ai_N := (.ofNat 0, .ofNat 4, [(11, .ofNat 0, .ofNat 0)])
def hkb02_91 : ai_V := .inl (false, hkb02_90)
def hkb02_92 : Bool × Option ai_C := (true, some hkb02_88)
def hkb02_93 : Bool × Option ai_C := (true, some hkb02_67)
def hkb02_94 : Bool × Option ai_C := (true, some hkb02_70)
def hkb02_95 : Bool × Option ai_C := (true, some hkb02_72)
def hkb02_96 : ai_W := [hkb02_12, hkb02_12, hkb02_12, hkb02_12, hkb02_12, hkb02_12, hkb02_12, hkb02_12, hkb02_36, hkb02_39, hkb02_58, hkb02_12, hkb02_12, hkb02_12, hkb02_12, hkb02_12, hkb02_12, hkb02_92, hkb02_93, hkb02_94, hkb02_95, hkb02_84, hkb02_12, hkb02_12, hkb02_12, hkb02_12, hkb02_12, hkb02_12, hkb02_12, hkb02_12, hkb02_12, hkb02_12, hkb02_12, hkb02_12, hkb02_12, hkb02_12, hkb02_12, hkb02_12, hkb02_12, hkb02_12, hkb02_12, hkb02_12, hkb02_12, hkb02_12, hkb02_12, hkb02_12, hkb02_12, hkb02_12, hkb02_12, hkb02_12, hkb02_12, hkb02_12, hkb02_12, hkb02_12, hkb02_12, hkb02_12, hkb02_12, hkb02_12, hkb02_12, hkb02_12, hkb02_12, hkb02_12, hkb02_12, hkb02_12, hkb02_12, hkb02_12, hkb02_12, hkb02_12, hkb02_12, hkb02_12, hkb02_12, hkb02_12, hkb02_12, hkb02_12, hkb02_12, hkb02_12]
def kbn_327 : List ai_Nd := [(21, (hkb02_89, [hkb02_7, hkb02_8, hkb02_56, hkb02_42, hkb02_11, hkb02_45, hkb02_11, hkb02_91, hkb02_11, hkb02_11, hkb02_11, hkb02_11, hkb02_11], [], hkb02_96), [.inl 7], [.inl 99978, .inl 1, .inr (true, .ofNat 4, 11), .inl 100000])]
set_option maxRecDepth 1000000 in
theorem kbk_327 : ai_ck [kb_262, kb_293, kb_261, kb_274, kb_325, kb_326] [] kb_327 [.inl 100000, .inl 0, .inl 0, .inl 0] kbn_327 52 = true := by decide +kernel
theorem kbh_327 : ai_holds kb_327 := ai_thm kbk_327 (ai_cons kbh_262 (ai_cons kbh_293 (ai_cons kbh_261 (ai_cons kbh_274 (ai_cons kbh_325 (ai_cons kbh_326 ai_nil))))))
def hkb02_97 : ai_N := (.ofNat 2, .ofNat 2, [])
def hkb02_98 : ai_V := .inl (false, hkb02_97)
def hkb02_99 : ai_N := (.ofNat 0, .ofNat 128, [(8, .negSucc 127, .ofNat 0)])
def hkb02_100 : ai_V := .inl (false, hkb02_99)
def hkb02_101 : ai_C := .inr (.inr (0, [hkb02_59, hkb02_60, hkb02_61, hkb02_8, hkb02_100]))
/-- NeverAgain$Planner.strokesFrom -/
def kb_328 : ai_K := (171, 5, (hkb02_55, [hkb02_7, hkb02_8, hkb02_98, hkb02_11, hkb02_11, hkb02_11, hkb02_11, hkb02_11, hkb02_11, hkb02_11, hkb02_11, hkb02_11, hkb02_11], [], hkb02_85), [.inr (8, 6), .inr (8, 7), .inr (8, 8), .inr (8, 9), .inr (8, 10), .inr (8, 11), .inr (8, 12), .inr (8, 13), .inr (17, 4), .inr (21, 5), .inr (21, 6)], [(some hkb02_45, hkb02_55, [(17, hkb02_101), (18, hkb02_67), (19, hkb02_70), (20, hkb02_72)])])
def hkb02_102 : Bool × Option ai_C := (true, some hkb02_101)
def hkb02_103 : ai_W := [hkb02_12, hkb02_12, hkb02_12, hkb02_12, hkb02_12, hkb02_12, hkb02_12, hkb02_12, hkb02_36, hkb02_39, hkb02_58, hkb02_12, hkb02_12, hkb02_12, hkb02_12, hkb02_12, hkb02_12, hkb02_102, hkb02_93, hkb02_94, hkb02_95, hkb02_84, hkb02_12, hkb02_12, hkb02_12, hkb02_12, hkb02_12, hkb02_12, hkb02_12, hkb02_12, hkb02_12, hkb02_12, hkb02_12, hkb02_12, hkb02_12, hkb02_12, hkb02_12, hkb02_12, hkb02_12, hkb02_12, hkb02_12, hkb02_12, hkb02_12, hkb02_12, hkb02_12, hkb02_12, hkb02_12, hkb02_12, hkb02_12, hkb02_12, hkb02_12, hkb02_12, hkb02_12, hkb02_12, hkb02_12, hkb02_12, hkb02_12, hkb02_12, hkb02_12, hkb02_12, hkb02_12, hkb02_12, hkb02_12, hkb02_12, hkb02_12, hkb02_12, hkb02_12, hkb02_12, hkb02_12, hkb02_12, hkb02_12, hkb02_12, hkb02_12, hkb02_12, hkb02_12, hkb02_12]
def kbn_328 : List ai_Nd := [(21, (hkb02_89, [hkb02_7, hkb02_8, hkb02_98, hkb02_45, hkb02_11, hkb02_45, hkb02_11, hkb02_91, hkb02_11, hkb02_11, hkb02_11, hkb02_11, hkb02_11], [], hkb02_103), [.inl 7], [.inl 99978, .inl 1, .inr (true, .ofNat 4, 11), .inl 100000])]
set_option maxRecDepth 1000000 in
theorem kbk_328 : ai_ck [kb_262, kb_293, kb_261, kb_274, kb_324, kb_327] [] kb_328 [.inl 100000, .inl 0, .inl 0, .inl 0] kbn_328 52 = true := by decide +kernel
theorem kbh_328 : ai_holds kb_328 := ai_thm kbk_328 (ai_cons kbh_262 (ai_cons kbh_293 (ai_cons kbh_261 (ai_cons kbh_274 (ai_cons kbh_324 (ai_cons kbh_327 ai_nil))))))
def hkb02_104 : ai_N := (.ofNat 3, .ofNat 3, [])
def hkb02_105 : ai_V := .inl (false, hkb02_104)
/-- NeverAgain$Planner.strokesFrom -/
def kb_329 : ai_K := (171, 6, (hkb02_55, [hkb02_7, hkb02_8, hkb02_105, hkb02_11, hkb02_11, hkb02_11, hkb02_11, hkb02_11, hkb02_11, hkb02_11, hkb02_11, hkb02_11, hkb02_11], [], hkb02_85), [.inr (8, 6), .inr (8, 7), .inr (8, 8), .inr (8, 9), .inr (8, 10), .inr (8, 11), .inr (8, 12), .inr (8, 13), .inr (17, 4), .inr (21, 5), .inr (21, 6)], [(some hkb02_45, hkb02_55, [(17, hkb02_101), (18, hkb02_67), (19, hkb02_70), (20, hkb02_72)])])
def kbn_329 : List ai_Nd := [(21, (hkb02_89, [hkb02_7, hkb02_8, hkb02_105, hkb02_45, hkb02_11, hkb02_45, hkb02_11, hkb02_91, hkb02_11, hkb02_11, hkb02_11, hkb02_11, hkb02_11], [], hkb02_103), [.inl 7], [.inl 99978, .inl 1, .inr (true, .ofNat 4, 11), .inl 100000])]
set_option maxRecDepth 1000000 in
theorem kbk_329 : ai_ck [kb_262, kb_293, kb_261, kb_274, kb_323, kb_328] [] kb_329 [.inl 100000, .inl 0, .inl 0, .inl 0] kbn_329 52 = true := by decide +kernel
theorem kbh_329 : ai_holds kb_329 := ai_thm kbk_329 (ai_cons kbh_262 (ai_cons kbh_293 (ai_cons kbh_261 (ai_cons kbh_274 (ai_cons kbh_323 (ai_cons kbh_328 ai_nil))))))
def hkb02_106 : ai_N := (.ofNat 4, .ofNat 4, [])
def hkb02_107 : ai_V := .inl (false, hkb02_106)
/-- NeverAgain$Planner.strokesFrom -/
def kb_330 : ai_K := (171, 7, (hkb02_55, [hkb02_7, hkb02_8, hkb02_107, hkb02_11, hkb02_11, hkb02_11, hkb02_11, hkb02_11, hkb02_11, hkb02_11, hkb02_11, hkb02_11, hkb02_11], [], hkb02_85), [.inr (8, 6), .inr (8, 7), .inr (8, 8), .inr (8, 9), .inr (8, 10), .inr (8, 11), .inr (8, 12), .inr (8, 13), .inr (17, 4), .inr (21, 5), .inr (21, 6)], [(some hkb02_45, hkb02_55, [(17, hkb02_101), (18, hkb02_67), (19, hkb02_70), (20, hkb02_72)])])
def kbn_330 : List ai_Nd := [(21, (hkb02_89, [hkb02_7, hkb02_8, hkb02_107, hkb02_45, hkb02_11, hkb02_45, hkb02_11, hkb02_91, hkb02_11, hkb02_11, hkb02_11, hkb02_11, hkb02_11], [], hkb02_103), [.inl 7], [.inl 99978, .inl 1, .inr (true, .ofNat 4, 11), .inl 100000])]
set_option maxRecDepth 1000000 in
theorem kbk_330 : ai_ck [kb_262, kb_293, kb_261, kb_274, kb_319, kb_329] [] kb_330 [.inl 100000, .inl 0, .inl 0, .inl 0] kbn_330 52 = true := by decide +kernel
theorem kbh_330 : ai_holds kb_330 := ai_thm kbk_330 (ai_cons kbh_262 (ai_cons kbh_293 (ai_cons kbh_261 (ai_cons kbh_274 (ai_cons kbh_319 (ai_cons kbh_329 ai_nil))))))
/-- NeverAgain$Planner.strokesOfRows -/
def kb_331 : ai_K := (131, 8, (hkb02_55, [hkb02_7, hkb02_8, hkb02_107], [], hkb02_85), [.inr (8, 6), .inr (8, 7), .inr (8, 8), .inr (8, 9), .inr (8, 10), .inr (8, 11), .inr (8, 12), .inr (8, 13), .inr (17, 4), .inr (21, 5), .inr (21, 6)], [(some hkb02_45, hkb02_55, [(17, hkb02_101), (18, hkb02_67), (19, hkb02_70), (20, hkb02_72)])])
def kbn_331 : List ai_Nd := []
set_option maxRecDepth 1000000 in
theorem kbk_331 : ai_ck [kb_330] [] kb_331 [.inl 100000] kbn_331 6 = true := by decide +kernel
theorem kbh_331 : ai_holds kb_331 := ai_thm kbk_331 (ai_cons kbh_330 ai_nil)
def hkb02_108 : Int × Int := (.negSucc 9223372036854775807, .ofNat 9223372036854775807)
def hkb02_109 : ai_E := [hkb02_108, hkb02_108]
def hkb02_110 : ai_N := (.negSucc 9223372036854775807, .ofNat 9223372036854775807, [(0, .ofNat 0, .ofNat 0)])
def hkb02_111 : ai_V := .inl (true, hkb02_110)
def hkb02_112 : ai_N := (.negSucc 9223372036854775807, .ofNat 9223372036854775807, [(1, .ofNat 0, .ofNat 0)])
def hkb02_113 : ai_V := .inl (true, hkb02_112)
/-- NeverAgain.greatestDivisor -/
def kb_332 : ai_K := (132, 0, (hkb02_109, [hkb02_111, hkb02_11, hkb02_113, hkb02_11, hkb02_11, hkb02_11, hkb02_11, hkb02_11, hkb02_11, hkb02_11, hkb02_11], [], hkb02_52), [.inl 0, .inl 2], [(some hkb02_45, hkb02_109, []), (some hkb02_45, hkb02_109, [])])
def hkb02_114 : Int × Int := (.ofNat 0, .ofNat 100)
def hkb02_115 : ai_E := [hkb02_108, hkb02_108, hkb02_114]
def hkb02_116 : ai_N := (.ofNat 0, .ofNat 100, [(2, .ofNat 0, .ofNat 0)])
def hkb02_117 : ai_V := .inl (false, hkb02_116)
def kbn_332 : List ai_Nd := [(9, (hkb02_115, [hkb02_111, hkb02_11, hkb02_113, hkb02_11, hkb02_45, hkb02_11, hkb02_45, hkb02_11, hkb02_117, hkb02_11, hkb02_11], [], hkb02_52), [.inl 8], [.inl 99990, .inl 1, .inr (true, .ofNat 100, 2), .inl 100000])]
set_option maxRecDepth 1000000 in
theorem kbk_332 : ai_ck [] [] kb_332 [.inl 100000, .inl 0, .inl 0, .inl 0] kbn_332 19 = true := by decide +kernel
theorem kbh_332 : ai_holds kb_332 := ai_thm kbk_332 ai_nil
/-- NeverAgain$Planner.strokesOfRows -/
def kb_333 : ai_K := (131, 7, (hkb02_55, [hkb02_7, hkb02_8, hkb02_105], [], hkb02_85), [.inr (8, 6), .inr (8, 7), .inr (8, 8), .inr (8, 9), .inr (8, 10), .inr (8, 11), .inr (8, 12), .inr (8, 13), .inr (17, 4), .inr (21, 5), .inr (21, 6)], [(some hkb02_45, hkb02_55, [(17, hkb02_101), (18, hkb02_67), (19, hkb02_70), (20, hkb02_72)])])
def kbn_333 : List ai_Nd := []
set_option maxRecDepth 1000000 in
theorem kbk_333 : ai_ck [kb_329] [] kb_333 [.inl 100000] kbn_333 6 = true := by decide +kernel
theorem kbh_333 : ai_holds kb_333 := ai_thm kbk_333 (ai_cons kbh_329 ai_nil)
/-- NeverAgain$Planner.strokesOfRows -/
def kb_334 : ai_K := (131, 6, (hkb02_55, [hkb02_7, hkb02_8, hkb02_98], [], hkb02_85), [.inr (8, 6), .inr (8, 7), .inr (8, 8), .inr (8, 9), .inr (8, 10), .inr (8, 11), .inr (8, 12), .inr (8, 13), .inr (17, 4), .inr (21, 5), .inr (21, 6)], [(some hkb02_45, hkb02_55, [(17, hkb02_101), (18, hkb02_67), (19, hkb02_70), (20, hkb02_72)])])
def kbn_334 : List ai_Nd := []
set_option maxRecDepth 1000000 in
theorem kbk_334 : ai_ck [kb_328] [] kb_334 [.inl 100000] kbn_334 6 = true := by decide +kernel
theorem kbh_334 : ai_holds kb_334 := ai_thm kbk_334 (ai_cons kbh_328 ai_nil)
/-- NeverAgain$Planner.strokesOfRows -/
def kb_335 : ai_K := (131, 5, (hkb02_55, [hkb02_7, hkb02_8, hkb02_56], [], hkb02_85), [.inr (8, 6), .inr (8, 7), .inr (8, 8), .inr (8, 9), .inr (8, 10), .inr (8, 11), .inr (8, 12), .inr (8, 13), .inr (17, 4), .inr (21, 5), .inr (21, 6)], [(some hkb02_45, hkb02_55, [(17, hkb02_88), (18, hkb02_67), (19, hkb02_70), (20, hkb02_72)])])
def kbn_335 : List ai_Nd := []
set_option maxRecDepth 1000000 in
theorem kbk_335 : ai_ck [kb_327] [] kb_335 [.inl 100000] kbn_335 6 = true := by decide +kernel
theorem kbh_335 : ai_holds kb_335 := ai_thm kbk_335 (ai_cons kbh_327 ai_nil)
def hkb02_118 : Int × Int := (.ofNat 0, .ofNat 12)
def hkb02_119 : Int × Int := (.ofNat 0, .ofNat 6)
def hkb02_120 : ai_E := [hkb02_2, hkb02_2, hkb02_118, hkb02_119, hkb02_5, hkb02_0, hkb02_1, hkb02_2, hkb02_2, hkb02_2, hkb02_3, hkb02_4, hkb02_5, hkb02_54, hkb02_4, hkb02_2]
def hkb02_121 : ai_V := .inr (some (.ref 0))
def hkb02_122 : ai_N := (.negSucc 2147483647, .ofNat 2147483647, [(0, .ofNat 0, .ofNat 0)])
def hkb02_123 : ai_V := .inl (false, hkb02_122)
def hkb02_124 : ai_N := (.negSucc 2147483647, .ofNat 2147483647, [(1, .ofNat 0, .ofNat 0)])
def hkb02_125 : ai_V := .inl (false, hkb02_124)
def hkb02_126 : ai_V := .inr (some (.ref 15))
def hkb02_127 : ai_V := .inr (some (.ref 26))
def hkb02_128 : ai_V := .inr (some (.ref 32))
def hkb02_129 : ai_V := .inr (some (.ref 35))
def hkb02_130 : ai_V := .inr (some (.ref 34))
def hkb02_131 : ai_V := .inr (some (.ref 50))
def hkb02_132 : ai_V := .inr (some (.ref 33))
def hkb02_133 : ai_V := .inr (some (.ref 1))
def hkb02_134 : ai_N := (.ofNat 0, .ofNat 12, [(2, .ofNat 0, .ofNat 0)])
def hkb02_135 : ai_V := .inl (false, hkb02_134)
def hkb02_136 : ai_N := (.ofNat 0, .ofNat 6, [(3, .ofNat 0, .ofNat 0)])
def hkb02_137 : ai_V := .inl (false, hkb02_136)
def hkb02_138 : ai_N := (.ofNat 0, .ofNat 4, [(4, .ofNat 0, .ofNat 0)])
def hkb02_139 : ai_V := .inl (false, hkb02_138)
def hkb02_140 : ai_C := .inr (.inr (7, [hkb02_126, hkb02_74, hkb02_7, hkb02_127, hkb02_128, hkb02_129, hkb02_130, hkb02_131, hkb02_132, hkb02_8, hkb02_133, hkb02_135, hkb02_137, hkb02_139]))
def hkb02_141 : Bool × Option ai_C := (false, some hkb02_140)
def hkb02_142 : ai_N := (.ofNat 4, .ofNat 16, [(5, .ofNat 0, .ofNat 0)])
def hkb02_143 : ai_V := .inl (false, hkb02_142)
def hkb02_144 : ai_N := (.ofNat 1, .ofNat 4, [(6, .ofNat 0, .ofNat 0)])
def hkb02_145 : ai_V := .inl (false, hkb02_144)
def hkb02_146 : ai_N := (.negSucc 2147483647, .ofNat 2147483647, [(7, .ofNat 0, .ofNat 0)])
def hkb02_147 : ai_V := .inl (false, hkb02_146)
def hkb02_148 : ai_N := (.negSucc 2147483647, .ofNat 2147483647, [(8, .ofNat 0, .ofNat 0)])
def hkb02_149 : ai_V := .inl (false, hkb02_148)
def hkb02_150 : ai_N := (.negSucc 2147483647, .ofNat 2147483647, [(9, .ofNat 0, .ofNat 0)])
def hkb02_151 : ai_V := .inl (false, hkb02_150)
def hkb02_152 : ai_N := (.ofNat 0, .ofNat 60, [(10, .ofNat 0, .ofNat 0)])
def hkb02_153 : ai_V := .inl (false, hkb02_152)
def hkb02_154 : ai_N := (.ofNat 0, .ofNat 5, [(11, .ofNat 0, .ofNat 0)])
def hkb02_155 : ai_V := .inl (false, hkb02_154)
def hkb02_156 : ai_N := (.ofNat 0, .ofNat 4, [(12, .ofNat 0, .ofNat 0)])
def hkb02_157 : ai_V := .inl (false, hkb02_156)
def hkb02_158 : ai_C := .inr (.inr (6, [hkb02_13, hkb02_14, hkb02_15, hkb02_16, hkb02_17, hkb02_18, hkb02_143, hkb02_145, hkb02_147, hkb02_149, hkb02_151, hkb02_153, hkb02_155, hkb02_157]))
def hkb02_159 : Bool × Option ai_C := (false, some hkb02_158)
def hkb02_160 : ai_C := .inl (.int, [(60, hkb02_37)])
def hkb02_161 : Bool × Option ai_C := (false, some hkb02_160)
def hkb02_162 : ai_N := (.ofNat 0, .ofNat 128, [(13, .ofNat 0, .ofNat 0)])
def hkb02_163 : ai_V := .inl (false, hkb02_162)
def hkb02_164 : ai_C := .inr (.inr (0, [hkb02_59, hkb02_60, hkb02_61, hkb02_11, hkb02_163]))
def hkb02_165 : Bool × Option ai_C := (false, some hkb02_164)
def hkb02_166 : ai_N := (.ofNat 0, .ofNat 5, [(14, .ofNat 0, .ofNat 0)])
def hkb02_167 : ai_V := .inl (false, hkb02_166)
def hkb02_168 : ai_N := (.negSucc 2147483647, .ofNat 2147483647, [(15, .ofNat 0, .ofNat 0)])
def hkb02_169 : ai_V := .inl (false, hkb02_168)
def hkb02_170 : ai_C := .inr (.inr (2, [hkb02_74, hkb02_75, hkb02_76, hkb02_77, hkb02_78, hkb02_167, hkb02_169]))
def hkb02_171 : Bool × Option ai_C := (false, some hkb02_170)
def hkb02_172 : ai_W := [hkb02_141, hkb02_12, hkb02_12, hkb02_12, hkb02_12, hkb02_12, hkb02_12, hkb02_12, hkb02_159, hkb02_39, hkb02_58, hkb02_161, hkb02_12, hkb02_12, hkb02_12, hkb02_12, hkb02_12, hkb02_165, hkb02_68, hkb02_71, hkb02_73, hkb02_171, hkb02_12, hkb02_12, hkb02_12, hkb02_12, hkb02_12, hkb02_12, hkb02_12, hkb02_12, hkb02_12, hkb02_12, hkb02_12, hkb02_12, hkb02_12, hkb02_12, hkb02_12, hkb02_12, hkb02_12, hkb02_12, hkb02_12, hkb02_12, hkb02_12, hkb02_12, hkb02_12, hkb02_12, hkb02_12, hkb02_12, hkb02_12, hkb02_12, hkb02_12, hkb02_12, hkb02_12, hkb02_12, hkb02_12, hkb02_12, hkb02_12, hkb02_12, hkb02_12, hkb02_12, hkb02_12, hkb02_12, hkb02_12, hkb02_12, hkb02_12, hkb02_12, hkb02_12, hkb02_12, hkb02_12, hkb02_12, hkb02_12, hkb02_12, hkb02_12, hkb02_12, hkb02_12, hkb02_12]
def hkb02_173 : ai_N := (.negSucc 0, .negSucc 0, [])
def hkb02_174 : ai_V := .inl (true, hkb02_173)
def hkb02_175 : Int × Int := (.ofNat 0, .ofNat 1)
def hkb02_176 : ai_E := [hkb02_1, hkb02_175, hkb02_118, hkb02_119, hkb02_5, hkb02_0, hkb02_1, hkb02_2, hkb02_2, hkb02_2, hkb02_3, hkb02_4, hkb02_5, hkb02_54, hkb02_4, hkb02_2]
def hkb02_177 : ai_N := (.ofNat 0, .ofNat 128, [])
def hkb02_178 : ai_V := .inl (false, hkb02_177)
def hkb02_179 : ai_C := .inr (.inr (0, [hkb02_59, hkb02_60, hkb02_61, hkb02_8, hkb02_178]))
/-- NeverAgain.mean -/
def kb_336 : ai_K := (55, 9, (hkb02_120, [hkb02_121, hkb02_123, hkb02_125, hkb02_11, hkb02_11, hkb02_11, hkb02_11, hkb02_11, hkb02_11], [], hkb02_172), [.inl 1, .inl 2, .inr (0, 11), .inr (0, 12), .inr (0, 13), .inr (8, 6), .inr (8, 7), .inr (8, 8), .inr (8, 9), .inr (8, 10), .inr (8, 11), .inr (8, 12), .inr (8, 13), .inr (17, 4), .inr (21, 5), .inr (21, 6)], [(some hkb02_174, hkb02_120, []), (some hkb02_45, hkb02_176, [(17, hkb02_179), (18, hkb02_67), (19, hkb02_70), (20, hkb02_72)]), (some hkb02_174, hkb02_176, [(17, hkb02_179), (18, hkb02_67), (19, hkb02_70), (20, hkb02_72)])])
def kbn_336 : List ai_Nd := []
set_option maxRecDepth 1000000 in
theorem kbk_336 : ai_ck [kb_331, kb_333, kb_334, kb_335, kb_263, kb_318, kb_319, kb_323, kb_324, kb_332] [(0, .inl 1, [.ofNat 1, .ofNat 2, .ofNat 3, .ofNat 4, .ofNat 5])] kb_336 [.inl 100000] kbn_336 47 = true := by decide +kernel
theorem kbh_336 : ai_holds kb_336 := ai_thm kbk_336 (ai_cons kbh_331 (ai_cons kbh_333 (ai_cons kbh_334 (ai_cons kbh_335 (ai_cons kbh_263 (ai_cons kbh_318 (ai_cons kbh_319 (ai_cons kbh_323 (ai_cons kbh_324 (ai_cons kbh_332 ai_nil))))))))))
def hkb02_180 : ai_E := [hkb02_2, hkb02_0, hkb02_1, hkb02_2, hkb02_2, hkb02_2, hkb02_3, hkb02_4, hkb02_5, hkb02_54]
def hkb02_181 : ai_N := (.ofNat 4, .ofNat 16, [(1, .ofNat 0, .ofNat 0)])
def hkb02_182 : ai_V := .inl (false, hkb02_181)
def hkb02_183 : ai_N := (.ofNat 1, .ofNat 4, [(2, .ofNat 0, .ofNat 0)])
def hkb02_184 : ai_V := .inl (false, hkb02_183)
def hkb02_185 : ai_N := (.negSucc 2147483647, .ofNat 2147483647, [(5, .ofNat 0, .ofNat 0)])
def hkb02_186 : ai_V := .inl (false, hkb02_185)
def hkb02_187 : ai_N := (.ofNat 0, .ofNat 60, [(6, .ofNat 0, .ofNat 0)])
def hkb02_188 : ai_V := .inl (false, hkb02_187)
def hkb02_189 : ai_N := (.ofNat 0, .ofNat 5, [(7, .ofNat 0, .ofNat 0)])
def hkb02_190 : ai_V := .inl (false, hkb02_189)
def hkb02_191 : ai_C := .inr (.inr (6, [hkb02_13, hkb02_14, hkb02_15, hkb02_16, hkb02_17, hkb02_18, hkb02_182, hkb02_184, hkb02_26, hkb02_28, hkb02_186, hkb02_188, hkb02_190, hkb02_47]))
def hkb02_192 : Bool × Option ai_C := (false, some hkb02_191)
def hkb02_193 : ai_N := (.ofNat 0, .ofNat 128, [(9, .ofNat 0, .ofNat 0)])
def hkb02_194 : ai_V := .inl (false, hkb02_193)
def hkb02_195 : ai_C := .inr (.inr (0, [hkb02_59, hkb02_60, hkb02_61, hkb02_11, hkb02_194]))
def hkb02_196 : Bool × Option ai_C := (false, some hkb02_195)
def hkb02_197 : ai_W := [hkb02_12, hkb02_12, hkb02_12, hkb02_12, hkb02_12, hkb02_12, hkb02_12, hkb02_12, hkb02_192, hkb02_12, hkb02_12, hkb02_161, hkb02_12, hkb02_12, hkb02_12, hkb02_12, hkb02_12, hkb02_196, hkb02_68, hkb02_71, hkb02_73, hkb02_12, hkb02_12, hkb02_12, hkb02_12, hkb02_12, hkb02_12, hkb02_12, hkb02_12, hkb02_12, hkb02_12, hkb02_12, hkb02_12, hkb02_12, hkb02_12, hkb02_12, hkb02_12, hkb02_12, hkb02_12, hkb02_12, hkb02_12, hkb02_12, hkb02_12, hkb02_12, hkb02_12, hkb02_12, hkb02_12, hkb02_12, hkb02_12, hkb02_12, hkb02_12, hkb02_12, hkb02_12, hkb02_12, hkb02_12, hkb02_12, hkb02_12, hkb02_12, hkb02_12, hkb02_12, hkb02_12, hkb02_12, hkb02_12, hkb02_12, hkb02_12, hkb02_12, hkb02_12, hkb02_12, hkb02_12, hkb02_12, hkb02_12, hkb02_12, hkb02_12, hkb02_12, hkb02_12, hkb02_12]
/-- NeverAgain$Almanac.begin -/
def kb_337 : ai_K := (103, 1, (hkb02_180, [hkb02_74, hkb02_8, hkb02_123, hkb02_11], [], hkb02_197), [.inl 2, .inr (8, 6), .inr (8, 7), .inr (8, 8), .inr (8, 9), .inr (8, 10), .inr (8, 11), .inr (8, 12), .inr (8, 13), .inr (17, 4)], [(none, hkb02_180, [(17, hkb02_179), (18, hkb02_67), (19, hkb02_70), (20, hkb02_72)])])
def hkb02_198 : ai_E := [hkb02_2, hkb02_0, hkb02_1, hkb02_2, hkb02_2, hkb02_2, hkb02_3, hkb02_4, hkb02_5, hkb02_54, hkb02_3]
def hkb02_199 : Bool × Option ai_C := (true, some hkb02_179)
def hkb02_200 : ai_W := [hkb02_12, hkb02_12, hkb02_12, hkb02_12, hkb02_12, hkb02_12, hkb02_12, hkb02_12, hkb02_192, hkb02_12, hkb02_12, hkb02_161, hkb02_12, hkb02_12, hkb02_12, hkb02_12, hkb02_12, hkb02_199, hkb02_93, hkb02_94, hkb02_95, hkb02_12, hkb02_12, hkb02_12, hkb02_12, hkb02_12, hkb02_12, hkb02_12, hkb02_12, hkb02_12, hkb02_12, hkb02_12, hkb02_12, hkb02_12, hkb02_12, hkb02_12, hkb02_12, hkb02_12, hkb02_12, hkb02_12, hkb02_12, hkb02_12, hkb02_12, hkb02_12, hkb02_12, hkb02_12, hkb02_12, hkb02_12, hkb02_12, hkb02_12, hkb02_12, hkb02_12, hkb02_12, hkb02_12, hkb02_12, hkb02_12, hkb02_12, hkb02_12, hkb02_12, hkb02_12, hkb02_12, hkb02_12, hkb02_12, hkb02_12, hkb02_12, hkb02_12, hkb02_12, hkb02_12, hkb02_12, hkb02_12, hkb02_12, hkb02_12, hkb02_12, hkb02_12, hkb02_12, hkb02_12]
def kbn_337 : List ai_Nd := [(20, (hkb02_198, [hkb02_74, hkb02_8, hkb02_123, hkb02_153], [], hkb02_200), [.inl 3], [.inl 99979, .inl 1, .inr (true, .ofNat 60, 10), .inl 100000])]
set_option maxRecDepth 1000000 in
theorem kbk_337 : ai_ck [kb_262, kb_261, kb_260] [] kb_337 [.inl 100000, .inl 0, .inl 0, .inl 0] kbn_337 24 = true := by decide +kernel
theorem kbh_337 : ai_holds kb_337 := ai_thm kbk_337 (ai_cons kbh_262 (ai_cons kbh_261 (ai_cons kbh_260 ai_nil)))
def hkb02_201 : ai_E := [hkb02_2, hkb02_2, hkb02_118, hkb02_119, hkb02_5, hkb02_0, hkb02_1, hkb02_2, hkb02_2, hkb02_2, hkb02_3, hkb02_4, hkb02_5, hkb02_54]
def hkb02_202 : ai_W := [hkb02_141, hkb02_12, hkb02_12, hkb02_12, hkb02_12, hkb02_12, hkb02_12, hkb02_12, hkb02_159, hkb02_12, hkb02_58, hkb02_161, hkb02_12, hkb02_12, hkb02_12, hkb02_12, hkb02_12, hkb02_165, hkb02_68, hkb02_71, hkb02_73, hkb02_12, hkb02_12, hkb02_12, hkb02_12, hkb02_12, hkb02_12, hkb02_12, hkb02_12, hkb02_12, hkb02_12, hkb02_12, hkb02_12, hkb02_12, hkb02_12, hkb02_12, hkb02_12, hkb02_12, hkb02_12, hkb02_12, hkb02_12, hkb02_12, hkb02_12, hkb02_12, hkb02_12, hkb02_12, hkb02_12, hkb02_12, hkb02_12, hkb02_12, hkb02_12, hkb02_12, hkb02_12, hkb02_12, hkb02_12, hkb02_12, hkb02_12, hkb02_12, hkb02_12, hkb02_12, hkb02_12, hkb02_12, hkb02_12, hkb02_12, hkb02_12, hkb02_12, hkb02_12, hkb02_12, hkb02_12, hkb02_12, hkb02_12, hkb02_12, hkb02_12, hkb02_12, hkb02_12, hkb02_12]
def hkb02_203 : ai_V := .inl (false, hkb02_173)
def hkb02_204 : ai_N := (.negSucc 3, .negSucc 3, [])
def hkb02_205 : ai_V := .inl (false, hkb02_204)
def hkb02_206 : Int × Int := (.ofNat 0, .ofNat 10)
def hkb02_207 : Int × Int := (.ofNat 1, .ofNat 16)
def hkb02_208 : ai_E := [hkb02_206, hkb02_207, hkb02_118, hkb02_119, hkb02_5, hkb02_0, hkb02_1, hkb02_2, hkb02_2, hkb02_2, hkb02_3, hkb02_4, hkb02_5, hkb02_54]
def hkb02_209 : ai_V := .inl (false, hkb02_37)
/-- NeverAgain.reads -/
def kb_338 : ai_K := (57, 2, (hkb02_201, [hkb02_121, hkb02_123, hkb02_125], [], hkb02_202), [.inl 1, .inl 2, .inr (0, 11), .inr (0, 12), .inr (0, 13), .inr (8, 6), .inr (8, 7), .inr (8, 8), .inr (8, 9), .inr (8, 10), .inr (8, 11), .inr (8, 12), .inr (8, 13), .inr (17, 4)], [(some hkb02_203, hkb02_201, []), (some hkb02_205, hkb02_208, [(17, hkb02_179), (18, hkb02_67), (19, hkb02_70), (20, hkb02_72)]), (some hkb02_209, hkb02_208, [(17, hkb02_179), (18, hkb02_67), (19, hkb02_70), (20, hkb02_72)])])
def kbn_338 : List ai_Nd := []
set_option maxRecDepth 1000000 in
theorem kbk_338 : ai_ck [kb_253, kb_265, kb_337, kb_268] [] kb_338 [.inl 100000] kbn_338 25 = true := by decide +kernel
theorem kbh_338 : ai_holds kb_338 := ai_thm kbk_338 (ai_cons kbh_253 (ai_cons kbh_265 (ai_cons kbh_337 (ai_cons kbh_268 ai_nil))))
def hkb02_210 : ai_E := [hkb02_2, hkb02_118, hkb02_119, hkb02_5, hkb02_0, hkb02_1, hkb02_2, hkb02_2, hkb02_2, hkb02_3, hkb02_4, hkb02_5, hkb02_54]
def hkb02_211 : ai_N := (.ofNat 0, .ofNat 12, [(1, .ofNat 0, .ofNat 0)])
def hkb02_212 : ai_V := .inl (false, hkb02_211)
def hkb02_213 : ai_N := (.ofNat 0, .ofNat 6, [(2, .ofNat 0, .ofNat 0)])
def hkb02_214 : ai_V := .inl (false, hkb02_213)
def hkb02_215 : ai_N := (.ofNat 0, .ofNat 4, [(3, .ofNat 0, .ofNat 0)])
def hkb02_216 : ai_V := .inl (false, hkb02_215)
def hkb02_217 : ai_C := .inr (.inr (7, [hkb02_126, hkb02_74, hkb02_7, hkb02_127, hkb02_128, hkb02_129, hkb02_130, hkb02_131, hkb02_132, hkb02_8, hkb02_133, hkb02_212, hkb02_214, hkb02_216]))
def hkb02_218 : Bool × Option ai_C := (false, some hkb02_217)
def hkb02_219 : ai_N := (.ofNat 4, .ofNat 16, [(4, .ofNat 0, .ofNat 0)])
def hkb02_220 : ai_V := .inl (false, hkb02_219)
def hkb02_221 : ai_N := (.ofNat 1, .ofNat 4, [(5, .ofNat 0, .ofNat 0)])
def hkb02_222 : ai_V := .inl (false, hkb02_221)
def hkb02_223 : ai_N := (.negSucc 2147483647, .ofNat 2147483647, [(6, .ofNat 0, .ofNat 0)])
def hkb02_224 : ai_V := .inl (false, hkb02_223)
def hkb02_225 : ai_N := (.ofNat 0, .ofNat 60, [(9, .ofNat 0, .ofNat 0)])
def hkb02_226 : ai_V := .inl (false, hkb02_225)
def hkb02_227 : ai_N := (.ofNat 0, .ofNat 5, [(10, .ofNat 0, .ofNat 0)])
def hkb02_228 : ai_V := .inl (false, hkb02_227)
def hkb02_229 : ai_C := .inr (.inr (6, [hkb02_13, hkb02_14, hkb02_15, hkb02_16, hkb02_17, hkb02_18, hkb02_220, hkb02_222, hkb02_224, hkb02_147, hkb02_149, hkb02_226, hkb02_228, hkb02_91]))
def hkb02_230 : Bool × Option ai_C := (false, some hkb02_229)
def hkb02_231 : ai_N := (.ofNat 0, .ofNat 128, [(12, .ofNat 0, .ofNat 0)])
def hkb02_232 : ai_V := .inl (false, hkb02_231)
def hkb02_233 : ai_C := .inr (.inr (0, [hkb02_59, hkb02_60, hkb02_61, hkb02_11, hkb02_232]))
def hkb02_234 : Bool × Option ai_C := (false, some hkb02_233)
def hkb02_235 : ai_W := [hkb02_218, hkb02_12, hkb02_12, hkb02_12, hkb02_12, hkb02_12, hkb02_12, hkb02_12, hkb02_230, hkb02_12, hkb02_58, hkb02_161, hkb02_12, hkb02_12, hkb02_12, hkb02_12, hkb02_12, hkb02_234, hkb02_68, hkb02_71, hkb02_73, hkb02_12, hkb02_12, hkb02_12, hkb02_12, hkb02_12, hkb02_12, hkb02_12, hkb02_12, hkb02_12, hkb02_12, hkb02_12, hkb02_12, hkb02_12, hkb02_12, hkb02_12, hkb02_12, hkb02_12, hkb02_12, hkb02_12, hkb02_12, hkb02_12, hkb02_12, hkb02_12, hkb02_12, hkb02_12, hkb02_12, hkb02_12, hkb02_12, hkb02_12, hkb02_12, hkb02_12, hkb02_12, hkb02_12, hkb02_12, hkb02_12, hkb02_12, hkb02_12, hkb02_12, hkb02_12, hkb02_12, hkb02_12, hkb02_12, hkb02_12, hkb02_12, hkb02_12, hkb02_12, hkb02_12, hkb02_12, hkb02_12, hkb02_12, hkb02_12, hkb02_12, hkb02_12, hkb02_12, hkb02_12]
def hkb02_236 : Int × Int := (.ofNat 11, .ofNat 2147483647)
def hkb02_237 : ai_E := [hkb02_236, hkb02_118, hkb02_119, hkb02_5, hkb02_0, hkb02_1, hkb02_2, hkb02_2, hkb02_2, hkb02_3, hkb02_4, hkb02_5, hkb02_54]
def hkb02_238 : Int × Int := (.negSucc 2147483647, .negSucc 0)
def hkb02_239 : ai_E := [hkb02_238, hkb02_118, hkb02_119, hkb02_5, hkb02_0, hkb02_1, hkb02_2, hkb02_2, hkb02_2, hkb02_3, hkb02_4, hkb02_5, hkb02_54]
def hkb02_240 : ai_E := [hkb02_206, hkb02_118, hkb02_119, hkb02_5, hkb02_0, hkb02_1, hkb02_2, hkb02_2, hkb02_2, hkb02_3, hkb02_4, hkb02_5, hkb02_54]
/-- NeverAgain.alike -/
def kb_339 : ai_K := (59, 2, (hkb02_210, [hkb02_121, hkb02_123, hkb02_11, hkb02_11, hkb02_11, hkb02_11, hkb02_11, hkb02_11], [], hkb02_235), [.inl 1, .inr (0, 11), .inr (0, 12), .inr (0, 13), .inr (8, 6), .inr (8, 7), .inr (8, 8), .inr (8, 9), .inr (8, 10), .inr (8, 11), .inr (8, 12), .inr (8, 13), .inr (17, 4)], [(some hkb02_203, hkb02_237, []), (some hkb02_203, hkb02_239, []), (some hkb02_209, hkb02_240, [(17, hkb02_179), (18, hkb02_67), (19, hkb02_70), (20, hkb02_72)])])
def hkb02_241 : Int × Int := (.ofNat 1, .ofNat 17)
def hkb02_242 : ai_E := [hkb02_206, hkb02_118, hkb02_119, hkb02_5, hkb02_0, hkb02_1, hkb02_2, hkb02_2, hkb02_2, hkb02_3, hkb02_4, hkb02_5, hkb02_54, hkb02_241]
def hkb02_243 : ai_N := (.ofNat 0, .ofNat 10, [(0, .ofNat 0, .ofNat 0)])
def hkb02_244 : ai_V := .inl (false, hkb02_243)
def hkb02_245 : ai_N := (.ofNat 1, .ofNat 17, [(13, .ofNat 0, .ofNat 0)])
def hkb02_246 : ai_V := .inl (false, hkb02_245)
def hkb02_247 : ai_W := [hkb02_218, hkb02_12, hkb02_12, hkb02_12, hkb02_12, hkb02_12, hkb02_12, hkb02_12, hkb02_230, hkb02_12, hkb02_58, hkb02_161, hkb02_12, hkb02_12, hkb02_12, hkb02_12, hkb02_12, hkb02_199, hkb02_93, hkb02_94, hkb02_95, hkb02_12, hkb02_12, hkb02_12, hkb02_12, hkb02_12, hkb02_12, hkb02_12, hkb02_12, hkb02_12, hkb02_12, hkb02_12, hkb02_12, hkb02_12, hkb02_12, hkb02_12, hkb02_12, hkb02_12, hkb02_12, hkb02_12, hkb02_12, hkb02_12, hkb02_12, hkb02_12, hkb02_12, hkb02_12, hkb02_12, hkb02_12, hkb02_12, hkb02_12, hkb02_12, hkb02_12, hkb02_12, hkb02_12, hkb02_12, hkb02_12, hkb02_12, hkb02_12, hkb02_12, hkb02_12, hkb02_12, hkb02_12, hkb02_12, hkb02_12, hkb02_12, hkb02_12, hkb02_12, hkb02_12, hkb02_12, hkb02_12, hkb02_12, hkb02_12, hkb02_12, hkb02_12, hkb02_12, hkb02_12]
def kbn_339 : List ai_Nd := [(58, (hkb02_242, [hkb02_121, hkb02_244, hkb02_209, hkb02_209, hkb02_209, hkb02_246, hkb02_11, hkb02_11], [], hkb02_247), [.inl 5], [.inl 99941, .inl 1, .inr (true, .ofNat 17, 13), .inl 100000])]
set_option maxRecDepth 1000000 in
theorem kbk_339 : ai_ck [kb_263, kb_265, kb_337, kb_268] [] kb_339 [.inl 100000, .inl 0, .inl 0, .inl 0] kbn_339 42 = true := by decide +kernel
theorem kbh_339 : ai_holds kb_339 := ai_thm kbk_339 (ai_cons kbh_263 (ai_cons kbh_265 (ai_cons kbh_337 (ai_cons kbh_268 ai_nil))))
def hkb02_248 : ai_E := [hkb02_2, hkb02_2, hkb02_0, hkb02_1, hkb02_2, hkb02_2, hkb02_2, hkb02_3, hkb02_4, hkb02_5]
def hkb02_249 : ai_N := (.ofNat 4, .ofNat 16, [(2, .ofNat 0, .ofNat 0)])
def hkb02_250 : ai_V := .inl (false, hkb02_249)
def hkb02_251 : ai_N := (.ofNat 1, .ofNat 4, [(3, .ofNat 0, .ofNat 0)])
def hkb02_252 : ai_V := .inl (false, hkb02_251)
def hkb02_253 : ai_N := (.ofNat 0, .ofNat 60, [(7, .ofNat 0, .ofNat 0)])
def hkb02_254 : ai_V := .inl (false, hkb02_253)
def hkb02_255 : ai_N := (.ofNat 0, .ofNat 5, [(8, .ofNat 0, .ofNat 0)])
def hkb02_256 : ai_V := .inl (false, hkb02_255)
def hkb02_257 : ai_N := (.ofNat 0, .ofNat 4, [(9, .ofNat 0, .ofNat 0)])
def hkb02_258 : ai_V := .inl (false, hkb02_257)
def hkb02_259 : ai_C := .inr (.inr (6, [hkb02_13, hkb02_14, hkb02_15, hkb02_16, hkb02_17, hkb02_18, hkb02_250, hkb02_252, hkb02_28, hkb02_186, hkb02_224, hkb02_254, hkb02_256, hkb02_258]))
def hkb02_260 : Bool × Option ai_C := (false, some hkb02_259)
def hkb02_261 : ai_W := [hkb02_12, hkb02_12, hkb02_12, hkb02_12, hkb02_12, hkb02_12, hkb02_12, hkb02_12, hkb02_260, hkb02_12, hkb02_12, hkb02_12, hkb02_12, hkb02_39, hkb02_39, hkb02_12, hkb02_12, hkb02_12, hkb02_12, hkb02_12, hkb02_12, hkb02_12, hkb02_12, hkb02_12, hkb02_12, hkb02_12, hkb02_12, hkb02_12, hkb02_12, hkb02_12, hkb02_12, hkb02_12, hkb02_12, hkb02_12, hkb02_12, hkb02_12, hkb02_12, hkb02_12, hkb02_12, hkb02_12, hkb02_12, hkb02_12, hkb02_12, hkb02_12, hkb02_12, hkb02_12, hkb02_12, hkb02_12, hkb02_12, hkb02_12, hkb02_12, hkb02_12, hkb02_12, hkb02_12, hkb02_12, hkb02_12, hkb02_12, hkb02_12, hkb02_12, hkb02_12, hkb02_12, hkb02_12, hkb02_12, hkb02_12, hkb02_12, hkb02_12, hkb02_12, hkb02_12, hkb02_12, hkb02_12, hkb02_12, hkb02_12, hkb02_12, hkb02_12, hkb02_12, hkb02_12]
def hkb02_262 : Int × Int := (.ofNat 4, .ofNat 4)
def hkb02_263 : ai_E := [hkb02_2, hkb02_2, hkb02_0, hkb02_1, hkb02_2, hkb02_2, hkb02_2, hkb02_3, hkb02_4, hkb02_262]
def hkb02_264 : Int × Int := (.ofNat 0, .ofNat 3)
def hkb02_265 : ai_E := [hkb02_2, hkb02_2, hkb02_0, hkb02_1, hkb02_2, hkb02_2, hkb02_2, hkb02_3, hkb02_4, hkb02_264]
def hkb02_266 : ai_N := (.ofNat 1, .ofNat 4, [(9, .ofNat 1, .ofNat 1)])
def hkb02_267 : ai_V := .inl (false, hkb02_266)
def hkb02_268 : ai_C := .inr (.inr (6, [hkb02_13, hkb02_14, hkb02_15, hkb02_16, hkb02_17, hkb02_18, hkb02_250, hkb02_252, hkb02_28, hkb02_186, hkb02_224, hkb02_254, hkb02_256, hkb02_267]))
/-- NeverAgain$Told.addWaiting -/
def kb_340 : ai_K := (136, 0, (hkb02_248, [hkb02_8, hkb02_123, hkb02_125], [], hkb02_261), [.inl 1, .inl 2, .inr (8, 6), .inr (8, 7), .inr (8, 8), .inr (8, 9), .inr (8, 10), .inr (8, 11), .inr (8, 12), .inr (8, 13)], [(some hkb02_10, hkb02_263, []), (some hkb02_56, hkb02_265, [(8, hkb02_268), (13, hkb02_38), (14, hkb02_38)])])
def kbn_340 : List ai_Nd := []
set_option maxRecDepth 1000000 in
theorem kbk_340 : ai_ck [] [] kb_340 [.inl 100000] kbn_340 25 = true := by decide +kernel
theorem kbh_340 : ai_holds kb_340 := ai_thm kbk_340 ai_nil
def hkb02_269 : ai_E := [hkb02_2, hkb02_2, hkb02_118, hkb02_119, hkb02_5, hkb02_0, hkb02_1, hkb02_2, hkb02_2, hkb02_2, hkb02_3, hkb02_4, hkb02_5]
def hkb02_270 : ai_W := [hkb02_141, hkb02_12, hkb02_12, hkb02_12, hkb02_12, hkb02_12, hkb02_12, hkb02_12, hkb02_159, hkb02_12, hkb02_12, hkb02_12, hkb02_12, hkb02_39, hkb02_39, hkb02_12, hkb02_12, hkb02_12, hkb02_12, hkb02_12, hkb02_12, hkb02_12, hkb02_12, hkb02_12, hkb02_12, hkb02_12, hkb02_12, hkb02_12, hkb02_12, hkb02_12, hkb02_12, hkb02_12, hkb02_12, hkb02_12, hkb02_12, hkb02_12, hkb02_12, hkb02_12, hkb02_12, hkb02_12, hkb02_12, hkb02_12, hkb02_12, hkb02_12, hkb02_12, hkb02_12, hkb02_12, hkb02_12, hkb02_12, hkb02_12, hkb02_12, hkb02_12, hkb02_12, hkb02_12, hkb02_12, hkb02_12, hkb02_12, hkb02_12, hkb02_12, hkb02_12, hkb02_12, hkb02_12, hkb02_12, hkb02_12, hkb02_12, hkb02_12, hkb02_12, hkb02_12, hkb02_12, hkb02_12, hkb02_12, hkb02_12, hkb02_12, hkb02_12, hkb02_12, hkb02_12]
def hkb02_271 : ai_E := [hkb02_238, hkb02_2, hkb02_118, hkb02_119, hkb02_5, hkb02_0, hkb02_1, hkb02_2, hkb02_2, hkb02_2, hkb02_3, hkb02_4, hkb02_5]
def hkb02_272 : Int × Int := (.ofNat 1, .ofNat 2147483647)
def hkb02_273 : ai_E := [hkb02_272, hkb02_2, hkb02_118, hkb02_119, hkb02_5, hkb02_0, hkb02_1, hkb02_2, hkb02_2, hkb02_2, hkb02_3, hkb02_4, hkb02_5]
def hkb02_274 : Int × Int := (.ofNat 5, .ofNat 2147483647)
def hkb02_275 : ai_E := [hkb02_264, hkb02_274, hkb02_118, hkb02_119, hkb02_5, hkb02_0, hkb02_1, hkb02_2, hkb02_2, hkb02_2, hkb02_3, hkb02_4, hkb02_5]
def hkb02_276 : ai_N := (.ofNat 1, .ofNat 4, [(12, .ofNat 1, .ofNat 1)])
def hkb02_277 : ai_V := .inl (false, hkb02_276)
def hkb02_278 : ai_E := [hkb02_264, hkb02_5, hkb02_118, hkb02_119, hkb02_5, hkb02_0, hkb02_1, hkb02_2, hkb02_2, hkb02_2, hkb02_3, hkb02_4, hkb02_264]
def hkb02_279 : ai_C := .inr (.inr (6, [hkb02_13, hkb02_14, hkb02_15, hkb02_16, hkb02_17, hkb02_18, hkb02_143, hkb02_145, hkb02_147, hkb02_149, hkb02_151, hkb02_153, hkb02_155, hkb02_277]))
def hkb02_280 : ai_N := (.negSucc 2, .negSucc 2, [])
def hkb02_281 : ai_V := .inl (false, hkb02_280)
def hkb02_282 : ai_E := [hkb02_264, hkb02_5, hkb02_118, hkb02_119, hkb02_5, hkb02_0, hkb02_1, hkb02_2, hkb02_2, hkb02_2, hkb02_3, hkb02_4, hkb02_262]
def hkb02_283 : ai_E := [hkb02_264, hkb02_238, hkb02_118, hkb02_119, hkb02_5, hkb02_0, hkb02_1, hkb02_2, hkb02_2, hkb02_2, hkb02_3, hkb02_4, hkb02_5]
/-- NeverAgain.stay -/
def kb_341 : ai_K := (61, 1, (hkb02_269, [hkb02_121, hkb02_123, hkb02_125], [], hkb02_270), [.inl 1, .inl 2, .inr (0, 11), .inr (0, 12), .inr (0, 13), .inr (8, 6), .inr (8, 7), .inr (8, 8), .inr (8, 9), .inr (8, 10), .inr (8, 11), .inr (8, 12), .inr (8, 13)], [(some hkb02_203, hkb02_271, []), (some hkb02_203, hkb02_273, []), (some hkb02_203, hkb02_275, []), (some hkb02_277, hkb02_278, [(8, hkb02_279), (13, hkb02_38), (14, hkb02_38)]), (some hkb02_281, hkb02_282, []), (some hkb02_203, hkb02_283, [])])
def kbn_341 : List ai_Nd := []
set_option maxRecDepth 1000000 in
theorem kbk_341 : ai_ck [kb_251, kb_340] [] kb_341 [.inl 100000] kbn_341 22 = true := by decide +kernel
theorem kbh_341 : ai_holds kb_341 := ai_thm kbk_341 (ai_cons kbh_251 (ai_cons kbh_340 ai_nil))
def hkb02_284 : ai_E := [hkb02_118, hkb02_119, hkb02_5, hkb02_0, hkb02_1, hkb02_2, hkb02_2, hkb02_2, hkb02_3, hkb02_4, hkb02_5]
def hkb02_285 : ai_N := (.ofNat 0, .ofNat 12, [(0, .ofNat 0, .ofNat 0)])
def hkb02_286 : ai_V := .inl (false, hkb02_285)
def hkb02_287 : ai_N := (.ofNat 0, .ofNat 6, [(1, .ofNat 0, .ofNat 0)])
def hkb02_288 : ai_V := .inl (false, hkb02_287)
def hkb02_289 : ai_N := (.ofNat 0, .ofNat 4, [(2, .ofNat 0, .ofNat 0)])
def hkb02_290 : ai_V := .inl (false, hkb02_289)
def hkb02_291 : ai_C := .inr (.inr (7, [hkb02_126, hkb02_74, hkb02_7, hkb02_127, hkb02_128, hkb02_129, hkb02_130, hkb02_131, hkb02_132, hkb02_8, hkb02_133, hkb02_286, hkb02_288, hkb02_290]))
def hkb02_292 : Bool × Option ai_C := (false, some hkb02_291)
def hkb02_293 : ai_N := (.ofNat 4, .ofNat 16, [(3, .ofNat 0, .ofNat 0)])
def hkb02_294 : ai_V := .inl (false, hkb02_293)
def hkb02_295 : ai_N := (.ofNat 1, .ofNat 4, [(4, .ofNat 0, .ofNat 0)])
def hkb02_296 : ai_V := .inl (false, hkb02_295)
def hkb02_297 : ai_N := (.ofNat 0, .ofNat 60, [(8, .ofNat 0, .ofNat 0)])
def hkb02_298 : ai_V := .inl (false, hkb02_297)
def hkb02_299 : ai_N := (.ofNat 0, .ofNat 4, [(10, .ofNat 0, .ofNat 0)])
def hkb02_300 : ai_V := .inl (false, hkb02_299)
def hkb02_301 : ai_C := .inr (.inr (6, [hkb02_13, hkb02_14, hkb02_15, hkb02_16, hkb02_17, hkb02_18, hkb02_294, hkb02_296, hkb02_186, hkb02_224, hkb02_147, hkb02_298, hkb02_80, hkb02_300]))
def hkb02_302 : Bool × Option ai_C := (false, some hkb02_301)
def hkb02_303 : ai_W := [hkb02_292, hkb02_12, hkb02_12, hkb02_12, hkb02_12, hkb02_12, hkb02_12, hkb02_12, hkb02_302, hkb02_12, hkb02_12, hkb02_12, hkb02_12, hkb02_12, hkb02_12, hkb02_12, hkb02_12, hkb02_12, hkb02_12, hkb02_12, hkb02_12, hkb02_12, hkb02_12, hkb02_12, hkb02_12, hkb02_12, hkb02_12, hkb02_12, hkb02_12, hkb02_12, hkb02_12, hkb02_12, hkb02_12, hkb02_12, hkb02_12, hkb02_12, hkb02_12, hkb02_12, hkb02_12, hkb02_12, hkb02_12, hkb02_12, hkb02_12, hkb02_12, hkb02_12, hkb02_12, hkb02_12, hkb02_12, hkb02_12, hkb02_12, hkb02_12, hkb02_12, hkb02_12, hkb02_12, hkb02_12, hkb02_12, hkb02_12, hkb02_12, hkb02_12, hkb02_12, hkb02_12, hkb02_12, hkb02_12, hkb02_12, hkb02_12, hkb02_12, hkb02_12, hkb02_12, hkb02_12, hkb02_12, hkb02_12, hkb02_12, hkb02_12, hkb02_12, hkb02_12, hkb02_12]
def hkb02_304 : ai_C := .inr (.inr (6, [hkb02_13, hkb02_14, hkb02_15, hkb02_16, hkb02_17, hkb02_18, hkb02_294, hkb02_296, hkb02_186, hkb02_224, hkb02_147, hkb02_298, hkb02_80, hkb02_10]))
/-- NeverAgain.serve -/
def kb_342 : ai_K := (63, 0, (hkb02_284, [hkb02_121, hkb02_11], [], hkb02_303), [.inr (0, 11), .inr (0, 12), .inr (0, 13), .inr (8, 6), .inr (8, 7), .inr (8, 8), .inr (8, 9), .inr (8, 10), .inr (8, 11), .inr (8, 12), .inr (8, 13)], [(some hkb02_300, hkb02_284, [(8, hkb02_304)])])
def kbn_342 : List ai_Nd := []
set_option maxRecDepth 1000000 in
theorem kbk_342 : ai_ck [] [] kb_342 [.inl 100000] kbn_342 11 = true := by decide +kernel
theorem kbh_342 : ai_holds kb_342 := ai_thm kbk_342 ai_nil
def hkb02_305 : ai_E := [hkb02_5, hkb02_2]
def hkb02_306 : ai_V := .inr (some (.ref 27))
def hkb02_307 : ai_V := .inr (some (.ref 28))
def hkb02_308 : ai_V := .inr (some (.ref 29))
def hkb02_309 : ai_V := .inr (some (.ref 30))
def hkb02_310 : ai_V := .inr (some (.ref 31))
def hkb02_311 : ai_N := (.ofNat 0, .ofNat 4, [(0, .ofNat 0, .ofNat 0)])
def hkb02_312 : ai_V := .inl (false, hkb02_311)
def hkb02_313 : ai_C := .inr (.inr (1, [hkb02_74, hkb02_306, hkb02_307, hkb02_308, hkb02_309, hkb02_310, hkb02_312, hkb02_125]))
def hkb02_314 : Bool × Option ai_C := (false, some hkb02_313)
def hkb02_315 : ai_N := (.ofNat 0, .ofNat 4, [])
def hkb02_316 : ai_C := .inl (.int, [(4, hkb02_315)])
def hkb02_317 : Bool × Option ai_C := (false, some hkb02_316)
def hkb02_318 : ai_C := .inl (.int, [(4, hkb02_66)])
def hkb02_319 : Bool × Option ai_C := (false, some hkb02_318)
def hkb02_320 : ai_W := [hkb02_12, hkb02_12, hkb02_12, hkb02_12, hkb02_12, hkb02_12, hkb02_12, hkb02_12, hkb02_12, hkb02_12, hkb02_12, hkb02_12, hkb02_12, hkb02_12, hkb02_12, hkb02_12, hkb02_12, hkb02_12, hkb02_12, hkb02_12, hkb02_12, hkb02_12, hkb02_12, hkb02_12, hkb02_12, hkb02_12, hkb02_314, hkb02_12, hkb02_317, hkb02_319, hkb02_317, hkb02_319, hkb02_12, hkb02_12, hkb02_12, hkb02_12, hkb02_12, hkb02_12, hkb02_12, hkb02_12, hkb02_12, hkb02_12, hkb02_12, hkb02_12, hkb02_12, hkb02_12, hkb02_12, hkb02_12, hkb02_12, hkb02_12, hkb02_12, hkb02_12, hkb02_12, hkb02_12, hkb02_12, hkb02_12, hkb02_12, hkb02_12, hkb02_12, hkb02_12, hkb02_12, hkb02_12, hkb02_12, hkb02_12, hkb02_12, hkb02_12, hkb02_12, hkb02_12, hkb02_12, hkb02_12, hkb02_12, hkb02_12, hkb02_12, hkb02_12, hkb02_12, hkb02_12]
def hkb02_321 : ai_C := .inr (.inr (1, [hkb02_74, hkb02_306, hkb02_307, hkb02_308, hkb02_309, hkb02_310, hkb02_312, hkb02_10]))
/-- NeverAgain$Delayer.takeTrial -/
def kb_344 : ai_K := (203, 0, (hkb02_305, [hkb02_127, hkb02_10], [], hkb02_320), [.inr (26, 6), .inr (26, 7)], [(none, hkb02_305, [(26, hkb02_321), (30, hkb02_316), (31, hkb02_318)])])
def kbn_344 : List ai_Nd := []
set_option maxRecDepth 1000000 in
theorem kbk_344 : ai_ck [] [] kb_344 [.inl 100000] kbn_344 21 = true := by decide +kernel
theorem kbh_344 : ai_holds kb_344 := ai_thm kbk_344 ai_nil
def hkb02_322 : ai_E := [hkb02_2, hkb02_5, hkb02_2]
def hkb02_323 : ai_N := (.ofNat 0, .ofNat 4, [(1, .ofNat 0, .ofNat 0)])
def hkb02_324 : ai_V := .inl (false, hkb02_323)
def hkb02_325 : ai_C := .inr (.inr (1, [hkb02_74, hkb02_306, hkb02_307, hkb02_308, hkb02_309, hkb02_310, hkb02_324, hkb02_24]))
def hkb02_326 : Bool × Option ai_C := (false, some hkb02_325)
def hkb02_327 : ai_W := [hkb02_12, hkb02_12, hkb02_12, hkb02_12, hkb02_12, hkb02_12, hkb02_12, hkb02_12, hkb02_12, hkb02_12, hkb02_12, hkb02_12, hkb02_12, hkb02_12, hkb02_12, hkb02_12, hkb02_12, hkb02_12, hkb02_12, hkb02_12, hkb02_12, hkb02_12, hkb02_12, hkb02_12, hkb02_12, hkb02_12, hkb02_326, hkb02_39, hkb02_12, hkb02_12, hkb02_12, hkb02_12, hkb02_12, hkb02_12, hkb02_12, hkb02_12, hkb02_12, hkb02_12, hkb02_12, hkb02_12, hkb02_12, hkb02_12, hkb02_12, hkb02_12, hkb02_12, hkb02_12, hkb02_12, hkb02_12, hkb02_12, hkb02_12, hkb02_12, hkb02_12, hkb02_12, hkb02_12, hkb02_12, hkb02_12, hkb02_12, hkb02_12, hkb02_12, hkb02_12, hkb02_12, hkb02_12, hkb02_12, hkb02_12, hkb02_12, hkb02_12, hkb02_12, hkb02_12, hkb02_12, hkb02_12, hkb02_12, hkb02_12, hkb02_12, hkb02_12, hkb02_12, hkb02_12]
/-- NeverAgain$Delayer.floorOf -/
def kb_346 : ai_K := (202, 0, (hkb02_322, [hkb02_127, hkb02_123, hkb02_11, hkb02_11], [], hkb02_327), [.inl 1, .inr (26, 6), .inr (26, 7)], [(some hkb02_209, hkb02_322, [])])
def hkb02_328 : ai_E := [hkb02_2, hkb02_5, hkb02_2, hkb02_5]
def kbn_346 : List ai_Nd := [(4, (hkb02_328, [hkb02_127, hkb02_123, hkb02_209, hkb02_216], [], hkb02_327), [.inl 3], [.inl 99995, .inl 1, .inr (true, .ofNat 4, 3), .inl 100000])]
set_option maxRecDepth 1000000 in
theorem kbk_346 : ai_ck [] [] kb_346 [.inl 100000, .inl 0, .inl 0, .inl 0] kbn_346 22 = true := by decide +kernel
theorem kbh_346 : ai_holds kb_346 := ai_thm kbk_346 ai_nil
def hkb02_329 : ai_E := [hkb02_2, hkb02_0, hkb02_1, hkb02_2, hkb02_2, hkb02_2, hkb02_3, hkb02_4, hkb02_5, hkb02_5, hkb02_2]
def hkb02_330 : ai_C := .inr (.inr (1, [hkb02_74, hkb02_306, hkb02_307, hkb02_308, hkb02_309, hkb02_310, hkb02_258, hkb02_82]))
def hkb02_331 : Bool × Option ai_C := (false, some hkb02_330)
def hkb02_332 : ai_W := [hkb02_12, hkb02_12, hkb02_12, hkb02_12, hkb02_12, hkb02_12, hkb02_12, hkb02_12, hkb02_192, hkb02_12, hkb02_12, hkb02_12, hkb02_12, hkb02_12, hkb02_39, hkb02_12, hkb02_12, hkb02_12, hkb02_12, hkb02_12, hkb02_12, hkb02_12, hkb02_12, hkb02_12, hkb02_12, hkb02_12, hkb02_331, hkb02_12, hkb02_12, hkb02_12, hkb02_12, hkb02_12, hkb02_12, hkb02_12, hkb02_12, hkb02_12, hkb02_12, hkb02_12, hkb02_12, hkb02_12, hkb02_12, hkb02_12, hkb02_12, hkb02_12, hkb02_12, hkb02_12, hkb02_12, hkb02_12, hkb02_12, hkb02_12, hkb02_12, hkb02_12, hkb02_12, hkb02_12, hkb02_12, hkb02_12, hkb02_12, hkb02_12, hkb02_12, hkb02_12, hkb02_12, hkb02_12, hkb02_12, hkb02_12, hkb02_12, hkb02_12, hkb02_12, hkb02_12, hkb02_12, hkb02_12, hkb02_12, hkb02_12, hkb02_12, hkb02_12, hkb02_12, hkb02_12]
def hkb02_333 : ai_E := [hkb02_2, hkb02_0, hkb02_1, hkb02_2, hkb02_2, hkb02_2, hkb02_3, hkb02_4, hkb02_5, hkb02_1, hkb02_2]
/-- NeverAgain$Delayer.someIsLate -/
def kb_347 : ai_K := (204, 0, (hkb02_329, [hkb02_127, hkb02_8, hkb02_10, hkb02_123, hkb02_11], [], hkb02_332), [.inl 3, .inr (8, 6), .inr (8, 7), .inr (8, 8), .inr (8, 9), .inr (8, 10), .inr (8, 11), .inr (8, 12), .inr (8, 13), .inr (26, 6), .inr (26, 7)], [(some hkb02_56, hkb02_333, []), (some hkb02_10, hkb02_329, [])])
def hkb02_334 : ai_E := [hkb02_2, hkb02_0, hkb02_1, hkb02_2, hkb02_2, hkb02_2, hkb02_3, hkb02_4, hkb02_5, hkb02_5, hkb02_2, hkb02_5]
def kbn_347 : List ai_Nd := [(3, (hkb02_334, [hkb02_127, hkb02_8, hkb02_10, hkb02_123, hkb02_91], [], hkb02_332), [.inl 4], [.inl 99996, .inl 1, .inr (true, .ofNat 4, 11), .inl 100000])]
set_option maxRecDepth 1000000 in
theorem kbk_347 : ai_ck [] [] kb_347 [.inl 100000, .inl 0, .inl 0, .inl 0] kbn_347 20 = true := by decide +kernel
theorem kbh_347 : ai_holds kb_347 := ai_thm kbk_347 ai_nil
/-- NeverAgain$Delayer.someIsLate -/
def kb_350 : ai_K := (204, 0, (hkb02_329, [hkb02_127, hkb02_8, hkb02_56, hkb02_123, hkb02_11], [], hkb02_332), [.inl 3, .inr (8, 6), .inr (8, 7), .inr (8, 8), .inr (8, 9), .inr (8, 10), .inr (8, 11), .inr (8, 12), .inr (8, 13), .inr (26, 6), .inr (26, 7)], [(some hkb02_56, hkb02_333, []), (some hkb02_10, hkb02_329, [])])
def kbn_350 : List ai_Nd := [(3, (hkb02_334, [hkb02_127, hkb02_8, hkb02_56, hkb02_123, hkb02_91], [], hkb02_332), [.inl 4], [.inl 99996, .inl 1, .inr (true, .ofNat 4, 11), .inl 100000])]
set_option maxRecDepth 1000000 in
theorem kbk_350 : ai_ck [] [] kb_350 [.inl 100000, .inl 0, .inl 0, .inl 0] kbn_350 20 = true := by decide +kernel
theorem kbh_350 : ai_holds kb_350 := ai_thm kbk_350 ai_nil
/-- NeverAgain$Delayer.someIsLate -/
def kb_352 : ai_K := (204, 0, (hkb02_329, [hkb02_127, hkb02_8, hkb02_98, hkb02_123, hkb02_11], [], hkb02_332), [.inl 3, .inr (8, 6), .inr (8, 7), .inr (8, 8), .inr (8, 9), .inr (8, 10), .inr (8, 11), .inr (8, 12), .inr (8, 13), .inr (26, 6), .inr (26, 7)], [(some hkb02_56, hkb02_333, []), (some hkb02_10, hkb02_329, [])])
def kbn_352 : List ai_Nd := [(3, (hkb02_334, [hkb02_127, hkb02_8, hkb02_98, hkb02_123, hkb02_91], [], hkb02_332), [.inl 4], [.inl 99996, .inl 1, .inr (true, .ofNat 4, 11), .inl 100000])]
set_option maxRecDepth 1000000 in
theorem kbk_352 : ai_ck [] [] kb_352 [.inl 100000, .inl 0, .inl 0, .inl 0] kbn_352 20 = true := by decide +kernel
theorem kbh_352 : ai_holds kb_352 := ai_thm kbk_352 ai_nil
/-- NeverAgain$Delayer.someIsLate -/
def kb_354 : ai_K := (204, 0, (hkb02_329, [hkb02_127, hkb02_8, hkb02_105, hkb02_123, hkb02_11], [], hkb02_332), [.inl 3, .inr (8, 6), .inr (8, 7), .inr (8, 8), .inr (8, 9), .inr (8, 10), .inr (8, 11), .inr (8, 12), .inr (8, 13), .inr (26, 6), .inr (26, 7)], [(some hkb02_56, hkb02_333, []), (some hkb02_10, hkb02_329, [])])
def kbn_354 : List ai_Nd := [(3, (hkb02_334, [hkb02_127, hkb02_8, hkb02_105, hkb02_123, hkb02_91], [], hkb02_332), [.inl 4], [.inl 99996, .inl 1, .inr (true, .ofNat 4, 11), .inl 100000])]
set_option maxRecDepth 1000000 in
theorem kbk_354 : ai_ck [] [] kb_354 [.inl 100000, .inl 0, .inl 0, .inl 0] kbn_354 20 = true := by decide +kernel
theorem kbh_354 : ai_holds kb_354 := ai_thm kbk_354 ai_nil
/-- NeverAgain$Delayer.someIsLate -/
def kb_356 : ai_K := (204, 0, (hkb02_329, [hkb02_127, hkb02_8, hkb02_107, hkb02_123, hkb02_11], [], hkb02_332), [.inl 3, .inr (8, 6), .inr (8, 7), .inr (8, 8), .inr (8, 9), .inr (8, 10), .inr (8, 11), .inr (8, 12), .inr (8, 13), .inr (26, 6), .inr (26, 7)], [(some hkb02_56, hkb02_333, []), (some hkb02_10, hkb02_329, [])])
def kbn_356 : List ai_Nd := [(3, (hkb02_334, [hkb02_127, hkb02_8, hkb02_107, hkb02_123, hkb02_91], [], hkb02_332), [.inl 4], [.inl 99996, .inl 1, .inr (true, .ofNat 4, 11), .inl 100000])]
set_option maxRecDepth 1000000 in
theorem kbk_356 : ai_ck [] [] kb_356 [.inl 100000, .inl 0, .inl 0, .inl 0] kbn_356 20 = true := by decide +kernel
theorem kbh_356 : ai_holds kb_356 := ai_thm kbk_356 ai_nil
def hkb02_335 : ai_W := [hkb02_12, hkb02_12, hkb02_12, hkb02_12, hkb02_12, hkb02_12, hkb02_12, hkb02_12, hkb02_12, hkb02_12, hkb02_12, hkb02_12, hkb02_12, hkb02_12, hkb02_12, hkb02_12, hkb02_12, hkb02_12, hkb02_12, hkb02_12, hkb02_12, hkb02_12, hkb02_12, hkb02_12, hkb02_12, hkb02_12, hkb02_326, hkb02_12, hkb02_317, hkb02_319, hkb02_317, hkb02_319, hkb02_12, hkb02_12, hkb02_12, hkb02_12, hkb02_12, hkb02_12, hkb02_12, hkb02_12, hkb02_12, hkb02_12, hkb02_12, hkb02_12, hkb02_12, hkb02_12, hkb02_12, hkb02_12, hkb02_12, hkb02_12, hkb02_12, hkb02_12, hkb02_12, hkb02_12, hkb02_12, hkb02_12, hkb02_12, hkb02_12, hkb02_12, hkb02_12, hkb02_12, hkb02_12, hkb02_12, hkb02_12, hkb02_12, hkb02_12, hkb02_12, hkb02_12, hkb02_12, hkb02_12, hkb02_12, hkb02_12, hkb02_12, hkb02_12, hkb02_12, hkb02_12]
def hkb02_336 : ai_C := .inr (.inr (1, [hkb02_74, hkb02_306, hkb02_307, hkb02_308, hkb02_309, hkb02_310, hkb02_324, hkb02_123]))
/-- NeverAgain$Delayer.takeTrial -/
def kb_359 : ai_K := (203, 0, (hkb02_322, [hkb02_127, hkb02_123], [], hkb02_335), [.inl 1, .inr (26, 6), .inr (26, 7)], [(none, hkb02_322, [(26, hkb02_336), (30, hkb02_316), (31, hkb02_318)])])
def kbn_359 : List ai_Nd := []
set_option maxRecDepth 1000000 in
theorem kbk_359 : ai_ck [] [] kb_359 [.inl 100000] kbn_359 21 = true := by decide +kernel
theorem kbh_359 : ai_holds kb_359 := ai_thm kbk_359 ai_nil
def hkb02_337 : ai_E := [hkb02_2, hkb02_2, hkb02_5, hkb02_2]
def hkb02_338 : ai_N := (.ofNat 5, .ofNat 5, [])
def hkb02_339 : ai_V := .inl (false, hkb02_338)
def hkb02_340 : ai_C := .inr (.inr (1, [hkb02_74, hkb02_306, hkb02_307, hkb02_308, hkb02_309, hkb02_310, hkb02_290, hkb02_26]))
def hkb02_341 : Bool × Option ai_C := (false, some hkb02_340)
def hkb02_342 : ai_W := [hkb02_12, hkb02_12, hkb02_12, hkb02_12, hkb02_12, hkb02_12, hkb02_12, hkb02_12, hkb02_12, hkb02_12, hkb02_12, hkb02_12, hkb02_12, hkb02_12, hkb02_12, hkb02_12, hkb02_12, hkb02_12, hkb02_12, hkb02_12, hkb02_12, hkb02_12, hkb02_12, hkb02_12, hkb02_12, hkb02_12, hkb02_341, hkb02_39, hkb02_317, hkb02_319, hkb02_317, hkb02_319, hkb02_12, hkb02_12, hkb02_12, hkb02_12, hkb02_12, hkb02_12, hkb02_12, hkb02_12, hkb02_12, hkb02_12, hkb02_12, hkb02_12, hkb02_12, hkb02_12, hkb02_12, hkb02_12, hkb02_12, hkb02_12, hkb02_12, hkb02_12, hkb02_12, hkb02_12, hkb02_12, hkb02_12, hkb02_12, hkb02_12, hkb02_12, hkb02_12, hkb02_12, hkb02_12, hkb02_12, hkb02_12, hkb02_12, hkb02_12, hkb02_12, hkb02_12, hkb02_12, hkb02_12, hkb02_12, hkb02_12, hkb02_12, hkb02_12, hkb02_12, hkb02_12]
def hkb02_343 : Int × Int := (.negSucc 2147483646, .ofNat 2147483647)
def hkb02_344 : ai_E := [hkb02_48, hkb02_2, hkb02_5, hkb02_343]
def hkb02_345 : ai_C := .inr (.inr (1, [hkb02_74, hkb02_306, hkb02_307, hkb02_308, hkb02_309, hkb02_310, hkb02_290, hkb02_125]))
def hkb02_346 : ai_E := [hkb02_2, hkb02_2, hkb02_5, hkb02_343]
/-- NeverAgain$Delayer.searchFrom -/
def kb_360 : ai_K := (172, 1, (hkb02_337, [hkb02_127, hkb02_8, hkb02_339, hkb02_123, hkb02_125, hkb02_11], [], hkb02_342), [.inl 3, .inl 4, .inr (26, 6), .inr (26, 7)], [(none, hkb02_337, []), (none, hkb02_344, [(26, hkb02_345), (30, hkb02_316), (31, hkb02_318)]), (none, hkb02_346, [])])
def kbn_360 : List ai_Nd := []
set_option maxRecDepth 1000000 in
theorem kbk_360 : ai_ck [kb_359, kb_346] [] kb_360 [.inl 100000] kbn_360 15 = true := by decide +kernel
theorem kbh_360 : ai_holds kb_360 := ai_thm kbk_360 (ai_cons kbh_359 (ai_cons kbh_346 ai_nil))
def hkb02_347 : ai_E := [hkb02_264, hkb02_2, hkb02_0, hkb02_1, hkb02_2, hkb02_2, hkb02_2, hkb02_3, hkb02_4, hkb02_5]
def hkb02_348 : ai_N := (.ofNat 0, .ofNat 3, [(0, .ofNat 0, .ofNat 0)])
def hkb02_349 : ai_V := .inl (false, hkb02_348)
def hkb02_350 : Int × Int := (.ofNat 1, .ofNat 3)
def hkb02_351 : ai_E := [hkb02_350, hkb02_2, hkb02_0, hkb02_1, hkb02_2, hkb02_2, hkb02_2, hkb02_3, hkb02_4, hkb02_5]
/-- NeverAgain$Delayer.isBehindItsLike -/
def kb_367 : ai_K := (205, 0, (hkb02_347, [hkb02_127, hkb02_8, hkb02_349, hkb02_125, hkb02_11, hkb02_11], [], hkb02_261), [.inl 2, .inl 3, .inr (8, 6), .inr (8, 7), .inr (8, 8), .inr (8, 9), .inr (8, 10), .inr (8, 11), .inr (8, 12), .inr (8, 13)], [(some hkb02_56, hkb02_351, []), (some hkb02_10, hkb02_347, [])])
def hkb02_352 : ai_E := [hkb02_264, hkb02_2, hkb02_0, hkb02_1, hkb02_2, hkb02_2, hkb02_2, hkb02_3, hkb02_4, hkb02_5, hkb02_264]
def hkb02_353 : ai_N := (.ofNat 0, .ofNat 3, [(10, .ofNat 0, .ofNat 0)])
def hkb02_354 : ai_V := .inl (false, hkb02_353)
def kbn_367 : List ai_Nd := [(3, (hkb02_352, [hkb02_127, hkb02_8, hkb02_349, hkb02_125, hkb02_354, hkb02_11], [], hkb02_261), [.inl 4], [.inl 99996, .inl 1, .inr (true, .ofNat 3, 10), .inl 100000])]
set_option maxRecDepth 1000000 in
theorem kbk_367 : ai_ck [] [] kb_367 [.inl 100000, .inl 0, .inl 0, .inl 0] kbn_367 36 = true := by decide +kernel
theorem kbh_367 : ai_holds kb_367 := ai_thm kbk_367 ai_nil
def hkb02_355 : ai_E := [hkb02_2, hkb02_2, hkb02_264, hkb02_0, hkb02_1, hkb02_2, hkb02_2, hkb02_2, hkb02_3, hkb02_4, hkb02_5, hkb02_54, hkb02_5, hkb02_2]
def hkb02_356 : ai_N := (.ofNat 0, .ofNat 3, [(2, .ofNat 0, .ofNat 0)])
def hkb02_357 : ai_V := .inl (false, hkb02_356)
def hkb02_358 : ai_N := (.ofNat 0, .ofNat 128, [(11, .ofNat 0, .ofNat 0)])
def hkb02_359 : ai_V := .inl (false, hkb02_358)
def hkb02_360 : ai_C := .inr (.inr (0, [hkb02_59, hkb02_60, hkb02_61, hkb02_8, hkb02_359]))
def hkb02_361 : Bool × Option ai_C := (false, some hkb02_360)
def hkb02_362 : ai_N := (.negSucc 2147483647, .ofNat 2147483647, [(13, .ofNat 0, .ofNat 0)])
def hkb02_363 : ai_V := .inl (false, hkb02_362)
def hkb02_364 : ai_C := .inr (.inr (1, [hkb02_74, hkb02_306, hkb02_307, hkb02_308, hkb02_309, hkb02_310, hkb02_157, hkb02_363]))
def hkb02_365 : Bool × Option ai_C := (false, some hkb02_364)
def hkb02_366 : ai_W := [hkb02_12, hkb02_12, hkb02_12, hkb02_12, hkb02_12, hkb02_12, hkb02_12, hkb02_12, hkb02_302, hkb02_12, hkb02_58, hkb02_12, hkb02_12, hkb02_39, hkb02_12, hkb02_12, hkb02_12, hkb02_361, hkb02_68, hkb02_71, hkb02_73, hkb02_12, hkb02_12, hkb02_12, hkb02_12, hkb02_12, hkb02_365, hkb02_39, hkb02_317, hkb02_319, hkb02_317, hkb02_319, hkb02_12, hkb02_12, hkb02_12, hkb02_12, hkb02_12, hkb02_12, hkb02_12, hkb02_12, hkb02_12, hkb02_12, hkb02_12, hkb02_12, hkb02_12, hkb02_12, hkb02_12, hkb02_12, hkb02_12, hkb02_12, hkb02_12, hkb02_12, hkb02_12, hkb02_12, hkb02_12, hkb02_12, hkb02_12, hkb02_12, hkb02_12, hkb02_12, hkb02_12, hkb02_12, hkb02_12, hkb02_12, hkb02_12, hkb02_12, hkb02_12, hkb02_12, hkb02_12, hkb02_12, hkb02_12, hkb02_12, hkb02_12, hkb02_12, hkb02_12, hkb02_12]
def hkb02_367 : ai_N := (.ofNat 0, .ofNat 128, [(11, .negSucc 0, .ofNat 0)])
def hkb02_368 : ai_V := .inl (false, hkb02_367)
def hkb02_369 : ai_C := .inr (.inr (0, [hkb02_59, hkb02_60, hkb02_61, hkb02_8, hkb02_368]))
def hkb02_370 : ai_C := .inr (.inr (1, [hkb02_74, hkb02_306, hkb02_307, hkb02_308, hkb02_309, hkb02_310, hkb02_157, hkb02_209]))
/-- NeverAgain$Delayer.tryNumbers -/
def kb_373 : ai_K := (206, 3, (hkb02_355, [hkb02_127, hkb02_8, hkb02_107, hkb02_123, hkb02_125, hkb02_357, hkb02_11, hkb02_11, hkb02_11, hkb02_11], [], hkb02_366), [.inl 3, .inl 4, .inl 5, .inr (8, 6), .inr (8, 7), .inr (8, 8), .inr (8, 9), .inr (8, 10), .inr (8, 11), .inr (8, 12), .inr (8, 13), .inr (17, 4), .inr (26, 6), .inr (26, 7)], [(none, hkb02_355, [(17, hkb02_369), (18, hkb02_67), (19, hkb02_70), (20, hkb02_72), (26, hkb02_370), (28, hkb02_316), (29, hkb02_318), (30, hkb02_316), (31, hkb02_318)]), (none, hkb02_355, [(17, hkb02_369), (18, hkb02_67), (19, hkb02_70), (20, hkb02_72), (26, hkb02_370), (28, hkb02_316), (29, hkb02_318), (30, hkb02_316), (31, hkb02_318)])])
def hkb02_371 : ai_E := [hkb02_2, hkb02_2, hkb02_264, hkb02_0, hkb02_1, hkb02_2, hkb02_2, hkb02_2, hkb02_3, hkb02_4, hkb02_5, hkb02_54, hkb02_5, hkb02_2, hkb02_241]
def hkb02_372 : ai_N := (.ofNat 1, .ofNat 17, [(14, .ofNat 0, .ofNat 0)])
def hkb02_373 : ai_V := .inl (false, hkb02_372)
def hkb02_374 : Bool × Option ai_C := (true, some hkb02_369)
def hkb02_375 : Bool × Option ai_C := (true, some hkb02_370)
def hkb02_376 : Bool × Option ai_C := (true, some hkb02_316)
def hkb02_377 : Bool × Option ai_C := (true, some hkb02_318)
def hkb02_378 : ai_W := [hkb02_12, hkb02_12, hkb02_12, hkb02_12, hkb02_12, hkb02_12, hkb02_12, hkb02_12, hkb02_302, hkb02_12, hkb02_58, hkb02_12, hkb02_12, hkb02_39, hkb02_12, hkb02_12, hkb02_12, hkb02_374, hkb02_93, hkb02_94, hkb02_95, hkb02_12, hkb02_12, hkb02_12, hkb02_12, hkb02_12, hkb02_375, hkb02_39, hkb02_376, hkb02_377, hkb02_376, hkb02_377, hkb02_12, hkb02_12, hkb02_12, hkb02_12, hkb02_12, hkb02_12, hkb02_12, hkb02_12, hkb02_12, hkb02_12, hkb02_12, hkb02_12, hkb02_12, hkb02_12, hkb02_12, hkb02_12, hkb02_12, hkb02_12, hkb02_12, hkb02_12, hkb02_12, hkb02_12, hkb02_12, hkb02_12, hkb02_12, hkb02_12, hkb02_12, hkb02_12, hkb02_12, hkb02_12, hkb02_12, hkb02_12, hkb02_12, hkb02_12, hkb02_12, hkb02_12, hkb02_12, hkb02_12, hkb02_12, hkb02_12, hkb02_12, hkb02_12, hkb02_12, hkb02_12]
def kbn_373 : List ai_Nd := [(33, (hkb02_371, [hkb02_127, hkb02_8, hkb02_107, hkb02_123, hkb02_125, hkb02_357, hkb02_209, hkb02_209, hkb02_209, hkb02_373], [], hkb02_378), [.inl 9], [.inl 99966, .inl 1, .inr (true, .ofNat 17, 14), .inl 100000])]
set_option maxRecDepth 1000000 in
theorem kbk_373 : ai_ck [kb_293, kb_261, kb_360, kb_346, kb_273, kb_265] [] kb_373 [.inl 100000, .inl 0, .inl 0, .inl 0] kbn_373 51 = true := by decide +kernel
theorem kbh_373 : ai_holds kb_373 := ai_thm kbk_373 (ai_cons kbh_293 (ai_cons kbh_261 (ai_cons kbh_360 (ai_cons kbh_346 (ai_cons kbh_273 (ai_cons kbh_265 ai_nil))))))
def hkb02_379 : ai_E := [hkb02_2, hkb02_2, hkb02_0, hkb02_1, hkb02_2, hkb02_2, hkb02_2, hkb02_3, hkb02_4, hkb02_5, hkb02_54, hkb02_5, hkb02_2]
def hkb02_380 : ai_N := (.ofNat 0, .ofNat 128, [(10, .ofNat 0, .ofNat 0)])
def hkb02_381 : ai_V := .inl (false, hkb02_380)
def hkb02_382 : ai_C := .inr (.inr (0, [hkb02_59, hkb02_60, hkb02_61, hkb02_8, hkb02_381]))
def hkb02_383 : Bool × Option ai_C := (false, some hkb02_382)
def hkb02_384 : ai_N := (.negSucc 2147483647, .ofNat 2147483647, [(12, .ofNat 0, .ofNat 0)])
def hkb02_385 : ai_V := .inl (false, hkb02_384)
def hkb02_386 : ai_C := .inr (.inr (1, [hkb02_74, hkb02_306, hkb02_307, hkb02_308, hkb02_309, hkb02_310, hkb02_91, hkb02_385]))
def hkb02_387 : Bool × Option ai_C := (false, some hkb02_386)
def hkb02_388 : ai_W := [hkb02_12, hkb02_12, hkb02_12, hkb02_12, hkb02_12, hkb02_12, hkb02_12, hkb02_12, hkb02_260, hkb02_12, hkb02_58, hkb02_12, hkb02_12, hkb02_39, hkb02_39, hkb02_12, hkb02_12, hkb02_383, hkb02_68, hkb02_71, hkb02_73, hkb02_12, hkb02_12, hkb02_12, hkb02_12, hkb02_12, hkb02_387, hkb02_39, hkb02_317, hkb02_319, hkb02_317, hkb02_319, hkb02_12, hkb02_12, hkb02_12, hkb02_12, hkb02_12, hkb02_12, hkb02_12, hkb02_12, hkb02_12, hkb02_12, hkb02_12, hkb02_12, hkb02_12, hkb02_12, hkb02_12, hkb02_12, hkb02_12, hkb02_12, hkb02_12, hkb02_12, hkb02_12, hkb02_12, hkb02_12, hkb02_12, hkb02_12, hkb02_12, hkb02_12, hkb02_12, hkb02_12, hkb02_12, hkb02_12, hkb02_12, hkb02_12, hkb02_12, hkb02_12, hkb02_12, hkb02_12, hkb02_12, hkb02_12, hkb02_12, hkb02_12, hkb02_12, hkb02_12, hkb02_12]
def hkb02_389 : ai_E := [hkb02_48, hkb02_2, hkb02_0, hkb02_1, hkb02_2, hkb02_2, hkb02_2, hkb02_3, hkb02_4, hkb02_5, hkb02_54, hkb02_5, hkb02_343]
def hkb02_390 : ai_C := .inr (.inr (1, [hkb02_74, hkb02_306, hkb02_307, hkb02_308, hkb02_309, hkb02_310, hkb02_91, hkb02_125]))
def hkb02_391 : ai_E := [hkb02_2, hkb02_2, hkb02_0, hkb02_1, hkb02_2, hkb02_2, hkb02_2, hkb02_3, hkb02_4, hkb02_5, hkb02_54, hkb02_5, hkb02_343]
def hkb02_392 : ai_N := (.ofNat 0, .ofNat 127, [(10, .negSucc 127, .ofNat 0)])
def hkb02_393 : ai_V := .inl (false, hkb02_392)
def hkb02_394 : ai_C := .inr (.inr (0, [hkb02_59, hkb02_60, hkb02_61, hkb02_8, hkb02_393]))
def hkb02_395 : ai_C := .inr (.inr (1, [hkb02_74, hkb02_306, hkb02_307, hkb02_308, hkb02_309, hkb02_310, hkb02_91, hkb02_209]))
/-- NeverAgain$Delayer.searchFrom -/
def kb_374 : ai_K := (172, 4, (hkb02_379, [hkb02_127, hkb02_8, hkb02_107, hkb02_123, hkb02_125, hkb02_11], [], hkb02_388), [.inl 3, .inl 4, .inr (8, 6), .inr (8, 7), .inr (8, 8), .inr (8, 9), .inr (8, 10), .inr (8, 11), .inr (8, 12), .inr (8, 13), .inr (17, 4), .inr (26, 6), .inr (26, 7)], [(none, hkb02_379, []), (none, hkb02_389, [(26, hkb02_390), (30, hkb02_316), (31, hkb02_318)]), (none, hkb02_391, [(17, hkb02_394), (18, hkb02_67), (19, hkb02_70), (20, hkb02_72), (26, hkb02_395), (28, hkb02_316), (29, hkb02_318), (30, hkb02_316), (31, hkb02_318)])])
def hkb02_396 : ai_E := [hkb02_2, hkb02_2, hkb02_0, hkb02_1, hkb02_2, hkb02_2, hkb02_2, hkb02_3, hkb02_4, hkb02_5, hkb02_54, hkb02_5, hkb02_343, hkb02_5]
def hkb02_397 : ai_N := (.ofNat 0, .ofNat 4, [(13, .ofNat 0, .ofNat 0)])
def hkb02_398 : ai_V := .inl (false, hkb02_397)
def hkb02_399 : ai_N := (.ofNat 0, .ofNat 128, [(10, .negSucc 127, .ofNat 0)])
def hkb02_400 : ai_V := .inl (false, hkb02_399)
def hkb02_401 : ai_C := .inr (.inr (0, [hkb02_59, hkb02_60, hkb02_61, hkb02_8, hkb02_400]))
def hkb02_402 : Bool × Option ai_C := (true, some hkb02_401)
def hkb02_403 : Bool × Option ai_C := (true, some hkb02_395)
def hkb02_404 : ai_W := [hkb02_12, hkb02_12, hkb02_12, hkb02_12, hkb02_12, hkb02_12, hkb02_12, hkb02_12, hkb02_260, hkb02_12, hkb02_58, hkb02_12, hkb02_12, hkb02_39, hkb02_39, hkb02_12, hkb02_12, hkb02_402, hkb02_93, hkb02_94, hkb02_95, hkb02_12, hkb02_12, hkb02_12, hkb02_12, hkb02_12, hkb02_403, hkb02_39, hkb02_376, hkb02_377, hkb02_376, hkb02_377, hkb02_12, hkb02_12, hkb02_12, hkb02_12, hkb02_12, hkb02_12, hkb02_12, hkb02_12, hkb02_12, hkb02_12, hkb02_12, hkb02_12, hkb02_12, hkb02_12, hkb02_12, hkb02_12, hkb02_12, hkb02_12, hkb02_12, hkb02_12, hkb02_12, hkb02_12, hkb02_12, hkb02_12, hkb02_12, hkb02_12, hkb02_12, hkb02_12, hkb02_12, hkb02_12, hkb02_12, hkb02_12, hkb02_12, hkb02_12, hkb02_12, hkb02_12, hkb02_12, hkb02_12, hkb02_12, hkb02_12, hkb02_12, hkb02_12, hkb02_12, hkb02_12]
def kbn_374 : List ai_Nd := [(46, (hkb02_396, [hkb02_127, hkb02_8, hkb02_107, hkb02_123, hkb02_125, hkb02_398], [], hkb02_404), [.inl 5], [.inl 99953, .inl 1, .inr (true, .ofNat 4, 13), .inl 100000])]
set_option maxRecDepth 1000000 in
theorem kbk_374 : ai_ck [kb_262, kb_293, kb_359, kb_360, kb_346, kb_356, kb_367, kb_373] [] kb_374 [.inl 100000, .inl 0, .inl 0, .inl 0] kbn_374 27 = true := by decide +kernel
theorem kbh_374 : ai_holds kb_374 := ai_thm kbk_374 (ai_cons kbh_262 (ai_cons kbh_293 (ai_cons kbh_359 (ai_cons kbh_360 (ai_cons kbh_346 (ai_cons kbh_356 (ai_cons kbh_367 (ai_cons kbh_373 ai_nil))))))))
def hkb02_405 : ai_W := [hkb02_12, hkb02_12, hkb02_12, hkb02_12, hkb02_12, hkb02_12, hkb02_12, hkb02_12, hkb02_302, hkb02_12, hkb02_58, hkb02_12, hkb02_12, hkb02_39, hkb02_39, hkb02_12, hkb02_12, hkb02_361, hkb02_68, hkb02_71, hkb02_73, hkb02_12, hkb02_12, hkb02_12, hkb02_12, hkb02_12, hkb02_365, hkb02_39, hkb02_317, hkb02_319, hkb02_317, hkb02_319, hkb02_12, hkb02_12, hkb02_12, hkb02_12, hkb02_12, hkb02_12, hkb02_12, hkb02_12, hkb02_12, hkb02_12, hkb02_12, hkb02_12, hkb02_12, hkb02_12, hkb02_12, hkb02_12, hkb02_12, hkb02_12, hkb02_12, hkb02_12, hkb02_12, hkb02_12, hkb02_12, hkb02_12, hkb02_12, hkb02_12, hkb02_12, hkb02_12, hkb02_12, hkb02_12, hkb02_12, hkb02_12, hkb02_12, hkb02_12, hkb02_12, hkb02_12, hkb02_12, hkb02_12, hkb02_12, hkb02_12, hkb02_12, hkb02_12, hkb02_12, hkb02_12]
def hkb02_406 : ai_N := (.ofNat 0, .ofNat 128, [(11, .negSucc 127, .ofNat 0)])
def hkb02_407 : ai_V := .inl (false, hkb02_406)
def hkb02_408 : ai_C := .inr (.inr (0, [hkb02_59, hkb02_60, hkb02_61, hkb02_8, hkb02_407]))
/-- NeverAgain$Delayer.tryNumbers -/
def kb_389 : ai_K := (206, 5, (hkb02_355, [hkb02_127, hkb02_8, hkb02_105, hkb02_123, hkb02_125, hkb02_357, hkb02_11, hkb02_11, hkb02_11, hkb02_11], [], hkb02_405), [.inl 3, .inl 4, .inl 5, .inr (8, 6), .inr (8, 7), .inr (8, 8), .inr (8, 9), .inr (8, 10), .inr (8, 11), .inr (8, 12), .inr (8, 13), .inr (17, 4), .inr (26, 6), .inr (26, 7)], [(none, hkb02_355, [(17, hkb02_408), (18, hkb02_67), (19, hkb02_70), (20, hkb02_72), (26, hkb02_370), (28, hkb02_316), (29, hkb02_318), (30, hkb02_316), (31, hkb02_318)]), (none, hkb02_355, [(17, hkb02_408), (18, hkb02_67), (19, hkb02_70), (20, hkb02_72), (26, hkb02_370), (28, hkb02_316), (29, hkb02_318), (30, hkb02_316), (31, hkb02_318)])])
def hkb02_409 : Bool × Option ai_C := (true, some hkb02_408)
def hkb02_410 : ai_W := [hkb02_12, hkb02_12, hkb02_12, hkb02_12, hkb02_12, hkb02_12, hkb02_12, hkb02_12, hkb02_302, hkb02_12, hkb02_58, hkb02_12, hkb02_12, hkb02_39, hkb02_39, hkb02_12, hkb02_12, hkb02_409, hkb02_93, hkb02_94, hkb02_95, hkb02_12, hkb02_12, hkb02_12, hkb02_12, hkb02_12, hkb02_375, hkb02_39, hkb02_376, hkb02_377, hkb02_376, hkb02_377, hkb02_12, hkb02_12, hkb02_12, hkb02_12, hkb02_12, hkb02_12, hkb02_12, hkb02_12, hkb02_12, hkb02_12, hkb02_12, hkb02_12, hkb02_12, hkb02_12, hkb02_12, hkb02_12, hkb02_12, hkb02_12, hkb02_12, hkb02_12, hkb02_12, hkb02_12, hkb02_12, hkb02_12, hkb02_12, hkb02_12, hkb02_12, hkb02_12, hkb02_12, hkb02_12, hkb02_12, hkb02_12, hkb02_12, hkb02_12, hkb02_12, hkb02_12, hkb02_12, hkb02_12, hkb02_12, hkb02_12, hkb02_12, hkb02_12, hkb02_12, hkb02_12]
def kbn_389 : List ai_Nd := [(33, (hkb02_371, [hkb02_127, hkb02_8, hkb02_105, hkb02_123, hkb02_125, hkb02_357, hkb02_209, hkb02_209, hkb02_209, hkb02_373], [], hkb02_410), [.inl 9], [.inl 99966, .inl 1, .inr (true, .ofNat 17, 14), .inl 100000])]
set_option maxRecDepth 1000000 in
theorem kbk_389 : ai_ck [kb_293, kb_261, kb_346, kb_273, kb_265, kb_374] [] kb_389 [.inl 100000, .inl 0, .inl 0, .inl 0] kbn_389 51 = true := by decide +kernel
theorem kbh_389 : ai_holds kb_389 := ai_thm kbk_389 (ai_cons kbh_293 (ai_cons kbh_261 (ai_cons kbh_346 (ai_cons kbh_273 (ai_cons kbh_265 (ai_cons kbh_374 ai_nil))))))
/-- NeverAgain$Delayer.searchFrom -/
def kb_390 : ai_K := (172, 6, (hkb02_379, [hkb02_127, hkb02_8, hkb02_105, hkb02_123, hkb02_125, hkb02_11], [], hkb02_388), [.inl 3, .inl 4, .inr (8, 6), .inr (8, 7), .inr (8, 8), .inr (8, 9), .inr (8, 10), .inr (8, 11), .inr (8, 12), .inr (8, 13), .inr (17, 4), .inr (26, 6), .inr (26, 7)], [(none, hkb02_379, []), (none, hkb02_389, [(26, hkb02_390), (30, hkb02_316), (31, hkb02_318)]), (none, hkb02_391, [(17, hkb02_394), (18, hkb02_67), (19, hkb02_70), (20, hkb02_72), (26, hkb02_395), (28, hkb02_316), (29, hkb02_318), (30, hkb02_316), (31, hkb02_318)])])
def kbn_390 : List ai_Nd := [(46, (hkb02_396, [hkb02_127, hkb02_8, hkb02_105, hkb02_123, hkb02_125, hkb02_398], [], hkb02_404), [.inl 5], [.inl 99953, .inl 1, .inr (true, .ofNat 4, 13), .inl 100000])]
set_option maxRecDepth 1000000 in
theorem kbk_390 : ai_ck [kb_262, kb_293, kb_359, kb_346, kb_354, kb_367, kb_374, kb_389] [] kb_390 [.inl 100000, .inl 0, .inl 0, .inl 0] kbn_390 27 = true := by decide +kernel
theorem kbh_390 : ai_holds kb_390 := ai_thm kbk_390 (ai_cons kbh_262 (ai_cons kbh_293 (ai_cons kbh_359 (ai_cons kbh_346 (ai_cons kbh_354 (ai_cons kbh_367 (ai_cons kbh_374 (ai_cons kbh_389 ai_nil))))))))
/-- NeverAgain$Delayer.tryNumbers -/
def kb_410 : ai_K := (206, 7, (hkb02_355, [hkb02_127, hkb02_8, hkb02_98, hkb02_123, hkb02_125, hkb02_357, hkb02_11, hkb02_11, hkb02_11, hkb02_11], [], hkb02_405), [.inl 3, .inl 4, .inl 5, .inr (8, 6), .inr (8, 7), .inr (8, 8), .inr (8, 9), .inr (8, 10), .inr (8, 11), .inr (8, 12), .inr (8, 13), .inr (17, 4), .inr (26, 6), .inr (26, 7)], [(none, hkb02_355, [(17, hkb02_408), (18, hkb02_67), (19, hkb02_70), (20, hkb02_72), (26, hkb02_370), (28, hkb02_316), (29, hkb02_318), (30, hkb02_316), (31, hkb02_318)]), (none, hkb02_355, [(17, hkb02_408), (18, hkb02_67), (19, hkb02_70), (20, hkb02_72), (26, hkb02_370), (28, hkb02_316), (29, hkb02_318), (30, hkb02_316), (31, hkb02_318)])])
def kbn_410 : List ai_Nd := [(33, (hkb02_371, [hkb02_127, hkb02_8, hkb02_98, hkb02_123, hkb02_125, hkb02_357, hkb02_209, hkb02_209, hkb02_209, hkb02_373], [], hkb02_410), [.inl 9], [.inl 99966, .inl 1, .inr (true, .ofNat 17, 14), .inl 100000])]
set_option maxRecDepth 1000000 in
theorem kbk_410 : ai_ck [kb_293, kb_261, kb_346, kb_273, kb_265, kb_390] [] kb_410 [.inl 100000, .inl 0, .inl 0, .inl 0] kbn_410 51 = true := by decide +kernel
theorem kbh_410 : ai_holds kb_410 := ai_thm kbk_410 (ai_cons kbh_293 (ai_cons kbh_261 (ai_cons kbh_346 (ai_cons kbh_273 (ai_cons kbh_265 (ai_cons kbh_390 ai_nil))))))
/-- NeverAgain$Delayer.searchFrom -/
def kb_411 : ai_K := (172, 8, (hkb02_379, [hkb02_127, hkb02_8, hkb02_98, hkb02_123, hkb02_125, hkb02_11], [], hkb02_388), [.inl 3, .inl 4, .inr (8, 6), .inr (8, 7), .inr (8, 8), .inr (8, 9), .inr (8, 10), .inr (8, 11), .inr (8, 12), .inr (8, 13), .inr (17, 4), .inr (26, 6), .inr (26, 7)], [(none, hkb02_379, []), (none, hkb02_389, [(26, hkb02_390), (30, hkb02_316), (31, hkb02_318)]), (none, hkb02_391, [(17, hkb02_394), (18, hkb02_67), (19, hkb02_70), (20, hkb02_72), (26, hkb02_395), (28, hkb02_316), (29, hkb02_318), (30, hkb02_316), (31, hkb02_318)])])
def kbn_411 : List ai_Nd := [(46, (hkb02_396, [hkb02_127, hkb02_8, hkb02_98, hkb02_123, hkb02_125, hkb02_398], [], hkb02_404), [.inl 5], [.inl 99953, .inl 1, .inr (true, .ofNat 4, 13), .inl 100000])]
set_option maxRecDepth 1000000 in
theorem kbk_411 : ai_ck [kb_262, kb_293, kb_359, kb_346, kb_352, kb_367, kb_390, kb_410] [] kb_411 [.inl 100000, .inl 0, .inl 0, .inl 0] kbn_411 27 = true := by decide +kernel
theorem kbh_411 : ai_holds kb_411 := ai_thm kbk_411 (ai_cons kbh_262 (ai_cons kbh_293 (ai_cons kbh_359 (ai_cons kbh_346 (ai_cons kbh_352 (ai_cons kbh_367 (ai_cons kbh_390 (ai_cons kbh_410 ai_nil))))))))
/-- NeverAgain$Delayer.tryNumbers -/
def kb_436 : ai_K := (206, 9, (hkb02_355, [hkb02_127, hkb02_8, hkb02_56, hkb02_123, hkb02_125, hkb02_357, hkb02_11, hkb02_11, hkb02_11, hkb02_11], [], hkb02_405), [.inl 3, .inl 4, .inl 5, .inr (8, 6), .inr (8, 7), .inr (8, 8), .inr (8, 9), .inr (8, 10), .inr (8, 11), .inr (8, 12), .inr (8, 13), .inr (17, 4), .inr (26, 6), .inr (26, 7)], [(none, hkb02_355, [(17, hkb02_408), (18, hkb02_67), (19, hkb02_70), (20, hkb02_72), (26, hkb02_370), (28, hkb02_316), (29, hkb02_318), (30, hkb02_316), (31, hkb02_318)]), (none, hkb02_355, [(17, hkb02_408), (18, hkb02_67), (19, hkb02_70), (20, hkb02_72), (26, hkb02_370), (28, hkb02_316), (29, hkb02_318), (30, hkb02_316), (31, hkb02_318)])])
def kbn_436 : List ai_Nd := [(33, (hkb02_371, [hkb02_127, hkb02_8, hkb02_56, hkb02_123, hkb02_125, hkb02_357, hkb02_209, hkb02_209, hkb02_209, hkb02_373], [], hkb02_410), [.inl 9], [.inl 99966, .inl 1, .inr (true, .ofNat 17, 14), .inl 100000])]
set_option maxRecDepth 1000000 in
theorem kbk_436 : ai_ck [kb_293, kb_261, kb_346, kb_273, kb_265, kb_411] [] kb_436 [.inl 100000, .inl 0, .inl 0, .inl 0] kbn_436 51 = true := by decide +kernel
theorem kbh_436 : ai_holds kb_436 := ai_thm kbk_436 (ai_cons kbh_293 (ai_cons kbh_261 (ai_cons kbh_346 (ai_cons kbh_273 (ai_cons kbh_265 (ai_cons kbh_411 ai_nil))))))
/-- NeverAgain$Delayer.searchFrom -/
def kb_437 : ai_K := (172, 10, (hkb02_379, [hkb02_127, hkb02_8, hkb02_56, hkb02_123, hkb02_125, hkb02_11], [], hkb02_388), [.inl 3, .inl 4, .inr (8, 6), .inr (8, 7), .inr (8, 8), .inr (8, 9), .inr (8, 10), .inr (8, 11), .inr (8, 12), .inr (8, 13), .inr (17, 4), .inr (26, 6), .inr (26, 7)], [(none, hkb02_379, []), (none, hkb02_389, [(26, hkb02_390), (30, hkb02_316), (31, hkb02_318)]), (none, hkb02_391, [(17, hkb02_394), (18, hkb02_67), (19, hkb02_70), (20, hkb02_72), (26, hkb02_395), (28, hkb02_316), (29, hkb02_318), (30, hkb02_316), (31, hkb02_318)])])
def kbn_437 : List ai_Nd := [(46, (hkb02_396, [hkb02_127, hkb02_8, hkb02_56, hkb02_123, hkb02_125, hkb02_398], [], hkb02_404), [.inl 5], [.inl 99953, .inl 1, .inr (true, .ofNat 4, 13), .inl 100000])]
set_option maxRecDepth 1000000 in
theorem kbk_437 : ai_ck [kb_262, kb_293, kb_359, kb_346, kb_350, kb_367, kb_411, kb_436] [] kb_437 [.inl 100000, .inl 0, .inl 0, .inl 0] kbn_437 27 = true := by decide +kernel
theorem kbh_437 : ai_holds kb_437 := ai_thm kbk_437 (ai_cons kbh_262 (ai_cons kbh_293 (ai_cons kbh_359 (ai_cons kbh_346 (ai_cons kbh_350 (ai_cons kbh_367 (ai_cons kbh_411 (ai_cons kbh_436 ai_nil))))))))
def hkb02_411 : ai_W := [hkb02_12, hkb02_12, hkb02_12, hkb02_12, hkb02_12, hkb02_12, hkb02_12, hkb02_12, hkb02_12, hkb02_12, hkb02_12, hkb02_12, hkb02_12, hkb02_12, hkb02_12, hkb02_12, hkb02_12, hkb02_12, hkb02_12, hkb02_12, hkb02_12, hkb02_12, hkb02_12, hkb02_12, hkb02_12, hkb02_12, hkb02_326, hkb02_39, hkb02_317, hkb02_319, hkb02_317, hkb02_319, hkb02_12, hkb02_12, hkb02_12, hkb02_12, hkb02_12, hkb02_12, hkb02_12, hkb02_12, hkb02_12, hkb02_12, hkb02_12, hkb02_12, hkb02_12, hkb02_12, hkb02_12, hkb02_12, hkb02_12, hkb02_12, hkb02_12, hkb02_12, hkb02_12, hkb02_12, hkb02_12, hkb02_12, hkb02_12, hkb02_12, hkb02_12, hkb02_12, hkb02_12, hkb02_12, hkb02_12, hkb02_12, hkb02_12, hkb02_12, hkb02_12, hkb02_12, hkb02_12, hkb02_12, hkb02_12, hkb02_12, hkb02_12, hkb02_12, hkb02_12, hkb02_12]
def hkb02_412 : ai_E := [hkb02_48, hkb02_5, hkb02_343]
def hkb02_413 : ai_C := .inr (.inr (1, [hkb02_74, hkb02_306, hkb02_307, hkb02_308, hkb02_309, hkb02_310, hkb02_324, hkb02_10]))
def hkb02_414 : ai_E := [hkb02_2, hkb02_5, hkb02_343]
/-- NeverAgain$Delayer.searchFrom -/
def kb_443 : ai_K := (172, 1, (hkb02_322, [hkb02_127, hkb02_8, hkb02_339, hkb02_123, hkb02_10, hkb02_11], [], hkb02_411), [.inl 3, .inr (26, 6), .inr (26, 7)], [(none, hkb02_322, []), (none, hkb02_412, [(26, hkb02_413), (30, hkb02_316), (31, hkb02_318)]), (none, hkb02_414, [])])
def kbn_443 : List ai_Nd := []
set_option maxRecDepth 1000000 in
theorem kbk_443 : ai_ck [kb_344, kb_346] [] kb_443 [.inl 100000] kbn_443 15 = true := by decide +kernel
theorem kbh_443 : ai_holds kb_443 := ai_thm kbk_443 (ai_cons kbh_344 (ai_cons kbh_346 ai_nil))
def hkb02_415 : ai_E := [hkb02_2, hkb02_264, hkb02_0, hkb02_1, hkb02_2, hkb02_2, hkb02_2, hkb02_3, hkb02_4, hkb02_5, hkb02_54, hkb02_5, hkb02_2]
def hkb02_416 : ai_N := (.ofNat 0, .ofNat 3, [(1, .ofNat 0, .ofNat 0)])
def hkb02_417 : ai_V := .inl (false, hkb02_416)
def hkb02_418 : ai_W := [hkb02_12, hkb02_12, hkb02_12, hkb02_12, hkb02_12, hkb02_12, hkb02_12, hkb02_12, hkb02_260, hkb02_12, hkb02_58, hkb02_12, hkb02_12, hkb02_39, hkb02_12, hkb02_12, hkb02_12, hkb02_383, hkb02_68, hkb02_71, hkb02_73, hkb02_12, hkb02_12, hkb02_12, hkb02_12, hkb02_12, hkb02_387, hkb02_39, hkb02_317, hkb02_319, hkb02_317, hkb02_319, hkb02_12, hkb02_12, hkb02_12, hkb02_12, hkb02_12, hkb02_12, hkb02_12, hkb02_12, hkb02_12, hkb02_12, hkb02_12, hkb02_12, hkb02_12, hkb02_12, hkb02_12, hkb02_12, hkb02_12, hkb02_12, hkb02_12, hkb02_12, hkb02_12, hkb02_12, hkb02_12, hkb02_12, hkb02_12, hkb02_12, hkb02_12, hkb02_12, hkb02_12, hkb02_12, hkb02_12, hkb02_12, hkb02_12, hkb02_12, hkb02_12, hkb02_12, hkb02_12, hkb02_12, hkb02_12, hkb02_12, hkb02_12, hkb02_12, hkb02_12, hkb02_12]
def hkb02_419 : ai_N := (.ofNat 0, .ofNat 128, [(10, .negSucc 0, .ofNat 0)])
def hkb02_420 : ai_V := .inl (false, hkb02_419)
def hkb02_421 : ai_C := .inr (.inr (0, [hkb02_59, hkb02_60, hkb02_61, hkb02_8, hkb02_420]))
/-- NeverAgain$Delayer.tryNumbers -/
def kb_446 : ai_K := (206, 3, (hkb02_415, [hkb02_127, hkb02_8, hkb02_107, hkb02_123, hkb02_10, hkb02_417, hkb02_11, hkb02_11, hkb02_11, hkb02_11], [], hkb02_418), [.inl 3, .inl 5, .inr (8, 6), .inr (8, 7), .inr (8, 8), .inr (8, 9), .inr (8, 10), .inr (8, 11), .inr (8, 12), .inr (8, 13), .inr (17, 4), .inr (26, 6), .inr (26, 7)], [(none, hkb02_415, [(17, hkb02_421), (18, hkb02_67), (19, hkb02_70), (20, hkb02_72), (26, hkb02_395), (28, hkb02_316), (29, hkb02_318), (30, hkb02_316), (31, hkb02_318)]), (none, hkb02_415, [(17, hkb02_421), (18, hkb02_67), (19, hkb02_70), (20, hkb02_72), (26, hkb02_395), (28, hkb02_316), (29, hkb02_318), (30, hkb02_316), (31, hkb02_318)])])
def hkb02_422 : ai_E := [hkb02_2, hkb02_264, hkb02_0, hkb02_1, hkb02_2, hkb02_2, hkb02_2, hkb02_3, hkb02_4, hkb02_5, hkb02_54, hkb02_5, hkb02_2, hkb02_241]
def hkb02_423 : Bool × Option ai_C := (true, some hkb02_421)
def hkb02_424 : ai_W := [hkb02_12, hkb02_12, hkb02_12, hkb02_12, hkb02_12, hkb02_12, hkb02_12, hkb02_12, hkb02_260, hkb02_12, hkb02_58, hkb02_12, hkb02_12, hkb02_39, hkb02_12, hkb02_12, hkb02_12, hkb02_423, hkb02_93, hkb02_94, hkb02_95, hkb02_12, hkb02_12, hkb02_12, hkb02_12, hkb02_12, hkb02_403, hkb02_39, hkb02_376, hkb02_377, hkb02_376, hkb02_377, hkb02_12, hkb02_12, hkb02_12, hkb02_12, hkb02_12, hkb02_12, hkb02_12, hkb02_12, hkb02_12, hkb02_12, hkb02_12, hkb02_12, hkb02_12, hkb02_12, hkb02_12, hkb02_12, hkb02_12, hkb02_12, hkb02_12, hkb02_12, hkb02_12, hkb02_12, hkb02_12, hkb02_12, hkb02_12, hkb02_12, hkb02_12, hkb02_12, hkb02_12, hkb02_12, hkb02_12, hkb02_12, hkb02_12, hkb02_12, hkb02_12, hkb02_12, hkb02_12, hkb02_12, hkb02_12, hkb02_12, hkb02_12, hkb02_12, hkb02_12, hkb02_12]
def kbn_446 : List ai_Nd := [(33, (hkb02_422, [hkb02_127, hkb02_8, hkb02_107, hkb02_123, hkb02_10, hkb02_417, hkb02_209, hkb02_209, hkb02_209, hkb02_246], [], hkb02_424), [.inl 9], [.inl 99966, .inl 1, .inr (true, .ofNat 17, 13), .inl 100000])]
set_option maxRecDepth 1000000 in
theorem kbk_446 : ai_ck [kb_293, kb_261, kb_360, kb_346, kb_273, kb_265] [] kb_446 [.inl 100000, .inl 0, .inl 0, .inl 0] kbn_446 51 = true := by decide +kernel
theorem kbh_446 : ai_holds kb_446 := ai_thm kbk_446 (ai_cons kbh_293 (ai_cons kbh_261 (ai_cons kbh_360 (ai_cons kbh_346 (ai_cons kbh_273 (ai_cons kbh_265 ai_nil))))))
def hkb02_425 : ai_E := [hkb02_2, hkb02_0, hkb02_1, hkb02_2, hkb02_2, hkb02_2, hkb02_3, hkb02_4, hkb02_5, hkb02_54, hkb02_5, hkb02_2]
def hkb02_426 : ai_C := .inr (.inr (0, [hkb02_59, hkb02_60, hkb02_61, hkb02_8, hkb02_194]))
def hkb02_427 : Bool × Option ai_C := (false, some hkb02_426)
def hkb02_428 : ai_N := (.negSucc 2147483647, .ofNat 2147483647, [(11, .ofNat 0, .ofNat 0)])
def hkb02_429 : ai_V := .inl (false, hkb02_428)
def hkb02_430 : ai_C := .inr (.inr (1, [hkb02_74, hkb02_306, hkb02_307, hkb02_308, hkb02_309, hkb02_310, hkb02_300, hkb02_429]))
def hkb02_431 : Bool × Option ai_C := (false, some hkb02_430)
def hkb02_432 : ai_W := [hkb02_12, hkb02_12, hkb02_12, hkb02_12, hkb02_12, hkb02_12, hkb02_12, hkb02_12, hkb02_192, hkb02_12, hkb02_58, hkb02_12, hkb02_12, hkb02_39, hkb02_39, hkb02_12, hkb02_12, hkb02_427, hkb02_68, hkb02_71, hkb02_73, hkb02_12, hkb02_12, hkb02_12, hkb02_12, hkb02_12, hkb02_431, hkb02_39, hkb02_317, hkb02_319, hkb02_317, hkb02_319, hkb02_12, hkb02_12, hkb02_12, hkb02_12, hkb02_12, hkb02_12, hkb02_12, hkb02_12, hkb02_12, hkb02_12, hkb02_12, hkb02_12, hkb02_12, hkb02_12, hkb02_12, hkb02_12, hkb02_12, hkb02_12, hkb02_12, hkb02_12, hkb02_12, hkb02_12, hkb02_12, hkb02_12, hkb02_12, hkb02_12, hkb02_12, hkb02_12, hkb02_12, hkb02_12, hkb02_12, hkb02_12, hkb02_12, hkb02_12, hkb02_12, hkb02_12, hkb02_12, hkb02_12, hkb02_12, hkb02_12, hkb02_12, hkb02_12, hkb02_12, hkb02_12]
def hkb02_433 : ai_E := [hkb02_48, hkb02_0, hkb02_1, hkb02_2, hkb02_2, hkb02_2, hkb02_3, hkb02_4, hkb02_5, hkb02_54, hkb02_5, hkb02_343]
def hkb02_434 : ai_C := .inr (.inr (1, [hkb02_74, hkb02_306, hkb02_307, hkb02_308, hkb02_309, hkb02_310, hkb02_300, hkb02_10]))
def hkb02_435 : ai_E := [hkb02_2, hkb02_0, hkb02_1, hkb02_2, hkb02_2, hkb02_2, hkb02_3, hkb02_4, hkb02_5, hkb02_54, hkb02_5, hkb02_343]
def hkb02_436 : ai_N := (.ofNat 0, .ofNat 127, [(9, .negSucc 127, .ofNat 0)])
def hkb02_437 : ai_V := .inl (false, hkb02_436)
def hkb02_438 : ai_C := .inr (.inr (0, [hkb02_59, hkb02_60, hkb02_61, hkb02_8, hkb02_437]))
def hkb02_439 : ai_C := .inr (.inr (1, [hkb02_74, hkb02_306, hkb02_307, hkb02_308, hkb02_309, hkb02_310, hkb02_300, hkb02_209]))
/-- NeverAgain$Delayer.searchFrom -/
def kb_447 : ai_K := (172, 4, (hkb02_425, [hkb02_127, hkb02_8, hkb02_107, hkb02_123, hkb02_10, hkb02_11], [], hkb02_432), [.inl 3, .inr (8, 6), .inr (8, 7), .inr (8, 8), .inr (8, 9), .inr (8, 10), .inr (8, 11), .inr (8, 12), .inr (8, 13), .inr (17, 4), .inr (26, 6), .inr (26, 7)], [(none, hkb02_425, []), (none, hkb02_433, [(26, hkb02_434), (30, hkb02_316), (31, hkb02_318)]), (none, hkb02_435, [(17, hkb02_438), (18, hkb02_67), (19, hkb02_70), (20, hkb02_72), (26, hkb02_439), (28, hkb02_316), (29, hkb02_318), (30, hkb02_316), (31, hkb02_318)])])
def hkb02_440 : ai_E := [hkb02_2, hkb02_0, hkb02_1, hkb02_2, hkb02_2, hkb02_2, hkb02_3, hkb02_4, hkb02_5, hkb02_54, hkb02_5, hkb02_343, hkb02_5]
def hkb02_441 : ai_N := (.ofNat 0, .ofNat 128, [(9, .negSucc 127, .ofNat 0)])
def hkb02_442 : ai_V := .inl (false, hkb02_441)
def hkb02_443 : ai_C := .inr (.inr (0, [hkb02_59, hkb02_60, hkb02_61, hkb02_8, hkb02_442]))
def hkb02_444 : Bool × Option ai_C := (true, some hkb02_443)
def hkb02_445 : Bool × Option ai_C := (true, some hkb02_439)
def hkb02_446 : ai_W := [hkb02_12, hkb02_12, hkb02_12, hkb02_12, hkb02_12, hkb02_12, hkb02_12, hkb02_12, hkb02_192, hkb02_12, hkb02_58, hkb02_12, hkb02_12, hkb02_39, hkb02_39, hkb02_12, hkb02_12, hkb02_444, hkb02_93, hkb02_94, hkb02_95, hkb02_12, hkb02_12, hkb02_12, hkb02_12, hkb02_12, hkb02_445, hkb02_39, hkb02_376, hkb02_377, hkb02_376, hkb02_377, hkb02_12, hkb02_12, hkb02_12, hkb02_12, hkb02_12, hkb02_12, hkb02_12, hkb02_12, hkb02_12, hkb02_12, hkb02_12, hkb02_12, hkb02_12, hkb02_12, hkb02_12, hkb02_12, hkb02_12, hkb02_12, hkb02_12, hkb02_12, hkb02_12, hkb02_12, hkb02_12, hkb02_12, hkb02_12, hkb02_12, hkb02_12, hkb02_12, hkb02_12, hkb02_12, hkb02_12, hkb02_12, hkb02_12, hkb02_12, hkb02_12, hkb02_12, hkb02_12, hkb02_12, hkb02_12, hkb02_12, hkb02_12, hkb02_12, hkb02_12, hkb02_12]
def kbn_447 : List ai_Nd := [(46, (hkb02_440, [hkb02_127, hkb02_8, hkb02_107, hkb02_123, hkb02_10, hkb02_157], [], hkb02_446), [.inl 5], [.inl 99953, .inl 1, .inr (true, .ofNat 4, 12), .inl 100000])]
set_option maxRecDepth 1000000 in
theorem kbk_447 : ai_ck [kb_262, kb_293, kb_344, kb_443, kb_346, kb_356, kb_367, kb_446] [] kb_447 [.inl 100000, .inl 0, .inl 0, .inl 0] kbn_447 27 = true := by decide +kernel
theorem kbh_447 : ai_holds kb_447 := ai_thm kbk_447 (ai_cons kbh_262 (ai_cons kbh_293 (ai_cons kbh_344 (ai_cons kbh_443 (ai_cons kbh_346 (ai_cons kbh_356 (ai_cons kbh_367 (ai_cons kbh_446 ai_nil))))))))
/-- NeverAgain$Delayer.tryNumbers -/
def kb_450 : ai_K := (206, 5, (hkb02_415, [hkb02_127, hkb02_8, hkb02_105, hkb02_123, hkb02_10, hkb02_417, hkb02_11, hkb02_11, hkb02_11, hkb02_11], [], hkb02_388), [.inl 3, .inl 5, .inr (8, 6), .inr (8, 7), .inr (8, 8), .inr (8, 9), .inr (8, 10), .inr (8, 11), .inr (8, 12), .inr (8, 13), .inr (17, 4), .inr (26, 6), .inr (26, 7)], [(none, hkb02_415, [(17, hkb02_401), (18, hkb02_67), (19, hkb02_70), (20, hkb02_72), (26, hkb02_395), (28, hkb02_316), (29, hkb02_318), (30, hkb02_316), (31, hkb02_318)]), (none, hkb02_415, [(17, hkb02_401), (18, hkb02_67), (19, hkb02_70), (20, hkb02_72), (26, hkb02_395), (28, hkb02_316), (29, hkb02_318), (30, hkb02_316), (31, hkb02_318)])])
def kbn_450 : List ai_Nd := [(33, (hkb02_422, [hkb02_127, hkb02_8, hkb02_105, hkb02_123, hkb02_10, hkb02_417, hkb02_209, hkb02_209, hkb02_209, hkb02_246], [], hkb02_404), [.inl 9], [.inl 99966, .inl 1, .inr (true, .ofNat 17, 13), .inl 100000])]
set_option maxRecDepth 1000000 in
theorem kbk_450 : ai_ck [kb_293, kb_261, kb_346, kb_273, kb_265, kb_374] [] kb_450 [.inl 100000, .inl 0, .inl 0, .inl 0] kbn_450 51 = true := by decide +kernel
theorem kbh_450 : ai_holds kb_450 := ai_thm kbk_450 (ai_cons kbh_293 (ai_cons kbh_261 (ai_cons kbh_346 (ai_cons kbh_273 (ai_cons kbh_265 (ai_cons kbh_374 ai_nil))))))

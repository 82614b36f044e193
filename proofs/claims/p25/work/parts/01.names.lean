-- ===== PART A: goes FIRST, ahead of the names: the tables' words, and 'selects' of the private methods out of them =====
/-- a private method of a class that the tables say can be made, by its rows of tables_1 -/
def lw_okq (q : MethodName × Nat) : Prop := (q.1.cls ≠ "java/lang/invoke/MethodHandle" ∧ q.1.cls ≠ "java/lang/invoke/VarHandle") ∧ Cond.instantiable q.1.cls q.2 ∈ tables_1 ∧ Cond.privateMethod q.1 ∈ tables_1 ∧ Cond.instanceMethod q.1 ∈ tables_1
theorem lw_p0 : lw_okq (⟨"NeverAgain$TextReader", "nextToken", "()Z"⟩, 10) := ⟨⟨by decide +kernel, by decide +kernel⟩, List.mem_of_getElem? (i := 121) (by decide +kernel), List.mem_of_getElem? (i := 352) (by decide +kernel), List.mem_of_getElem? (i := 353) (by decide +kernel)⟩
theorem lw_p1 : lw_okq (⟨"NeverAgain$TextReader", "byteAt", "(I)I"⟩, 10) := ⟨⟨by decide +kernel, by decide +kernel⟩, List.mem_of_getElem? (i := 121) (by decide +kernel), List.mem_of_getElem? (i := 356) (by decide +kernel), List.mem_of_getElem? (i := 357) (by decide +kernel)⟩
theorem lw_p2 : lw_okq (⟨"NeverAgain$TextReader", "fail", "(II)Z"⟩, 10) := ⟨⟨by decide +kernel, by decide +kernel⟩, List.mem_of_getElem? (i := 121) (by decide +kernel), List.mem_of_getElem? (i := 366) (by decide +kernel), List.mem_of_getElem? (i := 367) (by decide +kernel)⟩
theorem lw_p3 : lw_okq (⟨"NeverAgain$TextReader", "line", "()Z"⟩, 10) := ⟨⟨by decide +kernel, by decide +kernel⟩, List.mem_of_getElem? (i := 121) (by decide +kernel), List.mem_of_getElem? (i := 370) (by decide +kernel), List.mem_of_getElem? (i := 371) (by decide +kernel)⟩
theorem lw_p4 : lw_okq (⟨"NeverAgain$TextReader", "isName", "(Ljava/lang/String;)Z"⟩, 10) := ⟨⟨by decide +kernel, by decide +kernel⟩, List.mem_of_getElem? (i := 121) (by decide +kernel), List.mem_of_getElem? (i := 375) (by decide +kernel), List.mem_of_getElem? (i := 376) (by decide +kernel)⟩
theorem lw_p5 : lw_okq (⟨"NeverAgain$TextReader", "mostLine", "()Z"⟩, 10) := ⟨⟨by decide +kernel, by decide +kernel⟩, List.mem_of_getElem? (i := 121) (by decide +kernel), List.mem_of_getElem? (i := 427) (by decide +kernel), List.mem_of_getElem? (i := 428) (by decide +kernel)⟩
theorem lw_p6 : lw_okq (⟨"NeverAgain$TextReader", "once", "(I)Z"⟩, 10) := ⟨⟨by decide +kernel, by decide +kernel⟩, List.mem_of_getElem? (i := 121) (by decide +kernel), List.mem_of_getElem? (i := 431) (by decide +kernel), List.mem_of_getElem? (i := 432) (by decide +kernel)⟩
theorem lw_p7 : lw_okq (⟨"NeverAgain$TextReader", "figures", "(II)Z"⟩, 10) := ⟨⟨by decide +kernel, by decide +kernel⟩, List.mem_of_getElem? (i := 121) (by decide +kernel), List.mem_of_getElem? (i := 435) (by decide +kernel), List.mem_of_getElem? (i := 436) (by decide +kernel)⟩
theorem lw_p8 : lw_okq (⟨"NeverAgain$TextReader", "inBounds", "(II)Z"⟩, 10) := ⟨⟨by decide +kernel, by decide +kernel⟩, List.mem_of_getElem? (i := 121) (by decide +kernel), List.mem_of_getElem? (i := 439) (by decide +kernel), List.mem_of_getElem? (i := 440) (by decide +kernel)⟩
theorem lw_p9 : lw_okq (⟨"NeverAgain$TextReader", "stop", "()Z"⟩, 10) := ⟨⟨by decide +kernel, by decide +kernel⟩, List.mem_of_getElem? (i := 121) (by decide +kernel), List.mem_of_getElem? (i := 443) (by decide +kernel), List.mem_of_getElem? (i := 444) (by decide +kernel)⟩
theorem lw_p10 : lw_okq (⟨"NeverAgain$TextReader", "mattersLine", "()Z"⟩, 10) := ⟨⟨by decide +kernel, by decide +kernel⟩, List.mem_of_getElem? (i := 121) (by decide +kernel), List.mem_of_getElem? (i := 448) (by decide +kernel), List.mem_of_getElem? (i := 449) (by decide +kernel)⟩
theorem lw_p11 : lw_okq (⟨"NeverAgain$TextReader", "moreFigures", "(II)Z"⟩, 10) := ⟨⟨by decide +kernel, by decide +kernel⟩, List.mem_of_getElem? (i := 121) (by decide +kernel), List.mem_of_getElem? (i := 452) (by decide +kernel), List.mem_of_getElem? (i := 453) (by decide +kernel)⟩
theorem lw_p12 : lw_okq (⟨"NeverAgain$TextReader", "gapLine", "()Z"⟩, 10) := ⟨⟨by decide +kernel, by decide +kernel⟩, List.mem_of_getElem? (i := 121) (by decide +kernel), List.mem_of_getElem? (i := 457) (by decide +kernel), List.mem_of_getElem? (i := 458) (by decide +kernel)⟩
theorem lw_p13 : lw_okq (⟨"NeverAgain$TextReader", "nearLine", "()Z"⟩, 10) := ⟨⟨by decide +kernel, by decide +kernel⟩, List.mem_of_getElem? (i := 121) (by decide +kernel), List.mem_of_getElem? (i := 462) (by decide +kernel), List.mem_of_getElem? (i := 463) (by decide +kernel)⟩
theorem lw_p14 : lw_okq (⟨"NeverAgain$TextReader", "bookLine", "()Z"⟩, 10) := ⟨⟨by decide +kernel, by decide +kernel⟩, List.mem_of_getElem? (i := 121) (by decide +kernel), List.mem_of_getElem? (i := 467) (by decide +kernel), List.mem_of_getElem? (i := 468) (by decide +kernel)⟩
theorem lw_p15 : lw_okq (⟨"NeverAgain$TextReader", "pageLine", "()Z"⟩, 10) := ⟨⟨by decide +kernel, by decide +kernel⟩, List.mem_of_getElem? (i := 121) (by decide +kernel), List.mem_of_getElem? (i := 475) (by decide +kernel), List.mem_of_getElem? (i := 476) (by decide +kernel)⟩
def lw_privs_1 : List (MethodName × Nat) := [(⟨"NeverAgain$TextReader", "nextToken", "()Z"⟩, 10), (⟨"NeverAgain$TextReader", "byteAt", "(I)I"⟩, 10), (⟨"NeverAgain$TextReader", "fail", "(II)Z"⟩, 10), (⟨"NeverAgain$TextReader", "line", "()Z"⟩, 10), (⟨"NeverAgain$TextReader", "isName", "(Ljava/lang/String;)Z"⟩, 10), (⟨"NeverAgain$TextReader", "mostLine", "()Z"⟩, 10), (⟨"NeverAgain$TextReader", "once", "(I)Z"⟩, 10), (⟨"NeverAgain$TextReader", "figures", "(II)Z"⟩, 10), (⟨"NeverAgain$TextReader", "inBounds", "(II)Z"⟩, 10), (⟨"NeverAgain$TextReader", "stop", "()Z"⟩, 10), (⟨"NeverAgain$TextReader", "mattersLine", "()Z"⟩, 10), (⟨"NeverAgain$TextReader", "moreFigures", "(II)Z"⟩, 10), (⟨"NeverAgain$TextReader", "gapLine", "()Z"⟩, 10), (⟨"NeverAgain$TextReader", "nearLine", "()Z"⟩, 10), (⟨"NeverAgain$TextReader", "bookLine", "()Z"⟩, 10), (⟨"NeverAgain$TextReader", "pageLine", "()Z"⟩, 10)]
theorem lw_r1 : ∀ q ∈ lw_privs_1, lw_okq q := List.forall_mem_cons.mpr ⟨lw_p0, List.forall_mem_cons.mpr ⟨lw_p1, List.forall_mem_cons.mpr ⟨lw_p2, List.forall_mem_cons.mpr ⟨lw_p3, List.forall_mem_cons.mpr ⟨lw_p4, List.forall_mem_cons.mpr ⟨lw_p5, List.forall_mem_cons.mpr ⟨lw_p6, List.forall_mem_cons.mpr ⟨lw_p7, List.forall_mem_cons.mpr ⟨lw_p8, List.forall_mem_cons.mpr ⟨lw_p9, List.forall_mem_cons.mpr ⟨lw_p10, List.forall_mem_cons.mpr ⟨lw_p11, List.forall_mem_cons.mpr ⟨lw_p12, List.forall_mem_cons.mpr ⟨lw_p13, List.forall_mem_cons.mpr ⟨lw_p14, List.forall_mem_cons.mpr ⟨lw_p15, fun _ h => absurd h List.not_mem_nil⟩⟩⟩⟩⟩⟩⟩⟩⟩⟩⟩⟩⟩⟩⟩⟩
theorem lw_p16 : lw_okq (⟨"NeverAgain$TextReader", "rungLine", "()Z"⟩, 10) := ⟨⟨by decide +kernel, by decide +kernel⟩, List.mem_of_getElem? (i := 121) (by decide +kernel), List.mem_of_getElem? (i := 480) (by decide +kernel), List.mem_of_getElem? (i := 481) (by decide +kernel)⟩
theorem lw_p17 : lw_okq (⟨"NeverAgain$TextReader", "askLine", "()Z"⟩, 10) := ⟨⟨by decide +kernel, by decide +kernel⟩, List.mem_of_getElem? (i := 121) (by decide +kernel), List.mem_of_getElem? (i := 489) (by decide +kernel), List.mem_of_getElem? (i := 490) (by decide +kernel)⟩
theorem lw_p18 : lw_okq (⟨"NeverAgain$TextReader", "waitLine", "()Z"⟩, 10) := ⟨⟨by decide +kernel, by decide +kernel⟩, List.mem_of_getElem? (i := 121) (by decide +kernel), List.mem_of_getElem? (i := 498) (by decide +kernel), List.mem_of_getElem? (i := 499) (by decide +kernel)⟩
theorem lw_p19 : lw_okq (⟨"NeverAgain", "forgetImages", "()V"⟩, 14) := ⟨⟨by decide +kernel, by decide +kernel⟩, List.mem_of_getElem? (i := 19) (by decide +kernel), List.mem_of_getElem? (i := 518) (by decide +kernel), List.mem_of_getElem? (i := 519) (by decide +kernel)⟩
theorem lw_p20 : lw_okq (⟨"NeverAgain$Almanac", "bitsByGap", "(I)I"⟩, 5) := ⟨⟨by decide +kernel, by decide +kernel⟩, List.mem_of_getElem? (i := 162) (by decide +kernel), List.mem_of_getElem? (i := 581) (by decide +kernel), List.mem_of_getElem? (i := 582) (by decide +kernel)⟩
theorem lw_p21 : lw_okq (⟨"NeverAgain", "refusal", "(II)I"⟩, 14) := ⟨⟨by decide +kernel, by decide +kernel⟩, List.mem_of_getElem? (i := 19) (by decide +kernel), List.mem_of_getElem? (i := 618) (by decide +kernel), List.mem_of_getElem? (i := 619) (by decide +kernel)⟩
theorem lw_p22 : lw_okq (⟨"NeverAgain$Delayer", "floorOf", "(I)I"⟩, 8) := ⟨⟨by decide +kernel, by decide +kernel⟩, List.mem_of_getElem? (i := 212) (by decide +kernel), List.mem_of_getElem? (i := 770) (by decide +kernel), List.mem_of_getElem? (i := 771) (by decide +kernel)⟩
theorem lw_p23 : lw_okq (⟨"NeverAgain$Delayer", "takeTrial", "(I)V"⟩, 8) := ⟨⟨by decide +kernel, by decide +kernel⟩, List.mem_of_getElem? (i := 212) (by decide +kernel), List.mem_of_getElem? (i := 774) (by decide +kernel), List.mem_of_getElem? (i := 775) (by decide +kernel)⟩
theorem lw_p24 : lw_okq (⟨"NeverAgain$Delayer", "someIsLate", "(LNeverAgain$Told;II)Z"⟩, 8) := ⟨⟨by decide +kernel, by decide +kernel⟩, List.mem_of_getElem? (i := 212) (by decide +kernel), List.mem_of_getElem? (i := 779) (by decide +kernel), List.mem_of_getElem? (i := 780) (by decide +kernel)⟩
theorem lw_p25 : lw_okq (⟨"NeverAgain$Delayer", "isBehindItsLike", "(LNeverAgain$Told;II)Z"⟩, 8) := ⟨⟨by decide +kernel, by decide +kernel⟩, List.mem_of_getElem? (i := 212) (by decide +kernel), List.mem_of_getElem? (i := 783) (by decide +kernel), List.mem_of_getElem? (i := 784) (by decide +kernel)⟩
theorem lw_p26 : lw_okq (⟨"NeverAgain$Delayer", "has", "(I)Z"⟩, 8) := ⟨⟨by decide +kernel, by decide +kernel⟩, List.mem_of_getElem? (i := 212) (by decide +kernel), List.mem_of_getElem? (i := 802) (by decide +kernel), List.mem_of_getElem? (i := 803) (by decide +kernel)⟩
theorem lw_p27 : lw_okq (⟨"NeverAgain$SetFinder", "take", "(I)V"⟩, 5) := ⟨⟨by decide +kernel, by decide +kernel⟩, List.mem_of_getElem? (i := 243) (by decide +kernel), List.mem_of_getElem? (i := 825) (by decide +kernel), List.mem_of_getElem? (i := 826) (by decide +kernel)⟩
theorem lw_p28 : lw_okq (⟨"NeverAgainModel", "firstDraft", "()V"⟩, 34) := ⟨⟨by decide +kernel, by decide +kernel⟩, List.mem_of_getElem? (i := 897) (by decide +kernel), List.mem_of_getElem? (i := 903) (by decide +kernel), List.mem_of_getElem? (i := 904) (by decide +kernel)⟩
theorem lw_p29 : lw_okq (⟨"NeverAgainModel", "keepDraft", "()V"⟩, 34) := ⟨⟨by decide +kernel, by decide +kernel⟩, List.mem_of_getElem? (i := 897) (by decide +kernel), List.mem_of_getElem? (i := 907) (by decide +kernel), List.mem_of_getElem? (i := 908) (by decide +kernel)⟩
theorem lw_p30 : lw_okq (⟨"NeverAgainModel", "next", "()V"⟩, 34) := ⟨⟨by decide +kernel, by decide +kernel⟩, List.mem_of_getElem? (i := 897) (by decide +kernel), List.mem_of_getElem? (i := 1030) (by decide +kernel), List.mem_of_getElem? (i := 1031) (by decide +kernel)⟩
theorem lw_p31 : lw_okq (⟨"NeverAgainModel", "look", "(I)I"⟩, 34) := ⟨⟨by decide +kernel, by decide +kernel⟩, List.mem_of_getElem? (i := 897) (by decide +kernel), List.mem_of_getElem? (i := 1034) (by decide +kernel), List.mem_of_getElem? (i := 1035) (by decide +kernel)⟩
def lw_privs_2 : List (MethodName × Nat) := [(⟨"NeverAgain$TextReader", "rungLine", "()Z"⟩, 10), (⟨"NeverAgain$TextReader", "askLine", "()Z"⟩, 10), (⟨"NeverAgain$TextReader", "waitLine", "()Z"⟩, 10), (⟨"NeverAgain", "forgetImages", "()V"⟩, 14), (⟨"NeverAgain$Almanac", "bitsByGap", "(I)I"⟩, 5), (⟨"NeverAgain", "refusal", "(II)I"⟩, 14), (⟨"NeverAgain$Delayer", "floorOf", "(I)I"⟩, 8), (⟨"NeverAgain$Delayer", "takeTrial", "(I)V"⟩, 8), (⟨"NeverAgain$Delayer", "someIsLate", "(LNeverAgain$Told;II)Z"⟩, 8), (⟨"NeverAgain$Delayer", "isBehindItsLike", "(LNeverAgain$Told;II)Z"⟩, 8), (⟨"NeverAgain$Delayer", "has", "(I)Z"⟩, 8), (⟨"NeverAgain$SetFinder", "take", "(I)V"⟩, 5), (⟨"NeverAgainModel", "firstDraft", "()V"⟩, 34), (⟨"NeverAgainModel", "keepDraft", "()V"⟩, 34), (⟨"NeverAgainModel", "next", "()V"⟩, 34), (⟨"NeverAgainModel", "look", "(I)I"⟩, 34)]
theorem lw_r2 : ∀ q ∈ lw_privs_2, lw_okq q := List.forall_mem_cons.mpr ⟨lw_p16, List.forall_mem_cons.mpr ⟨lw_p17, List.forall_mem_cons.mpr ⟨lw_p18, List.forall_mem_cons.mpr ⟨lw_p19, List.forall_mem_cons.mpr ⟨lw_p20, List.forall_mem_cons.mpr ⟨lw_p21, List.forall_mem_cons.mpr ⟨lw_p22, List.forall_mem_cons.mpr ⟨lw_p23, List.forall_mem_cons.mpr ⟨lw_p24, List.forall_mem_cons.mpr ⟨lw_p25, List.forall_mem_cons.mpr ⟨lw_p26, List.forall_mem_cons.mpr ⟨lw_p27, List.forall_mem_cons.mpr ⟨lw_p28, List.forall_mem_cons.mpr ⟨lw_p29, List.forall_mem_cons.mpr ⟨lw_p30, List.forall_mem_cons.mpr ⟨lw_p31, fun _ h => absurd h List.not_mem_nil⟩⟩⟩⟩⟩⟩⟩⟩⟩⟩⟩⟩⟩⟩⟩⟩
theorem lw_p32 : lw_okq (⟨"NeverAgainModel", "needs", "(ZI)V"⟩, 34) := ⟨⟨by decide +kernel, by decide +kernel⟩, List.mem_of_getElem? (i := 897) (by decide +kernel), List.mem_of_getElem? (i := 1042) (by decide +kernel), List.mem_of_getElem? (i := 1043) (by decide +kernel)⟩
theorem lw_p33 : lw_okq (⟨"NeverAgainModel", "readLine", "()V"⟩, 34) := ⟨⟨by decide +kernel, by decide +kernel⟩, List.mem_of_getElem? (i := 897) (by decide +kernel), List.mem_of_getElem? (i := 1046) (by decide +kernel), List.mem_of_getElem? (i := 1047) (by decide +kernel)⟩
theorem lw_p34 : lw_okq (⟨"NeverAgainModel", "lineNow", "()I"⟩, 34) := ⟨⟨by decide +kernel, by decide +kernel⟩, List.mem_of_getElem? (i := 897) (by decide +kernel), List.mem_of_getElem? (i := 1050) (by decide +kernel), List.mem_of_getElem? (i := 1051) (by decide +kernel)⟩
theorem lw_p35 : lw_okq (⟨"NeverAgainModel", "is", "(IIII)Z"⟩, 34) := ⟨⟨by decide +kernel, by decide +kernel⟩, List.mem_of_getElem? (i := 897) (by decide +kernel), List.mem_of_getElem? (i := 1054) (by decide +kernel), List.mem_of_getElem? (i := 1055) (by decide +kernel)⟩
theorem lw_p36 : lw_okq (⟨"NeverAgainModel", "ends", "(III)Z"⟩, 34) := ⟨⟨by decide +kernel, by decide +kernel⟩, List.mem_of_getElem? (i := 897) (by decide +kernel), List.mem_of_getElem? (i := 1058) (by decide +kernel), List.mem_of_getElem? (i := 1059) (by decide +kernel)⟩
theorem lw_p37 : lw_okq (⟨"NeverAgainModel", "ruleLine", "()I"⟩, 34) := ⟨⟨by decide +kernel, by decide +kernel⟩, List.mem_of_getElem? (i := 897) (by decide +kernel), List.mem_of_getElem? (i := 1062) (by decide +kernel), List.mem_of_getElem? (i := 1063) (by decide +kernel)⟩
theorem lw_p38 : lw_okq (⟨"NeverAgainModel", "readLineOf", "(I)V"⟩, 34) := ⟨⟨by decide +kernel, by decide +kernel⟩, List.mem_of_getElem? (i := 897) (by decide +kernel), List.mem_of_getElem? (i := 1066) (by decide +kernel), List.mem_of_getElem? (i := 1067) (by decide +kernel)⟩
theorem lw_p39 : lw_okq (⟨"NeverAgainModel", "readNumber", "(II)I"⟩, 34) := ⟨⟨by decide +kernel, by decide +kernel⟩, List.mem_of_getElem? (i := 897) (by decide +kernel), List.mem_of_getElem? (i := 1070) (by decide +kernel), List.mem_of_getElem? (i := 1071) (by decide +kernel)⟩
theorem lw_p40 : lw_okq (⟨"NeverAgainModel", "looked", "(II)I"⟩, 34) := ⟨⟨by decide +kernel, by decide +kernel⟩, List.mem_of_getElem? (i := 897) (by decide +kernel), List.mem_of_getElem? (i := 1074) (by decide +kernel), List.mem_of_getElem? (i := 1075) (by decide +kernel)⟩
theorem lw_p41 : lw_okq (⟨"NeverAgainModel", "readMatters", "()V"⟩, 34) := ⟨⟨by decide +kernel, by decide +kernel⟩, List.mem_of_getElem? (i := 897) (by decide +kernel), List.mem_of_getElem? (i := 1078) (by decide +kernel), List.mem_of_getElem? (i := 1079) (by decide +kernel)⟩
theorem lw_p42 : lw_okq (⟨"NeverAgainModel", "bookNow", "()I"⟩, 34) := ⟨⟨by decide +kernel, by decide +kernel⟩, List.mem_of_getElem? (i := 897) (by decide +kernel), List.mem_of_getElem? (i := 1082) (by decide +kernel), List.mem_of_getElem? (i := 1083) (by decide +kernel)⟩
theorem lw_p43 : lw_okq (⟨"NeverAgainModel", "readPage", "()V"⟩, 34) := ⟨⟨by decide +kernel, by decide +kernel⟩, List.mem_of_getElem? (i := 897) (by decide +kernel), List.mem_of_getElem? (i := 1086) (by decide +kernel), List.mem_of_getElem? (i := 1087) (by decide +kernel)⟩
theorem lw_p44 : lw_okq (⟨"NeverAgainModel", "readMatter", "()I"⟩, 34) := ⟨⟨by decide +kernel, by decide +kernel⟩, List.mem_of_getElem? (i := 897) (by decide +kernel), List.mem_of_getElem? (i := 1090) (by decide +kernel), List.mem_of_getElem? (i := 1091) (by decide +kernel)⟩
theorem lw_p45 : lw_okq (⟨"NeverAgainModel", "readRung", "()V"⟩, 34) := ⟨⟨by decide +kernel, by decide +kernel⟩, List.mem_of_getElem? (i := 897) (by decide +kernel), List.mem_of_getElem? (i := 1094) (by decide +kernel), List.mem_of_getElem? (i := 1095) (by decide +kernel)⟩
theorem lw_p46 : lw_okq (⟨"NeverAgainModel", "readAsked", "()V"⟩, 34) := ⟨⟨by decide +kernel, by decide +kernel⟩, List.mem_of_getElem? (i := 897) (by decide +kernel), List.mem_of_getElem? (i := 1098) (by decide +kernel), List.mem_of_getElem? (i := 1099) (by decide +kernel)⟩
theorem lw_p47 : lw_okq (⟨"NeverAgainModel", "isMatter", "(I)Z"⟩, 34) := ⟨⟨by decide +kernel, by decide +kernel⟩, List.mem_of_getElem? (i := 897) (by decide +kernel), List.mem_of_getElem? (i := 1118) (by decide +kernel), List.mem_of_getElem? (i := 1119) (by decide +kernel)⟩
def lw_privs_3 : List (MethodName × Nat) := [(⟨"NeverAgainModel", "needs", "(ZI)V"⟩, 34), (⟨"NeverAgainModel", "readLine", "()V"⟩, 34), (⟨"NeverAgainModel", "lineNow", "()I"⟩, 34), (⟨"NeverAgainModel", "is", "(IIII)Z"⟩, 34), (⟨"NeverAgainModel", "ends", "(III)Z"⟩, 34), (⟨"NeverAgainModel", "ruleLine", "()I"⟩, 34), (⟨"NeverAgainModel", "readLineOf", "(I)V"⟩, 34), (⟨"NeverAgainModel", "readNumber", "(II)I"⟩, 34), (⟨"NeverAgainModel", "looked", "(II)I"⟩, 34), (⟨"NeverAgainModel", "readMatters", "()V"⟩, 34), (⟨"NeverAgainModel", "bookNow", "()I"⟩, 34), (⟨"NeverAgainModel", "readPage", "()V"⟩, 34), (⟨"NeverAgainModel", "readMatter", "()I"⟩, 34), (⟨"NeverAgainModel", "readRung", "()V"⟩, 34), (⟨"NeverAgainModel", "readAsked", "()V"⟩, 34), (⟨"NeverAgainModel", "isMatter", "(I)Z"⟩, 34)]
theorem lw_r3 : ∀ q ∈ lw_privs_3, lw_okq q := List.forall_mem_cons.mpr ⟨lw_p32, List.forall_mem_cons.mpr ⟨lw_p33, List.forall_mem_cons.mpr ⟨lw_p34, List.forall_mem_cons.mpr ⟨lw_p35, List.forall_mem_cons.mpr ⟨lw_p36, List.forall_mem_cons.mpr ⟨lw_p37, List.forall_mem_cons.mpr ⟨lw_p38, List.forall_mem_cons.mpr ⟨lw_p39, List.forall_mem_cons.mpr ⟨lw_p40, List.forall_mem_cons.mpr ⟨lw_p41, List.forall_mem_cons.mpr ⟨lw_p42, List.forall_mem_cons.mpr ⟨lw_p43, List.forall_mem_cons.mpr ⟨lw_p44, List.forall_mem_cons.mpr ⟨lw_p45, List.forall_mem_cons.mpr ⟨lw_p46, List.forall_mem_cons.mpr ⟨lw_p47, fun _ h => absurd h List.not_mem_nil⟩⟩⟩⟩⟩⟩⟩⟩⟩⟩⟩⟩⟩⟩⟩⟩
theorem lw_p48 : lw_okq (⟨"NeverAgainModel", "isNumber", "(I)Z"⟩, 34) := ⟨⟨by decide +kernel, by decide +kernel⟩, List.mem_of_getElem? (i := 897) (by decide +kernel), List.mem_of_getElem? (i := 1126) (by decide +kernel), List.mem_of_getElem? (i := 1127) (by decide +kernel)⟩
theorem lw_p49 : lw_okq (⟨"NeverAgainModel", "rowNow", "()V"⟩, 34) := ⟨⟨by decide +kernel, by decide +kernel⟩, List.mem_of_getElem? (i := 897) (by decide +kernel), List.mem_of_getElem? (i := 1156) (by decide +kernel), List.mem_of_getElem? (i := 1157) (by decide +kernel)⟩
theorem lw_p50 : lw_okq (⟨"NeverAgainModel", "mayNow", "()I"⟩, 34) := ⟨⟨by decide +kernel, by decide +kernel⟩, List.mem_of_getElem? (i := 897) (by decide +kernel), List.mem_of_getElem? (i := 1160) (by decide +kernel), List.mem_of_getElem? (i := 1161) (by decide +kernel)⟩
theorem lw_p51 : lw_okq (⟨"NeverAgainModel", "mayBe", "(I)Z"⟩, 34) := ⟨⟨by decide +kernel, by decide +kernel⟩, List.mem_of_getElem? (i := 897) (by decide +kernel), List.mem_of_getElem? (i := 1164) (by decide +kernel), List.mem_of_getElem? (i := 1165) (by decide +kernel)⟩
theorem lw_p52 : lw_okq (⟨"NeverAgainModel", "meaningOf", "(I)I"⟩, 34) := ⟨⟨by decide +kernel, by decide +kernel⟩, List.mem_of_getElem? (i := 897) (by decide +kernel), List.mem_of_getElem? (i := 1175) (by decide +kernel), List.mem_of_getElem? (i := 1176) (by decide +kernel)⟩
theorem lw_p53 : lw_okq (⟨"NeverAgainModel", "cheapestFor", "(I)I"⟩, 34) := ⟨⟨by decide +kernel, by decide +kernel⟩, List.mem_of_getElem? (i := 897) (by decide +kernel), List.mem_of_getElem? (i := 1183) (by decide +kernel), List.mem_of_getElem? (i := 1184) (by decide +kernel)⟩
theorem lw_p54 : lw_okq (⟨"NeverAgainModel", "tellsIt", "(II)Z"⟩, 34) := ⟨⟨by decide +kernel, by decide +kernel⟩, List.mem_of_getElem? (i := 897) (by decide +kernel), List.mem_of_getElem? (i := 1187) (by decide +kernel), List.mem_of_getElem? (i := 1188) (by decide +kernel)⟩
theorem lw_p55 : lw_okq (⟨"NeverAgainModel", "adds", "(I)V"⟩, 34) := ⟨⟨by decide +kernel, by decide +kernel⟩, List.mem_of_getElem? (i := 897) (by decide +kernel), List.mem_of_getElem? (i := 1199) (by decide +kernel), List.mem_of_getElem? (i := 1200) (by decide +kernel)⟩
theorem lw_p56 : lw_okq (⟨"NeverAgainModel", "wantedNow", "()V"⟩, 34) := ⟨⟨by decide +kernel, by decide +kernel⟩, List.mem_of_getElem? (i := 897) (by decide +kernel), List.mem_of_getElem? (i := 1232) (by decide +kernel), List.mem_of_getElem? (i := 1233) (by decide +kernel)⟩
theorem lw_p57 : lw_okq (⟨"NeverAgainModel", "findPlan", "(I)V"⟩, 34) := ⟨⟨by decide +kernel, by decide +kernel⟩, List.mem_of_getElem? (i := 897) (by decide +kernel), List.mem_of_getElem? (i := 1236) (by decide +kernel), List.mem_of_getElem? (i := 1237) (by decide +kernel)⟩
theorem lw_p58 : lw_okq (⟨"NeverAgainModel", "takesPlan", "(III)V"⟩, 34) := ⟨⟨by decide +kernel, by decide +kernel⟩, List.mem_of_getElem? (i := 897) (by decide +kernel), List.mem_of_getElem? (i := 1241) (by decide +kernel), List.mem_of_getElem? (i := 1242) (by decide +kernel)⟩
theorem lw_p59 : lw_okq (⟨"NeverAgainModel", "planTold", "(I)I"⟩, 34) := ⟨⟨by decide +kernel, by decide +kernel⟩, List.mem_of_getElem? (i := 897) (by decide +kernel), List.mem_of_getElem? (i := 1245) (by decide +kernel), List.mem_of_getElem? (i := 1246) (by decide +kernel)⟩
theorem lw_p60 : lw_okq (⟨"NeverAgainModel", "findRuled", "(I)V"⟩, 34) := ⟨⟨by decide +kernel, by decide +kernel⟩, List.mem_of_getElem? (i := 897) (by decide +kernel), List.mem_of_getElem? (i := 1253) (by decide +kernel), List.mem_of_getElem? (i := 1254) (by decide +kernel)⟩
theorem lw_p61 : lw_okq (⟨"NeverAgainModel", "rowMissed", "(I)V"⟩, 34) := ⟨⟨by decide +kernel, by decide +kernel⟩, List.mem_of_getElem? (i := 897) (by decide +kernel), List.mem_of_getElem? (i := 1275) (by decide +kernel), List.mem_of_getElem? (i := 1276) (by decide +kernel)⟩
theorem lw_p62 : lw_okq (⟨"NeverAgainModel", "findPutOff", "()V"⟩, 34) := ⟨⟨by decide +kernel, by decide +kernel⟩, List.mem_of_getElem? (i := 897) (by decide +kernel), List.mem_of_getElem? (i := 1297) (by decide +kernel), List.mem_of_getElem? (i := 1298) (by decide +kernel)⟩
theorem lw_p63 : lw_okq (⟨"NeverAgainModel", "isLate", "(II)Z"⟩, 34) := ⟨⟨by decide +kernel, by decide +kernel⟩, List.mem_of_getElem? (i := 897) (by decide +kernel), List.mem_of_getElem? (i := 1301) (by decide +kernel), List.mem_of_getElem? (i := 1302) (by decide +kernel)⟩
def lw_privs_4 : List (MethodName × Nat) := [(⟨"NeverAgainModel", "isNumber", "(I)Z"⟩, 34), (⟨"NeverAgainModel", "rowNow", "()V"⟩, 34), (⟨"NeverAgainModel", "mayNow", "()I"⟩, 34), (⟨"NeverAgainModel", "mayBe", "(I)Z"⟩, 34), (⟨"NeverAgainModel", "meaningOf", "(I)I"⟩, 34), (⟨"NeverAgainModel", "cheapestFor", "(I)I"⟩, 34), (⟨"NeverAgainModel", "tellsIt", "(II)Z"⟩, 34), (⟨"NeverAgainModel", "adds", "(I)V"⟩, 34), (⟨"NeverAgainModel", "wantedNow", "()V"⟩, 34), (⟨"NeverAgainModel", "findPlan", "(I)V"⟩, 34), (⟨"NeverAgainModel", "takesPlan", "(III)V"⟩, 34), (⟨"NeverAgainModel", "planTold", "(I)I"⟩, 34), (⟨"NeverAgainModel", "findRuled", "(I)V"⟩, 34), (⟨"NeverAgainModel", "rowMissed", "(I)V"⟩, 34), (⟨"NeverAgainModel", "findPutOff", "()V"⟩, 34), (⟨"NeverAgainModel", "isLate", "(II)Z"⟩, 34)]
theorem lw_r4 : ∀ q ∈ lw_privs_4, lw_okq q := List.forall_mem_cons.mpr ⟨lw_p48, List.forall_mem_cons.mpr ⟨lw_p49, List.forall_mem_cons.mpr ⟨lw_p50, List.forall_mem_cons.mpr ⟨lw_p51, List.forall_mem_cons.mpr ⟨lw_p52, List.forall_mem_cons.mpr ⟨lw_p53, List.forall_mem_cons.mpr ⟨lw_p54, List.forall_mem_cons.mpr ⟨lw_p55, List.forall_mem_cons.mpr ⟨lw_p56, List.forall_mem_cons.mpr ⟨lw_p57, List.forall_mem_cons.mpr ⟨lw_p58, List.forall_mem_cons.mpr ⟨lw_p59, List.forall_mem_cons.mpr ⟨lw_p60, List.forall_mem_cons.mpr ⟨lw_p61, List.forall_mem_cons.mpr ⟨lw_p62, List.forall_mem_cons.mpr ⟨lw_p63, fun _ h => absurd h List.not_mem_nil⟩⟩⟩⟩⟩⟩⟩⟩⟩⟩⟩⟩⟩⟩⟩⟩
theorem lw_p64 : lw_okq (⟨"NeverAgainModel", "canDo", "(III)Z"⟩, 34) := ⟨⟨by decide +kernel, by decide +kernel⟩, List.mem_of_getElem? (i := 897) (by decide +kernel), List.mem_of_getElem? (i := 1305) (by decide +kernel), List.mem_of_getElem? (i := 1306) (by decide +kernel)⟩
theorem lw_p65 : lw_okq (⟨"NeverAgainModel", "copies", "(II)V"⟩, 34) := ⟨⟨by decide +kernel, by decide +kernel⟩, List.mem_of_getElem? (i := 897) (by decide +kernel), List.mem_of_getElem? (i := 1322) (by decide +kernel), List.mem_of_getElem? (i := 1323) (by decide +kernel)⟩
def lw_privs_5 : List (MethodName × Nat) := [(⟨"NeverAgainModel", "canDo", "(III)Z"⟩, 34), (⟨"NeverAgainModel", "copies", "(II)V"⟩, 34)]
theorem lw_r5 : ∀ q ∈ lw_privs_5, lw_okq q := List.forall_mem_cons.mpr ⟨lw_p64, List.forall_mem_cons.mpr ⟨lw_p65, fun _ h => absurd h List.not_mem_nil⟩⟩
def lw_privs : List (MethodName × Nat) := lw_privs_1 ++ (lw_privs_2 ++ (lw_privs_3 ++ (lw_privs_4 ++ (lw_privs_5))))
def lw_tbl : List Cond := k2_sels lw_privs ++ tables_1
theorem lw_privs_ok : ∀ q ∈ lw_privs, lw_okq q := by
  show ∀ q ∈ lw_privs_1 ++ (lw_privs_2 ++ (lw_privs_3 ++ (lw_privs_4 ++ (lw_privs_5)))), lw_okq q
  exact List.forall_mem_append.mpr ⟨lw_r1, List.forall_mem_append.mpr ⟨lw_r2, List.forall_mem_append.mpr ⟨lw_r3, List.forall_mem_append.mpr ⟨lw_r4, lw_r5⟩⟩⟩⟩
/-! ===== names: classes, fields, methods (printed by TURN) ===== -/
def RX0 : String := "NeverAgain$Almanac"
def TX0 : u_T := fun k => match k with
  | 0 => ("NeverAgain$Almanac", "rung", "[I", true)
  | 1 => ("NeverAgain$Almanac", "lastBefore", "[I", true)
  | 2 => ("NeverAgain$Almanac", "last", "[I", true)
  | 3 => ("NeverAgain$Almanac", "told", "LNeverAgain$Told;", false)
  | _ => ("NeverAgain$Almanac", "today", "I", false)
def tyX0 : Nat → FieldType := fun k => match k with
  | 0 => .array .int
  | 1 => .array .int
  | 2 => .array .int
  | 3 => .object "NeverAgain$Told"
  | _ => .int
abbrev wsX00 : List Cond := u_ws RX0 TX0 5
theorem nmX0 : ∀ a, a < 5 → ∀ b, b < 5 → a ≠ b → (TX0 a).2.1 ≠ (TX0 b).2.1 := by decide +kernel
theorem tyX0_ok : ∀ k, k < 5 → parseFieldDescriptor (TX0 k).2.2.1 = some (tyX0 k) := by decide +kernel
abbrev cX0_init : ByteArray := prog_2_method_1_code
def yX0_init : MethodName := ⟨RX0, "<init>", "(LNeverAgain$Told;)V"⟩
abbrev cX0_begin : ByteArray := prog_2_method_2_code
def yX0_begin : MethodName := ⟨RX0, "begin", "(LNeverAgain$Told;I)V"⟩
abbrev cX0_pass : ByteArray := prog_2_method_3_code
def yX0_pass : MethodName := ⟨RX0, "pass", "(I)V"⟩
abbrev cX0_takeBack : ByteArray := prog_2_method_4_code
def yX0_takeBack : MethodName := ⟨RX0, "takeBack", "()V"⟩
abbrev cX0_freeBits : ByteArray := prog_2_method_5_code
def yX0_freeBits : MethodName := ⟨RX0, "freeBits", "()I"⟩
abbrev cX0_bitsByGap : ByteArray := prog_2_method_6_code
def yX0_bitsByGap : MethodName := ⟨RX0, "bitsByGap", "(I)I"⟩
abbrev cX0_leastFree : ByteArray := prog_2_method_7_code
def yX0_leastFree : MethodName := ⟨RX0, "leastFree", "()I"⟩
abbrev cX0_meaning : ByteArray := prog_2_method_8_code
def yX0_meaning : MethodName := ⟨RX0, "meaning", "(II)I"⟩
abbrev cX0_tells : ByteArray := prog_2_method_9_code
def yX0_tells : MethodName := ⟨RX0, "tells", "(III)Z"⟩
abbrev cX0_leastFor : ByteArray := prog_2_method_10_code
def yX0_leastFor : MethodName := ⟨RX0, "leastFor", "(I)I"⟩
abbrev cX0_floorFor : ByteArray := prog_2_method_11_code
def yX0_floorFor : MethodName := ⟨RX0, "floorFor", "(I)I"⟩
abbrev cX0_mostNumber : ByteArray := prog_2_method_12_code
def yX0_mostNumber : MethodName := ⟨RX0, "mostNumber", "()I"⟩
def RX1 : String := "NeverAgain$Delayer"
def TX1 : u_T := fun k => match k with
  | 0 => ("NeverAgain$Delayer", "almanac", "LNeverAgain$Almanac;", true)
  | 1 => ("NeverAgain$Delayer", "floors", "[I", true)
  | 2 => ("NeverAgain$Delayer", "trialDay", "[I", true)
  | 3 => ("NeverAgain$Delayer", "trialNumber", "[I", true)
  | 4 => ("NeverAgain$Delayer", "bestDay", "[I", true)
  | 5 => ("NeverAgain$Delayer", "bestNumber", "[I", true)
  | 6 => ("NeverAgain$Delayer", "length", "I", false)
  | _ => ("NeverAgain$Delayer", "strokes", "I", false)
def tyX1 : Nat → FieldType := fun k => match k with
  | 0 => .object "NeverAgain$Almanac"
  | 1 => .array .int
  | 2 => .array .int
  | 3 => .array .int
  | 4 => .array .int
  | 5 => .array .int
  | 6 => .int
  | _ => .int
abbrev wsX10 : List Cond := u_ws RX1 TX1 8
theorem nmX1 : ∀ a, a < 8 → ∀ b, b < 8 → a ≠ b → (TX1 a).2.1 ≠ (TX1 b).2.1 := by decide +kernel
theorem tyX1_ok : ∀ k, k < 8 → parseFieldDescriptor (TX1 k).2.2.1 = some (tyX1 k) := by decide +kernel
abbrev cX1_init : ByteArray := prog_3_method_1_code
def yX1_init : MethodName := ⟨RX1, "<init>", "(LNeverAgain$Almanac;)V"⟩
abbrev cX1_findCheapest : ByteArray := prog_3_method_2_code
def yX1_findCheapest : MethodName := ⟨RX1, "findCheapest", "(LNeverAgain$Told;)V"⟩
abbrev cX1_searchFrom : ByteArray := prog_3_method_3_code
def yX1_searchFrom : MethodName := ⟨RX1, "searchFrom", "(LNeverAgain$Delayer;LNeverAgain$Told;III)V"⟩
abbrev cX1_tryNumbers : ByteArray := prog_3_method_4_code
def yX1_tryNumbers : MethodName := ⟨RX1, "tryNumbers", "(LNeverAgain$Delayer;LNeverAgain$Told;IIII)V"⟩
abbrev cX1_isBehindItsLike : ByteArray := prog_3_method_5_code
def yX1_isBehindItsLike : MethodName := ⟨RX1, "isBehindItsLike", "(LNeverAgain$Told;II)Z"⟩
abbrev cX1_floorOf : ByteArray := prog_3_method_6_code
def yX1_floorOf : MethodName := ⟨RX1, "floorOf", "(I)I"⟩
abbrev cX1_someIsLate : ByteArray := prog_3_method_7_code
def yX1_someIsLate : MethodName := ⟨RX1, "someIsLate", "(LNeverAgain$Told;II)Z"⟩
abbrev cX1_takeTrial : ByteArray := prog_3_method_8_code
def yX1_takeTrial : MethodName := ⟨RX1, "takeTrial", "(I)V"⟩
abbrev cX1_allStrokes : ByteArray := prog_3_method_9_code
def yX1_allStrokes : MethodName := ⟨RX1, "allStrokes", "()I"⟩
abbrev cX1_dayOf : ByteArray := prog_3_method_10_code
def yX1_dayOf : MethodName := ⟨RX1, "dayOf", "(I)I"⟩
abbrev cX1_numberOf : ByteArray := prog_3_method_11_code
def yX1_numberOf : MethodName := ⟨RX1, "numberOf", "(I)I"⟩
abbrev cX1_has : ByteArray := prog_3_method_12_code
def yX1_has : MethodName := ⟨RX1, "has", "(I)Z"⟩
def RX2 : String := "NeverAgain$Planner"
def TX2 : u_T := fun k => match k with
  | 0 => ("NeverAgain$Planner", "almanac", "LNeverAgain$Almanac;", true)
  | 1 => ("NeverAgain$Planner", "row", "[I", true)
  | 2 => ("NeverAgain$Planner", "floorFrom", "[I", true)
  | 3 => ("NeverAgain$Planner", "trial", "[I", true)
  | 4 => ("NeverAgain$Planner", "best", "[I", true)
  | 5 => ("NeverAgain$Planner", "length", "I", false)
  | _ => ("NeverAgain$Planner", "strokes", "I", false)
def tyX2 : Nat → FieldType := fun k => match k with
  | 0 => .object "NeverAgain$Almanac"
  | 1 => .array .int
  | 2 => .array .int
  | 3 => .array .int
  | 4 => .array .int
  | 5 => .int
  | _ => .int
abbrev wsX20 : List Cond := u_ws RX2 TX2 7
theorem nmX2 : ∀ a, a < 7 → ∀ b, b < 7 → a ≠ b → (TX2 a).2.1 ≠ (TX2 b).2.1 := by decide +kernel
theorem tyX2_ok : ∀ k, k < 7 → parseFieldDescriptor (TX2 k).2.2.1 = some (tyX2 k) := by decide +kernel
abbrev cX2_init : ByteArray := prog_4_method_1_code
def yX2_init : MethodName := ⟨RX2, "<init>", "(LNeverAgain$Almanac;)V"⟩
abbrev cX2_takeAsked : ByteArray := prog_4_method_2_code
def yX2_takeAsked : MethodName := ⟨RX2, "takeAsked", "(LNeverAgain$Told;)V"⟩
abbrev cX2_takeRow : ByteArray := prog_4_method_3_code
def yX2_takeRow : MethodName := ⟨RX2, "takeRow", "(LNeverAgain$Told;II)Z"⟩
abbrev cX2_findCheapest : ByteArray := prog_4_method_4_code
def yX2_findCheapest : MethodName := ⟨RX2, "findCheapest", "()V"⟩
abbrev cX2_searchFrom : ByteArray := prog_4_method_5_code
def yX2_searchFrom : MethodName := ⟨RX2, "searchFrom", "(LNeverAgain$Planner;II)V"⟩
abbrev cX2_followRule : ByteArray := prog_4_method_6_code
def yX2_followRule : MethodName := ⟨RX2, "followRule", "()V"⟩
abbrev cX2_ruleAbovePlan : ByteArray := prog_4_method_7_code
def yX2_ruleAbovePlan : MethodName := ⟨RX2, "ruleAbovePlan", "()I"⟩
abbrev cX2_answer : ByteArray := prog_4_method_8_code
def yX2_answer : MethodName := ⟨RX2, "answer", "(I)I"⟩
abbrev cX2_weightOfRows : ByteArray := prog_4_method_9_code
def yX2_weightOfRows : MethodName := ⟨RX2, "weightOfRows", "(LNeverAgain$Told;I)J"⟩
abbrev cX2_strokesOfRows : ByteArray := prog_4_method_10_code
def yX2_strokesOfRows : MethodName := ⟨RX2, "strokesOfRows", "(LNeverAgain$Told;I)J"⟩
abbrev cX2_strokesFrom : ByteArray := prog_4_method_11_code
def yX2_strokesFrom : MethodName := ⟨RX2, "strokesFrom", "(LNeverAgain$Planner;LNeverAgain$Told;I)J"⟩
def RX3 : String := "NeverAgain$SetFinder"
def TX3 : u_T := fun k => match k with
  | 0 => ("NeverAgain$SetFinder", "most", "I", false)
  | 1 => ("NeverAgain$SetFinder", "rungBits", "I", false)
  | 2 => ("NeverAgain$SetFinder", "found", "I", false)
  | 3 => ("NeverAgain$SetFinder", "first", "I", false)
  | _ => ("NeverAgain$SetFinder", "inAll", "I", false)
def tyX3 : Nat → FieldType := fun k => match k with
  | 0 => .int
  | 1 => .int
  | 2 => .int
  | 3 => .int
  | _ => .int
abbrev wsX30 : List Cond := u_ws RX3 TX3 5
theorem nmX3 : ∀ a, a < 5 → ∀ b, b < 5 → a ≠ b → (TX3 a).2.1 ≠ (TX3 b).2.1 := by decide +kernel
theorem tyX3_ok : ∀ k, k < 5 → parseFieldDescriptor (TX3 k).2.2.1 = some (tyX3 k) := by decide +kernel
abbrev cX3_init : ByteArray := prog_5_method_1_code
def yX3_init : MethodName := ⟨RX3, "<init>", "()V"⟩
abbrev cX3_find : ByteArray := prog_5_method_2_code
def yX3_find : MethodName := ⟨RX3, "find", "(LNeverAgain$Told;II)V"⟩
abbrev cX3_pickFrom : ByteArray := prog_5_method_3_code
def yX3_pickFrom : MethodName := ⟨RX3, "pickFrom", "(LNeverAgain$SetFinder;IIII)V"⟩
abbrev cX3_take : ByteArray := prog_5_method_4_code
def yX3_take : MethodName := ⟨RX3, "take", "(I)V"⟩
def RX4 : String := "NeverAgain$Sheet"
def TX4 : u_T := fun k => match k with
  | 0 => ("NeverAgain$Sheet", "cells", "[I", true)
  | 1 => ("NeverAgain$Sheet", "lane", "I", false)
  | _ => ("NeverAgain$Sheet", "length", "I", false)
def tyX4 : Nat → FieldType := fun k => match k with
  | 0 => .array .int
  | 1 => .int
  | _ => .int
abbrev wsX40 : List Cond := u_ws RX4 TX4 3
theorem nmX4 : ∀ a, a < 3 → ∀ b, b < 3 → a ≠ b → (TX4 a).2.1 ≠ (TX4 b).2.1 := by decide +kernel
theorem tyX4_ok : ∀ k, k < 3 → parseFieldDescriptor (TX4 k).2.2.1 = some (tyX4 k) := by decide +kernel
abbrev cX4_init : ByteArray := prog_6_method_1_code
def yX4_init : MethodName := ⟨RX4, "<init>", "()V"⟩
abbrev cX4_isNothing : ByteArray := prog_6_method_2_code
def yX4_isNothing : MethodName := ⟨RX4, "isNothing", "()Z"⟩
abbrev cX4_makeNew : ByteArray := prog_6_method_3_code
def yX4_makeNew : MethodName := ⟨RX4, "makeNew", "(II)V"⟩
abbrev cX4_faultAs : ByteArray := prog_6_method_4_code
def yX4_faultAs : MethodName := ⟨RX4, "faultAs", "(II)I"⟩
abbrev cX4_faultAt : ByteArray := prog_6_method_5_code
def yX4_faultAt : MethodName := ⟨RX4, "faultAt", "(I)I"⟩
abbrev cX4_cell : ByteArray := prog_6_method_6_code
def yX4_cell : MethodName := ⟨RX4, "cell", "(I)I"⟩
abbrev cX4_put : ByteArray := prog_6_method_7_code
def yX4_put : MethodName := ⟨RX4, "put", "(II)V"⟩
def RX5 : String := "NeverAgain$TextReader"
def TX5 : u_T := fun k => match k with
  | 0 => ("NeverAgain$TextReader", "bytes", "[B", true)
  | 1 => ("NeverAgain$TextReader", "length", "I", false)
  | 2 => ("NeverAgain$TextReader", "fault", "I", false)
  | 3 => ("NeverAgain$TextReader", "faultPlace", "I", false)
  | 4 => ("NeverAgain$TextReader", "draft", "LNeverAgain$Told;", false)
  | 5 => ("NeverAgain$TextReader", "seen", "I", false)
  | 6 => ("NeverAgain$TextReader", "place", "I", false)
  | 7 => ("NeverAgain$TextReader", "kind", "I", false)
  | 8 => ("NeverAgain$TextReader", "start", "I", false)
  | _ => ("NeverAgain$TextReader", "number", "I", false)
def tyX5 : Nat → FieldType := fun k => match k with
  | 0 => .array .byte
  | 1 => .int
  | 2 => .int
  | 3 => .int
  | 4 => .object "NeverAgain$Told"
  | 5 => .int
  | 6 => .int
  | 7 => .int
  | 8 => .int
  | _ => .int
abbrev wsX50 : List Cond := u_ws RX5 TX5 10
theorem nmX5 : ∀ a, a < 10 → ∀ b, b < 10 → a ≠ b → (TX5 a).2.1 ≠ (TX5 b).2.1 := by decide +kernel
theorem tyX5_ok : ∀ k, k < 10 → parseFieldDescriptor (TX5 k).2.2.1 = some (tyX5 k) := by decide +kernel
abbrev cX5_init : ByteArray := prog_7_method_1_code
def yX5_init : MethodName := ⟨RX5, "<init>", "(LNeverAgain$Told;)V"⟩
abbrev cX5_append : ByteArray := prog_7_method_2_code
def yX5_append : MethodName := ⟨RX5, "append", "(J)Z"⟩
abbrev cX5_readInto : ByteArray := prog_7_method_3_code
def yX5_readInto : MethodName := ⟨RX5, "readInto", "(LNeverAgain$Told;)I"⟩
abbrev cX5_fail : ByteArray := prog_7_method_4_code
def yX5_fail : MethodName := ⟨RX5, "fail", "(II)Z"⟩
abbrev cX5_line : ByteArray := prog_7_method_5_code
def yX5_line : MethodName := ⟨RX5, "line", "()Z"⟩
abbrev cX5_once : ByteArray := prog_7_method_6_code
def yX5_once : MethodName := ⟨RX5, "once", "(I)Z"⟩
abbrev cX5_mostLine : ByteArray := prog_7_method_7_code
def yX5_mostLine : MethodName := ⟨RX5, "mostLine", "()Z"⟩
abbrev cX5_mattersLine : ByteArray := prog_7_method_8_code
def yX5_mattersLine : MethodName := ⟨RX5, "mattersLine", "()Z"⟩
abbrev cX5_gapLine : ByteArray := prog_7_method_9_code
def yX5_gapLine : MethodName := ⟨RX5, "gapLine", "()Z"⟩
abbrev cX5_nearLine : ByteArray := prog_7_method_10_code
def yX5_nearLine : MethodName := ⟨RX5, "nearLine", "()Z"⟩
abbrev cX5_bookLine : ByteArray := prog_7_method_11_code
def yX5_bookLine : MethodName := ⟨RX5, "bookLine", "()Z"⟩
abbrev cX5_pageLine : ByteArray := prog_7_method_12_code
def yX5_pageLine : MethodName := ⟨RX5, "pageLine", "()Z"⟩
abbrev cX5_rungLine : ByteArray := prog_7_method_13_code
def yX5_rungLine : MethodName := ⟨RX5, "rungLine", "()Z"⟩
abbrev cX5_askLine : ByteArray := prog_7_method_14_code
def yX5_askLine : MethodName := ⟨RX5, "askLine", "()Z"⟩
abbrev cX5_waitLine : ByteArray := prog_7_method_15_code
def yX5_waitLine : MethodName := ⟨RX5, "waitLine", "()Z"⟩
abbrev cX5_stop : ByteArray := prog_7_method_16_code
def yX5_stop : MethodName := ⟨RX5, "stop", "()Z"⟩
abbrev cX5_figures : ByteArray := prog_7_method_17_code
def yX5_figures : MethodName := ⟨RX5, "figures", "(II)Z"⟩
abbrev cX5_moreFigures : ByteArray := prog_7_method_18_code
def yX5_moreFigures : MethodName := ⟨RX5, "moreFigures", "(II)Z"⟩
abbrev cX5_inBounds : ByteArray := prog_7_method_19_code
def yX5_inBounds : MethodName := ⟨RX5, "inBounds", "(II)Z"⟩
abbrev cX5_nextToken : ByteArray := prog_7_method_20_code
def yX5_nextToken : MethodName := ⟨RX5, "nextToken", "()Z"⟩
abbrev cX5_isName : ByteArray := prog_7_method_21_code
def yX5_isName : MethodName := ⟨RX5, "isName", "(Ljava/lang/String;)Z"⟩
abbrev cX5_byteAt : ByteArray := prog_7_method_22_code
def yX5_byteAt : MethodName := ⟨RX5, "byteAt", "(I)I"⟩
abbrev cX5_isFigure : ByteArray := prog_7_method_23_code
def yX5_isFigure : MethodName := ⟨RX5, "isFigure", "(I)Z"⟩
abbrev cX5_isLetter : ByteArray := prog_7_method_24_code
def yX5_isLetter : MethodName := ⟨RX5, "isLetter", "(I)Z"⟩
def RX6 : String := "NeverAgain$Told"
def TX6 : u_T := fun k => match k with
  | 0 => ("NeverAgain$Told", "weights", "[I", true)
  | 1 => ("NeverAgain$Told", "pages", "[I", true)
  | 2 => ("NeverAgain$Told", "days", "[I", true)
  | 3 => ("NeverAgain$Told", "asked", "[I", true)
  | 4 => ("NeverAgain$Told", "waiting", "[I", true)
  | 5 => ("NeverAgain$Told", "until", "[I", true)
  | 6 => ("NeverAgain$Told", "most", "I", false)
  | 7 => ("NeverAgain$Told", "matters", "I", false)
  | 8 => ("NeverAgain$Told", "gap", "I", false)
  | 9 => ("NeverAgain$Told", "near", "I", false)
  | 10 => ("NeverAgain$Told", "book", "I", false)
  | 11 => ("NeverAgain$Told", "dayCount", "I", false)
  | 12 => ("NeverAgain$Told", "askedCount", "I", false)
  | _ => ("NeverAgain$Told", "waitCount", "I", false)
def tyX6 : Nat → FieldType := fun k => match k with
  | 0 => .array .int
  | 1 => .array .int
  | 2 => .array .int
  | 3 => .array .int
  | 4 => .array .int
  | 5 => .array .int
  | 6 => .int
  | 7 => .int
  | 8 => .int
  | 9 => .int
  | 10 => .int
  | 11 => .int
  | 12 => .int
  | _ => .int
abbrev wsX60 : List Cond := u_ws RX6 TX6 14
theorem nmX6 : ∀ a, a < 14 → ∀ b, b < 14 → a ≠ b → (TX6 a).2.1 ≠ (TX6 b).2.1 := by decide +kernel
theorem tyX6_ok : ∀ k, k < 14 → parseFieldDescriptor (TX6 k).2.2.1 = some (tyX6 k) := by decide +kernel
abbrev cX6_init : ByteArray := prog_8_method_1_code
def yX6_init : MethodName := ⟨RX6, "<init>", "()V"⟩
abbrev cX6_makeFirst : ByteArray := prog_8_method_2_code
def yX6_makeFirst : MethodName := ⟨RX6, "makeFirst", "()V"⟩
abbrev cX6_copyOf : ByteArray := prog_8_method_3_code
def yX6_copyOf : MethodName := ⟨RX6, "copyOf", "(LNeverAgain$Told;)V"⟩
abbrev cX6_hasNumber : ByteArray := prog_8_method_4_code
def yX6_hasNumber : MethodName := ⟨RX6, "hasNumber", "(I)Z"⟩
abbrev cX6_hasMatter : ByteArray := prog_8_method_5_code
def yX6_hasMatter : MethodName := ⟨RX6, "hasMatter", "(I)Z"⟩
abbrev cX6_addDay : ByteArray := prog_8_method_6_code
def yX6_addDay : MethodName := ⟨RX6, "addDay", "(I)Z"⟩
abbrev cX6_addAsked : ByteArray := prog_8_method_7_code
def yX6_addAsked : MethodName := ⟨RX6, "addAsked", "(I)Z"⟩
abbrev cX6_addWaiting : ByteArray := prog_8_method_8_code
def yX6_addWaiting : MethodName := ⟨RX6, "addWaiting", "(II)Z"⟩
abbrev cX6_allStrokes : ByteArray := prog_8_method_9_code
def yX6_allStrokes : MethodName := ⟨RX6, "allStrokes", "()I"⟩
abbrev cX6_rungBits : ByteArray := prog_8_method_10_code
def yX6_rungBits : MethodName := ⟨RX6, "rungBits", "()I"⟩
abbrev cX6_namesWhatIs : ByteArray := prog_8_method_11_code
def yX6_namesWhatIs : MethodName := ⟨RX6, "namesWhatIs", "()Z"⟩
def RX7 : String := "NeverAgain"
def TX7 : u_T := fun k => match k with
  | 0 => ("NeverAgain", "tape", "LNeverAgain$TextReader;", true)
  | 1 => ("NeverAgain", "almanac", "LNeverAgain$Almanac;", true)
  | 2 => ("NeverAgain", "planner", "LNeverAgain$Planner;", true)
  | 3 => ("NeverAgain", "delayer", "LNeverAgain$Delayer;", true)
  | 4 => ("NeverAgain", "sets", "LNeverAgain$SetFinder;", true)
  | 5 => ("NeverAgain", "images", "[LNeverAgain$Told;", true)
  | 6 => ("NeverAgain", "kept", "[Z", true)
  | 7 => ("NeverAgain", "sheets", "[LNeverAgain$Sheet;", true)
  | 8 => ("NeverAgain", "year", "[I", true)
  | 9 => ("NeverAgain", "told", "LNeverAgain$Told;", false)
  | 10 => ("NeverAgain", "draft", "LNeverAgain$Told;", false)
  | 11 => ("NeverAgain", "yearLength", "I", false)
  | 12 => ("NeverAgain", "textFault", "I", false)
  | _ => ("NeverAgain", "readFault", "I", false)
def tyX7 : Nat → FieldType := fun k => match k with
  | 0 => .object "NeverAgain$TextReader"
  | 1 => .object "NeverAgain$Almanac"
  | 2 => .object "NeverAgain$Planner"
  | 3 => .object "NeverAgain$Delayer"
  | 4 => .object "NeverAgain$SetFinder"
  | 5 => .array (.object "NeverAgain$Told")
  | 6 => .array .boolean
  | 7 => .array (.object "NeverAgain$Sheet")
  | 8 => .array .int
  | 9 => .object "NeverAgain$Told"
  | 10 => .object "NeverAgain$Told"
  | 11 => .int
  | 12 => .int
  | _ => .int
abbrev wsX70 : List Cond := u_ws RX7 TX7 14
theorem nmX7 : ∀ a, a < 14 → ∀ b, b < 14 → a ≠ b → (TX7 a).2.1 ≠ (TX7 b).2.1 := by decide +kernel
theorem tyX7_ok : ∀ k, k < 14 → parseFieldDescriptor (TX7 k).2.2.1 = some (tyX7 k) := by decide +kernel
abbrev cX7_init : ByteArray := prog_1_method_1_code
def yX7_init : MethodName := ⟨RX7, "<init>", "()V"⟩
abbrev cX7_feed : ByteArray := prog_1_method_2_code
def yX7_feed : MethodName := ⟨RX7, "feed", "(J)I"⟩
abbrev cX7_end : ByteArray := prog_1_method_3_code
def yX7_end : MethodName := ⟨RX7, "end", "(I)I"⟩
abbrev cX7_text : ByteArray := prog_1_method_4_code
def yX7_text : MethodName := ⟨RX7, "text", "()I"⟩
abbrev cX7_forgetImages : ByteArray := prog_1_method_5_code
def yX7_forgetImages : MethodName := ⟨RX7, "forgetImages", "()V"⟩
abbrev cX7_fault : ByteArray := prog_1_method_6_code
def yX7_fault : MethodName := ⟨RX7, "fault", "()I"⟩
abbrev cX7_rule : ByteArray := prog_1_method_7_code
def yX7_rule : MethodName := ⟨RX7, "rule", "(I)I"⟩
abbrev cX7_day : ByteArray := prog_1_method_8_code
def yX7_day : MethodName := ⟨RX7, "day", "(I)I"⟩
abbrev cX7_weight : ByteArray := prog_1_method_9_code
def yX7_weight : MethodName := ⟨RX7, "weight", "(I)I"⟩
abbrev cX7_page : ByteArray := prog_1_method_10_code
def yX7_page : MethodName := ⟨RX7, "page", "(I)I"⟩
abbrev cX7_gap : ByteArray := prog_1_method_11_code
def yX7_gap : MethodName := ⟨RX7, "gap", "(I)I"⟩
abbrev cX7_near : ByteArray := prog_1_method_12_code
def yX7_near : MethodName := ⟨RX7, "near", "(I)I"⟩
abbrev cX7_book : ByteArray := prog_1_method_13_code
def yX7_book : MethodName := ⟨RX7, "book", "(I)I"⟩
abbrev cX7_write : ByteArray := prog_1_method_14_code
def yX7_write : MethodName := ⟨RX7, "write", "(II)I"⟩
abbrev cX7_undo : ByteArray := prog_1_method_15_code
def yX7_undo : MethodName := ⟨RX7, "undo", "(I)I"⟩
abbrev cX7_may : ByteArray := prog_1_method_16_code
def yX7_may : MethodName := ⟨RX7, "may", "()I"⟩
abbrev cX7_means : ByteArray := prog_1_method_17_code
def yX7_means : MethodName := ⟨RX7, "means", "(I)I"⟩
abbrev cX7_cheap : ByteArray := prog_1_method_18_code
def yX7_cheap : MethodName := ⟨RX7, "cheap", "(I)I"⟩
abbrev cX7_ring : ByteArray := prog_1_method_19_code
def yX7_ring : MethodName := ⟨RX7, "ring", "(I)I"⟩
abbrev cX7_refusal : ByteArray := prog_1_method_20_code
def yX7_refusal : MethodName := ⟨RX7, "refusal", "(II)I"⟩
abbrev cX7_holds : ByteArray := prog_1_method_21_code
def yX7_holds : MethodName := ⟨RX7, "holds", "()I"⟩
abbrev cX7_tell : ByteArray := prog_1_method_22_code
def yX7_tell : MethodName := ⟨RX7, "tell", "(I)I"⟩
abbrev cX7_cut : ByteArray := prog_1_method_23_code
def yX7_cut : MethodName := ⟨RX7, "cut", "(I)I"⟩
abbrev cX7_judge : ByteArray := prog_1_method_24_code
def yX7_judge : MethodName := ⟨RX7, "judge", "(I)I"⟩
abbrev cX7_ask : ByteArray := prog_1_method_25_code
def yX7_ask : MethodName := ⟨RX7, "ask", "(I)I"⟩
abbrev cX7_drop : ByteArray := prog_1_method_26_code
def yX7_drop : MethodName := ⟨RX7, "drop", "(I)I"⟩
abbrev cX7_plan : ByteArray := prog_1_method_27_code
def yX7_plan : MethodName := ⟨RX7, "plan", "(I)I"⟩
abbrev cX7_byRule : ByteArray := prog_1_method_28_code
def yX7_byRule : MethodName := ⟨RX7, "byRule", "(I)I"⟩
abbrev cX7_asksForPlan : ByteArray := prog_1_method_29_code
def yX7_asksForPlan : MethodName := ⟨RX7, "asksForPlan", "(I)Z"⟩
abbrev cX7_worst : ByteArray := prog_1_method_30_code
def yX7_worst : MethodName := ⟨RX7, "worst", "(II)I"⟩
abbrev cX7_mean : ByteArray := prog_1_method_31_code
def yX7_mean : MethodName := ⟨RX7, "mean", "(II)J"⟩
abbrev cX7_greatestDivisor : ByteArray := prog_1_method_32_code
def yX7_greatestDivisor : MethodName := ⟨RX7, "greatestDivisor", "(JJ)J"⟩
abbrev cX7_reads : ByteArray := prog_1_method_33_code
def yX7_reads : MethodName := ⟨RX7, "reads", "(II)I"⟩
abbrev cX7_alike : ByteArray := prog_1_method_34_code
def yX7_alike : MethodName := ⟨RX7, "alike", "(I)I"⟩
abbrev cX7_stay : ByteArray := prog_1_method_35_code
def yX7_stay : MethodName := ⟨RX7, "stay", "(II)I"⟩
abbrev cX7_serve : ByteArray := prog_1_method_36_code
def yX7_serve : MethodName := ⟨RX7, "serve", "()I"⟩
abbrev cX7_putOff : ByteArray := prog_1_method_37_code
def yX7_putOff : MethodName := ⟨RX7, "putOff", "(I)I"⟩
abbrev cX7_forgotten : ByteArray := prog_1_method_38_code
def yX7_forgotten : MethodName := ⟨RX7, "forgotten", "(III)I"⟩
abbrev cX7_keep : ByteArray := prog_1_method_39_code
def yX7_keep : MethodName := ⟨RX7, "keep", "(I)I"⟩
abbrev cX7_back : ByteArray := prog_1_method_40_code
def yX7_back : MethodName := ⟨RX7, "back", "(I)I"⟩
abbrev cX7_sheet : ByteArray := prog_1_method_41_code
def yX7_sheet : MethodName := ⟨RX7, "sheet", "(III)I"⟩
abbrev cX7_lay : ByteArray := prog_1_method_42_code
def yX7_lay : MethodName := ⟨RX7, "lay", "(III)I"⟩
abbrev cX7_read : ByteArray := prog_1_method_43_code
def yX7_read : MethodName := ⟨RX7, "read", "(IIII)I"⟩
abbrev cX7_torn : ByteArray := prog_1_method_44_code
def yX7_torn : MethodName := ⟨RX7, "torn", "()I"⟩
abbrev cX7_count : ByteArray := prog_1_method_45_code
def yX7_count : MethodName := ⟨RX7, "count", "(I)I"⟩
def RX8 : String := "NeverAgainModel"
def TX8 : u_T := fun k => match k with
  | 0 => ("NeverAgainModel", "st", "[I", true)
  | 1 => ("NeverAgainModel", "isKept", "[Z", true)
  | 2 => ("NeverAgainModel", "most", "I", false)
  | 3 => ("NeverAgainModel", "matters", "I", false)
  | 4 => ("NeverAgainModel", "weights", "[I", true)
  | 5 => ("NeverAgainModel", "year", "[I", true)
  | 6 => ("NeverAgainModel", "yearMany", "I", false)
  | 7 => ("NeverAgainModel", "draft", "[I", true)
  | 8 => ("NeverAgainModel", "dMost", "I", false)
  | 9 => ("NeverAgainModel", "dMatters", "I", false)
  | 10 => ("NeverAgainModel", "dWeights", "[I", true)
  | 11 => ("NeverAgainModel", "told", "I", false)
  | 12 => ("NeverAgainModel", "highestNumber", "I", false)
  | 13 => ("NeverAgainModel", "highestMatter", "I", false)
  | 14 => ("NeverAgainModel", "tape", "[I", true)
  | 15 => ("NeverAgainModel", "taped", "I", false)
  | 16 => ("NeverAgainModel", "pos", "I", false)
  | 17 => ("NeverAgainModel", "from", "I", false)
  | 18 => ("NeverAgainModel", "sort", "I", false)
  | 19 => ("NeverAgainModel", "value", "I", false)
  | 20 => ("NeverAgainModel", "fault", "I", false)
  | 21 => ("NeverAgainModel", "wrongAt", "I", false)
  | 22 => ("NeverAgainModel", "row", "[I", true)
  | 23 => ("NeverAgainModel", "rowMany", "I", false)
  | 24 => ("NeverAgainModel", "wanted", "[I", true)
  | 25 => ("NeverAgainModel", "best", "[I", true)
  | 26 => ("NeverAgainModel", "bestStrokes", "I", false)
  | 27 => ("NeverAgainModel", "hisMeaning", "[I", true)
  | 28 => ("NeverAgainModel", "does", "[I", true)
  | 29 => ("NeverAgainModel", "bestDoes", "[I", true)
  | 30 => ("NeverAgainModel", "lanes", "[I", true)
  | 31 => ("NeverAgainModel", "sizes", "[I", true)
  | 32 => ("NeverAgainModel", "cells", "[I", true)
  | _ => ("NeverAgainModel", "torn", "I", false)
def tyX8 : Nat → FieldType := fun k => match k with
  | 0 => .array .int
  | 1 => .array .boolean
  | 2 => .int
  | 3 => .int
  | 4 => .array .int
  | 5 => .array .int
  | 6 => .int
  | 7 => .array .int
  | 8 => .int
  | 9 => .int
  | 10 => .array .int
  | 11 => .int
  | 12 => .int
  | 13 => .int
  | 14 => .array .int
  | 15 => .int
  | 16 => .int
  | 17 => .int
  | 18 => .int
  | 19 => .int
  | 20 => .int
  | 21 => .int
  | 22 => .array .int
  | 23 => .int
  | 24 => .array .int
  | 25 => .array .int
  | 26 => .int
  | 27 => .array .int
  | 28 => .array .int
  | 29 => .array .int
  | 30 => .array .int
  | 31 => .array .int
  | 32 => .array .int
  | _ => .int
abbrev wsX80 : List Cond := u_ws RX8 TX8 34
theorem nmX8 : ∀ a, a < 34 → ∀ b, b < 34 → a ≠ b → (TX8 a).2.1 ≠ (TX8 b).2.1 := by decide +kernel
theorem tyX8_ok : ∀ k, k < 34 → parseFieldDescriptor (TX8 k).2.2.1 = some (tyX8 k) := by decide +kernel
abbrev cX8_init : ByteArray := prog_10_method_1_code
def yX8_init : MethodName := ⟨RX8, "<init>", "()V"⟩
abbrev cX8_in : ByteArray := prog_10_method_3_code
def yX8_in : MethodName := ⟨RX8, "in", "(JJJ)Z"⟩
abbrev cX8_flag : ByteArray := prog_10_method_4_code
def yX8_flag : MethodName := ⟨RX8, "flag", "(Z)I"⟩
abbrev cX8_firstDraft : ByteArray := prog_10_method_5_code
def yX8_firstDraft : MethodName := ⟨RX8, "firstDraft", "()V"⟩
abbrev cX8_keepDraft : ByteArray := prog_10_method_6_code
def yX8_keepDraft : MethodName := ⟨RX8, "keepDraft", "()V"⟩
abbrev cX8_feed : ByteArray := prog_10_method_7_code
def yX8_feed : MethodName := ⟨RX8, "feed", "(J)I"⟩
abbrev cX8_end : ByteArray := prog_10_method_8_code
def yX8_end : MethodName := ⟨RX8, "end", "(I)I"⟩
abbrev cX8_needs : ByteArray := prog_10_method_9_code
def yX8_needs : MethodName := ⟨RX8, "needs", "(ZI)V"⟩
abbrev cX8_look : ByteArray := prog_10_method_10_code
def yX8_look : MethodName := ⟨RX8, "look", "(I)I"⟩
abbrev cX8_is : ByteArray := prog_10_method_11_code
def yX8_is : MethodName := ⟨RX8, "is", "(IIII)Z"⟩
abbrev cX8_ends : ByteArray := prog_10_method_12_code
def yX8_ends : MethodName := ⟨RX8, "ends", "(III)Z"⟩
abbrev cX8_ruleLine : ByteArray := prog_10_method_13_code
def yX8_ruleLine : MethodName := ⟨RX8, "ruleLine", "()I"⟩
abbrev cX8_lineNow : ByteArray := prog_10_method_14_code
def yX8_lineNow : MethodName := ⟨RX8, "lineNow", "()I"⟩
abbrev cX8_bookNow : ByteArray := prog_10_method_15_code
def yX8_bookNow : MethodName := ⟨RX8, "bookNow", "()I"⟩
abbrev cX8_next : ByteArray := prog_10_method_16_code
def yX8_next : MethodName := ⟨RX8, "next", "()V"⟩
abbrev cX8_looked : ByteArray := prog_10_method_17_code
def yX8_looked : MethodName := ⟨RX8, "looked", "(II)I"⟩
abbrev cX8_readNumber : ByteArray := prog_10_method_18_code
def yX8_readNumber : MethodName := ⟨RX8, "readNumber", "(II)I"⟩
abbrev cX8_readMatter : ByteArray := prog_10_method_19_code
def yX8_readMatter : MethodName := ⟨RX8, "readMatter", "()I"⟩
abbrev cX8_readMatters : ByteArray := prog_10_method_20_code
def yX8_readMatters : MethodName := ⟨RX8, "readMatters", "()V"⟩
abbrev cX8_readPage : ByteArray := prog_10_method_21_code
def yX8_readPage : MethodName := ⟨RX8, "readPage", "()V"⟩
abbrev cX8_readRung : ByteArray := prog_10_method_22_code
def yX8_readRung : MethodName := ⟨RX8, "readRung", "()V"⟩
abbrev cX8_readAsked : ByteArray := prog_10_method_23_code
def yX8_readAsked : MethodName := ⟨RX8, "readAsked", "()V"⟩
abbrev cX8_readLineOf : ByteArray := prog_10_method_24_code
def yX8_readLineOf : MethodName := ⟨RX8, "readLineOf", "(I)V"⟩
abbrev cX8_readLine : ByteArray := prog_10_method_25_code
def yX8_readLine : MethodName := ⟨RX8, "readLine", "()V"⟩
abbrev cX8_text : ByteArray := prog_10_method_26_code
def yX8_text : MethodName := ⟨RX8, "text", "()I"⟩
abbrev cX8_fault : ByteArray := prog_10_method_27_code
def yX8_fault : MethodName := ⟨RX8, "fault", "()I"⟩
abbrev cX8_isNumber : ByteArray := prog_10_method_28_code
def yX8_isNumber : MethodName := ⟨RX8, "isNumber", "(I)Z"⟩
abbrev cX8_isMatter : ByteArray := prog_10_method_29_code
def yX8_isMatter : MethodName := ⟨RX8, "isMatter", "(I)Z"⟩
abbrev cX8_rule : ByteArray := prog_10_method_30_code
def yX8_rule : MethodName := ⟨RX8, "rule", "(I)I"⟩
abbrev cX8_day : ByteArray := prog_10_method_31_code
def yX8_day : MethodName := ⟨RX8, "day", "(I)I"⟩
abbrev cX8_weight : ByteArray := prog_10_method_32_code
def yX8_weight : MethodName := ⟨RX8, "weight", "(I)I"⟩
abbrev cX8_page : ByteArray := prog_10_method_33_code
def yX8_page : MethodName := ⟨RX8, "page", "(I)I"⟩
abbrev cX8_gap : ByteArray := prog_10_method_34_code
def yX8_gap : MethodName := ⟨RX8, "gap", "(I)I"⟩
abbrev cX8_near : ByteArray := prog_10_method_35_code
def yX8_near : MethodName := ⟨RX8, "near", "(I)I"⟩
abbrev cX8_book : ByteArray := prog_10_method_36_code
def yX8_book : MethodName := ⟨RX8, "book", "(I)I"⟩
abbrev cX8_write : ByteArray := prog_10_method_37_code
def yX8_write : MethodName := ⟨RX8, "write", "(II)I"⟩
abbrev cX8_undo : ByteArray := prog_10_method_38_code
def yX8_undo : MethodName := ⟨RX8, "undo", "(I)I"⟩
abbrev cX8_rowNow : ByteArray := prog_10_method_39_code
def yX8_rowNow : MethodName := ⟨RX8, "rowNow", "()V"⟩
abbrev cX8_adds : ByteArray := prog_10_method_40_code
def yX8_adds : MethodName := ⟨RX8, "adds", "(I)V"⟩
abbrev cX8_mayBe : ByteArray := prog_10_method_41_code
def yX8_mayBe : MethodName := ⟨RX8, "mayBe", "(I)Z"⟩
abbrev cX8_meaningOf : ByteArray := prog_10_method_42_code
def yX8_meaningOf : MethodName := ⟨RX8, "meaningOf", "(I)I"⟩
abbrev cX8_tellsIt : ByteArray := prog_10_method_43_code
def yX8_tellsIt : MethodName := ⟨RX8, "tellsIt", "(II)Z"⟩
abbrev cX8_cheapestFor : ByteArray := prog_10_method_44_code
def yX8_cheapestFor : MethodName := ⟨RX8, "cheapestFor", "(I)I"⟩
abbrev cX8_mayNow : ByteArray := prog_10_method_45_code
def yX8_mayNow : MethodName := ⟨RX8, "mayNow", "()I"⟩
abbrev cX8_may : ByteArray := prog_10_method_46_code
def yX8_may : MethodName := ⟨RX8, "may", "()I"⟩
abbrev cX8_means : ByteArray := prog_10_method_47_code
def yX8_means : MethodName := ⟨RX8, "means", "(I)I"⟩
abbrev cX8_cheap : ByteArray := prog_10_method_48_code
def yX8_cheap : MethodName := ⟨RX8, "cheap", "(I)I"⟩
abbrev cX8_ring : ByteArray := prog_10_method_49_code
def yX8_ring : MethodName := ⟨RX8, "ring", "(I)I"⟩
abbrev cX8_holds : ByteArray := prog_10_method_50_code
def yX8_holds : MethodName := ⟨RX8, "holds", "()I"⟩
abbrev cX8_tell : ByteArray := prog_10_method_51_code
def yX8_tell : MethodName := ⟨RX8, "tell", "(I)I"⟩
abbrev cX8_cut : ByteArray := prog_10_method_52_code
def yX8_cut : MethodName := ⟨RX8, "cut", "(I)I"⟩
abbrev cX8_judge : ByteArray := prog_10_method_53_code
def yX8_judge : MethodName := ⟨RX8, "judge", "(I)I"⟩
abbrev cX8_ask : ByteArray := prog_10_method_54_code
def yX8_ask : MethodName := ⟨RX8, "ask", "(I)I"⟩
abbrev cX8_drop : ByteArray := prog_10_method_55_code
def yX8_drop : MethodName := ⟨RX8, "drop", "(I)I"⟩
abbrev cX8_wantedNow : ByteArray := prog_10_method_56_code
def yX8_wantedNow : MethodName := ⟨RX8, "wantedNow", "()V"⟩
abbrev cX8_takesPlan : ByteArray := prog_10_method_57_code
def yX8_takesPlan : MethodName := ⟨RX8, "takesPlan", "(III)V"⟩
abbrev cX8_findPlan : ByteArray := prog_10_method_58_code
def yX8_findPlan : MethodName := ⟨RX8, "findPlan", "(I)V"⟩
abbrev cX8_findRuled : ByteArray := prog_10_method_59_code
def yX8_findRuled : MethodName := ⟨RX8, "findRuled", "(I)V"⟩
abbrev cX8_planTold : ByteArray := prog_10_method_60_code
def yX8_planTold : MethodName := ⟨RX8, "planTold", "(I)I"⟩
abbrev cX8_isPlanned : ByteArray := prog_10_method_61_code
def yX8_isPlanned : MethodName := ⟨RX8, "isPlanned", "(I)Z"⟩
abbrev cX8_plan : ByteArray := prog_10_method_62_code
def yX8_plan : MethodName := ⟨RX8, "plan", "(I)I"⟩
abbrev cX8_byRule : ByteArray := prog_10_method_63_code
def yX8_byRule : MethodName := ⟨RX8, "byRule", "(I)I"⟩
abbrev cX8_worst : ByteArray := prog_10_method_64_code
def yX8_worst : MethodName := ⟨RX8, "worst", "(II)I"⟩
abbrev cX8_common : ByteArray := prog_10_method_65_code
def yX8_common : MethodName := ⟨RX8, "common", "(JJ)J"⟩
abbrev cX8_mean : ByteArray := prog_10_method_66_code
def yX8_mean : MethodName := ⟨RX8, "mean", "(II)J"⟩
abbrev cX8_rowMissed : ByteArray := prog_10_method_67_code
def yX8_rowMissed : MethodName := ⟨RX8, "rowMissed", "(I)V"⟩
abbrev cX8_reads : ByteArray := prog_10_method_68_code
def yX8_reads : MethodName := ⟨RX8, "reads", "(II)I"⟩
abbrev cX8_alike : ByteArray := prog_10_method_69_code
def yX8_alike : MethodName := ⟨RX8, "alike", "(I)I"⟩
abbrev cX8_stay : ByteArray := prog_10_method_70_code
def yX8_stay : MethodName := ⟨RX8, "stay", "(II)I"⟩
abbrev cX8_serve : ByteArray := prog_10_method_71_code
def yX8_serve : MethodName := ⟨RX8, "serve", "()I"⟩
abbrev cX8_canDo : ByteArray := prog_10_method_72_code
def yX8_canDo : MethodName := ⟨RX8, "canDo", "(III)Z"⟩
abbrev cX8_isLate : ByteArray := prog_10_method_73_code
def yX8_isLate : MethodName := ⟨RX8, "isLate", "(II)Z"⟩
abbrev cX8_findPutOff : ByteArray := prog_10_method_74_code
def yX8_findPutOff : MethodName := ⟨RX8, "findPutOff", "()V"⟩
abbrev cX8_putOff : ByteArray := prog_10_method_75_code
def yX8_putOff : MethodName := ⟨RX8, "putOff", "(I)I"⟩
abbrev cX8_lowestBit : ByteArray := prog_10_method_76_code
def yX8_lowestBit : MethodName := ⟨RX8, "lowestBit", "(I)I"⟩
abbrev cX8_forgotten : ByteArray := prog_10_method_77_code
def yX8_forgotten : MethodName := ⟨RX8, "forgotten", "(III)I"⟩
abbrev cX8_copies : ByteArray := prog_10_method_78_code
def yX8_copies : MethodName := ⟨RX8, "copies", "(II)V"⟩
abbrev cX8_keep : ByteArray := prog_10_method_79_code
def yX8_keep : MethodName := ⟨RX8, "keep", "(I)I"⟩
abbrev cX8_back : ByteArray := prog_10_method_80_code
def yX8_back : MethodName := ⟨RX8, "back", "(I)I"⟩
abbrev cX8_isSheet : ByteArray := prog_10_method_81_code
def yX8_isSheet : MethodName := ⟨RX8, "isSheet", "(II)Z"⟩
abbrev cX8_sheet : ByteArray := prog_10_method_82_code
def yX8_sheet : MethodName := ⟨RX8, "sheet", "(III)I"⟩
abbrev cX8_lay : ByteArray := prog_10_method_83_code
def yX8_lay : MethodName := ⟨RX8, "lay", "(III)I"⟩
abbrev cX8_read : ByteArray := prog_10_method_84_code
def yX8_read : MethodName := ⟨RX8, "read", "(IIII)I"⟩
abbrev cX8_torn : ByteArray := prog_10_method_85_code
def yX8_torn : MethodName := ⟨RX8, "torn", "()I"⟩
abbrev cX8_count : ByteArray := prog_10_method_86_code
def yX8_count : MethodName := ⟨RX8, "count", "(I)I"⟩
def RJx145de : String := "java/io/Serializable"
def TJx145de : u_T := fun k => match k with
  | _ => ("", "", "", false)
def tyJx145de : Nat → FieldType := fun k => match k with
  | _ => .int
abbrev wsJx145de0 : List Cond := u_ws RJx145de TJx145de 0
theorem nmJx145de : ∀ a, a < 0 → ∀ b, b < 0 → a ≠ b → (TJx145de a).2.1 ≠ (TJx145de b).2.1 := by decide +kernel
theorem tyJx145de_ok : ∀ k, k < 0 → parseFieldDescriptor (TJx145de k).2.2.1 = some (tyJx145de k) := by decide +kernel
def RJx9f9b0 : String := "java/lang/CharSequence"
def TJx9f9b0 : u_T := fun k => match k with
  | _ => ("", "", "", false)
def tyJx9f9b0 : Nat → FieldType := fun k => match k with
  | _ => .int
abbrev wsJx9f9b00 : List Cond := u_ws RJx9f9b0 TJx9f9b0 0
theorem nmJx9f9b0 : ∀ a, a < 0 → ∀ b, b < 0 → a ≠ b → (TJx9f9b0 a).2.1 ≠ (TJx9f9b0 b).2.1 := by decide +kernel
theorem tyJx9f9b0_ok : ∀ k, k < 0 → parseFieldDescriptor (TJx9f9b0 k).2.2.1 = some (tyJx9f9b0 k) := by decide +kernel
def RJxb160c : String := "java/lang/Comparable"
def TJxb160c : u_T := fun k => match k with
  | _ => ("", "", "", false)
def tyJxb160c : Nat → FieldType := fun k => match k with
  | _ => .int
abbrev wsJxb160c0 : List Cond := u_ws RJxb160c TJxb160c 0
theorem nmJxb160c : ∀ a, a < 0 → ∀ b, b < 0 → a ≠ b → (TJxb160c a).2.1 ≠ (TJxb160c b).2.1 := by decide +kernel
theorem tyJxb160c_ok : ∀ k, k < 0 → parseFieldDescriptor (TJxb160c k).2.2.1 = some (tyJxb160c k) := by decide +kernel
def RJ6 : String := "java/lang/Integer"
def TJ6 : u_T := fun k => match k with
  | _ => ("", "", "", false)
def tyJ6 : Nat → FieldType := fun k => match k with
  | _ => .int
abbrev wsJ60 : List Cond := u_ws RJ6 TJ6 0
theorem nmJ6 : ∀ a, a < 0 → ∀ b, b < 0 → a ≠ b → (TJ6 a).2.1 ≠ (TJ6 b).2.1 := by decide +kernel
theorem tyJ6_ok : ∀ k, k < 0 → parseFieldDescriptor (TJ6 k).2.2.1 = some (tyJ6 k) := by decide +kernel
abbrev cJ6_bitCount_0f7a4 : ByteArray := prog_11_method_49_code
def yJ6_bitCount_0f7a4 : MethodName := ⟨RJ6, "bitCount", "(I)I"⟩
def RJ9 : String := "java/lang/Math"
def TJ9 : u_T := fun k => match k with
  | _ => ("", "", "", false)
def tyJ9 : Nat → FieldType := fun k => match k with
  | _ => .int
abbrev wsJ90 : List Cond := u_ws RJ9 TJ9 0
theorem nmJ9 : ∀ a, a < 0 → ∀ b, b < 0 → a ≠ b → (TJ9 a).2.1 ≠ (TJ9 b).2.1 := by decide +kernel
theorem tyJ9_ok : ∀ k, k < 0 → parseFieldDescriptor (TJ9 k).2.2.1 = some (tyJ9 k) := by decide +kernel
abbrev cJ9_max_7cf53 : ByteArray := prog_12_method_65_code
def yJ9_max_7cf53 : MethodName := ⟨RJ9, "max", "(II)I"⟩
abbrev cJ9_min_7cf53 : ByteArray := prog_12_method_69_code
def yJ9_min_7cf53 : MethodName := ⟨RJ9, "min", "(II)I"⟩
def RJ0 : String := "java/lang/String"
def TJ0 : u_T := fun k => match k with
  | _ => ("", "", "", false)
def tyJ0 : Nat → FieldType := fun k => match k with
  | _ => .int
abbrev wsJ00 : List Cond := u_ws RJ0 TJ0 0
theorem nmJ0 : ∀ a, a < 0 → ∀ b, b < 0 → a ≠ b → (TJ0 a).2.1 ≠ (TJ0 b).2.1 := by decide +kernel
theorem tyJ0_ok : ∀ k, k < 0 → parseFieldDescriptor (TJ0 k).2.2.1 = some (tyJ0 k) := by decide +kernel
abbrev cJ0_length_8abf5 : ByteArray := prog_13_method_54_code
def yJ0_length_8abf5 : MethodName := ⟨RJ0, "length", "()I"⟩
abbrev cJ0_charAt_5068e : ByteArray := prog_13_method_56_code
def yJ0_charAt_5068e : MethodName := ⟨RJ0, "charAt", "(I)C"⟩
abbrev cJ0_coder_7d493 : ByteArray := prog_13_method_152_code
def yJ0_coder_7d493 : MethodName := ⟨RJ0, "coder", "()B"⟩
abbrev cJ0_isLatin1_aae02 : ByteArray := prog_13_method_154_code
def yJ0_isLatin1_aae02 : MethodName := ⟨RJ0, "isLatin1", "()Z"⟩
abbrev cJ0_checkIndex_df160 : ByteArray := prog_13_method_155_code
def yJ0_checkIndex_df160 : MethodName := ⟨RJ0, "checkIndex", "(II)V"⟩
def RJ1 : String := "java/lang/StringLatin1"
def TJ1 : u_T := fun k => match k with
  | _ => ("", "", "", false)
def tyJ1 : Nat → FieldType := fun k => match k with
  | _ => .int
abbrev wsJ10 : List Cond := u_ws RJ1 TJ1 0
theorem nmJ1 : ∀ a, a < 0 → ∀ b, b < 0 → a ≠ b → (TJ1 a).2.1 ≠ (TJ1 b).2.1 := by decide +kernel
theorem tyJ1_ok : ∀ k, k < 0 → parseFieldDescriptor (TJ1 k).2.2.1 = some (tyJ1 k) := by decide +kernel
abbrev cJ1_charAt_3b067 : ByteArray := prog_14_method_2_code
def yJ1_charAt_3b067 : MethodName := ⟨RJ1, "charAt", "([BI)C"⟩
def RJ2 : String := "java/lang/StringUTF16"
def TJ2 : u_T := fun k => match k with
  | _ => ("", "", "", false)
def tyJ2 : Nat → FieldType := fun k => match k with
  | _ => .int
abbrev wsJ20 : List Cond := u_ws RJ2 TJ2 0
theorem nmJ2 : ∀ a, a < 0 → ∀ b, b < 0 → a ≠ b → (TJ2 a).2.1 ≠ (TJ2 b).2.1 := by decide +kernel
theorem tyJ2_ok : ∀ k, k < 0 → parseFieldDescriptor (TJ2 k).2.2.1 = some (tyJ2 k) := by decide +kernel
abbrev cJ2_getChar_3b067 : ByteArray := prog_15_method_5_code
def yJ2_getChar_3b067 : MethodName := ⟨RJ2, "getChar", "([BI)C"⟩
abbrev cJ2_length_9d52b : ByteArray := prog_15_method_6_code
def yJ2_length_9d52b : MethodName := ⟨RJ2, "length", "([B)I"⟩
abbrev cJ2_charAt_3b067 : ByteArray := prog_15_method_83_code
def yJ2_charAt_3b067 : MethodName := ⟨RJ2, "charAt", "([BI)C"⟩
abbrev cJ2_checkIndex_2214a : ByteArray := prog_15_method_91_code
def yJ2_checkIndex_2214a : MethodName := ⟨RJ2, "checkIndex", "(I[B)V"⟩
def RJ10 : String := "java/lang/System"
def TJ10 : u_T := fun k => match k with
  | _ => ("", "", "", false)
def tyJ10 : Nat → FieldType := fun k => match k with
  | _ => .int
abbrev wsJ100 : List Cond := u_ws RJ10 TJ10 0
theorem nmJ10 : ∀ a, a < 0 → ∀ b, b < 0 → a ≠ b → (TJ10 a).2.1 ≠ (TJ10 b).2.1 := by decide +kernel
theorem tyJ10_ok : ∀ k, k < 0 → parseFieldDescriptor (TJ10 k).2.2.1 = some (tyJ10 k) := by decide +kernel
def RJxfd54e : String := "java/lang/constant/Constable"
def TJxfd54e : u_T := fun k => match k with
  | _ => ("", "", "", false)
def tyJxfd54e : Nat → FieldType := fun k => match k with
  | _ => .int
abbrev wsJxfd54e0 : List Cond := u_ws RJxfd54e TJxfd54e 0
theorem nmJxfd54e : ∀ a, a < 0 → ∀ b, b < 0 → a ≠ b → (TJxfd54e a).2.1 ≠ (TJxfd54e b).2.1 := by decide +kernel
theorem tyJxfd54e_ok : ∀ k, k < 0 → parseFieldDescriptor (TJxfd54e k).2.2.1 = some (tyJxfd54e k) := by decide +kernel
def RJx3cf43 : String := "java/lang/constant/ConstantDesc"
def TJx3cf43 : u_T := fun k => match k with
  | _ => ("", "", "", false)
def tyJx3cf43 : Nat → FieldType := fun k => match k with
  | _ => .int
abbrev wsJx3cf430 : List Cond := u_ws RJx3cf43 TJx3cf43 0
theorem nmJx3cf43 : ∀ a, a < 0 → ∀ b, b < 0 → a ≠ b → (TJx3cf43 a).2.1 ≠ (TJx3cf43 b).2.1 := by decide +kernel
theorem tyJx3cf43_ok : ∀ k, k < 0 → parseFieldDescriptor (TJx3cf43 k).2.2.1 = some (tyJx3cf43 k) := by decide +kernel
def RJ7 : String := "java/util/Arrays"
def TJ7 : u_T := fun k => match k with
  | _ => ("", "", "", false)
def tyJ7 : Nat → FieldType := fun k => match k with
  | _ => .int
abbrev wsJ70 : List Cond := u_ws RJ7 TJ7 0
theorem nmJ7 : ∀ a, a < 0 → ∀ b, b < 0 → a ≠ b → (TJ7 a).2.1 ≠ (TJ7 b).2.1 := by decide +kernel
theorem tyJ7_ok : ∀ k, k < 0 → parseFieldDescriptor (TJ7 k).2.2.1 = some (tyJ7 k) := by decide +kernel
abbrev cJ7_fill_53178 : ByteArray := prog_17_method_103_code
def yJ7_fill_53178 : MethodName := ⟨RJ7, "fill", "([II)V"⟩
def RJ3 : String := "jdk/internal/util/Preconditions"
def TJ3 : u_T := fun k => match k with
  | _ => ("", "", "", false)
def tyJ3 : Nat → FieldType := fun k => match k with
  | _ => .int
abbrev wsJ30 : List Cond := u_ws RJ3 TJ3 0
theorem nmJ3 : ∀ a, a < 0 → ∀ b, b < 0 → a ≠ b → (TJ3 a).2.1 ≠ (TJ3 b).2.1 := by decide +kernel
theorem tyJ3_ok : ∀ k, k < 0 → parseFieldDescriptor (TJ3 k).2.2.1 = some (tyJ3 k) := by decide +kernel
abbrev cJ3_checkIndex_8e157 : ByteArray := prog_18_method_11_code
def yJ3_checkIndex_8e157 : MethodName := ⟨RJ3, "checkIndex", "(IILjava/util/function/BiFunction;)I"⟩
def RL : String := "NeverAgainLaw"
abbrev cL_law : ByteArray := code
def yL_law : MethodName := ⟨RL, "law", "([I)Z"⟩
abbrev vwCl : List vw_C := [(RX0, TX0, 5), (RX1, TX1, 8), (RX2, TX2, 7), (RX3, TX3, 5), (RX4, TX4, 3), (RX5, TX5, 10), (RX6, TX6, 14), (RX7, TX7, 14), (RX8, TX8, 34)]

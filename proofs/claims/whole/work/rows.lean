section
-- ===== PART A: goes FIRST, ahead of the names: the tables' words, and 'selects' of the private methods out of them =====
/-- a private method of a class that the tables say can be made, by its rows of tables_1 -/
def lw_okq (q : MethodName × Nat) : Prop := (q.1.cls ≠ "java/lang/invoke/MethodHandle" ∧ q.1.cls ≠ "java/lang/invoke/VarHandle") ∧ Cond.instantiable q.1.cls q.2 ∈ tables_1 ∧ Cond.privateMethod q.1 ∈ tables_1 ∧ Cond.instanceMethod q.1 ∈ tables_1
theorem lw_p0 : lw_okq (⟨"HallDiary$LetText", "acceptsDigit", "(I)Z"⟩, 5) := ⟨⟨by decide +kernel, by decide +kernel⟩, List.mem_of_getElem? (i := 146) (by decide +kernel), List.mem_of_getElem? (i := 238) (by decide +kernel), List.mem_of_getElem? (i := 239) (by decide +kernel)⟩
theorem lw_p1 : lw_okq (⟨"java/lang/Throwable", "fillInStackTrace", "(I)Ljava/lang/Throwable;"⟩, 6) := ⟨⟨by decide +kernel, by decide +kernel⟩, List.mem_of_getElem? (i := 400) (by decide +kernel), List.mem_of_getElem? (i := 398) (by decide +kernel), List.mem_of_getElem? (i := 399) (by decide +kernel)⟩
theorem lw_p2 : lw_okq (⟨"HallDiary", "digestLets", "(J)J"⟩, 8) := ⟨⟨by decide +kernel, by decide +kernel⟩, List.mem_of_getElem? (i := 24) (by decide +kernel), List.mem_of_getElem? (i := 429) (by decide +kernel), List.mem_of_getElem? (i := 430) (by decide +kernel)⟩
theorem lw_p3 : lw_okq (⟨"HallDiary", "digestHall", "(JI)J"⟩, 8) := ⟨⟨by decide +kernel, by decide +kernel⟩, List.mem_of_getElem? (i := 24) (by decide +kernel), List.mem_of_getElem? (i := 473) (by decide +kernel), List.mem_of_getElem? (i := 474) (by decide +kernel)⟩
theorem lw_p4 : lw_okq (⟨"HallDiary$DayPlan", "enterAll", "(LHallDiary$Roll;I)V"⟩, 4) := ⟨⟨by decide +kernel, by decide +kernel⟩, List.mem_of_getElem? (i := 171) (by decide +kernel), List.mem_of_getElem? (i := 492) (by decide +kernel), List.mem_of_getElem? (i := 493) (by decide +kernel)⟩
theorem lw_p5 : lw_okq (⟨"HallDiary", "firstFreeHour", "(III)I"⟩, 8) := ⟨⟨by decide +kernel, by decide +kernel⟩, List.mem_of_getElem? (i := 24) (by decide +kernel), List.mem_of_getElem? (i := 526) (by decide +kernel), List.mem_of_getElem? (i := 527) (by decide +kernel)⟩
theorem lw_p6 : lw_okq (⟨"HallDiary$DayPlan", "canBeCleanedWith", "(LHallDiary$Let;I)Z"⟩, 4) := ⟨⟨by decide +kernel, by decide +kernel⟩, List.mem_of_getElem? (i := 171) (by decide +kernel), List.mem_of_getElem? (i := 539) (by decide +kernel), List.mem_of_getElem? (i := 540) (by decide +kernel)⟩
theorem lw_p7 : lw_okq (⟨"HallDiary$DayPlan", "startCleaning", "()V"⟩, 4) := ⟨⟨by decide +kernel, by decide +kernel⟩, List.mem_of_getElem? (i := 171) (by decide +kernel), List.mem_of_getElem? (i := 543) (by decide +kernel), List.mem_of_getElem? (i := 544) (by decide +kernel)⟩
theorem lw_p8 : lw_okq (⟨"HallDiary$DayPlan", "isServed", "(LHallDiary$Let;I)Z"⟩, 4) := ⟨⟨by decide +kernel, by decide +kernel⟩, List.mem_of_getElem? (i := 171) (by decide +kernel), List.mem_of_getElem? (i := 547) (by decide +kernel), List.mem_of_getElem? (i := 548) (by decide +kernel)⟩
theorem lw_p9 : lw_okq (⟨"HallDiary", "draftSingle", "(IIIIII)V"⟩, 8) := ⟨⟨by decide +kernel, by decide +kernel⟩, List.mem_of_getElem? (i := 24) (by decide +kernel), List.mem_of_getElem? (i := 558) (by decide +kernel), List.mem_of_getElem? (i := 559) (by decide +kernel)⟩
theorem lw_p10 : lw_okq (⟨"HallDiary", "rentForDay", "(IIII)I"⟩, 8) := ⟨⟨by decide +kernel, by decide +kernel⟩, List.mem_of_getElem? (i := 24) (by decide +kernel), List.mem_of_getElem? (i := 562) (by decide +kernel), List.mem_of_getElem? (i := 563) (by decide +kernel)⟩
theorem lw_p11 : lw_okq (⟨"HallDiary", "reasonAgainstDraft", "(I)I"⟩, 8) := ⟨⟨by decide +kernel, by decide +kernel⟩, List.mem_of_getElem? (i := 24) (by decide +kernel), List.mem_of_getElem? (i := 566) (by decide +kernel), List.mem_of_getElem? (i := 567) (by decide +kernel)⟩
theorem lw_p12 : lw_okq (⟨"HallDiary", "draftRegular", "(IIIIII)V"⟩, 8) := ⟨⟨by decide +kernel, by decide +kernel⟩, List.mem_of_getElem? (i := 24) (by decide +kernel), List.mem_of_getElem? (i := 615) (by decide +kernel), List.mem_of_getElem? (i := 616) (by decide +kernel)⟩
theorem lw_p13 : lw_okq (⟨"HallDiary", "saveState", "()V"⟩, 8) := ⟨⟨by decide +kernel, by decide +kernel⟩, List.mem_of_getElem? (i := 24) (by decide +kernel), List.mem_of_getElem? (i := 620) (by decide +kernel), List.mem_of_getElem? (i := 621) (by decide +kernel)⟩
theorem lw_p14 : lw_okq (⟨"HallDiary", "makeRegular", "()V"⟩, 8) := ⟨⟨by decide +kernel, by decide +kernel⟩, List.mem_of_getElem? (i := 24) (by decide +kernel), List.mem_of_getElem? (i := 624) (by decide +kernel), List.mem_of_getElem? (i := 625) (by decide +kernel)⟩
theorem lw_p15 : lw_okq (⟨"HallDiary$State", "givesWay", "(LHallDiary$Let;LHallDiary$Let;I)Z"⟩, 7) := ⟨⟨by decide +kernel, by decide +kernel⟩, List.mem_of_getElem? (i := 32) (by decide +kernel), List.mem_of_getElem? (i := 633) (by decide +kernel), List.mem_of_getElem? (i := 634) (by decide +kernel)⟩
def lw_privs_1 : List (MethodName × Nat) := [(⟨"HallDiary$LetText", "acceptsDigit", "(I)Z"⟩, 5), (⟨"java/lang/Throwable", "fillInStackTrace", "(I)Ljava/lang/Throwable;"⟩, 6), (⟨"HallDiary", "digestLets", "(J)J"⟩, 8), (⟨"HallDiary", "digestHall", "(JI)J"⟩, 8), (⟨"HallDiary$DayPlan", "enterAll", "(LHallDiary$Roll;I)V"⟩, 4), (⟨"HallDiary", "firstFreeHour", "(III)I"⟩, 8), (⟨"HallDiary$DayPlan", "canBeCleanedWith", "(LHallDiary$Let;I)Z"⟩, 4), (⟨"HallDiary$DayPlan", "startCleaning", "()V"⟩, 4), (⟨"HallDiary$DayPlan", "isServed", "(LHallDiary$Let;I)Z"⟩, 4), (⟨"HallDiary", "draftSingle", "(IIIIII)V"⟩, 8), (⟨"HallDiary", "rentForDay", "(IIII)I"⟩, 8), (⟨"HallDiary", "reasonAgainstDraft", "(I)I"⟩, 8), (⟨"HallDiary", "draftRegular", "(IIIIII)V"⟩, 8), (⟨"HallDiary", "saveState", "()V"⟩, 8), (⟨"HallDiary", "makeRegular", "()V"⟩, 8), (⟨"HallDiary$State", "givesWay", "(LHallDiary$Let;LHallDiary$Let;I)Z"⟩, 7)]
theorem lw_r1 : ∀ q ∈ lw_privs_1, lw_okq q := List.forall_mem_cons.mpr ⟨lw_p0, List.forall_mem_cons.mpr ⟨lw_p1, List.forall_mem_cons.mpr ⟨lw_p2, List.forall_mem_cons.mpr ⟨lw_p3, List.forall_mem_cons.mpr ⟨lw_p4, List.forall_mem_cons.mpr ⟨lw_p5, List.forall_mem_cons.mpr ⟨lw_p6, List.forall_mem_cons.mpr ⟨lw_p7, List.forall_mem_cons.mpr ⟨lw_p8, List.forall_mem_cons.mpr ⟨lw_p9, List.forall_mem_cons.mpr ⟨lw_p10, List.forall_mem_cons.mpr ⟨lw_p11, List.forall_mem_cons.mpr ⟨lw_p12, List.forall_mem_cons.mpr ⟨lw_p13, List.forall_mem_cons.mpr ⟨lw_p14, List.forall_mem_cons.mpr ⟨lw_p15, fun _ h => absurd h List.not_mem_nil⟩⟩⟩⟩⟩⟩⟩⟩⟩⟩⟩⟩⟩⟩⟩⟩
theorem lw_p16 : lw_okq (⟨"HallDiary$State", "letGo", "(LHallDiary$Let;)V"⟩, 7) := ⟨⟨by decide +kernel, by decide +kernel⟩, List.mem_of_getElem? (i := 32) (by decide +kernel), List.mem_of_getElem? (i := 639) (by decide +kernel), List.mem_of_getElem? (i := 640) (by decide +kernel)⟩
theorem lw_p17 : lw_okq (⟨"HallDiary", "makeSingle", "(I)I"⟩, 8) := ⟨⟨by decide +kernel, by decide +kernel⟩, List.mem_of_getElem? (i := 24) (by decide +kernel), List.mem_of_getElem? (i := 670) (by decide +kernel), List.mem_of_getElem? (i := 671) (by decide +kernel)⟩
theorem lw_p18 : lw_okq (⟨"HallDiary", "allowsSetting", "(II)Z"⟩, 8) := ⟨⟨by decide +kernel, by decide +kernel⟩, List.mem_of_getElem? (i := 24) (by decide +kernel), List.mem_of_getElem? (i := 708) (by decide +kernel), List.mem_of_getElem? (i := 709) (by decide +kernel)⟩
theorem lw_p19 : lw_okq (⟨"HallDiary", "allDaysCanBeCleaned", "(I)Z"⟩, 8) := ⟨⟨by decide +kernel, by decide +kernel⟩, List.mem_of_getElem? (i := 24) (by decide +kernel), List.mem_of_getElem? (i := 712) (by decide +kernel), List.mem_of_getElem? (i := 713) (by decide +kernel)⟩
theorem lw_p20 : lw_okq (⟨"HallDiary", "makesPart", "([I)Z"⟩, 8) := ⟨⟨by decide +kernel, by decide +kernel⟩, List.mem_of_getElem? (i := 24) (by decide +kernel), List.mem_of_getElem? (i := 756) (by decide +kernel), List.mem_of_getElem? (i := 757) (by decide +kernel)⟩
theorem lw_p21 : lw_okq (⟨"HallDiaryModel", "fails", "(I)I"⟩, 19) := ⟨⟨by decide +kernel, by decide +kernel⟩, List.mem_of_getElem? (i := 820) (by decide +kernel), List.mem_of_getElem? (i := 892) (by decide +kernel), List.mem_of_getElem? (i := 893) (by decide +kernel)⟩
theorem lw_p22 : lw_okq (⟨"HallDiaryModel", "allLets", "()I"⟩, 19) := ⟨⟨by decide +kernel, by decide +kernel⟩, List.mem_of_getElem? (i := 820) (by decide +kernel), List.mem_of_getElem? (i := 900) (by decide +kernel), List.mem_of_getElem? (i := 901) (by decide +kernel)⟩
theorem lw_p23 : lw_okq (⟨"HallDiaryModel", "save", "()V"⟩, 19) := ⟨⟨by decide +kernel, by decide +kernel⟩, List.mem_of_getElem? (i := 820) (by decide +kernel), List.mem_of_getElem? (i := 908) (by decide +kernel), List.mem_of_getElem? (i := 909) (by decide +kernel)⟩
theorem lw_p24 : lw_okq (⟨"HallDiaryModel", "refusalOf", "(IIIII)I"⟩, 19) := ⟨⟨by decide +kernel, by decide +kernel⟩, List.mem_of_getElem? (i := 820) (by decide +kernel), List.mem_of_getElem? (i := 931) (by decide +kernel), List.mem_of_getElem? (i := 932) (by decide +kernel)⟩
theorem lw_p25 : lw_okq (⟨"HallDiaryModel", "reason", "(IIIII)I"⟩, 19) := ⟨⟨by decide +kernel, by decide +kernel⟩, List.mem_of_getElem? (i := 820) (by decide +kernel), List.mem_of_getElem? (i := 935) (by decide +kernel), List.mem_of_getElem? (i := 936) (by decide +kernel)⟩
theorem lw_p26 : lw_okq (⟨"HallDiaryModel", "look", "(I)V"⟩, 19) := ⟨⟨by decide +kernel, by decide +kernel⟩, List.mem_of_getElem? (i := 820) (by decide +kernel), List.mem_of_getElem? (i := 939) (by decide +kernel), List.mem_of_getElem? (i := 940) (by decide +kernel)⟩
theorem lw_p27 : lw_okq (⟨"HallDiaryModel", "standsOn", "(II)Z"⟩, 19) := ⟨⟨by decide +kernel, by decide +kernel⟩, List.mem_of_getElem? (i := 820) (by decide +kernel), List.mem_of_getElem? (i := 943) (by decide +kernel), List.mem_of_getElem? (i := 944) (by decide +kernel)⟩
theorem lw_p28 : lw_okq (⟨"HallDiaryModel", "weekly", "(II)I"⟩, 19) := ⟨⟨by decide +kernel, by decide +kernel⟩, List.mem_of_getElem? (i := 820) (by decide +kernel), List.mem_of_getElem? (i := 947) (by decide +kernel), List.mem_of_getElem? (i := 948) (by decide +kernel)⟩
theorem lw_p29 : lw_okq (⟨"HallDiaryModel", "dated", "(II)I"⟩, 19) := ⟨⟨by decide +kernel, by decide +kernel⟩, List.mem_of_getElem? (i := 820) (by decide +kernel), List.mem_of_getElem? (i := 951) (by decide +kernel), List.mem_of_getElem? (i := 952) (by decide +kernel)⟩
theorem lw_p30 : lw_okq (⟨"HallDiaryModel", "clashes", "(IIII)Z"⟩, 19) := ⟨⟨by decide +kernel, by decide +kernel⟩, List.mem_of_getElem? (i := 820) (by decide +kernel), List.mem_of_getElem? (i := 955) (by decide +kernel), List.mem_of_getElem? (i := 956) (by decide +kernel)⟩
theorem lw_p31 : lw_okq (⟨"HallDiaryModel", "addCleaning", "(III)V"⟩, 19) := ⟨⟨by decide +kernel, by decide +kernel⟩, List.mem_of_getElem? (i := 820) (by decide +kernel), List.mem_of_getElem? (i := 959) (by decide +kernel), List.mem_of_getElem? (i := 960) (by decide +kernel)⟩
def lw_privs_2 : List (MethodName × Nat) := [(⟨"HallDiary$State", "letGo", "(LHallDiary$Let;)V"⟩, 7), (⟨"HallDiary", "makeSingle", "(I)I"⟩, 8), (⟨"HallDiary", "allowsSetting", "(II)Z"⟩, 8), (⟨"HallDiary", "allDaysCanBeCleaned", "(I)Z"⟩, 8), (⟨"HallDiary", "makesPart", "([I)Z"⟩, 8), (⟨"HallDiaryModel", "fails", "(I)I"⟩, 19), (⟨"HallDiaryModel", "allLets", "()I"⟩, 19), (⟨"HallDiaryModel", "save", "()V"⟩, 19), (⟨"HallDiaryModel", "refusalOf", "(IIIII)I"⟩, 19), (⟨"HallDiaryModel", "reason", "(IIIII)I"⟩, 19), (⟨"HallDiaryModel", "look", "(I)V"⟩, 19), (⟨"HallDiaryModel", "standsOn", "(II)Z"⟩, 19), (⟨"HallDiaryModel", "weekly", "(II)I"⟩, 19), (⟨"HallDiaryModel", "dated", "(II)I"⟩, 19), (⟨"HallDiaryModel", "clashes", "(IIII)Z"⟩, 19), (⟨"HallDiaryModel", "addCleaning", "(III)V"⟩, 19)]
theorem lw_r2 : ∀ q ∈ lw_privs_2, lw_okq q := List.forall_mem_cons.mpr ⟨lw_p16, List.forall_mem_cons.mpr ⟨lw_p17, List.forall_mem_cons.mpr ⟨lw_p18, List.forall_mem_cons.mpr ⟨lw_p19, List.forall_mem_cons.mpr ⟨lw_p20, List.forall_mem_cons.mpr ⟨lw_p21, List.forall_mem_cons.mpr ⟨lw_p22, List.forall_mem_cons.mpr ⟨lw_p23, List.forall_mem_cons.mpr ⟨lw_p24, List.forall_mem_cons.mpr ⟨lw_p25, List.forall_mem_cons.mpr ⟨lw_p26, List.forall_mem_cons.mpr ⟨lw_p27, List.forall_mem_cons.mpr ⟨lw_p28, List.forall_mem_cons.mpr ⟨lw_p29, List.forall_mem_cons.mpr ⟨lw_p30, List.forall_mem_cons.mpr ⟨lw_p31, fun _ h => absurd h List.not_mem_nil⟩⟩⟩⟩⟩⟩⟩⟩⟩⟩⟩⟩⟩⟩⟩⟩
theorem lw_p32 : lw_okq (⟨"HallDiaryModel", "isCleaned", "()Z"⟩, 19) := ⟨⟨by decide +kernel, by decide +kernel⟩, List.mem_of_getElem? (i := 820) (by decide +kernel), List.mem_of_getElem? (i := 963) (by decide +kernel), List.mem_of_getElem? (i := 964) (by decide +kernel)⟩
theorem lw_p33 : lw_okq (⟨"HallDiaryModel", "makeSingle", "(IIIIII)I"⟩, 19) := ⟨⟨by decide +kernel, by decide +kernel⟩, List.mem_of_getElem? (i := 820) (by decide +kernel), List.mem_of_getElem? (i := 967) (by decide +kernel), List.mem_of_getElem? (i := 968) (by decide +kernel)⟩
theorem lw_p34 : lw_okq (⟨"HallDiaryModel", "giveWay", "(IIII)I"⟩, 19) := ⟨⟨by decide +kernel, by decide +kernel⟩, List.mem_of_getElem? (i := 820) (by decide +kernel), List.mem_of_getElem? (i := 971) (by decide +kernel), List.mem_of_getElem? (i := 972) (by decide +kernel)⟩
theorem lw_p35 : lw_okq (⟨"HallDiaryModel", "removeSingle", "(I)V"⟩, 19) := ⟨⟨by decide +kernel, by decide +kernel⟩, List.mem_of_getElem? (i := 820) (by decide +kernel), List.mem_of_getElem? (i := 975) (by decide +kernel), List.mem_of_getElem? (i := 976) (by decide +kernel)⟩
theorem lw_p36 : lw_okq (⟨"HallDiaryModel", "lay", "(IIIIIII)V"⟩, 19) := ⟨⟨by decide +kernel, by decide +kernel⟩, List.mem_of_getElem? (i := 820) (by decide +kernel), List.mem_of_getElem? (i := 979) (by decide +kernel), List.mem_of_getElem? (i := 980) (by decide +kernel)⟩
theorem lw_p37 : lw_okq (⟨"HallDiaryModel", "singleRent", "(IIII)I"⟩, 19) := ⟨⟨by decide +kernel, by decide +kernel⟩, List.mem_of_getElem? (i := 820) (by decide +kernel), List.mem_of_getElem? (i := 983) (by decide +kernel), List.mem_of_getElem? (i := 984) (by decide +kernel)⟩
theorem lw_p38 : lw_okq (⟨"HallDiaryModel", "rent", "(IIII)I"⟩, 19) := ⟨⟨by decide +kernel, by decide +kernel⟩, List.mem_of_getElem? (i := 820) (by decide +kernel), List.mem_of_getElem? (i := 987) (by decide +kernel), List.mem_of_getElem? (i := 988) (by decide +kernel)⟩
theorem lw_p39 : lw_okq (⟨"HallDiaryModel", "offWeeks", "(IIIII)I"⟩, 19) := ⟨⟨by decide +kernel, by decide +kernel⟩, List.mem_of_getElem? (i := 820) (by decide +kernel), List.mem_of_getElem? (i := 995) (by decide +kernel), List.mem_of_getElem? (i := 996) (by decide +kernel)⟩
theorem lw_p40 : lw_okq (⟨"HallDiaryModel", "standsSomewhere", "(I)Z"⟩, 19) := ⟨⟨by decide +kernel, by decide +kernel⟩, List.mem_of_getElem? (i := 820) (by decide +kernel), List.mem_of_getElem? (i := 999) (by decide +kernel), List.mem_of_getElem? (i := 1000) (by decide +kernel)⟩
theorem lw_p41 : lw_okq (⟨"HallDiaryModel", "makeRegular", "(IIIIII)I"⟩, 19) := ⟨⟨by decide +kernel, by decide +kernel⟩, List.mem_of_getElem? (i := 820) (by decide +kernel), List.mem_of_getElem? (i := 1003) (by decide +kernel), List.mem_of_getElem? (i := 1004) (by decide +kernel)⟩
theorem lw_p42 : lw_okq (⟨"HallDiaryModel", "regularRent", "(IIII)I"⟩, 19) := ⟨⟨by decide +kernel, by decide +kernel⟩, List.mem_of_getElem? (i := 820) (by decide +kernel), List.mem_of_getElem? (i := 1007) (by decide +kernel), List.mem_of_getElem? (i := 1008) (by decide +kernel)⟩
theorem lw_p43 : lw_okq (⟨"HallDiaryModel", "cancelRegular", "(I)I"⟩, 19) := ⟨⟨by decide +kernel, by decide +kernel⟩, List.mem_of_getElem? (i := 820) (by decide +kernel), List.mem_of_getElem? (i := 1015) (by decide +kernel), List.mem_of_getElem? (i := 1016) (by decide +kernel)⟩
theorem lw_p44 : lw_okq (⟨"HallDiaryModel", "daysOf", "(I)I"⟩, 19) := ⟨⟨by decide +kernel, by decide +kernel⟩, List.mem_of_getElem? (i := 820) (by decide +kernel), List.mem_of_getElem? (i := 1019) (by decide +kernel), List.mem_of_getElem? (i := 1020) (by decide +kernel)⟩
theorem lw_p45 : lw_okq (⟨"HallDiaryModel", "removeRegular", "(I)V"⟩, 19) := ⟨⟨by decide +kernel, by decide +kernel⟩, List.mem_of_getElem? (i := 820) (by decide +kernel), List.mem_of_getElem? (i := 1023) (by decide +kernel), List.mem_of_getElem? (i := 1024) (by decide +kernel)⟩
theorem lw_p46 : lw_okq (⟨"HallDiaryModel", "cancelSingle", "(I)I"⟩, 19) := ⟨⟨by decide +kernel, by decide +kernel⟩, List.mem_of_getElem? (i := 820) (by decide +kernel), List.mem_of_getElem? (i := 1027) (by decide +kernel), List.mem_of_getElem? (i := 1028) (by decide +kernel)⟩
theorem lw_p47 : lw_okq (⟨"HallDiaryModel", "isGoodWith", "(II)Z"⟩, 19) := ⟨⟨by decide +kernel, by decide +kernel⟩, List.mem_of_getElem? (i := 820) (by decide +kernel), List.mem_of_getElem? (i := 1046) (by decide +kernel), List.mem_of_getElem? (i := 1047) (by decide +kernel)⟩
def lw_privs_3 : List (MethodName × Nat) := [(⟨"HallDiaryModel", "isCleaned", "()Z"⟩, 19), (⟨"HallDiaryModel", "makeSingle", "(IIIIII)I"⟩, 19), (⟨"HallDiaryModel", "giveWay", "(IIII)I"⟩, 19), (⟨"HallDiaryModel", "removeSingle", "(I)V"⟩, 19), (⟨"HallDiaryModel", "lay", "(IIIIIII)V"⟩, 19), (⟨"HallDiaryModel", "singleRent", "(IIII)I"⟩, 19), (⟨"HallDiaryModel", "rent", "(IIII)I"⟩, 19), (⟨"HallDiaryModel", "offWeeks", "(IIIII)I"⟩, 19), (⟨"HallDiaryModel", "standsSomewhere", "(I)Z"⟩, 19), (⟨"HallDiaryModel", "makeRegular", "(IIIIII)I"⟩, 19), (⟨"HallDiaryModel", "regularRent", "(IIII)I"⟩, 19), (⟨"HallDiaryModel", "cancelRegular", "(I)I"⟩, 19), (⟨"HallDiaryModel", "daysOf", "(I)I"⟩, 19), (⟨"HallDiaryModel", "removeRegular", "(I)V"⟩, 19), (⟨"HallDiaryModel", "cancelSingle", "(I)I"⟩, 19), (⟨"HallDiaryModel", "isGoodWith", "(II)Z"⟩, 19)]
theorem lw_r3 : ∀ q ∈ lw_privs_3, lw_okq q := List.forall_mem_cons.mpr ⟨lw_p32, List.forall_mem_cons.mpr ⟨lw_p33, List.forall_mem_cons.mpr ⟨lw_p34, List.forall_mem_cons.mpr ⟨lw_p35, List.forall_mem_cons.mpr ⟨lw_p36, List.forall_mem_cons.mpr ⟨lw_p37, List.forall_mem_cons.mpr ⟨lw_p38, List.forall_mem_cons.mpr ⟨lw_p39, List.forall_mem_cons.mpr ⟨lw_p40, List.forall_mem_cons.mpr ⟨lw_p41, List.forall_mem_cons.mpr ⟨lw_p42, List.forall_mem_cons.mpr ⟨lw_p43, List.forall_mem_cons.mpr ⟨lw_p44, List.forall_mem_cons.mpr ⟨lw_p45, List.forall_mem_cons.mpr ⟨lw_p46, List.forall_mem_cons.mpr ⟨lw_p47, fun _ h => absurd h List.not_mem_nil⟩⟩⟩⟩⟩⟩⟩⟩⟩⟩⟩⟩⟩⟩⟩⟩
theorem lw_p48 : lw_okq (⟨"HallDiaryModel", "isGood", "(I)Z"⟩, 19) := ⟨⟨by decide +kernel, by decide +kernel⟩, List.mem_of_getElem? (i := 820) (by decide +kernel), List.mem_of_getElem? (i := 1050) (by decide +kernel), List.mem_of_getElem? (i := 1051) (by decide +kernel)⟩
theorem lw_p49 : lw_okq (⟨"HallDiaryModel", "areLets", "()Z"⟩, 19) := ⟨⟨by decide +kernel, by decide +kernel⟩, List.mem_of_getElem? (i := 820) (by decide +kernel), List.mem_of_getElem? (i := 1066) (by decide +kernel), List.mem_of_getElem? (i := 1067) (by decide +kernel)⟩
theorem lw_p50 : lw_okq (⟨"HallDiaryModel", "readPart", "()Z"⟩, 19) := ⟨⟨by decide +kernel, by decide +kernel⟩, List.mem_of_getElem? (i := 820) (by decide +kernel), List.mem_of_getElem? (i := 1070) (by decide +kernel), List.mem_of_getElem? (i := 1071) (by decide +kernel)⟩
theorem lw_p51 : lw_okq (⟨"HallDiaryModel", "reads", "(III)Z"⟩, 19) := ⟨⟨by decide +kernel, by decide +kernel⟩, List.mem_of_getElem? (i := 820) (by decide +kernel), List.mem_of_getElem? (i := 1074) (by decide +kernel), List.mem_of_getElem? (i := 1075) (by decide +kernel)⟩
theorem lw_p52 : lw_okq (⟨"HallDiaryModel", "isAt", "(II)Z"⟩, 19) := ⟨⟨by decide +kernel, by decide +kernel⟩, List.mem_of_getElem? (i := 820) (by decide +kernel), List.mem_of_getElem? (i := 1078) (by decide +kernel), List.mem_of_getElem? (i := 1079) (by decide +kernel)⟩
theorem lw_p53 : lw_okq (⟨"HallDiaryModel", "takes", "(I)Z"⟩, 19) := ⟨⟨by decide +kernel, by decide +kernel⟩, List.mem_of_getElem? (i := 820) (by decide +kernel), List.mem_of_getElem? (i := 1082) (by decide +kernel), List.mem_of_getElem? (i := 1083) (by decide +kernel)⟩
theorem lw_p54 : lw_okq (⟨"HallDiaryModel", "ofRegular", "(II)I"⟩, 19) := ⟨⟨by decide +kernel, by decide +kernel⟩, List.mem_of_getElem? (i := 820) (by decide +kernel), List.mem_of_getElem? (i := 1094) (by decide +kernel), List.mem_of_getElem? (i := 1095) (by decide +kernel)⟩
theorem lw_p55 : lw_okq (⟨"HallDiaryModel", "firstDayOf", "(I)I"⟩, 19) := ⟨⟨by decide +kernel, by decide +kernel⟩, List.mem_of_getElem? (i := 820) (by decide +kernel), List.mem_of_getElem? (i := 1098) (by decide +kernel), List.mem_of_getElem? (i := 1099) (by decide +kernel)⟩
theorem lw_p56 : lw_okq (⟨"HallDiaryModel", "tenantAt", "(III)I"⟩, 19) := ⟨⟨by decide +kernel, by decide +kernel⟩, List.mem_of_getElem? (i := 820) (by decide +kernel), List.mem_of_getElem? (i := 1110) (by decide +kernel), List.mem_of_getElem? (i := 1111) (by decide +kernel)⟩
theorem lw_p57 : lw_okq (⟨"HallDiaryModel", "ofHall", "(III)I"⟩, 19) := ⟨⟨by decide +kernel, by decide +kernel⟩, List.mem_of_getElem? (i := 820) (by decide +kernel), List.mem_of_getElem? (i := 1118) (by decide +kernel), List.mem_of_getElem? (i := 1119) (by decide +kernel)⟩
theorem lw_p58 : lw_okq (⟨"HallDiaryModel", "inHall", "(III)I"⟩, 19) := ⟨⟨by decide +kernel, by decide +kernel⟩, List.mem_of_getElem? (i := 820) (by decide +kernel), List.mem_of_getElem? (i := 1122) (by decide +kernel), List.mem_of_getElem? (i := 1123) (by decide +kernel)⟩
theorem lw_p59 : lw_okq (⟨"HallDiaryModel", "ofTenant", "(II)I"⟩, 19) := ⟨⟨by decide +kernel, by decide +kernel⟩, List.mem_of_getElem? (i := 820) (by decide +kernel), List.mem_of_getElem? (i := 1130) (by decide +kernel), List.mem_of_getElem? (i := 1131) (by decide +kernel)⟩
theorem lw_p60 : lw_okq (⟨"HallDiaryModel", "count0", "(I)I"⟩, 19) := ⟨⟨by decide +kernel, by decide +kernel⟩, List.mem_of_getElem? (i := 820) (by decide +kernel), List.mem_of_getElem? (i := 1138) (by decide +kernel), List.mem_of_getElem? (i := 1139) (by decide +kernel)⟩
theorem lw_p61 : lw_okq (⟨"HallDiaryModel", "freeFrom", "(III)I"⟩, 19) := ⟨⟨by decide +kernel, by decide +kernel⟩, List.mem_of_getElem? (i := 820) (by decide +kernel), List.mem_of_getElem? (i := 1154) (by decide +kernel), List.mem_of_getElem? (i := 1155) (by decide +kernel)⟩
theorem lw_p62 : lw_okq (⟨"HallDiaryModel", "bestTenant", "()I"⟩, 19) := ⟨⟨by decide +kernel, by decide +kernel⟩, List.mem_of_getElem? (i := 820) (by decide +kernel), List.mem_of_getElem? (i := 1162) (by decide +kernel), List.mem_of_getElem? (i := 1163) (by decide +kernel)⟩
theorem lw_p63 : lw_okq (⟨"HallDiaryModel", "share", "(I)D"⟩, 19) := ⟨⟨by decide +kernel, by decide +kernel⟩, List.mem_of_getElem? (i := 820) (by decide +kernel), List.mem_of_getElem? (i := 1170) (by decide +kernel), List.mem_of_getElem? (i := 1171) (by decide +kernel)⟩
def lw_privs_4 : List (MethodName × Nat) := [(⟨"HallDiaryModel", "isGood", "(I)Z"⟩, 19), (⟨"HallDiaryModel", "areLets", "()Z"⟩, 19), (⟨"HallDiaryModel", "readPart", "()Z"⟩, 19), (⟨"HallDiaryModel", "reads", "(III)Z"⟩, 19), (⟨"HallDiaryModel", "isAt", "(II)Z"⟩, 19), (⟨"HallDiaryModel", "takes", "(I)Z"⟩, 19), (⟨"HallDiaryModel", "ofRegular", "(II)I"⟩, 19), (⟨"HallDiaryModel", "firstDayOf", "(I)I"⟩, 19), (⟨"HallDiaryModel", "tenantAt", "(III)I"⟩, 19), (⟨"HallDiaryModel", "ofHall", "(III)I"⟩, 19), (⟨"HallDiaryModel", "inHall", "(III)I"⟩, 19), (⟨"HallDiaryModel", "ofTenant", "(II)I"⟩, 19), (⟨"HallDiaryModel", "count0", "(I)I"⟩, 19), (⟨"HallDiaryModel", "freeFrom", "(III)I"⟩, 19), (⟨"HallDiaryModel", "bestTenant", "()I"⟩, 19), (⟨"HallDiaryModel", "share", "(I)D"⟩, 19)]
theorem lw_r4 : ∀ q ∈ lw_privs_4, lw_okq q := List.forall_mem_cons.mpr ⟨lw_p48, List.forall_mem_cons.mpr ⟨lw_p49, List.forall_mem_cons.mpr ⟨lw_p50, List.forall_mem_cons.mpr ⟨lw_p51, List.forall_mem_cons.mpr ⟨lw_p52, List.forall_mem_cons.mpr ⟨lw_p53, List.forall_mem_cons.mpr ⟨lw_p54, List.forall_mem_cons.mpr ⟨lw_p55, List.forall_mem_cons.mpr ⟨lw_p56, List.forall_mem_cons.mpr ⟨lw_p57, List.forall_mem_cons.mpr ⟨lw_p58, List.forall_mem_cons.mpr ⟨lw_p59, List.forall_mem_cons.mpr ⟨lw_p60, List.forall_mem_cons.mpr ⟨lw_p61, List.forall_mem_cons.mpr ⟨lw_p62, List.forall_mem_cons.mpr ⟨lw_p63, fun _ h => absurd h List.not_mem_nil⟩⟩⟩⟩⟩⟩⟩⟩⟩⟩⟩⟩⟩⟩⟩⟩
theorem lw_p64 : lw_okq (⟨"HallDiaryModel", "mean", "()F"⟩, 19) := ⟨⟨by decide +kernel, by decide +kernel⟩, List.mem_of_getElem? (i := 820) (by decide +kernel), List.mem_of_getElem? (i := 1179) (by decide +kernel), List.mem_of_getElem? (i := 1180) (by decide +kernel)⟩
theorem lw_p65 : lw_okq (⟨"HallDiaryModel", "mix", "(J)V"⟩, 19) := ⟨⟨by decide +kernel, by decide +kernel⟩, List.mem_of_getElem? (i := 820) (by decide +kernel), List.mem_of_getElem? (i := 1189) (by decide +kernel), List.mem_of_getElem? (i := 1190) (by decide +kernel)⟩
theorem lw_p66 : lw_okq (⟨"HallDiaryModel", "mixLets", "()V"⟩, 19) := ⟨⟨by decide +kernel, by decide +kernel⟩, List.mem_of_getElem? (i := 820) (by decide +kernel), List.mem_of_getElem? (i := 1194) (by decide +kernel), List.mem_of_getElem? (i := 1195) (by decide +kernel)⟩
theorem lw_p67 : lw_okq (⟨"HallDiaryModel", "mixHall", "(I)V"⟩, 19) := ⟨⟨by decide +kernel, by decide +kernel⟩, List.mem_of_getElem? (i := 820) (by decide +kernel), List.mem_of_getElem? (i := 1198) (by decide +kernel), List.mem_of_getElem? (i := 1199) (by decide +kernel)⟩
def lw_privs_5 : List (MethodName × Nat) := [(⟨"HallDiaryModel", "mean", "()F"⟩, 19), (⟨"HallDiaryModel", "mix", "(J)V"⟩, 19), (⟨"HallDiaryModel", "mixLets", "()V"⟩, 19), (⟨"HallDiaryModel", "mixHall", "(I)V"⟩, 19)]
theorem lw_r5 : ∀ q ∈ lw_privs_5, lw_okq q := List.forall_mem_cons.mpr ⟨lw_p64, List.forall_mem_cons.mpr ⟨lw_p65, List.forall_mem_cons.mpr ⟨lw_p66, List.forall_mem_cons.mpr ⟨lw_p67, fun _ h => absurd h List.not_mem_nil⟩⟩⟩⟩
def lw_privs : List (MethodName × Nat) := lw_privs_1 ++ (lw_privs_2 ++ (lw_privs_3 ++ (lw_privs_4 ++ (lw_privs_5))))
def lw_tbl : List Cond := k2_sels lw_privs ++ tables_1
theorem lw_privs_ok : ∀ q ∈ lw_privs, lw_okq q := by
  show ∀ q ∈ lw_privs_1 ++ (lw_privs_2 ++ (lw_privs_3 ++ (lw_privs_4 ++ (lw_privs_5)))), lw_okq q
  exact List.forall_mem_append.mpr ⟨lw_r1, List.forall_mem_append.mpr ⟨lw_r2, List.forall_mem_append.mpr ⟨lw_r3, List.forall_mem_append.mpr ⟨lw_r4, lw_r5⟩⟩⟩⟩
/-- the streams that the claim lets the run draw from -/
abbrev lw_cs : List Choice := [Jvm.Choice.named "NaN.bits"]
theorem lw_bits : nanBits ∈ lw_cs := by first | decide | exact List.mem_cons_self | simp [lw_cs, nanBits]
-- ===== end of PART A; then your names; then what follows =====
end
section
/-! ===== BEGIN words of one list among another's, by their places ===== -/
theorem goodIn_r {big : List Cond} (ws : List Cond) (ps : List Nat) (hp : ws = ps.filterMap (fun i => big[i]?)) (h : ws.all goodWord = true) : GoodIn big ws := by
  intro w hw
  have h1 := List.all_eq_true.mp h w hw
  rw [hp] at hw
  obtain ⟨i, -, hi⟩ := List.mem_filterMap.mp hw
  have hm : w ∈ big := by first | exact List.mem_of_getElem? hi | exact List.getElem?_mem hi
  exact ⟨hm, good_of_word h1⟩
theorem goodIn_app {big a b : List Cond} (ha : GoodIn big a) (hb : GoodIn big b) : GoodIn big (a ++ b) := fun w h => (List.mem_append.mp h).elim (ha w) (hb w)
theorem goodIn_ca {big a b : List Cond} {c : Cond} (ha : GoodIn big (c :: a)) (hb : GoodIn big b) : GoodIn big (c :: (a ++ b)) := fun w h => (List.mem_cons.mp h).elim (fun e => ha w (List.mem_cons.mpr (Or.inl e))) (fun h => (List.mem_append.mp h).elim (fun h => ha w (List.mem_cons.mpr (Or.inr h))) (hb w))
theorem goodIn_sub {big ws : List Cond} (hm : ∀ w ∈ ws, w ∈ big) (h : ws.all goodWord = true) : GoodIn big ws := fun w hw => ⟨hm w hw, good_of_word (List.all_eq_true.mp h w hw)⟩
/-! ===== END ===== -/

/-! ===== BEGIN exceptions that leave a method, and their catching by the caller (launches without stack traces) ===== -/
section VXA
/-! The laws vx_back, vx_callV, vx_callS, vx_callSW, vx_throw0, vx_throwS follow proofs of the library, with one case more: JvmDerived/Free/Laws.lean (Back.of_free), Shelf42/LK1.lean (callV, callS), Shelf/KitTraced.lean (throwNew0V, throwNewS). -/
/-- where a method has thrown q: the class by its name, the cell, what was written, the world -/
def vx_T (XC : String → State → State → Prop) (st : State) (q : Addr) (t : State) (mc ms : Nat) (free : Addr → Prop) : Prop :=
  ∃ (E : String) (ce : Cell) (L : List Loc), XC E st t ∧ t.heap[q]? = some ce ∧ ce.vm = .none ∧ st.vm.findClass E = some ce.cls ∧ st.WarmedH t.vm ∧ st.sameButNew ({ t with vm := st.vm } : State) L mc ms ∧ ∀ z ∈ L, free z.base
def vx_Q (Qc : Array Value → State → Outcome → State → Prop) (XC : String → State → State → Prop) (mc ms : Nat) (free : Addr → Prop) : Array Value → State → Outcome → State → Prop := fun a st o t =>
  (Qc a st o t ∧ ∃ L, FrameEnd st o t L mc ms ∧ ∀ q ∈ L, free q.base) ∨ ∃ q, o = .threw q ∧ vx_T XC st q t mc ms free
/-- a callee that returns or throws -/
def vx_Met (l : Launch) (y : MethodName) (ws : List Cond) (rm : Room) (Pc : Array Value → State → Prop) (Qc : Array Value → State → Outcome → State → Prop) (XC : String → State → State → Prop) (mc ms : Nat) (free : Addr → Prop) : Prop :=
  MetFree l y (headSpec ws rm) Pc (fun _ _ _ _ _ => True) (vx_Q Qc XC mc ms free)
def vx_Post (XC : String → State → State → Prop) (mc ms : Nat) (free : Addr → Prop) : Pt → Array Value → Addr → Pt → Prop := fun A a q B =>
  ∃ (g : JFrame) (mk : MethodId) (t : State) (L : List Loc) (E : String) (ce : Cell), B.U.heap = t.heap ∧ B.U.vm = t.vm ∧ XC E (A.U.calling g mk a) t ∧ t.heap[q]? = some ce ∧ ce.vm = .none ∧ A.U.vm.findClass E = some ce.cls ∧ B.locs = A.locs ++ L ∧ (∀ z ∈ L, free z.base) ∧ B.cells = A.cells + mc ∧ B.slots = A.slots + ms
def vx_Back (l : Launch) (R : Room) (p : Program) (e : Env) (below : List Frame) (s : State) (sargs : Array Value) (y : MethodName) (len W9 : Nat)
    (Pre : Pt → Array Value → Prop) (Post : Pt → Array Value → Option Value → Pt → Prop) (PostX : Pt → Array Value → Addr → Pt → Prop) : Prop :=
  ∀ (m : MethodId) (meth : Method) (c : Code) (A : Pt) (g : JFrame) (ig : Instr) (mk : MethodId) (a : Array Value),
    Stand p l e R s m sargs below meth c A.U A.locs A.cells A.slots → g.method = m → g.locals.size = c.maxLocals → decode c.code g.pc = .ok (ig, len) →
    2 * g.monitorRoom + (g.stack.map fun v => v.category).sum ≤ W9 → A.U.methodNamed? y = some mk → Pre A a →
    (∃ (v : Option Value) (B : Pt), Stand p l e R s m sargs below meth c B.U B.locs B.cells B.slots ∧ Post A a v B ∧
      Steps p.tables e below (doInvoke e (A.U.setTop g) [] mk a).1 (B.U.setTop { g with pc := g.pc + len, stack := v.toList ++ g.stack })) ∨
    (∃ (q : Addr) (B : Pt), Stand p l e R s m sargs below meth c B.U B.locs B.cells B.slots ∧ PostX A a q B ∧
      Steps p.tables e below (doInvoke e (A.U.setTop g) [] mk a).1 ((B.U.setTop g).pushFrame (.throwing q)))
section Payer
variable {l : Launch} {R : Room} {p : Program} {e : Env} {below : List Frame} {s : State} {sargs : Array Value} {y : MethodName} {len W9 : Nat}
theorem vx_back {ws : List Cond} {rm : Room} {Pc : Array Value → State → Prop} {Qc : Array Value → State → Outcome → State → Prop} {XC : String → State → State → Prop} {mc ms : Nat} {free : Addr → Prop} {bytes : ByteArray} {maxL : Nat} {ret : Option FieldType}
    (hM : vx_Met l y ws rm Pc Qc XC mc ms free) (hblind : FrameBlind Pc) (hrc : rm.cells = mc) (hrs : rm.slots = ms)
    (hframes : rm.frames + 1 ≤ R.frames) (hlocals : W9 + (maxL + 11) + rm.locals ≤ R.locals)
    (hws : ∀ w ∈ ws, ∀ a' U, s.WarmedH U.vm → w.before a' U = true) (hcode : Cond.code y bytes maxL ret ∈ ws) (hinit : ∀ a' U, s.WarmedH U.vm → (Cond.initialized y.cls).before a' U = true) :
    vx_Back l R p e below s sargs y len W9 (PreOf R mc ms Pc) (PostOf Qc mc ms free) (vx_Post XC mc ms free) := by
  intro m meth c A g ig mk a X hg hsize hdg hW hn hp
  have h1 : (headSpec ws rm).pre.before a A.U = true := atoms_intro fun w hw => hws w hw _ _ X.warmed
  have h2 : (Cond.code y bytes maxL ret).before a A.U = true := hws _ hcode _ _ X.warmed
  have h3 : (Cond.initialized y.cls).before a A.U = true := hinit _ _ X.warmed
  have h4 : A.cells + (headSpec ws rm).room.cells ≤ R.cells := by rw [show (headSpec ws rm).room.cells = mc from hrc]; exact hp.1
  have h5 : A.slots + (headSpec ws rm).room.slots ≤ R.slots := by rw [show (headSpec ws rm).room.slots = ms from hrs]; exact hp.2.1
  have hPc : Pc a (A.U.calling g mk a) := hblind _ _ _ _ hp.2.2
  obtain ⟨U, Ls, c0, s0⟩ := A
  dsimp only [Pt.U, Pt.locs, Pt.cells, Pt.slots] at h1 h2 h3 h4 h5 X hn hPc ⊢
  obtain ⟨methY, cY, hmY, hcY, -, hlY, -, -, -, -⟩ := Cond.code_spec hn h2
  obtain ⟨kY, hkY, -⟩ := className_of_methodNamed hn
  have hinitY : kY.init = .initialized := Cond.initialized_spec (findClass_of_methodNamed hn) hkY h3
  have h : At U g.method c below := by rw [hg]; exact X.here
  have hlocals9 : W9 + (maxL + 11) + (headSpec ws rm).room.locals ≤ R.locals := hlocals
  have happ : (headSpec ws rm).appliesLoose y e.platform (U.calling g mk a) = true :=
    Spec.appliesLoose_calling (g := g) h hdg hn hkY hinitY
      (X.room_calling (g := g) (R' := (headSpec ws rm).room) hsize hmY hcY hframes (by rw [hlY]; omega) h4 h5) h1
  obtain ⟨mid, hmid⟩ := h.above
  have hfr : (U.setTop g).frames = (.java g :: mid) ++ below := by rw [State.frames_setTop' g h.top, hmid]; rfl
  obtain ⟨o, s₂, hsteps, -, hend, hq⟩ := Steps.callFree hM p X.admits X.cas X.clock (acts := []) hfr happ hPc trivial
  have hq' : vx_Q Qc XC mc ms free a (U.calling g mk a) o s₂ := hq
  rw [State.frames_setTop' g h.top] at hend
  obtain ⟨g₀, hg0⟩ := Option.isSome_iff_exists.mp h.top
  obtain ⟨r, hr⟩ := State.topJava?_eq_some.mp hg0
  have hr' : (({ U with heap := s₂.heap, slotsUsed := s₂.slotsUsed } : State).setVm s₂.vm).frames = .java g₀ :: r := hr
  rcases hq' with ⟨hqc, L, hfe, hL⟩ | ⟨q, rfl, E, ce, L, hx, hce, hcv, hcl, hW₂, hsm, hL⟩
  · obtain ⟨⟨v, rfl⟩, hW₂, e2, q2, q3, q4, q5, q6⟩ := id hfe
    have e3 : s₂ = ({ (U.calling g mk a).setFrames s₂.frames with heap := s₂.heap, slotsUsed := s₂.slotsUsed } : State).setVm s₂.vm := by
      have : s₂ = ({ s₂ with vm := (U.calling g mk a).vm } : State).setVm s₂.vm := rfl
      rw [e2] at this
      exact this
    obtain ⟨c₂, i₂, len₂, hc₂, hd₂, hf₂⟩ := hend
    have hW' : U.WarmedH s₂.vm := hW₂
    have hcc : c₂ = c := by
      have h1 : s₂.code? g.method = U.code? g.method := by
        rw [State.code?_eq, State.code?_eq, hW'.alike.method?]
      exact Option.some.inj (hc₂.symm.trans (h1.trans h.code))
    subst hcc
    have hlen : len₂ = len := by rw [hdg] at hd₂; cases hd₂; rfl
    subst hlen
    have hs₂ : s₂ = (({ U with heap := s₂.heap, slotsUsed := s₂.slotsUsed } : State).setVm s₂.vm).setTop { g with pc := g.pc + len₂, stack := v.toList ++ g.stack } := by
      refine e3.trans ?_
      rw [hf₂, State.calling_eq h.top, State.setFrames_setFrames, State.setTop_of_frames _ hr', hr]
      rfl
    have hsame : U.sameButNew ({ U with heap := s₂.heap, slotsUsed := s₂.slotsUsed } : State) L mc ms := by
      refine ⟨?_, q2, q3, q4, q5, q6⟩
      obtain ⟨t, ht, -⟩ := State.frames_cons hr
      show ({ U with heap := s₂.heap, slotsUsed := s₂.slotsUsed } : State) = { U.setFrames U.frames with heap := s₂.heap, slotsUsed := s₂.slotsUsed }
      rw [State.setFrames_self ht]
    subst hg
    refine Or.inl ⟨v, ⟨(({ U with heap := s₂.heap, slotsUsed := s₂.slotsUsed } : State).setVm s₂.vm), Ls ++ L, c0 + mc, s0 + ms⟩,
      ⟨X.admits, X.cas, X.clock, X.frames, X.room, X.hears, X.method, X.code, (X.here.setHeapUsed s₂.heap s₂.slotsUsed).setVm hW'.alike, X.tail, State.WarmedH.trans X.warmed hW', X.limits, X.bytes, X.same.trans (hsame.setVm s.vm)⟩,
      ⟨g, mk, s₂, L, rfl, rfl, hqc, rfl, hL, rfl, rfl⟩, ?_⟩
    show Steps p.tables e below _ ((({ U with heap := s₂.heap, slotsUsed := s₂.slotsUsed } : State).setVm s₂.vm).setTop { g with pc := g.pc + len₂, stack := v.toList ++ g.stack })
    rw [← hs₂]
    exact hsteps
  · obtain ⟨e2, q2, q3, q4, q5, q6⟩ := id hsm
    have e3 : s₂ = ({ (U.calling g mk a).setFrames s₂.frames with heap := s₂.heap, slotsUsed := s₂.slotsUsed } : State).setVm s₂.vm := by
      have : s₂ = ({ s₂ with vm := (U.calling g mk a).vm } : State).setVm s₂.vm := rfl
      rw [e2] at this
      exact this
    have hf₂ : s₂.frames = .throwing q :: .java g :: U.frames.tail := hend
    have hW' : U.WarmedH s₂.vm := hW₂
    have hs₂ : s₂ = ((({ U with heap := s₂.heap, slotsUsed := s₂.slotsUsed } : State).setVm s₂.vm).setTop g).pushFrame (.throwing q) := by
      refine e3.trans ?_
      rw [hf₂, State.calling_eq h.top, State.setFrames_setFrames, State.pushFrame, State.frames_setTop _ hr', State.setTop_of_frames _ hr', State.setFrames_setFrames, hr]
      rfl
    have hsame : U.sameButNew ({ U with heap := s₂.heap, slotsUsed := s₂.slotsUsed } : State) L mc ms := by
      refine ⟨?_, q2, q3, q4, q5, q6⟩
      obtain ⟨t, ht, -⟩ := State.frames_cons hr
      show ({ U with heap := s₂.heap, slotsUsed := s₂.slotsUsed } : State) = { U.setFrames U.frames with heap := s₂.heap, slotsUsed := s₂.slotsUsed }
      rw [State.setFrames_self ht]
    subst hg
    refine Or.inr ⟨q, ⟨(({ U with heap := s₂.heap, slotsUsed := s₂.slotsUsed } : State).setVm s₂.vm), Ls ++ L, c0 + mc, s0 + ms⟩,
      ⟨X.admits, X.cas, X.clock, X.frames, X.room, X.hears, X.method, X.code, (X.here.setHeapUsed s₂.heap s₂.slotsUsed).setVm hW'.alike, X.tail, State.WarmedH.trans X.warmed hW', X.limits, X.bytes, X.same.trans (hsame.setVm s.vm)⟩,
      ⟨g, mk, s₂, L, E, ce, rfl, rfl, hx, hce, hcv, hcl, rfl, hL, rfl, rfl⟩, ?_⟩
    show Steps p.tables e below _ (((({ U with heap := s₂.heap, slotsUsed := s₂.slotsUsed } : State).setVm s₂.vm).setTop g).pushFrame (.throwing q))
    rw [← hs₂]
    exact hsteps
end Payer
section Calls
variable {p : Program} {l : Launch} {e : Env} {R : Room} {s : State} {m : MethodId} {args : Array Value} {below : List Frame} {meth : Method} {c : Code} {T : State} {locs : List Loc} {cells slots : Nat}
theorem vx_callV (X : Stand p l e R s m args below meth c T locs cells slots) (hexec : p.tables.exec = Jvm.exec) {own C : String} {index : Nat} {y : MethodName} {bytes : ByteArray} {maxL : Nat} {ret : Option FieldType}
    (hown : s.vm.findClass own = some m.cls) (hlink : (Cond.methodLink own index y).before args s = true) (hinst : (Cond.instanceMethod y).before args s = true) (hsel : (Cond.selects C y y).before args s = true)
    (hcode : (Cond.code y bytes maxL ret).before args s = true) (hy : y.cls ≠ "java/lang/invoke/MethodHandle" ∧ y.cls ≠ "java/lang/invoke/VarHandle")
    {W9 : Nat} {Pre : Pt → Array Value → Prop} {Post : Pt → Array Value → Option Value → Pt → Prop} {PostX : Pt → Array Value → Addr → Pt → Prop} (hK : vx_Back l R p e below s args y 3 W9 Pre Post PostX)
    {b : Addr} {cellB : Cell} (hcell : T.heap[b]? = some cellB) (hobj : cellB.vm.isStatics = false) (hcls : s.vm.findClass C = some cellB.cls)
    {g : JFrame} (hg : g.method = m) (hsize : g.locals.size = c.maxLocals) {argsL rest : List Value} (hlen : ∀ sig, parseMethodDescriptor y.desc = some sig → argsL.length = sig.parameters.length)
    (hstack : g.stack = argsL.reverse ++ .ref b :: rest) (hW : 2 * g.monitorRoom + (rest.map fun v => v.category).sum ≤ W9) (hdg : decode c.code g.pc = .ok (.invokevirtual index, 3))
    (hpre : ∀ vm₁, s.WarmedH vm₁ → Pre ⟨T.setVm vm₁, locs, cells, slots⟩ (Value.ref b :: argsL).toArray) :
    (∃ (v : Option Value) (vm₁ : Vm) (B : Pt), s.WarmedH vm₁ ∧ Stand p l e R s m args below meth c B.U B.locs B.cells B.slots ∧ Post ⟨T.setVm vm₁, locs, cells, slots⟩ (Value.ref b :: argsL).toArray v B ∧
      ∀ target, Steps p.tables e below (B.U.setTop { g with pc := g.pc + 3, stack := v.toList ++ rest }) target → Steps p.tables e below (T.setTop g) target) ∨
    (∃ (q : Addr) (vm₁ : Vm) (B : Pt), s.WarmedH vm₁ ∧ Stand p l e R s m args below meth c B.U B.locs B.cells B.slots ∧ PostX ⟨T.setVm vm₁, locs, cells, slots⟩ (Value.ref b :: argsL).toArray q B ∧
      Steps p.tables e below (T.setTop g) ((B.U.setTop { g with stack := rest }).pushFrame (.throwing q))) := by
  obtain ⟨mk, methM, hnamed, hmethM, hstM, habM⟩ := Cond.instanceMethod_spec hinst
  obtain ⟨methM', cM, hmethM', -, -, -, -, -, -, hsigM⟩ := Cond.code_spec hnamed hcode
  cases hmethM.symm.trans hmethM'
  obtain ⟨c2, r2, m2, q1, q2, q3, q4, kP, hkP, hkPi⟩ := Cond.selects_spec hsel
  cases hcls.symm.trans q1
  cases (State.methodFound?_of_named hnamed hy).symm.trans q2
  cases hnamed.symm.trans q3
  have hselP : selectMethod e.platform s.vm cellB.cls mk = .method mk := by rw [Launch.admits_selectMethod X.admits]; exact q4
  obtain ⟨vm₁, X₁, hstep₁⟩ := X.invokevirtual hexec hown hlink hnamed hmethM hstM hkP hkPi hy (a := b) (cell := cellB) hcell
    (fun z h => by rw [h] at hobj; cases hobj) hselP hmethM habM hkP hkPi (g := g) hg (argsL := argsL) (rest := rest) (hlen _ hsigM) hstack hdg
  rcases hK m meth c ⟨T.setVm vm₁, locs, cells, slots⟩ { g with stack := rest } (.invokevirtual index) mk (Value.ref b :: argsL).toArray X₁ hg hsize hdg hW (X₁.named hnamed) (hpre vm₁ X₁.warmed) with ⟨v, B, X', hpost, hsteps⟩ | ⟨q, B, X', hpost, hsteps⟩
  · exact Or.inl ⟨v, vm₁, B, X₁.warmed, X', hpost, fun target h => hstep₁ _ fun acts => by rw [doInvoke_state]; exact hsteps.trans h⟩
  · exact Or.inr ⟨q, vm₁, B, X₁.warmed, X', hpost, hstep₁ _ fun acts => by rw [doInvoke_state]; exact hsteps⟩
theorem vx_callS (X : Stand p l e R s m args below meth c T locs cells slots) (hexec : p.tables.exec = Jvm.exec) {own : String} {index : Nat} {y : MethodName} {bytes : ByteArray} {maxL : Nat} {ret : Option FieldType}
    (hown : s.vm.findClass own = some m.cls) (hlink : (Cond.methodLink own index y).before args s = true) (hstat : (Cond.static y).before args s = true) (hinit : (Cond.initialized y.cls).before args s = true)
    (hcode : (Cond.code y bytes maxL ret).before args s = true) (hy : y.cls ≠ "java/lang/invoke/MethodHandle" ∧ y.cls ≠ "java/lang/invoke/VarHandle")
    {W9 : Nat} {Pre : Pt → Array Value → Prop} {Post : Pt → Array Value → Option Value → Pt → Prop} {PostX : Pt → Array Value → Addr → Pt → Prop} (hK : vx_Back l R p e below s args y 3 W9 Pre Post PostX)
    {g : JFrame} (hg : g.method = m) (hsize : g.locals.size = c.maxLocals) {argsL rest : List Value} (hlen : ∀ sig, parseMethodDescriptor y.desc = some sig → argsL.length = sig.parameters.length)
    (hstack : g.stack = argsL.reverse ++ rest) (hW : 2 * g.monitorRoom + (rest.map fun v => v.category).sum ≤ W9) (hdg : decode c.code g.pc = .ok (.invokestatic index, 3))
    (hpre : ∀ vm₁, s.WarmedH vm₁ → Pre ⟨T.setVm vm₁, locs, cells, slots⟩ argsL.toArray) :
    (∃ (v : Option Value) (vm₁ : Vm) (B : Pt), s.WarmedH vm₁ ∧ Stand p l e R s m args below meth c B.U B.locs B.cells B.slots ∧ Post ⟨T.setVm vm₁, locs, cells, slots⟩ argsL.toArray v B ∧
      ∀ target, Steps p.tables e below (B.U.setTop { g with pc := g.pc + 3, stack := v.toList ++ rest }) target → Steps p.tables e below (T.setTop g) target) ∨
    (∃ (q : Addr) (vm₁ : Vm) (B : Pt), s.WarmedH vm₁ ∧ Stand p l e R s m args below meth c B.U B.locs B.cells B.slots ∧ PostX ⟨T.setVm vm₁, locs, cells, slots⟩ argsL.toArray q B ∧
      Steps p.tables e below (T.setTop g) ((B.U.setTop { g with stack := rest }).pushFrame (.throwing q))) := by
  obtain ⟨mk, hnamed⟩ := Cond.code_named hcode
  obtain ⟨methM, cM, hmethM, -, -, -, -, -, -, hsigM⟩ := Cond.code_spec hnamed hcode
  have hstatic : methM.isStatic = true := Cond.static_spec hnamed hmethM hstat
  obtain ⟨kP, hkP, -⟩ := className_of_methodNamed hnamed
  have hinitP : kP.init = .initialized := Cond.initialized_spec (findClass_of_methodNamed hnamed) hkP hinit
  obtain ⟨vm₁, X₁, hstep₁⟩ := X.invokestatic hexec hown hlink hnamed hmethM hstatic hkP hinitP hy (g := g) hg (argsL := argsL) (rest := rest) (hlen _ hsigM) hstack hdg
  rcases hK m meth c ⟨T.setVm vm₁, locs, cells, slots⟩ { g with stack := rest } (.invokestatic index) mk argsL.toArray X₁ hg hsize hdg hW (X₁.named hnamed) (hpre vm₁ X₁.warmed) with ⟨v, B, X', hpost, hsteps⟩ | ⟨q, B, X', hpost, hsteps⟩
  · exact Or.inl ⟨v, vm₁, B, X₁.warmed, X', hpost, fun target h => hstep₁ _ fun acts => by rw [doInvoke_state]; exact hsteps.trans h⟩
  · exact Or.inr ⟨q, vm₁, B, X₁.warmed, X', hpost, hstep₁ _ fun acts => by rw [doInvoke_state]; exact hsteps⟩
end Calls
theorem vx_cls {s : State} {T : State} {vm₁ : Vm} {E : String} {k : ClassId} (hW : s.WarmedH vm₁) (h : (T.setVm vm₁).vm.findClass E = some k) : s.vm.findClass E = some k := by
  have h1 : vm₁.findClass E = some k := h
  rw [hW.alike.findClass] at h1
  exact h1
/-- the method's frame g, with q thrown over it -/
def vx_W (p : Program) (l : Launch) (e : Env) (R : Room) (s : State) (m : MethodId) (args : Array Value) (below : List Frame) (meth : Method) (c : Code) (H : Heap) (locs : List Loc) (cells slots : Nat) (Q : State → Prop) (g : JFrame) (q : Addr) : Prop :=
  ∀ T : State, T.heap = H → Stand p l e R s m args below meth c T locs cells slots → ∃ t, Steps p.tables e below ((T.setTop g).pushFrame (.throwing q)) t ∧ Q t
def vx_Run (p : Program) (l : Launch) (e : Env) (R : Room) (s : State) (m : MethodId) (args : Array Value) (below : List Frame) (meth : Method) (c : Code) (H : Heap) (locs : List Loc) (cells slots mc ms : Nat) (g : JFrame) (rest : List Value) (Qa : State → Outcome → State → Prop) (XC : String → State → State → Prop) (free : Addr → Prop) : Prop :=
  ∀ T : State, T.heap = H → Stand p l e R s m args below meth c T locs cells slots →
    (∃ (v : Option Value) (st₀ t T' : State) (L : List Loc), st₀.heap = H ∧ Stand p l e R s m args below meth c T' (locs ++ L) (cells + mc) (slots + ms) ∧ (∀ q ∈ L, free q.base) ∧ T'.heap = t.heap ∧ T'.vm = t.vm ∧ Qa st₀ (.returned v) t ∧
      Goes p e below T g T' { g with pc := g.pc + 3, stack := v.toList ++ rest }) ∨
    (∃ (q : Addr) (st₀ t T' : State) (L : List Loc) (E : String) (ce : Cell), st₀.heap = H ∧ Stand p l e R s m args below meth c T' (locs ++ L) (cells + mc) (slots + ms) ∧ (∀ z ∈ L, free z.base) ∧ T'.heap = t.heap ∧ T'.vm = t.vm ∧ XC E st₀ t ∧ t.heap[q]? = some ce ∧ ce.vm = .none ∧ s.vm.findClass E = some ce.cls ∧
      Steps p.tables e below (T.setTop g) ((T'.setTop { g with stack := rest }).pushFrame (.throwing q)))
def vx_X {S : Type} (px : S → Prop) (B : String → S → State → Prop) (A : Nat → Prop) : String → State → State → Prop := fun E st t => ∃ u : S, px u ∧ B E u t ∧ va_F A st t
section Runs
variable {p : Program} {l : Launch} {e : Env} {R : Room} {s : State} {m : MethodId} {args : Array Value} {below : List Frame} {meth : Method} {c : Code} {H : Heap} {locs : List Loc} {cells slots : Nat}
variable {y : MethodName} {bytes cc : ByteArray} {maxL nL mc ms n index : Nat} {ret : Option FieldType} {ws : List Cond} {rm : Room} {Pc : Array Value → State → Prop} {Qc : Array Value → State → Outcome → State → Prop} {XC : String → State → State → Prop} {free : Addr → Prop} {Ts : List Cond} {own C : String} {b : Addr} {As rest : List Value} {g : JFrame}
theorem vx_callBack (cb : CallB R s args own index y bytes maxL ret ws rm mc ms n) (hM : vx_Met l y ws rm Pc Qc XC mc ms free) (hbl : FrameBlind Pc) : vx_Back l R p e below s args y 3 8 (PreOf R mc ms Pc) (PostOf Qc mc ms free) (vx_Post XC mc ms free) := by
  obtain ⟨hrc, hrs, hfr, hlo, hws, hcw, -, hini, -⟩ := cb
  exact vx_back (bytes := bytes) (maxL := maxL) (ret := ret) hM hbl hrc hrs hfr hlo hws hcw (fun a' U hW => word_at hW (Or.inl (by first | rfl | simp [Cond.onTables, Cond.keeps, Cond.steady])) hini)
theorem vx_runV (S : CallFix p m c cc nL s args Ts own) (hM : vx_Met l y ws rm Pc Qc XC mc ms free) (cw : CallW R s args own C index y bytes maxL ret ws rm mc ms n) (hp : PreV s H C b Pc As)
    (hg : g.method = m) (hn : As.length = n) (hsize : g.locals.size = nL) (hstack : g.stack = As.reverse ++ .ref b :: rest) (hW : 2 * g.monitorRoom + (rest.map fun v => v.category).sum ≤ 8) (hdg : decode cc g.pc = .ok (.invokevirtual index, 3)) (hf : cells + mc ≤ R.cells ∧ slots + ms ≤ R.slots) :
    vx_Run p l e R s m args below meth c H locs cells slots mc ms g rest (Qc (Value.ref b :: As).toArray) XC free := by
  have hK : vx_Back l R p e below s args y 3 8 (PreOf R mc ms Pc) (PostOf Qc mc ms free) (vx_Post XC mc ms free) := vx_callBack cw.1 hM hp.1
  obtain ⟨⟨-, -, -, -, -, -, hcode, -, hy, hlen, hl⟩, hin, hse⟩ := cw
  obtain ⟨hx, hb, hml, ho, -⟩ := S
  obtain ⟨-, ⟨cellB, hcB, hoB, hclB⟩, hPc⟩ := hp
  intro T hT X
  rcases vx_callV X hx (C := C) (bytes := bytes) (maxL := maxL) (ret := ret) ho hl hin hse hcode hy hK (by rw [hT]; exact hcB) hoB hclB hg (hsize.trans hml.symm) (argsL := As) (rest := rest) (fun sig h => hn.trans (hlen sig h)) hstack hW (by rw [hb]; exact hdg)
    (fun vm₁ hW₁ => ⟨hf.1, hf.2, hPc (T.setVm vm₁) hT hW₁⟩) with ⟨v, vm₁, ⟨U', l2, c2, s2⟩, hW₁, X', ⟨g', mk, t, L, e1, e2, hq, h1, hL, h2, h3⟩, st⟩ | ⟨q, vm₁, ⟨U', l2, c2, s2⟩, hW₁, X', ⟨g', mk, t, L, E, ce, e1, e2, hq, hce, hcv, hcl, h1, hL, h2, h3⟩, st⟩
  · dsimp only [Pt.U, Pt.locs, Pt.cells, Pt.slots] at X' e1 e2 h1 h2 h3 st
    subst h1; subst h2; subst h3
    exact Or.inl ⟨v, (T.setVm vm₁).calling g' mk (Value.ref b :: As).toArray, t, U', L, hT, X', hL, e1, e2, hq, st⟩
  · dsimp only [Pt.U, Pt.locs, Pt.cells, Pt.slots] at X' e1 e2 h1 h2 h3 st hcl
    subst h1; subst h2; subst h3
    exact Or.inr ⟨q, (T.setVm vm₁).calling g' mk (Value.ref b :: As).toArray, t, U', L, E, ce, hT, X', hL, e1, e2, hq, hce, hcv, vx_cls hW₁ hcl, st⟩
theorem vx_runS (S : CallFix p m c cc nL s args Ts own) (hM : vx_Met l y ws rm Pc Qc XC mc ms free) (cw : CallB R s args own index y bytes maxL ret ws rm mc ms n ∧ (Cond.static y).before args s = true) (hp : PreS s H Pc As)
    (hg : g.method = m) (hn : As.length = n) (hsize : g.locals.size = nL) (hstack : g.stack = As.reverse ++ rest) (hW : 2 * g.monitorRoom + (rest.map fun v => v.category).sum ≤ 8) (hdg : decode cc g.pc = .ok (.invokestatic index, 3)) (hf : cells + mc ≤ R.cells ∧ slots + ms ≤ R.slots) :
    vx_Run p l e R s m args below meth c H locs cells slots mc ms g rest (Qc As.toArray) XC free := by
  have hK : vx_Back l R p e below s args y 3 8 (PreOf R mc ms Pc) (PostOf Qc mc ms free) (vx_Post XC mc ms free) := vx_callBack cw.1 hM hp.1
  obtain ⟨⟨-, -, -, -, -, -, hcode, hini, hy, hlen, hl⟩, hstt⟩ := cw
  obtain ⟨hx, hb, hml, ho, -⟩ := S
  intro T hT X
  rcases vx_callS X hx (bytes := bytes) (maxL := maxL) (ret := ret) ho hl hstt hini hcode hy hK hg (hsize.trans hml.symm) (argsL := As) (rest := rest) (fun sig h => hn.trans (hlen sig h)) hstack hW (by rw [hb]; exact hdg)
    (fun vm₁ hW₁ => ⟨hf.1, hf.2, hp.2 (T.setVm vm₁) hT hW₁⟩) with ⟨v, vm₁, ⟨U', l2, c2, s2⟩, hW₁, X', ⟨g', mk, t, L, e1, e2, hq, h1, hL, h2, h3⟩, st⟩ | ⟨q, vm₁, ⟨U', l2, c2, s2⟩, hW₁, X', ⟨g', mk, t, L, E, ce, e1, e2, hq, hce, hcv, hcl, h1, hL, h2, h3⟩, st⟩
  · dsimp only [Pt.U, Pt.locs, Pt.cells, Pt.slots] at X' e1 e2 h1 h2 h3 st
    subst h1; subst h2; subst h3
    exact Or.inl ⟨v, (T.setVm vm₁).calling g' mk As.toArray, t, U', L, hT, X', hL, e1, e2, hq, st⟩
  · dsimp only [Pt.U, Pt.locs, Pt.cells, Pt.slots] at X' e1 e2 h1 h2 h3 st hcl
    subst h1; subst h2; subst h3
    exact Or.inr ⟨q, (T.setVm vm₁).calling g' mk As.toArray, t, U', L, E, ce, hT, X', hL, e1, e2, hq, hce, hcv, vx_cls hW₁ hcl, st⟩
end Runs
section Rows
variable {p : Program} {l : Launch} {e : Env} {R : Room} {s : State} {m : MethodId} {args : Array Value} {below : List Frame} {meth : Method} {c : Code} {H : Heap} {locs : List Loc} {cells slots : Nat} {Q : State → Prop}
variable {mc ms : Nat} {free : Addr → Prop} {A0 A1 : Nat → Prop} {H0 : Heap} {a : Array Value} {pc : Nat} {ls : Array Slot} {st0 rest : List Value}
theorem vx_keep {st₀ t T' : State} {L : List Loc} (h0 : st₀.heap = H) (e1 : T'.heap = t.heap) (hS : va_S A0 H0 H locs) (hA : ∀ q, q < H.size → A1 q → A0 q) (hf : ∀ q, free q → A0 q) (hL : ∀ q ∈ L, free q.base) (hF : va_F A1 st₀ t) :
    H.size ≤ T'.heap.size ∧ (∀ q : Nat, q < H.size → ¬ A1 q → T'.heap[q]? = H[q]?) ∧ va_S A0 H0 T'.heap (locs ++ L) := by
  obtain ⟨hz, hk⟩ := hF
  rw [h0] at hz hk
  exact ⟨by rw [e1]; exact hz, fun q h1 h2 => by rw [e1]; exact hk q h1 h2,
    ⟨Nat.le_trans hS.1 (by rw [e1]; exact hz), fun q h1 h2 => by rw [e1, hk q (Nat.lt_of_lt_of_le h1 hS.1) (fun z => h2 (hA q (Nat.lt_of_lt_of_le h1 hS.1) z))]; exact hS.2.1 q h1 h2, fun q hq => by
      rcases List.mem_append.mp hq with h | h
      · exact hS.2.2 q h
      · exact hf _ (hL q h)⟩⟩
theorem vx_calli {S SX : Type} {post : Int32 → S → Prop} {px : SX → Prop} {B : S → State → Prop} {BX : String → SX → State → Prop} {AX : Nat → Prop} (hr : vx_Run p l e R s m args below meth c H locs cells slots mc ms (F0 m pc ls st0) rest (va_Qi post B A1 a) (vx_X px BX AX) free) (hS : va_S A0 H0 H locs) (hA : ∀ q, q < H.size → A1 q → A0 q) (hf : ∀ q, free q → A0 q) (hAX : ∀ q, q < H.size → AX q → A0 q)
    (kx : ∀ (E : String) (ce : Cell) (q9 : Addr) (u : SX) (t : State) (H1 : Heap) (locs1 : List Loc), t.heap = H1 → s.vm.Alike t.vm → px u → BX E u t → H.size ≤ H1.size → (∀ q : Nat, q < H.size → ¬ AX q → H1[q]? = H[q]?) → va_S A0 H0 H1 locs1 → H1[q9]? = some ce → ce.vm = .none → s.vm.findClass E = some ce.cls → vx_W p l e R s m args below meth c H1 locs1 (cells + mc) (slots + ms) Q (F0 m pc ls rest) q9)
    (kk : ∀ (r : Int32) (u : S) (t : State) (H1 : Heap) (locs1 : List Loc), t.heap = H1 → s.vm.Alike t.vm → post r u → B u t → H.size ≤ H1.size → (∀ q : Nat, q < H.size → ¬ A1 q → H1[q]? = H[q]?) → va_S A0 H0 H1 locs1 → W p l e R s m args below meth c H1 locs1 (cells + mc) (slots + ms) Q (F0 m (pc + 3) ls (.int r :: rest))) : W p l e R s m args below meth c H locs cells slots Q (F0 m pc ls st0) := by
  intro T hT X
  rcases hr T hT X with ⟨v, st₀, t, T', L, h0, X', hL, e1, e2, ⟨⟨r, u, hv, hp, hb⟩, hF⟩, st⟩ | ⟨q, st₀, t, T', L, E, ce, h0, X', hL, e1, e2, ⟨u, hp, hb, hF⟩, hce, hcv, hcl, st⟩
  · cases hv
    obtain ⟨k1, k2, k3⟩ := vx_keep h0 e1 hS hA hf hL hF
    obtain ⟨t2, a1, b1⟩ := kk r u t T'.heap (locs ++ L) e1.symm (by rw [← e2]; exact X'.warmed.alike) hp hb k1 k2 k3 T' rfl X'
    exact ⟨t2, st t2 a1, b1⟩
  · obtain ⟨k1, k2, k3⟩ := vx_keep h0 e1 hS hAX hf hL hF
    obtain ⟨t2, a1, b1⟩ := kx E ce q u t T'.heap (locs ++ L) e1.symm (by rw [← e2]; exact X'.warmed.alike) hp hb k1 k2 k3 (by rw [e1]; exact hce) hcv hcl T' rfl X'
    exact ⟨t2, st.trans a1, b1⟩
theorem vx_calll {S SX : Type} {post : Int64 → S → Prop} {px : SX → Prop} {B : S → State → Prop} {BX : String → SX → State → Prop} {AX : Nat → Prop} (hr : vx_Run p l e R s m args below meth c H locs cells slots mc ms (F0 m pc ls st0) rest (va_Ql post B A1 a) (vx_X px BX AX) free) (hS : va_S A0 H0 H locs) (hA : ∀ q, q < H.size → A1 q → A0 q) (hf : ∀ q, free q → A0 q) (hAX : ∀ q, q < H.size → AX q → A0 q)
    (kx : ∀ (E : String) (ce : Cell) (q9 : Addr) (u : SX) (t : State) (H1 : Heap) (locs1 : List Loc), t.heap = H1 → s.vm.Alike t.vm → px u → BX E u t → H.size ≤ H1.size → (∀ q : Nat, q < H.size → ¬ AX q → H1[q]? = H[q]?) → va_S A0 H0 H1 locs1 → H1[q9]? = some ce → ce.vm = .none → s.vm.findClass E = some ce.cls → vx_W p l e R s m args below meth c H1 locs1 (cells + mc) (slots + ms) Q (F0 m pc ls rest) q9)
    (kk : ∀ (r : Int64) (u : S) (t : State) (H1 : Heap) (locs1 : List Loc), t.heap = H1 → s.vm.Alike t.vm → post r u → B u t → H.size ≤ H1.size → (∀ q : Nat, q < H.size → ¬ A1 q → H1[q]? = H[q]?) → va_S A0 H0 H1 locs1 → W p l e R s m args below meth c H1 locs1 (cells + mc) (slots + ms) Q (F0 m (pc + 3) ls (.long r :: rest))) : W p l e R s m args below meth c H locs cells slots Q (F0 m pc ls st0) := by
  intro T hT X
  rcases hr T hT X with ⟨v, st₀, t, T', L, h0, X', hL, e1, e2, ⟨⟨r, u, hv, hp, hb⟩, hF⟩, st⟩ | ⟨q, st₀, t, T', L, E, ce, h0, X', hL, e1, e2, ⟨u, hp, hb, hF⟩, hce, hcv, hcl, st⟩
  · cases hv
    obtain ⟨k1, k2, k3⟩ := vx_keep h0 e1 hS hA hf hL hF
    obtain ⟨t2, a1, b1⟩ := kk r u t T'.heap (locs ++ L) e1.symm (by rw [← e2]; exact X'.warmed.alike) hp hb k1 k2 k3 T' rfl X'
    exact ⟨t2, st t2 a1, b1⟩
  · obtain ⟨k1, k2, k3⟩ := vx_keep h0 e1 hS hAX hf hL hF
    obtain ⟨t2, a1, b1⟩ := kx E ce q u t T'.heap (locs ++ L) e1.symm (by rw [← e2]; exact X'.warmed.alike) hp hb k1 k2 k3 (by rw [e1]; exact hce) hcv hcl T' rfl X'
    exact ⟨t2, st.trans a1, b1⟩
theorem vx_callf {S SX : Type} {post : UInt32 → S → Prop} {px : SX → Prop} {B : S → State → Prop} {BX : String → SX → State → Prop} {AX : Nat → Prop} (hr : vx_Run p l e R s m args below meth c H locs cells slots mc ms (F0 m pc ls st0) rest (va_Qf post B A1 a) (vx_X px BX AX) free) (hS : va_S A0 H0 H locs) (hA : ∀ q, q < H.size → A1 q → A0 q) (hf : ∀ q, free q → A0 q) (hAX : ∀ q, q < H.size → AX q → A0 q)
    (kx : ∀ (E : String) (ce : Cell) (q9 : Addr) (u : SX) (t : State) (H1 : Heap) (locs1 : List Loc), t.heap = H1 → s.vm.Alike t.vm → px u → BX E u t → H.size ≤ H1.size → (∀ q : Nat, q < H.size → ¬ AX q → H1[q]? = H[q]?) → va_S A0 H0 H1 locs1 → H1[q9]? = some ce → ce.vm = .none → s.vm.findClass E = some ce.cls → vx_W p l e R s m args below meth c H1 locs1 (cells + mc) (slots + ms) Q (F0 m pc ls rest) q9)
    (kk : ∀ (r : UInt32) (u : S) (t : State) (H1 : Heap) (locs1 : List Loc), t.heap = H1 → s.vm.Alike t.vm → post r u → B u t → H.size ≤ H1.size → (∀ q : Nat, q < H.size → ¬ A1 q → H1[q]? = H[q]?) → va_S A0 H0 H1 locs1 → W p l e R s m args below meth c H1 locs1 (cells + mc) (slots + ms) Q (F0 m (pc + 3) ls (.float r :: rest))) : W p l e R s m args below meth c H locs cells slots Q (F0 m pc ls st0) := by
  intro T hT X
  rcases hr T hT X with ⟨v, st₀, t, T', L, h0, X', hL, e1, e2, ⟨⟨r, u, hv, hp, hb⟩, hF⟩, st⟩ | ⟨q, st₀, t, T', L, E, ce, h0, X', hL, e1, e2, ⟨u, hp, hb, hF⟩, hce, hcv, hcl, st⟩
  · cases hv
    obtain ⟨k1, k2, k3⟩ := vx_keep h0 e1 hS hA hf hL hF
    obtain ⟨t2, a1, b1⟩ := kk r u t T'.heap (locs ++ L) e1.symm (by rw [← e2]; exact X'.warmed.alike) hp hb k1 k2 k3 T' rfl X'
    exact ⟨t2, st t2 a1, b1⟩
  · obtain ⟨k1, k2, k3⟩ := vx_keep h0 e1 hS hAX hf hL hF
    obtain ⟨t2, a1, b1⟩ := kx E ce q u t T'.heap (locs ++ L) e1.symm (by rw [← e2]; exact X'.warmed.alike) hp hb k1 k2 k3 (by rw [e1]; exact hce) hcv hcl T' rfl X'
    exact ⟨t2, st.trans a1, b1⟩
theorem vx_calld {S SX : Type} {post : UInt64 → S → Prop} {px : SX → Prop} {B : S → State → Prop} {BX : String → SX → State → Prop} {AX : Nat → Prop} (hr : vx_Run p l e R s m args below meth c H locs cells slots mc ms (F0 m pc ls st0) rest (va_Qd post B A1 a) (vx_X px BX AX) free) (hS : va_S A0 H0 H locs) (hA : ∀ q, q < H.size → A1 q → A0 q) (hf : ∀ q, free q → A0 q) (hAX : ∀ q, q < H.size → AX q → A0 q)
    (kx : ∀ (E : String) (ce : Cell) (q9 : Addr) (u : SX) (t : State) (H1 : Heap) (locs1 : List Loc), t.heap = H1 → s.vm.Alike t.vm → px u → BX E u t → H.size ≤ H1.size → (∀ q : Nat, q < H.size → ¬ AX q → H1[q]? = H[q]?) → va_S A0 H0 H1 locs1 → H1[q9]? = some ce → ce.vm = .none → s.vm.findClass E = some ce.cls → vx_W p l e R s m args below meth c H1 locs1 (cells + mc) (slots + ms) Q (F0 m pc ls rest) q9)
    (kk : ∀ (r : UInt64) (u : S) (t : State) (H1 : Heap) (locs1 : List Loc), t.heap = H1 → s.vm.Alike t.vm → post r u → B u t → H.size ≤ H1.size → (∀ q : Nat, q < H.size → ¬ A1 q → H1[q]? = H[q]?) → va_S A0 H0 H1 locs1 → W p l e R s m args below meth c H1 locs1 (cells + mc) (slots + ms) Q (F0 m (pc + 3) ls (.double r :: rest))) : W p l e R s m args below meth c H locs cells slots Q (F0 m pc ls st0) := by
  intro T hT X
  rcases hr T hT X with ⟨v, st₀, t, T', L, h0, X', hL, e1, e2, ⟨⟨r, u, hv, hp, hb⟩, hF⟩, st⟩ | ⟨q, st₀, t, T', L, E, ce, h0, X', hL, e1, e2, ⟨u, hp, hb, hF⟩, hce, hcv, hcl, st⟩
  · cases hv
    obtain ⟨k1, k2, k3⟩ := vx_keep h0 e1 hS hA hf hL hF
    obtain ⟨t2, a1, b1⟩ := kk r u t T'.heap (locs ++ L) e1.symm (by rw [← e2]; exact X'.warmed.alike) hp hb k1 k2 k3 T' rfl X'
    exact ⟨t2, st t2 a1, b1⟩
  · obtain ⟨k1, k2, k3⟩ := vx_keep h0 e1 hS hAX hf hL hF
    obtain ⟨t2, a1, b1⟩ := kx E ce q u t T'.heap (locs ++ L) e1.symm (by rw [← e2]; exact X'.warmed.alike) hp hb k1 k2 k3 (by rw [e1]; exact hce) hcv hcl T' rfl X'
    exact ⟨t2, st.trans a1, b1⟩
theorem vx_callv {S SX : Type} {post : S → Prop} {px : SX → Prop} {B : S → State → Prop} {BX : String → SX → State → Prop} {AX : Nat → Prop} (hr : vx_Run p l e R s m args below meth c H locs cells slots mc ms (F0 m pc ls st0) rest (va_Qv post B A1 a) (vx_X px BX AX) free) (hS : va_S A0 H0 H locs) (hA : ∀ q, q < H.size → A1 q → A0 q) (hf : ∀ q, free q → A0 q) (hAX : ∀ q, q < H.size → AX q → A0 q)
    (kx : ∀ (E : String) (ce : Cell) (q9 : Addr) (u : SX) (t : State) (H1 : Heap) (locs1 : List Loc), t.heap = H1 → s.vm.Alike t.vm → px u → BX E u t → H.size ≤ H1.size → (∀ q : Nat, q < H.size → ¬ AX q → H1[q]? = H[q]?) → va_S A0 H0 H1 locs1 → H1[q9]? = some ce → ce.vm = .none → s.vm.findClass E = some ce.cls → vx_W p l e R s m args below meth c H1 locs1 (cells + mc) (slots + ms) Q (F0 m pc ls rest) q9)
    (kk : ∀ (u : S) (t : State) (H1 : Heap) (locs1 : List Loc), t.heap = H1 → s.vm.Alike t.vm → post u → B u t → H.size ≤ H1.size → (∀ q : Nat, q < H.size → ¬ A1 q → H1[q]? = H[q]?) → va_S A0 H0 H1 locs1 → W p l e R s m args below meth c H1 locs1 (cells + mc) (slots + ms) Q (F0 m (pc + 3) ls (rest))) : W p l e R s m args below meth c H locs cells slots Q (F0 m pc ls st0) := by
  intro T hT X
  rcases hr T hT X with ⟨v, st₀, t, T', L, h0, X', hL, e1, e2, ⟨⟨u, hv, hp, hb⟩, hF⟩, st⟩ | ⟨q, st₀, t, T', L, E, ce, h0, X', hL, e1, e2, ⟨u, hp, hb, hF⟩, hce, hcv, hcl, st⟩
  · cases hv
    obtain ⟨k1, k2, k3⟩ := vx_keep h0 e1 hS hA hf hL hF
    obtain ⟨t2, a1, b1⟩ := kk u t T'.heap (locs ++ L) e1.symm (by rw [← e2]; exact X'.warmed.alike) hp hb k1 k2 k3 T' rfl X'
    exact ⟨t2, st t2 a1, b1⟩
  · obtain ⟨k1, k2, k3⟩ := vx_keep h0 e1 hS hAX hf hL hF
    obtain ⟨t2, a1, b1⟩ := kx E ce q u t T'.heap (locs ++ L) e1.symm (by rw [← e2]; exact X'.warmed.alike) hp hb k1 k2 k3 (by rw [e1]; exact hce) hcv hcl T' rfl X'
    exact ⟨t2, st.trans a1, b1⟩
/-- caught by the row x of this method's table; the rows ahead don't take it -/
theorem vx_catch {own name : String} {E : String} {ce : Cell} {q : Addr} (hown : s.vm.findClass own = some m.cls) (pre : List ExceptionTableEntry) (x : ExceptionTableEntry) (suf : List ExceptionTableEntry) (hsplit : c.exceptionTable.toList = pre ++ x :: suf)
    (hpass : ∀ z ∈ pre, covers z pc = false ∨ (z.catchType ≠ 0 ∧ ∃ nm : String, (Cond.classLink own z.catchType nm).before args s = true ∧ va_Nc E nm s)) (hx : covers x pc = true) (h0 : x.catchType ≠ 0)
    (hlink : (Cond.classLink own x.catchType name).before args s = true) (hcast : (Cond.castable E name).before args s = true) (hcell : H[q]? = some ce) (hv : ce.vm = .none) (hcl : s.vm.findClass E = some ce.cls)
    (kk : W p l e R s m args below meth c H locs cells slots Q (F0 m x.handlerPc ls [.ref q])) : vx_W p l e R s m args below meth c H locs cells slots Q (F0 m pc ls rest) q := by
  intro T hT X
  have hpl : e.platform.magicAccessors = ({} : Platform).magicAccessors := by rw [X.admits.platform]
  obtain ⟨c3, c4, hc3, hc4, hasg⟩ := Cond.castable_spec hcast
  cases Option.some.inj (hc3.symm.trans hcl)
  obtain ⟨c5, hc5, hcl5⟩ := Cond.classLink_spec hown hlink e.platform hpl
  cases Option.some.inj (hc4.symm.trans hc5)
  obtain ⟨vm', X', st⟩ := X.thenCaughtThrough q (g := F0 m pc ls rest) rfl (Steps.refl _) (by rw [hT]; exact hcell) (by rw [hv]; rfl) (by obtain ⟨k9, h9, -⟩ := Vm.findClass_spec hcl; exact ⟨k9, h9⟩) pre x suf hsplit
    (fun z hz => by
      rcases hpass z hz with h | ⟨hz0, nm, hl1, hn1⟩
      · exact Or.inl h
      · obtain ⟨c6, hc6, hcl6⟩ := Cond.classLink_spec hown hl1 e.platform hpl
        obtain ⟨a8, b8, h1, h2, h3⟩ := hn1
        cases Option.some.inj (h1.symm.trans hcl)
        cases Option.some.inj (h2.symm.trans hc6)
        exact Or.inr ⟨hz0, _, hcl6, h3⟩) hx (Or.inr ⟨h0, c4, hcl5, hasg⟩)
  obtain ⟨t, a1, b1⟩ := kk (T.setVm vm') hT X'
  exact ⟨t, st.trans a1, b1⟩
end Rows
section Ends
variable {p : Program} {l : Launch} {e : Env} {R : Room} {s : State} {m : MethodId} {args : Array Value} {below : List Frame} {meth : Method} {c : Code} {H : Heap} {locs : List Loc} {cells slots : Nat} {Q : State → Prop}
variable {mc ms : Nat} {free : Addr → Prop} {A0 A1 : Nat → Prop} {H0 : Heap} {a : Array Value} {ls : Array Slot} {st0 rest : List Value}
variable {Qc : Array Value → State → Outcome → State → Prop} {XC : String → State → State → Prop}
/-- what a body that may throw owes at its end -/
def vx_MQ (below : List Frame) (Qc : Array Value → State → Outcome → State → Prop) (XC : String → State → State → Prop) (a : Array Value) (s : State) (mc ms : Nat) (free : Addr → Prop) : State → Prop := fun t =>
  ∃ o, t.status = .running ∧ Ended t below o ∧ vx_Q Qc XC mc ms free a s o t
theorem vx_ret {g : JFrame} {mc ms : Nat} (k : W p l e R s m args below meth c H locs cells slots (MQ below Qc args s mc ms free) g) : W p l e R s m args below meth c H locs cells slots (vx_MQ below Qc XC args s mc ms free) g := by
  intro T hT X
  obtain ⟨t, a1, o, b1, b2, b3, b4⟩ := k T hT X
  exact ⟨t, a1, o, b1, b2, Or.inl ⟨b3, b4⟩⟩
/-- not caught here: it goes on to the caller -/
theorem vx_widen {g : JFrame} {q : Addr} {k n : Nat} (h1 : cells ≤ k) (h2 : slots ≤ n) (kk : vx_W p l e R s m args below meth c H locs k n Q g q) : vx_W p l e R s m args below meth c H locs cells slots Q g q := fun T hT X => kk T hT (stand_widen X h1 h2)
theorem vx_out {pc : Nat} {E : String} {ce : Cell} {q : Addr} {mc ms : Nat} (hout : ∀ x ∈ c.exceptionTable.toList, covers x pc = false) (hlocks : meth.locks = false) (hcell : H[q]? = some ce) (hv : ce.vm = .none) (hcl : s.vm.findClass E = some ce.cls)
    (hx : ∀ t : State, t.heap = H → s.vm.Alike t.vm → XC E s t) (hf : ∀ z ∈ locs, free z.base) (hc : cells ≤ mc) (hs : slots ≤ ms) :
    vx_W p l e R s m args below meth c H locs cells slots (vx_MQ below Qc XC args s mc ms free) (F0 m pc ls rest) q := by
  intro T hT X
  obtain ⟨st1, hrun, hend, hW, hsm⟩ := X.leaveThrown q (g := F0 m pc ls rest) rfl rfl rfl hout hlocks
  have hcell9 : (T.setFrames (.throwing q :: below)).heap[q]? = some ce := by
    show T.heap[q]? = some ce
    rw [hT]; exact hcell
  exact ⟨_, st1, .threw q, hrun, hend, Or.inr ⟨q, rfl, E, ce, locs, hx _ hT hW.alike, hcell9, hv, hcl, hW, hsm.mono hc hs, hf⟩⟩
theorem vx_frame {U : State} {k n : Nat} (h : s.sameButNew ({ U with vm := s.vm } : State) locs k n) : s.heap.size ≤ U.heap.size ∧ ∀ q : Nat, q < s.heap.size → (∀ z ∈ locs, z.base ≠ q) → U.heap[q]? = s.heap[q]? := by
  obtain ⟨-, h2, -, -, -, h6⟩ := h
  refine ⟨h2, fun q hq hz => ?_⟩
  obtain ⟨c9, e1, e2, e3, e4⟩ := h6 q _ (Array.getElem?_eq_getElem hq)
  have hs : c9.slots = (s.heap[q]).slots := Array.ext_getElem? fun i => e4 i fun hm => hz _ hm rfl
  have h9 : c9 = s.heap[q] := by
    rw [hs] at e2
    exact e2
  have e5 : U.heap[q]? = some c9 := e1
  rw [e5, h9, Array.getElem?_eq_getElem hq]
/-- the words of a throw but the four that speak of the heap -/
def vx_no (w : Cond) : Bool := decide (w ≠ .isRef (.static Bundle.tN "UNASSIGNED_STACK" Bundle.steD)) && decide (w ≠ .isRef (.static Bundle.tN "SUPPRESSED_SENTINEL" Bundle.listD)) && decide (w ≠ .laysStatic Bundle.tN "UNASSIGNED_STACK" Bundle.steD) && decide (w ≠ .laysStatic Bundle.tN "SUPPRESSED_SENTINEL" Bundle.listD)
def vx_at0 (own : String) (ic : Nat) (X : String) (names : List String) : List Cond := (Bundle.ownAtoms0 own ic X names).filter vx_no
def vx_atS (own : String) (ic : Nat) (X : String) (names : List String) : List Cond := (Bundle.ownAtoms own ic X names).filter vx_no
/-- a word that the tables alone decide, or a good one -/
def vx_ot (w : Cond) : Bool := w.onTables || goodWord w
theorem vx_ot_at {args a' : Array Value} {s U : State} {w : Cond} (hW : s.WarmedH U.vm) (hvm : s.vm = U.vm) (hg : vx_ot w = true) (h : w.before args s = true) : w.before a' U = true := by
  simp only [vx_ot, Bool.or_eq_true] at hg
  rcases hg with hg | hg
  · exact va_tabs hg hvm h
  · exact word_at hW (good_of_word hg) h
/-- a list's words: the good ones out of the method's own list, the others by premises of their own -/
theorem vx_hat {args : Array Value} {s : State} {L B : List Cond} (h1 : ∀ w ∈ L.filter goodWord, w.before args s = true) (h2 : ∀ w ∈ L.filter (fun w => !goodWord w), w ∈ B) (h3 : ∀ w ∈ B, w.before args s = true) : ∀ w ∈ L, w.before args s = true := by
  intro w hw
  by_cases g : goodWord w = true
  · exact h1 w (List.mem_filter.mpr ⟨hw, g⟩)
  · refine h3 w (h2 w (List.mem_filter.mpr ⟨hw, ?_⟩))
    show (!goodWord w) = true
    cases hgw : goodWord w
    · rfl
    · exact absurd hgw g
theorem vx_c {args : Array Value} {s : State} {w : Cond} {B : List Cond} (h : w.before args s = true) (t : ∀ w ∈ B, w.before args s = true) : ∀ w' ∈ w :: B, w'.before args s = true := fun w' h' => (List.mem_cons.mp h').elim (fun e => by rw [e]; exact h) (t w')
theorem vx_n {args : Array Value} {s : State} : ∀ w ∈ ([] : List Cond), w.before args s = true := fun _ h => nomatch h
theorem vx_own {args : Array Value} {s : State} {L : List Cond} (h1 : ∀ w ∈ L.filter vx_no, w.before args s = true)
    (hU : (Cond.isRef (.static Bundle.tN "UNASSIGNED_STACK" Bundle.steD)).before args s = true) (hN : (Cond.isRef (.static Bundle.tN "SUPPRESSED_SENTINEL" Bundle.listD)).before args s = true)
    (lU : (Cond.laysStatic Bundle.tN "UNASSIGNED_STACK" Bundle.steD).before args s = true) (lN : (Cond.laysStatic Bundle.tN "SUPPRESSED_SENTINEL" Bundle.listD).before args s = true) : ∀ w ∈ L, w.before args s = true := by
  intro w hw
  by_cases e1 : w = .isRef (.static Bundle.tN "UNASSIGNED_STACK" Bundle.steD)
  · rw [e1]; exact hU
  · by_cases e2 : w = .isRef (.static Bundle.tN "SUPPRESSED_SENTINEL" Bundle.listD)
    · rw [e2]; exact hN
    · by_cases e3 : w = .laysStatic Bundle.tN "UNASSIGNED_STACK" Bundle.steD
      · rw [e3]; exact lU
      · by_cases e4 : w = .laysStatic Bundle.tN "SUPPRESSED_SENTINEL" Bundle.listD
        · rw [e4]; exact lN
        · exact h1 w (List.mem_filter.mpr ⟨hw, by unfold vx_no; rw [decide_eq_true e1, decide_eq_true e2, decide_eq_true e3, decide_eq_true e4]; rfl⟩)
/-- where a static field lies, its class's statics cell in H -/
def vx_L (C n d : String) (A : Nat → Prop) (U : State) (H : Heap) : Prop := ∃ (c : ClassId) (k : Class) (i : Nat) (f : Field) (a : Nat) (cell : Cell), U.vm.findClass C = some c ∧ U.fieldFound? C n d = some (c, k, i, f) ∧ f.isStatic = true ∧ k.statics = some a ∧ H[a]? = some cell ∧ cell.vm.isStatics = true ∧ cell.cls = c ∧ f.slot < cell.slots.size ∧ k.staticTypes[f.slot]? = some f.type ∧ ¬ A a
theorem vx_L.moved {C n d : String} {A : Nat → Prop} {u U : State} {H : Heap} (hvm : u.vm.Alike U.vm) (h : vx_L C n d A u H) : vx_L C n d A U H := by
  obtain ⟨c, k, i, f, a, cell, h1, h2, h3, h4, h5, h6, h7, h8, h9, h10⟩ := h
  obtain ⟨k', hi', he⟩ := State.fieldFound?_setVm hvm h2
  exact ⟨c, k', i, f, a, cell, by rw [hvm.findClass]; exact h1, hi', h3, by rw [he]; exact h4, h5, h6, h7, h8, by rw [he]; exact h9, h10⟩
theorem vx_L.kept {C n d : String} {A : Nat → Prop} {U : State} {H H1 : Heap} (h : vx_L C n d A U H) (hq : ∀ a : Nat, a < H.size → ¬ A a → H1[a]? = H[a]?) : vx_L C n d A U H1 := by
  obtain ⟨c, k, i, f, a, cell, h1, h2, h3, h4, h5, h6, h7, h8, h9, h10⟩ := h
  exact ⟨c, k, i, f, a, cell, h1, h2, h3, h4, by rw [hq a (Array.getElem?_eq_some_iff.mp h5).1 h10]; exact h5, h6, h7, h8, h9, h10⟩
theorem vx_L.narrow {C n d : String} {A B : Nat → Prop} {U : State} {H : Heap} (h : vx_L C n d A U H) (hAB : ∀ q, B q → A q) : vx_L C n d B U H := by
  obtain ⟨c, k, i, f, a, cell, h1, h2, h3, h4, h5, h6, h7, h8, h9, h10⟩ := h
  exact ⟨c, k, i, f, a, cell, h1, h2, h3, h4, h5, h6, h7, h8, h9, fun z => h10 (hAB _ z)⟩
theorem vx_L.word {C n d : String} {A : Nat → Prop} {s : State} {args : Array Value} (h : vx_L C n d A s s.heap) : (Cond.laysStatic C n d).before args s = true := by
  obtain ⟨c, k, i, f, a, cell, h1, h2, h3, h4, h5, h6, h7, h8, h9, -⟩ := h
  show (Cond.laysStatic C n d).holds args s none s [] = true
  exact Cond.laysStatic_of h1 h2 h3 h4 h5 h6 h7 h8 h9
/-- .. and what it holds: null or some reference -/
def vx_Zq (C n d : String) (A : Nat → Prop) (U : State) (H : Heap) : Prop := va_Zq C n d A U H ∧ vx_L C n d A U H
theorem vx_Zq.moved {C n d : String} {A : Nat → Prop} {u U : State} {H : Heap} (hvm : u.vm.Alike U.vm) (h : vx_Zq C n d A u H) : vx_Zq C n d A U H := ⟨va_Zq.moved hvm h.1, vx_L.moved hvm h.2⟩
theorem vx_Zq.kept {C n d : String} {A : Nat → Prop} {U : State} {H H1 : Heap} (h : vx_Zq C n d A U H) (hq : ∀ a : Nat, a < H.size → ¬ A a → H1[a]? = H[a]?) : vx_Zq C n d A U H1 := ⟨va_Zq.kept h.1 hq, vx_L.kept h.2 hq⟩
theorem vx_Zq.narrow {C n d : String} {A B : Nat → Prop} {U : State} {H : Heap} (h : vx_Zq C n d A U H) (hAB : ∀ q, B q → A q) : vx_Zq C n d B U H := ⟨va_Zq.narrow h.1 hAB, vx_L.narrow h.2 hAB⟩
theorem vx_Zqof {args : Array Value} {s : State} {C n d : String} {A : Nat → Prop} (hl : (Cond.laysStatic C n d).before args s = true) (hini : (Cond.initialized C).before args s = true) (h : (Cond.isRef (.static C n d)).before args s = true) (hA : ∀ a : Nat, a < s.heap.size → ¬ A a) : vx_Zq C n d A s s.heap := by
  refine ⟨va_Zqof hl hini h hA, ?_⟩
  obtain ⟨c, k, i, f, a, cell, h1, h2, h3, h4, h5, h6, h7, h8, h9⟩ := Cond.laysStatic_spec hl
  exact ⟨c, k, i, f, a, cell, h1, h2, h3, h4, h5, h6, h7, h8, h9, hA a (Array.getElem?_eq_some_iff.mp h5).1⟩
theorem vx_isRef {C n d : String} {v : Value} {A : Nat → Prop} {s : State} {args : Array Value} (h : va_Z C n d v A s s.heap) (hv : v.isRef = true) : (Cond.isRef (.static C n d)).before args s = true := by
  obtain ⟨cf, kf, fi, f, a, cell, h1, h2, h3, h4, h5, h6, h7, -⟩ := h
  have he : (Term.static C n d).eval args s none [] s = some v := by
    simp [Term.eval, State.fieldNamed?, h1, h2, h4, h5, h6, h7]
  simp only [Cond.before, Cond.holds, Cond.value, he]
  cases v <;> simp_all [Value.isRef]
theorem vx_isRefq {C n d : String} {A : Nat → Prop} {s : State} {args : Array Value} (h : va_Zq C n d A s s.heap) : (Cond.isRef (.static C n d)).before args s = true := by
  rcases h with h | ⟨t, h⟩
  · exact vx_isRef h rfl
  · exact vx_isRef h rfl
/-- the same frame, seen from here: as if the method were called anew in this heap -/
theorem vx_rebase {T : State} (X : Stand p l e R s m args below meth c T locs cells slots) {R' : Room} (hf : R'.frames ≤ R.frames) (hl : R'.locals ≤ R.locals) (hc : cells + R'.cells ≤ R.cells) (hs : slots + R'.slots ≤ R.slots) :
    Stand p l e R' ((T.setVm s.vm).setFrames (.invoking m args :: below)) m args below meth c T [] 0 0 := by
  have htop : (T.setVm s.vm).topJava?.isSome := X.here.top
  have hF : ((T.setVm s.vm).setFrames (.invoking m args :: below)).frames = .invoking m args :: below := State.frames_setFrames _ (State.cur_lt_of_top htop)
  obtain ⟨g₀, hg0⟩ := Option.isSome_iff_exists.mp htop
  obtain ⟨r, hr⟩ := State.topJava?_eq_some.mp hg0
  have hl9 : e.platform.stackLimits (T.setVm s.vm).me = e.platform.stackLimits s.me := X.limits
  have hb9 : (T.setVm s.vm).me.stackBytes = s.me.stackBytes := X.bytes
  refine ⟨X.admits, X.cas, X.clock, hF, ?_, X.hears, X.method, X.code, X.here, X.tail, X.warmed, ?_, ?_, ?_⟩
  · have h := X.room
    have hU : ((T.setVm s.vm).setFrames (.invoking m args :: below)).localsInUse = s.localsInUse := by
      rw [State.localsInUse_invoking hF (meth := meth) (c := c) X.method X.code, State.localsInUse_invoking X.frames X.method X.code]
    simp only [State.hasRoom, Bool.and_eq_true, decide_eq_true_eq] at h ⊢
    obtain ⟨⟨⟨⟨h1, h2, h3, h4, h5, h6⟩, h7⟩, h8⟩, h9⟩ := h
    rw [X.frames, List.length_cons] at h2 h3
    have q1 := X.heapSize
    have q2 := X.used
    simp only [hF, hU, List.length_cons, State.stackLimits_setFrames, State.stackBytes_setFrames, hl9, hb9]
    refine ⟨⟨⟨⟨by omega, by omega, by omega, by omega, by omega, h6⟩, ?_⟩, ?_⟩, X.book⟩
    · show T.heap.size + R'.cells ≤ e.platform.maxCells
      omega
    · show T.slotsUsed + R'.slots ≤ e.platform.maxSlots
      omega
  · rw [State.stackLimits_setFrames]; rfl
  · rw [State.stackBytes_setFrames]; rfl
  · refine ⟨?_, Nat.le_refl _, Nat.le_refl _, ?_, ?_, fun a c9 h9 => ⟨c9, h9, rfl, rfl, fun _ _ => rfl⟩⟩
    · obtain ⟨t, ht, -⟩ := State.frames_cons hr
      show T.setVm s.vm = { ((T.setVm s.vm).setFrames (.invoking m args :: below)).setFrames (T.setVm s.vm).frames with heap := T.heap, slotsUsed := T.slotsUsed }
      rw [State.setFrames_setFrames, State.setFrames_self ht]
      rfl
    · show T.slotsUsed = T.slotsUsed + ((T.heap.toList.drop T.heap.size).map (·.slots.size)).sum
      rw [List.drop_eq_nil_of_le (Nat.le_of_eq Array.length_toList)]
      rfl
    · show ((T.heap.toList.drop T.heap.size).map (·.slots.size)).sum ≤ 0
      rw [List.drop_eq_nil_of_le (Nat.le_of_eq Array.length_toList)]
      exact Nat.le_refl _
/-- 'throw new E()': new; dup; invokespecial; athrow -/
theorem vx_throw0 {cc : ByteArray} {pc : Nat} (hexec : p.tables.exec = Jvm.exec) (hb : c.code = cc) (hl : l.stackTraces = false) {own cls : String} {names : List String} {ik ic mc ms : Nat} {A : Nat → Prop}
    (hown : s.vm.findClass own = some m.cls) (hcls : Bundle.fit cls = true) (hnames : ∀ n ∈ names, Bundle.fit n = true)
    (hk : (Cond.classLink own ik cls).before args s = true) (hini : (Cond.initialized cls).before args s = true) (hat : ∀ w ∈ vx_at0 own ic cls names, w.before args s = true)
    (hgood : ∀ w ∈ Cond.classLink own ik cls :: Cond.initialized cls :: vx_at0 own ic cls names, vx_ot w = true)
    (hU : vx_Zq Bundle.tN "UNASSIGNED_STACK" Bundle.steD A s s.heap) (hN : vx_Zq Bundle.tN "SUPPRESSED_SENTINEL" Bundle.listD A s s.heap) (hS : va_S A s.heap H locs) (hsize : ls.size = c.maxLocals)
    (d0 : decode cc pc = .ok (.new ik, 3)) (d3 : decode cc (pc + 3) = .ok (.dup, 1)) (d4 : decode cc (pc + 4) = .ok (.invokespecial ic, 3)) (d7 : decode cc (pc + 7) = .ok (.athrow, 1))
    (hout : ∀ x ∈ c.exceptionTable.toList, covers x (pc + 7) = false)
    (hRframes : names.length + 3 < R.frames) (hRlocals : (rest.map fun v => v.category).sum + (13 * (names.length + 1) + 42) ≤ R.locals) (hRcells : cells + 1 ≤ R.cells) (hRslots : slots + 6 ≤ R.slots) (hlocks : meth.locks = false)
    (hx : ∀ t : State, s.vm.Alike t.vm → H.size ≤ t.heap.size → (∀ q : Nat, q < H.size → t.heap[q]? = H[q]?) → XC cls s t)
    (hf : ∀ z ∈ locs, free z.base) (hc : cells + 1 ≤ mc) (hs : slots + 6 ≤ ms) :
    W p l e R s m args below meth c H locs cells slots (vx_MQ below Qc XC args s mc ms free) (F0 m pc ls rest) := by
  intro T hT X
  have htr : e.platform.stackTraces = false := (show e.platform.stackTraces = l.stackTraces by rw [X.admits.platform]).trans hl
  have Y := vx_rebase X (R' := { frames := R.frames, locals := R.locals, cells := 1, slots := 6 }) (Nat.le_refl _) (Nat.le_refl _) hRcells hRslots
  obtain ⟨s', hA⟩ : ∃ z, z = (T.setVm s.vm).setFrames (.invoking m args :: below) := ⟨_, rfl⟩
  rw [← hA] at Y
  have hvm : s'.vm = s.vm := by rw [hA]; rfl
  have hhp : s'.heap = H := by rw [hA]; exact hT
  have hW0 : s.WarmedH s'.vm := by rw [hvm]; exact State.WarmedH.refl s
  have hat' : ∀ w ∈ vx_at0 own ic cls names, w.before args s' = true := fun w hw => vx_ot_at hW0 hvm.symm (hgood w (List.mem_cons_of_mem _ (List.mem_cons_of_mem _ hw))) (hat w hw)
  have hk' : (Cond.classLink own ik cls).before args s' = true := vx_ot_at hW0 hvm.symm (hgood _ List.mem_cons_self) hk
  have hini' : (Cond.initialized cls).before args s' = true := vx_ot_at hW0 hvm.symm (hgood _ (List.mem_cons_of_mem _ List.mem_cons_self)) hini
  have hU' : vx_Zq Bundle.tN "UNASSIGNED_STACK" Bundle.steD A s' s'.heap := by rw [hhp]; exact vx_Zq.moved hW0.alike (hU.kept hS.2.1)
  have hN' : vx_Zq Bundle.tN "SUPPRESSED_SENTINEL" Bundle.listD A s' s'.heap := by rw [hhp]; exact vx_Zq.moved hW0.alike (hN.kept hS.2.1)
  have h : ∀ w ∈ Bundle.ownAtoms0 own ic cls names, w.before args s' = true := vx_own hat' (vx_isRefq hU'.1) (vx_isRefq hN'.1) hU'.2.word hN'.2.word
  have hown' : s'.vm.findClass own = some m.cls := by rw [hvm]; exact hown
  have hins : (Cond.instantiable cls 6).before args s' = true := h _ (by simp [Bundle.ownAtoms0])
  obtain ⟨vm₁, cX, kX, hfX, hkX, -, -, X₁, st1⟩ := Y.newCold hexec (own := own) (C := cls) (index := ik) (n := 6) hown' hk' hins hini'
    (g := F0 m pc ls rest) rfl (by rw [hb]; exact d0) (Nat.le_refl _) (Nat.le_refl _)
  generalize hT1 : (T.setVm vm₁).pushCell { cls := cX, slots := kX.instanceTypes.map defaultValue, vm := .none } = T1 at X₁ st1
  have hcat : (Value.ref T.heap.size).category = 1 := rfl
  have hcellA : T1.heap[T.heap.size]? = some (freshCell cX kX) := by rw [← hT1]; exact State.heap_pushCell_size _ _
  have d3' : decode c.code (pc + 3) = .ok (.dup, 1) := by rw [hb]; exact d3
  obtain ⟨U, hsteps, hrun, hend, hW, hsame, ce, hce, hO⟩ := X₁.ctorThrow0 hexec htr (own := own) (cls := cls) (names := names) (ic := ic) hown' hcls hnames h (fun x hx => nomatch hx) hfX hkX hcellA (by rw [hhp, hT]; exact Nat.le_refl _)
    (g := { method := m, pc := pc + 4, locals := ls, stack := .ref T.heap.size :: .ref T.heap.size :: rest, locked := none }) rfl hsize rfl rfl (rest := rest) rfl
    (by rw [hb]; exact d4) (by rw [hb]; exact d7) hout hRframes (by simp only [List.map_cons, List.sum_cons, hcat]; omega) hlocks
  obtain ⟨f1, f2⟩ := vx_frame hsame
  rw [hhp] at f1 f2
  have hWs : s.WarmedH U.vm := State.WarmedH.trans hW0 hW
  have hcl : s.vm.findClass cls = some ce.cls := by
    have h9 := hO.cls
    rw [hvm] at h9
    exact h9
  have hall : s.sameButNew ({ U with vm := s.vm } : State) locs mc ms := by
    subst hA
    obtain ⟨e1, e2⟩ := hsame
    rw [State.setFrames_setFrames] at e1
    have h2 : (T.setVm s.vm).sameButNew ({ U with vm := s.vm } : State) [] (0 + 1) (0 + 6) := ⟨e1, e2⟩
    have h3 := X.same.trans h2
    rw [List.append_nil] at h3
    exact h3.mono hc hs
  refine ⟨U, ?_, .threw T.heap.size, hrun, hend, Or.inr ⟨T.heap.size, rfl, cls, ce, locs, hx U hWs.alike f1 (fun q hq => f2 q hq (fun z hz => nomatch hz)), hce, hO.vm, hcl, hWs, hall, hf⟩⟩
  refine st1 _ ?_
  show Steps p.tables e below (T1.setTop { method := m, pc := pc + 3, locals := ls, stack := .ref T.heap.size :: rest, locked := none }) _
  jvm_step X₁.here [X₁.here.top, hexec, d3', Value.category]
  exact hsteps
/-- 'throw new E("text")': new; dup; ldc; invokespecial; athrow -/
theorem vx_throwS {cc : ByteArray} {pc : Nat} (hexec : p.tables.exec = Jvm.exec) (hb : c.code = cc) (hl : l.stackTraces = false) {own cls text : String} {names : List String} {ik is ic mc ms sa : Nat} {A : Nat → Prop}
    (hown : s.vm.findClass own = some m.cls) (hcls : Bundle.fit cls = true) (hnames : ∀ n ∈ names, Bundle.fit n = true)
    (hk : (Cond.classLink own ik cls).before args s = true) (hini : (Cond.initialized cls).before args s = true) (hstr : vk_R own is text sa s) (hat : ∀ w ∈ vx_atS own ic cls names, w.before args s = true)
    (hgood : ∀ w ∈ Cond.classLink own ik cls :: Cond.initialized cls :: vx_atS own ic cls names, vx_ot w = true)
    (hU : vx_Zq Bundle.tN "UNASSIGNED_STACK" Bundle.steD A s s.heap) (hN : vx_Zq Bundle.tN "SUPPRESSED_SENTINEL" Bundle.listD A s s.heap) (hS : va_S A s.heap H locs) (hsize : ls.size = c.maxLocals)
    (d0 : decode cc pc = .ok (.new ik, 3)) (d3 : decode cc (pc + 3) = .ok (.dup, 1)) (d4 : decode cc (pc + 4) = .ok (.ldc is, 2)) (d6 : decode cc (pc + 6) = .ok (.invokespecial ic, 3)) (d9 : decode cc (pc + 9) = .ok (.athrow, 1))
    (hout : ∀ x ∈ c.exceptionTable.toList, covers x (pc + 9) = false)
    (hRframes : names.length + 3 < R.frames) (hRlocals : (rest.map fun v => v.category).sum + (13 * (names.length + 1) + 43) ≤ R.locals) (hRcells : cells + 1 ≤ R.cells) (hRslots : slots + 6 ≤ R.slots) (hlocks : meth.locks = false)
    (hx : ∀ t : State, s.vm.Alike t.vm → H.size ≤ t.heap.size → (∀ q : Nat, q < H.size → t.heap[q]? = H[q]?) → XC cls s t)
    (hf : ∀ z ∈ locs, free z.base) (hc : cells + 1 ≤ mc) (hs : slots + 6 ≤ ms) :
    W p l e R s m args below meth c H locs cells slots (vx_MQ below Qc XC args s mc ms free) (F0 m pc ls rest) := by
  intro T hT X
  have htr : e.platform.stackTraces = false := (show e.platform.stackTraces = l.stackTraces by rw [X.admits.platform]).trans hl
  have Y := vx_rebase X (R' := { frames := R.frames, locals := R.locals, cells := 1, slots := 6 }) (Nat.le_refl _) (Nat.le_refl _) hRcells hRslots
  obtain ⟨s', hA⟩ : ∃ z, z = (T.setVm s.vm).setFrames (.invoking m args :: below) := ⟨_, rfl⟩
  rw [← hA] at Y
  have hvm : s'.vm = s.vm := by rw [hA]; rfl
  have hhp : s'.heap = H := by rw [hA]; exact hT
  have hW0 : s.WarmedH s'.vm := by rw [hvm]; exact State.WarmedH.refl s
  have hat' : ∀ w ∈ vx_atS own ic cls names, w.before args s' = true := fun w hw => vx_ot_at hW0 hvm.symm (hgood w (List.mem_cons_of_mem _ (List.mem_cons_of_mem _ hw))) (hat w hw)
  have hk' : (Cond.classLink own ik cls).before args s' = true := vx_ot_at hW0 hvm.symm (hgood _ List.mem_cons_self) hk
  have hini' : (Cond.initialized cls).before args s' = true := vx_ot_at hW0 hvm.symm (hgood _ (List.mem_cons_of_mem _ List.mem_cons_self)) hini
  have hU' : vx_Zq Bundle.tN "UNASSIGNED_STACK" Bundle.steD A s' s'.heap := by rw [hhp]; exact vx_Zq.moved hW0.alike (hU.kept hS.2.1)
  have hN' : vx_Zq Bundle.tN "SUPPRESSED_SENTINEL" Bundle.listD A s' s'.heap := by rw [hhp]; exact vx_Zq.moved hW0.alike (hN.kept hS.2.1)
  have h : ∀ w ∈ Bundle.ownAtoms own ic cls names, w.before args s' = true := vx_own hat' (vx_isRefq hU'.1) (vx_isRefq hN'.1) hU'.2.word hN'.2.word
  have hown' : s'.vm.findClass own = some m.cls := by rw [hvm]; exact hown
  have hins : (Cond.instantiable cls 6).before args s' = true := h _ (by simp [Bundle.ownAtoms])
  obtain ⟨vm₁, cX, kX, hfX, hkX, -, -, X₁, st1⟩ := Y.newCold hexec (own := own) (C := cls) (index := ik) (n := 6) hown' hk' hins hini'
    (g := F0 m pc ls rest) rfl (by rw [hb]; exact d0) (Nat.le_refl _) (Nat.le_refl _)
  generalize hT1 : (T.setVm vm₁).pushCell { cls := cX, slots := kX.instanceTypes.map defaultValue, vm := .none } = T1 at X₁ st1
  have hcat : (Value.ref T.heap.size).category = 1 := rfl
  have hcellA : T1.heap[T.heap.size]? = some (freshCell cX kX) := by rw [← hT1]; exact State.heap_pushCell_size _ _
  have d3' : decode c.code (pc + 3) = .ok (.dup, 1) := by rw [hb]; exact d3
  have d4' : decode c.code (pc + 4) = .ok (.ldc is, 2) := by rw [hb]; exact d4
  have hstr' : vk_R own is text sa s' := vk_R.warm hW0 hstr
  obtain ⟨U, hsteps, hrun, hend, hW, hsame, ce, hce, hO⟩ := X₁.ctorThrowS hexec htr (own := own) (cls := cls) (names := names) (ic := ic) hown' hcls hnames h (fun x hx => nomatch hx) hfX hkX hcellA (by rw [hhp, hT]; exact Nat.le_refl _) (msg := .ref sa) rfl
    (g := { method := m, pc := pc + 6, locals := ls, stack := .ref sa :: .ref T.heap.size :: .ref T.heap.size :: rest, locked := none }) rfl hsize rfl rfl (rest := rest) rfl
    (by rw [hb]; exact d6) (by rw [hb]; exact d9) hout hRframes (by simp only [List.map_cons, List.sum_cons, hcat]; omega) hlocks
  obtain ⟨f1, f2⟩ := vx_frame hsame
  rw [hhp] at f1 f2
  have hWs : s.WarmedH U.vm := State.WarmedH.trans hW0 hW
  have hcl : s.vm.findClass cls = some ce.cls := by
    have h9 := hO.cls
    rw [hvm] at h9
    exact h9
  have hall : s.sameButNew ({ U with vm := s.vm } : State) locs mc ms := by
    subst hA
    obtain ⟨e1, e2⟩ := hsame
    rw [State.setFrames_setFrames] at e1
    have h2 : (T.setVm s.vm).sameButNew ({ U with vm := s.vm } : State) [] (0 + 1) (0 + 6) := ⟨e1, e2⟩
    have h3 := X.same.trans h2
    rw [List.append_nil] at h3
    exact h3.mono hc hs
  refine ⟨U, ?_, .threw T.heap.size, hrun, hend, Or.inr ⟨T.heap.size, rfl, cls, ce, locs, hx U hWs.alike f1 (fun q hq => f2 q hq (fun z hz => nomatch hz)), hce, hO.vm, hcl, hWs, hall, hf⟩⟩
  refine st1 _ ?_
  show Steps p.tables e below (T1.setTop { method := m, pc := pc + 3, locals := ls, stack := .ref T.heap.size :: rest, locked := none }) _
  jvm_step X₁.here [X₁.here.top, hexec, d3', Value.category]
  exact X₁.ldcString hexec (own := own) (text := text) (index := is) (a := sa) hown' hstr'.1 hstr'.2
    (g := { method := m, pc := pc + 4, locals := ls, stack := .ref T.heap.size :: .ref T.heap.size :: rest, locked := none }) rfl d4' _ hsteps
/-- 'throw new E("text")', the text by a wide index -/
theorem vx_throwSW {cc : ByteArray} {pc : Nat} (hexec : p.tables.exec = Jvm.exec) (hb : c.code = cc) (hl : l.stackTraces = false) {own cls text : String} {names : List String} {ik is ic mc ms sa : Nat} {A : Nat → Prop}
    (hown : s.vm.findClass own = some m.cls) (hcls : Bundle.fit cls = true) (hnames : ∀ n ∈ names, Bundle.fit n = true)
    (hk : (Cond.classLink own ik cls).before args s = true) (hini : (Cond.initialized cls).before args s = true) (hstr : vk_R own is text sa s) (hat : ∀ w ∈ vx_atS own ic cls names, w.before args s = true)
    (hgood : ∀ w ∈ Cond.classLink own ik cls :: Cond.initialized cls :: vx_atS own ic cls names, vx_ot w = true)
    (hU : vx_Zq Bundle.tN "UNASSIGNED_STACK" Bundle.steD A s s.heap) (hN : vx_Zq Bundle.tN "SUPPRESSED_SENTINEL" Bundle.listD A s s.heap) (hS : va_S A s.heap H locs) (hsize : ls.size = c.maxLocals)
    (d0 : decode cc pc = .ok (.new ik, 3)) (d3 : decode cc (pc + 3) = .ok (.dup, 1)) (d4 : decode cc (pc + 4) = .ok (.ldc_w is, 3)) (d7 : decode cc (pc + 7) = .ok (.invokespecial ic, 3)) (d10 : decode cc (pc + 10) = .ok (.athrow, 1))
    (hout : ∀ x ∈ c.exceptionTable.toList, covers x (pc + 10) = false)
    (hRframes : names.length + 3 < R.frames) (hRlocals : (rest.map fun v => v.category).sum + (13 * (names.length + 1) + 43) ≤ R.locals) (hRcells : cells + 1 ≤ R.cells) (hRslots : slots + 6 ≤ R.slots) (hlocks : meth.locks = false)
    (hx : ∀ t : State, s.vm.Alike t.vm → H.size ≤ t.heap.size → (∀ q : Nat, q < H.size → t.heap[q]? = H[q]?) → XC cls s t)
    (hf : ∀ z ∈ locs, free z.base) (hc : cells + 1 ≤ mc) (hs : slots + 6 ≤ ms) :
    W p l e R s m args below meth c H locs cells slots (vx_MQ below Qc XC args s mc ms free) (F0 m pc ls rest) := by
  intro T hT X
  have htr : e.platform.stackTraces = false := (show e.platform.stackTraces = l.stackTraces by rw [X.admits.platform]).trans hl
  have Y := vx_rebase X (R' := { frames := R.frames, locals := R.locals, cells := 1, slots := 6 }) (Nat.le_refl _) (Nat.le_refl _) hRcells hRslots
  obtain ⟨s', hA⟩ : ∃ z, z = (T.setVm s.vm).setFrames (.invoking m args :: below) := ⟨_, rfl⟩
  rw [← hA] at Y
  have hvm : s'.vm = s.vm := by rw [hA]; rfl
  have hhp : s'.heap = H := by rw [hA]; exact hT
  have hW0 : s.WarmedH s'.vm := by rw [hvm]; exact State.WarmedH.refl s
  have hat' : ∀ w ∈ vx_atS own ic cls names, w.before args s' = true := fun w hw => vx_ot_at hW0 hvm.symm (hgood w (List.mem_cons_of_mem _ (List.mem_cons_of_mem _ hw))) (hat w hw)
  have hk' : (Cond.classLink own ik cls).before args s' = true := vx_ot_at hW0 hvm.symm (hgood _ List.mem_cons_self) hk
  have hini' : (Cond.initialized cls).before args s' = true := vx_ot_at hW0 hvm.symm (hgood _ (List.mem_cons_of_mem _ List.mem_cons_self)) hini
  have hU' : vx_Zq Bundle.tN "UNASSIGNED_STACK" Bundle.steD A s' s'.heap := by rw [hhp]; exact vx_Zq.moved hW0.alike (hU.kept hS.2.1)
  have hN' : vx_Zq Bundle.tN "SUPPRESSED_SENTINEL" Bundle.listD A s' s'.heap := by rw [hhp]; exact vx_Zq.moved hW0.alike (hN.kept hS.2.1)
  have h : ∀ w ∈ Bundle.ownAtoms own ic cls names, w.before args s' = true := vx_own hat' (vx_isRefq hU'.1) (vx_isRefq hN'.1) hU'.2.word hN'.2.word
  have hown' : s'.vm.findClass own = some m.cls := by rw [hvm]; exact hown
  have hins : (Cond.instantiable cls 6).before args s' = true := h _ (by simp [Bundle.ownAtoms])
  obtain ⟨vm₁, cX, kX, hfX, hkX, -, -, X₁, st1⟩ := Y.newCold hexec (own := own) (C := cls) (index := ik) (n := 6) hown' hk' hins hini'
    (g := F0 m pc ls rest) rfl (by rw [hb]; exact d0) (Nat.le_refl _) (Nat.le_refl _)
  generalize hT1 : (T.setVm vm₁).pushCell { cls := cX, slots := kX.instanceTypes.map defaultValue, vm := .none } = T1 at X₁ st1
  have hcat : (Value.ref T.heap.size).category = 1 := rfl
  have hcellA : T1.heap[T.heap.size]? = some (freshCell cX kX) := by rw [← hT1]; exact State.heap_pushCell_size _ _
  have d3' : decode c.code (pc + 3) = .ok (.dup, 1) := by rw [hb]; exact d3
  have d4' : decode c.code (pc + 4) = .ok (.ldc_w is, 3) := by rw [hb]; exact d4
  have hstr' : vk_R own is text sa s' := vk_R.warm hW0 hstr
  obtain ⟨U, hsteps, hrun, hend, hW, hsame, ce, hce, hO⟩ := X₁.ctorThrowS hexec htr (own := own) (cls := cls) (names := names) (ic := ic) hown' hcls hnames h (fun x hx => nomatch hx) hfX hkX hcellA (by rw [hhp, hT]; exact Nat.le_refl _) (msg := .ref sa) rfl
    (g := { method := m, pc := pc + 7, locals := ls, stack := .ref sa :: .ref T.heap.size :: .ref T.heap.size :: rest, locked := none }) rfl hsize rfl rfl (rest := rest) rfl
    (by rw [hb]; exact d7) (by rw [hb]; exact d10) hout hRframes (by simp only [List.map_cons, List.sum_cons, hcat]; omega) hlocks
  obtain ⟨f1, f2⟩ := vx_frame hsame
  rw [hhp] at f1 f2
  have hWs : s.WarmedH U.vm := State.WarmedH.trans hW0 hW
  have hcl : s.vm.findClass cls = some ce.cls := by
    have h9 := hO.cls
    rw [hvm] at h9
    exact h9
  have hall : s.sameButNew ({ U with vm := s.vm } : State) locs mc ms := by
    subst hA
    obtain ⟨e1, e2⟩ := hsame
    rw [State.setFrames_setFrames] at e1
    have h2 : (T.setVm s.vm).sameButNew ({ U with vm := s.vm } : State) [] (0 + 1) (0 + 6) := ⟨e1, e2⟩
    have h3 := X.same.trans h2
    rw [List.append_nil] at h3
    exact h3.mono hc hs
  refine ⟨U, ?_, .threw T.heap.size, hrun, hend, Or.inr ⟨T.heap.size, rfl, cls, ce, locs, hx U hWs.alike f1 (fun q hq => f2 q hq (fun z hz => nomatch hz)), hce, hO.vm, hcl, hWs, hall, hf⟩⟩
  refine st1 _ ?_
  show Steps p.tables e below (T1.setTop { method := m, pc := pc + 3, locals := ls, stack := .ref T.heap.size :: rest, locked := none }) _
  jvm_step X₁.here [X₁.here.top, hexec, d3', Value.category]
  exact X₁.ldcStringW hexec (own := own) (text := text) (index := is) (a := sa) hown' hstr'.1 hstr'.2
    (g := { method := m, pc := pc + 4, locals := ls, stack := .ref T.heap.size :: .ref T.heap.size :: rest, locked := none }) rfl d4' _ hsteps
end Ends
section Bodies
variable {l : Launch}
theorem vx_ofW {y : MethodName} {ws ws' : List Cond} {rm : Room} {Pc : Array Value → State → Prop} {Qc : Array Value → State → Outcome → State → Prop} {XC : String → State → State → Prop} {mc ms : Nat} {free : Addr → Prop} {cc : ByteArray} {maxL : Nat} {ret : Option FieldType}
    (hy : plainName y.cls = true) (hw : ws = Cond.code y cc maxL ret :: ws')
    (body : ∀ p e s m args below meth c s₁, BodyLoose p l y (headSpec ws rm) cc maxL ret e s m args below meth c s₁ → c.maxLocals = maxL → (∀ x ∈ c.exceptionTable.toList, False) → Pc args s →
      W p l e (headSpec ws rm).room s m args below meth c s.heap [] 0 0 (vx_MQ below Qc XC args s mc ms free) (entryFrame m args maxL)) : vx_Met l y ws rm Pc Qc XC mc ms free := by
  refine MetFree.of_bodyS (code := cc) (maxLocals := maxL) (ret := ret) hy ?_ ?_
  · intro args s m h hn
    obtain ⟨meth, c, h1, h2, h3, h4, h5, h6, -, -⟩ := Cond.code_spec hn (atoms_spec (ws := ws) h _ (by rw [hw]; exact List.mem_cons_self))
    exact ⟨meth, c, h1, h2, h3, h4, h5, h6⟩
  · intro p e s m args below meth c s₁ B hml hP _
    have hh0 : s₁.heap = s.heap := by rw [B.state]; rfl
    have ht : ∀ x ∈ c.exceptionTable.toList, False := by
      obtain ⟨meth9, c9, h1, h2, -, -, -, -, h7, -⟩ := Cond.code_spec B.named (atoms_spec (ws := ws) B.pre _ (by rw [hw]; exact List.mem_cons_self))
      cases Option.some.inj (h1.symm.trans B.method)
      cases Option.some.inj (h2.symm.trans (Stand.of_body B).code)
      intro x hx
      rw [Array.isEmpty_iff.mp h7] at hx
      cases hx
    obtain ⟨t, a1, o, b1, b2, b3⟩ := body p e s m args below meth c s₁ B hml ht hP s₁ hh0 (Stand.of_body B)
    exact ⟨t, o, a1, b1, b2, b3⟩
/-- the table of a body with handlers -/
theorem vx_table {p : Program} {x y : MethodName} {S : Spec} {cc bytes : ByteArray} {maxL maxL' : Nat} {ret ret' : Option FieldType} {e : Env} {s s₁ : State} {m : MethodId} {args : Array Value} {below : List Frame} {meth : Method} {c : Code} {hh : List (Nat × Nat × Nat × Nat)}
    (B : BodyLoose p l y S cc maxL ret e s m args below meth c s₁) (h : (Cond.codeWith y bytes maxL' ret' hh).before args s = true) : c.exceptionTable.toList = tableOf hh := by
  obtain ⟨m9, meth9, c9, hn9, h1, h2, -, -, h6, -⟩ := Cond.codeWith_spec h
  cases Option.some.inj (hn9.symm.trans B.named)
  cases Option.some.inj (h1.symm.trans B.method)
  cases Option.some.inj (h2.symm.trans (Stand.of_body B).code)
  rw [← h6, table_eq]
end Bodies
end VXA
/-! ===== END ===== -/
/-! ===== BEGIN a static call of a method with an exception table ===== -/
section VXS
variable {p : Program} {l : Launch} {e : Env} {R : Room} {s : State} {m : MethodId} {args : Array Value} {below : List Frame} {meth : Method} {c : Code} {T : State} {H : Heap} {locs : List Loc} {cells slots : Nat}
abbrev vx_CSW (R : Room) (s : State) (args : Array Value) (own : String) (index : Nat) (y : MethodName) (bytes : ByteArray) (maxL : Nat) (ret : Option FieldType) (hh : List (Nat × Nat × Nat × Nat)) (ws : List Cond) (rm : Room) (mc ms n : Nat) : Prop :=
  (rm.cells = mc ∧ rm.slots = ms ∧ rm.frames + 1 ≤ R.frames ∧ 8 + (maxL + 11) + rm.locals ≤ R.locals ∧ (∀ w ∈ ws, ∀ (a' : Array Value) (U : State), s.WarmedH U.vm → w.before a' U = true) ∧ Cond.codeWith y bytes maxL ret hh ∈ ws) ∧
  (Cond.codeWith y bytes maxL ret hh).before args s = true ∧ (Cond.initialized y.cls).before args s = true ∧ (y.cls ≠ "java/lang/invoke/MethodHandle" ∧ y.cls ≠ "java/lang/invoke/VarHandle") ∧
  (∀ sig, parseMethodDescriptor y.desc = some sig → n = sig.parameters.length) ∧ (Cond.methodLink own index y).before args s = true ∧ (Cond.static y).before args s = true
theorem vx_cwSW {own : String} {index maxL mc ms : Nat} {y : MethodName} {bytes : ByteArray} {ret : Option FieldType} {hh : List (Nat × Nat × Nat × Nat)} {Ts ws ws' : List Cond} {rm : Room} (n : Nat) (ht : ∀ w ∈ Ts, w.before args s = true) (hT : GoodIn Ts (va_wsS own index y ws)) (hw : ws = Cond.codeWith y bytes maxL ret hh :: ws') (hrc : rm.cells = mc) (hrs : rm.slots = ms)
    (hd : y.cls ≠ "java/lang/invoke/MethodHandle" ∧ y.cls ≠ "java/lang/invoke/VarHandle" ∧ (parseMethodDescriptor y.desc).map (fun d => d.parameters.length) = some n) (hR : rm.frames + 1 ≤ R.frames ∧ 8 + (maxL + 11) + rm.locals ≤ R.locals) :
    vx_CSW R s args own index y bytes maxL ret hh ws rm mc ms n := by
  have ok : ∀ w ∈ va_wsS own index y ws, w.before args s = true := fun w h => ht w (hT w h).1
  have hG : GoodIn Ts ws := fun w h => hT w (by unfold va_wsS; exact List.mem_append_right _ h)
  have hc : Cond.codeWith y bytes maxL ret hh ∈ ws := by rw [hw]; exact List.mem_cons_self
  refine ⟨⟨hrc, hrs, hR.1, hR.2, pay_in ht hG, hc⟩, ht _ (hG _ hc).1, ok _ (by simp [va_wsS]), ⟨hd.1, hd.2.1⟩, fun sig h => ?_, ok _ (by simp [va_wsS]), ok _ (by simp [va_wsS])⟩
  have h2 := hd.2.2
  rw [h] at h2
  exact (Option.some.inj h2).symm
theorem vx_callSW (X : Stand p l e R s m args below meth c T locs cells slots) (hexec : p.tables.exec = Jvm.exec) {own : String} {index : Nat} {y : MethodName} {bytes : ByteArray} {maxL : Nat} {ret : Option FieldType} {hh : List (Nat × Nat × Nat × Nat)}
    (hown : s.vm.findClass own = some m.cls) (hlink : (Cond.methodLink own index y).before args s = true) (hstat : (Cond.static y).before args s = true) (hinit : (Cond.initialized y.cls).before args s = true)
    (hcode : (Cond.codeWith y bytes maxL ret hh).before args s = true) (hy : y.cls ≠ "java/lang/invoke/MethodHandle" ∧ y.cls ≠ "java/lang/invoke/VarHandle")
    {W9 : Nat} {Pre : Pt → Array Value → Prop} {Post : Pt → Array Value → Option Value → Pt → Prop} (hK : Back l R p e below s args y 3 W9 Pre Post)
    {g : JFrame} (hg : g.method = m) (hsize : g.locals.size = c.maxLocals) {argsL rest : List Value} (hlen : ∀ sig, parseMethodDescriptor y.desc = some sig → argsL.length = sig.parameters.length)
    (hstack : g.stack = argsL.reverse ++ rest) (hW : 2 * g.monitorRoom + (rest.map fun v => v.category).sum ≤ W9) (hdg : decode c.code g.pc = .ok (.invokestatic index, 3))
    (hpre : ∀ vm₁, s.WarmedH vm₁ → Pre ⟨T.setVm vm₁, locs, cells, slots⟩ argsL.toArray) :
    ∃ (v : Option Value) (vm₁ : Vm) (B : Pt), s.WarmedH vm₁ ∧ Stand p l e R s m args below meth c B.U B.locs B.cells B.slots ∧ Post ⟨T.setVm vm₁, locs, cells, slots⟩ argsL.toArray v B ∧
      ∀ target, Steps p.tables e below (B.U.setTop { g with pc := g.pc + 3, stack := v.toList ++ rest }) target → Steps p.tables e below (T.setTop g) target := by
  obtain ⟨mk, methM, cM, hnamed, hmethM, -, -, -, -, -, -, hsigM⟩ := Cond.codeWith_spec hcode
  have hstatic : methM.isStatic = true := Cond.static_spec hnamed hmethM hstat
  obtain ⟨kP, hkP, -⟩ := className_of_methodNamed hnamed
  have hinitP : kP.init = .initialized := Cond.initialized_spec (findClass_of_methodNamed hnamed) hkP hinit
  obtain ⟨vm₁, X₁, hstep₁⟩ := X.invokestatic hexec hown hlink hnamed hmethM hstatic hkP hinitP hy (g := g) hg (argsL := argsL) (rest := rest) (hlen _ hsigM) hstack hdg
  obtain ⟨v, B, X', hpost, hsteps⟩ := hK m meth c ⟨T.setVm vm₁, locs, cells, slots⟩ { g with stack := rest } (.invokestatic index) mk argsL.toArray X₁ hg hsize hdg hW (X₁.named hnamed) (hpre vm₁ X₁.warmed)
  exact ⟨v, vm₁, B, X₁.warmed, X', hpost, fun target h => hstep₁ _ fun acts => by rw [doInvoke_state]; exact hsteps.trans h⟩
theorem vx_runSW {y : MethodName} {bytes cc : ByteArray} {maxL nL mc ms n index : Nat} {ret : Option FieldType} {hh : List (Nat × Nat × Nat × Nat)} {ws : List Cond} {rm : Room} {Pc : Array Value → State → Prop} {Qc : Array Value → State → Outcome → State → Prop} {free : Addr → Prop} {Ts : List Cond} {own : String} {As rest : List Value} {g : JFrame}
    (S : CallFix p m c cc nL s args Ts own) (hM : Met l y ws rm Pc Qc mc ms free) (cw : vx_CSW R s args own index y bytes maxL ret hh ws rm mc ms n) (hp : PreS s H Pc As)
    (hg : g.method = m) (hn : As.length = n) (hsize : g.locals.size = nL) (hstack : g.stack = As.reverse ++ rest) (hW : 2 * g.monitorRoom + (rest.map fun v => v.category).sum ≤ 8) (hdg : decode cc g.pc = .ok (.invokestatic index, 3)) (hf : cells + mc ≤ R.cells ∧ slots + ms ≤ R.slots) :
    va_Run p l e R s m args below meth c H locs cells slots mc ms g rest (Qc As.toArray) (free) := by
  obtain ⟨⟨hrc, hrs, hfr, hlo, hws, hcw⟩, hcode, hini, hy, hlen, hl, hstt⟩ := cw
  have hK : Back l R p e below s args y 3 8 (PreOf R mc ms Pc) (PostOf Qc mc ms free) := va_backW (hh := hh) (bytes := bytes) (maxL := maxL) (ret := ret) hM hp.1 hrc hrs hfr hlo hws hcw (fun a' U hW => word_at hW (Or.inl (by first | rfl | simp [Cond.onTables, Cond.keeps, Cond.steady])) hini)
  obtain ⟨hx, hb, hml, ho, -⟩ := S
  intro T hT X
  obtain ⟨v, vm₁, ⟨U', l2, c2, s2⟩, hW₁, X', ⟨g', mk, t, L, e1, e2, hq, h1, hL, h2, h3⟩, st⟩ := vx_callSW X hx (hh := hh) (bytes := bytes) (maxL := maxL) (ret := ret) ho hl hstt hini hcode hy hK hg (hsize.trans hml.symm) (argsL := As) (rest := rest) (fun sig h => hn.trans (hlen sig h)) hstack hW (by rw [hb]; exact hdg)
    (fun vm₁ hW₁ => ⟨hf.1, hf.2, hp.2 (T.setVm vm₁) hT hW₁⟩)
  dsimp only [Pt.U, Pt.locs, Pt.cells, Pt.slots] at X' e1 e2 h1 h2 h3 st
  subst h1; subst h2; subst h3
  exact ⟨v, (T.setVm vm₁).calling g' mk As.toArray, t, U', L, hT, X', hL, e1, e2, hq, st⟩
/-- not caught here, past rows that name other classes: it goes on to the caller -/
theorem vx_outP {p : Program} {l : Launch} {e : Env} {R : Room} {s : State} {m : MethodId} {args : Array Value} {below : List Frame} {meth : Method} {c : Code} {H : Heap} {locs : List Loc} {cells slots : Nat} {free : Addr → Prop} {ls : Array Slot} {rest : List Value} {Qc : Array Value → State → Outcome → State → Prop} {XC : String → State → State → Prop}
    {pc : Nat} {own E : String} {ce : Cell} {q : Addr} {mc ms : Nat} (hown : s.vm.findClass own = some m.cls) (hlocks : meth.locks = false)
    (hpass : ∀ z ∈ c.exceptionTable.toList, covers z pc = false ∨ (z.catchType ≠ 0 ∧ ∃ nm : String, (Cond.classLink own z.catchType nm).before args s = true ∧ va_Nc E nm s)) (hcell : H[q]? = some ce) (hv : ce.vm = .none) (hcl : s.vm.findClass E = some ce.cls)
    (hx : ∀ t : State, t.heap = H → s.vm.Alike t.vm → XC E s t) (hf : ∀ z ∈ locs, free z.base) (hc : cells ≤ mc) (hs : slots ≤ ms) :
    vx_W p l e R s m args below meth c H locs cells slots (vx_MQ below Qc XC args s mc ms free) (F0 m pc ls rest) q := by
  intro T hT X
  have hpl : e.platform.magicAccessors = ({} : Platform).magicAccessors := by rw [X.admits.platform]
  obtain ⟨vm', hW', X', st⟩ := X.outThrough hlocks q (g := F0 m pc ls rest) rfl rfl rfl (cell := ce) (by rw [hT]; exact hcell) (by rw [hv]; rfl)
    (by obtain ⟨k9, h9, -⟩ := Vm.findClass_spec hcl; exact ⟨k9, h9⟩) (fun z hz => by
      rcases hpass z hz with h | ⟨hz0, nm, hl1, hn1⟩
      · exact Or.inl h
      · obtain ⟨c6, hc6, hcl6⟩ := Cond.classLink_spec hown hl1 e.platform hpl
        obtain ⟨a8, b8, h1, h2, h3⟩ := hn1
        cases Option.some.inj (h1.symm.trans hcl)
        cases Option.some.inj (h2.symm.trans hc6)
        exact Or.inr ⟨hz0, _, hcl6, h3⟩)
  obtain ⟨g₀, hfr⟩ := X'.frames_eq
  have hcell9 : ((T.setVm vm').setFrames (.throwing q :: below)).heap[q]? = some ce := by
    show T.heap[q]? = some ce
    rw [hT]; exact hcell
  have hend : Ended ((T.setVm vm').setFrames (.throwing q :: below)) below (.threw q) := State.frames_setFrames _ (State.cur_lt_of_frames hfr)
  refine ⟨(T.setVm vm').setFrames (.throwing q :: below), ?_, .threw q, X'.here.running, hend, Or.inr ⟨q, rfl, E, ce, locs, hx _ hT (X'.ends _).1.alike, hcell9, hv, hcl, (X'.ends _).1, (X'.ends _).2.mono hc hs, hf⟩⟩
  rw [X.pushThrowing_eq]
  exact st
/-- a thing of a world lies in the heap -/
theorem vx_lt {D : va_G} {cl : List vw_C} {ws : va_W} {H1 : Heap} (h : va_P D cl ws H1) {k : Nat} {q : Nat × va_E} (hk : ws[k]? = some q) : q.1 < H1.size := (h k q hk).lt
end VXS
/-! ===== END ===== -/
/-! ===== BEGIN methods with a table of their own: called by a name, returning or throwing ===== -/
section VXH
/-! vx_backW, vx_callVX, vx_callSX, vx_callVW, vx_runVW, vx_runVX, vx_runSX, vx_ofWH follow the same proofs as their sisters above (Free/Laws.lean, Shelf42/LK1.lean); vx_outP calls Shelf42/NT130.lean (outThrough). -/
section
variable {l : Launch} {R : Room} {p : Program} {e : Env} {below : List Frame} {s : State} {sargs : Array Value} {y : MethodName} {len W9 : Nat}
theorem vx_backW {ws : List Cond} {rm : Room} {Pc : Array Value → State → Prop} {Qc : Array Value → State → Outcome → State → Prop} {XC : String → State → State → Prop} {mc ms : Nat} {free : Addr → Prop} {bytes : ByteArray} {maxL : Nat} {ret : Option FieldType} {hh : List (Nat × Nat × Nat × Nat)}
    (hM : vx_Met l y ws rm Pc Qc XC mc ms free) (hblind : FrameBlind Pc) (hrc : rm.cells = mc) (hrs : rm.slots = ms)
    (hframes : rm.frames + 1 ≤ R.frames) (hlocals : W9 + (maxL + 11) + rm.locals ≤ R.locals)
    (hws : ∀ w ∈ ws, ∀ a' U, s.WarmedH U.vm → w.before a' U = true) (hcode : Cond.codeWith y bytes maxL ret hh ∈ ws) (hinit : ∀ a' U, s.WarmedH U.vm → (Cond.initialized y.cls).before a' U = true) :
    vx_Back l R p e below s sargs y len W9 (PreOf R mc ms Pc) (PostOf Qc mc ms free) (vx_Post XC mc ms free) := by
  intro m meth c A g ig mk a X hg hsize hdg hW hn hp
  have h1 : (headSpec ws rm).pre.before a A.U = true := atoms_intro fun w hw => hws w hw _ _ X.warmed
  have h2 : (Cond.codeWith y bytes maxL ret hh).before a A.U = true := hws _ hcode _ _ X.warmed
  have h3 : (Cond.initialized y.cls).before a A.U = true := hinit _ _ X.warmed
  have h4 : A.cells + (headSpec ws rm).room.cells ≤ R.cells := by rw [show (headSpec ws rm).room.cells = mc from hrc]; exact hp.1
  have h5 : A.slots + (headSpec ws rm).room.slots ≤ R.slots := by rw [show (headSpec ws rm).room.slots = ms from hrs]; exact hp.2.1
  have hPc : Pc a (A.U.calling g mk a) := hblind _ _ _ _ hp.2.2
  obtain ⟨U, Ls, c0, s0⟩ := A
  dsimp only [Pt.U, Pt.locs, Pt.cells, Pt.slots] at h1 h2 h3 h4 h5 X hn hPc ⊢
  obtain ⟨m9, methY, cY, hn9, hmY, hcY, -, hlY, -⟩ := Cond.codeWith_spec h2
  cases Option.some.inj (hn9.symm.trans hn)
  obtain ⟨kY, hkY, -⟩ := className_of_methodNamed hn
  have hinitY : kY.init = .initialized := Cond.initialized_spec (findClass_of_methodNamed hn) hkY h3
  have h : At U g.method c below := by rw [hg]; exact X.here
  have hlocals9 : W9 + (maxL + 11) + (headSpec ws rm).room.locals ≤ R.locals := hlocals
  have happ : (headSpec ws rm).appliesLoose y e.platform (U.calling g mk a) = true :=
    Spec.appliesLoose_calling (g := g) h hdg hn hkY hinitY
      (X.room_calling (g := g) (R' := (headSpec ws rm).room) hsize hmY hcY hframes (by rw [hlY]; omega) h4 h5) h1
  obtain ⟨mid, hmid⟩ := h.above
  have hfr : (U.setTop g).frames = (.java g :: mid) ++ below := by rw [State.frames_setTop' g h.top, hmid]; rfl
  obtain ⟨o, s₂, hsteps, -, hend, hq⟩ := Steps.callFree hM p X.admits X.cas X.clock (acts := []) hfr happ hPc trivial
  have hq' : vx_Q Qc XC mc ms free a (U.calling g mk a) o s₂ := hq
  rw [State.frames_setTop' g h.top] at hend
  obtain ⟨g₀, hg0⟩ := Option.isSome_iff_exists.mp h.top
  obtain ⟨r, hr⟩ := State.topJava?_eq_some.mp hg0
  have hr' : (({ U with heap := s₂.heap, slotsUsed := s₂.slotsUsed } : State).setVm s₂.vm).frames = .java g₀ :: r := hr
  rcases hq' with ⟨hqc, L, hfe, hL⟩ | ⟨q, rfl, E, ce, L, hx, hce, hcv, hcl, hW₂, hsm, hL⟩
  · obtain ⟨⟨v, rfl⟩, hW₂, e2, q2, q3, q4, q5, q6⟩ := id hfe
    have e3 : s₂ = ({ (U.calling g mk a).setFrames s₂.frames with heap := s₂.heap, slotsUsed := s₂.slotsUsed } : State).setVm s₂.vm := by
      have : s₂ = ({ s₂ with vm := (U.calling g mk a).vm } : State).setVm s₂.vm := rfl
      rw [e2] at this
      exact this
    obtain ⟨c₂, i₂, len₂, hc₂, hd₂, hf₂⟩ := hend
    have hW' : U.WarmedH s₂.vm := hW₂
    have hcc : c₂ = c := by
      have h1 : s₂.code? g.method = U.code? g.method := by
        rw [State.code?_eq, State.code?_eq, hW'.alike.method?]
      exact Option.some.inj (hc₂.symm.trans (h1.trans h.code))
    subst hcc
    have hlen : len₂ = len := by rw [hdg] at hd₂; cases hd₂; rfl
    subst hlen
    have hs₂ : s₂ = (({ U with heap := s₂.heap, slotsUsed := s₂.slotsUsed } : State).setVm s₂.vm).setTop { g with pc := g.pc + len₂, stack := v.toList ++ g.stack } := by
      refine e3.trans ?_
      rw [hf₂, State.calling_eq h.top, State.setFrames_setFrames, State.setTop_of_frames _ hr', hr]
      rfl
    have hsame : U.sameButNew ({ U with heap := s₂.heap, slotsUsed := s₂.slotsUsed } : State) L mc ms := by
      refine ⟨?_, q2, q3, q4, q5, q6⟩
      obtain ⟨t, ht, -⟩ := State.frames_cons hr
      show ({ U with heap := s₂.heap, slotsUsed := s₂.slotsUsed } : State) = { U.setFrames U.frames with heap := s₂.heap, slotsUsed := s₂.slotsUsed }
      rw [State.setFrames_self ht]
    subst hg
    refine Or.inl ⟨v, ⟨(({ U with heap := s₂.heap, slotsUsed := s₂.slotsUsed } : State).setVm s₂.vm), Ls ++ L, c0 + mc, s0 + ms⟩,
      ⟨X.admits, X.cas, X.clock, X.frames, X.room, X.hears, X.method, X.code, (X.here.setHeapUsed s₂.heap s₂.slotsUsed).setVm hW'.alike, X.tail, State.WarmedH.trans X.warmed hW', X.limits, X.bytes, X.same.trans (hsame.setVm s.vm)⟩,
      ⟨g, mk, s₂, L, rfl, rfl, hqc, rfl, hL, rfl, rfl⟩, ?_⟩
    show Steps p.tables e below _ ((({ U with heap := s₂.heap, slotsUsed := s₂.slotsUsed } : State).setVm s₂.vm).setTop { g with pc := g.pc + len₂, stack := v.toList ++ g.stack })
    rw [← hs₂]
    exact hsteps
  · obtain ⟨e2, q2, q3, q4, q5, q6⟩ := id hsm
    have e3 : s₂ = ({ (U.calling g mk a).setFrames s₂.frames with heap := s₂.heap, slotsUsed := s₂.slotsUsed } : State).setVm s₂.vm := by
      have : s₂ = ({ s₂ with vm := (U.calling g mk a).vm } : State).setVm s₂.vm := rfl
      rw [e2] at this
      exact this
    have hf₂ : s₂.frames = .throwing q :: .java g :: U.frames.tail := hend
    have hW' : U.WarmedH s₂.vm := hW₂
    have hs₂ : s₂ = ((({ U with heap := s₂.heap, slotsUsed := s₂.slotsUsed } : State).setVm s₂.vm).setTop g).pushFrame (.throwing q) := by
      refine e3.trans ?_
      rw [hf₂, State.calling_eq h.top, State.setFrames_setFrames, State.pushFrame, State.frames_setTop _ hr', State.setTop_of_frames _ hr', State.setFrames_setFrames, hr]
      rfl
    have hsame : U.sameButNew ({ U with heap := s₂.heap, slotsUsed := s₂.slotsUsed } : State) L mc ms := by
      refine ⟨?_, q2, q3, q4, q5, q6⟩
      obtain ⟨t, ht, -⟩ := State.frames_cons hr
      show ({ U with heap := s₂.heap, slotsUsed := s₂.slotsUsed } : State) = { U.setFrames U.frames with heap := s₂.heap, slotsUsed := s₂.slotsUsed }
      rw [State.setFrames_self ht]
    subst hg
    refine Or.inr ⟨q, ⟨(({ U with heap := s₂.heap, slotsUsed := s₂.slotsUsed } : State).setVm s₂.vm), Ls ++ L, c0 + mc, s0 + ms⟩,
      ⟨X.admits, X.cas, X.clock, X.frames, X.room, X.hears, X.method, X.code, (X.here.setHeapUsed s₂.heap s₂.slotsUsed).setVm hW'.alike, X.tail, State.WarmedH.trans X.warmed hW', X.limits, X.bytes, X.same.trans (hsame.setVm s.vm)⟩,
      ⟨g, mk, s₂, L, E, ce, rfl, rfl, hx, hce, hcv, hcl, rfl, hL, rfl, rfl⟩, ?_⟩
    show Steps p.tables e below _ (((({ U with heap := s₂.heap, slotsUsed := s₂.slotsUsed } : State).setVm s₂.vm).setTop g).pushFrame (.throwing q))
    rw [← hs₂]
    exact hsteps
end
variable {p : Program} {l : Launch} {e : Env} {R : Room} {s : State} {m : MethodId} {args : Array Value} {below : List Frame} {meth : Method} {c : Code} {T : State} {H : Heap} {locs : List Loc} {cells slots : Nat}
theorem vx_callVX (X : Stand p l e R s m args below meth c T locs cells slots) (hexec : p.tables.exec = Jvm.exec) {own C : String} {index : Nat} {y : MethodName} {bytes : ByteArray} {maxL : Nat} {ret : Option FieldType} {hh : List (Nat × Nat × Nat × Nat)}
    (hown : s.vm.findClass own = some m.cls) (hlink : (Cond.methodLink own index y).before args s = true) (hinst : (Cond.instanceMethod y).before args s = true) (hsel : (Cond.selects C y y).before args s = true)
    (hcode : (Cond.codeWith y bytes maxL ret hh).before args s = true) (hy : y.cls ≠ "java/lang/invoke/MethodHandle" ∧ y.cls ≠ "java/lang/invoke/VarHandle")
    {W9 : Nat} {Pre : Pt → Array Value → Prop} {Post : Pt → Array Value → Option Value → Pt → Prop} {PostX : Pt → Array Value → Addr → Pt → Prop} (hK : vx_Back l R p e below s args y 3 W9 Pre Post PostX)
    {b : Addr} {cellB : Cell} (hcell : T.heap[b]? = some cellB) (hobj : cellB.vm.isStatics = false) (hcls : s.vm.findClass C = some cellB.cls)
    {g : JFrame} (hg : g.method = m) (hsize : g.locals.size = c.maxLocals) {argsL rest : List Value} (hlen : ∀ sig, parseMethodDescriptor y.desc = some sig → argsL.length = sig.parameters.length)
    (hstack : g.stack = argsL.reverse ++ .ref b :: rest) (hW : 2 * g.monitorRoom + (rest.map fun v => v.category).sum ≤ W9) (hdg : decode c.code g.pc = .ok (.invokevirtual index, 3))
    (hpre : ∀ vm₁, s.WarmedH vm₁ → Pre ⟨T.setVm vm₁, locs, cells, slots⟩ (Value.ref b :: argsL).toArray) :
    (∃ (v : Option Value) (vm₁ : Vm) (B : Pt), s.WarmedH vm₁ ∧ Stand p l e R s m args below meth c B.U B.locs B.cells B.slots ∧ Post ⟨T.setVm vm₁, locs, cells, slots⟩ (Value.ref b :: argsL).toArray v B ∧
      ∀ target, Steps p.tables e below (B.U.setTop { g with pc := g.pc + 3, stack := v.toList ++ rest }) target → Steps p.tables e below (T.setTop g) target) ∨
    (∃ (q : Addr) (vm₁ : Vm) (B : Pt), s.WarmedH vm₁ ∧ Stand p l e R s m args below meth c B.U B.locs B.cells B.slots ∧ PostX ⟨T.setVm vm₁, locs, cells, slots⟩ (Value.ref b :: argsL).toArray q B ∧
      Steps p.tables e below (T.setTop g) ((B.U.setTop { g with stack := rest }).pushFrame (.throwing q))) := by
  obtain ⟨mk, methM, hnamed, hmethM, hstM, habM⟩ := Cond.instanceMethod_spec hinst
  obtain ⟨m8, methM', cM, hn8, hmethM', -, -, -, -, -, -, hsigM⟩ := Cond.codeWith_spec hcode
  cases Option.some.inj (hn8.symm.trans hnamed)
  cases hmethM.symm.trans hmethM'
  obtain ⟨c2, r2, m2, q1, q2, q3, q4, kP, hkP, hkPi⟩ := Cond.selects_spec hsel
  cases hcls.symm.trans q1
  cases (State.methodFound?_of_named hnamed hy).symm.trans q2
  cases hnamed.symm.trans q3
  have hselP : selectMethod e.platform s.vm cellB.cls mk = .method mk := by rw [Launch.admits_selectMethod X.admits]; exact q4
  obtain ⟨vm₁, X₁, hstep₁⟩ := X.invokevirtual hexec hown hlink hnamed hmethM hstM hkP hkPi hy (a := b) (cell := cellB) hcell
    (fun z h => by rw [h] at hobj; cases hobj) hselP hmethM habM hkP hkPi (g := g) hg (argsL := argsL) (rest := rest) (hlen _ hsigM) hstack hdg
  rcases hK m meth c ⟨T.setVm vm₁, locs, cells, slots⟩ { g with stack := rest } (.invokevirtual index) mk (Value.ref b :: argsL).toArray X₁ hg hsize hdg hW (X₁.named hnamed) (hpre vm₁ X₁.warmed) with ⟨v, B, X', hpost, hsteps⟩ | ⟨q, B, X', hpost, hsteps⟩
  · exact Or.inl ⟨v, vm₁, B, X₁.warmed, X', hpost, fun target h => hstep₁ _ fun acts => by rw [doInvoke_state]; exact hsteps.trans h⟩
  · exact Or.inr ⟨q, vm₁, B, X₁.warmed, X', hpost, hstep₁ _ fun acts => by rw [doInvoke_state]; exact hsteps⟩
theorem vx_callSX (X : Stand p l e R s m args below meth c T locs cells slots) (hexec : p.tables.exec = Jvm.exec) {own : String} {index : Nat} {y : MethodName} {bytes : ByteArray} {maxL : Nat} {ret : Option FieldType} {hh : List (Nat × Nat × Nat × Nat)}
    (hown : s.vm.findClass own = some m.cls) (hlink : (Cond.methodLink own index y).before args s = true) (hstat : (Cond.static y).before args s = true) (hinit : (Cond.initialized y.cls).before args s = true)
    (hcode : (Cond.codeWith y bytes maxL ret hh).before args s = true) (hy : y.cls ≠ "java/lang/invoke/MethodHandle" ∧ y.cls ≠ "java/lang/invoke/VarHandle")
    {W9 : Nat} {Pre : Pt → Array Value → Prop} {Post : Pt → Array Value → Option Value → Pt → Prop} {PostX : Pt → Array Value → Addr → Pt → Prop} (hK : vx_Back l R p e below s args y 3 W9 Pre Post PostX)
    {g : JFrame} (hg : g.method = m) (hsize : g.locals.size = c.maxLocals) {argsL rest : List Value} (hlen : ∀ sig, parseMethodDescriptor y.desc = some sig → argsL.length = sig.parameters.length)
    (hstack : g.stack = argsL.reverse ++ rest) (hW : 2 * g.monitorRoom + (rest.map fun v => v.category).sum ≤ W9) (hdg : decode c.code g.pc = .ok (.invokestatic index, 3))
    (hpre : ∀ vm₁, s.WarmedH vm₁ → Pre ⟨T.setVm vm₁, locs, cells, slots⟩ argsL.toArray) :
    (∃ (v : Option Value) (vm₁ : Vm) (B : Pt), s.WarmedH vm₁ ∧ Stand p l e R s m args below meth c B.U B.locs B.cells B.slots ∧ Post ⟨T.setVm vm₁, locs, cells, slots⟩ argsL.toArray v B ∧
      ∀ target, Steps p.tables e below (B.U.setTop { g with pc := g.pc + 3, stack := v.toList ++ rest }) target → Steps p.tables e below (T.setTop g) target) ∨
    (∃ (q : Addr) (vm₁ : Vm) (B : Pt), s.WarmedH vm₁ ∧ Stand p l e R s m args below meth c B.U B.locs B.cells B.slots ∧ PostX ⟨T.setVm vm₁, locs, cells, slots⟩ argsL.toArray q B ∧
      Steps p.tables e below (T.setTop g) ((B.U.setTop { g with stack := rest }).pushFrame (.throwing q))) := by
  obtain ⟨mk, methM, cM, hnamed, hmethM, -, -, -, -, -, -, hsigM⟩ := Cond.codeWith_spec hcode
  have hstatic : methM.isStatic = true := Cond.static_spec hnamed hmethM hstat
  obtain ⟨kP, hkP, -⟩ := className_of_methodNamed hnamed
  have hinitP : kP.init = .initialized := Cond.initialized_spec (findClass_of_methodNamed hnamed) hkP hinit
  obtain ⟨vm₁, X₁, hstep₁⟩ := X.invokestatic hexec hown hlink hnamed hmethM hstatic hkP hinitP hy (g := g) hg (argsL := argsL) (rest := rest) (hlen _ hsigM) hstack hdg
  rcases hK m meth c ⟨T.setVm vm₁, locs, cells, slots⟩ { g with stack := rest } (.invokestatic index) mk argsL.toArray X₁ hg hsize hdg hW (X₁.named hnamed) (hpre vm₁ X₁.warmed) with ⟨v, B, X', hpost, hsteps⟩ | ⟨q, B, X', hpost, hsteps⟩
  · exact Or.inl ⟨v, vm₁, B, X₁.warmed, X', hpost, fun target h => hstep₁ _ fun acts => by rw [doInvoke_state]; exact hsteps.trans h⟩
  · exact Or.inr ⟨q, vm₁, B, X₁.warmed, X', hpost, hstep₁ _ fun acts => by rw [doInvoke_state]; exact hsteps⟩
theorem vx_callVW (X : Stand p l e R s m args below meth c T locs cells slots) (hexec : p.tables.exec = Jvm.exec) {own C : String} {index : Nat} {y : MethodName} {bytes : ByteArray} {maxL : Nat} {ret : Option FieldType} {hh : List (Nat × Nat × Nat × Nat)}
    (hown : s.vm.findClass own = some m.cls) (hlink : (Cond.methodLink own index y).before args s = true) (hinst : (Cond.instanceMethod y).before args s = true) (hsel : (Cond.selects C y y).before args s = true)
    (hcode : (Cond.codeWith y bytes maxL ret hh).before args s = true) (hy : y.cls ≠ "java/lang/invoke/MethodHandle" ∧ y.cls ≠ "java/lang/invoke/VarHandle")
    {W9 : Nat} {Pre : Pt → Array Value → Prop} {Post : Pt → Array Value → Option Value → Pt → Prop} (hK : Back l R p e below s args y 3 W9 Pre Post)
    {b : Addr} {cellB : Cell} (hcell : T.heap[b]? = some cellB) (hobj : cellB.vm.isStatics = false) (hcls : s.vm.findClass C = some cellB.cls)
    {g : JFrame} (hg : g.method = m) (hsize : g.locals.size = c.maxLocals) {argsL rest : List Value} (hlen : ∀ sig, parseMethodDescriptor y.desc = some sig → argsL.length = sig.parameters.length)
    (hstack : g.stack = argsL.reverse ++ .ref b :: rest) (hW : 2 * g.monitorRoom + (rest.map fun v => v.category).sum ≤ W9) (hdg : decode c.code g.pc = .ok (.invokevirtual index, 3))
    (hpre : ∀ vm₁, s.WarmedH vm₁ → Pre ⟨T.setVm vm₁, locs, cells, slots⟩ (Value.ref b :: argsL).toArray) :
    ∃ (v : Option Value) (vm₁ : Vm) (B : Pt), s.WarmedH vm₁ ∧ Stand p l e R s m args below meth c B.U B.locs B.cells B.slots ∧ Post ⟨T.setVm vm₁, locs, cells, slots⟩ (Value.ref b :: argsL).toArray v B ∧
      ∀ target, Steps p.tables e below (B.U.setTop { g with pc := g.pc + 3, stack := v.toList ++ rest }) target → Steps p.tables e below (T.setTop g) target := by
  obtain ⟨mk, methM, hnamed, hmethM, hstM, habM⟩ := Cond.instanceMethod_spec hinst
  obtain ⟨m8, methM', cM, hn8, hmethM', -, -, -, -, -, -, hsigM⟩ := Cond.codeWith_spec hcode
  cases Option.some.inj (hn8.symm.trans hnamed)
  cases hmethM.symm.trans hmethM'
  obtain ⟨c2, r2, m2, q1, q2, q3, q4, kP, hkP, hkPi⟩ := Cond.selects_spec hsel
  cases hcls.symm.trans q1
  cases (State.methodFound?_of_named hnamed hy).symm.trans q2
  cases hnamed.symm.trans q3
  have hselP : selectMethod e.platform s.vm cellB.cls mk = .method mk := by rw [Launch.admits_selectMethod X.admits]; exact q4
  obtain ⟨vm₁, X₁, hstep₁⟩ := X.invokevirtual hexec hown hlink hnamed hmethM hstM hkP hkPi hy (a := b) (cell := cellB) hcell
    (fun z h => by rw [h] at hobj; cases hobj) hselP hmethM habM hkP hkPi (g := g) hg (argsL := argsL) (rest := rest) (hlen _ hsigM) hstack hdg
  obtain ⟨v, B, X', hpost, hsteps⟩ := hK m meth c ⟨T.setVm vm₁, locs, cells, slots⟩ { g with stack := rest } (.invokevirtual index) mk (Value.ref b :: argsL).toArray X₁ hg hsize hdg hW (X₁.named hnamed) (hpre vm₁ X₁.warmed)
  exact ⟨v, vm₁, B, X₁.warmed, X', hpost, fun target h => hstep₁ _ fun acts => by rw [doInvoke_state]; exact hsteps.trans h⟩
abbrev vx_CVW (R : Room) (s : State) (args : Array Value) (own C : String) (index : Nat) (y : MethodName) (bytes : ByteArray) (maxL : Nat) (ret : Option FieldType) (hh : List (Nat × Nat × Nat × Nat)) (ws : List Cond) (rm : Room) (mc ms n : Nat) : Prop :=
  (rm.cells = mc ∧ rm.slots = ms ∧ rm.frames + 1 ≤ R.frames ∧ 8 + (maxL + 11) + rm.locals ≤ R.locals ∧ (∀ w ∈ ws, ∀ (a' : Array Value) (U : State), s.WarmedH U.vm → w.before a' U = true) ∧ Cond.codeWith y bytes maxL ret hh ∈ ws) ∧
  (Cond.codeWith y bytes maxL ret hh).before args s = true ∧ (Cond.initialized y.cls).before args s = true ∧ (y.cls ≠ "java/lang/invoke/MethodHandle" ∧ y.cls ≠ "java/lang/invoke/VarHandle") ∧
  (∀ sig, parseMethodDescriptor y.desc = some sig → n = sig.parameters.length) ∧ (Cond.methodLink own index y).before args s = true ∧ (Cond.instanceMethod y).before args s = true ∧ (Cond.selects C y y).before args s = true
theorem vx_cwVW {own C : String} {index maxL mc ms : Nat} {y : MethodName} {bytes : ByteArray} {ret : Option FieldType} {hh : List (Nat × Nat × Nat × Nat)} {Ts ws ws' : List Cond} {rm : Room} (n : Nat) (ht : ∀ w ∈ Ts, w.before args s = true) (hT : GoodIn Ts (wsV own index C y ws)) (hw : ws = Cond.codeWith y bytes maxL ret hh :: ws') (hrc : rm.cells = mc) (hrs : rm.slots = ms)
    (hd : y.cls = C ∧ y.cls ≠ "java/lang/invoke/MethodHandle" ∧ y.cls ≠ "java/lang/invoke/VarHandle" ∧ (parseMethodDescriptor y.desc).map (fun d => d.parameters.length) = some n) (hR : rm.frames + 1 ≤ R.frames ∧ 8 + (maxL + 11) + rm.locals ≤ R.locals) :
    vx_CVW R s args own C index y bytes maxL ret hh ws rm mc ms n := by
  obtain ⟨hC, hd⟩ := hd
  subst hC
  have ok : ∀ w ∈ wsV own index y.cls y ws, w.before args s = true := fun w h => ht w (hT w h).1
  have hG : GoodIn Ts ws := fun w h => hT w (by unfold wsV; exact List.mem_append_right _ h)
  have hc : Cond.codeWith y bytes maxL ret hh ∈ ws := by rw [hw]; exact List.mem_cons_self
  refine ⟨⟨hrc, hrs, hR.1, hR.2, pay_in ht hG, hc⟩, ht _ (hG _ hc).1, ok _ (by simp [wsV]), ⟨hd.1, hd.2.1⟩, fun sig h => ?_, ok _ (by simp [wsV]), ok _ (by simp [wsV]), ok _ (by simp [wsV])⟩
  have h2 := hd.2.2
  rw [h] at h2
  exact (Option.some.inj h2).symm
theorem vx_runVW {y : MethodName} {bytes cc : ByteArray} {maxL nL mc ms n index : Nat} {ret : Option FieldType} {hh : List (Nat × Nat × Nat × Nat)} {ws : List Cond} {rm : Room} {Pc : Array Value → State → Prop} {Qc : Array Value → State → Outcome → State → Prop} {free : Addr → Prop} {Ts : List Cond} {own C : String} {b : Addr} {As rest : List Value} {g : JFrame}
    (S : CallFix p m c cc nL s args Ts own) (hM : Met l y ws rm Pc Qc mc ms free) (cw : vx_CVW R s args own C index y bytes maxL ret hh ws rm mc ms n) (hp : PreV s H C b Pc As)
    (hg : g.method = m) (hn : As.length = n) (hsize : g.locals.size = nL) (hstack : g.stack = As.reverse ++ .ref b :: rest) (hW : 2 * g.monitorRoom + (rest.map fun v => v.category).sum ≤ 8) (hdg : decode cc g.pc = .ok (.invokevirtual index, 3)) (hf : cells + mc ≤ R.cells ∧ slots + ms ≤ R.slots) :
    va_Run p l e R s m args below meth c H locs cells slots mc ms g rest (Qc (Value.ref b :: As).toArray) free := by
  obtain ⟨⟨hrc, hrs, hfr, hlo, hws, hcw⟩, hcode, hini, hy, hlen, hl, hin, hse⟩ := cw
  have hK : Back l R p e below s args y 3 8 (PreOf R mc ms Pc) (PostOf Qc mc ms free) := va_backW (hh := hh) (bytes := bytes) (maxL := maxL) (ret := ret) hM hp.1 hrc hrs hfr hlo hws hcw (fun a' U hW => word_at hW (Or.inl (by first | rfl | simp [Cond.onTables, Cond.keeps, Cond.steady])) hini)
  obtain ⟨hx, hb, hml, ho, -⟩ := S
  obtain ⟨-, ⟨cellB, hcB, hoB, hclB⟩, hPc⟩ := hp
  intro T hT X
  obtain ⟨v, vm₁, ⟨U', l2, c2, s2⟩, hW₁, X', ⟨g', mk, t, L, e1, e2, hq, h1, hL, h2, h3⟩, st⟩ := vx_callVW X hx (C := C) (hh := hh) (bytes := bytes) (maxL := maxL) (ret := ret) ho hl hin hse hcode hy hK (by rw [hT]; exact hcB) hoB hclB hg (hsize.trans hml.symm) (argsL := As) (rest := rest) (fun sig h => hn.trans (hlen sig h)) hstack hW (by rw [hb]; exact hdg)
    (fun vm₁ hW₁ => ⟨hf.1, hf.2, hPc (T.setVm vm₁) hT hW₁⟩)
  dsimp only [Pt.U, Pt.locs, Pt.cells, Pt.slots] at X' e1 e2 h1 h2 h3 st
  subst h1; subst h2; subst h3
  exact ⟨v, (T.setVm vm₁).calling g' mk (Value.ref b :: As).toArray, t, U', L, hT, X', hL, e1, e2, hq, st⟩
section
variable {y : MethodName} {bytes cc : ByteArray} {maxL nL mc ms n index : Nat} {ret : Option FieldType} {ws : List Cond} {rm : Room} {Pc : Array Value → State → Prop} {Qc : Array Value → State → Outcome → State → Prop} {XC : String → State → State → Prop} {free : Addr → Prop} {Ts : List Cond} {own C : String} {b : Addr} {As rest : List Value} {g : JFrame}
theorem vx_runVX {hh : List (Nat × Nat × Nat × Nat)} (S : CallFix p m c cc nL s args Ts own) (hM : vx_Met l y ws rm Pc Qc XC mc ms free) (cw : vx_CVW R s args own C index y bytes maxL ret hh ws rm mc ms n) (hp : PreV s H C b Pc As)
    (hg : g.method = m) (hn : As.length = n) (hsize : g.locals.size = nL) (hstack : g.stack = As.reverse ++ .ref b :: rest) (hW : 2 * g.monitorRoom + (rest.map fun v => v.category).sum ≤ 8) (hdg : decode cc g.pc = .ok (.invokevirtual index, 3)) (hf : cells + mc ≤ R.cells ∧ slots + ms ≤ R.slots) :
    vx_Run p l e R s m args below meth c H locs cells slots mc ms g rest (Qc (Value.ref b :: As).toArray) XC free := by
  obtain ⟨⟨hrc, hrs, hfr, hlo, hws, hcw⟩, hcode, hini, hy, hlen, hl, hin, hse⟩ := cw
  have hK : vx_Back l R p e below s args y 3 8 (PreOf R mc ms Pc) (PostOf Qc mc ms free) (vx_Post XC mc ms free) := vx_backW (hh := hh) (bytes := bytes) (maxL := maxL) (ret := ret) hM hp.1 hrc hrs hfr hlo hws hcw (fun a' U hW => word_at hW (Or.inl (by first | rfl | simp [Cond.onTables, Cond.keeps, Cond.steady])) hini)
  obtain ⟨hx, hb, hml, ho, -⟩ := S
  obtain ⟨-, ⟨cellB, hcB, hoB, hclB⟩, hPc⟩ := hp
  intro T hT X
  rcases vx_callVX X hx (C := C) (hh := hh) (bytes := bytes) (maxL := maxL) (ret := ret) ho hl hin hse hcode hy hK (by rw [hT]; exact hcB) hoB hclB hg (hsize.trans hml.symm) (argsL := As) (rest := rest) (fun sig h => hn.trans (hlen sig h)) hstack hW (by rw [hb]; exact hdg)
    (fun vm₁ hW₁ => ⟨hf.1, hf.2, hPc (T.setVm vm₁) hT hW₁⟩) with ⟨v, vm₁, ⟨U', l2, c2, s2⟩, hW₁, X', ⟨g', mk, t, L, e1, e2, hq, h1, hL, h2, h3⟩, st⟩ | ⟨q, vm₁, ⟨U', l2, c2, s2⟩, hW₁, X', ⟨g', mk, t, L, E, ce, e1, e2, hq, hce, hcv, hcl, h1, hL, h2, h3⟩, st⟩
  · dsimp only [Pt.U, Pt.locs, Pt.cells, Pt.slots] at X' e1 e2 h1 h2 h3 st
    subst h1; subst h2; subst h3
    exact Or.inl ⟨v, (T.setVm vm₁).calling g' mk (Value.ref b :: As).toArray, t, U', L, hT, X', hL, e1, e2, hq, st⟩
  · dsimp only [Pt.U, Pt.locs, Pt.cells, Pt.slots] at X' e1 e2 h1 h2 h3 st hcl
    subst h1; subst h2; subst h3
    exact Or.inr ⟨q, (T.setVm vm₁).calling g' mk (Value.ref b :: As).toArray, t, U', L, E, ce, hT, X', hL, e1, e2, hq, hce, hcv, vx_cls hW₁ hcl, st⟩
theorem vx_runSX {hh : List (Nat × Nat × Nat × Nat)} (S : CallFix p m c cc nL s args Ts own) (hM : vx_Met l y ws rm Pc Qc XC mc ms free) (cw : vx_CSW R s args own index y bytes maxL ret hh ws rm mc ms n) (hp : PreS s H Pc As)
    (hg : g.method = m) (hn : As.length = n) (hsize : g.locals.size = nL) (hstack : g.stack = As.reverse ++ rest) (hW : 2 * g.monitorRoom + (rest.map fun v => v.category).sum ≤ 8) (hdg : decode cc g.pc = .ok (.invokestatic index, 3)) (hf : cells + mc ≤ R.cells ∧ slots + ms ≤ R.slots) :
    vx_Run p l e R s m args below meth c H locs cells slots mc ms g rest (Qc As.toArray) XC free := by
  obtain ⟨⟨hrc, hrs, hfr, hlo, hws, hcw⟩, hcode, hini, hy, hlen, hl, hstt⟩ := cw
  have hK : vx_Back l R p e below s args y 3 8 (PreOf R mc ms Pc) (PostOf Qc mc ms free) (vx_Post XC mc ms free) := vx_backW (hh := hh) (bytes := bytes) (maxL := maxL) (ret := ret) hM hp.1 hrc hrs hfr hlo hws hcw (fun a' U hW => word_at hW (Or.inl (by first | rfl | simp [Cond.onTables, Cond.keeps, Cond.steady])) hini)
  obtain ⟨hx, hb, hml, ho, -⟩ := S
  intro T hT X
  rcases vx_callSX X hx (hh := hh) (bytes := bytes) (maxL := maxL) (ret := ret) ho hl hstt hini hcode hy hK hg (hsize.trans hml.symm) (argsL := As) (rest := rest) (fun sig h => hn.trans (hlen sig h)) hstack hW (by rw [hb]; exact hdg)
    (fun vm₁ hW₁ => ⟨hf.1, hf.2, hp.2 (T.setVm vm₁) hT hW₁⟩) with ⟨v, vm₁, ⟨U', l2, c2, s2⟩, hW₁, X', ⟨g', mk, t, L, e1, e2, hq, h1, hL, h2, h3⟩, st⟩ | ⟨q, vm₁, ⟨U', l2, c2, s2⟩, hW₁, X', ⟨g', mk, t, L, E, ce, e1, e2, hq, hce, hcv, hcl, h1, hL, h2, h3⟩, st⟩
  · dsimp only [Pt.U, Pt.locs, Pt.cells, Pt.slots] at X' e1 e2 h1 h2 h3 st
    subst h1; subst h2; subst h3
    exact Or.inl ⟨v, (T.setVm vm₁).calling g' mk As.toArray, t, U', L, hT, X', hL, e1, e2, hq, st⟩
  · dsimp only [Pt.U, Pt.locs, Pt.cells, Pt.slots] at X' e1 e2 h1 h2 h3 st hcl
    subst h1; subst h2; subst h3
    exact Or.inr ⟨q, (T.setVm vm₁).calling g' mk As.toArray, t, U', L, E, ce, hT, X', hL, e1, e2, hq, hce, hcv, vx_cls hW₁ hcl, st⟩
end
end VXH
theorem vx_ofWH {l : Launch} {y : MethodName} {ws ws' : List Cond} {rm : Room} {Pc : Array Value → State → Prop} {Qc : Array Value → State → Outcome → State → Prop} {XC : String → State → State → Prop} {mc ms : Nat} {free : Addr → Prop} {cc : ByteArray} {maxL : Nat} {ret : Option FieldType} {hh : List (Nat × Nat × Nat × Nat)}
    (hy : plainName y.cls = true) (hw : ws = Cond.codeWith y cc maxL ret hh :: ws')
    (body : ∀ p e s m args below meth c s₁, BodyLoose p l y (headSpec ws rm) cc maxL ret e s m args below meth c s₁ → c.maxLocals = maxL → Pc args s →
      W p l e (headSpec ws rm).room s m args below meth c s.heap [] 0 0 (vx_MQ below Qc XC args s mc ms free) (entryFrame m args maxL)) : vx_Met l y ws rm Pc Qc XC mc ms free := by
  refine MetFree.of_bodyS (code := cc) (maxLocals := maxL) (ret := ret) hy ?_ ?_
  · intro args s m h hn
    obtain ⟨m9, meth, c, hn9, h1, h2, h3, h4, -, h5, h6, -⟩ := Cond.codeWith_spec (atoms_spec (ws := ws) h _ (by rw [hw]; exact List.mem_cons_self))
    cases hn.symm.trans hn9
    exact ⟨meth, c, h1, h2, h3, h4, h5, h6⟩
  · intro p e s m args below meth c s₁ B hml hP _
    have hh0 : s₁.heap = s.heap := by rw [B.state]; rfl
    obtain ⟨t, a1, o, b1, b2, b3⟩ := body p e s m args below meth c s₁ B hml hP s₁ hh0 (Stand.of_body B)
    exact ⟨t, o, a1, b1, b2, b3⟩
/-! ===== END ===== -/
end
section
/-! ===== BEGIN printed: names, fields, word lists, decode rows ===== -/
def RX0 : String := "HallDiary$DayPlan"
def TX0 : u_T := fun k => match k with
  | 0 => ("HallDiary$DayPlan", "lets", "[LHallDiary$Let;", true)
  | 1 => ("HallDiary$DayPlan", "size", "I", false)
  | 2 => ("HallDiary$DayPlan", "cleanFrom", "[I", true)
  | _ => ("HallDiary$DayPlan", "cleanerFreeFrom", "I", false)
def tyX0 : Nat → FieldType := fun k => match k with
  | 0 => .array (.object "HallDiary$Let")
  | 1 => .int
  | 2 => .array .int
  | _ => .int
abbrev wsX00 : List Cond := u_ws RX0 TX0 4
theorem nmX0 : ∀ a, a < 4 → ∀ b, b < 4 → a ≠ b → (TX0 a).2.1 ≠ (TX0 b).2.1 := by decide +kernel
theorem tyX0_ok : ∀ k, k < 4 → parseFieldDescriptor (TX0 k).2.2.1 = some (tyX0 k) := by decide +kernel
abbrev cX0_init : ByteArray := prog_2_method_1_code
def yX0_init : MethodName := ⟨RX0, "<init>", "()V"⟩
abbrev cX0_open : ByteArray := prog_2_method_2_code
def yX0_open : MethodName := ⟨RX0, "open", "(LHallDiary$State;I)V"⟩
abbrev cX0_enterAll : ByteArray := prog_2_method_3_code
def yX0_enterAll : MethodName := ⟨RX0, "enterAll", "(LHallDiary$Roll;I)V"⟩
abbrev cX0_reasonAgainst : ByteArray := prog_2_method_4_code
def yX0_reasonAgainst : MethodName := ⟨RX0, "reasonAgainst", "(LHallDiary$Let;I)I"⟩
abbrev cX0_canBeCleanedWith : ByteArray := prog_2_method_5_code
def yX0_canBeCleanedWith : MethodName := ⟨RX0, "canBeCleanedWith", "(LHallDiary$Let;I)Z"⟩
abbrev cX0_canBeCleaned : ByteArray := prog_2_method_6_code
def yX0_canBeCleaned : MethodName := ⟨RX0, "canBeCleaned", "(I)Z"⟩
abbrev cX0_startCleaning : ByteArray := prog_2_method_7_code
def yX0_startCleaning : MethodName := ⟨RX0, "startCleaning", "()V"⟩
abbrev cX0_isServed : ByteArray := prog_2_method_8_code
def yX0_isServed : MethodName := ⟨RX0, "isServed", "(LHallDiary$Let;I)Z"⟩
abbrev cX0_tenantAt : ByteArray := prog_2_method_9_code
def yX0_tenantAt : MethodName := ⟨RX0, "tenantAt", "(II)I"⟩
abbrev cX0_sumIn : ByteArray := prog_2_method_10_code
def yX0_sumIn : MethodName := ⟨RX0, "sumIn", "(II)I"⟩
abbrev cX0_hoursWithoutTenant : ByteArray := prog_2_method_11_code
def yX0_hoursWithoutTenant : MethodName := ⟨RX0, "hoursWithoutTenant", "(I)I"⟩
def RX1 : String := "HallDiary$Let"
def TX1 : u_T := fun k => match k with
  | 0 => ("HallDiary$Let", "hall", "I", false)
  | 1 => ("HallDiary$Let", "weekday", "I", false)
  | 2 => ("HallDiary$Let", "from", "I", false)
  | 3 => ("HallDiary$Let", "to", "I", false)
  | 4 => ("HallDiary$Let", "rank", "I", false)
  | 5 => ("HallDiary$Let", "tenant", "I", false)
  | 6 => ("HallDiary$Let", "rent", "I", false)
  | 7 => ("HallDiary$Let", "firstWeek", "I", false)
  | 8 => ("HallDiary$Let", "lastWeek", "I", false)
  | _ => ("HallDiary$Let", "weeks", "I", false)
def tyX1 : Nat → FieldType := fun k => match k with
  | 0 => .int
  | 1 => .int
  | 2 => .int
  | 3 => .int
  | 4 => .int
  | 5 => .int
  | 6 => .int
  | 7 => .int
  | 8 => .int
  | _ => .int
abbrev wsX10 : List Cond := u_ws RX1 TX1 10
theorem nmX1 : ∀ a, a < 10 → ∀ b, b < 10 → a ≠ b → (TX1 a).2.1 ≠ (TX1 b).2.1 := by decide +kernel
theorem tyX1_ok : ∀ k, k < 10 → parseFieldDescriptor (TX1 k).2.2.1 = some (tyX1 k) := by decide +kernel
abbrev cX1_init : ByteArray := prog_3_method_1_code
def yX1_init : MethodName := ⟨RX1, "<init>", "()V"⟩
abbrev cX1_place : ByteArray := prog_3_method_2_code
def yX1_place : MethodName := ⟨RX1, "place", "(IIII)V"⟩
abbrev cX1_become : ByteArray := prog_3_method_3_code
def yX1_become : MethodName := ⟨RX1, "become", "(LHallDiary$Let;)V"⟩
abbrev cX1_standsOn : ByteArray := prog_3_method_4_code
def yX1_standsOn : MethodName := ⟨RX1, "standsOn", "(I)Z"⟩
abbrev cX1_leaveOut : ByteArray := prog_3_method_5_code
def yX1_leaveOut : MethodName := ⟨RX1, "leaveOut", "(I)V"⟩
abbrev cX1_daysStanding : ByteArray := prog_3_method_6_code
def yX1_daysStanding : MethodName := ⟨RX1, "daysStanding", "()I"⟩
abbrev cX1_rentsInAll : ByteArray := prog_3_method_7_code
def yX1_rentsInAll : MethodName := ⟨RX1, "rentsInAll", "()I"⟩
abbrev cX1_shareOfDay : ByteArray := prog_3_method_8_code
def yX1_shareOfDay : MethodName := ⟨RX1, "shareOfDay", "(I)I"⟩
abbrev cX1_firstDay : ByteArray := prog_3_method_9_code
def yX1_firstDay : MethodName := ⟨RX1, "firstDay", "()I"⟩
abbrev cX1_clashesWith : ByteArray := prog_3_method_10_code
def yX1_clashesWith : MethodName := ⟨RX1, "clashesWith", "(LHallDiary$Let;I)Z"⟩
abbrev cX1_isCleanedBefore : ByteArray := prog_3_method_11_code
def yX1_isCleanedBefore : MethodName := ⟨RX1, "isCleanedBefore", "(LHallDiary$Let;)Z"⟩
def RX2 : String := "HallDiary$LetText"
def TX2 : u_T := fun k => match k with
  | 0 => ("HallDiary$LetText", "codes", "[I", true)
  | 1 => ("HallDiary$LetText", "length", "I", false)
  | 2 => ("HallDiary$LetText", "numbers", "[I", true)
  | 3 => ("HallDiary$LetText", "slot", "I", false)
  | _ => ("HallDiary$LetText", "digits", "I", false)
def tyX2 : Nat → FieldType := fun k => match k with
  | 0 => .array .int
  | 1 => .int
  | 2 => .array .int
  | 3 => .int
  | _ => .int
abbrev wsX20 : List Cond := u_ws RX2 TX2 5
theorem nmX2 : ∀ a, a < 5 → ∀ b, b < 5 → a ≠ b → (TX2 a).2.1 ≠ (TX2 b).2.1 := by decide +kernel
theorem tyX2_ok : ∀ k, k < 5 → parseFieldDescriptor (TX2 k).2.2.1 = some (tyX2 k) := by decide +kernel
abbrev cX2_init : ByteArray := prog_4_method_1_code
def yX2_init : MethodName := ⟨RX2, "<init>", "()V"⟩
abbrev cX2_isFull : ByteArray := prog_4_method_2_code
def yX2_isFull : MethodName := ⟨RX2, "isFull", "()Z"⟩
abbrev cX2_push : ByteArray := prog_4_method_3_code
def yX2_push : MethodName := ⟨RX2, "push", "(I)V"⟩
abbrev cX2_startReading : ByteArray := prog_4_method_4_code
def yX2_startReading : MethodName := ⟨RX2, "startReading", "()V"⟩
abbrev cX2_firstBadIndex : ByteArray := prog_4_method_5_code
def yX2_firstBadIndex : MethodName := ⟨RX2, "firstBadIndex", "()I"⟩
abbrev cX2_isComplete : ByteArray := prog_4_method_6_code
def yX2_isComplete : MethodName := ⟨RX2, "isComplete", "()Z"⟩
abbrev cX2_endsPart : ByteArray := prog_4_method_7_code
def yX2_endsPart : MethodName := ⟨RX2, "endsPart", "(I)Z"⟩
abbrev cX2_accepts : ByteArray := prog_4_method_8_code
def yX2_accepts : MethodName := ⟨RX2, "accepts", "(I)Z"⟩
abbrev cX2_acceptsDigit : ByteArray := prog_4_method_9_code
def yX2_acceptsDigit : MethodName := ⟨RX2, "acceptsDigit", "(I)Z"⟩
def RX3 : String := "HallDiary$Roll"
def TX3 : u_T := fun k => match k with
  | 0 => ("HallDiary$Roll", "rows", "[LHallDiary$Let;", true)
  | _ => ("HallDiary$Roll", "size", "I", false)
def tyX3 : Nat → FieldType := fun k => match k with
  | 0 => .array (.object "HallDiary$Let")
  | _ => .int
abbrev wsX30 : List Cond := u_ws RX3 TX3 2
theorem nmX3 : ∀ a, a < 2 → ∀ b, b < 2 → a ≠ b → (TX3 a).2.1 ≠ (TX3 b).2.1 := by decide +kernel
theorem tyX3_ok : ∀ k, k < 2 → parseFieldDescriptor (TX3 k).2.2.1 = some (tyX3 k) := by decide +kernel
abbrev cX3_init : ByteArray := prog_5_method_1_code
def yX3_init : MethodName := ⟨RX3, "<init>", "(I)V"⟩
abbrev cX3_isFull : ByteArray := prog_5_method_2_code
def yX3_isFull : MethodName := ⟨RX3, "isFull", "()Z"⟩
abbrev cX3_add : ByteArray := prog_5_method_3_code
def yX3_add : MethodName := ⟨RX3, "add", "(LHallDiary$Let;)V"⟩
abbrev cX3_remove : ByteArray := prog_5_method_4_code
def yX3_remove : MethodName := ⟨RX3, "remove", "(I)V"⟩
abbrev cX3_become : ByteArray := prog_5_method_5_code
def yX3_become : MethodName := ⟨RX3, "become", "(LHallDiary$Roll;)V"⟩
abbrev cX3_sumFor : ByteArray := prog_5_method_6_code
def yX3_sumFor : MethodName := ⟨RX3, "sumFor", "(II)I"⟩
abbrev cX3_hoursIn : ByteArray := prog_5_method_7_code
def yX3_hoursIn : MethodName := ⟨RX3, "hoursIn", "(I)I"⟩
def RX4 : String := "HallDiary$State"
def TX4 : u_T := fun k => match k with
  | 0 => ("HallDiary$State", "regulars", "LHallDiary$Roll;", true)
  | 1 => ("HallDiary$State", "singles", "LHallDiary$Roll;", true)
  | 2 => ("HallDiary$State", "rates", "[I", true)
  | 3 => ("HallDiary$State", "settings", "[I", true)
  | 4 => ("HallDiary$State", "paid", "I", false)
  | 5 => ("HallDiary$State", "givenBack", "I", false)
  | _ => ("HallDiary$State", "gaveWay", "I", false)
def tyX4 : Nat → FieldType := fun k => match k with
  | 0 => .object "HallDiary$Roll"
  | 1 => .object "HallDiary$Roll"
  | 2 => .array .int
  | 3 => .array .int
  | 4 => .int
  | 5 => .int
  | _ => .int
abbrev wsX40 : List Cond := u_ws RX4 TX4 7
theorem nmX4 : ∀ a, a < 7 → ∀ b, b < 7 → a ≠ b → (TX4 a).2.1 ≠ (TX4 b).2.1 := by decide +kernel
theorem tyX4_ok : ∀ k, k < 7 → parseFieldDescriptor (TX4 k).2.2.1 = some (tyX4 k) := by decide +kernel
abbrev cX4_init : ByteArray := prog_6_method_1_code
def yX4_init : MethodName := ⟨RX4, "<init>", "()V"⟩
abbrev cX4_become : ByteArray := prog_6_method_2_code
def yX4_become : MethodName := ⟨RX4, "become", "(LHallDiary$State;)V"⟩
abbrev cX4_sumFor : ByteArray := prog_6_method_3_code
def yX4_sumFor : MethodName := ⟨RX4, "sumFor", "(II)I"⟩
abbrev cX4_giveWayTo : ByteArray := prog_6_method_4_code
def yX4_giveWayTo : MethodName := ⟨RX4, "giveWayTo", "(LHallDiary$Let;I)I"⟩
abbrev cX4_givesWay : ByteArray := prog_6_method_5_code
def yX4_givesWay : MethodName := ⟨RX4, "givesWay", "(LHallDiary$Let;LHallDiary$Let;I)Z"⟩
abbrev cX4_letGo : ByteArray := prog_6_method_6_code
def yX4_letGo : MethodName := ⟨RX4, "letGo", "(LHallDiary$Let;)V"⟩
def RX5 : String := "HallDiary"
def TX5 : u_T := fun k => match k with
  | 0 => ("HallDiary", "now", "LHallDiary$State;", true)
  | 1 => ("HallDiary", "snapshot", "LHallDiary$State;", true)
  | 2 => ("HallDiary", "hasSnapshot", "Z", false)
  | 3 => ("HallDiary", "saved", "[LHallDiary$State;", true)
  | 4 => ("HallDiary", "savedSize", "I", false)
  | 5 => ("HallDiary", "text", "LHallDiary$LetText;", true)
  | 6 => ("HallDiary", "plan", "LHallDiary$DayPlan;", true)
  | _ => ("HallDiary", "draft", "LHallDiary$Let;", true)
def tyX5 : Nat → FieldType := fun k => match k with
  | 0 => .object "HallDiary$State"
  | 1 => .object "HallDiary$State"
  | 2 => .boolean
  | 3 => .array (.object "HallDiary$State")
  | 4 => .int
  | 5 => .object "HallDiary$LetText"
  | 6 => .object "HallDiary$DayPlan"
  | _ => .object "HallDiary$Let"
abbrev wsX50 : List Cond := u_ws RX5 TX5 8
theorem nmX5 : ∀ a, a < 8 → ∀ b, b < 8 → a ≠ b → (TX5 a).2.1 ≠ (TX5 b).2.1 := by decide +kernel
theorem tyX5_ok : ∀ k, k < 8 → parseFieldDescriptor (TX5 k).2.2.1 = some (tyX5 k) := by decide +kernel
abbrev cX5_init : ByteArray := prog_1_method_1_code
def yX5_init : MethodName := ⟨RX5, "<init>", "()V"⟩
abbrev cX5_regular : ByteArray := prog_1_method_2_code
def yX5_regular : MethodName := ⟨RX5, "regular", "(IIIIII)I"⟩
abbrev cX5_single : ByteArray := prog_1_method_3_code
def yX5_single : MethodName := ⟨RX5, "single", "(IIIIII)I"⟩
abbrev cX5_cancel : ByteArray := prog_1_method_4_code
def yX5_cancel : MethodName := ⟨RX5, "cancel", "(ZI)I"⟩
abbrev cX5_off : ByteArray := prog_1_method_5_code
def yX5_off : MethodName := ⟨RX5, "off", "(II)I"⟩
abbrev cX5_rate : ByteArray := prog_1_method_6_code
def yX5_rate : MethodName := ⟨RX5, "rate", "(II)I"⟩
abbrev cX5_set : ByteArray := prog_1_method_7_code
def yX5_set : MethodName := ⟨RX5, "set", "(II)I"⟩
abbrev cX5_append : ByteArray := prog_1_method_8_code
def yX5_append : MethodName := ⟨RX5, "append", "(I)I"⟩
abbrev cX5_clearBuffer : ByteArray := prog_1_method_9_code
def yX5_clearBuffer : MethodName := ⟨RX5, "clearBuffer", "()I"⟩
abbrev cX5_firstError : ByteArray := prog_1_method_10_code
def yX5_firstError : MethodName := ⟨RX5, "firstError", "()I"⟩
abbrev cX5_lets : ByteArray := prog_1_method_11_code
def yX5_lets : MethodName := ⟨RX5, "lets", "()I"⟩
abbrev cX5_undo : ByteArray := prog_1_method_12_code
def yX5_undo : MethodName := ⟨RX5, "undo", "()I"⟩
abbrev cX5_keep : ByteArray := prog_1_method_13_code
def yX5_keep : MethodName := ⟨RX5, "keep", "()I"⟩
abbrev cX5_restore : ByteArray := prog_1_method_14_code
def yX5_restore : MethodName := ⟨RX5, "restore", "()I"⟩
abbrev cX5_regularOf : ByteArray := prog_1_method_15_code
def yX5_regularOf : MethodName := ⟨RX5, "regularOf", "(II)I"⟩
abbrev cX5_singleOf : ByteArray := prog_1_method_16_code
def yX5_singleOf : MethodName := ⟨RX5, "singleOf", "(II)I"⟩
abbrev cX5_who : ByteArray := prog_1_method_17_code
def yX5_who : MethodName := ⟨RX5, "who", "(III)I"⟩
abbrev cX5_hallOf : ByteArray := prog_1_method_18_code
def yX5_hallOf : MethodName := ⟨RX5, "hallOf", "(III)I"⟩
abbrev cX5_tenant : ByteArray := prog_1_method_19_code
def yX5_tenant : MethodName := ⟨RX5, "tenant", "(II)I"⟩
abbrev cX5_count : ByteArray := prog_1_method_20_code
def yX5_count : MethodName := ⟨RX5, "count", "(I)I"⟩
abbrev cX5_refusal : ByteArray := prog_1_method_21_code
def yX5_refusal : MethodName := ⟨RX5, "refusal", "(IIIII)I"⟩
abbrev cX5_price : ByteArray := prog_1_method_22_code
def yX5_price : MethodName := ⟨RX5, "price", "(IIII)I"⟩
abbrev cX5_nextFree : ByteArray := prog_1_method_23_code
def yX5_nextFree : MethodName := ⟨RX5, "nextFree", "(III)I"⟩
abbrev cX5_best : ByteArray := prog_1_method_24_code
def yX5_best : MethodName := ⟨RX5, "best", "()I"⟩
abbrev cX5_fullness : ByteArray := prog_1_method_25_code
def yX5_fullness : MethodName := ⟨RX5, "fullness", "(I)D"⟩
abbrev cX5_meanRent : ByteArray := prog_1_method_26_code
def yX5_meanRent : MethodName := ⟨RX5, "meanRent", "()F"⟩
abbrev cX5_digest : ByteArray := prog_1_method_27_code
def yX5_digest : MethodName := ⟨RX5, "digest", "()J"⟩
abbrev cX5_digestLets : ByteArray := prog_1_method_28_code
def yX5_digestLets : MethodName := ⟨RX5, "digestLets", "(J)J"⟩
abbrev cX5_digestHall : ByteArray := prog_1_method_29_code
def yX5_digestHall : MethodName := ⟨RX5, "digestHall", "(JI)J"⟩
abbrev cX5_bitsOf : ByteArray := prog_1_method_30_code
def yX5_bitsOf : MethodName := ⟨RX5, "bitsOf", "(DII)J"⟩
abbrev cX5_isIn : ByteArray := prog_1_method_31_code
def yX5_isIn : MethodName := ⟨RX5, "isIn", "(III)Z"⟩
abbrev cX5_need : ByteArray := prog_1_method_32_code
def yX5_need : MethodName := ⟨RX5, "need", "(Z)V"⟩
abbrev cX5_needHall : ByteArray := prog_1_method_33_code
def yX5_needHall : MethodName := ⟨RX5, "needHall", "(I)V"⟩
abbrev cX5_needLet : ByteArray := prog_1_method_34_code
def yX5_needLet : MethodName := ⟨RX5, "needLet", "(LHallDiary$Roll;I)V"⟩
abbrev cX5_needDay : ByteArray := prog_1_method_35_code
def yX5_needDay : MethodName := ⟨RX5, "needDay", "(I)V"⟩
abbrev cX5_needHours : ByteArray := prog_1_method_36_code
def yX5_needHours : MethodName := ⟨RX5, "needHours", "(II)V"⟩
abbrev cX5_draftSingle : ByteArray := prog_1_method_37_code
def yX5_draftSingle : MethodName := ⟨RX5, "draftSingle", "(IIIIII)V"⟩
abbrev cX5_draftRegular : ByteArray := prog_1_method_38_code
def yX5_draftRegular : MethodName := ⟨RX5, "draftRegular", "(IIIIII)V"⟩
abbrev cX5_rentForDay : ByteArray := prog_1_method_39_code
def yX5_rentForDay : MethodName := ⟨RX5, "rentForDay", "(IIII)I"⟩
abbrev cX5_reasonAgainstDraft : ByteArray := prog_1_method_40_code
def yX5_reasonAgainstDraft : MethodName := ⟨RX5, "reasonAgainstDraft", "(I)I"⟩
abbrev cX5_firstFreeHour : ByteArray := prog_1_method_41_code
def yX5_firstFreeHour : MethodName := ⟨RX5, "firstFreeHour", "(III)I"⟩
abbrev cX5_makeSingle : ByteArray := prog_1_method_42_code
def yX5_makeSingle : MethodName := ⟨RX5, "makeSingle", "(I)I"⟩
abbrev cX5_makeRegular : ByteArray := prog_1_method_43_code
def yX5_makeRegular : MethodName := ⟨RX5, "makeRegular", "()V"⟩
abbrev cX5_makesPart : ByteArray := prog_1_method_44_code
def yX5_makesPart : MethodName := ⟨RX5, "makesPart", "([I)Z"⟩
abbrev cX5_allowsSetting : ByteArray := prog_1_method_45_code
def yX5_allowsSetting : MethodName := ⟨RX5, "allowsSetting", "(II)Z"⟩
abbrev cX5_allDaysCanBeCleaned : ByteArray := prog_1_method_46_code
def yX5_allDaysCanBeCleaned : MethodName := ⟨RX5, "allDaysCanBeCleaned", "(I)Z"⟩
abbrev cX5_commonNumber : ByteArray := prog_1_method_47_code
def yX5_commonNumber : MethodName := ⟨RX5, "commonNumber", "(LHallDiary$Let;I)I"⟩
abbrev cX5_saveState : ByteArray := prog_1_method_48_code
def yX5_saveState : MethodName := ⟨RX5, "saveState", "()V"⟩
def RX6 : String := "HallDiaryModel"
def TX6 : u_T := fun k => match k with
  | 0 => ("HallDiaryModel", "row", "[I", true)
  | 1 => ("HallDiaryModel", "saved", "[I", true)
  | 2 => ("HallDiaryModel", "savedMany", "I", false)
  | 3 => ("HallDiaryModel", "snapshot", "[I", true)
  | 4 => ("HallDiaryModel", "isKept", "Z", false)
  | 5 => ("HallDiaryModel", "thrown", "I", false)
  | 6 => ("HallDiaryModel", "at", "[I", true)
  | 7 => ("HallDiaryModel", "many", "I", false)
  | 8 => ("HallDiaryModel", "cleanHall", "[I", true)
  | 9 => ("HallDiaryModel", "cleanFrom", "[I", true)
  | 10 => ("HallDiaryModel", "cleanTo", "[I", true)
  | 11 => ("HallDiaryModel", "cleans", "I", false)
  | 12 => ("HallDiaryModel", "buffer", "[I", true)
  | 13 => ("HallDiaryModel", "length", "I", false)
  | 14 => ("HallDiaryModel", "spot", "I", false)
  | 15 => ("HallDiaryModel", "number", "I", false)
  | 16 => ("HallDiaryModel", "parts", "I", false)
  | 17 => ("HallDiaryModel", "part", "[I", true)
  | _ => ("HallDiaryModel", "hash", "J", false)
def tyX6 : Nat → FieldType := fun k => match k with
  | 0 => .array .int
  | 1 => .array .int
  | 2 => .int
  | 3 => .array .int
  | 4 => .boolean
  | 5 => .int
  | 6 => .array .int
  | 7 => .int
  | 8 => .array .int
  | 9 => .array .int
  | 10 => .array .int
  | 11 => .int
  | 12 => .array .int
  | 13 => .int
  | 14 => .int
  | 15 => .int
  | 16 => .int
  | 17 => .array .int
  | _ => .long
abbrev wsX60 : List Cond := u_ws RX6 TX6 19
theorem nmX6 : ∀ a, a < 19 → ∀ b, b < 19 → a ≠ b → (TX6 a).2.1 ≠ (TX6 b).2.1 := by decide +kernel
theorem tyX6_ok : ∀ k, k < 19 → parseFieldDescriptor (TX6 k).2.2.1 = some (tyX6 k) := by decide +kernel
abbrev cX6_init : ByteArray := prog_8_method_1_code
def yX6_init : MethodName := ⟨RX6, "<init>", "()V"⟩
abbrev cX6_thrown : ByteArray := prog_8_method_2_code
def yX6_thrown : MethodName := ⟨RX6, "thrown", "()I"⟩
abbrev cX6_fails : ByteArray := prog_8_method_3_code
def yX6_fails : MethodName := ⟨RX6, "fails", "(I)I"⟩
abbrev cX6_in : ByteArray := prog_8_method_4_code
def yX6_in : MethodName := ⟨RX6, "in", "(III)Z"⟩
abbrev cX6_isHall : ByteArray := prog_8_method_5_code
def yX6_isHall : MethodName := ⟨RX6, "isHall", "(I)Z"⟩
abbrev cX6_isDay : ByteArray := prog_8_method_6_code
def yX6_isDay : MethodName := ⟨RX6, "isDay", "(I)Z"⟩
abbrev cX6_areHours : ByteArray := prog_8_method_7_code
def yX6_areHours : MethodName := ⟨RX6, "areHours", "(II)Z"⟩
abbrev cX6_isWho : ByteArray := prog_8_method_8_code
def yX6_isWho : MethodName := ⟨RX6, "isWho", "(II)Z"⟩
abbrev cX6_weekly : ByteArray := prog_8_method_9_code
def yX6_weekly : MethodName := ⟨RX6, "weekly", "(II)I"⟩
abbrev cX6_dated : ByteArray := prog_8_method_10_code
def yX6_dated : MethodName := ⟨RX6, "dated", "(II)I"⟩
abbrev cX6_save : ByteArray := prog_8_method_11_code
def yX6_save : MethodName := ⟨RX6, "save", "()V"⟩
abbrev cX6_allLets : ByteArray := prog_8_method_12_code
def yX6_allLets : MethodName := ⟨RX6, "allLets", "()I"⟩
abbrev cX6_undo : ByteArray := prog_8_method_13_code
def yX6_undo : MethodName := ⟨RX6, "undo", "()I"⟩
abbrev cX6_keep : ByteArray := prog_8_method_14_code
def yX6_keep : MethodName := ⟨RX6, "keep", "()I"⟩
abbrev cX6_restore : ByteArray := prog_8_method_15_code
def yX6_restore : MethodName := ⟨RX6, "restore", "()I"⟩
abbrev cX6_standsOn : ByteArray := prog_8_method_16_code
def yX6_standsOn : MethodName := ⟨RX6, "standsOn", "(II)Z"⟩
abbrev cX6_look : ByteArray := prog_8_method_17_code
def yX6_look : MethodName := ⟨RX6, "look", "(I)V"⟩
abbrev cX6_daysOf : ByteArray := prog_8_method_18_code
def yX6_daysOf : MethodName := ⟨RX6, "daysOf", "(I)I"⟩
abbrev cX6_clashes : ByteArray := prog_8_method_19_code
def yX6_clashes : MethodName := ⟨RX6, "clashes", "(IIII)Z"⟩
abbrev cX6_addCleaning : ByteArray := prog_8_method_20_code
def yX6_addCleaning : MethodName := ⟨RX6, "addCleaning", "(III)V"⟩
abbrev cX6_isCleaned : ByteArray := prog_8_method_21_code
def yX6_isCleaned : MethodName := ⟨RX6, "isCleaned", "()Z"⟩
abbrev cX6_reason : ByteArray := prog_8_method_22_code
def yX6_reason : MethodName := ⟨RX6, "reason", "(IIIII)I"⟩
abbrev cX6_refusalOf : ByteArray := prog_8_method_23_code
def yX6_refusalOf : MethodName := ⟨RX6, "refusalOf", "(IIIII)I"⟩
abbrev cX6_rent : ByteArray := prog_8_method_24_code
def yX6_rent : MethodName := ⟨RX6, "rent", "(IIII)I"⟩
abbrev cX6_singleRent : ByteArray := prog_8_method_25_code
def yX6_singleRent : MethodName := ⟨RX6, "singleRent", "(IIII)I"⟩
abbrev cX6_regularRent : ByteArray := prog_8_method_26_code
def yX6_regularRent : MethodName := ⟨RX6, "regularRent", "(IIII)I"⟩
abbrev cX6_removeSingle : ByteArray := prog_8_method_27_code
def yX6_removeSingle : MethodName := ⟨RX6, "removeSingle", "(I)V"⟩
abbrev cX6_removeRegular : ByteArray := prog_8_method_28_code
def yX6_removeRegular : MethodName := ⟨RX6, "removeRegular", "(I)V"⟩
abbrev cX6_giveWay : ByteArray := prog_8_method_29_code
def yX6_giveWay : MethodName := ⟨RX6, "giveWay", "(IIII)I"⟩
abbrev cX6_lay : ByteArray := prog_8_method_30_code
def yX6_lay : MethodName := ⟨RX6, "lay", "(IIIIIII)V"⟩
abbrev cX6_makeSingle : ByteArray := prog_8_method_31_code
def yX6_makeSingle : MethodName := ⟨RX6, "makeSingle", "(IIIIII)I"⟩
abbrev cX6_single : ByteArray := prog_8_method_32_code
def yX6_single : MethodName := ⟨RX6, "single", "(IIIIII)I"⟩
abbrev cX6_offWeeks : ByteArray := prog_8_method_33_code
def yX6_offWeeks : MethodName := ⟨RX6, "offWeeks", "(IIIII)I"⟩
abbrev cX6_makeRegular : ByteArray := prog_8_method_34_code
def yX6_makeRegular : MethodName := ⟨RX6, "makeRegular", "(IIIIII)I"⟩
abbrev cX6_standsSomewhere : ByteArray := prog_8_method_35_code
def yX6_standsSomewhere : MethodName := ⟨RX6, "standsSomewhere", "(I)Z"⟩
abbrev cX6_regular : ByteArray := prog_8_method_36_code
def yX6_regular : MethodName := ⟨RX6, "regular", "(IIIIII)I"⟩
abbrev cX6_cancelRegular : ByteArray := prog_8_method_37_code
def yX6_cancelRegular : MethodName := ⟨RX6, "cancelRegular", "(I)I"⟩
abbrev cX6_cancelSingle : ByteArray := prog_8_method_38_code
def yX6_cancelSingle : MethodName := ⟨RX6, "cancelSingle", "(I)I"⟩
abbrev cX6_cancel : ByteArray := prog_8_method_39_code
def yX6_cancel : MethodName := ⟨RX6, "cancel", "(ZI)I"⟩
abbrev cX6_off : ByteArray := prog_8_method_40_code
def yX6_off : MethodName := ⟨RX6, "off", "(II)I"⟩
abbrev cX6_rate : ByteArray := prog_8_method_41_code
def yX6_rate : MethodName := ⟨RX6, "rate", "(II)I"⟩
abbrev cX6_maySet : ByteArray := prog_8_method_42_code
def yX6_maySet : MethodName := ⟨RX6, "maySet", "(II)Z"⟩
abbrev cX6_isGood : ByteArray := prog_8_method_43_code
def yX6_isGood : MethodName := ⟨RX6, "isGood", "(I)Z"⟩
abbrev cX6_isGoodWith : ByteArray := prog_8_method_44_code
def yX6_isGoodWith : MethodName := ⟨RX6, "isGoodWith", "(II)Z"⟩
abbrev cX6_set : ByteArray := prog_8_method_45_code
def yX6_set : MethodName := ⟨RX6, "set", "(II)I"⟩
abbrev cX6_append : ByteArray := prog_8_method_46_code
def yX6_append : MethodName := ⟨RX6, "append", "(I)I"⟩
abbrev cX6_clearBuffer : ByteArray := prog_8_method_47_code
def yX6_clearBuffer : MethodName := ⟨RX6, "clearBuffer", "()I"⟩
abbrev cX6_isAt : ByteArray := prog_8_method_48_code
def yX6_isAt : MethodName := ⟨RX6, "isAt", "(II)Z"⟩
abbrev cX6_takes : ByteArray := prog_8_method_49_code
def yX6_takes : MethodName := ⟨RX6, "takes", "(I)Z"⟩
abbrev cX6_reads : ByteArray := prog_8_method_50_code
def yX6_reads : MethodName := ⟨RX6, "reads", "(III)Z"⟩
abbrev cX6_readPart : ByteArray := prog_8_method_51_code
def yX6_readPart : MethodName := ⟨RX6, "readPart", "()Z"⟩
abbrev cX6_areLets : ByteArray := prog_8_method_52_code
def yX6_areLets : MethodName := ⟨RX6, "areLets", "()Z"⟩
abbrev cX6_firstError : ByteArray := prog_8_method_53_code
def yX6_firstError : MethodName := ⟨RX6, "firstError", "()I"⟩
abbrev cX6_lets : ByteArray := prog_8_method_54_code
def yX6_lets : MethodName := ⟨RX6, "lets", "()I"⟩
abbrev cX6_firstDayOf : ByteArray := prog_8_method_55_code
def yX6_firstDayOf : MethodName := ⟨RX6, "firstDayOf", "(I)I"⟩
abbrev cX6_ofRegular : ByteArray := prog_8_method_56_code
def yX6_ofRegular : MethodName := ⟨RX6, "ofRegular", "(II)I"⟩
abbrev cX6_regularOf : ByteArray := prog_8_method_57_code
def yX6_regularOf : MethodName := ⟨RX6, "regularOf", "(II)I"⟩
abbrev cX6_singleOf : ByteArray := prog_8_method_58_code
def yX6_singleOf : MethodName := ⟨RX6, "singleOf", "(II)I"⟩
abbrev cX6_tenantAt : ByteArray := prog_8_method_59_code
def yX6_tenantAt : MethodName := ⟨RX6, "tenantAt", "(III)I"⟩
abbrev cX6_who : ByteArray := prog_8_method_60_code
def yX6_who : MethodName := ⟨RX6, "who", "(III)I"⟩
abbrev cX6_inHall : ByteArray := prog_8_method_61_code
def yX6_inHall : MethodName := ⟨RX6, "inHall", "(III)I"⟩
abbrev cX6_ofHall : ByteArray := prog_8_method_62_code
def yX6_ofHall : MethodName := ⟨RX6, "ofHall", "(III)I"⟩
abbrev cX6_hallOf : ByteArray := prog_8_method_63_code
def yX6_hallOf : MethodName := ⟨RX6, "hallOf", "(III)I"⟩
abbrev cX6_ofTenant : ByteArray := prog_8_method_64_code
def yX6_ofTenant : MethodName := ⟨RX6, "ofTenant", "(II)I"⟩
abbrev cX6_tenant : ByteArray := prog_8_method_65_code
def yX6_tenant : MethodName := ⟨RX6, "tenant", "(II)I"⟩
abbrev cX6_count0 : ByteArray := prog_8_method_66_code
def yX6_count0 : MethodName := ⟨RX6, "count0", "(I)I"⟩
abbrev cX6_count : ByteArray := prog_8_method_67_code
def yX6_count : MethodName := ⟨RX6, "count", "(I)I"⟩
abbrev cX6_refusal : ByteArray := prog_8_method_68_code
def yX6_refusal : MethodName := ⟨RX6, "refusal", "(IIIII)I"⟩
abbrev cX6_price : ByteArray := prog_8_method_69_code
def yX6_price : MethodName := ⟨RX6, "price", "(IIII)I"⟩
abbrev cX6_freeFrom : ByteArray := prog_8_method_70_code
def yX6_freeFrom : MethodName := ⟨RX6, "freeFrom", "(III)I"⟩
abbrev cX6_nextFree : ByteArray := prog_8_method_71_code
def yX6_nextFree : MethodName := ⟨RX6, "nextFree", "(III)I"⟩
abbrev cX6_bestTenant : ByteArray := prog_8_method_72_code
def yX6_bestTenant : MethodName := ⟨RX6, "bestTenant", "()I"⟩
abbrev cX6_best : ByteArray := prog_8_method_73_code
def yX6_best : MethodName := ⟨RX6, "best", "()I"⟩
abbrev cX6_share : ByteArray := prog_8_method_74_code
def yX6_share : MethodName := ⟨RX6, "share", "(I)D"⟩
abbrev cX6_fullness : ByteArray := prog_8_method_75_code
def yX6_fullness : MethodName := ⟨RX6, "fullness", "(I)D"⟩
abbrev cX6_mean : ByteArray := prog_8_method_76_code
def yX6_mean : MethodName := ⟨RX6, "mean", "()F"⟩
abbrev cX6_meanRent : ByteArray := prog_8_method_77_code
def yX6_meanRent : MethodName := ⟨RX6, "meanRent", "()F"⟩
abbrev cX6_mix : ByteArray := prog_8_method_78_code
def yX6_mix : MethodName := ⟨RX6, "mix", "(J)V"⟩
abbrev cX6_mixLets : ByteArray := prog_8_method_79_code
def yX6_mixLets : MethodName := ⟨RX6, "mixLets", "()V"⟩
abbrev cX6_mixHall : ByteArray := prog_8_method_80_code
def yX6_mixHall : MethodName := ⟨RX6, "mixHall", "(I)V"⟩
abbrev cX6_digest : ByteArray := prog_8_method_81_code
def yX6_digest : MethodName := ⟨RX6, "digest", "()J"⟩
def RJxe99ae : String := "java/lang/Double"
def TJxe99ae : u_T := fun k => match k with
  | _ => ("", "", "", false)
def tyJxe99ae : Nat → FieldType := fun k => match k with
  | _ => .int
abbrev wsJxe99ae0 : List Cond := u_ws RJxe99ae TJxe99ae 0
theorem nmJxe99ae : ∀ a, a < 0 → ∀ b, b < 0 → a ≠ b → (TJxe99ae a).2.1 ≠ (TJxe99ae b).2.1 := by decide +kernel
theorem tyJxe99ae_ok : ∀ k, k < 0 → parseFieldDescriptor (TJxe99ae k).2.2.1 = some (tyJxe99ae k) := by decide +kernel
abbrev cJxe99ae_isNaN_b9ae7 : ByteArray := prog_9_method_6_code
def yJxe99ae_isNaN_b9ae7 : MethodName := ⟨RJxe99ae, "isNaN", "(D)Z"⟩
abbrev cJxe99ae_doubleToLongBits_ccdee : ByteArray := prog_9_method_23_code
def yJxe99ae_doubleToLongBits_ccdee : MethodName := ⟨RJxe99ae, "doubleToLongBits", "(D)J"⟩
def RJxf58ca : String := "java/lang/Float"
def TJxf58ca : u_T := fun k => match k with
  | _ => ("", "", "", false)
def tyJxf58ca : Nat → FieldType := fun k => match k with
  | _ => .int
abbrev wsJxf58ca0 : List Cond := u_ws RJxf58ca TJxf58ca 0
theorem nmJxf58ca : ∀ a, a < 0 → ∀ b, b < 0 → a ≠ b → (TJxf58ca a).2.1 ≠ (TJxf58ca b).2.1 := by decide +kernel
theorem tyJxf58ca_ok : ∀ k, k < 0 → parseFieldDescriptor (TJxf58ca k).2.2.1 = some (tyJxf58ca k) := by decide +kernel
abbrev cJxf58ca_isNaN_12338 : ByteArray := prog_11_method_6_code
def yJxf58ca_isNaN_12338 : MethodName := ⟨RJxf58ca, "isNaN", "(F)Z"⟩
abbrev cJxf58ca_floatToIntBits_5c35a : ByteArray := prog_11_method_24_code
def yJxf58ca_floatToIntBits_5c35a : MethodName := ⟨RJxf58ca, "floatToIntBits", "(F)I"⟩
def RJ6 : String := "java/lang/Integer"
def TJ6 : u_T := fun k => match k with
  | _ => ("", "", "", false)
def tyJ6 : Nat → FieldType := fun k => match k with
  | _ => .int
abbrev wsJ60 : List Cond := u_ws RJ6 TJ6 0
theorem nmJ6 : ∀ a, a < 0 → ∀ b, b < 0 → a ≠ b → (TJ6 a).2.1 ≠ (TJ6 b).2.1 := by decide +kernel
theorem tyJ6_ok : ∀ k, k < 0 → parseFieldDescriptor (TJ6 k).2.2.1 = some (tyJ6 k) := by decide +kernel
abbrev cJ6_bitCount_0f7a4 : ByteArray := prog_15_method_49_code
def yJ6_bitCount_0f7a4 : MethodName := ⟨RJ6, "bitCount", "(I)I"⟩
def RJ9 : String := "java/lang/Math"
def TJ9 : u_T := fun k => match k with
  | _ => ("", "", "", false)
def tyJ9 : Nat → FieldType := fun k => match k with
  | _ => .int
abbrev wsJ90 : List Cond := u_ws RJ9 TJ9 0
theorem nmJ9 : ∀ a, a < 0 → ∀ b, b < 0 → a ≠ b → (TJ9 a).2.1 ≠ (TJ9 b).2.1 := by decide +kernel
theorem tyJ9_ok : ∀ k, k < 0 → parseFieldDescriptor (TJ9 k).2.2.1 = some (tyJ9 k) := by decide +kernel
abbrev cJ9_min_7cf53 : ByteArray := prog_16_method_69_code
def yJ9_min_7cf53 : MethodName := ⟨RJ9, "min", "(II)I"⟩
def RJ0 : String := "java/lang/String"
def TJ0 : u_T := fun k => match k with
  | _ => ("", "", "", false)
def tyJ0 : Nat → FieldType := fun k => match k with
  | _ => .int
abbrev wsJ00 : List Cond := u_ws RJ0 TJ0 0
theorem nmJ0 : ∀ a, a < 0 → ∀ b, b < 0 → a ≠ b → (TJ0 a).2.1 ≠ (TJ0 b).2.1 := by decide +kernel
theorem tyJ0_ok : ∀ k, k < 0 → parseFieldDescriptor (TJ0 k).2.2.1 = some (tyJ0 k) := by decide +kernel
abbrev cJ0_charAt_5068e : ByteArray := prog_18_method_56_code
def yJ0_charAt_5068e : MethodName := ⟨RJ0, "charAt", "(I)C"⟩
abbrev cJ0_isLatin1_aae02 : ByteArray := prog_18_method_154_code
def yJ0_isLatin1_aae02 : MethodName := ⟨RJ0, "isLatin1", "()Z"⟩
abbrev cJ0_checkIndex_df160 : ByteArray := prog_18_method_155_code
def yJ0_checkIndex_df160 : MethodName := ⟨RJ0, "checkIndex", "(II)V"⟩
def RJ1 : String := "java/lang/StringLatin1"
def TJ1 : u_T := fun k => match k with
  | _ => ("", "", "", false)
def tyJ1 : Nat → FieldType := fun k => match k with
  | _ => .int
abbrev wsJ10 : List Cond := u_ws RJ1 TJ1 0
theorem nmJ1 : ∀ a, a < 0 → ∀ b, b < 0 → a ≠ b → (TJ1 a).2.1 ≠ (TJ1 b).2.1 := by decide +kernel
theorem tyJ1_ok : ∀ k, k < 0 → parseFieldDescriptor (TJ1 k).2.2.1 = some (tyJ1 k) := by decide +kernel
abbrev cJ1_charAt_3b067 : ByteArray := prog_19_method_2_code
def yJ1_charAt_3b067 : MethodName := ⟨RJ1, "charAt", "([BI)C"⟩
def RJ2 : String := "java/lang/StringUTF16"
def TJ2 : u_T := fun k => match k with
  | _ => ("", "", "", false)
def tyJ2 : Nat → FieldType := fun k => match k with
  | _ => .int
abbrev wsJ20 : List Cond := u_ws RJ2 TJ2 0
theorem nmJ2 : ∀ a, a < 0 → ∀ b, b < 0 → a ≠ b → (TJ2 a).2.1 ≠ (TJ2 b).2.1 := by decide +kernel
theorem tyJ2_ok : ∀ k, k < 0 → parseFieldDescriptor (TJ2 k).2.2.1 = some (tyJ2 k) := by decide +kernel
abbrev cJ2_getChar_3b067 : ByteArray := prog_20_method_5_code
def yJ2_getChar_3b067 : MethodName := ⟨RJ2, "getChar", "([BI)C"⟩
abbrev cJ2_length_9d52b : ByteArray := prog_20_method_6_code
def yJ2_length_9d52b : MethodName := ⟨RJ2, "length", "([B)I"⟩
abbrev cJ2_charAt_3b067 : ByteArray := prog_20_method_83_code
def yJ2_charAt_3b067 : MethodName := ⟨RJ2, "charAt", "([BI)C"⟩
abbrev cJ2_checkIndex_2214a : ByteArray := prog_20_method_91_code
def yJ2_checkIndex_2214a : MethodName := ⟨RJ2, "checkIndex", "(I[B)V"⟩
def RJ10 : String := "java/lang/System"
def TJ10 : u_T := fun k => match k with
  | _ => ("", "", "", false)
def tyJ10 : Nat → FieldType := fun k => match k with
  | _ => .int
abbrev wsJ100 : List Cond := u_ws RJ10 TJ10 0
theorem nmJ10 : ∀ a, a < 0 → ∀ b, b < 0 → a ≠ b → (TJ10 a).2.1 ≠ (TJ10 b).2.1 := by decide +kernel
theorem tyJ10_ok : ∀ k, k < 0 → parseFieldDescriptor (TJ10 k).2.2.1 = some (tyJ10 k) := by decide +kernel
def RJ3 : String := "jdk/internal/util/Preconditions"
def TJ3 : u_T := fun k => match k with
  | _ => ("", "", "", false)
def tyJ3 : Nat → FieldType := fun k => match k with
  | _ => .int
abbrev wsJ30 : List Cond := u_ws RJ3 TJ3 0
theorem nmJ3 : ∀ a, a < 0 → ∀ b, b < 0 → a ≠ b → (TJ3 a).2.1 ≠ (TJ3 b).2.1 := by decide +kernel
theorem tyJ3_ok : ∀ k, k < 0 → parseFieldDescriptor (TJ3 k).2.2.1 = some (tyJ3 k) := by decide +kernel
abbrev cJ3_checkIndex_8e157 : ByteArray := prog_23_method_11_code
def yJ3_checkIndex_8e157 : MethodName := ⟨RJ3, "checkIndex", "(IILjava/util/function/BiFunction;)I"⟩
def RL : String := "HallDiaryLaw"
abbrev cL_regular : ByteArray := method_3_code
def yL_regular : MethodName := ⟨RL, "regular", "(LHallDiary;IIIIII[J)I"⟩
abbrev cL_single : ByteArray := method_4_code
def yL_single : MethodName := ⟨RL, "single", "(LHallDiary;IIIIII[J)I"⟩
abbrev cL_cancel : ByteArray := method_5_code
def yL_cancel : MethodName := ⟨RL, "cancel", "(LHallDiary;ZI[J)I"⟩
abbrev cL_off : ByteArray := method_6_code
def yL_off : MethodName := ⟨RL, "off", "(LHallDiary;II[J)I"⟩
abbrev cL_rate : ByteArray := method_7_code
def yL_rate : MethodName := ⟨RL, "rate", "(LHallDiary;II[J)I"⟩
abbrev cL_set : ByteArray := method_8_code
def yL_set : MethodName := ⟨RL, "set", "(LHallDiary;II[J)I"⟩
abbrev cL_append : ByteArray := method_9_code
def yL_append : MethodName := ⟨RL, "append", "(LHallDiary;I[J)I"⟩
abbrev cL_lets : ByteArray := method_10_code
def yL_lets : MethodName := ⟨RL, "lets", "(LHallDiary;[J)I"⟩
abbrev cL_undo : ByteArray := method_11_code
def yL_undo : MethodName := ⟨RL, "undo", "(LHallDiary;[J)I"⟩
abbrev cL_restore : ByteArray := method_12_code
def yL_restore : MethodName := ⟨RL, "restore", "(LHallDiary;[J)I"⟩
abbrev cL_regularOf : ByteArray := method_13_code
def yL_regularOf : MethodName := ⟨RL, "regularOf", "(LHallDiary;II[J)I"⟩
abbrev cL_singleOf : ByteArray := method_14_code
def yL_singleOf : MethodName := ⟨RL, "singleOf", "(LHallDiary;II[J)I"⟩
abbrev cL_who : ByteArray := method_15_code
def yL_who : MethodName := ⟨RL, "who", "(LHallDiary;III[J)I"⟩
abbrev cL_hallOf : ByteArray := method_16_code
def yL_hallOf : MethodName := ⟨RL, "hallOf", "(LHallDiary;III[J)I"⟩
abbrev cL_tenant : ByteArray := method_17_code
def yL_tenant : MethodName := ⟨RL, "tenant", "(LHallDiary;II[J)I"⟩
abbrev cL_count : ByteArray := method_18_code
def yL_count : MethodName := ⟨RL, "count", "(LHallDiary;I[J)I"⟩
abbrev cL_refusal : ByteArray := method_19_code
def yL_refusal : MethodName := ⟨RL, "refusal", "(LHallDiary;IIIII[J)I"⟩
abbrev cL_price : ByteArray := method_20_code
def yL_price : MethodName := ⟨RL, "price", "(LHallDiary;IIII[J)I"⟩
abbrev cL_nextFree : ByteArray := method_21_code
def yL_nextFree : MethodName := ⟨RL, "nextFree", "(LHallDiary;III[J)I"⟩
abbrev cL_fullness : ByteArray := method_22_code
def yL_fullness : MethodName := ⟨RL, "fullness", "(LHallDiary;I[D)I"⟩
abbrev cL_law : ByteArray := code
def yL_law : MethodName := ⟨RL, "law", "([I)Z"⟩
abbrev vwCl : List vw_C := [(RX0, TX0, 4), (RX1, TX1, 10), (RX2, TX2, 5), (RX3, TX3, 2), (RX4, TX4, 7), (RX5, TX5, 8), (RX6, TX6, 19)]
end
section
def SW : List Cond := lw_tbl.filter goodWord
theorem zq (i : Nat) {w : Cond} (h : lw_tbl[i]? = some w) (g : goodWord w = true) : w ∈ SW := List.mem_filter.mpr ⟨List.mem_of_getElem? h, g⟩
theorem SW_good : ∀ w ∈ SW, goodWord w = true := fun w h => (List.mem_filter.mp h).2
theorem SW_tbl : ∀ w ∈ SW, w ∈ lw_tbl := fun w h => (List.mem_filter.mp h).1
theorem q0 : (Jvm.Cond.selects "HallDiary$LetText" ({ cls := "HallDiary$LetText", name := "acceptsDigit", desc := "(I)Z" } : Jvm.MethodName) ({ cls := "HallDiary$LetText", name := "acceptsDigit", desc := "(I)Z" } : Jvm.MethodName)) ∈ SW := zq 0 (by decide +kernel) (by decide +kernel)
theorem q1 : (Jvm.Cond.selects "java/lang/Throwable" ({ cls := "java/lang/Throwable", name := "fillInStackTrace", desc := "(I)Ljava/lang/Throwable;" } : Jvm.MethodName) ({ cls := "java/lang/Throwable", name := "fillInStackTrace", desc := "(I)Ljava/lang/Throwable;" } : Jvm.MethodName)) ∈ SW := zq 1 (by decide +kernel) (by decide +kernel)
theorem q2 : (Jvm.Cond.selects "HallDiary" ({ cls := "HallDiary", name := "digestLets", desc := "(J)J" } : Jvm.MethodName) ({ cls := "HallDiary", name := "digestLets", desc := "(J)J" } : Jvm.MethodName)) ∈ SW := zq 2 (by decide +kernel) (by decide +kernel)
theorem q3 : (Jvm.Cond.selects "HallDiary" ({ cls := "HallDiary", name := "digestHall", desc := "(JI)J" } : Jvm.MethodName) ({ cls := "HallDiary", name := "digestHall", desc := "(JI)J" } : Jvm.MethodName)) ∈ SW := zq 3 (by decide +kernel) (by decide +kernel)
theorem q4 : (Jvm.Cond.selects "HallDiary$DayPlan" ({ cls := "HallDiary$DayPlan", name := "enterAll", desc := "(LHallDiary$Roll;I)V" } : Jvm.MethodName) ({ cls := "HallDiary$DayPlan", name := "enterAll", desc := "(LHallDiary$Roll;I)V" } : Jvm.MethodName)) ∈ SW := zq 4 (by decide +kernel) (by decide +kernel)
theorem q5 : (Jvm.Cond.selects "HallDiary" ({ cls := "HallDiary", name := "firstFreeHour", desc := "(III)I" } : Jvm.MethodName) ({ cls := "HallDiary", name := "firstFreeHour", desc := "(III)I" } : Jvm.MethodName)) ∈ SW := zq 5 (by decide +kernel) (by decide +kernel)
theorem q6 : (Jvm.Cond.selects "HallDiary$DayPlan" ({ cls := "HallDiary$DayPlan", name := "canBeCleanedWith", desc := "(LHallDiary$Let;I)Z" } : Jvm.MethodName) ({ cls := "HallDiary$DayPlan", name := "canBeCleanedWith", desc := "(LHallDiary$Let;I)Z" } : Jvm.MethodName)) ∈ SW := zq 6 (by decide +kernel) (by decide +kernel)
theorem q7 : (Jvm.Cond.selects "HallDiary$DayPlan" ({ cls := "HallDiary$DayPlan", name := "startCleaning", desc := "()V" } : Jvm.MethodName) ({ cls := "HallDiary$DayPlan", name := "startCleaning", desc := "()V" } : Jvm.MethodName)) ∈ SW := zq 7 (by decide +kernel) (by decide +kernel)
theorem q8 : (Jvm.Cond.selects "HallDiary$DayPlan" ({ cls := "HallDiary$DayPlan", name := "isServed", desc := "(LHallDiary$Let;I)Z" } : Jvm.MethodName) ({ cls := "HallDiary$DayPlan", name := "isServed", desc := "(LHallDiary$Let;I)Z" } : Jvm.MethodName)) ∈ SW := zq 8 (by decide +kernel) (by decide +kernel)
theorem q9 : (Jvm.Cond.selects "HallDiary" ({ cls := "HallDiary", name := "draftSingle", desc := "(IIIIII)V" } : Jvm.MethodName) ({ cls := "HallDiary", name := "draftSingle", desc := "(IIIIII)V" } : Jvm.MethodName)) ∈ SW := zq 9 (by decide +kernel) (by decide +kernel)
theorem q10 : (Jvm.Cond.selects "HallDiary" ({ cls := "HallDiary", name := "rentForDay", desc := "(IIII)I" } : Jvm.MethodName) ({ cls := "HallDiary", name := "rentForDay", desc := "(IIII)I" } : Jvm.MethodName)) ∈ SW := zq 10 (by decide +kernel) (by decide +kernel)
theorem q11 : (Jvm.Cond.selects "HallDiary" ({ cls := "HallDiary", name := "reasonAgainstDraft", desc := "(I)I" } : Jvm.MethodName) ({ cls := "HallDiary", name := "reasonAgainstDraft", desc := "(I)I" } : Jvm.MethodName)) ∈ SW := zq 11 (by decide +kernel) (by decide +kernel)
theorem q12 : (Jvm.Cond.selects "HallDiary" ({ cls := "HallDiary", name := "draftRegular", desc := "(IIIIII)V" } : Jvm.MethodName) ({ cls := "HallDiary", name := "draftRegular", desc := "(IIIIII)V" } : Jvm.MethodName)) ∈ SW := zq 12 (by decide +kernel) (by decide +kernel)
theorem q13 : (Jvm.Cond.selects "HallDiary" ({ cls := "HallDiary", name := "saveState", desc := "()V" } : Jvm.MethodName) ({ cls := "HallDiary", name := "saveState", desc := "()V" } : Jvm.MethodName)) ∈ SW := zq 13 (by decide +kernel) (by decide +kernel)
theorem q14 : (Jvm.Cond.selects "HallDiary" ({ cls := "HallDiary", name := "makeRegular", desc := "()V" } : Jvm.MethodName) ({ cls := "HallDiary", name := "makeRegular", desc := "()V" } : Jvm.MethodName)) ∈ SW := zq 14 (by decide +kernel) (by decide +kernel)
theorem q15 : (Jvm.Cond.selects "HallDiary$State" ({ cls := "HallDiary$State", name := "givesWay", desc := "(LHallDiary$Let;LHallDiary$Let;I)Z" } : Jvm.MethodName) ({ cls := "HallDiary$State", name := "givesWay", desc := "(LHallDiary$Let;LHallDiary$Let;I)Z" } : Jvm.MethodName)) ∈ SW := zq 15 (by decide +kernel) (by decide +kernel)
theorem q16 : (Jvm.Cond.selects "HallDiary$State" ({ cls := "HallDiary$State", name := "letGo", desc := "(LHallDiary$Let;)V" } : Jvm.MethodName) ({ cls := "HallDiary$State", name := "letGo", desc := "(LHallDiary$Let;)V" } : Jvm.MethodName)) ∈ SW := zq 16 (by decide +kernel) (by decide +kernel)
theorem q17 : (Jvm.Cond.selects "HallDiary" ({ cls := "HallDiary", name := "makeSingle", desc := "(I)I" } : Jvm.MethodName) ({ cls := "HallDiary", name := "makeSingle", desc := "(I)I" } : Jvm.MethodName)) ∈ SW := zq 17 (by decide +kernel) (by decide +kernel)
theorem q18 : (Jvm.Cond.selects "HallDiary" ({ cls := "HallDiary", name := "allowsSetting", desc := "(II)Z" } : Jvm.MethodName) ({ cls := "HallDiary", name := "allowsSetting", desc := "(II)Z" } : Jvm.MethodName)) ∈ SW := zq 18 (by decide +kernel) (by decide +kernel)
theorem q19 : (Jvm.Cond.selects "HallDiary" ({ cls := "HallDiary", name := "allDaysCanBeCleaned", desc := "(I)Z" } : Jvm.MethodName) ({ cls := "HallDiary", name := "allDaysCanBeCleaned", desc := "(I)Z" } : Jvm.MethodName)) ∈ SW := zq 19 (by decide +kernel) (by decide +kernel)
theorem q20 : (Jvm.Cond.selects "HallDiary" ({ cls := "HallDiary", name := "makesPart", desc := "([I)Z" } : Jvm.MethodName) ({ cls := "HallDiary", name := "makesPart", desc := "([I)Z" } : Jvm.MethodName)) ∈ SW := zq 20 (by decide +kernel) (by decide +kernel)
theorem q21 : (Jvm.Cond.selects "HallDiaryModel" ({ cls := "HallDiaryModel", name := "fails", desc := "(I)I" } : Jvm.MethodName) ({ cls := "HallDiaryModel", name := "fails", desc := "(I)I" } : Jvm.MethodName)) ∈ SW := zq 21 (by decide +kernel) (by decide +kernel)
theorem q22 : (Jvm.Cond.selects "HallDiaryModel" ({ cls := "HallDiaryModel", name := "allLets", desc := "()I" } : Jvm.MethodName) ({ cls := "HallDiaryModel", name := "allLets", desc := "()I" } : Jvm.MethodName)) ∈ SW := zq 22 (by decide +kernel) (by decide +kernel)
theorem q23 : (Jvm.Cond.selects "HallDiaryModel" ({ cls := "HallDiaryModel", name := "save", desc := "()V" } : Jvm.MethodName) ({ cls := "HallDiaryModel", name := "save", desc := "()V" } : Jvm.MethodName)) ∈ SW := zq 23 (by decide +kernel) (by decide +kernel)
theorem q24 : (Jvm.Cond.selects "HallDiaryModel" ({ cls := "HallDiaryModel", name := "refusalOf", desc := "(IIIII)I" } : Jvm.MethodName) ({ cls := "HallDiaryModel", name := "refusalOf", desc := "(IIIII)I" } : Jvm.MethodName)) ∈ SW := zq 24 (by decide +kernel) (by decide +kernel)
theorem q25 : (Jvm.Cond.selects "HallDiaryModel" ({ cls := "HallDiaryModel", name := "reason", desc := "(IIIII)I" } : Jvm.MethodName) ({ cls := "HallDiaryModel", name := "reason", desc := "(IIIII)I" } : Jvm.MethodName)) ∈ SW := zq 25 (by decide +kernel) (by decide +kernel)
theorem q26 : (Jvm.Cond.selects "HallDiaryModel" ({ cls := "HallDiaryModel", name := "look", desc := "(I)V" } : Jvm.MethodName) ({ cls := "HallDiaryModel", name := "look", desc := "(I)V" } : Jvm.MethodName)) ∈ SW := zq 26 (by decide +kernel) (by decide +kernel)
theorem q27 : (Jvm.Cond.selects "HallDiaryModel" ({ cls := "HallDiaryModel", name := "standsOn", desc := "(II)Z" } : Jvm.MethodName) ({ cls := "HallDiaryModel", name := "standsOn", desc := "(II)Z" } : Jvm.MethodName)) ∈ SW := zq 27 (by decide +kernel) (by decide +kernel)
theorem q28 : (Jvm.Cond.selects "HallDiaryModel" ({ cls := "HallDiaryModel", name := "weekly", desc := "(II)I" } : Jvm.MethodName) ({ cls := "HallDiaryModel", name := "weekly", desc := "(II)I" } : Jvm.MethodName)) ∈ SW := zq 28 (by decide +kernel) (by decide +kernel)
theorem q29 : (Jvm.Cond.selects "HallDiaryModel" ({ cls := "HallDiaryModel", name := "dated", desc := "(II)I" } : Jvm.MethodName) ({ cls := "HallDiaryModel", name := "dated", desc := "(II)I" } : Jvm.MethodName)) ∈ SW := zq 29 (by decide +kernel) (by decide +kernel)
theorem q30 : (Jvm.Cond.selects "HallDiaryModel" ({ cls := "HallDiaryModel", name := "clashes", desc := "(IIII)Z" } : Jvm.MethodName) ({ cls := "HallDiaryModel", name := "clashes", desc := "(IIII)Z" } : Jvm.MethodName)) ∈ SW := zq 30 (by decide +kernel) (by decide +kernel)
theorem q31 : (Jvm.Cond.selects "HallDiaryModel" ({ cls := "HallDiaryModel", name := "addCleaning", desc := "(III)V" } : Jvm.MethodName) ({ cls := "HallDiaryModel", name := "addCleaning", desc := "(III)V" } : Jvm.MethodName)) ∈ SW := zq 31 (by decide +kernel) (by decide +kernel)
theorem q32 : (Jvm.Cond.selects "HallDiaryModel" ({ cls := "HallDiaryModel", name := "isCleaned", desc := "()Z" } : Jvm.MethodName) ({ cls := "HallDiaryModel", name := "isCleaned", desc := "()Z" } : Jvm.MethodName)) ∈ SW := zq 32 (by decide +kernel) (by decide +kernel)
theorem q33 : (Jvm.Cond.selects "HallDiaryModel" ({ cls := "HallDiaryModel", name := "makeSingle", desc := "(IIIIII)I" } : Jvm.MethodName) ({ cls := "HallDiaryModel", name := "makeSingle", desc := "(IIIIII)I" } : Jvm.MethodName)) ∈ SW := zq 33 (by decide +kernel) (by decide +kernel)
theorem q34 : (Jvm.Cond.selects "HallDiaryModel" ({ cls := "HallDiaryModel", name := "giveWay", desc := "(IIII)I" } : Jvm.MethodName) ({ cls := "HallDiaryModel", name := "giveWay", desc := "(IIII)I" } : Jvm.MethodName)) ∈ SW := zq 34 (by decide +kernel) (by decide +kernel)
theorem q35 : (Jvm.Cond.selects "HallDiaryModel" ({ cls := "HallDiaryModel", name := "removeSingle", desc := "(I)V" } : Jvm.MethodName) ({ cls := "HallDiaryModel", name := "removeSingle", desc := "(I)V" } : Jvm.MethodName)) ∈ SW := zq 35 (by decide +kernel) (by decide +kernel)
theorem q36 : (Jvm.Cond.selects "HallDiaryModel" ({ cls := "HallDiaryModel", name := "lay", desc := "(IIIIIII)V" } : Jvm.MethodName) ({ cls := "HallDiaryModel", name := "lay", desc := "(IIIIIII)V" } : Jvm.MethodName)) ∈ SW := zq 36 (by decide +kernel) (by decide +kernel)
theorem q37 : (Jvm.Cond.selects "HallDiaryModel" ({ cls := "HallDiaryModel", name := "singleRent", desc := "(IIII)I" } : Jvm.MethodName) ({ cls := "HallDiaryModel", name := "singleRent", desc := "(IIII)I" } : Jvm.MethodName)) ∈ SW := zq 37 (by decide +kernel) (by decide +kernel)
theorem q38 : (Jvm.Cond.selects "HallDiaryModel" ({ cls := "HallDiaryModel", name := "rent", desc := "(IIII)I" } : Jvm.MethodName) ({ cls := "HallDiaryModel", name := "rent", desc := "(IIII)I" } : Jvm.MethodName)) ∈ SW := zq 38 (by decide +kernel) (by decide +kernel)
theorem q39 : (Jvm.Cond.selects "HallDiaryModel" ({ cls := "HallDiaryModel", name := "offWeeks", desc := "(IIIII)I" } : Jvm.MethodName) ({ cls := "HallDiaryModel", name := "offWeeks", desc := "(IIIII)I" } : Jvm.MethodName)) ∈ SW := zq 39 (by decide +kernel) (by decide +kernel)
theorem q40 : (Jvm.Cond.selects "HallDiaryModel" ({ cls := "HallDiaryModel", name := "standsSomewhere", desc := "(I)Z" } : Jvm.MethodName) ({ cls := "HallDiaryModel", name := "standsSomewhere", desc := "(I)Z" } : Jvm.MethodName)) ∈ SW := zq 40 (by decide +kernel) (by decide +kernel)
theorem q41 : (Jvm.Cond.selects "HallDiaryModel" ({ cls := "HallDiaryModel", name := "makeRegular", desc := "(IIIIII)I" } : Jvm.MethodName) ({ cls := "HallDiaryModel", name := "makeRegular", desc := "(IIIIII)I" } : Jvm.MethodName)) ∈ SW := zq 41 (by decide +kernel) (by decide +kernel)
theorem q42 : (Jvm.Cond.selects "HallDiaryModel" ({ cls := "HallDiaryModel", name := "regularRent", desc := "(IIII)I" } : Jvm.MethodName) ({ cls := "HallDiaryModel", name := "regularRent", desc := "(IIII)I" } : Jvm.MethodName)) ∈ SW := zq 42 (by decide +kernel) (by decide +kernel)
theorem q43 : (Jvm.Cond.selects "HallDiaryModel" ({ cls := "HallDiaryModel", name := "cancelRegular", desc := "(I)I" } : Jvm.MethodName) ({ cls := "HallDiaryModel", name := "cancelRegular", desc := "(I)I" } : Jvm.MethodName)) ∈ SW := zq 43 (by decide +kernel) (by decide +kernel)
theorem q44 : (Jvm.Cond.selects "HallDiaryModel" ({ cls := "HallDiaryModel", name := "daysOf", desc := "(I)I" } : Jvm.MethodName) ({ cls := "HallDiaryModel", name := "daysOf", desc := "(I)I" } : Jvm.MethodName)) ∈ SW := zq 44 (by decide +kernel) (by decide +kernel)
theorem q45 : (Jvm.Cond.selects "HallDiaryModel" ({ cls := "HallDiaryModel", name := "removeRegular", desc := "(I)V" } : Jvm.MethodName) ({ cls := "HallDiaryModel", name := "removeRegular", desc := "(I)V" } : Jvm.MethodName)) ∈ SW := zq 45 (by decide +kernel) (by decide +kernel)
theorem q46 : (Jvm.Cond.selects "HallDiaryModel" ({ cls := "HallDiaryModel", name := "cancelSingle", desc := "(I)I" } : Jvm.MethodName) ({ cls := "HallDiaryModel", name := "cancelSingle", desc := "(I)I" } : Jvm.MethodName)) ∈ SW := zq 46 (by decide +kernel) (by decide +kernel)
theorem q47 : (Jvm.Cond.selects "HallDiaryModel" ({ cls := "HallDiaryModel", name := "isGoodWith", desc := "(II)Z" } : Jvm.MethodName) ({ cls := "HallDiaryModel", name := "isGoodWith", desc := "(II)Z" } : Jvm.MethodName)) ∈ SW := zq 47 (by decide +kernel) (by decide +kernel)
theorem q48 : (Jvm.Cond.selects "HallDiaryModel" ({ cls := "HallDiaryModel", name := "isGood", desc := "(I)Z" } : Jvm.MethodName) ({ cls := "HallDiaryModel", name := "isGood", desc := "(I)Z" } : Jvm.MethodName)) ∈ SW := zq 48 (by decide +kernel) (by decide +kernel)
theorem q49 : (Jvm.Cond.selects "HallDiaryModel" ({ cls := "HallDiaryModel", name := "areLets", desc := "()Z" } : Jvm.MethodName) ({ cls := "HallDiaryModel", name := "areLets", desc := "()Z" } : Jvm.MethodName)) ∈ SW := zq 49 (by decide +kernel) (by decide +kernel)
theorem q50 : (Jvm.Cond.selects "HallDiaryModel" ({ cls := "HallDiaryModel", name := "readPart", desc := "()Z" } : Jvm.MethodName) ({ cls := "HallDiaryModel", name := "readPart", desc := "()Z" } : Jvm.MethodName)) ∈ SW := zq 50 (by decide +kernel) (by decide +kernel)
theorem q51 : (Jvm.Cond.selects "HallDiaryModel" ({ cls := "HallDiaryModel", name := "reads", desc := "(III)Z" } : Jvm.MethodName) ({ cls := "HallDiaryModel", name := "reads", desc := "(III)Z" } : Jvm.MethodName)) ∈ SW := zq 51 (by decide +kernel) (by decide +kernel)
theorem q52 : (Jvm.Cond.selects "HallDiaryModel" ({ cls := "HallDiaryModel", name := "isAt", desc := "(II)Z" } : Jvm.MethodName) ({ cls := "HallDiaryModel", name := "isAt", desc := "(II)Z" } : Jvm.MethodName)) ∈ SW := zq 52 (by decide +kernel) (by decide +kernel)
theorem q53 : (Jvm.Cond.selects "HallDiaryModel" ({ cls := "HallDiaryModel", name := "takes", desc := "(I)Z" } : Jvm.MethodName) ({ cls := "HallDiaryModel", name := "takes", desc := "(I)Z" } : Jvm.MethodName)) ∈ SW := zq 53 (by decide +kernel) (by decide +kernel)
theorem q54 : (Jvm.Cond.selects "HallDiaryModel" ({ cls := "HallDiaryModel", name := "ofRegular", desc := "(II)I" } : Jvm.MethodName) ({ cls := "HallDiaryModel", name := "ofRegular", desc := "(II)I" } : Jvm.MethodName)) ∈ SW := zq 54 (by decide +kernel) (by decide +kernel)
theorem q55 : (Jvm.Cond.selects "HallDiaryModel" ({ cls := "HallDiaryModel", name := "firstDayOf", desc := "(I)I" } : Jvm.MethodName) ({ cls := "HallDiaryModel", name := "firstDayOf", desc := "(I)I" } : Jvm.MethodName)) ∈ SW := zq 55 (by decide +kernel) (by decide +kernel)
theorem q56 : (Jvm.Cond.selects "HallDiaryModel" ({ cls := "HallDiaryModel", name := "tenantAt", desc := "(III)I" } : Jvm.MethodName) ({ cls := "HallDiaryModel", name := "tenantAt", desc := "(III)I" } : Jvm.MethodName)) ∈ SW := zq 56 (by decide +kernel) (by decide +kernel)
theorem q57 : (Jvm.Cond.selects "HallDiaryModel" ({ cls := "HallDiaryModel", name := "ofHall", desc := "(III)I" } : Jvm.MethodName) ({ cls := "HallDiaryModel", name := "ofHall", desc := "(III)I" } : Jvm.MethodName)) ∈ SW := zq 57 (by decide +kernel) (by decide +kernel)
theorem q58 : (Jvm.Cond.selects "HallDiaryModel" ({ cls := "HallDiaryModel", name := "inHall", desc := "(III)I" } : Jvm.MethodName) ({ cls := "HallDiaryModel", name := "inHall", desc := "(III)I" } : Jvm.MethodName)) ∈ SW := zq 58 (by decide +kernel) (by decide +kernel)
theorem q59 : (Jvm.Cond.selects "HallDiaryModel" ({ cls := "HallDiaryModel", name := "ofTenant", desc := "(II)I" } : Jvm.MethodName) ({ cls := "HallDiaryModel", name := "ofTenant", desc := "(II)I" } : Jvm.MethodName)) ∈ SW := zq 59 (by decide +kernel) (by decide +kernel)
theorem q60 : (Jvm.Cond.selects "HallDiaryModel" ({ cls := "HallDiaryModel", name := "count0", desc := "(I)I" } : Jvm.MethodName) ({ cls := "HallDiaryModel", name := "count0", desc := "(I)I" } : Jvm.MethodName)) ∈ SW := zq 60 (by decide +kernel) (by decide +kernel)
theorem q61 : (Jvm.Cond.selects "HallDiaryModel" ({ cls := "HallDiaryModel", name := "freeFrom", desc := "(III)I" } : Jvm.MethodName) ({ cls := "HallDiaryModel", name := "freeFrom", desc := "(III)I" } : Jvm.MethodName)) ∈ SW := zq 61 (by decide +kernel) (by decide +kernel)
theorem q62 : (Jvm.Cond.selects "HallDiaryModel" ({ cls := "HallDiaryModel", name := "bestTenant", desc := "()I" } : Jvm.MethodName) ({ cls := "HallDiaryModel", name := "bestTenant", desc := "()I" } : Jvm.MethodName)) ∈ SW := zq 62 (by decide +kernel) (by decide +kernel)
theorem q63 : (Jvm.Cond.selects "HallDiaryModel" ({ cls := "HallDiaryModel", name := "share", desc := "(I)D" } : Jvm.MethodName) ({ cls := "HallDiaryModel", name := "share", desc := "(I)D" } : Jvm.MethodName)) ∈ SW := zq 63 (by decide +kernel) (by decide +kernel)
theorem q64 : (Jvm.Cond.selects "HallDiaryModel" ({ cls := "HallDiaryModel", name := "mean", desc := "()F" } : Jvm.MethodName) ({ cls := "HallDiaryModel", name := "mean", desc := "()F" } : Jvm.MethodName)) ∈ SW := zq 64 (by decide +kernel) (by decide +kernel)
theorem q65 : (Jvm.Cond.selects "HallDiaryModel" ({ cls := "HallDiaryModel", name := "mix", desc := "(J)V" } : Jvm.MethodName) ({ cls := "HallDiaryModel", name := "mix", desc := "(J)V" } : Jvm.MethodName)) ∈ SW := zq 65 (by decide +kernel) (by decide +kernel)
theorem q66 : (Jvm.Cond.selects "HallDiaryModel" ({ cls := "HallDiaryModel", name := "mixLets", desc := "()V" } : Jvm.MethodName) ({ cls := "HallDiaryModel", name := "mixLets", desc := "()V" } : Jvm.MethodName)) ∈ SW := zq 66 (by decide +kernel) (by decide +kernel)
theorem q67 : (Jvm.Cond.selects "HallDiaryModel" ({ cls := "HallDiaryModel", name := "mixHall", desc := "(I)V" } : Jvm.MethodName) ({ cls := "HallDiaryModel", name := "mixHall", desc := "(I)V" } : Jvm.MethodName)) ∈ SW := zq 67 (by decide +kernel) (by decide +kernel)
theorem q68 : (Jvm.Cond.initialized "HallDiaryLaw") ∈ SW := zq 68 (by decide +kernel) (by decide +kernel)
theorem q69 : (Jvm.Cond.initialized "HallDiary") ∈ SW := zq 69 (by decide +kernel) (by decide +kernel)
theorem q70 : (Jvm.Cond.initialized "HallDiary$State") ∈ SW := zq 70 (by decide +kernel) (by decide +kernel)
theorem q71 : (Jvm.Cond.initialized "HallDiary$Roll") ∈ SW := zq 71 (by decide +kernel) (by decide +kernel)
theorem q72 : (Jvm.Cond.initialized "HallDiary$Let") ∈ SW := zq 72 (by decide +kernel) (by decide +kernel)
theorem q73 : (Jvm.Cond.initialized "HallDiary$LetText") ∈ SW := zq 73 (by decide +kernel) (by decide +kernel)
theorem q74 : (Jvm.Cond.initialized "HallDiary$DayPlan") ∈ SW := zq 74 (by decide +kernel) (by decide +kernel)
theorem q75 : (Jvm.Cond.initialized "HallDiaryModel") ∈ SW := zq 75 (by decide +kernel) (by decide +kernel)
theorem q76 : (Jvm.Cond.initialized "java/lang/Throwable") ∈ SW := zq 76 (by decide +kernel) (by decide +kernel)
theorem q77 : (Jvm.Cond.initialized "java/lang/Exception") ∈ SW := zq 77 (by decide +kernel) (by decide +kernel)
theorem q78 : (Jvm.Cond.initialized "java/lang/RuntimeException") ∈ SW := zq 78 (by decide +kernel) (by decide +kernel)
theorem q79 : (Jvm.Cond.initialized "java/lang/IndexOutOfBoundsException") ∈ SW := zq 79 (by decide +kernel) (by decide +kernel)
theorem q80 : (Jvm.Cond.initialized "java/lang/IllegalArgumentException") ∈ SW := zq 80 (by decide +kernel) (by decide +kernel)
theorem q81 : (Jvm.Cond.initialized "java/lang/IllegalStateException") ∈ SW := zq 81 (by decide +kernel) (by decide +kernel)
theorem q82 : (Jvm.Cond.initialized "java/lang/Math") ∈ SW := zq 82 (by decide +kernel) (by decide +kernel)
theorem q83 : (Jvm.Cond.initialized "java/lang/System") ∈ SW := zq 83 (by decide +kernel) (by decide +kernel)
theorem q84 : (Jvm.Cond.initialized "java/lang/Integer") ∈ SW := zq 84 (by decide +kernel) (by decide +kernel)
theorem q85 : (Jvm.Cond.initialized "java/lang/String") ∈ SW := zq 85 (by decide +kernel) (by decide +kernel)
theorem q86 : (Jvm.Cond.initialized "java/lang/StringLatin1") ∈ SW := zq 86 (by decide +kernel) (by decide +kernel)
theorem q87 : (Jvm.Cond.initialized "jdk/internal/util/Preconditions") ∈ SW := zq 87 (by decide +kernel) (by decide +kernel)
theorem q88 : (Jvm.Cond.initialized "java/lang/StringUTF16") ∈ SW := zq 88 (by decide +kernel) (by decide +kernel)
theorem q89 : (Jvm.Cond.initialized "java/lang/Double") ∈ SW := zq 89 (by decide +kernel) (by decide +kernel)
theorem q90 : (Jvm.Cond.initialized "java/lang/Float") ∈ SW := zq 90 (by decide +kernel) (by decide +kernel)
theorem q91 : (Jvm.Cond.classLink "HallDiaryLaw" (8 : Nat) "HallDiary") ∈ SW := zq 91 (by decide +kernel) (by decide +kernel)
theorem q92 : (Jvm.Cond.instantiable "HallDiary" (8 : Nat)) ∈ SW := zq 92 (by decide +kernel) (by decide +kernel)
theorem q93 : (Jvm.Cond.methodLink "HallDiaryLaw" (84 : Nat) ({ cls := "HallDiary", name := "<init>", desc := "()V" } : Jvm.MethodName)) ∈ SW := zq 93 (by decide +kernel) (by decide +kernel)
theorem q94 : (Jvm.Cond.instanceMethod ({ cls := "HallDiary", name := "<init>", desc := "()V" } : Jvm.MethodName)) ∈ SW := zq 94 (by decide +kernel) (by decide +kernel)
theorem q95 : (Jvm.Cond.code ({ cls := "HallDiary", name := "<init>", desc := "()V" } : Jvm.MethodName) prog_1_method_1_code (2 : Nat) (Option.none : Option Jvm.ClassFile.FieldType)) ∈ SW := zq 95 (by decide +kernel) (by decide +kernel)
theorem q96 : (Jvm.Cond.methodLink "HallDiary" (1 : Nat) ({ cls := "java/lang/Object", name := "<init>", desc := "()V" } : Jvm.MethodName)) ∈ SW := zq 96 (by decide +kernel) (by decide +kernel)
theorem q97 : (Jvm.Cond.instanceMethod ({ cls := "java/lang/Object", name := "<init>", desc := "()V" } : Jvm.MethodName)) ∈ SW := zq 97 (by decide +kernel) (by decide +kernel)
theorem q98 : (Jvm.Cond.code ({ cls := "java/lang/Object", name := "<init>", desc := "()V" } : Jvm.MethodName) object_method_1_code (1 : Nat) (Option.none : Option Jvm.ClassFile.FieldType)) ∈ SW := zq 98 (by decide +kernel) (by decide +kernel)
theorem q99 : (Jvm.Cond.classLink "HallDiary" (7 : Nat) "HallDiary$State") ∈ SW := zq 99 (by decide +kernel) (by decide +kernel)
theorem q100 : (Jvm.Cond.instantiable "HallDiary$State" (7 : Nat)) ∈ SW := zq 100 (by decide +kernel) (by decide +kernel)
theorem n101 : (Jvm.Cond.methodLinkNest "HallDiary" (9 : Nat) ({ cls := "HallDiary$State", name := "<init>", desc := "()V" } : Jvm.MethodName) "HallDiary") ∈ lw_tbl := List.mem_of_getElem? (i := 101) (by decide +kernel)
theorem q102 : (Jvm.Cond.instanceMethod ({ cls := "HallDiary$State", name := "<init>", desc := "()V" } : Jvm.MethodName)) ∈ SW := zq 102 (by decide +kernel) (by decide +kernel)
theorem q103 : (Jvm.Cond.code ({ cls := "HallDiary$State", name := "<init>", desc := "()V" } : Jvm.MethodName) prog_6_method_1_code (1 : Nat) (Option.none : Option Jvm.ClassFile.FieldType)) ∈ SW := zq 103 (by decide +kernel) (by decide +kernel)
theorem q104 : (Jvm.Cond.methodLink "HallDiary$State" (3 : Nat) ({ cls := "java/lang/Object", name := "<init>", desc := "()V" } : Jvm.MethodName)) ∈ SW := zq 104 (by decide +kernel) (by decide +kernel)
theorem q105 : (Jvm.Cond.classLink "HallDiary$State" (9 : Nat) "HallDiary$Roll") ∈ SW := zq 105 (by decide +kernel) (by decide +kernel)
theorem q106 : (Jvm.Cond.instantiable "HallDiary$Roll" (2 : Nat)) ∈ SW := zq 106 (by decide +kernel) (by decide +kernel)
theorem q107 : (Jvm.Cond.methodLink "HallDiary$State" (11 : Nat) ({ cls := "HallDiary$Roll", name := "<init>", desc := "(I)V" } : Jvm.MethodName)) ∈ SW := zq 107 (by decide +kernel) (by decide +kernel)
theorem q108 : (Jvm.Cond.instanceMethod ({ cls := "HallDiary$Roll", name := "<init>", desc := "(I)V" } : Jvm.MethodName)) ∈ SW := zq 108 (by decide +kernel) (by decide +kernel)
theorem q109 : (Jvm.Cond.code ({ cls := "HallDiary$Roll", name := "<init>", desc := "(I)V" } : Jvm.MethodName) prog_5_method_1_code (3 : Nat) (Option.none : Option Jvm.ClassFile.FieldType)) ∈ SW := zq 109 (by decide +kernel) (by decide +kernel)
theorem q110 : (Jvm.Cond.methodLink "HallDiary$Roll" (3 : Nat) ({ cls := "java/lang/Object", name := "<init>", desc := "()V" } : Jvm.MethodName)) ∈ SW := zq 110 (by decide +kernel) (by decide +kernel)
theorem q111 : (Jvm.Cond.classLink "HallDiary$Roll" (9 : Nat) "HallDiary$Let") ∈ SW := zq 111 (by decide +kernel) (by decide +kernel)
theorem n112 : (Jvm.Cond.arrayOver (Jvm.ClassFile.FieldType.object "HallDiary$Let")) ∈ lw_tbl := List.mem_of_getElem? (i := 112) (by decide +kernel)
theorem q113 : (Jvm.Cond.instantiable "HallDiary$Let" (10 : Nat)) ∈ SW := zq 113 (by decide +kernel) (by decide +kernel)
theorem n114 : (Jvm.Cond.methodLinkNest "HallDiary$Roll" (17 : Nat) ({ cls := "HallDiary$Let", name := "<init>", desc := "()V" } : Jvm.MethodName) "HallDiary") ∈ lw_tbl := List.mem_of_getElem? (i := 114) (by decide +kernel)
theorem q115 : (Jvm.Cond.instanceMethod ({ cls := "HallDiary$Let", name := "<init>", desc := "()V" } : Jvm.MethodName)) ∈ SW := zq 115 (by decide +kernel) (by decide +kernel)
theorem q116 : (Jvm.Cond.code ({ cls := "HallDiary$Let", name := "<init>", desc := "()V" } : Jvm.MethodName) prog_3_method_1_code (1 : Nat) (Option.none : Option Jvm.ClassFile.FieldType)) ∈ SW := zq 116 (by decide +kernel) (by decide +kernel)
theorem q117 : (Jvm.Cond.methodLink "HallDiary$Let" (3 : Nat) ({ cls := "java/lang/Object", name := "<init>", desc := "()V" } : Jvm.MethodName)) ∈ SW := zq 117 (by decide +kernel) (by decide +kernel)
theorem q118 : (Jvm.Cond.fieldLink "HallDiary$Let" (9 : Nat) "HallDiary$Let" "hall" "I") ∈ SW := zq 118 (by decide +kernel) (by decide +kernel)
theorem q119 : (Jvm.Cond.fieldLink "HallDiary$Roll" (51 : Nat) "HallDiary$Let" "hall" "I") ∈ SW := zq 119 (by decide +kernel) (by decide +kernel)
theorem q120 : (Jvm.Cond.fieldLink "HallDiary$DayPlan" (74 : Nat) "HallDiary$Let" "hall" "I") ∈ SW := zq 120 (by decide +kernel) (by decide +kernel)
theorem q121 : (Jvm.Cond.fieldLink "HallDiary" (360 : Nat) "HallDiary$Let" "hall" "I") ∈ SW := zq 121 (by decide +kernel) (by decide +kernel)
theorem q122 : (Jvm.Cond.fieldLink "HallDiary$Let" (15 : Nat) "HallDiary$Let" "weekday" "I") ∈ SW := zq 122 (by decide +kernel) (by decide +kernel)
theorem q123 : (Jvm.Cond.fieldLink "HallDiary" (217 : Nat) "HallDiary$Let" "weekday" "I") ∈ SW := zq 123 (by decide +kernel) (by decide +kernel)
theorem q124 : (Jvm.Cond.fieldLink "HallDiary$Let" (18 : Nat) "HallDiary$Let" "from" "I") ∈ SW := zq 124 (by decide +kernel) (by decide +kernel)
theorem q125 : (Jvm.Cond.fieldLink "HallDiary$DayPlan" (71 : Nat) "HallDiary$Let" "from" "I") ∈ SW := zq 125 (by decide +kernel) (by decide +kernel)
theorem q126 : (Jvm.Cond.fieldLink "HallDiary" (363 : Nat) "HallDiary$Let" "from" "I") ∈ SW := zq 126 (by decide +kernel) (by decide +kernel)
theorem q127 : (Jvm.Cond.fieldLink "HallDiary$Let" (21 : Nat) "HallDiary$Let" "to" "I") ∈ SW := zq 127 (by decide +kernel) (by decide +kernel)
theorem q128 : (Jvm.Cond.fieldLink "HallDiary$DayPlan" (77 : Nat) "HallDiary$Let" "to" "I") ∈ SW := zq 128 (by decide +kernel) (by decide +kernel)
theorem q129 : (Jvm.Cond.fieldLink "HallDiary" (366 : Nat) "HallDiary$Let" "to" "I") ∈ SW := zq 129 (by decide +kernel) (by decide +kernel)
theorem q130 : (Jvm.Cond.fieldLink "HallDiary$Let" (28 : Nat) "HallDiary$Let" "rank" "I") ∈ SW := zq 130 (by decide +kernel) (by decide +kernel)
theorem q131 : (Jvm.Cond.fieldLink "HallDiary$DayPlan" (52 : Nat) "HallDiary$Let" "rank" "I") ∈ SW := zq 131 (by decide +kernel) (by decide +kernel)
theorem q132 : (Jvm.Cond.fieldLink "HallDiary" (262 : Nat) "HallDiary$Let" "rank" "I") ∈ SW := zq 132 (by decide +kernel) (by decide +kernel)
theorem q133 : (Jvm.Cond.fieldLink "HallDiary$Let" (31 : Nat) "HallDiary$Let" "tenant" "I") ∈ SW := zq 133 (by decide +kernel) (by decide +kernel)
theorem q134 : (Jvm.Cond.fieldLink "HallDiary$Roll" (40 : Nat) "HallDiary$Let" "tenant" "I") ∈ SW := zq 134 (by decide +kernel) (by decide +kernel)
theorem q135 : (Jvm.Cond.fieldLink "HallDiary$DayPlan" (84 : Nat) "HallDiary$Let" "tenant" "I") ∈ SW := zq 135 (by decide +kernel) (by decide +kernel)
theorem q136 : (Jvm.Cond.fieldLink "HallDiary" (342 : Nat) "HallDiary$Let" "tenant" "I") ∈ SW := zq 136 (by decide +kernel) (by decide +kernel)
theorem q137 : (Jvm.Cond.fieldLink "HallDiary$Let" (34 : Nat) "HallDiary$Let" "rent" "I") ∈ SW := zq 137 (by decide +kernel) (by decide +kernel)
theorem q138 : (Jvm.Cond.fieldLink "HallDiary" (141 : Nat) "HallDiary$Let" "rent" "I") ∈ SW := zq 138 (by decide +kernel) (by decide +kernel)
theorem q139 : (Jvm.Cond.fieldLink "HallDiary$State" (85 : Nat) "HallDiary$Let" "rent" "I") ∈ SW := zq 139 (by decide +kernel) (by decide +kernel)
theorem q140 : (Jvm.Cond.fieldLink "HallDiary$Let" (37 : Nat) "HallDiary$Let" "firstWeek" "I") ∈ SW := zq 140 (by decide +kernel) (by decide +kernel)
theorem q141 : (Jvm.Cond.fieldLink "HallDiary" (220 : Nat) "HallDiary$Let" "firstWeek" "I") ∈ SW := zq 141 (by decide +kernel) (by decide +kernel)
theorem q142 : (Jvm.Cond.fieldLink "HallDiary$Let" (40 : Nat) "HallDiary$Let" "lastWeek" "I") ∈ SW := zq 142 (by decide +kernel) (by decide +kernel)
theorem q143 : (Jvm.Cond.fieldLink "HallDiary" (223 : Nat) "HallDiary$Let" "lastWeek" "I") ∈ SW := zq 143 (by decide +kernel) (by decide +kernel)
theorem q144 : (Jvm.Cond.fieldLink "HallDiary" (81 : Nat) "HallDiary$Let" "weeks" "I") ∈ SW := zq 144 (by decide +kernel) (by decide +kernel)
theorem q145 : (Jvm.Cond.fieldLink "HallDiary$Let" (43 : Nat) "HallDiary$Let" "weeks" "I") ∈ SW := zq 145 (by decide +kernel) (by decide +kernel)
theorem q146 : (Jvm.Cond.lays "HallDiary$Let" "HallDiary$Let" "hall" "I") ∈ SW := zq 146 (by decide +kernel) (by decide +kernel)
theorem n147 : (Jvm.Cond.soleField "HallDiary$Let" "hall") ∈ lw_tbl := List.mem_of_getElem? (i := 147) (by decide +kernel)
theorem q148 : (Jvm.Cond.lays "HallDiary$Let" "HallDiary$Let" "weekday" "I") ∈ SW := zq 148 (by decide +kernel) (by decide +kernel)
theorem n149 : (Jvm.Cond.soleField "HallDiary$Let" "weekday") ∈ lw_tbl := List.mem_of_getElem? (i := 149) (by decide +kernel)
theorem q150 : (Jvm.Cond.lays "HallDiary$Let" "HallDiary$Let" "from" "I") ∈ SW := zq 150 (by decide +kernel) (by decide +kernel)
theorem n151 : (Jvm.Cond.soleField "HallDiary$Let" "from") ∈ lw_tbl := List.mem_of_getElem? (i := 151) (by decide +kernel)
theorem q152 : (Jvm.Cond.lays "HallDiary$Let" "HallDiary$Let" "to" "I") ∈ SW := zq 152 (by decide +kernel) (by decide +kernel)
theorem n153 : (Jvm.Cond.soleField "HallDiary$Let" "to") ∈ lw_tbl := List.mem_of_getElem? (i := 153) (by decide +kernel)
theorem q154 : (Jvm.Cond.lays "HallDiary$Let" "HallDiary$Let" "rank" "I") ∈ SW := zq 154 (by decide +kernel) (by decide +kernel)
theorem n155 : (Jvm.Cond.soleField "HallDiary$Let" "rank") ∈ lw_tbl := List.mem_of_getElem? (i := 155) (by decide +kernel)
theorem q156 : (Jvm.Cond.lays "HallDiary$Let" "HallDiary$Let" "tenant" "I") ∈ SW := zq 156 (by decide +kernel) (by decide +kernel)
theorem n157 : (Jvm.Cond.soleField "HallDiary$Let" "tenant") ∈ lw_tbl := List.mem_of_getElem? (i := 157) (by decide +kernel)
theorem q158 : (Jvm.Cond.lays "HallDiary$Let" "HallDiary$Let" "rent" "I") ∈ SW := zq 158 (by decide +kernel) (by decide +kernel)
theorem n159 : (Jvm.Cond.soleField "HallDiary$Let" "rent") ∈ lw_tbl := List.mem_of_getElem? (i := 159) (by decide +kernel)
theorem q160 : (Jvm.Cond.lays "HallDiary$Let" "HallDiary$Let" "firstWeek" "I") ∈ SW := zq 160 (by decide +kernel) (by decide +kernel)
theorem n161 : (Jvm.Cond.soleField "HallDiary$Let" "firstWeek") ∈ lw_tbl := List.mem_of_getElem? (i := 161) (by decide +kernel)
theorem q162 : (Jvm.Cond.lays "HallDiary$Let" "HallDiary$Let" "lastWeek" "I") ∈ SW := zq 162 (by decide +kernel) (by decide +kernel)
theorem n163 : (Jvm.Cond.soleField "HallDiary$Let" "lastWeek") ∈ lw_tbl := List.mem_of_getElem? (i := 163) (by decide +kernel)
theorem q164 : (Jvm.Cond.lays "HallDiary$Let" "HallDiary$Let" "weeks" "I") ∈ SW := zq 164 (by decide +kernel) (by decide +kernel)
theorem n165 : (Jvm.Cond.soleField "HallDiary$Let" "weeks") ∈ lw_tbl := List.mem_of_getElem? (i := 165) (by decide +kernel)
theorem n166 : (Jvm.Cond.superclass "HallDiary$Let" "java/lang/Object") ∈ lw_tbl := List.mem_of_getElem? (i := 166) (by decide +kernel)
theorem q167 : (Jvm.Cond.fieldLink "HallDiary$Roll" (11 : Nat) "HallDiary$Roll" "rows" "[LHallDiary$Let;") ∈ SW := zq 167 (by decide +kernel) (by decide +kernel)
theorem q168 : (Jvm.Cond.fieldLink "HallDiary$DayPlan" (41 : Nat) "HallDiary$Roll" "rows" "[LHallDiary$Let;") ∈ SW := zq 168 (by decide +kernel) (by decide +kernel)
theorem q169 : (Jvm.Cond.fieldLink "HallDiary$State" (57 : Nat) "HallDiary$Roll" "rows" "[LHallDiary$Let;") ∈ SW := zq 169 (by decide +kernel) (by decide +kernel)
theorem q170 : (Jvm.Cond.fieldLink "HallDiary" (119 : Nat) "HallDiary$Roll" "rows" "[LHallDiary$Let;") ∈ SW := zq 170 (by decide +kernel) (by decide +kernel)
theorem q171 : (Jvm.Cond.fieldLink "HallDiary$Roll" (18 : Nat) "HallDiary$Roll" "size" "I") ∈ SW := zq 171 (by decide +kernel) (by decide +kernel)
theorem q172 : (Jvm.Cond.fieldLink "HallDiary$DayPlan" (38 : Nat) "HallDiary$Roll" "size" "I") ∈ SW := zq 172 (by decide +kernel) (by decide +kernel)
theorem q173 : (Jvm.Cond.fieldLink "HallDiary$State" (54 : Nat) "HallDiary$Roll" "size" "I") ∈ SW := zq 173 (by decide +kernel) (by decide +kernel)
theorem q174 : (Jvm.Cond.fieldLink "HallDiary" (212 : Nat) "HallDiary$Roll" "size" "I") ∈ SW := zq 174 (by decide +kernel) (by decide +kernel)
theorem q175 : (Jvm.Cond.laysFinal "HallDiary$Roll" "HallDiary$Roll" "rows" "[LHallDiary$Let;") ∈ SW := zq 175 (by decide +kernel) (by decide +kernel)
theorem n176 : (Jvm.Cond.soleField "HallDiary$Roll" "rows") ∈ lw_tbl := List.mem_of_getElem? (i := 176) (by decide +kernel)
theorem q177 : (Jvm.Cond.lays "HallDiary$Roll" "HallDiary$Roll" "size" "I") ∈ SW := zq 177 (by decide +kernel) (by decide +kernel)
theorem n178 : (Jvm.Cond.soleField "HallDiary$Roll" "size") ∈ lw_tbl := List.mem_of_getElem? (i := 178) (by decide +kernel)
theorem n179 : (Jvm.Cond.superclass "HallDiary$Roll" "java/lang/Object") ∈ lw_tbl := List.mem_of_getElem? (i := 179) (by decide +kernel)
theorem q180 : (Jvm.Cond.fieldLink "HallDiary$State" (14 : Nat) "HallDiary$State" "regulars" "LHallDiary$Roll;") ∈ SW := zq 180 (by decide +kernel) (by decide +kernel)
theorem q181 : (Jvm.Cond.fieldLink "HallDiary$DayPlan" (25 : Nat) "HallDiary$State" "regulars" "LHallDiary$Roll;") ∈ SW := zq 181 (by decide +kernel) (by decide +kernel)
theorem q182 : (Jvm.Cond.fieldLink "HallDiary" (60 : Nat) "HallDiary$State" "regulars" "LHallDiary$Roll;") ∈ SW := zq 182 (by decide +kernel) (by decide +kernel)
theorem q183 : (Jvm.Cond.fieldLink "HallDiary$State" (20 : Nat) "HallDiary$State" "singles" "LHallDiary$Roll;") ∈ SW := zq 183 (by decide +kernel) (by decide +kernel)
theorem q184 : (Jvm.Cond.fieldLink "HallDiary$DayPlan" (35 : Nat) "HallDiary$State" "singles" "LHallDiary$Roll;") ∈ SW := zq 184 (by decide +kernel) (by decide +kernel)
theorem q185 : (Jvm.Cond.fieldLink "HallDiary" (112 : Nat) "HallDiary$State" "singles" "LHallDiary$Roll;") ∈ SW := zq 185 (by decide +kernel) (by decide +kernel)
theorem q186 : (Jvm.Cond.fieldLink "HallDiary$State" (23 : Nat) "HallDiary$State" "rates" "[I") ∈ SW := zq 186 (by decide +kernel) (by decide +kernel)
theorem q187 : (Jvm.Cond.fieldLink "HallDiary" (144 : Nat) "HallDiary$State" "rates" "[I") ∈ SW := zq 187 (by decide +kernel) (by decide +kernel)
theorem q188 : (Jvm.Cond.fieldLink "HallDiary$State" (27 : Nat) "HallDiary$State" "settings" "[I") ∈ SW := zq 188 (by decide +kernel) (by decide +kernel)
theorem q189 : (Jvm.Cond.fieldLink "HallDiary" (162 : Nat) "HallDiary$State" "settings" "[I") ∈ SW := zq 189 (by decide +kernel) (by decide +kernel)
theorem q190 : (Jvm.Cond.fieldLink "HallDiary$State" (40 : Nat) "HallDiary$State" "paid" "I") ∈ SW := zq 190 (by decide +kernel) (by decide +kernel)
theorem q191 : (Jvm.Cond.fieldLink "HallDiary" (252 : Nat) "HallDiary$State" "paid" "I") ∈ SW := zq 191 (by decide +kernel) (by decide +kernel)
theorem q192 : (Jvm.Cond.fieldLink "HallDiary$State" (44 : Nat) "HallDiary$State" "givenBack" "I") ∈ SW := zq 192 (by decide +kernel) (by decide +kernel)
theorem q193 : (Jvm.Cond.fieldLink "HallDiary" (126 : Nat) "HallDiary$State" "givenBack" "I") ∈ SW := zq 193 (by decide +kernel) (by decide +kernel)
theorem q194 : (Jvm.Cond.fieldLink "HallDiary$State" (47 : Nat) "HallDiary$State" "gaveWay" "I") ∈ SW := zq 194 (by decide +kernel) (by decide +kernel)
theorem q195 : (Jvm.Cond.fieldLink "HallDiary" (255 : Nat) "HallDiary$State" "gaveWay" "I") ∈ SW := zq 195 (by decide +kernel) (by decide +kernel)
theorem q196 : (Jvm.Cond.laysFinal "HallDiary$State" "HallDiary$State" "regulars" "LHallDiary$Roll;") ∈ SW := zq 196 (by decide +kernel) (by decide +kernel)
theorem n197 : (Jvm.Cond.soleField "HallDiary$State" "regulars") ∈ lw_tbl := List.mem_of_getElem? (i := 197) (by decide +kernel)
theorem q198 : (Jvm.Cond.laysFinal "HallDiary$State" "HallDiary$State" "singles" "LHallDiary$Roll;") ∈ SW := zq 198 (by decide +kernel) (by decide +kernel)
theorem n199 : (Jvm.Cond.soleField "HallDiary$State" "singles") ∈ lw_tbl := List.mem_of_getElem? (i := 199) (by decide +kernel)
theorem q200 : (Jvm.Cond.laysFinal "HallDiary$State" "HallDiary$State" "rates" "[I") ∈ SW := zq 200 (by decide +kernel) (by decide +kernel)
theorem n201 : (Jvm.Cond.soleField "HallDiary$State" "rates") ∈ lw_tbl := List.mem_of_getElem? (i := 201) (by decide +kernel)
theorem q202 : (Jvm.Cond.laysFinal "HallDiary$State" "HallDiary$State" "settings" "[I") ∈ SW := zq 202 (by decide +kernel) (by decide +kernel)
theorem n203 : (Jvm.Cond.soleField "HallDiary$State" "settings") ∈ lw_tbl := List.mem_of_getElem? (i := 203) (by decide +kernel)
theorem q204 : (Jvm.Cond.lays "HallDiary$State" "HallDiary$State" "paid" "I") ∈ SW := zq 204 (by decide +kernel) (by decide +kernel)
theorem n205 : (Jvm.Cond.soleField "HallDiary$State" "paid") ∈ lw_tbl := List.mem_of_getElem? (i := 205) (by decide +kernel)
theorem q206 : (Jvm.Cond.lays "HallDiary$State" "HallDiary$State" "givenBack" "I") ∈ SW := zq 206 (by decide +kernel) (by decide +kernel)
theorem n207 : (Jvm.Cond.soleField "HallDiary$State" "givenBack") ∈ lw_tbl := List.mem_of_getElem? (i := 207) (by decide +kernel)
theorem q208 : (Jvm.Cond.lays "HallDiary$State" "HallDiary$State" "gaveWay" "I") ∈ SW := zq 208 (by decide +kernel) (by decide +kernel)
theorem n209 : (Jvm.Cond.soleField "HallDiary$State" "gaveWay") ∈ lw_tbl := List.mem_of_getElem? (i := 209) (by decide +kernel)
theorem n210 : (Jvm.Cond.superclass "HallDiary$State" "java/lang/Object") ∈ lw_tbl := List.mem_of_getElem? (i := 210) (by decide +kernel)
theorem q211 : (Jvm.Cond.arrayClass Jvm.ClassFile.FieldType.int) ∈ SW := zq 211 (by decide +kernel) (by decide +kernel)
theorem n212 : (Jvm.Cond.arrayOver (Jvm.ClassFile.FieldType.object "HallDiary$State")) ∈ lw_tbl := List.mem_of_getElem? (i := 212) (by decide +kernel)
theorem q213 : (Jvm.Cond.classLink "HallDiary" (23 : Nat) "HallDiary$LetText") ∈ SW := zq 213 (by decide +kernel) (by decide +kernel)
theorem q214 : (Jvm.Cond.instantiable "HallDiary$LetText" (5 : Nat)) ∈ SW := zq 214 (by decide +kernel) (by decide +kernel)
theorem n215 : (Jvm.Cond.methodLinkNest "HallDiary" (25 : Nat) ({ cls := "HallDiary$LetText", name := "<init>", desc := "()V" } : Jvm.MethodName) "HallDiary") ∈ lw_tbl := List.mem_of_getElem? (i := 215) (by decide +kernel)
theorem q216 : (Jvm.Cond.instanceMethod ({ cls := "HallDiary$LetText", name := "<init>", desc := "()V" } : Jvm.MethodName)) ∈ SW := zq 216 (by decide +kernel) (by decide +kernel)
theorem q217 : (Jvm.Cond.code ({ cls := "HallDiary$LetText", name := "<init>", desc := "()V" } : Jvm.MethodName) prog_4_method_1_code (1 : Nat) (Option.none : Option Jvm.ClassFile.FieldType)) ∈ SW := zq 217 (by decide +kernel) (by decide +kernel)
theorem q218 : (Jvm.Cond.methodLink "HallDiary$LetText" (1 : Nat) ({ cls := "java/lang/Object", name := "<init>", desc := "()V" } : Jvm.MethodName)) ∈ SW := zq 218 (by decide +kernel) (by decide +kernel)
theorem q219 : (Jvm.Cond.fieldLink "HallDiary$LetText" (9 : Nat) "HallDiary$LetText" "codes" "[I") ∈ SW := zq 219 (by decide +kernel) (by decide +kernel)
theorem q220 : (Jvm.Cond.fieldLink "HallDiary" (183 : Nat) "HallDiary$LetText" "codes" "[I") ∈ SW := zq 220 (by decide +kernel) (by decide +kernel)
theorem q221 : (Jvm.Cond.fieldLink "HallDiary$LetText" (16 : Nat) "HallDiary$LetText" "length" "I") ∈ SW := zq 221 (by decide +kernel) (by decide +kernel)
theorem q222 : (Jvm.Cond.fieldLink "HallDiary" (171 : Nat) "HallDiary$LetText" "length" "I") ∈ SW := zq 222 (by decide +kernel) (by decide +kernel)
theorem q223 : (Jvm.Cond.fieldLink "HallDiary$LetText" (13 : Nat) "HallDiary$LetText" "numbers" "[I") ∈ SW := zq 223 (by decide +kernel) (by decide +kernel)
theorem q224 : (Jvm.Cond.fieldLink "HallDiary" (192 : Nat) "HallDiary$LetText" "numbers" "[I") ∈ SW := zq 224 (by decide +kernel) (by decide +kernel)
theorem q225 : (Jvm.Cond.fieldLink "HallDiary$LetText" (24 : Nat) "HallDiary$LetText" "slot" "I") ∈ SW := zq 225 (by decide +kernel) (by decide +kernel)
theorem q226 : (Jvm.Cond.fieldLink "HallDiary$LetText" (27 : Nat) "HallDiary$LetText" "digits" "I") ∈ SW := zq 226 (by decide +kernel) (by decide +kernel)
theorem q227 : (Jvm.Cond.laysFinal "HallDiary$LetText" "HallDiary$LetText" "codes" "[I") ∈ SW := zq 227 (by decide +kernel) (by decide +kernel)
theorem n228 : (Jvm.Cond.soleField "HallDiary$LetText" "codes") ∈ lw_tbl := List.mem_of_getElem? (i := 228) (by decide +kernel)
theorem q229 : (Jvm.Cond.lays "HallDiary$LetText" "HallDiary$LetText" "length" "I") ∈ SW := zq 229 (by decide +kernel) (by decide +kernel)
theorem n230 : (Jvm.Cond.soleField "HallDiary$LetText" "length") ∈ lw_tbl := List.mem_of_getElem? (i := 230) (by decide +kernel)
theorem q231 : (Jvm.Cond.laysFinal "HallDiary$LetText" "HallDiary$LetText" "numbers" "[I") ∈ SW := zq 231 (by decide +kernel) (by decide +kernel)
theorem n232 : (Jvm.Cond.soleField "HallDiary$LetText" "numbers") ∈ lw_tbl := List.mem_of_getElem? (i := 232) (by decide +kernel)
theorem q233 : (Jvm.Cond.lays "HallDiary$LetText" "HallDiary$LetText" "slot" "I") ∈ SW := zq 233 (by decide +kernel) (by decide +kernel)
theorem n234 : (Jvm.Cond.soleField "HallDiary$LetText" "slot") ∈ lw_tbl := List.mem_of_getElem? (i := 234) (by decide +kernel)
theorem q235 : (Jvm.Cond.lays "HallDiary$LetText" "HallDiary$LetText" "digits" "I") ∈ SW := zq 235 (by decide +kernel) (by decide +kernel)
theorem n236 : (Jvm.Cond.soleField "HallDiary$LetText" "digits") ∈ lw_tbl := List.mem_of_getElem? (i := 236) (by decide +kernel)
theorem n237 : (Jvm.Cond.superclass "HallDiary$LetText" "java/lang/Object") ∈ lw_tbl := List.mem_of_getElem? (i := 237) (by decide +kernel)
theorem q238 : (Jvm.Cond.classLink "HallDiary" (30 : Nat) "HallDiary$DayPlan") ∈ SW := zq 238 (by decide +kernel) (by decide +kernel)
theorem q239 : (Jvm.Cond.instantiable "HallDiary$DayPlan" (4 : Nat)) ∈ SW := zq 239 (by decide +kernel) (by decide +kernel)
theorem n240 : (Jvm.Cond.methodLinkNest "HallDiary" (32 : Nat) ({ cls := "HallDiary$DayPlan", name := "<init>", desc := "()V" } : Jvm.MethodName) "HallDiary") ∈ lw_tbl := List.mem_of_getElem? (i := 240) (by decide +kernel)
theorem q241 : (Jvm.Cond.instanceMethod ({ cls := "HallDiary$DayPlan", name := "<init>", desc := "()V" } : Jvm.MethodName)) ∈ SW := zq 241 (by decide +kernel) (by decide +kernel)
theorem q242 : (Jvm.Cond.code ({ cls := "HallDiary$DayPlan", name := "<init>", desc := "()V" } : Jvm.MethodName) prog_2_method_1_code (1 : Nat) (Option.none : Option Jvm.ClassFile.FieldType)) ∈ SW := zq 242 (by decide +kernel) (by decide +kernel)
theorem q243 : (Jvm.Cond.methodLink "HallDiary$DayPlan" (3 : Nat) ({ cls := "java/lang/Object", name := "<init>", desc := "()V" } : Jvm.MethodName)) ∈ SW := zq 243 (by decide +kernel) (by decide +kernel)
theorem q244 : (Jvm.Cond.classLink "HallDiary$DayPlan" (9 : Nat) "HallDiary$Let") ∈ SW := zq 244 (by decide +kernel) (by decide +kernel)
theorem q245 : (Jvm.Cond.fieldLink "HallDiary$DayPlan" (11 : Nat) "HallDiary$DayPlan" "lets" "[LHallDiary$Let;") ∈ SW := zq 245 (by decide +kernel) (by decide +kernel)
theorem q246 : (Jvm.Cond.fieldLink "HallDiary$DayPlan" (21 : Nat) "HallDiary$DayPlan" "size" "I") ∈ SW := zq 246 (by decide +kernel) (by decide +kernel)
theorem q247 : (Jvm.Cond.fieldLink "HallDiary$DayPlan" (17 : Nat) "HallDiary$DayPlan" "cleanFrom" "[I") ∈ SW := zq 247 (by decide +kernel) (by decide +kernel)
theorem q248 : (Jvm.Cond.fieldLink "HallDiary$DayPlan" (68 : Nat) "HallDiary$DayPlan" "cleanerFreeFrom" "I") ∈ SW := zq 248 (by decide +kernel) (by decide +kernel)
theorem q249 : (Jvm.Cond.laysFinal "HallDiary$DayPlan" "HallDiary$DayPlan" "lets" "[LHallDiary$Let;") ∈ SW := zq 249 (by decide +kernel) (by decide +kernel)
theorem n250 : (Jvm.Cond.soleField "HallDiary$DayPlan" "lets") ∈ lw_tbl := List.mem_of_getElem? (i := 250) (by decide +kernel)
theorem q251 : (Jvm.Cond.lays "HallDiary$DayPlan" "HallDiary$DayPlan" "size" "I") ∈ SW := zq 251 (by decide +kernel) (by decide +kernel)
theorem n252 : (Jvm.Cond.soleField "HallDiary$DayPlan" "size") ∈ lw_tbl := List.mem_of_getElem? (i := 252) (by decide +kernel)
theorem q253 : (Jvm.Cond.laysFinal "HallDiary$DayPlan" "HallDiary$DayPlan" "cleanFrom" "[I") ∈ SW := zq 253 (by decide +kernel) (by decide +kernel)
theorem n254 : (Jvm.Cond.soleField "HallDiary$DayPlan" "cleanFrom") ∈ lw_tbl := List.mem_of_getElem? (i := 254) (by decide +kernel)
theorem q255 : (Jvm.Cond.lays "HallDiary$DayPlan" "HallDiary$DayPlan" "cleanerFreeFrom" "I") ∈ SW := zq 255 (by decide +kernel) (by decide +kernel)
theorem n256 : (Jvm.Cond.soleField "HallDiary$DayPlan" "cleanerFreeFrom") ∈ lw_tbl := List.mem_of_getElem? (i := 256) (by decide +kernel)
theorem n257 : (Jvm.Cond.superclass "HallDiary$DayPlan" "java/lang/Object") ∈ lw_tbl := List.mem_of_getElem? (i := 257) (by decide +kernel)
theorem q258 : (Jvm.Cond.classLink "HallDiary" (37 : Nat) "HallDiary$Let") ∈ SW := zq 258 (by decide +kernel) (by decide +kernel)
theorem n259 : (Jvm.Cond.methodLinkNest "HallDiary" (39 : Nat) ({ cls := "HallDiary$Let", name := "<init>", desc := "()V" } : Jvm.MethodName) "HallDiary") ∈ lw_tbl := List.mem_of_getElem? (i := 259) (by decide +kernel)
theorem q260 : (Jvm.Cond.fieldLink "HallDiary" (10 : Nat) "HallDiary" "now" "LHallDiary$State;") ∈ SW := zq 260 (by decide +kernel) (by decide +kernel)
theorem q261 : (Jvm.Cond.fieldLink "HallDiary" (16 : Nat) "HallDiary" "snapshot" "LHallDiary$State;") ∈ SW := zq 261 (by decide +kernel) (by decide +kernel)
theorem q262 : (Jvm.Cond.fieldLink "HallDiary" (208 : Nat) "HallDiary" "hasSnapshot" "Z") ∈ SW := zq 262 (by decide +kernel) (by decide +kernel)
theorem q263 : (Jvm.Cond.fieldLink "HallDiary" (19 : Nat) "HallDiary" "saved" "[LHallDiary$State;") ∈ SW := zq 263 (by decide +kernel) (by decide +kernel)
theorem q264 : (Jvm.Cond.fieldLink "HallDiary" (199 : Nat) "HallDiary" "savedSize" "I") ∈ SW := zq 264 (by decide +kernel) (by decide +kernel)
theorem q265 : (Jvm.Cond.fieldLink "HallDiary" (26 : Nat) "HallDiary" "text" "LHallDiary$LetText;") ∈ SW := zq 265 (by decide +kernel) (by decide +kernel)
theorem q266 : (Jvm.Cond.fieldLink "HallDiary" (33 : Nat) "HallDiary" "plan" "LHallDiary$DayPlan;") ∈ SW := zq 266 (by decide +kernel) (by decide +kernel)
theorem q267 : (Jvm.Cond.fieldLink "HallDiary" (40 : Nat) "HallDiary" "draft" "LHallDiary$Let;") ∈ SW := zq 267 (by decide +kernel) (by decide +kernel)
theorem q268 : (Jvm.Cond.laysFinal "HallDiary" "HallDiary" "now" "LHallDiary$State;") ∈ SW := zq 268 (by decide +kernel) (by decide +kernel)
theorem n269 : (Jvm.Cond.soleField "HallDiary" "now") ∈ lw_tbl := List.mem_of_getElem? (i := 269) (by decide +kernel)
theorem q270 : (Jvm.Cond.laysFinal "HallDiary" "HallDiary" "snapshot" "LHallDiary$State;") ∈ SW := zq 270 (by decide +kernel) (by decide +kernel)
theorem n271 : (Jvm.Cond.soleField "HallDiary" "snapshot") ∈ lw_tbl := List.mem_of_getElem? (i := 271) (by decide +kernel)
theorem q272 : (Jvm.Cond.lays "HallDiary" "HallDiary" "hasSnapshot" "Z") ∈ SW := zq 272 (by decide +kernel) (by decide +kernel)
theorem n273 : (Jvm.Cond.soleField "HallDiary" "hasSnapshot") ∈ lw_tbl := List.mem_of_getElem? (i := 273) (by decide +kernel)
theorem q274 : (Jvm.Cond.laysFinal "HallDiary" "HallDiary" "saved" "[LHallDiary$State;") ∈ SW := zq 274 (by decide +kernel) (by decide +kernel)
theorem n275 : (Jvm.Cond.soleField "HallDiary" "saved") ∈ lw_tbl := List.mem_of_getElem? (i := 275) (by decide +kernel)
theorem q276 : (Jvm.Cond.lays "HallDiary" "HallDiary" "savedSize" "I") ∈ SW := zq 276 (by decide +kernel) (by decide +kernel)
theorem n277 : (Jvm.Cond.soleField "HallDiary" "savedSize") ∈ lw_tbl := List.mem_of_getElem? (i := 277) (by decide +kernel)
theorem q278 : (Jvm.Cond.laysFinal "HallDiary" "HallDiary" "text" "LHallDiary$LetText;") ∈ SW := zq 278 (by decide +kernel) (by decide +kernel)
theorem n279 : (Jvm.Cond.soleField "HallDiary" "text") ∈ lw_tbl := List.mem_of_getElem? (i := 279) (by decide +kernel)
theorem q280 : (Jvm.Cond.laysFinal "HallDiary" "HallDiary" "plan" "LHallDiary$DayPlan;") ∈ SW := zq 280 (by decide +kernel) (by decide +kernel)
theorem n281 : (Jvm.Cond.soleField "HallDiary" "plan") ∈ lw_tbl := List.mem_of_getElem? (i := 281) (by decide +kernel)
theorem q282 : (Jvm.Cond.laysFinal "HallDiary" "HallDiary" "draft" "LHallDiary$Let;") ∈ SW := zq 282 (by decide +kernel) (by decide +kernel)
theorem n283 : (Jvm.Cond.soleField "HallDiary" "draft") ∈ lw_tbl := List.mem_of_getElem? (i := 283) (by decide +kernel)
theorem n284 : (Jvm.Cond.superclass "HallDiary" "java/lang/Object") ∈ lw_tbl := List.mem_of_getElem? (i := 284) (by decide +kernel)
theorem q285 : (Jvm.Cond.methodLink "HallDiaryLaw" (118 : Nat) ({ cls := "HallDiary", name := "clearBuffer", desc := "()I" } : Jvm.MethodName)) ∈ SW := zq 285 (by decide +kernel) (by decide +kernel)
theorem q286 : (Jvm.Cond.instanceMethod ({ cls := "HallDiary", name := "clearBuffer", desc := "()I" } : Jvm.MethodName)) ∈ SW := zq 286 (by decide +kernel) (by decide +kernel)
theorem q287 : (Jvm.Cond.selects "HallDiary" ({ cls := "HallDiary", name := "clearBuffer", desc := "()I" } : Jvm.MethodName) ({ cls := "HallDiary", name := "clearBuffer", desc := "()I" } : Jvm.MethodName)) ∈ SW := zq 287 (by decide +kernel) (by decide +kernel)
theorem q288 : (Jvm.Cond.code ({ cls := "HallDiary", name := "clearBuffer", desc := "()I" } : Jvm.MethodName) prog_1_method_9_code (2 : Nat) (Option.some Jvm.ClassFile.FieldType.int)) ∈ SW := zq 288 (by decide +kernel) (by decide +kernel)
theorem q289 : (Jvm.Cond.methodLink "HallDiaryLaw" (122 : Nat) ({ cls := "HallDiary", name := "firstError", desc := "()I" } : Jvm.MethodName)) ∈ SW := zq 289 (by decide +kernel) (by decide +kernel)
theorem q290 : (Jvm.Cond.instanceMethod ({ cls := "HallDiary", name := "firstError", desc := "()I" } : Jvm.MethodName)) ∈ SW := zq 290 (by decide +kernel) (by decide +kernel)
theorem q291 : (Jvm.Cond.selects "HallDiary" ({ cls := "HallDiary", name := "firstError", desc := "()I" } : Jvm.MethodName) ({ cls := "HallDiary", name := "firstError", desc := "()I" } : Jvm.MethodName)) ∈ SW := zq 291 (by decide +kernel) (by decide +kernel)
theorem q292 : (Jvm.Cond.code ({ cls := "HallDiary", name := "firstError", desc := "()I" } : Jvm.MethodName) prog_1_method_10_code (1 : Nat) (Option.some Jvm.ClassFile.FieldType.int)) ∈ SW := zq 292 (by decide +kernel) (by decide +kernel)
theorem q293 : (Jvm.Cond.methodLink "HallDiary" (174 : Nat) ({ cls := "HallDiary$LetText", name := "firstBadIndex", desc := "()I" } : Jvm.MethodName)) ∈ SW := zq 293 (by decide +kernel) (by decide +kernel)
theorem q294 : (Jvm.Cond.instanceMethod ({ cls := "HallDiary$LetText", name := "firstBadIndex", desc := "()I" } : Jvm.MethodName)) ∈ SW := zq 294 (by decide +kernel) (by decide +kernel)
theorem q295 : (Jvm.Cond.selects "HallDiary$LetText" ({ cls := "HallDiary$LetText", name := "firstBadIndex", desc := "()I" } : Jvm.MethodName) ({ cls := "HallDiary$LetText", name := "firstBadIndex", desc := "()I" } : Jvm.MethodName)) ∈ SW := zq 295 (by decide +kernel) (by decide +kernel)
theorem q296 : (Jvm.Cond.code ({ cls := "HallDiary$LetText", name := "firstBadIndex", desc := "()I" } : Jvm.MethodName) prog_4_method_5_code (2 : Nat) (Option.some Jvm.ClassFile.FieldType.int)) ∈ SW := zq 296 (by decide +kernel) (by decide +kernel)
theorem q297 : (Jvm.Cond.methodLink "HallDiary$LetText" (30 : Nat) ({ cls := "HallDiary$LetText", name := "startReading", desc := "()V" } : Jvm.MethodName)) ∈ SW := zq 297 (by decide +kernel) (by decide +kernel)
theorem q298 : (Jvm.Cond.instanceMethod ({ cls := "HallDiary$LetText", name := "startReading", desc := "()V" } : Jvm.MethodName)) ∈ SW := zq 298 (by decide +kernel) (by decide +kernel)
theorem q299 : (Jvm.Cond.selects "HallDiary$LetText" ({ cls := "HallDiary$LetText", name := "startReading", desc := "()V" } : Jvm.MethodName) ({ cls := "HallDiary$LetText", name := "startReading", desc := "()V" } : Jvm.MethodName)) ∈ SW := zq 299 (by decide +kernel) (by decide +kernel)
theorem q300 : (Jvm.Cond.code ({ cls := "HallDiary$LetText", name := "startReading", desc := "()V" } : Jvm.MethodName) prog_4_method_4_code (1 : Nat) (Option.none : Option Jvm.ClassFile.FieldType)) ∈ SW := zq 300 (by decide +kernel) (by decide +kernel)
theorem q301 : (Jvm.Cond.methodLink "HallDiary$LetText" (33 : Nat) ({ cls := "HallDiary$LetText", name := "accepts", desc := "(I)Z" } : Jvm.MethodName)) ∈ SW := zq 301 (by decide +kernel) (by decide +kernel)
theorem q302 : (Jvm.Cond.instanceMethod ({ cls := "HallDiary$LetText", name := "accepts", desc := "(I)Z" } : Jvm.MethodName)) ∈ SW := zq 302 (by decide +kernel) (by decide +kernel)
theorem q303 : (Jvm.Cond.selects "HallDiary$LetText" ({ cls := "HallDiary$LetText", name := "accepts", desc := "(I)Z" } : Jvm.MethodName) ({ cls := "HallDiary$LetText", name := "accepts", desc := "(I)Z" } : Jvm.MethodName)) ∈ SW := zq 303 (by decide +kernel) (by decide +kernel)
theorem q304 : (Jvm.Cond.code ({ cls := "HallDiary$LetText", name := "accepts", desc := "(I)Z" } : Jvm.MethodName) prog_4_method_8_code (2 : Nat) (Option.some Jvm.ClassFile.FieldType.boolean)) ∈ SW := zq 304 (by decide +kernel) (by decide +kernel)
theorem q305 : (Jvm.Cond.methodLink "HallDiary$LetText" (41 : Nat) ({ cls := "HallDiary$LetText", name := "acceptsDigit", desc := "(I)Z" } : Jvm.MethodName)) ∈ SW := zq 305 (by decide +kernel) (by decide +kernel)
theorem n306 : (Jvm.Cond.privateMethod ({ cls := "HallDiary$LetText", name := "acceptsDigit", desc := "(I)Z" } : Jvm.MethodName)) ∈ lw_tbl := List.mem_of_getElem? (i := 306) (by decide +kernel)
theorem q307 : (Jvm.Cond.instanceMethod ({ cls := "HallDiary$LetText", name := "acceptsDigit", desc := "(I)Z" } : Jvm.MethodName)) ∈ SW := zq 307 (by decide +kernel) (by decide +kernel)
theorem q308 : (Jvm.Cond.code ({ cls := "HallDiary$LetText", name := "acceptsDigit", desc := "(I)Z" } : Jvm.MethodName) prog_4_method_9_code (3 : Nat) (Option.some Jvm.ClassFile.FieldType.boolean)) ∈ SW := zq 308 (by decide +kernel) (by decide +kernel)
theorem q309 : (Jvm.Cond.fieldLink "HallDiary$LetText" (52 : Nat) "HallDiary$LetText" "LOWEST" "[I") ∈ SW := zq 309 (by decide +kernel) (by decide +kernel)
theorem n310 : (Jvm.Cond.laysStatic "HallDiary$LetText" "LOWEST" "[I") ∈ lw_tbl := List.mem_of_getElem? (i := 310) (by decide +kernel)
theorem q311 : (Jvm.Cond.fieldLink "HallDiary$LetText" (55 : Nat) "HallDiary$LetText" "HIGHEST" "[I") ∈ SW := zq 311 (by decide +kernel) (by decide +kernel)
theorem n312 : (Jvm.Cond.laysStatic "HallDiary$LetText" "HIGHEST" "[I") ∈ lw_tbl := List.mem_of_getElem? (i := 312) (by decide +kernel)
theorem n313 : (Jvm.Cond.methodLinkNest "HallDiary$LetText" (58 : Nat) ({ cls := "HallDiary", name := "isIn", desc := "(III)Z" } : Jvm.MethodName) "HallDiary") ∈ lw_tbl := List.mem_of_getElem? (i := 313) (by decide +kernel)
theorem q314 : (Jvm.Cond.static ({ cls := "HallDiary", name := "isIn", desc := "(III)Z" } : Jvm.MethodName)) ∈ SW := zq 314 (by decide +kernel) (by decide +kernel)
theorem q315 : (Jvm.Cond.code ({ cls := "HallDiary", name := "isIn", desc := "(III)Z" } : Jvm.MethodName) prog_1_method_31_code (3 : Nat) (Option.some Jvm.ClassFile.FieldType.boolean)) ∈ SW := zq 315 (by decide +kernel) (by decide +kernel)
theorem n316 : (Jvm.Cond.stringRef "HallDiary$LetText" (44 : Nat) ":,-*@;") ∈ lw_tbl := List.mem_of_getElem? (i := 316) (by decide +kernel)
theorem q317 : (Jvm.Cond.methodLink "HallDiary$LetText" (46 : Nat) ({ cls := "java/lang/String", name := "charAt", desc := "(I)C" } : Jvm.MethodName)) ∈ SW := zq 317 (by decide +kernel) (by decide +kernel)
theorem q318 : (Jvm.Cond.instanceMethod ({ cls := "java/lang/String", name := "charAt", desc := "(I)C" } : Jvm.MethodName)) ∈ SW := zq 318 (by decide +kernel) (by decide +kernel)
theorem q319 : (Jvm.Cond.selects "java/lang/String" ({ cls := "java/lang/String", name := "charAt", desc := "(I)C" } : Jvm.MethodName) ({ cls := "java/lang/String", name := "charAt", desc := "(I)C" } : Jvm.MethodName)) ∈ SW := zq 319 (by decide +kernel) (by decide +kernel)
theorem q320 : (Jvm.Cond.code ({ cls := "java/lang/String", name := "charAt", desc := "(I)C" } : Jvm.MethodName) prog_18_method_56_code (2 : Nat) (Option.some Jvm.ClassFile.FieldType.char)) ∈ SW := zq 320 (by decide +kernel) (by decide +kernel)
theorem q321 : (Jvm.Cond.methodLink "java/lang/String" (492 : Nat) ({ cls := "java/lang/String", name := "isLatin1", desc := "()Z" } : Jvm.MethodName)) ∈ SW := zq 321 (by decide +kernel) (by decide +kernel)
theorem q322 : (Jvm.Cond.instanceMethod ({ cls := "java/lang/String", name := "isLatin1", desc := "()Z" } : Jvm.MethodName)) ∈ SW := zq 322 (by decide +kernel) (by decide +kernel)
theorem q323 : (Jvm.Cond.selects "java/lang/String" ({ cls := "java/lang/String", name := "isLatin1", desc := "()Z" } : Jvm.MethodName) ({ cls := "java/lang/String", name := "isLatin1", desc := "()Z" } : Jvm.MethodName)) ∈ SW := zq 323 (by decide +kernel) (by decide +kernel)
theorem q324 : (Jvm.Cond.code ({ cls := "java/lang/String", name := "isLatin1", desc := "()Z" } : Jvm.MethodName) prog_18_method_154_code (1 : Nat) (Option.some Jvm.ClassFile.FieldType.boolean)) ∈ SW := zq 324 (by decide +kernel) (by decide +kernel)
theorem q325 : (Jvm.Cond.fieldLink "java/lang/String" (38 : Nat) "java/lang/String" "COMPACT_STRINGS" "Z") ∈ SW := zq 325 (by decide +kernel) (by decide +kernel)
theorem n326 : (Jvm.Cond.laysStatic "java/lang/String" "COMPACT_STRINGS" "Z") ∈ lw_tbl := List.mem_of_getElem? (i := 326) (by decide +kernel)
theorem q327 : (Jvm.Cond.methodLink "java/lang/String" (495 : Nat) ({ cls := "java/lang/StringLatin1", name := "charAt", desc := "([BI)C" } : Jvm.MethodName)) ∈ SW := zq 327 (by decide +kernel) (by decide +kernel)
theorem q328 : (Jvm.Cond.static ({ cls := "java/lang/StringLatin1", name := "charAt", desc := "([BI)C" } : Jvm.MethodName)) ∈ SW := zq 328 (by decide +kernel) (by decide +kernel)
theorem q329 : (Jvm.Cond.code ({ cls := "java/lang/StringLatin1", name := "charAt", desc := "([BI)C" } : Jvm.MethodName) prog_19_method_2_code (2 : Nat) (Option.some Jvm.ClassFile.FieldType.char)) ∈ SW := zq 329 (by decide +kernel) (by decide +kernel)
theorem q330 : (Jvm.Cond.methodLink "java/lang/StringLatin1" (9 : Nat) ({ cls := "java/lang/String", name := "checkIndex", desc := "(II)V" } : Jvm.MethodName)) ∈ SW := zq 330 (by decide +kernel) (by decide +kernel)
theorem q331 : (Jvm.Cond.static ({ cls := "java/lang/String", name := "checkIndex", desc := "(II)V" } : Jvm.MethodName)) ∈ SW := zq 331 (by decide +kernel) (by decide +kernel)
theorem q332 : (Jvm.Cond.code ({ cls := "java/lang/String", name := "checkIndex", desc := "(II)V" } : Jvm.MethodName) prog_18_method_155_code (2 : Nat) (Option.none : Option Jvm.ClassFile.FieldType)) ∈ SW := zq 332 (by decide +kernel) (by decide +kernel)
theorem q333 : (Jvm.Cond.fieldLink "java/lang/String" (1053 : Nat) "jdk/internal/util/Preconditions" "SIOOBE_FORMATTER" "Ljava/util/function/BiFunction;") ∈ SW := zq 333 (by decide +kernel) (by decide +kernel)
theorem n334 : (Jvm.Cond.laysStatic "jdk/internal/util/Preconditions" "SIOOBE_FORMATTER" "Ljava/util/function/BiFunction;") ∈ lw_tbl := List.mem_of_getElem? (i := 334) (by decide +kernel)
theorem q335 : (Jvm.Cond.methodLink "java/lang/String" (1059 : Nat) ({ cls := "jdk/internal/util/Preconditions", name := "checkIndex", desc := "(IILjava/util/function/BiFunction;)I" } : Jvm.MethodName)) ∈ SW := zq 335 (by decide +kernel) (by decide +kernel)
theorem q336 : (Jvm.Cond.static ({ cls := "jdk/internal/util/Preconditions", name := "checkIndex", desc := "(IILjava/util/function/BiFunction;)I" } : Jvm.MethodName)) ∈ SW := zq 336 (by decide +kernel) (by decide +kernel)
theorem q337 : (Jvm.Cond.code ({ cls := "jdk/internal/util/Preconditions", name := "checkIndex", desc := "(IILjava/util/function/BiFunction;)I" } : Jvm.MethodName) prog_23_method_11_code (3 : Nat) (Option.some Jvm.ClassFile.FieldType.int)) ∈ SW := zq 337 (by decide +kernel) (by decide +kernel)
theorem q338 : (Jvm.Cond.methodLink "java/lang/String" (498 : Nat) ({ cls := "java/lang/StringUTF16", name := "charAt", desc := "([BI)C" } : Jvm.MethodName)) ∈ SW := zq 338 (by decide +kernel) (by decide +kernel)
theorem q339 : (Jvm.Cond.static ({ cls := "java/lang/StringUTF16", name := "charAt", desc := "([BI)C" } : Jvm.MethodName)) ∈ SW := zq 339 (by decide +kernel) (by decide +kernel)
theorem q340 : (Jvm.Cond.code ({ cls := "java/lang/StringUTF16", name := "charAt", desc := "([BI)C" } : Jvm.MethodName) prog_20_method_83_code (2 : Nat) (Option.some Jvm.ClassFile.FieldType.char)) ∈ SW := zq 340 (by decide +kernel) (by decide +kernel)
theorem q341 : (Jvm.Cond.methodLink "java/lang/StringUTF16" (67 : Nat) ({ cls := "java/lang/StringUTF16", name := "checkIndex", desc := "(I[B)V" } : Jvm.MethodName)) ∈ SW := zq 341 (by decide +kernel) (by decide +kernel)
theorem q342 : (Jvm.Cond.static ({ cls := "java/lang/StringUTF16", name := "checkIndex", desc := "(I[B)V" } : Jvm.MethodName)) ∈ SW := zq 342 (by decide +kernel) (by decide +kernel)
theorem q343 : (Jvm.Cond.code ({ cls := "java/lang/StringUTF16", name := "checkIndex", desc := "(I[B)V" } : Jvm.MethodName) prog_20_method_91_code (2 : Nat) (Option.none : Option Jvm.ClassFile.FieldType)) ∈ SW := zq 343 (by decide +kernel) (by decide +kernel)
theorem q344 : (Jvm.Cond.methodLink "java/lang/StringUTF16" (48 : Nat) ({ cls := "java/lang/StringUTF16", name := "length", desc := "([B)I" } : Jvm.MethodName)) ∈ SW := zq 344 (by decide +kernel) (by decide +kernel)
theorem q345 : (Jvm.Cond.static ({ cls := "java/lang/StringUTF16", name := "length", desc := "([B)I" } : Jvm.MethodName)) ∈ SW := zq 345 (by decide +kernel) (by decide +kernel)
theorem q346 : (Jvm.Cond.code ({ cls := "java/lang/StringUTF16", name := "length", desc := "([B)I" } : Jvm.MethodName) prog_20_method_6_code (1 : Nat) (Option.some Jvm.ClassFile.FieldType.int)) ∈ SW := zq 346 (by decide +kernel) (by decide +kernel)
theorem q347 : (Jvm.Cond.methodLink "java/lang/StringUTF16" (414 : Nat) ({ cls := "java/lang/String", name := "checkIndex", desc := "(II)V" } : Jvm.MethodName)) ∈ SW := zq 347 (by decide +kernel) (by decide +kernel)
theorem q348 : (Jvm.Cond.methodLink "java/lang/StringUTF16" (71 : Nat) ({ cls := "java/lang/StringUTF16", name := "getChar", desc := "([BI)C" } : Jvm.MethodName)) ∈ SW := zq 348 (by decide +kernel) (by decide +kernel)
theorem q349 : (Jvm.Cond.static ({ cls := "java/lang/StringUTF16", name := "getChar", desc := "([BI)C" } : Jvm.MethodName)) ∈ SW := zq 349 (by decide +kernel) (by decide +kernel)
theorem q350 : (Jvm.Cond.code ({ cls := "java/lang/StringUTF16", name := "getChar", desc := "([BI)C" } : Jvm.MethodName) prog_20_method_5_code (2 : Nat) (Option.some Jvm.ClassFile.FieldType.char)) ∈ SW := zq 350 (by decide +kernel) (by decide +kernel)
theorem q351 : (Jvm.Cond.fieldLink "java/lang/StringUTF16" (44 : Nat) "java/lang/StringUTF16" "$assertionsDisabled" "Z") ∈ SW := zq 351 (by decide +kernel) (by decide +kernel)
theorem n352 : (Jvm.Cond.laysStatic "java/lang/StringUTF16" "$assertionsDisabled" "Z") ∈ lw_tbl := List.mem_of_getElem? (i := 352) (by decide +kernel)
theorem q353 : (Jvm.Cond.fieldLink "java/lang/StringUTF16" (59 : Nat) "java/lang/StringUTF16" "HI_BYTE_SHIFT" "I") ∈ SW := zq 353 (by decide +kernel) (by decide +kernel)
theorem n354 : (Jvm.Cond.laysStatic "java/lang/StringUTF16" "HI_BYTE_SHIFT" "I") ∈ lw_tbl := List.mem_of_getElem? (i := 354) (by decide +kernel)
theorem q355 : (Jvm.Cond.fieldLink "java/lang/StringUTF16" (63 : Nat) "java/lang/StringUTF16" "LO_BYTE_SHIFT" "I") ∈ SW := zq 355 (by decide +kernel) (by decide +kernel)
theorem n356 : (Jvm.Cond.laysStatic "java/lang/StringUTF16" "LO_BYTE_SHIFT" "I") ∈ lw_tbl := List.mem_of_getElem? (i := 356) (by decide +kernel)
theorem q357 : (Jvm.Cond.arrayClass Jvm.ClassFile.FieldType.byte) ∈ SW := zq 357 (by decide +kernel) (by decide +kernel)
theorem q358 : (Jvm.Cond.methodLink "HallDiaryLaw" (133 : Nat) ({ cls := "HallDiary", name := "keep", desc := "()I" } : Jvm.MethodName)) ∈ SW := zq 358 (by decide +kernel) (by decide +kernel)
theorem q359 : (Jvm.Cond.instanceMethod ({ cls := "HallDiary", name := "keep", desc := "()I" } : Jvm.MethodName)) ∈ SW := zq 359 (by decide +kernel) (by decide +kernel)
theorem q360 : (Jvm.Cond.selects "HallDiary" ({ cls := "HallDiary", name := "keep", desc := "()I" } : Jvm.MethodName) ({ cls := "HallDiary", name := "keep", desc := "()I" } : Jvm.MethodName)) ∈ SW := zq 360 (by decide +kernel) (by decide +kernel)
theorem q361 : (Jvm.Cond.code ({ cls := "HallDiary", name := "keep", desc := "()I" } : Jvm.MethodName) prog_1_method_13_code (1 : Nat) (Option.some Jvm.ClassFile.FieldType.int)) ∈ SW := zq 361 (by decide +kernel) (by decide +kernel)
theorem q362 : (Jvm.Cond.methodLink "HallDiary" (204 : Nat) ({ cls := "HallDiary$State", name := "become", desc := "(LHallDiary$State;)V" } : Jvm.MethodName)) ∈ SW := zq 362 (by decide +kernel) (by decide +kernel)
theorem q363 : (Jvm.Cond.instanceMethod ({ cls := "HallDiary$State", name := "become", desc := "(LHallDiary$State;)V" } : Jvm.MethodName)) ∈ SW := zq 363 (by decide +kernel) (by decide +kernel)
theorem q364 : (Jvm.Cond.selects "HallDiary$State" ({ cls := "HallDiary$State", name := "become", desc := "(LHallDiary$State;)V" } : Jvm.MethodName) ({ cls := "HallDiary$State", name := "become", desc := "(LHallDiary$State;)V" } : Jvm.MethodName)) ∈ SW := zq 364 (by decide +kernel) (by decide +kernel)
theorem q365 : (Jvm.Cond.code ({ cls := "HallDiary$State", name := "become", desc := "(LHallDiary$State;)V" } : Jvm.MethodName) prog_6_method_2_code (2 : Nat) (Option.none : Option Jvm.ClassFile.FieldType)) ∈ SW := zq 365 (by decide +kernel) (by decide +kernel)
theorem q366 : (Jvm.Cond.methodLink "HallDiary$State" (30 : Nat) ({ cls := "HallDiary$Roll", name := "become", desc := "(LHallDiary$Roll;)V" } : Jvm.MethodName)) ∈ SW := zq 366 (by decide +kernel) (by decide +kernel)
theorem q367 : (Jvm.Cond.instanceMethod ({ cls := "HallDiary$Roll", name := "become", desc := "(LHallDiary$Roll;)V" } : Jvm.MethodName)) ∈ SW := zq 367 (by decide +kernel) (by decide +kernel)
theorem q368 : (Jvm.Cond.selects "HallDiary$Roll" ({ cls := "HallDiary$Roll", name := "become", desc := "(LHallDiary$Roll;)V" } : Jvm.MethodName) ({ cls := "HallDiary$Roll", name := "become", desc := "(LHallDiary$Roll;)V" } : Jvm.MethodName)) ∈ SW := zq 368 (by decide +kernel) (by decide +kernel)
theorem q369 : (Jvm.Cond.code ({ cls := "HallDiary$Roll", name := "become", desc := "(LHallDiary$Roll;)V" } : Jvm.MethodName) prog_5_method_5_code (4 : Nat) (Option.none : Option Jvm.ClassFile.FieldType)) ∈ SW := zq 369 (by decide +kernel) (by decide +kernel)
theorem q370 : (Jvm.Cond.methodLink "HallDiary$Roll" (34 : Nat) ({ cls := "java/lang/Math", name := "min", desc := "(II)I" } : Jvm.MethodName)) ∈ SW := zq 370 (by decide +kernel) (by decide +kernel)
theorem q371 : (Jvm.Cond.static ({ cls := "java/lang/Math", name := "min", desc := "(II)I" } : Jvm.MethodName)) ∈ SW := zq 371 (by decide +kernel) (by decide +kernel)
theorem q372 : (Jvm.Cond.code ({ cls := "java/lang/Math", name := "min", desc := "(II)I" } : Jvm.MethodName) prog_16_method_69_code (2 : Nat) (Option.some Jvm.ClassFile.FieldType.int)) ∈ SW := zq 372 (by decide +kernel) (by decide +kernel)
theorem q373 : (Jvm.Cond.methodLink "HallDiary$Roll" (26 : Nat) ({ cls := "HallDiary$Let", name := "become", desc := "(LHallDiary$Let;)V" } : Jvm.MethodName)) ∈ SW := zq 373 (by decide +kernel) (by decide +kernel)
theorem q374 : (Jvm.Cond.instanceMethod ({ cls := "HallDiary$Let", name := "become", desc := "(LHallDiary$Let;)V" } : Jvm.MethodName)) ∈ SW := zq 374 (by decide +kernel) (by decide +kernel)
theorem q375 : (Jvm.Cond.selects "HallDiary$Let" ({ cls := "HallDiary$Let", name := "become", desc := "(LHallDiary$Let;)V" } : Jvm.MethodName) ({ cls := "HallDiary$Let", name := "become", desc := "(LHallDiary$Let;)V" } : Jvm.MethodName)) ∈ SW := zq 375 (by decide +kernel) (by decide +kernel)
theorem q376 : (Jvm.Cond.code ({ cls := "HallDiary$Let", name := "become", desc := "(LHallDiary$Let;)V" } : Jvm.MethodName) prog_3_method_3_code (2 : Nat) (Option.none : Option Jvm.ClassFile.FieldType)) ∈ SW := zq 376 (by decide +kernel) (by decide +kernel)
theorem q377 : (Jvm.Cond.methodLink "HallDiary$Let" (24 : Nat) ({ cls := "HallDiary$Let", name := "place", desc := "(IIII)V" } : Jvm.MethodName)) ∈ SW := zq 377 (by decide +kernel) (by decide +kernel)
theorem q378 : (Jvm.Cond.instanceMethod ({ cls := "HallDiary$Let", name := "place", desc := "(IIII)V" } : Jvm.MethodName)) ∈ SW := zq 378 (by decide +kernel) (by decide +kernel)
theorem q379 : (Jvm.Cond.selects "HallDiary$Let" ({ cls := "HallDiary$Let", name := "place", desc := "(IIII)V" } : Jvm.MethodName) ({ cls := "HallDiary$Let", name := "place", desc := "(IIII)V" } : Jvm.MethodName)) ∈ SW := zq 379 (by decide +kernel) (by decide +kernel)
theorem q380 : (Jvm.Cond.code ({ cls := "HallDiary$Let", name := "place", desc := "(IIII)V" } : Jvm.MethodName) prog_3_method_2_code (5 : Nat) (Option.none : Option Jvm.ClassFile.FieldType)) ∈ SW := zq 380 (by decide +kernel) (by decide +kernel)
theorem q381 : (Jvm.Cond.methodLink "HallDiary$State" (34 : Nat) ({ cls := "java/lang/System", name := "arraycopy", desc := "(Ljava/lang/Object;ILjava/lang/Object;II)V" } : Jvm.MethodName)) ∈ SW := zq 381 (by decide +kernel) (by decide +kernel)
theorem q382 : (Jvm.Cond.static ({ cls := "java/lang/System", name := "arraycopy", desc := "(Ljava/lang/Object;ILjava/lang/Object;II)V" } : Jvm.MethodName)) ∈ SW := zq 382 (by decide +kernel) (by decide +kernel)
theorem q383 : (Jvm.Cond.native ({ cls := "java/lang/System", name := "arraycopy", desc := "(Ljava/lang/Object;ILjava/lang/Object;II)V" } : Jvm.MethodName)) ∈ SW := zq 383 (by decide +kernel) (by decide +kernel)
theorem q384 : (Jvm.Cond.methodLink "HallDiaryLaw" (170 : Nat) ({ cls := "HallDiary", name := "best", desc := "()I" } : Jvm.MethodName)) ∈ SW := zq 384 (by decide +kernel) (by decide +kernel)
theorem q385 : (Jvm.Cond.instanceMethod ({ cls := "HallDiary", name := "best", desc := "()I" } : Jvm.MethodName)) ∈ SW := zq 385 (by decide +kernel) (by decide +kernel)
theorem q386 : (Jvm.Cond.selects "HallDiary" ({ cls := "HallDiary", name := "best", desc := "()I" } : Jvm.MethodName) ({ cls := "HallDiary", name := "best", desc := "()I" } : Jvm.MethodName)) ∈ SW := zq 386 (by decide +kernel) (by decide +kernel)
theorem q387 : (Jvm.Cond.code ({ cls := "HallDiary", name := "best", desc := "()I" } : Jvm.MethodName) prog_1_method_24_code (5 : Nat) (Option.some Jvm.ClassFile.FieldType.int)) ∈ SW := zq 387 (by decide +kernel) (by decide +kernel)
theorem q388 : (Jvm.Cond.methodLink "HallDiary" (249 : Nat) ({ cls := "HallDiary$State", name := "sumFor", desc := "(II)I" } : Jvm.MethodName)) ∈ SW := zq 388 (by decide +kernel) (by decide +kernel)
theorem q389 : (Jvm.Cond.instanceMethod ({ cls := "HallDiary$State", name := "sumFor", desc := "(II)I" } : Jvm.MethodName)) ∈ SW := zq 389 (by decide +kernel) (by decide +kernel)
theorem q390 : (Jvm.Cond.selects "HallDiary$State" ({ cls := "HallDiary$State", name := "sumFor", desc := "(II)I" } : Jvm.MethodName) ({ cls := "HallDiary$State", name := "sumFor", desc := "(II)I" } : Jvm.MethodName)) ∈ SW := zq 390 (by decide +kernel) (by decide +kernel)
theorem q391 : (Jvm.Cond.code ({ cls := "HallDiary$State", name := "sumFor", desc := "(II)I" } : Jvm.MethodName) prog_6_method_3_code (3 : Nat) (Option.some Jvm.ClassFile.FieldType.int)) ∈ SW := zq 391 (by decide +kernel) (by decide +kernel)
theorem q392 : (Jvm.Cond.methodLink "HallDiary$State" (50 : Nat) ({ cls := "HallDiary$Roll", name := "sumFor", desc := "(II)I" } : Jvm.MethodName)) ∈ SW := zq 392 (by decide +kernel) (by decide +kernel)
theorem q393 : (Jvm.Cond.instanceMethod ({ cls := "HallDiary$Roll", name := "sumFor", desc := "(II)I" } : Jvm.MethodName)) ∈ SW := zq 393 (by decide +kernel) (by decide +kernel)
theorem q394 : (Jvm.Cond.selects "HallDiary$Roll" ({ cls := "HallDiary$Roll", name := "sumFor", desc := "(II)I" } : Jvm.MethodName) ({ cls := "HallDiary$Roll", name := "sumFor", desc := "(II)I" } : Jvm.MethodName)) ∈ SW := zq 394 (by decide +kernel) (by decide +kernel)
theorem q395 : (Jvm.Cond.code ({ cls := "HallDiary$Roll", name := "sumFor", desc := "(II)I" } : Jvm.MethodName) prog_5_method_6_code (6 : Nat) (Option.some Jvm.ClassFile.FieldType.int)) ∈ SW := zq 395 (by decide +kernel) (by decide +kernel)
theorem q396 : (Jvm.Cond.methodLink "HallDiary$Roll" (43 : Nat) ({ cls := "HallDiary$Let", name := "daysStanding", desc := "()I" } : Jvm.MethodName)) ∈ SW := zq 396 (by decide +kernel) (by decide +kernel)
theorem q397 : (Jvm.Cond.instanceMethod ({ cls := "HallDiary$Let", name := "daysStanding", desc := "()I" } : Jvm.MethodName)) ∈ SW := zq 397 (by decide +kernel) (by decide +kernel)
theorem q398 : (Jvm.Cond.selects "HallDiary$Let" ({ cls := "HallDiary$Let", name := "daysStanding", desc := "()I" } : Jvm.MethodName) ({ cls := "HallDiary$Let", name := "daysStanding", desc := "()I" } : Jvm.MethodName)) ∈ SW := zq 398 (by decide +kernel) (by decide +kernel)
theorem q399 : (Jvm.Cond.code ({ cls := "HallDiary$Let", name := "daysStanding", desc := "()I" } : Jvm.MethodName) prog_3_method_6_code (1 : Nat) (Option.some Jvm.ClassFile.FieldType.int)) ∈ SW := zq 399 (by decide +kernel) (by decide +kernel)
theorem q400 : (Jvm.Cond.methodLink "HallDiary$Let" (46 : Nat) ({ cls := "java/lang/Integer", name := "bitCount", desc := "(I)I" } : Jvm.MethodName)) ∈ SW := zq 400 (by decide +kernel) (by decide +kernel)
theorem q401 : (Jvm.Cond.static ({ cls := "java/lang/Integer", name := "bitCount", desc := "(I)I" } : Jvm.MethodName)) ∈ SW := zq 401 (by decide +kernel) (by decide +kernel)
theorem q402 : (Jvm.Cond.code ({ cls := "java/lang/Integer", name := "bitCount", desc := "(I)I" } : Jvm.MethodName) prog_15_method_49_code (1 : Nat) (Option.some Jvm.ClassFile.FieldType.int)) ∈ SW := zq 402 (by decide +kernel) (by decide +kernel)
theorem q403 : (Jvm.Cond.constant "java/lang/Integer" (265 : Nat) (1431655765 : Int32)) ∈ SW := zq 403 (by decide +kernel) (by decide +kernel)
theorem q404 : (Jvm.Cond.constant "java/lang/Integer" (266 : Nat) (858993459 : Int32)) ∈ SW := zq 404 (by decide +kernel) (by decide +kernel)
theorem q405 : (Jvm.Cond.constant "java/lang/Integer" (267 : Nat) (252645135 : Int32)) ∈ SW := zq 405 (by decide +kernel) (by decide +kernel)
theorem q406 : (Jvm.Cond.methodLink "HallDiary$Roll" (47 : Nat) ({ cls := "HallDiary$Let", name := "shareOfDay", desc := "(I)I" } : Jvm.MethodName)) ∈ SW := zq 406 (by decide +kernel) (by decide +kernel)
theorem q407 : (Jvm.Cond.instanceMethod ({ cls := "HallDiary$Let", name := "shareOfDay", desc := "(I)I" } : Jvm.MethodName)) ∈ SW := zq 407 (by decide +kernel) (by decide +kernel)
theorem q408 : (Jvm.Cond.selects "HallDiary$Let" ({ cls := "HallDiary$Let", name := "shareOfDay", desc := "(I)I" } : Jvm.MethodName) ({ cls := "HallDiary$Let", name := "shareOfDay", desc := "(I)I" } : Jvm.MethodName)) ∈ SW := zq 408 (by decide +kernel) (by decide +kernel)
theorem q409 : (Jvm.Cond.code ({ cls := "HallDiary$Let", name := "shareOfDay", desc := "(I)I" } : Jvm.MethodName) prog_3_method_8_code (2 : Nat) (Option.some Jvm.ClassFile.FieldType.int)) ∈ SW := zq 409 (by decide +kernel) (by decide +kernel)
theorem q410 : (Jvm.Cond.methodLink "HallDiaryLaw" (178 : Nat) ({ cls := "HallDiary", name := "meanRent", desc := "()F" } : Jvm.MethodName)) ∈ SW := zq 410 (by decide +kernel) (by decide +kernel)
theorem q411 : (Jvm.Cond.instanceMethod ({ cls := "HallDiary", name := "meanRent", desc := "()F" } : Jvm.MethodName)) ∈ SW := zq 411 (by decide +kernel) (by decide +kernel)
theorem q412 : (Jvm.Cond.selects "HallDiary" ({ cls := "HallDiary", name := "meanRent", desc := "()F" } : Jvm.MethodName) ({ cls := "HallDiary", name := "meanRent", desc := "()F" } : Jvm.MethodName)) ∈ SW := zq 412 (by decide +kernel) (by decide +kernel)
theorem q413 : (Jvm.Cond.code ({ cls := "HallDiary", name := "meanRent", desc := "()F" } : Jvm.MethodName) prog_1_method_26_code (1 : Nat) (Option.some Jvm.ClassFile.FieldType.float)) ∈ SW := zq 413 (by decide +kernel) (by decide +kernel)
theorem q414 : (Jvm.Cond.constantFloat "HallDiary" (274 : Nat) (1118306304 : UInt32)) ∈ SW := zq 414 (by decide +kernel) (by decide +kernel)
theorem q415 : (Jvm.Cond.methodLink "HallDiaryLaw" (183 : Nat) ({ cls := "HallDiary", name := "digest", desc := "()J" } : Jvm.MethodName)) ∈ SW := zq 415 (by decide +kernel) (by decide +kernel)
theorem q416 : (Jvm.Cond.instanceMethod ({ cls := "HallDiary", name := "digest", desc := "()J" } : Jvm.MethodName)) ∈ SW := zq 416 (by decide +kernel) (by decide +kernel)
theorem q417 : (Jvm.Cond.selects "HallDiary" ({ cls := "HallDiary", name := "digest", desc := "()J" } : Jvm.MethodName) ({ cls := "HallDiary", name := "digest", desc := "()J" } : Jvm.MethodName)) ∈ SW := zq 417 (by decide +kernel) (by decide +kernel)
theorem q418 : (Jvm.Cond.code ({ cls := "HallDiary", name := "digest", desc := "()J" } : Jvm.MethodName) prog_1_method_27_code (5 : Nat) (Option.some Jvm.ClassFile.FieldType.long)) ∈ SW := zq 418 (by decide +kernel) (by decide +kernel)
theorem q419 : (Jvm.Cond.constantLong "HallDiary" (275 : Nat) (3709 : Int64)) ∈ SW := zq 419 (by decide +kernel) (by decide +kernel)
theorem q420 : (Jvm.Cond.constantLong "HallDiary" (277 : Nat) (31 : Int64)) ∈ SW := zq 420 (by decide +kernel) (by decide +kernel)
theorem q421 : (Jvm.Cond.methodLink "HallDiary" (279 : Nat) ({ cls := "HallDiary", name := "count", desc := "(I)I" } : Jvm.MethodName)) ∈ SW := zq 421 (by decide +kernel) (by decide +kernel)
theorem q422 : (Jvm.Cond.instanceMethod ({ cls := "HallDiary", name := "count", desc := "(I)I" } : Jvm.MethodName)) ∈ SW := zq 422 (by decide +kernel) (by decide +kernel)
theorem q423 : (Jvm.Cond.selects "HallDiary" ({ cls := "HallDiary", name := "count", desc := "(I)I" } : Jvm.MethodName) ({ cls := "HallDiary", name := "count", desc := "(I)I" } : Jvm.MethodName)) ∈ SW := zq 423 (by decide +kernel) (by decide +kernel)
theorem q424 : (Jvm.Cond.code ({ cls := "HallDiary", name := "count", desc := "(I)I" } : Jvm.MethodName) prog_1_method_20_code (2 : Nat) (Option.some Jvm.ClassFile.FieldType.int)) ∈ SW := zq 424 (by decide +kernel) (by decide +kernel)
theorem q425 : (Jvm.Cond.methodLink "HallDiary" (48 : Nat) ({ cls := "HallDiary", name := "isIn", desc := "(III)Z" } : Jvm.MethodName)) ∈ SW := zq 425 (by decide +kernel) (by decide +kernel)
theorem q426 : (Jvm.Cond.methodLink "HallDiary" (52 : Nat) ({ cls := "HallDiary", name := "need", desc := "(Z)V" } : Jvm.MethodName)) ∈ SW := zq 426 (by decide +kernel) (by decide +kernel)
theorem q427 : (Jvm.Cond.static ({ cls := "HallDiary", name := "need", desc := "(Z)V" } : Jvm.MethodName)) ∈ SW := zq 427 (by decide +kernel) (by decide +kernel)
theorem q428 : (Jvm.Cond.code ({ cls := "HallDiary", name := "need", desc := "(Z)V" } : Jvm.MethodName) prog_1_method_32_code (1 : Nat) (Option.none : Option Jvm.ClassFile.FieldType)) ∈ SW := zq 428 (by decide +kernel) (by decide +kernel)
theorem q429 : (Jvm.Cond.classLink "HallDiary" (329 : Nat) "java/lang/IllegalArgumentException") ∈ SW := zq 429 (by decide +kernel) (by decide +kernel)
theorem q430 : (Jvm.Cond.instantiable "java/lang/IllegalArgumentException" (6 : Nat)) ∈ SW := zq 430 (by decide +kernel) (by decide +kernel)
theorem n431 : (Jvm.Cond.castable "java/lang/IllegalArgumentException" "java/lang/IllegalArgumentException") ∈ lw_tbl := List.mem_of_getElem? (i := 431) (by decide +kernel)
theorem n432 : (Jvm.Cond.declares ({ cls := "java/lang/RuntimeException", name := "<init>", desc := "()V" } : Jvm.MethodName)) ∈ lw_tbl := List.mem_of_getElem? (i := 432) (by decide +kernel)
theorem n433 : (Jvm.Cond.declares ({ cls := "java/lang/RuntimeException", name := "<init>", desc := "(Ljava/lang/String;)V" } : Jvm.MethodName)) ∈ lw_tbl := List.mem_of_getElem? (i := 433) (by decide +kernel)
theorem n434 : (Jvm.Cond.declares ({ cls := "java/lang/Exception", name := "<init>", desc := "()V" } : Jvm.MethodName)) ∈ lw_tbl := List.mem_of_getElem? (i := 434) (by decide +kernel)
theorem n435 : (Jvm.Cond.declares ({ cls := "java/lang/Exception", name := "<init>", desc := "(Ljava/lang/String;)V" } : Jvm.MethodName)) ∈ lw_tbl := List.mem_of_getElem? (i := 435) (by decide +kernel)
theorem n436 : (Jvm.Cond.declares ({ cls := "java/lang/Throwable", name := "<init>", desc := "()V" } : Jvm.MethodName)) ∈ lw_tbl := List.mem_of_getElem? (i := 436) (by decide +kernel)
theorem n437 : (Jvm.Cond.declares ({ cls := "java/lang/Throwable", name := "<init>", desc := "(Ljava/lang/String;)V" } : Jvm.MethodName)) ∈ lw_tbl := List.mem_of_getElem? (i := 437) (by decide +kernel)
theorem q438 : (Jvm.Cond.selects "java/lang/IllegalArgumentException" ({ cls := "java/lang/Throwable", name := "fillInStackTrace", desc := "(I)Ljava/lang/Throwable;" } : Jvm.MethodName) ({ cls := "java/lang/Throwable", name := "fillInStackTrace", desc := "(I)Ljava/lang/Throwable;" } : Jvm.MethodName)) ∈ SW := zq 438 (by decide +kernel) (by decide +kernel)
theorem q439 : (Jvm.Cond.selects "java/lang/IllegalArgumentException" ({ cls := "java/lang/Throwable", name := "fillInStackTrace", desc := "()Ljava/lang/Throwable;" } : Jvm.MethodName) ({ cls := "java/lang/Throwable", name := "fillInStackTrace", desc := "()Ljava/lang/Throwable;" } : Jvm.MethodName)) ∈ SW := zq 439 (by decide +kernel) (by decide +kernel)
theorem q440 : (Jvm.Cond.lays "java/lang/IllegalArgumentException" "java/lang/Throwable" "cause" "Ljava/lang/Throwable;") ∈ SW := zq 440 (by decide +kernel) (by decide +kernel)
theorem q441 : (Jvm.Cond.lays "java/lang/Throwable" "java/lang/Throwable" "cause" "Ljava/lang/Throwable;") ∈ SW := zq 441 (by decide +kernel) (by decide +kernel)
theorem q442 : (Jvm.Cond.lays "java/lang/IllegalArgumentException" "java/lang/Throwable" "stackTrace" "[Ljava/lang/StackTraceElement;") ∈ SW := zq 442 (by decide +kernel) (by decide +kernel)
theorem q443 : (Jvm.Cond.lays "java/lang/Throwable" "java/lang/Throwable" "stackTrace" "[Ljava/lang/StackTraceElement;") ∈ SW := zq 443 (by decide +kernel) (by decide +kernel)
theorem q444 : (Jvm.Cond.lays "java/lang/IllegalArgumentException" "java/lang/Throwable" "suppressedExceptions" "Ljava/util/List;") ∈ SW := zq 444 (by decide +kernel) (by decide +kernel)
theorem q445 : (Jvm.Cond.lays "java/lang/Throwable" "java/lang/Throwable" "suppressedExceptions" "Ljava/util/List;") ∈ SW := zq 445 (by decide +kernel) (by decide +kernel)
theorem q446 : (Jvm.Cond.lays "java/lang/IllegalArgumentException" "java/lang/Throwable" "detailMessage" "Ljava/lang/String;") ∈ SW := zq 446 (by decide +kernel) (by decide +kernel)
theorem q447 : (Jvm.Cond.lays "java/lang/Throwable" "java/lang/Throwable" "detailMessage" "Ljava/lang/String;") ∈ SW := zq 447 (by decide +kernel) (by decide +kernel)
theorem q448 : (Jvm.Cond.lays "java/lang/IllegalArgumentException" "java/lang/Throwable" "backtrace" "Ljava/lang/Object;") ∈ SW := zq 448 (by decide +kernel) (by decide +kernel)
theorem q449 : (Jvm.Cond.lays "java/lang/Throwable" "java/lang/Throwable" "backtrace" "Ljava/lang/Object;") ∈ SW := zq 449 (by decide +kernel) (by decide +kernel)
theorem q450 : (Jvm.Cond.fieldLink "java/lang/Throwable" (198 : Nat) "java/lang/Throwable" "backtrace" "Ljava/lang/Object;") ∈ SW := zq 450 (by decide +kernel) (by decide +kernel)
theorem n451 : (Jvm.Cond.superclass "java/lang/Throwable" "java/lang/Object") ∈ lw_tbl := List.mem_of_getElem? (i := 451) (by decide +kernel)
theorem q452 : (Jvm.Cond.instanceMethod ({ cls := "java/lang/Throwable", name := "<init>", desc := "()V" } : Jvm.MethodName)) ∈ SW := zq 452 (by decide +kernel) (by decide +kernel)
theorem q453 : (Jvm.Cond.code ({ cls := "java/lang/Throwable", name := "<init>", desc := "()V" } : Jvm.MethodName) prog_22_method_1_code (1 : Nat) (Option.none : Option Jvm.ClassFile.FieldType)) ∈ SW := zq 453 (by decide +kernel) (by decide +kernel)
theorem q454 : (Jvm.Cond.methodLink "java/lang/Throwable" (1 : Nat) ({ cls := "java/lang/Object", name := "<init>", desc := "()V" } : Jvm.MethodName)) ∈ SW := zq 454 (by decide +kernel) (by decide +kernel)
theorem q455 : (Jvm.Cond.fieldLink "java/lang/Throwable" (13 : Nat) "java/lang/Throwable" "UNASSIGNED_STACK" "[Ljava/lang/StackTraceElement;") ∈ SW := zq 455 (by decide +kernel) (by decide +kernel)
theorem n456 : (Jvm.Cond.laysStatic "java/lang/Throwable" "UNASSIGNED_STACK" "[Ljava/lang/StackTraceElement;") ∈ lw_tbl := List.mem_of_getElem? (i := 456) (by decide +kernel)
theorem q457 : (Jvm.Cond.fieldLink "java/lang/Throwable" (20 : Nat) "java/lang/Throwable" "SUPPRESSED_SENTINEL" "Ljava/util/List;") ∈ SW := zq 457 (by decide +kernel) (by decide +kernel)
theorem n458 : (Jvm.Cond.laysStatic "java/lang/Throwable" "SUPPRESSED_SENTINEL" "Ljava/util/List;") ∈ lw_tbl := List.mem_of_getElem? (i := 458) (by decide +kernel)
theorem q459 : (Jvm.Cond.methodLink "java/lang/Throwable" (27 : Nat) ({ cls := "java/lang/Throwable", name := "fillInStackTrace", desc := "()Ljava/lang/Throwable;" } : Jvm.MethodName)) ∈ SW := zq 459 (by decide +kernel) (by decide +kernel)
theorem q460 : (Jvm.Cond.instanceMethod ({ cls := "java/lang/Throwable", name := "fillInStackTrace", desc := "()Ljava/lang/Throwable;" } : Jvm.MethodName)) ∈ SW := zq 460 (by decide +kernel) (by decide +kernel)
theorem n461 : (Jvm.Cond.sameMethod "java/lang/Throwable" "java/lang/Throwable" "fillInStackTrace" "()Ljava/lang/Throwable;") ∈ lw_tbl := List.mem_of_getElem? (i := 461) (by decide +kernel)
theorem q462 : (Jvm.Cond.selects "java/lang/IllegalStateException" ({ cls := "java/lang/Throwable", name := "fillInStackTrace", desc := "()Ljava/lang/Throwable;" } : Jvm.MethodName) ({ cls := "java/lang/Throwable", name := "fillInStackTrace", desc := "()Ljava/lang/Throwable;" } : Jvm.MethodName)) ∈ SW := zq 462 (by decide +kernel) (by decide +kernel)
theorem q463 : (Jvm.Cond.selects "java/lang/IndexOutOfBoundsException" ({ cls := "java/lang/Throwable", name := "fillInStackTrace", desc := "()Ljava/lang/Throwable;" } : Jvm.MethodName) ({ cls := "java/lang/Throwable", name := "fillInStackTrace", desc := "()Ljava/lang/Throwable;" } : Jvm.MethodName)) ∈ SW := zq 463 (by decide +kernel) (by decide +kernel)
theorem n464 : (Jvm.Cond.codeSync ({ cls := "java/lang/Throwable", name := "fillInStackTrace", desc := "()Ljava/lang/Throwable;" } : Jvm.MethodName) prog_22_method_18_code (1 : Nat) (Option.some (Jvm.ClassFile.FieldType.object "java/lang/Throwable"))) ∈ lw_tbl := List.mem_of_getElem? (i := 464) (by decide +kernel)
theorem q465 : (Jvm.Cond.methodLink "java/lang/Throwable" (202 : Nat) ({ cls := "java/lang/Throwable", name := "fillInStackTrace", desc := "(I)Ljava/lang/Throwable;" } : Jvm.MethodName)) ∈ SW := zq 465 (by decide +kernel) (by decide +kernel)
theorem n466 : (Jvm.Cond.privateMethod ({ cls := "java/lang/Throwable", name := "fillInStackTrace", desc := "(I)Ljava/lang/Throwable;" } : Jvm.MethodName)) ∈ lw_tbl := List.mem_of_getElem? (i := 466) (by decide +kernel)
theorem q467 : (Jvm.Cond.instanceMethod ({ cls := "java/lang/Throwable", name := "fillInStackTrace", desc := "(I)Ljava/lang/Throwable;" } : Jvm.MethodName)) ∈ SW := zq 467 (by decide +kernel) (by decide +kernel)
theorem q468 : (Jvm.Cond.instantiable "java/lang/Throwable" (6 : Nat)) ∈ SW := zq 468 (by decide +kernel) (by decide +kernel)
theorem q469 : (Jvm.Cond.native ({ cls := "java/lang/Throwable", name := "fillInStackTrace", desc := "(I)Ljava/lang/Throwable;" } : Jvm.MethodName)) ∈ SW := zq 469 (by decide +kernel) (by decide +kernel)
theorem n470 : (Jvm.Cond.stringRef "HallDiary" (331 : Nat) "an argument or the text is not as it must be") ∈ lw_tbl := List.mem_of_getElem? (i := 470) (by decide +kernel)
theorem q471 : (Jvm.Cond.methodLink "HallDiary" (333 : Nat) ({ cls := "java/lang/IllegalArgumentException", name := "<init>", desc := "(Ljava/lang/String;)V" } : Jvm.MethodName)) ∈ SW := zq 471 (by decide +kernel) (by decide +kernel)
theorem q472 : (Jvm.Cond.instanceMethod ({ cls := "java/lang/IllegalArgumentException", name := "<init>", desc := "(Ljava/lang/String;)V" } : Jvm.MethodName)) ∈ SW := zq 472 (by decide +kernel) (by decide +kernel)
theorem q473 : (Jvm.Cond.code ({ cls := "java/lang/IllegalArgumentException", name := "<init>", desc := "(Ljava/lang/String;)V" } : Jvm.MethodName) prog_12_method_2_code (2 : Nat) (Option.none : Option Jvm.ClassFile.FieldType)) ∈ SW := zq 473 (by decide +kernel) (by decide +kernel)
theorem q474 : (Jvm.Cond.methodLink "java/lang/IllegalArgumentException" (7 : Nat) ({ cls := "java/lang/RuntimeException", name := "<init>", desc := "(Ljava/lang/String;)V" } : Jvm.MethodName)) ∈ SW := zq 474 (by decide +kernel) (by decide +kernel)
theorem q475 : (Jvm.Cond.instanceMethod ({ cls := "java/lang/RuntimeException", name := "<init>", desc := "(Ljava/lang/String;)V" } : Jvm.MethodName)) ∈ SW := zq 475 (by decide +kernel) (by decide +kernel)
theorem q476 : (Jvm.Cond.code ({ cls := "java/lang/RuntimeException", name := "<init>", desc := "(Ljava/lang/String;)V" } : Jvm.MethodName) prog_17_method_2_code (2 : Nat) (Option.none : Option Jvm.ClassFile.FieldType)) ∈ SW := zq 476 (by decide +kernel) (by decide +kernel)
theorem q477 : (Jvm.Cond.methodLink "java/lang/RuntimeException" (7 : Nat) ({ cls := "java/lang/Exception", name := "<init>", desc := "(Ljava/lang/String;)V" } : Jvm.MethodName)) ∈ SW := zq 477 (by decide +kernel) (by decide +kernel)
theorem q478 : (Jvm.Cond.instanceMethod ({ cls := "java/lang/Exception", name := "<init>", desc := "(Ljava/lang/String;)V" } : Jvm.MethodName)) ∈ SW := zq 478 (by decide +kernel) (by decide +kernel)
theorem q479 : (Jvm.Cond.code ({ cls := "java/lang/Exception", name := "<init>", desc := "(Ljava/lang/String;)V" } : Jvm.MethodName) prog_10_method_2_code (2 : Nat) (Option.none : Option Jvm.ClassFile.FieldType)) ∈ SW := zq 479 (by decide +kernel) (by decide +kernel)
theorem q480 : (Jvm.Cond.methodLink "java/lang/Exception" (7 : Nat) ({ cls := "java/lang/Throwable", name := "<init>", desc := "(Ljava/lang/String;)V" } : Jvm.MethodName)) ∈ SW := zq 480 (by decide +kernel) (by decide +kernel)
theorem q481 : (Jvm.Cond.instanceMethod ({ cls := "java/lang/Throwable", name := "<init>", desc := "(Ljava/lang/String;)V" } : Jvm.MethodName)) ∈ SW := zq 481 (by decide +kernel) (by decide +kernel)
theorem q482 : (Jvm.Cond.code ({ cls := "java/lang/Throwable", name := "<init>", desc := "(Ljava/lang/String;)V" } : Jvm.MethodName) prog_22_method_2_code (2 : Nat) (Option.none : Option Jvm.ClassFile.FieldType)) ∈ SW := zq 482 (by decide +kernel) (by decide +kernel)
theorem q483 : (Jvm.Cond.fieldLink "java/lang/Throwable" (198 : Nat) "java/lang/Throwable" "backtrace" "Ljava/lang/Object;") ∈ SW := zq 483 (by decide +kernel) (by decide +kernel)
theorem q484 : (Jvm.Cond.fieldLink "java/lang/Throwable" (31 : Nat) "java/lang/Throwable" "detailMessage" "Ljava/lang/String;") ∈ SW := zq 484 (by decide +kernel) (by decide +kernel)
theorem q485 : (Jvm.Cond.fieldLink "java/lang/Throwable" (7 : Nat) "java/lang/Throwable" "cause" "Ljava/lang/Throwable;") ∈ SW := zq 485 (by decide +kernel) (by decide +kernel)
theorem q486 : (Jvm.Cond.fieldLink "java/lang/Throwable" (17 : Nat) "java/lang/Throwable" "stackTrace" "[Ljava/lang/StackTraceElement;") ∈ SW := zq 486 (by decide +kernel) (by decide +kernel)
theorem q487 : (Jvm.Cond.fieldLink "java/lang/Throwable" (24 : Nat) "java/lang/Throwable" "suppressedExceptions" "Ljava/util/List;") ∈ SW := zq 487 (by decide +kernel) (by decide +kernel)
theorem n488 : (Jvm.Cond.soleField "java/lang/Throwable" "backtrace") ∈ lw_tbl := List.mem_of_getElem? (i := 488) (by decide +kernel)
theorem n489 : (Jvm.Cond.soleField "java/lang/Throwable" "detailMessage") ∈ lw_tbl := List.mem_of_getElem? (i := 489) (by decide +kernel)
theorem n490 : (Jvm.Cond.soleField "java/lang/Throwable" "cause") ∈ lw_tbl := List.mem_of_getElem? (i := 490) (by decide +kernel)
theorem n491 : (Jvm.Cond.soleField "java/lang/Throwable" "stackTrace") ∈ lw_tbl := List.mem_of_getElem? (i := 491) (by decide +kernel)
theorem q492 : (Jvm.Cond.lays "java/lang/IllegalArgumentException" "java/lang/Throwable" "depth" "I") ∈ SW := zq 492 (by decide +kernel) (by decide +kernel)
theorem n493 : (Jvm.Cond.soleField "java/lang/Throwable" "depth") ∈ lw_tbl := List.mem_of_getElem? (i := 493) (by decide +kernel)
theorem n494 : (Jvm.Cond.soleField "java/lang/Throwable" "suppressedExceptions") ∈ lw_tbl := List.mem_of_getElem? (i := 494) (by decide +kernel)
theorem n495 : (Jvm.Cond.superclass "java/lang/IllegalArgumentException" "java/lang/RuntimeException") ∈ lw_tbl := List.mem_of_getElem? (i := 495) (by decide +kernel)
theorem q496 : (Jvm.Cond.methodLink "HallDiary" (282 : Nat) ({ cls := "HallDiary", name := "digestLets", desc := "(J)J" } : Jvm.MethodName)) ∈ SW := zq 496 (by decide +kernel) (by decide +kernel)
theorem n497 : (Jvm.Cond.privateMethod ({ cls := "HallDiary", name := "digestLets", desc := "(J)J" } : Jvm.MethodName)) ∈ lw_tbl := List.mem_of_getElem? (i := 497) (by decide +kernel)
theorem q498 : (Jvm.Cond.instanceMethod ({ cls := "HallDiary", name := "digestLets", desc := "(J)J" } : Jvm.MethodName)) ∈ SW := zq 498 (by decide +kernel) (by decide +kernel)
theorem q499 : (Jvm.Cond.code ({ cls := "HallDiary", name := "digestLets", desc := "(J)J" } : Jvm.MethodName) prog_1_method_28_code (7 : Nat) (Option.some Jvm.ClassFile.FieldType.long)) ∈ SW := zq 499 (by decide +kernel) (by decide +kernel)
theorem q500 : (Jvm.Cond.methodLink "HallDiary" (304 : Nat) ({ cls := "HallDiary", name := "regularOf", desc := "(II)I" } : Jvm.MethodName)) ∈ SW := zq 500 (by decide +kernel) (by decide +kernel)
theorem q501 : (Jvm.Cond.instanceMethod ({ cls := "HallDiary", name := "regularOf", desc := "(II)I" } : Jvm.MethodName)) ∈ SW := zq 501 (by decide +kernel) (by decide +kernel)
theorem q502 : (Jvm.Cond.selects "HallDiary" ({ cls := "HallDiary", name := "regularOf", desc := "(II)I" } : Jvm.MethodName) ({ cls := "HallDiary", name := "regularOf", desc := "(II)I" } : Jvm.MethodName)) ∈ SW := zq 502 (by decide +kernel) (by decide +kernel)
theorem q503 : (Jvm.Cond.code ({ cls := "HallDiary", name := "regularOf", desc := "(II)I" } : Jvm.MethodName) prog_1_method_15_code (4 : Nat) (Option.some Jvm.ClassFile.FieldType.int)) ∈ SW := zq 503 (by decide +kernel) (by decide +kernel)
theorem q504 : (Jvm.Cond.methodLink "HallDiary" (115 : Nat) ({ cls := "HallDiary", name := "needLet", desc := "(LHallDiary$Roll;I)V" } : Jvm.MethodName)) ∈ SW := zq 504 (by decide +kernel) (by decide +kernel)
theorem q505 : (Jvm.Cond.static ({ cls := "HallDiary", name := "needLet", desc := "(LHallDiary$Roll;I)V" } : Jvm.MethodName)) ∈ SW := zq 505 (by decide +kernel) (by decide +kernel)
theorem q506 : (Jvm.Cond.code ({ cls := "HallDiary", name := "needLet", desc := "(LHallDiary$Roll;I)V" } : Jvm.MethodName) prog_1_method_34_code (2 : Nat) (Option.none : Option Jvm.ClassFile.FieldType)) ∈ SW := zq 506 (by decide +kernel) (by decide +kernel)
theorem q507 : (Jvm.Cond.classLink "HallDiary" (148 : Nat) "java/lang/IndexOutOfBoundsException") ∈ SW := zq 507 (by decide +kernel) (by decide +kernel)
theorem q508 : (Jvm.Cond.instantiable "java/lang/IndexOutOfBoundsException" (6 : Nat)) ∈ SW := zq 508 (by decide +kernel) (by decide +kernel)
theorem n509 : (Jvm.Cond.castable "java/lang/IndexOutOfBoundsException" "java/lang/IndexOutOfBoundsException") ∈ lw_tbl := List.mem_of_getElem? (i := 509) (by decide +kernel)
theorem q510 : (Jvm.Cond.selects "java/lang/IndexOutOfBoundsException" ({ cls := "java/lang/Throwable", name := "fillInStackTrace", desc := "(I)Ljava/lang/Throwable;" } : Jvm.MethodName) ({ cls := "java/lang/Throwable", name := "fillInStackTrace", desc := "(I)Ljava/lang/Throwable;" } : Jvm.MethodName)) ∈ SW := zq 510 (by decide +kernel) (by decide +kernel)
theorem q511 : (Jvm.Cond.lays "java/lang/IndexOutOfBoundsException" "java/lang/Throwable" "cause" "Ljava/lang/Throwable;") ∈ SW := zq 511 (by decide +kernel) (by decide +kernel)
theorem q512 : (Jvm.Cond.lays "java/lang/IndexOutOfBoundsException" "java/lang/Throwable" "stackTrace" "[Ljava/lang/StackTraceElement;") ∈ SW := zq 512 (by decide +kernel) (by decide +kernel)
theorem q513 : (Jvm.Cond.lays "java/lang/IndexOutOfBoundsException" "java/lang/Throwable" "suppressedExceptions" "Ljava/util/List;") ∈ SW := zq 513 (by decide +kernel) (by decide +kernel)
theorem q514 : (Jvm.Cond.lays "java/lang/IndexOutOfBoundsException" "java/lang/Throwable" "detailMessage" "Ljava/lang/String;") ∈ SW := zq 514 (by decide +kernel) (by decide +kernel)
theorem q515 : (Jvm.Cond.lays "java/lang/IndexOutOfBoundsException" "java/lang/Throwable" "backtrace" "Ljava/lang/Object;") ∈ SW := zq 515 (by decide +kernel) (by decide +kernel)
theorem n516 : (Jvm.Cond.stringRef "HallDiary" (336 : Nat) "no such let") ∈ lw_tbl := List.mem_of_getElem? (i := 516) (by decide +kernel)
theorem q517 : (Jvm.Cond.methodLink "HallDiary" (152 : Nat) ({ cls := "java/lang/IndexOutOfBoundsException", name := "<init>", desc := "(Ljava/lang/String;)V" } : Jvm.MethodName)) ∈ SW := zq 517 (by decide +kernel) (by decide +kernel)
theorem q518 : (Jvm.Cond.instanceMethod ({ cls := "java/lang/IndexOutOfBoundsException", name := "<init>", desc := "(Ljava/lang/String;)V" } : Jvm.MethodName)) ∈ SW := zq 518 (by decide +kernel) (by decide +kernel)
theorem q519 : (Jvm.Cond.code ({ cls := "java/lang/IndexOutOfBoundsException", name := "<init>", desc := "(Ljava/lang/String;)V" } : Jvm.MethodName) prog_14_method_2_code (2 : Nat) (Option.none : Option Jvm.ClassFile.FieldType)) ∈ SW := zq 519 (by decide +kernel) (by decide +kernel)
theorem q520 : (Jvm.Cond.methodLink "java/lang/IndexOutOfBoundsException" (7 : Nat) ({ cls := "java/lang/RuntimeException", name := "<init>", desc := "(Ljava/lang/String;)V" } : Jvm.MethodName)) ∈ SW := zq 520 (by decide +kernel) (by decide +kernel)
theorem q521 : (Jvm.Cond.lays "java/lang/IndexOutOfBoundsException" "java/lang/Throwable" "depth" "I") ∈ SW := zq 521 (by decide +kernel) (by decide +kernel)
theorem n522 : (Jvm.Cond.superclass "java/lang/IndexOutOfBoundsException" "java/lang/RuntimeException") ∈ lw_tbl := List.mem_of_getElem? (i := 522) (by decide +kernel)
theorem q523 : (Jvm.Cond.methodLink "HallDiary" (93 : Nat) ({ cls := "HallDiary$Let", name := "daysStanding", desc := "()I" } : Jvm.MethodName)) ∈ SW := zq 523 (by decide +kernel) (by decide +kernel)
theorem q524 : (Jvm.Cond.methodLink "HallDiary" (226 : Nat) ({ cls := "HallDiary$Let", name := "firstDay", desc := "()I" } : Jvm.MethodName)) ∈ SW := zq 524 (by decide +kernel) (by decide +kernel)
theorem q525 : (Jvm.Cond.instanceMethod ({ cls := "HallDiary$Let", name := "firstDay", desc := "()I" } : Jvm.MethodName)) ∈ SW := zq 525 (by decide +kernel) (by decide +kernel)
theorem q526 : (Jvm.Cond.selects "HallDiary$Let" ({ cls := "HallDiary$Let", name := "firstDay", desc := "()I" } : Jvm.MethodName) ({ cls := "HallDiary$Let", name := "firstDay", desc := "()I" } : Jvm.MethodName)) ∈ SW := zq 526 (by decide +kernel) (by decide +kernel)
theorem q527 : (Jvm.Cond.code ({ cls := "HallDiary$Let", name := "firstDay", desc := "()I" } : Jvm.MethodName) prog_3_method_9_code (2 : Nat) (Option.some Jvm.ClassFile.FieldType.int)) ∈ SW := zq 527 (by decide +kernel) (by decide +kernel)
theorem q528 : (Jvm.Cond.methodLink "HallDiary" (229 : Nat) ({ cls := "HallDiary", name := "commonNumber", desc := "(LHallDiary$Let;I)I" } : Jvm.MethodName)) ∈ SW := zq 528 (by decide +kernel) (by decide +kernel)
theorem q529 : (Jvm.Cond.static ({ cls := "HallDiary", name := "commonNumber", desc := "(LHallDiary$Let;I)I" } : Jvm.MethodName)) ∈ SW := zq 529 (by decide +kernel) (by decide +kernel)
theorem q530 : (Jvm.Cond.code ({ cls := "HallDiary", name := "commonNumber", desc := "(LHallDiary$Let;I)I" } : Jvm.MethodName) prog_1_method_47_code (2 : Nat) (Option.some Jvm.ClassFile.FieldType.int)) ∈ SW := zq 530 (by decide +kernel) (by decide +kernel)
theorem q531 : (Jvm.Cond.methodLink "HallDiary" (307 : Nat) ({ cls := "HallDiary", name := "singleOf", desc := "(II)I" } : Jvm.MethodName)) ∈ SW := zq 531 (by decide +kernel) (by decide +kernel)
theorem q532 : (Jvm.Cond.instanceMethod ({ cls := "HallDiary", name := "singleOf", desc := "(II)I" } : Jvm.MethodName)) ∈ SW := zq 532 (by decide +kernel) (by decide +kernel)
theorem q533 : (Jvm.Cond.selects "HallDiary" ({ cls := "HallDiary", name := "singleOf", desc := "(II)I" } : Jvm.MethodName) ({ cls := "HallDiary", name := "singleOf", desc := "(II)I" } : Jvm.MethodName)) ∈ SW := zq 533 (by decide +kernel) (by decide +kernel)
theorem q534 : (Jvm.Cond.code ({ cls := "HallDiary", name := "singleOf", desc := "(II)I" } : Jvm.MethodName) prog_1_method_16_code (4 : Nat) (Option.some Jvm.ClassFile.FieldType.int)) ∈ SW := zq 534 (by decide +kernel) (by decide +kernel)
theorem q535 : (Jvm.Cond.methodLink "HallDiary" (286 : Nat) ({ cls := "HallDiary", name := "tenant", desc := "(II)I" } : Jvm.MethodName)) ∈ SW := zq 535 (by decide +kernel) (by decide +kernel)
theorem q536 : (Jvm.Cond.instanceMethod ({ cls := "HallDiary", name := "tenant", desc := "(II)I" } : Jvm.MethodName)) ∈ SW := zq 536 (by decide +kernel) (by decide +kernel)
theorem q537 : (Jvm.Cond.selects "HallDiary" ({ cls := "HallDiary", name := "tenant", desc := "(II)I" } : Jvm.MethodName) ({ cls := "HallDiary", name := "tenant", desc := "(II)I" } : Jvm.MethodName)) ∈ SW := zq 537 (by decide +kernel) (by decide +kernel)
theorem q538 : (Jvm.Cond.code ({ cls := "HallDiary", name := "tenant", desc := "(II)I" } : Jvm.MethodName) prog_1_method_19_code (3 : Nat) (Option.some Jvm.ClassFile.FieldType.int)) ∈ SW := zq 538 (by decide +kernel) (by decide +kernel)
theorem n539 : (Jvm.Cond.stringRef "HallDiary" (247 : Nat) "no such tenant") ∈ lw_tbl := List.mem_of_getElem? (i := 539) (by decide +kernel)
theorem q540 : (Jvm.Cond.methodLink "HallDiary" (289 : Nat) ({ cls := "HallDiary", name := "digestHall", desc := "(JI)J" } : Jvm.MethodName)) ∈ SW := zq 540 (by decide +kernel) (by decide +kernel)
theorem n541 : (Jvm.Cond.privateMethod ({ cls := "HallDiary", name := "digestHall", desc := "(JI)J" } : Jvm.MethodName)) ∈ lw_tbl := List.mem_of_getElem? (i := 541) (by decide +kernel)
theorem q542 : (Jvm.Cond.instanceMethod ({ cls := "HallDiary", name := "digestHall", desc := "(JI)J" } : Jvm.MethodName)) ∈ SW := zq 542 (by decide +kernel) (by decide +kernel)
theorem q543 : (Jvm.Cond.code ({ cls := "HallDiary", name := "digestHall", desc := "(JI)J" } : Jvm.MethodName) prog_1_method_29_code (8 : Nat) (Option.some Jvm.ClassFile.FieldType.long)) ∈ SW := zq 543 (by decide +kernel) (by decide +kernel)
theorem q544 : (Jvm.Cond.methodLink "HallDiary" (310 : Nat) ({ cls := "HallDiary", name := "hallOf", desc := "(III)I" } : Jvm.MethodName)) ∈ SW := zq 544 (by decide +kernel) (by decide +kernel)
theorem q545 : (Jvm.Cond.instanceMethod ({ cls := "HallDiary", name := "hallOf", desc := "(III)I" } : Jvm.MethodName)) ∈ SW := zq 545 (by decide +kernel) (by decide +kernel)
theorem q546 : (Jvm.Cond.selects "HallDiary" ({ cls := "HallDiary", name := "hallOf", desc := "(III)I" } : Jvm.MethodName) ({ cls := "HallDiary", name := "hallOf", desc := "(III)I" } : Jvm.MethodName)) ∈ SW := zq 546 (by decide +kernel) (by decide +kernel)
theorem q547 : (Jvm.Cond.code ({ cls := "HallDiary", name := "hallOf", desc := "(III)I" } : Jvm.MethodName) prog_1_method_18_code (4 : Nat) (Option.some Jvm.ClassFile.FieldType.int)) ∈ SW := zq 547 (by decide +kernel) (by decide +kernel)
theorem q548 : (Jvm.Cond.methodLink "HallDiary" (44 : Nat) ({ cls := "HallDiary", name := "needHall", desc := "(I)V" } : Jvm.MethodName)) ∈ SW := zq 548 (by decide +kernel) (by decide +kernel)
theorem q549 : (Jvm.Cond.static ({ cls := "HallDiary", name := "needHall", desc := "(I)V" } : Jvm.MethodName)) ∈ SW := zq 549 (by decide +kernel) (by decide +kernel)
theorem q550 : (Jvm.Cond.code ({ cls := "HallDiary", name := "needHall", desc := "(I)V" } : Jvm.MethodName) prog_1_method_33_code (1 : Nat) (Option.none : Option Jvm.ClassFile.FieldType)) ∈ SW := zq 550 (by decide +kernel) (by decide +kernel)
theorem n551 : (Jvm.Cond.stringRef "HallDiary" (334 : Nat) "no such hall") ∈ lw_tbl := List.mem_of_getElem? (i := 551) (by decide +kernel)
theorem q552 : (Jvm.Cond.methodLink "HallDiary" (97 : Nat) ({ cls := "HallDiary", name := "needDay", desc := "(I)V" } : Jvm.MethodName)) ∈ SW := zq 552 (by decide +kernel) (by decide +kernel)
theorem q553 : (Jvm.Cond.static ({ cls := "HallDiary", name := "needDay", desc := "(I)V" } : Jvm.MethodName)) ∈ SW := zq 553 (by decide +kernel) (by decide +kernel)
theorem q554 : (Jvm.Cond.code ({ cls := "HallDiary", name := "needDay", desc := "(I)V" } : Jvm.MethodName) prog_1_method_35_code (1 : Nat) (Option.none : Option Jvm.ClassFile.FieldType)) ∈ SW := zq 554 (by decide +kernel) (by decide +kernel)
theorem q555 : (Jvm.Cond.methodLink "HallDiary" (233 : Nat) ({ cls := "HallDiary$DayPlan", name := "open", desc := "(LHallDiary$State;I)V" } : Jvm.MethodName)) ∈ SW := zq 555 (by decide +kernel) (by decide +kernel)
theorem q556 : (Jvm.Cond.instanceMethod ({ cls := "HallDiary$DayPlan", name := "open", desc := "(LHallDiary$State;I)V" } : Jvm.MethodName)) ∈ SW := zq 556 (by decide +kernel) (by decide +kernel)
theorem q557 : (Jvm.Cond.selects "HallDiary$DayPlan" ({ cls := "HallDiary$DayPlan", name := "open", desc := "(LHallDiary$State;I)V" } : Jvm.MethodName) ({ cls := "HallDiary$DayPlan", name := "open", desc := "(LHallDiary$State;I)V" } : Jvm.MethodName)) ∈ SW := zq 557 (by decide +kernel) (by decide +kernel)
theorem q558 : (Jvm.Cond.code ({ cls := "HallDiary$DayPlan", name := "open", desc := "(LHallDiary$State;I)V" } : Jvm.MethodName) prog_2_method_2_code (3 : Nat) (Option.none : Option Jvm.ClassFile.FieldType)) ∈ SW := zq 558 (by decide +kernel) (by decide +kernel)
theorem q559 : (Jvm.Cond.methodLink "HallDiary$DayPlan" (31 : Nat) ({ cls := "HallDiary$DayPlan", name := "enterAll", desc := "(LHallDiary$Roll;I)V" } : Jvm.MethodName)) ∈ SW := zq 559 (by decide +kernel) (by decide +kernel)
theorem n560 : (Jvm.Cond.privateMethod ({ cls := "HallDiary$DayPlan", name := "enterAll", desc := "(LHallDiary$Roll;I)V" } : Jvm.MethodName)) ∈ lw_tbl := List.mem_of_getElem? (i := 560) (by decide +kernel)
theorem q561 : (Jvm.Cond.instanceMethod ({ cls := "HallDiary$DayPlan", name := "enterAll", desc := "(LHallDiary$Roll;I)V" } : Jvm.MethodName)) ∈ SW := zq 561 (by decide +kernel) (by decide +kernel)
theorem q562 : (Jvm.Cond.code ({ cls := "HallDiary$DayPlan", name := "enterAll", desc := "(LHallDiary$Roll;I)V" } : Jvm.MethodName) prog_2_method_3_code (6 : Nat) (Option.none : Option Jvm.ClassFile.FieldType)) ∈ SW := zq 562 (by decide +kernel) (by decide +kernel)
theorem q563 : (Jvm.Cond.methodLink "HallDiary$DayPlan" (44 : Nat) ({ cls := "HallDiary$Let", name := "standsOn", desc := "(I)Z" } : Jvm.MethodName)) ∈ SW := zq 563 (by decide +kernel) (by decide +kernel)
theorem q564 : (Jvm.Cond.instanceMethod ({ cls := "HallDiary$Let", name := "standsOn", desc := "(I)Z" } : Jvm.MethodName)) ∈ SW := zq 564 (by decide +kernel) (by decide +kernel)
theorem q565 : (Jvm.Cond.selects "HallDiary$Let" ({ cls := "HallDiary$Let", name := "standsOn", desc := "(I)Z" } : Jvm.MethodName) ({ cls := "HallDiary$Let", name := "standsOn", desc := "(I)Z" } : Jvm.MethodName)) ∈ SW := zq 565 (by decide +kernel) (by decide +kernel)
theorem q566 : (Jvm.Cond.code ({ cls := "HallDiary$Let", name := "standsOn", desc := "(I)Z" } : Jvm.MethodName) prog_3_method_4_code (2 : Nat) (Option.some Jvm.ClassFile.FieldType.boolean)) ∈ SW := zq 566 (by decide +kernel) (by decide +kernel)
theorem q567 : (Jvm.Cond.methodLink "HallDiary$DayPlan" (48 : Nat) ({ cls := "HallDiary$Let", name := "isCleanedBefore", desc := "(LHallDiary$Let;)Z" } : Jvm.MethodName)) ∈ SW := zq 567 (by decide +kernel) (by decide +kernel)
theorem q568 : (Jvm.Cond.instanceMethod ({ cls := "HallDiary$Let", name := "isCleanedBefore", desc := "(LHallDiary$Let;)Z" } : Jvm.MethodName)) ∈ SW := zq 568 (by decide +kernel) (by decide +kernel)
theorem q569 : (Jvm.Cond.selects "HallDiary$Let" ({ cls := "HallDiary$Let", name := "isCleanedBefore", desc := "(LHallDiary$Let;)Z" } : Jvm.MethodName) ({ cls := "HallDiary$Let", name := "isCleanedBefore", desc := "(LHallDiary$Let;)Z" } : Jvm.MethodName)) ∈ SW := zq 569 (by decide +kernel) (by decide +kernel)
theorem q570 : (Jvm.Cond.code ({ cls := "HallDiary$Let", name := "isCleanedBefore", desc := "(LHallDiary$Let;)Z" } : Jvm.MethodName) prog_3_method_11_code (2 : Nat) (Option.some Jvm.ClassFile.FieldType.boolean)) ∈ SW := zq 570 (by decide +kernel) (by decide +kernel)
theorem q571 : (Jvm.Cond.methodLink "HallDiary" (241 : Nat) ({ cls := "HallDiary$DayPlan", name := "sumIn", desc := "(II)I" } : Jvm.MethodName)) ∈ SW := zq 571 (by decide +kernel) (by decide +kernel)
theorem q572 : (Jvm.Cond.instanceMethod ({ cls := "HallDiary$DayPlan", name := "sumIn", desc := "(II)I" } : Jvm.MethodName)) ∈ SW := zq 572 (by decide +kernel) (by decide +kernel)
theorem q573 : (Jvm.Cond.selects "HallDiary$DayPlan" ({ cls := "HallDiary$DayPlan", name := "sumIn", desc := "(II)I" } : Jvm.MethodName) ({ cls := "HallDiary$DayPlan", name := "sumIn", desc := "(II)I" } : Jvm.MethodName)) ∈ SW := zq 573 (by decide +kernel) (by decide +kernel)
theorem q574 : (Jvm.Cond.code ({ cls := "HallDiary$DayPlan", name := "sumIn", desc := "(II)I" } : Jvm.MethodName) prog_2_method_10_code (5 : Nat) (Option.some Jvm.ClassFile.FieldType.int)) ∈ SW := zq 574 (by decide +kernel) (by decide +kernel)
theorem q575 : (Jvm.Cond.methodLink "HallDiary$DayPlan" (87 : Nat) ({ cls := "HallDiary$Let", name := "shareOfDay", desc := "(I)I" } : Jvm.MethodName)) ∈ SW := zq 575 (by decide +kernel) (by decide +kernel)
theorem q576 : (Jvm.Cond.methodLink "HallDiary" (244 : Nat) ({ cls := "HallDiary$DayPlan", name := "hoursWithoutTenant", desc := "(I)I" } : Jvm.MethodName)) ∈ SW := zq 576 (by decide +kernel) (by decide +kernel)
theorem q577 : (Jvm.Cond.instanceMethod ({ cls := "HallDiary$DayPlan", name := "hoursWithoutTenant", desc := "(I)I" } : Jvm.MethodName)) ∈ SW := zq 577 (by decide +kernel) (by decide +kernel)
theorem q578 : (Jvm.Cond.selects "HallDiary$DayPlan" ({ cls := "HallDiary$DayPlan", name := "hoursWithoutTenant", desc := "(I)I" } : Jvm.MethodName) ({ cls := "HallDiary$DayPlan", name := "hoursWithoutTenant", desc := "(I)I" } : Jvm.MethodName)) ∈ SW := zq 578 (by decide +kernel) (by decide +kernel)
theorem q579 : (Jvm.Cond.code ({ cls := "HallDiary$DayPlan", name := "hoursWithoutTenant", desc := "(I)I" } : Jvm.MethodName) prog_2_method_11_code (4 : Nat) (Option.some Jvm.ClassFile.FieldType.int)) ∈ SW := zq 579 (by decide +kernel) (by decide +kernel)
theorem q580 : (Jvm.Cond.methodLink "HallDiary$DayPlan" (91 : Nat) ({ cls := "HallDiary$DayPlan", name := "tenantAt", desc := "(II)I" } : Jvm.MethodName)) ∈ SW := zq 580 (by decide +kernel) (by decide +kernel)
theorem q581 : (Jvm.Cond.instanceMethod ({ cls := "HallDiary$DayPlan", name := "tenantAt", desc := "(II)I" } : Jvm.MethodName)) ∈ SW := zq 581 (by decide +kernel) (by decide +kernel)
theorem q582 : (Jvm.Cond.selects "HallDiary$DayPlan" ({ cls := "HallDiary$DayPlan", name := "tenantAt", desc := "(II)I" } : Jvm.MethodName) ({ cls := "HallDiary$DayPlan", name := "tenantAt", desc := "(II)I" } : Jvm.MethodName)) ∈ SW := zq 582 (by decide +kernel) (by decide +kernel)
theorem q583 : (Jvm.Cond.code ({ cls := "HallDiary$DayPlan", name := "tenantAt", desc := "(II)I" } : Jvm.MethodName) prog_2_method_9_code (5 : Nat) (Option.some Jvm.ClassFile.FieldType.int)) ∈ SW := zq 583 (by decide +kernel) (by decide +kernel)
theorem n584 : (Jvm.Cond.methodLinkNest "HallDiary$DayPlan" (80 : Nat) ({ cls := "HallDiary", name := "isIn", desc := "(III)Z" } : Jvm.MethodName) "HallDiary") ∈ lw_tbl := List.mem_of_getElem? (i := 584) (by decide +kernel)
theorem q585 : (Jvm.Cond.methodLink "HallDiary" (313 : Nat) ({ cls := "HallDiary", name := "nextFree", desc := "(III)I" } : Jvm.MethodName)) ∈ SW := zq 585 (by decide +kernel) (by decide +kernel)
theorem q586 : (Jvm.Cond.instanceMethod ({ cls := "HallDiary", name := "nextFree", desc := "(III)I" } : Jvm.MethodName)) ∈ SW := zq 586 (by decide +kernel) (by decide +kernel)
theorem q587 : (Jvm.Cond.selects "HallDiary" ({ cls := "HallDiary", name := "nextFree", desc := "(III)I" } : Jvm.MethodName) ({ cls := "HallDiary", name := "nextFree", desc := "(III)I" } : Jvm.MethodName)) ∈ SW := zq 587 (by decide +kernel) (by decide +kernel)
theorem q588 : (Jvm.Cond.code ({ cls := "HallDiary", name := "nextFree", desc := "(III)I" } : Jvm.MethodName) prog_1_method_23_code (6 : Nat) (Option.some Jvm.ClassFile.FieldType.int)) ∈ SW := zq 588 (by decide +kernel) (by decide +kernel)
theorem q589 : (Jvm.Cond.methodLink "HallDiary" (64 : Nat) ({ cls := "HallDiary$Roll", name := "isFull", desc := "()Z" } : Jvm.MethodName)) ∈ SW := zq 589 (by decide +kernel) (by decide +kernel)
theorem q590 : (Jvm.Cond.instanceMethod ({ cls := "HallDiary$Roll", name := "isFull", desc := "()Z" } : Jvm.MethodName)) ∈ SW := zq 590 (by decide +kernel) (by decide +kernel)
theorem q591 : (Jvm.Cond.selects "HallDiary$Roll" ({ cls := "HallDiary$Roll", name := "isFull", desc := "()Z" } : Jvm.MethodName) ({ cls := "HallDiary$Roll", name := "isFull", desc := "()Z" } : Jvm.MethodName)) ∈ SW := zq 591 (by decide +kernel) (by decide +kernel)
theorem q592 : (Jvm.Cond.code ({ cls := "HallDiary$Roll", name := "isFull", desc := "()Z" } : Jvm.MethodName) prog_5_method_2_code (1 : Nat) (Option.some Jvm.ClassFile.FieldType.boolean)) ∈ SW := zq 592 (by decide +kernel) (by decide +kernel)
theorem q593 : (Jvm.Cond.methodLink "HallDiary" (265 : Nat) ({ cls := "HallDiary", name := "firstFreeHour", desc := "(III)I" } : Jvm.MethodName)) ∈ SW := zq 593 (by decide +kernel) (by decide +kernel)
theorem n594 : (Jvm.Cond.privateMethod ({ cls := "HallDiary", name := "firstFreeHour", desc := "(III)I" } : Jvm.MethodName)) ∈ lw_tbl := List.mem_of_getElem? (i := 594) (by decide +kernel)
theorem q595 : (Jvm.Cond.instanceMethod ({ cls := "HallDiary", name := "firstFreeHour", desc := "(III)I" } : Jvm.MethodName)) ∈ SW := zq 595 (by decide +kernel) (by decide +kernel)
theorem q596 : (Jvm.Cond.code ({ cls := "HallDiary", name := "firstFreeHour", desc := "(III)I" } : Jvm.MethodName) prog_1_method_41_code (5 : Nat) (Option.some Jvm.ClassFile.FieldType.int)) ∈ SW := zq 596 (by decide +kernel) (by decide +kernel)
theorem q597 : (Jvm.Cond.methodLink "HallDiary" (338 : Nat) ({ cls := "HallDiary$Let", name := "place", desc := "(IIII)V" } : Jvm.MethodName)) ∈ SW := zq 597 (by decide +kernel) (by decide +kernel)
theorem q598 : (Jvm.Cond.methodLink "HallDiary" (344 : Nat) ({ cls := "HallDiary$DayPlan", name := "reasonAgainst", desc := "(LHallDiary$Let;I)I" } : Jvm.MethodName)) ∈ SW := zq 598 (by decide +kernel) (by decide +kernel)
theorem q599 : (Jvm.Cond.instanceMethod ({ cls := "HallDiary$DayPlan", name := "reasonAgainst", desc := "(LHallDiary$Let;I)I" } : Jvm.MethodName)) ∈ SW := zq 599 (by decide +kernel) (by decide +kernel)
theorem q600 : (Jvm.Cond.selects "HallDiary$DayPlan" ({ cls := "HallDiary$DayPlan", name := "reasonAgainst", desc := "(LHallDiary$Let;I)I" } : Jvm.MethodName) ({ cls := "HallDiary$DayPlan", name := "reasonAgainst", desc := "(LHallDiary$Let;I)I" } : Jvm.MethodName)) ∈ SW := zq 600 (by decide +kernel) (by decide +kernel)
theorem q601 : (Jvm.Cond.code ({ cls := "HallDiary$DayPlan", name := "reasonAgainst", desc := "(LHallDiary$Let;I)I" } : Jvm.MethodName) prog_2_method_4_code (4 : Nat) (Option.some Jvm.ClassFile.FieldType.int)) ∈ SW := zq 601 (by decide +kernel) (by decide +kernel)
theorem q602 : (Jvm.Cond.methodLink "HallDiary$DayPlan" (55 : Nat) ({ cls := "HallDiary$Let", name := "clashesWith", desc := "(LHallDiary$Let;I)Z" } : Jvm.MethodName)) ∈ SW := zq 602 (by decide +kernel) (by decide +kernel)
theorem q603 : (Jvm.Cond.instanceMethod ({ cls := "HallDiary$Let", name := "clashesWith", desc := "(LHallDiary$Let;I)Z" } : Jvm.MethodName)) ∈ SW := zq 603 (by decide +kernel) (by decide +kernel)
theorem q604 : (Jvm.Cond.selects "HallDiary$Let" ({ cls := "HallDiary$Let", name := "clashesWith", desc := "(LHallDiary$Let;I)Z" } : Jvm.MethodName) ({ cls := "HallDiary$Let", name := "clashesWith", desc := "(LHallDiary$Let;I)Z" } : Jvm.MethodName)) ∈ SW := zq 604 (by decide +kernel) (by decide +kernel)
theorem q605 : (Jvm.Cond.code ({ cls := "HallDiary$Let", name := "clashesWith", desc := "(LHallDiary$Let;I)Z" } : Jvm.MethodName) prog_3_method_10_code (3 : Nat) (Option.some Jvm.ClassFile.FieldType.boolean)) ∈ SW := zq 605 (by decide +kernel) (by decide +kernel)
theorem q606 : (Jvm.Cond.methodLink "HallDiary$DayPlan" (59 : Nat) ({ cls := "HallDiary$DayPlan", name := "canBeCleanedWith", desc := "(LHallDiary$Let;I)Z" } : Jvm.MethodName)) ∈ SW := zq 606 (by decide +kernel) (by decide +kernel)
theorem n607 : (Jvm.Cond.privateMethod ({ cls := "HallDiary$DayPlan", name := "canBeCleanedWith", desc := "(LHallDiary$Let;I)Z" } : Jvm.MethodName)) ∈ lw_tbl := List.mem_of_getElem? (i := 607) (by decide +kernel)
theorem q608 : (Jvm.Cond.instanceMethod ({ cls := "HallDiary$DayPlan", name := "canBeCleanedWith", desc := "(LHallDiary$Let;I)Z" } : Jvm.MethodName)) ∈ SW := zq 608 (by decide +kernel) (by decide +kernel)
theorem q609 : (Jvm.Cond.code ({ cls := "HallDiary$DayPlan", name := "canBeCleanedWith", desc := "(LHallDiary$Let;I)Z" } : Jvm.MethodName) prog_2_method_5_code (6 : Nat) (Option.some Jvm.ClassFile.FieldType.boolean)) ∈ SW := zq 609 (by decide +kernel) (by decide +kernel)
theorem q610 : (Jvm.Cond.methodLink "HallDiary$DayPlan" (62 : Nat) ({ cls := "HallDiary$DayPlan", name := "startCleaning", desc := "()V" } : Jvm.MethodName)) ∈ SW := zq 610 (by decide +kernel) (by decide +kernel)
theorem n611 : (Jvm.Cond.privateMethod ({ cls := "HallDiary$DayPlan", name := "startCleaning", desc := "()V" } : Jvm.MethodName)) ∈ lw_tbl := List.mem_of_getElem? (i := 611) (by decide +kernel)
theorem q612 : (Jvm.Cond.instanceMethod ({ cls := "HallDiary$DayPlan", name := "startCleaning", desc := "()V" } : Jvm.MethodName)) ∈ SW := zq 612 (by decide +kernel) (by decide +kernel)
theorem q613 : (Jvm.Cond.code ({ cls := "HallDiary$DayPlan", name := "startCleaning", desc := "()V" } : Jvm.MethodName) prog_2_method_7_code (2 : Nat) (Option.none : Option Jvm.ClassFile.FieldType)) ∈ SW := zq 613 (by decide +kernel) (by decide +kernel)
theorem q614 : (Jvm.Cond.methodLink "HallDiary$DayPlan" (65 : Nat) ({ cls := "HallDiary$DayPlan", name := "isServed", desc := "(LHallDiary$Let;I)Z" } : Jvm.MethodName)) ∈ SW := zq 614 (by decide +kernel) (by decide +kernel)
theorem n615 : (Jvm.Cond.privateMethod ({ cls := "HallDiary$DayPlan", name := "isServed", desc := "(LHallDiary$Let;I)Z" } : Jvm.MethodName)) ∈ lw_tbl := List.mem_of_getElem? (i := 615) (by decide +kernel)
theorem q616 : (Jvm.Cond.instanceMethod ({ cls := "HallDiary$DayPlan", name := "isServed", desc := "(LHallDiary$Let;I)Z" } : Jvm.MethodName)) ∈ SW := zq 616 (by decide +kernel) (by decide +kernel)
theorem q617 : (Jvm.Cond.code ({ cls := "HallDiary$DayPlan", name := "isServed", desc := "(LHallDiary$Let;I)Z" } : Jvm.MethodName) prog_2_method_8_code (4 : Nat) (Option.some Jvm.ClassFile.FieldType.boolean)) ∈ SW := zq 617 (by decide +kernel) (by decide +kernel)
theorem q618 : (Jvm.Cond.methodLink "HallDiary" (316 : Nat) ({ cls := "HallDiary", name := "refusal", desc := "(IIIII)I" } : Jvm.MethodName)) ∈ SW := zq 618 (by decide +kernel) (by decide +kernel)
theorem q619 : (Jvm.Cond.instanceMethod ({ cls := "HallDiary", name := "refusal", desc := "(IIIII)I" } : Jvm.MethodName)) ∈ SW := zq 619 (by decide +kernel) (by decide +kernel)
theorem q620 : (Jvm.Cond.selects "HallDiary" ({ cls := "HallDiary", name := "refusal", desc := "(IIIII)I" } : Jvm.MethodName) ({ cls := "HallDiary", name := "refusal", desc := "(IIIII)I" } : Jvm.MethodName)) ∈ SW := zq 620 (by decide +kernel) (by decide +kernel)
theorem q621 : (Jvm.Cond.code ({ cls := "HallDiary", name := "refusal", desc := "(IIIII)I" } : Jvm.MethodName) prog_1_method_21_code (6 : Nat) (Option.some Jvm.ClassFile.FieldType.int)) ∈ SW := zq 621 (by decide +kernel) (by decide +kernel)
theorem q622 : (Jvm.Cond.methodLink "HallDiary" (56 : Nat) ({ cls := "HallDiary", name := "needHours", desc := "(II)V" } : Jvm.MethodName)) ∈ SW := zq 622 (by decide +kernel) (by decide +kernel)
theorem q623 : (Jvm.Cond.static ({ cls := "HallDiary", name := "needHours", desc := "(II)V" } : Jvm.MethodName)) ∈ SW := zq 623 (by decide +kernel) (by decide +kernel)
theorem q624 : (Jvm.Cond.code ({ cls := "HallDiary", name := "needHours", desc := "(II)V" } : Jvm.MethodName) prog_1_method_36_code (2 : Nat) (Option.none : Option Jvm.ClassFile.FieldType)) ∈ SW := zq 624 (by decide +kernel) (by decide +kernel)
theorem q625 : (Jvm.Cond.methodLink "HallDiary" (100 : Nat) ({ cls := "HallDiary", name := "draftSingle", desc := "(IIIIII)V" } : Jvm.MethodName)) ∈ SW := zq 625 (by decide +kernel) (by decide +kernel)
theorem n626 : (Jvm.Cond.privateMethod ({ cls := "HallDiary", name := "draftSingle", desc := "(IIIIII)V" } : Jvm.MethodName)) ∈ lw_tbl := List.mem_of_getElem? (i := 626) (by decide +kernel)
theorem q627 : (Jvm.Cond.instanceMethod ({ cls := "HallDiary", name := "draftSingle", desc := "(IIIIII)V" } : Jvm.MethodName)) ∈ SW := zq 627 (by decide +kernel) (by decide +kernel)
theorem q628 : (Jvm.Cond.code ({ cls := "HallDiary", name := "draftSingle", desc := "(IIIIII)V" } : Jvm.MethodName) prog_1_method_37_code (8 : Nat) (Option.none : Option Jvm.ClassFile.FieldType)) ∈ SW := zq 628 (by decide +kernel) (by decide +kernel)
theorem q629 : (Jvm.Cond.methodLink "HallDiary" (258 : Nat) ({ cls := "HallDiary", name := "rentForDay", desc := "(IIII)I" } : Jvm.MethodName)) ∈ SW := zq 629 (by decide +kernel) (by decide +kernel)
theorem n630 : (Jvm.Cond.privateMethod ({ cls := "HallDiary", name := "rentForDay", desc := "(IIII)I" } : Jvm.MethodName)) ∈ lw_tbl := List.mem_of_getElem? (i := 630) (by decide +kernel)
theorem q631 : (Jvm.Cond.instanceMethod ({ cls := "HallDiary", name := "rentForDay", desc := "(IIII)I" } : Jvm.MethodName)) ∈ SW := zq 631 (by decide +kernel) (by decide +kernel)
theorem q632 : (Jvm.Cond.code ({ cls := "HallDiary", name := "rentForDay", desc := "(IIII)I" } : Jvm.MethodName) prog_1_method_39_code (6 : Nat) (Option.some Jvm.ClassFile.FieldType.int)) ∈ SW := zq 632 (by decide +kernel) (by decide +kernel)
theorem q633 : (Jvm.Cond.methodLink "HallDiary" (103 : Nat) ({ cls := "HallDiary", name := "reasonAgainstDraft", desc := "(I)I" } : Jvm.MethodName)) ∈ SW := zq 633 (by decide +kernel) (by decide +kernel)
theorem n634 : (Jvm.Cond.privateMethod ({ cls := "HallDiary", name := "reasonAgainstDraft", desc := "(I)I" } : Jvm.MethodName)) ∈ lw_tbl := List.mem_of_getElem? (i := 634) (by decide +kernel)
theorem q635 : (Jvm.Cond.instanceMethod ({ cls := "HallDiary", name := "reasonAgainstDraft", desc := "(I)I" } : Jvm.MethodName)) ∈ SW := zq 635 (by decide +kernel) (by decide +kernel)
theorem q636 : (Jvm.Cond.code ({ cls := "HallDiary", name := "reasonAgainstDraft", desc := "(I)I" } : Jvm.MethodName) prog_1_method_40_code (2 : Nat) (Option.some Jvm.ClassFile.FieldType.int)) ∈ SW := zq 636 (by decide +kernel) (by decide +kernel)
theorem q637 : (Jvm.Cond.methodLink "HallDiary" (320 : Nat) ({ cls := "HallDiary", name := "price", desc := "(IIII)I" } : Jvm.MethodName)) ∈ SW := zq 637 (by decide +kernel) (by decide +kernel)
theorem q638 : (Jvm.Cond.instanceMethod ({ cls := "HallDiary", name := "price", desc := "(IIII)I" } : Jvm.MethodName)) ∈ SW := zq 638 (by decide +kernel) (by decide +kernel)
theorem q639 : (Jvm.Cond.selects "HallDiary" ({ cls := "HallDiary", name := "price", desc := "(IIII)I" } : Jvm.MethodName) ({ cls := "HallDiary", name := "price", desc := "(IIII)I" } : Jvm.MethodName)) ∈ SW := zq 639 (by decide +kernel) (by decide +kernel)
theorem q640 : (Jvm.Cond.code ({ cls := "HallDiary", name := "price", desc := "(IIII)I" } : Jvm.MethodName) prog_1_method_22_code (5 : Nat) (Option.some Jvm.ClassFile.FieldType.int)) ∈ SW := zq 640 (by decide +kernel) (by decide +kernel)
theorem q641 : (Jvm.Cond.methodLink "HallDiary" (323 : Nat) ({ cls := "HallDiary", name := "fullness", desc := "(I)D" } : Jvm.MethodName)) ∈ SW := zq 641 (by decide +kernel) (by decide +kernel)
theorem q642 : (Jvm.Cond.instanceMethod ({ cls := "HallDiary", name := "fullness", desc := "(I)D" } : Jvm.MethodName)) ∈ SW := zq 642 (by decide +kernel) (by decide +kernel)
theorem q643 : (Jvm.Cond.selects "HallDiary" ({ cls := "HallDiary", name := "fullness", desc := "(I)D" } : Jvm.MethodName) ({ cls := "HallDiary", name := "fullness", desc := "(I)D" } : Jvm.MethodName)) ∈ SW := zq 643 (by decide +kernel) (by decide +kernel)
theorem q644 : (Jvm.Cond.code ({ cls := "HallDiary", name := "fullness", desc := "(I)D" } : Jvm.MethodName) prog_1_method_25_code (2 : Nat) (Option.some Jvm.ClassFile.FieldType.double)) ∈ SW := zq 644 (by decide +kernel) (by decide +kernel)
theorem q645 : (Jvm.Cond.methodLink "HallDiary" (269 : Nat) ({ cls := "HallDiary$Roll", name := "hoursIn", desc := "(I)I" } : Jvm.MethodName)) ∈ SW := zq 645 (by decide +kernel) (by decide +kernel)
theorem q646 : (Jvm.Cond.instanceMethod ({ cls := "HallDiary$Roll", name := "hoursIn", desc := "(I)I" } : Jvm.MethodName)) ∈ SW := zq 646 (by decide +kernel) (by decide +kernel)
theorem q647 : (Jvm.Cond.selects "HallDiary$Roll" ({ cls := "HallDiary$Roll", name := "hoursIn", desc := "(I)I" } : Jvm.MethodName) ({ cls := "HallDiary$Roll", name := "hoursIn", desc := "(I)I" } : Jvm.MethodName)) ∈ SW := zq 647 (by decide +kernel) (by decide +kernel)
theorem q648 : (Jvm.Cond.code ({ cls := "HallDiary$Roll", name := "hoursIn", desc := "(I)I" } : Jvm.MethodName) prog_5_method_7_code (4 : Nat) (Option.some Jvm.ClassFile.FieldType.int)) ∈ SW := zq 648 (by decide +kernel) (by decide +kernel)
theorem q649 : (Jvm.Cond.constantDouble "HallDiary" (272 : Nat) (4656581277212737536 : UInt64)) ∈ SW := zq 649 (by decide +kernel) (by decide +kernel)
theorem q650 : (Jvm.Cond.methodLink "HallDiary" (300 : Nat) ({ cls := "HallDiary", name := "bitsOf", desc := "(DII)J" } : Jvm.MethodName)) ∈ SW := zq 650 (by decide +kernel) (by decide +kernel)
theorem q651 : (Jvm.Cond.static ({ cls := "HallDiary", name := "bitsOf", desc := "(DII)J" } : Jvm.MethodName)) ∈ SW := zq 651 (by decide +kernel) (by decide +kernel)
theorem q652 : (Jvm.Cond.code ({ cls := "HallDiary", name := "bitsOf", desc := "(DII)J" } : Jvm.MethodName) prog_1_method_30_code (9 : Nat) (Option.some Jvm.ClassFile.FieldType.long)) ∈ SW := zq 652 (by decide +kernel) (by decide +kernel)
theorem q653 : (Jvm.Cond.constantDouble "HallDiary" (327 : Nat) (4611686018427387904 : UInt64)) ∈ SW := zq 653 (by decide +kernel) (by decide +kernel)
theorem q654 : (Jvm.Cond.methodLink "HallDiary" (293 : Nat) ({ cls := "HallDiary", name := "best", desc := "()I" } : Jvm.MethodName)) ∈ SW := zq 654 (by decide +kernel) (by decide +kernel)
theorem q655 : (Jvm.Cond.methodLink "HallDiary" (296 : Nat) ({ cls := "HallDiary", name := "meanRent", desc := "()F" } : Jvm.MethodName)) ∈ SW := zq 655 (by decide +kernel) (by decide +kernel)
theorem q656 : (Jvm.Cond.methodLink "HallDiaryLaw" (88 : Nat) ({ cls := "HallDiaryLaw", name := "regular", desc := "(LHallDiary;IIIIII[J)I" } : Jvm.MethodName)) ∈ SW := zq 656 (by decide +kernel) (by decide +kernel)
theorem q657 : (Jvm.Cond.static ({ cls := "HallDiaryLaw", name := "regular", desc := "(LHallDiary;IIIIII[J)I" } : Jvm.MethodName)) ∈ SW := zq 657 (by decide +kernel) (by decide +kernel)
theorem q658 : (Jvm.Cond.codeWith ({ cls := "HallDiaryLaw", name := "regular", desc := "(LHallDiary;IIIIII[J)I" } : Jvm.MethodName) method_3_code (9 : Nat) (Option.some Jvm.ClassFile.FieldType.int) [((0 : Nat), (18 : Nat), (21 : Nat), (13 : Nat)), ((0 : Nat), (18 : Nat), (25 : Nat), (15 : Nat)), ((0 : Nat), (18 : Nat), (29 : Nat), (17 : Nat))]) ∈ SW := zq 658 (by decide +kernel) (by decide +kernel)
theorem q659 : (Jvm.Cond.classLink "HallDiaryLaw" (13 : Nat) "java/lang/IndexOutOfBoundsException") ∈ SW := zq 659 (by decide +kernel) (by decide +kernel)
theorem q660 : (Jvm.Cond.classLink "HallDiaryLaw" (15 : Nat) "java/lang/IllegalArgumentException") ∈ SW := zq 660 (by decide +kernel) (by decide +kernel)
theorem q661 : (Jvm.Cond.classLink "HallDiaryLaw" (17 : Nat) "java/lang/IllegalStateException") ∈ SW := zq 661 (by decide +kernel) (by decide +kernel)
theorem q662 : (Jvm.Cond.methodLink "HallDiaryLaw" (7 : Nat) ({ cls := "HallDiary", name := "regular", desc := "(IIIIII)I" } : Jvm.MethodName)) ∈ SW := zq 662 (by decide +kernel) (by decide +kernel)
theorem q663 : (Jvm.Cond.instanceMethod ({ cls := "HallDiary", name := "regular", desc := "(IIIIII)I" } : Jvm.MethodName)) ∈ SW := zq 663 (by decide +kernel) (by decide +kernel)
theorem q664 : (Jvm.Cond.selects "HallDiary" ({ cls := "HallDiary", name := "regular", desc := "(IIIIII)I" } : Jvm.MethodName) ({ cls := "HallDiary", name := "regular", desc := "(IIIIII)I" } : Jvm.MethodName)) ∈ SW := zq 664 (by decide +kernel) (by decide +kernel)
theorem q665 : (Jvm.Cond.code ({ cls := "HallDiary", name := "regular", desc := "(IIIIII)I" } : Jvm.MethodName) prog_1_method_2_code (7 : Nat) (Option.some Jvm.ClassFile.FieldType.int)) ∈ SW := zq 665 (by decide +kernel) (by decide +kernel)
theorem q666 : (Jvm.Cond.classLink "HallDiary" (70 : Nat) "java/lang/IllegalStateException") ∈ SW := zq 666 (by decide +kernel) (by decide +kernel)
theorem q667 : (Jvm.Cond.instantiable "java/lang/IllegalStateException" (6 : Nat)) ∈ SW := zq 667 (by decide +kernel) (by decide +kernel)
theorem n668 : (Jvm.Cond.castable "java/lang/IllegalStateException" "java/lang/IllegalStateException") ∈ lw_tbl := List.mem_of_getElem? (i := 668) (by decide +kernel)
theorem q669 : (Jvm.Cond.selects "java/lang/IllegalStateException" ({ cls := "java/lang/Throwable", name := "fillInStackTrace", desc := "(I)Ljava/lang/Throwable;" } : Jvm.MethodName) ({ cls := "java/lang/Throwable", name := "fillInStackTrace", desc := "(I)Ljava/lang/Throwable;" } : Jvm.MethodName)) ∈ SW := zq 669 (by decide +kernel) (by decide +kernel)
theorem q670 : (Jvm.Cond.lays "java/lang/IllegalStateException" "java/lang/Throwable" "cause" "Ljava/lang/Throwable;") ∈ SW := zq 670 (by decide +kernel) (by decide +kernel)
theorem q671 : (Jvm.Cond.lays "java/lang/IllegalStateException" "java/lang/Throwable" "stackTrace" "[Ljava/lang/StackTraceElement;") ∈ SW := zq 671 (by decide +kernel) (by decide +kernel)
theorem q672 : (Jvm.Cond.lays "java/lang/IllegalStateException" "java/lang/Throwable" "suppressedExceptions" "Ljava/util/List;") ∈ SW := zq 672 (by decide +kernel) (by decide +kernel)
theorem q673 : (Jvm.Cond.lays "java/lang/IllegalStateException" "java/lang/Throwable" "detailMessage" "Ljava/lang/String;") ∈ SW := zq 673 (by decide +kernel) (by decide +kernel)
theorem q674 : (Jvm.Cond.lays "java/lang/IllegalStateException" "java/lang/Throwable" "backtrace" "Ljava/lang/Object;") ∈ SW := zq 674 (by decide +kernel) (by decide +kernel)
theorem n675 : (Jvm.Cond.stringRef "HallDiary" (72 : Nat) "there are as many regular lets as may be") ∈ lw_tbl := List.mem_of_getElem? (i := 675) (by decide +kernel)
theorem q676 : (Jvm.Cond.methodLink "HallDiary" (74 : Nat) ({ cls := "java/lang/IllegalStateException", name := "<init>", desc := "(Ljava/lang/String;)V" } : Jvm.MethodName)) ∈ SW := zq 676 (by decide +kernel) (by decide +kernel)
theorem q677 : (Jvm.Cond.instanceMethod ({ cls := "java/lang/IllegalStateException", name := "<init>", desc := "(Ljava/lang/String;)V" } : Jvm.MethodName)) ∈ SW := zq 677 (by decide +kernel) (by decide +kernel)
theorem q678 : (Jvm.Cond.code ({ cls := "java/lang/IllegalStateException", name := "<init>", desc := "(Ljava/lang/String;)V" } : Jvm.MethodName) prog_13_method_2_code (2 : Nat) (Option.none : Option Jvm.ClassFile.FieldType)) ∈ SW := zq 678 (by decide +kernel) (by decide +kernel)
theorem q679 : (Jvm.Cond.methodLink "java/lang/IllegalStateException" (7 : Nat) ({ cls := "java/lang/RuntimeException", name := "<init>", desc := "(Ljava/lang/String;)V" } : Jvm.MethodName)) ∈ SW := zq 679 (by decide +kernel) (by decide +kernel)
theorem q680 : (Jvm.Cond.lays "java/lang/IllegalStateException" "java/lang/Throwable" "depth" "I") ∈ SW := zq 680 (by decide +kernel) (by decide +kernel)
theorem n681 : (Jvm.Cond.superclass "java/lang/IllegalStateException" "java/lang/RuntimeException") ∈ lw_tbl := List.mem_of_getElem? (i := 681) (by decide +kernel)
theorem q682 : (Jvm.Cond.methodLink "HallDiary" (77 : Nat) ({ cls := "HallDiary", name := "draftRegular", desc := "(IIIIII)V" } : Jvm.MethodName)) ∈ SW := zq 682 (by decide +kernel) (by decide +kernel)
theorem n683 : (Jvm.Cond.privateMethod ({ cls := "HallDiary", name := "draftRegular", desc := "(IIIIII)V" } : Jvm.MethodName)) ∈ lw_tbl := List.mem_of_getElem? (i := 683) (by decide +kernel)
theorem q684 : (Jvm.Cond.instanceMethod ({ cls := "HallDiary", name := "draftRegular", desc := "(IIIIII)V" } : Jvm.MethodName)) ∈ SW := zq 684 (by decide +kernel) (by decide +kernel)
theorem q685 : (Jvm.Cond.code ({ cls := "HallDiary", name := "draftRegular", desc := "(IIIIII)V" } : Jvm.MethodName) prog_1_method_38_code (8 : Nat) (Option.none : Option Jvm.ClassFile.FieldType)) ∈ SW := zq 685 (by decide +kernel) (by decide +kernel)
theorem n686 : (Jvm.Cond.stringRef "HallDiary" (85 : Nat) "the let would be off on all its days") ∈ lw_tbl := List.mem_of_getElem? (i := 686) (by decide +kernel)
theorem q687 : (Jvm.Cond.methodLink "HallDiary" (87 : Nat) ({ cls := "HallDiary", name := "saveState", desc := "()V" } : Jvm.MethodName)) ∈ SW := zq 687 (by decide +kernel) (by decide +kernel)
theorem n688 : (Jvm.Cond.privateMethod ({ cls := "HallDiary", name := "saveState", desc := "()V" } : Jvm.MethodName)) ∈ lw_tbl := List.mem_of_getElem? (i := 688) (by decide +kernel)
theorem q689 : (Jvm.Cond.instanceMethod ({ cls := "HallDiary", name := "saveState", desc := "()V" } : Jvm.MethodName)) ∈ SW := zq 689 (by decide +kernel) (by decide +kernel)
theorem q690 : (Jvm.Cond.code ({ cls := "HallDiary", name := "saveState", desc := "()V" } : Jvm.MethodName) prog_1_method_48_code (3 : Nat) (Option.none : Option Jvm.ClassFile.FieldType)) ∈ SW := zq 690 (by decide +kernel) (by decide +kernel)
theorem q691 : (Jvm.Cond.methodLink "HallDiary" (90 : Nat) ({ cls := "HallDiary", name := "makeRegular", desc := "()V" } : Jvm.MethodName)) ∈ SW := zq 691 (by decide +kernel) (by decide +kernel)
theorem n692 : (Jvm.Cond.privateMethod ({ cls := "HallDiary", name := "makeRegular", desc := "()V" } : Jvm.MethodName)) ∈ lw_tbl := List.mem_of_getElem? (i := 692) (by decide +kernel)
theorem q693 : (Jvm.Cond.instanceMethod ({ cls := "HallDiary", name := "makeRegular", desc := "()V" } : Jvm.MethodName)) ∈ SW := zq 693 (by decide +kernel) (by decide +kernel)
theorem q694 : (Jvm.Cond.code ({ cls := "HallDiary", name := "makeRegular", desc := "()V" } : Jvm.MethodName) prog_1_method_43_code (3 : Nat) (Option.none : Option Jvm.ClassFile.FieldType)) ∈ SW := zq 694 (by decide +kernel) (by decide +kernel)
theorem q695 : (Jvm.Cond.methodLink "HallDiary" (132 : Nat) ({ cls := "HallDiary$Let", name := "standsOn", desc := "(I)Z" } : Jvm.MethodName)) ∈ SW := zq 695 (by decide +kernel) (by decide +kernel)
theorem q696 : (Jvm.Cond.methodLink "HallDiary" (347 : Nat) ({ cls := "HallDiary$State", name := "giveWayTo", desc := "(LHallDiary$Let;I)I" } : Jvm.MethodName)) ∈ SW := zq 696 (by decide +kernel) (by decide +kernel)
theorem q697 : (Jvm.Cond.instanceMethod ({ cls := "HallDiary$State", name := "giveWayTo", desc := "(LHallDiary$Let;I)I" } : Jvm.MethodName)) ∈ SW := zq 697 (by decide +kernel) (by decide +kernel)
theorem q698 : (Jvm.Cond.selects "HallDiary$State" ({ cls := "HallDiary$State", name := "giveWayTo", desc := "(LHallDiary$Let;I)I" } : Jvm.MethodName) ({ cls := "HallDiary$State", name := "giveWayTo", desc := "(LHallDiary$Let;I)I" } : Jvm.MethodName)) ∈ SW := zq 698 (by decide +kernel) (by decide +kernel)
theorem q699 : (Jvm.Cond.code ({ cls := "HallDiary$State", name := "giveWayTo", desc := "(LHallDiary$Let;I)I" } : Jvm.MethodName) prog_6_method_4_code (6 : Nat) (Option.some Jvm.ClassFile.FieldType.int)) ∈ SW := zq 699 (by decide +kernel) (by decide +kernel)
theorem q700 : (Jvm.Cond.methodLink "HallDiary$State" (61 : Nat) ({ cls := "HallDiary$State", name := "givesWay", desc := "(LHallDiary$Let;LHallDiary$Let;I)Z" } : Jvm.MethodName)) ∈ SW := zq 700 (by decide +kernel) (by decide +kernel)
theorem n701 : (Jvm.Cond.privateMethod ({ cls := "HallDiary$State", name := "givesWay", desc := "(LHallDiary$Let;LHallDiary$Let;I)Z" } : Jvm.MethodName)) ∈ lw_tbl := List.mem_of_getElem? (i := 701) (by decide +kernel)
theorem q702 : (Jvm.Cond.instanceMethod ({ cls := "HallDiary$State", name := "givesWay", desc := "(LHallDiary$Let;LHallDiary$Let;I)Z" } : Jvm.MethodName)) ∈ SW := zq 702 (by decide +kernel) (by decide +kernel)
theorem q703 : (Jvm.Cond.code ({ cls := "HallDiary$State", name := "givesWay", desc := "(LHallDiary$Let;LHallDiary$Let;I)Z" } : Jvm.MethodName) prog_6_method_5_code (4 : Nat) (Option.some Jvm.ClassFile.FieldType.boolean)) ∈ SW := zq 703 (by decide +kernel) (by decide +kernel)
theorem q704 : (Jvm.Cond.methodLink "HallDiary$State" (77 : Nat) ({ cls := "HallDiary$Let", name := "standsOn", desc := "(I)Z" } : Jvm.MethodName)) ∈ SW := zq 704 (by decide +kernel) (by decide +kernel)
theorem q705 : (Jvm.Cond.methodLink "HallDiary$State" (81 : Nat) ({ cls := "HallDiary$Let", name := "clashesWith", desc := "(LHallDiary$Let;I)Z" } : Jvm.MethodName)) ∈ SW := zq 705 (by decide +kernel) (by decide +kernel)
theorem q706 : (Jvm.Cond.methodLink "HallDiary$State" (65 : Nat) ({ cls := "HallDiary$State", name := "letGo", desc := "(LHallDiary$Let;)V" } : Jvm.MethodName)) ∈ SW := zq 706 (by decide +kernel) (by decide +kernel)
theorem n707 : (Jvm.Cond.privateMethod ({ cls := "HallDiary$State", name := "letGo", desc := "(LHallDiary$Let;)V" } : Jvm.MethodName)) ∈ lw_tbl := List.mem_of_getElem? (i := 707) (by decide +kernel)
theorem q708 : (Jvm.Cond.instanceMethod ({ cls := "HallDiary$State", name := "letGo", desc := "(LHallDiary$Let;)V" } : Jvm.MethodName)) ∈ SW := zq 708 (by decide +kernel) (by decide +kernel)
theorem q709 : (Jvm.Cond.code ({ cls := "HallDiary$State", name := "letGo", desc := "(LHallDiary$Let;)V" } : Jvm.MethodName) prog_6_method_6_code (2 : Nat) (Option.none : Option Jvm.ClassFile.FieldType)) ∈ SW := zq 709 (by decide +kernel) (by decide +kernel)
theorem q710 : (Jvm.Cond.methodLink "HallDiary$State" (69 : Nat) ({ cls := "HallDiary$Let", name := "leaveOut", desc := "(I)V" } : Jvm.MethodName)) ∈ SW := zq 710 (by decide +kernel) (by decide +kernel)
theorem q711 : (Jvm.Cond.instanceMethod ({ cls := "HallDiary$Let", name := "leaveOut", desc := "(I)V" } : Jvm.MethodName)) ∈ SW := zq 711 (by decide +kernel) (by decide +kernel)
theorem q712 : (Jvm.Cond.selects "HallDiary$Let" ({ cls := "HallDiary$Let", name := "leaveOut", desc := "(I)V" } : Jvm.MethodName) ({ cls := "HallDiary$Let", name := "leaveOut", desc := "(I)V" } : Jvm.MethodName)) ∈ SW := zq 712 (by decide +kernel) (by decide +kernel)
theorem q713 : (Jvm.Cond.code ({ cls := "HallDiary$Let", name := "leaveOut", desc := "(I)V" } : Jvm.MethodName) prog_3_method_5_code (2 : Nat) (Option.none : Option Jvm.ClassFile.FieldType)) ∈ SW := zq 713 (by decide +kernel) (by decide +kernel)
theorem q714 : (Jvm.Cond.methodLink "HallDiary$State" (74 : Nat) ({ cls := "HallDiary$Roll", name := "remove", desc := "(I)V" } : Jvm.MethodName)) ∈ SW := zq 714 (by decide +kernel) (by decide +kernel)
theorem q715 : (Jvm.Cond.instanceMethod ({ cls := "HallDiary$Roll", name := "remove", desc := "(I)V" } : Jvm.MethodName)) ∈ SW := zq 715 (by decide +kernel) (by decide +kernel)
theorem q716 : (Jvm.Cond.selects "HallDiary$Roll" ({ cls := "HallDiary$Roll", name := "remove", desc := "(I)V" } : Jvm.MethodName) ({ cls := "HallDiary$Roll", name := "remove", desc := "(I)V" } : Jvm.MethodName)) ∈ SW := zq 716 (by decide +kernel) (by decide +kernel)
theorem q717 : (Jvm.Cond.code ({ cls := "HallDiary$Roll", name := "remove", desc := "(I)V" } : Jvm.MethodName) prog_5_method_4_code (4 : Nat) (Option.none : Option Jvm.ClassFile.FieldType)) ∈ SW := zq 717 (by decide +kernel) (by decide +kernel)
theorem n718 : (Jvm.Cond.methodLinkNest "HallDiary$Roll" (30 : Nat) ({ cls := "HallDiary", name := "isIn", desc := "(III)Z" } : Jvm.MethodName) "HallDiary") ∈ lw_tbl := List.mem_of_getElem? (i := 718) (by decide +kernel)
theorem q719 : (Jvm.Cond.methodLink "HallDiary" (350 : Nat) ({ cls := "HallDiary$Roll", name := "add", desc := "(LHallDiary$Let;)V" } : Jvm.MethodName)) ∈ SW := zq 719 (by decide +kernel) (by decide +kernel)
theorem q720 : (Jvm.Cond.instanceMethod ({ cls := "HallDiary$Roll", name := "add", desc := "(LHallDiary$Let;)V" } : Jvm.MethodName)) ∈ SW := zq 720 (by decide +kernel) (by decide +kernel)
theorem q721 : (Jvm.Cond.selects "HallDiary$Roll" ({ cls := "HallDiary$Roll", name := "add", desc := "(LHallDiary$Let;)V" } : Jvm.MethodName) ({ cls := "HallDiary$Roll", name := "add", desc := "(LHallDiary$Let;)V" } : Jvm.MethodName)) ∈ SW := zq 721 (by decide +kernel) (by decide +kernel)
theorem q722 : (Jvm.Cond.code ({ cls := "HallDiary$Roll", name := "add", desc := "(LHallDiary$Let;)V" } : Jvm.MethodName) prog_5_method_3_code (2 : Nat) (Option.none : Option Jvm.ClassFile.FieldType)) ∈ SW := zq 722 (by decide +kernel) (by decide +kernel)
theorem q723 : (Jvm.Cond.methodLink "HallDiary$Roll" (22 : Nat) ({ cls := "HallDiary$Roll", name := "isFull", desc := "()Z" } : Jvm.MethodName)) ∈ SW := zq 723 (by decide +kernel) (by decide +kernel)
theorem q724 : (Jvm.Cond.methodLink "HallDiary" (123 : Nat) ({ cls := "HallDiary$Let", name := "rentsInAll", desc := "()I" } : Jvm.MethodName)) ∈ SW := zq 724 (by decide +kernel) (by decide +kernel)
theorem q725 : (Jvm.Cond.instanceMethod ({ cls := "HallDiary$Let", name := "rentsInAll", desc := "()I" } : Jvm.MethodName)) ∈ SW := zq 725 (by decide +kernel) (by decide +kernel)
theorem q726 : (Jvm.Cond.selects "HallDiary$Let" ({ cls := "HallDiary$Let", name := "rentsInAll", desc := "()I" } : Jvm.MethodName) ({ cls := "HallDiary$Let", name := "rentsInAll", desc := "()I" } : Jvm.MethodName)) ∈ SW := zq 726 (by decide +kernel) (by decide +kernel)
theorem q727 : (Jvm.Cond.code ({ cls := "HallDiary$Let", name := "rentsInAll", desc := "()I" } : Jvm.MethodName) prog_3_method_7_code (1 : Nat) (Option.some Jvm.ClassFile.FieldType.int)) ∈ SW := zq 727 (by decide +kernel) (by decide +kernel)
theorem q728 : (Jvm.Cond.methodLink "HallDiary$Let" (52 : Nat) ({ cls := "HallDiary$Let", name := "daysStanding", desc := "()I" } : Jvm.MethodName)) ∈ SW := zq 728 (by decide +kernel) (by decide +kernel)
theorem q729 : (Jvm.Cond.methodLink "HallDiaryLaw" (97 : Nat) ({ cls := "HallDiaryLaw", name := "single", desc := "(LHallDiary;IIIIII[J)I" } : Jvm.MethodName)) ∈ SW := zq 729 (by decide +kernel) (by decide +kernel)
theorem q730 : (Jvm.Cond.static ({ cls := "HallDiaryLaw", name := "single", desc := "(LHallDiary;IIIIII[J)I" } : Jvm.MethodName)) ∈ SW := zq 730 (by decide +kernel) (by decide +kernel)
theorem q731 : (Jvm.Cond.codeWith ({ cls := "HallDiaryLaw", name := "single", desc := "(LHallDiary;IIIIII[J)I" } : Jvm.MethodName) method_4_code (9 : Nat) (Option.some Jvm.ClassFile.FieldType.int) [((0 : Nat), (18 : Nat), (21 : Nat), (13 : Nat)), ((0 : Nat), (18 : Nat), (25 : Nat), (15 : Nat)), ((0 : Nat), (18 : Nat), (29 : Nat), (17 : Nat))]) ∈ SW := zq 731 (by decide +kernel) (by decide +kernel)
theorem q732 : (Jvm.Cond.methodLink "HallDiaryLaw" (19 : Nat) ({ cls := "HallDiary", name := "single", desc := "(IIIIII)I" } : Jvm.MethodName)) ∈ SW := zq 732 (by decide +kernel) (by decide +kernel)
theorem q733 : (Jvm.Cond.instanceMethod ({ cls := "HallDiary", name := "single", desc := "(IIIIII)I" } : Jvm.MethodName)) ∈ SW := zq 733 (by decide +kernel) (by decide +kernel)
theorem q734 : (Jvm.Cond.selects "HallDiary" ({ cls := "HallDiary", name := "single", desc := "(IIIIII)I" } : Jvm.MethodName) ({ cls := "HallDiary", name := "single", desc := "(IIIIII)I" } : Jvm.MethodName)) ∈ SW := zq 734 (by decide +kernel) (by decide +kernel)
theorem q735 : (Jvm.Cond.code ({ cls := "HallDiary", name := "single", desc := "(IIIIII)I" } : Jvm.MethodName) prog_1_method_3_code (7 : Nat) (Option.some Jvm.ClassFile.FieldType.int)) ∈ SW := zq 735 (by decide +kernel) (by decide +kernel)
theorem n736 : (Jvm.Cond.stringRef "HallDiary" (107 : Nat) "the let is refused") ∈ lw_tbl := List.mem_of_getElem? (i := 736) (by decide +kernel)
theorem q737 : (Jvm.Cond.methodLink "HallDiary" (109 : Nat) ({ cls := "HallDiary", name := "makeSingle", desc := "(I)I" } : Jvm.MethodName)) ∈ SW := zq 737 (by decide +kernel) (by decide +kernel)
theorem n738 : (Jvm.Cond.privateMethod ({ cls := "HallDiary", name := "makeSingle", desc := "(I)I" } : Jvm.MethodName)) ∈ lw_tbl := List.mem_of_getElem? (i := 738) (by decide +kernel)
theorem q739 : (Jvm.Cond.instanceMethod ({ cls := "HallDiary", name := "makeSingle", desc := "(I)I" } : Jvm.MethodName)) ∈ SW := zq 739 (by decide +kernel) (by decide +kernel)
theorem q740 : (Jvm.Cond.code ({ cls := "HallDiary", name := "makeSingle", desc := "(I)I" } : Jvm.MethodName) prog_1_method_42_code (3 : Nat) (Option.some Jvm.ClassFile.FieldType.int)) ∈ SW := zq 740 (by decide +kernel) (by decide +kernel)
theorem q741 : (Jvm.Cond.methodLink "HallDiaryLaw" (100 : Nat) ({ cls := "HallDiaryLaw", name := "cancel", desc := "(LHallDiary;ZI[J)I" } : Jvm.MethodName)) ∈ SW := zq 741 (by decide +kernel) (by decide +kernel)
theorem q742 : (Jvm.Cond.static ({ cls := "HallDiaryLaw", name := "cancel", desc := "(LHallDiary;ZI[J)I" } : Jvm.MethodName)) ∈ SW := zq 742 (by decide +kernel) (by decide +kernel)
theorem q743 : (Jvm.Cond.codeWith ({ cls := "HallDiaryLaw", name := "cancel", desc := "(LHallDiary;ZI[J)I" } : Jvm.MethodName) method_5_code (5 : Nat) (Option.some Jvm.ClassFile.FieldType.int) [((0 : Nat), (10 : Nat), (13 : Nat), (13 : Nat))]) ∈ SW := zq 743 (by decide +kernel) (by decide +kernel)
theorem q744 : (Jvm.Cond.methodLink "HallDiaryLaw" (22 : Nat) ({ cls := "HallDiary", name := "cancel", desc := "(ZI)I" } : Jvm.MethodName)) ∈ SW := zq 744 (by decide +kernel) (by decide +kernel)
theorem q745 : (Jvm.Cond.instanceMethod ({ cls := "HallDiary", name := "cancel", desc := "(ZI)I" } : Jvm.MethodName)) ∈ SW := zq 745 (by decide +kernel) (by decide +kernel)
theorem q746 : (Jvm.Cond.selects "HallDiary" ({ cls := "HallDiary", name := "cancel", desc := "(ZI)I" } : Jvm.MethodName) ({ cls := "HallDiary", name := "cancel", desc := "(ZI)I" } : Jvm.MethodName)) ∈ SW := zq 746 (by decide +kernel) (by decide +kernel)
theorem q747 : (Jvm.Cond.code ({ cls := "HallDiary", name := "cancel", desc := "(ZI)I" } : Jvm.MethodName) prog_1_method_4_code (5 : Nat) (Option.some Jvm.ClassFile.FieldType.int)) ∈ SW := zq 747 (by decide +kernel) (by decide +kernel)
theorem q748 : (Jvm.Cond.methodLink "HallDiary" (129 : Nat) ({ cls := "HallDiary$Roll", name := "remove", desc := "(I)V" } : Jvm.MethodName)) ∈ SW := zq 748 (by decide +kernel) (by decide +kernel)
theorem q749 : (Jvm.Cond.methodLink "HallDiaryLaw" (104 : Nat) ({ cls := "HallDiaryLaw", name := "off", desc := "(LHallDiary;II[J)I" } : Jvm.MethodName)) ∈ SW := zq 749 (by decide +kernel) (by decide +kernel)
theorem q750 : (Jvm.Cond.static ({ cls := "HallDiaryLaw", name := "off", desc := "(LHallDiary;II[J)I" } : Jvm.MethodName)) ∈ SW := zq 750 (by decide +kernel) (by decide +kernel)
theorem q751 : (Jvm.Cond.codeWith ({ cls := "HallDiaryLaw", name := "off", desc := "(LHallDiary;II[J)I" } : Jvm.MethodName) method_6_code (5 : Nat) (Option.some Jvm.ClassFile.FieldType.int) [((0 : Nat), (10 : Nat), (13 : Nat), (13 : Nat)), ((0 : Nat), (10 : Nat), (17 : Nat), (15 : Nat)), ((0 : Nat), (10 : Nat), (21 : Nat), (17 : Nat))]) ∈ SW := zq 751 (by decide +kernel) (by decide +kernel)
theorem q752 : (Jvm.Cond.methodLink "HallDiaryLaw" (26 : Nat) ({ cls := "HallDiary", name := "off", desc := "(II)I" } : Jvm.MethodName)) ∈ SW := zq 752 (by decide +kernel) (by decide +kernel)
theorem q753 : (Jvm.Cond.instanceMethod ({ cls := "HallDiary", name := "off", desc := "(II)I" } : Jvm.MethodName)) ∈ SW := zq 753 (by decide +kernel) (by decide +kernel)
theorem q754 : (Jvm.Cond.selects "HallDiary" ({ cls := "HallDiary", name := "off", desc := "(II)I" } : Jvm.MethodName) ({ cls := "HallDiary", name := "off", desc := "(II)I" } : Jvm.MethodName)) ∈ SW := zq 754 (by decide +kernel) (by decide +kernel)
theorem q755 : (Jvm.Cond.code ({ cls := "HallDiary", name := "off", desc := "(II)I" } : Jvm.MethodName) prog_1_method_5_code (4 : Nat) (Option.some Jvm.ClassFile.FieldType.int)) ∈ SW := zq 755 (by decide +kernel) (by decide +kernel)
theorem n756 : (Jvm.Cond.stringRef "HallDiary" (136 : Nat) "the let does not stand on this day") ∈ lw_tbl := List.mem_of_getElem? (i := 756) (by decide +kernel)
theorem q757 : (Jvm.Cond.methodLink "HallDiary" (138 : Nat) ({ cls := "HallDiary$Let", name := "leaveOut", desc := "(I)V" } : Jvm.MethodName)) ∈ SW := zq 757 (by decide +kernel) (by decide +kernel)
theorem q758 : (Jvm.Cond.methodLink "HallDiaryLaw" (108 : Nat) ({ cls := "HallDiaryLaw", name := "rate", desc := "(LHallDiary;II[J)I" } : Jvm.MethodName)) ∈ SW := zq 758 (by decide +kernel) (by decide +kernel)
theorem q759 : (Jvm.Cond.static ({ cls := "HallDiaryLaw", name := "rate", desc := "(LHallDiary;II[J)I" } : Jvm.MethodName)) ∈ SW := zq 759 (by decide +kernel) (by decide +kernel)
theorem q760 : (Jvm.Cond.codeWith ({ cls := "HallDiaryLaw", name := "rate", desc := "(LHallDiary;II[J)I" } : Jvm.MethodName) method_7_code (5 : Nat) (Option.some Jvm.ClassFile.FieldType.int) [((0 : Nat), (10 : Nat), (13 : Nat), (13 : Nat)), ((0 : Nat), (10 : Nat), (17 : Nat), (15 : Nat))]) ∈ SW := zq 760 (by decide +kernel) (by decide +kernel)
theorem q761 : (Jvm.Cond.methodLink "HallDiaryLaw" (30 : Nat) ({ cls := "HallDiary", name := "rate", desc := "(II)I" } : Jvm.MethodName)) ∈ SW := zq 761 (by decide +kernel) (by decide +kernel)
theorem q762 : (Jvm.Cond.instanceMethod ({ cls := "HallDiary", name := "rate", desc := "(II)I" } : Jvm.MethodName)) ∈ SW := zq 762 (by decide +kernel) (by decide +kernel)
theorem q763 : (Jvm.Cond.selects "HallDiary" ({ cls := "HallDiary", name := "rate", desc := "(II)I" } : Jvm.MethodName) ({ cls := "HallDiary", name := "rate", desc := "(II)I" } : Jvm.MethodName)) ∈ SW := zq 763 (by decide +kernel) (by decide +kernel)
theorem q764 : (Jvm.Cond.code ({ cls := "HallDiary", name := "rate", desc := "(II)I" } : Jvm.MethodName) prog_1_method_6_code (4 : Nat) (Option.some Jvm.ClassFile.FieldType.int)) ∈ SW := zq 764 (by decide +kernel) (by decide +kernel)
theorem q765 : (Jvm.Cond.methodLink "HallDiaryLaw" (111 : Nat) ({ cls := "HallDiaryLaw", name := "set", desc := "(LHallDiary;II[J)I" } : Jvm.MethodName)) ∈ SW := zq 765 (by decide +kernel) (by decide +kernel)
theorem q766 : (Jvm.Cond.static ({ cls := "HallDiaryLaw", name := "set", desc := "(LHallDiary;II[J)I" } : Jvm.MethodName)) ∈ SW := zq 766 (by decide +kernel) (by decide +kernel)
theorem q767 : (Jvm.Cond.codeWith ({ cls := "HallDiaryLaw", name := "set", desc := "(LHallDiary;II[J)I" } : Jvm.MethodName) method_8_code (5 : Nat) (Option.some Jvm.ClassFile.FieldType.int) [((0 : Nat), (10 : Nat), (13 : Nat), (13 : Nat)), ((0 : Nat), (10 : Nat), (17 : Nat), (15 : Nat)), ((0 : Nat), (10 : Nat), (21 : Nat), (17 : Nat))]) ∈ SW := zq 767 (by decide +kernel) (by decide +kernel)
theorem q768 : (Jvm.Cond.methodLink "HallDiaryLaw" (33 : Nat) ({ cls := "HallDiary", name := "set", desc := "(II)I" } : Jvm.MethodName)) ∈ SW := zq 768 (by decide +kernel) (by decide +kernel)
theorem q769 : (Jvm.Cond.instanceMethod ({ cls := "HallDiary", name := "set", desc := "(II)I" } : Jvm.MethodName)) ∈ SW := zq 769 (by decide +kernel) (by decide +kernel)
theorem q770 : (Jvm.Cond.selects "HallDiary" ({ cls := "HallDiary", name := "set", desc := "(II)I" } : Jvm.MethodName) ({ cls := "HallDiary", name := "set", desc := "(II)I" } : Jvm.MethodName)) ∈ SW := zq 770 (by decide +kernel) (by decide +kernel)
theorem q771 : (Jvm.Cond.code ({ cls := "HallDiary", name := "set", desc := "(II)I" } : Jvm.MethodName) prog_1_method_7_code (4 : Nat) (Option.some Jvm.ClassFile.FieldType.int)) ∈ SW := zq 771 (by decide +kernel) (by decide +kernel)
theorem n772 : (Jvm.Cond.stringRef "HallDiary" (150 : Nat) "no such setting") ∈ lw_tbl := List.mem_of_getElem? (i := 772) (by decide +kernel)
theorem q773 : (Jvm.Cond.fieldLink "HallDiary" (153 : Nat) "HallDiary" "HIGHEST_SETTING" "[I") ∈ SW := zq 773 (by decide +kernel) (by decide +kernel)
theorem n774 : (Jvm.Cond.laysStatic "HallDiary" "HIGHEST_SETTING" "[I") ∈ lw_tbl := List.mem_of_getElem? (i := 774) (by decide +kernel)
theorem q775 : (Jvm.Cond.methodLink "HallDiary" (156 : Nat) ({ cls := "HallDiary", name := "allowsSetting", desc := "(II)Z" } : Jvm.MethodName)) ∈ SW := zq 775 (by decide +kernel) (by decide +kernel)
theorem n776 : (Jvm.Cond.privateMethod ({ cls := "HallDiary", name := "allowsSetting", desc := "(II)Z" } : Jvm.MethodName)) ∈ lw_tbl := List.mem_of_getElem? (i := 776) (by decide +kernel)
theorem q777 : (Jvm.Cond.instanceMethod ({ cls := "HallDiary", name := "allowsSetting", desc := "(II)Z" } : Jvm.MethodName)) ∈ SW := zq 777 (by decide +kernel) (by decide +kernel)
theorem q778 : (Jvm.Cond.code ({ cls := "HallDiary", name := "allowsSetting", desc := "(II)Z" } : Jvm.MethodName) prog_1_method_45_code (3 : Nat) (Option.some Jvm.ClassFile.FieldType.boolean)) ∈ SW := zq 778 (by decide +kernel) (by decide +kernel)
theorem q779 : (Jvm.Cond.methodLink "HallDiary" (354 : Nat) ({ cls := "HallDiary", name := "allDaysCanBeCleaned", desc := "(I)Z" } : Jvm.MethodName)) ∈ SW := zq 779 (by decide +kernel) (by decide +kernel)
theorem n780 : (Jvm.Cond.privateMethod ({ cls := "HallDiary", name := "allDaysCanBeCleaned", desc := "(I)Z" } : Jvm.MethodName)) ∈ lw_tbl := List.mem_of_getElem? (i := 780) (by decide +kernel)
theorem q781 : (Jvm.Cond.instanceMethod ({ cls := "HallDiary", name := "allDaysCanBeCleaned", desc := "(I)Z" } : Jvm.MethodName)) ∈ SW := zq 781 (by decide +kernel) (by decide +kernel)
theorem q782 : (Jvm.Cond.code ({ cls := "HallDiary", name := "allDaysCanBeCleaned", desc := "(I)Z" } : Jvm.MethodName) prog_1_method_46_code (3 : Nat) (Option.some Jvm.ClassFile.FieldType.boolean)) ∈ SW := zq 782 (by decide +kernel) (by decide +kernel)
theorem q783 : (Jvm.Cond.methodLink "HallDiary" (357 : Nat) ({ cls := "HallDiary$DayPlan", name := "canBeCleaned", desc := "(I)Z" } : Jvm.MethodName)) ∈ SW := zq 783 (by decide +kernel) (by decide +kernel)
theorem q784 : (Jvm.Cond.instanceMethod ({ cls := "HallDiary$DayPlan", name := "canBeCleaned", desc := "(I)Z" } : Jvm.MethodName)) ∈ SW := zq 784 (by decide +kernel) (by decide +kernel)
theorem q785 : (Jvm.Cond.selects "HallDiary$DayPlan" ({ cls := "HallDiary$DayPlan", name := "canBeCleaned", desc := "(I)Z" } : Jvm.MethodName) ({ cls := "HallDiary$DayPlan", name := "canBeCleaned", desc := "(I)Z" } : Jvm.MethodName)) ∈ SW := zq 785 (by decide +kernel) (by decide +kernel)
theorem q786 : (Jvm.Cond.code ({ cls := "HallDiary$DayPlan", name := "canBeCleaned", desc := "(I)Z" } : Jvm.MethodName) prog_2_method_6_code (3 : Nat) (Option.some Jvm.ClassFile.FieldType.boolean)) ∈ SW := zq 786 (by decide +kernel) (by decide +kernel)
theorem n787 : (Jvm.Cond.stringRef "HallDiary" (160 : Nat) "the diary does not allow this value") ∈ lw_tbl := List.mem_of_getElem? (i := 787) (by decide +kernel)
theorem q788 : (Jvm.Cond.methodLink "HallDiaryLaw" (114 : Nat) ({ cls := "HallDiaryLaw", name := "append", desc := "(LHallDiary;I[J)I" } : Jvm.MethodName)) ∈ SW := zq 788 (by decide +kernel) (by decide +kernel)
theorem q789 : (Jvm.Cond.static ({ cls := "HallDiaryLaw", name := "append", desc := "(LHallDiary;I[J)I" } : Jvm.MethodName)) ∈ SW := zq 789 (by decide +kernel) (by decide +kernel)
theorem q790 : (Jvm.Cond.codeWith ({ cls := "HallDiaryLaw", name := "append", desc := "(LHallDiary;I[J)I" } : Jvm.MethodName) method_9_code (4 : Nat) (Option.some Jvm.ClassFile.FieldType.int) [((0 : Nat), (9 : Nat), (12 : Nat), (15 : Nat)), ((0 : Nat), (9 : Nat), (15 : Nat), (17 : Nat))]) ∈ SW := zq 790 (by decide +kernel) (by decide +kernel)
theorem q791 : (Jvm.Cond.methodLink "HallDiaryLaw" (36 : Nat) ({ cls := "HallDiary", name := "append", desc := "(I)I" } : Jvm.MethodName)) ∈ SW := zq 791 (by decide +kernel) (by decide +kernel)
theorem q792 : (Jvm.Cond.instanceMethod ({ cls := "HallDiary", name := "append", desc := "(I)I" } : Jvm.MethodName)) ∈ SW := zq 792 (by decide +kernel) (by decide +kernel)
theorem q793 : (Jvm.Cond.selects "HallDiary" ({ cls := "HallDiary", name := "append", desc := "(I)I" } : Jvm.MethodName) ({ cls := "HallDiary", name := "append", desc := "(I)I" } : Jvm.MethodName)) ∈ SW := zq 793 (by decide +kernel) (by decide +kernel)
theorem q794 : (Jvm.Cond.code ({ cls := "HallDiary", name := "append", desc := "(I)I" } : Jvm.MethodName) prog_1_method_8_code (2 : Nat) (Option.some Jvm.ClassFile.FieldType.int)) ∈ SW := zq 794 (by decide +kernel) (by decide +kernel)
theorem q795 : (Jvm.Cond.methodLink "HallDiary" (165 : Nat) ({ cls := "HallDiary$LetText", name := "isFull", desc := "()Z" } : Jvm.MethodName)) ∈ SW := zq 795 (by decide +kernel) (by decide +kernel)
theorem q796 : (Jvm.Cond.instanceMethod ({ cls := "HallDiary$LetText", name := "isFull", desc := "()Z" } : Jvm.MethodName)) ∈ SW := zq 796 (by decide +kernel) (by decide +kernel)
theorem q797 : (Jvm.Cond.selects "HallDiary$LetText" ({ cls := "HallDiary$LetText", name := "isFull", desc := "()Z" } : Jvm.MethodName) ({ cls := "HallDiary$LetText", name := "isFull", desc := "()Z" } : Jvm.MethodName)) ∈ SW := zq 797 (by decide +kernel) (by decide +kernel)
theorem q798 : (Jvm.Cond.code ({ cls := "HallDiary$LetText", name := "isFull", desc := "()Z" } : Jvm.MethodName) prog_4_method_2_code (1 : Nat) (Option.some Jvm.ClassFile.FieldType.boolean)) ∈ SW := zq 798 (by decide +kernel) (by decide +kernel)
theorem n799 : (Jvm.Cond.stringRef "HallDiary" (166 : Nat) "the buffer is full") ∈ lw_tbl := List.mem_of_getElem? (i := 799) (by decide +kernel)
theorem q800 : (Jvm.Cond.methodLink "HallDiary" (168 : Nat) ({ cls := "HallDiary$LetText", name := "push", desc := "(I)V" } : Jvm.MethodName)) ∈ SW := zq 800 (by decide +kernel) (by decide +kernel)
theorem q801 : (Jvm.Cond.instanceMethod ({ cls := "HallDiary$LetText", name := "push", desc := "(I)V" } : Jvm.MethodName)) ∈ SW := zq 801 (by decide +kernel) (by decide +kernel)
theorem q802 : (Jvm.Cond.selects "HallDiary$LetText" ({ cls := "HallDiary$LetText", name := "push", desc := "(I)V" } : Jvm.MethodName) ({ cls := "HallDiary$LetText", name := "push", desc := "(I)V" } : Jvm.MethodName)) ∈ SW := zq 802 (by decide +kernel) (by decide +kernel)
theorem q803 : (Jvm.Cond.code ({ cls := "HallDiary$LetText", name := "push", desc := "(I)V" } : Jvm.MethodName) prog_4_method_3_code (2 : Nat) (Option.none : Option Jvm.ClassFile.FieldType)) ∈ SW := zq 803 (by decide +kernel) (by decide +kernel)
theorem q804 : (Jvm.Cond.methodLink "HallDiary$LetText" (20 : Nat) ({ cls := "HallDiary$LetText", name := "isFull", desc := "()Z" } : Jvm.MethodName)) ∈ SW := zq 804 (by decide +kernel) (by decide +kernel)
theorem q805 : (Jvm.Cond.methodLink "HallDiaryLaw" (126 : Nat) ({ cls := "HallDiaryLaw", name := "lets", desc := "(LHallDiary;[J)I" } : Jvm.MethodName)) ∈ SW := zq 805 (by decide +kernel) (by decide +kernel)
theorem q806 : (Jvm.Cond.static ({ cls := "HallDiaryLaw", name := "lets", desc := "(LHallDiary;[J)I" } : Jvm.MethodName)) ∈ SW := zq 806 (by decide +kernel) (by decide +kernel)
theorem q807 : (Jvm.Cond.codeWith ({ cls := "HallDiaryLaw", name := "lets", desc := "(LHallDiary;[J)I" } : Jvm.MethodName) method_10_code (3 : Nat) (Option.some Jvm.ClassFile.FieldType.int) [((0 : Nat), (8 : Nat), (11 : Nat), (15 : Nat))]) ∈ SW := zq 807 (by decide +kernel) (by decide +kernel)
theorem q808 : (Jvm.Cond.methodLink "HallDiaryLaw" (40 : Nat) ({ cls := "HallDiary", name := "lets", desc := "()I" } : Jvm.MethodName)) ∈ SW := zq 808 (by decide +kernel) (by decide +kernel)
theorem q809 : (Jvm.Cond.instanceMethod ({ cls := "HallDiary", name := "lets", desc := "()I" } : Jvm.MethodName)) ∈ SW := zq 809 (by decide +kernel) (by decide +kernel)
theorem q810 : (Jvm.Cond.selects "HallDiary" ({ cls := "HallDiary", name := "lets", desc := "()I" } : Jvm.MethodName) ({ cls := "HallDiary", name := "lets", desc := "()I" } : Jvm.MethodName)) ∈ SW := zq 810 (by decide +kernel) (by decide +kernel)
theorem q811 : (Jvm.Cond.code ({ cls := "HallDiary", name := "lets", desc := "()I" } : Jvm.MethodName) prog_1_method_11_code (3 : Nat) (Option.some Jvm.ClassFile.FieldType.int)) ∈ SW := zq 811 (by decide +kernel) (by decide +kernel)
theorem q812 : (Jvm.Cond.methodLink "HallDiary" (177 : Nat) ({ cls := "HallDiary$LetText", name := "isComplete", desc := "()Z" } : Jvm.MethodName)) ∈ SW := zq 812 (by decide +kernel) (by decide +kernel)
theorem q813 : (Jvm.Cond.instanceMethod ({ cls := "HallDiary$LetText", name := "isComplete", desc := "()Z" } : Jvm.MethodName)) ∈ SW := zq 813 (by decide +kernel) (by decide +kernel)
theorem q814 : (Jvm.Cond.selects "HallDiary$LetText" ({ cls := "HallDiary$LetText", name := "isComplete", desc := "()Z" } : Jvm.MethodName) ({ cls := "HallDiary$LetText", name := "isComplete", desc := "()Z" } : Jvm.MethodName)) ∈ SW := zq 814 (by decide +kernel) (by decide +kernel)
theorem q815 : (Jvm.Cond.code ({ cls := "HallDiary$LetText", name := "isComplete", desc := "()Z" } : Jvm.MethodName) prog_4_method_6_code (1 : Nat) (Option.some Jvm.ClassFile.FieldType.boolean)) ∈ SW := zq 815 (by decide +kernel) (by decide +kernel)
theorem q816 : (Jvm.Cond.methodLink "HallDiary$LetText" (37 : Nat) ({ cls := "HallDiary$LetText", name := "firstBadIndex", desc := "()I" } : Jvm.MethodName)) ∈ SW := zq 816 (by decide +kernel) (by decide +kernel)
theorem q817 : (Jvm.Cond.methodLink "HallDiary" (180 : Nat) ({ cls := "HallDiary$LetText", name := "startReading", desc := "()V" } : Jvm.MethodName)) ∈ SW := zq 817 (by decide +kernel) (by decide +kernel)
theorem q818 : (Jvm.Cond.methodLink "HallDiary" (186 : Nat) ({ cls := "HallDiary$LetText", name := "accepts", desc := "(I)Z" } : Jvm.MethodName)) ∈ SW := zq 818 (by decide +kernel) (by decide +kernel)
theorem q819 : (Jvm.Cond.methodLink "HallDiary" (189 : Nat) ({ cls := "HallDiary$LetText", name := "endsPart", desc := "(I)Z" } : Jvm.MethodName)) ∈ SW := zq 819 (by decide +kernel) (by decide +kernel)
theorem q820 : (Jvm.Cond.instanceMethod ({ cls := "HallDiary$LetText", name := "endsPart", desc := "(I)Z" } : Jvm.MethodName)) ∈ SW := zq 820 (by decide +kernel) (by decide +kernel)
theorem q821 : (Jvm.Cond.selects "HallDiary$LetText" ({ cls := "HallDiary$LetText", name := "endsPart", desc := "(I)Z" } : Jvm.MethodName) ({ cls := "HallDiary$LetText", name := "endsPart", desc := "(I)Z" } : Jvm.MethodName)) ∈ SW := zq 821 (by decide +kernel) (by decide +kernel)
theorem q822 : (Jvm.Cond.code ({ cls := "HallDiary$LetText", name := "endsPart", desc := "(I)Z" } : Jvm.MethodName) prog_4_method_7_code (3 : Nat) (Option.some Jvm.ClassFile.FieldType.boolean)) ∈ SW := zq 822 (by decide +kernel) (by decide +kernel)
theorem q823 : (Jvm.Cond.methodLink "HallDiary" (195 : Nat) ({ cls := "HallDiary", name := "makesPart", desc := "([I)Z" } : Jvm.MethodName)) ∈ SW := zq 823 (by decide +kernel) (by decide +kernel)
theorem n824 : (Jvm.Cond.privateMethod ({ cls := "HallDiary", name := "makesPart", desc := "([I)Z" } : Jvm.MethodName)) ∈ lw_tbl := List.mem_of_getElem? (i := 824) (by decide +kernel)
theorem q825 : (Jvm.Cond.instanceMethod ({ cls := "HallDiary", name := "makesPart", desc := "([I)Z" } : Jvm.MethodName)) ∈ SW := zq 825 (by decide +kernel) (by decide +kernel)
theorem q826 : (Jvm.Cond.code ({ cls := "HallDiary", name := "makesPart", desc := "([I)Z" } : Jvm.MethodName) prog_1_method_44_code (3 : Nat) (Option.some Jvm.ClassFile.FieldType.boolean)) ∈ SW := zq 826 (by decide +kernel) (by decide +kernel)
theorem q827 : (Jvm.Cond.methodLink "HallDiaryLaw" (130 : Nat) ({ cls := "HallDiaryLaw", name := "undo", desc := "(LHallDiary;[J)I" } : Jvm.MethodName)) ∈ SW := zq 827 (by decide +kernel) (by decide +kernel)
theorem q828 : (Jvm.Cond.static ({ cls := "HallDiaryLaw", name := "undo", desc := "(LHallDiary;[J)I" } : Jvm.MethodName)) ∈ SW := zq 828 (by decide +kernel) (by decide +kernel)
theorem q829 : (Jvm.Cond.codeWith ({ cls := "HallDiaryLaw", name := "undo", desc := "(LHallDiary;[J)I" } : Jvm.MethodName) method_11_code (3 : Nat) (Option.some Jvm.ClassFile.FieldType.int) [((0 : Nat), (8 : Nat), (11 : Nat), (17 : Nat))]) ∈ SW := zq 829 (by decide +kernel) (by decide +kernel)
theorem q830 : (Jvm.Cond.methodLink "HallDiaryLaw" (44 : Nat) ({ cls := "HallDiary", name := "undo", desc := "()I" } : Jvm.MethodName)) ∈ SW := zq 830 (by decide +kernel) (by decide +kernel)
theorem q831 : (Jvm.Cond.instanceMethod ({ cls := "HallDiary", name := "undo", desc := "()I" } : Jvm.MethodName)) ∈ SW := zq 831 (by decide +kernel) (by decide +kernel)
theorem q832 : (Jvm.Cond.selects "HallDiary" ({ cls := "HallDiary", name := "undo", desc := "()I" } : Jvm.MethodName) ({ cls := "HallDiary", name := "undo", desc := "()I" } : Jvm.MethodName)) ∈ SW := zq 832 (by decide +kernel) (by decide +kernel)
theorem q833 : (Jvm.Cond.code ({ cls := "HallDiary", name := "undo", desc := "()I" } : Jvm.MethodName) prog_1_method_12_code (1 : Nat) (Option.some Jvm.ClassFile.FieldType.int)) ∈ SW := zq 833 (by decide +kernel) (by decide +kernel)
theorem n834 : (Jvm.Cond.stringRef "HallDiary" (202 : Nat) "no state is saved") ∈ lw_tbl := List.mem_of_getElem? (i := 834) (by decide +kernel)
theorem q835 : (Jvm.Cond.methodLink "HallDiaryLaw" (137 : Nat) ({ cls := "HallDiaryLaw", name := "restore", desc := "(LHallDiary;[J)I" } : Jvm.MethodName)) ∈ SW := zq 835 (by decide +kernel) (by decide +kernel)
theorem q836 : (Jvm.Cond.static ({ cls := "HallDiaryLaw", name := "restore", desc := "(LHallDiary;[J)I" } : Jvm.MethodName)) ∈ SW := zq 836 (by decide +kernel) (by decide +kernel)
theorem q837 : (Jvm.Cond.codeWith ({ cls := "HallDiaryLaw", name := "restore", desc := "(LHallDiary;[J)I" } : Jvm.MethodName) method_12_code (3 : Nat) (Option.some Jvm.ClassFile.FieldType.int) [((0 : Nat), (8 : Nat), (11 : Nat), (17 : Nat))]) ∈ SW := zq 837 (by decide +kernel) (by decide +kernel)
theorem q838 : (Jvm.Cond.methodLink "HallDiaryLaw" (47 : Nat) ({ cls := "HallDiary", name := "restore", desc := "()I" } : Jvm.MethodName)) ∈ SW := zq 838 (by decide +kernel) (by decide +kernel)
theorem q839 : (Jvm.Cond.instanceMethod ({ cls := "HallDiary", name := "restore", desc := "()I" } : Jvm.MethodName)) ∈ SW := zq 839 (by decide +kernel) (by decide +kernel)
theorem q840 : (Jvm.Cond.selects "HallDiary" ({ cls := "HallDiary", name := "restore", desc := "()I" } : Jvm.MethodName) ({ cls := "HallDiary", name := "restore", desc := "()I" } : Jvm.MethodName)) ∈ SW := zq 840 (by decide +kernel) (by decide +kernel)
theorem q841 : (Jvm.Cond.code ({ cls := "HallDiary", name := "restore", desc := "()I" } : Jvm.MethodName) prog_1_method_14_code (1 : Nat) (Option.some Jvm.ClassFile.FieldType.int)) ∈ SW := zq 841 (by decide +kernel) (by decide +kernel)
theorem n842 : (Jvm.Cond.stringRef "HallDiary" (215 : Nat) "there is no snapshot") ∈ lw_tbl := List.mem_of_getElem? (i := 842) (by decide +kernel)
theorem q843 : (Jvm.Cond.methodLink "HallDiaryLaw" (140 : Nat) ({ cls := "HallDiaryLaw", name := "regularOf", desc := "(LHallDiary;II[J)I" } : Jvm.MethodName)) ∈ SW := zq 843 (by decide +kernel) (by decide +kernel)
theorem q844 : (Jvm.Cond.static ({ cls := "HallDiaryLaw", name := "regularOf", desc := "(LHallDiary;II[J)I" } : Jvm.MethodName)) ∈ SW := zq 844 (by decide +kernel) (by decide +kernel)
theorem q845 : (Jvm.Cond.codeWith ({ cls := "HallDiaryLaw", name := "regularOf", desc := "(LHallDiary;II[J)I" } : Jvm.MethodName) method_13_code (5 : Nat) (Option.some Jvm.ClassFile.FieldType.int) [((0 : Nat), (10 : Nat), (13 : Nat), (13 : Nat)), ((0 : Nat), (10 : Nat), (17 : Nat), (15 : Nat))]) ∈ SW := zq 845 (by decide +kernel) (by decide +kernel)
theorem q846 : (Jvm.Cond.methodLink "HallDiaryLaw" (50 : Nat) ({ cls := "HallDiary", name := "regularOf", desc := "(II)I" } : Jvm.MethodName)) ∈ SW := zq 846 (by decide +kernel) (by decide +kernel)
theorem q847 : (Jvm.Cond.methodLink "HallDiaryLaw" (143 : Nat) ({ cls := "HallDiaryLaw", name := "singleOf", desc := "(LHallDiary;II[J)I" } : Jvm.MethodName)) ∈ SW := zq 847 (by decide +kernel) (by decide +kernel)
theorem q848 : (Jvm.Cond.static ({ cls := "HallDiaryLaw", name := "singleOf", desc := "(LHallDiary;II[J)I" } : Jvm.MethodName)) ∈ SW := zq 848 (by decide +kernel) (by decide +kernel)
theorem q849 : (Jvm.Cond.codeWith ({ cls := "HallDiaryLaw", name := "singleOf", desc := "(LHallDiary;II[J)I" } : Jvm.MethodName) method_14_code (5 : Nat) (Option.some Jvm.ClassFile.FieldType.int) [((0 : Nat), (10 : Nat), (13 : Nat), (13 : Nat)), ((0 : Nat), (10 : Nat), (17 : Nat), (15 : Nat))]) ∈ SW := zq 849 (by decide +kernel) (by decide +kernel)
theorem q850 : (Jvm.Cond.methodLink "HallDiaryLaw" (53 : Nat) ({ cls := "HallDiary", name := "singleOf", desc := "(II)I" } : Jvm.MethodName)) ∈ SW := zq 850 (by decide +kernel) (by decide +kernel)
theorem q851 : (Jvm.Cond.methodLink "HallDiaryLaw" (146 : Nat) ({ cls := "HallDiaryLaw", name := "who", desc := "(LHallDiary;III[J)I" } : Jvm.MethodName)) ∈ SW := zq 851 (by decide +kernel) (by decide +kernel)
theorem q852 : (Jvm.Cond.static ({ cls := "HallDiaryLaw", name := "who", desc := "(LHallDiary;III[J)I" } : Jvm.MethodName)) ∈ SW := zq 852 (by decide +kernel) (by decide +kernel)
theorem q853 : (Jvm.Cond.codeWith ({ cls := "HallDiaryLaw", name := "who", desc := "(LHallDiary;III[J)I" } : Jvm.MethodName) method_15_code (6 : Nat) (Option.some Jvm.ClassFile.FieldType.int) [((0 : Nat), (12 : Nat), (15 : Nat), (13 : Nat)), ((0 : Nat), (12 : Nat), (19 : Nat), (15 : Nat))]) ∈ SW := zq 853 (by decide +kernel) (by decide +kernel)
theorem q854 : (Jvm.Cond.methodLink "HallDiaryLaw" (56 : Nat) ({ cls := "HallDiary", name := "who", desc := "(III)I" } : Jvm.MethodName)) ∈ SW := zq 854 (by decide +kernel) (by decide +kernel)
theorem q855 : (Jvm.Cond.instanceMethod ({ cls := "HallDiary", name := "who", desc := "(III)I" } : Jvm.MethodName)) ∈ SW := zq 855 (by decide +kernel) (by decide +kernel)
theorem q856 : (Jvm.Cond.selects "HallDiary" ({ cls := "HallDiary", name := "who", desc := "(III)I" } : Jvm.MethodName) ({ cls := "HallDiary", name := "who", desc := "(III)I" } : Jvm.MethodName)) ∈ SW := zq 856 (by decide +kernel) (by decide +kernel)
theorem q857 : (Jvm.Cond.code ({ cls := "HallDiary", name := "who", desc := "(III)I" } : Jvm.MethodName) prog_1_method_17_code (4 : Nat) (Option.some Jvm.ClassFile.FieldType.int)) ∈ SW := zq 857 (by decide +kernel) (by decide +kernel)
theorem q858 : (Jvm.Cond.methodLink "HallDiary" (237 : Nat) ({ cls := "HallDiary$DayPlan", name := "tenantAt", desc := "(II)I" } : Jvm.MethodName)) ∈ SW := zq 858 (by decide +kernel) (by decide +kernel)
theorem q859 : (Jvm.Cond.methodLink "HallDiaryLaw" (150 : Nat) ({ cls := "HallDiaryLaw", name := "hallOf", desc := "(LHallDiary;III[J)I" } : Jvm.MethodName)) ∈ SW := zq 859 (by decide +kernel) (by decide +kernel)
theorem q860 : (Jvm.Cond.static ({ cls := "HallDiaryLaw", name := "hallOf", desc := "(LHallDiary;III[J)I" } : Jvm.MethodName)) ∈ SW := zq 860 (by decide +kernel) (by decide +kernel)
theorem q861 : (Jvm.Cond.codeWith ({ cls := "HallDiaryLaw", name := "hallOf", desc := "(LHallDiary;III[J)I" } : Jvm.MethodName) method_16_code (6 : Nat) (Option.some Jvm.ClassFile.FieldType.int) [((0 : Nat), (12 : Nat), (15 : Nat), (13 : Nat)), ((0 : Nat), (12 : Nat), (19 : Nat), (15 : Nat))]) ∈ SW := zq 861 (by decide +kernel) (by decide +kernel)
theorem q862 : (Jvm.Cond.methodLink "HallDiaryLaw" (60 : Nat) ({ cls := "HallDiary", name := "hallOf", desc := "(III)I" } : Jvm.MethodName)) ∈ SW := zq 862 (by decide +kernel) (by decide +kernel)
theorem q863 : (Jvm.Cond.methodLink "HallDiaryLaw" (153 : Nat) ({ cls := "HallDiaryLaw", name := "tenant", desc := "(LHallDiary;II[J)I" } : Jvm.MethodName)) ∈ SW := zq 863 (by decide +kernel) (by decide +kernel)
theorem q864 : (Jvm.Cond.static ({ cls := "HallDiaryLaw", name := "tenant", desc := "(LHallDiary;II[J)I" } : Jvm.MethodName)) ∈ SW := zq 864 (by decide +kernel) (by decide +kernel)
theorem q865 : (Jvm.Cond.codeWith ({ cls := "HallDiaryLaw", name := "tenant", desc := "(LHallDiary;II[J)I" } : Jvm.MethodName) method_17_code (5 : Nat) (Option.some Jvm.ClassFile.FieldType.int) [((0 : Nat), (10 : Nat), (13 : Nat), (13 : Nat)), ((0 : Nat), (10 : Nat), (17 : Nat), (15 : Nat))]) ∈ SW := zq 865 (by decide +kernel) (by decide +kernel)
theorem q866 : (Jvm.Cond.methodLink "HallDiaryLaw" (63 : Nat) ({ cls := "HallDiary", name := "tenant", desc := "(II)I" } : Jvm.MethodName)) ∈ SW := zq 866 (by decide +kernel) (by decide +kernel)
theorem q867 : (Jvm.Cond.methodLink "HallDiaryLaw" (156 : Nat) ({ cls := "HallDiaryLaw", name := "count", desc := "(LHallDiary;I[J)I" } : Jvm.MethodName)) ∈ SW := zq 867 (by decide +kernel) (by decide +kernel)
theorem q868 : (Jvm.Cond.static ({ cls := "HallDiaryLaw", name := "count", desc := "(LHallDiary;I[J)I" } : Jvm.MethodName)) ∈ SW := zq 868 (by decide +kernel) (by decide +kernel)
theorem q869 : (Jvm.Cond.codeWith ({ cls := "HallDiaryLaw", name := "count", desc := "(LHallDiary;I[J)I" } : Jvm.MethodName) method_18_code (4 : Nat) (Option.some Jvm.ClassFile.FieldType.int) [((0 : Nat), (9 : Nat), (12 : Nat), (15 : Nat))]) ∈ SW := zq 869 (by decide +kernel) (by decide +kernel)
theorem q870 : (Jvm.Cond.methodLink "HallDiaryLaw" (66 : Nat) ({ cls := "HallDiary", name := "count", desc := "(I)I" } : Jvm.MethodName)) ∈ SW := zq 870 (by decide +kernel) (by decide +kernel)
theorem q871 : (Jvm.Cond.methodLink "HallDiaryLaw" (159 : Nat) ({ cls := "HallDiaryLaw", name := "refusal", desc := "(LHallDiary;IIIII[J)I" } : Jvm.MethodName)) ∈ SW := zq 871 (by decide +kernel) (by decide +kernel)
theorem q872 : (Jvm.Cond.static ({ cls := "HallDiaryLaw", name := "refusal", desc := "(LHallDiary;IIIII[J)I" } : Jvm.MethodName)) ∈ SW := zq 872 (by decide +kernel) (by decide +kernel)
theorem q873 : (Jvm.Cond.codeWith ({ cls := "HallDiaryLaw", name := "refusal", desc := "(LHallDiary;IIIII[J)I" } : Jvm.MethodName) method_19_code (8 : Nat) (Option.some Jvm.ClassFile.FieldType.int) [((0 : Nat), (16 : Nat), (19 : Nat), (13 : Nat)), ((0 : Nat), (16 : Nat), (23 : Nat), (15 : Nat))]) ∈ SW := zq 873 (by decide +kernel) (by decide +kernel)
theorem q874 : (Jvm.Cond.methodLink "HallDiaryLaw" (69 : Nat) ({ cls := "HallDiary", name := "refusal", desc := "(IIIII)I" } : Jvm.MethodName)) ∈ SW := zq 874 (by decide +kernel) (by decide +kernel)
theorem q875 : (Jvm.Cond.methodLink "HallDiaryLaw" (163 : Nat) ({ cls := "HallDiaryLaw", name := "price", desc := "(LHallDiary;IIII[J)I" } : Jvm.MethodName)) ∈ SW := zq 875 (by decide +kernel) (by decide +kernel)
theorem q876 : (Jvm.Cond.static ({ cls := "HallDiaryLaw", name := "price", desc := "(LHallDiary;IIII[J)I" } : Jvm.MethodName)) ∈ SW := zq 876 (by decide +kernel) (by decide +kernel)
theorem q877 : (Jvm.Cond.codeWith ({ cls := "HallDiaryLaw", name := "price", desc := "(LHallDiary;IIII[J)I" } : Jvm.MethodName) method_20_code (7 : Nat) (Option.some Jvm.ClassFile.FieldType.int) [((0 : Nat), (14 : Nat), (17 : Nat), (13 : Nat)), ((0 : Nat), (14 : Nat), (21 : Nat), (15 : Nat))]) ∈ SW := zq 877 (by decide +kernel) (by decide +kernel)
theorem q878 : (Jvm.Cond.methodLink "HallDiaryLaw" (73 : Nat) ({ cls := "HallDiary", name := "price", desc := "(IIII)I" } : Jvm.MethodName)) ∈ SW := zq 878 (by decide +kernel) (by decide +kernel)
theorem q879 : (Jvm.Cond.methodLink "HallDiaryLaw" (167 : Nat) ({ cls := "HallDiaryLaw", name := "nextFree", desc := "(LHallDiary;III[J)I" } : Jvm.MethodName)) ∈ SW := zq 879 (by decide +kernel) (by decide +kernel)
theorem q880 : (Jvm.Cond.static ({ cls := "HallDiaryLaw", name := "nextFree", desc := "(LHallDiary;III[J)I" } : Jvm.MethodName)) ∈ SW := zq 880 (by decide +kernel) (by decide +kernel)
theorem q881 : (Jvm.Cond.codeWith ({ cls := "HallDiaryLaw", name := "nextFree", desc := "(LHallDiary;III[J)I" } : Jvm.MethodName) method_21_code (6 : Nat) (Option.some Jvm.ClassFile.FieldType.int) [((0 : Nat), (12 : Nat), (15 : Nat), (13 : Nat)), ((0 : Nat), (12 : Nat), (19 : Nat), (15 : Nat))]) ∈ SW := zq 881 (by decide +kernel) (by decide +kernel)
theorem q882 : (Jvm.Cond.methodLink "HallDiaryLaw" (77 : Nat) ({ cls := "HallDiary", name := "nextFree", desc := "(III)I" } : Jvm.MethodName)) ∈ SW := zq 882 (by decide +kernel) (by decide +kernel)
theorem q883 : (Jvm.Cond.methodLink "HallDiaryLaw" (174 : Nat) ({ cls := "HallDiaryLaw", name := "fullness", desc := "(LHallDiary;I[D)I" } : Jvm.MethodName)) ∈ SW := zq 883 (by decide +kernel) (by decide +kernel)
theorem q884 : (Jvm.Cond.static ({ cls := "HallDiaryLaw", name := "fullness", desc := "(LHallDiary;I[D)I" } : Jvm.MethodName)) ∈ SW := zq 884 (by decide +kernel) (by decide +kernel)
theorem q885 : (Jvm.Cond.codeWith ({ cls := "HallDiaryLaw", name := "fullness", desc := "(LHallDiary;I[D)I" } : Jvm.MethodName) method_22_code (4 : Nat) (Option.some Jvm.ClassFile.FieldType.int) [((0 : Nat), (8 : Nat), (11 : Nat), (13 : Nat))]) ∈ SW := zq 885 (by decide +kernel) (by decide +kernel)
theorem q886 : (Jvm.Cond.methodLink "HallDiaryLaw" (80 : Nat) ({ cls := "HallDiary", name := "fullness", desc := "(I)D" } : Jvm.MethodName)) ∈ SW := zq 886 (by decide +kernel) (by decide +kernel)
theorem q887 : (Jvm.Cond.classLink "HallDiaryLaw" (85 : Nat) "HallDiaryModel") ∈ SW := zq 887 (by decide +kernel) (by decide +kernel)
theorem q888 : (Jvm.Cond.instantiable "HallDiaryModel" (19 : Nat)) ∈ SW := zq 888 (by decide +kernel) (by decide +kernel)
theorem q889 : (Jvm.Cond.methodLink "HallDiaryLaw" (87 : Nat) ({ cls := "HallDiaryModel", name := "<init>", desc := "()V" } : Jvm.MethodName)) ∈ SW := zq 889 (by decide +kernel) (by decide +kernel)
theorem q890 : (Jvm.Cond.instanceMethod ({ cls := "HallDiaryModel", name := "<init>", desc := "()V" } : Jvm.MethodName)) ∈ SW := zq 890 (by decide +kernel) (by decide +kernel)
theorem q891 : (Jvm.Cond.code ({ cls := "HallDiaryModel", name := "<init>", desc := "()V" } : Jvm.MethodName) prog_8_method_1_code (1 : Nat) (Option.none : Option Jvm.ClassFile.FieldType)) ∈ SW := zq 891 (by decide +kernel) (by decide +kernel)
theorem q892 : (Jvm.Cond.methodLink "HallDiaryModel" (1 : Nat) ({ cls := "java/lang/Object", name := "<init>", desc := "()V" } : Jvm.MethodName)) ∈ SW := zq 892 (by decide +kernel) (by decide +kernel)
theorem q893 : (Jvm.Cond.fieldLink "HallDiaryModel" (7 : Nat) "HallDiaryModel" "row" "[I") ∈ SW := zq 893 (by decide +kernel) (by decide +kernel)
theorem q894 : (Jvm.Cond.fieldLink "HallDiaryModel" (13 : Nat) "HallDiaryModel" "saved" "[I") ∈ SW := zq 894 (by decide +kernel) (by decide +kernel)
theorem q895 : (Jvm.Cond.fieldLink "HallDiaryModel" (45 : Nat) "HallDiaryModel" "savedMany" "I") ∈ SW := zq 895 (by decide +kernel) (by decide +kernel)
theorem q896 : (Jvm.Cond.fieldLink "HallDiaryModel" (16 : Nat) "HallDiaryModel" "snapshot" "[I") ∈ SW := zq 896 (by decide +kernel) (by decide +kernel)
theorem q897 : (Jvm.Cond.fieldLink "HallDiaryModel" (52 : Nat) "HallDiaryModel" "isKept" "Z") ∈ SW := zq 897 (by decide +kernel) (by decide +kernel)
theorem q898 : (Jvm.Cond.fieldLink "HallDiaryModel" (37 : Nat) "HallDiaryModel" "thrown" "I") ∈ SW := zq 898 (by decide +kernel) (by decide +kernel)
theorem q899 : (Jvm.Cond.fieldLink "HallDiaryModel" (19 : Nat) "HallDiaryModel" "at" "[I") ∈ SW := zq 899 (by decide +kernel) (by decide +kernel)
theorem q900 : (Jvm.Cond.fieldLink "HallDiaryModel" (67 : Nat) "HallDiaryModel" "many" "I") ∈ SW := zq 900 (by decide +kernel) (by decide +kernel)
theorem q901 : (Jvm.Cond.fieldLink "HallDiaryModel" (22 : Nat) "HallDiaryModel" "cleanHall" "[I") ∈ SW := zq 901 (by decide +kernel) (by decide +kernel)
theorem q902 : (Jvm.Cond.fieldLink "HallDiaryModel" (25 : Nat) "HallDiaryModel" "cleanFrom" "[I") ∈ SW := zq 902 (by decide +kernel) (by decide +kernel)
theorem q903 : (Jvm.Cond.fieldLink "HallDiaryModel" (28 : Nat) "HallDiaryModel" "cleanTo" "[I") ∈ SW := zq 903 (by decide +kernel) (by decide +kernel)
theorem q904 : (Jvm.Cond.fieldLink "HallDiaryModel" (77 : Nat) "HallDiaryModel" "cleans" "I") ∈ SW := zq 904 (by decide +kernel) (by decide +kernel)
theorem q905 : (Jvm.Cond.fieldLink "HallDiaryModel" (31 : Nat) "HallDiaryModel" "buffer" "[I") ∈ SW := zq 905 (by decide +kernel) (by decide +kernel)
theorem q906 : (Jvm.Cond.fieldLink "HallDiaryModel" (170 : Nat) "HallDiaryModel" "length" "I") ∈ SW := zq 906 (by decide +kernel) (by decide +kernel)
theorem q907 : (Jvm.Cond.fieldLink "HallDiaryModel" (173 : Nat) "HallDiaryModel" "spot" "I") ∈ SW := zq 907 (by decide +kernel) (by decide +kernel)
theorem q908 : (Jvm.Cond.fieldLink "HallDiaryModel" (179 : Nat) "HallDiaryModel" "number" "I") ∈ SW := zq 908 (by decide +kernel) (by decide +kernel)
theorem q909 : (Jvm.Cond.fieldLink "HallDiaryModel" (182 : Nat) "HallDiaryModel" "parts" "I") ∈ SW := zq 909 (by decide +kernel) (by decide +kernel)
theorem q910 : (Jvm.Cond.fieldLink "HallDiaryModel" (34 : Nat) "HallDiaryModel" "part" "[I") ∈ SW := zq 910 (by decide +kernel) (by decide +kernel)
theorem q911 : (Jvm.Cond.fieldLink "HallDiaryModel" (238 : Nat) "HallDiaryModel" "hash" "J") ∈ SW := zq 911 (by decide +kernel) (by decide +kernel)
theorem q912 : (Jvm.Cond.laysFinal "HallDiaryModel" "HallDiaryModel" "row" "[I") ∈ SW := zq 912 (by decide +kernel) (by decide +kernel)
theorem n913 : (Jvm.Cond.soleField "HallDiaryModel" "row") ∈ lw_tbl := List.mem_of_getElem? (i := 913) (by decide +kernel)
theorem q914 : (Jvm.Cond.laysFinal "HallDiaryModel" "HallDiaryModel" "saved" "[I") ∈ SW := zq 914 (by decide +kernel) (by decide +kernel)
theorem n915 : (Jvm.Cond.soleField "HallDiaryModel" "saved") ∈ lw_tbl := List.mem_of_getElem? (i := 915) (by decide +kernel)
theorem q916 : (Jvm.Cond.lays "HallDiaryModel" "HallDiaryModel" "savedMany" "I") ∈ SW := zq 916 (by decide +kernel) (by decide +kernel)
theorem n917 : (Jvm.Cond.soleField "HallDiaryModel" "savedMany") ∈ lw_tbl := List.mem_of_getElem? (i := 917) (by decide +kernel)
theorem q918 : (Jvm.Cond.laysFinal "HallDiaryModel" "HallDiaryModel" "snapshot" "[I") ∈ SW := zq 918 (by decide +kernel) (by decide +kernel)
theorem n919 : (Jvm.Cond.soleField "HallDiaryModel" "snapshot") ∈ lw_tbl := List.mem_of_getElem? (i := 919) (by decide +kernel)
theorem q920 : (Jvm.Cond.lays "HallDiaryModel" "HallDiaryModel" "isKept" "Z") ∈ SW := zq 920 (by decide +kernel) (by decide +kernel)
theorem n921 : (Jvm.Cond.soleField "HallDiaryModel" "isKept") ∈ lw_tbl := List.mem_of_getElem? (i := 921) (by decide +kernel)
theorem q922 : (Jvm.Cond.lays "HallDiaryModel" "HallDiaryModel" "thrown" "I") ∈ SW := zq 922 (by decide +kernel) (by decide +kernel)
theorem n923 : (Jvm.Cond.soleField "HallDiaryModel" "thrown") ∈ lw_tbl := List.mem_of_getElem? (i := 923) (by decide +kernel)
theorem q924 : (Jvm.Cond.laysFinal "HallDiaryModel" "HallDiaryModel" "at" "[I") ∈ SW := zq 924 (by decide +kernel) (by decide +kernel)
theorem n925 : (Jvm.Cond.soleField "HallDiaryModel" "at") ∈ lw_tbl := List.mem_of_getElem? (i := 925) (by decide +kernel)
theorem q926 : (Jvm.Cond.lays "HallDiaryModel" "HallDiaryModel" "many" "I") ∈ SW := zq 926 (by decide +kernel) (by decide +kernel)
theorem n927 : (Jvm.Cond.soleField "HallDiaryModel" "many") ∈ lw_tbl := List.mem_of_getElem? (i := 927) (by decide +kernel)
theorem q928 : (Jvm.Cond.laysFinal "HallDiaryModel" "HallDiaryModel" "cleanHall" "[I") ∈ SW := zq 928 (by decide +kernel) (by decide +kernel)
theorem n929 : (Jvm.Cond.soleField "HallDiaryModel" "cleanHall") ∈ lw_tbl := List.mem_of_getElem? (i := 929) (by decide +kernel)
theorem q930 : (Jvm.Cond.laysFinal "HallDiaryModel" "HallDiaryModel" "cleanFrom" "[I") ∈ SW := zq 930 (by decide +kernel) (by decide +kernel)
theorem n931 : (Jvm.Cond.soleField "HallDiaryModel" "cleanFrom") ∈ lw_tbl := List.mem_of_getElem? (i := 931) (by decide +kernel)
theorem q932 : (Jvm.Cond.laysFinal "HallDiaryModel" "HallDiaryModel" "cleanTo" "[I") ∈ SW := zq 932 (by decide +kernel) (by decide +kernel)
theorem n933 : (Jvm.Cond.soleField "HallDiaryModel" "cleanTo") ∈ lw_tbl := List.mem_of_getElem? (i := 933) (by decide +kernel)
theorem q934 : (Jvm.Cond.lays "HallDiaryModel" "HallDiaryModel" "cleans" "I") ∈ SW := zq 934 (by decide +kernel) (by decide +kernel)
theorem n935 : (Jvm.Cond.soleField "HallDiaryModel" "cleans") ∈ lw_tbl := List.mem_of_getElem? (i := 935) (by decide +kernel)
theorem q936 : (Jvm.Cond.laysFinal "HallDiaryModel" "HallDiaryModel" "buffer" "[I") ∈ SW := zq 936 (by decide +kernel) (by decide +kernel)
theorem n937 : (Jvm.Cond.soleField "HallDiaryModel" "buffer") ∈ lw_tbl := List.mem_of_getElem? (i := 937) (by decide +kernel)
theorem q938 : (Jvm.Cond.lays "HallDiaryModel" "HallDiaryModel" "length" "I") ∈ SW := zq 938 (by decide +kernel) (by decide +kernel)
theorem n939 : (Jvm.Cond.soleField "HallDiaryModel" "length") ∈ lw_tbl := List.mem_of_getElem? (i := 939) (by decide +kernel)
theorem q940 : (Jvm.Cond.lays "HallDiaryModel" "HallDiaryModel" "spot" "I") ∈ SW := zq 940 (by decide +kernel) (by decide +kernel)
theorem n941 : (Jvm.Cond.soleField "HallDiaryModel" "spot") ∈ lw_tbl := List.mem_of_getElem? (i := 941) (by decide +kernel)
theorem q942 : (Jvm.Cond.lays "HallDiaryModel" "HallDiaryModel" "number" "I") ∈ SW := zq 942 (by decide +kernel) (by decide +kernel)
theorem n943 : (Jvm.Cond.soleField "HallDiaryModel" "number") ∈ lw_tbl := List.mem_of_getElem? (i := 943) (by decide +kernel)
theorem q944 : (Jvm.Cond.lays "HallDiaryModel" "HallDiaryModel" "parts" "I") ∈ SW := zq 944 (by decide +kernel) (by decide +kernel)
theorem n945 : (Jvm.Cond.soleField "HallDiaryModel" "parts") ∈ lw_tbl := List.mem_of_getElem? (i := 945) (by decide +kernel)
theorem q946 : (Jvm.Cond.laysFinal "HallDiaryModel" "HallDiaryModel" "part" "[I") ∈ SW := zq 946 (by decide +kernel) (by decide +kernel)
theorem n947 : (Jvm.Cond.soleField "HallDiaryModel" "part") ∈ lw_tbl := List.mem_of_getElem? (i := 947) (by decide +kernel)
theorem q948 : (Jvm.Cond.lays "HallDiaryModel" "HallDiaryModel" "hash" "J") ∈ SW := zq 948 (by decide +kernel) (by decide +kernel)
theorem n949 : (Jvm.Cond.soleField "HallDiaryModel" "hash") ∈ lw_tbl := List.mem_of_getElem? (i := 949) (by decide +kernel)
theorem n950 : (Jvm.Cond.superclass "HallDiaryModel" "java/lang/Object") ∈ lw_tbl := List.mem_of_getElem? (i := 950) (by decide +kernel)
theorem q951 : (Jvm.Cond.methodLink "HallDiaryLaw" (94 : Nat) ({ cls := "HallDiaryModel", name := "thrown", desc := "()I" } : Jvm.MethodName)) ∈ SW := zq 951 (by decide +kernel) (by decide +kernel)
theorem q952 : (Jvm.Cond.instanceMethod ({ cls := "HallDiaryModel", name := "thrown", desc := "()I" } : Jvm.MethodName)) ∈ SW := zq 952 (by decide +kernel) (by decide +kernel)
theorem q953 : (Jvm.Cond.selects "HallDiaryModel" ({ cls := "HallDiaryModel", name := "thrown", desc := "()I" } : Jvm.MethodName) ({ cls := "HallDiaryModel", name := "thrown", desc := "()I" } : Jvm.MethodName)) ∈ SW := zq 953 (by decide +kernel) (by decide +kernel)
theorem q954 : (Jvm.Cond.code ({ cls := "HallDiaryModel", name := "thrown", desc := "()I" } : Jvm.MethodName) prog_8_method_2_code (1 : Nat) (Option.some Jvm.ClassFile.FieldType.int)) ∈ SW := zq 954 (by decide +kernel) (by decide +kernel)
theorem q955 : (Jvm.Cond.methodLink "HallDiaryLaw" (132 : Nat) ({ cls := "HallDiaryModel", name := "undo", desc := "()I" } : Jvm.MethodName)) ∈ SW := zq 955 (by decide +kernel) (by decide +kernel)
theorem q956 : (Jvm.Cond.instanceMethod ({ cls := "HallDiaryModel", name := "undo", desc := "()I" } : Jvm.MethodName)) ∈ SW := zq 956 (by decide +kernel) (by decide +kernel)
theorem q957 : (Jvm.Cond.selects "HallDiaryModel" ({ cls := "HallDiaryModel", name := "undo", desc := "()I" } : Jvm.MethodName) ({ cls := "HallDiaryModel", name := "undo", desc := "()I" } : Jvm.MethodName)) ∈ SW := zq 957 (by decide +kernel) (by decide +kernel)
theorem q958 : (Jvm.Cond.code ({ cls := "HallDiaryModel", name := "undo", desc := "()I" } : Jvm.MethodName) prog_8_method_13_code (2 : Nat) (Option.some Jvm.ClassFile.FieldType.int)) ∈ SW := zq 958 (by decide +kernel) (by decide +kernel)
theorem q959 : (Jvm.Cond.methodLink "HallDiaryModel" (48 : Nat) ({ cls := "HallDiaryModel", name := "fails", desc := "(I)I" } : Jvm.MethodName)) ∈ SW := zq 959 (by decide +kernel) (by decide +kernel)
theorem n960 : (Jvm.Cond.privateMethod ({ cls := "HallDiaryModel", name := "fails", desc := "(I)I" } : Jvm.MethodName)) ∈ lw_tbl := List.mem_of_getElem? (i := 960) (by decide +kernel)
theorem q961 : (Jvm.Cond.instanceMethod ({ cls := "HallDiaryModel", name := "fails", desc := "(I)I" } : Jvm.MethodName)) ∈ SW := zq 961 (by decide +kernel) (by decide +kernel)
theorem q962 : (Jvm.Cond.code ({ cls := "HallDiaryModel", name := "fails", desc := "(I)I" } : Jvm.MethodName) prog_8_method_3_code (2 : Nat) (Option.some Jvm.ClassFile.FieldType.int)) ∈ SW := zq 962 (by decide +kernel) (by decide +kernel)
theorem q963 : (Jvm.Cond.methodLink "HallDiaryLaw" (136 : Nat) ({ cls := "HallDiaryModel", name := "keep", desc := "()I" } : Jvm.MethodName)) ∈ SW := zq 963 (by decide +kernel) (by decide +kernel)
theorem q964 : (Jvm.Cond.instanceMethod ({ cls := "HallDiaryModel", name := "keep", desc := "()I" } : Jvm.MethodName)) ∈ SW := zq 964 (by decide +kernel) (by decide +kernel)
theorem q965 : (Jvm.Cond.selects "HallDiaryModel" ({ cls := "HallDiaryModel", name := "keep", desc := "()I" } : Jvm.MethodName) ({ cls := "HallDiaryModel", name := "keep", desc := "()I" } : Jvm.MethodName)) ∈ SW := zq 965 (by decide +kernel) (by decide +kernel)
theorem q966 : (Jvm.Cond.code ({ cls := "HallDiaryModel", name := "keep", desc := "()I" } : Jvm.MethodName) prog_8_method_14_code (2 : Nat) (Option.some Jvm.ClassFile.FieldType.int)) ∈ SW := zq 966 (by decide +kernel) (by decide +kernel)
theorem q967 : (Jvm.Cond.methodLink "HallDiaryModel" (56 : Nat) ({ cls := "HallDiaryModel", name := "allLets", desc := "()I" } : Jvm.MethodName)) ∈ SW := zq 967 (by decide +kernel) (by decide +kernel)
theorem n968 : (Jvm.Cond.privateMethod ({ cls := "HallDiaryModel", name := "allLets", desc := "()I" } : Jvm.MethodName)) ∈ lw_tbl := List.mem_of_getElem? (i := 968) (by decide +kernel)
theorem q969 : (Jvm.Cond.instanceMethod ({ cls := "HallDiaryModel", name := "allLets", desc := "()I" } : Jvm.MethodName)) ∈ SW := zq 969 (by decide +kernel) (by decide +kernel)
theorem q970 : (Jvm.Cond.code ({ cls := "HallDiaryModel", name := "allLets", desc := "()I" } : Jvm.MethodName) prog_8_method_12_code (1 : Nat) (Option.some Jvm.ClassFile.FieldType.int)) ∈ SW := zq 970 (by decide +kernel) (by decide +kernel)
theorem q971 : (Jvm.Cond.methodLink "HallDiaryLaw" (139 : Nat) ({ cls := "HallDiaryModel", name := "restore", desc := "()I" } : Jvm.MethodName)) ∈ SW := zq 971 (by decide +kernel) (by decide +kernel)
theorem q972 : (Jvm.Cond.instanceMethod ({ cls := "HallDiaryModel", name := "restore", desc := "()I" } : Jvm.MethodName)) ∈ SW := zq 972 (by decide +kernel) (by decide +kernel)
theorem q973 : (Jvm.Cond.selects "HallDiaryModel" ({ cls := "HallDiaryModel", name := "restore", desc := "()I" } : Jvm.MethodName) ({ cls := "HallDiaryModel", name := "restore", desc := "()I" } : Jvm.MethodName)) ∈ SW := zq 973 (by decide +kernel) (by decide +kernel)
theorem q974 : (Jvm.Cond.code ({ cls := "HallDiaryModel", name := "restore", desc := "()I" } : Jvm.MethodName) prog_8_method_15_code (2 : Nat) (Option.some Jvm.ClassFile.FieldType.int)) ∈ SW := zq 974 (by decide +kernel) (by decide +kernel)
theorem q975 : (Jvm.Cond.methodLink "HallDiaryModel" (60 : Nat) ({ cls := "HallDiaryModel", name := "save", desc := "()V" } : Jvm.MethodName)) ∈ SW := zq 975 (by decide +kernel) (by decide +kernel)
theorem n976 : (Jvm.Cond.privateMethod ({ cls := "HallDiaryModel", name := "save", desc := "()V" } : Jvm.MethodName)) ∈ lw_tbl := List.mem_of_getElem? (i := 976) (by decide +kernel)
theorem q977 : (Jvm.Cond.instanceMethod ({ cls := "HallDiaryModel", name := "save", desc := "()V" } : Jvm.MethodName)) ∈ SW := zq 977 (by decide +kernel) (by decide +kernel)
theorem q978 : (Jvm.Cond.code ({ cls := "HallDiaryModel", name := "save", desc := "()V" } : Jvm.MethodName) prog_8_method_11_code (2 : Nat) (Option.none : Option Jvm.ClassFile.FieldType)) ∈ SW := zq 978 (by decide +kernel) (by decide +kernel)
theorem q979 : (Jvm.Cond.methodLink "HallDiaryLaw" (99 : Nat) ({ cls := "HallDiaryModel", name := "single", desc := "(IIIIII)I" } : Jvm.MethodName)) ∈ SW := zq 979 (by decide +kernel) (by decide +kernel)
theorem q980 : (Jvm.Cond.instanceMethod ({ cls := "HallDiaryModel", name := "single", desc := "(IIIIII)I" } : Jvm.MethodName)) ∈ SW := zq 980 (by decide +kernel) (by decide +kernel)
theorem q981 : (Jvm.Cond.selects "HallDiaryModel" ({ cls := "HallDiaryModel", name := "single", desc := "(IIIIII)I" } : Jvm.MethodName) ({ cls := "HallDiaryModel", name := "single", desc := "(IIIIII)I" } : Jvm.MethodName)) ∈ SW := zq 981 (by decide +kernel) (by decide +kernel)
theorem q982 : (Jvm.Cond.code ({ cls := "HallDiaryModel", name := "single", desc := "(IIIIII)I" } : Jvm.MethodName) prog_8_method_32_code (7 : Nat) (Option.some Jvm.ClassFile.FieldType.int)) ∈ SW := zq 982 (by decide +kernel) (by decide +kernel)
theorem q983 : (Jvm.Cond.methodLink "HallDiaryModel" (117 : Nat) ({ cls := "HallDiaryModel", name := "isHall", desc := "(I)Z" } : Jvm.MethodName)) ∈ SW := zq 983 (by decide +kernel) (by decide +kernel)
theorem q984 : (Jvm.Cond.static ({ cls := "HallDiaryModel", name := "isHall", desc := "(I)Z" } : Jvm.MethodName)) ∈ SW := zq 984 (by decide +kernel) (by decide +kernel)
theorem q985 : (Jvm.Cond.code ({ cls := "HallDiaryModel", name := "isHall", desc := "(I)Z" } : Jvm.MethodName) prog_8_method_5_code (1 : Nat) (Option.some Jvm.ClassFile.FieldType.boolean)) ∈ SW := zq 985 (by decide +kernel) (by decide +kernel)
theorem q986 : (Jvm.Cond.methodLink "HallDiaryModel" (41 : Nat) ({ cls := "HallDiaryModel", name := "in", desc := "(III)Z" } : Jvm.MethodName)) ∈ SW := zq 986 (by decide +kernel) (by decide +kernel)
theorem q987 : (Jvm.Cond.static ({ cls := "HallDiaryModel", name := "in", desc := "(III)Z" } : Jvm.MethodName)) ∈ SW := zq 987 (by decide +kernel) (by decide +kernel)
theorem q988 : (Jvm.Cond.code ({ cls := "HallDiaryModel", name := "in", desc := "(III)Z" } : Jvm.MethodName) prog_8_method_4_code (3 : Nat) (Option.some Jvm.ClassFile.FieldType.boolean)) ∈ SW := zq 988 (by decide +kernel) (by decide +kernel)
theorem q989 : (Jvm.Cond.methodLink "HallDiaryModel" (121 : Nat) ({ cls := "HallDiaryModel", name := "isDay", desc := "(I)Z" } : Jvm.MethodName)) ∈ SW := zq 989 (by decide +kernel) (by decide +kernel)
theorem q990 : (Jvm.Cond.static ({ cls := "HallDiaryModel", name := "isDay", desc := "(I)Z" } : Jvm.MethodName)) ∈ SW := zq 990 (by decide +kernel) (by decide +kernel)
theorem q991 : (Jvm.Cond.code ({ cls := "HallDiaryModel", name := "isDay", desc := "(I)Z" } : Jvm.MethodName) prog_8_method_6_code (1 : Nat) (Option.some Jvm.ClassFile.FieldType.boolean)) ∈ SW := zq 991 (by decide +kernel) (by decide +kernel)
theorem q992 : (Jvm.Cond.methodLink "HallDiaryModel" (124 : Nat) ({ cls := "HallDiaryModel", name := "areHours", desc := "(II)Z" } : Jvm.MethodName)) ∈ SW := zq 992 (by decide +kernel) (by decide +kernel)
theorem q993 : (Jvm.Cond.static ({ cls := "HallDiaryModel", name := "areHours", desc := "(II)Z" } : Jvm.MethodName)) ∈ SW := zq 993 (by decide +kernel) (by decide +kernel)
theorem q994 : (Jvm.Cond.code ({ cls := "HallDiaryModel", name := "areHours", desc := "(II)Z" } : Jvm.MethodName) prog_8_method_7_code (2 : Nat) (Option.some Jvm.ClassFile.FieldType.boolean)) ∈ SW := zq 994 (by decide +kernel) (by decide +kernel)
theorem q995 : (Jvm.Cond.methodLink "HallDiaryModel" (127 : Nat) ({ cls := "HallDiaryModel", name := "isWho", desc := "(II)Z" } : Jvm.MethodName)) ∈ SW := zq 995 (by decide +kernel) (by decide +kernel)
theorem q996 : (Jvm.Cond.static ({ cls := "HallDiaryModel", name := "isWho", desc := "(II)Z" } : Jvm.MethodName)) ∈ SW := zq 996 (by decide +kernel) (by decide +kernel)
theorem q997 : (Jvm.Cond.code ({ cls := "HallDiaryModel", name := "isWho", desc := "(II)Z" } : Jvm.MethodName) prog_8_method_8_code (2 : Nat) (Option.some Jvm.ClassFile.FieldType.boolean)) ∈ SW := zq 997 (by decide +kernel) (by decide +kernel)
theorem q998 : (Jvm.Cond.methodLink "HallDiaryModel" (130 : Nat) ({ cls := "HallDiaryModel", name := "refusalOf", desc := "(IIIII)I" } : Jvm.MethodName)) ∈ SW := zq 998 (by decide +kernel) (by decide +kernel)
theorem n999 : (Jvm.Cond.privateMethod ({ cls := "HallDiaryModel", name := "refusalOf", desc := "(IIIII)I" } : Jvm.MethodName)) ∈ lw_tbl := List.mem_of_getElem? (i := 999) (by decide +kernel)
theorem q1000 : (Jvm.Cond.instanceMethod ({ cls := "HallDiaryModel", name := "refusalOf", desc := "(IIIII)I" } : Jvm.MethodName)) ∈ SW := zq 1000 (by decide +kernel) (by decide +kernel)
theorem q1001 : (Jvm.Cond.code ({ cls := "HallDiaryModel", name := "refusalOf", desc := "(IIIII)I" } : Jvm.MethodName) prog_8_method_23_code (6 : Nat) (Option.some Jvm.ClassFile.FieldType.int)) ∈ SW := zq 1001 (by decide +kernel) (by decide +kernel)
theorem q1002 : (Jvm.Cond.methodLink "HallDiaryModel" (96 : Nat) ({ cls := "HallDiaryModel", name := "reason", desc := "(IIIII)I" } : Jvm.MethodName)) ∈ SW := zq 1002 (by decide +kernel) (by decide +kernel)
theorem n1003 : (Jvm.Cond.privateMethod ({ cls := "HallDiaryModel", name := "reason", desc := "(IIIII)I" } : Jvm.MethodName)) ∈ lw_tbl := List.mem_of_getElem? (i := 1003) (by decide +kernel)
theorem q1004 : (Jvm.Cond.instanceMethod ({ cls := "HallDiaryModel", name := "reason", desc := "(IIIII)I" } : Jvm.MethodName)) ∈ SW := zq 1004 (by decide +kernel) (by decide +kernel)
theorem q1005 : (Jvm.Cond.code ({ cls := "HallDiaryModel", name := "reason", desc := "(IIIII)I" } : Jvm.MethodName) prog_8_method_22_code (8 : Nat) (Option.some Jvm.ClassFile.FieldType.int)) ∈ SW := zq 1005 (by decide +kernel) (by decide +kernel)
theorem q1006 : (Jvm.Cond.methodLink "HallDiaryModel" (80 : Nat) ({ cls := "HallDiaryModel", name := "look", desc := "(I)V" } : Jvm.MethodName)) ∈ SW := zq 1006 (by decide +kernel) (by decide +kernel)
theorem n1007 : (Jvm.Cond.privateMethod ({ cls := "HallDiaryModel", name := "look", desc := "(I)V" } : Jvm.MethodName)) ∈ lw_tbl := List.mem_of_getElem? (i := 1007) (by decide +kernel)
theorem q1008 : (Jvm.Cond.instanceMethod ({ cls := "HallDiaryModel", name := "look", desc := "(I)V" } : Jvm.MethodName)) ∈ SW := zq 1008 (by decide +kernel) (by decide +kernel)
theorem q1009 : (Jvm.Cond.code ({ cls := "HallDiaryModel", name := "look", desc := "(I)V" } : Jvm.MethodName) prog_8_method_17_code (3 : Nat) (Option.none : Option Jvm.ClassFile.FieldType)) ∈ SW := zq 1009 (by decide +kernel) (by decide +kernel)
theorem q1010 : (Jvm.Cond.methodLink "HallDiaryModel" (70 : Nat) ({ cls := "HallDiaryModel", name := "standsOn", desc := "(II)Z" } : Jvm.MethodName)) ∈ SW := zq 1010 (by decide +kernel) (by decide +kernel)
theorem n1011 : (Jvm.Cond.privateMethod ({ cls := "HallDiaryModel", name := "standsOn", desc := "(II)Z" } : Jvm.MethodName)) ∈ lw_tbl := List.mem_of_getElem? (i := 1011) (by decide +kernel)
theorem q1012 : (Jvm.Cond.instanceMethod ({ cls := "HallDiaryModel", name := "standsOn", desc := "(II)Z" } : Jvm.MethodName)) ∈ SW := zq 1012 (by decide +kernel) (by decide +kernel)
theorem q1013 : (Jvm.Cond.code ({ cls := "HallDiaryModel", name := "standsOn", desc := "(II)Z" } : Jvm.MethodName) prog_8_method_16_code (4 : Nat) (Option.some Jvm.ClassFile.FieldType.boolean)) ∈ SW := zq 1013 (by decide +kernel) (by decide +kernel)
theorem q1014 : (Jvm.Cond.methodLink "HallDiaryModel" (63 : Nat) ({ cls := "HallDiaryModel", name := "weekly", desc := "(II)I" } : Jvm.MethodName)) ∈ SW := zq 1014 (by decide +kernel) (by decide +kernel)
theorem n1015 : (Jvm.Cond.privateMethod ({ cls := "HallDiaryModel", name := "weekly", desc := "(II)I" } : Jvm.MethodName)) ∈ lw_tbl := List.mem_of_getElem? (i := 1015) (by decide +kernel)
theorem q1016 : (Jvm.Cond.instanceMethod ({ cls := "HallDiaryModel", name := "weekly", desc := "(II)I" } : Jvm.MethodName)) ∈ SW := zq 1016 (by decide +kernel) (by decide +kernel)
theorem q1017 : (Jvm.Cond.code ({ cls := "HallDiaryModel", name := "weekly", desc := "(II)I" } : Jvm.MethodName) prog_8_method_9_code (3 : Nat) (Option.some Jvm.ClassFile.FieldType.int)) ∈ SW := zq 1017 (by decide +kernel) (by decide +kernel)
theorem q1018 : (Jvm.Cond.methodLink "HallDiaryModel" (74 : Nat) ({ cls := "HallDiaryModel", name := "dated", desc := "(II)I" } : Jvm.MethodName)) ∈ SW := zq 1018 (by decide +kernel) (by decide +kernel)
theorem n1019 : (Jvm.Cond.privateMethod ({ cls := "HallDiaryModel", name := "dated", desc := "(II)I" } : Jvm.MethodName)) ∈ lw_tbl := List.mem_of_getElem? (i := 1019) (by decide +kernel)
theorem q1020 : (Jvm.Cond.instanceMethod ({ cls := "HallDiaryModel", name := "dated", desc := "(II)I" } : Jvm.MethodName)) ∈ SW := zq 1020 (by decide +kernel) (by decide +kernel)
theorem q1021 : (Jvm.Cond.code ({ cls := "HallDiaryModel", name := "dated", desc := "(II)I" } : Jvm.MethodName) prog_8_method_10_code (3 : Nat) (Option.some Jvm.ClassFile.FieldType.int)) ∈ SW := zq 1021 (by decide +kernel) (by decide +kernel)
theorem q1022 : (Jvm.Cond.methodLink "HallDiaryModel" (84 : Nat) ({ cls := "HallDiaryModel", name := "clashes", desc := "(IIII)Z" } : Jvm.MethodName)) ∈ SW := zq 1022 (by decide +kernel) (by decide +kernel)
theorem n1023 : (Jvm.Cond.privateMethod ({ cls := "HallDiaryModel", name := "clashes", desc := "(IIII)Z" } : Jvm.MethodName)) ∈ lw_tbl := List.mem_of_getElem? (i := 1023) (by decide +kernel)
theorem q1024 : (Jvm.Cond.instanceMethod ({ cls := "HallDiaryModel", name := "clashes", desc := "(IIII)Z" } : Jvm.MethodName)) ∈ SW := zq 1024 (by decide +kernel) (by decide +kernel)
theorem q1025 : (Jvm.Cond.code ({ cls := "HallDiaryModel", name := "clashes", desc := "(IIII)Z" } : Jvm.MethodName) prog_8_method_19_code (5 : Nat) (Option.some Jvm.ClassFile.FieldType.boolean)) ∈ SW := zq 1025 (by decide +kernel) (by decide +kernel)
theorem q1026 : (Jvm.Cond.methodLink "HallDiaryModel" (88 : Nat) ({ cls := "HallDiaryModel", name := "addCleaning", desc := "(III)V" } : Jvm.MethodName)) ∈ SW := zq 1026 (by decide +kernel) (by decide +kernel)
theorem n1027 : (Jvm.Cond.privateMethod ({ cls := "HallDiaryModel", name := "addCleaning", desc := "(III)V" } : Jvm.MethodName)) ∈ lw_tbl := List.mem_of_getElem? (i := 1027) (by decide +kernel)
theorem q1028 : (Jvm.Cond.instanceMethod ({ cls := "HallDiaryModel", name := "addCleaning", desc := "(III)V" } : Jvm.MethodName)) ∈ SW := zq 1028 (by decide +kernel) (by decide +kernel)
theorem q1029 : (Jvm.Cond.code ({ cls := "HallDiaryModel", name := "addCleaning", desc := "(III)V" } : Jvm.MethodName) prog_8_method_20_code (5 : Nat) (Option.none : Option Jvm.ClassFile.FieldType)) ∈ SW := zq 1029 (by decide +kernel) (by decide +kernel)
theorem q1030 : (Jvm.Cond.methodLink "HallDiaryModel" (92 : Nat) ({ cls := "HallDiaryModel", name := "isCleaned", desc := "()Z" } : Jvm.MethodName)) ∈ SW := zq 1030 (by decide +kernel) (by decide +kernel)
theorem n1031 : (Jvm.Cond.privateMethod ({ cls := "HallDiaryModel", name := "isCleaned", desc := "()Z" } : Jvm.MethodName)) ∈ lw_tbl := List.mem_of_getElem? (i := 1031) (by decide +kernel)
theorem q1032 : (Jvm.Cond.instanceMethod ({ cls := "HallDiaryModel", name := "isCleaned", desc := "()Z" } : Jvm.MethodName)) ∈ SW := zq 1032 (by decide +kernel) (by decide +kernel)
theorem q1033 : (Jvm.Cond.code ({ cls := "HallDiaryModel", name := "isCleaned", desc := "()Z" } : Jvm.MethodName) prog_8_method_21_code (5 : Nat) (Option.some Jvm.ClassFile.FieldType.boolean)) ∈ SW := zq 1033 (by decide +kernel) (by decide +kernel)
theorem q1034 : (Jvm.Cond.methodLink "HallDiaryModel" (133 : Nat) ({ cls := "HallDiaryModel", name := "makeSingle", desc := "(IIIIII)I" } : Jvm.MethodName)) ∈ SW := zq 1034 (by decide +kernel) (by decide +kernel)
theorem n1035 : (Jvm.Cond.privateMethod ({ cls := "HallDiaryModel", name := "makeSingle", desc := "(IIIIII)I" } : Jvm.MethodName)) ∈ lw_tbl := List.mem_of_getElem? (i := 1035) (by decide +kernel)
theorem q1036 : (Jvm.Cond.instanceMethod ({ cls := "HallDiaryModel", name := "makeSingle", desc := "(IIIIII)I" } : Jvm.MethodName)) ∈ SW := zq 1036 (by decide +kernel) (by decide +kernel)
theorem q1037 : (Jvm.Cond.code ({ cls := "HallDiaryModel", name := "makeSingle", desc := "(IIIIII)I" } : Jvm.MethodName) prog_8_method_31_code (9 : Nat) (Option.some Jvm.ClassFile.FieldType.int)) ∈ SW := zq 1037 (by decide +kernel) (by decide +kernel)
theorem q1038 : (Jvm.Cond.methodLink "HallDiaryModel" (107 : Nat) ({ cls := "HallDiaryModel", name := "giveWay", desc := "(IIII)I" } : Jvm.MethodName)) ∈ SW := zq 1038 (by decide +kernel) (by decide +kernel)
theorem n1039 : (Jvm.Cond.privateMethod ({ cls := "HallDiaryModel", name := "giveWay", desc := "(IIII)I" } : Jvm.MethodName)) ∈ lw_tbl := List.mem_of_getElem? (i := 1039) (by decide +kernel)
theorem q1040 : (Jvm.Cond.instanceMethod ({ cls := "HallDiaryModel", name := "giveWay", desc := "(IIII)I" } : Jvm.MethodName)) ∈ SW := zq 1040 (by decide +kernel) (by decide +kernel)
theorem q1041 : (Jvm.Cond.code ({ cls := "HallDiaryModel", name := "giveWay", desc := "(IIII)I" } : Jvm.MethodName) prog_8_method_29_code (7 : Nat) (Option.some Jvm.ClassFile.FieldType.int)) ∈ SW := zq 1041 (by decide +kernel) (by decide +kernel)
theorem q1042 : (Jvm.Cond.methodLink "HallDiaryModel" (104 : Nat) ({ cls := "HallDiaryModel", name := "removeSingle", desc := "(I)V" } : Jvm.MethodName)) ∈ SW := zq 1042 (by decide +kernel) (by decide +kernel)
theorem n1043 : (Jvm.Cond.privateMethod ({ cls := "HallDiaryModel", name := "removeSingle", desc := "(I)V" } : Jvm.MethodName)) ∈ lw_tbl := List.mem_of_getElem? (i := 1043) (by decide +kernel)
theorem q1044 : (Jvm.Cond.instanceMethod ({ cls := "HallDiaryModel", name := "removeSingle", desc := "(I)V" } : Jvm.MethodName)) ∈ SW := zq 1044 (by decide +kernel) (by decide +kernel)
theorem q1045 : (Jvm.Cond.code ({ cls := "HallDiaryModel", name := "removeSingle", desc := "(I)V" } : Jvm.MethodName) prog_8_method_27_code (4 : Nat) (Option.none : Option Jvm.ClassFile.FieldType)) ∈ SW := zq 1045 (by decide +kernel) (by decide +kernel)
theorem q1046 : (Jvm.Cond.methodLink "HallDiaryModel" (110 : Nat) ({ cls := "HallDiaryModel", name := "lay", desc := "(IIIIIII)V" } : Jvm.MethodName)) ∈ SW := zq 1046 (by decide +kernel) (by decide +kernel)
theorem n1047 : (Jvm.Cond.privateMethod ({ cls := "HallDiaryModel", name := "lay", desc := "(IIIIIII)V" } : Jvm.MethodName)) ∈ lw_tbl := List.mem_of_getElem? (i := 1047) (by decide +kernel)
theorem q1048 : (Jvm.Cond.instanceMethod ({ cls := "HallDiaryModel", name := "lay", desc := "(IIIIIII)V" } : Jvm.MethodName)) ∈ SW := zq 1048 (by decide +kernel) (by decide +kernel)
theorem q1049 : (Jvm.Cond.code ({ cls := "HallDiaryModel", name := "lay", desc := "(IIIIIII)V" } : Jvm.MethodName) prog_8_method_30_code (8 : Nat) (Option.none : Option Jvm.ClassFile.FieldType)) ∈ SW := zq 1049 (by decide +kernel) (by decide +kernel)
theorem q1050 : (Jvm.Cond.methodLink "HallDiaryModel" (114 : Nat) ({ cls := "HallDiaryModel", name := "singleRent", desc := "(IIII)I" } : Jvm.MethodName)) ∈ SW := zq 1050 (by decide +kernel) (by decide +kernel)
theorem n1051 : (Jvm.Cond.privateMethod ({ cls := "HallDiaryModel", name := "singleRent", desc := "(IIII)I" } : Jvm.MethodName)) ∈ lw_tbl := List.mem_of_getElem? (i := 1051) (by decide +kernel)
theorem q1052 : (Jvm.Cond.instanceMethod ({ cls := "HallDiaryModel", name := "singleRent", desc := "(IIII)I" } : Jvm.MethodName)) ∈ SW := zq 1052 (by decide +kernel) (by decide +kernel)
theorem q1053 : (Jvm.Cond.code ({ cls := "HallDiaryModel", name := "singleRent", desc := "(IIII)I" } : Jvm.MethodName) prog_8_method_25_code (5 : Nat) (Option.some Jvm.ClassFile.FieldType.int)) ∈ SW := zq 1053 (by decide +kernel) (by decide +kernel)
theorem q1054 : (Jvm.Cond.methodLink "HallDiaryModel" (100 : Nat) ({ cls := "HallDiaryModel", name := "rent", desc := "(IIII)I" } : Jvm.MethodName)) ∈ SW := zq 1054 (by decide +kernel) (by decide +kernel)
theorem n1055 : (Jvm.Cond.privateMethod ({ cls := "HallDiaryModel", name := "rent", desc := "(IIII)I" } : Jvm.MethodName)) ∈ lw_tbl := List.mem_of_getElem? (i := 1055) (by decide +kernel)
theorem q1056 : (Jvm.Cond.instanceMethod ({ cls := "HallDiaryModel", name := "rent", desc := "(IIII)I" } : Jvm.MethodName)) ∈ SW := zq 1056 (by decide +kernel) (by decide +kernel)
theorem q1057 : (Jvm.Cond.code ({ cls := "HallDiaryModel", name := "rent", desc := "(IIII)I" } : Jvm.MethodName) prog_8_method_24_code (6 : Nat) (Option.some Jvm.ClassFile.FieldType.int)) ∈ SW := zq 1057 (by decide +kernel) (by decide +kernel)
theorem q1058 : (Jvm.Cond.methodLink "HallDiaryLaw" (93 : Nat) ({ cls := "HallDiaryModel", name := "regular", desc := "(IIIIII)I" } : Jvm.MethodName)) ∈ SW := zq 1058 (by decide +kernel) (by decide +kernel)
theorem q1059 : (Jvm.Cond.instanceMethod ({ cls := "HallDiaryModel", name := "regular", desc := "(IIIIII)I" } : Jvm.MethodName)) ∈ SW := zq 1059 (by decide +kernel) (by decide +kernel)
theorem q1060 : (Jvm.Cond.selects "HallDiaryModel" ({ cls := "HallDiaryModel", name := "regular", desc := "(IIIIII)I" } : Jvm.MethodName) ({ cls := "HallDiaryModel", name := "regular", desc := "(IIIIII)I" } : Jvm.MethodName)) ∈ SW := zq 1060 (by decide +kernel) (by decide +kernel)
theorem q1061 : (Jvm.Cond.code ({ cls := "HallDiaryModel", name := "regular", desc := "(IIIIII)I" } : Jvm.MethodName) prog_8_method_36_code (7 : Nat) (Option.some Jvm.ClassFile.FieldType.int)) ∈ SW := zq 1061 (by decide +kernel) (by decide +kernel)
theorem q1062 : (Jvm.Cond.methodLink "HallDiaryModel" (137 : Nat) ({ cls := "HallDiaryModel", name := "offWeeks", desc := "(IIIII)I" } : Jvm.MethodName)) ∈ SW := zq 1062 (by decide +kernel) (by decide +kernel)
theorem n1063 : (Jvm.Cond.privateMethod ({ cls := "HallDiaryModel", name := "offWeeks", desc := "(IIIII)I" } : Jvm.MethodName)) ∈ lw_tbl := List.mem_of_getElem? (i := 1063) (by decide +kernel)
theorem q1064 : (Jvm.Cond.instanceMethod ({ cls := "HallDiaryModel", name := "offWeeks", desc := "(IIIII)I" } : Jvm.MethodName)) ∈ SW := zq 1064 (by decide +kernel) (by decide +kernel)
theorem q1065 : (Jvm.Cond.code ({ cls := "HallDiaryModel", name := "offWeeks", desc := "(IIIII)I" } : Jvm.MethodName) prog_8_method_33_code (8 : Nat) (Option.some Jvm.ClassFile.FieldType.int)) ∈ SW := zq 1065 (by decide +kernel) (by decide +kernel)
theorem q1066 : (Jvm.Cond.methodLink "HallDiaryModel" (143 : Nat) ({ cls := "HallDiaryModel", name := "standsSomewhere", desc := "(I)Z" } : Jvm.MethodName)) ∈ SW := zq 1066 (by decide +kernel) (by decide +kernel)
theorem n1067 : (Jvm.Cond.privateMethod ({ cls := "HallDiaryModel", name := "standsSomewhere", desc := "(I)Z" } : Jvm.MethodName)) ∈ lw_tbl := List.mem_of_getElem? (i := 1067) (by decide +kernel)
theorem q1068 : (Jvm.Cond.instanceMethod ({ cls := "HallDiaryModel", name := "standsSomewhere", desc := "(I)Z" } : Jvm.MethodName)) ∈ SW := zq 1068 (by decide +kernel) (by decide +kernel)
theorem q1069 : (Jvm.Cond.code ({ cls := "HallDiaryModel", name := "standsSomewhere", desc := "(I)Z" } : Jvm.MethodName) prog_8_method_35_code (4 : Nat) (Option.some Jvm.ClassFile.FieldType.boolean)) ∈ SW := zq 1069 (by decide +kernel) (by decide +kernel)
theorem q1070 : (Jvm.Cond.methodLink "HallDiaryModel" (146 : Nat) ({ cls := "HallDiaryModel", name := "makeRegular", desc := "(IIIIII)I" } : Jvm.MethodName)) ∈ SW := zq 1070 (by decide +kernel) (by decide +kernel)
theorem n1071 : (Jvm.Cond.privateMethod ({ cls := "HallDiaryModel", name := "makeRegular", desc := "(IIIIII)I" } : Jvm.MethodName)) ∈ lw_tbl := List.mem_of_getElem? (i := 1071) (by decide +kernel)
theorem q1072 : (Jvm.Cond.instanceMethod ({ cls := "HallDiaryModel", name := "makeRegular", desc := "(IIIIII)I" } : Jvm.MethodName)) ∈ SW := zq 1072 (by decide +kernel) (by decide +kernel)
theorem q1073 : (Jvm.Cond.code ({ cls := "HallDiaryModel", name := "makeRegular", desc := "(IIIIII)I" } : Jvm.MethodName) prog_8_method_34_code (11 : Nat) (Option.some Jvm.ClassFile.FieldType.int)) ∈ SW := zq 1073 (by decide +kernel) (by decide +kernel)
theorem q1074 : (Jvm.Cond.methodLink "HallDiaryModel" (140 : Nat) ({ cls := "HallDiaryModel", name := "regularRent", desc := "(IIII)I" } : Jvm.MethodName)) ∈ SW := zq 1074 (by decide +kernel) (by decide +kernel)
theorem n1075 : (Jvm.Cond.privateMethod ({ cls := "HallDiaryModel", name := "regularRent", desc := "(IIII)I" } : Jvm.MethodName)) ∈ lw_tbl := List.mem_of_getElem? (i := 1075) (by decide +kernel)
theorem q1076 : (Jvm.Cond.instanceMethod ({ cls := "HallDiaryModel", name := "regularRent", desc := "(IIII)I" } : Jvm.MethodName)) ∈ SW := zq 1076 (by decide +kernel) (by decide +kernel)
theorem q1077 : (Jvm.Cond.code ({ cls := "HallDiaryModel", name := "regularRent", desc := "(IIII)I" } : Jvm.MethodName) prog_8_method_26_code (5 : Nat) (Option.some Jvm.ClassFile.FieldType.int)) ∈ SW := zq 1077 (by decide +kernel) (by decide +kernel)
theorem q1078 : (Jvm.Cond.methodLink "HallDiaryLaw" (103 : Nat) ({ cls := "HallDiaryModel", name := "cancel", desc := "(ZI)I" } : Jvm.MethodName)) ∈ SW := zq 1078 (by decide +kernel) (by decide +kernel)
theorem q1079 : (Jvm.Cond.instanceMethod ({ cls := "HallDiaryModel", name := "cancel", desc := "(ZI)I" } : Jvm.MethodName)) ∈ SW := zq 1079 (by decide +kernel) (by decide +kernel)
theorem q1080 : (Jvm.Cond.selects "HallDiaryModel" ({ cls := "HallDiaryModel", name := "cancel", desc := "(ZI)I" } : Jvm.MethodName) ({ cls := "HallDiaryModel", name := "cancel", desc := "(ZI)I" } : Jvm.MethodName)) ∈ SW := zq 1080 (by decide +kernel) (by decide +kernel)
theorem q1081 : (Jvm.Cond.code ({ cls := "HallDiaryModel", name := "cancel", desc := "(ZI)I" } : Jvm.MethodName) prog_8_method_39_code (4 : Nat) (Option.some Jvm.ClassFile.FieldType.int)) ∈ SW := zq 1081 (by decide +kernel) (by decide +kernel)
theorem q1082 : (Jvm.Cond.methodLink "HallDiaryModel" (155 : Nat) ({ cls := "HallDiaryModel", name := "cancelRegular", desc := "(I)I" } : Jvm.MethodName)) ∈ SW := zq 1082 (by decide +kernel) (by decide +kernel)
theorem n1083 : (Jvm.Cond.privateMethod ({ cls := "HallDiaryModel", name := "cancelRegular", desc := "(I)I" } : Jvm.MethodName)) ∈ lw_tbl := List.mem_of_getElem? (i := 1083) (by decide +kernel)
theorem q1084 : (Jvm.Cond.instanceMethod ({ cls := "HallDiaryModel", name := "cancelRegular", desc := "(I)I" } : Jvm.MethodName)) ∈ SW := zq 1084 (by decide +kernel) (by decide +kernel)
theorem q1085 : (Jvm.Cond.code ({ cls := "HallDiaryModel", name := "cancelRegular", desc := "(I)I" } : Jvm.MethodName) prog_8_method_37_code (3 : Nat) (Option.some Jvm.ClassFile.FieldType.int)) ∈ SW := zq 1085 (by decide +kernel) (by decide +kernel)
theorem q1086 : (Jvm.Cond.methodLink "HallDiaryModel" (149 : Nat) ({ cls := "HallDiaryModel", name := "daysOf", desc := "(I)I" } : Jvm.MethodName)) ∈ SW := zq 1086 (by decide +kernel) (by decide +kernel)
theorem n1087 : (Jvm.Cond.privateMethod ({ cls := "HallDiaryModel", name := "daysOf", desc := "(I)I" } : Jvm.MethodName)) ∈ lw_tbl := List.mem_of_getElem? (i := 1087) (by decide +kernel)
theorem q1088 : (Jvm.Cond.instanceMethod ({ cls := "HallDiaryModel", name := "daysOf", desc := "(I)I" } : Jvm.MethodName)) ∈ SW := zq 1088 (by decide +kernel) (by decide +kernel)
theorem q1089 : (Jvm.Cond.code ({ cls := "HallDiaryModel", name := "daysOf", desc := "(I)I" } : Jvm.MethodName) prog_8_method_18_code (4 : Nat) (Option.some Jvm.ClassFile.FieldType.int)) ∈ SW := zq 1089 (by decide +kernel) (by decide +kernel)
theorem q1090 : (Jvm.Cond.methodLink "HallDiaryModel" (152 : Nat) ({ cls := "HallDiaryModel", name := "removeRegular", desc := "(I)V" } : Jvm.MethodName)) ∈ SW := zq 1090 (by decide +kernel) (by decide +kernel)
theorem n1091 : (Jvm.Cond.privateMethod ({ cls := "HallDiaryModel", name := "removeRegular", desc := "(I)V" } : Jvm.MethodName)) ∈ lw_tbl := List.mem_of_getElem? (i := 1091) (by decide +kernel)
theorem q1092 : (Jvm.Cond.instanceMethod ({ cls := "HallDiaryModel", name := "removeRegular", desc := "(I)V" } : Jvm.MethodName)) ∈ SW := zq 1092 (by decide +kernel) (by decide +kernel)
theorem q1093 : (Jvm.Cond.code ({ cls := "HallDiaryModel", name := "removeRegular", desc := "(I)V" } : Jvm.MethodName) prog_8_method_28_code (4 : Nat) (Option.none : Option Jvm.ClassFile.FieldType)) ∈ SW := zq 1093 (by decide +kernel) (by decide +kernel)
theorem q1094 : (Jvm.Cond.methodLink "HallDiaryModel" (158 : Nat) ({ cls := "HallDiaryModel", name := "cancelSingle", desc := "(I)I" } : Jvm.MethodName)) ∈ SW := zq 1094 (by decide +kernel) (by decide +kernel)
theorem n1095 : (Jvm.Cond.privateMethod ({ cls := "HallDiaryModel", name := "cancelSingle", desc := "(I)I" } : Jvm.MethodName)) ∈ lw_tbl := List.mem_of_getElem? (i := 1095) (by decide +kernel)
theorem q1096 : (Jvm.Cond.instanceMethod ({ cls := "HallDiaryModel", name := "cancelSingle", desc := "(I)I" } : Jvm.MethodName)) ∈ SW := zq 1096 (by decide +kernel) (by decide +kernel)
theorem q1097 : (Jvm.Cond.code ({ cls := "HallDiaryModel", name := "cancelSingle", desc := "(I)I" } : Jvm.MethodName) prog_8_method_38_code (3 : Nat) (Option.some Jvm.ClassFile.FieldType.int)) ∈ SW := zq 1097 (by decide +kernel) (by decide +kernel)
theorem q1098 : (Jvm.Cond.methodLink "HallDiaryLaw" (107 : Nat) ({ cls := "HallDiaryModel", name := "off", desc := "(II)I" } : Jvm.MethodName)) ∈ SW := zq 1098 (by decide +kernel) (by decide +kernel)
theorem q1099 : (Jvm.Cond.instanceMethod ({ cls := "HallDiaryModel", name := "off", desc := "(II)I" } : Jvm.MethodName)) ∈ SW := zq 1099 (by decide +kernel) (by decide +kernel)
theorem q1100 : (Jvm.Cond.selects "HallDiaryModel" ({ cls := "HallDiaryModel", name := "off", desc := "(II)I" } : Jvm.MethodName) ({ cls := "HallDiaryModel", name := "off", desc := "(II)I" } : Jvm.MethodName)) ∈ SW := zq 1100 (by decide +kernel) (by decide +kernel)
theorem q1101 : (Jvm.Cond.code ({ cls := "HallDiaryModel", name := "off", desc := "(II)I" } : Jvm.MethodName) prog_8_method_40_code (3 : Nat) (Option.some Jvm.ClassFile.FieldType.int)) ∈ SW := zq 1101 (by decide +kernel) (by decide +kernel)
theorem q1102 : (Jvm.Cond.methodLink "HallDiaryLaw" (110 : Nat) ({ cls := "HallDiaryModel", name := "rate", desc := "(II)I" } : Jvm.MethodName)) ∈ SW := zq 1102 (by decide +kernel) (by decide +kernel)
theorem q1103 : (Jvm.Cond.instanceMethod ({ cls := "HallDiaryModel", name := "rate", desc := "(II)I" } : Jvm.MethodName)) ∈ SW := zq 1103 (by decide +kernel) (by decide +kernel)
theorem q1104 : (Jvm.Cond.selects "HallDiaryModel" ({ cls := "HallDiaryModel", name := "rate", desc := "(II)I" } : Jvm.MethodName) ({ cls := "HallDiaryModel", name := "rate", desc := "(II)I" } : Jvm.MethodName)) ∈ SW := zq 1104 (by decide +kernel) (by decide +kernel)
theorem q1105 : (Jvm.Cond.code ({ cls := "HallDiaryModel", name := "rate", desc := "(II)I" } : Jvm.MethodName) prog_8_method_41_code (4 : Nat) (Option.some Jvm.ClassFile.FieldType.int)) ∈ SW := zq 1105 (by decide +kernel) (by decide +kernel)
theorem q1106 : (Jvm.Cond.methodLink "HallDiaryLaw" (113 : Nat) ({ cls := "HallDiaryModel", name := "set", desc := "(II)I" } : Jvm.MethodName)) ∈ SW := zq 1106 (by decide +kernel) (by decide +kernel)
theorem q1107 : (Jvm.Cond.instanceMethod ({ cls := "HallDiaryModel", name := "set", desc := "(II)I" } : Jvm.MethodName)) ∈ SW := zq 1107 (by decide +kernel) (by decide +kernel)
theorem q1108 : (Jvm.Cond.selects "HallDiaryModel" ({ cls := "HallDiaryModel", name := "set", desc := "(II)I" } : Jvm.MethodName) ({ cls := "HallDiaryModel", name := "set", desc := "(II)I" } : Jvm.MethodName)) ∈ SW := zq 1108 (by decide +kernel) (by decide +kernel)
theorem q1109 : (Jvm.Cond.code ({ cls := "HallDiaryModel", name := "set", desc := "(II)I" } : Jvm.MethodName) prog_8_method_45_code (4 : Nat) (Option.some Jvm.ClassFile.FieldType.int)) ∈ SW := zq 1109 (by decide +kernel) (by decide +kernel)
theorem q1110 : (Jvm.Cond.methodLink "HallDiaryModel" (164 : Nat) ({ cls := "HallDiaryModel", name := "maySet", desc := "(II)Z" } : Jvm.MethodName)) ∈ SW := zq 1110 (by decide +kernel) (by decide +kernel)
theorem q1111 : (Jvm.Cond.static ({ cls := "HallDiaryModel", name := "maySet", desc := "(II)Z" } : Jvm.MethodName)) ∈ SW := zq 1111 (by decide +kernel) (by decide +kernel)
theorem q1112 : (Jvm.Cond.code ({ cls := "HallDiaryModel", name := "maySet", desc := "(II)Z" } : Jvm.MethodName) prog_8_method_42_code (2 : Nat) (Option.some Jvm.ClassFile.FieldType.boolean)) ∈ SW := zq 1112 (by decide +kernel) (by decide +kernel)
theorem q1113 : (Jvm.Cond.methodLink "HallDiaryModel" (167 : Nat) ({ cls := "HallDiaryModel", name := "isGoodWith", desc := "(II)Z" } : Jvm.MethodName)) ∈ SW := zq 1113 (by decide +kernel) (by decide +kernel)
theorem n1114 : (Jvm.Cond.privateMethod ({ cls := "HallDiaryModel", name := "isGoodWith", desc := "(II)Z" } : Jvm.MethodName)) ∈ lw_tbl := List.mem_of_getElem? (i := 1114) (by decide +kernel)
theorem q1115 : (Jvm.Cond.instanceMethod ({ cls := "HallDiaryModel", name := "isGoodWith", desc := "(II)Z" } : Jvm.MethodName)) ∈ SW := zq 1115 (by decide +kernel) (by decide +kernel)
theorem q1116 : (Jvm.Cond.code ({ cls := "HallDiaryModel", name := "isGoodWith", desc := "(II)Z" } : Jvm.MethodName) prog_8_method_44_code (6 : Nat) (Option.some Jvm.ClassFile.FieldType.boolean)) ∈ SW := zq 1116 (by decide +kernel) (by decide +kernel)
theorem q1117 : (Jvm.Cond.methodLink "HallDiaryModel" (161 : Nat) ({ cls := "HallDiaryModel", name := "isGood", desc := "(I)Z" } : Jvm.MethodName)) ∈ SW := zq 1117 (by decide +kernel) (by decide +kernel)
theorem n1118 : (Jvm.Cond.privateMethod ({ cls := "HallDiaryModel", name := "isGood", desc := "(I)Z" } : Jvm.MethodName)) ∈ lw_tbl := List.mem_of_getElem? (i := 1118) (by decide +kernel)
theorem q1119 : (Jvm.Cond.instanceMethod ({ cls := "HallDiaryModel", name := "isGood", desc := "(I)Z" } : Jvm.MethodName)) ∈ SW := zq 1119 (by decide +kernel) (by decide +kernel)
theorem q1120 : (Jvm.Cond.code ({ cls := "HallDiaryModel", name := "isGood", desc := "(I)Z" } : Jvm.MethodName) prog_8_method_43_code (5 : Nat) (Option.some Jvm.ClassFile.FieldType.boolean)) ∈ SW := zq 1120 (by decide +kernel) (by decide +kernel)
theorem q1121 : (Jvm.Cond.methodLink "HallDiaryLaw" (117 : Nat) ({ cls := "HallDiaryModel", name := "append", desc := "(I)I" } : Jvm.MethodName)) ∈ SW := zq 1121 (by decide +kernel) (by decide +kernel)
theorem q1122 : (Jvm.Cond.instanceMethod ({ cls := "HallDiaryModel", name := "append", desc := "(I)I" } : Jvm.MethodName)) ∈ SW := zq 1122 (by decide +kernel) (by decide +kernel)
theorem q1123 : (Jvm.Cond.selects "HallDiaryModel" ({ cls := "HallDiaryModel", name := "append", desc := "(I)I" } : Jvm.MethodName) ({ cls := "HallDiaryModel", name := "append", desc := "(I)I" } : Jvm.MethodName)) ∈ SW := zq 1123 (by decide +kernel) (by decide +kernel)
theorem q1124 : (Jvm.Cond.code ({ cls := "HallDiaryModel", name := "append", desc := "(I)I" } : Jvm.MethodName) prog_8_method_46_code (2 : Nat) (Option.some Jvm.ClassFile.FieldType.int)) ∈ SW := zq 1124 (by decide +kernel) (by decide +kernel)
theorem q1125 : (Jvm.Cond.methodLink "HallDiaryLaw" (121 : Nat) ({ cls := "HallDiaryModel", name := "clearBuffer", desc := "()I" } : Jvm.MethodName)) ∈ SW := zq 1125 (by decide +kernel) (by decide +kernel)
theorem q1126 : (Jvm.Cond.instanceMethod ({ cls := "HallDiaryModel", name := "clearBuffer", desc := "()I" } : Jvm.MethodName)) ∈ SW := zq 1126 (by decide +kernel) (by decide +kernel)
theorem q1127 : (Jvm.Cond.selects "HallDiaryModel" ({ cls := "HallDiaryModel", name := "clearBuffer", desc := "()I" } : Jvm.MethodName) ({ cls := "HallDiaryModel", name := "clearBuffer", desc := "()I" } : Jvm.MethodName)) ∈ SW := zq 1127 (by decide +kernel) (by decide +kernel)
theorem q1128 : (Jvm.Cond.code ({ cls := "HallDiaryModel", name := "clearBuffer", desc := "()I" } : Jvm.MethodName) prog_8_method_47_code (2 : Nat) (Option.some Jvm.ClassFile.FieldType.int)) ∈ SW := zq 1128 (by decide +kernel) (by decide +kernel)
theorem q1129 : (Jvm.Cond.methodLink "HallDiaryLaw" (125 : Nat) ({ cls := "HallDiaryModel", name := "firstError", desc := "()I" } : Jvm.MethodName)) ∈ SW := zq 1129 (by decide +kernel) (by decide +kernel)
theorem q1130 : (Jvm.Cond.instanceMethod ({ cls := "HallDiaryModel", name := "firstError", desc := "()I" } : Jvm.MethodName)) ∈ SW := zq 1130 (by decide +kernel) (by decide +kernel)
theorem q1131 : (Jvm.Cond.selects "HallDiaryModel" ({ cls := "HallDiaryModel", name := "firstError", desc := "()I" } : Jvm.MethodName) ({ cls := "HallDiaryModel", name := "firstError", desc := "()I" } : Jvm.MethodName)) ∈ SW := zq 1131 (by decide +kernel) (by decide +kernel)
theorem q1132 : (Jvm.Cond.code ({ cls := "HallDiaryModel", name := "firstError", desc := "()I" } : Jvm.MethodName) prog_8_method_53_code (1 : Nat) (Option.some Jvm.ClassFile.FieldType.int)) ∈ SW := zq 1132 (by decide +kernel) (by decide +kernel)
theorem q1133 : (Jvm.Cond.methodLink "HallDiaryModel" (194 : Nat) ({ cls := "HallDiaryModel", name := "areLets", desc := "()Z" } : Jvm.MethodName)) ∈ SW := zq 1133 (by decide +kernel) (by decide +kernel)
theorem n1134 : (Jvm.Cond.privateMethod ({ cls := "HallDiaryModel", name := "areLets", desc := "()Z" } : Jvm.MethodName)) ∈ lw_tbl := List.mem_of_getElem? (i := 1134) (by decide +kernel)
theorem q1135 : (Jvm.Cond.instanceMethod ({ cls := "HallDiaryModel", name := "areLets", desc := "()Z" } : Jvm.MethodName)) ∈ SW := zq 1135 (by decide +kernel) (by decide +kernel)
theorem q1136 : (Jvm.Cond.code ({ cls := "HallDiaryModel", name := "areLets", desc := "()Z" } : Jvm.MethodName) prog_8_method_52_code (2 : Nat) (Option.some Jvm.ClassFile.FieldType.boolean)) ∈ SW := zq 1136 (by decide +kernel) (by decide +kernel)
theorem q1137 : (Jvm.Cond.methodLink "HallDiaryModel" (191 : Nat) ({ cls := "HallDiaryModel", name := "readPart", desc := "()Z" } : Jvm.MethodName)) ∈ SW := zq 1137 (by decide +kernel) (by decide +kernel)
theorem n1138 : (Jvm.Cond.privateMethod ({ cls := "HallDiaryModel", name := "readPart", desc := "()Z" } : Jvm.MethodName)) ∈ lw_tbl := List.mem_of_getElem? (i := 1138) (by decide +kernel)
theorem q1139 : (Jvm.Cond.instanceMethod ({ cls := "HallDiaryModel", name := "readPart", desc := "()Z" } : Jvm.MethodName)) ∈ SW := zq 1139 (by decide +kernel) (by decide +kernel)
theorem q1140 : (Jvm.Cond.code ({ cls := "HallDiaryModel", name := "readPart", desc := "()Z" } : Jvm.MethodName) prog_8_method_51_code (2 : Nat) (Option.some Jvm.ClassFile.FieldType.boolean)) ∈ SW := zq 1140 (by decide +kernel) (by decide +kernel)
theorem q1141 : (Jvm.Cond.methodLink "HallDiaryModel" (185 : Nat) ({ cls := "HallDiaryModel", name := "reads", desc := "(III)Z" } : Jvm.MethodName)) ∈ SW := zq 1141 (by decide +kernel) (by decide +kernel)
theorem n1142 : (Jvm.Cond.privateMethod ({ cls := "HallDiaryModel", name := "reads", desc := "(III)Z" } : Jvm.MethodName)) ∈ lw_tbl := List.mem_of_getElem? (i := 1142) (by decide +kernel)
theorem q1143 : (Jvm.Cond.instanceMethod ({ cls := "HallDiaryModel", name := "reads", desc := "(III)Z" } : Jvm.MethodName)) ∈ SW := zq 1143 (by decide +kernel) (by decide +kernel)
theorem q1144 : (Jvm.Cond.code ({ cls := "HallDiaryModel", name := "reads", desc := "(III)Z" } : Jvm.MethodName) prog_8_method_50_code (4 : Nat) (Option.some Jvm.ClassFile.FieldType.boolean)) ∈ SW := zq 1144 (by decide +kernel) (by decide +kernel)
theorem q1145 : (Jvm.Cond.methodLink "HallDiaryModel" (176 : Nat) ({ cls := "HallDiaryModel", name := "isAt", desc := "(II)Z" } : Jvm.MethodName)) ∈ SW := zq 1145 (by decide +kernel) (by decide +kernel)
theorem n1146 : (Jvm.Cond.privateMethod ({ cls := "HallDiaryModel", name := "isAt", desc := "(II)Z" } : Jvm.MethodName)) ∈ lw_tbl := List.mem_of_getElem? (i := 1146) (by decide +kernel)
theorem q1147 : (Jvm.Cond.instanceMethod ({ cls := "HallDiaryModel", name := "isAt", desc := "(II)Z" } : Jvm.MethodName)) ∈ SW := zq 1147 (by decide +kernel) (by decide +kernel)
theorem q1148 : (Jvm.Cond.code ({ cls := "HallDiaryModel", name := "isAt", desc := "(II)Z" } : Jvm.MethodName) prog_8_method_48_code (3 : Nat) (Option.some Jvm.ClassFile.FieldType.boolean)) ∈ SW := zq 1148 (by decide +kernel) (by decide +kernel)
theorem q1149 : (Jvm.Cond.methodLink "HallDiaryModel" (188 : Nat) ({ cls := "HallDiaryModel", name := "takes", desc := "(I)Z" } : Jvm.MethodName)) ∈ SW := zq 1149 (by decide +kernel) (by decide +kernel)
theorem n1150 : (Jvm.Cond.privateMethod ({ cls := "HallDiaryModel", name := "takes", desc := "(I)Z" } : Jvm.MethodName)) ∈ lw_tbl := List.mem_of_getElem? (i := 1150) (by decide +kernel)
theorem q1151 : (Jvm.Cond.instanceMethod ({ cls := "HallDiaryModel", name := "takes", desc := "(I)Z" } : Jvm.MethodName)) ∈ SW := zq 1151 (by decide +kernel) (by decide +kernel)
theorem q1152 : (Jvm.Cond.code ({ cls := "HallDiaryModel", name := "takes", desc := "(I)Z" } : Jvm.MethodName) prog_8_method_49_code (3 : Nat) (Option.some Jvm.ClassFile.FieldType.boolean)) ∈ SW := zq 1152 (by decide +kernel) (by decide +kernel)
theorem q1153 : (Jvm.Cond.methodLink "HallDiaryLaw" (129 : Nat) ({ cls := "HallDiaryModel", name := "lets", desc := "()I" } : Jvm.MethodName)) ∈ SW := zq 1153 (by decide +kernel) (by decide +kernel)
theorem q1154 : (Jvm.Cond.instanceMethod ({ cls := "HallDiaryModel", name := "lets", desc := "()I" } : Jvm.MethodName)) ∈ SW := zq 1154 (by decide +kernel) (by decide +kernel)
theorem q1155 : (Jvm.Cond.selects "HallDiaryModel" ({ cls := "HallDiaryModel", name := "lets", desc := "()I" } : Jvm.MethodName) ({ cls := "HallDiaryModel", name := "lets", desc := "()I" } : Jvm.MethodName)) ∈ SW := zq 1155 (by decide +kernel) (by decide +kernel)
theorem q1156 : (Jvm.Cond.code ({ cls := "HallDiaryModel", name := "lets", desc := "()I" } : Jvm.MethodName) prog_8_method_54_code (4 : Nat) (Option.some Jvm.ClassFile.FieldType.int)) ∈ SW := zq 1156 (by decide +kernel) (by decide +kernel)
theorem q1157 : (Jvm.Cond.methodLink "HallDiaryLaw" (142 : Nat) ({ cls := "HallDiaryModel", name := "regularOf", desc := "(II)I" } : Jvm.MethodName)) ∈ SW := zq 1157 (by decide +kernel) (by decide +kernel)
theorem q1158 : (Jvm.Cond.instanceMethod ({ cls := "HallDiaryModel", name := "regularOf", desc := "(II)I" } : Jvm.MethodName)) ∈ SW := zq 1158 (by decide +kernel) (by decide +kernel)
theorem q1159 : (Jvm.Cond.selects "HallDiaryModel" ({ cls := "HallDiaryModel", name := "regularOf", desc := "(II)I" } : Jvm.MethodName) ({ cls := "HallDiaryModel", name := "regularOf", desc := "(II)I" } : Jvm.MethodName)) ∈ SW := zq 1159 (by decide +kernel) (by decide +kernel)
theorem q1160 : (Jvm.Cond.code ({ cls := "HallDiaryModel", name := "regularOf", desc := "(II)I" } : Jvm.MethodName) prog_8_method_57_code (3 : Nat) (Option.some Jvm.ClassFile.FieldType.int)) ∈ SW := zq 1160 (by decide +kernel) (by decide +kernel)
theorem q1161 : (Jvm.Cond.methodLink "HallDiaryModel" (200 : Nat) ({ cls := "HallDiaryModel", name := "ofRegular", desc := "(II)I" } : Jvm.MethodName)) ∈ SW := zq 1161 (by decide +kernel) (by decide +kernel)
theorem n1162 : (Jvm.Cond.privateMethod ({ cls := "HallDiaryModel", name := "ofRegular", desc := "(II)I" } : Jvm.MethodName)) ∈ lw_tbl := List.mem_of_getElem? (i := 1162) (by decide +kernel)
theorem q1163 : (Jvm.Cond.instanceMethod ({ cls := "HallDiaryModel", name := "ofRegular", desc := "(II)I" } : Jvm.MethodName)) ∈ SW := zq 1163 (by decide +kernel) (by decide +kernel)
theorem q1164 : (Jvm.Cond.code ({ cls := "HallDiaryModel", name := "ofRegular", desc := "(II)I" } : Jvm.MethodName) prog_8_method_56_code (3 : Nat) (Option.some Jvm.ClassFile.FieldType.int)) ∈ SW := zq 1164 (by decide +kernel) (by decide +kernel)
theorem q1165 : (Jvm.Cond.methodLink "HallDiaryModel" (197 : Nat) ({ cls := "HallDiaryModel", name := "firstDayOf", desc := "(I)I" } : Jvm.MethodName)) ∈ SW := zq 1165 (by decide +kernel) (by decide +kernel)
theorem n1166 : (Jvm.Cond.privateMethod ({ cls := "HallDiaryModel", name := "firstDayOf", desc := "(I)I" } : Jvm.MethodName)) ∈ lw_tbl := List.mem_of_getElem? (i := 1166) (by decide +kernel)
theorem q1167 : (Jvm.Cond.instanceMethod ({ cls := "HallDiaryModel", name := "firstDayOf", desc := "(I)I" } : Jvm.MethodName)) ∈ SW := zq 1167 (by decide +kernel) (by decide +kernel)
theorem q1168 : (Jvm.Cond.code ({ cls := "HallDiaryModel", name := "firstDayOf", desc := "(I)I" } : Jvm.MethodName) prog_8_method_55_code (3 : Nat) (Option.some Jvm.ClassFile.FieldType.int)) ∈ SW := zq 1168 (by decide +kernel) (by decide +kernel)
theorem q1169 : (Jvm.Cond.methodLink "HallDiaryLaw" (145 : Nat) ({ cls := "HallDiaryModel", name := "singleOf", desc := "(II)I" } : Jvm.MethodName)) ∈ SW := zq 1169 (by decide +kernel) (by decide +kernel)
theorem q1170 : (Jvm.Cond.instanceMethod ({ cls := "HallDiaryModel", name := "singleOf", desc := "(II)I" } : Jvm.MethodName)) ∈ SW := zq 1170 (by decide +kernel) (by decide +kernel)
theorem q1171 : (Jvm.Cond.selects "HallDiaryModel" ({ cls := "HallDiaryModel", name := "singleOf", desc := "(II)I" } : Jvm.MethodName) ({ cls := "HallDiaryModel", name := "singleOf", desc := "(II)I" } : Jvm.MethodName)) ∈ SW := zq 1171 (by decide +kernel) (by decide +kernel)
theorem q1172 : (Jvm.Cond.code ({ cls := "HallDiaryModel", name := "singleOf", desc := "(II)I" } : Jvm.MethodName) prog_8_method_58_code (3 : Nat) (Option.some Jvm.ClassFile.FieldType.int)) ∈ SW := zq 1172 (by decide +kernel) (by decide +kernel)
theorem q1173 : (Jvm.Cond.methodLink "HallDiaryLaw" (149 : Nat) ({ cls := "HallDiaryModel", name := "who", desc := "(III)I" } : Jvm.MethodName)) ∈ SW := zq 1173 (by decide +kernel) (by decide +kernel)
theorem q1174 : (Jvm.Cond.instanceMethod ({ cls := "HallDiaryModel", name := "who", desc := "(III)I" } : Jvm.MethodName)) ∈ SW := zq 1174 (by decide +kernel) (by decide +kernel)
theorem q1175 : (Jvm.Cond.selects "HallDiaryModel" ({ cls := "HallDiaryModel", name := "who", desc := "(III)I" } : Jvm.MethodName) ({ cls := "HallDiaryModel", name := "who", desc := "(III)I" } : Jvm.MethodName)) ∈ SW := zq 1175 (by decide +kernel) (by decide +kernel)
theorem q1176 : (Jvm.Cond.code ({ cls := "HallDiaryModel", name := "who", desc := "(III)I" } : Jvm.MethodName) prog_8_method_60_code (4 : Nat) (Option.some Jvm.ClassFile.FieldType.int)) ∈ SW := zq 1176 (by decide +kernel) (by decide +kernel)
theorem q1177 : (Jvm.Cond.methodLink "HallDiaryModel" (203 : Nat) ({ cls := "HallDiaryModel", name := "tenantAt", desc := "(III)I" } : Jvm.MethodName)) ∈ SW := zq 1177 (by decide +kernel) (by decide +kernel)
theorem n1178 : (Jvm.Cond.privateMethod ({ cls := "HallDiaryModel", name := "tenantAt", desc := "(III)I" } : Jvm.MethodName)) ∈ lw_tbl := List.mem_of_getElem? (i := 1178) (by decide +kernel)
theorem q1179 : (Jvm.Cond.instanceMethod ({ cls := "HallDiaryModel", name := "tenantAt", desc := "(III)I" } : Jvm.MethodName)) ∈ SW := zq 1179 (by decide +kernel) (by decide +kernel)
theorem q1180 : (Jvm.Cond.code ({ cls := "HallDiaryModel", name := "tenantAt", desc := "(III)I" } : Jvm.MethodName) prog_8_method_59_code (6 : Nat) (Option.some Jvm.ClassFile.FieldType.int)) ∈ SW := zq 1180 (by decide +kernel) (by decide +kernel)
theorem q1181 : (Jvm.Cond.methodLink "HallDiaryLaw" (152 : Nat) ({ cls := "HallDiaryModel", name := "hallOf", desc := "(III)I" } : Jvm.MethodName)) ∈ SW := zq 1181 (by decide +kernel) (by decide +kernel)
theorem q1182 : (Jvm.Cond.instanceMethod ({ cls := "HallDiaryModel", name := "hallOf", desc := "(III)I" } : Jvm.MethodName)) ∈ SW := zq 1182 (by decide +kernel) (by decide +kernel)
theorem q1183 : (Jvm.Cond.selects "HallDiaryModel" ({ cls := "HallDiaryModel", name := "hallOf", desc := "(III)I" } : Jvm.MethodName) ({ cls := "HallDiaryModel", name := "hallOf", desc := "(III)I" } : Jvm.MethodName)) ∈ SW := zq 1183 (by decide +kernel) (by decide +kernel)
theorem q1184 : (Jvm.Cond.code ({ cls := "HallDiaryModel", name := "hallOf", desc := "(III)I" } : Jvm.MethodName) prog_8_method_63_code (4 : Nat) (Option.some Jvm.ClassFile.FieldType.int)) ∈ SW := zq 1184 (by decide +kernel) (by decide +kernel)
theorem q1185 : (Jvm.Cond.methodLink "HallDiaryModel" (210 : Nat) ({ cls := "HallDiaryModel", name := "ofHall", desc := "(III)I" } : Jvm.MethodName)) ∈ SW := zq 1185 (by decide +kernel) (by decide +kernel)
theorem n1186 : (Jvm.Cond.privateMethod ({ cls := "HallDiaryModel", name := "ofHall", desc := "(III)I" } : Jvm.MethodName)) ∈ lw_tbl := List.mem_of_getElem? (i := 1186) (by decide +kernel)
theorem q1187 : (Jvm.Cond.instanceMethod ({ cls := "HallDiaryModel", name := "ofHall", desc := "(III)I" } : Jvm.MethodName)) ∈ SW := zq 1187 (by decide +kernel) (by decide +kernel)
theorem q1188 : (Jvm.Cond.code ({ cls := "HallDiaryModel", name := "ofHall", desc := "(III)I" } : Jvm.MethodName) prog_8_method_62_code (4 : Nat) (Option.some Jvm.ClassFile.FieldType.int)) ∈ SW := zq 1188 (by decide +kernel) (by decide +kernel)
theorem q1189 : (Jvm.Cond.methodLink "HallDiaryModel" (207 : Nat) ({ cls := "HallDiaryModel", name := "inHall", desc := "(III)I" } : Jvm.MethodName)) ∈ SW := zq 1189 (by decide +kernel) (by decide +kernel)
theorem n1190 : (Jvm.Cond.privateMethod ({ cls := "HallDiaryModel", name := "inHall", desc := "(III)I" } : Jvm.MethodName)) ∈ lw_tbl := List.mem_of_getElem? (i := 1190) (by decide +kernel)
theorem q1191 : (Jvm.Cond.instanceMethod ({ cls := "HallDiaryModel", name := "inHall", desc := "(III)I" } : Jvm.MethodName)) ∈ SW := zq 1191 (by decide +kernel) (by decide +kernel)
theorem q1192 : (Jvm.Cond.code ({ cls := "HallDiaryModel", name := "inHall", desc := "(III)I" } : Jvm.MethodName) prog_8_method_61_code (7 : Nat) (Option.some Jvm.ClassFile.FieldType.int)) ∈ SW := zq 1192 (by decide +kernel) (by decide +kernel)
theorem q1193 : (Jvm.Cond.methodLink "HallDiaryLaw" (155 : Nat) ({ cls := "HallDiaryModel", name := "tenant", desc := "(II)I" } : Jvm.MethodName)) ∈ SW := zq 1193 (by decide +kernel) (by decide +kernel)
theorem q1194 : (Jvm.Cond.instanceMethod ({ cls := "HallDiaryModel", name := "tenant", desc := "(II)I" } : Jvm.MethodName)) ∈ SW := zq 1194 (by decide +kernel) (by decide +kernel)
theorem q1195 : (Jvm.Cond.selects "HallDiaryModel" ({ cls := "HallDiaryModel", name := "tenant", desc := "(II)I" } : Jvm.MethodName) ({ cls := "HallDiaryModel", name := "tenant", desc := "(II)I" } : Jvm.MethodName)) ∈ SW := zq 1195 (by decide +kernel) (by decide +kernel)
theorem q1196 : (Jvm.Cond.code ({ cls := "HallDiaryModel", name := "tenant", desc := "(II)I" } : Jvm.MethodName) prog_8_method_65_code (3 : Nat) (Option.some Jvm.ClassFile.FieldType.int)) ∈ SW := zq 1196 (by decide +kernel) (by decide +kernel)
theorem q1197 : (Jvm.Cond.methodLink "HallDiaryModel" (213 : Nat) ({ cls := "HallDiaryModel", name := "ofTenant", desc := "(II)I" } : Jvm.MethodName)) ∈ SW := zq 1197 (by decide +kernel) (by decide +kernel)
theorem n1198 : (Jvm.Cond.privateMethod ({ cls := "HallDiaryModel", name := "ofTenant", desc := "(II)I" } : Jvm.MethodName)) ∈ lw_tbl := List.mem_of_getElem? (i := 1198) (by decide +kernel)
theorem q1199 : (Jvm.Cond.instanceMethod ({ cls := "HallDiaryModel", name := "ofTenant", desc := "(II)I" } : Jvm.MethodName)) ∈ SW := zq 1199 (by decide +kernel) (by decide +kernel)
theorem q1200 : (Jvm.Cond.code ({ cls := "HallDiaryModel", name := "ofTenant", desc := "(II)I" } : Jvm.MethodName) prog_8_method_64_code (6 : Nat) (Option.some Jvm.ClassFile.FieldType.int)) ∈ SW := zq 1200 (by decide +kernel) (by decide +kernel)
theorem q1201 : (Jvm.Cond.methodLink "HallDiaryLaw" (158 : Nat) ({ cls := "HallDiaryModel", name := "count", desc := "(I)I" } : Jvm.MethodName)) ∈ SW := zq 1201 (by decide +kernel) (by decide +kernel)
theorem q1202 : (Jvm.Cond.instanceMethod ({ cls := "HallDiaryModel", name := "count", desc := "(I)I" } : Jvm.MethodName)) ∈ SW := zq 1202 (by decide +kernel) (by decide +kernel)
theorem q1203 : (Jvm.Cond.selects "HallDiaryModel" ({ cls := "HallDiaryModel", name := "count", desc := "(I)I" } : Jvm.MethodName) ({ cls := "HallDiaryModel", name := "count", desc := "(I)I" } : Jvm.MethodName)) ∈ SW := zq 1203 (by decide +kernel) (by decide +kernel)
theorem q1204 : (Jvm.Cond.code ({ cls := "HallDiaryModel", name := "count", desc := "(I)I" } : Jvm.MethodName) prog_8_method_67_code (2 : Nat) (Option.some Jvm.ClassFile.FieldType.int)) ∈ SW := zq 1204 (by decide +kernel) (by decide +kernel)
theorem q1205 : (Jvm.Cond.methodLink "HallDiaryModel" (216 : Nat) ({ cls := "HallDiaryModel", name := "count0", desc := "(I)I" } : Jvm.MethodName)) ∈ SW := zq 1205 (by decide +kernel) (by decide +kernel)
theorem n1206 : (Jvm.Cond.privateMethod ({ cls := "HallDiaryModel", name := "count0", desc := "(I)I" } : Jvm.MethodName)) ∈ lw_tbl := List.mem_of_getElem? (i := 1206) (by decide +kernel)
theorem q1207 : (Jvm.Cond.instanceMethod ({ cls := "HallDiaryModel", name := "count0", desc := "(I)I" } : Jvm.MethodName)) ∈ SW := zq 1207 (by decide +kernel) (by decide +kernel)
theorem q1208 : (Jvm.Cond.code ({ cls := "HallDiaryModel", name := "count0", desc := "(I)I" } : Jvm.MethodName) prog_8_method_66_code (2 : Nat) (Option.some Jvm.ClassFile.FieldType.int)) ∈ SW := zq 1208 (by decide +kernel) (by decide +kernel)
theorem q1209 : (Jvm.Cond.methodLink "HallDiaryLaw" (162 : Nat) ({ cls := "HallDiaryModel", name := "refusal", desc := "(IIIII)I" } : Jvm.MethodName)) ∈ SW := zq 1209 (by decide +kernel) (by decide +kernel)
theorem q1210 : (Jvm.Cond.instanceMethod ({ cls := "HallDiaryModel", name := "refusal", desc := "(IIIII)I" } : Jvm.MethodName)) ∈ SW := zq 1210 (by decide +kernel) (by decide +kernel)
theorem q1211 : (Jvm.Cond.selects "HallDiaryModel" ({ cls := "HallDiaryModel", name := "refusal", desc := "(IIIII)I" } : Jvm.MethodName) ({ cls := "HallDiaryModel", name := "refusal", desc := "(IIIII)I" } : Jvm.MethodName)) ∈ SW := zq 1211 (by decide +kernel) (by decide +kernel)
theorem q1212 : (Jvm.Cond.code ({ cls := "HallDiaryModel", name := "refusal", desc := "(IIIII)I" } : Jvm.MethodName) prog_8_method_68_code (6 : Nat) (Option.some Jvm.ClassFile.FieldType.int)) ∈ SW := zq 1212 (by decide +kernel) (by decide +kernel)
theorem q1213 : (Jvm.Cond.methodLink "HallDiaryLaw" (166 : Nat) ({ cls := "HallDiaryModel", name := "price", desc := "(IIII)I" } : Jvm.MethodName)) ∈ SW := zq 1213 (by decide +kernel) (by decide +kernel)
theorem q1214 : (Jvm.Cond.instanceMethod ({ cls := "HallDiaryModel", name := "price", desc := "(IIII)I" } : Jvm.MethodName)) ∈ SW := zq 1214 (by decide +kernel) (by decide +kernel)
theorem q1215 : (Jvm.Cond.selects "HallDiaryModel" ({ cls := "HallDiaryModel", name := "price", desc := "(IIII)I" } : Jvm.MethodName) ({ cls := "HallDiaryModel", name := "price", desc := "(IIII)I" } : Jvm.MethodName)) ∈ SW := zq 1215 (by decide +kernel) (by decide +kernel)
theorem q1216 : (Jvm.Cond.code ({ cls := "HallDiaryModel", name := "price", desc := "(IIII)I" } : Jvm.MethodName) prog_8_method_69_code (5 : Nat) (Option.some Jvm.ClassFile.FieldType.int)) ∈ SW := zq 1216 (by decide +kernel) (by decide +kernel)
theorem q1217 : (Jvm.Cond.methodLink "HallDiaryLaw" (169 : Nat) ({ cls := "HallDiaryModel", name := "nextFree", desc := "(III)I" } : Jvm.MethodName)) ∈ SW := zq 1217 (by decide +kernel) (by decide +kernel)
theorem q1218 : (Jvm.Cond.instanceMethod ({ cls := "HallDiaryModel", name := "nextFree", desc := "(III)I" } : Jvm.MethodName)) ∈ SW := zq 1218 (by decide +kernel) (by decide +kernel)
theorem q1219 : (Jvm.Cond.selects "HallDiaryModel" ({ cls := "HallDiaryModel", name := "nextFree", desc := "(III)I" } : Jvm.MethodName) ({ cls := "HallDiaryModel", name := "nextFree", desc := "(III)I" } : Jvm.MethodName)) ∈ SW := zq 1219 (by decide +kernel) (by decide +kernel)
theorem q1220 : (Jvm.Cond.code ({ cls := "HallDiaryModel", name := "nextFree", desc := "(III)I" } : Jvm.MethodName) prog_8_method_71_code (4 : Nat) (Option.some Jvm.ClassFile.FieldType.int)) ∈ SW := zq 1220 (by decide +kernel) (by decide +kernel)
theorem q1221 : (Jvm.Cond.methodLink "HallDiaryModel" (219 : Nat) ({ cls := "HallDiaryModel", name := "freeFrom", desc := "(III)I" } : Jvm.MethodName)) ∈ SW := zq 1221 (by decide +kernel) (by decide +kernel)
theorem n1222 : (Jvm.Cond.privateMethod ({ cls := "HallDiaryModel", name := "freeFrom", desc := "(III)I" } : Jvm.MethodName)) ∈ lw_tbl := List.mem_of_getElem? (i := 1222) (by decide +kernel)
theorem q1223 : (Jvm.Cond.instanceMethod ({ cls := "HallDiaryModel", name := "freeFrom", desc := "(III)I" } : Jvm.MethodName)) ∈ SW := zq 1223 (by decide +kernel) (by decide +kernel)
theorem q1224 : (Jvm.Cond.code ({ cls := "HallDiaryModel", name := "freeFrom", desc := "(III)I" } : Jvm.MethodName) prog_8_method_70_code (6 : Nat) (Option.some Jvm.ClassFile.FieldType.int)) ∈ SW := zq 1224 (by decide +kernel) (by decide +kernel)
theorem q1225 : (Jvm.Cond.methodLink "HallDiaryLaw" (173 : Nat) ({ cls := "HallDiaryModel", name := "best", desc := "()I" } : Jvm.MethodName)) ∈ SW := zq 1225 (by decide +kernel) (by decide +kernel)
theorem q1226 : (Jvm.Cond.instanceMethod ({ cls := "HallDiaryModel", name := "best", desc := "()I" } : Jvm.MethodName)) ∈ SW := zq 1226 (by decide +kernel) (by decide +kernel)
theorem q1227 : (Jvm.Cond.selects "HallDiaryModel" ({ cls := "HallDiaryModel", name := "best", desc := "()I" } : Jvm.MethodName) ({ cls := "HallDiaryModel", name := "best", desc := "()I" } : Jvm.MethodName)) ∈ SW := zq 1227 (by decide +kernel) (by decide +kernel)
theorem q1228 : (Jvm.Cond.code ({ cls := "HallDiaryModel", name := "best", desc := "()I" } : Jvm.MethodName) prog_8_method_73_code (1 : Nat) (Option.some Jvm.ClassFile.FieldType.int)) ∈ SW := zq 1228 (by decide +kernel) (by decide +kernel)
theorem q1229 : (Jvm.Cond.methodLink "HallDiaryModel" (222 : Nat) ({ cls := "HallDiaryModel", name := "bestTenant", desc := "()I" } : Jvm.MethodName)) ∈ SW := zq 1229 (by decide +kernel) (by decide +kernel)
theorem n1230 : (Jvm.Cond.privateMethod ({ cls := "HallDiaryModel", name := "bestTenant", desc := "()I" } : Jvm.MethodName)) ∈ lw_tbl := List.mem_of_getElem? (i := 1230) (by decide +kernel)
theorem q1231 : (Jvm.Cond.instanceMethod ({ cls := "HallDiaryModel", name := "bestTenant", desc := "()I" } : Jvm.MethodName)) ∈ SW := zq 1231 (by decide +kernel) (by decide +kernel)
theorem q1232 : (Jvm.Cond.code ({ cls := "HallDiaryModel", name := "bestTenant", desc := "()I" } : Jvm.MethodName) prog_8_method_72_code (5 : Nat) (Option.some Jvm.ClassFile.FieldType.int)) ∈ SW := zq 1232 (by decide +kernel) (by decide +kernel)
theorem q1233 : (Jvm.Cond.methodLink "HallDiaryLaw" (177 : Nat) ({ cls := "HallDiaryModel", name := "fullness", desc := "(I)D" } : Jvm.MethodName)) ∈ SW := zq 1233 (by decide +kernel) (by decide +kernel)
theorem q1234 : (Jvm.Cond.instanceMethod ({ cls := "HallDiaryModel", name := "fullness", desc := "(I)D" } : Jvm.MethodName)) ∈ SW := zq 1234 (by decide +kernel) (by decide +kernel)
theorem q1235 : (Jvm.Cond.selects "HallDiaryModel" ({ cls := "HallDiaryModel", name := "fullness", desc := "(I)D" } : Jvm.MethodName) ({ cls := "HallDiaryModel", name := "fullness", desc := "(I)D" } : Jvm.MethodName)) ∈ SW := zq 1235 (by decide +kernel) (by decide +kernel)
theorem q1236 : (Jvm.Cond.code ({ cls := "HallDiaryModel", name := "fullness", desc := "(I)D" } : Jvm.MethodName) prog_8_method_75_code (2 : Nat) (Option.some Jvm.ClassFile.FieldType.double)) ∈ SW := zq 1236 (by decide +kernel) (by decide +kernel)
theorem q1237 : (Jvm.Cond.methodLink "HallDiaryModel" (227 : Nat) ({ cls := "HallDiaryModel", name := "share", desc := "(I)D" } : Jvm.MethodName)) ∈ SW := zq 1237 (by decide +kernel) (by decide +kernel)
theorem n1238 : (Jvm.Cond.privateMethod ({ cls := "HallDiaryModel", name := "share", desc := "(I)D" } : Jvm.MethodName)) ∈ lw_tbl := List.mem_of_getElem? (i := 1238) (by decide +kernel)
theorem q1239 : (Jvm.Cond.instanceMethod ({ cls := "HallDiaryModel", name := "share", desc := "(I)D" } : Jvm.MethodName)) ∈ SW := zq 1239 (by decide +kernel) (by decide +kernel)
theorem q1240 : (Jvm.Cond.code ({ cls := "HallDiaryModel", name := "share", desc := "(I)D" } : Jvm.MethodName) prog_8_method_74_code (4 : Nat) (Option.some Jvm.ClassFile.FieldType.double)) ∈ SW := zq 1240 (by decide +kernel) (by decide +kernel)
theorem q1241 : (Jvm.Cond.constantDouble "HallDiaryModel" (225 : Nat) (4656581277212737536 : UInt64)) ∈ SW := zq 1241 (by decide +kernel) (by decide +kernel)
theorem q1242 : (Jvm.Cond.methodLink "HallDiaryLaw" (182 : Nat) ({ cls := "HallDiaryModel", name := "meanRent", desc := "()F" } : Jvm.MethodName)) ∈ SW := zq 1242 (by decide +kernel) (by decide +kernel)
theorem q1243 : (Jvm.Cond.instanceMethod ({ cls := "HallDiaryModel", name := "meanRent", desc := "()F" } : Jvm.MethodName)) ∈ SW := zq 1243 (by decide +kernel) (by decide +kernel)
theorem q1244 : (Jvm.Cond.selects "HallDiaryModel" ({ cls := "HallDiaryModel", name := "meanRent", desc := "()F" } : Jvm.MethodName) ({ cls := "HallDiaryModel", name := "meanRent", desc := "()F" } : Jvm.MethodName)) ∈ SW := zq 1244 (by decide +kernel) (by decide +kernel)
theorem q1245 : (Jvm.Cond.code ({ cls := "HallDiaryModel", name := "meanRent", desc := "()F" } : Jvm.MethodName) prog_8_method_77_code (1 : Nat) (Option.some Jvm.ClassFile.FieldType.float)) ∈ SW := zq 1245 (by decide +kernel) (by decide +kernel)
theorem q1246 : (Jvm.Cond.methodLink "HallDiaryModel" (232 : Nat) ({ cls := "HallDiaryModel", name := "mean", desc := "()F" } : Jvm.MethodName)) ∈ SW := zq 1246 (by decide +kernel) (by decide +kernel)
theorem n1247 : (Jvm.Cond.privateMethod ({ cls := "HallDiaryModel", name := "mean", desc := "()F" } : Jvm.MethodName)) ∈ lw_tbl := List.mem_of_getElem? (i := 1247) (by decide +kernel)
theorem q1248 : (Jvm.Cond.instanceMethod ({ cls := "HallDiaryModel", name := "mean", desc := "()F" } : Jvm.MethodName)) ∈ SW := zq 1248 (by decide +kernel) (by decide +kernel)
theorem q1249 : (Jvm.Cond.code ({ cls := "HallDiaryModel", name := "mean", desc := "()F" } : Jvm.MethodName) prog_8_method_76_code (1 : Nat) (Option.some Jvm.ClassFile.FieldType.float)) ∈ SW := zq 1249 (by decide +kernel) (by decide +kernel)
theorem q1250 : (Jvm.Cond.constantFloat "HallDiaryModel" (231 : Nat) (1118306304 : UInt32)) ∈ SW := zq 1250 (by decide +kernel) (by decide +kernel)
theorem q1251 : (Jvm.Cond.methodLink "HallDiaryLaw" (187 : Nat) ({ cls := "HallDiaryModel", name := "digest", desc := "()J" } : Jvm.MethodName)) ∈ SW := zq 1251 (by decide +kernel) (by decide +kernel)
theorem q1252 : (Jvm.Cond.instanceMethod ({ cls := "HallDiaryModel", name := "digest", desc := "()J" } : Jvm.MethodName)) ∈ SW := zq 1252 (by decide +kernel) (by decide +kernel)
theorem q1253 : (Jvm.Cond.selects "HallDiaryModel" ({ cls := "HallDiaryModel", name := "digest", desc := "()J" } : Jvm.MethodName) ({ cls := "HallDiaryModel", name := "digest", desc := "()J" } : Jvm.MethodName)) ∈ SW := zq 1253 (by decide +kernel) (by decide +kernel)
theorem q1254 : (Jvm.Cond.code ({ cls := "HallDiaryModel", name := "digest", desc := "()J" } : Jvm.MethodName) prog_8_method_81_code (2 : Nat) (Option.some Jvm.ClassFile.FieldType.long)) ∈ SW := zq 1254 (by decide +kernel) (by decide +kernel)
theorem q1255 : (Jvm.Cond.constantLong "HallDiaryModel" (252 : Nat) (3709 : Int64)) ∈ SW := zq 1255 (by decide +kernel) (by decide +kernel)
theorem q1256 : (Jvm.Cond.methodLink "HallDiaryModel" (242 : Nat) ({ cls := "HallDiaryModel", name := "mix", desc := "(J)V" } : Jvm.MethodName)) ∈ SW := zq 1256 (by decide +kernel) (by decide +kernel)
theorem n1257 : (Jvm.Cond.privateMethod ({ cls := "HallDiaryModel", name := "mix", desc := "(J)V" } : Jvm.MethodName)) ∈ lw_tbl := List.mem_of_getElem? (i := 1257) (by decide +kernel)
theorem q1258 : (Jvm.Cond.instanceMethod ({ cls := "HallDiaryModel", name := "mix", desc := "(J)V" } : Jvm.MethodName)) ∈ SW := zq 1258 (by decide +kernel) (by decide +kernel)
theorem q1259 : (Jvm.Cond.code ({ cls := "HallDiaryModel", name := "mix", desc := "(J)V" } : Jvm.MethodName) prog_8_method_78_code (3 : Nat) (Option.none : Option Jvm.ClassFile.FieldType)) ∈ SW := zq 1259 (by decide +kernel) (by decide +kernel)
theorem q1260 : (Jvm.Cond.constantLong "HallDiaryModel" (236 : Nat) (31 : Int64)) ∈ SW := zq 1260 (by decide +kernel) (by decide +kernel)
theorem q1261 : (Jvm.Cond.methodLink "HallDiaryModel" (254 : Nat) ({ cls := "HallDiaryModel", name := "mixLets", desc := "()V" } : Jvm.MethodName)) ∈ SW := zq 1261 (by decide +kernel) (by decide +kernel)
theorem n1262 : (Jvm.Cond.privateMethod ({ cls := "HallDiaryModel", name := "mixLets", desc := "()V" } : Jvm.MethodName)) ∈ lw_tbl := List.mem_of_getElem? (i := 1262) (by decide +kernel)
theorem q1263 : (Jvm.Cond.instanceMethod ({ cls := "HallDiaryModel", name := "mixLets", desc := "()V" } : Jvm.MethodName)) ∈ SW := zq 1263 (by decide +kernel) (by decide +kernel)
theorem q1264 : (Jvm.Cond.code ({ cls := "HallDiaryModel", name := "mixLets", desc := "()V" } : Jvm.MethodName) prog_8_method_79_code (2 : Nat) (Option.none : Option Jvm.ClassFile.FieldType)) ∈ SW := zq 1264 (by decide +kernel) (by decide +kernel)
theorem q1265 : (Jvm.Cond.methodLink "HallDiaryModel" (257 : Nat) ({ cls := "HallDiaryModel", name := "mixHall", desc := "(I)V" } : Jvm.MethodName)) ∈ SW := zq 1265 (by decide +kernel) (by decide +kernel)
theorem n1266 : (Jvm.Cond.privateMethod ({ cls := "HallDiaryModel", name := "mixHall", desc := "(I)V" } : Jvm.MethodName)) ∈ lw_tbl := List.mem_of_getElem? (i := 1266) (by decide +kernel)
theorem q1267 : (Jvm.Cond.instanceMethod ({ cls := "HallDiaryModel", name := "mixHall", desc := "(I)V" } : Jvm.MethodName)) ∈ SW := zq 1267 (by decide +kernel) (by decide +kernel)
theorem q1268 : (Jvm.Cond.code ({ cls := "HallDiaryModel", name := "mixHall", desc := "(I)V" } : Jvm.MethodName) prog_8_method_80_code (3 : Nat) (Option.none : Option Jvm.ClassFile.FieldType)) ∈ SW := zq 1268 (by decide +kernel) (by decide +kernel)
theorem q1269 : (Jvm.Cond.methodLink "HallDiaryModel" (246 : Nat) ({ cls := "java/lang/Double", name := "doubleToLongBits", desc := "(D)J" } : Jvm.MethodName)) ∈ SW := zq 1269 (by decide +kernel) (by decide +kernel)
theorem q1270 : (Jvm.Cond.static ({ cls := "java/lang/Double", name := "doubleToLongBits", desc := "(D)J" } : Jvm.MethodName)) ∈ SW := zq 1270 (by decide +kernel) (by decide +kernel)
theorem q1271 : (Jvm.Cond.code ({ cls := "java/lang/Double", name := "doubleToLongBits", desc := "(D)J" } : Jvm.MethodName) prog_9_method_23_code (2 : Nat) (Option.some Jvm.ClassFile.FieldType.long)) ∈ SW := zq 1271 (by decide +kernel) (by decide +kernel)
theorem q1272 : (Jvm.Cond.methodLink "java/lang/Double" (122 : Nat) ({ cls := "java/lang/Double", name := "isNaN", desc := "(D)Z" } : Jvm.MethodName)) ∈ SW := zq 1272 (by decide +kernel) (by decide +kernel)
theorem q1273 : (Jvm.Cond.static ({ cls := "java/lang/Double", name := "isNaN", desc := "(D)Z" } : Jvm.MethodName)) ∈ SW := zq 1273 (by decide +kernel) (by decide +kernel)
theorem q1274 : (Jvm.Cond.code ({ cls := "java/lang/Double", name := "isNaN", desc := "(D)Z" } : Jvm.MethodName) prog_9_method_6_code (2 : Nat) (Option.some Jvm.ClassFile.FieldType.boolean)) ∈ SW := zq 1274 (by decide +kernel) (by decide +kernel)
theorem q1275 : (Jvm.Cond.methodLink "java/lang/Double" (134 : Nat) ({ cls := "java/lang/Double", name := "doubleToRawLongBits", desc := "(D)J" } : Jvm.MethodName)) ∈ SW := zq 1275 (by decide +kernel) (by decide +kernel)
theorem q1276 : (Jvm.Cond.static ({ cls := "java/lang/Double", name := "doubleToRawLongBits", desc := "(D)J" } : Jvm.MethodName)) ∈ SW := zq 1276 (by decide +kernel) (by decide +kernel)
theorem q1277 : (Jvm.Cond.native ({ cls := "java/lang/Double", name := "doubleToRawLongBits", desc := "(D)J" } : Jvm.MethodName)) ∈ SW := zq 1277 (by decide +kernel) (by decide +kernel)
theorem q1278 : (Jvm.Cond.constantLong "java/lang/Double" (137 : Nat) (9221120237041090560 : Int64)) ∈ SW := zq 1278 (by decide +kernel) (by decide +kernel)
theorem q1279 : (Jvm.Cond.methodLink "HallDiaryModel" (260 : Nat) ({ cls := "java/lang/Float", name := "floatToIntBits", desc := "(F)I" } : Jvm.MethodName)) ∈ SW := zq 1279 (by decide +kernel) (by decide +kernel)
theorem q1280 : (Jvm.Cond.static ({ cls := "java/lang/Float", name := "floatToIntBits", desc := "(F)I" } : Jvm.MethodName)) ∈ SW := zq 1280 (by decide +kernel) (by decide +kernel)
theorem q1281 : (Jvm.Cond.code ({ cls := "java/lang/Float", name := "floatToIntBits", desc := "(F)I" } : Jvm.MethodName) prog_11_method_24_code (1 : Nat) (Option.some Jvm.ClassFile.FieldType.int)) ∈ SW := zq 1281 (by decide +kernel) (by decide +kernel)
theorem q1282 : (Jvm.Cond.methodLink "java/lang/Float" (59 : Nat) ({ cls := "java/lang/Float", name := "isNaN", desc := "(F)Z" } : Jvm.MethodName)) ∈ SW := zq 1282 (by decide +kernel) (by decide +kernel)
theorem q1283 : (Jvm.Cond.static ({ cls := "java/lang/Float", name := "isNaN", desc := "(F)Z" } : Jvm.MethodName)) ∈ SW := zq 1283 (by decide +kernel) (by decide +kernel)
theorem q1284 : (Jvm.Cond.code ({ cls := "java/lang/Float", name := "isNaN", desc := "(F)Z" } : Jvm.MethodName) prog_11_method_6_code (1 : Nat) (Option.some Jvm.ClassFile.FieldType.boolean)) ∈ SW := zq 1284 (by decide +kernel) (by decide +kernel)
theorem q1285 : (Jvm.Cond.methodLink "java/lang/Float" (74 : Nat) ({ cls := "java/lang/Float", name := "floatToRawIntBits", desc := "(F)I" } : Jvm.MethodName)) ∈ SW := zq 1285 (by decide +kernel) (by decide +kernel)
theorem q1286 : (Jvm.Cond.static ({ cls := "java/lang/Float", name := "floatToRawIntBits", desc := "(F)I" } : Jvm.MethodName)) ∈ SW := zq 1286 (by decide +kernel) (by decide +kernel)
theorem q1287 : (Jvm.Cond.native ({ cls := "java/lang/Float", name := "floatToRawIntBits", desc := "(F)I" } : Jvm.MethodName)) ∈ SW := zq 1287 (by decide +kernel) (by decide +kernel)
theorem q1288 : (Jvm.Cond.constant "java/lang/Float" (77 : Nat) (2143289344 : Int32)) ∈ SW := zq 1288 (by decide +kernel) (by decide +kernel)
theorem q1289 : (Jvm.Cond.arrayClass Jvm.ClassFile.FieldType.long) ∈ SW := zq 1289 (by decide +kernel) (by decide +kernel)
theorem q1290 : (Jvm.Cond.arrayClass Jvm.ClassFile.FieldType.double) ∈ SW := zq 1290 (by decide +kernel) (by decide +kernel)
theorem n1291 : (Jvm.Cond.sameMethod "java/lang/Throwable" "java/lang/Throwable" "fillInStackTrace" "(I)Ljava/lang/Throwable;") ∈ lw_tbl := List.mem_of_getElem? (i := 1291) (by decide +kernel)
theorem q1292 : (Jvm.Cond.fieldLink "java/lang/String" (15 : Nat) "java/lang/String" "coder" "B") ∈ SW := zq 1292 (by decide +kernel) (by decide +kernel)
theorem q1293 : (Jvm.Cond.fieldLink "java/lang/String" (9 : Nat) "java/lang/String" "value" "[B") ∈ SW := zq 1293 (by decide +kernel) (by decide +kernel)
theorem iwX0 : ∀ w ∈ u_ws RX0 TX0 4, w ∈ SW := by decide +kernel
theorem iwX1 : ∀ w ∈ u_ws RX1 TX1 10, w ∈ SW := by decide +kernel
theorem iwX2 : ∀ w ∈ u_ws RX2 TX2 5, w ∈ SW := by decide +kernel
theorem iwX3 : ∀ w ∈ u_ws RX3 TX3 2, w ∈ SW := by decide +kernel
theorem iwX4 : ∀ w ∈ u_ws RX4 TX4 7, w ∈ SW := by decide +kernel
theorem iwX5 : ∀ w ∈ u_ws RX5 TX5 8, w ∈ SW := by decide +kernel
theorem iwX6 : ∀ w ∈ u_ws RX6 TX6 19, w ∈ SW := by decide +kernel
end
section
/-! G: a logic over W: everything of the machine is put away; memory is a function of numbered cells (zM), rho places them in the heap -/
abbrev zE : Type := (Nat × vp_A) ⊕ (Nat × List Value)
abbrev zM : Type := Nat → Option zE
abbrev zO : Type := Option Value ⊕ String
/-- a method: name, class by which its code names itself, bytes, locals, return, handlers -/
abbrev zI : Type := MethodName × String × ByteArray × Nat × Option FieldType × List (Nat × Nat × Nat × Nat)
abbrev zP : Type := zM → Option Nat → zO → Prop
/-- where cells lie, class numbers, array class numbers, the first cell that may be written -/
abbrev zG : Type := (Nat → Nat) × va_G × (Nat → ClassId) × Nat
def z_v (r : Nat → Nat) (v : Value) : Value := match v with
  | .ref a => .ref (r a)
  | .int x => .int x
  | .long x => .long x
  | .float x => .float x
  | .double x => .double x
  | .null => .null
  | .retAddr a => .retAddr a
theorem z_v_cat (r : Nat → Nat) (v : Value) : (z_v r v).category = v.category := by cases v <;> rfl
def z_a (r : Nat → Nat) (x : vp_A) : vp_A := match x with
  | (n, .inl f) => (n, .inl f)
  | (n, .inr (.inl f)) => (n, .inr (.inl f))
  | (n, .inr (.inr (.inl f))) => (n, .inr (.inr (.inl f)))
  | (n, .inr (.inr (.inr (.inl f)))) => (n, .inr (.inr (.inr (.inl f))))
  | (n, .inr (.inr (.inr (.inr f)))) => (n, .inr (.inr (.inr (.inr (fun j => (f j).map r)))))
theorem z_a_1 (r : Nat → Nat) (x : vp_A) : (z_a r x).1 = x.1 := by rcases x with ⟨n, f | f | f | f | f⟩ <;> rfl
def z_e (g : zG) (e : zE) : va_E := match e with
  | .inl (t, x) => .inl (g.2.2.1 t, z_a g.1 x)
  | .inr (ci, fs) => .inr (ci, fs.map (z_v g.1))
def z_R (g : zG) (M : zM) (H : Heap) : Prop :=
  (∀ v e, M v = some e → va_at g.2.1 vwCl (g.1 v, z_e g e) H) ∧ ∀ v w, M v ≠ none → M w ≠ none → g.1 v = g.1 w → v = w
def z_N (g : zG) (nx : Option Nat) (M : zM) (H : Heap) : Prop := ∀ n, nx = some n → 8 ≤ n ∧ ∀ v, n ≤ v → g.1 v + n = H.size + v ∧ M v = none
abbrev z_A (g : zG) : Nat → Prop := fun q => g.2.2.2 ≤ q
def z_nests : List (String × Nat × MethodName × String) := [(RX5, 9, ⟨RX4, "<init>", "()V"⟩, RX5), (RX5, 25, ⟨RX2, "<init>", "()V"⟩, RX5), (RX5, 32, ⟨RX0, "<init>", "()V"⟩, RX5), (RX5, 39, ⟨RX1, "<init>", "()V"⟩, RX5), (RX3, 17, ⟨RX1, "<init>", "()V"⟩, RX5), (RX2, 58, ⟨RX5, "isIn", "(III)Z"⟩, RX5), (RX0, 80, ⟨RX5, "isIn", "(III)Z"⟩, RX5), (RX3, 30, ⟨RX5, "isIn", "(III)Z"⟩, RX5)]
def z_texts : List (Nat × String) := [(107, "the let is refused"), (136, "the let does not stand on this day"), (150, "no such setting"), (160, "the diary does not allow this value"), (166, "the buffer is full"), (202, "no state is saved"), (215, "there is no snapshot"), (247, "no such tenant"), (331, "an argument or the text is not as it must be"), (334, "no such hall"), (336, "no such let"), (72, "there are as many regular lets as may be"), (85, "the let would be off on all its days")]
def z_xs : List String := ["java/lang/IllegalArgumentException", "java/lang/IndexOutOfBoundsException", "java/lang/IllegalStateException"]
def z_decl : List String := ["java/lang/RuntimeException", "java/lang/Exception", "java/lang/Throwable"]
abbrev z_tys (g : zG) : List (ClassId × FieldType) := [(g.2.2.1 0, .int), (g.2.2.1 1, .long), (g.2.2.1 2, .double), (g.2.2.1 3, .object RX1), (g.2.2.1 4, .object RX4)]
/-- what holds of the start of every method -/
def z_S (g : zG) (U : State) : Prop :=
  va_K g.2.1 vwCl (z_tys g) U ∧
  (va_Z RX2 "LOWEST" "[I" (.ref (g.1 1)) (z_A g) U U.heap ∧ va_Z RX2 "HIGHEST" "[I" (.ref (g.1 2)) (z_A g) U U.heap ∧ va_Z RX5 "HIGHEST_SETTING" "[I" (.ref (g.1 3)) (z_A g) U U.heap) ∧
  (vx_Zq Bundle.tN "UNASSIGNED_STACK" Bundle.steD (z_A g) U U.heap ∧ vx_Zq Bundle.tN "SUPPRESSED_SENTINEL" Bundle.listD (z_A g) U U.heap) ∧
  (∀ q ∈ z_texts, ∃ a, vk_R RX5 q.1 q.2 a U) ∧
  ((∃ adV, vk_S 1 [6] [[58, 44, 45, 42, 64, 59]] (fun _ => g.1 4) adV (z_A g) U U.heap) ∧ vk_R RX2 44 ":,-*@;" (g.1 4) U) ∧
  (∀ q ∈ z_nests, va_Nw (.methodLinkNest q.1 q.2.1 q.2.2.1 q.2.2.2) U) ∧
  (((∀ q ∈ z_xs, va_Nw (.castable q q) U) ∧ ∀ q ∈ z_decl, va_Nw (.declares ⟨q, "<init>", "(Ljava/lang/String;)V"⟩) U) ∧ (∀ q ∈ z_xs, ∀ q' ∈ z_xs, q ≠ q' → va_Nc q q' U)) ∧
  (va_AO RX1 U ∧ va_AO RX4 U) ∧ g.2.2.2 ≤ U.heap.size
theorem z_S.go {g : zG} {u U : State} (hW : u.WarmedH U.vm) (hz : u.heap.size ≤ U.heap.size) (hq : ∀ a : Nat, a < u.heap.size → ¬ z_A g a → U.heap[a]? = u.heap[a]?) (h : z_S g u) : z_S g U := by
  obtain ⟨h1, ⟨h2, h3, h4⟩, ⟨h5, h6⟩, h7, ⟨⟨adV, h8⟩, h9⟩, h10, ⟨⟨h11, h11b⟩, h12⟩, ⟨h13, h14⟩, h15⟩ := h
  have ha := hW.alike
  exact ⟨h1.moved ha, ⟨(h2.kept hq).moved ha, (h3.kept hq).moved ha, (h4.kept hq).moved ha⟩, ⟨(h5.kept hq).moved ha, (h6.kept hq).moved ha⟩, fun q hm => by obtain ⟨a, h⟩ := h7 q hm; exact ⟨a, h.warm hW⟩, ⟨⟨adV, (h8.kept hq).moved ha⟩, h9.warm hW⟩, fun q hm => (h10 q hm).warmM hW, ⟨⟨fun q hm => (h11 q hm).warmC hW, fun q hm => (h11b q hm).warmD hW⟩, fun q hm q' hm' hn => (h12 q hm q' hm' hn).moved ha⟩, ⟨h13.moved ha, h14.moved ha⟩, Nat.le_trans h15 hz⟩
theorem z_S.calling {g : zG} {u : State} (f : JFrame) (mk : MethodId) (a : Array Value) (h : z_S g u) : z_S g (u.calling f mk a) := h.go (State.WarmedH.refl u) (Nat.le_refl _) (fun _ _ _ => rfl)
/-- lists of locals -/
def zl : List (Nat × Value) → Nat → Option Value
  | [], _ => none
  | q :: t, k => bif Nat.beq q.1 k then some q.2 else zl t k
theorem zl_mem : ∀ {L : List (Nat × Value)} {k : Nat} {v : Value}, zl L k = some v → (k, v) ∈ L
  | [], _, _, h => by cases h
  | q :: t, k, v, h => by
    unfold zl at h
    cases hb : Nat.beq q.1 k with
    | true =>
      rw [hb] at h
      have hk := Nat.eq_of_beq_eq_true hb
      cases h
      subst hk
      exact List.mem_cons_self
    | false =>
      rw [hb] at h
      exact List.mem_cons_of_mem _ (zl_mem h)
def zf1 (i : Nat) : List (Nat × Value) → List (Nat × Value)
  | [] => []
  | q :: t => bif Nat.beq q.1 i || (Nat.beq (q.1 + 1) i && Nat.beq q.2.category 2) then zf1 i t else q :: zf1 i t
def zf2 (i : Nat) : List (Nat × Value) → List (Nat × Value)
  | [] => []
  | q :: t => bif Nat.beq q.1 i || (Nat.beq q.1 (i + 1) || (Nat.beq (q.1 + 1) i && Nat.beq q.2.category 2)) then zf2 i t else q :: zf2 i t
theorem zf1_mem {i : Nat} : ∀ {L : List (Nat × Value)} {q : Nat × Value}, q ∈ zf1 i L → q ∈ L ∧ q.1 ≠ i ∧ ¬ (q.1 + 1 = i ∧ q.2.category = 2)
  | [], _, h => by cases h
  | p :: t, q, h => by
    unfold zf1 at h
    cases hb : (Nat.beq p.1 i || (Nat.beq (p.1 + 1) i && Nat.beq p.2.category 2)) with
    | true =>
      rw [hb] at h
      exact ⟨List.mem_cons_of_mem _ (zf1_mem h).1, (zf1_mem h).2⟩
    | false =>
      rw [hb] at h
      rcases List.mem_cons.mp h with rfl | h
      · simp only [Bool.or_eq_false_iff, Bool.and_eq_false_iff] at hb
        refine ⟨List.mem_cons_self, fun e => ?_, fun e => ?_⟩
        · rw [e, Nat.beq_refl] at hb; cases hb.1
        · rw [e.1, e.2, Nat.beq_refl, Nat.beq_refl] at hb; rcases hb.2 with z | z <;> cases z
      · exact ⟨List.mem_cons_of_mem _ (zf1_mem h).1, (zf1_mem h).2⟩
theorem zf2_mem {i : Nat} : ∀ {L : List (Nat × Value)} {q : Nat × Value}, q ∈ zf2 i L → q ∈ L ∧ q.1 ≠ i ∧ q.1 ≠ i + 1 ∧ ¬ (q.1 + 1 = i ∧ q.2.category = 2)
  | [], _, h => by cases h
  | p :: t, q, h => by
    unfold zf2 at h
    cases hb : (Nat.beq p.1 i || (Nat.beq p.1 (i + 1) || (Nat.beq (p.1 + 1) i && Nat.beq p.2.category 2))) with
    | true =>
      rw [hb] at h
      exact ⟨List.mem_cons_of_mem _ (zf2_mem h).1, (zf2_mem h).2⟩
    | false =>
      rw [hb] at h
      rcases List.mem_cons.mp h with rfl | h
      · simp only [Bool.or_eq_false_iff, Bool.and_eq_false_iff] at hb
        refine ⟨List.mem_cons_self, fun e => ?_, fun e => ?_, fun e => ?_⟩
        · rw [e, Nat.beq_refl] at hb; cases hb.1
        · rw [e, Nat.beq_refl] at hb; cases hb.2.1
        · rw [e.1, e.2, Nat.beq_refl, Nat.beq_refl] at hb; rcases hb.2.2 with z | z <;> cases z
      · exact ⟨List.mem_cons_of_mem _ (zf2_mem h).1, (zf2_mem h).2⟩
theorem lv_has.less {ls : Array Slot} {nL : Nat} {l l' : List (Nat × Value)} (h : lv_has ls nL l) (hl : ∀ q ∈ l', q ∈ l) : lv_has ls nL l' := ⟨h.1, h.2.1, fun q hq => h.2.2 q (hl q hq)⟩
abbrev z_L (g : zG) (L : List (Nat × Value)) : List (Nat × Value) := L.map fun q => (q.1, z_v g.1 q.2)
theorem z_L_zf1 {g : zG} {L : List (Nat × Value)} {i : Nat} {v : Value} : ∀ q ∈ z_L g ((i, v) :: zf1 i L), q ∈ (i, z_v g.1 v) :: (z_L g L).filter (fun q => !(q.1 == i) && !(q.1 + 1 == i && q.2.category == 2)) := by
  intro q hq
  rcases List.mem_cons.mp hq with rfl | hq
  · exact List.mem_cons_self
  · obtain ⟨q0, h0, rfl⟩ := List.mem_map.mp hq
    obtain ⟨h1, h2, h3⟩ := zf1_mem h0
    refine List.mem_cons_of_mem _ (List.mem_filter.mpr ⟨List.mem_map.mpr ⟨q0, h1, rfl⟩, ?_⟩)
    simp only [z_v_cat, Bool.and_eq_true, Bool.not_eq_true', beq_eq_false_iff_ne, ne_eq, Bool.and_eq_false_iff]
    refine ⟨h2, ?_⟩
    by_cases hh : q0.1 + 1 = i
    · exact Or.inr (fun hc => h3 ⟨hh, hc⟩)
    · exact Or.inl hh
theorem z_L_zf2 {g : zG} {L : List (Nat × Value)} {i : Nat} {v : Value} : ∀ q ∈ z_L g ((i, v) :: zf2 i L), q ∈ (i, z_v g.1 v) :: (z_L g L).filter (fun q => !(q.1 == i) && (!(q.1 == i + 1) && !(q.1 + 1 == i && q.2.category == 2))) := by
  intro q hq
  rcases List.mem_cons.mp hq with rfl | hq
  · exact List.mem_cons_self
  · obtain ⟨q0, h0, rfl⟩ := List.mem_map.mp hq
    obtain ⟨h1, h2, h3, h4⟩ := zf2_mem h0
    refine List.mem_cons_of_mem _ (List.mem_filter.mpr ⟨List.mem_map.mpr ⟨q0, h1, rfl⟩, ?_⟩)
    simp only [z_v_cat, Bool.and_eq_true, Bool.not_eq_true', beq_eq_false_iff_ne, ne_eq, Bool.and_eq_false_iff]
    refine ⟨h2, h3, ?_⟩
    by_cases hh : q0.1 + 1 = i
    · exact Or.inr (fun hc => h4 ⟨hh, hc⟩)
    · exact Or.inl hh
theorem z_lk {g : zG} {ls : Array Slot} {nL : Nat} {L : List (Nat × Value)} {k : Nat} {v : Value} (h : lv_has ls nL (z_L g L)) (hl : zl L k = some v) : ls[k]? = some (.val (z_v g.1 v)) := h.2.2 (k, z_v g.1 v) (List.mem_map.mpr ⟨(k, v), zl_mem hl, rfl⟩)
/-- the machine at a method's code -/
def z_C (mi : zI) (d : Nat) (g : zG) (l : Launch) (p : Program) (R : Room) (s : State) (m : MethodId) (args : Array Value) (meth : Method) (c : Code) (mc ms : Nat) : Prop :=
  p.tables.exec = Jvm.exec ∧ c.code = mi.2.2.1 ∧ c.maxLocals = mi.2.2.2.1 ∧ meth.sig.returnType = mi.2.2.2.2.1 ∧ meth.locks = false ∧ c.exceptionTable.toList = tableOf mi.2.2.2.2.2 ∧ s.vm.findClass mi.2.1 = some m.cls ∧ (∀ w ∈ SW, w.before args s = true) ∧ meth.name = mi.1.name ∧ z_S g s ∧ (∀ v, 8 ≤ v → g.2.2.2 ≤ g.1 v) ∧ d ≤ R.frames ∧ 32 * d ≤ R.locals ∧ mc ≤ R.cells ∧ ms ≤ R.slots ∧ l.stackTraces = false
def z_H (mi : zI) (kc ks : Nat) (nx : Option Nat) (L : List (Nat × Value)) (M : zM) (g : zG) (s : State) (H : Heap) (locs : List Loc) (cells slots : Nat) (ls : Array Slot) (mc ms : Nat) : Prop :=
  z_R g M H ∧ z_N g nx M H ∧ va_S (z_A g) s.heap H locs ∧ lv_has ls mi.2.2.2.1 (z_L g L) ∧ cells + kc ≤ mc ∧ slots + ks ≤ ms
def z_Q (g : zG) (F : zP) : Array Value → State → Outcome → State → Prop := fun _ st oc t =>
  (∃ (M : zM) (nx : Option Nat) (v : Option Value), oc = .returned (v.map (z_v g.1)) ∧ F M nx (.inl v) ∧ z_R g M t.heap ∧ z_N g nx M t.heap) ∧ va_F (z_A g) st t
def z_X (g : zG) (F : zP) : String → State → State → Prop := fun E st t => (∃ M : zM, F M none (.inr E) ∧ z_R g M t.heap) ∧ va_F (z_A g) st t
def G (mi : zI) (d kc ks : Nat) (nx : Option Nat) (pc : Nat) (L : List (Nat × Value)) (S : List Value) (M : zM) (F : zP) : Prop :=
  ∀ (l : Launch) (p : Program) (e : Env) (R : Room) (s : State) (m : MethodId) (args : Array Value) (below : List Frame) (meth : Method) (c : Code) (g : zG) (mc ms : Nat), z_C mi d g l p R s m args meth c mc ms →
    ∀ (H : Heap) (locs : List Loc) (cells slots : Nat) (ls : Array Slot), z_H mi kc ks nx L M g s H locs cells slots ls mc ms →
      W p l e R s m args below meth c H locs cells slots (vx_MQ below (z_Q g F) (z_X g F) args s mc ms (z_A g)) (F0 m pc ls (S.map (z_v g.1)))
/-- a contract -/
def Cn (mi : zI) (d kc ks : Nat) (nx : Option Nat) (As : List Value) (M : zM) (F : zP) : Prop := G mi d kc ks nx 0 (lv_args 0 As) [] M F
def zi (r : Int32) (P : zM → Prop) : zP := fun M nx o => nx = none ∧ o = .inl (some (.int r)) ∧ P M
def zj (r : Int64) (P : zM → Prop) : zP := fun M nx o => nx = none ∧ o = .inl (some (.long r)) ∧ P M
def zd (r : UInt64) (P : zM → Prop) : zP := fun M nx o => nx = none ∧ o = .inl (some (.double r)) ∧ P M
def zg (r : UInt32) (P : zM → Prop) : zP := fun M nx o => nx = none ∧ o = .inl (some (.float r)) ∧ P M
def zv (P : zM → Prop) : zP := fun M nx o => nx = none ∧ o = .inl none ∧ P M
def zn (n : Nat) (P : zM → Prop) : zP := fun M nx o => nx = some n ∧ o = .inl none ∧ P M
def zt (E : String) (P : zM → Prop) : zP := fun M nx o => nx = none ∧ o = .inr E ∧ P M
section GR
variable {mi : zI} {d kc ks : Nat} {nx : Option Nat} {pc : Nat} {L : List (Nat × Value)} {S : List Value} {M : zM} {F : zP}
theorem G.to {P : zP} (h : G mi d kc ks nx pc L S M P) (hP : ∀ M nx o, P M nx o → F M nx o) : G mi d kc ks nx pc L S M F := by
  intro l p e R s m args below meth c g mc ms C H locs cells slots ls X T hT Y
  obtain ⟨t, a, o, b1, b2, b3⟩ := h l p e R s m args below meth c g mc ms C H locs cells slots ls X T hT Y
  refine ⟨t, a, o, b1, b2, ?_⟩
  rcases b3 with ⟨⟨⟨M, nx, v, h1, h2, h3⟩, h4⟩, h5⟩ | ⟨q, rfl, E, ce, Ls, ⟨⟨M, h1, h2⟩, h3⟩, h4⟩
  · exact Or.inl ⟨⟨⟨M, nx, v, h1, hP _ _ _ h2, h3⟩, h4⟩, h5⟩
  · exact Or.inr ⟨q, rfl, E, ce, Ls, ⟨⟨M, hP _ _ _ h1, h2⟩, h3⟩, h4⟩
theorem G.up {d' kc' ks' : Nat} (h : G mi d' kc' ks' nx pc L S M F) (h1 : d' ≤ d) (h2 : kc' ≤ kc) (h3 : ks' ≤ ks) : G mi d kc ks nx pc L S M F := by
  intro l p e R s m args below meth c g mc ms C H locs cells slots ls X
  obtain ⟨c1, c2, c3, c4, c5, c6, c7, c8, c9, c10, c11, c12, c13, c14⟩ := C
  obtain ⟨x1, x2, x3, x4, x5, x6⟩ := X
  exact h l p e R s m args below meth c g mc ms ⟨c1, c2, c3, c4, c5, c6, c7, c8, c9, c10, c11, Nat.le_trans h1 c12, by omega, c14⟩ H locs cells slots ls ⟨x1, x2, x3, x4, by omega, by omega⟩
theorem G.none {n : Nat} (h : G mi d kc ks none pc L S M F) : G mi d kc ks (some n) pc L S M F := by
  intro l p e R s m args below meth c g mc ms C H locs cells slots ls X
  obtain ⟨x1, x2, x3, x4, x5, x6⟩ := X
  exact h l p e R s m args below meth c g mc ms C H locs cells slots ls ⟨x1, (fun n hn => nomatch hn), x3, x4, x5, x6⟩
/-- other locals: those that are read off the list -/
theorem g_loc {L' : List (Nat × Value)} (h : L'.map (fun q => zl L q.1) = L'.map (fun q => some q.2)) (k : G mi d kc ks nx pc L' S M F) : G mi d kc ks nx pc L S M F := by
  intro l p e R s m args below meth c g mc ms C H locs cells slots ls X
  obtain ⟨x1, x2, x3, x4, x5⟩ := X
  refine k l p e R s m args below meth c g mc ms C H locs cells slots ls ⟨x1, x2, x3, x4.less (fun q hq => ?_), x5⟩
  obtain ⟨q0, h0, rfl⟩ := List.mem_map.mp hq
  have h1 : zl L q0.1 = some q0.2 := by
    obtain ⟨i, hi, he⟩ := List.getElem_of_mem h0
    have h2 := congrArg (fun l => l[i]?) h
    simp only [List.getElem?_map, List.getElem?_eq_getElem hi, Option.map_some] at h2
    rw [he] at h2
    exact Option.some.inj h2
  exact List.mem_map.mpr ⟨q0, zl_mem h1, rfl⟩
theorem g_m {M' : zM} (h : M = M') (k : G mi d kc ks nx pc L S M' F) : G mi d kc ks nx pc L S M F := h ▸ k
theorem g_s {S' : List Value} (h : S = S') (k : G mi d kc ks nx pc L S' M F) : G mi d kc ks nx pc L S M F := h ▸ k
theorem g_pc {pc' : Nat} (h : pc = pc') (k : G mi d kc ks nx pc' L S M F) : G mi d kc ks nx pc L S M F := h ▸ k
theorem g_iadd {x y : Int32} (hd : decode mi.2.2.1 pc = .ok (.iadd, 1)) (k : G mi d kc ks nx (pc + 1) L (.int (x + y) :: S) M F) : G mi d kc ks nx pc L (.int y :: .int x :: S) M F := by
  intro l p e R s m args below meth c g mc ms C H locs cells slots ls X
  exact lv_iadd C.1 C.2.1 hd (k l p e R s m args below meth c g mc ms C H locs cells slots ls X)
theorem g_isub {x y : Int32} (hd : decode mi.2.2.1 pc = .ok (.isub, 1)) (k : G mi d kc ks nx (pc + 1) L (.int (x - y) :: S) M F) : G mi d kc ks nx pc L (.int y :: .int x :: S) M F := by
  intro l p e R s m args below meth c g mc ms C H locs cells slots ls X
  exact lv_isub C.1 C.2.1 hd (k l p e R s m args below meth c g mc ms C H locs cells slots ls X)
theorem g_imul {x y : Int32} (hd : decode mi.2.2.1 pc = .ok (.imul, 1)) (k : G mi d kc ks nx (pc + 1) L (.int (x * y) :: S) M F) : G mi d kc ks nx pc L (.int y :: .int x :: S) M F := by
  intro l p e R s m args below meth c g mc ms C H locs cells slots ls X
  exact lv_imul C.1 C.2.1 hd (k l p e R s m args below meth c g mc ms C H locs cells slots ls X)
theorem g_iand {x y : Int32} (hd : decode mi.2.2.1 pc = .ok (.iand, 1)) (k : G mi d kc ks nx (pc + 1) L (.int (x &&& y) :: S) M F) : G mi d kc ks nx pc L (.int y :: .int x :: S) M F := by
  intro l p e R s m args below meth c g mc ms C H locs cells slots ls X
  exact lv_iand C.1 C.2.1 hd (k l p e R s m args below meth c g mc ms C H locs cells slots ls X)
theorem g_ior {x y : Int32} (hd : decode mi.2.2.1 pc = .ok (.ior, 1)) (k : G mi d kc ks nx (pc + 1) L (.int (x ||| y) :: S) M F) : G mi d kc ks nx pc L (.int y :: .int x :: S) M F := by
  intro l p e R s m args below meth c g mc ms C H locs cells slots ls X
  exact lv_ior C.1 C.2.1 hd (k l p e R s m args below meth c g mc ms C H locs cells slots ls X)
theorem g_ixor {x y : Int32} (hd : decode mi.2.2.1 pc = .ok (.ixor, 1)) (k : G mi d kc ks nx (pc + 1) L (.int (x ^^^ y) :: S) M F) : G mi d kc ks nx pc L (.int y :: .int x :: S) M F := by
  intro l p e R s m args below meth c g mc ms C H locs cells slots ls X
  exact lv_ixor C.1 C.2.1 hd (k l p e R s m args below meth c g mc ms C H locs cells slots ls X)
theorem g_ishl {x y : Int32} (hd : decode mi.2.2.1 pc = .ok (.ishl, 1)) (k : G mi d kc ks nx (pc + 1) L (.int (x <<< (y &&& 31)) :: S) M F) : G mi d kc ks nx pc L (.int y :: .int x :: S) M F := by
  intro l p e R s m args below meth c g mc ms C H locs cells slots ls X
  exact lv_ishl C.1 C.2.1 hd (k l p e R s m args below meth c g mc ms C H locs cells slots ls X)
theorem g_ishr {x y : Int32} (hd : decode mi.2.2.1 pc = .ok (.ishr, 1)) (k : G mi d kc ks nx (pc + 1) L (.int (x >>> (y &&& 31)) :: S) M F) : G mi d kc ks nx pc L (.int y :: .int x :: S) M F := by
  intro l p e R s m args below meth c g mc ms C H locs cells slots ls X
  exact lv_ishr C.1 C.2.1 hd (k l p e R s m args below meth c g mc ms C H locs cells slots ls X)
theorem g_idiv {x y : Int32} (hd : decode mi.2.2.1 pc = .ok (.idiv, 1)) (hne : ¬ y = 0) (k : G mi d kc ks nx (pc + 1) L (.int (x / y) :: S) M F) : G mi d kc ks nx pc L (.int y :: .int x :: S) M F := by
  intro l p e R s m args below meth c g mc ms C H locs cells slots ls X
  exact lv_idiv C.1 C.2.1 hd hne (k l p e R s m args below meth c g mc ms C H locs cells slots ls X)
theorem g_irem {x y : Int32} (hd : decode mi.2.2.1 pc = .ok (.irem, 1)) (hne : ¬ y = 0) (k : G mi d kc ks nx (pc + 1) L (.int (x - x / y * y) :: S) M F) : G mi d kc ks nx pc L (.int y :: .int x :: S) M F := by
  intro l p e R s m args below meth c g mc ms C H locs cells slots ls X
  exact lv_irem C.1 C.2.1 hd hne (k l p e R s m args below meth c g mc ms C H locs cells slots ls X)
theorem g_ineg {x : Int32} (hd : decode mi.2.2.1 pc = .ok (.ineg, 1)) (k : G mi d kc ks nx (pc + 1) L (.int (-x) :: S) M F) : G mi d kc ks nx pc L (.int x :: S) M F := by
  intro l p e R s m args below meth c g mc ms C H locs cells slots ls X
  exact lv_ineg C.1 C.2.1 hd (k l p e R s m args below meth c g mc ms C H locs cells slots ls X)
theorem g_iushr {x y v : Int32} (hd : decode mi.2.2.1 pc = .ok (.iushr, 1)) (hv : (x.toUInt32 >>> (y.toUInt32 &&& Int32.toUInt32 31)).toInt32 = v) (k : G mi d kc ks nx (pc + 1) L (.int v :: S) M F) : G mi d kc ks nx pc L (.int y :: .int x :: S) M F := by
  intro l p e R s m args below meth c g mc ms C H locs cells slots ls X
  exact lv_iushr C.1 C.2.1 hd hv (k l p e R s m args below meth c g mc ms C H locs cells slots ls X)
theorem g_ladd {x y : Int64} (hd : decode mi.2.2.1 pc = .ok (.ladd, 1)) (k : G mi d kc ks nx (pc + 1) L (.long (x + y) :: S) M F) : G mi d kc ks nx pc L (.long y :: .long x :: S) M F := by
  intro l p e R s m args below meth c g mc ms C H locs cells slots ls X
  exact lv_ladd C.1 C.2.1 hd (k l p e R s m args below meth c g mc ms C H locs cells slots ls X)
theorem g_lsub {x y : Int64} (hd : decode mi.2.2.1 pc = .ok (.lsub, 1)) (k : G mi d kc ks nx (pc + 1) L (.long (x - y) :: S) M F) : G mi d kc ks nx pc L (.long y :: .long x :: S) M F := by
  intro l p e R s m args below meth c g mc ms C H locs cells slots ls X
  exact lv_lsub C.1 C.2.1 hd (k l p e R s m args below meth c g mc ms C H locs cells slots ls X)
theorem g_lmul {x y : Int64} (hd : decode mi.2.2.1 pc = .ok (.lmul, 1)) (k : G mi d kc ks nx (pc + 1) L (.long (x * y) :: S) M F) : G mi d kc ks nx pc L (.long y :: .long x :: S) M F := by
  intro l p e R s m args below meth c g mc ms C H locs cells slots ls X
  exact lv_lmul C.1 C.2.1 hd (k l p e R s m args below meth c g mc ms C H locs cells slots ls X)
theorem g_land {x y : Int64} (hd : decode mi.2.2.1 pc = .ok (.land, 1)) (k : G mi d kc ks nx (pc + 1) L (.long (x &&& y) :: S) M F) : G mi d kc ks nx pc L (.long y :: .long x :: S) M F := by
  intro l p e R s m args below meth c g mc ms C H locs cells slots ls X
  exact lv_land C.1 C.2.1 hd (k l p e R s m args below meth c g mc ms C H locs cells slots ls X)
theorem g_lor {x y : Int64} (hd : decode mi.2.2.1 pc = .ok (.lor, 1)) (k : G mi d kc ks nx (pc + 1) L (.long (x ||| y) :: S) M F) : G mi d kc ks nx pc L (.long y :: .long x :: S) M F := by
  intro l p e R s m args below meth c g mc ms C H locs cells slots ls X
  exact lv_lor C.1 C.2.1 hd (k l p e R s m args below meth c g mc ms C H locs cells slots ls X)
theorem g_lshl {x v : Int64} {y : Int32} (hd : decode mi.2.2.1 pc = .ok (.lshl, 1)) (hv : x <<< (y.toInt64 &&& 63) = v) (k : G mi d kc ks nx (pc + 1) L (.long v :: S) M F) : G mi d kc ks nx pc L (.int y :: .long x :: S) M F := by
  intro l p e R s m args below meth c g mc ms C H locs cells slots ls X
  exact lv_lshl C.1 C.2.1 hd hv (k l p e R s m args below meth c g mc ms C H locs cells slots ls X)
theorem g_lcmp {x y : Int64} (hd : decode mi.2.2.1 pc = .ok (.lcmp, 1)) (k : G mi d kc ks nx (pc + 1) L (.int (lg_cmp x y) :: S) M F) : G mi d kc ks nx pc L (.long y :: .long x :: S) M F := by
  intro l p e R s m args below meth c g mc ms C H locs cells slots ls X
  exact W.lcmp C.1 C.2.1 hd (k l p e R s m args below meth c g mc ms C H locs cells slots ls X)
theorem g_i2l {x : Int32} (hd : decode mi.2.2.1 pc = .ok (.i2l, 1)) (k : G mi d kc ks nx (pc + 1) L (.long x.toInt64 :: S) M F) : G mi d kc ks nx pc L (.int x :: S) M F := by
  intro l p e R s m args below meth c g mc ms C H locs cells slots ls X
  exact lv_i2l C.1 C.2.1 hd rfl (k l p e R s m args below meth c g mc ms C H locs cells slots ls X)
theorem g_l2i {x : Int64} (hd : decode mi.2.2.1 pc = .ok (.l2i, 1)) (k : G mi d kc ks nx (pc + 1) L (.int x.toInt32 :: S) M F) : G mi d kc ks nx pc L (.long x :: S) M F := by
  intro l p e R s m args below meth c g mc ms C H locs cells slots ls X
  exact lv_l2i C.1 C.2.1 hd rfl (k l p e R s m args below meth c g mc ms C H locs cells slots ls X)
theorem g_i2d {x : Int32} (hd : decode mi.2.2.1 pc = .ok (.i2d, 1)) (k : G mi d kc ks nx (pc + 1) L (.double (FP.i2d x) :: S) M F) : G mi d kc ks nx pc L (.int x :: S) M F := by
  intro l p e R s m args below meth c g mc ms C H locs cells slots ls X
  exact lv_i2d C.1 C.2.1 hd (k l p e R s m args below meth c g mc ms C H locs cells slots ls X)
theorem g_l2d {x : Int64} (hd : decode mi.2.2.1 pc = .ok (.l2d, 1)) (k : G mi d kc ks nx (pc + 1) L (.double (FP.l2d x) :: S) M F) : G mi d kc ks nx pc L (.long x :: S) M F := by
  intro l p e R s m args below meth c g mc ms C H locs cells slots ls X
  exact lv_l2d C.1 C.2.1 hd (k l p e R s m args below meth c g mc ms C H locs cells slots ls X)
theorem g_i2f {x : Int32} (hd : decode mi.2.2.1 pc = .ok (.i2f, 1)) (k : G mi d kc ks nx (pc + 1) L (.float (FP.i2f x) :: S) M F) : G mi d kc ks nx pc L (.int x :: S) M F := by
  intro l p e R s m args below meth c g mc ms C H locs cells slots ls X
  exact lv_i2f C.1 C.2.1 hd (k l p e R s m args below meth c g mc ms C H locs cells slots ls X)
theorem g_d2l {x : UInt64} (hd : decode mi.2.2.1 pc = .ok (.d2l, 1)) (k : G mi d kc ks nx (pc + 1) L (.long (FP.d2l x) :: S) M F) : G mi d kc ks nx pc L (.double x :: S) M F := by
  intro l p e R s m args below meth c g mc ms C H locs cells slots ls X
  exact lv_d2l C.1 C.2.1 hd (k l p e R s m args below meth c g mc ms C H locs cells slots ls X)
theorem g_f2d {x : UInt32} (hd : decode mi.2.2.1 pc = .ok (.f2d, 1)) (hn : vf_n64 (FP.f2d x)) (k : G mi d kc ks nx (pc + 1) L (.double (FP.f2d x) :: S) M F) : G mi d kc ks nx pc L (.float x :: S) M F := by
  intro l p e R s m args below meth c g mc ms C H locs cells slots ls X
  exact lv_f2d C.1 C.2.1 hd hn (k l p e R s m args below meth c g mc ms C H locs cells slots ls X)
theorem g_dadd {x y : UInt64} (hd : decode mi.2.2.1 pc = .ok (.dadd, 1)) (hn : vf_n64 (FP.dadd x y)) (k : G mi d kc ks nx (pc + 1) L (.double (FP.dadd x y) :: S) M F) : G mi d kc ks nx pc L (.double y :: .double x :: S) M F := by
  intro l p e R s m args below meth c g mc ms C H locs cells slots ls X
  exact lv_dadd C.1 C.2.1 hd hn (k l p e R s m args below meth c g mc ms C H locs cells slots ls X)
theorem g_dsub {x y : UInt64} (hd : decode mi.2.2.1 pc = .ok (.dsub, 1)) (hn : vf_n64 (FP.dsub x y)) (k : G mi d kc ks nx (pc + 1) L (.double (FP.dsub x y) :: S) M F) : G mi d kc ks nx pc L (.double y :: .double x :: S) M F := by
  intro l p e R s m args below meth c g mc ms C H locs cells slots ls X
  exact lv_dsub C.1 C.2.1 hd hn (k l p e R s m args below meth c g mc ms C H locs cells slots ls X)
theorem g_dmul {x y : UInt64} (hd : decode mi.2.2.1 pc = .ok (.dmul, 1)) (hn : vf_n64 (FP.dmul x y)) (k : G mi d kc ks nx (pc + 1) L (.double (FP.dmul x y) :: S) M F) : G mi d kc ks nx pc L (.double y :: .double x :: S) M F := by
  intro l p e R s m args below meth c g mc ms C H locs cells slots ls X
  exact lv_dmul C.1 C.2.1 hd hn (k l p e R s m args below meth c g mc ms C H locs cells slots ls X)
theorem g_ddiv {x y : UInt64} (hd : decode mi.2.2.1 pc = .ok (.ddiv, 1)) (hn : vf_n64 (FP.ddiv x y)) (k : G mi d kc ks nx (pc + 1) L (.double (FP.ddiv x y) :: S) M F) : G mi d kc ks nx pc L (.double y :: .double x :: S) M F := by
  intro l p e R s m args below meth c g mc ms C H locs cells slots ls X
  exact lv_ddiv C.1 C.2.1 hd hn (k l p e R s m args below meth c g mc ms C H locs cells slots ls X)
theorem g_fdiv {x y : UInt32} (hd : decode mi.2.2.1 pc = .ok (.fdiv, 1)) (hn : vf_n32 (FP.fdiv x y)) (k : G mi d kc ks nx (pc + 1) L (.float (FP.fdiv x y) :: S) M F) : G mi d kc ks nx pc L (.float y :: .float x :: S) M F := by
  intro l p e R s m args below meth c g mc ms C H locs cells slots ls X
  exact lv_fdiv C.1 C.2.1 hd hn (k l p e R s m args below meth c g mc ms C H locs cells slots ls X)
theorem g_dcmp {x y : UInt64} {op : CmpOp} (hd : decode mi.2.2.1 pc = .ok (.dcmp op, 1)) (k : G mi d kc ks nx (pc + 1) L (.int (Op.cmpValue (FP.dcmp x y) op) :: S) M F) : G mi d kc ks nx pc L (.double y :: .double x :: S) M F := by
  intro l p e R s m args below meth c g mc ms C H locs cells slots ls X
  exact lv_dcmp C.1 C.2.1 hd (k l p e R s m args below meth c g mc ms C H locs cells slots ls X)
theorem g_dup {v : Value} (hd : decode mi.2.2.1 pc = .ok (.dup, 1)) (hv : v.category = 1) (k : G mi d kc ks nx (pc + 1) L (v :: v :: S) M F) : G mi d kc ks nx pc L (v :: S) M F := by
  intro l p e R s m args below meth c g mc ms C H locs cells slots ls X
  exact lv_dup C.1 C.2.1 hd ((z_v_cat _ _).trans hv) (k l p e R s m args below meth c g mc ms C H locs cells slots ls X)
theorem g_dup2 {v w : Value} (hd : decode mi.2.2.1 pc = .ok (.dup2, 1)) (hv : v.category = 1) (hw : w.category = 1) (k : G mi d kc ks nx (pc + 1) L (v :: w :: v :: w :: S) M F) : G mi d kc ks nx pc L (v :: w :: S) M F := by
  intro l p e R s m args below meth c g mc ms C H locs cells slots ls X
  exact lv_dup2_11 C.1 C.2.1 hd ((z_v_cat _ _).trans hv) ((z_v_cat _ _).trans hw) (k l p e R s m args below meth c g mc ms C H locs cells slots ls X)
theorem g_pop {v : Value} (hd : decode mi.2.2.1 pc = .ok (.pop, 1)) (hv : v.category = 1) (k : G mi d kc ks nx (pc + 1) L (S) M F) : G mi d kc ks nx pc L (v :: S) M F := by
  intro l p e R s m args below meth c g mc ms C H locs cells slots ls X
  exact lv_pop C.1 C.2.1 hd ((z_v_cat _ _).trans hv) (k l p e R s m args below meth c g mc ms C H locs cells slots ls X)
theorem g_iconst {n : Int} {v : Int32} (hd : decode mi.2.2.1 pc = .ok (.iconst n, 1)) (hv : Int32.ofInt n = v) (k : G mi d kc ks nx (pc + 1) L (.int v :: S) M F) : G mi d kc ks nx pc L (S) M F := by
  intro l p e R s m args below meth c g mc ms C H locs cells slots ls X
  exact lv_iconst C.1 C.2.1 hd hv (k l p e R s m args below meth c g mc ms C H locs cells slots ls X)
theorem g_bipush {n : Int} {v : Int32} (hd : decode mi.2.2.1 pc = .ok (.bipush n, 2)) (hv : (Int8.ofInt n).toInt32 = v) (k : G mi d kc ks nx (pc + 2) L (.int v :: S) M F) : G mi d kc ks nx pc L (S) M F := by
  intro l p e R s m args below meth c g mc ms C H locs cells slots ls X
  exact lv_bipush C.1 C.2.1 hd hv (k l p e R s m args below meth c g mc ms C H locs cells slots ls X)
theorem g_sipush {n : Int} {v : Int32} (hd : decode mi.2.2.1 pc = .ok (.sipush n, 3)) (hv : (Int16.ofInt n).toInt32 = v) (k : G mi d kc ks nx (pc + 3) L (.int v :: S) M F) : G mi d kc ks nx pc L (S) M F := by
  intro l p e R s m args below meth c g mc ms C H locs cells slots ls X
  exact lv_sipush C.1 C.2.1 hd hv (k l p e R s m args below meth c g mc ms C H locs cells slots ls X)
theorem g_lconst {n : Fin 2} {v : Int64} (hd : decode mi.2.2.1 pc = .ok (.lconst n, 1)) (hv : Int64.ofNat n = v) (k : G mi d kc ks nx (pc + 1) L (.long v :: S) M F) : G mi d kc ks nx pc L (S) M F := by
  intro l p e R s m args below meth c g mc ms C H locs cells slots ls X
  exact lv_lconst C.1 C.2.1 hd hv (k l p e R s m args below meth c g mc ms C H locs cells slots ls X)
theorem g_ldci {i : Nat} {v : Int32} (hd : decode mi.2.2.1 pc = .ok (.ldc i, 2)) (hw : Cond.constant mi.2.1 i v ∈ SW) (k : G mi d kc ks nx (pc + 2) L (.int v :: S) M F) : G mi d kc ks nx pc L (S) M F := by
  intro l p e R s m args below meth c g mc ms C H locs cells slots ls X
  exact lv_ldc C.1 C.2.1 C.2.2.2.2.2.2.1 (C.2.2.2.2.2.2.2.1 _ hw) hd (k l p e R s m args below meth c g mc ms C H locs cells slots ls X)
theorem g_ldcf {i : Nat} {v : UInt32} (hd : decode mi.2.2.1 pc = .ok (.ldc i, 2)) (hw : Cond.constantFloat mi.2.1 i v ∈ SW) (k : G mi d kc ks nx (pc + 2) L (.float v :: S) M F) : G mi d kc ks nx pc L (S) M F := by
  intro l p e R s m args below meth c g mc ms C H locs cells slots ls X
  exact lv_ldcf C.1 C.2.1 C.2.2.2.2.2.2.1 (C.2.2.2.2.2.2.2.1 _ hw) hd (k l p e R s m args below meth c g mc ms C H locs cells slots ls X)
theorem g_ldcl {i : Nat} {v : Int64} (hd : decode mi.2.2.1 pc = .ok (.ldc2_w i, 3)) (hw : Cond.constantLong mi.2.1 i v ∈ SW) (k : G mi d kc ks nx (pc + 3) L (.long v :: S) M F) : G mi d kc ks nx pc L (S) M F := by
  intro l p e R s m args below meth c g mc ms C H locs cells slots ls X
  exact lv_ldc2 C.1 C.2.1 C.2.2.2.2.2.2.1 (C.2.2.2.2.2.2.2.1 _ hw) hd (k l p e R s m args below meth c g mc ms C H locs cells slots ls X)
theorem g_ldcd {i : Nat} {v : UInt64} (hd : decode mi.2.2.1 pc = .ok (.ldc2_w i, 3)) (hw : Cond.constantDouble mi.2.1 i v ∈ SW) (k : G mi d kc ks nx (pc + 3) L (.double v :: S) M F) : G mi d kc ks nx pc L (S) M F := by
  intro l p e R s m args below meth c g mc ms C H locs cells slots ls X
  exact lv_ldc2d C.1 C.2.1 C.2.2.2.2.2.2.1 (C.2.2.2.2.2.2.2.1 _ hw) hd (k l p e R s m args below meth c g mc ms C H locs cells slots ls X)
theorem g_iload_n {q : Fin 4} {x : Int32} (hd : decode mi.2.2.1 pc = .ok (.iload_n q, 1)) (hl : zl L q = some (.int x)) (k : G mi d kc ks nx (pc + 1) L (.int x :: S) M F) : G mi d kc ks nx pc L (S) M F := by
  intro l p e R s m args below meth c g mc ms C H locs cells slots ls X
  exact lv_iload_n C.1 C.2.1 hd rfl (z_lk X.2.2.2.1 hl) (k l p e R s m args below meth c g mc ms C H locs cells slots ls X)
theorem g_iload {q : Nat} {x : Int32} (hd : decode mi.2.2.1 pc = .ok (.iload q, 2)) (hl : zl L q = some (.int x)) (k : G mi d kc ks nx (pc + 2) L (.int x :: S) M F) : G mi d kc ks nx pc L (S) M F := by
  intro l p e R s m args below meth c g mc ms C H locs cells slots ls X
  exact lv_iload C.1 C.2.1 hd (z_lk X.2.2.2.1 hl) (k l p e R s m args below meth c g mc ms C H locs cells slots ls X)
theorem g_lload_n {q : Fin 4} {x : Int64} (hd : decode mi.2.2.1 pc = .ok (.lload_n q, 1)) (hl : zl L q = some (.long x)) (k : G mi d kc ks nx (pc + 1) L (.long x :: S) M F) : G mi d kc ks nx pc L (S) M F := by
  intro l p e R s m args below meth c g mc ms C H locs cells slots ls X
  exact lv_lload_n C.1 C.2.1 hd rfl (z_lk X.2.2.2.1 hl) (k l p e R s m args below meth c g mc ms C H locs cells slots ls X)
theorem g_lload {q : Nat} {x : Int64} (hd : decode mi.2.2.1 pc = .ok (.lload q, 2)) (hl : zl L q = some (.long x)) (k : G mi d kc ks nx (pc + 2) L (.long x :: S) M F) : G mi d kc ks nx pc L (S) M F := by
  intro l p e R s m args below meth c g mc ms C H locs cells slots ls X
  exact lv_lload C.1 C.2.1 hd (z_lk X.2.2.2.1 hl) (k l p e R s m args below meth c g mc ms C H locs cells slots ls X)
theorem g_dload_n {q : Fin 4} {x : UInt64} (hd : decode mi.2.2.1 pc = .ok (.dload_n q, 1)) (hl : zl L q = some (.double x)) (k : G mi d kc ks nx (pc + 1) L (.double x :: S) M F) : G mi d kc ks nx pc L (S) M F := by
  intro l p e R s m args below meth c g mc ms C H locs cells slots ls X
  exact lv_dload_n C.1 C.2.1 hd rfl (z_lk X.2.2.2.1 hl) (k l p e R s m args below meth c g mc ms C H locs cells slots ls X)
theorem g_dload {q : Nat} {x : UInt64} (hd : decode mi.2.2.1 pc = .ok (.dload q, 2)) (hl : zl L q = some (.double x)) (k : G mi d kc ks nx (pc + 2) L (.double x :: S) M F) : G mi d kc ks nx pc L (S) M F := by
  intro l p e R s m args below meth c g mc ms C H locs cells slots ls X
  exact lv_dload C.1 C.2.1 hd (z_lk X.2.2.2.1 hl) (k l p e R s m args below meth c g mc ms C H locs cells slots ls X)
theorem g_fload_n {q : Fin 4} {x : UInt32} (hd : decode mi.2.2.1 pc = .ok (.fload_n q, 1)) (hl : zl L q = some (.float x)) (k : G mi d kc ks nx (pc + 1) L (.float x :: S) M F) : G mi d kc ks nx pc L (S) M F := by
  intro l p e R s m args below meth c g mc ms C H locs cells slots ls X
  exact lv_fload_n C.1 C.2.1 hd rfl (z_lk X.2.2.2.1 hl) (k l p e R s m args below meth c g mc ms C H locs cells slots ls X)
theorem g_fload {q : Nat} {x : UInt32} (hd : decode mi.2.2.1 pc = .ok (.fload q, 2)) (hl : zl L q = some (.float x)) (k : G mi d kc ks nx (pc + 2) L (.float x :: S) M F) : G mi d kc ks nx pc L (S) M F := by
  intro l p e R s m args below meth c g mc ms C H locs cells slots ls X
  exact lv_fload C.1 C.2.1 hd (z_lk X.2.2.2.1 hl) (k l p e R s m args below meth c g mc ms C H locs cells slots ls X)
theorem g_aload_n {q : Fin 4} {x : Nat} (hd : decode mi.2.2.1 pc = .ok (.aload_n q, 1)) (hl : zl L q = some (.ref x)) (k : G mi d kc ks nx (pc + 1) L (.ref x :: S) M F) : G mi d kc ks nx pc L (S) M F := by
  intro l p e R s m args below meth c g mc ms C H locs cells slots ls X
  exact lv_aload_n C.1 C.2.1 hd rfl (z_lk X.2.2.2.1 hl) (k l p e R s m args below meth c g mc ms C H locs cells slots ls X)
theorem g_aload {q : Nat} {x : Nat} (hd : decode mi.2.2.1 pc = .ok (.aload q, 2)) (hl : zl L q = some (.ref x)) (k : G mi d kc ks nx (pc + 2) L (.ref x :: S) M F) : G mi d kc ks nx pc L (S) M F := by
  intro l p e R s m args below meth c g mc ms C H locs cells slots ls X
  exact lv_aload C.1 C.2.1 hd (z_lk X.2.2.2.1 hl) (k l p e R s m args below meth c g mc ms C H locs cells slots ls X)
theorem g_istore_n {q : Fin 4} {x : Int32} (hd : decode mi.2.2.1 pc = .ok (.istore_n q, 1)) (hn : (q : Nat) < mi.2.2.2.1) (k : G mi d kc ks nx (pc + 1) ((q, .int x) :: zf1 q L) S M F) : G mi d kc ks nx pc L (.int x :: S) M F := by
  intro l p e R s m args below meth c g mc ms C H locs cells slots ls X
  obtain ⟨x1, x2, x3, x4, x5⟩ := X
  exact lv_istore_n C.1 C.2.1 hd rfl x4 hn rfl (fun ls' hl' => k l p e R s m args below meth c g mc ms C H locs cells slots ls' ⟨x1, x2, x3, hl'.less (z_L_zf1 (v := .int x)), x5⟩)
theorem g_istore {q : Nat} {x : Int32} (hd : decode mi.2.2.1 pc = .ok (.istore q, 2)) (hn : (q : Nat) < mi.2.2.2.1) (k : G mi d kc ks nx (pc + 2) ((q, .int x) :: zf1 q L) S M F) : G mi d kc ks nx pc L (.int x :: S) M F := by
  intro l p e R s m args below meth c g mc ms C H locs cells slots ls X
  obtain ⟨x1, x2, x3, x4, x5⟩ := X
  exact lv_istore C.1 C.2.1 hd x4 hn rfl (fun ls' hl' => k l p e R s m args below meth c g mc ms C H locs cells slots ls' ⟨x1, x2, x3, hl'.less (z_L_zf1 (v := .int x)), x5⟩)
theorem g_lstore_n {q : Fin 4} {x : Int64} (hd : decode mi.2.2.1 pc = .ok (.lstore_n q, 1)) (hn : (q : Nat) + 1 < mi.2.2.2.1) (k : G mi d kc ks nx (pc + 1) ((q, .long x) :: zf2 q L) S M F) : G mi d kc ks nx pc L (.long x :: S) M F := by
  intro l p e R s m args below meth c g mc ms C H locs cells slots ls X
  obtain ⟨x1, x2, x3, x4, x5⟩ := X
  exact lv_lstore_n C.1 C.2.1 hd rfl x4 hn rfl (fun ls' hl' => k l p e R s m args below meth c g mc ms C H locs cells slots ls' ⟨x1, x2, x3, hl'.less (z_L_zf2 (v := .long x)), x5⟩)
theorem g_lstore {q : Nat} {x : Int64} (hd : decode mi.2.2.1 pc = .ok (.lstore q, 2)) (hn : (q : Nat) + 1 < mi.2.2.2.1) (k : G mi d kc ks nx (pc + 2) ((q, .long x) :: zf2 q L) S M F) : G mi d kc ks nx pc L (.long x :: S) M F := by
  intro l p e R s m args below meth c g mc ms C H locs cells slots ls X
  obtain ⟨x1, x2, x3, x4, x5⟩ := X
  exact lv_lstore C.1 C.2.1 hd x4 hn rfl (fun ls' hl' => k l p e R s m args below meth c g mc ms C H locs cells slots ls' ⟨x1, x2, x3, hl'.less (z_L_zf2 (v := .long x)), x5⟩)
theorem g_dstore_n {q : Fin 4} {x : UInt64} (hd : decode mi.2.2.1 pc = .ok (.dstore_n q, 1)) (hn : (q : Nat) + 1 < mi.2.2.2.1) (k : G mi d kc ks nx (pc + 1) ((q, .double x) :: zf2 q L) S M F) : G mi d kc ks nx pc L (.double x :: S) M F := by
  intro l p e R s m args below meth c g mc ms C H locs cells slots ls X
  obtain ⟨x1, x2, x3, x4, x5⟩ := X
  exact lv_dstore_n C.1 C.2.1 hd rfl x4 hn rfl (fun ls' hl' => k l p e R s m args below meth c g mc ms C H locs cells slots ls' ⟨x1, x2, x3, hl'.less (z_L_zf2 (v := .double x)), x5⟩)
theorem g_dstore {q : Nat} {x : UInt64} (hd : decode mi.2.2.1 pc = .ok (.dstore q, 2)) (hn : (q : Nat) + 1 < mi.2.2.2.1) (k : G mi d kc ks nx (pc + 2) ((q, .double x) :: zf2 q L) S M F) : G mi d kc ks nx pc L (.double x :: S) M F := by
  intro l p e R s m args below meth c g mc ms C H locs cells slots ls X
  obtain ⟨x1, x2, x3, x4, x5⟩ := X
  exact lv_dstore C.1 C.2.1 hd x4 hn rfl (fun ls' hl' => k l p e R s m args below meth c g mc ms C H locs cells slots ls' ⟨x1, x2, x3, hl'.less (z_L_zf2 (v := .double x)), x5⟩)
theorem g_astore_n {q : Fin 4} {x : Nat} (hd : decode mi.2.2.1 pc = .ok (.astore_n q, 1)) (hn : (q : Nat) < mi.2.2.2.1) (k : G mi d kc ks nx (pc + 1) ((q, .ref x) :: zf1 q L) S M F) : G mi d kc ks nx pc L (.ref x :: S) M F := by
  intro l p e R s m args below meth c g mc ms C H locs cells slots ls X
  obtain ⟨x1, x2, x3, x4, x5⟩ := X
  exact lv_astore_n C.1 C.2.1 hd rfl x4 hn rfl (fun ls' hl' => k l p e R s m args below meth c g mc ms C H locs cells slots ls' ⟨x1, x2, x3, hl'.less (z_L_zf1 (v := .ref x)), x5⟩)
theorem g_astore {q : Nat} {x : Nat} (hd : decode mi.2.2.1 pc = .ok (.astore q, 2)) (hn : (q : Nat) < mi.2.2.2.1) (k : G mi d kc ks nx (pc + 2) ((q, .ref x) :: zf1 q L) S M F) : G mi d kc ks nx pc L (.ref x :: S) M F := by
  intro l p e R s m args below meth c g mc ms C H locs cells slots ls X
  obtain ⟨x1, x2, x3, x4, x5⟩ := X
  exact lv_astore C.1 C.2.1 hd x4 hn rfl (fun ls' hl' => k l p e R s m args below meth c g mc ms C H locs cells slots ls' ⟨x1, x2, x3, hl'.less (z_L_zf1 (v := .ref x)), x5⟩)
theorem z_pick {g : zG} {L : List (Nat × Value)} {q : Nat} {v : Value} (h : zl L q = some v) : ∃ k : Nat, (z_L g L)[k]? = some (q, z_v g.1 v) := by
  obtain ⟨k, hk⟩ := List.getElem?_of_mem (zl_mem h)
  exact ⟨k, by rw [List.getElem?_map, hk]; rfl⟩
theorem g_iinc {q : Nat} {n : Int} {x v : Int32} (hd : decode mi.2.2.1 pc = .ok (.iinc q n, 3)) (hl : zl L q = some (.int x)) (hv : x + Int32.ofInt n = v) (hn : q < mi.2.2.2.1) (k : G mi d kc ks nx (pc + 3) ((q, .int v) :: zf1 q L) S M F) : G mi d kc ks nx pc L S M F := by
  intro l p e R s m args below meth c g mc ms C H locs cells slots ls X
  obtain ⟨x1, x2, x3, x4, x5⟩ := X
  obtain ⟨j, hj⟩ := z_pick (g := g) hl
  exact lv_iinc C.1 C.2.1 hd x4 hj hv hn rfl (fun ls' hl' => k l p e R s m args below meth c g mc ms C H locs cells slots ls' ⟨x1, x2, x3, hl'.less (z_L_zf1 (v := .int v)), x5⟩)
theorem g_if_eq {x : Int32} {off : Int} {tgt : Nat} (hd : decode mi.2.2.1 pc = .ok (.ifCond .eq off, 3)) (ht : (pc : Int) + off = (tgt : Int)) (kt : x = 0 → G mi d kc ks nx tgt L S M F) (kf : ¬ x = 0 → G mi d kc ks nx (pc + 3) L S M F) : G mi d kc ks nx pc L (.int x :: S) M F := by
  intro l p e R s m args below meth c g mc ms C H locs cells slots ls X
  exact lv_if_eq C.1 C.2.1 hd ht (fun h => kt h l p e R s m args below meth c g mc ms C H locs cells slots ls X) (fun h => kf h l p e R s m args below meth c g mc ms C H locs cells slots ls X)
theorem g_icmp_eq {x y : Int32} {off : Int} {tgt : Nat} (hd : decode mi.2.2.1 pc = .ok (.if_icmp .eq off, 3)) (ht : (pc : Int) + off = (tgt : Int)) (kt : x = y → G mi d kc ks nx tgt L S M F) (kf : ¬ x = y → G mi d kc ks nx (pc + 3) L S M F) : G mi d kc ks nx pc L (.int y :: .int x :: S) M F := by
  intro l p e R s m args below meth c g mc ms C H locs cells slots ls X
  exact lv_icmp_eq C.1 C.2.1 hd ht (fun h => kt h l p e R s m args below meth c g mc ms C H locs cells slots ls X) (fun h => kf h l p e R s m args below meth c g mc ms C H locs cells slots ls X)
theorem g_if_ne {x : Int32} {off : Int} {tgt : Nat} (hd : decode mi.2.2.1 pc = .ok (.ifCond .ne off, 3)) (ht : (pc : Int) + off = (tgt : Int)) (kt : ¬ x = 0 → G mi d kc ks nx tgt L S M F) (kf : x = 0 → G mi d kc ks nx (pc + 3) L S M F) : G mi d kc ks nx pc L (.int x :: S) M F := by
  intro l p e R s m args below meth c g mc ms C H locs cells slots ls X
  exact lv_if_ne C.1 C.2.1 hd ht (fun h => kt h l p e R s m args below meth c g mc ms C H locs cells slots ls X) (fun h => kf h l p e R s m args below meth c g mc ms C H locs cells slots ls X)
theorem g_icmp_ne {x y : Int32} {off : Int} {tgt : Nat} (hd : decode mi.2.2.1 pc = .ok (.if_icmp .ne off, 3)) (ht : (pc : Int) + off = (tgt : Int)) (kt : ¬ x = y → G mi d kc ks nx tgt L S M F) (kf : x = y → G mi d kc ks nx (pc + 3) L S M F) : G mi d kc ks nx pc L (.int y :: .int x :: S) M F := by
  intro l p e R s m args below meth c g mc ms C H locs cells slots ls X
  exact lv_icmp_ne C.1 C.2.1 hd ht (fun h => kt h l p e R s m args below meth c g mc ms C H locs cells slots ls X) (fun h => kf h l p e R s m args below meth c g mc ms C H locs cells slots ls X)
theorem g_if_lt {x : Int32} {off : Int} {tgt : Nat} (hd : decode mi.2.2.1 pc = .ok (.ifCond .lt off, 3)) (ht : (pc : Int) + off = (tgt : Int)) (kt : x < 0 → G mi d kc ks nx tgt L S M F) (kf : ¬ x < 0 → G mi d kc ks nx (pc + 3) L S M F) : G mi d kc ks nx pc L (.int x :: S) M F := by
  intro l p e R s m args below meth c g mc ms C H locs cells slots ls X
  exact lv_if_lt C.1 C.2.1 hd ht (fun h => kt h l p e R s m args below meth c g mc ms C H locs cells slots ls X) (fun h => kf h l p e R s m args below meth c g mc ms C H locs cells slots ls X)
theorem g_icmp_lt {x y : Int32} {off : Int} {tgt : Nat} (hd : decode mi.2.2.1 pc = .ok (.if_icmp .lt off, 3)) (ht : (pc : Int) + off = (tgt : Int)) (kt : x < y → G mi d kc ks nx tgt L S M F) (kf : ¬ x < y → G mi d kc ks nx (pc + 3) L S M F) : G mi d kc ks nx pc L (.int y :: .int x :: S) M F := by
  intro l p e R s m args below meth c g mc ms C H locs cells slots ls X
  exact lv_icmp_lt C.1 C.2.1 hd ht (fun h => kt h l p e R s m args below meth c g mc ms C H locs cells slots ls X) (fun h => kf h l p e R s m args below meth c g mc ms C H locs cells slots ls X)
theorem g_if_ge {x : Int32} {off : Int} {tgt : Nat} (hd : decode mi.2.2.1 pc = .ok (.ifCond .ge off, 3)) (ht : (pc : Int) + off = (tgt : Int)) (kt : 0 ≤ x → G mi d kc ks nx tgt L S M F) (kf : ¬ 0 ≤ x → G mi d kc ks nx (pc + 3) L S M F) : G mi d kc ks nx pc L (.int x :: S) M F := by
  intro l p e R s m args below meth c g mc ms C H locs cells slots ls X
  exact lv_if_ge C.1 C.2.1 hd ht (fun h => kt h l p e R s m args below meth c g mc ms C H locs cells slots ls X) (fun h => kf h l p e R s m args below meth c g mc ms C H locs cells slots ls X)
theorem g_icmp_ge {x y : Int32} {off : Int} {tgt : Nat} (hd : decode mi.2.2.1 pc = .ok (.if_icmp .ge off, 3)) (ht : (pc : Int) + off = (tgt : Int)) (kt : y ≤ x → G mi d kc ks nx tgt L S M F) (kf : ¬ y ≤ x → G mi d kc ks nx (pc + 3) L S M F) : G mi d kc ks nx pc L (.int y :: .int x :: S) M F := by
  intro l p e R s m args below meth c g mc ms C H locs cells slots ls X
  exact lv_icmp_ge C.1 C.2.1 hd ht (fun h => kt h l p e R s m args below meth c g mc ms C H locs cells slots ls X) (fun h => kf h l p e R s m args below meth c g mc ms C H locs cells slots ls X)
theorem g_if_gt {x : Int32} {off : Int} {tgt : Nat} (hd : decode mi.2.2.1 pc = .ok (.ifCond .gt off, 3)) (ht : (pc : Int) + off = (tgt : Int)) (kt : 0 < x → G mi d kc ks nx tgt L S M F) (kf : ¬ 0 < x → G mi d kc ks nx (pc + 3) L S M F) : G mi d kc ks nx pc L (.int x :: S) M F := by
  intro l p e R s m args below meth c g mc ms C H locs cells slots ls X
  exact lv_if_gt C.1 C.2.1 hd ht (fun h => kt h l p e R s m args below meth c g mc ms C H locs cells slots ls X) (fun h => kf h l p e R s m args below meth c g mc ms C H locs cells slots ls X)
theorem g_icmp_gt {x y : Int32} {off : Int} {tgt : Nat} (hd : decode mi.2.2.1 pc = .ok (.if_icmp .gt off, 3)) (ht : (pc : Int) + off = (tgt : Int)) (kt : y < x → G mi d kc ks nx tgt L S M F) (kf : ¬ y < x → G mi d kc ks nx (pc + 3) L S M F) : G mi d kc ks nx pc L (.int y :: .int x :: S) M F := by
  intro l p e R s m args below meth c g mc ms C H locs cells slots ls X
  exact lv_icmp_gt C.1 C.2.1 hd ht (fun h => kt h l p e R s m args below meth c g mc ms C H locs cells slots ls X) (fun h => kf h l p e R s m args below meth c g mc ms C H locs cells slots ls X)
theorem g_if_le {x : Int32} {off : Int} {tgt : Nat} (hd : decode mi.2.2.1 pc = .ok (.ifCond .le off, 3)) (ht : (pc : Int) + off = (tgt : Int)) (kt : x ≤ 0 → G mi d kc ks nx tgt L S M F) (kf : ¬ x ≤ 0 → G mi d kc ks nx (pc + 3) L S M F) : G mi d kc ks nx pc L (.int x :: S) M F := by
  intro l p e R s m args below meth c g mc ms C H locs cells slots ls X
  exact lv_if_le C.1 C.2.1 hd ht (fun h => kt h l p e R s m args below meth c g mc ms C H locs cells slots ls X) (fun h => kf h l p e R s m args below meth c g mc ms C H locs cells slots ls X)
theorem g_icmp_le {x y : Int32} {off : Int} {tgt : Nat} (hd : decode mi.2.2.1 pc = .ok (.if_icmp .le off, 3)) (ht : (pc : Int) + off = (tgt : Int)) (kt : x ≤ y → G mi d kc ks nx tgt L S M F) (kf : ¬ x ≤ y → G mi d kc ks nx (pc + 3) L S M F) : G mi d kc ks nx pc L (.int y :: .int x :: S) M F := by
  intro l p e R s m args below meth c g mc ms C H locs cells slots ls X
  exact lv_icmp_le C.1 C.2.1 hd ht (fun h => kt h l p e R s m args below meth c g mc ms C H locs cells slots ls X) (fun h => kf h l p e R s m args below meth c g mc ms C H locs cells slots ls X)
theorem g_goto {off : Int} {tgt : Nat} (hd : decode mi.2.2.1 pc = .ok (.goto off, 3)) (ht : (pc : Int) + off = (tgt : Int)) (k : G mi d kc ks nx tgt L S M F) : G mi d kc ks nx pc L S M F := by
  intro l p e R s m args below meth c g mc ms C H locs cells slots ls X
  exact lv_goto C.1 C.2.1 hd ht (k l p e R s m args below meth c g mc ms C H locs cells slots ls X)
theorem g_tabOut {dflt lo hi : Int} {offs : Array Int} {len : Nat} {x : Int32} {tgt : Nat} (hd : decode mi.2.2.1 pc = .ok (.tableswitch dflt lo hi offs, len)) (h : x.toInt < lo ∨ hi < x.toInt) (ht : (pc : Int) + dflt = (tgt : Int)) (k : G mi d kc ks nx tgt L S M F) : G mi d kc ks nx pc L (.int x :: S) M F := by
  intro l p e R s m args below meth c g mc ms C H locs cells slots ls X
  exact lv_tableOut C.1 C.2.1 hd h ht (k l p e R s m args below meth c g mc ms C H locs cells slots ls X)
theorem g_tabIn {dflt lo hi : Int} {offs : Array Int} {len : Nat} {x : Int32} {off : Int} {tgt : Nat} (hd : decode mi.2.2.1 pc = .ok (.tableswitch dflt lo hi offs, len)) (h1 : ¬ x.toInt < lo) (h2 : ¬ hi < x.toInt) (ho : offs[(x.toInt - lo).toNat]? = some off) (ht : (pc : Int) + off = (tgt : Int)) (k : G mi d kc ks nx tgt L S M F) : G mi d kc ks nx pc L (.int x :: S) M F := by
  intro l p e R s m args below meth c g mc ms C H locs cells slots ls X
  exact lv_tableIn C.1 C.2.1 hd h1 h2 ho ht (k l p e R s m args below meth c g mc ms C H locs cells slots ls X)
theorem g_lookup {dflt : Int} {ps : Array (Int × Int)} {len : Nat} {x : Int32} {off : Int} {tgt : Nat} (hd : decode mi.2.2.1 pc = .ok (.lookupswitch dflt ps, len)) (hp : (ps.toList.zip (ps.toList.drop 1)).all (fun (a, next) => a.1 < next.1) = true) (ho : Op.lookupswitch.offset ps.toList dflt x.toInt = off) (ht : (pc : Int) + off = (tgt : Int)) (k : G mi d kc ks nx tgt L S M F) : G mi d kc ks nx pc L (.int x :: S) M F := by
  intro l p e R s m args below meth c g mc ms C H locs cells slots ls X
  exact lv_lookup C.1 C.2.1 hd hp ho ht (k l p e R s m args below meth c g mc ms C H locs cells slots ls X)
theorem g_ireturn {x : Int32} {ty : FieldType} (hd : decode mi.2.2.1 pc = .ok (.ireturn, 1)) (hr : mi.2.2.2.2.1 = some ty) (hn : narrow ty (.int x) = .int x) (h : F M nx (.inl (some (.int x)))) : G mi d kc ks nx pc L [.int x] M F := by
  intro l p e R s m args below meth c g mc ms C H locs cells slots ls X
  obtain ⟨x1, x2, x3, x4, x5, x6⟩ := X
  exact W.widen (by omega) (by omega) (vx_ret (W.zret C.1 C.2.1 (C.2.2.2.1.trans hr) hn (fun t ht hW => ⟨⟨M, nx, (some (.int x)), rfl, h, by rw [ht]; exact x1, by rw [ht]; exact x2⟩, x3.F ht⟩) x3.2.2 hd C.2.2.2.2.1))
theorem g_lreturn {x : Int64} (hd : decode mi.2.2.1 pc = .ok (.lreturn, 1)) (hr : mi.2.2.2.2.1 = some .long) (h : F M nx (.inl (some (.long x)))) : G mi d kc ks nx pc L [.long x] M F := by
  intro l p e R s m args below meth c g mc ms C H locs cells slots ls X
  obtain ⟨x1, x2, x3, x4, x5, x6⟩ := X
  exact W.widen (by omega) (by omega) (vx_ret (W.lret C.1 C.2.1 (C.2.2.2.1.trans hr) (fun t ht hW => ⟨⟨M, nx, (some (.long x)), rfl, h, by rw [ht]; exact x1, by rw [ht]; exact x2⟩, x3.F ht⟩) x3.2.2 hd C.2.2.2.2.1))
theorem g_dreturn {x : UInt64} (hd : decode mi.2.2.1 pc = .ok (.dreturn, 1)) (hr : mi.2.2.2.2.1 = some .double) (h : F M nx (.inl (some (.double x)))) : G mi d kc ks nx pc L [.double x] M F := by
  intro l p e R s m args below meth c g mc ms C H locs cells slots ls X
  obtain ⟨x1, x2, x3, x4, x5, x6⟩ := X
  exact W.widen (by omega) (by omega) (vx_ret (W.dret C.1 C.2.1 (C.2.2.2.1.trans hr) (fun t ht hW => ⟨⟨M, nx, (some (.double x)), rfl, h, by rw [ht]; exact x1, by rw [ht]; exact x2⟩, x3.F ht⟩) x3.2.2 hd C.2.2.2.2.1))
theorem g_freturn {x : UInt32} (hd : decode mi.2.2.1 pc = .ok (.freturn, 1)) (hr : mi.2.2.2.2.1 = some .float) (h : F M nx (.inl (some (.float x)))) : G mi d kc ks nx pc L [.float x] M F := by
  intro l p e R s m args below meth c g mc ms C H locs cells slots ls X
  obtain ⟨x1, x2, x3, x4, x5, x6⟩ := X
  exact W.widen (by omega) (by omega) (vx_ret (W.fret C.1 C.2.1 (C.2.2.2.1.trans hr) (fun t ht hW => ⟨⟨M, nx, (some (.float x)), rfl, h, by rw [ht]; exact x1, by rw [ht]; exact x2⟩, x3.F ht⟩) x3.2.2 hd C.2.2.2.2.1))
theorem g_return (hd : decode mi.2.2.1 pc = .ok (.return_, 1)) (hr : mi.2.2.2.2.1 = none) (h : F M nx (.inl none)) : G mi d kc ks nx pc L [] M F := by
  intro l p e R s m args below meth c g mc ms C H locs cells slots ls X
  obtain ⟨x1, x2, x3, x4, x5, x6⟩ := X
  exact W.widen (by omega) (by omega) (vx_ret (W.vret C.1 C.2.1 (C.2.2.2.1.trans hr) (fun t ht hW => ⟨⟨M, nx, none, rfl, h, by rw [ht]; exact x1, by rw [ht]; exact x2⟩, x3.F ht⟩) x3.2.2 hd C.2.2.2.2.1))
end GR
end
section
/-! G: memory: fields, arrays, what is made -/
def zu (M : zM) (b : Nat) (e : zE) : zM := fun q => bif Nat.beq q b then some e else M q
theorem zu_s (M : zM) (b : Nat) (e : zE) : zu M b e b = some e := by simp [zu]
theorem zu_n (M : zM) {b q : Nat} (e : zE) (h : q ≠ b) : zu M b e q = M q := by
  unfold zu
  rw [show Nat.beq q b = false from by
    cases hb : Nat.beq q b
    · rfl
    · exact absurd (Nat.eq_of_beq_eq_true hb) h]
  rfl
theorem zu_u (M : zM) (b : Nat) (e f : zE) : zu (zu M b e) b f = zu M b f := by
  funext q
  by_cases h : q = b
  · subst h; rw [zu_s, zu_s]
  · rw [zu_n _ _ h, zu_n _ _ h, zu_n _ _ h]
theorem zu_c (M : zM) {b b' : Nat} (e f : zE) (h : b ≠ b') : zu (zu M b e) b' f = zu (zu M b' f) b e := by
  funext q
  by_cases h1 : q = b'
  · subst h1; rw [zu_s, zu_n _ _ (Ne.symm h), zu_s]
  · by_cases h2 : q = b
    · subst h2; rw [zu_n _ _ h1, zu_s, zu_s]
    · rw [zu_n _ _ h1, zu_n _ _ h2, zu_n _ _ h2, zu_n _ _ h1]
theorem zu_id {M : zM} {b : Nat} {e : zE} (h : M b = some e) : zu M b e = M := by
  funext q
  by_cases h1 : q = b
  · subst h1; rw [zu_s, h]
  · rw [zu_n _ _ h1]
theorem z_one {D : va_G} {cl : List vw_C} {q : Nat × va_E} {H : Heap} (h : va_at D cl q H) : va_P D cl [q] H := fun k x hk => by
  have hz : k < 1 := (List.getElem?_eq_some_iff.mp hk).1
  rw [show k = 0 by omega] at hk
  cases hk
  exact h
theorem z_R.upd {g : zG} {M : zM} {H H1 : Heap} {b : Nat} {e : zE} (h : z_R g M H) (hM : M b ≠ none) (h1 : va_at g.2.1 vwCl (g.1 b, z_e g e) H1) (oq : ∀ q : Nat, q ≠ g.1 b → H1[q]? = H[q]?) : z_R g (zu M b e) H1 := by
  have dom : ∀ v, zu M b e v ≠ none → M v ≠ none := fun v hv => by
    by_cases hb : v = b
    · subst hb; exact hM
    · rwa [zu_n _ _ hb] at hv
  refine ⟨fun v f hv => ?_, fun v w h2 h3 h4 => h.2 v w (dom v h2) (dom w h3) h4⟩
  by_cases hb : v = b
  · subst hb
    rw [zu_s] at hv
    cases hv
    exact h1
  · rw [zu_n _ _ hb] at hv
    exact (h.1 v f hv).kept (oq _ (fun e9 => hb (h.2 v b (by rw [hv]; exact fun z => by cases z) hM e9)))
theorem z_N.upd {g : zG} {nx : Option Nat} {M : zM} {H H1 : Heap} {b : Nat} {e : zE} (h : z_N g nx M H) (hM : M b ≠ none) (z : H1.size = H.size) : z_N g nx (zu M b e) H1 := by
  intro n hn
  obtain ⟨h1, h2⟩ := h n hn
  refine ⟨h1, fun v hv => ⟨by rw [z]; exact (h2 v hv).1, ?_⟩⟩
  rw [zu_n]
  · exact (h2 v hv).2
  · intro e9
    subst e9
    exact hM (h2 v hv).2
theorem z_new {g : zG} {M : zM} {H H1 : Heap} {n : Nat} {e : zE} (h : z_R g M H) (hN : z_N g (some n) M H) (h1 : va_at g.2.1 vwCl (g.1 n, z_e g e) H1) (o1 : ∀ q : Nat, q < H.size → H1[q]? = H[q]?) (z : H1.size = H.size + 1) : z_R g (zu M n e) H1 ∧ z_N g (some (n + 1)) (zu M n e) H1 := by
  obtain ⟨hn8, hN⟩ := hN n rfl
  have hn : g.1 n = H.size := by have := (hN n (Nat.le_refl _)).1; omega
  have lt : ∀ v, M v ≠ none → g.1 v < H.size := fun v hv => by
    cases hc : M v with
    | none => exact absurd hc hv
    | some f => exact (h.1 v f hc).lt
  refine ⟨⟨fun v f hv => ?_, fun v w h2 h3 h4 => ?_⟩, fun n' hn' => ?_⟩
  · by_cases hb : v = n
    · subst hb
      rw [zu_s] at hv
      cases hv
      exact h1
    · rw [zu_n _ _ hb] at hv
      exact (h.1 v f hv).kept (o1 _ (h.1 v f hv).lt)
  · by_cases hv : v = n
    · by_cases hw : w = n
      · rw [hv, hw]
      · rw [zu_n _ _ hw] at h3
        have := lt w h3
        rw [← h4, hv, hn] at this
        omega
    · rw [zu_n _ _ hv] at h2
      by_cases hw : w = n
      · have := lt v h2
        rw [h4, hw, hn] at this
        omega
      · rw [zu_n _ _ hw] at h3
        exact h.2 v w h2 h3 h4
  · cases hn'
    refine ⟨by omega, fun v hv => ⟨by have := (hN v (by omega)).1; omega, ?_⟩⟩
    rw [zu_n _ _ (by omega)]
    exact (hN v (by omega)).2
def z_cl (r : vw_C) : Prop := (∀ w ∈ u_ws r.1 r.2.1 r.2.2, w ∈ SW) ∧ ∃ ty0 : Nat → FieldType, (∀ k, k < r.2.2 → parseFieldDescriptor (r.2.1 k).2.2.1 = some (ty0 k)) ∧ ∀ a, a < r.2.2 → ∀ b, b < r.2.2 → a ≠ b → (r.2.1 a).2.1 ≠ (r.2.1 b).2.1
theorem z_cls : ∀ {ci : Nat} {r : vw_C}, vwCl[ci]? = some r → z_cl r
  | 0, _, h => by cases h; exact ⟨iwX0, tyX0, tyX0_ok, nmX0⟩
  | 1, _, h => by cases h; exact ⟨iwX1, tyX1, tyX1_ok, nmX1⟩
  | 2, _, h => by cases h; exact ⟨iwX2, tyX2, tyX2_ok, nmX2⟩
  | 3, _, h => by cases h; exact ⟨iwX3, tyX3, tyX3_ok, nmX3⟩
  | 4, _, h => by cases h; exact ⟨iwX4, tyX4, tyX4_ok, nmX4⟩
  | 5, _, h => by cases h; exact ⟨iwX5, tyX5, tyX5_ok, nmX5⟩
  | 6, _, h => by cases h; exact ⟨iwX6, tyX6, tyX6_ok, nmX6⟩
  | n + 7, _, h => by simp [vwCl] at h
/-- a field by its link: class, place, type, final -/
def zLF (own : String) (idx ci k : Nat) (ty : FieldType) (fin : Bool) (r : vw_C) : Prop :=
  vwCl[ci]? = some r ∧ k < r.2.2 ∧ Cond.fieldLink own idx r.1 (r.2.1 k).2.1 (r.2.1 k).2.2.1 ∈ SW ∧ (r.2.1 k).1 = r.1 ∧ parseFieldDescriptor (r.2.1 k).2.2.1 = some ty ∧ (r.2.1 k).2.2.2 = fin
theorem z_fits {ty : FieldType} {v : Value} (r : Nat → Nat) (h : fits ty v = true) : fits ty (z_v r v) = true := by cases v <;> first | exact h | (cases ty <;> first | exact h | (simp [fits] at h))
theorem z_narrow {ty : FieldType} {v : Value} (r : Nat → Nat) (h : narrow ty v = v) : narrow ty (z_v r v) = z_v r v := by cases v <;> first | exact h | (cases ty <;> rfl)
section GM
variable {p : Program} {l : Launch} {e : Env} {R : Room} {s : State} {m : MethodId} {args : Array Value} {below : List Frame} {meth : Method} {c : Code} {H : Heap} {locs : List Loc} {cells slots : Nat} {Q : State → Prop}
variable {cc : ByteArray} {pc : Nat} {ls : Array Slot} {rest : List Value} {D : va_G} {cl : List vw_C} {A : Nat → Prop} {a : Nat} {tys : List (ClassId × FieldType)} {H0 : Heap}
theorem zz_put (hexec : p.tables.exec = Jvm.exec) (hb : c.code = cc) {own ref C : String} {T : u_T} {N ci index : Nat} {Ts : List Cond} (hts : ∀ w ∈ Ts, w.before args s = true) (hin : ∀ w ∈ u_ws C T N, w ∈ Ts) (ty0 : Nat → FieldType) (hty : ∀ k, k < N → parseFieldDescriptor (T k).2.2.1 = some (ty0 k)) (hnm : ∀ a, a < N → ∀ b, b < N → a ≠ b → (T a).2.1 ≠ (T b).2.1) (hown : s.vm.findClass own = some m.cls) (hK : va_K D cl tys s) {fs : List Value} (hP : va_at D cl (a, .inr (ci, fs)) H) (hS0 : va_S A H0 H locs) (hAa : A a) (hc : cl[ci]? = some (C, T, N)) (k : Nat) (hk : k < N) (hlink : (Cond.fieldLink own index ref (T k).2.1 (T k).2.2.1).before args s = true) (hsame : ∀ x, s.fieldFound? (T k).1 (T k).2.1 (T k).2.2.1 = some x → s.fieldFound? ref (T k).2.1 (T k).2.2.1 = some x) (hfin : (T k).2.2.2 = false) {ty : FieldType} {v : Value} (hd : parseFieldDescriptor (T k).2.2.1 = some ty) (hn : narrow ty v = v) (hfit : fits ty v = true) (hl : k < fs.length)
    (hdg : decode cc pc = .ok (.putfield index, 3)) (kk : ∀ (H1 : Heap) (locs1 : List Loc), va_at D cl (a, .inr (ci, fs.set k v)) H1 → H1.size = H.size → (∀ q : Nat, q ≠ a → H1[q]? = H[q]?) → va_S A H0 H1 locs1 → W p l e R s m args below meth c H1 locs1 cells slots Q (F0 m (pc + 3) ls rest)) : W p l e R s m args below meth c H locs cells slots Q (F0 m pc ls (v :: .ref a :: rest)) := by
  have hap := va_apart (own := own) hts hin ty0 hty hnm hK hc
  obtain ⟨r, h1, cell, q1, q2, q3, q4⟩ := hP
  have hr : r = (C, T, N) := Option.some.inj (h1.symm.trans hc)
  subst hr
  obtain ⟨hS, hfc, kC, hkC, hkind⟩ := hK.1 ci _ hc
  obtain ⟨cf, kf, fi, f, hi, hsl⟩ := hS k hk
  have hlay := hts _ (hin _ (u_in_lay hk))
  unfold u_lay at hlay
  rw [if_neg (by rw [hfin]; decide)] at hlay
  have hst := (u_facts hfc hkC (u_lays hts hin hk) hi).1
  have h6 := u_store hfc hkC hkind hlay hi hd hn hfit
  refine W.putK hexec hb (f := f) ⟨hown, hlink, ⟨_, _, _, hsame _ hi⟩, hst⟩ (by rw [q2]; exact h6) q1 q3 (by rw [hsl]; exact k2_hasslot (q4 k hk)) rfl rfl hdg fun H' e1 e2 e3 => ?_
  rw [hsl] at e1 ⊢
  exact kk H' _ ⟨_, hc, t_OB.to (V := updV (vp_V fs) k v) ⟨_, e1, q2, q3, t_set q4 hap hk v⟩ (fun j _ => vp_updV_set hl v j)⟩ e2 e3 (hS0.put e2 e3 hAa)
theorem zz_putF (hexec : p.tables.exec = Jvm.exec) (hb : c.code = cc) {own ref C : String} {T : u_T} {N ci index : Nat} {Ts : List Cond} (hts : ∀ w ∈ Ts, w.before args s = true) (hin : ∀ w ∈ u_ws C T N, w ∈ Ts) (ty0 : Nat → FieldType) (hty : ∀ k, k < N → parseFieldDescriptor (T k).2.2.1 = some (ty0 k)) (hnm : ∀ a, a < N → ∀ b, b < N → a ≠ b → (T a).2.1 ≠ (T b).2.1) (hown : s.vm.findClass own = some m.cls) (hK : va_K D cl tys s) {fs : List Value} (hP : va_at D cl (a, .inr (ci, fs)) H) (hS0 : va_S A H0 H locs) (hAa : A a) (hc : cl[ci]? = some (C, T, N)) (k : Nat) (hk : k < N) (hlink : (Cond.fieldLink own index ref (T k).2.1 (T k).2.2.1).before args s = true) (hsame : ∀ x, s.fieldFound? (T k).1 (T k).2.1 (T k).2.2.1 = some x → s.fieldFound? ref (T k).2.1 (T k).2.2.1 = some x) (hfin : (T k).2.2.2 = true) (hin2 : meth.name = "<init>") (hdecl : (T k).1 = own) {ty : FieldType} {v : Value} (hd : parseFieldDescriptor (T k).2.2.1 = some ty) (hn : narrow ty v = v) (hfit : fits ty v = true) (hl : k < fs.length)
    (hdg : decode cc pc = .ok (.putfield index, 3)) (kk : ∀ (H1 : Heap) (locs1 : List Loc), va_at D cl (a, .inr (ci, fs.set k v)) H1 → H1.size = H.size → (∀ q : Nat, q ≠ a → H1[q]? = H[q]?) → va_S A H0 H1 locs1 → W p l e R s m args below meth c H1 locs1 cells slots Q (F0 m (pc + 3) ls rest)) : W p l e R s m args below meth c H locs cells slots Q (F0 m pc ls (v :: .ref a :: rest)) := by
  have hap := va_apart (own := own) hts hin ty0 hty hnm hK hc
  obtain ⟨r, h1, cell, q1, q2, q3, q4⟩ := hP
  have hr : r = (C, T, N) := Option.some.inj (h1.symm.trans hc)
  subst hr
  obtain ⟨hS, hfc, kC, hkC, hkind⟩ := hK.1 ci _ hc
  obtain ⟨cf, kf, fi, f, hi, hsl⟩ := hS k hk
  have hlay := hts _ (hin _ (u_in_lay hk))
  unfold u_lay at hlay
  rw [if_pos hfin] at hlay
  have hst := (u_facts hfc hkC (u_lays hts hin hk) hi).1
  have hcf : m.cls = cf := by
    obtain ⟨_, _, c', _, _, _, -, -, hf', -, -, -, hown2, -⟩ := Cond.laysFinal_spec hlay
    have e1 : c' = cf := by have := hi.symm.trans hf'; simp at this; exact this.1.symm
    rw [hdecl] at hown2
    rw [← e1]; exact Option.some.inj (hown.symm.trans hown2)
  have h6 := u_fits hfc hkC hkind (Or.inr hlay) hi hd hn hfit
  refine W.putFinK hexec hb hown hlink (hsame _ hi) hst hcf hin2 (by rw [q2]; exact h6) q1 q3 (by rw [hsl]; exact k2_hasslot (q4 k hk)) rfl rfl hdg fun H' e1 e2 e3 => ?_
  rw [hsl] at e1 ⊢
  exact kk H' _ ⟨_, hc, t_OB.to (V := updV (vp_V fs) k v) ⟨_, e1, q2, q3, t_set q4 hap hk v⟩ (fun j _ => vp_updV_set hl v j)⟩ e2 e3 (hS0.put e2 e3 hAa)
theorem zz_iast (hexec : p.tables.exec = Jvm.exec) (hb : c.code = cc) (hS : va_S A H0 H locs) (hAa : A a) {cA : ClassId} {n : Nat} {f : Nat → Int32} (ha : H[a]? = some (vp_cell cA (n, .inl f))) (ht : ArrOfT s cA .int) {i : Int32} {x : Int32} (hin : vp_in i n) (hdg : decode cc pc = .ok (.iastore, 1))
    (kk : ∀ (H1 : Heap) (locs1 : List Loc), H1[a]? = some (vp_cell cA (n, .inl (upd f i.toNatClampNeg x))) → H1.size = H.size → (∀ q : Nat, q ≠ a → H1[q]? = H[q]?) → va_S A H0 H1 locs1 → W p l e R s m args below meth c H1 locs1 cells slots Q (F0 m (pc + 1) ls rest)) : W p l e R s m args below meth c H locs cells slots Q (F0 m pc ls (.int x :: .int i :: .ref a :: rest)) := by
  refine W.iast hexec hb ha (ht n (fun j => .int (f j))) (fun q => by cases q) (by show ¬ (i < 0 ∨ (arrV _ _ _).slots.size ≤ _); rw [arrV_size]; exact hin) rfl rfl hdg fun H1 e z oq => ?_
  refine kk H1 _ ?_ z oq (hS.put z oq hAa)
  rw [e]
  rw [vp_cell_i, vp_cell_i, arrV_store]
  congr 2
  funext q
  by_cases hq : q = i.toNatClampNeg
  · subst hq
    simp [updV, upd]
  · simp [updV, upd, hq]
theorem zz_last (hexec : p.tables.exec = Jvm.exec) (hb : c.code = cc) (hS : va_S A H0 H locs) (hAa : A a) {cA : ClassId} {n : Nat} {f : Nat → Int64} (ha : H[a]? = some (vp_cell cA (n, .inr (.inl f)))) (ht : ArrOfT s cA .long) {i : Int32} {x : Int64} (hin : vp_in i n) (hdg : decode cc pc = .ok (.lastore, 1))
    (kk : ∀ (H1 : Heap) (locs1 : List Loc), H1[a]? = some (vp_cell cA (n, .inr (.inl (vp_updL f i.toNatClampNeg x)))) → H1.size = H.size → (∀ q : Nat, q ≠ a → H1[q]? = H[q]?) → va_S A H0 H1 locs1 → W p l e R s m args below meth c H1 locs1 cells slots Q (F0 m (pc + 1) ls rest)) : W p l e R s m args below meth c H locs cells slots Q (F0 m pc ls (.long x :: .int i :: .ref a :: rest)) := by
  refine W.last hexec hb ha (ht n (fun j => .long (f j))) (fun q => by cases q) (by show ¬ (i < 0 ∨ (arrV _ _ _).slots.size ≤ _); rw [arrV_size]; exact hin) rfl rfl hdg fun H1 e z oq => ?_
  refine kk H1 _ ?_ z oq (hS.put z oq hAa)
  rw [e]
  rw [vp_cell_l, vp_cell_l, arrV_store]
  congr 2
  funext q
  by_cases hq : q = i.toNatClampNeg
  · subst hq
    simp [updV, vp_updL]
  · simp [updV, vp_updL, hq]
theorem zz_dast (hexec : p.tables.exec = Jvm.exec) (hb : c.code = cc) (hS : va_S A H0 H locs) (hAa : A a) {cA : ClassId} {n : Nat} {f : Nat → UInt64} (ha : H[a]? = some (vp_cell cA (n, .inr (.inr (.inr (.inl f)))))) (ht : ArrOfT s cA .double) {i : Int32} {x : UInt64} (hin : vp_in i n) (hdg : decode cc pc = .ok (.dastore, 1))
    (kk : ∀ (H1 : Heap) (locs1 : List Loc), H1[a]? = some (vp_cell cA (n, .inr (.inr (.inr (.inl (va_up f i.toNatClampNeg x)))))) → H1.size = H.size → (∀ q : Nat, q ≠ a → H1[q]? = H[q]?) → va_S A H0 H1 locs1 → W p l e R s m args below meth c H1 locs1 cells slots Q (F0 m (pc + 1) ls rest)) : W p l e R s m args below meth c H locs cells slots Q (F0 m pc ls (.double x :: .int i :: .ref a :: rest)) := by
  refine W.dast hexec hb ha (ht n (fun j => .double (f j))) (fun q => by cases q) (by show ¬ (i < 0 ∨ (arrV _ _ _).slots.size ≤ _); rw [arrV_size]; exact hin) rfl rfl hdg fun H1 e z oq => ?_
  refine kk H1 _ ?_ z oq (hS.put z oq hAa)
  rw [e]
  rw [vp_cell_d, vp_cell_d, arrV_store]
  congr 2
  funext q
  by_cases hq : q = i.toNatClampNeg
  · subst hq
    simp [updV, va_up]
  · simp [updV, va_up, hq]
theorem zz_aast (hexec : p.tables.exec = Jvm.exec) (hb : c.code = cc) (hK : va_K D cl tys s) (hS : va_S A H0 H locs) (hAa : A a) (t0 ci : Nat) {cA : ClassId} {r : vw_C} {n v : Nat} {vs : List Value} {f : Nat → Option Nat} (ha : H[a]? = some (vp_cell cA (n, .inr (.inr (.inr (.inr f)))))) (ht : tys[t0]? = some (cA, .object r.1)) (hv : va_at D cl (v, .inr (ci, vs)) H) (hc : cl[ci]? = some r) {i : Int32} (hin : vp_in i n) (hdg : decode cc pc = .ok (.aastore, 1))
    (kk : ∀ (H1 : Heap) (locs1 : List Loc), H1[a]? = some (vp_cell cA (n, .inr (.inr (.inr (.inr (va_up f i.toNatClampNeg (some v))))))) → H1.size = H.size → (∀ q : Nat, q ≠ a → H1[q]? = H[q]?) → va_S A H0 H1 locs1 → W p l e R s m args below meth c H1 locs1 cells slots Q (F0 m (pc + 1) ls rest)) : W p l e R s m args below meth c H locs cells slots Q (F0 m pc ls (.ref v :: .int i :: .ref a :: rest)) := by
  have hlt : i.toNatClampNeg < n := Nat.not_le.mp fun q => hin (Or.inr q)
  have h0 : ¬ i < 0 := fun q => hin (Or.inl q)
  obtain ⟨r', hr', cellV, g1, g2, g3, -⟩ := hv
  have hcls := (hK.1 ci r hc).2
  obtain ⟨kA, comp, k1, k2, k3, -⟩ := (hK.2 t0 _ ht).2
  have hcomp : comp = D.1 ci := Option.some.inj (k3.symm.trans hcls.1)
  subst hcomp
  obtain ⟨kC, hkC, -⟩ := hcls.2
  refine W.aast hexec hb ha (fun q h => by cases h) (fun h => by cases h) k1 k2 rfl hkC ⟨h0, by show _ < (arrV _ _ _).slots.size; rw [arrV_size]; exact hlt⟩ g1 (fun q h => by rw [g3] at h; cases h) (by rw [g2]; exact hkC) (by rw [g2]; exact va_assign hcls) rfl rfl hdg fun H1 e z oq => ?_
  refine kk H1 _ ?_ z oq (hS.put z oq hAa)
  rw [e]
  rw [vp_cell_q, vp_cell_q, arrV_store]
  congr 2
  funext q
  by_cases hq : q = i.toNatClampNeg
  · subst hq
    simp [updV, va_up, va_rf]
  · simp [updV, va_up, hq]
theorem zz_new {c0 : Code} (hexec : p.tables.exec = Jvm.exec) (hb : c0.code = cc) {own C : String} {T : u_T} {N ci index : Nat} {Ts : List Cond} (hts : ∀ w ∈ Ts, w.before args s = true) (hin : ∀ w ∈ u_ws C T N, w ∈ Ts) (ty : Nat → FieldType) (hty : ∀ k, k < N → parseFieldDescriptor (T k).2.2.1 = some (ty k)) (hown : s.vm.findClass own = some m.cls) (hcl : (Cond.classLink own index C).before args s = true) (hinst : (Cond.instantiable C N).before args s = true) (hini : (Cond.initialized C).before args s = true)
    (hK : va_K D cl tys s) (hS : va_S A H0 H locs) (hc : cl[ci]? = some (C, T, N)) {fs : List Value} (hfs : ∀ j, j < N → defaultValue (ty j) = vp_V fs j) (hcells : cells + 1 ≤ R.cells) (hslots : slots + N ≤ R.slots) (hdg : decode cc pc = .ok (.new index, 3))
    (kk : ∀ (H1 : Heap), va_at D cl (H.size, .inr (ci, fs)) H1 → H1.size = H.size + 1 → (∀ q : Nat, q < H.size → H1[q]? = H[q]?) → va_S A H0 H1 locs →
      W p l e R s m args below meth c0 H1 locs (cells + 1) (slots + N) Q (F0 m (pc + 3) ls (.ref H.size :: rest))) : W p l e R s m args below meth c0 H locs cells slots Q (F0 m pc ls rest) := by
  have hKn := hK.1 ci _ hc
  refine W.newcK hexec hb hown hcl hinst hini rfl hdg hcells hslots hKn.2.1 rfl fun H1 kC hkC e1 z1 o1 => ?_
  exact kk H1 ⟨_, hc, (u_born ty hts hin hKn hkC e1 hty).to hfs⟩ z1 o1 ⟨Nat.le_trans hS.1 (by omega), fun x h1 h2 => (o1 x (Nat.lt_of_lt_of_le h1 hS.1)).trans (hS.2.1 x h1 h2), hS.2.2⟩
theorem zz_anew (hexec : p.tables.exec = Jvm.exec) (hb : c.code = cc) {own C : String} {index : Nat} (hown : s.vm.findClass own = some m.cls) (hclink : (Cond.classLink own index C).before args s = true) (hover : va_AO C s) (hS : va_S A H0 H locs) {cA : ClassId} (hcA : va_RA s cA (.object C))
    {n : Int32} {N' : Nat} (hn : ¬ n < 0) (hN : n.toNatClampNeg = N') (hbytes : N' * 4 ≤ 536870912) (hcells : cells + 1 ≤ R.cells) (hslots : slots + N' ≤ R.slots) (hdg : decode cc pc = .ok (.anewarray index, 3))
    (kk : ∀ (H1 : Heap), H1[H.size]? = some (vp_cell cA (N', .inr (.inr (.inr (.inr (fun _ => none)))))) → H1.size = H.size + 1 → (∀ q : Nat, q < H.size → H1[q]? = H[q]?) → va_S A H0 H1 locs →
      W p l e R s m args below meth c H1 locs (cells + 1) (slots + N') Q (F0 m (pc + 3) ls (.ref H.size :: rest))) : W p l e R s m args below meth c H locs cells slots Q (F0 m pc ls (.int n :: rest)) := by
  subst hN
  refine W.anew hexec hb hown hclink (va_AO.use hover) rfl hdg rfl hn hbytes hcells hslots fun cA' kA comp f1 f2 f3 f4 => ?_
  obtain ⟨kA9, comp9, k1, k2, k3, k4⟩ := hcA
  have hce : cA' = cA := Option.some.inj (f1.symm.trans k4)
  subst hce
  generalize hH1 : H.push ({ cls := cA', slots := Array.replicate n.toNatClampNeg .null, vm := .none } : Cell) = H1
  have z1 : H1.size = H.size + 1 := by rw [← hH1, Array.size_push]
  have e1 : H1[H.size]? = some (arrV cA' n.toNatClampNeg (fun _ => .null)) := by rw [← hH1, Array.getElem?_push_size, ← arrV_new]
  have o1 : ∀ q : Nat, q < H.size → H1[q]? = H[q]? := fun q hq => by rw [← hH1, Array.getElem?_push, if_neg (Nat.ne_of_lt hq)]
  exact kk H1 e1 z1 o1 ⟨Nat.le_trans hS.1 (by omega), fun x h1 h2 => (o1 x (Nat.lt_of_lt_of_le h1 hS.1)).trans (hS.2.1 x h1 h2), hS.2.2⟩
end GM
section GN
variable {mi : zI} {d kc ks : Nat} {nx : Option Nat} {pc : Nat} {L : List (Nat × Value)} {S : List Value} {M : zM} {F : zP}
theorem g_get {idx ci k b : Nat} {ty : FieldType} {fin : Bool} {r : vw_C} {fs : List Value} {v : Value} (hf : zLF mi.2.1 idx ci k ty fin r) (hd : decode mi.2.2.1 pc = .ok (.getfield idx, 3)) (hM : M b = some (.inr (ci, fs))) (hv : fs[k]? = some v) (kk : G mi d kc ks nx (pc + 3) L (v :: S) M F) : G mi d kc ks nx pc L (.ref b :: S) M F := by
  intro l p e R s m args below meth c g mc ms C H locs cells slots ls X
  obtain ⟨h1, h2, h3, h4, h5, h6⟩ := hf
  have hts := C.2.2.2.2.2.2.2.1
  exact va_get (D := g.2.1) (ci := ci) (C := r.1) (T := r.2.1) (N := r.2.2) (ref := r.1) C.1 C.2.1 hts (z_cls h1).1 C.2.2.2.2.2.2.1 C.2.2.2.2.2.2.2.2.2.1.1 (z_one (X.1.1 _ _ hM)) 0 rfl h1 k h2 (hts _ h3) (fun x hx => by rw [h4] at hx; exact hx) (v := z_v g.1 v) (by rw [List.getElem?_map, hv]; rfl) hd (kk l p e R s m args below meth c g mc ms C H locs cells slots ls X)
theorem g_put {idx ci k b : Nat} {ty : FieldType} {r : vw_C} {fs : List Value} {v : Value} (hf : zLF mi.2.1 idx ci k ty false r) (hd : decode mi.2.2.1 pc = .ok (.putfield idx, 3)) (hM : M b = some (.inr (ci, fs))) (hk : k < fs.length) (hn : narrow ty v = v) (hfit : fits ty v = true) (hb : 8 ≤ b) (kk : G mi d kc ks nx (pc + 3) L S (zu M b (.inr (ci, fs.set k v))) F) : G mi d kc ks nx pc L (v :: .ref b :: S) M F := by
  intro l p e R s m args below meth c g mc ms C H locs cells slots ls X
  obtain ⟨h1, h2, h3, h4, h5, h6⟩ := hf
  have hts := C.2.2.2.2.2.2.2.1
  obtain ⟨i1, ty0, i2, i3⟩ := z_cls h1
  have hMn : M b ≠ none := by rw [hM]; exact fun z => by cases z
  refine zz_put (D := g.2.1) (ci := ci) (C := r.1) (T := r.2.1) (N := r.2.2) (ref := r.1) (A := z_A g) C.1 C.2.1 hts i1 ty0 i2 i3 C.2.2.2.2.2.2.1 C.2.2.2.2.2.2.2.2.2.1.1 (X.1.1 _ _ hM) X.2.2.1 (C.2.2.2.2.2.2.2.2.2.2.1 b hb) h1 k h2 (hts _ h3) (fun x hx => by rw [h4] at hx; exact hx) h6 h5 (z_narrow g.1 hn) (z_fits g.1 hfit) (by rw [List.length_map]; exact hk) hd (fun H1 locs1 a1 z1 o1 s1 => ?_)
  rw [← List.map_set] at a1
  exact kk l p e R s m args below meth c g mc ms C H1 locs1 cells slots ls ⟨X.1.upd hMn a1 o1, X.2.1.upd hMn z1, s1, X.2.2.2.1, X.2.2.2.2⟩
theorem g_putF {idx ci k b : Nat} {ty : FieldType} {r : vw_C} {fs : List Value} {v : Value} (hf : zLF mi.2.1 idx ci k ty true r) (hi : mi.1.name = "<init>" ∧ r.1 = mi.2.1) (hd : decode mi.2.2.1 pc = .ok (.putfield idx, 3)) (hM : M b = some (.inr (ci, fs))) (hk : k < fs.length) (hn : narrow ty v = v) (hfit : fits ty v = true) (hb : 8 ≤ b) (kk : G mi d kc ks nx (pc + 3) L S (zu M b (.inr (ci, fs.set k v))) F) : G mi d kc ks nx pc L (v :: .ref b :: S) M F := by
  intro l p e R s m args below meth c g mc ms C H locs cells slots ls X
  obtain ⟨h1, h2, h3, h4, h5, h6⟩ := hf
  have hts := C.2.2.2.2.2.2.2.1
  obtain ⟨i1, ty0, i2, i3⟩ := z_cls h1
  have hMn : M b ≠ none := by rw [hM]; exact fun z => by cases z
  refine zz_putF (D := g.2.1) (ci := ci) (C := r.1) (T := r.2.1) (N := r.2.2) (ref := r.1) (A := z_A g) C.1 C.2.1 hts i1 ty0 i2 i3 C.2.2.2.2.2.2.1 C.2.2.2.2.2.2.2.2.2.1.1 (X.1.1 _ _ hM) X.2.2.1 (C.2.2.2.2.2.2.2.2.2.2.1 b hb) h1 k h2 (hts _ h3) (fun x hx => by rw [h4] at hx; exact hx) h6 (C.2.2.2.2.2.2.2.2.1.trans hi.1) (h4.trans hi.2) h5 (z_narrow g.1 hn) (z_fits g.1 hfit) (by rw [List.length_map]; exact hk) hd (fun H1 locs1 a1 z1 o1 s1 => ?_)
  rw [← List.map_set] at a1
  exact kk l p e R s m args below meth c g mc ms C H1 locs1 cells slots ls ⟨X.1.upd hMn a1 o1, X.2.1.upd hMn z1, s1, X.2.2.2.1, X.2.2.2.2⟩
theorem g_iald {b n : Nat} {f : Nat → Int32} {i : Int32} (hd : decode mi.2.2.1 pc = .ok (.iaload, 1)) (hM : M b = some (.inl (0, n, .inl f))) (hin : vp_in i n) (kk : G mi d kc ks nx (pc + 1) L (.int (f i.toNatClampNeg) :: S) M F) : G mi d kc ks nx pc L (.int i :: .ref b :: S) M F := by
  intro l p e R s m args below meth c g mc ms C H locs cells slots ls X
  exact va_iald (tys := z_tys g) C.1 C.2.1 C.2.2.2.2.2.2.2.2.2.1.1 (z_one (X.1.1 _ _ hM)) 0 0 rfl rfl hin hd (kk l p e R s m args below meth c g mc ms C H locs cells slots ls X)
theorem g_lald {b n : Nat} {f : Nat → Int64} {i : Int32} (hd : decode mi.2.2.1 pc = .ok (.laload, 1)) (hM : M b = some (.inl (1, n, .inr (.inl f)))) (hin : vp_in i n) (kk : G mi d kc ks nx (pc + 1) L (.long (f i.toNatClampNeg) :: S) M F) : G mi d kc ks nx pc L (.int i :: .ref b :: S) M F := by
  intro l p e R s m args below meth c g mc ms C H locs cells slots ls X
  exact va_lald (tys := z_tys g) C.1 C.2.1 C.2.2.2.2.2.2.2.2.2.1.1 (z_one (X.1.1 _ _ hM)) 0 1 rfl rfl hin hd (kk l p e R s m args below meth c g mc ms C H locs cells slots ls X)
theorem g_dald {b n : Nat} {f : Nat → UInt64} {i : Int32} (hd : decode mi.2.2.1 pc = .ok (.daload, 1)) (hM : M b = some (.inl (2, n, .inr (.inr (.inr (.inl f)))))) (hin : vp_in i n) (kk : G mi d kc ks nx (pc + 1) L (.double (f i.toNatClampNeg) :: S) M F) : G mi d kc ks nx pc L (.int i :: .ref b :: S) M F := by
  intro l p e R s m args below meth c g mc ms C H locs cells slots ls X
  exact va_dald (tys := z_tys g) C.1 C.2.1 C.2.2.2.2.2.2.2.2.2.1.1 (z_one (X.1.1 _ _ hM)) 0 2 rfl rfl hin hd (kk l p e R s m args below meth c g mc ms C H locs cells slots ls X)
theorem g_aald {b n t v : Nat} {f : Nat → Option Nat} {i : Int32} {C0 : String} (hd : decode mi.2.2.1 pc = .ok (.aaload, 1)) (ht : ∀ g : zG, (z_tys g)[t]? = some (g.2.2.1 t, .object C0)) (hM : M b = some (.inl (t, n, .inr (.inr (.inr (.inr f)))))) (hin : vp_in i n) (hv : f i.toNatClampNeg = some v) (kk : G mi d kc ks nx (pc + 1) L (.ref v :: S) M F) : G mi d kc ks nx pc L (.int i :: .ref b :: S) M F := by
  intro l p e R s m args below meth c g mc ms C H locs cells slots ls X
  refine va_aldq (tys := z_tys g) C.1 C.2.1 C.2.2.2.2.2.2.2.2.2.1.1 (z_one (X.1.1 _ _ hM)) 0 t rfl (ht g) hin hd ?_
  have := kk l p e R s m args below meth c g mc ms C H locs cells slots ls X
  simp only [hv]
  exact this
theorem g_alen {b t : Nat} {x : vp_A} {ty : FieldType} {v : Int32} (hd : decode mi.2.2.1 pc = .ok (.arraylength, 1)) (ht : ∀ g : zG, (z_tys g)[t]? = some (g.2.2.1 t, ty)) (hM : M b = some (.inl (t, x))) (hv : Int32.ofNat x.1 = v) (kk : G mi d kc ks nx (pc + 1) L (.int v :: S) M F) : G mi d kc ks nx pc L (.ref b :: S) M F := by
  intro l p e R s m args below meth c g mc ms C H locs cells slots ls X
  exact va_alen (tys := z_tys g) C.1 C.2.1 C.2.2.2.2.2.2.2.2.2.1.1 (z_one (X.1.1 _ _ hM)) 0 t rfl (ht g) (by rw [z_a_1]; exact hv) hd (kk l p e R s m args below meth c g mc ms C H locs cells slots ls X)
theorem g_iast {b n : Nat} {f : Nat → Int32} {i x : Int32} (hd : decode mi.2.2.1 pc = .ok (.iastore, 1)) (hM : M b = some (.inl (0, n, .inl f))) (hin : vp_in i n) (hb : 8 ≤ b) (kk : G mi d kc ks nx (pc + 1) L S (zu M b (.inl (0, n, .inl (upd f i.toNatClampNeg x)))) F) : G mi d kc ks nx pc L (.int x :: .int i :: .ref b :: S) M F := by
  intro l p e R s m args below meth c g mc ms C H locs cells slots ls X
  have hMn : M b ≠ none := by rw [hM]; exact fun z => by cases z
  exact zz_iast (A := z_A g) C.1 C.2.1 X.2.2.1 (C.2.2.2.2.2.2.2.2.2.2.1 b hb) (X.1.1 _ _ hM) (C.2.2.2.2.2.2.2.2.2.1.1.2 0 _ rfl).1 hin hd (fun H1 locs1 a1 z1 o1 s1 => kk l p e R s m args below meth c g mc ms C H1 locs1 cells slots ls ⟨X.1.upd hMn a1 o1, X.2.1.upd hMn z1, s1, X.2.2.2.1, X.2.2.2.2⟩)
theorem g_last {b n : Nat} {f : Nat → Int64} {i : Int32} {x : Int64} (hd : decode mi.2.2.1 pc = .ok (.lastore, 1)) (hM : M b = some (.inl (1, n, .inr (.inl f)))) (hin : vp_in i n) (hb : 8 ≤ b) (kk : G mi d kc ks nx (pc + 1) L S (zu M b (.inl (1, n, .inr (.inl (vp_updL f i.toNatClampNeg x))))) F) : G mi d kc ks nx pc L (.long x :: .int i :: .ref b :: S) M F := by
  intro l p e R s m args below meth c g mc ms C H locs cells slots ls X
  have hMn : M b ≠ none := by rw [hM]; exact fun z => by cases z
  exact zz_last (A := z_A g) C.1 C.2.1 X.2.2.1 (C.2.2.2.2.2.2.2.2.2.2.1 b hb) (X.1.1 _ _ hM) (C.2.2.2.2.2.2.2.2.2.1.1.2 1 _ rfl).1 hin hd (fun H1 locs1 a1 z1 o1 s1 => kk l p e R s m args below meth c g mc ms C H1 locs1 cells slots ls ⟨X.1.upd hMn a1 o1, X.2.1.upd hMn z1, s1, X.2.2.2.1, X.2.2.2.2⟩)
theorem g_dast {b n : Nat} {f : Nat → UInt64} {i : Int32} {x : UInt64} (hd : decode mi.2.2.1 pc = .ok (.dastore, 1)) (hM : M b = some (.inl (2, n, .inr (.inr (.inr (.inl f)))))) (hin : vp_in i n) (hb : 8 ≤ b) (kk : G mi d kc ks nx (pc + 1) L S (zu M b (.inl (2, n, .inr (.inr (.inr (.inl (va_up f i.toNatClampNeg x))))))) F) : G mi d kc ks nx pc L (.double x :: .int i :: .ref b :: S) M F := by
  intro l p e R s m args below meth c g mc ms C H locs cells slots ls X
  have hMn : M b ≠ none := by rw [hM]; exact fun z => by cases z
  exact zz_dast (A := z_A g) C.1 C.2.1 X.2.2.1 (C.2.2.2.2.2.2.2.2.2.2.1 b hb) (X.1.1 _ _ hM) (C.2.2.2.2.2.2.2.2.2.1.1.2 2 _ rfl).1 hin hd (fun H1 locs1 a1 z1 o1 s1 => kk l p e R s m args below meth c g mc ms C H1 locs1 cells slots ls ⟨X.1.upd hMn a1 o1, X.2.1.upd hMn z1, s1, X.2.2.2.1, X.2.2.2.2⟩)
theorem g_aast {b n t v ci : Nat} {f : Nat → Option Nat} {i : Int32} {r : vw_C} {vs : List Value} (hd : decode mi.2.2.1 pc = .ok (.aastore, 1)) (ht : ∀ g : zG, (z_tys g)[t]? = some (g.2.2.1 t, .object r.1)) (hM : M b = some (.inl (t, n, .inr (.inr (.inr (.inr f)))))) (hv : M v = some (.inr (ci, vs))) (hc : vwCl[ci]? = some r) (hin : vp_in i n) (hb : 8 ≤ b) (kk : G mi d kc ks nx (pc + 1) L S (zu M b (.inl (t, n, .inr (.inr (.inr (.inr (va_up f i.toNatClampNeg (some v)))))))) F) : G mi d kc ks nx pc L (.ref v :: .int i :: .ref b :: S) M F := by
  intro l p e R s m args below meth c g mc ms C H locs cells slots ls X
  have hMn : M b ≠ none := by rw [hM]; exact fun z => by cases z
  refine zz_aast (A := z_A g) C.1 C.2.1 C.2.2.2.2.2.2.2.2.2.1.1 X.2.2.1 (C.2.2.2.2.2.2.2.2.2.2.1 b hb) t ci (X.1.1 _ _ hM) (ht g) (X.1.1 _ _ hv) hc hin hd (fun H1 locs1 a1 z1 o1 s1 => ?_)
  refine kk l p e R s m args below meth c g mc ms C H1 locs1 cells slots ls ⟨X.1.upd hMn ?_ o1, X.2.1.upd hMn z1, s1, X.2.2.2.1, X.2.2.2.2⟩
  show H1[g.1 b]? = some (vp_cell (g.2.2.1 t) (n, .inr (.inr (.inr (.inr (fun j => (va_up f i.toNatClampNeg (some v) j).map g.1))))))
  have hf : va_up (fun j => (f j).map g.1) i.toNatClampNeg (some (g.1 v)) = fun j => (va_up f i.toNatClampNeg (some v) j).map g.1 := by
    funext j
    by_cases hj : j = i.toNatClampNeg <;> simp [va_up, hj]
  rw [a1, hf]
theorem g_new {idx ci n kc1 ks1 : Nat} {r : vw_C} {fs : List Value} (hc : vwCl[ci]? = some r) (h1 : Cond.classLink mi.2.1 idx r.1 ∈ SW) (h2 : Cond.instantiable r.1 r.2.2 ∈ SW) (h3 : Cond.initialized r.1 ∈ SW) (hd : decode mi.2.2.1 pc = .ok (.new idx, 3)) (hfs : ∃ ty : Nat → FieldType, (∀ k, k < r.2.2 → parseFieldDescriptor (r.2.1 k).2.2.1 = some (ty k)) ∧ ∀ j, j < r.2.2 → defaultValue (ty j) = vp_V fs j) (hnr : ∀ g : Nat → Nat, fs.map (z_v g) = fs) (hkc : kc = kc1 + 1) (hks : ks = ks1 + r.2.2) (kk : G mi d kc1 ks1 (some (n + 1)) (pc + 3) L (.ref n :: S) (zu M n (.inr (ci, fs))) F) : G mi d kc ks (some n) pc L S M F := by
  intro l p e R s m args below meth c g mc ms C H locs cells slots ls X
  have hts := C.2.2.2.2.2.2.2.1
  obtain ⟨x1, x2, x3, x4, x5, x6⟩ := X
  obtain ⟨ty, t1, t2⟩ := hfs
  have hn : g.1 n = H.size := by have := ((x2 n rfl).2 n (Nat.le_refl _)).1; omega
  have r1 := C.2.2.2.2.2.2.2.2.2.2.2.2.2.1
  have r2 := C.2.2.2.2.2.2.2.2.2.2.2.2.2.2.1
  refine zz_new (D := g.2.1) (ci := ci) (C := r.1) (T := r.2.1) (N := r.2.2) (A := z_A g) C.1 C.2.1 hts (z_cls hc).1 ty t1 C.2.2.2.2.2.2.1 (hts _ h1) (hts _ h2) (hts _ h3) C.2.2.2.2.2.2.2.2.2.1.1 x3 hc (fs := fs) t2 (by omega) (by omega) hd (fun H1 a1 z1 o1 s1 => ?_)
  rw [← hn] at a1 ⊢
  obtain ⟨y1, y2⟩ := z_new (e := .inr (ci, fs)) x1 x2 (by show va_at _ _ (_, .inr (ci, fs.map (z_v g.1))) _; rw [hnr]; exact a1) o1 z1
  exact kk l p e R s m args below meth c g mc ms C H1 locs (cells + 1) (slots + r.2.2) ls ⟨y1, y2, s1, x4, by omega, by omega⟩
theorem g_newa {t n N kc1 ks1 : Nat} {at_ : ArrayType} {ty : FieldType} {i : Int32} {x : vp_A} (hd : decode mi.2.2.1 pc = .ok (.newarray at_, 2)) (hty : newarray.typeOf at_ = ty) (hw : Cond.arrayClass ty ∈ SW) (ht : ∀ g : zG, (z_tys g)[t]? = some (g.2.2.1 t, ty)) (hra : ∀ (U : State) (cA : ClassId), va_RA U cA ty → U.vm.findClass ("[" ++ ty.toString) = some cA) (hx : ∀ (cA : ClassId) (r : Nat → Nat), vp_cell cA (z_a r x) = arrV cA N (fun _ => defaultValue ty)) (hi : ¬ i < 0) (hN : i.toNatClampNeg = N) (hby : N * componentBytes ty ≤ 536870912) (hkc : kc = kc1 + 1) (hks : ks = ks1 + N) (kk : G mi d kc1 ks1 (some (n + 1)) (pc + 2) L (.ref n :: S) (zu M n (.inl (t, x))) F) : G mi d kc ks (some n) pc L (.int i :: S) M F := by
  intro l p e R s m args below meth c g mc ms C H locs cells slots ls X
  have hts := C.2.2.2.2.2.2.2.1
  obtain ⟨x1, x2, x3, x4, x5, x6⟩ := X
  have hn : g.1 n = H.size := by have := ((x2 n rfl).2 n (Nat.le_refl _)).1; omega
  have r1 := C.2.2.2.2.2.2.2.2.2.2.2.2.2.1
  have r2 := C.2.2.2.2.2.2.2.2.2.2.2.2.2.2.1
  subst hty
  refine va_newaK C.1 C.2.1 (hts _ hw) rfl hd rfl hi hN hby (by omega) (by omega) hn.symm (fun H1 cA e1 z1 o1 a1 f1 => ?_)
  have hce : cA = g.2.2.1 t := Option.some.inj (f1.symm.trans (hra _ _ (C.2.2.2.2.2.2.2.2.2.1.1.2 t _ (ht g)).2))
  subst hce
  rw [hn] at z1 o1
  obtain ⟨y1, y2⟩ := z_new (e := .inl (t, x)) x1 x2 (by show H1[g.1 n]? = some (vp_cell (g.2.2.1 t) (z_a g.1 x)); rw [hx]; exact e1) o1 z1
  exact kk l p e R s m args below meth c g mc ms C H1 locs (cells + 1) (slots + N) ls ⟨y1, y2, ⟨Nat.le_trans x3.1 (by omega), fun q h1 h2 => (o1 q (Nat.lt_of_lt_of_le h1 x3.1)).trans (x3.2.1 q h1 h2), x3.2.2⟩, x4, by omega, by omega⟩
theorem g_anew {t n N idx kc1 ks1 : Nat} {C0 : String} {i : Int32} (hd : decode mi.2.2.1 pc = .ok (.anewarray idx, 3)) (hw : Cond.classLink mi.2.1 idx C0 ∈ SW) (ho : ∀ (g : zG) (U : State), z_S g U → va_AO C0 U) (ht : ∀ g : zG, (z_tys g)[t]? = some (g.2.2.1 t, .object C0)) (hi : ¬ i < 0) (hN : i.toNatClampNeg = N) (hby : N * 4 ≤ 536870912) (hkc : kc = kc1 + 1) (hks : ks = ks1 + N) (kk : G mi d kc1 ks1 (some (n + 1)) (pc + 3) L (.ref n :: S) (zu M n (.inl (t, N, .inr (.inr (.inr (.inr (fun _ => none))))))) F) : G mi d kc ks (some n) pc L (.int i :: S) M F := by
  intro l p e R s m args below meth c g mc ms C H locs cells slots ls X
  have hts := C.2.2.2.2.2.2.2.1
  obtain ⟨x1, x2, x3, x4, x5, x6⟩ := X
  have hn : g.1 n = H.size := by have := ((x2 n rfl).2 n (Nat.le_refl _)).1; omega
  have r1 := C.2.2.2.2.2.2.2.2.2.2.2.2.2.1
  have r2 := C.2.2.2.2.2.2.2.2.2.2.2.2.2.2.1
  refine zz_anew (A := z_A g) (H0 := s.heap) C.1 C.2.1 C.2.2.2.2.2.2.1 (hts _ hw) (ho g s C.2.2.2.2.2.2.2.2.2.1) x3 (C.2.2.2.2.2.2.2.2.2.1.1.2 t _ (ht g)).2 hi hN hby (by omega) (by omega) hd (fun H1 e1 z1 o1 s1 => ?_)
  rw [← hn] at e1 ⊢
  obtain ⟨y1, y2⟩ := z_new (e := .inl (t, N, .inr (.inr (.inr (.inr (fun _ => none)))))) x1 x2 e1 o1 z1
  exact kk l p e R s m args below meth c g mc ms C H1 locs (cells + 1) (slots + N) ls ⟨y1, y2, s1, x4, by omega, by omega⟩
end GN
end
section
/-! G: calls -/
theorem z_args (r : Nat → Nat) : ∀ (i : Nat) (As : List Value), lv_args i (As.map (z_v r)) = (lv_args i As).map (fun q => (q.1, z_v r q.2))
  | _, [] => rfl
  | i, v :: t => by
    show (i, z_v r v) :: lv_args (if (z_v r v).category = 2 then i + 2 else i + 1) (t.map (z_v r)) = (i, z_v r v) :: (lv_args (if v.category = 2 then i + 2 else i + 1) t).map _
    rw [z_v_cat, z_args r _ t]
theorem z_lgsl (r : Nat → Nat) : ∀ (As : List Value), (lg_sl (As.map (z_v r))).length = (lg_sl As).length
  | [] => rfl
  | v :: t => by
    have ih := z_lgsl r t
    simp only [lg_sl, List.map_cons, List.flatMap_cons, List.length_append, z_v_cat] at ih ⊢
    rw [ih]
    by_cases h : v.category = 2 <;> simp [h]
/-- what is decided of a method once for all: its name, its code among the words -/
def zok (mi : zI) (n : Nat) : Prop := plainName mi.1.cls = true ∧ mi.2.1 = mi.1.cls ∧ (mi.1.cls ≠ "java/lang/invoke/MethodHandle" ∧ mi.1.cls ≠ "java/lang/invoke/VarHandle") ∧ (parseMethodDescriptor mi.1.desc).map (fun d => d.parameters.length) = some n ∧ mi.2.2.2.1 ≤ 13 ∧ Cond.initialized mi.1.cls ∈ SW
def zoc (mi : zI) : Prop := mi.2.2.2.2.2 = [] ∧ Cond.code mi.1 mi.2.2.1 mi.2.2.2.1 mi.2.2.2.2.1 ∈ SW
def zLV (own : String) (idx : Nat) (mi : zI) : Prop := Cond.methodLink own idx mi.1 ∈ SW ∧ Cond.instanceMethod mi.1 ∈ SW ∧ Cond.selects mi.1.cls mi.1 mi.1 ∈ SW
def zLS (own : String) (idx : Nat) (mi : zI) : Prop := Cond.methodLink own idx mi.1 ∈ SW ∧ Cond.static mi.1 ∈ SW
def zLI (own : String) (idx : Nat) (mi : zI) : Prop := Cond.methodLink own idx mi.1 ∈ SW ∧ Cond.instanceMethod mi.1 ∈ SW ∧ mi.1.name = "<init>" ∧ mi.2.2.2.2.1 = none
def zLNS (own : String) (idx : Nat) (mi : zI) (host : String) : Prop := (own, idx, mi.1, host) ∈ z_nests ∧ Cond.static mi.1 ∈ SW
def zLNI (own : String) (idx : Nat) (mi : zI) (host : String) : Prop := (own, idx, mi.1, host) ∈ z_nests ∧ Cond.instanceMethod mi.1 ∈ SW ∧ mi.1.name = "<init>" ∧ mi.2.2.2.2.1 = none
theorem z_all {args : Array Value} {s : State} (hts : ∀ w ∈ SW, w.before args s = true) {c : Cond} (hc : c ∈ SW) : ∀ w ∈ c :: SW, ∀ (a' : Array Value) (U : State), s.WarmedH U.vm → w.before a' U = true := fun w hw a' U hW => by
  have h : w ∈ SW := (List.mem_cons.mp hw).elim (fun e => e ▸ hc) id
  exact word_at hW (good_of_word (SW_good w h)) (hts w h)
/-- the start of a callee -/
def z_Pc (g : zG) (nx : Option Nat) (As : List Value) (M : zM) : Array Value → State → Prop := va_Pc (As.map (z_v g.1)) (fun U => z_S g U ∧ z_R g M U.heap ∧ z_N g nx M U.heap)
theorem z_blind (g : zG) (nx : Option Nat) (As : List Value) (M : zM) : FrameBlind (z_Pc g nx As M) := fun a U f mk h => ⟨h.1, h.2.1.calling f mk a, h.2.2⟩
theorem z_pre {g : zG} {nx : Option Nat} {As : List Value} {M : zM} {s : State} {H : Heap} {locs : List Loc} (hS : z_S g s) (h1 : z_R g M H) (h2 : z_N g nx M H) (h3 : va_S (z_A g) s.heap H locs) : ∀ U : State, U.heap = H → s.WarmedH U.vm → z_Pc g nx As M (As.map (z_v g.1)).toArray U := fun U hU hW => by
  subst hU
  exact ⟨rfl, hS.go hW h3.1 h3.2.1, h1, h2⟩
theorem Cn.body {mi : zI} {d kc ks : Nat} {nx : Option Nat} {As : List Value} {M : zM} {F : zP} (h : Cn mi d kc ks nx As M F) {l : Launch} (hl : l.stackTraces = false) {g : zG} (hg : ∀ v, 8 ≤ v → g.2.2.2 ≤ g.1 v) (hn : (lg_sl As).length ≤ mi.2.2.2.1) (ho : mi.2.1 = mi.1.cls) {ws : List Cond} (hws : ∀ w ∈ SW, w ∈ ws)
    {p : Program} {e : Env} {s : State} {m : MethodId} {args : Array Value} {below : List Frame} {meth : Method} {c : Code} {s₁ : State} (B : BodyLoose p l mi.1 (headSpec ws { frames := d, cells := kc, slots := ks, locals := 32 * d }) mi.2.2.1 mi.2.2.2.1 mi.2.2.2.2.1 e s m args below meth c s₁) (hml : c.maxLocals = mi.2.2.2.1) (ht : c.exceptionTable.toList = tableOf mi.2.2.2.2.2) (hP : z_Pc g nx As M args s) :
    W p l e { frames := d, cells := kc, slots := ks, locals := 32 * d } s m args below meth c s.heap [] 0 0 (vx_MQ below (z_Q g F) (z_X g F) args s kc ks (z_A g)) (entryFrame m args mi.2.2.2.1) := by
  obtain ⟨rfl, hS, hR, hN⟩ := hP
  have hts := atoms_spec (ws := ws) B.pre
  have hl2 := lv_entry (As.map (z_v g.1)) (n := mi.2.2.2.1) (by rw [z_lgsl]; exact hn)
  rw [z_args] at hl2
  rw [lg_entry_eq]
  exact h l p e _ s m _ below meth c g kc ks ⟨B.exec, B.bytes, hml, B.returns, B.notSynchronized, ht, by rw [ho]; exact findClass_of_methodNamed B.named, fun w hw => hts w (hws w hw), (name_of_methodNamed B.named B.method).1, hS, hg, Nat.le_refl _, Nat.le_refl _, Nat.le_refl _, Nat.le_refl _, hl⟩ s.heap [] 0 0 _ ⟨hR, hN, va_S.rf, hl2, by omega, by omega⟩
theorem Cn.vmet {mi : zI} {d kc ks : Nat} {nx : Option Nat} {As : List Value} {M : zM} {F : zP} (h : Cn mi d kc ks nx As M F) {l : Launch} (hl : l.stackTraces = false) {g : zG} (hg : ∀ v, 8 ≤ v → g.2.2.2 ≤ g.1 v) (hn : (lg_sl As).length ≤ mi.2.2.2.1) {n : Nat} (ho : zok mi n) (hc : zoc mi) :
    vx_Met l mi.1 (Cond.code mi.1 mi.2.2.1 mi.2.2.2.1 mi.2.2.2.2.1 :: SW) { frames := d, cells := kc, slots := ks, locals := 32 * d } (z_Pc g nx As M) (z_Q g F) (z_X g F) kc ks (z_A g) := by
  refine vx_ofW (cc := mi.2.2.1) (maxL := mi.2.2.2.1) (ret := mi.2.2.2.2.1) ho.1 rfl ?_
  intro p e s m args below meth c s₁ B hml ht hP
  have ht2 : c.exceptionTable.toList = tableOf mi.2.2.2.2.2 := by
    rw [hc.1]
    cases hx : c.exceptionTable.toList with
    | nil => rfl
    | cons x t => exact (ht x (by rw [hx]; exact List.mem_cons_self)).elim
  exact h.body hl hg hn ho.2.1 (fun w hw => List.mem_cons_of_mem _ hw) B hml ht2 hP
theorem Cn.met {mi : zI} {d kc ks : Nat} {nx : Option Nat} {As : List Value} {M : zM} {F : zP} (h : Cn mi d kc ks nx As M F) (hno : ∀ M nx E, ¬ F M nx (.inr E)) {l : Launch} (hl : l.stackTraces = false) {g : zG} (hg : ∀ v, 8 ≤ v → g.2.2.2 ≤ g.1 v) (hn : (lg_sl As).length ≤ mi.2.2.2.1) {n : Nat} (ho : zok mi n) (hc : zoc mi) :
    Met l mi.1 (Cond.code mi.1 mi.2.2.1 mi.2.2.2.1 mi.2.2.2.2.1 :: SW) { frames := d, cells := kc, slots := ks, locals := 32 * d } (z_Pc g nx As M) (z_Q g F) kc ks (z_A g) := by
  have h1 := h.vmet hl hg hn ho hc
  intro p e ha hcs hk s m args below hf hfit hP hK
  obtain ⟨n, o, a1, a2, a3, a4⟩ := h1 p e ha hcs hk s m args below hf hfit hP hK
  refine ⟨n, o, a1, a2, a3, ?_⟩
  rcases a4 with a4 | ⟨q, -, E, ce, Ls, ⟨⟨M1, b1, -⟩, -⟩, -⟩
  · exact a4
  · exact (hno _ _ _ b1).elim
def zp (v : Option Value) (S : List Value) : List Value := match v with
  | some x => x :: S
  | none => S
theorem zp_map (r : Nat → Nat) (v : Option Value) (S : List Value) : (v.map (z_v r)).toList ++ S.map (z_v r) = (zp v S).map (z_v r) := by cases v <;> rfl
theorem z_room (r : Nat → Nat) {S : List Value} (h : (S.map fun v => v.category).sum ≤ 8) : ((S.map (z_v r)).map fun v => v.category).sum ≤ 8 := by
  have e : (S.map (z_v r)).map (fun v => v.category) = S.map fun v => v.category := by
    rw [List.map_map]
    exact List.map_congr_left (fun v _ => z_v_cat r v)
  rw [e]
  exact h
section GC
variable {mi : zI} {d kc ks : Nat} {nx : Option Nat} {pc : Nat} {L : List (Nat × Value)} {S0 S : List Value} {M : zM} {F : zP}
variable {mi' : zI} {d' kc' ks' kc1 ks1 idx n b : Nat} {As : List Value} {F' : zP}
/-- behind a callee's return -/
theorem z_back {g : zG} {l : Launch} {p : Program} {R : Room} {s : State} {m : MethodId} {args : Array Value} {meth : Method} {c : Code} {mc ms : Nat} (C : z_C mi d g l p R s m args meth c mc ms) {H : Heap} {locs : List Loc} {cells slots : Nat} {ls : Array Slot} (X : z_H mi kc ks nx L M g s H locs cells slots ls mc ms) {T' st t : State} {Ls : List Loc} {oc : Outcome} {v : Option Value} (h0 : st.heap = H) (e1 : T'.heap = t.heap) (hL : ∀ q ∈ Ls, z_A g q.base) (hq : (∃ (M : zM) (nx : Option Nat) (v : Option Value), oc = .returned (v.map (z_v g.1)) ∧ F' M nx (.inl v) ∧ z_R g M t.heap ∧ z_N g nx M t.heap) ∧ va_F (z_A g) st t) (hv : oc = .returned v) (h2 : kc1 + kc' ≤ kc) (h3 : ks1 + ks' ≤ ks) :
    ∃ (M1 : zM) (nx1 : Option Nat) (v1 : Option Value), v = v1.map (z_v g.1) ∧ F' M1 nx1 (.inl v1) ∧ z_H mi kc1 ks1 nx1 L M1 g s T'.heap (locs ++ Ls) (cells + kc') (slots + ks') ls mc ms := by
  obtain ⟨⟨M1, nx1, v1, b1, b2, b3, b4⟩, hF⟩ := hq
  obtain ⟨x1, x2, x3, x4, x5, x6⟩ := X
  rw [b1] at hv
  refine ⟨M1, nx1, v1, (Outcome.returned.inj hv).symm, b2, by rw [e1]; exact b3, by rw [e1]; exact b4, ?_, x4, by omega, by omega⟩
  exact (vx_keep h0 e1 x3 (fun q _ h => h) (fun q h => h) hL hF).2.2
theorem z_run {g : zG} {l : Launch} {p : Program} {e : Env} {R : Room} {s : State} {m : MethodId} {args : Array Value} {below : List Frame} {meth : Method} {c : Code} {mc ms : Nat} (C : z_C mi d g l p R s m args meth c mc ms) {H : Heap} {locs : List Loc} {cells slots : Nat} {ls : Array Slot} (X : z_H mi kc ks nx L M g s H locs cells slots ls mc ms) {st0 : List Value} {a : Array Value} (hr : va_Run p l e R s m args below meth c H locs cells slots kc' ks' (F0 m pc ls st0) (S.map (z_v g.1)) (z_Q g F' a) (z_A g)) (h2 : kc1 + kc' ≤ kc) (h3 : ks1 + ks' ≤ ks)
    (k : ∀ M1 nx1 v, F' M1 nx1 (.inl v) → G mi d kc1 ks1 nx1 (pc + 3) L (zp v S) M1 F) :
    W p l e R s m args below meth c H locs cells slots (vx_MQ below (z_Q g F) (z_X g F) args s mc ms (z_A g)) (F0 m pc ls st0) := by
  intro T hT Y
  obtain ⟨v, st, t, T', Ls, h0, Y', hL, e1, e2, hq, stp⟩ := hr T hT Y
  obtain ⟨M1, nx1, v1, rfl, b2, X1⟩ := z_back C X h0 e1 hL hq rfl h2 h3
  obtain ⟨t2, a1, a2⟩ := k M1 nx1 v1 b2 l p e R s m args below meth c g mc ms C _ _ _ _ ls X1 T' rfl Y'
  exact ⟨t2, stp t2 (by show Steps p.tables e below (T'.setTop (F0 m (pc + 3) ls ((v1.map (z_v g.1)).toList ++ S.map (z_v g.1)))) t2; rw [zp_map]; exact a1), a2⟩
theorem z_cb {g : zG} {l : Launch} {p : Program} {R : Room} {s : State} {m : MethodId} {args : Array Value} {meth : Method} {c : Code} {mc ms : Nat} (C : z_C mi d g l p R s m args meth c mc ms) (ho : zok mi' n) (hc : zoc mi') (hl : Cond.methodLink mi.2.1 idx mi'.1 ∈ SW) (h1 : d' + 1 ≤ d) :
    CallB R s args mi.2.1 idx mi'.1 mi'.2.2.1 mi'.2.2.2.1 mi'.2.2.2.2.1 (Cond.code mi'.1 mi'.2.2.1 mi'.2.2.2.1 mi'.2.2.2.2.1 :: SW) { frames := d', cells := kc', slots := ks', locals := 32 * d' } kc' ks' n := by
  obtain ⟨o1, o2, o3, o4, o5, o6⟩ := ho
  have hts := C.2.2.2.2.2.2.2.1
  have r1 := C.2.2.2.2.2.2.2.2.2.2.2.1
  have r2 := C.2.2.2.2.2.2.2.2.2.2.2.2.1
  refine ⟨rfl, rfl, by show d' + 1 ≤ R.frames; omega, by show 8 + (mi'.2.2.2.1 + 11) + 32 * d' ≤ R.locals; omega, z_all hts hc.2, List.mem_cons_self, hts _ hc.2, hts _ o6, o3, fun sig h => ?_, hts _ hl⟩
  rw [h] at o4
  exact (Option.some.inj o4).symm
theorem z_recv {g : zG} {s : State} {H : Heap} {ci : Nat} {fs : List Value} {r : vw_C} (hS : z_S g s) (h1 : z_R g M H) (hM : M b = some (.inr (ci, fs))) (hci : vwCl[ci]? = some r) : ∃ cell : Cell, H[g.1 b]? = some cell ∧ cell.vm.isStatics = false ∧ s.vm.findClass r.1 = some cell.cls := va_recv (q0 := 0) (ci := ci) hS.1 (z_one (h1.1 _ _ hM)) hci rfl
theorem g_callV {ci : Nat} {fs : List Value} {r : vw_C} (hc : Cn mi' d' kc' ks' nx (.ref b :: As) M F') (ho : zok mi' n) (hoc : zoc mi') (hl : zLV mi.2.1 idx mi') (hd : decode mi.2.2.1 pc = .ok (.invokevirtual idx, 3)) (hs : S0 = As.reverse ++ .ref b :: S) (hM : M b = some (.inr (ci, fs))) (hci : vwCl[ci]? = some r) (hr : r.1 = mi'.1.cls) (hA : As.length = n) (hg : (lg_sl (.ref b :: As)).length ≤ mi'.2.2.2.1) (hS : (S.map fun v => v.category).sum ≤ 8) (h1 : d' + 1 ≤ d) (h2 : kc1 + kc' ≤ kc) (h3 : ks1 + ks' ≤ ks) (hno : ∀ M nx E, ¬ F' M nx (.inr E))
    (k : ∀ M1 nx1 v, F' M1 nx1 (.inl v) → G mi d kc1 ks1 nx1 (pc + 3) L (zp v S) M1 F) : G mi d kc ks nx pc L S0 M F := by
  intro l p e R s m args below meth c g mc ms C H locs cells slots ls X
  have hCn := hc.met hno C.2.2.2.2.2.2.2.2.2.2.2.2.2.2.2 (g := g) C.2.2.2.2.2.2.2.2.2.2.1 hg ho hoc
  have hts := C.2.2.2.2.2.2.2.1
  have r3 := C.2.2.2.2.2.2.2.2.2.2.2.2.2.1
  have r4 := C.2.2.2.2.2.2.2.2.2.2.2.2.2.2.1
  have x5 := X.2.2.2.2.1
  have x6 := X.2.2.2.2.2
  refine z_run C X (va_runV (C := mi'.1.cls) (As := As.map (z_v g.1)) (b := g.1 b) (rest := S.map (z_v g.1)) (index := idx) ⟨C.1, C.2.1, C.2.2.1, C.2.2.2.2.2.2.1, hts⟩ hCn ⟨z_cb C ho hoc hl.1 h1, hts _ hl.2.1, hts _ hl.2.2⟩ ⟨z_blind _ _ _ _, by rw [← hr]; exact z_recv C.2.2.2.2.2.2.2.2.2.1 X.1 hM hci, z_pre C.2.2.2.2.2.2.2.2.2.1 X.1 X.2.1 X.2.2.1⟩ rfl (by rw [List.length_map]; exact hA) X.2.2.2.1.1 (by rw [hs, List.map_append, List.map_reverse]; rfl) (lv_room (z_room g.1 hS)) hd ⟨by omega, by omega⟩) h2 h3 k
theorem g_callS (hc : Cn mi' d' kc' ks' nx As M F') (ho : zok mi' n) (hoc : zoc mi') (hl : zLS mi.2.1 idx mi') (hd : decode mi.2.2.1 pc = .ok (.invokestatic idx, 3)) (hs : S0 = As.reverse ++ S) (hA : As.length = n) (hg : (lg_sl As).length ≤ mi'.2.2.2.1) (hS : (S.map fun v => v.category).sum ≤ 8) (h1 : d' + 1 ≤ d) (h2 : kc1 + kc' ≤ kc) (h3 : ks1 + ks' ≤ ks) (hno : ∀ M nx E, ¬ F' M nx (.inr E))
    (k : ∀ M1 nx1 v, F' M1 nx1 (.inl v) → G mi d kc1 ks1 nx1 (pc + 3) L (zp v S) M1 F) : G mi d kc ks nx pc L S0 M F := by
  intro l p e R s m args below meth c g mc ms C H locs cells slots ls X
  have hCn := hc.met hno C.2.2.2.2.2.2.2.2.2.2.2.2.2.2.2 (g := g) C.2.2.2.2.2.2.2.2.2.2.1 hg ho hoc
  have hts := C.2.2.2.2.2.2.2.1
  have r3 := C.2.2.2.2.2.2.2.2.2.2.2.2.2.1
  have r4 := C.2.2.2.2.2.2.2.2.2.2.2.2.2.2.1
  have x5 := X.2.2.2.2.1
  have x6 := X.2.2.2.2.2
  refine z_run C X (va_runS (As := As.map (z_v g.1)) (rest := S.map (z_v g.1)) (index := idx) ⟨C.1, C.2.1, C.2.2.1, C.2.2.2.2.2.2.1, hts⟩ hCn ⟨z_cb C ho hoc hl.1 h1, hts _ hl.2⟩ ⟨z_blind _ _ _ _, z_pre C.2.2.2.2.2.2.2.2.2.1 X.1 X.2.1 X.2.2.1⟩ rfl (by rw [List.length_map]; exact hA) X.2.2.2.1.1 (by rw [hs, List.map_append, List.map_reverse]) (lv_room (z_room g.1 hS)) hd ⟨by omega, by omega⟩) h2 h3 k
theorem z_cn {g : zG} {l : Launch} {p : Program} {R : Room} {s : State} {m : MethodId} {args : Array Value} {meth : Method} {c : Code} {mc ms : Nat} {host : String} (C : z_C mi d g l p R s m args meth c mc ms) (ho : zok mi' n) (hc : zoc mi') (hl : (mi.2.1, idx, mi'.1, host) ∈ z_nests) (h1 : d' + 1 ≤ d) :
    va_CN R s args mi.2.1 idx mi'.1 host mi'.2.2.1 mi'.2.2.2.1 mi'.2.2.2.2.1 (Cond.code mi'.1 mi'.2.2.1 mi'.2.2.2.1 mi'.2.2.2.2.1 :: SW) { frames := d', cells := kc', slots := ks', locals := 32 * d' } kc' ks' n := by
  obtain ⟨o1, o2, o3, o4, o5, o6⟩ := ho
  have hts := C.2.2.2.2.2.2.2.1
  have r1 := C.2.2.2.2.2.2.2.2.2.2.2.1
  have r2 := C.2.2.2.2.2.2.2.2.2.2.2.2.1
  refine ⟨⟨rfl, rfl, by show d' + 1 ≤ R.frames; omega, by show 8 + (mi'.2.2.2.1 + 11) + 32 * d' ≤ R.locals; omega, z_all hts hc.2, List.mem_cons_self⟩, hts _ hc.2, hts _ o6, o3, fun sig h => ?_, va_Nw.use rfl (C.2.2.2.2.2.2.2.2.2.1.2.2.2.2.2.1 _ hl)⟩
  rw [h] at o4
  exact (Option.some.inj o4).symm
theorem g_callSN {host : String} (hc : Cn mi' d' kc' ks' nx As M F') (ho : zok mi' n) (hoc : zoc mi') (hl : zLNS mi.2.1 idx mi' host) (hd : decode mi.2.2.1 pc = .ok (.invokestatic idx, 3)) (hs : S0 = As.reverse ++ S) (hA : As.length = n) (hg : (lg_sl As).length ≤ mi'.2.2.2.1) (hS : (S.map fun v => v.category).sum ≤ 8) (h1 : d' + 1 ≤ d) (h2 : kc1 + kc' ≤ kc) (h3 : ks1 + ks' ≤ ks) (hno : ∀ M nx E, ¬ F' M nx (.inr E))
    (k : ∀ M1 nx1 v, F' M1 nx1 (.inl v) → G mi d kc1 ks1 nx1 (pc + 3) L (zp v S) M1 F) : G mi d kc ks nx pc L S0 M F := by
  intro l p e R s m args below meth c g mc ms C H locs cells slots ls X
  have hCn := hc.met hno C.2.2.2.2.2.2.2.2.2.2.2.2.2.2.2 (g := g) C.2.2.2.2.2.2.2.2.2.2.1 hg ho hoc
  have hts := C.2.2.2.2.2.2.2.1
  have r3 := C.2.2.2.2.2.2.2.2.2.2.2.2.2.1
  have r4 := C.2.2.2.2.2.2.2.2.2.2.2.2.2.2.1
  have x5 := X.2.2.2.2.1
  have x6 := X.2.2.2.2.2
  refine z_run C X (va_runSN (host := host) (As := As.map (z_v g.1)) (rest := S.map (z_v g.1)) (index := idx) ⟨C.1, C.2.1, C.2.2.1, C.2.2.2.2.2.2.1, hts⟩ hCn ⟨z_cn C ho hoc hl.1 h1, hts _ hl.2, trivial⟩ ⟨z_blind _ _ _ _, z_pre C.2.2.2.2.2.2.2.2.2.1 X.1 X.2.1 X.2.2.1⟩ rfl (by rw [List.length_map]; exact hA) X.2.2.2.1.1 (by rw [hs, List.map_append, List.map_reverse]) (lv_room (z_room g.1 hS)) hd ⟨by omega, by omega⟩) h2 h3 k
theorem g_callI (hc : Cn mi' d' kc' ks' nx (.ref b :: As) M F') (ho : zok mi' n) (hoc : zoc mi') (hl : zLI mi.2.1 idx mi') (hd : decode mi.2.2.1 pc = .ok (.invokespecial idx, 3)) (hs : S0 = As.reverse ++ .ref b :: S) (hA : As.length = n) (hg : (lg_sl (.ref b :: As)).length ≤ mi'.2.2.2.1) (hS : (S.map fun v => v.category).sum ≤ 8) (h1 : d' + 1 ≤ d) (h2 : kc1 + kc' ≤ kc) (h3 : ks1 + ks' ≤ ks) (hno : ∀ M nx E, ¬ F' M nx (.inr E))
    (k : ∀ M1 nx1 v, F' M1 nx1 (.inl v) → G mi d kc1 ks1 nx1 (pc + 3) L (zp v S) M1 F) : G mi d kc ks nx pc L S0 M F := by
  intro l p e R s m args below meth c g mc ms C H locs cells slots ls X
  have hCn := hc.met hno C.2.2.2.2.2.2.2.2.2.2.2.2.2.2.2 (g := g) C.2.2.2.2.2.2.2.2.2.2.1 hg ho hoc
  have hts := C.2.2.2.2.2.2.2.1
  have r3 := C.2.2.2.2.2.2.2.2.2.2.2.2.2.1
  have r4 := C.2.2.2.2.2.2.2.2.2.2.2.2.2.2.1
  have x5 := X.2.2.2.2.1
  have x6 := X.2.2.2.2.2
  have hcb := z_cb (kc' := kc') (ks' := ks') C ho hoc hl.1 h1
  rw [hl.2.2.2] at hcb hCn
  refine z_run C X (va_runI (As := As.map (z_v g.1)) (b := g.1 b) (rest := S.map (z_v g.1)) (index := idx) ⟨C.1, C.2.1, C.2.2.1, C.2.2.2.2.2.2.1, hts⟩ hCn ⟨hcb, hl.2.2.1, hts _ hl.2.1⟩ ⟨z_blind _ _ _ _, z_pre C.2.2.2.2.2.2.2.2.2.1 X.1 X.2.1 X.2.2.1⟩ rfl (by rw [List.length_map]; exact hA) X.2.2.2.1.1 (by rw [hs, List.map_append, List.map_reverse]; rfl) (lv_room (z_room g.1 hS)) hd ⟨by omega, by omega⟩) h2 h3 k
theorem g_callIN {host : String} (hc : Cn mi' d' kc' ks' nx (.ref b :: As) M F') (ho : zok mi' n) (hoc : zoc mi') (hl : zLNI mi.2.1 idx mi' host) (hd : decode mi.2.2.1 pc = .ok (.invokespecial idx, 3)) (hs : S0 = As.reverse ++ .ref b :: S) (hA : As.length = n) (hg : (lg_sl (.ref b :: As)).length ≤ mi'.2.2.2.1) (hS : (S.map fun v => v.category).sum ≤ 8) (h1 : d' + 1 ≤ d) (h2 : kc1 + kc' ≤ kc) (h3 : ks1 + ks' ≤ ks) (hno : ∀ M nx E, ¬ F' M nx (.inr E))
    (k : ∀ M1 nx1 v, F' M1 nx1 (.inl v) → G mi d kc1 ks1 nx1 (pc + 3) L (zp v S) M1 F) : G mi d kc ks nx pc L S0 M F := by
  intro l p e R s m args below meth c g mc ms C H locs cells slots ls X
  have hCn := hc.met hno C.2.2.2.2.2.2.2.2.2.2.2.2.2.2.2 (g := g) C.2.2.2.2.2.2.2.2.2.2.1 hg ho hoc
  have hts := C.2.2.2.2.2.2.2.1
  have r3 := C.2.2.2.2.2.2.2.2.2.2.2.2.2.1
  have r4 := C.2.2.2.2.2.2.2.2.2.2.2.2.2.2.1
  have x5 := X.2.2.2.2.1
  have x6 := X.2.2.2.2.2
  have hcb := z_cn (kc' := kc') (ks' := ks') C ho hoc hl.1 h1
  rw [hl.2.2.2] at hcb hCn
  refine z_run C X (va_runIN (host := host) (As := As.map (z_v g.1)) (b := g.1 b) (rest := S.map (z_v g.1)) (index := idx) ⟨C.1, C.2.1, C.2.2.1, C.2.2.2.2.2.2.1, hts⟩ hCn ⟨hcb, hl.2.2.1, hts _ hl.2.1⟩ ⟨z_blind _ _ _ _, z_pre C.2.2.2.2.2.2.2.2.2.1 X.1 X.2.1 X.2.2.1⟩ rfl (by rw [List.length_map]; exact hA) X.2.2.2.1.1 (by rw [hs, List.map_append, List.map_reverse]; rfl) (lv_room (z_room g.1 hS)) hd ⟨by omega, by omega⟩) h2 h3 k
/-- Object.<init> -/
theorem g_objInit (hl : Cond.methodLink mi.2.1 idx objectInit ∈ SW ∧ Cond.instanceMethod objectInit ∈ SW ∧ Cond.code objectInit ⟨#[0xb1]⟩ 1 none ∈ SW) (hd : decode mi.2.2.1 pc = .ok (.invokespecial idx, 3)) (h1 : 1 ≤ d) (hS : (S.map fun v => v.category).sum ≤ 8) (k : G mi d kc ks nx (pc + 3) L S M F) : G mi d kc ks nx pc L (.ref b :: S) M F := by
  intro l p e R s m args below meth c g mc ms C H locs cells slots ls X
  have hts := C.2.2.2.2.2.2.2.1
  have r1 := C.2.2.2.2.2.2.2.2.2.2.2.1
  have r2 := C.2.2.2.2.2.2.2.2.2.2.2.2.1
  have hroom := z_room g.1 hS
  have hr2 := lv_room (m := m) (pc := pc) (ls := ls) (rest := List.map (z_v g.1) (Value.ref b :: S)) hroom
  refine W.objInit C.1 C.2.1 C.2.2.2.2.2.2.1 (hts _ hl.1) (hts _ hl.2.1) (hts _ hl.2.2) rfl (X.2.2.2.1.1.trans C.2.2.1.symm) rfl hd (by omega) (by omega) ?_
  exact W.eq (g2 := F0 m (pc + 3) ls (S.map (z_v g.1))) rfl (k l p e R s m args below meth c g mc ms C H locs cells slots ls X)
end GC
end
section
/-! G: throws, calls that may throw, handlers, members of the JDK -/
def z_nm : List String := ["java/lang/RuntimeException", "java/lang/Exception"]
def zTh (ik ic : Nat) (cls : String) : Prop := Cond.classLink RX5 ik cls ∈ SW ∧ Cond.initialized cls ∈ SW ∧ (∀ w ∈ (vx_atS RX5 ic cls z_nm).filter goodWord, w ∈ SW) ∧ (∀ w ∈ (vx_atS RX5 ic cls z_nm).filter (fun w => !goodWord w), w ∈ Cond.castable cls cls :: z_decl.map (fun q => Cond.declares ⟨q, "<init>", "(Ljava/lang/String;)V"⟩)) ∧ (∀ w ∈ Cond.classLink RX5 ik cls :: Cond.initialized cls :: vx_atS RX5 ic cls z_nm, vx_ot w = true) ∧ Bundle.fit cls = true ∧ cls ∈ z_xs
set_option maxRecDepth 100000 in
theorem zTh_ISE : zTh 70 74 "java/lang/IllegalStateException" := by
  refine ⟨by decide +kernel, by decide +kernel, by decide +kernel, by decide +kernel, by decide +kernel, by decide +kernel, by decide +kernel⟩
set_option maxRecDepth 100000 in
theorem zTh_IOB : zTh 148 152 "java/lang/IndexOutOfBoundsException" := by
  refine ⟨by decide +kernel, by decide +kernel, by decide +kernel, by decide +kernel, by decide +kernel, by decide +kernel, by decide +kernel⟩
set_option maxRecDepth 100000 in
theorem zTh_IAE : zTh 329 333 "java/lang/IllegalArgumentException" := by
  refine ⟨by decide +kernel, by decide +kernel, by decide +kernel, by decide +kernel, by decide +kernel, by decide +kernel, by decide +kernel⟩
theorem z_nm_fit : ∀ n ∈ z_nm, Bundle.fit n = true := by decide +kernel
theorem z_R.keep {g : zG} {M : zM} {H H1 : Heap} (h : z_R g M H) (o : ∀ q : Nat, q < H.size → H1[q]? = H[q]?) : z_R g M H1 := ⟨fun v e hv => (h.1 v e hv).kept (o _ (h.1 v e hv).lt), h.2⟩
theorem z_hdecl {g : zG} {s : State} {args : Array Value} (h : z_S g s) : ∀ w ∈ z_decl.map (fun q => Cond.declares ⟨q, "<init>", "(Ljava/lang/String;)V"⟩), w.before args s = true := fun w hw => by
  obtain ⟨q, hq, rfl⟩ := List.mem_map.mp hw
  exact va_Nw.use rfl (h.2.2.2.2.2.2.1.1.2 q hq)
section GX
variable {mi : zI} {d kc ks : Nat} {nx : Option Nat} {pc : Nat} {L : List (Nat × Value)} {S0 S : List Value} {M : zM} {F : zP}
variable {mi' : zI} {d' kc' ks' kc1 ks1 idx n b : Nat} {As : List Value} {F' : zP}
theorem z_thx {g : zG} {s : State} {H : Heap} {locs : List Loc} {cls : String} (h1 : z_R g M H) (hS : va_S (z_A g) s.heap H locs) (h : F M none (.inr cls)) : ∀ t : State, s.vm.Alike t.vm → H.size ≤ t.heap.size → (∀ q : Nat, q < H.size → t.heap[q]? = H[q]?) → z_X g F cls s t := fun t _ h2 h3 =>
  ⟨⟨M, h, h1.keep h3⟩, Nat.le_trans hS.1 h2, fun q q1 q2 => (h3 q (Nat.lt_of_lt_of_le q1 hS.1)).trans (hS.2.1 q q1 q2)⟩
theorem g_throw {ik is ic : Nat} {cls text : String} (hmi : mi.2.1 = RX5) (htb : mi.2.2.2.2.2 = []) (hT : zTh ik ic cls) (ht : (is, text) ∈ z_texts) (d0 : decode mi.2.2.1 pc = .ok (.new ik, 3)) (d3 : decode mi.2.2.1 (pc + 3) = .ok (.dup, 1)) (d4 : decode mi.2.2.1 (pc + 4) = .ok (.ldc is, 2)) (d6 : decode mi.2.2.1 (pc + 6) = .ok (.invokespecial ic, 3)) (d9 : decode mi.2.2.1 (pc + 9) = .ok (.athrow, 1)) (h1 : 6 ≤ d) (h2 : 1 ≤ kc) (h3 : 6 ≤ ks) (hS : (S.map fun v => v.category).sum ≤ 8) (h : F M none (.inr cls)) : G mi d kc ks nx pc L S M F := by
  intro l p e R s m args below meth c g mc ms C H locs cells slots ls X
  obtain ⟨t1, t2, t3, t4, t5, t6, t7⟩ := hT
  have hts := C.2.2.2.2.2.2.2.1
  have r1 := C.2.2.2.2.2.2.2.2.2.2.2.1
  have r2 := C.2.2.2.2.2.2.2.2.2.2.2.2.1
  have r3 := C.2.2.2.2.2.2.2.2.2.2.2.2.2.1
  have r4 := C.2.2.2.2.2.2.2.2.2.2.2.2.2.2.1
  have hSs := C.2.2.2.2.2.2.2.2.2.1
  obtain ⟨x1, x2, x3, x4, x5, x6⟩ := X
  obtain ⟨sa, hsa⟩ := hSs.2.2.2.1 _ ht
  have hown := C.2.2.2.2.2.2.1
  rw [hmi] at hown
  have htab : ∀ x ∈ c.exceptionTable.toList, covers x (pc + 9) = false := by
    rw [C.2.2.2.2.2.1, htb]
    intro x hx
    cases hx
  have hroom := z_room g.1 hS
  refine vx_throwS (A := z_A g) C.1 C.2.1 C.2.2.2.2.2.2.2.2.2.2.2.2.2.2.2 (own := RX5) (cls := cls) (text := text) (names := z_nm) (sa := sa) hown t6 z_nm_fit (hts _ t1) (hts _ t2) hsa (vx_hat (fun w hw => hts w (t3 w hw)) t4 (vx_c (va_Nw.use rfl (hSs.2.2.2.2.2.2.1.1.1 _ t7)) (z_hdecl hSs))) t5 hSs.2.2.1.1 hSs.2.2.1.2 x3 (x4.1.trans C.2.2.1.symm) d0 d3 d4 d6 d9 htab (by show 5 < R.frames; omega) (by show _ + 82 ≤ R.locals; omega) (by omega) (by omega) C.2.2.2.2.1 (z_thx x1 x3 h) x3.2.2 (by omega) (by omega)
theorem g_throwW {ik is ic : Nat} {cls text : String} (hmi : mi.2.1 = RX5) (htb : mi.2.2.2.2.2 = []) (hT : zTh ik ic cls) (ht : (is, text) ∈ z_texts) (d0 : decode mi.2.2.1 pc = .ok (.new ik, 3)) (d3 : decode mi.2.2.1 (pc + 3) = .ok (.dup, 1)) (d4 : decode mi.2.2.1 (pc + 4) = .ok (.ldc_w is, 3)) (d7 : decode mi.2.2.1 (pc + 7) = .ok (.invokespecial ic, 3)) (d10 : decode mi.2.2.1 (pc + 10) = .ok (.athrow, 1)) (h1 : 6 ≤ d) (h2 : 1 ≤ kc) (h3 : 6 ≤ ks) (hS : (S.map fun v => v.category).sum ≤ 8) (h : F M none (.inr cls)) : G mi d kc ks nx pc L S M F := by
  intro l p e R s m args below meth c g mc ms C H locs cells slots ls X
  obtain ⟨t1, t2, t3, t4, t5, t6, t7⟩ := hT
  have hts := C.2.2.2.2.2.2.2.1
  have r1 := C.2.2.2.2.2.2.2.2.2.2.2.1
  have r2 := C.2.2.2.2.2.2.2.2.2.2.2.2.1
  have r3 := C.2.2.2.2.2.2.2.2.2.2.2.2.2.1
  have r4 := C.2.2.2.2.2.2.2.2.2.2.2.2.2.2.1
  have hSs := C.2.2.2.2.2.2.2.2.2.1
  obtain ⟨x1, x2, x3, x4, x5, x6⟩ := X
  obtain ⟨sa, hsa⟩ := hSs.2.2.2.1 _ ht
  have hown := C.2.2.2.2.2.2.1
  rw [hmi] at hown
  have htab : ∀ x ∈ c.exceptionTable.toList, covers x (pc + 10) = false := by
    rw [C.2.2.2.2.2.1, htb]
    intro x hx
    cases hx
  have hroom := z_room g.1 hS
  refine vx_throwSW (A := z_A g) C.1 C.2.1 C.2.2.2.2.2.2.2.2.2.2.2.2.2.2.2 (own := RX5) (cls := cls) (text := text) (names := z_nm) (sa := sa) hown t6 z_nm_fit (hts _ t1) (hts _ t2) hsa (vx_hat (fun w hw => hts w (t3 w hw)) t4 (vx_c (va_Nw.use rfl (hSs.2.2.2.2.2.2.1.1.1 _ t7)) (z_hdecl hSs))) t5 hSs.2.2.1.1 hSs.2.2.1.2 x3 (x4.1.trans C.2.2.1.symm) d0 d3 d4 d7 d10 htab (by show 5 < R.frames; omega) (by show _ + 82 ≤ R.locals; omega) (by omega) (by omega) C.2.2.2.2.1 (z_thx x1 x3 h) x3.2.2 (by omega) (by omega)
/-- behind a call that may throw: it returns, or throws and is not caught here, or is caught -/
theorem z_xrun {g : zG} {l : Launch} {p : Program} {e : Env} {R : Room} {s : State} {m : MethodId} {args : Array Value} {below : List Frame} {meth : Method} {c : Code} {mc ms : Nat} (C : z_C mi d g l p R s m args meth c mc ms) {H : Heap} {locs : List Loc} {cells slots : Nat} {ls : Array Slot} (X : z_H mi kc ks nx L M g s H locs cells slots ls mc ms) {st0 : List Value} {a : Array Value} (hr : vx_Run p l e R s m args below meth c H locs cells slots kc' ks' (F0 m pc ls st0) (S.map (z_v g.1)) (z_Q g F' a) (z_X g F') (z_A g)) (h2 : kc1 + kc' ≤ kc) (h3 : ks1 + ks' ≤ ks)
    (k : ∀ M1 nx1 v, F' M1 nx1 (.inl v) → G mi d kc1 ks1 nx1 (pc + 3) L (zp v S) M1 F)
    (kx : ∀ (M1 : zM) (E : String) (H1 : Heap) (locs1 : List Loc) (cl sl : Nat) (q : Addr) (ce : Cell), F' M1 none (.inr E) → z_H mi kc1 ks1 none L M1 g s H1 locs1 cl sl ls mc ms → H1[q]? = some ce → ce.vm = .none → s.vm.findClass E = some ce.cls → vx_W p l e R s m args below meth c H1 locs1 cl sl (vx_MQ below (z_Q g F) (z_X g F) args s mc ms (z_A g)) (F0 m pc ls (S.map (z_v g.1))) q) :
    W p l e R s m args below meth c H locs cells slots (vx_MQ below (z_Q g F) (z_X g F) args s mc ms (z_A g)) (F0 m pc ls st0) := by
  intro T hT Y
  rcases hr T hT Y with ⟨v, st, t, T', Ls, h0, Y', hL, e1, e2, hq, stp⟩ | ⟨q, st, t, T', Ls, E, ce, h0, Y', hL, e1, e2, ⟨⟨M1, b1, b2⟩, hF⟩, hce, hcv, hcl, stp⟩
  · obtain ⟨M1, nx1, v1, rfl, b2, X1⟩ := z_back C X h0 e1 hL hq rfl h2 h3
    obtain ⟨t2, a1, a2⟩ := k M1 nx1 v1 b2 l p e R s m args below meth c g mc ms C _ _ _ _ ls X1 T' rfl Y'
    exact ⟨t2, stp t2 (by show Steps p.tables e below (T'.setTop (F0 m (pc + 3) ls ((v1.map (z_v g.1)).toList ++ S.map (z_v g.1)))) t2; rw [zp_map]; exact a1), a2⟩
  · obtain ⟨x1, x2, x3, x4, x5, x6⟩ := X
    obtain ⟨t2, a1, a2⟩ := kx M1 E T'.heap (locs ++ Ls) (cells + kc') (slots + ks') q ce b1 ⟨by rw [e1]; exact b2, (fun n hn => nomatch hn), (vx_keep h0 e1 x3 (fun q _ h => h) (fun q h => h) hL hF).2.2, x4, by omega, by omega⟩ (by rw [e1]; exact hce) hcv hcl T' rfl Y'
    exact ⟨t2, stp.trans a1, a2⟩
theorem z_xout {g : zG} {l : Launch} {p : Program} {e : Env} {R : Room} {s : State} {m : MethodId} {args : Array Value} {below : List Frame} {meth : Method} {c : Code} {mc ms : Nat} (C : z_C mi d g l p R s m args meth c mc ms) (htb : mi.2.2.2.2.2 = []) {H : Heap} {locs : List Loc} {cells slots : Nat} {ls : Array Slot} (X : z_H mi kc ks none L M g s H locs cells slots ls mc ms) {E : String} {q : Addr} {ce : Cell} {st : List Value} (h1 : H[q]? = some ce) (h2 : ce.vm = .none) (h3 : s.vm.findClass E = some ce.cls) (h : F M none (.inr E)) : vx_W p l e R s m args below meth c H locs cells slots (vx_MQ below (z_Q g F) (z_X g F) args s mc ms (z_A g)) (F0 m pc ls st) q := by
  obtain ⟨x1, x2, x3, x4, x5, x6⟩ := X
  refine vx_out (by rw [C.2.2.2.2.2.1, htb]; intro x hx; cases hx) C.2.2.2.2.1 h1 h2 h3 (fun t ht ha => z_thx x1 x3 h t ha (by rw [ht]; exact Nat.le_refl _) (fun q _ => by rw [ht])) x3.2.2 (by omega) (by omega)
theorem g_callSx (htb : mi.2.2.2.2.2 = []) (hc : Cn mi' d' kc' ks' nx As M F') (ho : zok mi' n) (hoc : zoc mi') (hl : zLS mi.2.1 idx mi') (hd : decode mi.2.2.1 pc = .ok (.invokestatic idx, 3)) (hs : S0 = As.reverse ++ S) (hA : As.length = n) (hg : (lg_sl As).length ≤ mi'.2.2.2.1) (hS : (S.map fun v => v.category).sum ≤ 8) (h1 : d' + 1 ≤ d) (h2 : kc1 + kc' ≤ kc) (h3 : ks1 + ks' ≤ ks) (kx : ∀ M1 E, F' M1 none (.inr E) → F M1 none (.inr E))
    (k : ∀ M1 nx1 v, F' M1 nx1 (.inl v) → G mi d kc1 ks1 nx1 (pc + 3) L (zp v S) M1 F) : G mi d kc ks nx pc L S0 M F := by
  intro l p e R s m args below meth c g mc ms C H locs cells slots ls X
  have hCn := hc.vmet C.2.2.2.2.2.2.2.2.2.2.2.2.2.2.2 (g := g) C.2.2.2.2.2.2.2.2.2.2.1 hg ho hoc
  have hts := C.2.2.2.2.2.2.2.1
  have r3 := C.2.2.2.2.2.2.2.2.2.2.2.2.2.1
  have r4 := C.2.2.2.2.2.2.2.2.2.2.2.2.2.2.1
  have x5 := X.2.2.2.2.1
  have x6 := X.2.2.2.2.2
  refine z_xrun C X (vx_runS (As := As.map (z_v g.1)) (rest := S.map (z_v g.1)) (index := idx) ⟨C.1, C.2.1, C.2.2.1, C.2.2.2.2.2.2.1, hts⟩ hCn ⟨z_cb C ho hoc hl.1 h1, hts _ hl.2⟩ ⟨z_blind _ _ _ _, z_pre C.2.2.2.2.2.2.2.2.2.1 X.1 X.2.1 X.2.2.1⟩ rfl (by rw [List.length_map]; exact hA) X.2.2.2.1.1 (by rw [hs, List.map_append, List.map_reverse]) (lv_room (z_room g.1 hS)) hd ⟨by omega, by omega⟩) h2 h3 k (fun M1 E H1 locs1 cl sl q ce b1 X1 hce hcv hcl => z_xout C htb X1 hce hcv hcl (kx M1 E b1))
/-- which row of the table takes E, thrown at pc -/
def zH (mi : zI) (pc : Nat) (E : String) (hp : Nat) : Prop := E ∈ z_xs ∧ ∃ (pre suf : List (Nat × Nat × Nat × Nat)) (x : Nat × Nat × Nat × Nat), mi.2.2.2.2.2 = pre ++ x :: suf ∧ (∀ z ∈ pre, z.2.2.2 ≠ 0 ∧ ∃ nm ∈ z_xs, E ≠ nm ∧ Cond.classLink mi.2.1 z.2.2.2 nm ∈ SW) ∧ covers ⟨x.1, x.2.1, x.2.2.1, x.2.2.2⟩ pc = true ∧ x.2.2.2 ≠ 0 ∧ Cond.classLink mi.2.1 x.2.2.2 E ∈ SW ∧ x.2.2.1 = hp
theorem z_L_zf1b {g : zG} {L : List (Nat × Value)} {i : Nat} {v : Value} : ∀ q ∈ z_L g (zf1 i L), q ∈ (i, v) :: (z_L g L).filter (fun q => !(q.1 == i) && !(q.1 + 1 == i && q.2.category == 2)) := by
  intro q hq
  obtain ⟨q0, h0, rfl⟩ := List.mem_map.mp hq
  have h := z_L_zf1 (g := g) (v := .null) (i := i) (q0.1, z_v g.1 q0.2) (List.mem_cons_of_mem _ (List.mem_map.mpr ⟨q0, h0, rfl⟩))
  rcases List.mem_cons.mp h with h | h
  · exact ((zf1_mem h0).2.1 (congrArg Prod.fst h)).elim
  · exact List.mem_cons_of_mem _ h
/-- a virtual call that may throw, in a method with handlers; the handler stores the exception at place j and goes on behind it -/
theorem g_callVx {ci : Nat} {fs : List Value} {r : vw_C} {j : Nat} (hc : Cn mi' d' kc' ks' nx (.ref b :: As) M F') (ho : zok mi' n) (hoc : zoc mi') (hl : zLV mi.2.1 idx mi') (hd : decode mi.2.2.1 pc = .ok (.invokevirtual idx, 3)) (hs : S0 = As.reverse ++ .ref b :: S) (hM : M b = some (.inr (ci, fs))) (hci : vwCl[ci]? = some r) (hr : r.1 = mi'.1.cls) (hA : As.length = n) (hg : (lg_sl (.ref b :: As)).length ≤ mi'.2.2.2.1) (hS : (S.map fun v => v.category).sum ≤ 8) (h1 : d' + 1 ≤ d) (h2 : kc1 + kc' ≤ kc) (h3 : ks1 + ks' ≤ ks) (hj : j < mi.2.2.2.1)
    (kx : ∀ M1 E, F' M1 none (.inr E) → ∃ hp ln, zH mi pc E hp ∧ ((∃ q : Fin 4, decode mi.2.2.1 hp = .ok (.astore_n q, 1) ∧ ln = 1 ∧ (q : Nat) = j) ∨ (decode mi.2.2.1 hp = .ok (.astore j, 2) ∧ ln = 2)) ∧ G mi d kc1 ks1 none (hp + ln) (zf1 j L) [] M1 F)
    (k : ∀ M1 nx1 v, F' M1 nx1 (.inl v) → G mi d kc1 ks1 nx1 (pc + 3) L (zp v S) M1 F) : G mi d kc ks nx pc L S0 M F := by
  intro l p e R s m args below meth c g mc ms C H locs cells slots ls X
  have hCn := hc.vmet C.2.2.2.2.2.2.2.2.2.2.2.2.2.2.2 (g := g) C.2.2.2.2.2.2.2.2.2.2.1 hg ho hoc
  have hts := C.2.2.2.2.2.2.2.1
  have r3 := C.2.2.2.2.2.2.2.2.2.2.2.2.2.1
  have r4 := C.2.2.2.2.2.2.2.2.2.2.2.2.2.2.1
  have x5 := X.2.2.2.2.1
  have x6 := X.2.2.2.2.2
  have hSs := C.2.2.2.2.2.2.2.2.2.1
  refine z_xrun C X (vx_runV (C := mi'.1.cls) (As := As.map (z_v g.1)) (b := g.1 b) (rest := S.map (z_v g.1)) (index := idx) ⟨C.1, C.2.1, C.2.2.1, C.2.2.2.2.2.2.1, hts⟩ hCn ⟨z_cb C ho hoc hl.1 h1, hts _ hl.2.1, hts _ hl.2.2⟩ ⟨z_blind _ _ _ _, by rw [← hr]; exact z_recv hSs X.1 hM hci, z_pre hSs X.1 X.2.1 X.2.2.1⟩ rfl (by rw [List.length_map]; exact hA) X.2.2.2.1.1 (by rw [hs, List.map_append, List.map_reverse]; rfl) (lv_room (z_room g.1 hS)) hd ⟨by omega, by omega⟩) h2 h3 k (fun M1 E H1 locs1 cl sl q ce b1 X1 hce hcv hcl => ?_)
  obtain ⟨hp, ln, ⟨hE, pre, suf, x, k1, k2, k3, k4, k5, k6⟩, kd, kk⟩ := kx M1 E b1
  subst k6
  refine vx_catch (own := mi.2.1) (name := E) (E := E) (ce := ce) C.2.2.2.2.2.2.1 (tableOf pre) ⟨x.1, x.2.1, x.2.2.1, x.2.2.2⟩ (tableOf suf) (by rw [C.2.2.2.2.2.1, k1]; simp [tableOf]) (fun z hz => ?_) k3 k4 (hts _ k5) (va_Nw.use rfl (hSs.2.2.2.2.2.2.1.1.1 _ hE)) hce hcv hcl ?_
  · obtain ⟨z0, hz0, rfl⟩ := List.mem_map.mp hz
    obtain ⟨n1, nm, n2, n3, n4⟩ := k2 z0 hz0
    exact Or.inr ⟨n1, nm, hts _ n4, hSs.2.2.2.2.2.2.1.2 _ hE _ n2 n3⟩
  · obtain ⟨y1, y2, y3, y4, y5⟩ := X1
    rcases kd with ⟨q4, kd, rfl, rfl⟩ | ⟨kd, rfl⟩
    · exact lv_astore_n C.1 C.2.1 kd rfl y4 hj rfl (fun ls' hl' => kk l p e R s m args below meth c g mc ms C H1 locs1 cl sl ls' ⟨y1, y2, y3, hl'.less z_L_zf1b, y5⟩)
    · exact lv_astore C.1 C.2.1 kd y4 hj rfl (fun ls' hl' => kk l p e R s m args below meth c g mc ms C H1 locs1 cl sl ls' ⟨y1, y2, y3, hl'.less z_L_zf1b, y5⟩)
/-- a static call of a method with handlers, that doesn't throw -/
def zoh (mi : zI) : Prop := Cond.codeWith mi.1 mi.2.2.1 mi.2.2.2.1 mi.2.2.2.2.1 mi.2.2.2.2.2 ∈ SW
theorem Cn.metH {mi : zI} {d kc ks : Nat} {nx : Option Nat} {As : List Value} {M : zM} {F : zP} (h : Cn mi d kc ks nx As M F) (hno : ∀ M nx E, ¬ F M nx (.inr E)) {l : Launch} (hl : l.stackTraces = false) {g : zG} (hg : ∀ v, 8 ≤ v → g.2.2.2 ≤ g.1 v) (hn : (lg_sl As).length ≤ mi.2.2.2.1) {n : Nat} (ho : zok mi n) :
    Met l mi.1 (Cond.codeWith mi.1 mi.2.2.1 mi.2.2.2.1 mi.2.2.2.2.1 mi.2.2.2.2.2 :: SW) { frames := d, cells := kc, slots := ks, locals := 32 * d } (z_Pc g nx As M) (z_Q g F) kc ks (z_A g) := by
  have h1 : vx_Met l mi.1 (Cond.codeWith mi.1 mi.2.2.1 mi.2.2.2.1 mi.2.2.2.2.1 mi.2.2.2.2.2 :: SW) { frames := d, cells := kc, slots := ks, locals := 32 * d } (z_Pc g nx As M) (z_Q g F) (z_X g F) kc ks (z_A g) := by
    refine vx_ofWH (cc := mi.2.2.1) (maxL := mi.2.2.2.1) (ret := mi.2.2.2.2.1) (hh := mi.2.2.2.2.2) ho.1 rfl ?_
    intro p e s m args below meth c s₁ B hml hP
    exact h.body hl hg hn ho.2.1 (fun w hw => List.mem_cons_of_mem _ hw) B hml (vx_table (x := mi.1) B (atoms_spec (ws := Cond.codeWith mi.1 mi.2.2.1 mi.2.2.2.1 mi.2.2.2.2.1 mi.2.2.2.2.2 :: SW) B.pre _ List.mem_cons_self)) hP
  intro p e ha hcs hk s m args below hf hfit hP hK
  obtain ⟨n, o, a1, a2, a3, a4⟩ := h1 p e ha hcs hk s m args below hf hfit hP hK
  refine ⟨n, o, a1, a2, a3, ?_⟩
  rcases a4 with a4 | ⟨q, -, E, ce, Ls, ⟨⟨M1, b1, -⟩, -⟩, -⟩
  · exact a4
  · exact (hno _ _ _ b1).elim
theorem g_callSW (hc : Cn mi' d' kc' ks' nx As M F') (ho : zok mi' n) (hoc : zoh mi') (hl : zLS mi.2.1 idx mi') (hd : decode mi.2.2.1 pc = .ok (.invokestatic idx, 3)) (hs : S0 = As.reverse ++ S) (hA : As.length = n) (hg : (lg_sl As).length ≤ mi'.2.2.2.1) (hS : (S.map fun v => v.category).sum ≤ 8) (h1 : d' + 1 ≤ d) (h2 : kc1 + kc' ≤ kc) (h3 : ks1 + ks' ≤ ks) (hno : ∀ M nx E, ¬ F' M nx (.inr E))
    (k : ∀ M1 nx1 v, F' M1 nx1 (.inl v) → G mi d kc1 ks1 nx1 (pc + 3) L (zp v S) M1 F) : G mi d kc ks nx pc L S0 M F := by
  intro l p e R s m args below meth c g mc ms C H locs cells slots ls X
  have hCn := hc.metH hno C.2.2.2.2.2.2.2.2.2.2.2.2.2.2.2 (g := g) C.2.2.2.2.2.2.2.2.2.2.1 hg ho
  have hts := C.2.2.2.2.2.2.2.1
  have r1 := C.2.2.2.2.2.2.2.2.2.2.2.1
  have r2 := C.2.2.2.2.2.2.2.2.2.2.2.2.1
  have r3 := C.2.2.2.2.2.2.2.2.2.2.2.2.2.1
  have r4 := C.2.2.2.2.2.2.2.2.2.2.2.2.2.2.1
  have x5 := X.2.2.2.2.1
  have x6 := X.2.2.2.2.2
  obtain ⟨o1, o2, o3, o4, o5, o6⟩ := ho
  refine z_run C X (vx_runSW (As := As.map (z_v g.1)) (rest := S.map (z_v g.1)) (index := idx) (n := n) (hh := mi'.2.2.2.2.2) (bytes := mi'.2.2.1) (maxL := mi'.2.2.2.1) (ret := mi'.2.2.2.2.1) ⟨C.1, C.2.1, C.2.2.1, C.2.2.2.2.2.2.1, hts⟩ hCn ⟨⟨rfl, rfl, by show d' + 1 ≤ R.frames; omega, by show 8 + (mi'.2.2.2.1 + 11) + 32 * d' ≤ R.locals; omega, z_all hts hoc, List.mem_cons_self⟩, hts _ hoc, hts _ o6, o3, fun sig h => ?_, hts _ hl.1, hts _ hl.2⟩ ⟨z_blind _ _ _ _, z_pre C.2.2.2.2.2.2.2.2.2.1 X.1 X.2.1 X.2.2.1⟩ rfl (by rw [List.length_map]; exact hA) X.2.2.2.1.1 (by rw [hs, List.map_append, List.map_reverse]) (lv_room (z_room g.1 hS)) hd ⟨by omega, by omega⟩) h2 h3 k
  rw [h] at o4
  exact (Option.some.inj o4).symm
/-- Math.min of two ints -/
theorem g_min {x y : Int32} (hl : Cond.methodLink mi.2.1 idx Lib.Math.min.name ∈ SW ∧ Cond.static Lib.Math.min.name ∈ SW ∧ Cond.initialized "java/lang/Math" ∈ SW ∧ Cond.code Lib.Math.min.name Lib.Math.min.code 2 (some .int) ∈ SW) (hd : decode mi.2.2.1 pc = .ok (.invokestatic idx, 3)) (h1 : 1 ≤ d) (hS : (S.map fun v => v.category).sum ≤ 8) (k : G mi d kc ks nx (pc + 3) L (.int (if y < x then y else x) :: S) M F) : G mi d kc ks nx pc L (.int y :: .int x :: S) M F := by
  intro l p e R s m args below meth c g mc ms C H locs cells slots ls X
  have hts := C.2.2.2.2.2.2.2.1
  have r1 := C.2.2.2.2.2.2.2.2.2.2.2.1
  have r2 := C.2.2.2.2.2.2.2.2.2.2.2.2.1
  have r3 := C.2.2.2.2.2.2.2.2.2.2.2.2.2.1
  have r4 := C.2.2.2.2.2.2.2.2.2.2.2.2.2.2.1
  have hr := z_room g.1 hS
  have x5 := X.2.2.2.2.1
  have x6 := X.2.2.2.2.2
  exact va_mmin C.1 C.2.1 (C.2.2.1.trans X.2.2.2.1.1.symm) C.2.2.2.2.2.2.1 (hts _ hl.1) (hts _ hl.2.1) (hts _ hl.2.2.1) (hts _ hl.2.2.2) (by omega) (by omega) (by omega) (by omega) hd (k l p e R s m args below meth c g mc ms C H locs cells slots ls X)
end GX
end

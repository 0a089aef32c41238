section
-- ===== PART A: goes FIRST, ahead of the names: the tables' words, and 'selects' of the private methods out of them =====
/-- a private method of a class that the tables say can be made, by its rows of tables_1 -/
def lw_okq (q : MethodName × Nat) : Prop := (q.1.cls ≠ "java/lang/invoke/MethodHandle" ∧ q.1.cls ≠ "java/lang/invoke/VarHandle") ∧ Cond.instantiable q.1.cls q.2 ∈ tables_1 ∧ Cond.privateMethod q.1 ∈ tables_1 ∧ Cond.instanceMethod q.1 ∈ tables_1
theorem lw_p0 : lw_okq (⟨"PermitBank$SetUp", "rowOf", "(I)[I"⟩, 8) := ⟨⟨by decide +kernel, by decide +kernel⟩, List.mem_of_getElem? (i := 28) (by decide +kernel), List.mem_of_getElem? (i := 351) (by decide +kernel), List.mem_of_getElem? (i := 352) (by decide +kernel)⟩
theorem lw_p1 : lw_okq (⟨"PermitBank$Script", "scanSign", "(C)Z"⟩, 5) := ⟨⟨by decide +kernel, by decide +kernel⟩, List.mem_of_getElem? (i := 236) (by decide +kernel), List.mem_of_getElem? (i := 382) (by decide +kernel), List.mem_of_getElem? (i := 383) (by decide +kernel)⟩
theorem lw_p2 : lw_okq (⟨"PermitBank$Script", "scanClause", "([I)Z"⟩, 5) := ⟨⟨by decide +kernel, by decide +kernel⟩, List.mem_of_getElem? (i := 236) (by decide +kernel), List.mem_of_getElem? (i := 386) (by decide +kernel), List.mem_of_getElem? (i := 387) (by decide +kernel)⟩
theorem lw_p3 : lw_okq (⟨"PermitBank$Script", "scanNumber", "([III)Z"⟩, 5) := ⟨⟨by decide +kernel, by decide +kernel⟩, List.mem_of_getElem? (i := 236) (by decide +kernel), List.mem_of_getElem? (i := 390) (by decide +kernel), List.mem_of_getElem? (i := 391) (by decide +kernel)⟩
theorem lw_p4 : lw_okq (⟨"PermitBank", "workedOut", "()LPermitBank$Plan;"⟩, 9) := ⟨⟨by decide +kernel, by decide +kernel⟩, List.mem_of_getElem? (i := 14) (by decide +kernel), List.mem_of_getElem? (i := 413) (by decide +kernel), List.mem_of_getElem? (i := 414) (by decide +kernel)⟩
theorem lw_p5 : lw_okq (⟨"PermitBank$Plan", "start", "(LPermitBank$SetUp;)V"⟩, 17) := ⟨⟨by decide +kernel, by decide +kernel⟩, List.mem_of_getElem? (i := 121) (by decide +kernel), List.mem_of_getElem? (i := 421) (by decide +kernel), List.mem_of_getElem? (i := 422) (by decide +kernel)⟩
theorem lw_p6 : lw_okq (⟨"PermitBank$Groups", "firstRise", "()I"⟩, 4) := ⟨⟨by decide +kernel, by decide +kernel⟩, List.mem_of_getElem? (i := 139) (by decide +kernel), List.mem_of_getElem? (i := 447) (by decide +kernel), List.mem_of_getElem? (i := 448) (by decide +kernel)⟩
theorem lw_p7 : lw_okq (⟨"PermitBank$Groups", "joinNext", "(I)V"⟩, 4) := ⟨⟨by decide +kernel, by decide +kernel⟩, List.mem_of_getElem? (i := 139) (by decide +kernel), List.mem_of_getElem? (i := 451) (by decide +kernel), List.mem_of_getElem? (i := 452) (by decide +kernel)⟩
theorem lw_p8 : lw_okq (⟨"PermitBank$Plan", "takeBelow", "(I)V"⟩, 17) := ⟨⟨by decide +kernel, by decide +kernel⟩, List.mem_of_getElem? (i := 121) (by decide +kernel), List.mem_of_getElem? (i := 459) (by decide +kernel), List.mem_of_getElem? (i := 460) (by decide +kernel)⟩
theorem lw_p9 : lw_okq (⟨"PermitBank$Plan", "yearToTakeFrom", "(I)I"⟩, 17) := ⟨⟨by decide +kernel, by decide +kernel⟩, List.mem_of_getElem? (i := 121) (by decide +kernel), List.mem_of_getElem? (i := 463) (by decide +kernel), List.mem_of_getElem? (i := 464) (by decide +kernel)⟩
theorem lw_p10 : lw_okq (⟨"PermitBank$Plan", "giveAbove", "(I)V"⟩, 17) := ⟨⟨by decide +kernel, by decide +kernel⟩, List.mem_of_getElem? (i := 121) (by decide +kernel), List.mem_of_getElem? (i := 467) (by decide +kernel), List.mem_of_getElem? (i := 468) (by decide +kernel)⟩
theorem lw_p11 : lw_okq (⟨"PermitBank$Plan", "yearToGiveTo", "(I)I"⟩, 17) := ⟨⟨by decide +kernel, by decide +kernel⟩, List.mem_of_getElem? (i := 121) (by decide +kernel), List.mem_of_getElem? (i := 471) (by decide +kernel), List.mem_of_getElem? (i := 472) (by decide +kernel)⟩
theorem lw_p12 : lw_okq (⟨"PermitBank$Plan", "borrowUpTo", "(I)V"⟩, 17) := ⟨⟨by decide +kernel, by decide +kernel⟩, List.mem_of_getElem? (i := 121) (by decide +kernel), List.mem_of_getElem? (i := 475) (by decide +kernel), List.mem_of_getElem? (i := 476) (by decide +kernel)⟩
theorem lw_p13 : lw_okq (⟨"PermitBank$Plan", "groupToLendTo", "(I)I"⟩, 17) := ⟨⟨by decide +kernel, by decide +kernel⟩, List.mem_of_getElem? (i := 121) (by decide +kernel), List.mem_of_getElem? (i := 479) (by decide +kernel), List.mem_of_getElem? (i := 480) (by decide +kernel)⟩
theorem lw_p14 : lw_okq (⟨"PermitBank$Plan", "usePermits", "(I)V"⟩, 17) := ⟨⟨by decide +kernel, by decide +kernel⟩, List.mem_of_getElem? (i := 121) (by decide +kernel), List.mem_of_getElem? (i := 483) (by decide +kernel), List.mem_of_getElem? (i := 484) (by decide +kernel)⟩
theorem lw_p15 : lw_okq (⟨"PermitBank$Plan", "sharePermits", "(I)V"⟩, 17) := ⟨⟨by decide +kernel, by decide +kernel⟩, List.mem_of_getElem? (i := 121) (by decide +kernel), List.mem_of_getElem? (i := 494) (by decide +kernel), List.mem_of_getElem? (i := 495) (by decide +kernel)⟩
def lw_privs_1 : List (MethodName × Nat) := [(⟨"PermitBank$SetUp", "rowOf", "(I)[I"⟩, 8), (⟨"PermitBank$Script", "scanSign", "(C)Z"⟩, 5), (⟨"PermitBank$Script", "scanClause", "([I)Z"⟩, 5), (⟨"PermitBank$Script", "scanNumber", "([III)Z"⟩, 5), (⟨"PermitBank", "workedOut", "()LPermitBank$Plan;"⟩, 9), (⟨"PermitBank$Plan", "start", "(LPermitBank$SetUp;)V"⟩, 17), (⟨"PermitBank$Groups", "firstRise", "()I"⟩, 4), (⟨"PermitBank$Groups", "joinNext", "(I)V"⟩, 4), (⟨"PermitBank$Plan", "takeBelow", "(I)V"⟩, 17), (⟨"PermitBank$Plan", "yearToTakeFrom", "(I)I"⟩, 17), (⟨"PermitBank$Plan", "giveAbove", "(I)V"⟩, 17), (⟨"PermitBank$Plan", "yearToGiveTo", "(I)I"⟩, 17), (⟨"PermitBank$Plan", "borrowUpTo", "(I)V"⟩, 17), (⟨"PermitBank$Plan", "groupToLendTo", "(I)I"⟩, 17), (⟨"PermitBank$Plan", "usePermits", "(I)V"⟩, 17), (⟨"PermitBank$Plan", "sharePermits", "(I)V"⟩, 17)]
theorem lw_r1 : ∀ q ∈ lw_privs_1, lw_okq q := List.forall_mem_cons.mpr ⟨lw_p0, List.forall_mem_cons.mpr ⟨lw_p1, List.forall_mem_cons.mpr ⟨lw_p2, List.forall_mem_cons.mpr ⟨lw_p3, List.forall_mem_cons.mpr ⟨lw_p4, List.forall_mem_cons.mpr ⟨lw_p5, List.forall_mem_cons.mpr ⟨lw_p6, List.forall_mem_cons.mpr ⟨lw_p7, List.forall_mem_cons.mpr ⟨lw_p8, List.forall_mem_cons.mpr ⟨lw_p9, List.forall_mem_cons.mpr ⟨lw_p10, List.forall_mem_cons.mpr ⟨lw_p11, List.forall_mem_cons.mpr ⟨lw_p12, List.forall_mem_cons.mpr ⟨lw_p13, List.forall_mem_cons.mpr ⟨lw_p14, List.forall_mem_cons.mpr ⟨lw_p15, fun _ h => absurd h List.not_mem_nil⟩⟩⟩⟩⟩⟩⟩⟩⟩⟩⟩⟩⟩⟩⟩⟩
theorem lw_p16 : lw_okq (⟨"PermitBank$Plan", "doMeasures", "(LPermitBank$SetUp;)V"⟩, 17) := ⟨⟨by decide +kernel, by decide +kernel⟩, List.mem_of_getElem? (i := 121) (by decide +kernel), List.mem_of_getElem? (i := 501) (by decide +kernel), List.mem_of_getElem? (i := 502) (by decide +kernel)⟩
theorem lw_p17 : lw_okq (⟨"PermitBank$Plan", "isNewPrice", "(I)Z"⟩, 17) := ⟨⟨by decide +kernel, by decide +kernel⟩, List.mem_of_getElem? (i := 121) (by decide +kernel), List.mem_of_getElem? (i := 551) (by decide +kernel), List.mem_of_getElem? (i := 552) (by decide +kernel)⟩
theorem lw_p18 : lw_okq (⟨"PermitBank$Plan", "ranksAhead", "(LPermitBank$SetUp;II)Z"⟩, 17) := ⟨⟨by decide +kernel, by decide +kernel⟩, List.mem_of_getElem? (i := 121) (by decide +kernel), List.mem_of_getElem? (i := 588) (by decide +kernel), List.mem_of_getElem? (i := 589) (by decide +kernel)⟩
theorem lw_p19 : lw_okq (⟨"PermitBank$SetUp", "howManyAhead", "(I)I"⟩, 8) := ⟨⟨by decide +kernel, by decide +kernel⟩, List.mem_of_getElem? (i := 28) (by decide +kernel), List.mem_of_getElem? (i := 600) (by decide +kernel), List.mem_of_getElem? (i := 601) (by decide +kernel)⟩
theorem lw_p20 : lw_okq (⟨"PermitBank", "startTrial", "()V"⟩, 9) := ⟨⟨by decide +kernel, by decide +kernel⟩, List.mem_of_getElem? (i := 14) (by decide +kernel), List.mem_of_getElem? (i := 611) (by decide +kernel), List.mem_of_getElem? (i := 612) (by decide +kernel)⟩
theorem lw_p21 : lw_okq (⟨"PermitBank", "tried", "()LPermitBank$Plan;"⟩, 9) := ⟨⟨by decide +kernel, by decide +kernel⟩, List.mem_of_getElem? (i := 14) (by decide +kernel), List.mem_of_getElem? (i := 622) (by decide +kernel), List.mem_of_getElem? (i := 623) (by decide +kernel)⟩
theorem lw_p22 : lw_okq (⟨"PermitBank", "pricedRow", "(LPermitBank$Rows;II)I"⟩, 9) := ⟨⟨by decide +kernel, by decide +kernel⟩, List.mem_of_getElem? (i := 14) (by decide +kernel), List.mem_of_getElem? (i := 635) (by decide +kernel), List.mem_of_getElem? (i := 636) (by decide +kernel)⟩
theorem lw_p23 : lw_okq (⟨"PermitBankModel", "works", "()V"⟩, 30) := ⟨⟨by decide +kernel, by decide +kernel⟩, List.mem_of_getElem? (i := 752) (by decide +kernel), List.mem_of_getElem? (i := 758) (by decide +kernel), List.mem_of_getElem? (i := 759) (by decide +kernel)⟩
theorem lw_p24 : lw_okq (⟨"PermitBankModel", "groups", "()V"⟩, 30) := ⟨⟨by decide +kernel, by decide +kernel⟩, List.mem_of_getElem? (i := 752) (by decide +kernel), List.mem_of_getElem? (i := 762) (by decide +kernel), List.mem_of_getElem? (i := 763) (by decide +kernel)⟩
theorem lw_p25 : lw_okq (⟨"PermitBankModel", "prices", "(I)V"⟩, 30) := ⟨⟨by decide +kernel, by decide +kernel⟩, List.mem_of_getElem? (i := 752) (by decide +kernel), List.mem_of_getElem? (i := 766) (by decide +kernel), List.mem_of_getElem? (i := 767) (by decide +kernel)⟩
theorem lw_p26 : lw_okq (⟨"PermitBankModel", "permitsOf", "(I)I"⟩, 30) := ⟨⟨by decide +kernel, by decide +kernel⟩, List.mem_of_getElem? (i := 752) (by decide +kernel), List.mem_of_getElem? (i := 770) (by decide +kernel), List.mem_of_getElem? (i := 771) (by decide +kernel)⟩
theorem lw_p27 : lw_okq (⟨"PermitBankModel", "priceOf", "(III)I"⟩, 30) := ⟨⟨by decide +kernel, by decide +kernel⟩, List.mem_of_getElem? (i := 752) (by decide +kernel), List.mem_of_getElem? (i := 774) (by decide +kernel), List.mem_of_getElem? (i := 775) (by decide +kernel)⟩
theorem lw_p28 : lw_okq (⟨"PermitBankModel", "low", "(II)I"⟩, 30) := ⟨⟨by decide +kernel, by decide +kernel⟩, List.mem_of_getElem? (i := 752) (by decide +kernel), List.mem_of_getElem? (i := 778) (by decide +kernel), List.mem_of_getElem? (i := 779) (by decide +kernel)⟩
theorem lw_p29 : lw_okq (⟨"PermitBankModel", "emits", "(II)I"⟩, 30) := ⟨⟨by decide +kernel, by decide +kernel⟩, List.mem_of_getElem? (i := 752) (by decide +kernel), List.mem_of_getElem? (i := 782) (by decide +kernel), List.mem_of_getElem? (i := 783) (by decide +kernel)⟩
theorem lw_p30 : lw_okq (⟨"PermitBankModel", "joins", "(I)V"⟩, 30) := ⟨⟨by decide +kernel, by decide +kernel⟩, List.mem_of_getElem? (i := 752) (by decide +kernel), List.mem_of_getElem? (i := 787) (by decide +kernel), List.mem_of_getElem? (i := 788) (by decide +kernel)⟩
theorem lw_p31 : lw_okq (⟨"PermitBankModel", "takes", "()Z"⟩, 30) := ⟨⟨by decide +kernel, by decide +kernel⟩, List.mem_of_getElem? (i := 752) (by decide +kernel), List.mem_of_getElem? (i := 791) (by decide +kernel), List.mem_of_getElem? (i := 792) (by decide +kernel)⟩
def lw_privs_2 : List (MethodName × Nat) := [(⟨"PermitBank$Plan", "doMeasures", "(LPermitBank$SetUp;)V"⟩, 17), (⟨"PermitBank$Plan", "isNewPrice", "(I)Z"⟩, 17), (⟨"PermitBank$Plan", "ranksAhead", "(LPermitBank$SetUp;II)Z"⟩, 17), (⟨"PermitBank$SetUp", "howManyAhead", "(I)I"⟩, 8), (⟨"PermitBank", "startTrial", "()V"⟩, 9), (⟨"PermitBank", "tried", "()LPermitBank$Plan;"⟩, 9), (⟨"PermitBank", "pricedRow", "(LPermitBank$Rows;II)I"⟩, 9), (⟨"PermitBankModel", "works", "()V"⟩, 30), (⟨"PermitBankModel", "groups", "()V"⟩, 30), (⟨"PermitBankModel", "prices", "(I)V"⟩, 30), (⟨"PermitBankModel", "permitsOf", "(I)I"⟩, 30), (⟨"PermitBankModel", "priceOf", "(III)I"⟩, 30), (⟨"PermitBankModel", "low", "(II)I"⟩, 30), (⟨"PermitBankModel", "emits", "(II)I"⟩, 30), (⟨"PermitBankModel", "joins", "(I)V"⟩, 30), (⟨"PermitBankModel", "takes", "()Z"⟩, 30)]
theorem lw_r2 : ∀ q ∈ lw_privs_2, lw_okq q := List.forall_mem_cons.mpr ⟨lw_p16, List.forall_mem_cons.mpr ⟨lw_p17, List.forall_mem_cons.mpr ⟨lw_p18, List.forall_mem_cons.mpr ⟨lw_p19, List.forall_mem_cons.mpr ⟨lw_p20, List.forall_mem_cons.mpr ⟨lw_p21, List.forall_mem_cons.mpr ⟨lw_p22, List.forall_mem_cons.mpr ⟨lw_p23, List.forall_mem_cons.mpr ⟨lw_p24, List.forall_mem_cons.mpr ⟨lw_p25, List.forall_mem_cons.mpr ⟨lw_p26, List.forall_mem_cons.mpr ⟨lw_p27, List.forall_mem_cons.mpr ⟨lw_p28, List.forall_mem_cons.mpr ⟨lw_p29, List.forall_mem_cons.mpr ⟨lw_p30, List.forall_mem_cons.mpr ⟨lw_p31, fun _ h => absurd h List.not_mem_nil⟩⟩⟩⟩⟩⟩⟩⟩⟩⟩⟩⟩⟩⟩⟩⟩
theorem lw_p32 : lw_okq (⟨"PermitBankModel", "gives", "()Z"⟩, 30) := ⟨⟨by decide +kernel, by decide +kernel⟩, List.mem_of_getElem? (i := 752) (by decide +kernel), List.mem_of_getElem? (i := 795) (by decide +kernel), List.mem_of_getElem? (i := 796) (by decide +kernel)⟩
theorem lw_p33 : lw_okq (⟨"PermitBankModel", "borrows", "()Z"⟩, 30) := ⟨⟨by decide +kernel, by decide +kernel⟩, List.mem_of_getElem? (i := 752) (by decide +kernel), List.mem_of_getElem? (i := 799) (by decide +kernel), List.mem_of_getElem? (i := 800) (by decide +kernel)⟩
theorem lw_p34 : lw_okq (⟨"PermitBankModel", "uses", "(I)V"⟩, 30) := ⟨⟨by decide +kernel, by decide +kernel⟩, List.mem_of_getElem? (i := 752) (by decide +kernel), List.mem_of_getElem? (i := 803) (by decide +kernel), List.mem_of_getElem? (i := 804) (by decide +kernel)⟩
theorem lw_p35 : lw_okq (⟨"PermitBankModel", "high", "(II)I"⟩, 30) := ⟨⟨by decide +kernel, by decide +kernel⟩, List.mem_of_getElem? (i := 752) (by decide +kernel), List.mem_of_getElem? (i := 807) (by decide +kernel), List.mem_of_getElem? (i := 808) (by decide +kernel)⟩
theorem lw_p36 : lw_okq (⟨"PermitBankModel", "ways", "()V"⟩, 30) := ⟨⟨by decide +kernel, by decide +kernel⟩, List.mem_of_getElem? (i := 752) (by decide +kernel), List.mem_of_getElem? (i := 811) (by decide +kernel), List.mem_of_getElem? (i := 812) (by decide +kernel)⟩
theorem lw_p37 : lw_okq (⟨"PermitBankModel", "measures", "()V"⟩, 30) := ⟨⟨by decide +kernel, by decide +kernel⟩, List.mem_of_getElem? (i := 752) (by decide +kernel), List.mem_of_getElem? (i := 816) (by decide +kernel), List.mem_of_getElem? (i := 817) (by decide +kernel)⟩
theorem lw_p38 : lw_okq (⟨"PermitBankModel", "byMerit", "(II)I"⟩, 30) := ⟨⟨by decide +kernel, by decide +kernel⟩, List.mem_of_getElem? (i := 752) (by decide +kernel), List.mem_of_getElem? (i := 820) (by decide +kernel), List.mem_of_getElem? (i := 821) (by decide +kernel)⟩
theorem lw_p39 : lw_okq (⟨"PermitBankModel", "merit", "(I)I"⟩, 30) := ⟨⟨by decide +kernel, by decide +kernel⟩, List.mem_of_getElem? (i := 752) (by decide +kernel), List.mem_of_getElem? (i := 824) (by decide +kernel), List.mem_of_getElem? (i := 825) (by decide +kernel)⟩
theorem lw_p40 : lw_okq (⟨"PermitBankModel", "isAhead", "(II)Z"⟩, 30) := ⟨⟨by decide +kernel, by decide +kernel⟩, List.mem_of_getElem? (i := 752) (by decide +kernel), List.mem_of_getElem? (i := 828) (by decide +kernel), List.mem_of_getElem? (i := 829) (by decide +kernel)⟩
theorem lw_p41 : lw_okq (⟨"PermitBankModel", "isYear", "(I)Z"⟩, 30) := ⟨⟨by decide +kernel, by decide +kernel⟩, List.mem_of_getElem? (i := 752) (by decide +kernel), List.mem_of_getElem? (i := 934) (by decide +kernel), List.mem_of_getElem? (i := 935) (by decide +kernel)⟩
theorem lw_p42 : lw_okq (⟨"PermitBankModel", "isMeasure", "(I)Z"⟩, 30) := ⟨⟨by decide +kernel, by decide +kernel⟩, List.mem_of_getElem? (i := 752) (by decide +kernel), List.mem_of_getElem? (i := 942) (by decide +kernel), List.mem_of_getElem? (i := 943) (by decide +kernel)⟩
theorem lw_p43 : lw_okq (⟨"PermitBankModel", "becomes", "(II)I"⟩, 30) := ⟨⟨by decide +kernel, by decide +kernel⟩, List.mem_of_getElem? (i := 752) (by decide +kernel), List.mem_of_getElem? (i := 946) (by decide +kernel), List.mem_of_getElem? (i := 947) (by decide +kernel)⟩
theorem lw_p44 : lw_okq (⟨"PermitBankModel", "clause", "(I)V"⟩, 30) := ⟨⟨by decide +kernel, by decide +kernel⟩, List.mem_of_getElem? (i := 752) (by decide +kernel), List.mem_of_getElem? (i := 962) (by decide +kernel), List.mem_of_getElem? (i := 963) (by decide +kernel)⟩
theorem lw_p45 : lw_okq (⟨"PermitBankModel", "fails", "()V"⟩, 30) := ⟨⟨by decide +kernel, by decide +kernel⟩, List.mem_of_getElem? (i := 752) (by decide +kernel), List.mem_of_getElem? (i := 966) (by decide +kernel), List.mem_of_getElem? (i := 967) (by decide +kernel)⟩
theorem lw_p46 : lw_okq (⟨"PermitBankModel", "number", "(I)I"⟩, 30) := ⟨⟨by decide +kernel, by decide +kernel⟩, List.mem_of_getElem? (i := 752) (by decide +kernel), List.mem_of_getElem? (i := 970) (by decide +kernel), List.mem_of_getElem? (i := 971) (by decide +kernel)⟩
theorem lw_p47 : lw_okq (⟨"PermitBankModel", "comma", "()V"⟩, 30) := ⟨⟨by decide +kernel, by decide +kernel⟩, List.mem_of_getElem? (i := 752) (by decide +kernel), List.mem_of_getElem? (i := 974) (by decide +kernel), List.mem_of_getElem? (i := 975) (by decide +kernel)⟩
def lw_privs_3 : List (MethodName × Nat) := [(⟨"PermitBankModel", "gives", "()Z"⟩, 30), (⟨"PermitBankModel", "borrows", "()Z"⟩, 30), (⟨"PermitBankModel", "uses", "(I)V"⟩, 30), (⟨"PermitBankModel", "high", "(II)I"⟩, 30), (⟨"PermitBankModel", "ways", "()V"⟩, 30), (⟨"PermitBankModel", "measures", "()V"⟩, 30), (⟨"PermitBankModel", "byMerit", "(II)I"⟩, 30), (⟨"PermitBankModel", "merit", "(I)I"⟩, 30), (⟨"PermitBankModel", "isAhead", "(II)Z"⟩, 30), (⟨"PermitBankModel", "isYear", "(I)Z"⟩, 30), (⟨"PermitBankModel", "isMeasure", "(I)Z"⟩, 30), (⟨"PermitBankModel", "becomes", "(II)I"⟩, 30), (⟨"PermitBankModel", "clause", "(I)V"⟩, 30), (⟨"PermitBankModel", "fails", "()V"⟩, 30), (⟨"PermitBankModel", "number", "(I)I"⟩, 30), (⟨"PermitBankModel", "comma", "()V"⟩, 30)]
theorem lw_r3 : ∀ q ∈ lw_privs_3, lw_okq q := List.forall_mem_cons.mpr ⟨lw_p32, List.forall_mem_cons.mpr ⟨lw_p33, List.forall_mem_cons.mpr ⟨lw_p34, List.forall_mem_cons.mpr ⟨lw_p35, List.forall_mem_cons.mpr ⟨lw_p36, List.forall_mem_cons.mpr ⟨lw_p37, List.forall_mem_cons.mpr ⟨lw_p38, List.forall_mem_cons.mpr ⟨lw_p39, List.forall_mem_cons.mpr ⟨lw_p40, List.forall_mem_cons.mpr ⟨lw_p41, List.forall_mem_cons.mpr ⟨lw_p42, List.forall_mem_cons.mpr ⟨lw_p43, List.forall_mem_cons.mpr ⟨lw_p44, List.forall_mem_cons.mpr ⟨lw_p45, List.forall_mem_cons.mpr ⟨lw_p46, List.forall_mem_cons.mpr ⟨lw_p47, fun _ h => absurd h List.not_mem_nil⟩⟩⟩⟩⟩⟩⟩⟩⟩⟩⟩⟩⟩⟩⟩⟩
theorem lw_p48 : lw_okq (⟨"PermitBankModel", "takes", "(I)Z"⟩, 30) := ⟨⟨by decide +kernel, by decide +kernel⟩, List.mem_of_getElem? (i := 752) (by decide +kernel), List.mem_of_getElem? (i := 978) (by decide +kernel), List.mem_of_getElem? (i := 979) (by decide +kernel)⟩
theorem lw_p49 : lw_okq (⟨"PermitBankModel", "does", "(I)I"⟩, 30) := ⟨⟨by decide +kernel, by decide +kernel⟩, List.mem_of_getElem? (i := 752) (by decide +kernel), List.mem_of_getElem? (i := 982) (by decide +kernel), List.mem_of_getElem? (i := 983) (by decide +kernel)⟩
theorem lw_p50 : lw_okq (⟨"PermitBankModel", "manyOf", "(I)I"⟩, 30) := ⟨⟨by decide +kernel, by decide +kernel⟩, List.mem_of_getElem? (i := 752) (by decide +kernel), List.mem_of_getElem? (i := 993) (by decide +kernel), List.mem_of_getElem? (i := 994) (by decide +kernel)⟩
theorem lw_p51 : lw_okq (⟨"PermitBankModel", "shorts", "()I"⟩, 30) := ⟨⟨by decide +kernel, by decide +kernel⟩, List.mem_of_getElem? (i := 752) (by decide +kernel), List.mem_of_getElem? (i := 1013) (by decide +kernel), List.mem_of_getElem? (i := 1014) (by decide +kernel)⟩
theorem lw_p52 : lw_okq (⟨"PermitBankModel", "unlike", "()I"⟩, 30) := ⟨⟨by decide +kernel, by decide +kernel⟩, List.mem_of_getElem? (i := 752) (by decide +kernel), List.mem_of_getElem? (i := 1017) (by decide +kernel), List.mem_of_getElem? (i := 1018) (by decide +kernel)⟩
theorem lw_p53 : lw_okq (⟨"PermitBankModel", "ranksAhead", "(II)Z"⟩, 30) := ⟨⟨by decide +kernel, by decide +kernel⟩, List.mem_of_getElem? (i := 752) (by decide +kernel), List.mem_of_getElem? (i := 1042) (by decide +kernel), List.mem_of_getElem? (i := 1043) (by decide +kernel)⟩
theorem lw_p54 : lw_okq (⟨"PermitBankModel", "thinks", "()V"⟩, 30) := ⟨⟨by decide +kernel, by decide +kernel⟩, List.mem_of_getElem? (i := 752) (by decide +kernel), List.mem_of_getElem? (i := 1056) (by decide +kernel), List.mem_of_getElem? (i := 1057) (by decide +kernel)⟩
theorem lw_p55 : lw_okq (⟨"PermitBankModel", "forgets", "()V"⟩, 30) := ⟨⟨by decide +kernel, by decide +kernel⟩, List.mem_of_getElem? (i := 752) (by decide +kernel), List.mem_of_getElem? (i := 1063) (by decide +kernel), List.mem_of_getElem? (i := 1064) (by decide +kernel)⟩
theorem lw_p56 : lw_okq (⟨"PermitBankModel", "lists", "(IIII)I"⟩, 30) := ⟨⟨by decide +kernel, by decide +kernel⟩, List.mem_of_getElem? (i := 752) (by decide +kernel), List.mem_of_getElem? (i := 1076) (by decide +kernel), List.mem_of_getElem? (i := 1077) (by decide +kernel)⟩
theorem lw_p57 : lw_okq (⟨"PermitBankModel", "firstOther", "(I)I"⟩, 30) := ⟨⟨by decide +kernel, by decide +kernel⟩, List.mem_of_getElem? (i := 752) (by decide +kernel), List.mem_of_getElem? (i := 1084) (by decide +kernel), List.mem_of_getElem? (i := 1085) (by decide +kernel)⟩
def lw_privs_4 : List (MethodName × Nat) := [(⟨"PermitBankModel", "takes", "(I)Z"⟩, 30), (⟨"PermitBankModel", "does", "(I)I"⟩, 30), (⟨"PermitBankModel", "manyOf", "(I)I"⟩, 30), (⟨"PermitBankModel", "shorts", "()I"⟩, 30), (⟨"PermitBankModel", "unlike", "()I"⟩, 30), (⟨"PermitBankModel", "ranksAhead", "(II)Z"⟩, 30), (⟨"PermitBankModel", "thinks", "()V"⟩, 30), (⟨"PermitBankModel", "forgets", "()V"⟩, 30), (⟨"PermitBankModel", "lists", "(IIII)I"⟩, 30), (⟨"PermitBankModel", "firstOther", "(I)I"⟩, 30)]
theorem lw_r4 : ∀ q ∈ lw_privs_4, lw_okq q := List.forall_mem_cons.mpr ⟨lw_p48, List.forall_mem_cons.mpr ⟨lw_p49, List.forall_mem_cons.mpr ⟨lw_p50, List.forall_mem_cons.mpr ⟨lw_p51, List.forall_mem_cons.mpr ⟨lw_p52, List.forall_mem_cons.mpr ⟨lw_p53, List.forall_mem_cons.mpr ⟨lw_p54, List.forall_mem_cons.mpr ⟨lw_p55, List.forall_mem_cons.mpr ⟨lw_p56, List.forall_mem_cons.mpr ⟨lw_p57, fun _ h => absurd h List.not_mem_nil⟩⟩⟩⟩⟩⟩⟩⟩⟩⟩
def lw_privs : List (MethodName × Nat) := lw_privs_1 ++ (lw_privs_2 ++ (lw_privs_3 ++ (lw_privs_4)))
def lw_tbl : List Cond := k2_sels lw_privs ++ tables_1
theorem lw_privs_ok : ∀ q ∈ lw_privs, lw_okq q := by
  show ∀ q ∈ lw_privs_1 ++ (lw_privs_2 ++ (lw_privs_3 ++ (lw_privs_4))), lw_okq q
  exact List.forall_mem_append.mpr ⟨lw_r1, List.forall_mem_append.mpr ⟨lw_r2, List.forall_mem_append.mpr ⟨lw_r3, lw_r4⟩⟩⟩
-- ===== end of PART A; then your names; then what follows =====
end
section
-- tables of the mini machine (written by wip/whole/gen/gen01.py out of the printed names)
def mj_ow : List String := ["PermitBank$Demand", "PermitBank$Groups", "PermitBank$Plan", "PermitBank$Rows", "PermitBank$Script", "PermitBank$SetUp", "PermitBank$State", "PermitBank$Tape", "PermitBank", "PermitBankModel", "PermitBankLaw"]
def mj_own (k : Nat) : String := mj_ow.getD k ""
def mj_fT : List (List (String × String × Bool)) := [[("sums", "[[I", true)],
  [("firsts", "[I", true), ("lasts", "[I", true), ("prices", "[I", true), ("size", "I", false)],
  [("demand", "LPermitBank$Demand;", true), ("groups", "LPermitBank$Groups;", true), ("permits", "[I", true), ("borrowed", "[I", true), ("groupOf", "[I", true), ("used", "[I", true), ("banks", "[I", true), ("shorts", "[I", true), ("done", "[I", true), ("flows", "[[I", true), ("left", "[I", true), ("years", "I", false), ("reserve", "I", false), ("taken", "I", false), ("given", "I", false), ("lent", "I", false), ("cost", "J", false)],
  [("firsts", "[I", true), ("seconds", "[I", true), ("size", "I", false)],
  [("signs", "[I", true), ("clauses", "[[I", true), ("clauseCount", "I", false), ("size", "I", false), ("place", "I", false)],
  [("caps", "[I", true), ("emissions", "[I", true), ("owners", "[I", true), ("costs", "[I", true), ("muches", "[I", true), ("settings", "[I", true), ("years", "I", false), ("measures", "I", false)],
  [("setUp", "LPermitBank$SetUp;", true), ("seen", "LPermitBank$Rows;", true), ("events", "LPermitBank$Rows;", true), ("book", "LPermitBank$Rows;", true)],
  [("items", "[J", true), ("sort", "I", false), ("size", "I", false)],
  [("state", "LPermitBank$State;", true), ("kept", "LPermitBank$State;", true), ("imageTaken", "Z", false), ("plan", "LPermitBank$Plan;", true), ("planIsFresh", "Z", false), ("trial", "LPermitBank$SetUp;", true), ("trialPlan", "LPermitBank$Plan;", true), ("script", "LPermitBank$Script;", true), ("tapes", "[LPermitBank$Tape;", true)],
  [("s", "[I", true), ("image", "[I", true), ("mind", "[I", true), ("isKept", "Z", false), ("permits", "[I", true), ("borrowed", "[I", true), ("groupOf", "[I", true), ("used", "[I", true), ("bank", "[I", true), ("left", "[I", true), ("first", "[I", true), ("last", "[I", true), ("price", "[I", true), ("lacks", "[I", true), ("done", "[I", true), ("way", "[I", true), ("rank", "[I", true), ("groups", "I", false), ("reserve", "I", false), ("taken", "I", false), ("given", "I", false), ("text", "[I", true), ("read", "[I", true), ("letters", "I", false), ("at", "I", false), ("fault", "I", false), ("sort", "[I", true), ("items", "[I", true), ("cell", "[J", true), ("carried", "[J", true)]]
def mj_fP : List (List Nat) := [[135], [156, 158, 160, 162], [198, 200, 202, 204, 206, 208, 210, 212, 214, 216, 218, 220, 222, 224, 226, 228, 230], [96, 98, 100], [249, 251, 253, 255, 257], [63, 65, 67, 69, 71, 73, 75, 77], [111, 113, 115, 117], [272, 274, 276], [289, 291, 293, 295, 297, 299, 301, 303, 305], [861, 863, 865, 867, 869, 871, 873, 875, 877, 879, 881, 883, 885, 887, 889, 891, 893, 895, 897, 899, 901, 903, 905, 907, 909, 911, 913, 915, 917, 919]]
def mj_iP : List Nat := [127, 139, 121, 82, 236, 28, 22, 262, 14, 752]
def mj_nP : List Nat := [6, 7, 5, 4, 8, 3, 2, 9, 1, 10, 0]
abbrev mj_MT : Type := Nat × String × String × ByteArray × Nat × Option FieldType × Nat × Bool
def mj_mt : List mj_MT := [(0, "<init>", "()V", prog_2_method_1_code, 1, none, 0, false),
  (0, "fill", "(LPermitBank$SetUp;)V", prog_2_method_2_code, 4, none, 1, false),
  (0, "lowOf", "(III)I", prog_2_method_3_code, 4, (some .int), 3, false),
  (0, "highOf", "(III)I", prog_2_method_4_code, 4, (some .int), 3, false),
  (0, "priceFor", "(III)I", prog_2_method_5_code, 5, (some .int), 3, false),
  (0, "fillYear", "(LPermitBank$SetUp;I[I)V", prog_2_method_6_code, 5, none, 3, true),
  (1, "<init>", "()V", prog_3_method_1_code, 1, none, 0, false),
  (1, "find", "(LPermitBank$Demand;[II)V", prog_3_method_2_code, 6, none, 3, false),
  (1, "sum", "([II)I", prog_3_method_3_code, 5, (some .int), 2, false),
  (1, "firstRise", "()I", prog_3_method_4_code, 2, (some .int), 0, false),
  (1, "joinNext", "(I)V", prog_3_method_5_code, 3, none, 1, false),
  (2, "<init>", "()V", prog_4_method_1_code, 1, none, 0, false),
  (2, "workOut", "(LPermitBank$SetUp;)V", prog_4_method_2_code, 3, none, 1, false),
  (2, "priceOfYear", "(I)I", prog_4_method_3_code, 2, (some .int), 1, false),
  (2, "sumOver", "([II)I", prog_4_method_4_code, 3, (some .int), 2, false),
  (2, "allShorts", "()I", prog_4_method_5_code, 3, (some .int), 0, false),
  (2, "unlikePrices", "()I", prog_4_method_6_code, 3, (some .int), 0, false),
  (2, "flowCount", "()I", prog_4_method_7_code, 4, (some .int), 0, false),
  (2, "flowPart", "(II)I", prog_4_method_8_code, 6, (some .int), 2, false),
  (2, "rankOf", "(LPermitBank$SetUp;I)I", prog_4_method_9_code, 5, (some .int), 2, false),
  (2, "firstOtherwise", "(LPermitBank$Rows;)I", prog_4_method_10_code, 4, (some .int), 1, false),
  (2, "start", "(LPermitBank$SetUp;)V", prog_4_method_11_code, 3, none, 1, false),
  (2, "takeBelow", "(I)V", prog_4_method_12_code, 4, none, 1, false),
  (2, "yearToTakeFrom", "(I)I", prog_4_method_13_code, 4, (some .int), 1, false),
  (2, "giveAbove", "(I)V", prog_4_method_14_code, 4, none, 1, false),
  (2, "yearToGiveTo", "(I)I", prog_4_method_15_code, 3, (some .int), 1, false),
  (2, "borrowUpTo", "(I)V", prog_4_method_16_code, 5, none, 1, false),
  (2, "groupToLendTo", "(I)I", prog_4_method_17_code, 4, (some .int), 1, false),
  (2, "usePermits", "(I)V", prog_4_method_18_code, 9, none, 1, false),
  (2, "sharePermits", "(I)V", prog_4_method_19_code, 6, none, 1, false),
  (2, "doMeasures", "(LPermitBank$SetUp;)V", prog_4_method_20_code, 5, none, 1, false),
  (2, "ranksAhead", "(LPermitBank$SetUp;II)Z", prog_4_method_21_code, 6, (some .boolean), 3, false),
  (2, "isNewPrice", "(I)Z", prog_4_method_22_code, 3, (some .boolean), 1, false),
  (3, "<init>", "(I)V", prog_5_method_1_code, 2, none, 1, false),
  (3, "append", "(II)I", prog_5_method_2_code, 3, (some .int), 2, false),
  (3, "empty", "()I", prog_5_method_3_code, 1, (some .int), 0, false),
  (3, "copyFrom", "(LPermitBank$Rows;)V", prog_5_method_4_code, 3, none, 1, false),
  (4, "<init>", "()V", prog_6_method_1_code, 1, none, 0, false),
  (4, "append", "(I)I", prog_6_method_2_code, 2, (some .int), 1, false),
  (4, "empty", "()V", prog_6_method_3_code, 1, none, 0, false),
  (4, "scan", "()Z", prog_6_method_4_code, 2, (some .boolean), 0, false),
  (4, "perform", "(LPermitBank$SetUp;)I", prog_6_method_5_code, 4, (some .int), 1, false),
  (4, "doClause", "(LPermitBank$SetUp;[I)I", prog_6_method_6_code, 2, (some .int), 2, true),
  (4, "scanClause", "([I)Z", prog_6_method_7_code, 2, (some .boolean), 1, false),
  (4, "scanNumber", "([III)Z", prog_6_method_8_code, 6, (some .boolean), 3, false),
  (4, "scanSign", "(C)Z", prog_6_method_9_code, 2, (some .boolean), 1, false),
  (5, "<init>", "()V", prog_7_method_1_code, 1, none, 0, false),
  (5, "hasYear", "(I)Z", prog_7_method_2_code, 2, (some .boolean), 1, false),
  (5, "hasMeasure", "(I)Z", prog_7_method_3_code, 2, (some .boolean), 1, false),
  (5, "addYear", "(II)I", prog_7_method_4_code, 3, (some .int), 2, false),
  (5, "addMeasure", "(III)I", prog_7_method_5_code, 4, (some .int), 3, false),
  (5, "change", "(III)I", prog_7_method_6_code, 7, (some .int), 3, false),
  (5, "adjust", "(II)I", prog_7_method_7_code, 4, (some .int), 2, false),
  (5, "undergo", "(II)V", prog_7_method_8_code, 3, none, 2, false),
  (5, "measuresOf", "(I)I", prog_7_method_9_code, 4, (some .int), 1, false),
  (5, "isAhead", "(II)Z", prog_7_method_10_code, 3, (some .boolean), 2, false),
  (5, "byMerit", "(II)I", prog_7_method_11_code, 4, (some .int), 2, false),
  (5, "copyFrom", "(LPermitBank$SetUp;)V", prog_7_method_12_code, 2, none, 1, false),
  (5, "howManyAhead", "(I)I", prog_7_method_13_code, 4, (some .int), 1, false),
  (5, "rowOf", "(I)[I", prog_7_method_14_code, 2, (some (.array .int)), 1, false),
  (5, "allowed", "(II)Z", prog_7_method_15_code, 2, (some .boolean), 2, true),
  (6, "<init>", "()V", prog_8_method_1_code, 1, none, 0, false),
  (6, "copyFrom", "(LPermitBank$State;)V", prog_8_method_2_code, 2, none, 1, false),
  (7, "<init>", "()V", prog_9_method_1_code, 1, none, 0, false),
  (7, "become", "(II)V", prog_9_method_2_code, 4, none, 2, false),
  (7, "hasPlace", "(I)Z", prog_9_method_3_code, 2, (some .boolean), 1, false),
  (7, "hasRun", "(II)Z", prog_9_method_4_code, 3, (some .boolean), 2, false),
  (7, "lowestBits", "(J)J", prog_9_method_5_code, 3, (some .long), 1, false),
  (8, "<init>", "()V", prog_1_method_1_code, 2, none, 0, false),
  (8, "year", "(II)I", prog_1_method_2_code, 3, (some .int), 2, false),
  (8, "measure", "(III)I", prog_1_method_3_code, 4, (some .int), 3, false),
  (8, "renew", "(III)I", prog_1_method_4_code, 4, (some .int), 3, false),
  (8, "set", "(II)I", prog_1_method_5_code, 3, (some .int), 2, false),
  (8, "feed", "(I)I", prog_1_method_6_code, 2, (some .int), 1, false),
  (8, "read", "()I", prog_1_method_7_code, 3, (some .int), 0, false),
  (8, "of", "(II)I", prog_1_method_8_code, 5, (some .int), 2, false),
  (8, "about", "(II)I", prog_1_method_9_code, 4, (some .int), 2, false),
  (8, "at", "(III)I", prog_1_method_10_code, 5, (some .int), 3, false),
  (8, "group", "(II)I", prog_1_method_11_code, 5, (some .int), 2, false),
  (8, "told", "(I)I", prog_1_method_12_code, 4, (some .int), 1, false),
  (8, "total", "()J", prog_1_method_13_code, 1, (some .long), 0, false),
  (8, "alone", "(I)I", prog_1_method_14_code, 3, (some .int), 1, false),
  (8, "way", "(II)I", prog_1_method_15_code, 4, (some .int), 2, false),
  (8, "ways", "(II)I", prog_1_method_16_code, 4, (some .int), 2, false),
  (8, "rank", "(I)I", prog_1_method_17_code, 5, (some .int), 1, false),
  (8, "merit", "(II)I", prog_1_method_18_code, 4, (some .int), 2, false),
  (8, "more", "(I)J", prog_1_method_19_code, 3, (some .long), 1, false),
  (8, "shock", "(III)J", prog_1_method_20_code, 5, (some .long), 3, false),
  (8, "see", "(II)I", prog_1_method_21_code, 3, (some .int), 2, false),
  (8, "fits", "(II)I", prog_1_method_22_code, 6, (some .int), 2, false),
  (8, "odds", "(II)J", prog_1_method_23_code, 5, (some .long), 2, false),
  (8, "mean", "(I)J", prog_1_method_24_code, 6, (some .long), 1, false),
  (8, "event", "(II)I", prog_1_method_25_code, 3, (some .int), 2, false),
  (8, "after", "(I)J", prog_1_method_26_code, 3, (some .long), 1, false),
  (8, "book", "(II)I", prog_1_method_27_code, 3, (some .int), 2, false),
  (8, "looked", "()I", prog_1_method_28_code, 1, (some .int), 0, false),
  (8, "judge", "(II)I", prog_1_method_29_code, 6, (some .int), 2, false),
  (8, "image", "()I", prog_1_method_30_code, 1, (some .int), 0, false),
  (8, "undo", "()I", prog_1_method_31_code, 1, (some .int), 0, false),
  (8, "count", "(I)I", prog_1_method_32_code, 2, (some .int), 1, false),
  (8, "tape", "(III)I", prog_1_method_33_code, 4, (some .int), 3, false),
  (8, "item", "(IIJ)I", prog_1_method_34_code, 6, (some .int), 3, false),
  (8, "peek", "(II)J", prog_1_method_35_code, 3, (some .long), 2, false),
  (8, "shift", "(IIIII)I", prog_1_method_36_code, 8, (some .int), 5, false),
  (8, "within", "(III)Z", prog_1_method_37_code, 3, (some .boolean), 3, true),
  (8, "hasTape", "(I)Z", prog_1_method_38_code, 1, (some .boolean), 1, true),
  (8, "workedOut", "()LPermitBank$Plan;", prog_1_method_39_code, 1, (some (.object "PermitBank$Plan")), 0, false),
  (8, "startTrial", "()V", prog_1_method_40_code, 1, none, 0, false),
  (8, "tried", "()LPermitBank$Plan;", prog_1_method_41_code, 1, (some (.object "PermitBank$Plan")), 0, false),
  (8, "pricedRow", "(LPermitBank$Rows;II)I", prog_1_method_42_code, 4, (some .int), 3, false),
  (8, "lowestTerms", "(III)J", prog_1_method_43_code, 5, (some .long), 3, true),
  (9, "<init>", "()V", prog_11_method_1_code, 2, none, 0, false),
  (9, "isIn", "(III)Z", prog_11_method_2_code, 3, (some .boolean), 3, true),
  (9, "isYear", "(I)Z", prog_11_method_3_code, 2, (some .boolean), 1, false),
  (9, "isMeasure", "(I)Z", prog_11_method_4_code, 2, (some .boolean), 1, false),
  (9, "copies", "([I[I)V", prog_11_method_5_code, 3, none, 2, true),
  (9, "emits", "(II)I", prog_11_method_6_code, 5, (some .int), 2, false),
  (9, "high", "(II)I", prog_11_method_7_code, 3, (some .int), 2, false),
  (9, "low", "(II)I", prog_11_method_8_code, 3, (some .int), 2, false),
  (9, "priceOf", "(III)I", prog_11_method_9_code, 7, (some .int), 3, false),
  (9, "permitsOf", "(I)I", prog_11_method_10_code, 4, (some .int), 1, false),
  (9, "prices", "(I)V", prog_11_method_11_code, 2, none, 1, false),
  (9, "joins", "(I)V", prog_11_method_12_code, 3, none, 1, false),
  (9, "groups", "()V", prog_11_method_13_code, 2, none, 0, false),
  (9, "takes", "()Z", prog_11_method_14_code, 3, (some .boolean), 0, false),
  (9, "gives", "()Z", prog_11_method_15_code, 2, (some .boolean), 0, false),
  (9, "borrows", "()Z", prog_11_method_16_code, 4, (some .boolean), 0, false),
  (9, "uses", "(I)V", prog_11_method_17_code, 6, none, 1, false),
  (9, "ways", "()V", prog_11_method_18_code, 5, none, 0, false),
  (9, "isAhead", "(II)Z", prog_11_method_19_code, 3, (some .boolean), 2, false),
  (9, "merit", "(I)I", prog_11_method_20_code, 4, (some .int), 1, false),
  (9, "byMerit", "(II)I", prog_11_method_21_code, 4, (some .int), 2, false),
  (9, "measures", "()V", prog_11_method_22_code, 5, none, 0, false),
  (9, "works", "()V", prog_11_method_23_code, 2, none, 0, false),
  (9, "year", "(II)I", prog_11_method_24_code, 3, (some .int), 2, false),
  (9, "measure", "(III)I", prog_11_method_25_code, 4, (some .int), 3, false),
  (9, "becomes", "(II)I", prog_11_method_26_code, 4, (some .int), 2, false),
  (9, "renew", "(III)I", prog_11_method_27_code, 4, (some .int), 3, false),
  (9, "set", "(II)I", prog_11_method_28_code, 3, (some .int), 2, false),
  (9, "feed", "(I)I", prog_11_method_29_code, 2, (some .int), 1, false),
  (9, "takes", "(I)Z", prog_11_method_30_code, 3, (some .boolean), 1, false),
  (9, "fails", "()V", prog_11_method_31_code, 1, none, 0, false),
  (9, "number", "(I)I", prog_11_method_32_code, 4, (some .int), 1, false),
  (9, "comma", "()V", prog_11_method_33_code, 1, none, 0, false),
  (9, "clause", "(I)V", prog_11_method_34_code, 3, none, 1, false),
  (9, "does", "(I)I", prog_11_method_35_code, 3, (some .int), 1, false),
  (9, "read", "()I", prog_11_method_36_code, 4, (some .int), 0, false),
  (9, "manyOf", "(I)I", prog_11_method_37_code, 4, (some .int), 1, false),
  (9, "of", "(II)I", prog_11_method_38_code, 3, (some .int), 2, false),
  (9, "about", "(II)I", prog_11_method_39_code, 3, (some .int), 2, false),
  (9, "at", "(III)I", prog_11_method_40_code, 4, (some .int), 3, false),
  (9, "group", "(II)I", prog_11_method_41_code, 5, (some .int), 2, false),
  (9, "shorts", "()I", prog_11_method_42_code, 3, (some .int), 0, false),
  (9, "unlike", "()I", prog_11_method_43_code, 5, (some .int), 0, false),
  (9, "told", "(I)I", prog_11_method_44_code, 4, (some .int), 1, false),
  (9, "total", "()J", prog_11_method_45_code, 4, (some .long), 0, false),
  (9, "alone", "(I)I", prog_11_method_46_code, 2, (some .int), 1, false),
  (9, "way", "(II)I", prog_11_method_47_code, 3, (some .int), 2, false),
  (9, "ways", "(II)I", prog_11_method_48_code, 7, (some .int), 2, false),
  (9, "ranksAhead", "(II)Z", prog_11_method_49_code, 5, (some .boolean), 2, false),
  (9, "rank", "(I)I", prog_11_method_50_code, 5, (some .int), 1, false),
  (9, "merit", "(II)I", prog_11_method_51_code, 3, (some .int), 2, false),
  (9, "thinks", "()V", prog_11_method_52_code, 1, none, 0, false),
  (9, "forgets", "()V", prog_11_method_53_code, 1, none, 0, false),
  (9, "more", "(I)J", prog_11_method_54_code, 6, (some .long), 1, false),
  (9, "shock", "(III)J", prog_11_method_55_code, 6, (some .long), 3, false),
  (9, "lists", "(IIII)I", prog_11_method_56_code, 5, (some .int), 4, false),
  (9, "firstOther", "(I)I", prog_11_method_57_code, 3, (some .int), 1, false),
  (9, "see", "(II)I", prog_11_method_58_code, 3, (some .int), 2, false),
  (9, "fits", "(II)I", prog_11_method_59_code, 6, (some .int), 2, false),
  (9, "common", "(JJ)J", prog_11_method_60_code, 4, (some .long), 2, true),
  (9, "partOf", "(JJI)J", prog_11_method_61_code, 5, (some .long), 3, true),
  (9, "odds", "(II)J", prog_11_method_62_code, 5, (some .long), 2, false),
  (9, "mean", "(I)J", prog_11_method_63_code, 4, (some .long), 1, false),
  (9, "event", "(II)I", prog_11_method_64_code, 3, (some .int), 2, false),
  (9, "after", "(I)J", prog_11_method_65_code, 4, (some .long), 1, false),
  (9, "book", "(II)I", prog_11_method_66_code, 3, (some .int), 2, false),
  (9, "looked", "()I", prog_11_method_67_code, 1, (some .int), 0, false),
  (9, "isTape", "(I)Z", prog_11_method_68_code, 1, (some .boolean), 1, true),
  (9, "judge", "(II)I", prog_11_method_69_code, 4, (some .int), 2, false),
  (9, "image", "()I", prog_11_method_70_code, 1, (some .int), 0, false),
  (9, "undo", "()I", prog_11_method_71_code, 1, (some .int), 0, false),
  (9, "count", "(I)I", prog_11_method_72_code, 2, (some .int), 1, false),
  (9, "tape", "(III)I", prog_11_method_73_code, 5, (some .int), 3, false),
  (9, "item", "(IIJ)I", prog_11_method_74_code, 5, (some .int), 3, false),
  (9, "peek", "(II)J", prog_11_method_75_code, 3, (some .long), 2, false),
  (9, "shift", "(IIIII)I", prog_11_method_76_code, 7, (some .int), 5, false),
  (10, "law", "([I)Z", code, 4, (some .boolean), 1, true)]
def mj_cP : List Nat := [130, 427, 445, 489, 441, 430, 142, 437, 457, 449, 453, 124, 419, 516, 540, 508, 549, 574, 578, 586, 653, 423, 461, 465, 469, 473, 477, 481, 485, 496, 503, 590, 553, 85, 645, 641, 712, 239, 371, 406, 380, 396, 399, 388, 392, 384, 31, 337, 349, 315, 333, 345, 361, 678, 520, 512, 598, 617, 602, 353, 318, 25, 707, 265, 729, 698, 749, 737, 17, 311, 329, 341, 357, 367, 376, 410, 524, 529, 536, 544, 557, 561, 566, 570, 582, 594, 607, 628, 633, 649, 658, 665, 669, 674, 683, 687, 691, 703, 717, 721, 725, 733, 741, 745, 325, 694, 415, 613, 624, 637, 661, 755, 928, 936, 944, 1061, 784, 809, 780, 776, 772, 768, 789, 764, 793, 797, 801, 805, 813, 830, 826, 822, 818, 760, 925, 932, 948, 940, 952, 956, 980, 968, 972, 976, 964, 984, 960, 995, 991, 999, 1003, 1007, 1015, 1019, 1011, 1023, 1028, 1032, 1036, 1044, 1040, 1048, 1058, 1065, 1052, 1069, 1078, 1086, 1074, 1082, 1097, 1094, 1090, 1101, 1105, 1109, 1113, 1117, 1124, 1121, 1128, 1132, 1136, 1140, 1144, 1148, 1152]
def mj_tP : List Nat := [129, 425, 443, 487, 439, 429, 141, 435, 455, 448, 452, 123, 417, 514, 538, 506, 547, 572, 576, 584, 651, 422, 460, 464, 468, 472, 476, 480, 484, 495, 502, 589, 552, 84, 643, 639, 710, 238, 369, 404, 378, 394, 398, 387, 391, 383, 30, 335, 347, 313, 331, 343, 359, 676, 518, 510, 596, 615, 601, 352, 317, 24, 705, 264, 727, 696, 747, 735, 16, 309, 327, 339, 355, 365, 374, 408, 522, 527, 534, 542, 555, 559, 564, 568, 580, 592, 605, 626, 631, 647, 656, 663, 667, 672, 681, 685, 689, 701, 715, 719, 723, 731, 739, 743, 324, 693, 414, 612, 623, 636, 660, 754, 927, 935, 943, 1060, 783, 808, 779, 775, 771, 767, 788, 763, 792, 796, 800, 804, 812, 829, 825, 821, 817, 759, 923, 930, 947, 938, 950, 954, 979, 967, 971, 975, 963, 983, 958, 994, 989, 997, 1001, 1005, 1014, 1018, 1009, 1021, 1026, 1030, 1034, 1043, 1038, 1046, 1057, 1064, 1050, 1067, 1077, 1085, 1072, 1080, 1096, 1093, 1088, 1099, 1103, 1107, 1111, 1115, 1123, 1119, 1126, 1130, 1134, 1138, 1142, 1146, 1150]
def mj_fL : List (Nat × Nat × Nat × Nat × Nat) := [(5, 9, 5, 0, 33), (8, 103, 5, 0, 34), (2, 138, 5, 0, 35), (5, 15, 5, 1, 36), (0, 36, 5, 1, 37), (8, 107, 5, 1, 38), (2, 183, 5, 1, 39), (5, 18, 5, 2, 40), (0, 46, 5, 2, 41), (8, 134, 5, 2, 42), (2, 186, 5, 2, 43), (5, 21, 5, 3, 44), (0, 43, 5, 3, 45), (8, 137, 5, 3, 46), (2, 196, 5, 3, 47), (5, 24, 5, 4, 48), (0, 49, 5, 4, 49), (8, 140, 5, 4, 50), (2, 193, 5, 4, 51), (5, 27, 5, 5, 52), (2, 79, 5, 5, 53), (8, 193, 5, 5, 54), (5, 30, 5, 6, 55), (0, 16, 5, 6, 56), (2, 137, 5, 6, 57), (8, 187, 5, 6, 58), (5, 34, 5, 7, 59), (0, 40, 5, 7, 60), (2, 117, 5, 7, 61), (8, 190, 5, 7, 62), (3, 15, 3, 0, 87), (2, 127, 3, 0, 88), (8, 284, 3, 0, 89), (3, 19, 3, 1, 90), (2, 134, 3, 1, 91), (8, 285, 3, 1, 92), (3, 9, 3, 2, 93), (2, 124, 3, 2, 94), (8, 283, 3, 2, 95), (6, 12, 6, 0, 103), (8, 59, 6, 0, 104), (6, 23, 6, 1, 105), (8, 255, 6, 1, 106), (6, 27, 6, 2, 107), (8, 271, 6, 2, 108), (6, 30, 6, 3, 109), (8, 292, 6, 3, 110), (0, 11, 0, 0, 134), (1, 9, 1, 0, 144), (8, 171, 1, 0, 145), (2, 154, 1, 0, 146), (1, 15, 1, 1, 147), (8, 174, 1, 1, 148), (2, 151, 1, 1, 149), (1, 18, 1, 2, 150), (2, 106, 1, 2, 151), (8, 177, 1, 2, 152), (1, 21, 1, 3, 153), (2, 94, 1, 3, 154), (8, 166, 1, 3, 155), (2, 12, 2, 0, 166), (8, 150, 2, 0, 167), (2, 21, 2, 1, 168), (8, 162, 2, 1, 169), (2, 25, 2, 2, 170), (8, 110, 2, 2, 171), (2, 29, 2, 3, 172), (8, 125, 2, 3, 173), (2, 32, 2, 4, 174), (8, 113, 2, 4, 175), (2, 35, 2, 5, 176), (8, 119, 2, 5, 177), (2, 38, 2, 6, 178), (8, 122, 2, 6, 179), (2, 41, 2, 7, 180), (8, 184, 2, 7, 181), (2, 44, 2, 8, 182), (8, 143, 2, 8, 183), (2, 49, 2, 9, 184), (8, 222, 2, 9, 185), (2, 52, 2, 10, 186), (2, 55, 2, 11, 187), (2, 59, 2, 12, 188), (8, 196, 2, 12, 189), (2, 62, 2, 13, 190), (8, 199, 2, 13, 191), (2, 65, 2, 14, 192), (8, 202, 2, 14, 193), (2, 68, 2, 15, 194), (8, 205, 2, 15, 195), (2, 71, 2, 16, 196), (8, 215, 2, 16, 197), (4, 9, 4, 0, 242), (4, 17, 4, 1, 243), (4, 20, 4, 2, 244), (4, 24, 4, 3, 245), (8, 312, 4, 3, 246), (4, 27, 4, 4, 247), (8, 84, 4, 4, 248), (7, 9, 7, 0, 267), (8, 304, 7, 0, 268), (7, 15, 7, 1, 269), (8, 298, 7, 1, 270), (7, 19, 7, 2, 271), (8, 12, 8, 0, 280), (8, 18, 8, 1, 281), (8, 21, 8, 2, 282), (8, 28, 8, 3, 283), (8, 32, 8, 4, 284), (8, 38, 8, 5, 285), (8, 42, 8, 6, 286), (8, 48, 8, 7, 287), (8, 54, 8, 8, 288), (9, 11, 9, 0, 831), (9, 15, 9, 1, 832), (9, 18, 9, 2, 833), (9, 262, 9, 3, 834), (9, 21, 9, 4, 835), (9, 24, 9, 5, 836), (9, 27, 9, 6, 837), (9, 30, 9, 7, 838), (9, 33, 9, 8, 839), (9, 36, 9, 9, 840), (9, 39, 9, 10, 841), (9, 42, 9, 11, 842), (9, 45, 9, 12, 843), (9, 48, 9, 13, 844), (9, 51, 9, 14, 845), (9, 54, 9, 15, 846), (9, 57, 9, 16, 847), (9, 106, 9, 17, 848), (9, 117, 9, 18, 849), (9, 120, 9, 19, 850), (9, 123, 9, 20, 851), (9, 60, 9, 21, 852), (9, 63, 9, 22, 853), (9, 173, 9, 23, 854), (9, 179, 9, 24, 855), (9, 176, 9, 25, 856), (9, 66, 9, 26, 857), (9, 69, 9, 27, 858), (9, 72, 9, 28, 859), (9, 76, 9, 29, 860)]
def mj_sL : List (Nat × Nat × Nat × Nat × Nat) := [(5, 81, 1, 1, 319), (5, 59, 2, 1, 321), (5, 56, 3, 1, 362), (8, 239, 2, 0, 608), (8, 278, 3, 0, 670)]
def mj_mL : List (Nat × Nat × Nat × Nat × Nat) := [(10, 9, 68, 0, 15), (8, 3, 1003, 0, 18), (8, 11, 61, 1, 23), (6, 3, 1003, 0, 26), (6, 11, 46, 1, 29), (5, 3, 1003, 0, 32), (6, 20, 33, 0, 83), (3, 3, 1003, 0, 86), (8, 27, 11, 1, 122), (2, 3, 1003, 0, 125), (2, 11, 0, 1, 128), (0, 3, 1003, 0, 131), (2, 20, 6, 1, 140), (1, 3, 1003, 0, 143), (8, 37, 46, 1, 234), (8, 47, 37, 1, 237), (4, 3, 1003, 0, 240), (8, 58, 63, 1, 263), (7, 3, 1003, 0, 266), (10, 13, 69, 0, 308), (8, 62, 49, 0, 312), (5, 41, 60, 0, 316), (5, 37, 104, 1, 323), (10, 18, 70, 0, 326), (8, 66, 50, 0, 330), (5, 45, 47, 0, 334), (10, 23, 71, 0, 338), (8, 70, 51, 0, 342), (5, 49, 48, 0, 346), (5, 52, 59, 0, 350), (10, 27, 72, 0, 354), (8, 73, 52, 0, 358), (10, 31, 73, 0, 364), (8, 76, 38, 0, 368), (4, 30, 104, 1, 372), (10, 36, 74, 0, 373), (8, 80, 40, 0, 377), (4, 34, 45, 0, 381), (4, 38, 43, 0, 385), (4, 59, 44, 0, 389), (8, 88, 41, 0, 393), (4, 42, 42, 0, 397), (4, 46, 49, 0, 400), (4, 52, 50, 0, 401), (4, 56, 52, 0, 402), (8, 92, 39, 0, 403), (10, 41, 75, 0, 407), (8, 95, 47, 0, 411), (8, 99, 106, 0, 412), (8, 330, 12, 0, 416), (2, 75, 21, 0, 420), (2, 141, 1, 0, 424), (0, 22, 5, 0, 428), (0, 26, 1000, 0, 431), (2, 144, 7, 0, 434), (1, 25, 4, 0, 438), (0, 32, 2, 0, 442), (1, 31, 9, 0, 446), (1, 35, 10, 0, 450), (1, 39, 8, 0, 454), (2, 84, 22, 0, 458), (2, 148, 23, 0, 462), (2, 88, 24, 0, 466), (2, 155, 25, 0, 470), (2, 91, 26, 0, 474), (2, 158, 27, 0, 478), (2, 97, 28, 0, 482), (2, 161, 3, 0, 486), (2, 109, 8, 0, 490), (2, 165, 1000, 0, 491), (2, 171, 2, 0, 492), (2, 100, 29, 0, 493), (2, 174, 1001, 0, 497), (2, 103, 30, 0, 500), (2, 179, 15, 0, 505), (2, 189, 55, 0, 509), (8, 116, 13, 0, 513), (8, 128, 54, 0, 517), (10, 45, 76, 0, 521), (8, 131, 48, 0, 525), (10, 49, 77, 0, 526), (8, 146, 104, 0, 530), (8, 154, 3, 0, 531), (8, 159, 2, 0, 532), (10, 53, 78, 0, 533), (8, 180, 14, 0, 537), (10, 57, 79, 0, 541), (8, 208, 15, 0, 545), (8, 212, 16, 0, 546), (2, 113, 32, 0, 550), (10, 61, 80, 0, 554), (10, 66, 81, 0, 558), (8, 219, 4, 0, 562), (10, 70, 82, 0, 563), (10, 74, 83, 0, 567), (8, 226, 17, 0, 571), (8, 229, 18, 0, 575), (10, 78, 84, 0, 579), (8, 232, 19, 0, 583), (2, 120, 31, 0, 587), (10, 82, 85, 0, 591), (8, 236, 56, 0, 595), (5, 68, 58, 0, 599), (5, 78, 55, 0, 603), (10, 86, 86, 0, 604), (8, 244, 107, 0, 610), (8, 334, 57, 0, 614), (5, 72, 1002, 0, 618), (8, 247, 108, 0, 621), (10, 91, 87, 0, 625), (8, 250, 1000, 0, 629), (10, 96, 88, 0, 630), (8, 259, 109, 0, 634), (8, 274, 35, 0, 638), (8, 281, 34, 0, 642), (10, 100, 89, 0, 646), (8, 263, 20, 0, 650), (2, 130, 13, 0, 654), (10, 104, 90, 0, 655), (8, 267, 110, 0, 659), (10, 109, 91, 0, 662), (10, 113, 92, 0, 666), (10, 117, 93, 0, 671), (8, 288, 53, 0, 675), (5, 62, 1001, 0, 679), (10, 121, 94, 0, 680), (10, 125, 95, 0, 684), (10, 129, 96, 0, 688), (8, 295, 105, 0, 692), (8, 301, 65, 0, 695), (7, 22, 104, 1, 699), (10, 133, 97, 0, 700), (8, 308, 62, 0, 704), (6, 33, 57, 0, 708), (6, 37, 36, 0, 709), (3, 22, 34, 0, 713), (10, 137, 98, 0, 714), (10, 141, 99, 0, 718), (10, 145, 100, 0, 722), (8, 313, 64, 0, 726), (10, 151, 101, 0, 730), (8, 316, 67, 0, 734), (10, 156, 102, 0, 738), (10, 160, 103, 0, 742), (8, 320, 66, 0, 746), (8, 324, 1002, 0, 750), (10, 12, 111, 0, 753), (9, 3, 1003, 0, 756), (9, 79, 133, 0, 757), (9, 142, 123, 0, 761), (9, 110, 121, 0, 765), (9, 98, 120, 0, 769), (9, 102, 119, 0, 773), (9, 95, 118, 0, 777), (9, 92, 116, 0, 781), (9, 86, 1000, 0, 785), (9, 114, 122, 0, 786), (9, 144, 124, 0, 790), (9, 148, 125, 0, 794), (9, 151, 126, 0, 798), (9, 154, 127, 0, 802), (9, 126, 117, 0, 806), (9, 157, 128, 0, 810), (9, 129, 1001, 0, 814), (9, 160, 132, 0, 815), (9, 139, 131, 0, 819), (9, 136, 130, 0, 823), (9, 132, 129, 0, 827), (10, 17, 134, 0, 922), (9, 82, 112, 0, 926), (10, 22, 135, 0, 929), (9, 163, 113, 0, 933), (10, 26, 137, 0, 937), (9, 167, 114, 0, 941), (9, 170, 136, 0, 945), (10, 30, 138, 0, 949), (10, 35, 139, 0, 953), (10, 40, 146, 0, 957), (9, 202, 144, 0, 961), (9, 182, 141, 0, 965), (9, 187, 142, 0, 969), (9, 190, 143, 0, 973), (9, 185, 140, 0, 977), (9, 205, 145, 0, 981), (9, 193, 134, 0, 985), (9, 196, 135, 0, 986), (9, 199, 138, 0, 987), (10, 44, 148, 0, 988), (9, 208, 147, 0, 992), (10, 48, 149, 0, 996), (10, 52, 150, 0, 1000), (10, 56, 151, 0, 1004), (10, 60, 154, 0, 1008), (9, 211, 152, 0, 1012), (9, 215, 153, 0, 1016), (10, 65, 155, 0, 1020), (10, 69, 156, 0, 1025), (10, 73, 157, 0, 1029), (10, 77, 158, 0, 1033), (10, 81, 160, 0, 1037), (9, 220, 159, 0, 1041), (10, 85, 161, 0, 1045), (10, 90, 164, 0, 1049), (9, 229, 155, 0, 1054), (9, 233, 162, 0, 1055), (9, 223, 115, 0, 1059), (9, 236, 163, 0, 1062), (10, 95, 165, 0, 1066), (9, 239, 148, 0, 1070), (10, 99, 168, 0, 1071), (9, 242, 166, 0, 1075), (10, 103, 169, 0, 1079), (9, 246, 167, 0, 1083), (10, 108, 172, 0, 1087), (9, 255, 171, 0, 1092), (9, 249, 170, 0, 1095), (10, 112, 173, 0, 1098), (10, 116, 174, 0, 1102), (10, 120, 175, 0, 1106), (10, 124, 176, 0, 1110), (10, 128, 177, 0, 1114), (10, 132, 179, 0, 1118), (9, 259, 178, 0, 1122), (10, 136, 180, 0, 1125), (10, 140, 181, 0, 1129), (10, 144, 182, 0, 1133), (10, 148, 183, 0, 1137), (10, 155, 184, 0, 1141), (10, 159, 185, 0, 1145), (10, 164, 186, 0, 1149)]
def mj_cL : List (Nat × Nat × String × Nat) := [(10, 7, "PermitBank", 13), (8, 9, "PermitBank$State", 21), (6, 9, "PermitBank$SetUp", 27), (6, 18, "PermitBank$Rows", 81), (8, 25, "PermitBank$Plan", 120), (2, 9, "PermitBank$Demand", 126), (0, 9, "[[I", 132), (2, 18, "PermitBank$Groups", 138), (2, 47, "[[I", 165), (8, 35, "PermitBank$SetUp", 233), (8, 45, "PermitBank$Script", 235), (4, 15, "[[I", 241), (8, 52, "PermitBank$Tape", 260), (10, 10, "PermitBankModel", 751)]
def mj_lL : List (Nat × Nat × Int × Nat) := [(2, 177, 20, 504), (8, 242, -9223372036854775808, 609), (9, 218, 20, 1024), (9, 227, -9223372036854775808, 1053), (9, 253, 10, 1091), (10, 149, 4294967295, 1153)]
abbrev mj_MI : Type := Nat × Int × Nat × Nat × List (Int × Nat)
def mj_c0 : List (Nat × mj_MI × Nat) := [(0, (2, 0, 0, 0, []), 1), (1, (60, 0, 0, 0, []), 4), (4, (2, 0, 0, 0, []), 5), (5, (0, 6, 0, 0, []), 7), (7, (0, 21, 0, 0, []), 9), (9, (40, 0, 0, 0, []), 13), (13, (62, 0, 0, 0, []), 16), (16, (28, 0, 0, 0, []), 17)]
def mj_c1 : List (Nat × mj_MI × Nat) := [(0, (0, 0, 0, 0, []), 1), (1, (4, 0, 2, 0, []), 2), (2, (1, 0, 2, 0, []), 3), (3, (2, 0, 1, 0, []), 4), (4, (15, 0, 5, 6, []), 7), (7, (25, 0, 76, 3, []), 10), (10, (2, 0, 1, 0, []), 11), (11, (1, 0, 2, 0, []), 12), (12, (2, 0, 0, 0, []), 13), (13, (15, 0, 0, 0, []), 16), (16, (1, 0, 2, 0, []), 17), (17, (0, 1, 0, 0, []), 18), (18, (8, 0, 0, 0, []), 19), (19, (21, 0, 0, 0, []), 20), (20, (32, 0, 5, 1, []), 23), (23, (0, 0, 0, 0, []), 24), (24, (4, 0, 3, 0, []), 25), (25, (1, 0, 3, 0, []), 26), (26, (0, 20, 0, 0, []), 28), (28, (25, 0, 70, 4, []), 31), (31, (2, 0, 0, 0, []), 32), (32, (15, 0, 0, 0, []), 35), (35, (1, 0, 2, 0, []), 36), (36, (0, 1, 0, 0, []), 37), (37, (8, 0, 0, 0, []), 38), (38, (21, 0, 0, 0, []), 39), (39, (1, 0, 3, 0, []), 40), (40, (2, 0, 0, 0, []), 41), (41, (15, 0, 0, 0, []), 44), (44, (1, 0, 2, 0, []), 45), (45, (21, 0, 0, 0, []), 46), (46, (1, 0, 3, 0, []), 47), (47, (17, 0, 0, 0, []), 48), (48, (0, 0, 0, 0, []), 49), (49, (2, 0, 0, 0, []), 50), (50, (15, 0, 0, 0, []), 53), (53, (1, 0, 2, 0, []), 54), (54, (0, 1, 0, 0, []), 55), (55, (8, 0, 0, 0, []), 56), (56, (21, 0, 0, 0, []), 57), (57, (1, 0, 3, 0, []), 58), (58, (17, 0, 0, 0, []), 59), (59, (33, 0, 0, 0, []), 62), (62, (8, 0, 0, 0, []), 63), (63, (18, 0, 0, 0, []), 64), (64, (7, 1, 3, 0, []), 67), (67, (26, 0, 25, 0, []), 70), (70, (7, 1, 2, 0, []), 73), (73, (26, 0, 2, 0, []), 76), (76, (28, 0, 0, 0, []), 77)]
def mj_c2 : List (Nat × mj_MI × Nat) := [(0, (2, 0, 0, 0, []), 1), (1, (15, 0, 0, 0, []), 4), (4, (1, 0, 2, 0, []), 5), (5, (0, 1, 0, 0, []), 6), (6, (8, 0, 0, 0, []), 7), (7, (21, 0, 0, 0, []), 8), (8, (1, 0, 3, 0, []), 9), (9, (17, 0, 0, 0, []), 10), (10, (2, 0, 0, 0, []), 11), (11, (15, 0, 0, 0, []), 14), (14, (1, 0, 1, 0, []), 15), (15, (21, 0, 0, 0, []), 16), (16, (1, 0, 3, 0, []), 17), (17, (17, 0, 0, 0, []), 18), (18, (9, 0, 0, 0, []), 19), (19, (29, 0, 0, 0, []), 20)]
def mj_c3 : List (Nat × mj_MI × Nat) := [(0, (2, 0, 0, 0, []), 1), (1, (1, 0, 1, 0, []), 2), (2, (1, 0, 2, 0, []), 3), (3, (0, 0, 0, 0, []), 4), (4, (1, 0, 3, 0, []), 5), (5, (0, 1, 0, 0, []), 6), (6, (9, 0, 0, 0, []), 7), (7, (33, 0, 0, 0, []), 10), (10, (32, 0, 2, 0, []), 13), (13, (29, 0, 0, 0, []), 14)]
def mj_c4 : List (Nat × mj_MI × Nat) := [(0, (0, 0, 0, 0, []), 1), (1, (4, 0, 4, 0, []), 3), (3, (1, 0, 4, 0, []), 5), (5, (0, 20, 0, 0, []), 7), (7, (25, 0, 31, 3, []), 10), (10, (2, 0, 0, 0, []), 11), (11, (1, 0, 1, 0, []), 12), (12, (1, 0, 2, 0, []), 13), (13, (1, 0, 4, 0, []), 15), (15, (32, 0, 2, 0, []), 18), (18, (1, 0, 3, 0, []), 19), (19, (25, 0, 25, 4, []), 22), (22, (1, 0, 4, 0, []), 24), (24, (29, 0, 0, 0, []), 25), (25, (7, 1, 4, 0, []), 28), (28, (26, 0, 3, 0, []), 31), (31, (0, 20, 0, 0, []), 33), (33, (29, 0, 0, 0, []), 34)]
def mj_c5 : List (Nat × mj_MI × Nat) := [(0, (0, 0, 0, 0, []), 1), (1, (4, 0, 3, 0, []), 2), (2, (1, 0, 3, 0, []), 3), (3, (0, 20, 0, 0, []), 5), (5, (25, 0, 23, 4, []), 8), (8, (2, 0, 2, 0, []), 9), (9, (1, 0, 3, 0, []), 10), (10, (2, 0, 0, 0, []), 11), (11, (15, 0, 5, 1, []), 14), (14, (1, 0, 1, 0, []), 15), (15, (17, 0, 0, 0, []), 16), (16, (18, 0, 0, 0, []), 17), (17, (7, 1, 3, 0, []), 20), (20, (26, 0, 2, 0, []), 23), (23, (0, 0, 0, 0, []), 24), (24, (4, 0, 3, 0, []), 25), (25, (1, 0, 3, 0, []), 26), (26, (2, 0, 0, 0, []), 27), (27, (15, 0, 5, 7, []), 30), (30, (25, 0, 83, 3, []), 33), (33, (2, 0, 0, 0, []), 34), (34, (15, 0, 5, 3, []), 37), (37, (1, 0, 3, 0, []), 38), (38, (17, 0, 0, 0, []), 39), (39, (4, 0, 4, 0, []), 41), (41, (1, 0, 4, 0, []), 43), (43, (0, 20, 0, 0, []), 45), (45, (25, 0, 77, 4, []), 48), (48, (2, 0, 0, 0, []), 49), (49, (15, 0, 5, 2, []), 52), (52, (1, 0, 3, 0, []), 53), (53, (17, 0, 0, 0, []), 54), (54, (1, 0, 1, 0, []), 55), (55, (25, 0, 77, 1, []), 58), (58, (2, 0, 2, 0, []), 59), (59, (1, 0, 4, 0, []), 61), (61, (42, 0, 0, 0, []), 62), (62, (17, 0, 0, 0, []), 63), (63, (2, 0, 0, 0, []), 64), (64, (15, 0, 5, 4, []), 67), (67, (1, 0, 3, 0, []), 68), (68, (17, 0, 0, 0, []), 69), (69, (9, 0, 0, 0, []), 70), (70, (18, 0, 0, 0, []), 71), (71, (7, 1, 4, 0, []), 74), (74, (26, 0, 41, 0, []), 77), (77, (7, 1, 3, 0, []), 80), (80, (26, 0, 25, 0, []), 83), (83, (28, 0, 0, 0, []), 84)]
def mj_c6 : List (Nat × mj_MI × Nat) := [(0, (2, 0, 0, 0, []), 1), (1, (60, 0, 0, 0, []), 4), (4, (2, 0, 0, 0, []), 5), (5, (0, 5, 0, 0, []), 6), (6, (37, 0, 0, 0, []), 8), (8, (62, 0, 1, 0, []), 11), (11, (2, 0, 0, 0, []), 12), (12, (0, 5, 0, 0, []), 13), (13, (37, 0, 0, 0, []), 15), (15, (62, 0, 1, 1, []), 18), (18, (2, 0, 0, 0, []), 19), (19, (0, 5, 0, 0, []), 20), (20, (37, 0, 0, 0, []), 22), (22, (62, 0, 1, 2, []), 25), (25, (2, 0, 0, 0, []), 26), (26, (0, 0, 0, 0, []), 27), (27, (16, 0, 1, 3, []), 30), (30, (28, 0, 0, 0, []), 31)]
def mj_c7 : List (Nat × mj_MI × Nat) := [(0, (2, 0, 0, 0, []), 1), (1, (1, 0, 3, 0, []), 2), (2, (16, 0, 1, 3, []), 5), (5, (0, 0, 0, 0, []), 6), (6, (4, 0, 4, 0, []), 8), (8, (1, 0, 4, 0, []), 10), (10, (1, 0, 3, 0, []), 11), (11, (25, 0, 57, 3, []), 14), (14, (2, 0, 0, 0, []), 15), (15, (15, 0, 1, 0, []), 18), (18, (1, 0, 4, 0, []), 20), (20, (1, 0, 4, 0, []), 22), (22, (18, 0, 0, 0, []), 23), (23, (2, 0, 0, 0, []), 24), (24, (15, 0, 1, 1, []), 27), (27, (1, 0, 4, 0, []), 29), (29, (1, 0, 4, 0, []), 31), (31, (18, 0, 0, 0, []), 32), (32, (2, 0, 0, 0, []), 33), (33, (15, 0, 1, 2, []), 36), (36, (1, 0, 4, 0, []), 38), (38, (2, 0, 1, 0, []), 39), (39, (1, 0, 4, 0, []), 41), (41, (1, 0, 4, 0, []), 43), (43, (2, 0, 2, 0, []), 44), (44, (1, 0, 4, 0, []), 46), (46, (17, 0, 0, 0, []), 47), (47, (32, 0, 4, 0, []), 50), (50, (18, 0, 0, 0, []), 51), (51, (7, 1, 4, 0, []), 54), (54, (26, 0, 8, 0, []), 57), (57, (0, 0, 0, 0, []), 58), (58, (4, 0, 4, 0, []), 60), (60, (1, 0, 4, 0, []), 62), (62, (1, 0, 3, 0, []), 63), (63, (25, 0, 122, 3, []), 66), (66, (2, 0, 0, 0, []), 67), (67, (32, 0, 9, 0, []), 70), (70, (4, 0, 5, 0, []), 72), (72, (1, 0, 5, 0, []), 74), (74, (24, 0, 78, 3, []), 77), (77, (28, 0, 0, 0, []), 78), (78, (2, 0, 0, 0, []), 79), (79, (1, 0, 5, 0, []), 81), (81, (32, 0, 10, 0, []), 84), (84, (2, 0, 0, 0, []), 85), (85, (15, 0, 1, 2, []), 88), (88, (1, 0, 5, 0, []), 90), (90, (2, 0, 1, 0, []), 91), (91, (2, 0, 0, 0, []), 92), (92, (15, 0, 1, 0, []), 95), (95, (1, 0, 5, 0, []), 97), (97, (17, 0, 0, 0, []), 98), (98, (2, 0, 0, 0, []), 99), (99, (15, 0, 1, 1, []), 102), (102, (1, 0, 5, 0, []), 104), (104, (17, 0, 0, 0, []), 105), (105, (2, 0, 0, 0, []), 106), (106, (2, 0, 2, 0, []), 107), (107, (1, 0, 5, 0, []), 109), (109, (32, 0, 8, 0, []), 112), (112, (32, 0, 4, 0, []), 115), (115, (18, 0, 0, 0, []), 116), (116, (7, 1, 4, 0, []), 119), (119, (26, 0, 60, 0, []), 122), (122, (28, 0, 0, 0, []), 123)]
def mj_c8 : List (Nat × mj_MI × Nat) := [(0, (0, 0, 0, 0, []), 1), (1, (4, 0, 3, 0, []), 2), (2, (2, 0, 0, 0, []), 3), (3, (15, 0, 1, 0, []), 6), (6, (1, 0, 2, 0, []), 7), (7, (17, 0, 0, 0, []), 8), (8, (4, 0, 4, 0, []), 10), (10, (1, 0, 4, 0, []), 12), (12, (2, 0, 0, 0, []), 13), (13, (15, 0, 1, 1, []), 16), (16, (1, 0, 2, 0, []), 17), (17, (17, 0, 0, 0, []), 18), (18, (25, 0, 34, 4, []), 21), (21, (1, 0, 3, 0, []), 22), (22, (2, 0, 1, 0, []), 23), (23, (1, 0, 4, 0, []), 25), (25, (17, 0, 0, 0, []), 26), (26, (8, 0, 0, 0, []), 27), (27, (4, 0, 3, 0, []), 28), (28, (7, 1, 4, 0, []), 31), (31, (26, 0, 10, 0, []), 34), (34, (1, 0, 3, 0, []), 35), (35, (29, 0, 0, 0, []), 36)]
def mj_c9 : List (Nat × mj_MI × Nat) := [(0, (0, 0, 0, 0, []), 1), (1, (4, 0, 1, 0, []), 2), (2, (1, 0, 1, 0, []), 3), (3, (0, 1, 0, 0, []), 4), (4, (8, 0, 0, 0, []), 5), (5, (2, 0, 0, 0, []), 6), (6, (15, 0, 1, 3, []), 9), (9, (25, 0, 37, 3, []), 12), (12, (2, 0, 0, 0, []), 13), (13, (15, 0, 1, 2, []), 16), (16, (1, 0, 1, 0, []), 17), (17, (17, 0, 0, 0, []), 18), (18, (2, 0, 0, 0, []), 19), (19, (15, 0, 1, 2, []), 22), (22, (1, 0, 1, 0, []), 23), (23, (0, 1, 0, 0, []), 24), (24, (8, 0, 0, 0, []), 25), (25, (17, 0, 0, 0, []), 26), (26, (25, 0, 31, 3, []), 29), (29, (1, 0, 1, 0, []), 30), (30, (29, 0, 0, 0, []), 31), (31, (7, 1, 1, 0, []), 34), (34, (26, 0, 2, 0, []), 37), (37, (0, (-1), 0, 0, []), 38), (38, (29, 0, 0, 0, []), 39)]
def mj_c10 : List (Nat × mj_MI × Nat) := [(0, (2, 0, 0, 0, []), 1), (1, (15, 0, 1, 1, []), 4), (4, (1, 0, 1, 0, []), 5), (5, (2, 0, 0, 0, []), 6), (6, (15, 0, 1, 1, []), 9), (9, (1, 0, 1, 0, []), 10), (10, (0, 1, 0, 0, []), 11), (11, (8, 0, 0, 0, []), 12), (12, (17, 0, 0, 0, []), 13), (13, (18, 0, 0, 0, []), 14), (14, (2, 0, 0, 0, []), 15), (15, (41, 0, 0, 0, []), 16), (16, (15, 0, 1, 3, []), 19), (19, (0, 1, 0, 0, []), 20), (20, (9, 0, 0, 0, []), 21), (21, (16, 0, 1, 3, []), 24), (24, (1, 0, 1, 0, []), 25), (25, (0, 1, 0, 0, []), 26), (26, (8, 0, 0, 0, []), 27), (27, (4, 0, 2, 0, []), 28), (28, (1, 0, 2, 0, []), 29), (29, (2, 0, 0, 0, []), 30), (30, (15, 0, 1, 3, []), 33), (33, (25, 0, 84, 3, []), 36), (36, (2, 0, 0, 0, []), 37), (37, (15, 0, 1, 0, []), 40), (40, (1, 0, 2, 0, []), 41), (41, (2, 0, 0, 0, []), 42), (42, (15, 0, 1, 0, []), 45), (45, (1, 0, 2, 0, []), 46), (46, (0, 1, 0, 0, []), 47), (47, (8, 0, 0, 0, []), 48), (48, (17, 0, 0, 0, []), 49), (49, (18, 0, 0, 0, []), 50), (50, (2, 0, 0, 0, []), 51), (51, (15, 0, 1, 1, []), 54), (54, (1, 0, 2, 0, []), 55), (55, (2, 0, 0, 0, []), 56), (56, (15, 0, 1, 1, []), 59), (59, (1, 0, 2, 0, []), 60), (60, (0, 1, 0, 0, []), 61), (61, (8, 0, 0, 0, []), 62), (62, (17, 0, 0, 0, []), 63), (63, (18, 0, 0, 0, []), 64), (64, (2, 0, 0, 0, []), 65), (65, (15, 0, 1, 2, []), 68), (68, (1, 0, 2, 0, []), 69), (69, (2, 0, 0, 0, []), 70), (70, (15, 0, 1, 2, []), 73), (73, (1, 0, 2, 0, []), 74), (74, (0, 1, 0, 0, []), 75), (75, (8, 0, 0, 0, []), 76), (76, (17, 0, 0, 0, []), 77), (77, (18, 0, 0, 0, []), 78), (78, (7, 1, 2, 0, []), 81), (81, (26, 0, 28, 0, []), 84), (84, (28, 0, 0, 0, []), 85)]
def mj_c11 : List (Nat × mj_MI × Nat) := [(0, (2, 0, 0, 0, []), 1), (1, (60, 0, 0, 0, []), 4), (4, (2, 0, 0, 0, []), 5), (5, (36, 0, 0, 0, []), 8), (8, (41, 0, 0, 0, []), 9), (9, (32, 0, 0, 2, []), 12), (12, (62, 0, 2, 0, []), 15), (15, (2, 0, 0, 0, []), 16), (16, (36, 0, 1, 0, []), 19), (19, (41, 0, 0, 0, []), 20), (20, (32, 0, 6, 2, []), 23), (23, (62, 0, 2, 1, []), 26), (26, (2, 0, 0, 0, []), 27), (27, (0, 5, 0, 0, []), 28), (28, (37, 0, 0, 0, []), 30), (30, (62, 0, 2, 2, []), 33), (33, (2, 0, 0, 0, []), 34), (34, (0, 5, 0, 0, []), 35), (35, (37, 0, 0, 0, []), 37), (37, (62, 0, 2, 3, []), 40), (40, (2, 0, 0, 0, []), 41), (41, (0, 5, 0, 0, []), 42), (42, (37, 0, 0, 0, []), 44), (44, (62, 0, 2, 4, []), 47), (47, (2, 0, 0, 0, []), 48), (48, (0, 5, 0, 0, []), 49), (49, (37, 0, 0, 0, []), 51), (51, (62, 0, 2, 5, []), 54), (54, (2, 0, 0, 0, []), 55), (55, (0, 5, 0, 0, []), 56), (56, (37, 0, 0, 0, []), 58), (58, (62, 0, 2, 6, []), 61), (61, (2, 0, 0, 0, []), 62), (62, (0, 5, 0, 0, []), 63), (63, (37, 0, 0, 0, []), 65), (65, (62, 0, 2, 7, []), 68), (68, (2, 0, 0, 0, []), 69), (69, (0, 10, 0, 0, []), 71), (71, (37, 0, 0, 0, []), 73), (73, (62, 0, 2, 8, []), 76), (76, (2, 0, 0, 0, []), 77), (77, (0, 5, 0, 0, []), 78), (78, (0, 5, 0, 0, []), 79), (79, (40, 0, 0, 0, []), 83), (83, (62, 0, 2, 9, []), 86), (86, (2, 0, 0, 0, []), 87), (87, (0, 5, 0, 0, []), 88), (88, (37, 0, 0, 0, []), 90), (90, (62, 0, 2, 10, []), 93), (93, (2, 0, 0, 0, []), 94), (94, (0, 0, 0, 0, []), 95), (95, (16, 0, 2, 11, []), 98), (98, (2, 0, 0, 0, []), 99), (99, (0, 0, 0, 0, []), 100), (100, (16, 0, 2, 12, []), 103), (103, (2, 0, 0, 0, []), 104), (104, (0, 0, 0, 0, []), 105), (105, (16, 0, 2, 13, []), 108), (108, (2, 0, 0, 0, []), 109), (109, (0, 0, 0, 0, []), 110), (110, (16, 0, 2, 14, []), 113), (113, (2, 0, 0, 0, []), 114), (114, (0, 0, 0, 0, []), 115), (115, (16, 0, 2, 15, []), 118), (118, (2, 0, 0, 0, []), 119), (119, (49, 0, 0, 0, []), 120), (120, (16, 1, 2, 16, []), 123), (123, (28, 0, 0, 0, []), 124)]
def mj_c12 : List (Nat × mj_MI × Nat) := [(0, (2, 0, 0, 0, []), 1), (1, (2, 0, 1, 0, []), 2), (2, (32, 0, 21, 0, []), 5), (5, (2, 0, 0, 0, []), 6), (6, (2, 0, 1, 0, []), 7), (7, (15, 0, 5, 5, []), 10), (10, (0, 0, 0, 0, []), 11), (11, (17, 0, 0, 0, []), 12), (12, (32, 0, 22, 0, []), 15), (15, (2, 0, 0, 0, []), 16), (16, (2, 0, 1, 0, []), 17), (17, (15, 0, 5, 5, []), 20), (20, (0, 1, 0, 0, []), 21), (21, (17, 0, 0, 0, []), 22), (22, (32, 0, 24, 0, []), 25), (25, (2, 0, 0, 0, []), 26), (26, (2, 0, 1, 0, []), 27), (27, (15, 0, 5, 5, []), 30), (30, (0, 3, 0, 0, []), 31), (31, (17, 0, 0, 0, []), 32), (32, (32, 0, 26, 0, []), 35), (35, (0, 0, 0, 0, []), 36), (36, (4, 0, 2, 0, []), 37), (37, (1, 0, 2, 0, []), 38), (38, (2, 0, 0, 0, []), 39), (39, (15, 0, 2, 1, []), 42), (42, (15, 0, 1, 3, []), 45), (45, (25, 0, 64, 3, []), 48), (48, (2, 0, 0, 0, []), 49), (49, (1, 0, 2, 0, []), 50), (50, (32, 0, 28, 0, []), 53), (53, (2, 0, 0, 0, []), 54), (54, (1, 0, 2, 0, []), 55), (55, (32, 0, 29, 0, []), 58), (58, (7, 1, 2, 0, []), 61), (61, (26, 0, 37, 0, []), 64), (64, (2, 0, 0, 0, []), 65), (65, (2, 0, 1, 0, []), 66), (66, (32, 0, 30, 0, []), 69), (69, (28, 0, 0, 0, []), 70)]
def mj_c13 : List (Nat × mj_MI × Nat) := [(0, (2, 0, 0, 0, []), 1), (1, (15, 0, 2, 1, []), 4), (4, (15, 0, 1, 2, []), 7), (7, (2, 0, 0, 0, []), 8), (8, (15, 0, 2, 4, []), 11), (11, (1, 0, 1, 0, []), 12), (12, (17, 0, 0, 0, []), 13), (13, (17, 0, 0, 0, []), 14), (14, (29, 0, 0, 0, []), 15)]
def mj_c14 : List (Nat × mj_MI × Nat) := [(0, (2, 0, 0, 0, []), 1), (1, (15, 0, 2, 1, []), 4), (4, (2, 0, 1, 0, []), 5), (5, (1, 0, 2, 0, []), 6), (6, (32, 0, 8, 0, []), 9), (9, (29, 0, 0, 0, []), 10)]
def mj_c15 : List (Nat × mj_MI × Nat) := [(0, (0, 0, 0, 0, []), 1), (1, (4, 0, 1, 0, []), 2), (2, (0, 0, 0, 0, []), 3), (3, (4, 0, 2, 0, []), 4), (4, (1, 0, 2, 0, []), 5), (5, (2, 0, 0, 0, []), 6), (6, (15, 0, 2, 1, []), 9), (9, (15, 0, 1, 3, []), 12), (12, (25, 0, 30, 3, []), 15), (15, (1, 0, 1, 0, []), 16), (16, (2, 0, 0, 0, []), 17), (17, (15, 0, 2, 7, []), 20), (20, (1, 0, 2, 0, []), 21), (21, (17, 0, 0, 0, []), 22), (22, (8, 0, 0, 0, []), 23), (23, (4, 0, 1, 0, []), 24), (24, (7, 1, 2, 0, []), 27), (27, (26, 0, 4, 0, []), 30), (30, (1, 0, 1, 0, []), 31), (31, (29, 0, 0, 0, []), 32)]
def mj_c16 : List (Nat × mj_MI × Nat) := [(0, (0, 0, 0, 0, []), 1), (1, (4, 0, 1, 0, []), 2), (2, (0, 0, 0, 0, []), 3), (3, (4, 0, 2, 0, []), 4), (4, (1, 0, 2, 0, []), 5), (5, (2, 0, 0, 0, []), 6), (6, (15, 0, 2, 1, []), 9), (9, (15, 0, 1, 3, []), 12), (12, (25, 0, 32, 3, []), 15), (15, (2, 0, 0, 0, []), 16), (16, (1, 0, 2, 0, []), 17), (17, (32, 0, 32, 0, []), 20), (20, (24, 0, 26, 0, []), 23), (23, (7, 1, 1, 0, []), 26), (26, (7, 1, 2, 0, []), 29), (29, (26, 0, 4, 0, []), 32), (32, (1, 0, 1, 0, []), 33), (33, (29, 0, 0, 0, []), 34)]
def mj_c17 : List (Nat × mj_MI × Nat) := [(0, (0, 0, 0, 0, []), 1), (1, (4, 0, 1, 0, []), 2), (2, (0, 0, 0, 0, []), 3), (3, (4, 0, 2, 0, []), 4), (4, (1, 0, 2, 0, []), 5), (5, (2, 0, 0, 0, []), 6), (6, (15, 0, 2, 11, []), 9), (9, (25, 0, 50, 3, []), 12), (12, (0, 0, 0, 0, []), 13), (13, (4, 0, 3, 0, []), 14), (14, (1, 0, 3, 0, []), 15), (15, (1, 0, 2, 0, []), 16), (16, (25, 0, 44, 4, []), 19), (19, (1, 0, 1, 0, []), 20), (20, (2, 0, 0, 0, []), 21), (21, (15, 0, 2, 9, []), 24), (24, (1, 0, 3, 0, []), 25), (25, (21, 0, 0, 0, []), 26), (26, (1, 0, 2, 0, []), 27), (27, (17, 0, 0, 0, []), 28), (28, (24, 0, 35, 5, []), 31), (31, (0, 1, 0, 0, []), 32), (32, (26, 0, 36, 0, []), 35), (35, (0, 0, 0, 0, []), 36), (36, (8, 0, 0, 0, []), 37), (37, (4, 0, 1, 0, []), 38), (38, (7, 1, 3, 0, []), 41), (41, (26, 0, 14, 0, []), 44), (44, (7, 1, 2, 0, []), 47), (47, (26, 0, 4, 0, []), 50), (50, (1, 0, 1, 0, []), 51), (51, (29, 0, 0, 0, []), 52)]
def mj_c18 : List (Nat × mj_MI × Nat) := [(0, (0, 0, 0, 0, []), 1), (1, (4, 0, 3, 0, []), 2), (2, (0, 0, 0, 0, []), 3), (3, (4, 0, 4, 0, []), 5), (5, (1, 0, 4, 0, []), 7), (7, (2, 0, 0, 0, []), 8), (8, (15, 0, 2, 11, []), 11), (11, (25, 0, 105, 3, []), 14), (14, (0, 0, 0, 0, []), 15), (15, (4, 0, 5, 0, []), 17), (17, (1, 0, 5, 0, []), 19), (19, (1, 0, 4, 0, []), 21), (21, (25, 0, 99, 4, []), 24), (24, (2, 0, 0, 0, []), 25), (25, (15, 0, 2, 9, []), 28), (28, (1, 0, 5, 0, []), 30), (30, (21, 0, 0, 0, []), 31), (31, (1, 0, 4, 0, []), 33), (33, (17, 0, 0, 0, []), 34), (34, (24, 0, 72, 5, []), 37), (37, (1, 0, 3, 0, []), 38), (38, (1, 0, 1, 0, []), 39), (39, (25, 0, 72, 1, []), 42), (42, (1, 0, 2, 0, []), 43), (43, (24, 0, 51, 1, []), 46), (46, (1, 0, 5, 0, []), 48), (48, (26, 0, 71, 0, []), 51), (51, (1, 0, 2, 0, []), 52), (52, (0, 1, 0, 0, []), 53), (53, (25, 0, 61, 1, []), 56), (56, (1, 0, 4, 0, []), 58), (58, (26, 0, 71, 0, []), 61), (61, (2, 0, 0, 0, []), 62), (62, (15, 0, 2, 9, []), 65), (65, (1, 0, 5, 0, []), 67), (67, (21, 0, 0, 0, []), 68), (68, (1, 0, 4, 0, []), 70), (70, (17, 0, 0, 0, []), 71), (71, (29, 0, 0, 0, []), 72), (72, (1, 0, 3, 0, []), 73), (73, (2, 0, 0, 0, []), 74), (74, (15, 0, 2, 9, []), 77), (77, (1, 0, 5, 0, []), 79), (79, (21, 0, 0, 0, []), 80), (80, (1, 0, 4, 0, []), 82), (82, (17, 0, 0, 0, []), 83), (83, (24, 0, 90, 5, []), 86), (86, (0, 1, 0, 0, []), 87), (87, (26, 0, 91, 0, []), 90), (90, (0, 0, 0, 0, []), 91), (91, (8, 0, 0, 0, []), 92), (92, (4, 0, 3, 0, []), 93), (93, (7, 1, 5, 0, []), 96), (96, (26, 0, 17, 0, []), 99), (99, (7, 1, 4, 0, []), 102), (102, (26, 0, 5, 0, []), 105), (105, (0, (-1), 0, 0, []), 106), (106, (29, 0, 0, 0, []), 107)]
def mj_c19 : List (Nat × mj_MI × Nat) := [(0, (0, 0, 0, 0, []), 1), (1, (4, 0, 3, 0, []), 2), (2, (0, 0, 0, 0, []), 3), (3, (4, 0, 4, 0, []), 5), (5, (1, 0, 4, 0, []), 7), (7, (2, 0, 1, 0, []), 8), (8, (15, 0, 5, 7, []), 11), (11, (25, 0, 34, 3, []), 14), (14, (2, 0, 0, 0, []), 15), (15, (2, 0, 1, 0, []), 16), (16, (1, 0, 4, 0, []), 18), (18, (1, 0, 2, 0, []), 19), (19, (32, 0, 31, 0, []), 22), (22, (24, 0, 28, 0, []), 25), (25, (7, 1, 3, 0, []), 28), (28, (7, 1, 4, 0, []), 31), (31, (26, 0, 5, 0, []), 34), (34, (1, 0, 3, 0, []), 35), (35, (29, 0, 0, 0, []), 36)]
def mj_c20 : List (Nat × mj_MI × Nat) := [(0, (0, 0, 0, 0, []), 1), (1, (4, 0, 2, 0, []), 2), (2, (1, 0, 2, 0, []), 3), (3, (2, 0, 1, 0, []), 4), (4, (15, 0, 3, 2, []), 7), (7, (25, 0, 47, 3, []), 10), (10, (2, 0, 1, 0, []), 11), (11, (15, 0, 3, 0, []), 14), (14, (1, 0, 2, 0, []), 15), (15, (17, 0, 0, 0, []), 16), (16, (4, 0, 3, 0, []), 17), (17, (1, 0, 3, 0, []), 18), (18, (2, 0, 0, 0, []), 19), (19, (15, 0, 2, 11, []), 22), (22, (25, 0, 41, 3, []), 25), (25, (2, 0, 0, 0, []), 26), (26, (1, 0, 3, 0, []), 27), (27, (32, 0, 13, 0, []), 30), (30, (2, 0, 1, 0, []), 31), (31, (15, 0, 3, 1, []), 34), (34, (1, 0, 2, 0, []), 35), (35, (17, 0, 0, 0, []), 36), (36, (25, 0, 41, 0, []), 39), (39, (1, 0, 2, 0, []), 40), (40, (29, 0, 0, 0, []), 41), (41, (7, 1, 2, 0, []), 44), (44, (26, 0, 2, 0, []), 47), (47, (0, (-5), 0, 0, []), 49), (49, (29, 0, 0, 0, []), 50)]
def mj_c21 : List (Nat × mj_MI × Nat) := [(0, (2, 0, 0, 0, []), 1), (1, (2, 0, 1, 0, []), 2), (2, (15, 0, 5, 6, []), 5), (5, (16, 0, 2, 11, []), 8), (8, (2, 0, 0, 0, []), 9), (9, (2, 0, 1, 0, []), 10), (10, (15, 0, 5, 5, []), 13), (13, (0, 2, 0, 0, []), 14), (14, (17, 0, 0, 0, []), 15), (15, (16, 0, 2, 12, []), 18), (18, (2, 0, 0, 0, []), 19), (19, (0, 0, 0, 0, []), 20), (20, (16, 0, 2, 13, []), 23), (23, (2, 0, 0, 0, []), 24), (24, (0, 0, 0, 0, []), 25), (25, (16, 0, 2, 14, []), 28), (28, (2, 0, 0, 0, []), 29), (29, (0, 0, 0, 0, []), 30), (30, (16, 0, 2, 15, []), 33), (33, (0, 0, 0, 0, []), 34), (34, (4, 0, 2, 0, []), 35), (35, (1, 0, 2, 0, []), 36), (36, (2, 0, 0, 0, []), 37), (37, (15, 0, 2, 11, []), 40), (40, (25, 0, 68, 3, []), 43), (43, (2, 0, 0, 0, []), 44), (44, (15, 0, 2, 2, []), 47), (47, (1, 0, 2, 0, []), 48), (48, (2, 0, 1, 0, []), 49), (49, (15, 0, 5, 0, []), 52), (52, (1, 0, 2, 0, []), 53), (53, (17, 0, 0, 0, []), 54), (54, (18, 0, 0, 0, []), 55), (55, (2, 0, 0, 0, []), 56), (56, (15, 0, 2, 3, []), 59), (59, (1, 0, 2, 0, []), 60), (60, (0, 0, 0, 0, []), 61), (61, (18, 0, 0, 0, []), 62), (62, (7, 1, 2, 0, []), 65), (65, (26, 0, 35, 0, []), 68), (68, (2, 0, 0, 0, []), 69), (69, (15, 0, 2, 0, []), 72), (72, (2, 0, 1, 0, []), 73), (73, (32, 0, 1, 0, []), 76), (76, (2, 0, 0, 0, []), 77), (77, (15, 0, 2, 1, []), 80), (80, (2, 0, 0, 0, []), 81), (81, (15, 0, 2, 0, []), 84), (84, (2, 0, 0, 0, []), 85), (85, (15, 0, 2, 2, []), 88), (88, (2, 0, 0, 0, []), 89), (89, (15, 0, 2, 11, []), 92), (92, (32, 0, 7, 0, []), 95), (95, (28, 0, 0, 0, []), 96)]
def mj_c22 : List (Nat × mj_MI × Nat) := [(0, (0, 0, 0, 0, []), 1), (1, (4, 0, 2, 0, []), 2), (2, (1, 0, 2, 0, []), 3), (3, (0, 10000, 0, 0, []), 6), (6, (25, 0, 75, 3, []), 9), (9, (2, 0, 0, 0, []), 10), (10, (1, 0, 1, 0, []), 11), (11, (32, 0, 23, 0, []), 14), (14, (4, 0, 3, 0, []), 15), (15, (1, 0, 3, 0, []), 16), (16, (24, 0, 20, 3, []), 19), (19, (28, 0, 0, 0, []), 20), (20, (2, 0, 0, 0, []), 21), (21, (15, 0, 2, 2, []), 24), (24, (1, 0, 3, 0, []), 25), (25, (42, 0, 0, 0, []), 26), (26, (17, 0, 0, 0, []), 27), (27, (0, 1, 0, 0, []), 28), (28, (9, 0, 0, 0, []), 29), (29, (18, 0, 0, 0, []), 30), (30, (2, 0, 0, 0, []), 31), (31, (41, 0, 0, 0, []), 32), (32, (15, 0, 2, 12, []), 35), (35, (0, 1, 0, 0, []), 36), (36, (8, 0, 0, 0, []), 37), (37, (16, 0, 2, 12, []), 40), (40, (2, 0, 0, 0, []), 41), (41, (41, 0, 0, 0, []), 42), (42, (15, 0, 2, 13, []), 45), (45, (0, 1, 0, 0, []), 46), (46, (8, 0, 0, 0, []), 47), (47, (16, 0, 2, 13, []), 50), (50, (2, 0, 0, 0, []), 51), (51, (15, 0, 2, 1, []), 54), (54, (2, 0, 0, 0, []), 55), (55, (15, 0, 2, 0, []), 58), (58, (2, 0, 0, 0, []), 59), (59, (15, 0, 2, 2, []), 62), (62, (2, 0, 0, 0, []), 63), (63, (15, 0, 2, 11, []), 66), (66, (32, 0, 7, 0, []), 69), (69, (7, 1, 2, 0, []), 72), (72, (26, 0, 2, 0, []), 75), (75, (28, 0, 0, 0, []), 76)]
def mj_c23 : List (Nat × mj_MI × Nat) := [(0, (0, 0, 0, 0, []), 1), (1, (4, 0, 2, 0, []), 2), (2, (1, 0, 2, 0, []), 3), (3, (2, 0, 0, 0, []), 4), (4, (15, 0, 2, 1, []), 7), (7, (15, 0, 1, 3, []), 10), (10, (25, 0, 72, 3, []), 13), (13, (2, 0, 0, 0, []), 14), (14, (15, 0, 2, 1, []), 17), (17, (15, 0, 1, 1, []), 20), (20, (1, 0, 2, 0, []), 21), (21, (17, 0, 0, 0, []), 22), (22, (4, 0, 3, 0, []), 23), (23, (1, 0, 3, 0, []), 24), (24, (2, 0, 0, 0, []), 25), (25, (15, 0, 2, 1, []), 28), (28, (15, 0, 1, 0, []), 31), (31, (1, 0, 2, 0, []), 32), (32, (17, 0, 0, 0, []), 33), (33, (25, 0, 66, 2, []), 36), (36, (2, 0, 0, 0, []), 37), (37, (15, 0, 2, 1, []), 40), (40, (15, 0, 1, 2, []), 43), (43, (1, 0, 2, 0, []), 44), (44, (17, 0, 0, 0, []), 45), (45, (1, 0, 1, 0, []), 46), (46, (25, 0, 66, 3, []), 49), (49, (2, 0, 0, 0, []), 50), (50, (15, 0, 2, 2, []), 53), (53, (1, 0, 3, 0, []), 54), (54, (17, 0, 0, 0, []), 55), (55, (24, 0, 60, 5, []), 58), (58, (1, 0, 3, 0, []), 59), (59, (29, 0, 0, 0, []), 60), (60, (7, (-1), 3, 0, []), 63), (63, (26, 0, 23, 0, []), 66), (66, (7, 1, 2, 0, []), 69), (69, (26, 0, 2, 0, []), 72), (72, (0, (-1), 0, 0, []), 73), (73, (29, 0, 0, 0, []), 74)]
def mj_c24 : List (Nat × mj_MI × Nat) := [(0, (0, 0, 0, 0, []), 1), (1, (4, 0, 2, 0, []), 2), (2, (1, 0, 2, 0, []), 3), (3, (0, 10000, 0, 0, []), 6), (6, (25, 0, 82, 3, []), 9), (9, (2, 0, 0, 0, []), 10), (10, (15, 0, 2, 12, []), 13), (13, (24, 0, 82, 5, []), 16), (16, (2, 0, 0, 0, []), 17), (17, (1, 0, 1, 0, []), 18), (18, (32, 0, 25, 0, []), 21), (21, (4, 0, 3, 0, []), 22), (22, (1, 0, 3, 0, []), 23), (23, (24, 0, 27, 3, []), 26), (26, (28, 0, 0, 0, []), 27), (27, (2, 0, 0, 0, []), 28), (28, (15, 0, 2, 2, []), 31), (31, (1, 0, 3, 0, []), 32), (32, (42, 0, 0, 0, []), 33), (33, (17, 0, 0, 0, []), 34), (34, (0, 1, 0, 0, []), 35), (35, (8, 0, 0, 0, []), 36), (36, (18, 0, 0, 0, []), 37), (37, (2, 0, 0, 0, []), 38), (38, (41, 0, 0, 0, []), 39), (39, (15, 0, 2, 12, []), 42), (42, (0, 1, 0, 0, []), 43), (43, (9, 0, 0, 0, []), 44), (44, (16, 0, 2, 12, []), 47), (47, (2, 0, 0, 0, []), 48), (48, (41, 0, 0, 0, []), 49), (49, (15, 0, 2, 14, []), 52), (52, (0, 1, 0, 0, []), 53), (53, (8, 0, 0, 0, []), 54), (54, (16, 0, 2, 14, []), 57), (57, (2, 0, 0, 0, []), 58), (58, (15, 0, 2, 1, []), 61), (61, (2, 0, 0, 0, []), 62), (62, (15, 0, 2, 0, []), 65), (65, (2, 0, 0, 0, []), 66), (66, (15, 0, 2, 2, []), 69), (69, (2, 0, 0, 0, []), 70), (70, (15, 0, 2, 11, []), 73), (73, (32, 0, 7, 0, []), 76), (76, (7, 1, 2, 0, []), 79), (79, (26, 0, 2, 0, []), 82), (82, (28, 0, 0, 0, []), 83)]
def mj_c25 : List (Nat × mj_MI × Nat) := [(0, (0, 0, 0, 0, []), 1), (1, (4, 0, 2, 0, []), 2), (2, (1, 0, 2, 0, []), 3), (3, (2, 0, 0, 0, []), 4), (4, (15, 0, 2, 1, []), 7), (7, (15, 0, 1, 3, []), 10), (10, (25, 0, 42, 3, []), 13), (13, (2, 0, 0, 0, []), 14), (14, (15, 0, 2, 1, []), 17), (17, (15, 0, 1, 2, []), 20), (20, (1, 0, 2, 0, []), 21), (21, (17, 0, 0, 0, []), 22), (22, (1, 0, 1, 0, []), 23), (23, (25, 0, 36, 5, []), 26), (26, (2, 0, 0, 0, []), 27), (27, (15, 0, 2, 1, []), 30), (30, (15, 0, 1, 0, []), 33), (33, (1, 0, 2, 0, []), 34), (34, (17, 0, 0, 0, []), 35), (35, (29, 0, 0, 0, []), 36), (36, (7, 1, 2, 0, []), 39), (39, (26, 0, 2, 0, []), 42), (42, (0, (-1), 0, 0, []), 43), (43, (29, 0, 0, 0, []), 44)]
def mj_c26 : List (Nat × mj_MI × Nat) := [(0, (0, 0, 0, 0, []), 1), (1, (4, 0, 2, 0, []), 2), (2, (1, 0, 2, 0, []), 3), (3, (0, 10000, 0, 0, []), 6), (6, (25, 0, 108, 3, []), 9), (9, (2, 0, 0, 0, []), 10), (10, (1, 0, 1, 0, []), 11), (11, (32, 0, 27, 0, []), 14), (14, (4, 0, 3, 0, []), 15), (15, (1, 0, 3, 0, []), 16), (16, (24, 0, 20, 3, []), 19), (19, (28, 0, 0, 0, []), 20), (20, (2, 0, 0, 0, []), 21), (21, (15, 0, 2, 1, []), 24), (24, (15, 0, 1, 1, []), 27), (27, (1, 0, 3, 0, []), 28), (28, (17, 0, 0, 0, []), 29), (29, (4, 0, 4, 0, []), 31), (31, (2, 0, 0, 0, []), 32), (32, (15, 0, 2, 2, []), 35), (35, (2, 0, 0, 0, []), 36), (36, (15, 0, 2, 1, []), 39), (39, (15, 0, 1, 0, []), 42), (42, (1, 0, 3, 0, []), 43), (43, (0, 1, 0, 0, []), 44), (44, (8, 0, 0, 0, []), 45), (45, (17, 0, 0, 0, []), 46), (46, (42, 0, 0, 0, []), 47), (47, (17, 0, 0, 0, []), 48), (48, (0, 1, 0, 0, []), 49), (49, (9, 0, 0, 0, []), 50), (50, (18, 0, 0, 0, []), 51), (51, (2, 0, 0, 0, []), 52), (52, (15, 0, 2, 2, []), 55), (55, (1, 0, 4, 0, []), 57), (57, (42, 0, 0, 0, []), 58), (58, (17, 0, 0, 0, []), 59), (59, (0, 1, 0, 0, []), 60), (60, (8, 0, 0, 0, []), 61), (61, (18, 0, 0, 0, []), 62), (62, (2, 0, 0, 0, []), 63), (63, (15, 0, 2, 3, []), 66), (66, (1, 0, 4, 0, []), 68), (68, (42, 0, 0, 0, []), 69), (69, (17, 0, 0, 0, []), 70), (70, (0, 1, 0, 0, []), 71), (71, (8, 0, 0, 0, []), 72), (72, (18, 0, 0, 0, []), 73), (73, (2, 0, 0, 0, []), 74), (74, (41, 0, 0, 0, []), 75), (75, (15, 0, 2, 15, []), 78), (78, (0, 1, 0, 0, []), 79), (79, (8, 0, 0, 0, []), 80), (80, (16, 0, 2, 15, []), 83), (83, (2, 0, 0, 0, []), 84), (84, (15, 0, 2, 1, []), 87), (87, (2, 0, 0, 0, []), 88), (88, (15, 0, 2, 0, []), 91), (91, (2, 0, 0, 0, []), 92), (92, (15, 0, 2, 2, []), 95), (95, (2, 0, 0, 0, []), 96), (96, (15, 0, 2, 11, []), 99), (99, (32, 0, 7, 0, []), 102), (102, (7, 1, 2, 0, []), 105), (105, (26, 0, 2, 0, []), 108), (108, (28, 0, 0, 0, []), 109)]
def mj_c27 : List (Nat × mj_MI × Nat) := [(0, (0, 0, 0, 0, []), 1), (1, (4, 0, 2, 0, []), 2), (2, (1, 0, 2, 0, []), 3), (3, (0, 1, 0, 0, []), 4), (4, (8, 0, 0, 0, []), 5), (5, (2, 0, 0, 0, []), 6), (6, (15, 0, 2, 1, []), 9), (9, (15, 0, 1, 3, []), 12), (12, (25, 0, 93, 3, []), 15), (15, (2, 0, 0, 0, []), 16), (16, (15, 0, 2, 1, []), 19), (19, (15, 0, 1, 2, []), 22), (22, (1, 0, 2, 0, []), 23), (23, (17, 0, 0, 0, []), 24), (24, (2, 0, 0, 0, []), 25), (25, (15, 0, 2, 1, []), 28), (28, (15, 0, 1, 2, []), 31), (31, (1, 0, 2, 0, []), 32), (32, (0, 1, 0, 0, []), 33), (33, (8, 0, 0, 0, []), 34), (34, (17, 0, 0, 0, []), 35), (35, (25, 0, 42, 5, []), 38), (38, (0, 1, 0, 0, []), 39), (39, (26, 0, 43, 0, []), 42), (42, (0, 0, 0, 0, []), 43), (43, (4, 0, 3, 0, []), 44), (44, (1, 0, 3, 0, []), 45), (45, (24, 0, 87, 0, []), 48), (48, (2, 0, 0, 0, []), 49), (49, (15, 0, 2, 3, []), 52), (52, (2, 0, 0, 0, []), 53), (53, (15, 0, 2, 1, []), 56), (56, (15, 0, 1, 1, []), 59), (59, (1, 0, 2, 0, []), 60), (60, (17, 0, 0, 0, []), 61), (61, (17, 0, 0, 0, []), 62), (62, (1, 0, 1, 0, []), 63), (63, (25, 0, 87, 3, []), 66), (66, (2, 0, 0, 0, []), 67), (67, (15, 0, 2, 2, []), 70), (70, (2, 0, 0, 0, []), 71), (71, (15, 0, 2, 1, []), 74), (74, (15, 0, 1, 0, []), 77), (77, (1, 0, 2, 0, []), 78), (78, (0, 1, 0, 0, []), 79), (79, (8, 0, 0, 0, []), 80), (80, (17, 0, 0, 0, []), 81), (81, (17, 0, 0, 0, []), 82), (82, (24, 0, 87, 5, []), 85), (85, (1, 0, 2, 0, []), 86), (86, (29, 0, 0, 0, []), 87), (87, (7, 1, 2, 0, []), 90), (90, (26, 0, 2, 0, []), 93), (93, (0, (-1), 0, 0, []), 94), (94, (29, 0, 0, 0, []), 95)]
def mj_c28 : List (Nat × mj_MI × Nat) := [(0, (2, 0, 0, 0, []), 1), (1, (15, 0, 2, 1, []), 4), (4, (15, 0, 1, 0, []), 7), (7, (1, 0, 1, 0, []), 8), (8, (17, 0, 0, 0, []), 9), (9, (4, 0, 2, 0, []), 10), (10, (2, 0, 0, 0, []), 11), (11, (15, 0, 2, 1, []), 14), (14, (15, 0, 1, 1, []), 17), (17, (1, 0, 1, 0, []), 18), (18, (17, 0, 0, 0, []), 19), (19, (4, 0, 3, 0, []), 20), (20, (2, 0, 0, 0, []), 21), (21, (15, 0, 2, 1, []), 24), (24, (15, 0, 1, 2, []), 27), (27, (1, 0, 1, 0, []), 28), (28, (17, 0, 0, 0, []), 29), (29, (4, 0, 4, 0, []), 31), (31, (0, 0, 0, 0, []), 32), (32, (2, 0, 0, 0, []), 33), (33, (15, 0, 2, 0, []), 36), (36, (1, 0, 2, 0, []), 37), (37, (1, 0, 3, 0, []), 38), (38, (1, 0, 4, 0, []), 40), (40, (32, 0, 3, 0, []), 43), (43, (2, 0, 0, 0, []), 44), (44, (15, 0, 2, 1, []), 47), (47, (2, 0, 0, 0, []), 48), (48, (15, 0, 2, 2, []), 51), (51, (1, 0, 1, 0, []), 52), (52, (32, 0, 8, 0, []), 55), (55, (9, 0, 0, 0, []), 56), (56, (33, 0, 0, 0, []), 59), (59, (4, 0, 5, 0, []), 61), (61, (0, 0, 0, 0, []), 62), (62, (4, 0, 6, 0, []), 64), (64, (1, 0, 2, 0, []), 65), (65, (4, 0, 7, 0, []), 67), (67, (1, 0, 7, 0, []), 69), (69, (1, 0, 3, 0, []), 70), (70, (25, 0, 178, 4, []), 73), (73, (2, 0, 0, 0, []), 74), (74, (15, 0, 2, 0, []), 77), (77, (1, 0, 7, 0, []), 79), (79, (1, 0, 7, 0, []), 81), (81, (1, 0, 4, 0, []), 83), (83, (32, 0, 3, 0, []), 86), (86, (4, 0, 8, 0, []), 88), (88, (2, 0, 0, 0, []), 89), (89, (15, 0, 2, 4, []), 92), (92, (1, 0, 7, 0, []), 94), (94, (1, 0, 1, 0, []), 95), (95, (18, 0, 0, 0, []), 96), (96, (2, 0, 0, 0, []), 97), (97, (15, 0, 2, 5, []), 100), (100, (1, 0, 7, 0, []), 102), (102, (2, 0, 0, 0, []), 103), (103, (15, 0, 2, 0, []), 106), (106, (1, 0, 7, 0, []), 108), (108, (1, 0, 7, 0, []), 110), (110, (1, 0, 4, 0, []), 112), (112, (32, 0, 2, 0, []), 115), (115, (1, 0, 8, 0, []), 117), (117, (1, 0, 5, 0, []), 119), (119, (9, 0, 0, 0, []), 120), (120, (33, 0, 0, 0, []), 123), (123, (18, 0, 0, 0, []), 124), (124, (1, 0, 5, 0, []), 126), (126, (1, 0, 8, 0, []), 128), (128, (2, 0, 0, 0, []), 129), (129, (15, 0, 2, 5, []), 132), (132, (1, 0, 7, 0, []), 134), (134, (17, 0, 0, 0, []), 135), (135, (9, 0, 0, 0, []), 136), (136, (9, 0, 0, 0, []), 137), (137, (4, 0, 5, 0, []), 139), (139, (1, 0, 6, 0, []), 141), (141, (2, 0, 0, 0, []), 142), (142, (15, 0, 2, 2, []), 145), (145, (1, 0, 7, 0, []), 147), (147, (17, 0, 0, 0, []), 148), (148, (2, 0, 0, 0, []), 149), (149, (15, 0, 2, 5, []), 152), (152, (1, 0, 7, 0, []), 154), (154, (17, 0, 0, 0, []), 155), (155, (9, 0, 0, 0, []), 156), (156, (8, 0, 0, 0, []), 157), (157, (4, 0, 6, 0, []), 159), (159, (2, 0, 0, 0, []), 160), (160, (15, 0, 2, 6, []), 163), (163, (1, 0, 7, 0, []), 165), (165, (0, 0, 0, 0, []), 166), (166, (1, 0, 6, 0, []), 168), (168, (33, 0, 0, 0, []), 171), (171, (18, 0, 0, 0, []), 172), (172, (7, 1, 7, 0, []), 175), (175, (26, 0, 67, 0, []), 178), (178, (2, 0, 0, 0, []), 179), (179, (15, 0, 2, 7, []), 182), (182, (1, 0, 1, 0, []), 183), (183, (0, 0, 0, 0, []), 184), (184, (1, 0, 6, 0, []), 186), (186, (13, 0, 0, 0, []), 187), (187, (33, 0, 0, 0, []), 190), (190, (18, 0, 0, 0, []), 191), (191, (28, 0, 0, 0, []), 192)]
def mj_c29 : List (Nat × mj_MI × Nat) := [(0, (2, 0, 0, 0, []), 1), (1, (15, 0, 2, 1, []), 4), (4, (15, 0, 1, 0, []), 7), (7, (1, 0, 1, 0, []), 8), (8, (17, 0, 0, 0, []), 9), (9, (4, 0, 2, 0, []), 10), (10, (1, 0, 2, 0, []), 11), (11, (2, 0, 0, 0, []), 12), (12, (15, 0, 2, 1, []), 15), (15, (15, 0, 1, 1, []), 18), (18, (1, 0, 1, 0, []), 19), (19, (17, 0, 0, 0, []), 20), (20, (25, 0, 122, 4, []), 23), (23, (2, 0, 0, 0, []), 24), (24, (15, 0, 2, 10, []), 27), (27, (1, 0, 2, 0, []), 28), (28, (2, 0, 0, 0, []), 29), (29, (15, 0, 2, 2, []), 32), (32, (1, 0, 2, 0, []), 33), (33, (17, 0, 0, 0, []), 34), (34, (18, 0, 0, 0, []), 35), (35, (2, 0, 0, 0, []), 36), (36, (15, 0, 2, 5, []), 39), (39, (1, 0, 2, 0, []), 40), (40, (17, 0, 0, 0, []), 41), (41, (4, 0, 3, 0, []), 42), (42, (0, 0, 0, 0, []), 43), (43, (4, 0, 4, 0, []), 45), (45, (1, 0, 4, 0, []), 47), (47, (1, 0, 2, 0, []), 48), (48, (25, 0, 116, 4, []), 51), (51, (1, 0, 4, 0, []), 53), (53, (2, 0, 0, 0, []), 54), (54, (15, 0, 2, 1, []), 57), (57, (15, 0, 1, 0, []), 60), (60, (1, 0, 1, 0, []), 61), (61, (17, 0, 0, 0, []), 62), (62, (25, 0, 69, 3, []), 65), (65, (0, 0, 0, 0, []), 66), (66, (26, 0, 80, 0, []), 69), (69, (1, 0, 3, 0, []), 70), (70, (2, 0, 0, 0, []), 71), (71, (15, 0, 2, 10, []), 74), (74, (1, 0, 4, 0, []), 76), (76, (17, 0, 0, 0, []), 77), (77, (34, 0, 0, 0, []), 80), (80, (4, 0, 5, 0, []), 82), (82, (2, 0, 0, 0, []), 83), (83, (15, 0, 2, 9, []), 86), (86, (1, 0, 4, 0, []), 88), (88, (21, 0, 0, 0, []), 89), (89, (1, 0, 2, 0, []), 90), (90, (1, 0, 5, 0, []), 92), (92, (18, 0, 0, 0, []), 93), (93, (2, 0, 0, 0, []), 94), (94, (15, 0, 2, 10, []), 97), (97, (1, 0, 4, 0, []), 99), (99, (42, 0, 0, 0, []), 100), (100, (17, 0, 0, 0, []), 101), (101, (1, 0, 5, 0, []), 103), (103, (9, 0, 0, 0, []), 104), (104, (18, 0, 0, 0, []), 105), (105, (1, 0, 3, 0, []), 106), (106, (1, 0, 5, 0, []), 108), (108, (9, 0, 0, 0, []), 109), (109, (4, 0, 3, 0, []), 110), (110, (7, 1, 4, 0, []), 113), (113, (26, 0, 45, 0, []), 116), (116, (7, 1, 2, 0, []), 119), (119, (26, 0, 10, 0, []), 122), (122, (28, 0, 0, 0, []), 123)]
def mj_c30 : List (Nat × mj_MI × Nat) := [(0, (2, 0, 0, 0, []), 1), (1, (49, 20, 0, 0, []), 4), (4, (2, 0, 0, 0, []), 5), (5, (32, 0, 15, 0, []), 8), (8, (45, 0, 0, 0, []), 9), (9, (52, 0, 0, 0, []), 10), (10, (16, 1, 2, 16, []), 13), (13, (0, 0, 0, 0, []), 14), (14, (4, 0, 2, 0, []), 15), (15, (1, 0, 2, 0, []), 16), (16, (2, 0, 1, 0, []), 17), (17, (15, 0, 5, 7, []), 20), (20, (25, 0, 139, 3, []), 23), (23, (2, 0, 1, 0, []), 24), (24, (15, 0, 5, 1, []), 27), (27, (2, 0, 1, 0, []), 28), (28, (15, 0, 5, 2, []), 31), (31, (1, 0, 2, 0, []), 32), (32, (17, 0, 0, 0, []), 33), (33, (17, 0, 0, 0, []), 34), (34, (2, 0, 0, 0, []), 35), (35, (15, 0, 2, 5, []), 38), (38, (2, 0, 1, 0, []), 39), (39, (15, 0, 5, 2, []), 42), (42, (1, 0, 2, 0, []), 43), (43, (17, 0, 0, 0, []), 44), (44, (17, 0, 0, 0, []), 45), (45, (9, 0, 0, 0, []), 46), (46, (4, 0, 3, 0, []), 47), (47, (0, 0, 0, 0, []), 48), (48, (4, 0, 4, 0, []), 50), (50, (1, 0, 4, 0, []), 52), (52, (2, 0, 1, 0, []), 53), (53, (15, 0, 5, 7, []), 56), (56, (25, 0, 89, 3, []), 59), (59, (1, 0, 3, 0, []), 60), (60, (2, 0, 1, 0, []), 61), (61, (1, 0, 4, 0, []), 63), (63, (1, 0, 2, 0, []), 64), (64, (32, 0, 55, 0, []), 67), (67, (24, 0, 80, 0, []), 70), (70, (2, 0, 1, 0, []), 71), (71, (15, 0, 5, 4, []), 74), (74, (1, 0, 4, 0, []), 76), (76, (17, 0, 0, 0, []), 77), (77, (26, 0, 81, 0, []), 80), (80, (0, 0, 0, 0, []), 81), (81, (9, 0, 0, 0, []), 82), (82, (4, 0, 3, 0, []), 83), (83, (7, 1, 4, 0, []), 86), (86, (26, 0, 50, 0, []), 89), (89, (2, 0, 0, 0, []), 90), (90, (15, 0, 2, 8, []), 93), (93, (1, 0, 2, 0, []), 94), (94, (0, 0, 0, 0, []), 95), (95, (1, 0, 3, 0, []), 96), (96, (2, 0, 1, 0, []), 97), (97, (15, 0, 5, 4, []), 100), (100, (1, 0, 2, 0, []), 101), (101, (17, 0, 0, 0, []), 102), (102, (34, 0, 0, 0, []), 105), (105, (33, 0, 0, 0, []), 108), (108, (18, 0, 0, 0, []), 109), (109, (2, 0, 0, 0, []), 110), (110, (41, 0, 0, 0, []), 111), (111, (15, 0, 2, 16, []), 114), (114, (2, 0, 0, 0, []), 115), (115, (15, 0, 2, 8, []), 118), (118, (1, 0, 2, 0, []), 119), (119, (17, 0, 0, 0, []), 120), (120, (45, 0, 0, 0, []), 121), (121, (2, 0, 1, 0, []), 122), (122, (15, 0, 5, 3, []), 125), (125, (1, 0, 2, 0, []), 126), (126, (17, 0, 0, 0, []), 127), (127, (45, 0, 0, 0, []), 128), (128, (52, 0, 0, 0, []), 129), (129, (50, 0, 0, 0, []), 130), (130, (16, 1, 2, 16, []), 133), (133, (7, 1, 2, 0, []), 136), (136, (26, 0, 15, 0, []), 139), (139, (28, 0, 0, 0, []), 140)]
def mj_c31 : List (Nat × mj_MI × Nat) := [(0, (2, 0, 1, 0, []), 1), (1, (15, 0, 5, 4, []), 4), (4, (1, 0, 2, 0, []), 5), (5, (17, 0, 0, 0, []), 6), (6, (2, 0, 0, 0, []), 7), (7, (15, 0, 2, 8, []), 10), (10, (1, 0, 2, 0, []), 11), (11, (17, 0, 0, 0, []), 12), (12, (9, 0, 0, 0, []), 13), (13, (4, 0, 4, 0, []), 15), (15, (2, 0, 1, 0, []), 16), (16, (15, 0, 5, 4, []), 19), (19, (1, 0, 3, 0, []), 20), (20, (17, 0, 0, 0, []), 21), (21, (2, 0, 0, 0, []), 22), (22, (15, 0, 2, 8, []), 25), (25, (1, 0, 3, 0, []), 26), (26, (17, 0, 0, 0, []), 27), (27, (9, 0, 0, 0, []), 28), (28, (4, 0, 5, 0, []), 30), (30, (1, 0, 4, 0, []), 32), (32, (1, 0, 5, 0, []), 34), (34, (25, 0, 50, 0, []), 37), (37, (1, 0, 4, 0, []), 39), (39, (1, 0, 5, 0, []), 41), (41, (25, 0, 48, 5, []), 44), (44, (0, 1, 0, 0, []), 45), (45, (26, 0, 49, 0, []), 48), (48, (0, 0, 0, 0, []), 49), (49, (29, 0, 0, 1, []), 50), (50, (2, 0, 1, 0, []), 51), (51, (15, 0, 5, 3, []), 54), (54, (1, 0, 2, 0, []), 55), (55, (17, 0, 0, 0, []), 56), (56, (2, 0, 1, 0, []), 57), (57, (15, 0, 5, 3, []), 60), (60, (1, 0, 3, 0, []), 61), (61, (17, 0, 0, 0, []), 62), (62, (25, 0, 88, 0, []), 65), (65, (2, 0, 1, 0, []), 66), (66, (15, 0, 5, 3, []), 69), (69, (1, 0, 2, 0, []), 70), (70, (17, 0, 0, 0, []), 71), (71, (2, 0, 1, 0, []), 72), (72, (15, 0, 5, 3, []), 75), (75, (1, 0, 3, 0, []), 76), (76, (17, 0, 0, 0, []), 77), (77, (25, 0, 84, 3, []), 80), (80, (0, 1, 0, 0, []), 81), (81, (26, 0, 98, 0, []), 84), (84, (0, 0, 0, 0, []), 85), (85, (26, 0, 98, 0, []), 88), (88, (1, 0, 2, 0, []), 89), (89, (1, 0, 3, 0, []), 90), (90, (25, 0, 97, 5, []), 93), (93, (0, 1, 0, 0, []), 94), (94, (26, 0, 98, 0, []), 97), (97, (0, 0, 0, 0, []), 98), (98, (29, 0, 0, 1, []), 99)]
def mj_c32 : List (Nat × mj_MI × Nat) := [(0, (0, 0, 0, 0, []), 1), (1, (4, 0, 2, 0, []), 2), (2, (1, 0, 2, 0, []), 3), (3, (1, 0, 1, 0, []), 4), (4, (25, 0, 36, 3, []), 7), (7, (2, 0, 0, 0, []), 8), (8, (15, 0, 2, 1, []), 11), (11, (15, 0, 1, 2, []), 14), (14, (1, 0, 2, 0, []), 15), (15, (17, 0, 0, 0, []), 16), (16, (2, 0, 0, 0, []), 17), (17, (15, 0, 2, 1, []), 20), (20, (15, 0, 1, 2, []), 23), (23, (1, 0, 1, 0, []), 24), (24, (17, 0, 0, 0, []), 25), (25, (25, 0, 30, 1, []), 28), (28, (0, 0, 0, 0, []), 29), (29, (29, 0, 0, 1, []), 30), (30, (7, 1, 2, 0, []), 33), (33, (26, 0, 2, 0, []), 36), (36, (0, 1, 0, 0, []), 37), (37, (29, 0, 0, 1, []), 38)]
def mj_c33 : List (Nat × mj_MI × Nat) := [(0, (2, 0, 0, 0, []), 1), (1, (60, 0, 0, 0, []), 4), (4, (2, 0, 0, 0, []), 5), (5, (0, 0, 0, 0, []), 6), (6, (16, 0, 3, 2, []), 9), (9, (2, 0, 0, 0, []), 10), (10, (1, 0, 1, 0, []), 11), (11, (37, 0, 0, 0, []), 13), (13, (62, 0, 3, 0, []), 16), (16, (2, 0, 0, 0, []), 17), (17, (1, 0, 1, 0, []), 18), (18, (37, 0, 0, 0, []), 20), (20, (62, 0, 3, 1, []), 23), (23, (28, 0, 0, 0, []), 24)]
def mj_c34 : List (Nat × mj_MI × Nat) := [(0, (2, 0, 0, 0, []), 1), (1, (15, 0, 3, 2, []), 4), (4, (2, 0, 0, 0, []), 5), (5, (15, 0, 3, 0, []), 8), (8, (23, 0, 0, 0, []), 9), (9, (25, 0, 15, 2, []), 12), (12, (0, (-4), 0, 0, []), 14), (14, (29, 0, 0, 0, []), 15), (15, (2, 0, 0, 0, []), 16), (16, (15, 0, 3, 0, []), 19), (19, (2, 0, 0, 0, []), 20), (20, (15, 0, 3, 2, []), 23), (23, (1, 0, 1, 0, []), 24), (24, (18, 0, 0, 0, []), 25), (25, (2, 0, 0, 0, []), 26), (26, (15, 0, 3, 1, []), 29), (29, (2, 0, 0, 0, []), 30), (30, (15, 0, 3, 2, []), 33), (33, (1, 0, 2, 0, []), 34), (34, (18, 0, 0, 0, []), 35), (35, (2, 0, 0, 0, []), 36), (36, (41, 0, 0, 0, []), 37), (37, (15, 0, 3, 2, []), 40), (40, (0, 1, 0, 0, []), 41), (41, (8, 0, 0, 0, []), 42), (42, (16, 0, 3, 2, []), 45), (45, (2, 0, 0, 0, []), 46), (46, (15, 0, 3, 2, []), 49), (49, (29, 0, 0, 0, []), 50)]
def mj_c35 : List (Nat × mj_MI × Nat) := [(0, (2, 0, 0, 0, []), 1), (1, (0, 0, 0, 0, []), 2), (2, (16, 0, 3, 2, []), 5), (5, (0, 0, 0, 0, []), 6), (6, (29, 0, 0, 0, []), 7)]
def mj_c36 : List (Nat × mj_MI × Nat) := [(0, (2, 0, 0, 0, []), 1), (1, (0, 0, 0, 0, []), 2), (2, (16, 0, 3, 2, []), 5), (5, (0, 0, 0, 0, []), 6), (6, (4, 0, 2, 0, []), 7), (7, (1, 0, 2, 0, []), 8), (8, (2, 0, 1, 0, []), 9), (9, (15, 0, 3, 2, []), 12), (12, (25, 0, 38, 3, []), 15), (15, (2, 0, 0, 0, []), 16), (16, (2, 0, 1, 0, []), 17), (17, (15, 0, 3, 0, []), 20), (20, (1, 0, 2, 0, []), 21), (21, (17, 0, 0, 0, []), 22), (22, (2, 0, 1, 0, []), 23), (23, (15, 0, 3, 1, []), 26), (26, (1, 0, 2, 0, []), 27), (27, (17, 0, 0, 0, []), 28), (28, (32, 0, 34, 0, []), 31), (31, (44, 0, 0, 0, []), 32), (32, (7, 1, 2, 0, []), 35), (35, (26, 0, 7, 0, []), 38), (38, (28, 0, 0, 0, []), 39)]
def mj_c37 : List (Nat × mj_MI × Nat) := [(0, (2, 0, 0, 0, []), 1), (1, (60, 0, 0, 0, []), 4), (4, (2, 0, 0, 0, []), 5), (5, (0, 100, 0, 0, []), 7), (7, (37, 0, 0, 0, []), 9), (9, (62, 0, 4, 0, []), 12), (12, (2, 0, 0, 0, []), 13), (13, (0, 14, 0, 0, []), 15), (15, (0, 4, 0, 0, []), 16), (16, (40, 0, 0, 0, []), 20), (20, (62, 0, 4, 1, []), 23), (23, (2, 0, 0, 0, []), 24), (24, (0, 0, 0, 0, []), 25), (25, (16, 0, 4, 2, []), 28), (28, (2, 0, 0, 0, []), 29), (29, (0, 0, 0, 0, []), 30), (30, (16, 0, 4, 3, []), 33), (33, (2, 0, 0, 0, []), 34), (34, (0, 0, 0, 0, []), 35), (35, (16, 0, 4, 4, []), 38), (38, (28, 0, 0, 0, []), 39)]
def mj_c38 : List (Nat × mj_MI × Nat) := [(0, (1, 0, 1, 0, []), 1), (1, (0, 0, 0, 0, []), 2), (2, (0, 127, 0, 0, []), 4), (4, (32, 0, 104, 1, []), 7), (7, (24, 0, 13, 1, []), 10), (10, (0, (-2), 0, 0, []), 12), (12, (29, 0, 0, 0, []), 13), (13, (2, 0, 0, 0, []), 14), (14, (15, 0, 4, 3, []), 17), (17, (0, 100, 0, 0, []), 19), (19, (25, 0, 25, 2, []), 22), (22, (0, (-4), 0, 0, []), 24), (24, (29, 0, 0, 0, []), 25), (25, (2, 0, 0, 0, []), 26), (26, (15, 0, 4, 0, []), 29), (29, (2, 0, 0, 0, []), 30), (30, (15, 0, 4, 3, []), 33), (33, (1, 0, 1, 0, []), 34), (34, (18, 0, 0, 0, []), 35), (35, (2, 0, 0, 0, []), 36), (36, (41, 0, 0, 0, []), 37), (37, (15, 0, 4, 3, []), 40), (40, (0, 1, 0, 0, []), 41), (41, (8, 0, 0, 0, []), 42), (42, (16, 0, 4, 3, []), 45), (45, (2, 0, 0, 0, []), 46), (46, (15, 0, 4, 3, []), 49), (49, (29, 0, 0, 0, []), 50)]
def mj_c39 : List (Nat × mj_MI × Nat) := [(0, (2, 0, 0, 0, []), 1), (1, (0, 0, 0, 0, []), 2), (2, (16, 0, 4, 3, []), 5), (5, (28, 0, 0, 0, []), 6)]
def mj_c40 : List (Nat × mj_MI × Nat) := [(0, (2, 0, 0, 0, []), 1), (1, (0, 0, 0, 0, []), 2), (2, (16, 0, 4, 4, []), 5), (5, (2, 0, 0, 0, []), 6), (6, (0, 0, 0, 0, []), 7), (7, (16, 0, 4, 2, []), 10), (10, (0, 0, 0, 0, []), 11), (11, (4, 0, 1, 0, []), 12), (12, (1, 0, 1, 0, []), 13), (13, (0, 14, 0, 0, []), 15), (15, (25, 0, 77, 3, []), 18), (18, (1, 0, 1, 0, []), 19), (19, (24, 0, 33, 5, []), 22), (22, (2, 0, 0, 0, []), 23), (23, (0, 59, 0, 0, []), 25), (25, (32, 0, 45, 0, []), 28), (28, (24, 0, 33, 1, []), 31), (31, (0, 0, 0, 0, []), 32), (32, (29, 0, 0, 1, []), 33), (33, (2, 0, 0, 0, []), 34), (34, (2, 0, 0, 0, []), 35), (35, (15, 0, 4, 1, []), 38), (38, (1, 0, 1, 0, []), 39), (39, (21, 0, 0, 0, []), 40), (40, (32, 0, 43, 0, []), 43), (43, (24, 0, 48, 1, []), 46), (46, (0, 0, 0, 0, []), 47), (47, (29, 0, 0, 1, []), 48), (48, (2, 0, 0, 0, []), 49), (49, (41, 0, 0, 0, []), 50), (50, (15, 0, 4, 2, []), 53), (53, (0, 1, 0, 0, []), 54), (54, (8, 0, 0, 0, []), 55), (55, (16, 0, 4, 2, []), 58), (58, (2, 0, 0, 0, []), 59), (59, (15, 0, 4, 4, []), 62), (62, (2, 0, 0, 0, []), 63), (63, (15, 0, 4, 3, []), 66), (66, (25, 0, 71, 2, []), 69), (69, (0, 1, 0, 0, []), 70), (70, (29, 0, 0, 1, []), 71), (71, (7, 1, 1, 0, []), 74), (74, (26, 0, 12, 0, []), 77), (77, (0, 0, 0, 0, []), 78), (78, (29, 0, 0, 1, []), 79)]
def mj_c41 : List (Nat × mj_MI × Nat) := [(0, (0, 0, 0, 0, []), 1), (1, (4, 0, 2, 0, []), 2), (2, (0, 0, 0, 0, []), 3), (3, (4, 0, 3, 0, []), 4), (4, (1, 0, 3, 0, []), 5), (5, (2, 0, 0, 0, []), 6), (6, (15, 0, 4, 2, []), 9), (9, (25, 0, 34, 3, []), 12), (12, (2, 0, 1, 0, []), 13), (13, (2, 0, 0, 0, []), 14), (14, (15, 0, 4, 1, []), 17), (17, (1, 0, 3, 0, []), 18), (18, (21, 0, 0, 0, []), 19), (19, (32, 0, 42, 1, []), 22), (22, (24, 0, 28, 2, []), 25), (25, (7, 1, 2, 0, []), 28), (28, (7, 1, 3, 0, []), 31), (31, (26, 0, 4, 0, []), 34), (34, (1, 0, 2, 0, []), 35), (35, (29, 0, 0, 0, []), 36)]
def mj_c42 : List (Nat × mj_MI × Nat) := [(0, (2, 0, 1, 0, []), 1), (1, (0, 0, 0, 0, []), 2), (2, (17, 0, 0, 0, []), 3), (3, (27, 0, 104, 0, [(99, 86), (102, 77), (109, 63), (115, 95), (121, 52)]), 52), (52, (2, 0, 0, 0, []), 53), (53, (2, 0, 1, 0, []), 54), (54, (0, 1, 0, 0, []), 55), (55, (17, 0, 0, 0, []), 56), (56, (2, 0, 1, 0, []), 57), (57, (0, 2, 0, 0, []), 58), (58, (17, 0, 0, 0, []), 59), (59, (32, 0, 49, 0, []), 62), (62, (29, 0, 0, 0, []), 63), (63, (2, 0, 0, 0, []), 64), (64, (2, 0, 1, 0, []), 65), (65, (0, 1, 0, 0, []), 66), (66, (17, 0, 0, 0, []), 67), (67, (2, 0, 1, 0, []), 68), (68, (0, 2, 0, 0, []), 69), (69, (17, 0, 0, 0, []), 70), (70, (2, 0, 1, 0, []), 71), (71, (0, 3, 0, 0, []), 72), (72, (17, 0, 0, 0, []), 73), (73, (32, 0, 50, 0, []), 76), (76, (29, 0, 0, 0, []), 77), (77, (2, 0, 0, 0, []), 78), (78, (0, 0, 0, 0, []), 79), (79, (2, 0, 1, 0, []), 80), (80, (0, 1, 0, 0, []), 81), (81, (17, 0, 0, 0, []), 82), (82, (32, 0, 52, 0, []), 85), (85, (29, 0, 0, 0, []), 86), (86, (2, 0, 0, 0, []), 87), (87, (0, 1, 0, 0, []), 88), (88, (2, 0, 1, 0, []), 89), (89, (0, 1, 0, 0, []), 90), (90, (17, 0, 0, 0, []), 91), (91, (32, 0, 52, 0, []), 94), (94, (29, 0, 0, 0, []), 95), (95, (2, 0, 0, 0, []), 96), (96, (0, 2, 0, 0, []), 97), (97, (2, 0, 1, 0, []), 98), (98, (0, 1, 0, 0, []), 99), (99, (17, 0, 0, 0, []), 100), (100, (32, 0, 52, 0, []), 103), (103, (29, 0, 0, 0, []), 104), (104, (2, 0, 0, 0, []), 105), (105, (0, 3, 0, 0, []), 106), (106, (2, 0, 1, 0, []), 107), (107, (0, 1, 0, 0, []), 108), (108, (17, 0, 0, 0, []), 109), (109, (32, 0, 52, 0, []), 112), (112, (29, 0, 0, 0, []), 113)]
def mj_c43 : List (Nat × mj_MI × Nat) := [(0, (2, 0, 1, 0, []), 1), (1, (0, 0, 0, 0, []), 2), (2, (2, 0, 0, 0, []), 3), (3, (15, 0, 4, 4, []), 6), (6, (2, 0, 0, 0, []), 7), (7, (15, 0, 4, 3, []), 10), (10, (25, 0, 25, 3, []), 13), (13, (2, 0, 0, 0, []), 14), (14, (15, 0, 4, 0, []), 17), (17, (2, 0, 0, 0, []), 18), (18, (15, 0, 4, 4, []), 21), (21, (17, 0, 0, 0, []), 22), (22, (26, 0, 26, 0, []), 25), (25, (0, (-1), 0, 0, []), 26), (26, (18, 0, 0, 0, []), 27), (27, (2, 0, 1, 0, []), 28), (28, (0, 0, 0, 0, []), 29), (29, (17, 0, 0, 0, []), 30), (30, (27, 0, 224, 0, [(99, 188), (102, 188), (108, 206), (109, 133), (115, 188), (121, 88)]), 88), (88, (2, 0, 0, 0, []), 89), (89, (41, 0, 0, 0, []), 90), (90, (15, 0, 4, 4, []), 93), (93, (0, 1, 0, 0, []), 94), (94, (8, 0, 0, 0, []), 95), (95, (16, 0, 4, 4, []), 98), (98, (2, 0, 0, 0, []), 99), (99, (2, 0, 1, 0, []), 100), (100, (0, 1, 0, 0, []), 101), (101, (0, 2, 0, 0, []), 102), (102, (32, 0, 44, 0, []), 105), (105, (24, 0, 131, 0, []), 108), (108, (2, 0, 0, 0, []), 109), (109, (0, 44, 0, 0, []), 111), (111, (32, 0, 45, 0, []), 114), (114, (24, 0, 131, 0, []), 117), (117, (2, 0, 0, 0, []), 118), (118, (2, 0, 1, 0, []), 119), (119, (0, 2, 0, 0, []), 120), (120, (0, 2, 0, 0, []), 121), (121, (32, 0, 44, 0, []), 124), (124, (24, 0, 131, 0, []), 127), (127, (0, 1, 0, 0, []), 128), (128, (26, 0, 132, 0, []), 131), (131, (0, 0, 0, 0, []), 132), (132, (29, 0, 0, 1, []), 133), (133, (2, 0, 0, 0, []), 134), (134, (41, 0, 0, 0, []), 135), (135, (15, 0, 4, 4, []), 138), (138, (0, 1, 0, 0, []), 139), (139, (8, 0, 0, 0, []), 140), (140, (16, 0, 4, 4, []), 143), (143, (2, 0, 0, 0, []), 144), (144, (2, 0, 1, 0, []), 145), (145, (0, 1, 0, 0, []), 146), (146, (0, 1, 0, 0, []), 147), (147, (32, 0, 44, 0, []), 150), (150, (24, 0, 186, 0, []), 153), (153, (2, 0, 0, 0, []), 154), (154, (2, 0, 1, 0, []), 155), (155, (0, 2, 0, 0, []), 156), (156, (0, 2, 0, 0, []), 157), (157, (32, 0, 44, 0, []), 160), (160, (24, 0, 186, 0, []), 163), (163, (2, 0, 0, 0, []), 164), (164, (0, 44, 0, 0, []), 166), (166, (32, 0, 45, 0, []), 169), (169, (24, 0, 186, 0, []), 172), (172, (2, 0, 0, 0, []), 173), (173, (2, 0, 1, 0, []), 174), (174, (0, 3, 0, 0, []), 175), (175, (0, 1, 0, 0, []), 176), (176, (32, 0, 44, 0, []), 179), (179, (24, 0, 186, 0, []), 182), (182, (0, 1, 0, 0, []), 183), (183, (26, 0, 187, 0, []), 186), (186, (0, 0, 0, 0, []), 187), (187, (29, 0, 0, 1, []), 188), (188, (2, 0, 0, 0, []), 189), (189, (41, 0, 0, 0, []), 190), (190, (15, 0, 4, 4, []), 193), (193, (0, 1, 0, 0, []), 194), (194, (8, 0, 0, 0, []), 195), (195, (16, 0, 4, 4, []), 198), (198, (2, 0, 0, 0, []), 199), (199, (2, 0, 1, 0, []), 200), (200, (0, 1, 0, 0, []), 201), (201, (0, 2, 0, 0, []), 202), (202, (32, 0, 44, 0, []), 205), (205, (29, 0, 0, 1, []), 206), (206, (2, 0, 0, 0, []), 207), (207, (41, 0, 0, 0, []), 208), (208, (15, 0, 4, 4, []), 211), (211, (0, 1, 0, 0, []), 212), (212, (8, 0, 0, 0, []), 213), (213, (16, 0, 4, 4, []), 216), (216, (2, 0, 0, 0, []), 217), (217, (2, 0, 1, 0, []), 218), (218, (0, 1, 0, 0, []), 219), (219, (0, 1, 0, 0, []), 220), (220, (32, 0, 44, 0, []), 223), (223, (29, 0, 0, 1, []), 224), (224, (0, 0, 0, 0, []), 225), (225, (29, 0, 0, 1, []), 226)]
def mj_c44 : List (Nat × mj_MI × Nat) := [(0, (0, 0, 0, 0, []), 1), (1, (4, 0, 4, 0, []), 3), (3, (0, 0, 0, 0, []), 4), (4, (4, 0, 5, 0, []), 6), (6, (1, 0, 5, 0, []), 8), (8, (1, 0, 3, 0, []), 9), (9, (25, 0, 78, 3, []), 12), (12, (2, 0, 0, 0, []), 13), (13, (15, 0, 4, 4, []), 16), (16, (2, 0, 0, 0, []), 17), (17, (15, 0, 4, 3, []), 20), (20, (25, 0, 78, 3, []), 23), (23, (2, 0, 0, 0, []), 24), (24, (15, 0, 4, 0, []), 27), (27, (2, 0, 0, 0, []), 28), (28, (15, 0, 4, 4, []), 31), (31, (17, 0, 0, 0, []), 32), (32, (0, 48, 0, 0, []), 34), (34, (0, 57, 0, 0, []), 36), (36, (32, 0, 104, 1, []), 39), (39, (24, 0, 78, 0, []), 42), (42, (1, 0, 4, 0, []), 44), (44, (0, 10, 0, 0, []), 46), (46, (10, 0, 0, 0, []), 47), (47, (2, 0, 0, 0, []), 48), (48, (15, 0, 4, 0, []), 51), (51, (2, 0, 0, 0, []), 52), (52, (15, 0, 4, 4, []), 55), (55, (17, 0, 0, 0, []), 56), (56, (8, 0, 0, 0, []), 57), (57, (0, 48, 0, 0, []), 59), (59, (9, 0, 0, 0, []), 60), (60, (4, 0, 4, 0, []), 62), (62, (2, 0, 0, 0, []), 63), (63, (41, 0, 0, 0, []), 64), (64, (15, 0, 4, 4, []), 67), (67, (0, 1, 0, 0, []), 68), (68, (8, 0, 0, 0, []), 69), (69, (16, 0, 4, 4, []), 72), (72, (7, 1, 5, 0, []), 75), (75, (26, 0, 6, 0, []), 78), (78, (2, 0, 1, 0, []), 79), (79, (1, 0, 2, 0, []), 80), (80, (1, 0, 4, 0, []), 82), (82, (18, 0, 0, 0, []), 83), (83, (1, 0, 5, 0, []), 85), (85, (24, 0, 92, 5, []), 88), (88, (0, 1, 0, 0, []), 89), (89, (26, 0, 93, 0, []), 92), (92, (0, 0, 0, 0, []), 93), (93, (29, 0, 0, 1, []), 94)]
def mj_c45 : List (Nat × mj_MI × Nat) := [(0, (2, 0, 0, 0, []), 1), (1, (15, 0, 4, 4, []), 4), (4, (2, 0, 0, 0, []), 5), (5, (15, 0, 4, 3, []), 8), (8, (25, 0, 24, 3, []), 11), (11, (2, 0, 0, 0, []), 12), (12, (15, 0, 4, 0, []), 15), (15, (2, 0, 0, 0, []), 16), (16, (15, 0, 4, 4, []), 19), (19, (17, 0, 0, 0, []), 20), (20, (1, 0, 1, 0, []), 21), (21, (25, 0, 26, 0, []), 24), (24, (0, 0, 0, 0, []), 25), (25, (29, 0, 0, 1, []), 26), (26, (2, 0, 0, 0, []), 27), (27, (41, 0, 0, 0, []), 28), (28, (15, 0, 4, 4, []), 31), (31, (0, 1, 0, 0, []), 32), (32, (8, 0, 0, 0, []), 33), (33, (16, 0, 4, 4, []), 36), (36, (0, 1, 0, 0, []), 37), (37, (29, 0, 0, 1, []), 38)]
def mj_c46 : List (Nat × mj_MI × Nat) := [(0, (2, 0, 0, 0, []), 1), (1, (60, 0, 0, 0, []), 4), (4, (2, 0, 0, 0, []), 5), (5, (0, 5, 0, 0, []), 6), (6, (37, 0, 0, 0, []), 8), (8, (62, 0, 5, 0, []), 11), (11, (2, 0, 0, 0, []), 12), (12, (0, 5, 0, 0, []), 13), (13, (37, 0, 0, 0, []), 15), (15, (62, 0, 5, 1, []), 18), (18, (2, 0, 0, 0, []), 19), (19, (0, 10, 0, 0, []), 21), (21, (37, 0, 0, 0, []), 23), (23, (62, 0, 5, 2, []), 26), (26, (2, 0, 0, 0, []), 27), (27, (0, 10, 0, 0, []), 29), (29, (37, 0, 0, 0, []), 31), (31, (62, 0, 5, 3, []), 34), (34, (2, 0, 0, 0, []), 35), (35, (0, 10, 0, 0, []), 37), (37, (37, 0, 0, 0, []), 39), (39, (62, 0, 5, 4, []), 42), (42, (2, 0, 0, 0, []), 43), (43, (0, 4, 0, 0, []), 44), (44, (37, 0, 0, 0, []), 46), (46, (41, 0, 0, 0, []), 47), (47, (0, 0, 0, 0, []), 48), (48, (0, 0, 0, 0, []), 49), (49, (18, 0, 0, 0, []), 50), (50, (41, 0, 0, 0, []), 51), (51, (0, 1, 0, 0, []), 52), (52, (0, 20, 0, 0, []), 54), (54, (18, 0, 0, 0, []), 55), (55, (41, 0, 0, 0, []), 56), (56, (0, 2, 0, 0, []), 57), (57, (0, 0, 0, 0, []), 58), (58, (18, 0, 0, 0, []), 59), (59, (41, 0, 0, 0, []), 60), (60, (0, 3, 0, 0, []), 61), (61, (0, 0, 0, 0, []), 62), (62, (18, 0, 0, 0, []), 63), (63, (62, 0, 5, 5, []), 66), (66, (2, 0, 0, 0, []), 67), (67, (0, 0, 0, 0, []), 68), (68, (16, 0, 5, 6, []), 71), (71, (2, 0, 0, 0, []), 72), (72, (0, 0, 0, 0, []), 73), (73, (16, 0, 5, 7, []), 76), (76, (28, 0, 0, 0, []), 77)]
def mj_c47 : List (Nat × mj_MI × Nat) := [(0, (1, 0, 1, 0, []), 1), (1, (0, 0, 0, 0, []), 2), (2, (2, 0, 0, 0, []), 3), (3, (15, 0, 5, 6, []), 6), (6, (0, 1, 0, 0, []), 7), (7, (9, 0, 0, 0, []), 8), (8, (32, 0, 104, 1, []), 11), (11, (29, 0, 0, 1, []), 12)]
def mj_c48 : List (Nat × mj_MI × Nat) := [(0, (1, 0, 1, 0, []), 1), (1, (0, 0, 0, 0, []), 2), (2, (2, 0, 0, 0, []), 3), (3, (15, 0, 5, 7, []), 6), (6, (0, 1, 0, 0, []), 7), (7, (9, 0, 0, 0, []), 8), (8, (32, 0, 104, 1, []), 11), (11, (29, 0, 0, 1, []), 12)]
def mj_c49 : List (Nat × mj_MI × Nat) := [(0, (0, 0, 0, 0, []), 1), (1, (1, 0, 1, 0, []), 2), (2, (32, 0, 60, 1, []), 5), (5, (24, 0, 16, 0, []), 8), (8, (0, 1, 0, 0, []), 9), (9, (1, 0, 2, 0, []), 10), (10, (32, 0, 60, 1, []), 13), (13, (24, 0, 19, 1, []), 16), (16, (0, (-2), 0, 0, []), 18), (18, (29, 0, 0, 0, []), 19), (19, (2, 0, 0, 0, []), 20), (20, (15, 0, 5, 6, []), 23), (23, (0, 5, 0, 0, []), 24), (24, (25, 0, 30, 2, []), 27), (27, (0, (-4), 0, 0, []), 29), (29, (29, 0, 0, 0, []), 30), (30, (2, 0, 0, 0, []), 31), (31, (15, 0, 5, 0, []), 34), (34, (2, 0, 0, 0, []), 35), (35, (15, 0, 5, 6, []), 38), (38, (1, 0, 1, 0, []), 39), (39, (18, 0, 0, 0, []), 40), (40, (2, 0, 0, 0, []), 41), (41, (15, 0, 5, 1, []), 44), (44, (2, 0, 0, 0, []), 45), (45, (15, 0, 5, 6, []), 48), (48, (1, 0, 2, 0, []), 49), (49, (18, 0, 0, 0, []), 50), (50, (2, 0, 0, 0, []), 51), (51, (41, 0, 0, 0, []), 52), (52, (15, 0, 5, 6, []), 55), (55, (43, 0, 0, 0, []), 56), (56, (0, 1, 0, 0, []), 57), (57, (8, 0, 0, 0, []), 58), (58, (16, 0, 5, 6, []), 61), (61, (29, 0, 0, 0, []), 62)]
def mj_c50 : List (Nat × mj_MI × Nat) := [(0, (2, 0, 0, 0, []), 1), (1, (1, 0, 1, 0, []), 2), (2, (32, 0, 47, 0, []), 5), (5, (24, 0, 10, 1, []), 8), (8, (0, (-1), 0, 0, []), 9), (9, (29, 0, 0, 0, []), 10), (10, (0, 2, 0, 0, []), 11), (11, (1, 0, 2, 0, []), 12), (12, (32, 0, 60, 1, []), 15), (15, (24, 0, 26, 0, []), 18), (18, (0, 3, 0, 0, []), 19), (19, (1, 0, 3, 0, []), 20), (20, (32, 0, 60, 1, []), 23), (23, (24, 0, 29, 1, []), 26), (26, (0, (-2), 0, 0, []), 28), (28, (29, 0, 0, 0, []), 29), (29, (2, 0, 0, 0, []), 30), (30, (15, 0, 5, 7, []), 33), (33, (0, 10, 0, 0, []), 35), (35, (25, 0, 41, 2, []), 38), (38, (0, (-4), 0, 0, []), 40), (40, (29, 0, 0, 0, []), 41), (41, (2, 0, 0, 0, []), 42), (42, (15, 0, 5, 2, []), 45), (45, (2, 0, 0, 0, []), 46), (46, (15, 0, 5, 7, []), 49), (49, (1, 0, 1, 0, []), 50), (50, (18, 0, 0, 0, []), 51), (51, (2, 0, 0, 0, []), 52), (52, (15, 0, 5, 3, []), 55), (55, (2, 0, 0, 0, []), 56), (56, (15, 0, 5, 7, []), 59), (59, (1, 0, 2, 0, []), 60), (60, (18, 0, 0, 0, []), 61), (61, (2, 0, 0, 0, []), 62), (62, (15, 0, 5, 4, []), 65), (65, (2, 0, 0, 0, []), 66), (66, (15, 0, 5, 7, []), 69), (69, (1, 0, 3, 0, []), 70), (70, (18, 0, 0, 0, []), 71), (71, (2, 0, 0, 0, []), 72), (72, (41, 0, 0, 0, []), 73), (73, (15, 0, 5, 7, []), 76), (76, (43, 0, 0, 0, []), 77), (77, (0, 1, 0, 0, []), 78), (78, (8, 0, 0, 0, []), 79), (79, (16, 0, 5, 7, []), 82), (82, (29, 0, 0, 0, []), 83)]
def mj_c51 : List (Nat × mj_MI × Nat) := [(0, (1, 0, 1, 0, []), 1), (1, (0, 0, 0, 0, []), 2), (2, (0, 3, 0, 0, []), 3), (3, (32, 0, 104, 1, []), 6), (6, (24, 0, 11, 1, []), 9), (9, (0, (-1), 0, 0, []), 10), (10, (29, 0, 0, 0, []), 11), (11, (1, 0, 1, 0, []), 12), (12, (0, 1, 0, 0, []), 13), (13, (25, 0, 24, 4, []), 16), (16, (2, 0, 0, 0, []), 17), (17, (1, 0, 2, 0, []), 18), (18, (32, 0, 47, 0, []), 21), (21, (26, 0, 29, 0, []), 24), (24, (2, 0, 0, 0, []), 25), (25, (1, 0, 2, 0, []), 26), (26, (32, 0, 48, 0, []), 29), (29, (4, 0, 4, 0, []), 31), (31, (1, 0, 4, 0, []), 33), (33, (24, 0, 38, 1, []), 36), (36, (0, (-1), 0, 0, []), 37), (37, (29, 0, 0, 0, []), 38), (38, (1, 0, 1, 0, []), 39), (39, (1, 0, 3, 0, []), 40), (40, (32, 0, 60, 1, []), 43), (43, (24, 0, 49, 1, []), 46), (46, (0, (-2), 0, 0, []), 48), (48, (29, 0, 0, 0, []), 49), (49, (2, 0, 0, 0, []), 50), (50, (1, 0, 1, 0, []), 51), (51, (32, 0, 59, 0, []), 54), (54, (5, 0, 5, 0, []), 56), (56, (2, 0, 5, 0, []), 58), (58, (1, 0, 2, 0, []), 59), (59, (17, 0, 0, 0, []), 60), (60, (4, 0, 6, 0, []), 62), (62, (2, 0, 5, 0, []), 64), (64, (1, 0, 2, 0, []), 65), (65, (1, 0, 3, 0, []), 66), (66, (18, 0, 0, 0, []), 67), (67, (1, 0, 6, 0, []), 69), (69, (29, 0, 0, 0, []), 70)]
def mj_c52 : List (Nat × mj_MI × Nat) := [(0, (1, 0, 1, 0, []), 1), (1, (0, 0, 0, 0, []), 2), (2, (0, 3, 0, 0, []), 3), (3, (32, 0, 104, 1, []), 6), (6, (24, 0, 11, 1, []), 9), (9, (0, (-1), 0, 0, []), 10), (10, (29, 0, 0, 0, []), 11), (11, (1, 0, 2, 0, []), 12), (12, (0, 0, 0, 0, []), 13), (13, (59, 0, 3, 0, []), 16), (16, (1, 0, 1, 0, []), 17), (17, (17, 0, 0, 0, []), 18), (18, (32, 0, 104, 1, []), 21), (21, (24, 0, 27, 1, []), 24), (24, (0, (-2), 0, 0, []), 26), (26, (29, 0, 0, 0, []), 27), (27, (2, 0, 0, 0, []), 28), (28, (15, 0, 5, 5, []), 31), (31, (1, 0, 1, 0, []), 32), (32, (17, 0, 0, 0, []), 33), (33, (4, 0, 3, 0, []), 34), (34, (2, 0, 0, 0, []), 35), (35, (15, 0, 5, 5, []), 38), (38, (1, 0, 1, 0, []), 39), (39, (1, 0, 2, 0, []), 40), (40, (18, 0, 0, 0, []), 41), (41, (1, 0, 3, 0, []), 42), (42, (29, 0, 0, 0, []), 43)]
def mj_c53 : List (Nat × mj_MI × Nat) := [(0, (1, 0, 1, 0, []), 1), (1, (24, 0, 22, 1, []), 4), (4, (2, 0, 0, 0, []), 5), (5, (1, 0, 2, 0, []), 6), (6, (32, 0, 47, 0, []), 9), (9, (24, 0, 22, 0, []), 12), (12, (2, 0, 0, 0, []), 13), (13, (15, 0, 5, 0, []), 16), (16, (1, 0, 2, 0, []), 17), (17, (0, 0, 0, 0, []), 18), (18, (18, 0, 0, 0, []), 19), (19, (26, 0, 87, 0, []), 22), (22, (1, 0, 1, 0, []), 23), (23, (0, 1, 0, 0, []), 24), (24, (25, 0, 60, 1, []), 27), (27, (2, 0, 0, 0, []), 28), (28, (1, 0, 2, 0, []), 29), (29, (32, 0, 47, 0, []), 32), (32, (24, 0, 60, 0, []), 35), (35, (2, 0, 0, 0, []), 36), (36, (15, 0, 5, 1, []), 39), (39, (1, 0, 2, 0, []), 40), (40, (2, 0, 0, 0, []), 41), (41, (15, 0, 5, 1, []), 44), (44, (1, 0, 2, 0, []), 45), (45, (17, 0, 0, 0, []), 46), (46, (0, 5, 0, 0, []), 47), (47, (8, 0, 0, 0, []), 48), (48, (59, 0, 2, 0, []), 51), (51, (0, 1, 0, 0, []), 52), (52, (17, 0, 0, 0, []), 53), (53, (34, 0, 0, 0, []), 56), (56, (18, 0, 0, 0, []), 57), (57, (26, 0, 87, 0, []), 60), (60, (1, 0, 1, 0, []), 61), (61, (0, 2, 0, 0, []), 62), (62, (25, 0, 75, 1, []), 65), (65, (2, 0, 0, 0, []), 66), (66, (15, 0, 5, 5, []), 69), (69, (0, 3, 0, 0, []), 70), (70, (1, 0, 2, 0, []), 71), (71, (18, 0, 0, 0, []), 72), (72, (26, 0, 87, 0, []), 75), (75, (1, 0, 1, 0, []), 76), (76, (0, 3, 0, 0, []), 77), (77, (25, 0, 87, 1, []), 80), (80, (2, 0, 0, 0, []), 81), (81, (15, 0, 5, 5, []), 84), (84, (0, 0, 0, 0, []), 85), (85, (1, 0, 2, 0, []), 86), (86, (18, 0, 0, 0, []), 87), (87, (28, 0, 0, 0, []), 88)]
def mj_c54 : List (Nat × mj_MI × Nat) := [(0, (0, 0, 0, 0, []), 1), (1, (4, 0, 2, 0, []), 2), (2, (0, 0, 0, 0, []), 3), (3, (4, 0, 3, 0, []), 4), (4, (1, 0, 3, 0, []), 5), (5, (2, 0, 0, 0, []), 6), (6, (15, 0, 5, 7, []), 9), (9, (25, 0, 31, 3, []), 12), (12, (2, 0, 0, 0, []), 13), (13, (15, 0, 5, 2, []), 16), (16, (1, 0, 3, 0, []), 17), (17, (17, 0, 0, 0, []), 18), (18, (1, 0, 1, 0, []), 19), (19, (25, 0, 25, 1, []), 22), (22, (7, 1, 2, 0, []), 25), (25, (7, 1, 3, 0, []), 28), (28, (26, 0, 4, 0, []), 31), (31, (1, 0, 2, 0, []), 32), (32, (29, 0, 0, 0, []), 33)]
def mj_c55 : List (Nat × mj_MI × Nat) := [(0, (2, 0, 0, 0, []), 1), (1, (15, 0, 5, 2, []), 4), (4, (1, 0, 1, 0, []), 5), (5, (17, 0, 0, 0, []), 6), (6, (2, 0, 0, 0, []), 7), (7, (15, 0, 5, 2, []), 10), (10, (1, 0, 2, 0, []), 11), (11, (17, 0, 0, 0, []), 12), (12, (25, 0, 54, 1, []), 15), (15, (2, 0, 0, 0, []), 16), (16, (15, 0, 5, 3, []), 19), (19, (1, 0, 1, 0, []), 20), (20, (17, 0, 0, 0, []), 21), (21, (2, 0, 0, 0, []), 22), (22, (15, 0, 5, 3, []), 25), (25, (1, 0, 2, 0, []), 26), (26, (17, 0, 0, 0, []), 27), (27, (25, 0, 50, 2, []), 30), (30, (2, 0, 0, 0, []), 31), (31, (15, 0, 5, 3, []), 34), (34, (1, 0, 1, 0, []), 35), (35, (17, 0, 0, 0, []), 36), (36, (2, 0, 0, 0, []), 37), (37, (15, 0, 5, 3, []), 40), (40, (1, 0, 2, 0, []), 41), (41, (17, 0, 0, 0, []), 42), (42, (25, 0, 54, 1, []), 45), (45, (1, 0, 1, 0, []), 46), (46, (1, 0, 2, 0, []), 47), (47, (25, 0, 54, 3, []), 50), (50, (0, 1, 0, 0, []), 51), (51, (26, 0, 55, 0, []), 54), (54, (0, 0, 0, 0, []), 55), (55, (29, 0, 0, 1, []), 56)]
def mj_c56 : List (Nat × mj_MI × Nat) := [(0, (0, 0, 0, 0, []), 1), (1, (4, 0, 3, 0, []), 2), (2, (1, 0, 3, 0, []), 3), (3, (2, 0, 0, 0, []), 4), (4, (15, 0, 5, 7, []), 7), (7, (25, 0, 37, 3, []), 10), (10, (2, 0, 0, 0, []), 11), (11, (15, 0, 5, 2, []), 14), (14, (1, 0, 3, 0, []), 15), (15, (17, 0, 0, 0, []), 16), (16, (1, 0, 1, 0, []), 17), (17, (25, 0, 31, 1, []), 20), (20, (2, 0, 0, 0, []), 21), (21, (1, 0, 3, 0, []), 22), (22, (32, 0, 58, 0, []), 25), (25, (1, 0, 2, 0, []), 26), (26, (25, 0, 31, 1, []), 29), (29, (1, 0, 3, 0, []), 30), (30, (29, 0, 0, 0, []), 31), (31, (7, 1, 3, 0, []), 34), (34, (26, 0, 2, 0, []), 37), (37, (0, (-5), 0, 0, []), 39), (39, (29, 0, 0, 0, []), 40)]
def mj_c57 : List (Nat × mj_MI × Nat) := [(0, (2, 0, 1, 0, []), 1), (1, (15, 0, 5, 0, []), 4), (4, (0, 0, 0, 0, []), 5), (5, (2, 0, 0, 0, []), 6), (6, (15, 0, 5, 0, []), 9), (9, (0, 0, 0, 0, []), 10), (10, (0, 5, 0, 0, []), 11), (11, (35, 0, 0, 0, []), 14), (14, (2, 0, 1, 0, []), 15), (15, (15, 0, 5, 1, []), 18), (18, (0, 0, 0, 0, []), 19), (19, (2, 0, 0, 0, []), 20), (20, (15, 0, 5, 1, []), 23), (23, (0, 0, 0, 0, []), 24), (24, (0, 5, 0, 0, []), 25), (25, (35, 0, 0, 0, []), 28), (28, (2, 0, 1, 0, []), 29), (29, (15, 0, 5, 2, []), 32), (32, (0, 0, 0, 0, []), 33), (33, (2, 0, 0, 0, []), 34), (34, (15, 0, 5, 2, []), 37), (37, (0, 0, 0, 0, []), 38), (38, (0, 10, 0, 0, []), 40), (40, (35, 0, 0, 0, []), 43), (43, (2, 0, 1, 0, []), 44), (44, (15, 0, 5, 3, []), 47), (47, (0, 0, 0, 0, []), 48), (48, (2, 0, 0, 0, []), 49), (49, (15, 0, 5, 3, []), 52), (52, (0, 0, 0, 0, []), 53), (53, (0, 10, 0, 0, []), 55), (55, (35, 0, 0, 0, []), 58), (58, (2, 0, 1, 0, []), 59), (59, (15, 0, 5, 4, []), 62), (62, (0, 0, 0, 0, []), 63), (63, (2, 0, 0, 0, []), 64), (64, (15, 0, 5, 4, []), 67), (67, (0, 0, 0, 0, []), 68), (68, (0, 10, 0, 0, []), 70), (70, (35, 0, 0, 0, []), 73), (73, (2, 0, 1, 0, []), 74), (74, (15, 0, 5, 5, []), 77), (77, (0, 0, 0, 0, []), 78), (78, (2, 0, 0, 0, []), 79), (79, (15, 0, 5, 5, []), 82), (82, (0, 0, 0, 0, []), 83), (83, (2, 0, 0, 0, []), 84), (84, (15, 0, 5, 5, []), 87), (87, (23, 0, 0, 0, []), 88), (88, (35, 0, 0, 0, []), 91), (91, (2, 0, 0, 0, []), 92), (92, (2, 0, 1, 0, []), 93), (93, (15, 0, 5, 6, []), 96), (96, (16, 0, 5, 6, []), 99), (99, (2, 0, 0, 0, []), 100), (100, (2, 0, 1, 0, []), 101), (101, (15, 0, 5, 7, []), 104), (104, (16, 0, 5, 7, []), 107), (107, (28, 0, 0, 0, []), 108)]
def mj_c58 : List (Nat × mj_MI × Nat) := [(0, (0, 0, 0, 0, []), 1), (1, (4, 0, 2, 0, []), 2), (2, (0, 0, 0, 0, []), 3), (3, (4, 0, 3, 0, []), 4), (4, (1, 0, 3, 0, []), 5), (5, (2, 0, 0, 0, []), 6), (6, (15, 0, 5, 7, []), 9), (9, (25, 0, 30, 3, []), 12), (12, (2, 0, 0, 0, []), 13), (13, (1, 0, 3, 0, []), 14), (14, (1, 0, 1, 0, []), 15), (15, (32, 0, 55, 0, []), 18), (18, (24, 0, 24, 0, []), 21), (21, (7, 1, 2, 0, []), 24), (24, (7, 1, 3, 0, []), 27), (27, (26, 0, 4, 0, []), 30), (30, (1, 0, 2, 0, []), 31), (31, (29, 0, 0, 0, []), 32)]
def mj_c59 : List (Nat × mj_MI × Nat) := [(0, (1, 0, 1, 0, []), 1), (1, (27, 0, 43, 0, [(0, 28), (1, 33), (2, 38)]), 28), (28, (2, 0, 0, 0, []), 29), (29, (15, 0, 5, 0, []), 32), (32, (31, 0, 0, 0, []), 33), (33, (2, 0, 0, 0, []), 34), (34, (15, 0, 5, 1, []), 37), (37, (31, 0, 0, 0, []), 38), (38, (2, 0, 0, 0, []), 39), (39, (15, 0, 5, 3, []), 42), (42, (31, 0, 0, 0, []), 43), (43, (2, 0, 0, 0, []), 44), (44, (15, 0, 5, 4, []), 47), (47, (31, 0, 0, 0, []), 48)]
def mj_c60 : List (Nat × mj_MI × Nat) := [(0, (1, 0, 1, 0, []), 1), (1, (59, 0, 1, 0, []), 4), (4, (1, 0, 0, 0, []), 5), (5, (17, 0, 0, 0, []), 6), (6, (59, 0, 2, 0, []), 9), (9, (1, 0, 0, 0, []), 10), (10, (17, 0, 0, 0, []), 11), (11, (32, 0, 104, 1, []), 14), (14, (29, 0, 0, 1, []), 15)]
def mj_c61 : List (Nat × mj_MI × Nat) := [(0, (2, 0, 0, 0, []), 1), (1, (60, 0, 0, 0, []), 4), (4, (2, 0, 0, 0, []), 5), (5, (36, 0, 5, 0, []), 8), (8, (41, 0, 0, 0, []), 9), (9, (32, 0, 46, 2, []), 12), (12, (62, 0, 6, 0, []), 15), (15, (2, 0, 0, 0, []), 16), (16, (36, 0, 3, 0, []), 19), (19, (41, 0, 0, 0, []), 20), (20, (0, 5, 0, 0, []), 21), (21, (32, 0, 33, 2, []), 24), (24, (62, 0, 6, 1, []), 27), (27, (2, 0, 0, 0, []), 28), (28, (36, 0, 3, 0, []), 31), (31, (41, 0, 0, 0, []), 32), (32, (0, 8, 0, 0, []), 34), (34, (32, 0, 33, 2, []), 37), (37, (62, 0, 6, 2, []), 40), (40, (2, 0, 0, 0, []), 41), (41, (36, 0, 3, 0, []), 44), (44, (41, 0, 0, 0, []), 45), (45, (0, 8, 0, 0, []), 47), (47, (32, 0, 33, 2, []), 50), (50, (62, 0, 6, 3, []), 53), (53, (28, 0, 0, 0, []), 54)]
def mj_c62 : List (Nat × mj_MI × Nat) := [(0, (2, 0, 0, 0, []), 1), (1, (15, 0, 6, 0, []), 4), (4, (2, 0, 1, 0, []), 5), (5, (15, 0, 6, 0, []), 8), (8, (32, 0, 57, 0, []), 11), (11, (2, 0, 0, 0, []), 12), (12, (15, 0, 6, 1, []), 15), (15, (2, 0, 1, 0, []), 16), (16, (15, 0, 6, 1, []), 19), (19, (32, 0, 36, 0, []), 22), (22, (2, 0, 0, 0, []), 23), (23, (15, 0, 6, 2, []), 26), (26, (2, 0, 1, 0, []), 27), (27, (15, 0, 6, 2, []), 30), (30, (32, 0, 36, 0, []), 33), (33, (2, 0, 0, 0, []), 34), (34, (15, 0, 6, 3, []), 37), (37, (2, 0, 1, 0, []), 38), (38, (15, 0, 6, 3, []), 41), (41, (32, 0, 36, 0, []), 44), (44, (28, 0, 0, 0, []), 45)]
def mj_c63 : List (Nat × mj_MI × Nat) := [(0, (2, 0, 0, 0, []), 1), (1, (60, 0, 0, 0, []), 4), (4, (2, 0, 0, 0, []), 5), (5, (0, 60, 0, 0, []), 7), (7, (38, 0, 0, 0, []), 9), (9, (62, 0, 7, 0, []), 12), (12, (2, 0, 0, 0, []), 13), (13, (0, (-1), 0, 0, []), 14), (14, (16, 0, 7, 1, []), 17), (17, (2, 0, 0, 0, []), 18), (18, (0, 0, 0, 0, []), 19), (19, (16, 0, 7, 2, []), 22), (22, (28, 0, 0, 0, []), 23)]
def mj_c64 : List (Nat × mj_MI × Nat) := [(0, (2, 0, 0, 0, []), 1), (1, (1, 0, 1, 0, []), 2), (2, (16, 0, 7, 1, []), 5), (5, (2, 0, 0, 0, []), 6), (6, (1, 0, 2, 0, []), 7), (7, (16, 0, 7, 2, []), 10), (10, (0, 0, 0, 0, []), 11), (11, (4, 0, 3, 0, []), 12), (12, (1, 0, 3, 0, []), 13), (13, (0, 60, 0, 0, []), 15), (15, (25, 0, 31, 3, []), 18), (18, (2, 0, 0, 0, []), 19), (19, (15, 0, 7, 0, []), 22), (22, (1, 0, 3, 0, []), 23), (23, (49, 0, 0, 0, []), 24), (24, (20, 0, 0, 0, []), 25), (25, (7, 1, 3, 0, []), 28), (28, (26, 0, 12, 0, []), 31), (31, (28, 0, 0, 0, []), 32)]
def mj_c65 : List (Nat × mj_MI × Nat) := [(0, (1, 0, 1, 0, []), 1), (1, (0, 0, 0, 0, []), 2), (2, (2, 0, 0, 0, []), 3), (3, (15, 0, 7, 2, []), 6), (6, (0, 1, 0, 0, []), 7), (7, (9, 0, 0, 0, []), 8), (8, (32, 0, 104, 1, []), 11), (11, (29, 0, 0, 1, []), 12)]
def mj_c66 : List (Nat × mj_MI × Nat) := [(0, (1, 0, 2, 0, []), 1), (1, (24, 0, 30, 2, []), 4), (4, (1, 0, 1, 0, []), 5), (5, (0, 0, 0, 0, []), 6), (6, (2, 0, 0, 0, []), 7), (7, (15, 0, 7, 2, []), 10), (10, (32, 0, 104, 1, []), 13), (13, (24, 0, 30, 0, []), 16), (16, (1, 0, 2, 0, []), 17), (17, (2, 0, 0, 0, []), 18), (18, (15, 0, 7, 2, []), 21), (21, (1, 0, 1, 0, []), 22), (22, (9, 0, 0, 0, []), 23), (23, (25, 0, 30, 4, []), 26), (26, (0, 1, 0, 0, []), 27), (27, (26, 0, 31, 0, []), 30), (30, (0, 0, 0, 0, []), 31), (31, (29, 0, 0, 1, []), 32)]
def mj_c67 : List (Nat × mj_MI × Nat) := [(0, (2, 0, 0, 0, []), 1), (1, (15, 0, 7, 1, []), 4), (4, (27, 0, 66, 0, [(0, 40), (1, 45), (2, 50), (3, 66), (4, 54)]), 40), (40, (3, 0, 1, 0, []), 41), (41, (46, 0, 0, 0, []), 42), (42, (47, 0, 0, 0, []), 43), (43, (45, 0, 0, 0, []), 44), (44, (30, 0, 0, 0, []), 45), (45, (3, 0, 1, 0, []), 46), (46, (46, 0, 0, 0, []), 47), (47, (48, 0, 0, 0, []), 48), (48, (45, 0, 0, 0, []), 49), (49, (30, 0, 0, 0, []), 50), (50, (3, 0, 1, 0, []), 51), (51, (46, 0, 0, 0, []), 52), (52, (45, 0, 0, 0, []), 53), (53, (30, 0, 0, 0, []), 54), (54, (3, 0, 1, 0, []), 55), (55, (49, 0, 0, 0, []), 56), (56, (58, 0, 0, 0, []), 57), (57, (24, 0, 64, 0, []), 60), (60, (49, 1, 0, 0, []), 61), (61, (26, 0, 65, 0, []), 64), (64, (49, 0, 0, 0, []), 65), (65, (30, 0, 0, 0, []), 66), (66, (3, 0, 1, 0, []), 67), (67, (30, 0, 0, 0, []), 68)]
def mj_c68 : List (Nat × mj_MI × Nat) := [(0, (2, 0, 0, 0, []), 1), (1, (60, 0, 0, 0, []), 4), (4, (2, 0, 0, 0, []), 5), (5, (36, 0, 6, 0, []), 8), (8, (41, 0, 0, 0, []), 9), (9, (32, 0, 61, 2, []), 12), (12, (62, 0, 8, 0, []), 15), (15, (2, 0, 0, 0, []), 16), (16, (36, 0, 6, 0, []), 19), (19, (41, 0, 0, 0, []), 20), (20, (32, 0, 61, 2, []), 23), (23, (62, 0, 8, 1, []), 26), (26, (2, 0, 0, 0, []), 27), (27, (0, 0, 0, 0, []), 28), (28, (16, 2, 8, 2, []), 31), (31, (2, 0, 0, 0, []), 32), (32, (36, 0, 2, 0, []), 35), (35, (41, 0, 0, 0, []), 36), (36, (32, 0, 11, 2, []), 39), (39, (62, 0, 8, 3, []), 42), (42, (2, 0, 0, 0, []), 43), (43, (0, 0, 0, 0, []), 44), (44, (16, 2, 8, 4, []), 47), (47, (2, 0, 0, 0, []), 48), (48, (36, 0, 5, 0, []), 51), (51, (41, 0, 0, 0, []), 52), (52, (32, 0, 46, 2, []), 55), (55, (62, 0, 8, 5, []), 58), (58, (2, 0, 0, 0, []), 59), (59, (36, 0, 2, 0, []), 62), (62, (41, 0, 0, 0, []), 63), (63, (32, 0, 11, 2, []), 66), (66, (62, 0, 8, 6, []), 69), (69, (2, 0, 0, 0, []), 70), (70, (36, 0, 4, 0, []), 73), (73, (41, 0, 0, 0, []), 74), (74, (32, 0, 37, 2, []), 77), (77, (62, 0, 8, 7, []), 80), (80, (2, 0, 0, 0, []), 81), (81, (0, 6, 0, 0, []), 83), (83, (39, 0, 0, 0, []), 86), (86, (62, 0, 8, 8, []), 89), (89, (0, 0, 0, 0, []), 90), (90, (4, 0, 1, 0, []), 91), (91, (1, 0, 1, 0, []), 92), (92, (0, 6, 0, 0, []), 94), (94, (25, 0, 116, 3, []), 97), (97, (2, 0, 0, 0, []), 98), (98, (15, 0, 8, 8, []), 101), (101, (1, 0, 1, 0, []), 102), (102, (36, 0, 7, 0, []), 105), (105, (41, 0, 0, 0, []), 106), (106, (32, 0, 63, 2, []), 109), (109, (22, 0, 0, 0, []), 110), (110, (7, 1, 1, 0, []), 113), (113, (26, 0, 91, 0, []), 116), (116, (28, 0, 0, 0, []), 117)]
def mj_c69 : List (Nat × mj_MI × Nat) := [(0, (2, 0, 0, 0, []), 1), (1, (0, 0, 0, 0, []), 2), (2, (16, 2, 8, 4, []), 5), (5, (2, 0, 0, 0, []), 6), (6, (15, 0, 8, 0, []), 9), (9, (15, 0, 6, 0, []), 12), (12, (1, 0, 1, 0, []), 13), (13, (1, 0, 2, 0, []), 14), (14, (32, 0, 49, 0, []), 17), (17, (29, 0, 0, 0, []), 18)]
def mj_c70 : List (Nat × mj_MI × Nat) := [(0, (2, 0, 0, 0, []), 1), (1, (0, 0, 0, 0, []), 2), (2, (16, 2, 8, 4, []), 5), (5, (2, 0, 0, 0, []), 6), (6, (15, 0, 8, 0, []), 9), (9, (15, 0, 6, 0, []), 12), (12, (1, 0, 1, 0, []), 13), (13, (1, 0, 2, 0, []), 14), (14, (1, 0, 3, 0, []), 15), (15, (32, 0, 50, 0, []), 18), (18, (29, 0, 0, 0, []), 19)]
def mj_c71 : List (Nat × mj_MI × Nat) := [(0, (2, 0, 0, 0, []), 1), (1, (0, 0, 0, 0, []), 2), (2, (16, 2, 8, 4, []), 5), (5, (2, 0, 0, 0, []), 6), (6, (15, 0, 8, 0, []), 9), (9, (15, 0, 6, 0, []), 12), (12, (1, 0, 1, 0, []), 13), (13, (1, 0, 2, 0, []), 14), (14, (1, 0, 3, 0, []), 15), (15, (32, 0, 51, 0, []), 18), (18, (29, 0, 0, 0, []), 19)]
def mj_c72 : List (Nat × mj_MI × Nat) := [(0, (2, 0, 0, 0, []), 1), (1, (0, 0, 0, 0, []), 2), (2, (16, 2, 8, 4, []), 5), (5, (2, 0, 0, 0, []), 6), (6, (15, 0, 8, 0, []), 9), (9, (15, 0, 6, 0, []), 12), (12, (1, 0, 1, 0, []), 13), (13, (1, 0, 2, 0, []), 14), (14, (32, 0, 52, 0, []), 17), (17, (29, 0, 0, 0, []), 18)]
def mj_c73 : List (Nat × mj_MI × Nat) := [(0, (2, 0, 0, 0, []), 1), (1, (15, 0, 8, 7, []), 4), (4, (1, 0, 1, 0, []), 5), (5, (32, 0, 38, 0, []), 8), (8, (29, 0, 0, 0, []), 9)]
def mj_c74 : List (Nat × mj_MI × Nat) := [(0, (2, 0, 0, 0, []), 1), (1, (15, 0, 8, 7, []), 4), (4, (32, 0, 40, 0, []), 7), (7, (4, 0, 1, 0, []), 8), (8, (0, (-10), 0, 0, []), 10), (10, (2, 0, 0, 0, []), 11), (11, (15, 0, 8, 7, []), 14), (14, (15, 0, 4, 4, []), 17), (17, (9, 0, 0, 0, []), 18), (18, (4, 0, 2, 0, []), 19), (19, (1, 0, 1, 0, []), 20), (20, (24, 0, 43, 0, []), 23), (23, (2, 0, 0, 0, []), 24), (24, (0, 0, 0, 0, []), 25), (25, (16, 2, 8, 4, []), 28), (28, (2, 0, 0, 0, []), 29), (29, (15, 0, 8, 7, []), 32), (32, (2, 0, 0, 0, []), 33), (33, (15, 0, 8, 0, []), 36), (36, (15, 0, 6, 0, []), 39), (39, (32, 0, 41, 0, []), 42), (42, (4, 0, 2, 0, []), 43), (43, (2, 0, 0, 0, []), 44), (44, (15, 0, 8, 7, []), 47), (47, (32, 0, 39, 0, []), 50), (50, (1, 0, 2, 0, []), 51), (51, (29, 0, 0, 0, []), 52)]
def mj_c75 : List (Nat × mj_MI × Nat) := [(0, (2, 0, 0, 0, []), 1), (1, (15, 0, 8, 0, []), 4), (4, (15, 0, 6, 0, []), 7), (7, (5, 0, 3, 0, []), 8), (8, (2, 0, 3, 0, []), 9), (9, (1, 0, 1, 0, []), 10), (10, (32, 0, 47, 0, []), 13), (13, (24, 0, 18, 1, []), 16), (16, (0, (-1), 0, 0, []), 17), (17, (29, 0, 0, 0, []), 18), (18, (2, 0, 0, 0, []), 19), (19, (32, 0, 106, 0, []), 22), (22, (5, 0, 4, 0, []), 24), (24, (1, 0, 2, 0, []), 25), (25, (27, 0, 143, 0, [(0, 76), (1, 83), (2, 90), (3, 98), (4, 106), (5, 113), (6, 121), (7, 129), (8, 137)]), 76), (76, (2, 0, 3, 0, []), 77), (77, (15, 0, 5, 0, []), 80), (80, (1, 0, 1, 0, []), 81), (81, (17, 0, 0, 0, []), 82), (82, (29, 0, 0, 0, []), 83), (83, (2, 0, 3, 0, []), 84), (84, (15, 0, 5, 1, []), 87), (87, (1, 0, 1, 0, []), 88), (88, (17, 0, 0, 0, []), 89), (89, (29, 0, 0, 0, []), 90), (90, (2, 0, 4, 0, []), 92), (92, (15, 0, 2, 2, []), 95), (95, (1, 0, 1, 0, []), 96), (96, (17, 0, 0, 0, []), 97), (97, (29, 0, 0, 0, []), 98), (98, (2, 0, 4, 0, []), 100), (100, (15, 0, 2, 4, []), 103), (103, (1, 0, 1, 0, []), 104), (104, (17, 0, 0, 0, []), 105), (105, (29, 0, 0, 0, []), 106), (106, (2, 0, 4, 0, []), 108), (108, (1, 0, 1, 0, []), 109), (109, (32, 0, 13, 0, []), 112), (112, (29, 0, 0, 0, []), 113), (113, (2, 0, 4, 0, []), 115), (115, (15, 0, 2, 5, []), 118), (118, (1, 0, 1, 0, []), 119), (119, (17, 0, 0, 0, []), 120), (120, (29, 0, 0, 0, []), 121), (121, (2, 0, 4, 0, []), 123), (123, (15, 0, 2, 6, []), 126), (126, (1, 0, 1, 0, []), 127), (127, (17, 0, 0, 0, []), 128), (128, (29, 0, 0, 0, []), 129), (129, (2, 0, 4, 0, []), 131), (131, (15, 0, 2, 3, []), 134), (134, (1, 0, 1, 0, []), 135), (135, (17, 0, 0, 0, []), 136), (136, (29, 0, 0, 0, []), 137), (137, (2, 0, 3, 0, []), 138), (138, (1, 0, 1, 0, []), 139), (139, (32, 0, 54, 0, []), 142), (142, (29, 0, 0, 0, []), 143), (143, (0, (-1), 0, 0, []), 144), (144, (29, 0, 0, 0, []), 145)]
def mj_c76 : List (Nat × mj_MI × Nat) := [(0, (2, 0, 0, 0, []), 1), (1, (15, 0, 8, 0, []), 4), (4, (15, 0, 6, 0, []), 7), (7, (5, 0, 3, 0, []), 8), (8, (2, 0, 3, 0, []), 9), (9, (1, 0, 1, 0, []), 10), (10, (32, 0, 48, 0, []), 13), (13, (24, 0, 18, 1, []), 16), (16, (0, (-1), 0, 0, []), 17), (17, (29, 0, 0, 0, []), 18), (18, (1, 0, 2, 0, []), 19), (19, (27, 0, 79, 0, [(0, 48), (1, 55), (2, 62), (3, 69)]), 48), (48, (2, 0, 3, 0, []), 49), (49, (15, 0, 5, 2, []), 52), (52, (1, 0, 1, 0, []), 53), (53, (17, 0, 0, 0, []), 54), (54, (29, 0, 0, 0, []), 55), (55, (2, 0, 3, 0, []), 56), (56, (15, 0, 5, 3, []), 59), (59, (1, 0, 1, 0, []), 60), (60, (17, 0, 0, 0, []), 61), (61, (29, 0, 0, 0, []), 62), (62, (2, 0, 3, 0, []), 63), (63, (15, 0, 5, 4, []), 66), (66, (1, 0, 1, 0, []), 67), (67, (17, 0, 0, 0, []), 68), (68, (29, 0, 0, 0, []), 69), (69, (2, 0, 0, 0, []), 70), (70, (32, 0, 106, 0, []), 73), (73, (15, 0, 2, 8, []), 76), (76, (1, 0, 1, 0, []), 77), (77, (17, 0, 0, 0, []), 78), (78, (29, 0, 0, 0, []), 79), (79, (0, (-1), 0, 0, []), 80), (80, (29, 0, 0, 0, []), 81)]
def mj_c77 : List (Nat × mj_MI × Nat) := [(0, (2, 0, 0, 0, []), 1), (1, (15, 0, 8, 0, []), 4), (4, (15, 0, 6, 0, []), 7), (7, (1, 0, 1, 0, []), 8), (8, (32, 0, 47, 0, []), 11), (11, (24, 0, 23, 0, []), 14), (14, (1, 0, 3, 0, []), 15), (15, (0, 0, 0, 0, []), 16), (16, (0, 1, 0, 0, []), 17), (17, (32, 0, 104, 1, []), 20), (20, (24, 0, 25, 1, []), 23), (23, (0, (-1), 0, 0, []), 24), (24, (29, 0, 0, 0, []), 25), (25, (1, 0, 2, 0, []), 26), (26, (0, 0, 0, 0, []), 27), (27, (0, 20, 0, 0, []), 29), (29, (32, 0, 104, 1, []), 32), (32, (24, 0, 38, 1, []), 35), (35, (0, (-2), 0, 0, []), 37), (37, (29, 0, 0, 0, []), 38), (38, (2, 0, 0, 0, []), 39), (39, (32, 0, 106, 0, []), 42), (42, (15, 0, 2, 0, []), 45), (45, (5, 0, 4, 0, []), 47), (47, (1, 0, 3, 0, []), 48), (48, (24, 0, 62, 1, []), 51), (51, (2, 0, 4, 0, []), 53), (53, (1, 0, 1, 0, []), 54), (54, (1, 0, 1, 0, []), 55), (55, (1, 0, 2, 0, []), 56), (56, (32, 0, 3, 0, []), 59), (59, (26, 0, 70, 0, []), 62), (62, (2, 0, 4, 0, []), 64), (64, (1, 0, 1, 0, []), 65), (65, (1, 0, 1, 0, []), 66), (66, (1, 0, 2, 0, []), 67), (67, (32, 0, 2, 0, []), 70), (70, (29, 0, 0, 0, []), 71)]
def mj_c78 : List (Nat × mj_MI × Nat) := [(0, (2, 0, 0, 0, []), 1), (1, (32, 0, 106, 0, []), 4), (4, (5, 0, 3, 0, []), 5), (5, (2, 0, 3, 0, []), 6), (6, (15, 0, 2, 1, []), 9), (9, (5, 0, 4, 0, []), 11), (11, (1, 0, 1, 0, []), 12), (12, (0, 0, 0, 0, []), 13), (13, (2, 0, 4, 0, []), 15), (15, (15, 0, 1, 3, []), 18), (18, (0, 1, 0, 0, []), 19), (19, (9, 0, 0, 0, []), 20), (20, (32, 0, 104, 1, []), 23), (23, (24, 0, 28, 1, []), 26), (26, (0, (-1), 0, 0, []), 27), (27, (29, 0, 0, 0, []), 28), (28, (1, 0, 2, 0, []), 29), (29, (27, 0, 119, 0, [(0, 68), (1, 76), (2, 84), (3, 92), (4, 102), (5, 109)]), 68), (68, (2, 0, 4, 0, []), 70), (70, (15, 0, 1, 0, []), 73), (73, (1, 0, 1, 0, []), 74), (74, (17, 0, 0, 0, []), 75), (75, (29, 0, 0, 0, []), 76), (76, (2, 0, 4, 0, []), 78), (78, (15, 0, 1, 1, []), 81), (81, (1, 0, 1, 0, []), 82), (82, (17, 0, 0, 0, []), 83), (83, (29, 0, 0, 0, []), 84), (84, (2, 0, 4, 0, []), 86), (86, (15, 0, 1, 2, []), 89), (89, (1, 0, 1, 0, []), 90), (90, (17, 0, 0, 0, []), 91), (91, (29, 0, 0, 0, []), 92), (92, (2, 0, 3, 0, []), 93), (93, (2, 0, 3, 0, []), 94), (94, (15, 0, 2, 2, []), 97), (97, (1, 0, 1, 0, []), 98), (98, (32, 0, 14, 0, []), 101), (101, (29, 0, 0, 0, []), 102), (102, (2, 0, 3, 0, []), 103), (103, (15, 0, 2, 7, []), 106), (106, (1, 0, 1, 0, []), 107), (107, (17, 0, 0, 0, []), 108), (108, (29, 0, 0, 0, []), 109), (109, (2, 0, 3, 0, []), 110), (110, (2, 0, 3, 0, []), 111), (111, (15, 0, 2, 5, []), 114), (114, (1, 0, 1, 0, []), 115), (115, (32, 0, 14, 0, []), 118), (118, (29, 0, 0, 0, []), 119), (119, (0, (-1), 0, 0, []), 120), (120, (29, 0, 0, 0, []), 121)]
def mj_c79 : List (Nat × mj_MI × Nat) := [(0, (2, 0, 0, 0, []), 1), (1, (15, 0, 8, 0, []), 4), (4, (15, 0, 6, 0, []), 7), (7, (5, 0, 2, 0, []), 8), (8, (2, 0, 0, 0, []), 9), (9, (32, 0, 106, 0, []), 12), (12, (5, 0, 3, 0, []), 13), (13, (1, 0, 1, 0, []), 14), (14, (27, 0, 156, 0, [(0, 80), (1, 85), (2, 90), (3, 97), (4, 104), (5, 111), (6, 118), (7, 126), (8, 131), (9, 136), (10, 141), (11, 146), (12, 151)]), 80), (80, (2, 0, 2, 0, []), 81), (81, (15, 0, 5, 6, []), 84), (84, (29, 0, 0, 0, []), 85), (85, (2, 0, 2, 0, []), 86), (86, (15, 0, 5, 7, []), 89), (89, (29, 0, 0, 0, []), 90), (90, (2, 0, 2, 0, []), 91), (91, (15, 0, 5, 5, []), 94), (94, (0, 0, 0, 0, []), 95), (95, (17, 0, 0, 0, []), 96), (96, (29, 0, 0, 0, []), 97), (97, (2, 0, 2, 0, []), 98), (98, (15, 0, 5, 5, []), 101), (101, (0, 1, 0, 0, []), 102), (102, (17, 0, 0, 0, []), 103), (103, (29, 0, 0, 0, []), 104), (104, (2, 0, 2, 0, []), 105), (105, (15, 0, 5, 5, []), 108), (108, (0, 2, 0, 0, []), 109), (109, (17, 0, 0, 0, []), 110), (110, (29, 0, 0, 0, []), 111), (111, (2, 0, 2, 0, []), 112), (112, (15, 0, 5, 5, []), 115), (115, (0, 3, 0, 0, []), 116), (116, (17, 0, 0, 0, []), 117), (117, (29, 0, 0, 0, []), 118), (118, (2, 0, 3, 0, []), 119), (119, (15, 0, 2, 1, []), 122), (122, (15, 0, 1, 3, []), 125), (125, (29, 0, 0, 0, []), 126), (126, (2, 0, 3, 0, []), 127), (127, (15, 0, 2, 12, []), 130), (130, (29, 0, 0, 0, []), 131), (131, (2, 0, 3, 0, []), 132), (132, (15, 0, 2, 13, []), 135), (135, (29, 0, 0, 0, []), 136), (136, (2, 0, 3, 0, []), 137), (137, (15, 0, 2, 14, []), 140), (140, (29, 0, 0, 0, []), 141), (141, (2, 0, 3, 0, []), 142), (142, (15, 0, 2, 15, []), 145), (145, (29, 0, 0, 0, []), 146), (146, (2, 0, 3, 0, []), 147), (147, (32, 0, 15, 0, []), 150), (150, (29, 0, 0, 0, []), 151), (151, (2, 0, 3, 0, []), 152), (152, (32, 0, 16, 0, []), 155), (155, (29, 0, 0, 0, []), 156), (156, (0, (-1), 0, 0, []), 157), (157, (29, 0, 0, 0, []), 158)]
def mj_c80 : List (Nat × mj_MI × Nat) := [(0, (2, 0, 0, 0, []), 1), (1, (32, 0, 106, 0, []), 4), (4, (15, 0, 2, 16, []), 7), (7, (30, 0, 0, 0, []), 8)]
def mj_c81 : List (Nat × mj_MI × Nat) := [(0, (2, 0, 0, 0, []), 1), (1, (15, 0, 8, 0, []), 4), (4, (15, 0, 6, 0, []), 7), (7, (5, 0, 2, 0, []), 8), (8, (2, 0, 2, 0, []), 9), (9, (1, 0, 1, 0, []), 10), (10, (32, 0, 47, 0, []), 13), (13, (24, 0, 18, 1, []), 16), (16, (0, (-1), 0, 0, []), 17), (17, (29, 0, 0, 0, []), 18), (18, (2, 0, 0, 0, []), 19), (19, (32, 0, 106, 0, []), 22), (22, (15, 0, 2, 0, []), 25), (25, (1, 0, 1, 0, []), 26), (26, (1, 0, 1, 0, []), 27), (27, (2, 0, 2, 0, []), 28), (28, (15, 0, 5, 0, []), 31), (31, (1, 0, 1, 0, []), 32), (32, (17, 0, 0, 0, []), 33), (33, (32, 0, 4, 0, []), 36), (36, (29, 0, 0, 0, []), 37)]
def mj_c82 : List (Nat × mj_MI × Nat) := [(0, (2, 0, 0, 0, []), 1), (1, (15, 0, 8, 0, []), 4), (4, (15, 0, 6, 0, []), 7), (7, (5, 0, 3, 0, []), 8), (8, (2, 0, 3, 0, []), 9), (9, (1, 0, 1, 0, []), 10), (10, (32, 0, 47, 0, []), 13), (13, (24, 0, 24, 0, []), 16), (16, (2, 0, 3, 0, []), 17), (17, (1, 0, 2, 0, []), 18), (18, (32, 0, 47, 0, []), 21), (21, (24, 0, 26, 1, []), 24), (24, (0, (-1), 0, 0, []), 25), (25, (29, 0, 0, 0, []), 26), (26, (2, 0, 0, 0, []), 27), (27, (32, 0, 106, 0, []), 30), (30, (15, 0, 2, 9, []), 33), (33, (1, 0, 1, 0, []), 34), (34, (21, 0, 0, 0, []), 35), (35, (1, 0, 2, 0, []), 36), (36, (17, 0, 0, 0, []), 37), (37, (29, 0, 0, 0, []), 38)]
def mj_c83 : List (Nat × mj_MI × Nat) := [(0, (2, 0, 0, 0, []), 1), (1, (32, 0, 106, 0, []), 4), (4, (5, 0, 3, 0, []), 5), (5, (1, 0, 1, 0, []), 6), (6, (0, (-1), 0, 0, []), 7), (7, (25, 0, 15, 1, []), 10), (10, (2, 0, 3, 0, []), 11), (11, (32, 0, 17, 0, []), 14), (14, (29, 0, 0, 0, []), 15), (15, (1, 0, 1, 0, []), 16), (16, (0, (-1), 0, 0, []), 17), (17, (25, 0, 29, 2, []), 20), (20, (1, 0, 2, 0, []), 21), (21, (0, 0, 0, 0, []), 22), (22, (0, 2, 0, 0, []), 23), (23, (32, 0, 104, 1, []), 26), (26, (24, 0, 31, 1, []), 29), (29, (0, (-1), 0, 0, []), 30), (30, (29, 0, 0, 0, []), 31), (31, (2, 0, 3, 0, []), 32), (32, (1, 0, 1, 0, []), 33), (33, (1, 0, 2, 0, []), 34), (34, (32, 0, 18, 0, []), 37), (37, (29, 0, 0, 0, []), 38)]
def mj_c84 : List (Nat × mj_MI × Nat) := [(0, (2, 0, 0, 0, []), 1), (1, (15, 0, 8, 0, []), 4), (4, (15, 0, 6, 0, []), 7), (7, (5, 0, 2, 0, []), 8), (8, (2, 0, 0, 0, []), 9), (9, (32, 0, 106, 0, []), 12), (12, (5, 0, 3, 0, []), 13), (13, (0, 0, 0, 0, []), 14), (14, (4, 0, 4, 0, []), 16), (16, (1, 0, 4, 0, []), 18), (18, (2, 0, 2, 0, []), 19), (19, (15, 0, 5, 7, []), 22), (22, (25, 0, 45, 3, []), 25), (25, (2, 0, 3, 0, []), 26), (26, (2, 0, 2, 0, []), 27), (27, (1, 0, 4, 0, []), 29), (29, (32, 0, 19, 0, []), 32), (32, (1, 0, 1, 0, []), 33), (33, (25, 0, 39, 1, []), 36), (36, (1, 0, 4, 0, []), 38), (38, (29, 0, 0, 0, []), 39), (39, (7, 1, 4, 0, []), 42), (42, (26, 0, 16, 0, []), 45), (45, (0, (-1), 0, 0, []), 46), (46, (29, 0, 0, 0, []), 47)]
def mj_c85 : List (Nat × mj_MI × Nat) := [(0, (2, 0, 0, 0, []), 1), (1, (15, 0, 8, 0, []), 4), (4, (15, 0, 6, 0, []), 7), (7, (5, 0, 3, 0, []), 8), (8, (2, 0, 3, 0, []), 9), (9, (1, 0, 1, 0, []), 10), (10, (32, 0, 47, 0, []), 13), (13, (24, 0, 20, 0, []), 16), (16, (1, 0, 2, 0, []), 17), (17, (24, 0, 22, 3, []), 20), (20, (0, (-1), 0, 0, []), 21), (21, (29, 0, 0, 0, []), 22), (22, (2, 0, 3, 0, []), 23), (23, (1, 0, 1, 0, []), 24), (24, (1, 0, 2, 0, []), 25), (25, (32, 0, 56, 0, []), 28), (28, (29, 0, 0, 0, []), 29)]
def mj_c86 : List (Nat × mj_MI × Nat) := [(0, (2, 0, 0, 0, []), 1), (1, (15, 0, 8, 0, []), 4), (4, (15, 0, 6, 0, []), 7), (7, (5, 0, 2, 0, []), 8), (8, (2, 0, 2, 0, []), 9), (9, (1, 0, 1, 0, []), 10), (10, (32, 0, 47, 0, []), 13), (13, (24, 0, 30, 0, []), 16), (16, (2, 0, 2, 0, []), 17), (17, (15, 0, 5, 0, []), 20), (20, (1, 0, 1, 0, []), 21), (21, (17, 0, 0, 0, []), 22), (22, (59, 0, 2, 0, []), 25), (25, (0, 0, 0, 0, []), 26), (26, (17, 0, 0, 0, []), 27), (27, (25, 0, 34, 2, []), 30), (30, (49, (-9223372036854775808), 0, 0, []), 33), (33, (30, 0, 0, 0, []), 34), (34, (2, 0, 0, 0, []), 35), (35, (32, 0, 107, 0, []), 38), (38, (2, 0, 0, 0, []), 39), (39, (15, 0, 8, 5, []), 42), (42, (15, 0, 5, 0, []), 45), (45, (1, 0, 1, 0, []), 46), (46, (42, 0, 0, 0, []), 47), (47, (17, 0, 0, 0, []), 48), (48, (0, 1, 0, 0, []), 49), (49, (8, 0, 0, 0, []), 50), (50, (18, 0, 0, 0, []), 51), (51, (2, 0, 0, 0, []), 52), (52, (32, 0, 108, 0, []), 55), (55, (15, 0, 2, 16, []), 58), (58, (2, 0, 0, 0, []), 59), (59, (32, 0, 106, 0, []), 62), (62, (15, 0, 2, 16, []), 65), (65, (51, 0, 0, 0, []), 66), (66, (30, 0, 0, 0, []), 67)]
def mj_c87 : List (Nat × mj_MI × Nat) := [(0, (2, 0, 0, 0, []), 1), (1, (15, 0, 8, 0, []), 4), (4, (15, 0, 6, 0, []), 7), (7, (5, 0, 4, 0, []), 9), (9, (2, 0, 4, 0, []), 11), (11, (1, 0, 1, 0, []), 12), (12, (32, 0, 47, 0, []), 15), (15, (24, 0, 38, 0, []), 18), (18, (2, 0, 4, 0, []), 20), (20, (1, 0, 2, 0, []), 21), (21, (32, 0, 47, 0, []), 24), (24, (24, 0, 38, 0, []), 27), (27, (1, 0, 3, 0, []), 28), (28, (0, (-9), 0, 0, []), 30), (30, (0, 9, 0, 0, []), 32), (32, (32, 0, 104, 1, []), 35), (35, (24, 0, 42, 1, []), 38), (38, (49, (-9223372036854775808), 0, 0, []), 41), (41, (30, 0, 0, 0, []), 42), (42, (2, 0, 0, 0, []), 43), (43, (32, 0, 107, 0, []), 46), (46, (2, 0, 0, 0, []), 47), (47, (15, 0, 8, 5, []), 50), (50, (15, 0, 5, 1, []), 53), (53, (1, 0, 2, 0, []), 54), (54, (0, 0, 0, 0, []), 55), (55, (2, 0, 0, 0, []), 56), (56, (15, 0, 8, 5, []), 59), (59, (15, 0, 5, 1, []), 62), (62, (1, 0, 2, 0, []), 63), (63, (17, 0, 0, 0, []), 64), (64, (1, 0, 3, 0, []), 65), (65, (8, 0, 0, 0, []), 66), (66, (33, 0, 0, 0, []), 69), (69, (18, 0, 0, 0, []), 70), (70, (2, 0, 0, 0, []), 71), (71, (32, 0, 108, 0, []), 74), (74, (1, 0, 1, 0, []), 75), (75, (32, 0, 13, 0, []), 78), (78, (2, 0, 0, 0, []), 79), (79, (32, 0, 106, 0, []), 82), (82, (1, 0, 1, 0, []), 83), (83, (32, 0, 13, 0, []), 86), (86, (9, 0, 0, 0, []), 87), (87, (45, 0, 0, 0, []), 88), (88, (30, 0, 0, 0, []), 89)]
def mj_c88 : List (Nat × mj_MI × Nat) := [(0, (2, 0, 0, 0, []), 1), (1, (2, 0, 0, 0, []), 2), (2, (15, 0, 8, 0, []), 5), (5, (15, 0, 6, 1, []), 8), (8, (1, 0, 1, 0, []), 9), (9, (1, 0, 2, 0, []), 10), (10, (32, 0, 109, 0, []), 13), (13, (29, 0, 0, 0, []), 14)]
def mj_c89 : List (Nat × mj_MI × Nat) := [(0, (2, 0, 0, 0, []), 1), (1, (15, 0, 8, 0, []), 4), (4, (15, 0, 6, 0, []), 7), (7, (1, 0, 1, 0, []), 8), (8, (32, 0, 47, 0, []), 11), (11, (24, 0, 23, 0, []), 14), (14, (1, 0, 2, 0, []), 15), (15, (0, 0, 0, 0, []), 16), (16, (0, 1, 0, 0, []), 17), (17, (32, 0, 104, 1, []), 20), (20, (24, 0, 25, 1, []), 23), (23, (0, (-1), 0, 0, []), 24), (24, (29, 0, 0, 0, []), 25), (25, (0, 0, 0, 0, []), 26), (26, (4, 0, 3, 0, []), 27), (27, (0, (-5), 0, 0, []), 29), (29, (4, 0, 4, 0, []), 31), (31, (2, 0, 0, 0, []), 32), (32, (32, 0, 107, 0, []), 35), (35, (0, 0, 0, 0, []), 36), (36, (4, 0, 5, 0, []), 38), (38, (1, 0, 5, 0, []), 40), (40, (0, 20, 0, 0, []), 42), (42, (25, 0, 97, 4, []), 45), (45, (2, 0, 0, 0, []), 46), (46, (15, 0, 8, 5, []), 49), (49, (15, 0, 5, 1, []), 52), (52, (1, 0, 1, 0, []), 53), (53, (1, 0, 5, 0, []), 55), (55, (18, 0, 0, 0, []), 56), (56, (2, 0, 0, 0, []), 57), (57, (32, 0, 108, 0, []), 60), (60, (2, 0, 0, 0, []), 61), (61, (15, 0, 8, 0, []), 64), (64, (15, 0, 6, 1, []), 67), (67, (32, 0, 20, 0, []), 70), (70, (0, (-5), 0, 0, []), 72), (72, (25, 0, 91, 1, []), 75), (75, (1, 0, 3, 0, []), 76), (76, (24, 0, 84, 1, []), 79), (79, (1, 0, 5, 0, []), 81), (81, (26, 0, 86, 0, []), 84), (84, (1, 0, 4, 0, []), 86), (86, (4, 0, 4, 0, []), 88), (88, (7, 1, 3, 0, []), 91), (91, (7, 2, 5, 0, []), 94), (94, (26, 0, 38, 0, []), 97), (97, (1, 0, 2, 0, []), 98), (98, (24, 0, 105, 1, []), 101), (101, (1, 0, 3, 0, []), 102), (102, (26, 0, 107, 0, []), 105), (105, (1, 0, 4, 0, []), 107), (107, (29, 0, 0, 0, []), 108)]
def mj_c90 : List (Nat × mj_MI × Nat) := [(0, (2, 0, 0, 0, []), 1), (1, (15, 0, 8, 0, []), 4), (4, (15, 0, 6, 0, []), 7), (7, (1, 0, 1, 0, []), 8), (8, (32, 0, 47, 0, []), 11), (11, (24, 0, 23, 0, []), 14), (14, (1, 0, 2, 0, []), 15), (15, (0, 0, 0, 0, []), 16), (16, (0, 1, 0, 0, []), 17), (17, (32, 0, 104, 1, []), 20), (20, (24, 0, 27, 1, []), 23), (23, (49, (-9223372036854775808), 0, 0, []), 26), (26, (30, 0, 0, 0, []), 27), (27, (0, 0, 0, 0, []), 28), (28, (4, 0, 3, 0, []), 29), (29, (2, 0, 0, 0, []), 30), (30, (32, 0, 107, 0, []), 33), (33, (0, 0, 0, 0, []), 34), (34, (4, 0, 4, 0, []), 36), (36, (1, 0, 4, 0, []), 38), (38, (0, 10, 0, 0, []), 40), (40, (25, 0, 83, 3, []), 43), (43, (2, 0, 0, 0, []), 44), (44, (15, 0, 8, 5, []), 47), (47, (15, 0, 5, 0, []), 50), (50, (1, 0, 1, 0, []), 51), (51, (1, 0, 4, 0, []), 53), (53, (18, 0, 0, 0, []), 54), (54, (2, 0, 0, 0, []), 55), (55, (32, 0, 108, 0, []), 58), (58, (1, 0, 1, 0, []), 59), (59, (32, 0, 13, 0, []), 62), (62, (2, 0, 0, 0, []), 63), (63, (15, 0, 8, 5, []), 66), (66, (15, 0, 5, 5, []), 69), (69, (0, 1, 0, 0, []), 70), (70, (17, 0, 0, 0, []), 71), (71, (25, 0, 77, 5, []), 74), (74, (7, 1, 3, 0, []), 77), (77, (7, 1, 4, 0, []), 80), (80, (26, 0, 36, 0, []), 83), (83, (1, 0, 3, 0, []), 84), (84, (0, 10, 0, 0, []), 86), (86, (1, 0, 2, 0, []), 87), (87, (32, 0, 110, 1, []), 90), (90, (30, 0, 0, 0, []), 91)]
def mj_c91 : List (Nat × mj_MI × Nat) := [(0, (2, 0, 0, 0, []), 1), (1, (15, 0, 8, 0, []), 4), (4, (15, 0, 6, 0, []), 7), (7, (15, 0, 5, 6, []), 10), (10, (4, 0, 2, 0, []), 11), (11, (1, 0, 2, 0, []), 12), (12, (24, 0, 24, 0, []), 15), (15, (1, 0, 1, 0, []), 16), (16, (0, 0, 0, 0, []), 17), (17, (0, 1, 0, 0, []), 18), (18, (32, 0, 104, 1, []), 21), (21, (24, 0, 28, 1, []), 24), (24, (49, (-9223372036854775808), 0, 0, []), 27), (27, (30, 0, 0, 0, []), 28), (28, (2, 0, 0, 0, []), 29), (29, (32, 0, 106, 0, []), 32), (32, (5, 0, 3, 0, []), 33), (33, (0, 0, 0, 0, []), 34), (34, (4, 0, 4, 0, []), 36), (36, (0, 0, 0, 0, []), 37), (37, (4, 0, 5, 0, []), 39), (39, (1, 0, 5, 0, []), 41), (41, (1, 0, 2, 0, []), 42), (42, (25, 0, 62, 3, []), 45), (45, (1, 0, 4, 0, []), 47), (47, (2, 0, 3, 0, []), 48), (48, (1, 0, 5, 0, []), 50), (50, (32, 0, 13, 0, []), 53), (53, (8, 0, 0, 0, []), 54), (54, (4, 0, 4, 0, []), 56), (56, (7, 1, 5, 0, []), 59), (59, (26, 0, 39, 0, []), 62), (62, (1, 0, 4, 0, []), 64), (64, (1, 0, 2, 0, []), 65), (65, (1, 0, 1, 0, []), 66), (66, (32, 0, 110, 1, []), 69), (69, (30, 0, 0, 0, []), 70)]
def mj_c92 : List (Nat × mj_MI × Nat) := [(0, (1, 0, 1, 0, []), 1), (1, (0, (-1), 0, 0, []), 2), (2, (25, 0, 16, 1, []), 5), (5, (2, 0, 0, 0, []), 6), (6, (15, 0, 8, 0, []), 9), (9, (15, 0, 6, 2, []), 12), (12, (32, 0, 35, 0, []), 15), (15, (29, 0, 0, 0, []), 16), (16, (1, 0, 1, 0, []), 17), (17, (0, 0, 0, 0, []), 18), (18, (0, 3, 0, 0, []), 19), (19, (32, 0, 104, 1, []), 22), (22, (24, 0, 27, 1, []), 25), (25, (0, (-1), 0, 0, []), 26), (26, (29, 0, 0, 0, []), 27), (27, (1, 0, 1, 0, []), 28), (28, (0, 1, 0, 0, []), 29), (29, (25, 0, 48, 4, []), 32), (32, (2, 0, 0, 0, []), 33), (33, (15, 0, 8, 0, []), 36), (36, (15, 0, 6, 0, []), 39), (39, (1, 0, 2, 0, []), 40), (40, (32, 0, 47, 0, []), 43), (43, (24, 0, 48, 1, []), 46), (46, (0, (-1), 0, 0, []), 47), (47, (29, 0, 0, 0, []), 48), (48, (1, 0, 1, 0, []), 49), (49, (0, 2, 0, 0, []), 50), (50, (25, 0, 69, 1, []), 53), (53, (1, 0, 2, 0, []), 54), (54, (0, 0, 0, 0, []), 55), (55, (59, 0, 3, 0, []), 58), (58, (0, 3, 0, 0, []), 59), (59, (17, 0, 0, 0, []), 60), (60, (32, 0, 104, 1, []), 63), (63, (24, 0, 69, 1, []), 66), (66, (0, (-2), 0, 0, []), 68), (68, (29, 0, 0, 0, []), 69), (69, (1, 0, 1, 0, []), 70), (70, (0, 3, 0, 0, []), 71), (71, (25, 0, 90, 1, []), 74), (74, (1, 0, 2, 0, []), 75), (75, (0, 0, 0, 0, []), 76), (76, (59, 0, 3, 0, []), 79), (79, (0, 0, 0, 0, []), 80), (80, (17, 0, 0, 0, []), 81), (81, (32, 0, 104, 1, []), 84), (84, (24, 0, 90, 1, []), 87), (87, (0, (-2), 0, 0, []), 89), (89, (29, 0, 0, 0, []), 90), (90, (2, 0, 0, 0, []), 91), (91, (15, 0, 8, 0, []), 94), (94, (15, 0, 6, 2, []), 97), (97, (1, 0, 1, 0, []), 98), (98, (1, 0, 2, 0, []), 99), (99, (32, 0, 34, 0, []), 102), (102, (29, 0, 0, 0, []), 103)]
def mj_c93 : List (Nat × mj_MI × Nat) := [(0, (1, 0, 1, 0, []), 1), (1, (0, 0, 0, 0, []), 2), (2, (0, 2, 0, 0, []), 3), (3, (32, 0, 104, 1, []), 6), (6, (24, 0, 13, 1, []), 9), (9, (49, (-9223372036854775808), 0, 0, []), 12), (12, (30, 0, 0, 0, []), 13), (13, (2, 0, 0, 0, []), 14), (14, (32, 0, 107, 0, []), 17), (17, (0, 0, 0, 0, []), 18), (18, (4, 0, 2, 0, []), 19), (19, (1, 0, 2, 0, []), 20), (20, (2, 0, 0, 0, []), 21), (21, (15, 0, 8, 0, []), 24), (24, (15, 0, 6, 2, []), 27), (27, (15, 0, 3, 2, []), 30), (30, (25, 0, 70, 3, []), 33), (33, (2, 0, 0, 0, []), 34), (34, (15, 0, 8, 5, []), 37), (37, (2, 0, 0, 0, []), 38), (38, (15, 0, 8, 0, []), 41), (41, (15, 0, 6, 2, []), 44), (44, (15, 0, 3, 0, []), 47), (47, (1, 0, 2, 0, []), 48), (48, (17, 0, 0, 0, []), 49), (49, (2, 0, 0, 0, []), 50), (50, (15, 0, 8, 0, []), 53), (53, (15, 0, 6, 2, []), 56), (56, (15, 0, 3, 1, []), 59), (59, (1, 0, 2, 0, []), 60), (60, (17, 0, 0, 0, []), 61), (61, (32, 0, 53, 0, []), 64), (64, (7, 1, 2, 0, []), 67), (67, (26, 0, 19, 0, []), 70), (70, (2, 0, 0, 0, []), 71), (71, (32, 0, 108, 0, []), 74), (74, (5, 0, 2, 0, []), 75), (75, (1, 0, 1, 0, []), 76), (76, (27, 0, 118, 0, [(0, 104), (1, 109)]), 104), (104, (2, 0, 2, 0, []), 105), (105, (15, 0, 2, 16, []), 108), (108, (30, 0, 0, 0, []), 109), (109, (2, 0, 2, 0, []), 110), (110, (15, 0, 2, 1, []), 113), (113, (15, 0, 1, 3, []), 116), (116, (45, 0, 0, 0, []), 117), (117, (30, 0, 0, 0, []), 118), (118, (2, 0, 2, 0, []), 119), (119, (15, 0, 2, 12, []), 122), (122, (45, 0, 0, 0, []), 123), (123, (30, 0, 0, 0, []), 124)]
def mj_c94 : List (Nat × mj_MI × Nat) := [(0, (2, 0, 0, 0, []), 1), (1, (2, 0, 0, 0, []), 2), (2, (15, 0, 8, 0, []), 5), (5, (15, 0, 6, 3, []), 8), (8, (1, 0, 1, 0, []), 9), (9, (1, 0, 2, 0, []), 10), (10, (32, 0, 109, 0, []), 13), (13, (29, 0, 0, 0, []), 14)]
def mj_c95 : List (Nat × mj_MI × Nat) := [(0, (2, 0, 0, 0, []), 1), (1, (32, 0, 106, 0, []), 4), (4, (2, 0, 0, 0, []), 5), (5, (15, 0, 8, 0, []), 8), (8, (15, 0, 6, 3, []), 11), (11, (32, 0, 20, 0, []), 14), (14, (29, 0, 0, 0, []), 15)]
def mj_c96 : List (Nat × mj_MI × Nat) := [(0, (1, 0, 1, 0, []), 1), (1, (32, 0, 105, 1, []), 4), (4, (24, 0, 9, 1, []), 7), (7, (0, (-1), 0, 0, []), 8), (8, (29, 0, 0, 0, []), 9), (9, (2, 0, 0, 0, []), 10), (10, (15, 0, 8, 8, []), 13), (13, (1, 0, 1, 0, []), 14), (14, (21, 0, 0, 0, []), 15), (15, (5, 0, 3, 0, []), 16), (16, (2, 0, 3, 0, []), 17), (17, (15, 0, 7, 1, []), 20), (20, (0, (-1), 0, 0, []), 21), (21, (25, 0, 35, 0, []), 24), (24, (2, 0, 3, 0, []), 25), (25, (15, 0, 7, 1, []), 28), (28, (0, 3, 0, 0, []), 29), (29, (25, 0, 35, 0, []), 32), (32, (0, (-12), 0, 0, []), 34), (34, (29, 0, 0, 0, []), 35), (35, (2, 0, 0, 0, []), 36), (36, (32, 0, 106, 0, []), 39), (39, (5, 0, 4, 0, []), 41), (41, (0, 0, 0, 0, []), 42), (42, (4, 0, 5, 0, []), 44), (44, (1, 0, 5, 0, []), 46), (46, (2, 0, 0, 0, []), 47), (47, (15, 0, 8, 0, []), 50), (50, (15, 0, 6, 0, []), 53), (53, (15, 0, 5, 6, []), 56), (56, (25, 0, 106, 3, []), 59), (59, (2, 0, 3, 0, []), 60), (60, (1, 0, 2, 0, []), 61), (61, (1, 0, 5, 0, []), 63), (63, (8, 0, 0, 0, []), 64), (64, (32, 0, 65, 0, []), 67), (67, (24, 0, 76, 1, []), 70), (70, (0, 100, 0, 0, []), 72), (72, (1, 0, 5, 0, []), 74), (74, (8, 0, 0, 0, []), 75), (75, (29, 0, 0, 0, []), 76), (76, (2, 0, 3, 0, []), 77), (77, (15, 0, 7, 0, []), 80), (80, (1, 0, 2, 0, []), 81), (81, (1, 0, 5, 0, []), 83), (83, (8, 0, 0, 0, []), 84), (84, (19, 0, 0, 0, []), 85), (85, (2, 0, 4, 0, []), 87), (87, (1, 0, 5, 0, []), 89), (89, (32, 0, 13, 0, []), 92), (92, (45, 0, 0, 0, []), 93), (93, (58, 0, 0, 0, []), 94), (94, (24, 0, 100, 0, []), 97), (97, (1, 0, 5, 0, []), 99), (99, (29, 0, 0, 0, []), 100), (100, (7, 1, 5, 0, []), 103), (103, (26, 0, 44, 0, []), 106), (106, (0, (-5), 0, 0, []), 108), (108, (29, 0, 0, 0, []), 109)]
def mj_c97 : List (Nat × mj_MI × Nat) := [(0, (2, 0, 0, 0, []), 1), (1, (15, 0, 8, 1, []), 4), (4, (2, 0, 0, 0, []), 5), (5, (15, 0, 8, 0, []), 8), (8, (32, 0, 62, 0, []), 11), (11, (2, 0, 0, 0, []), 12), (12, (0, 1, 0, 0, []), 13), (13, (16, 2, 8, 2, []), 16), (16, (2, 0, 0, 0, []), 17), (17, (15, 0, 8, 0, []), 20), (20, (15, 0, 6, 0, []), 23), (23, (15, 0, 5, 6, []), 26), (26, (29, 0, 0, 0, []), 27)]
def mj_c98 : List (Nat × mj_MI × Nat) := [(0, (2, 0, 0, 0, []), 1), (1, (15, 0, 8, 2, []), 4), (4, (24, 0, 10, 1, []), 7), (7, (0, (-3), 0, 0, []), 9), (9, (29, 0, 0, 0, []), 10), (10, (2, 0, 0, 0, []), 11), (11, (0, 0, 0, 0, []), 12), (12, (16, 2, 8, 4, []), 15), (15, (2, 0, 0, 0, []), 16), (16, (15, 0, 8, 0, []), 19), (19, (2, 0, 0, 0, []), 20), (20, (15, 0, 8, 1, []), 23), (23, (32, 0, 62, 0, []), 26), (26, (2, 0, 0, 0, []), 27), (27, (15, 0, 8, 0, []), 30), (30, (15, 0, 6, 0, []), 33), (33, (15, 0, 5, 6, []), 36), (36, (29, 0, 0, 0, []), 37)]
def mj_c99 : List (Nat × mj_MI × Nat) := [(0, (1, 0, 1, 0, []), 1), (1, (27, 0, 73, 0, [(0, 32), (1, 43), (2, 54), (3, 65)]), 32), (32, (2, 0, 0, 0, []), 33), (33, (15, 0, 8, 0, []), 36), (36, (15, 0, 6, 1, []), 39), (39, (15, 0, 3, 2, []), 42), (42, (29, 0, 0, 0, []), 43), (43, (2, 0, 0, 0, []), 44), (44, (15, 0, 8, 0, []), 47), (47, (15, 0, 6, 2, []), 50), (50, (15, 0, 3, 2, []), 53), (53, (29, 0, 0, 0, []), 54), (54, (2, 0, 0, 0, []), 55), (55, (15, 0, 8, 0, []), 58), (58, (15, 0, 6, 3, []), 61), (61, (15, 0, 3, 2, []), 64), (64, (29, 0, 0, 0, []), 65), (65, (2, 0, 0, 0, []), 66), (66, (15, 0, 8, 7, []), 69), (69, (15, 0, 4, 3, []), 72), (72, (29, 0, 0, 0, []), 73), (73, (0, (-2), 0, 0, []), 75), (75, (29, 0, 0, 0, []), 76)]
def mj_c100 : List (Nat × mj_MI × Nat) := [(0, (1, 0, 1, 0, []), 1), (1, (32, 0, 105, 1, []), 4), (4, (24, 0, 9, 1, []), 7), (7, (0, (-1), 0, 0, []), 8), (8, (29, 0, 0, 0, []), 9), (9, (1, 0, 2, 0, []), 10), (10, (0, (-1), 0, 0, []), 11), (11, (25, 0, 27, 1, []), 14), (14, (2, 0, 0, 0, []), 15), (15, (15, 0, 8, 8, []), 18), (18, (1, 0, 1, 0, []), 19), (19, (21, 0, 0, 0, []), 20), (20, (0, (-1), 0, 0, []), 21), (21, (0, 0, 0, 0, []), 22), (22, (32, 0, 64, 0, []), 25), (25, (0, 1, 0, 0, []), 26), (26, (29, 0, 0, 0, []), 27), (27, (1, 0, 2, 0, []), 28), (28, (0, 0, 0, 0, []), 29), (29, (0, 4, 0, 0, []), 30), (30, (32, 0, 104, 1, []), 33), (33, (24, 0, 42, 0, []), 36), (36, (1, 0, 3, 0, []), 37), (37, (0, 60, 0, 0, []), 39), (39, (25, 0, 45, 5, []), 42), (42, (0, (-2), 0, 0, []), 44), (44, (29, 0, 0, 0, []), 45), (45, (1, 0, 3, 0, []), 46), (46, (24, 0, 52, 3, []), 49), (49, (0, (-14), 0, 0, []), 51), (51, (29, 0, 0, 0, []), 52), (52, (2, 0, 0, 0, []), 53), (53, (15, 0, 8, 8, []), 56), (56, (1, 0, 1, 0, []), 57), (57, (21, 0, 0, 0, []), 58), (58, (1, 0, 2, 0, []), 59), (59, (1, 0, 3, 0, []), 60), (60, (32, 0, 64, 0, []), 63), (63, (0, 1, 0, 0, []), 64), (64, (29, 0, 0, 0, []), 65)]
def mj_c101 : List (Nat × mj_MI × Nat) := [(0, (1, 0, 1, 0, []), 1), (1, (32, 0, 105, 1, []), 4), (4, (24, 0, 9, 1, []), 7), (7, (0, (-1), 0, 0, []), 8), (8, (29, 0, 0, 0, []), 9), (9, (2, 0, 0, 0, []), 10), (10, (15, 0, 8, 8, []), 13), (13, (1, 0, 1, 0, []), 14), (14, (21, 0, 0, 0, []), 15), (15, (5, 0, 5, 0, []), 17), (17, (2, 0, 5, 0, []), 19), (19, (15, 0, 7, 1, []), 22), (22, (0, (-1), 0, 0, []), 23), (23, (25, 0, 29, 1, []), 26), (26, (0, (-11), 0, 0, []), 28), (28, (29, 0, 0, 0, []), 29), (29, (2, 0, 5, 0, []), 31), (31, (1, 0, 2, 0, []), 32), (32, (32, 0, 65, 0, []), 35), (35, (24, 0, 41, 1, []), 38), (38, (0, (-13), 0, 0, []), 40), (40, (29, 0, 0, 0, []), 41), (41, (2, 0, 5, 0, []), 43), (43, (15, 0, 7, 0, []), 46), (46, (1, 0, 2, 0, []), 47), (47, (2, 0, 5, 0, []), 49), (49, (3, 0, 3, 0, []), 50), (50, (32, 0, 67, 0, []), 53), (53, (20, 0, 0, 0, []), 54), (54, (0, 1, 0, 0, []), 55), (55, (29, 0, 0, 0, []), 56)]
def mj_c102 : List (Nat × mj_MI × Nat) := [(0, (1, 0, 1, 0, []), 1), (1, (32, 0, 105, 1, []), 4), (4, (24, 0, 20, 0, []), 7), (7, (2, 0, 0, 0, []), 8), (8, (15, 0, 8, 8, []), 11), (11, (1, 0, 1, 0, []), 12), (12, (21, 0, 0, 0, []), 13), (13, (1, 0, 2, 0, []), 14), (14, (32, 0, 65, 0, []), 17), (17, (24, 0, 24, 1, []), 20), (20, (49, (-9223372036854775808), 0, 0, []), 23), (23, (30, 0, 0, 0, []), 24), (24, (2, 0, 0, 0, []), 25), (25, (15, 0, 8, 8, []), 28), (28, (1, 0, 1, 0, []), 29), (29, (21, 0, 0, 0, []), 30), (30, (15, 0, 7, 0, []), 33), (33, (1, 0, 2, 0, []), 34), (34, (19, 0, 0, 0, []), 35), (35, (30, 0, 0, 0, []), 36)]
def mj_c103 : List (Nat × mj_MI × Nat) := [(0, (1, 0, 1, 0, []), 1), (1, (32, 0, 105, 1, []), 4), (4, (24, 0, 14, 0, []), 7), (7, (1, 0, 3, 0, []), 8), (8, (32, 0, 105, 1, []), 11), (11, (24, 0, 16, 1, []), 14), (14, (0, (-1), 0, 0, []), 15), (15, (29, 0, 0, 0, []), 16), (16, (2, 0, 0, 0, []), 17), (17, (15, 0, 8, 8, []), 20), (20, (1, 0, 1, 0, []), 21), (21, (21, 0, 0, 0, []), 22), (22, (5, 0, 6, 0, []), 24), (24, (2, 0, 0, 0, []), 25), (25, (15, 0, 8, 8, []), 28), (28, (1, 0, 3, 0, []), 29), (29, (21, 0, 0, 0, []), 30), (30, (5, 0, 7, 0, []), 32), (32, (2, 0, 6, 0, []), 34), (34, (15, 0, 7, 1, []), 37), (37, (0, (-1), 0, 0, []), 38), (38, (25, 0, 50, 0, []), 41), (41, (2, 0, 7, 0, []), 43), (43, (15, 0, 7, 1, []), 46), (46, (0, (-1), 0, 0, []), 47), (47, (25, 0, 53, 1, []), 50), (50, (0, (-11), 0, 0, []), 52), (52, (29, 0, 0, 0, []), 53), (53, (2, 0, 6, 0, []), 55), (55, (15, 0, 7, 1, []), 58), (58, (2, 0, 7, 0, []), 60), (60, (15, 0, 7, 1, []), 63), (63, (25, 0, 69, 0, []), 66), (66, (0, (-12), 0, 0, []), 68), (68, (29, 0, 0, 0, []), 69), (69, (2, 0, 6, 0, []), 71), (71, (1, 0, 2, 0, []), 72), (72, (1, 0, 5, 0, []), 74), (74, (32, 0, 66, 0, []), 77), (77, (24, 0, 92, 0, []), 80), (80, (2, 0, 7, 0, []), 82), (82, (1, 0, 4, 0, []), 84), (84, (1, 0, 5, 0, []), 86), (86, (32, 0, 66, 0, []), 89), (89, (24, 0, 95, 1, []), 92), (92, (0, (-13), 0, 0, []), 94), (94, (29, 0, 0, 0, []), 95), (95, (2, 0, 6, 0, []), 97), (97, (15, 0, 7, 0, []), 100), (100, (1, 0, 2, 0, []), 101), (101, (2, 0, 7, 0, []), 103), (103, (15, 0, 7, 0, []), 106), (106, (1, 0, 4, 0, []), 108), (108, (1, 0, 5, 0, []), 110), (110, (35, 0, 0, 0, []), 113), (113, (1, 0, 5, 0, []), 115), (115, (29, 0, 0, 0, []), 116)]
def mj_c104 : List (Nat × mj_MI × Nat) := [(0, (1, 0, 0, 0, []), 1), (1, (1, 0, 1, 0, []), 2), (2, (25, 0, 14, 2, []), 5), (5, (1, 0, 0, 0, []), 6), (6, (1, 0, 2, 0, []), 7), (7, (25, 0, 14, 4, []), 10), (10, (0, 1, 0, 0, []), 11), (11, (26, 0, 15, 0, []), 14), (14, (0, 0, 0, 0, []), 15), (15, (29, 0, 0, 1, []), 16)]
def mj_c105 : List (Nat × mj_MI × Nat) := [(0, (1, 0, 0, 0, []), 1), (1, (0, 0, 0, 0, []), 2), (2, (0, 5, 0, 0, []), 3), (3, (32, 0, 104, 1, []), 6), (6, (29, 0, 0, 1, []), 7)]
def mj_c106 : List (Nat × mj_MI × Nat) := [(0, (2, 0, 0, 0, []), 1), (1, (15, 0, 8, 4, []), 4), (4, (24, 0, 26, 1, []), 7), (7, (2, 0, 0, 0, []), 8), (8, (15, 0, 8, 3, []), 11), (11, (2, 0, 0, 0, []), 12), (12, (15, 0, 8, 0, []), 15), (15, (15, 0, 6, 0, []), 18), (18, (32, 0, 12, 0, []), 21), (21, (2, 0, 0, 0, []), 22), (22, (0, 1, 0, 0, []), 23), (23, (16, 2, 8, 4, []), 26), (26, (2, 0, 0, 0, []), 27), (27, (15, 0, 8, 3, []), 30), (30, (31, 0, 0, 0, []), 31)]
def mj_c107 : List (Nat × mj_MI × Nat) := [(0, (2, 0, 0, 0, []), 1), (1, (15, 0, 8, 5, []), 4), (4, (2, 0, 0, 0, []), 5), (5, (15, 0, 8, 0, []), 8), (8, (15, 0, 6, 0, []), 11), (11, (32, 0, 57, 0, []), 14), (14, (28, 0, 0, 0, []), 15)]
def mj_c108 : List (Nat × mj_MI × Nat) := [(0, (2, 0, 0, 0, []), 1), (1, (15, 0, 8, 6, []), 4), (4, (2, 0, 0, 0, []), 5), (5, (15, 0, 8, 5, []), 8), (8, (32, 0, 12, 0, []), 11), (11, (2, 0, 0, 0, []), 12), (12, (15, 0, 8, 6, []), 15), (15, (31, 0, 0, 0, []), 16)]
def mj_c109 : List (Nat × mj_MI × Nat) := [(0, (1, 0, 2, 0, []), 1), (1, (0, (-1), 0, 0, []), 2), (2, (25, 0, 10, 1, []), 5), (5, (2, 0, 1, 0, []), 6), (6, (32, 0, 35, 0, []), 9), (9, (29, 0, 0, 0, []), 10), (10, (2, 0, 0, 0, []), 11), (11, (15, 0, 8, 0, []), 14), (14, (15, 0, 6, 0, []), 17), (17, (1, 0, 2, 0, []), 18), (18, (32, 0, 47, 0, []), 21), (21, (24, 0, 26, 1, []), 24), (24, (0, (-1), 0, 0, []), 25), (25, (29, 0, 0, 0, []), 26), (26, (1, 0, 3, 0, []), 27), (27, (0, 0, 0, 0, []), 28), (28, (0, 20, 0, 0, []), 30), (30, (32, 0, 104, 1, []), 33), (33, (24, 0, 39, 1, []), 36), (36, (0, (-2), 0, 0, []), 38), (38, (29, 0, 0, 0, []), 39), (39, (2, 0, 1, 0, []), 40), (40, (1, 0, 2, 0, []), 41), (41, (1, 0, 3, 0, []), 42), (42, (32, 0, 34, 0, []), 45), (45, (29, 0, 0, 0, []), 46)]
def mj_c110 : List (Nat × mj_MI × Nat) := [(0, (0, 1, 0, 0, []), 1), (1, (4, 0, 3, 0, []), 2), (2, (0, 2, 0, 0, []), 3), (3, (4, 0, 4, 0, []), 5), (5, (1, 0, 4, 0, []), 7), (7, (1, 0, 1, 0, []), 8), (8, (25, 0, 34, 4, []), 11), (11, (1, 0, 0, 0, []), 12), (12, (1, 0, 4, 0, []), 14), (14, (12, 0, 0, 0, []), 15), (15, (24, 0, 28, 1, []), 18), (18, (1, 0, 1, 0, []), 19), (19, (1, 0, 4, 0, []), 21), (21, (12, 0, 0, 0, []), 22), (22, (24, 0, 28, 1, []), 25), (25, (1, 0, 4, 0, []), 27), (27, (4, 0, 3, 0, []), 28), (28, (7, 1, 4, 0, []), 31), (31, (26, 0, 5, 0, []), 34), (34, (1, 0, 2, 0, []), 35), (35, (24, 0, 45, 1, []), 38), (38, (1, 0, 0, 0, []), 39), (39, (1, 0, 3, 0, []), 40), (40, (11, 0, 0, 0, []), 41), (41, (45, 0, 0, 0, []), 42), (42, (26, 0, 49, 0, []), 45), (45, (1, 0, 1, 0, []), 46), (46, (1, 0, 3, 0, []), 47), (47, (11, 0, 0, 0, []), 48), (48, (45, 0, 0, 0, []), 49), (49, (30, 0, 0, 0, []), 50)]
def mj_c111 : List (Nat × mj_MI × Nat) := [(0, (2, 0, 0, 0, []), 1), (1, (60, 0, 0, 0, []), 4), (4, (2, 0, 0, 0, []), 5), (5, (0, 91, 0, 0, []), 7), (7, (37, 0, 0, 0, []), 9), (9, (62, 0, 9, 0, []), 12), (12, (2, 0, 0, 0, []), 13), (13, (0, 91, 0, 0, []), 15), (15, (37, 0, 0, 0, []), 17), (17, (62, 0, 9, 1, []), 20), (20, (2, 0, 0, 0, []), 21), (21, (0, 91, 0, 0, []), 23), (23, (37, 0, 0, 0, []), 25), (25, (62, 0, 9, 2, []), 28), (28, (2, 0, 0, 0, []), 29), (29, (0, 5, 0, 0, []), 30), (30, (37, 0, 0, 0, []), 32), (32, (62, 0, 9, 4, []), 35), (35, (2, 0, 0, 0, []), 36), (36, (0, 5, 0, 0, []), 37), (37, (37, 0, 0, 0, []), 39), (39, (62, 0, 9, 5, []), 42), (42, (2, 0, 0, 0, []), 43), (43, (0, 5, 0, 0, []), 44), (44, (37, 0, 0, 0, []), 46), (46, (62, 0, 9, 6, []), 49), (49, (2, 0, 0, 0, []), 50), (50, (0, 5, 0, 0, []), 51), (51, (37, 0, 0, 0, []), 53), (53, (62, 0, 9, 7, []), 56), (56, (2, 0, 0, 0, []), 57), (57, (0, 5, 0, 0, []), 58), (58, (37, 0, 0, 0, []), 60), (60, (62, 0, 9, 8, []), 63), (63, (2, 0, 0, 0, []), 64), (64, (0, 5, 0, 0, []), 65), (65, (37, 0, 0, 0, []), 67), (67, (62, 0, 9, 9, []), 70), (70, (2, 0, 0, 0, []), 71), (71, (0, 5, 0, 0, []), 72), (72, (37, 0, 0, 0, []), 74), (74, (62, 0, 9, 10, []), 77), (77, (2, 0, 0, 0, []), 78), (78, (0, 5, 0, 0, []), 79), (79, (37, 0, 0, 0, []), 81), (81, (62, 0, 9, 11, []), 84), (84, (2, 0, 0, 0, []), 85), (85, (0, 5, 0, 0, []), 86), (86, (37, 0, 0, 0, []), 88), (88, (62, 0, 9, 12, []), 91), (91, (2, 0, 0, 0, []), 92), (92, (0, 5, 0, 0, []), 93), (93, (37, 0, 0, 0, []), 95), (95, (62, 0, 9, 13, []), 98), (98, (2, 0, 0, 0, []), 99), (99, (0, 10, 0, 0, []), 101), (101, (37, 0, 0, 0, []), 103), (103, (62, 0, 9, 14, []), 106), (106, (2, 0, 0, 0, []), 107), (107, (0, 25, 0, 0, []), 109), (109, (37, 0, 0, 0, []), 111), (111, (62, 0, 9, 15, []), 114), (114, (2, 0, 0, 0, []), 115), (115, (0, 10, 0, 0, []), 117), (117, (37, 0, 0, 0, []), 119), (119, (62, 0, 9, 16, []), 122), (122, (2, 0, 0, 0, []), 123), (123, (0, 100, 0, 0, []), 125), (125, (37, 0, 0, 0, []), 127), (127, (62, 0, 9, 21, []), 130), (130, (2, 0, 0, 0, []), 131), (131, (0, 56, 0, 0, []), 133), (133, (37, 0, 0, 0, []), 135), (135, (62, 0, 9, 22, []), 138), (138, (2, 0, 0, 0, []), 139), (139, (0, 6, 0, 0, []), 141), (141, (37, 0, 0, 0, []), 143), (143, (62, 0, 9, 26, []), 146), (146, (2, 0, 0, 0, []), 147), (147, (0, 6, 0, 0, []), 149), (149, (37, 0, 0, 0, []), 151), (151, (62, 0, 9, 27, []), 154), (154, (2, 0, 0, 0, []), 155), (155, (0, 360, 0, 0, []), 158), (158, (38, 0, 0, 0, []), 160), (160, (62, 0, 9, 28, []), 163), (163, (2, 0, 0, 0, []), 164), (164, (0, 60, 0, 0, []), 166), (166, (38, 0, 0, 0, []), 168), (168, (62, 0, 9, 29, []), 171), (171, (2, 0, 0, 0, []), 172), (172, (15, 0, 9, 0, []), 175), (175, (0, 43, 0, 0, []), 177), (177, (0, 20, 0, 0, []), 179), (179, (18, 0, 0, 0, []), 180), (180, (0, 0, 0, 0, []), 181), (181, (4, 0, 1, 0, []), 182), (182, (1, 0, 1, 0, []), 183), (183, (0, 6, 0, 0, []), 185), (185, (25, 0, 201, 3, []), 188), (188, (2, 0, 0, 0, []), 189), (189, (15, 0, 9, 26, []), 192), (192, (1, 0, 1, 0, []), 193), (193, (0, (-1), 0, 0, []), 194), (194, (18, 0, 0, 0, []), 195), (195, (7, 1, 1, 0, []), 198), (198, (26, 0, 182, 0, []), 201), (201, (2, 0, 0, 0, []), 202), (202, (32, 0, 133, 0, []), 205), (205, (28, 0, 0, 0, []), 206)]
def mj_c112 : List (Nat × mj_MI × Nat) := [(0, (1, 0, 0, 0, []), 1), (1, (1, 0, 1, 0, []), 2), (2, (25, 0, 14, 2, []), 5), (5, (1, 0, 0, 0, []), 6), (6, (1, 0, 2, 0, []), 7), (7, (25, 0, 14, 4, []), 10), (10, (0, 1, 0, 0, []), 11), (11, (26, 0, 15, 0, []), 14), (14, (0, 0, 0, 0, []), 15), (15, (29, 0, 0, 1, []), 16)]
def mj_c113 : List (Nat × mj_MI × Nat) := [(0, (1, 0, 1, 0, []), 1), (1, (0, 0, 0, 0, []), 2), (2, (2, 0, 0, 0, []), 3), (3, (15, 0, 9, 0, []), 6), (6, (0, 0, 0, 0, []), 7), (7, (17, 0, 0, 0, []), 8), (8, (0, 1, 0, 0, []), 9), (9, (9, 0, 0, 0, []), 10), (10, (32, 0, 112, 1, []), 13), (13, (29, 0, 0, 1, []), 14)]
def mj_c114 : List (Nat × mj_MI × Nat) := [(0, (1, 0, 1, 0, []), 1), (1, (0, 0, 0, 0, []), 2), (2, (2, 0, 0, 0, []), 3), (3, (15, 0, 9, 0, []), 6), (6, (0, 11, 0, 0, []), 8), (8, (17, 0, 0, 0, []), 9), (9, (0, 1, 0, 0, []), 10), (10, (9, 0, 0, 0, []), 11), (11, (32, 0, 112, 1, []), 14), (14, (29, 0, 0, 1, []), 15)]
def mj_c115 : List (Nat × mj_MI × Nat) := [(0, (0, 0, 0, 0, []), 1), (1, (4, 0, 2, 0, []), 2), (2, (1, 0, 2, 0, []), 3), (3, (0, 91, 0, 0, []), 5), (5, (25, 0, 20, 3, []), 8), (8, (2, 0, 1, 0, []), 9), (9, (1, 0, 2, 0, []), 10), (10, (2, 0, 0, 0, []), 11), (11, (1, 0, 2, 0, []), 12), (12, (17, 0, 0, 0, []), 13), (13, (18, 0, 0, 0, []), 14), (14, (7, 1, 2, 0, []), 17), (17, (26, 0, 2, 0, []), 20), (20, (28, 0, 0, 0, []), 21)]
def mj_c116 : List (Nat × mj_MI × Nat) := [(0, (2, 0, 0, 0, []), 1), (1, (15, 0, 9, 0, []), 4), (4, (0, 6, 0, 0, []), 6), (6, (1, 0, 1, 0, []), 7), (7, (8, 0, 0, 0, []), 8), (8, (17, 0, 0, 0, []), 9), (9, (4, 0, 3, 0, []), 10), (10, (0, 0, 0, 0, []), 11), (11, (4, 0, 4, 0, []), 13), (13, (1, 0, 4, 0, []), 15), (15, (2, 0, 0, 0, []), 16), (16, (15, 0, 9, 0, []), 19), (19, (0, 11, 0, 0, []), 21), (21, (17, 0, 0, 0, []), 22), (22, (25, 0, 76, 3, []), 25), (25, (1, 0, 3, 0, []), 26), (26, (2, 0, 0, 0, []), 27), (27, (15, 0, 9, 0, []), 30), (30, (0, 12, 0, 0, []), 32), (32, (1, 0, 4, 0, []), 34), (34, (8, 0, 0, 0, []), 35), (35, (17, 0, 0, 0, []), 36), (36, (1, 0, 1, 0, []), 37), (37, (25, 0, 67, 1, []), 40), (40, (2, 0, 0, 0, []), 41), (41, (15, 0, 9, 0, []), 44), (44, (0, 22, 0, 0, []), 46), (46, (1, 0, 4, 0, []), 48), (48, (8, 0, 0, 0, []), 49), (49, (17, 0, 0, 0, []), 50), (50, (1, 0, 2, 0, []), 51), (51, (25, 0, 67, 3, []), 54), (54, (2, 0, 0, 0, []), 55), (55, (15, 0, 9, 0, []), 58), (58, (0, 32, 0, 0, []), 60), (60, (1, 0, 4, 0, []), 62), (62, (8, 0, 0, 0, []), 63), (63, (17, 0, 0, 0, []), 64), (64, (26, 0, 68, 0, []), 67), (67, (0, 0, 0, 0, []), 68), (68, (9, 0, 0, 0, []), 69), (69, (4, 0, 3, 0, []), 70), (70, (7, 1, 4, 0, []), 73), (73, (26, 0, 13, 0, []), 76), (76, (0, 0, 0, 0, []), 77), (77, (1, 0, 3, 0, []), 78), (78, (33, 0, 0, 0, []), 81), (81, (29, 0, 0, 0, []), 82)]
def mj_c117 : List (Nat × mj_MI × Nat) := [(0, (2, 0, 0, 0, []), 1), (1, (1, 0, 1, 0, []), 2), (2, (1, 0, 2, 0, []), 3), (3, (32, 0, 116, 0, []), 6), (6, (29, 0, 0, 0, []), 7)]
def mj_c118 : List (Nat × mj_MI × Nat) := [(0, (2, 0, 0, 0, []), 1), (1, (1, 0, 1, 0, []), 2), (2, (1, 0, 2, 0, []), 3), (3, (0, 1, 0, 0, []), 4), (4, (8, 0, 0, 0, []), 5), (5, (32, 0, 116, 0, []), 8), (8, (29, 0, 0, 0, []), 9)]
def mj_c119 : List (Nat × mj_MI × Nat) := [(0, (0, 0, 0, 0, []), 1), (1, (4, 0, 4, 0, []), 3), (3, (1, 0, 4, 0, []), 5), (5, (0, 20, 0, 0, []), 7), (7, (25, 0, 56, 3, []), 10), (10, (0, 0, 0, 0, []), 11), (11, (4, 0, 5, 0, []), 13), (13, (1, 0, 1, 0, []), 14), (14, (4, 0, 6, 0, []), 16), (16, (1, 0, 6, 0, []), 18), (18, (1, 0, 2, 0, []), 19), (19, (25, 0, 41, 4, []), 22), (22, (1, 0, 5, 0, []), 24), (24, (2, 0, 0, 0, []), 25), (25, (1, 0, 6, 0, []), 27), (27, (1, 0, 4, 0, []), 29), (29, (32, 0, 118, 0, []), 32), (32, (8, 0, 0, 0, []), 33), (33, (4, 0, 5, 0, []), 35), (35, (7, 1, 6, 0, []), 38), (38, (26, 0, 16, 0, []), 41), (41, (1, 0, 5, 0, []), 43), (43, (1, 0, 3, 0, []), 44), (44, (25, 0, 50, 4, []), 47), (47, (1, 0, 4, 0, []), 49), (49, (29, 0, 0, 0, []), 50), (50, (7, 1, 4, 0, []), 53), (53, (26, 0, 3, 0, []), 56), (56, (0, 20, 0, 0, []), 58), (58, (29, 0, 0, 0, []), 59)]
def mj_c120 : List (Nat × mj_MI × Nat) := [(0, (0, 0, 0, 0, []), 1), (1, (4, 0, 2, 0, []), 2), (2, (2, 0, 0, 0, []), 3), (3, (15, 0, 9, 10, []), 6), (6, (1, 0, 1, 0, []), 7), (7, (17, 0, 0, 0, []), 8), (8, (4, 0, 3, 0, []), 9), (9, (1, 0, 3, 0, []), 10), (10, (2, 0, 0, 0, []), 11), (11, (15, 0, 9, 11, []), 14), (14, (1, 0, 1, 0, []), 15), (15, (17, 0, 0, 0, []), 16), (16, (25, 0, 34, 4, []), 19), (19, (1, 0, 2, 0, []), 20), (20, (2, 0, 0, 0, []), 21), (21, (15, 0, 9, 4, []), 24), (24, (1, 0, 3, 0, []), 25), (25, (17, 0, 0, 0, []), 26), (26, (8, 0, 0, 0, []), 27), (27, (4, 0, 2, 0, []), 28), (28, (7, 1, 3, 0, []), 31), (31, (26, 0, 9, 0, []), 34), (34, (1, 0, 2, 0, []), 35), (35, (29, 0, 0, 0, []), 36)]
def mj_c121 : List (Nat × mj_MI × Nat) := [(0, (2, 0, 0, 0, []), 1), (1, (15, 0, 9, 12, []), 4), (4, (1, 0, 1, 0, []), 5), (5, (2, 0, 0, 0, []), 6), (6, (2, 0, 0, 0, []), 7), (7, (15, 0, 9, 10, []), 10), (10, (1, 0, 1, 0, []), 11), (11, (17, 0, 0, 0, []), 12), (12, (2, 0, 0, 0, []), 13), (13, (15, 0, 9, 11, []), 16), (16, (1, 0, 1, 0, []), 17), (17, (17, 0, 0, 0, []), 18), (18, (2, 0, 0, 0, []), 19), (19, (1, 0, 1, 0, []), 20), (20, (32, 0, 120, 0, []), 23), (23, (32, 0, 119, 0, []), 26), (26, (18, 0, 0, 0, []), 27), (27, (28, 0, 0, 0, []), 28)]
def mj_c122 : List (Nat × mj_MI × Nat) := [(0, (2, 0, 0, 0, []), 1), (1, (15, 0, 9, 11, []), 4), (4, (1, 0, 1, 0, []), 5), (5, (2, 0, 0, 0, []), 6), (6, (15, 0, 9, 11, []), 9), (9, (1, 0, 1, 0, []), 10), (10, (0, 1, 0, 0, []), 11), (11, (8, 0, 0, 0, []), 12), (12, (17, 0, 0, 0, []), 13), (13, (18, 0, 0, 0, []), 14), (14, (2, 0, 0, 0, []), 15), (15, (41, 0, 0, 0, []), 16), (16, (15, 0, 9, 17, []), 19), (19, (0, 1, 0, 0, []), 20), (20, (9, 0, 0, 0, []), 21), (21, (16, 0, 9, 17, []), 24), (24, (1, 0, 1, 0, []), 25), (25, (0, 1, 0, 0, []), 26), (26, (8, 0, 0, 0, []), 27), (27, (4, 0, 2, 0, []), 28), (28, (1, 0, 2, 0, []), 29), (29, (2, 0, 0, 0, []), 30), (30, (15, 0, 9, 17, []), 33), (33, (25, 0, 84, 3, []), 36), (36, (2, 0, 0, 0, []), 37), (37, (15, 0, 9, 10, []), 40), (40, (1, 0, 2, 0, []), 41), (41, (2, 0, 0, 0, []), 42), (42, (15, 0, 9, 10, []), 45), (45, (1, 0, 2, 0, []), 46), (46, (0, 1, 0, 0, []), 47), (47, (8, 0, 0, 0, []), 48), (48, (17, 0, 0, 0, []), 49), (49, (18, 0, 0, 0, []), 50), (50, (2, 0, 0, 0, []), 51), (51, (15, 0, 9, 11, []), 54), (54, (1, 0, 2, 0, []), 55), (55, (2, 0, 0, 0, []), 56), (56, (15, 0, 9, 11, []), 59), (59, (1, 0, 2, 0, []), 60), (60, (0, 1, 0, 0, []), 61), (61, (8, 0, 0, 0, []), 62), (62, (17, 0, 0, 0, []), 63), (63, (18, 0, 0, 0, []), 64), (64, (2, 0, 0, 0, []), 65), (65, (15, 0, 9, 12, []), 68), (68, (1, 0, 2, 0, []), 69), (69, (2, 0, 0, 0, []), 70), (70, (15, 0, 9, 12, []), 73), (73, (1, 0, 2, 0, []), 74), (74, (0, 1, 0, 0, []), 75), (75, (8, 0, 0, 0, []), 76), (76, (17, 0, 0, 0, []), 77), (77, (18, 0, 0, 0, []), 78), (78, (7, 1, 2, 0, []), 81), (81, (26, 0, 28, 0, []), 84), (84, (2, 0, 0, 0, []), 85), (85, (1, 0, 1, 0, []), 86), (86, (32, 0, 121, 0, []), 89), (89, (28, 0, 0, 0, []), 90)]
def mj_c123 : List (Nat × mj_MI × Nat) := [(0, (2, 0, 0, 0, []), 1), (1, (2, 0, 0, 0, []), 2), (2, (15, 0, 9, 0, []), 5), (5, (0, 0, 0, 0, []), 6), (6, (17, 0, 0, 0, []), 7), (7, (16, 0, 9, 17, []), 10), (10, (0, 0, 0, 0, []), 11), (11, (4, 0, 1, 0, []), 12), (12, (1, 0, 1, 0, []), 13), (13, (2, 0, 0, 0, []), 14), (14, (15, 0, 9, 17, []), 17), (17, (25, 0, 45, 3, []), 20), (20, (2, 0, 0, 0, []), 21), (21, (15, 0, 9, 10, []), 24), (24, (1, 0, 1, 0, []), 25), (25, (1, 0, 1, 0, []), 26), (26, (18, 0, 0, 0, []), 27), (27, (2, 0, 0, 0, []), 28), (28, (15, 0, 9, 11, []), 31), (31, (1, 0, 1, 0, []), 32), (32, (1, 0, 1, 0, []), 33), (33, (18, 0, 0, 0, []), 34), (34, (2, 0, 0, 0, []), 35), (35, (1, 0, 1, 0, []), 36), (36, (32, 0, 121, 0, []), 39), (39, (7, 1, 1, 0, []), 42), (42, (26, 0, 12, 0, []), 45), (45, (0, 0, 0, 0, []), 46), (46, (4, 0, 1, 0, []), 47), (47, (1, 0, 1, 0, []), 48), (48, (0, 1, 0, 0, []), 49), (49, (8, 0, 0, 0, []), 50), (50, (2, 0, 0, 0, []), 51), (51, (15, 0, 9, 17, []), 54), (54, (25, 0, 90, 3, []), 57), (57, (2, 0, 0, 0, []), 58), (58, (15, 0, 9, 12, []), 61), (61, (1, 0, 1, 0, []), 62), (62, (17, 0, 0, 0, []), 63), (63, (2, 0, 0, 0, []), 64), (64, (15, 0, 9, 12, []), 67), (67, (1, 0, 1, 0, []), 68), (68, (0, 1, 0, 0, []), 69), (69, (8, 0, 0, 0, []), 70), (70, (17, 0, 0, 0, []), 71), (71, (25, 0, 84, 3, []), 74), (74, (2, 0, 0, 0, []), 75), (75, (1, 0, 1, 0, []), 76), (76, (32, 0, 122, 0, []), 79), (79, (0, 0, 0, 0, []), 80), (80, (4, 0, 1, 0, []), 81), (81, (26, 0, 47, 0, []), 84), (84, (7, 1, 1, 0, []), 87), (87, (26, 0, 47, 0, []), 90), (90, (28, 0, 0, 0, []), 91)]
def mj_c124 : List (Nat × mj_MI × Nat) := [(0, (0, 0, 0, 0, []), 1), (1, (4, 0, 1, 0, []), 2), (2, (1, 0, 1, 0, []), 3), (3, (2, 0, 0, 0, []), 4), (4, (15, 0, 9, 17, []), 7), (7, (25, 0, 97, 3, []), 10), (10, (2, 0, 0, 0, []), 11), (11, (15, 0, 9, 12, []), 14), (14, (1, 0, 1, 0, []), 15), (15, (17, 0, 0, 0, []), 16), (16, (2, 0, 0, 0, []), 17), (17, (15, 0, 9, 0, []), 20), (20, (0, 42, 0, 0, []), 22), (22, (17, 0, 0, 0, []), 23), (23, (25, 0, 91, 3, []), 26), (26, (2, 0, 0, 0, []), 27), (27, (1, 0, 1, 0, []), 28), (28, (32, 0, 120, 0, []), 31), (31, (24, 0, 37, 1, []), 34), (34, (26, 0, 91, 0, []), 37), (37, (2, 0, 0, 0, []), 38), (38, (15, 0, 9, 11, []), 41), (41, (1, 0, 1, 0, []), 42), (42, (17, 0, 0, 0, []), 43), (43, (4, 0, 2, 0, []), 44), (44, (2, 0, 0, 0, []), 45), (45, (15, 0, 9, 4, []), 48), (48, (1, 0, 2, 0, []), 49), (49, (17, 0, 0, 0, []), 50), (50, (24, 0, 59, 1, []), 53), (53, (7, (-1), 2, 0, []), 56), (56, (26, 0, 44, 0, []), 59), (59, (2, 0, 0, 0, []), 60), (60, (15, 0, 9, 4, []), 63), (63, (1, 0, 2, 0, []), 64), (64, (42, 0, 0, 0, []), 65), (65, (17, 0, 0, 0, []), 66), (66, (0, 1, 0, 0, []), 67), (67, (9, 0, 0, 0, []), 68), (68, (18, 0, 0, 0, []), 69), (69, (2, 0, 0, 0, []), 70), (70, (41, 0, 0, 0, []), 71), (71, (15, 0, 9, 18, []), 74), (74, (0, 1, 0, 0, []), 75), (75, (8, 0, 0, 0, []), 76), (76, (16, 0, 9, 18, []), 79), (79, (2, 0, 0, 0, []), 80), (80, (41, 0, 0, 0, []), 81), (81, (15, 0, 9, 19, []), 84), (84, (0, 1, 0, 0, []), 85), (85, (8, 0, 0, 0, []), 86), (86, (16, 0, 9, 19, []), 89), (89, (0, 1, 0, 0, []), 90), (90, (29, 0, 0, 1, []), 91), (91, (7, 1, 1, 0, []), 94), (94, (26, 0, 2, 0, []), 97), (97, (0, 0, 0, 0, []), 98), (98, (29, 0, 0, 1, []), 99)]
def mj_c125 : List (Nat × mj_MI × Nat) := [(0, (0, 0, 0, 0, []), 1), (1, (4, 0, 1, 0, []), 2), (2, (1, 0, 1, 0, []), 3), (3, (2, 0, 0, 0, []), 4), (4, (15, 0, 9, 17, []), 7), (7, (25, 0, 79, 3, []), 10), (10, (2, 0, 0, 0, []), 11), (11, (15, 0, 9, 18, []), 14), (14, (24, 0, 79, 5, []), 17), (17, (2, 0, 0, 0, []), 18), (18, (15, 0, 9, 12, []), 21), (21, (1, 0, 1, 0, []), 22), (22, (17, 0, 0, 0, []), 23), (23, (2, 0, 0, 0, []), 24), (24, (15, 0, 9, 0, []), 27), (27, (0, 43, 0, 0, []), 29), (29, (17, 0, 0, 0, []), 30), (30, (25, 0, 36, 4, []), 33), (33, (26, 0, 73, 0, []), 36), (36, (2, 0, 0, 0, []), 37), (37, (15, 0, 9, 4, []), 40), (40, (2, 0, 0, 0, []), 41), (41, (15, 0, 9, 10, []), 44), (44, (1, 0, 1, 0, []), 45), (45, (17, 0, 0, 0, []), 46), (46, (42, 0, 0, 0, []), 47), (47, (17, 0, 0, 0, []), 48), (48, (0, 1, 0, 0, []), 49), (49, (8, 0, 0, 0, []), 50), (50, (18, 0, 0, 0, []), 51), (51, (2, 0, 0, 0, []), 52), (52, (41, 0, 0, 0, []), 53), (53, (15, 0, 9, 18, []), 56), (56, (0, 1, 0, 0, []), 57), (57, (9, 0, 0, 0, []), 58), (58, (16, 0, 9, 18, []), 61), (61, (2, 0, 0, 0, []), 62), (62, (41, 0, 0, 0, []), 63), (63, (15, 0, 9, 20, []), 66), (66, (0, 1, 0, 0, []), 67), (67, (8, 0, 0, 0, []), 68), (68, (16, 0, 9, 20, []), 71), (71, (0, 1, 0, 0, []), 72), (72, (29, 0, 0, 1, []), 73), (73, (7, 1, 1, 0, []), 76), (76, (26, 0, 2, 0, []), 79), (79, (0, 0, 0, 0, []), 80), (80, (29, 0, 0, 1, []), 81)]
def mj_c126 : List (Nat × mj_MI × Nat) := [(0, (0, 0, 0, 0, []), 1), (1, (4, 0, 1, 0, []), 2), (2, (1, 0, 1, 0, []), 3), (3, (0, 1, 0, 0, []), 4), (4, (8, 0, 0, 0, []), 5), (5, (2, 0, 0, 0, []), 6), (6, (15, 0, 9, 17, []), 9), (9, (25, 0, 111, 3, []), 12), (12, (2, 0, 0, 0, []), 13), (13, (15, 0, 9, 11, []), 16), (16, (1, 0, 1, 0, []), 17), (17, (17, 0, 0, 0, []), 18), (18, (4, 0, 2, 0, []), 19), (19, (2, 0, 0, 0, []), 20), (20, (15, 0, 9, 10, []), 23), (23, (1, 0, 1, 0, []), 24), (24, (0, 1, 0, 0, []), 25), (25, (8, 0, 0, 0, []), 26), (26, (17, 0, 0, 0, []), 27), (27, (4, 0, 3, 0, []), 28), (28, (2, 0, 0, 0, []), 29), (29, (15, 0, 9, 12, []), 32), (32, (1, 0, 1, 0, []), 33), (33, (17, 0, 0, 0, []), 34), (34, (2, 0, 0, 0, []), 35), (35, (15, 0, 9, 12, []), 38), (38, (1, 0, 1, 0, []), 39), (39, (0, 1, 0, 0, []), 40), (40, (8, 0, 0, 0, []), 41), (41, (17, 0, 0, 0, []), 42), (42, (25, 0, 105, 5, []), 45), (45, (2, 0, 0, 0, []), 46), (46, (15, 0, 9, 5, []), 49), (49, (1, 0, 2, 0, []), 50), (50, (17, 0, 0, 0, []), 51), (51, (2, 0, 0, 0, []), 52), (52, (15, 0, 9, 0, []), 55), (55, (0, 45, 0, 0, []), 57), (57, (17, 0, 0, 0, []), 58), (58, (25, 0, 105, 3, []), 61), (61, (2, 0, 0, 0, []), 62), (62, (15, 0, 9, 4, []), 65), (65, (1, 0, 3, 0, []), 66), (66, (17, 0, 0, 0, []), 67), (67, (24, 0, 73, 1, []), 70), (70, (26, 0, 105, 0, []), 73), (73, (2, 0, 0, 0, []), 74), (74, (15, 0, 9, 4, []), 77), (77, (1, 0, 3, 0, []), 78), (78, (42, 0, 0, 0, []), 79), (79, (17, 0, 0, 0, []), 80), (80, (0, 1, 0, 0, []), 81), (81, (9, 0, 0, 0, []), 82), (82, (18, 0, 0, 0, []), 83), (83, (2, 0, 0, 0, []), 84), (84, (15, 0, 9, 4, []), 87), (87, (1, 0, 2, 0, []), 88), (88, (42, 0, 0, 0, []), 89), (89, (17, 0, 0, 0, []), 90), (90, (0, 1, 0, 0, []), 91), (91, (8, 0, 0, 0, []), 92), (92, (18, 0, 0, 0, []), 93), (93, (2, 0, 0, 0, []), 94), (94, (15, 0, 9, 5, []), 97), (97, (1, 0, 2, 0, []), 98), (98, (42, 0, 0, 0, []), 99), (99, (17, 0, 0, 0, []), 100), (100, (0, 1, 0, 0, []), 101), (101, (8, 0, 0, 0, []), 102), (102, (18, 0, 0, 0, []), 103), (103, (0, 1, 0, 0, []), 104), (104, (29, 0, 0, 1, []), 105), (105, (7, 1, 1, 0, []), 108), (108, (26, 0, 2, 0, []), 111), (111, (0, 0, 0, 0, []), 112), (112, (29, 0, 0, 1, []), 113)]
def mj_c127 : List (Nat × mj_MI × Nat) := [(0, (2, 0, 0, 0, []), 1), (1, (15, 0, 9, 12, []), 4), (4, (1, 0, 1, 0, []), 5), (5, (17, 0, 0, 0, []), 6), (6, (4, 0, 2, 0, []), 7), (7, (2, 0, 0, 0, []), 8), (8, (1, 0, 1, 0, []), 9), (9, (32, 0, 120, 0, []), 12), (12, (13, 0, 0, 0, []), 13), (13, (4, 0, 3, 0, []), 14), (14, (2, 0, 0, 0, []), 15), (15, (15, 0, 9, 10, []), 18), (18, (1, 0, 1, 0, []), 19), (19, (17, 0, 0, 0, []), 20), (20, (4, 0, 4, 0, []), 22), (22, (1, 0, 4, 0, []), 24), (24, (2, 0, 0, 0, []), 25), (25, (15, 0, 9, 11, []), 28), (28, (1, 0, 1, 0, []), 29), (29, (17, 0, 0, 0, []), 30), (30, (25, 0, 49, 4, []), 33), (33, (1, 0, 3, 0, []), 34), (34, (2, 0, 0, 0, []), 35), (35, (1, 0, 4, 0, []), 37), (37, (1, 0, 2, 0, []), 38), (38, (32, 0, 117, 0, []), 41), (41, (8, 0, 0, 0, []), 42), (42, (4, 0, 3, 0, []), 43), (43, (7, 1, 4, 0, []), 46), (46, (26, 0, 22, 0, []), 49), (49, (0, 0, 0, 0, []), 50), (50, (1, 0, 3, 0, []), 51), (51, (33, 0, 0, 0, []), 54), (54, (4, 0, 3, 0, []), 55), (55, (0, 0, 0, 0, []), 56), (56, (4, 0, 4, 0, []), 58), (58, (2, 0, 0, 0, []), 59), (59, (15, 0, 9, 10, []), 62), (62, (1, 0, 1, 0, []), 63), (63, (17, 0, 0, 0, []), 64), (64, (4, 0, 5, 0, []), 66), (66, (1, 0, 5, 0, []), 68), (68, (2, 0, 0, 0, []), 69), (69, (15, 0, 9, 11, []), 72), (72, (1, 0, 1, 0, []), 73), (73, (17, 0, 0, 0, []), 74), (74, (25, 0, 168, 4, []), 77), (77, (2, 0, 0, 0, []), 78), (78, (15, 0, 9, 7, []), 81), (81, (1, 0, 5, 0, []), 83), (83, (2, 0, 0, 0, []), 84), (84, (1, 0, 5, 0, []), 86), (86, (1, 0, 2, 0, []), 87), (87, (32, 0, 118, 0, []), 90), (90, (2, 0, 0, 0, []), 91), (91, (1, 0, 5, 0, []), 93), (93, (1, 0, 2, 0, []), 94), (94, (32, 0, 117, 0, []), 97), (97, (1, 0, 3, 0, []), 98), (98, (9, 0, 0, 0, []), 99), (99, (33, 0, 0, 0, []), 102), (102, (18, 0, 0, 0, []), 103), (103, (1, 0, 3, 0, []), 104), (104, (2, 0, 0, 0, []), 105), (105, (1, 0, 5, 0, []), 107), (107, (1, 0, 2, 0, []), 108), (108, (32, 0, 117, 0, []), 111), (111, (2, 0, 0, 0, []), 112), (112, (15, 0, 9, 7, []), 115), (115, (1, 0, 5, 0, []), 117), (117, (17, 0, 0, 0, []), 118), (118, (9, 0, 0, 0, []), 119), (119, (9, 0, 0, 0, []), 120), (120, (4, 0, 3, 0, []), 121), (121, (1, 0, 4, 0, []), 123), (123, (2, 0, 0, 0, []), 124), (124, (15, 0, 9, 4, []), 127), (127, (1, 0, 5, 0, []), 129), (129, (17, 0, 0, 0, []), 130), (130, (2, 0, 0, 0, []), 131), (131, (15, 0, 9, 7, []), 134), (134, (1, 0, 5, 0, []), 136), (136, (17, 0, 0, 0, []), 137), (137, (9, 0, 0, 0, []), 138), (138, (8, 0, 0, 0, []), 139), (139, (4, 0, 4, 0, []), 141), (141, (2, 0, 0, 0, []), 142), (142, (15, 0, 9, 8, []), 145), (145, (1, 0, 5, 0, []), 147), (147, (0, 0, 0, 0, []), 148), (148, (1, 0, 4, 0, []), 150), (150, (33, 0, 0, 0, []), 153), (153, (18, 0, 0, 0, []), 154), (154, (2, 0, 0, 0, []), 155), (155, (15, 0, 9, 6, []), 158), (158, (1, 0, 5, 0, []), 160), (160, (1, 0, 1, 0, []), 161), (161, (18, 0, 0, 0, []), 162), (162, (7, 1, 5, 0, []), 165), (165, (26, 0, 66, 0, []), 168), (168, (2, 0, 0, 0, []), 169), (169, (15, 0, 9, 13, []), 172), (172, (1, 0, 1, 0, []), 173), (173, (0, 0, 0, 0, []), 174), (174, (1, 0, 4, 0, []), 176), (176, (13, 0, 0, 0, []), 177), (177, (33, 0, 0, 0, []), 180), (180, (18, 0, 0, 0, []), 181), (181, (28, 0, 0, 0, []), 182)]
def mj_c128 : List (Nat × mj_MI × Nat) := [(0, (0, 0, 0, 0, []), 1), (1, (4, 0, 1, 0, []), 2), (2, (1, 0, 1, 0, []), 3), (3, (0, 25, 0, 0, []), 5), (5, (25, 0, 21, 3, []), 8), (8, (2, 0, 0, 0, []), 9), (9, (15, 0, 9, 15, []), 12), (12, (1, 0, 1, 0, []), 13), (13, (0, 0, 0, 0, []), 14), (14, (18, 0, 0, 0, []), 15), (15, (7, 1, 1, 0, []), 18), (18, (26, 0, 2, 0, []), 21), (21, (0, 0, 0, 0, []), 22), (22, (4, 0, 1, 0, []), 23), (23, (1, 0, 1, 0, []), 24), (24, (2, 0, 0, 0, []), 25), (25, (15, 0, 9, 0, []), 28), (28, (0, 0, 0, 0, []), 29), (29, (17, 0, 0, 0, []), 30), (30, (25, 0, 51, 3, []), 33), (33, (2, 0, 0, 0, []), 34), (34, (15, 0, 9, 9, []), 37), (37, (1, 0, 1, 0, []), 38), (38, (2, 0, 0, 0, []), 39), (39, (15, 0, 9, 4, []), 42), (42, (1, 0, 1, 0, []), 43), (43, (17, 0, 0, 0, []), 44), (44, (18, 0, 0, 0, []), 45), (45, (7, 1, 1, 0, []), 48), (48, (26, 0, 23, 0, []), 51), (51, (0, 0, 0, 0, []), 52), (52, (4, 0, 1, 0, []), 53), (53, (1, 0, 1, 0, []), 54), (54, (2, 0, 0, 0, []), 55), (55, (15, 0, 9, 0, []), 58), (58, (0, 0, 0, 0, []), 59), (59, (17, 0, 0, 0, []), 60), (60, (25, 0, 139, 3, []), 63), (63, (2, 0, 0, 0, []), 64), (64, (15, 0, 9, 7, []), 67), (67, (1, 0, 1, 0, []), 68), (68, (17, 0, 0, 0, []), 69), (69, (4, 0, 2, 0, []), 70), (70, (2, 0, 0, 0, []), 71), (71, (15, 0, 9, 10, []), 74), (74, (2, 0, 0, 0, []), 75), (75, (15, 0, 9, 6, []), 78), (78, (1, 0, 1, 0, []), 79), (79, (17, 0, 0, 0, []), 80), (80, (17, 0, 0, 0, []), 81), (81, (4, 0, 3, 0, []), 82), (82, (1, 0, 3, 0, []), 83), (83, (1, 0, 1, 0, []), 84), (84, (25, 0, 133, 4, []), 87), (87, (1, 0, 2, 0, []), 88), (88, (2, 0, 0, 0, []), 89), (89, (15, 0, 9, 9, []), 92), (92, (1, 0, 3, 0, []), 93), (93, (17, 0, 0, 0, []), 94), (94, (34, 0, 0, 0, []), 97), (97, (4, 0, 4, 0, []), 99), (99, (2, 0, 0, 0, []), 100), (100, (15, 0, 9, 15, []), 103), (103, (0, 5, 0, 0, []), 104), (104, (1, 0, 3, 0, []), 105), (105, (10, 0, 0, 0, []), 106), (106, (1, 0, 1, 0, []), 107), (107, (8, 0, 0, 0, []), 108), (108, (1, 0, 4, 0, []), 110), (110, (18, 0, 0, 0, []), 111), (111, (2, 0, 0, 0, []), 112), (112, (15, 0, 9, 9, []), 115), (115, (1, 0, 3, 0, []), 116), (116, (42, 0, 0, 0, []), 117), (117, (17, 0, 0, 0, []), 118), (118, (1, 0, 4, 0, []), 120), (120, (9, 0, 0, 0, []), 121), (121, (18, 0, 0, 0, []), 122), (122, (1, 0, 2, 0, []), 123), (123, (1, 0, 4, 0, []), 125), (125, (9, 0, 0, 0, []), 126), (126, (4, 0, 2, 0, []), 127), (127, (7, 1, 3, 0, []), 130), (130, (26, 0, 82, 0, []), 133), (133, (7, 1, 1, 0, []), 136), (136, (26, 0, 53, 0, []), 139), (139, (28, 0, 0, 0, []), 140)]
def mj_c129 : List (Nat × mj_MI × Nat) := [(0, (2, 0, 0, 0, []), 1), (1, (15, 0, 9, 0, []), 4), (4, (0, 22, 0, 0, []), 6), (6, (1, 0, 1, 0, []), 7), (7, (8, 0, 0, 0, []), 8), (8, (17, 0, 0, 0, []), 9), (9, (2, 0, 0, 0, []), 10), (10, (15, 0, 9, 0, []), 13), (13, (0, 22, 0, 0, []), 15), (15, (1, 0, 2, 0, []), 16), (16, (8, 0, 0, 0, []), 17), (17, (17, 0, 0, 0, []), 18), (18, (25, 0, 47, 2, []), 21), (21, (2, 0, 0, 0, []), 22), (22, (15, 0, 9, 0, []), 25), (25, (0, 22, 0, 0, []), 27), (27, (1, 0, 1, 0, []), 28), (28, (8, 0, 0, 0, []), 29), (29, (17, 0, 0, 0, []), 30), (30, (2, 0, 0, 0, []), 31), (31, (15, 0, 9, 0, []), 34), (34, (0, 22, 0, 0, []), 36), (36, (1, 0, 2, 0, []), 37), (37, (8, 0, 0, 0, []), 38), (38, (17, 0, 0, 0, []), 39), (39, (25, 0, 51, 1, []), 42), (42, (1, 0, 1, 0, []), 43), (43, (1, 0, 2, 0, []), 44), (44, (25, 0, 51, 3, []), 47), (47, (0, 1, 0, 0, []), 48), (48, (26, 0, 52, 0, []), 51), (51, (0, 0, 0, 0, []), 52), (52, (29, 0, 0, 1, []), 53)]
def mj_c130 : List (Nat × mj_MI × Nat) := [(0, (0, 0, 0, 0, []), 1), (1, (4, 0, 2, 0, []), 2), (2, (0, 0, 0, 0, []), 3), (3, (4, 0, 3, 0, []), 4), (4, (1, 0, 3, 0, []), 5), (5, (2, 0, 0, 0, []), 6), (6, (15, 0, 9, 0, []), 9), (9, (0, 11, 0, 0, []), 11), (11, (17, 0, 0, 0, []), 12), (12, (25, 0, 59, 3, []), 15), (15, (1, 0, 2, 0, []), 16), (16, (2, 0, 0, 0, []), 17), (17, (15, 0, 9, 0, []), 20), (20, (0, 12, 0, 0, []), 22), (22, (1, 0, 3, 0, []), 23), (23, (8, 0, 0, 0, []), 24), (24, (17, 0, 0, 0, []), 25), (25, (2, 0, 0, 0, []), 26), (26, (15, 0, 9, 0, []), 29), (29, (0, 12, 0, 0, []), 31), (31, (1, 0, 1, 0, []), 32), (32, (8, 0, 0, 0, []), 33), (33, (17, 0, 0, 0, []), 34), (34, (25, 0, 50, 1, []), 37), (37, (2, 0, 0, 0, []), 38), (38, (1, 0, 3, 0, []), 39), (39, (1, 0, 1, 0, []), 40), (40, (32, 0, 129, 0, []), 43), (43, (24, 0, 50, 0, []), 46), (46, (0, 1, 0, 0, []), 47), (47, (26, 0, 51, 0, []), 50), (50, (0, 0, 0, 0, []), 51), (51, (8, 0, 0, 0, []), 52), (52, (4, 0, 2, 0, []), 53), (53, (7, 1, 3, 0, []), 56), (56, (26, 0, 4, 0, []), 59), (59, (1, 0, 2, 0, []), 60), (60, (29, 0, 0, 0, []), 61)]
def mj_c131 : List (Nat × mj_MI × Nat) := [(0, (0, 0, 0, 0, []), 1), (1, (4, 0, 3, 0, []), 2), (2, (1, 0, 3, 0, []), 3), (3, (2, 0, 0, 0, []), 4), (4, (15, 0, 9, 0, []), 7), (7, (0, 11, 0, 0, []), 9), (9, (17, 0, 0, 0, []), 10), (10, (25, 0, 43, 3, []), 13), (13, (2, 0, 0, 0, []), 14), (14, (15, 0, 9, 0, []), 17), (17, (0, 12, 0, 0, []), 19), (19, (1, 0, 3, 0, []), 20), (20, (8, 0, 0, 0, []), 21), (21, (17, 0, 0, 0, []), 22), (22, (1, 0, 1, 0, []), 23), (23, (25, 0, 37, 1, []), 26), (26, (2, 0, 0, 0, []), 27), (27, (1, 0, 3, 0, []), 28), (28, (32, 0, 130, 0, []), 31), (31, (1, 0, 2, 0, []), 32), (32, (25, 0, 37, 1, []), 35), (35, (1, 0, 3, 0, []), 36), (36, (29, 0, 0, 0, []), 37), (37, (7, 1, 3, 0, []), 40), (40, (26, 0, 2, 0, []), 43), (43, (0, (-5), 0, 0, []), 45), (45, (29, 0, 0, 0, []), 46)]
def mj_c132 : List (Nat × mj_MI × Nat) := [(0, (0, 0, 0, 0, []), 1), (1, (4, 0, 1, 0, []), 2), (2, (1, 0, 1, 0, []), 3), (3, (2, 0, 0, 0, []), 4), (4, (15, 0, 9, 0, []), 7), (7, (0, 0, 0, 0, []), 8), (8, (17, 0, 0, 0, []), 9), (9, (25, 0, 91, 3, []), 12), (12, (2, 0, 0, 0, []), 13), (13, (15, 0, 9, 0, []), 16), (16, (0, 6, 0, 0, []), 18), (18, (1, 0, 1, 0, []), 19), (19, (8, 0, 0, 0, []), 20), (20, (17, 0, 0, 0, []), 21), (21, (2, 0, 0, 0, []), 22), (22, (15, 0, 9, 7, []), 25), (25, (1, 0, 1, 0, []), 26), (26, (17, 0, 0, 0, []), 27), (27, (9, 0, 0, 0, []), 28), (28, (4, 0, 2, 0, []), 29), (29, (0, 0, 0, 0, []), 30), (30, (4, 0, 3, 0, []), 31), (31, (2, 0, 0, 0, []), 32), (32, (1, 0, 1, 0, []), 33), (33, (1, 0, 3, 0, []), 34), (34, (32, 0, 131, 0, []), 37), (37, (24, 0, 85, 2, []), 40), (40, (2, 0, 0, 0, []), 41), (41, (1, 0, 1, 0, []), 42), (42, (1, 0, 3, 0, []), 43), (43, (32, 0, 131, 0, []), 46), (46, (4, 0, 4, 0, []), 48), (48, (2, 0, 0, 0, []), 49), (49, (15, 0, 9, 14, []), 52), (52, (1, 0, 4, 0, []), 54), (54, (1, 0, 2, 0, []), 55), (55, (2, 0, 0, 0, []), 56), (56, (15, 0, 9, 0, []), 59), (59, (0, 32, 0, 0, []), 61), (61, (1, 0, 4, 0, []), 63), (63, (8, 0, 0, 0, []), 64), (64, (17, 0, 0, 0, []), 65), (65, (34, 0, 0, 0, []), 68), (68, (18, 0, 0, 0, []), 69), (69, (1, 0, 2, 0, []), 70), (70, (2, 0, 0, 0, []), 71), (71, (15, 0, 9, 14, []), 74), (74, (1, 0, 4, 0, []), 76), (76, (17, 0, 0, 0, []), 77), (77, (9, 0, 0, 0, []), 78), (78, (4, 0, 2, 0, []), 79), (79, (7, 1, 3, 0, []), 82), (82, (26, 0, 31, 0, []), 85), (85, (7, 1, 1, 0, []), 88), (88, (26, 0, 2, 0, []), 91), (91, (28, 0, 0, 0, []), 92)]
def mj_c133 : List (Nat × mj_MI × Nat) := [(0, (0, 0, 0, 0, []), 1), (1, (4, 0, 1, 0, []), 2), (2, (1, 0, 1, 0, []), 3), (3, (0, 5, 0, 0, []), 4), (4, (25, 0, 34, 3, []), 7), (7, (2, 0, 0, 0, []), 8), (8, (15, 0, 9, 4, []), 11), (11, (1, 0, 1, 0, []), 12), (12, (2, 0, 0, 0, []), 13), (13, (15, 0, 9, 0, []), 16), (16, (0, 1, 0, 0, []), 17), (17, (1, 0, 1, 0, []), 18), (18, (8, 0, 0, 0, []), 19), (19, (17, 0, 0, 0, []), 20), (20, (18, 0, 0, 0, []), 21), (21, (2, 0, 0, 0, []), 22), (22, (15, 0, 9, 5, []), 25), (25, (1, 0, 1, 0, []), 26), (26, (0, 0, 0, 0, []), 27), (27, (18, 0, 0, 0, []), 28), (28, (7, 1, 1, 0, []), 31), (31, (26, 0, 2, 0, []), 34), (34, (2, 0, 0, 0, []), 35), (35, (2, 0, 0, 0, []), 36), (36, (15, 0, 9, 0, []), 39), (39, (0, 44, 0, 0, []), 41), (41, (17, 0, 0, 0, []), 42), (42, (16, 0, 9, 18, []), 45), (45, (2, 0, 0, 0, []), 46), (46, (0, 0, 0, 0, []), 47), (47, (16, 0, 9, 19, []), 50), (50, (2, 0, 0, 0, []), 51), (51, (0, 0, 0, 0, []), 52), (52, (16, 0, 9, 20, []), 55), (55, (2, 0, 0, 0, []), 56), (56, (32, 0, 123, 0, []), 59), (59, (2, 0, 0, 0, []), 60), (60, (32, 0, 124, 0, []), 63), (63, (24, 0, 55, 1, []), 66), (66, (2, 0, 0, 0, []), 67), (67, (32, 0, 123, 0, []), 70), (70, (2, 0, 0, 0, []), 71), (71, (32, 0, 125, 0, []), 74), (74, (24, 0, 66, 1, []), 77), (77, (2, 0, 0, 0, []), 78), (78, (32, 0, 123, 0, []), 81), (81, (2, 0, 0, 0, []), 82), (82, (32, 0, 126, 0, []), 85), (85, (24, 0, 77, 1, []), 88), (88, (0, 0, 0, 0, []), 89), (89, (4, 0, 1, 0, []), 90), (90, (1, 0, 1, 0, []), 91), (91, (2, 0, 0, 0, []), 92), (92, (15, 0, 9, 17, []), 95), (95, (25, 0, 109, 3, []), 98), (98, (2, 0, 0, 0, []), 99), (99, (1, 0, 1, 0, []), 100), (100, (32, 0, 127, 0, []), 103), (103, (7, 1, 1, 0, []), 106), (106, (26, 0, 90, 0, []), 109), (109, (2, 0, 0, 0, []), 110), (110, (32, 0, 128, 0, []), 113), (113, (2, 0, 0, 0, []), 114), (114, (32, 0, 132, 0, []), 117), (117, (28, 0, 0, 0, []), 118)]
def mj_c134 : List (Nat × mj_MI × Nat) := [(0, (1, 0, 1, 0, []), 1), (1, (0, 0, 0, 0, []), 2), (2, (0, 20, 0, 0, []), 4), (4, (32, 0, 112, 1, []), 7), (7, (24, 0, 20, 0, []), 10), (10, (1, 0, 2, 0, []), 11), (11, (0, 0, 0, 0, []), 12), (12, (0, 40, 0, 0, []), 14), (14, (32, 0, 112, 1, []), 17), (17, (24, 0, 23, 1, []), 20), (20, (0, (-2), 0, 0, []), 22), (22, (29, 0, 0, 0, []), 23), (23, (2, 0, 0, 0, []), 24), (24, (15, 0, 9, 0, []), 27), (27, (0, 0, 0, 0, []), 28), (28, (17, 0, 0, 0, []), 29), (29, (0, 5, 0, 0, []), 30), (30, (25, 0, 36, 1, []), 33), (33, (0, (-4), 0, 0, []), 35), (35, (29, 0, 0, 0, []), 36), (36, (2, 0, 0, 0, []), 37), (37, (15, 0, 9, 0, []), 40), (40, (0, 1, 0, 0, []), 41), (41, (2, 0, 0, 0, []), 42), (42, (15, 0, 9, 0, []), 45), (45, (0, 0, 0, 0, []), 46), (46, (17, 0, 0, 0, []), 47), (47, (8, 0, 0, 0, []), 48), (48, (1, 0, 1, 0, []), 49), (49, (18, 0, 0, 0, []), 50), (50, (2, 0, 0, 0, []), 51), (51, (15, 0, 9, 0, []), 54), (54, (0, 6, 0, 0, []), 56), (56, (2, 0, 0, 0, []), 57), (57, (15, 0, 9, 0, []), 60), (60, (0, 0, 0, 0, []), 61), (61, (17, 0, 0, 0, []), 62), (62, (8, 0, 0, 0, []), 63), (63, (1, 0, 2, 0, []), 64), (64, (18, 0, 0, 0, []), 65), (65, (2, 0, 0, 0, []), 66), (66, (15, 0, 9, 0, []), 69), (69, (0, 0, 0, 0, []), 70), (70, (42, 0, 0, 0, []), 71), (71, (17, 0, 0, 0, []), 72), (72, (0, 1, 0, 0, []), 73), (73, (8, 0, 0, 0, []), 74), (74, (18, 0, 0, 0, []), 75), (75, (2, 0, 0, 0, []), 76), (76, (32, 0, 133, 0, []), 79), (79, (2, 0, 0, 0, []), 80), (80, (15, 0, 9, 0, []), 83), (83, (0, 0, 0, 0, []), 84), (84, (17, 0, 0, 0, []), 85), (85, (0, 1, 0, 0, []), 86), (86, (9, 0, 0, 0, []), 87), (87, (29, 0, 0, 0, []), 88)]
def mj_c135 : List (Nat × mj_MI × Nat) := [(0, (2, 0, 0, 0, []), 1), (1, (1, 0, 1, 0, []), 2), (2, (32, 0, 113, 0, []), 5), (5, (24, 0, 10, 1, []), 8), (8, (0, (-1), 0, 0, []), 9), (9, (29, 0, 0, 0, []), 10), (10, (1, 0, 2, 0, []), 11), (11, (0, 1, 0, 0, []), 12), (12, (0, 20, 0, 0, []), 14), (14, (32, 0, 112, 1, []), 17), (17, (24, 0, 30, 0, []), 20), (20, (1, 0, 3, 0, []), 21), (21, (0, 1, 0, 0, []), 22), (22, (0, 9, 0, 0, []), 24), (24, (32, 0, 112, 1, []), 27), (27, (24, 0, 33, 1, []), 30), (30, (0, (-2), 0, 0, []), 32), (32, (29, 0, 0, 0, []), 33), (33, (2, 0, 0, 0, []), 34), (34, (15, 0, 9, 0, []), 37), (37, (0, 11, 0, 0, []), 39), (39, (17, 0, 0, 0, []), 40), (40, (0, 10, 0, 0, []), 42), (42, (25, 0, 48, 1, []), 45), (45, (0, (-4), 0, 0, []), 47), (47, (29, 0, 0, 0, []), 48), (48, (2, 0, 0, 0, []), 49), (49, (15, 0, 9, 0, []), 52), (52, (0, 12, 0, 0, []), 54), (54, (2, 0, 0, 0, []), 55), (55, (15, 0, 9, 0, []), 58), (58, (0, 11, 0, 0, []), 60), (60, (17, 0, 0, 0, []), 61), (61, (8, 0, 0, 0, []), 62), (62, (1, 0, 1, 0, []), 63), (63, (18, 0, 0, 0, []), 64), (64, (2, 0, 0, 0, []), 65), (65, (15, 0, 9, 0, []), 68), (68, (0, 22, 0, 0, []), 70), (70, (2, 0, 0, 0, []), 71), (71, (15, 0, 9, 0, []), 74), (74, (0, 11, 0, 0, []), 76), (76, (17, 0, 0, 0, []), 77), (77, (8, 0, 0, 0, []), 78), (78, (1, 0, 2, 0, []), 79), (79, (18, 0, 0, 0, []), 80), (80, (2, 0, 0, 0, []), 81), (81, (15, 0, 9, 0, []), 84), (84, (0, 32, 0, 0, []), 86), (86, (2, 0, 0, 0, []), 87), (87, (15, 0, 9, 0, []), 90), (90, (0, 11, 0, 0, []), 92), (92, (17, 0, 0, 0, []), 93), (93, (8, 0, 0, 0, []), 94), (94, (1, 0, 3, 0, []), 95), (95, (18, 0, 0, 0, []), 96), (96, (2, 0, 0, 0, []), 97), (97, (15, 0, 9, 0, []), 100), (100, (0, 11, 0, 0, []), 102), (102, (42, 0, 0, 0, []), 103), (103, (17, 0, 0, 0, []), 104), (104, (0, 1, 0, 0, []), 105), (105, (8, 0, 0, 0, []), 106), (106, (18, 0, 0, 0, []), 107), (107, (2, 0, 0, 0, []), 108), (108, (32, 0, 133, 0, []), 111), (111, (2, 0, 0, 0, []), 112), (112, (15, 0, 9, 0, []), 115), (115, (0, 11, 0, 0, []), 117), (117, (17, 0, 0, 0, []), 118), (118, (0, 1, 0, 0, []), 119), (119, (9, 0, 0, 0, []), 120), (120, (29, 0, 0, 0, []), 121)]
def mj_c136 : List (Nat × mj_MI × Nat) := [(0, (2, 0, 0, 0, []), 1), (1, (15, 0, 9, 0, []), 4), (4, (1, 0, 1, 0, []), 5), (5, (17, 0, 0, 0, []), 6), (6, (4, 0, 3, 0, []), 7), (7, (2, 0, 0, 0, []), 8), (8, (15, 0, 9, 0, []), 11), (11, (1, 0, 1, 0, []), 12), (12, (1, 0, 2, 0, []), 13), (13, (18, 0, 0, 0, []), 14), (14, (2, 0, 0, 0, []), 15), (15, (32, 0, 133, 0, []), 18), (18, (1, 0, 3, 0, []), 19), (19, (29, 0, 0, 0, []), 20)]
def mj_c137 : List (Nat × mj_MI × Nat) := [(0, (1, 0, 1, 0, []), 1), (1, (0, 0, 0, 0, []), 2), (2, (0, 3, 0, 0, []), 3), (3, (32, 0, 112, 1, []), 6), (6, (24, 0, 33, 0, []), 9), (9, (1, 0, 1, 0, []), 10), (10, (0, 2, 0, 0, []), 11), (11, (25, 0, 25, 3, []), 14), (14, (2, 0, 0, 0, []), 15), (15, (1, 0, 2, 0, []), 16), (16, (32, 0, 113, 0, []), 19), (19, (24, 0, 35, 1, []), 22), (22, (26, 0, 33, 0, []), 25), (25, (2, 0, 0, 0, []), 26), (26, (1, 0, 2, 0, []), 27), (27, (32, 0, 114, 0, []), 30), (30, (24, 0, 35, 1, []), 33), (33, (0, (-1), 0, 0, []), 34), (34, (29, 0, 0, 0, []), 35), (35, (1, 0, 1, 0, []), 36), (36, (27, 0, 138, 0, [(0, 64), (1, 88), (2, 113)]), 64), (64, (1, 0, 3, 0, []), 65), (65, (0, 0, 0, 0, []), 66), (66, (0, 20, 0, 0, []), 68), (68, (32, 0, 112, 1, []), 71), (71, (24, 0, 85, 0, []), 74), (74, (2, 0, 0, 0, []), 75), (75, (0, 1, 0, 0, []), 76), (76, (1, 0, 2, 0, []), 77), (77, (8, 0, 0, 0, []), 78), (78, (1, 0, 3, 0, []), 79), (79, (32, 0, 136, 0, []), 82), (82, (26, 0, 87, 0, []), 85), (85, (0, (-2), 0, 0, []), 87), (87, (29, 0, 0, 0, []), 88), (88, (1, 0, 3, 0, []), 89), (89, (0, 0, 0, 0, []), 90), (90, (0, 40, 0, 0, []), 92), (92, (32, 0, 112, 1, []), 95), (95, (24, 0, 110, 0, []), 98), (98, (2, 0, 0, 0, []), 99), (99, (0, 6, 0, 0, []), 101), (101, (1, 0, 2, 0, []), 102), (102, (8, 0, 0, 0, []), 103), (103, (1, 0, 3, 0, []), 104), (104, (32, 0, 136, 0, []), 107), (107, (26, 0, 112, 0, []), 110), (110, (0, (-2), 0, 0, []), 112), (112, (29, 0, 0, 0, []), 113), (113, (1, 0, 3, 0, []), 114), (114, (0, 1, 0, 0, []), 115), (115, (0, 20, 0, 0, []), 117), (117, (32, 0, 112, 1, []), 120), (120, (24, 0, 135, 0, []), 123), (123, (2, 0, 0, 0, []), 124), (124, (0, 22, 0, 0, []), 126), (126, (1, 0, 2, 0, []), 127), (127, (8, 0, 0, 0, []), 128), (128, (1, 0, 3, 0, []), 129), (129, (32, 0, 136, 0, []), 132), (132, (26, 0, 137, 0, []), 135), (135, (0, (-2), 0, 0, []), 137), (137, (29, 0, 0, 0, []), 138), (138, (1, 0, 3, 0, []), 139), (139, (0, 1, 0, 0, []), 140), (140, (0, 9, 0, 0, []), 142), (142, (32, 0, 112, 1, []), 145), (145, (24, 0, 160, 0, []), 148), (148, (2, 0, 0, 0, []), 149), (149, (0, 32, 0, 0, []), 151), (151, (1, 0, 2, 0, []), 152), (152, (8, 0, 0, 0, []), 153), (153, (1, 0, 3, 0, []), 154), (154, (32, 0, 136, 0, []), 157), (157, (26, 0, 162, 0, []), 160), (160, (0, (-2), 0, 0, []), 162), (162, (29, 0, 0, 0, []), 163)]
def mj_c138 : List (Nat × mj_MI × Nat) := [(0, (1, 0, 1, 0, []), 1), (1, (0, 0, 0, 0, []), 2), (2, (0, 3, 0, 0, []), 3), (3, (32, 0, 112, 1, []), 6), (6, (24, 0, 11, 1, []), 9), (9, (0, (-1), 0, 0, []), 10), (10, (29, 0, 0, 0, []), 11), (11, (1, 0, 2, 0, []), 12), (12, (0, 0, 0, 0, []), 13), (13, (1, 0, 1, 0, []), 14), (14, (0, 3, 0, 0, []), 15), (15, (25, 0, 22, 1, []), 18), (18, (0, 5, 0, 0, []), 19), (19, (26, 0, 24, 0, []), 22), (22, (0, 20, 0, 0, []), 24), (24, (32, 0, 112, 1, []), 27), (27, (24, 0, 42, 0, []), 30), (30, (2, 0, 0, 0, []), 31), (31, (0, 42, 0, 0, []), 33), (33, (1, 0, 1, 0, []), 34), (34, (8, 0, 0, 0, []), 35), (35, (1, 0, 2, 0, []), 36), (36, (32, 0, 136, 0, []), 39), (39, (26, 0, 44, 0, []), 42), (42, (0, (-2), 0, 0, []), 44), (44, (29, 0, 0, 0, []), 45)]
def mj_c139 : List (Nat × mj_MI × Nat) := [(0, (1, 0, 1, 0, []), 1), (1, (0, 0, 0, 0, []), 2), (2, (0, 127, 0, 0, []), 4), (4, (32, 0, 112, 1, []), 7), (7, (24, 0, 13, 1, []), 10), (10, (0, (-2), 0, 0, []), 12), (12, (29, 0, 0, 0, []), 13), (13, (2, 0, 0, 0, []), 14), (14, (15, 0, 9, 23, []), 17), (17, (0, 100, 0, 0, []), 19), (19, (25, 0, 25, 1, []), 22), (22, (0, (-4), 0, 0, []), 24), (24, (29, 0, 0, 0, []), 25), (25, (2, 0, 0, 0, []), 26), (26, (15, 0, 9, 21, []), 29), (29, (2, 0, 0, 0, []), 30), (30, (15, 0, 9, 23, []), 33), (33, (1, 0, 1, 0, []), 34), (34, (18, 0, 0, 0, []), 35), (35, (2, 0, 0, 0, []), 36), (36, (41, 0, 0, 0, []), 37), (37, (15, 0, 9, 23, []), 40), (40, (0, 1, 0, 0, []), 41), (41, (8, 0, 0, 0, []), 42), (42, (16, 0, 9, 23, []), 45), (45, (2, 0, 0, 0, []), 46), (46, (15, 0, 9, 23, []), 49), (49, (29, 0, 0, 0, []), 50)]
def mj_c140 : List (Nat × mj_MI × Nat) := [(0, (2, 0, 0, 0, []), 1), (1, (15, 0, 9, 25, []), 4), (4, (24, 0, 35, 3, []), 7), (7, (2, 0, 0, 0, []), 8), (8, (15, 0, 9, 24, []), 11), (11, (2, 0, 0, 0, []), 12), (12, (15, 0, 9, 23, []), 15), (15, (25, 0, 35, 3, []), 18), (18, (2, 0, 0, 0, []), 19), (19, (15, 0, 9, 21, []), 22), (22, (2, 0, 0, 0, []), 23), (23, (15, 0, 9, 24, []), 26), (26, (17, 0, 0, 0, []), 27), (27, (1, 0, 1, 0, []), 28), (28, (25, 0, 35, 1, []), 31), (31, (0, 1, 0, 0, []), 32), (32, (26, 0, 36, 0, []), 35), (35, (0, 0, 0, 0, []), 36), (36, (4, 0, 2, 0, []), 37), (37, (2, 0, 0, 0, []), 38), (38, (41, 0, 0, 0, []), 39), (39, (15, 0, 9, 24, []), 42), (42, (1, 0, 2, 0, []), 43), (43, (24, 0, 50, 0, []), 46), (46, (0, 1, 0, 0, []), 47), (47, (26, 0, 51, 0, []), 50), (50, (0, 0, 0, 0, []), 51), (51, (8, 0, 0, 0, []), 52), (52, (16, 0, 9, 24, []), 55), (55, (1, 0, 2, 0, []), 56), (56, (29, 0, 0, 1, []), 57)]
def mj_c141 : List (Nat × mj_MI × Nat) := [(0, (2, 0, 0, 0, []), 1), (1, (15, 0, 9, 25, []), 4), (4, (24, 0, 15, 3, []), 7), (7, (2, 0, 0, 0, []), 8), (8, (2, 0, 0, 0, []), 9), (9, (15, 0, 9, 24, []), 12), (12, (16, 0, 9, 25, []), 15), (15, (28, 0, 0, 0, []), 16)]
def mj_c142 : List (Nat × mj_MI × Nat) := [(0, (2, 0, 0, 0, []), 1), (1, (15, 0, 9, 24, []), 4), (4, (4, 0, 2, 0, []), 5), (5, (0, 0, 0, 0, []), 6), (6, (4, 0, 3, 0, []), 7), (7, (2, 0, 0, 0, []), 8), (8, (15, 0, 9, 25, []), 11), (11, (24, 0, 85, 3, []), 14), (14, (2, 0, 0, 0, []), 15), (15, (15, 0, 9, 24, []), 18), (18, (2, 0, 0, 0, []), 19), (19, (15, 0, 9, 23, []), 22), (22, (25, 0, 85, 3, []), 25), (25, (2, 0, 0, 0, []), 26), (26, (15, 0, 9, 24, []), 29), (29, (1, 0, 2, 0, []), 30), (30, (1, 0, 1, 0, []), 31), (31, (8, 0, 0, 0, []), 32), (32, (25, 0, 85, 3, []), 35), (35, (2, 0, 0, 0, []), 36), (36, (15, 0, 9, 21, []), 39), (39, (2, 0, 0, 0, []), 40), (40, (15, 0, 9, 24, []), 43), (43, (17, 0, 0, 0, []), 44), (44, (0, 48, 0, 0, []), 46), (46, (0, 57, 0, 0, []), 48), (48, (32, 0, 112, 1, []), 51), (51, (24, 0, 85, 0, []), 54), (54, (0, 10, 0, 0, []), 56), (56, (1, 0, 3, 0, []), 57), (57, (10, 0, 0, 0, []), 58), (58, (2, 0, 0, 0, []), 59), (59, (15, 0, 9, 21, []), 62), (62, (2, 0, 0, 0, []), 63), (63, (15, 0, 9, 24, []), 66), (66, (17, 0, 0, 0, []), 67), (67, (8, 0, 0, 0, []), 68), (68, (0, 48, 0, 0, []), 70), (70, (9, 0, 0, 0, []), 71), (71, (4, 0, 3, 0, []), 72), (72, (2, 0, 0, 0, []), 73), (73, (41, 0, 0, 0, []), 74), (74, (15, 0, 9, 24, []), 77), (77, (0, 1, 0, 0, []), 78), (78, (8, 0, 0, 0, []), 79), (79, (16, 0, 9, 24, []), 82), (82, (26, 0, 7, 0, []), 85), (85, (2, 0, 0, 0, []), 86), (86, (15, 0, 9, 24, []), 89), (89, (1, 0, 2, 0, []), 90), (90, (25, 0, 97, 1, []), 93), (93, (2, 0, 0, 0, []), 94), (94, (32, 0, 141, 0, []), 97), (97, (1, 0, 3, 0, []), 98), (98, (29, 0, 0, 0, []), 99)]
def mj_c143 : List (Nat × mj_MI × Nat) := [(0, (2, 0, 0, 0, []), 1), (1, (0, 44, 0, 0, []), 3), (3, (32, 0, 140, 0, []), 6), (6, (24, 0, 13, 1, []), 9), (9, (2, 0, 0, 0, []), 10), (10, (32, 0, 141, 0, []), 13), (13, (28, 0, 0, 0, []), 14)]
def mj_c144 : List (Nat × mj_MI × Nat) := [(0, (2, 0, 0, 0, []), 1), (1, (15, 0, 9, 25, []), 4), (4, (24, 0, 30, 3, []), 7), (7, (2, 0, 0, 0, []), 8), (8, (15, 0, 9, 24, []), 11), (11, (2, 0, 0, 0, []), 12), (12, (15, 0, 9, 23, []), 15), (15, (25, 0, 30, 3, []), 18), (18, (2, 0, 0, 0, []), 19), (19, (15, 0, 9, 21, []), 22), (22, (2, 0, 0, 0, []), 23), (23, (15, 0, 9, 24, []), 26), (26, (17, 0, 0, 0, []), 27), (27, (26, 0, 31, 0, []), 30), (30, (0, 0, 0, 0, []), 31), (31, (4, 0, 2, 0, []), 32), (32, (2, 0, 0, 0, []), 33), (33, (15, 0, 9, 22, []), 36), (36, (1, 0, 1, 0, []), 37), (37, (1, 0, 2, 0, []), 38), (38, (18, 0, 0, 0, []), 39), (39, (1, 0, 2, 0, []), 40), (40, (0, 121, 0, 0, []), 42), (42, (25, 0, 80, 0, []), 45), (45, (1, 0, 2, 0, []), 46), (46, (0, 109, 0, 0, []), 48), (48, (25, 0, 80, 0, []), 51), (51, (1, 0, 2, 0, []), 52), (52, (0, 102, 0, 0, []), 54), (54, (25, 0, 80, 0, []), 57), (57, (1, 0, 2, 0, []), 58), (58, (0, 99, 0, 0, []), 60), (60, (25, 0, 80, 0, []), 63), (63, (1, 0, 2, 0, []), 64), (64, (0, 115, 0, 0, []), 66), (66, (25, 0, 80, 0, []), 69), (69, (1, 0, 2, 0, []), 70), (70, (0, 108, 0, 0, []), 72), (72, (25, 0, 80, 0, []), 75), (75, (2, 0, 0, 0, []), 76), (76, (32, 0, 141, 0, []), 79), (79, (28, 0, 0, 0, []), 80), (80, (2, 0, 0, 0, []), 81), (81, (41, 0, 0, 0, []), 82), (82, (15, 0, 9, 24, []), 85), (85, (0, 1, 0, 0, []), 86), (86, (8, 0, 0, 0, []), 87), (87, (16, 0, 9, 24, []), 90), (90, (1, 0, 2, 0, []), 91), (91, (0, 109, 0, 0, []), 93), (93, (25, 0, 109, 1, []), 96), (96, (2, 0, 0, 0, []), 97), (97, (15, 0, 9, 22, []), 100), (100, (1, 0, 1, 0, []), 101), (101, (0, 3, 0, 0, []), 102), (102, (8, 0, 0, 0, []), 103), (103, (2, 0, 0, 0, []), 104), (104, (0, 1, 0, 0, []), 105), (105, (32, 0, 142, 0, []), 108), (108, (18, 0, 0, 0, []), 109), (109, (2, 0, 0, 0, []), 110), (110, (15, 0, 9, 22, []), 113), (113, (1, 0, 1, 0, []), 114), (114, (0, 1, 0, 0, []), 115), (115, (8, 0, 0, 0, []), 116), (116, (2, 0, 0, 0, []), 117), (117, (1, 0, 2, 0, []), 118), (118, (0, 108, 0, 0, []), 120), (120, (25, 0, 127, 1, []), 123), (123, (0, 1, 0, 0, []), 124), (124, (26, 0, 128, 0, []), 127), (127, (0, 2, 0, 0, []), 128), (128, (32, 0, 142, 0, []), 131), (131, (18, 0, 0, 0, []), 132), (132, (1, 0, 2, 0, []), 133), (133, (0, 121, 0, 0, []), 135), (135, (25, 0, 144, 0, []), 138), (138, (1, 0, 2, 0, []), 139), (139, (0, 109, 0, 0, []), 141), (141, (25, 0, 171, 1, []), 144), (144, (2, 0, 0, 0, []), 145), (145, (32, 0, 143, 0, []), 148), (148, (2, 0, 0, 0, []), 149), (149, (15, 0, 9, 22, []), 152), (152, (1, 0, 1, 0, []), 153), (153, (0, 2, 0, 0, []), 154), (154, (8, 0, 0, 0, []), 155), (155, (2, 0, 0, 0, []), 156), (156, (1, 0, 2, 0, []), 157), (157, (0, 109, 0, 0, []), 159), (159, (25, 0, 166, 1, []), 162), (162, (0, 1, 0, 0, []), 163), (163, (26, 0, 167, 0, []), 166), (166, (0, 2, 0, 0, []), 167), (167, (32, 0, 142, 0, []), 170), (170, (18, 0, 0, 0, []), 171), (171, (28, 0, 0, 0, []), 172)]
def mj_c145 : List (Nat × mj_MI × Nat) := [(0, (2, 0, 0, 0, []), 1), (1, (15, 0, 9, 22, []), 4), (4, (1, 0, 1, 0, []), 5), (5, (0, 1, 0, 0, []), 6), (6, (8, 0, 0, 0, []), 7), (7, (17, 0, 0, 0, []), 8), (8, (4, 0, 2, 0, []), 9), (9, (2, 0, 0, 0, []), 10), (10, (15, 0, 9, 22, []), 13), (13, (1, 0, 1, 0, []), 14), (14, (17, 0, 0, 0, []), 15), (15, (27, 0, 121, 0, [(99, 107), (102, 100), (109, 78), (115, 114), (121, 64)]), 64), (64, (2, 0, 0, 0, []), 65), (65, (1, 0, 2, 0, []), 66), (66, (2, 0, 0, 0, []), 67), (67, (15, 0, 9, 22, []), 70), (70, (1, 0, 1, 0, []), 71), (71, (0, 2, 0, 0, []), 72), (72, (8, 0, 0, 0, []), 73), (73, (17, 0, 0, 0, []), 74), (74, (32, 0, 134, 0, []), 77), (77, (29, 0, 0, 0, []), 78), (78, (2, 0, 0, 0, []), 79), (79, (2, 0, 0, 0, []), 80), (80, (15, 0, 9, 22, []), 83), (83, (1, 0, 1, 0, []), 84), (84, (0, 3, 0, 0, []), 85), (85, (8, 0, 0, 0, []), 86), (86, (17, 0, 0, 0, []), 87), (87, (1, 0, 2, 0, []), 88), (88, (2, 0, 0, 0, []), 89), (89, (15, 0, 9, 22, []), 92), (92, (1, 0, 1, 0, []), 93), (93, (0, 2, 0, 0, []), 94), (94, (8, 0, 0, 0, []), 95), (95, (17, 0, 0, 0, []), 96), (96, (32, 0, 135, 0, []), 99), (99, (29, 0, 0, 0, []), 100), (100, (2, 0, 0, 0, []), 101), (101, (0, 0, 0, 0, []), 102), (102, (1, 0, 2, 0, []), 103), (103, (32, 0, 138, 0, []), 106), (106, (29, 0, 0, 0, []), 107), (107, (2, 0, 0, 0, []), 108), (108, (0, 1, 0, 0, []), 109), (109, (1, 0, 2, 0, []), 110), (110, (32, 0, 138, 0, []), 113), (113, (29, 0, 0, 0, []), 114), (114, (2, 0, 0, 0, []), 115), (115, (0, 2, 0, 0, []), 116), (116, (1, 0, 2, 0, []), 117), (117, (32, 0, 138, 0, []), 120), (120, (29, 0, 0, 0, []), 121), (121, (2, 0, 0, 0, []), 122), (122, (0, 3, 0, 0, []), 123), (123, (1, 0, 2, 0, []), 124), (124, (32, 0, 138, 0, []), 127), (127, (29, 0, 0, 0, []), 128)]
def mj_c146 : List (Nat × mj_MI × Nat) := [(0, (2, 0, 0, 0, []), 1), (1, (0, 0, 0, 0, []), 2), (2, (16, 0, 9, 24, []), 5), (5, (2, 0, 0, 0, []), 6), (6, (0, (-1), 0, 0, []), 7), (7, (16, 0, 9, 25, []), 10), (10, (0, 0, 0, 0, []), 11), (11, (4, 0, 1, 0, []), 12), (12, (2, 0, 0, 0, []), 13), (13, (0, 4, 0, 0, []), 14), (14, (1, 0, 1, 0, []), 15), (15, (10, 0, 0, 0, []), 16), (16, (32, 0, 144, 0, []), 19), (19, (7, 1, 1, 0, []), 22), (22, (1, 0, 1, 0, []), 23), (23, (0, 14, 0, 0, []), 25), (25, (25, 0, 37, 3, []), 28), (28, (2, 0, 0, 0, []), 29), (29, (0, 59, 0, 0, []), 31), (31, (32, 0, 140, 0, []), 34), (34, (24, 0, 12, 1, []), 37), (37, (2, 0, 0, 0, []), 38), (38, (15, 0, 9, 24, []), 41), (41, (2, 0, 0, 0, []), 42), (42, (15, 0, 9, 23, []), 45), (45, (25, 0, 52, 3, []), 48), (48, (2, 0, 0, 0, []), 49), (49, (32, 0, 141, 0, []), 52), (52, (2, 0, 0, 0, []), 53), (53, (0, 0, 0, 0, []), 54), (54, (16, 0, 9, 23, []), 57), (57, (2, 0, 0, 0, []), 58), (58, (15, 0, 9, 25, []), 61), (61, (24, 0, 72, 2, []), 64), (64, (0, (-10), 0, 0, []), 66), (66, (2, 0, 0, 0, []), 67), (67, (15, 0, 9, 25, []), 70), (70, (9, 0, 0, 0, []), 71), (71, (29, 0, 0, 0, []), 72), (72, (0, 0, 0, 0, []), 73), (73, (4, 0, 2, 0, []), 74), (74, (0, 0, 0, 0, []), 75), (75, (4, 0, 3, 0, []), 76), (76, (1, 0, 3, 0, []), 77), (77, (1, 0, 1, 0, []), 78), (78, (25, 0, 105, 3, []), 81), (81, (1, 0, 2, 0, []), 82), (82, (2, 0, 0, 0, []), 83), (83, (0, 4, 0, 0, []), 84), (84, (1, 0, 3, 0, []), 85), (85, (10, 0, 0, 0, []), 86), (86, (32, 0, 145, 0, []), 89), (89, (24, 0, 96, 2, []), 92), (92, (0, 1, 0, 0, []), 93), (93, (26, 0, 97, 0, []), 96), (96, (0, 0, 0, 0, []), 97), (97, (8, 0, 0, 0, []), 98), (98, (4, 0, 2, 0, []), 99), (99, (7, 1, 3, 0, []), 102), (102, (26, 0, 76, 0, []), 105), (105, (1, 0, 2, 0, []), 106), (106, (29, 0, 0, 0, []), 107)]
def mj_c147 : List (Nat × mj_MI × Nat) := [(0, (0, 0, 0, 0, []), 1), (1, (4, 0, 2, 0, []), 2), (2, (0, 0, 0, 0, []), 3), (3, (4, 0, 3, 0, []), 4), (4, (1, 0, 3, 0, []), 5), (5, (2, 0, 0, 0, []), 6), (6, (15, 0, 9, 0, []), 9), (9, (0, 11, 0, 0, []), 11), (11, (17, 0, 0, 0, []), 12), (12, (25, 0, 42, 3, []), 15), (15, (1, 0, 2, 0, []), 16), (16, (2, 0, 0, 0, []), 17), (17, (15, 0, 9, 0, []), 20), (20, (0, 12, 0, 0, []), 22), (22, (1, 0, 3, 0, []), 23), (23, (8, 0, 0, 0, []), 24), (24, (17, 0, 0, 0, []), 25), (25, (1, 0, 1, 0, []), 26), (26, (25, 0, 33, 1, []), 29), (29, (0, 1, 0, 0, []), 30), (30, (26, 0, 34, 0, []), 33), (33, (0, 0, 0, 0, []), 34), (34, (8, 0, 0, 0, []), 35), (35, (4, 0, 2, 0, []), 36), (36, (7, 1, 3, 0, []), 39), (39, (26, 0, 4, 0, []), 42), (42, (1, 0, 2, 0, []), 43), (43, (29, 0, 0, 0, []), 44)]
def mj_c148 : List (Nat × mj_MI × Nat) := [(0, (2, 0, 0, 0, []), 1), (1, (1, 0, 1, 0, []), 2), (2, (32, 0, 113, 0, []), 5), (5, (24, 0, 10, 1, []), 8), (8, (0, (-1), 0, 0, []), 9), (9, (29, 0, 0, 0, []), 10), (10, (1, 0, 2, 0, []), 11), (11, (27, 0, 132, 0, [(0, 60), (1, 69), (2, 79), (3, 86), (4, 93), (5, 105), (6, 112), (7, 119), (8, 126)]), 60), (60, (2, 0, 0, 0, []), 61), (61, (15, 0, 9, 0, []), 64), (64, (0, 1, 0, 0, []), 65), (65, (1, 0, 1, 0, []), 66), (66, (8, 0, 0, 0, []), 67), (67, (17, 0, 0, 0, []), 68), (68, (29, 0, 0, 0, []), 69), (69, (2, 0, 0, 0, []), 70), (70, (15, 0, 9, 0, []), 73), (73, (0, 6, 0, 0, []), 75), (75, (1, 0, 1, 0, []), 76), (76, (8, 0, 0, 0, []), 77), (77, (17, 0, 0, 0, []), 78), (78, (29, 0, 0, 0, []), 79), (79, (2, 0, 0, 0, []), 80), (80, (15, 0, 9, 4, []), 83), (83, (1, 0, 1, 0, []), 84), (84, (17, 0, 0, 0, []), 85), (85, (29, 0, 0, 0, []), 86), (86, (2, 0, 0, 0, []), 87), (87, (15, 0, 9, 6, []), 90), (90, (1, 0, 1, 0, []), 91), (91, (17, 0, 0, 0, []), 92), (92, (29, 0, 0, 0, []), 93), (93, (2, 0, 0, 0, []), 94), (94, (15, 0, 9, 12, []), 97), (97, (2, 0, 0, 0, []), 98), (98, (15, 0, 9, 6, []), 101), (101, (1, 0, 1, 0, []), 102), (102, (17, 0, 0, 0, []), 103), (103, (17, 0, 0, 0, []), 104), (104, (29, 0, 0, 0, []), 105), (105, (2, 0, 0, 0, []), 106), (106, (15, 0, 9, 7, []), 109), (109, (1, 0, 1, 0, []), 110), (110, (17, 0, 0, 0, []), 111), (111, (29, 0, 0, 0, []), 112), (112, (2, 0, 0, 0, []), 113), (113, (15, 0, 9, 8, []), 116), (116, (1, 0, 1, 0, []), 117), (117, (17, 0, 0, 0, []), 118), (118, (29, 0, 0, 0, []), 119), (119, (2, 0, 0, 0, []), 120), (120, (15, 0, 9, 5, []), 123), (123, (1, 0, 1, 0, []), 124), (124, (17, 0, 0, 0, []), 125), (125, (29, 0, 0, 0, []), 126), (126, (2, 0, 0, 0, []), 127), (127, (1, 0, 1, 0, []), 128), (128, (32, 0, 147, 0, []), 131), (131, (29, 0, 0, 0, []), 132), (132, (0, (-1), 0, 0, []), 133), (133, (29, 0, 0, 0, []), 134)]
def mj_c149 : List (Nat × mj_MI × Nat) := [(0, (2, 0, 0, 0, []), 1), (1, (1, 0, 1, 0, []), 2), (2, (32, 0, 114, 0, []), 5), (5, (24, 0, 17, 0, []), 8), (8, (1, 0, 2, 0, []), 9), (9, (0, 0, 0, 0, []), 10), (10, (0, 3, 0, 0, []), 11), (11, (32, 0, 112, 1, []), 14), (14, (24, 0, 19, 1, []), 17), (17, (0, (-1), 0, 0, []), 18), (18, (29, 0, 0, 0, []), 19), (19, (1, 0, 2, 0, []), 20), (20, (24, 0, 35, 1, []), 23), (23, (2, 0, 0, 0, []), 24), (24, (15, 0, 9, 0, []), 27), (27, (0, 12, 0, 0, []), 29), (29, (1, 0, 1, 0, []), 30), (30, (8, 0, 0, 0, []), 31), (31, (17, 0, 0, 0, []), 32), (32, (26, 0, 75, 0, []), 35), (35, (1, 0, 2, 0, []), 36), (36, (0, 1, 0, 0, []), 37), (37, (25, 0, 52, 1, []), 40), (40, (2, 0, 0, 0, []), 41), (41, (15, 0, 9, 0, []), 44), (44, (0, 22, 0, 0, []), 46), (46, (1, 0, 1, 0, []), 47), (47, (8, 0, 0, 0, []), 48), (48, (17, 0, 0, 0, []), 49), (49, (26, 0, 75, 0, []), 52), (52, (1, 0, 2, 0, []), 53), (53, (0, 2, 0, 0, []), 54), (54, (25, 0, 69, 1, []), 57), (57, (2, 0, 0, 0, []), 58), (58, (15, 0, 9, 0, []), 61), (61, (0, 32, 0, 0, []), 63), (63, (1, 0, 1, 0, []), 64), (64, (8, 0, 0, 0, []), 65), (65, (17, 0, 0, 0, []), 66), (66, (26, 0, 75, 0, []), 69), (69, (2, 0, 0, 0, []), 70), (70, (15, 0, 9, 14, []), 73), (73, (1, 0, 1, 0, []), 74), (74, (17, 0, 0, 0, []), 75), (75, (29, 0, 0, 0, []), 76)]
def mj_c150 : List (Nat × mj_MI × Nat) := [(0, (2, 0, 0, 0, []), 1), (1, (1, 0, 1, 0, []), 2), (2, (32, 0, 113, 0, []), 5), (5, (24, 0, 17, 0, []), 8), (8, (1, 0, 3, 0, []), 9), (9, (0, 0, 0, 0, []), 10), (10, (0, 1, 0, 0, []), 11), (11, (32, 0, 112, 1, []), 14), (14, (24, 0, 19, 1, []), 17), (17, (0, (-1), 0, 0, []), 18), (18, (29, 0, 0, 0, []), 19), (19, (1, 0, 2, 0, []), 20), (20, (0, 0, 0, 0, []), 21), (21, (0, 20, 0, 0, []), 23), (23, (32, 0, 112, 1, []), 26), (26, (24, 0, 34, 1, []), 29), (29, (0, (-2), 0, 0, []), 31), (31, (26, 0, 53, 0, []), 34), (34, (1, 0, 3, 0, []), 35), (35, (24, 0, 47, 1, []), 38), (38, (2, 0, 0, 0, []), 39), (39, (1, 0, 1, 0, []), 40), (40, (1, 0, 2, 0, []), 41), (41, (32, 0, 117, 0, []), 44), (44, (26, 0, 53, 0, []), 47), (47, (2, 0, 0, 0, []), 48), (48, (1, 0, 1, 0, []), 49), (49, (1, 0, 2, 0, []), 50), (50, (32, 0, 118, 0, []), 53), (53, (29, 0, 0, 0, []), 54)]
def mj_c151 : List (Nat × mj_MI × Nat) := [(0, (1, 0, 1, 0, []), 1), (1, (0, 0, 0, 0, []), 2), (2, (2, 0, 0, 0, []), 3), (3, (15, 0, 9, 17, []), 6), (6, (0, 1, 0, 0, []), 7), (7, (9, 0, 0, 0, []), 8), (8, (32, 0, 112, 1, []), 11), (11, (24, 0, 16, 1, []), 14), (14, (0, (-1), 0, 0, []), 15), (15, (29, 0, 0, 0, []), 16), (16, (1, 0, 2, 0, []), 17), (17, (27, 0, 129, 0, [(0, 56), (1, 63), (2, 70), (3, 77), (4, 83), (5, 90)]), 56), (56, (2, 0, 0, 0, []), 57), (57, (15, 0, 9, 10, []), 60), (60, (1, 0, 1, 0, []), 61), (61, (17, 0, 0, 0, []), 62), (62, (29, 0, 0, 0, []), 63), (63, (2, 0, 0, 0, []), 64), (64, (15, 0, 9, 11, []), 67), (67, (1, 0, 1, 0, []), 68), (68, (17, 0, 0, 0, []), 69), (69, (29, 0, 0, 0, []), 70), (70, (2, 0, 0, 0, []), 71), (71, (15, 0, 9, 12, []), 74), (74, (1, 0, 1, 0, []), 75), (75, (17, 0, 0, 0, []), 76), (76, (29, 0, 0, 0, []), 77), (77, (2, 0, 0, 0, []), 78), (78, (1, 0, 1, 0, []), 79), (79, (32, 0, 120, 0, []), 82), (82, (29, 0, 0, 0, []), 83), (83, (2, 0, 0, 0, []), 84), (84, (15, 0, 9, 13, []), 87), (87, (1, 0, 1, 0, []), 88), (88, (17, 0, 0, 0, []), 89), (89, (29, 0, 0, 0, []), 90), (90, (0, 0, 0, 0, []), 91), (91, (4, 0, 3, 0, []), 92), (92, (2, 0, 0, 0, []), 93), (93, (15, 0, 9, 10, []), 96), (96, (1, 0, 1, 0, []), 97), (97, (17, 0, 0, 0, []), 98), (98, (4, 0, 4, 0, []), 100), (100, (1, 0, 4, 0, []), 102), (102, (2, 0, 0, 0, []), 103), (103, (15, 0, 9, 11, []), 106), (106, (1, 0, 1, 0, []), 107), (107, (17, 0, 0, 0, []), 108), (108, (25, 0, 127, 4, []), 111), (111, (1, 0, 3, 0, []), 112), (112, (2, 0, 0, 0, []), 113), (113, (15, 0, 9, 7, []), 116), (116, (1, 0, 4, 0, []), 118), (118, (17, 0, 0, 0, []), 119), (119, (8, 0, 0, 0, []), 120), (120, (4, 0, 3, 0, []), 121), (121, (7, 1, 4, 0, []), 124), (124, (26, 0, 100, 0, []), 127), (127, (1, 0, 3, 0, []), 128), (128, (29, 0, 0, 0, []), 129), (129, (0, (-1), 0, 0, []), 130), (130, (29, 0, 0, 0, []), 131)]
def mj_c152 : List (Nat × mj_MI × Nat) := [(0, (0, 0, 0, 0, []), 1), (1, (4, 0, 1, 0, []), 2), (2, (0, 0, 0, 0, []), 3), (3, (4, 0, 2, 0, []), 4), (4, (1, 0, 2, 0, []), 5), (5, (2, 0, 0, 0, []), 6), (6, (15, 0, 9, 17, []), 9), (9, (25, 0, 27, 3, []), 12), (12, (1, 0, 1, 0, []), 13), (13, (2, 0, 0, 0, []), 14), (14, (15, 0, 9, 13, []), 17), (17, (1, 0, 2, 0, []), 18), (18, (17, 0, 0, 0, []), 19), (19, (8, 0, 0, 0, []), 20), (20, (4, 0, 1, 0, []), 21), (21, (7, 1, 2, 0, []), 24), (24, (26, 0, 4, 0, []), 27), (27, (1, 0, 1, 0, []), 28), (28, (29, 0, 0, 0, []), 29)]
def mj_c153 : List (Nat × mj_MI × Nat) := [(0, (0, 0, 0, 0, []), 1), (1, (4, 0, 1, 0, []), 2), (2, (0, 0, 0, 0, []), 3), (3, (4, 0, 2, 0, []), 4), (4, (1, 0, 2, 0, []), 5), (5, (2, 0, 0, 0, []), 6), (6, (15, 0, 9, 17, []), 9), (9, (25, 0, 71, 3, []), 12), (12, (0, 1, 0, 0, []), 13), (13, (4, 0, 3, 0, []), 14), (14, (0, 0, 0, 0, []), 15), (15, (4, 0, 4, 0, []), 17), (17, (1, 0, 4, 0, []), 19), (19, (1, 0, 2, 0, []), 20), (20, (25, 0, 53, 3, []), 23), (23, (1, 0, 3, 0, []), 24), (24, (2, 0, 0, 0, []), 25), (25, (15, 0, 9, 12, []), 28), (28, (1, 0, 4, 0, []), 30), (30, (17, 0, 0, 0, []), 31), (31, (2, 0, 0, 0, []), 32), (32, (15, 0, 9, 12, []), 35), (35, (1, 0, 2, 0, []), 36), (36, (17, 0, 0, 0, []), 37), (37, (25, 0, 44, 0, []), 40), (40, (0, 1, 0, 0, []), 41), (41, (26, 0, 45, 0, []), 44), (44, (0, 0, 0, 0, []), 45), (45, (14, 0, 0, 0, []), 46), (46, (4, 0, 3, 0, []), 47), (47, (7, 1, 4, 0, []), 50), (50, (26, 0, 17, 0, []), 53), (53, (1, 0, 1, 0, []), 54), (54, (1, 0, 3, 0, []), 55), (55, (24, 0, 62, 0, []), 58), (58, (0, 1, 0, 0, []), 59), (59, (26, 0, 63, 0, []), 62), (62, (0, 0, 0, 0, []), 63), (63, (8, 0, 0, 0, []), 64), (64, (4, 0, 1, 0, []), 65), (65, (7, 1, 2, 0, []), 68), (68, (26, 0, 4, 0, []), 71), (71, (1, 0, 1, 0, []), 72), (72, (29, 0, 0, 0, []), 73)]
def mj_c154 : List (Nat × mj_MI × Nat) := [(0, (1, 0, 1, 0, []), 1), (1, (27, 0, 156, 0, [(0, 68), (1, 75), (2, 83), (3, 83), (4, 83), (5, 83), (6, 95), (7, 100), (8, 105), (9, 110), (10, 115), (11, 146), (12, 151)]), 68), (68, (2, 0, 0, 0, []), 69), (69, (15, 0, 9, 0, []), 72), (72, (0, 0, 0, 0, []), 73), (73, (17, 0, 0, 0, []), 74), (74, (29, 0, 0, 0, []), 75), (75, (2, 0, 0, 0, []), 76), (76, (15, 0, 9, 0, []), 79), (79, (0, 11, 0, 0, []), 81), (81, (17, 0, 0, 0, []), 82), (82, (29, 0, 0, 0, []), 83), (83, (2, 0, 0, 0, []), 84), (84, (15, 0, 9, 0, []), 87), (87, (0, 42, 0, 0, []), 89), (89, (1, 0, 1, 0, []), 90), (90, (8, 0, 0, 0, []), 91), (91, (0, 2, 0, 0, []), 92), (92, (9, 0, 0, 0, []), 93), (93, (17, 0, 0, 0, []), 94), (94, (29, 0, 0, 0, []), 95), (95, (2, 0, 0, 0, []), 96), (96, (15, 0, 9, 17, []), 99), (99, (29, 0, 0, 0, []), 100), (100, (2, 0, 0, 0, []), 101), (101, (15, 0, 9, 18, []), 104), (104, (29, 0, 0, 0, []), 105), (105, (2, 0, 0, 0, []), 106), (106, (15, 0, 9, 19, []), 109), (109, (29, 0, 0, 0, []), 110), (110, (2, 0, 0, 0, []), 111), (111, (15, 0, 9, 20, []), 114), (114, (29, 0, 0, 0, []), 115), (115, (0, 0, 0, 0, []), 116), (116, (4, 0, 2, 0, []), 117), (117, (0, 0, 0, 0, []), 118), (118, (4, 0, 3, 0, []), 119), (119, (1, 0, 3, 0, []), 120), (120, (2, 0, 0, 0, []), 121), (121, (15, 0, 9, 0, []), 124), (124, (0, 0, 0, 0, []), 125), (125, (17, 0, 0, 0, []), 126), (126, (25, 0, 144, 3, []), 129), (129, (1, 0, 2, 0, []), 130), (130, (2, 0, 0, 0, []), 131), (131, (15, 0, 9, 5, []), 134), (134, (1, 0, 3, 0, []), 135), (135, (17, 0, 0, 0, []), 136), (136, (8, 0, 0, 0, []), 137), (137, (4, 0, 2, 0, []), 138), (138, (7, 1, 3, 0, []), 141), (141, (26, 0, 119, 0, []), 144), (144, (1, 0, 2, 0, []), 145), (145, (29, 0, 0, 0, []), 146), (146, (2, 0, 0, 0, []), 147), (147, (32, 0, 152, 0, []), 150), (150, (29, 0, 0, 0, []), 151), (151, (2, 0, 0, 0, []), 152), (152, (32, 0, 153, 0, []), 155), (155, (29, 0, 0, 0, []), 156), (156, (0, (-1), 0, 0, []), 157), (157, (29, 0, 0, 0, []), 158)]
def mj_c155 : List (Nat × mj_MI × Nat) := [(0, (49, 20, 0, 0, []), 3), (3, (2, 0, 0, 0, []), 4), (4, (32, 0, 152, 0, []), 7), (7, (45, 0, 0, 0, []), 8), (8, (52, 0, 0, 0, []), 9), (9, (6, 0, 1, 0, []), 10), (10, (0, 0, 0, 0, []), 11), (11, (4, 0, 3, 0, []), 12), (12, (1, 0, 3, 0, []), 13), (13, (2, 0, 0, 0, []), 14), (14, (15, 0, 9, 0, []), 17), (17, (0, 11, 0, 0, []), 19), (19, (17, 0, 0, 0, []), 20), (20, (25, 0, 50, 3, []), 23), (23, (3, 0, 1, 0, []), 24), (24, (2, 0, 0, 0, []), 25), (25, (15, 0, 9, 14, []), 28), (28, (1, 0, 3, 0, []), 29), (29, (17, 0, 0, 0, []), 30), (30, (45, 0, 0, 0, []), 31), (31, (2, 0, 0, 0, []), 32), (32, (15, 0, 9, 0, []), 35), (35, (0, 22, 0, 0, []), 37), (37, (1, 0, 3, 0, []), 38), (38, (8, 0, 0, 0, []), 39), (39, (17, 0, 0, 0, []), 40), (40, (45, 0, 0, 0, []), 41), (41, (52, 0, 0, 0, []), 42), (42, (50, 0, 0, 0, []), 43), (43, (6, 0, 1, 0, []), 44), (44, (7, 1, 3, 0, []), 47), (47, (26, 0, 12, 0, []), 50), (50, (3, 0, 1, 0, []), 51), (51, (30, 0, 0, 0, []), 52)]
def mj_c156 : List (Nat × mj_MI × Nat) := [(0, (2, 0, 0, 0, []), 1), (1, (1, 0, 1, 0, []), 2), (2, (32, 0, 113, 0, []), 5), (5, (24, 0, 25, 0, []), 8), (8, (2, 0, 0, 0, []), 9), (9, (1, 0, 1, 0, []), 10), (10, (1, 0, 1, 0, []), 11), (11, (2, 0, 0, 0, []), 12), (12, (15, 0, 9, 0, []), 15), (15, (0, 1, 0, 0, []), 16), (16, (1, 0, 1, 0, []), 17), (17, (8, 0, 0, 0, []), 18), (18, (17, 0, 0, 0, []), 19), (19, (32, 0, 119, 0, []), 22), (22, (26, 0, 26, 0, []), 25), (25, (0, (-1), 0, 0, []), 26), (26, (29, 0, 0, 0, []), 27)]
def mj_c157 : List (Nat × mj_MI × Nat) := [(0, (2, 0, 0, 0, []), 1), (1, (1, 0, 1, 0, []), 2), (2, (32, 0, 113, 0, []), 5), (5, (24, 0, 29, 0, []), 8), (8, (2, 0, 0, 0, []), 9), (9, (1, 0, 2, 0, []), 10), (10, (32, 0, 113, 0, []), 13), (13, (24, 0, 29, 0, []), 16), (16, (2, 0, 0, 0, []), 17), (17, (15, 0, 9, 15, []), 20), (20, (0, 5, 0, 0, []), 21), (21, (1, 0, 1, 0, []), 22), (22, (10, 0, 0, 0, []), 23), (23, (1, 0, 2, 0, []), 24), (24, (8, 0, 0, 0, []), 25), (25, (17, 0, 0, 0, []), 26), (26, (26, 0, 30, 0, []), 29), (29, (0, (-1), 0, 0, []), 30), (30, (29, 0, 0, 0, []), 31)]
def mj_c158 : List (Nat × mj_MI × Nat) := [(0, (0, 0, 0, 0, []), 1), (1, (4, 0, 3, 0, []), 2), (2, (0, 0, 0, 0, []), 3), (3, (4, 0, 4, 0, []), 5), (5, (1, 0, 4, 0, []), 7), (7, (2, 0, 0, 0, []), 8), (8, (15, 0, 9, 0, []), 11), (11, (0, 0, 0, 0, []), 12), (12, (17, 0, 0, 0, []), 13), (13, (25, 0, 99, 3, []), 16), (16, (0, 0, 0, 0, []), 17), (17, (4, 0, 5, 0, []), 19), (19, (1, 0, 5, 0, []), 21), (21, (1, 0, 4, 0, []), 23), (23, (25, 0, 93, 4, []), 26), (26, (2, 0, 0, 0, []), 27), (27, (15, 0, 9, 15, []), 30), (30, (0, 5, 0, 0, []), 31), (31, (1, 0, 5, 0, []), 33), (33, (10, 0, 0, 0, []), 34), (34, (1, 0, 4, 0, []), 36), (36, (8, 0, 0, 0, []), 37), (37, (17, 0, 0, 0, []), 38), (38, (4, 0, 6, 0, []), 40), (40, (1, 0, 6, 0, []), 42), (42, (24, 0, 48, 1, []), 45), (45, (26, 0, 87, 0, []), 48), (48, (1, 0, 3, 0, []), 49), (49, (1, 0, 1, 0, []), 50), (50, (25, 0, 84, 1, []), 53), (53, (1, 0, 2, 0, []), 54), (54, (0, 0, 0, 0, []), 55), (55, (0, 2, 0, 0, []), 56), (56, (32, 0, 112, 1, []), 59), (59, (24, 0, 84, 0, []), 62), (62, (1, 0, 2, 0, []), 63), (63, (24, 0, 71, 1, []), 66), (66, (1, 0, 5, 0, []), 68), (68, (26, 0, 83, 0, []), 71), (71, (1, 0, 2, 0, []), 72), (72, (0, 1, 0, 0, []), 73), (73, (25, 0, 81, 1, []), 76), (76, (1, 0, 4, 0, []), 78), (78, (26, 0, 83, 0, []), 81), (81, (1, 0, 6, 0, []), 83), (83, (29, 0, 0, 0, []), 84), (84, (7, 1, 3, 0, []), 87), (87, (7, 1, 5, 0, []), 90), (90, (26, 0, 19, 0, []), 93), (93, (7, 1, 4, 0, []), 96), (96, (26, 0, 5, 0, []), 99), (99, (1, 0, 1, 0, []), 100), (100, (0, (-1), 0, 0, []), 101), (101, (25, 0, 108, 1, []), 104), (104, (1, 0, 3, 0, []), 105), (105, (26, 0, 109, 0, []), 108), (108, (0, (-1), 0, 0, []), 109), (109, (29, 0, 0, 0, []), 110)]
def mj_c159 : List (Nat × mj_MI × Nat) := [(0, (2, 0, 0, 0, []), 1), (1, (15, 0, 9, 0, []), 4), (4, (0, 32, 0, 0, []), 6), (6, (1, 0, 1, 0, []), 7), (7, (8, 0, 0, 0, []), 8), (8, (17, 0, 0, 0, []), 9), (9, (2, 0, 0, 0, []), 10), (10, (15, 0, 9, 14, []), 13), (13, (1, 0, 1, 0, []), 14), (14, (17, 0, 0, 0, []), 15), (15, (9, 0, 0, 0, []), 16), (16, (4, 0, 3, 0, []), 17), (17, (2, 0, 0, 0, []), 18), (18, (15, 0, 9, 0, []), 21), (21, (0, 32, 0, 0, []), 23), (23, (1, 0, 2, 0, []), 24), (24, (8, 0, 0, 0, []), 25), (25, (17, 0, 0, 0, []), 26), (26, (2, 0, 0, 0, []), 27), (27, (15, 0, 9, 14, []), 30), (30, (1, 0, 2, 0, []), 31), (31, (17, 0, 0, 0, []), 32), (32, (9, 0, 0, 0, []), 33), (33, (4, 0, 4, 0, []), 35), (35, (1, 0, 3, 0, []), 36), (36, (1, 0, 4, 0, []), 38), (38, (25, 0, 53, 0, []), 41), (41, (1, 0, 3, 0, []), 42), (42, (1, 0, 4, 0, []), 44), (44, (25, 0, 51, 5, []), 47), (47, (0, 1, 0, 0, []), 48), (48, (26, 0, 52, 0, []), 51), (51, (0, 0, 0, 0, []), 52), (52, (29, 0, 0, 1, []), 53), (53, (2, 0, 0, 0, []), 54), (54, (15, 0, 9, 0, []), 57), (57, (0, 22, 0, 0, []), 59), (59, (1, 0, 1, 0, []), 60), (60, (8, 0, 0, 0, []), 61), (61, (17, 0, 0, 0, []), 62), (62, (2, 0, 0, 0, []), 63), (63, (15, 0, 9, 0, []), 66), (66, (0, 22, 0, 0, []), 68), (68, (1, 0, 2, 0, []), 69), (69, (8, 0, 0, 0, []), 70), (70, (17, 0, 0, 0, []), 71), (71, (25, 0, 103, 0, []), 74), (74, (2, 0, 0, 0, []), 75), (75, (15, 0, 9, 0, []), 78), (78, (0, 22, 0, 0, []), 80), (80, (1, 0, 1, 0, []), 81), (81, (8, 0, 0, 0, []), 82), (82, (17, 0, 0, 0, []), 83), (83, (2, 0, 0, 0, []), 84), (84, (15, 0, 9, 0, []), 87), (87, (0, 22, 0, 0, []), 89), (89, (1, 0, 2, 0, []), 90), (90, (8, 0, 0, 0, []), 91), (91, (17, 0, 0, 0, []), 92), (92, (25, 0, 99, 3, []), 95), (95, (0, 1, 0, 0, []), 96), (96, (26, 0, 113, 0, []), 99), (99, (0, 0, 0, 0, []), 100), (100, (26, 0, 113, 0, []), 103), (103, (1, 0, 1, 0, []), 104), (104, (1, 0, 2, 0, []), 105), (105, (25, 0, 112, 5, []), 108), (108, (0, 1, 0, 0, []), 109), (109, (26, 0, 113, 0, []), 112), (112, (0, 0, 0, 0, []), 113), (113, (29, 0, 0, 1, []), 114)]
def mj_c160 : List (Nat × mj_MI × Nat) := [(0, (0, 0, 0, 0, []), 1), (1, (4, 0, 2, 0, []), 2), (2, (1, 0, 2, 0, []), 3), (3, (2, 0, 0, 0, []), 4), (4, (15, 0, 9, 0, []), 7), (7, (0, 11, 0, 0, []), 9), (9, (17, 0, 0, 0, []), 10), (10, (25, 0, 73, 3, []), 13), (13, (0, 0, 0, 0, []), 14), (14, (4, 0, 3, 0, []), 15), (15, (0, 0, 0, 0, []), 16), (16, (4, 0, 4, 0, []), 18), (18, (1, 0, 4, 0, []), 20), (20, (2, 0, 0, 0, []), 21), (21, (15, 0, 9, 0, []), 24), (24, (0, 11, 0, 0, []), 26), (26, (17, 0, 0, 0, []), 27), (27, (25, 0, 60, 3, []), 30), (30, (1, 0, 3, 0, []), 31), (31, (1, 0, 4, 0, []), 33), (33, (1, 0, 2, 0, []), 34), (34, (25, 0, 51, 0, []), 37), (37, (2, 0, 0, 0, []), 38), (38, (1, 0, 4, 0, []), 40), (40, (1, 0, 2, 0, []), 41), (41, (32, 0, 159, 0, []), 44), (44, (24, 0, 51, 0, []), 47), (47, (0, 1, 0, 0, []), 48), (48, (26, 0, 52, 0, []), 51), (51, (0, 0, 0, 0, []), 52), (52, (8, 0, 0, 0, []), 53), (53, (4, 0, 3, 0, []), 54), (54, (7, 1, 4, 0, []), 57), (57, (26, 0, 18, 0, []), 60), (60, (1, 0, 3, 0, []), 61), (61, (1, 0, 1, 0, []), 62), (62, (25, 0, 67, 1, []), 65), (65, (1, 0, 2, 0, []), 66), (66, (29, 0, 0, 0, []), 67), (67, (7, 1, 2, 0, []), 70), (70, (26, 0, 2, 0, []), 73), (73, (0, (-1), 0, 0, []), 74), (74, (29, 0, 0, 0, []), 75)]
def mj_c161 : List (Nat × mj_MI × Nat) := [(0, (2, 0, 0, 0, []), 1), (1, (1, 0, 1, 0, []), 2), (2, (32, 0, 113, 0, []), 5), (5, (24, 0, 12, 0, []), 8), (8, (1, 0, 2, 0, []), 9), (9, (24, 0, 16, 3, []), 12), (12, (0, (-1), 0, 0, []), 13), (13, (26, 0, 22, 0, []), 16), (16, (2, 0, 0, 0, []), 17), (17, (1, 0, 1, 0, []), 18), (18, (1, 0, 2, 0, []), 19), (19, (32, 0, 131, 0, []), 22), (22, (29, 0, 0, 0, []), 23)]
def mj_c162 : List (Nat × mj_MI × Nat) := [(0, (2, 0, 0, 0, []), 1), (1, (15, 0, 9, 0, []), 4), (4, (2, 0, 0, 0, []), 5), (5, (15, 0, 9, 2, []), 8), (8, (32, 0, 115, 1, []), 11), (11, (28, 0, 0, 0, []), 12)]
def mj_c163 : List (Nat × mj_MI × Nat) := [(0, (2, 0, 0, 0, []), 1), (1, (15, 0, 9, 2, []), 4), (4, (2, 0, 0, 0, []), 5), (5, (15, 0, 9, 0, []), 8), (8, (32, 0, 115, 1, []), 11), (11, (2, 0, 0, 0, []), 12), (12, (32, 0, 133, 0, []), 15), (15, (28, 0, 0, 0, []), 16)]
def mj_c164 : List (Nat × mj_MI × Nat) := [(0, (2, 0, 0, 0, []), 1), (1, (1, 0, 1, 0, []), 2), (2, (32, 0, 113, 0, []), 5), (5, (24, 0, 21, 0, []), 8), (8, (2, 0, 0, 0, []), 9), (9, (15, 0, 9, 0, []), 12), (12, (0, 1, 0, 0, []), 13), (13, (1, 0, 1, 0, []), 14), (14, (8, 0, 0, 0, []), 15), (15, (17, 0, 0, 0, []), 16), (16, (0, 20, 0, 0, []), 18), (18, (25, 0, 25, 1, []), 21), (21, (49, (-9223372036854775808), 0, 0, []), 24), (24, (30, 0, 0, 0, []), 25), (25, (2, 0, 0, 0, []), 26), (26, (32, 0, 155, 0, []), 29), (29, (6, 0, 2, 0, []), 30), (30, (2, 0, 0, 0, []), 31), (31, (32, 0, 162, 0, []), 34), (34, (2, 0, 0, 0, []), 35), (35, (0, 1, 0, 0, []), 36), (36, (1, 0, 1, 0, []), 37), (37, (8, 0, 0, 0, []), 38), (38, (2, 0, 0, 0, []), 39), (39, (15, 0, 9, 0, []), 42), (42, (0, 1, 0, 0, []), 43), (43, (1, 0, 1, 0, []), 44), (44, (8, 0, 0, 0, []), 45), (45, (17, 0, 0, 0, []), 46), (46, (0, 1, 0, 0, []), 47), (47, (8, 0, 0, 0, []), 48), (48, (32, 0, 136, 0, []), 51), (51, (44, 0, 0, 0, []), 52), (52, (2, 0, 0, 0, []), 53), (53, (32, 0, 155, 0, []), 56), (56, (3, 0, 2, 0, []), 57), (57, (51, 0, 0, 0, []), 58), (58, (6, 0, 4, 0, []), 60), (60, (2, 0, 0, 0, []), 61), (61, (32, 0, 163, 0, []), 64), (64, (3, 0, 4, 0, []), 66), (66, (30, 0, 0, 0, []), 67)]
def mj_c165 : List (Nat × mj_MI × Nat) := [(0, (2, 0, 0, 0, []), 1), (1, (1, 0, 1, 0, []), 2), (2, (32, 0, 113, 0, []), 5), (5, (24, 0, 27, 0, []), 8), (8, (2, 0, 0, 0, []), 9), (9, (1, 0, 2, 0, []), 10), (10, (32, 0, 113, 0, []), 13), (13, (24, 0, 27, 0, []), 16), (16, (1, 0, 3, 0, []), 17), (17, (0, (-9), 0, 0, []), 19), (19, (0, 9, 0, 0, []), 21), (21, (32, 0, 112, 1, []), 24), (24, (24, 0, 31, 1, []), 27), (27, (49, (-9223372036854775808), 0, 0, []), 30), (30, (30, 0, 0, 0, []), 31), (31, (2, 0, 0, 0, []), 32), (32, (1, 0, 1, 0, []), 33), (33, (0, 4, 0, 0, []), 34), (34, (32, 0, 148, 0, []), 37), (37, (4, 0, 4, 0, []), 39), (39, (2, 0, 0, 0, []), 40), (40, (32, 0, 162, 0, []), 43), (43, (2, 0, 0, 0, []), 44), (44, (0, 6, 0, 0, []), 46), (46, (1, 0, 2, 0, []), 47), (47, (8, 0, 0, 0, []), 48), (48, (0, 0, 0, 0, []), 49), (49, (2, 0, 0, 0, []), 50), (50, (15, 0, 9, 0, []), 53), (53, (0, 6, 0, 0, []), 55), (55, (1, 0, 2, 0, []), 56), (56, (8, 0, 0, 0, []), 57), (57, (17, 0, 0, 0, []), 58), (58, (1, 0, 3, 0, []), 59), (59, (8, 0, 0, 0, []), 60), (60, (33, 0, 0, 0, []), 63), (63, (32, 0, 136, 0, []), 66), (66, (44, 0, 0, 0, []), 67), (67, (2, 0, 0, 0, []), 68), (68, (1, 0, 1, 0, []), 69), (69, (0, 4, 0, 0, []), 70), (70, (32, 0, 148, 0, []), 73), (73, (1, 0, 4, 0, []), 75), (75, (9, 0, 0, 0, []), 76), (76, (4, 0, 5, 0, []), 78), (78, (2, 0, 0, 0, []), 79), (79, (32, 0, 163, 0, []), 82), (82, (1, 0, 5, 0, []), 84), (84, (45, 0, 0, 0, []), 85), (85, (30, 0, 0, 0, []), 86)]
def mj_c166 : List (Nat × mj_MI × Nat) := [(0, (1, 0, 3, 0, []), 1), (1, (0, (-1), 0, 0, []), 2), (2, (25, 0, 14, 1, []), 5), (5, (2, 0, 0, 0, []), 6), (6, (15, 0, 9, 0, []), 9), (9, (1, 0, 1, 0, []), 10), (10, (0, 0, 0, 0, []), 11), (11, (18, 0, 0, 0, []), 12), (12, (0, 0, 0, 0, []), 13), (13, (29, 0, 0, 0, []), 14), (14, (2, 0, 0, 0, []), 15), (15, (1, 0, 3, 0, []), 16), (16, (32, 0, 113, 0, []), 19), (19, (24, 0, 24, 1, []), 22), (22, (0, (-1), 0, 0, []), 23), (23, (29, 0, 0, 0, []), 24), (24, (1, 0, 4, 0, []), 26), (26, (0, 0, 0, 0, []), 27), (27, (0, 20, 0, 0, []), 29), (29, (32, 0, 112, 1, []), 32), (32, (24, 0, 38, 1, []), 35), (35, (0, (-2), 0, 0, []), 37), (37, (29, 0, 0, 0, []), 38), (38, (2, 0, 0, 0, []), 39), (39, (15, 0, 9, 0, []), 42), (42, (1, 0, 1, 0, []), 43), (43, (17, 0, 0, 0, []), 44), (44, (1, 0, 2, 0, []), 45), (45, (25, 0, 51, 1, []), 48), (48, (0, (-4), 0, 0, []), 50), (50, (29, 0, 0, 0, []), 51), (51, (2, 0, 0, 0, []), 52), (52, (15, 0, 9, 0, []), 55), (55, (1, 0, 1, 0, []), 56), (56, (0, 1, 0, 0, []), 57), (57, (8, 0, 0, 0, []), 58), (58, (0, 2, 0, 0, []), 59), (59, (2, 0, 0, 0, []), 60), (60, (15, 0, 9, 0, []), 63), (63, (1, 0, 1, 0, []), 64), (64, (17, 0, 0, 0, []), 65), (65, (10, 0, 0, 0, []), 66), (66, (8, 0, 0, 0, []), 67), (67, (1, 0, 3, 0, []), 68), (68, (18, 0, 0, 0, []), 69), (69, (2, 0, 0, 0, []), 70), (70, (15, 0, 9, 0, []), 73), (73, (1, 0, 1, 0, []), 74), (74, (0, 2, 0, 0, []), 75), (75, (8, 0, 0, 0, []), 76), (76, (0, 2, 0, 0, []), 77), (77, (2, 0, 0, 0, []), 78), (78, (15, 0, 9, 0, []), 81), (81, (1, 0, 1, 0, []), 82), (82, (17, 0, 0, 0, []), 83), (83, (10, 0, 0, 0, []), 84), (84, (8, 0, 0, 0, []), 85), (85, (1, 0, 4, 0, []), 87), (87, (18, 0, 0, 0, []), 88), (88, (2, 0, 0, 0, []), 89), (89, (15, 0, 9, 0, []), 92), (92, (1, 0, 1, 0, []), 93), (93, (42, 0, 0, 0, []), 94), (94, (17, 0, 0, 0, []), 95), (95, (0, 1, 0, 0, []), 96), (96, (8, 0, 0, 0, []), 97), (97, (18, 0, 0, 0, []), 98), (98, (2, 0, 0, 0, []), 99), (99, (15, 0, 9, 0, []), 102), (102, (1, 0, 1, 0, []), 103), (103, (17, 0, 0, 0, []), 104), (104, (29, 0, 0, 0, []), 105)]
def mj_c167 : List (Nat × mj_MI × Nat) := [(0, (0, 0, 0, 0, []), 1), (1, (4, 0, 2, 0, []), 2), (2, (1, 0, 2, 0, []), 3), (3, (2, 0, 0, 0, []), 4), (4, (15, 0, 9, 0, []), 7), (7, (1, 0, 1, 0, []), 8), (8, (17, 0, 0, 0, []), 9), (9, (25, 0, 52, 3, []), 12), (12, (2, 0, 0, 0, []), 13), (13, (2, 0, 0, 0, []), 14), (14, (15, 0, 9, 0, []), 17), (17, (1, 0, 1, 0, []), 18), (18, (0, 1, 0, 0, []), 19), (19, (8, 0, 0, 0, []), 20), (20, (0, 2, 0, 0, []), 21), (21, (1, 0, 2, 0, []), 22), (22, (10, 0, 0, 0, []), 23), (23, (8, 0, 0, 0, []), 24), (24, (17, 0, 0, 0, []), 25), (25, (0, 4, 0, 0, []), 26), (26, (32, 0, 148, 0, []), 29), (29, (2, 0, 0, 0, []), 30), (30, (15, 0, 9, 0, []), 33), (33, (1, 0, 1, 0, []), 34), (34, (0, 2, 0, 0, []), 35), (35, (8, 0, 0, 0, []), 36), (36, (0, 2, 0, 0, []), 37), (37, (1, 0, 2, 0, []), 38), (38, (10, 0, 0, 0, []), 39), (39, (8, 0, 0, 0, []), 40), (40, (17, 0, 0, 0, []), 41), (41, (25, 0, 46, 0, []), 44), (44, (1, 0, 2, 0, []), 45), (45, (29, 0, 0, 0, []), 46), (46, (7, 1, 2, 0, []), 49), (49, (26, 0, 2, 0, []), 52), (52, (0, (-5), 0, 0, []), 54), (54, (29, 0, 0, 0, []), 55)]
def mj_c168 : List (Nat × mj_MI × Nat) := [(0, (2, 0, 0, 0, []), 1), (1, (0, 46, 0, 0, []), 3), (3, (0, 5, 0, 0, []), 4), (4, (1, 0, 1, 0, []), 5), (5, (1, 0, 2, 0, []), 6), (6, (32, 0, 166, 0, []), 9), (9, (29, 0, 0, 0, []), 10)]
def mj_c169 : List (Nat × mj_MI × Nat) := [(0, (2, 0, 0, 0, []), 1), (1, (1, 0, 1, 0, []), 2), (2, (32, 0, 113, 0, []), 5), (5, (24, 0, 17, 0, []), 8), (8, (1, 0, 2, 0, []), 9), (9, (0, 0, 0, 0, []), 10), (10, (0, 1, 0, 0, []), 11), (11, (32, 0, 112, 1, []), 14), (14, (24, 0, 19, 1, []), 17), (17, (0, (-1), 0, 0, []), 18), (18, (29, 0, 0, 0, []), 19), (19, (2, 0, 0, 0, []), 20), (20, (32, 0, 162, 0, []), 23), (23, (0, 0, 0, 0, []), 24), (24, (4, 0, 3, 0, []), 25), (25, (0, (-5), 0, 0, []), 27), (27, (4, 0, 4, 0, []), 29), (29, (0, 20, 0, 0, []), 31), (31, (4, 0, 5, 0, []), 33), (33, (1, 0, 5, 0, []), 35), (35, (24, 0, 74, 2, []), 38), (38, (2, 0, 0, 0, []), 39), (39, (0, 6, 0, 0, []), 41), (41, (1, 0, 1, 0, []), 42), (42, (8, 0, 0, 0, []), 43), (43, (1, 0, 5, 0, []), 45), (45, (32, 0, 136, 0, []), 48), (48, (44, 0, 0, 0, []), 49), (49, (2, 0, 0, 0, []), 50), (50, (0, 46, 0, 0, []), 52), (52, (32, 0, 167, 0, []), 55), (55, (24, 0, 61, 2, []), 58), (58, (26, 0, 68, 0, []), 61), (61, (7, 1, 3, 0, []), 64), (64, (1, 0, 5, 0, []), 66), (66, (4, 0, 4, 0, []), 68), (68, (7, (-2), 5, 0, []), 71), (71, (26, 0, 33, 0, []), 74), (74, (2, 0, 0, 0, []), 75), (75, (32, 0, 163, 0, []), 78), (78, (1, 0, 2, 0, []), 79), (79, (24, 0, 86, 1, []), 82), (82, (1, 0, 3, 0, []), 83), (83, (26, 0, 88, 0, []), 86), (86, (1, 0, 4, 0, []), 88), (88, (29, 0, 0, 0, []), 89)]
def mj_c170 : List (Nat × mj_MI × Nat) := [(0, (3, 0, 2, 0, []), 1), (1, (49, 0, 0, 0, []), 2), (2, (58, 0, 0, 0, []), 3), (3, (24, 0, 10, 1, []), 6), (6, (3, 0, 0, 0, []), 7), (7, (26, 0, 17, 0, []), 10), (10, (3, 0, 2, 0, []), 11), (11, (3, 0, 0, 0, []), 12), (12, (3, 0, 2, 0, []), 13), (13, (54, 0, 0, 0, []), 14), (14, (32, 0, 170, 1, []), 17), (17, (30, 0, 0, 0, []), 18)]
def mj_c171 : List (Nat × mj_MI × Nat) := [(0, (1, 0, 4, 0, []), 2), (2, (24, 0, 9, 1, []), 5), (5, (3, 0, 0, 0, []), 6), (6, (26, 0, 10, 0, []), 9), (9, (3, 0, 2, 0, []), 10), (10, (3, 0, 0, 0, []), 11), (11, (3, 0, 2, 0, []), 12), (12, (32, 0, 170, 1, []), 15), (15, (53, 0, 0, 0, []), 16), (16, (30, 0, 0, 0, []), 17)]
def mj_c172 : List (Nat × mj_MI × Nat) := [(0, (2, 0, 0, 0, []), 1), (1, (1, 0, 1, 0, []), 2), (2, (32, 0, 113, 0, []), 5), (5, (24, 0, 17, 0, []), 8), (8, (1, 0, 2, 0, []), 9), (9, (0, 0, 0, 0, []), 10), (10, (0, 1, 0, 0, []), 11), (11, (32, 0, 112, 1, []), 14), (14, (24, 0, 21, 1, []), 17), (17, (49, (-9223372036854775808), 0, 0, []), 20), (20, (30, 0, 0, 0, []), 21), (21, (2, 0, 0, 0, []), 22), (22, (32, 0, 162, 0, []), 25), (25, (0, 0, 0, 0, []), 26), (26, (4, 0, 3, 0, []), 27), (27, (0, 0, 0, 0, []), 28), (28, (4, 0, 4, 0, []), 30), (30, (1, 0, 4, 0, []), 32), (32, (0, 9, 0, 0, []), 34), (34, (25, 0, 77, 4, []), 37), (37, (2, 0, 0, 0, []), 38), (38, (0, 1, 0, 0, []), 39), (39, (1, 0, 1, 0, []), 40), (40, (8, 0, 0, 0, []), 41), (41, (1, 0, 4, 0, []), 43), (43, (32, 0, 136, 0, []), 46), (46, (44, 0, 0, 0, []), 47), (47, (1, 0, 3, 0, []), 48), (48, (2, 0, 0, 0, []), 49), (49, (1, 0, 1, 0, []), 50), (50, (0, 4, 0, 0, []), 51), (51, (32, 0, 148, 0, []), 54), (54, (2, 0, 0, 0, []), 55), (55, (15, 0, 9, 0, []), 58), (58, (0, 43, 0, 0, []), 60), (60, (17, 0, 0, 0, []), 61), (61, (25, 0, 68, 5, []), 64), (64, (0, 1, 0, 0, []), 65), (65, (26, 0, 69, 0, []), 68), (68, (0, 0, 0, 0, []), 69), (69, (8, 0, 0, 0, []), 70), (70, (4, 0, 3, 0, []), 71), (71, (7, 1, 4, 0, []), 74), (74, (26, 0, 30, 0, []), 77), (77, (2, 0, 0, 0, []), 78), (78, (32, 0, 163, 0, []), 81), (81, (1, 0, 3, 0, []), 82), (82, (45, 0, 0, 0, []), 83), (83, (49, 10, 0, 0, []), 86), (86, (1, 0, 2, 0, []), 87), (87, (32, 0, 171, 1, []), 90), (90, (30, 0, 0, 0, []), 91)]
def mj_c173 : List (Nat × mj_MI × Nat) := [(0, (2, 0, 0, 0, []), 1), (1, (15, 0, 9, 0, []), 4), (4, (0, 0, 0, 0, []), 5), (5, (17, 0, 0, 0, []), 6), (6, (24, 0, 18, 0, []), 9), (9, (1, 0, 1, 0, []), 10), (10, (0, 0, 0, 0, []), 11), (11, (0, 1, 0, 0, []), 12), (12, (32, 0, 112, 1, []), 15), (15, (24, 0, 22, 1, []), 18), (18, (49, (-9223372036854775808), 0, 0, []), 21), (21, (30, 0, 0, 0, []), 22), (22, (0, 0, 0, 0, []), 23), (23, (4, 0, 2, 0, []), 24), (24, (0, 0, 0, 0, []), 25), (25, (4, 0, 3, 0, []), 26), (26, (1, 0, 3, 0, []), 27), (27, (2, 0, 0, 0, []), 28), (28, (15, 0, 9, 0, []), 31), (31, (0, 0, 0, 0, []), 32), (32, (17, 0, 0, 0, []), 33), (33, (25, 0, 51, 3, []), 36), (36, (1, 0, 2, 0, []), 37), (37, (2, 0, 0, 0, []), 38), (38, (1, 0, 3, 0, []), 39), (39, (0, 4, 0, 0, []), 40), (40, (32, 0, 148, 0, []), 43), (43, (8, 0, 0, 0, []), 44), (44, (4, 0, 2, 0, []), 45), (45, (7, 1, 3, 0, []), 48), (48, (26, 0, 26, 0, []), 51), (51, (1, 0, 2, 0, []), 52), (52, (45, 0, 0, 0, []), 53), (53, (2, 0, 0, 0, []), 54), (54, (15, 0, 9, 0, []), 57), (57, (0, 0, 0, 0, []), 58), (58, (17, 0, 0, 0, []), 59), (59, (45, 0, 0, 0, []), 60), (60, (1, 0, 1, 0, []), 61), (61, (32, 0, 171, 1, []), 64), (64, (30, 0, 0, 0, []), 65)]
def mj_c174 : List (Nat × mj_MI × Nat) := [(0, (1, 0, 1, 0, []), 1), (1, (0, (-1), 0, 0, []), 2), (2, (25, 0, 15, 1, []), 5), (5, (2, 0, 0, 0, []), 6), (6, (15, 0, 9, 0, []), 9), (9, (0, 57, 0, 0, []), 11), (11, (0, 0, 0, 0, []), 12), (12, (18, 0, 0, 0, []), 13), (13, (0, 0, 0, 0, []), 14), (14, (29, 0, 0, 0, []), 15), (15, (1, 0, 1, 0, []), 16), (16, (0, 0, 0, 0, []), 17), (17, (0, 3, 0, 0, []), 18), (18, (32, 0, 112, 1, []), 21), (21, (24, 0, 37, 0, []), 24), (24, (1, 0, 1, 0, []), 25), (25, (0, 2, 0, 0, []), 26), (26, (25, 0, 39, 3, []), 29), (29, (2, 0, 0, 0, []), 30), (30, (1, 0, 2, 0, []), 31), (31, (32, 0, 113, 0, []), 34), (34, (24, 0, 39, 1, []), 37), (37, (0, (-1), 0, 0, []), 38), (38, (29, 0, 0, 0, []), 39), (39, (1, 0, 1, 0, []), 40), (40, (0, 1, 0, 0, []), 41), (41, (25, 0, 66, 5, []), 44), (44, (1, 0, 2, 0, []), 45), (45, (0, 0, 0, 0, []), 46), (46, (1, 0, 1, 0, []), 47), (47, (0, 2, 0, 0, []), 48), (48, (25, 0, 55, 1, []), 51), (51, (0, 5, 0, 0, []), 52), (52, (26, 0, 57, 0, []), 55), (55, (0, 20, 0, 0, []), 57), (57, (32, 0, 112, 1, []), 60), (60, (24, 0, 66, 1, []), 63), (63, (0, (-2), 0, 0, []), 65), (65, (29, 0, 0, 0, []), 66), (66, (2, 0, 0, 0, []), 67), (67, (15, 0, 9, 0, []), 70), (70, (0, 57, 0, 0, []), 72), (72, (17, 0, 0, 0, []), 73), (73, (0, 8, 0, 0, []), 75), (75, (25, 0, 81, 1, []), 78), (78, (0, (-4), 0, 0, []), 80), (80, (29, 0, 0, 0, []), 81), (81, (2, 0, 0, 0, []), 82), (82, (15, 0, 9, 0, []), 85), (85, (0, 58, 0, 0, []), 87), (87, (0, 2, 0, 0, []), 88), (88, (2, 0, 0, 0, []), 89), (89, (15, 0, 9, 0, []), 92), (92, (0, 57, 0, 0, []), 94), (94, (17, 0, 0, 0, []), 95), (95, (10, 0, 0, 0, []), 96), (96, (8, 0, 0, 0, []), 97), (97, (1, 0, 1, 0, []), 98), (98, (18, 0, 0, 0, []), 99), (99, (2, 0, 0, 0, []), 100), (100, (15, 0, 9, 0, []), 103), (103, (0, 58, 0, 0, []), 105), (105, (0, 2, 0, 0, []), 106), (106, (2, 0, 0, 0, []), 107), (107, (15, 0, 9, 0, []), 110), (110, (0, 57, 0, 0, []), 112), (112, (17, 0, 0, 0, []), 113), (113, (10, 0, 0, 0, []), 114), (114, (8, 0, 0, 0, []), 115), (115, (0, 1, 0, 0, []), 116), (116, (8, 0, 0, 0, []), 117), (117, (1, 0, 2, 0, []), 118), (118, (18, 0, 0, 0, []), 119), (119, (2, 0, 0, 0, []), 120), (120, (15, 0, 9, 0, []), 123), (123, (0, 57, 0, 0, []), 125), (125, (42, 0, 0, 0, []), 126), (126, (17, 0, 0, 0, []), 127), (127, (0, 1, 0, 0, []), 128), (128, (8, 0, 0, 0, []), 129), (129, (18, 0, 0, 0, []), 130), (130, (2, 0, 0, 0, []), 131), (131, (15, 0, 9, 0, []), 134), (134, (0, 57, 0, 0, []), 136), (136, (17, 0, 0, 0, []), 137), (137, (29, 0, 0, 0, []), 138)]
def mj_c175 : List (Nat × mj_MI × Nat) := [(0, (1, 0, 1, 0, []), 1), (1, (0, 0, 0, 0, []), 2), (2, (0, 2, 0, 0, []), 3), (3, (32, 0, 112, 1, []), 6), (6, (24, 0, 13, 1, []), 9), (9, (49, (-9223372036854775808), 0, 0, []), 12), (12, (30, 0, 0, 0, []), 13), (13, (2, 0, 0, 0, []), 14), (14, (32, 0, 162, 0, []), 17), (17, (0, 0, 0, 0, []), 18), (18, (4, 0, 2, 0, []), 19), (19, (1, 0, 2, 0, []), 20), (20, (2, 0, 0, 0, []), 21), (21, (15, 0, 9, 0, []), 24), (24, (0, 57, 0, 0, []), 26), (26, (17, 0, 0, 0, []), 27), (27, (25, 0, 145, 3, []), 30), (30, (2, 0, 0, 0, []), 31), (31, (15, 0, 9, 0, []), 34), (34, (0, 58, 0, 0, []), 36), (36, (0, 2, 0, 0, []), 37), (37, (1, 0, 2, 0, []), 38), (38, (10, 0, 0, 0, []), 39), (39, (8, 0, 0, 0, []), 40), (40, (0, 1, 0, 0, []), 41), (41, (8, 0, 0, 0, []), 42), (42, (17, 0, 0, 0, []), 43), (43, (4, 0, 3, 0, []), 44), (44, (2, 0, 0, 0, []), 45), (45, (15, 0, 9, 0, []), 48), (48, (0, 58, 0, 0, []), 50), (50, (0, 2, 0, 0, []), 51), (51, (1, 0, 2, 0, []), 52), (52, (10, 0, 0, 0, []), 53), (53, (8, 0, 0, 0, []), 54), (54, (17, 0, 0, 0, []), 55), (55, (27, 0, 131, 0, [(0, 80), (1, 92), (2, 120)]), 80), (80, (2, 0, 0, 0, []), 81), (81, (15, 0, 9, 0, []), 84), (84, (0, 1, 0, 0, []), 85), (85, (1, 0, 3, 0, []), 86), (86, (8, 0, 0, 0, []), 87), (87, (0, 0, 0, 0, []), 88), (88, (18, 0, 0, 0, []), 89), (89, (26, 0, 139, 0, []), 92), (92, (2, 0, 0, 0, []), 93), (93, (15, 0, 9, 0, []), 96), (96, (0, 6, 0, 0, []), 98), (98, (1, 0, 3, 0, []), 99), (99, (8, 0, 0, 0, []), 100), (100, (0, 40, 0, 0, []), 102), (102, (2, 0, 0, 0, []), 103), (103, (15, 0, 9, 0, []), 106), (106, (0, 6, 0, 0, []), 108), (108, (1, 0, 3, 0, []), 109), (109, (8, 0, 0, 0, []), 110), (110, (17, 0, 0, 0, []), 111), (111, (0, 5, 0, 0, []), 112), (112, (8, 0, 0, 0, []), 113), (113, (34, 0, 0, 0, []), 116), (116, (18, 0, 0, 0, []), 117), (117, (26, 0, 139, 0, []), 120), (120, (2, 0, 0, 0, []), 121), (121, (15, 0, 9, 0, []), 124), (124, (0, 45, 0, 0, []), 126), (126, (1, 0, 3, 0, []), 127), (127, (18, 0, 0, 0, []), 128), (128, (26, 0, 139, 0, []), 131), (131, (2, 0, 0, 0, []), 132), (132, (15, 0, 9, 0, []), 135), (135, (0, 42, 0, 0, []), 137), (137, (1, 0, 3, 0, []), 138), (138, (18, 0, 0, 0, []), 139), (139, (7, 1, 2, 0, []), 142), (142, (26, 0, 19, 0, []), 145), (145, (2, 0, 0, 0, []), 146), (146, (32, 0, 133, 0, []), 149), (149, (1, 0, 1, 0, []), 150), (150, (24, 0, 160, 1, []), 153), (153, (2, 0, 0, 0, []), 154), (154, (32, 0, 155, 0, []), 157), (157, (26, 0, 178, 0, []), 160), (160, (1, 0, 1, 0, []), 161), (161, (0, 1, 0, 0, []), 162), (162, (25, 0, 173, 1, []), 165), (165, (2, 0, 0, 0, []), 166), (166, (15, 0, 9, 17, []), 169), (169, (45, 0, 0, 0, []), 170), (170, (26, 0, 178, 0, []), 173), (173, (2, 0, 0, 0, []), 174), (174, (15, 0, 9, 18, []), 177), (177, (45, 0, 0, 0, []), 178), (178, (6, 0, 2, 0, []), 179), (179, (2, 0, 0, 0, []), 180), (180, (32, 0, 163, 0, []), 183), (183, (3, 0, 2, 0, []), 184), (184, (30, 0, 0, 0, []), 185)]
def mj_c176 : List (Nat × mj_MI × Nat) := [(0, (2, 0, 0, 0, []), 1), (1, (0, 74, 0, 0, []), 3), (3, (0, 8, 0, 0, []), 5), (5, (1, 0, 1, 0, []), 6), (6, (1, 0, 2, 0, []), 7), (7, (32, 0, 166, 0, []), 10), (10, (29, 0, 0, 0, []), 11)]
def mj_c177 : List (Nat × mj_MI × Nat) := [(0, (2, 0, 0, 0, []), 1), (1, (0, 74, 0, 0, []), 3), (3, (32, 0, 167, 0, []), 6), (6, (29, 0, 0, 0, []), 7)]
def mj_c178 : List (Nat × mj_MI × Nat) := [(0, (1, 0, 0, 0, []), 1), (1, (0, 0, 0, 0, []), 2), (2, (0, 5, 0, 0, []), 3), (3, (32, 0, 112, 1, []), 6), (6, (29, 0, 0, 1, []), 7)]
def mj_c179 : List (Nat × mj_MI × Nat) := [(0, (1, 0, 1, 0, []), 1), (1, (32, 0, 178, 1, []), 4), (4, (24, 0, 9, 1, []), 7), (7, (0, (-1), 0, 0, []), 8), (8, (29, 0, 0, 0, []), 9), (9, (2, 0, 0, 0, []), 10), (10, (15, 0, 9, 26, []), 13), (13, (1, 0, 1, 0, []), 14), (14, (17, 0, 0, 0, []), 15), (15, (24, 0, 31, 2, []), 18), (18, (2, 0, 0, 0, []), 19), (19, (15, 0, 9, 26, []), 22), (22, (1, 0, 1, 0, []), 23), (23, (17, 0, 0, 0, []), 24), (24, (0, 3, 0, 0, []), 25), (25, (25, 0, 31, 0, []), 28), (28, (0, (-12), 0, 0, []), 30), (30, (29, 0, 0, 0, []), 31), (31, (0, 0, 0, 0, []), 32), (32, (4, 0, 3, 0, []), 33), (33, (1, 0, 3, 0, []), 34), (34, (2, 0, 0, 0, []), 35), (35, (15, 0, 9, 0, []), 38), (38, (0, 0, 0, 0, []), 39), (39, (17, 0, 0, 0, []), 40), (40, (25, 0, 107, 3, []), 43), (43, (2, 0, 0, 0, []), 44), (44, (15, 0, 9, 26, []), 47), (47, (1, 0, 1, 0, []), 48), (48, (17, 0, 0, 0, []), 49), (49, (24, 0, 70, 2, []), 52), (52, (1, 0, 2, 0, []), 53), (53, (24, 0, 70, 2, []), 56), (56, (1, 0, 2, 0, []), 57), (57, (2, 0, 0, 0, []), 58), (58, (15, 0, 9, 27, []), 61), (61, (1, 0, 1, 0, []), 62), (62, (17, 0, 0, 0, []), 63), (63, (0, 1, 0, 0, []), 64), (64, (9, 0, 0, 0, []), 65), (65, (1, 0, 3, 0, []), 66), (66, (9, 0, 0, 0, []), 67), (67, (25, 0, 75, 5, []), 70), (70, (0, 100, 0, 0, []), 72), (72, (1, 0, 3, 0, []), 73), (73, (8, 0, 0, 0, []), 74), (74, (29, 0, 0, 0, []), 75), (75, (2, 0, 0, 0, []), 76), (76, (15, 0, 9, 28, []), 79), (79, (0, 60, 0, 0, []), 81), (81, (1, 0, 1, 0, []), 82), (82, (10, 0, 0, 0, []), 83), (83, (1, 0, 2, 0, []), 84), (84, (8, 0, 0, 0, []), 85), (85, (1, 0, 3, 0, []), 86), (86, (8, 0, 0, 0, []), 87), (87, (19, 0, 0, 0, []), 88), (88, (2, 0, 0, 0, []), 89), (89, (1, 0, 3, 0, []), 90), (90, (0, 4, 0, 0, []), 91), (91, (32, 0, 148, 0, []), 94), (94, (45, 0, 0, 0, []), 95), (95, (58, 0, 0, 0, []), 96), (96, (24, 0, 101, 0, []), 99), (99, (1, 0, 3, 0, []), 100), (100, (29, 0, 0, 0, []), 101), (101, (7, 1, 3, 0, []), 104), (104, (26, 0, 33, 0, []), 107), (107, (0, (-5), 0, 0, []), 109), (109, (29, 0, 0, 0, []), 110)]
def mj_c180 : List (Nat × mj_MI × Nat) := [(0, (2, 0, 0, 0, []), 1), (1, (15, 0, 9, 0, []), 4), (4, (2, 0, 0, 0, []), 5), (5, (15, 0, 9, 1, []), 8), (8, (32, 0, 115, 1, []), 11), (11, (2, 0, 0, 0, []), 12), (12, (0, 1, 0, 0, []), 13), (13, (16, 2, 9, 3, []), 16), (16, (2, 0, 0, 0, []), 17), (17, (15, 0, 9, 0, []), 20), (20, (0, 0, 0, 0, []), 21), (21, (17, 0, 0, 0, []), 22), (22, (29, 0, 0, 0, []), 23)]
def mj_c181 : List (Nat × mj_MI × Nat) := [(0, (2, 0, 0, 0, []), 1), (1, (15, 0, 9, 3, []), 4), (4, (24, 0, 10, 1, []), 7), (7, (0, (-3), 0, 0, []), 9), (9, (29, 0, 0, 0, []), 10), (10, (2, 0, 0, 0, []), 11), (11, (15, 0, 9, 1, []), 14), (14, (2, 0, 0, 0, []), 15), (15, (15, 0, 9, 0, []), 18), (18, (32, 0, 115, 1, []), 21), (21, (2, 0, 0, 0, []), 22), (22, (32, 0, 133, 0, []), 25), (25, (2, 0, 0, 0, []), 26), (26, (15, 0, 9, 0, []), 29), (29, (0, 0, 0, 0, []), 30), (30, (17, 0, 0, 0, []), 31), (31, (29, 0, 0, 0, []), 32)]
def mj_c182 : List (Nat × mj_MI × Nat) := [(0, (1, 0, 1, 0, []), 1), (1, (27, 0, 61, 0, [(0, 32), (1, 40), (2, 48), (3, 56)]), 32), (32, (2, 0, 0, 0, []), 33), (33, (15, 0, 9, 0, []), 36), (36, (0, 46, 0, 0, []), 38), (38, (17, 0, 0, 0, []), 39), (39, (29, 0, 0, 0, []), 40), (40, (2, 0, 0, 0, []), 41), (41, (15, 0, 9, 0, []), 44), (44, (0, 57, 0, 0, []), 46), (46, (17, 0, 0, 0, []), 47), (47, (29, 0, 0, 0, []), 48), (48, (2, 0, 0, 0, []), 49), (49, (15, 0, 9, 0, []), 52), (52, (0, 74, 0, 0, []), 54), (54, (17, 0, 0, 0, []), 55), (55, (29, 0, 0, 0, []), 56), (56, (2, 0, 0, 0, []), 57), (57, (15, 0, 9, 23, []), 60), (60, (29, 0, 0, 0, []), 61), (61, (0, (-2), 0, 0, []), 63), (63, (29, 0, 0, 0, []), 64)]
def mj_c183 : List (Nat × mj_MI × Nat) := [(0, (1, 0, 1, 0, []), 1), (1, (32, 0, 178, 1, []), 4), (4, (24, 0, 9, 1, []), 7), (7, (0, (-1), 0, 0, []), 8), (8, (29, 0, 0, 0, []), 9), (9, (1, 0, 2, 0, []), 10), (10, (0, (-1), 0, 0, []), 11), (11, (0, 4, 0, 0, []), 12), (12, (32, 0, 112, 1, []), 15), (15, (24, 0, 28, 0, []), 18), (18, (1, 0, 2, 0, []), 19), (19, (24, 0, 31, 2, []), 22), (22, (1, 0, 3, 0, []), 23), (23, (0, 60, 0, 0, []), 25), (25, (25, 0, 31, 5, []), 28), (28, (0, (-2), 0, 0, []), 30), (30, (29, 0, 0, 0, []), 31), (31, (1, 0, 2, 0, []), 32), (32, (24, 0, 42, 2, []), 35), (35, (1, 0, 3, 0, []), 36), (36, (24, 0, 42, 3, []), 39), (39, (0, (-14), 0, 0, []), 41), (41, (29, 0, 0, 0, []), 42), (42, (2, 0, 0, 0, []), 43), (43, (15, 0, 9, 26, []), 46), (46, (1, 0, 1, 0, []), 47), (47, (1, 0, 2, 0, []), 48), (48, (18, 0, 0, 0, []), 49), (49, (2, 0, 0, 0, []), 50), (50, (15, 0, 9, 27, []), 53), (53, (1, 0, 1, 0, []), 54), (54, (1, 0, 2, 0, []), 55), (55, (24, 0, 62, 3, []), 58), (58, (0, 0, 0, 0, []), 59), (59, (26, 0, 63, 0, []), 62), (62, (1, 0, 3, 0, []), 63), (63, (18, 0, 0, 0, []), 64), (64, (0, 0, 0, 0, []), 65), (65, (4, 0, 4, 0, []), 67), (67, (1, 0, 4, 0, []), 69), (69, (2, 0, 0, 0, []), 70), (70, (15, 0, 9, 27, []), 73), (73, (1, 0, 1, 0, []), 74), (74, (17, 0, 0, 0, []), 75), (75, (25, 0, 97, 3, []), 78), (78, (2, 0, 0, 0, []), 79), (79, (15, 0, 9, 28, []), 82), (82, (0, 60, 0, 0, []), 84), (84, (1, 0, 1, 0, []), 85), (85, (10, 0, 0, 0, []), 86), (86, (1, 0, 4, 0, []), 88), (88, (8, 0, 0, 0, []), 89), (89, (49, 0, 0, 0, []), 90), (90, (20, 0, 0, 0, []), 91), (91, (7, 1, 4, 0, []), 94), (94, (26, 0, 67, 0, []), 97), (97, (0, 1, 0, 0, []), 98), (98, (29, 0, 0, 0, []), 99)]
def mj_c184 : List (Nat × mj_MI × Nat) := [(0, (1, 0, 1, 0, []), 1), (1, (32, 0, 178, 1, []), 4), (4, (24, 0, 9, 1, []), 7), (7, (0, (-1), 0, 0, []), 8), (8, (29, 0, 0, 0, []), 9), (9, (2, 0, 0, 0, []), 10), (10, (15, 0, 9, 26, []), 13), (13, (1, 0, 1, 0, []), 14), (14, (17, 0, 0, 0, []), 15), (15, (24, 0, 21, 3, []), 18), (18, (0, (-11), 0, 0, []), 20), (20, (29, 0, 0, 0, []), 21), (21, (1, 0, 2, 0, []), 22), (22, (0, 0, 0, 0, []), 23), (23, (2, 0, 0, 0, []), 24), (24, (15, 0, 9, 27, []), 27), (27, (1, 0, 1, 0, []), 28), (28, (17, 0, 0, 0, []), 29), (29, (0, 1, 0, 0, []), 30), (30, (9, 0, 0, 0, []), 31), (31, (32, 0, 112, 1, []), 34), (34, (24, 0, 40, 1, []), 37), (37, (0, (-13), 0, 0, []), 39), (39, (29, 0, 0, 0, []), 40), (40, (2, 0, 0, 0, []), 41), (41, (15, 0, 9, 28, []), 44), (44, (0, 60, 0, 0, []), 46), (46, (1, 0, 1, 0, []), 47), (47, (10, 0, 0, 0, []), 48), (48, (1, 0, 2, 0, []), 49), (49, (8, 0, 0, 0, []), 50), (50, (2, 0, 0, 0, []), 51), (51, (15, 0, 9, 26, []), 54), (54, (1, 0, 1, 0, []), 55), (55, (17, 0, 0, 0, []), 56), (56, (24, 0, 66, 1, []), 59), (59, (3, 0, 3, 0, []), 60), (60, (46, 0, 0, 0, []), 61), (61, (47, 0, 0, 0, []), 62), (62, (45, 0, 0, 0, []), 63), (63, (26, 0, 124, 0, []), 66), (66, (2, 0, 0, 0, []), 67), (67, (15, 0, 9, 26, []), 70), (70, (1, 0, 1, 0, []), 71), (71, (17, 0, 0, 0, []), 72), (72, (0, 1, 0, 0, []), 73), (73, (25, 0, 83, 1, []), 76), (76, (3, 0, 3, 0, []), 77), (77, (46, 0, 0, 0, []), 78), (78, (48, 0, 0, 0, []), 79), (79, (45, 0, 0, 0, []), 80), (80, (26, 0, 124, 0, []), 83), (83, (2, 0, 0, 0, []), 84), (84, (15, 0, 9, 26, []), 87), (87, (1, 0, 1, 0, []), 88), (88, (17, 0, 0, 0, []), 89), (89, (0, 2, 0, 0, []), 90), (90, (25, 0, 99, 1, []), 93), (93, (3, 0, 3, 0, []), 94), (94, (46, 0, 0, 0, []), 95), (95, (45, 0, 0, 0, []), 96), (96, (26, 0, 124, 0, []), 99), (99, (2, 0, 0, 0, []), 100), (100, (15, 0, 9, 26, []), 103), (103, (1, 0, 1, 0, []), 104), (104, (17, 0, 0, 0, []), 105), (105, (0, 3, 0, 0, []), 106), (106, (25, 0, 113, 1, []), 109), (109, (3, 0, 3, 0, []), 110), (110, (26, 0, 124, 0, []), 113), (113, (3, 0, 3, 0, []), 114), (114, (49, 0, 0, 0, []), 115), (115, (58, 0, 0, 0, []), 116), (116, (24, 0, 123, 0, []), 119), (119, (49, 1, 0, 0, []), 120), (120, (26, 0, 124, 0, []), 123), (123, (49, 0, 0, 0, []), 124), (124, (20, 0, 0, 0, []), 125), (125, (0, 1, 0, 0, []), 126), (126, (29, 0, 0, 0, []), 127)]
def mj_c185 : List (Nat × mj_MI × Nat) := [(0, (1, 0, 1, 0, []), 1), (1, (32, 0, 178, 1, []), 4), (4, (24, 0, 46, 0, []), 7), (7, (2, 0, 0, 0, []), 8), (8, (15, 0, 9, 26, []), 11), (11, (1, 0, 1, 0, []), 12), (12, (17, 0, 0, 0, []), 13), (13, (24, 0, 46, 2, []), 16), (16, (1, 0, 2, 0, []), 17), (17, (0, 0, 0, 0, []), 18), (18, (2, 0, 0, 0, []), 19), (19, (15, 0, 9, 27, []), 22), (22, (1, 0, 1, 0, []), 23), (23, (17, 0, 0, 0, []), 24), (24, (0, 1, 0, 0, []), 25), (25, (9, 0, 0, 0, []), 26), (26, (32, 0, 112, 1, []), 29), (29, (24, 0, 46, 0, []), 32), (32, (2, 0, 0, 0, []), 33), (33, (15, 0, 9, 28, []), 36), (36, (0, 60, 0, 0, []), 38), (38, (1, 0, 1, 0, []), 39), (39, (10, 0, 0, 0, []), 40), (40, (1, 0, 2, 0, []), 41), (41, (8, 0, 0, 0, []), 42), (42, (19, 0, 0, 0, []), 43), (43, (26, 0, 49, 0, []), 46), (46, (49, (-9223372036854775808), 0, 0, []), 49), (49, (30, 0, 0, 0, []), 50)]
def mj_c186 : List (Nat × mj_MI × Nat) := [(0, (1, 0, 1, 0, []), 1), (1, (32, 0, 178, 1, []), 4), (4, (24, 0, 14, 0, []), 7), (7, (1, 0, 3, 0, []), 8), (8, (32, 0, 178, 1, []), 11), (11, (24, 0, 16, 1, []), 14), (14, (0, (-1), 0, 0, []), 15), (15, (29, 0, 0, 0, []), 16), (16, (2, 0, 0, 0, []), 17), (17, (15, 0, 9, 26, []), 20), (20, (1, 0, 1, 0, []), 21), (21, (17, 0, 0, 0, []), 22), (22, (24, 0, 34, 2, []), 25), (25, (2, 0, 0, 0, []), 26), (26, (15, 0, 9, 26, []), 29), (29, (1, 0, 3, 0, []), 30), (30, (17, 0, 0, 0, []), 31), (31, (24, 0, 37, 3, []), 34), (34, (0, (-11), 0, 0, []), 36), (36, (29, 0, 0, 0, []), 37), (37, (2, 0, 0, 0, []), 38), (38, (15, 0, 9, 26, []), 41), (41, (1, 0, 1, 0, []), 42), (42, (17, 0, 0, 0, []), 43), (43, (2, 0, 0, 0, []), 44), (44, (15, 0, 9, 26, []), 47), (47, (1, 0, 3, 0, []), 48), (48, (17, 0, 0, 0, []), 49), (49, (25, 0, 55, 0, []), 52), (52, (0, (-12), 0, 0, []), 54), (54, (29, 0, 0, 0, []), 55), (55, (1, 0, 5, 0, []), 57), (57, (24, 0, 96, 2, []), 60), (60, (1, 0, 2, 0, []), 61), (61, (24, 0, 96, 2, []), 64), (64, (1, 0, 4, 0, []), 66), (66, (24, 0, 96, 2, []), 69), (69, (1, 0, 5, 0, []), 71), (71, (2, 0, 0, 0, []), 72), (72, (15, 0, 9, 27, []), 75), (75, (1, 0, 1, 0, []), 76), (76, (17, 0, 0, 0, []), 77), (77, (1, 0, 2, 0, []), 78), (78, (9, 0, 0, 0, []), 79), (79, (25, 0, 96, 4, []), 82), (82, (1, 0, 5, 0, []), 84), (84, (2, 0, 0, 0, []), 85), (85, (15, 0, 9, 27, []), 88), (88, (1, 0, 3, 0, []), 89), (89, (17, 0, 0, 0, []), 90), (90, (1, 0, 4, 0, []), 92), (92, (9, 0, 0, 0, []), 93), (93, (25, 0, 99, 5, []), 96), (96, (0, (-13), 0, 0, []), 98), (98, (29, 0, 0, 0, []), 99), (99, (0, 0, 0, 0, []), 100), (100, (4, 0, 6, 0, []), 102), (102, (1, 0, 6, 0, []), 104), (104, (1, 0, 5, 0, []), 106), (106, (25, 0, 136, 3, []), 109), (109, (2, 0, 0, 0, []), 110), (110, (15, 0, 9, 29, []), 113), (113, (1, 0, 6, 0, []), 115), (115, (2, 0, 0, 0, []), 116), (116, (15, 0, 9, 28, []), 119), (119, (0, 60, 0, 0, []), 121), (121, (1, 0, 1, 0, []), 122), (122, (10, 0, 0, 0, []), 123), (123, (1, 0, 2, 0, []), 124), (124, (8, 0, 0, 0, []), 125), (125, (1, 0, 6, 0, []), 127), (127, (8, 0, 0, 0, []), 128), (128, (19, 0, 0, 0, []), 129), (129, (20, 0, 0, 0, []), 130), (130, (7, 1, 6, 0, []), 133), (133, (26, 0, 102, 0, []), 136), (136, (0, 0, 0, 0, []), 137), (137, (4, 0, 6, 0, []), 139), (139, (1, 0, 6, 0, []), 141), (141, (1, 0, 5, 0, []), 143), (143, (25, 0, 174, 3, []), 146), (146, (2, 0, 0, 0, []), 147), (147, (15, 0, 9, 28, []), 150), (150, (0, 60, 0, 0, []), 152), (152, (1, 0, 3, 0, []), 153), (153, (10, 0, 0, 0, []), 154), (154, (1, 0, 4, 0, []), 156), (156, (8, 0, 0, 0, []), 157), (157, (1, 0, 6, 0, []), 159), (159, (8, 0, 0, 0, []), 160), (160, (2, 0, 0, 0, []), 161), (161, (15, 0, 9, 29, []), 164), (164, (1, 0, 6, 0, []), 166), (166, (19, 0, 0, 0, []), 167), (167, (20, 0, 0, 0, []), 168), (168, (7, 1, 6, 0, []), 171), (171, (26, 0, 139, 0, []), 174), (174, (1, 0, 5, 0, []), 176), (176, (29, 0, 0, 0, []), 177)]
def mj_c187 : List (Nat × mj_MI × Nat) := [(0, (36, 0, 8, 0, []), 3), (3, (41, 0, 0, 0, []), 4), (4, (32, 0, 68, 2, []), 7), (7, (5, 0, 1, 0, []), 8), (8, (36, 0, 9, 0, []), 11), (11, (41, 0, 0, 0, []), 12), (12, (32, 0, 111, 2, []), 15), (15, (5, 0, 2, 0, []), 16), (16, (0, 0, 0, 0, []), 17), (17, (4, 0, 3, 0, []), 18), (18, (1, 0, 3, 0, []), 19), (19, (2, 0, 0, 0, []), 20), (20, (23, 0, 0, 0, []), 21), (21, (0, 6, 0, 0, []), 23), (23, (9, 0, 0, 0, []), 24), (24, (25, 0, 1296, 4, []), 27), (27, (2, 0, 0, 0, []), 28), (28, (1, 0, 3, 0, []), 29), (29, (17, 0, 0, 0, []), 30), (30, (0, 63, 0, 0, []), 32), (32, (14, 0, 0, 0, []), 33), (33, (27, 0, 1290, 0, [(0, 188), (1, 221), (2, 264), (3, 307), (4, 340), (5, 363), (6, 376), (7, 409), (8, 442), (9, 485), (10, 518), (11, 541), (12, 555), (13, 578), (14, 611), (15, 644), (16, 667), (17, 700), (18, 724), (19, 768), (20, 801), (21, 834), (22, 868), (23, 892), (24, 925), (25, 949), (26, 982), (27, 995), (28, 1028), (29, 1041), (30, 1054), (31, 1077), (32, 1120), (33, 1193), (34, 1227)]), 188), (188, (2, 0, 1, 0, []), 189), (189, (2, 0, 0, 0, []), 190), (190, (1, 0, 3, 0, []), 191), (191, (0, 1, 0, 0, []), 192), (192, (8, 0, 0, 0, []), 193), (193, (17, 0, 0, 0, []), 194), (194, (2, 0, 0, 0, []), 195), (195, (1, 0, 3, 0, []), 196), (196, (0, 2, 0, 0, []), 197), (197, (8, 0, 0, 0, []), 198), (198, (17, 0, 0, 0, []), 199), (199, (32, 0, 69, 0, []), 202), (202, (2, 0, 2, 0, []), 203), (203, (2, 0, 0, 0, []), 204), (204, (1, 0, 3, 0, []), 205), (205, (0, 1, 0, 0, []), 206), (206, (8, 0, 0, 0, []), 207), (207, (17, 0, 0, 0, []), 208), (208, (2, 0, 0, 0, []), 209), (209, (1, 0, 3, 0, []), 210), (210, (0, 2, 0, 0, []), 211), (211, (8, 0, 0, 0, []), 212), (212, (17, 0, 0, 0, []), 213), (213, (32, 0, 134, 0, []), 216), (216, (25, 0, 1290, 0, []), 219), (219, (0, 0, 0, 0, []), 220), (220, (29, 0, 0, 1, []), 221), (221, (2, 0, 1, 0, []), 222), (222, (2, 0, 0, 0, []), 223), (223, (1, 0, 3, 0, []), 224), (224, (0, 1, 0, 0, []), 225), (225, (8, 0, 0, 0, []), 226), (226, (17, 0, 0, 0, []), 227), (227, (2, 0, 0, 0, []), 228), (228, (1, 0, 3, 0, []), 229), (229, (0, 2, 0, 0, []), 230), (230, (8, 0, 0, 0, []), 231), (231, (17, 0, 0, 0, []), 232), (232, (2, 0, 0, 0, []), 233), (233, (1, 0, 3, 0, []), 234), (234, (0, 3, 0, 0, []), 235), (235, (8, 0, 0, 0, []), 236), (236, (17, 0, 0, 0, []), 237), (237, (32, 0, 70, 0, []), 240), (240, (2, 0, 2, 0, []), 241), (241, (2, 0, 0, 0, []), 242), (242, (1, 0, 3, 0, []), 243), (243, (0, 1, 0, 0, []), 244), (244, (8, 0, 0, 0, []), 245), (245, (17, 0, 0, 0, []), 246), (246, (2, 0, 0, 0, []), 247), (247, (1, 0, 3, 0, []), 248), (248, (0, 2, 0, 0, []), 249), (249, (8, 0, 0, 0, []), 250), (250, (17, 0, 0, 0, []), 251), (251, (2, 0, 0, 0, []), 252), (252, (1, 0, 3, 0, []), 253), (253, (0, 3, 0, 0, []), 254), (254, (8, 0, 0, 0, []), 255), (255, (17, 0, 0, 0, []), 256), (256, (32, 0, 135, 0, []), 259), (259, (25, 0, 1290, 0, []), 262), (262, (0, 0, 0, 0, []), 263), (263, (29, 0, 0, 1, []), 264), (264, (2, 0, 1, 0, []), 265), (265, (2, 0, 0, 0, []), 266), (266, (1, 0, 3, 0, []), 267), (267, (0, 1, 0, 0, []), 268), (268, (8, 0, 0, 0, []), 269), (269, (17, 0, 0, 0, []), 270), (270, (2, 0, 0, 0, []), 271), (271, (1, 0, 3, 0, []), 272), (272, (0, 2, 0, 0, []), 273), (273, (8, 0, 0, 0, []), 274), (274, (17, 0, 0, 0, []), 275), (275, (2, 0, 0, 0, []), 276), (276, (1, 0, 3, 0, []), 277), (277, (0, 3, 0, 0, []), 278), (278, (8, 0, 0, 0, []), 279), (279, (17, 0, 0, 0, []), 280), (280, (32, 0, 71, 0, []), 283), (283, (2, 0, 2, 0, []), 284), (284, (2, 0, 0, 0, []), 285), (285, (1, 0, 3, 0, []), 286), (286, (0, 1, 0, 0, []), 287), (287, (8, 0, 0, 0, []), 288), (288, (17, 0, 0, 0, []), 289), (289, (2, 0, 0, 0, []), 290), (290, (1, 0, 3, 0, []), 291), (291, (0, 2, 0, 0, []), 292), (292, (8, 0, 0, 0, []), 293), (293, (17, 0, 0, 0, []), 294), (294, (2, 0, 0, 0, []), 295), (295, (1, 0, 3, 0, []), 296), (296, (0, 3, 0, 0, []), 297), (297, (8, 0, 0, 0, []), 298), (298, (17, 0, 0, 0, []), 299), (299, (32, 0, 137, 0, []), 302), (302, (25, 0, 1290, 0, []), 305), (305, (0, 0, 0, 0, []), 306), (306, (29, 0, 0, 1, []), 307), (307, (2, 0, 1, 0, []), 308), (308, (2, 0, 0, 0, []), 309), (309, (1, 0, 3, 0, []), 310), (310, (0, 1, 0, 0, []), 311), (311, (8, 0, 0, 0, []), 312), (312, (17, 0, 0, 0, []), 313), (313, (2, 0, 0, 0, []), 314), (314, (1, 0, 3, 0, []), 315), (315, (0, 2, 0, 0, []), 316), (316, (8, 0, 0, 0, []), 317), (317, (17, 0, 0, 0, []), 318), (318, (32, 0, 72, 0, []), 321), (321, (2, 0, 2, 0, []), 322), (322, (2, 0, 0, 0, []), 323), (323, (1, 0, 3, 0, []), 324), (324, (0, 1, 0, 0, []), 325), (325, (8, 0, 0, 0, []), 326), (326, (17, 0, 0, 0, []), 327), (327, (2, 0, 0, 0, []), 328), (328, (1, 0, 3, 0, []), 329), (329, (0, 2, 0, 0, []), 330), (330, (8, 0, 0, 0, []), 331), (331, (17, 0, 0, 0, []), 332), (332, (32, 0, 138, 0, []), 335), (335, (25, 0, 1290, 0, []), 338), (338, (0, 0, 0, 0, []), 339), (339, (29, 0, 0, 1, []), 340), (340, (2, 0, 1, 0, []), 341), (341, (2, 0, 0, 0, []), 342), (342, (1, 0, 3, 0, []), 343), (343, (0, 1, 0, 0, []), 344), (344, (8, 0, 0, 0, []), 345), (345, (17, 0, 0, 0, []), 346), (346, (32, 0, 73, 0, []), 349), (349, (2, 0, 2, 0, []), 350), (350, (2, 0, 0, 0, []), 351), (351, (1, 0, 3, 0, []), 352), (352, (0, 1, 0, 0, []), 353), (353, (8, 0, 0, 0, []), 354), (354, (17, 0, 0, 0, []), 355), (355, (32, 0, 139, 0, []), 358), (358, (25, 0, 1290, 0, []), 361), (361, (0, 0, 0, 0, []), 362), (362, (29, 0, 0, 1, []), 363), (363, (2, 0, 1, 0, []), 364), (364, (32, 0, 74, 0, []), 367), (367, (2, 0, 2, 0, []), 368), (368, (32, 0, 146, 0, []), 371), (371, (25, 0, 1290, 0, []), 374), (374, (0, 0, 0, 0, []), 375), (375, (29, 0, 0, 1, []), 376), (376, (2, 0, 1, 0, []), 377), (377, (2, 0, 0, 0, []), 378), (378, (1, 0, 3, 0, []), 379), (379, (0, 1, 0, 0, []), 380), (380, (8, 0, 0, 0, []), 381), (381, (17, 0, 0, 0, []), 382), (382, (2, 0, 0, 0, []), 383), (383, (1, 0, 3, 0, []), 384), (384, (0, 2, 0, 0, []), 385), (385, (8, 0, 0, 0, []), 386), (386, (17, 0, 0, 0, []), 387), (387, (32, 0, 75, 0, []), 390), (390, (2, 0, 2, 0, []), 391), (391, (2, 0, 0, 0, []), 392), (392, (1, 0, 3, 0, []), 393), (393, (0, 1, 0, 0, []), 394), (394, (8, 0, 0, 0, []), 395), (395, (17, 0, 0, 0, []), 396), (396, (2, 0, 0, 0, []), 397), (397, (1, 0, 3, 0, []), 398), (398, (0, 2, 0, 0, []), 399), (399, (8, 0, 0, 0, []), 400), (400, (17, 0, 0, 0, []), 401), (401, (32, 0, 148, 0, []), 404), (404, (25, 0, 1290, 0, []), 407), (407, (0, 0, 0, 0, []), 408), (408, (29, 0, 0, 1, []), 409), (409, (2, 0, 1, 0, []), 410), (410, (2, 0, 0, 0, []), 411), (411, (1, 0, 3, 0, []), 412), (412, (0, 1, 0, 0, []), 413), (413, (8, 0, 0, 0, []), 414), (414, (17, 0, 0, 0, []), 415), (415, (2, 0, 0, 0, []), 416), (416, (1, 0, 3, 0, []), 417), (417, (0, 2, 0, 0, []), 418), (418, (8, 0, 0, 0, []), 419), (419, (17, 0, 0, 0, []), 420), (420, (32, 0, 76, 0, []), 423), (423, (2, 0, 2, 0, []), 424), (424, (2, 0, 0, 0, []), 425), (425, (1, 0, 3, 0, []), 426), (426, (0, 1, 0, 0, []), 427), (427, (8, 0, 0, 0, []), 428), (428, (17, 0, 0, 0, []), 429), (429, (2, 0, 0, 0, []), 430), (430, (1, 0, 3, 0, []), 431), (431, (0, 2, 0, 0, []), 432), (432, (8, 0, 0, 0, []), 433), (433, (17, 0, 0, 0, []), 434), (434, (32, 0, 149, 0, []), 437), (437, (25, 0, 1290, 0, []), 440), (440, (0, 0, 0, 0, []), 441), (441, (29, 0, 0, 1, []), 442), (442, (2, 0, 1, 0, []), 443), (443, (2, 0, 0, 0, []), 444), (444, (1, 0, 3, 0, []), 445), (445, (0, 1, 0, 0, []), 446), (446, (8, 0, 0, 0, []), 447), (447, (17, 0, 0, 0, []), 448), (448, (2, 0, 0, 0, []), 449), (449, (1, 0, 3, 0, []), 450), (450, (0, 2, 0, 0, []), 451), (451, (8, 0, 0, 0, []), 452), (452, (17, 0, 0, 0, []), 453), (453, (2, 0, 0, 0, []), 454), (454, (1, 0, 3, 0, []), 455), (455, (0, 3, 0, 0, []), 456), (456, (8, 0, 0, 0, []), 457), (457, (17, 0, 0, 0, []), 458), (458, (32, 0, 77, 0, []), 461), (461, (2, 0, 2, 0, []), 462), (462, (2, 0, 0, 0, []), 463), (463, (1, 0, 3, 0, []), 464), (464, (0, 1, 0, 0, []), 465), (465, (8, 0, 0, 0, []), 466), (466, (17, 0, 0, 0, []), 467), (467, (2, 0, 0, 0, []), 468), (468, (1, 0, 3, 0, []), 469), (469, (0, 2, 0, 0, []), 470), (470, (8, 0, 0, 0, []), 471), (471, (17, 0, 0, 0, []), 472), (472, (2, 0, 0, 0, []), 473), (473, (1, 0, 3, 0, []), 474), (474, (0, 3, 0, 0, []), 475), (475, (8, 0, 0, 0, []), 476), (476, (17, 0, 0, 0, []), 477), (477, (32, 0, 150, 0, []), 480), (480, (25, 0, 1290, 0, []), 483), (483, (0, 0, 0, 0, []), 484), (484, (29, 0, 0, 1, []), 485), (485, (2, 0, 1, 0, []), 486), (486, (2, 0, 0, 0, []), 487), (487, (1, 0, 3, 0, []), 488), (488, (0, 1, 0, 0, []), 489), (489, (8, 0, 0, 0, []), 490), (490, (17, 0, 0, 0, []), 491), (491, (2, 0, 0, 0, []), 492), (492, (1, 0, 3, 0, []), 493), (493, (0, 2, 0, 0, []), 494), (494, (8, 0, 0, 0, []), 495), (495, (17, 0, 0, 0, []), 496), (496, (32, 0, 78, 0, []), 499), (499, (2, 0, 2, 0, []), 500), (500, (2, 0, 0, 0, []), 501), (501, (1, 0, 3, 0, []), 502), (502, (0, 1, 0, 0, []), 503), (503, (8, 0, 0, 0, []), 504), (504, (17, 0, 0, 0, []), 505), (505, (2, 0, 0, 0, []), 506), (506, (1, 0, 3, 0, []), 507), (507, (0, 2, 0, 0, []), 508), (508, (8, 0, 0, 0, []), 509), (509, (17, 0, 0, 0, []), 510), (510, (32, 0, 151, 0, []), 513), (513, (25, 0, 1290, 0, []), 516), (516, (0, 0, 0, 0, []), 517), (517, (29, 0, 0, 1, []), 518), (518, (2, 0, 1, 0, []), 519), (519, (2, 0, 0, 0, []), 520), (520, (1, 0, 3, 0, []), 521), (521, (0, 1, 0, 0, []), 522), (522, (8, 0, 0, 0, []), 523), (523, (17, 0, 0, 0, []), 524), (524, (32, 0, 79, 0, []), 527), (527, (2, 0, 2, 0, []), 528), (528, (2, 0, 0, 0, []), 529), (529, (1, 0, 3, 0, []), 530), (530, (0, 1, 0, 0, []), 531), (531, (8, 0, 0, 0, []), 532), (532, (17, 0, 0, 0, []), 533), (533, (32, 0, 154, 0, []), 536), (536, (25, 0, 1290, 0, []), 539), (539, (0, 0, 0, 0, []), 540), (540, (29, 0, 0, 1, []), 541), (541, (2, 0, 1, 0, []), 542), (542, (32, 0, 80, 0, []), 545), (545, (2, 0, 2, 0, []), 546), (546, (32, 0, 155, 0, []), 549), (549, (58, 0, 0, 0, []), 550), (550, (24, 0, 1290, 0, []), 553), (553, (0, 0, 0, 0, []), 554), (554, (29, 0, 0, 1, []), 555), (555, (2, 0, 1, 0, []), 556), (556, (2, 0, 0, 0, []), 557), (557, (1, 0, 3, 0, []), 558), (558, (0, 1, 0, 0, []), 559), (559, (8, 0, 0, 0, []), 560), (560, (17, 0, 0, 0, []), 561), (561, (32, 0, 81, 0, []), 564), (564, (2, 0, 2, 0, []), 565), (565, (2, 0, 0, 0, []), 566), (566, (1, 0, 3, 0, []), 567), (567, (0, 1, 0, 0, []), 568), (568, (8, 0, 0, 0, []), 569), (569, (17, 0, 0, 0, []), 570), (570, (32, 0, 156, 0, []), 573), (573, (25, 0, 1290, 0, []), 576), (576, (0, 0, 0, 0, []), 577), (577, (29, 0, 0, 1, []), 578), (578, (2, 0, 1, 0, []), 579), (579, (2, 0, 0, 0, []), 580), (580, (1, 0, 3, 0, []), 581), (581, (0, 1, 0, 0, []), 582), (582, (8, 0, 0, 0, []), 583), (583, (17, 0, 0, 0, []), 584), (584, (2, 0, 0, 0, []), 585), (585, (1, 0, 3, 0, []), 586), (586, (0, 2, 0, 0, []), 587), (587, (8, 0, 0, 0, []), 588), (588, (17, 0, 0, 0, []), 589), (589, (32, 0, 82, 0, []), 592), (592, (2, 0, 2, 0, []), 593), (593, (2, 0, 0, 0, []), 594), (594, (1, 0, 3, 0, []), 595), (595, (0, 1, 0, 0, []), 596), (596, (8, 0, 0, 0, []), 597), (597, (17, 0, 0, 0, []), 598), (598, (2, 0, 0, 0, []), 599), (599, (1, 0, 3, 0, []), 600), (600, (0, 2, 0, 0, []), 601), (601, (8, 0, 0, 0, []), 602), (602, (17, 0, 0, 0, []), 603), (603, (32, 0, 157, 0, []), 606), (606, (25, 0, 1290, 0, []), 609), (609, (0, 0, 0, 0, []), 610), (610, (29, 0, 0, 1, []), 611), (611, (2, 0, 1, 0, []), 612), (612, (2, 0, 0, 0, []), 613), (613, (1, 0, 3, 0, []), 614), (614, (0, 1, 0, 0, []), 615), (615, (8, 0, 0, 0, []), 616), (616, (17, 0, 0, 0, []), 617), (617, (2, 0, 0, 0, []), 618), (618, (1, 0, 3, 0, []), 619), (619, (0, 2, 0, 0, []), 620), (620, (8, 0, 0, 0, []), 621), (621, (17, 0, 0, 0, []), 622), (622, (32, 0, 83, 0, []), 625), (625, (2, 0, 2, 0, []), 626), (626, (2, 0, 0, 0, []), 627), (627, (1, 0, 3, 0, []), 628), (628, (0, 1, 0, 0, []), 629), (629, (8, 0, 0, 0, []), 630), (630, (17, 0, 0, 0, []), 631), (631, (2, 0, 0, 0, []), 632), (632, (1, 0, 3, 0, []), 633), (633, (0, 2, 0, 0, []), 634), (634, (8, 0, 0, 0, []), 635), (635, (17, 0, 0, 0, []), 636), (636, (32, 0, 158, 0, []), 639), (639, (25, 0, 1290, 0, []), 642), (642, (0, 0, 0, 0, []), 643), (643, (29, 0, 0, 1, []), 644), (644, (2, 0, 1, 0, []), 645), (645, (2, 0, 0, 0, []), 646), (646, (1, 0, 3, 0, []), 647), (647, (0, 1, 0, 0, []), 648), (648, (8, 0, 0, 0, []), 649), (649, (17, 0, 0, 0, []), 650), (650, (32, 0, 84, 0, []), 653), (653, (2, 0, 2, 0, []), 654), (654, (2, 0, 0, 0, []), 655), (655, (1, 0, 3, 0, []), 656), (656, (0, 1, 0, 0, []), 657), (657, (8, 0, 0, 0, []), 658), (658, (17, 0, 0, 0, []), 659), (659, (32, 0, 160, 0, []), 662), (662, (25, 0, 1290, 0, []), 665), (665, (0, 0, 0, 0, []), 666), (666, (29, 0, 0, 1, []), 667), (667, (2, 0, 1, 0, []), 668), (668, (2, 0, 0, 0, []), 669), (669, (1, 0, 3, 0, []), 670), (670, (0, 1, 0, 0, []), 671), (671, (8, 0, 0, 0, []), 672), (672, (17, 0, 0, 0, []), 673), (673, (2, 0, 0, 0, []), 674), (674, (1, 0, 3, 0, []), 675), (675, (0, 2, 0, 0, []), 676), (676, (8, 0, 0, 0, []), 677), (677, (17, 0, 0, 0, []), 678), (678, (32, 0, 85, 0, []), 681), (681, (2, 0, 2, 0, []), 682), (682, (2, 0, 0, 0, []), 683), (683, (1, 0, 3, 0, []), 684), (684, (0, 1, 0, 0, []), 685), (685, (8, 0, 0, 0, []), 686), (686, (17, 0, 0, 0, []), 687), (687, (2, 0, 0, 0, []), 688), (688, (1, 0, 3, 0, []), 689), (689, (0, 2, 0, 0, []), 690), (690, (8, 0, 0, 0, []), 691), (691, (17, 0, 0, 0, []), 692), (692, (32, 0, 161, 0, []), 695), (695, (25, 0, 1290, 0, []), 698), (698, (0, 0, 0, 0, []), 699), (699, (29, 0, 0, 1, []), 700), (700, (2, 0, 1, 0, []), 701), (701, (2, 0, 0, 0, []), 702), (702, (1, 0, 3, 0, []), 703), (703, (0, 1, 0, 0, []), 704), (704, (8, 0, 0, 0, []), 705), (705, (17, 0, 0, 0, []), 706), (706, (32, 0, 86, 0, []), 709), (709, (2, 0, 2, 0, []), 710), (710, (2, 0, 0, 0, []), 711), (711, (1, 0, 3, 0, []), 712), (712, (0, 1, 0, 0, []), 713), (713, (8, 0, 0, 0, []), 714), (714, (17, 0, 0, 0, []), 715), (715, (32, 0, 164, 0, []), 718), (718, (58, 0, 0, 0, []), 719), (719, (24, 0, 1290, 0, []), 722), (722, (0, 0, 0, 0, []), 723), (723, (29, 0, 0, 1, []), 724), (724, (2, 0, 1, 0, []), 725), (725, (2, 0, 0, 0, []), 726), (726, (1, 0, 3, 0, []), 727), (727, (0, 1, 0, 0, []), 728), (728, (8, 0, 0, 0, []), 729), (729, (17, 0, 0, 0, []), 730), (730, (2, 0, 0, 0, []), 731), (731, (1, 0, 3, 0, []), 732), (732, (0, 2, 0, 0, []), 733), (733, (8, 0, 0, 0, []), 734), (734, (17, 0, 0, 0, []), 735), (735, (2, 0, 0, 0, []), 736), (736, (1, 0, 3, 0, []), 737), (737, (0, 3, 0, 0, []), 738), (738, (8, 0, 0, 0, []), 739), (739, (17, 0, 0, 0, []), 740), (740, (32, 0, 87, 0, []), 743), (743, (2, 0, 2, 0, []), 744), (744, (2, 0, 0, 0, []), 745), (745, (1, 0, 3, 0, []), 746), (746, (0, 1, 0, 0, []), 747), (747, (8, 0, 0, 0, []), 748), (748, (17, 0, 0, 0, []), 749), (749, (2, 0, 0, 0, []), 750), (750, (1, 0, 3, 0, []), 751), (751, (0, 2, 0, 0, []), 752), (752, (8, 0, 0, 0, []), 753), (753, (17, 0, 0, 0, []), 754), (754, (2, 0, 0, 0, []), 755), (755, (1, 0, 3, 0, []), 756), (756, (0, 3, 0, 0, []), 757), (757, (8, 0, 0, 0, []), 758), (758, (17, 0, 0, 0, []), 759), (759, (32, 0, 165, 0, []), 762), (762, (58, 0, 0, 0, []), 763), (763, (24, 0, 1290, 0, []), 766), (766, (0, 0, 0, 0, []), 767), (767, (29, 0, 0, 1, []), 768), (768, (2, 0, 1, 0, []), 769), (769, (2, 0, 0, 0, []), 770), (770, (1, 0, 3, 0, []), 771), (771, (0, 1, 0, 0, []), 772), (772, (8, 0, 0, 0, []), 773), (773, (17, 0, 0, 0, []), 774), (774, (2, 0, 0, 0, []), 775), (775, (1, 0, 3, 0, []), 776), (776, (0, 2, 0, 0, []), 777), (777, (8, 0, 0, 0, []), 778), (778, (17, 0, 0, 0, []), 779), (779, (32, 0, 88, 0, []), 782), (782, (2, 0, 2, 0, []), 783), (783, (2, 0, 0, 0, []), 784), (784, (1, 0, 3, 0, []), 785), (785, (0, 1, 0, 0, []), 786), (786, (8, 0, 0, 0, []), 787), (787, (17, 0, 0, 0, []), 788), (788, (2, 0, 0, 0, []), 789), (789, (1, 0, 3, 0, []), 790), (790, (0, 2, 0, 0, []), 791), (791, (8, 0, 0, 0, []), 792), (792, (17, 0, 0, 0, []), 793), (793, (32, 0, 168, 0, []), 796), (796, (25, 0, 1290, 0, []), 799), (799, (0, 0, 0, 0, []), 800), (800, (29, 0, 0, 1, []), 801), (801, (2, 0, 1, 0, []), 802), (802, (2, 0, 0, 0, []), 803), (803, (1, 0, 3, 0, []), 804), (804, (0, 1, 0, 0, []), 805), (805, (8, 0, 0, 0, []), 806), (806, (17, 0, 0, 0, []), 807), (807, (2, 0, 0, 0, []), 808), (808, (1, 0, 3, 0, []), 809), (809, (0, 2, 0, 0, []), 810), (810, (8, 0, 0, 0, []), 811), (811, (17, 0, 0, 0, []), 812), (812, (32, 0, 89, 0, []), 815), (815, (2, 0, 2, 0, []), 816), (816, (2, 0, 0, 0, []), 817), (817, (1, 0, 3, 0, []), 818), (818, (0, 1, 0, 0, []), 819), (819, (8, 0, 0, 0, []), 820), (820, (17, 0, 0, 0, []), 821), (821, (2, 0, 0, 0, []), 822), (822, (1, 0, 3, 0, []), 823), (823, (0, 2, 0, 0, []), 824), (824, (8, 0, 0, 0, []), 825), (825, (17, 0, 0, 0, []), 826), (826, (32, 0, 169, 0, []), 829), (829, (25, 0, 1290, 0, []), 832), (832, (0, 0, 0, 0, []), 833), (833, (29, 0, 0, 1, []), 834), (834, (2, 0, 1, 0, []), 835), (835, (2, 0, 0, 0, []), 836), (836, (1, 0, 3, 0, []), 837), (837, (0, 1, 0, 0, []), 838), (838, (8, 0, 0, 0, []), 839), (839, (17, 0, 0, 0, []), 840), (840, (2, 0, 0, 0, []), 841), (841, (1, 0, 3, 0, []), 842), (842, (0, 2, 0, 0, []), 843), (843, (8, 0, 0, 0, []), 844), (844, (17, 0, 0, 0, []), 845), (845, (32, 0, 90, 0, []), 848), (848, (2, 0, 2, 0, []), 849), (849, (2, 0, 0, 0, []), 850), (850, (1, 0, 3, 0, []), 851), (851, (0, 1, 0, 0, []), 852), (852, (8, 0, 0, 0, []), 853), (853, (17, 0, 0, 0, []), 854), (854, (2, 0, 0, 0, []), 855), (855, (1, 0, 3, 0, []), 856), (856, (0, 2, 0, 0, []), 857), (857, (8, 0, 0, 0, []), 858), (858, (17, 0, 0, 0, []), 859), (859, (32, 0, 172, 0, []), 862), (862, (58, 0, 0, 0, []), 863), (863, (24, 0, 1290, 0, []), 866), (866, (0, 0, 0, 0, []), 867), (867, (29, 0, 0, 1, []), 868), (868, (2, 0, 1, 0, []), 869), (869, (2, 0, 0, 0, []), 870), (870, (1, 0, 3, 0, []), 871), (871, (0, 1, 0, 0, []), 872), (872, (8, 0, 0, 0, []), 873), (873, (17, 0, 0, 0, []), 874), (874, (32, 0, 91, 0, []), 877), (877, (2, 0, 2, 0, []), 878), (878, (2, 0, 0, 0, []), 879), (879, (1, 0, 3, 0, []), 880), (880, (0, 1, 0, 0, []), 881), (881, (8, 0, 0, 0, []), 882), (882, (17, 0, 0, 0, []), 883), (883, (32, 0, 173, 0, []), 886), (886, (58, 0, 0, 0, []), 887), (887, (24, 0, 1290, 0, []), 890), (890, (0, 0, 0, 0, []), 891), (891, (29, 0, 0, 1, []), 892), (892, (2, 0, 1, 0, []), 893), (893, (2, 0, 0, 0, []), 894), (894, (1, 0, 3, 0, []), 895), (895, (0, 1, 0, 0, []), 896), (896, (8, 0, 0, 0, []), 897), (897, (17, 0, 0, 0, []), 898), (898, (2, 0, 0, 0, []), 899), (899, (1, 0, 3, 0, []), 900), (900, (0, 2, 0, 0, []), 901), (901, (8, 0, 0, 0, []), 902), (902, (17, 0, 0, 0, []), 903), (903, (32, 0, 92, 0, []), 906), (906, (2, 0, 2, 0, []), 907), (907, (2, 0, 0, 0, []), 908), (908, (1, 0, 3, 0, []), 909), (909, (0, 1, 0, 0, []), 910), (910, (8, 0, 0, 0, []), 911), (911, (17, 0, 0, 0, []), 912), (912, (2, 0, 0, 0, []), 913), (913, (1, 0, 3, 0, []), 914), (914, (0, 2, 0, 0, []), 915), (915, (8, 0, 0, 0, []), 916), (916, (17, 0, 0, 0, []), 917), (917, (32, 0, 174, 0, []), 920), (920, (25, 0, 1290, 0, []), 923), (923, (0, 0, 0, 0, []), 924), (924, (29, 0, 0, 1, []), 925), (925, (2, 0, 1, 0, []), 926), (926, (2, 0, 0, 0, []), 927), (927, (1, 0, 3, 0, []), 928), (928, (0, 1, 0, 0, []), 929), (929, (8, 0, 0, 0, []), 930), (930, (17, 0, 0, 0, []), 931), (931, (32, 0, 93, 0, []), 934), (934, (2, 0, 2, 0, []), 935), (935, (2, 0, 0, 0, []), 936), (936, (1, 0, 3, 0, []), 937), (937, (0, 1, 0, 0, []), 938), (938, (8, 0, 0, 0, []), 939), (939, (17, 0, 0, 0, []), 940), (940, (32, 0, 175, 0, []), 943), (943, (58, 0, 0, 0, []), 944), (944, (24, 0, 1290, 0, []), 947), (947, (0, 0, 0, 0, []), 948), (948, (29, 0, 0, 1, []), 949), (949, (2, 0, 1, 0, []), 950), (950, (2, 0, 0, 0, []), 951), (951, (1, 0, 3, 0, []), 952), (952, (0, 1, 0, 0, []), 953), (953, (8, 0, 0, 0, []), 954), (954, (17, 0, 0, 0, []), 955), (955, (2, 0, 0, 0, []), 956), (956, (1, 0, 3, 0, []), 957), (957, (0, 2, 0, 0, []), 958), (958, (8, 0, 0, 0, []), 959), (959, (17, 0, 0, 0, []), 960), (960, (32, 0, 94, 0, []), 963), (963, (2, 0, 2, 0, []), 964), (964, (2, 0, 0, 0, []), 965), (965, (1, 0, 3, 0, []), 966), (966, (0, 1, 0, 0, []), 967), (967, (8, 0, 0, 0, []), 968), (968, (17, 0, 0, 0, []), 969), (969, (2, 0, 0, 0, []), 970), (970, (1, 0, 3, 0, []), 971), (971, (0, 2, 0, 0, []), 972), (972, (8, 0, 0, 0, []), 973), (973, (17, 0, 0, 0, []), 974), (974, (32, 0, 176, 0, []), 977), (977, (25, 0, 1290, 0, []), 980), (980, (0, 0, 0, 0, []), 981), (981, (29, 0, 0, 1, []), 982), (982, (2, 0, 1, 0, []), 983), (983, (32, 0, 95, 0, []), 986), (986, (2, 0, 2, 0, []), 987), (987, (32, 0, 177, 0, []), 990), (990, (25, 0, 1290, 0, []), 993), (993, (0, 0, 0, 0, []), 994), (994, (29, 0, 0, 1, []), 995), (995, (2, 0, 1, 0, []), 996), (996, (2, 0, 0, 0, []), 997), (997, (1, 0, 3, 0, []), 998), (998, (0, 1, 0, 0, []), 999), (999, (8, 0, 0, 0, []), 1000), (1000, (17, 0, 0, 0, []), 1001), (1001, (2, 0, 0, 0, []), 1002), (1002, (1, 0, 3, 0, []), 1003), (1003, (0, 2, 0, 0, []), 1004), (1004, (8, 0, 0, 0, []), 1005), (1005, (17, 0, 0, 0, []), 1006), (1006, (32, 0, 96, 0, []), 1009), (1009, (2, 0, 2, 0, []), 1010), (1010, (2, 0, 0, 0, []), 1011), (1011, (1, 0, 3, 0, []), 1012), (1012, (0, 1, 0, 0, []), 1013), (1013, (8, 0, 0, 0, []), 1014), (1014, (17, 0, 0, 0, []), 1015), (1015, (2, 0, 0, 0, []), 1016), (1016, (1, 0, 3, 0, []), 1017), (1017, (0, 2, 0, 0, []), 1018), (1018, (8, 0, 0, 0, []), 1019), (1019, (17, 0, 0, 0, []), 1020), (1020, (32, 0, 179, 0, []), 1023), (1023, (25, 0, 1290, 0, []), 1026), (1026, (0, 0, 0, 0, []), 1027), (1027, (29, 0, 0, 1, []), 1028), (1028, (2, 0, 1, 0, []), 1029), (1029, (32, 0, 97, 0, []), 1032), (1032, (2, 0, 2, 0, []), 1033), (1033, (32, 0, 180, 0, []), 1036), (1036, (25, 0, 1290, 0, []), 1039), (1039, (0, 0, 0, 0, []), 1040), (1040, (29, 0, 0, 1, []), 1041), (1041, (2, 0, 1, 0, []), 1042), (1042, (32, 0, 98, 0, []), 1045), (1045, (2, 0, 2, 0, []), 1046), (1046, (32, 0, 181, 0, []), 1049), (1049, (25, 0, 1290, 0, []), 1052), (1052, (0, 0, 0, 0, []), 1053), (1053, (29, 0, 0, 1, []), 1054), (1054, (2, 0, 1, 0, []), 1055), (1055, (2, 0, 0, 0, []), 1056), (1056, (1, 0, 3, 0, []), 1057), (1057, (0, 1, 0, 0, []), 1058), (1058, (8, 0, 0, 0, []), 1059), (1059, (17, 0, 0, 0, []), 1060), (1060, (32, 0, 99, 0, []), 1063), (1063, (2, 0, 2, 0, []), 1064), (1064, (2, 0, 0, 0, []), 1065), (1065, (1, 0, 3, 0, []), 1066), (1066, (0, 1, 0, 0, []), 1067), (1067, (8, 0, 0, 0, []), 1068), (1068, (17, 0, 0, 0, []), 1069), (1069, (32, 0, 182, 0, []), 1072), (1072, (25, 0, 1290, 0, []), 1075), (1075, (0, 0, 0, 0, []), 1076), (1076, (29, 0, 0, 1, []), 1077), (1077, (2, 0, 1, 0, []), 1078), (1078, (2, 0, 0, 0, []), 1079), (1079, (1, 0, 3, 0, []), 1080), (1080, (0, 1, 0, 0, []), 1081), (1081, (8, 0, 0, 0, []), 1082), (1082, (17, 0, 0, 0, []), 1083), (1083, (2, 0, 0, 0, []), 1084), (1084, (1, 0, 3, 0, []), 1085), (1085, (0, 2, 0, 0, []), 1086), (1086, (8, 0, 0, 0, []), 1087), (1087, (17, 0, 0, 0, []), 1088), (1088, (2, 0, 0, 0, []), 1089), (1089, (1, 0, 3, 0, []), 1090), (1090, (0, 3, 0, 0, []), 1091), (1091, (8, 0, 0, 0, []), 1092), (1092, (17, 0, 0, 0, []), 1093), (1093, (32, 0, 100, 0, []), 1096), (1096, (2, 0, 2, 0, []), 1097), (1097, (2, 0, 0, 0, []), 1098), (1098, (1, 0, 3, 0, []), 1099), (1099, (0, 1, 0, 0, []), 1100), (1100, (8, 0, 0, 0, []), 1101), (1101, (17, 0, 0, 0, []), 1102), (1102, (2, 0, 0, 0, []), 1103), (1103, (1, 0, 3, 0, []), 1104), (1104, (0, 2, 0, 0, []), 1105), (1105, (8, 0, 0, 0, []), 1106), (1106, (17, 0, 0, 0, []), 1107), (1107, (2, 0, 0, 0, []), 1108), (1108, (1, 0, 3, 0, []), 1109), (1109, (0, 3, 0, 0, []), 1110), (1110, (8, 0, 0, 0, []), 1111), (1111, (17, 0, 0, 0, []), 1112), (1112, (32, 0, 183, 0, []), 1115), (1115, (25, 0, 1290, 0, []), 1118), (1118, (0, 0, 0, 0, []), 1119), (1119, (29, 0, 0, 1, []), 1120), (1120, (2, 0, 1, 0, []), 1121), (1121, (2, 0, 0, 0, []), 1122), (1122, (1, 0, 3, 0, []), 1123), (1123, (0, 1, 0, 0, []), 1124), (1124, (8, 0, 0, 0, []), 1125), (1125, (17, 0, 0, 0, []), 1126), (1126, (2, 0, 0, 0, []), 1127), (1127, (1, 0, 3, 0, []), 1128), (1128, (0, 2, 0, 0, []), 1129), (1129, (8, 0, 0, 0, []), 1130), (1130, (17, 0, 0, 0, []), 1131), (1131, (2, 0, 0, 0, []), 1132), (1132, (1, 0, 3, 0, []), 1133), (1133, (0, 3, 0, 0, []), 1134), (1134, (8, 0, 0, 0, []), 1135), (1135, (17, 0, 0, 0, []), 1136), (1136, (45, 0, 0, 0, []), 1137), (1137, (0, 32, 0, 0, []), 1139), (1139, (57, 0, 0, 0, []), 1140), (1140, (2, 0, 0, 0, []), 1141), (1141, (1, 0, 3, 0, []), 1142), (1142, (0, 4, 0, 0, []), 1143), (1143, (8, 0, 0, 0, []), 1144), (1144, (17, 0, 0, 0, []), 1145), (1145, (45, 0, 0, 0, []), 1146), (1146, (49, 4294967295, 0, 0, []), 1149), (1149, (55, 0, 0, 0, []), 1150), (1150, (56, 0, 0, 0, []), 1151), (1151, (32, 0, 101, 0, []), 1154), (1154, (2, 0, 2, 0, []), 1155), (1155, (2, 0, 0, 0, []), 1156), (1156, (1, 0, 3, 0, []), 1157), (1157, (0, 1, 0, 0, []), 1158), (1158, (8, 0, 0, 0, []), 1159), (1159, (17, 0, 0, 0, []), 1160), (1160, (2, 0, 0, 0, []), 1161), (1161, (1, 0, 3, 0, []), 1162), (1162, (0, 2, 0, 0, []), 1163), (1163, (8, 0, 0, 0, []), 1164), (1164, (17, 0, 0, 0, []), 1165), (1165, (2, 0, 0, 0, []), 1166), (1166, (1, 0, 3, 0, []), 1167), (1167, (0, 3, 0, 0, []), 1168), (1168, (8, 0, 0, 0, []), 1169), (1169, (17, 0, 0, 0, []), 1170), (1170, (45, 0, 0, 0, []), 1171), (1171, (0, 32, 0, 0, []), 1173), (1173, (57, 0, 0, 0, []), 1174), (1174, (2, 0, 0, 0, []), 1175), (1175, (1, 0, 3, 0, []), 1176), (1176, (0, 4, 0, 0, []), 1177), (1177, (8, 0, 0, 0, []), 1178), (1178, (17, 0, 0, 0, []), 1179), (1179, (45, 0, 0, 0, []), 1180), (1180, (49, 4294967295, 0, 0, []), 1183), (1183, (55, 0, 0, 0, []), 1184), (1184, (56, 0, 0, 0, []), 1185), (1185, (32, 0, 184, 0, []), 1188), (1188, (25, 0, 1290, 0, []), 1191), (1191, (0, 0, 0, 0, []), 1192), (1192, (29, 0, 0, 1, []), 1193), (1193, (2, 0, 1, 0, []), 1194), (1194, (2, 0, 0, 0, []), 1195), (1195, (1, 0, 3, 0, []), 1196), (1196, (0, 1, 0, 0, []), 1197), (1197, (8, 0, 0, 0, []), 1198), (1198, (17, 0, 0, 0, []), 1199), (1199, (2, 0, 0, 0, []), 1200), (1200, (1, 0, 3, 0, []), 1201), (1201, (0, 2, 0, 0, []), 1202), (1202, (8, 0, 0, 0, []), 1203), (1203, (17, 0, 0, 0, []), 1204), (1204, (32, 0, 102, 0, []), 1207), (1207, (2, 0, 2, 0, []), 1208), (1208, (2, 0, 0, 0, []), 1209), (1209, (1, 0, 3, 0, []), 1210), (1210, (0, 1, 0, 0, []), 1211), (1211, (8, 0, 0, 0, []), 1212), (1212, (17, 0, 0, 0, []), 1213), (1213, (2, 0, 0, 0, []), 1214), (1214, (1, 0, 3, 0, []), 1215), (1215, (0, 2, 0, 0, []), 1216), (1216, (8, 0, 0, 0, []), 1217), (1217, (17, 0, 0, 0, []), 1218), (1218, (32, 0, 185, 0, []), 1221), (1221, (58, 0, 0, 0, []), 1222), (1222, (24, 0, 1290, 0, []), 1225), (1225, (0, 0, 0, 0, []), 1226), (1226, (29, 0, 0, 1, []), 1227), (1227, (2, 0, 1, 0, []), 1228), (1228, (2, 0, 0, 0, []), 1229), (1229, (1, 0, 3, 0, []), 1230), (1230, (0, 1, 0, 0, []), 1231), (1231, (8, 0, 0, 0, []), 1232), (1232, (17, 0, 0, 0, []), 1233), (1233, (2, 0, 0, 0, []), 1234), (1234, (1, 0, 3, 0, []), 1235), (1235, (0, 2, 0, 0, []), 1236), (1236, (8, 0, 0, 0, []), 1237), (1237, (17, 0, 0, 0, []), 1238), (1238, (2, 0, 0, 0, []), 1239), (1239, (1, 0, 3, 0, []), 1240), (1240, (0, 3, 0, 0, []), 1241), (1241, (8, 0, 0, 0, []), 1242), (1242, (17, 0, 0, 0, []), 1243), (1243, (2, 0, 0, 0, []), 1244), (1244, (1, 0, 3, 0, []), 1245), (1245, (0, 4, 0, 0, []), 1246), (1246, (8, 0, 0, 0, []), 1247), (1247, (17, 0, 0, 0, []), 1248), (1248, (2, 0, 0, 0, []), 1249), (1249, (1, 0, 3, 0, []), 1250), (1250, (0, 5, 0, 0, []), 1251), (1251, (8, 0, 0, 0, []), 1252), (1252, (17, 0, 0, 0, []), 1253), (1253, (32, 0, 103, 0, []), 1256), (1256, (2, 0, 2, 0, []), 1257), (1257, (2, 0, 0, 0, []), 1258), (1258, (1, 0, 3, 0, []), 1259), (1259, (0, 1, 0, 0, []), 1260), (1260, (8, 0, 0, 0, []), 1261), (1261, (17, 0, 0, 0, []), 1262), (1262, (2, 0, 0, 0, []), 1263), (1263, (1, 0, 3, 0, []), 1264), (1264, (0, 2, 0, 0, []), 1265), (1265, (8, 0, 0, 0, []), 1266), (1266, (17, 0, 0, 0, []), 1267), (1267, (2, 0, 0, 0, []), 1268), (1268, (1, 0, 3, 0, []), 1269), (1269, (0, 3, 0, 0, []), 1270), (1270, (8, 0, 0, 0, []), 1271), (1271, (17, 0, 0, 0, []), 1272), (1272, (2, 0, 0, 0, []), 1273), (1273, (1, 0, 3, 0, []), 1274), (1274, (0, 4, 0, 0, []), 1275), (1275, (8, 0, 0, 0, []), 1276), (1276, (17, 0, 0, 0, []), 1277), (1277, (2, 0, 0, 0, []), 1278), (1278, (1, 0, 3, 0, []), 1279), (1279, (0, 5, 0, 0, []), 1280), (1280, (8, 0, 0, 0, []), 1281), (1281, (17, 0, 0, 0, []), 1282), (1282, (32, 0, 186, 0, []), 1285), (1285, (25, 0, 1290, 0, []), 1288), (1288, (0, 0, 0, 0, []), 1289), (1289, (29, 0, 0, 1, []), 1290), (1290, (7, 6, 3, 0, []), 1293), (1293, (26, 0, 18, 0, []), 1296), (1296, (0, 1, 0, 0, []), 1297), (1297, (29, 0, 0, 1, []), 1298)]
def mj_cods : List (List (Nat × mj_MI × Nat)) := [mj_c0, mj_c1, mj_c2, mj_c3, mj_c4, mj_c5, mj_c6, mj_c7, mj_c8, mj_c9, mj_c10, mj_c11, mj_c12, mj_c13, mj_c14, mj_c15, mj_c16, mj_c17, mj_c18, mj_c19, mj_c20, mj_c21, mj_c22, mj_c23, mj_c24, mj_c25, mj_c26, mj_c27, mj_c28, mj_c29, mj_c30, mj_c31, mj_c32, mj_c33, mj_c34, mj_c35, mj_c36, mj_c37, mj_c38, mj_c39, mj_c40, mj_c41, mj_c42, mj_c43, mj_c44, mj_c45, mj_c46, mj_c47, mj_c48, mj_c49, mj_c50, mj_c51, mj_c52, mj_c53, mj_c54, mj_c55, mj_c56, mj_c57, mj_c58, mj_c59, mj_c60, mj_c61, mj_c62, mj_c63, mj_c64, mj_c65, mj_c66, mj_c67, mj_c68, mj_c69, mj_c70, mj_c71, mj_c72, mj_c73, mj_c74, mj_c75, mj_c76, mj_c77, mj_c78, mj_c79, mj_c80, mj_c81, mj_c82, mj_c83, mj_c84, mj_c85, mj_c86, mj_c87, mj_c88, mj_c89, mj_c90, mj_c91, mj_c92, mj_c93, mj_c94, mj_c95, mj_c96, mj_c97, mj_c98, mj_c99, mj_c100, mj_c101, mj_c102, mj_c103, mj_c104, mj_c105, mj_c106, mj_c107, mj_c108, mj_c109, mj_c110, mj_c111, mj_c112, mj_c113, mj_c114, mj_c115, mj_c116, mj_c117, mj_c118, mj_c119, mj_c120, mj_c121, mj_c122, mj_c123, mj_c124, mj_c125, mj_c126, mj_c127, mj_c128, mj_c129, mj_c130, mj_c131, mj_c132, mj_c133, mj_c134, mj_c135, mj_c136, mj_c137, mj_c138, mj_c139, mj_c140, mj_c141, mj_c142, mj_c143, mj_c144, mj_c145, mj_c146, mj_c147, mj_c148, mj_c149, mj_c150, mj_c151, mj_c152, mj_c153, mj_c154, mj_c155, mj_c156, mj_c157, mj_c158, mj_c159, mj_c160, mj_c161, mj_c162, mj_c163, mj_c164, mj_c165, mj_c166, mj_c167, mj_c168, mj_c169, mj_c170, mj_c171, mj_c172, mj_c173, mj_c174, mj_c175, mj_c176, mj_c177, mj_c178, mj_c179, mj_c180, mj_c181, mj_c182, mj_c183, mj_c184, mj_c185, mj_c186, mj_c187]
def mj_look : List (Nat × mj_MI × Nat) → Nat → Option (mj_MI × Nat)
  | [], _ => none
  | (p, x) :: r, pc => if p = pc then some x else mj_look r pc
def mj_cod (m pc : Nat) : Option (mj_MI × Nat) := mj_look (mj_cods.getD m []) pc
end
section
-- THE MINI MACHINE: the code of the claim run over integers, with cells by number (the n-th that was made), constants apart
abbrev mj_V : Type := Int ⊕ (Int64 ⊕ (Nat ⊕ Nat))
abbrev mj_L : Type := List (Option mj_V)
abbrev mj_K : Type := Nat ⊕ Option Nat
abbrev mj_S : Type := Nat × Nat × List mj_K
abbrev mj_Z : Type := List mj_S × (Nat → Nat → Int) × (Nat → Nat → Int64)
abbrev mj_A : Type := (Nat × mj_L × List mj_V × mj_Z) ⊕ (Option mj_V ⊕ (Nat × List mj_V × List mj_V))
abbrev mj_C : Type := Nat → Nat × (Nat → Int)
abbrev mj_rg (x : Int) : Prop := -2147483648 ≤ x ∧ x ≤ 2147483647
def mj_w1 : mj_V → Nat
  | .inr (.inl _) => 2
  | _ => 1
def mj_cat : List mj_V → Nat
  | [] => 0
  | v :: S => mj_w1 v + mj_cat S
def mj_mi (m : Nat) : mj_MT := mj_mt.getD m (0, "", "", ⟨#[]⟩, 0, none, 0, false)
def mj_ci (m : Nat) : Nat := (mj_mi m).1
def mj_yy (m : Nat) : MethodName := ⟨mj_own (mj_mi m).1, (mj_mi m).2.1, (mj_mi m).2.2.1⟩
def mj_bb (m : Nat) : ByteArray := (mj_mi m).2.2.2.1
def mj_ml (m : Nat) : Nat := (mj_mi m).2.2.2.2.1
def mj_rt (m : Nat) : Option FieldType := (mj_mi m).2.2.2.2.2.1
def mj_np (m : Nat) : Nat := (mj_mi m).2.2.2.2.2.2.1
def mj_st (m : Nat) : Bool := (mj_mi m).2.2.2.2.2.2.2
def mj_u {α : Type} (M : Nat → Nat → α) (a j : Nat) (v : α) : Nat → Nat → α := fun b k => if b = a ∧ k = j then v else M b k
def mj_go (pc : Nat) (L : mj_L) (S : List mj_V) (Z : mj_Z) : Option mj_A := some (.inl (pc, L, S, Z))
def mj_kill (L : mj_L) : Nat → mj_L
  | 0 => L
  | k + 1 => match L[k]? with
    | some (some (.inr (.inl _))) => L.set k none
    | _ => L
def mj_st1 (L : mj_L) (i : Nat) (v : mj_V) : mj_L := (mj_kill L i).set i (some v)
def mj_st2 (L : mj_L) (i : Nat) (v : mj_V) : mj_L := ((mj_kill L i).set i (some v)).set (i + 1) none
def mj_fk (h : List mj_S) (a ci j : Nat) : Option mj_K := match h[a]? with
  | some (0, c, ks) => if c = ci then ks[j]? else none
  | _ => none
def mj_al (h : List mj_S) (t a : Nat) : Option Nat := match h[a]? with
  | some (t' + 1, n, _) => if t' + 1 = t then some n else none
  | _ => none
def mj_len (h : List mj_S) (a : Nat) : Option Nat := match h[a]? with
  | some (t + 1, n, _) => if t < 4 then some n else none
  | _ => none
def mj_rr (h : List mj_S) (a i : Nat) : Option Nat := match h[a]? with
  | some (t + 3, n, ks) => if t < 2 ∧ i < n then (match ks[i]? with
    | some (.inr (some b)) => some b
    | _ => none) else none
  | _ => none
def mj_o1 (k nx : Nat) (L : mj_L) (S : List mj_V) (Z : mj_Z) : Option mj_A := match L[k]? with
  | some (some (.inl x)) => mj_go nx L (.inl x :: S) Z
  | _ => none
def mj_o2 (k nx : Nat) (L : mj_L) (S : List mj_V) (Z : mj_Z) : Option mj_A := match L[k]? with
  | some (some (.inr (.inr w))) => mj_go nx L (.inr (.inr w) :: S) Z
  | _ => none
def mj_o3 (k nx : Nat) (L : mj_L) (S : List mj_V) (Z : mj_Z) : Option mj_A := match L[k]? with
  | some (some (.inr (.inl x))) => mj_go nx L (.inr (.inl x) :: S) Z
  | _ => none
def mj_o4 (k nx : Nat) (L : mj_L) (S : List mj_V) (Z : mj_Z) : Option mj_A := match S with
  | .inl x :: S => if k < L.length then mj_go nx (mj_st1 L k (.inl x)) S Z else none
  | _ => none
def mj_o5 (k nx : Nat) (L : mj_L) (S : List mj_V) (Z : mj_Z) : Option mj_A := match S with
  | .inr (.inr w) :: S => if k < L.length then mj_go nx (mj_st1 L k (.inr (.inr w))) S Z else none
  | _ => none
def mj_o6 (k nx : Nat) (L : mj_L) (S : List mj_V) (Z : mj_Z) : Option mj_A := match S with
  | .inr (.inl x) :: S => if k + 1 < L.length then mj_go nx (mj_st2 L k (.inr (.inl x))) S Z else none
  | _ => none
def mj_o7 (n : Int) (k nx : Nat) (L : mj_L) (S : List mj_V) (Z : mj_Z) : Option mj_A := match L[k]? with
  | some (some (.inl x)) => if k < L.length then (if mj_rg (x + n) then mj_go nx (mj_st1 L k (.inl (x + n))) S Z else none) else none
  | _ => none
def mj_bin (f : Int → Int → Int) (nx : Nat) (L : mj_L) (S : List mj_V) (Z : mj_Z) : Option mj_A := match S with
  | .inl y :: .inl x :: S => if mj_rg (f x y) then mj_go nx L (.inl (f x y) :: S) Z else none
  | _ => none
def mj_dv (f : Int → Int → Int) (nx : Nat) (L : mj_L) (S : List mj_V) (Z : mj_Z) : Option mj_A := match S with
  | .inl y :: .inl x :: S => if 0 < y then mj_go nx L (.inl (f x y) :: S) Z else none
  | _ => none
def mj_neg (nx : Nat) (L : mj_L) (S : List mj_V) (Z : mj_Z) : Option mj_A := match S with
  | .inl x :: S => if mj_rg (-x) then mj_go nx L (.inl (-x) :: S) Z else none
  | _ => none
def mj_and (nx : Nat) (L : mj_L) (S : List mj_V) (Z : mj_Z) : Option mj_A := match S with
  | .inl y :: .inl x :: S => if y = 63 then mj_go nx L (.inl (x % 64) :: S) Z else if (y = 0 ∨ y = 1) ∧ (x = 0 ∨ x = 1) then mj_go nx L (.inl (x * y) :: S) Z else none
  | _ => none
def mj_get (ci j nx : Nat) (L : mj_L) (S : List mj_V) (Z : mj_Z) : Option mj_A := match S with
  | .inr (.inr (.inl a)) :: S => match mj_fk Z.1 a ci j with
    | some (.inl 1) => mj_go nx L (.inr (.inl (Z.2.2 a j)) :: S) Z
    | some (.inl _) => mj_go nx L (.inl (Z.2.1 a j) :: S) Z
    | some (.inr (some b)) => mj_go nx L (.inr (.inr (.inl b)) :: S) Z
    | _ => none
  | _ => none
def mj_put (q : Int) (ci j nx : Nat) (L : mj_L) (S : List mj_V) (Z : mj_Z) : Option mj_A := match S with
  | .inl v :: .inr (.inr (.inl a)) :: S => match mj_fk Z.1 a ci j with
    | some (.inl 0) => if q = 0 then mj_go nx L S (Z.1, mj_u Z.2.1 a j v, Z.2.2) else none
    | some (.inl 2) => if q = 2 then (if v = 0 ∨ v = 1 then mj_go nx L S (Z.1, mj_u Z.2.1 a j v, Z.2.2) else none) else none
    | _ => none
  | .inr (.inl v) :: .inr (.inr (.inl a)) :: S => match mj_fk Z.1 a ci j with
    | some (.inl 1) => if q = 1 then mj_go nx L S (Z.1, Z.2.1, mj_u Z.2.2 a j v) else none
    | _ => none
  | _ => none
def mj_putF (ci j nx : Nat) (L : mj_L) (S : List mj_V) (Z : mj_Z) : Option mj_A := match S with
  | .inr (.inr (.inl b)) :: .inr (.inr (.inl a)) :: S => match Z.1[a]? with
    | some (0, c, ks) => if c = ci then (match ks[j]? with
      | some (.inr _) => mj_go nx L S (Z.1.set a (0, c, ks.set j (.inr (some b))), Z.2)
      | _ => none) else none
    | _ => none
  | _ => none
def mj_iald (K : mj_C) (nx : Nat) (L : mj_L) (S : List mj_V) (Z : mj_Z) : Option mj_A := match S with
  | .inl i :: .inr (.inr (.inl a)) :: S => match mj_al Z.1 1 a with
    | some n => if 0 ≤ i ∧ i < n then mj_go nx L (.inl (Z.2.1 a i.toNat) :: S) Z else none
    | none => none
  | .inl i :: .inr (.inr (.inr k)) :: S => if k < 4 then (if 0 ≤ i ∧ i < (K k).1 then mj_go nx L (.inl ((K k).2 i.toNat) :: S) Z else none) else none
  | _ => none
def mj_iast (nx : Nat) (L : mj_L) (S : List mj_V) (Z : mj_Z) : Option mj_A := match S with
  | .inl v :: .inl i :: .inr (.inr (.inl a)) :: S => match mj_al Z.1 1 a with
    | some n => if 0 ≤ i ∧ i < n then mj_go nx L S (Z.1, mj_u Z.2.1 a i.toNat v, Z.2.2) else none
    | none => none
  | _ => none
def mj_lald (nx : Nat) (L : mj_L) (S : List mj_V) (Z : mj_Z) : Option mj_A := match S with
  | .inl i :: .inr (.inr (.inl a)) :: S => match mj_al Z.1 2 a with
    | some n => if 0 ≤ i ∧ i < n then mj_go nx L (.inr (.inl (Z.2.2 a i.toNat)) :: S) Z else none
    | none => none
  | _ => none
def mj_last (nx : Nat) (L : mj_L) (S : List mj_V) (Z : mj_Z) : Option mj_A := match S with
  | .inr (.inl v) :: .inl i :: .inr (.inr (.inl a)) :: S => match mj_al Z.1 2 a with
    | some n => if 0 ≤ i ∧ i < n then mj_go nx L S (Z.1, Z.2.1, mj_u Z.2.2 a i.toNat v) else none
    | none => none
  | _ => none
def mj_aald (nx : Nat) (L : mj_L) (S : List mj_V) (Z : mj_Z) : Option mj_A := match S with
  | .inl i :: .inr (.inr (.inl a)) :: S => if 0 ≤ i then (match mj_rr Z.1 a i.toNat with
    | some b => mj_go nx L (.inr (.inr (.inl b)) :: S) Z
    | none => none) else none
  | _ => none
def mj_aast (nx : Nat) (L : mj_L) (S : List mj_V) (Z : mj_Z) : Option mj_A := match S with
  | .inr (.inr (.inl b)) :: .inl i :: .inr (.inr (.inl a)) :: S => match Z.1[a]?, Z.1[b]? with
    | some (4, n, ks), some (0, 7, _) => if 0 ≤ i ∧ i < n ∧ i.toNat < ks.length then mj_go nx L S (Z.1.set a (4, n, ks.set i.toNat (.inr (some b))), Z.2) else none
    | _, _ => none
  | _ => none
def mj_alen (K : mj_C) (nx : Nat) (L : mj_L) (S : List mj_V) (Z : mj_Z) : Option mj_A := match S with
  | .inr (.inr (.inl a)) :: S => match mj_len Z.1 a with
    | some n => if n < 1000000 then mj_go nx L (.inl (n : Int) :: S) Z else none
    | none => none
  | .inr (.inr (.inr k)) :: S => if k < 4 then (if (K k).1 < 1000000 then mj_go nx L (.inl ((K k).1 : Int) :: S) Z else none) else none
  | _ => none
def mj_cmp (c : Nat) (x y : Int) : Prop := match c with
  | 0 => x = y
  | 1 => ¬ x = y
  | 2 => x < y
  | 3 => y ≤ x
  | 4 => y < x
  | _ => x ≤ y
def mj_br (c t nx : Nat) (x y : Int) (L : mj_L) (S : List mj_V) (Z : mj_Z) : Option mj_A := match c with
  | 0 => if x = y then mj_go t L S Z else mj_go nx L S Z
  | 1 => if x = y then mj_go nx L S Z else mj_go t L S Z
  | 2 => if x < y then mj_go t L S Z else mj_go nx L S Z
  | 3 => if x < y then mj_go nx L S Z else mj_go t L S Z
  | 4 => if y < x then mj_go t L S Z else mj_go nx L S Z
  | 5 => if y < x then mj_go nx L S Z else mj_go t L S Z
  | _ => none
def mj_if (c t nx : Nat) (L : mj_L) (S : List mj_V) (Z : mj_Z) : Option mj_A := match S with
  | .inl x :: S => mj_br c t nx x 0 L S Z
  | _ => none
def mj_ic (c t nx : Nat) (L : mj_L) (S : List mj_V) (Z : mj_Z) : Option mj_A := match S with
  | .inl y :: .inl x :: S => mj_br c t nx x y L S Z
  | _ => none
def mj_sw (x : Int) (d : Nat) (L : mj_L) (S : List mj_V) (Z : mj_Z) : List (Int × Nat) → Option mj_A
  | [] => mj_go d L S Z
  | (k, t) :: r => if x = k then mj_go t L S Z else mj_sw x d L S Z r
def mj_swi (tb : List (Int × Nat)) (d : Nat) (L : mj_L) (S : List mj_V) (Z : mj_Z) : Option mj_A := match S with
  | .inl x :: S => mj_sw x d L S Z tb
  | _ => none
def mj_rt0 (S : List mj_V) : Option mj_A := match S with
  | [] => some (.inr (.inl none))
  | _ => none
def mj_rti (b : Nat) (S : List mj_V) : Option mj_A := match S with
  | [.inl x] => if b = 0 then some (.inr (.inl (some (.inl x)))) else if x = 0 ∨ x = 1 then some (.inr (.inl (some (.inl x)))) else none
  | _ => none
def mj_rtl (S : List mj_V) : Option mj_A := match S with
  | [.inr (.inl x)] => some (.inr (.inl (some (.inr (.inl x)))))
  | _ => none
def mj_rta (S : List mj_V) : Option mj_A := match S with
  | [.inr (.inr w)] => some (.inr (.inl (some (.inr (.inr w)))))
  | _ => none
def mj_rcv (k m' : Nat) (h : List mj_S) (as : List mj_V) : Bool := if k = 1 then true else match as with
  | .inr (.inr (.inl a)) :: _ => match h[a]? with
    | some (0, c, _) => c == mj_ci m'
    | _ => false
  | _ => false
def mj_nar (m' k : Nat) : Nat := mj_np m' + (if k = 1 then 0 else 1)
def mj_inv (m' k : Nat) (S : List mj_V) (Z : mj_Z) : Option mj_A :=
  if mj_nar m' k ≤ S.length ∧ mj_cat (S.drop (mj_nar m' k)) ≤ 8 ∧ mj_rcv k m' Z.1 (S.take (mj_nar m' k)).reverse = true then some (.inr (.inr (m', (S.take (mj_nar m' k)).reverse, S.drop (mj_nar m' k)))) else none
def mj_mx (f : Int → Int → Int) (nx : Nat) (L : mj_L) (S : List mj_V) (Z : mj_Z) : Option mj_A := match S with
  | .inl y :: .inl x :: S => if mj_cat S ≤ 8 then mj_go nx L (.inl (f x y) :: S) Z else none
  | _ => none
def mj_cpy {α : Type} (M : Nat → Nat → α) (a i b j n : Nat) : Nat → Nat → α := fun c k => if c = b ∧ j ≤ k ∧ k < j + n then M a (i + (k - j)) else M c k
def mj_acp (nx : Nat) (L : mj_L) (S : List mj_V) (Z : mj_Z) : Option mj_A := match S with
  | .inl n :: .inl j :: .inr (.inr (.inl b)) :: .inl i :: .inr (.inr (.inl a)) :: S =>
    if mj_cat S ≤ 8 then (match mj_al Z.1 1 a, mj_al Z.1 1 b, mj_al Z.1 2 a, mj_al Z.1 2 b with
    | some na, some nb, _, _ => if 0 ≤ i ∧ 0 ≤ j ∧ 0 ≤ n ∧ i + n ≤ na ∧ j + n ≤ nb then mj_go nx L S (Z.1, mj_cpy Z.2.1 a i.toNat b j.toNat n.toNat, Z.2.2) else none
    | _, _, some na, some nb => if 0 ≤ i ∧ 0 ≤ j ∧ 0 ≤ n ∧ i + n ≤ na ∧ j + n ≤ nb then mj_go nx L S (Z.1, Z.2.1, mj_cpy Z.2.2 a i.toNat b j.toNat n.toNat) else none
    | _, _, _, _ => none) else none
  | _ => none
def mj_k0 (ci : Nat) : List mj_K := (mj_fT.getD ci []).map fun f => if f.2.1 = "I" then .inl 0 else if f.2.1 = "J" then .inl 1 else if f.2.1 = "Z" then .inl 2 else .inr none
def mj_zr {α : Type} (M : Nat → Nat → α) (n : Nat) (z : α) : Nat → Nat → α := fun b k => if n ≤ b then z else M b k
def mj_new (ci nx : Nat) (L : mj_L) (S : List mj_V) (Z : mj_Z) : Option mj_A := mj_go nx L (.inr (.inr (.inl Z.1.length)) :: S) (Z.1 ++ [(0, ci, mj_k0 ci)], mj_zr Z.2.1 Z.1.length 0, mj_zr Z.2.2 Z.1.length 0)
def mj_nwa (t nx : Nat) (L : mj_L) (S : List mj_V) (Z : mj_Z) : Option mj_A := match S with
  | .inl n :: S => if 0 ≤ n ∧ n ≤ 100000 then mj_go nx L (.inr (.inr (.inl Z.1.length)) :: S) (Z.1 ++ [(t, n.toNat, [])], mj_zr Z.2.1 Z.1.length 0, mj_zr Z.2.2 Z.1.length 0) else none
  | _ => none
def mj_nwr (nx : Nat) (L : mj_L) (S : List mj_V) (Z : mj_Z) : Option mj_A := match S with
  | .inl n :: S => if 0 ≤ n ∧ n ≤ 100000 then mj_go nx L (.inr (.inr (.inl Z.1.length)) :: S) (Z.1 ++ [(4, n.toNat, List.replicate n.toNat (.inr none))], mj_zr Z.2.1 Z.1.length 0, mj_zr Z.2.2 Z.1.length 0) else none
  | _ => none
def mj_nwm (nx : Nat) (L : mj_L) (S : List mj_V) (Z : mj_Z) : Option mj_A := match S with
  | .inl k :: .inl n :: S => if 0 ≤ n ∧ n ≤ 1000 ∧ 0 ≤ k ∧ k ≤ 1000 then mj_go nx L (.inr (.inr (.inl Z.1.length)) :: S) (Z.1 ++ (3, n.toNat, (List.range n.toNat).map (fun i => .inr (some (Z.1.length + 1 + i)))) :: List.replicate n.toNat (1, k.toNat, []), mj_zr Z.2.1 Z.1.length 0, mj_zr Z.2.2 Z.1.length 0) else none
  | _ => none
def mj_dup (nx : Nat) (L : mj_L) (S : List mj_V) (Z : mj_Z) : Option mj_A := match S with
  | v :: S => if mj_w1 v = 1 then mj_go nx L (v :: v :: S) Z else none
  | _ => none
def mj_dup2 (nx : Nat) (L : mj_L) (S : List mj_V) (Z : mj_Z) : Option mj_A := match S with
  | v :: w :: S => if mj_w1 v = 1 ∧ mj_w1 w = 1 then mj_go nx L (v :: w :: v :: w :: S) Z else none
  | _ => none
def mj_dupx (nx : Nat) (L : mj_L) (S : List mj_V) (Z : mj_Z) : Option mj_A := match S with
  | v :: w :: S => if mj_w1 v = 1 ∧ mj_w1 w = 1 then mj_go nx L (v :: w :: v :: S) Z else none
  | _ => none
def mj_pop (nx : Nat) (L : mj_L) (S : List mj_V) (Z : mj_Z) : Option mj_A := match S with
  | v :: S => if mj_w1 v = 1 then mj_go nx L S Z else none
  | _ => none
def mj_i2 (f : Int32 → mj_V) (nx : Nat) (L : mj_L) (S : List mj_V) (Z : mj_Z) : Option mj_A := match S with
  | .inl x :: S => mj_go nx L (f (Int32.ofInt x) :: S) Z
  | _ => none
def mj_l2 (nx : Nat) (L : mj_L) (S : List mj_V) (Z : mj_Z) : Option mj_A := match S with
  | .inr (.inl x) :: S => mj_go nx L (.inl x.toInt32.toInt :: S) Z
  | _ => none
def mj_lbin (f : Int64 → Int64 → Int64) (nx : Nat) (L : mj_L) (S : List mj_V) (Z : mj_Z) : Option mj_A := match S with
  | .inr (.inl y) :: .inr (.inl x) :: S => mj_go nx L (.inr (.inl (f x y)) :: S) Z
  | _ => none
def mj_ldv (f : Int64 → Int64 → Int64) (nx : Nat) (L : mj_L) (S : List mj_V) (Z : mj_Z) : Option mj_A := match S with
  | .inr (.inl y) :: .inr (.inl x) :: S => if y = 0 then none else mj_go nx L (.inr (.inl (f x y)) :: S) Z
  | _ => none
def mj_lsh (nx : Nat) (L : mj_L) (S : List mj_V) (Z : mj_Z) : Option mj_A := match S with
  | .inl y :: .inr (.inl x) :: S => mj_go nx L (.inr (.inl (x <<< ((Int32.ofInt y).toInt64 &&& 63))) :: S) Z
  | _ => none
def mj_lcm (nx : Nat) (L : mj_L) (S : List mj_V) (Z : mj_Z) : Option mj_A := match S with
  | .inr (.inl y) :: .inr (.inl x) :: S => mj_go nx L (.inl (if x > y then 1 else if x = y then 0 else -1) :: S) Z
  | _ => none
def mj_oin (nx : Nat) (L : mj_L) (S : List mj_V) (Z : mj_Z) : Option mj_A := match S with
  | .inr (.inr (.inl _)) :: S => if mj_cat S ≤ 8 then mj_go nx L S Z else none
  | _ => none
def mj_i8 (x : Int32) : mj_V := .inl x.toInt8.toInt32.toInt
def mj_i16 (x : Int32) : mj_V := .inl x.toInt16.toInt32.toInt
def mj_i64 (x : Int32) : mj_V := .inr (.inl x.toInt64)
def mj_step (K : mj_C) (nx : Nat) (mi : mj_MI) (L : mj_L) (S : List mj_V) (Z : mj_Z) : Option mj_A := match mi with
  | (op, n, a, b, tb) => match op with
    | 0 => mj_go nx L (.inl n :: S) Z
    | 1 => mj_o1 a nx L S Z
    | 2 => mj_o2 a nx L S Z
    | 3 => mj_o3 a nx L S Z
    | 4 => mj_o4 a nx L S Z
    | 5 => mj_o5 a nx L S Z
    | 6 => mj_o6 a nx L S Z
    | 7 => mj_o7 n a nx L S Z
    | 8 => mj_bin (fun x y => x + y) nx L S Z
    | 9 => mj_bin (fun x y => x - y) nx L S Z
    | 10 => mj_bin (fun x y => x * y) nx L S Z
    | 11 => mj_dv (fun x y => x.tdiv y) nx L S Z
    | 12 => mj_dv (fun x y => x.tmod y) nx L S Z
    | 13 => mj_neg nx L S Z
    | 14 => mj_and nx L S Z
    | 15 => mj_get a b nx L S Z
    | 16 => mj_put n a b nx L S Z
    | 17 => mj_iald K nx L S Z
    | 18 => mj_iast nx L S Z
    | 19 => mj_lald nx L S Z
    | 20 => mj_last nx L S Z
    | 21 => mj_aald nx L S Z
    | 22 => mj_aast nx L S Z
    | 23 => mj_alen K nx L S Z
    | 24 => mj_if b a nx L S Z
    | 25 => mj_ic b a nx L S Z
    | 26 => mj_go a L S Z
    | 27 => mj_swi tb a L S Z
    | 28 => mj_rt0 S
    | 29 => mj_rti b S
    | 30 => mj_rtl S
    | 31 => mj_rta S
    | 32 => mj_inv a b S Z
    | 33 => mj_mx (fun x y => max x y) nx L S Z
    | 34 => mj_mx (fun x y => min x y) nx L S Z
    | 35 => mj_acp nx L S Z
    | 36 => mj_new a nx L S Z
    | 37 => mj_nwa 1 nx L S Z
    | 38 => mj_nwa 2 nx L S Z
    | 39 => mj_nwr nx L S Z
    | 40 => mj_nwm nx L S Z
    | 41 => mj_dup nx L S Z
    | 42 => mj_dup2 nx L S Z
    | 43 => mj_dupx nx L S Z
    | 44 => mj_pop nx L S Z
    | 45 => mj_i2 mj_i64 nx L S Z
    | 46 => mj_l2 nx L S Z
    | 47 => mj_i2 mj_i8 nx L S Z
    | 48 => mj_i2 mj_i16 nx L S Z
    | 49 => mj_go nx L (.inr (.inl (Int64.ofInt n)) :: S) Z
    | 50 => mj_lbin (fun x y => x + y) nx L S Z
    | 51 => mj_lbin (fun x y => x - y) nx L S Z
    | 52 => mj_lbin (fun x y => x * y) nx L S Z
    | 53 => mj_ldv (fun x y => x / y) nx L S Z
    | 54 => mj_ldv (fun x y => x - x / y * y) nx L S Z
    | 55 => mj_lbin (fun x y => x &&& y) nx L S Z
    | 56 => mj_lbin (fun x y => x ||| y) nx L S Z
    | 57 => mj_lsh nx L S Z
    | 58 => mj_lcm nx L S Z
    | 59 => mj_go nx L (.inr (.inr (.inr a)) :: S) Z
    | 60 => mj_oin nx L S Z
    | 62 => mj_putF a b nx L S Z
    | _ => none
def mj_lay : List mj_V → mj_L
  | [] => []
  | .inr (.inl x) :: vs => some (.inr (.inl x)) :: none :: mj_lay vs
  | v :: vs => some v :: mj_lay vs
def mj_ent (m : Nat) (as : List mj_V) : mj_L := mj_lay as ++ List.replicate (mj_ml m - (mj_lay as).length) none
/-- n: steps, d: depth of calls -/
def mj_run (K : mj_C) : Nat → Nat → Nat → Nat → mj_L → List mj_V → mj_Z → Option (Option mj_V × mj_Z)
  | 0, _, _, _, _, _, _ => none
  | n + 1, d, m, pc, L, S, Z => match mj_cod m pc with
    | none => none
    | some (mi, nx) => match mj_step K nx mi L S Z with
      | none => none
      | some (.inl (pc', L', S', Z')) => mj_run K n d m pc' L' S' Z'
      | some (.inr (.inl r)) => some (r, Z)
      | some (.inr (.inr (m', as, S'))) => match d with
        | 0 => none
        | d' + 1 => if (mj_lay as).length ≤ mj_ml m' then (match mj_run K n d' m' 0 (mj_ent m' as) [] Z with
          | none => none
          | some (r, Z') => mj_run K n d m nx L (r.toList ++ S') Z') else none
theorem mj_run_mono (K : mj_C) : ∀ (n n' d d' m pc : Nat) (L : mj_L) (S : List mj_V) (Z : mj_Z) (x : Option mj_V × mj_Z), n ≤ n' → d ≤ d' → mj_run K n d m pc L S Z = some x → mj_run K n' d' m pc L S Z = some x := by
  intro n
  induction n with
  | zero => intro n' d d' m pc L S Z x _ _ h; simp [mj_run] at h
  | succ n ih =>
    intro n' d d' m pc L S Z x hn hd h
    obtain ⟨k, rfl⟩ : ∃ k, n' = k + 1 := ⟨n' - 1, by omega⟩
    have hk : n ≤ k := by omega
    rw [mj_run] at h ⊢
    cases hc : mj_cod m pc with
    | none => rw [hc] at h; simp at h
    | some q =>
      obtain ⟨mi, nx⟩ := q
      rw [hc] at h
      simp only at h ⊢
      cases hs : mj_step K nx mi L S Z with
      | none => rw [hs] at h; simp at h
      | some a =>
        rw [hs] at h
        rcases a with ⟨pc', L', S', Z'⟩ | r | ⟨m', as, S'⟩
        · simp only at h ⊢
          exact ih k d d' m pc' L' S' Z' x hk hd h
        · exact h
        · simp only at h ⊢
          cases d with
          | zero => simp at h
          | succ d =>
            obtain ⟨e, rfl⟩ : ∃ e, d' = e + 1 := ⟨d' - 1, by omega⟩
            simp only at h ⊢
            by_cases hl : (mj_lay as).length ≤ mj_ml m'
            · rw [if_pos hl] at h ⊢
              cases hr : mj_run K n d m' 0 (mj_ent m' as) [] Z with
              | none => rw [hr] at h; simp at h
              | some y =>
                obtain ⟨r, Z'⟩ := y
                rw [hr] at h
                rw [ih k d e m' 0 _ _ _ _ hk (by omega) hr]
                exact ih k (d + 1) (e + 1) m nx L _ Z' x hk hd h
            · rw [if_neg hl] at h; simp at h
/-- from here it returns, and what comes back is as Q says -/
def mj_T (K : mj_C) (d m pc : Nat) (L : mj_L) (S : List mj_V) (Z : mj_Z) (Q : Option mj_V → mj_Z → Prop) : Prop := ∃ (n : Nat) (r : Option mj_V) (Z' : mj_Z), mj_run K n d m pc L S Z = some (r, Z') ∧ Q r Z'
/-- a call, from its entry -/
def mj_X (K : mj_C) (d m : Nat) (as : List mj_V) (Z : mj_Z) (Q : Option mj_V → mj_Z → Prop) : Prop := mj_T K d m 0 (mj_ent m as) [] Z Q
theorem mj_T_deep {K : mj_C} {d d' m pc : Nat} {L : mj_L} {S : List mj_V} {Z : mj_Z} {Q : Option mj_V → mj_Z → Prop} (hd : d ≤ d') (h : mj_T K d m pc L S Z Q) : mj_T K d' m pc L S Z Q := by
  obtain ⟨n, r, Z', h1, h2⟩ := h
  exact ⟨n, r, Z', mj_run_mono K n n d d' m pc L S Z _ (Nat.le_refl _) hd h1, h2⟩
theorem mj_T_post {K : mj_C} {d m pc : Nat} {L : mj_L} {S : List mj_V} {Z : mj_Z} {Q Q' : Option mj_V → mj_Z → Prop} (h : mj_T K d m pc L S Z Q) (hq : ∀ r Z', Q r Z' → Q' r Z') : mj_T K d m pc L S Z Q' := by
  obtain ⟨n, r, Z', h1, h2⟩ := h
  exact ⟨n, r, Z', h1, hq r Z' h2⟩
def mj_bd (κ : Nat → mj_L → List mj_V → mj_Z → Prop) (ρ : Option mj_V → Prop) : Option mj_A → Prop
  | some (.inl (pc, L, S, Z)) => κ pc L S Z
  | some (.inr (.inl r)) => ρ r
  | _ => False
/-- n instructions at most, every way, up to a stop, a call or the return -/
def mj_wp (K : mj_C) (m : Nat) (st : List Nat) (κ : Nat → mj_L → List mj_V → mj_Z → Prop) (ρ : Option mj_V → mj_Z → Prop) : Nat → Nat → mj_L → List mj_V → mj_Z → Prop
  | 0, pc, L, S, Z => κ pc L S Z
  | n + 1, pc, L, S, Z => match mj_cod m pc with
    | none => False
    | some ((32, _), _) => κ pc L S Z
    | some (mi, nx) => mj_bd (fun pc' L' S' Z' => if pc' ∈ st then κ pc' L' S' Z' else mj_wp K m st κ ρ n pc' L' S' Z') (fun r => ρ r Z) (mj_step K nx mi L S Z)
theorem mj_wp_ok {K : mj_C} {m : Nat} {st : List Nat} {d : Nat} {Q : Option mj_V → mj_Z → Prop} : ∀ (n pc : Nat) (L : mj_L) (S : List mj_V) (Z : mj_Z), mj_wp K m st (fun pc L S Z => mj_T K d m pc L S Z Q) Q n pc L S Z → mj_T K d m pc L S Z Q := by
  intro n
  induction n with
  | zero => intro pc L S Z h; exact h
  | succ n ih =>
    intro pc L S Z h
    rw [mj_wp] at h
    cases hc : mj_cod m pc with
    | none => rw [hc] at h; exact h.elim
    | some q =>
      obtain ⟨mi, nx⟩ := q
      rw [hc] at h
      have key : mj_bd (fun pc' L' S' Z' => if pc' ∈ st then mj_T K d m pc' L' S' Z' Q else mj_wp K m st (fun pc L S Z => mj_T K d m pc L S Z Q) Q n pc' L' S' Z') (fun r => Q r Z) (mj_step K nx mi L S Z) → mj_T K d m pc L S Z Q := by
        intro h
        cases hs : mj_step K nx mi L S Z with
        | none => rw [hs] at h; exact h.elim
        | some a =>
          rw [hs] at h
          rcases a with ⟨pc', L', S', Z'⟩ | r | ⟨m', as, S'⟩
          · have h1 : mj_T K d m pc' L' S' Z' Q := by
              simp only [mj_bd] at h
              split at h
              · exact h
              · exact ih _ _ _ _ h
            obtain ⟨k, r, Z1, h2, h3⟩ := h1
            refine ⟨k + 1, r, Z1, ?_, h3⟩
            rw [mj_run, hc]
            simp only [hs]
            exact h2
          · refine ⟨1, r, Z, ?_, h⟩
            rw [mj_run, hc]
            simp only [hs]
          · exact h.elim
      obtain ⟨op, mr⟩ := mi
      by_cases h32 : op = 32
      · subst h32
        exact h
      · refine key ?_
        split at h
        · cases ‹some _ = none›
        · rename_i he
          cases he
          exact absurd rfl h32
        · rename_i he
          cases he
          exact h
theorem mj_go_on {K : mj_C} {d m pc : Nat} {L : mj_L} {S : List mj_V} {Z : mj_Z} {Q : Option mj_V → mj_Z → Prop} (n : Nat) (st : List Nat) (h : mj_wp K m st (fun pc L S Z => mj_T K d m pc L S Z Q) Q n pc L S Z) : mj_T K d m pc L S Z Q := mj_wp_ok n pc L S Z h
theorem mj_call {K : mj_C} {d d' m pc m' k nx : Nat} {n0 : Int} {tb : List (Int × Nat)} {L : mj_L} {S S' as : List mj_V} {Z : mj_Z} {Q Q' : Option mj_V → mj_Z → Prop} (hX : mj_X K d' m' as Z Q') (hd : d' ≤ d) (hc : mj_cod m pc = some ((32, n0, m', k, tb), nx)) (hS : S = as.reverse ++ S') (hn : as.length = mj_nar m' k) (hcat : mj_cat S' ≤ 8) (hr : mj_rcv k m' Z.1 as = true) (hl : (mj_lay as).length ≤ mj_ml m')
    (kk : ∀ r Z', Q' r Z' → mj_T K (d + 1) m nx L (r.toList ++ S') Z' Q) : mj_T K (d + 1) m pc L S Z Q := by
  obtain ⟨n1, r, Z1, h1, h2⟩ := mj_T_deep hd hX
  obtain ⟨n2, r2, Z2, h3, h4⟩ := kk r Z1 h2
  have hdrop : S.drop (mj_nar m' k) = S' := by rw [hS, ← hn, ← List.length_reverse]; simp
  have htake : (S.take (mj_nar m' k)).reverse = as := by rw [hS, ← hn, ← List.length_reverse]; simp
  have hle : mj_nar m' k ≤ S.length := by rw [hS, ← hn]; simp
  refine ⟨max n1 n2 + 1, r2, Z2, ?_, h4⟩
  rw [mj_run, hc]
  have hs : mj_step K nx (32, n0, m', k, tb) L S Z = some (.inr (.inr (m', as, S'))) := by
    show mj_inv m' k S Z = _
    unfold mj_inv
    rw [hdrop, htake, if_pos ⟨hle, hcat, hr⟩]
  simp only [hs]
  rw [if_pos hl, mj_run_mono K n1 _ d d m' 0 _ _ _ _ (Nat.le_max_left _ _) (Nat.le_refl _) h1]
  exact mj_run_mono K n2 _ _ _ _ _ _ _ _ _ (Nat.le_max_right _ _) (Nat.le_refl _) h3
end
section
-- what the tables say of the links, the classes and the methods
def mj_TT (ci : Nat) : u_T := fun k => (mj_own ci, (mj_fT.getD ci []).getD k ("", "", false))
def mj_NN (ci : Nat) : Nat := (mj_fT.getD ci []).length
def mj_tT (ci : Nat) (k : Nat) : FieldType := (parseFieldDescriptor (mj_TT ci k).2.2.1).getD .int
def mj_cl : List vw_C := (List.range 10).map fun ci => (mj_own ci, mj_TT ci, mj_NN ci)
def mj_gt : List Cond := lw_tbl.filter goodWord
def mj_ws (m : Nat) : List Cond := Cond.code (mj_yy m) (mj_bb m) (mj_ml m) (mj_rt m) :: mj_gt
theorem mj_cl_at {ci : Nat} (h : ci < 10) : mj_cl[ci]? = some (mj_own ci, mj_TT ci, mj_NN ci) := by
  unfold mj_cl
  rw [List.getElem?_map, List.getElem?_range h]
  rfl
theorem mj_cl_of {ci : Nat} {q : vw_C} (h : mj_cl[ci]? = some q) : ci < 10 ∧ q = (mj_own ci, mj_TT ci, mj_NN ci) := by
  have hl : ci < 10 := by
    have := (List.getElem?_eq_some_iff.mp h).1
    simpa [mj_cl] using this
  rw [mj_cl_at hl] at h
  exact ⟨hl, (Option.some.inj h).symm⟩
theorem mj_in {w : Cond} {i : Nat} (h : tables_1[i]? = some w) (g : goodWord w = true) : w ∈ mj_gt :=
  List.mem_filter.mpr ⟨List.mem_append_right _ (List.mem_of_getElem? h), g⟩
theorem mj_inL {w : Cond} {i : Nat} (h : lw_tbl[i]? = some w) (g : goodWord w = true) : w ∈ mj_gt :=
  List.mem_filter.mpr ⟨List.mem_of_getElem? h, g⟩
theorem mj_ws_of {m : Nat} {w : Cond} (h : w ∈ mj_gt) : w ∈ mj_ws m := List.mem_cons_of_mem _ h
theorem mj_gt_good : ∀ w ∈ mj_gt, goodWord w = true := fun w h => (List.mem_filter.mp h).2
theorem mj_fL_ok : ∀ x ∈ mj_fL, x.2.2.1 < 10 ∧ x.2.2.2.1 < mj_NN x.2.2.1 ∧ tables_1[x.2.2.2.2]? = some (Cond.fieldLink (mj_own x.1) x.2.1 (mj_own x.2.2.1) (mj_TT x.2.2.1 x.2.2.2.1).2.1 (mj_TT x.2.2.1 x.2.2.2.1).2.2.1) := by decide +kernel
def mj_sN (k : Nat) : String := if k = 1 then "LEAST" else if k = 2 then "MOST" else "MOST_SETTING"
theorem mj_sL_ok : ∀ x ∈ mj_sL, 1 ≤ x.2.2.1 ∧ x.2.2.1 < 4 ∧ tables_1[x.2.2.2.2]? = some (if x.2.2.2.1 = 0 then Cond.fieldLink (mj_own x.1) x.2.1 "PermitBank" (mj_sN x.2.2.1) "[I" else Cond.fieldLinkNest (mj_own x.1) x.2.1 "PermitBank" (mj_sN x.2.2.1) "[I" "PermitBank") := by decide +kernel
def mj_sp (t : Nat) : MethodName := if t = 1000 then Lib.Math.max.name else if t = 1001 then Lib.Math.min.name else if t = 1002 then arraycopyName else if t = 1003 then objectInit else mj_yy t
theorem mj_mL_ok : ∀ x ∈ mj_mL, tables_1[x.2.2.2.2]? = some (if x.2.2.2.1 = 0 then Cond.methodLink (mj_own x.1) x.2.1 (mj_sp x.2.2.1) else Cond.methodLinkNest (mj_own x.1) x.2.1 (mj_sp x.2.2.1) "PermitBank") ∧ (x.2.2.1 < 187 ∨ 1000 ≤ x.2.2.1) := by decide +kernel
theorem mj_cL_ok : ∀ x ∈ mj_cL, tables_1[x.2.2.2]? = some (Cond.classLink (mj_own x.1) x.2.1 x.2.2.1) := by decide +kernel
theorem mj_lL_ok : ∀ x ∈ mj_lL, tables_1[x.2.2.2]? = some (Cond.constantLong (mj_own x.1) x.2.1 (Int64.ofInt x.2.2.1)) := by decide +kernel
theorem mj_uP_ok : ∀ ci, ci < 10 → ∀ k, k < mj_NN ci → tables_1[(mj_fP.getD ci []).getD k 0]? = some (u_lay (mj_own ci) (mj_TT ci) k) ∧ goodWord (u_lay (mj_own ci) (mj_TT ci) k) = true := by decide +kernel
theorem mj_uin {ci : Nat} (h : ci < 10) : ∀ w ∈ u_ws (mj_own ci) (mj_TT ci) (mj_NN ci), w ∈ mj_gt := by
  intro w hw
  obtain ⟨k, hk, rfl⟩ := List.mem_map.mp hw
  obtain ⟨h1, h2⟩ := mj_uP_ok ci h k (List.mem_range.mp hk)
  exact mj_in h1 h2
theorem mj_tT_ok : ∀ ci, ci < 10 → ∀ k, k < mj_NN ci → parseFieldDescriptor (mj_TT ci k).2.2.1 = some (mj_tT ci k) := by decide +kernel
theorem mj_nm_ok : ∀ ci, ci < 10 → ∀ a, a < mj_NN ci → ∀ b, b < mj_NN ci → a ≠ b → (mj_TT ci a).2.1 ≠ (mj_TT ci b).2.1 := by decide +kernel
theorem mj_ins : ∀ ci, ci < 10 → tables_1[mj_iP.getD ci 0]? = some (Cond.instantiable (mj_own ci) (mj_NN ci)) ∧ tables_1[mj_nP.getD ci 0]? = some (Cond.initialized (mj_own ci)) := by decide +kernel
def mj_mtP (m : Nat) : Prop := mj_ci m < 10 ∧ mj_ml m ≤ 12 ∧ plainName (mj_own (mj_ci m)) = true ∧ tables_1[mj_tP.getD m 0]? = some (if mj_st m = true then Cond.static (mj_yy m) else Cond.instanceMethod (mj_yy m)) ∧
    (mj_own (mj_ci m) ≠ "java/lang/invoke/MethodHandle" ∧ mj_own (mj_ci m) ≠ "java/lang/invoke/VarHandle") ∧ (parseMethodDescriptor (mj_yy m).desc).map (fun d => d.parameters.length) = some (mj_np m)
theorem mj_mtO0 : ∀ k, k < 24 → mj_mtP (0 + k) := by unfold mj_mtP; decide +kernel
theorem mj_mtO1 : ∀ k, k < 24 → mj_mtP (24 + k) := by unfold mj_mtP; decide +kernel
theorem mj_mtO2 : ∀ k, k < 24 → mj_mtP (48 + k) := by unfold mj_mtP; decide +kernel
theorem mj_mtO3 : ∀ k, k < 24 → mj_mtP (72 + k) := by unfold mj_mtP; decide +kernel
theorem mj_mtO4 : ∀ k, k < 24 → mj_mtP (96 + k) := by unfold mj_mtP; decide +kernel
theorem mj_mtO5 : ∀ k, k < 24 → mj_mtP (120 + k) := by unfold mj_mtP; decide +kernel
theorem mj_mtO6 : ∀ k, k < 24 → mj_mtP (144 + k) := by unfold mj_mtP; decide +kernel
theorem mj_mtO7 : ∀ k, k < 19 → mj_mtP (168 + k) := by unfold mj_mtP; decide +kernel
theorem mj_mt_ok : ∀ m, m < 187 → mj_mtP m := by
  intro m hm
  rcases Nat.lt_or_ge m 24 with h0 | h0
  · have := mj_mtO0 (m - 0) (by omega)
    rwa [show 0 + (m - 0) = m by omega] at this
  rcases Nat.lt_or_ge m 48 with h1 | h1
  · have := mj_mtO1 (m - 24) (by omega)
    rwa [show 24 + (m - 24) = m by omega] at this
  rcases Nat.lt_or_ge m 72 with h2 | h2
  · have := mj_mtO2 (m - 48) (by omega)
    rwa [show 48 + (m - 48) = m by omega] at this
  rcases Nat.lt_or_ge m 96 with h3 | h3
  · have := mj_mtO3 (m - 72) (by omega)
    rwa [show 72 + (m - 72) = m by omega] at this
  rcases Nat.lt_or_ge m 120 with h4 | h4
  · have := mj_mtO4 (m - 96) (by omega)
    rwa [show 96 + (m - 96) = m by omega] at this
  rcases Nat.lt_or_ge m 144 with h5 | h5
  · have := mj_mtO5 (m - 120) (by omega)
    rwa [show 120 + (m - 120) = m by omega] at this
  rcases Nat.lt_or_ge m 168 with h6 | h6
  · have := mj_mtO6 (m - 144) (by omega)
    rwa [show 144 + (m - 144) = m by omega] at this
  have := mj_mtO7 (m - 168) (by omega)
  rwa [show 168 + (m - 168) = m by omega] at this
def mj_cwP (m : Nat) : Prop := tables_1[mj_cP.getD m 0]? = some (Cond.code (mj_yy m) (mj_bb m) (mj_ml m) (mj_rt m))
set_option maxRecDepth 100000 in
theorem mj_cw0 : mj_cwP 0 := rfl
set_option maxRecDepth 100000 in
theorem mj_cw1 : mj_cwP 1 := rfl
set_option maxRecDepth 100000 in
theorem mj_cw2 : mj_cwP 2 := rfl
set_option maxRecDepth 100000 in
theorem mj_cw3 : mj_cwP 3 := rfl
set_option maxRecDepth 100000 in
theorem mj_cw4 : mj_cwP 4 := rfl
set_option maxRecDepth 100000 in
theorem mj_cw5 : mj_cwP 5 := rfl
set_option maxRecDepth 100000 in
theorem mj_cw6 : mj_cwP 6 := rfl
set_option maxRecDepth 100000 in
theorem mj_cw7 : mj_cwP 7 := rfl
set_option maxRecDepth 100000 in
theorem mj_cw8 : mj_cwP 8 := rfl
set_option maxRecDepth 100000 in
theorem mj_cw9 : mj_cwP 9 := rfl
set_option maxRecDepth 100000 in
theorem mj_cw10 : mj_cwP 10 := rfl
set_option maxRecDepth 100000 in
theorem mj_cw11 : mj_cwP 11 := rfl
set_option maxRecDepth 100000 in
theorem mj_cw12 : mj_cwP 12 := rfl
set_option maxRecDepth 100000 in
theorem mj_cw13 : mj_cwP 13 := rfl
set_option maxRecDepth 100000 in
theorem mj_cw14 : mj_cwP 14 := rfl
set_option maxRecDepth 100000 in
theorem mj_cw15 : mj_cwP 15 := rfl
set_option maxRecDepth 100000 in
theorem mj_cw16 : mj_cwP 16 := rfl
set_option maxRecDepth 100000 in
theorem mj_cw17 : mj_cwP 17 := rfl
set_option maxRecDepth 100000 in
theorem mj_cw18 : mj_cwP 18 := rfl
set_option maxRecDepth 100000 in
theorem mj_cw19 : mj_cwP 19 := rfl
set_option maxRecDepth 100000 in
theorem mj_cw20 : mj_cwP 20 := rfl
set_option maxRecDepth 100000 in
theorem mj_cw21 : mj_cwP 21 := rfl
set_option maxRecDepth 100000 in
theorem mj_cw22 : mj_cwP 22 := rfl
set_option maxRecDepth 100000 in
theorem mj_cw23 : mj_cwP 23 := rfl
set_option maxRecDepth 100000 in
theorem mj_cw24 : mj_cwP 24 := rfl
set_option maxRecDepth 100000 in
theorem mj_cw25 : mj_cwP 25 := rfl
set_option maxRecDepth 100000 in
theorem mj_cw26 : mj_cwP 26 := rfl
set_option maxRecDepth 100000 in
theorem mj_cw27 : mj_cwP 27 := rfl
set_option maxRecDepth 100000 in
theorem mj_cw28 : mj_cwP 28 := rfl
set_option maxRecDepth 100000 in
theorem mj_cw29 : mj_cwP 29 := rfl
set_option maxRecDepth 100000 in
theorem mj_cw30 : mj_cwP 30 := rfl
set_option maxRecDepth 100000 in
theorem mj_cw31 : mj_cwP 31 := rfl
set_option maxRecDepth 100000 in
theorem mj_cw32 : mj_cwP 32 := rfl
set_option maxRecDepth 100000 in
theorem mj_cw33 : mj_cwP 33 := rfl
set_option maxRecDepth 100000 in
theorem mj_cw34 : mj_cwP 34 := rfl
set_option maxRecDepth 100000 in
theorem mj_cw35 : mj_cwP 35 := rfl
set_option maxRecDepth 100000 in
theorem mj_cw36 : mj_cwP 36 := rfl
set_option maxRecDepth 100000 in
theorem mj_cw37 : mj_cwP 37 := rfl
set_option maxRecDepth 100000 in
theorem mj_cw38 : mj_cwP 38 := rfl
set_option maxRecDepth 100000 in
theorem mj_cw39 : mj_cwP 39 := rfl
set_option maxRecDepth 100000 in
theorem mj_cw40 : mj_cwP 40 := rfl
set_option maxRecDepth 100000 in
theorem mj_cw41 : mj_cwP 41 := rfl
set_option maxRecDepth 100000 in
theorem mj_cw42 : mj_cwP 42 := rfl
set_option maxRecDepth 100000 in
theorem mj_cw43 : mj_cwP 43 := rfl
set_option maxRecDepth 100000 in
theorem mj_cw44 : mj_cwP 44 := rfl
set_option maxRecDepth 100000 in
theorem mj_cw45 : mj_cwP 45 := rfl
set_option maxRecDepth 100000 in
theorem mj_cw46 : mj_cwP 46 := rfl
set_option maxRecDepth 100000 in
theorem mj_cw47 : mj_cwP 47 := rfl
set_option maxRecDepth 100000 in
theorem mj_cw48 : mj_cwP 48 := rfl
set_option maxRecDepth 100000 in
theorem mj_cw49 : mj_cwP 49 := rfl
set_option maxRecDepth 100000 in
theorem mj_cw50 : mj_cwP 50 := rfl
set_option maxRecDepth 100000 in
theorem mj_cw51 : mj_cwP 51 := rfl
set_option maxRecDepth 100000 in
theorem mj_cw52 : mj_cwP 52 := rfl
set_option maxRecDepth 100000 in
theorem mj_cw53 : mj_cwP 53 := rfl
set_option maxRecDepth 100000 in
theorem mj_cw54 : mj_cwP 54 := rfl
set_option maxRecDepth 100000 in
theorem mj_cw55 : mj_cwP 55 := rfl
set_option maxRecDepth 100000 in
theorem mj_cw56 : mj_cwP 56 := rfl
set_option maxRecDepth 100000 in
theorem mj_cw57 : mj_cwP 57 := rfl
set_option maxRecDepth 100000 in
theorem mj_cw58 : mj_cwP 58 := rfl
set_option maxRecDepth 100000 in
theorem mj_cw59 : mj_cwP 59 := rfl
set_option maxRecDepth 100000 in
theorem mj_cw60 : mj_cwP 60 := rfl
set_option maxRecDepth 100000 in
theorem mj_cw61 : mj_cwP 61 := rfl
set_option maxRecDepth 100000 in
theorem mj_cw62 : mj_cwP 62 := rfl
set_option maxRecDepth 100000 in
theorem mj_cw63 : mj_cwP 63 := rfl
set_option maxRecDepth 100000 in
theorem mj_cw64 : mj_cwP 64 := rfl
set_option maxRecDepth 100000 in
theorem mj_cw65 : mj_cwP 65 := rfl
set_option maxRecDepth 100000 in
theorem mj_cw66 : mj_cwP 66 := rfl
set_option maxRecDepth 100000 in
theorem mj_cw67 : mj_cwP 67 := rfl
set_option maxRecDepth 100000 in
theorem mj_cw68 : mj_cwP 68 := rfl
set_option maxRecDepth 100000 in
theorem mj_cw69 : mj_cwP 69 := rfl
set_option maxRecDepth 100000 in
theorem mj_cw70 : mj_cwP 70 := rfl
set_option maxRecDepth 100000 in
theorem mj_cw71 : mj_cwP 71 := rfl
set_option maxRecDepth 100000 in
theorem mj_cw72 : mj_cwP 72 := rfl
set_option maxRecDepth 100000 in
theorem mj_cw73 : mj_cwP 73 := rfl
set_option maxRecDepth 100000 in
theorem mj_cw74 : mj_cwP 74 := rfl
set_option maxRecDepth 100000 in
theorem mj_cw75 : mj_cwP 75 := rfl
set_option maxRecDepth 100000 in
theorem mj_cw76 : mj_cwP 76 := rfl
set_option maxRecDepth 100000 in
theorem mj_cw77 : mj_cwP 77 := rfl
set_option maxRecDepth 100000 in
theorem mj_cw78 : mj_cwP 78 := rfl
set_option maxRecDepth 100000 in
theorem mj_cw79 : mj_cwP 79 := rfl
set_option maxRecDepth 100000 in
theorem mj_cw80 : mj_cwP 80 := rfl
set_option maxRecDepth 100000 in
theorem mj_cw81 : mj_cwP 81 := rfl
set_option maxRecDepth 100000 in
theorem mj_cw82 : mj_cwP 82 := rfl
set_option maxRecDepth 100000 in
theorem mj_cw83 : mj_cwP 83 := rfl
set_option maxRecDepth 100000 in
theorem mj_cw84 : mj_cwP 84 := rfl
set_option maxRecDepth 100000 in
theorem mj_cw85 : mj_cwP 85 := rfl
set_option maxRecDepth 100000 in
theorem mj_cw86 : mj_cwP 86 := rfl
set_option maxRecDepth 100000 in
theorem mj_cw87 : mj_cwP 87 := rfl
set_option maxRecDepth 100000 in
theorem mj_cw88 : mj_cwP 88 := rfl
set_option maxRecDepth 100000 in
theorem mj_cw89 : mj_cwP 89 := rfl
set_option maxRecDepth 100000 in
theorem mj_cw90 : mj_cwP 90 := rfl
set_option maxRecDepth 100000 in
theorem mj_cw91 : mj_cwP 91 := rfl
set_option maxRecDepth 100000 in
theorem mj_cw92 : mj_cwP 92 := rfl
set_option maxRecDepth 100000 in
theorem mj_cw93 : mj_cwP 93 := rfl
set_option maxRecDepth 100000 in
theorem mj_cw94 : mj_cwP 94 := rfl
set_option maxRecDepth 100000 in
theorem mj_cw95 : mj_cwP 95 := rfl
set_option maxRecDepth 100000 in
theorem mj_cw96 : mj_cwP 96 := rfl
set_option maxRecDepth 100000 in
theorem mj_cw97 : mj_cwP 97 := rfl
set_option maxRecDepth 100000 in
theorem mj_cw98 : mj_cwP 98 := rfl
set_option maxRecDepth 100000 in
theorem mj_cw99 : mj_cwP 99 := rfl
set_option maxRecDepth 100000 in
theorem mj_cw100 : mj_cwP 100 := rfl
set_option maxRecDepth 100000 in
theorem mj_cw101 : mj_cwP 101 := rfl
set_option maxRecDepth 100000 in
theorem mj_cw102 : mj_cwP 102 := rfl
set_option maxRecDepth 100000 in
theorem mj_cw103 : mj_cwP 103 := rfl
set_option maxRecDepth 100000 in
theorem mj_cw104 : mj_cwP 104 := rfl
set_option maxRecDepth 100000 in
theorem mj_cw105 : mj_cwP 105 := rfl
set_option maxRecDepth 100000 in
theorem mj_cw106 : mj_cwP 106 := rfl
set_option maxRecDepth 100000 in
theorem mj_cw107 : mj_cwP 107 := rfl
set_option maxRecDepth 100000 in
theorem mj_cw108 : mj_cwP 108 := rfl
set_option maxRecDepth 100000 in
theorem mj_cw109 : mj_cwP 109 := rfl
set_option maxRecDepth 100000 in
theorem mj_cw110 : mj_cwP 110 := rfl
set_option maxRecDepth 100000 in
theorem mj_cw111 : mj_cwP 111 := rfl
set_option maxRecDepth 100000 in
theorem mj_cw112 : mj_cwP 112 := rfl
set_option maxRecDepth 100000 in
theorem mj_cw113 : mj_cwP 113 := rfl
set_option maxRecDepth 100000 in
theorem mj_cw114 : mj_cwP 114 := rfl
set_option maxRecDepth 100000 in
theorem mj_cw115 : mj_cwP 115 := rfl
set_option maxRecDepth 100000 in
theorem mj_cw116 : mj_cwP 116 := rfl
set_option maxRecDepth 100000 in
theorem mj_cw117 : mj_cwP 117 := rfl
set_option maxRecDepth 100000 in
theorem mj_cw118 : mj_cwP 118 := rfl
set_option maxRecDepth 100000 in
theorem mj_cw119 : mj_cwP 119 := rfl
set_option maxRecDepth 100000 in
theorem mj_cw120 : mj_cwP 120 := rfl
set_option maxRecDepth 100000 in
theorem mj_cw121 : mj_cwP 121 := rfl
set_option maxRecDepth 100000 in
theorem mj_cw122 : mj_cwP 122 := rfl
set_option maxRecDepth 100000 in
theorem mj_cw123 : mj_cwP 123 := rfl
set_option maxRecDepth 100000 in
theorem mj_cw124 : mj_cwP 124 := rfl
set_option maxRecDepth 100000 in
theorem mj_cw125 : mj_cwP 125 := rfl
set_option maxRecDepth 100000 in
theorem mj_cw126 : mj_cwP 126 := rfl
set_option maxRecDepth 100000 in
theorem mj_cw127 : mj_cwP 127 := rfl
set_option maxRecDepth 100000 in
theorem mj_cw128 : mj_cwP 128 := rfl
set_option maxRecDepth 100000 in
theorem mj_cw129 : mj_cwP 129 := rfl
set_option maxRecDepth 100000 in
theorem mj_cw130 : mj_cwP 130 := rfl
set_option maxRecDepth 100000 in
theorem mj_cw131 : mj_cwP 131 := rfl
set_option maxRecDepth 100000 in
theorem mj_cw132 : mj_cwP 132 := rfl
set_option maxRecDepth 100000 in
theorem mj_cw133 : mj_cwP 133 := rfl
set_option maxRecDepth 100000 in
theorem mj_cw134 : mj_cwP 134 := rfl
set_option maxRecDepth 100000 in
theorem mj_cw135 : mj_cwP 135 := rfl
set_option maxRecDepth 100000 in
theorem mj_cw136 : mj_cwP 136 := rfl
set_option maxRecDepth 100000 in
theorem mj_cw137 : mj_cwP 137 := rfl
set_option maxRecDepth 100000 in
theorem mj_cw138 : mj_cwP 138 := rfl
set_option maxRecDepth 100000 in
theorem mj_cw139 : mj_cwP 139 := rfl
set_option maxRecDepth 100000 in
theorem mj_cw140 : mj_cwP 140 := rfl
set_option maxRecDepth 100000 in
theorem mj_cw141 : mj_cwP 141 := rfl
set_option maxRecDepth 100000 in
theorem mj_cw142 : mj_cwP 142 := rfl
set_option maxRecDepth 100000 in
theorem mj_cw143 : mj_cwP 143 := rfl
set_option maxRecDepth 100000 in
theorem mj_cw144 : mj_cwP 144 := rfl
set_option maxRecDepth 100000 in
theorem mj_cw145 : mj_cwP 145 := rfl
set_option maxRecDepth 100000 in
theorem mj_cw146 : mj_cwP 146 := rfl
set_option maxRecDepth 100000 in
theorem mj_cw147 : mj_cwP 147 := rfl
set_option maxRecDepth 100000 in
theorem mj_cw148 : mj_cwP 148 := rfl
set_option maxRecDepth 100000 in
theorem mj_cw149 : mj_cwP 149 := rfl
set_option maxRecDepth 100000 in
theorem mj_cw150 : mj_cwP 150 := rfl
set_option maxRecDepth 100000 in
theorem mj_cw151 : mj_cwP 151 := rfl
set_option maxRecDepth 100000 in
theorem mj_cw152 : mj_cwP 152 := rfl
set_option maxRecDepth 100000 in
theorem mj_cw153 : mj_cwP 153 := rfl
set_option maxRecDepth 100000 in
theorem mj_cw154 : mj_cwP 154 := rfl
set_option maxRecDepth 100000 in
theorem mj_cw155 : mj_cwP 155 := rfl
set_option maxRecDepth 100000 in
theorem mj_cw156 : mj_cwP 156 := rfl
set_option maxRecDepth 100000 in
theorem mj_cw157 : mj_cwP 157 := rfl
set_option maxRecDepth 100000 in
theorem mj_cw158 : mj_cwP 158 := rfl
set_option maxRecDepth 100000 in
theorem mj_cw159 : mj_cwP 159 := rfl
set_option maxRecDepth 100000 in
theorem mj_cw160 : mj_cwP 160 := rfl
set_option maxRecDepth 100000 in
theorem mj_cw161 : mj_cwP 161 := rfl
set_option maxRecDepth 100000 in
theorem mj_cw162 : mj_cwP 162 := rfl
set_option maxRecDepth 100000 in
theorem mj_cw163 : mj_cwP 163 := rfl
set_option maxRecDepth 100000 in
theorem mj_cw164 : mj_cwP 164 := rfl
set_option maxRecDepth 100000 in
theorem mj_cw165 : mj_cwP 165 := rfl
set_option maxRecDepth 100000 in
theorem mj_cw166 : mj_cwP 166 := rfl
set_option maxRecDepth 100000 in
theorem mj_cw167 : mj_cwP 167 := rfl
set_option maxRecDepth 100000 in
theorem mj_cw168 : mj_cwP 168 := rfl
set_option maxRecDepth 100000 in
theorem mj_cw169 : mj_cwP 169 := rfl
set_option maxRecDepth 100000 in
theorem mj_cw170 : mj_cwP 170 := rfl
set_option maxRecDepth 100000 in
theorem mj_cw171 : mj_cwP 171 := rfl
set_option maxRecDepth 100000 in
theorem mj_cw172 : mj_cwP 172 := rfl
set_option maxRecDepth 100000 in
theorem mj_cw173 : mj_cwP 173 := rfl
set_option maxRecDepth 100000 in
theorem mj_cw174 : mj_cwP 174 := rfl
set_option maxRecDepth 100000 in
theorem mj_cw175 : mj_cwP 175 := rfl
set_option maxRecDepth 100000 in
theorem mj_cw176 : mj_cwP 176 := rfl
set_option maxRecDepth 100000 in
theorem mj_cw177 : mj_cwP 177 := rfl
set_option maxRecDepth 100000 in
theorem mj_cw178 : mj_cwP 178 := rfl
set_option maxRecDepth 100000 in
theorem mj_cw179 : mj_cwP 179 := rfl
set_option maxRecDepth 100000 in
theorem mj_cw180 : mj_cwP 180 := rfl
set_option maxRecDepth 100000 in
theorem mj_cw181 : mj_cwP 181 := rfl
set_option maxRecDepth 100000 in
theorem mj_cw182 : mj_cwP 182 := rfl
set_option maxRecDepth 100000 in
theorem mj_cw183 : mj_cwP 183 := rfl
set_option maxRecDepth 100000 in
theorem mj_cw184 : mj_cwP 184 := rfl
set_option maxRecDepth 100000 in
theorem mj_cw185 : mj_cwP 185 := rfl
set_option maxRecDepth 100000 in
theorem mj_cw186 : mj_cwP 186 := rfl
theorem mj_cw_ok : ∀ m, m < 187 → mj_cwP m := by
  intro m hm
  · rcases Nat.lt_or_ge m 93 with h1 | h1
    · rcases Nat.lt_or_ge m 46 with h2 | h2
      · rcases Nat.lt_or_ge m 23 with h3 | h3
        · rcases Nat.lt_or_ge m 11 with h4 | h4
          · rcases Nat.lt_or_ge m 5 with h5 | h5
            · rcases Nat.lt_or_ge m 2 with h6 | h6
              · rcases Nat.lt_or_ge m 1 with h7 | h7
                · rw [show m = 0 by omega]; exact mj_cw0
                · rw [show m = 1 by omega]; exact mj_cw1
              · rcases Nat.lt_or_ge m 3 with h7 | h7
                · rw [show m = 2 by omega]; exact mj_cw2
                · rcases Nat.lt_or_ge m 4 with h8 | h8
                  · rw [show m = 3 by omega]; exact mj_cw3
                  · rw [show m = 4 by omega]; exact mj_cw4
            · rcases Nat.lt_or_ge m 8 with h6 | h6
              · rcases Nat.lt_or_ge m 6 with h7 | h7
                · rw [show m = 5 by omega]; exact mj_cw5
                · rcases Nat.lt_or_ge m 7 with h8 | h8
                  · rw [show m = 6 by omega]; exact mj_cw6
                  · rw [show m = 7 by omega]; exact mj_cw7
              · rcases Nat.lt_or_ge m 9 with h7 | h7
                · rw [show m = 8 by omega]; exact mj_cw8
                · rcases Nat.lt_or_ge m 10 with h8 | h8
                  · rw [show m = 9 by omega]; exact mj_cw9
                  · rw [show m = 10 by omega]; exact mj_cw10
          · rcases Nat.lt_or_ge m 17 with h5 | h5
            · rcases Nat.lt_or_ge m 14 with h6 | h6
              · rcases Nat.lt_or_ge m 12 with h7 | h7
                · rw [show m = 11 by omega]; exact mj_cw11
                · rcases Nat.lt_or_ge m 13 with h8 | h8
                  · rw [show m = 12 by omega]; exact mj_cw12
                  · rw [show m = 13 by omega]; exact mj_cw13
              · rcases Nat.lt_or_ge m 15 with h7 | h7
                · rw [show m = 14 by omega]; exact mj_cw14
                · rcases Nat.lt_or_ge m 16 with h8 | h8
                  · rw [show m = 15 by omega]; exact mj_cw15
                  · rw [show m = 16 by omega]; exact mj_cw16
            · rcases Nat.lt_or_ge m 20 with h6 | h6
              · rcases Nat.lt_or_ge m 18 with h7 | h7
                · rw [show m = 17 by omega]; exact mj_cw17
                · rcases Nat.lt_or_ge m 19 with h8 | h8
                  · rw [show m = 18 by omega]; exact mj_cw18
                  · rw [show m = 19 by omega]; exact mj_cw19
              · rcases Nat.lt_or_ge m 21 with h7 | h7
                · rw [show m = 20 by omega]; exact mj_cw20
                · rcases Nat.lt_or_ge m 22 with h8 | h8
                  · rw [show m = 21 by omega]; exact mj_cw21
                  · rw [show m = 22 by omega]; exact mj_cw22
        · rcases Nat.lt_or_ge m 34 with h4 | h4
          · rcases Nat.lt_or_ge m 28 with h5 | h5
            · rcases Nat.lt_or_ge m 25 with h6 | h6
              · rcases Nat.lt_or_ge m 24 with h7 | h7
                · rw [show m = 23 by omega]; exact mj_cw23
                · rw [show m = 24 by omega]; exact mj_cw24
              · rcases Nat.lt_or_ge m 26 with h7 | h7
                · rw [show m = 25 by omega]; exact mj_cw25
                · rcases Nat.lt_or_ge m 27 with h8 | h8
                  · rw [show m = 26 by omega]; exact mj_cw26
                  · rw [show m = 27 by omega]; exact mj_cw27
            · rcases Nat.lt_or_ge m 31 with h6 | h6
              · rcases Nat.lt_or_ge m 29 with h7 | h7
                · rw [show m = 28 by omega]; exact mj_cw28
                · rcases Nat.lt_or_ge m 30 with h8 | h8
                  · rw [show m = 29 by omega]; exact mj_cw29
                  · rw [show m = 30 by omega]; exact mj_cw30
              · rcases Nat.lt_or_ge m 32 with h7 | h7
                · rw [show m = 31 by omega]; exact mj_cw31
                · rcases Nat.lt_or_ge m 33 with h8 | h8
                  · rw [show m = 32 by omega]; exact mj_cw32
                  · rw [show m = 33 by omega]; exact mj_cw33
          · rcases Nat.lt_or_ge m 40 with h5 | h5
            · rcases Nat.lt_or_ge m 37 with h6 | h6
              · rcases Nat.lt_or_ge m 35 with h7 | h7
                · rw [show m = 34 by omega]; exact mj_cw34
                · rcases Nat.lt_or_ge m 36 with h8 | h8
                  · rw [show m = 35 by omega]; exact mj_cw35
                  · rw [show m = 36 by omega]; exact mj_cw36
              · rcases Nat.lt_or_ge m 38 with h7 | h7
                · rw [show m = 37 by omega]; exact mj_cw37
                · rcases Nat.lt_or_ge m 39 with h8 | h8
                  · rw [show m = 38 by omega]; exact mj_cw38
                  · rw [show m = 39 by omega]; exact mj_cw39
            · rcases Nat.lt_or_ge m 43 with h6 | h6
              · rcases Nat.lt_or_ge m 41 with h7 | h7
                · rw [show m = 40 by omega]; exact mj_cw40
                · rcases Nat.lt_or_ge m 42 with h8 | h8
                  · rw [show m = 41 by omega]; exact mj_cw41
                  · rw [show m = 42 by omega]; exact mj_cw42
              · rcases Nat.lt_or_ge m 44 with h7 | h7
                · rw [show m = 43 by omega]; exact mj_cw43
                · rcases Nat.lt_or_ge m 45 with h8 | h8
                  · rw [show m = 44 by omega]; exact mj_cw44
                  · rw [show m = 45 by omega]; exact mj_cw45
      · rcases Nat.lt_or_ge m 69 with h3 | h3
        · rcases Nat.lt_or_ge m 57 with h4 | h4
          · rcases Nat.lt_or_ge m 51 with h5 | h5
            · rcases Nat.lt_or_ge m 48 with h6 | h6
              · rcases Nat.lt_or_ge m 47 with h7 | h7
                · rw [show m = 46 by omega]; exact mj_cw46
                · rw [show m = 47 by omega]; exact mj_cw47
              · rcases Nat.lt_or_ge m 49 with h7 | h7
                · rw [show m = 48 by omega]; exact mj_cw48
                · rcases Nat.lt_or_ge m 50 with h8 | h8
                  · rw [show m = 49 by omega]; exact mj_cw49
                  · rw [show m = 50 by omega]; exact mj_cw50
            · rcases Nat.lt_or_ge m 54 with h6 | h6
              · rcases Nat.lt_or_ge m 52 with h7 | h7
                · rw [show m = 51 by omega]; exact mj_cw51
                · rcases Nat.lt_or_ge m 53 with h8 | h8
                  · rw [show m = 52 by omega]; exact mj_cw52
                  · rw [show m = 53 by omega]; exact mj_cw53
              · rcases Nat.lt_or_ge m 55 with h7 | h7
                · rw [show m = 54 by omega]; exact mj_cw54
                · rcases Nat.lt_or_ge m 56 with h8 | h8
                  · rw [show m = 55 by omega]; exact mj_cw55
                  · rw [show m = 56 by omega]; exact mj_cw56
          · rcases Nat.lt_or_ge m 63 with h5 | h5
            · rcases Nat.lt_or_ge m 60 with h6 | h6
              · rcases Nat.lt_or_ge m 58 with h7 | h7
                · rw [show m = 57 by omega]; exact mj_cw57
                · rcases Nat.lt_or_ge m 59 with h8 | h8
                  · rw [show m = 58 by omega]; exact mj_cw58
                  · rw [show m = 59 by omega]; exact mj_cw59
              · rcases Nat.lt_or_ge m 61 with h7 | h7
                · rw [show m = 60 by omega]; exact mj_cw60
                · rcases Nat.lt_or_ge m 62 with h8 | h8
                  · rw [show m = 61 by omega]; exact mj_cw61
                  · rw [show m = 62 by omega]; exact mj_cw62
            · rcases Nat.lt_or_ge m 66 with h6 | h6
              · rcases Nat.lt_or_ge m 64 with h7 | h7
                · rw [show m = 63 by omega]; exact mj_cw63
                · rcases Nat.lt_or_ge m 65 with h8 | h8
                  · rw [show m = 64 by omega]; exact mj_cw64
                  · rw [show m = 65 by omega]; exact mj_cw65
              · rcases Nat.lt_or_ge m 67 with h7 | h7
                · rw [show m = 66 by omega]; exact mj_cw66
                · rcases Nat.lt_or_ge m 68 with h8 | h8
                  · rw [show m = 67 by omega]; exact mj_cw67
                  · rw [show m = 68 by omega]; exact mj_cw68
        · rcases Nat.lt_or_ge m 81 with h4 | h4
          · rcases Nat.lt_or_ge m 75 with h5 | h5
            · rcases Nat.lt_or_ge m 72 with h6 | h6
              · rcases Nat.lt_or_ge m 70 with h7 | h7
                · rw [show m = 69 by omega]; exact mj_cw69
                · rcases Nat.lt_or_ge m 71 with h8 | h8
                  · rw [show m = 70 by omega]; exact mj_cw70
                  · rw [show m = 71 by omega]; exact mj_cw71
              · rcases Nat.lt_or_ge m 73 with h7 | h7
                · rw [show m = 72 by omega]; exact mj_cw72
                · rcases Nat.lt_or_ge m 74 with h8 | h8
                  · rw [show m = 73 by omega]; exact mj_cw73
                  · rw [show m = 74 by omega]; exact mj_cw74
            · rcases Nat.lt_or_ge m 78 with h6 | h6
              · rcases Nat.lt_or_ge m 76 with h7 | h7
                · rw [show m = 75 by omega]; exact mj_cw75
                · rcases Nat.lt_or_ge m 77 with h8 | h8
                  · rw [show m = 76 by omega]; exact mj_cw76
                  · rw [show m = 77 by omega]; exact mj_cw77
              · rcases Nat.lt_or_ge m 79 with h7 | h7
                · rw [show m = 78 by omega]; exact mj_cw78
                · rcases Nat.lt_or_ge m 80 with h8 | h8
                  · rw [show m = 79 by omega]; exact mj_cw79
                  · rw [show m = 80 by omega]; exact mj_cw80
          · rcases Nat.lt_or_ge m 87 with h5 | h5
            · rcases Nat.lt_or_ge m 84 with h6 | h6
              · rcases Nat.lt_or_ge m 82 with h7 | h7
                · rw [show m = 81 by omega]; exact mj_cw81
                · rcases Nat.lt_or_ge m 83 with h8 | h8
                  · rw [show m = 82 by omega]; exact mj_cw82
                  · rw [show m = 83 by omega]; exact mj_cw83
              · rcases Nat.lt_or_ge m 85 with h7 | h7
                · rw [show m = 84 by omega]; exact mj_cw84
                · rcases Nat.lt_or_ge m 86 with h8 | h8
                  · rw [show m = 85 by omega]; exact mj_cw85
                  · rw [show m = 86 by omega]; exact mj_cw86
            · rcases Nat.lt_or_ge m 90 with h6 | h6
              · rcases Nat.lt_or_ge m 88 with h7 | h7
                · rw [show m = 87 by omega]; exact mj_cw87
                · rcases Nat.lt_or_ge m 89 with h8 | h8
                  · rw [show m = 88 by omega]; exact mj_cw88
                  · rw [show m = 89 by omega]; exact mj_cw89
              · rcases Nat.lt_or_ge m 91 with h7 | h7
                · rw [show m = 90 by omega]; exact mj_cw90
                · rcases Nat.lt_or_ge m 92 with h8 | h8
                  · rw [show m = 91 by omega]; exact mj_cw91
                  · rw [show m = 92 by omega]; exact mj_cw92
    · rcases Nat.lt_or_ge m 140 with h2 | h2
      · rcases Nat.lt_or_ge m 116 with h3 | h3
        · rcases Nat.lt_or_ge m 104 with h4 | h4
          · rcases Nat.lt_or_ge m 98 with h5 | h5
            · rcases Nat.lt_or_ge m 95 with h6 | h6
              · rcases Nat.lt_or_ge m 94 with h7 | h7
                · rw [show m = 93 by omega]; exact mj_cw93
                · rw [show m = 94 by omega]; exact mj_cw94
              · rcases Nat.lt_or_ge m 96 with h7 | h7
                · rw [show m = 95 by omega]; exact mj_cw95
                · rcases Nat.lt_or_ge m 97 with h8 | h8
                  · rw [show m = 96 by omega]; exact mj_cw96
                  · rw [show m = 97 by omega]; exact mj_cw97
            · rcases Nat.lt_or_ge m 101 with h6 | h6
              · rcases Nat.lt_or_ge m 99 with h7 | h7
                · rw [show m = 98 by omega]; exact mj_cw98
                · rcases Nat.lt_or_ge m 100 with h8 | h8
                  · rw [show m = 99 by omega]; exact mj_cw99
                  · rw [show m = 100 by omega]; exact mj_cw100
              · rcases Nat.lt_or_ge m 102 with h7 | h7
                · rw [show m = 101 by omega]; exact mj_cw101
                · rcases Nat.lt_or_ge m 103 with h8 | h8
                  · rw [show m = 102 by omega]; exact mj_cw102
                  · rw [show m = 103 by omega]; exact mj_cw103
          · rcases Nat.lt_or_ge m 110 with h5 | h5
            · rcases Nat.lt_or_ge m 107 with h6 | h6
              · rcases Nat.lt_or_ge m 105 with h7 | h7
                · rw [show m = 104 by omega]; exact mj_cw104
                · rcases Nat.lt_or_ge m 106 with h8 | h8
                  · rw [show m = 105 by omega]; exact mj_cw105
                  · rw [show m = 106 by omega]; exact mj_cw106
              · rcases Nat.lt_or_ge m 108 with h7 | h7
                · rw [show m = 107 by omega]; exact mj_cw107
                · rcases Nat.lt_or_ge m 109 with h8 | h8
                  · rw [show m = 108 by omega]; exact mj_cw108
                  · rw [show m = 109 by omega]; exact mj_cw109
            · rcases Nat.lt_or_ge m 113 with h6 | h6
              · rcases Nat.lt_or_ge m 111 with h7 | h7
                · rw [show m = 110 by omega]; exact mj_cw110
                · rcases Nat.lt_or_ge m 112 with h8 | h8
                  · rw [show m = 111 by omega]; exact mj_cw111
                  · rw [show m = 112 by omega]; exact mj_cw112
              · rcases Nat.lt_or_ge m 114 with h7 | h7
                · rw [show m = 113 by omega]; exact mj_cw113
                · rcases Nat.lt_or_ge m 115 with h8 | h8
                  · rw [show m = 114 by omega]; exact mj_cw114
                  · rw [show m = 115 by omega]; exact mj_cw115
        · rcases Nat.lt_or_ge m 128 with h4 | h4
          · rcases Nat.lt_or_ge m 122 with h5 | h5
            · rcases Nat.lt_or_ge m 119 with h6 | h6
              · rcases Nat.lt_or_ge m 117 with h7 | h7
                · rw [show m = 116 by omega]; exact mj_cw116
                · rcases Nat.lt_or_ge m 118 with h8 | h8
                  · rw [show m = 117 by omega]; exact mj_cw117
                  · rw [show m = 118 by omega]; exact mj_cw118
              · rcases Nat.lt_or_ge m 120 with h7 | h7
                · rw [show m = 119 by omega]; exact mj_cw119
                · rcases Nat.lt_or_ge m 121 with h8 | h8
                  · rw [show m = 120 by omega]; exact mj_cw120
                  · rw [show m = 121 by omega]; exact mj_cw121
            · rcases Nat.lt_or_ge m 125 with h6 | h6
              · rcases Nat.lt_or_ge m 123 with h7 | h7
                · rw [show m = 122 by omega]; exact mj_cw122
                · rcases Nat.lt_or_ge m 124 with h8 | h8
                  · rw [show m = 123 by omega]; exact mj_cw123
                  · rw [show m = 124 by omega]; exact mj_cw124
              · rcases Nat.lt_or_ge m 126 with h7 | h7
                · rw [show m = 125 by omega]; exact mj_cw125
                · rcases Nat.lt_or_ge m 127 with h8 | h8
                  · rw [show m = 126 by omega]; exact mj_cw126
                  · rw [show m = 127 by omega]; exact mj_cw127
          · rcases Nat.lt_or_ge m 134 with h5 | h5
            · rcases Nat.lt_or_ge m 131 with h6 | h6
              · rcases Nat.lt_or_ge m 129 with h7 | h7
                · rw [show m = 128 by omega]; exact mj_cw128
                · rcases Nat.lt_or_ge m 130 with h8 | h8
                  · rw [show m = 129 by omega]; exact mj_cw129
                  · rw [show m = 130 by omega]; exact mj_cw130
              · rcases Nat.lt_or_ge m 132 with h7 | h7
                · rw [show m = 131 by omega]; exact mj_cw131
                · rcases Nat.lt_or_ge m 133 with h8 | h8
                  · rw [show m = 132 by omega]; exact mj_cw132
                  · rw [show m = 133 by omega]; exact mj_cw133
            · rcases Nat.lt_or_ge m 137 with h6 | h6
              · rcases Nat.lt_or_ge m 135 with h7 | h7
                · rw [show m = 134 by omega]; exact mj_cw134
                · rcases Nat.lt_or_ge m 136 with h8 | h8
                  · rw [show m = 135 by omega]; exact mj_cw135
                  · rw [show m = 136 by omega]; exact mj_cw136
              · rcases Nat.lt_or_ge m 138 with h7 | h7
                · rw [show m = 137 by omega]; exact mj_cw137
                · rcases Nat.lt_or_ge m 139 with h8 | h8
                  · rw [show m = 138 by omega]; exact mj_cw138
                  · rw [show m = 139 by omega]; exact mj_cw139
      · rcases Nat.lt_or_ge m 163 with h3 | h3
        · rcases Nat.lt_or_ge m 151 with h4 | h4
          · rcases Nat.lt_or_ge m 145 with h5 | h5
            · rcases Nat.lt_or_ge m 142 with h6 | h6
              · rcases Nat.lt_or_ge m 141 with h7 | h7
                · rw [show m = 140 by omega]; exact mj_cw140
                · rw [show m = 141 by omega]; exact mj_cw141
              · rcases Nat.lt_or_ge m 143 with h7 | h7
                · rw [show m = 142 by omega]; exact mj_cw142
                · rcases Nat.lt_or_ge m 144 with h8 | h8
                  · rw [show m = 143 by omega]; exact mj_cw143
                  · rw [show m = 144 by omega]; exact mj_cw144
            · rcases Nat.lt_or_ge m 148 with h6 | h6
              · rcases Nat.lt_or_ge m 146 with h7 | h7
                · rw [show m = 145 by omega]; exact mj_cw145
                · rcases Nat.lt_or_ge m 147 with h8 | h8
                  · rw [show m = 146 by omega]; exact mj_cw146
                  · rw [show m = 147 by omega]; exact mj_cw147
              · rcases Nat.lt_or_ge m 149 with h7 | h7
                · rw [show m = 148 by omega]; exact mj_cw148
                · rcases Nat.lt_or_ge m 150 with h8 | h8
                  · rw [show m = 149 by omega]; exact mj_cw149
                  · rw [show m = 150 by omega]; exact mj_cw150
          · rcases Nat.lt_or_ge m 157 with h5 | h5
            · rcases Nat.lt_or_ge m 154 with h6 | h6
              · rcases Nat.lt_or_ge m 152 with h7 | h7
                · rw [show m = 151 by omega]; exact mj_cw151
                · rcases Nat.lt_or_ge m 153 with h8 | h8
                  · rw [show m = 152 by omega]; exact mj_cw152
                  · rw [show m = 153 by omega]; exact mj_cw153
              · rcases Nat.lt_or_ge m 155 with h7 | h7
                · rw [show m = 154 by omega]; exact mj_cw154
                · rcases Nat.lt_or_ge m 156 with h8 | h8
                  · rw [show m = 155 by omega]; exact mj_cw155
                  · rw [show m = 156 by omega]; exact mj_cw156
            · rcases Nat.lt_or_ge m 160 with h6 | h6
              · rcases Nat.lt_or_ge m 158 with h7 | h7
                · rw [show m = 157 by omega]; exact mj_cw157
                · rcases Nat.lt_or_ge m 159 with h8 | h8
                  · rw [show m = 158 by omega]; exact mj_cw158
                  · rw [show m = 159 by omega]; exact mj_cw159
              · rcases Nat.lt_or_ge m 161 with h7 | h7
                · rw [show m = 160 by omega]; exact mj_cw160
                · rcases Nat.lt_or_ge m 162 with h8 | h8
                  · rw [show m = 161 by omega]; exact mj_cw161
                  · rw [show m = 162 by omega]; exact mj_cw162
        · rcases Nat.lt_or_ge m 175 with h4 | h4
          · rcases Nat.lt_or_ge m 169 with h5 | h5
            · rcases Nat.lt_or_ge m 166 with h6 | h6
              · rcases Nat.lt_or_ge m 164 with h7 | h7
                · rw [show m = 163 by omega]; exact mj_cw163
                · rcases Nat.lt_or_ge m 165 with h8 | h8
                  · rw [show m = 164 by omega]; exact mj_cw164
                  · rw [show m = 165 by omega]; exact mj_cw165
              · rcases Nat.lt_or_ge m 167 with h7 | h7
                · rw [show m = 166 by omega]; exact mj_cw166
                · rcases Nat.lt_or_ge m 168 with h8 | h8
                  · rw [show m = 167 by omega]; exact mj_cw167
                  · rw [show m = 168 by omega]; exact mj_cw168
            · rcases Nat.lt_or_ge m 172 with h6 | h6
              · rcases Nat.lt_or_ge m 170 with h7 | h7
                · rw [show m = 169 by omega]; exact mj_cw169
                · rcases Nat.lt_or_ge m 171 with h8 | h8
                  · rw [show m = 170 by omega]; exact mj_cw170
                  · rw [show m = 171 by omega]; exact mj_cw171
              · rcases Nat.lt_or_ge m 173 with h7 | h7
                · rw [show m = 172 by omega]; exact mj_cw172
                · rcases Nat.lt_or_ge m 174 with h8 | h8
                  · rw [show m = 173 by omega]; exact mj_cw173
                  · rw [show m = 174 by omega]; exact mj_cw174
          · rcases Nat.lt_or_ge m 181 with h5 | h5
            · rcases Nat.lt_or_ge m 178 with h6 | h6
              · rcases Nat.lt_or_ge m 176 with h7 | h7
                · rw [show m = 175 by omega]; exact mj_cw175
                · rcases Nat.lt_or_ge m 177 with h8 | h8
                  · rw [show m = 176 by omega]; exact mj_cw176
                  · rw [show m = 177 by omega]; exact mj_cw177
              · rcases Nat.lt_or_ge m 179 with h7 | h7
                · rw [show m = 178 by omega]; exact mj_cw178
                · rcases Nat.lt_or_ge m 180 with h8 | h8
                  · rw [show m = 179 by omega]; exact mj_cw179
                  · rw [show m = 180 by omega]; exact mj_cw180
            · rcases Nat.lt_or_ge m 184 with h6 | h6
              · rcases Nat.lt_or_ge m 182 with h7 | h7
                · rw [show m = 181 by omega]; exact mj_cw181
                · rcases Nat.lt_or_ge m 183 with h8 | h8
                  · rw [show m = 182 by omega]; exact mj_cw182
                  · rw [show m = 183 by omega]; exact mj_cw183
              · rcases Nat.lt_or_ge m 185 with h7 | h7
                · rw [show m = 184 by omega]; exact mj_cw184
                · rcases Nat.lt_or_ge m 186 with h8 | h8
                  · rw [show m = 185 by omega]; exact mj_cw185
                  · rw [show m = 186 by omega]; exact mj_cw186
-- the mini instruction that an instruction is
def mj_fnd {α : Type} (f : α → Nat × Nat) (o i : Nat) : List α → Option α
  | [] => none
  | x :: r => if (f x).1 = o ∧ (f x).2 = i then some x else mj_fnd f o i r
theorem mj_fnd_ok {α : Type} {f : α → Nat × Nat} {o i : Nat} {x : α} : ∀ {l : List α}, mj_fnd f o i l = some x → x ∈ l ∧ (f x).1 = o ∧ (f x).2 = i
  | [], h => by cases h
  | y :: r, h => by
    unfold mj_fnd at h
    split at h
    · cases h; exact ⟨List.mem_cons_self, ‹_ ∧ _›⟩
    · obtain ⟨h1, h2⟩ := mj_fnd_ok h
      exact ⟨List.mem_cons_of_mem _ h1, h2⟩
def mj_cc : ClassFile.Cond → Nat
  | .eq => 0
  | .ne => 1
  | .lt => 2
  | .ge => 3
  | .gt => 4
  | .le => 5
def mj_tg (pc : Nat) (off : Int) : Nat := ((pc : Int) + off).toNat
def mj_fm (m i : Nat) : Option (Nat × Nat × Nat × Nat × Nat) := mj_fnd (fun x => (x.1, x.2.1)) (mj_ci m) i mj_mL
def mj_tsw (pc : Nat) : Int → List Int → List (Int × Nat)
  | _, [] => []
  | lo, o :: r => (lo, mj_tg pc o) :: mj_tsw pc (lo + 1) r
def mj_tr (m pc : Nat) (i : Instr) : Option mj_MI := match i with
  | .iconst n => if -128 ≤ n ∧ n ≤ 127 then some (0, n, 0, 0, []) else none
  | .bipush n => if -128 ≤ n ∧ n ≤ 127 then some (0, n, 0, 0, []) else none
  | .sipush n => if -32768 ≤ n ∧ n ≤ 32767 then some (0, n, 0, 0, []) else none
  | .iload k => some (1, 0, k, 0, [])
  | .iload_n k => some (1, 0, k, 0, [])
  | .aload k => some (2, 0, k, 0, [])
  | .aload_n k => some (2, 0, k, 0, [])
  | .lload k => some (3, 0, k, 0, [])
  | .lload_n k => some (3, 0, k, 0, [])
  | .istore k => some (4, 0, k, 0, [])
  | .istore_n k => some (4, 0, k, 0, [])
  | .astore k => some (5, 0, k, 0, [])
  | .astore_n k => some (5, 0, k, 0, [])
  | .lstore k => some (6, 0, k, 0, [])
  | .lstore_n k => some (6, 0, k, 0, [])
  | .iinc k n => some (7, n, k, 0, [])
  | .iadd => some (8, 0, 0, 0, [])
  | .isub => some (9, 0, 0, 0, [])
  | .imul => some (10, 0, 0, 0, [])
  | .idiv => some (11, 0, 0, 0, [])
  | .irem => some (12, 0, 0, 0, [])
  | .ineg => some (13, 0, 0, 0, [])
  | .iand => some (14, 0, 0, 0, [])
  | .getfield i => (mj_fnd (fun x => (x.1, x.2.1)) (mj_ci m) i mj_fL).map fun x => (15, 0, x.2.2.1, x.2.2.2.1, [])
  | .putfield i => (mj_fnd (fun x => (x.1, x.2.1)) (mj_ci m) i mj_fL).bind fun x => if (mj_TT x.2.2.1 x.2.2.2.1).2.2.2 = true then (if (mj_yy m).name = "<init>" ∧ x.2.2.1 = mj_ci m ∧ (mj_tT x.2.2.1 x.2.2.2.1).isReference = true then some (62, 0, x.2.2.1, x.2.2.2.1, []) else none) else if mj_tT x.2.2.1 x.2.2.2.1 = .int then some (16, 0, x.2.2.1, x.2.2.2.1, []) else if mj_tT x.2.2.1 x.2.2.2.1 = .long then some (16, 1, x.2.2.1, x.2.2.2.1, []) else if mj_tT x.2.2.1 x.2.2.2.1 = .boolean then some (16, 2, x.2.2.1, x.2.2.2.1, []) else none
  | .iaload => some (17, 0, 0, 0, [])
  | .iastore => some (18, 0, 0, 0, [])
  | .laload => some (19, 0, 0, 0, [])
  | .lastore => some (20, 0, 0, 0, [])
  | .aaload => some (21, 0, 0, 0, [])
  | .aastore => some (22, 0, 0, 0, [])
  | .arraylength => some (23, 0, 0, 0, [])
  | .ifCond c off => if 0 ≤ (pc : Int) + off then some (24, 0, mj_tg pc off, mj_cc c, []) else none
  | .if_icmp c off => if 0 ≤ (pc : Int) + off then some (25, 0, mj_tg pc off, mj_cc c, []) else none
  | .goto off => if 0 ≤ (pc : Int) + off then some (26, 0, mj_tg pc off, 0, []) else none
  | .tableswitch d lo hi offs => if 0 ≤ (pc : Int) + d ∧ hi - lo + 1 = (offs.toList.length : Int) ∧ (∀ o ∈ offs.toList, 0 ≤ (pc : Int) + o) then some (27, 0, mj_tg pc d, 0, mj_tsw pc lo offs.toList) else none
  | .lookupswitch d ps => if 0 ≤ (pc : Int) + d ∧ (∀ o ∈ ps.toList, 0 ≤ (pc : Int) + o.2) ∧ (ps.toList.zip (ps.toList.drop 1)).all (fun (a, next) => a.1 < next.1) = true then some (27, 0, mj_tg pc d, 0, ps.toList.map fun o => (o.1, mj_tg pc o.2)) else none
  | .return_ => match mj_rt m with
    | none => some (28, 0, 0, 0, [])
    | _ => none
  | .ireturn => match mj_rt m with
    | some .int => some (29, 0, 0, 0, [])
    | some .boolean => some (29, 0, 0, 1, [])
    | _ => none
  | .lreturn => match mj_rt m with
    | some .long => some (30, 0, 0, 0, [])
    | _ => none
  | .areturn => match mj_rt m with
    | some (.object _) => some (31, 0, 0, 0, [])
    | some (.array _) => some (31, 0, 0, 0, [])
    | _ => none
  | .invokevirtual i => (mj_fm m i).bind fun x => if x.2.2.1 < 187 ∧ x.2.2.2.1 = 0 ∧ mj_st x.2.2.1 = false ∧ (mj_yy x.2.2.1).name ≠ "<init>" then some (32, 0, x.2.2.1, 0, []) else none
  | .invokestatic i => (mj_fm m i).bind fun x => if x.2.2.1 < 187 then (if mj_st x.2.2.1 = true then some (32, 0, x.2.2.1, 1, []) else none) else if x.2.2.2.1 = 0 then (if x.2.2.1 = 1000 then some (33, 0, 0, 0, []) else if x.2.2.1 = 1001 then some (34, 0, 0, 0, []) else if x.2.2.1 = 1002 then some (35, 0, 0, 0, []) else none) else none
  | .invokespecial i => (mj_fm m i).bind fun x => if x.2.2.1 < 187 then (if mj_st x.2.2.1 = false ∧ (mj_yy x.2.2.1).name = "<init>" ∧ mj_rt x.2.2.1 = none then some (32, 0, x.2.2.1, 2, []) else none) else if x.2.2.2.1 = 0 ∧ x.2.2.1 = 1003 then some (60, 0, 0, 0, []) else none
  | .new i => (mj_fnd (fun x => (x.1, x.2.1)) (mj_ci m) i mj_cL).bind fun x => if mj_ow.idxOf x.2.2.1 < 10 then some (36, 0, mj_ow.idxOf x.2.2.1, 0, []) else none
  | .newarray .int => some (37, 0, 0, 0, [])
  | .newarray .long => some (38, 0, 0, 0, [])
  | .anewarray i => (mj_fnd (fun x => (x.1, x.2.1)) (mj_ci m) i mj_cL).bind fun x => if x.2.2.1 = "PermitBank$Tape" then some (39, 0, 0, 0, []) else none
  | .multianewarray i 2 => (mj_fnd (fun x => (x.1, x.2.1)) (mj_ci m) i mj_cL).bind fun x => if x.2.2.1 = "[[I" then some (40, 0, 0, 0, []) else none
  | .dup => some (41, 0, 0, 0, [])
  | .dup2 => some (42, 0, 0, 0, [])
  | .dup_x1 => some (43, 0, 0, 0, [])
  | .pop => some (44, 0, 0, 0, [])
  | .i2l => some (45, 0, 0, 0, [])
  | .l2i => some (46, 0, 0, 0, [])
  | .i2b => some (47, 0, 0, 0, [])
  | .i2s => some (48, 0, 0, 0, [])
  | .lconst n => some (49, ((n : Nat) : Int), 0, 0, [])
  | .ldc2_w i => (mj_fnd (fun x => (x.1, x.2.1)) (mj_ci m) i mj_lL).map fun x => (49, x.2.2.1, 0, 0, [])
  | .ladd => some (50, 0, 0, 0, [])
  | .lsub => some (51, 0, 0, 0, [])
  | .lmul => some (52, 0, 0, 0, [])
  | .ldiv => some (53, 0, 0, 0, [])
  | .lrem => some (54, 0, 0, 0, [])
  | .land => some (55, 0, 0, 0, [])
  | .lor => some (56, 0, 0, 0, [])
  | .lshl => some (57, 0, 0, 0, [])
  | .lcmp => some (58, 0, 0, 0, [])
  | .getstatic i => (mj_fnd (fun x => (x.1, x.2.1)) (mj_ci m) i mj_sL).map fun x => (59, 0, x.2.2.1, 0, [])
  | _ => none
def mj_eqL : List (Int × Nat) → List (Int × Nat) → Bool
  | [], [] => true
  | (a, b) :: r, (c, d) :: s => decide (a = c) && (decide (b = d) && mj_eqL r s)
  | _, _ => false
theorem mj_eqL_ok : ∀ {r s : List (Int × Nat)}, mj_eqL r s = true → r = s
  | [], [], _ => rfl
  | (a, b) :: r, (c, d) :: s, h => by
    simp only [mj_eqL, Bool.and_eq_true, decide_eq_true_eq] at h
    rw [h.1, h.2.1, mj_eqL_ok h.2.2]
  | [], _ :: _, h => by simp [mj_eqL] at h
  | _ :: _, [], h => by simp [mj_eqL] at h
def mj_eqM (a b : mj_MI) : Bool := decide (a.1 = b.1) && (decide (a.2.1 = b.2.1) && (decide (a.2.2.1 = b.2.2.1) && (decide (a.2.2.2.1 = b.2.2.2.1) && mj_eqL a.2.2.2.2 b.2.2.2.2)))
theorem mj_eqM_ok {a b : mj_MI} (h : mj_eqM a b = true) : a = b := by
  obtain ⟨a1, a2, a3, a4, a5⟩ := a
  obtain ⟨b1, b2, b3, b4, b5⟩ := b
  simp only [mj_eqM, Bool.and_eq_true, decide_eq_true_eq] at h
  obtain ⟨h1, h2, h3, h4, h5⟩ := h
  rw [h1, h2, h3, h4, mj_eqL_ok h5]
def mj_il : Instr → Nat
  | .iload _ => 2
  | .aload _ => 2
  | .lload _ => 2
  | .istore _ => 2
  | .astore _ => 2
  | .lstore _ => 2
  | .bipush _ => 2
  | .newarray _ => 2
  | .sipush _ => 3
  | .iinc _ _ => 3
  | .getfield _ => 3
  | .putfield _ => 3
  | .getstatic _ => 3
  | .ifCond _ _ => 3
  | .if_icmp _ _ => 3
  | .goto _ => 3
  | .invokevirtual _ => 3
  | .invokestatic _ => 3
  | .invokespecial _ => 3
  | .new _ => 3
  | .anewarray _ => 3
  | .ldc2_w _ => 3
  | .multianewarray _ _ => 4
  | .tableswitch _ _ _ _ => 0
  | .lookupswitch _ _ => 0
  | _ => 1
def mj_chk (m : Nat) (x : Nat × mj_MI × Nat) : Bool := match decode (mj_bb m) x.1 with
  | .ok (i, len) => (match mj_tr m x.1 i with
    | some y => mj_eqM y x.2.1
    | none => false) && (decide (x.2.2 = x.1 + len) && decide (mj_il i = 0 ∨ len = mj_il i))
  | .error _ => false
def mj_ok (m : Nat) : Bool := (mj_cods.getD m []).all (mj_chk m)
theorem mj_chk_ok {m : Nat} {x : Nat × mj_MI × Nat} (h : mj_chk m x = true) : ∃ i len, decode (mj_bb m) x.1 = .ok (i, len) ∧ mj_tr m x.1 i = some x.2.1 ∧ x.2.2 = x.1 + len ∧ (mj_il i = 0 ∨ len = mj_il i) := by
  unfold mj_chk at h
  split at h
  · rename_i i len hd
    simp only [Bool.and_eq_true, decide_eq_true_eq] at h
    refine ⟨i, len, hd, ?_, h.2⟩
    have h1 := h.1
    split at h1
    · rename_i y hy
      rw [hy, mj_eqM_ok h1]
    · cases h1
  · cases h
theorem mj_look_mem {l : List (Nat × mj_MI × Nat)} {pc : Nat} {x : mj_MI × Nat} : mj_look l pc = some x → (pc, x) ∈ l := by
  induction l with
  | nil => intro h; cases h
  | cons y r ih =>
    obtain ⟨p, z⟩ := y
    intro h
    unfold mj_look at h
    split at h
    · rename_i e
      cases h
      rw [e]
      exact List.mem_cons_self
    · exact List.mem_cons_of_mem _ (ih h)
end
section
-- every instruction of every method is the mini instruction that the tables have
theorem mj_ok0 : mj_ok 0 = true := by decide +kernel
theorem mj_ok1 : mj_ok 1 = true := by decide +kernel
theorem mj_ok2 : mj_ok 2 = true := by decide +kernel
theorem mj_ok3 : mj_ok 3 = true := by decide +kernel
theorem mj_ok4 : mj_ok 4 = true := by decide +kernel
theorem mj_ok5 : mj_ok 5 = true := by decide +kernel
theorem mj_ok6 : mj_ok 6 = true := by decide +kernel
theorem mj_ok7 : mj_ok 7 = true := by decide +kernel
theorem mj_ok8 : mj_ok 8 = true := by decide +kernel
theorem mj_ok9 : mj_ok 9 = true := by decide +kernel
theorem mj_ok10 : mj_ok 10 = true := by decide +kernel
theorem mj_ok11 : mj_ok 11 = true := by decide +kernel
theorem mj_ok12 : mj_ok 12 = true := by decide +kernel
theorem mj_ok13 : mj_ok 13 = true := by decide +kernel
theorem mj_ok14 : mj_ok 14 = true := by decide +kernel
theorem mj_ok15 : mj_ok 15 = true := by decide +kernel
theorem mj_ok16 : mj_ok 16 = true := by decide +kernel
theorem mj_ok17 : mj_ok 17 = true := by decide +kernel
theorem mj_ok18 : mj_ok 18 = true := by decide +kernel
theorem mj_ok19 : mj_ok 19 = true := by decide +kernel
theorem mj_ok20 : mj_ok 20 = true := by decide +kernel
theorem mj_ok21 : mj_ok 21 = true := by decide +kernel
theorem mj_ok22 : mj_ok 22 = true := by decide +kernel
theorem mj_ok23 : mj_ok 23 = true := by decide +kernel
theorem mj_ok24 : mj_ok 24 = true := by decide +kernel
theorem mj_ok25 : mj_ok 25 = true := by decide +kernel
theorem mj_ok26 : mj_ok 26 = true := by decide +kernel
theorem mj_ok27 : mj_ok 27 = true := by decide +kernel
theorem mj_ok28 : mj_ok 28 = true := by decide +kernel
theorem mj_ok29 : mj_ok 29 = true := by decide +kernel
theorem mj_ok30 : mj_ok 30 = true := by decide +kernel
theorem mj_ok31 : mj_ok 31 = true := by decide +kernel
theorem mj_ok32 : mj_ok 32 = true := by decide +kernel
theorem mj_ok33 : mj_ok 33 = true := by decide +kernel
theorem mj_ok34 : mj_ok 34 = true := by decide +kernel
theorem mj_ok35 : mj_ok 35 = true := by decide +kernel
theorem mj_ok36 : mj_ok 36 = true := by decide +kernel
theorem mj_ok37 : mj_ok 37 = true := by decide +kernel
theorem mj_ok38 : mj_ok 38 = true := by decide +kernel
theorem mj_ok39 : mj_ok 39 = true := by decide +kernel
theorem mj_ok40 : mj_ok 40 = true := by decide +kernel
theorem mj_ok41 : mj_ok 41 = true := by decide +kernel
theorem mj_ok42 : mj_ok 42 = true := by decide +kernel
theorem mj_ok43 : mj_ok 43 = true := by decide +kernel
theorem mj_ok44 : mj_ok 44 = true := by decide +kernel
theorem mj_ok45 : mj_ok 45 = true := by decide +kernel
theorem mj_ok46 : mj_ok 46 = true := by decide +kernel
theorem mj_ok47 : mj_ok 47 = true := by decide +kernel
theorem mj_ok48 : mj_ok 48 = true := by decide +kernel
theorem mj_ok49 : mj_ok 49 = true := by decide +kernel
theorem mj_ok50 : mj_ok 50 = true := by decide +kernel
theorem mj_ok51 : mj_ok 51 = true := by decide +kernel
theorem mj_ok52 : mj_ok 52 = true := by decide +kernel
theorem mj_ok53 : mj_ok 53 = true := by decide +kernel
theorem mj_ok54 : mj_ok 54 = true := by decide +kernel
theorem mj_ok55 : mj_ok 55 = true := by decide +kernel
theorem mj_ok56 : mj_ok 56 = true := by decide +kernel
theorem mj_ok57 : mj_ok 57 = true := by decide +kernel
theorem mj_ok58 : mj_ok 58 = true := by decide +kernel
theorem mj_ok59 : mj_ok 59 = true := by decide +kernel
theorem mj_ok60 : mj_ok 60 = true := by decide +kernel
theorem mj_ok61 : mj_ok 61 = true := by decide +kernel
theorem mj_ok62 : mj_ok 62 = true := by decide +kernel
theorem mj_ok63 : mj_ok 63 = true := by decide +kernel
theorem mj_ok64 : mj_ok 64 = true := by decide +kernel
theorem mj_ok65 : mj_ok 65 = true := by decide +kernel
theorem mj_ok66 : mj_ok 66 = true := by decide +kernel
theorem mj_ok67 : mj_ok 67 = true := by decide +kernel
theorem mj_ok68 : mj_ok 68 = true := by decide +kernel
theorem mj_ok69 : mj_ok 69 = true := by decide +kernel
theorem mj_ok70 : mj_ok 70 = true := by decide +kernel
theorem mj_ok71 : mj_ok 71 = true := by decide +kernel
theorem mj_ok72 : mj_ok 72 = true := by decide +kernel
theorem mj_ok73 : mj_ok 73 = true := by decide +kernel
theorem mj_ok74 : mj_ok 74 = true := by decide +kernel
theorem mj_ok75 : mj_ok 75 = true := by decide +kernel
theorem mj_ok76 : mj_ok 76 = true := by decide +kernel
theorem mj_ok77 : mj_ok 77 = true := by decide +kernel
theorem mj_ok78 : mj_ok 78 = true := by decide +kernel
theorem mj_ok79 : mj_ok 79 = true := by decide +kernel
theorem mj_ok80 : mj_ok 80 = true := by decide +kernel
theorem mj_ok81 : mj_ok 81 = true := by decide +kernel
theorem mj_ok82 : mj_ok 82 = true := by decide +kernel
theorem mj_ok83 : mj_ok 83 = true := by decide +kernel
theorem mj_ok84 : mj_ok 84 = true := by decide +kernel
theorem mj_ok85 : mj_ok 85 = true := by decide +kernel
theorem mj_ok86 : mj_ok 86 = true := by decide +kernel
theorem mj_ok87 : mj_ok 87 = true := by decide +kernel
theorem mj_ok88 : mj_ok 88 = true := by decide +kernel
theorem mj_ok89 : mj_ok 89 = true := by decide +kernel
theorem mj_ok90 : mj_ok 90 = true := by decide +kernel
theorem mj_ok91 : mj_ok 91 = true := by decide +kernel
theorem mj_ok92 : mj_ok 92 = true := by decide +kernel
theorem mj_ok93 : mj_ok 93 = true := by decide +kernel
theorem mj_ok94 : mj_ok 94 = true := by decide +kernel
theorem mj_ok95 : mj_ok 95 = true := by decide +kernel
theorem mj_ok96 : mj_ok 96 = true := by decide +kernel
theorem mj_ok97 : mj_ok 97 = true := by decide +kernel
theorem mj_ok98 : mj_ok 98 = true := by decide +kernel
theorem mj_ok99 : mj_ok 99 = true := by decide +kernel
theorem mj_ok100 : mj_ok 100 = true := by decide +kernel
theorem mj_ok101 : mj_ok 101 = true := by decide +kernel
theorem mj_ok102 : mj_ok 102 = true := by decide +kernel
theorem mj_ok103 : mj_ok 103 = true := by decide +kernel
theorem mj_ok104 : mj_ok 104 = true := by decide +kernel
theorem mj_ok105 : mj_ok 105 = true := by decide +kernel
theorem mj_ok106 : mj_ok 106 = true := by decide +kernel
theorem mj_ok107 : mj_ok 107 = true := by decide +kernel
theorem mj_ok108 : mj_ok 108 = true := by decide +kernel
theorem mj_ok109 : mj_ok 109 = true := by decide +kernel
theorem mj_ok110 : mj_ok 110 = true := by decide +kernel
theorem mj_ok111 : mj_ok 111 = true := by decide +kernel
theorem mj_ok112 : mj_ok 112 = true := by decide +kernel
theorem mj_ok113 : mj_ok 113 = true := by decide +kernel
theorem mj_ok114 : mj_ok 114 = true := by decide +kernel
theorem mj_ok115 : mj_ok 115 = true := by decide +kernel
theorem mj_ok116 : mj_ok 116 = true := by decide +kernel
theorem mj_ok117 : mj_ok 117 = true := by decide +kernel
theorem mj_ok118 : mj_ok 118 = true := by decide +kernel
theorem mj_ok119 : mj_ok 119 = true := by decide +kernel
theorem mj_ok120 : mj_ok 120 = true := by decide +kernel
theorem mj_ok121 : mj_ok 121 = true := by decide +kernel
theorem mj_ok122 : mj_ok 122 = true := by decide +kernel
theorem mj_ok123 : mj_ok 123 = true := by decide +kernel
theorem mj_ok124 : mj_ok 124 = true := by decide +kernel
theorem mj_ok125 : mj_ok 125 = true := by decide +kernel
theorem mj_ok126 : mj_ok 126 = true := by decide +kernel
theorem mj_ok127 : mj_ok 127 = true := by decide +kernel
theorem mj_ok128 : mj_ok 128 = true := by decide +kernel
theorem mj_ok129 : mj_ok 129 = true := by decide +kernel
theorem mj_ok130 : mj_ok 130 = true := by decide +kernel
theorem mj_ok131 : mj_ok 131 = true := by decide +kernel
theorem mj_ok132 : mj_ok 132 = true := by decide +kernel
theorem mj_ok133 : mj_ok 133 = true := by decide +kernel
theorem mj_ok134 : mj_ok 134 = true := by decide +kernel
theorem mj_ok135 : mj_ok 135 = true := by decide +kernel
theorem mj_ok136 : mj_ok 136 = true := by decide +kernel
theorem mj_ok137 : mj_ok 137 = true := by decide +kernel
theorem mj_ok138 : mj_ok 138 = true := by decide +kernel
theorem mj_ok139 : mj_ok 139 = true := by decide +kernel
theorem mj_ok140 : mj_ok 140 = true := by decide +kernel
theorem mj_ok141 : mj_ok 141 = true := by decide +kernel
theorem mj_ok142 : mj_ok 142 = true := by decide +kernel
theorem mj_ok143 : mj_ok 143 = true := by decide +kernel
theorem mj_ok144 : mj_ok 144 = true := by decide +kernel
theorem mj_ok145 : mj_ok 145 = true := by decide +kernel
theorem mj_ok146 : mj_ok 146 = true := by decide +kernel
theorem mj_ok147 : mj_ok 147 = true := by decide +kernel
theorem mj_ok148 : mj_ok 148 = true := by decide +kernel
theorem mj_ok149 : mj_ok 149 = true := by decide +kernel
theorem mj_ok150 : mj_ok 150 = true := by decide +kernel
theorem mj_ok151 : mj_ok 151 = true := by decide +kernel
theorem mj_ok152 : mj_ok 152 = true := by decide +kernel
theorem mj_ok153 : mj_ok 153 = true := by decide +kernel
theorem mj_ok154 : mj_ok 154 = true := by decide +kernel
theorem mj_ok155 : mj_ok 155 = true := by decide +kernel
theorem mj_ok156 : mj_ok 156 = true := by decide +kernel
theorem mj_ok157 : mj_ok 157 = true := by decide +kernel
theorem mj_ok158 : mj_ok 158 = true := by decide +kernel
theorem mj_ok159 : mj_ok 159 = true := by decide +kernel
theorem mj_ok160 : mj_ok 160 = true := by decide +kernel
theorem mj_ok161 : mj_ok 161 = true := by decide +kernel
theorem mj_ok162 : mj_ok 162 = true := by decide +kernel
theorem mj_ok163 : mj_ok 163 = true := by decide +kernel
theorem mj_ok164 : mj_ok 164 = true := by decide +kernel
theorem mj_ok165 : mj_ok 165 = true := by decide +kernel
theorem mj_ok166 : mj_ok 166 = true := by decide +kernel
theorem mj_ok167 : mj_ok 167 = true := by decide +kernel
theorem mj_ok168 : mj_ok 168 = true := by decide +kernel
theorem mj_ok169 : mj_ok 169 = true := by decide +kernel
theorem mj_ok170 : mj_ok 170 = true := by decide +kernel
theorem mj_ok171 : mj_ok 171 = true := by decide +kernel
theorem mj_ok172 : mj_ok 172 = true := by decide +kernel
theorem mj_ok173 : mj_ok 173 = true := by decide +kernel
theorem mj_ok174 : mj_ok 174 = true := by decide +kernel
theorem mj_ok175 : mj_ok 175 = true := by decide +kernel
theorem mj_ok176 : mj_ok 176 = true := by decide +kernel
theorem mj_ok177 : mj_ok 177 = true := by decide +kernel
theorem mj_ok178 : mj_ok 178 = true := by decide +kernel
theorem mj_ok179 : mj_ok 179 = true := by decide +kernel
theorem mj_ok180 : mj_ok 180 = true := by decide +kernel
theorem mj_ok181 : mj_ok 181 = true := by decide +kernel
theorem mj_ok182 : mj_ok 182 = true := by decide +kernel
theorem mj_ok183 : mj_ok 183 = true := by decide +kernel
theorem mj_ok184 : mj_ok 184 = true := by decide +kernel
theorem mj_ok185 : mj_ok 185 = true := by decide +kernel
theorem mj_ok186 : mj_ok 186 = true := by decide +kernel
end
section
-- the law's instructions, fifty at a time
theorem mj_lw0 : ((mj_c187.drop 0).take 40).all (mj_chk 187) = true := by decide +kernel
theorem mj_lw1 : ((mj_c187.drop 40).take 40).all (mj_chk 187) = true := by decide +kernel
theorem mj_lw2 : ((mj_c187.drop 80).take 40).all (mj_chk 187) = true := by decide +kernel
theorem mj_lw3 : ((mj_c187.drop 120).take 40).all (mj_chk 187) = true := by decide +kernel
theorem mj_lw4 : ((mj_c187.drop 160).take 40).all (mj_chk 187) = true := by decide +kernel
theorem mj_lw5 : ((mj_c187.drop 200).take 40).all (mj_chk 187) = true := by decide +kernel
theorem mj_lw6 : ((mj_c187.drop 240).take 40).all (mj_chk 187) = true := by decide +kernel
theorem mj_lw7 : ((mj_c187.drop 280).take 40).all (mj_chk 187) = true := by decide +kernel
theorem mj_lw8 : ((mj_c187.drop 320).take 40).all (mj_chk 187) = true := by decide +kernel
theorem mj_lw9 : ((mj_c187.drop 360).take 40).all (mj_chk 187) = true := by decide +kernel
theorem mj_lw10 : ((mj_c187.drop 400).take 40).all (mj_chk 187) = true := by decide +kernel
theorem mj_lw11 : ((mj_c187.drop 440).take 40).all (mj_chk 187) = true := by decide +kernel
theorem mj_lw12 : ((mj_c187.drop 480).take 40).all (mj_chk 187) = true := by decide +kernel
theorem mj_lw13 : ((mj_c187.drop 520).take 40).all (mj_chk 187) = true := by decide +kernel
theorem mj_lw14 : ((mj_c187.drop 560).take 40).all (mj_chk 187) = true := by decide +kernel
theorem mj_lw15 : ((mj_c187.drop 600).take 40).all (mj_chk 187) = true := by decide +kernel
theorem mj_lw16 : ((mj_c187.drop 640).take 40).all (mj_chk 187) = true := by decide +kernel
theorem mj_lw17 : ((mj_c187.drop 680).take 40).all (mj_chk 187) = true := by decide +kernel
theorem mj_lw18 : ((mj_c187.drop 720).take 40).all (mj_chk 187) = true := by decide +kernel
theorem mj_lw19 : ((mj_c187.drop 760).take 40).all (mj_chk 187) = true := by decide +kernel
theorem mj_lw20 : ((mj_c187.drop 800).take 40).all (mj_chk 187) = true := by decide +kernel
theorem mj_lw21 : ((mj_c187.drop 840).take 40).all (mj_chk 187) = true := by decide +kernel
theorem mj_lw22 : ((mj_c187.drop 880).take 40).all (mj_chk 187) = true := by decide +kernel
theorem mj_all_cut {α : Type} {f : α → Bool} {l : List α} (a b : Nat) (h1 : ((l.drop a).take b).all f = true) (h2 : (l.drop (a + b)).all f = true) : (l.drop a).all f = true := by
  rw [← List.take_append_drop b (l.drop a), List.all_append, h1, List.drop_drop, h2]
  rfl
theorem mj_lwE : (mj_c187.drop 920).all (mj_chk 187) = true := by decide +kernel
theorem mj_lwD22 : (mj_c187.drop 880).all (mj_chk 187) = true := mj_all_cut 880 40 mj_lw22 mj_lwE
theorem mj_lwD21 : (mj_c187.drop 840).all (mj_chk 187) = true := mj_all_cut 840 40 mj_lw21 mj_lwD22
theorem mj_lwD20 : (mj_c187.drop 800).all (mj_chk 187) = true := mj_all_cut 800 40 mj_lw20 mj_lwD21
theorem mj_lwD19 : (mj_c187.drop 760).all (mj_chk 187) = true := mj_all_cut 760 40 mj_lw19 mj_lwD20
theorem mj_lwD18 : (mj_c187.drop 720).all (mj_chk 187) = true := mj_all_cut 720 40 mj_lw18 mj_lwD19
theorem mj_lwD17 : (mj_c187.drop 680).all (mj_chk 187) = true := mj_all_cut 680 40 mj_lw17 mj_lwD18
theorem mj_lwD16 : (mj_c187.drop 640).all (mj_chk 187) = true := mj_all_cut 640 40 mj_lw16 mj_lwD17
theorem mj_lwD15 : (mj_c187.drop 600).all (mj_chk 187) = true := mj_all_cut 600 40 mj_lw15 mj_lwD16
theorem mj_lwD14 : (mj_c187.drop 560).all (mj_chk 187) = true := mj_all_cut 560 40 mj_lw14 mj_lwD15
theorem mj_lwD13 : (mj_c187.drop 520).all (mj_chk 187) = true := mj_all_cut 520 40 mj_lw13 mj_lwD14
theorem mj_lwD12 : (mj_c187.drop 480).all (mj_chk 187) = true := mj_all_cut 480 40 mj_lw12 mj_lwD13
theorem mj_lwD11 : (mj_c187.drop 440).all (mj_chk 187) = true := mj_all_cut 440 40 mj_lw11 mj_lwD12
theorem mj_lwD10 : (mj_c187.drop 400).all (mj_chk 187) = true := mj_all_cut 400 40 mj_lw10 mj_lwD11
theorem mj_lwD9 : (mj_c187.drop 360).all (mj_chk 187) = true := mj_all_cut 360 40 mj_lw9 mj_lwD10
theorem mj_lwD8 : (mj_c187.drop 320).all (mj_chk 187) = true := mj_all_cut 320 40 mj_lw8 mj_lwD9
theorem mj_lwD7 : (mj_c187.drop 280).all (mj_chk 187) = true := mj_all_cut 280 40 mj_lw7 mj_lwD8
theorem mj_lwD6 : (mj_c187.drop 240).all (mj_chk 187) = true := mj_all_cut 240 40 mj_lw6 mj_lwD7
theorem mj_lwD5 : (mj_c187.drop 200).all (mj_chk 187) = true := mj_all_cut 200 40 mj_lw5 mj_lwD6
theorem mj_lwD4 : (mj_c187.drop 160).all (mj_chk 187) = true := mj_all_cut 160 40 mj_lw4 mj_lwD5
theorem mj_lwD3 : (mj_c187.drop 120).all (mj_chk 187) = true := mj_all_cut 120 40 mj_lw3 mj_lwD4
theorem mj_lwD2 : (mj_c187.drop 80).all (mj_chk 187) = true := mj_all_cut 80 40 mj_lw2 mj_lwD3
theorem mj_lwD1 : (mj_c187.drop 40).all (mj_chk 187) = true := mj_all_cut 40 40 mj_lw1 mj_lwD2
theorem mj_lwD0 : (mj_c187.drop 0).all (mj_chk 187) = true := mj_all_cut 0 40 mj_lw0 mj_lwD1
theorem mj_ok187 : mj_ok 187 = true := mj_lwD0
end
section
theorem mj_ok_all : ∀ m, m < 188 → mj_ok m = true := by
  intro m hm
  · rcases Nat.lt_or_ge m 94 with h1 | h1
    · rcases Nat.lt_or_ge m 47 with h2 | h2
      · rcases Nat.lt_or_ge m 23 with h3 | h3
        · rcases Nat.lt_or_ge m 11 with h4 | h4
          · rcases Nat.lt_or_ge m 5 with h5 | h5
            · rcases Nat.lt_or_ge m 2 with h6 | h6
              · rcases Nat.lt_or_ge m 1 with h7 | h7
                · rw [show m = 0 by omega]; exact mj_ok0
                · rw [show m = 1 by omega]; exact mj_ok1
              · rcases Nat.lt_or_ge m 3 with h7 | h7
                · rw [show m = 2 by omega]; exact mj_ok2
                · rcases Nat.lt_or_ge m 4 with h8 | h8
                  · rw [show m = 3 by omega]; exact mj_ok3
                  · rw [show m = 4 by omega]; exact mj_ok4
            · rcases Nat.lt_or_ge m 8 with h6 | h6
              · rcases Nat.lt_or_ge m 6 with h7 | h7
                · rw [show m = 5 by omega]; exact mj_ok5
                · rcases Nat.lt_or_ge m 7 with h8 | h8
                  · rw [show m = 6 by omega]; exact mj_ok6
                  · rw [show m = 7 by omega]; exact mj_ok7
              · rcases Nat.lt_or_ge m 9 with h7 | h7
                · rw [show m = 8 by omega]; exact mj_ok8
                · rcases Nat.lt_or_ge m 10 with h8 | h8
                  · rw [show m = 9 by omega]; exact mj_ok9
                  · rw [show m = 10 by omega]; exact mj_ok10
          · rcases Nat.lt_or_ge m 17 with h5 | h5
            · rcases Nat.lt_or_ge m 14 with h6 | h6
              · rcases Nat.lt_or_ge m 12 with h7 | h7
                · rw [show m = 11 by omega]; exact mj_ok11
                · rcases Nat.lt_or_ge m 13 with h8 | h8
                  · rw [show m = 12 by omega]; exact mj_ok12
                  · rw [show m = 13 by omega]; exact mj_ok13
              · rcases Nat.lt_or_ge m 15 with h7 | h7
                · rw [show m = 14 by omega]; exact mj_ok14
                · rcases Nat.lt_or_ge m 16 with h8 | h8
                  · rw [show m = 15 by omega]; exact mj_ok15
                  · rw [show m = 16 by omega]; exact mj_ok16
            · rcases Nat.lt_or_ge m 20 with h6 | h6
              · rcases Nat.lt_or_ge m 18 with h7 | h7
                · rw [show m = 17 by omega]; exact mj_ok17
                · rcases Nat.lt_or_ge m 19 with h8 | h8
                  · rw [show m = 18 by omega]; exact mj_ok18
                  · rw [show m = 19 by omega]; exact mj_ok19
              · rcases Nat.lt_or_ge m 21 with h7 | h7
                · rw [show m = 20 by omega]; exact mj_ok20
                · rcases Nat.lt_or_ge m 22 with h8 | h8
                  · rw [show m = 21 by omega]; exact mj_ok21
                  · rw [show m = 22 by omega]; exact mj_ok22
        · rcases Nat.lt_or_ge m 35 with h4 | h4
          · rcases Nat.lt_or_ge m 29 with h5 | h5
            · rcases Nat.lt_or_ge m 26 with h6 | h6
              · rcases Nat.lt_or_ge m 24 with h7 | h7
                · rw [show m = 23 by omega]; exact mj_ok23
                · rcases Nat.lt_or_ge m 25 with h8 | h8
                  · rw [show m = 24 by omega]; exact mj_ok24
                  · rw [show m = 25 by omega]; exact mj_ok25
              · rcases Nat.lt_or_ge m 27 with h7 | h7
                · rw [show m = 26 by omega]; exact mj_ok26
                · rcases Nat.lt_or_ge m 28 with h8 | h8
                  · rw [show m = 27 by omega]; exact mj_ok27
                  · rw [show m = 28 by omega]; exact mj_ok28
            · rcases Nat.lt_or_ge m 32 with h6 | h6
              · rcases Nat.lt_or_ge m 30 with h7 | h7
                · rw [show m = 29 by omega]; exact mj_ok29
                · rcases Nat.lt_or_ge m 31 with h8 | h8
                  · rw [show m = 30 by omega]; exact mj_ok30
                  · rw [show m = 31 by omega]; exact mj_ok31
              · rcases Nat.lt_or_ge m 33 with h7 | h7
                · rw [show m = 32 by omega]; exact mj_ok32
                · rcases Nat.lt_or_ge m 34 with h8 | h8
                  · rw [show m = 33 by omega]; exact mj_ok33
                  · rw [show m = 34 by omega]; exact mj_ok34
          · rcases Nat.lt_or_ge m 41 with h5 | h5
            · rcases Nat.lt_or_ge m 38 with h6 | h6
              · rcases Nat.lt_or_ge m 36 with h7 | h7
                · rw [show m = 35 by omega]; exact mj_ok35
                · rcases Nat.lt_or_ge m 37 with h8 | h8
                  · rw [show m = 36 by omega]; exact mj_ok36
                  · rw [show m = 37 by omega]; exact mj_ok37
              · rcases Nat.lt_or_ge m 39 with h7 | h7
                · rw [show m = 38 by omega]; exact mj_ok38
                · rcases Nat.lt_or_ge m 40 with h8 | h8
                  · rw [show m = 39 by omega]; exact mj_ok39
                  · rw [show m = 40 by omega]; exact mj_ok40
            · rcases Nat.lt_or_ge m 44 with h6 | h6
              · rcases Nat.lt_or_ge m 42 with h7 | h7
                · rw [show m = 41 by omega]; exact mj_ok41
                · rcases Nat.lt_or_ge m 43 with h8 | h8
                  · rw [show m = 42 by omega]; exact mj_ok42
                  · rw [show m = 43 by omega]; exact mj_ok43
              · rcases Nat.lt_or_ge m 45 with h7 | h7
                · rw [show m = 44 by omega]; exact mj_ok44
                · rcases Nat.lt_or_ge m 46 with h8 | h8
                  · rw [show m = 45 by omega]; exact mj_ok45
                  · rw [show m = 46 by omega]; exact mj_ok46
      · rcases Nat.lt_or_ge m 70 with h3 | h3
        · rcases Nat.lt_or_ge m 58 with h4 | h4
          · rcases Nat.lt_or_ge m 52 with h5 | h5
            · rcases Nat.lt_or_ge m 49 with h6 | h6
              · rcases Nat.lt_or_ge m 48 with h7 | h7
                · rw [show m = 47 by omega]; exact mj_ok47
                · rw [show m = 48 by omega]; exact mj_ok48
              · rcases Nat.lt_or_ge m 50 with h7 | h7
                · rw [show m = 49 by omega]; exact mj_ok49
                · rcases Nat.lt_or_ge m 51 with h8 | h8
                  · rw [show m = 50 by omega]; exact mj_ok50
                  · rw [show m = 51 by omega]; exact mj_ok51
            · rcases Nat.lt_or_ge m 55 with h6 | h6
              · rcases Nat.lt_or_ge m 53 with h7 | h7
                · rw [show m = 52 by omega]; exact mj_ok52
                · rcases Nat.lt_or_ge m 54 with h8 | h8
                  · rw [show m = 53 by omega]; exact mj_ok53
                  · rw [show m = 54 by omega]; exact mj_ok54
              · rcases Nat.lt_or_ge m 56 with h7 | h7
                · rw [show m = 55 by omega]; exact mj_ok55
                · rcases Nat.lt_or_ge m 57 with h8 | h8
                  · rw [show m = 56 by omega]; exact mj_ok56
                  · rw [show m = 57 by omega]; exact mj_ok57
          · rcases Nat.lt_or_ge m 64 with h5 | h5
            · rcases Nat.lt_or_ge m 61 with h6 | h6
              · rcases Nat.lt_or_ge m 59 with h7 | h7
                · rw [show m = 58 by omega]; exact mj_ok58
                · rcases Nat.lt_or_ge m 60 with h8 | h8
                  · rw [show m = 59 by omega]; exact mj_ok59
                  · rw [show m = 60 by omega]; exact mj_ok60
              · rcases Nat.lt_or_ge m 62 with h7 | h7
                · rw [show m = 61 by omega]; exact mj_ok61
                · rcases Nat.lt_or_ge m 63 with h8 | h8
                  · rw [show m = 62 by omega]; exact mj_ok62
                  · rw [show m = 63 by omega]; exact mj_ok63
            · rcases Nat.lt_or_ge m 67 with h6 | h6
              · rcases Nat.lt_or_ge m 65 with h7 | h7
                · rw [show m = 64 by omega]; exact mj_ok64
                · rcases Nat.lt_or_ge m 66 with h8 | h8
                  · rw [show m = 65 by omega]; exact mj_ok65
                  · rw [show m = 66 by omega]; exact mj_ok66
              · rcases Nat.lt_or_ge m 68 with h7 | h7
                · rw [show m = 67 by omega]; exact mj_ok67
                · rcases Nat.lt_or_ge m 69 with h8 | h8
                  · rw [show m = 68 by omega]; exact mj_ok68
                  · rw [show m = 69 by omega]; exact mj_ok69
        · rcases Nat.lt_or_ge m 82 with h4 | h4
          · rcases Nat.lt_or_ge m 76 with h5 | h5
            · rcases Nat.lt_or_ge m 73 with h6 | h6
              · rcases Nat.lt_or_ge m 71 with h7 | h7
                · rw [show m = 70 by omega]; exact mj_ok70
                · rcases Nat.lt_or_ge m 72 with h8 | h8
                  · rw [show m = 71 by omega]; exact mj_ok71
                  · rw [show m = 72 by omega]; exact mj_ok72
              · rcases Nat.lt_or_ge m 74 with h7 | h7
                · rw [show m = 73 by omega]; exact mj_ok73
                · rcases Nat.lt_or_ge m 75 with h8 | h8
                  · rw [show m = 74 by omega]; exact mj_ok74
                  · rw [show m = 75 by omega]; exact mj_ok75
            · rcases Nat.lt_or_ge m 79 with h6 | h6
              · rcases Nat.lt_or_ge m 77 with h7 | h7
                · rw [show m = 76 by omega]; exact mj_ok76
                · rcases Nat.lt_or_ge m 78 with h8 | h8
                  · rw [show m = 77 by omega]; exact mj_ok77
                  · rw [show m = 78 by omega]; exact mj_ok78
              · rcases Nat.lt_or_ge m 80 with h7 | h7
                · rw [show m = 79 by omega]; exact mj_ok79
                · rcases Nat.lt_or_ge m 81 with h8 | h8
                  · rw [show m = 80 by omega]; exact mj_ok80
                  · rw [show m = 81 by omega]; exact mj_ok81
          · rcases Nat.lt_or_ge m 88 with h5 | h5
            · rcases Nat.lt_or_ge m 85 with h6 | h6
              · rcases Nat.lt_or_ge m 83 with h7 | h7
                · rw [show m = 82 by omega]; exact mj_ok82
                · rcases Nat.lt_or_ge m 84 with h8 | h8
                  · rw [show m = 83 by omega]; exact mj_ok83
                  · rw [show m = 84 by omega]; exact mj_ok84
              · rcases Nat.lt_or_ge m 86 with h7 | h7
                · rw [show m = 85 by omega]; exact mj_ok85
                · rcases Nat.lt_or_ge m 87 with h8 | h8
                  · rw [show m = 86 by omega]; exact mj_ok86
                  · rw [show m = 87 by omega]; exact mj_ok87
            · rcases Nat.lt_or_ge m 91 with h6 | h6
              · rcases Nat.lt_or_ge m 89 with h7 | h7
                · rw [show m = 88 by omega]; exact mj_ok88
                · rcases Nat.lt_or_ge m 90 with h8 | h8
                  · rw [show m = 89 by omega]; exact mj_ok89
                  · rw [show m = 90 by omega]; exact mj_ok90
              · rcases Nat.lt_or_ge m 92 with h7 | h7
                · rw [show m = 91 by omega]; exact mj_ok91
                · rcases Nat.lt_or_ge m 93 with h8 | h8
                  · rw [show m = 92 by omega]; exact mj_ok92
                  · rw [show m = 93 by omega]; exact mj_ok93
    · rcases Nat.lt_or_ge m 141 with h2 | h2
      · rcases Nat.lt_or_ge m 117 with h3 | h3
        · rcases Nat.lt_or_ge m 105 with h4 | h4
          · rcases Nat.lt_or_ge m 99 with h5 | h5
            · rcases Nat.lt_or_ge m 96 with h6 | h6
              · rcases Nat.lt_or_ge m 95 with h7 | h7
                · rw [show m = 94 by omega]; exact mj_ok94
                · rw [show m = 95 by omega]; exact mj_ok95
              · rcases Nat.lt_or_ge m 97 with h7 | h7
                · rw [show m = 96 by omega]; exact mj_ok96
                · rcases Nat.lt_or_ge m 98 with h8 | h8
                  · rw [show m = 97 by omega]; exact mj_ok97
                  · rw [show m = 98 by omega]; exact mj_ok98
            · rcases Nat.lt_or_ge m 102 with h6 | h6
              · rcases Nat.lt_or_ge m 100 with h7 | h7
                · rw [show m = 99 by omega]; exact mj_ok99
                · rcases Nat.lt_or_ge m 101 with h8 | h8
                  · rw [show m = 100 by omega]; exact mj_ok100
                  · rw [show m = 101 by omega]; exact mj_ok101
              · rcases Nat.lt_or_ge m 103 with h7 | h7
                · rw [show m = 102 by omega]; exact mj_ok102
                · rcases Nat.lt_or_ge m 104 with h8 | h8
                  · rw [show m = 103 by omega]; exact mj_ok103
                  · rw [show m = 104 by omega]; exact mj_ok104
          · rcases Nat.lt_or_ge m 111 with h5 | h5
            · rcases Nat.lt_or_ge m 108 with h6 | h6
              · rcases Nat.lt_or_ge m 106 with h7 | h7
                · rw [show m = 105 by omega]; exact mj_ok105
                · rcases Nat.lt_or_ge m 107 with h8 | h8
                  · rw [show m = 106 by omega]; exact mj_ok106
                  · rw [show m = 107 by omega]; exact mj_ok107
              · rcases Nat.lt_or_ge m 109 with h7 | h7
                · rw [show m = 108 by omega]; exact mj_ok108
                · rcases Nat.lt_or_ge m 110 with h8 | h8
                  · rw [show m = 109 by omega]; exact mj_ok109
                  · rw [show m = 110 by omega]; exact mj_ok110
            · rcases Nat.lt_or_ge m 114 with h6 | h6
              · rcases Nat.lt_or_ge m 112 with h7 | h7
                · rw [show m = 111 by omega]; exact mj_ok111
                · rcases Nat.lt_or_ge m 113 with h8 | h8
                  · rw [show m = 112 by omega]; exact mj_ok112
                  · rw [show m = 113 by omega]; exact mj_ok113
              · rcases Nat.lt_or_ge m 115 with h7 | h7
                · rw [show m = 114 by omega]; exact mj_ok114
                · rcases Nat.lt_or_ge m 116 with h8 | h8
                  · rw [show m = 115 by omega]; exact mj_ok115
                  · rw [show m = 116 by omega]; exact mj_ok116
        · rcases Nat.lt_or_ge m 129 with h4 | h4
          · rcases Nat.lt_or_ge m 123 with h5 | h5
            · rcases Nat.lt_or_ge m 120 with h6 | h6
              · rcases Nat.lt_or_ge m 118 with h7 | h7
                · rw [show m = 117 by omega]; exact mj_ok117
                · rcases Nat.lt_or_ge m 119 with h8 | h8
                  · rw [show m = 118 by omega]; exact mj_ok118
                  · rw [show m = 119 by omega]; exact mj_ok119
              · rcases Nat.lt_or_ge m 121 with h7 | h7
                · rw [show m = 120 by omega]; exact mj_ok120
                · rcases Nat.lt_or_ge m 122 with h8 | h8
                  · rw [show m = 121 by omega]; exact mj_ok121
                  · rw [show m = 122 by omega]; exact mj_ok122
            · rcases Nat.lt_or_ge m 126 with h6 | h6
              · rcases Nat.lt_or_ge m 124 with h7 | h7
                · rw [show m = 123 by omega]; exact mj_ok123
                · rcases Nat.lt_or_ge m 125 with h8 | h8
                  · rw [show m = 124 by omega]; exact mj_ok124
                  · rw [show m = 125 by omega]; exact mj_ok125
              · rcases Nat.lt_or_ge m 127 with h7 | h7
                · rw [show m = 126 by omega]; exact mj_ok126
                · rcases Nat.lt_or_ge m 128 with h8 | h8
                  · rw [show m = 127 by omega]; exact mj_ok127
                  · rw [show m = 128 by omega]; exact mj_ok128
          · rcases Nat.lt_or_ge m 135 with h5 | h5
            · rcases Nat.lt_or_ge m 132 with h6 | h6
              · rcases Nat.lt_or_ge m 130 with h7 | h7
                · rw [show m = 129 by omega]; exact mj_ok129
                · rcases Nat.lt_or_ge m 131 with h8 | h8
                  · rw [show m = 130 by omega]; exact mj_ok130
                  · rw [show m = 131 by omega]; exact mj_ok131
              · rcases Nat.lt_or_ge m 133 with h7 | h7
                · rw [show m = 132 by omega]; exact mj_ok132
                · rcases Nat.lt_or_ge m 134 with h8 | h8
                  · rw [show m = 133 by omega]; exact mj_ok133
                  · rw [show m = 134 by omega]; exact mj_ok134
            · rcases Nat.lt_or_ge m 138 with h6 | h6
              · rcases Nat.lt_or_ge m 136 with h7 | h7
                · rw [show m = 135 by omega]; exact mj_ok135
                · rcases Nat.lt_or_ge m 137 with h8 | h8
                  · rw [show m = 136 by omega]; exact mj_ok136
                  · rw [show m = 137 by omega]; exact mj_ok137
              · rcases Nat.lt_or_ge m 139 with h7 | h7
                · rw [show m = 138 by omega]; exact mj_ok138
                · rcases Nat.lt_or_ge m 140 with h8 | h8
                  · rw [show m = 139 by omega]; exact mj_ok139
                  · rw [show m = 140 by omega]; exact mj_ok140
      · rcases Nat.lt_or_ge m 164 with h3 | h3
        · rcases Nat.lt_or_ge m 152 with h4 | h4
          · rcases Nat.lt_or_ge m 146 with h5 | h5
            · rcases Nat.lt_or_ge m 143 with h6 | h6
              · rcases Nat.lt_or_ge m 142 with h7 | h7
                · rw [show m = 141 by omega]; exact mj_ok141
                · rw [show m = 142 by omega]; exact mj_ok142
              · rcases Nat.lt_or_ge m 144 with h7 | h7
                · rw [show m = 143 by omega]; exact mj_ok143
                · rcases Nat.lt_or_ge m 145 with h8 | h8
                  · rw [show m = 144 by omega]; exact mj_ok144
                  · rw [show m = 145 by omega]; exact mj_ok145
            · rcases Nat.lt_or_ge m 149 with h6 | h6
              · rcases Nat.lt_or_ge m 147 with h7 | h7
                · rw [show m = 146 by omega]; exact mj_ok146
                · rcases Nat.lt_or_ge m 148 with h8 | h8
                  · rw [show m = 147 by omega]; exact mj_ok147
                  · rw [show m = 148 by omega]; exact mj_ok148
              · rcases Nat.lt_or_ge m 150 with h7 | h7
                · rw [show m = 149 by omega]; exact mj_ok149
                · rcases Nat.lt_or_ge m 151 with h8 | h8
                  · rw [show m = 150 by omega]; exact mj_ok150
                  · rw [show m = 151 by omega]; exact mj_ok151
          · rcases Nat.lt_or_ge m 158 with h5 | h5
            · rcases Nat.lt_or_ge m 155 with h6 | h6
              · rcases Nat.lt_or_ge m 153 with h7 | h7
                · rw [show m = 152 by omega]; exact mj_ok152
                · rcases Nat.lt_or_ge m 154 with h8 | h8
                  · rw [show m = 153 by omega]; exact mj_ok153
                  · rw [show m = 154 by omega]; exact mj_ok154
              · rcases Nat.lt_or_ge m 156 with h7 | h7
                · rw [show m = 155 by omega]; exact mj_ok155
                · rcases Nat.lt_or_ge m 157 with h8 | h8
                  · rw [show m = 156 by omega]; exact mj_ok156
                  · rw [show m = 157 by omega]; exact mj_ok157
            · rcases Nat.lt_or_ge m 161 with h6 | h6
              · rcases Nat.lt_or_ge m 159 with h7 | h7
                · rw [show m = 158 by omega]; exact mj_ok158
                · rcases Nat.lt_or_ge m 160 with h8 | h8
                  · rw [show m = 159 by omega]; exact mj_ok159
                  · rw [show m = 160 by omega]; exact mj_ok160
              · rcases Nat.lt_or_ge m 162 with h7 | h7
                · rw [show m = 161 by omega]; exact mj_ok161
                · rcases Nat.lt_or_ge m 163 with h8 | h8
                  · rw [show m = 162 by omega]; exact mj_ok162
                  · rw [show m = 163 by omega]; exact mj_ok163
        · rcases Nat.lt_or_ge m 176 with h4 | h4
          · rcases Nat.lt_or_ge m 170 with h5 | h5
            · rcases Nat.lt_or_ge m 167 with h6 | h6
              · rcases Nat.lt_or_ge m 165 with h7 | h7
                · rw [show m = 164 by omega]; exact mj_ok164
                · rcases Nat.lt_or_ge m 166 with h8 | h8
                  · rw [show m = 165 by omega]; exact mj_ok165
                  · rw [show m = 166 by omega]; exact mj_ok166
              · rcases Nat.lt_or_ge m 168 with h7 | h7
                · rw [show m = 167 by omega]; exact mj_ok167
                · rcases Nat.lt_or_ge m 169 with h8 | h8
                  · rw [show m = 168 by omega]; exact mj_ok168
                  · rw [show m = 169 by omega]; exact mj_ok169
            · rcases Nat.lt_or_ge m 173 with h6 | h6
              · rcases Nat.lt_or_ge m 171 with h7 | h7
                · rw [show m = 170 by omega]; exact mj_ok170
                · rcases Nat.lt_or_ge m 172 with h8 | h8
                  · rw [show m = 171 by omega]; exact mj_ok171
                  · rw [show m = 172 by omega]; exact mj_ok172
              · rcases Nat.lt_or_ge m 174 with h7 | h7
                · rw [show m = 173 by omega]; exact mj_ok173
                · rcases Nat.lt_or_ge m 175 with h8 | h8
                  · rw [show m = 174 by omega]; exact mj_ok174
                  · rw [show m = 175 by omega]; exact mj_ok175
          · rcases Nat.lt_or_ge m 182 with h5 | h5
            · rcases Nat.lt_or_ge m 179 with h6 | h6
              · rcases Nat.lt_or_ge m 177 with h7 | h7
                · rw [show m = 176 by omega]; exact mj_ok176
                · rcases Nat.lt_or_ge m 178 with h8 | h8
                  · rw [show m = 177 by omega]; exact mj_ok177
                  · rw [show m = 178 by omega]; exact mj_ok178
              · rcases Nat.lt_or_ge m 180 with h7 | h7
                · rw [show m = 179 by omega]; exact mj_ok179
                · rcases Nat.lt_or_ge m 181 with h8 | h8
                  · rw [show m = 180 by omega]; exact mj_ok180
                  · rw [show m = 181 by omega]; exact mj_ok181
            · rcases Nat.lt_or_ge m 185 with h6 | h6
              · rcases Nat.lt_or_ge m 183 with h7 | h7
                · rw [show m = 182 by omega]; exact mj_ok182
                · rcases Nat.lt_or_ge m 184 with h8 | h8
                  · rw [show m = 183 by omega]; exact mj_ok183
                  · rw [show m = 184 by omega]; exact mj_ok184
              · rcases Nat.lt_or_ge m 186 with h7 | h7
                · rw [show m = 185 by omega]; exact mj_ok185
                · rcases Nat.lt_or_ge m 187 with h8 | h8
                  · rw [show m = 186 by omega]; exact mj_ok186
                  · rw [show m = 187 by omega]; exact mj_ok187
theorem mj_cod_lt {m pc : Nat} {x : mj_MI × Nat} (h : mj_cod m pc = some x) : m < 188 := by
  rcases Nat.lt_or_ge m 188 with h1 | h1
  · exact h1
  · have h2 : mj_cods.getD m [] = [] := by
      rw [List.getD_eq_getElem?_getD, List.getElem?_eq_none (by show 188 ≤ m; exact h1)]
      rfl
    unfold mj_cod at h
    rw [h2] at h
    cases h
theorem mj_cod_ok {m pc nx : Nat} {mi : mj_MI} (hm : m < 188) (h : mj_cod m pc = some (mi, nx)) : ∃ i len, decode (mj_bb m) pc = .ok (i, len) ∧ mj_tr m pc i = some mi ∧ nx = pc + len ∧ (mj_il i = 0 ∨ len = mj_il i) := by
  unfold mj_cod at h
  have h1 := mj_look_mem h
  have h3 := mj_ok_all m hm
  unfold mj_ok at h3
  generalize mj_cods.getD m [] = l at h1 h3
  have h2 := (List.all_eq_true.mp h3) (pc, mi, nx) h1
  exact mj_chk_ok (x := (pc, mi, nx)) h2
end
section
-- THE WORLD: what the mini machine's state is in the machine's heap: cell number i at the address z0 + i
def mj_rl (z0 : Nat) (cst : Nat → Nat) : mj_V → Value
  | .inl x => .int (Int32.ofInt x)
  | .inr (.inl x) => .long x
  | .inr (.inr (.inl a)) => .ref (z0 + a)
  | .inr (.inr (.inr k)) => .ref (cst k)
def mj_fv (z0 : Nat) (M : Nat → Nat → Int) (N : Nat → Nat → Int64) (i j : Nat) : mj_K → Value
  | .inl 1 => .long (N i j)
  | .inl _ => .int (Int32.ofInt (M i j))
  | .inr none => .null
  | .inr (some b) => .ref (z0 + b)
def mj_rf (z0 : Nat) (ks : List mj_K) (j : Nat) : Option Nat := match ks[j]? with
  | some (.inr (some b)) => some (z0 + b)
  | _ => none
def mj_el (z0 : Nat) (dA : Nat → ClassId) (M : Nat → Nat → Int) (N : Nat → Nat → Int64) (i : Nat) : mj_S → va_E
  | (0, ci, ks) => .inr (ci, ks.mapIdx (fun j k => mj_fv z0 M N i j k))
  | (1, n, _) => .inl (dA 1, n, .inl fun j => Int32.ofInt (M i j))
  | (2, n, _) => .inl (dA 2, n, .inr (.inl fun j => N i j))
  | (t + 3, n, ks) => .inl (dA (t + 3), n, .inr (.inr (.inr (.inr fun j => mj_rf z0 ks j))))
def mj_W (z0 : Nat) (dA : Nat → ClassId) (Z : mj_Z) : va_W := Z.1.mapIdx fun i sh => (z0 + i, mj_el z0 dA Z.2.1 Z.2.2 i sh)
theorem mj_W_at {z0 : Nat} {dA : Nat → ClassId} {Z : mj_Z} (i : Nat) : (mj_W z0 dA Z)[i]? = (Z.1[i]?).map fun sh => (z0 + i, mj_el z0 dA Z.2.1 Z.2.2 i sh) := by
  unfold mj_W
  rw [List.getElem?_mapIdx]
theorem mj_W_get {z0 : Nat} {dA : Nat → ClassId} {Z : mj_Z} {i : Nat} {sh : mj_S} (h : Z.1[i]? = some sh) : (mj_W z0 dA Z)[i]? = some (z0 + i, mj_el z0 dA Z.2.1 Z.2.2 i sh) := by
  rw [mj_W_at, h]; rfl
theorem mj_W_len {z0 : Nat} {dA : Nat → ClassId} {Z : mj_Z} : (mj_W z0 dA Z).length = Z.1.length := by
  unfold mj_W
  rw [List.length_mapIdx]
theorem mj_W_set {z0 : Nat} {dA : Nat → ClassId} {Z Z' : mj_Z} {a : Nat} {sh : mj_S} {e : va_E} (hl : Z'.1.length = Z.1.length) (ha : Z'.1[a]? = some sh) (he : e = mj_el z0 dA Z'.2.1 Z'.2.2 a sh) (ho : ∀ i, i ≠ a → ∀ sh, Z.1[i]? = some sh → Z'.1[i]? = some sh ∧ mj_el z0 dA Z'.2.1 Z'.2.2 i sh = mj_el z0 dA Z.2.1 Z.2.2 i sh) : (mj_W z0 dA Z).set a (z0 + a, e) = mj_W z0 dA Z' := by
  have hlt : a < Z.1.length := by rw [← hl]; exact (List.getElem?_eq_some_iff.mp ha).1
  apply List.ext_getElem?
  intro i
  by_cases hi : i = a
  · subst hi
    rw [List.getElem?_set_self (by rw [mj_W_len]; exact hlt), mj_W_get ha, he]
  · rw [List.getElem?_set_ne (fun h => hi h.symm), mj_W_at, mj_W_at]
    cases hz : Z.1[i]? with
    | none =>
      have h1 : Z.1.length ≤ i := List.getElem?_eq_none_iff.mp hz
      rw [List.getElem?_eq_none (by rw [hl]; exact h1)]
      rfl
    | some sh =>
      obtain ⟨h1, h2⟩ := ho i hi sh hz
      rw [h1]
      simp only [Option.map_some]
      rw [h2]
theorem mj_el_u {z0 : Nat} {dA : Nat → ClassId} {M : Nat → Nat → Int} {N : Nat → Nat → Int64} {M' : Nat → Nat → Int} {N' : Nat → Nat → Int64} {i : Nat} {sh : mj_S} (h1 : ∀ j, M' i j = M i j) (h2 : ∀ j, N' i j = N i j) : mj_el z0 dA M' N' i sh = mj_el z0 dA M N i sh := by
  have e1 : M' i = M i := funext h1
  have e2 : N' i = N i := funext h2
  obtain ⟨t, n, ks⟩ := sh
  match t with
  | 0 =>
    have e3 : (fun j k => mj_fv z0 M' N' i j k) = (fun j k => mj_fv z0 M N i j k) := by
      funext j k
      rcases k with k | k
      · match k with
        | 0 => simp [mj_fv, e1]
        | 1 => simp [mj_fv, e2]
        | k + 2 => simp [mj_fv, e1]
      · cases k <;> rfl
    simp only [mj_el, e3]
  | 1 => simp only [mj_el, e1]
  | 2 => simp only [mj_el, e2]
  | t + 3 => rfl
theorem mj_u_ne {α : Type} {M : Nat → Nat → α} {a k : Nat} {v : α} {i : Nat} (h : i ≠ a) (j : Nat) : mj_u M a k v i j = M i j := if_neg (fun q => h q.1)
theorem mj_D {z0 : Nat} {dA : Nat → ClassId} {Z : mj_Z} : va_D (fun q : Nat => z0 ≤ q) (mj_W z0 dA Z) := by
  refine ⟨fun i j p q hi hj hpq => ?_, fun k q hk => ?_⟩
  · rw [mj_W_at] at hi hj
    cases h1 : Z.1[i]? with
    | none => rw [h1] at hi; cases hi
    | some x =>
      cases h2 : Z.1[j]? with
      | none => rw [h2] at hj; cases hj
      | some y =>
        rw [h1] at hi; rw [h2] at hj
        cases hi; cases hj
        have h3 : z0 + i = z0 + j := hpq
        omega
  · rw [mj_W_at] at hk
    cases h1 : Z.1[k]? with
    | none => rw [h1] at hk; cases hk
    | some x => rw [h1] at hk; cases hk; exact Nat.le_add_right _ _
def mj_Wd (z0 : Nat) (dD : va_G) (dA : Nat → ClassId) (Z : mj_Z) (H : Heap) : Prop := H.size = z0 + Z.1.length ∧ va_P dD mj_cl (mj_W z0 dA Z) H
-- the locals
def mj_LH (z0 : Nat) (cst : Nat → Nat) (ls : Array Slot) (nL : Nat) (L : mj_L) : Prop := L.length = nL ∧ ls.size = nL ∧ lv_wf ls ∧ ∀ (i : Nat) (v : mj_V), L[i]? = some (some v) → ls[i]? = some (.val (mj_rl z0 cst v))
def mj_al2 (z0 : Nat) (cst : Nat → Nat) (L : mj_L) : List (Nat × Value) := (List.range L.length).filterMap fun i => match L[i]? with
  | some (some v) => some (i, mj_rl z0 cst v)
  | _ => none
theorem mj_al2_in {z0 : Nat} {cst : Nat → Nat} {L : mj_L} {i : Nat} {v : mj_V} (h : L[i]? = some (some v)) : (i, mj_rl z0 cst v) ∈ mj_al2 z0 cst L := by
  unfold mj_al2
  refine List.mem_filterMap.mpr ⟨i, List.mem_range.mpr (List.getElem?_eq_some_iff.mp h).1, ?_⟩
  rw [h]
theorem mj_al2_of {z0 : Nat} {cst : Nat → Nat} {L : mj_L} {q : Nat × Value} (h : q ∈ mj_al2 z0 cst L) : ∃ v, L[q.1]? = some (some v) ∧ q.2 = mj_rl z0 cst v := by
  unfold mj_al2 at h
  obtain ⟨i, -, h2⟩ := List.mem_filterMap.mp h
  split at h2
  · rename_i v hv
    cases h2
    exact ⟨v, hv, rfl⟩
  · cases h2
theorem mj_LH_has {z0 : Nat} {cst : Nat → Nat} {ls : Array Slot} {nL : Nat} {L : mj_L} (h : mj_LH z0 cst ls nL L) : lv_has ls nL (mj_al2 z0 cst L) := by
  refine ⟨h.2.1, h.2.2.1, fun q hq => ?_⟩
  obtain ⟨v, h1, h2⟩ := mj_al2_of hq
  rw [h2]
  exact h.2.2.2 _ _ h1
theorem mj_cat_rl (z0 : Nat) (cst : Nat → Nat) (v : mj_V) : (mj_rl z0 cst v).category = mj_w1 v := by
  rcases v with x | x | x | x <;> rfl
theorem mj_kill_len (L : mj_L) (i : Nat) : (mj_kill L i).length = L.length := by
  cases i with
  | zero => rfl
  | succ k =>
    simp only [mj_kill]
    split
    · simp
    · rfl
theorem mj_kill_get {L : mj_L} {i j : Nat} {u : mj_V} (h : (mj_kill L i)[j]? = some (some u)) : L[j]? = some (some u) ∧ ¬ (j + 1 = i ∧ mj_w1 u = 2) := by
  cases i with
  | zero => exact ⟨h, fun q => by omega⟩
  | succ k =>
    simp only [mj_kill] at h
    split at h
    · rename_i x hx
      by_cases e : j = k
      · subst e
        rw [List.getElem?_set_self (List.getElem?_eq_some_iff.mp hx).1] at h
        cases h
      · rw [List.getElem?_set_ne (fun q => e q.symm)] at h
        exact ⟨h, fun q => e (by omega)⟩
    · rename_i hx
      refine ⟨h, fun q => ?_⟩
      have e : j = k := by omega
      subst e
      rcases u with x | x | x
      · simp [mj_w1] at q
      · exact hx x h
      · simp [mj_w1] at q
theorem mj_LH_st1 {z0 : Nat} {cst : Nat → Nat} {ls' : Array Slot} {nL i : Nat} {L : mj_L} {v : mj_V} (hL : L.length = nL) (hi : i < nL) (h : lv_has ls' nL ((i, mj_rl z0 cst v) :: (mj_al2 z0 cst L).filter (fun q => !(q.1 == i) && !(q.1 + 1 == i && q.2.category == 2)))) : mj_LH z0 cst ls' nL (mj_st1 L i v) := by
  refine ⟨by unfold mj_st1; rw [List.length_set, mj_kill_len, hL], h.1, h.2.1, fun j u hj => ?_⟩
  unfold mj_st1 at hj
  by_cases e : j = i
  · subst e
    rw [List.getElem?_set_self (by rw [mj_kill_len, hL]; exact hi)] at hj
    cases hj
    exact h.2.2 _ List.mem_cons_self
  · rw [List.getElem?_set_ne (fun q => e q.symm)] at hj
    obtain ⟨h1, h2⟩ := mj_kill_get hj
    refine h.2.2 (j, mj_rl z0 cst u) (List.mem_cons_of_mem _ (List.mem_filter.mpr ⟨mj_al2_in h1, ?_⟩))
    simp only [mj_cat_rl, Bool.and_eq_true, Bool.not_eq_true', beq_eq_false_iff_ne, Bool.and_eq_false_iff]
    refine ⟨e, ?_⟩
    by_cases e2 : j + 1 = i
    · exact Or.inr (fun q => h2 ⟨e2, q⟩)
    · exact Or.inl e2
theorem mj_LH_st2 {z0 : Nat} {cst : Nat → Nat} {ls' : Array Slot} {nL i : Nat} {L : mj_L} {v : mj_V} (hL : L.length = nL) (hi : i + 1 < nL) (h : lv_has ls' nL ((i, mj_rl z0 cst v) :: (mj_al2 z0 cst L).filter (fun q => !(q.1 == i) && (!(q.1 == i + 1) && !(q.1 + 1 == i && q.2.category == 2))))) : mj_LH z0 cst ls' nL (mj_st2 L i v) := by
  refine ⟨by unfold mj_st2; rw [List.length_set, List.length_set, mj_kill_len, hL], h.1, h.2.1, fun j u hj => ?_⟩
  unfold mj_st2 at hj
  by_cases e1 : j = i + 1
  · subst e1
    rw [List.getElem?_set_self (by rw [List.length_set, mj_kill_len, hL]; exact hi)] at hj
    cases hj
  · rw [List.getElem?_set_ne (fun q => e1 q.symm)] at hj
    by_cases e : j = i
    · subst e
      rw [List.getElem?_set_self (by rw [mj_kill_len, hL]; omega)] at hj
      cases hj
      exact h.2.2 _ List.mem_cons_self
    · rw [List.getElem?_set_ne (fun q => e q.symm)] at hj
      obtain ⟨h1, h2⟩ := mj_kill_get hj
      refine h.2.2 (j, mj_rl z0 cst u) (List.mem_cons_of_mem _ (List.mem_filter.mpr ⟨mj_al2_in h1, ?_⟩))
      simp only [mj_cat_rl, Bool.and_eq_true, Bool.not_eq_true', beq_eq_false_iff_ne, Bool.and_eq_false_iff]
      refine ⟨e, e1, ?_⟩
      by_cases e2 : j + 1 = i
      · exact Or.inr (fun q => h2 ⟨e2, q⟩)
      · exact Or.inl e2
theorem mj_lay_args (z0 : Nat) (cst : Nat → Nat) : ∀ (vs : List mj_V) (i j : Nat) (u : mj_V), (mj_lay vs)[j]? = some (some u) → (i + j, mj_rl z0 cst u) ∈ lv_args i (vs.map (mj_rl z0 cst))
  | [], i, j, u, h => by simp [mj_lay] at h
  | .inl x :: vs, i, j, u, h => by
    cases j with
    | zero => simp [mj_lay] at h; subst h; exact List.mem_cons_self
    | succ j =>
      have h1 : (mj_lay vs)[j]? = some (some u) := by simpa [mj_lay] using h
      have := mj_lay_args z0 cst vs (i + 1) j u h1
      rw [show i + (j + 1) = i + 1 + j by omega]
      exact List.mem_cons_of_mem _ this
  | .inr (.inl x) :: vs, i, j, u, h => by
    match j with
    | 0 => simp [mj_lay] at h; subst h; exact List.mem_cons_self
    | 1 => simp [mj_lay] at h
    | j + 2 =>
      have h1 : (mj_lay vs)[j]? = some (some u) := by simpa [mj_lay] using h
      have := mj_lay_args z0 cst vs (i + 2) j u h1
      rw [show i + (j + 2) = i + 2 + j by omega]
      exact List.mem_cons_of_mem _ this
  | .inr (.inr x) :: vs, i, j, u, h => by
    cases j with
    | zero => simp [mj_lay] at h; subst h; exact List.mem_cons_self
    | succ j =>
      have h1 : (mj_lay vs)[j]? = some (some u) := by simpa [mj_lay] using h
      have := mj_lay_args z0 cst vs (i + 1) j u h1
      rw [show i + (j + 1) = i + 1 + j by omega]
      rcases x with x | x <;> exact List.mem_cons_of_mem _ this
theorem mj_lay_len (z0 : Nat) (cst : Nat → Nat) : ∀ vs : List mj_V, (lg_sl (vs.map (mj_rl z0 cst))).length = (mj_lay vs).length
  | [] => rfl
  | .inl x :: vs => by
    have := mj_lay_len z0 cst vs
    simp [lg_sl, mj_lay, mj_rl, Value.category] at this ⊢
    omega
  | .inr (.inl x) :: vs => by
    have := mj_lay_len z0 cst vs
    simp [lg_sl, mj_lay, mj_rl, Value.category] at this ⊢
    omega
  | .inr (.inr (.inl x)) :: vs => by
    have := mj_lay_len z0 cst vs
    simp [lg_sl, mj_lay, mj_rl, Value.category] at this ⊢
    omega
  | .inr (.inr (.inr x)) :: vs => by
    have := mj_lay_len z0 cst vs
    simp [lg_sl, mj_lay, mj_rl, Value.category] at this ⊢
    omega
theorem mj_LH_ent {z0 : Nat} {cst : Nat → Nat} {m : Nat} {as : List mj_V} (h : (mj_lay as).length ≤ mj_ml m) : mj_LH z0 cst ((lg_sl (as.map (mj_rl z0 cst)) ++ List.replicate (mj_ml m - (lg_sl (as.map (mj_rl z0 cst))).length) Slot.unset).toArray) (mj_ml m) (mj_ent m as) := by
  have h0 := lv_entry (as.map (mj_rl z0 cst)) (n := mj_ml m) (by rw [mj_lay_len]; exact h)
  refine ⟨by unfold mj_ent; rw [List.length_append, List.length_replicate]; omega, h0.1, h0.2.1, fun j u hj => ?_⟩
  unfold mj_ent at hj
  by_cases hl : j < (mj_lay as).length
  · rw [List.getElem?_append_left hl] at hj
    have := mj_lay_args z0 cst as 0 j u hj
    rw [Nat.zero_add] at this
    exact h0.2.2 _ this
  · rw [List.getElem?_append_right (by omega)] at hj
    have := List.mem_of_getElem? hj
    have := (List.mem_replicate.mp this).2
    cases this
-- in range
def mj_okV : mj_V → Prop
  | .inl x => mj_rg x
  | _ => True
def mj_okZ (Z : mj_Z) : Prop := ∀ a j, mj_rg (Z.2.1 a j)
def mj_okL (L : mj_L) : Prop := ∀ (i : Nat) (v : mj_V), L[i]? = some (some v) → mj_okV v
def mj_nc (Z : mj_Z) : Nat := Z.1.length
def mj_sz : mj_S → Nat
  | (0, _, ks) => ks.length
  | (_, n, _) => n
def mj_sm : List mj_S → Nat
  | [] => 0
  | x :: r => mj_sz x + mj_sm r
def mj_ns (Z : mj_Z) : Nat := mj_sm Z.1
theorem mj_sm_app (a b : List mj_S) : mj_sm (a ++ b) = mj_sm a + mj_sm b := by
  induction a with
  | nil => simp [mj_sm]
  | cons x r ih => simp only [List.cons_append, mj_sm, ih]; omega
theorem mj_sm_set : ∀ (l : List mj_S) (i : Nat) (x y : mj_S), l[i]? = some x → mj_sz y = mj_sz x → mj_sm (l.set i y) = mj_sm l
  | [], i, x, y, h, _ => by simp at h
  | z :: r, 0, x, y, h, e => by simp at h; subst h; simp [mj_sm, e]
  | z :: r, i + 1, x, y, h, e => by
    have h1 : r[i]? = some x := by simpa using h
    simp only [List.set_cons_succ, mj_sm, mj_sm_set r i x y h1 e]
theorem mj_sm_rep (n : Nat) (x : mj_S) : mj_sm (List.replicate n x) = n * mj_sz x := by
  induction n with
  | zero => simp [mj_sm]
  | succ n ih => rw [List.replicate_succ, mj_sm, ih, Nat.succ_mul]; omega
-- the constants and the words of nest mates
def mj_isN : Cond → Bool
  | .methodLinkNest .. => true
  | .fieldLinkNest .. => true
  | _ => false
def mj_AOI (U : State) : Prop := (Cond.arrayOver (.array .int)).before #[] U = true
theorem mj_AOI.moved {u U : State} (hvm : u.vm.Alike U.vm) (h : mj_AOI u) : mj_AOI U := by
  obtain ⟨comp, c, k, h1, h2, h3, h4, h5⟩ := arrayOverA_spec h
  obtain ⟨k', hk', he⟩ := hvm.2.2 _ _ h3
  have hi := (hvm.findIdx?_eq _ (fun _ => rfl)).trans h2
  have hkind : k'.kind = .array comp (.array .int) := by rw [he]; exact h4
  have f1 : U.vm.findClass (FieldType.array FieldType.int).toString = some comp := by rw [hvm.findClass]; exact h1
  have f2 : U.vm.findClass ("[" ++ (FieldType.array FieldType.int).toString) = some c := by rw [hvm.findClass]; exact h5
  unfold mj_AOI
  simp only [Cond.before, Cond.holds, Cond.value, f1, f2, Option.bind_some]
  erw [hi]
  simp [hk', hkind]
def mj_CW (K : mj_C) (z0 : Nat) (cst : Nat → Nat) (U : State) (H : Heap) : Prop :=
  (∀ x ∈ tables_1, mj_isN x = true → va_Nw x U) ∧ va_AO "PermitBank$Tape" U ∧ mj_AOI U ∧
  (∀ k, k < 4 → va_T .int (cst k) (K k).1 (fun j => .int (Int32.ofInt ((K k).2 j))) (fun q => z0 ≤ q) U H) ∧ (∀ k, 1 ≤ k → k < 4 → va_Z "PermitBank" (mj_sN k) "[I" (.ref (cst k)) (fun q => z0 ≤ q) U H)
theorem mj_CW.moved {K : mj_C} {z0 : Nat} {cst : Nat → Nat} {s U : State} {H H1 : Heap} (hW : s.WarmedH U.vm) (hq : ∀ a : Nat, a < H.size → ¬ z0 ≤ a → H1[a]? = H[a]?) (h : mj_CW K z0 cst s H) : mj_CW K z0 cst U H1 := by
  obtain ⟨h1, h2, h3, h4, h5⟩ := h
  refine ⟨fun x hx hn => ?_, h2.moved hW.alike, h3.moved hW.alike, fun k hk => ((h4 k hk).moved hW.alike).kept hq, fun k a b => ((h5 k a b).moved hW.alike).kept hq⟩
  have h6 := h1 x hx hn
  cases x <;> first | exact va_Nw.warmM hW h6 | exact va_Nw.warmF hW h6 | (cases hn)
end
section
-- what the mini machine makes stays in range; its cells only grow
def mj_okS (S : List mj_V) : Prop := ∀ v ∈ S, mj_okV v
theorem mj_okS_nil : mj_okS [] := fun v h => by cases h
theorem mj_okS_c {v : mj_V} {S : List mj_V} : mj_okS (v :: S) ↔ mj_okV v ∧ mj_okS S := by
  unfold mj_okS
  constructor
  · intro h; exact ⟨h v List.mem_cons_self, fun w hw => h w (List.mem_cons_of_mem _ hw)⟩
  · intro h w hw
    rcases List.mem_cons.mp hw with rfl | hw
    · exact h.1
    · exact h.2 w hw
def mj_okA (Z : mj_Z) : mj_A → Prop
  | .inl (_, L', S', Z') => mj_okZ Z' ∧ mj_okL L' ∧ mj_okS S' ∧ mj_nc Z ≤ mj_nc Z' ∧ mj_ns Z ≤ mj_ns Z' ∧ L'.length = L'.length
  | .inr (.inl r) => ∀ v, r = some v → mj_okV v
  | .inr (.inr (_, as, S')) => mj_okS as ∧ mj_okS S'
theorem mj_okL_st1 {L : mj_L} {i : Nat} {v : mj_V} (hL : mj_okL L) (hv : mj_okV v) : mj_okL (mj_st1 L i v) := by
  intro j u hj
  unfold mj_st1 at hj
  by_cases e : j = i
  · subst e
    have hl := (List.getElem?_eq_some_iff.mp hj).1
    rw [List.length_set] at hl
    rw [List.getElem?_set_self hl] at hj
    cases hj
    exact hv
  · rw [List.getElem?_set_ne (fun q => e q.symm)] at hj
    exact hL _ _ (mj_kill_get hj).1
theorem mj_okL_st2 {L : mj_L} {i : Nat} {v : mj_V} (hL : mj_okL L) (hv : mj_okV v) : mj_okL (mj_st2 L i v) := by
  intro j u hj
  unfold mj_st2 at hj
  by_cases e1 : j = i + 1
  · subst e1
    have hl := (List.getElem?_eq_some_iff.mp hj).1
    rw [List.length_set] at hl
    rw [List.getElem?_set_self hl] at hj
    cases hj
  · rw [List.getElem?_set_ne (fun q => e1 q.symm)] at hj
    exact mj_okL_st1 hL hv j u hj
theorem mj_okZ_u {Z : mj_Z} {a j : Nat} {v : Int} {h : List mj_S} {N : Nat → Nat → Int64} (hZ : mj_okZ Z) (hv : mj_rg v) : mj_okZ (h, mj_u Z.2.1 a j v, N) := by
  intro b k
  show mj_rg (mj_u Z.2.1 a j v b k)
  unfold mj_u
  split
  · exact hv
  · exact hZ b k
theorem mj_okZ_n {Z : mj_Z} {h : List mj_S} {N : Nat → Nat → Int64} (hZ : mj_okZ Z) : mj_okZ (h, Z.2.1, N) := hZ
theorem mj_okZ_zr {Z : mj_Z} {h : List mj_S} {n : Nat} {N : Nat → Nat → Int64} (hZ : mj_okZ Z) : mj_okZ (h, mj_zr Z.2.1 n 0, N) := by
  intro b k
  show mj_rg (mj_zr Z.2.1 n 0 b k)
  unfold mj_zr
  split
  · constructor <;> decide
  · exact hZ b k
theorem mj_okZ_cpy {Z : mj_Z} {h : List mj_S} {a i b j n : Nat} {N : Nat → Nat → Int64} (hZ : mj_okZ Z) : mj_okZ (h, mj_cpy Z.2.1 a i b j n, N) := by
  intro c k
  show mj_rg (mj_cpy Z.2.1 a i b j n c k)
  unfold mj_cpy
  split
  · exact hZ _ _
  · exact hZ _ _
theorem mj_rg_i (x : Int32) : mj_rg x.toInt := by
  have h1 := Int32.toInt_lt x
  have h2 := Int32.le_toInt x
  constructor <;> omega
theorem mj_rg_tdiv {x y : Int} (hx : mj_rg x) (hy : 0 < y) : mj_rg (x.tdiv y) := by
  obtain ⟨h1, h2⟩ := hx
  have h3 : (x.tdiv y).natAbs ≤ x.natAbs := by
    rw [Int.natAbs_tdiv]
    exact Nat.div_le_self _ _
  rcases Int.le_total 0 x with h4 | h4
  · have h5 := Int.tdiv_nonneg h4 (Int.le_of_lt hy)
    constructor <;> omega
  · have h5 := Int.tdiv_nonneg (show 0 ≤ -x by omega) (Int.le_of_lt hy)
    rw [Int.neg_tdiv] at h5
    constructor <;> omega
theorem mj_rg_tmod {x y : Int} (hy : 0 < y) (hy2 : mj_rg y) : mj_rg (x.tmod y) := by
  obtain ⟨h3, h4⟩ := tmod_bounds (a := x) hy
  obtain ⟨h1, h2⟩ := hy2
  constructor <;> omega
section Ranges
variable {K : mj_C} {nx k t c : Nat} {L : mj_L} {S : List mj_V} {Z : mj_Z} {act : mj_A}
theorem mj_okgo {pc : Nat} {L' : mj_L} {S' : List mj_V} (h : mj_go pc L' S' Z = some act) (hZ : mj_okZ Z) (hL : mj_okL L') (hS : mj_okS S') : mj_okA Z act := by
  unfold mj_go at h
  cases h
  exact ⟨hZ, hL, hS, Nat.le_refl _, Nat.le_refl _, rfl⟩
theorem mj_okgo2 {pc : Nat} {L' : mj_L} {S' : List mj_V} {Z' : mj_Z} (h : mj_go pc L' S' Z' = some act) (hZ : mj_okZ Z') (hL : mj_okL L') (hS : mj_okS S') (h1 : mj_nc Z ≤ mj_nc Z') (h2 : mj_ns Z ≤ mj_ns Z') : mj_okA Z act := by
  unfold mj_go at h
  cases h
  exact ⟨hZ, hL, hS, h1, h2, rfl⟩
theorem mj_ok_o1 (h : mj_o1 k nx L S Z = some act) (hZ : mj_okZ Z) (hL : mj_okL L) (hS : mj_okS S) : mj_okA Z act := by
  unfold mj_o1 at h
  split at h
  · rename_i x hx; exact mj_okgo h hZ hL (mj_okS_c.mpr ⟨hL _ _ hx, hS⟩)
  · cases h
theorem mj_ok_o2 (h : mj_o2 k nx L S Z = some act) (hZ : mj_okZ Z) (hL : mj_okL L) (hS : mj_okS S) : mj_okA Z act := by
  unfold mj_o2 at h
  split at h
  · rename_i x hx; exact mj_okgo h hZ hL (mj_okS_c.mpr ⟨hL _ _ hx, hS⟩)
  · cases h
theorem mj_ok_o3 (h : mj_o3 k nx L S Z = some act) (hZ : mj_okZ Z) (hL : mj_okL L) (hS : mj_okS S) : mj_okA Z act := by
  unfold mj_o3 at h
  split at h
  · rename_i x hx; exact mj_okgo h hZ hL (mj_okS_c.mpr ⟨hL _ _ hx, hS⟩)
  · cases h
theorem mj_ok_o4 (h : mj_o4 k nx L S Z = some act) (hZ : mj_okZ Z) (hL : mj_okL L) (hS : mj_okS S) : mj_okA Z act := by
  unfold mj_o4 at h
  split at h
  · rw [mj_okS_c] at hS
    split at h
    · exact mj_okgo h hZ (mj_okL_st1 hL hS.1) hS.2
    · cases h
  · cases h
theorem mj_ok_o5 (h : mj_o5 k nx L S Z = some act) (hZ : mj_okZ Z) (hL : mj_okL L) (hS : mj_okS S) : mj_okA Z act := by
  unfold mj_o5 at h
  split at h
  · rw [mj_okS_c] at hS
    split at h
    · exact mj_okgo h hZ (mj_okL_st1 hL hS.1) hS.2
    · cases h
  · cases h
theorem mj_ok_o6 (h : mj_o6 k nx L S Z = some act) (hZ : mj_okZ Z) (hL : mj_okL L) (hS : mj_okS S) : mj_okA Z act := by
  unfold mj_o6 at h
  split at h
  · rw [mj_okS_c] at hS
    split at h
    · exact mj_okgo h hZ (mj_okL_st2 hL hS.1) hS.2
    · cases h
  · cases h
theorem mj_ok_o7 {n : Int} (h : mj_o7 n k nx L S Z = some act) (hZ : mj_okZ Z) (hL : mj_okL L) (hS : mj_okS S) : mj_okA Z act := by
  unfold mj_o7 at h
  split at h
  · split at h
    · split at h
      · rename_i hr; exact mj_okgo h hZ (mj_okL_st1 hL hr) hS
      · cases h
    · cases h
  · cases h
theorem mj_ok_bin {f : Int → Int → Int} (h : mj_bin f nx L S Z = some act) (hZ : mj_okZ Z) (hL : mj_okL L) (hS : mj_okS S) : mj_okA Z act := by
  unfold mj_bin at h
  split at h
  · rw [mj_okS_c, mj_okS_c] at hS
    split at h
    · rename_i hr; exact mj_okgo h hZ hL (mj_okS_c.mpr ⟨hr, hS.2.2⟩)
    · cases h
  · cases h
theorem mj_ok_dv {f : Int → Int → Int} (hf : ∀ x y, mj_rg x → mj_rg y → 0 < y → mj_rg (f x y)) (h : mj_dv f nx L S Z = some act) (hZ : mj_okZ Z) (hL : mj_okL L) (hS : mj_okS S) : mj_okA Z act := by
  unfold mj_dv at h
  split at h
  · rw [mj_okS_c, mj_okS_c] at hS
    split at h
    · rename_i hr; exact mj_okgo h hZ hL (mj_okS_c.mpr ⟨hf _ _ hS.2.1 hS.1 hr, hS.2.2⟩)
    · cases h
  · cases h
theorem mj_ok_neg (h : mj_neg nx L S Z = some act) (hZ : mj_okZ Z) (hL : mj_okL L) (hS : mj_okS S) : mj_okA Z act := by
  unfold mj_neg at h
  split at h
  · rw [mj_okS_c] at hS
    split at h
    · rename_i hr; exact mj_okgo h hZ hL (mj_okS_c.mpr ⟨hr, hS.2⟩)
    · cases h
  · cases h
theorem mj_ok_and (h : mj_and nx L S Z = some act) (hZ : mj_okZ Z) (hL : mj_okL L) (hS : mj_okS S) : mj_okA Z act := by
  unfold mj_and at h
  split at h
  · rename_i y x S
    rw [mj_okS_c, mj_okS_c] at hS
    split at h
    · refine mj_okgo h hZ hL (mj_okS_c.mpr ⟨?_, hS.2.2⟩)
      show mj_rg (x % 64)
      constructor <;> omega
    · split at h
      · rename_i hr
        refine mj_okgo h hZ hL (mj_okS_c.mpr ⟨?_, hS.2.2⟩)
        show mj_rg (x * y)
        rcases hr with ⟨rfl | rfl, rfl | rfl⟩ <;> constructor <;> decide
      · cases h
  · cases h
theorem mj_ok_get {ci j : Nat} (h : mj_get ci j nx L S Z = some act) (hZ : mj_okZ Z) (hL : mj_okL L) (hS : mj_okS S) : mj_okA Z act := by
  unfold mj_get at h
  split at h
  · rw [mj_okS_c] at hS
    split at h
    · exact mj_okgo h hZ hL (mj_okS_c.mpr ⟨trivial, hS.2⟩)
    · exact mj_okgo h hZ hL (mj_okS_c.mpr ⟨hZ _ _, hS.2⟩)
    · exact mj_okgo h hZ hL (mj_okS_c.mpr ⟨trivial, hS.2⟩)
    · cases h
  · cases h
theorem mj_ok_put {q : Int} {ci j : Nat} (h : mj_put q ci j nx L S Z = some act) (hZ : mj_okZ Z) (hL : mj_okL L) (hS : mj_okS S) : mj_okA Z act := by
  unfold mj_put at h
  split at h
  · rw [mj_okS_c, mj_okS_c] at hS
    split at h
    · split at h
      · exact mj_okgo2 h (mj_okZ_u hZ hS.1) hL hS.2.2 (Nat.le_refl _) (Nat.le_refl _)
      · cases h
    · split at h
      · split at h
        · exact mj_okgo2 h (mj_okZ_u hZ hS.1) hL hS.2.2 (Nat.le_refl _) (Nat.le_refl _)
        · cases h
      · cases h
    · cases h
  · rw [mj_okS_c, mj_okS_c] at hS
    split at h
    · split at h
      · exact mj_okgo2 h (mj_okZ_n hZ) hL hS.2.2 (Nat.le_refl _) (Nat.le_refl _)
      · cases h
    · cases h
  · cases h
theorem mj_ok_putF {ci j : Nat} (h : mj_putF ci j nx L S Z = some act) (hZ : mj_okZ Z) (hL : mj_okL L) (hS : mj_okS S) : mj_okA Z act := by
  unfold mj_putF at h
  split at h
  · rw [mj_okS_c, mj_okS_c] at hS
    split at h
    · rename_i c ks he
      split at h
      · split at h
        · refine mj_okgo2 h hZ hL hS.2.2 (by simp [mj_nc]) ?_
          show mj_sm _ ≤ mj_sm _
          rw [mj_sm_set _ _ _ _ he (by simp [mj_sz])]
          exact Nat.le_refl _
        · cases h
      · cases h
    · cases h
  · cases h
theorem mj_ok_iald (hK : ∀ k j, mj_rg ((K k).2 j)) (h : mj_iald K nx L S Z = some act) (hZ : mj_okZ Z) (hL : mj_okL L) (hS : mj_okS S) : mj_okA Z act := by
  unfold mj_iald at h
  split at h
  · rw [mj_okS_c, mj_okS_c] at hS
    split at h
    · split at h
      · exact mj_okgo h hZ hL (mj_okS_c.mpr ⟨hZ _ _, hS.2.2⟩)
      · cases h
    · cases h
  · rw [mj_okS_c, mj_okS_c] at hS
    split at h
    · split at h
      · exact mj_okgo h hZ hL (mj_okS_c.mpr ⟨hK _ _, hS.2.2⟩)
      · cases h
    · cases h
  · cases h
theorem mj_ok_iast (h : mj_iast nx L S Z = some act) (hZ : mj_okZ Z) (hL : mj_okL L) (hS : mj_okS S) : mj_okA Z act := by
  unfold mj_iast at h
  split at h
  · rw [mj_okS_c, mj_okS_c, mj_okS_c] at hS
    split at h
    · split at h
      · exact mj_okgo2 h (mj_okZ_u hZ hS.1) hL hS.2.2.2 (Nat.le_refl _) (Nat.le_refl _)
      · cases h
    · cases h
  · cases h
theorem mj_ok_lald (h : mj_lald nx L S Z = some act) (hZ : mj_okZ Z) (hL : mj_okL L) (hS : mj_okS S) : mj_okA Z act := by
  unfold mj_lald at h
  split at h
  · rw [mj_okS_c, mj_okS_c] at hS
    split at h
    · split at h
      · exact mj_okgo h hZ hL (mj_okS_c.mpr ⟨trivial, hS.2.2⟩)
      · cases h
    · cases h
  · cases h
theorem mj_ok_last (h : mj_last nx L S Z = some act) (hZ : mj_okZ Z) (hL : mj_okL L) (hS : mj_okS S) : mj_okA Z act := by
  unfold mj_last at h
  split at h
  · rw [mj_okS_c, mj_okS_c, mj_okS_c] at hS
    split at h
    · split at h
      · exact mj_okgo2 h (mj_okZ_n hZ) hL hS.2.2.2 (Nat.le_refl _) (Nat.le_refl _)
      · cases h
    · cases h
  · cases h
theorem mj_ok_aald (h : mj_aald nx L S Z = some act) (hZ : mj_okZ Z) (hL : mj_okL L) (hS : mj_okS S) : mj_okA Z act := by
  unfold mj_aald at h
  split at h
  · rw [mj_okS_c, mj_okS_c] at hS
    split at h
    · split at h
      · exact mj_okgo h hZ hL (mj_okS_c.mpr ⟨trivial, hS.2.2⟩)
      · cases h
    · cases h
  · cases h
theorem mj_ok_aast (h : mj_aast nx L S Z = some act) (hZ : mj_okZ Z) (hL : mj_okL L) (hS : mj_okS S) : mj_okA Z act := by
  unfold mj_aast at h
  split at h
  · rw [mj_okS_c, mj_okS_c, mj_okS_c] at hS
    split at h
    · rename_i n ks c2 ks2 he1 he2
      split at h
      · refine mj_okgo2 h hZ hL hS.2.2.2 (by simp [mj_nc]) ?_
        show mj_sm _ ≤ mj_sm _
        rw [mj_sm_set _ _ _ _ he1 (by simp [mj_sz])]
        exact Nat.le_refl _
      · cases h
    · cases h
  · cases h
theorem mj_ok_alen (h : mj_alen K nx L S Z = some act) (hZ : mj_okZ Z) (hL : mj_okL L) (hS : mj_okS S) : mj_okA Z act := by
  unfold mj_alen at h
  split at h
  · rw [mj_okS_c] at hS
    split at h
    · split at h
      · refine mj_okgo h hZ hL (mj_okS_c.mpr ⟨?_, hS.2⟩)
        constructor <;> omega
      · cases h
    · cases h
  · rw [mj_okS_c] at hS
    split at h
    · split at h
      · refine mj_okgo h hZ hL (mj_okS_c.mpr ⟨?_, hS.2⟩)
        constructor <;> omega
      · cases h
    · cases h
  · cases h
theorem mj_ok_br {x y : Int} (h : mj_br c t nx x y L S Z = some act) (hZ : mj_okZ Z) (hL : mj_okL L) (hS : mj_okS S) : mj_okA Z act := by
  unfold mj_br at h
  split at h
  all_goals first | (split at h <;> exact mj_okgo h hZ hL hS) | cases h
theorem mj_ok_if (h : mj_if c t nx L S Z = some act) (hZ : mj_okZ Z) (hL : mj_okL L) (hS : mj_okS S) : mj_okA Z act := by
  unfold mj_if at h
  split at h
  · rw [mj_okS_c] at hS
    exact mj_ok_br h hZ hL hS.2
  · cases h
theorem mj_ok_ic (h : mj_ic c t nx L S Z = some act) (hZ : mj_okZ Z) (hL : mj_okL L) (hS : mj_okS S) : mj_okA Z act := by
  unfold mj_ic at h
  split at h
  · rw [mj_okS_c, mj_okS_c] at hS
    exact mj_ok_br h hZ hL hS.2.2
  · cases h
theorem mj_ok_sw {x : Int} {d : Nat} (hZ : mj_okZ Z) (hL : mj_okL L) (hS : mj_okS S) : ∀ (tb : List (Int × Nat)), mj_sw x d L S Z tb = some act → mj_okA Z act
  | [], h => mj_okgo h hZ hL hS
  | (q, r) :: tb, h => by
    unfold mj_sw at h
    split at h
    · exact mj_okgo h hZ hL hS
    · exact mj_ok_sw hZ hL hS tb h
theorem mj_ok_swi {tb : List (Int × Nat)} {d : Nat} (h : mj_swi tb d L S Z = some act) (hZ : mj_okZ Z) (hL : mj_okL L) (hS : mj_okS S) : mj_okA Z act := by
  unfold mj_swi at h
  split at h
  · rw [mj_okS_c] at hS
    exact mj_ok_sw hZ hL hS.2 tb h
  · cases h
theorem mj_ok_rt0 (h : mj_rt0 S = some act) : mj_okA Z act := by
  unfold mj_rt0 at h
  split at h
  · cases h; intro v h; cases h
  · cases h
theorem mj_ok_rti {b : Nat} (h : mj_rti b S = some act) (hS : mj_okS S) : mj_okA Z act := by
  unfold mj_rti at h
  split at h
  · rw [mj_okS_c] at hS
    split at h
    · cases h; intro v h; cases h; exact hS.1
    · split at h
      · cases h; intro v h; cases h; exact hS.1
      · cases h
  · cases h
theorem mj_ok_rtl (h : mj_rtl S = some act) : mj_okA Z act := by
  unfold mj_rtl at h
  split at h
  · cases h; intro v h; cases h; trivial
  · cases h
theorem mj_ok_rta (h : mj_rta S = some act) : mj_okA Z act := by
  unfold mj_rta at h
  split at h
  · cases h; intro v h; cases h; trivial
  · cases h
theorem mj_ok_inv {m' q : Nat} (h : mj_inv m' q S Z = some act) (hS : mj_okS S) : mj_okA Z act := by
  unfold mj_inv at h
  split at h
  · cases h
    exact ⟨fun v hv => hS v (List.mem_of_mem_take (List.mem_reverse.mp hv)), fun v hv => hS v (List.mem_of_mem_drop hv)⟩
  · cases h
theorem mj_ok_mx {f : Int → Int → Int} (hf : ∀ x y, mj_rg x → mj_rg y → mj_rg (f x y)) (h : mj_mx f nx L S Z = some act) (hZ : mj_okZ Z) (hL : mj_okL L) (hS : mj_okS S) : mj_okA Z act := by
  unfold mj_mx at h
  split at h
  · rw [mj_okS_c, mj_okS_c] at hS
    split at h
    · exact mj_okgo h hZ hL (mj_okS_c.mpr ⟨hf _ _ hS.2.1 hS.1, hS.2.2⟩)
    · cases h
  · cases h
theorem mj_ok_acp (h : mj_acp nx L S Z = some act) (hZ : mj_okZ Z) (hL : mj_okL L) (hS : mj_okS S) : mj_okA Z act := by
  unfold mj_acp at h
  split at h
  · rw [mj_okS_c, mj_okS_c, mj_okS_c, mj_okS_c, mj_okS_c] at hS
    split at h
    · split at h
      · split at h
        · exact mj_okgo2 h (mj_okZ_cpy hZ) hL hS.2.2.2.2.2 (Nat.le_refl _) (Nat.le_refl _)
        · cases h
      · split at h
        · exact mj_okgo2 h (mj_okZ_n hZ) hL hS.2.2.2.2.2 (Nat.le_refl _) (Nat.le_refl _)
        · cases h
      · cases h
    · cases h
  · cases h
theorem mj_nc_app {h : List mj_S} {q : (Nat → Nat → Int) × (Nat → Nat → Int64)} : mj_nc Z ≤ mj_nc (Z.1 ++ h, q) := by simp [mj_nc]
theorem mj_ns_app {h : List mj_S} {q : (Nat → Nat → Int) × (Nat → Nat → Int64)} : mj_ns Z ≤ mj_ns (Z.1 ++ h, q) := by
  show mj_sm _ ≤ mj_sm _
  rw [mj_sm_app]
  exact Nat.le_add_right _ _
theorem mj_ok_new {ci : Nat} (h : mj_new ci nx L S Z = some act) (hZ : mj_okZ Z) (hL : mj_okL L) (hS : mj_okS S) : mj_okA Z act := by
  unfold mj_new at h
  exact mj_okgo2 h (mj_okZ_zr hZ) hL (mj_okS_c.mpr ⟨trivial, hS⟩) mj_nc_app mj_ns_app
theorem mj_ok_nwa (h : mj_nwa t nx L S Z = some act) (hZ : mj_okZ Z) (hL : mj_okL L) (hS : mj_okS S) : mj_okA Z act := by
  unfold mj_nwa at h
  split at h
  · rw [mj_okS_c] at hS
    split at h
    · exact mj_okgo2 h (mj_okZ_zr hZ) hL (mj_okS_c.mpr ⟨trivial, hS.2⟩) mj_nc_app mj_ns_app
    · cases h
  · cases h
theorem mj_ok_nwr (h : mj_nwr nx L S Z = some act) (hZ : mj_okZ Z) (hL : mj_okL L) (hS : mj_okS S) : mj_okA Z act := by
  unfold mj_nwr at h
  split at h
  · rw [mj_okS_c] at hS
    split at h
    · exact mj_okgo2 h (mj_okZ_zr hZ) hL (mj_okS_c.mpr ⟨trivial, hS.2⟩) mj_nc_app mj_ns_app
    · cases h
  · cases h
theorem mj_ok_nwm (h : mj_nwm nx L S Z = some act) (hZ : mj_okZ Z) (hL : mj_okL L) (hS : mj_okS S) : mj_okA Z act := by
  unfold mj_nwm at h
  split at h
  · rw [mj_okS_c, mj_okS_c] at hS
    split at h
    · exact mj_okgo2 h (mj_okZ_zr hZ) hL (mj_okS_c.mpr ⟨trivial, hS.2.2⟩) mj_nc_app mj_ns_app
    · cases h
  · cases h
theorem mj_ok_dup (h : mj_dup nx L S Z = some act) (hZ : mj_okZ Z) (hL : mj_okL L) (hS : mj_okS S) : mj_okA Z act := by
  unfold mj_dup at h
  split at h
  · rw [mj_okS_c] at hS
    split at h
    · exact mj_okgo h hZ hL (mj_okS_c.mpr ⟨hS.1, mj_okS_c.mpr ⟨hS.1, hS.2⟩⟩)
    · cases h
  · cases h
theorem mj_ok_dup2 (h : mj_dup2 nx L S Z = some act) (hZ : mj_okZ Z) (hL : mj_okL L) (hS : mj_okS S) : mj_okA Z act := by
  unfold mj_dup2 at h
  split at h
  · rw [mj_okS_c, mj_okS_c] at hS
    split at h
    · exact mj_okgo h hZ hL (mj_okS_c.mpr ⟨hS.1, mj_okS_c.mpr ⟨hS.2.1, mj_okS_c.mpr ⟨hS.1, mj_okS_c.mpr ⟨hS.2.1, hS.2.2⟩⟩⟩⟩)
    · cases h
  · cases h
theorem mj_ok_dupx (h : mj_dupx nx L S Z = some act) (hZ : mj_okZ Z) (hL : mj_okL L) (hS : mj_okS S) : mj_okA Z act := by
  unfold mj_dupx at h
  split at h
  · rw [mj_okS_c, mj_okS_c] at hS
    split at h
    · exact mj_okgo h hZ hL (mj_okS_c.mpr ⟨hS.1, mj_okS_c.mpr ⟨hS.2.1, mj_okS_c.mpr ⟨hS.1, hS.2.2⟩⟩⟩)
    · cases h
  · cases h
theorem mj_ok_pop (h : mj_pop nx L S Z = some act) (hZ : mj_okZ Z) (hL : mj_okL L) (hS : mj_okS S) : mj_okA Z act := by
  unfold mj_pop at h
  split at h
  · rw [mj_okS_c] at hS
    split at h
    · exact mj_okgo h hZ hL hS.2
    · cases h
  · cases h
theorem mj_ok_i2 {f : Int32 → mj_V} (hf : ∀ x, mj_okV (f x)) (h : mj_i2 f nx L S Z = some act) (hZ : mj_okZ Z) (hL : mj_okL L) (hS : mj_okS S) : mj_okA Z act := by
  unfold mj_i2 at h
  split at h
  · rw [mj_okS_c] at hS
    exact mj_okgo h hZ hL (mj_okS_c.mpr ⟨hf _, hS.2⟩)
  · cases h
theorem mj_ok_l2 (h : mj_l2 nx L S Z = some act) (hZ : mj_okZ Z) (hL : mj_okL L) (hS : mj_okS S) : mj_okA Z act := by
  unfold mj_l2 at h
  split at h
  · rw [mj_okS_c] at hS
    exact mj_okgo h hZ hL (mj_okS_c.mpr ⟨mj_rg_i _, hS.2⟩)
  · cases h
theorem mj_ok_lbin {f : Int64 → Int64 → Int64} (h : mj_lbin f nx L S Z = some act) (hZ : mj_okZ Z) (hL : mj_okL L) (hS : mj_okS S) : mj_okA Z act := by
  unfold mj_lbin at h
  split at h
  · rw [mj_okS_c, mj_okS_c] at hS
    exact mj_okgo h hZ hL (mj_okS_c.mpr ⟨trivial, hS.2.2⟩)
  · cases h
theorem mj_ok_ldv {f : Int64 → Int64 → Int64} (h : mj_ldv f nx L S Z = some act) (hZ : mj_okZ Z) (hL : mj_okL L) (hS : mj_okS S) : mj_okA Z act := by
  unfold mj_ldv at h
  split at h
  · rw [mj_okS_c, mj_okS_c] at hS
    split at h
    · cases h
    · exact mj_okgo h hZ hL (mj_okS_c.mpr ⟨trivial, hS.2.2⟩)
  · cases h
theorem mj_ok_lsh (h : mj_lsh nx L S Z = some act) (hZ : mj_okZ Z) (hL : mj_okL L) (hS : mj_okS S) : mj_okA Z act := by
  unfold mj_lsh at h
  split at h
  · rw [mj_okS_c, mj_okS_c] at hS
    exact mj_okgo h hZ hL (mj_okS_c.mpr ⟨trivial, hS.2.2⟩)
  · cases h
theorem mj_ok_lcm (h : mj_lcm nx L S Z = some act) (hZ : mj_okZ Z) (hL : mj_okL L) (hS : mj_okS S) : mj_okA Z act := by
  unfold mj_lcm at h
  split at h
  · rw [mj_okS_c, mj_okS_c] at hS
    refine mj_okgo h hZ hL (mj_okS_c.mpr ⟨?_, hS.2.2⟩)
    show mj_rg _
    split
    · constructor <;> decide
    · split <;> constructor <;> decide
  · cases h
theorem mj_ok_oin (h : mj_oin nx L S Z = some act) (hZ : mj_okZ Z) (hL : mj_okL L) (hS : mj_okS S) : mj_okA Z act := by
  unfold mj_oin at h
  split at h
  · rw [mj_okS_c] at hS
    split at h
    · exact mj_okgo h hZ hL hS.2
    · cases h
  · cases h
set_option maxHeartbeats 4000000 in
theorem mj_step_ok {mi : mj_MI} (hK : ∀ k j, mj_rg ((K k).2 j)) (hmi : mi.1 = 0 → mj_rg mi.2.1) (h : mj_step K nx mi L S Z = some act) (hZ : mj_okZ Z) (hL : mj_okL L) (hS : mj_okS S) : mj_okA Z act := by
  obtain ⟨op, n, a, b, tb⟩ := mi
  unfold mj_step at h
  simp only at h
  split at h
  · exact mj_okgo h hZ hL (mj_okS_c.mpr ⟨hmi rfl, hS⟩)
  · exact mj_ok_o1 h hZ hL hS
  · exact mj_ok_o2 h hZ hL hS
  · exact mj_ok_o3 h hZ hL hS
  · exact mj_ok_o4 h hZ hL hS
  · exact mj_ok_o5 h hZ hL hS
  · exact mj_ok_o6 h hZ hL hS
  · exact mj_ok_o7 h hZ hL hS
  · exact mj_ok_bin h hZ hL hS
  · exact mj_ok_bin h hZ hL hS
  · exact mj_ok_bin h hZ hL hS
  · exact mj_ok_dv (fun x y hx _ hy => mj_rg_tdiv hx hy) h hZ hL hS
  · exact mj_ok_dv (fun x y _ h1 hy => mj_rg_tmod hy h1) h hZ hL hS
  · exact mj_ok_neg h hZ hL hS
  · exact mj_ok_and h hZ hL hS
  · exact mj_ok_get h hZ hL hS
  · exact mj_ok_put h hZ hL hS
  · exact mj_ok_iald hK h hZ hL hS
  · exact mj_ok_iast h hZ hL hS
  · exact mj_ok_lald h hZ hL hS
  · exact mj_ok_last h hZ hL hS
  · exact mj_ok_aald h hZ hL hS
  · exact mj_ok_aast h hZ hL hS
  · exact mj_ok_alen h hZ hL hS
  · exact mj_ok_if h hZ hL hS
  · exact mj_ok_ic h hZ hL hS
  · exact mj_okgo h hZ hL hS
  · exact mj_ok_swi h hZ hL hS
  · exact mj_ok_rt0 h
  · exact mj_ok_rti h hS
  · exact mj_ok_rtl h
  · exact mj_ok_rta h
  · exact mj_ok_inv h hS
  · exact mj_ok_mx (fun x y hx hy => ⟨by omega, by omega⟩) h hZ hL hS
  · exact mj_ok_mx (fun x y hx hy => ⟨by omega, by omega⟩) h hZ hL hS
  · exact mj_ok_acp h hZ hL hS
  · exact mj_ok_new h hZ hL hS
  · exact mj_ok_nwa h hZ hL hS
  · exact mj_ok_nwa h hZ hL hS
  · exact mj_ok_nwr h hZ hL hS
  · exact mj_ok_nwm h hZ hL hS
  · exact mj_ok_dup h hZ hL hS
  · exact mj_ok_dup2 h hZ hL hS
  · exact mj_ok_dupx h hZ hL hS
  · exact mj_ok_pop h hZ hL hS
  · exact mj_ok_i2 (f := mj_i64) (fun _ => trivial) h hZ hL hS
  · exact mj_ok_l2 h hZ hL hS
  · exact mj_ok_i2 (f := mj_i8) (fun _ => mj_rg_i _) h hZ hL hS
  · exact mj_ok_i2 (f := mj_i16) (fun _ => mj_rg_i _) h hZ hL hS
  · exact mj_okgo h hZ hL (mj_okS_c.mpr ⟨trivial, hS⟩)
  · exact mj_ok_lbin h hZ hL hS
  · exact mj_ok_lbin h hZ hL hS
  · exact mj_ok_lbin h hZ hL hS
  · exact mj_ok_ldv h hZ hL hS
  · exact mj_ok_ldv h hZ hL hS
  · exact mj_ok_lbin h hZ hL hS
  · exact mj_ok_lbin h hZ hL hS
  · exact mj_ok_lsh h hZ hL hS
  · exact mj_ok_lcm h hZ hL hS
  · exact mj_okgo h hZ hL (mj_okS_c.mpr ⟨trivial, hS⟩)
  · exact mj_ok_oin h hZ hL hS
  · exact mj_ok_putF h hZ hL hS
  · cases h
end Ranges
theorem mj_okL_lay : ∀ (as : List mj_V), mj_okS as → mj_okL (mj_lay as)
  | [], _ => fun i v h => by simp [mj_lay] at h
  | .inl x :: as, h => fun i v hi => by
    rw [mj_okS_c] at h
    cases i with
    | zero => simp [mj_lay] at hi; subst hi; exact h.1
    | succ i => exact mj_okL_lay as h.2 i v (by simpa [mj_lay] using hi)
  | .inr (.inl x) :: as, h => fun i v hi => by
    rw [mj_okS_c] at h
    match i with
    | 0 => simp [mj_lay] at hi; subst hi; trivial
    | 1 => simp [mj_lay] at hi
    | i + 2 => exact mj_okL_lay as h.2 i v (by simpa [mj_lay] using hi)
  | .inr (.inr x) :: as, h => fun i v hi => by
    rw [mj_okS_c] at h
    cases i with
    | zero => simp [mj_lay] at hi; subst hi; trivial
    | succ i => exact mj_okL_lay as h.2 i v (by simpa [mj_lay] using hi)
theorem mj_okL_ent {m : Nat} {as : List mj_V} (h : mj_okS as) : mj_okL (mj_ent m as) := by
  intro i v hi
  unfold mj_ent at hi
  by_cases hl : i < (mj_lay as).length
  · rw [List.getElem?_append_left hl] at hi
    exact mj_okL_lay as h i v hi
  · rw [List.getElem?_append_right (by omega)] at hi
    have := (List.mem_replicate.mp (List.mem_of_getElem? hi)).2
    cases this
theorem mj_tr_0 {m pc : Nat} {i : Instr} {mi : mj_MI} (h : mj_tr m pc i = some mi) : mi.1 = 0 → mj_rg mi.2.1 := by
  unfold mj_tr at h
  split at h
  all_goals first
    | (split at h <;> first | (cases h; intro _; constructor <;> show _ ≤ _ <;> dsimp only <;> omega) | (cases h; intro h0; cases h0) | cases h)
    | (cases h; intro h0; cases h0)
    | (simp only [Option.map_eq_some_iff, Option.bind_eq_some_iff] at h; obtain ⟨x, -, h⟩ := h; (repeat' split at h) <;> first | (cases h; intro h0; cases h0) | cases h)
    | cases h
end
section
-- each mini instruction is what the machine does
def mj_ty (dA : Nat → ClassId) : List (ClassId × FieldType) := [(dA 1, .int), (dA 2, .long), (dA 3, .array .int), (dA 4, .object "PermitBank$Tape")]
def mj_Cx (K : mj_C) (z0 : Nat) (cst : Nat → Nat) (dD : va_G) (dA : Nat → ClassId) (y n0 : Nat) (p : Program) (s : State) (m : MethodId) (args : Array Value) (meth : Method) (c : Code) : Prop :=
  p.tables.exec = Jvm.exec ∧ c.code = mj_bb y ∧ c.maxLocals = mj_ml y ∧ s.vm.findClass (mj_own (mj_ci y)) = some m.cls ∧ (∀ w ∈ mj_gt, w.before args s = true) ∧ ((mj_yy y).name = "<init>" → meth.name = "<init>") ∧ va_K dD mj_cl (mj_ty dA) s ∧ mj_CW K z0 cst s s.heap ∧ z0 ≤ s.heap.size ∧ (∀ k j, mj_rg ((K k).2 j)) ∧ s.heap.size = z0 + n0
def mj_Ad (z0 : Nat) : Nat → Prop := fun q => z0 ≤ q
def mj_St (z0 : Nat) (cst : Nat → Nat) (dD : va_G) (dA : Nat → ClassId) (y n0 s0 : Nat) (s : State) (Z : mj_Z) (L : mj_L) (S : List mj_V) (H : Heap) (locs : List Loc) (ls : Array Slot) : Prop :=
  mj_okZ Z ∧ mj_okL L ∧ mj_okS S ∧ mj_Wd z0 dD dA Z H ∧ va_S (mj_Ad z0) s.heap H locs ∧ mj_LH z0 cst ls (mj_ml y) L ∧ n0 ≤ mj_nc Z ∧ s0 ≤ mj_ns Z
def mj_G (z0 : Nat) (cst : Nat → Nat) (p : Program) (l : Launch) (e : Env) (R : Room) (s : State) (m : MethodId) (args : Array Value) (below : List Frame) (meth : Method) (c : Code) (Q : State → Prop) (n0 s0 : Nat) (Z : mj_Z) (S : List mj_V) (pc : Nat) (H : Heap) (locs : List Loc) (ls : Array Slot) : Prop :=
  W p l e R s m args below meth c H locs (mj_nc Z - n0) (mj_ns Z - s0) Q (F0 m pc ls (S.map (mj_rl z0 cst)))
def mj_Nx (z0 : Nat) (cst : Nat → Nat) (dD : va_G) (dA : Nat → ClassId) (y : Nat) (p : Program) (l : Launch) (e : Env) (R : Room) (s : State) (m : MethodId) (args : Array Value) (below : List Frame) (meth : Method) (c : Code) (Q : State → Prop) (n0 s0 : Nat) (a : Nat × mj_L × List mj_V × mj_Z) : Prop :=
  ∀ (H : Heap) (locs : List Loc) (ls : Array Slot), mj_Wd z0 dD dA a.2.2.2 H → va_S (mj_Ad z0) s.heap H locs → mj_LH z0 cst ls (mj_ml y) a.2.1 → mj_G z0 cst p l e R s m args below meth c Q n0 s0 a.2.2.2 a.2.2.1 a.1 H locs ls
theorem mj_go_a {pc : Nat} {L : mj_L} {S : List mj_V} {Z : mj_Z} {a : Nat × mj_L × List mj_V × mj_Z} (h : mj_go pc L S Z = some (.inl a)) : a = (pc, L, S, Z) := by
  unfold mj_go at h
  cases h
  rfl
theorem mj_lt32 {x y : Int} (hx : mj_rg x) (hy : mj_rg y) : Int32.ofInt x < Int32.ofInt y ↔ x < y := by
  have h1 := Int32.toInt_ofInt_of_le (n := x) (by have := hx.1; omega) (by have := hx.2; omega)
  have h2 := Int32.toInt_ofInt_of_le (n := y) (by have := hy.1; omega) (by have := hy.2; omega)
  rw [Int32.lt_iff_toInt_lt, h1, h2]
theorem mj_le32 {x y : Int} (hx : mj_rg x) (hy : mj_rg y) : Int32.ofInt x ≤ Int32.ofInt y ↔ x ≤ y := by
  have h1 := Int32.toInt_ofInt_of_le (n := x) (by have := hx.1; omega) (by have := hx.2; omega)
  have h2 := Int32.toInt_ofInt_of_le (n := y) (by have := hy.1; omega) (by have := hy.2; omega)
  rw [Int32.le_iff_toInt_le, h1, h2]
theorem mj_eq32 {x y : Int} (hx : mj_rg x) (hy : mj_rg y) : Int32.ofInt x = Int32.ofInt y ↔ x = y := by
  have h1 := Int32.toInt_ofInt_of_le (n := x) (by have := hx.1; omega) (by have := hx.2; omega)
  have h2 := Int32.toInt_ofInt_of_le (n := y) (by have := hy.1; omega) (by have := hy.2; omega)
  rw [← Int32.toInt_inj, h1, h2]
theorem mj_toI {x : Int} (hx : mj_rg x) : (Int32.ofInt x).toInt = x := Int32.toInt_ofInt_of_le (by have := hx.1; omega) (by have := hx.2; omega)
theorem mj_clamp {x : Int} (hx : mj_rg x) : (Int32.ofInt x).toNatClampNeg = x.toNat := by
  show (Int32.ofInt x).toInt.toNat = _
  rw [mj_toI hx]
theorem mj_rg0 : mj_rg 0 := ⟨by decide, by decide⟩
theorem mj_vin {x : Int} {n : Nat} (hx : mj_rg x) (h : 0 ≤ x ∧ x < n) : vp_in (Int32.ofInt x) n := by
  unfold vp_in
  rw [show (0 : Int32) = Int32.ofInt 0 from rfl, mj_lt32 hx mj_rg0, mj_clamp hx]
  omega
theorem mj_dv32 {x y : Int} (hx : mj_rg x) (hy : mj_rg y) (h : 0 < y) : Int32.ofInt x / Int32.ofInt y = Int32.ofInt (x.tdiv y) := by
  apply Int32.toInt_inj.mp
  have h1 := mj_rg_tdiv hx h
  rw [Int32.toInt_div, mj_toI hx, mj_toI hy, mj_toI h1]
  apply Int.bmod_eq_of_le <;> have := h1.1 <;> have := h1.2 <;> omega
theorem mj_rm32 {x y : Int} (hx : mj_rg x) (hy : mj_rg y) (h : 0 < y) : Int32.ofInt x - Int32.ofInt x / Int32.ofInt y * Int32.ofInt y = Int32.ofInt (x.tmod y) := by
  apply Int32.toInt_inj.mp
  rw [rem_toInt, mj_toI hx, mj_toI hy, mj_toI (mj_rg_tmod h hy)]
theorem mj_and63 (x : Int) : Int32.ofInt x &&& Int32.ofInt 63 = Int32.ofInt (x % 64) := by
  apply Int32.toBitVec.inj
  show BitVec.ofInt 32 x &&& BitVec.ofInt 32 63 = BitVec.ofInt 32 (x % 64)
  apply BitVec.eq_of_toNat_eq
  rw [BitVec.toNat_and, BitVec.toNat_ofInt, BitVec.toNat_ofInt, BitVec.toNat_ofInt]
  have e : ((63 : Int) % (2 ^ 32 : Nat)).toNat = 2 ^ 6 - 1 := by decide
  rw [e, Nat.and_two_pow_sub_one_eq_mod]
  omega
section Steps
variable {K : mj_C} {z0 : Nat} {cst : Nat → Nat} {dD : va_G} {dA : Nat → ClassId} {y : Nat} {p : Program} {l : Launch} {e : Env} {R : Room} {s : State} {m : MethodId} {args : Array Value} {below : List Frame} {meth : Method} {c : Code} {Q : State → Prop} {n0 s0 : Nat}
variable {Z : mj_Z} {L : mj_L} {S : List mj_V} {H : Heap} {locs : List Loc} {ls : Array Slot} {pc : Nat} {a : Nat × mj_L × List mj_V × mj_Z}
theorem mj_s_iconst (C : mj_Cx K z0 cst dD dA y n0 p s m args meth c) (X : mj_St z0 cst dD dA y n0 s0 s Z L S H locs ls) (kk : mj_Nx z0 cst dD dA y p l e R s m args below meth c Q n0 s0 a) {n : Int} (hn : -128 ≤ n ∧ n ≤ 127) (hd : decode (mj_bb y) pc = .ok (.iconst n, 1)) (h : mj_go (pc + 1) L (.inl n :: S) Z = some (.inl a)) : mj_G z0 cst p l e R s m args below meth c Q n0 s0 Z S pc H locs ls := by
  obtain ⟨xZ, xL, xS, xW, xV, xl, xN, xM⟩ := X
  obtain rfl := mj_go_a h
  exact lv_iconst C.1 C.2.1 hd rfl (kk H locs ls xW xV xl)
theorem mj_s_bipush (C : mj_Cx K z0 cst dD dA y n0 p s m args meth c) (X : mj_St z0 cst dD dA y n0 s0 s Z L S H locs ls) (kk : mj_Nx z0 cst dD dA y p l e R s m args below meth c Q n0 s0 a) {n : Int} (hn : -128 ≤ n ∧ n ≤ 127) (hd : decode (mj_bb y) pc = .ok (.bipush n, 2)) (h : mj_go (pc + 2) L (.inl n :: S) Z = some (.inl a)) : mj_G z0 cst p l e R s m args below meth c Q n0 s0 Z S pc H locs ls := by
  obtain ⟨xZ, xL, xS, xW, xV, xl, xN, xM⟩ := X
  obtain rfl := mj_go_a h
  exact lv_bipush C.1 C.2.1 hd (by apply Int32.toInt_inj.mp; rw [Int8.toInt_toInt32, Int8.toInt_ofInt_of_le (by omega) (by omega), mj_toI ⟨by omega, by omega⟩]) (kk H locs ls xW xV xl)
theorem mj_s_sipush (C : mj_Cx K z0 cst dD dA y n0 p s m args meth c) (X : mj_St z0 cst dD dA y n0 s0 s Z L S H locs ls) (kk : mj_Nx z0 cst dD dA y p l e R s m args below meth c Q n0 s0 a) {n : Int} (hn : -32768 ≤ n ∧ n ≤ 32767) (hd : decode (mj_bb y) pc = .ok (.sipush n, 3)) (h : mj_go (pc + 3) L (.inl n :: S) Z = some (.inl a)) : mj_G z0 cst p l e R s m args below meth c Q n0 s0 Z S pc H locs ls := by
  obtain ⟨xZ, xL, xS, xW, xV, xl, xN, xM⟩ := X
  obtain rfl := mj_go_a h
  exact lv_sipush C.1 C.2.1 hd (by apply Int32.toInt_inj.mp; rw [Int16.toInt_toInt32, Int16.toInt_ofInt_of_le (by omega) (by omega), mj_toI ⟨by omega, by omega⟩]) (kk H locs ls xW xV xl)
theorem mj_s_iload_n (C : mj_Cx K z0 cst dD dA y n0 p s m args meth c) (X : mj_St z0 cst dD dA y n0 s0 s Z L S H locs ls) (kk : mj_Nx z0 cst dD dA y p l e R s m args below meth c Q n0 s0 a) {k : Fin 4} (hd : decode (mj_bb y) pc = .ok (.iload_n k, 1)) (h : mj_o1 k (pc + 1) L S Z = some (.inl a)) : mj_G z0 cst p l e R s m args below meth c Q n0 s0 Z S pc H locs ls := by
  obtain ⟨xZ, xL, xS, xW, xV, xl, xN, xM⟩ := X
  unfold mj_o1 at h
  split at h
  · rename_i w hx
    obtain rfl := mj_go_a h
    exact lv_iload_n C.1 C.2.1 hd rfl (xl.2.2.2 _ _ hx) (kk H locs ls xW xV xl)
  · cases h
theorem mj_s_iload (C : mj_Cx K z0 cst dD dA y n0 p s m args meth c) (X : mj_St z0 cst dD dA y n0 s0 s Z L S H locs ls) (kk : mj_Nx z0 cst dD dA y p l e R s m args below meth c Q n0 s0 a) {k : Nat} (hd : decode (mj_bb y) pc = .ok (.iload k, 2)) (h : mj_o1 k (pc + 2) L S Z = some (.inl a)) : mj_G z0 cst p l e R s m args below meth c Q n0 s0 Z S pc H locs ls := by
  obtain ⟨xZ, xL, xS, xW, xV, xl, xN, xM⟩ := X
  unfold mj_o1 at h
  split at h
  · rename_i w hx
    obtain rfl := mj_go_a h
    exact lv_iload C.1 C.2.1 hd (xl.2.2.2 _ _ hx) (kk H locs ls xW xV xl)
  · cases h
theorem mj_s_aload_n (C : mj_Cx K z0 cst dD dA y n0 p s m args meth c) (X : mj_St z0 cst dD dA y n0 s0 s Z L S H locs ls) (kk : mj_Nx z0 cst dD dA y p l e R s m args below meth c Q n0 s0 a) {k : Fin 4} (hd : decode (mj_bb y) pc = .ok (.aload_n k, 1)) (h : mj_o2 k (pc + 1) L S Z = some (.inl a)) : mj_G z0 cst p l e R s m args below meth c Q n0 s0 Z S pc H locs ls := by
  obtain ⟨xZ, xL, xS, xW, xV, xl, xN, xM⟩ := X
  unfold mj_o2 at h
  split at h
  · rename_i w hx
    obtain rfl := mj_go_a h
    rcases w with w | w
    · exact lv_aload_n C.1 C.2.1 hd rfl (xl.2.2.2 _ _ hx) (kk H locs ls xW xV xl)
    · exact lv_aload_n C.1 C.2.1 hd rfl (xl.2.2.2 _ _ hx) (kk H locs ls xW xV xl)
  · cases h
theorem mj_s_aload (C : mj_Cx K z0 cst dD dA y n0 p s m args meth c) (X : mj_St z0 cst dD dA y n0 s0 s Z L S H locs ls) (kk : mj_Nx z0 cst dD dA y p l e R s m args below meth c Q n0 s0 a) {k : Nat} (hd : decode (mj_bb y) pc = .ok (.aload k, 2)) (h : mj_o2 k (pc + 2) L S Z = some (.inl a)) : mj_G z0 cst p l e R s m args below meth c Q n0 s0 Z S pc H locs ls := by
  obtain ⟨xZ, xL, xS, xW, xV, xl, xN, xM⟩ := X
  unfold mj_o2 at h
  split at h
  · rename_i w hx
    obtain rfl := mj_go_a h
    rcases w with w | w
    · exact lv_aload C.1 C.2.1 hd (xl.2.2.2 _ _ hx) (kk H locs ls xW xV xl)
    · exact lv_aload C.1 C.2.1 hd (xl.2.2.2 _ _ hx) (kk H locs ls xW xV xl)
  · cases h
theorem mj_s_lload_n (C : mj_Cx K z0 cst dD dA y n0 p s m args meth c) (X : mj_St z0 cst dD dA y n0 s0 s Z L S H locs ls) (kk : mj_Nx z0 cst dD dA y p l e R s m args below meth c Q n0 s0 a) {k : Fin 4} (hd : decode (mj_bb y) pc = .ok (.lload_n k, 1)) (h : mj_o3 k (pc + 1) L S Z = some (.inl a)) : mj_G z0 cst p l e R s m args below meth c Q n0 s0 Z S pc H locs ls := by
  obtain ⟨xZ, xL, xS, xW, xV, xl, xN, xM⟩ := X
  unfold mj_o3 at h
  split at h
  · rename_i w hx
    obtain rfl := mj_go_a h
    exact lv_lload_n C.1 C.2.1 hd rfl (xl.2.2.2 _ _ hx) (kk H locs ls xW xV xl)
  · cases h
theorem mj_s_lload (C : mj_Cx K z0 cst dD dA y n0 p s m args meth c) (X : mj_St z0 cst dD dA y n0 s0 s Z L S H locs ls) (kk : mj_Nx z0 cst dD dA y p l e R s m args below meth c Q n0 s0 a) {k : Nat} (hd : decode (mj_bb y) pc = .ok (.lload k, 2)) (h : mj_o3 k (pc + 2) L S Z = some (.inl a)) : mj_G z0 cst p l e R s m args below meth c Q n0 s0 Z S pc H locs ls := by
  obtain ⟨xZ, xL, xS, xW, xV, xl, xN, xM⟩ := X
  unfold mj_o3 at h
  split at h
  · rename_i w hx
    obtain rfl := mj_go_a h
    exact lv_lload C.1 C.2.1 hd (xl.2.2.2 _ _ hx) (kk H locs ls xW xV xl)
  · cases h
theorem mj_s_istore_n (C : mj_Cx K z0 cst dD dA y n0 p s m args meth c) (X : mj_St z0 cst dD dA y n0 s0 s Z L S H locs ls) (kk : mj_Nx z0 cst dD dA y p l e R s m args below meth c Q n0 s0 a) {k : Fin 4} (hd : decode (mj_bb y) pc = .ok (.istore_n k, 1)) (h : mj_o4 k (pc + 1) L S Z = some (.inl a)) : mj_G z0 cst p l e R s m args below meth c Q n0 s0 Z S pc H locs ls := by
  obtain ⟨xZ, xL, xS, xW, xV, xl, xN, xM⟩ := X
  unfold mj_o4 at h
  split at h
  · rename_i w S
    split at h
    · rename_i hk
      obtain rfl := mj_go_a h
      exact lv_istore_n C.1 C.2.1 hd rfl (mj_LH_has xl) (by rw [← xl.1]; exact hk) rfl (fun ls1 h1 => kk H locs ls1 xW xV (mj_LH_st1 xl.1 (by rw [← xl.1]; exact hk) h1))
    · cases h
  · cases h
theorem mj_s_istore (C : mj_Cx K z0 cst dD dA y n0 p s m args meth c) (X : mj_St z0 cst dD dA y n0 s0 s Z L S H locs ls) (kk : mj_Nx z0 cst dD dA y p l e R s m args below meth c Q n0 s0 a) {k : Nat} (hd : decode (mj_bb y) pc = .ok (.istore k, 2)) (h : mj_o4 k (pc + 2) L S Z = some (.inl a)) : mj_G z0 cst p l e R s m args below meth c Q n0 s0 Z S pc H locs ls := by
  obtain ⟨xZ, xL, xS, xW, xV, xl, xN, xM⟩ := X
  unfold mj_o4 at h
  split at h
  · rename_i w S
    split at h
    · rename_i hk
      obtain rfl := mj_go_a h
      exact lv_istore C.1 C.2.1 hd (mj_LH_has xl) (by rw [← xl.1]; exact hk) rfl (fun ls1 h1 => kk H locs ls1 xW xV (mj_LH_st1 xl.1 (by rw [← xl.1]; exact hk) h1))
    · cases h
  · cases h
theorem mj_s_astore_n (C : mj_Cx K z0 cst dD dA y n0 p s m args meth c) (X : mj_St z0 cst dD dA y n0 s0 s Z L S H locs ls) (kk : mj_Nx z0 cst dD dA y p l e R s m args below meth c Q n0 s0 a) {k : Fin 4} (hd : decode (mj_bb y) pc = .ok (.astore_n k, 1)) (h : mj_o5 k (pc + 1) L S Z = some (.inl a)) : mj_G z0 cst p l e R s m args below meth c Q n0 s0 Z S pc H locs ls := by
  obtain ⟨xZ, xL, xS, xW, xV, xl, xN, xM⟩ := X
  unfold mj_o5 at h
  split at h
  · rename_i w S
    split at h
    · rename_i hk
      obtain rfl := mj_go_a h
      rcases w with w | w
      · exact lv_astore_n C.1 C.2.1 hd rfl (mj_LH_has xl) (by rw [← xl.1]; exact hk) rfl (fun ls1 h1 => kk H locs ls1 xW xV (mj_LH_st1 xl.1 (by rw [← xl.1]; exact hk) h1))
      · exact lv_astore_n C.1 C.2.1 hd rfl (mj_LH_has xl) (by rw [← xl.1]; exact hk) rfl (fun ls1 h1 => kk H locs ls1 xW xV (mj_LH_st1 xl.1 (by rw [← xl.1]; exact hk) h1))
    · cases h
  · cases h
theorem mj_s_astore (C : mj_Cx K z0 cst dD dA y n0 p s m args meth c) (X : mj_St z0 cst dD dA y n0 s0 s Z L S H locs ls) (kk : mj_Nx z0 cst dD dA y p l e R s m args below meth c Q n0 s0 a) {k : Nat} (hd : decode (mj_bb y) pc = .ok (.astore k, 2)) (h : mj_o5 k (pc + 2) L S Z = some (.inl a)) : mj_G z0 cst p l e R s m args below meth c Q n0 s0 Z S pc H locs ls := by
  obtain ⟨xZ, xL, xS, xW, xV, xl, xN, xM⟩ := X
  unfold mj_o5 at h
  split at h
  · rename_i w S
    split at h
    · rename_i hk
      obtain rfl := mj_go_a h
      rcases w with w | w
      · exact lv_astore C.1 C.2.1 hd (mj_LH_has xl) (by rw [← xl.1]; exact hk) rfl (fun ls1 h1 => kk H locs ls1 xW xV (mj_LH_st1 xl.1 (by rw [← xl.1]; exact hk) h1))
      · exact lv_astore C.1 C.2.1 hd (mj_LH_has xl) (by rw [← xl.1]; exact hk) rfl (fun ls1 h1 => kk H locs ls1 xW xV (mj_LH_st1 xl.1 (by rw [← xl.1]; exact hk) h1))
    · cases h
  · cases h
theorem mj_s_lstore_n (C : mj_Cx K z0 cst dD dA y n0 p s m args meth c) (X : mj_St z0 cst dD dA y n0 s0 s Z L S H locs ls) (kk : mj_Nx z0 cst dD dA y p l e R s m args below meth c Q n0 s0 a) {k : Fin 4} (hd : decode (mj_bb y) pc = .ok (.lstore_n k, 1)) (h : mj_o6 k (pc + 1) L S Z = some (.inl a)) : mj_G z0 cst p l e R s m args below meth c Q n0 s0 Z S pc H locs ls := by
  obtain ⟨xZ, xL, xS, xW, xV, xl, xN, xM⟩ := X
  unfold mj_o6 at h
  split at h
  · rename_i w S
    split at h
    · rename_i hk
      obtain rfl := mj_go_a h
      exact lv_lstore_n C.1 C.2.1 hd rfl (mj_LH_has xl) (by rw [← xl.1]; exact hk) rfl (fun ls1 h1 => kk H locs ls1 xW xV (mj_LH_st2 xl.1 (by rw [← xl.1]; exact hk) h1))
    · cases h
  · cases h
theorem mj_s_lstore (C : mj_Cx K z0 cst dD dA y n0 p s m args meth c) (X : mj_St z0 cst dD dA y n0 s0 s Z L S H locs ls) (kk : mj_Nx z0 cst dD dA y p l e R s m args below meth c Q n0 s0 a) {k : Nat} (hd : decode (mj_bb y) pc = .ok (.lstore k, 2)) (h : mj_o6 k (pc + 2) L S Z = some (.inl a)) : mj_G z0 cst p l e R s m args below meth c Q n0 s0 Z S pc H locs ls := by
  obtain ⟨xZ, xL, xS, xW, xV, xl, xN, xM⟩ := X
  unfold mj_o6 at h
  split at h
  · rename_i w S
    split at h
    · rename_i hk
      obtain rfl := mj_go_a h
      exact lv_lstore C.1 C.2.1 hd (mj_LH_has xl) (by rw [← xl.1]; exact hk) rfl (fun ls1 h1 => kk H locs ls1 xW xV (mj_LH_st2 xl.1 (by rw [← xl.1]; exact hk) h1))
    · cases h
  · cases h
theorem mj_s_iinc (C : mj_Cx K z0 cst dD dA y n0 p s m args meth c) (X : mj_St z0 cst dD dA y n0 s0 s Z L S H locs ls) (kk : mj_Nx z0 cst dD dA y p l e R s m args below meth c Q n0 s0 a) {n : Int} {k : Nat} (hd : decode (mj_bb y) pc = .ok (.iinc k n, 3)) (h : mj_o7 n k (pc + 3) L S Z = some (.inl a)) : mj_G z0 cst p l e R s m args below meth c Q n0 s0 Z S pc H locs ls := by
  obtain ⟨xZ, xL, xS, xW, xV, xl, xN, xM⟩ := X
  unfold mj_o7 at h
  split at h
  · rename_i x hx
    split at h
    · rename_i hk
      split at h
      · obtain rfl := mj_go_a h
        obtain ⟨q, hq⟩ := List.getElem?_of_mem (mj_al2_in (z0 := z0) (cst := cst) hx)
        refine lv_iinc C.1 C.2.1 hd (mj_LH_has xl) (k := q) (x := Int32.ofInt x) hq (v := Int32.ofInt (x + n)) (Int32.ofInt_add _ _).symm (by rw [← xl.1]; exact hk) rfl (fun ls1 h1 => kk H locs ls1 xW xV (mj_LH_st1 (v := .inl (x + n)) xl.1 (by rw [← xl.1]; exact hk) h1))
      · cases h
    · cases h
  · cases h
theorem mj_s_iadd (C : mj_Cx K z0 cst dD dA y n0 p s m args meth c) (X : mj_St z0 cst dD dA y n0 s0 s Z L S H locs ls) (kk : mj_Nx z0 cst dD dA y p l e R s m args below meth c Q n0 s0 a)  (hd : decode (mj_bb y) pc = .ok (.iadd, 1)) (h : mj_bin (fun x y => x + y) (pc + 1) L S Z = some (.inl a)) : mj_G z0 cst p l e R s m args below meth c Q n0 s0 Z S pc H locs ls := by
  obtain ⟨xZ, xL, xS, xW, xV, xl, xN, xM⟩ := X
  unfold mj_bin at h
  split at h
  · split at h
    · obtain rfl := mj_go_a h
      refine lv_iadd C.1 C.2.1 hd ?_
      rw [← Int32.ofInt_add]
      exact kk H locs ls xW xV xl
    · cases h
  · cases h
theorem mj_s_isub (C : mj_Cx K z0 cst dD dA y n0 p s m args meth c) (X : mj_St z0 cst dD dA y n0 s0 s Z L S H locs ls) (kk : mj_Nx z0 cst dD dA y p l e R s m args below meth c Q n0 s0 a)  (hd : decode (mj_bb y) pc = .ok (.isub, 1)) (h : mj_bin (fun x y => x - y) (pc + 1) L S Z = some (.inl a)) : mj_G z0 cst p l e R s m args below meth c Q n0 s0 Z S pc H locs ls := by
  obtain ⟨xZ, xL, xS, xW, xV, xl, xN, xM⟩ := X
  unfold mj_bin at h
  split at h
  · split at h
    · obtain rfl := mj_go_a h
      refine lv_isub C.1 C.2.1 hd ?_
      rw [← Int32.ofInt_sub]
      exact kk H locs ls xW xV xl
    · cases h
  · cases h
theorem mj_s_imul (C : mj_Cx K z0 cst dD dA y n0 p s m args meth c) (X : mj_St z0 cst dD dA y n0 s0 s Z L S H locs ls) (kk : mj_Nx z0 cst dD dA y p l e R s m args below meth c Q n0 s0 a)  (hd : decode (mj_bb y) pc = .ok (.imul, 1)) (h : mj_bin (fun x y => x * y) (pc + 1) L S Z = some (.inl a)) : mj_G z0 cst p l e R s m args below meth c Q n0 s0 Z S pc H locs ls := by
  obtain ⟨xZ, xL, xS, xW, xV, xl, xN, xM⟩ := X
  unfold mj_bin at h
  split at h
  · split at h
    · obtain rfl := mj_go_a h
      refine lv_imul C.1 C.2.1 hd ?_
      rw [← Int32.ofInt_mul]
      exact kk H locs ls xW xV xl
    · cases h
  · cases h
theorem mj_s_idiv (C : mj_Cx K z0 cst dD dA y n0 p s m args meth c) (X : mj_St z0 cst dD dA y n0 s0 s Z L S H locs ls) (kk : mj_Nx z0 cst dD dA y p l e R s m args below meth c Q n0 s0 a)  (hd : decode (mj_bb y) pc = .ok (.idiv, 1)) (h : mj_dv (fun x y => x.tdiv y) (pc + 1) L S Z = some (.inl a)) : mj_G z0 cst p l e R s m args below meth c Q n0 s0 Z S pc H locs ls := by
  obtain ⟨xZ, xL, xS, xW, xV, xl, xN, xM⟩ := X
  unfold mj_dv at h
  split at h
  · rw [mj_okS_c, mj_okS_c] at xS
    split at h
    · rename_i hy
      obtain rfl := mj_go_a h
      refine lv_idiv C.1 C.2.1 hd (fun q => ?_) ?_
      · rw [show (0 : Int32) = Int32.ofInt 0 from rfl, mj_eq32 xS.1 mj_rg0] at q
        omega
      rw [mj_dv32 xS.2.1 xS.1 hy]
      exact kk H locs ls xW xV xl
    · cases h
  · cases h
theorem mj_s_irem (C : mj_Cx K z0 cst dD dA y n0 p s m args meth c) (X : mj_St z0 cst dD dA y n0 s0 s Z L S H locs ls) (kk : mj_Nx z0 cst dD dA y p l e R s m args below meth c Q n0 s0 a)  (hd : decode (mj_bb y) pc = .ok (.irem, 1)) (h : mj_dv (fun x y => x.tmod y) (pc + 1) L S Z = some (.inl a)) : mj_G z0 cst p l e R s m args below meth c Q n0 s0 Z S pc H locs ls := by
  obtain ⟨xZ, xL, xS, xW, xV, xl, xN, xM⟩ := X
  unfold mj_dv at h
  split at h
  · rw [mj_okS_c, mj_okS_c] at xS
    split at h
    · rename_i hy
      obtain rfl := mj_go_a h
      refine lv_irem C.1 C.2.1 hd (fun q => ?_) ?_
      · rw [show (0 : Int32) = Int32.ofInt 0 from rfl, mj_eq32 xS.1 mj_rg0] at q
        omega
      rw [mj_rm32 xS.2.1 xS.1 hy]
      exact kk H locs ls xW xV xl
    · cases h
  · cases h
theorem mj_s_ineg (C : mj_Cx K z0 cst dD dA y n0 p s m args meth c) (X : mj_St z0 cst dD dA y n0 s0 s Z L S H locs ls) (kk : mj_Nx z0 cst dD dA y p l e R s m args below meth c Q n0 s0 a)  (hd : decode (mj_bb y) pc = .ok (.ineg, 1)) (h : mj_neg (pc + 1) L S Z = some (.inl a)) : mj_G z0 cst p l e R s m args below meth c Q n0 s0 Z S pc H locs ls := by
  obtain ⟨xZ, xL, xS, xW, xV, xl, xN, xM⟩ := X
  unfold mj_neg at h
  split at h
  · split at h
    · obtain rfl := mj_go_a h
      refine lv_ineg C.1 C.2.1 hd ?_
      have hk := kk H locs ls xW xV xl
      unfold mj_G at hk
      simpa [mj_rl] using hk
    · cases h
  · cases h
theorem mj_s_iand (C : mj_Cx K z0 cst dD dA y n0 p s m args meth c) (X : mj_St z0 cst dD dA y n0 s0 s Z L S H locs ls) (kk : mj_Nx z0 cst dD dA y p l e R s m args below meth c Q n0 s0 a)  (hd : decode (mj_bb y) pc = .ok (.iand, 1)) (h : mj_and (pc + 1) L S Z = some (.inl a)) : mj_G z0 cst p l e R s m args below meth c Q n0 s0 Z S pc H locs ls := by
  obtain ⟨xZ, xL, xS, xW, xV, xl, xN, xM⟩ := X
  unfold mj_and at h
  split at h
  · split at h
    · rename_i hy
      subst hy
      obtain rfl := mj_go_a h
      refine lv_iand C.1 C.2.1 hd ?_
      rw [mj_and63]
      exact kk H locs ls xW xV xl
    · split at h
      · rename_i hy
        obtain rfl := mj_go_a h
        refine lv_iand C.1 C.2.1 hd ?_
        have hk := kk H locs ls xW xV xl
        rcases hy with ⟨rfl | rfl, rfl | rfl⟩ <;> exact hk
      · cases h
  · cases h
theorem mj_fk_ok {h : List mj_S} {a ci j : Nat} {k : mj_K} (q : mj_fk h a ci j = some k) : ∃ ks, h[a]? = some (0, ci, ks) ∧ ks[j]? = some k := by
  unfold mj_fk at q
  split at q
  · rename_i c ks he
    split at q
    · rename_i e1
      subst e1
      exact ⟨ks, he, q⟩
    · cases q
  · cases q
theorem mj_al_ok {h : List mj_S} {t a n : Nat} (q : mj_al h t a = some n) : ∃ ks, h[a]? = some (t, n, ks) ∧ 0 < t := by
  unfold mj_al at q
  split at q
  · rename_i t' n' ks he
    split at q
    · rename_i e1
      cases q
      subst e1
      exact ⟨ks, he, Nat.succ_pos _⟩
    · cases q
  · cases q
theorem mj_W_obj {a ci : Nat} {ks : List mj_K} (h : Z.1[a]? = some (0, ci, ks)) : (mj_W z0 dA Z)[a]? = some (z0 + a, .inr (ci, ks.mapIdx fun j k => mj_fv z0 Z.2.1 Z.2.2 a j k)) := mj_W_get h
theorem mj_fv_at {a j : Nat} {ks : List mj_K} {k : mj_K} (h : ks[j]? = some k) : (ks.mapIdx fun j k => mj_fv z0 Z.2.1 Z.2.2 a j k)[j]? = some (mj_fv z0 Z.2.1 Z.2.2 a j k) := by
  rw [List.getElem?_mapIdx, h]; rfl
theorem mj_s_getf (C : mj_Cx K z0 cst dD dA y n0 p s m args meth c) (X : mj_St z0 cst dD dA y n0 s0 s Z L S H locs ls) (kk : mj_Nx z0 cst dD dA y p l e R s m args below meth c Q n0 s0 a) {ix ci j ps : Nat} (hx : (mj_ci y, ix, ci, j, ps) ∈ mj_fL) (hd : decode (mj_bb y) pc = .ok (.getfield ix, 3)) (h : mj_get ci j (pc + 3) L S Z = some (.inl a)) : mj_G z0 cst p l e R s m args below meth c Q n0 s0 Z S pc H locs ls := by
  obtain ⟨xZ, xL, xS, xW, xV, xl, xN, xM⟩ := X
  obtain ⟨f1, f2, f3⟩ := mj_fL_ok _ hx
  have hlink := C.2.2.2.2.1 _ (mj_in f3 rfl)
  unfold mj_get at h
  split at h
  · rename_i q S
    split at h
    · rename_i hk
      obtain ⟨ks, g1, g2⟩ := mj_fk_ok hk
      obtain rfl := mj_go_a h
      exact va_get C.1 C.2.1 C.2.2.2.2.1 (mj_uin f1) C.2.2.2.1 C.2.2.2.2.2.2.1 xW.2 q (mj_W_obj g1) (mj_cl_at f1) j f2 hlink (fun _ h9 => h9) (mj_fv_at g2) hd (kk H locs ls xW xV xl)
    · rename_i k0 hne hk
      obtain ⟨ks, g1, g2⟩ := mj_fk_ok hk
      obtain rfl := mj_go_a h
      refine va_get C.1 C.2.1 C.2.2.2.2.1 (mj_uin f1) C.2.2.2.1 C.2.2.2.2.2.2.1 xW.2 q (mj_W_obj g1) (mj_cl_at f1) j f2 hlink (fun _ h9 => h9) (v := .int (Int32.ofInt (Z.2.1 q j))) ?_ hd (kk H locs ls xW xV xl)
      rw [mj_fv_at g2]
      match k0, hne with
      | 0, _ => rfl
      | 1, hne => exact absurd rfl hne
      | k0 + 2, _ => rfl
    · rename_i b hk
      obtain ⟨ks, g1, g2⟩ := mj_fk_ok hk
      obtain rfl := mj_go_a h
      exact va_get C.1 C.2.1 C.2.2.2.2.1 (mj_uin f1) C.2.2.2.1 C.2.2.2.2.2.2.1 xW.2 q (mj_W_obj g1) (mj_cl_at f1) j f2 hlink (fun _ h9 => h9) (mj_fv_at g2) hd (kk H locs ls xW xV xl)
    · cases h
  · cases h
theorem mj_rfn {ty : FieldType} {a : Nat} (h : ty.isReference = true) : narrow ty (.ref a) = .ref a ∧ fits ty (.ref a) = true := by
  cases ty <;> simp [FieldType.isReference] at h <;> exact ⟨rfl, rfl⟩
theorem mj_set_fv {ks : List mj_K} {a j : Nat} {M' : Nat → Nat → Int} {N' : Nat → Nat → Int64} {k k' : mj_K} {v : Value} (hk : ks[j]? = some k) (hv : mj_fv z0 M' N' a j k' = v) (ho : ∀ i, i ≠ j → M' a i = Z.2.1 a i ∧ N' a i = Z.2.2 a i) :
    (ks.mapIdx fun j k => mj_fv z0 Z.2.1 Z.2.2 a j k).set j v = (ks.set j k').mapIdx fun j k => mj_fv z0 M' N' a j k := by
  have hlt := (List.getElem?_eq_some_iff.mp hk).1
  apply List.ext_getElem?
  intro i
  rw [List.getElem?_mapIdx]
  by_cases e : i = j
  · subst e
    rw [List.getElem?_set_self (by rw [List.length_mapIdx]; exact hlt), List.getElem?_set_self hlt]
    rw [Option.map_some, hv]
  · rw [List.getElem?_set_ne (fun q => e q.symm), List.getElem?_set_ne (fun q => e q.symm), List.getElem?_mapIdx]
    obtain ⟨o1, o2⟩ := ho i e
    cases ks[i]? with
    | none => rfl
    | some k1 =>
      simp only [Option.map_some, Option.some.injEq]
      rcases k1 with k1 | k1
      · match k1 with
        | 0 => simp [mj_fv, o1]
        | 1 => simp [mj_fv, o2]
        | k1 + 2 => simp [mj_fv, o1]
      · cases k1 <;> rfl
theorem mj_set_same {ks : List mj_K} {j : Nat} {k : mj_K} (h : ks[j]? = some k) : ks.set j k = ks := by
  apply List.ext_getElem?
  intro i
  by_cases e : i = j
  · subst e
    rw [List.getElem?_set_self (List.getElem?_eq_some_iff.mp h).1, h]
  · rw [List.getElem?_set_ne (fun q => e q.symm)]
theorem mj_u_self {α : Type} {M : Nat → Nat → α} {a j : Nat} {v : α} : mj_u M a j v a j = v := if_pos ⟨rfl, rfl⟩
theorem mj_u_ne2 {α : Type} {M : Nat → Nat → α} {a j : Nat} {v : α} {b k : Nat} (h : k ≠ j) : mj_u M a j v b k = M b k := if_neg (fun q => h q.2)
theorem mj_szd {slots : Nat} {Z : mj_Z} {H : Heap} {locs : List Loc} {g : JFrame} (C : mj_Cx K z0 cst dD dA y n0 p s m args meth c) (hn : n0 ≤ mj_nc Z) (hP : va_P dD mj_cl (mj_W z0 dA Z) H) (hV : va_S (mj_Ad z0) s.heap H locs) (k : mj_Wd z0 dD dA Z H → W p l e R s m args below meth c H locs (mj_nc Z - n0) slots Q g) : W p l e R s m args below meth c H locs (mj_nc Z - n0) slots Q g := by
  intro T hT X
  refine k ⟨?_, hP⟩ T hT X
  have h1 := X.heapSize
  rw [hT, C.2.2.2.2.2.2.2.2.2.2] at h1
  have h2 := hV.1
  rw [C.2.2.2.2.2.2.2.2.2.2] at h2
  show H.size = z0 + mj_nc Z
  rcases Nat.eq_zero_or_pos (mj_nc Z) with h3 | h3
  · omega
  · have h4 : mj_nc Z - 1 < Z.1.length := by show Z.1.length - 1 < _; have : mj_nc Z = Z.1.length := rfl; omega
    have h5 := (hP (mj_nc Z - 1) _ (mj_W_get (List.getElem?_eq_getElem h4))).lt
    have h6 : z0 + (mj_nc Z - 1) < H.size := h5
    omega
theorem mj_s_putf (C : mj_Cx K z0 cst dD dA y n0 p s m args meth c) (X : mj_St z0 cst dD dA y n0 s0 s Z L S H locs ls) (kk : mj_Nx z0 cst dD dA y p l e R s m args below meth c Q n0 s0 a) {q0 : Int} {ix ci j ps : Nat} (hx : (mj_ci y, ix, ci, j, ps) ∈ mj_fL) (hnf : (mj_TT ci j).2.2.2 = false) (htt : (q0 = 0 ∧ mj_tT ci j = .int) ∨ (q0 = 1 ∧ mj_tT ci j = .long) ∨ (q0 = 2 ∧ mj_tT ci j = .boolean)) (hd : decode (mj_bb y) pc = .ok (.putfield ix, 3)) (h : mj_put q0 ci j (pc + 3) L S Z = some (.inl a)) : mj_G z0 cst p l e R s m args below meth c Q n0 s0 Z S pc H locs ls := by
  obtain ⟨xZ, xL, xS, xW, xV, xl, xN, xM⟩ := X
  obtain ⟨f1, f2, f3⟩ := mj_fL_ok _ hx
  have hlink := C.2.2.2.2.1 _ (mj_in f3 rfl)
  unfold mj_put at h
  split at h
  · rename_i v q S
    split at h
    · rename_i hk
      split at h
      · rename_i hq
        subst hq
        have ht : mj_tT ci j = .int := by rcases htt with h | h | h <;> first | exact h.2 | exact absurd h.1 (by decide)
        obtain ⟨ks, g1, g2⟩ := mj_fk_ok hk
        obtain rfl := mj_go_a h
        refine va_put C.1 C.2.1 C.2.2.2.2.1 (mj_uin f1) (mj_tT ci) (mj_tT_ok ci f1) (mj_nm_ok ci f1) C.2.2.2.1 C.2.2.2.2.2.2.1 xW.2 mj_D xV q (mj_W_obj g1) (mj_cl_at f1) j f2 hlink (fun _ h9 => h9) hnf (ty := .int) (v := .int (Int32.ofInt v)) (by rw [mj_tT_ok ci f1 j f2, ht]) rfl rfl (by rw [List.length_mapIdx]; exact (List.getElem?_eq_some_iff.mp g2).1) hd (fun H1 locs1 hP hD hS => ?_)
        rw [mj_W_set (z0 := z0) (dA := dA) (Z := Z) (e := .inr (ci, (ks.mapIdx fun j k => mj_fv z0 Z.2.1 Z.2.2 q j k).set j (.int (Int32.ofInt v)))) (Z' := (Z.1, mj_u Z.2.1 q j v, Z.2.2)) (sh := (0, ci, ks)) rfl g1 (by simp only [mj_el]; rw [mj_set_fv g2 (k' := .inl 0) (M' := mj_u Z.2.1 q j v) (N' := Z.2.2) (by simp [mj_fv, mj_u_self]) (fun i hi => ⟨mj_u_ne2 hi, rfl⟩), mj_set_same g2]) (fun i hi sh hsh => ⟨hsh, mj_el_u (fun j => mj_u_ne hi j) (fun j => rfl)⟩)] at hP
        exact mj_szd (Z := (Z.1, mj_u Z.2.1 q j v, Z.2.2)) C xN hP hS (fun hw => kk H1 locs1 ls hw hS xl)
      · cases h
    · rename_i hk
      split at h
      · rename_i hq
        subst hq
        split at h
        · rename_i hv
          have ht : mj_tT ci j = .boolean := by rcases htt with h | h | h <;> first | exact h.2 | exact absurd h.1 (by decide)
          obtain ⟨ks, g1, g2⟩ := mj_fk_ok hk
          obtain rfl := mj_go_a h
          refine va_put C.1 C.2.1 C.2.2.2.2.1 (mj_uin f1) (mj_tT ci) (mj_tT_ok ci f1) (mj_nm_ok ci f1) C.2.2.2.1 C.2.2.2.2.2.2.1 xW.2 mj_D xV q (mj_W_obj g1) (mj_cl_at f1) j f2 hlink (fun _ h9 => h9) hnf (ty := .boolean) (v := .int (Int32.ofInt v)) (by rw [mj_tT_ok ci f1 j f2, ht]) (by rcases hv with rfl | rfl <;> rfl) (by rcases hv with rfl | rfl <;> rfl) (by rw [List.length_mapIdx]; exact (List.getElem?_eq_some_iff.mp g2).1) hd (fun H1 locs1 hP hD hS => ?_)
          rw [mj_W_set (z0 := z0) (dA := dA) (Z := Z) (e := .inr (ci, (ks.mapIdx fun j k => mj_fv z0 Z.2.1 Z.2.2 q j k).set j (.int (Int32.ofInt v)))) (Z' := (Z.1, mj_u Z.2.1 q j v, Z.2.2)) (sh := (0, ci, ks)) rfl g1 (by simp only [mj_el]; rw [mj_set_fv g2 (k' := .inl 2) (M' := mj_u Z.2.1 q j v) (N' := Z.2.2) (by simp [mj_fv, mj_u_self]) (fun i hi => ⟨mj_u_ne2 hi, rfl⟩), mj_set_same g2]) (fun i hi sh hsh => ⟨hsh, mj_el_u (fun j => mj_u_ne hi j) (fun j => rfl)⟩)] at hP
          exact mj_szd (Z := (Z.1, mj_u Z.2.1 q j v, Z.2.2)) C xN hP hS (fun hw => kk H1 locs1 ls hw hS xl)
        · cases h
      · cases h
    · cases h
  · rename_i v q S
    split at h
    · rename_i hk
      split at h
      · rename_i hq
        subst hq
        have ht : mj_tT ci j = .long := by rcases htt with h | h | h <;> first | exact h.2 | exact absurd h.1 (by decide)
        obtain ⟨ks, g1, g2⟩ := mj_fk_ok hk
        obtain rfl := mj_go_a h
        refine va_put C.1 C.2.1 C.2.2.2.2.1 (mj_uin f1) (mj_tT ci) (mj_tT_ok ci f1) (mj_nm_ok ci f1) C.2.2.2.1 C.2.2.2.2.2.2.1 xW.2 mj_D xV q (mj_W_obj g1) (mj_cl_at f1) j f2 hlink (fun _ h9 => h9) hnf (ty := .long) (v := .long v) (by rw [mj_tT_ok ci f1 j f2, ht]) rfl rfl (by rw [List.length_mapIdx]; exact (List.getElem?_eq_some_iff.mp g2).1) hd (fun H1 locs1 hP hD hS => ?_)
        rw [mj_W_set (z0 := z0) (dA := dA) (Z := Z) (e := .inr (ci, (ks.mapIdx fun j k => mj_fv z0 Z.2.1 Z.2.2 q j k).set j (.long v))) (Z' := (Z.1, Z.2.1, mj_u Z.2.2 q j v)) (sh := (0, ci, ks)) rfl g1 (by simp only [mj_el]; rw [mj_set_fv g2 (k' := .inl 1) (M' := Z.2.1) (N' := mj_u Z.2.2 q j v) (by simp [mj_fv, mj_u_self]) (fun i hi => ⟨rfl, mj_u_ne2 hi⟩), mj_set_same g2]) (fun i hi sh hsh => ⟨hsh, mj_el_u (fun j => rfl) (fun j => mj_u_ne hi j)⟩)] at hP
        exact mj_szd (Z := (Z.1, Z.2.1, mj_u Z.2.2 q j v)) C xN hP hS (fun hw => kk H1 locs1 ls hw hS xl)
      · cases h
    · cases h
  · cases h
theorem mj_s_putF (C : mj_Cx K z0 cst dD dA y n0 p s m args meth c) (X : mj_St z0 cst dD dA y n0 s0 s Z L S H locs ls) (kk : mj_Nx z0 cst dD dA y p l e R s m args below meth c Q n0 s0 a) {ix ci j ps : Nat} (hx : (mj_ci y, ix, ci, j, ps) ∈ mj_fL) (hnf : (mj_TT ci j).2.2.2 = true) (hci : ci = mj_ci y) (hin : (mj_yy y).name = "<init>") (hrf : (mj_tT ci j).isReference = true) (hd : decode (mj_bb y) pc = .ok (.putfield ix, 3)) (h : mj_putF ci j (pc + 3) L S Z = some (.inl a)) : mj_G z0 cst p l e R s m args below meth c Q n0 s0 Z S pc H locs ls := by
  obtain ⟨xZ, xL, xS, xW, xV, xl, xN, xM⟩ := X
  obtain ⟨f1, f2, f3⟩ := mj_fL_ok _ hx
  have hlink := C.2.2.2.2.1 _ (mj_in f3 rfl)
  have hin2 : meth.name = "<init>" := C.2.2.2.2.2.1 hin
  subst hci
  generalize hcy : mj_ci y = ci at *
  unfold mj_putF at h
  split at h
  · rename_i b q S
    split at h
    · rename_i c0 ks g1
      split at h
      · rename_i hc0
        subst hc0
        split at h
        · rename_i r g2
          obtain rfl := mj_go_a h
          refine va_putF C.1 C.2.1 C.2.2.2.2.1 (mj_uin f1) (mj_tT c0) (mj_tT_ok c0 f1) (mj_nm_ok c0 f1) (hcy ▸ C.2.2.2.1) C.2.2.2.2.2.2.1 xW.2 mj_D xV q (mj_W_obj g1) (mj_cl_at f1) j f2 hlink (fun _ h9 => h9) hnf hin2 rfl (ty := mj_tT c0 j) (v := .ref (z0 + b)) (mj_tT_ok c0 f1 j f2) (mj_rfn hrf).1 (mj_rfn hrf).2 (by rw [List.length_mapIdx]; exact (List.getElem?_eq_some_iff.mp g2).1) hd (fun H1 locs1 hP hD hS => ?_)
          rw [mj_W_set (z0 := z0) (dA := dA) (Z := Z) (e := .inr (c0, (ks.mapIdx fun j k => mj_fv z0 Z.2.1 Z.2.2 q j k).set j (.ref (z0 + b)))) (Z' := (Z.1.set q (0, c0, ks.set j (.inr (some b))), Z.2)) (sh := (0, c0, ks.set j (.inr (some b)))) (List.length_set) (List.getElem?_set_self (List.getElem?_eq_some_iff.mp g1).1) (by simp only [mj_el]; rw [mj_set_fv g2 (k' := .inr (some b)) (v := .ref (z0 + b)) (M' := Z.2.1) (N' := Z.2.2) rfl (fun i hi => ⟨rfl, rfl⟩)]) (fun i hi sh hsh => ⟨by rw [List.getElem?_set_ne (fun q => hi q.symm)]; exact hsh, rfl⟩)] at hP
          have e1 : mj_nc (Z.1.set q (0, c0, ks.set j (.inr (some b))), Z.2) = mj_nc Z := List.length_set
          have e2 : mj_ns (Z.1.set q (0, c0, ks.set j (.inr (some b))), Z.2) = mj_ns Z := mj_sm_set _ _ _ _ g1 (by simp [mj_sz])
          refine W.cs (cells' := mj_nc (Z.1.set q (0, c0, ks.set j (.inr (some b))), Z.2) - n0) (slots' := mj_ns (Z.1.set q (0, c0, ks.set j (.inr (some b))), Z.2) - s0) (by rw [e1]) (by rw [e2]) ?_
          exact mj_szd (Z := (Z.1.set q (0, c0, ks.set j (.inr (some b))), Z.2)) C (by rw [e1]; exact xN) hP hS (fun hw => kk H1 locs1 ls hw hS xl)
        · cases h
      · cases h
    · cases h
  · cases h
theorem mj_el_i {i n : Nat} {ks : List mj_K} : mj_el z0 dA Z.2.1 Z.2.2 i (1, n, ks) = .inl (dA 1, n, .inl fun j => Int32.ofInt (Z.2.1 i j)) := rfl
theorem mj_K_t {t : Nat} {ty : FieldType} (C : mj_Cx K z0 cst dD dA y n0 p s m args meth c) (h : (mj_ty dA)[t]? = some (dA (t + 1), ty)) : va_K dD mj_cl (mj_ty dA) s := C.2.2.2.2.2.2.1
theorem mj_upd_u {M : Nat → Nat → Int} {a : Nat} {i v : Int} (hi : mj_rg i) : upd (fun j => Int32.ofInt (M a j)) (Int32.ofInt i).toNatClampNeg (Int32.ofInt v) = fun j => Int32.ofInt (mj_u M a i.toNat v a j) := by
  funext j
  rw [mj_clamp hi]
  unfold upd mj_u
  by_cases e : j = i.toNat
  · rw [if_pos e, if_pos ⟨rfl, e⟩]
  · rw [if_neg e, if_neg (fun q => e q.2)]
theorem mj_upd_l {N : Nat → Nat → Int64} {a : Nat} {i : Int} {v : Int64} (hi : mj_rg i) : vp_updL (fun j => N a j) (Int32.ofInt i).toNatClampNeg v = fun j => mj_u N a i.toNat v a j := by
  funext j
  rw [mj_clamp hi]
  unfold vp_updL mj_u
  by_cases e : j = i.toNat
  · rw [if_pos e, if_pos ⟨rfl, e⟩]
  · rw [if_neg e, if_neg (fun q => e q.2)]
theorem mj_s_iald (C : mj_Cx K z0 cst dD dA y n0 p s m args meth c) (X : mj_St z0 cst dD dA y n0 s0 s Z L S H locs ls) (kk : mj_Nx z0 cst dD dA y p l e R s m args below meth c Q n0 s0 a)  (hd : decode (mj_bb y) pc = .ok (.iaload, 1)) (h : mj_iald K (pc + 1) L S Z = some (.inl a)) : mj_G z0 cst p l e R s m args below meth c Q n0 s0 Z S pc H locs ls := by
  obtain ⟨xZ, xL, xS, xW, xV, xl, xN, xM⟩ := X
  unfold mj_iald at h
  split at h
  · rename_i i q S
    rw [mj_okS_c] at xS
    split at h
    · rename_i n hk
      obtain ⟨ks, g1, -⟩ := mj_al_ok hk
      split at h
      · rename_i hi
        obtain rfl := mj_go_a h
        refine va_iald C.1 C.2.1 C.2.2.2.2.2.2.1 xW.2 q 0 (mj_W_get g1) rfl (mj_vin xS.1 hi) hd ?_
        rw [mj_clamp xS.1]
        exact kk H locs ls xW xV xl
      · cases h
    · cases h
  · rename_i i k S
    rw [mj_okS_c] at xS
    split at h
    · rename_i hk4
      split at h
      · rename_i hi
        obtain rfl := mj_go_a h
        refine va_ti C.1 C.2.1 (C.2.2.2.2.2.2.2.1.2.2.2.1 k hk4) xV (mj_vin xS.1 hi) rfl hd ?_
        rw [mj_clamp xS.1]
        exact kk H locs ls xW xV xl
      · cases h
    · cases h
  · cases h
theorem mj_s_iast (C : mj_Cx K z0 cst dD dA y n0 p s m args meth c) (X : mj_St z0 cst dD dA y n0 s0 s Z L S H locs ls) (kk : mj_Nx z0 cst dD dA y p l e R s m args below meth c Q n0 s0 a)  (hd : decode (mj_bb y) pc = .ok (.iastore, 1)) (h : mj_iast (pc + 1) L S Z = some (.inl a)) : mj_G z0 cst p l e R s m args below meth c Q n0 s0 Z S pc H locs ls := by
  obtain ⟨xZ, xL, xS, xW, xV, xl, xN, xM⟩ := X
  unfold mj_iast at h
  split at h
  · rename_i v i q S
    rw [mj_okS_c, mj_okS_c] at xS
    split at h
    · rename_i n hk
      obtain ⟨ks, g1, -⟩ := mj_al_ok hk
      split at h
      · rename_i hi
        obtain rfl := mj_go_a h
        refine va_iast C.1 C.2.1 C.2.2.2.2.2.2.1 xW.2 mj_D xV q 0 (mj_W_get g1) rfl (mj_vin xS.2.1 hi) hd (fun H1 locs1 hP hD hS => ?_)
        rw [mj_W_set (z0 := z0) (dA := dA) (Z := Z) (e := .inl (dA 1, n, .inl (upd (fun j => Int32.ofInt (Z.2.1 q j)) (Int32.ofInt i).toNatClampNeg (Int32.ofInt v)))) (Z' := (Z.1, mj_u Z.2.1 q i.toNat v, Z.2.2)) (sh := (1, n, ks)) rfl g1 (by simp only [mj_el]; rw [mj_upd_u xS.2.1]) (fun i2 hi2 sh hsh => ⟨hsh, mj_el_u (fun j => mj_u_ne hi2 j) (fun j => rfl)⟩)] at hP
        exact mj_szd (Z := (Z.1, mj_u Z.2.1 q i.toNat v, Z.2.2)) C xN hP hS (fun hw => kk H1 locs1 ls hw hS xl)
      · cases h
    · cases h
  · cases h
theorem mj_s_lald (C : mj_Cx K z0 cst dD dA y n0 p s m args meth c) (X : mj_St z0 cst dD dA y n0 s0 s Z L S H locs ls) (kk : mj_Nx z0 cst dD dA y p l e R s m args below meth c Q n0 s0 a)  (hd : decode (mj_bb y) pc = .ok (.laload, 1)) (h : mj_lald (pc + 1) L S Z = some (.inl a)) : mj_G z0 cst p l e R s m args below meth c Q n0 s0 Z S pc H locs ls := by
  obtain ⟨xZ, xL, xS, xW, xV, xl, xN, xM⟩ := X
  unfold mj_lald at h
  split at h
  · rename_i i q S
    rw [mj_okS_c] at xS
    split at h
    · rename_i n hk
      obtain ⟨ks, g1, -⟩ := mj_al_ok hk
      split at h
      · rename_i hi
        obtain rfl := mj_go_a h
        refine va_lald C.1 C.2.1 C.2.2.2.2.2.2.1 xW.2 q 1 (mj_W_get g1) rfl (mj_vin xS.1 hi) hd ?_
        rw [mj_clamp xS.1]
        exact kk H locs ls xW xV xl
      · cases h
    · cases h
  · cases h
theorem mj_s_last (C : mj_Cx K z0 cst dD dA y n0 p s m args meth c) (X : mj_St z0 cst dD dA y n0 s0 s Z L S H locs ls) (kk : mj_Nx z0 cst dD dA y p l e R s m args below meth c Q n0 s0 a)  (hd : decode (mj_bb y) pc = .ok (.lastore, 1)) (h : mj_last (pc + 1) L S Z = some (.inl a)) : mj_G z0 cst p l e R s m args below meth c Q n0 s0 Z S pc H locs ls := by
  obtain ⟨xZ, xL, xS, xW, xV, xl, xN, xM⟩ := X
  unfold mj_last at h
  split at h
  · rename_i v i q S
    rw [mj_okS_c, mj_okS_c] at xS
    split at h
    · rename_i n hk
      obtain ⟨ks, g1, -⟩ := mj_al_ok hk
      split at h
      · rename_i hi
        obtain rfl := mj_go_a h
        refine va_last C.1 C.2.1 C.2.2.2.2.2.2.1 xW.2 mj_D xV q 1 (mj_W_get g1) rfl (mj_vin xS.2.1 hi) hd (fun H1 locs1 hP hD hS => ?_)
        rw [mj_W_set (z0 := z0) (dA := dA) (Z := Z) (e := .inl (dA 2, n, .inr (.inl (vp_updL (fun j => Z.2.2 q j) (Int32.ofInt i).toNatClampNeg v)))) (Z' := (Z.1, Z.2.1, mj_u Z.2.2 q i.toNat v)) (sh := (2, n, ks)) rfl g1 (by simp only [mj_el]; rw [mj_upd_l xS.2.1]) (fun i2 hi2 sh hsh => ⟨hsh, mj_el_u (fun j => rfl) (fun j => mj_u_ne hi2 j)⟩)] at hP
        exact mj_szd (Z := (Z.1, Z.2.1, mj_u Z.2.2 q i.toNat v)) C xN hP hS (fun hw => kk H1 locs1 ls hw hS xl)
      · cases h
    · cases h
  · cases h
end Steps
end
section
-- more of the mini instructions
section Steps
variable {K : mj_C} {z0 : Nat} {cst : Nat → Nat} {dD : va_G} {dA : Nat → ClassId} {y : Nat} {p : Program} {l : Launch} {e : Env} {R : Room} {s : State} {m : MethodId} {args : Array Value} {below : List Frame} {meth : Method} {c : Code} {Q : State → Prop} {n0 s0 : Nat}
variable {Z : mj_Z} {L : mj_L} {S : List mj_V} {H : Heap} {locs : List Loc} {ls : Array Slot} {pc : Nat} {a : Nat × mj_L × List mj_V × mj_Z}
theorem mj_rr_ok {h : List mj_S} {a i b : Nat} (q : mj_rr h a i = some b) : ∃ t n ks, h[a]? = some (t + 3, n, ks) ∧ t < 2 ∧ i < n ∧ ks[i]? = some (.inr (some b)) := by
  unfold mj_rr at q
  split at q
  · rename_i t n ks he
    split at q
    · rename_i hi
      split at q
      · rename_i b' hb
        cases q
        exact ⟨t, n, ks, he, hi.1, hi.2, hb⟩
      · cases q
    · cases q
  · cases q
theorem mj_len_ok {h : List mj_S} {a n : Nat} (q : mj_len h a = some n) : ∃ t ks, h[a]? = some (t + 1, n, ks) ∧ t < 4 := by
  unfold mj_len at q
  split at q
  · rename_i t n' ks he
    split at q
    · cases q
      exact ⟨t, ks, he, ‹_›⟩
    · cases q
  · cases q
theorem mj_s_aald (C : mj_Cx K z0 cst dD dA y n0 p s m args meth c) (X : mj_St z0 cst dD dA y n0 s0 s Z L S H locs ls) (kk : mj_Nx z0 cst dD dA y p l e R s m args below meth c Q n0 s0 a)  (hd : decode (mj_bb y) pc = .ok (.aaload, 1)) (h : mj_aald (pc + 1) L S Z = some (.inl a)) : mj_G z0 cst p l e R s m args below meth c Q n0 s0 Z S pc H locs ls := by
  obtain ⟨xZ, xL, xS, xW, xV, xl, xN, xM⟩ := X
  unfold mj_aald at h
  split at h
  · rename_i i q S
    rw [mj_okS_c] at xS
    split at h
    · rename_i hi0
      split at h
      · rename_i b hb
        obtain ⟨t, n, ks, g1, g2, g3, g4⟩ := mj_rr_ok hb
        obtain rfl := mj_go_a h
        have hin : vp_in (Int32.ofInt i) n := mj_vin xS.1 ⟨hi0, by omega⟩
        have hf : va_rf (mj_rf z0 ks (Int32.ofInt i).toNatClampNeg) = .ref (z0 + b) := by
          rw [mj_clamp xS.1]
          unfold mj_rf
          rw [g4]
          rfl
        have key : ∀ ty : FieldType, ty.isReference = true → ArrOfT s (dA (t + 3)) ty → W p l e R s m args below meth c H locs (mj_nc Z - n0) (mj_ns Z - s0) Q (F0 m pc ls (.int (Int32.ofInt i) :: .ref (z0 + q) :: S.map (mj_rl z0 cst))) := by
          intro ty hty hA
          have hcell : H[z0 + q]? = some (vp_cell (dA (t + 3)) (n, .inr (.inr (.inr (.inr fun j => mj_rf z0 ks j))))) := xW.2 q _ (mj_W_get g1)
          rw [vp_cell_q] at hcell
          refine W.aald (v := .ref (z0 + b)) (ty := ty) C.1 C.2.1 hcell (hA n _) hty (fun q => by cases q) (by rw [arrV_size]; exact hin) ?_ rfl rfl hd (kk H locs ls xW xV xl)
          rw [arrV_read _ _ (by rw [mj_clamp xS.1]; exact g3), hf]
        have hT := C.2.2.2.2.2.2.1.2
        match t, g2 with
        | 0, _ => exact key (.array .int) rfl (hT 2 _ rfl).1
        | 1, _ => exact key (.object "PermitBank$Tape") rfl (hT 3 _ rfl).1
      · cases h
    · cases h
  · cases h
theorem mj_s_alen (C : mj_Cx K z0 cst dD dA y n0 p s m args meth c) (X : mj_St z0 cst dD dA y n0 s0 s Z L S H locs ls) (kk : mj_Nx z0 cst dD dA y p l e R s m args below meth c Q n0 s0 a)  (hd : decode (mj_bb y) pc = .ok (.arraylength, 1)) (h : mj_alen K (pc + 1) L S Z = some (.inl a)) : mj_G z0 cst p l e R s m args below meth c Q n0 s0 Z S pc H locs ls := by
  obtain ⟨xZ, xL, xS, xW, xV, xl, xN, xM⟩ := X
  unfold mj_alen at h
  split at h
  · rename_i q S
    split at h
    · rename_i n hn
      obtain ⟨t, ks, g1, g2⟩ := mj_len_ok hn
      split at h
      · obtain rfl := mj_go_a h
        have hv : Int32.ofNat n = Int32.ofInt (n : Int) := Int32.ofInt_eq_ofNat.symm
        match t, g2 with
        | 0, _ => exact va_alen C.1 C.2.1 C.2.2.2.2.2.2.1 xW.2 q 0 (mj_W_get g1) rfl hv hd (kk H locs ls xW xV xl)
        | 1, _ => exact va_alen C.1 C.2.1 C.2.2.2.2.2.2.1 xW.2 q 1 (mj_W_get g1) rfl hv hd (kk H locs ls xW xV xl)
        | 2, _ => exact va_alen C.1 C.2.1 C.2.2.2.2.2.2.1 xW.2 q 2 (mj_W_get g1) rfl hv hd (kk H locs ls xW xV xl)
        | 3, _ => exact va_alen C.1 C.2.1 C.2.2.2.2.2.2.1 xW.2 q 3 (mj_W_get g1) rfl hv hd (kk H locs ls xW xV xl)
      · cases h
    · cases h
  · rename_i k S
    split at h
    · rename_i hk4
      split at h
      · obtain rfl := mj_go_a h
        exact va_tlen C.1 C.2.1 (C.2.2.2.2.2.2.2.1.2.2.2.1 k hk4) xV Int32.ofInt_eq_ofNat.symm hd (kk H locs ls xW xV xl)
      · cases h
    · cases h
  · cases h
theorem mj_s_ifc (C : mj_Cx K z0 cst dD dA y n0 p s m args meth c) (X : mj_St z0 cst dD dA y n0 s0 s Z L S H locs ls) (kk : mj_Nx z0 cst dD dA y p l e R s m args below meth c Q n0 s0 a) {c0 : ClassFile.Cond} {off : Int} (hoff : 0 ≤ (pc : Int) + off) (hd : decode (mj_bb y) pc = .ok (.ifCond c0 off, 3)) (h : mj_if (mj_cc c0) (mj_tg pc off) (pc + 3) L S Z = some (.inl a)) : mj_G z0 cst p l e R s m args below meth c Q n0 s0 Z S pc H locs ls := by
  obtain ⟨xZ, xL, xS, xW, xV, xl, xN, xM⟩ := X
  unfold mj_if at h
  split at h
  · rename_i x S
    rw [mj_okS_c] at xS
    have ht : (pc : Int) + off = ((mj_tg pc off : Nat) : Int) := by unfold mj_tg; omega
    cases c0
    · simp only [mj_cc] at h
      unfold mj_br at h
      simp only at h
      refine lv_if_eq C.1 C.2.1 hd ht (fun q => ?_) (fun q => ?_)
      · rw [show (0 : Int32) = Int32.ofInt 0 from rfl] at q; rw [mj_eq32 xS.1 mj_rg0] at q; rw [if_pos q] at h
        obtain rfl := mj_go_a h
        exact kk H locs ls xW xV xl
      · rw [show (0 : Int32) = Int32.ofInt 0 from rfl] at q; rw [mj_eq32 xS.1 mj_rg0] at q; rw [if_neg q] at h
        obtain rfl := mj_go_a h
        exact kk H locs ls xW xV xl
    · simp only [mj_cc] at h
      unfold mj_br at h
      simp only at h
      refine lv_if_ne C.1 C.2.1 hd ht (fun q => ?_) (fun q => ?_)
      · rw [show (0 : Int32) = Int32.ofInt 0 from rfl] at q; rw [mj_eq32 xS.1 mj_rg0] at q; rw [if_neg q] at h
        obtain rfl := mj_go_a h
        exact kk H locs ls xW xV xl
      · rw [show (0 : Int32) = Int32.ofInt 0 from rfl] at q; rw [mj_eq32 xS.1 mj_rg0] at q; rw [if_pos q] at h
        obtain rfl := mj_go_a h
        exact kk H locs ls xW xV xl
    · simp only [mj_cc] at h
      unfold mj_br at h
      simp only at h
      refine lv_if_lt C.1 C.2.1 hd ht (fun q => ?_) (fun q => ?_)
      · rw [show (0 : Int32) = Int32.ofInt 0 from rfl] at q; rw [mj_lt32 xS.1 mj_rg0] at q; rw [if_pos q] at h
        obtain rfl := mj_go_a h
        exact kk H locs ls xW xV xl
      · rw [show (0 : Int32) = Int32.ofInt 0 from rfl] at q; rw [mj_lt32 xS.1 mj_rg0] at q; rw [if_neg q] at h
        obtain rfl := mj_go_a h
        exact kk H locs ls xW xV xl
    · simp only [mj_cc] at h
      unfold mj_br at h
      simp only at h
      refine lv_if_ge C.1 C.2.1 hd ht (fun q => ?_) (fun q => ?_)
      · rw [show (0 : Int32) = Int32.ofInt 0 from rfl] at q; rw [mj_le32 mj_rg0 xS.1] at q; rw [if_neg (by omega)] at h
        obtain rfl := mj_go_a h
        exact kk H locs ls xW xV xl
      · rw [show (0 : Int32) = Int32.ofInt 0 from rfl] at q; rw [mj_le32 mj_rg0 xS.1] at q; rw [if_pos (by omega)] at h
        obtain rfl := mj_go_a h
        exact kk H locs ls xW xV xl
    · simp only [mj_cc] at h
      unfold mj_br at h
      simp only at h
      refine lv_if_gt C.1 C.2.1 hd ht (fun q => ?_) (fun q => ?_)
      · rw [show (0 : Int32) = Int32.ofInt 0 from rfl] at q; rw [mj_lt32 mj_rg0 xS.1] at q; rw [if_pos q] at h
        obtain rfl := mj_go_a h
        exact kk H locs ls xW xV xl
      · rw [show (0 : Int32) = Int32.ofInt 0 from rfl] at q; rw [mj_lt32 mj_rg0 xS.1] at q; rw [if_neg q] at h
        obtain rfl := mj_go_a h
        exact kk H locs ls xW xV xl
    · simp only [mj_cc] at h
      unfold mj_br at h
      simp only at h
      refine lv_if_le C.1 C.2.1 hd ht (fun q => ?_) (fun q => ?_)
      · rw [show (0 : Int32) = Int32.ofInt 0 from rfl] at q; rw [mj_le32 xS.1 mj_rg0] at q; rw [if_neg (by omega)] at h
        obtain rfl := mj_go_a h
        exact kk H locs ls xW xV xl
      · rw [show (0 : Int32) = Int32.ofInt 0 from rfl] at q; rw [mj_le32 xS.1 mj_rg0] at q; rw [if_pos (by omega)] at h
        obtain rfl := mj_go_a h
        exact kk H locs ls xW xV xl
  · cases h
theorem mj_s_icmp (C : mj_Cx K z0 cst dD dA y n0 p s m args meth c) (X : mj_St z0 cst dD dA y n0 s0 s Z L S H locs ls) (kk : mj_Nx z0 cst dD dA y p l e R s m args below meth c Q n0 s0 a) {c0 : ClassFile.Cond} {off : Int} (hoff : 0 ≤ (pc : Int) + off) (hd : decode (mj_bb y) pc = .ok (.if_icmp c0 off, 3)) (h : mj_ic (mj_cc c0) (mj_tg pc off) (pc + 3) L S Z = some (.inl a)) : mj_G z0 cst p l e R s m args below meth c Q n0 s0 Z S pc H locs ls := by
  obtain ⟨xZ, xL, xS, xW, xV, xl, xN, xM⟩ := X
  unfold mj_ic at h
  split at h
  · rename_i y x S
    rw [mj_okS_c, mj_okS_c] at xS
    have ht : (pc : Int) + off = ((mj_tg pc off : Nat) : Int) := by unfold mj_tg; omega
    cases c0
    · simp only [mj_cc] at h
      unfold mj_br at h
      simp only at h
      refine lv_icmp_eq C.1 C.2.1 hd ht (fun q => ?_) (fun q => ?_)
      · rw [mj_eq32 xS.2.1 xS.1] at q; rw [if_pos q] at h
        obtain rfl := mj_go_a h
        exact kk H locs ls xW xV xl
      · rw [mj_eq32 xS.2.1 xS.1] at q; rw [if_neg q] at h
        obtain rfl := mj_go_a h
        exact kk H locs ls xW xV xl
    · simp only [mj_cc] at h
      unfold mj_br at h
      simp only at h
      refine lv_icmp_ne C.1 C.2.1 hd ht (fun q => ?_) (fun q => ?_)
      · rw [mj_eq32 xS.2.1 xS.1] at q; rw [if_neg q] at h
        obtain rfl := mj_go_a h
        exact kk H locs ls xW xV xl
      · rw [mj_eq32 xS.2.1 xS.1] at q; rw [if_pos q] at h
        obtain rfl := mj_go_a h
        exact kk H locs ls xW xV xl
    · simp only [mj_cc] at h
      unfold mj_br at h
      simp only at h
      refine lv_icmp_lt C.1 C.2.1 hd ht (fun q => ?_) (fun q => ?_)
      · rw [mj_lt32 xS.2.1 xS.1] at q; rw [if_pos q] at h
        obtain rfl := mj_go_a h
        exact kk H locs ls xW xV xl
      · rw [mj_lt32 xS.2.1 xS.1] at q; rw [if_neg q] at h
        obtain rfl := mj_go_a h
        exact kk H locs ls xW xV xl
    · simp only [mj_cc] at h
      unfold mj_br at h
      simp only at h
      refine lv_icmp_ge C.1 C.2.1 hd ht (fun q => ?_) (fun q => ?_)
      · rw [mj_le32 xS.1 xS.2.1] at q; rw [if_neg (by omega)] at h
        obtain rfl := mj_go_a h
        exact kk H locs ls xW xV xl
      · rw [mj_le32 xS.1 xS.2.1] at q; rw [if_pos (by omega)] at h
        obtain rfl := mj_go_a h
        exact kk H locs ls xW xV xl
    · simp only [mj_cc] at h
      unfold mj_br at h
      simp only at h
      refine lv_icmp_gt C.1 C.2.1 hd ht (fun q => ?_) (fun q => ?_)
      · rw [mj_lt32 xS.1 xS.2.1] at q; rw [if_pos q] at h
        obtain rfl := mj_go_a h
        exact kk H locs ls xW xV xl
      · rw [mj_lt32 xS.1 xS.2.1] at q; rw [if_neg q] at h
        obtain rfl := mj_go_a h
        exact kk H locs ls xW xV xl
    · simp only [mj_cc] at h
      unfold mj_br at h
      simp only at h
      refine lv_icmp_le C.1 C.2.1 hd ht (fun q => ?_) (fun q => ?_)
      · rw [mj_le32 xS.2.1 xS.1] at q; rw [if_neg (by omega)] at h
        obtain rfl := mj_go_a h
        exact kk H locs ls xW xV xl
      · rw [mj_le32 xS.2.1 xS.1] at q; rw [if_pos (by omega)] at h
        obtain rfl := mj_go_a h
        exact kk H locs ls xW xV xl
  · cases h
theorem mj_s_goto (C : mj_Cx K z0 cst dD dA y n0 p s m args meth c) (X : mj_St z0 cst dD dA y n0 s0 s Z L S H locs ls) (kk : mj_Nx z0 cst dD dA y p l e R s m args below meth c Q n0 s0 a) {off : Int} (hoff : 0 ≤ (pc : Int) + off) (hd : decode (mj_bb y) pc = .ok (.goto off, 3)) (h : mj_go (mj_tg pc off) L S Z = some (.inl a)) : mj_G z0 cst p l e R s m args below meth c Q n0 s0 Z S pc H locs ls := by
  obtain ⟨xZ, xL, xS, xW, xV, xl, xN, xM⟩ := X
  obtain rfl := mj_go_a h
  exact lv_goto C.1 C.2.1 hd (by unfold mj_tg; omega) (kk H locs ls xW xV xl)
theorem mj_sw_go {x : Int} {d : Nat} {L : mj_L} {S : List mj_V} {Z : mj_Z} {a : Nat × mj_L × List mj_V × mj_Z} : ∀ {tb : List (Int × Nat)}, mj_sw x d L S Z tb = some (.inl a) → ∃ t : Nat, a = (t, L, S, Z) ∧ (((∀ q : Int × Nat, q ∈ tb → q.1 ≠ x) ∧ t = d) ∨ (∃ i : Nat, tb[i]? = some (x, t) ∧ ∀ j : Nat, j < i → ∀ q : Int × Nat, tb[j]? = some q → q.1 ≠ x))
  | [], h => ⟨d, mj_go_a h, Or.inl ⟨fun q hq => (by cases hq), rfl⟩⟩
  | (k, t) :: r, h => by
    unfold mj_sw at h
    split at h
    · rename_i e
      subst e
      exact ⟨t, mj_go_a h, Or.inr ⟨0, rfl, fun j hj => absurd hj (Nat.not_lt_zero _)⟩⟩
    · rename_i e
      obtain ⟨t', h1, h2⟩ := mj_sw_go h
      refine ⟨t', h1, ?_⟩
      rcases h2 with ⟨h3, h4⟩ | ⟨i, h3, h4⟩
      · refine Or.inl ⟨fun q hq => ?_, h4⟩
        rcases List.mem_cons.mp hq with rfl | hq
        · exact fun e2 => e e2.symm
        · exact h3 q hq
      · refine Or.inr ⟨i + 1, h3, fun j hj q hq => ?_⟩
        cases j with
        | zero => cases hq; exact fun e2 => e e2.symm
        | succ j => exact h4 j (by omega) q hq
theorem mj_tsw_at (pc : Nat) : ∀ (lo : Int) (os : List Int) (i : Nat), (mj_tsw pc lo os)[i]? = (os[i]?).map fun o => (lo + i, mj_tg pc o)
  | lo, [], i => by simp [mj_tsw]
  | lo, o :: r, 0 => by simp [mj_tsw]
  | lo, o :: r, i + 1 => by
    show (mj_tsw pc (lo + 1) r)[i]? = _
    rw [mj_tsw_at pc (lo + 1) r i]
    simp only [List.getElem?_cons_succ]
    congr 1
    funext o
    rw [show lo + 1 + (i : Int) = lo + ((i + 1 : Nat) : Int) by omega]
theorem mj_s_tsw (C : mj_Cx K z0 cst dD dA y n0 p s m args meth c) (X : mj_St z0 cst dD dA y n0 s0 s Z L S H locs ls) (kk : mj_Nx z0 cst dD dA y p l e R s m args below meth c Q n0 s0 a) {ln : Nat} {d lo hi : Int} {offs : Array Int} (h1 : 0 ≤ (pc : Int) + d) (h2 : hi - lo + 1 = (offs.toList.length : Int)) (h3 : ∀ o ∈ offs.toList, 0 ≤ (pc : Int) + o) (hd : decode (mj_bb y) pc = .ok (.tableswitch d lo hi offs, ln)) (h : mj_swi (mj_tsw pc lo offs.toList) (mj_tg pc d) L S Z = some (.inl a)) : mj_G z0 cst p l e R s m args below meth c Q n0 s0 Z S pc H locs ls := by
  obtain ⟨xZ, xL, xS, xW, xV, xl, xN, xM⟩ := X
  unfold mj_swi at h
  split at h
  · rename_i x S
    rw [mj_okS_c] at xS
    obtain ⟨t, rfl, h5⟩ := mj_sw_go h
    have hx := mj_toI xS.1
    rcases h5 with ⟨h6, rfl⟩ | ⟨i, h6, -⟩
    · refine lv_tableOut C.1 C.2.1 hd ?_ (by unfold mj_tg; omega) (kk H locs ls xW xV xl)
      rw [hx]
      by_cases h7 : x < lo ∨ hi < x
      · exact h7
      · exfalso
        have h8 : (x - lo).toNat < offs.toList.length := by omega
        refine h6 (lo + ((x - lo).toNat : Int), mj_tg pc (offs.toList[(x - lo).toNat])) (List.mem_of_getElem? (i := (x - lo).toNat) ?_) (by show lo + _ = x; omega)
        rw [mj_tsw_at, List.getElem?_eq_getElem h8]
        rfl
    · rw [mj_tsw_at] at h6
      obtain ⟨o1, h7, h8⟩ := Option.map_eq_some_iff.mp h6
      have h9 : lo + (i : Int) = x := congrArg Prod.fst h8
      have h10 : mj_tg pc o1 = t := congrArg Prod.snd h8
      subst h10
      have hl := (List.getElem?_eq_some_iff.mp h7).1
      have ho := h3 o1 (List.mem_of_getElem? h7)
      refine lv_tableIn C.1 C.2.1 hd (by rw [hx]; omega) (by rw [hx]; omega) (off := o1) ?_ (by unfold mj_tg; omega) (kk H locs ls xW xV xl)
      rw [hx, ← Array.getElem?_toList, show (x - lo).toNat = i by omega]
      exact h7
  · cases h
theorem mj_lsw_off {x d : Int} {pc : Nat} {L : mj_L} {S : List mj_V} {Z : mj_Z} {a : Nat × mj_L × List mj_V × mj_Z} : ∀ {ps : List (Int × Int)}, mj_sw x (mj_tg pc d) L S Z (ps.map fun o => (o.1, mj_tg pc o.2)) = some (.inl a) → a = (mj_tg pc (Op.lookupswitch.offset ps d x), L, S, Z)
  | [], h => mj_go_a h
  | (k, o) :: r, h => by
    simp only [List.map_cons] at h
    unfold mj_sw at h
    rw [Op.lookupswitch.offset_cons]
    split at h
    · rename_i e
      rw [if_pos e.symm]
      exact mj_go_a h
    · rename_i e
      rw [if_neg (fun q => e q.symm)]
      exact mj_lsw_off h
theorem mj_off_in {x d : Int} : ∀ {ps : List (Int × Int)}, Op.lookupswitch.offset ps d x = d ∨ ∃ o ∈ ps, Op.lookupswitch.offset ps d x = o.2
  | [] => Or.inl rfl
  | (k, o) :: r => by
    rw [Op.lookupswitch.offset_cons]
    split
    · exact Or.inr ⟨(k, o), List.mem_cons_self, rfl⟩
    · rcases mj_off_in (x := x) (d := d) (ps := r) with h | ⟨q, h1, h2⟩
      · exact Or.inl h
      · exact Or.inr ⟨q, List.mem_cons_of_mem _ h1, h2⟩
theorem mj_s_lsw (C : mj_Cx K z0 cst dD dA y n0 p s m args meth c) (X : mj_St z0 cst dD dA y n0 s0 s Z L S H locs ls) (kk : mj_Nx z0 cst dD dA y p l e R s m args below meth c Q n0 s0 a) {ln : Nat} {d : Int} {ps : Array (Int × Int)} (h1 : 0 ≤ (pc : Int) + d) (h2 : ∀ o ∈ ps.toList, 0 ≤ (pc : Int) + o.2) (h3 : (ps.toList.zip (ps.toList.drop 1)).all (fun (a, next) => a.1 < next.1) = true) (hd : decode (mj_bb y) pc = .ok (.lookupswitch d ps, ln)) (h : mj_swi (ps.toList.map fun o => (o.1, mj_tg pc o.2)) (mj_tg pc d) L S Z = some (.inl a)) : mj_G z0 cst p l e R s m args below meth c Q n0 s0 Z S pc H locs ls := by
  obtain ⟨xZ, xL, xS, xW, xV, xl, xN, xM⟩ := X
  unfold mj_swi at h
  split at h
  · rename_i x S
    rw [mj_okS_c] at xS
    have h5 := mj_lsw_off h
    subst h5
    have hx := mj_toI xS.1
    have h6 : 0 ≤ (pc : Int) + Op.lookupswitch.offset ps.toList d x := by
      rcases mj_off_in (x := x) (d := d) (ps := ps.toList) with h | ⟨q, h7, h8⟩
      · rw [h]; exact h1
      · rw [h8]; exact h2 q h7
    exact lv_lookup C.1 C.2.1 hd h3 (by rw [hx]) (by unfold mj_tg; omega) (kk H locs ls xW xV xl)
  · cases h
theorem mj_s_dup (C : mj_Cx K z0 cst dD dA y n0 p s m args meth c) (X : mj_St z0 cst dD dA y n0 s0 s Z L S H locs ls) (kk : mj_Nx z0 cst dD dA y p l e R s m args below meth c Q n0 s0 a)  (hd : decode (mj_bb y) pc = .ok (.dup, 1)) (h : mj_dup (pc + 1) L S Z = some (.inl a)) : mj_G z0 cst p l e R s m args below meth c Q n0 s0 Z S pc H locs ls := by
  obtain ⟨xZ, xL, xS, xW, xV, xl, xN, xM⟩ := X
  unfold mj_dup at h
  split at h
  · split at h
    · rename_i hv
      obtain rfl := mj_go_a h
      exact lv_dup C.1 C.2.1 hd (by rw [mj_cat_rl]; exact hv) (kk H locs ls xW xV xl)
    · cases h
  · cases h
theorem mj_s_dup2 (C : mj_Cx K z0 cst dD dA y n0 p s m args meth c) (X : mj_St z0 cst dD dA y n0 s0 s Z L S H locs ls) (kk : mj_Nx z0 cst dD dA y p l e R s m args below meth c Q n0 s0 a)  (hd : decode (mj_bb y) pc = .ok (.dup2, 1)) (h : mj_dup2 (pc + 1) L S Z = some (.inl a)) : mj_G z0 cst p l e R s m args below meth c Q n0 s0 Z S pc H locs ls := by
  obtain ⟨xZ, xL, xS, xW, xV, xl, xN, xM⟩ := X
  unfold mj_dup2 at h
  split at h
  · split at h
    · rename_i hv
      obtain rfl := mj_go_a h
      exact lv_dup2_11 C.1 C.2.1 hd (by rw [mj_cat_rl]; exact hv.1) (by rw [mj_cat_rl]; exact hv.2) (kk H locs ls xW xV xl)
    · cases h
  · cases h
theorem mj_s_dupx (C : mj_Cx K z0 cst dD dA y n0 p s m args meth c) (X : mj_St z0 cst dD dA y n0 s0 s Z L S H locs ls) (kk : mj_Nx z0 cst dD dA y p l e R s m args below meth c Q n0 s0 a)  (hd : decode (mj_bb y) pc = .ok (.dup_x1, 1)) (h : mj_dupx (pc + 1) L S Z = some (.inl a)) : mj_G z0 cst p l e R s m args below meth c Q n0 s0 Z S pc H locs ls := by
  obtain ⟨xZ, xL, xS, xW, xV, xl, xN, xM⟩ := X
  unfold mj_dupx at h
  split at h
  · split at h
    · rename_i hv
      obtain rfl := mj_go_a h
      exact lv_dup_x1 C.1 C.2.1 hd (by rw [mj_cat_rl]; exact hv.1) (by rw [mj_cat_rl]; exact hv.2) (kk H locs ls xW xV xl)
    · cases h
  · cases h
theorem mj_s_pop (C : mj_Cx K z0 cst dD dA y n0 p s m args meth c) (X : mj_St z0 cst dD dA y n0 s0 s Z L S H locs ls) (kk : mj_Nx z0 cst dD dA y p l e R s m args below meth c Q n0 s0 a)  (hd : decode (mj_bb y) pc = .ok (.pop, 1)) (h : mj_pop (pc + 1) L S Z = some (.inl a)) : mj_G z0 cst p l e R s m args below meth c Q n0 s0 Z S pc H locs ls := by
  obtain ⟨xZ, xL, xS, xW, xV, xl, xN, xM⟩ := X
  unfold mj_pop at h
  split at h
  · split at h
    · rename_i hv
      obtain rfl := mj_go_a h
      exact lv_pop C.1 C.2.1 hd (by rw [mj_cat_rl]; exact hv) (kk H locs ls xW xV xl)
    · cases h
  · cases h
theorem mj_s_i2l (C : mj_Cx K z0 cst dD dA y n0 p s m args meth c) (X : mj_St z0 cst dD dA y n0 s0 s Z L S H locs ls) (kk : mj_Nx z0 cst dD dA y p l e R s m args below meth c Q n0 s0 a)  (hd : decode (mj_bb y) pc = .ok (.i2l, 1)) (h : mj_i2 mj_i64 (pc + 1) L S Z = some (.inl a)) : mj_G z0 cst p l e R s m args below meth c Q n0 s0 Z S pc H locs ls := by
  obtain ⟨xZ, xL, xS, xW, xV, xl, xN, xM⟩ := X
  unfold mj_i2 at h
  split at h
  · obtain rfl := mj_go_a h
    exact lv_i2l C.1 C.2.1 hd rfl (kk H locs ls xW xV xl)
  · cases h
theorem mj_s_i2b (C : mj_Cx K z0 cst dD dA y n0 p s m args meth c) (X : mj_St z0 cst dD dA y n0 s0 s Z L S H locs ls) (kk : mj_Nx z0 cst dD dA y p l e R s m args below meth c Q n0 s0 a)  (hd : decode (mj_bb y) pc = .ok (.i2b, 1)) (h : mj_i2 mj_i8 (pc + 1) L S Z = some (.inl a)) : mj_G z0 cst p l e R s m args below meth c Q n0 s0 Z S pc H locs ls := by
  obtain ⟨xZ, xL, xS, xW, xV, xl, xN, xM⟩ := X
  unfold mj_i2 at h
  split at h
  · obtain rfl := mj_go_a h
    exact lv_i2b C.1 C.2.1 hd (Int32.ofInt_toInt _).symm (kk H locs ls xW xV xl)
  · cases h
theorem mj_s_i2s (C : mj_Cx K z0 cst dD dA y n0 p s m args meth c) (X : mj_St z0 cst dD dA y n0 s0 s Z L S H locs ls) (kk : mj_Nx z0 cst dD dA y p l e R s m args below meth c Q n0 s0 a)  (hd : decode (mj_bb y) pc = .ok (.i2s, 1)) (h : mj_i2 mj_i16 (pc + 1) L S Z = some (.inl a)) : mj_G z0 cst p l e R s m args below meth c Q n0 s0 Z S pc H locs ls := by
  obtain ⟨xZ, xL, xS, xW, xV, xl, xN, xM⟩ := X
  unfold mj_i2 at h
  split at h
  · obtain rfl := mj_go_a h
    exact lv_i2s C.1 C.2.1 hd (Int32.ofInt_toInt _).symm (kk H locs ls xW xV xl)
  · cases h
theorem mj_s_l2i (C : mj_Cx K z0 cst dD dA y n0 p s m args meth c) (X : mj_St z0 cst dD dA y n0 s0 s Z L S H locs ls) (kk : mj_Nx z0 cst dD dA y p l e R s m args below meth c Q n0 s0 a)  (hd : decode (mj_bb y) pc = .ok (.l2i, 1)) (h : mj_l2 (pc + 1) L S Z = some (.inl a)) : mj_G z0 cst p l e R s m args below meth c Q n0 s0 Z S pc H locs ls := by
  obtain ⟨xZ, xL, xS, xW, xV, xl, xN, xM⟩ := X
  unfold mj_l2 at h
  split at h
  · obtain rfl := mj_go_a h
    exact lv_l2i C.1 C.2.1 hd (Int32.ofInt_toInt _).symm (kk H locs ls xW xV xl)
  · cases h
theorem mj_s_ladd (C : mj_Cx K z0 cst dD dA y n0 p s m args meth c) (X : mj_St z0 cst dD dA y n0 s0 s Z L S H locs ls) (kk : mj_Nx z0 cst dD dA y p l e R s m args below meth c Q n0 s0 a)  (hd : decode (mj_bb y) pc = .ok (.ladd, 1)) (h : mj_lbin (fun x y => x + y) (pc + 1) L S Z = some (.inl a)) : mj_G z0 cst p l e R s m args below meth c Q n0 s0 Z S pc H locs ls := by
  obtain ⟨xZ, xL, xS, xW, xV, xl, xN, xM⟩ := X
  unfold mj_lbin at h
  split at h
  · obtain rfl := mj_go_a h
    exact lv_ladd C.1 C.2.1 hd (kk H locs ls xW xV xl)
  · cases h
theorem mj_s_lsub (C : mj_Cx K z0 cst dD dA y n0 p s m args meth c) (X : mj_St z0 cst dD dA y n0 s0 s Z L S H locs ls) (kk : mj_Nx z0 cst dD dA y p l e R s m args below meth c Q n0 s0 a)  (hd : decode (mj_bb y) pc = .ok (.lsub, 1)) (h : mj_lbin (fun x y => x - y) (pc + 1) L S Z = some (.inl a)) : mj_G z0 cst p l e R s m args below meth c Q n0 s0 Z S pc H locs ls := by
  obtain ⟨xZ, xL, xS, xW, xV, xl, xN, xM⟩ := X
  unfold mj_lbin at h
  split at h
  · obtain rfl := mj_go_a h
    exact lv_lsub C.1 C.2.1 hd (kk H locs ls xW xV xl)
  · cases h
theorem mj_s_lmul (C : mj_Cx K z0 cst dD dA y n0 p s m args meth c) (X : mj_St z0 cst dD dA y n0 s0 s Z L S H locs ls) (kk : mj_Nx z0 cst dD dA y p l e R s m args below meth c Q n0 s0 a)  (hd : decode (mj_bb y) pc = .ok (.lmul, 1)) (h : mj_lbin (fun x y => x * y) (pc + 1) L S Z = some (.inl a)) : mj_G z0 cst p l e R s m args below meth c Q n0 s0 Z S pc H locs ls := by
  obtain ⟨xZ, xL, xS, xW, xV, xl, xN, xM⟩ := X
  unfold mj_lbin at h
  split at h
  · obtain rfl := mj_go_a h
    exact lv_lmul C.1 C.2.1 hd (kk H locs ls xW xV xl)
  · cases h
theorem mj_s_land (C : mj_Cx K z0 cst dD dA y n0 p s m args meth c) (X : mj_St z0 cst dD dA y n0 s0 s Z L S H locs ls) (kk : mj_Nx z0 cst dD dA y p l e R s m args below meth c Q n0 s0 a)  (hd : decode (mj_bb y) pc = .ok (.land, 1)) (h : mj_lbin (fun x y => x &&& y) (pc + 1) L S Z = some (.inl a)) : mj_G z0 cst p l e R s m args below meth c Q n0 s0 Z S pc H locs ls := by
  obtain ⟨xZ, xL, xS, xW, xV, xl, xN, xM⟩ := X
  unfold mj_lbin at h
  split at h
  · obtain rfl := mj_go_a h
    exact lv_land C.1 C.2.1 hd (kk H locs ls xW xV xl)
  · cases h
theorem mj_s_lor (C : mj_Cx K z0 cst dD dA y n0 p s m args meth c) (X : mj_St z0 cst dD dA y n0 s0 s Z L S H locs ls) (kk : mj_Nx z0 cst dD dA y p l e R s m args below meth c Q n0 s0 a)  (hd : decode (mj_bb y) pc = .ok (.lor, 1)) (h : mj_lbin (fun x y => x ||| y) (pc + 1) L S Z = some (.inl a)) : mj_G z0 cst p l e R s m args below meth c Q n0 s0 Z S pc H locs ls := by
  obtain ⟨xZ, xL, xS, xW, xV, xl, xN, xM⟩ := X
  unfold mj_lbin at h
  split at h
  · obtain rfl := mj_go_a h
    exact lv_lor C.1 C.2.1 hd (kk H locs ls xW xV xl)
  · cases h
theorem mj_s_ldiv (C : mj_Cx K z0 cst dD dA y n0 p s m args meth c) (X : mj_St z0 cst dD dA y n0 s0 s Z L S H locs ls) (kk : mj_Nx z0 cst dD dA y p l e R s m args below meth c Q n0 s0 a)  (hd : decode (mj_bb y) pc = .ok (.ldiv, 1)) (h : mj_ldv (fun x y => x / y) (pc + 1) L S Z = some (.inl a)) : mj_G z0 cst p l e R s m args below meth c Q n0 s0 Z S pc H locs ls := by
  obtain ⟨xZ, xL, xS, xW, xV, xl, xN, xM⟩ := X
  unfold mj_ldv at h
  split at h
  · split at h
    · cases h
    · rename_i hy
      obtain rfl := mj_go_a h
      exact lv_ldiv C.1 C.2.1 hd hy (kk H locs ls xW xV xl)
  · cases h
theorem mj_s_lrem (C : mj_Cx K z0 cst dD dA y n0 p s m args meth c) (X : mj_St z0 cst dD dA y n0 s0 s Z L S H locs ls) (kk : mj_Nx z0 cst dD dA y p l e R s m args below meth c Q n0 s0 a)  (hd : decode (mj_bb y) pc = .ok (.lrem, 1)) (h : mj_ldv (fun x y => x - x / y * y) (pc + 1) L S Z = some (.inl a)) : mj_G z0 cst p l e R s m args below meth c Q n0 s0 Z S pc H locs ls := by
  obtain ⟨xZ, xL, xS, xW, xV, xl, xN, xM⟩ := X
  unfold mj_ldv at h
  split at h
  · split at h
    · cases h
    · rename_i hy
      obtain rfl := mj_go_a h
      exact lv_lrem C.1 C.2.1 hd hy (kk H locs ls xW xV xl)
  · cases h
theorem mj_s_lshl (C : mj_Cx K z0 cst dD dA y n0 p s m args meth c) (X : mj_St z0 cst dD dA y n0 s0 s Z L S H locs ls) (kk : mj_Nx z0 cst dD dA y p l e R s m args below meth c Q n0 s0 a)  (hd : decode (mj_bb y) pc = .ok (.lshl, 1)) (h : mj_lsh (pc + 1) L S Z = some (.inl a)) : mj_G z0 cst p l e R s m args below meth c Q n0 s0 Z S pc H locs ls := by
  obtain ⟨xZ, xL, xS, xW, xV, xl, xN, xM⟩ := X
  unfold mj_lsh at h
  split at h
  · obtain rfl := mj_go_a h
    exact lv_lshl C.1 C.2.1 hd rfl (kk H locs ls xW xV xl)
  · cases h
theorem mj_s_lcmp (C : mj_Cx K z0 cst dD dA y n0 p s m args meth c) (X : mj_St z0 cst dD dA y n0 s0 s Z L S H locs ls) (kk : mj_Nx z0 cst dD dA y p l e R s m args below meth c Q n0 s0 a)  (hd : decode (mj_bb y) pc = .ok (.lcmp, 1)) (h : mj_lcm (pc + 1) L S Z = some (.inl a)) : mj_G z0 cst p l e R s m args below meth c Q n0 s0 Z S pc H locs ls := by
  obtain ⟨xZ, xL, xS, xW, xV, xl, xN, xM⟩ := X
  unfold mj_lcm at h
  split at h
  · rename_i y x S
    obtain rfl := mj_go_a h
    refine W.lcmp C.1 C.2.1 hd ?_
    have hk := kk H locs ls xW xV xl
    have e : Int32.ofInt (if x > y then 1 else if x = y then 0 else -1) = lg_cmp x y := by
      unfold lg_cmp
      split
      · rfl
      · split <;> rfl
    unfold mj_G at hk
    simp only [List.map_cons, mj_rl, e] at hk
    exact hk
  · cases h
theorem mj_s_lconst (C : mj_Cx K z0 cst dD dA y n0 p s m args meth c) (X : mj_St z0 cst dD dA y n0 s0 s Z L S H locs ls) (kk : mj_Nx z0 cst dD dA y p l e R s m args below meth c Q n0 s0 a) {k : Fin 2} (hd : decode (mj_bb y) pc = .ok (.lconst k, 1)) (h : mj_go (pc + 1) L (.inr (.inl (Int64.ofInt ((k : Nat) : Int))) :: S) Z = some (.inl a)) : mj_G z0 cst p l e R s m args below meth c Q n0 s0 Z S pc H locs ls := by
  obtain ⟨xZ, xL, xS, xW, xV, xl, xN, xM⟩ := X
  obtain rfl := mj_go_a h
  exact lv_lconst C.1 C.2.1 hd Int64.ofInt_eq_ofNat.symm (kk H locs ls xW xV xl)
theorem mj_s_ldc2 (C : mj_Cx K z0 cst dD dA y n0 p s m args meth c) (X : mj_St z0 cst dD dA y n0 s0 s Z L S H locs ls) (kk : mj_Nx z0 cst dD dA y p l e R s m args below meth c Q n0 s0 a) {ix ps : Nat} {n : Int} (hx : (mj_ci y, ix, n, ps) ∈ mj_lL) (hd : decode (mj_bb y) pc = .ok (.ldc2_w ix, 3)) (h : mj_go (pc + 3) L (.inr (.inl (Int64.ofInt n)) :: S) Z = some (.inl a)) : mj_G z0 cst p l e R s m args below meth c Q n0 s0 Z S pc H locs ls := by
  obtain ⟨xZ, xL, xS, xW, xV, xl, xN, xM⟩ := X
  have hlink := C.2.2.2.2.1 _ (mj_in (mj_lL_ok _ hx) rfl)
  obtain rfl := mj_go_a h
  exact lv_ldc2 C.1 C.2.1 C.2.2.2.1 hlink hd (kk H locs ls xW xV xl)
theorem mj_s_gets (C : mj_Cx K z0 cst dD dA y n0 p s m args meth c) (X : mj_St z0 cst dD dA y n0 s0 s Z L S H locs ls) (kk : mj_Nx z0 cst dD dA y p l e R s m args below meth c Q n0 s0 a) {ix k f ps : Nat} (hx : (mj_ci y, ix, k, f, ps) ∈ mj_sL) (hd : decode (mj_bb y) pc = .ok (.getstatic ix, 3)) (h : mj_go (pc + 3) L (.inr (.inr (.inr k)) :: S) Z = some (.inl a)) : mj_G z0 cst p l e R s m args below meth c Q n0 s0 Z S pc H locs ls := by
  obtain ⟨xZ, xL, xS, xW, xV, xl, xN, xM⟩ := X
  obtain ⟨f1, f2, f3⟩ := mj_sL_ok _ hx
  have hZz := C.2.2.2.2.2.2.2.1.2.2.2.2 k f1 f2
  obtain rfl := mj_go_a h
  dsimp only at f3
  by_cases hf : f = 0
  · rw [if_pos hf] at f3
    exact va_gets C.1 C.2.1 hZz xV C.2.2.2.1 (C.2.2.2.2.1 _ (mj_in f3 rfl)) (fun _ h9 => h9) hd (kk H locs ls xW xV xl)
  · rw [if_neg hf] at f3
    exact va_getsN C.1 C.2.1 hZz xV C.2.2.2.1 (va_Nw.use rfl (C.2.2.2.2.2.2.2.1.1 _ (List.mem_of_getElem? f3) rfl)) (fun _ h9 => h9) hd (kk H locs ls xW xV xl)
end Steps
end
section
-- new int[n][k]: one row of rows, then its rows, one behind the other
def mm_o (cA : ClassId) (N h i : Nat) : Cell := arrV cA N fun j => if j < i then .ref (h + 1 + j) else .null
def mm_r (cB : ClassId) (M : Nat) : Cell := arrV cB M fun _ => .int 0
def mm_f (s : State) (cA cB : ClassId) (N M : Nat) : Nat → State
  | 0 => s.pushCell (mm_o cA N s.heap.size 0)
  | i + 1 => ((mm_f s cA cB N M i).pushCell (mm_r cB M)).setCell s.heap.size (mm_o cA N s.heap.size (i + 1))
theorem mm_o_step (cA : ClassId) (N h i : Nat) : (mm_o cA N h i).setSlot i (.ref (h + 1 + i)) = mm_o cA N h (i + 1) := by
  unfold mm_o
  rw [arrV_store]
  congr 1
  funext j
  unfold updV
  by_cases e : j = i
  · subst e
    rw [if_pos rfl, if_pos (Nat.lt_succ_self _)]
  · rw [if_neg e]
    show (if j < i then Value.ref (h + 1 + j) else Value.null) = _
    by_cases q : j < i
    · rw [if_pos q, if_pos (by omega)]
    · rw [if_neg q, if_neg (by omega)]
theorem mm_f_is (s : State) (cA cB : ClassId) (N M : Nat) : ∀ i, (mm_f s cA cB N M i).heap.size = s.heap.size + 1 + i ∧ (mm_f s cA cB N M i).heap[s.heap.size]? = some (mm_o cA N s.heap.size i) ∧ (mm_f s cA cB N M i).vm = s.vm ∧ (mm_f s cA cB N M i).slotsUsed = s.slotsUsed + N + i * M
  | 0 => ⟨by simp [mm_f], by simp [mm_f], rfl, by simp [mm_f, mm_o, arrV]⟩
  | i + 1 => by
    obtain ⟨h1, h2, h3, h4⟩ := mm_f_is s cA cB N M i
    have hlt : s.heap.size < (mm_f s cA cB N M i).heap.size := by omega
    have h5 : ((mm_f s cA cB N M i).pushCell (mm_r cB M)).heap[s.heap.size]? = some (mm_o cA N s.heap.size i) := by rw [State.heap_pushCell_of_lt (h := hlt)]; exact h2
    refine ⟨?_, State.heap_setCell_self h5, by simp [mm_f, h3], ?_⟩
    · simp [mm_f, State.setCell, h1]; omega
    · simp [mm_f, h4, mm_r, arrV, Nat.succ_mul]; omega
theorem mm_f_old (s : State) (cA cB : ClassId) (N M : Nat) {q : Addr} (hq : q < s.heap.size) : ∀ i, (mm_f s cA cB N M i).heap[q]? = s.heap[q]?
  | 0 => State.heap_pushCell_of_lt _ _ hq
  | i + 1 => by
    have h1 := (mm_f_is s cA cB N M i).1
    have hlt : q < (mm_f s cA cB N M i).heap.size := Nat.lt_of_lt_of_le hq (by rw [h1]; omega)
    show (((mm_f s cA cB N M i).pushCell (mm_r cB M)).setCell s.heap.size _).heap[q]? = _
    rw [State.heap_setCell_other (Nat.ne_of_gt hq), State.heap_pushCell_of_lt (h := hlt)]
    exact mm_f_old s cA cB N M hq i
theorem mm_f_row (s : State) (cA cB : ClassId) (N M : Nat) : ∀ i j, j < i → (mm_f s cA cB N M i).heap[s.heap.size + 1 + j]? = some (mm_r cB M)
  | 0, _, h => absurd h (Nat.not_lt_zero _)
  | i + 1, j, h => by
    have h1 := (mm_f_is s cA cB N M i).1
    show (((mm_f s cA cB N M i).pushCell (mm_r cB M)).setCell s.heap.size _).heap[s.heap.size + 1 + j]? = _
    rw [State.heap_setCell_other (show s.heap.size ≠ s.heap.size + 1 + j by omega)]
    by_cases hj : j < i
    · rw [State.heap_pushCell_of_lt (h := show s.heap.size + 1 + j < (mm_f s cA cB N M i).heap.size by rw [h1]; omega)]
      exact mm_f_row s cA cB N M i j hj
    · have e : j = i := by omega
      subst e
      rw [← h1]
      exact State.heap_pushCell_size _ _
theorem mm_f_top (s : State) (f : JFrame) (cA cB : ClassId) (N M : Nat) : ∀ i, mm_f (s.setTop f) cA cB N M i = (mm_f s cA cB N M i).setTop f
  | 0 => rfl
  | i + 1 => by simp only [mm_f, mm_f_top s f cA cB N M i, State.heap_setTop, State.pushCell_setTop, State.setCell_setTop]
section Mm
variable {E : CtlPost} {e : Env} {d : Bool} {acts : List Action} {s : State}
theorem mm_alloc {cA comp : ClassId} {kA : Class} {ty : FieldType} {N : Nat} {x : Value} (hk : s.vm.classes[cA]? = some kA) (hkind : kA.kind = .array comp ty) (hl : ¬ N > e.platform.arrayLengthLimit) (hh : ¬ N * componentBytes ty > e.platform.maxHeapBytes) (hf : fits ty x = true) (hdf : x.isDefault = true) {P : Addr → Pre}
    (h1 : s.heap.size < e.platform.maxCells) (h2 : s.slotsUsed + N ≤ e.platform.maxSlots) (hP : P s.heap.size d acts (s.pushCell (arrV cA N fun _ => x))) : wp (Jvm.newArray cA N x) P E e d acts s := by
  have hs : ∀ i v, (Array.replicate N x)[i]? = some v → s.fitsSlot cA .none i v = true := by
    intro i v hv
    rw [Array.getElem?_replicate] at hv
    split at hv
    · cases hv; simp [State.fitsSlot, State.slotType?, hk, hkind, hf]
    · cases hv
  have ha : allocActs (Array.replicate N x) s.heap.size acts = acts := by
    have : ((Array.replicate N x).all (·.isDefault)) = true := by
      rw [Array.all_replicate]; split <;> simp [hdf]
    unfold allocActs; rw [if_pos this]
  rw [← arrV_new] at hP
  simp only [Jvm.newArray, Jvm.arrayFits, wp_bind', W.ask, W.ite, hl, if_false, wp_pure', W.theClass, hk, hkind, hh, W.alloc, W.stop, Option.some.injEq, exists_eq_left', Array.size_replicate, ha]
  rw [if_neg (by omega)]
  exact ⟨h1, h2, hs, hP⟩
theorem mm_make {cA cB ci : ClassId} {kA kB : Class} {n k : Int32} {N M : Nat} (hkA : s.vm.classes[cA]? = some kA) (hA : kA.kind = .array cB (.array .int)) (hkB : s.vm.classes[cB]? = some kB) (hB : kB.kind = .array ci .int) (hn : ¬ n < 0) (hk : ¬ k < 0) (hN : n.toNatClampNeg = N) (hM : k.toNatClampNeg = M)
    (l1 : ¬ N > e.platform.arrayLengthLimit) (l2 : ¬ N * 4 > e.platform.maxHeapBytes) (l3 : ¬ M > e.platform.arrayLengthLimit) (l4 : ¬ M * 4 > e.platform.maxHeapBytes) (hc : s.heap.size + 1 + N ≤ e.platform.maxCells) (hs : s.slotsUsed + N + N * M ≤ e.platform.maxSlots)
    {P : Addr → Pre} (hP : ∀ d' acts', P s.heap.size d' acts' (mm_f s cA cB N M N)) : wp (Op.multianewarray.make cA [n, k]) P E e d acts s := by
  subst hN
  subst hM
  have hbad : ([k].find? (· < 0)) = none := by simp [hk]
  rw [Op.multianewarray.make]
  simp only [wp_bind', W.ite, hn, if_false, wp_pure', W.theClass, hkA, hA, Option.some.injEq, exists_eq_left']
  refine mm_alloc hkA hA l1 l2 rfl rfl (by omega) (by have := Nat.zero_le (n.toNatClampNeg * k.toNatClampNeg); omega) ?_
  have h0 : s.pushCell (arrV cA n.toNatClampNeg fun _ => Value.null) = mm_f s cA cB n.toNatClampNeg k.toNatClampNeg 0 := by
    show _ = s.pushCell (mm_o cA n.toNatClampNeg s.heap.size 0)
    unfold mm_o
    simp
  rw [h0]
  simp only [hbad]
  rw [ite_self, wp_bind', Std.Legacy.Range.forIn_eq_forIn_range']
  have hz : ([:n.toNatClampNeg] : Std.Legacy.Range).size = n.toNatClampNeg := by simp [Std.Legacy.Range.size]
  rw [hz]
  show wp (forIn (List.range' 0 n.toNatClampNeg 1) PUnit.unit _) _ E e d acts _
  refine wp_forIn_inv (fun rest s' => ∃ i, i ≤ n.toNatClampNeg ∧ rest = List.range' i (n.toNatClampNeg - i) ∧ s' = mm_f s cA cB n.toNatClampNeg k.toNatClampNeg i) _ _ ⟨0, Nat.zero_le _, rfl, rfl⟩ ?_ ?_
  · rintro x rest s' d' acts' Q' ⟨i, hi, hr, rfl⟩ next
    have hlt : i < n.toNatClampNeg := by
      rcases Nat.lt_or_ge i n.toNatClampNeg with h | h
      · exact h
      · rw [show n.toNatClampNeg - i = 0 by omega] at hr; simp at hr
    rw [show n.toNatClampNeg - i = (n.toNatClampNeg - (i + 1)) + 1 by omega, List.range'_succ] at hr
    obtain ⟨rfl, hr2⟩ := List.cons.inj hr
    obtain ⟨f1, f2, f3, f4⟩ := mm_f_is s cA cB n.toNatClampNeg k.toNatClampNeg x
    have hm : x * k.toNatClampNeg + k.toNatClampNeg ≤ n.toNatClampNeg * k.toNatClampNeg := by
      have := Nat.mul_le_mul_right k.toNatClampNeg (show x + 1 ≤ n.toNatClampNeg from hlt)
      rw [Nat.succ_mul] at this
      exact this
    have hlt0 : s.heap.size < (mm_f s cA cB n.toNatClampNeg k.toNatClampNeg x).heap.size := by rw [f1]; omega
    simp only [wp_bind']
    rw [Op.multianewarray.make]
    simp only [wp_bind', W.ite, hk, if_false, wp_pure', W.theClass, show (mm_f s cA cB n.toNatClampNeg k.toNatClampNeg x).vm.classes[cB]? = some kB by rw [f3]; exact hkB, hB, Option.some.injEq, exists_eq_left']
    refine mm_alloc (ty := .int) (by rw [f3]; exact hkB) hB l3 l4 rfl rfl (by rw [f1]; omega) (by rw [f4]; omega) ?_
    simp only [wp_bind', W.writeLoc, wp_pure']
    refine ⟨mm_o cA n.toNatClampNeg s.heap.size x, by rw [State.heap_pushCell_of_lt (h := hlt0)]; exact f2, by simp [mm_o, arrV], by simp [mm_o, arrV]; exact hlt, ?_, next _ _ _ ⟨x + 1, hlt, hr2, ?_⟩⟩
    · show State.fitsSlot _ cA .none x (.ref _) = true
      simp [State.fitsSlot, State.slotType?, f3, hkA, hA, fits]
    · rw [f1, mm_o_step]
      rfl
  · rintro s' d' acts' ⟨i, hi, hr, rfl⟩
    have e1 : i = n.toNatClampNeg := by
      rcases Nat.lt_or_ge i n.toNatClampNeg with h | h
      · rw [show n.toNatClampNeg - i = (n.toNatClampNeg - (i + 1)) + 1 by omega, List.range'_succ] at hr; cases hr
      · omega
    subst e1
    simp only [wp_pure']
    exact hP _ _
end Mm
section Mn
variable {p : Program} {l : Launch} {e : Env} {R : Room} {s : State} {m : MethodId} {args : Array Value} {below : List Frame} {meth : Method} {c : Code} {T : State} {locs : List Loc} {cells slots : Nat} {H : Heap} {Q : State → Prop}
theorem mm_stand (X : Stand p l e R s m args below meth c T locs cells slots) (cA cB : ClassId) (N M : Nat) : ∀ i, Stand p l e R s m args below meth c (mm_f T cA cB N M i) (locs ++ (List.range i).map fun j => ⟨T.heap.size, j⟩) (cells + 1 + i) (slots + N + i * M)
  | 0 => by
    have h := X.pushed (mm_o cA N T.heap.size 0)
    rw [show (mm_o cA N T.heap.size 0).slots.size = N by simp [mm_o, arrV]] at h
    simpa [mm_f] using h
  | i + 1 => by
    have Y := mm_stand X cA cB N M i
    obtain ⟨f1, f2, -, -⟩ := mm_f_is T cA cB N M i
    have hlt0 : T.heap.size < (mm_f T cA cB N M i).heap.size := by rw [f1]; omega
    have hcell : ((mm_f T cA cB N M i).pushCell (mm_r cB M)).heap[T.heap.size]? = some (mm_o cA N T.heap.size i) := by rw [State.heap_pushCell_of_lt (h := hlt0)]; exact f2
    have h := (Y.pushed (mm_r cB M)).stored hcell i (.ref (T.heap.size + 1 + i))
    rw [mm_o_step, show (mm_r cB M).slots.size = M by simp [mm_r, arrV]] at h
    have e2 : (locs ++ (List.range (i + 1)).map fun j => (⟨T.heap.size, j⟩ : Loc)) = (locs ++ (List.range i).map fun j => (⟨T.heap.size, j⟩ : Loc)) ++ [⟨T.heap.size, i⟩] := by simp [List.range_succ, List.append_assoc]
    rw [e2, show slots + N + (i + 1) * M = slots + N + i * M + M by rw [Nat.succ_mul]; omega]
    exact h
theorem mm_row {cc : ByteArray} (hexec : p.tables.exec = Jvm.exec) (hb : c.code = cc) {own : String} {index : Nat} (hown : s.vm.findClass own = some m.cls) (hlink : (Cond.classLink own index "[[I").before args s = true) (hover : mj_AOI s) (harr : (Cond.arrayClass .int).before args s = true) {n k : Int32} {N M : Nat} {pc : Nat} {ls : Array Slot} {rest : List Value}
    (hdg : decode cc pc = .ok (.multianewarray index 2, 4)) (hn : ¬ n < 0) (hk : ¬ k < 0) (hN : n.toNatClampNeg = N) (hM : k.toNatClampNeg = M) (hN1 : N ≤ 1000) (hM1 : M ≤ 1000) (hcells : cells + (1 + N) ≤ R.cells) (hslots : slots + (N + N * M) ≤ R.slots)
    (kk : ∀ (H1 : Heap) (cA cB : ClassId), s.vm.findClass "[[I" = some cA → s.vm.findClass "[I" = some cB → (∀ q, q < H.size → H1[q]? = H[q]?) → H1[H.size]? = some (mm_o cA N H.size N) → (∀ j, j < N → H1[H.size + 1 + j]? = some (mm_r cB M)) → H1.size = H.size + 1 + N →
      W p l e R s m args below meth c H1 locs (cells + 1 + N) (slots + N + N * M) Q (F0 m (pc + 4) ls (.ref H.size :: rest))) : W p l e R s m args below meth c H locs cells slots Q (F0 m pc ls (.int k :: .int n :: rest)) := by
  intro T hT X
  subst hT
  subst hb
  have hpl : e.platform.magicAccessors = ({} : Platform).magicAccessors := by rw [X.admits.platform]
  obtain ⟨cB, cA, kA, hcomp, -, hkA, hkindA, hnameA⟩ := arrayOverA_spec hover
  obtain ⟨cB', kB, ci, hcomp', hkB, hkindB⟩ := Cond.arrayClass_spec harr
  have eB : cB' = cB := Option.some.inj (hcomp'.symm.trans hcomp)
  subst eB
  obtain ⟨c0, hfc0, hcl⟩ := Cond.classLink_spec hown hlink e.platform hpl
  cases hnameA.symm.trans hfc0
  obtain ⟨hg₁, hwarm₁, hready₁⟩ := State.classEntry (e := e) X.warmed hcl
  generalize T.vm.noted m.cls index (.cls cA) = vm₁ at hg₁ hwarm₁ hready₁
  obtain ⟨kA₁, hkA₁, heA⟩ := hwarm₁.alike.2.2 _ _ hkA
  obtain ⟨kB₁, hkB₁, heB⟩ := hwarm₁.alike.2.2 _ _ hkB
  have X₁ := X.noted hwarm₁
  obtain ⟨hr1, hr2⟩ := X.roomAbove hcells hslots
  have XF := (mm_stand X₁ cA cB' N M N).dropFresh (fun x hx => by
    obtain ⟨j, -, rfl⟩ := List.mem_map.mp hx
    exact X.heapGrown)
  obtain ⟨f1, f2, -, -⟩ := mm_f_is (T.setVm vm₁) cA cB' N M N
  obtain ⟨t, a1, b1⟩ := kk (mm_f (T.setVm vm₁) cA cB' N M N).heap cA cB' hnameA hcomp (fun q hq => mm_f_old (T.setVm vm₁) cA cB' N M hq N) f2 (fun j hj => mm_f_row (T.setVm vm₁) cA cB' N M N j hj) f1 _ rfl XF
  refine ⟨t, ?_, b1⟩
  have l1 : ¬ N > e.platform.arrayLengthLimit := by rw [Launch.admits_arrayLengthLimit X.admits]; omega
  have l2 : ¬ N * 4 > e.platform.maxHeapBytes := by rw [Launch.admits_maxHeapBytes X.admits]; omega
  have l3 : ¬ M > e.platform.arrayLengthLimit := by rw [Launch.admits_arrayLengthLimit X.admits]; omega
  have l4 : ¬ M * 4 > e.platform.maxHeapBytes := by rw [Launch.admits_maxHeapBytes X.admits]; omega
  jvm_step X.here [hexec, hdg]
  simp only [Op.multianewarray.sem, wp_bind', W.resolveClassAt_links (State.method?_setTop (F0 m pc ls (.int k :: .int n :: rest)) X.here.top) hg₁]
  rw [W.popN, if_neg (by decide)]
  refine ⟨F0 m pc ls (.int k :: .int n :: rest), State.topJava?_setTop' (s := T.setVm vm₁) _ X.here.top, [.int n, .int k], rest, rfl, rfl, ?_⟩
  simp only [List.mapM_cons, List.mapM_nil, wp_bind', wp_pure']
  refine mm_make (kA := kA₁) (kB := kB₁) hkA₁ (by rw [heA]; exact hkindA) hkB₁ (by rw [heB]; exact hkindB) hn hk hN hM l1 l2 l3 l4 (by show T.heap.size + 1 + N ≤ _; omega) (by show T.slotsUsed + _ + _ ≤ _; omega) (fun d' acts' => ?_)
  have eS : ((T.setTop (F0 m pc ls (.int k :: .int n :: rest))).setVm vm₁).setTop (F0 m pc ls rest) = (T.setVm vm₁).setTop (F0 m pc ls rest) := by
    show ((T.setVm vm₁).setTop _).setTop _ = _
    rw [State.setTop_setTop]
  rw [eS, mm_f_top]
  simp only [wp_bind', W.mark, W.pushRef, State.topJava?_setTop' _ XF.here.top, Option.some.injEq, exists_eq_left', State.setTop_setTop, State.heap_setTop]
  intro acts
  simp [jvm, XF.here.top]
  exact a1
end Mn
end
section
-- Math.max and min, copies of arrays, what is made
theorem mj_wmx : (Cond.static Lib.Math.max.name ∈ mj_gt ∧ Cond.code Lib.Math.max.name Lib.Math.max.code 2 (some .int) ∈ mj_gt) ∧ (Cond.static Lib.Math.min.name ∈ mj_gt ∧ Cond.code Lib.Math.min.name Lib.Math.min.code 2 (some .int) ∈ mj_gt) ∧ Cond.initialized "java/lang/Math" ∈ mj_gt :=
  ⟨⟨mj_in (i := 432) (by decide +kernel) rfl, mj_in (i := 433) (by decide +kernel) rfl⟩, ⟨mj_in (i := 498) (by decide +kernel) rfl, mj_in (i := 499) (by decide +kernel) rfl⟩, mj_in (i := 11) (by decide +kernel) rfl⟩
theorem mj_wcp : Cond.static arraycopyName ∈ mj_gt ∧ Cond.native arraycopyName ∈ mj_gt ∧ Cond.initialized "java/lang/System" ∈ mj_gt :=
  ⟨mj_in (i := 619) (by decide +kernel) rfl, mj_in (i := 620) (by decide +kernel) rfl, mj_in (i := 12) (by decide +kernel) rfl⟩
theorem mj_wob : Cond.instanceMethod objectInit ∈ mj_gt ∧ Cond.code objectInit ⟨#[0xb1]⟩ 1 none ∈ mj_gt ∧ Cond.arrayClass .int ∈ mj_gt ∧ Cond.arrayClass .long ∈ mj_gt :=
  ⟨mj_in (i := 19) (by decide +kernel) rfl, mj_in (i := 20) (by decide +kernel) rfl, mj_in (i := 80) (by decide +kernel) rfl, mj_in (i := 279) (by decide +kernel) rfl⟩
def mj_kok : FieldType → mj_K → Bool
  | .int, .inl 0 => true
  | .long, .inl 1 => true
  | .boolean, .inl 2 => true
  | .object _, .inr none => true
  | .array _, .inr none => true
  | _, _ => false
theorem mj_k0_ok : ∀ ci, ci < 10 → (mj_k0 ci).length = mj_NN ci ∧ ∀ j, j < mj_NN ci → ((mj_k0 ci)[j]?.any fun k => mj_kok (mj_tT ci j) k) = true := by decide +kernel
section Steps
variable {K : mj_C} {z0 : Nat} {cst : Nat → Nat} {dD : va_G} {dA : Nat → ClassId} {y : Nat} {p : Program} {l : Launch} {e : Env} {R : Room} {s : State} {m : MethodId} {args : Array Value} {below : List Frame} {meth : Method} {c : Code} {Q : State → Prop} {n0 s0 : Nat}
variable {Z : mj_Z} {L : mj_L} {S : List mj_V} {H : Heap} {locs : List Loc} {ls : Array Slot} {pc : Nat} {a : Nat × mj_L × List mj_V × mj_Z}
theorem mj_cat_sum (z0 : Nat) (cst : Nat → Nat) : ∀ S : List mj_V, ((S.map (mj_rl z0 cst)).map fun v => v.category).sum = mj_cat S
  | [] => rfl
  | v :: S => by
    have := mj_cat_sum z0 cst S
    simp only [List.map_cons, List.sum_cons, mj_cat, mj_cat_rl] at this ⊢
    omega
theorem mj_arrV_congr {cA : ClassId} {N : Nat} {f g : Nat → Value} (h : ∀ j, j < N → f j = g j) : arrV cA N f = arrV cA N g := by
  unfold arrV
  congr 2
  funext j
  exact h j.val j.isLt
theorem mj_s_max (C : mj_Cx K z0 cst dD dA y n0 p s m args meth c) (X : mj_St z0 cst dD dA y n0 s0 s Z L S H locs ls) (kk : mj_Nx z0 cst dD dA y p l e R s m args below meth c Q n0 s0 a) (hR : 1 ≤ R.frames ∧ 64 ≤ R.locals) (hrm : mj_nc a.2.2.2 - n0 ≤ R.cells ∧ mj_ns a.2.2.2 - s0 ≤ R.slots) {ix ps : Nat} (hx : (mj_ci y, ix, 1000, 0, ps) ∈ mj_mL) (hd : decode (mj_bb y) pc = .ok (.invokestatic ix, 3)) (h : mj_mx (fun x y => max x y) (pc + 3) L S Z = some (.inl a)) : mj_G z0 cst p l e R s m args below meth c Q n0 s0 Z S pc H locs ls := by
  obtain ⟨xZ, xL, xS, xW, xV, xl, xN, xM⟩ := X
  have hlink := C.2.2.2.2.1 _ (mj_in (mj_mL_ok _ hx).1 rfl)
  unfold mj_mx at h
  split at h
  · rename_i y1 x1 S
    rw [mj_okS_c, mj_okS_c] at xS
    split at h
    · rename_i hcat
      obtain rfl := mj_go_a h
      refine va_mmax C.1 C.2.1 (C.2.2.1.trans xl.2.1.symm) C.2.2.2.1 hlink (C.2.2.2.2.1 _ mj_wmx.1.1) (C.2.2.2.2.1 _ mj_wmx.2.2) (C.2.2.2.2.1 _ mj_wmx.1.2) hR.1 (by rw [mj_cat_sum]; omega) hrm.1 hrm.2 hd ?_
      have hk := kk H locs ls xW xV xl
      unfold mj_G at hk
      simp only [List.map_cons, mj_rl] at hk
      have e : (if Int32.ofInt x1 < Int32.ofInt y1 then Int32.ofInt y1 else Int32.ofInt x1) = Int32.ofInt (max x1 y1) := by
        by_cases q : x1 < y1
        · rw [if_pos ((mj_lt32 xS.2.1 xS.1).mpr q)]
          congr 1
          omega
        · rw [if_neg (fun z => q ((mj_lt32 xS.2.1 xS.1).mp z))]
          congr 1
          omega
      rw [e]
      exact hk
    · cases h
  · cases h
theorem mj_s_min (C : mj_Cx K z0 cst dD dA y n0 p s m args meth c) (X : mj_St z0 cst dD dA y n0 s0 s Z L S H locs ls) (kk : mj_Nx z0 cst dD dA y p l e R s m args below meth c Q n0 s0 a) (hR : 1 ≤ R.frames ∧ 64 ≤ R.locals) (hrm : mj_nc a.2.2.2 - n0 ≤ R.cells ∧ mj_ns a.2.2.2 - s0 ≤ R.slots) {ix ps : Nat} (hx : (mj_ci y, ix, 1001, 0, ps) ∈ mj_mL) (hd : decode (mj_bb y) pc = .ok (.invokestatic ix, 3)) (h : mj_mx (fun x y => min x y) (pc + 3) L S Z = some (.inl a)) : mj_G z0 cst p l e R s m args below meth c Q n0 s0 Z S pc H locs ls := by
  obtain ⟨xZ, xL, xS, xW, xV, xl, xN, xM⟩ := X
  have hlink := C.2.2.2.2.1 _ (mj_in (mj_mL_ok _ hx).1 rfl)
  unfold mj_mx at h
  split at h
  · rename_i y1 x1 S
    rw [mj_okS_c, mj_okS_c] at xS
    split at h
    · rename_i hcat
      obtain rfl := mj_go_a h
      refine va_mmin C.1 C.2.1 (C.2.2.1.trans xl.2.1.symm) C.2.2.2.1 hlink (C.2.2.2.2.1 _ mj_wmx.2.1.1) (C.2.2.2.2.1 _ mj_wmx.2.2) (C.2.2.2.2.1 _ mj_wmx.2.1.2) hR.1 (by rw [mj_cat_sum]; omega) hrm.1 hrm.2 hd ?_
      have hk := kk H locs ls xW xV xl
      unfold mj_G at hk
      simp only [List.map_cons, mj_rl] at hk
      have e : (if Int32.ofInt y1 < Int32.ofInt x1 then Int32.ofInt y1 else Int32.ofInt x1) = Int32.ofInt (min x1 y1) := by
        by_cases q : y1 < x1
        · rw [if_pos ((mj_lt32 xS.1 xS.2.1).mpr q)]
          congr 1
          omega
        · rw [if_neg (fun z => q ((mj_lt32 xS.1 xS.2.1).mp z))]
          congr 1
          omega
      rw [e]
      exact hk
    · cases h
  · cases h
theorem mj_cpy_i {M : Nat → Nat → Int} {a b : Nat} {i j n : Nat} : va_cpy (fun k => Int32.ofInt (M a k)) (fun k => Int32.ofInt (M b k)) i j n = fun k => Int32.ofInt (mj_cpy M a i b j n b k) := by
  funext k
  unfold va_cpy mj_cpy
  by_cases q : j ≤ k ∧ k < j + n
  · rw [if_pos q, if_pos ⟨rfl, q⟩]
  · rw [if_neg q, if_neg (fun z => q z.2)]
theorem mj_cpy_l {M : Nat → Nat → Int64} {a b : Nat} {i j n : Nat} : va_cpy (fun k => M a k) (fun k => M b k) i j n = fun k => mj_cpy M a i b j n b k := by
  funext k
  unfold va_cpy mj_cpy
  by_cases q : j ≤ k ∧ k < j + n
  · rw [if_pos q, if_pos ⟨rfl, q⟩]
  · rw [if_neg q, if_neg (fun z => q z.2)]
theorem mj_cpy_ne {α : Type} {M : Nat → Nat → α} {a b : Nat} {i j n c : Nat} (h : c ≠ b) (k : Nat) : mj_cpy M a i b j n c k = M c k := if_neg (fun q => h q.1)
theorem mj_nn {x : Int} (hx : mj_rg x) (h : 0 ≤ x) : ¬ Int32.ofInt x < 0 := by
  rw [show (0 : Int32) = Int32.ofInt 0 from rfl, mj_lt32 hx mj_rg0]
  omega
theorem mj_s_acp (C : mj_Cx K z0 cst dD dA y n0 p s m args meth c) (X : mj_St z0 cst dD dA y n0 s0 s Z L S H locs ls) (kk : mj_Nx z0 cst dD dA y p l e R s m args below meth c Q n0 s0 a) (hR : 1 ≤ R.frames ∧ 64 ≤ R.locals) (hrm : mj_nc a.2.2.2 - n0 ≤ R.cells ∧ mj_ns a.2.2.2 - s0 ≤ R.slots) {ix ps : Nat} (hx : (mj_ci y, ix, 1002, 0, ps) ∈ mj_mL) (hd : decode (mj_bb y) pc = .ok (.invokestatic ix, 3)) (h : mj_acp (pc + 3) L S Z = some (.inl a)) : mj_G z0 cst p l e R s m args below meth c Q n0 s0 Z S pc H locs ls := by
  obtain ⟨xZ, xL, xS, xW, xV, xl, xN, xM⟩ := X
  have hlink := C.2.2.2.2.1 _ (mj_in (mj_mL_ok _ hx).1 rfl)
  unfold mj_acp at h
  split at h
  · rename_i n j qb i qa S
    rw [mj_okS_c, mj_okS_c, mj_okS_c, mj_okS_c] at xS
    split at h
    · rename_i hcat
      split at h
      · rename_i na nb hk1 hk2
        split at h
        · rename_i hr
          obtain ⟨ks1, g1, -⟩ := mj_al_ok hk1
          obtain ⟨ks2, g2, -⟩ := mj_al_ok hk2
          obtain rfl := mj_go_a h
          refine va_copyi C.1 C.2.1 (C.2.2.1.trans xl.2.1.symm) C.2.2.2.1 hlink (C.2.2.2.2.1 _ mj_wcp.2.1) (C.2.2.2.2.1 _ mj_wcp.1) (C.2.2.2.2.1 _ mj_wcp.2.2) C.2.2.2.2.2.2.1 xW.2 mj_D xV qa qb 0 0 (mj_W_get g1) (mj_W_get g2) rfl rfl rfl (mj_nn xS.2.2.2.1 hr.1) (mj_nn xS.2.1 hr.2.1) (mj_nn xS.1 hr.2.2.1) (by rw [mj_clamp xS.2.2.2.1, mj_clamp xS.1]; omega) (by rw [mj_clamp xS.2.1, mj_clamp xS.1]; omega) (fun _ _ => rfl) hR.1 (by rw [mj_cat_sum]; show _ + (7 + 11) ≤ _; omega) hd (fun H1 locs1 hP hD hS => ?_)
          rw [mj_clamp xS.2.2.2.1, mj_clamp xS.2.1, mj_clamp xS.1, mj_cpy_i] at hP
          rw [mj_W_set (z0 := z0) (dA := dA) (Z := Z) (e := .inl (dA 1, nb, .inl fun k => Int32.ofInt (mj_cpy Z.2.1 qa i.toNat qb j.toNat n.toNat qb k))) (Z' := (Z.1, mj_cpy Z.2.1 qa i.toNat qb j.toNat n.toNat, Z.2.2)) (sh := (1, nb, ks2)) rfl g2 rfl (fun i2 hi2 sh hsh => ⟨hsh, mj_el_u (fun j => mj_cpy_ne hi2 j) (fun j => rfl)⟩)] at hP
          exact mj_szd (Z := (Z.1, mj_cpy Z.2.1 qa i.toNat qb j.toNat n.toNat, Z.2.2)) C xN hP hS (fun hw => kk H1 locs1 ls hw hS xl)
        · cases h
      · rename_i na nb hk1 hk2 _
        split at h
        · rename_i hr
          obtain ⟨ks1, g1, -⟩ := mj_al_ok hk1
          obtain ⟨ks2, g2, -⟩ := mj_al_ok hk2
          obtain rfl := mj_go_a h
          refine va_copyl C.1 C.2.1 (C.2.2.1.trans xl.2.1.symm) C.2.2.2.1 hlink (C.2.2.2.2.1 _ mj_wcp.2.1) (C.2.2.2.2.1 _ mj_wcp.1) (C.2.2.2.2.1 _ mj_wcp.2.2) C.2.2.2.2.2.2.1 xW.2 mj_D xV qa qb 1 1 (mj_W_get g1) (mj_W_get g2) rfl rfl rfl (mj_nn xS.2.2.2.1 hr.1) (mj_nn xS.2.1 hr.2.1) (mj_nn xS.1 hr.2.2.1) (by rw [mj_clamp xS.2.2.2.1, mj_clamp xS.1]; omega) (by rw [mj_clamp xS.2.1, mj_clamp xS.1]; omega) (fun _ _ => rfl) hR.1 (by rw [mj_cat_sum]; show _ + (7 + 11) ≤ _; omega) hd (fun H1 locs1 hP hD hS => ?_)
          rw [mj_clamp xS.2.2.2.1, mj_clamp xS.2.1, mj_clamp xS.1, mj_cpy_l] at hP
          rw [mj_W_set (z0 := z0) (dA := dA) (Z := Z) (e := .inl (dA 2, nb, .inr (.inl fun k => mj_cpy Z.2.2 qa i.toNat qb j.toNat n.toNat qb k))) (Z' := (Z.1, Z.2.1, mj_cpy Z.2.2 qa i.toNat qb j.toNat n.toNat)) (sh := (2, nb, ks2)) rfl g2 rfl (fun i2 hi2 sh hsh => ⟨hsh, mj_el_u (fun j => rfl) (fun j => mj_cpy_ne hi2 j)⟩)] at hP
          exact mj_szd (Z := (Z.1, Z.2.1, mj_cpy Z.2.2 qa i.toNat qb j.toNat n.toNat)) C xN hP hS (fun hw => kk H1 locs1 ls hw hS xl)
        · cases h
      · cases h
    · cases h
  · cases h
theorem mj_s_oin (C : mj_Cx K z0 cst dD dA y n0 p s m args meth c) (X : mj_St z0 cst dD dA y n0 s0 s Z L S H locs ls) (kk : mj_Nx z0 cst dD dA y p l e R s m args below meth c Q n0 s0 a) (hR : 1 ≤ R.frames ∧ 64 ≤ R.locals) (hrm : mj_nc a.2.2.2 - n0 ≤ R.cells ∧ mj_ns a.2.2.2 - s0 ≤ R.slots) {ix ps : Nat} (hx : (mj_ci y, ix, 1003, 0, ps) ∈ mj_mL) (hd : decode (mj_bb y) pc = .ok (.invokespecial ix, 3)) (h : mj_oin (pc + 3) L S Z = some (.inl a)) : mj_G z0 cst p l e R s m args below meth c Q n0 s0 Z S pc H locs ls := by
  obtain ⟨xZ, xL, xS, xW, xV, xl, xN, xM⟩ := X
  have hlink := C.2.2.2.2.1 _ (mj_in (mj_mL_ok _ hx).1 rfl)
  unfold mj_oin at h
  split at h
  · split at h
    · rename_i hcat
      obtain rfl := mj_go_a h
      refine W.objInit C.1 C.2.1 C.2.2.2.1 hlink (C.2.2.2.2.1 _ mj_wob.1) (C.2.2.2.2.1 _ mj_wob.2.1) rfl (xl.2.1.trans C.2.2.1.symm) rfl hd hR.1 ?_ (kk H locs ls xW xV xl)
      rw [mj_cat_sum]
      show 2 * 0 + _ + 12 ≤ _
      omega
    · cases h
  · cases h
theorem mj_zr_old {α : Type} {M : Nat → Nat → α} {n : Nat} {z : α} {b : Nat} (h : b < n) (k : Nat) : mj_zr M n z b k = M b k := if_neg (by omega)
theorem mj_zr_new {α : Type} {M : Nat → Nat → α} {n : Nat} {z : α} {b : Nat} (h : n ≤ b) (k : Nat) : mj_zr M n z b k = z := if_pos h
theorem mj_W_app {l1 : List mj_S} : mj_W z0 dA (Z.1 ++ l1, mj_zr Z.2.1 Z.1.length 0, mj_zr Z.2.2 Z.1.length 0) = mj_W z0 dA Z ++ l1.mapIdx (fun i sh => (z0 + (Z.1.length + i), mj_el z0 dA (mj_zr Z.2.1 Z.1.length 0) (mj_zr Z.2.2 Z.1.length 0) (Z.1.length + i) sh)) := by
  apply List.ext_getElem?
  intro i
  rw [mj_W_at]
  by_cases hi : i < Z.1.length
  · rw [List.getElem?_append_left hi, List.getElem?_append_left (by rw [mj_W_len]; exact hi), mj_W_at]
    cases Z.1[i]? with
    | none => rfl
    | some sh =>
      simp only [Option.map_some]
      rw [mj_el_u (fun j => mj_zr_old hi j) (fun j => mj_zr_old hi j)]
  · rw [List.getElem?_append_right (by omega), List.getElem?_append_right (by rw [mj_W_len]; omega), mj_W_len, List.getElem?_mapIdx]
    rw [show Z.1.length + (i - Z.1.length) = i by omega]
theorem mj_szn {slots : Nat} {H1 : Heap} {g : JFrame} {q : Nat} {el : va_E} (C : mj_Cx K z0 cst dD dA y n0 p s m args meth c) (hn : n0 ≤ mj_nc Z) (hP : va_P dD mj_cl (mj_W z0 dA Z ++ [(q, el)]) H1) (hD : va_D (fun q => z0 ≤ q) (mj_W z0 dA Z ++ [(q, el)])) (k : q = z0 + Z.1.length → W p l e R s m args below meth c H1 locs (mj_nc Z - n0 + 1) slots Q g) : W p l e R s m args below meth c H1 locs (mj_nc Z - n0 + 1) slots Q g := by
  intro T hT X
  refine k ?_ T hT X
  have h1 := X.heapSize
  rw [hT, C.2.2.2.2.2.2.2.2.2.2] at h1
  have hlast : (mj_W z0 dA Z ++ [(q, el)])[Z.1.length]? = some (q, el) := by
    rw [List.getElem?_append_right (by rw [mj_W_len]; exact Nat.le_refl _), mj_W_len, Nat.sub_self]; rfl
  have h2 : q < H1.size := (hP _ _ hlast).lt
  have h3 : z0 ≤ q := hD.2 _ _ hlast
  have h4 : mj_nc Z = Z.1.length := rfl
  by_cases h5 : q - z0 < Z.1.length
  · exfalso
    have h6 : (mj_W z0 dA Z ++ [(q, el)])[q - z0]? = some (z0 + (q - z0), mj_el z0 dA Z.2.1 Z.2.2 (q - z0) Z.1[q - z0]) := by
      rw [List.getElem?_append_left (by rw [mj_W_len]; exact h5), mj_W_get (List.getElem?_eq_getElem h5)]
    have h7 := hD.1 _ _ _ _ hlast h6 (by show q = z0 + (q - z0); omega)
    omega
  · omega
theorem mj_s_new (C : mj_Cx K z0 cst dD dA y n0 p s m args meth c) (X : mj_St z0 cst dD dA y n0 s0 s Z L S H locs ls) (kk : mj_Nx z0 cst dD dA y p l e R s m args below meth c Q n0 s0 a) (hR : 1 ≤ R.frames ∧ 64 ≤ R.locals) (hrm : mj_nc a.2.2.2 - n0 ≤ R.cells ∧ mj_ns a.2.2.2 - s0 ≤ R.slots) {ix ci ps : Nat} {nm : String} (hx : (mj_ci y, ix, nm, ps) ∈ mj_cL) (hci : ci < 10) (hnm : nm = mj_own ci) (hd : decode (mj_bb y) pc = .ok (.new ix, 3)) (h : mj_new ci (pc + 3) L S Z = some (.inl a)) : mj_G z0 cst p l e R s m args below meth c Q n0 s0 Z S pc H locs ls := by
  obtain ⟨xZ, xL, xS, xW, xV, xl, xN, xM⟩ := X
  subst hnm
  have hlink := C.2.2.2.2.1 _ (mj_in (mj_cL_ok _ hx) rfl)
  obtain ⟨i1, i2⟩ := mj_ins ci hci
  obtain ⟨k1, k2⟩ := mj_k0_ok ci hci
  unfold mj_new at h
  obtain rfl := mj_go_a h
  have e1 : mj_nc (Z.1 ++ [(0, ci, mj_k0 ci)], mj_zr Z.2.1 Z.1.length 0, mj_zr Z.2.2 Z.1.length 0) = mj_nc Z + 1 := by simp [mj_nc]
  have e2 : mj_ns (Z.1 ++ [(0, ci, mj_k0 ci)], mj_zr Z.2.1 Z.1.length 0, mj_zr Z.2.2 Z.1.length 0) = mj_ns Z + mj_NN ci := by
    show mj_sm (_ ++ _) = _
    rw [mj_sm_app]
    show mj_sm Z.1 + ((mj_k0 ci).length + 0) = _
    rw [k1]
    rfl
  dsimp only at hrm
  rw [e1, e2] at hrm
  refine va_new (ci := ci) (fs := (mj_k0 ci).mapIdx fun j k => mj_fv z0 (mj_zr Z.2.1 Z.1.length 0) (mj_zr Z.2.2 Z.1.length 0) Z.1.length j k) C.1 C.2.1 C.2.2.2.2.1 (mj_uin hci) (mj_tT ci) (mj_tT_ok ci hci) C.2.2.2.1 hlink (C.2.2.2.2.1 _ (mj_in i1 rfl)) (C.2.2.2.2.1 _ (mj_in i2 rfl)) C.2.2.2.2.2.2.1 xW.2 mj_D xV (fun q hq => Nat.le_trans C.2.2.2.2.2.2.2.2.1 hq) (mj_cl_at hci) (fun j hj => ?_) (by omega) (by omega) hd (fun q H1 hP hD hS => ?_)
  · have h3 := k2 j hj
    unfold vp_V
    rw [List.getD_eq_getElem?_getD, List.getElem?_mapIdx]
    cases hk : (mj_k0 ci)[j]? with
    | none => rw [hk] at h3; cases h3
    | some k =>
      rw [hk] at h3
      have h4 : mj_kok (mj_tT ci j) k = true := h3
      simp only [Option.map_some, Option.getD_some]
      generalize mj_tT ci j = ty at h4
      unfold mj_kok at h4
      split at h4
      · simp only [mj_fv, mj_zr_new (Nat.le_refl _)]; rfl
      · simp only [mj_fv, mj_zr_new (Nat.le_refl _)]; rfl
      · simp only [mj_fv, mj_zr_new (Nat.le_refl _)]; rfl
      · rfl
      · rfl
      · cases h4
  · refine mj_szn C xN hP hD (fun hq => ?_)
    subst hq
    have e3 : mj_W z0 dA (Z.1 ++ [(0, ci, mj_k0 ci)], mj_zr Z.2.1 Z.1.length 0, mj_zr Z.2.2 Z.1.length 0) = mj_W z0 dA Z ++ [(z0 + Z.1.length, .inr (ci, (mj_k0 ci).mapIdx fun j k => mj_fv z0 (mj_zr Z.2.1 Z.1.length 0) (mj_zr Z.2.2 Z.1.length 0) Z.1.length j k))] := mj_W_app
    rw [← e3] at hP
    refine W.cs (cells' := mj_nc (Z.1 ++ [(0, ci, mj_k0 ci)], mj_zr Z.2.1 Z.1.length 0, mj_zr Z.2.2 Z.1.length 0) - n0) (slots' := mj_ns (Z.1 ++ [(0, ci, mj_k0 ci)], mj_zr Z.2.1 Z.1.length 0, mj_zr Z.2.2 Z.1.length 0) - s0) (by rw [e1]; omega) (by rw [e2]; omega) ?_
    exact mj_szd (Z := (Z.1 ++ [(0, ci, mj_k0 ci)], mj_zr Z.2.1 Z.1.length 0, mj_zr Z.2.2 Z.1.length 0)) C (by rw [e1]; omega) hP hS (fun hw => kk H1 locs ls hw hS xl)
theorem mj_s_nwi (C : mj_Cx K z0 cst dD dA y n0 p s m args meth c) (X : mj_St z0 cst dD dA y n0 s0 s Z L S H locs ls) (kk : mj_Nx z0 cst dD dA y p l e R s m args below meth c Q n0 s0 a) (hR : 1 ≤ R.frames ∧ 64 ≤ R.locals) (hrm : mj_nc a.2.2.2 - n0 ≤ R.cells ∧ mj_ns a.2.2.2 - s0 ≤ R.slots)  (hd : decode (mj_bb y) pc = .ok (.newarray .int, 2)) (h : mj_nwa 1 (pc + 2) L S Z = some (.inl a)) : mj_G z0 cst p l e R s m args below meth c Q n0 s0 Z S pc H locs ls := by
  obtain ⟨xZ, xL, xS, xW, xV, xl, xN, xM⟩ := X
  unfold mj_nwa at h
  split at h
  · rename_i n S
    rw [mj_okS_c] at xS
    split at h
    · rename_i hn
      obtain rfl := mj_go_a h
      have e1 : mj_nc (Z.1 ++ [(1, n.toNat, [])], mj_zr Z.2.1 Z.1.length 0, mj_zr Z.2.2 Z.1.length 0) = mj_nc Z + 1 := by simp [mj_nc]
      have e2 : mj_ns (Z.1 ++ [(1, n.toNat, [])], mj_zr Z.2.1 Z.1.length 0, mj_zr Z.2.2 Z.1.length 0) = mj_ns Z + n.toNat := by
        show mj_sm (_ ++ _) = _
        rw [mj_sm_app]
        rfl
      dsimp only at hrm
      rw [e1, e2] at hrm
      refine va_newa (atype := .int) (ty := .int) (N' := n.toNat) (a0 := (n.toNat, .inl fun j => Int32.ofInt (mj_zr Z.2.1 Z.1.length 0 Z.1.length j))) C.1 C.2.1 (C.2.2.2.2.1 _ mj_wob.2.2.1) rfl C.2.2.2.2.2.2.1 xW.2 mj_D xV (fun q hq => Nat.le_trans C.2.2.2.2.2.2.2.2.1 hq) (fun cA => ?_) (mj_nn xS.1 hn.1) (mj_clamp xS.1) (by show n.toNat * 4 ≤ _; omega) (by omega) (by omega) hd (fun q cA H1 hK hP hD hS => ?_)
      · rw [vp_cell_i]
        refine mj_arrV_congr (fun j _ => ?_)
        rw [mj_zr_new (Nat.le_refl _)]
        rfl
      · refine mj_szn C xN hP hD (fun hq => ?_)
        subst hq
        have hA1 := (hK.2 4 (cA, .int) rfl).2
        have hA2 := (hK.2 0 (dA 1, .int) rfl).2
        have hA : cA = dA 1 := Option.some.inj (hA1.symm.trans hA2)
        subst hA
        have e3 : mj_W z0 dA (Z.1 ++ [(1, n.toNat, [])], mj_zr Z.2.1 Z.1.length 0, mj_zr Z.2.2 Z.1.length 0) = mj_W z0 dA Z ++ [(z0 + Z.1.length, .inl (dA 1, n.toNat, .inl fun j => Int32.ofInt (mj_zr Z.2.1 Z.1.length 0 Z.1.length j)))] := mj_W_app
        rw [← e3] at hP
        refine W.cs (cells' := mj_nc (Z.1 ++ [(1, n.toNat, [])], mj_zr Z.2.1 Z.1.length 0, mj_zr Z.2.2 Z.1.length 0) - n0) (slots' := mj_ns (Z.1 ++ [(1, n.toNat, [])], mj_zr Z.2.1 Z.1.length 0, mj_zr Z.2.2 Z.1.length 0) - s0) (by rw [e1]; omega) (by rw [e2]; omega) ?_
        exact mj_szd (Z := (Z.1 ++ [(1, n.toNat, [])], mj_zr Z.2.1 Z.1.length 0, mj_zr Z.2.2 Z.1.length 0)) C (by rw [e1]; omega) hP hS (fun hw => kk H1 locs ls hw hS xl)
    · cases h
  · cases h
theorem mj_s_nwl (C : mj_Cx K z0 cst dD dA y n0 p s m args meth c) (X : mj_St z0 cst dD dA y n0 s0 s Z L S H locs ls) (kk : mj_Nx z0 cst dD dA y p l e R s m args below meth c Q n0 s0 a) (hR : 1 ≤ R.frames ∧ 64 ≤ R.locals) (hrm : mj_nc a.2.2.2 - n0 ≤ R.cells ∧ mj_ns a.2.2.2 - s0 ≤ R.slots)  (hd : decode (mj_bb y) pc = .ok (.newarray .long, 2)) (h : mj_nwa 2 (pc + 2) L S Z = some (.inl a)) : mj_G z0 cst p l e R s m args below meth c Q n0 s0 Z S pc H locs ls := by
  obtain ⟨xZ, xL, xS, xW, xV, xl, xN, xM⟩ := X
  unfold mj_nwa at h
  split at h
  · rename_i n S
    rw [mj_okS_c] at xS
    split at h
    · rename_i hn
      obtain rfl := mj_go_a h
      have e1 : mj_nc (Z.1 ++ [(2, n.toNat, [])], mj_zr Z.2.1 Z.1.length 0, mj_zr Z.2.2 Z.1.length 0) = mj_nc Z + 1 := by simp [mj_nc]
      have e2 : mj_ns (Z.1 ++ [(2, n.toNat, [])], mj_zr Z.2.1 Z.1.length 0, mj_zr Z.2.2 Z.1.length 0) = mj_ns Z + n.toNat := by
        show mj_sm (_ ++ _) = _
        rw [mj_sm_app]
        rfl
      dsimp only at hrm
      rw [e1, e2] at hrm
      refine va_newa (atype := .long) (ty := .long) (N' := n.toNat) (a0 := (n.toNat, .inr (.inl fun j => mj_zr Z.2.2 Z.1.length 0 Z.1.length j))) C.1 C.2.1 (C.2.2.2.2.1 _ mj_wob.2.2.2) rfl C.2.2.2.2.2.2.1 xW.2 mj_D xV (fun q hq => Nat.le_trans C.2.2.2.2.2.2.2.2.1 hq) (fun cA => ?_) (mj_nn xS.1 hn.1) (mj_clamp xS.1) (by show n.toNat * 8 ≤ _; omega) (by omega) (by omega) hd (fun q cA H1 hK hP hD hS => ?_)
      · rw [vp_cell_l]
        refine mj_arrV_congr (fun j _ => ?_)
        rw [mj_zr_new (Nat.le_refl _)]
        rfl
      · refine mj_szn C xN hP hD (fun hq => ?_)
        subst hq
        have hA1 := (hK.2 4 (cA, .long) rfl).2
        have hA2 := (hK.2 1 (dA 2, .long) rfl).2
        have hA : cA = dA 2 := Option.some.inj (hA1.symm.trans hA2)
        subst hA
        have e3 : mj_W z0 dA (Z.1 ++ [(2, n.toNat, [])], mj_zr Z.2.1 Z.1.length 0, mj_zr Z.2.2 Z.1.length 0) = mj_W z0 dA Z ++ [(z0 + Z.1.length, .inl (dA 2, n.toNat, .inr (.inl fun j => mj_zr Z.2.2 Z.1.length 0 Z.1.length j)))] := mj_W_app
        rw [← e3] at hP
        refine W.cs (cells' := mj_nc (Z.1 ++ [(2, n.toNat, [])], mj_zr Z.2.1 Z.1.length 0, mj_zr Z.2.2 Z.1.length 0) - n0) (slots' := mj_ns (Z.1 ++ [(2, n.toNat, [])], mj_zr Z.2.1 Z.1.length 0, mj_zr Z.2.2 Z.1.length 0) - s0) (by rw [e1]; omega) (by rw [e2]; omega) ?_
        exact mj_szd (Z := (Z.1 ++ [(2, n.toNat, [])], mj_zr Z.2.1 Z.1.length 0, mj_zr Z.2.2 Z.1.length 0)) C (by rw [e1]; omega) hP hS (fun hw => kk H1 locs ls hw hS xl)
    · cases h
  · cases h
theorem mj_s_nwr (C : mj_Cx K z0 cst dD dA y n0 p s m args meth c) (X : mj_St z0 cst dD dA y n0 s0 s Z L S H locs ls) (kk : mj_Nx z0 cst dD dA y p l e R s m args below meth c Q n0 s0 a) (hR : 1 ≤ R.frames ∧ 64 ≤ R.locals) (hrm : mj_nc a.2.2.2 - n0 ≤ R.cells ∧ mj_ns a.2.2.2 - s0 ≤ R.slots) {ix ps : Nat} (hx : (mj_ci y, ix, "PermitBank$Tape", ps) ∈ mj_cL) (hd : decode (mj_bb y) pc = .ok (.anewarray ix, 3)) (h : mj_nwr (pc + 3) L S Z = some (.inl a)) : mj_G z0 cst p l e R s m args below meth c Q n0 s0 Z S pc H locs ls := by
  obtain ⟨xZ, xL, xS, xW, xV, xl, xN, xM⟩ := X
  have hlink := C.2.2.2.2.1 _ (mj_in (mj_cL_ok _ hx) rfl)
  unfold mj_nwr at h
  split at h
  · rename_i n S
    rw [mj_okS_c] at xS
    split at h
    · rename_i hn
      obtain rfl := mj_go_a h
      have e1 : mj_nc (Z.1 ++ [(4, n.toNat, List.replicate n.toNat (.inr none : mj_K))], mj_zr Z.2.1 Z.1.length 0, mj_zr Z.2.2 Z.1.length 0) = mj_nc Z + 1 := by simp [mj_nc]
      have e2 : mj_ns (Z.1 ++ [(4, n.toNat, List.replicate n.toNat (.inr none : mj_K))], mj_zr Z.2.1 Z.1.length 0, mj_zr Z.2.2 Z.1.length 0) = mj_ns Z + n.toNat := by
        show mj_sm (_ ++ _) = _
        rw [mj_sm_app]
        rfl
      dsimp only at hrm
      rw [e1, e2] at hrm
      refine va_newq (C := "PermitBank$Tape") (N' := n.toNat) C.1 C.2.1 C.2.2.2.1 hlink C.2.2.2.2.2.2.2.1.2.1 C.2.2.2.2.2.2.1 xW.2 mj_D xV (fun q hq => Nat.le_trans C.2.2.2.2.2.2.2.2.1 hq) (mj_nn xS.1 hn.1) (mj_clamp xS.1) (by omega) (by omega) (by omega) hd (fun q cA H1 hK hP hD hS => ?_)
      refine mj_szn C xN hP hD (fun hq => ?_)
      subst hq
      obtain ⟨_, _, _, _, _, hA1⟩ := (hK.2 4 (cA, .object "PermitBank$Tape") rfl).2
      obtain ⟨_, _, _, _, _, hA2⟩ := (hK.2 3 (dA 4, .object "PermitBank$Tape") rfl).2
      have hA : cA = dA 4 := Option.some.inj (hA1.symm.trans hA2)
      subst hA
      have e4 : (fun j => mj_rf z0 (List.replicate n.toNat (.inr none)) j) = fun _ => none := by
        funext j
        unfold mj_rf
        rw [List.getElem?_replicate]
        split
        · rename_i h9
          split at h9
          · cases h9
          · cases h9
        · rfl
      have e3 : mj_W z0 dA (Z.1 ++ [(4, n.toNat, List.replicate n.toNat (.inr none : mj_K))], mj_zr Z.2.1 Z.1.length 0, mj_zr Z.2.2 Z.1.length 0) = mj_W z0 dA Z ++ [(z0 + Z.1.length, .inl (dA 4, n.toNat, .inr (.inr (.inr (.inr fun j => mj_rf z0 (List.replicate n.toNat (.inr none)) j)))))] := mj_W_app
      rw [e4] at e3
      rw [← e3] at hP
      refine W.cs (cells' := mj_nc (Z.1 ++ [(4, n.toNat, List.replicate n.toNat (.inr none : mj_K))], mj_zr Z.2.1 Z.1.length 0, mj_zr Z.2.2 Z.1.length 0) - n0) (slots' := mj_ns (Z.1 ++ [(4, n.toNat, List.replicate n.toNat (.inr none : mj_K))], mj_zr Z.2.1 Z.1.length 0, mj_zr Z.2.2 Z.1.length 0) - s0) (by rw [e1]; omega) (by rw [e2]; omega) ?_
      exact mj_szd (Z := (Z.1 ++ [(4, n.toNat, List.replicate n.toNat (.inr none : mj_K))], mj_zr Z.2.1 Z.1.length 0, mj_zr Z.2.2 Z.1.length 0)) C (by rw [e1]; omega) hP hS (fun hw => kk H1 locs ls hw hS xl)
    · cases h
  · cases h
theorem mj_s_nwm (C : mj_Cx K z0 cst dD dA y n0 p s m args meth c) (X : mj_St z0 cst dD dA y n0 s0 s Z L S H locs ls) (kk : mj_Nx z0 cst dD dA y p l e R s m args below meth c Q n0 s0 a) (hR : 1 ≤ R.frames ∧ 64 ≤ R.locals) (hrm : mj_nc a.2.2.2 - n0 ≤ R.cells ∧ mj_ns a.2.2.2 - s0 ≤ R.slots) {ix ps : Nat} (hx : (mj_ci y, ix, "[[I", ps) ∈ mj_cL) (hd : decode (mj_bb y) pc = .ok (.multianewarray ix 2, 4)) (h : mj_nwm (pc + 4) L S Z = some (.inl a)) : mj_G z0 cst p l e R s m args below meth c Q n0 s0 Z S pc H locs ls := by
  obtain ⟨xZ, xL, xS, xW, xV, xl, xN, xM⟩ := X
  have hlink := C.2.2.2.2.1 _ (mj_in (mj_cL_ok _ hx) rfl)
  unfold mj_nwm at h
  split at h
  · rename_i k n S
    rw [mj_okS_c, mj_okS_c] at xS
    split at h
    · rename_i hn
      obtain rfl := mj_go_a h
      have e1 : mj_nc (Z.1 ++ (3, n.toNat, (List.range n.toNat).map (fun i => .inr (some (Z.1.length + 1 + i)))) :: List.replicate n.toNat (1, k.toNat, []), mj_zr Z.2.1 Z.1.length 0, mj_zr Z.2.2 Z.1.length 0) = mj_nc Z + (1 + n.toNat) := by simp [mj_nc]; omega
      have e2 : mj_ns (Z.1 ++ (3, n.toNat, (List.range n.toNat).map (fun i => .inr (some (Z.1.length + 1 + i)))) :: List.replicate n.toNat (1, k.toNat, []), mj_zr Z.2.1 Z.1.length 0, mj_zr Z.2.2 Z.1.length 0) = mj_ns Z + (n.toNat + n.toNat * k.toNat) := by
        show mj_sm (_ ++ _) = _
        rw [mj_sm_app, mj_sm, mj_sm_rep]
        rfl
      dsimp only at hrm
      rw [e1, e2] at hrm
      refine mm_row (N := n.toNat) (M := k.toNat) C.1 C.2.1 C.2.2.2.1 hlink C.2.2.2.2.2.2.2.1.2.2.1 (C.2.2.2.2.1 _ mj_wob.2.2.1) hd (mj_nn xS.2.1 hn.1) (mj_nn xS.1 hn.2.2.1) (mj_clamp xS.2.1) (mj_clamp xS.1) (by omega) (by omega) (by omega) (by omega) (fun H1 cA cB fA fB hold htop hrow hsz => ?_)
      have hA2 := (C.2.2.2.2.2.2.1.2 2 (dA 3, .array .int) rfl).2
      have hB2 := (C.2.2.2.2.2.2.1.2 0 (dA 1, .int) rfl).2
      have hA : cA = dA 3 := Option.some.inj (fA.symm.trans hA2)
      have hB : cB = dA 1 := Option.some.inj (fB.symm.trans hB2)
      subst hA
      subst hB
      have hH : H.size = z0 + Z.1.length := xW.1
      rw [hH] at htop hrow hold
      have hP : va_P dD mj_cl (mj_W z0 dA (Z.1 ++ (3, n.toNat, (List.range n.toNat).map (fun i => .inr (some (Z.1.length + 1 + i)))) :: List.replicate n.toNat (1, k.toNat, []), mj_zr Z.2.1 Z.1.length 0, mj_zr Z.2.2 Z.1.length 0)) H1 := by
        intro i q hq
        rw [mj_W_app] at hq
        by_cases hi : i < Z.1.length
        · rw [List.getElem?_append_left (by rw [mj_W_len]; exact hi)] at hq
          have h1 := xW.2 i q hq
          exact h1.kept (hold _ (by have := h1.lt; omega))
        · rw [List.getElem?_append_right (by rw [mj_W_len]; omega), mj_W_len, List.getElem?_mapIdx] at hq
          generalize hj : i - Z.1.length = j at hq
          cases j with
          | zero =>
            cases hq
            show H1[z0 + (Z.1.length + 0)]? = some (vp_cell (dA 3) (n.toNat, .inr (.inr (.inr (.inr fun j => mj_rf z0 _ j)))))
            rw [Nat.add_zero, htop, vp_cell_q]
            congr 1
            unfold mm_o
            apply mj_arrV_congr
            intro j hj
            rw [if_pos hj]
            unfold mj_rf
            rw [List.getElem?_map, List.getElem?_range hj]
            show Value.ref (z0 + Z.1.length + 1 + j) = Value.ref (z0 + (Z.1.length + 1 + j))
            rw [show z0 + Z.1.length + 1 + j = z0 + (Z.1.length + 1 + j) by omega]
          | succ j =>
            rw [List.getElem?_cons_succ, List.getElem?_replicate] at hq
            by_cases hj2 : j < n.toNat
            · rw [if_pos hj2] at hq
              cases hq
              show H1[z0 + (Z.1.length + (j + 1))]? = some (vp_cell (dA 1) (k.toNat, .inl fun j2 => Int32.ofInt (mj_zr Z.2.1 Z.1.length 0 (Z.1.length + (j + 1)) j2)))
              rw [show z0 + (Z.1.length + (j + 1)) = z0 + Z.1.length + 1 + j by omega, hrow j hj2, vp_cell_i]
              congr 1
              unfold mm_r
              congr 1
              funext j2
              rw [mj_zr_new (by omega)]
              rfl
            · rw [if_neg hj2] at hq
              cases hq
      have hS : va_S (mj_Ad z0) s.heap H1 locs := ⟨by have := xV.1; omega, fun q h1 h2 => (hold q (by have := xV.1; omega)).trans (xV.2.1 q h1 h2), xV.2.2⟩
      rw [hH]
      refine W.cs (cells' := mj_nc (Z.1 ++ (3, n.toNat, (List.range n.toNat).map (fun i => .inr (some (Z.1.length + 1 + i)))) :: List.replicate n.toNat (1, k.toNat, []), mj_zr Z.2.1 Z.1.length 0, mj_zr Z.2.2 Z.1.length 0) - n0) (slots' := mj_ns (Z.1 ++ (3, n.toNat, (List.range n.toNat).map (fun i => .inr (some (Z.1.length + 1 + i)))) :: List.replicate n.toNat (1, k.toNat, []), mj_zr Z.2.1 Z.1.length 0, mj_zr Z.2.2 Z.1.length 0) - s0) (by rw [e1]; omega) (by rw [e2]; omega) ?_
      exact kk H1 locs ls ⟨by show H1.size = z0 + mj_nc (Z.1 ++ (3, n.toNat, (List.range n.toNat).map (fun i => .inr (some (Z.1.length + 1 + i)))) :: List.replicate n.toNat (1, k.toNat, []), mj_zr Z.2.1 Z.1.length 0, mj_zr Z.2.2 Z.1.length 0); rw [e1, hsz, hH]; show _ = z0 + (Z.1.length + _); omega, hP⟩ hS xl
    · cases h
  · cases h
theorem mj_s_aast (C : mj_Cx K z0 cst dD dA y n0 p s m args meth c) (X : mj_St z0 cst dD dA y n0 s0 s Z L S H locs ls) (kk : mj_Nx z0 cst dD dA y p l e R s m args below meth c Q n0 s0 a) (hR : 1 ≤ R.frames ∧ 64 ≤ R.locals) (hrm : mj_nc a.2.2.2 - n0 ≤ R.cells ∧ mj_ns a.2.2.2 - s0 ≤ R.slots)  (hd : decode (mj_bb y) pc = .ok (.aastore, 1)) (h : mj_aast (pc + 1) L S Z = some (.inl a)) : mj_G z0 cst p l e R s m args below meth c Q n0 s0 Z S pc H locs ls := by
  obtain ⟨xZ, xL, xS, xW, xV, xl, xN, xM⟩ := X
  unfold mj_aast at h
  split at h
  · rename_i b i q S
    rw [mj_okS_c, mj_okS_c] at xS
    split at h
    · rename_i n ks ks2 g1 g2
      split at h
      · rename_i hi
        obtain rfl := mj_go_a h
        refine va_astq C.1 C.2.1 C.2.2.2.2.2.2.1 xW.2 mj_D xV q 3 b 7 (mj_W_get g1) rfl (mj_W_obj g2) (mj_cl_at (ci := 7) (by decide)) (mj_vin xS.2.1 ⟨hi.1, hi.2.1⟩) hd (fun H1 locs1 hP hD hS => ?_)
        have e1 : mj_nc (Z.1.set q (4, n, ks.set i.toNat (.inr (some b))), Z.2) = mj_nc Z := List.length_set
        have e2 : mj_ns (Z.1.set q (4, n, ks.set i.toNat (.inr (some b))), Z.2) = mj_ns Z := mj_sm_set _ _ _ _ g1 (by simp [mj_sz])
        have e3 : va_up (fun j => mj_rf z0 ks j) (Int32.ofInt i).toNatClampNeg (some (z0 + b)) = fun j => mj_rf z0 (ks.set i.toNat (.inr (some b))) j := by
          rw [mj_clamp xS.2.1]
          funext j
          unfold va_up mj_rf
          by_cases e : j = i.toNat
          · subst e
            rw [if_pos rfl, List.getElem?_set_self hi.2.2]
          · rw [if_neg e, List.getElem?_set_ne (fun q => e q.symm)]
        rw [e3, mj_W_set (z0 := z0) (dA := dA) (Z := Z) (e := .inl (dA 4, n, .inr (.inr (.inr (.inr fun j => mj_rf z0 (ks.set i.toNat (.inr (some b))) j))))) (Z' := (Z.1.set q (4, n, ks.set i.toNat (.inr (some b))), Z.2)) (sh := (4, n, ks.set i.toNat (.inr (some b)))) List.length_set (List.getElem?_set_self (List.getElem?_eq_some_iff.mp g1).1) rfl (fun i2 hi2 sh hsh => ⟨by rw [List.getElem?_set_ne (fun q => hi2 q.symm)]; exact hsh, rfl⟩)] at hP
        refine W.cs (cells' := mj_nc (Z.1.set q (4, n, ks.set i.toNat (.inr (some b))), Z.2) - n0) (slots' := mj_ns (Z.1.set q (4, n, ks.set i.toNat (.inr (some b))), Z.2) - s0) (by rw [e1]) (by rw [e2]) ?_
        exact mj_szd (Z := (Z.1.set q (4, n, ks.set i.toNat (.inr (some b))), Z.2)) C (by rw [e1]; exact xN) hP hS (fun hw => kk H1 locs1 ls hw hS xl)
      · cases h
    · cases h
  · cases h
end Steps
end
section
-- calls: what the tables say of them; then the machine does what the mini machine does
def mj_eP : List Nat := [0, 484, 502, 546, 498, 0, 0, 494, 514, 6, 7, 0, 476, 573, 597, 565, 606, 631, 635, 643, 710, 5, 8, 9, 10, 11, 12, 13, 14, 15, 16, 18, 17, 0, 702, 698, 769, 0, 428, 463, 437, 453, 0, 2, 3, 1, 0, 394, 406, 372, 390, 402, 418, 735, 577, 569, 655, 674, 19, 0, 0, 0, 764, 0, 786, 755, 806, 794, 0, 368, 386, 398, 414, 424, 433, 467, 581, 586, 593, 601, 614, 618, 623, 627, 639, 651, 664, 685, 690, 706, 715, 722, 726, 731, 740, 744, 748, 760, 774, 778, 782, 790, 798, 802, 0, 0, 4, 20, 21, 22, 0, 0, 0, 41, 42, 0, 29, 35, 28, 27, 26, 25, 30, 24, 31, 32, 33, 34, 36, 40, 39, 38, 37, 23, 982, 989, 43, 997, 1009, 1013, 48, 45, 46, 47, 44, 49, 1017, 50, 1048, 1056, 1060, 1064, 51, 52, 1068, 1080, 1085, 1089, 1093, 53, 1097, 1105, 54, 55, 1109, 1126, 56, 57, 1131, 1139, 0, 0, 1147, 1158, 1162, 1166, 1170, 1174, 0, 1178, 1185, 1189, 1193, 1197, 1201, 1205, 1209]
def mj_seP (m : Nat) : Prop := mj_st m = false → (mj_yy m).name ≠ "<init>" → lw_tbl[mj_eP.getD m 0]? = some (Cond.selects (mj_own (mj_ci m)) (mj_yy m) (mj_yy m))
theorem mj_seO0 : ∀ k, k < 24 → mj_seP (0 + k) := by unfold mj_seP; decide +kernel
theorem mj_seO1 : ∀ k, k < 24 → mj_seP (24 + k) := by unfold mj_seP; decide +kernel
theorem mj_seO2 : ∀ k, k < 24 → mj_seP (48 + k) := by unfold mj_seP; decide +kernel
theorem mj_seO3 : ∀ k, k < 24 → mj_seP (72 + k) := by unfold mj_seP; decide +kernel
theorem mj_seO4 : ∀ k, k < 24 → mj_seP (96 + k) := by unfold mj_seP; decide +kernel
theorem mj_seO5 : ∀ k, k < 24 → mj_seP (120 + k) := by unfold mj_seP; decide +kernel
theorem mj_seO6 : ∀ k, k < 24 → mj_seP (144 + k) := by unfold mj_seP; decide +kernel
theorem mj_seO7 : ∀ k, k < 19 → mj_seP (168 + k) := by unfold mj_seP; decide +kernel
theorem mj_se_ok : ∀ m, m < 187 → mj_seP m := by
  intro m hm
  rcases Nat.lt_or_ge m 24 with h0 | h0
  · have := mj_seO0 (m - 0) (by omega)
    rwa [show 0 + (m - 0) = m by omega] at this
  rcases Nat.lt_or_ge m 48 with h1 | h1
  · have := mj_seO1 (m - 24) (by omega)
    rwa [show 24 + (m - 24) = m by omega] at this
  rcases Nat.lt_or_ge m 72 with h2 | h2
  · have := mj_seO2 (m - 48) (by omega)
    rwa [show 48 + (m - 48) = m by omega] at this
  rcases Nat.lt_or_ge m 96 with h3 | h3
  · have := mj_seO3 (m - 72) (by omega)
    rwa [show 72 + (m - 72) = m by omega] at this
  rcases Nat.lt_or_ge m 120 with h4 | h4
  · have := mj_seO4 (m - 96) (by omega)
    rwa [show 96 + (m - 96) = m by omega] at this
  rcases Nat.lt_or_ge m 144 with h5 | h5
  · have := mj_seO5 (m - 120) (by omega)
    rwa [show 120 + (m - 120) = m by omega] at this
  rcases Nat.lt_or_ge m 168 with h6 | h6
  · have := mj_seO6 (m - 144) (by omega)
    rwa [show 144 + (m - 144) = m by omega] at this
  have := mj_seO7 (m - 168) (by omega)
  rwa [show 168 + (m - 168) = m by omega] at this
section Main
variable {K : mj_C} {z0 : Nat} {cst : Nat → Nat} {dD : va_G} {dA : Nat → ClassId} {y : Nat} {p : Program} {l : Launch} {e : Env} {R : Room} {s : State} {m : MethodId} {args : Array Value} {below : List Frame} {meth : Method} {c : Code} {Q : State → Prop} {n0 s0 : Nat}
variable {Z : mj_Z} {L : mj_L} {S : List mj_V} {H : Heap} {locs : List Loc} {ls : Array Slot} {pc : Nat} {a : Nat × mj_L × List mj_V × mj_Z}
theorem mj_kind_br {c0 t nx : Nat} {x y : Int} {act : mj_A} (h : mj_br c0 t nx x y L S Z = some act) : ∃ a, act = .inl a := by
  unfold mj_br mj_go at h
  split at h
  all_goals first | (split at h <;> (cases h; exact ⟨_, rfl⟩)) | cases h
theorem mj_kind_sw {x : Int} {d : Nat} {act : mj_A} : ∀ {tb : List (Int × Nat)}, mj_sw x d L S Z tb = some act → ∃ a, act = .inl a
  | [], h => by unfold mj_sw mj_go at h; cases h; exact ⟨_, rfl⟩
  | (k, t) :: r, h => by
    unfold mj_sw mj_go at h
    split at h
    · cases h; exact ⟨_, rfl⟩
    · exact mj_kind_sw h
set_option maxHeartbeats 4000000 in
theorem mj_kind {nx : Nat} {mi : mj_MI} {act : mj_A} (h : mj_step K nx mi L S Z = some act) : (∃ a, act = .inl a) ∨ (28 ≤ mi.1 ∧ mi.1 ≤ 32) := by
  obtain ⟨op, n, a, b, tb⟩ := mi
  unfold mj_step at h
  simp only at h
  split at h
  all_goals first
    | exact Or.inr ⟨Nat.le_of_ble_eq_true rfl, Nat.le_of_ble_eq_true rfl⟩
    | (cases h; done)
    | (left; unfold mj_if at h; split at h; exact mj_kind_br h; cases h)
    | (left; unfold mj_ic at h; split at h; exact mj_kind_br h; cases h)
    | (left; unfold mj_swi at h; split at h; exact mj_kind_sw h; cases h)
    | (left; simp only [mj_go, mj_o1, mj_o2, mj_o3, mj_o4, mj_o5, mj_o6, mj_o7, mj_bin, mj_dv, mj_neg, mj_and, mj_get, mj_put, mj_putF, mj_iald, mj_iast, mj_lald, mj_last, mj_aald, mj_aast, mj_alen, mj_mx, mj_acp, mj_new, mj_nwa, mj_nwr, mj_nwm, mj_dup, mj_dup2, mj_dupx, mj_pop, mj_i2, mj_l2, mj_lbin, mj_ldv, mj_lsh, mj_lcm, mj_oin] at h; (repeat' split at h) <;> first | (cases h; exact ⟨_, rfl⟩) | cases h)
end Main
end
section
-- one mini instruction, whichever it is
section One
variable {K : mj_C} {z0 : Nat} {cst : Nat → Nat} {dD : va_G} {dA : Nat → ClassId} {y : Nat} {p : Program} {l : Launch} {e : Env} {R : Room} {s : State} {m : MethodId} {args : Array Value} {below : List Frame} {meth : Method} {c : Code} {Q : State → Prop} {n0 s0 : Nat}
variable {Z : mj_Z} {L : mj_L} {S : List mj_V} {H : Heap} {locs : List Loc} {ls : Array Slot} {pc : Nat} {a : Nat × mj_L × List mj_V × mj_Z}
theorem mj_ln {k n len : Nat} (h : n = 0 ∨ len = n) (e : n = k + 1) : len = k + 1 := by
  rcases h with h | h
  · omega
  · omega
theorem mj_inv_no (m' k : Nat) (S : List mj_V) (Z : mj_Z) (a : Nat × mj_L × List mj_V × mj_Z) : ¬ mj_inv m' k S Z = some (.inl a) := by
  intro h
  unfold mj_inv at h
  split at h <;> cases h
theorem mj_rt0_no (S : List mj_V) (a : Nat × mj_L × List mj_V × mj_Z) : ¬ mj_rt0 S = some (.inl a) := by
  intro h
  unfold mj_rt0 at h
  split at h <;> cases h
theorem mj_rti_no (b : Nat) (S : List mj_V) (a : Nat × mj_L × List mj_V × mj_Z) : ¬ mj_rti b S = some (.inl a) := by
  intro h
  unfold mj_rti at h
  (repeat' split at h) <;> cases h
theorem mj_rtl_no (S : List mj_V) (a : Nat × mj_L × List mj_V × mj_Z) : ¬ mj_rtl S = some (.inl a) := by
  intro h
  unfold mj_rtl at h
  split at h <;> cases h
theorem mj_rta_no (S : List mj_V) (a : Nat × mj_L × List mj_V × mj_Z) : ¬ mj_rta S = some (.inl a) := by
  intro h
  unfold mj_rta at h
  split at h <;> cases h
set_option maxHeartbeats 8000000 in
theorem mj_one {mi : mj_MI} {nx : Nat} (C : mj_Cx K z0 cst dD dA y n0 p s m args meth c) (X : mj_St z0 cst dD dA y n0 s0 s Z L S H locs ls) (kk : mj_Nx z0 cst dD dA y p l e R s m args below meth c Q n0 s0 a) (hR : 1 ≤ R.frames ∧ 64 ≤ R.locals) (hrm : mj_nc a.2.2.2 - n0 ≤ R.cells ∧ mj_ns a.2.2.2 - s0 ≤ R.slots) (hy : y < 188) (hc : mj_cod y pc = some (mi, nx)) (h : mj_step K nx mi L S Z = some (.inl a)) : mj_G z0 cst p l e R s m args below meth c Q n0 s0 Z S pc H locs ls := by
  obtain ⟨i, len, hd, htr, rfl, hln⟩ := mj_cod_ok hy hc
  cases i
  case iload k =>
    obtain rfl := mj_ln (k := 1) hln rfl
    cases htr
    exact mj_s_iload C X kk hd h
  case iload_n k =>
    obtain rfl := mj_ln (k := 0) hln rfl
    cases htr
    exact mj_s_iload_n C X kk hd h
  case aload k =>
    obtain rfl := mj_ln (k := 1) hln rfl
    cases htr
    exact mj_s_aload C X kk hd h
  case aload_n k =>
    obtain rfl := mj_ln (k := 0) hln rfl
    cases htr
    exact mj_s_aload_n C X kk hd h
  case lload k =>
    obtain rfl := mj_ln (k := 1) hln rfl
    cases htr
    exact mj_s_lload C X kk hd h
  case lload_n k =>
    obtain rfl := mj_ln (k := 0) hln rfl
    cases htr
    exact mj_s_lload_n C X kk hd h
  case istore k =>
    obtain rfl := mj_ln (k := 1) hln rfl
    cases htr
    exact mj_s_istore C X kk hd h
  case istore_n k =>
    obtain rfl := mj_ln (k := 0) hln rfl
    cases htr
    exact mj_s_istore_n C X kk hd h
  case astore k =>
    obtain rfl := mj_ln (k := 1) hln rfl
    cases htr
    exact mj_s_astore C X kk hd h
  case astore_n k =>
    obtain rfl := mj_ln (k := 0) hln rfl
    cases htr
    exact mj_s_astore_n C X kk hd h
  case lstore k =>
    obtain rfl := mj_ln (k := 1) hln rfl
    cases htr
    exact mj_s_lstore C X kk hd h
  case lstore_n k =>
    obtain rfl := mj_ln (k := 0) hln rfl
    cases htr
    exact mj_s_lstore_n C X kk hd h
  case iinc k n =>
    obtain rfl := mj_ln (k := 2) hln rfl
    cases htr
    exact mj_s_iinc C X kk hd h
  case iadd =>
    obtain rfl := mj_ln (k := 0) hln rfl
    cases htr
    exact mj_s_iadd C X kk hd h
  case isub =>
    obtain rfl := mj_ln (k := 0) hln rfl
    cases htr
    exact mj_s_isub C X kk hd h
  case imul =>
    obtain rfl := mj_ln (k := 0) hln rfl
    cases htr
    exact mj_s_imul C X kk hd h
  case idiv =>
    obtain rfl := mj_ln (k := 0) hln rfl
    cases htr
    exact mj_s_idiv C X kk hd h
  case irem =>
    obtain rfl := mj_ln (k := 0) hln rfl
    cases htr
    exact mj_s_irem C X kk hd h
  case ineg =>
    obtain rfl := mj_ln (k := 0) hln rfl
    cases htr
    exact mj_s_ineg C X kk hd h
  case iand =>
    obtain rfl := mj_ln (k := 0) hln rfl
    cases htr
    exact mj_s_iand C X kk hd h
  case iaload =>
    obtain rfl := mj_ln (k := 0) hln rfl
    cases htr
    exact mj_s_iald C X kk hd h
  case iastore =>
    obtain rfl := mj_ln (k := 0) hln rfl
    cases htr
    exact mj_s_iast C X kk hd h
  case laload =>
    obtain rfl := mj_ln (k := 0) hln rfl
    cases htr
    exact mj_s_lald C X kk hd h
  case lastore =>
    obtain rfl := mj_ln (k := 0) hln rfl
    cases htr
    exact mj_s_last C X kk hd h
  case aaload =>
    obtain rfl := mj_ln (k := 0) hln rfl
    cases htr
    exact mj_s_aald C X kk hd h
  case aastore =>
    obtain rfl := mj_ln (k := 0) hln rfl
    cases htr
    exact mj_s_aast C X kk hR hrm hd h
  case arraylength =>
    obtain rfl := mj_ln (k := 0) hln rfl
    cases htr
    exact mj_s_alen C X kk hd h
  case dup =>
    obtain rfl := mj_ln (k := 0) hln rfl
    cases htr
    exact mj_s_dup C X kk hd h
  case dup2 =>
    obtain rfl := mj_ln (k := 0) hln rfl
    cases htr
    exact mj_s_dup2 C X kk hd h
  case dup_x1 =>
    obtain rfl := mj_ln (k := 0) hln rfl
    cases htr
    exact mj_s_dupx C X kk hd h
  case pop =>
    obtain rfl := mj_ln (k := 0) hln rfl
    cases htr
    exact mj_s_pop C X kk hd h
  case i2l =>
    obtain rfl := mj_ln (k := 0) hln rfl
    cases htr
    exact mj_s_i2l C X kk hd h
  case l2i =>
    obtain rfl := mj_ln (k := 0) hln rfl
    cases htr
    exact mj_s_l2i C X kk hd h
  case i2b =>
    obtain rfl := mj_ln (k := 0) hln rfl
    cases htr
    exact mj_s_i2b C X kk hd h
  case i2s =>
    obtain rfl := mj_ln (k := 0) hln rfl
    cases htr
    exact mj_s_i2s C X kk hd h
  case ladd =>
    obtain rfl := mj_ln (k := 0) hln rfl
    cases htr
    exact mj_s_ladd C X kk hd h
  case lsub =>
    obtain rfl := mj_ln (k := 0) hln rfl
    cases htr
    exact mj_s_lsub C X kk hd h
  case lmul =>
    obtain rfl := mj_ln (k := 0) hln rfl
    cases htr
    exact mj_s_lmul C X kk hd h
  case ldiv =>
    obtain rfl := mj_ln (k := 0) hln rfl
    cases htr
    exact mj_s_ldiv C X kk hd h
  case lrem =>
    obtain rfl := mj_ln (k := 0) hln rfl
    cases htr
    exact mj_s_lrem C X kk hd h
  case land =>
    obtain rfl := mj_ln (k := 0) hln rfl
    cases htr
    exact mj_s_land C X kk hd h
  case lor =>
    obtain rfl := mj_ln (k := 0) hln rfl
    cases htr
    exact mj_s_lor C X kk hd h
  case lshl =>
    obtain rfl := mj_ln (k := 0) hln rfl
    cases htr
    exact mj_s_lshl C X kk hd h
  case lcmp =>
    obtain rfl := mj_ln (k := 0) hln rfl
    cases htr
    exact mj_s_lcmp C X kk hd h
  case lconst k =>
    obtain rfl := mj_ln (k := 0) hln rfl
    cases htr
    exact mj_s_lconst C X kk hd h
  case iconst n =>
    obtain rfl := mj_ln (k := 0) hln rfl
    simp only [mj_tr] at htr
    split at htr
    · rename_i hn
      cases htr
      exact mj_s_iconst C X kk hn hd h
    · cases htr
  case bipush n =>
    obtain rfl := mj_ln (k := 1) hln rfl
    simp only [mj_tr] at htr
    split at htr
    · rename_i hn
      cases htr
      exact mj_s_bipush C X kk hn hd h
    · cases htr
  case sipush n =>
    obtain rfl := mj_ln (k := 2) hln rfl
    simp only [mj_tr] at htr
    split at htr
    · rename_i hn
      cases htr
      exact mj_s_sipush C X kk hn hd h
    · cases htr
  case ifCond c0 off =>
    obtain rfl := mj_ln (k := 2) hln rfl
    simp only [mj_tr] at htr
    split at htr
    · rename_i hn
      cases htr
      exact mj_s_ifc C X kk hn hd h
    · cases htr
  case if_icmp c0 off =>
    obtain rfl := mj_ln (k := 2) hln rfl
    simp only [mj_tr] at htr
    split at htr
    · rename_i hn
      cases htr
      exact mj_s_icmp C X kk hn hd h
    · cases htr
  case goto off =>
    obtain rfl := mj_ln (k := 2) hln rfl
    simp only [mj_tr] at htr
    split at htr
    · rename_i hn
      cases htr
      exact mj_s_goto C X kk hn hd h
    · cases htr
  case tableswitch d lo hi offs =>
    simp only [mj_tr] at htr
    split at htr
    · rename_i hn
      cases htr
      exact mj_s_tsw C X kk hn.1 hn.2.1 hn.2.2 hd h
    · cases htr
  case lookupswitch d ps =>
    simp only [mj_tr] at htr
    split at htr
    · rename_i hn
      cases htr
      exact mj_s_lsw C X kk hn.1 hn.2.1 hn.2.2 hd h
    · cases htr
  case getfield ix =>
    obtain rfl := mj_ln (k := 2) hln rfl
    simp only [mj_tr, Option.map_eq_some_iff] at htr
    obtain ⟨⟨o, ix', ci, j, ps⟩, hx, rfl⟩ := htr
    obtain ⟨h1, h2, h3⟩ := mj_fnd_ok hx
    simp only at h2 h3
    subst h2
    subst h3
    exact mj_s_getf C X kk h1 hd h
  case putfield ix =>
    obtain rfl := mj_ln (k := 2) hln rfl
    simp only [mj_tr, Option.bind_eq_some_iff] at htr
    obtain ⟨⟨o, ix', ci, j, ps⟩, hx, htr⟩ := htr
    obtain ⟨h1, h2, h3⟩ := mj_fnd_ok hx
    simp only at h2 h3 htr
    subst h2
    subst h3
    split at htr
    · rename_i hf
      split at htr
      · rename_i hi
        cases htr
        exact mj_s_putF C X kk h1 hf hi.2.1 hi.1 hi.2.2 hd h
      · cases htr
    · rename_i hf
      have hf2 : (mj_TT ci j).2.2.2 = false := by simpa using hf
      split at htr
      · rename_i ht
        cases htr
        exact mj_s_putf C X kk h1 hf2 (Or.inl ⟨rfl, ht⟩) hd h
      · split at htr
        · rename_i ht
          cases htr
          exact mj_s_putf C X kk h1 hf2 (Or.inr (Or.inl ⟨rfl, ht⟩)) hd h
        · split at htr
          · rename_i ht
            cases htr
            exact mj_s_putf C X kk h1 hf2 (Or.inr (Or.inr ⟨rfl, ht⟩)) hd h
          · cases htr
  case getstatic ix =>
    obtain rfl := mj_ln (k := 2) hln rfl
    simp only [mj_tr, Option.map_eq_some_iff] at htr
    obtain ⟨⟨o, ix', k, f, ps⟩, hx, rfl⟩ := htr
    obtain ⟨h1, h2, h3⟩ := mj_fnd_ok hx
    simp only at h2 h3
    subst h2
    subst h3
    exact mj_s_gets C X kk h1 hd h
  case ldc2_w ix =>
    obtain rfl := mj_ln (k := 2) hln rfl
    simp only [mj_tr, Option.map_eq_some_iff] at htr
    obtain ⟨⟨o, ix', n, ps⟩, hx, rfl⟩ := htr
    obtain ⟨h1, h2, h3⟩ := mj_fnd_ok hx
    simp only at h2 h3
    subst h2
    subst h3
    exact mj_s_ldc2 C X kk h1 hd h
  case new ix =>
    obtain rfl := mj_ln (k := 2) hln rfl
    simp only [mj_tr, Option.bind_eq_some_iff] at htr
    obtain ⟨⟨o, ix', nm, ps⟩, hx, htr⟩ := htr
    obtain ⟨h1, h2, h3⟩ := mj_fnd_ok hx
    simp only at h2 h3 htr
    subst h2
    subst h3
    split at htr
    · rename_i hi
      cases htr
      refine mj_s_new C X kk hR hrm h1 hi ?_ hd h
      unfold mj_own
      rw [List.getD_eq_getElem?_getD, List.getElem?_eq_getElem (by show _ < 11; omega)]
      exact (List.getElem_idxOf _).symm
    · cases htr
  case newarray t =>
    obtain rfl := mj_ln (k := 1) hln rfl
    cases t
    case int => cases htr; exact mj_s_nwi C X kk hR hrm hd h
    case long => cases htr; exact mj_s_nwl C X kk hR hrm hd h
    all_goals cases htr
  case anewarray ix =>
    obtain rfl := mj_ln (k := 2) hln rfl
    simp only [mj_tr, Option.bind_eq_some_iff] at htr
    obtain ⟨⟨o, ix', nm, ps⟩, hx, htr⟩ := htr
    obtain ⟨h1, h2, h3⟩ := mj_fnd_ok hx
    simp only at h2 h3 htr
    subst h2
    subst h3
    split at htr
    · rename_i hi
      subst hi
      cases htr
      exact mj_s_nwr C X kk hR hrm h1 hd h
    · cases htr
  case multianewarray ix dm =>
    obtain rfl := mj_ln (k := 3) hln rfl
    rcases dm with _ | _ | _ | dm
    · cases htr
    · cases htr
    · simp only [mj_tr, Option.bind_eq_some_iff] at htr
      obtain ⟨⟨o, ix', nm, ps⟩, hx, htr⟩ := htr
      obtain ⟨h1, h2, h3⟩ := mj_fnd_ok hx
      simp only at h2 h3 htr
      subst h2
      subst h3
      split at htr
      · rename_i hi
        subst hi
        cases htr
        exact mj_s_nwm C X kk hR hrm h1 hd h
      · cases htr
    · cases htr
  case invokestatic ix =>
    obtain rfl := mj_ln (k := 2) hln rfl
    simp only [mj_tr, mj_fm, Option.bind_eq_some_iff] at htr
    obtain ⟨⟨o, ix', t, f, ps⟩, hx, htr⟩ := htr
    obtain ⟨h1, h2, h3⟩ := mj_fnd_ok hx
    simp only at h2 h3 htr
    subst h2
    subst h3
    split at htr
    · split at htr
      · cases htr
        exact absurd h (mj_inv_no _ _ _ _ _)
      · cases htr
    · split at htr
      · rename_i hf
        subst hf
        split at htr
        · rename_i ht
          subst ht
          cases htr
          exact mj_s_max C X kk hR hrm h1 hd h
        · split at htr
          · rename_i ht
            subst ht
            cases htr
            exact mj_s_min C X kk hR hrm h1 hd h
          · split at htr
            · rename_i ht
              subst ht
              cases htr
              exact mj_s_acp C X kk hR hrm h1 hd h
            · cases htr
      · cases htr
  case invokespecial ix =>
    obtain rfl := mj_ln (k := 2) hln rfl
    simp only [mj_tr, mj_fm, Option.bind_eq_some_iff] at htr
    obtain ⟨⟨o, ix', t, f, ps⟩, hx, htr⟩ := htr
    obtain ⟨h1, h2, h3⟩ := mj_fnd_ok hx
    simp only at h2 h3 htr
    subst h2
    subst h3
    split at htr
    · split at htr
      · cases htr
        exact absurd h (mj_inv_no _ _ _ _ _)
      · cases htr
    · split at htr
      · rename_i hf
        obtain ⟨rfl, rfl⟩ := hf
        cases htr
        exact mj_s_oin C X kk hR hrm h1 hd h
      · cases htr
  case invokevirtual ix =>
    obtain rfl := mj_ln (k := 2) hln rfl
    simp only [mj_tr, mj_fm, Option.bind_eq_some_iff] at htr
    obtain ⟨⟨o, ix', t, f, ps⟩, hx, htr⟩ := htr
    simp only at htr
    split at htr
    · cases htr
      exact absurd h (mj_inv_no _ _ _ _ _)
    · cases htr
  case return_ =>
    obtain rfl := mj_ln (k := 0) hln rfl
    simp only [mj_tr] at htr
    split at htr
    all_goals first | (cases htr; exact absurd h (mj_rt0_no _ _)) | cases htr
  case ireturn =>
    obtain rfl := mj_ln (k := 0) hln rfl
    simp only [mj_tr] at htr
    split at htr
    all_goals first | (cases htr; exact absurd h (mj_rti_no _ _ _)) | cases htr
  case lreturn =>
    obtain rfl := mj_ln (k := 0) hln rfl
    simp only [mj_tr] at htr
    split at htr
    all_goals first | (cases htr; exact absurd h (mj_rtl_no _ _)) | cases htr
  case areturn =>
    obtain rfl := mj_ln (k := 0) hln rfl
    simp only [mj_tr] at htr
    split at htr
    all_goals first | (cases htr; exact absurd h (mj_rta_no _ _)) | cases htr
  all_goals cases htr
end One
end
section
-- THE MACHINE DOES WHAT THE MINI MACHINE DOES
def mj_rI (z0 : Nat) (cst : Nat → Nat) (y : Nat) (r : Option mj_V) (ins : Instr) (st : List Value) : Prop := match r with
  | none => ins = .return_ ∧ st = [] ∧ mj_rt y = none
  | some (.inl x) => ins = .ireturn ∧ st = [.int (Int32.ofInt x)] ∧ (mj_rt y = some .int ∨ (mj_rt y = some .boolean ∧ (x = 0 ∨ x = 1)))
  | some (.inr (.inl x)) => ins = .lreturn ∧ st = [.long x] ∧ mj_rt y = some .long
  | some (.inr (.inr w)) => ins = .areturn ∧ st = [mj_rl z0 cst (.inr (.inr w))] ∧ ((∃ n, mj_rt y = some (.object n)) ∨ ∃ t, mj_rt y = some (.array t))
theorem mj_run_ok {K : mj_C} (hK : ∀ k j, mj_rg ((K k).2 j)) : ∀ (n d y pc : Nat) (L : mj_L) (S : List mj_V) (Z : mj_Z) (r : Option mj_V) (Zf : mj_Z), mj_run K n d y pc L S Z = some (r, Zf) → mj_okZ Z → mj_okL L → mj_okS S → mj_okZ Zf ∧ (∀ v, r = some v → mj_okV v) ∧ mj_nc Z ≤ mj_nc Zf ∧ mj_ns Z ≤ mj_ns Zf := by
  intro n
  induction n with
  | zero => intro d y pc L S Z r Zf h; simp [mj_run] at h
  | succ n ih =>
    intro d y pc L S Z r Zf h hZ hL hS
    rw [mj_run] at h
    cases hc : mj_cod y pc with
    | none => rw [hc] at h; simp at h
    | some q =>
      obtain ⟨mi, nx⟩ := q
      rw [hc] at h
      simp only at h
      have hmi : mi.1 = 0 → mj_rg mi.2.1 := by
        obtain ⟨i, len, -, htr, -⟩ := mj_cod_ok (mj_cod_lt hc) hc
        exact mj_tr_0 htr
      cases hs : mj_step K nx mi L S Z with
      | none => rw [hs] at h; simp at h
      | some act =>
        rw [hs] at h
        have hok := mj_step_ok hK hmi hs hZ hL hS
        rcases act with ⟨pc', L', S', Z'⟩ | r' | ⟨m', as, S'⟩
        · simp only at h
          obtain ⟨h1, h2, h3, h4, h5, -⟩ := hok
          obtain ⟨g1, g2, g3, g4⟩ := ih d y pc' L' S' Z' r Zf h h1 h2 h3
          exact ⟨g1, g2, Nat.le_trans h4 g3, Nat.le_trans h5 g4⟩
        · simp only [Option.some.injEq, Prod.mk.injEq] at h
          obtain ⟨rfl, rfl⟩ := h
          exact ⟨hZ, hok, Nat.le_refl _, Nat.le_refl _⟩
        · simp only at h
          obtain ⟨h1, h2⟩ := hok
          cases d with
          | zero => simp at h
          | succ d =>
            simp only at h
            split at h
            · cases hr : mj_run K n d m' 0 (mj_ent m' as) [] Z with
              | none => rw [hr] at h; simp at h
              | some x =>
                obtain ⟨r1, Z1⟩ := x
                rw [hr] at h
                simp only at h
                obtain ⟨g1, g2, g3, g4⟩ := ih d m' 0 _ _ Z r1 Z1 hr hZ (mj_okL_ent h1) mj_okS_nil
                obtain ⟨k1, k2, k3, k4⟩ := ih (d + 1) y nx L _ Z1 r Zf h g1 hL (by
                  intro v hv
                  rcases List.mem_append.mp hv with hv | hv
                  · cases r1 with
                    | none => cases hv
                    | some w =>
                      have : v = w := by simpa using hv
                      subst this
                      exact g2 v rfl
                  · exact h2 v hv)
                exact ⟨k1, k2, Nat.le_trans g3 k3, Nat.le_trans g4 k4⟩
            · cases h
def mj_Pc (K : mj_C) (z0 : Nat) (cst : Nat → Nat) (dD : va_G) (dA : Nat → ClassId) (as : List mj_V) (Z : mj_Z) : Array Value → State → Prop := fun v U =>
  v = (as.map (mj_rl z0 cst)).toArray ∧ mj_Wd z0 dD dA Z U.heap ∧ va_K dD mj_cl (mj_ty dA) U ∧ mj_CW K z0 cst U U.heap
def mj_Qc (z0 : Nat) (cst : Nat → Nat) (dD : va_G) (dA : Nat → ClassId) (r : Option mj_V) (Z : mj_Z) : Array Value → State → Outcome → State → Prop := fun _ st o t =>
  o = .returned (r.map (mj_rl z0 cst)) ∧ mj_Wd z0 dD dA Z t.heap ∧ va_F (mj_Ad z0) st t
theorem mj_blind {K : mj_C} {z0 : Nat} {cst : Nat → Nat} {dD : va_G} {dA : Nat → ClassId} {as : List mj_V} {Z : mj_Z} : FrameBlind (mj_Pc K z0 cst dD dA as Z) := by
  intro v U g mk h
  obtain ⟨h1, h2, h3, h4⟩ := h
  exact ⟨h1, h2, va_K.moved (u := U) (U := U.calling g mk v) (Vm.Alike.refl U.vm) h3, mj_CW.moved (s := U) (U := U.calling g mk v) (H := U.heap) (H1 := U.heap) (State.WarmedH.refl U) (fun _ _ _ => rfl) h4⟩
section Sim
variable {K : mj_C} {z0 : Nat} {cst : Nat → Nat} {dD : va_G} {dA : Nat → ClassId} {y : Nat} {p : Program} {l : Launch} {e : Env} {R : Room} {s : State} {m : MethodId} {args : Array Value} {below : List Frame} {meth : Method} {c : Code} {Q : State → Prop} {n0 s0 : Nat}
variable {Z : mj_Z} {L : mj_L} {S : List mj_V} {H : Heap} {locs : List Loc} {ls : Array Slot} {pc : Nat}
theorem mj_pre (C : mj_Cx K z0 cst dD dA y n0 p s m args meth c) (hW : mj_Wd z0 dD dA Z H) (hV : va_S (mj_Ad z0) s.heap H locs) (as : List mj_V) (U : State) (hU : U.heap = H) (hw : s.WarmedH U.vm) : mj_Pc K z0 cst dD dA as Z (as.map (mj_rl z0 cst)).toArray U := by
  refine ⟨rfl, by rw [hU]; exact hW, va_K.moved hw.alike C.2.2.2.2.2.2.1, ?_⟩
  rw [hU]
  exact mj_CW.moved hw (fun q h1 h2 => hV.2.1 q h1 h2) C.2.2.2.2.2.2.2.1
theorem mj_callq {r : Option mj_V} {Z' : mj_Z} {cells slots mc ms : Nat} {st0 rest : List Value} {av : Array Value} (hr : va_Run p l e R s m args below meth c H locs cells slots mc ms (F0 m pc ls st0) rest (mj_Qc z0 cst dD dA r Z' av) (mj_Ad z0)) (hS : va_S (mj_Ad z0) s.heap H locs)
    (kk : ∀ (H1 : Heap) (locs1 : List Loc), mj_Wd z0 dD dA Z' H1 → va_S (mj_Ad z0) s.heap H1 locs1 → W p l e R s m args below meth c H1 locs1 (cells + mc) (slots + ms) Q (F0 m (pc + 3) ls ((r.map (mj_rl z0 cst)).toList ++ rest))) : W p l e R s m args below meth c H locs cells slots Q (F0 m pc ls st0) := by
  intro T hT X
  obtain ⟨v, st₀, t, T', L1, h0, X', hL, e1, e2, ⟨hv, hw, hF⟩, st⟩ := hr T hT X
  cases hv
  obtain ⟨hz, hk⟩ := hF
  rw [h0] at hz hk
  obtain ⟨t2, a1, b1⟩ := kk T'.heap (locs ++ L1) (by rw [e1]; exact hw) ⟨Nat.le_trans hS.1 (by rw [e1]; exact hz), fun q h1 h2 => by rw [e1, hk q (Nat.lt_of_lt_of_le h1 hS.1) h2]; exact hS.2.1 q h1 h2, fun q hq => by
      rcases List.mem_append.mp hq with h | h
      · exact hS.2.2 q h
      · exact hL q h⟩ T' rfl X'
  exact ⟨t2, st t2 a1, b1⟩
theorem mj_goodgt : GoodIn mj_gt mj_gt := fun w h => ⟨h, good_of_word (mj_gt_good w h)⟩
theorem mj_goodws {m' : Nat} (hm : m' < 187) : GoodIn mj_gt (mj_ws m') := by
  have h := mj_cw_ok m' hm
  intro w hw
  rcases List.mem_cons.mp hw with rfl | hw
  · exact mj_goodgt _ (mj_in h rfl)
  · exact mj_goodgt w hw
theorem mj_goodin {m' : Nat} (hm : m' < 187) {ws : List Cond} (h : ∀ w ∈ ws, w ∈ mj_gt) : GoodIn mj_gt (ws ++ mj_ws m') := by
  intro w hw
  rcases List.mem_append.mp hw with h1 | h1
  · exact mj_goodgt w (h w h1)
  · exact mj_goodws hm w h1
def mj_MetAt (K : mj_C) (z0 : Nat) (cst : Nat → Nat) (dD : va_G) (dA : Nat → ClassId) (l : Launch) (d m' : Nat) (as : List mj_V) (Z : mj_Z) (r : Option mj_V) (Z' : mj_Z) : Prop :=
  Met l (mj_yy m') (mj_ws m') ({ frames := d + 1, cells := mj_nc Z' - mj_nc Z, slots := mj_ns Z' - mj_ns Z, locals := 64 * (d + 1) }) (mj_Pc K z0 cst dD dA as Z) (mj_Qc z0 cst dD dA r Z') (mj_nc Z' - mj_nc Z) (mj_ns Z' - mj_ns Z) (mj_Ad z0)
set_option maxHeartbeats 4000000 in
theorem mj_inv_call {d m' : Nat} {mi : mj_MI} {nx : Nat} {as S' : List mj_V} {r : Option mj_V} {Z' : mj_Z} (C : mj_Cx K z0 cst dD dA y n0 p s m args meth c) (X : mj_St z0 cst dD dA y n0 s0 s Z L S H locs ls) (hR : d + 1 + 1 ≤ R.frames ∧ 64 * (d + 1 + 1) ≤ R.locals) (hrm : mj_nc Z' - n0 ≤ R.cells ∧ mj_ns Z' - s0 ≤ R.slots) (h1 : mj_nc Z ≤ mj_nc Z') (h2 : mj_ns Z ≤ mj_ns Z') (hy : y < 188) (hc : mj_cod y pc = some (mi, nx)) (h32 : mi.1 = 32) (h : mj_step K nx mi L S Z = some (.inr (.inr (m', as, S')))) (hM : m' < 187 → mj_MetAt K z0 cst dD dA l d m' as Z r Z')
    (kk : ∀ (H1 : Heap) (locs1 : List Loc), mj_Wd z0 dD dA Z' H1 → va_S (mj_Ad z0) s.heap H1 locs1 → mj_G z0 cst p l e R s m args below meth c Q n0 s0 Z' (r.toList ++ S') nx H1 locs1 ls) : mj_G z0 cst p l e R s m args below meth c Q n0 s0 Z S pc H locs ls := by
  obtain ⟨i, len, hd, htr, rfl, hln⟩ := mj_cod_ok hy hc
  obtain ⟨op, n, a, b, tb⟩ := mi
  simp only at h32
  subst h32
  have h' : mj_inv a b S Z = some (.inr (.inr (m', as, S'))) := h
  unfold mj_inv at h'
  split at h'
  · rename_i hcond
    cases h'
    obtain ⟨c1, c2, c3⟩ := hcond
    obtain ⟨xZ, xL, xS, xW, xV, xl, xN, xM⟩ := X
    have hS : S = ((S.take (mj_nar m' b)).reverse).reverse ++ S.drop (mj_nar m' b) := by rw [List.reverse_reverse, List.take_append_drop]
    generalize hA : (S.take (mj_nar m' b)).reverse = as at hS hM c3
    generalize hD : S.drop (mj_nar m' b) = S' at hS c2 kk
    have hlen : as.length = mj_nar m' b := by rw [← hA, List.length_reverse, List.length_take]; omega
    have hrest : 2 * (F0 m pc ls (S'.map (mj_rl z0 cst))).monitorRoom + ((S'.map (mj_rl z0 cst)).map fun v => v.category).sum ≤ 8 := lv_room (by rw [mj_cat_sum]; exact c2)
    have hsz : ls.size = c.maxLocals := xl.2.1.trans C.2.2.1.symm
    have hcs : (mj_nc Z - n0) + (mj_nc Z' - mj_nc Z) = mj_nc Z' - n0 := by omega
    have hss : (mj_ns Z - s0) + (mj_ns Z' - mj_ns Z) = mj_ns Z' - s0 := by omega
    have hroom : (mj_nc Z - n0) + (mj_nc Z' - mj_nc Z) ≤ R.cells ∧ (mj_ns Z - s0) + (mj_ns Z' - mj_ns Z) ≤ R.slots := by rw [hcs, hss]; exact hrm
    have kk2 : ∀ (H1 : Heap) (locs1 : List Loc), mj_Wd z0 dD dA Z' H1 → va_S (mj_Ad z0) s.heap H1 locs1 → ∀ _ : len = 3, W p l e R s m args below meth c H1 locs1 ((mj_nc Z - n0) + (mj_nc Z' - mj_nc Z)) ((mj_ns Z - s0) + (mj_ns Z' - mj_ns Z)) Q (F0 m (pc + 3) ls ((r.map (mj_rl z0 cst)).toList ++ S'.map (mj_rl z0 cst))) := by
      intro H1 locs1 g1 g2 hl3
      subst hl3
      rw [hcs, hss]
      have := kk H1 locs1 g1 g2
      unfold mj_G at this
      rw [List.map_append] at this
      cases r with
      | none => exact this
      | some v => exact this
    cases i
    case invokevirtual ix =>
      obtain rfl := mj_ln (k := 2) hln rfl
      simp only [mj_tr, mj_fm, Option.bind_eq_some_iff] at htr
      obtain ⟨⟨o, ix', t, f, ps⟩, hx, htr⟩ := htr
      obtain ⟨q1, q2, q3⟩ := mj_fnd_ok hx
      simp only at q2 q3 htr
      subst q2
      subst q3
      split at htr
      · rename_i ht
        obtain ⟨t1, t2, t3, t4⟩ := ht
        cases htr
        subst t2
        have hlink := mj_in (mj_mL_ok _ q1).1 rfl
        obtain ⟨u1, u2, u3, u4, u5, u6⟩ := mj_mt_ok m' t1
        rw [t3] at u4
        have hsel := mj_inL (mj_se_ok m' t1 t3 t4) rfl
        have hini := mj_in (mj_ins _ u1).2 rfl
        have hsp : mj_sp m' = mj_yy m' := by
          unfold mj_sp
          rw [if_neg (by omega), if_neg (by omega), if_neg (by omega), if_neg (by omega)]
        simp only [if_pos] at hlink
        rw [hsp] at hlink
        unfold mj_rcv at c3
        rw [if_neg (by decide)] at c3
        split at c3
        · rename_i ba As
          split at c3
          · rename_i ci ks g1
            have hci : ci = mj_ci m' := by simpa using c3
            subst hci
            have hSt : S.map (mj_rl z0 cst) = (As.map (mj_rl z0 cst)).reverse ++ .ref (z0 + ba) :: S'.map (mj_rl z0 cst) := by
              rw [hS]
              simp [mj_rl]
            unfold mj_G
            refine mj_callq (rest := S'.map (mj_rl z0 cst)) (va_runV (As := As.map (mj_rl z0 cst)) (b := z0 + ba) (n := mj_np m') ⟨C.1, C.2.1, C.2.2.1, C.2.2.2.1, C.2.2.2.2.1⟩ (hM t1) (cwV (C := mj_own (mj_ci m')) (mj_np m') C.2.2.2.2.1 (mj_goodin t1 (fun w hw => ?_)) rfl rfl rfl ⟨rfl, u5.1, u5.2, u6⟩ ⟨hR.1, by have := hR.2; show 8 + (mj_ml m' + 11) + 64 * (d + 1) ≤ _; omega⟩) ⟨mj_blind, va_recv C.2.2.2.2.2.2.1 xW.2 (mj_cl_at u1) (mj_W_obj g1), fun U hU hw => mj_pre C xW xV _ U hU hw⟩ rfl ?_ (hsz.trans C.2.2.1) hSt hrest hd hroom) xV (fun H1 locs1 g1 g2 => kk2 H1 locs1 g1 g2 rfl)
            · simp only [List.mem_cons, List.not_mem_nil, or_false] at hw
              rcases hw with rfl | rfl | rfl | rfl
              · exact hlink
              · exact mj_in u4 rfl
              · exact hsel
              · exact hini
            · rw [List.length_map]
              have := hlen
              unfold mj_nar at this
              rw [if_neg (by decide)] at this
              simpa using this
          · cases c3
        · cases c3
      · cases htr
    case invokestatic ix =>
      obtain rfl := mj_ln (k := 2) hln rfl
      simp only [mj_tr, mj_fm, Option.bind_eq_some_iff] at htr
      obtain ⟨⟨o, ix', t, f, ps⟩, hx, htr⟩ := htr
      obtain ⟨q1, q2, q3⟩ := mj_fnd_ok hx
      simp only at q2 q3 htr
      subst q2
      subst q3
      split at htr
      · rename_i t1
        split at htr
        · rename_i t3
          cases htr
          obtain ⟨u1, u2, u3, u4, u5, u6⟩ := mj_mt_ok m' t1
          rw [if_pos t3] at u4
          have hini := mj_in (mj_ins _ u1).2 rfl
          have hsp : mj_sp m' = mj_yy m' := by
            unfold mj_sp
            rw [if_neg (by omega), if_neg (by omega), if_neg (by omega), if_neg (by omega)]
          have hl := (mj_mL_ok _ q1).1
          simp only [hsp] at hl
          have hSt : S.map (mj_rl z0 cst) = (as.map (mj_rl z0 cst)).reverse ++ S'.map (mj_rl z0 cst) := by
            rw [hS]
            simp
          have hnn : (as.map (mj_rl z0 cst)).length = mj_np m' := by
            rw [List.length_map]
            have := hlen
            unfold mj_nar at this
            simpa using this
          have hRR : d + 1 + 1 ≤ R.frames ∧ 8 + (mj_ml m' + 11) + 64 * (d + 1) ≤ R.locals := ⟨hR.1, by have := hR.2; omega⟩
          unfold mj_G
          by_cases hf : f = 0
          · rw [if_pos hf] at hl
            refine mj_callq (rest := S'.map (mj_rl z0 cst)) (va_runS (As := as.map (mj_rl z0 cst)) (n := mj_np m') ⟨C.1, C.2.1, C.2.2.1, C.2.2.2.1, C.2.2.2.2.1⟩ (hM t1) (va_cwS (mj_np m') C.2.2.2.2.1 (mj_goodin t1 (fun w hw => ?_)) rfl rfl rfl ⟨u5.1, u5.2, u6⟩ hRR) ⟨mj_blind, fun U hU hw => mj_pre C xW xV _ U hU hw⟩ rfl hnn (hsz.trans C.2.2.1) hSt hrest hd hroom) xV (fun H1 locs1 g1 g2 => kk2 H1 locs1 g1 g2 rfl)
            simp only [List.mem_cons, List.not_mem_nil, or_false] at hw
            rcases hw with rfl | rfl | rfl
            · exact mj_in hl rfl
            · exact mj_in u4 rfl
            · exact hini
          · rw [if_neg hf] at hl
            refine mj_callq (rest := S'.map (mj_rl z0 cst)) (va_runSN (As := as.map (mj_rl z0 cst)) (n := mj_np m') ⟨C.1, C.2.1, C.2.2.1, C.2.2.2.1, C.2.2.2.2.1⟩ (hM t1) ⟨va_cnB (mj_np m') C.2.2.2.2.1 (mj_goodws t1) rfl rfl rfl (C.2.2.2.2.2.2.2.1.1 _ (List.mem_of_getElem? hl) rfl) (C.2.2.2.2.1 _ hini) ⟨u5.1, u5.2, u6⟩ hRR, C.2.2.2.2.1 _ (mj_in u4 rfl), trivial⟩ ⟨mj_blind, fun U hU hw => mj_pre C xW xV _ U hU hw⟩ rfl hnn (hsz.trans C.2.2.1) hSt hrest hd hroom) xV (fun H1 locs1 g1 g2 => kk2 H1 locs1 g1 g2 rfl)
        · cases htr
      · split at htr
        · split at htr
          · cases htr
          · split at htr
            · cases htr
            · split at htr
              · cases htr
              · cases htr
        · cases htr
    case invokespecial ix =>
      obtain rfl := mj_ln (k := 2) hln rfl
      simp only [mj_tr, mj_fm, Option.bind_eq_some_iff] at htr
      obtain ⟨⟨o, ix', t, f, ps⟩, hx, htr⟩ := htr
      obtain ⟨q1, q2, q3⟩ := mj_fnd_ok hx
      simp only at q2 q3 htr
      subst q2
      subst q3
      split at htr
      · rename_i t1
        split at htr
        · rename_i t3
          obtain ⟨t3, t4, t5⟩ := t3
          cases htr
          obtain ⟨u1, u2, u3, u4, u5, u6⟩ := mj_mt_ok m' t1
          rw [t3] at u4
          have hini := mj_in (mj_ins _ u1).2 rfl
          have hsp : mj_sp m' = mj_yy m' := by
            unfold mj_sp
            rw [if_neg (by omega), if_neg (by omega), if_neg (by omega), if_neg (by omega)]
          have hl := (mj_mL_ok _ q1).1
          simp only [hsp] at hl
          have hRR : d + 1 + 1 ≤ R.frames ∧ 8 + (mj_ml m' + 11) + 64 * (d + 1) ≤ R.locals := ⟨hR.1, by have := hR.2; omega⟩
          have hwse : mj_ws m' = Cond.code (mj_yy m') (mj_bb m') (mj_ml m') none :: mj_gt := by unfold mj_ws; rw [t5]
          unfold mj_rcv at c3
          rw [if_neg (by decide)] at c3
          split at c3
          · rename_i ba As
            have hSt : S.map (mj_rl z0 cst) = (As.map (mj_rl z0 cst)).reverse ++ .ref (z0 + ba) :: S'.map (mj_rl z0 cst) := by
              rw [hS]
              simp [mj_rl]
            have hnn : (As.map (mj_rl z0 cst)).length = mj_np m' := by
              rw [List.length_map]
              have := hlen
              unfold mj_nar at this
              rw [if_neg (by decide)] at this
              simpa using this
            unfold mj_G
            by_cases hf : f = 0
            · rw [if_pos hf] at hl
              exact mj_callq (rest := S'.map (mj_rl z0 cst)) (va_runI (As := As.map (mj_rl z0 cst)) (b := z0 + ba) (n := mj_np m') ⟨C.1, C.2.1, C.2.2.1, C.2.2.2.1, C.2.2.2.2.1⟩ (hM t1) (cwI (mj_np m') C.2.2.2.2.1 (mj_goodws t1) hwse rfl rfl (C.2.2.2.2.1 _ hini) (C.2.2.2.2.1 _ (mj_in hl rfl)) (C.2.2.2.2.1 _ (mj_in u4 rfl)) t4 ⟨u5.1, u5.2, u6⟩ hRR) ⟨mj_blind, fun U hU hw => mj_pre C xW xV _ U hU hw⟩ rfl hnn (hsz.trans C.2.2.1) hSt hrest hd hroom) xV (fun H1 locs1 g1 g2 => kk2 H1 locs1 g1 g2 rfl)
            · rw [if_neg hf] at hl
              exact mj_callq (rest := S'.map (mj_rl z0 cst)) (va_runIN (As := As.map (mj_rl z0 cst)) (b := z0 + ba) (n := mj_np m') ⟨C.1, C.2.1, C.2.2.1, C.2.2.2.1, C.2.2.2.2.1⟩ (hM t1) ⟨va_cnB (mj_np m') C.2.2.2.2.1 (mj_goodws t1) hwse rfl rfl (C.2.2.2.2.2.2.2.1.1 _ (List.mem_of_getElem? hl) rfl) (C.2.2.2.2.1 _ hini) ⟨u5.1, u5.2, u6⟩ hRR, t4, C.2.2.2.2.1 _ (mj_in u4 rfl)⟩ ⟨mj_blind, fun U hU hw => mj_pre C xW xV _ U hU hw⟩ rfl hnn (hsz.trans C.2.2.1) hSt hrest hd hroom) xV (fun H1 locs1 g1 g2 => kk2 H1 locs1 g1 g2 rfl)
          · cases c3
        · cases htr
      · split at htr
        · cases htr
        · cases htr
    case newarray t => cases t <;> cases htr
    case multianewarray ix dm =>
      rcases dm with _ | _ | _ | dm
      all_goals first
        | cases htr
        | (simp only [mj_tr, Option.bind_eq_some_iff] at htr; obtain ⟨x, -, htr⟩ := htr; (repeat' split at htr) <;> cases htr)
    all_goals first
      | cases htr
      | (simp only [mj_tr, mj_fm] at htr; (repeat' split at htr) <;> cases htr)
      | (simp only [mj_tr, Option.bind_eq_some_iff, Option.map_eq_some_iff] at htr; obtain ⟨x, -, htr⟩ := htr; (repeat' split at htr) <;> cases htr)
  · cases h'
end Sim
end
section
-- the run of a method, by induction on its steps; then the law's
theorem mj_inv_nr (m' k : Nat) (S : List mj_V) (Z : mj_Z) (r : Option mj_V) : ¬ mj_inv m' k S Z = some (.inr (.inl r)) := by
  intro h
  unfold mj_inv at h
  split at h <;> cases h
set_option maxHeartbeats 8000000 in
theorem mj_ret_is {K : mj_C} {z0 : Nat} {cst : Nat → Nat} {y pc nx : Nat} {mi : mj_MI} {L : mj_L} {S : List mj_V} {Z : mj_Z} {r : Option mj_V} (hy : y < 188) (hc : mj_cod y pc = some (mi, nx)) (h : mj_step K nx mi L S Z = some (.inr (.inl r))) : ∃ ins, decode (mj_bb y) pc = .ok (ins, 1) ∧ mj_rI z0 cst y r ins (S.map (mj_rl z0 cst)) := by
  obtain ⟨i, len, hd, htr, rfl, hln⟩ := mj_cod_ok hy hc
  rcases mj_kind h with ⟨a, ha⟩ | hk
  · cases ha
  cases i
  case return_ =>
    obtain rfl := mj_ln (k := 0) hln rfl
    simp only [mj_tr] at htr
    split at htr
    · rename_i hr
      cases htr
      have h' : mj_rt0 S = some (.inr (.inl r)) := h
      unfold mj_rt0 at h'
      split at h'
      · cases h'
        exact ⟨_, hd, rfl, rfl, hr⟩
      · cases h'
    · cases htr
  case ireturn =>
    obtain rfl := mj_ln (k := 0) hln rfl
    simp only [mj_tr] at htr
    split at htr
    · rename_i hr
      cases htr
      have h' : mj_rti 0 S = some (.inr (.inl r)) := h
      unfold mj_rti at h'
      split at h'
      · rw [if_pos rfl] at h'
        cases h'
        exact ⟨_, hd, rfl, rfl, Or.inl hr⟩
      · cases h'
    · rename_i hr
      cases htr
      have h' : mj_rti 1 S = some (.inr (.inl r)) := h
      unfold mj_rti at h'
      split at h'
      · rw [if_neg (by decide)] at h'
        split at h'
        · rename_i hx
          cases h'
          exact ⟨_, hd, rfl, rfl, Or.inr ⟨hr, hx⟩⟩
        · cases h'
      · cases h'
    · cases htr
  case lreturn =>
    obtain rfl := mj_ln (k := 0) hln rfl
    simp only [mj_tr] at htr
    split at htr
    · rename_i hr
      cases htr
      have h' : mj_rtl S = some (.inr (.inl r)) := h
      unfold mj_rtl at h'
      split at h'
      · cases h'
        exact ⟨_, hd, rfl, rfl, hr⟩
      · cases h'
    · cases htr
  case areturn =>
    obtain rfl := mj_ln (k := 0) hln rfl
    simp only [mj_tr] at htr
    split at htr
    · rename_i hr
      cases htr
      have h' : mj_rta S = some (.inr (.inl r)) := h
      unfold mj_rta at h'
      split at h'
      · cases h'
        exact ⟨_, hd, rfl, rfl, Or.inl ⟨_, hr⟩⟩
      · cases h'
    · rename_i hr
      cases htr
      have h' : mj_rta S = some (.inr (.inl r)) := h
      unfold mj_rta at h'
      split at h'
      · cases h'
        exact ⟨_, hd, rfl, rfl, Or.inr ⟨_, hr⟩⟩
      · cases h'
    · cases htr
  case newarray t =>
    exfalso
    cases t
    all_goals first
      | (cases htr; done)
      | (cases htr; simp at hk; done)
  case multianewarray ix dm =>
    exfalso
    rcases dm with _ | _ | _ | dm
    all_goals first
      | (cases htr; done)
      | (simp only [mj_tr, Option.bind_eq_some_iff] at htr; obtain ⟨x, -, htr⟩ := htr; (repeat' split at htr) <;> first | (cases htr; done) | (cases htr; simp at hk; done))
  all_goals exfalso
  all_goals first
    | (cases htr; done)
    | (cases htr; simp at hk; done)
    | (simp only [mj_tr] at htr; (repeat' split at htr) <;> first | (cases htr; done) | (cases htr; simp at hk; done))
    | (simp only [mj_tr, mj_fm, Option.bind_eq_some_iff, Option.map_eq_some_iff] at htr; obtain ⟨x, -, htr⟩ := htr; (repeat' split at htr) <;> first | (cases htr; done) | (cases htr; simp at hk; done) | (cases htr; exact absurd h (mj_inv_nr _ _ _ _ _)))
def mj_End (z0 : Nat) (cst : Nat → Nat) (dD : va_G) (dA : Nat → ClassId) (y : Nat) (p : Program) (l : Launch) (e : Env) (R : Room) (s : State) (m : MethodId) (args : Array Value) (below : List Frame) (meth : Method) (c : Code) (Q : State → Prop) (n0 s0 : Nat) (r : Option mj_V) (Zf : mj_Z) : Prop :=
  ∀ (H : Heap) (locs : List Loc) (pc : Nat) (ls : Array Slot) (ins : Instr) (st : List Value), mj_Wd z0 dD dA Zf H → va_S (mj_Ad z0) s.heap H locs → decode (mj_bb y) pc = .ok (ins, 1) → mj_rI z0 cst y r ins st → W p l e R s m args below meth c H locs (mj_nc Zf - n0) (mj_ns Zf - s0) Q (F0 m pc ls st)
def mj_Pn (K : mj_C) (z0 : Nat) (cst : Nat → Nat) (dD : va_G) (dA : Nat → ClassId) (l : Launch) (n : Nat) : Prop :=
  ∀ (d y pc : Nat) (L : mj_L) (S : List mj_V) (Z : mj_Z) (r : Option mj_V) (Zf : mj_Z), mj_run K n d y pc L S Z = some (r, Zf) →
    ∀ (p : Program) (e : Env) (R : Room) (s : State) (m : MethodId) (args : Array Value) (below : List Frame) (meth : Method) (c : Code) (Q : State → Prop) (n0 s0 : Nat) (H : Heap) (locs : List Loc) (ls : Array Slot),
      mj_Cx K z0 cst dD dA y n0 p s m args meth c → mj_St z0 cst dD dA y n0 s0 s Z L S H locs ls → (d + 1 ≤ R.frames ∧ 64 * (d + 1) ≤ R.locals) → (mj_nc Zf - n0 ≤ R.cells ∧ mj_ns Zf - s0 ≤ R.slots) → mj_End z0 cst dD dA y p l e R s m args below meth c Q n0 s0 r Zf → mj_G z0 cst p l e R s m args below meth c Q n0 s0 Z S pc H locs ls
theorem mj_met {K : mj_C} {z0 : Nat} {cst : Nat → Nat} {dD : va_G} {dA : Nat → ClassId} {l : Launch} {n d m' : Nat} {as : List mj_V} {Z Z' : mj_Z} {r : Option mj_V} (hP : mj_Pn K z0 cst dD dA l n) (hm : m' < 187) (hKr : ∀ k j, mj_rg ((K k).2 j)) (hZ : mj_okZ Z) (has : mj_okS as) (hlay : (mj_lay as).length ≤ mj_ml m') (h : mj_run K n d m' 0 (mj_ent m' as) [] Z = some (r, Z')) : mj_MetAt K z0 cst dD dA l d m' as Z r Z' := by
  obtain ⟨u1, u2, u3, u4, u5, u6⟩ := mj_mt_ok m' hm
  refine Met.ofW (cc := mj_bb m') (maxL := mj_ml m') (ret := mj_rt m') u3 rfl ?_
  intro p e s m args below meth c s₁ B hml hv
  obtain ⟨rfl, hWd, hK, hCW⟩ := hv
  have hts : ∀ w ∈ mj_gt, w.before (as.map (mj_rl z0 cst)).toArray s = true := fun w hw => atoms_spec (ws := mj_ws m') B.pre w (List.mem_cons_of_mem _ hw)
  have hr := B.returns
  have hlocks := B.notSynchronized
  rw [lg_entry_eq]
  have hls := mj_LH_ent (z0 := z0) (cst := cst) (m := m') hlay
  have hx := B.exec
  have hb := B.bytes
  refine W.cs (cells' := mj_nc Z - mj_nc Z) (slots' := mj_ns Z - mj_ns Z) (Nat.sub_self _).symm (Nat.sub_self _).symm ?_
  refine hP d m' 0 (mj_ent m' as) [] Z r Z' h p e _ s m (as.map (mj_rl z0 cst)).toArray below meth c _ (mj_nc Z) (mj_ns Z) s.heap [] _ ⟨hx, hb, hml, findClass_of_methodNamed B.named, hts, (fun h9 => (name_of_methodNamed B.named B.method).1.trans h9), hK, hCW, by rw [hWd.1]; exact Nat.le_add_right _ _, hKr, hWd.1⟩ ⟨hZ, mj_okL_ent has, mj_okS_nil, hWd, va_S.rf, hls, Nat.le_refl _, Nat.le_refl _⟩ ⟨Nat.le_refl _, Nat.le_refl _⟩ ⟨Nat.le_refl _, Nat.le_refl _⟩ ?_
  intro H locs pc ls ins st hW hV hd hI
  have hq : ∀ t : State, t.heap = H → s.WarmedH t.vm → mj_Qc z0 cst dD dA r Z' (as.map (mj_rl z0 cst)).toArray s (.returned (r.map (mj_rl z0 cst))) t := fun t ht _ => ⟨rfl, by rw [ht]; exact hW, hV.F ht⟩
  unfold mj_rI at hI
  split at hI
  · obtain ⟨rfl, rfl, i3⟩ := hI
    exact W.vret hx hb (hr.trans i3) hq hV.2.2 hd hlocks
  · rename_i x
    obtain ⟨rfl, rfl, i3⟩ := hI
    rcases i3 with i3 | ⟨i3, i4⟩
    · exact W.iret hx hb (hr.trans i3) hq hV.2.2 hd hlocks
    · exact W.zret (ty := .boolean) hx hb (hr.trans i3) (by rcases i4 with rfl | rfl <;> rfl) hq hV.2.2 hd hlocks
  · obtain ⟨rfl, rfl, i3⟩ := hI
    exact W.lret hx hb (hr.trans i3) hq hV.2.2 hd hlocks
  · rename_i w
    obtain ⟨rfl, rfl, i3⟩ := hI
    have hv2 : mj_rl z0 cst (.inr (.inr w)) = .null ∨ ∃ a, mj_rl z0 cst (.inr (.inr w)) = .ref a := by
      rcases w with w | w
      · exact Or.inr ⟨_, rfl⟩
      · exact Or.inr ⟨_, rfl⟩
    rcases i3 with ⟨q, i3⟩ | ⟨q, i3⟩
    · exact W.aret hx hb (hr.trans i3) (Or.inl ⟨q, rfl⟩) hv2 hq hV.2.2 hd hlocks
    · exact W.aret hx hb (hr.trans i3) (Or.inr ⟨q, rfl⟩) hv2 hq hV.2.2 hd hlocks
theorem mj_sim (K : mj_C) (z0 : Nat) (cst : Nat → Nat) (dD : va_G) (dA : Nat → ClassId) (l : Launch) (hKr : ∀ k j, mj_rg ((K k).2 j)) : ∀ n, mj_Pn K z0 cst dD dA l n := by
  intro n
  induction n with
  | zero => intro d y pc L S Z r Zf h; simp [mj_run] at h
  | succ n ih =>
    intro d y pc L S Z r Zf h p e R s m args below meth c Q n0 s0 H locs ls C X hR hrm hend
    have hXc := X
    obtain ⟨xZ, xL, xS, xW, xV, xl, xN, xM⟩ := X
    obtain ⟨-, -, hfc, hfs⟩ := mj_run_ok hKr _ _ _ _ _ _ _ _ _ h xZ xL xS
    rw [mj_run] at h
    cases hc : mj_cod y pc with
    | none => rw [hc] at h; simp at h
    | some q =>
      obtain ⟨mi, nx⟩ := q
      have hy := mj_cod_lt hc
      rw [hc] at h
      simp only at h
      have hmi : mi.1 = 0 → mj_rg mi.2.1 := by
        obtain ⟨i, len, -, htr, -⟩ := mj_cod_ok hy hc
        exact mj_tr_0 htr
      cases hs : mj_step K nx mi L S Z with
      | none => rw [hs] at h; simp at h
      | some act =>
        rw [hs] at h
        have hok := mj_step_ok hKr hmi hs xZ xL xS
        rcases act with ⟨pc', L', S', Z'⟩ | r' | ⟨m', as, S'⟩
        · simp only at h
          obtain ⟨h1, h2, h3, h4, h5, -⟩ := hok
          obtain ⟨-, -, g3, g4⟩ := mj_run_ok hKr _ _ _ _ _ _ _ _ _ h h1 h2 h3
          refine mj_one (a := (pc', L', S', Z')) C hXc ?_ ⟨by omega, by omega⟩ ⟨by show mj_nc Z' - n0 ≤ _; omega, by show mj_ns Z' - s0 ≤ _; omega⟩ hy hc hs
          intro H1 locs1 ls1 hW hV hl
          exact ih d y pc' L' S' Z' r Zf h p e R s m args below meth c Q n0 s0 H1 locs1 ls1 C ⟨h1, h2, h3, hW, hV, hl, Nat.le_trans xN h4, Nat.le_trans xM h5⟩ hR hrm hend
        · simp only [Option.some.injEq, Prod.mk.injEq] at h
          obtain ⟨rfl, rfl⟩ := h
          obtain ⟨ins, hd, hI⟩ := mj_ret_is (z0 := z0) (cst := cst) hy hc hs
          exact hend H locs pc ls ins _ xW xV hd hI
        · simp only at h
          obtain ⟨h1, h2⟩ := hok
          cases d with
          | zero => simp at h
          | succ d =>
            simp only at h
            split at h
            · rename_i hlay
              cases hr : mj_run K n d m' 0 (mj_ent m' as) [] Z with
              | none => rw [hr] at h; simp at h
              | some x =>
                obtain ⟨r1, Z1⟩ := x
                rw [hr] at h
                simp only at h
                obtain ⟨g1, g2, g3, g4⟩ := mj_run_ok hKr _ _ _ _ _ _ _ _ _ hr xZ (mj_okL_ent h1) mj_okS_nil
                have hS1 : mj_okS (r1.toList ++ S') := by
                  intro v hv
                  rcases List.mem_append.mp hv with hv | hv
                  · cases r1 with
                    | none => cases hv
                    | some w =>
                      have : v = w := by simpa using hv
                      subst this
                      exact g2 v rfl
                  · exact h2 v hv
                obtain ⟨-, -, k3, k4⟩ := mj_run_ok hKr _ _ _ _ _ _ _ _ _ h g1 xL hS1
                have h32 : mi.1 = 32 := by
                  rcases mj_kind hs with ⟨a, ha⟩ | hk
                  · cases ha
                  · obtain ⟨op, mr⟩ := mi
                    simp only at hk
                    have h5 : op = 28 ∨ op = 29 ∨ op = 30 ∨ op = 31 ∨ op = 32 := by omega
                    rcases h5 with rfl | rfl | rfl | rfl | rfl
                    · exfalso; have h' : mj_rt0 S = _ := hs; unfold mj_rt0 at h'; (repeat' split at h') <;> cases h'
                    · exfalso; have h' : mj_rti mr.2.2.1 S = _ := hs; unfold mj_rti at h'; (repeat' split at h') <;> cases h'
                    · exfalso; have h' : mj_rtl S = _ := hs; unfold mj_rtl at h'; (repeat' split at h') <;> cases h'
                    · exfalso; have h' : mj_rta S = _ := hs; unfold mj_rta at h'; (repeat' split at h') <;> cases h'
                    · rfl
                refine mj_inv_call (d := d) (r := r1) (Z' := Z1) C hXc ⟨by omega, by omega⟩ ⟨by omega, by omega⟩ g3 g4 hy hc h32 hs (fun hm => mj_met ih hm hKr xZ h1 hlay hr) ?_
                intro H1 locs1 hW hV
                exact ih (d + 1) y nx L _ Z1 r Zf h p e R s m args below meth c Q n0 s0 H1 locs1 ls C ⟨g1, xL, hS1, hW, hV, xl, Nat.le_trans xN g3, Nat.le_trans xM g4⟩ hR hrm hend
            · cases h
end
section
/-! THE CLAIM OUT OF ONE WALK OF THE LAW'S BODY. Your part is whole_start (and what it stands on); all else here is the same for every law, but numbers. -/
def R_law : String := "PermitBankLaw"
def lw_P (b : Addr) (xs : List Int32) (args : Array Value) (s : State) : Prop := args = #[.ref b] ∧ s.IntsAt b xs ∧ xs.length ≤ 3072 ∧ (Jvm.Cond.and given_1 narrow_1).before args s = true
def lw_Q (_ : Array Value) (s : State) (o : Outcome) (t : State) : Prop := o = .returned (some (.int 1)) ∧ Framed s o t [] 600000 7302250
def lw_Z (below : List Frame) (a : Array Value) (s : State) : State → Prop := fun t => ∃ o, t.status = .running ∧ Ended t below o ∧ lw_Q a s o t
/-- the law's own end, with 1 on the stack, nothing written that was there before, its room as the claim has it -/
theorem lw_ret {p : Program} {l : Launch} {e : Env} {s : State} {m : MethodId} {below : List Frame} {meth : Method} {c : Code} {b : Nat} (hx : p.tables.exec = Jvm.exec) (hb : c.code = code) (hr : meth.sig.returnType = ret) (hlocks : meth.locks = false) {pc : Nat} {H : Heap} {ls : Array Slot} (hdg : decode code pc = .ok (.ireturn, 1)) : W p l e room_1 s m #[Value.ref b] below meth c H [] 600000 7302250 (lw_Z below #[Value.ref b] s) (F0 m pc ls [.int 1]) := by
  intro T hT X
  obtain ⟨fs, hret, hrun, hended, hW, hframe⟩ := X.leave (v := some (.int 1)) (hlocks := hlocks) (fun h => by rw [hr] at h; cases h)
  have hmeth' : T.vm.method? m = some meth := X.method'
  refine ⟨T.setFrames fs, ?_, .returned (some (.int 1)), hrun, hended, rfl, ⟨_, rfl⟩, hW, hframe⟩
  jvm_step X.here [X.here.top, hx, hb, hdg, hmeth', hr, ret, narrow_b1]
  (try refine ⟨rfl, ?_⟩); (try refine ⟨rfl, ?_⟩)
  first | (intro acts; rw [hret _ acts rfl rfl rfl]) | rw [hret _ _ rfl rfl rfl]
  exact Steps.refl _
/-- what holds at the law's entry: the machine, the code, the tables' words (any of lw_tbl by 'hts w (by decide +kernel)'), the script of L ints xs at the cell b, what the Statement gives of the start (any of its parts by flat_of_before) -/
def lw_At (p : Program) (s : State) (m : MethodId) (meth : Method) (c : Code) (b L : Nat) (xs : Nat → Int32) : Prop :=
  p.tables.exec = Jvm.exec ∧ c.code = code ∧ meth.sig.returnType = ret ∧ c.maxLocals = 4 ∧ s.vm.findClass R_law = some m.cls ∧ (∀ w ∈ lw_tbl, w.before #[Value.ref b] s = true) ∧ va_X b L xs s s.heap ∧ b < s.heap.size ∧ meth.locks = false ∧ (Jvm.Cond.and given_1 narrow_1).before #[Value.ref b] s = true
-- from the start that the Statement allows to the mini machine's run of the law
def mj_Kc (L : Nat) (xs : Nat → Int32) : mj_C := fun k => match k with
  | 0 => (L, fun j => (xs j).toInt)
  | 1 => (4, fun j => if j = 2 then 1 else if j = 3 then 1 else 0)
  | 2 => (4, fun j => if j = 0 then 20 else if j = 1 then 40 else if j = 2 then 20 else 9)
  | _ => (4, fun j => if j = 3 then 5 else 20)
theorem mj_Kc_rg (L : Nat) (xs : Nat → Int32) : ∀ k j, mj_rg ((mj_Kc L xs k).2 j) := by
  intro k j
  match k with
  | 0 => exact mj_rg_i _
  | 1 => show mj_rg (if j = 2 then 1 else if j = 3 then 1 else 0); (repeat' split) <;> constructor <;> decide
  | 2 => show mj_rg (if j = 0 then 20 else if j = 1 then 40 else if j = 2 then 20 else 9); (repeat' split) <;> constructor <;> decide
  | k + 3 => show mj_rg (if j = 3 then 5 else 20); split <;> constructor <;> decide
theorem mj_stat {args : Array Value} {s : State} {n : String} {z0 : Nat} {f : Nat → Int} (hl : (Cond.laysStatic "PermitBank" n "[I").before args s = true) (hini : (Cond.initialized "PermitBank").before args s = true) (harr : (Cond.arrayOf (.static "PermitBank" n "[I") .int).before args s = true) (hlen : (Cond.eq (.length (.static "PermitBank" n "[I")) (.int 4)).before args s = true)
    (hel : ∀ j : Nat, j < 4 → (Cond.eq (.elem (.static "PermitBank" n "[I") (.int (Int32.ofNat j))) (.int (Int32.ofInt (f j)))).before args s = true) (hA : ∀ a : Nat, a < s.heap.size → ¬ z0 ≤ a) :
    ∃ t : Nat, va_T .int t 4 (fun j => .int (Int32.ofInt (f j))) (fun q => z0 ≤ q) s s.heap ∧ va_Z "PermitBank" n "[I" (.ref t) (fun q => z0 ≤ q) s s.heap := by
  obtain ⟨t, h1, h2⟩ := va_Tof (N := 4) (f := fun j => .int (Int32.ofInt (f j))) (A := fun q => z0 ≤ q) (by decide) harr (va_eqt hlen) (fun j hj => va_eqt (hel j hj)) hA
  exact ⟨t, h2, va_Zof hl hini h1 hA⟩
theorem mj_arrOf {args : Array Value} {s : State} {ty : FieldType} (h : (Cond.arrayClass ty).before args s = true) : ∃ cA : ClassId, ArrOfT s cA ty ∧ s.vm.findClass ("[" ++ ty.toString) = some cA := by
  obtain ⟨c, k, comp, h1, h2, h3⟩ := Cond.arrayClass_spec h
  exact ⟨c, fun n z => ⟨(fun q hq => by cases hq), k, h2, comp, h3⟩, h1⟩
set_option maxRecDepth 100000 in
set_option maxHeartbeats 4000000 in
theorem mj_begin {p : Program} {e : Env} {s : State} {m : MethodId} {below : List Frame} {meth : Method} {c : Code} (l : Launch) {b L : Nat} {xs : Nat → Int32} (C0 : lw_At p s m meth c b L xs)
    (hrun : ∃ d, d ≤ 1000 ∧ mj_X (mj_Kc L xs) d 187 [.inr (.inr (.inr 0))] ([], fun _ _ => 0, fun _ _ => 0) (fun r Z => r = some (.inl 1) ∧ mj_nc Z ≤ 600000 ∧ mj_ns Z ≤ 7302250)) :
    W p l e room_1 s m #[Value.ref b] below meth c s.heap [] 0 0 (lw_Z below #[Value.ref b] s) (entryFrame m ([Value.ref b] : List Value).toArray 4) := by
  obtain ⟨hx, hb, hr, hml, hown, hts, hX, hbl, hlocks, hgv⟩ := id C0
  have hs := flat_of_before _ hgv
  have hA : ∀ a : Nat, a < s.heap.size → ¬ s.heap.size ≤ a := fun a h => by omega
  have hini : (Cond.initialized "PermitBank").before #[Value.ref b] s = true := hts _ (List.mem_append_right _ (List.mem_of_getElem? (i := 1) (by decide +kernel)))
  obtain ⟨t1, hT1, hZ1⟩ := mj_stat (n := "LEAST") (f := (mj_Kc L xs 1).2) (hts _ (List.mem_append_right _ (List.mem_of_getElem? (i := 320) (by decide +kernel)))) hini (hs _ (by decide +kernel)) (hs _ (by decide +kernel)) (fun j hj => by
    match j, hj with
    | 0, _ => exact hs (Cond.eq (.elem (.static "PermitBank" "LEAST" "[I") (.int 0)) (.int 0)) (by decide +kernel)
    | 1, _ => exact hs (Cond.eq (.elem (.static "PermitBank" "LEAST" "[I") (.int 1)) (.int 0)) (by decide +kernel)
    | 2, _ => exact hs (Cond.eq (.elem (.static "PermitBank" "LEAST" "[I") (.int 2)) (.int 1)) (by decide +kernel)
    | 3, _ => exact hs (Cond.eq (.elem (.static "PermitBank" "LEAST" "[I") (.int 3)) (.int 1)) (by decide +kernel)) hA
  obtain ⟨t2, hT2, hZ2⟩ := mj_stat (n := "MOST") (f := (mj_Kc L xs 2).2) (hts _ (List.mem_append_right _ (List.mem_of_getElem? (i := 322) (by decide +kernel)))) hini (hs _ (by decide +kernel)) (hs _ (by decide +kernel)) (fun j hj => by
    match j, hj with
    | 0, _ => exact hs (Cond.eq (.elem (.static "PermitBank" "MOST" "[I") (.int 0)) (.int 20)) (by decide +kernel)
    | 1, _ => exact hs (Cond.eq (.elem (.static "PermitBank" "MOST" "[I") (.int 1)) (.int 40)) (by decide +kernel)
    | 2, _ => exact hs (Cond.eq (.elem (.static "PermitBank" "MOST" "[I") (.int 2)) (.int 20)) (by decide +kernel)
    | 3, _ => exact hs (Cond.eq (.elem (.static "PermitBank" "MOST" "[I") (.int 3)) (.int 9)) (by decide +kernel)) hA
  obtain ⟨t3, hT3, hZ3⟩ := mj_stat (n := "MOST_SETTING") (f := (mj_Kc L xs 3).2) (hts _ (List.mem_append_right _ (List.mem_of_getElem? (i := 363) (by decide +kernel)))) hini (hs _ (by decide +kernel)) (hs _ (by decide +kernel)) (fun j hj => by
    match j, hj with
    | 0, _ => exact hs (Cond.eq (.elem (.static "PermitBank" "MOST_SETTING" "[I") (.int 0)) (.int 20)) (by decide +kernel)
    | 1, _ => exact hs (Cond.eq (.elem (.static "PermitBank" "MOST_SETTING" "[I") (.int 1)) (.int 20)) (by decide +kernel)
    | 2, _ => exact hs (Cond.eq (.elem (.static "PermitBank" "MOST_SETTING" "[I") (.int 2)) (.int 20)) (by decide +kernel)
    | 3, _ => exact hs (Cond.eq (.elem (.static "PermitBank" "MOST_SETTING" "[I") (.int 3)) (.int 5)) (by decide +kernel)) hA
  -- classes
  have hgt : ∀ w ∈ mj_gt, w.before #[Value.ref b] s = true := fun w hw => hts w (List.mem_filter.mp hw).1
  have hcls : ∀ ci, ∃ q : ClassId × (Nat → Nat), ci < 10 → u_Kn s (mj_own ci) (mj_TT ci) (mj_NN ci) q.1 q.2 := by
    intro ci
    by_cases h : ci < 10
    · obtain ⟨cC, iS, h1⟩ := u_known (C := mj_own ci) (T := mj_TT ci) (N := mj_NN ci) hgt (mj_uin h) (hgt _ (mj_in (mj_ins ci h).1 rfl))
      exact ⟨(cC, iS), fun _ => h1⟩
    · exact ⟨(0, fun _ => 0), fun q => absurd q h⟩
  obtain ⟨fD, hfD⟩ := Classical.axiomOfChoice hcls
  obtain ⟨a1, ha1, hb1⟩ := mj_arrOf (hgt _ mj_wob.2.2.1)
  obtain ⟨a2, ha2, hb2⟩ := mj_arrOf (hgt _ mj_wob.2.2.2)
  have hAOI : mj_AOI s := hts (Cond.arrayOver (.array .int)) (List.mem_append_right _ (List.mem_of_getElem? (i := 133) (by decide +kernel)))
  have hAOT : va_AO "PermitBank$Tape" s := hts (Cond.arrayOver (.object "PermitBank$Tape")) (List.mem_append_right _ (List.mem_of_getElem? (i := 261) (by decide +kernel)))
  obtain ⟨comp3, a3, k3, g31, -, g33, g34, g35⟩ := arrayOverA_spec hAOI
  obtain ⟨comp4, a4, k4, g41, -, g43, g44, g45⟩ := Cond.arrayOver_spec hAOT
  obtain ⟨dA, hdA⟩ : ∃ dA : Nat → ClassId, dA 1 = a1 ∧ dA 2 = a2 ∧ dA 3 = a3 ∧ dA 4 = a4 := ⟨fun k => if k = 1 then a1 else if k = 2 then a2 else if k = 3 then a3 else a4, rfl, rfl, rfl, rfl⟩
  obtain ⟨d1, d2, d3, d4⟩ := hdA
  have hK : va_K (fun ci => (fD ci).1, fun ci => (fD ci).2) mj_cl (mj_ty dA) s := by
    refine ⟨fun ci q hq => ?_, fun k q hk => ?_⟩
    · obtain ⟨h1, rfl⟩ := mj_cl_of hq
      exact hfD ci h1
    · unfold mj_ty at hk
      match k, hk with
      | 0, hk => cases hk; rw [d1]; exact ⟨ha1, hb1⟩
      | 1, hk => cases hk; rw [d2]; exact ⟨ha2, hb2⟩
      | 2, hk => cases hk; rw [d3]; exact ⟨fun n z => ⟨(fun q hq => by cases hq), k3, g33, comp3, g34⟩, g35⟩
      | 3, hk => cases hk; rw [d4]; exact ⟨fun n z => ⟨(fun q hq => by cases hq), k4, g43, comp4, g44⟩, k4, comp4, g43, g44, g41, g45⟩
      | k + 4, hk => simp at hk
  have hXT : va_T .int b L (fun j => .int (Int32.ofInt ((mj_Kc L xs 0).2 j))) (fun q => s.heap.size ≤ q) s s.heap := by
    obtain ⟨scr, h1, h2, h3, h4, h5⟩ := hX
    refine ⟨scr, h1, h2, h3, by omega, by rw [h4], fun j hj => ?_, hA b hbl⟩
    rw [h5 j hj]
    show _ = some (Value.int (Int32.ofInt (xs j).toInt))
    rw [Int32.ofInt_toInt]
  have hCW : mj_CW (mj_Kc L xs) s.heap.size (fun k => if k = 0 then b else if k = 1 then t1 else if k = 2 then t2 else t3) s s.heap := by
    refine ⟨fun w hw hn => ?_, hAOT, hAOI, fun k hk => ?_, fun k h1 hk => ?_⟩
    · refine va_tabs ?_ rfl (hts w (List.mem_append_right _ hw))
      cases w <;> first | rfl | cases hn
    · match k, hk with
      | 0, _ => exact hXT
      | 1, _ => exact hT1
      | 2, _ => exact hT2
      | 3, _ => exact hT3
    · match k, hk, h1 with
      | 1, _, _ => exact hZ1
      | 2, _, _ => exact hZ2
      | 3, _, _ => exact hZ3
  obtain ⟨d, hd, n, r, Zf, hrn, rfl, hnc, hns⟩ := hrun
  have hlay : (mj_lay [.inr (.inr (.inr 0))]).length ≤ mj_ml 187 := by decide +kernel
  have key := mj_sim (mj_Kc L xs) s.heap.size (fun k => if k = 0 then b else if k = 1 then t1 else if k = 2 then t2 else t3) (fun ci => (fD ci).1, fun ci => (fD ci).2) dA l (mj_Kc_rg L xs) n d 187 0 (mj_ent 187 [.inr (.inr (.inr 0))]) [] ([], fun _ _ => 0, fun _ _ => 0) (some (.inl 1)) Zf hrn p e room_1 s m #[Value.ref b] below meth c (lw_Z below #[Value.ref b] s) 0 0 s.heap [] ((lg_sl ([.inr (.inr (.inr 0))].map (mj_rl s.heap.size (fun k => if k = 0 then b else if k = 1 then t1 else if k = 2 then t2 else t3))) ++ List.replicate (mj_ml 187 - (lg_sl ([.inr (.inr (.inr 0))].map (mj_rl s.heap.size (fun k => if k = 0 then b else if k = 1 then t1 else if k = 2 then t2 else t3)))).length) Slot.unset).toArray)
    ⟨hx, hb, hml, hown, hgt, fun h9 => absurd h9 (by decide +kernel), hK, hCW, Nat.le_refl _, mj_Kc_rg L xs, rfl⟩
    ⟨fun a j => mj_rg0, mj_okL_ent (fun v hv => by rw [List.mem_singleton.mp hv]; trivial), mj_okS_nil, ⟨rfl, fun k q h => by simp [mj_W] at h⟩, va_S.rf, mj_LH_ent hlay, Nat.zero_le _, Nat.zero_le _⟩
    ⟨by show d + 1 ≤ 2048; omega, by show 64 * (d + 1) ≤ 84000; omega⟩ ⟨by show _ - 0 ≤ 600000; omega, by show _ - 0 ≤ 7302250; omega⟩ ?_
  · rw [lg_entry_eq]
    exact key
  · intro H locs pc ls ins st hW hV hdc hI
    obtain ⟨rfl, rfl, -⟩ := hI
    refine W.widen (k := 600000) (n := 7302250) (by omega) (by omega) ?_
    refine va_forget hV.2.2 ?_
    exact lw_ret hx hb hr hlocks hdc
end
section
-- the law on the mini machine (what is left)
theorem mj_law (L : Nat) (xs : Nat → Int32) (hL : L ≤ 3072) : ∃ d, d ≤ 1000 ∧ mj_X (mj_Kc L xs) d 187 [.inr (.inr (.inr 0))] ([], fun _ _ => 0, fun _ _ => 0) (fun r Z => r = some (.inl 1) ∧ mj_nc Z ≤ 600000 ∧ mj_ns Z ≤ 7302250) := by
  sorry
end
section
theorem whole_start {p : Program} {e : Env} {s : State} {m : MethodId} {below : List Frame} {meth : Method} {c : Code} (l : Launch) (_ : l.flags = flags0) {b L : Nat} {xs : Nat → Int32} (hL : L ≤ 3072) (C0 : lw_At p s m meth c b L xs) : W p l e room_1 s m #[Value.ref b] below meth c s.heap [] 0 0 (lw_Z below #[Value.ref b] s) (entryFrame m ([Value.ref b] : List Value).toArray 4) := mj_begin l C0 (mj_law L xs hL)
set_option maxHeartbeats 4000000 in
theorem lw_walk (l : Launch) (hflags : l.flags = flags0) (b : Addr) (xs : List Int32) : MetFree l x (headSpec (Jvm.Cond.code x code maxLocals ret :: tables_1) room_1) (lw_P b xs) (fun _ _ _ _ _ => True) lw_Q := by
  refine MetFree.of_bodyS (code := code) (maxLocals := maxLocals) (ret := ret) (by decide) ?_ ?_
  · intro args s m h hn
    obtain ⟨meth, c, h1, h2, h3, h4, h5, h6, -, -⟩ := Cond.code_spec hn (atoms_spec (ws := Jvm.Cond.code x code maxLocals ret :: tables_1) h _ List.mem_cons_self)
    exact ⟨meth, c, h1, h2, h3, h4, h5, h6⟩
  · intro p e s m args below meth c s₁ B hml0 hP _
    obtain ⟨rfl, hx, hbd, hgv⟩ := hP
    obtain ⟨scr, harrAt, hlist, hof, hsmall⟩ := hx
    obtain ⟨hcb, hkn, -, -⟩ := State.arrayAt?_spec harrAt
    have hown : s.vm.findClass R_law = some m.cls := findClass_of_methodNamed B.named
    have hts0 : ∀ c ∈ (Jvm.Cond.code x code maxLocals ret :: tables_1), c.before #[Value.ref b] s = true := atoms_spec (ws := Jvm.Cond.code x code maxLocals ret :: tables_1) B.pre
    have hts : ∀ w ∈ lw_tbl, w.before #[Value.ref b] s = true := k2_hts_sels lw_privs (fun w hw => hts0 w (List.mem_cons_of_mem _ hw)) lw_privs_ok
    have hml : c.maxLocals = 4 := B.maxLocals_eq (hts0 _ List.mem_cons_self)
    have X₀ : Stand p l e room_1 s m #[Value.ref b] below meth c s₁ [] 0 0 := Stand.of_body B
    have hh0 : s₁.heap = s.heap := by rw [B.state]; rfl
    have hsz : scr.slots.size = xs.length := by rw [← Array.length_toList, hlist, List.length_map]
    have hval : ∀ j : Nat, j < xs.length → scr.slots[j]? = some (.int (xs.getD j 0)) := fun j hj => by
      rw [← Array.getElem?_toList, hlist]
      simp [hj]
    have hbl : b < s.heap.size := (Array.getElem?_eq_some_iff.mp hcb).1
    have hX : va_X b xs.length (fun j => xs.getD j 0) s s.heap := ⟨scr, hcb, hof, hkn, hsz, hval⟩
    have K : W p l e room_1 s m #[Value.ref b] below meth c s₁.heap [] 0 0 (lw_Z below #[Value.ref b] s) (entryFrame m ([Value.ref b] : List Value).toArray 4) := by
      rw [hh0]
      exact whole_start l hflags hbd ⟨B.exec, B.bytes, B.returns, hml, hown, hts, hX, hbl, B.notSynchronized, hgv⟩
    obtain ⟨t, a1, o, b1, b2, b3⟩ := K s₁ rfl X₀
    exact ⟨t, o, a1, b1, b2, b3⟩
theorem lw_pre_spec {args : Array Value} {s : State} (h : (Jvm.Cond.and given_1 narrow_1).before args s = true) (hr : rest_1_c.before args s = true) : ∃ (b : Addr) (xs : List Int32), lw_P b xs args s := by
  have hs := flat_of_before _ h
  have hq := flat_of_before _ hr
  have hc : (Cond.count 1).before args s = true := hs _ (by decide +kernel)
  have harr : (Cond.arrayOf (.arg 0) .int).before args s = true := hs _ (by decide +kernel)
  have hle : (Cond.le (.length (.arg 0)) (.int 3072)).before args s = true := hs _ (by decide +kernel)
  have hlen : (Cond.isInt (.length (.arg 0))).before args s = true := hq _ (by decide +kernel)
  have hall : (Cond.all (.arg 0) (.isInt (.elem (.arg 0) (.index 0)))).before args s = true := hq _ (by decide +kernel)
  obtain ⟨b, xs, hb, hx⟩ := State.ints_of_pre rfl harr hlen hall
  have hsm : xs.length < 2 ^ 31 := hx.choose_spec.2.2.2
  have hev : (Term.length (.arg 0)).eval args s none [] s = some (.int xs.length.toInt32) := hx.length_eval hb
  have hv := Cond.le_ints hev (show (Term.int 3072).eval args s none [] s = some (.int 3072) from rfl)
  have hd : xs.length.toInt32 ≤ 3072 := by
    simpa [Cond.before, Cond.holds, hv] using hle
  have hN : xs.length ≤ 3072 := (Int32.ofNat_le_ofNat hsm (by decide)).mp (show Int32.ofNat xs.length ≤ Int32.ofNat 3072 from hd)
  exact ⟨b, xs, Cond.one_arg hc (show args[0]? = some (.ref b) from hb), hx, hN, h⟩
theorem lw_comes (l : Launch) (hflags : l.flags = flags0) : Comes l x (Jvm.Cond.code x code maxLocals ret :: tables_1) room_1 (fun tb e args s => Calls_1 tb e args s ∧ rest_1 tb e args s ∧ Pre_1 tb e args s)
    (fun _ _ args s o t => lw_Q args s o t) := by
  intro p e ha hc hk s m args below hf hfit hheap happ hpre
  obtain ⟨b, xs, hP⟩ := lw_pre_spec hpre.2.2 hpre.2.1
  obtain ⟨k, o, h1, h2, h3, hQ⟩ := lw_walk l hflags b xs p e ha hc hk s m args below hf ((Spec.applies_iff_loose hf).mp happ).1 hP trivial
  exact ⟨k, o, h1, h2, h3, hQ⟩
theorem lw_frame {s t : State} {o : Outcome} {args : Array Value} (h : Framed s o t [] 600000 7302250) :
    Framed s o t (fieldLocs frame_1_writes args s ++ arrayLocs frame_1_arrays args s ++ staticLocs frame_1_statics s) 600000 7302250 := h
theorem lw_limb (L : Cond) (hL : ∀ (args : Array Value) (s t : State), L.after args s (.returned (some (.int 1))) t = true) :
    ArmFor flags0 classFile x code maxLocals ret World_1 tables_1 room_1 Calls_1 rest_1 Pre_1
      (fun tb e a s o t => postC L tb e a s o t ∧ Framed s o t (fieldLocs frame_1_writes a s ++ arrayLocs frame_1_arrays a s ++ staticLocs frame_1_statics s) 600000 7302250) := by
  intro l hflags _ _ p e ha hc hk s m args below hf hfit hheap happ hpre
  obtain ⟨k, o, h1, h2, h3, rfl, hF⟩ := lw_comes l hflags p e ha hc hk s m args below hf hfit hheap happ hpre
  exact ⟨k, _, h1, h2, h3, hL args s _, lw_frame hF⟩
theorem i_vc : Claimed_1_1 ∧ Claimed_1_2 := ⟨lw_limb limb_1_1 (fun args s t => by simp [limb_1_1, Cond.after, Cond.holds, Cond.value]), lw_limb limb_1_2 (fun args s t => Cond.after_iff.mpr (by
  first | (rw [show limb_1_2 = Cond.eq .result (.int 1) from rfl, Cond.eq_ints (x := 1) (y := 1) rfl rfl]; simp; done) | (simp [limb_1_2, Cond.value, Term.eval]; done)))⟩
end
